/-! Minors of a yard's matrix are no more than 21 to their size -/
section TuBound
def kd (a b : Nat) : Int := if a = b then 1 else 0
theorem kd_01 (a b : Nat) : kd a b = 0 ∨ kd a b = 1 := by unfold kd; split <;> omega
/-- rows with one more and one less: the whole is -1, 0 or 1 -/
theorem dt_tu : ∀ (k : Nat) (κ P Q : Nat → Nat) (_ : ∀ a b, a < k → b < k → κ a = κ b → a = b), -1 ≤ dt k (fun r c => kd (κ c) (P r) - kd (κ c) (Q r)) ∧ dt k (fun r c => kd (κ c) (P r) - kd (κ c) (Q r)) ≤ 1
  | 0, _, _, _, _ => by show -1 ≤ (1 : Int) ∧ (1 : Int) ≤ 1; omega
  | k + 1, κ, P, Q, hκ => by
    by_cases hrow : ∃ r, r < k + 1 ∧ ∃ c0, c0 < k + 1 ∧ ∀ c, c < k + 1 → c ≠ c0 → kd (κ c) (P r) - kd (κ c) (Q r) = 0
    · obtain ⟨r, hr, c0, hc0, hz⟩ := hrow
      obtain ⟨x, hx⟩ : ∃ x, x = kd (κ c0) (P r) - kd (κ c0) (Q r) := ⟨_, rfl⟩
      have h1 : dt (k + 1) (fun r c => kd (κ c) (P r) - kd (κ c) (Q r)) = x * (sg (r + c0) * dt k (fun a b => kd (κ (sk c0 b)) (P (sk r a)) - kd (κ (sk c0 b)) (Q (sk r a)))) := by
        rw [← dt_tr]
        have e1 : dt (k + 1) (fun c r => kd (κ c) (P r) - kd (κ c) (Q r)) = dt (k + 1) (cu (fun c r => kd (κ c) (P r) - kd (κ c) (Q r)) r (fun c => x * eu c0 c)) := dt_cong (fun c r1 hc hr1 => by
          unfold cu eu
          by_cases e : r1 = r
          · rw [if_pos e, e]; dsimp only
            by_cases e2 : c = c0
            · rw [if_pos e2, e2, hx, Int.mul_one]
            · rw [if_neg e2, hz c hc e2, Int.mul_zero]
          · rw [if_neg e])
        rw [e1, dt_smul _ _ _ hr, dt_cof _ hr hc0, ← dt_tr k (fun a b => kd (κ (sk c0 b)) (P (sk r a)) - kd (κ (sk c0 b)) (Q (sk r a)))]
      obtain ⟨ih1, ih2⟩ := dt_tu k (fun b => κ (sk c0 b)) (fun a => P (sk r a)) (fun a => Q (sk r a)) (fun a b ha hb h => sk_inj (hκ _ _ (sk_le ha) (sk_le hb) h))
      rw [h1]
      have hx1 : x = -1 ∨ x = 0 ∨ x = 1 := by
        rcases kd_01 (κ c0) (P r) with a | a <;> rcases kd_01 (κ c0) (Q r) with b | b <;> rw [hx, a, b] <;> omega
      rcases sg_one (r + c0) with e | e <;> rw [e] <;> rcases hx1 with h | h | h <;> rw [h] <;> omega
    · have hsum : ∀ r, r < k + 1 → gs (fun c => (kd (κ c) (P r) - kd (κ c) (Q r)) * 1) (k + 1) = (fun _ => (0 : Int)) r := fun r hr => by
        have hP : ∃ c, c < k + 1 ∧ κ c = P r := Classical.byContradiction fun hn => by
          have hkp : ∀ c, c < k + 1 → kd (κ c) (P r) = 0 := fun c hc => if_neg (fun h => hn ⟨c, hc, h⟩)
          by_cases hq : ∃ c, c < k + 1 ∧ κ c = Q r
          · obtain ⟨cq, h1, h2⟩ := hq
            exact hrow ⟨r, hr, cq, h1, fun c hc hne => by
              rw [hkp c hc, show kd (κ c) (Q r) = 0 from if_neg (fun h => hne (hκ c cq hc h1 (h.trans h2.symm)))]; rfl⟩
          · exact hrow ⟨r, hr, 0, by omega, fun c hc _ => by
              rw [hkp c hc, show kd (κ c) (Q r) = 0 from if_neg (fun h => hq ⟨c, hc, h⟩)]; rfl⟩
        obtain ⟨cp, hp1, hp2⟩ := hP
        have hQ : ∃ c, c < k + 1 ∧ κ c = Q r := Classical.byContradiction fun hn => by
          have hkq : ∀ c, c < k + 1 → kd (κ c) (Q r) = 0 := fun c hc => if_neg (fun h => hn ⟨c, hc, h⟩)
          exact hrow ⟨r, hr, cp, hp1, fun c hc hne => by
            rw [hkq c hc, show kd (κ c) (P r) = 0 from if_neg (fun h => hne (hκ c cp hc hp1 (h.trans hp2.symm)))]; rfl⟩
        obtain ⟨cq, hq1, hq2⟩ := hQ
        have e1 : ∀ (c0 : Nat) (X : Nat), c0 < k + 1 → κ c0 = X → gs (fun c => kd (κ c) X) (k + 1) = 1 := fun c0 X h1 h2 => by
          have e2 : gs (fun c => kd (κ c) X) (k + 1) = gs (fun c => if c = c0 then (fun _ => (1 : Int)) c else 0) (k + 1) := gs_cong (fun c hc => by
            unfold kd
            by_cases e : c = c0
            · rw [if_pos e, if_pos (by rw [e, h2])]
            · rw [if_neg e, if_neg (fun h => e (hκ c c0 hc h1 (h.trans h2.symm)))])
          rw [e2, gs_one (fun _ => (1 : Int)) h1]
        have e3 : gs (fun c => (kd (κ c) (P r) - kd (κ c) (Q r)) * 1) (k + 1) = gs (fun c => kd (κ c) (P r) - kd (κ c) (Q r)) (k + 1) := gs_cong (fun c _ => Int.mul_one _)
        rw [e3, gs_sub, e1 cp _ hp1 hp2, e1 cq _ hq1 hq2]; rfl
      have h2 := cr_sol (x := fun _ => (1 : Int)) hsum (i := 0) (by omega)
      have h3 : cr (k + 1) (fun r c => kd (κ c) (P r) - kd (κ c) (Q r)) (fun _ => (0 : Int)) 0 = 0 := dt_zcol _ (by omega)
      rw [h3, Int.mul_one] at h2
      omega
/-- a yard's matrix: what a topple of one place takes of another -/
def lap (n : Nat) (M : Nat → Nat → Int) (p q : Nat) : Int := if p = q then dg n M p else - M p q
theorem lap_edge {n : Nat} {M : Nat → Nat → Int} (h0 : ∀ i, M i i = 0) {p x : Nat} (hx1 : 1 ≤ x) (hx : x < n) : lap n M p x = gs (fun q => M p q * (kd x p - (if q = 0 then 0 else kd x q))) n := by
  have e1 : gs (fun q => M p q * (kd x p - (if q = 0 then 0 else kd x q))) n = gs (fun q => M p q * kd x p - (if q = x then M p q else 0)) n := gs_cong (fun q hq => by
    rw [Int.mul_sub]
    congr 1
    by_cases e : q = x
    · rw [if_pos e, if_neg (by omega), e, show kd x x = 1 from if_pos rfl, Int.mul_one]
    · rw [if_neg e]
      by_cases e2 : q = 0
      · rw [if_pos e2, Int.mul_zero]
      · rw [if_neg e2, show kd x q = 0 from if_neg (fun h => e h.symm), Int.mul_zero])
  rw [e1, gs_sub, gs_mulr, gs_one (fun q => M p q) hx]
  unfold lap
  by_cases e : p = x
  · rw [if_pos e, e, show kd x x = 1 from if_pos rfl, Int.mul_one, h0]; show gs (fun q => M x q) n = gs (fun q => M x q) n - 0; omega
  · rw [if_neg e, show kd x p = 0 from if_neg (fun h => e h.symm), Int.mul_zero]; omega
theorem gs_abs {f : Nat → Int} {x : Nat → Int} {C : Int} (hC : 0 ≤ C) : ∀ {n : Nat}, (∀ k, k < n → 0 ≤ x k) → (∀ k, k < n → -C ≤ f k ∧ f k ≤ C) → - (gs x n * C) ≤ gs (fun k => x k * f k) n ∧ gs (fun k => x k * f k) n ≤ gs x n * C
  | 0, _, _ => by rw [gs_z, gs_z, Int.zero_mul]; omega
  | n + 1, hx, hf => by
    have ih := gs_abs hC (n := n) (fun k hk => hx k (by omega)) (fun k hk => hf k (by omega))
    have h1 := hx n (by omega)
    have h2 := hf n (by omega)
    have h3 := Int.mul_le_mul_of_nonneg_left h2.2 h1
    have h4 := Int.mul_le_mul_of_nonneg_left h2.1 h1
    rw [gs_s, gs_s, Int.add_mul]
    rw [Int.mul_neg] at h4
    omega
theorem tub_gen {n : Nat} {M : Nat → Nat → Int} (hy : yok n M) {k : Nat} (κ ρ : Nat → Nat) (hκ : ∀ a b, a < k → b < k → κ a = κ b → a = b) (hκ1 : ∀ c, c < k → 1 ≤ κ c ∧ κ c < n) (hρ : ∀ r, r < k → ρ r < n) :
    ∀ (m i : Nat) (P Q : Nat → Nat), i + m = k → - (21 ^ m : Int) ≤ dt k (fun r c => if r < i then kd (κ c) (P r) - (if Q r = 0 then 0 else kd (κ c) (Q r)) else lap n M (ρ r) (κ c)) ∧ dt k (fun r c => if r < i then kd (κ c) (P r) - (if Q r = 0 then 0 else kd (κ c) (Q r)) else lap n M (ρ r) (κ c)) ≤ 21 ^ m
  | 0, i, P, Q, hi => by
    have e : dt k (fun r c => if r < i then kd (κ c) (P r) - (if Q r = 0 then 0 else kd (κ c) (Q r)) else lap n M (ρ r) (κ c)) = dt k (fun r c => kd (κ c) (P r) - kd (κ c) (if Q r = 0 then 0 else Q r)) := dt_cong (fun r c hr hc => by
      rw [if_pos (by omega)]
      by_cases e : Q r = 0
      · rw [if_pos e, if_pos e, show kd (κ c) 0 = 0 from if_neg (by have := hκ1 c hc; omega)]
      · rw [if_neg e, if_neg e])
    rw [e]
    have h := dt_tu k κ P (fun r => if Q r = 0 then 0 else Q r) hκ
    rw [Int.pow_zero]; exact h
  | m + 1, i, P, Q, hi => by
    have hik : i < k := by omega
    have h1 : dt k (fun r c => if r < i then kd (κ c) (P r) - (if Q r = 0 then 0 else kd (κ c) (Q r)) else lap n M (ρ r) (κ c)) = gs (fun q => M (ρ i) q * dt k (fun r c => if r < i + 1 then kd (κ c) (ub P i (ρ i) r) - (if ub Q i q r = 0 then 0 else kd (κ c) (ub Q i q r)) else lap n M (ρ r) (κ c))) n := by
      rw [← dt_tr]
      have e1 : dt k (fun c r => if r < i then kd (κ c) (P r) - (if Q r = 0 then 0 else kd (κ c) (Q r)) else lap n M (ρ r) (κ c)) = dt k (cu (fun c r => if r < i then kd (κ c) (P r) - (if Q r = 0 then 0 else kd (κ c) (Q r)) else lap n M (ρ r) (κ c)) i (fun c => gs (fun q => M (ρ i) q * (kd (κ c) (ρ i) - (if q = 0 then 0 else kd (κ c) q))) n)) := dt_cong (fun c r hc hr => by
        unfold cu
        by_cases e : r = i
        · rw [if_pos e, e, if_neg (Nat.lt_irrefl i), lap_edge hy.2.2.2.2.1 (hκ1 c hc).1 (hκ1 c hc).2]
        · rw [if_neg e])
      rw [e1, dt_sum _ (fun q => M (ρ i) q) (fun q c => kd (κ c) (ρ i) - (if q = 0 then 0 else kd (κ c) q)) hik n]
      exact gs_cong (fun q _ => by
        congr 1
        rw [← dt_tr]
        exact dt_cong (fun r c hr hc => by
          show cu _ i _ c r = _
          unfold cu
          by_cases e : r = i
          · rw [if_pos e, e, if_pos (by omega), ub_s, ub_s]
          · rw [if_neg e, ub_n _ _ e, ub_n _ _ e]; dsimp only
            by_cases e2 : r < i
            · rw [if_pos e2, if_pos (show r < i + 1 by omega)]
            · rw [if_neg e2, if_neg (show ¬ r < i + 1 by omega)]))
    rw [h1]
    have h2 := gs_abs (x := fun q => M (ρ i) q) (C := 21 ^ m) (Int.le_of_lt (Int.pow_pos (by omega))) (n := n) (fun q _ => (hy.2.2.1 (ρ i) q).1) (fun q _ => tub_gen hy κ ρ hκ hκ1 hρ m (i + 1) (ub P i (ρ i)) (ub Q i q) (by omega))
    have h3 : gs (fun q => M (ρ i) q) n ≤ 21 := dg_le hy (hρ i hik)
    have h4 : (0 : Int) ≤ 21 ^ m := Int.le_of_lt (Int.pow_pos (by omega))
    have h5 := Int.mul_le_mul_of_nonneg_right h3 h4
    rw [Int.pow_succ, Int.mul_comm (21 ^ m : Int) 21]
    omega
theorem tub {n : Nat} {M : Nat → Nat → Int} (hy : yok n M) {k : Nat} (κ ρ : Nat → Nat) (hκ : ∀ a b, a < k → b < k → κ a = κ b → a = b) (hκ1 : ∀ c, c < k → 1 ≤ κ c ∧ κ c < n) (hρ : ∀ r, r < k → ρ r < n) : - (21 ^ k : Int) ≤ dt k (fun r c => lap n M (ρ r) (κ c)) ∧ dt k (fun r c => lap n M (ρ r) (κ c)) ≤ 21 ^ k := by
  have h := tub_gen hy κ ρ hκ hκ1 hρ k 0 (fun _ => 0) (fun _ => 0) (by omega)
  have e : dt k (fun r c => if r < 0 then kd (κ c) 0 - (if (0 : Nat) = 0 then 0 else kd (κ c) 0) else lap n M (ρ r) (κ c)) = dt k (fun r c => lap n M (ρ r) (κ c)) := dt_cong (fun r c _ _ => if_neg (by omega))
  rw [e] at h
  exact h
/-- whichever columns: twice the same makes 0 -/
theorem tub_any {n : Nat} {M : Nat → Nat → Int} (hy : yok n M) {k : Nat} (κ ρ : Nat → Nat) (hκ1 : ∀ c, c < k → 1 ≤ κ c ∧ κ c < n) (hρ : ∀ r, r < k → ρ r < n) : - (21 ^ k : Int) ≤ dt k (fun r c => lap n M (ρ r) (κ c)) ∧ dt k (fun r c => lap n M (ρ r) (κ c)) ≤ 21 ^ k := by
  by_cases h : ∀ a b, a < k → b < k → κ a = κ b → a = b
  · exact tub hy κ ρ h hκ1 hρ
  · have h4 : (0 : Int) ≤ 21 ^ k := Int.le_of_lt (Int.pow_pos (by omega))
    obtain ⟨a, h⟩ := Classical.not_forall.mp h
    obtain ⟨b, h⟩ := Classical.not_forall.mp h
    obtain ⟨ha, h⟩ := Classical.not_imp.mp h
    obtain ⟨hb, h⟩ := Classical.not_imp.mp h
    obtain ⟨he, hne⟩ := Classical.not_imp.mp h
    have e0 : dt k (fun r c => lap n M (ρ r) (κ c)) = 0 := dt_same hne ha hb (fun r _ => by rw [he])
    rw [e0]; omega
end TuBound
