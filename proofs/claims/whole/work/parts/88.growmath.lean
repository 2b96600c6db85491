/-! A told tree: bits; places' depths; rounds by the tree -/
section GrowMath
theorem bt_sh31 {a k : Nat} (ha : a < 18446744073709551616) (hk : k < 59) : (jL ((jL ((a : Nat) : Int)) >>> ((jI ((k : Nat) : Int)).toInt64 &&& 63)).toInt) &&& jL 31 = jL ((a / 2 ^ k % 32 : Nat) : Int) := by
  rw [jL_as]
  have hc : (jI ((k : Nat) : Int)).toInt64 &&& 63 = Int64.ofNat k := by
    have h : ∀ k, k < 64 → ((nI k).toInt64 &&& 63) = Int64.ofNat k := by decide +kernel
    exact h k (by omega)
  rw [hc]
  apply Int64.toBitVec_inj.mp
  rw [Int64.toBitVec_and, Int64.toBitVec_shiftRight]
  have h1 : (jL ((a : Nat) : Int)).toBitVec = BitVec.ofNat 64 a := by
    show (Int64.ofInt (a : Int)).toBitVec = _
    rw [Int64.toBitVec_ofInt]; exact BitVec.ofInt_natCast _ _
  have h2 : (jL ((a / 2 ^ k % 32 : Nat) : Int)).toBitVec = BitVec.ofNat 64 (a / 2 ^ k % 32) := by
    show (Int64.ofInt ((a / 2 ^ k % 32 : Nat) : Int)).toBitVec = _
    rw [Int64.toBitVec_ofInt]; exact BitVec.ofInt_natCast _ _
  have h3 : ((Int64.ofNat k).toBitVec.smod 64).toNat = k := by
    have h : ∀ k, k < 64 → ((Int64.ofNat k).toBitVec.smod 64).toNat = k := by decide +kernel
    exact h k (by omega)
  have h4 : (jL 31).toBitVec = BitVec.ofNat 64 31 := by decide +kernel
  rw [h1, h2, h4]
  apply BitVec.eq_of_getLsbD_eq
  intro i hi
  have h31 : (31 : Nat).testBit i = decide (i < 5) := by
    rw [show (31 : Nat) = 2 ^ 5 - 1 from rfl, Nat.testBit_two_pow_sub_one]
  rw [BitVec.getLsbD_and, BitVec.sshiftRight_eq', BitVec.getLsbD_sshiftRight, h3, BitVec.getLsbD_ofNat, BitVec.getLsbD_ofNat, BitVec.getLsbD_ofNat, h31]
  rw [show (32 : Nat) = 2 ^ 5 from rfl, Nat.testBit_mod_two_pow, Nat.testBit_div_two_pow]
  by_cases h5 : i < 5
  · simp only [h5, hi, decide_true, Bool.true_and, Bool.and_true]
    rw [if_pos (by omega)]
    simp [show k + i < 64 by omega, hi, Nat.add_comm]
  · simp [h5]
/-- the steps from a place to the hole, if they are at most k -/
def dps (tr : Nat) : Nat → Nat → Int
  | 0, p => if p = 0 then 0 else -1
  | k + 1, p => if p = 0 then 0 else if dps tr k (tgt tr p) = -1 then -1 else dps tr k (tgt tr p) + 1
theorem dps_z (tr k : Nat) : dps tr k 0 = 0 := by cases k <;> exact if_pos rfl
theorem dps_0 {tr p : Nat} (h : p ≠ 0) : dps tr 0 p = -1 := if_neg h
theorem dps_s {tr k p : Nat} (h : p ≠ 0) : dps tr (k + 1) p = if dps tr k (tgt tr p) = -1 then -1 else dps tr k (tgt tr p) + 1 := if_neg h
theorem dps_val (tr : Nat) : ∀ k p : Nat, dps tr k p = -1 ∨ (0 ≤ dps tr k p ∧ dps tr k p ≤ k)
  | 0, p => by
    by_cases e : p = 0
    · subst e; rw [dps_z]; omega
    · exact Or.inl (dps_0 e)
  | k + 1, p => by
    by_cases e : p = 0
    · subst e; rw [dps_z]; omega
    · rw [dps_s e]
      have h := dps_val tr k (tgt tr p)
      split <;> omega
theorem dps_pos {tr : Nat} : ∀ {k p : Nat}, p ≠ 0 → dps tr k p ≠ 0
  | 0, p, h => by rw [dps_0 h]; omega
  | k + 1, p, h => by
    rw [dps_s h]
    have h1 := dps_val tr k (tgt tr p)
    split <;> omega
theorem dps_up {tr : Nat} : ∀ {k p : Nat}, dps tr k p ≠ -1 → dps tr (k + 1) p = dps tr k p
  | 0, p, h => by
    by_cases e : p = 0
    · subst e; rw [dps_z, dps_z]
    · exact absurd (dps_0 e) h
  | k + 1, p, h => by
    by_cases e : p = 0
    · subst e; rw [dps_z, dps_z]
    · rw [dps_s e] at h
      by_cases e2 : dps tr k (tgt tr p) = -1
      · rw [if_pos e2] at h; exact absurd rfl h
      · rw [dps_s e, dps_s e (k := k), dps_up e2]
/-- a round by the tree in closed form -/
def frf (tr : Nat) (r : Int) (k : Nat) (rd : Nat → Int) : Nat → Int := fun q => if 1 ≤ q ∧ q ≤ k ∧ rd (tgt tr q) = r - 1 then r else rd q
theorem frd_eq {tr : Nat} {r : Int} {rd : Nat → Int} (h : ∀ q, 1 ≤ q → rd q = r - 1 → rd (tgt tr q) ≠ r - 1) : ∀ k : Nat, frd tr r k rd = frf tr r k rd
  | 0 => by funext q; show rd q = _; unfold frf; rw [if_neg (by omega)]
  | k + 1 => by
    show fst9 tr r (k + 1) (frd tr r k rd) = _
    rw [frd_eq h k]
    have hk : frf tr r k rd (tgt tr (k + 1)) = r - 1 ↔ rd (tgt tr (k + 1)) = r - 1 := by
      unfold frf
      by_cases e : 1 ≤ tgt tr (k + 1) ∧ tgt tr (k + 1) ≤ k ∧ rd (tgt tr (tgt tr (k + 1))) = r - 1
      · rw [if_pos e]
        exact ⟨fun q => absurd q (by omega), fun q => absurd e.2.2 (h _ e.1 q)⟩
      · rw [if_neg e]
    unfold fst9
    by_cases e : rd (tgt tr (k + 1)) = r - 1
    · rw [if_pos (hk.mpr e)]
      funext q
      by_cases e2 : q = k + 1
      · subst e2; rw [ub_s]; unfold frf; rw [if_pos ⟨by omega, by omega, e⟩]
      · rw [ub_n _ _ e2]; unfold frf
        by_cases e3 : 1 ≤ q ∧ q ≤ k ∧ rd (tgt tr q) = r - 1
        · rw [if_pos e3, if_pos ⟨e3.1, by omega, e3.2.2⟩]
        · rw [if_neg e3, if_neg (fun h => e3 ⟨h.1, by omega, h.2.2⟩)]
    · rw [if_neg (fun q => e (hk.mp q))]
      funext q; unfold frf
      by_cases e3 : 1 ≤ q ∧ q ≤ k ∧ rd (tgt tr q) = r - 1
      · rw [if_pos e3, if_pos ⟨e3.1, by omega, e3.2.2⟩]
      · rw [if_neg e3, if_neg (fun h => by
          by_cases e4 : q = k + 1
          · subst e4; exact e h.2.2
          · exact e3 ⟨h.1, by omega, h.2.2⟩)]
theorem fit_dps {n tr : Nat} (ht : ∀ q, 1 ≤ q → q < n → tgt tr q < n) : ∀ s : Nat, (∀ q, n ≤ q → 1 ≤ q → fit9 n tr s q = -1) ∧ ∀ q, q < n → fit9 n tr s q = dps tr s q
  | 0 => ⟨fun q _ h => if_neg (by omega), fun q _ => rfl⟩
  | s + 1 => by
    obtain ⟨ho, hi⟩ := fit_dps ht s
    have hP : ∀ q, 1 ≤ q → fit9 n tr s q = ((s + 1 : Nat) : Int) - 1 → fit9 n tr s (tgt tr q) ≠ ((s + 1 : Nat) : Int) - 1 := fun q h1 h2 => by
      rcases Nat.lt_or_ge q n with h3 | h3
      · rw [hi q h3] at h2
        rw [hi _ (ht q h1 h3)]
        cases s with
        | zero => exact absurd h2 (by rw [dps_0 (by omega)]; omega)
        | succ s =>
          rw [dps_s (by omega)] at h2
          by_cases e : dps tr s (tgt tr q) = -1
          · rw [if_pos e] at h2; omega
          · rw [if_neg e] at h2; rw [dps_up e]; omega
      · have := ho q h3 h1; omega
    have hf : ∀ q, fit9 n tr (s + 1) q = if 1 ≤ q ∧ q ≤ n - 1 ∧ fit9 n tr s (tgt tr q) = ((s + 1 : Nat) : Int) - 1 then ((s + 1 : Nat) : Int) else fit9 n tr s q := fun q => by
      show frd tr ((s + 1 : Nat) : Int) (n - 1) (fit9 n tr s) q = _
      rw [frd_eq hP]; rfl
    refine ⟨fun q h1 h2 => by rw [hf, if_neg (by omega)]; exact ho q h1 h2, fun q hq => ?_⟩
    rw [hf]
    by_cases e0 : q = 0
    · subst e0; rw [if_neg (by omega), hi 0 hq, dps_z, dps_z]
    · rw [hi _ (ht q (by omega) hq), hi q hq]
      have hv := dps_val tr s (tgt tr q)
      by_cases e : dps tr s (tgt tr q) = ((s + 1 : Nat) : Int) - 1
      · rw [if_pos ⟨by omega, by omega, e⟩, dps_s e0, if_neg (by omega)]; omega
      · rw [if_neg (fun h => e h.2.2), dps_s e0]
        cases s with
        | zero =>
          have h4 : dps tr 0 (tgt tr q) = -1 := by omega
          rw [if_pos h4, dps_0 e0]
        | succ s =>
          by_cases e2 : dps tr s (tgt tr q) = -1
          · rw [dps_s e0, if_pos e2]
            by_cases e3 : dps tr (s + 1) (tgt tr q) = -1
            · rw [if_pos e3]
            · exfalso
              by_cases e4 : tgt tr q = 0
              · rw [e4, dps_z] at e2; omega
              · -- it is reached just now: its steps are s + 1
                have h5 : ∀ (k : Nat) (x : Nat), dps tr k x = -1 → dps tr (k + 1) x ≠ -1 → dps tr (k + 1) x = ((k + 1 : Nat) : Int) := by
                  intro k
                  induction k with
                  | zero =>
                    intro x h6 h7
                    by_cases e5 : x = 0
                    · subst e5; rw [dps_z] at h6; omega
                    · rw [dps_s e5] at h7 ⊢
                      by_cases e6 : dps tr 0 (tgt tr x) = -1
                      · rw [if_pos e6] at h7; exact absurd rfl h7
                      · rw [if_neg e6]
                        have := dps_val tr 0 (tgt tr x); omega
                  | succ k ih =>
                    intro x h6 h7
                    by_cases e5 : x = 0
                    · subst e5; rw [dps_z] at h6; omega
                    · rw [dps_s e5] at h7 ⊢
                      rw [dps_s e5] at h6
                      by_cases e6 : dps tr (k + 1) (tgt tr x) = -1
                      · rw [if_pos e6] at h7; exact absurd rfl h7
                      · rw [if_neg e6]
                        by_cases e7 : dps tr k (tgt tr x) = -1
                        · rw [ih _ e7 e6]; omega
                        · rw [if_neg e7] at h6
                          have := dps_val tr k (tgt tr x); omega
                have h8 := h5 s (tgt tr q) e2 e3
                omega
          · rw [dps_s e0, if_neg e2, dps_up e2, if_neg e2]
/-- n places: the steps are fewer than n, or none lead there -/
theorem gs_more {f g : Nat → Int} {n p : Nat} (h : ∀ k, k < n → f k ≤ g k) (hp : p < n) (h1 : f p + 1 ≤ g p) : gs f n + 1 ≤ gs g n := by
  have h2 := gs_ge (f := fun k => g k - f k) (p := p) (n := n) (fun k hk => by have := h k hk; omega) hp
  rw [gs_sub] at h2
  omega
theorem dps_end {n tr : Nat} (hn : 1 ≤ n) (ht : ∀ q, 1 ≤ q → q < n → tgt tr q < n) {p : Nat} (hp : p < n) (j : Nat) : dps tr (n - 1 + j) p = dps tr (n - 1) p := by
  have hcl : ∀ s : Nat, (∀ q, q < n → dps tr (s + 1) q = dps tr s q) → ∀ j q, q < n → dps tr (s + j) q = dps tr s q := by
    intro s h j
    induction j with
    | zero => intro q _; rfl
    | succ j ih =>
      intro q hq
      by_cases e : q = 0
      · subst e; rw [dps_z, dps_z]
      · rw [show s + (j + 1) = s + j + 1 by omega, dps_s e, ih _ (ht q (by omega) hq), ← dps_s e]
        exact h q hq
  have hQ : ∀ s : Nat, (s : Int) + 1 ≤ cntb n (dps tr s) ∨ ∀ j q, q < n → dps tr (s + j) q = dps tr s q := by
    intro s
    induction s with
    | zero =>
      left
      have h2 : 1 ≤ cntb n (dps tr 0) := by
        have h3 := gs_ge (f := fun q => if dps tr 0 q = -1 then (0 : Int) else 1) (p := 0) (n := n) (fun k _ => by split <;> omega) (by omega)
        rw [if_neg (by rw [dps_z]; omega)] at h3
        exact h3
      omega
    | succ s ih =>
      rcases ih with h | h
      · by_cases hs : ∀ q, q < n → dps tr (s + 1) q = dps tr s q
        · right; intro j q hq
          rw [show s + 1 + j = s + (j + 1) by omega, hcl s hs _ q hq, hs q hq]
        · left
          obtain ⟨q, hq⟩ := Classical.not_forall.mp hs
          obtain ⟨hq1, hq2⟩ := Classical.not_imp.mp hq
          have h3 : dps tr s q = -1 := Classical.byContradiction fun h4 => hq2 (dps_up h4)
          have h5 : cntb n (dps tr s) + 1 ≤ cntb n (dps tr (s + 1)) := gs_more (p := q) (fun k _ => by
            by_cases e : dps tr s k = -1
            · rw [if_pos e]; split <;> omega
            · rw [if_neg e, dps_up e, if_neg e]; exact Int.le_refl _) hq1 (by rw [if_pos h3, if_neg (by rw [h3] at hq2; exact hq2)]; omega)
          omega
      · right; intro j q hq
        rw [show s + 1 + j = s + (j + 1) by omega, h _ q hq, h 1 q hq]
  rcases hQ (n - 1) with h | h
  · have hall : ∀ q, q < n → dps tr (n - 1) q ≠ -1 := fun q hq h3 => by
      have h4 := gs_more (f := fun q => if dps tr (n - 1) q = -1 then (0 : Int) else 1) (g := fun _ => 1) (p := q) (n := n) (fun k _ => by split <;> omega) hq (by rw [if_pos h3]; omega)
      rw [gs_const] at h4
      unfold cntb at h
      omega
    induction j with
    | zero => rfl
    | succ j ih =>
      rw [show n - 1 + (j + 1) = n - 1 + j + 1 by omega, dps_up (by rw [ih]; exact hall p hp), ih]
  · exact h j p hp
end GrowMath
