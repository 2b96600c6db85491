/-! What all minors have in common: rows and columns taken together; products; chains -/
section Divs
def gdv (k R m : Nat) (F : Nat → Nat → Int) (c : Int) : Prop := ∀ ρ κ : Nat → Nat, (∀ i, i < k → ρ i < R) → (∀ j, j < k → κ j < m) → c ∣ dt k (fun i j => F (ρ i) (κ j))
theorem gs_dvd {c : Int} {f : Nat → Int} : ∀ {n : Nat}, (∀ k, k < n → c ∣ f k) → c ∣ gs f n
  | 0, _ => Int.dvd_zero c
  | n + 1, h => Int.dvd_add (gs_dvd (fun k hk => h k (by omega))) (h n (by omega))
theorem gdv_row {k R R' m : Nat} {F G : Nat → Nat → Int} {c : Int} (h : ∀ r, r < R' → ∃ X : Nat → Int, ∀ j, j < m → G r j = gs (fun l => X l * F l j) R) (hF : gdv k R m F c) : gdv k R' m G c := by
  intro ρ' κ hρ' hκ
  have hgen : ∀ (t i : Nat) (ρ : Nat → Nat), i + t = k → (∀ a, a < i → ρ a < R) → c ∣ dt k (fun a b => if a < i then F (ρ a) (κ b) else G (ρ' a) (κ b)) := by
    intro t
    induction t with
    | zero =>
      intro i ρ hi hρ
      have e : dt k (fun a b => if a < i then F (ρ a) (κ b) else G (ρ' a) (κ b)) = dt k (fun a b => F (ρ a) (κ b)) := dt_cong (fun a b ha hb => if_pos (by omega))
      rw [e]; exact hF ρ κ (fun a ha => hρ a (by omega)) hκ
    | succ t ih =>
      intro i ρ hi hρ
      have hik : i < k := by omega
      obtain ⟨X, hX⟩ := h (ρ' i) (hρ' i hik)
      have h1 : dt k (fun a b => if a < i then F (ρ a) (κ b) else G (ρ' a) (κ b)) = gs (fun l => X l * dt k (fun a b => if a < i + 1 then F (ub ρ i l a) (κ b) else G (ρ' a) (κ b))) R := by
        rw [← dt_tr]
        have e1 : dt k (fun b a => if a < i then F (ρ a) (κ b) else G (ρ' a) (κ b)) = dt k (cu (fun b a => if a < i then F (ρ a) (κ b) else G (ρ' a) (κ b)) i (fun b => gs (fun l => X l * F l (κ b)) R)) := dt_cong (fun b a hb ha => by
          unfold cu
          by_cases e : a = i
          · rw [if_pos e, e, if_neg (Nat.lt_irrefl i), hX _ (hκ b hb)]
          · rw [if_neg e])
        rw [e1, dt_sum _ X (fun l b => F l (κ b)) hik R]
        exact gs_cong (fun l _ => by
          congr 1
          rw [← dt_tr]
          exact dt_cong (fun a b ha hb => by
            show cu _ i _ b a = _
            unfold cu
            by_cases e : a = i
            · rw [if_pos e, e, if_pos (by omega), ub_s]
            · rw [if_neg e, ub_n _ _ e]; dsimp only
              by_cases e2 : a < i
              · rw [if_pos e2, if_pos (show a < i + 1 by omega)]
              · rw [if_neg e2, if_neg (show ¬ a < i + 1 by omega)]))
      rw [h1]
      exact gs_dvd (fun l hl => Int.dvd_trans (ih (i + 1) (ub ρ i l) (by omega) (fun a ha => by
        by_cases e : a = i
        · rw [e, ub_s]; exact hl
        · rw [ub_n _ _ e]; exact hρ a (by omega))) (Int.dvd_mul_left _ _))
  have h2 := hgen k 0 (fun _ => 0) (by omega) (fun a ha => absurd ha (Nat.not_lt_zero _))
  have e : dt k (fun a b => if a < 0 then F 0 (κ b) else G (ρ' a) (κ b)) = dt k (fun a b => G (ρ' a) (κ b)) := dt_cong (fun a b _ _ => if_neg (by omega))
  rw [e] at h2
  exact h2
theorem gdv_tr {k R m : Nat} {F : Nat → Nat → Int} {c : Int} (h : gdv k R m F c) : gdv k m R (fun a b => F b a) c := fun ρ κ hρ hκ => by
  have h1 := h κ ρ hκ hρ
  rw [← dt_tr] at h1; exact h1
theorem gdv_col {k R m m' : Nat} {F G : Nat → Nat → Int} {c : Int} (h : ∀ j, j < m' → ∃ Y : Nat → Int, ∀ r, r < R → G r j = gs (fun l => F r l * Y l) m) (hF : gdv k R m F c) : gdv k R m' G c :=
  gdv_tr (F := fun a b => G b a) (gdv_row (F := fun a b => F b a) (G := fun a b => G b a) (fun j hj => by
    obtain ⟨Y, hY⟩ := h j hj
    exact ⟨Y, fun r hr => by rw [hY r hr]; exact gs_cong (fun l _ => Int.mul_comm _ _)⟩) (gdv_tr hF))
/-- products -/
def gp (f : Nat → Int) : Nat → Int
  | 0 => 1
  | n + 1 => gp f n * f n
theorem gp_cong {f g : Nat → Int} : ∀ {n : Nat}, (∀ k, k < n → f k = g k) → gp f n = gp g n
  | 0, _ => rfl
  | n + 1, h => by show gp f n * f n = gp g n * g n; rw [gp_cong (fun k hk => h k (by omega)), h n (by omega)]
theorem gp_sk {f : Nat → Int} {s : Nat} : ∀ {n : Nat}, s < n + 1 → gp f (n + 1) = f s * gp (fun i => f (sk s i)) n
  | 0, h => by rw [show s = 0 by omega]; show 1 * f 0 = f 0 * 1; omega
  | n + 1, h => by
    by_cases e : s = n + 1
    · have e1 : gp (fun i => f (sk s i)) (n + 1) = gp f (n + 1) := gp_cong (fun k hk => by rw [sk_lt (by omega)])
      rw [e1, e]; show gp f (n + 1) * f (n + 1) = _; exact Int.mul_comm _ _
    · have e1 : gp (fun i => f (sk s i)) (n + 1) = gp (fun i => f (sk s i)) n * f (n + 1) := by show _ * f (sk s n) = _; rw [sk_ge (by omega)]
      show gp f (n + 1) * f (n + 1) = _
      rw [gp_sk (show s < n + 1 by omega), e1, Int.mul_assoc]
theorem dt_rows {E : Nat → Nat → Int} {a : Nat → Int} (k : Nat) : dt k (fun i j => a i * E i j) = gp a k * dt k E := by
  have hgen : ∀ t i, i + t = k → dt k (fun x j => if x < i then E x j else a x * E x j) = gp (fun x => a (i + x)) t * dt k E := by
    intro t
    induction t with
    | zero => intro i hi; show _ = 1 * _; rw [Int.one_mul]; exact dt_cong (fun x j hx _ => if_pos (by omega))
    | succ t ih =>
      intro i hi
      have hik : i < k := by omega
      have h1 : dt k (fun x j => if x < i then E x j else a x * E x j) = a i * dt k (fun x j => if x < i + 1 then E x j else a x * E x j) := by
        rw [← dt_tr]
        have e1 : dt k (fun j x => if x < i then E x j else a x * E x j) = dt k (cu (fun j x => if x < i + 1 then E x j else a x * E x j) i (fun j => a i * E i j)) := dt_cong (fun j x hj hx => by
          unfold cu
          by_cases e : x = i
          · rw [if_pos e, e, if_neg (Nat.lt_irrefl i)]
          · rw [if_neg e]; dsimp only
            by_cases e2 : x < i
            · rw [if_pos e2, if_pos (show x < i + 1 by omega)]
            · rw [if_neg e2, if_neg (show ¬ x < i + 1 by omega)])
        rw [e1, dt_smul _ _ _ hik]
        congr 1
        rw [← dt_tr]
        exact dt_cong (fun x j hx hj => by
          show cu _ i _ j x = _
          unfold cu
          by_cases e : x = i
          · rw [if_pos e, e, if_pos (by omega)]
          · rw [if_neg e])
      rw [h1, ih (i + 1) (by omega), gp_sk (s := 0) (by omega), ← Int.mul_assoc]
      congr 2
      exact gp_cong (fun x _ => by rw [sk_ge (by omega)]; congr 1; omega)
  have h := hgen k 0 (by omega)
  have e : dt k (fun x j => if x < 0 then E x j else a x * E x j) = dt k (fun i j => a i * E i j) := dt_cong (fun x j _ _ => if_neg (by omega))
  rw [e] at h
  rw [h]; congr 1; exact gp_cong (fun x _ => by rw [Nat.zero_add])
theorem dt_id : ∀ k : Nat, dt k (fun i j => if i = j then (1 : Int) else 0) = 1
  | 0 => rfl
  | k + 1 => by
    rw [dt_bord, gs_zero (fun j hj => by rw [if_neg (by omega), Int.zero_mul]), if_pos rfl, dt_id k]; rfl
/-- the divisors of all products of k different ones -/
def pdv (k m : Nat) (r : Nat → Int) (c : Int) : Prop := ∀ ρ : Nat → Nat, (∀ i, i < k → ρ i < m) → (∀ a b, a < k → b < k → ρ a = ρ b → a = b) → c ∣ gp (fun i => r (ρ i)) k
def dgm (r : Nat → Int) : Nat → Nat → Int := fun i j => if i = j then r i else 0
theorem gdv_dgm {k m : Nat} {r : Nat → Int} {c : Int} : gdv k m m (dgm r) c ↔ pdv k m r c := by
  constructor
  · intro h ρ hρ hin
    have h1 := h ρ ρ hρ hρ
    have e : dt k (fun i j => dgm r (ρ i) (ρ j)) = gp (fun i => r (ρ i)) k := by
      have e1 : dt k (fun i j => dgm r (ρ i) (ρ j)) = dt k (fun i j => r (ρ i) * (if i = j then (1 : Int) else 0)) := dt_cong (fun i j hi hj => by
        unfold dgm
        by_cases e : i = j
        · rw [if_pos (by rw [e]), if_pos e, Int.mul_one]
        · rw [if_neg (fun h => e (hin i j hi hj h)), if_neg e, Int.mul_zero])
      rw [e1, dt_rows k, dt_id, Int.mul_one]
    rw [e] at h1; exact h1
  · intro h ρ κ hρ hκ
    by_cases hin : ∀ a b, a < k → b < k → ρ a = ρ b → a = b
    · have e1 : dt k (fun i j => dgm r (ρ i) (κ j)) = dt k (fun i j => r (ρ i) * (if ρ i = κ j then (1 : Int) else 0)) := dt_cong (fun i j hi hj => by
        unfold dgm
        by_cases e : ρ i = κ j
        · rw [if_pos e, if_pos e, Int.mul_one]
        · rw [if_neg e, if_neg e, Int.mul_zero])
      rw [e1, dt_rows k]
      exact Int.dvd_trans (h ρ hρ hin) (Int.dvd_mul_right _ _)
    · obtain ⟨a, hin⟩ := Classical.not_forall.mp hin
      obtain ⟨b, hin⟩ := Classical.not_forall.mp hin
      obtain ⟨ha, hin⟩ := Classical.not_imp.mp hin
      obtain ⟨hb, hin⟩ := Classical.not_imp.mp hin
      obtain ⟨he, hne⟩ := Classical.not_imp.mp hin
      have e0 : dt k (fun i j => dgm r (ρ i) (κ j)) = 0 := by
        rw [← dt_tr]
        exact dt_same hne ha hb (fun x _ => by rw [he])
      rw [e0]; exact Int.dvd_zero c
theorem pigeon {k : Nat} {ρ : Nat → Nat} (hρ : ∀ i, i < k + 1 → ρ i < k) (hin : ∀ a b, a < k + 1 → b < k + 1 → ρ a = ρ b → a = b) : False := by
  have h1 : gs (fun i => gs (fun v => if v = ρ i then (fun _ => (1 : Int)) v else 0) k) (k + 1) = (k + 1 : Nat) := by
    have e : gs (fun i => gs (fun v => if v = ρ i then (fun _ => (1 : Int)) v else 0) k) (k + 1) = gs (fun _ => 1) (k + 1) := gs_cong (fun i hi => gs_one (fun _ => (1 : Int)) (hρ i hi))
    rw [e, gs_const, Int.mul_one]
  rw [gs_swap] at h1
  have h2 : gs (fun v => gs (fun i => if v = ρ i then (fun _ => (1 : Int)) v else 0) (k + 1)) k ≤ gs (fun _ => 1) k := gs_le (fun v _ => by
    by_cases e : ∃ i, i < k + 1 ∧ v = ρ i
    · obtain ⟨i, hi, hv⟩ := e
      have e2 : gs (fun i => if v = ρ i then (fun _ => (1 : Int)) v else 0) (k + 1) = gs (fun x => if x = i then (fun _ => (1 : Int)) x else 0) (k + 1) := gs_cong (fun x hx => by
        by_cases e3 : x = i
        · rw [if_pos e3, if_pos (by rw [e3]; exact hv)]
        · rw [if_neg e3, if_neg (fun h => e3 (hin x i hx hi (h.symm.trans hv)))])
      rw [e2, gs_one (fun _ => (1 : Int)) hi]; exact Int.le_refl _
    · rw [gs_zero (fun i hi => if_neg (fun h => e ⟨i, hi, h⟩))]; omega)
  rw [gs_const, Int.mul_one, h1] at h2
  omega
/-- a chain: the first ones' product divides every product -/
theorem pdv_chain {m : Nat} {r : Nat → Int} (hch : ∀ a b, a ≤ b → b < m → r a ∣ r b) : ∀ (k : Nat) (ρ : Nat → Nat), (∀ i, i < k → ρ i < m) → (∀ a b, a < k → b < k → ρ a = ρ b → a = b) → gp r k ∣ gp (fun i => r (ρ i)) k
  | 0, _, _, _ => Int.dvd_refl 1
  | k + 1, ρ, hρ, hin => by
    have hex : ∃ s, s < k + 1 ∧ k ≤ ρ s := Classical.byContradiction fun hn => pigeon (k := k) (fun i hi => Classical.byContradiction fun h => hn ⟨i, hi, by omega⟩) hin
    obtain ⟨s, hs, hks⟩ := hex
    rw [show gp (fun i => r (ρ i)) (k + 1) = r (ρ s) * gp (fun i => r (ρ (sk s i))) k from gp_sk hs]
    show gp r k * r k ∣ _
    rw [Int.mul_comm (gp r k)]
    exact Int.mul_dvd_mul (hch k (ρ s) hks (hρ s hs)) (pdv_chain hch k (fun i => ρ (sk s i)) (fun i hi => hρ _ (sk_le hi)) (fun a b ha hb h => sk_inj (hin _ _ (sk_le ha) (sk_le hb) h)))
theorem pdv_iff {k m : Nat} (hk : k ≤ m) {r : Nat → Int} (hch : ∀ a b, a ≤ b → b < m → r a ∣ r b) {c : Int} : pdv k m r c ↔ c ∣ gp r k :=
  ⟨fun h => h (fun i => i) (fun i hi => by omega) (fun a b _ _ h => h), fun h ρ hρ hin => Int.dvd_trans h (pdv_chain hch k ρ hρ hin)⟩
end Divs
