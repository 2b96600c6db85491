/-! The class's table stays within 64 bits -/
section SlvB
theorem gs_bd {f : Nat → Int} {C : Int} : ∀ {n : Nat}, (∀ k, k < n → -C ≤ f k ∧ f k ≤ C) → -((n : Int) * C) ≤ gs f n ∧ gs f n ≤ (n : Int) * C
  | 0, _ => by rw [gs_z]; simp
  | n + 1, h => by
    have ih := gs_bd (n := n) (fun k hk => h k (by omega))
    have h1 := h n (by omega)
    rw [gs_s]
    have e : (((n + 1 : Nat) : Int)) * C = (n : Int) * C + C := by rw [Int.natCast_add, Int.add_mul]; simp
    rw [e]; omega
theorem abs_mul {a b : Int} {A B : Nat} (ha : -(A : Int) ≤ a ∧ a ≤ A) (hb : -(B : Int) ≤ b ∧ b ≤ B) : -((A * B : Nat) : Int) ≤ a * b ∧ a * b ≤ ((A * B : Nat) : Int) := by
  have h1 : a.natAbs * b.natAbs ≤ A * B := Nat.mul_le_mul (by omega) (by omega)
  rw [← Int.natAbs_mul] at h1
  omega
theorem p21n : ∀ q, q ≤ 7 → (21 : Int) ^ q = ((21 ^ q : Nat) : Int) := by decide
theorem aj_bd {n : Nat} {M : Nat → Nat → Int} (hy : yok n M) {k : Nat} (hk : k ≤ 6) {A : Nat → Nat → Int} {ρ κ : Nat → Nat} (hA : ∀ r c, r < k + 1 → c < k + 1 → A r c = lap n M (ρ r) (κ c)) (hρ : ∀ r, r < k + 1 → ρ r < n) (hκ : ∀ c, c < k + 1 → 1 ≤ κ c ∧ κ c < n) {i j : Nat} (hi : i < k + 1) (hj : j < k + 1) : -((21 ^ k : Nat) : Int) ≤ aj (k + 1) A i j ∧ aj (k + 1) A i j ≤ ((21 ^ k : Nat) : Int) := by
  unfold aj
  rw [dt_cof A hi hj]
  have e : dt k (fun r c => A (sk j r) (sk i c)) = dt k (fun r c => lap n M (ρ (sk j r)) (κ (sk i c))) := dt_cong (fun r c hr hc => hA _ _ (sk_le hr) (sk_le hc))
  rw [e]
  have h := tub_any hy (k := k) (fun c => κ (sk i c)) (fun r => ρ (sk j r)) (fun c hc => hκ _ (sk_le hc)) (fun r hr => hρ _ (sk_le hr))
  rw [p21n k (by omega)] at h
  rcases sg_one (i + j) with e2 | e2 <;> rw [e2] <;> omega
theorem crl_bd {n : Nat} {M : Nat → Nat → Int} (hy : yok n M) {k : Nat} (hk : k ≤ 6) {A : Nat → Nat → Int} {ρ κ : Nat → Nat} (hA : ∀ r c, r < k + 1 → c < k + 1 → A r c = lap n M (ρ r) (κ c)) (hρ : ∀ r, r < k + 1 → ρ r < n) (hκ : ∀ c, c < k + 1 → 1 ≤ κ c ∧ κ c < n) {b : Nat → Int} (hb : ∀ r, r < k + 1 → -20 ≤ b r ∧ b r ≤ 20) {i : Nat} (hi : i < k + 1) : -(((k + 1) * (21 ^ k * 20) : Nat) : Int) ≤ cr (k + 1) A b i ∧ cr (k + 1) A b i ≤ (((k + 1) * (21 ^ k * 20) : Nat) : Int) := by
  rw [cr_aj A b hi]
  have h := gs_bd (f := fun j => aj (k + 1) A i j * b j) (C := ((21 ^ k * 20 : Nat) : Int)) (n := k + 1) (fun j hj => abs_mul (aj_bd hy hk hA hρ hκ hi hj) (hb j hj))
  rw [← Int.natCast_mul] at h
  exact h
theorem mb_cr (B : Nat → Nat → Int) (k i : Nat) (b : Nat → Int) : mb B k i b = cr (k + 1) (fun r c => B (if r < k then r else i) c) (fun r => b (if r < k then r else i)) k := by
  rw [crb_last]
  unfold mb
  dsimp only
  rw [if_neg (Nat.lt_irrefl k)]
  have e1 : dt k (fun r c => B (if r < k then r else i) c) = dt k B := dt_cong (fun r c hr _ => by rw [if_pos hr])
  rw [e1]
  congr 1
  exact gs_cong (fun l hl => by
    congr 1
    exact (cr_cong (fun r c hr _ => by rw [if_pos hr]) (fun r hr => by rw [if_pos hr])).symm)
theorem pw : 21 ^ 0 = 1 ∧ 21 ^ 1 = 21 ∧ 21 ^ 2 = 441 ∧ 21 ^ 3 = 9261 ∧ 21 ^ 4 = 194481 ∧ 21 ^ 5 = 4084101 ∧ 21 ^ 6 = 85766121 ∧ 21 ^ 7 = 1801088541 := by decide
theorem pw6 : ∀ k, k ≤ 6 → 21 ^ k ≤ 85766121 := by decide
theorem pw7 : ∀ k, k ≤ 7 → 21 ^ k ≤ 1801088541 := by decide
theorem pw0 : ∀ k, k ≤ 6 → (k + 1) * (21 ^ k * 20) ≤ 12007256940 := by decide
theorem pw5 : ∀ k, k ≤ 5 → (k + 1) * (21 ^ k * 20) ≤ 490092120 := by decide
/-- the entries' bounds behind k pivots -/
theorem sst_bd {n : Nat} {M : Nat → Nat → Int} (hy : yok n M) {S : Nat → Int} (hS : ∀ q, 1 ≤ q → q < n → -20 ≤ S q ∧ S q ≤ 20) {k : Nat} (hk : k ≤ n - 1) {T : Nat → Nat → Int} (h : sst n M S k T) {i c : Nat} (hi : i < n - 1) (hc : c < n) :
    (i < k → (c = 0 → -490092120 ≤ T (i + 1) c ∧ T (i + 1) c ≤ 490092120 ∨ k = 7 ∧ -12007256940 ≤ T (i + 1) c ∧ T (i + 1) c ≤ 12007256940) ∧ (c ≠ 0 → -((21 ^ k : Nat) : Int) ≤ T (i + 1) c ∧ T (i + 1) c ≤ ((21 ^ k : Nat) : Int))) ∧
    (k ≤ i → (c = 0 → -(((k + 1) * (21 ^ k * 20) : Nat) : Int) ≤ T (i + 1) c ∧ T (i + 1) c ≤ (((k + 1) * (21 ^ k * 20) : Nat) : Int)) ∧ (c ≠ 0 → -((21 ^ (k + 1) : Nat) : Int) ≤ T (i + 1) c ∧ T (i + 1) c ≤ ((21 ^ (k + 1) : Nat) : Int))) := by
  have hn := hy.2.1
  rw [h i c hi hc]
  constructor
  · intro hik
    rw [if_pos hik]
    constructor
    · intro hc0
      obtain ⟨k1, rfl⟩ : ∃ k1, k = k1 + 1 := ⟨k - 1, by omega⟩
      have h1 := crl_bd hy (k := k1) (by omega) (A := lpm n M) (ρ := fun r => r + 1) (κ := fun c => c + 1) (fun _ _ _ _ => rfl) (fun r hr => by omega) (fun c hc => by omega) (b := col0 n M S c) (fun r hr => by
        unfold col0; rw [if_pos hc0]; exact hS _ (by omega) (by omega)) hik
      by_cases e : k1 ≤ 5
      · left
        have h2 := pw5 k1 e
        omega
      · right
        have e6 : k1 = 6 := by omega
        subst e6
        have h2 := pw0 6 (by omega)
        refine ⟨rfl, by omega, by omega⟩
    · intro hc0
      have h1 := tub_any hy (k := k) (fun c' => if c' = i then c else c' + 1) (fun r => r + 1) (fun c' hc' => by split <;> omega) (fun r hr => by omega)
      rw [p21n k (by omega)] at h1
      have e : cr k (lpm n M) (col0 n M S c) i = dt k (fun r c' => lap n M (r + 1) (if c' = i then c else c' + 1)) := dt_cong (fun r c' hr hc' => by
        unfold cu col0 lpm
        by_cases e : c' = i
        · rw [if_pos e, if_neg hc0, if_pos e]
        · rw [if_neg e, if_neg e])
      rw [e]; exact h1
  · intro hik
    rw [if_neg (by omega), mb_cr]
    constructor
    · intro hc0
      exact crl_bd hy (k := k) (by omega) (ρ := fun r => (if r < k then r else i) + 1) (κ := fun c => c + 1) (fun _ _ _ _ => rfl) (fun r hr => by split <;> omega) (fun c hc => by omega) (fun r hr => by
        unfold col0; rw [if_pos hc0]; exact hS _ (by omega) (by split <;> omega)) (Nat.lt_succ_self k)
    · intro hc0
      have h1 := tub_any hy (k := k + 1) (fun c' => if c' = k then c else c' + 1) (fun r => (if r < k then r else i) + 1) (fun c' hc' => by split <;> omega) (fun r hr => by split <;> omega)
      rw [p21n (k + 1) (by omega)] at h1
      have e : cr (k + 1) (fun r c => lpm n M (if r < k then r else i) c) (fun r => col0 n M S c (if r < k then r else i)) k = dt (k + 1) (fun r c' => lap n M ((if r < k then r else i) + 1) (if c' = k then c else c' + 1)) := dt_cong (fun r c' hr hc' => by
        unfold cu col0 lpm
        by_cases e : c' = k
        · rw [if_pos e]; dsimp only; rw [if_neg hc0, if_pos e]
        · rw [if_neg e, if_neg e])
      rw [e]; exact h1
theorem ysv_gen {n : Nat} {M : Nat → Nat → Int} (hy : yok n M) (hc : cn n M) {S : Nat → Int} (hS : ∀ q, 1 ≤ q → q < n → -20 ≤ S q ∧ S q ≤ 20) {T0 : Nat → Nat → Int} (h : ∀ r c, 1 ≤ r → r < n → c < n → T0 r c = if c = 0 then S r else lap n M r c) : slr n T0 := by
  intro k hk
  have hn := hy.2.1
  obtain ⟨h1, h2⟩ := slv_state hy hc h k (by omega)
  have hd := tub_any hy (k := k) (fun c => c + 1) (fun r => r + 1) (fun c hc => by omega) (fun r hr => by omega)
  rw [p21n k (by omega)] at hd
  have p6 := pw6 k (by omega)
  have p7 := pw7 (k + 1) (by omega)
  have p0 := pw0 k (by omega)
  refine ⟨by rw [h1]; unfold lpm; exact ⟨by omega, by omega⟩, fun row c hr1 hr hne hcn => ?_⟩
  obtain ⟨i, rfl⟩ : ∃ i, row = i + 1 := ⟨row - 1, by omega⟩
  -- the four entries
  have hh := (sst_bd hy hS (by omega) h2 (i := k) (c := k + 1) (by omega) (by omega)).2 (Nat.le_refl k)
  have hhead := hh.2 (by omega)
  have hp := (sst_bd hy hS (by omega) h2 (i := k) (c := c) (by omega) hcn).2 (Nat.le_refl k)
  have ho := sst_bd hy hS (by omega) h2 (i := i) (c := k + 1) (by omega) (by omega)
  have hq := sst_bd hy hS (by omega) h2 (i := i) (c := c) (by omega) hcn
  obtain ⟨X, hX⟩ : ∃ X, X = (slv n T0 k).1 := ⟨_, rfl⟩
  rw [← hX] at hhead hp ho hq ⊢
  have bhead : -((1801088541 : Nat) : Int) ≤ X (k + 1) (k + 1) ∧ X (k + 1) (k + 1) ≤ ((1801088541 : Nat) : Int) := by omega
  have bp : -((12007256940 : Nat) : Int) ≤ X (k + 1) c ∧ X (k + 1) c ≤ ((12007256940 : Nat) : Int) := by
    by_cases e : c = 0
    · have := hp.1 e; omega
    · have := hp.2 e; omega
  have bo : -((85766121 : Nat) : Int) ≤ X (i + 1) (k + 1) ∧ X (i + 1) (k + 1) ≤ ((85766121 : Nat) : Int) := by
    rcases Nat.lt_or_ge i k with e | e
    · have := (ho.1 e).2 (by omega); omega
    · have h9 := (ho.2 e).2 (by omega)
      have h8 := pw6 (k + 1) (by omega)
      omega
  have bq : -((490092120 : Nat) : Int) ≤ X (i + 1) c ∧ X (i + 1) c ≤ ((490092120 : Nat) : Int) := by
    rcases Nat.lt_or_ge i k with e | e
    · by_cases e2 : c = 0
      · have := (hq.1 e).1 e2; omega
      · have := (hq.1 e).2 e2; omega
    · have h5 := pw5 k (by omega)
      have h8 := pw6 (k + 1) (by omega)
      by_cases e2 : c = 0
      · have := (hq.2 e).1 e2; omega
      · have := (hq.2 e).2 e2; omega
  have m1 := abs_mul bhead bq
  have m2 := abs_mul bo bp
  exact ⟨by omega, by omega⟩
theorem tfp_lap {n : Nat} {M : Nat → Nat → Int} {S : Nat → Int} {T : Nat → Nat → Int} : ∀ r c, 1 ≤ r → r < n → c < n → tfp n M (dg n M) S T n 0 r c = if c = 0 then S r else lap n M r c := fun r c h1 h2 h3 => by
  unfold tfp; rw [if_pos (Or.inl ⟨h1, h2, h3⟩)]; rfl
theorem ysv_ok {n : Nat} {M : Nat → Nat → Int} (hy : yok n M) (hc : cn n M) : ysv n M (dg n M) := fun S T hS => by
  have hn := hy.2.1
  have hn2 := hy.1
  have h0 := tfp_lap (n := n) (M := M) (S := S) (T := T)
  obtain ⟨h1, h2⟩ := slv_state hy hc h0 (n - 1) (Nat.le_refl _)
  have ht := trd_pos hy hc
  refine ⟨ysv_gen hy hc hS h0, by rw [h1]; exact ht.1, by rw [h1]; have h3 := ht.2; unfold trd at h3; omega, fun r hr1 hr => ?_⟩
  obtain ⟨i, rfl⟩ : ∃ i, r = i + 1 := ⟨r - 1, by omega⟩
  have h3 := (sst_bd hy hS (Nat.le_refl _) h2 (i := i) (c := 0) (by omega) (by omega)).1 (by omega)
  have h4 := h3.1 rfl
  omega
theorem trs_trd {n : Nat} {M : Nat → Nat → Int} (hy : yok n M) (hc : cn n M) (T : Nat → Nat → Int) : trs n M (dg n M) T = trd n M :=
  (slv_state hy hc (tfp_lap (S := fun _ => (0 : Int)) (T := T)) (n - 1) (Nat.le_refl _)).1
theorem slr_ok {n : Nat} {M : Nat → Nat → Int} (hy : yok n M) (hc : cn n M) (T : Nat → Nat → Int) : slr n (tfp n M (dg n M) (fun _ => (0 : Int)) T n 0) :=
  ysv_gen hy hc (S := fun _ => (0 : Int)) (fun q _ _ => by omega) tfp_lap
/-- column 0 behind all pivots -/
theorem slv_col {n : Nat} {M : Nat → Nat → Int} (hy : yok n M) (hc : cn n M) {S : Nat → Int} {T : Nat → Nat → Int} {i : Nat} (hi : i < n - 1) : (slv n (tfp n M (dg n M) S T n 0) (n - 1)).1 (i + 1) 0 = cr (n - 1) (lpm n M) (fun q => S (q + 1)) i := by
  have h := (slv_state hy hc (tfp_lap (S := S) (T := T)) (n - 1) (Nat.le_refl _)).2 i 0 hi (by omega)
  rw [h, if_pos hi]
  exact cr_cong (fun _ _ _ _ => rfl) (fun r _ => if_pos rfl)
end SlvB
