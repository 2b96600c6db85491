/-! Clearing a cross ends: two steps halve the corner -/
section Clear
theorem low_mod {a v D : Int} (ha : 0 ≤ a) (hv : 0 < v) (hD : a < D) : (a - Int.tdiv a v * v) % D = a % v := by
  rw [Int.tdiv_eq_ediv_of_nonneg ha]
  have h1 := Int.mul_ediv_add_emod a v
  have h2 := Int.emod_nonneg a (show v ≠ 0 by omega)
  have h3 : a - a / v * v = a % v := by rw [Int.mul_comm (a / v) v]; omega
  rw [h3]
  have h4 : a % v ≤ a := by
    have h5 : 0 ≤ a / v := Int.ediv_nonneg ha (by omega)
    have h6 := Int.mul_nonneg (show 0 ≤ v by omega) h5
    omega
  exact Int.emod_eq_of_lt h2 (by omega)
theorem lrs_col {m : Nat} {D v : Int} {c : Nat} {X : Nat → Nat → Int} (hX : inr_ m D X) (hv : 0 < v) (hc : X c c = v) (hcm : c < m) : ∀ q, c + q < m → ∀ i, c < i → i < m → lrs m D c v X q i c = if i ≤ c + q then X i c % v else X i c
  | 0, _, i, h1, _ => by rw [if_neg (by omega)]; rfl
  | q + 1, hq, i, h1, h2 => by
    show rwf D c (Int.tdiv (lrs m D c v X q (c + 1 + q) c) v) (c + 1 + q) (lrs m D c v X q) m i c = _
    have ih := lrs_col hX hv hc hcm q (by omega)
    by_cases e : i = c + 1 + q
    · rw [e, if_pos (by omega)]
      unfold rwf
      rw [if_pos ⟨rfl, Nat.le_refl c, hcm⟩, ih _ (by omega) (by omega), if_neg (by omega), show lrs m D c v X q c c = v from (congrFun (lrs_c q) c).trans hc]
      have := hX (c + 1 + q) c (by omega) hcm
      exact low_mod this.1 hv this.2
    · rw [show rwf D c (Int.tdiv (lrs m D c v X q (c + 1 + q) c) v) (c + 1 + q) (lrs m D c v X q) m i c = lrs m D c v X q i c from congrFun (rwf_o e) c, ih i h1 h2]
      by_cases e2 : i ≤ c + q
      · rw [if_pos e2, if_pos (by omega)]
      · rw [if_neg e2, if_neg (by omega)]
theorem lcs_colc {m : Nat} {D v : Int} {c : Nat} {X : Nat → Nat → Int} : ∀ q i, lcs m D c v X q i c = X i c
  | 0, _ => rfl
  | q + 1, i => by
    show cwf D c _ (c + 1 + q) (lcs m D c v X q) m i c = _
    rw [cwf_o (by omega)]; exact lcs_colc q i
theorem lcs_row {m : Nat} {D v : Int} {c : Nat} {X : Nat → Nat → Int} (hX : ∀ j, c < j → j < m → 0 ≤ X c j ∧ X c j < D) (hv : 0 < v) (hc : X c c = v) (hcm : c < m) : ∀ q, c + q < m → ∀ j, c < j → j < m → lcs m D c v X q c j = if j ≤ c + q then X c j % v else X c j
  | 0, _, j, h1, _ => by rw [if_neg (by omega)]; rfl
  | q + 1, hq, j, h1, h2 => by
    show cwf D c (Int.tdiv (lcs m D c v X q c (c + 1 + q)) v) (c + 1 + q) (lcs m D c v X q) m c j = _
    have ih := lcs_row hX hv hc hcm q (by omega)
    by_cases e : j = c + 1 + q
    · rw [e, if_pos (by omega)]
      unfold cwf
      rw [if_pos ⟨rfl, Nat.le_refl c, hcm⟩, ih _ (by omega) (by omega), if_neg (by omega), lcs_colc, hc]
      have := hX (c + 1 + q) (by omega) (by omega)
      exact low_mod this.1 hv this.2
    · rw [cwf_o e, ih j h1 h2]
      by_cases e2 : j ≤ c + q
      · rw [if_pos e2, if_pos (by omega)]
      · rw [if_neg e2, if_neg (by omega)]
/-- the least of the cross -/
def lin (c : Nat) (T : Nat → Nat → Int) (q : Nat) (u : Nat × Nat) : Prop := (u.1 = c ∨ u.2 = c) ∧ (T c c ≠ 0 → T u.1 u.2 ≠ 0 ∧ T u.1 u.2 ≤ T c c) ∧ ∀ i, c < i → i ≤ c + q → (T i c ≠ 0 → T u.1 u.2 ≠ 0 ∧ T u.1 u.2 ≤ T i c) ∧ (T c i ≠ 0 → T u.1 u.2 ≠ 0 ∧ T u.1 u.2 ≤ T c i)
theorem lsn_iff {a b : Int} : lsn a b = true ↔ a ≠ 0 ∧ (b = 0 ∨ a < b) := by unfold lsn; exact decide_eq_true_iff
theorem bls_lin {m : Nat} {D : Int} {c : Nat} {T : Nat → Nat → Int} (hT : inr_ m D T) (hcm : c < m) : ∀ q, c + q < m → lin c T q (bls c T q)
  | 0, _ => ⟨Or.inl rfl, fun h => ⟨h, Int.le_refl _⟩, fun i h1 h2 => by omega⟩
  | q + 1, hq => by
    have ih := bls_lin hT hcm q (by omega)
    have hlt := bls_lt (T := T) hcm q (by omega)
    have h0 := hT _ _ hlt.1 hlt.2
    have ha := hT (c + 1 + q) c (by omega) hcm
    have hb := hT c (c + 1 + q) hcm (by omega)
    obtain ⟨u, hu⟩ : ∃ u, u = bls c T q := ⟨_, rfl⟩
    obtain ⟨w, hw⟩ : ∃ w, w = bl1 c T (c + 1 + q) (bls c T q) := ⟨_, rfl⟩
    have e : bls c T (q + 1) = bl2 c T (c + 1 + q) w := by rw [hw]; rfl
    rw [← hu] at ih h0 hw
    have hw2 : (w.1 = c ∨ w.2 = c) ∧ (T c c ≠ 0 → T w.1 w.2 ≠ 0 ∧ T w.1 w.2 ≤ T c c) ∧ (∀ i, c < i → i ≤ c + q → (T i c ≠ 0 → T w.1 w.2 ≠ 0 ∧ T w.1 w.2 ≤ T i c) ∧ (T c i ≠ 0 → T w.1 w.2 ≠ 0 ∧ T w.1 w.2 ≤ T c i)) ∧ (T (c + 1 + q) c ≠ 0 → T w.1 w.2 ≠ 0 ∧ T w.1 w.2 ≤ T (c + 1 + q) c) ∧ 0 ≤ T w.1 w.2 := by
      rw [hw]; unfold bl1
      by_cases el : lsn (T (c + 1 + q) c) (T u.1 u.2) = true
      · rw [if_pos el]
        obtain ⟨l1, l2⟩ := lsn_iff.mp el
        refine ⟨Or.inr rfl, fun h => ?_, fun i h1 h2 => ⟨fun h => ?_, fun h => ?_⟩, fun h => ⟨h, Int.le_refl _⟩, ha.1⟩
        · have := ih.2.1 h; refine ⟨l1, ?_⟩; dsimp only; omega
        · have := (ih.2.2 i h1 h2).1 h; refine ⟨l1, ?_⟩; dsimp only; omega
        · have := (ih.2.2 i h1 h2).2 h; refine ⟨l1, ?_⟩; dsimp only; omega
      · rw [if_neg el]
        have hn : ¬ (T (c + 1 + q) c ≠ 0 ∧ (T u.1 u.2 = 0 ∨ T (c + 1 + q) c < T u.1 u.2)) := fun h => el (lsn_iff.mpr h)
        exact ⟨ih.1, ih.2.1, ih.2.2, fun h => ⟨fun h2 => hn ⟨h, Or.inl h2⟩, by
          rcases Int.lt_or_le (T (c + 1 + q) c) (T u.1 u.2) with h3 | h3
          · exact absurd ⟨h, Or.inr h3⟩ hn
          · exact h3⟩, h0.1⟩
    obtain ⟨w1, w2, w3, w4, w5⟩ := hw2
    rw [e]; unfold bl2
    by_cases el : lsn (T c (c + 1 + q)) (T w.1 w.2) = true
    · rw [if_pos el]
      obtain ⟨l1, l2⟩ := lsn_iff.mp el
      refine ⟨Or.inl rfl, fun h => ?_, fun i h1 h2 => ?_⟩
      · have := w2 h; refine ⟨l1, ?_⟩; dsimp only; omega
      · by_cases ei : i = c + 1 + q
        · rw [ei]
          exact ⟨fun h => by have := w4 h; refine ⟨l1, ?_⟩; dsimp only; omega, fun h => ⟨h, Int.le_refl _⟩⟩
        · exact ⟨fun h => by have := (w3 i h1 (by omega)).1 h; refine ⟨l1, ?_⟩; dsimp only; omega, fun h => by have := (w3 i h1 (by omega)).2 h; refine ⟨l1, ?_⟩; dsimp only; omega⟩
    · rw [if_neg el]
      have hn : ¬ (T c (c + 1 + q) ≠ 0 ∧ (T w.1 w.2 = 0 ∨ T c (c + 1 + q) < T w.1 w.2)) := fun h => el (lsn_iff.mpr h)
      refine ⟨w1, w2, fun i h1 h2 => ?_⟩
      by_cases ei : i = c + 1 + q
      · rw [ei]
        exact ⟨w4, fun h => ⟨fun h2 => hn ⟨h, Or.inl h2⟩, by
          rcases Int.lt_or_le (T c (c + 1 + q)) (T w.1 w.2) with h3 | h3
          · exact absurd ⟨h, Or.inr h3⟩ hn
          · exact h3⟩⟩
      · exact w3 i h1 (by omega)
/-- behind bringLeast: the corner; where the old one lies -/
theorem brg_corner {m c : Nat} {T : Nat → Nat → Int} (hcm : c < m) : (bls c T (m - 1 - c)).1 = c ∨ (bls c T (m - 1 - c)).2 = c → brg m c T c c = T (bls c T (m - 1 - c)).1 (bls c T (m - 1 - c)).2 := by
  intro h
  obtain ⟨u, hu⟩ : ∃ u, u = bls c T (m - 1 - c) := ⟨_, rfl⟩
  unfold brg
  rw [← hu] at h ⊢
  unfold swc swr
  rw [if_pos ⟨Nat.le_refl c, hcm⟩]
  rcases h with h | h
  · by_cases e : c = u.2
    · rw [if_pos e, if_pos ⟨Nat.le_refl c, hcm⟩, h, if_pos rfl, ← e]
    · rw [if_neg e, if_pos rfl, h]
      by_cases e2 : c ≤ u.2 ∧ u.2 < m
      · rw [if_pos e2, if_pos rfl]
      · rw [if_neg e2]
  · rw [h, if_pos rfl, if_pos ⟨Nat.le_refl c, hcm⟩]
    by_cases e : c = u.1
    · rw [if_pos e, ← e]
    · rw [if_neg e, if_pos rfl]
theorem brg_old {m c : Nat} {T : Nat → Nat → Int} (hcm : c < m) (hlt : (bls c T (m - 1 - c)).1 < m ∧ (bls c T (m - 1 - c)).2 < m) (h : (bls c T (m - 1 - c)).1 = c ∨ (bls c T (m - 1 - c)).2 = c) (hge : c ≤ (bls c T (m - 1 - c)).1 ∧ c ≤ (bls c T (m - 1 - c)).2) (hne : ¬ ((bls c T (m - 1 - c)).1 = c ∧ (bls c T (m - 1 - c)).2 = c)) : ∃ i, c < i ∧ i < m ∧ (brg m c T i c = T c c ∨ brg m c T c i = T c c) := by
  obtain ⟨u, hu⟩ : ∃ u, u = bls c T (m - 1 - c) := ⟨_, rfl⟩
  unfold brg
  rw [← hu] at h hne hlt hge ⊢
  by_cases e : u.2 = c
  · have e1 : u.1 ≠ c := fun h1 => hne ⟨h1, e⟩
    refine ⟨u.1, by omega, hlt.1, Or.inl ?_⟩
    unfold swc swr
    rw [if_pos ⟨hge.1, hlt.1⟩, e, if_pos rfl, if_pos ⟨Nat.le_refl c, hcm⟩, if_pos rfl]
  · have e1 : u.1 = c := by rcases h with h | h; exact h; exact absurd h e
    refine ⟨u.2, by omega, hlt.2, Or.inr ?_⟩
    unfold swc swr
    rw [if_pos ⟨Nat.le_refl c, hcm⟩, if_pos rfl, if_pos ⟨Nat.le_refl c, hcm⟩, e1, if_pos rfl]
theorem bls_ge {c : Nat} {T : Nat → Nat → Int} : ∀ q, c ≤ (bls c T q).1 ∧ c ≤ (bls c T q).2
  | 0 => ⟨Nat.le_refl c, Nat.le_refl c⟩
  | q + 1 => by
    have ih := bls_ge (c := c) (T := T) q
    have h1 : c ≤ (bl1 c T (c + 1 + q) (bls c T q)).1 ∧ c ≤ (bl1 c T (c + 1 + q) (bls c T q)).2 := by
      unfold bl1; split
      · exact ⟨by show c ≤ c + 1 + q; omega, Nat.le_refl c⟩
      · exact ih
    show c ≤ (bl2 c T (c + 1 + q) (bl1 c T (c + 1 + q) (bls c T q))).1 ∧ c ≤ (bl2 c T (c + 1 + q) (bl1 c T (c + 1 + q) (bls c T q))).2
    unfold bl2; split
    · exact ⟨Nat.le_refl c, by show c ≤ c + 1 + q; omega⟩
    · exact h1
/-- a step on a cross that isn't clear -/
theorem cc1_step {m : Nat} {D : Int} {c : Nat} {T : Nat → Nat → Int} (hT : inr_ m D T) (hcm : c < m) (hn : ¬ ccl m c T = true) :
    0 < brg m c T c c ∧ (T c c ≠ 0 → brg m c T c c ≤ T c c) ∧ (∀ i, c < i → i < m → (T i c ≠ 0 → brg m c T c c ≤ T i c) ∧ (T c i ≠ 0 → brg m c T c c ≤ T c i)) ∧
    cc1 m D c T c c = brg m c T c c ∧ (∀ i, c < i → i < m → cc1 m D c T i c = brg m c T i c % brg m c T c c ∧ cc1 m D c T c i = brg m c T c i % brg m c T c c) := by
  have hlin := bls_lin hT hcm (m - 1 - c) (by omega)
  have hbc := brg_corner (T := T) hcm hlin.1
  have hlt := bls_lt (T := T) hcm (m - 1 - c) (by omega)
  have hex : ∃ i, c < i ∧ i < m ∧ (T i c ≠ 0 ∨ T c i ≠ 0) := Classical.byContradiction fun h => hn (ccl_iff.mpr fun i h1 h2 => by
    constructor
    · exact Classical.byContradiction fun h3 => h ⟨i, h1, h2, Or.inl h3⟩
    · exact Classical.byContradiction fun h3 => h ⟨i, h1, h2, Or.inr h3⟩)
  have hr := hT _ _ hlt.1 hlt.2
  have hpos : 0 < brg m c T c c := by
    obtain ⟨i, h1, h2, h3⟩ := hex
    rw [hbc]
    have h4 := hlin.2.2 i h1 (by omega)
    rcases h3 with h3 | h3
    · have := (h4.1 h3).1; omega
    · have := (h4.2 h3).1; omega
  have hB := brg_rng (k := m) (tr := D) hcm hT
  refine ⟨hpos, fun h => by rw [hbc]; exact (hlin.2.1 h).2, fun i h1 h2 => ⟨fun h => by rw [hbc]; exact ((hlin.2.2 i h1 (by omega)).1 h).2, fun h => by rw [hbc]; exact ((hlin.2.2 i h1 (by omega)).2 h).2⟩, ?_, fun i h1 h2 => ?_⟩
  · unfold cc1
    rw [if_pos hpos, lcs_colc]
    exact congrFun (lrs_c _) c
  · unfold cc1
    rw [if_pos hpos]
    obtain ⟨X, hX⟩ : ∃ X, X = brg m c T := ⟨_, rfl⟩
    rw [← hX] at hpos hB ⊢
    have hrow : lrs m D c (X c c) X (m - 1 - c) c = X c := lrs_c _
    constructor
    · rw [lcs_colc, lrs_col hB hpos rfl hcm _ (by omega) i h1 h2, if_pos (by omega)]
    · rw [lcs_row (fun j h3 h4 => by rw [hrow]; exact hB c j hcm h4) hpos (by rw [hrow]) hcm _ (by omega) i h1 h2, if_pos (by omega), hrow]
theorem mod_half {a b : Int} (hb : 0 < b) (hab : b < a) : 2 * (a % b) < a := by
  have h1 := Int.mul_ediv_add_emod a b
  have h2 := Int.emod_lt_of_pos a hb
  have h3 : 1 ≤ a / b := Int.le_ediv_of_mul_le hb (by omega)
  have h4 : b * 1 ≤ b * (a / b) := Int.mul_le_mul_of_nonneg_left h3 (by omega)
  omega
theorem ccs_clear {m : Nat} {D : Int} (h0 : 0 < D) (hD : D ≤ 2147483648) {c : Nat} {T : Nat → Nat → Int} (hT : inr_ m D T) (hcm : c < m) : ccl m c (ccs m D c T 1000) = true := Classical.byContradiction fun hn => by
  have hnc : ∀ q, q ≤ 1000 → ¬ ccl m c (ccs m D c T q) = true := fun q hq h => by
    have h1 := ccs_stop h (1000 - q)
    rw [show q + (1000 - q) = 1000 by omega] at h1
    rw [h1] at hn; exact hn h
  have hst : ∀ q, q < 1000 → ccs m D c T (q + 1) = cc1 m D c (ccs m D c T q) := fun q hq => if_neg (hnc q (by omega))
  have hrg := fun q => ccs_rng h0 hcm hT q
  obtain ⟨v, hv⟩ : ∃ v : Nat → Int, v = fun q => brg m c (ccs m D c T q) c c := ⟨_, rfl⟩
  have hpos : ∀ q, q ≤ 1000 → 0 < v q := fun q hq => by rw [hv]; exact (cc1_step (hrg q) hcm (hnc q hq)).1
  have hcor : ∀ q, q < 1000 → ccs m D c T (q + 1) c c = v q := fun q hq => by rw [hst q hq, hv]; exact (cc1_step (hrg q) hcm (hnc q (by omega))).2.2.2.1
  have hcr : ∀ q, q < 1000 → ∀ i, c < i → i < m → ccs m D c T (q + 1) i c = brg m c (ccs m D c T q) i c % v q ∧ ccs m D c T (q + 1) c i = brg m c (ccs m D c T q) c i % v q := fun q hq i h1 h2 => by rw [hst q hq, hv]; exact (cc1_step (hrg q) hcm (hnc q (by omega))).2.2.2.2 i h1 h2
  have hdec : ∀ q, q < 1000 → v (q + 1) < v q := fun q hq => by
    have hx := cc1_step (hrg (q + 1)) hcm (hnc (q + 1) (by omega))
    have hex : ∃ i, c < i ∧ i < m ∧ (ccs m D c T (q + 1) i c ≠ 0 ∨ ccs m D c T (q + 1) c i ≠ 0) := Classical.byContradiction fun h => hnc (q + 1) (by omega) (ccl_iff.mpr fun i h1 h2 => by
      constructor
      · exact Classical.byContradiction fun h3 => h ⟨i, h1, h2, Or.inl h3⟩
      · exact Classical.byContradiction fun h3 => h ⟨i, h1, h2, Or.inr h3⟩)
    obtain ⟨i, h1, h2, h3⟩ := hex
    have h4 := hcr q hq i h1 h2
    have h5 := hpos q (by omega)
    have h6 := hx.2.2.1 i h1 h2
    have h7 := Int.emod_lt_of_pos (brg m c (ccs m D c T q) i c) h5
    have h8 := Int.emod_lt_of_pos (brg m c (ccs m D c T q) c i) h5
    have h9 : v (q + 1) = brg m c (ccs m D c T (q + 1)) c c := by rw [hv]
    rcases h3 with h3 | h3
    · have := h6.1 h3; omega
    · have := h6.2 h3; omega
  have hhalf : ∀ q, q + 1 < 1000 → 2 * v (q + 2) ≤ v q := fun q hq => by
    have h1 := hdec q (by omega)
    have h2 : v (q + 2) < v (q + 1) := hdec (q + 1) (by omega)
    have h3 := hpos (q + 1) (by omega)
    have hlin := bls_lin (hrg (q + 1)) hcm (m - 1 - c) (by omega)
    have hbc := brg_corner (T := ccs m D c T (q + 1)) hcm hlin.1
    have hve : v (q + 1) = brg m c (ccs m D c T (q + 1)) c c := by rw [hv]
    have hne : ¬ ((bls c (ccs m D c T (q + 1)) (m - 1 - c)).1 = c ∧ (bls c (ccs m D c T (q + 1)) (m - 1 - c)).2 = c) := fun h => by
      rw [h.1, h.2, hcor q (by omega)] at hbc; omega
    obtain ⟨i, i1, i2, i3⟩ := brg_old hcm (bls_lt (T := ccs m D c T (q + 1)) hcm (m - 1 - c) (by omega)) hlin.1 (bls_ge _) hne
    rw [hcor q (by omega)] at i3
    have h4 := hcr (q + 1) hq i i1 i2
    have h5 := (cc1_step (hrg (q + 2)) hcm (hnc (q + 2) (by omega))).2.2.1 i i1 i2
    have h9 : v (q + 2) = brg m c (ccs m D c T (q + 2)) c c := by rw [hv]
    have hm := mod_half h3 h1
    have hmn := Int.emod_nonneg (v q) (show v (q + 1) ≠ 0 by omega)
    by_cases ez : v q % v (q + 1) = 0
    · have h10 := Int.mul_ediv_add_emod (v q) (v (q + 1))
      rw [ez, Int.add_zero] at h10
      have h11 : 2 ≤ v q / v (q + 1) := Classical.byContradiction fun h12 => by
        have h13 : v (q + 1) * (v q / v (q + 1)) ≤ v (q + 1) * 1 := Int.mul_le_mul_of_nonneg_left (by omega) (by omega)
        omega
      have h14 : v (q + 1) * 2 ≤ v (q + 1) * (v q / v (q + 1)) := Int.mul_le_mul_of_nonneg_left h11 (by omega)
      omega
    · rcases i3 with i3 | i3
      · rw [i3] at h4
        have := h5.1 (by rw [h4.1]; exact ez)
        rw [h4.1] at this; omega
      · rw [i3] at h4
        have := h5.2 (by rw [h4.2]; exact ez)
        rw [h4.2] at this; omega
  have hpow : ∀ j : Nat, 2 * j ≤ 1000 → v (2 * j) * 2 ^ j ≤ v 0 := by
    intro j
    induction j with
    | zero => intro _; rw [Nat.mul_zero, Int.pow_zero, Int.mul_one]; exact Int.le_refl _
    | succ j ih =>
      intro hj
      have h1 := ih (by omega)
      have h2 := hhalf (2 * j) (by omega)
      have h3 : (0 : Int) ≤ 2 ^ j := Int.le_of_lt (Int.pow_pos (by omega))
      have h4 := Int.mul_le_mul_of_nonneg_right h2 h3
      rw [Int.pow_succ, show 2 * (j + 1) = 2 * j + 2 by omega]
      have e : v (2 * j + 2) * (2 ^ j * 2) = 2 * v (2 * j + 2) * 2 ^ j := by rw [Int.mul_comm (2 ^ j) 2, ← Int.mul_assoc, Int.mul_comm (v _) 2]
      rw [e]; omega
  have h1 : v 62 * 2 ^ 31 ≤ v 0 := hpow 31 (by omega)
  have h2 := hpos 62 (by omega)
  have h3 : v 0 < D := by
    rw [hv]; exact (brg_rng (k := m) (tr := D) hcm (hrg 0) c c hcm hcm).2
  have h4 : (2 : Int) ^ 31 = 2147483648 := by decide
  rw [h4] at h1
  omega
end Clear
