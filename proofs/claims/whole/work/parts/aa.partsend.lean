/-! The parts' end: the rounds' products are the divisors of the minors -/
section PartsEnd
variable {m : Nat} {D : Int}
def zc (m c : Nat) (T : Nat → Nat → Int) : Prop := ∀ a i, a < c → a < i → i < m → T i a = 0 ∧ T a i = 0
/-- a step at corner c keeps the divisors and what is clear -/
def stp (m : Nat) (D : Int) (c : Nat) (T T' : Nat → Nat → Int) : Prop := zc m c T → (∀ k g, gx m D T k g ↔ gx m D T' k g) ∧ zc m c T' ∧ ∀ q, q < c → T' q q = T q q
theorem stp.rf {c : Nat} {T : Nat → Nat → Int} : stp m D c T T := fun h => ⟨fun _ _ => Iff.rfl, h, fun _ _ => rfl⟩
theorem stp.tr {c : Nat} {T1 T2 T3 : Nat → Nat → Int} (h1 : stp m D c T1 T2) (h2 : stp m D c T2 T3) : stp m D c T1 T3 := fun h => by
  obtain ⟨a1, a2, a3⟩ := h1 h
  obtain ⟨b1, b2, b3⟩ := h2 a2
  exact ⟨fun k g => (a1 k g).trans (b1 k g), b2, fun q hq => (b3 q hq).trans (a3 q hq)⟩
theorem emod_z (x D : Int) : x % D = x + D * (-(x / D)) := by have := Int.mul_ediv_add_emod x D; rw [Int.mul_neg]; omega
theorem rwf_stp {c w : Nat} {t : Int} {T : Nat → Nat → Int} (hcw : c < w) (hw : w < m) : stp m D c T (rwf D c t w T m) := fun hz => by
  refine ⟨fun k g => radd (a := c) (w := w) (t := t) (z := fun j => if c ≤ j then -((T w j - t * T c j) / D) else 0) (by omega) hw (by omega) (fun j hj => ?_) (fun r hr j => congrFun (rwf_o hr) j), fun a i h1 h2 h3 => ?_, fun q hq => congrFun (rwf_o (by omega)) q⟩
  · unfold rwf
    by_cases e : c ≤ j
    · rw [if_pos ⟨rfl, e, hj⟩, if_pos e]; exact emod_z _ _
    · rw [if_neg (fun h => e h.2.1), if_neg e, (hz j c (by omega) (by omega) (by omega)).1, Int.mul_zero, Int.mul_zero]; omega
  · have h4 := hz a i h1 h2 h3
    constructor
    · unfold rwf; rw [if_neg (by omega)]; exact h4.1
    · rw [rwf_o (by omega)]; exact h4.2
theorem cwf_stp {c w : Nat} {t : Int} {T : Nat → Nat → Int} (hcw : c < w) (hw : w < m) : stp m D c T (cwf D c t w T m) := fun hz => by
  refine ⟨fun k g => cadd (a := c) (w := w) (t := t) (z := fun r => if c ≤ r then -((T r w - t * T r c) / D) else 0) (by omega) hw (by omega) (fun r hr => ?_) (fun j hj r => cwf_o hj), fun a i h1 h2 h3 => ?_, fun q hq => cwf_o (by omega)⟩
  · unfold cwf
    by_cases e : c ≤ r
    · rw [if_pos ⟨rfl, e, hr⟩, if_pos e]; exact emod_z _ _
    · rw [if_neg (fun h => e h.2.1), if_neg e, (hz r c (by omega) (by omega) (by omega)).2, Int.mul_zero, Int.mul_zero]; omega
  · have h4 := hz a i h1 h2 h3
    constructor
    · rw [cwf_o (by omega)]; exact h4.1
    · unfold cwf; rw [if_neg (by omega)]; exact h4.2
theorem swr_stp {c w : Nat} {T : Nat → Nat → Int} (hcw : c ≤ w) (hw : w < m) : stp m D c T (swr c w T m) := fun hz => by
  refine ⟨fun k g => rswp (a := w) (b := c) hw (by omega) (fun r j hr hj => ?_), fun a i h1 h2 h3 => ?_, fun q hq => ?_⟩
  · unfold swr swp
    by_cases e : c ≤ j
    · rw [if_pos ⟨e, hj⟩]
      by_cases e1 : r = w
      · rw [if_pos e1, if_pos e1]
      · rw [if_neg e1, if_neg e1]
        by_cases e2 : r = c
        · rw [if_pos e2, if_pos e2]
        · rw [if_neg e2, if_neg e2]
    · rw [if_neg (fun h => e h.1)]
      have h1 := (hz j c (by omega) (by omega) (by omega)).1
      have h2 := (hz j w (by omega) (by omega) hw).1
      by_cases e1 : r = w
      · rw [if_pos e1, e1, h1, h2]
      · rw [if_neg e1]
        by_cases e2 : r = c
        · rw [if_pos e2, e2, h1, h2]
        · rw [if_neg e2]
  · have h4 := hz a i h1 h2 h3
    constructor
    · unfold swr; rw [if_neg (by omega)]; exact h4.1
    · unfold swr
      rw [if_neg (show ¬ a = w by omega), if_neg (show ¬ a = c by omega)]
      split
      · exact h4.2
      · exact h4.2
  · unfold swr; rw [if_neg (by omega)]
theorem swc_stp {c w : Nat} {T : Nat → Nat → Int} (hcw : c ≤ w) (hw : w < m) : stp m D c T (swc c w T m) := fun hz => by
  refine ⟨fun k g => cswp (a := w) (b := c) hw (by omega) (fun r j hr hj => ?_), fun a i h1 h2 h3 => ?_, fun q hq => ?_⟩
  · unfold swc swp
    by_cases e : c ≤ r
    · rw [if_pos ⟨e, hr⟩]
      by_cases e1 : j = w
      · rw [if_pos e1, if_pos e1]
      · rw [if_neg e1, if_neg e1]
        by_cases e2 : j = c
        · rw [if_pos e2, if_pos e2]
        · rw [if_neg e2, if_neg e2]
    · rw [if_neg (fun h => e h.1)]
      have h1 := (hz r c (by omega) (by omega) (by omega)).2
      have h2 := (hz r w (by omega) (by omega) hw).2
      by_cases e1 : j = w
      · rw [if_pos e1, e1, h1, h2]
      · rw [if_neg e1]
        by_cases e2 : j = c
        · rw [if_pos e2, e2, h1, h2]
        · rw [if_neg e2]
  · have h4 := hz a i h1 h2 h3
    constructor
    · unfold swc
      rw [if_neg (show ¬ a = w by omega), if_neg (show ¬ a = c by omega)]
      split
      · exact h4.1
      · exact h4.1
    · unfold swc; rw [if_neg (by omega)]; exact h4.2
  · unfold swc; rw [if_neg (by omega)]
theorem lrs_stp {c : Nat} {v : Int} {T : Nat → Nat → Int} : ∀ q, c + q < m → stp m D c T (lrs m D c v T q)
  | 0, _ => stp.rf
  | q + 1, hq => (lrs_stp q (by omega)).tr (rwf_stp (by omega) (by omega))
theorem lcs_stp {c : Nat} {v : Int} {T : Nat → Nat → Int} : ∀ q, c + q < m → stp m D c T (lcs m D c v T q)
  | 0, _ => stp.rf
  | q + 1, hq => (lcs_stp q (by omega)).tr (cwf_stp (by omega) (by omega))
theorem brg_stp {c : Nat} {T : Nat → Nat → Int} (hcm : c < m) : stp m D c T (brg m c T) :=
  (swr_stp (bls_ge _).1 (bls_lt hcm _ (by omega)).1).tr (swc_stp (bls_ge _).2 (bls_lt hcm _ (by omega)).2)
theorem cc1_stp {c : Nat} {T : Nat → Nat → Int} (hcm : c < m) : stp m D c T (cc1 m D c T) := by
  unfold cc1; split
  · exact (brg_stp hcm).tr ((lrs_stp _ (by omega)).tr (lcs_stp _ (by omega)))
  · exact brg_stp hcm
theorem ccs_stp {c : Nat} {T : Nat → Nat → Int} (hcm : c < m) : ∀ q, stp m D c T (ccs m D c T q)
  | 0 => stp.rf
  | q + 1 => by
    show stp m D c T (if ccl m c (ccs m D c T q) = true then ccs m D c T q else cc1 m D c (ccs m D c T q))
    split
    · exact ccs_stp hcm q
    · exact (ccs_stp hcm q).tr (cc1_stp hcm)
theorem spl_kept (h0 : 0 < D) (hD : D ≤ 2147483648) {T : Nat → Nat → Int} (hT : inr_ m D T) : ∀ c, c ≤ m → (∀ k g, gx m D T k g ↔ gx m D (spl m D T c) k g) ∧ zc m c (spl m D T c) ∧ ∀ q, q < c → spl m D T c q q = spl m D T (q + 1) q q
  | 0, _ => ⟨fun _ _ => Iff.rfl, fun a i h => absurd h (Nat.not_lt_zero _), fun q h => absurd h (Nat.not_lt_zero _)⟩
  | c + 1, hc => by
    obtain ⟨a1, a2, a3⟩ := spl_kept h0 hD hT c (by omega)
    obtain ⟨b1, b2, b3⟩ := ccs_stp (D := D) (show c < m by omega) 1000 a2
    have h1 := ccl_iff.mp (ccs_clear h0 hD (spl_rng h0 hT c (by omega)) (show c < m by omega))
    refine ⟨fun k g => (a1 k g).trans (b1 k g), fun a i q1 q2 q3 => ?_, fun q hq => ?_⟩
    · by_cases e : a = c
      · subst e; exact h1 i q2 q3
      · exact b2 a i (by omega) q2 q3
    · by_cases e : q = c
      · subst e; rfl
      · exact (b3 q (by omega)).trans (a3 q (by omega))
theorem gx_diag (h0 : 0 < D) {T : Nat → Nat → Int} (hz : ∀ i j, i < m → j < m → i ≠ j → T i j = 0) {r : Nat → Int} (hr : ∀ q, q < m → r q = ((Nat.gcd (T q q).natAbs D.natAbs : Nat) : Int)) {k : Nat} {g : Int} : gx m D T k g ↔ gdv k m m (dgm r) g := by
  constructor
  · intro h
    refine gdv_row (fun q hq => ?_) h
    obtain ⟨x, y, hxy⟩ := bez (T q q).natAbs D.natAbs
    obtain ⟨s, hs⟩ : ∃ s : Int, ((T q q).natAbs : Int) = T q q * s := by
      rcases Int.lt_or_le (T q q) 0 with e | e
      · exact ⟨-1, by omega⟩
      · exact ⟨1, by omega⟩
    refine ⟨fun l => if l = q then s * x else if l = m + q then y else 0, fun j hj => ?_⟩
    rw [ext_sum _ hj]
    have e1 : gs (fun l => (if l = q then s * x else if l = m + q then y else 0) * T l j) m = gs (fun l => if l = q then s * x * T l j else 0) m := gs_cong (fun l hl => by
      by_cases e : l = q
      · rw [if_pos e, if_pos e]
      · rw [if_neg e, if_neg e, if_neg (by omega), Int.zero_mul])
    rw [e1, gs_one (fun l => s * x * T l j) hq, if_neg (show ¬ m + j = q by omega)]
    unfold dgm
    by_cases e : q = j
    · subst e
      rw [if_pos rfl, if_pos rfl, hr q hq, hxy, hs]
      rw [show ((D.natAbs : Nat) : Int) = D by omega, Int.mul_comm D y, Int.mul_assoc (T q q), Int.mul_comm (T q q)]
    · rw [if_neg e, if_neg (show ¬ m + j = m + q by omega), hz q j hq hj e, Int.mul_zero, Int.zero_mul]; rfl
  · intro h
    refine gdv_row (fun q hq => ?_) h
    have hd : ∀ i, i < m → r i ∣ T i i ∧ r i ∣ D := fun i hi => by
      rw [hr i hi]
      exact ⟨Int.ofNat_dvd_left.mpr (Nat.gcd_dvd_left _ _), Int.ofNat_dvd_left.mpr (Nat.gcd_dvd_right _ _)⟩
    obtain ⟨i, hi, v, hv⟩ : ∃ i, i < m ∧ ∃ v : Int, ∀ j, j < m → ext m D T q j = if i = j then v * r i else 0 := by
      by_cases e : q < m
      · obtain ⟨v, hv⟩ := (hd q e).1
        refine ⟨q, e, v, fun j hj => ?_⟩
        unfold ext; rw [if_pos e]
        by_cases e2 : q = j
        · subst e2; rw [if_pos rfl, hv, Int.mul_comm]
        · rw [if_neg e2]; exact hz q j e hj e2
      · obtain ⟨v, hv⟩ := (hd (q - m) (by omega)).2
        refine ⟨q - m, by omega, v, fun j hj => ?_⟩
        unfold ext; rw [if_neg e]
        by_cases e2 : q - m = j
        · rw [if_pos e2, if_pos e2, Int.mul_comm]; exact hv
        · rw [if_neg e2, if_neg e2]
    refine ⟨fun l => if l = i then v else 0, fun j hj => ?_⟩
    have e1 : gs (fun l => (if l = i then v else 0) * dgm r l j) m = gs (fun l => if l = i then v * dgm r l j else 0) m := gs_cong (fun l hl => by
      by_cases e : l = i
      · rw [if_pos e, if_pos e]
      · rw [if_neg e, if_neg e, Int.zero_mul])
    rw [e1, gs_one (fun l => v * dgm r l j) hi, hv j hj]
    unfold dgm
    by_cases e : i = j
    · rw [if_pos e, if_pos e]
    · rw [if_neg e, if_neg e, Int.mul_zero]
/-- the table itself: its determinant's multiples lie in it -/
theorem gx_own {L : Nat → Nat → Int} (hD : D = dt m L) {k : Nat} {g : Int} : gx m D L k g ↔ gdv k m m L g := by
  constructor
  · intro h
    refine gdv_row (fun q hq => ⟨fun l => if l = q then 1 else 0, fun j hj => ?_⟩) h
    rw [ext_sum _ hj, if_neg (show ¬ m + j = q by omega)]
    have e1 : gs (fun l => (if l = q then (1 : Int) else 0) * L l j) m = gs (fun l => if l = q then L l j else 0) m := gs_cong (fun l hl => by
      by_cases e : l = q
      · rw [if_pos e, if_pos e, Int.one_mul]
      · rw [if_neg e, if_neg e, Int.zero_mul])
    rw [e1, gs_one (fun l => L l j) hq, Int.zero_mul]; exact (Int.add_zero _).symm
  · intro h
    refine gdv_row (fun q hq => ?_) h
    by_cases e : q < m
    · refine ⟨fun l => if l = q then 1 else 0, fun j hj => ?_⟩
      have e1 : gs (fun l => (if l = q then (1 : Int) else 0) * L l j) m = gs (fun l => if l = q then L l j else 0) m := gs_cong (fun l hl => by
        by_cases e : l = q
        · rw [if_pos e, if_pos e, Int.one_mul]
        · rw [if_neg e, if_neg e, Int.zero_mul])
      rw [e1, gs_one (fun l => L l j) e]
      unfold ext; rw [if_pos e]
    · refine ⟨fun l => aj m L (q - m) l, fun j hj => ?_⟩
      rw [aj_l L (show q - m < m by omega) hj, hD]
      unfold ext; rw [if_neg e]
theorem gx_mod {L T : Nat → Nat → Int} (h : ∀ i j, i < m → j < m → T i j = L i j % D) {k : Nat} {g : Int} : gx m D L k g ↔ gx m D T k g := by
  have h1 : ∀ (A : Nat → Nat → Int) (q j : Nat), q < m → gs (fun l => (if l = q then (1 : Int) else 0) * A l j) m = A q j := fun A q j hq => by
    have e1 : gs (fun l => (if l = q then (1 : Int) else 0) * A l j) m = gs (fun l => if l = q then A l j else 0) m := gs_cong (fun l hl => by
      by_cases e : l = q
      · rw [if_pos e, if_pos e, Int.one_mul]
      · rw [if_neg e, if_neg e, Int.zero_mul])
    rw [e1, gs_one (fun l => A l j) hq]
  exact ⟨eq_row (fun r hr => ⟨fun l => if l = r then 1 else 0, fun j => -(L r j / D), fun j hj => by rw [h1 L r j hr, h r j hr hj]; exact emod_z _ _⟩),
    eq_row (fun r hr => ⟨fun l => if l = r then 1 else 0, fun j => L r j / D, fun j hj => by rw [h1 T r j hr, h r j hr hj]; show L r j = L r j % D + D * (L r j / D); have := Int.mul_ediv_add_emod (L r j) D; omega⟩)⟩
theorem ons_chain {R : Nat → Int} (hR : ∀ a, a < m → 1 ≤ R a) (hch : ∀ a b, a ≤ b → b < m → R a ∣ R b) : ∀ q, q ≤ m → ∀ a, a < q → (R a = 1 ↔ a < ons R q)
  | 0, _, a, h => absurd h (Nat.not_lt_zero _)
  | q + 1, hq, a, ha => by
    have ih := ons_chain hR hch q (by omega)
    have hle := ons_le R q
    show R a = 1 ↔ a < ons R q + (if R q = 1 then 1 else 0)
    by_cases e : R q = 1
    · rw [if_pos e]
      have hall : ∀ b, b ≤ q → R b = 1 := fun b hb => by
        have h1 := hch b q hb (by omega)
        rw [e] at h1
        have h2 := Int.le_of_dvd (by omega) h1
        have h3 := hR b (by omega)
        omega
      have h4 : q ≤ ons R q := by
        rcases Nat.lt_or_ge (ons R q) q with h5 | h5
        · have := (ih (ons R q) h5).mp (hall _ (by omega)); omega
        · exact h5
      exact ⟨fun _ => by omega, fun _ => hall a (by omega)⟩
    · rw [if_neg e, Nat.add_zero]
      by_cases e2 : a = q
      · rw [e2]; exact ⟨fun h => absurd h e, fun h => by omega⟩
      · exact ih a (by omega)
theorem ons_at {R : Nat → Int} (hR : ∀ a, a < m → 1 ≤ R a) (hch : ∀ a b, a ≤ b → b < m → R a ∣ R b) {a : Nat} (ha : a < m) (hn : R a ≠ 1) : ons R a = ons R m := by
  have h1 := ons_chain hR hch m (Nat.le_refl m)
  have h2 := ons_chain hR hch a (by omega)
  have h3 := ons_le R a
  have h4 : ons R m ≤ a := by
    rcases Nat.lt_or_ge a (ons R m) with h | h
    · exact absurd ((h1 a ha).mpr h) hn
    · exact h
  rcases Nat.lt_trichotomy (ons R a) (ons R m) with h | h | h
  · have := (h2 (ons R a) (by omega)).mp ((h1 (ons R a) (by omega)).mpr h); omega
  · exact h
  · have := (h1 (ons R m) (by omega)).mp ((h2 (ons R m) (by omega)).mpr h); omega
theorem cnd_ons {f : Nat → Nat} {R : Nat → Int} (h : ∀ a, a < m → (f (a + 1) = f a ↔ R a = 1)) : ∀ q, q ≤ m → cnd f q + ons R q = q
  | 0, _ => rfl
  | q + 1, hq => by
    have ih := cnd_ons h q (by omega)
    show cnd f q + (if f (q + 1) = f q then 0 else 1) + (ons R q + (if R q = 1 then 1 else 0)) = q + 1
    by_cases e : R q = 1
    · rw [if_pos e, if_pos ((h q (by omega)).mpr e)]; omega
    · rw [if_neg e, if_neg (fun h1 => e ((h q (by omega)).mp h1))]; omega
theorem gp_pos {R : Nat → Int} : ∀ k, (∀ a, a < k → 1 ≤ R a) → 1 ≤ gp R k
  | 0, _ => by show (1 : Int) ≤ 1; omega
  | k + 1, h => by
    have h1 := gp_pos k (fun a ha => h a (by omega))
    have h2 := h k (by omega)
    show 1 ≤ gp R k * R k
    have := Int.mul_le_mul h1 h2 (by omega) (by omega)
    omega
/-- the class's rounds and the model's divisors -/
theorem parts_same {n : Nat} {M : Nat → Nat → Int} (hy : yok n M) (hn : 2 ≤ n) (hn8 : n ≤ 8) (h0 : 0 < trd n M) (hD : trd n M ≤ 2147483648) (r : Nat → Int) (T : Nat → Nat → Int) {R : Nat → Int} (hR : R = rdp n M (dg n M) (trd n M) r T) : (∀ a, a < n - 1 → 1 ≤ R a) ∧ (∀ a b, a ≤ b → b < n - 1 → R a ∣ R b) ∧ ∀ a, a < n - 1 → ((dvs n M (a + 1) : Nat) : Int) = ((dvs n M a : Nat) : Int) * R a ∧ 1 ≤ dvs n M a := by
  obtain ⟨T0, hT0⟩ : ∃ T0, T0 = pfp (n - 1) M (dg n M) (trd n M) T (n - 1) 0 := ⟨_, rfl⟩
  obtain ⟨m, hm⟩ : ∃ m, m = n - 1 := ⟨_, rfl⟩
  obtain ⟨D, hDD⟩ : ∃ D, D = trd n M := ⟨_, rfl⟩
  have hT0e : ∀ i j, i < m → j < m → T0 i j = lpm n M i j % D := fun i j hi hj => by
    rw [hT0, hDD]; unfold pfp
    rw [if_pos ⟨by omega, by omega, by omega⟩]
    congr 1
    unfold pen lpm lap
    by_cases e : i = j
    · rw [if_pos e, if_pos (by omega)]
    · rw [if_neg e, if_neg (by omega)]
  have hrng : inr_ m D T0 := fun i j hi hj => by
    rw [hT0e i j hi hj]
    exact ⟨Int.emod_nonneg _ (by omega), Int.emod_lt_of_pos _ (by omega)⟩
  have hRe : R = mci m (rdd m D T0 r m) m := by rw [hR, hm, hT0, hDD]; rfl
  have hdv : rdv m D (rdd m D T0 r m) := rdd_dv (by omega)
  have hRd := mci_dv hdv m (Nat.le_refl m)
  rw [← hRe] at hRd
  have hch := mci_chn (r := rdd m D T0 r m) m (Nat.le_refl m)
  rw [← hRe] at hch
  have hch2 : ∀ a b, a ≤ b → b < m → R a ∣ R b := fun a b h1 h2 => hch a b (by omega) h1 h2
  obtain ⟨s1, s2, s3⟩ := spl_kept (show 0 < D by omega) (show D ≤ 2147483648 by omega) hrng m (Nat.le_refl m)
  have key : ∀ k, k ≤ m → ((dvg n M k : Nat) : Int) = gp R k := fun k hk => by
    have hkey : ∀ c : Nat, c ∣ dvg n M k ↔ (c : Int) ∣ gp R k := fun c => by
      rw [dvg_gdv ⟨by omega, by omega⟩, ← hm, ← gx_own (D := D) (by rw [hDD, hm]; rfl), gx_mod hT0e, s1 k c, gx_diag (show 0 < D by omega) (r := rdd m D T0 r m) (fun i j hi hj hij => by
        rcases Nat.lt_or_ge i j with h | h
        · exact (s2 i j hi h hj).2
        · exact (s2 j i hj (by omega) hi).1) (fun q hq => by
        unfold rdd; rw [if_pos hq, s3 q hq]), gdv_dgm, ← mci_pdv hdv m (Nat.le_refl m), ← hRe, pdv_iff hk hch2]
    have hp := gp_pos k (fun a ha => (hRd a (by omega)).1)
    have e1 := (hkey (dvg n M k)).mp (Nat.dvd_refl _)
    have e2 := (hkey (gp R k).natAbs).mpr (by rw [show (((gp R k).natAbs : Nat) : Int) = gp R k by omega]; exact Int.dvd_refl _)
    have e3 : dvg n M k ∣ (gp R k).natAbs := Int.ofNat_dvd_left.mp e1
    have := Nat.dvd_antisymm e3 e2
    omega
  have key2 : ∀ k, k ≤ m → ((dvs n M k : Nat) : Int) = gp R k := fun k hk => by
    unfold dvs
    by_cases e : k = 0
    · rw [if_pos e, e]; rfl
    · rw [if_neg e]; exact key k hk
  refine ⟨fun a ha => (hRd a (by omega)).1, fun a b h1 h2 => hch2 a b h1 (by omega), fun a ha => ⟨?_, ?_⟩⟩
  · rw [key2 (a + 1) (by omega), key2 a (by omega)]; rfl
  · have := gp_pos a (fun b hb => (hRd b (by omega)).1)
    have := key2 a (by omega)
    omega
/-- their answers -/
theorem parts_eq {n : Nat} {M : Nat → Nat → Int} (hy : yok n M) (hn : 2 ≤ n) (hn8 : n ≤ 8) (h0 : 0 < trd n M) (hD : trd n M ≤ 2147483648) (r : Nat → Int) (T : Nat → Nat → Int) {R : Nat → Int} (hR : R = rdp n M (dg n M) (trd n M) r T) : cnd (dvs n M) (n - 1) + ons R (n - 1) = n - 1 ∧ ∀ a, a < n - 1 → dvs n M (a + 1) ≠ dvs n M a → a = ons R (n - 1) + cnd (dvs n M) a ∧ ((dvs n M (a + 1) / dvs n M a : Nat) : Int) = R a := by
  obtain ⟨h1, h2, h3⟩ := parts_same hy hn hn8 h0 hD r T hR
  have h4 : ∀ a, a < n - 1 → (dvs n M (a + 1) = dvs n M a ↔ R a = 1) := fun a ha => by
    obtain ⟨e1, e2⟩ := h3 a ha
    constructor
    · intro e
      rw [e] at e1
      have h5 : ((dvs n M a : Nat) : Int) * (R a - 1) = 0 := by rw [Int.mul_sub, Int.mul_one]; omega
      rcases Int.mul_eq_zero.mp h5 with h6 | h6
      · omega
      · omega
    · intro e
      rw [e, Int.mul_one] at e1; omega
  have h5 := cnd_ons h4
  refine ⟨h5 _ (Nat.le_refl _), fun a ha hne => ?_⟩
  obtain ⟨e1, e2⟩ := h3 a ha
  have h6 := ons_at h1 h2 ha (fun e => hne ((h4 a ha).mpr e))
  have h7 := h5 a (by omega)
  refine ⟨by omega, ?_⟩
  rw [Int.natCast_ediv, e1]
  exact Int.mul_ediv_cancel_left _ (by omega)
end PartsEnd
