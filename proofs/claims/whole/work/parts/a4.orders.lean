/-! Orders and likeness: settled rows and raw ones differ by multiples of the trees -/
section Orders
variable {n : Nat} {M : Nat → Nat → Int}
theorem cr_sub (k : Nat) (A : Nat → Nat → Int) (x y : Nat → Int) {i : Nat} (hi : i < k) : cr k A (fun r => x r - y r) i = cr k A x i - cr k A y i := by
  rw [cr_aj A _ hi, cr_aj A _ hi, cr_aj A _ hi, ← gs_sub]
  exact gs_cong (fun j _ => Int.mul_sub _ _ _)
theorem lpm_lpy (hy : yok n M) {u : Nat → Int} (h0 : u 0 = 0) {r : Nat} (hr : r < n - 1) : gs (fun c => lpm n M r c * u (c + 1)) (n - 1) = lpy n M u (r + 1) := by
  have h1 : lpy n M u (r + 1) = dg n M (r + 1) * u (r + 1) - gs (fun q => M (r + 1) q * u q) n := by
    unfold lpy
    have : gs (fun q => M (r + 1) q * (u (r + 1) - u q)) n = gs (fun q => M (r + 1) q * u (r + 1) - M (r + 1) q * u q) n := gs_cong (fun q _ => Int.mul_sub _ _ _)
    rw [this, gs_sub, gs_mulr]; rfl
  have h2 : gs (fun q => M (r + 1) q * u q) n = gs (fun c => M (r + 1) (c + 1) * u (c + 1)) (n - 1) := by
    obtain ⟨m, rfl⟩ : ∃ m, n = m + 1 := ⟨n - 1, by omega⟩
    rw [gs_first, h0, Int.mul_zero, Int.zero_add]; rfl
  have h3 : gs (fun c => lpm n M r c * u (c + 1)) (n - 1) = gs (fun c => (if c = r then dg n M (r + 1) * u (c + 1) else 0) - M (r + 1) (c + 1) * u (c + 1)) (n - 1) := gs_cong (fun c _ => by
    unfold lpm lap
    by_cases e : c = r
    · rw [if_pos e, e, if_pos rfl, hy.2.2.2.2.1]; omega
    · rw [if_neg e, if_neg (by omega), Int.neg_mul]; omega)
  rw [h1, h2, h3, gs_sub, gs_one (fun c => dg n M (r + 1) * u (c + 1)) hr]
theorem cr_lpy (hy : yok n M) {u : Nat → Int} (h0 : u 0 = 0) {i : Nat} (hi : i < n - 1) : cr (n - 1) (lpm n M) (fun q => lpy n M u (q + 1)) i = trd n M * u (i + 1) :=
  cr_sol (x := fun j => u (j + 1)) (fun r hr => lpm_lpy hy h0 hr) hi
theorem af_lpy (g u : Nat → Int) (p : Nat) : af n M g u p = g p - lpy n M u p := by
  unfold af lpy
  have : gs (fun q => M p q * (u p - u q)) n = gs (fun q => M p q * u p - M p q * u q) n := gs_cong (fun q _ => Int.mul_sub _ _ _)
  rw [this, gs_sub, gs_mulr]
  show g p - dg n M p * u p + gs (fun q => M p q * u q) n = g p - (dg n M p * u p - gs (fun q => M p q * u q) n)
  omega
theorem cr_settled (hy : yok n M) {g h so u v : Nat → Int} (hu : stl n M g u) (hv : stl n M h v) (hso : ∀ q, 1 ≤ q → q < n → so q = sti n M g q - sti n M h q) {i : Nat} (hi : i < n - 1) :
    cr (n - 1) (lpm n M) (fun q => so (q + 1)) i = cr (n - 1) (lpm n M) (fun q => g (q + 1) - h (q + 1)) i - trd n M * (u (i + 1) - v (i + 1)) := by
  have e : cr (n - 1) (lpm n M) (fun q => so (q + 1)) i = cr (n - 1) (lpm n M) (fun q => (g (q + 1) - h (q + 1)) - (lpy n M u (q + 1) - lpy n M v (q + 1))) i := cr_cong (fun _ _ _ _ => rfl) (fun r hr => by
    rw [hso (r + 1) (by omega) (by omega)]
    unfold sti
    rw [stv_eq hu, stv_eq hv, af_lpy, af_lpy]; omega)
  rw [e, cr_sub _ _ (fun q => g (q + 1) - h (q + 1)) (fun q => lpy n M u (q + 1) - lpy n M v (q + 1)) hi, cr_sub _ _ (fun q => lpy n M u (q + 1)) (fun q => lpy n M v (q + 1)) hi, cr_lpy hy hu.2.1 hi, cr_lpy hy hv.2.1 hi, Int.mul_sub]
theorem cmg_dvd {T : Nat → Nat → Int} {a d : Nat} : ∀ {k : Nat}, d ∣ cmg T a k ↔ d ∣ a ∧ ∀ r, 1 ≤ r → r ≤ k → d ∣ (T r 0).natAbs
  | 0 => ⟨fun h => ⟨h, fun r h1 h2 => by omega⟩, fun h => h.1⟩
  | k + 1 => by
    show d ∣ Nat.gcd (cmg T a k) (T (k + 1) 0).natAbs ↔ _
    rw [Nat.dvd_gcd_iff, cmg_dvd]
    exact ⟨fun h => ⟨h.1.1, fun r h1 h2 => by
      rcases Nat.lt_or_ge k r with e | e
      · rw [show r = k + 1 by omega]; exact h.2
      · exact h.1.2 r h1 e⟩, fun h => ⟨⟨h.1, fun r h1 h2 => h.2 r h1 (by omega)⟩, h.2 (k + 1) (by omega) (Nat.le_refl _)⟩⟩
theorem odg_dvd {d9 : Nat → Int} {d : Nat} : ∀ {k : Nat}, d ∣ odg n M d9 k ↔ d ∣ (trd n M).natAbs ∧ ∀ r, 1 ≤ r → r ≤ k → d ∣ (trn n M d9 r (n - 1)).natAbs
  | 0 => ⟨fun h => ⟨h, fun r h1 h2 => by omega⟩, fun h => h.1⟩
  | k + 1 => by
    show d ∣ Nat.gcd (odg n M d9 k) (trn n M d9 (k + 1) (n - 1)).natAbs ↔ _
    rw [Nat.dvd_gcd_iff, odg_dvd]
    exact ⟨fun h => ⟨h.1.1, fun r h1 h2 => by
      rcases Nat.lt_or_ge k r with e | e
      · rw [show r = k + 1 by omega]; exact h.2
      · exact h.1.2 r h1 e⟩, fun h => ⟨⟨h.1, fun r h1 h2 => h.2 r h1 (by omega)⟩, h.2 (k + 1) (by omega) (Nat.le_refl _)⟩⟩
/-- the class's common divisor is the model's -/
theorem cmg_odg (hy : yok n M) (hc : cn n M) {g h so u v : Nat → Int} {T : Nat → Nat → Int} (hu : stl n M g u) (hv : stl n M h v) (hso : ∀ q, 1 ≤ q → q < n → so q = sti n M g q - sti n M h q) :
    cmg (slv n (tfp n M (dg n M) so T n 0) (n - 1)).1 (slv n (tfp n M (dg n M) so T n 0) (n - 1)).2.natAbs (n - 1) = odg n M (fun q => g q - h q) (n - 1) := by
  have hD : (slv n (tfp n M (dg n M) so T n 0) (n - 1)).2 = trd n M := (slv_state hy hc (tfp_lap (S := so) (T := T)) (n - 1) (Nat.le_refl _)).1
  have hx : ∀ r, 1 ≤ r → r ≤ n - 1 → (slv n (tfp n M (dg n M) so T n 0) (n - 1)).1 r 0 = trn n M (fun q => g q - h q) r (n - 1) - trd n M * (u r - v r) := fun r h1 h2 => by
    obtain ⟨i, rfl⟩ : ∃ i, r = i + 1 := ⟨r - 1, by omega⟩
    rw [slv_col hy hc (by omega), trn_cr h1 (by omega), cr_settled hy hu hv hso (by omega)]
    rfl
  have hdv : ∀ (d : Nat) r, 1 ≤ r → r ≤ n - 1 → d ∣ (trd n M).natAbs → (d ∣ ((slv n (tfp n M (dg n M) so T n 0) (n - 1)).1 r 0).natAbs ↔ d ∣ (trn n M (fun q => g q - h q) r (n - 1)).natAbs) := fun d r h1 h2 h3 => by
    rw [← Int.ofNat_dvd_left, ← Int.ofNat_dvd_left, hx r h1 h2]
    have h4 : (d : Int) ∣ trd n M * (u r - v r) := Int.dvd_trans (Int.ofNat_dvd_left.mpr h3) (Int.dvd_mul_right _ _)
    exact ⟨fun h5 => (Int.dvd_iff_dvd_of_dvd_sub (by rw [Int.sub_sub_self]; exact h4)).mpr h5, fun h5 => Int.dvd_sub h5 h4⟩
  rw [hD]
  apply Nat.dvd_antisymm
  · refine odg_dvd.mpr ?_
    obtain ⟨a, b⟩ := cmg_dvd.mp (Nat.dvd_refl (cmg (slv n (tfp n M (dg n M) so T n 0) (n - 1)).1 (trd n M).natAbs (n - 1)))
    exact ⟨a, fun r h1 h2 => (hdv _ r h1 h2 a).mp (b r h1 h2)⟩
  · refine cmg_dvd.mpr ?_
    obtain ⟨a, b⟩ := odg_dvd.mp (Nat.dvd_refl (odg n M (fun q => g q - h q) (n - 1)))
    exact ⟨a, fun r h1 h2 => (hdv _ r h1 h2 a).mpr (b r h1 h2)⟩
theorem tms_odg (hy : yok n M) (hc : cn n M) {g h so u v : Nat → Int} {T : Nat → Nat → Int} (hu : stl n M g u) (hv : stl n M h v) (hso : ∀ q, 1 ≤ q → q < n → so q = sti n M g q - sti n M h q) :
    tms n M (dg n M) so T = Int.tdiv (trd n M) ((odg n M (fun q => g q - h q) (n - 1) : Nat) : Int) := by
  have hD : (slv n (tfp n M (dg n M) so T n 0) (n - 1)).2 = trd n M := (slv_state hy hc (tfp_lap (S := so) (T := T)) (n - 1) (Nat.le_refl _)).1
  have hp := (trd_pos hy hc).1
  unfold tms
  rw [cmg_odg hy hc hu hv hso, hD, Int.ofNat_tdiv]
  rw [Int.natAbs_of_nonneg (Int.le_of_lt hp)]
theorem alike_eq (hy : yok n M) (hc : cn n M) {g h so u v : Nat → Int} {T : Nat → Nat → Int} (hu : stl n M g u) (hv : stl n M h v) (hso : ∀ q, 1 ≤ q → q < n → so q = sti n M g q - sti n M h q) :
    tms n M (dg n M) so T = 1 ↔ ∀ p, 1 ≤ p → p < n → trd n M ∣ trn n M (fun q => g q - h q) p (n - 1) := by
  have hp := (trd_pos hy hc).1
  rw [tms_odg hy hc hu hv hso]
  obtain ⟨D, hD⟩ : ∃ D : Nat, trd n M = (D : Int) := ⟨(trd n M).toNat, by omega⟩
  have hdd : odg n M (fun q => g q - h q) (n - 1) ∣ D := by
    have := (odg_dvd.mp (Nat.dvd_refl (odg n M (fun q => g q - h q) (n - 1)))).1
    rw [hD, Int.natAbs_natCast] at this; exact this
  have hD0 : 0 < D := by omega
  have ho0 := Nat.pos_of_dvd_of_pos hdd hD0
  rw [hD, ← Int.ofNat_tdiv]
  constructor
  · intro h1 p hp1 hp2
    have h2 : D / odg n M (fun q => g q - h q) (n - 1) = 1 := by exact_mod_cast h1
    have h3 : D = odg n M (fun q => g q - h q) (n - 1) := by
      have := Nat.div_mul_cancel hdd
      rw [h2, Nat.one_mul] at this; exact this.symm
    have h4 := (odg_dvd.mp (Nat.dvd_refl (odg n M (fun q => g q - h q) (n - 1)))).2 p hp1 (by omega)
    rw [← h3] at h4
    exact Int.ofNat_dvd_left.mpr h4
  · intro h1
    have h2 : D ∣ odg n M (fun q => g q - h q) (n - 1) := odg_dvd.mpr ⟨by rw [hD, Int.natAbs_natCast]; exact Nat.dvd_refl _, fun r h3 h4 => Int.ofNat_dvd_left.mp (h1 r h3 (by omega))⟩
    have h3 : D = odg n M (fun q => g q - h q) (n - 1) := Nat.dvd_antisymm h2 hdd
    rw [← h3, Nat.div_self hD0]; rfl
theorem stl_zero (hd : ∀ p, 1 ≤ p → p < n → 1 ≤ dg n M p) : stl n M (fun _ => (0 : Int)) (fun _ => 0) := by
  refine ⟨fun _ => Int.le_refl _, rfl, fun _ _ => rfl, fun p h1 h2 => ?_, ld_0 n M _⟩
  rw [af_0]; exact hd p h1 h2
end Orders
