/-! The chain of rounds; minors by bits are all minors -/
section Chain
theorem bez (a b : Nat) : ∃ x y : Int, ((Nat.gcd a b : Nat) : Int) = (a : Int) * x + (b : Int) * y := by
  induction a, b using Nat.gcd.induction with
  | H0 n => exact ⟨0, 1, by rw [Nat.gcd_zero_left]; simp⟩
  | H1 m n hm ih =>
    obtain ⟨x, y, h⟩ := ih
    refine ⟨y - ((n / m : Nat) : Int) * x, x, ?_⟩
    rw [Nat.gcd_rec, h]
    have e : ((n % m : Nat) : Int) = (n : Int) - (m : Int) * ((n / m : Nat) : Int) := by
      have := Nat.div_add_mod n m
      have h2 : ((m * (n / m) + n % m : Nat) : Int) = (n : Int) := by rw [this]
      rw [Int.natCast_add, Int.natCast_mul] at h2
      omega
    rw [e, Int.sub_mul, Int.mul_sub, Int.mul_assoc]
    omega
theorem gp_pick {f : Nat → Int} {s n : Nat} (h : s < n) : gp f n = f s * gp (fun i => if i = s then 1 else f i) n := by
  obtain ⟨m, rfl⟩ : ∃ m, n = m + 1 := ⟨n - 1, by omega⟩
  rw [gp_sk h, gp_sk (f := fun i => if i = s then 1 else f i) h, if_pos rfl, Int.one_mul]
  congr 1
  exact gp_cong (fun k _ => by rw [if_neg (sk_ne s k)])
/-- two numbers give way to their common divisor and multiple: the products' divisors stay -/
theorem pdv_mc1 {k m : Nat} {r : Nat → Int} {i j : Nat} (hij : i ≠ j) (hi : i < m) (hj : j < m) (hri : 1 ≤ r i) (hrj : 1 ≤ r j) {c : Int} : pdv k m (mc1 r i j) c ↔ pdv k m r c := by
  obtain ⟨g, hg⟩ : ∃ g : Int, g = ((Nat.gcd (r i).natAbs (r j).natAbs : Nat) : Int) := ⟨_, rfl⟩
  have hg0 : 0 < g := by
    have : 0 < Nat.gcd (r i).natAbs (r j).natAbs := Nat.gcd_pos_of_pos_left _ (by omega)
    omega
  obtain ⟨a, ha⟩ : g ∣ r i := by rw [hg]; exact Int.ofNat_dvd_left.mpr (Nat.gcd_dvd_left _ _)
  obtain ⟨b, hb⟩ : g ∣ r j := by rw [hg]; exact Int.ofNat_dvd_left.mpr (Nat.gcd_dvd_right _ _)
  have hbez : ∃ x y : Int, g = r i * x + r j * y := by
    obtain ⟨x, y, h⟩ := bez (r i).natAbs (r j).natAbs
    refine ⟨x, y, ?_⟩
    rw [hg, h, Int.natAbs_of_nonneg (by omega), Int.natAbs_of_nonneg (by omega)]
  obtain ⟨x, y, hxy⟩ := hbez
  have hmi : mc1 r i j i = g := by unfold mc1; rw [ub_s, hg]
  have hmj : mc1 r i j j = a * r j := by
    unfold mc1
    rw [ub_n _ _ (fun h => hij h.symm), ub_s, ← hg, ha, Int.mul_tdiv_cancel_left _ (by omega)]
  have hmo : ∀ q, q ≠ i → q ≠ j → mc1 r i j q = r q := fun q h1 h2 => by unfold mc1; rw [ub_n _ _ h1, ub_n _ _ h2]
  have hrest : ∀ (ρ : Nat → Nat) (s : Nat), ρ s = i ∨ ρ s = j → (∀ t, t < k → t ≠ s → ρ t ≠ i ∧ ρ t ≠ j) → s < k → ∀ f : Nat → Int, (∀ q, q ≠ i → q ≠ j → f q = r q) → gp (fun t => f (ρ t)) k = f (ρ s) * gp (fun t => if t = s then 1 else r (ρ t)) k := fun ρ s _ h2 hs f hf => by
    rw [gp_pick hs]
    congr 1
    exact gp_cong (fun t ht => by
      by_cases e : t = s
      · rw [if_pos e, if_pos e]
      · rw [if_neg e, if_neg e, hf _ (h2 t ht e).1 (h2 t ht e).2])
  have hmain : ∀ f h : Nat → Int, (∀ q, q ≠ i → q ≠ j → f q = r q) → (∀ q, q ≠ i → q ≠ j → h q = r q) → f i * f j = h i * h j → (∀ X : Int, c ∣ f i * X → c ∣ f j * X → c ∣ h i * X ∧ c ∣ h j * X) → pdv k m f c → pdv k m h c := by
    intro f h hf hh hpr hone hP ρ hρ hin
    by_cases e1 : ∃ s, s < k ∧ ρ s = i
    · obtain ⟨s, hs, hsi⟩ := e1
      by_cases e2 : ∃ t, t < k ∧ ρ t = j
      · obtain ⟨t, ht, htj⟩ := e2
        have hst : s ≠ t := fun h => hij (by rw [← hsi, ← htj, h])
        have hboth : ∀ w : Nat → Int, (∀ q, q ≠ i → q ≠ j → w q = r q) → gp (fun u => w (ρ u)) k = w i * w j * gp (fun u => if u = s then 1 else if u = t then 1 else r (ρ u)) k := fun w hw => by
          rw [gp_pick hs, gp_pick (f := fun u => if u = s then 1 else w (ρ u)) ht]
          rw [if_neg (fun h => hst h.symm), hsi, htj, ← Int.mul_assoc]
          congr 1
          exact gp_cong (fun u hu => by
            by_cases q1 : u = t
            · rw [if_pos q1, if_neg (fun h => hst (h.symm.trans q1)), if_pos q1]
            · rw [if_neg q1]
              by_cases q2 : u = s
              · rw [if_pos q2, if_pos q2]
              · rw [if_neg q2, if_neg q2, if_neg q1]
                exact hw _ (fun h => q2 (hin u s hu hs (h.trans hsi.symm))) (fun h => q1 (hin u t hu ht (h.trans htj.symm))))
        have h1 := hP ρ hρ hin
        rw [hboth f hf, hpr] at h1
        rw [hboth h hh]; exact h1
      · -- i alone
        have hX := hrest ρ s (Or.inl hsi) (fun t ht hts => ⟨fun h => hts (hin t s ht hs (h.trans hsi.symm)), fun h => e2 ⟨t, ht, h⟩⟩) hs
        have h1 := hP ρ hρ hin
        rw [hX f hf, hsi] at h1
        have h2 := hP (ub ρ s j) (fun t ht => by
          by_cases e : t = s
          · rw [e, ub_s]; exact hj
          · rw [ub_n _ _ e]; exact hρ t ht) (fun t u ht hu h => by
          by_cases q1 : t = s
          · by_cases q2 : u = s
            · rw [q1, q2]
            · rw [q1, ub_s, ub_n _ _ q2] at h; exact absurd ⟨u, hu, h.symm⟩ e2
          · by_cases q2 : u = s
            · rw [q2, ub_s, ub_n _ _ q1] at h; exact absurd ⟨t, ht, h⟩ e2
            · rw [ub_n _ _ q1, ub_n _ _ q2] at h; exact hin t u ht hu h)
        have e3 : gp (fun t => f (ub ρ s j t)) k = f j * gp (fun t => if t = s then 1 else r (ρ t)) k := by
          rw [gp_pick hs, ub_s]
          congr 1
          exact gp_cong (fun t ht => by
            by_cases q1 : t = s
            · rw [if_pos q1, if_pos q1]
            · rw [if_neg q1, if_neg q1, ub_n _ _ q1, hf _ (fun h => q1 (hin t s ht hs (h.trans hsi.symm))) (fun h => e2 ⟨t, ht, h⟩)])
        rw [e3] at h2
        rw [hX h hh, hsi]
        exact (hone _ h1 h2).1
    · by_cases e2 : ∃ t, t < k ∧ ρ t = j
      · obtain ⟨s, hs, hsj⟩ := e2
        have hX := hrest ρ s (Or.inr hsj) (fun t ht hts => ⟨fun h => e1 ⟨t, ht, h⟩, fun h => hts (hin t s ht hs (h.trans hsj.symm))⟩) hs
        have h1 := hP ρ hρ hin
        rw [hX f hf, hsj] at h1
        have h2 := hP (ub ρ s i) (fun t ht => by
          by_cases e : t = s
          · rw [e, ub_s]; exact hi
          · rw [ub_n _ _ e]; exact hρ t ht) (fun t u ht hu h => by
          by_cases q1 : t = s
          · by_cases q2 : u = s
            · rw [q1, q2]
            · rw [q1, ub_s, ub_n _ _ q2] at h; exact absurd ⟨u, hu, h.symm⟩ e1
          · by_cases q2 : u = s
            · rw [q2, ub_s, ub_n _ _ q1] at h; exact absurd ⟨t, ht, h⟩ e1
            · rw [ub_n _ _ q1, ub_n _ _ q2] at h; exact hin t u ht hu h)
        have e3 : gp (fun t => f (ub ρ s i t)) k = f i * gp (fun t => if t = s then 1 else r (ρ t)) k := by
          rw [gp_pick hs, ub_s]
          congr 1
          exact gp_cong (fun t ht => by
            by_cases q1 : t = s
            · rw [if_pos q1, if_pos q1]
            · rw [if_neg q1, if_neg q1, ub_n _ _ q1, hf _ (fun h => e1 ⟨t, ht, h⟩) (fun h => q1 (hin t s ht hs (h.trans hsj.symm)))])
        rw [e3] at h2
        rw [hX h hh, hsj]
        exact (hone _ h2 h1).2
      · have e3 : ∀ w : Nat → Int, (∀ q, q ≠ i → q ≠ j → w q = r q) → gp (fun u => w (ρ u)) k = gp (fun u => r (ρ u)) k := fun w hw => gp_cong (fun u hu => hw _ (fun h => e1 ⟨u, hu, h⟩) (fun h => e2 ⟨u, hu, h⟩))
        have h1 := hP ρ hρ hin
        rw [e3 f hf] at h1
        rw [e3 h hh]; exact h1
  have hprod : g * (a * r j) = r i * r j := by rw [← Int.mul_assoc, ← ha]
  constructor
  · refine hmain (mc1 r i j) r hmo (fun _ _ _ => rfl) (by rw [hmi, hmj]; exact hprod) (fun X h1 h2 => ?_)
    rw [hmi] at h1
    constructor
    · rw [ha, Int.mul_comm g a, Int.mul_assoc]; exact Int.dvd_trans h1 (Int.dvd_mul_left _ _)
    · rw [hb, Int.mul_comm g b, Int.mul_assoc]; exact Int.dvd_trans h1 (Int.dvd_mul_left _ _)
  · refine hmain r (mc1 r i j) (fun _ _ _ => rfl) hmo (by rw [hmi, hmj]; exact hprod.symm) (fun X h1 h2 => ?_)
    rw [hmi, hmj]
    constructor
    · rw [hxy, Int.add_mul, Int.mul_right_comm, Int.mul_right_comm (r j)]
      exact Int.dvd_add (Int.dvd_trans h1 (Int.dvd_mul_right _ _)) (Int.dvd_trans h2 (Int.dvd_mul_right _ _))
    · rw [Int.mul_assoc]; exact Int.dvd_trans h2 (Int.dvd_mul_left _ _)
end Chain
