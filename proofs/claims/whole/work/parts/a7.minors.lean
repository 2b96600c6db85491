/-! Minors by bits are all minors; the rounds' chain -/
section Minors
theorem add_bit : ∀ p, p < 7 → ∀ r, r < 2 ^ p → cb (r + 2 ^ p) 7 = cb r 7 + 1 ∧ nb (r + 2 ^ p) (cb r 7) = p ∧ ∀ i, i < cb r 7 → nb (r + 2 ^ p) i = nb r i := by decide +kernel
theorem inc_lt {k : Nat} {ρ : Nat → Nat} (h : ∀ i, i + 1 < k → ρ i < ρ (i + 1)) {a : Nat} : ∀ {b : Nat}, a < b → b < k → ρ a < ρ b
  | 0, h1, _ => absurd h1 (Nat.not_lt_zero _)
  | b + 1, h1, h2 => by
    rcases Nat.lt_or_ge a b with e | e
    · exact Nat.lt_trans (inc_lt h e (by omega)) (h b h2)
    · rw [show a = b by omega]; exact h b h2
theorem inc_mask : ∀ (k b : Nat) (ρ : Nat → Nat), b ≤ 7 → (∀ i, i < k → ρ i < b) → (∀ i, i + 1 < k → ρ i < ρ (i + 1)) → ∃ r, r < 2 ^ b ∧ cb r 7 = k ∧ ∀ i, i < k → nb r i = ρ i
  | 0, b, _, _, _, _ => ⟨0, Nat.two_pow_pos b, by decide, fun i h => absurd h (Nat.not_lt_zero _)⟩
  | k + 1, b, ρ, hb, hρ, hi => by
    obtain ⟨r, h1, h2, h3⟩ := inc_mask k (ρ k) ρ (by have := hρ k (by omega); omega) (fun i h => inc_lt hi h (Nat.lt_succ_self k)) (fun i h => hi i (by omega))
    have hk := hρ k (by omega)
    obtain ⟨e1, e2, e3⟩ := add_bit (ρ k) (by omega) r h1
    rw [h2] at e1 e2 e3
    refine ⟨r + 2 ^ ρ k, ?_, e1, fun i h => ?_⟩
    · have h5 : 2 ^ (ρ k + 1) ≤ 2 ^ b := Nat.pow_le_pow_right (by omega) (by omega)
      rw [Nat.pow_succ] at h5; omega
    · rcases Nat.lt_or_ge i k with e | e
      · rw [e3 i e]; exact h3 i e
      · rw [show i = k by omega]; exact e2
/-- what holds of rising rows and goes over exchanges holds of all -/
theorem srt {k m : Nat} {P : (Nat → Nat) → Prop} (hsw : ∀ ρ a b, a < k → b < k → a ≠ b → (∀ i, i < k → ρ i < m) → P (fun i => ρ (swp a b i)) → P ρ) (heq : ∀ ρ a b, a < k → b < k → a ≠ b → ρ a = ρ b → P ρ) (hinc : ∀ ρ, (∀ i, i < k → ρ i < m) → (∀ i, i + 1 < k → ρ i < ρ (i + 1)) → P ρ) : ∀ (N : Nat) (ρ : Nat → Nat), (∀ i, i < k → ρ i < m) → gs (fun i => ((k : Int) - i) * (ρ i : Int)) k ≤ N → P ρ
  | N, ρ, hρ, hN => by
    by_cases hi : ∀ i, i + 1 < k → ρ i < ρ (i + 1)
    · exact hinc ρ hρ hi
    · obtain ⟨i, hi⟩ := Classical.not_forall.mp hi
      obtain ⟨hik, hlt⟩ := Classical.not_imp.mp hi
      by_cases he : ρ i = ρ (i + 1)
      · exact heq ρ i (i + 1) (by omega) hik (by omega) he
      · refine hsw ρ i (i + 1) (by omega) hik (by omega) hρ ?_
        have hρ2 : ∀ t, t < k → ρ (swp i (i + 1) t) < m := fun t ht => hρ _ (by unfold swp; split; omega; split <;> omega)
        have e1 : gs (fun t => ((k : Int) - t) * (ρ (swp i (i + 1) t) : Int)) k = gs (fun t => if t = i + 1 then ((k : Int) - (i + 1 : Nat)) * (ρ i : Int) else (if t = i then ((k : Int) - i) * (ρ (i + 1) : Int) else ((k : Int) - t) * (ρ t : Int))) k := gs_cong (fun t _ => by
          unfold swp
          by_cases q1 : t = i + 1
          · rw [if_pos q1, q1, if_neg (by omega), if_pos rfl]
          · rw [if_neg q1, if_neg q1]
            by_cases q2 : t = i
            · rw [if_pos q2, if_pos q2, q2]
            · rw [if_neg q2, if_neg q2])
        have e2 := gs_upd (fun t => if t = i then ((k : Int) - i) * (ρ (i + 1) : Int) else ((k : Int) - t) * (ρ t : Int)) (((k : Int) - (i + 1 : Nat)) * (ρ i : Int)) hik
        have e3 := gs_upd (fun t => ((k : Int) - t) * (ρ t : Int)) (((k : Int) - i) * (ρ (i + 1) : Int)) (show i < k by omega)
        rw [if_neg (by omega)] at e2
        have hdec : gs (fun t => ((k : Int) - t) * (ρ (swp i (i + 1) t) : Int)) k + 1 ≤ gs (fun i => ((k : Int) - i) * (ρ i : Int)) k := by
          rw [e1, e2, e3]
          have h5 : ((k : Int) - (i + 1 : Nat)) * (ρ i : Int) = ((k : Int) - i) * (ρ i : Int) - ρ i := by rw [show (k : Int) - (i + 1 : Nat) = (k : Int) - i - 1 by push_cast; omega, Int.sub_mul, Int.one_mul]
          have h6 : ((k : Int) - (i + 1 : Nat)) * (ρ (i + 1) : Int) = ((k : Int) - i) * (ρ (i + 1) : Int) - ρ (i + 1) := by rw [show (k : Int) - (i + 1 : Nat) = (k : Int) - i - 1 by push_cast; omega, Int.sub_mul, Int.one_mul]
          rw [h5, h6]; omega
        have hnn : 0 ≤ gs (fun t => ((k : Int) - t) * (ρ (swp i (i + 1) t) : Int)) k := gs_nn (fun t ht => Int.mul_nonneg (by omega) (by omega))
        exact srt hsw heq hinc (N - 1) _ hρ2 (by omega)
  termination_by N => N
  decreasing_by
    all_goals
      have hnn2 : 0 ≤ gs (fun t => ((k : Int) - t) * (ρ (swp i (i + 1) t) : Int)) k := gs_nn (fun t ht => Int.mul_nonneg (by omega) (by omega))
      omega
theorem srt_all {k m : Nat} {P : (Nat → Nat) → Prop} (hsw : ∀ ρ a b, a < k → b < k → a ≠ b → (∀ i, i < k → ρ i < m) → P (fun i => ρ (swp a b i)) → P ρ) (heq : ∀ ρ a b, a < k → b < k → a ≠ b → ρ a = ρ b → P ρ) (hinc : ∀ ρ, (∀ i, i < k → ρ i < m) → (∀ i, i + 1 < k → ρ i < ρ (i + 1)) → P ρ) (ρ : Nat → Nat) (hρ : ∀ i, i < k → ρ i < m) : P ρ :=
  srt hsw heq hinc (gs (fun i => ((k : Int) - i) * (ρ i : Int)) k).toNat ρ hρ (by
    have : 0 ≤ gs (fun i => ((k : Int) - i) * (ρ i : Int)) k := gs_nn (fun t ht => Int.mul_nonneg (by omega) (by omega))
    omega)
theorem dvg_gdv {n : Nat} {M : Nat → Nat → Int} (hn : 1 ≤ n ∧ n ≤ 8) {k : Nat} {c : Nat} : c ∣ dvg n M k ↔ gdv k (n - 1) (n - 1) (lpm n M) (c : Int) := by
  rw [dvg_dvd]
  constructor
  · intro h ρ0 κ0 hρ0 hκ0
    refine srt_all (k := k) (m := n - 1) (P := fun ρ => ∀ κ : Nat → Nat, (∀ j, j < k → κ j < n - 1) → (c : Int) ∣ dt k (fun i j => lpm n M (ρ i) (κ j))) ?_ ?_ ?_ ρ0 hρ0 κ0 hκ0
    · intro ρ a b ha hb hab _ hP κ hκ
      have h1 := hP κ hκ
      rw [dt_rsw (fun i j => lpm n M (ρ i) (κ j)) hab ha hb] at h1
      exact Int.dvd_neg.mp h1
    · intro ρ a b ha hb hab he κ _
      have e0 : dt k (fun i j => lpm n M (ρ i) (κ j)) = 0 := by
        rw [← dt_tr]; exact dt_same hab ha hb (fun x _ => by rw [he])
      rw [e0]; exact Int.dvd_zero _
    · intro ρ hρ hinc κ1 hκ1
      refine srt_all (k := k) (m := n - 1) (P := fun κ => (c : Int) ∣ dt k (fun i j => lpm n M (ρ i) (κ j))) ?_ ?_ ?_ κ1 hκ1
      · intro κ a b ha hb hab _ hP
        rw [dt_csw (fun i j => lpm n M (ρ i) (κ j)) hab ha hb] at hP
        exact Int.dvd_neg.mp hP
      · intro κ a b ha hb hab he
        have e0 : dt k (fun i j => lpm n M (ρ i) (κ j)) = 0 := dt_same hab ha hb (fun x _ => by rw [he])
        rw [e0]; exact Int.dvd_zero _
      · intro κ hκ hinc2
        obtain ⟨r, r1, r2, r3⟩ := inc_mask k (n - 1) ρ (by omega) hρ hinc
        obtain ⟨s, s1, s2, s3⟩ := inc_mask k (n - 1) κ (by omega) hκ hinc2
        have h1 := h r s r1 s1 r2 s2
        have e : mnr n M r s = dt k (fun i j => lpm n M (ρ i) (κ j)) := by
          unfold mnr lpm; rw [r2]
          exact dt_cong (fun i j hi hj => by rw [r3 i hi, s3 j hj])
        rw [e] at h1
        exact Int.ofNat_dvd_left.mpr h1
  · intro h r s hr hs h1 h2
    have e : mnr n M r s = dt k (fun i j => lpm n M (nb r i) (nb s j)) := by unfold mnr lpm; rw [h1]
    rw [e]
    exact Int.ofNat_dvd_left.mp (h (nb r) (nb s) (fun i hi => bit_in hr (nb_lt (by omega)).2.1) (fun j hj => bit_in hs (nb_lt (by omega)).2.1))
/-- the chain that mci makes -/
theorem mc1_i {r : Nat → Int} {i j : Nat} : mc1 r i j i = ((Nat.gcd (r i).natAbs (r j).natAbs : Nat) : Int) := by unfold mc1; rw [ub_s]
theorem mc1_j {r : Nat → Int} {i j : Nat} (h : i ≠ j) : mc1 r i j j = Int.tdiv (r i) ((Nat.gcd (r i).natAbs (r j).natAbs : Nat) : Int) * r j := by unfold mc1; rw [ub_n _ _ (fun e => h e.symm), ub_s]
theorem mc1_o {r : Nat → Int} {i j q : Nat} (h1 : q ≠ i) (h2 : q ≠ j) : mc1 r i j q = r q := by unfold mc1; rw [ub_n _ _ h1, ub_n _ _ h2]
def chn (m i : Nat) (r : Nat → Int) : Prop := ∀ a b, a < i → a ≤ b → b < m → r a ∣ r b
theorem mcj_chn {m i : Nat} {r : Nat → Int} (hi : i < m) (h : chn m i r) : ∀ q, i + q < m → chn m i (mcj r i q) ∧ ∀ b, i ≤ b → b ≤ i + q → mcj r i q i ∣ mcj r i q b
  | 0, _ => ⟨h, fun b h1 h2 => by rw [show b = i by omega]; exact Int.dvd_refl _⟩
  | q + 1, hq => by
    obtain ⟨c1, c2⟩ := mcj_chn hi h q (by omega)
    have hij : i ≠ i + 1 + q := by omega
    have hq1 : i + 1 + q < m := by omega
    have e : mcj r i (q + 1) = mc1 (mcj r i q) i (i + 1 + q) := rfl
    rw [e]
    obtain ⟨R, hR⟩ : ∃ R, R = mcj r i q := ⟨_, rfl⟩
    rw [← hR] at c1 c2 ⊢
    have hg : ((Nat.gcd (R i).natAbs (R (i + 1 + q)).natAbs : Nat) : Int) ∣ R i := Int.ofNat_dvd_left.mpr (Nat.gcd_dvd_left _ _)
    have hg2 : ((Nat.gcd (R i).natAbs (R (i + 1 + q)).natAbs : Nat) : Int) ∣ R (i + 1 + q) := Int.ofNat_dvd_left.mpr (Nat.gcd_dvd_right _ _)
    have hin : ∀ d : Int, d ∣ R i → d ∣ R (i + 1 + q) → d ∣ ((Nat.gcd (R i).natAbs (R (i + 1 + q)).natAbs : Nat) : Int) := fun d h1 h2 => by
      have h3 : d.natAbs ∣ Nat.gcd (R i).natAbs (R (i + 1 + q)).natAbs := Nat.dvd_gcd (Int.natAbs_dvd_natAbs.mpr h1) (Int.natAbs_dvd_natAbs.mpr h2)
      exact Int.natAbs_dvd.mp (Int.ofNat_dvd.mpr h3)
    refine ⟨fun a b ha hab hb => ?_, fun b h1 h2 => ?_⟩
    · rw [mc1_o (q := a) (by omega) (by omega)]
      by_cases e1 : b = i
      · rw [e1, mc1_i]; exact hin _ (c1 a i ha (by omega) hi) (c1 a _ ha (by omega) hq1)
      · by_cases e2 : b = i + 1 + q
        · rw [e2, mc1_j hij]; exact Int.dvd_trans (c1 a _ ha (by omega) hq1) (Int.dvd_mul_left _ _)
        · rw [mc1_o e1 e2]; exact c1 a b ha hab hb
    · rw [mc1_i]
      by_cases e1 : b = i
      · rw [e1, mc1_i]; exact Int.dvd_refl _
      · by_cases e2 : b = i + 1 + q
        · rw [e2, mc1_j hij]; exact Int.dvd_trans hg2 (Int.dvd_mul_left _ _)
        · rw [mc1_o e1 e2]; exact Int.dvd_trans hg (c2 b h1 (by omega))
theorem mci_chn {m : Nat} {r : Nat → Int} : ∀ i, i ≤ m → chn m i (mci m r i)
  | 0, _ => fun a b ha => absurd ha (Nat.not_lt_zero _)
  | i + 1, hi => by
    obtain ⟨c1, c2⟩ := mcj_chn (show i < m by omega) (mci_chn i (by omega)) (m - 1 - i) (by omega)
    intro a b ha hab hb
    show mcj (mci m r i) i (m - 1 - i) a ∣ mcj (mci m r i) i (m - 1 - i) b
    rcases Nat.lt_or_ge a i with e | e
    · exact c1 a b e hab hb
    · rw [show a = i by omega]; exact c2 b (by omega) (by omega)
theorem mcj_pdv {k m : Nat} {tr : Int} {r : Nat → Int} (h : rdv m tr r) {i : Nat} (hi : i < m) {c : Int} : ∀ q, i + q < m → (pdv k m (mcj r i q) c ↔ pdv k m r c)
  | 0, _ => Iff.rfl
  | q + 1, hq => by
    have h1 := mcj_dv h hi q (by omega)
    show pdv k m (mc1 (mcj r i q) i (i + 1 + q)) c ↔ _
    have hq1 : i + 1 + q < m := by omega
    exact (pdv_mc1 (by omega) hi hq1 (h1 i hi).1 (h1 _ hq1).1).trans (mcj_pdv h hi q (by omega))
theorem mci_pdv {k m : Nat} {tr : Int} {r : Nat → Int} (h : rdv m tr r) {c : Int} : ∀ i, i ≤ m → (pdv k m (mci m r i) c ↔ pdv k m r c)
  | 0, _ => Iff.rfl
  | i + 1, hi => (mcj_pdv (mci_dv h i (by omega)) (show i < m by omega) (m - 1 - i) (by omega)).trans (mci_pdv h i (by omega))
end Minors
