/-! pictures of a yard's calm -/
section CalmPic
def gaf (n : Nat) (M : Nat → Nat → Int) (g u : Nat → Int) : Nat → Int := fun q => if q < n then af n M g u q else g q
def up1 : Nat → Nat := fun k => k + 1
theorem gaf_0 (n : Nat) (M : Nat → Nat → Int) (g : Nat → Int) : gaf n M g (fun _ => 0) = g := by
  funext q
  unfold gaf
  rw [af_0]; simp
theorem gaf_fel {n : Nat} {M : Nat → Nat → Int} {d g u : Nat → Int} {p : Nat} (hy : yok n M) (hp : p < n) (hd : d p = dg n M p) (t : Int) : fel n M d (gaf n M g u) p t = gaf n M g (ub u p (u p + t)) := by
  funext q
  unfold fel gaf
  by_cases e : q < n
  · rw [if_pos e, if_pos e, if_pos e, af_step g u t hp, hd, hy.2.2.2.1 p q]
    by_cases e2 : q = p
    · rw [if_pos e2, if_pos e2, Int.mul_comm t, Int.mul_comm t]
    · rw [if_neg e2, if_neg e2, Int.mul_comm t]; omega
  · rw [if_neg e, if_neg e, if_neg e, if_neg (by omega)]; omega
theorem due_gaf {n : Nat} {M : Nat → Nat → Int} {d g u : Nat → Int} {p : Nat} (hp : p < n) (hd : d p = dg n M p) (h1 : 1 ≤ dg n M p) : due d (gaf n M g u) p = (af n M g u p).tdiv (dg n M p) := by
  unfold due gaf
  rw [if_neg (by omega), if_pos hp, hd]
theorem due_ok {n : Nat} {M : Nat → Nat → Int} {g u : Nat → Int} {p : Nat} (hu : onw n M g u) (h0 : 1 ≤ p) (hp : p < n) (h1 : 1 ≤ dg n M p) : 0 ≤ (af n M g u p).tdiv (dg n M p) ∧ (af n M g u p).tdiv (dg n M p) ≤ psum n g ∧ 0 ≤ af n M g u p ∧ af n M g u p ≤ psum n g := by
  have a0 := hu.2.2.2.2.1 p h0 hp
  have a1 := psum_ge hu.2.2.2.2.1 h0 hp
  have a2 := hu.2.2.2.2.2
  have a3 := tdiv_nn a0 (show 0 ≤ dg n M p by omega)
  have a4 := tdiv_mul_le a0 (show 0 ≤ dg n M p by omega)
  have a5 : 1 * (af n M g u p).tdiv (dg n M p) ≤ dg n M p * (af n M g u p).tdiv (dg n M p) := Int.mul_le_mul_of_nonneg_right h1 a3
  exact ⟨a3, by omega, a0, by omega⟩
theorem up1_in {n : Nat} : ∀ k, k < n - 1 → 1 ≤ up1 k ∧ up1 k < n := fun k hk => by unfold up1; omega
theorem up1_all {n : Nat} : ∀ p, 1 ≤ p → p < n → ∃ k, k < n - 1 ∧ up1 k = p := fun p h1 h2 => ⟨p - 1, by omega, by unfold up1; omega⟩
theorem tp_sum {n : Nat} {M : Nat → Nat → Int} {g u : Nat → Int} {p : Nat} (hp : p < n) : gs (tp n M g p u) n = gs u n + (af n M g u p).tdiv (dg n M p) := by
  have h := gs_upd u (u p + (af n M g u p).tdiv (dg n M p)) hp
  unfold tp
  rw [show gs (ub u p (u p + (af n M g u p).tdiv (dg n M p))) n = gs (fun k => if k = p then u p + (af n M g u p).tdiv (dg n M p) else u k) n from rfl, h]
  omega
theorem tp_0 {n : Nat} {M : Nat → Nat → Int} {g u : Nat → Int} {p : Nat} (h : (af n M g u p).tdiv (dg n M p) = 0) : tp n M g p u = u := by
  unfold tp
  rw [h, Int.add_zero, ub_self]
theorem sw_s (n : Nat) (M : Nat → Nat → Int) (g : Nat → Int) (σ : Nat → Nat) (k : Nat) (u : Nat → Int) : sw n M g σ (k + 1) u = tp n M g (σ k) (sw n M g σ k u) := rfl
theorem its_s (n : Nat) (M : Nat → Nat → Int) (g : Nat → Int) (σ : Nat → Nat) (s : Nat) : its n M g σ (s + 1) = sw n M g σ (n - 1) (its n M g σ s) := rfl
end CalmPic
