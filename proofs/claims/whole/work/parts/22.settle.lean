/-! settling by sweeps: a place topples all that it may, place after place -/
section MathSweep
def psum (n : Nat) (f : Nat → Int) : Int := gs (fun q => if q = 0 then 0 else f q) n
/-- what a yard's paths are -/
def yok (n : Nat) (M : Nat → Nat → Int) : Prop := 2 ≤ n ∧ n ≤ 8 ∧ (∀ i j, 0 ≤ M i j ∧ M i j ≤ 3) ∧ (∀ i j, M i j = M j i) ∧ (∀ i, M i i = 0) ∧ ∀ i j, n ≤ i → M i j = 0
/-- place p topples all that it may -/
def tp (n : Nat) (M : Nat → Nat → Int) (g : Nat → Int) (p : Nat) (u : Nat → Int) : Nat → Int := ub u p (u p + (af n M g u p).tdiv (dg n M p))
/-- what holds on the way from g: toppled u -/
def onw (n : Nat) (M : Nat → Nat → Int) (g u : Nat → Int) : Prop := (∀ p, 0 ≤ u p) ∧ u 0 = 0 ∧ (∀ p, n ≤ p → u p = 0) ∧ ld n M g u ∧ (∀ q, 1 ≤ q → q < n → 0 ≤ af n M g u q) ∧ psum n (af n M g u) ≤ psum n g
theorem psum_nn {n : Nat} {f : Nat → Int} (h : ∀ q, 1 ≤ q → q < n → 0 ≤ f q) : 0 ≤ psum n f := gs_nn (fun k hk => by
  by_cases e : k = 0
  · rw [if_pos e]; exact Int.le_refl _
  · rw [if_neg e]; exact h k (by omega) hk)
theorem psum_ge {n : Nat} {f : Nat → Int} (h : ∀ q, 1 ≤ q → q < n → 0 ≤ f q) {p : Nat} (h1 : 1 ≤ p) (hp : p < n) : f p ≤ psum n f := by
  have := gs_ge (f := fun q => if q = 0 then 0 else f q) (n := n) (fun k hk => by
    show 0 ≤ if k = 0 then 0 else f k
    by_cases e : k = 0
    · rw [if_pos e]; exact Int.le_refl _
    · rw [if_neg e]; exact h k (by omega) hk) hp
  rw [if_neg (show ¬ p = 0 by omega)] at this
  exact this
theorem dg_le {n : Nat} {M : Nat → Nat → Int} (hy : yok n M) {p : Nat} (hp : p < n) : dg n M p ≤ 21 := by
  obtain ⟨h2, h8, h3, hs, h0, hz⟩ := hy
  have h1 := gs_upd (fun q => (3 : Int)) 0 hp
  have h4 : dg n M p ≤ gs (fun k => if k = p then 0 else 3) n := gs_le (fun k hk => by
    by_cases e : k = p
    · subst e; rw [if_pos rfl, h0 k]; exact Int.le_refl _
    · rw [if_neg e]; exact (h3 p k).2)
  rw [h1, gs_const] at h4
  omega
theorem onw_0 {n : Nat} {M : Nat → Nat → Int} {g : Nat → Int} (hg : ∀ q, 1 ≤ q → q < n → 0 ≤ g q) : onw n M g (fun _ => 0) := by
  refine ⟨fun _ => Int.le_refl _, rfl, fun _ _ => rfl, ld_0 n M g, ?_, ?_⟩
  · rw [af_0]; exact hg
  · rw [af_0]; exact Int.le_refl _
theorem tdiv_mul_le {a b : Int} (ha : 0 ≤ a) (hb : 0 ≤ b) : b * a.tdiv b ≤ a := by
  have h1 := Int.tmod_add_mul_tdiv a b
  have h2 := Int.tmod_nonneg b ha
  omega
theorem tdiv_nn {a b : Int} (ha : 0 ≤ a) (hb : 0 ≤ b) : 0 ≤ a.tdiv b := Int.tdiv_nonneg ha hb
theorem onw_add {n : Nat} {M : Nat → Nat → Int} {g u : Nat → Int} (hy : yok n M) (hu : onw n M g u) {p : Nat} (h1 : 1 ≤ p) (hp : p < n) {t : Int} (ht : 0 ≤ t) (hle : dg n M p * t ≤ af n M g u p) : onw n M g (ub u p (u p + t)) := by
  obtain ⟨h2, h8, h3, hs, h0, hz⟩ := hy
  obtain ⟨a1, a2, a3, a4, a5, a6⟩ := hu
  have hM : ∀ i j, 0 ≤ M i j := fun i j => (h3 i j).1
  refine ⟨fun q => ?_, ?_, fun q hq => ?_, ld_step hM hp h1 a4 hle, fun q hq1 hq2 => ?_, ?_⟩
  · by_cases e : q = p
    · subst e; rw [ub_s]; have := a1 q; omega
    · rw [ub_n _ _ e]; exact a1 q
  · rw [ub_n _ _ (by omega)]; exact a2
  · rw [ub_n _ _ (by omega)]; exact a3 q hq
  · rw [af_step g u t hp]
    have h4 := a5 q hq1 hq2
    have h5 : 0 ≤ M q p * t := Int.mul_nonneg (hM q p) ht
    by_cases e : q = p
    · subst e; rw [if_pos rfl]; omega
    · rw [if_neg e]; omega
  · refine Int.le_trans ?_ a6
    have e1 : psum n (af n M g (ub u p (u p + t))) = psum n (af n M g u) - dg n M p * t + psum n (fun q => M q p) * t := by
      unfold psum
      rw [← gs_mulr, show dg n M p * t = gs (fun k => if k = p then dg n M p * t else 0) n from (gs_one (fun _ => dg n M p * t) hp).symm, ← gs_sub, ← gs_add]
      refine gs_cong (fun k hk => ?_)
      by_cases e0 : k = 0
      · subst e0
        rw [if_pos rfl, if_pos rfl, if_pos rfl, if_neg (by omega)]; omega
      · rw [if_neg e0, if_neg e0, if_neg e0, af_step g u t hp]
    have e2 : psum n (fun q => M q p) ≤ dg n M p := gs_le (fun k hk => by
      by_cases e0 : k = 0
      · rw [if_pos e0]; exact hM p k
      · rw [if_neg e0]; exact Int.le_of_eq (hs k p))
    have e3 := Int.mul_le_mul_of_nonneg_right e2 ht
    omega
theorem onw_tp {n : Nat} {M : Nat → Nat → Int} {g u : Nat → Int} (hy : yok n M) (hu : onw n M g u) {p : Nat} (h1 : 1 ≤ p) (hp : p < n) : onw n M g (tp n M g p u) :=
  onw_add hy hu h1 hp (tdiv_nn (hu.2.2.2.2.1 p h1 hp) (dg_nn (fun i j => (hy.2.2.1 i j).1) p)) (tdiv_mul_le (hu.2.2.2.2.1 p h1 hp) (dg_nn (fun i j => (hy.2.2.1 i j).1) p))
/-- the first k places of an order topple, one after the other -/
def sw (n : Nat) (M : Nat → Nat → Int) (g : Nat → Int) (σ : Nat → Nat) : Nat → (Nat → Int) → Nat → Int
  | 0, u => u
  | k + 1, u => tp n M g (σ k) (sw n M g σ k u)
/-- whole sweeps -/
def its (n : Nat) (M : Nat → Nat → Int) (g : Nat → Int) (σ : Nat → Nat) : Nat → Nat → Int
  | 0 => fun _ => 0
  | s + 1 => sw n M g σ (n - 1) (its n M g σ s)
theorem onw_sw {n : Nat} {M : Nat → Nat → Int} {g u : Nat → Int} {σ : Nat → Nat} (hy : yok n M) (hσ : ∀ k, k < n - 1 → 1 ≤ σ k ∧ σ k < n) (hu : onw n M g u) : ∀ {k : Nat}, k ≤ n - 1 → onw n M g (sw n M g σ k u)
  | 0, _ => hu
  | k + 1, hk => onw_tp hy (onw_sw hy hσ hu (k := k) (by omega)) (hσ k (by omega)).1 (hσ k (by omega)).2
theorem onw_its {n : Nat} {M : Nat → Nat → Int} {g : Nat → Int} {σ : Nat → Nat} (hy : yok n M) (hσ : ∀ k, k < n - 1 → 1 ≤ σ k ∧ σ k < n) (hg : ∀ q, 1 ≤ q → q < n → 0 ≤ g q) : ∀ s, onw n M g (its n M g σ s)
  | 0 => onw_0 hg
  | s + 1 => onw_sw hy hσ (onw_its hy hσ hg s) (Nat.le_refl _)
/-- how much more has toppled after k places: never less -/
theorem tp_ge {n : Nat} {M : Nat → Nat → Int} {g u : Nat → Int} (hy : yok n M) (hu : onw n M g u) {p : Nat} (h1 : 1 ≤ p) (hp : p < n) (q : Nat) : u q ≤ tp n M g p u q := by
  unfold tp
  by_cases e : q = p
  · subst e
    rw [ub_s]
    have := tdiv_nn (hu.2.2.2.2.1 q h1 hp) (dg_nn (n := n) (fun i j => (hy.2.2.1 i j).1) q)
    omega
  · rw [ub_n _ _ e]; exact Int.le_refl _
theorem sw_ge {n : Nat} {M : Nat → Nat → Int} {g u : Nat → Int} {σ : Nat → Nat} (hy : yok n M) (hσ : ∀ k, k < n - 1 → 1 ≤ σ k ∧ σ k < n) (hu : onw n M g u) (q : Nat) : ∀ {k : Nat}, k ≤ n - 1 → u q ≤ sw n M g σ k u q
  | 0, _ => Int.le_refl _
  | k + 1, hk => Int.le_trans (sw_ge hy hσ hu q (k := k) (by omega)) (tp_ge hy (onw_sw hy hσ hu (k := k) (by omega)) (hσ k (by omega)).1 (hσ k (by omega)).2 q)
theorem gs_eq_all {f g : Nat → Int} : ∀ {n : Nat}, (∀ k, k < n → f k ≤ g k) → gs f n = gs g n → ∀ k, k < n → f k = g k
  | 0, _, _, k, hk => absurd hk (Nat.not_lt_zero _)
  | n + 1, h, e, k, hk => by
    have h1 : gs f n ≤ gs g n := gs_le (fun k hk => h k (by omega))
    have h2 := h n (by omega)
    rw [gs_s, gs_s] at e
    rcases Nat.lt_or_ge k n with q | q
    · exact gs_eq_all (fun k hk => h k (by omega)) (by omega) k q
    · rw [show k = n by omega]; omega
/-- a sweep in which nothing topples: all is still -/
theorem sw_still {n : Nat} {M : Nat → Nat → Int} {g u : Nat → Int} {σ : Nat → Nat} (hy : yok n M) (hσ : ∀ k, k < n - 1 → 1 ≤ σ k ∧ σ k < n) (hσ2 : ∀ p, 1 ≤ p → p < n → ∃ k, k < n - 1 ∧ σ k = p) (hd : ∀ p, 1 ≤ p → p < n → 1 ≤ dg n M p) (hu : onw n M g u) (h : sw n M g σ (n - 1) u = u) : stl n M g u := by
  have hk : ∀ k, k ≤ n - 1 → sw n M g σ k u = u := by
    have key : ∀ d k, k + d = n - 1 → sw n M g σ k u = u := by
      intro d
      induction d with
      | zero => intro k hk; rw [show k = n - 1 by omega]; exact h
      | succ d ih =>
        intro k hk
        have h1 := ih (k + 1) (by omega)
        funext q
        have a1 := sw_ge hy hσ hu q (k := k) (by omega)
        have a2 := tp_ge hy (onw_sw hy hσ hu (k := k) (by omega)) (hσ k (by omega)).1 (hσ k (by omega)).2 q
        have a3 : tp n M g (σ k) (sw n M g σ k u) q = u q := congrFun h1 q
        omega
    exact fun k hk => key (n - 1 - k) k (by omega)
  refine ⟨hu.1, hu.2.1, hu.2.2.1, fun p h1 hp => ?_, hu.2.2.2.1⟩
  obtain ⟨k, hk1, hk2⟩ := hσ2 p h1 hp
  have e1 := hk (k + 1) (by omega)
  have e0 := hk k (by omega)
  have e2 : tp n M g (σ k) (sw n M g σ k u) = u := e1
  rw [e0, hk2] at e2
  have e3 := congrFun e2 p
  unfold tp at e3
  rw [ub_s] at e3
  have h4 : (af n M g u p).tdiv (dg n M p) = 0 := by omega
  have h5 := Int.tmod_add_mul_tdiv (af n M g u p) (dg n M p)
  have h6 := Int.tmod_lt_of_pos (af n M g u p) (show 0 < dg n M p by have := hd p h1 hp; omega)
  rw [h4] at h5
  omega
end MathSweep
