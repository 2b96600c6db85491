/-! Settling ends, and in time: weights of the places, and what a sweep takes of them -/
section Sweeps
variable {n : Nat} {M : Nat → Nat → Int}
theorem lpy_neg (y : Nat → Int) (p : Nat) : lpy n M (fun q => - y q) p = - lpy n M y p := by
  unfold lpy
  rw [← gs_neg]
  exact gs_cong (fun q _ => by rw [← Int.mul_neg]; congr 1; show - y p - - y q = - (y p - y q); omega)
def wgt (n : Nat) (M : Nat → Nat → Int) : Nat → Int := alg (fun i => i + 1) (fun i => cr (n - 1) (lpm n M) (fun q => dg n M (q + 1)) i) (n - 1)
theorem wgt_0 (n : Nat) (M : Nat → Nat → Int) : wgt n M 0 = 0 := alg_out (fun j _ h => by omega)
theorem wgt_lpy (hy : yok n M) {p : Nat} (h1 : 1 ≤ p) (hp : p < n) : lpy n M (wgt n M) p = trd n M * dg n M p := by
  obtain ⟨i, rfl⟩ : ∃ i, p = i + 1 := ⟨p - 1, by omega⟩
  have h := alg_lpy hy (v := fun i => i + 1) (x := fun i => cr (n - 1) (lpm n M) (fun q => dg n M (q + 1)) i) (k := n - 1) (fun a b _ _ h => by omega) (fun a ha => by omega) (i := i) (by omega)
  have h2 := cr_r (lpm n M) (fun q => dg n M (q + 1)) (i := i) (n := n - 1) (by omega)
  exact h.trans h2
theorem wgt_nn (hy : yok n M) (hc : cn n M) : ∀ p, p < n → 0 ≤ wgt n M p := fun p hp => Classical.byContradiction fun hneg => by
  have hD := (trd_pos hy hc).1
  have h1 := cutge hy hc (fun q => - wgt n M q) 0 1 (by omega) (by show ¬ (0 : Int) < - wgt n M 0; rw [wgt_0]; omega) hp (by omega) (fun p q _ _ h1 h2 => by omega)
  have h2 : gs (fun p => if 0 < - wgt n M p then lpy n M (fun q => - wgt n M q) p else 0) n ≤ gs (fun _ => (0 : Int)) n := gs_le (fun q hq => by
    split
    · rename_i h
      rw [lpy_neg]
      by_cases e : q = 0
      · rw [e, wgt_0] at h; omega
      · rw [wgt_lpy hy (by omega) hq]
        have h3 := Int.mul_nonneg (Int.le_of_lt hD) (dg_nn (n := n) (M := M) (fun i j => (hy.2.2.1 i j).1) q)
        omega
    · exact Int.le_refl _)
  rw [gs_const, Int.mul_zero] at h2
  omega
theorem wgt_le (hy : yok n M) (hc : cn n M) : ∀ p, p < n → wgt n M p ≤ 1029 * trd n M := by
  have hD := (trd_pos hy hc).1
  have hn := hy.2.1
  have hn2 := hy.1
  obtain ⟨D, hDe⟩ : ∃ D, D = trd n M := ⟨_, rfl⟩
  rw [← hDe] at hD ⊢
  obtain ⟨cq, hcq⟩ : ∃ cq : Int → Int, cq = fun c => gs (fun p => if c < wgt n M p then 1 else 0) n := ⟨_, rfl⟩
  have hnn : ∀ c, 0 ≤ cq c := fun c => by rw [hcq]; exact gs_nn (fun k _ => by split <;> omega)
  have hstep : ∀ c, 0 ≤ c → 0 < cq c → cq (c + 147 * D) + 1 ≤ cq c := fun c hc0 hpos => by
    by_cases hex : ∃ p, p < n ∧ c < wgt n M p ∧ ¬ c + 147 * D < wgt n M p
    · obtain ⟨p, h1, h2, h3⟩ := hex
      rw [hcq]
      exact gs_more (p := p) (fun k _ => by
        by_cases e : c + 147 * D < wgt n M k
        · rw [if_pos e, if_pos (by omega)]; omega
        · rw [if_neg e]; split <;> omega) h1 (by rw [if_neg h3, if_pos h2]; omega)
    · exfalso
      have hex0 : ∃ p, p < n ∧ c < wgt n M p := Classical.byContradiction fun hn0 => by
        have : cq c = 0 := by rw [hcq]; exact gs_zero (fun p hp => if_neg (fun h => hn0 ⟨p, hp, h⟩))
        omega
      obtain ⟨p0, hp0, hp1⟩ := hex0
      have h1 := cutge hy hc (wgt n M) c (147 * D + 1) (by omega) (by rw [wgt_0]; omega) hp0 hp1 (fun p q hp hq h1 h2 => by
        have h3 : c + 147 * D < wgt n M p := Classical.byContradiction fun h4 => hex ⟨p, hp, h1, h4⟩
        omega)
      have h2 : gs (fun p => if c < wgt n M p then lpy n M (wgt n M) p else 0) n ≤ gs (fun p => if p = 0 then 0 else D * 21) n := gs_le (fun p hp => by
        by_cases e : p = 0
        · rw [if_pos e, if_neg (by rw [e, wgt_0]; omega)]; exact Int.le_refl _
        · rw [if_neg e]
          have h4 := Int.mul_le_mul_of_nonneg_left (dg_le hy hp) (Int.le_of_lt hD)
          split
          · rw [wgt_lpy hy (by omega) hp, ← hDe]; exact h4
          · omega)
      have h3 : gs (fun p => if p = 0 then 0 else D * 21) n = ((n : Int) - 1) * (D * 21) := by
        have h4 := gs_upd (fun _ => D * 21) 0 (p := 0) (n := n) (by omega)
        rw [gs_const] at h4
        rw [h4, Int.sub_mul]; omega
      have h5 : ((n : Int) - 1) * (D * 21) ≤ 7 * (D * 21) := Int.mul_le_mul_of_nonneg_right (by omega) (by omega)
      omega
  have h0 : cq 0 + 1 ≤ n := by
    have h1 := gs_more (f := fun p => if (0 : Int) < wgt n M p then (1 : Int) else 0) (g := fun _ => 1) (p := 0) (n := n) (fun k _ => by split <;> omega) (by omega) (by rw [if_neg (by rw [wgt_0]; omega)]; omega)
    rw [gs_const] at h1
    rw [hcq]; dsimp only; omega
  have hi : ∀ i : Nat, cq ((i : Int) * (147 * D)) ≤ 7 - i ∨ cq ((i : Int) * (147 * D)) ≤ 0 := by
    intro i
    induction i with
    | zero => left; rw [Int.natCast_zero, Int.zero_mul]; omega
    | succ i ih =>
      have e : ((i + 1 : Nat) : Int) * (147 * D) = (i : Int) * (147 * D) + 147 * D := by rw [Int.natCast_add, Int.add_mul]; omega
      rw [e]
      have hpos : 0 ≤ (i : Int) * (147 * D) := Int.mul_nonneg (by omega) (by omega)
      by_cases hz : 0 < cq ((i : Int) * (147 * D))
      · have h1 := hstep _ hpos hz
        left; omega
      · right
        have h1 : cq ((i : Int) * (147 * D) + 147 * D) ≤ cq ((i : Int) * (147 * D)) := by
          rw [hcq]
          exact gs_le (fun k _ => by
            by_cases e : (i : Int) * (147 * D) + 147 * D < wgt n M k
            · rw [if_pos e, if_pos (by omega)]; exact Int.le_refl _
            · rw [if_neg e]; split <;> omega)
        omega
  intro p hp
  have h7 := hi 7
  have h8 : cq (((7 : Nat) : Int) * (147 * D)) ≤ 0 := by omega
  refine Classical.byContradiction fun hgt => ?_
  have h9 := gs_ge (f := fun p => if ((7 : Nat) : Int) * (147 * D) < wgt n M p then (1 : Int) else 0) (p := p) (n := n) (fun k _ => by split <;> omega) hp
  rw [if_pos (by omega)] at h9
  rw [hcq] at h8
  dsimp only at h8
  omega
/-- what has toppled, by degrees -/
def edg (n : Nat) (M : Nat → Nat → Int) (u : Nat → Int) : Int := gs (fun p => dg n M p * u p) n
def pot (n : Nat) (M : Nat → Nat → Int) (f : Nat → Int) : Int := gs (fun p => wgt n M p * f p) n
theorem pot_af (hy : yok n M) {g u : Nat → Int} (hu : u 0 = 0) : pot n M (af n M g u) = pot n M g - trd n M * edg n M u := by
  have h1 : pot n M (af n M g u) = pot n M g - gs (fun p => wgt n M p * lpy n M u p) n := by
    unfold pot
    rw [← gs_sub]
    exact gs_cong (fun p _ => by
      rw [← Int.mul_sub]; congr 1
      unfold af lpy
      have : gs (fun q => M p q * (u p - u q)) n = gs (fun q => M p q * u p - M p q * u q) n := gs_cong (fun q _ => Int.mul_sub _ _ _)
      rw [this, gs_sub, gs_mulr]
      show g p - dg n M p * u p + gs (fun q => M p q * u q) n = g p - (dg n M p * u p - gs (fun q => M p q * u q) n)
      omega)
  have h2 : gs (fun p => wgt n M p * lpy n M u p) n = gs (fun p => lpy n M (wgt n M) p * u p) n := by
    have e1 : gs (fun p => wgt n M p * lpy n M u p) n = gs (fun p => gs (fun q => M p q * (wgt n M p * u p) - M p q * (wgt n M p * u q)) n) n := gs_cong (fun p _ => by
      unfold lpy; rw [← gs_mul]; exact gs_cong (fun q _ => by rw [Int.mul_left_comm, ← Int.mul_sub, ← Int.mul_sub]))
    have e2 : gs (fun p => lpy n M (wgt n M) p * u p) n = gs (fun p => gs (fun q => M p q * (wgt n M p * u p) - M p q * (wgt n M q * u p)) n) n := gs_cong (fun p _ => by
      unfold lpy; rw [← gs_mulr]; exact gs_cong (fun q _ => by rw [Int.mul_assoc, Int.sub_mul, ← Int.mul_sub]))
    have e3 : ∀ F G : Nat → Nat → Int, gs (fun p => gs (fun q => F p q - G p q) n) n = gs (fun p => gs (fun q => F p q) n) n - gs (fun p => gs (fun q => G p q) n) n := fun F G => by
      rw [← gs_sub]; exact gs_cong (fun p _ => gs_sub _ _ _)
    rw [e1, e2, e3, e3, gs_swap (fun p q => M p q * (wgt n M p * u q)) n n]
    congr 1
    exact gs_cong (fun p _ => gs_cong (fun q _ => by rw [hy.2.2.2.1 q p]))
  have h3 : gs (fun p => lpy n M (wgt n M) p * u p) n = trd n M * edg n M u := by
    unfold edg
    rw [← gs_mul]
    exact gs_cong (fun p hp => by
      by_cases e : p = 0
      · rw [e, hu, Int.mul_zero, Int.mul_zero, Int.mul_zero]
      · rw [wgt_lpy hy (by omega) hp, Int.mul_assoc])
  rw [h1, h2, h3]
theorem pot_rng (hy : yok n M) (hc : cn n M) {f : Nat → Int} (hf : ∀ q, 1 ≤ q → q < n → 0 ≤ f q) : 0 ≤ pot n M f ∧ pot n M f ≤ 1029 * trd n M * psum n f := by
  constructor
  · exact gs_nn (fun p hp => by
      by_cases e : p = 0
      · rw [e, wgt_0, Int.zero_mul]; exact Int.le_refl _
      · exact Int.mul_nonneg (wgt_nn hy hc p hp) (hf p (by omega) hp))
  · unfold pot psum
    rw [← gs_mul]
    exact gs_le (fun p hp => by
      by_cases e : p = 0
      · rw [if_pos e, e, wgt_0, Int.zero_mul, Int.mul_zero]; exact Int.le_refl _
      · rw [if_neg e]
        exact Int.mul_le_mul_of_nonneg_right (wgt_le hy hc p hp) (hf p (by omega) hp))
theorem edg_tp (hy : yok n M) {g u : Nat → Int} {p : Nat} (hp : p < n) : edg n M (tp n M g p u) = edg n M u + dg n M p * (af n M g u p).tdiv (dg n M p) := by
  have e : edg n M (tp n M g p u) = gs (fun k => if k = p then dg n M p * (u p + (af n M g u p).tdiv (dg n M p)) else dg n M k * u k) n := gs_cong (fun k _ => by
    unfold tp
    by_cases e : k = p
    · subst e; rw [ub_s, if_pos rfl]
    · rw [ub_n _ _ e, if_neg e])
  rw [e, gs_upd (fun k => dg n M k * u k) _ hp, Int.mul_add]
  unfold edg; omega
theorem af_more (hy : yok n M) {g u v : Nat → Int} {p : Nat} (hp : u p = v p) (h : ∀ q, q < n → u q ≤ v q) : af n M g u p ≤ af n M g v p := by
  have h1 : gs (fun q => M p q * u q) n ≤ gs (fun q => M p q * v q) n := gs_le (fun q hq => Int.mul_le_mul_of_nonneg_left (h q hq) (hy.2.2.1 p q).1)
  unfold af; rw [hp]; omega
theorem sw_edg (hy : yok n M) (hd : ∀ p, 1 ≤ p → p < n → 1 ≤ dg n M p) {g u : Nat → Int} (hu : onw n M g u) : ∀ k, k ≤ n - 1 → (∀ q, k < q → sw n M g up1 k u q = u q) ∧ edg n M u + gs (fun i => af n M g u (i + 1) - 20) k ≤ edg n M (sw n M g up1 k u)
  | 0, _ => ⟨fun q _ => rfl, by rw [gs_z]; show _ ≤ edg n M u; omega⟩
  | k + 1, hk => by
    obtain ⟨h1, h2⟩ := sw_edg hy hd hu k (by omega)
    have hon := onw_sw hy up1_in hu (k := k) (by omega)
    have hge := fun q => sw_ge hy up1_in hu q (k := k) (by omega)
    have hsw : sw n M g up1 (k + 1) u = tp n M g (k + 1) (sw n M g up1 k u) := rfl
    refine ⟨fun q hq => ?_, ?_⟩
    · rw [hsw]; unfold tp; rw [ub_n _ _ (by omega)]; exact h1 q (by omega)
    · rw [hsw, edg_tp hy (by omega), gs_s]
      have h3 := af_more hy (g := g) (u := u) (v := sw n M g up1 k u) (p := k + 1) (h1 (k + 1) (by omega)).symm (fun q _ => hge q)
      have h4 := hon.2.2.2.2.1 (k + 1) (by omega) (by omega)
      have h5 := hd (k + 1) (by omega) (by omega)
      have h6 := dg_le hy (p := k + 1) (by omega)
      have h7 := Int.mul_tdiv_add_tmod (af n M g (sw n M g up1 k u) (k + 1)) (dg n M (k + 1))
      have h8 := Int.tmod_lt_of_pos (af n M g (sw n M g up1 k u) (k + 1)) (show 0 < dg n M (k + 1) by omega)
      omega
theorem psum_first (hn : 1 ≤ n) (f : Nat → Int) : psum n f = gs (fun i => f (i + 1)) (n - 1) := by
  unfold psum
  obtain ⟨m, rfl⟩ : ∃ m, n = m + 1 := ⟨n - 1, by omega⟩
  rw [gs_first, if_pos rfl]
  show 0 + gs (fun k => if k + 1 = 0 then 0 else f (k + 1)) m = _
  rw [Int.zero_add, show m + 1 - 1 = m by omega]
  exact gs_cong (fun k _ => if_neg (by omega))
theorem edg_up {u v : Nat → Int} (hd : ∀ p, 1 ≤ p → p < n → 1 ≤ dg n M p) (h0 : u 0 = 0) (h0' : v 0 = 0) (hn : ∀ p, n ≤ p → u p = 0) (hn' : ∀ p, n ≤ p → v p = 0) (hle : ∀ q, u q ≤ v q) (hne : u ≠ v) (hdn : ∀ p, 0 ≤ dg n M p) : edg n M u + 1 ≤ edg n M v := by
  have hex : ∃ q, u q ≠ v q := Classical.byContradiction fun h => hne (funext fun q => Classical.byContradiction fun h2 => h ⟨q, h2⟩)
  obtain ⟨q, hq⟩ := hex
  have hq1 : 1 ≤ q := by
    rcases Nat.eq_zero_or_pos q with e | e
    · rw [e, h0, h0'] at hq; exact absurd rfl hq
    · exact e
  have hqn : q < n := by
    rcases Nat.lt_or_ge q n with e | e
    · exact e
    · rw [hn q e, hn' q e] at hq; exact absurd rfl hq
  refine gs_more (p := q) (fun k _ => Int.mul_le_mul_of_nonneg_left (hle k) (hdn k)) hqn ?_
  have h1 := hle q
  have h2 := hd q hq1 hqn
  have h3 : dg n M q * (v q - u q) ≥ 1 * (v q - u q) := Int.mul_le_mul_of_nonneg_right h2 (by omega)
  rw [Int.mul_sub] at h3
  omega
/-- each sweep that changes something counts -/
theorem its_up (hy : yok n M) (hd : ∀ p, 1 ≤ p → p < n → 1 ≤ dg n M p) {g : Nat → Int} {σ : Nat → Nat} (hσ : ∀ k, k < n - 1 → 1 ≤ σ k ∧ σ k < n) (hg : ∀ q, 1 ≤ q → q < n → 0 ≤ g q) {s : Nat} (hne : its n M g σ (s + 1) ≠ its n M g σ s) : edg n M (its n M g σ s) + 1 ≤ edg n M (its n M g σ (s + 1)) := by
  have h1 := onw_its hy hσ hg s
  have h2 := onw_its hy hσ hg (s + 1)
  exact edg_up hd h1.2.1 h2.2.1 h1.2.2.1 h2.2.2.1 (fun q => sw_ge hy hσ h1 q (Nat.le_refl _)) (fun h => hne h.symm) (fun p => dg_nn (fun i j => (hy.2.2.1 i j).1) p)
theorem mst_ok (hy : yok n M) (hc : cn n M) (hd : ∀ p, 1 ≤ p → p < n → 1 ≤ dg n M p) : mst9 n M := by
  refine ⟨hy, hd, fun g hg _ => Classical.byContradiction fun hno => ?_⟩
  have hD := (trd_pos hy hc).1
  have hne : ∀ s, its n M g (dwn n) (s + 1) ≠ its n M g (dwn n) s := fun s h => hno ⟨s, h⟩
  have hs : ∀ s : Nat, (s : Int) ≤ edg n M (its n M g (dwn n) s) := by
    intro s
    induction s with
    | zero => exact Int.le_of_eq (gs_zero (fun p _ => Int.mul_zero _)).symm
    | succ s ih => have := its_up hy hd dwn_in hg (hne s); push_cast; omega
  have h0 := (pot_rng hy hc hg).1
  have hS := hs (pot n M g).toNat.succ
  have hon := onw_its hy dwn_in hg (pot n M g).toNat.succ
  have h1 := pot_af hy (g := g) hon.2.1
  have h2 := (pot_rng hy hc hon.2.2.2.2.1).1
  have h3 : 1 * edg n M (its n M g (dwn n) (pot n M g).toNat.succ) ≤ trd n M * edg n M (its n M g (dwn n) (pot n M g).toNat.succ) := Int.mul_le_mul_of_nonneg_right (by omega) (by omega)
  omega
end Sweeps
section Sweeps2
variable {n : Nat} {M : Nat → Nat → Int}
/-- a row of numbers that loses a 2058th each time is half as much 2058 times later -/
theorem halve (K : Nat) (hK1 : 1 ≤ K) {f : Nat → Int} {s0 : Nat} (h0 : ∀ s, 0 ≤ f s) (N : Nat) (h : ∀ s, s0 ≤ s → s < s0 + N → f s ≤ (K : Int) * (f s - f (s + 1))) : ∀ j, j * K ≤ N → f (s0 + j * K) * 2 ^ j ≤ f s0 := by
  intro j
  induction j with
  | zero => intro _; rw [Nat.zero_mul, Nat.add_zero, Int.pow_zero, Int.mul_one]; exact Int.le_refl _
  | succ j ihj =>
    intro hj
    rw [Nat.succ_mul] at hj
    have ih := ihj (by omega)
    obtain ⟨a0, ha0⟩ : ∃ a0, a0 = s0 + j * K := ⟨_, rfl⟩
    have hd : ∀ i, i ≤ K → f (a0 + i) * (i : Int) ≤ (K : Int) * (f a0 - f (a0 + i)) ∧ f (a0 + i) ≤ f a0 := by
      intro i
      induction i with
      | zero => intro _; rw [Nat.add_zero]; simp
      | succ i ihi =>
        intro hi
        obtain ⟨a, b⟩ := ihi (by omega)
        have h1 := h (a0 + i) (by omega) (by omega)
        have h2 := h0 (a0 + i)
        have h3 : f (a0 + i + 1) ≤ f (a0 + i) := Classical.byContradiction fun hn => by
          have h9 : (K : Int) * (f (a0 + i) - f (a0 + i + 1)) ≤ 1 * (f (a0 + i) - f (a0 + i + 1)) := Int.mul_le_mul_of_nonpos_right (by omega) (by omega)
          omega
        have h4 : f (a0 + i + 1) * (i : Int) ≤ f (a0 + i) * (i : Int) := Int.mul_le_mul_of_nonneg_right h3 (by omega)
        refine ⟨?_, by show f (a0 + i + 1) ≤ _; omega⟩
        show f (a0 + i + 1) * ((i + 1 : Nat) : Int) ≤ (K : Int) * (f a0 - f (a0 + i + 1))
        have e2 : f (a0 + i + 1) * ((i + 1 : Nat) : Int) = f (a0 + i + 1) * (i : Int) + f (a0 + i + 1) := by rw [Int.natCast_add, Int.mul_add]; simp
        have e3 : (K : Int) * (f a0 - f (a0 + i + 1)) = (K : Int) * (f a0 - f (a0 + i)) + (K : Int) * (f (a0 + i) - f (a0 + i + 1)) := by rw [← Int.mul_add]; congr 1; omega
        rw [e2, e3]; omega
    have h5 := (hd K (Nat.le_refl _)).1
    have e3 : s0 + (j + 1) * K = a0 + K := by rw [Nat.succ_mul, ha0]; omega
    rw [e3, Int.pow_succ]
    have h6 : f (a0 + K) * 2 ≤ f a0 := by
      have h7 : (K : Int) * (f (a0 + K)) ≤ (K : Int) * (f a0 - f (a0 + K)) := by rw [Int.mul_comm (K : Int) (f (a0 + K))]; exact h5
      have h8 := Int.le_of_mul_le_mul_left h7 (by omega)
      omega
    have h8 : (0 : Int) ≤ 2 ^ j := Int.le_of_lt (Int.pow_pos (by omega))
    have h9 := Int.mul_le_mul_of_nonneg_right h6 h8
    have e4 : f (a0 + K) * (2 ^ j * 2) = f (a0 + K) * 2 * 2 ^ j := by rw [Int.mul_comm (2 ^ j) 2, ← Int.mul_assoc]
    rw [e4]
    rw [ha0] at h9 ⊢
    omega
theorem yst_ok (hy : yok n M) (hc : cn n M) (hd : ∀ p, 1 ≤ p → p < n → 1 ≤ dg n M p) : yst n M := by
  refine ⟨hy, hd, fun g hg hB => Classical.byContradiction fun hno => ?_⟩
  have hn := hy.2.1
  have hn2 := hy.1
  obtain ⟨D, hDe⟩ : ∃ D, D = trd n M := ⟨_, rfl⟩
  have hD : 0 < D := by rw [hDe]; exact (trd_pos hy hc).1
  obtain ⟨u, hu⟩ : ∃ u : Nat → Nat → Int, u = fun s => its n M g up1 s := ⟨_, rfl⟩
  have hne : ∀ s, s < 1000000 → its n M g up1 (s + 1) ≠ its n M g up1 s := fun s hs h => hno ⟨s, hs, h⟩
  obtain ⟨f, hf⟩ : ∃ f : Nat → Int, f = fun s => pot n M (af n M g (its n M g up1 s)) := ⟨_, rfl⟩
  obtain ⟨G, hG⟩ : ∃ G : Nat → Int, G = fun s => psum n (af n M g (its n M g up1 s)) := ⟨_, rfl⟩
  have hon := fun s => onw_its (σ := up1) hy up1_in hg s
  have hfe : ∀ s, f s = pot n M g - D * edg n M (its n M g up1 s) := fun s => by rw [hf, hDe]; exact pot_af hy (hon s).2.1
  have hfr : ∀ s, 0 ≤ f s ∧ f s ≤ 1029 * D * G s := fun s => by rw [hf, hG, hDe]; exact pot_rng hy hc (hon s).2.2.2.2.1
  have hone : ∀ s, s < 1000000 → f (s + 1) ≤ f s - D := fun s hs => by
    have h1 := its_up hy hd up1_in hg (hne s hs)
    rw [hfe, hfe]
    have h2 := Int.mul_le_mul_of_nonneg_left h1 (Int.le_of_lt hD)
    rw [Int.mul_add, Int.mul_one] at h2
    omega
  have hbig : ∀ s, f (s + 1) ≤ f s - D * (G s - 140) := fun s => by
    have h1 := (sw_edg hy hd (hon s) (n - 1) (Nat.le_refl _)).2
    have h2 : gs (fun i => af n M g (its n M g up1 s) (i + 1) - 20) (n - 1) = G s - ((n - 1 : Nat) : Int) * 20 := by
      rw [gs_sub, gs_const, hG]; dsimp only; rw [psum_first (by omega)]
    rw [h2] at h1
    have h3 : edg n M (its n M g up1 s) + (G s - 140) ≤ edg n M (its n M g up1 (s + 1)) := by
      have e : sw n M g up1 (n - 1) (its n M g up1 s) = its n M g up1 (s + 1) := rfl
      rw [e] at h1; omega
    have h4 := Int.mul_le_mul_of_nonneg_left h3 (Int.le_of_lt hD)
    rw [Int.mul_add] at h4
    rw [hfe, hfe]; omega
  -- some sweep finds few grains
  have hfew : ∃ s1, s1 ≤ 82320 ∧ G s1 < 280 := Classical.byContradiction fun hx => by
    have hG2 : ∀ s, s ≤ 82320 → 280 ≤ G s := fun s hs => Classical.byContradiction fun h => hx ⟨s, hs, by omega⟩
    have hstep : ∀ s, s ≤ 82320 → f s ≤ 2058 * (f s - f (s + 1)) ∧ 140 * D ≤ f s - f (s + 1) := fun s hs => by
      have h1 := hbig s
      have h2 := hG2 s hs
      have h3 := (hfr s).2
      have h4 : D * (G s - 140) * 2 ≥ D * G s := by
        have h5 := Int.mul_le_mul_of_nonneg_left (show G s ≤ (G s - 140) * 2 by omega) (Int.le_of_lt hD)
        rw [← Int.mul_assoc] at h5; exact h5
      have h6 : 1029 * D * G s = 1029 * (D * G s) := Int.mul_assoc _ _ _
      have h7 := Int.mul_le_mul_of_nonneg_left (show (140 : Int) ≤ G s - 140 by omega) (Int.le_of_lt hD)
      constructor <;> omega
    have h8 := halve 2058 (by omega) (f := f) (s0 := 0) (fun s => (hfr s).1) 82320 (fun s _ hs => (hstep s (by omega)).1) 40 (by omega)
    have h9 : f 82320 ≤ 2058 * (f 82320 - f 82321) ∧ 140 * D ≤ f 82320 - f 82321 := hstep 82320 (Nat.le_refl _)
    have h10 := (hfr 82321).1
    have e : 0 + 40 * 2058 = 82320 := by omega
    rw [e] at h8
    have h11 : f 0 ≤ 1029 * D * 1000000000 := by
      have h12 := (hfr 0).2
      have h13 : G 0 ≤ 1000000000 := by
        rw [hG]
        have e0 : its n M g up1 0 = fun _ => 0 := rfl
        dsimp only; rw [e0, af_0]; exact hB
      have h14 := Int.mul_le_mul_of_nonneg_left h13 (show 0 ≤ 1029 * D by omega)
      omega
    have h15 : (2 : Int) ^ 40 = 1099511627776 := by decide
    rw [h15] at h8
    omega
  obtain ⟨s1, hs1, hg1⟩ := hfew
  have ht : ∀ t : Nat, s1 + t ≤ 1000000 → f (s1 + t) ≤ f s1 - t * D := by
    intro t
    induction t with
    | zero => intro _; simp
    | succ t ih =>
      intro h
      have h1 := ih (by omega)
      have h2 := hone (s1 + t) (by omega)
      have e : ((t + 1 : Nat) : Int) * D = (t : Int) * D + D := by rw [Int.natCast_add, Int.add_mul]; simp
      rw [e, show s1 + (t + 1) = s1 + t + 1 by omega]; omega
  have h1 := ht 290000 (by omega)
  have h2 := (hfr (s1 + 290000)).1
  have h3 := (hfr s1).2
  have h4 := Int.mul_le_mul_of_nonneg_left (show G s1 ≤ 280 by omega) (show 0 ≤ 1029 * D by omega)
  omega
end Sweeps2
