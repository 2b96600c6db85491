/-! Cuts: what flows over them; minors of a joined yard are over 0 -/
section Cut
def lpy (n : Nat) (M : Nat → Nat → Int) (y : Nat → Int) (p : Nat) : Int := gs (fun q => M p q * (y p - y q)) n
theorem cutsum {n : Nat} {M : Nat → Nat → Int} (hsy : ∀ i j, M i j = M j i) (y : Nat → Int) (c : Int) :
    gs (fun p => if c < y p then lpy n M y p else 0) n = gs (fun p => gs (fun q => if c < y p ∧ ¬ c < y q then M p q * (y p - y q) else 0) n) n := by
  have h0 : gs (fun p => gs (fun q => if c < y p ∧ c < y q then M p q * (y p - y q) else 0) n) n = 0 := by
    have h1 : gs (fun p => gs (fun q => if c < y p ∧ c < y q then M p q * (y p - y q) else 0) n) n = - gs (fun p => gs (fun q => if c < y p ∧ c < y q then M p q * (y p - y q) else 0) n) n := by
      rw [← gs_neg]
      rw [gs_swap (fun p q => if c < y p ∧ c < y q then M p q * (y p - y q) else 0) n n]
      exact gs_cong (fun p _ => by
        rw [← gs_neg]
        exact gs_cong (fun q _ => by
          by_cases e : c < y p ∧ c < y q
          · rw [if_pos e, if_pos ⟨e.2, e.1⟩, hsy q p, ← Int.mul_neg]; congr 1; omega
          · rw [if_neg e, if_neg (fun h => e ⟨h.2, h.1⟩)]; rfl))
    omega
  have h2 : gs (fun p => if c < y p then lpy n M y p else 0) n = gs (fun p => gs (fun q => if c < y p ∧ ¬ c < y q then M p q * (y p - y q) else 0) n + gs (fun q => if c < y p ∧ c < y q then M p q * (y p - y q) else 0) n) n := gs_cong (fun p _ => by
    by_cases e : c < y p
    · rw [if_pos e, ← gs_add]
      exact gs_cong (fun q _ => by
        by_cases e2 : c < y q
        · rw [if_neg (fun h => h.2 e2), if_pos ⟨e, e2⟩]; omega
        · rw [if_pos ⟨e, e2⟩, if_neg (fun h => e2 h.2)]; omega)
    · rw [if_neg e, gs_zero (fun q _ => if_neg (fun h => e h.1)), gs_zero (fun q _ => if_neg (fun h => e h.1))]; rfl)
  rw [h2, gs_add, h0, Int.add_zero]
/-- over a cut that the hole isn't in flows at least the step over it -/
theorem cutge {n : Nat} {M : Nat → Nat → Int} (hy : yok n M) (hc : cn n M) (y : Nat → Int) (c g : Int) (hg : 0 ≤ g) (h0 : ¬ c < y 0) {p0 : Nat} (hp : p0 < n) (hp0 : c < y p0) (hgap : ∀ p q, p < n → q < n → c < y p → ¬ c < y q → g ≤ y p - y q) :
    g ≤ gs (fun p => if c < y p then lpy n M y p else 0) n := by
  rw [cutsum hy.2.2.2.1]
  have hex : ∃ p q, p < n ∧ q < n ∧ c < y p ∧ ¬ c < y q ∧ 0 < M p q := Classical.byContradiction fun hn => by
    refine hc (fun p => ¬ c < y p) h0 (fun a b ha hb h1 h2 h3 => hn ⟨b, a, hb, ha, h3, h1, ?_⟩) p0 hp hp0
    rw [hy.2.2.2.1]; exact h2
  obtain ⟨p, q, h1, h2, h3, h4, h5⟩ := hex
  have hnn : ∀ p q, p < n → q < n → 0 ≤ (if c < y p ∧ ¬ c < y q then M p q * (y p - y q) else 0) := fun p q _ _ => by
    split
    · rename_i h; exact Int.mul_nonneg (hy.2.2.1 p q).1 (by omega)
    · omega
  have h6 := gs_ge (f := fun q => if c < y p ∧ ¬ c < y q then M p q * (y p - y q) else 0) (p := q) (n := n) (fun q hq => hnn p q h1 hq) h2
  have h7 := gs_ge (f := fun p => gs (fun q => if c < y p ∧ ¬ c < y q then M p q * (y p - y q) else 0) n) (p := p) (n := n) (fun p hp => gs_nn (fun q hq => hnn p q hp hq)) h1
  rw [if_pos ⟨h3, h4⟩] at h6
  have h8 := hgap p q h1 h2 h3 h4
  have h9 : 1 * (y p - y q) ≤ M p q * (y p - y q) := Int.mul_le_mul_of_nonneg_right (by omega) (by omega)
  omega
/-- a row told along a list of places -/
def alg (v : Nat → Nat) (x : Nat → Int) (k : Nat) : Nat → Int := fun q => gs (fun j => if q = v j then x j else 0) k
theorem alg_at {v : Nat → Nat} {x : Nat → Int} {k : Nat} (hv : ∀ a b, a < k → b < k → v a = v b → a = b) {i : Nat} (hi : i < k) : alg v x k (v i) = x i := by
  unfold alg
  have h : gs (fun j => if v i = v j then x j else 0) k = gs (fun j => if j = i then x j else 0) k := gs_cong (fun j hj => by
    by_cases e : j = i
    · rw [if_pos e, if_pos (by rw [e])]
    · rw [if_neg e, if_neg (fun h => e (hv j i hj hi h.symm))])
  rw [h, gs_one x hi]
theorem alg_out {v : Nat → Nat} {x : Nat → Int} {k q : Nat} (h : ∀ j, j < k → q ≠ v j) : alg v x k q = 0 := gs_zero (fun j hj => if_neg (h j hj))
theorem alg_lpy {n : Nat} {M : Nat → Nat → Int} (hy : yok n M) {v : Nat → Nat} {x : Nat → Int} {k : Nat} (hv : ∀ a b, a < k → b < k → v a = v b → a = b) (hv1 : ∀ a, a < k → 1 ≤ v a ∧ v a < n) {i : Nat} (hi : i < k) : lpy n M (alg v x k) (v i) = gs (fun j => lap n M (v i) (v j) * x j) k := by
  have h1 : lpy n M (alg v x k) (v i) = dg n M (v i) * x i - gs (fun q => M (v i) q * alg v x k q) n := by
    unfold lpy
    rw [alg_at hv hi]
    have : gs (fun q => M (v i) q * (x i - alg v x k q)) n = gs (fun q => M (v i) q * x i - M (v i) q * alg v x k q) n := gs_cong (fun q _ => Int.mul_sub _ _ _)
    rw [this, gs_sub, gs_mulr]; rfl
  have h2 : gs (fun q => M (v i) q * alg v x k q) n = gs (fun j => M (v i) (v j) * x j) k := by
    have h3 : gs (fun q => M (v i) q * alg v x k q) n = gs (fun q => gs (fun j => if q = v j then M (v i) q * x j else 0) k) n := gs_cong (fun q _ => by
      unfold alg; rw [← gs_mul]
      exact gs_cong (fun j _ => by
        by_cases e : q = v j
        · rw [if_pos e, if_pos e]
        · rw [if_neg e, if_neg e, Int.mul_zero]))
    rw [h3, gs_swap]
    exact gs_cong (fun j hj => by
      exact gs_one (fun q => M (v i) q * x j) (hv1 j hj).2)
  have h4 : gs (fun j => lap n M (v i) (v j) * x j) k = gs (fun j => (if j = i then dg n M (v i) * x j else 0) - M (v i) (v j) * x j) k := gs_cong (fun j hj => by
    unfold lap
    by_cases e : j = i
    · rw [if_pos e, e, if_pos rfl, hy.2.2.2.2.1]; omega
    · rw [if_neg e, if_neg (fun h => e (hv j i hj hi h.symm)), Int.neg_mul]; omega)
  rw [h1, h2, h4, gs_sub, gs_one (fun j => dg n M (v i) * x j) hi]
/-- principal minors of a joined yard -/
theorem lap_pos {n : Nat} {M : Nat → Nat → Int} (hy : yok n M) (hc : cn n M) : ∀ (k : Nat) (v : Nat → Nat), (∀ a b, a < k → b < k → v a = v b → a = b) → (∀ a, a < k → 1 ≤ v a ∧ v a < n) → 0 < dt k (fun i j => lap n M (v i) (v j))
  | 0, _, _, _ => by show (0 : Int) < 1; omega
  | k + 1, v, hv, hv1 => by
    have hP := lap_pos hy hc k v (fun a b ha hb => hv a b (by omega) (by omega)) (fun a ha => hv1 a (by omega))
    obtain ⟨B, hB⟩ : ∃ B : Nat → Nat → Int, B = fun i j => lap n M (v i) (v j) := ⟨_, rfl⟩
    rw [← hB] at hP ⊢
    obtain ⟨x, hx⟩ : ∃ x : Nat → Int, x = fun l => if l < k then - cr k B (fun r => B r k) l else dt k B := ⟨_, rfl⟩
    have hxk : x k = dt k B := by rw [hx]; exact if_neg (Nat.lt_irrefl k)
    have hrow : ∀ r, r < k + 1 → gs (fun j => B r j * x j) (k + 1) = if r = k then dt (k + 1) B else 0 := fun r hr => by
      rw [gs_s, hxk]
      have e1 : gs (fun j => B r j * x j) k = - gs (fun j => B r j * cr k B (fun r => B r k) j) k := by
        rw [← gs_neg]; exact gs_cong (fun j hj => by rw [hx]; dsimp only; rw [if_pos hj, Int.mul_neg])
      rw [e1]
      by_cases e : r = k
      · rw [if_pos e, e, mi_lead, mi_eq, Int.mul_comm (B k k)]; omega
      · rw [if_neg e]
        have h3 := cr_r B (fun r => B r k) (i := r) (n := k) (by omega)
        rw [h3, Int.mul_comm (B r k)]
        show - (dt k B * B r k) + dt k B * B r k = 0
        omega
    have hz0 : alg v x (k + 1) 0 = 0 := alg_out (fun j hj h => by have := hv1 j hj; omega)
    have hzk : alg v x (k + 1) (v k) = dt k B := by rw [alg_at hv (Nat.lt_succ_self k), hxk]
    have hge := cutge hy hc (alg v x (k + 1)) (dt k B - 1) 1 (by omega) (by omega) (hv1 k (Nat.lt_succ_self k)).2 (by omega) (fun p q _ _ h1 h2 => by omega)
    have hsum : gs (fun p => if dt k B - 1 < alg v x (k + 1) p then lpy n M (alg v x (k + 1)) p else 0) n = dt (k + 1) B := by
      have e1 : gs (fun p => if dt k B - 1 < alg v x (k + 1) p then lpy n M (alg v x (k + 1)) p else 0) n = gs (fun p => if p = v k then (fun _ => dt (k + 1) B) p else 0) n := gs_cong (fun p hp => by
        by_cases e : ∃ i, i < k + 1 ∧ p = v i
        · obtain ⟨i, hi, rfl⟩ := e
          rw [alg_lpy hy hv hv1 hi]
          have h5 := hrow i hi
          rw [hB] at h5; dsimp only at h5
          rw [h5]
          by_cases e2 : i = k
          · rw [e2, if_pos rfl, if_pos rfl, if_pos (by rw [hzk]; omega), hB]
          · rw [if_neg e2, if_neg (fun h => e2 (hv i k hi (Nat.lt_succ_self k) h))]; split <;> rfl
        · rw [if_neg (by rw [alg_out (fun j hj h => e ⟨j, hj, h⟩)]; omega), if_neg (fun h => e ⟨k, Nat.lt_succ_self k, h⟩)])
      rw [e1, gs_one (fun _ => dt (k + 1) B) (hv1 k (Nat.lt_succ_self k)).2]
    omega
theorem trd_pos {n : Nat} {M : Nat → Nat → Int} (hy : yok n M) (hc : cn n M) : 0 < trd n M ∧ trd n M < 2147483648 := by
  have hn := hy.2.1
  have h1 := lap_pos hy hc (n - 1) (fun i => i + 1) (fun a b _ _ h => by omega) (fun a ha => by omega)
  have h2 := tub_any hy (k := n - 1) (fun c => c + 1) (fun r => r + 1) (fun c hc => by omega) (fun r hr => by omega)
  have h3 := p21 (n - 1) (by omega)
  unfold trd lpm
  exact ⟨h1, by omega⟩
theorem hpz_ok {n : Nat} {M : Nat → Nat → Int} (hy : yok n M) (hc : cn n M) {q : Nat} (hq1 : 1 ≤ q) (hq : q < n) : ∃ r c, r < 2 ^ (n - 1) ∧ c < 2 ^ (n - 1) ∧ cb r 7 = q ∧ cb c 7 = q ∧ mnr n M r c ≠ 0 := by
  have hn := hy.2.1
  obtain ⟨e1, e2⟩ := mk_all q (by omega)
  have hlt : 2 ^ q - 1 < 2 ^ (n - 1) := by
    have h1 : 2 ^ q ≤ 2 ^ (n - 1) := Nat.pow_le_pow_right (by omega) (by omega)
    have h2 := Nat.one_le_two_pow (n := q)
    omega
  refine ⟨2 ^ q - 1, 2 ^ q - 1, hlt, hlt, e1, e1, ?_⟩
  have h1 := lap_pos hy hc q (fun i => i + 1) (fun a b _ _ h => by omega) (fun a ha => by omega)
  have h2 : mnr n M (2 ^ q - 1) (2 ^ q - 1) = dt q (fun i j => lap n M (i + 1) (j + 1)) := by
    unfold mnr; rw [e1]; exact dt_cong (fun r c hr hc => by rw [e2 r hr, e2 c hc])
  rw [h2]; omega
end Cut
