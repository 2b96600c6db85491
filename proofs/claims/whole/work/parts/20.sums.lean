/-! sums over the numbers below n, and how a yard settles -/
section MathSums
def gs (f : Nat → Int) : Nat → Int
  | 0 => 0
  | n + 1 => gs f n + f n
theorem gs_z (f : Nat → Int) : gs f 0 = 0 := rfl
theorem gs_s (f : Nat → Int) (n : Nat) : gs f (n + 1) = gs f n + f n := rfl
theorem gs_cong {f g : Nat → Int} : ∀ {n : Nat}, (∀ k, k < n → f k = g k) → gs f n = gs g n
  | 0, _ => rfl
  | n + 1, h => by rw [gs_s, gs_s, gs_cong (fun k hk => h k (by omega)), h n (by omega)]
theorem gs_add (f g : Nat → Int) : ∀ n, gs (fun k => f k + g k) n = gs f n + gs g n
  | 0 => rfl
  | n + 1 => by rw [gs_s, gs_s, gs_s, gs_add f g n]; omega
theorem gs_sub (f g : Nat → Int) : ∀ n, gs (fun k => f k - g k) n = gs f n - gs g n
  | 0 => rfl
  | n + 1 => by rw [gs_s, gs_s, gs_s, gs_sub f g n]; omega
theorem gs_mul (c : Int) (f : Nat → Int) : ∀ n, gs (fun k => c * f k) n = c * gs f n
  | 0 => (Int.mul_zero c).symm
  | n + 1 => by rw [gs_s, gs_s, gs_mul c f n, Int.mul_add]
theorem gs_mulr (c : Int) (f : Nat → Int) (n : Nat) : gs (fun k => f k * c) n = gs f n * c := by
  rw [Int.mul_comm, ← gs_mul]
  exact gs_cong (fun k _ => Int.mul_comm _ _)
theorem gs_zero {f : Nat → Int} : ∀ {n : Nat}, (∀ k, k < n → f k = 0) → gs f n = 0
  | 0, _ => rfl
  | n + 1, h => by rw [gs_s, gs_zero (fun k hk => h k (by omega)), h n (by omega)]; rfl
theorem gs_le {f g : Nat → Int} : ∀ {n : Nat}, (∀ k, k < n → f k ≤ g k) → gs f n ≤ gs g n
  | 0, _ => Int.le_refl _
  | n + 1, h => by
    rw [gs_s, gs_s]
    have h1 := gs_le (f := f) (g := g) (n := n) (fun k hk => h k (by omega))
    have h2 := h n (by omega)
    omega
theorem gs_nn {f : Nat → Int} : ∀ {n : Nat}, (∀ k, k < n → 0 ≤ f k) → 0 ≤ gs f n
  | 0, _ => Int.le_refl _
  | n + 1, h => by
    rw [gs_s]
    have h1 := gs_nn (f := f) (n := n) (fun k hk => h k (by omega))
    have h2 := h n (by omega)
    omega
theorem gs_const (c : Int) : ∀ n : Nat, gs (fun _ => c) n = (n : Int) * c
  | 0 => by rw [gs_z]; simp
  | n + 1 => by rw [gs_s, gs_const c n]; push_cast; rw [Int.add_mul]; omega
theorem gs_upd (f : Nat → Int) (v : Int) {p : Nat} : ∀ {n : Nat}, p < n → gs (fun k => if k = p then v else f k) n = gs f n + (v - f p)
  | 0, h => absurd h (Nat.not_lt_zero _)
  | n + 1, h => by
    rw [gs_s, gs_s]
    rcases Nat.lt_or_ge p n with q | q
    · rw [gs_upd f v q, if_neg (by omega)]; omega
    · have e : p = n := by omega
      subst e
      rw [gs_cong (f := fun k => if k = p then v else f k) (g := f) (fun k hk => if_neg (by omega)), if_pos rfl]; omega
theorem gs_out (f : Nat → Int) (v : Int) {p n : Nat} (h : n ≤ p) : gs (fun k => if k = p then v else f k) n = gs f n := gs_cong (fun k hk => if_neg (by omega))
theorem gs_one (f : Nat → Int) {p n : Nat} (h : p < n) : gs (fun k => if k = p then f k else 0) n = f p := by
  have h1 := gs_upd (fun _ => (0 : Int)) (f p) h
  rw [gs_zero (f := fun _ => (0 : Int)) (fun _ _ => rfl)] at h1
  rw [← show gs (fun k => if k = p then f p else 0) n = gs (fun k => if k = p then f k else 0) n from gs_cong (fun k _ => by by_cases e : k = p <;> simp [e]), h1]
  omega
theorem gs_swap (F : Nat → Nat → Int) (m : Nat) : ∀ n, gs (fun i => gs (fun j => F i j) m) n = gs (fun j => gs (fun i => F i j) n) m
  | 0 => by rw [gs_z]; exact (gs_zero (fun _ _ => rfl)).symm
  | n + 1 => by
    rw [gs_s, gs_swap F m n, ← gs_add]
    exact gs_cong (fun j _ => rfl)
theorem gs_ge {f : Nat → Int} {p : Nat} : ∀ {n : Nat}, (∀ k, k < n → 0 ≤ f k) → p < n → f p ≤ gs f n
  | 0, _, h => absurd h (Nat.not_lt_zero _)
  | n + 1, h0, h => by
    rw [gs_s]
    rcases Nat.lt_or_ge p n with q | q
    · have h1 := gs_ge (f := f) (fun k hk => h0 k (by omega)) q
      have h2 := h0 n (by omega)
      omega
    · have e : p = n := by omega
      subst e
      have h1 := gs_nn (f := f) (n := p) (fun k hk => h0 k (by omega))
      omega
theorem gs_ext {f : Nat → Int} {a b : Nat} (hab : a ≤ b) (h : ∀ k, a ≤ k → k < b → f k = 0) : gs f b = gs f a := by
  induction b with
  | zero => rw [show a = 0 by omega]
  | succ b ih =>
    rcases Nat.lt_or_ge b a with q | q
    · rw [show a = b + 1 by omega]
    · rw [gs_s, ih q (fun k h1 h2 => h k h1 (by omega)), h b q (by omega)]; omega
theorem gs_first (f : Nat → Int) : ∀ n, gs f (n + 1) = f 0 + gs (fun k => f (k + 1)) n
  | 0 => by rw [gs_s, gs_z, gs_z]; omega
  | n + 1 => by rw [gs_s, gs_first f n, gs_s]; omega
theorem gs_neg (f : Nat → Int) (n : Nat) : gs (fun k => - f k) n = - gs f n := by
  have h := gs_mul (-1) f n
  rw [show (fun k => - f k) = (fun k => -1 * f k) from funext (fun k => by omega), h]; omega
end MathSums
section MathSettle
def dg (n : Nat) (M : Nat → Nat → Int) (p : Nat) : Int := gs (fun q => M p q) n
/-- what is at p when each place q has toppled u q times -/
def af (n : Nat) (M : Nat → Nat → Int) (g u : Nat → Int) (p : Nat) : Int := g p - dg n M p * u p + gs (fun q => M p q * u q) n
def stb (n : Nat) (M : Nat → Nat → Int) (g : Nat → Int) : Prop := ∀ p, 1 ≤ p → p < n → g p < dg n M p
def ld (n : Nat) (M : Nat → Nat → Int) (g u : Nat → Int) : Prop := ∀ v : Nat → Int, (∀ p, 0 ≤ v p) → v 0 = 0 → stb n M (af n M g v) → ∀ q, q < n → u q ≤ v q
/-- u tells how often each place topples until all is still -/
def stl (n : Nat) (M : Nat → Nat → Int) (g u : Nat → Int) : Prop := (∀ p, 0 ≤ u p) ∧ u 0 = 0 ∧ (∀ p, n ≤ p → u p = 0) ∧ stb n M (af n M g u) ∧ ld n M g u
theorem dg_nn {n : Nat} {M : Nat → Nat → Int} (hM : ∀ i j, 0 ≤ M i j) (p : Nat) : 0 ≤ dg n M p := gs_nn (fun k _ => hM p k)
theorem ld_0 (n : Nat) (M : Nat → Nat → Int) (g : Nat → Int) : ld n M g (fun _ => 0) := fun _ hv _ _ q _ => hv q
theorem af_0 (n : Nat) (M : Nat → Nat → Int) (g : Nat → Int) : af n M g (fun _ => 0) = g := by
  funext p
  unfold af
  rw [gs_zero (fun k _ => Int.mul_zero _), Int.mul_zero]; omega
theorem af_step {n : Nat} {M : Nat → Nat → Int} (g u : Nat → Int) {p : Nat} (t : Int) (hp : p < n) (q : Nat) :
    af n M g (ub u p (u p + t)) q = af n M g u q - (if q = p then dg n M p * t else 0) + M q p * t := by
  unfold af
  have h : gs (fun k => M q k * ub u p (u p + t) k) n = gs (fun k => M q k * u k) n + M q p * t := by
    have h1 := gs_upd (fun k => M q k * u k) (M q p * (u p + t)) hp
    rw [← show gs (fun k => if k = p then M q p * (u p + t) else M q k * u k) n = gs (fun k => M q k * ub u p (u p + t) k) n from gs_cong (fun k _ => by
      by_cases e : k = p
      · subst e; rw [if_pos rfl, ub_s]
      · rw [if_neg e, ub_n _ _ e]), h1, Int.mul_add]
    omega
  rw [h]
  by_cases e : q = p
  · subst e
    rw [ub_s, if_pos rfl, Int.mul_add]; omega
  · rw [ub_n _ _ e, if_neg e]; omega
theorem ld_step {n : Nat} {M : Nat → Nat → Int} {g u : Nat → Int} {p : Nat} {t : Int} (hM : ∀ i j, 0 ≤ M i j) (hn : p < n) (h1 : 1 ≤ p) (hu : ld n M g u) (ht : dg n M p * t ≤ af n M g u p) : ld n M g (ub u p (u p + t)) := by
  intro v hv0 hvz hst q hq
  have hle := hu v hv0 hvz hst
  by_cases e : q = p
  · subst e
    rw [ub_s]
    apply Classical.byContradiction
    intro hlt
    have hs := hst q h1 hn
    have hsum : gs (fun k => M q k * u k) n ≤ gs (fun k => M q k * v k) n := gs_le (fun k hk => Int.mul_le_mul_of_nonneg_left (hle k hk) (hM q k))
    have hd := dg_nn (n := n) hM q
    have hx : dg n M q * 1 ≤ dg n M q * (u q + t - v q) := Int.mul_le_mul_of_nonneg_left (by omega) hd
    rw [Int.mul_sub, Int.mul_add] at hx
    unfold af at hs ht
    omega
  · rw [ub_n _ _ e]
    exact hle q hq
theorem stl_one {n : Nat} {M : Nat → Nat → Int} {g u v : Nat → Int} (hu : stl n M g u) (hv : stl n M g v) : u = v := by
  funext p
  rcases Nat.lt_or_ge p n with q | q
  · have a := hu.2.2.2.2 v hv.1 hv.2.1 hv.2.2.2.1 p q
    have b := hv.2.2.2.2 u hu.1 hu.2.1 hu.2.2.2.1 p q
    omega
  · rw [hu.2.2.1 p q, hv.2.2.1 p q]
theorem af_af (n : Nat) (M : Nat → Nat → Int) (g u v : Nat → Int) : af n M (af n M g u) v = af n M g (fun p => u p + v p) := by
  funext p
  unfold af
  rw [show (fun q => M p q * (u q + v q)) = (fun q => M p q * u q + M p q * v q) from funext (fun q => Int.mul_add _ _ _), gs_add, Int.mul_add]
  omega
theorem af_plus (n : Nat) (M : Nat → Nat → Int) (a b u : Nat → Int) (p : Nat) : af n M (fun q => a q + b q) u p = a p + af n M b u p := by
  show a p + b p - dg n M p * u p + gs (fun q => M p q * u q) n = a p + (b p - dg n M p * u p + gs (fun q => M p q * u q) n)
  omega
/-- what settled first, and then with more, is what settles with all -/
theorem stl_add {n : Nat} {M : Nat → Nat → Int} {a b u w : Nat → Int} (ha : ∀ p, 1 ≤ p → p < n → 0 ≤ a p) (hu : stl n M b u) (hw : stl n M (fun p => a p + af n M b u p) w) : stl n M (fun p => a p + b p) (fun p => u p + w p) := by
  have key : ∀ v : Nat → Int, af n M (fun p => a p + af n M b u p) v = af n M (fun p => a p + b p) (fun p => u p + v p) := fun v => by
    rw [← af_af]
    congr 1
    funext p
    exact (af_plus n M a b u p).symm
  refine ⟨fun p => Int.add_nonneg (hu.1 p) (hw.1 p), by show u 0 + w 0 = 0; rw [hu.2.1, hw.2.1]; rfl, fun p hp => by show u p + w p = 0; rw [hu.2.2.1 p hp, hw.2.2.1 p hp]; rfl, ?_, ?_⟩
  · rw [← key]; exact hw.2.2.2.1
  · intro v hv0 hvz hst q hq
    have hb : stb n M (af n M b v) := fun p h1 h2 => by
      have := hst p h1 h2
      rw [af_plus] at this
      have := ha p h1 h2
      omega
    have hle := hu.2.2.2.2 v hv0 hvz hb
    have hw2 := hw.2.2.2.2 (fun p => if p < n then v p - u p else 0) (fun p => by
      show 0 ≤ if p < n then v p - u p else 0
      by_cases e : p < n
      · rw [if_pos e]; have := hle p e; omega
      · rw [if_neg e]; exact Int.le_refl _) (by
      show (if 0 < n then v 0 - u 0 else 0) = 0
      rw [hvz, hu.2.1]; simp) (by
      rw [key]
      intro p h1 h2
      have h3 := hst p h1 h2
      have h4 : af n M (fun p => a p + b p) (fun p => u p + if p < n then v p - u p else 0) p = af n M (fun p => a p + b p) v p := by
        unfold af
        have e1 : gs (fun k => M p k * (u k + if k < n then v k - u k else 0)) n = gs (fun k => M p k * v k) n := gs_cong (fun k hk => by
          rw [if_pos hk]; congr 1; omega)
        rw [e1]
        show _ - dg n M p * (u p + if p < n then v p - u p else 0) + _ = _
        rw [if_pos h2, show u p + (v p - u p) = v p by omega]
      rw [h4]; exact h3) q hq
    have hw3 : w q ≤ if q < n then v q - u q else 0 := hw2
    rw [if_pos hq] at hw3
    show u q + w q ≤ v q
    omega
end MathSettle
