/-! Determinants by steps without rest; bounds of minors of a yard's matrix -/
section Bareiss
/-- the minor of the first k rows and columns, with row i and column j behind -/
def mi (B : Nat → Nat → Int) (k i j : Nat) : Int := dt (k + 1) (fun r c => B (if r < k then r else i) (if c < k then c else j))
theorem mi_eq (B : Nat → Nat → Int) (k i j : Nat) : mi B k i j = dt k B * B i j - gs (fun l => B i l * cr k B (fun r => B r j) l) k := by
  unfold mi
  rw [dt_bord]
  have e1 : dt k (fun r c => B (if r < k then r else i) (if c < k then c else j)) = dt k B := dt_cong (fun r c hr hc => by rw [if_pos hr, if_pos hc])
  have e2 : gs (fun l => B (if k < k then k else i) (if l < k then l else j) * cr k (fun r c => B (if r < k then r else i) (if c < k then c else j)) (fun r => B (if r < k then r else i) (if k < k then k else j)) l) k = gs (fun l => B i l * cr k B (fun r => B r j) l) k := gs_cong (fun l hl => by
    rw [if_neg (Nat.lt_irrefl k), if_pos hl]
    congr 1
    unfold cr
    exact dt_cong (fun r c hr hc => by
      unfold cu
      by_cases e : c = l
      · rw [if_pos e, if_pos e]; dsimp only; rw [if_pos hr, if_neg (Nat.lt_irrefl k)]
      · rw [if_neg e, if_neg e]; dsimp only; rw [if_pos hr, if_pos hc]))
  rw [e1, e2, if_neg (Nat.lt_irrefl k), if_neg (Nat.lt_irrefl k), Int.mul_comm]
theorem mi_lead (B : Nat → Nat → Int) (k : Nat) : dt (k + 1) B = mi B k k k := dt_cong (fun r c hr hc => by
  have h1 : (if r < k then r else k) = r := by split <;> omega
  have h2 : (if c < k then c else k) = c := by split <;> omega
  rw [h1, h2])
theorem cr_last (B : Nat → Nat → Int) (k j : Nat) : cr (k + 1) B (fun r => B r j) k = mi B k k j := by
  unfold cr mi
  exact dt_cong (fun r c hr hc => by
    have h1 : (if r < k then r else k) = r := by split <;> omega
    rw [h1]
    unfold cu
    by_cases e : c = k
    · rw [if_pos e, if_neg (by omega)]
    · rw [if_neg e, if_pos (by omega)])
theorem cr_step (B : Nat → Nat → Int) (k j : Nat) {l : Nat} (hl : l < k) : dt k B * cr (k + 1) B (fun r => B r j) l = dt (k + 1) B * cr k B (fun r => B r j) l - cr k B (fun r => B r k) l * cr (k + 1) B (fun r => B r j) k := by
  obtain ⟨Y, hY⟩ : ∃ Y : Nat → Int, Y = cr (k + 1) B (fun r => B r j) := ⟨_, rfl⟩
  have hr : ∀ r, r < k → gs (fun q => B r q * Y q) k = dt (k + 1) B * B r j - B r k * Y k := fun r hr => by
    have h := cr_r B (fun r => B r j) (i := r) (n := k + 1) (by omega)
    rw [gs_s] at h
    rw [hY]; omega
  have h1 : gs (fun r => aj k B l r * gs (fun q => B r q * Y q) k) k = dt k B * Y l := by
    have h2 : gs (fun r => aj k B l r * gs (fun q => B r q * Y q) k) k = gs (fun r => gs (fun q => aj k B l r * B r q * Y q) k) k := gs_cong (fun r _ => by
      rw [← gs_mul]; exact gs_cong (fun q _ => (Int.mul_assoc _ _ _).symm))
    rw [h2, gs_swap]
    have h3 : gs (fun q => gs (fun r => aj k B l r * B r q * Y q) k) k = gs (fun q => if q = l then dt k B * Y q else 0) k := gs_cong (fun q hq => by
      rw [gs_mulr, aj_l B hl hq]
      by_cases e : q = l
      · rw [if_pos e.symm, if_pos e]
      · rw [if_neg (fun h => e h.symm), if_neg e, Int.zero_mul])
    rw [h3]
    exact gs_one (fun q => dt k B * Y q) hl
  have h4 : gs (fun r => aj k B l r * gs (fun q => B r q * Y q) k) k = dt (k + 1) B * cr k B (fun r => B r j) l - cr k B (fun r => B r k) l * Y k := by
    have h5 : gs (fun r => aj k B l r * gs (fun q => B r q * Y q) k) k = gs (fun r => dt (k + 1) B * (aj k B l r * B r j) - aj k B l r * B r k * Y k) k := gs_cong (fun r hr9 => by
      rw [hr r hr9, Int.mul_sub]
      congr 1
      · rw [← Int.mul_assoc, ← Int.mul_assoc, Int.mul_comm (aj k B l r)]
      · rw [Int.mul_assoc])
    rw [h5, gs_sub, gs_mul, gs_mulr, cr_aj B _ hl, cr_aj B _ hl]
  rw [← hY]
  rw [← h1, h4]
theorem mi_step (B : Nat → Nat → Int) (k i j : Nat) : dt k B * mi B (k + 1) i j = mi B k i j * mi B k k k - mi B k i k * mi B k k j := by
  rw [mi_eq B (k + 1) i j, gs_s, cr_last]
  have h1 : dt k B * gs (fun l => B i l * cr (k + 1) B (fun r => B r j) l) k = dt (k + 1) B * gs (fun l => B i l * cr k B (fun r => B r j) l) k - gs (fun l => B i l * cr k B (fun r => B r k) l) k * mi B k k j := by
    rw [← gs_mul, ← gs_mul, ← gs_mulr, ← gs_sub]
    exact gs_cong (fun l hl => by
      have h := cr_step B k j hl
      rw [cr_last] at h
      rw [Int.mul_left_comm, h, Int.mul_sub, Int.mul_left_comm, Int.mul_assoc])
  have h2 := mi_eq B k i j
  have h3 := mi_eq B k i k
  rw [← mi_lead]
  obtain ⟨S, hS⟩ : ∃ S, S = gs (fun l => B i l * cr k B (fun r => B r j) l) k := ⟨_, rfl⟩
  obtain ⟨U, hU⟩ : ∃ U, U = gs (fun l => B i l * cr k B (fun r => B r k) l) k := ⟨_, rfl⟩
  obtain ⟨Z, hZ⟩ : ∃ Z, Z = gs (fun l => B i l * cr (k + 1) B (fun r => B r j) l) k := ⟨_, rfl⟩
  rw [← hS] at h1 h2
  rw [← hU] at h1 h3
  rw [← hZ] at h1 ⊢
  rw [h2, h3, Int.mul_sub, Int.mul_add, h1]
  generalize dt k B = a, dt (k + 1) B = b, B i j = x, B i k = y, mi B k k j = w
  grind
/-- a column of zeros at a step: the whole is 0 -/
theorem mi_zero {B : Nat → Nat → Int} {k n : Nat} (h0 : dt k B ≠ 0) (hk : k < n) (h : ∀ i, k ≤ i → i < n → mi B k i k = 0) : dt n B = 0 := by
  have hs : ∀ r, r < n → gs (fun c => B r c * (if c < k then - cr k B (fun r => B r k) c else if c = k then dt k B else 0)) n = (fun _ => (0 : Int)) r := fun r hr => by
    have e1 : gs (fun c => B r c * (if c < k then - cr k B (fun r => B r k) c else if c = k then dt k B else 0)) n = gs (fun c => B r c * (if c < k then - cr k B (fun r => B r k) c else if c = k then dt k B else 0)) (k + 1) := gs_ext (by omega) (fun c h1 h2 => by rw [if_neg (by omega), if_neg (by omega), Int.mul_zero])
    rw [e1, gs_s, if_neg (Nat.lt_irrefl k), if_pos rfl]
    have e2 : gs (fun c => B r c * (if c < k then - cr k B (fun r => B r k) c else if c = k then dt k B else 0)) k = - gs (fun c => B r c * cr k B (fun r => B r k) c) k := by
      rw [← gs_neg]; exact gs_cong (fun c hc => by rw [if_pos hc, Int.mul_neg])
    rw [e2]
    rcases Nat.lt_or_ge r k with hrk | hrk
    · have := cr_r B (fun r => B r k) hrk
      rw [this, Int.mul_comm (B r k)]
      show - (dt k B * B r k) + dt k B * B r k = 0
      omega
    · have := h r hrk hr
      rw [mi_eq] at this
      rw [Int.mul_comm (B r k)]
      show _ = (0 : Int)
      omega
  have h2 := cr_sol hs hk
  have h3 : cr n B (fun _ => (0 : Int)) k = 0 := dt_zcol B hk
  rw [h3, if_neg (Nat.lt_irrefl k), if_pos rfl] at h2
  rcases Int.mul_eq_zero.mp h2.symm with e | e
  · exact e
  · exact absurd e h0
def swp (a b c : Nat) : Nat := if c = a then b else if c = b then a else c
theorem dt_csw {n : Nat} (A : Nat → Nat → Int) {a b : Nat} (hab : a ≠ b) (ha : a < n) (hb : b < n) : dt n (fun r c => A r (swp a b c)) = - dt n A := by
  have e1 : (fun r c => A r (swp a b c)) = cu (cu A a (fun r => A r b)) b (fun r => A r a) := by
    funext r c; unfold swp cu
    by_cases e : c = b
    · subst e; rw [if_neg (fun h => hab h.symm), if_pos rfl, if_pos rfl]
    · by_cases e2 : c = a
      · rw [if_pos e2, if_neg e, if_pos e2]
      · rw [if_neg e2, if_neg e, if_neg e, if_neg e2]
  have e2 : A = cu (cu A a (fun r => A r a)) b (fun r => A r b) := by
    rw [cu_self]; exact (cu_self A b).symm
  have F0 : ∀ w : Nat → Int, dt n (cu (cu A a w) b w) = 0 := fun w => dt_same hab ha hb (fun r _ => by
    rw [cu_n _ _ _ hab, cu_s, cu_s])
  have hF := F0 (fun r => A r a + A r b)
  rw [dt_plus _ _ _ hb] at hF
  rw [cu_comm A hab, cu_comm A hab, dt_plus _ _ _ ha, dt_plus _ _ _ ha, ← cu_comm A hab, ← cu_comm A hab, ← cu_comm A hab, ← cu_comm A hab, F0, F0] at hF
  rw [e1]
  have e3 : dt n A = dt n (cu (cu A a (fun r => A r a)) b (fun r => A r b)) := congrArg (dt n) e2
  omega
theorem dt_rsw {n : Nat} (A : Nat → Nat → Int) {a b : Nat} (hab : a ≠ b) (ha : a < n) (hb : b < n) : dt n (fun r c => A (swp a b r) c) = - dt n A := by
  rw [← dt_tr n A, ← dt_csw (fun r c => A c r) hab ha hb, ← dt_tr n (fun r c => A (swp a b c) r)]
end Bareiss
