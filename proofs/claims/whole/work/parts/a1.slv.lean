/-! The class's table, pivot by pivot: Cramer's numbers and minors -/
section Slv
def mb (B : Nat → Nat → Int) (k i : Nat) (b : Nat → Int) : Int := dt k B * b i - gs (fun l => B i l * cr k B b l) k
theorem mb_mi (B : Nat → Nat → Int) (k i j : Nat) : mb B k i (fun r => B r j) = mi B k i j := (mi_eq B k i j).symm
theorem cr_cong {k : Nat} {A B : Nat → Nat → Int} {a b : Nat → Int} {l : Nat} (h : ∀ r c, r < k → c < k → A r c = B r c) (hb : ∀ r, r < k → a r = b r) : cr k A a l = cr k B b l := dt_cong (fun r c hr hc => by
  unfold cu
  by_cases e : c = l
  · rw [if_pos e, if_pos e, hb r hr]
  · rw [if_neg e, if_neg e, h r c hr hc])
theorem crb_step (B : Nat → Nat → Int) (k : Nat) (b : Nat → Int) {l : Nat} (hl : l < k) : dt k B * cr (k + 1) B b l = dt (k + 1) B * cr k B b l - cr k B (fun r => B r k) l * cr (k + 1) B b k := by
  have h := cr_step (cu B (k + 1) b) k (k + 1) hl
  rw [show (fun r => cu B (k + 1) b r (k + 1)) = b from funext (fun r => cu_s _ _ _ _), show (fun r => cu B (k + 1) b r k) = fun r => B r k from funext (fun r => cu_n _ _ _ (by omega))] at h
  have e1 : dt k (cu B (k + 1) b) = dt k B := dt_cong (fun r c hr hc => cu_n _ _ _ (by omega))
  have e2 : dt (k + 1) (cu B (k + 1) b) = dt (k + 1) B := dt_cong (fun r c hr hc => cu_n _ _ _ (by omega))
  have e3 : ∀ b' l, cr k (cu B (k + 1) b) b' l = cr k B b' l := fun b' l => cr_cong (fun r c hr hc => cu_n _ _ _ (by omega)) (fun _ _ => rfl)
  have e4 : ∀ b' l, cr (k + 1) (cu B (k + 1) b) b' l = cr (k + 1) B b' l := fun b' l => cr_cong (fun r c hr hc => cu_n _ _ _ (by omega)) (fun _ _ => rfl)
  rw [e1, e2, e3, e3, e4, e4] at h
  exact h
theorem mb_cu (B : Nat → Nat → Int) (k i : Nat) (b : Nat → Int) : mi (cu B (k + 1) b) k i (k + 1) = mb B k i b := by
  rw [mi_eq]
  rw [show (fun r => cu B (k + 1) b r (k + 1)) = b from funext (fun r => cu_s _ _ _ _), cu_s]
  have e1 : dt k (cu B (k + 1) b) = dt k B := dt_cong (fun r c hr hc => cu_n _ _ _ (by omega))
  have e3 : gs (fun l => cu B (k + 1) b i l * cr k (cu B (k + 1) b) b l) k = gs (fun l => B i l * cr k B b l) k := gs_cong (fun l hl => by
    rw [cu_n _ _ _ (by omega)]; congr 1
    exact cr_cong (fun r c hr hc => cu_n _ _ _ (by omega)) (fun _ _ => rfl))
  rw [e1, e3]; rfl
theorem crb_last (B : Nat → Nat → Int) (k : Nat) (b : Nat → Int) : cr (k + 1) B b k = mb B k k b := by
  have h := cr_last (cu B (k + 1) b) k (k + 1)
  rw [show (fun r => cu B (k + 1) b r (k + 1)) = b from funext (fun r => cu_s _ _ _ _), mb_cu] at h
  rw [← h]
  exact (cr_cong (fun r c hr hc => cu_n _ _ _ (by omega)) (fun _ _ => rfl)).symm
theorem mb_step (B : Nat → Nat → Int) (k i : Nat) (b : Nat → Int) : dt k B * mb B (k + 1) i b = mb B k i b * mi B k k k - mi B k i k * mb B k k b := by
  -- told by the column behind: k + 2 here, that it lie beyond both
  have h1 : dt k B * mb B (k + 1) i b = dt k B * (dt (k + 1) B * b i) - (gs (fun l => B i l * (dt k B * cr (k + 1) B b l)) k + B i k * (dt k B * cr (k + 1) B b k)) := by
    unfold mb
    rw [gs_s, Int.mul_sub, Int.mul_add, ← gs_mul]
    have e : gs (fun l => dt k B * (B i l * cr (k + 1) B b l)) k = gs (fun l => B i l * (dt k B * cr (k + 1) B b l)) k := gs_cong (fun l _ => Int.mul_left_comm _ _ _)
    rw [e, Int.mul_left_comm (dt k B) (B i k)]
  have h2 : gs (fun l => B i l * (dt k B * cr (k + 1) B b l)) k = dt (k + 1) B * gs (fun l => B i l * cr k B b l) k - gs (fun l => B i l * cr k B (fun r => B r k) l) k * cr (k + 1) B b k := by
    rw [← gs_mul, ← gs_mulr, ← gs_sub]
    exact gs_cong (fun l hl => by
      rw [crb_step B k b hl, Int.mul_sub, Int.mul_left_comm, ← Int.mul_assoc (B i l) (cr k B _ l)])
  have h3 := mi_eq B k i k
  rw [h1, h2, h3, ← mi_lead, crb_last]
  unfold mb
  generalize gs (fun l => B i l * cr k B b l) k = S, gs (fun l => B i l * cr k B (fun r => B r k) l) k = U, dt k B = a, dt (k + 1) B = q, b i = x, B i k = y, b k = z, gs (fun l => B k l * cr k B b l) k = w
  grind
def col0 (n : Nat) (M : Nat → Nat → Int) (S : Nat → Int) (c : Nat) : Nat → Int := fun r => if c = 0 then S (r + 1) else lap n M (r + 1) c
def sst (n : Nat) (M : Nat → Nat → Int) (S : Nat → Int) (k : Nat) (T : Nat → Nat → Int) : Prop := ∀ i c, i < n - 1 → c < n → T (i + 1) c = if i < k then cr k (lpm n M) (col0 n M S c) i else mb (lpm n M) k i (col0 n M S c)
theorem sst_0 {n : Nat} {M : Nat → Nat → Int} {S : Nat → Int} {T : Nat → Nat → Int} (h : ∀ r c, 1 ≤ r → r < n → c < n → T r c = if c = 0 then S r else lap n M r c) : sst n M S 0 T := fun i c hi hc => by
  rw [if_neg (by omega), h (i + 1) c (by omega) (by omega) hc]
  unfold mb; rw [dt_0, gs_z, Int.one_mul, Int.sub_zero]; rfl
theorem clrs_val {n pv : Nat} {last : Int} {T : Nat → Nat → Int} (hl : last ≠ 0) {row c : Nat} (hr : 1 ≤ row) (hne : row ≠ pv) (hc : c < n) : ∀ {k : Nat}, row ≤ k → clrs n pv last k T row c = (T pv pv * T row c - T row pv * T pv c).tdiv last
  | 0, h => by omega
  | k + 1, h => by
    show clr1 n pv last (k + 1) (clrs n pv last k T) row c = _
    by_cases e : row = k + 1
    · have h1 : clrs n pv last k T row = T row := clrs_row (by omega)
      have h2 : clrs n pv last k T pv = T pv := clrs_pv k
      unfold clr1
      rw [← e, if_neg (by omega)]
      unfold clr
      rw [ub_s, h1, h2, if_pos ⟨hc, Nat.le_refl n⟩]
    · rw [clr1_row e]; exact clrs_val hl hr hne hc (by omega)
theorem col_lpm {n : Nat} {M : Nat → Nat → Int} {S : Nat → Int} (k : Nat) : col0 n M S (k + 1) = fun r => lpm n M r k := by
  funext r; unfold col0 lpm; rw [if_neg (by omega)]
theorem slv_state {n : Nat} {M : Nat → Nat → Int} (hy : yok n M) (hc : cn n M) {S : Nat → Int} {T0 : Nat → Nat → Int} (h : ∀ r c, 1 ≤ r → r < n → c < n → T0 r c = if c = 0 then S r else lap n M r c) : ∀ k, k ≤ n - 1 → (slv n T0 k).2 = dt k (lpm n M) ∧ sst n M S k (slv n T0 k).1
  | 0, _ => ⟨rfl, sst_0 h⟩
  | k + 1, hk => by
    obtain ⟨h1, h2⟩ := slv_state hy hc h k (by omega)
    have hP : 0 < dt k (lpm n M) := lap_pos hy hc k (fun i => i + 1) (fun a b _ _ h => by omega) (fun a ha => by omega)
    have hkk : (slv n T0 k).1 (k + 1) (k + 1) = mi (lpm n M) k k k := by
      rw [h2 k (k + 1) (by omega) (by omega), if_neg (by omega), col_lpm, mb_mi]
    have e2 : (slv n T0 (k + 1)).2 = clrs n (k + 1) (slv n T0 k).2 (n - 1) (slv n T0 k).1 (k + 1) (k + 1) := rfl
    have e1 : (slv n T0 (k + 1)).1 = clrs n (k + 1) (slv n T0 k).2 (n - 1) (slv n T0 k).1 := rfl
    refine ⟨by rw [e2, clrs_pv, hkk, mi_lead], fun i c hi hcn => ?_⟩
    rw [e1]
    by_cases e : i = k
    · rw [e, clrs_pv, if_pos (by omega), h2 k c (by omega) hcn, if_neg (by omega), crb_last]
    · rw [clrs_val (by rw [h1]; omega) (by omega) (by omega) hcn (by omega), h1, hkk, h2 k c (by omega) hcn, if_neg (Nat.lt_irrefl k)]
      have hown : (slv n T0 k).1 (i + 1) (k + 1) = if i < k then cr k (lpm n M) (fun r => lpm n M r k) i else mi (lpm n M) k i k := by
        rw [h2 i (k + 1) hi (by omega), col_lpm, mb_mi]
      rw [hown, h2 i c hi hcn]
      by_cases e3 : i < k
      · rw [if_pos e3, if_pos e3, if_pos (by omega)]
        have h4 := crb_step (lpm n M) k (col0 n M S c) e3
        rw [crb_last, mi_lead] at h4
        rw [← h4]
        exact Int.mul_tdiv_cancel_left _ (by omega)
      · rw [if_neg e3, if_neg e3, if_neg (by omega)]
        have h4 := mb_step (lpm n M) k i (col0 n M S c)
        rw [Int.mul_comm (mi (lpm n M) k k k), ← h4]
        exact Int.mul_tdiv_cancel_left _ (by omega)
end Slv
