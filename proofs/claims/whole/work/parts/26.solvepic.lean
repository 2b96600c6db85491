/-! pictures of the table that is solved -/
section SolvePic
/-- an entry of the table: column 0 the grains -/
def ent (M : Nat → Nat → Int) (d g : Nat → Int) (r c : Nat) : Int := if c = 0 then g r else if r = c then d r else - M r c
/-- the table, filled up to row r, column c -/
def tfp (n : Nat) (M : Nat → Nat → Int) (d g : Nat → Int) (T : Nat → Nat → Int) (r c : Nat) : Nat → Nat → Int := fun r1 c1 => if (1 ≤ r1 ∧ r1 < r ∧ c1 < n) ∨ (r1 = r ∧ 1 ≤ r ∧ c1 < c) then ent M d g r1 c1 else T r1 c1
theorem tfp_0 (n : Nat) (M : Nat → Nat → Int) (d g : Nat → Int) (T : Nat → Nat → Int) : T = tfp n M d g T 1 0 := by
  funext r1 c1
  unfold tfp
  rw [if_neg (by omega)]
theorem tfp_s {n : Nat} {M : Nat → Nat → Int} {d g : Nat → Int} {T : Nat → Nat → Int} {r c : Nat} (hr : 1 ≤ r) (hc : c < n) (v : Int) (hv : v = ent M d g r c) : ub (tfp n M d g T r c) r (ub (tfp n M d g T r c r) c v) = tfp n M d g T r (c + 1) := by
  funext r1 c1
  subst hv
  unfold ub
  by_cases e : r1 = r
  · rw [if_pos e]
    by_cases e2 : c1 = c
    · rw [if_pos e2]
      unfold tfp
      rw [if_pos (Or.inr ⟨e, hr, by omega⟩), e, e2]
    · rw [if_neg e2]
      unfold tfp
      by_cases e3 : c1 < c
      · rw [if_pos (Or.inr ⟨rfl, hr, e3⟩), if_pos (Or.inr ⟨e, hr, by omega⟩), e]
      · rw [if_neg (by omega), if_neg (by omega), e]
  · rw [if_neg e]
    unfold tfp
    by_cases e3 : 1 ≤ r1 ∧ r1 < r ∧ c1 < n
    · rw [if_pos (Or.inl e3), if_pos (Or.inl e3)]
    · rw [if_neg (by omega), if_neg (by omega)]
theorem tfp_n {n : Nat} {M : Nat → Nat → Int} {d g : Nat → Int} {T : Nat → Nat → Int} {r : Nat} (hr : 1 ≤ r) : tfp n M d g T r n = tfp n M d g T (r + 1) 0 := by
  funext r1 c1
  unfold tfp
  by_cases e : (1 ≤ r1 ∧ r1 < r ∧ c1 < n) ∨ (r1 = r ∧ 1 ≤ r ∧ c1 < n)
  · rw [if_pos e, if_pos (by omega)]
  · rw [if_neg e, if_neg (by omega)]
/-- one row cleared by the pivot's -/
def clr (n : Nat) (T : Nat → Nat → Int) (row pv : Nat) (last : Int) (i : Nat) : Nat → Nat → Int := ub T row (fun c => if c < i ∧ i ≤ n then (T pv pv * T row c - T row pv * T pv c).tdiv last else T row c)
def clr1 (n pv : Nat) (last : Int) (row : Nat) (T : Nat → Nat → Int) : Nat → Nat → Int := if row = pv ∨ last = 0 then T else clr n T row pv last n
def clrs (n pv : Nat) (last : Int) : Nat → (Nat → Nat → Int) → Nat → Nat → Int
  | 0, T => T
  | k + 1, T => clr1 n pv last (k + 1) (clrs n pv last k T)
def slv (n : Nat) (T0 : Nat → Nat → Int) : Nat → (Nat → Nat → Int) × Int
  | 0 => (T0, 1)
  | k + 1 => (clrs n (k + 1) (slv n T0 k).2 (n - 1) (slv n T0 k).1, clrs n (k + 1) (slv n T0 k).2 (n - 1) (slv n T0 k).1 (k + 1) (k + 1))
theorem clr_0 (n : Nat) (T : Nat → Nat → Int) (row pv : Nat) (last : Int) : T = clr n T row pv last 0 := by
  unfold clr
  rw [show (fun c => if c < 0 ∧ 0 ≤ n then (T pv pv * T row c - T row pv * T pv c).tdiv last else T row c) = T row from funext (fun c => if_neg (by omega)), ub_self]
theorem clr_row {n : Nat} {T : Nat → Nat → Int} {row pv : Nat} {last : Int} {i r : Nat} (h : r ≠ row) : clr n T row pv last i r = T r := ub_n _ _ h
theorem clr_at {n : Nat} {T : Nat → Nat → Int} {row pv : Nat} {last : Int} {i c : Nat} (h : i ≤ c) : clr n T row pv last i row c = T row c := by
  unfold clr
  rw [ub_s]
  exact if_neg (by omega)
theorem clr_s {n : Nat} {T : Nat → Nat → Int} {row pv : Nat} {last : Int} {i : Nat} (hi : i < n) : ub (clr n T row pv last i) row (ub (clr n T row pv last i row) i ((T pv pv * T row i - T row pv * T pv i).tdiv last)) = clr n T row pv last (i + 1) := by
  funext r1 c1
  unfold clr
  rw [ub_s, ub_ub]
  unfold ub
  by_cases e : r1 = row
  · rw [if_pos e, if_pos e]
    by_cases e2 : c1 = i
    · rw [if_pos e2, if_pos (by omega), e2]
    · rw [if_neg e2]
      dsimp only
      by_cases e3 : c1 < i
      · rw [if_pos ⟨e3, by omega⟩, if_pos ⟨by omega, by omega⟩]
      · rw [if_neg (by omega), if_neg (by omega)]
  · rw [if_neg e, if_neg e]
theorem clr1_row {n pv : Nat} {last : Int} {row r : Nat} {T : Nat → Nat → Int} (h : r ≠ row) : clr1 n pv last row T r = T r := by
  unfold clr1
  split
  · rfl
  · exact clr_row h
theorem clr1_pv {n pv : Nat} {last : Int} {row : Nat} {T : Nat → Nat → Int} : clr1 n pv last row T pv = T pv := by
  by_cases e : row = pv
  · unfold clr1; rw [if_pos (Or.inl e)]
  · exact clr1_row (fun h => e h.symm)
theorem clrs_row {n pv : Nat} {last : Int} {r : Nat} {T : Nat → Nat → Int} : ∀ {k : Nat}, k < r → clrs n pv last k T r = T r
  | 0, _ => rfl
  | k + 1, h => by
    show clr1 n pv last (k + 1) (clrs n pv last k T) r = T r
    rw [clr1_row (by omega), clrs_row (by omega)]
theorem clrs_pv {n pv : Nat} {last : Int} {T : Nat → Nat → Int} : ∀ k : Nat, clrs n pv last k T pv = T pv
  | 0 => rfl
  | k + 1 => by
    show clr1 n pv last (k + 1) (clrs n pv last k T) pv = T pv
    rw [clr1_pv, clrs_pv k]
/-- the numbers on the way stay within 64 bits -/
def slr (n : Nat) (T0 : Nat → Nat → Int) : Prop := ∀ k, k < n - 1 → r64 (slv n T0 k).2 ∧ ∀ row c, 1 ≤ row → row < n → row ≠ k + 1 → c < n → r64 ((slv n T0 k).1 (k + 1) (k + 1) * (slv n T0 k).1 row c - (slv n T0 k).1 row (k + 1) * (slv n T0 k).1 (k + 1) c)
end SolvePic
