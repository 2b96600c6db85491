/-! Heaps; a path laid -/
section HeapPic
def HeapAt (ty : Nat → ClassId) (ad : Nat → Nat) (ct : rm_C) (hr yr : Nat) (g f : Nat → Int) : Prop :=
  ct hr = some (.inr (1, [.ref (ad yr), .ref (ad (hr + 1)), .ref (ad (hr + 2))])) ∧ ct (hr + 1) = some (rl ty 8 g) ∧ ct (hr + 2) = some (rl ty 8 f)
theorem HeapAt.kept {ty : Nat → ClassId} {ad : Nat → Nat} {ct ct1 : rm_C} {hr yr : Nat} {g f : Nat → Int} (h : HeapAt ty ad ct hr yr g f) (ho : ∀ q, hr ≤ q → q ≤ hr + 2 → ct1 q = ct q) : HeapAt ty ad ct1 hr yr g f :=
  ⟨(ho _ (by omega) (by omega)).trans h.1, (ho _ (by omega) (by omega)).trans h.2.1, (ho _ (by omega) (by omega)).trans h.2.2⟩
def lyM (M : Nat → Nat → Int) (a b : Nat) (v : Int) : Nat → Nat → Int := fun i j => if (i = a ∧ j = b) ∨ (i = b ∧ j = a) then v else M i j
def lyd (d : Nat → Int) (a b : Nat) (v : Int) : Nat → Int := fun i => if i = a ∨ i = b then d i + v else d i
theorem lyM_eq {M : Nat → Nat → Int} {a b : Nat} {v : Int} (h : a ≠ b) : ub (ub M a (ub (M a) b v)) b (ub (ub M a (ub (M a) b v) b) a v) = lyM M a b v := by
  funext i j; unfold lyM
  by_cases e : i = b
  · subst e; rw [ub_s]
    by_cases e2 : j = a
    · subst e2; rw [ub_s, if_pos (Or.inr ⟨rfl, rfl⟩)]
    · rw [ub_n _ _ e2, ub_n _ _ (fun q => h q.symm), if_neg (by omega)]
  · rw [ub_n _ _ e]
    by_cases e3 : i = a
    · subst e3; rw [ub_s]
      by_cases e4 : j = b
      · subst e4; rw [ub_s, if_pos (Or.inl ⟨rfl, rfl⟩)]
      · rw [ub_n _ _ e4, if_neg (by omega)]
    · rw [ub_n _ _ e3, if_neg (by omega)]
theorem lyd_eq {d : Nat → Int} {a b : Nat} {v : Int} (h : a ≠ b) : ub (ub d a (d a + v)) b (ub d a (d a + v) b + v) = lyd d a b v := by
  funext i; unfold lyd
  by_cases e : i = b
  · subst e; rw [ub_s, ub_n _ _ (fun q => h q.symm), if_pos (Or.inr rfl)]
  · rw [ub_n _ _ e]
    by_cases e3 : i = a
    · subst e3; rw [ub_s, if_pos (Or.inl rfl)]
    · rw [ub_n _ _ e3, if_neg (by omega)]
def tkn (i : Nat) (w g : Nat → Int) : Nat → Int := fun q => if 1 ≤ q ∧ q < i then w q else g q
theorem tkn_0 (w g : Nat → Int) : g = tkn 1 w g := by funext q; unfold tkn; rw [if_neg (by omega)]
theorem tkn_s {i : Nat} {w g : Nat → Int} (h : 1 ≤ i) : ub (tkn i w g) i (w i) = tkn (i + 1) w g := by
  funext q
  by_cases e : q = i
  · subst e; rw [ub_s]; unfold tkn; rw [if_pos ⟨h, by omega⟩]
  · rw [ub_n _ _ e]; unfold tkn
    by_cases e2 : 1 ≤ q ∧ q < i
    · rw [if_pos e2, if_pos ⟨e2.1, by omega⟩]
    · rw [if_neg e2, if_neg (by omega)]
end HeapPic
