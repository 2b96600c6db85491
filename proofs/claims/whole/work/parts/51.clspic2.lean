/-! The whole object changed in one place -/
section ClsPic2
def us {α : Type} (f : Nat → α) (a : Nat) (v : α) : Nat → α := fun q => if q = a then v else f q
theorem us_s {α : Type} (f : Nat → α) (a : Nat) (v : α) : us f a v a = v := if_pos rfl
theorem us_n {α : Type} (f : Nat → α) {a q : Nat} (v : α) (h : q ≠ a) : us f a v q = f q := if_neg h
theorem HelpAt.kept {ty : Nat → ClassId} {ad : Nat → Nat} {ct ct1 : rm_C} (h : HelpAt ty ad ct) (ho : ∀ q, 3 ≤ q → q ≤ 30 → ct1 q = ct q) : HelpAt ty ad ct1 := by
  obtain ⟨⟨rd, h1⟩, ⟨fu, li, so, fa, T, h2⟩, ⟨k, on, tr, r, T2, h3⟩⟩ := h
  exact ⟨⟨rd, h1.kept (fun q a b => ho q (by omega) (by omega))⟩, ⟨fu, li, so, fa, T, h2.kept (fun q a b => ho q (by omega) (by omega))⟩, ⟨k, on, tr, r, T2, h3.kept (fun q a b => ho q (by omega) (by omega))⟩⟩
theorem ClsAt.newYard {ty : Nat → ClassId} {ad : Nat → Nat} {ct ct1 : rm_C} {yc hc : Nat} {yn : Nat → Nat} {yM : Nat → Nat → Nat → Int} {yd : Nat → Nat → Int} {yu : Nat → Int} {hy : Nat → Nat} {hg hf : Nat → Nat → Int} {p : Nat} {M0 : Nat → Nat → Int} {d0 : Nat → Int} {u0 : Int}
    (h : ClsAt ty ad ct yc hc yn yM yd yu hy hg hf) (hyc : yc < 6) (h0 : ct1 0 = some (.inr (5, [.ref (ad 1), .ref (ad 2), .int (jI (((yc + 1 : Nat) : Nat) : Int)), .int (jI ((hc : Nat) : Int)), .ref (ad 3), .ref (ad 5), .ref (ad 20)])))
    (h1 : ct1 1 = some (rq ty 3 6 (ub (fun i => if i < yc then some (ad (40 + 16 * i)) else none) yc (some (ad (40 + 16 * yc)))))) (hY : YardAt ty ad ct1 (40 + 16 * yc) p M0 d0 u0)
    (ho : ∀ q, q ≠ 0 → q ≠ 1 → (q < 40 + 16 * yc ∨ 40 + 16 * yc + 10 < q) → ct1 q = ct q) : ClsAt ty ad ct1 (yc + 1) hc (us yn yc p) (us yM yc M0) (us yd yc d0) (us yu yc u0) hy hg hf := by
  obtain ⟨hb, ⟨-, -, t2⟩, hH, hYs, hHs, hYn, hHn⟩ := h
  refine ⟨⟨by omega, hb.2⟩, ⟨h0, ?_, (ho 2 (by omega) (by omega) (by omega)).trans t2⟩, hH.kept (fun q a b => ho q (by omega) (by omega) (by omega)), ?_, ?_, ?_, ?_⟩
  · rw [h1]; congr 2; funext i; unfold ub
    by_cases e : i = yc
    · subst e; rw [if_pos rfl, if_pos (by omega)]
    · rw [if_neg e]; dsimp only
      by_cases e2 : i < yc
      · rw [if_pos e2, if_pos (by omega)]
      · rw [if_neg e2, if_neg (by omega)]
  · intro y hy9
    by_cases e : y = yc
    · subst e; rw [us_s, us_s, us_s, us_s]; exact hY
    · rw [us_n _ _ e, us_n _ _ e, us_n _ _ e, us_n _ _ e]; exact (hYs y (by omega)).kept (fun q a b => ho q (by omega) (by omega) (by omega))
  · intro h9 hh; exact ⟨by have := (hHs h9 hh).1; omega, (hHs h9 hh).2.kept (fun q a b => ho q (by omega) (by omega) (by omega))⟩
  · intro y a b j hj; exact (ho _ (by omega) (by omega) (by omega)).trans (hYn y (by omega) b j hj)
  · intro h9 a b j hj; exact (ho _ (by omega) (by omega) (by omega)).trans (hHn h9 a b j hj)
end ClsPic2
