/-! One heap changed -/
section ClsPic3
theorem us_self {α : Type} (f : Nat → α) (a : Nat) : us f a (f a) = f := by
  funext q; unfold us; by_cases e : q = a
  · rw [if_pos e, e]
  · rw [if_neg e]
theorem ClsAt.heapTo {ty : Nat → ClassId} {ad : Nat → Nat} {ct ct1 : rm_C} {yc hc : Nat} {yn : Nat → Nat} {yM : Nat → Nat → Nat → Int} {yd : Nat → Nat → Int} {yu : Nat → Int} {hy : Nat → Nat} {hg hf : Nat → Nat → Int} {h9 : Nat} {g1 f1 : Nat → Int}
    (h : ClsAt ty ad ct yc hc yn yM yd yu hy hg hf) (hh : h9 < hc) (h1 : ct1 (200 + 4 * h9 + 1) = some (rl ty 8 g1)) (h2 : ct1 (200 + 4 * h9 + 2) = some (rl ty 8 f1))
    (ho : ∀ q, q ≠ 200 + 4 * h9 + 1 → q ≠ 200 + 4 * h9 + 2 → (q < 3 ∨ 30 < q) → ct1 q = ct q) (hHe : HelpAt ty ad ct1) : ClsAt ty ad ct1 yc hc yn yM yd yu hy (us hg h9 g1) (us hf h9 f1) := by
  obtain ⟨hb, ⟨t0, t1, t2⟩, hH, hYs, hHs, hYn, hHn⟩ := h
  refine ⟨hb, ⟨(ho 0 (by omega) (by omega) (by omega)).trans t0, (ho 1 (by omega) (by omega) (by omega)).trans t1, (ho 2 (by omega) (by omega) (by omega)).trans t2⟩, hHe, ?_, ?_, ?_, ?_⟩
  · intro y hy9; exact (hYs y hy9).kept (fun q a b => ho q (by omega) (by omega) (by omega))
  · intro k hk
    refine ⟨(hHs k hk).1, ?_⟩
    by_cases e : k = h9
    · subst e; rw [us_s, us_s]; exact ⟨(ho _ (by omega) (by omega) (by omega)).trans (hHs k hk).2.1, h1, h2⟩
    · rw [us_n _ _ e, us_n _ _ e]; exact (hHs k hk).2.kept (fun q a b => ho q (by omega) (by omega) (by omega))
  · intro y a b j hj; exact (ho _ (by omega) (by omega) (by omega)).trans (hYn y a b j hj)
  · intro k a b j hj; exact (ho _ (by omega) (by omega) (by omega)).trans (hHn k a b j hj)
end ClsPic3
