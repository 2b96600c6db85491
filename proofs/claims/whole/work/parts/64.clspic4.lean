/-! The helpers changed -/
section ClsPic4
theorem ClsAt.helpTo {ty : Nat → ClassId} {ad : Nat → Nat} {ct ct1 : rm_C} {yc hc : Nat} {yn : Nat → Nat} {yM : Nat → Nat → Nat → Int} {yd : Nat → Nat → Int} {yu : Nat → Int} {hy : Nat → Nat} {hg hf : Nat → Nat → Int}
    (h : ClsAt ty ad ct yc hc yn yM yd yu hy hg hf) (ho : ∀ q, (q < 3 ∨ 30 < q) → ct1 q = ct q) (hHe : HelpAt ty ad ct1) : ClsAt ty ad ct1 yc hc yn yM yd yu hy hg hf := by
  obtain ⟨hb, ⟨t0, t1, t2⟩, hH, hYs, hHs, hYn, hHn⟩ := h
  refine ⟨hb, ⟨(ho 0 (by omega)).trans t0, (ho 1 (by omega)).trans t1, (ho 2 (by omega)).trans t2⟩, hHe, ?_, ?_, ?_, ?_⟩
  · intro y hy9; exact (hYs y hy9).kept (fun q a b => ho q (by omega))
  · intro k hk; exact ⟨(hHs k hk).1, (hHs k hk).2.kept (fun q a b => ho q (by omega))⟩
  · intro y a b j hj; exact (ho _ (by omega)).trans (hYn y a b j hj)
  · intro k a b j hj; exact (ho _ (by omega)).trans (hHn k a b j hj)
end ClsPic4
