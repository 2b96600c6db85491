/-! Other addresses for what is not made yet -/
section ClsPic6
theorem TopAt.re {ty : Nat → ClassId} {ad ad' : Nat → Nat} {ct : rm_C} {yc hc : Nat} (h : TopAt ty ad ct yc hc) (hyc : yc ≤ 6) (ha : ∀ r, r < 200 + 4 * hc → ad' r = ad r) : TopAt ty ad' ct yc hc := by
  obtain ⟨h0, h1, h2⟩ := h
  refine ⟨?_, ?_, ?_⟩
  · rw [ha 1 (by omega), ha 2 (by omega), ha 3 (by omega), ha 5 (by omega), ha 20 (by omega)]; exact h0
  · rw [h1]; congr 2; funext i
    by_cases e : i < yc
    · rw [if_pos e, if_pos e, ha _ (by omega)]
    · rw [if_neg e, if_neg e]
  · rw [h2]; congr 2; funext i
    by_cases e : i < hc
    · rw [if_pos e, if_pos e, ha _ (by omega)]
    · rw [if_neg e, if_neg e]
theorem YardAt.re {ty : Nat → ClassId} {ad ad' : Nat → Nat} {ct : rm_C} {yr n : Nat} {M : Nat → Nat → Int} {d : Nat → Int} {u : Int} (h : YardAt ty ad ct yr n M d u) (ha : ∀ r, yr ≤ r → r ≤ yr + 10 → ad' r = ad r) : YardAt ty ad' ct yr n M d u := by
  obtain ⟨h0, h1, h2, h3⟩ := h
  refine ⟨?_, ?_, h2, h3⟩
  · rw [ha (yr + 1) (by omega) (by omega), ha (yr + 10) (by omega) (by omega)]; exact h0
  · rw [h1]; congr 2; funext i
    by_cases e : i < 8
    · rw [if_pos e, if_pos e, ha _ (by omega) (by omega)]
    · rw [if_neg e, if_neg e]
theorem HeapAt.re {ty : Nat → ClassId} {ad ad' : Nat → Nat} {ct : rm_C} {hp yr : Nat} {g f : Nat → Int} (h : HeapAt ty ad ct hp yr g f) (h0 : ad' yr = ad yr) (ha : ∀ r, hp ≤ r → r ≤ hp + 2 → ad' r = ad r) : HeapAt ty ad' ct hp yr g f := by
  obtain ⟨t0, t1, t2⟩ := h
  refine ⟨?_, t1, t2⟩
  rw [h0, ha (hp + 1) (by omega) (by omega), ha (hp + 2) (by omega) (by omega)]; exact t0
theorem HelpAt.re {ty : Nat → ClassId} {ad ad' : Nat → Nat} {ct : rm_C} (h : HelpAt ty ad ct) (ha : ∀ r, r ≤ 30 → ad' r = ad r) : HelpAt ty ad' ct := by
  obtain ⟨⟨rd, a0, a1⟩, ⟨fu, li, so, fa, T, b0, b1, b2, b3, b4, b5, b6, b7⟩, ⟨k, on, tr, r, T2, c0, c1, c2, c3⟩⟩ := h
  refine ⟨⟨rd, ?_, a1⟩, ⟨fu, li, so, fa, T, ?_, b1, b2, b3, b4, b5, ?_, b7⟩, ⟨k, on, tr, r, T2, ?_, ?_, c2, c3⟩⟩
  · rw [ha 4 (by omega)]; exact a0
  · rw [ha (5 + 1) (by omega), ha (5 + 2) (by omega), ha (5 + 3) (by omega), ha (5 + 4) (by omega), ha (5 + 5) (by omega), ha (5 + 6) (by omega)]; exact b0
  · rw [b6]; congr 2; funext i
    by_cases e : i < 8
    · rw [if_pos e, if_pos e, ha _ (by omega)]
    · rw [if_neg e, if_neg e]
  · rw [ha (20 + 1) (by omega), ha (20 + 10) (by omega)]; exact c0
  · rw [c1]; congr 2; funext i
    by_cases e : i < 8
    · rw [if_pos e, if_pos e, ha _ (by omega)]
    · rw [if_neg e, if_neg e]
theorem ClsAt.re {ty : Nat → ClassId} {ad ad' : Nat → Nat} {ct : rm_C} {yc hc : Nat} {yn : Nat → Nat} {yM : Nat → Nat → Nat → Int} {yd : Nat → Nat → Int} {yu : Nat → Int} {hy : Nat → Nat} {hg hf : Nat → Nat → Int}
    (h : ClsAt ty ad ct yc hc yn yM yd yu hy hg hf) (ha : ∀ r, r < 200 + 4 * hc → ad' r = ad r) : ClsAt ty ad' ct yc hc yn yM yd yu hy hg hf := by
  obtain ⟨hb, hT, hH, hYs, hHs, hYn, hHn⟩ := h
  refine ⟨hb, hT.re hb.1 ha, hH.re (fun r hr => ha r (by omega)), fun y hy9 => (hYs y hy9).re (fun r a b => ha r (by omega)), fun k hk => ⟨(hHs k hk).1, (hHs k hk).2.re (ha _ (by have := (hHs k hk).1; omega)) (fun r a b => ha r (by omega))⟩, hYn, hHn⟩
end ClsPic6
