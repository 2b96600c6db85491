/-! One yard changed; a heap more -/
section ClsPic5
theorem ClsAt.yardTo {ty : Nat → ClassId} {ad : Nat → Nat} {ct ct1 : rm_C} {yc hc : Nat} {yn : Nat → Nat} {yM : Nat → Nat → Nat → Int} {yd : Nat → Nat → Int} {yu : Nat → Int} {hy : Nat → Nat} {hg hf : Nat → Nat → Int} {y9 : Nat} {M1 : Nat → Nat → Int} {d1 : Nat → Int} {u1 : Int}
    (h : ClsAt ty ad ct yc hc yn yM yd yu hy hg hf) (hy9 : y9 < yc) (hY : YardAt ty ad ct1 (40 + 16 * y9) (yn y9) M1 d1 u1) (ho : ∀ q, (q < 40 + 16 * y9 ∨ 40 + 16 * y9 + 10 < q) → ct1 q = ct q) : ClsAt ty ad ct1 yc hc yn (us yM y9 M1) (us yd y9 d1) (us yu y9 u1) hy hg hf := by
  obtain ⟨hb, ⟨t0, t1, t2⟩, hH, hYs, hHs, hYn, hHn⟩ := h
  refine ⟨hb, ⟨(ho 0 (by omega)).trans t0, (ho 1 (by omega)).trans t1, (ho 2 (by omega)).trans t2⟩, hH.kept (fun q a b => ho q (by omega)), ?_, ?_, ?_, ?_⟩
  · intro y hy
    by_cases e : y = y9
    · subst e; rw [us_s, us_s, us_s]; exact hY
    · rw [us_n _ _ e, us_n _ _ e, us_n _ _ e]; exact (hYs y hy).kept (fun q a b => ho q (by omega))
  · intro k hk; exact ⟨(hHs k hk).1, (hHs k hk).2.kept (fun q a b => ho q (by omega))⟩
  · intro y a b j hj; exact (ho _ (by omega)).trans (hYn y a b j hj)
  · intro k a b j hj; exact (ho _ (by omega)).trans (hHn k a b j hj)
theorem ClsAt.newHeap {ty : Nat → ClassId} {ad : Nat → Nat} {ct ct1 : rm_C} {yc hc : Nat} {yn : Nat → Nat} {yM : Nat → Nat → Nat → Int} {yd : Nat → Nat → Int} {yu : Nat → Int} {hy : Nat → Nat} {hg hf : Nat → Nat → Int} {y9 : Nat} {g0 f0 : Nat → Int}
    (h : ClsAt ty ad ct yc hc yn yM yd yu hy hg hf) (hy9 : y9 < yc) (hhc : hc < 20) (h0 : ct1 0 = some (.inr (5, [.ref (ad 1), .ref (ad 2), .int (jI ((yc : Nat) : Int)), .int (jI (((hc + 1 : Nat) : Nat) : Int)), .ref (ad 3), .ref (ad 5), .ref (ad 20)])))
    (h2 : ct1 2 = some (rq ty 4 20 (ub (fun i => if i < hc then some (ad (200 + 4 * i)) else none) hc (some (ad (200 + 4 * hc)))))) (hYr : ct1 (40 + 16 * y9) = some (.inr (4, [.int (jI ((yn y9 : Nat) : Int)), .ref (ad (40 + 16 * y9 + 1)), .ref (ad (40 + 16 * y9 + 10)), .int (jI 1)])))
    (hHe : HeapAt ty ad ct1 (200 + 4 * hc) (40 + 16 * y9) g0 f0) (ho : ∀ q, q ≠ 0 → q ≠ 2 → q ≠ 40 + 16 * y9 → (q < 200 + 4 * hc ∨ 200 + 4 * hc + 2 < q) → ct1 q = ct q) :
    ClsAt ty ad ct1 yc (hc + 1) yn yM yd (us yu y9 1) (us hy hc y9) (us hg hc g0) (us hf hc f0) := by
  obtain ⟨hb, ⟨-, t1, -⟩, hH, hYs, hHs, hYn, hHn⟩ := h
  refine ⟨⟨hb.1, by omega⟩, ⟨h0, (ho 1 (by omega) (by omega) (by omega) (by omega)).trans t1, ?_⟩, hH.kept (fun q a b => ho q (by omega) (by omega) (by omega) (by omega)), ?_, ?_, ?_, ?_⟩
  · rw [h2]; congr 2; funext i; unfold ub
    by_cases e : i = hc
    · subst e; rw [if_pos rfl, if_pos (by omega)]
    · rw [if_neg e]; dsimp only
      by_cases e2 : i < hc
      · rw [if_pos e2, if_pos (by omega)]
      · rw [if_neg e2, if_neg (by omega)]
  · intro y hyy
    by_cases e : y = y9
    · subst e; rw [us_s]
      have h3 := hYs y hyy
      exact ⟨hYr, (ho _ (by omega) (by omega) (by omega) (by omega)).trans h3.2.1, fun i hi => (ho _ (by omega) (by omega) (by omega) (by omega)).trans (h3.2.2.1 i hi), (ho _ (by omega) (by omega) (by omega) (by omega)).trans h3.2.2.2⟩
    · rw [us_n _ _ e]; exact (hYs y hyy).kept (fun q a b => ho q (by omega) (by omega) (by omega) (by omega))
  · intro k hk
    by_cases e : k = hc
    · subst e; rw [us_s, us_s, us_s]; exact ⟨hy9, hHe⟩
    · rw [us_n _ _ e, us_n _ _ e, us_n _ _ e]
      exact ⟨(hHs k (by omega)).1, (hHs k (by omega)).2.kept (fun q a b => ho q (by omega) (by omega) (by omega) (by omega))⟩
  · intro y a b j hj; exact (ho _ (by omega) (by omega) (by omega) (by omega)).trans (hYn y a b j hj)
  · intro k a b j hj; exact (ho _ (by omega) (by omega) (by omega) (by omega)).trans (hHn k (by omega) b j hj)
end ClsPic5
