/-! What clearing keeps: the divisors of the minors, with the trees' multiples added -/
section SplitKept
variable {m : Nat} {D : Int}
theorem gs_split (f : Nat → Int) (a : Nat) : ∀ b, gs f (a + b) = gs f a + gs (fun i => f (a + i)) b
  | 0 => by show gs f a = gs f a + 0; omega
  | b + 1 => by show gs f (a + b) + f (a + b) = _; rw [gs_split f a b, gs_s]; omega
def ext (m : Nat) (D : Int) (T : Nat → Nat → Int) : Nat → Nat → Int := fun r j => if r < m then T r j else if r - m = j then D else 0
theorem ext_sum {T : Nat → Nat → Int} (X : Nat → Int) {j : Nat} (hj : j < m) : gs (fun l => X l * ext m D T l j) (2 * m) = gs (fun l => X l * T l j) m + X (m + j) * D := by
  rw [show 2 * m = m + m by omega, gs_split]
  have e1 : gs (fun l => X l * ext m D T l j) m = gs (fun l => X l * T l j) m := gs_cong (fun l hl => by unfold ext; rw [if_pos hl])
  have e2 : gs (fun i => X (m + i) * ext m D T (m + i) j) m = gs (fun i => if i = j then X (m + i) * D else 0) m := gs_cong (fun i _ => by
    unfold ext; rw [if_neg (by omega), show m + i - m = i by omega]
    by_cases e : i = j
    · rw [if_pos e, if_pos e]
    · rw [if_neg e, if_neg e, Int.mul_zero])
  rw [e1, e2, gs_one (fun i => X (m + i) * D) hj]
theorem eq_row {k : Nat} {c : Int} {T T' : Nat → Nat → Int} (hT : ∀ r, r < m → ∃ X z : Nat → Int, ∀ j, j < m → T' r j = gs (fun l => X l * T l j) m + D * z j) (h : gdv k (2 * m) m (ext m D T) c) : gdv k (2 * m) m (ext m D T') c :=
  gdv_row (fun r hr => by
    by_cases e : r < m
    · obtain ⟨X, z, hX⟩ := hT r e
      refine ⟨fun l => if l < m then X l else z (l - m), fun j hj => ?_⟩
      rw [ext_sum _ hj]
      rw [if_neg (by omega), show m + j - m = j by omega]
      have e1 : gs (fun l => (if l < m then X l else z (l - m)) * T l j) m = gs (fun l => X l * T l j) m := gs_cong (fun l hl => by rw [if_pos hl])
      rw [e1]
      unfold ext; rw [if_pos e, hX j hj, Int.mul_comm (z j)]
    · refine ⟨fun l => if l = r then 1 else 0, fun j hj => ?_⟩
      rw [ext_sum _ hj, gs_zero (fun l hl => by rw [if_neg (by omega), Int.zero_mul]), Int.zero_add]
      unfold ext; rw [if_neg e]
      by_cases e2 : r - m = j
      · rw [if_pos e2, if_pos (by omega), Int.one_mul]
      · rw [if_neg e2, if_neg (by omega), Int.zero_mul]) h
theorem eq_col {k : Nat} {c : Int} {T T' : Nat → Nat → Int} (V W : Nat → Nat → Int) (hW : ∀ i j, i < m → j < m → gs (fun l => W i l * V l j) m = if i = j then 1 else 0) (hT : ∀ r, r < m → ∃ z : Nat → Int, ∀ j, j < m → T' r j = gs (fun l => T r l * V l j) m + D * z j) (h : gdv k (2 * m) m (ext m D T) c) : gdv k (2 * m) m (ext m D T') c := by
  have hG := gdv_col (m' := m) (G := fun r j => gs (fun l => ext m D T r l * V l j) m) (fun j _ => ⟨fun l => V l j, fun r _ => rfl⟩) h
  have hGm : ∀ a j, a < m → gs (fun l => ext m D T (m + a) l * V l j) m = D * V a j := fun a j ha => by
    have e : gs (fun l => ext m D T (m + a) l * V l j) m = gs (fun l => if l = a then D * V l j else 0) m := gs_cong (fun l _ => by
      unfold ext; rw [if_neg (by omega), show m + a - m = a by omega]
      by_cases e : l = a
      · rw [if_pos e, if_pos e.symm]
      · rw [if_neg e, if_neg (fun h => e h.symm), Int.zero_mul])
    rw [e, gs_one (fun l => D * V l j) ha]
  have hWD : ∀ (y : Nat → Int) j, j < m → gs (fun a => gs (fun i => y i * W i a) m * (D * V a j)) m = D * y j := fun y j hj => by
    have e1 : gs (fun a => gs (fun i => y i * W i a) m * (D * V a j)) m = gs (fun a => gs (fun i => D * (y i * (W i a * V a j))) m) m := gs_cong (fun a _ => by
      rw [← gs_mulr]; exact gs_cong (fun i _ => by grind))
    rw [e1, gs_swap]
    have e2 : gs (fun i => gs (fun a => D * (y i * (W i a * V a j))) m) m = gs (fun i => if i = j then D * y i else 0) m := gs_cong (fun i hi => by
      rw [gs_mul, gs_mul, hW i j hi hj]
      by_cases e : i = j
      · rw [if_pos e, if_pos e, Int.mul_one]
      · rw [if_neg e, if_neg e, Int.mul_zero, Int.mul_zero])
    rw [e2, gs_one (fun i => D * y i) hj]
  refine gdv_row (fun r hr => ?_) hG
  by_cases e : r < m
  · obtain ⟨z, hz⟩ := hT r e
    refine ⟨fun l => if l < m then (if l = r then 1 else 0) else gs (fun i => z i * W i (l - m)) m, fun j hj => ?_⟩
    rw [show 2 * m = m + m by omega, gs_split]
    have e1 : gs (fun l => (if l < m then (if l = r then 1 else 0) else gs (fun i => z i * W i (l - m)) m) * gs (fun l' => ext m D T l l' * V l' j) m) m = gs (fun l => if l = r then gs (fun l' => T l l' * V l' j) m else 0) m := gs_cong (fun l hl => by
      rw [if_pos hl]
      by_cases e2 : l = r
      · rw [if_pos e2, if_pos e2, Int.one_mul]
        exact gs_cong (fun l' _ => by unfold ext; rw [if_pos hl])
      · rw [if_neg e2, if_neg e2, Int.zero_mul])
    have e3 : gs (fun a => (if m + a < m then (if m + a = r then 1 else 0) else gs (fun i => z i * W i (m + a - m)) m) * gs (fun l' => ext m D T (m + a) l' * V l' j) m) m = gs (fun a => gs (fun i => z i * W i a) m * (D * V a j)) m := gs_cong (fun a ha => by
      rw [if_neg (by omega), hGm a j ha, show m + a - m = a by omega])
    rw [e1, e3, hWD z j hj, gs_one (fun l => gs (fun l' => T l l' * V l' j) m) e]
    unfold ext; rw [if_pos e]; exact hz j hj
  · refine ⟨fun l => if l < m then 0 else W (r - m) (l - m), fun j hj => ?_⟩
    rw [show 2 * m = m + m by omega, gs_split]
    have e1 : gs (fun l => (if l < m then 0 else W (r - m) (l - m)) * gs (fun l' => ext m D T l l' * V l' j) m) m = 0 := gs_zero (fun l hl => by rw [if_pos hl, Int.zero_mul])
    have e3 : gs (fun a => (if m + a < m then 0 else W (r - m) (m + a - m)) * gs (fun l' => ext m D T (m + a) l' * V l' j) m) m = gs (fun a => D * (W (r - m) a * V a j)) m := gs_cong (fun a ha => by
      rw [if_neg (by omega), hGm a j ha, show m + a - m = a by omega]; grind)
    rw [e1, e3, gs_mul, hW (r - m) j (by omega) hj, Int.zero_add]
    unfold ext; rw [if_neg e]
    by_cases e2 : r - m = j
    · rw [if_pos e2, if_pos e2, Int.mul_one]
    · rw [if_neg e2, if_neg e2, Int.mul_zero]
def gx (m : Nat) (D : Int) (T : Nat → Nat → Int) (k : Nat) (c : Int) : Prop := gdv k (2 * m) m (ext m D T) c
theorem radd1 {k : Nat} {c : Int} {T T' : Nat → Nat → Int} {a w : Nat} {t : Int} {z : Nat → Int} (ha : a < m) (hw : w < m) (h1 : ∀ j, j < m → T' w j = T w j - t * T a j + D * z j) (h2 : ∀ r, r ≠ w → ∀ j, T' r j = T r j) (h : gx m D T k c) : gx m D T' k c :=
  eq_row (fun r hr => by
    by_cases e : r = w
    · refine ⟨fun l => (if l = w then 1 else 0) - (if l = a then t else 0), z, fun j hj => ?_⟩
      have e1 : gs (fun l => ((if l = w then 1 else 0) - (if l = a then t else 0)) * T l j) m = gs (fun l => (if l = w then T l j else 0) - (if l = a then t * T l j else 0)) m := gs_cong (fun l _ => by
        rw [Int.sub_mul]
        congr 1
        · split
          · exact Int.one_mul _
          · exact Int.zero_mul _
        · split
          · rfl
          · exact Int.zero_mul _)
      rw [e1, gs_sub, gs_one (fun l => T l j) hw, gs_one (fun l => t * T l j) ha, e]
      exact h1 j hj
    · refine ⟨fun l => if l = r then 1 else 0, fun _ => 0, fun j hj => ?_⟩
      have e1 : gs (fun l => (if l = r then 1 else 0) * T l j) m = gs (fun l => if l = r then T l j else 0) m := gs_cong (fun l _ => by
        split
        · exact Int.one_mul _
        · exact Int.zero_mul _)
      rw [e1, gs_one (fun l => T l j) hr, h2 r e j, Int.mul_zero, Int.add_zero]) h
theorem radd {k : Nat} {c : Int} {T T' : Nat → Nat → Int} {a w : Nat} {t : Int} {z : Nat → Int} (ha : a < m) (hw : w < m) (haw : a ≠ w) (h1 : ∀ j, j < m → T' w j = T w j - t * T a j + D * z j) (h2 : ∀ r, r ≠ w → ∀ j, T' r j = T r j) : gx m D T k c ↔ gx m D T' k c :=
  ⟨radd1 ha hw h1 h2, radd1 (t := -t) (z := fun j => - z j) ha hw (fun j hj => by rw [h1 j hj, h2 a haw j, Int.neg_mul, Int.mul_neg]; omega) (fun r hr j => (h2 r hr j).symm)⟩
theorem cadd1 {k : Nat} {c : Int} {T T' : Nat → Nat → Int} {a w : Nat} {t : Int} {z : Nat → Int} (ha : a < m) (hw : w < m) (haw : a ≠ w) (h1 : ∀ r, r < m → T' r w = T r w - t * T r a + D * z r) (h2 : ∀ j, j ≠ w → ∀ r, T' r j = T r j) (h : gx m D T k c) : gx m D T' k c := by
  have hs : ∀ (f : Nat → Int) j s, j < m → gs (fun l => f l * ((if l = j then 1 else 0) - (if l = a ∧ j = w then s else 0))) m = f j - (if j = w then f a * s else 0) := fun f j s hj => by
    have e1 : gs (fun l => f l * ((if l = j then 1 else 0) - (if l = a ∧ j = w then s else 0))) m = gs (fun l => (if l = j then f l else 0) - (if l = a then (if j = w then f l * s else 0) else 0)) m := gs_cong (fun l _ => by
      rw [Int.mul_sub]
      congr 1
      · split
        · exact Int.mul_one _
        · exact Int.mul_zero _
      · by_cases q1 : l = a
        · by_cases q2 : j = w
          · rw [if_pos ⟨q1, q2⟩, if_pos q1, if_pos q2]
          · rw [if_neg (fun h => q2 h.2), if_pos q1, if_neg q2, Int.mul_zero]
        · rw [if_neg (fun h => q1 h.1), if_neg q1, Int.mul_zero])
    rw [e1, gs_sub, gs_one f hj, gs_one (fun l => if j = w then f l * s else 0) ha]
  refine eq_col (fun l j => (if l = j then 1 else 0) - (if l = a ∧ j = w then t else 0)) (fun i l => (if l = i then 1 else 0) + (if i = a ∧ l = w then t else 0)) (fun i j hi hj => ?_) (fun r hr => ⟨fun j => if j = w then z r else 0, fun j hj => ?_⟩) h
  · rw [hs (fun l => (if l = i then 1 else 0) + (if i = a ∧ l = w then t else 0)) j t hj]
    by_cases q1 : j = w
    · rw [if_pos q1]
      by_cases q2 : i = a
      · rw [q1, q2, if_neg (fun h => haw h.symm), if_pos ⟨rfl, rfl⟩, if_pos rfl, if_neg (fun h => haw h.2), if_neg haw]; omega
      · rw [if_neg (c := i = a ∧ j = w) (fun h => q2 h.1), if_neg (c := i = a ∧ a = w) (fun h => q2 h.1), if_neg (c := a = i) (fun h => q2 h.symm)]
        by_cases q3 : j = i
        · rw [if_pos q3, if_pos q3.symm]; omega
        · rw [if_neg q3, if_neg (fun h => q3 h.symm)]; omega
    · rw [if_neg (c := j = w) q1, if_neg (c := i = a ∧ j = w) (fun h => q1 h.2)]
      by_cases q3 : j = i
      · rw [if_pos q3, if_pos q3.symm]; omega
      · rw [if_neg q3, if_neg (fun h => q3 h.symm)]; omega
  · rw [hs (fun l => T r l) j t hj]
    dsimp only
    by_cases q1 : j = w
    · rw [if_pos q1, if_pos q1, q1, h1 r hr, Int.mul_comm t]
    · rw [if_neg q1, if_neg q1, h2 j q1 r, Int.mul_zero]; omega
theorem cadd {k : Nat} {c : Int} {T T' : Nat → Nat → Int} {a w : Nat} {t : Int} {z : Nat → Int} (ha : a < m) (hw : w < m) (haw : a ≠ w) (h1 : ∀ r, r < m → T' r w = T r w - t * T r a + D * z r) (h2 : ∀ j, j ≠ w → ∀ r, T' r j = T r j) : gx m D T k c ↔ gx m D T' k c :=
  ⟨cadd1 ha hw haw h1 h2, cadd1 (t := -t) (z := fun j => - z j) ha hw haw (fun j hj => by rw [h1 j hj, h2 a haw j, Int.neg_mul, Int.mul_neg]; omega) (fun r hr j => (h2 r hr j).symm)⟩
theorem swp_swp (a b i : Nat) : swp a b (swp a b i) = i := by
  unfold swp
  by_cases q1 : i = a
  · rw [if_pos q1]
    by_cases q2 : b = a
    · rw [if_pos q2]; omega
    · rw [if_neg q2, if_pos rfl]; exact q1.symm
  · rw [if_neg q1]
    by_cases q2 : i = b
    · rw [if_pos q2, if_pos rfl]; exact q2.symm
    · rw [if_neg q2, if_neg q1, if_neg q2]
theorem swp_lt {a b i : Nat} (ha : a < m) (hb : b < m) (hi : i < m) : swp a b i < m := by unfold swp; split; exact hb; split; exact ha; exact hi
theorem rswp1 {k : Nat} {c : Int} {T T' : Nat → Nat → Int} {a b : Nat} (ha : a < m) (hb : b < m) (h1 : ∀ r j, r < m → j < m → T' r j = T (swp a b r) j) (h : gx m D T k c) : gx m D T' k c :=
  eq_row (fun r hr => ⟨fun l => if l = swp a b r then 1 else 0, fun _ => 0, fun j hj => by
    have e1 : gs (fun l => (if l = swp a b r then 1 else 0) * T l j) m = gs (fun l => if l = swp a b r then T l j else 0) m := gs_cong (fun l _ => by
      split
      · exact Int.one_mul _
      · exact Int.zero_mul _)
    rw [e1, gs_one (fun l => T l j) (swp_lt ha hb hr), h1 r j hr hj, Int.mul_zero, Int.add_zero]⟩) h
theorem rswp {k : Nat} {c : Int} {T T' : Nat → Nat → Int} {a b : Nat} (ha : a < m) (hb : b < m) (h1 : ∀ r j, r < m → j < m → T' r j = T (swp a b r) j) : gx m D T k c ↔ gx m D T' k c :=
  ⟨rswp1 ha hb h1, rswp1 ha hb (fun r j hr hj => by rw [h1 _ j (swp_lt ha hb hr) hj, swp_swp])⟩
theorem cswp1 {k : Nat} {c : Int} {T T' : Nat → Nat → Int} {a b : Nat} (ha : a < m) (hb : b < m) (h1 : ∀ r j, r < m → j < m → T' r j = T r (swp a b j)) (h : gx m D T k c) : gx m D T' k c := by
  have hs : ∀ (f : Nat → Int) j, j < m → gs (fun l => f l * (if l = swp a b j then 1 else 0)) m = f (swp a b j) := fun f j hj => by
    have e1 : gs (fun l => f l * (if l = swp a b j then 1 else 0)) m = gs (fun l => if l = swp a b j then f l else 0) m := gs_cong (fun l _ => by
      split
      · exact Int.mul_one _
      · exact Int.mul_zero _)
    rw [e1, gs_one f (swp_lt ha hb hj)]
  refine eq_col (fun l j => if l = swp a b j then 1 else 0) (fun i l => if l = swp a b i then 1 else 0) (fun i j hi hj => ?_) (fun r hr => ⟨fun _ => 0, fun j hj => ?_⟩) h
  · rw [hs (fun l => if l = swp a b i then 1 else 0) j hj]
    by_cases e : i = j
    · rw [if_pos e, if_pos (by rw [e])]
    · rw [if_neg e, if_neg (fun h => e (by have := congrArg (swp a b) h; rw [swp_swp, swp_swp] at this; exact this.symm))]
  · rw [hs (fun l => T r l) j hj, h1 r j hr hj, Int.mul_zero, Int.add_zero]
theorem cswp {k : Nat} {c : Int} {T T' : Nat → Nat → Int} {a b : Nat} (ha : a < m) (hb : b < m) (h1 : ∀ r j, r < m → j < m → T' r j = T r (swp a b j)) : gx m D T k c ↔ gx m D T' k c :=
  ⟨cswp1 ha hb h1, cswp1 ha hb (fun r j hr hj => by rw [h1 r _ hr (swp_lt ha hb hj), swp_swp])⟩
end SplitKept
