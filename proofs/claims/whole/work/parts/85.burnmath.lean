/-! Burning by rounds: a round in closed form; when a round changes nothing; what burning at a round tells -/
section BurnMath
theorem ltb_cong2 {M : Nat → Nat → Int} {d rd rd' : Nat → Int} {p : Nat} {r r' : Int} : ∀ {n : Nat}, (∀ o, o < n → ((rd o ≠ -1 ∧ rd o < r) ↔ (rd' o ≠ -1 ∧ rd' o < r'))) → ltb M d rd p r n = ltb M d rd' p r' n := by
  intro n h
  have e9 : gs (fun o => if rd o ≠ -1 ∧ rd o < r then M p o else 0) n = gs (fun o => if rd' o ≠ -1 ∧ rd' o < r' then M p o else 0) n := gs_cong (fun o ho => by
    by_cases e : rd o ≠ -1 ∧ rd o < r
    · rw [if_pos e, if_pos ((h o ho).mp e)]
    · rw [if_neg e, if_neg (fun q => e ((h o ho).mpr q))])
  unfold ltb
  rw [e9]
theorem ltb_cong {M : Nat → Nat → Int} {d rd rd' : Nat → Int} {p : Nat} {r : Int} {n : Nat} (h : ∀ o, o < n → ((rd o ≠ -1 ∧ rd o < r) ↔ (rd' o ≠ -1 ∧ rd' o < r))) : ltb M d rd p r n = ltb M d rd' p r n := ltb_cong2 h
/-- a round in closed form -/
def brf (n : Nat) (M : Nat → Nat → Int) (d g : Nat → Int) (r : Int) (k : Nat) (rd : Nat → Int) : Nat → Int := fun q => if 1 ≤ q ∧ q ≤ k ∧ rd q = -1 ∧ ltb M d rd q r n ≤ g q then r else rd q
theorem brd_eq {n : Nat} {M : Nat → Nat → Int} {d g : Nat → Int} {r : Int} (hr : 0 ≤ r) {rd : Nat → Int} : ∀ k : Nat, brd n M d g r k rd = brf n M d g r k rd
  | 0 => by funext q; show rd q = _; unfold brf; rw [if_neg (by omega)]
  | k + 1 => by
    show bst n M d g r (k + 1) (brd n M d g r k rd) = _
    rw [brd_eq hr k]
    have hl : ∀ p, ltb M d (brf n M d g r k rd) p r n = ltb M d rd p r n := fun p => ltb_cong (fun o _ => by
      unfold brf
      by_cases e : 1 ≤ o ∧ o ≤ k ∧ rd o = -1 ∧ ltb M d rd o r n ≤ g o
      · rw [if_pos e]; exact ⟨fun h => absurd h.2 (by omega), fun h => absurd e.2.2.1 h.1⟩
      · rw [if_neg e])
    have hk : brf n M d g r k rd (k + 1) = rd (k + 1) := by unfold brf; rw [if_neg (by omega)]
    unfold bst
    rw [hl, hk]
    by_cases e : rd (k + 1) = -1 ∧ ltb M d rd (k + 1) r n ≤ g (k + 1)
    · rw [if_pos e]
      funext q
      by_cases e2 : q = k + 1
      · subst e2; rw [ub_s]; unfold brf; rw [if_pos ⟨by omega, by omega, e.1, e.2⟩]
      · rw [ub_n _ _ e2]; unfold brf
        by_cases e3 : 1 ≤ q ∧ q ≤ k ∧ rd q = -1 ∧ ltb M d rd q r n ≤ g q
        · rw [if_pos e3, if_pos ⟨e3.1, by omega, e3.2.2⟩]
        · rw [if_neg e3, if_neg (fun h => e3 ⟨h.1, by omega, h.2.2⟩)]
    · rw [if_neg e]
      funext q
      unfold brf
      by_cases e3 : 1 ≤ q ∧ q ≤ k ∧ rd q = -1 ∧ ltb M d rd q r n ≤ g q
      · rw [if_pos e3, if_pos ⟨e3.1, by omega, e3.2.2⟩]
      · rw [if_neg e3, if_neg (fun h => by
          by_cases e4 : q = k + 1
          · subst e4; exact e h.2.2
          · exact e3 ⟨h.1, by omega, h.2.2⟩)]
theorem bit_f (n : Nat) (M : Nat → Nat → Int) (d g : Nat → Int) (s q : Nat) : bit n M d g (s + 1) q = if 1 ≤ q ∧ q ≤ n - 1 ∧ bit n M d g s q = -1 ∧ ltb M d (bit n M d g s) q ((s + 1 : Nat) : Int) n ≤ g q then ((s + 1 : Nat) : Int) else bit n M d g s q := by
  rw [bit_s, brd_eq (by omega)]; rfl
/-- what the rounds hold -/
theorem bit_val {n : Nat} {M : Nat → Nat → Int} {d g : Nat → Int} : ∀ s q : Nat, bit n M d g s q = -1 ∨ (0 ≤ bit n M d g s q ∧ bit n M d g s q ≤ s)
  | 0, q => by show rd0 q = -1 ∨ _; unfold rd0; by_cases e : q = 0
               · rw [if_pos e]; right; show 0 ≤ (if q = 0 then (0 : Int) else -1) ∧ (if q = 0 then (0 : Int) else -1) ≤ _; rw [if_pos e]; omega
               · rw [if_neg e]; exact Or.inl rfl
  | s + 1, q => by
    have h := bit_val (n := n) (M := M) (d := d) (g := g) s q
    rw [bit_f]; split <;> omega
theorem bit_zero {n : Nat} {M : Nat → Nat → Int} {d g : Nat → Int} : ∀ s : Nat, bit n M d g s 0 = 0
  | 0 => rfl
  | s + 1 => by rw [bit_f, if_neg (by omega)]; exact bit_zero s
/-- a round that changes nothing is the last that could -/
theorem bit_stop {n : Nat} {M : Nat → Nat → Int} {d g : Nat → Int} {s : Nat} (h : bit n M d g (s + 1) = bit n M d g s) : ∀ j, bit n M d g (s + j) = bit n M d g s
  | 0 => rfl
  | j + 1 => by
    have hj := bit_stop h j
    funext q
    show bit n M d g (s + j + 1) q = _
    rw [bit_f, hj, if_neg]
    rintro ⟨h1, h2, h3, h4⟩
    have h5 := congrFun h q
    have h6 : ltb M d (bit n M d g s) q ((s + j + 1 : Nat) : Int) n = ltb M d (bit n M d g s) q ((s + 1 : Nat) : Int) n := ltb_cong2 (fun o _ => by
      rcases bit_val (n := n) (M := M) (d := d) (g := g) s o with e | e
      · exact ⟨fun q => absurd e q.1, fun q => absurd e q.1⟩
      · exact ⟨fun q => ⟨q.1, by omega⟩, fun q => ⟨q.1, by omega⟩⟩)
    rw [h6] at h4
    rw [bit_f, if_pos ⟨h1, h2, h3, h4⟩, h3] at h5
    omega
def cntb (n : Nat) (rd : Nat → Int) : Int := gs (fun q => if rd q = -1 then 0 else 1) n
theorem cntb_le (rd : Nat → Int) : ∀ n : Nat, cntb n rd ≤ n
  | 0 => by show (0 : Int) ≤ 0; omega
  | n + 1 => by
    have h := cntb_le rd n
    show cntb n rd + (if rd n = -1 then 0 else 1) ≤ _
    split <;> omega
theorem cntb_up {n : Nat} {rd : Nat → Int} {p : Nat} {r : Int} (hp : p < n) (h : rd p = -1) (hr : r ≠ -1) : cntb n (ub rd p r) = cntb n rd + 1 := by
  unfold cntb
  have e : (fun q => if ub rd p r q = -1 then (0 : Int) else 1) = fun k => if k = p then 1 else (if rd k = -1 then 0 else 1) := by
    funext q
    by_cases e : q = p
    · subst e; rw [ub_s, if_neg hr, if_pos rfl]
    · rw [ub_n _ _ e, if_neg e]
  rw [e, gs_upd _ _ hp, if_pos h]
  omega
/-- burning at a round: enough grains there, too few the round before -/
theorem bit_inv {n : Nat} {M : Nat → Nat → Int} {d g : Nat → Int} (hst : ∀ q, 1 ≤ q → q < n → g q < d q) : ∀ s : Nat, ∀ p, 1 ≤ p → p < n →
    (bit n M d g s p = -1 → g p < ltb M d (bit n M d g s) p s n) ∧
    (bit n M d g s p ≠ -1 → ltb M d (bit n M d g s) p (bit n M d g s p) n ≤ g p ∧ g p < ltb M d (bit n M d g s) p (bit n M d g s p - 1) n)
  | 0, p, h1, h2 => by
    have h0 : bit n M d g 0 p = -1 := if_neg (by omega)
    refine ⟨fun _ => ?_, fun h => absurd h0 h⟩
    have h3 : ltb M d (bit n M d g 0) p ((0 : Nat) : Int) n = d p := by
      unfold ltb
      rw [gs_zero (fun o _ => if_neg (fun q => by
        have := bit_val (n := n) (M := M) (d := d) (g := g) 0 o
        omega))]; omega
    rw [h3]; exact hst p h1 h2
  | s + 1, p, h1, h2 => by
    obtain ⟨ha, hb⟩ := bit_inv hst s p h1 h2
    have hcs : ∀ r : Int, r ≤ ((s + 1 : Nat) : Int) → ltb M d (bit n M d g (s + 1)) p r n = ltb M d (bit n M d g s) p r n := fun r hr => ltb_cong (fun o _ => by
      rw [bit_f]
      split
      · rename_i e; exact ⟨fun q => absurd q.2 (by omega), fun q => absurd e.2.2.1 q.1⟩
      · exact Iff.rfl)
    have hv := bit_val (n := n) (M := M) (d := d) (g := g) s p
    have hf := bit_f n M d g s p
    by_cases e : 1 ≤ p ∧ p ≤ n - 1 ∧ bit n M d g s p = -1 ∧ ltb M d (bit n M d g s) p ((s + 1 : Nat) : Int) n ≤ g p
    · rw [if_pos e] at hf
      refine ⟨fun h => absurd h (by omega), fun _ => ?_⟩
      rw [hf, hcs _ (by omega), hcs _ (by omega)]
      refine ⟨e.2.2.2, ?_⟩
      rw [show ((s + 1 : Nat) : Int) - 1 = (s : Int) by omega]; exact ha e.2.2.1
    · rw [if_neg e] at hf
      refine ⟨fun h => ?_, fun h => ?_⟩
      · rw [hf] at h
        rw [hcs _ (Int.le_refl _)]
        rcases Int.lt_or_le (g p) (ltb M d (bit n M d g s) p ((s + 1 : Nat) : Int) n) with q | q
        · exact q
        · exact absurd ⟨h1, by omega, h, q⟩ e
      · rw [hf] at h ⊢
        rw [hcs _ (by omega), hcs _ (by omega)]
        exact hb h
theorem rank_rng {n : Nat} {M : Nat → Nat → Int} {d g : Nat → Int} (hst : ∀ q, 1 ≤ q → q < n → g q < d q) {s p : Nat} (h1 : 1 ≤ p) (h2 : p < n) (hb : bit n M d g s p ≠ -1) (hall : ∀ q, q < n → bit n M d g s q ≠ -1) :
    0 ≤ g p - ltb M d (bit n M d g s) p (bit n M d g s p) n ∧ g p - ltb M d (bit n M d g s) p (bit n M d g s p) n < pbk M (bit n M d g s) p n := by
  obtain ⟨h3, h4⟩ := (bit_inv hst s p h1 h2).2 hb
  have h5 : ltb M d (bit n M d g s) p (bit n M d g s p - 1) n = ltb M d (bit n M d g s) p (bit n M d g s p) n + pbk M (bit n M d g s) p n := by
    have h6 : gs (fun o => if bit n M d g s o ≠ -1 ∧ bit n M d g s o < bit n M d g s p then M p o else 0) n = gs (fun o => (if bit n M d g s o ≠ -1 ∧ bit n M d g s o < bit n M d g s p - 1 then M p o else 0) + (if bit n M d g s o = bit n M d g s p - 1 then M p o else 0)) n := gs_cong (fun o ho => by
      have h7 := hall o ho
      by_cases e1 : bit n M d g s o < bit n M d g s p - 1
      · rw [if_pos ⟨h7, by omega⟩, if_pos ⟨h7, e1⟩, if_neg (by omega)]; omega
      · rw [if_neg (c := bit n M d g s o ≠ -1 ∧ bit n M d g s o < bit n M d g s p - 1) (fun q => e1 q.2)]
        by_cases e2 : bit n M d g s o = bit n M d g s p - 1
        · rw [if_pos ⟨h7, by omega⟩, if_pos e2]; omega
        · rw [if_neg (by omega), if_neg e2]; omega)
    rw [gs_add] at h6
    unfold ltb pbk
    omega
  omega
end BurnMath
