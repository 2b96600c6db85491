/-! what the roles of a yard hold; pictures of its methods -/
section StateYard
/-- a yard of n places: paths M, degrees d, fixed u; its object at role yr, the outer row behind it, 8 rows, the degrees -/
def YardAt (ty : Nat → ClassId) (ad : Nat → Nat) (ct : rm_C) (yr n : Nat) (M : Nat → Nat → Int) (d : Nat → Int) (u : Int) : Prop :=
  ct yr = some (.inr (4, [.int (jI ((n : Nat) : Int)), .ref (ad (yr + 1)), .ref (ad (yr + 10)), .int (jI u)])) ∧
  ct (yr + 1) = some (rq ty 5 8 (fun i => if i < 8 then some (ad (yr + 1 + 1 + i)) else none)) ∧
  (∀ i, i < 8 → ct (yr + 1 + 1 + i) = some (ri ty 8 (M i))) ∧
  ct (yr + 10) = some (ri ty 8 d)
theorem YardAt.kept {ty : Nat → ClassId} {ad : Nat → Nat} {ct ct1 : rm_C} {yr n : Nat} {M : Nat → Nat → Int} {d : Nat → Int} {u : Int} (h : YardAt ty ad ct yr n M d u) (ho : ∀ q, yr ≤ q → q ≤ yr + 10 → ct1 q = ct q) : YardAt ty ad ct1 yr n M d u :=
  ⟨(ho _ (by omega) (by omega)).trans h.1, (ho _ (by omega) (by omega)).trans h.2.1, fun i hi => (ho _ (by omega) (by omega)).trans (h.2.2.1 i hi), (ho _ (by omega) (by omega)).trans h.2.2.2⟩
/-- grains behind t toppings of p, as far as its paths to the places below i -/
def fel (i : Nat) (M : Nat → Nat → Int) (d g : Nat → Int) (p : Nat) (t : Int) : Nat → Int := fun q => (if q = p then g q - t * d p else g q) + (if q < i then t * M p q else 0)
theorem fel_0 (M : Nat → Nat → Int) (d g : Nat → Int) (p : Nat) (t : Int) : ub g p (g p - t * d p) = fel 0 M d g p t := by
  funext q
  unfold fel ub
  by_cases e : q = p
  · subst e; simp
  · simp [e]
theorem fel_s (M : Nat → Nat → Int) (d g : Nat → Int) (p : Nat) (t : Int) (i : Nat) : ub (fel i M d g p t) i (fel i M d g p t i + t * M p i) = fel (i + 1) M d g p t := by
  funext q
  unfold ub
  by_cases e : q = i
  · subst e
    rw [if_pos rfl]
    unfold fel
    rw [if_neg (show ¬ q < q by omega), if_pos (show q < q + 1 by omega)]
    omega
  · rw [if_neg e]
    unfold fel
    by_cases h : q < i
    · rw [if_pos h, if_pos (show q < i + 1 by omega)]
    · rw [if_neg h, if_neg (show ¬ q < i + 1 by omega)]
/-- how often a place is due to topple -/
def due (d g : Nat → Int) (p : Nat) : Int := if d p ≤ 0 then 0 else (g p).tdiv (d p)
end StateYard
section RmMore
variable {p : Program} {l : Launch} {e : Env} {R : Room} {s : State} {m : MethodId} {args : Array Value} {below : List Frame} {meth : Method} {c : Code} {H : Heap} {locs : List Loc} {cells slots : Nat} {Q : State → Prop}
variable {cc : ByteArray} {pc : Nat} {ls : Array Slot} {rest : List Value} {D : va_G} {A : Nat → Prop} {ty : Nat → ClassId} {ad : Nat → Nat} {ct : rm_C} {H0 : Heap}
theorem rm_alen (hexec : p.tables.exec = Jvm.exec) (hb : c.code = cc) (hK : va_K D vwCl (rm_tys ty) s) (hW : rm_W D ad ct A H) {r k n : Nat} {x : (Nat → Int32) ⊕ (Nat → Int64) ⊕ (Nat → UInt32) ⊕ (Nat → UInt64) ⊕ (Nat → Option Nat)} {e0 : va_E} (hr : ct r = some e0) (he : e0 = .inl (ty k, n, x)) {fty : FieldType} (hk : (rm_tys ty)[k]? = some (ty k, fty)) (hdg : decode cc pc = .ok (.arraylength, 1))
    (kk : W p l e R s m args below meth c H locs cells slots Q (F0 m (pc + 1) ls (.int (jI ((n : Nat) : Int)) :: rest))) : W p l e R s m args below meth c H locs cells slots Q (F0 m pc ls (.ref (ad r) :: rest)) := by
  subst he
  exact va_alen hexec hb hK (hW.P hr) 0 k (x := (n, x)) rfl hk (v := jI ((n : Nat) : Int)) (jI_nI n) hdg kk
theorem rm_canon (hW : rm_W D ad ct A H) {r : Nat} {e e' : va_E} (hr : ct r = some e) (he : ∀ a, va_at D vwCl (a, e) H → va_at D vwCl (a, e') H) : ∃ ct1 : rm_C, ct1 r = some e' ∧ (∀ q, q ≠ r → ct1 q = ct q) ∧ rm_W D ad ct1 A H :=
  ⟨rm_up ct r e', rm_up_s _ _ _, fun q hq => rm_up_n _ _ hq, hW.set hr (he _ (hW.1 r e hr).1) (fun _ _ => rfl)⟩
theorem arrV_cong {cA : ClassId} {n : Nat} {f g : Nat → Value} (h : ∀ j, j < n → f j = g j) : arrV cA n f = arrV cA n g := by
  unfold arrV
  congr 1
  first | (apply Array.ext <;> simp <;> (intros; apply h; omega)) | (congr 1; apply List.map_congr_left; intro j hj; exact h j (List.mem_range.mp hj))
theorem rm_canon_l (hW : rm_W D ad ct A H) {r n : Nat} {f g : Nat → Int} (hr : ct r = some (rl ty n f)) (h : ∀ j, j < n → f j = g j) : ∃ ct1 : rm_C, ct1 r = some (rl ty n g) ∧ (∀ q, q ≠ r → ct1 q = ct q) ∧ rm_W D ad ct1 A H := rm_canon hW hr (fun a ha => by
  show H[a]? = some (vp_cell (ty 1) (n, .inr (.inl (fun j => jL (g j)))))
  rw [vp_cell_l, ← arrV_cong (f := fun j => Value.long (jL (f j))) (fun j hj => by rw [h j hj])]
  exact ha)
theorem rm_canon_i (hW : rm_W D ad ct A H) {r n : Nat} {f g : Nat → Int} (hr : ct r = some (ri ty n f)) (h : ∀ j, j < n → f j = g j) : ∃ ct1 : rm_C, ct1 r = some (ri ty n g) ∧ (∀ q, q ≠ r → ct1 q = ct q) ∧ rm_W D ad ct1 A H := rm_canon hW hr (fun a ha => by
  show H[a]? = some (vp_cell (ty 0) (n, .inl (fun j => jI (g j))))
  rw [vp_cell_i, ← arrV_cong (f := fun j => Value.int (jI (f j))) (fun j hj => by rw [h j hj])]
  exact ha)
theorem rm_preI (hK : va_K D vwCl (rm_tys ty) s) (hN : rm_N s) (hW : rm_W D ad ct A H) {As : List Value} : PreS s H (rm_P D ty ad ct H.size As) As := rm_preS hK hN hW
end RmMore
