/-! The law's rows: the script, the calls, the way back to the loop -/
theorem ClsAt.reY {ty : Nat → ClassId} {ad ad' : Nat → Nat} {ct : rm_C} {yc hc : Nat} {yn : Nat → Nat} {yM : Nat → Nat → Nat → Int} {yd : Nat → Nat → Int} {yu : Nat → Int} {hy : Nat → Nat} {hg hf : Nat → Nat → Int}
    (h : ClsAt ty ad ct yc hc yn yM yd yu hy hg hf) (hc6 : yc < 6) (ha : ∀ r, (r < 40 + 16 * yc ∨ 40 + 16 * yc + 10 < r) → ad' r = ad r) : ClsAt ty ad' ct yc hc yn yM yd yu hy hg hf := by
  obtain ⟨hb, ⟨t0, t1, t2⟩, hH, hYs, hHs, hYn, hHn⟩ := h
  have e1 : (fun i => if i < yc then some (ad' (40 + 16 * i)) else none) = (fun i => if i < yc then some (ad (40 + 16 * i)) else (none : Option Nat)) := funext fun i => by
    by_cases e : i < yc
    · rw [if_pos e, if_pos e, ha _ (by omega)]
    · rw [if_neg e, if_neg e]
  have e2 : (fun i => if i < hc then some (ad' (200 + 4 * i)) else none) = (fun i => if i < hc then some (ad (200 + 4 * i)) else (none : Option Nat)) := funext fun i => by
    rw [ha _ (by omega)]
  refine ⟨hb, ⟨?_, by rw [e1]; exact t1, by rw [e2]; exact t2⟩, hH.re (fun r hr => ha r (by omega)), fun y hy9 => (hYs y hy9).re (fun r a b => ha r (by omega)), fun k hk => ⟨(hHs k hk).1, (hHs k hk).2.re (ha _ (by have := (hHs k hk).1; omega)) (fun r a b => ha r (by omega))⟩, hYn, hHn⟩
  rw [ha 1 (by omega), ha 2 (by omega), ha 3 (by omega), ha 5 (by omega), ha 20 (by omega)]
  exact t0
section LawRows
abbrev lwA (s : State) : Nat → Prop := fun q => s.heap.size ≤ q
variable {p : Program} {l : Launch} {e : Env} {R : Room} {s : State} {m : MethodId} {args : Array Value} {below : List Frame} {meth : Method} {c : Code} {H : Heap} {locs : List Loc} {cells slots : Nat} {Q : State → Prop}
variable {cc : ByteArray} {pc : Nat} {ls : Array Slot} {rest st0 : List Value} {D : va_G} {A : Nat → Prop} {ty : Nat → ClassId} {ad : Nat → Nat} {ct : rm_C} {H0 : Heap} {a : Array Value} {mc ms : Nat}
/-- the script's int at place i -/
theorem s_ld (hexec : p.tables.exec = Jvm.exec) (hb : c.code = cc) {b L : Nat} {xs : Nat → Int32} (hX : va_X b L xs s H0) (hbl : b < H0.size) (hbA : ¬ A b) (hS : va_S A H0 H locs) (hL : L ≤ 2560) {z : Int} (i : Nat) (hz : z = (i : Int)) (hi : i < L) {x : Int} (hx : (xs i).toInt = x) (hdg : decode cc pc = .ok (.iaload, 1))
    (kk : W p l e R s m args below meth c H locs cells slots Q (F0 m (pc + 1) ls (.int (jI x) :: rest))) : W p l e R s m args below meth c H locs cells slots Q (F0 m pc ls (.int (jI z) :: .ref b :: rest)) := by
  have h1 := jI_cl hz (show i < 2147483648 by omega)
  have h2 := jI_in hz hi (show L < 2147483648 by omega)
  refine va_sld hexec hb hX hbl hbA hS h2 hdg ?_
  rw [h1, ← jI_as (xs i), hx]
  exact kk
theorem s_len (hexec : p.tables.exec = Jvm.exec) (hb : c.code = cc) {b L : Nat} {xs : Nat → Int32} (hX : va_X b L xs s H0) (hbl : b < H0.size) (hbA : ¬ A b) (hS : va_S A H0 H locs) (hdg : decode cc pc = .ok (.arraylength, 1))
    (kk : W p l e R s m args below meth c H locs cells slots Q (F0 m (pc + 1) ls (.int (jI (L : Int)) :: rest))) : W p l e R s m args below meth c H locs cells slots Q (F0 m pc ls (.ref b :: rest)) :=
  va_slen hexec hb hX hbl hbA hS hdg (by
    have h : Int32.ofNat L = jI (L : Int) := by unfold jI; rw [Int32.ofInt_eq_ofNat]
    rw [h]; exact kk)
theorem lcmp_same (hexec : p.tables.exec = Jvm.exec) (hb : c.code = cc) {v : Int64} (hdg : decode cc pc = .ok (.lcmp, 1)) (k : W p l e R s m args below meth c H locs cells slots Q (F0 m (pc + 1) ls (.int (jI 0) :: rest))) : W p l e R s m args below meth c H locs cells slots Q (F0 m pc ls (.long v :: .long v :: rest)) := W.lcmp hexec hb hdg (by
  have h : lg_cmp v v = jI 0 := by
    unfold lg_cmp
    simp
    rfl
  rw [h]
  exact k)
theorem jL_bits (v : Int64) : ∃ tr : Nat, tr < 18446744073709551616 ∧ v = jL (tr : Int) := by
  refine ⟨v.toBitVec.toNat, v.toBitVec.isLt, ?_⟩
  unfold jL
  rw [Int64.ofInt_eq_ofNat]
  exact (Int64.ofNat_bitVecToNat _).symm.trans rfl
/-- a call with the class's part of the world -/
theorem fc_i {post : Int → rm_C → Prop} (hr : va_Run p l e R s m args below meth c H locs cells slots mc ms (F0 m pc ls st0) rest (rm_Qi D ad (cutC ct) H.size post a) (rm_A ad (cutC ct) H.size)) (hW : rm_W D ad ct A H) (hS : va_S A H0 H locs) (hA : ∀ q, H0.size ≤ q → A q)
    (kk : ∀ (z : Int) (c1 : rm_C) (H1 : Heap) (locs1 : List Loc), post z c1 → rm_W D ad (glue c1 ct) A H1 → va_S A H0 H1 locs1 → W p l e R s m args below meth c H1 locs1 (cells + mc) (slots + ms) Q (F0 m (pc + 3) ls (.int (jI z) :: rest))) : W p l e R s m args below meth c H locs cells slots Q (F0 m pc ls st0) :=
  va_calli hr hS (fun q _ h => hW.sub hS hA q (cutA h)) (fun q h => hW.sub hS hA q (cutA h)) (fun r u t H1 locs1 ht hvm hp hB hz1 hk1 hS1 => by
    rw [hp.1]
    rw [ht] at hB
    exact kk u.1 u.2 H1 locs1 hp.2 (glueW hW hB hk1 (fun q h => hW.sub hS hA q (cutA h)) (fun _ _ => rfl)) hS1)
end LawRows
/-- what holds all along the law -/
def LC (p : Program) (l : Launch) (s : State) (m : MethodId) (meth : Method) (c : Code) (b L : Nat) (xs : Nat → Int32) (D : va_G) (ty : Nat → ClassId) : Prop :=
  lw_At p s m meth c b L xs ∧ l.stackTraces = false ∧ va_K D vwCl (rm_tys ty) s ∧ rm_N s ∧ rm_E s ∧ rm_X2 s ∧ rm_U (lwA s) s s.heap
/-- from the loop's head on, with j calls done -/
def LawK (p : Program) (l : Launch) (e : Env) (s : State) (m : MethodId) (below : List Frame) (meth : Method) (c : Code) (b : Nat) (D : va_G) (ty : Nat → ClassId) (j : Nat) : Prop :=
  ∀ (ad : Nat → Nat) (ct : rm_C) (th : Int) (o : Nat → Int) (H : Heap) (locs : List Loc) (ls : Array Slot), lwGo ty ad ct j th o → rm_W D ad ct (lwA s) H → va_S (lwA s) s.heap H locs → lv_has ls 8 [(0, .ref b), (1, .ref (ad 0)), (2, .ref (ad 1000)), (3, .ref (ad 2000)), (4, .int (jI (5 * (j : Int))))] →
    W p l e room_1 s m #[Value.ref b] below meth c H locs (60 + 20 * j) (1300 + 200 * j) (lw_Z below #[Value.ref b] s) (F0 m 23 ls [])
theorem law_tail {p : Program} {l : Launch} {e : Env} {s : State} {m : MethodId} {below : List Frame} {meth : Method} {c : Code} {b L : Nat} {xs : Nat → Int32} {D : va_G} {ty : Nat → ClassId} (hC : LC p l s m meth c b L xs D ty) {j : Nat} (hn : LawK p l e s m below meth c b D ty (j + 1)) {ad : Nat → Nat} {ct : rm_C} {th : Int} {o : Nat → Int} {H : Heap} {locs : List Loc} {ls : Array Slot} {cells slots : Nat} (hc : cells ≤ 60 + 20 * (j + 1)) (hs : slots ≤ 1300 + 200 * (j + 1)) (hG : lwGo ty ad ct (j + 1) th o) (hW : rm_W D ad ct (lwA s) H) (hS : va_S (lwA s) s.heap H locs)
    (hl : lv_has ls 8 [(0, .ref b), (1, .ref (ad 0)), (2, .ref (ad 1000)), (3, .ref (ad 2000)), (4, .int (jI (5 * (j : Int))))]) : W p l e room_1 s m #[Value.ref b] below meth c H locs cells slots (lw_Z below #[Value.ref b] s) (F0 m 1608 ls []) := by
  obtain ⟨⟨hx, hb, hr, hml, hown, htb, hX, hbl, hlocks, hgv⟩, hlf, hK, hNw, hE, hX2, hU⟩ := hC
  refine lv_iinc (v := jI (5 * (((j + 1 : Nat) : Int)))) (lv' := [(4, .int (jI (5 * (((j + 1 : Nat) : Int))))), (0, .ref b), (1, .ref (ad 0)), (2, .ref (ad 1000)), (3, .ref (ad 2000))]) hx hb dL_law_1608 hl (k := 4) rfl ((jI_add _ _).trans (congrArg jI (by omega))) (by decide) rfl (fun ls hl => ?_)
  refine lv_goto (tgt := 23) hx hb dL_law_1611 (by decide) ?_
  refine W.widen hc hs ?_
  exact hn ad ct th o H locs ls hG hW hS (lv_sub hl [1, 2, 3, 4, 0] rfl)
