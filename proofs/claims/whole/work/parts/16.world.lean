abbrev vwCl : List vw_C := [(RX0, TX0, 1), (RX1, TX1, 3), (RX2, TX2, 6), (RX3, TX3, 5), (RX4, TX4, 4), (RX5, TX5, 7), (RX6, TX6, 19)]
/-! the world by roles: a role has an address (ad) and, once it is made, a content (ct); numbers are told as whole numbers (jI, jL) -/
section RmNums
def jI (z : Int) : Int32 := Int32.ofInt z
def jL (z : Int) : Int64 := Int64.ofInt z
abbrev r32 (z : Int) : Prop := -2147483648 ≤ z ∧ z < 2147483648
abbrev r64 (z : Int) : Prop := -9223372036854775808 ≤ z ∧ z < 9223372036854775808
theorem jI_toInt {z : Int} (h : r32 z) : (jI z).toInt = z := by
  obtain ⟨h1, h2⟩ := h
  unfold jI
  rw [Int32.toInt_ofInt, show ((Int32.size : Nat) : Nat) = 4294967296 from rfl, Int.bmod_eq_of_le (by omega) (by omega)]
theorem jL_toInt {z : Int} (h : r64 z) : (jL z).toInt = z := by
  obtain ⟨h1, h2⟩ := h
  unfold jL
  rw [Int64.toInt_ofInt, show ((Int64.size : Nat) : Nat) = 18446744073709551616 from rfl, Int.bmod_eq_of_le (by omega) (by omega)]
theorem jI_as (x : Int32) : jI x.toInt = x := Int32.ofInt_toInt x
theorem jL_as (x : Int64) : jL x.toInt = x := Int64.ofInt_toInt x
theorem jI_rng (x : Int32) : r32 x.toInt := by
  have h1 := Int32.le_toInt x
  have h2 := Int32.toInt_lt x
  exact ⟨by omega, by omega⟩
theorem jL_rng (x : Int64) : r64 x.toInt := by
  have h1 := Int64.le_toInt x
  have h2 := Int64.toInt_lt x
  exact ⟨by omega, by omega⟩
theorem jI_add (a b : Int) : jI a + jI b = jI (a + b) := (Int32.ofInt_add _ _).symm
theorem jI_sub (a b : Int) : jI a - jI b = jI (a - b) := (Int32.ofInt_sub _ _).symm
theorem jI_mul (a b : Int) : jI a * jI b = jI (a * b) := (Int32.ofInt_mul _ _).symm
theorem jI_neg (a : Int) : - jI a = jI (-a) := (Int32.ofInt_neg a).symm
theorem jL_add (a b : Int) : jL a + jL b = jL (a + b) := (Int64.ofInt_add _ _).symm
theorem jL_sub (a b : Int) : jL a - jL b = jL (a - b) := (Int64.ofInt_sub _ _).symm
theorem jL_mul (a b : Int) : jL a * jL b = jL (a * b) := (Int64.ofInt_mul _ _).symm
theorem jL_neg (a : Int) : - jL a = jL (-a) := (Int64.ofInt_neg a).symm
theorem jI_nI (n : Nat) : nI n = jI n := by
  unfold nI jI
  rw [Int32.ofInt_eq_ofNat]
theorem jI_inj {a b : Int} (ha : r32 a) (hb : r32 b) : jI a = jI b ↔ a = b := ⟨fun h => by rw [← jI_toInt ha, ← jI_toInt hb, h], fun h => by rw [h]⟩
theorem jL_inj {a b : Int} (ha : r64 a) (hb : r64 b) : jL a = jL b ↔ a = b := ⟨fun h => by rw [← jL_toInt ha, ← jL_toInt hb, h], fun h => by rw [h]⟩
theorem jI_lt {a b : Int} (ha : r32 a) (hb : r32 b) : jI a < jI b ↔ a < b := by rw [Int32.lt_iff_toInt_lt, jI_toInt ha, jI_toInt hb]
theorem jI_le {a b : Int} (ha : r32 a) (hb : r32 b) : jI a ≤ jI b ↔ a ≤ b := by rw [Int32.le_iff_toInt_le, jI_toInt ha, jI_toInt hb]
theorem jL_lt {a b : Int} (ha : r64 a) (hb : r64 b) : jL a < jL b ↔ a < b := by rw [Int64.lt_iff_toInt_lt, jL_toInt ha, jL_toInt hb]
theorem jI_z : (0 : Int32) = jI 0 := rfl
theorem jL_z : (0 : Int64) = jL 0 := rfl
theorem r32_0 : r32 0 := by constructor <;> omega
theorem r64_0 : r64 0 := by constructor <;> omega
theorem jL_div {a b : Int} (ha : r64 a) (hb : r64 b) : jL a / jL b = jL (a.tdiv b) := by
  unfold jL
  rw [Int64.ofInt_tdiv] <;> first | exact ha.1 | exact hb.1 | (have := ha.2; show a ≤ 9223372036854775807; omega) | (have := hb.2; show b ≤ 9223372036854775807; omega)
theorem jI_div {a b : Int} (ha : r32 a) (hb : r32 b) : jI a / jI b = jI (a.tdiv b) := by
  unfold jI
  rw [Int32.ofInt_tdiv] <;> first | exact ha.1 | exact hb.1 | (have := ha.2; show a ≤ 2147483647; omega) | (have := hb.2; show b ≤ 2147483647; omega)
theorem jL_rem {a b : Int} (ha : r64 a) (hb : r64 b) : jL a - jL a / jL b * jL b = jL (a.tmod b) := by
  rw [jL_div ha hb, jL_mul, jL_sub, Int.tmod_def, Int.mul_comm]
theorem jI_rem {a b : Int} (ha : r32 a) (hb : r32 b) : jI a - jI a / jI b * jI b = jI (a.tmod b) := by
  rw [jI_div ha hb, jI_mul, jI_sub, Int.tmod_def, Int.mul_comm]
theorem jI_toL {a : Int} (h : r32 a) : (jI a).toInt64 = jL a := by
  apply Int64.toInt_inj.mp
  rw [Int32.toInt_toInt64, jI_toInt h, jL_toInt ⟨by have := h.1; omega, by have := h.2; omega⟩]
theorem jL_toI (a : Int) : (jL a).toInt32 = jI a := by
  unfold jL jI
  exact Int64.toInt32_ofInt
theorem jI_in {z : Int} {j n : Nat} (hz : z = (j : Int)) (hj : j < n) (hn : n < 2147483648) : vp_in (jI z) n := by
  subst hz
  rw [← jI_nI]
  exact vp_in_nI hj (by omega)
theorem jI_cl {z : Int} {j : Nat} (hz : z = (j : Int)) (hj : j < 2147483648) : (jI z).toNatClampNeg = j := by
  subst hz
  rw [← jI_nI]
  exact nI_clamp (by omega)
theorem jI_n0 {n : Nat} (hn : n < 2147483648) : ¬ jI n < 0 := by
  rw [jI_z, jI_lt ⟨by omega, by omega⟩ r32_0]; omega
/-- u, but x at p -/
def ub {α : Type} (u : Nat → α) (p : Nat) (x : α) : Nat → α := fun q => if q = p then x else u q
theorem ub_s {α : Type} (u : Nat → α) (p : Nat) (x : α) : ub u p x p = x := if_pos rfl
theorem ub_n {α : Type} (u : Nat → α) {p q : Nat} (x : α) (h : q ≠ p) : ub u p x q = u q := if_neg h
theorem ub_ub {α : Type} (u : Nat → α) (p : Nat) (x y : α) : ub (ub u p x) p y = ub u p y := by
  funext q; by_cases e : q = p <;> simp [ub, e]
theorem ub_self {α : Type} (u : Nat → α) (p : Nat) : ub u p (u p) = u := by
  funext q; by_cases e : q = p <;> simp [ub, e]
end RmNums
section RmWorld
abbrev rm_C : Type := Nat → Option va_E
/-- rows of ints, longs, truths, references -/
def ri (ty : Nat → ClassId) (n : Nat) (f : Nat → Int) : va_E := .inl (ty 0, n, .inl (fun j => jI (f j)))
def rl (ty : Nat → ClassId) (n : Nat) (f : Nat → Int) : va_E := .inl (ty 1, n, .inr (.inl (fun j => jL (f j))))
def rz (ty : Nat → ClassId) (n : Nat) (f : Nat → Int) : va_E := .inl (ty 2, n, .inl (fun j => jI (f j)))
def rq (ty : Nat → ClassId) (k : Nat) (n : Nat) (f : Nat → Option Nat) : va_E := .inl (ty k, n, .inr (.inr (.inr (.inr f))))
def rm_tys (ty : Nat → ClassId) : List (ClassId × FieldType) := [(ty 0, .int), (ty 1, .long), (ty 2, .boolean), (ty 3, .object "GrainYard$Yard"), (ty 4, .object "GrainYard$Heap"), (ty 5, .array .int), (ty 6, .array .long)]
def rm_up (ct : rm_C) (r : Nat) (e : va_E) : rm_C := fun q => if q = r then some e else ct q
theorem rm_up_s (ct : rm_C) (r : Nat) (e : va_E) : rm_up ct r e r = some e := if_pos rfl
theorem rm_up_n (ct : rm_C) {r q : Nat} (e : va_E) (h : q ≠ r) : rm_up ct r e q = ct q := if_neg h
def rm_W (D : va_G) (ad : Nat → Nat) (ct : rm_C) (A : Nat → Prop) (H : Heap) : Prop :=
  (∀ r e, ct r = some e → va_at D vwCl (ad r, e) H ∧ A (ad r)) ∧ ∀ r r' e e', ct r = some e → ct r' = some e' → ad r = ad r' → r = r'
/-- what a method may change: its world, and what it makes -/
def rm_A (ad : Nat → Nat) (ct : rm_C) (sz : Nat) : Nat → Prop := fun q => (∃ r e, ct r = some e ∧ q = ad r) ∨ sz ≤ q
variable {D : va_G} {ad : Nat → Nat} {ct : rm_C} {A : Nat → Prop} {H H1 : Heap}
theorem rm_W.P (h : rm_W D ad ct A H) {r : Nat} {e : va_E} (hc : ct r = some e) : va_P D vwCl [(ad r, e)] H := by
  intro k q hk
  have h0 : k < 1 := (List.getElem?_eq_some_iff.mp hk).1
  rw [show k = 0 by omega] at hk
  cases hk
  exact (h.1 r e hc).1
theorem rm_W.lt (h : rm_W D ad ct A H) {r : Nat} {e : va_E} (hc : ct r = some e) : ad r < H.size := ((h.1 r e hc).1).lt
theorem rm_W.set (h : rm_W D ad ct A H) {r : Nat} {e0 e : va_E} (hc : ct r = some e0) (he : va_at D vwCl (ad r, e) H1) (oq : ∀ q : Nat, q ≠ ad r → H1[q]? = H[q]?) : rm_W D ad (rm_up ct r e) A H1 := by
  have pre : ∀ q e', rm_up ct r e q = some e' → ∃ e'', ct q = some e'' := fun q e' hq => by
    by_cases k : q = r
    · subst k; exact ⟨e0, hc⟩
    · rw [rm_up_n _ _ k] at hq; exact ⟨e', hq⟩
  refine ⟨fun q e' hq => ?_, fun q q' e1 e2 h1 h2 hh => ?_⟩
  · by_cases k : q = r
    · subst k
      rw [rm_up_s] at hq
      cases hq
      exact ⟨he, (h.1 q e0 hc).2⟩
    · rw [rm_up_n _ _ k] at hq
      obtain ⟨g1, g2⟩ := h.1 q e' hq
      exact ⟨g1.kept (oq _ (fun w => k (h.2 q r e' e0 hq hc w))), g2⟩
  · obtain ⟨f1, w1⟩ := pre _ _ h1
    obtain ⟨f2, w2⟩ := pre _ _ h2
    exact h.2 q q' f1 f2 w1 w2 hh
theorem rm_W.new (h : rm_W D ad ct A H) {r : Nat} {e : va_E} (hc : ct r = none) (hr : ad r = H.size) (hA : A (ad r)) (he : va_at D vwCl (ad r, e) H1) (oq : ∀ q : Nat, q < H.size → H1[q]? = H[q]?) : rm_W D ad (rm_up ct r e) A H1 := by
  refine ⟨fun q e' hq => ?_, fun q q' e1 e2 h1 h2 hh => ?_⟩
  · by_cases k : q = r
    · subst k
      rw [rm_up_s] at hq
      cases hq
      exact ⟨he, hA⟩
    · rw [rm_up_n _ _ k] at hq
      obtain ⟨g1, g2⟩ := h.1 q e' hq
      exact ⟨g1.kept (oq _ (h.lt hq)), g2⟩
  · by_cases k : q = r
    · by_cases k' : q' = r
      · rw [k, k']
      · rw [rm_up_n _ _ k'] at h2
        have := h.lt h2
        rw [← hh, k, hr] at this
        omega
    · rw [rm_up_n _ _ k] at h1
      by_cases k' : q' = r
      · have := h.lt h1
        rw [hh, k', hr] at this
        omega
      · rw [rm_up_n _ _ k'] at h2
        exact h.2 q q' e1 e2 h1 h2 hh
/-- other addresses for roles that are not made yet -/
theorem rm_W.re (h : rm_W D ad ct A H) {ad' : Nat → Nat} (ha : ∀ r e, ct r = some e → ad' r = ad r) : rm_W D ad' ct A H := by
  refine ⟨fun r e hr => by rw [ha r e hr]; exact h.1 r e hr, fun r r' e e' h1 h2 hh => h.2 r r' e e' h1 h2 (by rw [← ha r e h1, ← ha r' e' h2]; exact hh)⟩
theorem rm_W.own (h : rm_W D ad ct A H) {sz : Nat} : rm_W D ad ct (rm_A ad ct sz) H := ⟨fun r e hr => ⟨(h.1 r e hr).1, Or.inl ⟨r, e, hr, rfl⟩⟩, h.2⟩
theorem rm_W.any (h : rm_W D ad ct A H) : rm_W D ad ct (fun _ => True) H := ⟨fun r e hr => ⟨(h.1 r e hr).1, trivial⟩, h.2⟩
theorem rm_W.to (h : rm_W D ad ct A H) {B : Nat → Prop} (hB : ∀ q, A q → B q) : rm_W D ad ct B H := ⟨fun r e hr => ⟨(h.1 r e hr).1, hB _ (h.1 r e hr).2⟩, h.2⟩
theorem rm_W.sub (h : rm_W D ad ct A H) {H0 : Heap} {locs : List Loc} (hS : va_S A H0 H locs) (hA : ∀ q : Nat, H0.size ≤ q → A q) : ∀ q, rm_A ad ct H.size q → A q := by
  intro q hq
  rcases hq with ⟨r, e, h1, rfl⟩ | h1
  · exact (h.1 r e h1).2
  · exact hA q (Nat.le_trans hS.1 h1)
end RmWorld
section RmRows
variable {p : Program} {l : Launch} {e : Env} {R : Room} {s : State} {m : MethodId} {args : Array Value} {below : List Frame} {meth : Method} {c : Code} {H : Heap} {locs : List Loc} {cells slots : Nat} {Q : State → Prop}
variable {cc : ByteArray} {pc : Nat} {ls : Array Slot} {rest : List Value} {D : va_G} {A : Nat → Prop} {ty : Nat → ClassId} {ad : Nat → Nat} {ct : rm_C} {H0 : Heap}
theorem rm_iadd (hexec : p.tables.exec = Jvm.exec) (hb : c.code = cc) {a b : Int} (hdg : decode cc pc = .ok (.iadd, 1)) (k : W p l e R s m args below meth c H locs cells slots Q (F0 m (pc + 1) ls (.int (jI (a + b)) :: rest))) : W p l e R s m args below meth c H locs cells slots Q (F0 m pc ls (.int (jI b) :: .int (jI a) :: rest)) := lv_iadd hexec hb hdg (by rw [jI_add]; exact k)
theorem rm_isub (hexec : p.tables.exec = Jvm.exec) (hb : c.code = cc) {a b : Int} (hdg : decode cc pc = .ok (.isub, 1)) (k : W p l e R s m args below meth c H locs cells slots Q (F0 m (pc + 1) ls (.int (jI (a - b)) :: rest))) : W p l e R s m args below meth c H locs cells slots Q (F0 m pc ls (.int (jI b) :: .int (jI a) :: rest)) := lv_isub hexec hb hdg (by rw [jI_sub]; exact k)
theorem rm_imul (hexec : p.tables.exec = Jvm.exec) (hb : c.code = cc) {a b : Int} (hdg : decode cc pc = .ok (.imul, 1)) (k : W p l e R s m args below meth c H locs cells slots Q (F0 m (pc + 1) ls (.int (jI (a * b)) :: rest))) : W p l e R s m args below meth c H locs cells slots Q (F0 m pc ls (.int (jI b) :: .int (jI a) :: rest)) := lv_imul hexec hb hdg (by rw [jI_mul]; exact k)
theorem rm_ineg (hexec : p.tables.exec = Jvm.exec) (hb : c.code = cc) {a : Int} (hdg : decode cc pc = .ok (.ineg, 1)) (k : W p l e R s m args below meth c H locs cells slots Q (F0 m (pc + 1) ls (.int (jI (-a)) :: rest))) : W p l e R s m args below meth c H locs cells slots Q (F0 m pc ls (.int (jI a) :: rest)) := lv_ineg hexec hb hdg (by rw [jI_neg]; exact k)
theorem rm_irem (hexec : p.tables.exec = Jvm.exec) (hb : c.code = cc) {a b : Int} (hdg : decode cc pc = .ok (.irem, 1)) (ha : r32 a) (hb2 : r32 b) (h0 : b ≠ 0) (k : W p l e R s m args below meth c H locs cells slots Q (F0 m (pc + 1) ls (.int (jI (a.tmod b)) :: rest))) : W p l e R s m args below meth c H locs cells slots Q (F0 m pc ls (.int (jI b) :: .int (jI a) :: rest)) := lv_irem hexec hb hdg (fun q => h0 ((jI_inj hb2 r32_0).mp q)) (by rw [jI_rem ha hb2]; exact k)
theorem rm_ladd (hexec : p.tables.exec = Jvm.exec) (hb : c.code = cc) {a b : Int} (hdg : decode cc pc = .ok (.ladd, 1)) (k : W p l e R s m args below meth c H locs cells slots Q (F0 m (pc + 1) ls (.long (jL (a + b)) :: rest))) : W p l e R s m args below meth c H locs cells slots Q (F0 m pc ls (.long (jL b) :: .long (jL a) :: rest)) := lv_ladd hexec hb hdg (by rw [jL_add]; exact k)
theorem rm_lsub (hexec : p.tables.exec = Jvm.exec) (hb : c.code = cc) {a b : Int} (hdg : decode cc pc = .ok (.lsub, 1)) (k : W p l e R s m args below meth c H locs cells slots Q (F0 m (pc + 1) ls (.long (jL (a - b)) :: rest))) : W p l e R s m args below meth c H locs cells slots Q (F0 m pc ls (.long (jL b) :: .long (jL a) :: rest)) := lv_lsub hexec hb hdg (by rw [jL_sub]; exact k)
theorem rm_lmul (hexec : p.tables.exec = Jvm.exec) (hb : c.code = cc) {a b : Int} (hdg : decode cc pc = .ok (.lmul, 1)) (k : W p l e R s m args below meth c H locs cells slots Q (F0 m (pc + 1) ls (.long (jL (a * b)) :: rest))) : W p l e R s m args below meth c H locs cells slots Q (F0 m pc ls (.long (jL b) :: .long (jL a) :: rest)) := lv_lmul hexec hb hdg (by rw [jL_mul]; exact k)
theorem rm_lneg (hexec : p.tables.exec = Jvm.exec) (hb : c.code = cc) {a : Int} (hdg : decode cc pc = .ok (.lneg, 1)) (k : W p l e R s m args below meth c H locs cells slots Q (F0 m (pc + 1) ls (.long (jL (-a)) :: rest))) : W p l e R s m args below meth c H locs cells slots Q (F0 m pc ls (.long (jL a) :: rest)) := lv_lneg hexec hb hdg (by rw [jL_neg]; exact k)
theorem rm_ldiv (hexec : p.tables.exec = Jvm.exec) (hb : c.code = cc) {a b : Int} (hdg : decode cc pc = .ok (.ldiv, 1)) (ha : r64 a) (hb2 : r64 b) (h0 : b ≠ 0) (k : W p l e R s m args below meth c H locs cells slots Q (F0 m (pc + 1) ls (.long (jL (a.tdiv b)) :: rest))) : W p l e R s m args below meth c H locs cells slots Q (F0 m pc ls (.long (jL b) :: .long (jL a) :: rest)) := lv_ldiv hexec hb hdg (fun q => h0 ((jL_inj hb2 r64_0).mp q)) (by rw [jL_div ha hb2]; exact k)
theorem rm_lrem (hexec : p.tables.exec = Jvm.exec) (hb : c.code = cc) {a b : Int} (hdg : decode cc pc = .ok (.lrem, 1)) (ha : r64 a) (hb2 : r64 b) (h0 : b ≠ 0) (k : W p l e R s m args below meth c H locs cells slots Q (F0 m (pc + 1) ls (.long (jL (a.tmod b)) :: rest))) : W p l e R s m args below meth c H locs cells slots Q (F0 m pc ls (.long (jL b) :: .long (jL a) :: rest)) := lv_lrem hexec hb hdg (fun q => h0 ((jL_inj hb2 r64_0).mp q)) (by rw [jL_rem ha hb2]; exact k)
theorem rm_i2l (hexec : p.tables.exec = Jvm.exec) (hb : c.code = cc) {a : Int} (hdg : decode cc pc = .ok (.i2l, 1)) (ha : r32 a) (k : W p l e R s m args below meth c H locs cells slots Q (F0 m (pc + 1) ls (.long (jL a) :: rest))) : W p l e R s m args below meth c H locs cells slots Q (F0 m pc ls (.int (jI a) :: rest)) := lv_i2l hexec hb hdg (jI_toL ha) k
theorem rm_l2i (hexec : p.tables.exec = Jvm.exec) (hb : c.code = cc) {a : Int} (hdg : decode cc pc = .ok (.l2i, 1)) (k : W p l e R s m args below meth c H locs cells slots Q (F0 m (pc + 1) ls (.int (jI a) :: rest))) : W p l e R s m args below meth c H locs cells slots Q (F0 m pc ls (.long (jL a) :: rest)) := lv_l2i hexec hb hdg (jL_toI a) k
theorem rm_ldc (hexec : p.tables.exec = Jvm.exec) (hb : c.code = cc) {own : String} {index : Nat} {v : Int32} {z : Int} (hown : s.vm.findClass own = some m.cls) (hconst : (Jvm.Cond.constant own index v).before args s = true) (hv : v = jI z) (hdg : decode cc pc = .ok (.ldc index, 2)) (k : W p l e R s m args below meth c H locs cells slots Q (F0 m (pc + 2) ls (.int (jI z) :: rest))) : W p l e R s m args below meth c H locs cells slots Q (F0 m pc ls rest) := lv_ldc hexec hb hown hconst hdg (by rw [hv]; exact k)
theorem rm_ldc2 (hexec : p.tables.exec = Jvm.exec) (hb : c.code = cc) {own : String} {index : Nat} {v : Int64} {z : Int} (hown : s.vm.findClass own = some m.cls) (hconst : (Jvm.Cond.constantLong own index v).before args s = true) (hv : v = jL z) (hdg : decode cc pc = .ok (.ldc2_w index, 3)) (k : W p l e R s m args below meth c H locs cells slots Q (F0 m (pc + 3) ls (.long (jL z) :: rest))) : W p l e R s m args below meth c H locs cells slots Q (F0 m pc ls rest) := lv_ldc2 hexec hb hown hconst hdg (by rw [hv]; exact k)
-- branches
theorem rm_if_eq (hexec : p.tables.exec = Jvm.exec) (hb : c.code = cc) {a : Int} (ha : r32 a) {off : Int} {tgt : Nat} (hdg : decode cc pc = .ok (.ifCond .eq off, 3)) (ht : (pc : Int) + off = (tgt : Int)) (kt : a = 0 → W p l e R s m args below meth c H locs cells slots Q (F0 m tgt ls rest)) (kf : a ≠ 0 → W p l e R s m args below meth c H locs cells slots Q (F0 m (pc + 3) ls rest)) : W p l e R s m args below meth c H locs cells slots Q (F0 m pc ls (.int (jI a) :: rest)) := lv_if_eq hexec hb hdg ht (fun q => kt ((jI_inj ha r32_0).mp q)) (fun q => kf (fun z => q ((jI_inj ha r32_0).mpr z)))
theorem rm_if_ne (hexec : p.tables.exec = Jvm.exec) (hb : c.code = cc) {a : Int} (ha : r32 a) {off : Int} {tgt : Nat} (hdg : decode cc pc = .ok (.ifCond .ne off, 3)) (ht : (pc : Int) + off = (tgt : Int)) (kt : a ≠ 0 → W p l e R s m args below meth c H locs cells slots Q (F0 m tgt ls rest)) (kf : a = 0 → W p l e R s m args below meth c H locs cells slots Q (F0 m (pc + 3) ls rest)) : W p l e R s m args below meth c H locs cells slots Q (F0 m pc ls (.int (jI a) :: rest)) := lv_if_ne hexec hb hdg ht (fun q => kt (fun z => q ((jI_inj ha r32_0).mpr z))) (fun q => kf ((jI_inj ha r32_0).mp q))
theorem rm_if_lt (hexec : p.tables.exec = Jvm.exec) (hb : c.code = cc) {a : Int} (ha : r32 a) {off : Int} {tgt : Nat} (hdg : decode cc pc = .ok (.ifCond .lt off, 3)) (ht : (pc : Int) + off = (tgt : Int)) (kt : a < 0 → W p l e R s m args below meth c H locs cells slots Q (F0 m tgt ls rest)) (kf : 0 ≤ a → W p l e R s m args below meth c H locs cells slots Q (F0 m (pc + 3) ls rest)) : W p l e R s m args below meth c H locs cells slots Q (F0 m pc ls (.int (jI a) :: rest)) := lv_if_lt hexec hb hdg ht (fun q => kt ((jI_lt ha r32_0).mp q)) (fun q => kf (Int.not_lt.mp (fun z => q ((jI_lt ha r32_0).mpr z))))
theorem rm_if_ge (hexec : p.tables.exec = Jvm.exec) (hb : c.code = cc) {a : Int} (ha : r32 a) {off : Int} {tgt : Nat} (hdg : decode cc pc = .ok (.ifCond .ge off, 3)) (ht : (pc : Int) + off = (tgt : Int)) (kt : 0 ≤ a → W p l e R s m args below meth c H locs cells slots Q (F0 m tgt ls rest)) (kf : a < 0 → W p l e R s m args below meth c H locs cells slots Q (F0 m (pc + 3) ls rest)) : W p l e R s m args below meth c H locs cells slots Q (F0 m pc ls (.int (jI a) :: rest)) := lv_if_ge hexec hb hdg ht (fun q => kt ((jI_le r32_0 ha).mp q)) (fun q => kf (Int.not_le.mp (fun z => q ((jI_le r32_0 ha).mpr z))))
theorem rm_if_gt (hexec : p.tables.exec = Jvm.exec) (hb : c.code = cc) {a : Int} (ha : r32 a) {off : Int} {tgt : Nat} (hdg : decode cc pc = .ok (.ifCond .gt off, 3)) (ht : (pc : Int) + off = (tgt : Int)) (kt : 0 < a → W p l e R s m args below meth c H locs cells slots Q (F0 m tgt ls rest)) (kf : a ≤ 0 → W p l e R s m args below meth c H locs cells slots Q (F0 m (pc + 3) ls rest)) : W p l e R s m args below meth c H locs cells slots Q (F0 m pc ls (.int (jI a) :: rest)) := lv_if_gt hexec hb hdg ht (fun q => kt ((jI_lt r32_0 ha).mp q)) (fun q => kf (Int.not_lt.mp (fun z => q ((jI_lt r32_0 ha).mpr z))))
theorem rm_if_le (hexec : p.tables.exec = Jvm.exec) (hb : c.code = cc) {a : Int} (ha : r32 a) {off : Int} {tgt : Nat} (hdg : decode cc pc = .ok (.ifCond .le off, 3)) (ht : (pc : Int) + off = (tgt : Int)) (kt : a ≤ 0 → W p l e R s m args below meth c H locs cells slots Q (F0 m tgt ls rest)) (kf : 0 < a → W p l e R s m args below meth c H locs cells slots Q (F0 m (pc + 3) ls rest)) : W p l e R s m args below meth c H locs cells slots Q (F0 m pc ls (.int (jI a) :: rest)) := lv_if_le hexec hb hdg ht (fun q => kt ((jI_le ha r32_0).mp q)) (fun q => kf (Int.not_le.mp (fun z => q ((jI_le ha r32_0).mpr z))))
theorem rm_icmp_eq (hexec : p.tables.exec = Jvm.exec) (hb : c.code = cc) {a b : Int} (ha : r32 a) (hb2 : r32 b) {off : Int} {tgt : Nat} (hdg : decode cc pc = .ok (.if_icmp .eq off, 3)) (ht : (pc : Int) + off = (tgt : Int)) (kt : a = b → W p l e R s m args below meth c H locs cells slots Q (F0 m tgt ls rest)) (kf : a ≠ b → W p l e R s m args below meth c H locs cells slots Q (F0 m (pc + 3) ls rest)) : W p l e R s m args below meth c H locs cells slots Q (F0 m pc ls (.int (jI b) :: .int (jI a) :: rest)) := lv_icmp_eq hexec hb hdg ht (fun q => kt ((jI_inj ha hb2).mp q)) (fun q => kf (fun z => q ((jI_inj ha hb2).mpr z)))
theorem rm_icmp_ne (hexec : p.tables.exec = Jvm.exec) (hb : c.code = cc) {a b : Int} (ha : r32 a) (hb2 : r32 b) {off : Int} {tgt : Nat} (hdg : decode cc pc = .ok (.if_icmp .ne off, 3)) (ht : (pc : Int) + off = (tgt : Int)) (kt : a ≠ b → W p l e R s m args below meth c H locs cells slots Q (F0 m tgt ls rest)) (kf : a = b → W p l e R s m args below meth c H locs cells slots Q (F0 m (pc + 3) ls rest)) : W p l e R s m args below meth c H locs cells slots Q (F0 m pc ls (.int (jI b) :: .int (jI a) :: rest)) := lv_icmp_ne hexec hb hdg ht (fun q => kt (fun z => q ((jI_inj ha hb2).mpr z))) (fun q => kf ((jI_inj ha hb2).mp q))
theorem rm_icmp_lt (hexec : p.tables.exec = Jvm.exec) (hb : c.code = cc) {a b : Int} (ha : r32 a) (hb2 : r32 b) {off : Int} {tgt : Nat} (hdg : decode cc pc = .ok (.if_icmp .lt off, 3)) (ht : (pc : Int) + off = (tgt : Int)) (kt : a < b → W p l e R s m args below meth c H locs cells slots Q (F0 m tgt ls rest)) (kf : b ≤ a → W p l e R s m args below meth c H locs cells slots Q (F0 m (pc + 3) ls rest)) : W p l e R s m args below meth c H locs cells slots Q (F0 m pc ls (.int (jI b) :: .int (jI a) :: rest)) := lv_icmp_lt hexec hb hdg ht (fun q => kt ((jI_lt ha hb2).mp q)) (fun q => kf (Int.not_lt.mp (fun z => q ((jI_lt ha hb2).mpr z))))
theorem rm_icmp_ge (hexec : p.tables.exec = Jvm.exec) (hb : c.code = cc) {a b : Int} (ha : r32 a) (hb2 : r32 b) {off : Int} {tgt : Nat} (hdg : decode cc pc = .ok (.if_icmp .ge off, 3)) (ht : (pc : Int) + off = (tgt : Int)) (kt : b ≤ a → W p l e R s m args below meth c H locs cells slots Q (F0 m tgt ls rest)) (kf : a < b → W p l e R s m args below meth c H locs cells slots Q (F0 m (pc + 3) ls rest)) : W p l e R s m args below meth c H locs cells slots Q (F0 m pc ls (.int (jI b) :: .int (jI a) :: rest)) := lv_icmp_ge hexec hb hdg ht (fun q => kt ((jI_le hb2 ha).mp q)) (fun q => kf (Int.not_le.mp (fun z => q ((jI_le hb2 ha).mpr z))))
theorem rm_icmp_gt (hexec : p.tables.exec = Jvm.exec) (hb : c.code = cc) {a b : Int} (ha : r32 a) (hb2 : r32 b) {off : Int} {tgt : Nat} (hdg : decode cc pc = .ok (.if_icmp .gt off, 3)) (ht : (pc : Int) + off = (tgt : Int)) (kt : b < a → W p l e R s m args below meth c H locs cells slots Q (F0 m tgt ls rest)) (kf : a ≤ b → W p l e R s m args below meth c H locs cells slots Q (F0 m (pc + 3) ls rest)) : W p l e R s m args below meth c H locs cells slots Q (F0 m pc ls (.int (jI b) :: .int (jI a) :: rest)) := lv_icmp_gt hexec hb hdg ht (fun q => kt ((jI_lt hb2 ha).mp q)) (fun q => kf (Int.not_lt.mp (fun z => q ((jI_lt hb2 ha).mpr z))))
theorem rm_icmp_le (hexec : p.tables.exec = Jvm.exec) (hb : c.code = cc) {a b : Int} (ha : r32 a) (hb2 : r32 b) {off : Int} {tgt : Nat} (hdg : decode cc pc = .ok (.if_icmp .le off, 3)) (ht : (pc : Int) + off = (tgt : Int)) (kt : a ≤ b → W p l e R s m args below meth c H locs cells slots Q (F0 m tgt ls rest)) (kf : b < a → W p l e R s m args below meth c H locs cells slots Q (F0 m (pc + 3) ls rest)) : W p l e R s m args below meth c H locs cells slots Q (F0 m pc ls (.int (jI b) :: .int (jI a) :: rest)) := lv_icmp_le hexec hb hdg ht (fun q => kt ((jI_le ha hb2).mp q)) (fun q => kf (Int.not_le.mp (fun z => q ((jI_le ha hb2).mpr z))))
/-- how two longs compare -/
def lcv (a b : Int) : Int := if b < a then 1 else if a = b then 0 else -1
theorem lcv_rng (a b : Int) : r32 (lcv a b) := by
  unfold lcv r32
  split
  · omega
  · split <;> omega
theorem lcv_ge {a b : Int} : 0 ≤ lcv a b ↔ b ≤ a := by unfold lcv; split <;> (try split) <;> omega
theorem lcv_gt {a b : Int} : 0 < lcv a b ↔ b < a := by unfold lcv; split <;> (try split) <;> omega
theorem lcv_lt {a b : Int} : lcv a b < 0 ↔ a < b := by unfold lcv; split <;> (try split) <;> omega
theorem lcv_le {a b : Int} : lcv a b ≤ 0 ↔ a ≤ b := by unfold lcv; split <;> (try split) <;> omega
theorem lcv_eq {a b : Int} : lcv a b = 0 ↔ a = b := by unfold lcv; split <;> (try split) <;> omega
theorem rm_lcmp (hexec : p.tables.exec = Jvm.exec) (hb : c.code = cc) {a b : Int} (ha : r64 a) (hb2 : r64 b) (hdg : decode cc pc = .ok (.lcmp, 1)) (k : W p l e R s m args below meth c H locs cells slots Q (F0 m (pc + 1) ls (.int (jI (lcv a b)) :: rest))) : W p l e R s m args below meth c H locs cells slots Q (F0 m pc ls (.long (jL b) :: .long (jL a) :: rest)) := W.lcmp hexec hb hdg (by
  have h : lg_cmp (jL a) (jL b) = jI (lcv a b) := by
    unfold lg_cmp lcv
    by_cases h1 : b < a
    · rw [if_pos ((jL_lt hb2 ha).mpr h1), if_pos h1]; rfl
    · rw [if_neg (fun q => h1 ((jL_lt hb2 ha).mp q)), if_neg h1]
      by_cases h2 : a = b
      · rw [if_pos ((jL_inj ha hb2).mpr h2), if_pos h2]; rfl
      · rw [if_neg (fun q => h2 ((jL_inj ha hb2).mp q)), if_neg h2]; rfl
  rw [h]; exact k)
-- the heap
theorem rm_get (hexec : p.tables.exec = Jvm.exec) (hb : c.code = cc) {own ref C : String} {T : u_T} {N ci index : Nat} {Ts : List Cond} (hts : ∀ w ∈ Ts, w.before args s = true) (hin : ∀ w ∈ u_ws C T N, w ∈ Ts) (hown : s.vm.findClass own = some m.cls) (hK : va_K D vwCl (rm_tys ty) s) (hW : rm_W D ad ct A H) {r : Nat} {fs : List Value} (hr : ct r = some (.inr (ci, fs))) (hc : vwCl[ci]? = some (C, T, N)) (k : Nat) (hk : k < N) (hlink : (Cond.fieldLink own index ref (T k).2.1 (T k).2.2.1).before args s = true) (hsame : ∀ x, s.fieldFound? (T k).1 (T k).2.1 (T k).2.2.1 = some x → s.fieldFound? ref (T k).2.1 (T k).2.2.1 = some x) {v : Value} (hv : fs[k]? = some v) (hdg : decode cc pc = .ok (.getfield index, 3))
    (kk : W p l e R s m args below meth c H locs cells slots Q (F0 m (pc + 3) ls (v :: rest))) : W p l e R s m args below meth c H locs cells slots Q (F0 m pc ls (.ref (ad r) :: rest)) :=
  va_get hexec hb hts hin hown hK (hW.P hr) 0 rfl hc k hk hlink hsame hv hdg kk
theorem rm_getN (hexec : p.tables.exec = Jvm.exec) (hb : c.code = cc) {own ref C host : String} {T : u_T} {N ci index : Nat} {Ts : List Cond} (hts : ∀ w ∈ Ts, w.before args s = true) (hin : ∀ w ∈ u_ws C T N, w ∈ Ts) (hown : s.vm.findClass own = some m.cls) (hK : va_K D vwCl (rm_tys ty) s) (hW : rm_W D ad ct A H) {r : Nat} {fs : List Value} (hr : ct r = some (.inr (ci, fs))) (hc : vwCl[ci]? = some (C, T, N)) (k : Nat) (hk : k < N) (hlink : (Cond.fieldLinkNest own index ref (T k).2.1 (T k).2.2.1 host).before args s = true) (hsame : ∀ x, s.fieldFound? (T k).1 (T k).2.1 (T k).2.2.1 = some x → s.fieldFound? ref (T k).2.1 (T k).2.2.1 = some x) {v : Value} (hv : fs[k]? = some v) (hdg : decode cc pc = .ok (.getfield index, 3))
    (kk : W p l e R s m args below meth c H locs cells slots Q (F0 m (pc + 3) ls (v :: rest))) : W p l e R s m args below meth c H locs cells slots Q (F0 m pc ls (.ref (ad r) :: rest)) :=
  va_getN hexec hb hts hin hown hK (hW.P hr) 0 rfl hc k hk hlink hsame hv hdg kk
theorem rm_put (hexec : p.tables.exec = Jvm.exec) (hb : c.code = cc) {own ref C : String} {T : u_T} {N ci index : Nat} {Ts : List Cond} (hts : ∀ w ∈ Ts, w.before args s = true) (hin : ∀ w ∈ u_ws C T N, w ∈ Ts) (ty0 : Nat → FieldType) (hty : ∀ k, k < N → parseFieldDescriptor (T k).2.2.1 = some (ty0 k)) (hnm : ∀ a, a < N → ∀ b, b < N → a ≠ b → (T a).2.1 ≠ (T b).2.1) (hown : s.vm.findClass own = some m.cls) (hK : va_K D vwCl (rm_tys ty) s) (hW : rm_W D ad ct A H) (hS0 : va_S A H0 H locs) {r : Nat} {fs : List Value} (hr : ct r = some (.inr (ci, fs))) (hc : vwCl[ci]? = some (C, T, N)) (k : Nat) (hk : k < N) (hlink : (Cond.fieldLink own index ref (T k).2.1 (T k).2.2.1).before args s = true) (hsame : ∀ x, s.fieldFound? (T k).1 (T k).2.1 (T k).2.2.1 = some x → s.fieldFound? ref (T k).2.1 (T k).2.2.1 = some x) (hfin : (T k).2.2.2 = false) {fty : FieldType} {v : Value} (hd : parseFieldDescriptor (T k).2.2.1 = some fty) (hn : narrow fty v = v) (hfit : fits fty v = true) (hl : k < fs.length)
    (hdg : decode cc pc = .ok (.putfield index, 3)) (kk : ∀ (H1 : Heap) (locs1 : List Loc) (ct1 : rm_C), ct1 r = some (.inr (ci, fs.set k v)) → (∀ q, q ≠ r → ct1 q = ct q) → rm_W D ad ct1 A H1 → va_S A H0 H1 locs1 → H1.size = H.size → W p l e R s m args below meth c H1 locs1 cells slots Q (F0 m (pc + 3) ls rest)) : W p l e R s m args below meth c H locs cells slots Q (F0 m pc ls (v :: .ref (ad r) :: rest)) := by
  have hap := va_apart (own := own) hts hin ty0 hty hnm hK hc
  obtain ⟨r1, h1, cell, q1, q2, q3, q4⟩ := (hW.1 r _ hr).1
  have hrr : r1 = (C, T, N) := Option.some.inj (h1.symm.trans hc)
  subst hrr
  obtain ⟨hS, hfc, kC, hkC, hkind⟩ := hK.1 ci _ hc
  obtain ⟨cf, kf, fi, f, hi, hsl⟩ := hS k hk
  have hlay := hts _ (hin _ (u_in_lay hk))
  unfold u_lay at hlay
  rw [if_neg (by rw [hfin]; decide)] at hlay
  have hst := (u_facts hfc hkC (u_lays hts hin hk) hi).1
  have h6 := u_store hfc hkC hkind hlay hi hd hn hfit
  refine W.putK hexec hb (f := f) ⟨hown, hlink, ⟨_, _, _, hsame _ hi⟩, hst⟩ (by rw [q2]; exact h6) q1 q3 (by rw [hsl]; exact k2_hasslot (q4 k hk)) rfl rfl hdg fun H' e1 e2 e3 => ?_
  rw [hsl] at e1 ⊢
  exact kk H' _ _ (rm_up_s ct r _) (fun q hq => rm_up_n ct _ hq) (hW.set hr ⟨_, hc, t_OB.to (V := updV (vp_V fs) k v) ⟨_, e1, q2, q3, t_set q4 hap hk v⟩ (fun j _ => vp_updV_set hl v j)⟩ e3) (hS0.put e2 e3 (hW.1 r _ hr).2) e2
theorem rm_putN (hexec : p.tables.exec = Jvm.exec) (hb : c.code = cc) {own ref C host : String} {T : u_T} {N ci index : Nat} {Ts : List Cond} (hts : ∀ w ∈ Ts, w.before args s = true) (hin : ∀ w ∈ u_ws C T N, w ∈ Ts) (ty0 : Nat → FieldType) (hty : ∀ k, k < N → parseFieldDescriptor (T k).2.2.1 = some (ty0 k)) (hnm : ∀ a, a < N → ∀ b, b < N → a ≠ b → (T a).2.1 ≠ (T b).2.1) (hown : s.vm.findClass own = some m.cls) (hK : va_K D vwCl (rm_tys ty) s) (hW : rm_W D ad ct A H) (hS0 : va_S A H0 H locs) {r : Nat} {fs : List Value} (hr : ct r = some (.inr (ci, fs))) (hc : vwCl[ci]? = some (C, T, N)) (k : Nat) (hk : k < N) (hlink : (Cond.fieldLinkNest own index ref (T k).2.1 (T k).2.2.1 host).before args s = true) (hsame : ∀ x, s.fieldFound? (T k).1 (T k).2.1 (T k).2.2.1 = some x → s.fieldFound? ref (T k).2.1 (T k).2.2.1 = some x) (hfin : (T k).2.2.2 = false) {fty : FieldType} {v : Value} (hd : parseFieldDescriptor (T k).2.2.1 = some fty) (hn : narrow fty v = v) (hfit : fits fty v = true) (hl : k < fs.length)
    (hdg : decode cc pc = .ok (.putfield index, 3)) (kk : ∀ (H1 : Heap) (locs1 : List Loc) (ct1 : rm_C), ct1 r = some (.inr (ci, fs.set k v)) → (∀ q, q ≠ r → ct1 q = ct q) → rm_W D ad ct1 A H1 → va_S A H0 H1 locs1 → H1.size = H.size → W p l e R s m args below meth c H1 locs1 cells slots Q (F0 m (pc + 3) ls rest)) : W p l e R s m args below meth c H locs cells slots Q (F0 m pc ls (v :: .ref (ad r) :: rest)) := by
  have hap := va_apart (own := own) hts hin ty0 hty hnm hK hc
  obtain ⟨r1, h1, cell, q1, q2, q3, q4⟩ := (hW.1 r _ hr).1
  have hrr : r1 = (C, T, N) := Option.some.inj (h1.symm.trans hc)
  subst hrr
  obtain ⟨hS, hfc, kC, hkC, hkind⟩ := hK.1 ci _ hc
  obtain ⟨cf, kf, fi, f, hi, hsl⟩ := hS k hk
  have hlay := hts _ (hin _ (u_in_lay hk))
  unfold u_lay at hlay
  rw [if_neg (by rw [hfin]; decide)] at hlay
  have hst := (u_facts hfc hkC (u_lays hts hin hk) hi).1
  have h6 := u_store hfc hkC hkind hlay hi hd hn hfit
  refine va_WputK hexec hb (f := f) hown hlink (hsame _ hi) hst (by rw [q2]; exact h6) q1 q3 (by rw [hsl]; exact k2_hasslot (q4 k hk)) rfl rfl hdg fun H' e1 e2 e3 => ?_
  rw [hsl] at e1 ⊢
  exact kk H' _ _ (rm_up_s ct r _) (fun q hq => rm_up_n ct _ hq) (hW.set hr ⟨_, hc, t_OB.to (V := updV (vp_V fs) k v) ⟨_, e1, q2, q3, t_set q4 hap hk v⟩ (fun j _ => vp_updV_set hl v j)⟩ e3) (hS0.put e2 e3 (hW.1 r _ hr).2) e2
theorem rm_putF (hexec : p.tables.exec = Jvm.exec) (hb : c.code = cc) {own ref C : String} {T : u_T} {N ci index : Nat} {Ts : List Cond} (hts : ∀ w ∈ Ts, w.before args s = true) (hin : ∀ w ∈ u_ws C T N, w ∈ Ts) (ty0 : Nat → FieldType) (hty : ∀ k, k < N → parseFieldDescriptor (T k).2.2.1 = some (ty0 k)) (hnm : ∀ a, a < N → ∀ b, b < N → a ≠ b → (T a).2.1 ≠ (T b).2.1) (hown : s.vm.findClass own = some m.cls) (hK : va_K D vwCl (rm_tys ty) s) (hW : rm_W D ad ct A H) (hS0 : va_S A H0 H locs) {r : Nat} {fs : List Value} (hr : ct r = some (.inr (ci, fs))) (hc : vwCl[ci]? = some (C, T, N)) (k : Nat) (hk : k < N) (hlink : (Cond.fieldLink own index ref (T k).2.1 (T k).2.2.1).before args s = true) (hsame : ∀ x, s.fieldFound? (T k).1 (T k).2.1 (T k).2.2.1 = some x → s.fieldFound? ref (T k).2.1 (T k).2.2.1 = some x) (hfin : (T k).2.2.2 = true) (hin2 : meth.name = "<init>") (hdecl : (T k).1 = own) {fty : FieldType} {v : Value} (hd : parseFieldDescriptor (T k).2.2.1 = some fty) (hn : narrow fty v = v) (hfit : fits fty v = true) (hl : k < fs.length)
    (hdg : decode cc pc = .ok (.putfield index, 3)) (kk : ∀ (H1 : Heap) (locs1 : List Loc) (ct1 : rm_C), ct1 r = some (.inr (ci, fs.set k v)) → (∀ q, q ≠ r → ct1 q = ct q) → rm_W D ad ct1 A H1 → va_S A H0 H1 locs1 → H1.size = H.size → W p l e R s m args below meth c H1 locs1 cells slots Q (F0 m (pc + 3) ls rest)) : W p l e R s m args below meth c H locs cells slots Q (F0 m pc ls (v :: .ref (ad r) :: rest)) := by
  have hap := va_apart (own := own) hts hin ty0 hty hnm hK hc
  obtain ⟨r1, h1, cell, q1, q2, q3, q4⟩ := (hW.1 r _ hr).1
  have hrr : r1 = (C, T, N) := Option.some.inj (h1.symm.trans hc)
  subst hrr
  obtain ⟨hS, hfc, kC, hkC, hkind⟩ := hK.1 ci _ hc
  obtain ⟨cf, kf, fi, f, hi, hsl⟩ := hS k hk
  have hlay := hts _ (hin _ (u_in_lay hk))
  unfold u_lay at hlay
  rw [if_pos hfin] at hlay
  have hst := (u_facts hfc hkC (u_lays hts hin hk) hi).1
  have hcf : m.cls = cf := by
    obtain ⟨_, _, c', _, _, _, -, -, hf', -, -, -, hown2, -⟩ := Cond.laysFinal_spec hlay
    have e1 : c' = cf := by have := hi.symm.trans hf'; simp at this; exact this.1.symm
    rw [hdecl] at hown2
    rw [← e1]; exact Option.some.inj (hown.symm.trans hown2)
  have h6 := u_fits hfc hkC hkind (Or.inr hlay) hi hd hn hfit
  refine W.putFinK hexec hb hown hlink (hsame _ hi) hst hcf hin2 (by rw [q2]; exact h6) q1 q3 (by rw [hsl]; exact k2_hasslot (q4 k hk)) rfl rfl hdg fun H' e1 e2 e3 => ?_
  rw [hsl] at e1 ⊢
  exact kk H' _ _ (rm_up_s ct r _) (fun q hq => rm_up_n ct _ hq) (hW.set hr ⟨_, hc, t_OB.to (V := updV (vp_V fs) k v) ⟨_, e1, q2, q3, t_set q4 hap hk v⟩ (fun j _ => vp_updV_set hl v j)⟩ e3) (hS0.put e2 e3 (hW.1 r _ hr).2) e2
-- arrays
theorem rm_iald (hexec : p.tables.exec = Jvm.exec) (hb : c.code = cc) (hK : va_K D vwCl (rm_tys ty) s) (hW : rm_W D ad ct A H) {r n : Nat} {f : Nat → Int} (hr : ct r = some (ri ty n f)) {z : Int} (j : Nat) (hz : z = (j : Int)) (hj : j < n) (hn : n < 2147483648) (hdg : decode cc pc = .ok (.iaload, 1))
    (kk : W p l e R s m args below meth c H locs cells slots Q (F0 m (pc + 1) ls (.int (jI (f j)) :: rest))) : W p l e R s m args below meth c H locs cells slots Q (F0 m pc ls (.int (jI z) :: .ref (ad r) :: rest)) :=
  va_iald hexec hb hK (hW.P hr) 0 0 rfl rfl (jI_in hz hj hn) hdg (by rw [jI_cl hz (by omega)]; exact kk)
theorem rm_lald (hexec : p.tables.exec = Jvm.exec) (hb : c.code = cc) (hK : va_K D vwCl (rm_tys ty) s) (hW : rm_W D ad ct A H) {r n : Nat} {f : Nat → Int} (hr : ct r = some (rl ty n f)) {z : Int} (j : Nat) (hz : z = (j : Int)) (hj : j < n) (hn : n < 2147483648) (hdg : decode cc pc = .ok (.laload, 1))
    (kk : W p l e R s m args below meth c H locs cells slots Q (F0 m (pc + 1) ls (.long (jL (f j)) :: rest))) : W p l e R s m args below meth c H locs cells slots Q (F0 m pc ls (.int (jI z) :: .ref (ad r) :: rest)) :=
  va_lald hexec hb hK (hW.P hr) 0 1 rfl rfl (jI_in hz hj hn) hdg (by rw [jI_cl hz (by omega)]; exact kk)
theorem rm_zald (hexec : p.tables.exec = Jvm.exec) (hb : c.code = cc) (hK : va_K D vwCl (rm_tys ty) s) (hW : rm_W D ad ct A H) {r n : Nat} {f : Nat → Int} (hr : ct r = some (rz ty n f)) {z : Int} (j : Nat) (hz : z = (j : Int)) (hj : j < n) (hn : n < 2147483648) (hdg : decode cc pc = .ok (.baload, 1))
    (kk : W p l e R s m args below meth c H locs cells slots Q (F0 m (pc + 1) ls (.int (jI (f j)) :: rest))) : W p l e R s m args below meth c H locs cells slots Q (F0 m pc ls (.int (jI z) :: .ref (ad r) :: rest)) :=
  va_zald hexec hb hK (hW.P hr) 0 2 rfl rfl (jI_in hz hj hn) hdg (by rw [jI_cl hz (by omega)]; exact kk)
/-- out of a row of references: k tells which kind -/
theorem rm_aald (hexec : p.tables.exec = Jvm.exec) (hb : c.code = cc) (hK : va_K D vwCl (rm_tys ty) s) (hW : rm_W D ad ct A H) {r n k : Nat} {fty : FieldType} {f : Nat → Option Nat} (hr : ct r = some (rq ty k n f)) (hk : (rm_tys ty)[k]? = some (ty k, fty)) (hrf : fty.isReference = true) {z : Int} (j : Nat) (hz : z = (j : Int)) (hj : j < n) (hn : n < 2147483648) (hdg : decode cc pc = .ok (.aaload, 1)) {v : Value} (hv : va_rf (f j) = v)
    (kk : W p l e R s m args below meth c H locs cells slots Q (F0 m (pc + 1) ls (v :: rest))) : W p l e R s m args below meth c H locs cells slots Q (F0 m pc ls (.int (jI z) :: .ref (ad r) :: rest)) := by
  have hcl := jI_cl hz (show j < 2147483648 by omega)
  have hin := jI_in hz hj hn
  subst hv
  exact W.aald (v := va_rf (f j)) (ty := fty) hexec hb (hW.1 r _ hr).1 ((hK.2 k _ hk).1 n (fun j => va_rf (f j))) hrf (fun q => by cases q) (by show ¬ (jI z < 0 ∨ (arrV _ _ _).slots.size ≤ _); rw [arrV_size]; exact hin) (by show (arrV _ _ _).slots[_]? = _; rw [hcl, arrV_read _ _ hj]) rfl rfl hdg kk
theorem rm_iast (hexec : p.tables.exec = Jvm.exec) (hb : c.code = cc) (hK : va_K D vwCl (rm_tys ty) s) (hW : rm_W D ad ct A H) (hS : va_S A H0 H locs) {r n : Nat} {f : Nat → Int} (hr : ct r = some (ri ty n f)) {z x : Int} (j : Nat) (hz : z = (j : Int)) (hj : j < n) (hn : n < 2147483648) (hdg : decode cc pc = .ok (.iastore, 1))
    (kk : ∀ (H1 : Heap) (locs1 : List Loc) (ct1 : rm_C), ct1 r = some (ri ty n (ub f j x)) → (∀ q, q ≠ r → ct1 q = ct q) → rm_W D ad ct1 A H1 → va_S A H0 H1 locs1 → H1.size = H.size → W p l e R s m args below meth c H1 locs1 cells slots Q (F0 m (pc + 1) ls rest)) : W p l e R s m args below meth c H locs cells slots Q (F0 m pc ls (.int (jI x) :: .int (jI z) :: .ref (ad r) :: rest)) := by
  have hcl := jI_cl hz (show j < 2147483648 by omega)
  have hin := jI_in hz hj hn
  refine W.iast hexec hb (hW.1 r _ hr).1 ((hK.2 0 _ rfl).1 n (fun j => .int (jI (f j)))) (fun q => by cases q) (by show ¬ (jI z < 0 ∨ (arrV _ _ _).slots.size ≤ _); rw [arrV_size]; exact hin) rfl rfl hdg fun H1 e z2 oq => ?_
  refine kk H1 _ _ (rm_up_s ct r _) (fun q hq => rm_up_n ct _ hq) (hW.set hr ?_ oq) (hS.put z2 oq (hW.1 r _ hr).2) z2
  show H1[ad r]? = some (vp_cell _ _)
  rw [e]
  show some ((vp_cell (ty 0) (n, .inl (fun k => jI (f k)))).setSlot (jI z).toNatClampNeg (Value.int (jI x))) = some (vp_cell (ty 0) (n, .inl (fun k => jI (ub f j x k))))
  rw [vp_cell_i, vp_cell_i, arrV_store, hcl]
  congr 2
  funext q
  by_cases hq : q = j
  · subst hq
    simp [updV, ub]
  · simp [updV, ub, hq]
theorem rm_last (hexec : p.tables.exec = Jvm.exec) (hb : c.code = cc) (hK : va_K D vwCl (rm_tys ty) s) (hW : rm_W D ad ct A H) (hS : va_S A H0 H locs) {r n : Nat} {f : Nat → Int} (hr : ct r = some (rl ty n f)) {z x : Int} (j : Nat) (hz : z = (j : Int)) (hj : j < n) (hn : n < 2147483648) (hdg : decode cc pc = .ok (.lastore, 1))
    (kk : ∀ (H1 : Heap) (locs1 : List Loc) (ct1 : rm_C), ct1 r = some (rl ty n (ub f j x)) → (∀ q, q ≠ r → ct1 q = ct q) → rm_W D ad ct1 A H1 → va_S A H0 H1 locs1 → H1.size = H.size → W p l e R s m args below meth c H1 locs1 cells slots Q (F0 m (pc + 1) ls rest)) : W p l e R s m args below meth c H locs cells slots Q (F0 m pc ls (.long (jL x) :: .int (jI z) :: .ref (ad r) :: rest)) := by
  have hcl := jI_cl hz (show j < 2147483648 by omega)
  have hin := jI_in hz hj hn
  refine W.last hexec hb (hW.1 r _ hr).1 ((hK.2 1 _ rfl).1 n (fun j => .long (jL (f j)))) (fun q => by cases q) (by show ¬ (jI z < 0 ∨ (arrV _ _ _).slots.size ≤ _); rw [arrV_size]; exact hin) rfl rfl hdg fun H1 e z2 oq => ?_
  refine kk H1 _ _ (rm_up_s ct r _) (fun q hq => rm_up_n ct _ hq) (hW.set hr ?_ oq) (hS.put z2 oq (hW.1 r _ hr).2) z2
  show H1[ad r]? = some (vp_cell _ _)
  rw [e]
  show some ((vp_cell (ty 1) (n, .inr (.inl (fun k => jL (f k))))).setSlot (jI z).toNatClampNeg (Value.long (jL x))) = some (vp_cell (ty 1) (n, .inr (.inl (fun k => jL (ub f j x k)))))
  rw [vp_cell_l, vp_cell_l, arrV_store, hcl]
  congr 2
  funext q
  by_cases hq : q = j
  · subst hq
    simp [updV, ub]
  · simp [updV, ub, hq]
end RmRows
