/-! Throwing: what stands at a start of a method that may throw; the throw itself -/
section RmThrow
abbrev xNSE : String := "java/util/NoSuchElementException"
abbrev xIAE : String := "java/lang/IllegalArgumentException"
abbrev xISE : String := "java/lang/IllegalStateException"
def rm_B : List Cond := [.castable xNSE xNSE, .castable xIAE xIAE, .castable xISE xISE, .declares (Bundle.initS "java/lang/RuntimeException"), .declares (Bundle.initS "java/lang/Exception"), .declares (Bundle.initS Bundle.tN)]
def rm_lits : List (Nat × String) := [(196, "no such yard"), (200, "no such place"), (82, "the yard isn't whole"), (93, "no such part"), (198, "no such heap"), (114, "grains are 0 to 100,000"), (140, "no such question"), (202, "the heaps are in two yards"), (171, "no such heap to become"), (177, "the heap doesn't come again"), (194, "no such count")]
def rm_E (U : State) : Prop := (∀ w ∈ rm_B, va_Nw w U) ∧ ∀ q ∈ rm_lits, ∃ a, vk_R RX5 q.1 q.2 a U
theorem rm_E.warm {s U : State} (hW : s.WarmedH U.vm) (h : rm_E s) : rm_E U := by
  refine ⟨fun w hw => ?_, fun q hq => ?_⟩
  · have h1 := h.1 w hw
    simp only [rm_B, List.mem_cons, List.mem_nil_iff, or_false] at hw
    rcases hw with rfl | rfl | rfl | rfl | rfl | rfl
    · exact va_Nw.warmC hW h1
    · exact va_Nw.warmC hW h1
    · exact va_Nw.warmC hW h1
    · exact va_Nw.warmD hW h1
    · exact va_Nw.warmD hW h1
    · exact va_Nw.warmD hW h1
  · obtain ⟨a, ha⟩ := h.2 q hq
    exact ⟨a, vk_R.warm hW ha⟩
theorem rm_E.same {u U : State} (hv : U.vm = u.vm) (h : rm_E u) : rm_E U :=
  rm_E.warm (s := u) (by rw [hv]; exact State.WarmedH.refl u) h
/-- the two statics that each throw reads, apart from A -/
def rm_U (A : Nat → Prop) (U : State) (H : Heap) : Prop := vx_Zq Bundle.tN "UNASSIGNED_STACK" Bundle.steD A U H ∧ vx_Zq Bundle.tN "SUPPRESSED_SENTINEL" Bundle.listD A U H
theorem rm_U.moved {A : Nat → Prop} {u U : State} {H : Heap} (hvm : u.vm.Alike U.vm) (h : rm_U A u H) : rm_U A U H := ⟨h.1.moved hvm, h.2.moved hvm⟩
theorem rm_U.kept {A : Nat → Prop} {U : State} {H H1 : Heap} (h : rm_U A U H) (hq : ∀ a : Nat, a < H.size → ¬ A a → H1[a]? = H[a]?) : rm_U A U H1 := ⟨h.1.kept hq, h.2.kept hq⟩
theorem rm_U.narrow {A B : Nat → Prop} {U : State} {H : Heap} (h : rm_U A U H) (hAB : ∀ q, B q → A q) : rm_U B U H := ⟨h.1.narrow hAB, h.2.narrow hAB⟩
def rm_PX (D : va_G) (ty : Nat → ClassId) (ad : Nat → Nat) (ct : rm_C) (sz : Nat) (av : List Value) : Array Value → State → Prop := va_Pc av (fun U => (U.heap.size = sz ∧ rm_W D ad ct (fun _ => True) U.heap ∧ va_K D vwCl (rm_tys ty) U ∧ rm_N U) ∧ rm_E U ∧ rm_U (rm_A ad ct sz) U U.heap)
def rm_XC (D : va_G) (ad : Nat → Nat) (ct : rm_C) (sz : Nat) (px : String → rm_C → Prop) : String → State → State → Prop := vx_X (S := String × rm_C) (fun u => px u.1 u.2) (fun E u t => E = u.1 ∧ rm_W D ad u.2 (rm_A ad ct sz) t.heap) (rm_A ad ct sz)
theorem rm_W.ext {D : va_G} {ad : Nat → Nat} {ct : rm_C} {A : Nat → Prop} {H H1 : Heap} (h : rm_W D ad ct A H) (ho : ∀ q : Nat, q < H.size → H1[q]? = H[q]?) : rm_W D ad ct A H1 :=
  ⟨fun q e' hq => ⟨(h.1 q e' hq).1.kept (ho _ (h.lt hq)), (h.1 q e' hq).2⟩, h.2⟩
theorem rm_blindX (D : va_G) (ty : Nat → ClassId) (ad : Nat → Nat) (ct : rm_C) (sz : Nat) (av : List Value) : FrameBlind (rm_PX D ty ad ct sz av) := fun a U g mk q => by
  obtain ⟨q0, ⟨q1, qW, qK, qN⟩, qE, qU⟩ := q
  exact ⟨q0, ⟨q1, qW, va_K.moved (u := U) (U := U.calling g mk a) (Vm.Alike.refl U.vm) qK, qN.same rfl⟩, rm_E.same (u := U) (U := U.calling g mk a) rfl qE, rm_U.moved (u := U) (U := U.calling g mk a) (Vm.Alike.refl U.vm) qU⟩
variable {p : Program} {l : Launch} {e : Env} {R : Room} {s : State} {m : MethodId} {args : Array Value} {below : List Frame} {meth : Method} {c : Code} {H : Heap} {locs : List Loc} {cells slots : Nat} {Q : State → Prop}
variable {cc : ByteArray} {pc : Nat} {ls : Array Slot} {rest st0 : List Value} {D : va_G} {A : Nat → Prop} {ty : Nat → ClassId} {ad : Nat → Nat} {ct ct0 : rm_C} {a : Array Value} {mc ms sz : Nat}
theorem rm_throw (hexec : p.tables.exec = Jvm.exec) (hb : c.code = cc) (hl : l.stackTraces = false) {cls text : String} {ik is ic : Nat} {px : String → rm_C → Prop} {Qc : Array Value → State → Outcome → State → Prop}
    (hown : s.vm.findClass RX5 = some m.cls) (hcls : Bundle.fit cls = true) (hk : (Cond.classLink RX5 ik cls).before args s = true) (hini : (Cond.initialized cls).before args s = true)
    (hgw : ∀ w ∈ (vx_atS RX5 ic cls ["java/lang/RuntimeException", "java/lang/Exception"]).filter goodWord, w.before args s = true) (hng : ∀ w ∈ (vx_atS RX5 ic cls ["java/lang/RuntimeException", "java/lang/Exception"]).filter (fun w => !goodWord w), w ∈ rm_B)
    (hgood : ∀ w ∈ Cond.classLink RX5 ik cls :: Cond.initialized cls :: vx_atS RX5 ic cls ["java/lang/RuntimeException", "java/lang/Exception"], vx_ot w = true) (hlit : (is, text) ∈ rm_lits)
    (hE : rm_E s) (hU : rm_U (rm_A ad ct0 s.heap.size) s s.heap) (hW : rm_W D ad ct (rm_A ad ct0 s.heap.size) H) (hS : va_S (rm_A ad ct0 s.heap.size) s.heap H locs) (hsize : ls.size = c.maxLocals)
    (d0 : decode cc pc = .ok (.new ik, 3)) (d3 : decode cc (pc + 3) = .ok (.dup, 1)) (d4 : decode cc (pc + 4) = .ok (.ldc is, 2)) (d6 : decode cc (pc + 6) = .ok (.invokespecial ic, 3)) (d9 : decode cc (pc + 9) = .ok (.athrow, 1))
    (hout : ∀ x ∈ c.exceptionTable.toList, False)
    (hRframes : 2 + 3 < R.frames) (hRlocals : (rest.map fun v => v.category).sum + (13 * (2 + 1) + 43) ≤ R.locals) (hRcells : cells + 1 ≤ R.cells) (hRslots : slots + 6 ≤ R.slots) (hlocks : meth.locks = false)
    (hpx : px cls ct) (hc : cells + 1 ≤ mc) (hs : slots + 6 ≤ ms) :
    W p l e R s m args below meth c H locs cells slots (vx_MQ below Qc (rm_XC D ad ct0 s.heap.size px) args s mc ms (rm_A ad ct0 s.heap.size)) (F0 m pc ls rest) := by
  obtain ⟨sa, hsa⟩ := hE.2 _ hlit
  refine vx_throwS (names := ["java/lang/RuntimeException", "java/lang/Exception"]) hexec hb hl hown hcls (by decide +kernel) hk hini hsa (vx_hat hgw hng (fun w hw => va_tabs (u := s) (U := s) (by
    simp only [rm_B, List.mem_cons, List.mem_nil_iff, or_false] at hw
    rcases hw with rfl | rfl | rfl | rfl | rfl | rfl <;> rfl) rfl (hE.1 w hw))) hgood hU.1 hU.2 hS hsize d0 d3 d4 d6 d9 (fun x hx => (hout x hx).elim) hRframes hRlocals hRcells hRslots hlocks (fun t hvm hz ho => ?_) hS.2.2 hc hs
  refine ⟨(cls, ct), hpx, ⟨rfl, hW.ext ho⟩, Nat.le_trans hS.1 hz, fun q h1 h2 => ?_⟩
  rw [ho q (Nat.lt_of_lt_of_le h1 hS.1)]
  exact hS.2.1 q h1 h2
end RmThrow
