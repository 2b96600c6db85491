/-! switches by numbers -/
section RmSwitch
variable {p : Program} {l : Launch} {e : Env} {R : Room} {s : State} {m : MethodId} {args : Array Value} {below : List Frame} {meth : Method} {c : Code} {H : Heap} {locs : List Loc} {cells slots : Nat} {Q : State → Prop}
variable {cc : ByteArray} {pc : Nat} {ls : Array Slot} {rest : List Value}
theorem rm_look (hexec : p.tables.exec = Jvm.exec) (hb : c.code = cc) {z : Int} (hz : r32 z) {dflt : Int} {ps : Array (Int × Int)} {len : Nat} {off : Int} {tgt : Nat} (hdg : decode cc pc = .ok (.lookupswitch dflt ps, len)) (hp : (ps.toList.zip (ps.toList.drop 1)).all (fun (a, next) => a.1 < next.1) = true) (ho : Op.lookupswitch.offset ps.toList dflt z = off) (ht : (pc : Int) + off = (tgt : Int))
    (k : W p l e R s m args below meth c H locs cells slots Q (F0 m tgt ls rest)) : W p l e R s m args below meth c H locs cells slots Q (F0 m pc ls (.int (jI z) :: rest)) := lv_lookup hexec hb hdg hp (by rw [jI_toInt hz]; exact ho) ht k
theorem rm_tabO (hexec : p.tables.exec = Jvm.exec) (hb : c.code = cc) {z : Int} (hz : r32 z) {dflt lo hi : Int} {offs : Array Int} {len : Nat} {tgt : Nat} (hdg : decode cc pc = .ok (.tableswitch dflt lo hi offs, len)) (h : z < lo ∨ hi < z) (ht : (pc : Int) + dflt = (tgt : Int))
    (k : W p l e R s m args below meth c H locs cells slots Q (F0 m tgt ls rest)) : W p l e R s m args below meth c H locs cells slots Q (F0 m pc ls (.int (jI z) :: rest)) := lv_tableOut hexec hb hdg (by rw [jI_toInt hz]; exact h) ht k
theorem rm_tabI (hexec : p.tables.exec = Jvm.exec) (hb : c.code = cc) {z : Int} (hz : r32 z) {dflt lo hi : Int} {offs : Array Int} {len : Nat} {off : Int} {tgt : Nat} (hdg : decode cc pc = .ok (.tableswitch dflt lo hi offs, len)) (h1 : ¬ z < lo) (h2 : ¬ hi < z) (ho : offs[(z - lo).toNat]? = some off) (ht : (pc : Int) + off = (tgt : Int))
    (k : W p l e R s m args below meth c H locs cells slots Q (F0 m tgt ls rest)) : W p l e R s m args below meth c H locs cells slots Q (F0 m pc ls (.int (jI z) :: rest)) := lv_tableIn hexec hb hdg (by rw [jI_toInt hz]; exact h1) (by rw [jI_toInt hz]; exact h2) (by rw [jI_toInt hz]; exact ho) ht k
theorem W_genQ {F : JFrame} (h : ∀ QQ : State → Prop, QQ = Q → W p l e R s m args below meth c H locs cells slots QQ F) : W p l e R s m args below meth c H locs cells slots Q F := h Q rfl
theorem HelpAt.fireTo {ty : Nat → ClassId} {ad : Nat → Nat} {ct ct1 : rm_C} {rd1 : Nat → Int} (h : HelpAt ty ad ct) (h4 : ct1 4 = some (ri ty 8 rd1)) (ho : ∀ q, q ≠ 4 → ct1 q = ct q) : HelpAt ty ad ct1 := by
  obtain ⟨⟨rd, a0, a1⟩, ⟨fu, li, so, fa, T, h2⟩, ⟨k, on, tr, r, T2, h3⟩⟩ := h
  exact ⟨⟨rd1, (ho _ (by omega)).trans a0, h4⟩, ⟨fu, li, so, fa, T, h2.kept (fun q a b => ho q (by omega))⟩, ⟨k, on, tr, r, T2, h3.kept (fun q a b => ho q (by omega))⟩⟩
end RmSwitch
