/-! shifts and masks: the row asks what comes out, the facts below tell it -/
section RmBits
variable {p : Program} {l : Launch} {e : Env} {R : Room} {s : State} {m : MethodId} {args : Array Value} {below : List Frame} {meth : Method} {c : Code} {H : Heap} {locs : List Loc} {cells slots : Nat} {Q : State → Prop}
variable {cc : ByteArray} {pc : Nat} {ls : Array Slot} {rest : List Value}
theorem rm_ishr (hexec : p.tables.exec = Jvm.exec) (hb : c.code = cc) {a b z : Int} (hdg : decode cc pc = .ok (.ishr, 1)) (h : jI a >>> (jI b &&& 31) = jI z) (k : W p l e R s m args below meth c H locs cells slots Q (F0 m (pc + 1) ls (.int (jI z) :: rest))) : W p l e R s m args below meth c H locs cells slots Q (F0 m pc ls (.int (jI b) :: .int (jI a) :: rest)) := lv_ishr hexec hb hdg (by rw [h]; exact k)
theorem rm_ishl (hexec : p.tables.exec = Jvm.exec) (hb : c.code = cc) {a b z : Int} (hdg : decode cc pc = .ok (.ishl, 1)) (h : jI a <<< (jI b &&& 31) = jI z) (k : W p l e R s m args below meth c H locs cells slots Q (F0 m (pc + 1) ls (.int (jI z) :: rest))) : W p l e R s m args below meth c H locs cells slots Q (F0 m pc ls (.int (jI b) :: .int (jI a) :: rest)) := lv_ishl hexec hb hdg (by rw [h]; exact k)
theorem rm_iand (hexec : p.tables.exec = Jvm.exec) (hb : c.code = cc) {a b z : Int} (hdg : decode cc pc = .ok (.iand, 1)) (h : jI a &&& jI b = jI z) (k : W p l e R s m args below meth c H locs cells slots Q (F0 m (pc + 1) ls (.int (jI z) :: rest))) : W p l e R s m args below meth c H locs cells slots Q (F0 m pc ls (.int (jI b) :: .int (jI a) :: rest)) := lv_iand hexec hb hdg (by rw [h]; exact k)
theorem rm_ior (hexec : p.tables.exec = Jvm.exec) (hb : c.code = cc) {a b z : Int} (hdg : decode cc pc = .ok (.ior, 1)) (h : jI a ||| jI b = jI z) (k : W p l e R s m args below meth c H locs cells slots Q (F0 m (pc + 1) ls (.int (jI z) :: rest))) : W p l e R s m args below meth c H locs cells slots Q (F0 m pc ls (.int (jI b) :: .int (jI a) :: rest)) := lv_ior hexec hb hdg (by rw [h]; exact k)
theorem rm_ixor (hexec : p.tables.exec = Jvm.exec) (hb : c.code = cc) {a b z : Int} (hdg : decode cc pc = .ok (.ixor, 1)) (h : jI a ^^^ jI b = jI z) (k : W p l e R s m args below meth c H locs cells slots Q (F0 m (pc + 1) ls (.int (jI z) :: rest))) : W p l e R s m args below meth c H locs cells slots Q (F0 m pc ls (.int (jI b) :: .int (jI a) :: rest)) := lv_ixor hexec hb hdg (by rw [h]; exact k)
theorem rm_lushr (hexec : p.tables.exec = Jvm.exec) (hb : c.code = cc) {a b z : Int} (hdg : decode cc pc = .ok (.lushr, 1)) (h : ((jL a).toUInt64 >>> ((jI b).toInt64.toUInt64 &&& Int64.toUInt64 63)).toInt64 = jL z) (k : W p l e R s m args below meth c H locs cells slots Q (F0 m (pc + 1) ls (.long (jL z) :: rest))) : W p l e R s m args below meth c H locs cells slots Q (F0 m pc ls (.int (jI b) :: .long (jL a) :: rest)) := lv_lushr hexec hb hdg h k
theorem rm_lshl (hexec : p.tables.exec = Jvm.exec) (hb : c.code = cc) {a b z : Int} (hdg : decode cc pc = .ok (.lshl, 1)) (h : (jL a) <<< ((jI b).toInt64 &&& 63) = jL z) (k : W p l e R s m args below meth c H locs cells slots Q (F0 m (pc + 1) ls (.long (jL z) :: rest))) : W p l e R s m args below meth c H locs cells slots Q (F0 m pc ls (.int (jI b) :: .long (jL a) :: rest)) := lv_lshl hexec hb hdg h k
theorem rm_lshr (hexec : p.tables.exec = Jvm.exec) (hb : c.code = cc) {a b z : Int} (hdg : decode cc pc = .ok (.lshr, 1)) (h : (jL a) >>> ((jI b).toInt64 &&& 63) = jL z) (k : W p l e R s m args below meth c H locs cells slots Q (F0 m (pc + 1) ls (.long (jL z) :: rest))) : W p l e R s m args below meth c H locs cells slots Q (F0 m pc ls (.int (jI b) :: .long (jL a) :: rest)) := lv_lshr hexec hb hdg h k
theorem rm_land (hexec : p.tables.exec = Jvm.exec) (hb : c.code = cc) {a b z : Int} (hdg : decode cc pc = .ok (.land, 1)) (h : jL a &&& jL b = jL z) (k : W p l e R s m args below meth c H locs cells slots Q (F0 m (pc + 1) ls (.long (jL z) :: rest))) : W p l e R s m args below meth c H locs cells slots Q (F0 m pc ls (.long (jL b) :: .long (jL a) :: rest)) := lv_land hexec hb hdg (by rw [h]; exact k)
theorem rm_lor (hexec : p.tables.exec = Jvm.exec) (hb : c.code = cc) {a b z : Int} (hdg : decode cc pc = .ok (.lor, 1)) (h : jL a ||| jL b = jL z) (k : W p l e R s m args below meth c H locs cells slots Q (F0 m (pc + 1) ls (.long (jL z) :: rest))) : W p l e R s m args below meth c H locs cells slots Q (F0 m pc ls (.long (jL b) :: .long (jL a) :: rest)) := lv_lor hexec hb hdg (by rw [h]; exact k)
end RmBits
section RmBitFacts
theorem bt_cnt : ∀ n, n < 32 → ((nI n &&& 31).toBitVec.smod 32).toNat = n := by decide +kernel
theorem bt_shr {a k : Nat} (ha : a < 2147483648) (hk : k < 32) : jI ((a : Nat) : Int) >>> (jI ((k : Nat) : Int) &&& 31) = jI ((a / 2 ^ k : Nat) : Int) := by
  rw [← jI_nI, ← jI_nI, ← jI_nI]
  exact pk_shrN (by omega) _ k (bt_cnt k hk)
theorem bt_shl {a k : Nat} (hk : k < 32) (h : a * 2 ^ k < 4294967296) : jI ((a : Nat) : Int) <<< (jI ((k : Nat) : Int) &&& 31) = jI ((a * 2 ^ k : Nat) : Int) := by
  rw [← jI_nI, ← jI_nI, ← jI_nI]
  exact pk_shlN _ k (bt_cnt k hk) (by omega)
theorem bt_mask {a : Nat} (ha : a < 4294967296) {m : Int} (k : Nat) (hm : (jI m).toBitVec.toNat = 2 ^ k - 1) : jI ((a : Nat) : Int) &&& jI m = jI ((a % 2 ^ k : Nat) : Int) := by
  rw [← jI_nI, ← jI_nI]
  exact pk_andN (by omega) k hm
theorem bt_or (a b : Nat) : jI ((a : Nat) : Int) ||| jI ((b : Nat) : Int) = jI ((a ||| b : Nat) : Int) := by
  rw [← jI_nI, ← jI_nI, ← jI_nI]
  apply Int32.toBitVec_inj.1
  show BitVec.ofNat 32 a ||| BitVec.ofNat 32 b = BitVec.ofNat 32 (a ||| b)
  exact BitVec.ofNat_or.symm
theorem bt_and (a b : Nat) : jI ((a : Nat) : Int) &&& jI ((b : Nat) : Int) = jI ((a &&& b : Nat) : Int) := by
  rw [← jI_nI, ← jI_nI, ← jI_nI]
  apply Int32.toBitVec_inj.1
  show BitVec.ofNat 32 a &&& BitVec.ofNat 32 b = BitVec.ofNat 32 (a &&& b)
  exact BitVec.ofNat_and.symm
theorem bt_test {a k : Nat} : a / 2 ^ k % 2 = 1 ↔ a.testBit k = true := by
  rw [Nat.testBit_eq_decide_div_mod_eq]; simp
theorem bt_lt {a k n : Nat} (ha : a < 2 ^ n) (hk : k < n) : a ||| 2 ^ k < 2 ^ n := Nat.or_lt_two_pow ha (Nat.pow_lt_pow_right (by omega) hk)
theorem bt_pow8 {n : Nat} (h : n ≤ 8) : 2 ^ n ≤ 256 := Nat.pow_le_pow_right (by omega) h
end RmBitFacts
section Joined
/-- a place touches what is reached, by places below i -/
def tch (M : Nat → Nat → Int) (p r : Nat) : Nat → Bool
  | 0 => false
  | i + 1 => tch M p r i || (r.testBit i && decide (0 < M p i))
def jst (n : Nat) (M : Nat → Nat → Int) (p r : Nat) : Nat := if tch M p r n then r ||| 2 ^ p else r
def jrd (n : Nat) (M : Nat → Nat → Int) : Nat → Nat → Nat
  | 0, r => r
  | k + 1, r => jst n M (k + 1) (jrd n M k r)
def jit (n : Nat) (M : Nat → Nat → Int) : Nat → Nat
  | 0 => 1
  | s + 1 => jrd n M (n - 1) (jit n M s)
theorem tch_up {M : Nat → Nat → Int} {p r i : Nat} (h : tch M p r i = true) : ∀ {n : Nat}, i ≤ n → tch M p r n = true
  | 0, hn => by rw [← show i = 0 by omega]; exact h
  | n + 1, hn => by
    rcases Nat.lt_or_ge i (n + 1) with q | q
    · show (tch M p r n || _) = true
      rw [tch_up h (n := n) (by omega), Bool.true_or]
    · rw [← show i = n + 1 by omega]; exact h
theorem jst_lt {n : Nat} {M : Nat → Nat → Int} {p r : Nat} (hp : p < n) (hr : r < 2 ^ n) : jst n M p r < 2 ^ n := by
  unfold jst
  split
  · exact bt_lt hr hp
  · exact hr
theorem jrd_lt {n : Nat} {M : Nat → Nat → Int} {r : Nat} (hr : r < 2 ^ n) : ∀ {k : Nat}, k ≤ n - 1 → jrd n M k r < 2 ^ n
  | 0, _ => hr
  | k + 1, hk => jst_lt (by omega) (jrd_lt hr (k := k) (by omega))
theorem jit_lt {n : Nat} {M : Nat → Nat → Int} (hn : 1 ≤ n) : ∀ s, jit n M s < 2 ^ n
  | 0 => Nat.one_lt_two_pow (by omega)
  | s + 1 => jrd_lt (jit_lt hn s) (Nat.le_refl _)
end Joined
