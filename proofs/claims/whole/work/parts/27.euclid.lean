/-! Euclid's steps; absolute values; signs -/
section RmAbs
variable {p : Program} {l : Launch} {e : Env} {R : Room} {s : State} {m : MethodId} {args : Array Value} {below : List Frame} {meth : Method} {c : Code} {H : Heap} {locs : List Loc} {cells slots : Nat} {Q : State → Prop}
variable {cc : ByteArray} {pc : Nat} {ls : Array Slot} {rest : List Value}
theorem rm_labs (hexec : p.tables.exec = Jvm.exec) (hb : c.code = cc) (hml : c.maxLocals = ls.size) {own : String} {index : Nat} (hown : s.vm.findClass own = some m.cls) (hlink : (Cond.methodLink own index Lib.MathLoose.abs_long.x).before args s = true) (hstat : (Cond.static Lib.MathLoose.abs_long.x).before args s = true) (hini : (Cond.initialized "java/lang/Math").before args s = true) (hcode : (Cond.code Lib.MathLoose.abs_long.x Lib.MathLoose.abs_long.code 2 (some .long)).before args s = true)
    (hframes : 1 ≤ R.frames) (hlocals : (rest.map fun v => v.category).sum + 13 ≤ R.locals) (hc : cells ≤ R.cells) (hs : slots ≤ R.slots) {a : Int} (ha : r64 a) (hdg : decode cc pc = .ok (.invokestatic index, 3))
    (kk : W p l e R s m args below meth c H locs cells slots Q (F0 m (pc + 3) ls (.long (jL ((a.natAbs : Nat) : Int)) :: rest))) : W p l e R s m args below meth c H locs cells slots Q (F0 m pc ls (.long (jL a) :: rest)) :=
  va_mabs_long hexec hb hml hown hlink hstat hini hcode hframes hlocals hc hs hdg (by
    have e : (if 0 < jL a then jL a else - jL a) = jL ((a.natAbs : Nat) : Int) := by
      rw [jL_z]
      by_cases h : 0 < a
      · rw [if_pos ((jL_lt r64_0 ha).mpr h)]; congr 1; omega
      · rw [if_neg (fun q => h ((jL_lt r64_0 ha).mp q)), jL_neg]; congr 1; omega
    rw [e]; exact kk)
theorem rm_lmax (hexec : p.tables.exec = Jvm.exec) (hb : c.code = cc) (hml : c.maxLocals = ls.size) {own : String} {index : Nat} (hown : s.vm.findClass own = some m.cls) (hlink : (Cond.methodLink own index Lib.MathLoose.max_long.x).before args s = true) (hstat : (Cond.static Lib.MathLoose.max_long.x).before args s = true) (hini : (Cond.initialized "java/lang/Math").before args s = true) (hcode : (Cond.code Lib.MathLoose.max_long.x Lib.MathLoose.max_long.code 4 (some .long)).before args s = true)
    (hframes : 1 ≤ R.frames) (hlocals : (rest.map fun v => v.category).sum + 15 ≤ R.locals) (hc : cells ≤ R.cells) (hs : slots ≤ R.slots) {a b : Int} (ha : r64 a) (hb2 : r64 b) (hdg : decode cc pc = .ok (.invokestatic index, 3))
    (kk : W p l e R s m args below meth c H locs cells slots Q (F0 m (pc + 3) ls (.long (jL (if b < a then a else b)) :: rest))) : W p l e R s m args below meth c H locs cells slots Q (F0 m pc ls (.long (jL b) :: .long (jL a) :: rest)) :=
  va_mmax_long hexec hb hml hown hlink hstat hini hcode hframes hlocals hc hs hdg (by
    have e : (if jL b < jL a then jL a else jL b) = jL (if b < a then a else b) := by
      by_cases h : b < a
      · rw [if_pos ((jL_lt hb2 ha).mpr h), if_pos h]
      · rw [if_neg (fun q => h ((jL_lt hb2 ha).mp q)), if_neg h]
    rw [e]; exact kk)
theorem rm_lxor (hexec : p.tables.exec = Jvm.exec) (hb : c.code = cc) {a b z : Int} (hdg : decode cc pc = .ok (.lxor, 1)) (h : jL a ^^^ jL b = jL z) (k : W p l e R s m args below meth c H locs cells slots Q (F0 m (pc + 1) ls (.long (jL z) :: rest))) : W p l e R s m args below meth c H locs cells slots Q (F0 m pc ls (.long (jL b) :: .long (jL a) :: rest)) := lv_lxor hexec hb hdg (by rw [h]; exact k)
end RmAbs
section Euclid
theorem toInt_neg_msb (x : Int64) : x.toInt < 0 ↔ x.toBitVec.msb = true := by
  show x.toBitVec.toInt < 0 ↔ _
  rw [BitVec.msb_eq_toInt]; simp
theorem xor_sign (x y : Int64) : (x ^^^ y).toInt < 0 ↔ ¬ (x.toInt < 0 ↔ y.toInt < 0) := by
  rw [toInt_neg_msb, toInt_neg_msb, toInt_neg_msb, show (x ^^^ y).toBitVec = x.toBitVec ^^^ y.toBitVec from rfl, BitVec.msb_xor]
  cases x.toBitVec.msb <;> cases y.toBitVec.msb <;> simp
def eus : Nat → Nat → Nat → Nat × Nat
  | 0, a, b => (a, b)
  | k + 1, a, b => if (eus k a b).2 = 0 then eus k a b else ((eus k a b).2, (eus k a b).1 % (eus k a b).2)
theorem eus_le (a b : Nat) : ∀ k, (eus k a b).1 ≤ a + b ∧ (eus k a b).2 ≤ a + b
  | 0 => ⟨Nat.le_add_right _ _, Nat.le_add_left _ _⟩
  | k + 1 => by
    have h := eus_le a b k
    unfold eus
    split
    · exact h
    · exact ⟨h.2, Nat.le_trans (Nat.mod_le _ _) h.1⟩
theorem eus_stop {a b k : Nat} (h : (eus k a b).2 = 0) : ∀ d, eus (k + d) a b = eus k a b
  | 0 => rfl
  | d + 1 => by
    show (if (eus (k + d) a b).2 = 0 then eus (k + d) a b else ((eus (k + d) a b).2, (eus (k + d) a b).1 % (eus (k + d) a b).2)) = _
    rw [eus_stop h d, if_pos h]
theorem eus_s {a b k : Nat} (h : (eus k a b).2 ≠ 0) : eus (k + 1) a b = ((eus k a b).2, (eus k a b).1 % (eus k a b).2) := by
  show (if (eus k a b).2 = 0 then eus k a b else _) = _
  rw [if_neg h]
theorem eus_gcd (a b : Nat) : ∀ k, Nat.gcd (eus k a b).1 (eus k a b).2 = Nat.gcd a b
  | 0 => rfl
  | k + 1 => by
    by_cases h : (eus k a b).2 = 0
    · rw [show eus (k + 1) a b = eus k a b from eus_stop h 1]; exact eus_gcd a b k
    · rw [eus_s h, ← eus_gcd a b k]
      show Nat.gcd (eus k a b).2 ((eus k a b).1 % (eus k a b).2) = _
      rw [Nat.gcd_comm, ← Nat.gcd_rec, Nat.gcd_comm]
/-- two steps halve the lesser number -/
theorem eus_half {a b k : Nat} (h : (eus k a b).2 ≠ 0) : 2 * (eus (k + 2) a b).2 < (eus k a b).2 ∨ (eus (k + 2) a b).2 = 0 := by
  by_cases h1 : (eus (k + 1) a b).2 = 0
  · right; rw [show eus (k + 2) a b = eus (k + 1) a b from eus_stop h1 1]; exact h1
  · left
    rw [eus_s h1]
    rw [eus_s h] at h1 ⊢
    show 2 * ((eus k a b).2 % ((eus k a b).1 % (eus k a b).2)) < (eus k a b).2
    have hr := Nat.mod_lt (eus k a b).1 (show 0 < (eus k a b).2 by omega)
    have h2 : (eus k a b).1 % (eus k a b).2 ≠ 0 := h1
    generalize (eus k a b).1 % (eus k a b).2 = r at *
    generalize (eus k a b).2 = y at *
    have h3 := Nat.mod_lt y (show 0 < r by omega)
    have h4 := Nat.div_add_mod y r
    have h5 : 1 ≤ y / r := Nat.div_pos (by omega) (by omega)
    have h6 : r * 1 ≤ r * (y / r) := Nat.mul_le_mul_left r h5
    omega
theorem eus_end {a b : Nat} : ∀ (m k : Nat), (eus k a b).2 < 2 ^ m → (eus (k + 2 * m + 1) a b).2 = 0
  | 0, k, h => by
    have h0 : (eus k a b).2 = 0 := by
      have : 2 ^ 0 = 1 := rfl
      omega
    show (eus (k + 1) a b).2 = 0
    rw [eus_stop h0 1]; exact h0
  | m + 1, k, h => by
    by_cases h0 : (eus k a b).2 = 0
    · rw [show k + 2 * (m + 1) + 1 = k + (2 * (m + 1) + 1) by omega, eus_stop h0]; exact h0
    · rcases eus_half h0 with h1 | h1
      · rw [show k + 2 * (m + 1) + 1 = (k + 2) + 2 * m + 1 by omega]
        exact eus_end m (k + 2) (by rw [Nat.pow_succ] at h; omega)
      · rw [show k + 2 * (m + 1) + 1 = (k + 2) + (2 * m + 1) by omega, eus_stop h1]; exact h1
theorem eus_100 {a b : Nat} (h : b < 281474976710656) : (eus 100 a b).1 = Nat.gcd a b := by
  have h1 : (eus 97 a b).2 = 0 := eus_end 48 0 h
  have h2 : eus 100 a b = eus 97 a b := eus_stop h1 3
  have h3 := eus_gcd a b 97
  rw [h1, Nat.gcd_zero_right] at h3
  rw [h2, h3]
theorem fmod_case {a b : Int} (hb : 0 < b) : (0 ≤ a → Int.tmod a b = a % b) ∧ (a < 0 → (Int.tmod a b = 0 ∧ a % b = 0) ∨ (Int.tmod a b ≠ 0 ∧ -b < Int.tmod a b ∧ Int.tmod a b < 0 ∧ a % b = Int.tmod a b + b)) := by
  refine ⟨fun h => Int.tmod_eq_emod_of_nonneg h, fun h => ?_⟩
  have h1 : Int.tmod a b = - ((-a) % b) := by
    rw [← Int.tmod_eq_emod_of_nonneg (show 0 ≤ -a by omega), Int.neg_tmod, Int.neg_neg]
  have h2 := Int.emod_nonneg (-a) (show b ≠ 0 by omega)
  have h3 := Int.emod_lt_of_pos (-a) hb
  have h4 := Int.emod_nonneg a (show b ≠ 0 by omega)
  have h5 := Int.emod_lt_of_pos a hb
  have h6 := Int.emod_add_mul_ediv a b
  have h7 := Int.emod_add_mul_ediv (-a) b
  have h8 : (a % b + (-a) % b) = b * (- (a / b) - (-a) / b) := by rw [Int.mul_sub, Int.mul_neg]; omega
  generalize hq : - (a / b) - (-a) / b = q at h8
  have h9 : q = 0 ∨ q = 1 := by
    rcases Int.lt_or_le q 0 with e | e
    · have : b * q ≤ b * (-1) := Int.mul_le_mul_of_nonneg_left (by omega) (by omega)
      omega
    · rcases Int.lt_or_le 1 q with e2 | e2
      · have : b * 2 ≤ b * q := Int.mul_le_mul_of_nonneg_left (by omega) (by omega)
        omega
      · omega
  rcases h9 with e | e
  · rw [e] at h8; left; omega
  · rw [e] at h8
    by_cases z : (-a) % b = 0
    · omega
    · right; omega
end Euclid
section OfWF
theorem Met.ofWF {l : Launch} {y : MethodName} {ws ws' : List Cond} {rm : Room} {Pc : Array Value → State → Prop} {Qc : Array Value → State → Outcome → State → Prop} {mc ms : Nat} {free : Addr → Prop} {cc : ByteArray} {maxL : Nat} {ret : Option FieldType}
    (hy : plainFor y = true) (hw : ws = Cond.code y cc maxL ret :: ws')
    (body : ∀ p e s m args below meth c s₁, BodyLoose p l y (headSpec ws rm) cc maxL ret e s m args below meth c s₁ → c.maxLocals = maxL → Pc args s →
      W p l e (headSpec ws rm).room s m args below meth c s.heap [] 0 0 (MQ below Qc args s mc ms free) (entryFrame m args maxL)) : Met l y ws rm Pc Qc mc ms free := by
  refine MetFree.of_bodySF (code := cc) (maxLocals := maxL) (ret := ret) hy ?_ ?_
  · intro args s m h hn
    obtain ⟨meth, c, h1, h2, h3, h4, h5, h6, -, -⟩ := Cond.code_spec hn (atoms_spec (ws := ws) h _ (by rw [hw]; exact List.mem_cons_self))
    exact ⟨meth, c, h1, h2, h3, h4, h5, h6⟩
  · intro p e s m args below meth c s₁ B hml hP _
    have hh0 : s₁.heap = s.heap := by rw [B.state]; rfl
    obtain ⟨t, a1, o, b1, b2, b3⟩ := body p e s m args below meth c s₁ B hml hP s₁ hh0 (Stand.of_body B)
    exact ⟨t, o, a1, b1, b2, ⟨b3.1, b3.2⟩⟩
set_option maxRecDepth 100000 in
theorem plain_floorMod : plainFor yJ9_floorMod_f86c9 = true := by decide +kernel
end OfWF
