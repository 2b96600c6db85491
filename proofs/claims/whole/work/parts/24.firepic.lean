/-! pictures of burning and of trees -/
section FirePic
/-- what a place wants to burn in round r, counting the places below i -/
def ltb (M : Nat → Nat → Int) (d rd : Nat → Int) (p : Nat) (r : Int) (i : Nat) : Int := d p - gs (fun o => if rd o ≠ -1 ∧ rd o < r then M p o else 0) i
theorem ltb_s (M : Nat → Nat → Int) (d rd : Nat → Int) (p : Nat) (r : Int) (i : Nat) : ltb M d rd p r (i + 1) = ltb M d rd p r i - (if rd i ≠ -1 ∧ rd i < r then M p i else 0) := by
  unfold ltb; rw [gs_s]; omega
theorem ltb_0 (M : Nat → Nat → Int) (d rd : Nat → Int) (p : Nat) (r : Int) : ltb M d rd p r 0 = d p := by unfold ltb; rw [gs_z]; omega
theorem ltb_rng {M : Nat → Nat → Int} (hM : ∀ i j, 0 ≤ M i j ∧ M i j ≤ 3) (d rd : Nat → Int) (p : Nat) (r : Int) : ∀ i : Nat, d p - 3 * i ≤ ltb M d rd p r i ∧ ltb M d rd p r i ≤ d p
  | 0 => by rw [ltb_0]; omega
  | i + 1 => by
    have h := ltb_rng hM d rd p r i
    have h2 := hM p i
    rw [ltb_s]
    split <;> omega
/-- a place burns in round r, if it may -/
def bst (n : Nat) (M : Nat → Nat → Int) (d g : Nat → Int) (r : Int) (p : Nat) (rd : Nat → Int) : Nat → Int := if rd p = -1 ∧ ltb M d rd p r n ≤ g p then ub rd p r else rd
def brd (n : Nat) (M : Nat → Nat → Int) (d g : Nat → Int) (r : Int) : Nat → (Nat → Int) → Nat → Int
  | 0, rd => rd
  | k + 1, rd => bst n M d g r (k + 1) (brd n M d g r k rd)
def rd0 : Nat → Int := fun q => if q = 0 then 0 else -1
def bit (n : Nat) (M : Nat → Nat → Int) (d g : Nat → Int) : Nat → Nat → Int
  | 0 => rd0
  | s + 1 => brd n M d g ((s + 1 : Nat) : Int) (n - 1) (bit n M d g s)
theorem bit_s (n : Nat) (M : Nat → Nat → Int) (d g : Nat → Int) (s : Nat) : bit n M d g (s + 1) = brd n M d g ((s + 1 : Nat) : Int) (n - 1) (bit n M d g s) := rfl
theorem brd_s (n : Nat) (M : Nat → Nat → Int) (d g : Nat → Int) (r : Int) (k : Nat) (rd : Nat → Int) : brd n M d g r (k + 1) rd = bst n M d g r (k + 1) (brd n M d g r k rd) := rfl
theorem bst_rng {n : Nat} {M : Nat → Nat → Int} {d g : Nat → Int} {r : Int} {p : Nat} {rd : Nat → Int} (hr : 0 ≤ r ∧ r ≤ 8) (h : ∀ q, -1 ≤ rd q ∧ rd q ≤ 8) : ∀ q, -1 ≤ bst n M d g r p rd q ∧ bst n M d g r p rd q ≤ 8 := fun q => by
  unfold bst
  split
  · by_cases e : q = p
    · subst e; rw [ub_s]; omega
    · rw [ub_n _ _ e]; exact h q
  · exact h q
theorem brd_rng {n : Nat} {M : Nat → Nat → Int} {d g : Nat → Int} {r : Int} {rd : Nat → Int} (hr : 0 ≤ r ∧ r ≤ 8) (h : ∀ q, -1 ≤ rd q ∧ rd q ≤ 8) : ∀ k q, -1 ≤ brd n M d g r k rd q ∧ brd n M d g r k rd q ≤ 8
  | 0, q => h q
  | k + 1, q => bst_rng hr (brd_rng hr h k) q
theorem rd0_rng (q : Nat) : -1 ≤ rd0 q ∧ rd0 q ≤ 8 := by unfold rd0; split <;> omega
theorem bit_rng {n : Nat} {M : Nat → Nat → Int} {d g : Nat → Int} : ∀ s, s ≤ 8 → ∀ q, -1 ≤ bit n M d g s q ∧ bit n M d g s q ≤ 8
  | 0, _, q => rd0_rng q
  | s + 1, hs, q => brd_rng ⟨by omega, by omega⟩ (bit_rng s (by omega)) _ q
/-- paths to the places below i of the round ahead -/
def pbk (M : Nat → Nat → Int) (rd : Nat → Int) (p : Nat) (i : Nat) : Int := gs (fun o => if rd o = rd p - 1 then M p o else 0) i
theorem pbk_s (M : Nat → Nat → Int) (rd : Nat → Int) (p i : Nat) : pbk M rd p (i + 1) = pbk M rd p i + (if rd i = rd p - 1 then M p i else 0) := rfl
theorem pbk_rng {M : Nat → Nat → Int} (hM : ∀ i j, 0 ≤ M i j ∧ M i j ≤ 3) (rd : Nat → Int) (p : Nat) : ∀ i : Nat, 0 ≤ pbk M rd p i ∧ pbk M rd p i ≤ 3 * i
  | 0 => by show 0 ≤ (0 : Int) ∧ (0 : Int) ≤ _; omega
  | i + 1 => by
    have h := pbk_rng hM rd p i
    have h2 := hM p i
    rw [pbk_s]
    split <;> omega
/-- the first place, from i on, up to which there are more paths than rank -/
def ldf (M : Nat → Nat → Int) (rd : Nat → Int) (p : Nat) (rank : Int) : Nat → Nat → Int
  | 0, _ => -1
  | k + 1, i => if rank < pbk M rd p (i + 1) then (i : Int) else ldf M rd p rank k (i + 1)
theorem ldf_rng (M : Nat → Nat → Int) (rd : Nat → Int) (p : Nat) (rank : Int) : ∀ k i : Nat, -1 ≤ ldf M rd p rank k i ∧ ldf M rd p rank k i < i + k
  | 0, i => by show -1 ≤ (-1 : Int) ∧ (-1 : Int) < _; omega
  | k + 1, i => by
    have h := ldf_rng M rd p rank k (i + 1)
    unfold ldf
    split
    · omega
    · omega
/-- where a told tree leads from a place, and by which path -/
def tgt (tr p : Nat) : Nat := tr / 2 ^ (5 * (p - 1)) % 8
def pth (tr p : Nat) : Nat := tr / 2 ^ (5 * (p - 1) + 3) % 4
theorem tgt_lt (tr p : Nat) : tgt tr p < 8 := Nat.mod_lt _ (by decide)
theorem pth_lt (tr p : Nat) : pth tr p < 4 := Nat.mod_lt _ (by decide)
def fst9 (tr : Nat) (r : Int) (p : Nat) (rd : Nat → Int) : Nat → Int := if rd (tgt tr p) = r - 1 then ub rd p r else rd
def frd (tr : Nat) (r : Int) : Nat → (Nat → Int) → Nat → Int
  | 0, rd => rd
  | k + 1, rd => fst9 tr r (k + 1) (frd tr r k rd)
def fit9 (n tr : Nat) : Nat → Nat → Int
  | 0 => rd0
  | s + 1 => frd tr ((s + 1 : Nat) : Int) (n - 1) (fit9 n tr s)
theorem fst9_rng {tr : Nat} {r : Int} {p : Nat} {rd : Nat → Int} (hr : 0 ≤ r ∧ r ≤ 8) (h : ∀ q, -1 ≤ rd q ∧ rd q ≤ 8) : ∀ q, -1 ≤ fst9 tr r p rd q ∧ fst9 tr r p rd q ≤ 8 := fun q => by
  unfold fst9
  split
  · by_cases e : q = p
    · subst e; rw [ub_s]; omega
    · rw [ub_n _ _ e]; exact h q
  · exact h q
theorem frd_rng {tr : Nat} {r : Int} {rd : Nat → Int} (hr : 0 ≤ r ∧ r ≤ 8) (h : ∀ q, -1 ≤ rd q ∧ rd q ≤ 8) : ∀ k q, -1 ≤ frd tr r k rd q ∧ frd tr r k rd q ≤ 8
  | 0, q => h q
  | k + 1, q => fst9_rng hr (frd_rng hr h k) q
theorem fit9_rng {n tr : Nat} : ∀ s, s ≤ 8 → ∀ q, -1 ≤ fit9 n tr s q ∧ fit9 n tr s q ≤ 8
  | 0, _, q => rd0_rng q
  | s + 1, hs, q => frd_rng ⟨by omega, by omega⟩ (fit9_rng s (by omega)) _ q
def FireAt (ty : Nat → ClassId) (ad : Nat → Nat) (ct : rm_C) (fo fr : Nat) (rd : Nat → Int) : Prop := ct fo = some (.inr (0, [.ref (ad fr)])) ∧ ct fr = some (ri ty 8 rd)
theorem bt_mask9 (a : Nat) {m : Int} (k : Nat) (hk : k ≤ 32) (hm : (jI m).toBitVec.toNat = 2 ^ k - 1) : jI ((a : Nat) : Int) &&& jI m = jI ((a % 2 ^ k : Nat) : Int) := by
  rw [← jI_nI, ← jI_nI, pk_and _ k hm]
  congr 1
  show (BitVec.ofNat 32 a).toNat % 2 ^ k = a % 2 ^ k
  rw [BitVec.toNat_ofNat]
  exact Nat.mod_mod_of_dvd a (Nat.pow_dvd_pow 2 hk)
theorem jL_nat (n : Nat) : lN n = jL n := by
  unfold lN jL
  rw [Int64.ofInt_eq_ofNat]
theorem wbx_cu : ∀ k, k < 64 → ((nI k).toInt64.toUInt64 &&& Int64.toUInt64 63) = UInt64.ofNat k := by decide +kernel
theorem bt_lushr {a k : Nat} (ha : a < 18446744073709551616) (hk : k < 64) : ((jL ((a : Nat) : Int)).toUInt64 >>> ((jI ((k : Nat) : Int)).toInt64.toUInt64 &&& Int64.toUInt64 63)).toInt64 = jL ((a / 2 ^ k : Nat) : Int) := by
  rw [← jI_nI, ← jL_nat, ← jL_nat, wbx_cu k hk]
  apply Int64.toBitVec_inj.mp
  apply BitVec.eq_of_toNat_eq
  show ((lN a).toUInt64 >>> UInt64.ofNat k).toNat = (BitVec.ofNat 64 _).toNat
  have h1 : (UInt64.ofNat k).toNat = k := by
    show (BitVec.ofNat 64 k).toNat = k
    rw [BitVec.toNat_ofNat, Nat.mod_eq_of_lt (by omega)]
  have h2 : (lN a).toUInt64.toNat = a := by
    show (BitVec.ofNat 64 a).toNat = a
    rw [BitVec.toNat_ofNat, Nat.mod_eq_of_lt (by omega)]
  rw [UInt64.toNat_shiftRight, h1, h2, Nat.mod_eq_of_lt hk, Nat.shiftRight_eq_div_pow, BitVec.toNat_ofNat, Nat.mod_eq_of_lt (Nat.lt_of_le_of_lt (Nat.div_le_self _ _) (by omega))]
end FirePic
