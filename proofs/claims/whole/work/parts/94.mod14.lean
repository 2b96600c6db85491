section ModPic11
/-- set bits below a; where the i-th stands; the minor that bits tell -/
def cb (r : Nat) : Nat → Nat
  | 0 => 0
  | a + 1 => cb r a + r / 2 ^ a % 2
theorem cb_s (r a : Nat) : cb r (a + 1) = cb r a + r / 2 ^ a % 2 := rfl
theorem cb_le (r : Nat) : ∀ a, cb r a ≤ a
  | 0 => Nat.le_refl 0
  | a + 1 => by
    have h := cb_le r a
    have h2 := Nat.mod_lt (r / 2 ^ a) (show 0 < 2 by decide)
    rw [cb_s]; omega
theorem cb_mono (r : Nat) {a : Nat} : ∀ {b : Nat}, a ≤ b → cb r a ≤ cb r b
  | 0, h => by rw [show a = 0 by omega]; exact Nat.le_refl _
  | b + 1, h => by
    rcases Nat.lt_or_ge b a with e | e
    · rw [show a = b + 1 by omega]; exact Nat.le_refl _
    · have := cb_mono r (b := b) e
      rw [cb_s]; omega
theorem cb_lt {r a b : Nat} (ha : r / 2 ^ a % 2 = 1) (h : a < b) : cb r a < cb r b := by
  have h1 := cb_mono r (show a + 1 ≤ b by omega)
  rw [cb_s, ha] at h1; omega
theorem cb_inj {r a b : Nat} (ha : r / 2 ^ a % 2 = 1) (hb : r / 2 ^ b % 2 = 1) (h : cb r a = cb r b) : a = b := by
  rcases Nat.lt_trichotomy a b with e | e | e
  · have := cb_lt ha e; omega
  · exact e
  · have := cb_lt hb e; omega
theorem cb_stop {r i : Nat} (h : r / 2 ^ i = 0) : ∀ j, cb r (i + j) = cb r i
  | 0 => rfl
  | j + 1 => by
    show cb r (i + j) + r / 2 ^ (i + j) % 2 = _
    rw [cb_stop h j, Nat.pow_add, ← Nat.div_div_eq_div_mul, h, Nat.zero_div]; rfl
theorem cb_ex {r : Nat} : ∀ {b i : Nat}, i < cb r b → ∃ a, a < b ∧ r / 2 ^ a % 2 = 1 ∧ cb r a = i
  | 0, i, h => absurd h (Nat.not_lt_zero _)
  | b + 1, i, h => by
    rcases Nat.lt_or_ge i (cb r b) with e | e
    · obtain ⟨a, h1, h2, h3⟩ := cb_ex e; exact ⟨a, by omega, h2, h3⟩
    · rw [cb_s] at h
      have h2 := Nat.mod_lt (r / 2 ^ b) (show 0 < 2 by decide)
      exact ⟨b, by omega, by omega, by omega⟩
def nb (r i : Nat) : Nat := ((List.range 7).find? (fun a => decide (r / 2 ^ a % 2 = 1 ∧ cb r a = i))).getD 0
theorem nb_at {r a : Nat} (ha : a < 7) (hb : r / 2 ^ a % 2 = 1) : nb r (cb r a) = a := by
  unfold nb
  cases h : (List.range 7).find? (fun a' => decide (r / 2 ^ a' % 2 = 1 ∧ cb r a' = cb r a)) with
  | none =>
    have h1 := List.find?_eq_none.mp h a (List.mem_range.mpr ha)
    exact absurd (decide_eq_true (show r / 2 ^ a % 2 = 1 ∧ cb r a = cb r a from ⟨hb, rfl⟩)) h1
  | some x =>
    have h0 := List.find?_some (p := fun a' => decide (r / 2 ^ a' % 2 = 1 ∧ cb r a' = cb r a)) h
    have h1 := of_decide_eq_true h0
    exact cb_inj h1.1 hb h1.2
theorem nb_lt {r i : Nat} (h : i < cb r 7) : nb r i < 7 ∧ r / 2 ^ nb r i % 2 = 1 ∧ cb r (nb r i) = i := by
  obtain ⟨a, h1, h2, h3⟩ := cb_ex h
  rw [← h3, nb_at h1 h2]; exact ⟨h1, h2, rfl⟩
theorem bit_in {r a m : Nat} (hr : r < 2 ^ m) (h : r / 2 ^ a % 2 = 1) : a < m := by
  rcases Nat.lt_or_ge a m with e | e
  · exact e
  · have h1 : 2 ^ m ≤ 2 ^ a := Nat.pow_le_pow_right (by omega) e
    rw [Nat.div_eq_of_lt (by omega)] at h; omega
def mnr (n : Nat) (M : Nat → Nat → Int) (r c : Nat) : Int := dt (cb r 7) (fun i j => lap n M (nb r i + 1) (nb c j + 1))
theorem p21 : ∀ q, q ≤ 7 → (21 : Int) ^ q < 2147483648 := by decide
theorem mnr_rng {n : Nat} {M : Nat → Nat → Int} (hy : yok n M) {r c : Nat} (hr : r < 2 ^ (n - 1)) (hc : c < 2 ^ (n - 1)) (hrc : cb r 7 = cb c 7) : -2147483648 < mnr n M r c ∧ mnr n M r c < 2147483648 := by
  have h7 := cb_le r 7
  have h := tub_any hy (k := cb r 7) (fun j => nb c j + 1) (fun i => nb r i + 1) (fun j hj => by
    have h1 := nb_lt (r := c) (i := j) (by omega)
    have h2 := bit_in hc h1.2.1
    omega) (fun i hi => by
    have h1 := nb_lt hi
    have h2 := bit_in hr h1.2.1
    omega)
  have h2 := p21 _ h7
  unfold mnr; omega
theorem mnr_bd {n : Nat} {M : Nat → Nat → Int} (hy : yok n M) {r c : Nat} (hr : r < 2 ^ (n - 1)) (hc : c < 2 ^ (n - 1)) (hrc : cb r 7 = cb c 7) {A : Nat → Nat → Int} (hA : ∀ a b, a < 7 → r / 2 ^ a % 2 = 1 → b < 7 → c / 2 ^ b % 2 = 1 → A (cb r a) (cb c b) = lap n M (a + 1) (b + 1)) : bdA (cb r 7) A ∧ dt (cb r 7) A = mnr n M r c := by
  have h7 := cb_le r 7
  have hAe : ∀ i j, i < cb r 7 → j < cb r 7 → A i j = lap n M (nb r i + 1) (nb c j + 1) := fun i j hi hj => by
    have h1 := nb_lt hi
    have h2 := nb_lt (r := c) (i := j) (by omega)
    have h3 := hA _ _ h1.1 h1.2.1 h2.1 h2.2.1
    rw [h1.2.2, h2.2.2] at h3; exact h3
  refine ⟨fun q hq σ τ hσ hτ => ?_, dt_cong hAe⟩
  have e : dt q (fun r' y => A (σ r') (τ y)) = dt q (fun r' y => lap n M (nb r (σ r') + 1) (nb c (τ y) + 1)) := dt_cong (fun i j hi hj => hAe _ _ (hσ i hi) (hτ j hj))
  rw [e]
  have h := tub_any hy (k := q) (fun j => nb c (τ j) + 1) (fun i => nb r (σ i) + 1) (fun j hj => by
    have h1 := nb_lt (r := c) (i := τ j) (by have := hτ j hj; omega)
    have h2 := bit_in hc h1.2.1
    omega) (fun i hi => by
    have h1 := nb_lt (hσ i hi)
    have h2 := bit_in hr h1.2.1
    omega)
  have h2 := p21 q (by omega)
  omega
end ModPic11
set_option maxHeartbeats 4000000 in
set_option maxRecDepth 100000 in
theorem c_X6_all (l : Launch) (D : va_G) (ty : Nat → ClassId) (ad : Nat → Nat) (ct : rm_C) (sz : Nat) (th : Int) (yc hc : Nat) (yn : Nat → Nat) (yM : Nat → Nat → Nat → Int) (yu : Nat → Int) (hy : Nat → Nat) (hg hf mA : Nat → Nat → Int) (pt ro ke kt mu sl tw bw de : Nat → Int) (hMo : ModAt ty ad ct th yc hc yn yM yu hy hg hf mA pt ro ke kt mu sl tw bw de) (y9 : Nat) (hy9 : y9 < 6) (hn9 : 2 ≤ yn y9 ∧ yn y9 ≤ 8) : Met l yX6_all wsX6_all ({ frames := 0, cells := 0, slots := 0, locals := 0 }) (rm_P D ty ad ct sz [.ref (ad 1000), .int (jI ((y9 : Nat) : Int))]) (rm_Qi D ad ct sz (fun z ct1 => z = ((2 ^ ((yn y9) - 1) - 1 : Nat) : Int) ∧ ct1 = ct)) 0 0 (rm_A ad ct sz) := by
  refine Met.ofW (cc := cX6_all) (maxL := 2) (ret := (some .int)) (by decide) rfl ?_
  intro p e s m args below meth c s₁ B hml hv
  obtain ⟨hargs, hsz, hW, hK, hNw⟩ := hv
  have hx := B.exec
  have hb := B.bytes
  have hr := B.returns
  have hts := atoms_spec (ws := wsX6_all) B.pre
  have hown : s.vm.findClass RX6 = some m.cls := findClass_of_methodNamed B.named
  have hlocks := B.notSynchronized
  subst hsz
  have hW := hW.own (sz := s.heap.size)
  have hA : ∀ q : Nat, s.heap.size ≤ q → rm_A ad ct s.heap.size q := fun q h => Or.inr h
  have hS : va_S (rm_A ad ct s.heap.size) s.heap s.heap [] := va_S.rf
  have hent : entryFrame m args 2 = entryFrame m ([.ref (ad 1000), .int (jI ((y9 : Nat) : Int))] : List Value).toArray 2 := by rw [hargs]
  have hl := lv_entry ([.ref (ad 1000), .int (jI ((y9 : Nat) : Int))]) (n := 2) (Nat.le_of_ble_eq_true rfl)
  rw [hent, lg_entry_eq]
  generalize (lg_sl ([.ref (ad 1000), .int (jI ((y9 : Nat) : Int))]) ++ List.replicate (2 - (lg_sl ([.ref (ad 1000), .int (jI ((y9 : Nat) : Int))])).length) Slot.unset).toArray = ls at hl ⊢
  have hl : lv_has ls 2 [(0, .ref (ad 1000)), (1, .int (jI ((y9 : Nat) : Int)))] := hl
  have hp2 : 2 ^ ((yn y9) - 1) ≤ 2 ^ 7 := Nat.pow_le_pow_right (by omega) (by omega)
  have hp1 := Nat.one_le_two_pow (n := (yn y9) - 1)
  refine lv_iconst (v := jI 1) hx hb dX6_all_0 rfl ?_
  refine lv_aload_n hx hb dX6_all_1 rfl (lv_at hl 0 rfl) ?_
  refine rm_get (ci := 6) (v := .ref (ad 1001)) (C := RX6) (T := TX6) (N := 19) hx hb hts (by decide +kernel) hown hK hW hMo.1 rfl 3 (by decide) (hts (.fieldLink RX6 7 "GrainYardModel" "places" "[I") (by decide +kernel)) (fun _ h9 => h9) rfl dX6_all_2 ?_
  refine lv_iload_n hx hb dX6_all_5 rfl (lv_at hl 1 rfl) ?_
  refine rm_iald hx hb hK hW (f := (fun y => ((yn y : Nat) : Int))) hMo.2.1 y9 rfl (by omega) (by omega) dX6_all_6 ?_
  refine lv_iconst (v := jI 1) hx hb dX6_all_7 rfl ?_
  refine rm_isub hx hb dX6_all_8 ?_
  rw [show (((yn y9) : Nat) : Int) - 1 = (((yn y9) - 1 : Nat) : Int) by omega]
  refine rm_ishl (z := (((1 * 2 ^ ((yn y9) - 1)) : Nat) : Int)) hx hb dX6_all_9 (bt_shl (by omega) (by first | omega | (rw [Nat.one_mul]; omega))) ?_
  refine lv_iconst (v := jI 1) hx hb dX6_all_10 rfl ?_
  refine rm_isub hx hb dX6_all_11 ?_
  rw [show ((1 * 2 ^ ((yn y9) - 1) : Nat) : Int) - 1 = ((2 ^ ((yn y9) - 1) - 1 : Nat) : Int) by rw [Nat.one_mul]; omega]
  exact W.iret hx hb hr (fun t ht hw => ⟨⟨_, ((((2 ^ ((yn y9) - 1) - 1) : Nat) : Int), ct), rfl, ⟨rfl, ⟨rfl, rfl⟩⟩, by show rm_W D ad _ _ t.heap; rw [ht]; exact hW⟩, hS.F ht⟩) hS.2.2 dX6_all_12
set_option maxHeartbeats 4000000 in
set_option maxRecDepth 100000 in
theorem c_X6_many (l : Launch) (D : va_G) (ty : Nat → ClassId) (ad : Nat → Nat) (ct : rm_C) (sz : Nat) (b9 : Nat) (hb9 : b9 < 128) : Met l yX6_many wsX6_many ({ frames := 0, cells := 0, slots := 0, locals := 0 }) (rm_P D ty ad ct sz [.int (jI ((b9 : Nat) : Int))]) (rm_Qi D ad ct sz (fun z ct1 => z = ((cb b9 7 : Nat) : Int) ∧ ct1 = ct)) 0 0 (rm_A ad ct sz) := by
  refine Met.ofW (cc := cX6_many) (maxL := 3) (ret := (some .int)) (by decide) rfl ?_
  intro p e s m args below meth c s₁ B hml hv
  obtain ⟨hargs, hsz, hW, hK, hNw⟩ := hv
  have hx := B.exec
  have hb := B.bytes
  have hr := B.returns
  have hts := atoms_spec (ws := wsX6_many) B.pre
  have hown : s.vm.findClass RX6 = some m.cls := findClass_of_methodNamed B.named
  have hlocks := B.notSynchronized
  subst hsz
  have hW := hW.own (sz := s.heap.size)
  have hA : ∀ q : Nat, s.heap.size ≤ q → rm_A ad ct s.heap.size q := fun q h => Or.inr h
  have hS : va_S (rm_A ad ct s.heap.size) s.heap s.heap [] := va_S.rf
  have hent : entryFrame m args 3 = entryFrame m ([.int (jI ((b9 : Nat) : Int))] : List Value).toArray 3 := by rw [hargs]
  have hl := lv_entry ([.int (jI ((b9 : Nat) : Int))]) (n := 3) (Nat.le_of_ble_eq_true rfl)
  rw [hent, lg_entry_eq]
  generalize (lg_sl ([.int (jI ((b9 : Nat) : Int))]) ++ List.replicate (3 - (lg_sl ([.int (jI ((b9 : Nat) : Int))])).length) Slot.unset).toArray = ls at hl ⊢
  have hl : lv_has ls 3 [(0, .int (jI ((b9 : Nat) : Int)))] := hl
  refine lv_iconst (v := jI 0) hx hb dX6_many_0 rfl ?_
  refine lv_istore_n (lv' := [(1, .int (jI 0)), (0, .int (jI ((b9 : Nat) : Int)))]) hx hb dX6_many_1 rfl hl (by decide) rfl (fun ls hl => ?_)
  refine lv_iload_n hx hb dX6_many_2 rfl (lv_at hl 1 rfl) ?_
  refine lv_istore_n (lv' := [(2, .int (jI ((b9 : Nat) : Int))), (1, .int (jI 0)), (0, .int (jI ((b9 : Nat) : Int)))]) hx hb dX6_many_3 rfl hl (by decide) rfl (fun ls hl => ?_)
  have hl : lv_has ls 3 [(2, .int (jI (((b9 / 2 ^ 0) : Nat) : Int))), (1, .int (jI (((cb b9 0) : Nat) : Int))), (0, .int (jI ((b9 : Nat) : Int)))] := by rw [Nat.pow_zero, Nat.div_one]; exact hl
  have LP : ∀ (k : Nat) (i8 : Nat) (hi8 : i8 ≤ 7), 7 - i8 < k → ∀ (H : Heap) (locs : List Loc), rm_W D ad ct (rm_A ad ct s.heap.size) H → va_S (rm_A ad ct s.heap.size) s.heap H locs → ∀ ls : Array Slot, lv_has ls 3 [(2, .int (jI (((b9 / 2 ^ i8) : Nat) : Int))), (1, .int (jI (((cb b9 i8) : Nat) : Int)))] → W p l e (headSpec wsX6_many ({ frames := 0, cells := 0, slots := 0, locals := 0 })).room s m args below meth c H locs 0 0 (MQ below (rm_Qi D ad ct s.heap.size (fun z ct1 => z = ((cb b9 7 : Nat) : Int) ∧ ct1 = ct)) args s 0 0 (rm_A ad ct s.heap.size)) (F0 m 4 ls []) := by
    intro k
    induction k with
    | zero => intro i8 hi8 hk; exact absurd hk (Nat.not_lt_zero _)
    | succ k ih_LP =>
      intro i8 hi8 hk  H locs   hW hS ls hl
      have hvl : b9 / 2 ^ i8 < 128 := Nat.lt_of_le_of_lt (Nat.div_le_self _ _) hb9
      have hcl := cb_le b9 i8
      have hv0 : 0 ≤ ((b9 / 2 ^ i8 : Nat) : Int) := Int.natCast_nonneg _
      refine lv_iload_n hx hb dX6_many_4 rfl (lv_at hl 0 rfl) ?_
      refine rm_if_le (tgt := 21) hx hb ⟨by omega, by omega⟩ dX6_many_5 (by decide) (fun hc_2 => ?_) (fun hc_2 => ?_)
      · skip
        have hz0 : b9 / 2 ^ i8 = 0 := by omega
        have hst := cb_stop hz0 (7 - i8)
        rw [show i8 + (7 - i8) = 7 by omega] at hst
        refine lv_iload_n hx hb dX6_many_21 rfl (lv_at hl 1 rfl) ?_
        exact W.iret hx hb hr (fun t ht hw => ⟨⟨_, ((((cb b9 i8) : Nat) : Int), ct), rfl, ⟨rfl, ⟨by rw [hst], rfl⟩⟩, by show rm_W D ad _ _ t.heap; rw [ht]; exact hW⟩, hS.F ht⟩) hS.2.2 dX6_many_22
      · skip
        have hi7 : i8 < 7 := by
          rcases Nat.lt_or_ge i8 7 with h | h
          · exact h
          · exfalso
            have h1 : 2 ^ 7 ≤ 2 ^ i8 := Nat.pow_le_pow_right (by omega) h
            have h2 : b9 / 2 ^ i8 = 0 := Nat.div_eq_of_lt (by omega)
            omega
        refine lv_iload_n hx hb dX6_many_8 rfl (lv_at hl 1 rfl) ?_
        refine lv_iload_n hx hb dX6_many_9 rfl (lv_at hl 0 rfl) ?_
        refine lv_iconst (v := jI 1) hx hb dX6_many_10 rfl ?_
        refine rm_iand (z := ((((b9 / 2 ^ i8) % 2 ^ 1) : Nat) : Int)) hx hb dX6_many_11 (bt_mask (by omega) 1 (by decide)) ?_
        refine rm_iadd hx hb dX6_many_12 ?_
        refine lv_istore_n (lv' := [(1, .int (jI ((((cb b9 i8) : Nat) : Int) + ((((b9 / 2 ^ i8) % 2 ^ 1) : Nat) : Int)))), (2, .int (jI (((b9 / 2 ^ i8) : Nat) : Int)))]) hx hb dX6_many_13 rfl hl (by decide) rfl (fun ls hl => ?_)
        have hl : lv_has ls 3 [(1, .int (jI (((cb b9 (i8 + 1)) : Nat) : Int))), (2, .int (jI (((b9 / 2 ^ i8) : Nat) : Int)))] := by rw [cb_s b9 i8]; push_cast; push_cast at hl; exact hl
        refine lv_iload_n hx hb dX6_many_14 rfl (lv_at hl 1 rfl) ?_
        refine lv_iconst (v := jI 1) hx hb dX6_many_15 rfl ?_
        refine rm_ishr (z := ((((b9 / 2 ^ i8) / 2 ^ 1) : Nat) : Int)) hx hb dX6_many_16 (bt_shr (by omega) (by first | omega | decide)) ?_
        refine lv_istore_n (lv' := [(2, .int (jI ((((b9 / 2 ^ i8) / 2 ^ 1) : Nat) : Int))), (1, .int (jI (((cb b9 (i8 + 1)) : Nat) : Int)))]) hx hb dX6_many_17 rfl hl (by decide) rfl (fun ls hl => ?_)
        have hl : lv_has ls 3 [(2, .int (jI (((b9 / 2 ^ (i8 + 1)) : Nat) : Int))), (1, .int (jI (((cb b9 (i8 + 1)) : Nat) : Int)))] := by rw [show b9 / 2 ^ (i8 + 1) = b9 / 2 ^ i8 / 2 ^ 1 by rw [Nat.div_div_eq_div_mul, ← Nat.pow_add]]; exact hl
        refine lv_goto (tgt := 4) hx hb dX6_many_18 (by decide) ?_
        exact ih_LP (i8 + 1) (by omega) (by omega)  _ _ hW hS ls (lv_sub hl [0, 1] rfl)
  exact LP (8) (0) (by omega) (by omega)  _ _ hW hS ls (lv_sub hl [0, 1] rfl)
set_option maxHeartbeats 4000000 in
set_option maxRecDepth 100000 in
theorem c_X6_common (l : Launch) (D : va_G) (ty : Nat → ClassId) (ad : Nat → Nat) (ct : rm_C) (sz : Nat) (a9 b9 : Int) (ha9 : -4611686018427387904 < a9 ∧ a9 < 4611686018427387904) (hb9 : -4611686018427387904 < b9 ∧ b9 < 4611686018427387904) : Met l yX6_common wsX6_common ({ frames := 0, cells := 0, slots := 0, locals := 0 }) (rm_P D ty ad ct sz [.long (jL a9), .long (jL b9)]) (rm_Ql D ad ct sz (fun z ct1 => z = ((Nat.gcd a9.natAbs b9.natAbs : Nat) : Int) ∧ ct1 = ct)) 0 0 (rm_A ad ct sz) := by
  refine Met.ofW (cc := cX6_common) (maxL := 10) (ret := (some .long)) (by decide) rfl ?_
  intro p e s m args below meth c s₁ B hml hv
  obtain ⟨hargs, hsz, hW, hK, hNw⟩ := hv
  have hx := B.exec
  have hb := B.bytes
  have hr := B.returns
  have hts := atoms_spec (ws := wsX6_common) B.pre
  have hown : s.vm.findClass RX6 = some m.cls := findClass_of_methodNamed B.named
  have hlocks := B.notSynchronized
  subst hsz
  have hW := hW.own (sz := s.heap.size)
  have hA : ∀ q : Nat, s.heap.size ≤ q → rm_A ad ct s.heap.size q := fun q h => Or.inr h
  have hS : va_S (rm_A ad ct s.heap.size) s.heap s.heap [] := va_S.rf
  have hent : entryFrame m args 10 = entryFrame m ([.long (jL a9), .long (jL b9)] : List Value).toArray 10 := by rw [hargs]
  have hl := lv_entry ([.long (jL a9), .long (jL b9)]) (n := 10) (Nat.le_of_ble_eq_true rfl)
  rw [hent, lg_entry_eq]
  generalize (lg_sl ([.long (jL a9), .long (jL b9)]) ++ List.replicate (10 - (lg_sl ([.long (jL a9), .long (jL b9)])).length) Slot.unset).toArray = ls at hl ⊢
  have hl : lv_has ls 10 [(0, .long (jL a9)), (2, .long (jL b9))] := hl
  refine lv_lload_n hx hb dX6_common_0 rfl (lv_at hl 0 rfl) ?_
  refine lv_lconst (v := jL 0) hx hb dX6_common_1 rfl ?_
  refine rm_lcmp hx hb ⟨by omega, by omega⟩ ⟨by omega, by omega⟩ dX6_common_2 ?_
  refine rm_if_ge (tgt := 11) hx hb (lcv_rng _ _) dX6_common_3 (by decide) (fun hc_1 => ?_) (fun hc_1 => ?_)
  · skip
    have hc_1 := lcv_ge.mp hc_1
    refine lv_lload_n hx hb dX6_common_11 rfl (lv_at hl 0 rfl) ?_
    refine lv_lstore (lv' := [(4, .long (jL a9)), (0, .long (jL a9)), (2, .long (jL b9))]) hx hb dX6_common_12 hl (by decide) rfl (fun ls hl => ?_)
    have hl : lv_has ls 10 [(4, .long (jL ((a9.natAbs : Nat) : Int))), (0, .long (jL a9)), (2, .long (jL b9))] := by rw [show ((a9.natAbs : Nat) : Int) = a9 by omega]; exact hl
    refine lv_lload_n hx hb dX6_common_14 rfl (lv_at hl 2 rfl) ?_
    refine lv_lconst (v := jL 0) hx hb dX6_common_15 rfl ?_
    refine rm_lcmp hx hb ⟨by omega, by omega⟩ ⟨by omega, by omega⟩ dX6_common_16 ?_
    refine rm_if_ge (tgt := 25) hx hb (lcv_rng _ _) dX6_common_17 (by decide) (fun hc_2 => ?_) (fun hc_2 => ?_)
    · skip
      have hc_2 := lcv_ge.mp hc_2
      refine lv_lload_n hx hb dX6_common_25 rfl (lv_at hl 2 rfl) ?_
      refine lv_lstore (lv' := [(6, .long (jL b9)), (4, .long (jL ((a9.natAbs : Nat) : Int))), (0, .long (jL a9)), (2, .long (jL b9))]) hx hb dX6_common_26 hl (by decide) rfl (fun ls hl => ?_)
      have hl : lv_has ls 10 [(6, .long (jL ((b9.natAbs : Nat) : Int))), (4, .long (jL ((a9.natAbs : Nat) : Int))), (0, .long (jL a9)), (2, .long (jL b9))] := by rw [show ((b9.natAbs : Nat) : Int) = b9 by omega]; exact hl
      have LP : ∀ (k : Nat) (xn : Nat) (zn : Nat) (hxz : xn < 4611686018427387904 ∧ zn < 4611686018427387904) (hgc : Nat.gcd xn zn = Nat.gcd a9.natAbs b9.natAbs), zn < k → ∀ (H : Heap) (locs : List Loc), rm_W D ad ct (rm_A ad ct s.heap.size) H → va_S (rm_A ad ct s.heap.size) s.heap H locs → ∀ ls : Array Slot, lv_has ls 10 [(6, .long (jL ((zn : Nat) : Int))), (4, .long (jL ((xn : Nat) : Int)))] → W p l e (headSpec wsX6_common ({ frames := 0, cells := 0, slots := 0, locals := 0 })).room s m args below meth c H locs 0 0 (MQ below (rm_Ql D ad ct s.heap.size (fun z ct1 => z = ((Nat.gcd a9.natAbs b9.natAbs : Nat) : Int) ∧ ct1 = ct)) args s 0 0 (rm_A ad ct s.heap.size)) (F0 m 28 ls []) := by
        intro k
        induction k with
        | zero => intro xn zn hxz hgc hk; exact absurd hk (Nat.not_lt_zero _)
        | succ k ih_LP =>
          intro xn zn hxz hgc hk  H locs   hW hS ls hl
          refine lv_lload hx hb dX6_common_28 (lv_at hl 0 rfl) ?_
          refine lv_lconst (v := jL 0) hx hb dX6_common_30 rfl ?_
          refine rm_lcmp hx hb ⟨by omega, by omega⟩ ⟨by omega, by omega⟩ dX6_common_31 ?_
          refine rm_if_eq (tgt := 53) hx hb (lcv_rng _ _) dX6_common_32 (by decide) (fun hc_4 => ?_) (fun hc_4 => ?_)
          · skip
            have hc_4 := lcv_eq.mp hc_4
            have hz0 : zn = 0 := by omega
            rw [hz0, Nat.gcd_zero_right] at hgc
            refine lv_lload hx hb dX6_common_53 (lv_at hl 1 rfl) ?_
            exact W.lret hx hb hr (fun t ht hw => ⟨⟨_, (((xn : Nat) : Int), ct), rfl, ⟨rfl, ⟨by rw [← hgc], rfl⟩⟩, by show rm_W D ad _ _ t.heap; rw [ht]; exact hW⟩, hS.F ht⟩) hS.2.2 dX6_common_55
          · skip
            have hc_4 : ((zn : Nat) : Int) ≠ 0 := fun hq => hc_4 (lcv_eq.mpr hq)
            have hzp : 0 < zn := by omega
            have hml := Nat.mod_lt xn hzp
            refine lv_lload hx hb dX6_common_35 (lv_at hl 1 rfl) ?_
            refine lv_lload hx hb dX6_common_37 (lv_at hl 0 rfl) ?_
            refine rm_lrem hx hb dX6_common_39 ⟨by omega, by omega⟩ ⟨by omega, by omega⟩ (by omega) ?_
            rw [show Int.tmod ((xn : Nat) : Int) ((zn : Nat) : Int) = ((xn % zn : Nat) : Int) from (Int.ofNat_tmod xn zn).symm]
            refine lv_lstore (lv' := [(8, .long (jL ((xn % zn : Nat) : Int))), (6, .long (jL ((zn : Nat) : Int))), (4, .long (jL ((xn : Nat) : Int)))]) hx hb dX6_common_40 hl (by decide) rfl (fun ls hl => ?_)
            refine lv_lload hx hb dX6_common_42 (lv_at hl 1 rfl) ?_
            refine lv_lstore (lv' := [(4, .long (jL ((zn : Nat) : Int))), (8, .long (jL ((xn % zn : Nat) : Int))), (6, .long (jL ((zn : Nat) : Int)))]) hx hb dX6_common_44 hl (by decide) rfl (fun ls hl => ?_)
            refine lv_lload hx hb dX6_common_46 (lv_at hl 1 rfl) ?_
            refine lv_lstore (lv' := [(6, .long (jL ((xn % zn : Nat) : Int))), (4, .long (jL ((zn : Nat) : Int))), (8, .long (jL ((xn % zn : Nat) : Int)))]) hx hb dX6_common_48 hl (by decide) rfl (fun ls hl => ?_)
            refine lv_goto (tgt := 28) hx hb dX6_common_50 (by decide) ?_
            exact ih_LP (zn) (xn % zn) (by omega) (by rw [Nat.gcd_comm, ← Nat.gcd_rec, Nat.gcd_comm]; exact hgc) (by omega)  _ _ hW hS ls (lv_sub hl [0, 1] rfl)
      exact LP (b9.natAbs + 1) (a9.natAbs) (b9.natAbs) (by omega) (rfl) (by omega)  _ _ hW hS ls (lv_sub hl [0, 1] rfl)
    · skip
      have hc_2 := lcv_lt.mp hc_2
      refine lv_lload_n hx hb dX6_common_20 rfl (lv_at hl 2 rfl) ?_
      refine rm_lneg hx hb dX6_common_21 ?_
      refine lv_goto (tgt := 26) hx hb dX6_common_22 (by decide) ?_
      refine lv_lstore (lv' := [(6, .long (jL (-b9))), (4, .long (jL ((a9.natAbs : Nat) : Int))), (0, .long (jL a9)), (2, .long (jL b9))]) hx hb dX6_common_26 hl (by decide) rfl (fun ls hl => ?_)
      have hl : lv_has ls 10 [(6, .long (jL ((b9.natAbs : Nat) : Int))), (4, .long (jL ((a9.natAbs : Nat) : Int))), (0, .long (jL a9)), (2, .long (jL b9))] := by rw [show ((b9.natAbs : Nat) : Int) = -b9 by omega]; exact hl
      have LP : ∀ (k : Nat) (xn : Nat) (zn : Nat) (hxz : xn < 4611686018427387904 ∧ zn < 4611686018427387904) (hgc : Nat.gcd xn zn = Nat.gcd a9.natAbs b9.natAbs), zn < k → ∀ (H : Heap) (locs : List Loc), rm_W D ad ct (rm_A ad ct s.heap.size) H → va_S (rm_A ad ct s.heap.size) s.heap H locs → ∀ ls : Array Slot, lv_has ls 10 [(6, .long (jL ((zn : Nat) : Int))), (4, .long (jL ((xn : Nat) : Int)))] → W p l e (headSpec wsX6_common ({ frames := 0, cells := 0, slots := 0, locals := 0 })).room s m args below meth c H locs 0 0 (MQ below (rm_Ql D ad ct s.heap.size (fun z ct1 => z = ((Nat.gcd a9.natAbs b9.natAbs : Nat) : Int) ∧ ct1 = ct)) args s 0 0 (rm_A ad ct s.heap.size)) (F0 m 28 ls []) := by
        intro k
        induction k with
        | zero => intro xn zn hxz hgc hk; exact absurd hk (Nat.not_lt_zero _)
        | succ k ih_LP =>
          intro xn zn hxz hgc hk  H locs   hW hS ls hl
          refine lv_lload hx hb dX6_common_28 (lv_at hl 0 rfl) ?_
          refine lv_lconst (v := jL 0) hx hb dX6_common_30 rfl ?_
          refine rm_lcmp hx hb ⟨by omega, by omega⟩ ⟨by omega, by omega⟩ dX6_common_31 ?_
          refine rm_if_eq (tgt := 53) hx hb (lcv_rng _ _) dX6_common_32 (by decide) (fun hc_6 => ?_) (fun hc_6 => ?_)
          · skip
            have hc_6 := lcv_eq.mp hc_6
            have hz0 : zn = 0 := by omega
            rw [hz0, Nat.gcd_zero_right] at hgc
            refine lv_lload hx hb dX6_common_53 (lv_at hl 1 rfl) ?_
            exact W.lret hx hb hr (fun t ht hw => ⟨⟨_, (((xn : Nat) : Int), ct), rfl, ⟨rfl, ⟨by rw [← hgc], rfl⟩⟩, by show rm_W D ad _ _ t.heap; rw [ht]; exact hW⟩, hS.F ht⟩) hS.2.2 dX6_common_55
          · skip
            have hc_6 : ((zn : Nat) : Int) ≠ 0 := fun hq => hc_6 (lcv_eq.mpr hq)
            have hzp : 0 < zn := by omega
            have hml := Nat.mod_lt xn hzp
            refine lv_lload hx hb dX6_common_35 (lv_at hl 1 rfl) ?_
            refine lv_lload hx hb dX6_common_37 (lv_at hl 0 rfl) ?_
            refine rm_lrem hx hb dX6_common_39 ⟨by omega, by omega⟩ ⟨by omega, by omega⟩ (by omega) ?_
            rw [show Int.tmod ((xn : Nat) : Int) ((zn : Nat) : Int) = ((xn % zn : Nat) : Int) from (Int.ofNat_tmod xn zn).symm]
            refine lv_lstore (lv' := [(8, .long (jL ((xn % zn : Nat) : Int))), (6, .long (jL ((zn : Nat) : Int))), (4, .long (jL ((xn : Nat) : Int)))]) hx hb dX6_common_40 hl (by decide) rfl (fun ls hl => ?_)
            refine lv_lload hx hb dX6_common_42 (lv_at hl 1 rfl) ?_
            refine lv_lstore (lv' := [(4, .long (jL ((zn : Nat) : Int))), (8, .long (jL ((xn % zn : Nat) : Int))), (6, .long (jL ((zn : Nat) : Int)))]) hx hb dX6_common_44 hl (by decide) rfl (fun ls hl => ?_)
            refine lv_lload hx hb dX6_common_46 (lv_at hl 1 rfl) ?_
            refine lv_lstore (lv' := [(6, .long (jL ((xn % zn : Nat) : Int))), (4, .long (jL ((zn : Nat) : Int))), (8, .long (jL ((xn % zn : Nat) : Int)))]) hx hb dX6_common_48 hl (by decide) rfl (fun ls hl => ?_)
            refine lv_goto (tgt := 28) hx hb dX6_common_50 (by decide) ?_
            exact ih_LP (zn) (xn % zn) (by omega) (by rw [Nat.gcd_comm, ← Nat.gcd_rec, Nat.gcd_comm]; exact hgc) (by omega)  _ _ hW hS ls (lv_sub hl [0, 1] rfl)
      exact LP (b9.natAbs + 1) (a9.natAbs) (b9.natAbs) (by omega) (rfl) (by omega)  _ _ hW hS ls (lv_sub hl [0, 1] rfl)
  · skip
    have hc_1 := lcv_lt.mp hc_1
    refine lv_lload_n hx hb dX6_common_6 rfl (lv_at hl 0 rfl) ?_
    refine rm_lneg hx hb dX6_common_7 ?_
    refine lv_goto (tgt := 12) hx hb dX6_common_8 (by decide) ?_
    refine lv_lstore (lv' := [(4, .long (jL (-a9))), (0, .long (jL a9)), (2, .long (jL b9))]) hx hb dX6_common_12 hl (by decide) rfl (fun ls hl => ?_)
    have hl : lv_has ls 10 [(4, .long (jL ((a9.natAbs : Nat) : Int))), (0, .long (jL a9)), (2, .long (jL b9))] := by rw [show ((a9.natAbs : Nat) : Int) = -a9 by omega]; exact hl
    refine lv_lload_n hx hb dX6_common_14 rfl (lv_at hl 2 rfl) ?_
    refine lv_lconst (v := jL 0) hx hb dX6_common_15 rfl ?_
    refine rm_lcmp hx hb ⟨by omega, by omega⟩ ⟨by omega, by omega⟩ dX6_common_16 ?_
    refine rm_if_ge (tgt := 25) hx hb (lcv_rng _ _) dX6_common_17 (by decide) (fun hc_7 => ?_) (fun hc_7 => ?_)
    · skip
      have hc_7 := lcv_ge.mp hc_7
      refine lv_lload_n hx hb dX6_common_25 rfl (lv_at hl 2 rfl) ?_
      refine lv_lstore (lv' := [(6, .long (jL b9)), (4, .long (jL ((a9.natAbs : Nat) : Int))), (0, .long (jL a9)), (2, .long (jL b9))]) hx hb dX6_common_26 hl (by decide) rfl (fun ls hl => ?_)
      have hl : lv_has ls 10 [(6, .long (jL ((b9.natAbs : Nat) : Int))), (4, .long (jL ((a9.natAbs : Nat) : Int))), (0, .long (jL a9)), (2, .long (jL b9))] := by rw [show ((b9.natAbs : Nat) : Int) = b9 by omega]; exact hl
      have LP : ∀ (k : Nat) (xn : Nat) (zn : Nat) (hxz : xn < 4611686018427387904 ∧ zn < 4611686018427387904) (hgc : Nat.gcd xn zn = Nat.gcd a9.natAbs b9.natAbs), zn < k → ∀ (H : Heap) (locs : List Loc), rm_W D ad ct (rm_A ad ct s.heap.size) H → va_S (rm_A ad ct s.heap.size) s.heap H locs → ∀ ls : Array Slot, lv_has ls 10 [(6, .long (jL ((zn : Nat) : Int))), (4, .long (jL ((xn : Nat) : Int)))] → W p l e (headSpec wsX6_common ({ frames := 0, cells := 0, slots := 0, locals := 0 })).room s m args below meth c H locs 0 0 (MQ below (rm_Ql D ad ct s.heap.size (fun z ct1 => z = ((Nat.gcd a9.natAbs b9.natAbs : Nat) : Int) ∧ ct1 = ct)) args s 0 0 (rm_A ad ct s.heap.size)) (F0 m 28 ls []) := by
        intro k
        induction k with
        | zero => intro xn zn hxz hgc hk; exact absurd hk (Nat.not_lt_zero _)
        | succ k ih_LP =>
          intro xn zn hxz hgc hk  H locs   hW hS ls hl
          refine lv_lload hx hb dX6_common_28 (lv_at hl 0 rfl) ?_
          refine lv_lconst (v := jL 0) hx hb dX6_common_30 rfl ?_
          refine rm_lcmp hx hb ⟨by omega, by omega⟩ ⟨by omega, by omega⟩ dX6_common_31 ?_
          refine rm_if_eq (tgt := 53) hx hb (lcv_rng _ _) dX6_common_32 (by decide) (fun hc_9 => ?_) (fun hc_9 => ?_)
          · skip
            have hc_9 := lcv_eq.mp hc_9
            have hz0 : zn = 0 := by omega
            rw [hz0, Nat.gcd_zero_right] at hgc
            refine lv_lload hx hb dX6_common_53 (lv_at hl 1 rfl) ?_
            exact W.lret hx hb hr (fun t ht hw => ⟨⟨_, (((xn : Nat) : Int), ct), rfl, ⟨rfl, ⟨by rw [← hgc], rfl⟩⟩, by show rm_W D ad _ _ t.heap; rw [ht]; exact hW⟩, hS.F ht⟩) hS.2.2 dX6_common_55
          · skip
            have hc_9 : ((zn : Nat) : Int) ≠ 0 := fun hq => hc_9 (lcv_eq.mpr hq)
            have hzp : 0 < zn := by omega
            have hml := Nat.mod_lt xn hzp
            refine lv_lload hx hb dX6_common_35 (lv_at hl 1 rfl) ?_
            refine lv_lload hx hb dX6_common_37 (lv_at hl 0 rfl) ?_
            refine rm_lrem hx hb dX6_common_39 ⟨by omega, by omega⟩ ⟨by omega, by omega⟩ (by omega) ?_
            rw [show Int.tmod ((xn : Nat) : Int) ((zn : Nat) : Int) = ((xn % zn : Nat) : Int) from (Int.ofNat_tmod xn zn).symm]
            refine lv_lstore (lv' := [(8, .long (jL ((xn % zn : Nat) : Int))), (6, .long (jL ((zn : Nat) : Int))), (4, .long (jL ((xn : Nat) : Int)))]) hx hb dX6_common_40 hl (by decide) rfl (fun ls hl => ?_)
            refine lv_lload hx hb dX6_common_42 (lv_at hl 1 rfl) ?_
            refine lv_lstore (lv' := [(4, .long (jL ((zn : Nat) : Int))), (8, .long (jL ((xn % zn : Nat) : Int))), (6, .long (jL ((zn : Nat) : Int)))]) hx hb dX6_common_44 hl (by decide) rfl (fun ls hl => ?_)
            refine lv_lload hx hb dX6_common_46 (lv_at hl 1 rfl) ?_
            refine lv_lstore (lv' := [(6, .long (jL ((xn % zn : Nat) : Int))), (4, .long (jL ((zn : Nat) : Int))), (8, .long (jL ((xn % zn : Nat) : Int)))]) hx hb dX6_common_48 hl (by decide) rfl (fun ls hl => ?_)
            refine lv_goto (tgt := 28) hx hb dX6_common_50 (by decide) ?_
            exact ih_LP (zn) (xn % zn) (by omega) (by rw [Nat.gcd_comm, ← Nat.gcd_rec, Nat.gcd_comm]; exact hgc) (by omega)  _ _ hW hS ls (lv_sub hl [0, 1] rfl)
      exact LP (b9.natAbs + 1) (a9.natAbs) (b9.natAbs) (by omega) (rfl) (by omega)  _ _ hW hS ls (lv_sub hl [0, 1] rfl)
    · skip
      have hc_7 := lcv_lt.mp hc_7
      refine lv_lload_n hx hb dX6_common_20 rfl (lv_at hl 2 rfl) ?_
      refine rm_lneg hx hb dX6_common_21 ?_
      refine lv_goto (tgt := 26) hx hb dX6_common_22 (by decide) ?_
      refine lv_lstore (lv' := [(6, .long (jL (-b9))), (4, .long (jL ((a9.natAbs : Nat) : Int))), (0, .long (jL a9)), (2, .long (jL b9))]) hx hb dX6_common_26 hl (by decide) rfl (fun ls hl => ?_)
      have hl : lv_has ls 10 [(6, .long (jL ((b9.natAbs : Nat) : Int))), (4, .long (jL ((a9.natAbs : Nat) : Int))), (0, .long (jL a9)), (2, .long (jL b9))] := by rw [show ((b9.natAbs : Nat) : Int) = -b9 by omega]; exact hl
      have LP : ∀ (k : Nat) (xn : Nat) (zn : Nat) (hxz : xn < 4611686018427387904 ∧ zn < 4611686018427387904) (hgc : Nat.gcd xn zn = Nat.gcd a9.natAbs b9.natAbs), zn < k → ∀ (H : Heap) (locs : List Loc), rm_W D ad ct (rm_A ad ct s.heap.size) H → va_S (rm_A ad ct s.heap.size) s.heap H locs → ∀ ls : Array Slot, lv_has ls 10 [(6, .long (jL ((zn : Nat) : Int))), (4, .long (jL ((xn : Nat) : Int)))] → W p l e (headSpec wsX6_common ({ frames := 0, cells := 0, slots := 0, locals := 0 })).room s m args below meth c H locs 0 0 (MQ below (rm_Ql D ad ct s.heap.size (fun z ct1 => z = ((Nat.gcd a9.natAbs b9.natAbs : Nat) : Int) ∧ ct1 = ct)) args s 0 0 (rm_A ad ct s.heap.size)) (F0 m 28 ls []) := by
        intro k
        induction k with
        | zero => intro xn zn hxz hgc hk; exact absurd hk (Nat.not_lt_zero _)
        | succ k ih_LP =>
          intro xn zn hxz hgc hk  H locs   hW hS ls hl
          refine lv_lload hx hb dX6_common_28 (lv_at hl 0 rfl) ?_
          refine lv_lconst (v := jL 0) hx hb dX6_common_30 rfl ?_
          refine rm_lcmp hx hb ⟨by omega, by omega⟩ ⟨by omega, by omega⟩ dX6_common_31 ?_
          refine rm_if_eq (tgt := 53) hx hb (lcv_rng _ _) dX6_common_32 (by decide) (fun hc_11 => ?_) (fun hc_11 => ?_)
          · skip
            have hc_11 := lcv_eq.mp hc_11
            have hz0 : zn = 0 := by omega
            rw [hz0, Nat.gcd_zero_right] at hgc
            refine lv_lload hx hb dX6_common_53 (lv_at hl 1 rfl) ?_
            exact W.lret hx hb hr (fun t ht hw => ⟨⟨_, (((xn : Nat) : Int), ct), rfl, ⟨rfl, ⟨by rw [← hgc], rfl⟩⟩, by show rm_W D ad _ _ t.heap; rw [ht]; exact hW⟩, hS.F ht⟩) hS.2.2 dX6_common_55
          · skip
            have hc_11 : ((zn : Nat) : Int) ≠ 0 := fun hq => hc_11 (lcv_eq.mpr hq)
            have hzp : 0 < zn := by omega
            have hml := Nat.mod_lt xn hzp
            refine lv_lload hx hb dX6_common_35 (lv_at hl 1 rfl) ?_
            refine lv_lload hx hb dX6_common_37 (lv_at hl 0 rfl) ?_
            refine rm_lrem hx hb dX6_common_39 ⟨by omega, by omega⟩ ⟨by omega, by omega⟩ (by omega) ?_
            rw [show Int.tmod ((xn : Nat) : Int) ((zn : Nat) : Int) = ((xn % zn : Nat) : Int) from (Int.ofNat_tmod xn zn).symm]
            refine lv_lstore (lv' := [(8, .long (jL ((xn % zn : Nat) : Int))), (6, .long (jL ((zn : Nat) : Int))), (4, .long (jL ((xn : Nat) : Int)))]) hx hb dX6_common_40 hl (by decide) rfl (fun ls hl => ?_)
            refine lv_lload hx hb dX6_common_42 (lv_at hl 1 rfl) ?_
            refine lv_lstore (lv' := [(4, .long (jL ((zn : Nat) : Int))), (8, .long (jL ((xn % zn : Nat) : Int))), (6, .long (jL ((zn : Nat) : Int)))]) hx hb dX6_common_44 hl (by decide) rfl (fun ls hl => ?_)
            refine lv_lload hx hb dX6_common_46 (lv_at hl 1 rfl) ?_
            refine lv_lstore (lv' := [(6, .long (jL ((xn % zn : Nat) : Int))), (4, .long (jL ((zn : Nat) : Int))), (8, .long (jL ((xn % zn : Nat) : Int)))]) hx hb dX6_common_48 hl (by decide) rfl (fun ls hl => ?_)
            refine lv_goto (tgt := 28) hx hb dX6_common_50 (by decide) ?_
            exact ih_LP (zn) (xn % zn) (by omega) (by rw [Nat.gcd_comm, ← Nat.gcd_rec, Nat.gcd_comm]; exact hgc) (by omega)  _ _ hW hS ls (lv_sub hl [0, 1] rfl)
      exact LP (b9.natAbs + 1) (a9.natAbs) (b9.natAbs) (by omega) (rfl) (by omega)  _ _ hW hS ls (lv_sub hl [0, 1] rfl)
set_option maxHeartbeats 4000000 in
set_option maxRecDepth 100000 in
theorem c_X6_minor (l : Launch) (D : va_G) (ty : Nat → ClassId) (ad : Nat → Nat) (ct : rm_C) (sz : Nat) (th : Int) (yc hc : Nat) (yn : Nat → Nat) (yM : Nat → Nat → Nat → Int) (yu : Nat → Int) (hy : Nat → Nat) (hg hf mA : Nat → Nat → Int) (pt ro ke kt mu sl tw bw de : Nat → Int) (hMo : ModAt ty ad ct th yc hc yn yM yu hy hg hf mA pt ro ke kt mu sl tw bw de) (y9 : Nat) (hy9 : y9 < 6) (hn9 : 2 ≤ yn y9 ∧ yn y9 ≤ 8) (hM9 : ∀ i j, 0 ≤ yM y9 i j ∧ yM y9 i j ≤ 3) (hyk : yok (yn y9) (yM y9)) (r9 c9 : Nat) (hr9 : r9 < 2 ^ ((yn y9) - 1)) (hc9 : c9 < 2 ^ ((yn y9) - 1)) (hrc : cb r9 7 = cb c9 7) : Met l yX6_minor wsX6_minor ({ frames := 3, cells := 0, slots := 0, locals := 70 }) (rm_P D ty ad ct sz [.ref (ad 1000), .int (jI ((y9 : Nat) : Int)), .int (jI ((r9 : Nat) : Int)), .int (jI ((c9 : Nat) : Int))]) (rm_Ql D ad ct sz (fun z ct1 => ∃ A1 : Nat → Nat → Int, z = mnr (yn y9) (yM y9) r9 c9 ∧ ct1 1007 = some (rl ty 49 (fl 7 A1)) ∧ (∀ q, q ≠ 1007 → ct1 q = ct q))) 0 0 (rm_A ad ct sz) := by
  refine Met.ofW (cc := cX6_minor) (maxL := 8) (ret := (some .long)) (by decide) rfl ?_
  intro p e s m args below meth c s₁ B hml hv
  obtain ⟨hargs, hsz, hW, hK, hNw⟩ := hv
  have hx := B.exec
  have hb := B.bytes
  have hr := B.returns
  have hts := atoms_spec (ws := wsX6_minor) B.pre
  have hown : s.vm.findClass RX6 = some m.cls := findClass_of_methodNamed B.named
  have hlocks := B.notSynchronized
  subst hsz
  have hW := hW.own (sz := s.heap.size)
  have hA : ∀ q : Nat, s.heap.size ≤ q → rm_A ad ct s.heap.size q := fun q h => Or.inr h
  have hS : va_S (rm_A ad ct s.heap.size) s.heap s.heap [] := va_S.rf
  have hent : entryFrame m args 8 = entryFrame m ([.ref (ad 1000), .int (jI ((y9 : Nat) : Int)), .int (jI ((r9 : Nat) : Int)), .int (jI ((c9 : Nat) : Int))] : List Value).toArray 8 := by rw [hargs]
  have hl := lv_entry ([.ref (ad 1000), .int (jI ((y9 : Nat) : Int)), .int (jI ((r9 : Nat) : Int)), .int (jI ((c9 : Nat) : Int))]) (n := 8) (Nat.le_of_ble_eq_true rfl)
  rw [hent, lg_entry_eq]
  generalize (lg_sl ([.ref (ad 1000), .int (jI ((y9 : Nat) : Int)), .int (jI ((r9 : Nat) : Int)), .int (jI ((c9 : Nat) : Int))]) ++ List.replicate (8 - (lg_sl ([.ref (ad 1000), .int (jI ((y9 : Nat) : Int)), .int (jI ((r9 : Nat) : Int)), .int (jI ((c9 : Nat) : Int))])).length) Slot.unset).toArray = ls at hl ⊢
  have hl : lv_has ls 8 [(0, .ref (ad 1000)), (1, .int (jI ((y9 : Nat) : Int))), (2, .int (jI ((r9 : Nat) : Int))), (3, .int (jI ((c9 : Nat) : Int)))] := hl
  have hp2 : 2 ^ ((yn y9) - 1) ≤ 2 ^ 7 := Nat.pow_le_pow_right (by omega) (by omega)
  refine lv_iconst (v := jI 0) hx hb dX6_minor_0 rfl ?_
  refine lv_istore (lv' := [(4, .int (jI 0)), (0, .ref (ad 1000)), (1, .int (jI ((y9 : Nat) : Int))), (2, .int (jI ((r9 : Nat) : Int))), (3, .int (jI ((c9 : Nat) : Int)))]) hx hb dX6_minor_1 hl (by decide) rfl (fun ls hl => ?_)
  refine lv_iconst (v := jI 0) hx hb dX6_minor_3 rfl ?_
  refine lv_istore (lv' := [(5, .int (jI 0)), (4, .int (jI 0)), (0, .ref (ad 1000)), (1, .int (jI ((y9 : Nat) : Int))), (2, .int (jI ((r9 : Nat) : Int))), (3, .int (jI ((c9 : Nat) : Int)))]) hx hb dX6_minor_4 hl (by decide) rfl (fun ls hl => ?_)
  have hl : lv_has ls 8 [(5, .int (jI 0)), (4, .int (jI (((cb r9 0) : Nat) : Int))), (0, .ref (ad 1000)), (1, .int (jI ((y9 : Nat) : Int))), (2, .int (jI ((r9 : Nat) : Int))), (3, .int (jI ((c9 : Nat) : Int)))] := by exact hl
  have LA : ∀ (k : Nat) (a8 : Nat) (A1 : Nat → Nat → Int) (ha8 : a8 ≤ 7) (hAA : ∀ x y, x < a8 → r9 / 2 ^ x % 2 = 1 → y < 7 → c9 / 2 ^ y % 2 = 1 → A1 (cb r9 x) (cb c9 y) = lap (yn y9) (yM y9) (x + 1) (y + 1)), 7 - a8 < k → ∀ (ctv : rm_C) (H : Heap) (locs : List Loc), (ctv 1007 = some (rl ty 49 (fl 7 A1))) → ∀ (_ : True), (∀ q, q ≠ 1007 → ctv q = ct q) → ∀ (_ : True), rm_W D ad ctv (rm_A ad ct s.heap.size) H → va_S (rm_A ad ct s.heap.size) s.heap H locs → ∀ ls : Array Slot, lv_has ls 8 [(5, .int (jI ((a8 : Nat) : Int))), (4, .int (jI (((cb r9 a8) : Nat) : Int))), (0, .ref (ad 1000)), (1, .int (jI ((y9 : Nat) : Int))), (2, .int (jI ((r9 : Nat) : Int))), (3, .int (jI ((c9 : Nat) : Int)))] → W p l e (headSpec wsX6_minor ({ frames := 3, cells := 0, slots := 0, locals := 70 })).room s m args below meth c H locs 0 0 (MQ below (rm_Ql D ad ct s.heap.size (fun z ct1 => ∃ A1 : Nat → Nat → Int, z = mnr (yn y9) (yM y9) r9 c9 ∧ ct1 1007 = some (rl ty 49 (fl 7 A1)) ∧ (∀ q, q ≠ 1007 → ct1 q = ct q))) args s 0 0 (rm_A ad ct s.heap.size)) (F0 m 6 ls []) := by
    intro k
    induction k with
    | zero => intro a8 A1 ha8 hAA hk; exact absurd hk (Nat.not_lt_zero _)
    | succ k ih_LA =>
      intro a8 A1 ha8 hAA hk ctv_1 H locs hv0_1 _ hofv_1 _ hW hS ls hl
      have hca := cb_le r9 a8
      have hcs := cb_s r9 a8
      refine lv_iload hx hb dX6_minor_6 (lv_at hl 0 rfl) ?_
      refine lv_bipush (v := jI 7) hx hb dX6_minor_8 (by decide) ?_
      refine rm_icmp_ge (tgt := 94) hx hb ⟨by omega, by omega⟩ ⟨by omega, by omega⟩ dX6_minor_10 (by decide) (fun hc_2 => ?_) (fun hc_2 => ?_)
      · skip
        have hae : a8 = 7 := by omega
        rw [hae] at hAA
        obtain ⟨hbd, hdt⟩ := mnr_bd hyk hr9 hc9 hrc hAA
        have hl : lv_has ls 8 [(4, .int (jI (((cb r9 a8) : Nat) : Int))), (0, .ref (ad 1000)), (1, .int (jI ((y9 : Nat) : Int))), (2, .int (jI ((r9 : Nat) : Int))), (3, .int (jI ((c9 : Nat) : Int)))] := lv_sub hl [1, 2, 3, 4, 5] rfl
        have hl : lv_has ls 8 [(4, .int (jI (((cb r9 7) : Nat) : Int))), (0, .ref (ad 1000)), (1, .int (jI ((y9 : Nat) : Int))), (2, .int (jI ((r9 : Nat) : Int))), (3, .int (jI ((c9 : Nat) : Int)))] := by rw [hae] at hl; exact hl
        have hc7 := cb_le r9 7
        refine lv_aload_n hx hb dX6_minor_94 rfl (lv_at hl 1 rfl) ?_
        refine lv_iload hx hb dX6_minor_95 (lv_at hl 0 rfl) ?_
        refine rm_calll (va_runV (As := [.int (jI (((cb r9 7) : Nat) : Int))]) (rest := []) ⟨hx, hb, hml, hown, hts⟩ (c_X6_determinant l D ty ad ctv_1 H.size th yc hc yn yM yu hy hg hf A1 pt ro ke kt mu sl tw bw de ⟨((hofv_1 1000 (by omega)).trans hMo.1), ((hofv_1 1001 (by omega)).trans hMo.2.1), ((hofv_1 1002 (by omega)).trans hMo.2.2.1), ((hofv_1 1003 (by omega)).trans hMo.2.2.2.1), ((hofv_1 1004 (by omega)).trans hMo.2.2.2.2.1), ((hofv_1 1005 (by omega)).trans hMo.2.2.2.2.2.1), ((hofv_1 1006 (by omega)).trans hMo.2.2.2.2.2.2.1), hv0_1, ((hofv_1 1008 (by omega)).trans hMo.2.2.2.2.2.2.2.2.1), ((hofv_1 1009 (by omega)).trans hMo.2.2.2.2.2.2.2.2.2.1), ((hofv_1 1010 (by omega)).trans hMo.2.2.2.2.2.2.2.2.2.2.1), ((hofv_1 1011 (by omega)).trans hMo.2.2.2.2.2.2.2.2.2.2.2.1), ((hofv_1 1012 (by omega)).trans hMo.2.2.2.2.2.2.2.2.2.2.2.2.1), ((hofv_1 1013 (by omega)).trans hMo.2.2.2.2.2.2.2.2.2.2.2.2.2.1), ((hofv_1 1014 (by omega)).trans hMo.2.2.2.2.2.2.2.2.2.2.2.2.2.2.1), ((hofv_1 1015 (by omega)).trans hMo.2.2.2.2.2.2.2.2.2.2.2.2.2.2.2.1), ((hofv_1 1016 (by omega)).trans hMo.2.2.2.2.2.2.2.2.2.2.2.2.2.2.2.2)⟩ (cb r9 7) hc7 hbd) (cwV 1 hts gX6_minor_X6_determinant rfl rfl rfl (by decide +kernel) ⟨Nat.le_of_ble_eq_true rfl, Nat.le_of_ble_eq_true rfl⟩) (rm_preV hK hNw hW ((hofv_1 1000 (by omega)).trans hMo.1) rfl) rfl rfl hl.1 rfl (lv_room (Nat.le_of_ble_eq_true rfl)) dX6_minor_97 ⟨Nat.zero_le _, Nat.zero_le _⟩) hW hS hA (fun z_3 ct_3 H locs hq_3 hW hS => ?_)
        obtain ⟨A3, hz, hq1, hq2⟩ := hq_3
        rw [hdt] at hz
        have ho_3 : ∀ q, q ≠ 1007 → ct_3 q = ctv_1 q := hq2
        have hof_3 : ∀ q, q ≠ 1007 → ct_3 q = ct q := fun q h0_3 => (ho_3 q h0_3).trans (hofv_1 q h0_3)
        have hm0_3 : ct_3 1007 = some (rl ty 49 (fl 7 A3)) := hq1
        exact W.lret hx hb hr (fun t ht hw => ⟨⟨_, (z_3, ct_3), rfl, ⟨rfl, ⟨A3, hz, hm0_3, fun q h0 => hof_3 q h0⟩⟩, by show rm_W D ad _ _ t.heap; rw [ht]; exact hW⟩, hS.F ht⟩) hS.2.2 dX6_minor_100
      · skip
        have ha7 : a8 < 7 := by omega
        refine lv_iload_n hx hb dX6_minor_13 rfl (lv_at hl 4 rfl) ?_
        refine lv_iload hx hb dX6_minor_14 (lv_at hl 0 rfl) ?_
        refine rm_ishr (z := (((r9 / 2 ^ a8) : Nat) : Int)) hx hb dX6_minor_16 (bt_shr (by omega) (by first | omega | decide)) ?_
        refine lv_iconst (v := jI 1) hx hb dX6_minor_17 rfl ?_
        refine rm_iand (z := ((((r9 / 2 ^ a8) % 2 ^ 1) : Nat) : Int)) hx hb dX6_minor_18 (bt_mask (Nat.lt_of_le_of_lt (Nat.div_le_self _ _) (by omega)) 1 (by decide)) ?_
        refine rm_if_ne (tgt := 25) hx hb ⟨by omega, by omega⟩ dX6_minor_19 (by decide) (fun hc_4 => ?_) (fun hc_4 => ?_)
        · skip
          have hbit : r9 / 2 ^ a8 % 2 = 1 := by omega
          rw [hbit] at hcs
          refine lv_iconst (v := jI 0) hx hb dX6_minor_25 rfl ?_
          refine lv_istore (lv' := [(6, .int (jI 0)), (5, .int (jI ((a8 : Nat) : Int))), (4, .int (jI (((cb r9 a8) : Nat) : Int))), (0, .ref (ad 1000)), (1, .int (jI ((y9 : Nat) : Int))), (2, .int (jI ((r9 : Nat) : Int))), (3, .int (jI ((c9 : Nat) : Int)))]) hx hb dX6_minor_26 hl (by decide) rfl (fun ls hl => ?_)
          refine lv_iconst (v := jI 0) hx hb dX6_minor_28 rfl ?_
          refine lv_istore (lv' := [(7, .int (jI 0)), (6, .int (jI 0)), (5, .int (jI ((a8 : Nat) : Int))), (4, .int (jI (((cb r9 a8) : Nat) : Int))), (0, .ref (ad 1000)), (1, .int (jI ((y9 : Nat) : Int))), (2, .int (jI ((r9 : Nat) : Int))), (3, .int (jI ((c9 : Nat) : Int)))]) hx hb dX6_minor_29 hl (by decide) rfl (fun ls hl => ?_)
          have hl : lv_has ls 8 [(7, .int (jI 0)), (6, .int (jI (((cb c9 0) : Nat) : Int))), (5, .int (jI ((a8 : Nat) : Int))), (4, .int (jI (((cb r9 a8) : Nat) : Int))), (0, .ref (ad 1000)), (1, .int (jI ((y9 : Nat) : Int))), (2, .int (jI ((r9 : Nat) : Int))), (3, .int (jI ((c9 : Nat) : Int)))] := by exact hl
          have LB : ∀ (k : Nat) (b8 : Nat) (A2 : Nat → Nat → Int) (hb8 : b8 ≤ 7) (hAA : ∀ x y, x < a8 → r9 / 2 ^ x % 2 = 1 → y < 7 → c9 / 2 ^ y % 2 = 1 → A2 (cb r9 x) (cb c9 y) = lap (yn y9) (yM y9) (x + 1) (y + 1)) (hB : ∀ y, y < b8 → c9 / 2 ^ y % 2 = 1 → A2 (cb r9 a8) (cb c9 y) = lap (yn y9) (yM y9) (a8 + 1) (y + 1)), 7 - b8 < k → ∀ (ctv : rm_C) (H : Heap) (locs : List Loc), (ctv 1007 = some (rl ty 49 (fl 7 A2))) → ∀ (_ : True), (∀ q, q ≠ 1007 → ctv q = ct q) → ∀ (_ : True), rm_W D ad ctv (rm_A ad ct s.heap.size) H → va_S (rm_A ad ct s.heap.size) s.heap H locs → ∀ ls : Array Slot, lv_has ls 8 [(7, .int (jI ((b8 : Nat) : Int))), (6, .int (jI (((cb c9 b8) : Nat) : Int))), (5, .int (jI ((a8 : Nat) : Int))), (4, .int (jI (((cb r9 a8) : Nat) : Int))), (0, .ref (ad 1000)), (1, .int (jI ((y9 : Nat) : Int))), (2, .int (jI ((r9 : Nat) : Int))), (3, .int (jI ((c9 : Nat) : Int)))] → W p l e (headSpec wsX6_minor ({ frames := 3, cells := 0, slots := 0, locals := 70 })).room s m args below meth c H locs 0 0 (MQ below (rm_Ql D ad ct s.heap.size (fun z ct1 => ∃ A1 : Nat → Nat → Int, z = mnr (yn y9) (yM y9) r9 c9 ∧ ct1 1007 = some (rl ty 49 (fl 7 A1)) ∧ (∀ q, q ≠ 1007 → ct1 q = ct q))) args s 0 0 (rm_A ad ct s.heap.size)) (F0 m 31 ls []) := by
            intro k
            induction k with
            | zero => intro b8 A2 hb8 hAA hB hk; exact absurd hk (Nat.not_lt_zero _)
            | succ k ih_LB =>
              intro b8 A2 hb8 hAA hB hk ctv_5 H locs hv0_5 _ hofv_5 _ hW hS ls hl
              have hcb := cb_le c9 b8
              have hcs2 := cb_s c9 b8
              refine lv_iload hx hb dX6_minor_31 (lv_at hl 0 rfl) ?_
              refine lv_bipush (v := jI 7) hx hb dX6_minor_33 (by decide) ?_
              refine rm_icmp_ge (tgt := 85) hx hb ⟨by omega, by omega⟩ ⟨by omega, by omega⟩ dX6_minor_35 (by decide) (fun hc_6 => ?_) (fun hc_6 => ?_)
              · skip
                have hbe : b8 = 7 := by omega
                rw [hbe] at hB
                have hl : lv_has ls 8 [(5, .int (jI ((a8 : Nat) : Int))), (4, .int (jI (((cb r9 a8) : Nat) : Int))), (0, .ref (ad 1000)), (1, .int (jI ((y9 : Nat) : Int))), (2, .int (jI ((r9 : Nat) : Int))), (3, .int (jI ((c9 : Nat) : Int)))] := lv_sub hl [2, 3, 4, 5, 6, 7] rfl
                refine lv_iinc (v := jI ((((cb r9 a8) : Nat) : Int) + 1)) (lv' := [(4, .int (jI ((((cb r9 a8) : Nat) : Int) + 1))), (5, .int (jI ((a8 : Nat) : Int))), (0, .ref (ad 1000)), (1, .int (jI ((y9 : Nat) : Int))), (2, .int (jI ((r9 : Nat) : Int))), (3, .int (jI ((c9 : Nat) : Int)))]) hx hb dX6_minor_85 hl (k := 1) rfl (jI_add _ _) (by decide) rfl (fun ls hl => ?_)
                have hl : lv_has ls 8 [(4, .int (jI (((cb r9 (a8 + 1)) : Nat) : Int))), (5, .int (jI ((a8 : Nat) : Int))), (0, .ref (ad 1000)), (1, .int (jI ((y9 : Nat) : Int))), (2, .int (jI ((r9 : Nat) : Int))), (3, .int (jI ((c9 : Nat) : Int)))] := by rw [hcs]; exact hl
                refine lv_iinc (v := jI (((a8 : Nat) : Int) + 1)) (lv' := [(5, .int (jI (((a8 : Nat) : Int) + 1))), (4, .int (jI (((cb r9 (a8 + 1)) : Nat) : Int))), (0, .ref (ad 1000)), (1, .int (jI ((y9 : Nat) : Int))), (2, .int (jI ((r9 : Nat) : Int))), (3, .int (jI ((c9 : Nat) : Int)))]) hx hb dX6_minor_88 hl (k := 1) rfl (jI_add _ _) (by decide) rfl (fun ls hl => ?_)
                refine lv_goto (tgt := 6) hx hb dX6_minor_91 (by decide) ?_
                exact ih_LA (a8 + 1) (A2) (by omega) (fun x y h1 h2 h3 h4 => by
                    rcases Nat.lt_or_ge x a8 with h | h
                    · exact hAA x y h h2 h3 h4
                    · rw [show x = a8 by omega]; exact hB y h3 h4) (by omega) ctv_5 _ _ hv0_5 trivial hofv_5 trivial hW hS ls (lv_sub hl [0, 1, 2, 3, 4, 5] rfl)
              · skip
                refine lv_iload_n hx hb dX6_minor_38 rfl (lv_at hl 7 rfl) ?_
                refine lv_iload hx hb dX6_minor_39 (lv_at hl 0 rfl) ?_
                refine rm_ishr (z := (((c9 / 2 ^ b8) : Nat) : Int)) hx hb dX6_minor_41 (bt_shr (by omega) (by first | omega | decide)) ?_
                refine lv_iconst (v := jI 1) hx hb dX6_minor_42 rfl ?_
                refine rm_iand (z := ((((c9 / 2 ^ b8) % 2 ^ 1) : Nat) : Int)) hx hb dX6_minor_43 (bt_mask (Nat.lt_of_le_of_lt (Nat.div_le_self _ _) (by omega)) 1 (by decide)) ?_
                refine rm_if_ne (tgt := 50) hx hb ⟨by omega, by omega⟩ dX6_minor_44 (by decide) (fun hc_7 => ?_) (fun hc_7 => ?_)
                · skip
                  have hbit2 : c9 / 2 ^ b8 % 2 = 1 := by omega
                  rw [hbit2] at hcs2
                  refine lv_aload_n hx hb dX6_minor_50 rfl (lv_at hl 4 rfl) ?_
                  refine rm_get (ci := 6) (v := .ref (ad 1007)) (C := RX6) (T := TX6) (N := 19) hx hb hts (by decide +kernel) hown hK hW ((hofv_5 1000 (by omega)).trans hMo.1) rfl 9 (by decide) (hts (.fieldLink RX6 30 "GrainYardModel" "m" "[J") (by decide +kernel)) (fun _ h9 => h9) rfl dX6_minor_51 ?_
                  refine lv_bipush (v := jI 7) hx hb dX6_minor_54 (by decide) ?_
                  refine lv_iload hx hb dX6_minor_56 (lv_at hl 3 rfl) ?_
                  refine rm_imul hx hb dX6_minor_58 ?_
                  refine lv_iload hx hb dX6_minor_59 (lv_at hl 1 rfl) ?_
                  refine rm_iadd hx hb dX6_minor_61 ?_
                  refine lv_aload_n hx hb dX6_minor_62 rfl (lv_at hl 4 rfl) ?_
                  refine lv_iload_n hx hb dX6_minor_63 rfl (lv_at hl 5 rfl) ?_
                  refine lv_iload hx hb dX6_minor_64 (lv_at hl 2 rfl) ?_
                  refine lv_iconst (v := jI 1) hx hb dX6_minor_66 rfl ?_
                  refine rm_iadd hx hb dX6_minor_67 ?_
                  refine lv_iload hx hb dX6_minor_68 (lv_at hl 0 rfl) ?_
                  refine lv_iconst (v := jI 1) hx hb dX6_minor_70 rfl ?_
                  refine rm_iadd hx hb dX6_minor_71 ?_
                  refine rm_calll (va_runV (As := [.int (jI ((y9 : Nat) : Int)), .int (jI (((a8 : Nat) : Int) + 1)), .int (jI (((b8 : Nat) : Int) + 1))]) (rest := [.int (jI ((7 * (((cb r9 a8) : Nat) : Int)) + (((cb c9 b8) : Nat) : Int))), .ref (ad 1007)]) ⟨hx, hb, hml, hown, hts⟩ (c_X6_entry l D ty ad ctv_5 H.size th yc hc yn yM yu hy hg hf A2 pt ro ke kt mu sl tw bw de ⟨((hofv_5 1000 (by omega)).trans hMo.1), ((hofv_5 1001 (by omega)).trans hMo.2.1), ((hofv_5 1002 (by omega)).trans hMo.2.2.1), ((hofv_5 1003 (by omega)).trans hMo.2.2.2.1), ((hofv_5 1004 (by omega)).trans hMo.2.2.2.2.1), ((hofv_5 1005 (by omega)).trans hMo.2.2.2.2.2.1), ((hofv_5 1006 (by omega)).trans hMo.2.2.2.2.2.2.1), hv0_5, ((hofv_5 1008 (by omega)).trans hMo.2.2.2.2.2.2.2.2.1), ((hofv_5 1009 (by omega)).trans hMo.2.2.2.2.2.2.2.2.2.1), ((hofv_5 1010 (by omega)).trans hMo.2.2.2.2.2.2.2.2.2.2.1), ((hofv_5 1011 (by omega)).trans hMo.2.2.2.2.2.2.2.2.2.2.2.1), ((hofv_5 1012 (by omega)).trans hMo.2.2.2.2.2.2.2.2.2.2.2.2.1), ((hofv_5 1013 (by omega)).trans hMo.2.2.2.2.2.2.2.2.2.2.2.2.2.1), ((hofv_5 1014 (by omega)).trans hMo.2.2.2.2.2.2.2.2.2.2.2.2.2.2.1), ((hofv_5 1015 (by omega)).trans hMo.2.2.2.2.2.2.2.2.2.2.2.2.2.2.2.1), ((hofv_5 1016 (by omega)).trans hMo.2.2.2.2.2.2.2.2.2.2.2.2.2.2.2.2)⟩ y9 hy9 hn9 hM9 (a8 + 1) (b8 + 1) (by omega) (by omega)) (cwV 3 hts gX6_minor_X6_entry rfl rfl rfl (by decide +kernel) ⟨Nat.le_of_ble_eq_true rfl, Nat.le_of_ble_eq_true rfl⟩) (rm_preV hK hNw hW ((hofv_5 1000 (by omega)).trans hMo.1) rfl) rfl rfl hl.1 rfl (lv_room (Nat.le_of_ble_eq_true rfl)) dX6_minor_72 ⟨Nat.zero_le _, Nat.zero_le _⟩) hW hS hA (fun z_8 ct_8 H locs hq_8 hW hS => ?_)
                  obtain ⟨hz, hcc_8⟩ := hq_8
                  have hcc_8 := hcc_8.symm
                  subst hcc_8
                  subst hz
                  refine rm_last hx hb hK hW hS (f := (fl 7 A2)) hv0_5 (7 * (cb r9 a8) + (cb c9 b8)) (by first | rfl | (push_cast; omega)) (by omega) (by omega) dX6_minor_75 (fun H locs ct_9 hs_9 ho_9 hW hS hz_9 => ?_)
                  have hof_9 : ∀ q, q ≠ 1007 → ct_9 q = ct q := fun q h0_9 => (ho_9 q h0_9).trans (hofv_5 q h0_9)
                  have hk_10 : ct_9 1007 = some (rl ty 49 (fl 7 (ub A2 (cb r9 a8) (ub (A2 (cb r9 a8)) (cb c9 b8) (lap (yn y9) (yM y9) (a8 + 1) (b8 + 1)))))) := hs_9.trans (congrArg (fun f => some (rl ty 49 f)) (fl_ub (by omega) _ _))
                  refine lv_iinc (v := jI ((((cb c9 b8) : Nat) : Int) + 1)) (lv' := [(6, .int (jI ((((cb c9 b8) : Nat) : Int) + 1))), (7, .int (jI ((b8 : Nat) : Int))), (5, .int (jI ((a8 : Nat) : Int))), (4, .int (jI (((cb r9 a8) : Nat) : Int))), (0, .ref (ad 1000)), (1, .int (jI ((y9 : Nat) : Int))), (2, .int (jI ((r9 : Nat) : Int))), (3, .int (jI ((c9 : Nat) : Int)))]) hx hb dX6_minor_76 hl (k := 1) rfl (jI_add _ _) (by decide) rfl (fun ls hl => ?_)
                  have hl : lv_has ls 8 [(6, .int (jI (((cb c9 (b8 + 1)) : Nat) : Int))), (7, .int (jI ((b8 : Nat) : Int))), (5, .int (jI ((a8 : Nat) : Int))), (4, .int (jI (((cb r9 a8) : Nat) : Int))), (0, .ref (ad 1000)), (1, .int (jI ((y9 : Nat) : Int))), (2, .int (jI ((r9 : Nat) : Int))), (3, .int (jI ((c9 : Nat) : Int)))] := by rw [hcs2]; exact hl
                  refine lv_iinc (v := jI (((b8 : Nat) : Int) + 1)) (lv' := [(7, .int (jI (((b8 : Nat) : Int) + 1))), (6, .int (jI (((cb c9 (b8 + 1)) : Nat) : Int))), (5, .int (jI ((a8 : Nat) : Int))), (4, .int (jI (((cb r9 a8) : Nat) : Int))), (0, .ref (ad 1000)), (1, .int (jI ((y9 : Nat) : Int))), (2, .int (jI ((r9 : Nat) : Int))), (3, .int (jI ((c9 : Nat) : Int)))]) hx hb dX6_minor_79 hl (k := 1) rfl (jI_add _ _) (by decide) rfl (fun ls hl => ?_)
                  refine lv_goto (tgt := 31) hx hb dX6_minor_82 (by decide) ?_
                  exact ih_LB (b8 + 1) ((ub A2 (cb r9 a8) (ub (A2 (cb r9 a8)) (cb c9 b8) (lap (yn y9) (yM y9) (a8 + 1) (b8 + 1))))) (by omega) (fun x y h1 h2 h3 h4 => by
                      rw [ub_n _ _ (by have := cb_lt h2 h1; omega)]; exact hAA x y h1 h2 h3 h4) (fun y h1 h2 => by
                      rw [ub_s]
                      rcases Nat.lt_or_ge y b8 with h | h
                      · rw [ub_n _ _ (by have := cb_lt h2 h; omega)]; exact hB y h h2
                      · rw [show y = b8 by omega, ub_s]) (by omega) ct_9 _ _ hk_10 trivial hof_9 trivial hW hS ls (lv_sub hl [0, 1, 2, 3, 4, 5, 6, 7] rfl)
                · skip
                  have hbit2 : c9 / 2 ^ b8 % 2 = 0 := by omega
                  rw [hbit2] at hcs2
                  refine lv_goto (tgt := 79) hx hb dX6_minor_47 (by decide) ?_
                  have hl : lv_has ls 8 [(7, .int (jI ((b8 : Nat) : Int))), (6, .int (jI (((cb c9 (b8 + 1)) : Nat) : Int))), (5, .int (jI ((a8 : Nat) : Int))), (4, .int (jI (((cb r9 a8) : Nat) : Int))), (0, .ref (ad 1000)), (1, .int (jI ((y9 : Nat) : Int))), (2, .int (jI ((r9 : Nat) : Int))), (3, .int (jI ((c9 : Nat) : Int)))] := by rw [hcs2]; exact hl
                  refine lv_iinc (v := jI (((b8 : Nat) : Int) + 1)) (lv' := [(7, .int (jI (((b8 : Nat) : Int) + 1))), (6, .int (jI (((cb c9 (b8 + 1)) : Nat) : Int))), (5, .int (jI ((a8 : Nat) : Int))), (4, .int (jI (((cb r9 a8) : Nat) : Int))), (0, .ref (ad 1000)), (1, .int (jI ((y9 : Nat) : Int))), (2, .int (jI ((r9 : Nat) : Int))), (3, .int (jI ((c9 : Nat) : Int)))]) hx hb dX6_minor_79 hl (k := 0) rfl (jI_add _ _) (by decide) rfl (fun ls hl => ?_)
                  refine lv_goto (tgt := 31) hx hb dX6_minor_82 (by decide) ?_
                  exact ih_LB (b8 + 1) (A2) (by omega) (hAA) (fun y h1 h2 => by
                      rcases Nat.lt_or_ge y b8 with h | h
                      · exact hB y h h2
                      · rw [show y = b8 by omega] at h2; omega) (by omega) ctv_5 _ _ hv0_5 trivial hofv_5 trivial hW hS ls (lv_sub hl [0, 1, 2, 3, 4, 5, 6, 7] rfl)
          exact LB (8) (0) (A1) (by omega) (hAA) (fun y h1 h2 => by omega) (by omega) ctv_1 _ _ hv0_1 trivial hofv_1 trivial hW hS ls (lv_sub hl [0, 1, 2, 3, 4, 5, 6, 7] rfl)
        · skip
          have hbit : r9 / 2 ^ a8 % 2 = 0 := by omega
          rw [hbit] at hcs
          refine lv_goto (tgt := 88) hx hb dX6_minor_22 (by decide) ?_
          have hl : lv_has ls 8 [(5, .int (jI ((a8 : Nat) : Int))), (4, .int (jI (((cb r9 (a8 + 1)) : Nat) : Int))), (0, .ref (ad 1000)), (1, .int (jI ((y9 : Nat) : Int))), (2, .int (jI ((r9 : Nat) : Int))), (3, .int (jI ((c9 : Nat) : Int)))] := by rw [hcs]; exact hl
          refine lv_iinc (v := jI (((a8 : Nat) : Int) + 1)) (lv' := [(5, .int (jI (((a8 : Nat) : Int) + 1))), (4, .int (jI (((cb r9 (a8 + 1)) : Nat) : Int))), (0, .ref (ad 1000)), (1, .int (jI ((y9 : Nat) : Int))), (2, .int (jI ((r9 : Nat) : Int))), (3, .int (jI ((c9 : Nat) : Int)))]) hx hb dX6_minor_88 hl (k := 0) rfl (jI_add _ _) (by decide) rfl (fun ls hl => ?_)
          refine lv_goto (tgt := 6) hx hb dX6_minor_91 (by decide) ?_
          exact ih_LA (a8 + 1) (A1) (by omega) (fun x y h1 h2 h3 h4 => by
              rcases Nat.lt_or_ge x a8 with h | h
              · exact hAA x y h h2 h3 h4
              · rw [show x = a8 by omega] at h2; omega) (by omega) ctv_1 _ _ hv0_1 trivial hofv_1 trivial hW hS ls (lv_sub hl [0, 1, 2, 3, 4, 5] rfl)
  exact LA (8) (0) (mA) (by omega) (fun x y h => by omega) (by omega) ct _ _ hMo.2.2.2.2.2.2.2.1 trivial (fun _ _ => rfl) trivial hW hS ls (lv_sub hl [0, 1, 2, 3, 4, 5] rfl)
