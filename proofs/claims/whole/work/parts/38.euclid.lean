set_option maxHeartbeats 4000000 in
set_option maxRecDepth 100000 in
theorem c_X5_commonDivisor (l : Launch) (D : va_G) (ty : Nat → ClassId) (ad : Nat → Nat) (ct : rm_C) (sz : Nat) (a b : Int) (ha : -2305843009213693952 ≤ a ∧ a < 2305843009213693952) (hb9 : -2305843009213693952 ≤ b ∧ b < 2305843009213693952) : Met l yX5_commonDivisor wsX5_commonDivisor ({ frames := 1, cells := 0, slots := 0, locals := 13 }) (rm_P D ty ad ct sz [.long (jL a), .long (jL b)]) (rm_Ql D ad ct sz (fun z ct1 => z = (((eus 100 a.natAbs b.natAbs).1 : Nat) : Int) ∧ ct1 = ct)) 0 0 (rm_A ad ct sz) := by
  refine Met.ofW (cc := cX5_commonDivisor) (maxL := 11) (ret := (some .long)) (by decide) rfl ?_
  intro p e s m args below meth c s₁ B hml hv
  obtain ⟨hargs, hsz, hW, hK, hNw⟩ := hv
  have hx := B.exec
  have hb := B.bytes
  have hr := B.returns
  have hts := atoms_spec (ws := wsX5_commonDivisor) B.pre
  have hown : s.vm.findClass RX5 = some m.cls := findClass_of_methodNamed B.named
  have hlocks := B.notSynchronized
  subst hsz
  have hW := hW.own (sz := s.heap.size)
  have hA : ∀ q : Nat, s.heap.size ≤ q → rm_A ad ct s.heap.size q := fun q h => Or.inr h
  have hS : va_S (rm_A ad ct s.heap.size) s.heap s.heap [] := va_S.rf
  have hent : entryFrame m args 11 = entryFrame m ([.long (jL a), .long (jL b)] : List Value).toArray 11 := by rw [hargs]
  have hl := lv_entry ([.long (jL a), .long (jL b)]) (n := 11) (Nat.le_of_ble_eq_true rfl)
  rw [hent, lg_entry_eq]
  generalize (lg_sl ([.long (jL a), .long (jL b)]) ++ List.replicate (11 - (lg_sl ([.long (jL a), .long (jL b)])).length) Slot.unset).toArray = ls at hl ⊢
  have hl : lv_has ls 11 [(0, .long (jL a)), (2, .long (jL b))] := hl
  refine lv_lload_n hx hb dX5_commonDivisor_0 rfl (lv_at hl 0 rfl) ?_
  refine rm_labs hx hb (hml.trans hl.1.symm) hown (hts (.methodLink RX5 204 Lib.MathLoose.abs_long.x) (by decide +kernel)) (hts (.static Lib.MathLoose.abs_long.x) (by decide +kernel)) (hts (.initialized "java/lang/Math") (by decide +kernel)) (hts (.code Lib.MathLoose.abs_long.x Lib.MathLoose.abs_long.code 2 (some .long)) (by decide +kernel)) (by decide) (by decide) (Nat.zero_le _) (Nat.zero_le _) ⟨by omega, by omega⟩ dX5_commonDivisor_1 ?_
  refine lv_lstore (lv' := [(4, .long (jL (((a).natAbs : Nat) : Int))), (0, .long (jL a)), (2, .long (jL b))]) hx hb dX5_commonDivisor_4 hl (by decide) rfl (fun ls hl => ?_)
  refine lv_lload_n hx hb dX5_commonDivisor_6 rfl (lv_at hl 2 rfl) ?_
  refine rm_labs hx hb (hml.trans hl.1.symm) hown (hts (.methodLink RX5 204 Lib.MathLoose.abs_long.x) (by decide +kernel)) (hts (.static Lib.MathLoose.abs_long.x) (by decide +kernel)) (hts (.initialized "java/lang/Math") (by decide +kernel)) (hts (.code Lib.MathLoose.abs_long.x Lib.MathLoose.abs_long.code 2 (some .long)) (by decide +kernel)) (by decide) (by decide) (Nat.zero_le _) (Nat.zero_le _) ⟨by omega, by omega⟩ dX5_commonDivisor_7 ?_
  refine lv_lstore (lv' := [(6, .long (jL (((b).natAbs : Nat) : Int))), (4, .long (jL (((a).natAbs : Nat) : Int))), (0, .long (jL a)), (2, .long (jL b))]) hx hb dX5_commonDivisor_10 hl (by decide) rfl (fun ls hl => ?_)
  refine lv_iconst (v := jI 0) hx hb dX5_commonDivisor_12 rfl ?_
  refine lv_istore (lv' := [(8, .int (jI 0)), (6, .long (jL (((b).natAbs : Nat) : Int))), (4, .long (jL (((a).natAbs : Nat) : Int))), (0, .long (jL a)), (2, .long (jL b))]) hx hb dX5_commonDivisor_13 hl (by decide) rfl (fun ls hl => ?_)
  have LP : ∀ (k : Nat) (k9 : Nat) (hk9 : k9 ≤ 100), 100 - k9 < k → ∀ (H : Heap) (locs : List Loc), rm_W D ad ct (rm_A ad ct s.heap.size) H → va_S (rm_A ad ct s.heap.size) s.heap H locs → ∀ ls : Array Slot, lv_has ls 11 [(8, .int (jI ((k9 : Nat) : Int))), (6, .long (jL (((eus k9 a.natAbs b.natAbs).2 : Nat) : Int))), (4, .long (jL (((eus k9 a.natAbs b.natAbs).1 : Nat) : Int)))] → W p l e (headSpec wsX5_commonDivisor ({ frames := 1, cells := 0, slots := 0, locals := 13 })).room s m args below meth c H locs 0 0 (MQ below (rm_Ql D ad ct s.heap.size (fun z ct1 => z = (((eus 100 a.natAbs b.natAbs).1 : Nat) : Int) ∧ ct1 = ct)) args s 0 0 (rm_A ad ct s.heap.size)) (F0 m 15 ls []) := by
    intro k
    induction k with
    | zero => intro k9 hk9 hk; exact absurd hk (Nat.not_lt_zero _)
    | succ k ih_LP =>
      intro k9 hk9 hk  H locs   hW hS ls hl
      have hel := eus_le a.natAbs b.natAbs k9
      refine lv_iload hx hb dX5_commonDivisor_15 (lv_at hl 0 rfl) ?_
      refine lv_bipush (v := jI 100) hx hb dX5_commonDivisor_17 (by decide) ?_
      refine rm_icmp_ge (tgt := 50) hx hb ⟨by omega, by omega⟩ ⟨by omega, by omega⟩ dX5_commonDivisor_19 (by decide) (fun hc_2 => ?_) (fun hc_2 => ?_)
      · skip
        have hk : k9 = 100 := by omega
        subst hk
        refine lv_lload hx hb dX5_commonDivisor_50 (lv_at hl 2 rfl) ?_
        exact W.lret hx hb hr (fun t ht hw => ⟨⟨_, ((((eus 100 a.natAbs b.natAbs).1 : Nat) : Int), ct), rfl, ⟨rfl, ⟨rfl, rfl⟩⟩, by show rm_W D ad _ _ t.heap; rw [ht]; exact hW⟩, hS.F ht⟩) hS.2.2 dX5_commonDivisor_52
      · skip
        refine lv_lload hx hb dX5_commonDivisor_22 (lv_at hl 1 rfl) ?_
        refine lv_lconst (v := jL 0) hx hb dX5_commonDivisor_24 rfl ?_
        refine rm_lcmp hx hb ⟨by omega, by omega⟩ ⟨by omega, by omega⟩ dX5_commonDivisor_25 ?_
        refine rm_if_eq (tgt := 50) hx hb (lcv_rng _ _) dX5_commonDivisor_26 (by decide) (fun hc_3 => ?_) (fun hc_3 => ?_)
        · skip
          have hc_3 := lcv_eq.mp hc_3
          have hz0 : (eus k9 a.natAbs b.natAbs).2 = 0 := by omega
          have he : eus 100 a.natAbs b.natAbs = (eus k9 a.natAbs b.natAbs) := by rw [show 100 = k9 + (100 - k9) by omega]; exact eus_stop hz0 _
          refine lv_lload hx hb dX5_commonDivisor_50 (lv_at hl 2 rfl) ?_
          exact W.lret hx hb hr (fun t ht hw => ⟨⟨_, ((((eus k9 a.natAbs b.natAbs).1 : Nat) : Int), ct), rfl, ⟨rfl, ⟨by rw [he], rfl⟩⟩, by show rm_W D ad _ _ t.heap; rw [ht]; exact hW⟩, hS.F ht⟩) hS.2.2 dX5_commonDivisor_52
        · skip
          have hc_3 : (((eus k9 a.natAbs b.natAbs).2 : Nat) : Int) ≠ 0 := fun hq => hc_3 (lcv_eq.mpr hq)
          have hz0 : (eus k9 a.natAbs b.natAbs).2 ≠ 0 := by omega
          have hes := eus_s hz0
          refine lv_lload hx hb dX5_commonDivisor_29 (lv_at hl 2 rfl) ?_
          refine lv_lload hx hb dX5_commonDivisor_31 (lv_at hl 1 rfl) ?_
          refine rm_lrem hx hb dX5_commonDivisor_33 ⟨by omega, by omega⟩ ⟨by omega, by omega⟩ (by omega) ?_
          rw [show Int.tmod (((eus k9 a.natAbs b.natAbs).1 : Nat) : Int) (((eus k9 a.natAbs b.natAbs).2 : Nat) : Int) = (((eus (k9 + 1) a.natAbs b.natAbs).2 : Nat) : Int) by rw [hes]; rfl]
          refine lv_lstore (lv' := [(9, .long (jL (((eus (k9 + 1) a.natAbs b.natAbs).2 : Nat) : Int))), (8, .int (jI ((k9 : Nat) : Int))), (6, .long (jL (((eus k9 a.natAbs b.natAbs).2 : Nat) : Int))), (4, .long (jL (((eus k9 a.natAbs b.natAbs).1 : Nat) : Int)))]) hx hb dX5_commonDivisor_34 hl (by decide) rfl (fun ls hl => ?_)
          refine lv_lload hx hb dX5_commonDivisor_36 (lv_at hl 2 rfl) ?_
          refine lv_lstore (lv' := [(4, .long (jL (((eus k9 a.natAbs b.natAbs).2 : Nat) : Int))), (9, .long (jL (((eus (k9 + 1) a.natAbs b.natAbs).2 : Nat) : Int))), (8, .int (jI ((k9 : Nat) : Int))), (6, .long (jL (((eus k9 a.natAbs b.natAbs).2 : Nat) : Int)))]) hx hb dX5_commonDivisor_38 hl (by decide) rfl (fun ls hl => ?_)
          refine lv_lload hx hb dX5_commonDivisor_40 (lv_at hl 1 rfl) ?_
          refine lv_lstore (lv' := [(6, .long (jL (((eus (k9 + 1) a.natAbs b.natAbs).2 : Nat) : Int))), (4, .long (jL (((eus k9 a.natAbs b.natAbs).2 : Nat) : Int))), (9, .long (jL (((eus (k9 + 1) a.natAbs b.natAbs).2 : Nat) : Int))), (8, .int (jI ((k9 : Nat) : Int)))]) hx hb dX5_commonDivisor_42 hl (by decide) rfl (fun ls hl => ?_)
          have hl : lv_has ls 11 [(6, .long (jL (((eus (k9 + 1) a.natAbs b.natAbs).2 : Nat) : Int))), (4, .long (jL (((eus (k9 + 1) a.natAbs b.natAbs).1 : Nat) : Int))), (9, .long (jL (((eus (k9 + 1) a.natAbs b.natAbs).2 : Nat) : Int))), (8, .int (jI ((k9 : Nat) : Int)))] := by rw [hes] at hl ⊢; exact hl
          refine lv_iinc (v := jI (((k9 : Nat) : Int) + 1)) (lv' := [(8, .int (jI (((k9 : Nat) : Int) + 1))), (6, .long (jL (((eus (k9 + 1) a.natAbs b.natAbs).2 : Nat) : Int))), (4, .long (jL (((eus (k9 + 1) a.natAbs b.natAbs).1 : Nat) : Int))), (9, .long (jL (((eus (k9 + 1) a.natAbs b.natAbs).2 : Nat) : Int)))]) hx hb dX5_commonDivisor_44 hl (k := 3) rfl (jI_add _ _) (by decide) rfl (fun ls hl => ?_)
          refine lv_goto (tgt := 15) hx hb dX5_commonDivisor_47 (by decide) ?_
          exact ih_LP (k9 + 1) (by omega) (by omega)  _ _ hW hS ls (lv_sub hl [0, 1, 2] rfl)
  exact LP (101) (0) (by omega) (by omega)  _ _ hW hS ls (lv_sub hl [0, 1, 2] rfl)
set_option maxHeartbeats 4000000 in
set_option maxRecDepth 100000 in
theorem c_floorMod (l : Launch) (D : va_G) (ty : Nat → ClassId) (ad : Nat → Nat) (ct : rm_C) (sz : Nat) (a b : Int) (ha : r64 a) (hb0 : 0 < b) (hb9 : b < 4611686018427387904) : Met l yJ9_floorMod_f86c9 wsJ9_floorMod_f86c9 ({ frames := 0, cells := 0, slots := 0, locals := 0 }) (rm_P D ty ad ct sz [.long (jL a), .long (jL b)]) (rm_Ql D ad ct sz (fun z ct1 => z = a % b ∧ ct1 = ct)) 0 0 (rm_A ad ct sz) := by
  refine Met.ofWF (cc := cJ9_floorMod_f86c9) (maxL := 6) (ret := (some .long)) plain_floorMod rfl ?_
  intro p e s m args below meth c s₁ B hml hv
  obtain ⟨hargs, hsz, hW, hK, hNw⟩ := hv
  have hx := B.exec
  have hb := B.bytes
  have hr := B.returns
  have hts := atoms_spec (ws := wsJ9_floorMod_f86c9) B.pre
  have hown : s.vm.findClass RJ9 = some m.cls := findClass_of_methodNamed B.named
  have hlocks := B.notSynchronized
  subst hsz
  have hW := hW.own (sz := s.heap.size)
  have hA : ∀ q : Nat, s.heap.size ≤ q → rm_A ad ct s.heap.size q := fun q h => Or.inr h
  have hS : va_S (rm_A ad ct s.heap.size) s.heap s.heap [] := va_S.rf
  have hent : entryFrame m args 6 = entryFrame m ([.long (jL a), .long (jL b)] : List Value).toArray 6 := by rw [hargs]
  have hl := lv_entry ([.long (jL a), .long (jL b)]) (n := 6) (Nat.le_of_ble_eq_true rfl)
  rw [hent, lg_entry_eq]
  generalize (lg_sl ([.long (jL a), .long (jL b)]) ++ List.replicate (6 - (lg_sl ([.long (jL a), .long (jL b)])).length) Slot.unset).toArray = ls at hl ⊢
  have hl : lv_has ls 6 [(0, .long (jL a)), (2, .long (jL b))] := hl
  have htm := Int.emod_def a b
  have hn1 := Int.emod_nonneg a (show b ≠ 0 by omega)
  have hn2 := Int.emod_lt_of_pos a hb0
  have htl := Int.tmod_lt_of_pos a hb0
  have hcase : (0 ≤ a → Int.tmod a b = a % b) ∧ (a < 0 → (Int.tmod a b = 0 ∧ a % b = 0) ∨ (Int.tmod a b ≠ 0 ∧ -b < Int.tmod a b ∧ Int.tmod a b < 0 ∧ a % b = Int.tmod a b + b)) := fmod_case hb0
  refine lv_lload_n hx hb dJ9_floorMod_f86c9_0 rfl (lv_at hl 0 rfl) ?_
  refine lv_lload_n hx hb dJ9_floorMod_f86c9_1 rfl (lv_at hl 1 rfl) ?_
  refine rm_lrem hx hb dJ9_floorMod_f86c9_2 ha ⟨by omega, by omega⟩ (by omega) ?_
  refine lv_lstore (lv' := [(4, .long (jL (Int.tmod a b))), (0, .long (jL a)), (2, .long (jL b))]) hx hb dJ9_floorMod_f86c9_3 hl (by decide) rfl (fun ls hl => ?_)
  refine lv_lload_n hx hb dJ9_floorMod_f86c9_5 rfl (lv_at hl 1 rfl) ?_
  refine lv_lload_n hx hb dJ9_floorMod_f86c9_6 rfl (lv_at hl 2 rfl) ?_
  have hxs := xor_sign (jL a) (jL b)
  rw [jL_toInt ha, jL_toInt (show r64 b from ⟨by omega, by omega⟩)] at hxs
  refine rm_lxor (z := (jL a ^^^ jL b).toInt) hx hb dJ9_floorMod_f86c9_7 (jL_as _).symm ?_
  refine lv_lconst (v := jL 0) hx hb dJ9_floorMod_f86c9_8 rfl ?_
  refine rm_lcmp hx hb (jL_rng _) ⟨by omega, by omega⟩ dJ9_floorMod_f86c9_9 ?_
  refine rm_if_ge (tgt := 25) hx hb (lcv_rng _ _) dJ9_floorMod_f86c9_10 (by decide) (fun hc_1 => ?_) (fun hc_1 => ?_)
  · skip
    have hc_1 := lcv_ge.mp hc_1
    have ha0 : 0 ≤ a := by rcases Int.lt_or_le a 0 with h | h; exact absurd (hxs.mpr (by omega)) (by omega); exact h
    refine lv_lload hx hb dJ9_floorMod_f86c9_25 (lv_at hl 0 rfl) ?_
    exact W.lret hx hb hr (fun t ht hw => ⟨⟨_, ((Int.tmod a b), ct), rfl, ⟨rfl, ⟨hcase.1 ha0, rfl⟩⟩, by show rm_W D ad _ _ t.heap; rw [ht]; exact hW⟩, hS.F ht⟩) hS.2.2 dJ9_floorMod_f86c9_27
  · skip
    have hc_1 := lcv_lt.mp hc_1
    have ha0 : a < 0 := by rcases Int.lt_or_le a 0 with h | h; exact h; exact absurd (hxs.mp (by omega)) (by omega)
    have hc2 := hcase.2 ha0
    refine lv_lload hx hb dJ9_floorMod_f86c9_13 (lv_at hl 0 rfl) ?_
    refine lv_lconst (v := jL 0) hx hb dJ9_floorMod_f86c9_15 rfl ?_
    refine rm_lcmp hx hb ⟨by omega, by omega⟩ ⟨by omega, by omega⟩ dJ9_floorMod_f86c9_16 ?_
    refine rm_if_eq (tgt := 25) hx hb (lcv_rng _ _) dJ9_floorMod_f86c9_17 (by decide) (fun hc_2 => ?_) (fun hc_2 => ?_)
    · skip
      have hc_2 := lcv_eq.mp hc_2
      refine lv_lload hx hb dJ9_floorMod_f86c9_25 (lv_at hl 0 rfl) ?_
      exact W.lret hx hb hr (fun t ht hw => ⟨⟨_, ((Int.tmod a b), ct), rfl, ⟨rfl, ⟨by omega, rfl⟩⟩, by show rm_W D ad _ _ t.heap; rw [ht]; exact hW⟩, hS.F ht⟩) hS.2.2 dJ9_floorMod_f86c9_27
    · skip
      have hc_2 : (Int.tmod a b) ≠ 0 := fun hq => hc_2 (lcv_eq.mpr hq)
      refine lv_lload hx hb dJ9_floorMod_f86c9_20 (lv_at hl 0 rfl) ?_
      refine lv_lload_n hx hb dJ9_floorMod_f86c9_22 rfl (lv_at hl 2 rfl) ?_
      refine rm_ladd hx hb dJ9_floorMod_f86c9_23 ?_
      exact W.lret hx hb hr (fun t ht hw => ⟨⟨_, (((Int.tmod a b) + b), ct), rfl, ⟨rfl, ⟨by omega, rfl⟩⟩, by show rm_W D ad _ _ t.heap; rw [ht]; exact hW⟩, hS.F ht⟩) hS.2.2 dJ9_floorMod_f86c9_24
