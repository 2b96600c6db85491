set_option maxHeartbeats 4000000 in
set_option maxRecDepth 100000 in
theorem c_X3_told (l : Launch) (D : va_G) (ty : Nat → ClassId) (ad : Nat → Nat) (ct : rm_C) (sz : Nat) (po kz on : Nat) (tr : Int) (r : Nat → Int) (T : Nat → Nat → Int) (i : Nat) (hi : i < 8) (hon : on ≤ 8) (hkz : kz ≤ 8) (hP : PartsAt ty ad ct po kz on tr r T) : Met l yX3_told wsX3_told ({ frames := 0, cells := 0, slots := 0, locals := 0 }) (rm_P D ty ad ct sz [.ref (ad po), .int (jI ((i : Nat) : Int))]) (rm_Ql D ad ct sz (fun z ct1 => z = (if on + i < kz then r (on + i) else 1) ∧ ct1 = ct)) 0 0 (rm_A ad ct sz) := by
  refine Met.ofW (cc := cX3_told) (maxL := 3) (ret := (some .long)) (by decide) rfl ?_
  intro p e s m args below meth c s₁ B hml hv
  obtain ⟨hargs, hsz, hW, hK, hNw⟩ := hv
  have hx := B.exec
  have hb := B.bytes
  have hr := B.returns
  have hts := atoms_spec (ws := wsX3_told) B.pre
  have hown : s.vm.findClass RX3 = some m.cls := findClass_of_methodNamed B.named
  have hlocks := B.notSynchronized
  subst hsz
  have hW := hW.own (sz := s.heap.size)
  have hA : ∀ q : Nat, s.heap.size ≤ q → rm_A ad ct s.heap.size q := fun q h => Or.inr h
  have hS : va_S (rm_A ad ct s.heap.size) s.heap s.heap [] := va_S.rf
  have hent : entryFrame m args 3 = entryFrame m ([.ref (ad po), .int (jI ((i : Nat) : Int))] : List Value).toArray 3 := by rw [hargs]
  have hl := lv_entry ([.ref (ad po), .int (jI ((i : Nat) : Int))]) (n := 3) (Nat.le_of_ble_eq_true rfl)
  rw [hent, lg_entry_eq]
  generalize (lg_sl ([.ref (ad po), .int (jI ((i : Nat) : Int))]) ++ List.replicate (3 - (lg_sl ([.ref (ad po), .int (jI ((i : Nat) : Int))])).length) Slot.unset).toArray = ls at hl ⊢
  have hl : lv_has ls 3 [(0, .ref (ad po)), (1, .int (jI ((i : Nat) : Int)))] := hl
  refine lv_aload_n hx hb dX3_told_0 rfl (lv_at hl 0 rfl) ?_
  refine rm_get (ci := 3) (v := .int (jI ((on : Nat) : Int))) (C := RX3) (T := TX3) (N := 5) hx hb hts (by decide +kernel) hown hK hW hP.1 rfl 3 (by decide) (hts (.fieldLink RX3 24 "GrainYard$Parts" "ones" "I") (by decide +kernel)) (fun _ h9 => h9) rfl dX3_told_1 ?_
  refine lv_iload_n hx hb dX3_told_4 rfl (lv_at hl 1 rfl) ?_
  refine rm_iadd hx hb dX3_told_5 ?_
  refine lv_istore_n (lv' := [(2, .int (jI (((on : Nat) : Int) + ((i : Nat) : Int)))), (0, .ref (ad po)), (1, .int (jI ((i : Nat) : Int)))]) hx hb dX3_told_6 rfl hl (by decide) rfl (fun ls hl => ?_)
  refine lv_iload_n hx hb dX3_told_7 rfl (lv_at hl 0 rfl) ?_
  refine rm_if_lt (tgt := 28) hx hb ⟨by omega, by omega⟩ dX3_told_8 (by decide) (fun hq => absurd hq (by omega)) (fun _ => ?_)
  refine lv_iload_n hx hb dX3_told_11 rfl (lv_at hl 0 rfl) ?_
  refine lv_aload_n hx hb dX3_told_12 rfl (lv_at hl 1 rfl) ?_
  refine rm_get (ci := 3) (v := .int (jI ((kz : Nat) : Int))) (C := RX3) (T := TX3) (N := 5) hx hb hts (by decide +kernel) hown hK hW hP.1 rfl 2 (by decide) (hts (.fieldLink RX3 20 "GrainYard$Parts" "size" "I") (by decide +kernel)) (fun _ h9 => h9) rfl dX3_told_13 ?_
  refine rm_icmp_ge (tgt := 28) hx hb ⟨by omega, by omega⟩ ⟨by omega, by omega⟩ dX3_told_16 (by decide) (fun hc_1 => ?_) (fun hc_1 => ?_)
  · skip
    refine lv_lconst (v := jL 1) hx hb dX3_told_28 rfl ?_
    exact W.lret hx hb hr (fun t ht hw => ⟨⟨_, (1, ct), rfl, ⟨rfl, ⟨(if_neg (by omega)).symm, rfl⟩⟩, by show rm_W D ad _ _ t.heap; rw [ht]; exact hW⟩, hS.F ht⟩) hS.2.2 dX3_told_29
  · skip
    refine lv_aload_n hx hb dX3_told_19 rfl (lv_at hl 1 rfl) ?_
    refine rm_get (ci := 3) (v := .ref (ad (po + 10))) (C := RX3) (T := TX3) (N := 5) hx hb hts (by decide +kernel) hown hK hW hP.1 rfl 1 (by decide) (hts (.fieldLink RX3 16 "GrainYard$Parts" "rounds" "[J") (by decide +kernel)) (fun _ h9 => h9) rfl dX3_told_20 ?_
    refine lv_iload_n hx hb dX3_told_23 rfl (lv_at hl 0 rfl) ?_
    refine rm_lald hx hb hK hW (f := r) hP.2.2.1 (on + i) (by push_cast; omega) (by omega) (by omega) dX3_told_24 ?_
    refine lv_goto (tgt := 29) hx hb dX3_told_25 (by decide) ?_
    exact W.lret hx hb hr (fun t ht hw => ⟨⟨_, ((r (on + i)), ct), rfl, ⟨rfl, ⟨(if_pos (by omega)).symm, rfl⟩⟩, by show rm_W D ad _ _ t.heap; rw [ht]; exact hW⟩, hS.F ht⟩) hS.2.2 dX3_told_29
set_option maxHeartbeats 4000000 in
set_option maxRecDepth 100000 in
theorem c_X3_isLess (l : Launch) (D : va_G) (ty : Nat → ClassId) (ad : Nat → Nat) (ct : rm_C) (sz : Nat) (a b : Int) (ha : r64 a) (hb9 : r64 b) : Met l yX3_isLess wsX3_isLess ({ frames := 0, cells := 0, slots := 0, locals := 0 }) (rm_P D ty ad ct sz [.long (jL a), .long (jL b)]) (rm_Qi D ad ct sz (fun z ct1 => z = (if lsn a b = true then 1 else 0) ∧ ct1 = ct)) 0 0 (rm_A ad ct sz) := by
  refine Met.ofW (cc := cX3_isLess) (maxL := 4) (ret := (some .boolean)) (by decide) rfl ?_
  intro p e s m args below meth c s₁ B hml hv
  obtain ⟨hargs, hsz, hW, hK, hNw⟩ := hv
  have hx := B.exec
  have hb := B.bytes
  have hr := B.returns
  have hts := atoms_spec (ws := wsX3_isLess) B.pre
  have hown : s.vm.findClass RX3 = some m.cls := findClass_of_methodNamed B.named
  have hlocks := B.notSynchronized
  subst hsz
  have hW := hW.own (sz := s.heap.size)
  have hA : ∀ q : Nat, s.heap.size ≤ q → rm_A ad ct s.heap.size q := fun q h => Or.inr h
  have hS : va_S (rm_A ad ct s.heap.size) s.heap s.heap [] := va_S.rf
  have hent : entryFrame m args 4 = entryFrame m ([.long (jL a), .long (jL b)] : List Value).toArray 4 := by rw [hargs]
  have hl := lv_entry ([.long (jL a), .long (jL b)]) (n := 4) (Nat.le_of_ble_eq_true rfl)
  rw [hent, lg_entry_eq]
  generalize (lg_sl ([.long (jL a), .long (jL b)]) ++ List.replicate (4 - (lg_sl ([.long (jL a), .long (jL b)])).length) Slot.unset).toArray = ls at hl ⊢
  have hl : lv_has ls 4 [(0, .long (jL a)), (2, .long (jL b))] := hl
  have h064 : r64 0 := r64_0
  refine lv_lload_n hx hb dX3_isLess_0 rfl (lv_at hl 0 rfl) ?_
  refine lv_lconst (v := jL 0) hx hb dX3_isLess_1 rfl ?_
  refine rm_lcmp hx hb ha h064 dX3_isLess_2 ?_
  refine rm_if_eq (tgt := 22) hx hb (lcv_rng _ _) dX3_isLess_3 (by decide) (fun hc_1 => ?_) (fun hc_1 => ?_)
  · skip
    have hc_1 := lcv_eq.mp hc_1
    have hn : lsn a b ≠ true := fun hq => by have h9 := of_decide_eq_true hq; omega
    refine lv_iconst (v := jI 0) hx hb dX3_isLess_22 rfl ?_
    exact W.zret hx hb hr (by decide) (fun t ht hw => ⟨⟨_, (0, ct), rfl, ⟨rfl, ⟨(if_neg hn).symm, rfl⟩⟩, by show rm_W D ad _ _ t.heap; rw [ht]; exact hW⟩, hS.F ht⟩) hS.2.2 dX3_isLess_23
  · skip
    have hc_1 : a ≠ 0 := fun hq => hc_1 (lcv_eq.mpr hq)
    refine lv_lload_n hx hb dX3_isLess_6 rfl (lv_at hl 1 rfl) ?_
    refine lv_lconst (v := jL 0) hx hb dX3_isLess_7 rfl ?_
    refine rm_lcmp hx hb hb9 h064 dX3_isLess_8 ?_
    refine rm_if_eq (tgt := 18) hx hb (lcv_rng _ _) dX3_isLess_9 (by decide) (fun hc_2 => ?_) (fun hc_2 => ?_)
    · skip
      have hc_2 := lcv_eq.mp hc_2
      have hn : lsn a b = true := decide_eq_true (⟨by omega, Or.inl (by omega)⟩)
      refine lv_iconst (v := jI 1) hx hb dX3_isLess_18 rfl ?_
      refine lv_goto (tgt := 23) hx hb dX3_isLess_19 (by decide) ?_
      exact W.zret hx hb hr (by decide) (fun t ht hw => ⟨⟨_, (1, ct), rfl, ⟨rfl, ⟨(if_pos hn).symm, rfl⟩⟩, by show rm_W D ad _ _ t.heap; rw [ht]; exact hW⟩, hS.F ht⟩) hS.2.2 dX3_isLess_23
    · skip
      have hc_2 : b ≠ 0 := fun hq => hc_2 (lcv_eq.mpr hq)
      refine lv_lload_n hx hb dX3_isLess_12 rfl (lv_at hl 0 rfl) ?_
      refine lv_lload_n hx hb dX3_isLess_13 rfl (lv_at hl 1 rfl) ?_
      refine rm_lcmp hx hb ha hb9 dX3_isLess_14 ?_
      refine rm_if_ge (tgt := 22) hx hb (lcv_rng _ _) dX3_isLess_15 (by decide) (fun hc_3 => ?_) (fun hc_3 => ?_)
      · skip
        have hc_3 := lcv_ge.mp hc_3
        have hn : lsn a b ≠ true := fun hq => by have h9 := of_decide_eq_true hq; omega
        refine lv_iconst (v := jI 0) hx hb dX3_isLess_22 rfl ?_
        exact W.zret hx hb hr (by decide) (fun t ht hw => ⟨⟨_, (0, ct), rfl, ⟨rfl, ⟨(if_neg hn).symm, rfl⟩⟩, by show rm_W D ad _ _ t.heap; rw [ht]; exact hW⟩, hS.F ht⟩) hS.2.2 dX3_isLess_23
      · skip
        have hc_3 := lcv_lt.mp hc_3
        have hn : lsn a b = true := decide_eq_true (⟨by omega, Or.inr (by omega)⟩)
        refine lv_iconst (v := jI 1) hx hb dX3_isLess_18 rfl ?_
        refine lv_goto (tgt := 23) hx hb dX3_isLess_19 (by decide) ?_
        exact W.zret hx hb hr (by decide) (fun t ht hw => ⟨⟨_, (1, ct), rfl, ⟨rfl, ⟨(if_pos hn).symm, rfl⟩⟩, by show rm_W D ad _ _ t.heap; rw [ht]; exact hW⟩, hS.F ht⟩) hS.2.2 dX3_isLess_23
set_option maxHeartbeats 4000000 in
set_option maxRecDepth 100000 in
theorem c_X3_counted (l : Launch) (D : va_G) (ty : Nat → ClassId) (ad : Nat → Nat) (ct : rm_C) (sz : Nat) (po kz on : Nat) (tr : Int) (r : Nat → Int) (T : Nat → Nat → Int) (a : Int) (ha : r64 a) (ht : 0 < tr) (ht9 : tr < 4611686018427387904) (hkz : kz ≤ 8) (hP : PartsAt ty ad ct po kz on tr r T) : Met l yX3_counted wsX3_counted ({ frames := 1, cells := 0, slots := 0, locals := 25 }) (rm_P D ty ad ct sz [.ref (ad po), .long (jL a)]) (rm_Ql D ad ct sz (fun z ct1 => z = a % tr ∧ ct1 = ct)) 0 0 (rm_A ad ct sz) := by
  refine Met.ofW (cc := cX3_counted) (maxL := 3) (ret := (some .long)) (by decide) rfl ?_
  intro p e s m args below meth c s₁ B hml hv
  obtain ⟨hargs, hsz, hW, hK, hNw⟩ := hv
  have hx := B.exec
  have hb := B.bytes
  have hr := B.returns
  have hts := atoms_spec (ws := wsX3_counted) B.pre
  have hown : s.vm.findClass RX3 = some m.cls := findClass_of_methodNamed B.named
  have hlocks := B.notSynchronized
  subst hsz
  have hW := hW.own (sz := s.heap.size)
  have hA : ∀ q : Nat, s.heap.size ≤ q → rm_A ad ct s.heap.size q := fun q h => Or.inr h
  have hS : va_S (rm_A ad ct s.heap.size) s.heap s.heap [] := va_S.rf
  have hent : entryFrame m args 3 = entryFrame m ([.ref (ad po), .long (jL a)] : List Value).toArray 3 := by rw [hargs]
  have hl := lv_entry ([.ref (ad po), .long (jL a)]) (n := 3) (Nat.le_of_ble_eq_true rfl)
  rw [hent, lg_entry_eq]
  generalize (lg_sl ([.ref (ad po), .long (jL a)]) ++ List.replicate (3 - (lg_sl ([.ref (ad po), .long (jL a)])).length) Slot.unset).toArray = ls at hl ⊢
  have hl : lv_has ls 3 [(0, .ref (ad po)), (1, .long (jL a))] := hl
  refine lv_aload_n hx hb dX3_counted_0 rfl (lv_at hl 0 rfl) ?_
  refine rm_get (ci := 3) (v := .long (jL tr)) (C := RX3) (T := TX3) (N := 5) hx hb hts (by decide +kernel) hown hK hW hP.1 rfl 4 (by decide) (hts (.fieldLink RX3 27 "GrainYard$Parts" "trees" "J") (by decide +kernel)) (fun _ h9 => h9) rfl dX3_counted_1 ?_
  refine lv_lconst (v := jL 0) hx hb dX3_counted_4 rfl ?_
  refine rm_lcmp hx hb ⟨by omega, by omega⟩ ⟨by omega, by omega⟩ dX3_counted_5 ?_
  refine rm_if_gt (tgt := 13) hx hb (lcv_rng _ _) dX3_counted_6 (by decide) (fun _ => ?_) (fun hq => absurd (lcv_le.mp hq) (by omega))
  refine lv_lload_n hx hb dX3_counted_13 rfl (lv_at hl 1 rfl) ?_
  refine lv_aload_n hx hb dX3_counted_14 rfl (lv_at hl 0 rfl) ?_
  refine rm_get (ci := 3) (v := .long (jL tr)) (C := RX3) (T := TX3) (N := 5) hx hb hts (by decide +kernel) hown hK hW hP.1 rfl 4 (by decide) (hts (.fieldLink RX3 27 "GrainYard$Parts" "trees" "J") (by decide +kernel)) (fun _ h9 => h9) rfl dX3_counted_15 ?_
  refine rm_calll (va_runS (As := [.long (jL a), .long (jL tr)]) (rest := []) ⟨hx, hb, hml, hown, hts⟩ (c_floorMod l D ty ad ct s.heap.size a tr ha ht ht9) (va_cwS 2 hts gX3_counted_J9_floorMod_f86c9 rfl rfl rfl (by decide +kernel) ⟨Nat.le_of_ble_eq_true rfl, Nat.le_of_ble_eq_true rfl⟩) (rm_preS hK hNw hW) rfl rfl hl.1 rfl (lv_room (Nat.le_of_ble_eq_true rfl)) dX3_counted_18 ⟨Nat.zero_le _, Nat.zero_le _⟩) hW hS hA (fun z_1 ct_1 H locs hq_1 hW hS => ?_)
  obtain ⟨hz, hcc_1⟩ := hq_1
  have hcc_1 := hcc_1.symm
  subst hcc_1
  subst hz
  exact W.lret hx hb hr (fun t ht hw => ⟨⟨_, ((a % tr), ct), rfl, ⟨rfl, ⟨rfl, rfl⟩⟩, by show rm_W D ad _ _ t.heap; rw [ht]; exact hW⟩, hS.F ht⟩) hS.2.2 dX3_counted_21
set_option maxHeartbeats 4000000 in
set_option maxRecDepth 100000 in
theorem c_X3_isClear (l : Launch) (D : va_G) (ty : Nat → ClassId) (ad : Nat → Nat) (ct : rm_C) (sz : Nat) (po kz on : Nat) (tr : Int) (r : Nat → Int) (T : Nat → Nat → Int) (co : Nat) (hc : co < kz) (hR : ∀ i j, i < kz → j < kz → r64 (T i j)) (hkz : kz ≤ 8) (hP : PartsAt ty ad ct po kz on tr r T) : Met l yX3_isClear wsX3_isClear ({ frames := 0, cells := 0, slots := 0, locals := 0 }) (rm_P D ty ad ct sz [.ref (ad po), .int (jI ((co : Nat) : Int))]) (rm_Qi D ad ct sz (fun z ct1 => z = (if ccl kz co T = true then 1 else 0) ∧ ct1 = ct)) 0 0 (rm_A ad ct sz) := by
  refine Met.ofW (cc := cX3_isClear) (maxL := 3) (ret := (some .boolean)) (by decide) rfl ?_
  intro p e s m args below meth c s₁ B hml hv
  obtain ⟨hargs, hsz, hW, hK, hNw⟩ := hv
  have hx := B.exec
  have hb := B.bytes
  have hr := B.returns
  have hts := atoms_spec (ws := wsX3_isClear) B.pre
  have hown : s.vm.findClass RX3 = some m.cls := findClass_of_methodNamed B.named
  have hlocks := B.notSynchronized
  subst hsz
  have hW := hW.own (sz := s.heap.size)
  have hA : ∀ q : Nat, s.heap.size ≤ q → rm_A ad ct s.heap.size q := fun q h => Or.inr h
  have hS : va_S (rm_A ad ct s.heap.size) s.heap s.heap [] := va_S.rf
  have hent : entryFrame m args 3 = entryFrame m ([.ref (ad po), .int (jI ((co : Nat) : Int))] : List Value).toArray 3 := by rw [hargs]
  have hl := lv_entry ([.ref (ad po), .int (jI ((co : Nat) : Int))]) (n := 3) (Nat.le_of_ble_eq_true rfl)
  rw [hent, lg_entry_eq]
  generalize (lg_sl ([.ref (ad po), .int (jI ((co : Nat) : Int))]) ++ List.replicate (3 - (lg_sl ([.ref (ad po), .int (jI ((co : Nat) : Int))])).length) Slot.unset).toArray = ls at hl ⊢
  have hl : lv_has ls 3 [(0, .ref (ad po)), (1, .int (jI ((co : Nat) : Int)))] := hl
  have h064 : r64 0 := r64_0
  refine lv_iload_n hx hb dX3_isClear_0 rfl (lv_at hl 1 rfl) ?_
  refine lv_iconst (v := jI 1) hx hb dX3_isClear_1 rfl ?_
  refine rm_iadd hx hb dX3_isClear_2 ?_
  refine lv_istore_n (lv' := [(2, .int (jI (((co : Nat) : Int) + 1))), (0, .ref (ad po)), (1, .int (jI ((co : Nat) : Int)))]) hx hb dX3_isClear_3 rfl hl (by decide) rfl (fun ls hl => ?_)
  have LP : ∀ (k : Nat) (i : Nat) (hi : i ≤ kz) (hi1 : co + 1 ≤ i) (hz : ∀ j, co < j → j < i → T j co = 0 ∧ T co j = 0), kz - i < k → ∀ (H : Heap) (locs : List Loc), rm_W D ad ct (rm_A ad ct s.heap.size) H → va_S (rm_A ad ct s.heap.size) s.heap H locs → ∀ ls : Array Slot, lv_has ls 3 [(2, .int (jI ((i : Nat) : Int))), (0, .ref (ad po)), (1, .int (jI ((co : Nat) : Int)))] → W p l e (headSpec wsX3_isClear ({ frames := 0, cells := 0, slots := 0, locals := 0 })).room s m args below meth c H locs 0 0 (MQ below (rm_Qi D ad ct s.heap.size (fun z ct1 => z = (if ccl kz co T = true then 1 else 0) ∧ ct1 = ct)) args s 0 0 (rm_A ad ct s.heap.size)) (F0 m 4 ls []) := by
    intro k
    induction k with
    | zero => intro i hi hi1 hz hk; exact absurd hk (Nat.not_lt_zero _)
    | succ k ih_LP =>
      intro i hi hi1 hz hk  H locs   hW hS ls hl
      refine lv_iload_n hx hb dX3_isClear_4 rfl (lv_at hl 0 rfl) ?_
      refine lv_aload_n hx hb dX3_isClear_5 rfl (lv_at hl 1 rfl) ?_
      refine rm_get (ci := 3) (v := .int (jI ((kz : Nat) : Int))) (C := RX3) (T := TX3) (N := 5) hx hb hts (by decide +kernel) hown hK hW hP.1 rfl 2 (by decide) (hts (.fieldLink RX3 20 "GrainYard$Parts" "size" "I") (by decide +kernel)) (fun _ h9 => h9) rfl dX3_isClear_6 ?_
      refine rm_icmp_ge (tgt := 46) hx hb ⟨by omega, by omega⟩ ⟨by omega, by omega⟩ dX3_isClear_9 (by decide) (fun hc_2 => ?_) (fun hc_2 => ?_)
      · skip
        have hcc : ccl kz co T = true := ccl_iff.mpr (fun j h1 h2 => hz j h1 (by omega))
        refine lv_iconst (v := jI 1) hx hb dX3_isClear_46 rfl ?_
        exact W.zret hx hb hr (by decide) (fun t ht hw => ⟨⟨_, (1, ct), rfl, ⟨rfl, ⟨(if_pos hcc).symm, rfl⟩⟩, by show rm_W D ad _ _ t.heap; rw [ht]; exact hW⟩, hS.F ht⟩) hS.2.2 dX3_isClear_47
      · skip
        refine lv_aload_n hx hb dX3_isClear_12 rfl (lv_at hl 1 rfl) ?_
        refine rm_get (ci := 3) (v := .ref (ad (po + 1))) (C := RX3) (T := TX3) (N := 5) hx hb hts (by decide +kernel) hown hK hW hP.1 rfl 0 (by decide) (hts (.fieldLink RX3 11 "GrainYard$Parts" "table" "[[J") (by decide +kernel)) (fun _ h9 => h9) rfl dX3_isClear_13 ?_
        refine lv_iload_n hx hb dX3_isClear_16 rfl (lv_at hl 0 rfl) ?_
        refine rm_aald hx hb hK hW (f := (fun i => if i < 8 then some (ad (po + 1 + 1 + i)) else none)) hP.2.1 rfl rfl i rfl (by omega) (by omega) dX3_isClear_17 (congrArg va_rf (if_pos (by omega))) ?_
        refine lv_iload_n hx hb dX3_isClear_18 rfl (lv_at hl 2 rfl) ?_
        refine rm_lald hx hb hK hW (f := (T i)) (hP.2.2.2 i (by omega)) co rfl (by omega) (by omega) dX3_isClear_19 ?_
        refine lv_lconst (v := jL 0) hx hb dX3_isClear_20 rfl ?_
        refine rm_lcmp hx hb (hR i co (by omega) hc) h064 dX3_isClear_21 ?_
        refine rm_if_ne (tgt := 38) hx hb (lcv_rng _ _) dX3_isClear_22 (by decide) (fun hc_3 => ?_) (fun hc_3 => ?_)
        · skip
          have hc_3 : ((T i) co) ≠ 0 := fun hq => hc_3 (lcv_eq.mpr hq)
          have hcc : ccl kz co T ≠ true := fun hq => by have h9 := ccl_iff.mp hq i (by omega) (by omega); omega
          refine lv_iconst (v := jI 0) hx hb dX3_isClear_38 rfl ?_
          exact W.zret hx hb hr (by decide) (fun t ht hw => ⟨⟨_, (0, ct), rfl, ⟨rfl, ⟨(if_neg hcc).symm, rfl⟩⟩, by show rm_W D ad _ _ t.heap; rw [ht]; exact hW⟩, hS.F ht⟩) hS.2.2 dX3_isClear_39
        · skip
          have hc_3 := lcv_eq.mp hc_3
          refine lv_aload_n hx hb dX3_isClear_25 rfl (lv_at hl 1 rfl) ?_
          refine rm_get (ci := 3) (v := .ref (ad (po + 1))) (C := RX3) (T := TX3) (N := 5) hx hb hts (by decide +kernel) hown hK hW hP.1 rfl 0 (by decide) (hts (.fieldLink RX3 11 "GrainYard$Parts" "table" "[[J") (by decide +kernel)) (fun _ h9 => h9) rfl dX3_isClear_26 ?_
          refine lv_iload_n hx hb dX3_isClear_29 rfl (lv_at hl 2 rfl) ?_
          refine rm_aald hx hb hK hW (f := (fun i => if i < 8 then some (ad (po + 1 + 1 + i)) else none)) hP.2.1 rfl rfl co rfl (by omega) (by omega) dX3_isClear_30 (congrArg va_rf (if_pos (by omega))) ?_
          refine lv_iload_n hx hb dX3_isClear_31 rfl (lv_at hl 0 rfl) ?_
          refine rm_lald hx hb hK hW (f := (T co)) (hP.2.2.2 co (by omega)) i rfl (by omega) (by omega) dX3_isClear_32 ?_
          refine lv_lconst (v := jL 0) hx hb dX3_isClear_33 rfl ?_
          refine rm_lcmp hx hb (hR co i hc (by omega)) h064 dX3_isClear_34 ?_
          refine rm_if_eq (tgt := 40) hx hb (lcv_rng _ _) dX3_isClear_35 (by decide) (fun hc_4 => ?_) (fun hc_4 => ?_)
          · skip
            have hc_4 := lcv_eq.mp hc_4
            refine lv_iinc (v := jI (((i : Nat) : Int) + 1)) (lv' := [(2, .int (jI (((i : Nat) : Int) + 1))), (0, .ref (ad po)), (1, .int (jI ((co : Nat) : Int)))]) hx hb dX3_isClear_40 hl (k := 0) rfl (jI_add _ _) (by decide) rfl (fun ls hl => ?_)
            refine lv_goto (tgt := 4) hx hb dX3_isClear_43 (by decide) ?_
            exact ih_LP (i + 1) (by omega) (by omega) (fun j h1 h2 => by by_cases e : j = i; (subst e; exact ⟨by omega, by omega⟩); exact hz j h1 (by omega)) (by omega)  _ _ hW hS ls (lv_sub hl [0, 1, 2] rfl)
          · skip
            have hc_4 : ((T co) i) ≠ 0 := fun hq => hc_4 (lcv_eq.mpr hq)
            have hcc : ccl kz co T ≠ true := fun hq => by have h9 := ccl_iff.mp hq i (by omega) (by omega); omega
            refine lv_iconst (v := jI 0) hx hb dX3_isClear_38 rfl ?_
            exact W.zret hx hb hr (by decide) (fun t ht hw => ⟨⟨_, (0, ct), rfl, ⟨rfl, ⟨(if_neg hcc).symm, rfl⟩⟩, by show rm_W D ad _ _ t.heap; rw [ht]; exact hW⟩, hS.F ht⟩) hS.2.2 dX3_isClear_39
  exact LP (kz + 1) (co + 1) (by omega) (by omega) (fun j h1 h2 => absurd h1 (by omega)) (by omega)  _ _ hW hS ls (lv_sub hl [0, 1, 2] rfl)
