set_option maxHeartbeats 4000000 in
set_option maxRecDepth 100000 in
theorem c_X6_thrown (l : Launch) (D : va_G) (ty : Nat → ClassId) (ad : Nat → Nat) (ct : rm_C) (sz : Nat) (th : Int) (yc hc : Nat) (yn : Nat → Nat) (yM : Nat → Nat → Nat → Int) (yu : Nat → Int) (hy : Nat → Nat) (hg hf mA : Nat → Nat → Int) (pt ro ke kt mu sl tw bw de : Nat → Int) (hMo : ModAt ty ad ct th yc hc yn yM yu hy hg hf mA pt ro ke kt mu sl tw bw de) (hth : r32 th) : Met l yX6_thrown wsX6_thrown ({ frames := 0, cells := 0, slots := 0, locals := 0 }) (rm_P D ty ad ct sz [.ref (ad 1000)]) (rm_Qi D ad ct sz (fun z ct1 => z = th ∧ ct1 = ct)) 0 0 (rm_A ad ct sz) := by
  refine Met.ofW (cc := cX6_thrown) (maxL := 1) (ret := (some .int)) (by decide) rfl ?_
  intro p e s m args below meth c s₁ B hml hv
  obtain ⟨hargs, hsz, hW, hK, hNw⟩ := hv
  have hx := B.exec
  have hb := B.bytes
  have hr := B.returns
  have hts := atoms_spec (ws := wsX6_thrown) B.pre
  have hown : s.vm.findClass RX6 = some m.cls := findClass_of_methodNamed B.named
  have hlocks := B.notSynchronized
  subst hsz
  have hW := hW.own (sz := s.heap.size)
  have hA : ∀ q : Nat, s.heap.size ≤ q → rm_A ad ct s.heap.size q := fun q h => Or.inr h
  have hS : va_S (rm_A ad ct s.heap.size) s.heap s.heap [] := va_S.rf
  have hent : entryFrame m args 1 = entryFrame m ([.ref (ad 1000)] : List Value).toArray 1 := by rw [hargs]
  have hl := lv_entry ([.ref (ad 1000)]) (n := 1) (Nat.le_of_ble_eq_true rfl)
  rw [hent, lg_entry_eq]
  generalize (lg_sl ([.ref (ad 1000)]) ++ List.replicate (1 - (lg_sl ([.ref (ad 1000)])).length) Slot.unset).toArray = ls at hl ⊢
  have hl : lv_has ls 1 [(0, .ref (ad 1000))] := hl
  refine lv_aload_n hx hb dX6_thrown_0 rfl (lv_at hl 0 rfl) ?_
  refine rm_get (ci := 6) (v := .int (jI th)) (C := RX6) (T := TX6) (N := 19) hx hb hts (by decide +kernel) hown hK hW hMo.1 rfl 0 (by decide) (hts (.fieldLink RX6 60 "GrainYardModel" "thrown" "I") (by decide +kernel)) (fun _ h9 => h9) rfl dX6_thrown_1 ?_
  exact W.iret hx hb hr (fun t ht hw => ⟨⟨_, (th, ct), rfl, ⟨rfl, ⟨rfl, rfl⟩⟩, by show rm_W D ad _ _ t.heap; rw [ht]; exact hW⟩, hS.F ht⟩) hS.2.2 dX6_thrown_4
set_option maxHeartbeats 4000000 in
set_option maxRecDepth 100000 in
theorem c_X6_right (l : Launch) (D : va_G) (ty : Nat → ClassId) (ad : Nat → Nat) (ct : rm_C) (sz : Nat) (th : Int) (yc hc : Nat) (yn : Nat → Nat) (yM : Nat → Nat → Nat → Int) (yu : Nat → Int) (hy : Nat → Nat) (hg hf mA : Nat → Nat → Int) (pt ro ke kt mu sl tw bw de : Nat → Int) (hMo : ModAt ty ad ct th yc hc yn yM yu hy hg hf mA pt ro ke kt mu sl tw bw de) (b9 k9 : Int) (hth : r32 th) (hb9 : b9 = 0 ∨ b9 = 1) (hk9 : 0 ≤ k9 ∧ k9 ≤ 2) : Met l yX6_right wsX6_right ({ frames := 0, cells := 0, slots := 0, locals := 0 }) (rm_P D ty ad ct sz [.ref (ad 1000), .int (jI b9), .int (jI k9)]) (rm_Qi D ad ct sz (fun z ct1 => ∃ t, t = (if th = 0 ∧ b9 = 0 then k9 else th) ∧ z = (if t = 0 then 1 else 0) ∧ ct1 1000 = some (.inr (6, [.int (jI t), .int (jI ((yc : Nat) : Int)), .int (jI ((hc : Nat) : Int)), .ref (ad 1001), .ref (ad 1002), .ref (ad 1003), .ref (ad 1004), .ref (ad 1005), .ref (ad 1006), .ref (ad 1007), .ref (ad 1008), .ref (ad 1009), .ref (ad 1010), .ref (ad 1011), .ref (ad 1012), .ref (ad 1013), .ref (ad 1014), .ref (ad 1015), .ref (ad 1016)]) : va_E) ∧ (∀ q, q ≠ 1000 → ct1 q = ct q))) 0 0 (rm_A ad ct sz) := by
  refine Met.ofW (cc := cX6_right) (maxL := 3) (ret := (some .boolean)) (by decide) rfl ?_
  intro p e s m args below meth c s₁ B hml hv
  obtain ⟨hargs, hsz, hW, hK, hNw⟩ := hv
  have hx := B.exec
  have hb := B.bytes
  have hr := B.returns
  have hts := atoms_spec (ws := wsX6_right) B.pre
  have hown : s.vm.findClass RX6 = some m.cls := findClass_of_methodNamed B.named
  have hlocks := B.notSynchronized
  subst hsz
  have hW := hW.own (sz := s.heap.size)
  have hA : ∀ q : Nat, s.heap.size ≤ q → rm_A ad ct s.heap.size q := fun q h => Or.inr h
  have hS : va_S (rm_A ad ct s.heap.size) s.heap s.heap [] := va_S.rf
  have hent : entryFrame m args 3 = entryFrame m ([.ref (ad 1000), .int (jI b9), .int (jI k9)] : List Value).toArray 3 := by rw [hargs]
  have hl := lv_entry ([.ref (ad 1000), .int (jI b9), .int (jI k9)]) (n := 3) (Nat.le_of_ble_eq_true rfl)
  rw [hent, lg_entry_eq]
  generalize (lg_sl ([.ref (ad 1000), .int (jI b9), .int (jI k9)]) ++ List.replicate (3 - (lg_sl ([.ref (ad 1000), .int (jI b9), .int (jI k9)])).length) Slot.unset).toArray = ls at hl ⊢
  have hl : lv_has ls 3 [(0, .ref (ad 1000)), (1, .int (jI b9)), (2, .int (jI k9))] := hl
  refine lv_aload_n hx hb dX6_right_0 rfl (lv_at hl 0 rfl) ?_
  refine rm_get (ci := 6) (v := .int (jI th)) (C := RX6) (T := TX6) (N := 19) hx hb hts (by decide +kernel) hown hK hW hMo.1 rfl 0 (by decide) (hts (.fieldLink RX6 60 "GrainYardModel" "thrown" "I") (by decide +kernel)) (fun _ h9 => h9) rfl dX6_right_1 ?_
  refine rm_if_ne (tgt := 16) hx hb ⟨by omega, by omega⟩ dX6_right_4 (by decide) (fun hc_1 => ?_) (fun hc_1 => ?_)
  · skip
    refine lv_aload_n hx hb dX6_right_16 rfl (lv_at hl 0 rfl) ?_
    refine rm_get (ci := 6) (v := .int (jI th)) (C := RX6) (T := TX6) (N := 19) hx hb hts (by decide +kernel) hown hK hW hMo.1 rfl 0 (by decide) (hts (.fieldLink RX6 60 "GrainYardModel" "thrown" "I") (by decide +kernel)) (fun _ h9 => h9) rfl dX6_right_17 ?_
    refine rm_if_ne (tgt := 27) hx hb ⟨by omega, by omega⟩ dX6_right_20 (by decide) (fun hc_2 => ?_) (fun hc_2 => ?_)
    · skip
      refine lv_iconst (v := jI 0) hx hb dX6_right_27 rfl ?_
      exact W.zret hx hb hr (by decide) (fun t ht hw => ⟨⟨_, (0, ct), rfl, ⟨rfl, ⟨th, (if_neg (by omega)).symm, (if_neg (by omega)).symm, hMo.1, fun q _ => rfl⟩⟩, by show rm_W D ad _ _ t.heap; rw [ht]; exact hW⟩, hS.F ht⟩) hS.2.2 dX6_right_28
    · skip
      refine lv_iconst (v := jI 1) hx hb dX6_right_23 rfl ?_
      refine lv_goto (tgt := 28) hx hb dX6_right_24 (by decide) ?_
      exact W.zret hx hb hr (by decide) (fun t ht hw => ⟨⟨_, (1, ct), rfl, ⟨rfl, ⟨th, (if_neg (by omega)).symm, (if_pos (by omega)).symm, hMo.1, fun q _ => rfl⟩⟩, by show rm_W D ad _ _ t.heap; rw [ht]; exact hW⟩, hS.F ht⟩) hS.2.2 dX6_right_28
  · skip
    refine lv_iload_n hx hb dX6_right_7 rfl (lv_at hl 1 rfl) ?_
    refine rm_if_ne (tgt := 16) hx hb ⟨by omega, by omega⟩ dX6_right_8 (by decide) (fun hc_3 => ?_) (fun hc_3 => ?_)
    · skip
      refine lv_aload_n hx hb dX6_right_16 rfl (lv_at hl 0 rfl) ?_
      refine rm_get (ci := 6) (v := .int (jI th)) (C := RX6) (T := TX6) (N := 19) hx hb hts (by decide +kernel) hown hK hW hMo.1 rfl 0 (by decide) (hts (.fieldLink RX6 60 "GrainYardModel" "thrown" "I") (by decide +kernel)) (fun _ h9 => h9) rfl dX6_right_17 ?_
      refine rm_if_ne (tgt := 27) hx hb ⟨by omega, by omega⟩ dX6_right_20 (by decide) (fun hc_4 => ?_) (fun hc_4 => ?_)
      · skip
        refine lv_iconst (v := jI 0) hx hb dX6_right_27 rfl ?_
        exact W.zret hx hb hr (by decide) (fun t ht hw => ⟨⟨_, (0, ct), rfl, ⟨rfl, ⟨th, (if_neg (by omega)).symm, (if_neg (by omega)).symm, hMo.1, fun q _ => rfl⟩⟩, by show rm_W D ad _ _ t.heap; rw [ht]; exact hW⟩, hS.F ht⟩) hS.2.2 dX6_right_28
      · skip
        refine lv_iconst (v := jI 1) hx hb dX6_right_23 rfl ?_
        refine lv_goto (tgt := 28) hx hb dX6_right_24 (by decide) ?_
        exact W.zret hx hb hr (by decide) (fun t ht hw => ⟨⟨_, (1, ct), rfl, ⟨rfl, ⟨th, (if_neg (by omega)).symm, (if_pos (by omega)).symm, hMo.1, fun q _ => rfl⟩⟩, by show rm_W D ad _ _ t.heap; rw [ht]; exact hW⟩, hS.F ht⟩) hS.2.2 dX6_right_28
    · skip
      refine lv_aload_n hx hb dX6_right_11 rfl (lv_at hl 0 rfl) ?_
      refine lv_iload_n hx hb dX6_right_12 rfl (lv_at hl 2 rfl) ?_
      refine rm_put (ci := 6) (v := .int (jI k9)) (fty := .int) (C := RX6) (T := TX6) (N := 19) hx hb hts (by decide +kernel) tyX6 tyX6_ok nmX6 hown hK hW hS hMo.1 rfl 0 (by decide) (hts (.fieldLink RX6 60 "GrainYardModel" "thrown" "I") (by decide +kernel)) (fun _ h9 => h9) rfl (by decide +kernel) rfl rfl (Nat.le_of_ble_eq_true rfl) dX6_right_13 (fun H locs ct_5 hs_5 ho_5 hW hS hz_5 => ?_)
      have hs_5 : ct_5 1000 = some (.inr (6, [.int (jI k9), .int (jI ((yc : Nat) : Int)), .int (jI ((hc : Nat) : Int)), .ref (ad 1001), .ref (ad 1002), .ref (ad 1003), .ref (ad 1004), .ref (ad 1005), .ref (ad 1006), .ref (ad 1007), .ref (ad 1008), .ref (ad 1009), .ref (ad 1010), .ref (ad 1011), .ref (ad 1012), .ref (ad 1013), .ref (ad 1014), .ref (ad 1015), .ref (ad 1016)]) : va_E) := hs_5
      have hof_5 : ∀ q, q ≠ 1000 → ct_5 q = ct q := fun q h0_5 => (ho_5 q h0_5).trans rfl
      refine lv_aload_n hx hb dX6_right_16 rfl (lv_at hl 0 rfl) ?_
      refine rm_get (ci := 6) (v := .int (jI k9)) (C := RX6) (T := TX6) (N := 19) hx hb hts (by decide +kernel) hown hK hW hs_5 rfl 0 (by decide) (hts (.fieldLink RX6 60 "GrainYardModel" "thrown" "I") (by decide +kernel)) (fun _ h9 => h9) rfl dX6_right_17 ?_
      refine rm_if_ne (tgt := 27) hx hb ⟨by omega, by omega⟩ dX6_right_20 (by decide) (fun hc_6 => ?_) (fun hc_6 => ?_)
      · skip
        refine lv_iconst (v := jI 0) hx hb dX6_right_27 rfl ?_
        exact W.zret hx hb hr (by decide) (fun t ht hw => ⟨⟨_, (0, ct_5), rfl, ⟨rfl, ⟨k9, (if_pos ⟨by omega, by omega⟩).symm, (if_neg (by omega)).symm, hs_5, fun q h0 => hof_5 q h0⟩⟩, by show rm_W D ad _ _ t.heap; rw [ht]; exact hW⟩, hS.F ht⟩) hS.2.2 dX6_right_28
      · skip
        refine lv_iconst (v := jI 1) hx hb dX6_right_23 rfl ?_
        refine lv_goto (tgt := 28) hx hb dX6_right_24 (by decide) ?_
        exact W.zret hx hb hr (by decide) (fun t ht hw => ⟨⟨_, (1, ct_5), rfl, ⟨rfl, ⟨k9, (if_pos ⟨by omega, by omega⟩).symm, (if_pos (by omega)).symm, hs_5, fun q h0 => hof_5 q h0⟩⟩, by show rm_W D ad _ _ t.heap; rw [ht]; exact hW⟩, hS.F ht⟩) hS.2.2 dX6_right_28
set_option maxHeartbeats 4000000 in
set_option maxRecDepth 100000 in
theorem c_X6_isYard (l : Launch) (D : va_G) (ty : Nat → ClassId) (ad : Nat → Nat) (ct : rm_C) (sz : Nat) (th : Int) (yc hc : Nat) (yn : Nat → Nat) (yM : Nat → Nat → Nat → Int) (yu : Nat → Int) (hy : Nat → Nat) (hg hf mA : Nat → Nat → Int) (pt ro ke kt mu sl tw bw de : Nat → Int) (hMo : ModAt ty ad ct th yc hc yn yM yu hy hg hf mA pt ro ke kt mu sl tw bw de) (z9 : Int) (hz9 : r32 z9) (hb20 : yc ≤ 6 ∧ hc ≤ 20) : Met l yX6_isYard wsX6_isYard ({ frames := 1, cells := 0, slots := 0, locals := 22 }) (rm_P D ty ad ct sz [.ref (ad 1000), .int (jI z9)]) (rm_Qi D ad ct sz (fun z ct1 => (∀ q, q ≠ 1000 → ct1 q = ct q) ∧ ((z9 < 0 ∨ ((yc : Nat) : Int) ≤ z9) ∧ z = 0 ∧ ct1 1000 = some (.inr (6, [.int (jI 1), .int (jI ((yc : Nat) : Int)), .int (jI ((hc : Nat) : Int)), .ref (ad 1001), .ref (ad 1002), .ref (ad 1003), .ref (ad 1004), .ref (ad 1005), .ref (ad 1006), .ref (ad 1007), .ref (ad 1008), .ref (ad 1009), .ref (ad 1010), .ref (ad 1011), .ref (ad 1012), .ref (ad 1013), .ref (ad 1014), .ref (ad 1015), .ref (ad 1016)]) : va_E) ∨ 0 ≤ z9 ∧ z9 < ((yc : Nat) : Int) ∧ z = 1 ∧ ct1 1000 = some (.inr (6, [.int (jI 0), .int (jI ((yc : Nat) : Int)), .int (jI ((hc : Nat) : Int)), .ref (ad 1001), .ref (ad 1002), .ref (ad 1003), .ref (ad 1004), .ref (ad 1005), .ref (ad 1006), .ref (ad 1007), .ref (ad 1008), .ref (ad 1009), .ref (ad 1010), .ref (ad 1011), .ref (ad 1012), .ref (ad 1013), .ref (ad 1014), .ref (ad 1015), .ref (ad 1016)]) : va_E)))) 0 0 (rm_A ad ct sz) := by
  refine Met.ofW (cc := cX6_isYard) (maxL := 2) (ret := (some .boolean)) (by decide) rfl ?_
  intro p e s m args below meth c s₁ B hml hv
  obtain ⟨hargs, hsz, hW, hK, hNw⟩ := hv
  have hx := B.exec
  have hb := B.bytes
  have hr := B.returns
  have hts := atoms_spec (ws := wsX6_isYard) B.pre
  have hown : s.vm.findClass RX6 = some m.cls := findClass_of_methodNamed B.named
  have hlocks := B.notSynchronized
  subst hsz
  have hW := hW.own (sz := s.heap.size)
  have hA : ∀ q : Nat, s.heap.size ≤ q → rm_A ad ct s.heap.size q := fun q h => Or.inr h
  have hS : va_S (rm_A ad ct s.heap.size) s.heap s.heap [] := va_S.rf
  have hent : entryFrame m args 2 = entryFrame m ([.ref (ad 1000), .int (jI z9)] : List Value).toArray 2 := by rw [hargs]
  have hl := lv_entry ([.ref (ad 1000), .int (jI z9)]) (n := 2) (Nat.le_of_ble_eq_true rfl)
  rw [hent, lg_entry_eq]
  generalize (lg_sl ([.ref (ad 1000), .int (jI z9)]) ++ List.replicate (2 - (lg_sl ([.ref (ad 1000), .int (jI z9)])).length) Slot.unset).toArray = ls at hl ⊢
  have hl : lv_has ls 2 [(0, .ref (ad 1000)), (1, .int (jI z9))] := hl
  refine lv_aload_n hx hb dX6_isYard_0 rfl (lv_at hl 0 rfl) ?_
  refine lv_iconst (v := jI 0) hx hb dX6_isYard_1 rfl ?_
  refine rm_put (ci := 6) (v := .int (jI 0)) (fty := .int) (C := RX6) (T := TX6) (N := 19) hx hb hts (by decide +kernel) tyX6 tyX6_ok nmX6 hown hK hW hS hMo.1 rfl 0 (by decide) (hts (.fieldLink RX6 60 "GrainYardModel" "thrown" "I") (by decide +kernel)) (fun _ h9 => h9) rfl (by decide +kernel) rfl rfl (Nat.le_of_ble_eq_true rfl) dX6_isYard_2 (fun H locs ct_1 hs_1 ho_1 hW hS hz_1 => ?_)
  have hs_1 : ct_1 1000 = some (.inr (6, [.int (jI 0), .int (jI ((yc : Nat) : Int)), .int (jI ((hc : Nat) : Int)), .ref (ad 1001), .ref (ad 1002), .ref (ad 1003), .ref (ad 1004), .ref (ad 1005), .ref (ad 1006), .ref (ad 1007), .ref (ad 1008), .ref (ad 1009), .ref (ad 1010), .ref (ad 1011), .ref (ad 1012), .ref (ad 1013), .ref (ad 1014), .ref (ad 1015), .ref (ad 1016)]) : va_E) := hs_1
  have hof_1 : ∀ q, q ≠ 1000 → ct_1 q = ct q := fun q h0_1 => (ho_1 q h0_1).trans rfl
  refine lv_aload_n hx hb dX6_isYard_5 rfl (lv_at hl 0 rfl) ?_
  refine lv_iload_n hx hb dX6_isYard_6 rfl (lv_at hl 1 rfl) ?_
  refine rm_if_lt (tgt := 22) hx hb ⟨by omega, by omega⟩ dX6_isYard_7 (by decide) (fun hc_2 => ?_) (fun hc_2 => ?_)
  · skip
    refine lv_iconst (v := jI 0) hx hb dX6_isYard_22 rfl ?_
    refine lv_iconst (v := jI 1) hx hb dX6_isYard_23 rfl ?_
    refine rm_calli (va_runV (As := [.int (jI 0), .int (jI 1)]) (rest := []) ⟨hx, hb, hml, hown, hts⟩ (c_X6_right l D ty ad ct_1 H.size 0 yc hc yn yM yu hy hg hf mA pt ro ke kt mu sl tw bw de ⟨hs_1, ((hof_1 1001 (by omega)).trans hMo.2.1), ((hof_1 1002 (by omega)).trans hMo.2.2.1), ((hof_1 1003 (by omega)).trans hMo.2.2.2.1), ((hof_1 1004 (by omega)).trans hMo.2.2.2.2.1), ((hof_1 1005 (by omega)).trans hMo.2.2.2.2.2.1), ((hof_1 1006 (by omega)).trans hMo.2.2.2.2.2.2.1), ((hof_1 1007 (by omega)).trans hMo.2.2.2.2.2.2.2.1), ((hof_1 1008 (by omega)).trans hMo.2.2.2.2.2.2.2.2.1), ((hof_1 1009 (by omega)).trans hMo.2.2.2.2.2.2.2.2.2.1), ((hof_1 1010 (by omega)).trans hMo.2.2.2.2.2.2.2.2.2.2.1), ((hof_1 1011 (by omega)).trans hMo.2.2.2.2.2.2.2.2.2.2.2.1), ((hof_1 1012 (by omega)).trans hMo.2.2.2.2.2.2.2.2.2.2.2.2.1), ((hof_1 1013 (by omega)).trans hMo.2.2.2.2.2.2.2.2.2.2.2.2.2.1), ((hof_1 1014 (by omega)).trans hMo.2.2.2.2.2.2.2.2.2.2.2.2.2.2.1), ((hof_1 1015 (by omega)).trans hMo.2.2.2.2.2.2.2.2.2.2.2.2.2.2.2.1), ((hof_1 1016 (by omega)).trans hMo.2.2.2.2.2.2.2.2.2.2.2.2.2.2.2.2)⟩ 0 1 r32_0 (by omega) (by omega)) (cwV 2 hts gX6_isYard_X6_right rfl rfl rfl (by decide +kernel) ⟨Nat.le_of_ble_eq_true rfl, Nat.le_of_ble_eq_true rfl⟩) (rm_preV hK hNw hW hs_1 rfl) rfl rfl hl.1 rfl (lv_room (Nat.le_of_ble_eq_true rfl)) dX6_isYard_24 ⟨Nat.zero_le _, Nat.zero_le _⟩) hW hS hA (fun z_3 ct_3 H locs hq_3 hW hS => ?_)
    obtain ⟨t9, ht9, hz, hq1, hq2⟩ := hq_3
    rw [if_pos (by decide)] at ht9
    subst ht9
    rw [if_neg (by omega)] at hz
    subst hz
    have ho_3 : ∀ q, q ≠ 1000 → ct_3 q = ct_1 q := hq2
    have hof_3 : ∀ q, q ≠ 1000 → ct_3 q = ct q := fun q h0_3 => (ho_3 q h0_3).trans (hof_1 q h0_3)
    have hm0_3 : ct_3 1000 = some (.inr (6, [.int (jI 1), .int (jI ((yc : Nat) : Int)), .int (jI ((hc : Nat) : Int)), .ref (ad 1001), .ref (ad 1002), .ref (ad 1003), .ref (ad 1004), .ref (ad 1005), .ref (ad 1006), .ref (ad 1007), .ref (ad 1008), .ref (ad 1009), .ref (ad 1010), .ref (ad 1011), .ref (ad 1012), .ref (ad 1013), .ref (ad 1014), .ref (ad 1015), .ref (ad 1016)]) : va_E) := hq1
    exact W.zret hx hb hr (by decide) (fun t ht hw => ⟨⟨_, (0, ct_3), rfl, ⟨rfl, ⟨fun q h0 => hof_3 q h0, Or.inl ⟨Or.inl (by omega), rfl, hq1⟩⟩⟩, by show rm_W D ad _ _ t.heap; rw [ht]; exact hW⟩, hS.F ht⟩) hS.2.2 dX6_isYard_27
  · skip
    refine lv_iload_n hx hb dX6_isYard_10 rfl (lv_at hl 1 rfl) ?_
    refine lv_aload_n hx hb dX6_isYard_11 rfl (lv_at hl 0 rfl) ?_
    refine rm_get (ci := 6) (v := .int (jI ((yc : Nat) : Int))) (C := RX6) (T := TX6) (N := 19) hx hb hts (by decide +kernel) hown hK hW hs_1 rfl 1 (by decide) (hts (.fieldLink RX6 64 "GrainYardModel" "yards" "I") (by decide +kernel)) (fun _ h9 => h9) rfl dX6_isYard_12 ?_
    refine rm_icmp_ge (tgt := 22) hx hb ⟨by omega, by omega⟩ ⟨by omega, by omega⟩ dX6_isYard_15 (by decide) (fun hc_4 => ?_) (fun hc_4 => ?_)
    · skip
      refine lv_iconst (v := jI 0) hx hb dX6_isYard_22 rfl ?_
      refine lv_iconst (v := jI 1) hx hb dX6_isYard_23 rfl ?_
      refine rm_calli (va_runV (As := [.int (jI 0), .int (jI 1)]) (rest := []) ⟨hx, hb, hml, hown, hts⟩ (c_X6_right l D ty ad ct_1 H.size 0 yc hc yn yM yu hy hg hf mA pt ro ke kt mu sl tw bw de ⟨hs_1, ((hof_1 1001 (by omega)).trans hMo.2.1), ((hof_1 1002 (by omega)).trans hMo.2.2.1), ((hof_1 1003 (by omega)).trans hMo.2.2.2.1), ((hof_1 1004 (by omega)).trans hMo.2.2.2.2.1), ((hof_1 1005 (by omega)).trans hMo.2.2.2.2.2.1), ((hof_1 1006 (by omega)).trans hMo.2.2.2.2.2.2.1), ((hof_1 1007 (by omega)).trans hMo.2.2.2.2.2.2.2.1), ((hof_1 1008 (by omega)).trans hMo.2.2.2.2.2.2.2.2.1), ((hof_1 1009 (by omega)).trans hMo.2.2.2.2.2.2.2.2.2.1), ((hof_1 1010 (by omega)).trans hMo.2.2.2.2.2.2.2.2.2.2.1), ((hof_1 1011 (by omega)).trans hMo.2.2.2.2.2.2.2.2.2.2.2.1), ((hof_1 1012 (by omega)).trans hMo.2.2.2.2.2.2.2.2.2.2.2.2.1), ((hof_1 1013 (by omega)).trans hMo.2.2.2.2.2.2.2.2.2.2.2.2.2.1), ((hof_1 1014 (by omega)).trans hMo.2.2.2.2.2.2.2.2.2.2.2.2.2.2.1), ((hof_1 1015 (by omega)).trans hMo.2.2.2.2.2.2.2.2.2.2.2.2.2.2.2.1), ((hof_1 1016 (by omega)).trans hMo.2.2.2.2.2.2.2.2.2.2.2.2.2.2.2.2)⟩ 0 1 r32_0 (by omega) (by omega)) (cwV 2 hts gX6_isYard_X6_right rfl rfl rfl (by decide +kernel) ⟨Nat.le_of_ble_eq_true rfl, Nat.le_of_ble_eq_true rfl⟩) (rm_preV hK hNw hW hs_1 rfl) rfl rfl hl.1 rfl (lv_room (Nat.le_of_ble_eq_true rfl)) dX6_isYard_24 ⟨Nat.zero_le _, Nat.zero_le _⟩) hW hS hA (fun z_5 ct_5 H locs hq_5 hW hS => ?_)
      obtain ⟨t9, ht9, hz, hq1, hq2⟩ := hq_5
      rw [if_pos (by decide)] at ht9
      subst ht9
      rw [if_neg (by omega)] at hz
      subst hz
      have ho_5 : ∀ q, q ≠ 1000 → ct_5 q = ct_1 q := hq2
      have hof_5 : ∀ q, q ≠ 1000 → ct_5 q = ct q := fun q h0_5 => (ho_5 q h0_5).trans (hof_1 q h0_5)
      have hm0_5 : ct_5 1000 = some (.inr (6, [.int (jI 1), .int (jI ((yc : Nat) : Int)), .int (jI ((hc : Nat) : Int)), .ref (ad 1001), .ref (ad 1002), .ref (ad 1003), .ref (ad 1004), .ref (ad 1005), .ref (ad 1006), .ref (ad 1007), .ref (ad 1008), .ref (ad 1009), .ref (ad 1010), .ref (ad 1011), .ref (ad 1012), .ref (ad 1013), .ref (ad 1014), .ref (ad 1015), .ref (ad 1016)]) : va_E) := hq1
      exact W.zret hx hb hr (by decide) (fun t ht hw => ⟨⟨_, (0, ct_5), rfl, ⟨rfl, ⟨fun q h0 => hof_5 q h0, Or.inl ⟨Or.inr (by omega), rfl, hq1⟩⟩⟩, by show rm_W D ad _ _ t.heap; rw [ht]; exact hW⟩, hS.F ht⟩) hS.2.2 dX6_isYard_27
    · skip
      refine lv_iconst (v := jI 1) hx hb dX6_isYard_18 rfl ?_
      refine lv_goto (tgt := 23) hx hb dX6_isYard_19 (by decide) ?_
      refine lv_iconst (v := jI 1) hx hb dX6_isYard_23 rfl ?_
      refine rm_calli (va_runV (As := [.int (jI 1), .int (jI 1)]) (rest := []) ⟨hx, hb, hml, hown, hts⟩ (c_X6_right l D ty ad ct_1 H.size 0 yc hc yn yM yu hy hg hf mA pt ro ke kt mu sl tw bw de ⟨hs_1, ((hof_1 1001 (by omega)).trans hMo.2.1), ((hof_1 1002 (by omega)).trans hMo.2.2.1), ((hof_1 1003 (by omega)).trans hMo.2.2.2.1), ((hof_1 1004 (by omega)).trans hMo.2.2.2.2.1), ((hof_1 1005 (by omega)).trans hMo.2.2.2.2.2.1), ((hof_1 1006 (by omega)).trans hMo.2.2.2.2.2.2.1), ((hof_1 1007 (by omega)).trans hMo.2.2.2.2.2.2.2.1), ((hof_1 1008 (by omega)).trans hMo.2.2.2.2.2.2.2.2.1), ((hof_1 1009 (by omega)).trans hMo.2.2.2.2.2.2.2.2.2.1), ((hof_1 1010 (by omega)).trans hMo.2.2.2.2.2.2.2.2.2.2.1), ((hof_1 1011 (by omega)).trans hMo.2.2.2.2.2.2.2.2.2.2.2.1), ((hof_1 1012 (by omega)).trans hMo.2.2.2.2.2.2.2.2.2.2.2.2.1), ((hof_1 1013 (by omega)).trans hMo.2.2.2.2.2.2.2.2.2.2.2.2.2.1), ((hof_1 1014 (by omega)).trans hMo.2.2.2.2.2.2.2.2.2.2.2.2.2.2.1), ((hof_1 1015 (by omega)).trans hMo.2.2.2.2.2.2.2.2.2.2.2.2.2.2.2.1), ((hof_1 1016 (by omega)).trans hMo.2.2.2.2.2.2.2.2.2.2.2.2.2.2.2.2)⟩ 1 1 r32_0 (by omega) (by omega)) (cwV 2 hts gX6_isYard_X6_right rfl rfl rfl (by decide +kernel) ⟨Nat.le_of_ble_eq_true rfl, Nat.le_of_ble_eq_true rfl⟩) (rm_preV hK hNw hW hs_1 rfl) rfl rfl hl.1 rfl (lv_room (Nat.le_of_ble_eq_true rfl)) dX6_isYard_24 ⟨Nat.zero_le _, Nat.zero_le _⟩) hW hS hA (fun z_6 ct_6 H locs hq_6 hW hS => ?_)
      obtain ⟨t9, ht9, hz, hq1, hq2⟩ := hq_6
      rw [if_neg (by omega)] at ht9
      subst ht9
      rw [if_pos rfl] at hz
      subst hz
      have ho_6 : ∀ q, q ≠ 1000 → ct_6 q = ct_1 q := hq2
      have hof_6 : ∀ q, q ≠ 1000 → ct_6 q = ct q := fun q h0_6 => (ho_6 q h0_6).trans (hof_1 q h0_6)
      have hm0_6 : ct_6 1000 = some (.inr (6, [.int (jI 0), .int (jI ((yc : Nat) : Int)), .int (jI ((hc : Nat) : Int)), .ref (ad 1001), .ref (ad 1002), .ref (ad 1003), .ref (ad 1004), .ref (ad 1005), .ref (ad 1006), .ref (ad 1007), .ref (ad 1008), .ref (ad 1009), .ref (ad 1010), .ref (ad 1011), .ref (ad 1012), .ref (ad 1013), .ref (ad 1014), .ref (ad 1015), .ref (ad 1016)]) : va_E) := hq1
      exact W.zret hx hb hr (by decide) (fun t ht hw => ⟨⟨_, (1, ct_6), rfl, ⟨rfl, ⟨fun q h0 => hof_6 q h0, Or.inr ⟨by omega, by omega, rfl, hq1⟩⟩⟩, by show rm_W D ad _ _ t.heap; rw [ht]; exact hW⟩, hS.F ht⟩) hS.2.2 dX6_isYard_27
set_option maxHeartbeats 4000000 in
set_option maxRecDepth 100000 in
theorem c_X6_isHeap (l : Launch) (D : va_G) (ty : Nat → ClassId) (ad : Nat → Nat) (ct : rm_C) (sz : Nat) (th : Int) (yc hc : Nat) (yn : Nat → Nat) (yM : Nat → Nat → Nat → Int) (yu : Nat → Int) (hy : Nat → Nat) (hg hf mA : Nat → Nat → Int) (pt ro ke kt mu sl tw bw de : Nat → Int) (hMo : ModAt ty ad ct th yc hc yn yM yu hy hg hf mA pt ro ke kt mu sl tw bw de) (z9 : Int) (hz9 : r32 z9) (hb20 : yc ≤ 6 ∧ hc ≤ 20) : Met l yX6_isHeap wsX6_isHeap ({ frames := 1, cells := 0, slots := 0, locals := 22 }) (rm_P D ty ad ct sz [.ref (ad 1000), .int (jI z9)]) (rm_Qi D ad ct sz (fun z ct1 => (∀ q, q ≠ 1000 → ct1 q = ct q) ∧ ((z9 < 0 ∨ ((hc : Nat) : Int) ≤ z9) ∧ z = 0 ∧ ct1 1000 = some (.inr (6, [.int (jI 1), .int (jI ((yc : Nat) : Int)), .int (jI ((hc : Nat) : Int)), .ref (ad 1001), .ref (ad 1002), .ref (ad 1003), .ref (ad 1004), .ref (ad 1005), .ref (ad 1006), .ref (ad 1007), .ref (ad 1008), .ref (ad 1009), .ref (ad 1010), .ref (ad 1011), .ref (ad 1012), .ref (ad 1013), .ref (ad 1014), .ref (ad 1015), .ref (ad 1016)]) : va_E) ∨ 0 ≤ z9 ∧ z9 < ((hc : Nat) : Int) ∧ z = 1 ∧ ct1 1000 = some (.inr (6, [.int (jI 0), .int (jI ((yc : Nat) : Int)), .int (jI ((hc : Nat) : Int)), .ref (ad 1001), .ref (ad 1002), .ref (ad 1003), .ref (ad 1004), .ref (ad 1005), .ref (ad 1006), .ref (ad 1007), .ref (ad 1008), .ref (ad 1009), .ref (ad 1010), .ref (ad 1011), .ref (ad 1012), .ref (ad 1013), .ref (ad 1014), .ref (ad 1015), .ref (ad 1016)]) : va_E)))) 0 0 (rm_A ad ct sz) := by
  refine Met.ofW (cc := cX6_isHeap) (maxL := 2) (ret := (some .boolean)) (by decide) rfl ?_
  intro p e s m args below meth c s₁ B hml hv
  obtain ⟨hargs, hsz, hW, hK, hNw⟩ := hv
  have hx := B.exec
  have hb := B.bytes
  have hr := B.returns
  have hts := atoms_spec (ws := wsX6_isHeap) B.pre
  have hown : s.vm.findClass RX6 = some m.cls := findClass_of_methodNamed B.named
  have hlocks := B.notSynchronized
  subst hsz
  have hW := hW.own (sz := s.heap.size)
  have hA : ∀ q : Nat, s.heap.size ≤ q → rm_A ad ct s.heap.size q := fun q h => Or.inr h
  have hS : va_S (rm_A ad ct s.heap.size) s.heap s.heap [] := va_S.rf
  have hent : entryFrame m args 2 = entryFrame m ([.ref (ad 1000), .int (jI z9)] : List Value).toArray 2 := by rw [hargs]
  have hl := lv_entry ([.ref (ad 1000), .int (jI z9)]) (n := 2) (Nat.le_of_ble_eq_true rfl)
  rw [hent, lg_entry_eq]
  generalize (lg_sl ([.ref (ad 1000), .int (jI z9)]) ++ List.replicate (2 - (lg_sl ([.ref (ad 1000), .int (jI z9)])).length) Slot.unset).toArray = ls at hl ⊢
  have hl : lv_has ls 2 [(0, .ref (ad 1000)), (1, .int (jI z9))] := hl
  refine lv_aload_n hx hb dX6_isHeap_0 rfl (lv_at hl 0 rfl) ?_
  refine lv_iconst (v := jI 0) hx hb dX6_isHeap_1 rfl ?_
  refine rm_put (ci := 6) (v := .int (jI 0)) (fty := .int) (C := RX6) (T := TX6) (N := 19) hx hb hts (by decide +kernel) tyX6 tyX6_ok nmX6 hown hK hW hS hMo.1 rfl 0 (by decide) (hts (.fieldLink RX6 60 "GrainYardModel" "thrown" "I") (by decide +kernel)) (fun _ h9 => h9) rfl (by decide +kernel) rfl rfl (Nat.le_of_ble_eq_true rfl) dX6_isHeap_2 (fun H locs ct_1 hs_1 ho_1 hW hS hz_1 => ?_)
  have hs_1 : ct_1 1000 = some (.inr (6, [.int (jI 0), .int (jI ((yc : Nat) : Int)), .int (jI ((hc : Nat) : Int)), .ref (ad 1001), .ref (ad 1002), .ref (ad 1003), .ref (ad 1004), .ref (ad 1005), .ref (ad 1006), .ref (ad 1007), .ref (ad 1008), .ref (ad 1009), .ref (ad 1010), .ref (ad 1011), .ref (ad 1012), .ref (ad 1013), .ref (ad 1014), .ref (ad 1015), .ref (ad 1016)]) : va_E) := hs_1
  have hof_1 : ∀ q, q ≠ 1000 → ct_1 q = ct q := fun q h0_1 => (ho_1 q h0_1).trans rfl
  refine lv_aload_n hx hb dX6_isHeap_5 rfl (lv_at hl 0 rfl) ?_
  refine lv_iload_n hx hb dX6_isHeap_6 rfl (lv_at hl 1 rfl) ?_
  refine rm_if_lt (tgt := 22) hx hb ⟨by omega, by omega⟩ dX6_isHeap_7 (by decide) (fun hc_2 => ?_) (fun hc_2 => ?_)
  · skip
    refine lv_iconst (v := jI 0) hx hb dX6_isHeap_22 rfl ?_
    refine lv_iconst (v := jI 1) hx hb dX6_isHeap_23 rfl ?_
    refine rm_calli (va_runV (As := [.int (jI 0), .int (jI 1)]) (rest := []) ⟨hx, hb, hml, hown, hts⟩ (c_X6_right l D ty ad ct_1 H.size 0 yc hc yn yM yu hy hg hf mA pt ro ke kt mu sl tw bw de ⟨hs_1, ((hof_1 1001 (by omega)).trans hMo.2.1), ((hof_1 1002 (by omega)).trans hMo.2.2.1), ((hof_1 1003 (by omega)).trans hMo.2.2.2.1), ((hof_1 1004 (by omega)).trans hMo.2.2.2.2.1), ((hof_1 1005 (by omega)).trans hMo.2.2.2.2.2.1), ((hof_1 1006 (by omega)).trans hMo.2.2.2.2.2.2.1), ((hof_1 1007 (by omega)).trans hMo.2.2.2.2.2.2.2.1), ((hof_1 1008 (by omega)).trans hMo.2.2.2.2.2.2.2.2.1), ((hof_1 1009 (by omega)).trans hMo.2.2.2.2.2.2.2.2.2.1), ((hof_1 1010 (by omega)).trans hMo.2.2.2.2.2.2.2.2.2.2.1), ((hof_1 1011 (by omega)).trans hMo.2.2.2.2.2.2.2.2.2.2.2.1), ((hof_1 1012 (by omega)).trans hMo.2.2.2.2.2.2.2.2.2.2.2.2.1), ((hof_1 1013 (by omega)).trans hMo.2.2.2.2.2.2.2.2.2.2.2.2.2.1), ((hof_1 1014 (by omega)).trans hMo.2.2.2.2.2.2.2.2.2.2.2.2.2.2.1), ((hof_1 1015 (by omega)).trans hMo.2.2.2.2.2.2.2.2.2.2.2.2.2.2.2.1), ((hof_1 1016 (by omega)).trans hMo.2.2.2.2.2.2.2.2.2.2.2.2.2.2.2.2)⟩ 0 1 r32_0 (by omega) (by omega)) (cwV 2 hts gX6_isHeap_X6_right rfl rfl rfl (by decide +kernel) ⟨Nat.le_of_ble_eq_true rfl, Nat.le_of_ble_eq_true rfl⟩) (rm_preV hK hNw hW hs_1 rfl) rfl rfl hl.1 rfl (lv_room (Nat.le_of_ble_eq_true rfl)) dX6_isHeap_24 ⟨Nat.zero_le _, Nat.zero_le _⟩) hW hS hA (fun z_3 ct_3 H locs hq_3 hW hS => ?_)
    obtain ⟨t9, ht9, hz, hq1, hq2⟩ := hq_3
    rw [if_pos (by decide)] at ht9
    subst ht9
    rw [if_neg (by omega)] at hz
    subst hz
    have ho_3 : ∀ q, q ≠ 1000 → ct_3 q = ct_1 q := hq2
    have hof_3 : ∀ q, q ≠ 1000 → ct_3 q = ct q := fun q h0_3 => (ho_3 q h0_3).trans (hof_1 q h0_3)
    have hm0_3 : ct_3 1000 = some (.inr (6, [.int (jI 1), .int (jI ((yc : Nat) : Int)), .int (jI ((hc : Nat) : Int)), .ref (ad 1001), .ref (ad 1002), .ref (ad 1003), .ref (ad 1004), .ref (ad 1005), .ref (ad 1006), .ref (ad 1007), .ref (ad 1008), .ref (ad 1009), .ref (ad 1010), .ref (ad 1011), .ref (ad 1012), .ref (ad 1013), .ref (ad 1014), .ref (ad 1015), .ref (ad 1016)]) : va_E) := hq1
    exact W.zret hx hb hr (by decide) (fun t ht hw => ⟨⟨_, (0, ct_3), rfl, ⟨rfl, ⟨fun q h0 => hof_3 q h0, Or.inl ⟨Or.inl (by omega), rfl, hq1⟩⟩⟩, by show rm_W D ad _ _ t.heap; rw [ht]; exact hW⟩, hS.F ht⟩) hS.2.2 dX6_isHeap_27
  · skip
    refine lv_iload_n hx hb dX6_isHeap_10 rfl (lv_at hl 1 rfl) ?_
    refine lv_aload_n hx hb dX6_isHeap_11 rfl (lv_at hl 0 rfl) ?_
    refine rm_get (ci := 6) (v := .int (jI ((hc : Nat) : Int))) (C := RX6) (T := TX6) (N := 19) hx hb hts (by decide +kernel) hown hK hW hs_1 rfl 2 (by decide) (hts (.fieldLink RX6 126 "GrainYardModel" "heaps" "I") (by decide +kernel)) (fun _ h9 => h9) rfl dX6_isHeap_12 ?_
    refine rm_icmp_ge (tgt := 22) hx hb ⟨by omega, by omega⟩ ⟨by omega, by omega⟩ dX6_isHeap_15 (by decide) (fun hc_4 => ?_) (fun hc_4 => ?_)
    · skip
      refine lv_iconst (v := jI 0) hx hb dX6_isHeap_22 rfl ?_
      refine lv_iconst (v := jI 1) hx hb dX6_isHeap_23 rfl ?_
      refine rm_calli (va_runV (As := [.int (jI 0), .int (jI 1)]) (rest := []) ⟨hx, hb, hml, hown, hts⟩ (c_X6_right l D ty ad ct_1 H.size 0 yc hc yn yM yu hy hg hf mA pt ro ke kt mu sl tw bw de ⟨hs_1, ((hof_1 1001 (by omega)).trans hMo.2.1), ((hof_1 1002 (by omega)).trans hMo.2.2.1), ((hof_1 1003 (by omega)).trans hMo.2.2.2.1), ((hof_1 1004 (by omega)).trans hMo.2.2.2.2.1), ((hof_1 1005 (by omega)).trans hMo.2.2.2.2.2.1), ((hof_1 1006 (by omega)).trans hMo.2.2.2.2.2.2.1), ((hof_1 1007 (by omega)).trans hMo.2.2.2.2.2.2.2.1), ((hof_1 1008 (by omega)).trans hMo.2.2.2.2.2.2.2.2.1), ((hof_1 1009 (by omega)).trans hMo.2.2.2.2.2.2.2.2.2.1), ((hof_1 1010 (by omega)).trans hMo.2.2.2.2.2.2.2.2.2.2.1), ((hof_1 1011 (by omega)).trans hMo.2.2.2.2.2.2.2.2.2.2.2.1), ((hof_1 1012 (by omega)).trans hMo.2.2.2.2.2.2.2.2.2.2.2.2.1), ((hof_1 1013 (by omega)).trans hMo.2.2.2.2.2.2.2.2.2.2.2.2.2.1), ((hof_1 1014 (by omega)).trans hMo.2.2.2.2.2.2.2.2.2.2.2.2.2.2.1), ((hof_1 1015 (by omega)).trans hMo.2.2.2.2.2.2.2.2.2.2.2.2.2.2.2.1), ((hof_1 1016 (by omega)).trans hMo.2.2.2.2.2.2.2.2.2.2.2.2.2.2.2.2)⟩ 0 1 r32_0 (by omega) (by omega)) (cwV 2 hts gX6_isHeap_X6_right rfl rfl rfl (by decide +kernel) ⟨Nat.le_of_ble_eq_true rfl, Nat.le_of_ble_eq_true rfl⟩) (rm_preV hK hNw hW hs_1 rfl) rfl rfl hl.1 rfl (lv_room (Nat.le_of_ble_eq_true rfl)) dX6_isHeap_24 ⟨Nat.zero_le _, Nat.zero_le _⟩) hW hS hA (fun z_5 ct_5 H locs hq_5 hW hS => ?_)
      obtain ⟨t9, ht9, hz, hq1, hq2⟩ := hq_5
      rw [if_pos (by decide)] at ht9
      subst ht9
      rw [if_neg (by omega)] at hz
      subst hz
      have ho_5 : ∀ q, q ≠ 1000 → ct_5 q = ct_1 q := hq2
      have hof_5 : ∀ q, q ≠ 1000 → ct_5 q = ct q := fun q h0_5 => (ho_5 q h0_5).trans (hof_1 q h0_5)
      have hm0_5 : ct_5 1000 = some (.inr (6, [.int (jI 1), .int (jI ((yc : Nat) : Int)), .int (jI ((hc : Nat) : Int)), .ref (ad 1001), .ref (ad 1002), .ref (ad 1003), .ref (ad 1004), .ref (ad 1005), .ref (ad 1006), .ref (ad 1007), .ref (ad 1008), .ref (ad 1009), .ref (ad 1010), .ref (ad 1011), .ref (ad 1012), .ref (ad 1013), .ref (ad 1014), .ref (ad 1015), .ref (ad 1016)]) : va_E) := hq1
      exact W.zret hx hb hr (by decide) (fun t ht hw => ⟨⟨_, (0, ct_5), rfl, ⟨rfl, ⟨fun q h0 => hof_5 q h0, Or.inl ⟨Or.inr (by omega), rfl, hq1⟩⟩⟩, by show rm_W D ad _ _ t.heap; rw [ht]; exact hW⟩, hS.F ht⟩) hS.2.2 dX6_isHeap_27
    · skip
      refine lv_iconst (v := jI 1) hx hb dX6_isHeap_18 rfl ?_
      refine lv_goto (tgt := 23) hx hb dX6_isHeap_19 (by decide) ?_
      refine lv_iconst (v := jI 1) hx hb dX6_isHeap_23 rfl ?_
      refine rm_calli (va_runV (As := [.int (jI 1), .int (jI 1)]) (rest := []) ⟨hx, hb, hml, hown, hts⟩ (c_X6_right l D ty ad ct_1 H.size 0 yc hc yn yM yu hy hg hf mA pt ro ke kt mu sl tw bw de ⟨hs_1, ((hof_1 1001 (by omega)).trans hMo.2.1), ((hof_1 1002 (by omega)).trans hMo.2.2.1), ((hof_1 1003 (by omega)).trans hMo.2.2.2.1), ((hof_1 1004 (by omega)).trans hMo.2.2.2.2.1), ((hof_1 1005 (by omega)).trans hMo.2.2.2.2.2.1), ((hof_1 1006 (by omega)).trans hMo.2.2.2.2.2.2.1), ((hof_1 1007 (by omega)).trans hMo.2.2.2.2.2.2.2.1), ((hof_1 1008 (by omega)).trans hMo.2.2.2.2.2.2.2.2.1), ((hof_1 1009 (by omega)).trans hMo.2.2.2.2.2.2.2.2.2.1), ((hof_1 1010 (by omega)).trans hMo.2.2.2.2.2.2.2.2.2.2.1), ((hof_1 1011 (by omega)).trans hMo.2.2.2.2.2.2.2.2.2.2.2.1), ((hof_1 1012 (by omega)).trans hMo.2.2.2.2.2.2.2.2.2.2.2.2.1), ((hof_1 1013 (by omega)).trans hMo.2.2.2.2.2.2.2.2.2.2.2.2.2.1), ((hof_1 1014 (by omega)).trans hMo.2.2.2.2.2.2.2.2.2.2.2.2.2.2.1), ((hof_1 1015 (by omega)).trans hMo.2.2.2.2.2.2.2.2.2.2.2.2.2.2.2.1), ((hof_1 1016 (by omega)).trans hMo.2.2.2.2.2.2.2.2.2.2.2.2.2.2.2.2)⟩ 1 1 r32_0 (by omega) (by omega)) (cwV 2 hts gX6_isHeap_X6_right rfl rfl rfl (by decide +kernel) ⟨Nat.le_of_ble_eq_true rfl, Nat.le_of_ble_eq_true rfl⟩) (rm_preV hK hNw hW hs_1 rfl) rfl rfl hl.1 rfl (lv_room (Nat.le_of_ble_eq_true rfl)) dX6_isHeap_24 ⟨Nat.zero_le _, Nat.zero_le _⟩) hW hS hA (fun z_6 ct_6 H locs hq_6 hW hS => ?_)
      obtain ⟨t9, ht9, hz, hq1, hq2⟩ := hq_6
      rw [if_neg (by omega)] at ht9
      subst ht9
      rw [if_pos rfl] at hz
      subst hz
      have ho_6 : ∀ q, q ≠ 1000 → ct_6 q = ct_1 q := hq2
      have hof_6 : ∀ q, q ≠ 1000 → ct_6 q = ct q := fun q h0_6 => (ho_6 q h0_6).trans (hof_1 q h0_6)
      have hm0_6 : ct_6 1000 = some (.inr (6, [.int (jI 0), .int (jI ((yc : Nat) : Int)), .int (jI ((hc : Nat) : Int)), .ref (ad 1001), .ref (ad 1002), .ref (ad 1003), .ref (ad 1004), .ref (ad 1005), .ref (ad 1006), .ref (ad 1007), .ref (ad 1008), .ref (ad 1009), .ref (ad 1010), .ref (ad 1011), .ref (ad 1012), .ref (ad 1013), .ref (ad 1014), .ref (ad 1015), .ref (ad 1016)]) : va_E) := hq1
      exact W.zret hx hb hr (by decide) (fun t ht hw => ⟨⟨_, (1, ct_6), rfl, ⟨rfl, ⟨fun q h0 => hof_6 q h0, Or.inr ⟨by omega, by omega, rfl, hq1⟩⟩⟩, by show rm_W D ad _ _ t.heap; rw [ht]; exact hW⟩, hS.F ht⟩) hS.2.2 dX6_isHeap_27
set_option maxHeartbeats 4000000 in
set_option maxRecDepth 100000 in
theorem c_X6_isPlace (l : Launch) (D : va_G) (ty : Nat → ClassId) (ad : Nat → Nat) (ct : rm_C) (sz : Nat) (th : Int) (yc hc : Nat) (yn : Nat → Nat) (yM : Nat → Nat → Nat → Int) (yu : Nat → Int) (hy : Nat → Nat) (hg hf mA : Nat → Nat → Int) (pt ro ke kt mu sl tw bw de : Nat → Int) (hMo : ModAt ty ad ct th yc hc yn yM yu hy hg hf mA pt ro ke kt mu sl tw bw de) (h0 : th = 0) (y9 : Nat) (hy9 : y9 < 6) (hn9 : yn y9 ≤ 8) (p9 : Int) (hp9 : r32 p9) : Met l yX6_isPlace wsX6_isPlace ({ frames := 1, cells := 0, slots := 0, locals := 22 }) (rm_P D ty ad ct sz [.ref (ad 1000), .int (jI ((y9 : Nat) : Int)), .int (jI p9)]) (rm_Qi D ad ct sz (fun z ct1 => (∀ q, q ≠ 1000 → ct1 q = ct q) ∧ ((p9 < 0 ∨ ((yn y9 : Nat) : Int) ≤ p9) ∧ z = 0 ∧ ct1 1000 = some (.inr (6, [.int (jI 1), .int (jI ((yc : Nat) : Int)), .int (jI ((hc : Nat) : Int)), .ref (ad 1001), .ref (ad 1002), .ref (ad 1003), .ref (ad 1004), .ref (ad 1005), .ref (ad 1006), .ref (ad 1007), .ref (ad 1008), .ref (ad 1009), .ref (ad 1010), .ref (ad 1011), .ref (ad 1012), .ref (ad 1013), .ref (ad 1014), .ref (ad 1015), .ref (ad 1016)]) : va_E) ∨ 0 ≤ p9 ∧ p9 < ((yn y9 : Nat) : Int) ∧ z = 1 ∧ ct1 1000 = some (.inr (6, [.int (jI 0), .int (jI ((yc : Nat) : Int)), .int (jI ((hc : Nat) : Int)), .ref (ad 1001), .ref (ad 1002), .ref (ad 1003), .ref (ad 1004), .ref (ad 1005), .ref (ad 1006), .ref (ad 1007), .ref (ad 1008), .ref (ad 1009), .ref (ad 1010), .ref (ad 1011), .ref (ad 1012), .ref (ad 1013), .ref (ad 1014), .ref (ad 1015), .ref (ad 1016)]) : va_E)))) 0 0 (rm_A ad ct sz) := by
  refine Met.ofW (cc := cX6_isPlace) (maxL := 3) (ret := (some .boolean)) (by decide) rfl ?_
  intro p e s m args below meth c s₁ B hml hv
  obtain ⟨hargs, hsz, hW, hK, hNw⟩ := hv
  have hx := B.exec
  have hb := B.bytes
  have hr := B.returns
  have hts := atoms_spec (ws := wsX6_isPlace) B.pre
  have hown : s.vm.findClass RX6 = some m.cls := findClass_of_methodNamed B.named
  have hlocks := B.notSynchronized
  subst hsz
  have hW := hW.own (sz := s.heap.size)
  have hA : ∀ q : Nat, s.heap.size ≤ q → rm_A ad ct s.heap.size q := fun q h => Or.inr h
  have hS : va_S (rm_A ad ct s.heap.size) s.heap s.heap [] := va_S.rf
  have hent : entryFrame m args 3 = entryFrame m ([.ref (ad 1000), .int (jI ((y9 : Nat) : Int)), .int (jI p9)] : List Value).toArray 3 := by rw [hargs]
  have hl := lv_entry ([.ref (ad 1000), .int (jI ((y9 : Nat) : Int)), .int (jI p9)]) (n := 3) (Nat.le_of_ble_eq_true rfl)
  rw [hent, lg_entry_eq]
  generalize (lg_sl ([.ref (ad 1000), .int (jI ((y9 : Nat) : Int)), .int (jI p9)]) ++ List.replicate (3 - (lg_sl ([.ref (ad 1000), .int (jI ((y9 : Nat) : Int)), .int (jI p9)])).length) Slot.unset).toArray = ls at hl ⊢
  have hl : lv_has ls 3 [(0, .ref (ad 1000)), (1, .int (jI ((y9 : Nat) : Int))), (2, .int (jI p9))] := hl
  subst h0
  refine lv_aload_n hx hb dX6_isPlace_0 rfl (lv_at hl 0 rfl) ?_
  refine lv_iload_n hx hb dX6_isPlace_1 rfl (lv_at hl 2 rfl) ?_
  refine rm_if_lt (tgt := 19) hx hb ⟨by omega, by omega⟩ dX6_isPlace_2 (by decide) (fun hc_1 => ?_) (fun hc_1 => ?_)
  · skip
    refine lv_iconst (v := jI 0) hx hb dX6_isPlace_19 rfl ?_
    refine lv_iconst (v := jI 1) hx hb dX6_isPlace_20 rfl ?_
    refine rm_calli (va_runV (As := [.int (jI 0), .int (jI 1)]) (rest := []) ⟨hx, hb, hml, hown, hts⟩ (c_X6_right l D ty ad ct s.heap.size 0 yc hc yn yM yu hy hg hf mA pt ro ke kt mu sl tw bw de ⟨hMo.1, hMo.2.1, hMo.2.2.1, hMo.2.2.2.1, hMo.2.2.2.2.1, hMo.2.2.2.2.2.1, hMo.2.2.2.2.2.2.1, hMo.2.2.2.2.2.2.2.1, hMo.2.2.2.2.2.2.2.2.1, hMo.2.2.2.2.2.2.2.2.2.1, hMo.2.2.2.2.2.2.2.2.2.2.1, hMo.2.2.2.2.2.2.2.2.2.2.2.1, hMo.2.2.2.2.2.2.2.2.2.2.2.2.1, hMo.2.2.2.2.2.2.2.2.2.2.2.2.2.1, hMo.2.2.2.2.2.2.2.2.2.2.2.2.2.2.1, hMo.2.2.2.2.2.2.2.2.2.2.2.2.2.2.2.1, hMo.2.2.2.2.2.2.2.2.2.2.2.2.2.2.2.2⟩ 0 1 r32_0 (by omega) (by omega)) (cwV 2 hts gX6_isPlace_X6_right rfl rfl rfl (by decide +kernel) ⟨Nat.le_of_ble_eq_true rfl, Nat.le_of_ble_eq_true rfl⟩) (rm_preV hK hNw hW hMo.1 rfl) rfl rfl hl.1 rfl (lv_room (Nat.le_of_ble_eq_true rfl)) dX6_isPlace_21 ⟨Nat.zero_le _, Nat.zero_le _⟩) hW hS hA (fun z_2 ct_2 H locs hq_2 hW hS => ?_)
    obtain ⟨t9, ht9, hz, hq1, hq2⟩ := hq_2
    rw [if_pos (by decide)] at ht9
    subst ht9
    rw [if_neg (by omega)] at hz
    subst hz
    have ho_2 : ∀ q, q ≠ 1000 → ct_2 q = ct q := hq2
    have hof_2 : ∀ q, q ≠ 1000 → ct_2 q = ct q := fun q h0_2 => (ho_2 q h0_2).trans rfl
    have hm0_2 : ct_2 1000 = some (.inr (6, [.int (jI 1), .int (jI ((yc : Nat) : Int)), .int (jI ((hc : Nat) : Int)), .ref (ad 1001), .ref (ad 1002), .ref (ad 1003), .ref (ad 1004), .ref (ad 1005), .ref (ad 1006), .ref (ad 1007), .ref (ad 1008), .ref (ad 1009), .ref (ad 1010), .ref (ad 1011), .ref (ad 1012), .ref (ad 1013), .ref (ad 1014), .ref (ad 1015), .ref (ad 1016)]) : va_E) := hq1
    exact W.zret hx hb hr (by decide) (fun t ht hw => ⟨⟨_, (0, ct_2), rfl, ⟨rfl, ⟨fun q h0 => hof_2 q h0, Or.inl ⟨Or.inl (by omega), rfl, hq1⟩⟩⟩, by show rm_W D ad _ _ t.heap; rw [ht]; exact hW⟩, hS.F ht⟩) hS.2.2 dX6_isPlace_24
  · skip
    refine lv_iload_n hx hb dX6_isPlace_5 rfl (lv_at hl 2 rfl) ?_
    refine lv_aload_n hx hb dX6_isPlace_6 rfl (lv_at hl 0 rfl) ?_
    refine rm_get (ci := 6) (v := .ref (ad 1001)) (C := RX6) (T := TX6) (N := 19) hx hb hts (by decide +kernel) hown hK hW hMo.1 rfl 3 (by decide) (hts (.fieldLink RX6 7 "GrainYardModel" "places" "[I") (by decide +kernel)) (fun _ h9 => h9) rfl dX6_isPlace_7 ?_
    refine lv_iload_n hx hb dX6_isPlace_10 rfl (lv_at hl 1 rfl) ?_
    refine rm_iald hx hb hK hW (f := (fun y => ((yn y : Nat) : Int))) hMo.2.1 y9 rfl (by omega) (by omega) dX6_isPlace_11 ?_
    refine rm_icmp_ge (tgt := 19) hx hb ⟨by omega, by omega⟩ ⟨by omega, by omega⟩ dX6_isPlace_12 (by decide) (fun hc_3 => ?_) (fun hc_3 => ?_)
    · skip
      refine lv_iconst (v := jI 0) hx hb dX6_isPlace_19 rfl ?_
      refine lv_iconst (v := jI 1) hx hb dX6_isPlace_20 rfl ?_
      refine rm_calli (va_runV (As := [.int (jI 0), .int (jI 1)]) (rest := []) ⟨hx, hb, hml, hown, hts⟩ (c_X6_right l D ty ad ct s.heap.size 0 yc hc yn yM yu hy hg hf mA pt ro ke kt mu sl tw bw de ⟨hMo.1, hMo.2.1, hMo.2.2.1, hMo.2.2.2.1, hMo.2.2.2.2.1, hMo.2.2.2.2.2.1, hMo.2.2.2.2.2.2.1, hMo.2.2.2.2.2.2.2.1, hMo.2.2.2.2.2.2.2.2.1, hMo.2.2.2.2.2.2.2.2.2.1, hMo.2.2.2.2.2.2.2.2.2.2.1, hMo.2.2.2.2.2.2.2.2.2.2.2.1, hMo.2.2.2.2.2.2.2.2.2.2.2.2.1, hMo.2.2.2.2.2.2.2.2.2.2.2.2.2.1, hMo.2.2.2.2.2.2.2.2.2.2.2.2.2.2.1, hMo.2.2.2.2.2.2.2.2.2.2.2.2.2.2.2.1, hMo.2.2.2.2.2.2.2.2.2.2.2.2.2.2.2.2⟩ 0 1 r32_0 (by omega) (by omega)) (cwV 2 hts gX6_isPlace_X6_right rfl rfl rfl (by decide +kernel) ⟨Nat.le_of_ble_eq_true rfl, Nat.le_of_ble_eq_true rfl⟩) (rm_preV hK hNw hW hMo.1 rfl) rfl rfl hl.1 rfl (lv_room (Nat.le_of_ble_eq_true rfl)) dX6_isPlace_21 ⟨Nat.zero_le _, Nat.zero_le _⟩) hW hS hA (fun z_4 ct_4 H locs hq_4 hW hS => ?_)
      obtain ⟨t9, ht9, hz, hq1, hq2⟩ := hq_4
      rw [if_pos (by decide)] at ht9
      subst ht9
      rw [if_neg (by omega)] at hz
      subst hz
      have ho_4 : ∀ q, q ≠ 1000 → ct_4 q = ct q := hq2
      have hof_4 : ∀ q, q ≠ 1000 → ct_4 q = ct q := fun q h0_4 => (ho_4 q h0_4).trans rfl
      have hm0_4 : ct_4 1000 = some (.inr (6, [.int (jI 1), .int (jI ((yc : Nat) : Int)), .int (jI ((hc : Nat) : Int)), .ref (ad 1001), .ref (ad 1002), .ref (ad 1003), .ref (ad 1004), .ref (ad 1005), .ref (ad 1006), .ref (ad 1007), .ref (ad 1008), .ref (ad 1009), .ref (ad 1010), .ref (ad 1011), .ref (ad 1012), .ref (ad 1013), .ref (ad 1014), .ref (ad 1015), .ref (ad 1016)]) : va_E) := hq1
      exact W.zret hx hb hr (by decide) (fun t ht hw => ⟨⟨_, (0, ct_4), rfl, ⟨rfl, ⟨fun q h0 => hof_4 q h0, Or.inl ⟨Or.inr (by omega), rfl, hq1⟩⟩⟩, by show rm_W D ad _ _ t.heap; rw [ht]; exact hW⟩, hS.F ht⟩) hS.2.2 dX6_isPlace_24
    · skip
      refine lv_iconst (v := jI 1) hx hb dX6_isPlace_15 rfl ?_
      refine lv_goto (tgt := 20) hx hb dX6_isPlace_16 (by decide) ?_
      refine lv_iconst (v := jI 1) hx hb dX6_isPlace_20 rfl ?_
      refine rm_calli (va_runV (As := [.int (jI 1), .int (jI 1)]) (rest := []) ⟨hx, hb, hml, hown, hts⟩ (c_X6_right l D ty ad ct s.heap.size 0 yc hc yn yM yu hy hg hf mA pt ro ke kt mu sl tw bw de ⟨hMo.1, hMo.2.1, hMo.2.2.1, hMo.2.2.2.1, hMo.2.2.2.2.1, hMo.2.2.2.2.2.1, hMo.2.2.2.2.2.2.1, hMo.2.2.2.2.2.2.2.1, hMo.2.2.2.2.2.2.2.2.1, hMo.2.2.2.2.2.2.2.2.2.1, hMo.2.2.2.2.2.2.2.2.2.2.1, hMo.2.2.2.2.2.2.2.2.2.2.2.1, hMo.2.2.2.2.2.2.2.2.2.2.2.2.1, hMo.2.2.2.2.2.2.2.2.2.2.2.2.2.1, hMo.2.2.2.2.2.2.2.2.2.2.2.2.2.2.1, hMo.2.2.2.2.2.2.2.2.2.2.2.2.2.2.2.1, hMo.2.2.2.2.2.2.2.2.2.2.2.2.2.2.2.2⟩ 1 1 r32_0 (by omega) (by omega)) (cwV 2 hts gX6_isPlace_X6_right rfl rfl rfl (by decide +kernel) ⟨Nat.le_of_ble_eq_true rfl, Nat.le_of_ble_eq_true rfl⟩) (rm_preV hK hNw hW hMo.1 rfl) rfl rfl hl.1 rfl (lv_room (Nat.le_of_ble_eq_true rfl)) dX6_isPlace_21 ⟨Nat.zero_le _, Nat.zero_le _⟩) hW hS hA (fun z_5 ct_5 H locs hq_5 hW hS => ?_)
      obtain ⟨t9, ht9, hz, hq1, hq2⟩ := hq_5
      rw [if_neg (by omega)] at ht9
      subst ht9
      rw [if_pos rfl] at hz
      subst hz
      have ho_5 : ∀ q, q ≠ 1000 → ct_5 q = ct q := hq2
      have hof_5 : ∀ q, q ≠ 1000 → ct_5 q = ct q := fun q h0_5 => (ho_5 q h0_5).trans rfl
      have hm0_5 : ct_5 1000 = some (.inr (6, [.int (jI 0), .int (jI ((yc : Nat) : Int)), .int (jI ((hc : Nat) : Int)), .ref (ad 1001), .ref (ad 1002), .ref (ad 1003), .ref (ad 1004), .ref (ad 1005), .ref (ad 1006), .ref (ad 1007), .ref (ad 1008), .ref (ad 1009), .ref (ad 1010), .ref (ad 1011), .ref (ad 1012), .ref (ad 1013), .ref (ad 1014), .ref (ad 1015), .ref (ad 1016)]) : va_E) := hq1
      exact W.zret hx hb hr (by decide) (fun t ht hw => ⟨⟨_, (1, ct_5), rfl, ⟨rfl, ⟨fun q h0 => hof_5 q h0, Or.inr ⟨by omega, by omega, rfl, hq1⟩⟩⟩, by show rm_W D ad _ _ t.heap; rw [ht]; exact hW⟩, hS.F ht⟩) hS.2.2 dX6_isPlace_24
set_option maxHeartbeats 4000000 in
set_option maxRecDepth 100000 in
theorem c_X6_size (l : Launch) (D : va_G) (ty : Nat → ClassId) (ad : Nat → Nat) (ct : rm_C) (sz : Nat) (th : Int) (yc hc : Nat) (yn : Nat → Nat) (yM : Nat → Nat → Nat → Int) (yu : Nat → Int) (hy : Nat → Nat) (hg hf mA : Nat → Nat → Int) (pt ro ke kt mu sl tw bw de : Nat → Int) (hMo : ModAt ty ad ct th yc hc yn yM yu hy hg hf mA pt ro ke kt mu sl tw bw de) (h9 : Nat) (hh9 : h9 < 20) (hyh : hy h9 < 6) : Met l yX6_size wsX6_size ({ frames := 0, cells := 0, slots := 0, locals := 0 }) (rm_P D ty ad ct sz [.ref (ad 1000), .int (jI ((h9 : Nat) : Int))]) (rm_Qi D ad ct sz (fun z ct1 => z = ((yn (hy h9) : Nat) : Int) ∧ ct1 = ct)) 0 0 (rm_A ad ct sz) := by
  refine Met.ofW (cc := cX6_size) (maxL := 2) (ret := (some .int)) (by decide) rfl ?_
  intro p e s m args below meth c s₁ B hml hv
  obtain ⟨hargs, hsz, hW, hK, hNw⟩ := hv
  have hx := B.exec
  have hb := B.bytes
  have hr := B.returns
  have hts := atoms_spec (ws := wsX6_size) B.pre
  have hown : s.vm.findClass RX6 = some m.cls := findClass_of_methodNamed B.named
  have hlocks := B.notSynchronized
  subst hsz
  have hW := hW.own (sz := s.heap.size)
  have hA : ∀ q : Nat, s.heap.size ≤ q → rm_A ad ct s.heap.size q := fun q h => Or.inr h
  have hS : va_S (rm_A ad ct s.heap.size) s.heap s.heap [] := va_S.rf
  have hent : entryFrame m args 2 = entryFrame m ([.ref (ad 1000), .int (jI ((h9 : Nat) : Int))] : List Value).toArray 2 := by rw [hargs]
  have hl := lv_entry ([.ref (ad 1000), .int (jI ((h9 : Nat) : Int))]) (n := 2) (Nat.le_of_ble_eq_true rfl)
  rw [hent, lg_entry_eq]
  generalize (lg_sl ([.ref (ad 1000), .int (jI ((h9 : Nat) : Int))]) ++ List.replicate (2 - (lg_sl ([.ref (ad 1000), .int (jI ((h9 : Nat) : Int))])).length) Slot.unset).toArray = ls at hl ⊢
  have hl : lv_has ls 2 [(0, .ref (ad 1000)), (1, .int (jI ((h9 : Nat) : Int)))] := hl
  refine lv_aload_n hx hb dX6_size_0 rfl (lv_at hl 0 rfl) ?_
  refine rm_get (ci := 6) (v := .ref (ad 1001)) (C := RX6) (T := TX6) (N := 19) hx hb hts (by decide +kernel) hown hK hW hMo.1 rfl 3 (by decide) (hts (.fieldLink RX6 7 "GrainYardModel" "places" "[I") (by decide +kernel)) (fun _ h9 => h9) rfl dX6_size_1 ?_
  refine lv_aload_n hx hb dX6_size_4 rfl (lv_at hl 0 rfl) ?_
  refine rm_get (ci := 6) (v := .ref (ad 1003)) (C := RX6) (T := TX6) (N := 19) hx hb hts (by decide +kernel) hown hK hW hMo.1 rfl 5 (by decide) (hts (.fieldLink RX6 16 "GrainYardModel" "yardOf" "[I") (by decide +kernel)) (fun _ h9 => h9) rfl dX6_size_5 ?_
  refine lv_iload_n hx hb dX6_size_8 rfl (lv_at hl 1 rfl) ?_
  refine rm_iald hx hb hK hW (f := (fun y => ((hy y : Nat) : Int))) hMo.2.2.2.1 h9 rfl (by omega) (by omega) dX6_size_9 ?_
  refine rm_iald hx hb hK hW (f := (fun y => ((yn y : Nat) : Int))) hMo.2.1 (hy h9) (by push_cast; omega) (by omega) (by omega) dX6_size_10 ?_
  exact W.iret hx hb hr (fun t ht hw => ⟨⟨_, (((yn (hy h9) : Nat) : Int), ct), rfl, ⟨rfl, ⟨rfl, rfl⟩⟩, by show rm_W D ad _ _ t.heap; rw [ht]; exact hW⟩, hS.F ht⟩) hS.2.2 dX6_size_11
set_option maxHeartbeats 4000000 in
set_option maxRecDepth 100000 in
theorem c_X6_isIn (l : Launch) (D : va_G) (ty : Nat → ClassId) (ad : Nat → Nat) (ct : rm_C) (sz : Nat) (th : Int) (yc hc : Nat) (yn : Nat → Nat) (yM : Nat → Nat → Nat → Int) (yu : Nat → Int) (hy : Nat → Nat) (hg hf mA : Nat → Nat → Int) (pt ro ke kt mu sl tw bw de : Nat → Int) (hMo : ModAt ty ad ct th yc hc yn yM yu hy hg hf mA pt ro ke kt mu sl tw bw de) (h0 : th = 0) (h9 : Nat) (hh9 : h9 < 20) (hyh : hy h9 < 6) (hn9 : yn (hy h9) ≤ 8) (p9 l9 : Int) (hp9 : r32 p9) (hl9 : 0 ≤ l9 ∧ l9 ≤ 1) : Met l yX6_isIn wsX6_isIn ({ frames := 1, cells := 0, slots := 0, locals := 22 }) (rm_P D ty ad ct sz [.ref (ad 1000), .int (jI ((h9 : Nat) : Int)), .int (jI p9), .int (jI l9)]) (rm_Qi D ad ct sz (fun z ct1 => (∀ q, q ≠ 1000 → ct1 q = ct q) ∧ ((p9 < l9 ∨ ((yn (hy h9) : Nat) : Int) ≤ p9) ∧ z = 0 ∧ ct1 1000 = some (.inr (6, [.int (jI 1), .int (jI ((yc : Nat) : Int)), .int (jI ((hc : Nat) : Int)), .ref (ad 1001), .ref (ad 1002), .ref (ad 1003), .ref (ad 1004), .ref (ad 1005), .ref (ad 1006), .ref (ad 1007), .ref (ad 1008), .ref (ad 1009), .ref (ad 1010), .ref (ad 1011), .ref (ad 1012), .ref (ad 1013), .ref (ad 1014), .ref (ad 1015), .ref (ad 1016)]) : va_E) ∨ l9 ≤ p9 ∧ p9 < ((yn (hy h9) : Nat) : Int) ∧ z = 1 ∧ ct1 1000 = some (.inr (6, [.int (jI 0), .int (jI ((yc : Nat) : Int)), .int (jI ((hc : Nat) : Int)), .ref (ad 1001), .ref (ad 1002), .ref (ad 1003), .ref (ad 1004), .ref (ad 1005), .ref (ad 1006), .ref (ad 1007), .ref (ad 1008), .ref (ad 1009), .ref (ad 1010), .ref (ad 1011), .ref (ad 1012), .ref (ad 1013), .ref (ad 1014), .ref (ad 1015), .ref (ad 1016)]) : va_E)))) 0 0 (rm_A ad ct sz) := by
  refine Met.ofW (cc := cX6_isIn) (maxL := 4) (ret := (some .boolean)) (by decide) rfl ?_
  intro p e s m args below meth c s₁ B hml hv
  obtain ⟨hargs, hsz, hW, hK, hNw⟩ := hv
  have hx := B.exec
  have hb := B.bytes
  have hr := B.returns
  have hts := atoms_spec (ws := wsX6_isIn) B.pre
  have hown : s.vm.findClass RX6 = some m.cls := findClass_of_methodNamed B.named
  have hlocks := B.notSynchronized
  subst hsz
  have hW := hW.own (sz := s.heap.size)
  have hA : ∀ q : Nat, s.heap.size ≤ q → rm_A ad ct s.heap.size q := fun q h => Or.inr h
  have hS : va_S (rm_A ad ct s.heap.size) s.heap s.heap [] := va_S.rf
  have hent : entryFrame m args 4 = entryFrame m ([.ref (ad 1000), .int (jI ((h9 : Nat) : Int)), .int (jI p9), .int (jI l9)] : List Value).toArray 4 := by rw [hargs]
  have hl := lv_entry ([.ref (ad 1000), .int (jI ((h9 : Nat) : Int)), .int (jI p9), .int (jI l9)]) (n := 4) (Nat.le_of_ble_eq_true rfl)
  rw [hent, lg_entry_eq]
  generalize (lg_sl ([.ref (ad 1000), .int (jI ((h9 : Nat) : Int)), .int (jI p9), .int (jI l9)]) ++ List.replicate (4 - (lg_sl ([.ref (ad 1000), .int (jI ((h9 : Nat) : Int)), .int (jI p9), .int (jI l9)])).length) Slot.unset).toArray = ls at hl ⊢
  have hl : lv_has ls 4 [(0, .ref (ad 1000)), (1, .int (jI ((h9 : Nat) : Int))), (2, .int (jI p9)), (3, .int (jI l9))] := hl
  subst h0
  refine lv_aload_n hx hb dX6_isIn_0 rfl (lv_at hl 0 rfl) ?_
  refine lv_iload_n hx hb dX6_isIn_1 rfl (lv_at hl 2 rfl) ?_
  refine lv_iload_n hx hb dX6_isIn_2 rfl (lv_at hl 3 rfl) ?_
  refine rm_icmp_lt (tgt := 19) hx hb ⟨by omega, by omega⟩ ⟨by omega, by omega⟩ dX6_isIn_3 (by decide) (fun hc_1 => ?_) (fun hc_1 => ?_)
  · skip
    refine lv_iconst (v := jI 0) hx hb dX6_isIn_19 rfl ?_
    refine lv_iconst (v := jI 1) hx hb dX6_isIn_20 rfl ?_
    refine rm_calli (va_runV (As := [.int (jI 0), .int (jI 1)]) (rest := []) ⟨hx, hb, hml, hown, hts⟩ (c_X6_right l D ty ad ct s.heap.size 0 yc hc yn yM yu hy hg hf mA pt ro ke kt mu sl tw bw de ⟨hMo.1, hMo.2.1, hMo.2.2.1, hMo.2.2.2.1, hMo.2.2.2.2.1, hMo.2.2.2.2.2.1, hMo.2.2.2.2.2.2.1, hMo.2.2.2.2.2.2.2.1, hMo.2.2.2.2.2.2.2.2.1, hMo.2.2.2.2.2.2.2.2.2.1, hMo.2.2.2.2.2.2.2.2.2.2.1, hMo.2.2.2.2.2.2.2.2.2.2.2.1, hMo.2.2.2.2.2.2.2.2.2.2.2.2.1, hMo.2.2.2.2.2.2.2.2.2.2.2.2.2.1, hMo.2.2.2.2.2.2.2.2.2.2.2.2.2.2.1, hMo.2.2.2.2.2.2.2.2.2.2.2.2.2.2.2.1, hMo.2.2.2.2.2.2.2.2.2.2.2.2.2.2.2.2⟩ 0 1 r32_0 (by omega) (by omega)) (cwV 2 hts gX6_isIn_X6_right rfl rfl rfl (by decide +kernel) ⟨Nat.le_of_ble_eq_true rfl, Nat.le_of_ble_eq_true rfl⟩) (rm_preV hK hNw hW hMo.1 rfl) rfl rfl hl.1 rfl (lv_room (Nat.le_of_ble_eq_true rfl)) dX6_isIn_21 ⟨Nat.zero_le _, Nat.zero_le _⟩) hW hS hA (fun z_2 ct_2 H locs hq_2 hW hS => ?_)
    obtain ⟨t9, ht9, hz, hq1, hq2⟩ := hq_2
    rw [if_pos (by decide)] at ht9
    subst ht9
    rw [if_neg (by omega)] at hz
    subst hz
    have ho_2 : ∀ q, q ≠ 1000 → ct_2 q = ct q := hq2
    have hof_2 : ∀ q, q ≠ 1000 → ct_2 q = ct q := fun q h0_2 => (ho_2 q h0_2).trans rfl
    have hm0_2 : ct_2 1000 = some (.inr (6, [.int (jI 1), .int (jI ((yc : Nat) : Int)), .int (jI ((hc : Nat) : Int)), .ref (ad 1001), .ref (ad 1002), .ref (ad 1003), .ref (ad 1004), .ref (ad 1005), .ref (ad 1006), .ref (ad 1007), .ref (ad 1008), .ref (ad 1009), .ref (ad 1010), .ref (ad 1011), .ref (ad 1012), .ref (ad 1013), .ref (ad 1014), .ref (ad 1015), .ref (ad 1016)]) : va_E) := hq1
    exact W.zret hx hb hr (by decide) (fun t ht hw => ⟨⟨_, (0, ct_2), rfl, ⟨rfl, ⟨fun q h0 => hof_2 q h0, Or.inl ⟨Or.inl (by omega), rfl, hq1⟩⟩⟩, by show rm_W D ad _ _ t.heap; rw [ht]; exact hW⟩, hS.F ht⟩) hS.2.2 dX6_isIn_24
  · skip
    refine lv_iload_n hx hb dX6_isIn_6 rfl (lv_at hl 2 rfl) ?_
    refine lv_aload_n hx hb dX6_isIn_7 rfl (lv_at hl 0 rfl) ?_
    refine lv_iload_n hx hb dX6_isIn_8 rfl (lv_at hl 1 rfl) ?_
    refine rm_calli (va_runV (As := [.int (jI ((h9 : Nat) : Int))]) (rest := [.int (jI p9), .ref (ad 1000)]) ⟨hx, hb, hml, hown, hts⟩ (c_X6_size l D ty ad ct s.heap.size 0 yc hc yn yM yu hy hg hf mA pt ro ke kt mu sl tw bw de ⟨hMo.1, hMo.2.1, hMo.2.2.1, hMo.2.2.2.1, hMo.2.2.2.2.1, hMo.2.2.2.2.2.1, hMo.2.2.2.2.2.2.1, hMo.2.2.2.2.2.2.2.1, hMo.2.2.2.2.2.2.2.2.1, hMo.2.2.2.2.2.2.2.2.2.1, hMo.2.2.2.2.2.2.2.2.2.2.1, hMo.2.2.2.2.2.2.2.2.2.2.2.1, hMo.2.2.2.2.2.2.2.2.2.2.2.2.1, hMo.2.2.2.2.2.2.2.2.2.2.2.2.2.1, hMo.2.2.2.2.2.2.2.2.2.2.2.2.2.2.1, hMo.2.2.2.2.2.2.2.2.2.2.2.2.2.2.2.1, hMo.2.2.2.2.2.2.2.2.2.2.2.2.2.2.2.2⟩ h9 hh9 hyh) (cwV 1 hts gX6_isIn_X6_size rfl rfl rfl (by decide +kernel) ⟨Nat.le_of_ble_eq_true rfl, Nat.le_of_ble_eq_true rfl⟩) (rm_preV hK hNw hW hMo.1 rfl) rfl rfl hl.1 rfl (lv_room (Nat.le_of_ble_eq_true rfl)) dX6_isIn_9 ⟨Nat.zero_le _, Nat.zero_le _⟩) hW hS hA (fun z_3 ct_3 H locs hq_3 hW hS => ?_)
    obtain ⟨hz, hcc_3⟩ := hq_3
    have hcc_3 := hcc_3.symm
    subst hcc_3
    subst hz
    refine rm_icmp_ge (tgt := 19) hx hb ⟨by omega, by omega⟩ ⟨by omega, by omega⟩ dX6_isIn_12 (by decide) (fun hc_4 => ?_) (fun hc_4 => ?_)
    · skip
      refine lv_iconst (v := jI 0) hx hb dX6_isIn_19 rfl ?_
      refine lv_iconst (v := jI 1) hx hb dX6_isIn_20 rfl ?_
      refine rm_calli (va_runV (As := [.int (jI 0), .int (jI 1)]) (rest := []) ⟨hx, hb, hml, hown, hts⟩ (c_X6_right l D ty ad ct H.size 0 yc hc yn yM yu hy hg hf mA pt ro ke kt mu sl tw bw de ⟨hMo.1, hMo.2.1, hMo.2.2.1, hMo.2.2.2.1, hMo.2.2.2.2.1, hMo.2.2.2.2.2.1, hMo.2.2.2.2.2.2.1, hMo.2.2.2.2.2.2.2.1, hMo.2.2.2.2.2.2.2.2.1, hMo.2.2.2.2.2.2.2.2.2.1, hMo.2.2.2.2.2.2.2.2.2.2.1, hMo.2.2.2.2.2.2.2.2.2.2.2.1, hMo.2.2.2.2.2.2.2.2.2.2.2.2.1, hMo.2.2.2.2.2.2.2.2.2.2.2.2.2.1, hMo.2.2.2.2.2.2.2.2.2.2.2.2.2.2.1, hMo.2.2.2.2.2.2.2.2.2.2.2.2.2.2.2.1, hMo.2.2.2.2.2.2.2.2.2.2.2.2.2.2.2.2⟩ 0 1 r32_0 (by omega) (by omega)) (cwV 2 hts gX6_isIn_X6_right rfl rfl rfl (by decide +kernel) ⟨Nat.le_of_ble_eq_true rfl, Nat.le_of_ble_eq_true rfl⟩) (rm_preV hK hNw hW hMo.1 rfl) rfl rfl hl.1 rfl (lv_room (Nat.le_of_ble_eq_true rfl)) dX6_isIn_21 ⟨Nat.zero_le _, Nat.zero_le _⟩) hW hS hA (fun z_5 ct_5 H locs hq_5 hW hS => ?_)
      obtain ⟨t9, ht9, hz, hq1, hq2⟩ := hq_5
      rw [if_pos (by decide)] at ht9
      subst ht9
      rw [if_neg (by omega)] at hz
      subst hz
      have ho_5 : ∀ q, q ≠ 1000 → ct_5 q = ct q := hq2
      have hof_5 : ∀ q, q ≠ 1000 → ct_5 q = ct q := fun q h0_5 => (ho_5 q h0_5).trans rfl
      have hm0_5 : ct_5 1000 = some (.inr (6, [.int (jI 1), .int (jI ((yc : Nat) : Int)), .int (jI ((hc : Nat) : Int)), .ref (ad 1001), .ref (ad 1002), .ref (ad 1003), .ref (ad 1004), .ref (ad 1005), .ref (ad 1006), .ref (ad 1007), .ref (ad 1008), .ref (ad 1009), .ref (ad 1010), .ref (ad 1011), .ref (ad 1012), .ref (ad 1013), .ref (ad 1014), .ref (ad 1015), .ref (ad 1016)]) : va_E) := hq1
      exact W.zret hx hb hr (by decide) (fun t ht hw => ⟨⟨_, (0, ct_5), rfl, ⟨rfl, ⟨fun q h0 => hof_5 q h0, Or.inl ⟨Or.inr (by omega), rfl, hq1⟩⟩⟩, by show rm_W D ad _ _ t.heap; rw [ht]; exact hW⟩, hS.F ht⟩) hS.2.2 dX6_isIn_24
    · skip
      refine lv_iconst (v := jI 1) hx hb dX6_isIn_15 rfl ?_
      refine lv_goto (tgt := 20) hx hb dX6_isIn_16 (by decide) ?_
      refine lv_iconst (v := jI 1) hx hb dX6_isIn_20 rfl ?_
      refine rm_calli (va_runV (As := [.int (jI 1), .int (jI 1)]) (rest := []) ⟨hx, hb, hml, hown, hts⟩ (c_X6_right l D ty ad ct H.size 0 yc hc yn yM yu hy hg hf mA pt ro ke kt mu sl tw bw de ⟨hMo.1, hMo.2.1, hMo.2.2.1, hMo.2.2.2.1, hMo.2.2.2.2.1, hMo.2.2.2.2.2.1, hMo.2.2.2.2.2.2.1, hMo.2.2.2.2.2.2.2.1, hMo.2.2.2.2.2.2.2.2.1, hMo.2.2.2.2.2.2.2.2.2.1, hMo.2.2.2.2.2.2.2.2.2.2.1, hMo.2.2.2.2.2.2.2.2.2.2.2.1, hMo.2.2.2.2.2.2.2.2.2.2.2.2.1, hMo.2.2.2.2.2.2.2.2.2.2.2.2.2.1, hMo.2.2.2.2.2.2.2.2.2.2.2.2.2.2.1, hMo.2.2.2.2.2.2.2.2.2.2.2.2.2.2.2.1, hMo.2.2.2.2.2.2.2.2.2.2.2.2.2.2.2.2⟩ 1 1 r32_0 (by omega) (by omega)) (cwV 2 hts gX6_isIn_X6_right rfl rfl rfl (by decide +kernel) ⟨Nat.le_of_ble_eq_true rfl, Nat.le_of_ble_eq_true rfl⟩) (rm_preV hK hNw hW hMo.1 rfl) rfl rfl hl.1 rfl (lv_room (Nat.le_of_ble_eq_true rfl)) dX6_isIn_21 ⟨Nat.zero_le _, Nat.zero_le _⟩) hW hS hA (fun z_6 ct_6 H locs hq_6 hW hS => ?_)
      obtain ⟨t9, ht9, hz, hq1, hq2⟩ := hq_6
      rw [if_neg (by omega)] at ht9
      subst ht9
      rw [if_pos rfl] at hz
      subst hz
      have ho_6 : ∀ q, q ≠ 1000 → ct_6 q = ct q := hq2
      have hof_6 : ∀ q, q ≠ 1000 → ct_6 q = ct q := fun q h0_6 => (ho_6 q h0_6).trans rfl
      have hm0_6 : ct_6 1000 = some (.inr (6, [.int (jI 0), .int (jI ((yc : Nat) : Int)), .int (jI ((hc : Nat) : Int)), .ref (ad 1001), .ref (ad 1002), .ref (ad 1003), .ref (ad 1004), .ref (ad 1005), .ref (ad 1006), .ref (ad 1007), .ref (ad 1008), .ref (ad 1009), .ref (ad 1010), .ref (ad 1011), .ref (ad 1012), .ref (ad 1013), .ref (ad 1014), .ref (ad 1015), .ref (ad 1016)]) : va_E) := hq1
      exact W.zret hx hb hr (by decide) (fun t ht hw => ⟨⟨_, (1, ct_6), rfl, ⟨rfl, ⟨fun q h0 => hof_6 q h0, Or.inr ⟨by omega, by omega, rfl, hq1⟩⟩⟩, by show rm_W D ad _ _ t.heap; rw [ht]; exact hW⟩, hS.F ht⟩) hS.2.2 dX6_isIn_24
set_option maxHeartbeats 4000000 in
set_option maxRecDepth 100000 in
theorem c_X6_between (l : Launch) (D : va_G) (ty : Nat → ClassId) (ad : Nat → Nat) (ct : rm_C) (sz : Nat) (th : Int) (yc hc : Nat) (yn : Nat → Nat) (yM : Nat → Nat → Nat → Int) (yu : Nat → Int) (hy : Nat → Nat) (hg hf mA : Nat → Nat → Int) (pt ro ke kt mu sl tw bw de : Nat → Int) (hMo : ModAt ty ad ct th yc hc yn yM yu hy hg hf mA pt ro ke kt mu sl tw bw de) (y9 a9 b9 : Nat) (hy9 : y9 < 6) (ha9 : a9 < 8) (hb9 : b9 < 8) : Met l yX6_between wsX6_between ({ frames := 0, cells := 0, slots := 0, locals := 0 }) (rm_P D ty ad ct sz [.ref (ad 1000), .int (jI ((y9 : Nat) : Int)), .int (jI ((a9 : Nat) : Int)), .int (jI ((b9 : Nat) : Int))]) (rm_Qi D ad ct sz (fun z ct1 => z = yM y9 a9 b9 ∧ ct1 = ct)) 0 0 (rm_A ad ct sz) := by
  refine Met.ofW (cc := cX6_between) (maxL := 4) (ret := (some .int)) (by decide) rfl ?_
  intro p e s m args below meth c s₁ B hml hv
  obtain ⟨hargs, hsz, hW, hK, hNw⟩ := hv
  have hx := B.exec
  have hb := B.bytes
  have hr := B.returns
  have hts := atoms_spec (ws := wsX6_between) B.pre
  have hown : s.vm.findClass RX6 = some m.cls := findClass_of_methodNamed B.named
  have hlocks := B.notSynchronized
  subst hsz
  have hW := hW.own (sz := s.heap.size)
  have hA : ∀ q : Nat, s.heap.size ≤ q → rm_A ad ct s.heap.size q := fun q h => Or.inr h
  have hS : va_S (rm_A ad ct s.heap.size) s.heap s.heap [] := va_S.rf
  have hent : entryFrame m args 4 = entryFrame m ([.ref (ad 1000), .int (jI ((y9 : Nat) : Int)), .int (jI ((a9 : Nat) : Int)), .int (jI ((b9 : Nat) : Int))] : List Value).toArray 4 := by rw [hargs]
  have hl := lv_entry ([.ref (ad 1000), .int (jI ((y9 : Nat) : Int)), .int (jI ((a9 : Nat) : Int)), .int (jI ((b9 : Nat) : Int))]) (n := 4) (Nat.le_of_ble_eq_true rfl)
  rw [hent, lg_entry_eq]
  generalize (lg_sl ([.ref (ad 1000), .int (jI ((y9 : Nat) : Int)), .int (jI ((a9 : Nat) : Int)), .int (jI ((b9 : Nat) : Int))]) ++ List.replicate (4 - (lg_sl ([.ref (ad 1000), .int (jI ((y9 : Nat) : Int)), .int (jI ((a9 : Nat) : Int)), .int (jI ((b9 : Nat) : Int))])).length) Slot.unset).toArray = ls at hl ⊢
  have hl : lv_has ls 4 [(0, .ref (ad 1000)), (1, .int (jI ((y9 : Nat) : Int))), (2, .int (jI ((a9 : Nat) : Int))), (3, .int (jI ((b9 : Nat) : Int)))] := hl
  refine lv_aload_n hx hb dX6_between_0 rfl (lv_at hl 0 rfl) ?_
  refine rm_get (ci := 6) (v := .ref (ad 1002)) (C := RX6) (T := TX6) (N := 19) hx hb hts (by decide +kernel) hown hK hW hMo.1 rfl 4 (by decide) (hts (.fieldLink RX6 13 "GrainYardModel" "paths" "[I") (by decide +kernel)) (fun _ h9 => h9) rfl dX6_between_1 ?_
  refine lv_bipush (v := jI 64) hx hb dX6_between_4 (by decide) ?_
  refine lv_iload_n hx hb dX6_between_6 rfl (lv_at hl 1 rfl) ?_
  refine rm_imul hx hb dX6_between_7 ?_
  refine lv_bipush (v := jI 8) hx hb dX6_between_8 (by decide) ?_
  refine lv_iload_n hx hb dX6_between_10 rfl (lv_at hl 2 rfl) ?_
  refine rm_imul hx hb dX6_between_11 ?_
  refine rm_iadd hx hb dX6_between_12 ?_
  refine lv_iload_n hx hb dX6_between_13 rfl (lv_at hl 3 rfl) ?_
  refine rm_iadd hx hb dX6_between_14 ?_
  refine rm_iald hx hb hK hW (f := (fl64 yM)) hMo.2.2.1 (64 * y9 + 8 * a9 + b9) (by first | rfl | (push_cast; omega)) (by omega) (by omega) dX6_between_15 ?_
  rw [fl64_at (by omega) (by omega)]
  exact W.iret hx hb hr (fun t ht hw => ⟨⟨_, ((yM y9 a9 b9), ct), rfl, ⟨rfl, ⟨rfl, rfl⟩⟩, by show rm_W D ad _ _ t.heap; rw [ht]; exact hW⟩, hS.F ht⟩) hS.2.2 dX6_between_16
