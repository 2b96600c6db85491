set_option maxHeartbeats 4000000 in
set_option maxRecDepth 100000 in
theorem c_X5_grains (l : Launch) (hlf : l.stackTraces = false) (D : va_G) (ty : Nat → ClassId) (ad : Nat → Nat) (ct : rm_C) (sz : Nat) (yc hc : Nat) (yn : Nat → Nat) (yM : Nat → Nat → Nat → Int) (yd : Nat → Nat → Int) (yu : Nat → Int) (hy : Nat → Nat) (hg hf : Nat → Nat → Int) (hC : ClsAt ty ad ct yc hc yn yM yd yu hy hg hf) (hyn : ∀ y, y < yc → 2 ≤ yn y ∧ yn y ≤ 8) (z9 p9 : Int) (hz9 : r32 z9) (hp9 : r32 p9) : vx_Met l yX5_grains wsX5_grains ({ frames := 7, cells := 2, slots := 12, locals := 104 }) (rm_PX D ty ad ct sz [.ref (ad 0), .int (jI z9), .int (jI p9)]) (rm_Ql D ad ct sz (fun z ct1 => ∃ h9 q9 : Nat, z9 = (h9 : Int) ∧ p9 = (q9 : Int) ∧ h9 < hc ∧ q9 < yn (hy h9) ∧ z = hg h9 q9 ∧ ct1 = ct)) (rm_XC D ad ct sz (fun E ct1 => E = xNSE ∧ ((z9 < 0 ∨ (hc : Int) ≤ z9) ∨ ∃ h9 : Nat, z9 = (h9 : Int) ∧ h9 < hc ∧ (p9 < 0 ∨ (yn (hy h9) : Int) ≤ p9)) ∧ ct1 = ct)) 2 12 (rm_A ad ct sz) := by
  refine vx_ofW (cc := cX5_grains) (maxL := 4) (ret := (some .long)) (by decide) rfl ?_
  intro p e s m args below meth c s₁ B hml hout hv
  obtain ⟨hargs, ⟨hsz, hW, hK, hNw⟩, hE, hU⟩ := hv
  have hx := B.exec
  have hb := B.bytes
  have hr := B.returns
  have hts := atoms_spec (ws := wsX5_grains) B.pre
  have hown : s.vm.findClass RX5 = some m.cls := findClass_of_methodNamed B.named
  have hlocks := B.notSynchronized
  subst hsz
  have hW := hW.own (sz := s.heap.size)
  have hA : ∀ q : Nat, s.heap.size ≤ q → rm_A ad ct s.heap.size q := fun q h => Or.inr h
  have hS : va_S (rm_A ad ct s.heap.size) s.heap s.heap [] := va_S.rf
  have hent : entryFrame m args 4 = entryFrame m ([.ref (ad 0), .int (jI z9), .int (jI p9)] : List Value).toArray 4 := by rw [hargs]
  have hl := lv_entry ([.ref (ad 0), .int (jI z9), .int (jI p9)]) (n := 4) (Nat.le_of_ble_eq_true rfl)
  rw [hent, lg_entry_eq]
  generalize (lg_sl ([.ref (ad 0), .int (jI z9), .int (jI p9)]) ++ List.replicate (4 - (lg_sl ([.ref (ad 0), .int (jI z9), .int (jI p9)])).length) Slot.unset).toArray = ls at hl ⊢
  have hl : lv_has ls 4 [(0, .ref (ad 0)), (1, .int (jI z9)), (2, .int (jI p9))] := hl
  refine lv_aload_n hx hb dX5_grains_0 rfl (lv_at hl 0 rfl) ?_
  refine lv_iload_n hx hb dX5_grains_1 rfl (lv_at hl 1 rfl) ?_
  refine rm_xcallr (vx_runV (As := [.int (jI z9)]) (rest := []) ⟨hx, hb, hml, hown, hts⟩ (c_X5_heapNumbered l hlf D ty ad ct s.heap.size yc hc yn yM yd yu hy hg hf hC z9 hz9) (cwV 1 hts gX5_grains_X5_heapNumbered rfl rfl rfl (by decide +kernel) ⟨Nat.le_of_ble_eq_true rfl, Nat.le_of_ble_eq_true rfl⟩) (rm_preVX hK hNw hE hU hW hS hA hC.2.1.1 rfl) rfl rfl hl.1 rfl (lv_room (Nat.le_of_ble_eq_true rfl)) dX5_grains_2 ⟨Nat.le_of_ble_eq_true rfl, Nat.le_of_ble_eq_true rfl⟩) hW hS hA hout hlocks (fun E ct1 h => ⟨h.1, Or.inl h.2.1, h.2.2⟩) (Nat.le_of_ble_eq_true rfl) (Nat.le_of_ble_eq_true rfl) (fun z_1 ct_1 H locs hq_1 hW hS => ?_)
  obtain ⟨h9, hh1, hh2, hh3, hcc⟩ := hq_1
  have hcc := hcc.symm
  subst hcc hh3 hh1
  have hHh := (hC.2.2.2.2.1 h9 hh2).2
  have hyh := (hC.2.2.2.2.1 h9 hh2).1
  have hYy := hC.2.2.2.1 (hy h9) hyh
  have hyn9 := hyn (hy h9) hyh
  have hb6 := hC.1.1
  have hb20 := hC.1.2
  refine lv_astore_n (lv' := [(3, .ref (ad (200 + 4 * h9))), (0, .ref (ad 0)), (1, .int (jI ((h9 : Nat) : Int))), (2, .int (jI p9))]) hx hb dX5_grains_5 rfl hl (by decide) rfl (fun ls hl => ?_)
  refine lv_aload_n hx hb dX5_grains_6 rfl (lv_at hl 0 rfl) ?_
  refine rm_get (ci := 1) (v := .ref (ad (40 + 16 * hy h9))) (C := RX1) (T := TX1) (N := 3) hx hb hts (by decide +kernel) hown hK hW hHh.1 rfl 0 (by decide) (hts (.fieldLink RX5 107 "GrainYard$Heap" "yard" "LGrainYard$Yard;") (by decide +kernel)) (fun _ h9 => h9) rfl dX5_grains_7 ?_
  refine lv_iload_n hx hb dX5_grains_10 rfl (lv_at hl 3 rfl) ?_
  refine lv_iconst (v := jI 0) hx hb dX5_grains_11 rfl ?_
  refine rm_xcallv (vx_runS (As := [.ref (ad (40 + 16 * hy h9)), .int (jI p9), .int (jI 0)]) (rest := []) ⟨hx, hb, hml, hown, hts⟩ (c_X5_requirePlace l hlf D ty ad ct H.size (40 + 16 * hy h9) (yn (hy h9)) (yM (hy h9)) (yd (hy h9)) (yu (hy h9)) p9 0 hp9 ⟨by omega, by omega⟩ hyn9.2 hYy) (va_cwS 3 hts gX5_grains_X5_requirePlace rfl rfl rfl (by decide +kernel) ⟨Nat.le_of_ble_eq_true rfl, Nat.le_of_ble_eq_true rfl⟩) (rm_preSX hK hNw hE hU hW hS hA) rfl rfl hl.1 rfl (lv_room (Nat.le_of_ble_eq_true rfl)) dX5_grains_12 ⟨Nat.le_of_ble_eq_true rfl, Nat.le_of_ble_eq_true rfl⟩) hW hS hA hout hlocks (fun E ct1 h => ⟨h.1, Or.inr ⟨h9, rfl, hh2, h.2.1⟩, h.2.2⟩) (Nat.le_of_ble_eq_true rfl) (Nat.le_of_ble_eq_true rfl) (fun ct_2 H locs hq_2 hW hS hz_2 => ?_)
  obtain ⟨hp1, hp2, hcc⟩ := hq_2
  have hcc := hcc.symm
  subst hcc
  obtain ⟨q9, hq9⟩ : ∃ q9 : Nat, p9 = (q9 : Int) := ⟨p9.toNat, by omega⟩
  subst hq9
  refine lv_aload_n hx hb dX5_grains_15 rfl (lv_at hl 0 rfl) ?_
  refine rm_get (ci := 1) (v := .ref (ad ((200 + 4 * h9) + 1))) (C := RX1) (T := TX1) (N := 3) hx hb hts (by decide +kernel) hown hK hW hHh.1 rfl 1 (by decide) (hts (.fieldLink RX5 117 "GrainYard$Heap" "grains" "[J") (by decide +kernel)) (fun _ h9 => h9) rfl dX5_grains_16 ?_
  refine lv_iload_n hx hb dX5_grains_19 rfl (lv_at hl 3 rfl) ?_
  refine rm_lald hx hb hK hW (f := (hg h9)) hHh.2.1 q9 rfl (by omega) (by omega) dX5_grains_20 ?_
  refine vx_ret ?_
  refine W.widen (k := 2) (n := 12) (by omega) (by omega) ?_
  exact W.lret hx hb hr (fun t ht hw => ⟨⟨_, (((hg h9) q9), ct), rfl, ⟨rfl, ⟨h9, q9, rfl, rfl, hh2, by omega, rfl, rfl⟩⟩, by show rm_W D ad _ _ t.heap; rw [ht]; exact hW⟩, hS.F ht⟩) hS.2.2 dX5_grains_21
set_option maxHeartbeats 4000000 in
set_option maxRecDepth 100000 in
theorem c_X5_toppled (l : Launch) (hlf : l.stackTraces = false) (D : va_G) (ty : Nat → ClassId) (ad : Nat → Nat) (ct : rm_C) (sz : Nat) (yc hc : Nat) (yn : Nat → Nat) (yM : Nat → Nat → Nat → Int) (yd : Nat → Nat → Int) (yu : Nat → Int) (hy : Nat → Nat) (hg hf : Nat → Nat → Int) (hC : ClsAt ty ad ct yc hc yn yM yd yu hy hg hf) (hyn : ∀ y, y < yc → 2 ≤ yn y ∧ yn y ≤ 8) (z9 p9 : Int) (hz9 : r32 z9) (hp9 : r32 p9) : vx_Met l yX5_toppled wsX5_toppled ({ frames := 7, cells := 2, slots := 12, locals := 104 }) (rm_PX D ty ad ct sz [.ref (ad 0), .int (jI z9), .int (jI p9)]) (rm_Ql D ad ct sz (fun z ct1 => ∃ h9 q9 : Nat, z9 = (h9 : Int) ∧ p9 = (q9 : Int) ∧ h9 < hc ∧ q9 < yn (hy h9) ∧ z = hf h9 q9 ∧ ct1 = ct)) (rm_XC D ad ct sz (fun E ct1 => E = xNSE ∧ ((z9 < 0 ∨ (hc : Int) ≤ z9) ∨ ∃ h9 : Nat, z9 = (h9 : Int) ∧ h9 < hc ∧ (p9 < 0 ∨ (yn (hy h9) : Int) ≤ p9)) ∧ ct1 = ct)) 2 12 (rm_A ad ct sz) := by
  refine vx_ofW (cc := cX5_toppled) (maxL := 4) (ret := (some .long)) (by decide) rfl ?_
  intro p e s m args below meth c s₁ B hml hout hv
  obtain ⟨hargs, ⟨hsz, hW, hK, hNw⟩, hE, hU⟩ := hv
  have hx := B.exec
  have hb := B.bytes
  have hr := B.returns
  have hts := atoms_spec (ws := wsX5_toppled) B.pre
  have hown : s.vm.findClass RX5 = some m.cls := findClass_of_methodNamed B.named
  have hlocks := B.notSynchronized
  subst hsz
  have hW := hW.own (sz := s.heap.size)
  have hA : ∀ q : Nat, s.heap.size ≤ q → rm_A ad ct s.heap.size q := fun q h => Or.inr h
  have hS : va_S (rm_A ad ct s.heap.size) s.heap s.heap [] := va_S.rf
  have hent : entryFrame m args 4 = entryFrame m ([.ref (ad 0), .int (jI z9), .int (jI p9)] : List Value).toArray 4 := by rw [hargs]
  have hl := lv_entry ([.ref (ad 0), .int (jI z9), .int (jI p9)]) (n := 4) (Nat.le_of_ble_eq_true rfl)
  rw [hent, lg_entry_eq]
  generalize (lg_sl ([.ref (ad 0), .int (jI z9), .int (jI p9)]) ++ List.replicate (4 - (lg_sl ([.ref (ad 0), .int (jI z9), .int (jI p9)])).length) Slot.unset).toArray = ls at hl ⊢
  have hl : lv_has ls 4 [(0, .ref (ad 0)), (1, .int (jI z9)), (2, .int (jI p9))] := hl
  refine lv_aload_n hx hb dX5_toppled_0 rfl (lv_at hl 0 rfl) ?_
  refine lv_iload_n hx hb dX5_toppled_1 rfl (lv_at hl 1 rfl) ?_
  refine rm_xcallr (vx_runV (As := [.int (jI z9)]) (rest := []) ⟨hx, hb, hml, hown, hts⟩ (c_X5_heapNumbered l hlf D ty ad ct s.heap.size yc hc yn yM yd yu hy hg hf hC z9 hz9) (cwV 1 hts gX5_toppled_X5_heapNumbered rfl rfl rfl (by decide +kernel) ⟨Nat.le_of_ble_eq_true rfl, Nat.le_of_ble_eq_true rfl⟩) (rm_preVX hK hNw hE hU hW hS hA hC.2.1.1 rfl) rfl rfl hl.1 rfl (lv_room (Nat.le_of_ble_eq_true rfl)) dX5_toppled_2 ⟨Nat.le_of_ble_eq_true rfl, Nat.le_of_ble_eq_true rfl⟩) hW hS hA hout hlocks (fun E ct1 h => ⟨h.1, Or.inl h.2.1, h.2.2⟩) (Nat.le_of_ble_eq_true rfl) (Nat.le_of_ble_eq_true rfl) (fun z_1 ct_1 H locs hq_1 hW hS => ?_)
  obtain ⟨h9, hh1, hh2, hh3, hcc⟩ := hq_1
  have hcc := hcc.symm
  subst hcc hh3 hh1
  have hHh := (hC.2.2.2.2.1 h9 hh2).2
  have hyh := (hC.2.2.2.2.1 h9 hh2).1
  have hYy := hC.2.2.2.1 (hy h9) hyh
  have hyn9 := hyn (hy h9) hyh
  have hb6 := hC.1.1
  have hb20 := hC.1.2
  refine lv_astore_n (lv' := [(3, .ref (ad (200 + 4 * h9))), (0, .ref (ad 0)), (1, .int (jI ((h9 : Nat) : Int))), (2, .int (jI p9))]) hx hb dX5_toppled_5 rfl hl (by decide) rfl (fun ls hl => ?_)
  refine lv_aload_n hx hb dX5_toppled_6 rfl (lv_at hl 0 rfl) ?_
  refine rm_get (ci := 1) (v := .ref (ad (40 + 16 * hy h9))) (C := RX1) (T := TX1) (N := 3) hx hb hts (by decide +kernel) hown hK hW hHh.1 rfl 0 (by decide) (hts (.fieldLink RX5 107 "GrainYard$Heap" "yard" "LGrainYard$Yard;") (by decide +kernel)) (fun _ h9 => h9) rfl dX5_toppled_7 ?_
  refine lv_iload_n hx hb dX5_toppled_10 rfl (lv_at hl 3 rfl) ?_
  refine lv_iconst (v := jI 0) hx hb dX5_toppled_11 rfl ?_
  refine rm_xcallv (vx_runS (As := [.ref (ad (40 + 16 * hy h9)), .int (jI p9), .int (jI 0)]) (rest := []) ⟨hx, hb, hml, hown, hts⟩ (c_X5_requirePlace l hlf D ty ad ct H.size (40 + 16 * hy h9) (yn (hy h9)) (yM (hy h9)) (yd (hy h9)) (yu (hy h9)) p9 0 hp9 ⟨by omega, by omega⟩ hyn9.2 hYy) (va_cwS 3 hts gX5_toppled_X5_requirePlace rfl rfl rfl (by decide +kernel) ⟨Nat.le_of_ble_eq_true rfl, Nat.le_of_ble_eq_true rfl⟩) (rm_preSX hK hNw hE hU hW hS hA) rfl rfl hl.1 rfl (lv_room (Nat.le_of_ble_eq_true rfl)) dX5_toppled_12 ⟨Nat.le_of_ble_eq_true rfl, Nat.le_of_ble_eq_true rfl⟩) hW hS hA hout hlocks (fun E ct1 h => ⟨h.1, Or.inr ⟨h9, rfl, hh2, h.2.1⟩, h.2.2⟩) (Nat.le_of_ble_eq_true rfl) (Nat.le_of_ble_eq_true rfl) (fun ct_2 H locs hq_2 hW hS hz_2 => ?_)
  obtain ⟨hp1, hp2, hcc⟩ := hq_2
  have hcc := hcc.symm
  subst hcc
  obtain ⟨q9, hq9⟩ : ∃ q9 : Nat, p9 = (q9 : Int) := ⟨p9.toNat, by omega⟩
  subst hq9
  refine lv_aload_n hx hb dX5_toppled_15 rfl (lv_at hl 0 rfl) ?_
  refine rm_get (ci := 1) (v := .ref (ad ((200 + 4 * h9) + 2))) (C := RX1) (T := TX1) (N := 3) hx hb hts (by decide +kernel) hown hK hW hHh.1 rfl 2 (by decide) (hts (.fieldLink RX5 129 "GrainYard$Heap" "falls" "[J") (by decide +kernel)) (fun _ h9 => h9) rfl dX5_toppled_16 ?_
  refine lv_iload_n hx hb dX5_toppled_19 rfl (lv_at hl 3 rfl) ?_
  refine rm_lald hx hb hK hW (f := (hf h9)) hHh.2.2 q9 rfl (by omega) (by omega) dX5_toppled_20 ?_
  refine vx_ret ?_
  refine W.widen (k := 2) (n := 12) (by omega) (by omega) ?_
  exact W.lret hx hb hr (fun t ht hw => ⟨⟨_, (((hf h9) q9), ct), rfl, ⟨rfl, ⟨h9, q9, rfl, rfl, hh2, by omega, rfl, rfl⟩⟩, by show rm_W D ad _ _ t.heap; rw [ht]; exact hW⟩, hS.F ht⟩) hS.2.2 dX5_toppled_21
