set_option maxHeartbeats 4000000 in
set_option maxRecDepth 100000 in
theorem c_X5_set (l : Launch) (hlf : l.stackTraces = false) (D : va_G) (ty : Nat → ClassId) (ad : Nat → Nat) (ct : rm_C) (sz : Nat) (yc hc : Nat) (yn : Nat → Nat) (yM : Nat → Nat → Nat → Int) (yd : Nat → Nat → Int) (yu : Nat → Int) (hy : Nat → Nat) (hg hf : Nat → Nat → Int) (hC : ClsAt ty ad ct yc hc yn yM yd yu hy hg hf) (hyn : ∀ y, y < yc → 2 ≤ yn y ∧ yn y ≤ 8) (z9 p9 n9 : Int) (hz9 : r32 z9) (hp9 : r32 p9) (hn9 : r32 n9) : vx_Met l yX5_set wsX5_set ({ frames := 7, cells := 3, slots := 18, locals := 104 }) (rm_PX D ty ad ct sz [.ref (ad 0), .int (jI z9), .int (jI p9), .int (jI n9)]) (rm_Qi D ad ct sz (fun z ct1 => ∃ h9 q9 : Nat, z9 = (h9 : Int) ∧ p9 = (q9 : Int) ∧ h9 < hc ∧ 1 ≤ q9 ∧ q9 < yn (hy h9) ∧ 0 ≤ n9 ∧ n9 ≤ 100000 ∧ z = hg h9 q9 ∧ ClsAt ty ad ct1 yc hc yn yM yd yu hy (us hg h9 (ub (hg h9) q9 n9)) hf)) (rm_XC D ad ct sz (fun E ct1 => (E = xNSE ∧ ((z9 < 0 ∨ (hc : Int) ≤ z9) ∨ ∃ h9 : Nat, z9 = (h9 : Int) ∧ h9 < hc ∧ (p9 < 1 ∨ (yn (hy h9) : Int) ≤ p9)) ∧ ct1 = ct) ∨ (E = xIAE ∧ (∃ h9 q9 : Nat, z9 = (h9 : Int) ∧ p9 = (q9 : Int) ∧ h9 < hc ∧ 1 ≤ q9 ∧ q9 < yn (hy h9)) ∧ (n9 < 0 ∨ 100000 < n9) ∧ ct1 = ct))) 3 18 (rm_A ad ct sz) := by
  refine vx_ofW (cc := cX5_set) (maxL := 6) (ret := (some .int)) (by decide) rfl ?_
  intro p e s m args below meth c s₁ B hml hout hv
  obtain ⟨hargs, ⟨hsz, hW, hK, hNw⟩, hE, hU⟩ := hv
  have hx := B.exec
  have hb := B.bytes
  have hr := B.returns
  have hts := atoms_spec (ws := wsX5_set) B.pre
  have hown : s.vm.findClass RX5 = some m.cls := findClass_of_methodNamed B.named
  have hlocks := B.notSynchronized
  subst hsz
  have hW := hW.own (sz := s.heap.size)
  have hA : ∀ q : Nat, s.heap.size ≤ q → rm_A ad ct s.heap.size q := fun q h => Or.inr h
  have hS : va_S (rm_A ad ct s.heap.size) s.heap s.heap [] := va_S.rf
  have hent : entryFrame m args 6 = entryFrame m ([.ref (ad 0), .int (jI z9), .int (jI p9), .int (jI n9)] : List Value).toArray 6 := by rw [hargs]
  have hl := lv_entry ([.ref (ad 0), .int (jI z9), .int (jI p9), .int (jI n9)]) (n := 6) (Nat.le_of_ble_eq_true rfl)
  rw [hent, lg_entry_eq]
  generalize (lg_sl ([.ref (ad 0), .int (jI z9), .int (jI p9), .int (jI n9)]) ++ List.replicate (6 - (lg_sl ([.ref (ad 0), .int (jI z9), .int (jI p9), .int (jI n9)])).length) Slot.unset).toArray = ls at hl ⊢
  have hl : lv_has ls 6 [(0, .ref (ad 0)), (1, .int (jI z9)), (2, .int (jI p9)), (3, .int (jI n9))] := hl
  refine lv_aload_n hx hb dX5_set_0 rfl (lv_at hl 0 rfl) ?_
  refine lv_iload_n hx hb dX5_set_1 rfl (lv_at hl 1 rfl) ?_
  refine rm_xcallr (vx_runV (As := [.int (jI z9)]) (rest := []) ⟨hx, hb, hml, hown, hts⟩ (c_X5_heapNumbered l hlf D ty ad ct s.heap.size yc hc yn yM yd yu hy hg hf hC z9 hz9) (cwV 1 hts gX5_set_X5_heapNumbered rfl rfl rfl (by decide +kernel) ⟨Nat.le_of_ble_eq_true rfl, Nat.le_of_ble_eq_true rfl⟩) (rm_preVX hK hNw hE hU hW hS hA hC.2.1.1 rfl) rfl rfl hl.1 rfl (lv_room (Nat.le_of_ble_eq_true rfl)) dX5_set_2 ⟨Nat.le_of_ble_eq_true rfl, Nat.le_of_ble_eq_true rfl⟩) hW hS hA hout hlocks (fun E ct1 h => Or.inl ⟨h.1, Or.inl h.2.1, h.2.2⟩) (Nat.le_of_ble_eq_true rfl) (Nat.le_of_ble_eq_true rfl) (fun z_1 ct_1 H locs hq_1 hW hS => ?_)
  obtain ⟨h9, hh1, hh2, hh3, hcc⟩ := hq_1
  have hcc := hcc.symm
  subst hcc hh3 hh1
  have hHh := (hC.2.2.2.2.1 h9 hh2).2
  have hyh := (hC.2.2.2.2.1 h9 hh2).1
  have hYy := hC.2.2.2.1 (hy h9) hyh
  have hyn9 := hyn (hy h9) hyh
  have hb6 := hC.1.1
  have hb20 := hC.1.2
  refine lv_astore (lv' := [(4, .ref (ad (200 + 4 * h9))), (0, .ref (ad 0)), (1, .int (jI ((h9 : Nat) : Int))), (2, .int (jI p9)), (3, .int (jI n9))]) hx hb dX5_set_5 hl (by decide) rfl (fun ls hl => ?_)
  refine lv_aload hx hb dX5_set_7 (lv_at hl 0 rfl) ?_
  refine rm_get (ci := 1) (v := .ref (ad (40 + 16 * hy h9))) (C := RX1) (T := TX1) (N := 3) hx hb hts (by decide +kernel) hown hK hW hHh.1 rfl 0 (by decide) (hts (.fieldLink RX5 107 "GrainYard$Heap" "yard" "LGrainYard$Yard;") (by decide +kernel)) (fun _ h9 => h9) rfl dX5_set_9 ?_
  refine lv_iload_n hx hb dX5_set_12 rfl (lv_at hl 3 rfl) ?_
  refine lv_iconst (v := jI 1) hx hb dX5_set_13 rfl ?_
  refine rm_xcallv (vx_runS (As := [.ref (ad (40 + 16 * hy h9)), .int (jI p9), .int (jI 1)]) (rest := []) ⟨hx, hb, hml, hown, hts⟩ (c_X5_requirePlace l hlf D ty ad ct H.size (40 + 16 * hy h9) (yn (hy h9)) (yM (hy h9)) (yd (hy h9)) (yu (hy h9)) p9 1 hp9 ⟨by omega, by omega⟩ hyn9.2 hYy) (va_cwS 3 hts gX5_set_X5_requirePlace rfl rfl rfl (by decide +kernel) ⟨Nat.le_of_ble_eq_true rfl, Nat.le_of_ble_eq_true rfl⟩) (rm_preSX hK hNw hE hU hW hS hA) rfl rfl hl.1 rfl (lv_room (Nat.le_of_ble_eq_true rfl)) dX5_set_14 ⟨Nat.le_of_ble_eq_true rfl, Nat.le_of_ble_eq_true rfl⟩) hW hS hA hout hlocks (fun E ct1 h => Or.inl ⟨h.1, Or.inr ⟨h9, rfl, hh2, h.2.1⟩, h.2.2⟩) (Nat.le_of_ble_eq_true rfl) (Nat.le_of_ble_eq_true rfl) (fun ct_2 H locs hq_2 hW hS hz_2 => ?_)
  obtain ⟨hp1, hp2, hcc⟩ := hq_2
  have hcc := hcc.symm
  subst hcc
  obtain ⟨q9, hq9⟩ : ∃ q9 : Nat, p9 = (q9 : Int) := ⟨p9.toNat, by omega⟩
  subst hq9
  refine lv_iload_n hx hb dX5_set_17 rfl (lv_at hl 4 rfl) ?_
  refine rm_if_lt (tgt := 27) hx hb ⟨by omega, by omega⟩ dX5_set_18 (by decide) (fun hc_3 => ?_) (fun hc_3 => ?_)
  · skip
    exact rm_throw (cls := "java/lang/IllegalArgumentException") (text := "grains are 0 to 100,000") (ct := ct) hx hb hlf hown (by decide +kernel) (hts (.classLink RX5 112 "java/lang/IllegalArgumentException") (by decide +kernel)) (hts (.initialized "java/lang/IllegalArgumentException") (by decide +kernel)) (fun w hw => hts w (by first | exact List.mem_cons_of_mem _ (List.mem_append_right _ hw) | exact List.mem_cons_of_mem _ (List.mem_append_left _ (List.mem_append_right _ hw)))) (by decide +kernel) (by decide +kernel) (by decide +kernel) hE hU hW hS (hl.1.trans hml.symm) dX5_set_27 dX5_set_30 dX5_set_31 dX5_set_33 dX5_set_36 hout (Nat.le_of_ble_eq_true rfl) (Nat.le_of_ble_eq_true rfl) (Nat.le_of_ble_eq_true rfl) (Nat.le_of_ble_eq_true rfl) hlocks (Or.inr ⟨rfl, ⟨h9, q9, rfl, rfl, hh2, by omega, by omega⟩, Or.inl (by omega), rfl⟩) (Nat.le_of_ble_eq_true rfl) (Nat.le_of_ble_eq_true rfl)
  · skip
    refine lv_iload_n hx hb dX5_set_21 rfl (lv_at hl 4 rfl) ?_
    refine rm_ldc (z := 100000) hx hb hown (hts (.constant RX5 111 (100000)) (by decide +kernel)) (by decide) dX5_set_22 ?_
    refine rm_icmp_le (tgt := 37) hx hb ⟨by omega, by omega⟩ ⟨by omega, by omega⟩ dX5_set_24 (by decide) (fun hc_4 => ?_) (fun hc_4 => ?_)
    · skip
      refine lv_aload hx hb dX5_set_37 (lv_at hl 0 rfl) ?_
      refine rm_get (ci := 1) (v := .ref (ad ((200 + 4 * h9) + 1))) (C := RX1) (T := TX1) (N := 3) hx hb hts (by decide +kernel) hown hK hW hHh.1 rfl 1 (by decide) (hts (.fieldLink RX5 117 "GrainYard$Heap" "grains" "[J") (by decide +kernel)) (fun _ h9 => h9) rfl dX5_set_39 ?_
      refine lv_iload_n hx hb dX5_set_42 rfl (lv_at hl 3 rfl) ?_
      refine rm_lald hx hb hK hW (f := (hg h9)) hHh.2.1 q9 rfl (by omega) (by omega) dX5_set_43 ?_
      refine rm_l2i hx hb dX5_set_44 ?_
      refine lv_istore (lv' := [(5, .int (jI ((hg h9) q9))), (4, .ref (ad (200 + 4 * h9))), (0, .ref (ad 0)), (1, .int (jI ((h9 : Nat) : Int))), (2, .int (jI ((q9 : Nat) : Int))), (3, .int (jI n9))]) hx hb dX5_set_45 hl (by decide) rfl (fun ls hl => ?_)
      refine lv_aload hx hb dX5_set_47 (lv_at hl 1 rfl) ?_
      refine rm_get (ci := 1) (v := .ref (ad ((200 + 4 * h9) + 1))) (C := RX1) (T := TX1) (N := 3) hx hb hts (by decide +kernel) hown hK hW hHh.1 rfl 1 (by decide) (hts (.fieldLink RX5 117 "GrainYard$Heap" "grains" "[J") (by decide +kernel)) (fun _ h9 => h9) rfl dX5_set_49 ?_
      refine lv_iload_n hx hb dX5_set_52 rfl (lv_at hl 4 rfl) ?_
      refine lv_iload_n hx hb dX5_set_53 rfl (lv_at hl 5 rfl) ?_
      refine rm_i2l hx hb dX5_set_54 ⟨by omega, by omega⟩ ?_
      refine rm_last hx hb hK hW hS (f := (hg h9)) hHh.2.1 q9 rfl (by omega) (by omega) dX5_set_55 (fun H locs ct_5 hs_5 ho_5 hW hS hz_5 => ?_)
      have hof_5 : ∀ q, q ≠ ((200 + 4 * h9) + 1) → ct_5 q = ct q := fun q h0_5 => (ho_5 q h0_5).trans rfl
      refine lv_iload hx hb dX5_set_56 (lv_at hl 0 rfl) ?_
      have hcl := hC.heapTo hh2 hs_5 ((hof_5 ((200 + 4 * h9) + 2) (by omega)).trans hHh.2.2) (fun q h1 h2 h3 => hof_5 q h1) (hC.2.2.1.kept (fun q a b => hof_5 q (by omega)))
      rw [us_self] at hcl
      refine vx_ret ?_
      refine W.widen (k := 3) (n := 18) (by omega) (by omega) ?_
      exact W.iret hx hb hr (fun t ht hw => ⟨⟨_, (((hg h9) q9), ct_5), rfl, ⟨rfl, ⟨h9, q9, rfl, rfl, hh2, by omega, by omega, by omega, by omega, rfl, hcl⟩⟩, by show rm_W D ad _ _ t.heap; rw [ht]; exact hW⟩, hS.F ht⟩) hS.2.2 dX5_set_58
    · skip
      exact rm_throw (cls := "java/lang/IllegalArgumentException") (text := "grains are 0 to 100,000") (ct := ct) hx hb hlf hown (by decide +kernel) (hts (.classLink RX5 112 "java/lang/IllegalArgumentException") (by decide +kernel)) (hts (.initialized "java/lang/IllegalArgumentException") (by decide +kernel)) (fun w hw => hts w (by first | exact List.mem_cons_of_mem _ (List.mem_append_right _ hw) | exact List.mem_cons_of_mem _ (List.mem_append_left _ (List.mem_append_right _ hw)))) (by decide +kernel) (by decide +kernel) (by decide +kernel) hE hU hW hS (hl.1.trans hml.symm) dX5_set_27 dX5_set_30 dX5_set_31 dX5_set_33 dX5_set_36 hout (Nat.le_of_ble_eq_true rfl) (Nat.le_of_ble_eq_true rfl) (Nat.le_of_ble_eq_true rfl) (Nat.le_of_ble_eq_true rfl) hlocks (Or.inr ⟨rfl, ⟨h9, q9, rfl, rfl, hh2, by omega, by omega⟩, Or.inr (by omega), rfl⟩) (Nat.le_of_ble_eq_true rfl) (Nat.le_of_ble_eq_true rfl)
set_option maxHeartbeats 4000000 in
set_option maxRecDepth 100000 in
theorem c_X5_settle (l : Launch) (hlf : l.stackTraces = false) (D : va_G) (ty : Nat → ClassId) (ad : Nat → Nat) (ct : rm_C) (sz : Nat) (yc hc : Nat) (yn : Nat → Nat) (yM : Nat → Nat → Nat → Int) (yd : Nat → Nat → Int) (yu : Nat → Int) (hy : Nat → Nat) (hg hf : Nat → Nat → Int) (hC : ClsAt ty ad ct yc hc yn yM yd yu hy hg hf) (hyn : ∀ y, y < yc → 2 ≤ yn y ∧ yn y ≤ 8) (hyM : ∀ y, y < yc → ∀ i j, 0 ≤ yM y i j ∧ yM y i j ≤ 3) (hyd : ∀ y, y < yc → ∀ i, i < 8 → 0 ≤ yd y i ∧ yd y i ≤ 21) (hgr : ∀ h, h < hc → ∀ q, 1 ≤ q → q < yn (hy h) → 0 ≤ hg h q ∧ hg h q ≤ 1000000000) (hst : ∀ h, h < hc → yst (yn (hy h)) (yM (hy h)) ∧ (∀ i, i < 8 → yd (hy h) i = dg (yn (hy h)) (yM (hy h)) i) ∧ psum (yn (hy h)) (hg h) ≤ 900000000) (z9 : Int) (hz9 : r32 z9) : vx_Met l yX5_settle wsX5_settle ({ frames := 7, cells := 1, slots := 6, locals := 104 }) (rm_PX D ty ad ct sz [.ref (ad 0), .int (jI z9)]) (rm_Ql D ad ct sz (fun z ct1 => ∃ h9 : Nat, z9 = (h9 : Int) ∧ h9 < hc ∧ ∃ v, stl (yn (hy h9)) (yM (hy h9)) (hg h9) v ∧ z = gs v (yn (hy h9)) ∧ ClsAt ty ad ct1 yc hc yn yM yd yu hy (us hg h9 (gaf (yn (hy h9)) (yM (hy h9)) (hg h9) v)) (us hf h9 v))) (rm_XC D ad ct sz (fun E ct1 => E = xNSE ∧ (z9 < 0 ∨ (hc : Int) ≤ z9) ∧ ct1 = ct)) 1 6 (rm_A ad ct sz) := by
  refine vx_ofW (cc := cX5_settle) (maxL := 2) (ret := (some .long)) (by decide) rfl ?_
  intro p e s m args below meth c s₁ B hml hout hv
  obtain ⟨hargs, ⟨hsz, hW, hK, hNw⟩, hE, hU⟩ := hv
  have hx := B.exec
  have hb := B.bytes
  have hr := B.returns
  have hts := atoms_spec (ws := wsX5_settle) B.pre
  have hown : s.vm.findClass RX5 = some m.cls := findClass_of_methodNamed B.named
  have hlocks := B.notSynchronized
  subst hsz
  have hW := hW.own (sz := s.heap.size)
  have hA : ∀ q : Nat, s.heap.size ≤ q → rm_A ad ct s.heap.size q := fun q h => Or.inr h
  have hS : va_S (rm_A ad ct s.heap.size) s.heap s.heap [] := va_S.rf
  have hent : entryFrame m args 2 = entryFrame m ([.ref (ad 0), .int (jI z9)] : List Value).toArray 2 := by rw [hargs]
  have hl := lv_entry ([.ref (ad 0), .int (jI z9)]) (n := 2) (Nat.le_of_ble_eq_true rfl)
  rw [hent, lg_entry_eq]
  generalize (lg_sl ([.ref (ad 0), .int (jI z9)]) ++ List.replicate (2 - (lg_sl ([.ref (ad 0), .int (jI z9)])).length) Slot.unset).toArray = ls at hl ⊢
  have hl : lv_has ls 2 [(0, .ref (ad 0)), (1, .int (jI z9))] := hl
  refine lv_aload_n hx hb dX5_settle_0 rfl (lv_at hl 0 rfl) ?_
  refine lv_iload_n hx hb dX5_settle_1 rfl (lv_at hl 1 rfl) ?_
  refine rm_xcallr (vx_runV (As := [.int (jI z9)]) (rest := []) ⟨hx, hb, hml, hown, hts⟩ (c_X5_heapNumbered l hlf D ty ad ct s.heap.size yc hc yn yM yd yu hy hg hf hC z9 hz9) (cwV 1 hts gX5_settle_X5_heapNumbered rfl rfl rfl (by decide +kernel) ⟨Nat.le_of_ble_eq_true rfl, Nat.le_of_ble_eq_true rfl⟩) (rm_preVX hK hNw hE hU hW hS hA hC.2.1.1 rfl) rfl rfl hl.1 rfl (lv_room (Nat.le_of_ble_eq_true rfl)) dX5_settle_2 ⟨Nat.le_of_ble_eq_true rfl, Nat.le_of_ble_eq_true rfl⟩) hW hS hA hout hlocks (fun E ct1 h => h) (Nat.le_of_ble_eq_true rfl) (Nat.le_of_ble_eq_true rfl) (fun z_1 ct_1 H locs hq_1 hW hS => ?_)
  obtain ⟨h9, hh1, hh2, hh3, hcc⟩ := hq_1
  have hcc := hcc.symm
  subst hcc hh3 hh1
  have hHh := (hC.2.2.2.2.1 h9 hh2).2
  have hyh := (hC.2.2.2.2.1 h9 hh2).1
  have hYy := hC.2.2.2.1 (hy h9) hyh
  have hyn9 := hyn (hy h9) hyh
  have hb6 := hC.1.1
  have hb20 := hC.1.2
  have hs9 := hst h9 hh2
  have hg9 : ∀ q, 1 ≤ q → q < yn (hy h9) → 0 ≤ hg h9 q := fun q a b => (hgr h9 hh2 q a b).1
  refine rm_calll (va_runV (As := []) (rest := []) ⟨hx, hb, hml, hown, hts⟩ (c_X1_calm l D ty ad ct H.size (40 + 16 * hy h9) (yn (hy h9)) (yM (hy h9)) (yd (hy h9)) (yu (hy h9)) (200 + 4 * h9) (hg h9) (hf h9) hHh (by omega) hs9.1.1 hYy hs9.2.1 hs9.1.2.1 (hyd _ hyh) hg9 (by omega) (hs9.1.2.2 _ hg9 (by omega))) (cwV 0 hts gX5_settle_X1_calm rfl rfl rfl (by decide +kernel) ⟨Nat.le_of_ble_eq_true rfl, Nat.le_of_ble_eq_true rfl⟩) (rm_preV hK hNw hW hHh.1 rfl) rfl rfl hl.1 rfl (lv_room (Nat.le_of_ble_eq_true rfl)) dX5_settle_5 ⟨Nat.le_of_ble_eq_true rfl, Nat.le_of_ble_eq_true rfl⟩) hW hS hA (fun z_2 ct_2 H locs hq_2 hW hS => ?_)
  obtain ⟨v, hv1, hv2, hq1, hq2⟩ := hq_2
  have ho_2 : ∀ q, q ≠ ((200 + 4 * h9) + 1) → q ≠ ((200 + 4 * h9) + 2) → ct_2 q = ct q := hq2
  have hof_2 : ∀ q, q ≠ ((200 + 4 * h9) + 1) → q ≠ ((200 + 4 * h9) + 2) → ct_2 q = ct q := fun q h0_2 h1_2 => (ho_2 q h0_2 h1_2).trans rfl
  have hm0_2 : ct_2 ((200 + 4 * h9) + 1) = some (rl ty 8 (gaf (yn (hy h9)) (yM (hy h9)) (hg h9) v)) := hq1.2.1
  have hm1_2 : ct_2 ((200 + 4 * h9) + 2) = some (rl ty 8 v) := hq1.2.2
  have hcl := hC.heapTo hh2 hm0_2 hm1_2 (fun q h1 h2 h3 => hof_2 q h1 h2) (hC.2.2.1.kept (fun q a b => hof_2 q (by omega) (by omega)))
  refine vx_ret ?_
  refine W.widen (k := 1) (n := 6) (by omega) (by omega) ?_
  exact W.lret hx hb hr (fun t ht hw => ⟨⟨_, (z_2, ct_2), rfl, ⟨rfl, ⟨h9, rfl, hh2, v, hv1, hv2, hcl⟩⟩, by show rm_W D ad _ _ t.heap; rw [ht]; exact hW⟩, hS.F ht⟩) hS.2.2 dX5_settle_8
