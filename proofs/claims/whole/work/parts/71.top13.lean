def brn (n : Nat) (M : Nat → Nat → Int) (d g : Nat → Int) (z : Int) : Prop := (z = 0 ∧ ∃ q, 1 ≤ q ∧ q < n ∧ d q ≤ g q) ∨ ((∀ q, 1 ≤ q → q < n → g q < d q) ∧ ((z = 1 ∧ ∀ q, q < n → bit n M d g (n - 1) q ≠ -1) ∨ (z = 0 ∧ ∃ q, q < n ∧ bit n M d g (n - 1) q = -1)))
theorem brn_01 {n : Nat} {M : Nat → Nat → Int} {d g : Nat → Int} {z : Int} (h : brn n M d g z) : z = 0 ∨ z = 1 := by
  rcases h with h | ⟨-, h | h⟩
  · exact Or.inl h.1
  · exact Or.inr h.1
  · exact Or.inl h.1
theorem brn_of {n : Nat} {M : Nat → Nat → Int} {d g : Nat → Int} {z : Int} {rd1 : Nat → Int} (h : (z = 0 ∧ (∃ q, 1 ≤ q ∧ q < n ∧ d q ≤ g q) ∧ rd1 = fun _ => -1) ∨ ((∀ q, 1 ≤ q → q < n → g q < d q) ∧ rd1 = bit n M d g (n - 1) ∧ ((z = 1 ∧ ∀ q, q < n → rd1 q ≠ -1) ∨ (z = 0 ∧ ∃ q, q < n ∧ rd1 q = -1)))) : brn n M d g z := by
  rcases h with ⟨h1, h2, h3⟩ | ⟨h1, h2, h3⟩
  · exact Or.inl ⟨h1, h2⟩
  · subst h2; exact Or.inr ⟨h1, h3⟩
set_option maxHeartbeats 4000000 in
set_option maxRecDepth 100000 in
theorem c_X5_count (l : Launch) (hlf : l.stackTraces = false) (D : va_G) (ty : Nat → ClassId) (ad : Nat → Nat) (ct : rm_C) (sz : Nat) (yc hc : Nat) (yn : Nat → Nat) (yM : Nat → Nat → Nat → Int) (yd : Nat → Nat → Int) (yu : Nat → Int) (hy : Nat → Nat) (hg hf : Nat → Nat → Int) (hC : ClsAt ty ad ct yc hc yn yM yd yu hy hg hf) (w9 : Int) (hw9 : r32 w9) : vx_Met l yX5_count wsX5_count ({ frames := 6, cells := 1, slots := 6, locals := 82 }) (rm_PX D ty ad ct sz [.ref (ad 0), .int (jI w9)]) (rm_Qi D ad ct sz (fun z ct1 => ((w9 = 0 ∧ z = (yc : Int)) ∨ (w9 = 1 ∧ z = (hc : Int))) ∧ ct1 = ct)) (rm_XC D ad ct sz (fun E ct1 => E = xNSE ∧ (w9 ≠ 0 ∧ w9 ≠ 1) ∧ ct1 = ct)) 1 6 (rm_A ad ct sz) := by
  refine vx_ofW (cc := cX5_count) (maxL := 2) (ret := (some .int)) (by decide) rfl ?_
  intro p e s m args below meth c s₁ B hml hout hv
  obtain ⟨hargs, ⟨hsz, hW, hK, hNw⟩, hE, hU⟩ := hv
  have hx := B.exec
  have hb := B.bytes
  have hr := B.returns
  have hts := atoms_spec (ws := wsX5_count) B.pre
  have hown : s.vm.findClass RX5 = some m.cls := findClass_of_methodNamed B.named
  have hlocks := B.notSynchronized
  subst hsz
  have hW := hW.own (sz := s.heap.size)
  have hA : ∀ q : Nat, s.heap.size ≤ q → rm_A ad ct s.heap.size q := fun q h => Or.inr h
  have hS : va_S (rm_A ad ct s.heap.size) s.heap s.heap [] := va_S.rf
  have hent : entryFrame m args 2 = entryFrame m ([.ref (ad 0), .int (jI w9)] : List Value).toArray 2 := by rw [hargs]
  have hl := lv_entry ([.ref (ad 0), .int (jI w9)]) (n := 2) (Nat.le_of_ble_eq_true rfl)
  rw [hent, lg_entry_eq]
  generalize (lg_sl ([.ref (ad 0), .int (jI w9)]) ++ List.replicate (2 - (lg_sl ([.ref (ad 0), .int (jI w9)])).length) Slot.unset).toArray = ls at hl ⊢
  have hl : lv_has ls 2 [(0, .ref (ad 0)), (1, .int (jI w9))] := hl
  refine lv_iload_n hx hb dX5_count_0 rfl (lv_at hl 1 rfl) ?_
  rcases (show w9 = 0 ∨ w9 = 1 ∨ (w9 ≠ 0 ∧ w9 ≠ 1) by omega) with hw | hw | hw
  · skip
    subst hw
    refine rm_look (off := 27) (tgt := 28) hx hb hw9 dX5_count_1 (by decide) rfl (by decide) ?_
    refine lv_aload_n hx hb dX5_count_28 rfl (lv_at hl 0 rfl) ?_
    refine rm_get (ci := 5) (v := .int (jI ((yc : Nat) : Int))) (C := RX5) (T := TX5) (N := 7) hx hb hts (by decide +kernel) hown hK hW hC.2.1.1 rfl 2 (by decide) (hts (.fieldLink RX5 21 "GrainYard" "yardCount" "I") (by decide +kernel)) (fun _ h9 => h9) rfl dX5_count_29 ?_
    refine vx_ret ?_
    refine W.widen (k := 1) (n := 6) (by omega) (by omega) ?_
    exact W.iret hx hb hr (fun t ht hw => ⟨⟨_, (((yc : Nat) : Int), ct), rfl, ⟨rfl, ⟨Or.inl ⟨rfl, rfl⟩, rfl⟩⟩, by show rm_W D ad _ _ t.heap; rw [ht]; exact hW⟩, hS.F ht⟩) hS.2.2 dX5_count_32
  · skip
    subst hw
    refine rm_look (off := 32) (tgt := 33) hx hb hw9 dX5_count_1 (by decide) rfl (by decide) ?_
    refine lv_aload_n hx hb dX5_count_33 rfl (lv_at hl 0 rfl) ?_
    refine rm_get (ci := 5) (v := .int (jI ((hc : Nat) : Int))) (C := RX5) (T := TX5) (N := 7) hx hb hts (by decide +kernel) hown hK hW hC.2.1.1 rfl 3 (by decide) (hts (.fieldLink RX5 25 "GrainYard" "heapCount" "I") (by decide +kernel)) (fun _ h9 => h9) rfl dX5_count_34 ?_
    refine vx_ret ?_
    refine W.widen (k := 1) (n := 6) (by omega) (by omega) ?_
    exact W.iret hx hb hr (fun t ht hw => ⟨⟨_, (((hc : Nat) : Int), ct), rfl, ⟨rfl, ⟨Or.inr ⟨rfl, rfl⟩, rfl⟩⟩, by show rm_W D ad _ _ t.heap; rw [ht]; exact hW⟩, hS.F ht⟩) hS.2.2 dX5_count_37
  · skip
    refine rm_look (off := 37) (tgt := 38) hx hb hw9 dX5_count_1 (by decide) (by show Op.lookupswitch.offset [_, _] _ w9 = _; rw [Op.lookupswitch.offset_cons, if_neg (fun h => hw.1 h.symm), Op.lookupswitch.offset_cons, if_neg (fun h => hw.2 h.symm), Op.lookupswitch.offset_nil]) (by decide) ?_
    exact rm_throwN (cls := "java/util/NoSuchElementException") (text := "no such count") (ct := ct) hx hb hlf hown (by decide +kernel) (hts (.classLink RX5 91 "java/util/NoSuchElementException") (by decide +kernel)) (hts (.initialized "java/util/NoSuchElementException") (by decide +kernel)) (fun w hw => hts w (by first | exact List.mem_cons_of_mem _ (List.mem_append_right _ hw) | exact List.mem_cons_of_mem _ (List.mem_append_left _ (List.mem_append_right _ hw)))) (by decide +kernel) (by decide +kernel) (by decide +kernel) hE hU hW hS (hl.1.trans hml.symm) dX5_count_38 dX5_count_41 dX5_count_42 dX5_count_44 dX5_count_47 hout (Nat.le_of_ble_eq_true rfl) (Nat.le_of_ble_eq_true rfl) (Nat.le_of_ble_eq_true rfl) (Nat.le_of_ble_eq_true rfl) hlocks (⟨rfl, hw, rfl⟩) (Nat.le_of_ble_eq_true rfl) (Nat.le_of_ble_eq_true rfl)
set_option maxHeartbeats 4000000 in
set_option maxRecDepth 100000 in
theorem c_X5_is (l : Launch) (hlf : l.stackTraces = false) (D : va_G) (ty : Nat → ClassId) (ad : Nat → Nat) (ct : rm_C) (sz : Nat) (yc hc : Nat) (yn : Nat → Nat) (yM : Nat → Nat → Nat → Int) (yd : Nat → Nat → Int) (yu : Nat → Int) (hy : Nat → Nat) (hg hf : Nat → Nat → Int) (hC : ClsAt ty ad ct yc hc yn yM yd yu hy hg hf) (hyn : ∀ y, y < yc → 2 ≤ yn y ∧ yn y ≤ 8) (hyM : ∀ y, y < yc → ∀ i j, 0 ≤ yM y i j ∧ yM y i j ≤ 3) (hyd : ∀ y, y < yc → ∀ i, i < 8 → 0 ≤ yd y i ∧ yd y i ≤ 21) (hgr : ∀ h, h < hc → ∀ q, 1 ≤ q → q < yn (hy h) → 0 ≤ hg h q ∧ hg h q ≤ 1000000000) (z9 w9 : Int) (hz9 : r32 z9) (hw9 : r32 w9) : vx_Met l yX5_is wsX5_is ({ frames := 7, cells := 2, slots := 12, locals := 104 }) (rm_PX D ty ad ct sz [.ref (ad 0), .int (jI z9), .int (jI w9)]) (rm_Qi D ad ct sz (fun z ct1 => ∃ h9 : Nat, z9 = (h9 : Int) ∧ h9 < hc ∧ ClsAt ty ad ct1 yc hc yn yM yd yu hy hg hf ∧ ((w9 = 0 ∧ ((z = 1 ∧ ∀ q, 1 ≤ q → q < yn (hy h9) → hg h9 q < yd (hy h9) q) ∨ (z = 0 ∧ ∃ q, 1 ≤ q ∧ q < yn (hy h9) ∧ yd (hy h9) q ≤ hg h9 q))) ∨ (w9 = 1 ∧ brn (yn (hy h9)) (yM (hy h9)) (yd (hy h9)) (hg h9) z)))) (rm_XC D ad ct sz (fun E ct1 => E = xNSE ∧ ((z9 < 0 ∨ (hc : Int) ≤ z9) ∨ (∃ h9 : Nat, z9 = (h9 : Int) ∧ h9 < hc) ∧ (w9 ≠ 0 ∧ w9 ≠ 1)) ∧ ct1 = ct)) 2 12 (rm_A ad ct sz) := by
  refine vx_ofW (cc := cX5_is) (maxL := 4) (ret := (some .boolean)) (by decide) rfl ?_
  intro p e s m args below meth c s₁ B hml hout hv
  obtain ⟨hargs, ⟨hsz, hW, hK, hNw⟩, hE, hU⟩ := hv
  have hx := B.exec
  have hb := B.bytes
  have hr := B.returns
  have hts := atoms_spec (ws := wsX5_is) B.pre
  have hown : s.vm.findClass RX5 = some m.cls := findClass_of_methodNamed B.named
  have hlocks := B.notSynchronized
  subst hsz
  have hW := hW.own (sz := s.heap.size)
  have hA : ∀ q : Nat, s.heap.size ≤ q → rm_A ad ct s.heap.size q := fun q h => Or.inr h
  have hS : va_S (rm_A ad ct s.heap.size) s.heap s.heap [] := va_S.rf
  have hent : entryFrame m args 4 = entryFrame m ([.ref (ad 0), .int (jI z9), .int (jI w9)] : List Value).toArray 4 := by rw [hargs]
  have hl := lv_entry ([.ref (ad 0), .int (jI z9), .int (jI w9)]) (n := 4) (Nat.le_of_ble_eq_true rfl)
  rw [hent, lg_entry_eq]
  generalize (lg_sl ([.ref (ad 0), .int (jI z9), .int (jI w9)]) ++ List.replicate (4 - (lg_sl ([.ref (ad 0), .int (jI z9), .int (jI w9)])).length) Slot.unset).toArray = ls at hl ⊢
  have hl : lv_has ls 4 [(0, .ref (ad 0)), (1, .int (jI z9)), (2, .int (jI w9))] := hl
  refine lv_aload_n hx hb dX5_is_0 rfl (lv_at hl 0 rfl) ?_
  refine lv_iload_n hx hb dX5_is_1 rfl (lv_at hl 1 rfl) ?_
  refine rm_xcallr (vx_runV (As := [.int (jI z9)]) (rest := []) ⟨hx, hb, hml, hown, hts⟩ (c_X5_heapNumbered l hlf D ty ad ct s.heap.size yc hc yn yM yd yu hy hg hf hC z9 hz9) (cwV 1 hts gX5_is_X5_heapNumbered rfl rfl rfl (by decide +kernel) ⟨Nat.le_of_ble_eq_true rfl, Nat.le_of_ble_eq_true rfl⟩) (rm_preVX hK hNw hE hU hW hS hA hC.2.1.1 rfl) rfl rfl hl.1 rfl (lv_room (Nat.le_of_ble_eq_true rfl)) dX5_is_2 ⟨Nat.le_of_ble_eq_true rfl, Nat.le_of_ble_eq_true rfl⟩) hW hS hA hout hlocks (fun E ct1 h => ⟨h.1, Or.inl h.2.1, h.2.2⟩) (Nat.le_of_ble_eq_true rfl) (Nat.le_of_ble_eq_true rfl) (fun z_1 ct_1 H locs hq_1 hW hS => ?_)
  obtain ⟨h9, hh1, hh2, hh3, hcc⟩ := hq_1
  have hcc := hcc.symm
  subst hcc hh3 hh1
  have hHh := (hC.2.2.2.2.1 h9 hh2).2
  have hyh := (hC.2.2.2.2.1 h9 hh2).1
  have hYy := hC.2.2.2.1 (hy h9) hyh
  have hyn9 := hyn (hy h9) hyh
  have hb6 := hC.1.1
  have hb20 := hC.1.2
  obtain ⟨rd, hFi⟩ := hC.2.2.1.1
  refine lv_astore_n (lv' := [(3, .ref (ad (200 + 4 * h9))), (0, .ref (ad 0)), (1, .int (jI ((h9 : Nat) : Int))), (2, .int (jI w9))]) hx hb dX5_is_5 rfl hl (by decide) rfl (fun ls hl => ?_)
  refine lv_iload_n hx hb dX5_is_6 rfl (lv_at hl 3 rfl) ?_
  rcases (show w9 = 0 ∨ w9 = 1 ∨ (w9 ≠ 0 ∧ w9 ≠ 1) by omega) with hw | hw | hw
  · skip
    subst hw
    refine rm_look (off := 25) (tgt := 32) hx hb hw9 dX5_is_7 (by decide) rfl (by decide) ?_
    refine lv_aload_n hx hb dX5_is_32 rfl (lv_at hl 0 rfl) ?_
    refine rm_get (ci := 1) (v := .ref (ad (40 + 16 * hy h9))) (C := RX1) (T := TX1) (N := 3) hx hb hts (by decide +kernel) hown hK hW hHh.1 rfl 0 (by decide) (hts (.fieldLink RX5 107 "GrainYard$Heap" "yard" "LGrainYard$Yard;") (by decide +kernel)) (fun _ h9 => h9) rfl dX5_is_33 ?_
    refine lv_aload_n hx hb dX5_is_36 rfl (lv_at hl 0 rfl) ?_
    refine rm_get (ci := 1) (v := .ref (ad ((200 + 4 * h9) + 1))) (C := RX1) (T := TX1) (N := 3) hx hb hts (by decide +kernel) hown hK hW hHh.1 rfl 1 (by decide) (hts (.fieldLink RX5 117 "GrainYard$Heap" "grains" "[J") (by decide +kernel)) (fun _ h9 => h9) rfl dX5_is_37 ?_
    refine rm_calli (va_runV (As := [.ref (ad ((200 + 4 * h9) + 1))]) (rest := []) ⟨hx, hb, hml, hown, hts⟩ (c_X4_isCalm l D ty ad ct H.size (40 + 16 * hy h9) (yn (hy h9)) (yM (hy h9)) (yd (hy h9)) (yu (hy h9)) (200 + 4 * h9 + 1) (hg h9) hyn9.2 (by omega) hYy (hyd _ hyh) hHh.2.1 (fun q a b => ⟨by have := (hgr h9 hh2 q a b).1; omega, by have := (hgr h9 hh2 q a b).2; omega⟩)) (cwV 1 hts gX5_is_X4_isCalm rfl rfl rfl (by decide +kernel) ⟨Nat.le_of_ble_eq_true rfl, Nat.le_of_ble_eq_true rfl⟩) (rm_preV hK hNw hW hYy.1 rfl) rfl rfl hl.1 rfl (lv_room (Nat.le_of_ble_eq_true rfl)) dX5_is_40 ⟨Nat.le_of_ble_eq_true rfl, Nat.le_of_ble_eq_true rfl⟩) hW hS hA (fun z_2 ct_2 H locs hq_2 hW hS => ?_)
    obtain ⟨hz, hcc_2⟩ := hq_2
    have hcc_2 := hcc_2.symm
    subst hcc_2
    refine vx_ret ?_
    refine W.widen (k := 2) (n := 12) (by omega) (by omega) ?_
    exact W.zret hx hb hr (by rcases hz with h | h <;> rw [h.1] <;> decide) (fun t ht hw => ⟨⟨_, (z_2, ct), rfl, ⟨rfl, ⟨h9, rfl, hh2, hC, Or.inl ⟨rfl, hz⟩⟩⟩, by show rm_W D ad _ _ t.heap; rw [ht]; exact hW⟩, hS.F ht⟩) hS.2.2 dX5_is_43
  · skip
    subst hw
    refine rm_look (off := 37) (tgt := 44) hx hb hw9 dX5_is_7 (by decide) rfl (by decide) ?_
    refine lv_aload_n hx hb dX5_is_44 rfl (lv_at hl 1 rfl) ?_
    refine rm_get (ci := 5) (v := .ref (ad 3)) (C := RX5) (T := TX5) (N := 7) hx hb hts (by decide +kernel) hown hK hW hC.2.1.1 rfl 4 (by decide) (hts (.fieldLink RX5 31 "GrainYard" "fire" "LGrainYard$Fire;") (by decide +kernel)) (fun _ h9 => h9) rfl dX5_is_45 ?_
    refine lv_aload_n hx hb dX5_is_48 rfl (lv_at hl 0 rfl) ?_
    refine rm_get (ci := 1) (v := .ref (ad (40 + 16 * hy h9))) (C := RX1) (T := TX1) (N := 3) hx hb hts (by decide +kernel) hown hK hW hHh.1 rfl 0 (by decide) (hts (.fieldLink RX5 107 "GrainYard$Heap" "yard" "LGrainYard$Yard;") (by decide +kernel)) (fun _ h9 => h9) rfl dX5_is_49 ?_
    refine lv_aload_n hx hb dX5_is_52 rfl (lv_at hl 0 rfl) ?_
    refine rm_get (ci := 1) (v := .ref (ad ((200 + 4 * h9) + 1))) (C := RX1) (T := TX1) (N := 3) hx hb hts (by decide +kernel) hown hK hW hHh.1 rfl 1 (by decide) (hts (.fieldLink RX5 117 "GrainYard$Heap" "grains" "[J") (by decide +kernel)) (fun _ h9 => h9) rfl dX5_is_53 ?_
    have hgz : ∀ q, 1 ≤ q → q < yn (hy h9) → 0 ≤ hg h9 q ∧ hg h9 q ≤ 1000000000000 := fun q a b => ⟨(hgr h9 hh2 q a b).1, by have := (hgr h9 hh2 q a b).2; omega⟩
    refine rm_calli (va_runV (As := [.ref (ad (40 + 16 * hy h9)), .ref (ad ((200 + 4 * h9) + 1))]) (rest := []) ⟨hx, hb, hml, hown, hts⟩ (c_X0_burnsAll l D ty ad ct H.size (40 + 16 * hy h9) (yn (hy h9)) (yM (hy h9)) (yd (hy h9)) (yu (hy h9)) 3 4 rd (200 + 4 * h9 + 1) (hg h9) hHh.2.1 (by omega) hgz hyn9.1 hyn9.2 hYy (hyM _ hyh) (hyd _ hyh) hFi (by omega) (by omega)) (cwV 2 hts gX5_is_X0_burnsAll rfl rfl rfl (by decide +kernel) ⟨Nat.le_of_ble_eq_true rfl, Nat.le_of_ble_eq_true rfl⟩) (rm_preV hK hNw hW hFi.1 rfl) rfl rfl hl.1 rfl (lv_room (Nat.le_of_ble_eq_true rfl)) dX5_is_56 ⟨Nat.le_of_ble_eq_true rfl, Nat.le_of_ble_eq_true rfl⟩) hW hS hA (fun z_3 ct_3 H locs hq_3 hW hS => ?_)
    obtain ⟨rd1, hq1, hq2, hq3⟩ := hq_3
    have hbr := brn_of hq3
    have ho_3 : ∀ q, q ≠ 4 → ct_3 q = ct q := hq2
    have hof_3 : ∀ q, q ≠ 4 → ct_3 q = ct q := fun q h0_3 => (ho_3 q h0_3).trans rfl
    have hm0_3 : ct_3 4 = some (ri ty 8 rd1) := hq1
    have hcl := hC.helpTo (fun q h => hof_3 q (by omega)) (hC.2.2.1.fireTo hq1 hq2)
    refine vx_ret ?_
    refine W.widen (k := 2) (n := 12) (by omega) (by omega) ?_
    exact W.zret hx hb hr (by rcases brn_01 hbr with h | h <;> rw [h] <;> decide) (fun t ht hw => ⟨⟨_, (z_3, ct_3), rfl, ⟨rfl, ⟨h9, rfl, hh2, hcl, Or.inr ⟨rfl, hbr⟩⟩⟩, by show rm_W D ad _ _ t.heap; rw [ht]; exact hW⟩, hS.F ht⟩) hS.2.2 dX5_is_59
  · skip
    refine rm_look (off := 53) (tgt := 60) hx hb hw9 dX5_is_7 (by decide) (by show Op.lookupswitch.offset [_, _] _ w9 = _; rw [Op.lookupswitch.offset_cons, if_neg (fun h => hw.1 h.symm), Op.lookupswitch.offset_cons, if_neg (fun h => hw.2 h.symm), Op.lookupswitch.offset_nil]) (by decide) ?_
    exact rm_throwN (cls := "java/util/NoSuchElementException") (text := "no such question") (ct := ct) hx hb hlf hown (by decide +kernel) (hts (.classLink RX5 91 "java/util/NoSuchElementException") (by decide +kernel)) (hts (.initialized "java/util/NoSuchElementException") (by decide +kernel)) (fun w hw => hts w (by first | exact List.mem_cons_of_mem _ (List.mem_append_right _ hw) | exact List.mem_cons_of_mem _ (List.mem_append_left _ (List.mem_append_right _ hw)))) (by decide +kernel) (by decide +kernel) (by decide +kernel) hE hU hW hS (hl.1.trans hml.symm) dX5_is_60 dX5_is_63 dX5_is_64 dX5_is_66 dX5_is_69 hout (Nat.le_of_ble_eq_true rfl) (Nat.le_of_ble_eq_true rfl) (Nat.le_of_ble_eq_true rfl) (Nat.le_of_ble_eq_true rfl) hlocks (⟨rfl, Or.inr ⟨⟨h9, rfl, hh2⟩, hw⟩, rfl⟩) (Nat.le_of_ble_eq_true rfl) (Nat.le_of_ble_eq_true rfl)
set_option maxHeartbeats 4000000 in
set_option maxRecDepth 100000 in
theorem c_X5_burns (l : Launch) (hlf : l.stackTraces = false) (D : va_G) (ty : Nat → ClassId) (ad : Nat → Nat) (ct : rm_C) (sz : Nat) (yc hc : Nat) (yn : Nat → Nat) (yM : Nat → Nat → Nat → Int) (yd : Nat → Nat → Int) (yu : Nat → Int) (hy : Nat → Nat) (hg hf : Nat → Nat → Int) (hC : ClsAt ty ad ct yc hc yn yM yd yu hy hg hf) (hyn : ∀ y, y < yc → 2 ≤ yn y ∧ yn y ≤ 8) (hyM : ∀ y, y < yc → ∀ i j, 0 ≤ yM y i j ∧ yM y i j ≤ 3) (hyd : ∀ y, y < yc → ∀ i, i < 8 → 0 ≤ yd y i ∧ yd y i ≤ 21) (hgr : ∀ h, h < hc → ∀ q, 1 ≤ q → q < yn (hy h) → 0 ≤ hg h q ∧ hg h q ≤ 1000000000) (z9 p9 : Int) (hz9 : r32 z9) (hp9 : r32 p9) : vx_Met l yX5_burns wsX5_burns ({ frames := 7, cells := 2, slots := 12, locals := 104 }) (rm_PX D ty ad ct sz [.ref (ad 0), .int (jI z9), .int (jI p9)]) (rm_Qi D ad ct sz (fun z ct1 => ∃ h9 q9 : Nat, z9 = (h9 : Int) ∧ p9 = (q9 : Int) ∧ h9 < hc ∧ q9 < yn (hy h9) ∧ ClsAt ty ad ct1 yc hc yn yM yd yu hy hg hf ∧ (((∃ q, 1 ≤ q ∧ q < yn (hy h9) ∧ yd (hy h9) q ≤ hg h9 q) ∧ z = -1) ∨ ((∀ q, 1 ≤ q → q < yn (hy h9) → hg h9 q < yd (hy h9) q) ∧ z = bit (yn (hy h9)) (yM (hy h9)) (yd (hy h9)) (hg h9) (yn (hy h9) - 1) q9)))) (rm_XC D ad ct sz (fun E ct1 => E = xNSE ∧ ((z9 < 0 ∨ (hc : Int) ≤ z9) ∨ ∃ h9 : Nat, z9 = (h9 : Int) ∧ h9 < hc ∧ (p9 < 0 ∨ (yn (hy h9) : Int) ≤ p9)) ∧ ct1 = ct)) 2 12 (rm_A ad ct sz) := by
  refine vx_ofW (cc := cX5_burns) (maxL := 4) (ret := (some .int)) (by decide) rfl ?_
  intro p e s m args below meth c s₁ B hml hout hv
  obtain ⟨hargs, ⟨hsz, hW, hK, hNw⟩, hE, hU⟩ := hv
  have hx := B.exec
  have hb := B.bytes
  have hr := B.returns
  have hts := atoms_spec (ws := wsX5_burns) B.pre
  have hown : s.vm.findClass RX5 = some m.cls := findClass_of_methodNamed B.named
  have hlocks := B.notSynchronized
  subst hsz
  have hW := hW.own (sz := s.heap.size)
  have hA : ∀ q : Nat, s.heap.size ≤ q → rm_A ad ct s.heap.size q := fun q h => Or.inr h
  have hS : va_S (rm_A ad ct s.heap.size) s.heap s.heap [] := va_S.rf
  have hent : entryFrame m args 4 = entryFrame m ([.ref (ad 0), .int (jI z9), .int (jI p9)] : List Value).toArray 4 := by rw [hargs]
  have hl := lv_entry ([.ref (ad 0), .int (jI z9), .int (jI p9)]) (n := 4) (Nat.le_of_ble_eq_true rfl)
  rw [hent, lg_entry_eq]
  generalize (lg_sl ([.ref (ad 0), .int (jI z9), .int (jI p9)]) ++ List.replicate (4 - (lg_sl ([.ref (ad 0), .int (jI z9), .int (jI p9)])).length) Slot.unset).toArray = ls at hl ⊢
  have hl : lv_has ls 4 [(0, .ref (ad 0)), (1, .int (jI z9)), (2, .int (jI p9))] := hl
  refine lv_aload_n hx hb dX5_burns_0 rfl (lv_at hl 0 rfl) ?_
  refine lv_iload_n hx hb dX5_burns_1 rfl (lv_at hl 1 rfl) ?_
  refine rm_xcallr (vx_runV (As := [.int (jI z9)]) (rest := []) ⟨hx, hb, hml, hown, hts⟩ (c_X5_heapNumbered l hlf D ty ad ct s.heap.size yc hc yn yM yd yu hy hg hf hC z9 hz9) (cwV 1 hts gX5_burns_X5_heapNumbered rfl rfl rfl (by decide +kernel) ⟨Nat.le_of_ble_eq_true rfl, Nat.le_of_ble_eq_true rfl⟩) (rm_preVX hK hNw hE hU hW hS hA hC.2.1.1 rfl) rfl rfl hl.1 rfl (lv_room (Nat.le_of_ble_eq_true rfl)) dX5_burns_2 ⟨Nat.le_of_ble_eq_true rfl, Nat.le_of_ble_eq_true rfl⟩) hW hS hA hout hlocks (fun E ct1 h => ⟨h.1, Or.inl h.2.1, h.2.2⟩) (Nat.le_of_ble_eq_true rfl) (Nat.le_of_ble_eq_true rfl) (fun z_1 ct_1 H locs hq_1 hW hS => ?_)
  obtain ⟨h9, hh1, hh2, hh3, hcc⟩ := hq_1
  have hcc := hcc.symm
  subst hcc hh3 hh1
  have hHh := (hC.2.2.2.2.1 h9 hh2).2
  have hyh := (hC.2.2.2.2.1 h9 hh2).1
  have hYy := hC.2.2.2.1 (hy h9) hyh
  have hyn9 := hyn (hy h9) hyh
  have hb6 := hC.1.1
  have hb20 := hC.1.2
  refine lv_astore_n (lv' := [(3, .ref (ad (200 + 4 * h9))), (0, .ref (ad 0)), (1, .int (jI ((h9 : Nat) : Int))), (2, .int (jI p9))]) hx hb dX5_burns_5 rfl hl (by decide) rfl (fun ls hl => ?_)
  refine lv_aload_n hx hb dX5_burns_6 rfl (lv_at hl 0 rfl) ?_
  refine rm_get (ci := 1) (v := .ref (ad (40 + 16 * hy h9))) (C := RX1) (T := TX1) (N := 3) hx hb hts (by decide +kernel) hown hK hW hHh.1 rfl 0 (by decide) (hts (.fieldLink RX5 107 "GrainYard$Heap" "yard" "LGrainYard$Yard;") (by decide +kernel)) (fun _ h9 => h9) rfl dX5_burns_7 ?_
  refine lv_iload_n hx hb dX5_burns_10 rfl (lv_at hl 3 rfl) ?_
  refine lv_iconst (v := jI 0) hx hb dX5_burns_11 rfl ?_
  refine rm_xcallv (vx_runS (As := [.ref (ad (40 + 16 * hy h9)), .int (jI p9), .int (jI 0)]) (rest := []) ⟨hx, hb, hml, hown, hts⟩ (c_X5_requirePlace l hlf D ty ad ct H.size (40 + 16 * hy h9) (yn (hy h9)) (yM (hy h9)) (yd (hy h9)) (yu (hy h9)) p9 0 hp9 ⟨by omega, by omega⟩ hyn9.2 hYy) (va_cwS 3 hts gX5_burns_X5_requirePlace rfl rfl rfl (by decide +kernel) ⟨Nat.le_of_ble_eq_true rfl, Nat.le_of_ble_eq_true rfl⟩) (rm_preSX hK hNw hE hU hW hS hA) rfl rfl hl.1 rfl (lv_room (Nat.le_of_ble_eq_true rfl)) dX5_burns_12 ⟨Nat.le_of_ble_eq_true rfl, Nat.le_of_ble_eq_true rfl⟩) hW hS hA hout hlocks (fun E ct1 h => ⟨h.1, Or.inr ⟨h9, rfl, hh2, h.2.1⟩, h.2.2⟩) (Nat.le_of_ble_eq_true rfl) (Nat.le_of_ble_eq_true rfl) (fun ct_2 H locs hq_2 hW hS hz_2 => ?_)
  obtain ⟨hp1, hp2, hcc⟩ := hq_2
  have hcc := hcc.symm
  subst hcc
  obtain ⟨q9, hq9⟩ : ∃ q9 : Nat, p9 = (q9 : Int) := ⟨p9.toNat, by omega⟩
  subst hq9
  obtain ⟨rd, hFi⟩ := hC.2.2.1.1
  refine lv_aload_n hx hb dX5_burns_15 rfl (lv_at hl 1 rfl) ?_
  refine rm_get (ci := 5) (v := .ref (ad 3)) (C := RX5) (T := TX5) (N := 7) hx hb hts (by decide +kernel) hown hK hW hC.2.1.1 rfl 4 (by decide) (hts (.fieldLink RX5 31 "GrainYard" "fire" "LGrainYard$Fire;") (by decide +kernel)) (fun _ h9 => h9) rfl dX5_burns_16 ?_
  refine lv_aload_n hx hb dX5_burns_19 rfl (lv_at hl 0 rfl) ?_
  refine rm_get (ci := 1) (v := .ref (ad (40 + 16 * hy h9))) (C := RX1) (T := TX1) (N := 3) hx hb hts (by decide +kernel) hown hK hW hHh.1 rfl 0 (by decide) (hts (.fieldLink RX5 107 "GrainYard$Heap" "yard" "LGrainYard$Yard;") (by decide +kernel)) (fun _ h9 => h9) rfl dX5_burns_20 ?_
  refine lv_aload_n hx hb dX5_burns_23 rfl (lv_at hl 0 rfl) ?_
  refine rm_get (ci := 1) (v := .ref (ad ((200 + 4 * h9) + 1))) (C := RX1) (T := TX1) (N := 3) hx hb hts (by decide +kernel) hown hK hW hHh.1 rfl 1 (by decide) (hts (.fieldLink RX5 117 "GrainYard$Heap" "grains" "[J") (by decide +kernel)) (fun _ h9 => h9) rfl dX5_burns_24 ?_
  have hgz : ∀ q, 1 ≤ q → q < yn (hy h9) → 0 ≤ hg h9 q ∧ hg h9 q ≤ 1000000000000 := fun q a b => ⟨(hgr h9 hh2 q a b).1, by have := (hgr h9 hh2 q a b).2; omega⟩
  refine rm_calli (va_runV (As := [.ref (ad (40 + 16 * hy h9)), .ref (ad ((200 + 4 * h9) + 1))]) (rest := []) ⟨hx, hb, hml, hown, hts⟩ (c_X0_burnsAll l D ty ad ct H.size (40 + 16 * hy h9) (yn (hy h9)) (yM (hy h9)) (yd (hy h9)) (yu (hy h9)) 3 4 rd (200 + 4 * h9 + 1) (hg h9) hHh.2.1 (by omega) hgz hyn9.1 hyn9.2 hYy (hyM _ hyh) (hyd _ hyh) hFi (by omega) (by omega)) (cwV 2 hts gX5_burns_X0_burnsAll rfl rfl rfl (by decide +kernel) ⟨Nat.le_of_ble_eq_true rfl, Nat.le_of_ble_eq_true rfl⟩) (rm_preV hK hNw hW hFi.1 rfl) rfl rfl hl.1 rfl (lv_room (Nat.le_of_ble_eq_true rfl)) dX5_burns_27 ⟨Nat.le_of_ble_eq_true rfl, Nat.le_of_ble_eq_true rfl⟩) hW hS hA (fun z_3 ct_3 H locs hq_3 hW hS => ?_)
  obtain ⟨rd1, hq1, hq2, hq3⟩ := hq_3
  have hbr := brn_of hq3
  have ho_3 : ∀ q, q ≠ 4 → ct_3 q = ct q := hq2
  have hof_3 : ∀ q, q ≠ 4 → ct_3 q = ct q := fun q h0_3 => (ho_3 q h0_3).trans rfl
  have hm0_3 : ct_3 4 = some (ri ty 8 rd1) := hq1
  have hcl := hC.helpTo (fun q h => hof_3 q (by omega)) (hC.2.2.1.fireTo hq1 hq2)
  refine lv_pop hx hb dX5_burns_30 rfl ?_
  refine lv_aload_n hx hb dX5_burns_31 rfl (lv_at hl 1 rfl) ?_
  refine rm_get (ci := 5) (v := .ref (ad 3)) (C := RX5) (T := TX5) (N := 7) hx hb hts (by decide +kernel) hown hK hW ((hof_3 0 (by omega)).trans hC.2.1.1) rfl 4 (by decide) (hts (.fieldLink RX5 31 "GrainYard" "fire" "LGrainYard$Fire;") (by decide +kernel)) (fun _ h9 => h9) rfl dX5_burns_32 ?_
  refine rm_get (ci := 0) (v := .ref (ad 4)) (C := RX0) (T := TX0) (N := 1) hx hb hts (by decide +kernel) hown hK hW ((hof_3 3 (by omega)).trans hFi.1) rfl 0 (by decide) (hts (.fieldLink RX5 142 "GrainYard$Fire" "rounds" "[I") (by decide +kernel)) (fun _ h9 => h9) rfl dX5_burns_35 ?_
  refine lv_iload_n hx hb dX5_burns_38 rfl (lv_at hl 3 rfl) ?_
  refine rm_iald hx hb hK hW (f := rd1) hm0_3 q9 rfl (by omega) (by omega) dX5_burns_39 ?_
  refine vx_ret ?_
  refine W.widen (k := 2) (n := 12) (by omega) (by omega) ?_
  exact W.iret hx hb hr (fun t ht hw => ⟨⟨_, ((rd1 q9), ct_3), rfl, ⟨rfl, ⟨h9, q9, rfl, rfl, hh2, by omega, hcl, by rcases hq3 with h | h; exact Or.inl ⟨h.2.1, by rw [h.2.2]⟩; exact Or.inr ⟨h.1, by rw [h.2.1]⟩⟩⟩, by show rm_W D ad _ _ t.heap; rw [ht]; exact hW⟩, hS.F ht⟩) hS.2.2 dX5_burns_40
