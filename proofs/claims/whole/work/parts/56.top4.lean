set_option maxHeartbeats 4000000 in
set_option maxRecDepth 100000 in
theorem c_X5_requireOneYard (l : Launch) (hlf : l.stackTraces = false) (D : va_G) (ty : Nat → ClassId) (ad : Nat → Nat) (ct : rm_C) (sz : Nat) (h1 h2 yr1 yr2 : Nat) (g1 f1 g2 f2 : Nat → Int) (hH1 : HeapAt ty ad ct h1 yr1 g1 f1) (hH2 : HeapAt ty ad ct h2 yr2 g2 f2) (e1 e2 : va_E) (he1 : ct yr1 = some e1) (he2 : ct yr2 = some e2) : vx_Met l yX5_requireOneYard wsX5_requireOneYard ({ frames := 6, cells := 1, slots := 6, locals := 82 }) (rm_PX D ty ad ct sz [.ref (ad h1), .ref (ad h2)]) (rm_Qv D ad ct sz 0 (fun ct1 => yr1 = yr2 ∧ ct1 = ct)) (rm_XC D ad ct sz (fun E ct1 => E = xIAE ∧ yr1 ≠ yr2 ∧ ct1 = ct)) 1 6 (rm_A ad ct sz) := by
  refine vx_ofW (cc := cX5_requireOneYard) (maxL := 2) (ret := none) (by decide) rfl ?_
  intro p e s m args below meth c s₁ B hml hout hv
  obtain ⟨hargs, ⟨hsz, hW, hK, hNw⟩, hE, hU⟩ := hv
  have hx := B.exec
  have hb := B.bytes
  have hr := B.returns
  have hts := atoms_spec (ws := wsX5_requireOneYard) B.pre
  have hown : s.vm.findClass RX5 = some m.cls := findClass_of_methodNamed B.named
  have hlocks := B.notSynchronized
  subst hsz
  have hW := hW.own (sz := s.heap.size)
  have hA : ∀ q : Nat, s.heap.size ≤ q → rm_A ad ct s.heap.size q := fun q h => Or.inr h
  have hS : va_S (rm_A ad ct s.heap.size) s.heap s.heap [] := va_S.rf
  have hent : entryFrame m args 2 = entryFrame m ([.ref (ad h1), .ref (ad h2)] : List Value).toArray 2 := by rw [hargs]
  have hl := lv_entry ([.ref (ad h1), .ref (ad h2)]) (n := 2) (Nat.le_of_ble_eq_true rfl)
  rw [hent, lg_entry_eq]
  generalize (lg_sl ([.ref (ad h1), .ref (ad h2)]) ++ List.replicate (2 - (lg_sl ([.ref (ad h1), .ref (ad h2)])).length) Slot.unset).toArray = ls at hl ⊢
  have hl : lv_has ls 2 [(0, .ref (ad h1)), (1, .ref (ad h2))] := hl
  refine lv_aload_n hx hb dX5_requireOneYard_0 rfl (lv_at hl 0 rfl) ?_
  refine rm_get (ci := 1) (v := .ref (ad yr1)) (C := RX1) (T := TX1) (N := 3) hx hb hts (by decide +kernel) hown hK hW hH1.1 rfl 0 (by decide) (hts (.fieldLink RX5 107 "GrainYard$Heap" "yard" "LGrainYard$Yard;") (by decide +kernel)) (fun _ h9 => h9) rfl dX5_requireOneYard_1 ?_
  refine lv_aload_n hx hb dX5_requireOneYard_4 rfl (lv_at hl 1 rfl) ?_
  refine rm_get (ci := 1) (v := .ref (ad yr2)) (C := RX1) (T := TX1) (N := 3) hx hb hts (by decide +kernel) hown hK hW hH2.1 rfl 0 (by decide) (hts (.fieldLink RX5 107 "GrainYard$Heap" "yard" "LGrainYard$Yard;") (by decide +kernel)) (fun _ h9 => h9) rfl dX5_requireOneYard_5 ?_
  refine lv_acmp_eq (rx := some (ad yr1)) (ry := some (ad yr2)) (tgt := 21) hx hb dX5_requireOneYard_8 (by decide) (fun hq => ?_) (fun hq => ?_)
  · skip
    refine vx_ret ?_
    refine W.widen (k := 1) (n := 6) (by omega) (by omega) ?_
    exact W.vret hx hb hr (fun t ht hw => ⟨⟨ct, rfl, ⟨hW.2 yr1 yr2 _ _ he1 he2 (Option.some.inj hq), rfl⟩, by show rm_W D ad _ _ t.heap; rw [ht]; exact hW, Or.inl rfl⟩, hS.F ht⟩) hS.2.2 dX5_requireOneYard_21
  · skip
    exact rm_throw (cls := "java/lang/IllegalArgumentException") (text := "the heaps are in two yards") (ct := ct) hx hb hlf hown (by decide +kernel) (hts (.classLink RX5 112 "java/lang/IllegalArgumentException") (by decide +kernel)) (hts (.initialized "java/lang/IllegalArgumentException") (by decide +kernel)) (fun w hw => hts w (by first | exact List.mem_cons_of_mem _ (List.mem_append_right _ hw) | exact List.mem_cons_of_mem _ (List.mem_append_left _ (List.mem_append_right _ hw)))) (by decide +kernel) (by decide +kernel) (by decide +kernel) hE hU hW hS (hl.1.trans hml.symm) dX5_requireOneYard_11 dX5_requireOneYard_14 dX5_requireOneYard_15 dX5_requireOneYard_17 dX5_requireOneYard_20 hout (Nat.le_of_ble_eq_true rfl) (Nat.le_of_ble_eq_true rfl) (Nat.le_of_ble_eq_true rfl) (Nat.le_of_ble_eq_true rfl) hlocks (⟨rfl, fun h => hq (by rw [h]), rfl⟩) (Nat.le_of_ble_eq_true rfl) (Nat.le_of_ble_eq_true rfl)
set_option maxHeartbeats 4000000 in
set_option maxRecDepth 100000 in
theorem c_X5_degree (l : Launch) (hlf : l.stackTraces = false) (D : va_G) (ty : Nat → ClassId) (ad : Nat → Nat) (ct : rm_C) (sz : Nat) (yc hc : Nat) (yn : Nat → Nat) (yM : Nat → Nat → Nat → Int) (yd : Nat → Nat → Int) (yu : Nat → Int) (hy : Nat → Nat) (hg hf : Nat → Nat → Int) (hC : ClsAt ty ad ct yc hc yn yM yd yu hy hg hf) (hyn : ∀ y, y < yc → 2 ≤ yn y ∧ yn y ≤ 8) (z9 p9 : Int) (hz9 : r32 z9) (hp9 : r32 p9) : vx_Met l yX5_degree wsX5_degree ({ frames := 7, cells := 2, slots := 12, locals := 104 }) (rm_PX D ty ad ct sz [.ref (ad 0), .int (jI z9), .int (jI p9)]) (rm_Qi D ad ct sz (fun z ct1 => ∃ y9 q9 : Nat, z9 = (y9 : Int) ∧ p9 = (q9 : Int) ∧ y9 < yc ∧ q9 < yn y9 ∧ z = yd y9 q9 ∧ ct1 = ct)) (rm_XC D ad ct sz (fun E ct1 => E = xNSE ∧ ((z9 < 0 ∨ (yc : Int) ≤ z9) ∨ ∃ y9 : Nat, z9 = (y9 : Int) ∧ y9 < yc ∧ (p9 < 0 ∨ (yn y9 : Int) ≤ p9)) ∧ ct1 = ct)) 2 12 (rm_A ad ct sz) := by
  refine vx_ofW (cc := cX5_degree) (maxL := 4) (ret := (some .int)) (by decide) rfl ?_
  intro p e s m args below meth c s₁ B hml hout hv
  obtain ⟨hargs, ⟨hsz, hW, hK, hNw⟩, hE, hU⟩ := hv
  have hx := B.exec
  have hb := B.bytes
  have hr := B.returns
  have hts := atoms_spec (ws := wsX5_degree) B.pre
  have hown : s.vm.findClass RX5 = some m.cls := findClass_of_methodNamed B.named
  have hlocks := B.notSynchronized
  subst hsz
  have hW := hW.own (sz := s.heap.size)
  have hA : ∀ q : Nat, s.heap.size ≤ q → rm_A ad ct s.heap.size q := fun q h => Or.inr h
  have hS : va_S (rm_A ad ct s.heap.size) s.heap s.heap [] := va_S.rf
  have hent : entryFrame m args 4 = entryFrame m ([.ref (ad 0), .int (jI z9), .int (jI p9)] : List Value).toArray 4 := by rw [hargs]
  have hl := lv_entry ([.ref (ad 0), .int (jI z9), .int (jI p9)]) (n := 4) (Nat.le_of_ble_eq_true rfl)
  rw [hent, lg_entry_eq]
  generalize (lg_sl ([.ref (ad 0), .int (jI z9), .int (jI p9)]) ++ List.replicate (4 - (lg_sl ([.ref (ad 0), .int (jI z9), .int (jI p9)])).length) Slot.unset).toArray = ls at hl ⊢
  have hl : lv_has ls 4 [(0, .ref (ad 0)), (1, .int (jI z9)), (2, .int (jI p9))] := hl
  refine lv_aload_n hx hb dX5_degree_0 rfl (lv_at hl 0 rfl) ?_
  refine lv_iload_n hx hb dX5_degree_1 rfl (lv_at hl 1 rfl) ?_
  refine rm_xcallr (vx_runV (As := [.int (jI z9)]) (rest := []) ⟨hx, hb, hml, hown, hts⟩ (c_X5_yardNumbered l hlf D ty ad ct s.heap.size yc hc yn yM yd yu hy hg hf hC z9 hz9) (cwV 1 hts gX5_degree_X5_yardNumbered rfl rfl rfl (by decide +kernel) ⟨Nat.le_of_ble_eq_true rfl, Nat.le_of_ble_eq_true rfl⟩) (rm_preVX hK hNw hE hU hW hS hA hC.2.1.1 rfl) rfl rfl hl.1 rfl (lv_room (Nat.le_of_ble_eq_true rfl)) dX5_degree_2 ⟨Nat.le_of_ble_eq_true rfl, Nat.le_of_ble_eq_true rfl⟩) hW hS hA hout hlocks (fun E ct1 h => ⟨h.1, Or.inl h.2.1, h.2.2⟩) (Nat.le_of_ble_eq_true rfl) (Nat.le_of_ble_eq_true rfl) (fun z_1 ct_1 H locs hq_1 hW hS => ?_)
  obtain ⟨y9, hy1, hy2, hy3, hcc⟩ := hq_1
  have hcc := hcc.symm
  subst hcc hy3 hy1
  have hYy := hC.2.2.2.1 y9 hy2
  have hyn9 := hyn y9 hy2
  refine lv_astore_n (lv' := [(3, .ref (ad (40 + 16 * y9))), (0, .ref (ad 0)), (1, .int (jI ((y9 : Nat) : Int))), (2, .int (jI p9))]) hx hb dX5_degree_5 rfl hl (by decide) rfl (fun ls hl => ?_)
  refine lv_aload_n hx hb dX5_degree_6 rfl (lv_at hl 0 rfl) ?_
  refine lv_iload_n hx hb dX5_degree_7 rfl (lv_at hl 3 rfl) ?_
  refine lv_iconst (v := jI 0) hx hb dX5_degree_8 rfl ?_
  refine rm_xcallv (vx_runS (As := [.ref (ad (40 + 16 * y9)), .int (jI p9), .int (jI 0)]) (rest := []) ⟨hx, hb, hml, hown, hts⟩ (c_X5_requirePlace l hlf D ty ad ct H.size (40 + 16 * y9) (yn y9) (yM y9) (yd y9) (yu y9) p9 0 hp9 r32_0 hyn9.2 hYy) (va_cwS 3 hts gX5_degree_X5_requirePlace rfl rfl rfl (by decide +kernel) ⟨Nat.le_of_ble_eq_true rfl, Nat.le_of_ble_eq_true rfl⟩) (rm_preSX hK hNw hE hU hW hS hA) rfl rfl hl.1 rfl (lv_room (Nat.le_of_ble_eq_true rfl)) dX5_degree_9 ⟨Nat.le_of_ble_eq_true rfl, Nat.le_of_ble_eq_true rfl⟩) hW hS hA hout hlocks (fun E ct1 h => ⟨h.1, Or.inr ⟨y9, rfl, hy2, h.2.1⟩, h.2.2⟩) (Nat.le_of_ble_eq_true rfl) (Nat.le_of_ble_eq_true rfl) (fun ct_2 H locs hq_2 hW hS hz_2 => ?_)
  obtain ⟨hp1, hp2, hcc⟩ := hq_2
  have hcc := hcc.symm
  subst hcc
  obtain ⟨q9, hq9⟩ : ∃ q9 : Nat, p9 = (q9 : Int) := ⟨p9.toNat, by omega⟩
  subst hq9
  refine lv_aload_n hx hb dX5_degree_12 rfl (lv_at hl 0 rfl) ?_
  refine rm_get (ci := 4) (v := .ref (ad ((40 + 16 * y9) + 10))) (C := RX4) (T := TX4) (N := 4) hx hb hts (by decide +kernel) hown hK hW hYy.1 rfl 2 (by decide) (hts (.fieldLink RX5 68 "GrainYard$Yard" "degrees" "[I") (by decide +kernel)) (fun _ h9 => h9) rfl dX5_degree_13 ?_
  refine lv_iload_n hx hb dX5_degree_16 rfl (lv_at hl 3 rfl) ?_
  refine rm_iald hx hb hK hW (f := (yd y9)) hYy.2.2.2 q9 rfl (by omega) (by omega) dX5_degree_17 ?_
  refine vx_ret ?_
  refine W.widen (k := 2) (n := 12) (by omega) (by omega) ?_
  exact W.iret hx hb hr (fun t ht hw => ⟨⟨_, (((yd y9) q9), ct), rfl, ⟨rfl, ⟨y9, q9, rfl, rfl, hy2, by omega, rfl, rfl⟩⟩, by show rm_W D ad _ _ t.heap; rw [ht]; exact hW⟩, hS.F ht⟩) hS.2.2 dX5_degree_18
