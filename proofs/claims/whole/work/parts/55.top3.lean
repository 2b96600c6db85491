set_option maxHeartbeats 4000000 in
set_option maxRecDepth 100000 in
theorem c_X5_requirePlace (l : Launch) (hlf : l.stackTraces = false) (D : va_G) (ty : Nat → ClassId) (ad : Nat → Nat) (ct : rm_C) (sz : Nat) (yr n : Nat) (M : Nat → Nat → Int) (d : Nat → Int) (u : Int) (z9 f9 : Int) (hz9 : r32 z9) (hf9 : r32 f9) (hn : n ≤ 8) (hY : YardAt ty ad ct yr n M d u) : vx_Met l yX5_requirePlace wsX5_requirePlace ({ frames := 6, cells := 1, slots := 6, locals := 82 }) (rm_PX D ty ad ct sz [.ref (ad yr), .int (jI z9), .int (jI f9)]) (rm_Qv D ad ct sz 0 (fun ct1 => f9 ≤ z9 ∧ z9 < (n : Int) ∧ ct1 = ct)) (rm_XC D ad ct sz (fun E ct1 => E = xNSE ∧ (z9 < f9 ∨ (n : Int) ≤ z9) ∧ ct1 = ct)) 1 6 (rm_A ad ct sz) := by
  refine vx_ofW (cc := cX5_requirePlace) (maxL := 3) (ret := none) (by decide) rfl ?_
  intro p e s m args below meth c s₁ B hml hout hv
  obtain ⟨hargs, ⟨hsz, hW, hK, hNw⟩, hE, hU⟩ := hv
  have hx := B.exec
  have hb := B.bytes
  have hr := B.returns
  have hts := atoms_spec (ws := wsX5_requirePlace) B.pre
  have hown : s.vm.findClass RX5 = some m.cls := findClass_of_methodNamed B.named
  have hlocks := B.notSynchronized
  subst hsz
  have hW := hW.own (sz := s.heap.size)
  have hA : ∀ q : Nat, s.heap.size ≤ q → rm_A ad ct s.heap.size q := fun q h => Or.inr h
  have hS : va_S (rm_A ad ct s.heap.size) s.heap s.heap [] := va_S.rf
  have hent : entryFrame m args 3 = entryFrame m ([.ref (ad yr), .int (jI z9), .int (jI f9)] : List Value).toArray 3 := by rw [hargs]
  have hl := lv_entry ([.ref (ad yr), .int (jI z9), .int (jI f9)]) (n := 3) (Nat.le_of_ble_eq_true rfl)
  rw [hent, lg_entry_eq]
  generalize (lg_sl ([.ref (ad yr), .int (jI z9), .int (jI f9)]) ++ List.replicate (3 - (lg_sl ([.ref (ad yr), .int (jI z9), .int (jI f9)])).length) Slot.unset).toArray = ls at hl ⊢
  have hl : lv_has ls 3 [(0, .ref (ad yr)), (1, .int (jI z9)), (2, .int (jI f9))] := hl
  refine lv_iload_n hx hb dX5_requirePlace_0 rfl (lv_at hl 1 rfl) ?_
  refine lv_iload_n hx hb dX5_requirePlace_1 rfl (lv_at hl 2 rfl) ?_
  refine rm_icmp_lt (tgt := 13) hx hb ⟨by omega, by omega⟩ ⟨by omega, by omega⟩ dX5_requirePlace_2 (by decide) (fun hc_1 => ?_) (fun hc_1 => ?_)
  · skip
    exact rm_throwN (cls := "java/util/NoSuchElementException") (text := "no such place") (ct := ct) hx hb hlf hown (by decide +kernel) (hts (.classLink RX5 91 "java/util/NoSuchElementException") (by decide +kernel)) (hts (.initialized "java/util/NoSuchElementException") (by decide +kernel)) (fun w hw => hts w (by first | exact List.mem_cons_of_mem _ (List.mem_append_right _ hw) | exact List.mem_cons_of_mem _ (List.mem_append_left _ (List.mem_append_right _ hw)))) (by decide +kernel) (by decide +kernel) (by decide +kernel) hE hU hW hS (hl.1.trans hml.symm) dX5_requirePlace_13 dX5_requirePlace_16 dX5_requirePlace_17 dX5_requirePlace_19 dX5_requirePlace_22 hout (Nat.le_of_ble_eq_true rfl) (Nat.le_of_ble_eq_true rfl) (Nat.le_of_ble_eq_true rfl) (Nat.le_of_ble_eq_true rfl) hlocks (⟨rfl, Or.inl (by omega), rfl⟩) (Nat.le_of_ble_eq_true rfl) (Nat.le_of_ble_eq_true rfl)
  · skip
    refine lv_iload_n hx hb dX5_requirePlace_5 rfl (lv_at hl 1 rfl) ?_
    refine lv_aload_n hx hb dX5_requirePlace_6 rfl (lv_at hl 0 rfl) ?_
    refine rm_get (ci := 4) (v := .int (jI ((n : Nat) : Int))) (C := RX4) (T := TX4) (N := 4) hx hb hts (by decide +kernel) hown hK hW hY.1 rfl 0 (by decide) (hts (.fieldLink RX5 149 "GrainYard$Yard" "places" "I") (by decide +kernel)) (fun _ h9 => h9) rfl dX5_requirePlace_7 ?_
    refine rm_icmp_lt (tgt := 23) hx hb ⟨by omega, by omega⟩ ⟨by omega, by omega⟩ dX5_requirePlace_10 (by decide) (fun hc_2 => ?_) (fun hc_2 => ?_)
    · skip
      refine vx_ret ?_
      refine W.widen (k := 1) (n := 6) (by omega) (by omega) ?_
      exact W.vret hx hb hr (fun t ht hw => ⟨⟨ct, rfl, ⟨by omega, by omega, rfl⟩, by show rm_W D ad _ _ t.heap; rw [ht]; exact hW, Or.inl rfl⟩, hS.F ht⟩) hS.2.2 dX5_requirePlace_23
    · skip
      exact rm_throwN (cls := "java/util/NoSuchElementException") (text := "no such place") (ct := ct) hx hb hlf hown (by decide +kernel) (hts (.classLink RX5 91 "java/util/NoSuchElementException") (by decide +kernel)) (hts (.initialized "java/util/NoSuchElementException") (by decide +kernel)) (fun w hw => hts w (by first | exact List.mem_cons_of_mem _ (List.mem_append_right _ hw) | exact List.mem_cons_of_mem _ (List.mem_append_left _ (List.mem_append_right _ hw)))) (by decide +kernel) (by decide +kernel) (by decide +kernel) hE hU hW hS (hl.1.trans hml.symm) dX5_requirePlace_13 dX5_requirePlace_16 dX5_requirePlace_17 dX5_requirePlace_19 dX5_requirePlace_22 hout (Nat.le_of_ble_eq_true rfl) (Nat.le_of_ble_eq_true rfl) (Nat.le_of_ble_eq_true rfl) (Nat.le_of_ble_eq_true rfl) hlocks (⟨rfl, Or.inr (by omega), rfl⟩) (Nat.le_of_ble_eq_true rfl) (Nat.le_of_ble_eq_true rfl)
set_option maxHeartbeats 4000000 in
set_option maxRecDepth 100000 in
theorem c_X5_yardNumbered (l : Launch) (hlf : l.stackTraces = false) (D : va_G) (ty : Nat → ClassId) (ad : Nat → Nat) (ct : rm_C) (sz : Nat) (yc hc : Nat) (yn : Nat → Nat) (yM : Nat → Nat → Nat → Int) (yd : Nat → Nat → Int) (yu : Nat → Int) (hy : Nat → Nat) (hg hf : Nat → Nat → Int) (hC : ClsAt ty ad ct yc hc yn yM yd yu hy hg hf) (z9 : Int) (hz9 : r32 z9) : vx_Met l yX5_yardNumbered wsX5_yardNumbered ({ frames := 6, cells := 1, slots := 6, locals := 82 }) (rm_PX D ty ad ct sz [.ref (ad 0), .int (jI z9)]) (rm_Qr D ad ct sz (fun rr ct1 => ∃ y9 : Nat, z9 = (y9 : Int) ∧ y9 < yc ∧ rr = 40 + 16 * y9 ∧ ct1 = ct)) (rm_XC D ad ct sz (fun E ct1 => E = xNSE ∧ (z9 < 0 ∨ ((yc : Nat) : Int) ≤ z9) ∧ ct1 = ct)) 1 6 (rm_A ad ct sz) := by
  refine vx_ofW (cc := cX5_yardNumbered) (maxL := 3) (ret := (some (.object "GrainYard$Yard"))) (by decide) rfl ?_
  intro p e s m args below meth c s₁ B hml hout hv
  obtain ⟨hargs, ⟨hsz, hW, hK, hNw⟩, hE, hU⟩ := hv
  have hx := B.exec
  have hb := B.bytes
  have hr := B.returns
  have hts := atoms_spec (ws := wsX5_yardNumbered) B.pre
  have hown : s.vm.findClass RX5 = some m.cls := findClass_of_methodNamed B.named
  have hlocks := B.notSynchronized
  subst hsz
  have hW := hW.own (sz := s.heap.size)
  have hA : ∀ q : Nat, s.heap.size ≤ q → rm_A ad ct s.heap.size q := fun q h => Or.inr h
  have hS : va_S (rm_A ad ct s.heap.size) s.heap s.heap [] := va_S.rf
  have hent : entryFrame m args 3 = entryFrame m ([.ref (ad 0), .int (jI z9)] : List Value).toArray 3 := by rw [hargs]
  have hl := lv_entry ([.ref (ad 0), .int (jI z9)]) (n := 3) (Nat.le_of_ble_eq_true rfl)
  rw [hent, lg_entry_eq]
  generalize (lg_sl ([.ref (ad 0), .int (jI z9)]) ++ List.replicate (3 - (lg_sl ([.ref (ad 0), .int (jI z9)])).length) Slot.unset).toArray = ls at hl ⊢
  have hl : lv_has ls 3 [(0, .ref (ad 0)), (1, .int (jI z9))] := hl
  have hb6 := hC.1.1
  have hb20 := hC.1.2
  refine lv_iload_n hx hb dX5_yardNumbered_0 rfl (lv_at hl 1 rfl) ?_
  refine rm_if_lt (tgt := 21) hx hb ⟨by omega, by omega⟩ dX5_yardNumbered_1 (by decide) (fun hc_1 => ?_) (fun hc_1 => ?_)
  · skip
    refine lv_null hx hb dX5_yardNumbered_21 ?_
    refine lv_astore_nN (lv' := [(2, .null), (0, .ref (ad 0)), (1, .int (jI z9))]) hx hb dX5_yardNumbered_22 rfl hl (by decide) rfl (fun ls hl => ?_)
    refine lv_aload_nN hx hb dX5_yardNumbered_23 rfl (lv_at hl 0 rfl) ?_
    refine lv_ifnonnullN hx hb dX5_yardNumbered_24 ?_
    exact rm_throwN (cls := "java/util/NoSuchElementException") (text := "no such yard") (ct := ct) hx hb hlf hown (by decide +kernel) (hts (.classLink RX5 91 "java/util/NoSuchElementException") (by decide +kernel)) (hts (.initialized "java/util/NoSuchElementException") (by decide +kernel)) (fun w hw => hts w (by first | exact List.mem_cons_of_mem _ (List.mem_append_right _ hw) | exact List.mem_cons_of_mem _ (List.mem_append_left _ (List.mem_append_right _ hw)))) (by decide +kernel) (by decide +kernel) (by decide +kernel) hE hU hW hS (hl.1.trans hml.symm) dX5_yardNumbered_27 dX5_yardNumbered_30 dX5_yardNumbered_31 dX5_yardNumbered_33 dX5_yardNumbered_36 hout (Nat.le_of_ble_eq_true rfl) (Nat.le_of_ble_eq_true rfl) (Nat.le_of_ble_eq_true rfl) (Nat.le_of_ble_eq_true rfl) hlocks (⟨rfl, Or.inl (by omega), rfl⟩) (Nat.le_of_ble_eq_true rfl) (Nat.le_of_ble_eq_true rfl)
  · skip
    refine lv_iload_n hx hb dX5_yardNumbered_4 rfl (lv_at hl 1 rfl) ?_
    refine lv_aload_n hx hb dX5_yardNumbered_5 rfl (lv_at hl 0 rfl) ?_
    refine rm_get (ci := 5) (v := .int (jI ((yc : Nat) : Int))) (C := RX5) (T := TX5) (N := 7) hx hb hts (by decide +kernel) hown hK hW hC.2.1.1 rfl 2 (by decide) (hts (.fieldLink RX5 21 "GrainYard" "yardCount" "I") (by decide +kernel)) (fun _ h9 => h9) rfl dX5_yardNumbered_6 ?_
    refine rm_icmp_ge (tgt := 21) hx hb ⟨by omega, by omega⟩ ⟨by omega, by omega⟩ dX5_yardNumbered_9 (by decide) (fun hc_2 => ?_) (fun hc_2 => ?_)
    · skip
      refine lv_null hx hb dX5_yardNumbered_21 ?_
      refine lv_astore_nN (lv' := [(2, .null), (0, .ref (ad 0)), (1, .int (jI z9))]) hx hb dX5_yardNumbered_22 rfl hl (by decide) rfl (fun ls hl => ?_)
      refine lv_aload_nN hx hb dX5_yardNumbered_23 rfl (lv_at hl 0 rfl) ?_
      refine lv_ifnonnullN hx hb dX5_yardNumbered_24 ?_
      exact rm_throwN (cls := "java/util/NoSuchElementException") (text := "no such yard") (ct := ct) hx hb hlf hown (by decide +kernel) (hts (.classLink RX5 91 "java/util/NoSuchElementException") (by decide +kernel)) (hts (.initialized "java/util/NoSuchElementException") (by decide +kernel)) (fun w hw => hts w (by first | exact List.mem_cons_of_mem _ (List.mem_append_right _ hw) | exact List.mem_cons_of_mem _ (List.mem_append_left _ (List.mem_append_right _ hw)))) (by decide +kernel) (by decide +kernel) (by decide +kernel) hE hU hW hS (hl.1.trans hml.symm) dX5_yardNumbered_27 dX5_yardNumbered_30 dX5_yardNumbered_31 dX5_yardNumbered_33 dX5_yardNumbered_36 hout (Nat.le_of_ble_eq_true rfl) (Nat.le_of_ble_eq_true rfl) (Nat.le_of_ble_eq_true rfl) (Nat.le_of_ble_eq_true rfl) hlocks (⟨rfl, Or.inr (by omega), rfl⟩) (Nat.le_of_ble_eq_true rfl) (Nat.le_of_ble_eq_true rfl)
    · skip
      obtain ⟨y9, hy9⟩ : ∃ y9 : Nat, z9 = (y9 : Int) := ⟨z9.toNat, by omega⟩
      subst hy9
      refine lv_aload_n hx hb dX5_yardNumbered_12 rfl (lv_at hl 0 rfl) ?_
      refine rm_get (ci := 5) (v := .ref (ad 1)) (C := RX5) (T := TX5) (N := 7) hx hb hts (by decide +kernel) hown hK hW hC.2.1.1 rfl 0 (by decide) (hts (.fieldLink RX5 11 "GrainYard" "yards" "[LGrainYard$Yard;") (by decide +kernel)) (fun _ h9 => h9) rfl dX5_yardNumbered_13 ?_
      refine lv_iload_n hx hb dX5_yardNumbered_16 rfl (lv_at hl 1 rfl) ?_
      refine rm_aald hx hb hK hW (f := (fun i => if i < yc then some (ad (40 + 16 * i)) else none)) hC.2.1.2.1 rfl rfl y9 rfl (by omega) (by omega) dX5_yardNumbered_17 (congrArg va_rf (if_pos (by omega))) ?_
      refine lv_goto (tgt := 22) hx hb dX5_yardNumbered_18 (by decide) ?_
      refine lv_astore_n (lv' := [(2, .ref (ad (40 + 16 * y9))), (0, .ref (ad 0)), (1, .int (jI ((y9 : Nat) : Int)))]) hx hb dX5_yardNumbered_22 rfl hl (by decide) rfl (fun ls hl => ?_)
      refine lv_aload_n hx hb dX5_yardNumbered_23 rfl (lv_at hl 0 rfl) ?_
      refine lv_ifnonnull (tgt := 37) hx hb dX5_yardNumbered_24 (by decide) ?_
      refine lv_aload_n hx hb dX5_yardNumbered_37 rfl (lv_at hl 0 rfl) ?_
      refine vx_ret ?_
      refine W.widen (k := 1) (n := 6) (by omega) (by omega) ?_
      exact W.aret hx hb hr (by first | exact Or.inl ⟨_, rfl⟩ | exact Or.inr ⟨_, rfl⟩) (Or.inr ⟨_, rfl⟩) (fun t ht hw => ⟨⟨((40 + 16 * y9), ct), _, rfl, ⟨y9, rfl, by omega, rfl, rfl⟩, rfl, by show rm_W D ad _ _ t.heap; rw [ht]; exact hW⟩, hS.F ht⟩) hS.2.2 dX5_yardNumbered_38
set_option maxHeartbeats 4000000 in
set_option maxRecDepth 100000 in
theorem c_X5_heapNumbered (l : Launch) (hlf : l.stackTraces = false) (D : va_G) (ty : Nat → ClassId) (ad : Nat → Nat) (ct : rm_C) (sz : Nat) (yc hc : Nat) (yn : Nat → Nat) (yM : Nat → Nat → Nat → Int) (yd : Nat → Nat → Int) (yu : Nat → Int) (hy : Nat → Nat) (hg hf : Nat → Nat → Int) (hC : ClsAt ty ad ct yc hc yn yM yd yu hy hg hf) (z9 : Int) (hz9 : r32 z9) : vx_Met l yX5_heapNumbered wsX5_heapNumbered ({ frames := 6, cells := 1, slots := 6, locals := 82 }) (rm_PX D ty ad ct sz [.ref (ad 0), .int (jI z9)]) (rm_Qr D ad ct sz (fun rr ct1 => ∃ y9 : Nat, z9 = (y9 : Int) ∧ y9 < hc ∧ rr = 200 + 4 * y9 ∧ ct1 = ct)) (rm_XC D ad ct sz (fun E ct1 => E = xNSE ∧ (z9 < 0 ∨ ((hc : Nat) : Int) ≤ z9) ∧ ct1 = ct)) 1 6 (rm_A ad ct sz) := by
  refine vx_ofW (cc := cX5_heapNumbered) (maxL := 3) (ret := (some (.object "GrainYard$Heap"))) (by decide) rfl ?_
  intro p e s m args below meth c s₁ B hml hout hv
  obtain ⟨hargs, ⟨hsz, hW, hK, hNw⟩, hE, hU⟩ := hv
  have hx := B.exec
  have hb := B.bytes
  have hr := B.returns
  have hts := atoms_spec (ws := wsX5_heapNumbered) B.pre
  have hown : s.vm.findClass RX5 = some m.cls := findClass_of_methodNamed B.named
  have hlocks := B.notSynchronized
  subst hsz
  have hW := hW.own (sz := s.heap.size)
  have hA : ∀ q : Nat, s.heap.size ≤ q → rm_A ad ct s.heap.size q := fun q h => Or.inr h
  have hS : va_S (rm_A ad ct s.heap.size) s.heap s.heap [] := va_S.rf
  have hent : entryFrame m args 3 = entryFrame m ([.ref (ad 0), .int (jI z9)] : List Value).toArray 3 := by rw [hargs]
  have hl := lv_entry ([.ref (ad 0), .int (jI z9)]) (n := 3) (Nat.le_of_ble_eq_true rfl)
  rw [hent, lg_entry_eq]
  generalize (lg_sl ([.ref (ad 0), .int (jI z9)]) ++ List.replicate (3 - (lg_sl ([.ref (ad 0), .int (jI z9)])).length) Slot.unset).toArray = ls at hl ⊢
  have hl : lv_has ls 3 [(0, .ref (ad 0)), (1, .int (jI z9))] := hl
  have hb6 := hC.1.1
  have hb20 := hC.1.2
  refine lv_iload_n hx hb dX5_heapNumbered_0 rfl (lv_at hl 1 rfl) ?_
  refine rm_if_lt (tgt := 21) hx hb ⟨by omega, by omega⟩ dX5_heapNumbered_1 (by decide) (fun hc_1 => ?_) (fun hc_1 => ?_)
  · skip
    refine lv_null hx hb dX5_heapNumbered_21 ?_
    refine lv_astore_nN (lv' := [(2, .null), (0, .ref (ad 0)), (1, .int (jI z9))]) hx hb dX5_heapNumbered_22 rfl hl (by decide) rfl (fun ls hl => ?_)
    refine lv_aload_nN hx hb dX5_heapNumbered_23 rfl (lv_at hl 0 rfl) ?_
    refine lv_ifnonnullN hx hb dX5_heapNumbered_24 ?_
    exact rm_throwN (cls := "java/util/NoSuchElementException") (text := "no such heap") (ct := ct) hx hb hlf hown (by decide +kernel) (hts (.classLink RX5 91 "java/util/NoSuchElementException") (by decide +kernel)) (hts (.initialized "java/util/NoSuchElementException") (by decide +kernel)) (fun w hw => hts w (by first | exact List.mem_cons_of_mem _ (List.mem_append_right _ hw) | exact List.mem_cons_of_mem _ (List.mem_append_left _ (List.mem_append_right _ hw)))) (by decide +kernel) (by decide +kernel) (by decide +kernel) hE hU hW hS (hl.1.trans hml.symm) dX5_heapNumbered_27 dX5_heapNumbered_30 dX5_heapNumbered_31 dX5_heapNumbered_33 dX5_heapNumbered_36 hout (Nat.le_of_ble_eq_true rfl) (Nat.le_of_ble_eq_true rfl) (Nat.le_of_ble_eq_true rfl) (Nat.le_of_ble_eq_true rfl) hlocks (⟨rfl, Or.inl (by omega), rfl⟩) (Nat.le_of_ble_eq_true rfl) (Nat.le_of_ble_eq_true rfl)
  · skip
    refine lv_iload_n hx hb dX5_heapNumbered_4 rfl (lv_at hl 1 rfl) ?_
    refine lv_aload_n hx hb dX5_heapNumbered_5 rfl (lv_at hl 0 rfl) ?_
    refine rm_get (ci := 5) (v := .int (jI ((hc : Nat) : Int))) (C := RX5) (T := TX5) (N := 7) hx hb hts (by decide +kernel) hown hK hW hC.2.1.1 rfl 3 (by decide) (hts (.fieldLink RX5 25 "GrainYard" "heapCount" "I") (by decide +kernel)) (fun _ h9 => h9) rfl dX5_heapNumbered_6 ?_
    refine rm_icmp_ge (tgt := 21) hx hb ⟨by omega, by omega⟩ ⟨by omega, by omega⟩ dX5_heapNumbered_9 (by decide) (fun hc_2 => ?_) (fun hc_2 => ?_)
    · skip
      refine lv_null hx hb dX5_heapNumbered_21 ?_
      refine lv_astore_nN (lv' := [(2, .null), (0, .ref (ad 0)), (1, .int (jI z9))]) hx hb dX5_heapNumbered_22 rfl hl (by decide) rfl (fun ls hl => ?_)
      refine lv_aload_nN hx hb dX5_heapNumbered_23 rfl (lv_at hl 0 rfl) ?_
      refine lv_ifnonnullN hx hb dX5_heapNumbered_24 ?_
      exact rm_throwN (cls := "java/util/NoSuchElementException") (text := "no such heap") (ct := ct) hx hb hlf hown (by decide +kernel) (hts (.classLink RX5 91 "java/util/NoSuchElementException") (by decide +kernel)) (hts (.initialized "java/util/NoSuchElementException") (by decide +kernel)) (fun w hw => hts w (by first | exact List.mem_cons_of_mem _ (List.mem_append_right _ hw) | exact List.mem_cons_of_mem _ (List.mem_append_left _ (List.mem_append_right _ hw)))) (by decide +kernel) (by decide +kernel) (by decide +kernel) hE hU hW hS (hl.1.trans hml.symm) dX5_heapNumbered_27 dX5_heapNumbered_30 dX5_heapNumbered_31 dX5_heapNumbered_33 dX5_heapNumbered_36 hout (Nat.le_of_ble_eq_true rfl) (Nat.le_of_ble_eq_true rfl) (Nat.le_of_ble_eq_true rfl) (Nat.le_of_ble_eq_true rfl) hlocks (⟨rfl, Or.inr (by omega), rfl⟩) (Nat.le_of_ble_eq_true rfl) (Nat.le_of_ble_eq_true rfl)
    · skip
      obtain ⟨y9, hy9⟩ : ∃ y9 : Nat, z9 = (y9 : Int) := ⟨z9.toNat, by omega⟩
      subst hy9
      refine lv_aload_n hx hb dX5_heapNumbered_12 rfl (lv_at hl 0 rfl) ?_
      refine rm_get (ci := 5) (v := .ref (ad 2)) (C := RX5) (T := TX5) (N := 7) hx hb hts (by decide +kernel) hown hK hW hC.2.1.1 rfl 1 (by decide) (hts (.fieldLink RX5 17 "GrainYard" "heaps" "[LGrainYard$Heap;") (by decide +kernel)) (fun _ h9 => h9) rfl dX5_heapNumbered_13 ?_
      refine lv_iload_n hx hb dX5_heapNumbered_16 rfl (lv_at hl 1 rfl) ?_
      refine rm_aald hx hb hK hW (f := (fun i => if i < hc then some (ad (200 + 4 * i)) else none)) hC.2.1.2.2 rfl rfl y9 rfl (by omega) (by omega) dX5_heapNumbered_17 (congrArg va_rf (if_pos (by omega))) ?_
      refine lv_goto (tgt := 22) hx hb dX5_heapNumbered_18 (by decide) ?_
      refine lv_astore_n (lv' := [(2, .ref (ad (200 + 4 * y9))), (0, .ref (ad 0)), (1, .int (jI ((y9 : Nat) : Int)))]) hx hb dX5_heapNumbered_22 rfl hl (by decide) rfl (fun ls hl => ?_)
      refine lv_aload_n hx hb dX5_heapNumbered_23 rfl (lv_at hl 0 rfl) ?_
      refine lv_ifnonnull (tgt := 37) hx hb dX5_heapNumbered_24 (by decide) ?_
      refine lv_aload_n hx hb dX5_heapNumbered_37 rfl (lv_at hl 0 rfl) ?_
      refine vx_ret ?_
      refine W.widen (k := 1) (n := 6) (by omega) (by omega) ?_
      exact W.aret hx hb hr (by first | exact Or.inl ⟨_, rfl⟩ | exact Or.inr ⟨_, rfl⟩) (Or.inr ⟨_, rfl⟩) (fun t ht hw => ⟨⟨((200 + 4 * y9), ct), _, rfl, ⟨y9, rfl, by omega, rfl, rfl⟩, rfl, by show rm_W D ad _ _ t.heap; rw [ht]; exact hW⟩, hS.F ht⟩) hS.2.2 dX5_heapNumbered_38
