set_option maxHeartbeats 4000000 in
set_option maxRecDepth 100000 in
theorem c_X4_lay (l : Launch) (D : va_G) (ty : Nat → ClassId) (ad : Nat → Nat) (ct : rm_C) (sz : Nat) (yr n : Nat) (M : Nat → Nat → Int) (d : Nat → Int) (u : Int) (a b : Nat) (v : Int) (ha9 : a < n) (hb9 : b < n) (hab : a ≠ b) (hn8 : n ≤ 8) (hY : YardAt ty ad ct yr n M d u) : Met l yX4_lay wsX4_lay ({ frames := 0, cells := 0, slots := 0, locals := 0 }) (rm_P D ty ad ct sz [.ref (ad yr), .int (jI ((a : Nat) : Int)), .int (jI ((b : Nat) : Int)), .int (jI v)]) (rm_Qi D ad ct sz (fun z ct1 => z = M a b ∧ YardAt ty ad ct1 yr n (lyM M a b v) (lyd d a b (v - M a b)) u ∧ ∀ q, (q < yr ∨ yr + 10 < q) → ct1 q = ct q)) 0 0 (rm_A ad ct sz) := by
  refine Met.ofW (cc := cX4_lay) (maxL := 5) (ret := (some .int)) (by decide) rfl ?_
  intro p e s m args below meth c s₁ B hml hv
  obtain ⟨hargs, hsz, hW, hK, hNw⟩ := hv
  have hx := B.exec
  have hb := B.bytes
  have hr := B.returns
  have hts := atoms_spec (ws := wsX4_lay) B.pre
  have hown : s.vm.findClass RX4 = some m.cls := findClass_of_methodNamed B.named
  have hlocks := B.notSynchronized
  subst hsz
  have hW := hW.own (sz := s.heap.size)
  have hA : ∀ q : Nat, s.heap.size ≤ q → rm_A ad ct s.heap.size q := fun q h => Or.inr h
  have hS : va_S (rm_A ad ct s.heap.size) s.heap s.heap [] := va_S.rf
  have hent : entryFrame m args 5 = entryFrame m ([.ref (ad yr), .int (jI ((a : Nat) : Int)), .int (jI ((b : Nat) : Int)), .int (jI v)] : List Value).toArray 5 := by rw [hargs]
  have hl := lv_entry ([.ref (ad yr), .int (jI ((a : Nat) : Int)), .int (jI ((b : Nat) : Int)), .int (jI v)]) (n := 5) (Nat.le_of_ble_eq_true rfl)
  rw [hent, lg_entry_eq]
  generalize (lg_sl ([.ref (ad yr), .int (jI ((a : Nat) : Int)), .int (jI ((b : Nat) : Int)), .int (jI v)]) ++ List.replicate (5 - (lg_sl ([.ref (ad yr), .int (jI ((a : Nat) : Int)), .int (jI ((b : Nat) : Int)), .int (jI v)])).length) Slot.unset).toArray = ls at hl ⊢
  have hl : lv_has ls 5 [(0, .ref (ad yr)), (1, .int (jI ((a : Nat) : Int))), (2, .int (jI ((b : Nat) : Int))), (3, .int (jI v))] := hl
  have hTb : ∀ i9, i9 < 8 → ct (yr + 1 + 1 + i9) = some (ri ty 8 (M i9)) := fun i9 hi9 => hY.2.2.1 i9 hi9
  refine lv_aload_n hx hb dX4_lay_0 rfl (lv_at hl 0 rfl) ?_
  refine rm_get (ci := 4) (v := .ref (ad (yr + 1))) (C := RX4) (T := TX4) (N := 4) hx hb hts (by decide +kernel) hown hK hW hY.1 rfl 1 (by decide) (hts (.fieldLink RX4 17 "GrainYard$Yard" "paths" "[[I") (by decide +kernel)) (fun _ h9 => h9) rfl dX4_lay_1 ?_
  refine lv_iload_n hx hb dX4_lay_4 rfl (lv_at hl 1 rfl) ?_
  refine rm_aald hx hb hK hW (f := (fun i => if i < 8 then some (ad (yr + 1 + 1 + i)) else none)) hY.2.1 rfl rfl a rfl (by omega) (by omega) dX4_lay_5 (congrArg va_rf (if_pos (by omega))) ?_
  refine lv_iload_n hx hb dX4_lay_6 rfl (lv_at hl 2 rfl) ?_
  refine rm_iald hx hb hK hW (f := (M a)) (hTb a (by omega)) b rfl (by omega) (by omega) dX4_lay_7 ?_
  refine lv_istore (lv' := [(4, .int (jI ((M a) b))), (0, .ref (ad yr)), (1, .int (jI ((a : Nat) : Int))), (2, .int (jI ((b : Nat) : Int))), (3, .int (jI v))]) hx hb dX4_lay_8 hl (by decide) rfl (fun ls hl => ?_)
  refine lv_aload_n hx hb dX4_lay_10 rfl (lv_at hl 1 rfl) ?_
  refine rm_get (ci := 4) (v := .ref (ad (yr + 1))) (C := RX4) (T := TX4) (N := 4) hx hb hts (by decide +kernel) hown hK hW hY.1 rfl 1 (by decide) (hts (.fieldLink RX4 17 "GrainYard$Yard" "paths" "[[I") (by decide +kernel)) (fun _ h9 => h9) rfl dX4_lay_11 ?_
  refine lv_iload_n hx hb dX4_lay_14 rfl (lv_at hl 2 rfl) ?_
  refine rm_aald hx hb hK hW (f := (fun i => if i < 8 then some (ad (yr + 1 + 1 + i)) else none)) hY.2.1 rfl rfl a rfl (by omega) (by omega) dX4_lay_15 (congrArg va_rf (if_pos (by omega))) ?_
  refine lv_iload_n hx hb dX4_lay_16 rfl (lv_at hl 3 rfl) ?_
  refine lv_iload_n hx hb dX4_lay_17 rfl (lv_at hl 4 rfl) ?_
  refine rm_iast hx hb hK hW hS (f := (M a)) (hTb a (by omega)) b rfl (by omega) (by omega) dX4_lay_18 (fun H locs ct_1 hs_1 ho_1 hW hS hz_1 => ?_)
  have hof_1 : ∀ q, (q < yr + 1 + 1 ∨ yr + 1 + 1 + 7 < q) → q ≠ (yr + 10) → ct_1 q = ct q := fun q h0_1 h1_1 => (ho_1 q (by omega)).trans rfl
  have hm0_1 : ∀ i9, i9 < 8 → ct_1 (yr + 1 + 1 + i9) = some (ri ty 8 ((ub M a (ub (M a) b v)) i9)) := fun i9 hi9 => by
    by_cases e9 : i9 = a
    · rw [e9, ub_s]; exact hs_1
    · rw [ub_n _ _ e9]; exact (ho_1 _ (by omega)).trans (hTb i9 hi9)
  have hm1_1 : ct_1 (yr + 10) = some (ri ty 8 d) := (ho_1 (yr + 10) (by omega)).trans hY.2.2.2
  refine lv_aload_n hx hb dX4_lay_19 rfl (lv_at hl 1 rfl) ?_
  refine rm_get (ci := 4) (v := .ref (ad (yr + 1))) (C := RX4) (T := TX4) (N := 4) hx hb hts (by decide +kernel) hown hK hW ((hof_1 yr (by omega) (by omega)).trans hY.1) rfl 1 (by decide) (hts (.fieldLink RX4 17 "GrainYard$Yard" "paths" "[[I") (by decide +kernel)) (fun _ h9 => h9) rfl dX4_lay_20 ?_
  refine lv_iload_n hx hb dX4_lay_23 rfl (lv_at hl 3 rfl) ?_
  refine rm_aald hx hb hK hW (f := (fun i => if i < 8 then some (ad (yr + 1 + 1 + i)) else none)) ((hof_1 (yr + 1) (by omega) (by omega)).trans hY.2.1) rfl rfl b rfl (by omega) (by omega) dX4_lay_24 (congrArg va_rf (if_pos (by omega))) ?_
  refine lv_iload_n hx hb dX4_lay_25 rfl (lv_at hl 2 rfl) ?_
  refine lv_iload_n hx hb dX4_lay_26 rfl (lv_at hl 4 rfl) ?_
  refine rm_iast hx hb hK hW hS (f := ((ub M a (ub (M a) b v)) b)) (hm0_1 b (by omega)) a rfl (by omega) (by omega) dX4_lay_27 (fun H locs ct_2 hs_2 ho_2 hW hS hz_2 => ?_)
  have hof_2 : ∀ q, (q < yr + 1 + 1 ∨ yr + 1 + 1 + 7 < q) → q ≠ (yr + 10) → ct_2 q = ct q := fun q h0_2 h1_2 => (ho_2 q (by omega)).trans (hof_1 q h0_2 h1_2)
  have hm0_2 : ∀ i9, i9 < 8 → ct_2 (yr + 1 + 1 + i9) = some (ri ty 8 ((ub (ub M a (ub (M a) b v)) b (ub ((ub M a (ub (M a) b v)) b) a v)) i9)) := fun i9 hi9 => by
    by_cases e9 : i9 = b
    · rw [e9, ub_s]; exact hs_2
    · rw [ub_n _ _ e9]; exact (ho_2 _ (by omega)).trans (hm0_1 i9 hi9)
  have hm1_2 : ct_2 (yr + 10) = some (ri ty 8 d) := (ho_2 (yr + 10) (by omega)).trans hm1_1
  refine lv_aload_n hx hb dX4_lay_28 rfl (lv_at hl 1 rfl) ?_
  refine rm_get (ci := 4) (v := .ref (ad (yr + 10))) (C := RX4) (T := TX4) (N := 4) hx hb hts (by decide +kernel) hown hK hW ((hof_2 yr (by omega) (by omega)).trans hY.1) rfl 2 (by decide) (hts (.fieldLink RX4 20 "GrainYard$Yard" "degrees" "[I") (by decide +kernel)) (fun _ h9 => h9) rfl dX4_lay_29 ?_
  refine lv_iload_n hx hb dX4_lay_32 rfl (lv_at hl 2 rfl) ?_
  refine lv_dup2_11 hx hb dX4_lay_33 rfl rfl ?_
  refine rm_iald hx hb hK hW (f := d) hm1_2 a rfl (by omega) (by omega) dX4_lay_34 ?_
  refine lv_iload_n hx hb dX4_lay_35 rfl (lv_at hl 4 rfl) ?_
  refine lv_iload hx hb dX4_lay_36 (lv_at hl 0 rfl) ?_
  refine rm_isub hx hb dX4_lay_38 ?_
  refine rm_iadd hx hb dX4_lay_39 ?_
  refine rm_iast hx hb hK hW hS (f := d) hm1_2 a rfl (by omega) (by omega) dX4_lay_40 (fun H locs ct_3 hs_3 ho_3 hW hS hz_3 => ?_)
  have hof_3 : ∀ q, (q < yr + 1 + 1 ∨ yr + 1 + 1 + 7 < q) → q ≠ (yr + 10) → ct_3 q = ct q := fun q h0_3 h1_3 => (ho_3 q h1_3).trans (hof_2 q h0_3 h1_3)
  have hm0_3 : ∀ i9, i9 < 8 → ct_3 (yr + 1 + 1 + i9) = some (ri ty 8 ((ub (ub M a (ub (M a) b v)) b (ub ((ub M a (ub (M a) b v)) b) a v)) i9)) := fun i9 hi9 => (ho_3 _ (by omega)).trans (hm0_2 i9 hi9)
  refine lv_aload_n hx hb dX4_lay_41 rfl (lv_at hl 1 rfl) ?_
  refine rm_get (ci := 4) (v := .ref (ad (yr + 10))) (C := RX4) (T := TX4) (N := 4) hx hb hts (by decide +kernel) hown hK hW ((hof_3 yr (by omega) (by omega)).trans hY.1) rfl 2 (by decide) (hts (.fieldLink RX4 20 "GrainYard$Yard" "degrees" "[I") (by decide +kernel)) (fun _ h9 => h9) rfl dX4_lay_42 ?_
  refine lv_iload_n hx hb dX4_lay_45 rfl (lv_at hl 3 rfl) ?_
  refine lv_dup2_11 hx hb dX4_lay_46 rfl rfl ?_
  refine rm_iald hx hb hK hW (f := (ub d a ((d a) + (v - ((M a) b))))) hs_3 b rfl (by omega) (by omega) dX4_lay_47 ?_
  refine lv_iload_n hx hb dX4_lay_48 rfl (lv_at hl 4 rfl) ?_
  refine lv_iload hx hb dX4_lay_49 (lv_at hl 0 rfl) ?_
  refine rm_isub hx hb dX4_lay_51 ?_
  refine rm_iadd hx hb dX4_lay_52 ?_
  refine rm_iast hx hb hK hW hS (f := (ub d a ((d a) + (v - ((M a) b))))) hs_3 b rfl (by omega) (by omega) dX4_lay_53 (fun H locs ct_4 hs_4 ho_4 hW hS hz_4 => ?_)
  have hof_4 : ∀ q, (q < yr + 1 + 1 ∨ yr + 1 + 1 + 7 < q) → q ≠ (yr + 10) → ct_4 q = ct q := fun q h0_4 h1_4 => (ho_4 q h1_4).trans (hof_3 q h0_4 h1_4)
  have hm0_4 : ∀ i9, i9 < 8 → ct_4 (yr + 1 + 1 + i9) = some (ri ty 8 ((ub (ub M a (ub (M a) b v)) b (ub ((ub M a (ub (M a) b v)) b) a v)) i9)) := fun i9 hi9 => (ho_4 _ (by omega)).trans (hm0_3 i9 hi9)
  refine lv_iload hx hb dX4_lay_54 (lv_at hl 0 rfl) ?_
  have hk_5 : ∀ i9, i9 < 8 → ct_4 (yr + 1 + 1 + i9) = some (ri ty 8 ((lyM M a b v) i9)) := by rw [← (show (ub (ub M a (ub (M a) b v)) b (ub ((ub M a (ub (M a) b v)) b) a v)) = (lyM M a b v) from lyM_eq hab)]; exact hm0_4
  have hd9 : ct_4 (yr + 10) = some (ri ty 8 (lyd d a b (v - M a b))) := by rw [← lyd_eq hab]; exact hs_4
  exact W.iret hx hb hr (fun t ht hw => ⟨⟨_, ((M a b), ct_4), rfl, ⟨rfl, ⟨rfl, ⟨((hof_4 yr (by omega) (by omega)).trans hY.1), ((hof_4 (yr + 1) (by omega) (by omega)).trans hY.2.1), hk_5, hd9⟩, fun q hq => hof_4 q (by omega) (by omega)⟩⟩, by show rm_W D ad _ _ t.heap; rw [ht]; exact hW⟩, hS.F ht⟩) hS.2.2 dX4_lay_56
set_option maxHeartbeats 4000000 in
set_option maxRecDepth 100000 in
theorem c_X1_calm (l : Launch) (D : va_G) (ty : Nat → ClassId) (ad : Nat → Nat) (ct : rm_C) (sz : Nat) (yr n : Nat) (M : Nat → Nat → Int) (d : Nat → Int) (u : Int) (hp : Nat) (g f : Nat → Int) (hH : HeapAt ty ad ct hp yr g f) (hhy : hp + 2 < yr ∨ yr + 10 < hp) (hy : yok n M) (hY : YardAt ty ad ct yr n M d u) (hdd : ∀ i, i < 8 → d i = dg n M i) (hd1 : ∀ i, 1 ≤ i → i < n → 1 ≤ dg n M i) (hd0 : ∀ i, i < 8 → 0 ≤ d i ∧ d i ≤ 21) (hg0 : ∀ q, 1 ≤ q → q < n → 0 ≤ g q) (hB : psum n g ≤ 1000000000000) (hT : ∃ s0, s0 < 1000000 ∧ its n M g up1 (s0 + 1) = its n M g up1 s0) : Met l yX1_calm wsX1_calm ({ frames := 2, cells := 0, slots := 0, locals := 54 }) (rm_P D ty ad ct sz [.ref (ad hp)]) (rm_Ql D ad ct sz (fun z ct1 => ∃ v, stl n M g v ∧ z = gs v n ∧ HeapAt ty ad ct1 hp yr (gaf n M g v) v ∧ ∀ q, q ≠ hp + 1 → q ≠ hp + 2 → ct1 q = ct q)) 0 0 (rm_A ad ct sz) := by
  refine Met.ofW (cc := cX1_calm) (maxL := 1) (ret := (some .long)) (by decide) rfl ?_
  intro p e s m args below meth c s₁ B hml hv
  obtain ⟨hargs, hsz, hW, hK, hNw⟩ := hv
  have hx := B.exec
  have hb := B.bytes
  have hr := B.returns
  have hts := atoms_spec (ws := wsX1_calm) B.pre
  have hown : s.vm.findClass RX1 = some m.cls := findClass_of_methodNamed B.named
  have hlocks := B.notSynchronized
  subst hsz
  have hW := hW.own (sz := s.heap.size)
  have hA : ∀ q : Nat, s.heap.size ≤ q → rm_A ad ct s.heap.size q := fun q h => Or.inr h
  have hS : va_S (rm_A ad ct s.heap.size) s.heap s.heap [] := va_S.rf
  have hent : entryFrame m args 1 = entryFrame m ([.ref (ad hp)] : List Value).toArray 1 := by rw [hargs]
  have hl := lv_entry ([.ref (ad hp)]) (n := 1) (Nat.le_of_ble_eq_true rfl)
  rw [hent, lg_entry_eq]
  generalize (lg_sl ([.ref (ad hp)]) ++ List.replicate (1 - (lg_sl ([.ref (ad hp)])).length) Slot.unset).toArray = ls at hl ⊢
  have hl : lv_has ls 1 [(0, .ref (ad hp))] := hl
  refine lv_aload_n hx hb dX1_calm_0 rfl (lv_at hl 0 rfl) ?_
  refine rm_get (ci := 1) (v := .ref (ad yr)) (C := RX1) (T := TX1) (N := 3) hx hb hts (by decide +kernel) hown hK hW hH.1 rfl 0 (by decide) (hts (.fieldLink RX1 9 "GrainYard$Heap" "yard" "LGrainYard$Yard;") (by decide +kernel)) (fun _ h9 => h9) rfl dX1_calm_1 ?_
  refine lv_aload_n hx hb dX1_calm_4 rfl (lv_at hl 0 rfl) ?_
  refine rm_get (ci := 1) (v := .ref (ad (hp + 1))) (C := RX1) (T := TX1) (N := 3) hx hb hts (by decide +kernel) hown hK hW hH.1 rfl 1 (by decide) (hts (.fieldLink RX1 15 "GrainYard$Heap" "grains" "[J") (by decide +kernel)) (fun _ h9 => h9) rfl dX1_calm_5 ?_
  refine lv_aload_n hx hb dX1_calm_8 rfl (lv_at hl 0 rfl) ?_
  refine rm_get (ci := 1) (v := .ref (ad (hp + 2))) (C := RX1) (T := TX1) (N := 3) hx hb hts (by decide +kernel) hown hK hW hH.1 rfl 2 (by decide) (hts (.fieldLink RX1 19 "GrainYard$Heap" "falls" "[J") (by decide +kernel)) (fun _ h9 => h9) rfl dX1_calm_9 ?_
  refine rm_calll (va_runV (As := [.ref (ad (hp + 1)), .ref (ad (hp + 2))]) (rest := []) ⟨hx, hb, hml, hown, hts⟩ (c_X4_calm l D ty ad ct s.heap.size yr n M d u (hp + 1) (hp + 2) g f hy hY hdd hd1 hd0 (by omega) (by omega) (by omega) hH.2.1 hH.2.2 hg0 hB hT) (cwV 2 hts gX1_calm_X4_calm rfl rfl rfl (by decide +kernel) ⟨Nat.le_of_ble_eq_true rfl, Nat.le_of_ble_eq_true rfl⟩) (rm_preV hK hNw hW hY.1 rfl) rfl rfl hl.1 rfl (lv_room (Nat.le_of_ble_eq_true rfl)) dX1_calm_12 ⟨Nat.zero_le _, Nat.zero_le _⟩) hW hS hA (fun z_1 ct_1 H locs hq_1 hW hS => ?_)
  obtain ⟨v, hv1, hv2, hq1, hq2, hq3⟩ := hq_1
  have ho_1 : ∀ q, q ≠ (hp + 1) → q ≠ (hp + 2) → ct_1 q = ct q := hq3
  have hof_1 : ∀ q, q ≠ (hp + 1) → q ≠ (hp + 2) → ct_1 q = ct q := fun q h0_1 h1_1 => (ho_1 q h0_1 h1_1).trans rfl
  have hm0_1 : ct_1 (hp + 1) = some (rl ty 8 (gaf n M g v)) := hq1
  have hm1_1 : ct_1 (hp + 2) = some (rl ty 8 v) := hq2
  exact W.lret hx hb hr (fun t ht hw => ⟨⟨_, (z_1, ct_1), rfl, ⟨rfl, ⟨v, hv1, hv2, ⟨((hof_1 hp (by omega) (by omega)).trans hH.1), hm0_1, hm1_1⟩, fun q h1 h2 => hof_1 q h1 h2⟩⟩, by show rm_W D ad _ _ t.heap; rw [ht]; exact hW⟩, hS.F ht⟩) hS.2.2 dX1_calm_15
set_option maxHeartbeats 4000000 in
set_option maxRecDepth 100000 in
theorem c_X1_take (l : Launch) (D : va_G) (ty : Nat → ClassId) (ad : Nat → Nat) (ct : rm_C) (sz : Nat) (yr n : Nat) (M : Nat → Nat → Int) (d : Nat → Int) (u : Int) (hp : Nat) (g f : Nat → Int) (hH : HeapAt ty ad ct hp yr g f) (hhy : hp + 2 < yr ∨ yr + 10 < hp) (wr : Nat) (w9 : Nat → Int) (hw9 : ct wr = some (rl ty 8 w9)) (hwr : wr ≠ hp + 1) (hn : 1 ≤ n ∧ n ≤ 8) (hY : YardAt ty ad ct yr n M d u) : Met l yX1_take wsX1_take ({ frames := 0, cells := 0, slots := 0, locals := 0 }) (rm_P D ty ad ct sz [.ref (ad hp), .ref (ad wr)]) (rm_Qv D ad ct sz 0 (fun ct1 => ct1 (hp + 1) = some (rl ty 8 (tkn n w9 g)) ∧ ∀ q, q ≠ hp + 1 → ct1 q = ct q)) 0 0 (rm_A ad ct sz) := by
  refine Met.ofW (cc := cX1_take) (maxL := 3) (ret := none) (by decide) rfl ?_
  intro p e s m args below meth c s₁ B hml hv
  obtain ⟨hargs, hsz, hW, hK, hNw⟩ := hv
  have hx := B.exec
  have hb := B.bytes
  have hr := B.returns
  have hts := atoms_spec (ws := wsX1_take) B.pre
  have hown : s.vm.findClass RX1 = some m.cls := findClass_of_methodNamed B.named
  have hlocks := B.notSynchronized
  subst hsz
  have hW := hW.own (sz := s.heap.size)
  have hA : ∀ q : Nat, s.heap.size ≤ q → rm_A ad ct s.heap.size q := fun q h => Or.inr h
  have hS : va_S (rm_A ad ct s.heap.size) s.heap s.heap [] := va_S.rf
  have hent : entryFrame m args 3 = entryFrame m ([.ref (ad hp), .ref (ad wr)] : List Value).toArray 3 := by rw [hargs]
  have hl := lv_entry ([.ref (ad hp), .ref (ad wr)]) (n := 3) (Nat.le_of_ble_eq_true rfl)
  rw [hent, lg_entry_eq]
  generalize (lg_sl ([.ref (ad hp), .ref (ad wr)]) ++ List.replicate (3 - (lg_sl ([.ref (ad hp), .ref (ad wr)])).length) Slot.unset).toArray = ls at hl ⊢
  have hl : lv_has ls 3 [(0, .ref (ad hp)), (1, .ref (ad wr))] := hl
  refine lv_iconst (v := jI 1) hx hb dX1_take_0 rfl ?_
  refine lv_istore_n (lv' := [(2, .int (jI 1)), (0, .ref (ad hp)), (1, .ref (ad wr))]) hx hb dX1_take_1 rfl hl (by decide) rfl (fun ls hl => ?_)
  have hk0 : ct (hp + 1) = some (rl ty 8 (tkn 1 w9 g)) := hH.2.1.trans (congrArg (fun f => some (rl ty 8 f)) (tkn_0 w9 g))
  have LP : ∀ (k : Nat) (i : Nat) (hi : i ≤ n) (hi1 : 1 ≤ i), n - i < k → ∀ (ctv : rm_C) (H : Heap) (locs : List Loc), (ctv (hp + 1) = some (rl ty 8 (tkn i w9 g))) → ∀ (_ : True), (∀ q, q ≠ (hp + 1) → ctv q = ct q) → ∀ (_ : True), rm_W D ad ctv (rm_A ad ct s.heap.size) H → va_S (rm_A ad ct s.heap.size) s.heap H locs → ∀ ls : Array Slot, lv_has ls 3 [(2, .int (jI ((i : Nat) : Int))), (0, .ref (ad hp)), (1, .ref (ad wr))] → W p l e (headSpec wsX1_take ({ frames := 0, cells := 0, slots := 0, locals := 0 })).room s m args below meth c H locs 0 0 (MQ below (rm_Qv D ad ct s.heap.size 0 (fun ct1 => ct1 (hp + 1) = some (rl ty 8 (tkn n w9 g)) ∧ ∀ q, q ≠ hp + 1 → ct1 q = ct q)) args s 0 0 (rm_A ad ct s.heap.size)) (F0 m 2 ls []) := by
    intro k
    induction k with
    | zero => intro i hi hi1 hk; exact absurd hk (Nat.not_lt_zero _)
    | succ k ih_LP =>
      intro i hi hi1 hk ctv_1 H locs hv0_1 _ hofv_1 _ hW hS ls hl
      refine lv_iload_n hx hb dX1_take_2 rfl (lv_at hl 0 rfl) ?_
      refine lv_aload_n hx hb dX1_take_3 rfl (lv_at hl 1 rfl) ?_
      refine rm_get (ci := 1) (v := .ref (ad yr)) (C := RX1) (T := TX1) (N := 3) hx hb hts (by decide +kernel) hown hK hW ((hofv_1 hp (by omega)).trans hH.1) rfl 0 (by decide) (hts (.fieldLink RX1 9 "GrainYard$Heap" "yard" "LGrainYard$Yard;") (by decide +kernel)) (fun _ h9 => h9) rfl dX1_take_4 ?_
      refine rm_get (ci := 4) (v := .int (jI ((n : Nat) : Int))) (C := RX4) (T := TX4) (N := 4) hx hb hts (by decide +kernel) hown hK hW ((hofv_1 yr (by omega)).trans hY.1) rfl 0 (by decide) (hts (.fieldLink RX1 28 "GrainYard$Yard" "places" "I") (by decide +kernel)) (fun _ h9 => h9) rfl dX1_take_7 ?_
      refine rm_icmp_ge (tgt := 28) hx hb ⟨by omega, by omega⟩ ⟨by omega, by omega⟩ dX1_take_10 (by decide) (fun hc_2 => ?_) (fun hc_2 => ?_)
      · skip
        have hi : n = i := by omega
        subst hi
        exact W.vret hx hb hr (fun t ht hw => ⟨⟨ctv_1, rfl, ⟨hv0_1, fun q hq => hofv_1 q hq⟩, by show rm_W D ad _ _ t.heap; rw [ht]; exact hW, Or.inl rfl⟩, hS.F ht⟩) hS.2.2 dX1_take_28
      · skip
        refine lv_aload_n hx hb dX1_take_13 rfl (lv_at hl 1 rfl) ?_
        refine rm_get (ci := 1) (v := .ref (ad (hp + 1))) (C := RX1) (T := TX1) (N := 3) hx hb hts (by decide +kernel) hown hK hW ((hofv_1 hp (by omega)).trans hH.1) rfl 1 (by decide) (hts (.fieldLink RX1 15 "GrainYard$Heap" "grains" "[J") (by decide +kernel)) (fun _ h9 => h9) rfl dX1_take_14 ?_
        refine lv_iload_n hx hb dX1_take_17 rfl (lv_at hl 0 rfl) ?_
        refine lv_aload_n hx hb dX1_take_18 rfl (lv_at hl 2 rfl) ?_
        refine lv_iload_n hx hb dX1_take_19 rfl (lv_at hl 0 rfl) ?_
        refine rm_lald hx hb hK hW (f := w9) ((hofv_1 wr (by omega)).trans hw9) i rfl (by omega) (by omega) dX1_take_20 ?_
        refine rm_last hx hb hK hW hS (f := (tkn i w9 g)) hv0_1 i rfl (by omega) (by omega) dX1_take_21 (fun H locs ct_3 hs_3 ho_3 hW hS hz_3 => ?_)
        have hof_3 : ∀ q, q ≠ (hp + 1) → ct_3 q = ct q := fun q h0_3 => (ho_3 q h0_3).trans (hofv_1 q h0_3)
        have hk_4 : ct_3 (hp + 1) = some (rl ty 8 (tkn (i + 1) w9 g)) := hs_3.trans (congrArg (fun f => some (rl ty 8 f)) (tkn_s (by omega)))
        refine lv_iinc (v := jI (((i : Nat) : Int) + 1)) (lv' := [(2, .int (jI (((i : Nat) : Int) + 1))), (0, .ref (ad hp)), (1, .ref (ad wr))]) hx hb dX1_take_22 hl (k := 0) rfl (jI_add _ _) (by decide) rfl (fun ls hl => ?_)
        refine lv_goto (tgt := 2) hx hb dX1_take_25 (by decide) ?_
        exact ih_LP (i + 1) (by omega) (by omega) (by omega) ct_3 _ _ hk_4 trivial hof_3 trivial hW hS ls (lv_sub hl [0, 1, 2] rfl)
  exact LP (n + 1) (1) (by omega) (by omega) (by omega) ct _ _ hk0 trivial (fun _ _ => rfl) trivial hW hS ls (lv_sub hl [0, 1, 2] rfl)
