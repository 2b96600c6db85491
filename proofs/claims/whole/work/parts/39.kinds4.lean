set_option maxHeartbeats 4000000 in
set_option maxRecDepth 100000 in
theorem c_X2_howMany (l : Launch) (D : va_G) (ty : Nat → ClassId) (ad : Nat → Nat) (ct : rm_C) (sz : Nat) (yr n : Nat) (M : Nat → Nat → Int) (d : Nat → Int) (u : Int) (ko : Nat) (fu li so fa : Nat → Int) (T : Nat → Nat → Int) (hn : 2 ≤ n ∧ n ≤ 8) (hM : ∀ i j, 0 ≤ M i j ∧ M i j ≤ 3) (hd0 : ∀ i, i < 8 → 0 ≤ d i ∧ d i ≤ 21) (hR : jit n M (n - 1) = 2 ^ n - 1 → slr n (tfp n M d (fun _ => (0 : Int)) T n 0)) (hY : YardAt ty ad ct yr n M d u) (hKi : KindsAt ty ad ct ko fu li so fa T) (hko : ko + 14 < yr ∨ yr + 10 < ko) : Met l yX2_howMany wsX2_howMany ({ frames := 2, cells := 0, slots := 0, locals := 57 }) (rm_P D ty ad ct sz [.ref (ad ko), .ref (ad yr)]) (rm_Ql D ad ct sz (fun z ct1 => ∃ T1 : Nat → Nat → Int, ((jit n M (n - 1) = 2 ^ n - 1 ∧ z = (slv n (tfp n M d (fun _ => (0 : Int)) T n 0) (n - 1)).2) ∨ (jit n M (n - 1) ≠ 2 ^ n - 1 ∧ z = 0)) ∧ (∀ i9, i9 < 8 → ct1 (ko + 6 + 1 + i9) = some (rl ty 8 (T1 i9))) ∧ ∀ q, (q < ko + 6 + 1 ∨ ko + 6 + 1 + 7 < q) → ct1 q = ct q)) 0 0 (rm_A ad ct sz) := by
  refine Met.ofW (cc := cX2_howMany) (maxL := 2) (ret := (some .long)) (by decide) rfl ?_
  intro p e s m args below meth c s₁ B hml hv
  obtain ⟨hargs, hsz, hW, hK, hNw⟩ := hv
  have hx := B.exec
  have hb := B.bytes
  have hr := B.returns
  have hts := atoms_spec (ws := wsX2_howMany) B.pre
  have hown : s.vm.findClass RX2 = some m.cls := findClass_of_methodNamed B.named
  have hlocks := B.notSynchronized
  subst hsz
  have hW := hW.own (sz := s.heap.size)
  have hA : ∀ q : Nat, s.heap.size ≤ q → rm_A ad ct s.heap.size q := fun q h => Or.inr h
  have hS : va_S (rm_A ad ct s.heap.size) s.heap s.heap [] := va_S.rf
  have hent : entryFrame m args 2 = entryFrame m ([.ref (ad ko), .ref (ad yr)] : List Value).toArray 2 := by rw [hargs]
  have hl := lv_entry ([.ref (ad ko), .ref (ad yr)]) (n := 2) (Nat.le_of_ble_eq_true rfl)
  rw [hent, lg_entry_eq]
  generalize (lg_sl ([.ref (ad ko), .ref (ad yr)]) ++ List.replicate (2 - (lg_sl ([.ref (ad ko), .ref (ad yr)])).length) Slot.unset).toArray = ls at hl ⊢
  have hl : lv_has ls 2 [(0, .ref (ad ko)), (1, .ref (ad yr))] := hl
  have hTb : ∀ i9, i9 < 8 → ct (ko + 6 + 1 + i9) = some (rl ty 8 (T i9)) := fun i9 hi9 => hKi.2.2.2.2.2.2.2 i9 hi9
  refine lv_aload_n hx hb dX2_howMany_0 rfl (lv_at hl 1 rfl) ?_
  refine rm_calli (va_runV (As := []) (rest := []) ⟨hx, hb, hml, hown, hts⟩ (c_X4_isJoined l D ty ad ct s.heap.size yr n M d u hn.2 hn.1 hY hM) (cwV 0 hts gX2_howMany_X4_isJoined rfl rfl rfl (by decide +kernel) ⟨Nat.le_of_ble_eq_true rfl, Nat.le_of_ble_eq_true rfl⟩) (rm_preV hK hNw hW hY.1 rfl) rfl rfl hl.1 rfl (lv_room (Nat.le_of_ble_eq_true rfl)) dX2_howMany_1 ⟨Nat.zero_le _, Nat.zero_le _⟩) hW hS hA (fun z_1 ct_1 H locs hq_1 hW hS => ?_)
  obtain ⟨hz, hcc_1⟩ := hq_1
  have hcc_1 := hcc_1.symm
  subst hcc_1
  have hzr : z_1 = 0 ∨ z_1 = 1 := by rw [hz]; by_cases h : jit n M (n - 1) = 2 ^ n - 1 <;> simp [h]
  refine rm_if_eq (tgt := 19) hx hb ⟨by omega, by omega⟩ dX2_howMany_4 (by decide) (fun hc_2 => ?_) (fun hc_2 => ?_)
  · skip
    have hj : jit n M (n - 1) ≠ 2 ^ n - 1 := fun h => by rw [if_pos h] at hz; omega
    refine lv_lconst (v := jL 0) hx hb dX2_howMany_19 rfl ?_
    exact W.lret hx hb hr (fun t ht hw => ⟨⟨_, (0, ct), rfl, ⟨rfl, ⟨T, Or.inr ⟨hj, rfl⟩, hTb, fun q _ => rfl⟩⟩, by show rm_W D ad _ _ t.heap; rw [ht]; exact hW⟩, hS.F ht⟩) hS.2.2 dX2_howMany_20
  · skip
    have hj : jit n M (n - 1) = 2 ^ n - 1 := Classical.byContradiction fun h => by rw [if_neg h] at hz; omega
    refine lv_aload_n hx hb dX2_howMany_7 rfl (lv_at hl 0 rfl) ?_
    refine lv_aload_n hx hb dX2_howMany_8 rfl (lv_at hl 1 rfl) ?_
    refine lv_aload_n hx hb dX2_howMany_9 rfl (lv_at hl 0 rfl) ?_
    refine rm_get (ci := 2) (v := .ref (ad (ko + 1))) (C := RX2) (T := TX2) (N := 6) hx hb hts (by decide +kernel) hown hK hW hKi.1 rfl 0 (by decide) (hts (.fieldLink RX2 9 "GrainYard$Kinds" "zeros" "[J") (by decide +kernel)) (fun _ h9 => h9) rfl dX2_howMany_10 ?_
    refine rm_calll (va_runV (As := [.ref (ad yr), .ref (ad (ko + 1))]) (rest := []) ⟨hx, hb, hml, hown, hts⟩ (c_X2_solve l D ty ad ct H.size yr n M d u ko fu li so fa T (ko + 1) (fun _ => (0 : Int)) hKi.2.1 (by omega) hn hM hd0 (hR hj) hY hKi hko) (cwV 2 hts gX2_howMany_X2_solve rfl rfl rfl (by decide +kernel) ⟨Nat.le_of_ble_eq_true rfl, Nat.le_of_ble_eq_true rfl⟩) (rm_preV hK hNw hW hKi.1 rfl) rfl rfl hl.1 rfl (lv_room (Nat.le_of_ble_eq_true rfl)) dX2_howMany_13 ⟨Nat.zero_le _, Nat.zero_le _⟩) hW hS hA (fun z_3 ct_3 H locs hq_3 hW hS => ?_)
    obtain ⟨hz9, hq1, hq2⟩ := hq_3
    refine lv_goto (tgt := 20) hx hb dX2_howMany_16 (by decide) ?_
    exact W.lret hx hb hr (fun t ht hw => ⟨⟨_, (z_3, ct_3), rfl, ⟨rfl, ⟨_, Or.inl ⟨hj, hz9⟩, hq1, hq2⟩⟩, by show rm_W D ad _ _ t.heap; rw [ht]; exact hW⟩, hS.F ht⟩) hS.2.2 dX2_howMany_20
set_option maxHeartbeats 4000000 in
set_option maxRecDepth 100000 in
theorem c_X2_timesToNothing (l : Launch) (D : va_G) (ty : Nat → ClassId) (ad : Nat → Nat) (ct : rm_C) (sz : Nat) (yr n : Nat) (M : Nat → Nat → Int) (d : Nat → Int) (u : Int) (ko : Nat) (fu li so fa : Nat → Int) (T : Nat → Nat → Int) (gr gl : Nat) (g h9 : Nat → Int) (hg : ct gr = some (rl ty 8 g)) (hgl : ct gl = some (rl ty 8 h9)) (hgr : (gr < ko + 2 ∨ ko + 14 < gr) ∧ (gl < ko + 2 ∨ ko + 14 < gl)) (hg0 : ∀ q, 1 ≤ q → q < n → 0 ≤ g q) (hgB : psum n g ≤ 900000000) (hh0 : ∀ q, 1 ≤ q → q < n → 0 ≤ h9 q) (hhB : psum n h9 ≤ 900000000) (hy : yst n M) (hsv : ysv n M d) (hdd : ∀ i, i < 8 → d i = dg n M i) (hd0 : ∀ i, i < 8 → 0 ≤ d i ∧ d i ≤ 21) (hY : YardAt ty ad ct yr n M d u) (hKi : KindsAt ty ad ct ko fu li so fa T) (hko : ko + 14 < yr ∨ yr + 10 < ko) : Met l yX2_timesToNothing wsX2_timesToNothing ({ frames := 2, cells := 0, slots := 0, locals := 57 }) (rm_P D ty ad ct sz [.ref (ad ko), .ref (ad yr), .ref (ad gr), .ref (ad gl)]) (rm_Ql D ad ct sz (fun z ct1 => ∃ (li1 so1 fa1 : Nat → Int) (T1 : Nat → Nat → Int), (∀ q, 1 ≤ q → q < n → so1 q = sti n M g q - sti n M h9 q) ∧ z = (((slv n (tfp n M d so1 T n 0) (n - 1)).2.natAbs / cmg (slv n (tfp n M d so1 T n 0) (n - 1)).1 (slv n (tfp n M d so1 T n 0) (n - 1)).2.natAbs (n - 1) : Nat) : Int) ∧ (∀ i9, i9 < 8 → ct1 (ko + 6 + 1 + i9) = some (rl ty 8 (T1 i9))) ∧ ct1 (ko + 3) = some (rl ty 8 li1) ∧ ct1 (ko + 4) = some (rl ty 8 so1) ∧ ct1 (ko + 5) = some (rl ty 8 fa1) ∧ ∀ q, q ≠ ko + 3 → q ≠ ko + 4 → q ≠ ko + 5 → (q < ko + 6 + 1 ∨ ko + 6 + 1 + 7 < q) → ct1 q = ct q)) 0 0 (rm_A ad ct sz) := by
  refine Met.ofW (cc := cX2_timesToNothing) (maxL := 9) (ret := (some .long)) (by decide) rfl ?_
  intro p e s m args below meth c s₁ B hml hv
  obtain ⟨hargs, hsz, hW, hK, hNw⟩ := hv
  have hx := B.exec
  have hb := B.bytes
  have hr := B.returns
  have hts := atoms_spec (ws := wsX2_timesToNothing) B.pre
  have hown : s.vm.findClass RX2 = some m.cls := findClass_of_methodNamed B.named
  have hlocks := B.notSynchronized
  subst hsz
  have hW := hW.own (sz := s.heap.size)
  have hA : ∀ q : Nat, s.heap.size ≤ q → rm_A ad ct s.heap.size q := fun q h => Or.inr h
  have hS : va_S (rm_A ad ct s.heap.size) s.heap s.heap [] := va_S.rf
  have hent : entryFrame m args 9 = entryFrame m ([.ref (ad ko), .ref (ad yr), .ref (ad gr), .ref (ad gl)] : List Value).toArray 9 := by rw [hargs]
  have hl := lv_entry ([.ref (ad ko), .ref (ad yr), .ref (ad gr), .ref (ad gl)]) (n := 9) (Nat.le_of_ble_eq_true rfl)
  rw [hent, lg_entry_eq]
  generalize (lg_sl ([.ref (ad ko), .ref (ad yr), .ref (ad gr), .ref (ad gl)]) ++ List.replicate (9 - (lg_sl ([.ref (ad ko), .ref (ad yr), .ref (ad gr), .ref (ad gl)])).length) Slot.unset).toArray = ls at hl ⊢
  have hl : lv_has ls 9 [(0, .ref (ad ko)), (1, .ref (ad yr)), (2, .ref (ad gr)), (3, .ref (ad gl))] := hl
  have hTb : ∀ i9, i9 < 8 → ct (ko + 6 + 1 + i9) = some (rl ty 8 (T i9)) := fun i9 hi9 => hKi.2.2.2.2.2.2.2 i9 hi9
  have hn8 := hy.1.2.1
  have hn2 := hy.1.1
  have hM := hy.1.2.2.1
  refine lv_aload_n hx hb dX2_timesToNothing_0 rfl (lv_at hl 2 rfl) ?_
  refine lv_iconst (v := jI 0) hx hb dX2_timesToNothing_1 rfl ?_
  refine lv_aload_n hx hb dX2_timesToNothing_2 rfl (lv_at hl 0 rfl) ?_
  refine rm_get (ci := 2) (v := .ref (ad (ko + 4))) (C := RX2) (T := TX2) (N := 6) hx hb hts (by decide +kernel) hown hK hW hKi.1 rfl 3 (by decide) (hts (.fieldLink RX2 21 "GrainYard$Kinds" "source" "[J") (by decide +kernel)) (fun _ h9 => h9) rfl dX2_timesToNothing_3 ?_
  refine lv_iconst (v := jI 0) hx hb dX2_timesToNothing_6 rfl ?_
  refine lv_bipush (v := jI 8) hx hb dX2_timesToNothing_7 (by decide) ?_
  refine rm_copyl hx hb (hml.trans hl.1.symm) hown (hts (.methodLink RX2 52 arraycopyName) (by decide +kernel)) (hts (.native arraycopyName) (by decide +kernel)) (hts (.static arraycopyName) (by decide +kernel)) (hts (.initialized "java/lang/System") (by decide +kernel)) hK hW hS (f := g) (g := so) hg hKi.2.2.2.2.1 (by decide) (by decide) dX2_timesToNothing_9 (fun H locs ct_1 hs_1 ho_1 hW hS hz_1 => ?_)
  have hof_1 : ∀ q, q ≠ (ko + 3) → q ≠ (ko + 4) → q ≠ (ko + 5) → (q < ko + 6 + 1 ∨ ko + 6 + 1 + 7 < q) → ct_1 q = ct q := fun q h0_1 h1_1 h2_1 h3_1 => (ho_1 q h1_1).trans rfl
  have hm0_1 : ct_1 (ko + 3) = some (rl ty 8 li) := (ho_1 (ko + 3) (by omega)).trans hKi.2.2.2.1
  have hm2_1 : ct_1 (ko + 5) = some (rl ty 8 fa) := (ho_1 (ko + 5) (by omega)).trans hKi.2.2.2.2.2.1
  have hm3_1 : ∀ i9, i9 < 8 → ct_1 (ko + 6 + 1 + i9) = some (rl ty 8 (T i9)) := fun i9 hi9 => (ho_1 _ (by omega)).trans (hTb i9 hi9)
  refine lv_aload_n hx hb dX2_timesToNothing_12 rfl (lv_at hl 1 rfl) ?_
  refine lv_aload_n hx hb dX2_timesToNothing_13 rfl (lv_at hl 0 rfl) ?_
  refine rm_get (ci := 2) (v := .ref (ad (ko + 4))) (C := RX2) (T := TX2) (N := 6) hx hb hts (by decide +kernel) hown hK hW ((hof_1 ko (by omega) (by omega) (by omega) (by omega)).trans hKi.1) rfl 3 (by decide) (hts (.fieldLink RX2 21 "GrainYard$Kinds" "source" "[J") (by decide +kernel)) (fun _ h9 => h9) rfl dX2_timesToNothing_14 ?_
  refine lv_aload_n hx hb dX2_timesToNothing_17 rfl (lv_at hl 0 rfl) ?_
  refine rm_get (ci := 2) (v := .ref (ad (ko + 5))) (C := RX2) (T := TX2) (N := 6) hx hb hts (by decide +kernel) hown hK hW ((hof_1 ko (by omega) (by omega) (by omega) (by omega)).trans hKi.1) rfl 4 (by decide) (hts (.fieldLink RX2 24 "GrainYard$Kinds" "falls" "[J") (by decide +kernel)) (fun _ h9 => h9) rfl dX2_timesToNothing_18 ?_
  refine rm_calll (va_runV (As := [.ref (ad (ko + 4)), .ref (ad (ko + 5))]) (rest := []) ⟨hx, hb, hml, hown, hts⟩ (c_X4_calm l D ty ad ct_1 H.size yr n M d u (ko + 4) (ko + 5) g fa hy.1 (hY.kept (fun q h1 h2 => hof_1 q (by omega) (by omega) (by omega) (by omega))) hdd hy.2.1 hd0 (by omega) (by omega) (by omega) hs_1 hm2_1 hg0 (by omega) (hy.2.2 _ hg0 (by omega))) (cwV 2 hts gX2_timesToNothing_X4_calm rfl rfl rfl (by decide +kernel) ⟨Nat.le_of_ble_eq_true rfl, Nat.le_of_ble_eq_true rfl⟩) (rm_preV hK hNw hW ((hof_1 yr (by omega) (by omega) (by omega) (by omega)).trans hY.1) rfl) rfl rfl hl.1 rfl (lv_room (Nat.le_of_ble_eq_true rfl)) dX2_timesToNothing_21 ⟨Nat.zero_le _, Nat.zero_le _⟩) hW hS hA (fun z_2 ct_2 H locs hq_2 hW hS => ?_)
  obtain ⟨v8, hv8, -, hq1, hq2, hq3⟩ := hq_2
  have ho_2 : ∀ q, q ≠ (ko + 4) → q ≠ (ko + 5) → ct_2 q = ct_1 q := hq3
  have hof_2 : ∀ q, q ≠ (ko + 3) → q ≠ (ko + 4) → q ≠ (ko + 5) → (q < ko + 6 + 1 ∨ ko + 6 + 1 + 7 < q) → ct_2 q = ct q := fun q h0_2 h1_2 h2_2 h3_2 => (ho_2 q h1_2 h2_2).trans (hof_1 q h0_2 h1_2 h2_2 h3_2)
  have hm0_2 : ct_2 (ko + 3) = some (rl ty 8 li) := (ho_2 (ko + 3) (by omega) (by omega)).trans hm0_1
  have hm1_2 : ct_2 (ko + 4) = some (rl ty 8 (gaf n M g v8)) := hq1
  have hm2_2 : ct_2 (ko + 5) = some (rl ty 8 v8) := hq2
  have hm3_2 : ∀ i9, i9 < 8 → ct_2 (ko + 6 + 1 + i9) = some (rl ty 8 (T i9)) := fun i9 hi9 => (ho_2 _ (by omega) (by omega)).trans (hm3_1 i9 hi9)
  refine lv_pop2_2 hx hb dX2_timesToNothing_24 rfl ?_
  refine lv_aload_n hx hb dX2_timesToNothing_25 rfl (lv_at hl 3 rfl) ?_
  refine lv_iconst (v := jI 0) hx hb dX2_timesToNothing_26 rfl ?_
  refine lv_aload_n hx hb dX2_timesToNothing_27 rfl (lv_at hl 0 rfl) ?_
  refine rm_get (ci := 2) (v := .ref (ad (ko + 3))) (C := RX2) (T := TX2) (N := 6) hx hb hts (by decide +kernel) hown hK hW ((hof_2 ko (by omega) (by omega) (by omega) (by omega)).trans hKi.1) rfl 2 (by decide) (hts (.fieldLink RX2 18 "GrainYard$Kinds" "lift" "[J") (by decide +kernel)) (fun _ h9 => h9) rfl dX2_timesToNothing_28 ?_
  refine lv_iconst (v := jI 0) hx hb dX2_timesToNothing_31 rfl ?_
  refine lv_bipush (v := jI 8) hx hb dX2_timesToNothing_32 (by decide) ?_
  refine rm_copyl hx hb (hml.trans hl.1.symm) hown (hts (.methodLink RX2 52 arraycopyName) (by decide +kernel)) (hts (.native arraycopyName) (by decide +kernel)) (hts (.static arraycopyName) (by decide +kernel)) (hts (.initialized "java/lang/System") (by decide +kernel)) hK hW hS (f := h9) (g := li) ((hof_2 gl (by omega) (by omega) (by omega) (by omega)).trans hgl) hm0_2 (by decide) (by decide) dX2_timesToNothing_34 (fun H locs ct_3 hs_3 ho_3 hW hS hz_3 => ?_)
  have hof_3 : ∀ q, q ≠ (ko + 3) → q ≠ (ko + 4) → q ≠ (ko + 5) → (q < ko + 6 + 1 ∨ ko + 6 + 1 + 7 < q) → ct_3 q = ct q := fun q h0_3 h1_3 h2_3 h3_3 => (ho_3 q h0_3).trans (hof_2 q h0_3 h1_3 h2_3 h3_3)
  have hm1_3 : ct_3 (ko + 4) = some (rl ty 8 (gaf n M g v8)) := (ho_3 (ko + 4) (by omega)).trans hm1_2
  have hm2_3 : ct_3 (ko + 5) = some (rl ty 8 v8) := (ho_3 (ko + 5) (by omega)).trans hm2_2
  have hm3_3 : ∀ i9, i9 < 8 → ct_3 (ko + 6 + 1 + i9) = some (rl ty 8 (T i9)) := fun i9 hi9 => (ho_3 _ (by omega)).trans (hm3_2 i9 hi9)
  refine lv_aload_n hx hb dX2_timesToNothing_37 rfl (lv_at hl 1 rfl) ?_
  refine lv_aload_n hx hb dX2_timesToNothing_38 rfl (lv_at hl 0 rfl) ?_
  refine rm_get (ci := 2) (v := .ref (ad (ko + 3))) (C := RX2) (T := TX2) (N := 6) hx hb hts (by decide +kernel) hown hK hW ((hof_3 ko (by omega) (by omega) (by omega) (by omega)).trans hKi.1) rfl 2 (by decide) (hts (.fieldLink RX2 18 "GrainYard$Kinds" "lift" "[J") (by decide +kernel)) (fun _ h9 => h9) rfl dX2_timesToNothing_39 ?_
  refine lv_aload_n hx hb dX2_timesToNothing_42 rfl (lv_at hl 0 rfl) ?_
  refine rm_get (ci := 2) (v := .ref (ad (ko + 5))) (C := RX2) (T := TX2) (N := 6) hx hb hts (by decide +kernel) hown hK hW ((hof_3 ko (by omega) (by omega) (by omega) (by omega)).trans hKi.1) rfl 4 (by decide) (hts (.fieldLink RX2 24 "GrainYard$Kinds" "falls" "[J") (by decide +kernel)) (fun _ h9 => h9) rfl dX2_timesToNothing_43 ?_
  refine rm_calll (va_runV (As := [.ref (ad (ko + 3)), .ref (ad (ko + 5))]) (rest := []) ⟨hx, hb, hml, hown, hts⟩ (c_X4_calm l D ty ad ct_3 H.size yr n M d u (ko + 3) (ko + 5) h9 v8 hy.1 (hY.kept (fun q h1 h2 => hof_3 q (by omega) (by omega) (by omega) (by omega))) hdd hy.2.1 hd0 (by omega) (by omega) (by omega) hs_3 hm2_3 hh0 (by omega) (hy.2.2 _ hh0 (by omega))) (cwV 2 hts gX2_timesToNothing_X4_calm rfl rfl rfl (by decide +kernel) ⟨Nat.le_of_ble_eq_true rfl, Nat.le_of_ble_eq_true rfl⟩) (rm_preV hK hNw hW ((hof_3 yr (by omega) (by omega) (by omega) (by omega)).trans hY.1) rfl) rfl rfl hl.1 rfl (lv_room (Nat.le_of_ble_eq_true rfl)) dX2_timesToNothing_46 ⟨Nat.zero_le _, Nat.zero_le _⟩) hW hS hA (fun z_4 ct_4 H locs hq_4 hW hS => ?_)
  obtain ⟨v9, hv9, -, hq1, hq2, hq3⟩ := hq_4
  have ho_4 : ∀ q, q ≠ (ko + 3) → q ≠ (ko + 5) → ct_4 q = ct_3 q := hq3
  have hof_4 : ∀ q, q ≠ (ko + 3) → q ≠ (ko + 4) → q ≠ (ko + 5) → (q < ko + 6 + 1 ∨ ko + 6 + 1 + 7 < q) → ct_4 q = ct q := fun q h0_4 h1_4 h2_4 h3_4 => (ho_4 q h0_4 h2_4).trans (hof_3 q h0_4 h1_4 h2_4 h3_4)
  have hm0_4 : ct_4 (ko + 3) = some (rl ty 8 (gaf n M h9 v9)) := hq1
  have hm1_4 : ct_4 (ko + 4) = some (rl ty 8 (gaf n M g v8)) := (ho_4 (ko + 4) (by omega) (by omega)).trans hm1_3
  have hm2_4 : ct_4 (ko + 5) = some (rl ty 8 v9) := hq2
  have hm3_4 : ∀ i9, i9 < 8 → ct_4 (ko + 6 + 1 + i9) = some (rl ty 8 (T i9)) := fun i9 hi9 => (ho_4 _ (by omega) (by omega)).trans (hm3_3 i9 hi9)
  have hsd : ∀ q, 1 ≤ q → q < n → gaf n M g v8 q - gaf n M h9 v9 q = sti n M g q - sti n M h9 q := fun q h1 h2 => by unfold gaf sti; rw [if_pos h2, if_pos h2, stv_eq hv8, stv_eq hv9]
  refine lv_pop2_2 hx hb dX2_timesToNothing_49 rfl ?_
  refine lv_iconst (v := jI 1) hx hb dX2_timesToNothing_50 rfl ?_
  refine lv_istore (lv' := [(4, .int (jI 1)), (0, .ref (ad ko)), (1, .ref (ad yr)), (2, .ref (ad gr)), (3, .ref (ad gl))]) hx hb dX2_timesToNothing_51 hl (by decide) rfl (fun ls hl => ?_)
  have hf1 : ct_4 (ko + 4) = some (rl ty 8 (fun q => if 1 ≤ q ∧ q < 1 then sti n M g q - sti n M h9 q else gaf n M g v8 q)) := hm1_4.trans (congrArg (fun f => some (rl ty 8 f)) (funext fun q => (if_neg (by omega)).symm))
  have LP : ∀ (k : Nat) (i : Nat) (hi : i ≤ n) (hi1 : 1 ≤ i), n - i < k → ∀ (ctv : rm_C) (H : Heap) (locs : List Loc), (ctv (ko + 3) = some (rl ty 8 (gaf n M h9 v9))) → ∀ (_ : True), (ctv (ko + 4) = some (rl ty 8 (fun q => if 1 ≤ q ∧ q < i then sti n M g q - sti n M h9 q else gaf n M g v8 q))) → ∀ (_ : True), (ctv (ko + 5) = some (rl ty 8 v9)) → ∀ (_ : True), (∀ i9, i9 < 8 → ctv (ko + 6 + 1 + i9) = some (rl ty 8 (T i9))) → ∀ (_ : True), (∀ q, q ≠ (ko + 3) → q ≠ (ko + 4) → q ≠ (ko + 5) → (q < ko + 6 + 1 ∨ ko + 6 + 1 + 7 < q) → ctv q = ct q) → ∀ (_ : True), rm_W D ad ctv (rm_A ad ct s.heap.size) H → va_S (rm_A ad ct s.heap.size) s.heap H locs → ∀ ls : Array Slot, lv_has ls 9 [(4, .int (jI ((i : Nat) : Int))), (0, .ref (ad ko)), (1, .ref (ad yr)), (2, .ref (ad gr)), (3, .ref (ad gl))] → W p l e (headSpec wsX2_timesToNothing ({ frames := 2, cells := 0, slots := 0, locals := 57 })).room s m args below meth c H locs 0 0 (MQ below (rm_Ql D ad ct s.heap.size (fun z ct1 => ∃ (li1 so1 fa1 : Nat → Int) (T1 : Nat → Nat → Int), (∀ q, 1 ≤ q → q < n → so1 q = sti n M g q - sti n M h9 q) ∧ z = (((slv n (tfp n M d so1 T n 0) (n - 1)).2.natAbs / cmg (slv n (tfp n M d so1 T n 0) (n - 1)).1 (slv n (tfp n M d so1 T n 0) (n - 1)).2.natAbs (n - 1) : Nat) : Int) ∧ (∀ i9, i9 < 8 → ct1 (ko + 6 + 1 + i9) = some (rl ty 8 (T1 i9))) ∧ ct1 (ko + 3) = some (rl ty 8 li1) ∧ ct1 (ko + 4) = some (rl ty 8 so1) ∧ ct1 (ko + 5) = some (rl ty 8 fa1) ∧ ∀ q, q ≠ ko + 3 → q ≠ ko + 4 → q ≠ ko + 5 → (q < ko + 6 + 1 ∨ ko + 6 + 1 + 7 < q) → ct1 q = ct q)) args s 0 0 (rm_A ad ct s.heap.size)) (F0 m 53 ls []) := by
    intro k
    induction k with
    | zero => intro i hi hi1 hk; exact absurd hk (Nat.not_lt_zero _)
    | succ k ih_LP =>
      intro i hi hi1 hk ctv_5 H locs hv0_5 _ hv1_5 _ hv2_5 _ hv3_5 _ hofv_5 _ hW hS ls hl
      refine lv_iload hx hb dX2_timesToNothing_53 (lv_at hl 0 rfl) ?_
      refine lv_aload_n hx hb dX2_timesToNothing_55 rfl (lv_at hl 2 rfl) ?_
      refine rm_get (ci := 4) (v := .int (jI ((n : Nat) : Int))) (C := RX4) (T := TX4) (N := 4) hx hb hts (by decide +kernel) hown hK hW ((hofv_5 yr (by omega) (by omega) (by omega) (by omega)).trans hY.1) rfl 0 (by decide) (hts (.fieldLink RX2 32 "GrainYard$Yard" "places" "I") (by decide +kernel)) (fun _ h9 => h9) rfl dX2_timesToNothing_56 ?_
      refine rm_icmp_ge (tgt := 85) hx hb ⟨by omega, by omega⟩ ⟨by omega, by omega⟩ dX2_timesToNothing_59 (by decide) (fun hc_6 => ?_) (fun hc_6 => ?_)
      · skip
        have hi : n = i := by omega
        subst hi
        obtain ⟨so1, hso⟩ : ∃ f, f = (fun q => if 1 ≤ q ∧ q < n then sti n M g q - sti n M h9 q else gaf n M g v8 q) := ⟨_, rfl⟩
        have hsq : ∀ q, 1 ≤ q → q < n → so1 q = sti n M g q - sti n M h9 q := fun q h1 h2 => by rw [hso]; exact if_pos ⟨h1, h2⟩
        have hf2 : ctv_5 (ko + 4) = some (rl ty 8 so1) := by rw [hso]; exact hv1_5
        obtain ⟨hR, hA0, hA1, hC⟩ := hsv so1 T (fun q h1 h2 => by rw [hsq q h1 h2]; have a1 := sti_rng hy hg0 (by omega) h1 h2; have a2 := sti_rng hy hh0 (by omega) h1 h2; omega)
        refine lv_aload_n hx hb dX2_timesToNothing_85 rfl (lv_at hl 1 rfl) ?_
        refine lv_aload_n hx hb dX2_timesToNothing_86 rfl (lv_at hl 2 rfl) ?_
        refine lv_aload_n hx hb dX2_timesToNothing_87 rfl (lv_at hl 1 rfl) ?_
        refine rm_get (ci := 2) (v := .ref (ad (ko + 4))) (C := RX2) (T := TX2) (N := 6) hx hb hts (by decide +kernel) hown hK hW ((hofv_5 ko (by omega) (by omega) (by omega) (by omega)).trans hKi.1) rfl 3 (by decide) (hts (.fieldLink RX2 21 "GrainYard$Kinds" "source" "[J") (by decide +kernel)) (fun _ h9 => h9) rfl dX2_timesToNothing_88 ?_
        refine rm_calll (va_runV (As := [.ref (ad yr), .ref (ad (ko + 4))]) (rest := []) ⟨hx, hb, hml, hown, hts⟩ (c_X2_solve l D ty ad ctv_5 H.size yr n M d u ko fu (gaf n M h9 v9) so1 v9 T (ko + 4) so1 hf2 (by omega) ⟨hn2, hn8⟩ hM hd0 hR (hY.kept (fun q h1 h2 => hofv_5 q (by omega) (by omega) (by omega) (by omega))) ⟨((hofv_5 ko (by omega) (by omega) (by omega) (by omega)).trans hKi.1), ((hofv_5 (ko + 1) (by omega) (by omega) (by omega) (by omega)).trans hKi.2.1), ((hofv_5 (ko + 2) (by omega) (by omega) (by omega) (by omega)).trans hKi.2.2.1), hv0_5, hf2, hv2_5, ((hofv_5 (ko + 6) (by omega) (by omega) (by omega) (by omega)).trans hKi.2.2.2.2.2.2.1), hv3_5⟩ hko) (cwV 2 hts gX2_timesToNothing_X2_solve rfl rfl rfl (by decide +kernel) ⟨Nat.le_of_ble_eq_true rfl, Nat.le_of_ble_eq_true rfl⟩) (rm_preV hK hNw hW ((hofv_5 ko (by omega) (by omega) (by omega) (by omega)).trans hKi.1) rfl) rfl rfl hl.1 rfl (lv_room (Nat.le_of_ble_eq_true rfl)) dX2_timesToNothing_91 ⟨Nat.zero_le _, Nat.zero_le _⟩) hW hS hA (fun z_7 ct_7 H locs hq_7 hW hS => ?_)
        obtain ⟨hz9, hq1, hq2⟩ := hq_7
        have ho_7 : ∀ q, (q < ko + 6 + 1 ∨ ko + 6 + 1 + 7 < q) → ct_7 q = ctv_5 q := hq2
        have hof_7 : ∀ q, q ≠ (ko + 3) → q ≠ (ko + 4) → q ≠ (ko + 5) → (q < ko + 6 + 1 ∨ ko + 6 + 1 + 7 < q) → ct_7 q = ct q := fun q h0_7 h1_7 h2_7 h3_7 => (ho_7 q h3_7).trans (hofv_5 q h0_7 h1_7 h2_7 h3_7)
        have hm0_7 : ct_7 (ko + 3) = some (rl ty 8 (gaf n M h9 v9)) := (ho_7 (ko + 3) (by omega)).trans hv0_5
        have hm1_7 : ct_7 (ko + 4) = some (rl ty 8 so1) := (ho_7 (ko + 4) (by omega)).trans hf2
        have hm2_7 : ct_7 (ko + 5) = some (rl ty 8 v9) := (ho_7 (ko + 5) (by omega)).trans hv2_5
        have hm3_7 : ∀ i9, i9 < 8 → ct_7 (ko + 6 + 1 + i9) = some (rl ty 8 (((slv n (tfp n M d so1 T n 0) (n - 1)).1) i9)) := hq1
        obtain ⟨a9, ha9⟩ : ∃ a : Nat, a = (slv n (tfp n M d so1 T n 0) (n - 1)).2.natAbs := ⟨_, rfl⟩
        have hza : z_7 = ((a9 : Nat) : Int) := by omega
        subst hza
        have ha0 : 0 < a9 := by omega
        refine lv_lstore (lv' := [(4, .long (jL ((a9 : Nat) : Int))), (0, .ref (ad ko)), (1, .ref (ad yr)), (2, .ref (ad gr)), (3, .ref (ad gl))]) hx hb dX2_timesToNothing_94 hl (by decide) rfl (fun ls hl => ?_)
        refine lv_lload hx hb dX2_timesToNothing_96 (lv_at hl 0 rfl) ?_
        refine lv_lstore (lv' := [(6, .long (jL ((a9 : Nat) : Int))), (4, .long (jL ((a9 : Nat) : Int))), (0, .ref (ad ko)), (1, .ref (ad yr)), (2, .ref (ad gr)), (3, .ref (ad gl))]) hx hb dX2_timesToNothing_98 hl (by decide) rfl (fun ls hl => ?_)
        refine lv_iconst (v := jI 1) hx hb dX2_timesToNothing_100 rfl ?_
        refine lv_istore (lv' := [(8, .int (jI 1)), (6, .long (jL ((a9 : Nat) : Int))), (4, .long (jL ((a9 : Nat) : Int))), (0, .ref (ad ko)), (1, .ref (ad yr)), (2, .ref (ad gr)), (3, .ref (ad gl))]) hx hb dX2_timesToNothing_101 hl (by decide) rfl (fun ls hl => ?_)
        have hl : lv_has ls 9 [(8, .int (jI 1)), (6, .long (jL ((cmg (slv n (tfp n M d so1 T n 0) (n - 1)).1 a9 0 : Nat) : Int))), (4, .long (jL ((a9 : Nat) : Int))), (0, .ref (ad ko)), (1, .ref (ad yr)), (2, .ref (ad gr)), (3, .ref (ad gl))] := by exact hl
        have LQ : ∀ (k : Nat) (k9 : Nat) (hk9 : k9 ≤ n - 1), n - k9 < k → ∀ (ctv : rm_C) (H : Heap) (locs : List Loc), (ctv (ko + 3) = some (rl ty 8 (gaf n M h9 v9))) → ∀ (_ : True), (ctv (ko + 4) = some (rl ty 8 so1)) → ∀ (_ : True), (ctv (ko + 5) = some (rl ty 8 v9)) → ∀ (_ : True), (∀ i9, i9 < 8 → ctv (ko + 6 + 1 + i9) = some (rl ty 8 (((slv n (tfp n M d so1 T n 0) (n - 1)).1) i9))) → ∀ (_ : True), (∀ q, q ≠ (ko + 3) → q ≠ (ko + 4) → q ≠ (ko + 5) → (q < ko + 6 + 1 ∨ ko + 6 + 1 + 7 < q) → ctv q = ct q) → ∀ (_ : True), rm_W D ad ctv (rm_A ad ct s.heap.size) H → va_S (rm_A ad ct s.heap.size) s.heap H locs → ∀ ls : Array Slot, lv_has ls 9 [(8, .int (jI (((k9 + 1) : Nat) : Int))), (6, .long (jL (((cmg (slv n (tfp n M d so1 T n 0) (n - 1)).1 a9 k9) : Nat) : Int))), (4, .long (jL ((a9 : Nat) : Int))), (0, .ref (ad ko)), (1, .ref (ad yr)), (2, .ref (ad gr)), (3, .ref (ad gl))] → W p l e (headSpec wsX2_timesToNothing ({ frames := 2, cells := 0, slots := 0, locals := 57 })).room s m args below meth c H locs 0 0 (MQ below (rm_Ql D ad ct s.heap.size (fun z ct1 => ∃ (li1 so1 fa1 : Nat → Int) (T1 : Nat → Nat → Int), (∀ q, 1 ≤ q → q < n → so1 q = sti n M g q - sti n M h9 q) ∧ z = (((slv n (tfp n M d so1 T n 0) (n - 1)).2.natAbs / cmg (slv n (tfp n M d so1 T n 0) (n - 1)).1 (slv n (tfp n M d so1 T n 0) (n - 1)).2.natAbs (n - 1) : Nat) : Int) ∧ (∀ i9, i9 < 8 → ct1 (ko + 6 + 1 + i9) = some (rl ty 8 (T1 i9))) ∧ ct1 (ko + 3) = some (rl ty 8 li1) ∧ ct1 (ko + 4) = some (rl ty 8 so1) ∧ ct1 (ko + 5) = some (rl ty 8 fa1) ∧ ∀ q, q ≠ ko + 3 → q ≠ ko + 4 → q ≠ ko + 5 → (q < ko + 6 + 1 ∨ ko + 6 + 1 + 7 < q) → ct1 q = ct q)) args s 0 0 (rm_A ad ct s.heap.size)) (F0 m 103 ls []) := by
          intro k
          induction k with
          | zero => intro k9 hk9 hk; exact absurd hk (Nat.not_lt_zero _)
          | succ k ih_LQ =>
            intro k9 hk9 hk ctv_8 H locs hv0_8 _ hv1_8 _ hv2_8 _ hv3_8 _ hofv_8 _ hW hS ls hl
            have hcl := cmg_le (T := (slv n (tfp n M d so1 T n 0) (n - 1)).1) ha0 k9
            refine lv_iload hx hb dX2_timesToNothing_103 (lv_at hl 0 rfl) ?_
            refine lv_aload_n hx hb dX2_timesToNothing_105 rfl (lv_at hl 4 rfl) ?_
            refine rm_get (ci := 4) (v := .int (jI ((n : Nat) : Int))) (C := RX4) (T := TX4) (N := 4) hx hb hts (by decide +kernel) hown hK hW ((hofv_8 yr (by omega) (by omega) (by omega) (by omega)).trans hY.1) rfl 0 (by decide) (hts (.fieldLink RX2 32 "GrainYard$Yard" "places" "I") (by decide +kernel)) (fun _ h9 => h9) rfl dX2_timesToNothing_106 ?_
            refine rm_icmp_ge (tgt := 134) hx hb ⟨by omega, by omega⟩ ⟨by omega, by omega⟩ dX2_timesToNothing_109 (by decide) (fun hc_9 => ?_) (fun hc_9 => ?_)
            · skip
              have hk : k9 = n - 1 := by omega
              refine lv_lload hx hb dX2_timesToNothing_134 (lv_at hl 1 rfl) ?_
              refine lv_lconst (v := jL 0) hx hb dX2_timesToNothing_136 rfl ?_
              refine rm_lcmp hx hb ⟨by omega, by omega⟩ ⟨by omega, by omega⟩ dX2_timesToNothing_137 ?_
              refine rm_if_gt (tgt := 145) hx hb (lcv_rng _ _) dX2_timesToNothing_138 (by decide) (fun hc_10 => ?_) (fun hc_10 => ?_)
              · skip
                have hc_10 := lcv_gt.mp hc_10
                refine lv_lload hx hb dX2_timesToNothing_145 (lv_at hl 2 rfl) ?_
                refine lv_lload hx hb dX2_timesToNothing_147 (lv_at hl 1 rfl) ?_
                refine rm_ldiv hx hb dX2_timesToNothing_149 ⟨by omega, by omega⟩ ⟨by omega, by omega⟩ (by omega) ?_
                exact W.lret hx hb hr (fun t ht hw => ⟨⟨_, ((Int.tdiv ((a9 : Nat) : Int) (((cmg (slv n (tfp n M d so1 T n 0) (n - 1)).1 a9 k9) : Nat) : Int)), ctv_8), rfl, ⟨rfl, ⟨_, so1, _, _, hsq, by rw [← ha9, ← hk]; rfl, hv3_8, hv0_8, hv1_8, hv2_8, fun q h1 h2 h3 h4 => hofv_8 q h1 h2 h3 h4⟩⟩, by show rm_W D ad _ _ t.heap; rw [ht]; exact hW⟩, hS.F ht⟩) hS.2.2 dX2_timesToNothing_150
              · skip
                have hc_10 := lcv_le.mp hc_10
                exact absurd hcl.1 (by omega)
            · skip
              have hcr := hC (k9 + 1) (by omega) (by omega)
              have hcs : (((eus 100 (((cmg (slv n (tfp n M d so1 T n 0) (n - 1)).1 a9 k9) : Nat) : Int).natAbs ((slv n (tfp n M d so1 T n 0) (n - 1)).1 (k9 + 1) 0).natAbs).1 : Nat) : Int) = (((cmg (slv n (tfp n M d so1 T n 0) (n - 1)).1 a9 (k9 + 1)) : Nat) : Int) := by rw [eus_100 hcr]; rfl
              refine lv_lload hx hb dX2_timesToNothing_112 (lv_at hl 1 rfl) ?_
              refine lv_aload_n hx hb dX2_timesToNothing_114 rfl (lv_at hl 3 rfl) ?_
              refine rm_get (ci := 2) (v := .ref (ad (ko + 6))) (C := RX2) (T := TX2) (N := 6) hx hb hts (by decide +kernel) hown hK hW ((hofv_8 ko (by omega) (by omega) (by omega) (by omega)).trans hKi.1) rfl 5 (by decide) (hts (.fieldLink RX2 29 "GrainYard$Kinds" "table" "[[J") (by decide +kernel)) (fun _ h9 => h9) rfl dX2_timesToNothing_115 ?_
              refine lv_iload hx hb dX2_timesToNothing_118 (lv_at hl 0 rfl) ?_
              refine rm_aald hx hb hK hW (f := (fun i => if i < 8 then some (ad (ko + 6 + 1 + i)) else none)) ((hofv_8 (ko + 6) (by omega) (by omega) (by omega) (by omega)).trans hKi.2.2.2.2.2.2.1) rfl rfl (k9 + 1) rfl (by omega) (by omega) dX2_timesToNothing_120 (congrArg va_rf (if_pos (by omega))) ?_
              refine lv_iconst (v := jI 0) hx hb dX2_timesToNothing_121 rfl ?_
              refine rm_lald hx hb hK hW (f := (((slv n (tfp n M d so1 T n 0) (n - 1)).1) (k9 + 1))) (hv3_8 (k9 + 1) (by omega)) 0 rfl (by omega) (by omega) dX2_timesToNothing_122 ?_
              refine rm_calll (va_runSN (As := [.long (jL (((cmg (slv n (tfp n M d so1 T n 0) (n - 1)).1 a9 k9) : Nat) : Int)), .long (jL ((((slv n (tfp n M d so1 T n 0) (n - 1)).1) (k9 + 1)) 0))]) (rest := []) ⟨hx, hb, hml, hown, hts⟩ (c_X5_commonDivisor l D ty ad ctv_8 H.size (((cmg (slv n (tfp n M d so1 T n 0) (n - 1)).1 a9 k9) : Nat) : Int) ((slv n (tfp n M d so1 T n 0) (n - 1)).1 (k9 + 1) 0) ⟨by omega, by omega⟩ ⟨by omega, by omega⟩) ⟨va_cnB (host := RX5) 2 hts gX2_timesToNothing_X5_commonDivisor_n70 rfl rfl rfl hNw.1 (hts (.initialized RX5) (by decide +kernel)) (by decide +kernel) ⟨Nat.le_of_ble_eq_true rfl, Nat.le_of_ble_eq_true rfl⟩, hts (.static yX5_commonDivisor) (by decide +kernel), trivial⟩ (rm_preS hK hNw hW) rfl rfl hl.1 rfl (lv_room (Nat.le_of_ble_eq_true rfl)) dX2_timesToNothing_123 ⟨Nat.zero_le _, Nat.zero_le _⟩) hW hS hA (fun z_11 ct_11 H locs hq_11 hW hS => ?_)
              obtain ⟨hz, hcc_11⟩ := hq_11
              have hcc_11 := hcc_11.symm
              subst hcc_11
              rw [hcs] at hz
              subst hz
              refine lv_lstore (lv' := [(6, .long (jL (((cmg (slv n (tfp n M d so1 T n 0) (n - 1)).1 a9 (k9 + 1)) : Nat) : Int))), (8, .int (jI (((k9 + 1) : Nat) : Int))), (4, .long (jL ((a9 : Nat) : Int))), (0, .ref (ad ko)), (1, .ref (ad yr)), (2, .ref (ad gr)), (3, .ref (ad gl))]) hx hb dX2_timesToNothing_126 hl (by decide) rfl (fun ls hl => ?_)
              refine lv_iinc (v := jI ((((k9 + 1) : Nat) : Int) + 1)) (lv' := [(8, .int (jI ((((k9 + 1) : Nat) : Int) + 1))), (6, .long (jL (((cmg (slv n (tfp n M d so1 T n 0) (n - 1)).1 a9 (k9 + 1)) : Nat) : Int))), (4, .long (jL ((a9 : Nat) : Int))), (0, .ref (ad ko)), (1, .ref (ad yr)), (2, .ref (ad gr)), (3, .ref (ad gl))]) hx hb dX2_timesToNothing_128 hl (k := 1) rfl (jI_add _ _) (by decide) rfl (fun ls hl => ?_)
              refine lv_goto (tgt := 103) hx hb dX2_timesToNothing_131 (by decide) ?_
              exact ih_LQ (k9 + 1) (by omega) (by omega) ctv_8 _ _ hv0_8 trivial hv1_8 trivial hv2_8 trivial hv3_8 trivial hofv_8 trivial hW hS ls (lv_sub hl [0, 1, 2, 3, 4, 5, 6] rfl)
        exact LQ (n + 1) (0) (by omega) (by omega) ct_7 _ _ hm0_7 trivial hm1_7 trivial hm2_7 trivial hm3_7 trivial hof_7 trivial hW hS ls (lv_sub hl [0, 1, 2, 3, 4, 5, 6] rfl)
      · skip
        have hlj := hsd i (by omega) (by omega)
        refine lv_aload_n hx hb dX2_timesToNothing_62 rfl (lv_at hl 1 rfl) ?_
        refine rm_get (ci := 2) (v := .ref (ad (ko + 4))) (C := RX2) (T := TX2) (N := 6) hx hb hts (by decide +kernel) hown hK hW ((hofv_5 ko (by omega) (by omega) (by omega) (by omega)).trans hKi.1) rfl 3 (by decide) (hts (.fieldLink RX2 21 "GrainYard$Kinds" "source" "[J") (by decide +kernel)) (fun _ h9 => h9) rfl dX2_timesToNothing_63 ?_
        refine lv_iload hx hb dX2_timesToNothing_66 (lv_at hl 0 rfl) ?_
        refine lv_dup2_11 hx hb dX2_timesToNothing_68 rfl rfl ?_
        refine rm_lald hx hb hK hW (f := (fun q => if 1 ≤ q ∧ q < i then sti n M g q - sti n M h9 q else gaf n M g v8 q)) hv1_5 i rfl (by omega) (by omega) dX2_timesToNothing_69 ?_
        refine lv_aload_n hx hb dX2_timesToNothing_70 rfl (lv_at hl 1 rfl) ?_
        refine rm_get (ci := 2) (v := .ref (ad (ko + 3))) (C := RX2) (T := TX2) (N := 6) hx hb hts (by decide +kernel) hown hK hW ((hofv_5 ko (by omega) (by omega) (by omega) (by omega)).trans hKi.1) rfl 2 (by decide) (hts (.fieldLink RX2 18 "GrainYard$Kinds" "lift" "[J") (by decide +kernel)) (fun _ h9 => h9) rfl dX2_timesToNothing_71 ?_
        refine lv_iload hx hb dX2_timesToNothing_74 (lv_at hl 0 rfl) ?_
        refine rm_lald hx hb hK hW (f := (gaf n M h9 v9)) hv0_5 i rfl (by omega) (by omega) dX2_timesToNothing_76 ?_
        refine rm_lsub hx hb dX2_timesToNothing_77 ?_
        refine rm_last hx hb hK hW hS (f := (fun q => if 1 ≤ q ∧ q < i then sti n M g q - sti n M h9 q else gaf n M g v8 q)) hv1_5 i rfl (by omega) (by omega) dX2_timesToNothing_78 (fun H locs ct_12 hs_12 ho_12 hW hS hz_12 => ?_)
        have hof_12 : ∀ q, q ≠ (ko + 3) → q ≠ (ko + 4) → q ≠ (ko + 5) → (q < ko + 6 + 1 ∨ ko + 6 + 1 + 7 < q) → ct_12 q = ct q := fun q h0_12 h1_12 h2_12 h3_12 => (ho_12 q h1_12).trans (hofv_5 q h0_12 h1_12 h2_12 h3_12)
        have hm0_12 : ct_12 (ko + 3) = some (rl ty 8 (gaf n M h9 v9)) := (ho_12 (ko + 3) (by omega)).trans hv0_5
        have hm2_12 : ct_12 (ko + 5) = some (rl ty 8 v9) := (ho_12 (ko + 5) (by omega)).trans hv2_5
        have hm3_12 : ∀ i9, i9 < 8 → ct_12 (ko + 6 + 1 + i9) = some (rl ty 8 (T i9)) := fun i9 hi9 => (ho_12 _ (by omega)).trans (hv3_5 i9 hi9)
        have hk_13 : ct_12 (ko + 4) = some (rl ty 8 (fun q => if 1 ≤ q ∧ q < i + 1 then sti n M g q - sti n M h9 q else gaf n M g v8 q)) := hs_12.trans (congrArg (fun f => some (rl ty 8 f)) (by funext q; unfold ub; by_cases e : q = i; (rw [if_pos e, e, if_neg (show ¬ (1 ≤ i ∧ i < i) by omega), if_pos (show 1 ≤ i ∧ i < i + 1 by omega), hlj]); (rw [if_neg e]; dsimp only; by_cases e2 : 1 ≤ q ∧ q < i; (rw [if_pos e2, if_pos ⟨by omega, by omega⟩]); (rw [if_neg e2, if_neg (by omega)]))))
        refine lv_iinc (v := jI (((i : Nat) : Int) + 1)) (lv' := [(4, .int (jI (((i : Nat) : Int) + 1))), (0, .ref (ad ko)), (1, .ref (ad yr)), (2, .ref (ad gr)), (3, .ref (ad gl))]) hx hb dX2_timesToNothing_79 hl (k := 0) rfl (jI_add _ _) (by decide) rfl (fun ls hl => ?_)
        refine lv_goto (tgt := 53) hx hb dX2_timesToNothing_82 (by decide) ?_
        exact ih_LP (i + 1) (by omega) (by omega) (by omega) ct_12 _ _ hm0_12 trivial hk_13 trivial hm2_12 trivial hm3_12 trivial hof_12 trivial hW hS ls (lv_sub hl [0, 1, 2, 3, 4] rfl)
  exact LP (n + 1) (1) (by omega) (by omega) (by omega) ct_4 _ _ hm0_4 trivial hf1 trivial hm2_4 trivial hm3_4 trivial hof_4 trivial hW hS ls (lv_sub hl [0, 1, 2, 3, 4] rfl)
