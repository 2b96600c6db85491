set_option maxHeartbeats 4000000 in
set_option maxRecDepth 100000 in
theorem c_X5_topple (l : Launch) (hlf : l.stackTraces = false) (D : va_G) (ty : Nat → ClassId) (ad : Nat → Nat) (ct : rm_C) (sz : Nat) (yc hc : Nat) (yn : Nat → Nat) (yM : Nat → Nat → Nat → Int) (yd : Nat → Nat → Int) (yu : Nat → Int) (hy : Nat → Nat) (hg hf : Nat → Nat → Int) (hC : ClsAt ty ad ct yc hc yn yM yd yu hy hg hf) (hyn : ∀ y, y < yc → 2 ≤ yn y ∧ yn y ≤ 8) (hyM : ∀ y, y < yc → ∀ i j, 0 ≤ yM y i j ∧ yM y i j ≤ 3) (hyd : ∀ y, y < yc → ∀ i, i < 8 → 0 ≤ yd y i ∧ yd y i ≤ 21) (hgr : ∀ h, h < hc → ∀ q, 1 ≤ q → q < yn (hy h) → 0 ≤ hg h q ∧ hg h q ≤ 1000000000) (z9 p9 : Int) (hz9 : r32 z9) (hp9 : r32 p9) : vx_Met l yX5_topple wsX5_topple ({ frames := 7, cells := 2, slots := 12, locals := 104 }) (rm_PX D ty ad ct sz [.ref (ad 0), .int (jI z9), .int (jI p9)]) (rm_Qi D ad ct sz (fun z ct1 => ∃ h9 q9 : Nat, z9 = (h9 : Int) ∧ p9 = (q9 : Int) ∧ h9 < hc ∧ 1 ≤ q9 ∧ q9 < yn (hy h9) ∧ ((hg h9 q9 < yd (hy h9) q9 ∧ z = 0 ∧ ct1 = ct) ∨ (yd (hy h9) q9 ≤ hg h9 q9 ∧ z = 1 ∧ ClsAt ty ad ct1 yc hc yn yM yd yu hy (us hg h9 (fel (yn (hy h9)) (yM (hy h9)) (yd (hy h9)) (hg h9) q9 1)) hf)))) (rm_XC D ad ct sz (fun E ct1 => E = xNSE ∧ ((z9 < 0 ∨ (hc : Int) ≤ z9) ∨ ∃ h9 : Nat, z9 = (h9 : Int) ∧ h9 < hc ∧ (p9 < 1 ∨ (yn (hy h9) : Int) ≤ p9)) ∧ ct1 = ct)) 2 12 (rm_A ad ct sz) := by
  refine vx_ofW (cc := cX5_topple) (maxL := 4) (ret := (some .boolean)) (by decide) rfl ?_
  intro p e s m args below meth c s₁ B hml hout hv
  obtain ⟨hargs, ⟨hsz, hW, hK, hNw⟩, hE, hU⟩ := hv
  have hx := B.exec
  have hb := B.bytes
  have hr := B.returns
  have hts := atoms_spec (ws := wsX5_topple) B.pre
  have hown : s.vm.findClass RX5 = some m.cls := findClass_of_methodNamed B.named
  have hlocks := B.notSynchronized
  subst hsz
  have hW := hW.own (sz := s.heap.size)
  have hA : ∀ q : Nat, s.heap.size ≤ q → rm_A ad ct s.heap.size q := fun q h => Or.inr h
  have hS : va_S (rm_A ad ct s.heap.size) s.heap s.heap [] := va_S.rf
  have hent : entryFrame m args 4 = entryFrame m ([.ref (ad 0), .int (jI z9), .int (jI p9)] : List Value).toArray 4 := by rw [hargs]
  have hl := lv_entry ([.ref (ad 0), .int (jI z9), .int (jI p9)]) (n := 4) (Nat.le_of_ble_eq_true rfl)
  rw [hent, lg_entry_eq]
  generalize (lg_sl ([.ref (ad 0), .int (jI z9), .int (jI p9)]) ++ List.replicate (4 - (lg_sl ([.ref (ad 0), .int (jI z9), .int (jI p9)])).length) Slot.unset).toArray = ls at hl ⊢
  have hl : lv_has ls 4 [(0, .ref (ad 0)), (1, .int (jI z9)), (2, .int (jI p9))] := hl
  refine lv_aload_n hx hb dX5_topple_0 rfl (lv_at hl 0 rfl) ?_
  refine lv_iload_n hx hb dX5_topple_1 rfl (lv_at hl 1 rfl) ?_
  refine rm_xcallr (vx_runV (As := [.int (jI z9)]) (rest := []) ⟨hx, hb, hml, hown, hts⟩ (c_X5_heapNumbered l hlf D ty ad ct s.heap.size yc hc yn yM yd yu hy hg hf hC z9 hz9) (cwV 1 hts gX5_topple_X5_heapNumbered rfl rfl rfl (by decide +kernel) ⟨Nat.le_of_ble_eq_true rfl, Nat.le_of_ble_eq_true rfl⟩) (rm_preVX hK hNw hE hU hW hS hA hC.2.1.1 rfl) rfl rfl hl.1 rfl (lv_room (Nat.le_of_ble_eq_true rfl)) dX5_topple_2 ⟨Nat.le_of_ble_eq_true rfl, Nat.le_of_ble_eq_true rfl⟩) hW hS hA hout hlocks (fun E ct1 h => ⟨h.1, Or.inl h.2.1, h.2.2⟩) (Nat.le_of_ble_eq_true rfl) (Nat.le_of_ble_eq_true rfl) (fun z_1 ct_1 H locs hq_1 hW hS => ?_)
  obtain ⟨h9, hh1, hh2, hh3, hcc⟩ := hq_1
  have hcc := hcc.symm
  subst hcc hh3 hh1
  have hHh := (hC.2.2.2.2.1 h9 hh2).2
  have hyh := (hC.2.2.2.2.1 h9 hh2).1
  have hYy := hC.2.2.2.1 (hy h9) hyh
  have hyn9 := hyn (hy h9) hyh
  have hb6 := hC.1.1
  have hb20 := hC.1.2
  refine lv_astore_n (lv' := [(3, .ref (ad (200 + 4 * h9))), (0, .ref (ad 0)), (1, .int (jI ((h9 : Nat) : Int))), (2, .int (jI p9))]) hx hb dX5_topple_5 rfl hl (by decide) rfl (fun ls hl => ?_)
  refine lv_aload_n hx hb dX5_topple_6 rfl (lv_at hl 0 rfl) ?_
  refine rm_get (ci := 1) (v := .ref (ad (40 + 16 * hy h9))) (C := RX1) (T := TX1) (N := 3) hx hb hts (by decide +kernel) hown hK hW hHh.1 rfl 0 (by decide) (hts (.fieldLink RX5 107 "GrainYard$Heap" "yard" "LGrainYard$Yard;") (by decide +kernel)) (fun _ h9 => h9) rfl dX5_topple_7 ?_
  refine lv_iload_n hx hb dX5_topple_10 rfl (lv_at hl 3 rfl) ?_
  refine lv_iconst (v := jI 1) hx hb dX5_topple_11 rfl ?_
  refine rm_xcallv (vx_runS (As := [.ref (ad (40 + 16 * hy h9)), .int (jI p9), .int (jI 1)]) (rest := []) ⟨hx, hb, hml, hown, hts⟩ (c_X5_requirePlace l hlf D ty ad ct H.size (40 + 16 * hy h9) (yn (hy h9)) (yM (hy h9)) (yd (hy h9)) (yu (hy h9)) p9 1 hp9 ⟨by omega, by omega⟩ hyn9.2 hYy) (va_cwS 3 hts gX5_topple_X5_requirePlace rfl rfl rfl (by decide +kernel) ⟨Nat.le_of_ble_eq_true rfl, Nat.le_of_ble_eq_true rfl⟩) (rm_preSX hK hNw hE hU hW hS hA) rfl rfl hl.1 rfl (lv_room (Nat.le_of_ble_eq_true rfl)) dX5_topple_12 ⟨Nat.le_of_ble_eq_true rfl, Nat.le_of_ble_eq_true rfl⟩) hW hS hA hout hlocks (fun E ct1 h => ⟨h.1, Or.inr ⟨h9, rfl, hh2, h.2.1⟩, h.2.2⟩) (Nat.le_of_ble_eq_true rfl) (Nat.le_of_ble_eq_true rfl) (fun ct_2 H locs hq_2 hW hS hz_2 => ?_)
  obtain ⟨hp1, hp2, hcc⟩ := hq_2
  have hcc := hcc.symm
  subst hcc
  obtain ⟨q9, hq9⟩ : ∃ q9 : Nat, p9 = (q9 : Int) := ⟨p9.toNat, by omega⟩
  subst hq9
  have hgb := hgr h9 hh2 q9 (by omega) (by omega)
  have hdb := hyd (hy h9) hyh q9 (by omega)
  refine lv_aload_n hx hb dX5_topple_15 rfl (lv_at hl 0 rfl) ?_
  refine rm_get (ci := 1) (v := .ref (ad ((200 + 4 * h9) + 1))) (C := RX1) (T := TX1) (N := 3) hx hb hts (by decide +kernel) hown hK hW hHh.1 rfl 1 (by decide) (hts (.fieldLink RX5 117 "GrainYard$Heap" "grains" "[J") (by decide +kernel)) (fun _ h9 => h9) rfl dX5_topple_16 ?_
  refine lv_iload_n hx hb dX5_topple_19 rfl (lv_at hl 3 rfl) ?_
  refine rm_lald hx hb hK hW (f := (hg h9)) hHh.2.1 q9 rfl (by omega) (by omega) dX5_topple_20 ?_
  refine lv_aload_n hx hb dX5_topple_21 rfl (lv_at hl 0 rfl) ?_
  refine rm_get (ci := 1) (v := .ref (ad (40 + 16 * hy h9))) (C := RX1) (T := TX1) (N := 3) hx hb hts (by decide +kernel) hown hK hW hHh.1 rfl 0 (by decide) (hts (.fieldLink RX5 107 "GrainYard$Heap" "yard" "LGrainYard$Yard;") (by decide +kernel)) (fun _ h9 => h9) rfl dX5_topple_22 ?_
  refine rm_get (ci := 4) (v := .ref (ad ((40 + 16 * hy h9) + 10))) (C := RX4) (T := TX4) (N := 4) hx hb hts (by decide +kernel) hown hK hW hYy.1 rfl 2 (by decide) (hts (.fieldLink RX5 68 "GrainYard$Yard" "degrees" "[I") (by decide +kernel)) (fun _ h9 => h9) rfl dX5_topple_25 ?_
  refine lv_iload_n hx hb dX5_topple_28 rfl (lv_at hl 3 rfl) ?_
  refine rm_iald hx hb hK hW (f := (yd (hy h9))) hYy.2.2.2 q9 rfl (by omega) (by omega) dX5_topple_29 ?_
  refine rm_i2l hx hb dX5_topple_30 ⟨by omega, by omega⟩ ?_
  refine rm_lcmp hx hb ⟨by omega, by omega⟩ ⟨by omega, by omega⟩ dX5_topple_31 ?_
  refine rm_if_ge (tgt := 37) hx hb (lcv_rng _ _) dX5_topple_32 (by decide) (fun hc_3 => ?_) (fun hc_3 => ?_)
  · skip
    have hc_3 := lcv_ge.mp hc_3
    refine lv_aload_n hx hb dX5_topple_37 rfl (lv_at hl 0 rfl) ?_
    refine rm_get (ci := 1) (v := .ref (ad (40 + 16 * hy h9))) (C := RX1) (T := TX1) (N := 3) hx hb hts (by decide +kernel) hown hK hW hHh.1 rfl 0 (by decide) (hts (.fieldLink RX5 107 "GrainYard$Heap" "yard" "LGrainYard$Yard;") (by decide +kernel)) (fun _ h9 => h9) rfl dX5_topple_38 ?_
    refine lv_aload_n hx hb dX5_topple_41 rfl (lv_at hl 0 rfl) ?_
    refine rm_get (ci := 1) (v := .ref (ad ((200 + 4 * h9) + 1))) (C := RX1) (T := TX1) (N := 3) hx hb hts (by decide +kernel) hown hK hW hHh.1 rfl 1 (by decide) (hts (.fieldLink RX5 117 "GrainYard$Heap" "grains" "[J") (by decide +kernel)) (fun _ h9 => h9) rfl dX5_topple_42 ?_
    refine lv_iload_n hx hb dX5_topple_45 rfl (lv_at hl 3 rfl) ?_
    refine lv_lconst (v := jL 1) hx hb dX5_topple_46 rfl ?_
    refine rm_callv (va_runV (As := [.ref (ad ((200 + 4 * h9) + 1)), .int (jI ((q9 : Nat) : Int)), .long (jL 1)]) (rest := []) ⟨hx, hb, hml, hown, hts⟩ (c_X4_fell l D ty ad ct H.size (40 + 16 * hy h9) (yn (hy h9)) ((200 + 4 * h9) + 1) q9 (yM (hy h9)) (yd (hy h9)) (hg h9) (yu (hy h9)) 1 hyn9.2 (by omega) hYy (hyM _ hyh) (hyd _ hyh) (by omega) hHh.2.1) (cwV 3 hts gX5_topple_X4_fell rfl rfl rfl (by decide +kernel) ⟨Nat.le_of_ble_eq_true rfl, Nat.le_of_ble_eq_true rfl⟩) (rm_preV hK hNw hW hYy.1 rfl) rfl rfl hl.1 rfl (lv_room (Nat.le_of_ble_eq_true rfl)) dX5_topple_47 ⟨Nat.le_of_ble_eq_true rfl, Nat.le_of_ble_eq_true rfl⟩) hW hS hA (fun ct_4 H locs hq_4 hW hS hz_4 => ?_)
    have ho_4 : ∀ q, q ≠ ((200 + 4 * h9) + 1) → ct_4 q = ct q := hq_4.2
    have hof_4 : ∀ q, q ≠ ((200 + 4 * h9) + 1) → ct_4 q = ct q := fun q h0_4 => (ho_4 q h0_4).trans rfl
    have hm0_4 : ct_4 ((200 + 4 * h9) + 1) = some (rl ty 8 (fel (yn (hy h9)) (yM (hy h9)) (yd (hy h9)) (hg h9) q9 1)) := hq_4.1
    have hcl := hC.heapTo hh2 hm0_4 ((hof_4 ((200 + 4 * h9) + 2) (by omega)).trans hHh.2.2) (fun q h1 h2 h3 => hof_4 q h1) (hC.2.2.1.kept (fun q a b => hof_4 q (by omega)))
    rw [us_self] at hcl
    refine lv_iconst (v := jI 1) hx hb dX5_topple_50 rfl ?_
    refine vx_ret ?_
    refine W.widen (k := 2) (n := 12) (by omega) (by omega) ?_
    exact W.zret hx hb hr (by decide) (fun t ht hw => ⟨⟨_, (1, ct_4), rfl, ⟨rfl, ⟨h9, q9, rfl, rfl, hh2, by omega, by omega, Or.inr ⟨by omega, rfl, hcl⟩⟩⟩, by show rm_W D ad _ _ t.heap; rw [ht]; exact hW⟩, hS.F ht⟩) hS.2.2 dX5_topple_51
  · skip
    have hc_3 := lcv_lt.mp hc_3
    refine lv_iconst (v := jI 0) hx hb dX5_topple_35 rfl ?_
    refine vx_ret ?_
    refine W.widen (k := 2) (n := 12) (by omega) (by omega) ?_
    exact W.zret hx hb hr (by decide) (fun t ht hw => ⟨⟨_, (0, ct), rfl, ⟨rfl, ⟨h9, q9, rfl, rfl, hh2, by omega, by omega, Or.inl ⟨by omega, rfl, rfl⟩⟩⟩, by show rm_W D ad _ _ t.heap; rw [ht]; exact hW⟩, hS.F ht⟩) hS.2.2 dX5_topple_36
