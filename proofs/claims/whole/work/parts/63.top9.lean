set_option maxHeartbeats 4000000 in
set_option maxRecDepth 100000 in
theorem c_X5_drop (l : Launch) (hlf : l.stackTraces = false) (D : va_G) (ty : Nat → ClassId) (ad : Nat → Nat) (ct : rm_C) (sz : Nat) (yc hc : Nat) (yn : Nat → Nat) (yM : Nat → Nat → Nat → Int) (yd : Nat → Nat → Int) (yu : Nat → Int) (hy : Nat → Nat) (hg hf : Nat → Nat → Int) (hC : ClsAt ty ad ct yc hc yn yM yd yu hy hg hf) (hyn : ∀ y, y < yc → 2 ≤ yn y ∧ yn y ≤ 8) (hyM : ∀ y, y < yc → ∀ i j, 0 ≤ yM y i j ∧ yM y i j ≤ 3) (hyd : ∀ y, y < yc → ∀ i, i < 8 → 0 ≤ yd y i ∧ yd y i ≤ 21) (hgr : ∀ h, h < hc → ∀ q, 1 ≤ q → q < yn (hy h) → 0 ≤ hg h q ∧ hg h q ≤ 1000000000) (hst : ∀ h, h < hc → yst (yn (hy h)) (yM (hy h)) ∧ (∀ i, i < 8 → yd (hy h) i = dg (yn (hy h)) (yM (hy h)) i) ∧ psum (yn (hy h)) (hg h) ≤ 900000000) (z9 p9 : Int) (hz9 : r32 z9) (hp9 : r32 p9) : vx_Met l yX5_drop wsX5_drop ({ frames := 7, cells := 2, slots := 12, locals := 104 }) (rm_PX D ty ad ct sz [.ref (ad 0), .int (jI z9), .int (jI p9)]) (rm_Ql D ad ct sz (fun z ct1 => ∃ h9 q9 : Nat, z9 = (h9 : Int) ∧ p9 = (q9 : Int) ∧ h9 < hc ∧ 1 ≤ q9 ∧ q9 < yn (hy h9) ∧ ∃ v, stl (yn (hy h9)) (yM (hy h9)) (ub (hg h9) q9 (hg h9 q9 + 1)) v ∧ z = gs v (yn (hy h9)) ∧ ClsAt ty ad ct1 yc hc yn yM yd yu hy (us hg h9 (gaf (yn (hy h9)) (yM (hy h9)) (ub (hg h9) q9 (hg h9 q9 + 1)) v)) (us hf h9 v))) (rm_XC D ad ct sz (fun E ct1 => E = xNSE ∧ ((z9 < 0 ∨ (hc : Int) ≤ z9) ∨ ∃ h9 : Nat, z9 = (h9 : Int) ∧ h9 < hc ∧ (p9 < 1 ∨ (yn (hy h9) : Int) ≤ p9)) ∧ ct1 = ct)) 2 12 (rm_A ad ct sz) := by
  refine vx_ofW (cc := cX5_drop) (maxL := 4) (ret := (some .long)) (by decide) rfl ?_
  intro p e s m args below meth c s₁ B hml hout hv
  obtain ⟨hargs, ⟨hsz, hW, hK, hNw⟩, hE, hU⟩ := hv
  have hx := B.exec
  have hb := B.bytes
  have hr := B.returns
  have hts := atoms_spec (ws := wsX5_drop) B.pre
  have hown : s.vm.findClass RX5 = some m.cls := findClass_of_methodNamed B.named
  have hlocks := B.notSynchronized
  subst hsz
  have hW := hW.own (sz := s.heap.size)
  have hA : ∀ q : Nat, s.heap.size ≤ q → rm_A ad ct s.heap.size q := fun q h => Or.inr h
  have hS : va_S (rm_A ad ct s.heap.size) s.heap s.heap [] := va_S.rf
  have hent : entryFrame m args 4 = entryFrame m ([.ref (ad 0), .int (jI z9), .int (jI p9)] : List Value).toArray 4 := by rw [hargs]
  have hl := lv_entry ([.ref (ad 0), .int (jI z9), .int (jI p9)]) (n := 4) (Nat.le_of_ble_eq_true rfl)
  rw [hent, lg_entry_eq]
  generalize (lg_sl ([.ref (ad 0), .int (jI z9), .int (jI p9)]) ++ List.replicate (4 - (lg_sl ([.ref (ad 0), .int (jI z9), .int (jI p9)])).length) Slot.unset).toArray = ls at hl ⊢
  have hl : lv_has ls 4 [(0, .ref (ad 0)), (1, .int (jI z9)), (2, .int (jI p9))] := hl
  refine lv_aload_n hx hb dX5_drop_0 rfl (lv_at hl 0 rfl) ?_
  refine lv_iload_n hx hb dX5_drop_1 rfl (lv_at hl 1 rfl) ?_
  refine rm_xcallr (vx_runV (As := [.int (jI z9)]) (rest := []) ⟨hx, hb, hml, hown, hts⟩ (c_X5_heapNumbered l hlf D ty ad ct s.heap.size yc hc yn yM yd yu hy hg hf hC z9 hz9) (cwV 1 hts gX5_drop_X5_heapNumbered rfl rfl rfl (by decide +kernel) ⟨Nat.le_of_ble_eq_true rfl, Nat.le_of_ble_eq_true rfl⟩) (rm_preVX hK hNw hE hU hW hS hA hC.2.1.1 rfl) rfl rfl hl.1 rfl (lv_room (Nat.le_of_ble_eq_true rfl)) dX5_drop_2 ⟨Nat.le_of_ble_eq_true rfl, Nat.le_of_ble_eq_true rfl⟩) hW hS hA hout hlocks (fun E ct1 h => ⟨h.1, Or.inl h.2.1, h.2.2⟩) (Nat.le_of_ble_eq_true rfl) (Nat.le_of_ble_eq_true rfl) (fun z_1 ct_1 H locs hq_1 hW hS => ?_)
  obtain ⟨h9, hh1, hh2, hh3, hcc⟩ := hq_1
  have hcc := hcc.symm
  subst hcc hh3 hh1
  have hHh := (hC.2.2.2.2.1 h9 hh2).2
  have hyh := (hC.2.2.2.2.1 h9 hh2).1
  have hYy := hC.2.2.2.1 (hy h9) hyh
  have hyn9 := hyn (hy h9) hyh
  have hb6 := hC.1.1
  have hb20 := hC.1.2
  refine lv_astore_n (lv' := [(3, .ref (ad (200 + 4 * h9))), (0, .ref (ad 0)), (1, .int (jI ((h9 : Nat) : Int))), (2, .int (jI p9))]) hx hb dX5_drop_5 rfl hl (by decide) rfl (fun ls hl => ?_)
  refine lv_aload_n hx hb dX5_drop_6 rfl (lv_at hl 0 rfl) ?_
  refine rm_get (ci := 1) (v := .ref (ad (40 + 16 * hy h9))) (C := RX1) (T := TX1) (N := 3) hx hb hts (by decide +kernel) hown hK hW hHh.1 rfl 0 (by decide) (hts (.fieldLink RX5 107 "GrainYard$Heap" "yard" "LGrainYard$Yard;") (by decide +kernel)) (fun _ h9 => h9) rfl dX5_drop_7 ?_
  refine lv_iload_n hx hb dX5_drop_10 rfl (lv_at hl 3 rfl) ?_
  refine lv_iconst (v := jI 1) hx hb dX5_drop_11 rfl ?_
  refine rm_xcallv (vx_runS (As := [.ref (ad (40 + 16 * hy h9)), .int (jI p9), .int (jI 1)]) (rest := []) ⟨hx, hb, hml, hown, hts⟩ (c_X5_requirePlace l hlf D ty ad ct H.size (40 + 16 * hy h9) (yn (hy h9)) (yM (hy h9)) (yd (hy h9)) (yu (hy h9)) p9 1 hp9 ⟨by omega, by omega⟩ hyn9.2 hYy) (va_cwS 3 hts gX5_drop_X5_requirePlace rfl rfl rfl (by decide +kernel) ⟨Nat.le_of_ble_eq_true rfl, Nat.le_of_ble_eq_true rfl⟩) (rm_preSX hK hNw hE hU hW hS hA) rfl rfl hl.1 rfl (lv_room (Nat.le_of_ble_eq_true rfl)) dX5_drop_12 ⟨Nat.le_of_ble_eq_true rfl, Nat.le_of_ble_eq_true rfl⟩) hW hS hA hout hlocks (fun E ct1 h => ⟨h.1, Or.inr ⟨h9, rfl, hh2, h.2.1⟩, h.2.2⟩) (Nat.le_of_ble_eq_true rfl) (Nat.le_of_ble_eq_true rfl) (fun ct_2 H locs hq_2 hW hS hz_2 => ?_)
  obtain ⟨hp1, hp2, hcc⟩ := hq_2
  have hcc := hcc.symm
  subst hcc
  obtain ⟨q9, hq9⟩ : ∃ q9 : Nat, p9 = (q9 : Int) := ⟨p9.toNat, by omega⟩
  subst hq9
  have hs9 := hst h9 hh2
  have hgb := hgr h9 hh2
  have hps := psum_bump (hg h9) (show 1 ≤ q9 by omega) (yn (hy h9))
  rw [if_pos (by omega)] at hps
  have hg9 : ∀ q, 1 ≤ q → q < yn (hy h9) → 0 ≤ (ub (hg h9) q9 (hg h9 q9 + 1)) q := fun q a b => by
    have h1 := (hgb q a b).1
    by_cases e : q = q9
    · subst e; rw [ub_s]; omega
    · rw [ub_n _ _ e]; exact h1
  refine lv_aload_n hx hb dX5_drop_15 rfl (lv_at hl 0 rfl) ?_
  refine rm_get (ci := 1) (v := .ref (ad ((200 + 4 * h9) + 1))) (C := RX1) (T := TX1) (N := 3) hx hb hts (by decide +kernel) hown hK hW hHh.1 rfl 1 (by decide) (hts (.fieldLink RX5 117 "GrainYard$Heap" "grains" "[J") (by decide +kernel)) (fun _ h9 => h9) rfl dX5_drop_16 ?_
  refine lv_iload_n hx hb dX5_drop_19 rfl (lv_at hl 3 rfl) ?_
  refine lv_dup2_11 hx hb dX5_drop_20 rfl rfl ?_
  refine rm_lald hx hb hK hW (f := (hg h9)) hHh.2.1 q9 rfl (by omega) (by omega) dX5_drop_21 ?_
  refine lv_lconst (v := jL 1) hx hb dX5_drop_22 rfl ?_
  refine rm_ladd hx hb dX5_drop_23 ?_
  refine rm_last hx hb hK hW hS (f := (hg h9)) hHh.2.1 q9 rfl (by omega) (by omega) dX5_drop_24 (fun H locs ct_3 hs_3 ho_3 hW hS hz_3 => ?_)
  have hof_3 : ∀ q, q ≠ ((200 + 4 * h9) + 1) → q ≠ ((200 + 4 * h9) + 2) → ct_3 q = ct q := fun q h0_3 h1_3 => (ho_3 q h0_3).trans rfl
  have hm1_3 : ct_3 ((200 + 4 * h9) + 2) = some (rl ty 8 (hf h9)) := (ho_3 ((200 + 4 * h9) + 2) (by omega)).trans hHh.2.2
  refine lv_aload_n hx hb dX5_drop_25 rfl (lv_at hl 0 rfl) ?_
  refine rm_calll (va_runV (As := []) (rest := []) ⟨hx, hb, hml, hown, hts⟩ (c_X1_calm l D ty ad ct_3 H.size (40 + 16 * hy h9) (yn (hy h9)) (yM (hy h9)) (yd (hy h9)) (yu (hy h9)) (200 + 4 * h9) (ub (hg h9) q9 (hg h9 q9 + 1)) (hf h9) ⟨((hof_3 (200 + 4 * h9) (by omega) (by omega)).trans hHh.1), hs_3, hm1_3⟩ (by omega) hs9.1.1 (hYy.kept (fun q a b => hof_3 q (by omega) (by omega))) hs9.2.1 hs9.1.2.1 (hyd _ hyh) hg9 (by omega) (hs9.1.2.2 _ hg9 (by omega))) (cwV 0 hts gX5_drop_X1_calm rfl rfl rfl (by decide +kernel) ⟨Nat.le_of_ble_eq_true rfl, Nat.le_of_ble_eq_true rfl⟩) (rm_preV hK hNw hW ((hof_3 (200 + 4 * h9) (by omega) (by omega)).trans hHh.1) rfl) rfl rfl hl.1 rfl (lv_room (Nat.le_of_ble_eq_true rfl)) dX5_drop_26 ⟨Nat.le_of_ble_eq_true rfl, Nat.le_of_ble_eq_true rfl⟩) hW hS hA (fun z_4 ct_4 H locs hq_4 hW hS => ?_)
  obtain ⟨v, hv1, hv2, hq1, hq2⟩ := hq_4
  have ho_4 : ∀ q, q ≠ ((200 + 4 * h9) + 1) → q ≠ ((200 + 4 * h9) + 2) → ct_4 q = ct_3 q := hq2
  have hof_4 : ∀ q, q ≠ ((200 + 4 * h9) + 1) → q ≠ ((200 + 4 * h9) + 2) → ct_4 q = ct q := fun q h0_4 h1_4 => (ho_4 q h0_4 h1_4).trans (hof_3 q h0_4 h1_4)
  have hm0_4 : ct_4 ((200 + 4 * h9) + 1) = some (rl ty 8 (gaf (yn (hy h9)) (yM (hy h9)) (ub (hg h9) q9 (hg h9 q9 + 1)) v)) := hq1.2.1
  have hm1_4 : ct_4 ((200 + 4 * h9) + 2) = some (rl ty 8 v) := hq1.2.2
  have hcl := hC.heapTo hh2 hm0_4 hm1_4 (fun q h1 h2 h3 => hof_4 q h1 h2) (hC.2.2.1.kept (fun q a b => hof_4 q (by omega) (by omega)))
  refine vx_ret ?_
  refine W.widen (k := 2) (n := 12) (by omega) (by omega) ?_
  exact W.lret hx hb hr (fun t ht hw => ⟨⟨_, (z_4, ct_4), rfl, ⟨rfl, ⟨h9, q9, rfl, rfl, hh2, by omega, by omega, v, hv1, hv2, hcl⟩⟩, by show rm_W D ad _ _ t.heap; rw [ht]; exact hW⟩, hS.F ht⟩) hS.2.2 dX5_drop_29
