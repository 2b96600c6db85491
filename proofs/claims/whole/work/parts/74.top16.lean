theorem HelpAt.fireTo2 {ty : Nat → ClassId} {ad : Nat → Nat} {ct ct1 : rm_C} {rd1 : Nat → Int} (h : HelpAt ty ad ct) (h4 : ct1 4 = some (ri ty 8 rd1)) (ho : ∀ q, q ≠ 4 → q ≤ 30 → ct1 q = ct q) : HelpAt ty ad ct1 := by
  obtain ⟨⟨rd, a0, a1⟩, ⟨fu, li, so, fa, T, h2⟩, ⟨k, on, tr, r, T2, h3⟩⟩ := h
  exact ⟨⟨rd1, (ho _ (by omega) (by omega)).trans a0, h4⟩, ⟨fu, li, so, fa, T, h2.kept (fun q a b => ho q (by omega) (by omega))⟩, ⟨k, on, tr, r, T2, h3.kept (fun q a b => ho q (by omega) (by omega))⟩⟩
def trq (n : Nat) (M : Nat → Nat → Int) (d g : Nat → Int) (rd : Nat → Int) (p : Nat) (w9 : Int) : Int := if w9 = 0 then ldf M rd p (g p - ltb M d rd p (rd p) n) n 0 else (g p - ltb M d rd p (rd p) n) - pbk M rd p (ldf M rd p (g p - ltb M d rd p (rd p) n) n 0).toNat
def grw (n : Nat) (M : Nat → Nat → Int) (d : Nat → Int) (tr p : Nat) : Int := ltb M d (fit9 n tr (n - 1)) p (fit9 n tr (n - 1) p) n + (pbk M (fit9 n tr (n - 1)) p (tgt tr p) + (pth tr p : Int))
theorem grw_rng {n : Nat} {M : Nat → Nat → Int} {d : Nat → Int} {tr p : Nat} (hM : ∀ i j, 0 ≤ M i j ∧ M i j ≤ 3) (hd : ∀ i, i < 8 → 0 ≤ d i ∧ d i ≤ 21) (hn : n ≤ 8) (hp : p < 8) (_ : ∀ q, -1 ≤ fit9 n tr (n - 1) q ∧ fit9 n tr (n - 1) q ≤ 8) : -24 ≤ grw n M d tr p ∧ grw n M d tr p ≤ 100 := by
  have h1 := ltb_rng hM d (fit9 n tr (n - 1)) p (fit9 n tr (n - 1) p) n
  have h2 := pbk_rng hM (fit9 n tr (n - 1)) p (tgt tr p)
  have h3 := tgt_lt tr p
  have h4 := pth_lt tr p
  have h5 := hd p hp
  unfold grw; omega
set_option maxHeartbeats 4000000 in
set_option maxRecDepth 100000 in
theorem c_X5_tree (l : Launch) (hlf : l.stackTraces = false) (D : va_G) (ty : Nat → ClassId) (ad : Nat → Nat) (ct : rm_C) (sz : Nat) (yc hc : Nat) (yn : Nat → Nat) (yM : Nat → Nat → Nat → Int) (yd : Nat → Nat → Int) (yu : Nat → Int) (hy : Nat → Nat) (hg hf : Nat → Nat → Int) (hC : ClsAt ty ad ct yc hc yn yM yd yu hy hg hf) (hyn : ∀ y, y < yc → 2 ≤ yn y ∧ yn y ≤ 8) (hyM : ∀ y, y < yc → ∀ i j, 0 ≤ yM y i j ∧ yM y i j ≤ 3) (hyd : ∀ y, y < yc → ∀ i, i < 8 → 0 ≤ yd y i ∧ yd y i ≤ 21) (hgr : ∀ h, h < hc → ∀ q, 1 ≤ q → q < yn (hy h) → 0 ≤ hg h q ∧ hg h q ≤ 1000000000) (z9 p9 w9 : Int) (hz9 : r32 z9) (hp9 : r32 p9) (hw9 : r32 w9) : vx_Met l yX5_tree wsX5_tree ({ frames := 7, cells := 3, slots := 18, locals := 104 }) (rm_PX D ty ad ct sz [.ref (ad 0), .int (jI z9), .int (jI p9), .int (jI w9)]) (rm_Qi D ad ct sz (fun z ct1 => ∃ h9 q9 : Nat, z9 = (h9 : Int) ∧ p9 = (q9 : Int) ∧ h9 < hc ∧ 1 ≤ q9 ∧ q9 < yn (hy h9) ∧ (w9 = 0 ∨ w9 = 1) ∧ brn (yn (hy h9)) (yM (hy h9)) (yd (hy h9)) (hg h9) 1 ∧ z = trq (yn (hy h9)) (yM (hy h9)) (yd (hy h9)) (hg h9) (bit (yn (hy h9)) (yM (hy h9)) (yd (hy h9)) (hg h9) (yn (hy h9) - 1)) q9 w9 ∧ ClsAt ty ad ct1 yc hc yn yM yd yu hy hg hf)) (rm_XC D ad ct sz (fun E ct1 => (E = xNSE ∧ ((z9 < 0 ∨ (hc : Int) ≤ z9) ∨ (∃ h9 : Nat, z9 = (h9 : Int) ∧ h9 < hc ∧ ((p9 < 1 ∨ (yn (hy h9) : Int) ≤ p9) ∨ (w9 ≠ 0 ∧ w9 ≠ 1)))) ∧ ct1 = ct) ∨ (E = xISE ∧ (∃ h9 q9 : Nat, z9 = (h9 : Int) ∧ p9 = (q9 : Int) ∧ h9 < hc ∧ 1 ≤ q9 ∧ q9 < yn (hy h9) ∧ brn (yn (hy h9)) (yM (hy h9)) (yd (hy h9)) (hg h9) 0) ∧ (w9 = 0 ∨ w9 = 1) ∧ ClsAt ty ad ct1 yc hc yn yM yd yu hy hg hf))) 3 18 (rm_A ad ct sz) := by
  refine vx_ofW (cc := cX5_tree) (maxL := 5) (ret := (some .int)) (by decide) rfl ?_
  intro p e s m args below meth c s₁ B hml hout hv
  obtain ⟨hargs, ⟨hsz, hW, hK, hNw⟩, hE, hU⟩ := hv
  have hx := B.exec
  have hb := B.bytes
  have hr := B.returns
  have hts := atoms_spec (ws := wsX5_tree) B.pre
  have hown : s.vm.findClass RX5 = some m.cls := findClass_of_methodNamed B.named
  have hlocks := B.notSynchronized
  subst hsz
  have hW := hW.own (sz := s.heap.size)
  have hA : ∀ q : Nat, s.heap.size ≤ q → rm_A ad ct s.heap.size q := fun q h => Or.inr h
  have hS : va_S (rm_A ad ct s.heap.size) s.heap s.heap [] := va_S.rf
  have hent : entryFrame m args 5 = entryFrame m ([.ref (ad 0), .int (jI z9), .int (jI p9), .int (jI w9)] : List Value).toArray 5 := by rw [hargs]
  have hl := lv_entry ([.ref (ad 0), .int (jI z9), .int (jI p9), .int (jI w9)]) (n := 5) (Nat.le_of_ble_eq_true rfl)
  rw [hent, lg_entry_eq]
  generalize (lg_sl ([.ref (ad 0), .int (jI z9), .int (jI p9), .int (jI w9)]) ++ List.replicate (5 - (lg_sl ([.ref (ad 0), .int (jI z9), .int (jI p9), .int (jI w9)])).length) Slot.unset).toArray = ls at hl ⊢
  have hl : lv_has ls 5 [(0, .ref (ad 0)), (1, .int (jI z9)), (2, .int (jI p9)), (3, .int (jI w9))] := hl
  refine lv_aload_n hx hb dX5_tree_0 rfl (lv_at hl 0 rfl) ?_
  refine lv_iload_n hx hb dX5_tree_1 rfl (lv_at hl 1 rfl) ?_
  refine rm_xcallr (vx_runV (As := [.int (jI z9)]) (rest := []) ⟨hx, hb, hml, hown, hts⟩ (c_X5_heapNumbered l hlf D ty ad ct s.heap.size yc hc yn yM yd yu hy hg hf hC z9 hz9) (cwV 1 hts gX5_tree_X5_heapNumbered rfl rfl rfl (by decide +kernel) ⟨Nat.le_of_ble_eq_true rfl, Nat.le_of_ble_eq_true rfl⟩) (rm_preVX hK hNw hE hU hW hS hA hC.2.1.1 rfl) rfl rfl hl.1 rfl (lv_room (Nat.le_of_ble_eq_true rfl)) dX5_tree_2 ⟨Nat.le_of_ble_eq_true rfl, Nat.le_of_ble_eq_true rfl⟩) hW hS hA hout hlocks (fun E ct1 h => Or.inl ⟨h.1, Or.inl h.2.1, h.2.2⟩) (Nat.le_of_ble_eq_true rfl) (Nat.le_of_ble_eq_true rfl) (fun z_1 ct_1 H locs hq_1 hW hS => ?_)
  obtain ⟨h9, hh1, hh2, hh3, hcc⟩ := hq_1
  have hcc := hcc.symm
  subst hcc hh3 hh1
  have hHh := (hC.2.2.2.2.1 h9 hh2).2
  have hyh := (hC.2.2.2.2.1 h9 hh2).1
  have hYy := hC.2.2.2.1 (hy h9) hyh
  have hyn9 := hyn (hy h9) hyh
  have hb6 := hC.1.1
  have hb20 := hC.1.2
  refine lv_astore (lv' := [(4, .ref (ad (200 + 4 * h9))), (0, .ref (ad 0)), (1, .int (jI ((h9 : Nat) : Int))), (2, .int (jI p9)), (3, .int (jI w9))]) hx hb dX5_tree_5 hl (by decide) rfl (fun ls hl => ?_)
  refine lv_aload hx hb dX5_tree_7 (lv_at hl 0 rfl) ?_
  refine rm_get (ci := 1) (v := .ref (ad (40 + 16 * hy h9))) (C := RX1) (T := TX1) (N := 3) hx hb hts (by decide +kernel) hown hK hW hHh.1 rfl 0 (by decide) (hts (.fieldLink RX5 107 "GrainYard$Heap" "yard" "LGrainYard$Yard;") (by decide +kernel)) (fun _ h9 => h9) rfl dX5_tree_9 ?_
  refine lv_iload_n hx hb dX5_tree_12 rfl (lv_at hl 3 rfl) ?_
  refine lv_iconst (v := jI 1) hx hb dX5_tree_13 rfl ?_
  refine rm_xcallv (vx_runS (As := [.ref (ad (40 + 16 * hy h9)), .int (jI p9), .int (jI 1)]) (rest := []) ⟨hx, hb, hml, hown, hts⟩ (c_X5_requirePlace l hlf D ty ad ct H.size (40 + 16 * hy h9) (yn (hy h9)) (yM (hy h9)) (yd (hy h9)) (yu (hy h9)) p9 1 hp9 ⟨by omega, by omega⟩ hyn9.2 hYy) (va_cwS 3 hts gX5_tree_X5_requirePlace rfl rfl rfl (by decide +kernel) ⟨Nat.le_of_ble_eq_true rfl, Nat.le_of_ble_eq_true rfl⟩) (rm_preSX hK hNw hE hU hW hS hA) rfl rfl hl.1 rfl (lv_room (Nat.le_of_ble_eq_true rfl)) dX5_tree_14 ⟨Nat.le_of_ble_eq_true rfl, Nat.le_of_ble_eq_true rfl⟩) hW hS hA hout hlocks (fun E ct1 h => Or.inl ⟨h.1, Or.inr ⟨h9, rfl, hh2, Or.inl h.2.1⟩, h.2.2⟩) (Nat.le_of_ble_eq_true rfl) (Nat.le_of_ble_eq_true rfl) (fun ct_2 H locs hq_2 hW hS hz_2 => ?_)
  obtain ⟨hp1, hp2, hcc⟩ := hq_2
  have hcc := hcc.symm
  subst hcc
  obtain ⟨q9, hq9⟩ : ∃ q9 : Nat, p9 = (q9 : Int) := ⟨p9.toNat, by omega⟩
  subst hq9
  obtain ⟨rd, hFi⟩ := hC.2.2.1.1
  refine lv_iload_n hx hb dX5_tree_17 rfl (lv_at hl 4 rfl) ?_
  refine rm_if_eq (tgt := 36) hx hb ⟨by omega, by omega⟩ dX5_tree_18 (by decide) (fun hc_3 => ?_) (fun hc_3 => ?_)
  · skip
    have hwv : w9 = 0 ∨ w9 = 1 := by omega
    refine lv_aload_n hx hb dX5_tree_36 rfl (lv_at hl 1 rfl) ?_
    refine rm_get (ci := 5) (v := .ref (ad 3)) (C := RX5) (T := TX5) (N := 7) hx hb hts (by decide +kernel) hown hK hW hC.2.1.1 rfl 4 (by decide) (hts (.fieldLink RX5 31 "GrainYard" "fire" "LGrainYard$Fire;") (by decide +kernel)) (fun _ h9 => h9) rfl dX5_tree_37 ?_
    refine lv_aload hx hb dX5_tree_40 (lv_at hl 0 rfl) ?_
    refine rm_get (ci := 1) (v := .ref (ad (40 + 16 * hy h9))) (C := RX1) (T := TX1) (N := 3) hx hb hts (by decide +kernel) hown hK hW hHh.1 rfl 0 (by decide) (hts (.fieldLink RX5 107 "GrainYard$Heap" "yard" "LGrainYard$Yard;") (by decide +kernel)) (fun _ h9 => h9) rfl dX5_tree_42 ?_
    refine lv_aload hx hb dX5_tree_45 (lv_at hl 0 rfl) ?_
    refine rm_get (ci := 1) (v := .ref (ad ((200 + 4 * h9) + 1))) (C := RX1) (T := TX1) (N := 3) hx hb hts (by decide +kernel) hown hK hW hHh.1 rfl 1 (by decide) (hts (.fieldLink RX5 117 "GrainYard$Heap" "grains" "[J") (by decide +kernel)) (fun _ h9 => h9) rfl dX5_tree_47 ?_
    have hgz : ∀ q, 1 ≤ q → q < yn (hy h9) → 0 ≤ hg h9 q ∧ hg h9 q ≤ 1000000000000 := fun q a b => ⟨(hgr h9 hh2 q a b).1, by have := (hgr h9 hh2 q a b).2; omega⟩
    refine rm_calli (va_runV (As := [.ref (ad (40 + 16 * hy h9)), .ref (ad ((200 + 4 * h9) + 1))]) (rest := []) ⟨hx, hb, hml, hown, hts⟩ (c_X0_burnsAll l D ty ad ct H.size (40 + 16 * hy h9) (yn (hy h9)) (yM (hy h9)) (yd (hy h9)) (yu (hy h9)) 3 4 rd (200 + 4 * h9 + 1) (hg h9) hHh.2.1 (by omega) hgz hyn9.1 hyn9.2 hYy (hyM _ hyh) (hyd _ hyh) hFi (by omega) (by omega)) (cwV 2 hts gX5_tree_X0_burnsAll rfl rfl rfl (by decide +kernel) ⟨Nat.le_of_ble_eq_true rfl, Nat.le_of_ble_eq_true rfl⟩) (rm_preV hK hNw hW hFi.1 rfl) rfl rfl hl.1 rfl (lv_room (Nat.le_of_ble_eq_true rfl)) dX5_tree_50 ⟨Nat.le_of_ble_eq_true rfl, Nat.le_of_ble_eq_true rfl⟩) hW hS hA (fun z_4 ct_4 H locs hq_4 hW hS => ?_)
    obtain ⟨rd1, hq1, hq2, hq3⟩ := hq_4
    have hbr := brn_of hq3
    have ho_4 : ∀ q, q ≠ 4 → ct_4 q = ct q := hq2
    have hof_4 : ∀ q, q ≠ 4 → ct_4 q = ct q := fun q h0_4 => (ho_4 q h0_4).trans rfl
    have hm0_4 : ct_4 4 = some (ri ty 8 rd1) := hq1
    have hcl := hC.helpTo (fun q h => hof_4 q (by omega)) (hC.2.2.1.fireTo hq1 hq2)
    refine rm_if_ne (tgt := 66) hx hb ⟨by omega, by omega⟩ dX5_tree_53 (by decide) (fun hc_5 => ?_) (fun hc_5 => ?_)
    · skip
      have hb1 : brn (yn (hy h9)) (yM (hy h9)) (yd (hy h9)) (hg h9) 1 := by rcases brn_01 hbr with h | h; exact absurd h (by omega); rw [h] at hbr; exact hbr
      have hbit := bit_rng (n := (yn (hy h9))) (M := (yM (hy h9))) (d := (yd (hy h9))) (g := hg h9) ((yn (hy h9)) - 1) (by have := hyn9.2; omega)
      have hrd : rd1 = bit (yn (hy h9)) (yM (hy h9)) (yd (hy h9)) (hg h9) ((yn (hy h9)) - 1) := by rcases hq3 with h | h; exact absurd h.1 (by omega); exact h.2.1
      subst hrd
      refine lv_iload_n hx hb dX5_tree_66 rfl (lv_at hl 4 rfl) ?_
      refine rm_if_ne (tgt := 91) hx hb ⟨by omega, by omega⟩ dX5_tree_67 (by decide) (fun hc_6 => ?_) (fun hc_6 => ?_)
      · skip
        refine lv_aload_n hx hb dX5_tree_91 rfl (lv_at hl 1 rfl) ?_
        refine rm_get (ci := 5) (v := .ref (ad 3)) (C := RX5) (T := TX5) (N := 7) hx hb hts (by decide +kernel) hown hK hW ((hof_4 0 (by omega)).trans hC.2.1.1) rfl 4 (by decide) (hts (.fieldLink RX5 31 "GrainYard" "fire" "LGrainYard$Fire;") (by decide +kernel)) (fun _ h9 => h9) rfl dX5_tree_92 ?_
        refine lv_aload hx hb dX5_tree_95 (lv_at hl 0 rfl) ?_
        refine rm_get (ci := 1) (v := .ref (ad (40 + 16 * hy h9))) (C := RX1) (T := TX1) (N := 3) hx hb hts (by decide +kernel) hown hK hW ((hof_4 (200 + 4 * h9) (by omega)).trans hHh.1) rfl 0 (by decide) (hts (.fieldLink RX5 107 "GrainYard$Heap" "yard" "LGrainYard$Yard;") (by decide +kernel)) (fun _ h9 => h9) rfl dX5_tree_97 ?_
        refine lv_aload hx hb dX5_tree_100 (lv_at hl 0 rfl) ?_
        refine rm_get (ci := 1) (v := .ref (ad ((200 + 4 * h9) + 1))) (C := RX1) (T := TX1) (N := 3) hx hb hts (by decide +kernel) hown hK hW ((hof_4 (200 + 4 * h9) (by omega)).trans hHh.1) rfl 1 (by decide) (hts (.fieldLink RX5 117 "GrainYard$Heap" "grains" "[J") (by decide +kernel)) (fun _ h9 => h9) rfl dX5_tree_102 ?_
        refine lv_iload_n hx hb dX5_tree_105 rfl (lv_at hl 3 rfl) ?_
        refine rm_calli (va_runV (As := [.ref (ad (40 + 16 * hy h9)), .ref (ad ((200 + 4 * h9) + 1)), .int (jI ((q9 : Nat) : Int))]) (rest := []) ⟨hx, hb, hml, hown, hts⟩ (c_X0_byPath l D ty ad ct_4 H.size (40 + 16 * hy h9) (yn (hy h9)) (yM (hy h9)) (yd (hy h9)) (yu (hy h9)) 3 4 (bit (yn (hy h9)) (yM (hy h9)) (yd (hy h9)) (hg h9) ((yn (hy h9)) - 1)) q9 (by omega) (200 + 4 * h9 + 1) (hg h9) (hcl.2.2.2.2.1 h9 hh2).2.2.1 (hgz q9 (by omega) (by omega)) hyn9.2 (hcl.2.2.2.1 _ hyh) (hyM _ hyh) (hyd _ hyh) ⟨((hof_4 3 (by omega)).trans hFi.1), hm0_4⟩ hbit) (cwV 3 hts gX5_tree_X0_byPath rfl rfl rfl (by decide +kernel) ⟨Nat.le_of_ble_eq_true rfl, Nat.le_of_ble_eq_true rfl⟩) (rm_preV hK hNw hW ((hof_4 3 (by omega)).trans hFi.1) rfl) rfl rfl hl.1 rfl (lv_room (Nat.le_of_ble_eq_true rfl)) dX5_tree_106 ⟨Nat.le_of_ble_eq_true rfl, Nat.le_of_ble_eq_true rfl⟩) hW hS hA (fun z_7 ct_7 H locs hq_7 hW hS => ?_)
        obtain ⟨hz, hcc_7⟩ := hq_7
        have hcc_7 := hcc_7.symm
        subst hcc_7
        refine vx_ret ?_
        refine W.widen (k := 3) (n := 18) (by omega) (by omega) ?_
        exact W.iret hx hb hr (fun t ht hw => ⟨⟨_, (z_7, ct_4), rfl, ⟨rfl, ⟨h9, q9, rfl, rfl, hh2, by omega, by omega, hwv, hb1, hz.trans (if_neg (by omega) : _ = _).symm, hcl⟩⟩, by show rm_W D ad _ _ t.heap; rw [ht]; exact hW⟩, hS.F ht⟩) hS.2.2 dX5_tree_109
      · skip
        refine lv_aload_n hx hb dX5_tree_70 rfl (lv_at hl 1 rfl) ?_
        refine rm_get (ci := 5) (v := .ref (ad 3)) (C := RX5) (T := TX5) (N := 7) hx hb hts (by decide +kernel) hown hK hW ((hof_4 0 (by omega)).trans hC.2.1.1) rfl 4 (by decide) (hts (.fieldLink RX5 31 "GrainYard" "fire" "LGrainYard$Fire;") (by decide +kernel)) (fun _ h9 => h9) rfl dX5_tree_71 ?_
        refine lv_aload hx hb dX5_tree_74 (lv_at hl 0 rfl) ?_
        refine rm_get (ci := 1) (v := .ref (ad (40 + 16 * hy h9))) (C := RX1) (T := TX1) (N := 3) hx hb hts (by decide +kernel) hown hK hW ((hof_4 (200 + 4 * h9) (by omega)).trans hHh.1) rfl 0 (by decide) (hts (.fieldLink RX5 107 "GrainYard$Heap" "yard" "LGrainYard$Yard;") (by decide +kernel)) (fun _ h9 => h9) rfl dX5_tree_76 ?_
        refine lv_aload hx hb dX5_tree_79 (lv_at hl 0 rfl) ?_
        refine rm_get (ci := 1) (v := .ref (ad ((200 + 4 * h9) + 1))) (C := RX1) (T := TX1) (N := 3) hx hb hts (by decide +kernel) hown hK hW ((hof_4 (200 + 4 * h9) (by omega)).trans hHh.1) rfl 1 (by decide) (hts (.fieldLink RX5 117 "GrainYard$Heap" "grains" "[J") (by decide +kernel)) (fun _ h9 => h9) rfl dX5_tree_81 ?_
        refine lv_iload_n hx hb dX5_tree_84 rfl (lv_at hl 3 rfl) ?_
        refine rm_calli (va_runV (As := [.ref (ad (40 + 16 * hy h9)), .ref (ad ((200 + 4 * h9) + 1)), .int (jI ((q9 : Nat) : Int))]) (rest := []) ⟨hx, hb, hml, hown, hts⟩ (c_X0_leadsTo l D ty ad ct_4 H.size (40 + 16 * hy h9) (yn (hy h9)) (yM (hy h9)) (yd (hy h9)) (yu (hy h9)) 3 4 (bit (yn (hy h9)) (yM (hy h9)) (yd (hy h9)) (hg h9) ((yn (hy h9)) - 1)) q9 (by omega) (200 + 4 * h9 + 1) (hg h9) (hcl.2.2.2.2.1 h9 hh2).2.2.1 (hgz q9 (by omega) (by omega)) hyn9.2 (hcl.2.2.2.1 _ hyh) (hyM _ hyh) (hyd _ hyh) ⟨((hof_4 3 (by omega)).trans hFi.1), hm0_4⟩ hbit) (cwV 3 hts gX5_tree_X0_leadsTo rfl rfl rfl (by decide +kernel) ⟨Nat.le_of_ble_eq_true rfl, Nat.le_of_ble_eq_true rfl⟩) (rm_preV hK hNw hW ((hof_4 3 (by omega)).trans hFi.1) rfl) rfl rfl hl.1 rfl (lv_room (Nat.le_of_ble_eq_true rfl)) dX5_tree_85 ⟨Nat.le_of_ble_eq_true rfl, Nat.le_of_ble_eq_true rfl⟩) hW hS hA (fun z_8 ct_8 H locs hq_8 hW hS => ?_)
        obtain ⟨hz, hcc_8⟩ := hq_8
        have hcc_8 := hcc_8.symm
        subst hcc_8
        refine lv_goto (tgt := 109) hx hb dX5_tree_88 (by decide) ?_
        refine vx_ret ?_
        refine W.widen (k := 3) (n := 18) (by omega) (by omega) ?_
        exact W.iret hx hb hr (fun t ht hw => ⟨⟨_, (z_8, ct_4), rfl, ⟨rfl, ⟨h9, q9, rfl, rfl, hh2, by omega, by omega, hwv, hb1, hz.trans (if_pos (by omega) : _ = _).symm, hcl⟩⟩, by show rm_W D ad _ _ t.heap; rw [ht]; exact hW⟩, hS.F ht⟩) hS.2.2 dX5_tree_109
    · skip
      have hb0 : brn (yn (hy h9)) (yM (hy h9)) (yd (hy h9)) (hg h9) 0 := by rcases brn_01 hbr with h | h; rw [h] at hbr; exact hbr; exact absurd h (by omega)
      exact rm_throw (cls := "java/lang/IllegalStateException") (text := "the heap doesn't come again") (ct := ct_4) hx hb hlf hown (by decide +kernel) (hts (.classLink RX5 80 "java/lang/IllegalStateException") (by decide +kernel)) (hts (.initialized "java/lang/IllegalStateException") (by decide +kernel)) (fun w hw => hts w (by first | exact List.mem_cons_of_mem _ (List.mem_append_right _ hw) | exact List.mem_cons_of_mem _ (List.mem_append_left _ (List.mem_append_right _ hw)))) (by decide +kernel) (by decide +kernel) (by decide +kernel) hE hU hW hS (hl.1.trans hml.symm) dX5_tree_56 dX5_tree_59 dX5_tree_60 dX5_tree_62 dX5_tree_65 hout (Nat.le_of_ble_eq_true rfl) (Nat.le_of_ble_eq_true rfl) (Nat.le_of_ble_eq_true rfl) (Nat.le_of_ble_eq_true rfl) hlocks (Or.inr ⟨rfl, ⟨h9, q9, rfl, rfl, hh2, by omega, by omega, hb0⟩, hwv, hcl⟩) (Nat.le_of_ble_eq_true rfl) (Nat.le_of_ble_eq_true rfl)
  · skip
    refine lv_iload_n hx hb dX5_tree_21 rfl (lv_at hl 4 rfl) ?_
    refine lv_iconst (v := jI 1) hx hb dX5_tree_22 rfl ?_
    refine rm_icmp_eq (tgt := 36) hx hb ⟨by omega, by omega⟩ ⟨by omega, by omega⟩ dX5_tree_23 (by decide) (fun hc_9 => ?_) (fun hc_9 => ?_)
    · skip
      have hwv : w9 = 0 ∨ w9 = 1 := by omega
      refine lv_aload_n hx hb dX5_tree_36 rfl (lv_at hl 1 rfl) ?_
      refine rm_get (ci := 5) (v := .ref (ad 3)) (C := RX5) (T := TX5) (N := 7) hx hb hts (by decide +kernel) hown hK hW hC.2.1.1 rfl 4 (by decide) (hts (.fieldLink RX5 31 "GrainYard" "fire" "LGrainYard$Fire;") (by decide +kernel)) (fun _ h9 => h9) rfl dX5_tree_37 ?_
      refine lv_aload hx hb dX5_tree_40 (lv_at hl 0 rfl) ?_
      refine rm_get (ci := 1) (v := .ref (ad (40 + 16 * hy h9))) (C := RX1) (T := TX1) (N := 3) hx hb hts (by decide +kernel) hown hK hW hHh.1 rfl 0 (by decide) (hts (.fieldLink RX5 107 "GrainYard$Heap" "yard" "LGrainYard$Yard;") (by decide +kernel)) (fun _ h9 => h9) rfl dX5_tree_42 ?_
      refine lv_aload hx hb dX5_tree_45 (lv_at hl 0 rfl) ?_
      refine rm_get (ci := 1) (v := .ref (ad ((200 + 4 * h9) + 1))) (C := RX1) (T := TX1) (N := 3) hx hb hts (by decide +kernel) hown hK hW hHh.1 rfl 1 (by decide) (hts (.fieldLink RX5 117 "GrainYard$Heap" "grains" "[J") (by decide +kernel)) (fun _ h9 => h9) rfl dX5_tree_47 ?_
      have hgz : ∀ q, 1 ≤ q → q < yn (hy h9) → 0 ≤ hg h9 q ∧ hg h9 q ≤ 1000000000000 := fun q a b => ⟨(hgr h9 hh2 q a b).1, by have := (hgr h9 hh2 q a b).2; omega⟩
      refine rm_calli (va_runV (As := [.ref (ad (40 + 16 * hy h9)), .ref (ad ((200 + 4 * h9) + 1))]) (rest := []) ⟨hx, hb, hml, hown, hts⟩ (c_X0_burnsAll l D ty ad ct H.size (40 + 16 * hy h9) (yn (hy h9)) (yM (hy h9)) (yd (hy h9)) (yu (hy h9)) 3 4 rd (200 + 4 * h9 + 1) (hg h9) hHh.2.1 (by omega) hgz hyn9.1 hyn9.2 hYy (hyM _ hyh) (hyd _ hyh) hFi (by omega) (by omega)) (cwV 2 hts gX5_tree_X0_burnsAll rfl rfl rfl (by decide +kernel) ⟨Nat.le_of_ble_eq_true rfl, Nat.le_of_ble_eq_true rfl⟩) (rm_preV hK hNw hW hFi.1 rfl) rfl rfl hl.1 rfl (lv_room (Nat.le_of_ble_eq_true rfl)) dX5_tree_50 ⟨Nat.le_of_ble_eq_true rfl, Nat.le_of_ble_eq_true rfl⟩) hW hS hA (fun z_10 ct_10 H locs hq_10 hW hS => ?_)
      obtain ⟨rd1, hq1, hq2, hq3⟩ := hq_10
      have hbr := brn_of hq3
      have ho_10 : ∀ q, q ≠ 4 → ct_10 q = ct q := hq2
      have hof_10 : ∀ q, q ≠ 4 → ct_10 q = ct q := fun q h0_10 => (ho_10 q h0_10).trans rfl
      have hm0_10 : ct_10 4 = some (ri ty 8 rd1) := hq1
      have hcl := hC.helpTo (fun q h => hof_10 q (by omega)) (hC.2.2.1.fireTo hq1 hq2)
      refine rm_if_ne (tgt := 66) hx hb ⟨by omega, by omega⟩ dX5_tree_53 (by decide) (fun hc_11 => ?_) (fun hc_11 => ?_)
      · skip
        have hb1 : brn (yn (hy h9)) (yM (hy h9)) (yd (hy h9)) (hg h9) 1 := by rcases brn_01 hbr with h | h; exact absurd h (by omega); rw [h] at hbr; exact hbr
        have hbit := bit_rng (n := (yn (hy h9))) (M := (yM (hy h9))) (d := (yd (hy h9))) (g := hg h9) ((yn (hy h9)) - 1) (by have := hyn9.2; omega)
        have hrd : rd1 = bit (yn (hy h9)) (yM (hy h9)) (yd (hy h9)) (hg h9) ((yn (hy h9)) - 1) := by rcases hq3 with h | h; exact absurd h.1 (by omega); exact h.2.1
        subst hrd
        refine lv_iload_n hx hb dX5_tree_66 rfl (lv_at hl 4 rfl) ?_
        refine rm_if_ne (tgt := 91) hx hb ⟨by omega, by omega⟩ dX5_tree_67 (by decide) (fun hc_12 => ?_) (fun hc_12 => ?_)
        · skip
          refine lv_aload_n hx hb dX5_tree_91 rfl (lv_at hl 1 rfl) ?_
          refine rm_get (ci := 5) (v := .ref (ad 3)) (C := RX5) (T := TX5) (N := 7) hx hb hts (by decide +kernel) hown hK hW ((hof_10 0 (by omega)).trans hC.2.1.1) rfl 4 (by decide) (hts (.fieldLink RX5 31 "GrainYard" "fire" "LGrainYard$Fire;") (by decide +kernel)) (fun _ h9 => h9) rfl dX5_tree_92 ?_
          refine lv_aload hx hb dX5_tree_95 (lv_at hl 0 rfl) ?_
          refine rm_get (ci := 1) (v := .ref (ad (40 + 16 * hy h9))) (C := RX1) (T := TX1) (N := 3) hx hb hts (by decide +kernel) hown hK hW ((hof_10 (200 + 4 * h9) (by omega)).trans hHh.1) rfl 0 (by decide) (hts (.fieldLink RX5 107 "GrainYard$Heap" "yard" "LGrainYard$Yard;") (by decide +kernel)) (fun _ h9 => h9) rfl dX5_tree_97 ?_
          refine lv_aload hx hb dX5_tree_100 (lv_at hl 0 rfl) ?_
          refine rm_get (ci := 1) (v := .ref (ad ((200 + 4 * h9) + 1))) (C := RX1) (T := TX1) (N := 3) hx hb hts (by decide +kernel) hown hK hW ((hof_10 (200 + 4 * h9) (by omega)).trans hHh.1) rfl 1 (by decide) (hts (.fieldLink RX5 117 "GrainYard$Heap" "grains" "[J") (by decide +kernel)) (fun _ h9 => h9) rfl dX5_tree_102 ?_
          refine lv_iload_n hx hb dX5_tree_105 rfl (lv_at hl 3 rfl) ?_
          refine rm_calli (va_runV (As := [.ref (ad (40 + 16 * hy h9)), .ref (ad ((200 + 4 * h9) + 1)), .int (jI ((q9 : Nat) : Int))]) (rest := []) ⟨hx, hb, hml, hown, hts⟩ (c_X0_byPath l D ty ad ct_10 H.size (40 + 16 * hy h9) (yn (hy h9)) (yM (hy h9)) (yd (hy h9)) (yu (hy h9)) 3 4 (bit (yn (hy h9)) (yM (hy h9)) (yd (hy h9)) (hg h9) ((yn (hy h9)) - 1)) q9 (by omega) (200 + 4 * h9 + 1) (hg h9) (hcl.2.2.2.2.1 h9 hh2).2.2.1 (hgz q9 (by omega) (by omega)) hyn9.2 (hcl.2.2.2.1 _ hyh) (hyM _ hyh) (hyd _ hyh) ⟨((hof_10 3 (by omega)).trans hFi.1), hm0_10⟩ hbit) (cwV 3 hts gX5_tree_X0_byPath rfl rfl rfl (by decide +kernel) ⟨Nat.le_of_ble_eq_true rfl, Nat.le_of_ble_eq_true rfl⟩) (rm_preV hK hNw hW ((hof_10 3 (by omega)).trans hFi.1) rfl) rfl rfl hl.1 rfl (lv_room (Nat.le_of_ble_eq_true rfl)) dX5_tree_106 ⟨Nat.le_of_ble_eq_true rfl, Nat.le_of_ble_eq_true rfl⟩) hW hS hA (fun z_13 ct_13 H locs hq_13 hW hS => ?_)
          obtain ⟨hz, hcc_13⟩ := hq_13
          have hcc_13 := hcc_13.symm
          subst hcc_13
          refine vx_ret ?_
          refine W.widen (k := 3) (n := 18) (by omega) (by omega) ?_
          exact W.iret hx hb hr (fun t ht hw => ⟨⟨_, (z_13, ct_10), rfl, ⟨rfl, ⟨h9, q9, rfl, rfl, hh2, by omega, by omega, hwv, hb1, hz.trans (if_neg (by omega) : _ = _).symm, hcl⟩⟩, by show rm_W D ad _ _ t.heap; rw [ht]; exact hW⟩, hS.F ht⟩) hS.2.2 dX5_tree_109
        · skip
          refine lv_aload_n hx hb dX5_tree_70 rfl (lv_at hl 1 rfl) ?_
          refine rm_get (ci := 5) (v := .ref (ad 3)) (C := RX5) (T := TX5) (N := 7) hx hb hts (by decide +kernel) hown hK hW ((hof_10 0 (by omega)).trans hC.2.1.1) rfl 4 (by decide) (hts (.fieldLink RX5 31 "GrainYard" "fire" "LGrainYard$Fire;") (by decide +kernel)) (fun _ h9 => h9) rfl dX5_tree_71 ?_
          refine lv_aload hx hb dX5_tree_74 (lv_at hl 0 rfl) ?_
          refine rm_get (ci := 1) (v := .ref (ad (40 + 16 * hy h9))) (C := RX1) (T := TX1) (N := 3) hx hb hts (by decide +kernel) hown hK hW ((hof_10 (200 + 4 * h9) (by omega)).trans hHh.1) rfl 0 (by decide) (hts (.fieldLink RX5 107 "GrainYard$Heap" "yard" "LGrainYard$Yard;") (by decide +kernel)) (fun _ h9 => h9) rfl dX5_tree_76 ?_
          refine lv_aload hx hb dX5_tree_79 (lv_at hl 0 rfl) ?_
          refine rm_get (ci := 1) (v := .ref (ad ((200 + 4 * h9) + 1))) (C := RX1) (T := TX1) (N := 3) hx hb hts (by decide +kernel) hown hK hW ((hof_10 (200 + 4 * h9) (by omega)).trans hHh.1) rfl 1 (by decide) (hts (.fieldLink RX5 117 "GrainYard$Heap" "grains" "[J") (by decide +kernel)) (fun _ h9 => h9) rfl dX5_tree_81 ?_
          refine lv_iload_n hx hb dX5_tree_84 rfl (lv_at hl 3 rfl) ?_
          refine rm_calli (va_runV (As := [.ref (ad (40 + 16 * hy h9)), .ref (ad ((200 + 4 * h9) + 1)), .int (jI ((q9 : Nat) : Int))]) (rest := []) ⟨hx, hb, hml, hown, hts⟩ (c_X0_leadsTo l D ty ad ct_10 H.size (40 + 16 * hy h9) (yn (hy h9)) (yM (hy h9)) (yd (hy h9)) (yu (hy h9)) 3 4 (bit (yn (hy h9)) (yM (hy h9)) (yd (hy h9)) (hg h9) ((yn (hy h9)) - 1)) q9 (by omega) (200 + 4 * h9 + 1) (hg h9) (hcl.2.2.2.2.1 h9 hh2).2.2.1 (hgz q9 (by omega) (by omega)) hyn9.2 (hcl.2.2.2.1 _ hyh) (hyM _ hyh) (hyd _ hyh) ⟨((hof_10 3 (by omega)).trans hFi.1), hm0_10⟩ hbit) (cwV 3 hts gX5_tree_X0_leadsTo rfl rfl rfl (by decide +kernel) ⟨Nat.le_of_ble_eq_true rfl, Nat.le_of_ble_eq_true rfl⟩) (rm_preV hK hNw hW ((hof_10 3 (by omega)).trans hFi.1) rfl) rfl rfl hl.1 rfl (lv_room (Nat.le_of_ble_eq_true rfl)) dX5_tree_85 ⟨Nat.le_of_ble_eq_true rfl, Nat.le_of_ble_eq_true rfl⟩) hW hS hA (fun z_14 ct_14 H locs hq_14 hW hS => ?_)
          obtain ⟨hz, hcc_14⟩ := hq_14
          have hcc_14 := hcc_14.symm
          subst hcc_14
          refine lv_goto (tgt := 109) hx hb dX5_tree_88 (by decide) ?_
          refine vx_ret ?_
          refine W.widen (k := 3) (n := 18) (by omega) (by omega) ?_
          exact W.iret hx hb hr (fun t ht hw => ⟨⟨_, (z_14, ct_10), rfl, ⟨rfl, ⟨h9, q9, rfl, rfl, hh2, by omega, by omega, hwv, hb1, hz.trans (if_pos (by omega) : _ = _).symm, hcl⟩⟩, by show rm_W D ad _ _ t.heap; rw [ht]; exact hW⟩, hS.F ht⟩) hS.2.2 dX5_tree_109
      · skip
        have hb0 : brn (yn (hy h9)) (yM (hy h9)) (yd (hy h9)) (hg h9) 0 := by rcases brn_01 hbr with h | h; rw [h] at hbr; exact hbr; exact absurd h (by omega)
        exact rm_throw (cls := "java/lang/IllegalStateException") (text := "the heap doesn't come again") (ct := ct_10) hx hb hlf hown (by decide +kernel) (hts (.classLink RX5 80 "java/lang/IllegalStateException") (by decide +kernel)) (hts (.initialized "java/lang/IllegalStateException") (by decide +kernel)) (fun w hw => hts w (by first | exact List.mem_cons_of_mem _ (List.mem_append_right _ hw) | exact List.mem_cons_of_mem _ (List.mem_append_left _ (List.mem_append_right _ hw)))) (by decide +kernel) (by decide +kernel) (by decide +kernel) hE hU hW hS (hl.1.trans hml.symm) dX5_tree_56 dX5_tree_59 dX5_tree_60 dX5_tree_62 dX5_tree_65 hout (Nat.le_of_ble_eq_true rfl) (Nat.le_of_ble_eq_true rfl) (Nat.le_of_ble_eq_true rfl) (Nat.le_of_ble_eq_true rfl) hlocks (Or.inr ⟨rfl, ⟨h9, q9, rfl, rfl, hh2, by omega, by omega, hb0⟩, hwv, hcl⟩) (Nat.le_of_ble_eq_true rfl) (Nat.le_of_ble_eq_true rfl)
    · skip
      exact rm_throwN (cls := "java/util/NoSuchElementException") (text := "no such question") (ct := ct) hx hb hlf hown (by decide +kernel) (hts (.classLink RX5 91 "java/util/NoSuchElementException") (by decide +kernel)) (hts (.initialized "java/util/NoSuchElementException") (by decide +kernel)) (fun w hw => hts w (by first | exact List.mem_cons_of_mem _ (List.mem_append_right _ hw) | exact List.mem_cons_of_mem _ (List.mem_append_left _ (List.mem_append_right _ hw)))) (by decide +kernel) (by decide +kernel) (by decide +kernel) hE hU hW hS (hl.1.trans hml.symm) dX5_tree_26 dX5_tree_29 dX5_tree_30 dX5_tree_32 dX5_tree_35 hout (Nat.le_of_ble_eq_true rfl) (Nat.le_of_ble_eq_true rfl) (Nat.le_of_ble_eq_true rfl) (Nat.le_of_ble_eq_true rfl) hlocks (Or.inl ⟨rfl, Or.inr ⟨h9, rfl, hh2, Or.inr ⟨by omega, by omega⟩⟩, rfl⟩) (Nat.le_of_ble_eq_true rfl) (Nat.le_of_ble_eq_true rfl)
set_option maxHeartbeats 4000000 in
set_option maxRecDepth 100000 in
theorem c_X5_grow (l : Launch) (hlf : l.stackTraces = false) (D : va_G) (ty : Nat → ClassId) (ad : Nat → Nat) (ct : rm_C) (sz : Nat) (yc hc : Nat) (yn : Nat → Nat) (yM : Nat → Nat → Nat → Int) (yd : Nat → Nat → Int) (yu : Nat → Int) (hy : Nat → Nat) (hg hf : Nat → Nat → Int) (hC : ClsAt ty ad ct yc hc yn yM yd yu hy hg hf) (hyn : ∀ y, y < yc → 2 ≤ yn y ∧ yn y ≤ 8) (hyM : ∀ y, y < yc → ∀ i j, 0 ≤ yM y i j ∧ yM y i j ≤ 3) (hyd : ∀ y, y < yc → ∀ i, i < 8 → 0 ≤ yd y i ∧ yd y i ≤ 21) (z9 : Int) (tr : Nat) (hz9 : r32 z9) (htr : tr < 18446744073709551616) : vx_Met l yX5_grow wsX5_grow ({ frames := 7, cells := 1, slots := 6, locals := 104 }) (rm_PX D ty ad ct sz [.ref (ad 0), .int (jI z9), .long (jL ((tr : Nat) : Int))]) (rm_Qi D ad ct sz (fun z ct1 => ∃ h9 : Nat, z9 = (h9 : Int) ∧ h9 < hc ∧ ((z = 0 ∧ ((∃ p, 1 ≤ p ∧ p < (yn (hy h9)) ∧ (yM (hy h9)) p (tgt tr p) ≤ (pth tr p : Int)) ∨ ((∀ p, 1 ≤ p → p < (yn (hy h9)) → (pth tr p : Int) < (yM (hy h9)) p (tgt tr p)) ∧ ∃ q, q < (yn (hy h9)) ∧ fit9 (yn (hy h9)) tr ((yn (hy h9)) - 1) q = -1)) ∧ ClsAt ty ad ct1 yc hc yn yM yd yu hy hg hf) ∨ (z = 1 ∧ (∀ p, 1 ≤ p → p < (yn (hy h9)) → (pth tr p : Int) < (yM (hy h9)) p (tgt tr p)) ∧ (∀ q, q < (yn (hy h9)) → fit9 (yn (hy h9)) tr ((yn (hy h9)) - 1) q ≠ -1) ∧ ClsAt ty ad ct1 yc hc yn yM yd yu hy (us hg h9 (tkn (yn (hy h9)) (grw (yn (hy h9)) (yM (hy h9)) (yd (hy h9)) tr) (hg h9))) hf)))) (rm_XC D ad ct sz (fun E ct1 => E = xNSE ∧ (z9 < 0 ∨ (hc : Int) ≤ z9) ∧ ct1 = ct)) 1 6 (rm_A ad ct sz) := by
  refine vx_ofW (cc := cX5_grow) (maxL := 6) (ret := (some .boolean)) (by decide) rfl ?_
  intro p e s m args below meth c s₁ B hml hout hv
  obtain ⟨hargs, ⟨hsz, hW, hK, hNw⟩, hE, hU⟩ := hv
  have hx := B.exec
  have hb := B.bytes
  have hr := B.returns
  have hts := atoms_spec (ws := wsX5_grow) B.pre
  have hown : s.vm.findClass RX5 = some m.cls := findClass_of_methodNamed B.named
  have hlocks := B.notSynchronized
  subst hsz
  have hW := hW.own (sz := s.heap.size)
  have hA : ∀ q : Nat, s.heap.size ≤ q → rm_A ad ct s.heap.size q := fun q h => Or.inr h
  have hS : va_S (rm_A ad ct s.heap.size) s.heap s.heap [] := va_S.rf
  have hent : entryFrame m args 6 = entryFrame m ([.ref (ad 0), .int (jI z9), .long (jL ((tr : Nat) : Int))] : List Value).toArray 6 := by rw [hargs]
  have hl := lv_entry ([.ref (ad 0), .int (jI z9), .long (jL ((tr : Nat) : Int))]) (n := 6) (Nat.le_of_ble_eq_true rfl)
  rw [hent, lg_entry_eq]
  generalize (lg_sl ([.ref (ad 0), .int (jI z9), .long (jL ((tr : Nat) : Int))]) ++ List.replicate (6 - (lg_sl ([.ref (ad 0), .int (jI z9), .long (jL ((tr : Nat) : Int))])).length) Slot.unset).toArray = ls at hl ⊢
  have hl : lv_has ls 6 [(0, .ref (ad 0)), (1, .int (jI z9)), (2, .long (jL ((tr : Nat) : Int)))] := hl
  refine lv_aload_n hx hb dX5_grow_0 rfl (lv_at hl 0 rfl) ?_
  refine lv_iload_n hx hb dX5_grow_1 rfl (lv_at hl 1 rfl) ?_
  refine rm_xcallr (vx_runV (As := [.int (jI z9)]) (rest := []) ⟨hx, hb, hml, hown, hts⟩ (c_X5_heapNumbered l hlf D ty ad ct s.heap.size yc hc yn yM yd yu hy hg hf hC z9 hz9) (cwV 1 hts gX5_grow_X5_heapNumbered rfl rfl rfl (by decide +kernel) ⟨Nat.le_of_ble_eq_true rfl, Nat.le_of_ble_eq_true rfl⟩) (rm_preVX hK hNw hE hU hW hS hA hC.2.1.1 rfl) rfl rfl hl.1 rfl (lv_room (Nat.le_of_ble_eq_true rfl)) dX5_grow_2 ⟨Nat.le_of_ble_eq_true rfl, Nat.le_of_ble_eq_true rfl⟩) hW hS hA hout hlocks (fun E ct1 h => h) (Nat.le_of_ble_eq_true rfl) (Nat.le_of_ble_eq_true rfl) (fun z_1 ct_1 H locs hq_1 hW hS => ?_)
  obtain ⟨h9, hh1, hh2, hh3, hcc⟩ := hq_1
  have hcc := hcc.symm
  subst hcc hh3 hh1
  have hHh := (hC.2.2.2.2.1 h9 hh2).2
  have hyh := (hC.2.2.2.2.1 h9 hh2).1
  have hYy := hC.2.2.2.1 (hy h9) hyh
  have hyn9 := hyn (hy h9) hyh
  have hb6 := hC.1.1
  have hb20 := hC.1.2
  obtain ⟨rd, hFi⟩ := hC.2.2.1.1
  refine lv_astore (lv' := [(4, .ref (ad (200 + 4 * h9))), (0, .ref (ad 0)), (1, .int (jI ((h9 : Nat) : Int))), (2, .long (jL ((tr : Nat) : Int)))]) hx hb dX5_grow_5 hl (by decide) rfl (fun ls hl => ?_)
  refine lv_aload_n hx hb dX5_grow_7 rfl (lv_at hl 1 rfl) ?_
  refine rm_get (ci := 5) (v := .ref (ad 3)) (C := RX5) (T := TX5) (N := 7) hx hb hts (by decide +kernel) hown hK hW hC.2.1.1 rfl 4 (by decide) (hts (.fieldLink RX5 31 "GrainYard" "fire" "LGrainYard$Fire;") (by decide +kernel)) (fun _ h9 => h9) rfl dX5_grow_8 ?_
  refine lv_aload hx hb dX5_grow_11 (lv_at hl 0 rfl) ?_
  refine rm_get (ci := 1) (v := .ref (ad (40 + 16 * hy h9))) (C := RX1) (T := TX1) (N := 3) hx hb hts (by decide +kernel) hown hK hW hHh.1 rfl 0 (by decide) (hts (.fieldLink RX5 107 "GrainYard$Heap" "yard" "LGrainYard$Yard;") (by decide +kernel)) (fun _ h9 => h9) rfl dX5_grow_13 ?_
  refine lv_lload_n hx hb dX5_grow_16 rfl (lv_at hl 3 rfl) ?_
  refine rm_calli (va_runV (As := [.ref (ad (40 + 16 * hy h9)), .long (jL ((tr : Nat) : Int))]) (rest := []) ⟨hx, hb, hml, hown, hts⟩ (c_X0_followsTree l D ty ad ct H.size (40 + 16 * hy h9) (yn (hy h9)) (yM (hy h9)) (yd (hy h9)) (yu (hy h9)) 3 4 rd tr htr hyn9.1 hyn9.2 hYy (hyM _ hyh) (hyd _ hyh) hFi (by omega) (by omega)) (cwV 2 hts gX5_grow_X0_followsTree rfl rfl rfl (by decide +kernel) ⟨Nat.le_of_ble_eq_true rfl, Nat.le_of_ble_eq_true rfl⟩) (rm_preV hK hNw hW hFi.1 rfl) rfl rfl hl.1 rfl (lv_room (Nat.le_of_ble_eq_true rfl)) dX5_grow_17 ⟨Nat.le_of_ble_eq_true rfl, Nat.le_of_ble_eq_true rfl⟩) hW hS hA (fun z_2 ct_2 H locs hq_2 hW hS => ?_)
  obtain ⟨rd1, hq1, hq2, hq3⟩ := hq_2
  have ho_2 : ∀ q, q ≠ 4 → ct_2 q = ct q := hq2
  have hof_2 : ∀ q, q ≠ 4 → q ≠ ((200 + 4 * h9) + 1) → ct_2 q = ct q := fun q h0_2 h1_2 => (ho_2 q h0_2).trans rfl
  have hm0_2 : ct_2 4 = some (ri ty 8 rd1) := hq1
  have hm1_2 : ct_2 ((200 + 4 * h9) + 1) = some (rl ty 8 (hg h9)) := (ho_2 ((200 + 4 * h9) + 1) (by omega)).trans hHh.2.1
  have hcl := hC.helpTo (fun q h => hq2 q (by omega)) (hC.2.2.1.fireTo hq1 hq2)
  have hzr : z_2 = 0 ∨ z_2 = 1 := by
    rcases hq3 with h | ⟨-, -, h | h⟩
    · exact Or.inl h.1
    · exact Or.inr h.1
    · exact Or.inl h.1
  refine rm_if_ne (tgt := 25) hx hb ⟨by omega, by omega⟩ dX5_grow_20 (by decide) (fun hc_3 => ?_) (fun hc_3 => ?_)
  · skip
    have hz1 : z_2 = 1 := by omega
    obtain ⟨hp9, hr9, hs9⟩ : (∀ p, 1 ≤ p → p < (yn (hy h9)) → (pth tr p : Int) < (yM (hy h9)) p (tgt tr p)) ∧ rd1 = fit9 (yn (hy h9)) tr ((yn (hy h9)) - 1) ∧ ∀ q, q < (yn (hy h9)) → rd1 q ≠ -1 := by
      rcases hq3 with h | ⟨h1, h2, h | h⟩
      · exact absurd h.1 (by omega)
      · exact ⟨h1, h2, h.2⟩
      · exact absurd h.1 (by omega)
    subst hr9
    have hfr := fit9_rng (n := (yn (hy h9))) (tr := tr) ((yn (hy h9)) - 1) (by have := hyn9.2; omega)
    refine W_genQ (fun QQ hQQ => ?_)
    refine lv_iconst (v := jI 1) hx hb dX5_grow_25 rfl ?_
    refine lv_istore (lv' := [(5, .int (jI 1)), (4, .ref (ad (200 + 4 * h9))), (0, .ref (ad 0)), (1, .int (jI ((h9 : Nat) : Int))), (2, .long (jL ((tr : Nat) : Int)))]) hx hb dX5_grow_26 hl (by decide) rfl (fun ls hl => ?_)
    have LP : ∀ (k : Nat) (i8 : Nat) (hi8 : i8 + 1 ≤ (yn (hy h9))), (yn (hy h9)) - i8 < k → ∀ (ctv : rm_C) (H : Heap) (locs : List Loc), (ctv 4 = some (ri ty 8 (fit9 (yn (hy h9)) tr ((yn (hy h9)) - 1)))) → ∀ (_ : True), (ctv ((200 + 4 * h9) + 1) = some (rl ty 8 (tkn (i8 + 1) (grw (yn (hy h9)) (yM (hy h9)) (yd (hy h9)) tr) (hg h9)))) → ∀ (_ : True), (∀ q, q ≠ 4 → q ≠ ((200 + 4 * h9) + 1) → ctv q = ct q) → ∀ (_ : True), rm_W D ad ctv (rm_A ad ct s.heap.size) H → va_S (rm_A ad ct s.heap.size) s.heap H locs → ∀ ls : Array Slot, lv_has ls 6 [(0, .ref (ad 0)), (2, .long (jL ((tr : Nat) : Int))), (4, .ref (ad (200 + 4 * h9))), (5, .int (jI (((i8 + 1) : Nat) : Int)))] → W p l e (headSpec wsX5_grow ({ frames := 7, cells := 1, slots := 6, locals := 104 })).room s m args below meth c H locs 1 6 QQ (F0 m 28 ls []) := by
      intro k
      induction k with
      | zero => intro i8 hi8 hk; exact absurd hk (Nat.not_lt_zero _)
      | succ k ih_LP =>
        intro i8 hi8 hk ctv_4 H locs hv0_4 _ hv1_4 _ hofv_4 _ hW hS ls hl
        refine lv_iload hx hb dX5_grow_28 (lv_at hl 3 rfl) ?_
        refine lv_aload hx hb dX5_grow_30 (lv_at hl 2 rfl) ?_
        refine rm_get (ci := 1) (v := .ref (ad (40 + 16 * hy h9))) (C := RX1) (T := TX1) (N := 3) hx hb hts (by decide +kernel) hown hK hW ((hofv_4 (200 + 4 * h9) (by omega) (by omega)).trans hHh.1) rfl 0 (by decide) (hts (.fieldLink RX5 107 "GrainYard$Heap" "yard" "LGrainYard$Yard;") (by decide +kernel)) (fun _ h9 => h9) rfl dX5_grow_32 ?_
        refine rm_get (ci := 4) (v := .int (jI (((yn (hy h9)) : Nat) : Int))) (C := RX4) (T := TX4) (N := 4) hx hb hts (by decide +kernel) hown hK hW ((hofv_4 (40 + 16 * hy h9) (by omega) (by omega)).trans hYy.1) rfl 0 (by decide) (hts (.fieldLink RX5 149 "GrainYard$Yard" "places" "I") (by decide +kernel)) (fun _ h9 => h9) rfl dX5_grow_35 ?_
        refine rm_icmp_ge (tgt := 71) hx hb ⟨by omega, by omega⟩ ⟨by omega, by omega⟩ dX5_grow_38 (by decide) (fun hc_5 => ?_) (fun hc_5 => ?_)
        · skip
          have hi8 : i8 + 1 = (yn (hy h9)) := by omega
          have hk_6 : ctv_4 ((200 + 4 * h9) + 1) = some (rl ty 8 (tkn (yn (hy h9)) (grw (yn (hy h9)) (yM (hy h9)) (yd (hy h9)) tr) (hg h9))) := hv1_4.trans (congrArg (fun f => some (rl ty 8 f)) (by rw [hi8]))
          have hcl2 := hcl.heapTo hh2 hk_6 ((hofv_4 ((200 + 4 * h9) + 2) (by omega) (by omega)).trans hHh.2.2) (fun q h1 h2 h3 => (hofv_4 q (by omega) h1).trans (hq2 q (by omega)).symm) (hC.2.2.1.fireTo2 hv0_4 (fun q h h2 => hofv_4 q h (by omega)))
          rw [us_self] at hcl2
          refine lv_iconst (v := jI 1) hx hb dX5_grow_71 rfl ?_
          rw [hQQ]
          refine vx_ret ?_
          refine W.widen (k := 1) (n := 6) (by omega) (by omega) ?_
          exact W.zret hx hb hr (by decide) (fun t ht hw => ⟨⟨_, (1, ctv_4), rfl, ⟨rfl, ⟨h9, rfl, hh2, Or.inr ⟨rfl, hp9, hs9, hcl2⟩⟩⟩, by show rm_W D ad _ _ t.heap; rw [ht]; exact hW⟩, hS.F ht⟩) hS.2.2 dX5_grow_72
        · skip
          refine lv_aload hx hb dX5_grow_41 (lv_at hl 2 rfl) ?_
          refine rm_get (ci := 1) (v := .ref (ad ((200 + 4 * h9) + 1))) (C := RX1) (T := TX1) (N := 3) hx hb hts (by decide +kernel) hown hK hW ((hofv_4 (200 + 4 * h9) (by omega) (by omega)).trans hHh.1) rfl 1 (by decide) (hts (.fieldLink RX5 117 "GrainYard$Heap" "grains" "[J") (by decide +kernel)) (fun _ h9 => h9) rfl dX5_grow_43 ?_
          refine lv_iload hx hb dX5_grow_46 (lv_at hl 3 rfl) ?_
          refine lv_aload_n hx hb dX5_grow_48 rfl (lv_at hl 0 rfl) ?_
          refine rm_get (ci := 5) (v := .ref (ad 3)) (C := RX5) (T := TX5) (N := 7) hx hb hts (by decide +kernel) hown hK hW ((hofv_4 0 (by omega) (by omega)).trans hC.2.1.1) rfl 4 (by decide) (hts (.fieldLink RX5 31 "GrainYard" "fire" "LGrainYard$Fire;") (by decide +kernel)) (fun _ h9 => h9) rfl dX5_grow_49 ?_
          refine lv_aload hx hb dX5_grow_52 (lv_at hl 2 rfl) ?_
          refine rm_get (ci := 1) (v := .ref (ad (40 + 16 * hy h9))) (C := RX1) (T := TX1) (N := 3) hx hb hts (by decide +kernel) hown hK hW ((hofv_4 (200 + 4 * h9) (by omega) (by omega)).trans hHh.1) rfl 0 (by decide) (hts (.fieldLink RX5 107 "GrainYard$Heap" "yard" "LGrainYard$Yard;") (by decide +kernel)) (fun _ h9 => h9) rfl dX5_grow_54 ?_
          refine lv_lload_n hx hb dX5_grow_57 rfl (lv_at hl 1 rfl) ?_
          refine lv_iload hx hb dX5_grow_58 (lv_at hl 3 rfl) ?_
          refine rm_calli (va_runV (As := [.ref (ad (40 + 16 * hy h9)), .long (jL ((tr : Nat) : Int)), .int (jI (((i8 + 1) : Nat) : Int))]) (rest := [.int (jI (((i8 + 1) : Nat) : Int)), .ref (ad ((200 + 4 * h9) + 1))]) ⟨hx, hb, hml, hown, hts⟩ (c_X0_grainsByTree l D ty ad ctv_4 H.size (40 + 16 * hy h9) (yn (hy h9)) (yM (hy h9)) (yd (hy h9)) (yu (hy h9)) 3 4 (fit9 (yn (hy h9)) tr ((yn (hy h9)) - 1)) tr (i8 + 1) htr (by omega) (by omega) hyn9.2 (hYy.kept (fun q a b => hofv_4 q (by omega) (by omega))) (hyM _ hyh) (hyd _ hyh) ⟨((hofv_4 3 (by omega) (by omega)).trans hFi.1), hv0_4⟩ hfr) (cwV 3 hts gX5_grow_X0_grainsByTree rfl rfl rfl (by decide +kernel) ⟨Nat.le_of_ble_eq_true rfl, Nat.le_of_ble_eq_true rfl⟩) (rm_preV hK hNw hW ((hofv_4 3 (by omega) (by omega)).trans hFi.1) rfl) rfl rfl hl.1 rfl (lv_room (Nat.le_of_ble_eq_true rfl)) dX5_grow_60 ⟨Nat.le_of_ble_eq_true rfl, Nat.le_of_ble_eq_true rfl⟩) hW hS hA (fun z_7 ct_7 H locs hq_7 hW hS => ?_)
          obtain ⟨hz, hcc_7⟩ := hq_7
          have hcc_7 := hcc_7.symm
          subst hcc_7
          have hzg : z_7 = (grw (yn (hy h9)) (yM (hy h9)) (yd (hy h9)) tr) (i8 + 1) := hz
          have hzb := grw_rng (hyM _ hyh) (hyd _ hyh) hyn9.2 (tr := tr) (p := i8 + 1) (by omega) hfr
          rw [← hzg] at hzb
          refine rm_i2l hx hb dX5_grow_63 ⟨by omega, by omega⟩ ?_
          refine rm_last hx hb hK hW hS (f := (tkn (i8 + 1) (grw (yn (hy h9)) (yM (hy h9)) (yd (hy h9)) tr) (hg h9))) hv1_4 (i8 + 1) rfl (by omega) (by omega) dX5_grow_64 (fun H locs ct_8 hs_8 ho_8 hW hS hz_8 => ?_)
          have hof_8 : ∀ q, q ≠ 4 → q ≠ ((200 + 4 * h9) + 1) → ct_8 q = ct q := fun q h0_8 h1_8 => (ho_8 q h1_8).trans (hofv_4 q h0_8 h1_8)
          have hm0_8 : ct_8 4 = some (ri ty 8 (fit9 (yn (hy h9)) tr ((yn (hy h9)) - 1))) := (ho_8 4 (by omega)).trans hv0_4
          have hk_9 : ct_8 ((200 + 4 * h9) + 1) = some (rl ty 8 (tkn (i8 + 1 + 1) (grw (yn (hy h9)) (yM (hy h9)) (yd (hy h9)) tr) (hg h9))) := hs_8.trans (congrArg (fun f => some (rl ty 8 f)) ((by rw [hzg]; exact tkn_s (i := i8 + 1) (w := (grw (yn (hy h9)) (yM (hy h9)) (yd (hy h9)) tr)) (g := hg h9) (by omega))))
          refine lv_iinc (v := jI ((((i8 + 1) : Nat) : Int) + 1)) (lv' := [(5, .int (jI ((((i8 + 1) : Nat) : Int) + 1))), (0, .ref (ad 0)), (2, .long (jL ((tr : Nat) : Int))), (4, .ref (ad (200 + 4 * h9)))]) hx hb dX5_grow_65 hl (k := 3) rfl (jI_add _ _) (by decide) rfl (fun ls hl => ?_)
          refine lv_goto (tgt := 28) hx hb dX5_grow_68 (by decide) ?_
          exact ih_LP (i8 + 1) (by omega) (by omega) ct_8 _ _ hm0_8 trivial hk_9 trivial hof_8 trivial hW hS ls (lv_sub hl [1, 2, 3, 0] rfl)
    exact LP ((yn (hy h9)) + 1) (0) (by omega) (by omega) ct_2 _ _ hm0_2 trivial (hm1_2.trans (congrArg (fun f => some (rl ty 8 f)) (tkn_0 _ _))) trivial hof_2 trivial hW hS ls (lv_sub hl [2, 4, 1, 0] rfl)
  · skip
    refine lv_iconst (v := jI 0) hx hb dX5_grow_23 rfl ?_
    refine vx_ret ?_
    refine W.widen (k := 1) (n := 6) (by omega) (by omega) ?_
    exact W.zret hx hb hr (by decide) (fun t ht hw => ⟨⟨_, (0, ct_2), rfl, ⟨rfl, ⟨h9, rfl, hh2, Or.inl ⟨rfl, by
        rcases hq3 with h | ⟨h1, h2, h | h⟩
        · exact Or.inl h.2
        · exact absurd h.1 (by omega)
        · subst h2; exact Or.inr ⟨h1, h.2⟩, hcl⟩⟩⟩, by show rm_W D ad _ _ t.heap; rw [ht]; exact hW⟩, hS.F ht⟩) hS.2.2 dX5_grow_24
