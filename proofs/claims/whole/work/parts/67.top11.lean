set_option maxHeartbeats 4000000 in
set_option maxRecDepth 100000 in
theorem c_X5_path (l : Launch) (hlf : l.stackTraces = false) (D : va_G) (ty : Nat → ClassId) (ad : Nat → Nat) (ct : rm_C) (sz : Nat) (yc hc : Nat) (yn : Nat → Nat) (yM : Nat → Nat → Nat → Int) (yd : Nat → Nat → Int) (yu : Nat → Int) (hy : Nat → Nat) (hg hf : Nat → Nat → Int) (hC : ClsAt ty ad ct yc hc yn yM yd yu hy hg hf) (hyn : ∀ y, y < yc → 2 ≤ yn y ∧ yn y ≤ 8) (hyM : ∀ y, y < yc → ∀ i j, 0 ≤ yM y i j ∧ yM y i j ≤ 3) (hyd : ∀ y, y < yc → ∀ i, i < 8 → 0 ≤ yd y i ∧ yd y i ≤ 21) (hyu : ∀ y, y < yc → yu y = 0 ∨ yu y = 1) (z9 p9 r9 n9 : Int) (hz9 : r32 z9) (hp9 : r32 p9) (hr9 : r32 r9) (hn9 : r32 n9) : vx_Met l yX5_path wsX5_path ({ frames := 7, cells := 3, slots := 18, locals := 104 }) (rm_PX D ty ad ct sz [.ref (ad 0), .int (jI z9), .int (jI p9), .int (jI r9), .int (jI n9)]) (rm_Qi D ad ct sz (fun z ct1 => ∃ y9 a9 b9 : Nat, z9 = (y9 : Int) ∧ p9 = (a9 : Int) ∧ r9 = (b9 : Int) ∧ y9 < yc ∧ a9 < yn y9 ∧ b9 < yn y9 ∧ (((n9 < 0 ∨ 3 < n9 ∨ a9 = b9 ∨ yu y9 = 1) ∧ z = -1 ∧ ct1 = ct) ∨ (0 ≤ n9 ∧ n9 ≤ 3 ∧ a9 ≠ b9 ∧ yu y9 = 0 ∧ z = yM y9 a9 b9 ∧ ClsAt ty ad ct1 yc hc yn (us yM y9 (lyM (yM y9) a9 b9 n9)) (us yd y9 (lyd (yd y9) a9 b9 (n9 - yM y9 a9 b9))) yu hy hg hf)))) (rm_XC D ad ct sz (fun E ct1 => E = xNSE ∧ ((z9 < 0 ∨ (yc : Int) ≤ z9) ∨ ∃ y9 : Nat, z9 = (y9 : Int) ∧ y9 < yc ∧ ((p9 < 0 ∨ (yn y9 : Int) ≤ p9) ∨ (r9 < 0 ∨ (yn y9 : Int) ≤ r9))) ∧ ct1 = ct)) 3 18 (rm_A ad ct sz) := by
  refine vx_ofW (cc := cX5_path) (maxL := 6) (ret := (some .int)) (by decide) rfl ?_
  intro p e s m args below meth c s₁ B hml hout hv
  obtain ⟨hargs, ⟨hsz, hW, hK, hNw⟩, hE, hU⟩ := hv
  have hx := B.exec
  have hb := B.bytes
  have hr := B.returns
  have hts := atoms_spec (ws := wsX5_path) B.pre
  have hown : s.vm.findClass RX5 = some m.cls := findClass_of_methodNamed B.named
  have hlocks := B.notSynchronized
  subst hsz
  have hW := hW.own (sz := s.heap.size)
  have hA : ∀ q : Nat, s.heap.size ≤ q → rm_A ad ct s.heap.size q := fun q h => Or.inr h
  have hS : va_S (rm_A ad ct s.heap.size) s.heap s.heap [] := va_S.rf
  have hent : entryFrame m args 6 = entryFrame m ([.ref (ad 0), .int (jI z9), .int (jI p9), .int (jI r9), .int (jI n9)] : List Value).toArray 6 := by rw [hargs]
  have hl := lv_entry ([.ref (ad 0), .int (jI z9), .int (jI p9), .int (jI r9), .int (jI n9)]) (n := 6) (Nat.le_of_ble_eq_true rfl)
  rw [hent, lg_entry_eq]
  generalize (lg_sl ([.ref (ad 0), .int (jI z9), .int (jI p9), .int (jI r9), .int (jI n9)]) ++ List.replicate (6 - (lg_sl ([.ref (ad 0), .int (jI z9), .int (jI p9), .int (jI r9), .int (jI n9)])).length) Slot.unset).toArray = ls at hl ⊢
  have hl : lv_has ls 6 [(0, .ref (ad 0)), (1, .int (jI z9)), (2, .int (jI p9)), (3, .int (jI r9)), (4, .int (jI n9))] := hl
  refine lv_aload_n hx hb dX5_path_0 rfl (lv_at hl 0 rfl) ?_
  refine lv_iload_n hx hb dX5_path_1 rfl (lv_at hl 1 rfl) ?_
  refine rm_xcallr (vx_runV (As := [.int (jI z9)]) (rest := []) ⟨hx, hb, hml, hown, hts⟩ (c_X5_yardNumbered l hlf D ty ad ct s.heap.size yc hc yn yM yd yu hy hg hf hC z9 hz9) (cwV 1 hts gX5_path_X5_yardNumbered rfl rfl rfl (by decide +kernel) ⟨Nat.le_of_ble_eq_true rfl, Nat.le_of_ble_eq_true rfl⟩) (rm_preVX hK hNw hE hU hW hS hA hC.2.1.1 rfl) rfl rfl hl.1 rfl (lv_room (Nat.le_of_ble_eq_true rfl)) dX5_path_2 ⟨Nat.le_of_ble_eq_true rfl, Nat.le_of_ble_eq_true rfl⟩) hW hS hA hout hlocks (fun E ct1 h => ⟨h.1, Or.inl h.2.1, h.2.2⟩) (Nat.le_of_ble_eq_true rfl) (Nat.le_of_ble_eq_true rfl) (fun z_1 ct_1 H locs hq_1 hW hS => ?_)
  obtain ⟨y9, hy1, hy2, hy3, hcc⟩ := hq_1
  have hcc := hcc.symm
  subst hcc hy3 hy1
  have hYy := hC.2.2.2.1 y9 hy2
  have hyn9 := hyn y9 hy2
  have hu9 := hyu y9 hy2
  refine lv_astore (lv' := [(5, .ref (ad (40 + 16 * y9))), (0, .ref (ad 0)), (1, .int (jI ((y9 : Nat) : Int))), (2, .int (jI p9)), (3, .int (jI r9)), (4, .int (jI n9))]) hx hb dX5_path_5 hl (by decide) rfl (fun ls hl => ?_)
  refine lv_aload hx hb dX5_path_7 (lv_at hl 0 rfl) ?_
  refine lv_iload_n hx hb dX5_path_9 rfl (lv_at hl 3 rfl) ?_
  refine lv_iconst (v := jI 0) hx hb dX5_path_10 rfl ?_
  refine rm_xcallv (vx_runS (As := [.ref (ad (40 + 16 * y9)), .int (jI p9), .int (jI 0)]) (rest := []) ⟨hx, hb, hml, hown, hts⟩ (c_X5_requirePlace l hlf D ty ad ct H.size (40 + 16 * y9) (yn y9) (yM y9) (yd y9) (yu y9) p9 0 hp9 r32_0 hyn9.2 hYy) (va_cwS 3 hts gX5_path_X5_requirePlace rfl rfl rfl (by decide +kernel) ⟨Nat.le_of_ble_eq_true rfl, Nat.le_of_ble_eq_true rfl⟩) (rm_preSX hK hNw hE hU hW hS hA) rfl rfl hl.1 rfl (lv_room (Nat.le_of_ble_eq_true rfl)) dX5_path_11 ⟨Nat.le_of_ble_eq_true rfl, Nat.le_of_ble_eq_true rfl⟩) hW hS hA hout hlocks (fun E ct1 h => ⟨h.1, Or.inr ⟨y9, rfl, hy2, Or.inl h.2.1⟩, h.2.2⟩) (Nat.le_of_ble_eq_true rfl) (Nat.le_of_ble_eq_true rfl) (fun ct_2 H locs hq_2 hW hS hz_2 => ?_)
  obtain ⟨ha91, ha92, hcc⟩ := hq_2
  have hcc := hcc.symm
  subst hcc
  refine lv_aload hx hb dX5_path_14 (lv_at hl 0 rfl) ?_
  refine lv_iload_n hx hb dX5_path_16 rfl (lv_at hl 4 rfl) ?_
  refine lv_iconst (v := jI 0) hx hb dX5_path_17 rfl ?_
  refine rm_xcallv (vx_runS (As := [.ref (ad (40 + 16 * y9)), .int (jI r9), .int (jI 0)]) (rest := []) ⟨hx, hb, hml, hown, hts⟩ (c_X5_requirePlace l hlf D ty ad ct H.size (40 + 16 * y9) (yn y9) (yM y9) (yd y9) (yu y9) r9 0 hr9 r32_0 hyn9.2 hYy) (va_cwS 3 hts gX5_path_X5_requirePlace rfl rfl rfl (by decide +kernel) ⟨Nat.le_of_ble_eq_true rfl, Nat.le_of_ble_eq_true rfl⟩) (rm_preSX hK hNw hE hU hW hS hA) rfl rfl hl.1 rfl (lv_room (Nat.le_of_ble_eq_true rfl)) dX5_path_18 ⟨Nat.le_of_ble_eq_true rfl, Nat.le_of_ble_eq_true rfl⟩) hW hS hA hout hlocks (fun E ct1 h => ⟨h.1, Or.inr ⟨y9, rfl, hy2, Or.inr h.2.1⟩, h.2.2⟩) (Nat.le_of_ble_eq_true rfl) (Nat.le_of_ble_eq_true rfl) (fun ct_3 H locs hq_3 hW hS hz_3 => ?_)
  obtain ⟨hb91, hb92, hcc⟩ := hq_3
  have hcc := hcc.symm
  subst hcc
  obtain ⟨a9, ha9⟩ : ∃ q : Nat, p9 = (q : Int) := ⟨p9.toNat, by omega⟩
  subst ha9
  obtain ⟨b9, hb9⟩ : ∃ q : Nat, r9 = (q : Int) := ⟨r9.toNat, by omega⟩
  subst hb9
  refine lv_iload hx hb dX5_path_21 (lv_at hl 5 rfl) ?_
  refine rm_if_lt (tgt := 45) hx hb ⟨by omega, by omega⟩ dX5_path_23 (by decide) (fun hc_4 => ?_) (fun hc_4 => ?_)
  · skip
    refine lv_iconst (v := jI (-1)) hx hb dX5_path_45 rfl ?_
    refine vx_ret ?_
    refine W.widen (k := 3) (n := 18) (by omega) (by omega) ?_
    exact W.iret hx hb hr (fun t ht hw => ⟨⟨_, ((-1), ct), rfl, ⟨rfl, ⟨y9, a9, b9, rfl, rfl, rfl, hy2, by omega, by omega, Or.inl ⟨Or.inl (by omega), rfl, rfl⟩⟩⟩, by show rm_W D ad _ _ t.heap; rw [ht]; exact hW⟩, hS.F ht⟩) hS.2.2 dX5_path_46
  · skip
    refine lv_iload hx hb dX5_path_26 (lv_at hl 5 rfl) ?_
    refine lv_iconst (v := jI 3) hx hb dX5_path_28 rfl ?_
    refine rm_icmp_gt (tgt := 45) hx hb ⟨by omega, by omega⟩ ⟨by omega, by omega⟩ dX5_path_29 (by decide) (fun hc_5 => ?_) (fun hc_5 => ?_)
    · skip
      refine lv_iconst (v := jI (-1)) hx hb dX5_path_45 rfl ?_
      refine vx_ret ?_
      refine W.widen (k := 3) (n := 18) (by omega) (by omega) ?_
      exact W.iret hx hb hr (fun t ht hw => ⟨⟨_, ((-1), ct), rfl, ⟨rfl, ⟨y9, a9, b9, rfl, rfl, rfl, hy2, by omega, by omega, Or.inl ⟨Or.inr (Or.inl (by omega)), rfl, rfl⟩⟩⟩, by show rm_W D ad _ _ t.heap; rw [ht]; exact hW⟩, hS.F ht⟩) hS.2.2 dX5_path_46
    · skip
      refine lv_iload_n hx hb dX5_path_32 rfl (lv_at hl 3 rfl) ?_
      refine lv_iload_n hx hb dX5_path_33 rfl (lv_at hl 4 rfl) ?_
      refine rm_icmp_eq (tgt := 45) hx hb ⟨by omega, by omega⟩ ⟨by omega, by omega⟩ dX5_path_34 (by decide) (fun hc_6 => ?_) (fun hc_6 => ?_)
      · skip
        refine lv_iconst (v := jI (-1)) hx hb dX5_path_45 rfl ?_
        refine vx_ret ?_
        refine W.widen (k := 3) (n := 18) (by omega) (by omega) ?_
        exact W.iret hx hb hr (fun t ht hw => ⟨⟨_, ((-1), ct), rfl, ⟨rfl, ⟨y9, a9, b9, rfl, rfl, rfl, hy2, by omega, by omega, Or.inl ⟨Or.inr (Or.inr (Or.inl (by omega))), rfl, rfl⟩⟩⟩, by show rm_W D ad _ _ t.heap; rw [ht]; exact hW⟩, hS.F ht⟩) hS.2.2 dX5_path_46
      · skip
        refine lv_aload hx hb dX5_path_37 (lv_at hl 0 rfl) ?_
        refine rm_get (ci := 4) (v := .int (jI (yu y9))) (C := RX4) (T := TX4) (N := 4) hx hb hts (by decide +kernel) hown hK hW hYy.1 rfl 3 (by decide) (hts (.fieldLink RX5 60 "GrainYard$Yard" "fixed" "Z") (by decide +kernel)) (fun _ h9 => h9) rfl dX5_path_39 ?_
        refine rm_if_eq (tgt := 47) hx hb ⟨by omega, by omega⟩ dX5_path_42 (by decide) (fun hc_7 => ?_) (fun hc_7 => ?_)
        · skip
          refine lv_aload hx hb dX5_path_47 (lv_at hl 0 rfl) ?_
          refine lv_iload_n hx hb dX5_path_49 rfl (lv_at hl 3 rfl) ?_
          refine lv_iload_n hx hb dX5_path_50 rfl (lv_at hl 4 rfl) ?_
          refine lv_iload hx hb dX5_path_51 (lv_at hl 5 rfl) ?_
          refine rm_calli (va_runV (As := [.int (jI ((a9 : Nat) : Int)), .int (jI ((b9 : Nat) : Int)), .int (jI n9)]) (rest := []) ⟨hx, hb, hml, hown, hts⟩ (c_X4_lay l D ty ad ct H.size (40 + 16 * y9) (yn y9) (yM y9) (yd y9) (yu y9) a9 b9 n9 (by omega) (by omega) (by omega) hyn9.2 hYy) (cwV 3 hts gX5_path_X4_lay rfl rfl rfl (by decide +kernel) ⟨Nat.le_of_ble_eq_true rfl, Nat.le_of_ble_eq_true rfl⟩) (rm_preV hK hNw hW hYy.1 rfl) rfl rfl hl.1 rfl (lv_room (Nat.le_of_ble_eq_true rfl)) dX5_path_53 ⟨Nat.le_of_ble_eq_true rfl, Nat.le_of_ble_eq_true rfl⟩) hW hS hA (fun z_8 ct_8 H locs hq_8 hW hS => ?_)
          obtain ⟨hzv, hY1, hoY⟩ := hq_8
          subst hzv
          have hcl := hC.yardTo hy2 hY1 hoY
          rw [us_self] at hcl
          refine vx_ret ?_
          refine W.widen (k := 3) (n := 18) (by omega) (by omega) ?_
          exact W.iret hx hb hr (fun t ht hw => ⟨⟨_, ((yM y9 a9 b9), ct_8), rfl, ⟨rfl, ⟨y9, a9, b9, rfl, rfl, rfl, hy2, by omega, by omega, Or.inr ⟨by omega, by omega, by omega, by omega, rfl, hcl⟩⟩⟩, by show rm_W D ad _ _ t.heap; rw [ht]; exact hW⟩, hS.F ht⟩) hS.2.2 dX5_path_56
        · skip
          refine lv_iconst (v := jI (-1)) hx hb dX5_path_45 rfl ?_
          refine vx_ret ?_
          refine W.widen (k := 3) (n := 18) (by omega) (by omega) ?_
          exact W.iret hx hb hr (fun t ht hw => ⟨⟨_, ((-1), ct), rfl, ⟨rfl, ⟨y9, a9, b9, rfl, rfl, rfl, hy2, by omega, by omega, Or.inl ⟨Or.inr (Or.inr (Or.inr (by omega))), rfl, rfl⟩⟩⟩, by show rm_W D ad _ _ t.heap; rw [ht]; exact hW⟩, hS.F ht⟩) hS.2.2 dX5_path_46
