theorem cag_cong {n : Nat} {M : Nat → Nat → Int} {g g' : Nat → Int} (hs : yst n M) (hg : ∀ q, 1 ≤ q → q < n → 0 ≤ g q) (hB : psum n g ≤ 900000000) (h : ∀ q, 1 ≤ q → q < n → g q = g' q) {q : Nat} (h1 : 1 ≤ q) (h2 : q < n) : cag n M g q = cag n M g' q := by
  have h3 := lft_sum hs
  obtain ⟨v, hv⟩ := yst_first (g := fun q => lft n M q + g q) hs (fun q a b => by have h5 := (lft_rng hs a b).1; have h6 := hs.2.1 q a b; have h7 := hg q a b; omega) (by rw [psum_add]; omega)
  unfold cag
  rw [stv_eq hv, stv_cong (g' := fun q => lft n M q + g' q) (fun q a b => by rw [h q a b]) hv]
  show lft n M q + g q - _ + _ = lft n M q + g' q - _ + _; rw [h q h1 h2]
theorem opp_rng {n : Nat} {M : Nat → Nat → Int} {g : Nat → Int} (hs : yst n M) (hg : ∀ q, 1 ≤ q → q < n → 0 ≤ g q) (hB : psum n g ≤ 900000000) {q : Nat} (h1 : 1 ≤ q) (h2 : q < n) : 0 ≤ opp n M g q ∧ opp n M g q ≤ 40 := by
  obtain ⟨v, hv⟩ := yst_first hs hg (by omega)
  have h3 := stl_nn hs hg (by omega) (stv_ok hv) h1 h2
  have h4 := lft_rng hs h1 h2
  unfold opp; omega
def bcm (n : Nat) (M : Nat → Nat → Int) (d g : Nat → Int) (w9 : Int) (w : Nat → Int) : Prop := (w9 = 0 ∧ w = fun _ => 0) ∨ (w9 = 1 ∧ w = fun q => d q - 1) ∨ (w9 = 2 ∧ w = cag n M (fun _ => 0)) ∨ (w9 = 3 ∧ w = cag n M (opp n M g)) ∨ (w9 = 4 ∧ w = cag n M g)
theorem KindsAt.rowsTo {ty : Nat → ClassId} {ad : Nat → Nat} {ct ct1 : rm_C} {ko : Nat} {fu li so fa fu1 li1 so1 fa1 : Nat → Int} {T : Nat → Nat → Int} (h : KindsAt ty ad ct ko fu li so fa T) (h2 : ct1 (ko + 2) = some (rl ty 8 fu1)) (h3 : ct1 (ko + 3) = some (rl ty 8 li1)) (h4 : ct1 (ko + 4) = some (rl ty 8 so1)) (h5 : ct1 (ko + 5) = some (rl ty 8 fa1)) (ho : ∀ q, q ≠ ko + 2 → q ≠ ko + 3 → q ≠ ko + 4 → q ≠ ko + 5 → ct1 q = ct q) : KindsAt ty ad ct1 ko fu1 li1 so1 fa1 T :=
  ⟨(ho _ (by omega) (by omega) (by omega) (by omega)).trans h.1, (ho _ (by omega) (by omega) (by omega) (by omega)).trans h.2.1, h2, h3, h4, h5, (ho _ (by omega) (by omega) (by omega) (by omega)).trans h.2.2.2.2.2.2.1, fun i hi => (ho _ (by omega) (by omega) (by omega) (by omega)).trans (h.2.2.2.2.2.2.2 i hi)⟩
set_option maxHeartbeats 4000000 in
set_option maxRecDepth 100000 in
theorem c_X5_become (l : Launch) (hlf : l.stackTraces = false) (D : va_G) (ty : Nat → ClassId) (ad : Nat → Nat) (ct : rm_C) (sz : Nat) (yc hc : Nat) (yn : Nat → Nat) (yM : Nat → Nat → Nat → Int) (yd : Nat → Nat → Int) (yu : Nat → Int) (hy : Nat → Nat) (hg hf : Nat → Nat → Int) (hC : ClsAt ty ad ct yc hc yn yM yd yu hy hg hf) (hyn : ∀ y, y < yc → 2 ≤ yn y ∧ yn y ≤ 8) (hyM : ∀ y, y < yc → ∀ i j, 0 ≤ yM y i j ∧ yM y i j ≤ 3) (hyd : ∀ y, y < yc → ∀ i, i < 8 → 0 ≤ yd y i ∧ yd y i ≤ 21) (hgr : ∀ h, h < hc → ∀ q, 1 ≤ q → q < yn (hy h) → 0 ≤ hg h q ∧ hg h q ≤ 1000000000) (hst : ∀ h, h < hc → yst (yn (hy h)) (yM (hy h)) ∧ (∀ i, i < 8 → yd (hy h) i = dg (yn (hy h)) (yM (hy h)) i) ∧ psum (yn (hy h)) (hg h) ≤ 900000000) (z9 w9 : Int) (hz9 : r32 z9) (hw9 : r32 w9) : vx_Met l yX5_become wsX5_become ({ frames := 7, cells := 2, slots := 12, locals := 104 }) (rm_PX D ty ad ct sz [.ref (ad 0), .int (jI z9), .int (jI w9)]) (rm_Qv D ad ct sz 0 (fun ct1 => ∃ h9 : Nat, z9 = (h9 : Int) ∧ h9 < hc ∧ ∃ w, bcm (yn (hy h9)) (yM (hy h9)) (yd (hy h9)) (hg h9) w9 w ∧ ClsAt ty ad ct1 yc hc yn yM yd yu hy (us hg h9 (tkn (yn (hy h9)) w (hg h9))) hf)) (rm_XC D ad ct sz (fun E ct1 => E = xNSE ∧ ((z9 < 0 ∨ (hc : Int) ≤ z9) ∨ (∃ h9 : Nat, z9 = (h9 : Int) ∧ h9 < hc) ∧ (w9 < 0 ∨ 4 < w9)) ∧ ct1 = ct)) 2 12 (rm_A ad ct sz) := by
  refine vx_ofW (cc := cX5_become) (maxL := 4) (ret := none) (by decide) rfl ?_
  intro p e s m args below meth c s₁ B hml hout hv
  obtain ⟨hargs, ⟨hsz, hW, hK, hNw⟩, hE, hU⟩ := hv
  have hx := B.exec
  have hb := B.bytes
  have hr := B.returns
  have hts := atoms_spec (ws := wsX5_become) B.pre
  have hown : s.vm.findClass RX5 = some m.cls := findClass_of_methodNamed B.named
  have hlocks := B.notSynchronized
  subst hsz
  have hW := hW.own (sz := s.heap.size)
  have hA : ∀ q : Nat, s.heap.size ≤ q → rm_A ad ct s.heap.size q := fun q h => Or.inr h
  have hS : va_S (rm_A ad ct s.heap.size) s.heap s.heap [] := va_S.rf
  have hent : entryFrame m args 4 = entryFrame m ([.ref (ad 0), .int (jI z9), .int (jI w9)] : List Value).toArray 4 := by rw [hargs]
  have hl := lv_entry ([.ref (ad 0), .int (jI z9), .int (jI w9)]) (n := 4) (Nat.le_of_ble_eq_true rfl)
  rw [hent, lg_entry_eq]
  generalize (lg_sl ([.ref (ad 0), .int (jI z9), .int (jI w9)]) ++ List.replicate (4 - (lg_sl ([.ref (ad 0), .int (jI z9), .int (jI w9)])).length) Slot.unset).toArray = ls at hl ⊢
  have hl : lv_has ls 4 [(0, .ref (ad 0)), (1, .int (jI z9)), (2, .int (jI w9))] := hl
  refine lv_aload_n hx hb dX5_become_0 rfl (lv_at hl 0 rfl) ?_
  refine lv_iload_n hx hb dX5_become_1 rfl (lv_at hl 1 rfl) ?_
  refine rm_xcallr (vx_runV (As := [.int (jI z9)]) (rest := []) ⟨hx, hb, hml, hown, hts⟩ (c_X5_heapNumbered l hlf D ty ad ct s.heap.size yc hc yn yM yd yu hy hg hf hC z9 hz9) (cwV 1 hts gX5_become_X5_heapNumbered rfl rfl rfl (by decide +kernel) ⟨Nat.le_of_ble_eq_true rfl, Nat.le_of_ble_eq_true rfl⟩) (rm_preVX hK hNw hE hU hW hS hA hC.2.1.1 rfl) rfl rfl hl.1 rfl (lv_room (Nat.le_of_ble_eq_true rfl)) dX5_become_2 ⟨Nat.le_of_ble_eq_true rfl, Nat.le_of_ble_eq_true rfl⟩) hW hS hA hout hlocks (fun E ct1 h => ⟨h.1, Or.inl h.2.1, h.2.2⟩) (Nat.le_of_ble_eq_true rfl) (Nat.le_of_ble_eq_true rfl) (fun z_1 ct_1 H locs hq_1 hW hS => ?_)
  obtain ⟨h9, hh1, hh2, hh3, hcc⟩ := hq_1
  have hcc := hcc.symm
  subst hcc hh3 hh1
  have hHh := (hC.2.2.2.2.1 h9 hh2).2
  have hyh := (hC.2.2.2.2.1 h9 hh2).1
  have hYy := hC.2.2.2.1 (hy h9) hyh
  have hyn9 := hyn (hy h9) hyh
  have hb6 := hC.1.1
  have hb20 := hC.1.2
  obtain ⟨fu, li, so, fa, T, hKi⟩ := hC.2.2.1.2.1
  have hKk : KindsAt ty ad ct 5 fu li so fa T := hKi
  have hs9 := hst h9 hh2
  have hg9 : ∀ q, 1 ≤ q → q < yn (hy h9) → 0 ≤ hg h9 q := fun q a b => (hgr h9 hh2 q a b).1
  refine lv_astore_n (lv' := [(3, .ref (ad (200 + 4 * h9))), (0, .ref (ad 0)), (1, .int (jI ((h9 : Nat) : Int))), (2, .int (jI w9))]) hx hb dX5_become_5 rfl hl (by decide) rfl (fun ls hl => ?_)
  refine lv_iload_n hx hb dX5_become_6 rfl (lv_at hl 3 rfl) ?_
  rcases (show w9 = 0 ∨ w9 = 1 ∨ w9 = 2 ∨ w9 = 3 ∨ w9 = 4 ∨ (w9 < 0 ∨ 4 < w9) by omega) with hw | hw | hw | hw | hw | hw
  · skip
    subst hw
    refine rm_tabI (off := 33) (tgt := 40) hx hb hw9 dX5_become_7 (by omega) (by omega) rfl (by decide) ?_
    refine lv_aload_n hx hb dX5_become_40 rfl (lv_at hl 0 rfl) ?_
    refine lv_aload_n hx hb dX5_become_41 rfl (lv_at hl 1 rfl) ?_
    refine rm_get (ci := 5) (v := .ref (ad 5)) (C := RX5) (T := TX5) (N := 7) hx hb hts (by decide +kernel) hown hK hW hC.2.1.1 rfl 5 (by decide) (hts (.fieldLink RX5 38 "GrainYard" "kinds" "LGrainYard$Kinds;") (by decide +kernel)) (fun _ h9 => h9) rfl dX5_become_42 ?_
    refine rm_callr (va_runV (As := []) (rest := [.ref (ad (200 + 4 * h9))]) ⟨hx, hb, hml, hown, hts⟩ (c_X2_noGrains l D ty ad ct H.size 5 fu li so fa T hKk) (cwV 0 hts gX5_become_X2_noGrains rfl rfl rfl (by decide +kernel) ⟨Nat.le_of_ble_eq_true rfl, Nat.le_of_ble_eq_true rfl⟩) (rm_preV hK hNw hW (hKk).1 rfl) rfl rfl hl.1 rfl (lv_room (Nat.le_of_ble_eq_true rfl)) dX5_become_45 ⟨Nat.le_of_ble_eq_true rfl, Nat.le_of_ble_eq_true rfl⟩) hW hS hA (fun z_2 ct_2 H locs hq_2 hW hS => ?_)
    obtain ⟨hzz, hcc⟩ := hq_2
    have hcc := hcc.symm
    subst hcc hzz
    refine rm_callv (va_runV (As := [.ref (ad (5 + 1))]) (rest := []) ⟨hx, hb, hml, hown, hts⟩ (c_X1_take l D ty ad ct H.size (40 + 16 * hy h9) (yn (hy h9)) (yM (hy h9)) (yd (hy h9)) (yu (hy h9)) (200 + 4 * h9) (hg h9) (hf h9) ⟨hHh.1, hHh.2.1, hHh.2.2⟩ (by omega) (5 + 1) (fun _ => (0 : Int)) hKk.2.1 (by omega) ⟨by omega, hyn9.2⟩ hYy) (cwV 1 hts gX5_become_X1_take rfl rfl rfl (by decide +kernel) ⟨Nat.le_of_ble_eq_true rfl, Nat.le_of_ble_eq_true rfl⟩) (rm_preV hK hNw hW hHh.1 rfl) rfl rfl hl.1 rfl (lv_room (Nat.le_of_ble_eq_true rfl)) dX5_become_48 ⟨Nat.le_of_ble_eq_true rfl, Nat.le_of_ble_eq_true rfl⟩) hW hS hA (fun ct_4 H locs hq_4 hW hS hz_4 => ?_)
    have ho_4 : ∀ q, q ≠ ((200 + 4 * h9) + 1) → ct_4 q = ct q := hq_4.2
    have hof_4 : ∀ q, q ≠ ((200 + 4 * h9) + 1) → (q < 5 ∨ 5 + 14 < q) → ct_4 q = ct q := fun q h0_4 h1_4 => (ho_4 q h0_4).trans rfl
    have hm0_4 : ct_4 ((200 + 4 * h9) + 1) = some (rl ty 8 (tkn (yn (hy h9)) (fun _ => (0 : Int)) (hg h9))) := hq_4.1
    have hm1_4 : KindsAt ty ad ct_4 5 fu li so fa T := KindsAt.kept hKk (fun q h1 h2 => ho_4 q (by omega))
    have hk_5 : ct_4 ((200 + 4 * h9) + 1) = some (rl ty 8 (tkn (yn (hy h9)) (fun _ => (0 : Int)) (hg h9))) := hm0_4.trans (congrArg (fun f => some (rl ty 8 f)) (tkn_cong (fun _ _ _ => rfl)))
    have hcl := hC.heapTo hh2 hk_5 ((hof_4 ((200 + 4 * h9) + 2) (by omega) (by omega)).trans hHh.2.2) (fun q h1 h2 h3 => hof_4 q h1 (by omega)) (hC.2.2.1.kindsTo hm1_4 (fun q h8 h => hof_4 q (by omega) (by omega)))
    rw [us_self] at hcl
    refine lv_goto (tgt := 162) hx hb dX5_become_51 (by decide) ?_
    refine vx_ret ?_
    refine W.widen (k := 2) (n := 12) (by omega) (by omega) ?_
    exact W.vret hx hb hr (fun t ht hw => ⟨⟨ct_4, rfl, ⟨h9, rfl, hh2, _, Or.inl ⟨rfl, rfl⟩, hcl⟩, by show rm_W D ad _ _ t.heap; rw [ht]; exact hW, Or.inl rfl⟩, hS.F ht⟩) hS.2.2 dX5_become_162
  · skip
    subst hw
    refine rm_tabI (off := 47) (tgt := 54) hx hb hw9 dX5_become_7 (by omega) (by omega) rfl (by decide) ?_
    refine lv_aload_n hx hb dX5_become_54 rfl (lv_at hl 0 rfl) ?_
    refine lv_aload_n hx hb dX5_become_55 rfl (lv_at hl 1 rfl) ?_
    refine rm_get (ci := 5) (v := .ref (ad 5)) (C := RX5) (T := TX5) (N := 7) hx hb hts (by decide +kernel) hown hK hW hC.2.1.1 rfl 5 (by decide) (hts (.fieldLink RX5 38 "GrainYard" "kinds" "LGrainYard$Kinds;") (by decide +kernel)) (fun _ h9 => h9) rfl dX5_become_56 ?_
    refine lv_aload_n hx hb dX5_become_59 rfl (lv_at hl 0 rfl) ?_
    refine rm_get (ci := 1) (v := .ref (ad (40 + 16 * hy h9))) (C := RX1) (T := TX1) (N := 3) hx hb hts (by decide +kernel) hown hK hW hHh.1 rfl 0 (by decide) (hts (.fieldLink RX5 107 "GrainYard$Heap" "yard" "LGrainYard$Yard;") (by decide +kernel)) (fun _ h9 => h9) rfl dX5_become_60 ?_
    refine rm_callr (va_runV (As := [.ref (ad (40 + 16 * hy h9))]) (rest := [.ref (ad (200 + 4 * h9))]) ⟨hx, hb, hml, hown, hts⟩ (c_X2_fullest l D ty ad ct H.size (40 + 16 * hy h9) (yn (hy h9)) (yM (hy h9)) (yd (hy h9)) (yu (hy h9)) 5 fu li so fa T ⟨by omega, hyn9.2⟩ hYy (hyd _ hyh) hKi (by omega)) (cwV 1 hts gX5_become_X2_fullest rfl rfl rfl (by decide +kernel) ⟨Nat.le_of_ble_eq_true rfl, Nat.le_of_ble_eq_true rfl⟩) (rm_preV hK hNw hW (hKk).1 rfl) rfl rfl hl.1 rfl (lv_room (Nat.le_of_ble_eq_true rfl)) dX5_become_63 ⟨Nat.le_of_ble_eq_true rfl, Nat.le_of_ble_eq_true rfl⟩) hW hS hA (fun z_6 ct_6 H locs hq_6 hW hS => ?_)
    obtain ⟨hzz, ha1, ha2⟩ := hq_6
    subst hzz
    have ho_6 : ∀ q, (q < 5 ∨ 5 + 14 < q) → ct_6 q = ct q := fun q h1 => ha2 q (by omega)
    have hof_6 : ∀ q, q ≠ ((200 + 4 * h9) + 1) → (q < 5 ∨ 5 + 14 < q) → ct_6 q = ct q := fun q h0_6 h1_6 => (ho_6 q h1_6).trans rfl
    have hm0_6 : ct_6 ((200 + 4 * h9) + 1) = some (rl ty 8 (hg h9)) := (ho_6 ((200 + 4 * h9) + 1) (by omega)).trans hHh.2.1
    have hm1_6 : KindsAt ty ad ct_6 5 (fulr (yn (hy h9)) (yd (hy h9)) fu) li so fa T := hKi.rowsTo ha1 ((ha2 _ (by omega)).trans hKi.2.2.2.1) ((ha2 _ (by omega)).trans hKi.2.2.2.2.1) ((ha2 _ (by omega)).trans hKi.2.2.2.2.2.1) (fun q h1 h2 h3 h4 => ha2 q h1)
    refine rm_callv (va_runV (As := [.ref (ad (5 + 2))]) (rest := []) ⟨hx, hb, hml, hown, hts⟩ (c_X1_take l D ty ad ct_6 H.size (40 + 16 * hy h9) (yn (hy h9)) (yM (hy h9)) (yd (hy h9)) (yu (hy h9)) (200 + 4 * h9) (hg h9) (hf h9) ⟨((hof_6 (200 + 4 * h9) (by omega) (by omega)).trans hHh.1), hm0_6, ((hof_6 ((200 + 4 * h9) + 2) (by omega) (by omega)).trans hHh.2.2)⟩ (by omega) (5 + 2) (fulr (yn (hy h9)) (yd (hy h9)) fu) hm1_6.2.2.1 (by omega) ⟨by omega, hyn9.2⟩ (hYy.kept (fun q a b => hof_6 q (by omega) (by omega)))) (cwV 1 hts gX5_become_X1_take rfl rfl rfl (by decide +kernel) ⟨Nat.le_of_ble_eq_true rfl, Nat.le_of_ble_eq_true rfl⟩) (rm_preV hK hNw hW ((hof_6 (200 + 4 * h9) (by omega) (by omega)).trans hHh.1) rfl) rfl rfl hl.1 rfl (lv_room (Nat.le_of_ble_eq_true rfl)) dX5_become_66 ⟨Nat.le_of_ble_eq_true rfl, Nat.le_of_ble_eq_true rfl⟩) hW hS hA (fun ct_7 H locs hq_7 hW hS hz_7 => ?_)
    have ho_7 : ∀ q, q ≠ ((200 + 4 * h9) + 1) → ct_7 q = ct_6 q := hq_7.2
    have hof_7 : ∀ q, q ≠ ((200 + 4 * h9) + 1) → (q < 5 ∨ 5 + 14 < q) → ct_7 q = ct q := fun q h0_7 h1_7 => (ho_7 q h0_7).trans (hof_6 q h0_7 h1_7)
    have hm0_7 : ct_7 ((200 + 4 * h9) + 1) = some (rl ty 8 (tkn (yn (hy h9)) (fulr (yn (hy h9)) (yd (hy h9)) fu) (hg h9))) := hq_7.1
    have hm1_7 : KindsAt ty ad ct_7 5 (fulr (yn (hy h9)) (yd (hy h9)) fu) li so fa T := KindsAt.kept hm1_6 (fun q h1 h2 => ho_7 q (by omega))
    have hk_8 : ct_7 ((200 + 4 * h9) + 1) = some (rl ty 8 (tkn (yn (hy h9)) (fun q => yd (hy h9) q - 1) (hg h9))) := hm0_7.trans (congrArg (fun f => some (rl ty 8 f)) (tkn_cong (fun q a b => if_pos ⟨a, b⟩)))
    have hcl := hC.heapTo hh2 hk_8 ((hof_7 ((200 + 4 * h9) + 2) (by omega) (by omega)).trans hHh.2.2) (fun q h1 h2 h3 => hof_7 q h1 (by omega)) (hC.2.2.1.kindsTo hm1_7 (fun q h8 h => hof_7 q (by omega) (by omega)))
    rw [us_self] at hcl
    refine lv_goto (tgt := 162) hx hb dX5_become_69 (by decide) ?_
    refine vx_ret ?_
    refine W.widen (k := 2) (n := 12) (by omega) (by omega) ?_
    exact W.vret hx hb hr (fun t ht hw => ⟨⟨ct_7, rfl, ⟨h9, rfl, hh2, _, Or.inr (Or.inl ⟨rfl, rfl⟩), hcl⟩, by show rm_W D ad _ _ t.heap; rw [ht]; exact hW, Or.inl rfl⟩, hS.F ht⟩) hS.2.2 dX5_become_162
  · skip
    subst hw
    refine rm_tabI (off := 65) (tgt := 72) hx hb hw9 dX5_become_7 (by omega) (by omega) rfl (by decide) ?_
    refine lv_aload_n hx hb dX5_become_72 rfl (lv_at hl 0 rfl) ?_
    refine lv_aload_n hx hb dX5_become_73 rfl (lv_at hl 1 rfl) ?_
    refine rm_get (ci := 5) (v := .ref (ad 5)) (C := RX5) (T := TX5) (N := 7) hx hb hts (by decide +kernel) hown hK hW hC.2.1.1 rfl 5 (by decide) (hts (.fieldLink RX5 38 "GrainYard" "kinds" "LGrainYard$Kinds;") (by decide +kernel)) (fun _ h9 => h9) rfl dX5_become_74 ?_
    refine lv_aload_n hx hb dX5_become_77 rfl (lv_at hl 0 rfl) ?_
    refine rm_get (ci := 1) (v := .ref (ad (40 + 16 * hy h9))) (C := RX1) (T := TX1) (N := 3) hx hb hts (by decide +kernel) hown hK hW hHh.1 rfl 0 (by decide) (hts (.fieldLink RX5 107 "GrainYard$Heap" "yard" "LGrainYard$Yard;") (by decide +kernel)) (fun _ h9 => h9) rfl dX5_become_78 ?_
    refine lv_aload_n hx hb dX5_become_81 rfl (lv_at hl 1 rfl) ?_
    refine rm_get (ci := 5) (v := .ref (ad 5)) (C := RX5) (T := TX5) (N := 7) hx hb hts (by decide +kernel) hown hK hW hC.2.1.1 rfl 5 (by decide) (hts (.fieldLink RX5 38 "GrainYard" "kinds" "LGrainYard$Kinds;") (by decide +kernel)) (fun _ h9 => h9) rfl dX5_become_82 ?_
    refine rm_callr (va_runV (As := []) (rest := [.ref (ad (40 + 16 * hy h9)), .ref (ad 5), .ref (ad (200 + 4 * h9))]) ⟨hx, hb, hml, hown, hts⟩ (c_X2_noGrains l D ty ad ct H.size 5 fu li so fa T hKk) (cwV 0 hts gX5_become_X2_noGrains rfl rfl rfl (by decide +kernel) ⟨Nat.le_of_ble_eq_true rfl, Nat.le_of_ble_eq_true rfl⟩) (rm_preV hK hNw hW (hKk).1 rfl) rfl rfl hl.1 rfl (lv_room (Nat.le_of_ble_eq_true rfl)) dX5_become_85 ⟨Nat.le_of_ble_eq_true rfl, Nat.le_of_ble_eq_true rfl⟩) hW hS hA (fun z_9 ct_9 H locs hq_9 hW hS => ?_)
    obtain ⟨hzz, hcc⟩ := hq_9
    have hcc := hcc.symm
    subst hcc hzz
    refine rm_callr (va_runV (As := [.ref (ad (40 + 16 * hy h9)), .ref (ad (5 + 1))]) (rest := [.ref (ad (200 + 4 * h9))]) ⟨hx, hb, hml, hown, hts⟩ (c_X2_comingAgain l D ty ad ct H.size (40 + 16 * hy h9) (yn (hy h9)) (yM (hy h9)) (yd (hy h9)) (yu (hy h9)) 5 fu li so fa T (5 + 1) (fun _ => (0 : Int)) hKi.2.1 ⟨by omega, by omega, by omega, by omega, by omega⟩ (fun _ _ _ => by omega) (by rw [show psum (yn (hy h9)) (fun _ => (0 : Int)) = 0 from gs_zero (fun k _ => by split <;> rfl)]; omega) hs9.1 hYy hs9.2.1 (hyd _ hyh) hKk (by omega)) (cwV 2 hts gX5_become_X2_comingAgain rfl rfl rfl (by decide +kernel) ⟨Nat.le_of_ble_eq_true rfl, Nat.le_of_ble_eq_true rfl⟩) (rm_preV hK hNw hW (hKk).1 rfl) rfl rfl hl.1 rfl (lv_room (Nat.le_of_ble_eq_true rfl)) dX5_become_88 ⟨Nat.le_of_ble_eq_true rfl, Nat.le_of_ble_eq_true rfl⟩) hW hS hA (fun z_11 ct_11 H locs hq_11 hW hS => ?_)
    obtain ⟨hzz, fu2, li2, fa2, ha1, ha2, ha3, hli, ha4⟩ := hq_11
    subst hzz
    have ho_11 : ∀ q, (q < 5 ∨ 5 + 14 < q) → ct_11 q = ct q := fun q h1 => ha4 q (by omega) (by omega) (by omega)
    have hof_11 : ∀ q, q ≠ ((200 + 4 * h9) + 1) → (q < 5 ∨ 5 + 14 < q) → ct_11 q = ct q := fun q h0_11 h1_11 => (ho_11 q h1_11).trans rfl
    have hm0_11 : ct_11 ((200 + 4 * h9) + 1) = some (rl ty 8 (hg h9)) := (ho_11 ((200 + 4 * h9) + 1) (by omega)).trans hHh.2.1
    have hm1_11 : KindsAt ty ad ct_11 5 fu2 li2 so fa2 T := hKk.rowsTo ha1 ha2 ((ha4 _ (by omega) (by omega) (by omega)).trans hKk.2.2.2.2.1) ha3 (fun q h1 h2 h3 h4 => ha4 q h1 h2 h4)
    refine rm_callv (va_runV (As := [.ref (ad (5 + 3))]) (rest := []) ⟨hx, hb, hml, hown, hts⟩ (c_X1_take l D ty ad ct_11 H.size (40 + 16 * hy h9) (yn (hy h9)) (yM (hy h9)) (yd (hy h9)) (yu (hy h9)) (200 + 4 * h9) (hg h9) (hf h9) ⟨((hof_11 (200 + 4 * h9) (by omega) (by omega)).trans hHh.1), hm0_11, ((hof_11 ((200 + 4 * h9) + 2) (by omega) (by omega)).trans hHh.2.2)⟩ (by omega) (5 + 3) li2 hm1_11.2.2.2.1 (by omega) ⟨by omega, hyn9.2⟩ (hYy.kept (fun q a b => hof_11 q (by omega) (by omega)))) (cwV 1 hts gX5_become_X1_take rfl rfl rfl (by decide +kernel) ⟨Nat.le_of_ble_eq_true rfl, Nat.le_of_ble_eq_true rfl⟩) (rm_preV hK hNw hW ((hof_11 (200 + 4 * h9) (by omega) (by omega)).trans hHh.1) rfl) rfl rfl hl.1 rfl (lv_room (Nat.le_of_ble_eq_true rfl)) dX5_become_91 ⟨Nat.le_of_ble_eq_true rfl, Nat.le_of_ble_eq_true rfl⟩) hW hS hA (fun ct_12 H locs hq_12 hW hS hz_12 => ?_)
    have ho_12 : ∀ q, q ≠ ((200 + 4 * h9) + 1) → ct_12 q = ct_11 q := hq_12.2
    have hof_12 : ∀ q, q ≠ ((200 + 4 * h9) + 1) → (q < 5 ∨ 5 + 14 < q) → ct_12 q = ct q := fun q h0_12 h1_12 => (ho_12 q h0_12).trans (hof_11 q h0_12 h1_12)
    have hm0_12 : ct_12 ((200 + 4 * h9) + 1) = some (rl ty 8 (tkn (yn (hy h9)) li2 (hg h9))) := hq_12.1
    have hm1_12 : KindsAt ty ad ct_12 5 fu2 li2 so fa2 T := KindsAt.kept hm1_11 (fun q h1 h2 => ho_12 q (by omega))
    have hk_13 : ct_12 ((200 + 4 * h9) + 1) = some (rl ty 8 (tkn (yn (hy h9)) (cag (yn (hy h9)) (yM (hy h9)) (fun _ => (0 : Int))) (hg h9))) := hm0_12.trans (congrArg (fun f => some (rl ty 8 f)) (tkn_cong (hli)))
    have hcl := hC.heapTo hh2 hk_13 ((hof_12 ((200 + 4 * h9) + 2) (by omega) (by omega)).trans hHh.2.2) (fun q h1 h2 h3 => hof_12 q h1 (by omega)) (hC.2.2.1.kindsTo hm1_12 (fun q h8 h => hof_12 q (by omega) (by omega)))
    rw [us_self] at hcl
    refine lv_goto (tgt := 162) hx hb dX5_become_94 (by decide) ?_
    refine vx_ret ?_
    refine W.widen (k := 2) (n := 12) (by omega) (by omega) ?_
    exact W.vret hx hb hr (fun t ht hw => ⟨⟨ct_12, rfl, ⟨h9, rfl, hh2, _, Or.inr (Or.inr (Or.inl ⟨rfl, rfl⟩)), hcl⟩, by show rm_W D ad _ _ t.heap; rw [ht]; exact hW, Or.inl rfl⟩, hS.F ht⟩) hS.2.2 dX5_become_162
  · skip
    subst hw
    refine rm_tabI (off := 90) (tgt := 97) hx hb hw9 dX5_become_7 (by omega) (by omega) rfl (by decide) ?_
    refine lv_aload_n hx hb dX5_become_97 rfl (lv_at hl 0 rfl) ?_
    refine lv_aload_n hx hb dX5_become_98 rfl (lv_at hl 1 rfl) ?_
    refine rm_get (ci := 5) (v := .ref (ad 5)) (C := RX5) (T := TX5) (N := 7) hx hb hts (by decide +kernel) hown hK hW hC.2.1.1 rfl 5 (by decide) (hts (.fieldLink RX5 38 "GrainYard" "kinds" "LGrainYard$Kinds;") (by decide +kernel)) (fun _ h9 => h9) rfl dX5_become_99 ?_
    refine lv_aload_n hx hb dX5_become_102 rfl (lv_at hl 0 rfl) ?_
    refine rm_get (ci := 1) (v := .ref (ad (40 + 16 * hy h9))) (C := RX1) (T := TX1) (N := 3) hx hb hts (by decide +kernel) hown hK hW hHh.1 rfl 0 (by decide) (hts (.fieldLink RX5 107 "GrainYard$Heap" "yard" "LGrainYard$Yard;") (by decide +kernel)) (fun _ h9 => h9) rfl dX5_become_103 ?_
    refine lv_aload_n hx hb dX5_become_106 rfl (lv_at hl 1 rfl) ?_
    refine rm_get (ci := 5) (v := .ref (ad 5)) (C := RX5) (T := TX5) (N := 7) hx hb hts (by decide +kernel) hown hK hW hC.2.1.1 rfl 5 (by decide) (hts (.fieldLink RX5 38 "GrainYard" "kinds" "LGrainYard$Kinds;") (by decide +kernel)) (fun _ h9 => h9) rfl dX5_become_107 ?_
    refine lv_aload_n hx hb dX5_become_110 rfl (lv_at hl 0 rfl) ?_
    refine rm_get (ci := 1) (v := .ref (ad (40 + 16 * hy h9))) (C := RX1) (T := TX1) (N := 3) hx hb hts (by decide +kernel) hown hK hW hHh.1 rfl 0 (by decide) (hts (.fieldLink RX5 107 "GrainYard$Heap" "yard" "LGrainYard$Yard;") (by decide +kernel)) (fun _ h9 => h9) rfl dX5_become_111 ?_
    refine lv_aload_n hx hb dX5_become_114 rfl (lv_at hl 0 rfl) ?_
    refine rm_get (ci := 1) (v := .ref (ad ((200 + 4 * h9) + 1))) (C := RX1) (T := TX1) (N := 3) hx hb hts (by decide +kernel) hown hK hW hHh.1 rfl 1 (by decide) (hts (.fieldLink RX5 117 "GrainYard$Heap" "grains" "[J") (by decide +kernel)) (fun _ h9 => h9) rfl dX5_become_115 ?_
    refine rm_callr (va_runV (As := [.ref (ad (40 + 16 * hy h9)), .ref (ad ((200 + 4 * h9) + 1))]) (rest := [.ref (ad (40 + 16 * hy h9)), .ref (ad 5), .ref (ad (200 + 4 * h9))]) ⟨hx, hb, hml, hown, hts⟩ (c_X2_against l D ty ad ct H.size (40 + 16 * hy h9) (yn (hy h9)) (yM (hy h9)) (yd (hy h9)) (yu (hy h9)) 5 fu li so fa T (200 + 4 * h9 + 1) (hg h9) hHh.2.1 ⟨by omega, by omega⟩ hg9 hs9.2.2 hs9.1 hYy hs9.2.1 (hyd _ hyh) hKi (by omega)) (cwV 2 hts gX5_become_X2_against rfl rfl rfl (by decide +kernel) ⟨Nat.le_of_ble_eq_true rfl, Nat.le_of_ble_eq_true rfl⟩) (rm_preV hK hNw hW (hKk).1 rfl) rfl rfl hl.1 rfl (lv_room (Nat.le_of_ble_eq_true rfl)) dX5_become_118 ⟨Nat.le_of_ble_eq_true rfl, Nat.le_of_ble_eq_true rfl⟩) hW hS hA (fun z_14 ct_14 H locs hq_14 hW hS => ?_)
    obtain ⟨hzz, fu1, li1, so1, fa1, hb1, hb2, hb3, hb4, hso, hb5⟩ := hq_14
    subst hzz
    have ho_14 : ∀ q, (q < 5 ∨ 5 + 14 < q) → ct_14 q = ct q := fun q h1 => hb5 q (by omega) (by omega) (by omega) (by omega)
    have hof_14 : ∀ q, q ≠ ((200 + 4 * h9) + 1) → (q < 5 ∨ 5 + 14 < q) → ct_14 q = ct q := fun q h0_14 h1_14 => (ho_14 q h1_14).trans rfl
    have hm0_14 : ct_14 ((200 + 4 * h9) + 1) = some (rl ty 8 (hg h9)) := (ho_14 ((200 + 4 * h9) + 1) (by omega)).trans hHh.2.1
    have hm1_14 : KindsAt ty ad ct_14 5 fu1 li1 so1 fa1 T := hKi.rowsTo hb1 hb2 hb3 hb4 hb5
    have hop := fun q a b => opp_rng hs9.1 hg9 hs9.2.2 (q := q) a b
    have hsp : psum (yn (hy h9)) so1 ≤ 900000000 := by
      have h5 := psum_le (n := yn (hy h9)) (f := so1) (c := 40) (by omega) (fun q a b => by rw [hso q a b]; exact (hop q a b).2)
      have h6 := hyn9.2
      omega
    have hsn : ∀ q, 1 ≤ q → q < yn (hy h9) → 0 ≤ so1 q := fun q a b => by rw [hso q a b]; exact (hop q a b).1
    refine rm_callr (va_runV (As := [.ref (ad (40 + 16 * hy h9)), .ref (ad (5 + 4))]) (rest := [.ref (ad (200 + 4 * h9))]) ⟨hx, hb, hml, hown, hts⟩ (c_X2_comingAgain l D ty ad ct_14 H.size (40 + 16 * hy h9) (yn (hy h9)) (yM (hy h9)) (yd (hy h9)) (yu (hy h9)) 5 fu1 li1 so1 fa1 T (5 + 4) so1 hm1_14.2.2.2.2.1 ⟨by omega, by omega, by omega, by omega, by omega⟩ hsn hsp hs9.1 (hYy.kept (fun q a b => hof_14 q (by omega) (by omega))) hs9.2.1 (hyd _ hyh) hm1_14 (by omega)) (cwV 2 hts gX5_become_X2_comingAgain rfl rfl rfl (by decide +kernel) ⟨Nat.le_of_ble_eq_true rfl, Nat.le_of_ble_eq_true rfl⟩) (rm_preV hK hNw hW (hm1_14).1 rfl) rfl rfl hl.1 rfl (lv_room (Nat.le_of_ble_eq_true rfl)) dX5_become_121 ⟨Nat.le_of_ble_eq_true rfl, Nat.le_of_ble_eq_true rfl⟩) hW hS hA (fun z_15 ct_15 H locs hq_15 hW hS => ?_)
    obtain ⟨hzz, fu2, li2, fa2, ha1, ha2, ha3, hli, ha4⟩ := hq_15
    subst hzz
    have ho_15 : ∀ q, (q < 5 ∨ 5 + 14 < q) → ct_15 q = ct_14 q := fun q h1 => ha4 q (by omega) (by omega) (by omega)
    have hof_15 : ∀ q, q ≠ ((200 + 4 * h9) + 1) → (q < 5 ∨ 5 + 14 < q) → ct_15 q = ct q := fun q h0_15 h1_15 => (ho_15 q h1_15).trans (hof_14 q h0_15 h1_15)
    have hm0_15 : ct_15 ((200 + 4 * h9) + 1) = some (rl ty 8 (hg h9)) := (ho_15 ((200 + 4 * h9) + 1) (by omega)).trans hm0_14
    have hm1_15 : KindsAt ty ad ct_15 5 fu2 li2 so1 fa2 T := hm1_14.rowsTo ha1 ha2 ((ha4 _ (by omega) (by omega) (by omega)).trans hm1_14.2.2.2.2.1) ha3 (fun q h1 h2 h3 h4 => ha4 q h1 h2 h4)
    refine rm_callv (va_runV (As := [.ref (ad (5 + 3))]) (rest := []) ⟨hx, hb, hml, hown, hts⟩ (c_X1_take l D ty ad ct_15 H.size (40 + 16 * hy h9) (yn (hy h9)) (yM (hy h9)) (yd (hy h9)) (yu (hy h9)) (200 + 4 * h9) (hg h9) (hf h9) ⟨((hof_15 (200 + 4 * h9) (by omega) (by omega)).trans hHh.1), hm0_15, ((hof_15 ((200 + 4 * h9) + 2) (by omega) (by omega)).trans hHh.2.2)⟩ (by omega) (5 + 3) li2 hm1_15.2.2.2.1 (by omega) ⟨by omega, hyn9.2⟩ (hYy.kept (fun q a b => hof_15 q (by omega) (by omega)))) (cwV 1 hts gX5_become_X1_take rfl rfl rfl (by decide +kernel) ⟨Nat.le_of_ble_eq_true rfl, Nat.le_of_ble_eq_true rfl⟩) (rm_preV hK hNw hW ((hof_15 (200 + 4 * h9) (by omega) (by omega)).trans hHh.1) rfl) rfl rfl hl.1 rfl (lv_room (Nat.le_of_ble_eq_true rfl)) dX5_become_124 ⟨Nat.le_of_ble_eq_true rfl, Nat.le_of_ble_eq_true rfl⟩) hW hS hA (fun ct_16 H locs hq_16 hW hS hz_16 => ?_)
    have ho_16 : ∀ q, q ≠ ((200 + 4 * h9) + 1) → ct_16 q = ct_15 q := hq_16.2
    have hof_16 : ∀ q, q ≠ ((200 + 4 * h9) + 1) → (q < 5 ∨ 5 + 14 < q) → ct_16 q = ct q := fun q h0_16 h1_16 => (ho_16 q h0_16).trans (hof_15 q h0_16 h1_16)
    have hm0_16 : ct_16 ((200 + 4 * h9) + 1) = some (rl ty 8 (tkn (yn (hy h9)) li2 (hg h9))) := hq_16.1
    have hm1_16 : KindsAt ty ad ct_16 5 fu2 li2 so1 fa2 T := KindsAt.kept hm1_15 (fun q h1 h2 => ho_16 q (by omega))
    have hk_17 : ct_16 ((200 + 4 * h9) + 1) = some (rl ty 8 (tkn (yn (hy h9)) (cag (yn (hy h9)) (yM (hy h9)) (opp (yn (hy h9)) (yM (hy h9)) (hg h9))) (hg h9))) := hm0_16.trans (congrArg (fun f => some (rl ty 8 f)) (tkn_cong (fun q a b => (hli q a b).trans (cag_cong hs9.1 hsn hsp hso a b))))
    have hcl := hC.heapTo hh2 hk_17 ((hof_16 ((200 + 4 * h9) + 2) (by omega) (by omega)).trans hHh.2.2) (fun q h1 h2 h3 => hof_16 q h1 (by omega)) (hC.2.2.1.kindsTo hm1_16 (fun q h8 h => hof_16 q (by omega) (by omega)))
    rw [us_self] at hcl
    refine lv_goto (tgt := 162) hx hb dX5_become_127 (by decide) ?_
    refine vx_ret ?_
    refine W.widen (k := 2) (n := 12) (by omega) (by omega) ?_
    exact W.vret hx hb hr (fun t ht hw => ⟨⟨ct_16, rfl, ⟨h9, rfl, hh2, _, Or.inr (Or.inr (Or.inr (Or.inl ⟨rfl, rfl⟩))), hcl⟩, by show rm_W D ad _ _ t.heap; rw [ht]; exact hW, Or.inl rfl⟩, hS.F ht⟩) hS.2.2 dX5_become_162
  · skip
    subst hw
    refine rm_tabI (off := 123) (tgt := 130) hx hb hw9 dX5_become_7 (by omega) (by omega) rfl (by decide) ?_
    refine lv_aload_n hx hb dX5_become_130 rfl (lv_at hl 0 rfl) ?_
    refine lv_aload_n hx hb dX5_become_131 rfl (lv_at hl 1 rfl) ?_
    refine rm_get (ci := 5) (v := .ref (ad 5)) (C := RX5) (T := TX5) (N := 7) hx hb hts (by decide +kernel) hown hK hW hC.2.1.1 rfl 5 (by decide) (hts (.fieldLink RX5 38 "GrainYard" "kinds" "LGrainYard$Kinds;") (by decide +kernel)) (fun _ h9 => h9) rfl dX5_become_132 ?_
    refine lv_aload_n hx hb dX5_become_135 rfl (lv_at hl 0 rfl) ?_
    refine rm_get (ci := 1) (v := .ref (ad (40 + 16 * hy h9))) (C := RX1) (T := TX1) (N := 3) hx hb hts (by decide +kernel) hown hK hW hHh.1 rfl 0 (by decide) (hts (.fieldLink RX5 107 "GrainYard$Heap" "yard" "LGrainYard$Yard;") (by decide +kernel)) (fun _ h9 => h9) rfl dX5_become_136 ?_
    refine lv_aload_n hx hb dX5_become_139 rfl (lv_at hl 0 rfl) ?_
    refine rm_get (ci := 1) (v := .ref (ad ((200 + 4 * h9) + 1))) (C := RX1) (T := TX1) (N := 3) hx hb hts (by decide +kernel) hown hK hW hHh.1 rfl 1 (by decide) (hts (.fieldLink RX5 117 "GrainYard$Heap" "grains" "[J") (by decide +kernel)) (fun _ h9 => h9) rfl dX5_become_140 ?_
    refine rm_callr (va_runV (As := [.ref (ad (40 + 16 * hy h9)), .ref (ad ((200 + 4 * h9) + 1))]) (rest := [.ref (ad (200 + 4 * h9))]) ⟨hx, hb, hml, hown, hts⟩ (c_X2_comingAgain l D ty ad ct H.size (40 + 16 * hy h9) (yn (hy h9)) (yM (hy h9)) (yd (hy h9)) (yu (hy h9)) 5 fu li so fa T (200 + 4 * h9 + 1) (hg h9) hHh.2.1 ⟨by omega, by omega, by omega, by omega, by omega⟩ hg9 hs9.2.2 hs9.1 hYy hs9.2.1 (hyd _ hyh) hKk (by omega)) (cwV 2 hts gX5_become_X2_comingAgain rfl rfl rfl (by decide +kernel) ⟨Nat.le_of_ble_eq_true rfl, Nat.le_of_ble_eq_true rfl⟩) (rm_preV hK hNw hW (hKk).1 rfl) rfl rfl hl.1 rfl (lv_room (Nat.le_of_ble_eq_true rfl)) dX5_become_143 ⟨Nat.le_of_ble_eq_true rfl, Nat.le_of_ble_eq_true rfl⟩) hW hS hA (fun z_18 ct_18 H locs hq_18 hW hS => ?_)
    obtain ⟨hzz, fu2, li2, fa2, ha1, ha2, ha3, hli, ha4⟩ := hq_18
    subst hzz
    have ho_18 : ∀ q, (q < 5 ∨ 5 + 14 < q) → ct_18 q = ct q := fun q h1 => ha4 q (by omega) (by omega) (by omega)
    have hof_18 : ∀ q, q ≠ ((200 + 4 * h9) + 1) → (q < 5 ∨ 5 + 14 < q) → ct_18 q = ct q := fun q h0_18 h1_18 => (ho_18 q h1_18).trans rfl
    have hm0_18 : ct_18 ((200 + 4 * h9) + 1) = some (rl ty 8 (hg h9)) := (ho_18 ((200 + 4 * h9) + 1) (by omega)).trans hHh.2.1
    have hm1_18 : KindsAt ty ad ct_18 5 fu2 li2 so fa2 T := hKk.rowsTo ha1 ha2 ((ha4 _ (by omega) (by omega) (by omega)).trans hKk.2.2.2.2.1) ha3 (fun q h1 h2 h3 h4 => ha4 q h1 h2 h4)
    refine rm_callv (va_runV (As := [.ref (ad (5 + 3))]) (rest := []) ⟨hx, hb, hml, hown, hts⟩ (c_X1_take l D ty ad ct_18 H.size (40 + 16 * hy h9) (yn (hy h9)) (yM (hy h9)) (yd (hy h9)) (yu (hy h9)) (200 + 4 * h9) (hg h9) (hf h9) ⟨((hof_18 (200 + 4 * h9) (by omega) (by omega)).trans hHh.1), hm0_18, ((hof_18 ((200 + 4 * h9) + 2) (by omega) (by omega)).trans hHh.2.2)⟩ (by omega) (5 + 3) li2 hm1_18.2.2.2.1 (by omega) ⟨by omega, hyn9.2⟩ (hYy.kept (fun q a b => hof_18 q (by omega) (by omega)))) (cwV 1 hts gX5_become_X1_take rfl rfl rfl (by decide +kernel) ⟨Nat.le_of_ble_eq_true rfl, Nat.le_of_ble_eq_true rfl⟩) (rm_preV hK hNw hW ((hof_18 (200 + 4 * h9) (by omega) (by omega)).trans hHh.1) rfl) rfl rfl hl.1 rfl (lv_room (Nat.le_of_ble_eq_true rfl)) dX5_become_146 ⟨Nat.le_of_ble_eq_true rfl, Nat.le_of_ble_eq_true rfl⟩) hW hS hA (fun ct_19 H locs hq_19 hW hS hz_19 => ?_)
    have ho_19 : ∀ q, q ≠ ((200 + 4 * h9) + 1) → ct_19 q = ct_18 q := hq_19.2
    have hof_19 : ∀ q, q ≠ ((200 + 4 * h9) + 1) → (q < 5 ∨ 5 + 14 < q) → ct_19 q = ct q := fun q h0_19 h1_19 => (ho_19 q h0_19).trans (hof_18 q h0_19 h1_19)
    have hm0_19 : ct_19 ((200 + 4 * h9) + 1) = some (rl ty 8 (tkn (yn (hy h9)) li2 (hg h9))) := hq_19.1
    have hm1_19 : KindsAt ty ad ct_19 5 fu2 li2 so fa2 T := KindsAt.kept hm1_18 (fun q h1 h2 => ho_19 q (by omega))
    have hk_20 : ct_19 ((200 + 4 * h9) + 1) = some (rl ty 8 (tkn (yn (hy h9)) (cag (yn (hy h9)) (yM (hy h9)) (hg h9)) (hg h9))) := hm0_19.trans (congrArg (fun f => some (rl ty 8 f)) (tkn_cong (hli)))
    have hcl := hC.heapTo hh2 hk_20 ((hof_19 ((200 + 4 * h9) + 2) (by omega) (by omega)).trans hHh.2.2) (fun q h1 h2 h3 => hof_19 q h1 (by omega)) (hC.2.2.1.kindsTo hm1_19 (fun q h8 h => hof_19 q (by omega) (by omega)))
    rw [us_self] at hcl
    refine lv_goto (tgt := 162) hx hb dX5_become_149 (by decide) ?_
    refine vx_ret ?_
    refine W.widen (k := 2) (n := 12) (by omega) (by omega) ?_
    exact W.vret hx hb hr (fun t ht hw => ⟨⟨ct_19, rfl, ⟨h9, rfl, hh2, _, Or.inr (Or.inr (Or.inr (Or.inr ⟨rfl, rfl⟩))), hcl⟩, by show rm_W D ad _ _ t.heap; rw [ht]; exact hW, Or.inl rfl⟩, hS.F ht⟩) hS.2.2 dX5_become_162
  · skip
    refine rm_tabO (tgt := 152) hx hb hw9 dX5_become_7 hw (by decide) ?_
    exact rm_throwN (cls := "java/util/NoSuchElementException") (text := "no such heap to become") (ct := ct) hx hb hlf hown (by decide +kernel) (hts (.classLink RX5 91 "java/util/NoSuchElementException") (by decide +kernel)) (hts (.initialized "java/util/NoSuchElementException") (by decide +kernel)) (fun w hw => hts w (by first | exact List.mem_cons_of_mem _ (List.mem_append_right _ hw) | exact List.mem_cons_of_mem _ (List.mem_append_left _ (List.mem_append_right _ hw)))) (by decide +kernel) (by decide +kernel) (by decide +kernel) hE hU hW hS (hl.1.trans hml.symm) dX5_become_152 dX5_become_155 dX5_become_156 dX5_become_158 dX5_become_161 hout (Nat.le_of_ble_eq_true rfl) (Nat.le_of_ble_eq_true rfl) (Nat.le_of_ble_eq_true rfl) (Nat.le_of_ble_eq_true rfl) hlocks (⟨rfl, Or.inr ⟨⟨h9, rfl, hh2⟩, hw⟩, rfl⟩) (Nat.le_of_ble_eq_true rfl) (Nat.le_of_ble_eq_true rfl)
