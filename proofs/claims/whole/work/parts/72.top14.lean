def tms (n : Nat) (M : Nat → Nat → Int) (d so : Nat → Int) (T : Nat → Nat → Int) : Int := (((slv n (tfp n M d so T n 0) (n - 1)).2.natAbs / cmg (slv n (tfp n M d so T n 0) (n - 1)).1 (slv n (tfp n M d so T n 0) (n - 1)).2.natAbs (n - 1) : Nat) : Int)
theorem tms_rng {n : Nat} {M : Nat → Nat → Int} {d so : Nat → Int} {T : Nat → Nat → Int} (h : ysv n M d) (hs : ∀ q, 1 ≤ q → q < n → -20 ≤ so q ∧ so q ≤ 20) : 0 ≤ tms n M d so T ∧ tms n M d so T < 281474976710656 := by
  obtain ⟨-, h1, h2, -⟩ := h so T hs
  unfold tms
  obtain ⟨a9, ha9⟩ : ∃ a9, a9 = (slv n (tfp n M d so T n 0) (n - 1)).2.natAbs / cmg (slv n (tfp n M d so T n 0) (n - 1)).1 (slv n (tfp n M d so T n 0) (n - 1)).2.natAbs (n - 1) := ⟨_, rfl⟩
  rw [← ha9]
  have h3 := Nat.div_le_self (slv n (tfp n M d so T n 0) (n - 1)).2.natAbs (cmg (slv n (tfp n M d so T n 0) (n - 1)).1 (slv n (tfp n M d so T n 0) (n - 1)).2.natAbs (n - 1))
  rw [← ha9] at h3
  exact ⟨by omega, by omega⟩
theorem KindsAt.tabTo {ty : Nat → ClassId} {ad : Nat → Nat} {ct ct1 : rm_C} {ko : Nat} {fu li so fa li1 so1 fa1 : Nat → Int} {T T1 : Nat → Nat → Int} (h : KindsAt ty ad ct ko fu li so fa T) (hT : ∀ i9, i9 < 8 → ct1 (ko + 6 + 1 + i9) = some (rl ty 8 (T1 i9))) (h3 : ct1 (ko + 3) = some (rl ty 8 li1)) (h4 : ct1 (ko + 4) = some (rl ty 8 so1)) (h5 : ct1 (ko + 5) = some (rl ty 8 fa1)) (ho : ∀ q, q ≠ ko + 3 → q ≠ ko + 4 → q ≠ ko + 5 → (q < ko + 6 + 1 ∨ ko + 6 + 1 + 7 < q) → ct1 q = ct q) : KindsAt ty ad ct1 ko fu li1 so1 fa1 T1 :=
  ⟨(ho _ (by omega) (by omega) (by omega) (by omega)).trans h.1, (ho _ (by omega) (by omega) (by omega) (by omega)).trans h.2.1, (ho _ (by omega) (by omega) (by omega) (by omega)).trans h.2.2.1, h3, h4, h5, (ho _ (by omega) (by omega) (by omega) (by omega)).trans h.2.2.2.2.2.2.1, hT⟩
theorem HelpAt.kindsTo {ty : Nat → ClassId} {ad : Nat → Nat} {ct ct1 : rm_C} {fu li so fa : Nat → Int} {T : Nat → Nat → Int} (h : HelpAt ty ad ct) (hK : KindsAt ty ad ct1 5 fu li so fa T) (ho : ∀ q, q ≤ 30 → (q < 5 ∨ 19 < q) → ct1 q = ct q) : HelpAt ty ad ct1 := by
  obtain ⟨⟨rd, h1⟩, -, ⟨k, on, tr, r, T2, h3⟩⟩ := h
  exact ⟨⟨rd, h1.kept (fun q a b => ho q (by omega) (by omega))⟩, ⟨fu, li, so, fa, T, hK⟩, ⟨k, on, tr, r, T2, h3.kept (fun q a b => ho q (by omega) (by omega))⟩⟩
theorem tkn_at {i : Nat} {w g : Nat → Int} : tkn i w g i = g i := by unfold tkn; rw [if_neg (by omega)]
theorem tkn_cong {n : Nat} {w w' g : Nat → Int} (h : ∀ q, 1 ≤ q → q < n → w q = w' q) : tkn n w g = tkn n w' g := by
  funext q; unfold tkn
  by_cases e : 1 ≤ q ∧ q < n
  · rw [if_pos e, if_pos e, h q e.1 e.2]
  · rw [if_neg e, if_neg e]
theorem tkn_in {n q : Nat} {w g : Nat → Int} (h1 : 1 ≤ q) (h2 : q < n) : tkn n w g q = w q := if_pos ⟨h1, h2⟩
set_option maxHeartbeats 4000000 in
set_option maxRecDepth 100000 in
theorem c_X5_order (l : Launch) (hlf : l.stackTraces = false) (D : va_G) (ty : Nat → ClassId) (ad : Nat → Nat) (ct : rm_C) (sz : Nat) (yc hc : Nat) (yn : Nat → Nat) (yM : Nat → Nat → Nat → Int) (yd : Nat → Nat → Int) (yu : Nat → Int) (hy : Nat → Nat) (hg hf : Nat → Nat → Int) (hC : ClsAt ty ad ct yc hc yn yM yd yu hy hg hf) (hyn : ∀ y, y < yc → 2 ≤ yn y ∧ yn y ≤ 8) (hyM : ∀ y, y < yc → ∀ i j, 0 ≤ yM y i j ∧ yM y i j ≤ 3) (hyd : ∀ y, y < yc → ∀ i, i < 8 → 0 ≤ yd y i ∧ yd y i ≤ 21) (hgr : ∀ h, h < hc → ∀ q, 1 ≤ q → q < yn (hy h) → 0 ≤ hg h q ∧ hg h q ≤ 1000000000) (hst : ∀ h, h < hc → yst (yn (hy h)) (yM (hy h)) ∧ (∀ i, i < 8 → yd (hy h) i = dg (yn (hy h)) (yM (hy h)) i) ∧ psum (yn (hy h)) (hg h) ≤ 900000000) (hsv : ∀ h, h < hc → ysv (yn (hy h)) (yM (hy h)) (yd (hy h))) (z9 : Int) (hz9 : r32 z9) : vx_Met l yX5_order wsX5_order ({ frames := 7, cells := 1, slots := 6, locals := 104 }) (rm_PX D ty ad ct sz [.ref (ad 0), .int (jI z9)]) (rm_Ql D ad ct sz (fun z ct1 => ∃ h9 : Nat, z9 = (h9 : Int) ∧ h9 < hc ∧ ClsAt ty ad ct1 yc hc yn yM yd yu hy hg hf ∧ ∃ so1 T, (∀ q, 1 ≤ q → q < yn (hy h9) → so1 q = sti (yn (hy h9)) (yM (hy h9)) (hg h9) q - sti (yn (hy h9)) (yM (hy h9)) (fun _ => 0) q) ∧ z = tms (yn (hy h9)) (yM (hy h9)) (yd (hy h9)) so1 T)) (rm_XC D ad ct sz (fun E ct1 => E = xNSE ∧ (z9 < 0 ∨ (hc : Int) ≤ z9) ∧ ct1 = ct)) 1 6 (rm_A ad ct sz) := by
  refine vx_ofW (cc := cX5_order) (maxL := 3) (ret := (some .long)) (by decide) rfl ?_
  intro p e s m args below meth c s₁ B hml hout hv
  obtain ⟨hargs, ⟨hsz, hW, hK, hNw⟩, hE, hU⟩ := hv
  have hx := B.exec
  have hb := B.bytes
  have hr := B.returns
  have hts := atoms_spec (ws := wsX5_order) B.pre
  have hown : s.vm.findClass RX5 = some m.cls := findClass_of_methodNamed B.named
  have hlocks := B.notSynchronized
  subst hsz
  have hW := hW.own (sz := s.heap.size)
  have hA : ∀ q : Nat, s.heap.size ≤ q → rm_A ad ct s.heap.size q := fun q h => Or.inr h
  have hS : va_S (rm_A ad ct s.heap.size) s.heap s.heap [] := va_S.rf
  have hent : entryFrame m args 3 = entryFrame m ([.ref (ad 0), .int (jI z9)] : List Value).toArray 3 := by rw [hargs]
  have hl := lv_entry ([.ref (ad 0), .int (jI z9)]) (n := 3) (Nat.le_of_ble_eq_true rfl)
  rw [hent, lg_entry_eq]
  generalize (lg_sl ([.ref (ad 0), .int (jI z9)]) ++ List.replicate (3 - (lg_sl ([.ref (ad 0), .int (jI z9)])).length) Slot.unset).toArray = ls at hl ⊢
  have hl : lv_has ls 3 [(0, .ref (ad 0)), (1, .int (jI z9))] := hl
  refine lv_aload_n hx hb dX5_order_0 rfl (lv_at hl 0 rfl) ?_
  refine lv_iload_n hx hb dX5_order_1 rfl (lv_at hl 1 rfl) ?_
  refine rm_xcallr (vx_runV (As := [.int (jI z9)]) (rest := []) ⟨hx, hb, hml, hown, hts⟩ (c_X5_heapNumbered l hlf D ty ad ct s.heap.size yc hc yn yM yd yu hy hg hf hC z9 hz9) (cwV 1 hts gX5_order_X5_heapNumbered rfl rfl rfl (by decide +kernel) ⟨Nat.le_of_ble_eq_true rfl, Nat.le_of_ble_eq_true rfl⟩) (rm_preVX hK hNw hE hU hW hS hA hC.2.1.1 rfl) rfl rfl hl.1 rfl (lv_room (Nat.le_of_ble_eq_true rfl)) dX5_order_2 ⟨Nat.le_of_ble_eq_true rfl, Nat.le_of_ble_eq_true rfl⟩) hW hS hA hout hlocks (fun E ct1 h => h) (Nat.le_of_ble_eq_true rfl) (Nat.le_of_ble_eq_true rfl) (fun z_1 ct_1 H locs hq_1 hW hS => ?_)
  obtain ⟨h9, hh1, hh2, hh3, hcc⟩ := hq_1
  have hcc := hcc.symm
  subst hcc hh3 hh1
  have hHh := (hC.2.2.2.2.1 h9 hh2).2
  have hyh := (hC.2.2.2.2.1 h9 hh2).1
  have hYy := hC.2.2.2.1 (hy h9) hyh
  have hyn9 := hyn (hy h9) hyh
  have hb6 := hC.1.1
  have hb20 := hC.1.2
  obtain ⟨fu, li, so, fa, T, hKi⟩ := hC.2.2.1.2.1
  refine lv_astore_n (lv' := [(2, .ref (ad (200 + 4 * h9))), (0, .ref (ad 0)), (1, .int (jI ((h9 : Nat) : Int)))]) hx hb dX5_order_5 rfl hl (by decide) rfl (fun ls hl => ?_)
  refine lv_aload_n hx hb dX5_order_6 rfl (lv_at hl 1 rfl) ?_
  refine rm_get (ci := 5) (v := .ref (ad 5)) (C := RX5) (T := TX5) (N := 7) hx hb hts (by decide +kernel) hown hK hW hC.2.1.1 rfl 5 (by decide) (hts (.fieldLink RX5 38 "GrainYard" "kinds" "LGrainYard$Kinds;") (by decide +kernel)) (fun _ h9 => h9) rfl dX5_order_7 ?_
  refine lv_aload_n hx hb dX5_order_10 rfl (lv_at hl 0 rfl) ?_
  refine rm_get (ci := 1) (v := .ref (ad (40 + 16 * hy h9))) (C := RX1) (T := TX1) (N := 3) hx hb hts (by decide +kernel) hown hK hW hHh.1 rfl 0 (by decide) (hts (.fieldLink RX5 107 "GrainYard$Heap" "yard" "LGrainYard$Yard;") (by decide +kernel)) (fun _ h9 => h9) rfl dX5_order_11 ?_
  refine lv_aload_n hx hb dX5_order_14 rfl (lv_at hl 0 rfl) ?_
  refine rm_get (ci := 1) (v := .ref (ad ((200 + 4 * h9) + 1))) (C := RX1) (T := TX1) (N := 3) hx hb hts (by decide +kernel) hown hK hW hHh.1 rfl 1 (by decide) (hts (.fieldLink RX5 117 "GrainYard$Heap" "grains" "[J") (by decide +kernel)) (fun _ h9 => h9) rfl dX5_order_15 ?_
  refine lv_aload_n hx hb dX5_order_18 rfl (lv_at hl 1 rfl) ?_
  refine rm_get (ci := 5) (v := .ref (ad 5)) (C := RX5) (T := TX5) (N := 7) hx hb hts (by decide +kernel) hown hK hW hC.2.1.1 rfl 5 (by decide) (hts (.fieldLink RX5 38 "GrainYard" "kinds" "LGrainYard$Kinds;") (by decide +kernel)) (fun _ h9 => h9) rfl dX5_order_19 ?_
  refine rm_callr (va_runV (As := []) (rest := [.ref (ad ((200 + 4 * h9) + 1)), .ref (ad (40 + 16 * hy h9)), .ref (ad 5)]) ⟨hx, hb, hml, hown, hts⟩ (c_X2_noGrains l D ty ad ct H.size 5 fu li so fa T hKi) (cwV 0 hts gX5_order_X2_noGrains rfl rfl rfl (by decide +kernel) ⟨Nat.le_of_ble_eq_true rfl, Nat.le_of_ble_eq_true rfl⟩) (rm_preV hK hNw hW hKi.1 rfl) rfl rfl hl.1 rfl (lv_room (Nat.le_of_ble_eq_true rfl)) dX5_order_22 ⟨Nat.le_of_ble_eq_true rfl, Nat.le_of_ble_eq_true rfl⟩) hW hS hA (fun z_2 ct_2 H locs hq_2 hW hS => ?_)
  obtain ⟨hzz, hcc⟩ := hq_2
  have hcc := hcc.symm
  subst hcc hzz
  have hs9 := hst h9 hh2
  have hsv9 := hsv h9 hh2
  have hg9 : ∀ q, 1 ≤ q → q < yn (hy h9) → 0 ≤ hg h9 q := fun q a b => (hgr h9 hh2 q a b).1
  refine rm_calll (va_runV (As := [.ref (ad (40 + 16 * hy h9)), .ref (ad ((200 + 4 * h9) + 1)), .ref (ad (5 + 1))]) (rest := []) ⟨hx, hb, hml, hown, hts⟩ (c_X2_timesToNothing l D ty ad ct H.size (40 + 16 * hy h9) (yn (hy h9)) (yM (hy h9)) (yd (hy h9)) (yu (hy h9)) 5 fu li so fa T (200 + 4 * h9 + 1) (5 + 1) (hg h9) (fun _ => (0 : Int)) hHh.2.1 hKi.2.1 ⟨by omega, by omega⟩ hg9 hs9.2.2 (fun _ _ _ => by omega) (by rw [show psum (yn (hy h9)) (fun _ => (0 : Int)) = 0 from gs_zero (fun k _ => by split <;> rfl)]; omega) hs9.1 hsv9 hs9.2.1 (hyd _ hyh) hYy hKi (by omega)) (cwV 3 hts gX5_order_X2_timesToNothing rfl rfl rfl (by decide +kernel) ⟨Nat.le_of_ble_eq_true rfl, Nat.le_of_ble_eq_true rfl⟩) (rm_preV hK hNw hW hKi.1 rfl) rfl rfl hl.1 rfl (lv_room (Nat.le_of_ble_eq_true rfl)) dX5_order_25 ⟨Nat.le_of_ble_eq_true rfl, Nat.le_of_ble_eq_true rfl⟩) hW hS hA (fun z_3 ct_3 H locs hq_3 hW hS => ?_)
  obtain ⟨li1, so1, fa1, T1, hso, hz, hq1, hq2, hq3, hq4, hq5⟩ := hq_3
  have hz : z_3 = tms (yn (hy h9)) (yM (hy h9)) (yd (hy h9)) so1 T := hz
  have ho_3 : ∀ q, (q < 5 ∨ 5 + 14 < q) → ct_3 q = ct q := fun q h1 => hq5 q (by omega) (by omega) (by omega) (by omega)
  have hof_3 : ∀ q, (q < 5 ∨ 5 + 14 < q) → ct_3 q = ct q := fun q h0_3 => (ho_3 q h0_3).trans rfl
  have hm0_3 : KindsAt ty ad ct_3 5 fu li1 so1 fa1 T1 := hKi.tabTo hq1 hq2 hq3 hq4 hq5
  have hcl := hC.helpTo (fun q h => hof_3 q (by omega)) (hC.2.2.1.kindsTo hm0_3 (fun q _ h => hof_3 q (by omega)))
  refine vx_ret ?_
  refine W.widen (k := 1) (n := 6) (by omega) (by omega) ?_
  exact W.lret hx hb hr (fun t ht hw => ⟨⟨_, (z_3, ct_3), rfl, ⟨rfl, ⟨h9, rfl, hh2, hcl, so1, T, hso, hz⟩⟩, by show rm_W D ad _ _ t.heap; rw [ht]; exact hW⟩, hS.F ht⟩) hS.2.2 dX5_order_28
set_option maxHeartbeats 4000000 in
set_option maxRecDepth 100000 in
theorem c_X5_alike (l : Launch) (hlf : l.stackTraces = false) (D : va_G) (ty : Nat → ClassId) (ad : Nat → Nat) (ct : rm_C) (sz : Nat) (yc hc : Nat) (yn : Nat → Nat) (yM : Nat → Nat → Nat → Int) (yd : Nat → Nat → Int) (yu : Nat → Int) (hy : Nat → Nat) (hg hf : Nat → Nat → Int) (hC : ClsAt ty ad ct yc hc yn yM yd yu hy hg hf) (hyn : ∀ y, y < yc → 2 ≤ yn y ∧ yn y ≤ 8) (hyM : ∀ y, y < yc → ∀ i j, 0 ≤ yM y i j ∧ yM y i j ≤ 3) (hyd : ∀ y, y < yc → ∀ i, i < 8 → 0 ≤ yd y i ∧ yd y i ≤ 21) (hgr : ∀ h, h < hc → ∀ q, 1 ≤ q → q < yn (hy h) → 0 ≤ hg h q ∧ hg h q ≤ 1000000000) (hst : ∀ h, h < hc → yst (yn (hy h)) (yM (hy h)) ∧ (∀ i, i < 8 → yd (hy h) i = dg (yn (hy h)) (yM (hy h)) i) ∧ psum (yn (hy h)) (hg h) ≤ 900000000) (hsv : ∀ h, h < hc → ysv (yn (hy h)) (yM (hy h)) (yd (hy h))) (z9 w9 : Int) (hz9 : r32 z9) (hw9 : r32 w9) : vx_Met l yX5_alike wsX5_alike ({ frames := 7, cells := 3, slots := 18, locals := 104 }) (rm_PX D ty ad ct sz [.ref (ad 0), .int (jI z9), .int (jI w9)]) (rm_Qi D ad ct sz (fun z ct1 => ∃ h9 o9 : Nat, z9 = (h9 : Int) ∧ w9 = (o9 : Int) ∧ h9 < hc ∧ o9 < hc ∧ hy o9 = hy h9 ∧ ClsAt ty ad ct1 yc hc yn yM yd yu hy hg hf ∧ ∃ so1 T, (∀ q, 1 ≤ q → q < yn (hy h9) → so1 q = sti (yn (hy h9)) (yM (hy h9)) (hg h9) q - sti (yn (hy h9)) (yM (hy h9)) (hg o9) q) ∧ ((tms (yn (hy h9)) (yM (hy h9)) (yd (hy h9)) so1 T = 1 ∧ z = 1) ∨ (tms (yn (hy h9)) (yM (hy h9)) (yd (hy h9)) so1 T ≠ 1 ∧ z = 0)))) (rm_XC D ad ct sz (fun E ct1 => ((E = xNSE ∧ ((z9 < 0 ∨ (hc : Int) ≤ z9) ∨ (w9 < 0 ∨ (hc : Int) ≤ w9))) ∨ (E = xIAE ∧ ∃ h9 o9 : Nat, z9 = (h9 : Int) ∧ w9 = (o9 : Int) ∧ h9 < hc ∧ o9 < hc ∧ hy h9 ≠ hy o9)) ∧ ct1 = ct)) 3 18 (rm_A ad ct sz) := by
  refine vx_ofW (cc := cX5_alike) (maxL := 5) (ret := (some .boolean)) (by decide) rfl ?_
  intro p e s m args below meth c s₁ B hml hout hv
  obtain ⟨hargs, ⟨hsz, hW, hK, hNw⟩, hE, hU⟩ := hv
  have hx := B.exec
  have hb := B.bytes
  have hr := B.returns
  have hts := atoms_spec (ws := wsX5_alike) B.pre
  have hown : s.vm.findClass RX5 = some m.cls := findClass_of_methodNamed B.named
  have hlocks := B.notSynchronized
  subst hsz
  have hW := hW.own (sz := s.heap.size)
  have hA : ∀ q : Nat, s.heap.size ≤ q → rm_A ad ct s.heap.size q := fun q h => Or.inr h
  have hS : va_S (rm_A ad ct s.heap.size) s.heap s.heap [] := va_S.rf
  have hent : entryFrame m args 5 = entryFrame m ([.ref (ad 0), .int (jI z9), .int (jI w9)] : List Value).toArray 5 := by rw [hargs]
  have hl := lv_entry ([.ref (ad 0), .int (jI z9), .int (jI w9)]) (n := 5) (Nat.le_of_ble_eq_true rfl)
  rw [hent, lg_entry_eq]
  generalize (lg_sl ([.ref (ad 0), .int (jI z9), .int (jI w9)]) ++ List.replicate (5 - (lg_sl ([.ref (ad 0), .int (jI z9), .int (jI w9)])).length) Slot.unset).toArray = ls at hl ⊢
  have hl : lv_has ls 5 [(0, .ref (ad 0)), (1, .int (jI z9)), (2, .int (jI w9))] := hl
  refine lv_aload_n hx hb dX5_alike_0 rfl (lv_at hl 0 rfl) ?_
  refine lv_iload_n hx hb dX5_alike_1 rfl (lv_at hl 1 rfl) ?_
  refine rm_xcallr (vx_runV (As := [.int (jI z9)]) (rest := []) ⟨hx, hb, hml, hown, hts⟩ (c_X5_heapNumbered l hlf D ty ad ct s.heap.size yc hc yn yM yd yu hy hg hf hC z9 hz9) (cwV 1 hts gX5_alike_X5_heapNumbered rfl rfl rfl (by decide +kernel) ⟨Nat.le_of_ble_eq_true rfl, Nat.le_of_ble_eq_true rfl⟩) (rm_preVX hK hNw hE hU hW hS hA hC.2.1.1 rfl) rfl rfl hl.1 rfl (lv_room (Nat.le_of_ble_eq_true rfl)) dX5_alike_2 ⟨Nat.le_of_ble_eq_true rfl, Nat.le_of_ble_eq_true rfl⟩) hW hS hA hout hlocks (fun E ct1 h => ⟨Or.inl ⟨h.1, Or.inl h.2.1⟩, h.2.2⟩) (Nat.le_of_ble_eq_true rfl) (Nat.le_of_ble_eq_true rfl) (fun z_1 ct_1 H locs hq_1 hW hS => ?_)
  obtain ⟨h9, hh1, hh2, hh3, hcc⟩ := hq_1
  have hcc := hcc.symm
  subst hcc hh3 hh1
  have hHh := (hC.2.2.2.2.1 h9 hh2).2
  have hyh := (hC.2.2.2.2.1 h9 hh2).1
  have hYy := hC.2.2.2.1 (hy h9) hyh
  have hyn9 := hyn (hy h9) hyh
  have hb6 := hC.1.1
  have hb20 := hC.1.2
  refine lv_astore_n (lv' := [(3, .ref (ad (200 + 4 * h9))), (0, .ref (ad 0)), (1, .int (jI ((h9 : Nat) : Int))), (2, .int (jI w9))]) hx hb dX5_alike_5 rfl hl (by decide) rfl (fun ls hl => ?_)
  refine lv_aload_n hx hb dX5_alike_6 rfl (lv_at hl 1 rfl) ?_
  refine lv_iload_n hx hb dX5_alike_7 rfl (lv_at hl 3 rfl) ?_
  refine rm_xcallr (vx_runV (As := [.int (jI w9)]) (rest := []) ⟨hx, hb, hml, hown, hts⟩ (c_X5_heapNumbered l hlf D ty ad ct H.size yc hc yn yM yd yu hy hg hf hC w9 hw9) (cwV 1 hts gX5_alike_X5_heapNumbered rfl rfl rfl (by decide +kernel) ⟨Nat.le_of_ble_eq_true rfl, Nat.le_of_ble_eq_true rfl⟩) (rm_preVX hK hNw hE hU hW hS hA hC.2.1.1 rfl) rfl rfl hl.1 rfl (lv_room (Nat.le_of_ble_eq_true rfl)) dX5_alike_8 ⟨Nat.le_of_ble_eq_true rfl, Nat.le_of_ble_eq_true rfl⟩) hW hS hA hout hlocks (fun E ct1 h => ⟨Or.inl ⟨h.1, Or.inr h.2.1⟩, h.2.2⟩) (Nat.le_of_ble_eq_true rfl) (Nat.le_of_ble_eq_true rfl) (fun z_2 ct_2 H locs hq_2 hW hS => ?_)
  obtain ⟨o9, ho1, ho2, ho3, hcc⟩ := hq_2
  have hcc := hcc.symm
  subst hcc ho3 ho1
  have hHo := (hC.2.2.2.2.1 o9 ho2).2
  have hyo := (hC.2.2.2.2.1 o9 ho2).1
  have hYo := hC.2.2.2.1 (hy o9) hyo
  refine lv_astore (lv' := [(4, .ref (ad (200 + 4 * o9))), (3, .ref (ad (200 + 4 * h9))), (0, .ref (ad 0)), (1, .int (jI ((h9 : Nat) : Int))), (2, .int (jI ((o9 : Nat) : Int)))]) hx hb dX5_alike_11 hl (by decide) rfl (fun ls hl => ?_)
  refine lv_aload_n hx hb dX5_alike_13 rfl (lv_at hl 1 rfl) ?_
  refine lv_aload hx hb dX5_alike_14 (lv_at hl 0 rfl) ?_
  refine rm_xcallv (vx_runS (As := [.ref (ad (200 + 4 * h9)), .ref (ad (200 + 4 * o9))]) (rest := []) ⟨hx, hb, hml, hown, hts⟩ (c_X5_requireOneYard l hlf D ty ad ct H.size (200 + 4 * h9) (200 + 4 * o9) (40 + 16 * hy h9) (40 + 16 * hy o9) (hg h9) (hf h9) (hg o9) (hf o9) hHh hHo _ _ hYy.1 hYo.1) (va_cwS 2 hts gX5_alike_X5_requireOneYard rfl rfl rfl (by decide +kernel) ⟨Nat.le_of_ble_eq_true rfl, Nat.le_of_ble_eq_true rfl⟩) (rm_preSX hK hNw hE hU hW hS hA) rfl rfl hl.1 rfl (lv_room (Nat.le_of_ble_eq_true rfl)) dX5_alike_16 ⟨Nat.le_of_ble_eq_true rfl, Nat.le_of_ble_eq_true rfl⟩) hW hS hA hout hlocks (fun E ct1 h => ⟨Or.inr ⟨h.1, h9, o9, rfl, rfl, hh2, ho2, by have := h.2.1; omega⟩, h.2.2⟩) (Nat.le_of_ble_eq_true rfl) (Nat.le_of_ble_eq_true rfl) (fun ct_3 H locs hq_3 hW hS hz_3 => ?_)
  obtain ⟨hsame, hcc⟩ := hq_3
  have hcc := hcc.symm
  subst hcc
  have hoy : hy o9 = hy h9 := by omega
  obtain ⟨fu, li, so, fa, T, hKi⟩ := hC.2.2.1.2.1
  refine lv_aload_n hx hb dX5_alike_19 rfl (lv_at hl 2 rfl) ?_
  refine rm_get (ci := 5) (v := .ref (ad 5)) (C := RX5) (T := TX5) (N := 7) hx hb hts (by decide +kernel) hown hK hW hC.2.1.1 rfl 5 (by decide) (hts (.fieldLink RX5 38 "GrainYard" "kinds" "LGrainYard$Kinds;") (by decide +kernel)) (fun _ h9 => h9) rfl dX5_alike_20 ?_
  refine lv_aload_n hx hb dX5_alike_23 rfl (lv_at hl 1 rfl) ?_
  refine rm_get (ci := 1) (v := .ref (ad (40 + 16 * hy h9))) (C := RX1) (T := TX1) (N := 3) hx hb hts (by decide +kernel) hown hK hW hHh.1 rfl 0 (by decide) (hts (.fieldLink RX5 107 "GrainYard$Heap" "yard" "LGrainYard$Yard;") (by decide +kernel)) (fun _ h9 => h9) rfl dX5_alike_24 ?_
  refine lv_aload_n hx hb dX5_alike_27 rfl (lv_at hl 1 rfl) ?_
  refine rm_get (ci := 1) (v := .ref (ad ((200 + 4 * h9) + 1))) (C := RX1) (T := TX1) (N := 3) hx hb hts (by decide +kernel) hown hK hW hHh.1 rfl 1 (by decide) (hts (.fieldLink RX5 117 "GrainYard$Heap" "grains" "[J") (by decide +kernel)) (fun _ h9 => h9) rfl dX5_alike_28 ?_
  refine lv_aload hx hb dX5_alike_31 (lv_at hl 0 rfl) ?_
  refine rm_get (ci := 1) (v := .ref (ad ((200 + 4 * o9) + 1))) (C := RX1) (T := TX1) (N := 3) hx hb hts (by decide +kernel) hown hK hW hHo.1 rfl 1 (by decide) (hts (.fieldLink RX5 117 "GrainYard$Heap" "grains" "[J") (by decide +kernel)) (fun _ h9 => h9) rfl dX5_alike_33 ?_
  have hs9 := hst h9 hh2
  have hsv9 := hsv h9 hh2
  have hg9 : ∀ q, 1 ≤ q → q < yn (hy h9) → 0 ≤ hg h9 q := fun q a b => (hgr h9 hh2 q a b).1
  refine rm_calll (va_runV (As := [.ref (ad (40 + 16 * hy h9)), .ref (ad ((200 + 4 * h9) + 1)), .ref (ad ((200 + 4 * o9) + 1))]) (rest := []) ⟨hx, hb, hml, hown, hts⟩ (c_X2_timesToNothing l D ty ad ct H.size (40 + 16 * hy h9) (yn (hy h9)) (yM (hy h9)) (yd (hy h9)) (yu (hy h9)) 5 fu li so fa T (200 + 4 * h9 + 1) (200 + 4 * o9 + 1) (hg h9) (hg o9) hHh.2.1 hHo.2.1 ⟨by omega, by omega⟩ hg9 hs9.2.2 (fun q a b => (hgr o9 ho2 q a (by rw [hoy]; exact b)).1) (by have h5 := (hst o9 ho2).2.2; rw [hoy] at h5; exact h5) hs9.1 hsv9 hs9.2.1 (hyd _ hyh) hYy hKi (by omega)) (cwV 3 hts gX5_alike_X2_timesToNothing rfl rfl rfl (by decide +kernel) ⟨Nat.le_of_ble_eq_true rfl, Nat.le_of_ble_eq_true rfl⟩) (rm_preV hK hNw hW hKi.1 rfl) rfl rfl hl.1 rfl (lv_room (Nat.le_of_ble_eq_true rfl)) dX5_alike_36 ⟨Nat.le_of_ble_eq_true rfl, Nat.le_of_ble_eq_true rfl⟩) hW hS hA (fun z_4 ct_4 H locs hq_4 hW hS => ?_)
  obtain ⟨li1, so1, fa1, T1, hso, hz, hq1, hq2, hq3, hq4, hq5⟩ := hq_4
  have hz : z_4 = tms (yn (hy h9)) (yM (hy h9)) (yd (hy h9)) so1 T := hz
  have ho_4 : ∀ q, (q < 5 ∨ 5 + 14 < q) → ct_4 q = ct q := fun q h1 => hq5 q (by omega) (by omega) (by omega) (by omega)
  have hof_4 : ∀ q, (q < 5 ∨ 5 + 14 < q) → ct_4 q = ct q := fun q h0_4 => (ho_4 q h0_4).trans rfl
  have hm0_4 : KindsAt ty ad ct_4 5 fu li1 so1 fa1 T1 := hKi.tabTo hq1 hq2 hq3 hq4 hq5
  have hcl := hC.helpTo (fun q h => hof_4 q (by omega)) (hC.2.2.1.kindsTo hm0_4 (fun q _ h => hof_4 q (by omega)))
  have hzb : 0 ≤ z_4 ∧ z_4 < 281474976710656 := by
    rw [hz]
    refine tms_rng hsv9 (fun q a b => ?_)
    have h5 := sti_rng hs9.1 hg9 (by omega) a b
    have h6 := sti_rng hs9.1 (g := hg o9) (fun q a b => (hgr o9 ho2 q a (by rw [hoy]; exact b)).1) (by have h5 := (hst o9 ho2).2.2; rw [hoy] at h5; omega) a b
    rw [hso q a b]; omega
  refine lv_lconst (v := jL 1) hx hb dX5_alike_39 rfl ?_
  refine rm_lcmp hx hb ⟨by omega, by omega⟩ ⟨by omega, by omega⟩ dX5_alike_40 ?_
  refine rm_if_ne (tgt := 48) hx hb (lcv_rng _ _) dX5_alike_41 (by decide) (fun hc_5 => ?_) (fun hc_5 => ?_)
  · skip
    have hc_5 : z_4 ≠ 1 := fun hq => hc_5 (lcv_eq.mpr hq)
    refine lv_iconst (v := jI 0) hx hb dX5_alike_48 rfl ?_
    refine vx_ret ?_
    refine W.widen (k := 3) (n := 18) (by omega) (by omega) ?_
    exact W.zret hx hb hr (by decide) (fun t ht hw => ⟨⟨_, (0, ct_4), rfl, ⟨rfl, ⟨h9, o9, rfl, rfl, hh2, ho2, hoy, hcl, so1, T, hso, Or.inr ⟨by omega, rfl⟩⟩⟩, by show rm_W D ad _ _ t.heap; rw [ht]; exact hW⟩, hS.F ht⟩) hS.2.2 dX5_alike_49
  · skip
    have hc_5 := lcv_eq.mp hc_5
    refine lv_iconst (v := jI 1) hx hb dX5_alike_44 rfl ?_
    refine lv_goto (tgt := 49) hx hb dX5_alike_45 (by decide) ?_
    refine vx_ret ?_
    refine W.widen (k := 3) (n := 18) (by omega) (by omega) ?_
    exact W.zret hx hb hr (by decide) (fun t ht hw => ⟨⟨_, (1, ct_4), rfl, ⟨rfl, ⟨h9, o9, rfl, rfl, hh2, ho2, hoy, hcl, so1, T, hso, Or.inl ⟨by omega, rfl⟩⟩⟩, by show rm_W D ad _ _ t.heap; rw [ht]; exact hW⟩, hS.F ht⟩) hS.2.2 dX5_alike_49
set_option maxHeartbeats 4000000 in
set_option maxRecDepth 100000 in
theorem c_X5_add (l : Launch) (hlf : l.stackTraces = false) (D : va_G) (ty : Nat → ClassId) (ad : Nat → Nat) (ct : rm_C) (sz : Nat) (yc hc : Nat) (yn : Nat → Nat) (yM : Nat → Nat → Nat → Int) (yd : Nat → Nat → Int) (yu : Nat → Int) (hy : Nat → Nat) (hg hf : Nat → Nat → Int) (hC : ClsAt ty ad ct yc hc yn yM yd yu hy hg hf) (hyn : ∀ y, y < yc → 2 ≤ yn y ∧ yn y ≤ 8) (hyM : ∀ y, y < yc → ∀ i j, 0 ≤ yM y i j ∧ yM y i j ≤ 3) (hyd : ∀ y, y < yc → ∀ i, i < 8 → 0 ≤ yd y i ∧ yd y i ≤ 21) (hgr : ∀ h, h < hc → ∀ q, 1 ≤ q → q < yn (hy h) → 0 ≤ hg h q ∧ hg h q ≤ 1000000000) (hst : ∀ h, h < hc → yst (yn (hy h)) (yM (hy h)) ∧ (∀ i, i < 8 → yd (hy h) i = dg (yn (hy h)) (yM (hy h)) i) ∧ psum (yn (hy h)) (hg h) ≤ 900000000) (had9 : ∀ h, h < hc → psum (yn (hy h)) (hg h) ≤ 400000000) (z9 w9 : Int) (hz9 : r32 z9) (hw9 : r32 w9) : vx_Met l yX5_add wsX5_add ({ frames := 7, cells := 3, slots := 18, locals := 104 }) (rm_PX D ty ad ct sz [.ref (ad 0), .int (jI z9), .int (jI w9)]) (rm_Ql D ad ct sz (fun z ct1 => ∃ h9 o9 : Nat, z9 = (h9 : Int) ∧ w9 = (o9 : Int) ∧ h9 < hc ∧ o9 < hc ∧ hy o9 = hy h9 ∧ ∃ v, stl (yn (hy h9)) (yM (hy h9)) (tkn (yn (hy h9)) (fun q => hg h9 q + hg o9 q) (hg h9)) v ∧ z = gs v (yn (hy h9)) ∧ ClsAt ty ad ct1 yc hc yn yM yd yu hy (us hg h9 (gaf (yn (hy h9)) (yM (hy h9)) (tkn (yn (hy h9)) (fun q => hg h9 q + hg o9 q) (hg h9)) v)) (us hf h9 v))) (rm_XC D ad ct sz (fun E ct1 => ((E = xNSE ∧ ((z9 < 0 ∨ (hc : Int) ≤ z9) ∨ (w9 < 0 ∨ (hc : Int) ≤ w9))) ∨ (E = xIAE ∧ ∃ h9 o9 : Nat, z9 = (h9 : Int) ∧ w9 = (o9 : Int) ∧ h9 < hc ∧ o9 < hc ∧ hy h9 ≠ hy o9)) ∧ ct1 = ct)) 3 18 (rm_A ad ct sz) := by
  refine vx_ofW (cc := cX5_add) (maxL := 6) (ret := (some .long)) (by decide) rfl ?_
  intro p e s m args below meth c s₁ B hml hout hv
  obtain ⟨hargs, ⟨hsz, hW, hK, hNw⟩, hE, hU⟩ := hv
  have hx := B.exec
  have hb := B.bytes
  have hr := B.returns
  have hts := atoms_spec (ws := wsX5_add) B.pre
  have hown : s.vm.findClass RX5 = some m.cls := findClass_of_methodNamed B.named
  have hlocks := B.notSynchronized
  subst hsz
  have hW := hW.own (sz := s.heap.size)
  have hA : ∀ q : Nat, s.heap.size ≤ q → rm_A ad ct s.heap.size q := fun q h => Or.inr h
  have hS : va_S (rm_A ad ct s.heap.size) s.heap s.heap [] := va_S.rf
  have hent : entryFrame m args 6 = entryFrame m ([.ref (ad 0), .int (jI z9), .int (jI w9)] : List Value).toArray 6 := by rw [hargs]
  have hl := lv_entry ([.ref (ad 0), .int (jI z9), .int (jI w9)]) (n := 6) (Nat.le_of_ble_eq_true rfl)
  rw [hent, lg_entry_eq]
  generalize (lg_sl ([.ref (ad 0), .int (jI z9), .int (jI w9)]) ++ List.replicate (6 - (lg_sl ([.ref (ad 0), .int (jI z9), .int (jI w9)])).length) Slot.unset).toArray = ls at hl ⊢
  have hl : lv_has ls 6 [(0, .ref (ad 0)), (1, .int (jI z9)), (2, .int (jI w9))] := hl
  refine lv_aload_n hx hb dX5_add_0 rfl (lv_at hl 0 rfl) ?_
  refine lv_iload_n hx hb dX5_add_1 rfl (lv_at hl 1 rfl) ?_
  refine rm_xcallr (vx_runV (As := [.int (jI z9)]) (rest := []) ⟨hx, hb, hml, hown, hts⟩ (c_X5_heapNumbered l hlf D ty ad ct s.heap.size yc hc yn yM yd yu hy hg hf hC z9 hz9) (cwV 1 hts gX5_add_X5_heapNumbered rfl rfl rfl (by decide +kernel) ⟨Nat.le_of_ble_eq_true rfl, Nat.le_of_ble_eq_true rfl⟩) (rm_preVX hK hNw hE hU hW hS hA hC.2.1.1 rfl) rfl rfl hl.1 rfl (lv_room (Nat.le_of_ble_eq_true rfl)) dX5_add_2 ⟨Nat.le_of_ble_eq_true rfl, Nat.le_of_ble_eq_true rfl⟩) hW hS hA hout hlocks (fun E ct1 h => ⟨Or.inl ⟨h.1, Or.inl h.2.1⟩, h.2.2⟩) (Nat.le_of_ble_eq_true rfl) (Nat.le_of_ble_eq_true rfl) (fun z_1 ct_1 H locs hq_1 hW hS => ?_)
  obtain ⟨h9, hh1, hh2, hh3, hcc⟩ := hq_1
  have hcc := hcc.symm
  subst hcc hh3 hh1
  have hHh := (hC.2.2.2.2.1 h9 hh2).2
  have hyh := (hC.2.2.2.2.1 h9 hh2).1
  have hYy := hC.2.2.2.1 (hy h9) hyh
  have hyn9 := hyn (hy h9) hyh
  have hb6 := hC.1.1
  have hb20 := hC.1.2
  refine lv_astore_n (lv' := [(3, .ref (ad (200 + 4 * h9))), (0, .ref (ad 0)), (1, .int (jI ((h9 : Nat) : Int))), (2, .int (jI w9))]) hx hb dX5_add_5 rfl hl (by decide) rfl (fun ls hl => ?_)
  refine lv_aload_n hx hb dX5_add_6 rfl (lv_at hl 1 rfl) ?_
  refine lv_iload_n hx hb dX5_add_7 rfl (lv_at hl 3 rfl) ?_
  refine rm_xcallr (vx_runV (As := [.int (jI w9)]) (rest := []) ⟨hx, hb, hml, hown, hts⟩ (c_X5_heapNumbered l hlf D ty ad ct H.size yc hc yn yM yd yu hy hg hf hC w9 hw9) (cwV 1 hts gX5_add_X5_heapNumbered rfl rfl rfl (by decide +kernel) ⟨Nat.le_of_ble_eq_true rfl, Nat.le_of_ble_eq_true rfl⟩) (rm_preVX hK hNw hE hU hW hS hA hC.2.1.1 rfl) rfl rfl hl.1 rfl (lv_room (Nat.le_of_ble_eq_true rfl)) dX5_add_8 ⟨Nat.le_of_ble_eq_true rfl, Nat.le_of_ble_eq_true rfl⟩) hW hS hA hout hlocks (fun E ct1 h => ⟨Or.inl ⟨h.1, Or.inr h.2.1⟩, h.2.2⟩) (Nat.le_of_ble_eq_true rfl) (Nat.le_of_ble_eq_true rfl) (fun z_2 ct_2 H locs hq_2 hW hS => ?_)
  obtain ⟨o9, ho1, ho2, ho3, hcc⟩ := hq_2
  have hcc := hcc.symm
  subst hcc ho3 ho1
  have hHo := (hC.2.2.2.2.1 o9 ho2).2
  have hyo := (hC.2.2.2.2.1 o9 ho2).1
  have hYo := hC.2.2.2.1 (hy o9) hyo
  refine lv_astore (lv' := [(4, .ref (ad (200 + 4 * o9))), (3, .ref (ad (200 + 4 * h9))), (0, .ref (ad 0)), (1, .int (jI ((h9 : Nat) : Int))), (2, .int (jI ((o9 : Nat) : Int)))]) hx hb dX5_add_11 hl (by decide) rfl (fun ls hl => ?_)
  refine lv_aload_n hx hb dX5_add_13 rfl (lv_at hl 1 rfl) ?_
  refine lv_aload hx hb dX5_add_14 (lv_at hl 0 rfl) ?_
  refine rm_xcallv (vx_runS (As := [.ref (ad (200 + 4 * h9)), .ref (ad (200 + 4 * o9))]) (rest := []) ⟨hx, hb, hml, hown, hts⟩ (c_X5_requireOneYard l hlf D ty ad ct H.size (200 + 4 * h9) (200 + 4 * o9) (40 + 16 * hy h9) (40 + 16 * hy o9) (hg h9) (hf h9) (hg o9) (hf o9) hHh hHo _ _ hYy.1 hYo.1) (va_cwS 2 hts gX5_add_X5_requireOneYard rfl rfl rfl (by decide +kernel) ⟨Nat.le_of_ble_eq_true rfl, Nat.le_of_ble_eq_true rfl⟩) (rm_preSX hK hNw hE hU hW hS hA) rfl rfl hl.1 rfl (lv_room (Nat.le_of_ble_eq_true rfl)) dX5_add_16 ⟨Nat.le_of_ble_eq_true rfl, Nat.le_of_ble_eq_true rfl⟩) hW hS hA hout hlocks (fun E ct1 h => ⟨Or.inr ⟨h.1, h9, o9, rfl, rfl, hh2, ho2, by have := h.2.1; omega⟩, h.2.2⟩) (Nat.le_of_ble_eq_true rfl) (Nat.le_of_ble_eq_true rfl) (fun ct_3 H locs hq_3 hW hS hz_3 => ?_)
  obtain ⟨hsame, hcc⟩ := hq_3
  have hcc := hcc.symm
  subst hcc
  have hoy : hy o9 = hy h9 := by omega
  have hs9 := hst h9 hh2
  have hgb := hgr h9 hh2
  have hob : ∀ q, 1 ≤ q → q < yn (hy h9) → 0 ≤ hg o9 q ∧ hg o9 q ≤ 1000000000 := fun q a b => hgr o9 ho2 q a (by rw [hoy]; exact b)
  have hps : psum (yn (hy h9)) (tkn (yn (hy h9)) (fun q => hg h9 q + hg o9 q) (hg h9)) ≤ 900000000 := by
    have h5 := had9 h9 hh2
    have h6 := had9 o9 ho2
    rw [hoy] at h6
    rw [psum_cong (f := (tkn (yn (hy h9)) (fun q => hg h9 q + hg o9 q) (hg h9))) (g := (fun q => hg h9 q + hg o9 q)) (fun q a b => tkn_in a b), psum_add]
    omega
  have hg9 : ∀ q, 1 ≤ q → q < yn (hy h9) → 0 ≤ (tkn (yn (hy h9)) (fun q => hg h9 q + hg o9 q) (hg h9)) q := fun q a b => by
    have h1 := (hgb q a b).1
    have h2 := (hob q a b).1
    rw [tkn_in a b]; omega
  by_cases hoh : o9 = h9
  · skip
    subst hoh
    refine W_genQ (fun QQ hQQ => ?_)
    refine lv_iconst (v := jI 1) hx hb dX5_add_19 rfl ?_
    refine lv_istore (lv' := [(5, .int (jI 1)), (4, .ref (ad (200 + 4 * o9))), (3, .ref (ad (200 + 4 * o9))), (0, .ref (ad 0)), (1, .int (jI ((o9 : Nat) : Int))), (2, .int (jI ((o9 : Nat) : Int)))]) hx hb dX5_add_20 hl (by decide) rfl (fun ls hl => ?_)
    have LP : ∀ (k : Nat) (i9 : Nat) (hi : i9 + 1 ≤ (yn (hy o9))), (yn (hy o9)) - i9 < k → ∀ (ctv : rm_C) (H : Heap) (locs : List Loc), (ctv ((200 + 4 * o9) + 1) = some (rl ty 8 (tkn (i9 + 1) (fun q => hg o9 q + hg o9 q) (hg o9)))) → ∀ (_ : True), (ctv ((200 + 4 * o9) + 2) = some (rl ty 8 (hf o9))) → ∀ (_ : True), (∀ q, q ≠ ((200 + 4 * o9) + 1) → q ≠ ((200 + 4 * o9) + 2) → ctv q = ct q) → ∀ (_ : True), rm_W D ad ctv (rm_A ad ct s.heap.size) H → va_S (rm_A ad ct s.heap.size) s.heap H locs → ∀ ls : Array Slot, lv_has ls 6 [(0, .ref (ad 0)), (3, .ref (ad (200 + 4 * o9))), (4, .ref (ad (200 + 4 * o9))), (5, .int (jI (((i9 + 1) : Nat) : Int)))] → W p l e (headSpec wsX5_add ({ frames := 7, cells := 3, slots := 18, locals := 104 })).room s m args below meth c H locs 3 18 QQ (F0 m 22 ls []) := by
      intro k
      induction k with
      | zero => intro i9 hi hk; exact absurd hk (Nat.not_lt_zero _)
      | succ k ih_LP =>
        intro i9 hi hk ctv_4 H locs hv0_4 _ hv1_4 _ hofv_4 _ hW hS ls hl
        refine lv_iload hx hb dX5_add_22 (lv_at hl 3 rfl) ?_
        refine lv_aload_n hx hb dX5_add_24 rfl (lv_at hl 1 rfl) ?_
        refine rm_get (ci := 1) (v := .ref (ad (40 + 16 * hy o9))) (C := RX1) (T := TX1) (N := 3) hx hb hts (by decide +kernel) hown hK hW ((hofv_4 (200 + 4 * o9) (by omega) (by omega)).trans hHh.1) rfl 0 (by decide) (hts (.fieldLink RX5 107 "GrainYard$Heap" "yard" "LGrainYard$Yard;") (by decide +kernel)) (fun _ h9 => h9) rfl dX5_add_25 ?_
        refine rm_get (ci := 4) (v := .int (jI (((yn (hy o9)) : Nat) : Int))) (C := RX4) (T := TX4) (N := 4) hx hb hts (by decide +kernel) hown hK hW ((hofv_4 (40 + 16 * hy o9) (by omega) (by omega)).trans hYy.1) rfl 0 (by decide) (hts (.fieldLink RX5 149 "GrainYard$Yard" "places" "I") (by decide +kernel)) (fun _ h9 => h9) rfl dX5_add_28 ?_
        refine rm_icmp_ge (tgt := 58) hx hb ⟨by omega, by omega⟩ ⟨by omega, by omega⟩ dX5_add_31 (by decide) (fun hc_5 => ?_) (fun hc_5 => ?_)
        · skip
          have hi9 : i9 + 1 = (yn (hy o9)) := by omega
          have hk_6 : ctv_4 ((200 + 4 * o9) + 1) = some (rl ty 8 (tkn (yn (hy o9)) (fun q => hg o9 q + hg o9 q) (hg o9))) := hv0_4.trans (congrArg (fun f => some (rl ty 8 f)) (by rw [hi9]))
          refine lv_aload_n hx hb dX5_add_58 rfl (lv_at hl 1 rfl) ?_
          refine rm_calll (va_runV (As := []) (rest := []) ⟨hx, hb, hml, hown, hts⟩ (c_X1_calm l D ty ad ctv_4 H.size (40 + 16 * hy o9) (yn (hy o9)) (yM (hy o9)) (yd (hy o9)) (yu (hy o9)) (200 + 4 * o9) (tkn (yn (hy o9)) (fun q => hg o9 q + hg o9 q) (hg o9)) (hf o9) ⟨((hofv_4 (200 + 4 * o9) (by omega) (by omega)).trans hHh.1), hk_6, hv1_4⟩ (by omega) hs9.1.1 (hYy.kept (fun q a b => hofv_4 q (by omega) (by omega))) hs9.2.1 hs9.1.2.1 (hyd _ hyh) hg9 (by omega) (hs9.1.2.2 _ hg9 (by omega))) (cwV 0 hts gX5_add_X1_calm rfl rfl rfl (by decide +kernel) ⟨Nat.le_of_ble_eq_true rfl, Nat.le_of_ble_eq_true rfl⟩) (rm_preV hK hNw hW ((hofv_4 (200 + 4 * o9) (by omega) (by omega)).trans hHh.1) rfl) rfl rfl hl.1 rfl (lv_room (Nat.le_of_ble_eq_true rfl)) dX5_add_59 ⟨Nat.le_of_ble_eq_true rfl, Nat.le_of_ble_eq_true rfl⟩) hW hS hA (fun z_7 ct_7 H locs hq_7 hW hS => ?_)
          obtain ⟨v, hv1, hv2, hq1, hq2⟩ := hq_7
          have ho_7 : ∀ q, q ≠ ((200 + 4 * o9) + 1) → q ≠ ((200 + 4 * o9) + 2) → ct_7 q = ctv_4 q := hq2
          have hof_7 : ∀ q, q ≠ ((200 + 4 * o9) + 1) → q ≠ ((200 + 4 * o9) + 2) → ct_7 q = ct q := fun q h0_7 h1_7 => (ho_7 q h0_7 h1_7).trans (hofv_4 q h0_7 h1_7)
          have hm0_7 : ct_7 ((200 + 4 * o9) + 1) = some (rl ty 8 (gaf (yn (hy o9)) (yM (hy o9)) (tkn (yn (hy o9)) (fun q => hg o9 q + hg o9 q) (hg o9)) v)) := hq1.2.1
          have hm1_7 : ct_7 ((200 + 4 * o9) + 2) = some (rl ty 8 v) := hq1.2.2
          have hcl := hC.heapTo hh2 hm0_7 hm1_7 (fun q h1 h2 h3 => hof_7 q h1 h2) (hC.2.2.1.kept (fun q a b => hof_7 q (by omega) (by omega)))
          rw [hQQ]
          refine vx_ret ?_
          refine W.widen (k := 3) (n := 18) (by omega) (by omega) ?_
          exact W.lret hx hb hr (fun t ht hw => ⟨⟨_, (z_7, ct_7), rfl, ⟨rfl, ⟨o9, o9, rfl, rfl, hh2, ho2, hoy, v, hv1, hv2, hcl⟩⟩, by show rm_W D ad _ _ t.heap; rw [ht]; exact hW⟩, hS.F ht⟩) hS.2.2 dX5_add_62
        · skip
          have hb1 := hgb (i9 + 1) (by omega) (by omega)
          have hb2 := hob (i9 + 1) (by omega) (by omega)
          refine lv_aload_n hx hb dX5_add_34 rfl (lv_at hl 1 rfl) ?_
          refine rm_get (ci := 1) (v := .ref (ad ((200 + 4 * o9) + 1))) (C := RX1) (T := TX1) (N := 3) hx hb hts (by decide +kernel) hown hK hW ((hofv_4 (200 + 4 * o9) (by omega) (by omega)).trans hHh.1) rfl 1 (by decide) (hts (.fieldLink RX5 117 "GrainYard$Heap" "grains" "[J") (by decide +kernel)) (fun _ h9 => h9) rfl dX5_add_35 ?_
          refine lv_iload hx hb dX5_add_38 (lv_at hl 3 rfl) ?_
          refine lv_dup2_11 hx hb dX5_add_40 rfl rfl ?_
          refine rm_lald hx hb hK hW (f := (tkn (i9 + 1) (fun q => hg o9 q + hg o9 q) (hg o9))) hv0_4 (i9 + 1) rfl (by omega) (by omega) dX5_add_41 ?_
          refine lv_aload hx hb dX5_add_42 (lv_at hl 2 rfl) ?_
          refine rm_get (ci := 1) (v := .ref (ad ((200 + 4 * o9) + 1))) (C := RX1) (T := TX1) (N := 3) hx hb hts (by decide +kernel) hown hK hW ((hofv_4 (200 + 4 * o9) (by omega) (by omega)).trans hHh.1) rfl 1 (by decide) (hts (.fieldLink RX5 117 "GrainYard$Heap" "grains" "[J") (by decide +kernel)) (fun _ h9 => h9) rfl dX5_add_44 ?_
          refine lv_iload hx hb dX5_add_47 (lv_at hl 3 rfl) ?_
          refine rm_lald hx hb hK hW (f := (tkn (i9 + 1) (fun q => hg o9 q + hg o9 q) (hg o9))) hv0_4 (i9 + 1) rfl (by omega) (by omega) dX5_add_49 ?_
          refine rm_ladd hx hb dX5_add_50 ?_
          refine rm_last hx hb hK hW hS (f := (tkn (i9 + 1) (fun q => hg o9 q + hg o9 q) (hg o9))) hv0_4 (i9 + 1) rfl (by omega) (by omega) dX5_add_51 (fun H locs ct_8 hs_8 ho_8 hW hS hz_8 => ?_)
          have hof_8 : ∀ q, q ≠ ((200 + 4 * o9) + 1) → q ≠ ((200 + 4 * o9) + 2) → ct_8 q = ct q := fun q h0_8 h1_8 => (ho_8 q h0_8).trans (hofv_4 q h0_8 h1_8)
          have hm1_8 : ct_8 ((200 + 4 * o9) + 2) = some (rl ty 8 (hf o9)) := (ho_8 ((200 + 4 * o9) + 2) (by omega)).trans hv1_4
          have hk_9 : ct_8 ((200 + 4 * o9) + 1) = some (rl ty 8 (tkn (i9 + 1 + 1) (fun q => hg o9 q + hg o9 q) (hg o9))) := hs_8.trans (congrArg (fun f => some (rl ty 8 f)) ((by rw [tkn_at]; exact tkn_s (i := i9 + 1) (w := (fun q => hg o9 q + hg o9 q)) (g := (hg o9)) (by omega))))
          refine lv_iinc (v := jI ((((i9 + 1) : Nat) : Int) + 1)) (lv' := [(5, .int (jI ((((i9 + 1) : Nat) : Int) + 1))), (0, .ref (ad 0)), (3, .ref (ad (200 + 4 * o9))), (4, .ref (ad (200 + 4 * o9)))]) hx hb dX5_add_52 hl (k := 3) rfl (jI_add _ _) (by decide) rfl (fun ls hl => ?_)
          refine lv_goto (tgt := 22) hx hb dX5_add_55 (by decide) ?_
          exact ih_LP (i9 + 1) (by omega) (by omega) ct_8 _ _ hk_9 trivial hm1_8 trivial hof_8 trivial hW hS ls (lv_sub hl [1, 2, 3, 0] rfl)
    exact LP ((yn (hy o9)) + 1) (0) (by omega) (by omega) ct _ _ (hHh.2.1.trans (congrArg (fun f => some (rl ty 8 f)) (tkn_0 _ _))) trivial hHh.2.2 trivial (fun _ _ _ => rfl) trivial hW hS ls (lv_sub hl [3, 2, 1, 0] rfl)
  · skip
    refine W_genQ (fun QQ hQQ => ?_)
    refine lv_iconst (v := jI 1) hx hb dX5_add_19 rfl ?_
    refine lv_istore (lv' := [(5, .int (jI 1)), (4, .ref (ad (200 + 4 * o9))), (3, .ref (ad (200 + 4 * h9))), (0, .ref (ad 0)), (1, .int (jI ((h9 : Nat) : Int))), (2, .int (jI ((o9 : Nat) : Int)))]) hx hb dX5_add_20 hl (by decide) rfl (fun ls hl => ?_)
    have LP : ∀ (k : Nat) (i9 : Nat) (hi : i9 + 1 ≤ (yn (hy h9))), (yn (hy h9)) - i9 < k → ∀ (ctv : rm_C) (H : Heap) (locs : List Loc), (ctv ((200 + 4 * h9) + 1) = some (rl ty 8 (tkn (i9 + 1) (fun q => hg h9 q + hg o9 q) (hg h9)))) → ∀ (_ : True), (ctv ((200 + 4 * h9) + 2) = some (rl ty 8 (hf h9))) → ∀ (_ : True), (∀ q, q ≠ ((200 + 4 * h9) + 1) → q ≠ ((200 + 4 * h9) + 2) → ctv q = ct q) → ∀ (_ : True), rm_W D ad ctv (rm_A ad ct s.heap.size) H → va_S (rm_A ad ct s.heap.size) s.heap H locs → ∀ ls : Array Slot, lv_has ls 6 [(0, .ref (ad 0)), (3, .ref (ad (200 + 4 * h9))), (4, .ref (ad (200 + 4 * o9))), (5, .int (jI (((i9 + 1) : Nat) : Int)))] → W p l e (headSpec wsX5_add ({ frames := 7, cells := 3, slots := 18, locals := 104 })).room s m args below meth c H locs 3 18 QQ (F0 m 22 ls []) := by
      intro k
      induction k with
      | zero => intro i9 hi hk; exact absurd hk (Nat.not_lt_zero _)
      | succ k ih_LP =>
        intro i9 hi hk ctv_10 H locs hv0_10 _ hv1_10 _ hofv_10 _ hW hS ls hl
        refine lv_iload hx hb dX5_add_22 (lv_at hl 3 rfl) ?_
        refine lv_aload_n hx hb dX5_add_24 rfl (lv_at hl 1 rfl) ?_
        refine rm_get (ci := 1) (v := .ref (ad (40 + 16 * hy h9))) (C := RX1) (T := TX1) (N := 3) hx hb hts (by decide +kernel) hown hK hW ((hofv_10 (200 + 4 * h9) (by omega) (by omega)).trans hHh.1) rfl 0 (by decide) (hts (.fieldLink RX5 107 "GrainYard$Heap" "yard" "LGrainYard$Yard;") (by decide +kernel)) (fun _ h9 => h9) rfl dX5_add_25 ?_
        refine rm_get (ci := 4) (v := .int (jI (((yn (hy h9)) : Nat) : Int))) (C := RX4) (T := TX4) (N := 4) hx hb hts (by decide +kernel) hown hK hW ((hofv_10 (40 + 16 * hy h9) (by omega) (by omega)).trans hYy.1) rfl 0 (by decide) (hts (.fieldLink RX5 149 "GrainYard$Yard" "places" "I") (by decide +kernel)) (fun _ h9 => h9) rfl dX5_add_28 ?_
        refine rm_icmp_ge (tgt := 58) hx hb ⟨by omega, by omega⟩ ⟨by omega, by omega⟩ dX5_add_31 (by decide) (fun hc_11 => ?_) (fun hc_11 => ?_)
        · skip
          have hi9 : i9 + 1 = (yn (hy h9)) := by omega
          have hk_12 : ctv_10 ((200 + 4 * h9) + 1) = some (rl ty 8 (tkn (yn (hy h9)) (fun q => hg h9 q + hg o9 q) (hg h9))) := hv0_10.trans (congrArg (fun f => some (rl ty 8 f)) (by rw [hi9]))
          refine lv_aload_n hx hb dX5_add_58 rfl (lv_at hl 1 rfl) ?_
          refine rm_calll (va_runV (As := []) (rest := []) ⟨hx, hb, hml, hown, hts⟩ (c_X1_calm l D ty ad ctv_10 H.size (40 + 16 * hy h9) (yn (hy h9)) (yM (hy h9)) (yd (hy h9)) (yu (hy h9)) (200 + 4 * h9) (tkn (yn (hy h9)) (fun q => hg h9 q + hg o9 q) (hg h9)) (hf h9) ⟨((hofv_10 (200 + 4 * h9) (by omega) (by omega)).trans hHh.1), hk_12, hv1_10⟩ (by omega) hs9.1.1 (hYy.kept (fun q a b => hofv_10 q (by omega) (by omega))) hs9.2.1 hs9.1.2.1 (hyd _ hyh) hg9 (by omega) (hs9.1.2.2 _ hg9 (by omega))) (cwV 0 hts gX5_add_X1_calm rfl rfl rfl (by decide +kernel) ⟨Nat.le_of_ble_eq_true rfl, Nat.le_of_ble_eq_true rfl⟩) (rm_preV hK hNw hW ((hofv_10 (200 + 4 * h9) (by omega) (by omega)).trans hHh.1) rfl) rfl rfl hl.1 rfl (lv_room (Nat.le_of_ble_eq_true rfl)) dX5_add_59 ⟨Nat.le_of_ble_eq_true rfl, Nat.le_of_ble_eq_true rfl⟩) hW hS hA (fun z_13 ct_13 H locs hq_13 hW hS => ?_)
          obtain ⟨v, hv1, hv2, hq1, hq2⟩ := hq_13
          have ho_13 : ∀ q, q ≠ ((200 + 4 * h9) + 1) → q ≠ ((200 + 4 * h9) + 2) → ct_13 q = ctv_10 q := hq2
          have hof_13 : ∀ q, q ≠ ((200 + 4 * h9) + 1) → q ≠ ((200 + 4 * h9) + 2) → ct_13 q = ct q := fun q h0_13 h1_13 => (ho_13 q h0_13 h1_13).trans (hofv_10 q h0_13 h1_13)
          have hm0_13 : ct_13 ((200 + 4 * h9) + 1) = some (rl ty 8 (gaf (yn (hy h9)) (yM (hy h9)) (tkn (yn (hy h9)) (fun q => hg h9 q + hg o9 q) (hg h9)) v)) := hq1.2.1
          have hm1_13 : ct_13 ((200 + 4 * h9) + 2) = some (rl ty 8 v) := hq1.2.2
          have hcl := hC.heapTo hh2 hm0_13 hm1_13 (fun q h1 h2 h3 => hof_13 q h1 h2) (hC.2.2.1.kept (fun q a b => hof_13 q (by omega) (by omega)))
          rw [hQQ]
          refine vx_ret ?_
          refine W.widen (k := 3) (n := 18) (by omega) (by omega) ?_
          exact W.lret hx hb hr (fun t ht hw => ⟨⟨_, (z_13, ct_13), rfl, ⟨rfl, ⟨h9, o9, rfl, rfl, hh2, ho2, hoy, v, hv1, hv2, hcl⟩⟩, by show rm_W D ad _ _ t.heap; rw [ht]; exact hW⟩, hS.F ht⟩) hS.2.2 dX5_add_62
        · skip
          have hb1 := hgb (i9 + 1) (by omega) (by omega)
          have hb2 := hob (i9 + 1) (by omega) (by omega)
          refine lv_aload_n hx hb dX5_add_34 rfl (lv_at hl 1 rfl) ?_
          refine rm_get (ci := 1) (v := .ref (ad ((200 + 4 * h9) + 1))) (C := RX1) (T := TX1) (N := 3) hx hb hts (by decide +kernel) hown hK hW ((hofv_10 (200 + 4 * h9) (by omega) (by omega)).trans hHh.1) rfl 1 (by decide) (hts (.fieldLink RX5 117 "GrainYard$Heap" "grains" "[J") (by decide +kernel)) (fun _ h9 => h9) rfl dX5_add_35 ?_
          refine lv_iload hx hb dX5_add_38 (lv_at hl 3 rfl) ?_
          refine lv_dup2_11 hx hb dX5_add_40 rfl rfl ?_
          refine rm_lald hx hb hK hW (f := (tkn (i9 + 1) (fun q => hg h9 q + hg o9 q) (hg h9))) hv0_10 (i9 + 1) rfl (by omega) (by omega) dX5_add_41 ?_
          refine lv_aload hx hb dX5_add_42 (lv_at hl 2 rfl) ?_
          refine rm_get (ci := 1) (v := .ref (ad ((200 + 4 * o9) + 1))) (C := RX1) (T := TX1) (N := 3) hx hb hts (by decide +kernel) hown hK hW ((hofv_10 (200 + 4 * o9) (by omega) (by omega)).trans hHo.1) rfl 1 (by decide) (hts (.fieldLink RX5 117 "GrainYard$Heap" "grains" "[J") (by decide +kernel)) (fun _ h9 => h9) rfl dX5_add_44 ?_
          refine lv_iload hx hb dX5_add_47 (lv_at hl 3 rfl) ?_
          refine rm_lald hx hb hK hW (f := (hg o9)) ((hofv_10 ((200 + 4 * o9) + 1) (by omega) (by omega)).trans hHo.2.1) (i9 + 1) rfl (by omega) (by omega) dX5_add_49 ?_
          refine rm_ladd hx hb dX5_add_50 ?_
          refine rm_last hx hb hK hW hS (f := (tkn (i9 + 1) (fun q => hg h9 q + hg o9 q) (hg h9))) hv0_10 (i9 + 1) rfl (by omega) (by omega) dX5_add_51 (fun H locs ct_14 hs_14 ho_14 hW hS hz_14 => ?_)
          have hof_14 : ∀ q, q ≠ ((200 + 4 * h9) + 1) → q ≠ ((200 + 4 * h9) + 2) → ct_14 q = ct q := fun q h0_14 h1_14 => (ho_14 q h0_14).trans (hofv_10 q h0_14 h1_14)
          have hm1_14 : ct_14 ((200 + 4 * h9) + 2) = some (rl ty 8 (hf h9)) := (ho_14 ((200 + 4 * h9) + 2) (by omega)).trans hv1_10
          have hk_15 : ct_14 ((200 + 4 * h9) + 1) = some (rl ty 8 (tkn (i9 + 1 + 1) (fun q => hg h9 q + hg o9 q) (hg h9))) := hs_14.trans (congrArg (fun f => some (rl ty 8 f)) ((by rw [tkn_at]; exact tkn_s (i := i9 + 1) (w := (fun q => hg h9 q + hg o9 q)) (g := (hg h9)) (by omega))))
          refine lv_iinc (v := jI ((((i9 + 1) : Nat) : Int) + 1)) (lv' := [(5, .int (jI ((((i9 + 1) : Nat) : Int) + 1))), (0, .ref (ad 0)), (3, .ref (ad (200 + 4 * h9))), (4, .ref (ad (200 + 4 * o9)))]) hx hb dX5_add_52 hl (k := 3) rfl (jI_add _ _) (by decide) rfl (fun ls hl => ?_)
          refine lv_goto (tgt := 22) hx hb dX5_add_55 (by decide) ?_
          exact ih_LP (i9 + 1) (by omega) (by omega) ct_14 _ _ hk_15 trivial hm1_14 trivial hof_14 trivial hW hS ls (lv_sub hl [1, 2, 3, 0] rfl)
    exact LP ((yn (hy h9)) + 1) (0) (by omega) (by omega) ct _ _ (hHh.2.1.trans (congrArg (fun f => some (rl ty 8 f)) (tkn_0 _ _))) trivial hHh.2.2 trivial (fun _ _ _ => rfl) trivial hW hS ls (lv_sub hl [3, 2, 1, 0] rfl)
