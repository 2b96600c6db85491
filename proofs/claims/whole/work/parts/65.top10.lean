set_option maxHeartbeats 4000000 in
set_option maxRecDepth 100000 in
theorem c_X5_trees (l : Launch) (hlf : l.stackTraces = false) (D : va_G) (ty : Nat → ClassId) (ad : Nat → Nat) (ct : rm_C) (sz : Nat) (yc hc : Nat) (yn : Nat → Nat) (yM : Nat → Nat → Nat → Int) (yd : Nat → Nat → Int) (yu : Nat → Int) (hy : Nat → Nat) (hg hf : Nat → Nat → Int) (hC : ClsAt ty ad ct yc hc yn yM yd yu hy hg hf) (hyn : ∀ y, y < yc → 2 ≤ yn y ∧ yn y ≤ 8) (hyM : ∀ y, y < yc → ∀ i j, 0 ≤ yM y i j ∧ yM y i j ≤ 3) (hyd : ∀ y, y < yc → ∀ i, i < 8 → 0 ≤ yd y i ∧ yd y i ≤ 21) (hsl : ∀ y, y < yc → jit (yn y) (yM y) (yn y - 1) = 2 ^ yn y - 1 → ∀ T, slr (yn y) (tfp (yn y) (yM y) (yd y) (fun _ => (0 : Int)) T (yn y) 0)) (z9 : Int) (hz9 : r32 z9) : vx_Met l yX5_trees wsX5_trees ({ frames := 7, cells := 1, slots := 6, locals := 104 }) (rm_PX D ty ad ct sz [.ref (ad 0), .int (jI z9)]) (rm_Ql D ad ct sz (fun z ct1 => ∃ (y9 : Nat) (T : Nat → Nat → Int), z9 = (y9 : Int) ∧ y9 < yc ∧ ((jit (yn y9) (yM y9) (yn y9 - 1) = 2 ^ yn y9 - 1 ∧ z = (slv (yn y9) (tfp (yn y9) (yM y9) (yd y9) (fun _ => (0 : Int)) T (yn y9) 0) (yn y9 - 1)).2) ∨ (jit (yn y9) (yM y9) (yn y9 - 1) ≠ 2 ^ yn y9 - 1 ∧ z = 0)) ∧ ClsAt ty ad ct1 yc hc yn yM yd yu hy hg hf)) (rm_XC D ad ct sz (fun E ct1 => E = xNSE ∧ (z9 < 0 ∨ (yc : Int) ≤ z9) ∧ ct1 = ct)) 1 6 (rm_A ad ct sz) := by
  refine vx_ofW (cc := cX5_trees) (maxL := 2) (ret := (some .long)) (by decide) rfl ?_
  intro p e s m args below meth c s₁ B hml hout hv
  obtain ⟨hargs, ⟨hsz, hW, hK, hNw⟩, hE, hU⟩ := hv
  have hx := B.exec
  have hb := B.bytes
  have hr := B.returns
  have hts := atoms_spec (ws := wsX5_trees) B.pre
  have hown : s.vm.findClass RX5 = some m.cls := findClass_of_methodNamed B.named
  have hlocks := B.notSynchronized
  subst hsz
  have hW := hW.own (sz := s.heap.size)
  have hA : ∀ q : Nat, s.heap.size ≤ q → rm_A ad ct s.heap.size q := fun q h => Or.inr h
  have hS : va_S (rm_A ad ct s.heap.size) s.heap s.heap [] := va_S.rf
  have hent : entryFrame m args 2 = entryFrame m ([.ref (ad 0), .int (jI z9)] : List Value).toArray 2 := by rw [hargs]
  have hl := lv_entry ([.ref (ad 0), .int (jI z9)]) (n := 2) (Nat.le_of_ble_eq_true rfl)
  rw [hent, lg_entry_eq]
  generalize (lg_sl ([.ref (ad 0), .int (jI z9)]) ++ List.replicate (2 - (lg_sl ([.ref (ad 0), .int (jI z9)])).length) Slot.unset).toArray = ls at hl ⊢
  have hl : lv_has ls 2 [(0, .ref (ad 0)), (1, .int (jI z9))] := hl
  refine lv_aload_n hx hb dX5_trees_0 rfl (lv_at hl 0 rfl) ?_
  refine rm_get (ci := 5) (v := .ref (ad 5)) (C := RX5) (T := TX5) (N := 7) hx hb hts (by decide +kernel) hown hK hW hC.2.1.1 rfl 5 (by decide) (hts (.fieldLink RX5 38 "GrainYard" "kinds" "LGrainYard$Kinds;") (by decide +kernel)) (fun _ h9 => h9) rfl dX5_trees_1 ?_
  refine lv_aload_n hx hb dX5_trees_4 rfl (lv_at hl 0 rfl) ?_
  refine lv_iload_n hx hb dX5_trees_5 rfl (lv_at hl 1 rfl) ?_
  refine rm_xcallr (vx_runV (As := [.int (jI z9)]) (rest := [.ref (ad 5)]) ⟨hx, hb, hml, hown, hts⟩ (c_X5_yardNumbered l hlf D ty ad ct s.heap.size yc hc yn yM yd yu hy hg hf hC z9 hz9) (cwV 1 hts gX5_trees_X5_yardNumbered rfl rfl rfl (by decide +kernel) ⟨Nat.le_of_ble_eq_true rfl, Nat.le_of_ble_eq_true rfl⟩) (rm_preVX hK hNw hE hU hW hS hA hC.2.1.1 rfl) rfl rfl hl.1 rfl (lv_room (Nat.le_of_ble_eq_true rfl)) dX5_trees_6 ⟨Nat.le_of_ble_eq_true rfl, Nat.le_of_ble_eq_true rfl⟩) hW hS hA hout hlocks (fun E ct1 h => h) (Nat.le_of_ble_eq_true rfl) (Nat.le_of_ble_eq_true rfl) (fun z_1 ct_1 H locs hq_1 hW hS => ?_)
  obtain ⟨y9, hy1, hy2, hy3, hcc⟩ := hq_1
  have hcc := hcc.symm
  subst hcc hy3 hy1
  have hYy := hC.2.2.2.1 y9 hy2
  have hyn9 := hyn y9 hy2
  obtain ⟨hFi, ⟨fu, li, so, fa, T, hKi⟩, hPa⟩ := hC.2.2.1
  refine rm_calll (va_runV (As := [.ref (ad (40 + 16 * y9))]) (rest := []) ⟨hx, hb, hml, hown, hts⟩ (c_X2_howMany l D ty ad ct H.size (40 + 16 * y9) (yn y9) (yM y9) (yd y9) (yu y9) 5 fu li so fa T hyn9 (hyM _ hy2) (hyd _ hy2) (fun h => hsl y9 hy2 h T) hYy hKi (by omega)) (cwV 1 hts gX5_trees_X2_howMany rfl rfl rfl (by decide +kernel) ⟨Nat.le_of_ble_eq_true rfl, Nat.le_of_ble_eq_true rfl⟩) (rm_preV hK hNw hW hKi.1 rfl) rfl rfl hl.1 rfl (lv_room (Nat.le_of_ble_eq_true rfl)) dX5_trees_9 ⟨Nat.le_of_ble_eq_true rfl, Nat.le_of_ble_eq_true rfl⟩) hW hS hA (fun z_2 ct_2 H locs hq_2 hW hS => ?_)
  obtain ⟨T1, hz9v, hq1, hq2⟩ := hq_2
  have ho_2 : ∀ q, (q < 5 ∨ 5 + 14 < q) → ct_2 q = ct q := fun q h1 => hq2 q (by omega)
  have hof_2 : ∀ q, (q < 5 ∨ 5 + 14 < q) → ct_2 q = ct q := fun q h0_2 => (ho_2 q h0_2).trans rfl
  have hm0_2 : KindsAt ty ad ct_2 5 fu li so fa T1 := ⟨(hq2 _ (by omega)).trans hKi.1, (hq2 _ (by omega)).trans hKi.2.1, (hq2 _ (by omega)).trans hKi.2.2.1, (hq2 _ (by omega)).trans hKi.2.2.2.1, (hq2 _ (by omega)).trans hKi.2.2.2.2.1, (hq2 _ (by omega)).trans hKi.2.2.2.2.2.1, (hq2 _ (by omega)).trans hKi.2.2.2.2.2.2.1, hq1⟩
  have hcl := hC.helpTo (fun q h => hof_2 q (by omega)) ⟨hFi.elim fun rd h => ⟨rd, h.kept (fun q a b => hof_2 q (by omega))⟩, ⟨fu, li, so, fa, T1, hm0_2⟩, by obtain ⟨k1, k2, k3, k4, k5, h⟩ := hPa; exact ⟨k1, k2, k3, k4, k5, h.kept (fun q a b => hof_2 q (by omega))⟩⟩
  refine vx_ret ?_
  refine W.widen (k := 1) (n := 6) (by omega) (by omega) ?_
  exact W.lret hx hb hr (fun t ht hw => ⟨⟨_, (z_2, ct_2), rfl, ⟨rfl, ⟨y9, T, rfl, hy2, hz9v, hcl⟩⟩, by show rm_W D ad _ _ t.heap; rw [ht]; exact hW⟩, hS.F ht⟩) hS.2.2 dX5_trees_12
