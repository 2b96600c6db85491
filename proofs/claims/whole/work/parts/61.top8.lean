set_option maxHeartbeats 4000000 in
set_option maxRecDepth 100000 in
theorem c_X5_whole (l : Launch) (hlf : l.stackTraces = false) (D : va_G) (ty : Nat → ClassId) (ad : Nat → Nat) (ct : rm_C) (sz : Nat) (yc hc : Nat) (yn : Nat → Nat) (yM : Nat → Nat → Nat → Int) (yd : Nat → Nat → Int) (yu : Nat → Int) (hy : Nat → Nat) (hg hf : Nat → Nat → Int) (hC : ClsAt ty ad ct yc hc yn yM yd yu hy hg hf) (hyn : ∀ y, y < yc → 2 ≤ yn y ∧ yn y ≤ 8) (hyM : ∀ y, y < yc → ∀ i j, 0 ≤ yM y i j ∧ yM y i j ≤ 3) (hyd : ∀ y, y < yc → ∀ i, i < 8 → 0 ≤ yd y i ∧ yd y i ≤ 21) (z9 : Int) (hz9 : r32 z9) : vx_Met l yX5_whole wsX5_whole ({ frames := 7, cells := 1, slots := 6, locals := 104 }) (rm_PX D ty ad ct sz [.ref (ad 0), .int (jI z9)]) (rm_Qi D ad ct sz (fun z ct1 => ∃ y9 : Nat, z9 = (y9 : Int) ∧ y9 < yc ∧ z = (if jit (yn y9) (yM y9) (yn y9 - 1) = 2 ^ yn y9 - 1 then 1 else 0) ∧ ct1 = ct)) (rm_XC D ad ct sz (fun E ct1 => E = xNSE ∧ (z9 < 0 ∨ (yc : Int) ≤ z9) ∧ ct1 = ct)) 1 6 (rm_A ad ct sz) := by
  refine vx_ofW (cc := cX5_whole) (maxL := 2) (ret := (some .boolean)) (by decide) rfl ?_
  intro p e s m args below meth c s₁ B hml hout hv
  obtain ⟨hargs, ⟨hsz, hW, hK, hNw⟩, hE, hU⟩ := hv
  have hx := B.exec
  have hb := B.bytes
  have hr := B.returns
  have hts := atoms_spec (ws := wsX5_whole) B.pre
  have hown : s.vm.findClass RX5 = some m.cls := findClass_of_methodNamed B.named
  have hlocks := B.notSynchronized
  subst hsz
  have hW := hW.own (sz := s.heap.size)
  have hA : ∀ q : Nat, s.heap.size ≤ q → rm_A ad ct s.heap.size q := fun q h => Or.inr h
  have hS : va_S (rm_A ad ct s.heap.size) s.heap s.heap [] := va_S.rf
  have hent : entryFrame m args 2 = entryFrame m ([.ref (ad 0), .int (jI z9)] : List Value).toArray 2 := by rw [hargs]
  have hl := lv_entry ([.ref (ad 0), .int (jI z9)]) (n := 2) (Nat.le_of_ble_eq_true rfl)
  rw [hent, lg_entry_eq]
  generalize (lg_sl ([.ref (ad 0), .int (jI z9)]) ++ List.replicate (2 - (lg_sl ([.ref (ad 0), .int (jI z9)])).length) Slot.unset).toArray = ls at hl ⊢
  have hl : lv_has ls 2 [(0, .ref (ad 0)), (1, .int (jI z9))] := hl
  refine lv_aload_n hx hb dX5_whole_0 rfl (lv_at hl 0 rfl) ?_
  refine lv_iload_n hx hb dX5_whole_1 rfl (lv_at hl 1 rfl) ?_
  refine rm_xcallr (vx_runV (As := [.int (jI z9)]) (rest := []) ⟨hx, hb, hml, hown, hts⟩ (c_X5_yardNumbered l hlf D ty ad ct s.heap.size yc hc yn yM yd yu hy hg hf hC z9 hz9) (cwV 1 hts gX5_whole_X5_yardNumbered rfl rfl rfl (by decide +kernel) ⟨Nat.le_of_ble_eq_true rfl, Nat.le_of_ble_eq_true rfl⟩) (rm_preVX hK hNw hE hU hW hS hA hC.2.1.1 rfl) rfl rfl hl.1 rfl (lv_room (Nat.le_of_ble_eq_true rfl)) dX5_whole_2 ⟨Nat.le_of_ble_eq_true rfl, Nat.le_of_ble_eq_true rfl⟩) hW hS hA hout hlocks (fun E ct1 h => h) (Nat.le_of_ble_eq_true rfl) (Nat.le_of_ble_eq_true rfl) (fun z_1 ct_1 H locs hq_1 hW hS => ?_)
  obtain ⟨y9, hy1, hy2, hy3, hcc⟩ := hq_1
  have hcc := hcc.symm
  subst hcc hy3 hy1
  have hYy := hC.2.2.2.1 y9 hy2
  have hyn9 := hyn y9 hy2
  refine rm_calli (va_runV (As := []) (rest := []) ⟨hx, hb, hml, hown, hts⟩ (c_X4_isJoined l D ty ad ct H.size (40 + 16 * y9) (yn y9) (yM y9) (yd y9) (yu y9) hyn9.2 hyn9.1 hYy (hyM _ hy2)) (cwV 0 hts gX5_whole_X4_isJoined rfl rfl rfl (by decide +kernel) ⟨Nat.le_of_ble_eq_true rfl, Nat.le_of_ble_eq_true rfl⟩) (rm_preV hK hNw hW hYy.1 rfl) rfl rfl hl.1 rfl (lv_room (Nat.le_of_ble_eq_true rfl)) dX5_whole_5 ⟨Nat.le_of_ble_eq_true rfl, Nat.le_of_ble_eq_true rfl⟩) hW hS hA (fun z_2 ct_2 H locs hq_2 hW hS => ?_)
  obtain ⟨hz, hcc_2⟩ := hq_2
  have hcc_2 := hcc_2.symm
  subst hcc_2
  by_cases hj : jit (yn y9) (yM y9) (yn y9 - 1) = 2 ^ yn y9 - 1
  · skip
    rw [if_pos hj] at hz
    subst hz
    refine vx_ret ?_
    refine W.widen (k := 1) (n := 6) (by omega) (by omega) ?_
    exact W.zret hx hb hr (by decide) (fun t ht hw => ⟨⟨_, (1, ct), rfl, ⟨rfl, ⟨y9, rfl, hy2, (if_pos hj).symm, rfl⟩⟩, by show rm_W D ad _ _ t.heap; rw [ht]; exact hW⟩, hS.F ht⟩) hS.2.2 dX5_whole_8
  · skip
    rw [if_neg hj] at hz
    subst hz
    refine vx_ret ?_
    refine W.widen (k := 1) (n := 6) (by omega) (by omega) ?_
    exact W.zret hx hb hr (by decide) (fun t ht hw => ⟨⟨_, (0, ct), rfl, ⟨rfl, ⟨y9, rfl, hy2, (if_neg hj).symm, rfl⟩⟩, by show rm_W D ad _ _ t.heap; rw [ht]; exact hW⟩, hS.F ht⟩) hS.2.2 dX5_whole_8
