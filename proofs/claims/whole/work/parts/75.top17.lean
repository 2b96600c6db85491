theorem HelpAt.partsTo {ty : Nat → ClassId} {ad : Nat → Nat} {ct ct1 : rm_C} {fu li so fa r : Nat → Int} {k on : Nat} {tr : Int} {T T2 : Nat → Nat → Int} (h : HelpAt ty ad ct) (hK : KindsAt ty ad ct1 5 fu li so fa T) (hP : PartsAt ty ad ct1 20 k on tr r T2) (ho : ∀ q, (q < 5 ∨ 30 < q) → ct1 q = ct q) : HelpAt ty ad ct1 := by
  obtain ⟨⟨rd, h1⟩, -, -⟩ := h
  exact ⟨⟨rd, h1.kept (fun q a b => ho q (by omega))⟩, ⟨fu, li, so, fa, T, hK⟩, ⟨k, on, tr, r, T2, hP⟩⟩
/-- the number of trees; the rounds; how many parts; one of them -/
def trs (n : Nat) (M : Nat → Nat → Int) (d : Nat → Int) (T : Nat → Nat → Int) : Int := (slv n (tfp n M d (fun _ => (0 : Int)) T n 0) (n - 1)).2
def rdp (n : Nat) (M : Nat → Nat → Int) (d : Nat → Int) (D : Int) (r : Nat → Int) (T : Nat → Nat → Int) : Nat → Int := mci (n - 1) (rdd (n - 1) D (pfp (n - 1) M d D T (n - 1) 0) r (n - 1)) (n - 1)
set_option maxHeartbeats 4000000 in
set_option maxRecDepth 100000 in
theorem c_X5_part (l : Launch) (hlf : l.stackTraces = false) (D : va_G) (ty : Nat → ClassId) (ad : Nat → Nat) (ct : rm_C) (sz : Nat) (yc hc : Nat) (yn : Nat → Nat) (yM : Nat → Nat → Nat → Int) (yd : Nat → Nat → Int) (yu : Nat → Int) (hy : Nat → Nat) (hg hf : Nat → Nat → Int) (hC : ClsAt ty ad ct yc hc yn yM yd yu hy hg hf) (hyn : ∀ y, y < yc → 2 ≤ yn y ∧ yn y ≤ 8) (hyM : ∀ y, y < yc → ∀ i j, 0 ≤ yM y i j ∧ yM y i j ≤ 3) (hyd : ∀ y, y < yc → ∀ i, i < 8 → 0 ≤ yd y i ∧ yd y i ≤ 21) (hsl : ∀ y, y < yc → jit (yn y) (yM y) (yn y - 1) = 2 ^ yn y - 1 → ∀ T, slr (yn y) (tfp (yn y) (yM y) (yd y) (fun _ => (0 : Int)) T (yn y) 0)) (htr : ∀ y, y < yc → jit (yn y) (yM y) (yn y - 1) = 2 ^ yn y - 1 → ∀ T, 1 ≤ trs (yn y) (yM y) (yd y) T ∧ trs (yn y) (yM y) (yd y) T ≤ 2147483648) (z9 w9 : Int) (hz9 : r32 z9) (hw9 : r32 w9) : vx_Met l yX5_part wsX5_part ({ frames := 7, cells := 2, slots := 12, locals := 140 }) (rm_PX D ty ad ct sz [.ref (ad 0), .int (jI z9), .int (jI w9)]) (rm_Ql D ad ct sz (fun z ct1 => ∃ (y9 : Nat) (T T2 : Nat → Nat → Int) (r R9 : Nat → Int), z9 = (y9 : Int) ∧ y9 < yc ∧ jit (yn y9) (yM y9) (yn y9 - 1) = 2 ^ yn y9 - 1 ∧ R9 = rdp (yn y9) (yM y9) (yd y9) (trs (yn y9) (yM y9) (yd y9) T) r T2 ∧ ((w9 = -1 ∧ z = ((yn y9 - 1 : Nat) : Int) - ((ons R9 (yn y9 - 1) : Nat) : Int)) ∨ ∃ i9 : Nat, w9 = (i9 : Int) ∧ ons R9 (yn y9 - 1) + i9 < yn y9 - 1 ∧ z = R9 (ons R9 (yn y9 - 1) + i9)) ∧ ClsAt ty ad ct1 yc hc yn yM yd yu hy hg hf)) (rm_XC D ad ct sz (fun E ct1 => (E = xNSE ∧ (z9 < 0 ∨ (yc : Int) ≤ z9) ∧ ct1 = ct) ∨ (E = xISE ∧ (∃ y9 : Nat, z9 = (y9 : Int) ∧ y9 < yc ∧ jit (yn y9) (yM y9) (yn y9 - 1) ≠ 2 ^ yn y9 - 1) ∧ ct1 = ct) ∨ (E = xNSE ∧ (∃ (y9 : Nat) (T T2 : Nat → Nat → Int) (r R9 : Nat → Int), z9 = (y9 : Int) ∧ y9 < yc ∧ jit (yn y9) (yM y9) (yn y9 - 1) = 2 ^ yn y9 - 1 ∧ R9 = rdp (yn y9) (yM y9) (yd y9) (trs (yn y9) (yM y9) (yd y9) T) r T2 ∧ (w9 ≠ -1 ∧ (w9 < 0 ∨ ((yn y9 - 1 : Nat) : Int) - ((ons R9 (yn y9 - 1) : Nat) : Int) ≤ w9))) ∧ ClsAt ty ad ct1 yc hc yn yM yd yu hy hg hf))) 2 12 (rm_A ad ct sz) := by
  refine vx_ofW (cc := cX5_part) (maxL := 5) (ret := (some .long)) (by decide) rfl ?_
  intro p e s m args below meth c s₁ B hml hout hv
  obtain ⟨hargs, ⟨hsz, hW, hK, hNw⟩, hE, hU⟩ := hv
  have hx := B.exec
  have hb := B.bytes
  have hr := B.returns
  have hts := atoms_spec (ws := wsX5_part) B.pre
  have hown : s.vm.findClass RX5 = some m.cls := findClass_of_methodNamed B.named
  have hlocks := B.notSynchronized
  subst hsz
  have hW := hW.own (sz := s.heap.size)
  have hA : ∀ q : Nat, s.heap.size ≤ q → rm_A ad ct s.heap.size q := fun q h => Or.inr h
  have hS : va_S (rm_A ad ct s.heap.size) s.heap s.heap [] := va_S.rf
  have hent : entryFrame m args 5 = entryFrame m ([.ref (ad 0), .int (jI z9), .int (jI w9)] : List Value).toArray 5 := by rw [hargs]
  have hl := lv_entry ([.ref (ad 0), .int (jI z9), .int (jI w9)]) (n := 5) (Nat.le_of_ble_eq_true rfl)
  rw [hent, lg_entry_eq]
  generalize (lg_sl ([.ref (ad 0), .int (jI z9), .int (jI w9)]) ++ List.replicate (5 - (lg_sl ([.ref (ad 0), .int (jI z9), .int (jI w9)])).length) Slot.unset).toArray = ls at hl ⊢
  have hl : lv_has ls 5 [(0, .ref (ad 0)), (1, .int (jI z9)), (2, .int (jI w9))] := hl
  refine lv_aload_n hx hb dX5_part_0 rfl (lv_at hl 0 rfl) ?_
  refine lv_iload_n hx hb dX5_part_1 rfl (lv_at hl 1 rfl) ?_
  refine rm_xcallr (vx_runV (As := [.int (jI z9)]) (rest := []) ⟨hx, hb, hml, hown, hts⟩ (c_X5_yardNumbered l hlf D ty ad ct s.heap.size yc hc yn yM yd yu hy hg hf hC z9 hz9) (cwV 1 hts gX5_part_X5_yardNumbered rfl rfl rfl (by decide +kernel) ⟨Nat.le_of_ble_eq_true rfl, Nat.le_of_ble_eq_true rfl⟩) (rm_preVX hK hNw hE hU hW hS hA hC.2.1.1 rfl) rfl rfl hl.1 rfl (lv_room (Nat.le_of_ble_eq_true rfl)) dX5_part_2 ⟨Nat.le_of_ble_eq_true rfl, Nat.le_of_ble_eq_true rfl⟩) hW hS hA hout hlocks (fun E ct1 h => Or.inl h) (Nat.le_of_ble_eq_true rfl) (Nat.le_of_ble_eq_true rfl) (fun z_1 ct_1 H locs hq_1 hW hS => ?_)
  obtain ⟨y9, hy1, hy2, hy3, hcc⟩ := hq_1
  have hcc := hcc.symm
  subst hcc hy3 hy1
  have hYy := hC.2.2.2.1 y9 hy2
  have hyn9 := hyn y9 hy2
  obtain ⟨hFi, ⟨fu, li, so, fa, T, hKi⟩, ⟨kp, on, tr, r, T2, hPa⟩⟩ := hC.2.2.1
  refine lv_astore_n (lv' := [(3, .ref (ad (40 + 16 * y9))), (0, .ref (ad 0)), (1, .int (jI ((y9 : Nat) : Int))), (2, .int (jI w9))]) hx hb dX5_part_5 rfl hl (by decide) rfl (fun ls hl => ?_)
  refine lv_aload_n hx hb dX5_part_6 rfl (lv_at hl 0 rfl) ?_
  refine rm_calli (va_runV (As := []) (rest := []) ⟨hx, hb, hml, hown, hts⟩ (c_X4_isJoined l D ty ad ct H.size (40 + 16 * y9) (yn y9) (yM y9) (yd y9) (yu y9) hyn9.2 hyn9.1 hYy (hyM _ hy2)) (cwV 0 hts gX5_part_X4_isJoined rfl rfl rfl (by decide +kernel) ⟨Nat.le_of_ble_eq_true rfl, Nat.le_of_ble_eq_true rfl⟩) (rm_preV hK hNw hW hYy.1 rfl) rfl rfl hl.1 rfl (lv_room (Nat.le_of_ble_eq_true rfl)) dX5_part_7 ⟨Nat.le_of_ble_eq_true rfl, Nat.le_of_ble_eq_true rfl⟩) hW hS hA (fun z_2 ct_2 H locs hq_2 hW hS => ?_)
  obtain ⟨hz, hcc_2⟩ := hq_2
  have hcc_2 := hcc_2.symm
  subst hcc_2
  have hzr : z_2 = 0 ∨ z_2 = 1 := by rw [hz]; by_cases h : jit (yn y9) (yM y9) (yn y9 - 1) = 2 ^ yn y9 - 1 <;> simp [h]
  refine rm_if_ne (tgt := 23) hx hb ⟨by omega, by omega⟩ dX5_part_10 (by decide) (fun hc_3 => ?_) (fun hc_3 => ?_)
  · skip
    have hj : jit (yn y9) (yM y9) (yn y9 - 1) = 2 ^ yn y9 - 1 := Classical.byContradiction fun h => by rw [if_neg h] at hz; omega
    refine lv_aload_n hx hb dX5_part_23 rfl (lv_at hl 1 rfl) ?_
    refine rm_get (ci := 5) (v := .ref (ad 20)) (C := RX5) (T := TX5) (N := 7) hx hb hts (by decide +kernel) hown hK hW hC.2.1.1 rfl 6 (by decide) (hts (.fieldLink RX5 45 "GrainYard" "parts" "LGrainYard$Parts;") (by decide +kernel)) (fun _ h9 => h9) rfl dX5_part_24 ?_
    refine lv_aload_n hx hb dX5_part_27 rfl (lv_at hl 0 rfl) ?_
    refine lv_aload_n hx hb dX5_part_28 rfl (lv_at hl 1 rfl) ?_
    refine rm_get (ci := 5) (v := .ref (ad 5)) (C := RX5) (T := TX5) (N := 7) hx hb hts (by decide +kernel) hown hK hW hC.2.1.1 rfl 5 (by decide) (hts (.fieldLink RX5 38 "GrainYard" "kinds" "LGrainYard$Kinds;") (by decide +kernel)) (fun _ h9 => h9) rfl dX5_part_29 ?_
    refine lv_aload_n hx hb dX5_part_32 rfl (lv_at hl 0 rfl) ?_
    refine rm_calll (va_runV (As := [.ref (ad (40 + 16 * y9))]) (rest := [.ref (ad (40 + 16 * y9)), .ref (ad 20)]) ⟨hx, hb, hml, hown, hts⟩ (c_X2_howMany l D ty ad ct H.size (40 + 16 * y9) (yn y9) (yM y9) (yd y9) (yu y9) 5 fu li so fa T hyn9 (hyM _ hy2) (hyd _ hy2) (fun h => hsl y9 hy2 h T) hYy hKi (by omega)) (cwV 1 hts gX5_part_X2_howMany rfl rfl rfl (by decide +kernel) ⟨Nat.le_of_ble_eq_true rfl, Nat.le_of_ble_eq_true rfl⟩) (rm_preV hK hNw hW hKi.1 rfl) rfl rfl hl.1 rfl (lv_room (Nat.le_of_ble_eq_true rfl)) dX5_part_33 ⟨Nat.le_of_ble_eq_true rfl, Nat.le_of_ble_eq_true rfl⟩) hW hS hA (fun z_4 ct_4 H locs hq_4 hW hS => ?_)
    obtain ⟨T1, hz9v, hq1, hq2⟩ := hq_4
    have hzt : z_4 = trs (yn y9) (yM y9) (yd y9) T := by rcases hz9v with h | h; exact h.2; exact absurd hj h.1
    have htr9 := htr y9 hy2 hj T
    rw [← hzt] at htr9
    have hPa2 : PartsAt ty ad ct 20 kp on tr r T2 := hPa
    have ho_4 : ∀ q, (q < 5 ∨ 5 + 14 < q) → ct_4 q = ct q := fun q h1 => hq2 q (by omega)
    have hof_4 : ∀ q, (q < 5 ∨ 5 + 14 < q) → (q < 20 ∨ 20 + 10 < q) → ct_4 q = ct q := fun q h0_4 h1_4 => (ho_4 q h0_4).trans rfl
    have hm0_4 : KindsAt ty ad ct_4 5 fu li so fa T1 := ⟨(hq2 _ (by omega)).trans hKi.1, (hq2 _ (by omega)).trans hKi.2.1, (hq2 _ (by omega)).trans hKi.2.2.1, (hq2 _ (by omega)).trans hKi.2.2.2.1, (hq2 _ (by omega)).trans hKi.2.2.2.2.1, (hq2 _ (by omega)).trans hKi.2.2.2.2.2.1, (hq2 _ (by omega)).trans hKi.2.2.2.2.2.2.1, hq1⟩
    have hm1_4 : PartsAt ty ad ct_4 20 kp on tr r T2 := PartsAt.kept hPa2 (fun q h1 h2 => ho_4 q (by omega))
    refine rm_calli (va_runV (As := [.ref (ad (40 + 16 * y9)), .long (jL z_4)]) (rest := []) ⟨hx, hb, hml, hown, hts⟩ (c_X3_split l D ty ad ct_4 H.size (40 + 16 * y9) (yn y9) (yM y9) (yd y9) (yu y9) 20 kp on tr r T2 z_4 htr9.1 htr9.2 hyn9 (hyM _ hy2) (hyd _ hy2) (hYy.kept (fun q a b => hof_4 q (by omega) (by omega))) hm1_4 (by omega)) (cwV 2 hts gX5_part_X3_split rfl rfl rfl (by decide +kernel) ⟨Nat.le_of_ble_eq_true rfl, Nat.le_of_ble_eq_true rfl⟩) (rm_preV hK hNw hW hm1_4.1 rfl) rfl rfl hl.1 rfl (lv_room (Nat.le_of_ble_eq_true rfl)) dX5_part_36 ⟨Nat.le_of_ble_eq_true rfl, Nat.le_of_ble_eq_true rfl⟩) hW hS hA (fun z_5 ct_5 H locs hq_5 hW hS => ?_)
    obtain ⟨R9, hR9, hz2, hPn, hq3⟩ := hq_5
    have hR9 : R9 = rdp (yn y9) (yM y9) (yd y9) (trs (yn y9) (yM y9) (yd y9) T) r T2 := by rw [hR9, hzt]; rfl
    have hone := ons_le R9 (yn y9 - 1)
    have ho_5 : ∀ q, (q < 20 ∨ 20 + 10 < q) → ct_5 q = ct_4 q := fun q h1 => hq3 q (by omega)
    have hof_5 : ∀ q, (q < 5 ∨ 5 + 14 < q) → (q < 20 ∨ 20 + 10 < q) → ct_5 q = ct q := fun q h0_5 h1_5 => (ho_5 q h1_5).trans (hof_4 q h0_5 h1_5)
    have hm0_5 : KindsAt ty ad ct_5 5 fu li so fa T1 := KindsAt.kept hm0_4 (fun q h1 h2 => ho_5 q (by omega))
    have hm1_5 : PartsAt ty ad ct_5 20 (yn y9 - 1) (ons R9 (yn y9 - 1)) z_4 R9 (spl (yn y9 - 1) z_4 (pfp (yn y9 - 1) (yM y9) (yd y9) z_4 T2 (yn y9 - 1) 0) (yn y9 - 1)) := hPn
    have hcl := hC.helpTo (fun q h => hof_5 q (by omega) (by omega)) (hC.2.2.1.partsTo hm0_5 hm1_5 (fun q h => hof_5 q (by omega) (by omega)))
    refine lv_istore (lv' := [(4, .int (jI z_5)), (3, .ref (ad (40 + 16 * y9))), (0, .ref (ad 0)), (1, .int (jI ((y9 : Nat) : Int))), (2, .int (jI w9))]) hx hb dX5_part_39 hl (by decide) rfl (fun ls hl => ?_)
    refine lv_iload_n hx hb dX5_part_41 rfl (lv_at hl 4 rfl) ?_
    refine lv_iconst (v := jI (-1)) hx hb dX5_part_42 rfl ?_
    refine rm_icmp_ne (tgt := 50) hx hb ⟨by omega, by omega⟩ ⟨by omega, by omega⟩ dX5_part_43 (by decide) (fun hc_6 => ?_) (fun hc_6 => ?_)
    · skip
      refine lv_iload_n hx hb dX5_part_50 rfl (lv_at hl 4 rfl) ?_
      refine rm_if_lt (tgt := 60) hx hb ⟨by omega, by omega⟩ dX5_part_51 (by decide) (fun hc_7 => ?_) (fun hc_7 => ?_)
      · skip
        exact rm_throwN (cls := "java/util/NoSuchElementException") (text := "no such part") (ct := ct_5) hx hb hlf hown (by decide +kernel) (hts (.classLink RX5 91 "java/util/NoSuchElementException") (by decide +kernel)) (hts (.initialized "java/util/NoSuchElementException") (by decide +kernel)) (fun w hw => hts w (by first | exact List.mem_cons_of_mem _ (List.mem_append_right _ hw) | exact List.mem_cons_of_mem _ (List.mem_append_left _ (List.mem_append_right _ hw)))) (by decide +kernel) (by decide +kernel) (by decide +kernel) hE hU hW hS (hl.1.trans hml.symm) dX5_part_60 dX5_part_63 dX5_part_64 dX5_part_66 dX5_part_69 hout (Nat.le_of_ble_eq_true rfl) (Nat.le_of_ble_eq_true rfl) (Nat.le_of_ble_eq_true rfl) (Nat.le_of_ble_eq_true rfl) hlocks (Or.inr (Or.inr ⟨rfl, ⟨y9, T, T2, r, R9, rfl, hy2, hj, hR9, by omega, Or.inl (by omega)⟩, hcl⟩)) (Nat.le_of_ble_eq_true rfl) (Nat.le_of_ble_eq_true rfl)
      · skip
        refine lv_iload_n hx hb dX5_part_54 rfl (lv_at hl 4 rfl) ?_
        refine lv_iload hx hb dX5_part_55 (lv_at hl 0 rfl) ?_
        refine rm_icmp_lt (tgt := 70) hx hb ⟨by omega, by omega⟩ ⟨by omega, by omega⟩ dX5_part_57 (by decide) (fun hc_8 => ?_) (fun hc_8 => ?_)
        · skip
          obtain ⟨i9, hi9⟩ : ∃ i9 : Nat, w9 = (i9 : Int) := ⟨w9.toNat, by omega⟩
          subst hi9
          refine lv_aload_n hx hb dX5_part_70 rfl (lv_at hl 2 rfl) ?_
          refine rm_get (ci := 5) (v := .ref (ad 20)) (C := RX5) (T := TX5) (N := 7) hx hb hts (by decide +kernel) hown hK hW ((hof_5 0 (by omega) (by omega)).trans hC.2.1.1) rfl 6 (by decide) (hts (.fieldLink RX5 45 "GrainYard" "parts" "LGrainYard$Parts;") (by decide +kernel)) (fun _ h9 => h9) rfl dX5_part_71 ?_
          refine lv_iload_n hx hb dX5_part_74 rfl (lv_at hl 4 rfl) ?_
          refine rm_calll (va_runV (As := [.int (jI ((i9 : Nat) : Int))]) (rest := []) ⟨hx, hb, hml, hown, hts⟩ (c_X3_told l D ty ad ct_5 H.size 20 (yn y9 - 1) (ons R9 (yn y9 - 1)) _ R9 _ i9 (by omega) (by omega) (by omega) hm1_5) (cwV 1 hts gX5_part_X3_told rfl rfl rfl (by decide +kernel) ⟨Nat.le_of_ble_eq_true rfl, Nat.le_of_ble_eq_true rfl⟩) (rm_preV hK hNw hW hm1_5.1 rfl) rfl rfl hl.1 rfl (lv_room (Nat.le_of_ble_eq_true rfl)) dX5_part_75 ⟨Nat.le_of_ble_eq_true rfl, Nat.le_of_ble_eq_true rfl⟩) hW hS hA (fun z_9 ct_9 H locs hq_9 hW hS => ?_)
          obtain ⟨hz, hcc_9⟩ := hq_9
          have hcc_9 := hcc_9.symm
          subst hcc_9
          rw [if_pos (by omega)] at hz
          refine vx_ret ?_
          refine W.widen (k := 2) (n := 12) (by omega) (by omega) ?_
          exact W.lret hx hb hr (fun t ht hw => ⟨⟨_, (z_9, ct_5), rfl, ⟨rfl, ⟨y9, T, T2, r, R9, rfl, hy2, hj, hR9, Or.inr ⟨i9, rfl, by omega, hz⟩, hcl⟩⟩, by show rm_W D ad _ _ t.heap; rw [ht]; exact hW⟩, hS.F ht⟩) hS.2.2 dX5_part_78
        · skip
          exact rm_throwN (cls := "java/util/NoSuchElementException") (text := "no such part") (ct := ct_5) hx hb hlf hown (by decide +kernel) (hts (.classLink RX5 91 "java/util/NoSuchElementException") (by decide +kernel)) (hts (.initialized "java/util/NoSuchElementException") (by decide +kernel)) (fun w hw => hts w (by first | exact List.mem_cons_of_mem _ (List.mem_append_right _ hw) | exact List.mem_cons_of_mem _ (List.mem_append_left _ (List.mem_append_right _ hw)))) (by decide +kernel) (by decide +kernel) (by decide +kernel) hE hU hW hS (hl.1.trans hml.symm) dX5_part_60 dX5_part_63 dX5_part_64 dX5_part_66 dX5_part_69 hout (Nat.le_of_ble_eq_true rfl) (Nat.le_of_ble_eq_true rfl) (Nat.le_of_ble_eq_true rfl) (Nat.le_of_ble_eq_true rfl) hlocks (Or.inr (Or.inr ⟨rfl, ⟨y9, T, T2, r, R9, rfl, hy2, hj, hR9, by omega, Or.inr (by omega)⟩, hcl⟩)) (Nat.le_of_ble_eq_true rfl) (Nat.le_of_ble_eq_true rfl)
    · skip
      refine lv_iload hx hb dX5_part_46 (lv_at hl 0 rfl) ?_
      refine rm_i2l hx hb dX5_part_48 ⟨by omega, by omega⟩ ?_
      refine vx_ret ?_
      refine W.widen (k := 2) (n := 12) (by omega) (by omega) ?_
      exact W.lret hx hb hr (fun t ht hw => ⟨⟨_, (z_5, ct_5), rfl, ⟨rfl, ⟨y9, T, T2, r, R9, rfl, hy2, hj, hR9, Or.inl ⟨by omega, hz2⟩, hcl⟩⟩, by show rm_W D ad _ _ t.heap; rw [ht]; exact hW⟩, hS.F ht⟩) hS.2.2 dX5_part_49
  · skip
    have hj : jit (yn y9) (yM y9) (yn y9 - 1) ≠ 2 ^ yn y9 - 1 := fun h => by rw [if_pos h] at hz; omega
    exact rm_throw (cls := "java/lang/IllegalStateException") (text := "the yard isn't whole") (ct := ct) hx hb hlf hown (by decide +kernel) (hts (.classLink RX5 80 "java/lang/IllegalStateException") (by decide +kernel)) (hts (.initialized "java/lang/IllegalStateException") (by decide +kernel)) (fun w hw => hts w (by first | exact List.mem_cons_of_mem _ (List.mem_append_right _ hw) | exact List.mem_cons_of_mem _ (List.mem_append_left _ (List.mem_append_right _ hw)))) (by decide +kernel) (by decide +kernel) (by decide +kernel) hE hU hW hS (hl.1.trans hml.symm) dX5_part_13 dX5_part_16 dX5_part_17 dX5_part_19 dX5_part_22 hout (Nat.le_of_ble_eq_true rfl) (Nat.le_of_ble_eq_true rfl) (Nat.le_of_ble_eq_true rfl) (Nat.le_of_ble_eq_true rfl) hlocks (Or.inr (Or.inl ⟨rfl, ⟨y9, rfl, hy2, hj⟩, rfl⟩)) (Nat.le_of_ble_eq_true rfl) (Nat.le_of_ble_eq_true rfl)
