def rm_Qia (D : va_G) (ad : Nat → Nat) (ct : rm_C) (sz : Nat) (post : Int → rm_C → (Nat → Nat) → Prop) : Array Value → State → Outcome → State → Prop := va_Qi (fun (r : Int32) (u : Int × rm_C × (Nat → Nat)) => r = jI u.1 ∧ post u.1 u.2.1 u.2.2) (fun u t => rm_W D u.2.2 u.2.1 (rm_A ad ct sz) t.heap) (rm_A ad ct sz)
set_option maxHeartbeats 4000000 in
set_option maxRecDepth 100000 in
theorem c_X5_heap (l : Launch) (hlf : l.stackTraces = false) (D : va_G) (ty : Nat → ClassId) (ad : Nat → Nat) (ct : rm_C) (sz : Nat) (yc hc : Nat) (yn : Nat → Nat) (yM : Nat → Nat → Nat → Int) (yd : Nat → Nat → Int) (yu : Nat → Int) (hy : Nat → Nat) (hg hf : Nat → Nat → Int) (hC : ClsAt ty ad ct yc hc yn yM yd yu hy hg hf) (hyn : ∀ y, y < yc → 2 ≤ yn y ∧ yn y ≤ 8) (hyM : ∀ y, y < yc → ∀ i j, 0 ≤ yM y i j ∧ yM y i j ≤ 3) (hyd : ∀ y, y < yc → ∀ i, i < 8 → 0 ≤ yd y i ∧ yd y i ≤ 21) (z9 : Int) (hz9 : r32 z9) : vx_Met l yX5_heap wsX5_heap ({ frames := 7, cells := 4, slots := 25, locals := 104 }) (rm_PX D ty ad ct sz [.ref (ad 0), .int (jI z9)]) (rm_Qia D ad ct sz (fun z ct1 ad1 => ∃ y9 : Nat, z9 = (y9 : Int) ∧ y9 < yc ∧ (((20 ≤ hc ∨ jit (yn y9) (yM y9) (yn y9 - 1) ≠ 2 ^ yn y9 - 1) ∧ z = -1 ∧ ct1 = ct ∧ ad1 = ad) ∨ (hc < 20 ∧ jit (yn y9) (yM y9) (yn y9 - 1) = 2 ^ yn y9 - 1 ∧ z = (hc : Int) ∧ (∀ r, (r < 200 + 4 * hc ∨ 200 + 4 * hc + 2 < r) → ad1 r = ad r) ∧ ClsAt ty ad1 ct1 yc (hc + 1) yn yM yd (us yu y9 1) (us hy hc y9) (us hg hc (fun _ => 0)) (us hf hc (fun _ => 0)))))) (rm_XC D ad ct sz (fun E ct1 => E = xNSE ∧ (z9 < 0 ∨ (yc : Int) ≤ z9) ∧ ct1 = ct)) 4 25 (rm_A ad ct sz) := by
  refine vx_ofW (cc := cX5_heap) (maxL := 3) (ret := (some .int)) (by decide) rfl ?_
  intro p e s m args below meth c s₁ B hml hout hv
  obtain ⟨hargs, ⟨hsz, hW, hK, hNw⟩, hE, hU⟩ := hv
  have hx := B.exec
  have hb := B.bytes
  have hr := B.returns
  have hts := atoms_spec (ws := wsX5_heap) B.pre
  have hown : s.vm.findClass RX5 = some m.cls := findClass_of_methodNamed B.named
  have hlocks := B.notSynchronized
  subst hsz
  have hW := hW.own (sz := s.heap.size)
  have hA : ∀ q : Nat, s.heap.size ≤ q → rm_A ad ct s.heap.size q := fun q h => Or.inr h
  have hS : va_S (rm_A ad ct s.heap.size) s.heap s.heap [] := va_S.rf
  have hent : entryFrame m args 3 = entryFrame m ([.ref (ad 0), .int (jI z9)] : List Value).toArray 3 := by rw [hargs]
  have hl := lv_entry ([.ref (ad 0), .int (jI z9)]) (n := 3) (Nat.le_of_ble_eq_true rfl)
  rw [hent, lg_entry_eq]
  generalize (lg_sl ([.ref (ad 0), .int (jI z9)]) ++ List.replicate (3 - (lg_sl ([.ref (ad 0), .int (jI z9)])).length) Slot.unset).toArray = ls at hl ⊢
  have hl : lv_has ls 3 [(0, .ref (ad 0)), (1, .int (jI z9))] := hl
  refine lv_aload_n hx hb dX5_heap_0 rfl (lv_at hl 0 rfl) ?_
  refine lv_iload_n hx hb dX5_heap_1 rfl (lv_at hl 1 rfl) ?_
  refine rm_xcallr (vx_runV (As := [.int (jI z9)]) (rest := []) ⟨hx, hb, hml, hown, hts⟩ (c_X5_yardNumbered l hlf D ty ad ct s.heap.size yc hc yn yM yd yu hy hg hf hC z9 hz9) (cwV 1 hts gX5_heap_X5_yardNumbered rfl rfl rfl (by decide +kernel) ⟨Nat.le_of_ble_eq_true rfl, Nat.le_of_ble_eq_true rfl⟩) (rm_preVX hK hNw hE hU hW hS hA hC.2.1.1 rfl) rfl rfl hl.1 rfl (lv_room (Nat.le_of_ble_eq_true rfl)) dX5_heap_2 ⟨Nat.le_of_ble_eq_true rfl, Nat.le_of_ble_eq_true rfl⟩) hW hS hA hout hlocks (fun E ct1 h => h) (Nat.le_of_ble_eq_true rfl) (Nat.le_of_ble_eq_true rfl) (fun z_1 ct_1 H locs hq_1 hW hS => ?_)
  obtain ⟨y9, hy1, hy2, hy3, hcc⟩ := hq_1
  have hcc := hcc.symm
  subst hcc hy3 hy1
  have hYy := hC.2.2.2.1 y9 hy2
  have hyn9 := hyn y9 hy2
  have hb6 := hC.1.1
  have hb20 := hC.1.2
  refine lv_astore_n (lv' := [(2, .ref (ad (40 + 16 * y9))), (0, .ref (ad 0)), (1, .int (jI ((y9 : Nat) : Int)))]) hx hb dX5_heap_5 rfl hl (by decide) rfl (fun ls hl => ?_)
  refine lv_aload_n hx hb dX5_heap_6 rfl (lv_at hl 1 rfl) ?_
  refine rm_get (ci := 5) (v := .int (jI ((hc : Nat) : Int))) (C := RX5) (T := TX5) (N := 7) hx hb hts (by decide +kernel) hown hK hW hC.2.1.1 rfl 3 (by decide) (hts (.fieldLink RX5 25 "GrainYard" "heapCount" "I") (by decide +kernel)) (fun _ h9 => h9) rfl dX5_heap_7 ?_
  refine lv_bipush (v := jI 20) hx hb dX5_heap_10 (by decide) ?_
  refine rm_icmp_ge (tgt := 22) hx hb ⟨by omega, by omega⟩ ⟨by omega, by omega⟩ dX5_heap_12 (by decide) (fun hc_2 => ?_) (fun hc_2 => ?_)
  · skip
    refine lv_iconst (v := jI (-1)) hx hb dX5_heap_22 rfl ?_
    refine vx_ret ?_
    refine W.widen (k := 4) (n := 25) (by omega) (by omega) ?_
    exact W.iret hx hb hr (fun t ht hw => ⟨⟨_, ((-1), ct, ad), rfl, ⟨rfl, ⟨y9, rfl, hy2, Or.inl ⟨Or.inl (by omega), rfl, rfl, rfl⟩⟩⟩, by show rm_W D ad _ _ t.heap; rw [ht]; exact hW⟩, hS.F ht⟩) hS.2.2 dX5_heap_23
  · skip
    refine lv_aload_n hx hb dX5_heap_15 rfl (lv_at hl 0 rfl) ?_
    refine rm_calli (va_runV (As := []) (rest := []) ⟨hx, hb, hml, hown, hts⟩ (c_X4_isJoined l D ty ad ct H.size (40 + 16 * y9) (yn y9) (yM y9) (yd y9) (yu y9) hyn9.2 hyn9.1 hYy (hyM _ hy2)) (cwV 0 hts gX5_heap_X4_isJoined rfl rfl rfl (by decide +kernel) ⟨Nat.le_of_ble_eq_true rfl, Nat.le_of_ble_eq_true rfl⟩) (rm_preV hK hNw hW hYy.1 rfl) rfl rfl hl.1 rfl (lv_room (Nat.le_of_ble_eq_true rfl)) dX5_heap_16 ⟨Nat.le_of_ble_eq_true rfl, Nat.le_of_ble_eq_true rfl⟩) hW hS hA (fun z_3 ct_3 H locs hq_3 hW hS => ?_)
    obtain ⟨hz, hcc_3⟩ := hq_3
    have hcc_3 := hcc_3.symm
    subst hcc_3
    have hzr : z_3 = 0 ∨ z_3 = 1 := by rw [hz]; by_cases h : jit (yn y9) (yM y9) (yn y9 - 1) = 2 ^ yn y9 - 1 <;> simp [h]
    refine rm_if_ne (tgt := 24) hx hb ⟨by omega, by omega⟩ dX5_heap_19 (by decide) (fun hc_4 => ?_) (fun hc_4 => ?_)
    · skip
      have hj : jit (yn y9) (yM y9) (yn y9 - 1) = 2 ^ yn y9 - 1 := Classical.byContradiction fun h => by rw [if_neg h] at hz; omega
      have habs : ∀ i9, i9 < 3 → ct (200 + 4 * hc + i9) = none := fun i9 h9 => hC.2.2.2.2.2.2 hc (Nat.le_refl _) (by omega) i9 (by omega)
      obtain ⟨ad2, had2⟩ : ∃ ad2 : Nat → Nat, ad2 = fun r => if 200 + 4 * hc ≤ r ∧ r ≤ 200 + 4 * hc + 2 then H.size + (r - (200 + 4 * hc)) else ad r := ⟨_, rfl⟩
      have hre : ∀ r, (r < 200 + 4 * hc ∨ 200 + 4 * hc + 2 < r) → ad2 r = ad r := fun r h => by rw [had2]; exact if_neg (by omega)
      have hnw : ∀ j, j ≤ 2 → ad2 (200 + 4 * hc + j) = H.size + j := fun j h => by rw [had2]; dsimp only; rw [if_pos (by omega)]; omega
      have hW := hW.re (ad' := ad2) (fun r e hr => hre r (by
        rcases Nat.lt_or_ge r (200 + 4 * hc) with h | h
        · exact Or.inl h
        · rcases Nat.lt_or_ge (200 + 4 * hc + 2) r with h2 | h2
          · exact Or.inr h2
          · have h3 := habs (r - (200 + 4 * hc)) (by omega)
            rw [show 200 + 4 * hc + (r - (200 + 4 * hc)) = r by omega, hr] at h3
            cases h3))
      have hC := hC.re (fun r h => hre r (Or.inl h))
      have hl : lv_has ls 3 [(2, .ref (ad2 (40 + 16 * y9))), (0, .ref (ad2 0)), (1, .int (jI ((y9 : Nat) : Int)))] := by rw [hre 0 (by omega), hre (40 + 16 * y9) (by omega)]; exact hl
      clear had2
      obtain ⟨ad, hada⟩ : ∃ a : Nat → Nat, a = ad2 := ⟨ad2, rfl⟩
      subst hada
      have hYy := hC.2.2.2.1 y9 hy2
      refine lv_aload_n hx hb dX5_heap_24 rfl (lv_at hl 0 rfl) ?_
      refine lv_iconst (v := jI 1) hx hb dX5_heap_25 rfl ?_
      refine rm_put (ci := 4) (v := .int (jI 1)) (fty := .boolean) (C := RX4) (T := TX4) (N := 4) hx hb hts (by decide +kernel) tyX4 tyX4_ok nmX4 hown hK hW hS hYy.1 rfl 3 (by decide) (hts (.fieldLink RX5 60 "GrainYard$Yard" "fixed" "Z") (by decide +kernel)) (fun _ h9 => h9) rfl (by decide +kernel) (by decide) (by decide) (Nat.le_of_ble_eq_true rfl) dX5_heap_26 (fun H locs ct_5 hs_5 ho_5 hW hS hz_5 => ?_)
      have hs_5 : ct_5 (40 + 16 * y9) = some (.inr (4, [.int (jI (((yn y9) : Nat) : Int)), .ref (ad ((40 + 16 * y9) + 1)), .ref (ad ((40 + 16 * y9) + 10)), .int (jI 1)]) : va_E) := hs_5
      have hof_5 : ∀ q, q ≠ 0 → q ≠ 2 → q ≠ (40 + 16 * y9) → (q < 200 + 4 * hc ∨ 200 + 4 * hc + 2 < q) → ct_5 q = ct q := fun q h0_5 h1_5 h2_5 h3_5 => (ho_5 q h2_5).trans rfl
      have hm0_5 : ct_5 0 = some (.inr (5, [.ref (ad 1), .ref (ad 2), .int (jI ((yc : Nat) : Int)), .int (jI ((hc : Nat) : Int)), .ref (ad 3), .ref (ad 5), .ref (ad 20)]) : va_E) := (ho_5 0 (by omega)).trans hC.2.1.1
      have hm1_5 : ct_5 2 = some (rq ty 4 20 (fun i => if i < hc then some (ad (200 + 4 * i)) else none)) := (ho_5 2 (by omega)).trans hC.2.1.2.2
      have hab0_5 : ∀ i9, i9 < 3 → ct_5 (200 + 4 * hc + i9) = none := fun i9 hi9 => (ho_5 _  (by omega)).trans (habs i9 hi9)
      refine lv_aload_n hx hb dX5_heap_29 rfl (lv_at hl 1 rfl) ?_
      refine rm_get (ci := 5) (v := .ref (ad 2)) (C := RX5) (T := TX5) (N := 7) hx hb hts (by decide +kernel) hown hK hW hm0_5 rfl 1 (by decide) (hts (.fieldLink RX5 17 "GrainYard" "heaps" "[LGrainYard$Heap;") (by decide +kernel)) (fun _ h9 => h9) rfl dX5_heap_30 ?_
      refine lv_aload_n hx hb dX5_heap_33 rfl (lv_at hl 1 rfl) ?_
      refine rm_get (ci := 5) (v := .int (jI ((hc : Nat) : Int))) (C := RX5) (T := TX5) (N := 7) hx hb hts (by decide +kernel) hown hK hW hm0_5 rfl 3 (by decide) (hts (.fieldLink RX5 25 "GrainYard" "heapCount" "I") (by decide +kernel)) (fun _ h9 => h9) rfl dX5_heap_34 ?_
      have hfs_6 : ∀ j, j < 3 → defaultValue (tyX1 j) = vp_V [.null, .null, .null] j := fun j h9 => by
        rcases (show j = 0 ∨ j = 1 ∨ j = 2 by omega) with rfl | rfl | rfl <;> rfl
      refine rm_new (ci := 1) (C := RX1) (T := TX1) (N := 3) (fs := [.null, .null, .null]) hx hb hts (by decide +kernel) tyX1 tyX1_ok hown (hts (.classLink RX5 15 RX1) (by decide +kernel)) (hts (.instantiable RX1 3) (by decide +kernel)) (hts (.initialized RX1) (by decide +kernel)) hK hW hS hA rfl hfs_6 (200 + 4 * hc) (hab0_5 0 (by omega)) ((hnw 0 (by omega)).trans (by omega)) (Nat.le_of_ble_eq_true rfl) (Nat.le_of_ble_eq_true rfl) dX5_heap_37 (fun H ct_6 hs_6 ho_6 hW hS hz_6 => ?_)
      have ho2_6 : ∀ j, 200 + 4 * hc < j → j ≤ 200 + 4 * hc + 2 → ct_6 j = none := fun j h1 h2 => (ho_6 j (by omega)).trans (by rw [show j = 200 + 4 * hc + (j - (200 + 4 * hc)) by omega]; exact hab0_5 _ (by omega))
      have ho_6 : ∀ q, (q < 200 + 4 * hc ∨ 200 + 4 * hc + 2 < q) → ct_6 q = ct_5 q := fun q h1 => ho_6 q (by omega)
      have hof_6 : ∀ q, q ≠ 0 → q ≠ 2 → q ≠ (40 + 16 * y9) → (q < 200 + 4 * hc ∨ 200 + 4 * hc + 2 < q) → ct_6 q = ct q := fun q h0_6 h1_6 h2_6 h3_6 => (ho_6 q h3_6).trans (hof_5 q h0_6 h1_6 h2_6 h3_6)
      have hm0_6 : ct_6 0 = some (.inr (5, [.ref (ad 1), .ref (ad 2), .int (jI ((yc : Nat) : Int)), .int (jI ((hc : Nat) : Int)), .ref (ad 3), .ref (ad 5), .ref (ad 20)]) : va_E) := (ho_6 0 (by omega)).trans hm0_5
      have hm1_6 : ct_6 2 = some (rq ty 4 20 (fun i => if i < hc then some (ad (200 + 4 * i)) else none)) := (ho_6 2 (by omega)).trans hm1_5
      have hm2_6 : ct_6 (40 + 16 * y9) = some (.inr (4, [.int (jI (((yn y9) : Nat) : Int)), .ref (ad ((40 + 16 * y9) + 1)), .ref (ad ((40 + 16 * y9) + 10)), .int (jI 1)]) : va_E) := (ho_6 (40 + 16 * y9) (by omega)).trans hs_5
      have hm3_6 : ct_6 (200 + 4 * hc) = some (.inr (1, [.null, .null, .null]) : va_E) := hs_6
      refine lv_dup hx hb dX5_heap_40 rfl ?_
      refine lv_aload_n hx hb dX5_heap_41 rfl (lv_at hl 0 rfl) ?_
      refine rm_callv (va_runI (As := [.ref (ad (40 + 16 * y9))]) (rest := [.ref (ad (200 + 4 * hc)), .int (jI ((hc : Nat) : Int)), .ref (ad 2)]) ⟨hx, hb, hml, hown, hts⟩ (c_X1_init l D ty ad ct_6 H.size (200 + 4 * hc) (40 + 16 * y9) ho2_6 ((hnw 1 (by omega)).trans (by omega)) ((hnw 2 (by omega)).trans (by omega)) hm3_6) (cwI 1 hts gX5_heap_X1_init rfl rfl rfl (hts (.initialized RX1) (by decide +kernel)) (hts (.methodLink RX5 100 yX1_init) (by decide +kernel)) (hts (.instanceMethod yX1_init) (by decide +kernel)) rfl (by decide +kernel) ⟨Nat.le_of_ble_eq_true rfl, Nat.le_of_ble_eq_true rfl⟩) (rm_preI hK hNw hW) rfl rfl hl.1 rfl (lv_room (Nat.le_of_ble_eq_true rfl)) dX5_heap_42 ⟨Nat.le_of_ble_eq_true rfl, Nat.le_of_ble_eq_true rfl⟩) hW hS hA (fun ct_7 H locs hq_7 hW hS hz_7 => ?_)
      have ho_7 : ∀ q, (q < 200 + 4 * hc ∨ 200 + 4 * hc + 2 < q) → ct_7 q = ct_6 q := fun q h1 => hq_7.2 q (by omega)
      have hof_7 : ∀ q, q ≠ 0 → q ≠ 2 → q ≠ (40 + 16 * y9) → (q < 200 + 4 * hc ∨ 200 + 4 * hc + 2 < q) → ct_7 q = ct q := fun q h0_7 h1_7 h2_7 h3_7 => (ho_7 q h3_7).trans (hof_6 q h0_7 h1_7 h2_7 h3_7)
      have hm0_7 : ct_7 0 = some (.inr (5, [.ref (ad 1), .ref (ad 2), .int (jI ((yc : Nat) : Int)), .int (jI ((hc : Nat) : Int)), .ref (ad 3), .ref (ad 5), .ref (ad 20)]) : va_E) := (ho_7 0 (by omega)).trans hm0_6
      have hm1_7 : ct_7 2 = some (rq ty 4 20 (fun i => if i < hc then some (ad (200 + 4 * i)) else none)) := (ho_7 2 (by omega)).trans hm1_6
      have hm2_7 : ct_7 (40 + 16 * y9) = some (.inr (4, [.int (jI (((yn y9) : Nat) : Int)), .ref (ad ((40 + 16 * y9) + 1)), .ref (ad ((40 + 16 * y9) + 10)), .int (jI 1)]) : va_E) := (ho_7 (40 + 16 * y9) (by omega)).trans hm2_6
      have hm3_7 : HeapAt ty ad ct_7 (200 + 4 * hc) (40 + 16 * y9) (fun _ => 0) (fun _ => 0) := hq_7.1
      refine rm_aast hx hb hK hW hS (f := (fun i => if i < hc then some (ad (200 + 4 * i)) else none)) hm1_7 rfl hm3_7.1 rfl hc rfl (by omega) (by omega) dX5_heap_45 (fun H locs ct_8 hs_8 ho_8 hW hS hz_8 => ?_)
      have hof_8 : ∀ q, q ≠ 0 → q ≠ 2 → q ≠ (40 + 16 * y9) → (q < 200 + 4 * hc ∨ 200 + 4 * hc + 2 < q) → ct_8 q = ct q := fun q h0_8 h1_8 h2_8 h3_8 => (ho_8 q h1_8).trans (hof_7 q h0_8 h1_8 h2_8 h3_8)
      have hm0_8 : ct_8 0 = some (.inr (5, [.ref (ad 1), .ref (ad 2), .int (jI ((yc : Nat) : Int)), .int (jI ((hc : Nat) : Int)), .ref (ad 3), .ref (ad 5), .ref (ad 20)]) : va_E) := (ho_8 0 (by omega)).trans hm0_7
      have hm2_8 : ct_8 (40 + 16 * y9) = some (.inr (4, [.int (jI (((yn y9) : Nat) : Int)), .ref (ad ((40 + 16 * y9) + 1)), .ref (ad ((40 + 16 * y9) + 10)), .int (jI 1)]) : va_E) := (ho_8 (40 + 16 * y9) (by omega)).trans hm2_7
      have hm3_8 : HeapAt ty ad ct_8 (200 + 4 * hc) (40 + 16 * y9) (fun _ => 0) (fun _ => 0) := HeapAt.kept hm3_7 (fun q h1 h2 => ho_8 q (by omega))
      refine lv_aload_n hx hb dX5_heap_46 rfl (lv_at hl 1 rfl) ?_
      refine lv_dup hx hb dX5_heap_47 rfl ?_
      refine rm_get (ci := 5) (v := .int (jI ((hc : Nat) : Int))) (C := RX5) (T := TX5) (N := 7) hx hb hts (by decide +kernel) hown hK hW hm0_8 rfl 3 (by decide) (hts (.fieldLink RX5 25 "GrainYard" "heapCount" "I") (by decide +kernel)) (fun _ h9 => h9) rfl dX5_heap_48 ?_
      refine lv_iconst (v := jI 1) hx hb dX5_heap_51 rfl ?_
      refine rm_iadd hx hb dX5_heap_52 ?_
      refine rm_put (ci := 5) (v := .int (jI (((hc : Nat) : Int) + 1))) (fty := .int) (C := RX5) (T := TX5) (N := 7) hx hb hts (by decide +kernel) tyX5 tyX5_ok nmX5 hown hK hW hS hm0_8 rfl 3 (by decide) (hts (.fieldLink RX5 25 "GrainYard" "heapCount" "I") (by decide +kernel)) (fun _ h9 => h9) rfl (by decide +kernel) rfl rfl (Nat.le_of_ble_eq_true rfl) dX5_heap_53 (fun H locs ct_9 hs_9 ho_9 hW hS hz_9 => ?_)
      have hs_9 : ct_9 0 = some (.inr (5, [.ref (ad 1), .ref (ad 2), .int (jI ((yc : Nat) : Int)), .int (jI (((hc : Nat) : Int) + 1)), .ref (ad 3), .ref (ad 5), .ref (ad 20)]) : va_E) := hs_9
      have hof_9 : ∀ q, q ≠ 0 → q ≠ 2 → q ≠ (40 + 16 * y9) → (q < 200 + 4 * hc ∨ 200 + 4 * hc + 2 < q) → ct_9 q = ct q := fun q h0_9 h1_9 h2_9 h3_9 => (ho_9 q h0_9).trans (hof_8 q h0_9 h1_9 h2_9 h3_9)
      have hm1_9 : ct_9 2 = some (rq ty 4 20 (ub (fun i => if i < hc then some (ad (200 + 4 * i)) else none) hc (some (ad (200 + 4 * hc))))) := (ho_9 2 (by omega)).trans hs_8
      have hm2_9 : ct_9 (40 + 16 * y9) = some (.inr (4, [.int (jI (((yn y9) : Nat) : Int)), .ref (ad ((40 + 16 * y9) + 1)), .ref (ad ((40 + 16 * y9) + 10)), .int (jI 1)]) : va_E) := (ho_9 (40 + 16 * y9) (by omega)).trans hm2_8
      have hm3_9 : HeapAt ty ad ct_9 (200 + 4 * hc) (40 + 16 * y9) (fun _ => 0) (fun _ => 0) := HeapAt.kept hm3_8 (fun q h1 h2 => ho_9 q (by omega))
      refine lv_aload_n hx hb dX5_heap_56 rfl (lv_at hl 1 rfl) ?_
      refine rm_get (ci := 5) (v := .int (jI (((hc : Nat) : Int) + 1))) (C := RX5) (T := TX5) (N := 7) hx hb hts (by decide +kernel) hown hK hW hs_9 rfl 3 (by decide) (hts (.fieldLink RX5 25 "GrainYard" "heapCount" "I") (by decide +kernel)) (fun _ h9 => h9) rfl dX5_heap_57 ?_
      refine lv_iconst (v := jI 1) hx hb dX5_heap_60 rfl ?_
      refine rm_isub hx hb dX5_heap_61 ?_
      rw [show ((hc : Nat) : Int) + 1 - 1 = ((hc : Nat) : Int) from by omega]
      refine vx_ret ?_
      refine W.widen (k := 4) (n := 25) (by omega) (by omega) ?_
      exact W.iret hx hb hr (fun t ht hw => ⟨⟨_, (((hc : Nat) : Int), ct_9, ad), rfl, ⟨rfl, ⟨y9, rfl, hy2, Or.inr ⟨by omega, hj, rfl, hre, hC.newHeap hy2 (by omega) hs_9 hm1_9 hm2_9 hm3_9 (fun q h1 h2 h3 h4 => hof_9 q h1 h2 h3 (by omega))⟩⟩⟩, by show rm_W D ad _ _ t.heap; rw [ht]; exact hW⟩, hS.F ht⟩) hS.2.2 dX5_heap_62
    · skip
      have hj : jit (yn y9) (yM y9) (yn y9 - 1) ≠ 2 ^ yn y9 - 1 := fun h => by rw [if_pos h] at hz; omega
      refine lv_iconst (v := jI (-1)) hx hb dX5_heap_22 rfl ?_
      refine vx_ret ?_
      refine W.widen (k := 4) (n := 25) (by omega) (by omega) ?_
      exact W.iret hx hb hr (fun t ht hw => ⟨⟨_, ((-1), ct, ad), rfl, ⟨rfl, ⟨y9, rfl, hy2, Or.inl ⟨Or.inr hj, rfl, rfl, rfl⟩⟩⟩, by show rm_W D ad _ _ t.heap; rw [ht]; exact hW⟩, hS.F ht⟩) hS.2.2 dX5_heap_23
