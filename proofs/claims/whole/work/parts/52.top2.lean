set_option maxHeartbeats 4000000 in
set_option maxRecDepth 100000 in
theorem c_X5_yard (l : Launch) (D : va_G) (ty : Nat → ClassId) (ad : Nat → Nat) (ct : rm_C) (sz : Nat) (yc hc : Nat) (yn : Nat → Nat) (yM : Nat → Nat → Nat → Int) (yd : Nat → Nat → Int) (yu : Nat → Int) (hy : Nat → Nat) (hg hf : Nat → Nat → Int) (hC : ClsAt ty ad ct yc hc yn yM yd yu hy hg hf) (z9 : Int) (hz9 : r32 z9) (had0 : yc < 6 → ∀ j, j ≤ 10 → ad (40 + 16 * yc + j) = sz + j) : Met l yX5_yard wsX5_yard ({ frames := 2, cells := 11, slots := 84, locals := 51 }) (rm_P D ty ad ct sz [.ref (ad 0), .int (jI z9)]) (rm_Qi D ad ct sz (fun z ct1 => ((6 ≤ yc ∨ z9 < 2 ∨ 8 < z9) ∧ z = -1 ∧ ct1 = ct) ∨ (yc < 6 ∧ ∃ p : Nat, z9 = p ∧ 2 ≤ p ∧ p ≤ 8 ∧ z = yc ∧ ClsAt ty ad ct1 (yc + 1) hc (us yn yc p) (us yM yc (fun _ _ => 0)) (us yd yc (fun _ => 0)) (us yu yc 0) hy hg hf))) 11 84 (rm_A ad ct sz) := by
  refine Met.ofW (cc := cX5_yard) (maxL := 2) (ret := (some .int)) (by decide) rfl ?_
  intro p e s m args below meth c s₁ B hml hv
  obtain ⟨hargs, hsz, hW, hK, hNw⟩ := hv
  have hx := B.exec
  have hb := B.bytes
  have hr := B.returns
  have hts := atoms_spec (ws := wsX5_yard) B.pre
  have hown : s.vm.findClass RX5 = some m.cls := findClass_of_methodNamed B.named
  have hlocks := B.notSynchronized
  subst hsz
  have hW := hW.own (sz := s.heap.size)
  have hA : ∀ q : Nat, s.heap.size ≤ q → rm_A ad ct s.heap.size q := fun q h => Or.inr h
  have hS : va_S (rm_A ad ct s.heap.size) s.heap s.heap [] := va_S.rf
  have hent : entryFrame m args 2 = entryFrame m ([.ref (ad 0), .int (jI z9)] : List Value).toArray 2 := by rw [hargs]
  have hl := lv_entry ([.ref (ad 0), .int (jI z9)]) (n := 2) (Nat.le_of_ble_eq_true rfl)
  rw [hent, lg_entry_eq]
  generalize (lg_sl ([.ref (ad 0), .int (jI z9)]) ++ List.replicate (2 - (lg_sl ([.ref (ad 0), .int (jI z9)])).length) Slot.unset).toArray = ls at hl ⊢
  have hl : lv_has ls 2 [(0, .ref (ad 0)), (1, .int (jI z9))] := hl
  have hb6 := hC.1.1
  have hb20 := hC.1.2
  refine lv_aload_n hx hb dX5_yard_0 rfl (lv_at hl 0 rfl) ?_
  refine rm_get (ci := 5) (v := .int (jI ((yc : Nat) : Int))) (C := RX5) (T := TX5) (N := 7) hx hb hts (by decide +kernel) hown hK hW hC.2.1.1 rfl 2 (by decide) (hts (.fieldLink RX5 21 "GrainYard" "yardCount" "I") (by decide +kernel)) (fun _ h9 => h9) rfl dX5_yard_1 ?_
  refine lv_bipush (v := jI 6) hx hb dX5_yard_4 (by decide) ?_
  refine rm_icmp_ge (tgt := 20) hx hb ⟨by omega, by omega⟩ ⟨by omega, by omega⟩ dX5_yard_6 (by decide) (fun hc_1 => ?_) (fun hc_1 => ?_)
  · skip
    refine lv_iconst (v := jI (-1)) hx hb dX5_yard_20 rfl ?_
    refine W.widen (k := 11) (n := 84) (by omega) (by omega) ?_
    exact W.iret hx hb hr (fun t ht hw => ⟨⟨_, ((-1), ct), rfl, ⟨rfl, Or.inl ⟨Or.inl (by omega), rfl, rfl⟩⟩, by show rm_W D ad _ _ t.heap; rw [ht]; exact hW⟩, hS.F ht⟩) hS.2.2 dX5_yard_21
  · skip
    refine lv_iload_n hx hb dX5_yard_9 rfl (lv_at hl 1 rfl) ?_
    refine lv_iconst (v := jI 2) hx hb dX5_yard_10 rfl ?_
    refine rm_icmp_lt (tgt := 20) hx hb ⟨by omega, by omega⟩ ⟨by omega, by omega⟩ dX5_yard_11 (by decide) (fun hc_2 => ?_) (fun hc_2 => ?_)
    · skip
      refine lv_iconst (v := jI (-1)) hx hb dX5_yard_20 rfl ?_
      refine W.widen (k := 11) (n := 84) (by omega) (by omega) ?_
      exact W.iret hx hb hr (fun t ht hw => ⟨⟨_, ((-1), ct), rfl, ⟨rfl, Or.inl ⟨Or.inr (Or.inl (by omega)), rfl, rfl⟩⟩, by show rm_W D ad _ _ t.heap; rw [ht]; exact hW⟩, hS.F ht⟩) hS.2.2 dX5_yard_21
    · skip
      refine lv_iload_n hx hb dX5_yard_14 rfl (lv_at hl 1 rfl) ?_
      refine lv_bipush (v := jI 8) hx hb dX5_yard_15 (by decide) ?_
      refine rm_icmp_le (tgt := 22) hx hb ⟨by omega, by omega⟩ ⟨by omega, by omega⟩ dX5_yard_17 (by decide) (fun hc_3 => ?_) (fun hc_3 => ?_)
      · skip
        have hyc : yc < 6 := by omega
        have had1 := had0 hyc
        obtain ⟨p9, hp9⟩ : ∃ p9 : Nat, z9 = (p9 : Int) := ⟨z9.toNat, by omega⟩
        subst hp9
        have hab2_0 : ∀ i9, i9 < 11 → ct (40 + 16 * yc + i9) = none := fun i9 h9 => hC.2.2.2.2.2.1 yc (Nat.le_refl _) hyc i9 (by omega)
        refine lv_aload_n hx hb dX5_yard_22 rfl (lv_at hl 0 rfl) ?_
        refine rm_get (ci := 5) (v := .ref (ad 1)) (C := RX5) (T := TX5) (N := 7) hx hb hts (by decide +kernel) hown hK hW hC.2.1.1 rfl 0 (by decide) (hts (.fieldLink RX5 11 "GrainYard" "yards" "[LGrainYard$Yard;") (by decide +kernel)) (fun _ h9 => h9) rfl dX5_yard_23 ?_
        refine lv_aload_n hx hb dX5_yard_26 rfl (lv_at hl 0 rfl) ?_
        refine rm_get (ci := 5) (v := .int (jI ((yc : Nat) : Int))) (C := RX5) (T := TX5) (N := 7) hx hb hts (by decide +kernel) hown hK hW hC.2.1.1 rfl 2 (by decide) (hts (.fieldLink RX5 21 "GrainYard" "yardCount" "I") (by decide +kernel)) (fun _ h9 => h9) rfl dX5_yard_27 ?_
        have hfs_4 : ∀ j, j < 4 → defaultValue (tyX4 j) = vp_V [.int (jI 0), .null, .null, .int (jI 0)] j := fun j h9 => by
          rcases (show j = 0 ∨ j = 1 ∨ j = 2 ∨ j = 3 by omega) with rfl | rfl | rfl | rfl <;> rfl
        refine rm_new (ci := 4) (C := RX4) (T := TX4) (N := 4) (fs := [.int (jI 0), .null, .null, .int (jI 0)]) hx hb hts (by decide +kernel) tyX4 tyX4_ok hown (hts (.classLink RX5 9 RX4) (by decide +kernel)) (hts (.instantiable RX4 4) (by decide +kernel)) (hts (.initialized RX4) (by decide +kernel)) hK hW hS hA rfl hfs_4 (40 + 16 * yc) (hab2_0 0 (by omega)) (by have := had1 0 (by omega); simpa using this) (Nat.le_of_ble_eq_true rfl) (Nat.le_of_ble_eq_true rfl) dX5_yard_30 (fun H ct_4 hs_4 ho_4 hW hS hz_4 => ?_)
        have ho2_4 : ∀ j, 40 + 16 * yc < j → j ≤ 40 + 16 * yc + 10 → ct_4 j = none := fun j h1 h2 => (ho_4 j (by omega)).trans (by rw [show j = 40 + 16 * yc + (j - (40 + 16 * yc)) by omega]; exact hab2_0 _ (by omega))
        have ho_4 : ∀ q, (q < 40 + 16 * yc ∨ 40 + 16 * yc + 10 < q) → ct_4 q = ct q := fun q h1 => ho_4 q (by omega)
        have hof_4 : ∀ q, q ≠ 0 → q ≠ 1 → (q < 40 + 16 * yc ∨ 40 + 16 * yc + 10 < q) → ct_4 q = ct q := fun q h0_4 h1_4 h2_4 => (ho_4 q h2_4).trans rfl
        have hm0_4 : ct_4 0 = some (.inr (5, [.ref (ad 1), .ref (ad 2), .int (jI ((yc : Nat) : Int)), .int (jI ((hc : Nat) : Int)), .ref (ad 3), .ref (ad 5), .ref (ad 20)]) : va_E) := (ho_4 0 (by omega)).trans hC.2.1.1
        have hm1_4 : ct_4 1 = some (rq ty 3 6 (fun i => if i < yc then some (ad (40 + 16 * i)) else none)) := (ho_4 1 (by omega)).trans hC.2.1.2.1
        have hm2_4 : ct_4 (40 + 16 * yc) = some (.inr (4, [.int (jI 0), .null, .null, .int (jI 0)]) : va_E) := hs_4
        refine lv_dup hx hb dX5_yard_33 rfl ?_
        refine lv_iload_n hx hb dX5_yard_34 rfl (lv_at hl 1 rfl) ?_
        refine rm_callv (va_runI (As := [.int (jI ((p9 : Nat) : Int))]) (rest := [.ref (ad (40 + 16 * yc)), .int (jI ((yc : Nat) : Int)), .ref (ad 1)]) ⟨hx, hb, hml, hown, hts⟩ (c_X4_init l D ty ad ct_4 H.size (40 + 16 * yc) p9 ho2_4 (fun j h1 h2 => by rw [had1 j h2]; omega) hm2_4) (cwI 1 hts gX5_yard_X4_init rfl rfl rfl (hts (.initialized RX4) (by decide +kernel)) (hts (.methodLink RX5 49 yX4_init) (by decide +kernel)) (hts (.instanceMethod yX4_init) (by decide +kernel)) rfl (by decide +kernel) ⟨Nat.le_of_ble_eq_true rfl, Nat.le_of_ble_eq_true rfl⟩) (rm_preI hK hNw hW) rfl rfl hl.1 rfl (lv_room (Nat.le_of_ble_eq_true rfl)) dX5_yard_35 ⟨Nat.le_of_ble_eq_true rfl, Nat.le_of_ble_eq_true rfl⟩) hW hS hA (fun ct_5 H locs hq_5 hW hS hz_5 => ?_)
        have ho_5 : ∀ q, (q < 40 + 16 * yc ∨ 40 + 16 * yc + 10 < q) → ct_5 q = ct_4 q := fun q h1 => hq_5.2 q (by omega)
        have hof_5 : ∀ q, q ≠ 0 → q ≠ 1 → (q < 40 + 16 * yc ∨ 40 + 16 * yc + 10 < q) → ct_5 q = ct q := fun q h0_5 h1_5 h2_5 => (ho_5 q h2_5).trans (hof_4 q h0_5 h1_5 h2_5)
        have hm0_5 : ct_5 0 = some (.inr (5, [.ref (ad 1), .ref (ad 2), .int (jI ((yc : Nat) : Int)), .int (jI ((hc : Nat) : Int)), .ref (ad 3), .ref (ad 5), .ref (ad 20)]) : va_E) := (ho_5 0 (by omega)).trans hm0_4
        have hm1_5 : ct_5 1 = some (rq ty 3 6 (fun i => if i < yc then some (ad (40 + 16 * i)) else none)) := (ho_5 1 (by omega)).trans hm1_4
        have hm2_5 : YardAt ty ad ct_5 (40 + 16 * yc) p9 (fun _ _ => 0) (fun _ => 0) 0 := hq_5.1
        refine rm_aast hx hb hK hW hS (f := (fun i => if i < yc then some (ad (40 + 16 * i)) else none)) hm1_5 rfl hm2_5.1 rfl yc rfl (by omega) (by omega) dX5_yard_38 (fun H locs ct_6 hs_6 ho_6 hW hS hz_6 => ?_)
        have hof_6 : ∀ q, q ≠ 0 → q ≠ 1 → (q < 40 + 16 * yc ∨ 40 + 16 * yc + 10 < q) → ct_6 q = ct q := fun q h0_6 h1_6 h2_6 => (ho_6 q h1_6).trans (hof_5 q h0_6 h1_6 h2_6)
        have hm0_6 : ct_6 0 = some (.inr (5, [.ref (ad 1), .ref (ad 2), .int (jI ((yc : Nat) : Int)), .int (jI ((hc : Nat) : Int)), .ref (ad 3), .ref (ad 5), .ref (ad 20)]) : va_E) := (ho_6 0 (by omega)).trans hm0_5
        have hm2_6 : YardAt ty ad ct_6 (40 + 16 * yc) p9 (fun _ _ => 0) (fun _ => 0) 0 := YardAt.kept hm2_5 (fun q h1 h2 => ho_6 q (by omega))
        refine lv_aload_n hx hb dX5_yard_39 rfl (lv_at hl 0 rfl) ?_
        refine lv_dup hx hb dX5_yard_40 rfl ?_
        refine rm_get (ci := 5) (v := .int (jI ((yc : Nat) : Int))) (C := RX5) (T := TX5) (N := 7) hx hb hts (by decide +kernel) hown hK hW hm0_6 rfl 2 (by decide) (hts (.fieldLink RX5 21 "GrainYard" "yardCount" "I") (by decide +kernel)) (fun _ h9 => h9) rfl dX5_yard_41 ?_
        refine lv_iconst (v := jI 1) hx hb dX5_yard_44 rfl ?_
        refine rm_iadd hx hb dX5_yard_45 ?_
        refine rm_put (ci := 5) (v := .int (jI (((yc : Nat) : Int) + 1))) (fty := .int) (C := RX5) (T := TX5) (N := 7) hx hb hts (by decide +kernel) tyX5 tyX5_ok nmX5 hown hK hW hS hm0_6 rfl 2 (by decide) (hts (.fieldLink RX5 21 "GrainYard" "yardCount" "I") (by decide +kernel)) (fun _ h9 => h9) rfl (by decide +kernel) rfl rfl (Nat.le_of_ble_eq_true rfl) dX5_yard_46 (fun H locs ct_7 hs_7 ho_7 hW hS hz_7 => ?_)
        have hs_7 : ct_7 0 = some (.inr (5, [.ref (ad 1), .ref (ad 2), .int (jI (((yc : Nat) : Int) + 1)), .int (jI ((hc : Nat) : Int)), .ref (ad 3), .ref (ad 5), .ref (ad 20)]) : va_E) := hs_7
        have hof_7 : ∀ q, q ≠ 0 → q ≠ 1 → (q < 40 + 16 * yc ∨ 40 + 16 * yc + 10 < q) → ct_7 q = ct q := fun q h0_7 h1_7 h2_7 => (ho_7 q h0_7).trans (hof_6 q h0_7 h1_7 h2_7)
        have hm1_7 : ct_7 1 = some (rq ty 3 6 (ub (fun i => if i < yc then some (ad (40 + 16 * i)) else none) yc (some (ad (40 + 16 * yc))))) := (ho_7 1 (by omega)).trans hs_6
        have hm2_7 : YardAt ty ad ct_7 (40 + 16 * yc) p9 (fun _ _ => 0) (fun _ => 0) 0 := YardAt.kept hm2_6 (fun q h1 h2 => ho_7 q (by omega))
        refine lv_aload_n hx hb dX5_yard_49 rfl (lv_at hl 0 rfl) ?_
        refine rm_get (ci := 5) (v := .int (jI (((yc : Nat) : Int) + 1))) (C := RX5) (T := TX5) (N := 7) hx hb hts (by decide +kernel) hown hK hW hs_7 rfl 2 (by decide) (hts (.fieldLink RX5 21 "GrainYard" "yardCount" "I") (by decide +kernel)) (fun _ h9 => h9) rfl dX5_yard_50 ?_
        refine lv_iconst (v := jI 1) hx hb dX5_yard_53 rfl ?_
        refine rm_isub hx hb dX5_yard_54 ?_
        rw [show ((yc : Nat) : Int) + 1 - 1 = ((yc : Nat) : Int) from by omega]
        refine W.widen (k := 11) (n := 84) (by omega) (by omega) ?_
        exact W.iret hx hb hr (fun t ht hw => ⟨⟨_, (((yc : Nat) : Int), ct_7), rfl, ⟨rfl, Or.inr ⟨hyc, p9, rfl, by omega, by omega, rfl, hC.newYard hyc hs_7 hm1_7 hm2_7 (fun q h1 h2 h3 => hof_7 q h1 h2 (by omega))⟩⟩, by show rm_W D ad _ _ t.heap; rw [ht]; exact hW⟩, hS.F ht⟩) hS.2.2 dX5_yard_55
      · skip
        refine lv_iconst (v := jI (-1)) hx hb dX5_yard_20 rfl ?_
        refine W.widen (k := 11) (n := 84) (by omega) (by omega) ?_
        exact W.iret hx hb hr (fun t ht hw => ⟨⟨_, ((-1), ct), rfl, ⟨rfl, Or.inl ⟨Or.inr (Or.inr (by omega)), rfl, rfl⟩⟩, by show rm_W D ad _ _ t.heap; rw [ht]; exact hW⟩, hS.F ht⟩) hS.2.2 dX5_yard_21
