set_option maxHeartbeats 4000000 in
set_option maxRecDepth 100000 in
theorem c_X6_degreeOf (l : Launch) (D : va_G) (ty : Nat → ClassId) (ad : Nat → Nat) (ct : rm_C) (sz : Nat) (th : Int) (yc hc : Nat) (yn : Nat → Nat) (yM : Nat → Nat → Nat → Int) (yu : Nat → Int) (hy : Nat → Nat) (hg hf mA : Nat → Nat → Int) (pt ro ke kt mu sl tw bw de : Nat → Int) (hMo : ModAt ty ad ct th yc hc yn yM yu hy hg hf mA pt ro ke kt mu sl tw bw de) (y9 : Nat) (hy9 : y9 < 6) (hn9 : 2 ≤ yn y9 ∧ yn y9 ≤ 8) (hM9 : ∀ i j, 0 ≤ yM y9 i j ∧ yM y9 i j ≤ 3) (p9 : Nat) (hp9 : p9 < 8) : Met l yX6_degreeOf wsX6_degreeOf ({ frames := 1, cells := 0, slots := 0, locals := 23 }) (rm_P D ty ad ct sz [.ref (ad 1000), .int (jI ((y9 : Nat) : Int)), .int (jI ((p9 : Nat) : Int))]) (rm_Qi D ad ct sz (fun z ct1 => z = dg (yn y9) (yM y9) p9 ∧ ct1 = ct)) 0 0 (rm_A ad ct sz) := by
  refine Met.ofW (cc := cX6_degreeOf) (maxL := 5) (ret := (some .int)) (by decide) rfl ?_
  intro p e s m args below meth c s₁ B hml hv
  obtain ⟨hargs, hsz, hW, hK, hNw⟩ := hv
  have hx := B.exec
  have hb := B.bytes
  have hr := B.returns
  have hts := atoms_spec (ws := wsX6_degreeOf) B.pre
  have hown : s.vm.findClass RX6 = some m.cls := findClass_of_methodNamed B.named
  have hlocks := B.notSynchronized
  subst hsz
  have hW := hW.own (sz := s.heap.size)
  have hA : ∀ q : Nat, s.heap.size ≤ q → rm_A ad ct s.heap.size q := fun q h => Or.inr h
  have hS : va_S (rm_A ad ct s.heap.size) s.heap s.heap [] := va_S.rf
  have hent : entryFrame m args 5 = entryFrame m ([.ref (ad 1000), .int (jI ((y9 : Nat) : Int)), .int (jI ((p9 : Nat) : Int))] : List Value).toArray 5 := by rw [hargs]
  have hl := lv_entry ([.ref (ad 1000), .int (jI ((y9 : Nat) : Int)), .int (jI ((p9 : Nat) : Int))]) (n := 5) (Nat.le_of_ble_eq_true rfl)
  rw [hent, lg_entry_eq]
  generalize (lg_sl ([.ref (ad 1000), .int (jI ((y9 : Nat) : Int)), .int (jI ((p9 : Nat) : Int))]) ++ List.replicate (5 - (lg_sl ([.ref (ad 1000), .int (jI ((y9 : Nat) : Int)), .int (jI ((p9 : Nat) : Int))])).length) Slot.unset).toArray = ls at hl ⊢
  have hl : lv_has ls 5 [(0, .ref (ad 1000)), (1, .int (jI ((y9 : Nat) : Int))), (2, .int (jI ((p9 : Nat) : Int)))] := hl
  refine lv_iconst (v := jI 0) hx hb dX6_degreeOf_0 rfl ?_
  refine lv_istore_n (lv' := [(3, .int (jI 0)), (0, .ref (ad 1000)), (1, .int (jI ((y9 : Nat) : Int))), (2, .int (jI ((p9 : Nat) : Int)))]) hx hb dX6_degreeOf_1 rfl hl (by decide) rfl (fun ls hl => ?_)
  refine lv_iconst (v := jI 0) hx hb dX6_degreeOf_2 rfl ?_
  refine lv_istore (lv' := [(4, .int (jI 0)), (3, .int (jI 0)), (0, .ref (ad 1000)), (1, .int (jI ((y9 : Nat) : Int))), (2, .int (jI ((p9 : Nat) : Int)))]) hx hb dX6_degreeOf_3 hl (by decide) rfl (fun ls hl => ?_)
  have hl : lv_has ls 5 [(4, .int (jI 0)), (3, .int (jI (gs (fun q => (yM y9) p9 q) 0))), (0, .ref (ad 1000)), (1, .int (jI ((y9 : Nat) : Int))), (2, .int (jI ((p9 : Nat) : Int)))] := by exact hl
  have LP : ∀ (k : Nat) (i8 : Nat) (hi8 : i8 ≤ (yn y9)), (yn y9) - i8 < k → ∀ (H : Heap) (locs : List Loc), rm_W D ad ct (rm_A ad ct s.heap.size) H → va_S (rm_A ad ct s.heap.size) s.heap H locs → ∀ ls : Array Slot, lv_has ls 5 [(4, .int (jI ((i8 : Nat) : Int))), (3, .int (jI (gs (fun q => (yM y9) p9 q) i8))), (0, .ref (ad 1000)), (1, .int (jI ((y9 : Nat) : Int))), (2, .int (jI ((p9 : Nat) : Int)))] → W p l e (headSpec wsX6_degreeOf ({ frames := 1, cells := 0, slots := 0, locals := 23 })).room s m args below meth c H locs 0 0 (MQ below (rm_Qi D ad ct s.heap.size (fun z ct1 => z = dg (yn y9) (yM y9) p9 ∧ ct1 = ct)) args s 0 0 (rm_A ad ct s.heap.size)) (F0 m 5 ls []) := by
    intro k
    induction k with
    | zero => intro i8 hi8 hk; exact absurd hk (Nat.not_lt_zero _)
    | succ k ih_LP =>
      intro i8 hi8 hk  H locs   hW hS ls hl
      refine lv_iload hx hb dX6_degreeOf_5 (lv_at hl 0 rfl) ?_
      refine lv_aload_n hx hb dX6_degreeOf_7 rfl (lv_at hl 2 rfl) ?_
      refine rm_get (ci := 6) (v := .ref (ad 1001)) (C := RX6) (T := TX6) (N := 19) hx hb hts (by decide +kernel) hown hK hW hMo.1 rfl 3 (by decide) (hts (.fieldLink RX6 7 "GrainYardModel" "places" "[I") (by decide +kernel)) (fun _ h9 => h9) rfl dX6_degreeOf_8 ?_
      refine lv_iload_n hx hb dX6_degreeOf_11 rfl (lv_at hl 3 rfl) ?_
      refine rm_iald hx hb hK hW (f := (fun y => ((yn y : Nat) : Int))) hMo.2.1 y9 rfl (by omega) (by omega) dX6_degreeOf_12 ?_
      refine rm_icmp_ge (tgt := 33) hx hb ⟨by omega, by omega⟩ ⟨by omega, by omega⟩ dX6_degreeOf_13 (by decide) (fun hc_2 => ?_) (fun hc_2 => ?_)
      · skip
        have hi : i8 = (yn y9) := by omega
        subst hi
        refine lv_iload_n hx hb dX6_degreeOf_33 rfl (lv_at hl 1 rfl) ?_
        exact W.iret hx hb hr (fun t ht hw => ⟨⟨_, (dg (yn y9) (yM y9) p9, ct), rfl, ⟨rfl, ⟨rfl, rfl⟩⟩, by show rm_W D ad _ _ t.heap; rw [ht]; exact hW⟩, hS.F ht⟩) hS.2.2 dX6_degreeOf_34
      · skip
        refine lv_iload_n hx hb dX6_degreeOf_16 rfl (lv_at hl 1 rfl) ?_
        refine lv_aload_n hx hb dX6_degreeOf_17 rfl (lv_at hl 2 rfl) ?_
        refine lv_iload_n hx hb dX6_degreeOf_18 rfl (lv_at hl 3 rfl) ?_
        refine lv_iload_n hx hb dX6_degreeOf_19 rfl (lv_at hl 4 rfl) ?_
        refine lv_iload hx hb dX6_degreeOf_20 (lv_at hl 0 rfl) ?_
        refine rm_calli (va_runV (As := [.int (jI ((y9 : Nat) : Int)), .int (jI ((p9 : Nat) : Int)), .int (jI ((i8 : Nat) : Int))]) (rest := [.int (jI (gs (fun q => (yM y9) p9 q) i8))]) ⟨hx, hb, hml, hown, hts⟩ (c_X6_between l D ty ad ct H.size th yc hc yn yM yu hy hg hf mA pt ro ke kt mu sl tw bw de hMo y9 p9 i8 hy9 hp9 (by omega)) (cwV 3 hts gX6_degreeOf_X6_between rfl rfl rfl (by decide +kernel) ⟨Nat.le_of_ble_eq_true rfl, Nat.le_of_ble_eq_true rfl⟩) (rm_preV hK hNw hW hMo.1 rfl) rfl rfl hl.1 rfl (lv_room (Nat.le_of_ble_eq_true rfl)) dX6_degreeOf_22 ⟨Nat.zero_le _, Nat.zero_le _⟩) hW hS hA (fun z_3 ct_3 H locs hq_3 hW hS => ?_)
        obtain ⟨hz, hcc_3⟩ := hq_3
        have hcc_3 := hcc_3.symm
        subst hcc_3
        subst hz
        refine rm_iadd hx hb dX6_degreeOf_25 ?_
        refine lv_istore_n (lv' := [(3, .int (jI ((gs (fun q => (yM y9) p9 q) i8) + ((yM y9) p9 i8)))), (4, .int (jI ((i8 : Nat) : Int))), (0, .ref (ad 1000)), (1, .int (jI ((y9 : Nat) : Int))), (2, .int (jI ((p9 : Nat) : Int)))]) hx hb dX6_degreeOf_26 rfl hl (by decide) rfl (fun ls hl => ?_)
        have hl : lv_has ls 5 [(3, .int (jI (gs (fun q => (yM y9) p9 q) (i8 + 1)))), (4, .int (jI ((i8 : Nat) : Int))), (0, .ref (ad 1000)), (1, .int (jI ((y9 : Nat) : Int))), (2, .int (jI ((p9 : Nat) : Int)))] := by exact hl
        refine lv_iinc (v := jI (((i8 : Nat) : Int) + 1)) (lv' := [(4, .int (jI (((i8 : Nat) : Int) + 1))), (3, .int (jI (gs (fun q => (yM y9) p9 q) (i8 + 1)))), (0, .ref (ad 1000)), (1, .int (jI ((y9 : Nat) : Int))), (2, .int (jI ((p9 : Nat) : Int)))]) hx hb dX6_degreeOf_27 hl (k := 1) rfl (jI_add _ _) (by decide) rfl (fun ls hl => ?_)
        refine lv_goto (tgt := 5) hx hb dX6_degreeOf_30 (by decide) ?_
        exact ih_LP (i8 + 1) (by omega) (by omega)  _ _ hW hS ls (lv_sub hl [0, 1, 2, 3, 4] rfl)
  exact LP ((yn y9) + 1) (0) (by omega) (by omega)  _ _ hW hS ls (lv_sub hl [0, 1, 2, 3, 4] rfl)
set_option maxHeartbeats 4000000 in
set_option maxRecDepth 100000 in
theorem c_X6_yard (l : Launch) (D : va_G) (ty : Nat → ClassId) (ad : Nat → Nat) (ct : rm_C) (sz : Nat) (th : Int) (yc hc : Nat) (yn : Nat → Nat) (yM : Nat → Nat → Nat → Int) (yu : Nat → Int) (hy : Nat → Nat) (hg hf mA : Nat → Nat → Int) (pt ro ke kt mu sl tw bw de : Nat → Int) (hMo : ModAt ty ad ct th yc hc yn yM yu hy hg hf mA pt ro ke kt mu sl tw bw de) (hb20 : yc ≤ 6 ∧ hc ≤ 20) (z9 : Int) (hz9 : r32 z9) : Met l yX6_yard wsX6_yard ({ frames := 0, cells := 0, slots := 0, locals := 0 }) (rm_P D ty ad ct sz [.ref (ad 1000), .int (jI z9)]) (rm_Qi D ad ct sz (fun z ct1 => (∀ q, (q < 1000 ∨ 1016 < q) → ct1 q = ct q) ∧ (((6 ≤ yc ∨ z9 < 2 ∨ 8 < z9) ∧ z = -1 ∧ ModX ty ad ct1 0 yc hc yn yM yu hy hg hf) ∨ (yc < 6 ∧ ∃ p : Nat, z9 = p ∧ 2 ≤ p ∧ p ≤ 8 ∧ z = yc ∧ ModX ty ad ct1 0 (yc + 1) hc (us yn yc p) yM yu hy hg hf)))) 0 0 (rm_A ad ct sz) := by
  refine Met.ofW (cc := cX6_yard) (maxL := 2) (ret := (some .int)) (by decide) rfl ?_
  intro p e s m args below meth c s₁ B hml hv
  obtain ⟨hargs, hsz, hW, hK, hNw⟩ := hv
  have hx := B.exec
  have hb := B.bytes
  have hr := B.returns
  have hts := atoms_spec (ws := wsX6_yard) B.pre
  have hown : s.vm.findClass RX6 = some m.cls := findClass_of_methodNamed B.named
  have hlocks := B.notSynchronized
  subst hsz
  have hW := hW.own (sz := s.heap.size)
  have hA : ∀ q : Nat, s.heap.size ≤ q → rm_A ad ct s.heap.size q := fun q h => Or.inr h
  have hS : va_S (rm_A ad ct s.heap.size) s.heap s.heap [] := va_S.rf
  have hent : entryFrame m args 2 = entryFrame m ([.ref (ad 1000), .int (jI z9)] : List Value).toArray 2 := by rw [hargs]
  have hl := lv_entry ([.ref (ad 1000), .int (jI z9)]) (n := 2) (Nat.le_of_ble_eq_true rfl)
  rw [hent, lg_entry_eq]
  generalize (lg_sl ([.ref (ad 1000), .int (jI z9)]) ++ List.replicate (2 - (lg_sl ([.ref (ad 1000), .int (jI z9)])).length) Slot.unset).toArray = ls at hl ⊢
  have hl : lv_has ls 2 [(0, .ref (ad 1000)), (1, .int (jI z9))] := hl
  refine lv_aload_n hx hb dX6_yard_0 rfl (lv_at hl 0 rfl) ?_
  refine lv_iconst (v := jI 0) hx hb dX6_yard_1 rfl ?_
  refine rm_put (ci := 6) (v := .int (jI 0)) (fty := .int) (C := RX6) (T := TX6) (N := 19) hx hb hts (by decide +kernel) tyX6 tyX6_ok nmX6 hown hK hW hS hMo.1 rfl 0 (by decide) (hts (.fieldLink RX6 60 "GrainYardModel" "thrown" "I") (by decide +kernel)) (fun _ h9 => h9) rfl (by decide +kernel) rfl rfl (Nat.le_of_ble_eq_true rfl) dX6_yard_2 (fun H locs ct_1 hs_1 ho_1 hW hS hz_1 => ?_)
  have hs_1 : ct_1 1000 = some (.inr (6, [.int (jI 0), .int (jI ((yc : Nat) : Int)), .int (jI ((hc : Nat) : Int)), .ref (ad 1001), .ref (ad 1002), .ref (ad 1003), .ref (ad 1004), .ref (ad 1005), .ref (ad 1006), .ref (ad 1007), .ref (ad 1008), .ref (ad 1009), .ref (ad 1010), .ref (ad 1011), .ref (ad 1012), .ref (ad 1013), .ref (ad 1014), .ref (ad 1015), .ref (ad 1016)]) : va_E) := hs_1
  have hof_1 : ∀ q, q ≠ 1000 → q ≠ 1001 → ct_1 q = ct q := fun q h0_1 h1_1 => (ho_1 q h0_1).trans rfl
  have hm1_1 : ct_1 1001 = some (ri ty 6 (fun y => ((yn y : Nat) : Int))) := (ho_1 1001 (by omega)).trans hMo.2.1
  refine lv_aload_n hx hb dX6_yard_5 rfl (lv_at hl 0 rfl) ?_
  refine rm_get (ci := 6) (v := .int (jI ((yc : Nat) : Int))) (C := RX6) (T := TX6) (N := 19) hx hb hts (by decide +kernel) hown hK hW hs_1 rfl 1 (by decide) (hts (.fieldLink RX6 64 "GrainYardModel" "yards" "I") (by decide +kernel)) (fun _ h9 => h9) rfl dX6_yard_6 ?_
  refine lv_bipush (v := jI 6) hx hb dX6_yard_9 (by decide) ?_
  refine rm_icmp_eq (tgt := 25) hx hb ⟨by omega, by omega⟩ ⟨by omega, by omega⟩ dX6_yard_11 (by decide) (fun hc_2 => ?_) (fun hc_2 => ?_)
  · skip
    refine lv_iconst (v := jI (-1)) hx hb dX6_yard_25 rfl ?_
    exact W.iret hx hb hr (fun t ht hw => ⟨⟨_, ((-1), ct_1), rfl, ⟨rfl, ⟨(fun q hq9 => hof_1 q (by omega) (by omega)), Or.inl ⟨by omega, rfl, ⟨mA, pt, ro, ke, kt, mu, sl, tw, bw, de, ⟨hs_1, hm1_1, ((hof_1 1002 (by omega) (by omega)).trans hMo.2.2.1), ((hof_1 1003 (by omega) (by omega)).trans hMo.2.2.2.1), ((hof_1 1004 (by omega) (by omega)).trans hMo.2.2.2.2.1), ((hof_1 1005 (by omega) (by omega)).trans hMo.2.2.2.2.2.1), ((hof_1 1006 (by omega) (by omega)).trans hMo.2.2.2.2.2.2.1), ((hof_1 1007 (by omega) (by omega)).trans hMo.2.2.2.2.2.2.2.1), ((hof_1 1008 (by omega) (by omega)).trans hMo.2.2.2.2.2.2.2.2.1), ((hof_1 1009 (by omega) (by omega)).trans hMo.2.2.2.2.2.2.2.2.2.1), ((hof_1 1010 (by omega) (by omega)).trans hMo.2.2.2.2.2.2.2.2.2.2.1), ((hof_1 1011 (by omega) (by omega)).trans hMo.2.2.2.2.2.2.2.2.2.2.2.1), ((hof_1 1012 (by omega) (by omega)).trans hMo.2.2.2.2.2.2.2.2.2.2.2.2.1), ((hof_1 1013 (by omega) (by omega)).trans hMo.2.2.2.2.2.2.2.2.2.2.2.2.2.1), ((hof_1 1014 (by omega) (by omega)).trans hMo.2.2.2.2.2.2.2.2.2.2.2.2.2.2.1), ((hof_1 1015 (by omega) (by omega)).trans hMo.2.2.2.2.2.2.2.2.2.2.2.2.2.2.2.1), ((hof_1 1016 (by omega) (by omega)).trans hMo.2.2.2.2.2.2.2.2.2.2.2.2.2.2.2.2)⟩⟩⟩⟩⟩, by show rm_W D ad _ _ t.heap; rw [ht]; exact hW⟩, hS.F ht⟩) hS.2.2 dX6_yard_26
  · skip
    refine lv_iload_n hx hb dX6_yard_14 rfl (lv_at hl 1 rfl) ?_
    refine lv_iconst (v := jI 2) hx hb dX6_yard_15 rfl ?_
    refine rm_icmp_lt (tgt := 25) hx hb ⟨by omega, by omega⟩ ⟨by omega, by omega⟩ dX6_yard_16 (by decide) (fun hc_3 => ?_) (fun hc_3 => ?_)
    · skip
      refine lv_iconst (v := jI (-1)) hx hb dX6_yard_25 rfl ?_
      exact W.iret hx hb hr (fun t ht hw => ⟨⟨_, ((-1), ct_1), rfl, ⟨rfl, ⟨(fun q hq9 => hof_1 q (by omega) (by omega)), Or.inl ⟨by omega, rfl, ⟨mA, pt, ro, ke, kt, mu, sl, tw, bw, de, ⟨hs_1, hm1_1, ((hof_1 1002 (by omega) (by omega)).trans hMo.2.2.1), ((hof_1 1003 (by omega) (by omega)).trans hMo.2.2.2.1), ((hof_1 1004 (by omega) (by omega)).trans hMo.2.2.2.2.1), ((hof_1 1005 (by omega) (by omega)).trans hMo.2.2.2.2.2.1), ((hof_1 1006 (by omega) (by omega)).trans hMo.2.2.2.2.2.2.1), ((hof_1 1007 (by omega) (by omega)).trans hMo.2.2.2.2.2.2.2.1), ((hof_1 1008 (by omega) (by omega)).trans hMo.2.2.2.2.2.2.2.2.1), ((hof_1 1009 (by omega) (by omega)).trans hMo.2.2.2.2.2.2.2.2.2.1), ((hof_1 1010 (by omega) (by omega)).trans hMo.2.2.2.2.2.2.2.2.2.2.1), ((hof_1 1011 (by omega) (by omega)).trans hMo.2.2.2.2.2.2.2.2.2.2.2.1), ((hof_1 1012 (by omega) (by omega)).trans hMo.2.2.2.2.2.2.2.2.2.2.2.2.1), ((hof_1 1013 (by omega) (by omega)).trans hMo.2.2.2.2.2.2.2.2.2.2.2.2.2.1), ((hof_1 1014 (by omega) (by omega)).trans hMo.2.2.2.2.2.2.2.2.2.2.2.2.2.2.1), ((hof_1 1015 (by omega) (by omega)).trans hMo.2.2.2.2.2.2.2.2.2.2.2.2.2.2.2.1), ((hof_1 1016 (by omega) (by omega)).trans hMo.2.2.2.2.2.2.2.2.2.2.2.2.2.2.2.2)⟩⟩⟩⟩⟩, by show rm_W D ad _ _ t.heap; rw [ht]; exact hW⟩, hS.F ht⟩) hS.2.2 dX6_yard_26
    · skip
      refine lv_iload_n hx hb dX6_yard_19 rfl (lv_at hl 1 rfl) ?_
      refine lv_bipush (v := jI 8) hx hb dX6_yard_20 (by decide) ?_
      refine rm_icmp_le (tgt := 27) hx hb ⟨by omega, by omega⟩ ⟨by omega, by omega⟩ dX6_yard_22 (by decide) (fun hc_4 => ?_) (fun hc_4 => ?_)
      · skip
        obtain ⟨p8, hn_p8⟩ : ∃ p8 : Nat, z9 = (p8 : Int) := ⟨z9.toNat, by omega⟩
        subst hn_p8
        refine lv_aload_n hx hb dX6_yard_27 rfl (lv_at hl 0 rfl) ?_
        refine rm_get (ci := 6) (v := .ref (ad 1001)) (C := RX6) (T := TX6) (N := 19) hx hb hts (by decide +kernel) hown hK hW hs_1 rfl 3 (by decide) (hts (.fieldLink RX6 7 "GrainYardModel" "places" "[I") (by decide +kernel)) (fun _ h9 => h9) rfl dX6_yard_28 ?_
        refine lv_aload_n hx hb dX6_yard_31 rfl (lv_at hl 0 rfl) ?_
        refine rm_get (ci := 6) (v := .int (jI ((yc : Nat) : Int))) (C := RX6) (T := TX6) (N := 19) hx hb hts (by decide +kernel) hown hK hW hs_1 rfl 1 (by decide) (hts (.fieldLink RX6 64 "GrainYardModel" "yards" "I") (by decide +kernel)) (fun _ h9 => h9) rfl dX6_yard_32 ?_
        refine lv_iload_n hx hb dX6_yard_35 rfl (lv_at hl 1 rfl) ?_
        refine rm_iast hx hb hK hW hS (f := (fun y => ((yn y : Nat) : Int))) hm1_1 yc rfl (by omega) (by omega) dX6_yard_36 (fun H locs ct_5 hs_5 ho_5 hW hS hz_5 => ?_)
        have hof_5 : ∀ q, q ≠ 1000 → q ≠ 1001 → ct_5 q = ct q := fun q h0_5 h1_5 => (ho_5 q h1_5).trans (hof_1 q h0_5 h1_5)
        have hm0_5 : ct_5 1000 = some (.inr (6, [.int (jI 0), .int (jI ((yc : Nat) : Int)), .int (jI ((hc : Nat) : Int)), .ref (ad 1001), .ref (ad 1002), .ref (ad 1003), .ref (ad 1004), .ref (ad 1005), .ref (ad 1006), .ref (ad 1007), .ref (ad 1008), .ref (ad 1009), .ref (ad 1010), .ref (ad 1011), .ref (ad 1012), .ref (ad 1013), .ref (ad 1014), .ref (ad 1015), .ref (ad 1016)]) : va_E) := (ho_5 1000 (by omega)).trans hs_1
        have hk_6 : ct_5 1001 = some (ri ty 6 (fun y => (((ub yn yc p8) y : Nat) : Int))) := hs_5.trans (congrArg (fun f => some (ri ty 6 f)) (nub_eq _ _ _))
        refine lv_aload_n hx hb dX6_yard_37 rfl (lv_at hl 0 rfl) ?_
        refine lv_dup hx hb dX6_yard_38 rfl ?_
        refine rm_get (ci := 6) (v := .int (jI ((yc : Nat) : Int))) (C := RX6) (T := TX6) (N := 19) hx hb hts (by decide +kernel) hown hK hW hm0_5 rfl 1 (by decide) (hts (.fieldLink RX6 64 "GrainYardModel" "yards" "I") (by decide +kernel)) (fun _ h9 => h9) rfl dX6_yard_39 ?_
        refine lv_iconst (v := jI 1) hx hb dX6_yard_42 rfl ?_
        refine rm_iadd hx hb dX6_yard_43 ?_
        refine rm_put (ci := 6) (v := .int (jI (((yc : Nat) : Int) + 1))) (fty := .int) (C := RX6) (T := TX6) (N := 19) hx hb hts (by decide +kernel) tyX6 tyX6_ok nmX6 hown hK hW hS hm0_5 rfl 1 (by decide) (hts (.fieldLink RX6 64 "GrainYardModel" "yards" "I") (by decide +kernel)) (fun _ h9 => h9) rfl (by decide +kernel) rfl rfl (Nat.le_of_ble_eq_true rfl) dX6_yard_44 (fun H locs ct_7 hs_7 ho_7 hW hS hz_7 => ?_)
        have hs_7 : ct_7 1000 = some (.inr (6, [.int (jI 0), .int (jI (((yc : Nat) : Int) + 1)), .int (jI ((hc : Nat) : Int)), .ref (ad 1001), .ref (ad 1002), .ref (ad 1003), .ref (ad 1004), .ref (ad 1005), .ref (ad 1006), .ref (ad 1007), .ref (ad 1008), .ref (ad 1009), .ref (ad 1010), .ref (ad 1011), .ref (ad 1012), .ref (ad 1013), .ref (ad 1014), .ref (ad 1015), .ref (ad 1016)]) : va_E) := hs_7
        have hof_7 : ∀ q, q ≠ 1000 → q ≠ 1001 → ct_7 q = ct q := fun q h0_7 h1_7 => (ho_7 q h0_7).trans (hof_5 q h0_7 h1_7)
        have hm1_7 : ct_7 1001 = some (ri ty 6 (fun y => (((ub yn yc p8) y : Nat) : Int))) := (ho_7 1001 (by omega)).trans hk_6
        refine lv_aload_n hx hb dX6_yard_47 rfl (lv_at hl 0 rfl) ?_
        refine rm_get (ci := 6) (v := .int (jI (((yc : Nat) : Int) + 1))) (C := RX6) (T := TX6) (N := 19) hx hb hts (by decide +kernel) hown hK hW hs_7 rfl 1 (by decide) (hts (.fieldLink RX6 64 "GrainYardModel" "yards" "I") (by decide +kernel)) (fun _ h9 => h9) rfl dX6_yard_48 ?_
        refine lv_iconst (v := jI 1) hx hb dX6_yard_51 rfl ?_
        refine rm_isub hx hb dX6_yard_52 ?_
        rw [show ((yc : Nat) : Int) + 1 - 1 = ((yc : Nat) : Int) from by omega]
        exact W.iret hx hb hr (fun t ht hw => ⟨⟨_, (((yc : Nat) : Int), ct_7), rfl, ⟨rfl, ⟨(fun q hq9 => hof_7 q (by omega) (by omega)), Or.inr ⟨by omega, p8, rfl, by omega, by omega, rfl, ⟨mA, pt, ro, ke, kt, mu, sl, tw, bw, de, ⟨hs_7, hm1_7, ((hof_7 1002 (by omega) (by omega)).trans hMo.2.2.1), ((hof_7 1003 (by omega) (by omega)).trans hMo.2.2.2.1), ((hof_7 1004 (by omega) (by omega)).trans hMo.2.2.2.2.1), ((hof_7 1005 (by omega) (by omega)).trans hMo.2.2.2.2.2.1), ((hof_7 1006 (by omega) (by omega)).trans hMo.2.2.2.2.2.2.1), ((hof_7 1007 (by omega) (by omega)).trans hMo.2.2.2.2.2.2.2.1), ((hof_7 1008 (by omega) (by omega)).trans hMo.2.2.2.2.2.2.2.2.1), ((hof_7 1009 (by omega) (by omega)).trans hMo.2.2.2.2.2.2.2.2.2.1), ((hof_7 1010 (by omega) (by omega)).trans hMo.2.2.2.2.2.2.2.2.2.2.1), ((hof_7 1011 (by omega) (by omega)).trans hMo.2.2.2.2.2.2.2.2.2.2.2.1), ((hof_7 1012 (by omega) (by omega)).trans hMo.2.2.2.2.2.2.2.2.2.2.2.2.1), ((hof_7 1013 (by omega) (by omega)).trans hMo.2.2.2.2.2.2.2.2.2.2.2.2.2.1), ((hof_7 1014 (by omega) (by omega)).trans hMo.2.2.2.2.2.2.2.2.2.2.2.2.2.2.1), ((hof_7 1015 (by omega) (by omega)).trans hMo.2.2.2.2.2.2.2.2.2.2.2.2.2.2.2.1), ((hof_7 1016 (by omega) (by omega)).trans hMo.2.2.2.2.2.2.2.2.2.2.2.2.2.2.2.2)⟩⟩⟩⟩⟩, by show rm_W D ad _ _ t.heap; rw [ht]; exact hW⟩, hS.F ht⟩) hS.2.2 dX6_yard_53
      · skip
        refine lv_iconst (v := jI (-1)) hx hb dX6_yard_25 rfl ?_
        exact W.iret hx hb hr (fun t ht hw => ⟨⟨_, ((-1), ct_1), rfl, ⟨rfl, ⟨(fun q hq9 => hof_1 q (by omega) (by omega)), Or.inl ⟨by omega, rfl, ⟨mA, pt, ro, ke, kt, mu, sl, tw, bw, de, ⟨hs_1, hm1_1, ((hof_1 1002 (by omega) (by omega)).trans hMo.2.2.1), ((hof_1 1003 (by omega) (by omega)).trans hMo.2.2.2.1), ((hof_1 1004 (by omega) (by omega)).trans hMo.2.2.2.2.1), ((hof_1 1005 (by omega) (by omega)).trans hMo.2.2.2.2.2.1), ((hof_1 1006 (by omega) (by omega)).trans hMo.2.2.2.2.2.2.1), ((hof_1 1007 (by omega) (by omega)).trans hMo.2.2.2.2.2.2.2.1), ((hof_1 1008 (by omega) (by omega)).trans hMo.2.2.2.2.2.2.2.2.1), ((hof_1 1009 (by omega) (by omega)).trans hMo.2.2.2.2.2.2.2.2.2.1), ((hof_1 1010 (by omega) (by omega)).trans hMo.2.2.2.2.2.2.2.2.2.2.1), ((hof_1 1011 (by omega) (by omega)).trans hMo.2.2.2.2.2.2.2.2.2.2.2.1), ((hof_1 1012 (by omega) (by omega)).trans hMo.2.2.2.2.2.2.2.2.2.2.2.2.1), ((hof_1 1013 (by omega) (by omega)).trans hMo.2.2.2.2.2.2.2.2.2.2.2.2.2.1), ((hof_1 1014 (by omega) (by omega)).trans hMo.2.2.2.2.2.2.2.2.2.2.2.2.2.2.1), ((hof_1 1015 (by omega) (by omega)).trans hMo.2.2.2.2.2.2.2.2.2.2.2.2.2.2.2.1), ((hof_1 1016 (by omega) (by omega)).trans hMo.2.2.2.2.2.2.2.2.2.2.2.2.2.2.2.2)⟩⟩⟩⟩⟩, by show rm_W D ad _ _ t.heap; rw [ht]; exact hW⟩, hS.F ht⟩) hS.2.2 dX6_yard_26
set_option maxHeartbeats 4000000 in
set_option maxRecDepth 100000 in
theorem c_X6_path (l : Launch) (D : va_G) (ty : Nat → ClassId) (ad : Nat → Nat) (ct : rm_C) (sz : Nat) (th : Int) (yc hc : Nat) (yn : Nat → Nat) (yM : Nat → Nat → Nat → Int) (yu : Nat → Int) (hy : Nat → Nat) (hg hf mA : Nat → Nat → Int) (pt ro ke kt mu sl tw bw de : Nat → Int) (hMo : ModAt ty ad ct th yc hc yn yM yu hy hg hf mA pt ro ke kt mu sl tw bw de) (hb20 : yc ≤ 6 ∧ hc ≤ 20) (hyn : ∀ y, y < yc → 2 ≤ yn y ∧ yn y ≤ 8) (hyM : ∀ y, y < yc → ∀ i j, 0 ≤ yM y i j ∧ yM y i j ≤ 3) (hyu : ∀ y, y < yc → yu y = 0 ∨ yu y = 1) (z9 p9 r9 n9 : Int) (hz9 : r32 z9) (hp9 : r32 p9) (hr9 : r32 r9) (hn9 : r32 n9) : Met l yX6_path wsX6_path ({ frames := 2, cells := 0, slots := 0, locals := 44 }) (rm_P D ty ad ct sz [.ref (ad 1000), .int (jI z9), .int (jI p9), .int (jI r9), .int (jI n9)]) (rm_Qi D ad ct sz (fun z ct1 => (∀ q, (q < 1000 ∨ 1016 < q) → ct1 q = ct q) ∧ ((((z9 < 0 ∨ ((yc : Nat) : Int) ≤ z9) ∨ ∃ y9 : Nat, z9 = (y9 : Int) ∧ y9 < yc ∧ ((p9 < 0 ∨ (yn y9 : Int) ≤ p9) ∨ (r9 < 0 ∨ (yn y9 : Int) ≤ r9))) ∧ ModX ty ad ct1 1 yc hc yn yM yu hy hg hf) ∨ ∃ y9 a9 b9 : Nat, z9 = (y9 : Int) ∧ p9 = (a9 : Int) ∧ r9 = (b9 : Int) ∧ y9 < yc ∧ a9 < yn y9 ∧ b9 < yn y9 ∧ (((n9 < 0 ∨ 3 < n9 ∨ a9 = b9 ∨ yu y9 = 1) ∧ z = -1 ∧ ModX ty ad ct1 0 yc hc yn yM yu hy hg hf) ∨ (0 ≤ n9 ∧ n9 ≤ 3 ∧ a9 ≠ b9 ∧ yu y9 = 0 ∧ z = yM y9 a9 b9 ∧ ModX ty ad ct1 0 yc hc yn (us yM y9 (lyM (yM y9) a9 b9 n9)) yu hy hg hf))))) 0 0 (rm_A ad ct sz) := by
  refine Met.ofW (cc := cX6_path) (maxL := 6) (ret := (some .int)) (by decide) rfl ?_
  intro p e s m args below meth c s₁ B hml hv
  obtain ⟨hargs, hsz, hW, hK, hNw⟩ := hv
  have hx := B.exec
  have hb := B.bytes
  have hr := B.returns
  have hts := atoms_spec (ws := wsX6_path) B.pre
  have hown : s.vm.findClass RX6 = some m.cls := findClass_of_methodNamed B.named
  have hlocks := B.notSynchronized
  subst hsz
  have hW := hW.own (sz := s.heap.size)
  have hA : ∀ q : Nat, s.heap.size ≤ q → rm_A ad ct s.heap.size q := fun q h => Or.inr h
  have hS : va_S (rm_A ad ct s.heap.size) s.heap s.heap [] := va_S.rf
  have hent : entryFrame m args 6 = entryFrame m ([.ref (ad 1000), .int (jI z9), .int (jI p9), .int (jI r9), .int (jI n9)] : List Value).toArray 6 := by rw [hargs]
  have hl := lv_entry ([.ref (ad 1000), .int (jI z9), .int (jI p9), .int (jI r9), .int (jI n9)]) (n := 6) (Nat.le_of_ble_eq_true rfl)
  rw [hent, lg_entry_eq]
  generalize (lg_sl ([.ref (ad 1000), .int (jI z9), .int (jI p9), .int (jI r9), .int (jI n9)]) ++ List.replicate (6 - (lg_sl ([.ref (ad 1000), .int (jI z9), .int (jI p9), .int (jI r9), .int (jI n9)])).length) Slot.unset).toArray = ls at hl ⊢
  have hl : lv_has ls 6 [(0, .ref (ad 1000)), (1, .int (jI z9)), (2, .int (jI p9)), (3, .int (jI r9)), (4, .int (jI n9))] := hl
  refine lv_aload_n hx hb dX6_path_0 rfl (lv_at hl 0 rfl) ?_
  refine lv_iload_n hx hb dX6_path_1 rfl (lv_at hl 1 rfl) ?_
  refine rm_calli (va_runV (As := [.int (jI z9)]) (rest := []) ⟨hx, hb, hml, hown, hts⟩ (c_X6_isYard l D ty ad ct s.heap.size th yc hc yn yM yu hy hg hf mA pt ro ke kt mu sl tw bw de hMo z9 hz9 hb20) (cwV 1 hts gX6_path_X6_isYard rfl rfl rfl (by decide +kernel) ⟨Nat.le_of_ble_eq_true rfl, Nat.le_of_ble_eq_true rfl⟩) (rm_preV hK hNw hW hMo.1 rfl) rfl rfl hl.1 rfl (lv_room (Nat.le_of_ble_eq_true rfl)) dX6_path_2 ⟨Nat.zero_le _, Nat.zero_le _⟩) hW hS hA (fun z_1 ct_1 H locs hq_1 hW hS => ?_)
  obtain ⟨hqo, hqc⟩ := hq_1
  rcases hqc with ⟨hbad, hz, hqs⟩ | ⟨hp1, hp2, hz, hqs⟩
  · skip
    subst hz
    have ho_1 : ∀ q, q ≠ 1000 → ct_1 q = ct q := hqo
    have hof_1 : ∀ q, q ≠ 1000 → q ≠ 1002 → ct_1 q = ct q := fun q h0_1 h1_1 => (ho_1 q h0_1).trans rfl
    have hm0_1 : ct_1 1000 = some (.inr (6, [.int (jI 1), .int (jI ((yc : Nat) : Int)), .int (jI ((hc : Nat) : Int)), .ref (ad 1001), .ref (ad 1002), .ref (ad 1003), .ref (ad 1004), .ref (ad 1005), .ref (ad 1006), .ref (ad 1007), .ref (ad 1008), .ref (ad 1009), .ref (ad 1010), .ref (ad 1011), .ref (ad 1012), .ref (ad 1013), .ref (ad 1014), .ref (ad 1015), .ref (ad 1016)]) : va_E) := hqs
    have hm1_1 : ct_1 1002 = some (ri ty 384 (fl64 yM)) := (ho_1 1002 (by omega)).trans hMo.2.2.1
    refine rm_if_eq (tgt := 26) hx hb ⟨by omega, by omega⟩ dX6_path_5 (by decide) (fun _ => ?_) (fun hq => absurd hq (by omega))
    refine lv_iconst (v := jI 0) hx hb dX6_path_26 rfl ?_
    exact W.iret hx hb hr (fun t ht hw => ⟨⟨_, (0, ct_1), rfl, ⟨rfl, ⟨(fun q hq9 => hof_1 q (by omega) (by omega)), Or.inl ⟨Or.inl hbad, ⟨mA, pt, ro, ke, kt, mu, sl, tw, bw, de, ⟨hm0_1, ((hof_1 1001 (by omega) (by omega)).trans hMo.2.1), hm1_1, ((hof_1 1003 (by omega) (by omega)).trans hMo.2.2.2.1), ((hof_1 1004 (by omega) (by omega)).trans hMo.2.2.2.2.1), ((hof_1 1005 (by omega) (by omega)).trans hMo.2.2.2.2.2.1), ((hof_1 1006 (by omega) (by omega)).trans hMo.2.2.2.2.2.2.1), ((hof_1 1007 (by omega) (by omega)).trans hMo.2.2.2.2.2.2.2.1), ((hof_1 1008 (by omega) (by omega)).trans hMo.2.2.2.2.2.2.2.2.1), ((hof_1 1009 (by omega) (by omega)).trans hMo.2.2.2.2.2.2.2.2.2.1), ((hof_1 1010 (by omega) (by omega)).trans hMo.2.2.2.2.2.2.2.2.2.2.1), ((hof_1 1011 (by omega) (by omega)).trans hMo.2.2.2.2.2.2.2.2.2.2.2.1), ((hof_1 1012 (by omega) (by omega)).trans hMo.2.2.2.2.2.2.2.2.2.2.2.2.1), ((hof_1 1013 (by omega) (by omega)).trans hMo.2.2.2.2.2.2.2.2.2.2.2.2.2.1), ((hof_1 1014 (by omega) (by omega)).trans hMo.2.2.2.2.2.2.2.2.2.2.2.2.2.2.1), ((hof_1 1015 (by omega) (by omega)).trans hMo.2.2.2.2.2.2.2.2.2.2.2.2.2.2.2.1), ((hof_1 1016 (by omega) (by omega)).trans hMo.2.2.2.2.2.2.2.2.2.2.2.2.2.2.2.2)⟩⟩⟩⟩⟩, by show rm_W D ad _ _ t.heap; rw [ht]; exact hW⟩, hS.F ht⟩) hS.2.2 dX6_path_27
  · skip
    subst hz
    have ho_1 : ∀ q, q ≠ 1000 → ct_1 q = ct q := hqo
    have hof_1 : ∀ q, q ≠ 1000 → q ≠ 1002 → ct_1 q = ct q := fun q h0_1 h1_1 => (ho_1 q h0_1).trans rfl
    have hm0_1 : ct_1 1000 = some (.inr (6, [.int (jI 0), .int (jI ((yc : Nat) : Int)), .int (jI ((hc : Nat) : Int)), .ref (ad 1001), .ref (ad 1002), .ref (ad 1003), .ref (ad 1004), .ref (ad 1005), .ref (ad 1006), .ref (ad 1007), .ref (ad 1008), .ref (ad 1009), .ref (ad 1010), .ref (ad 1011), .ref (ad 1012), .ref (ad 1013), .ref (ad 1014), .ref (ad 1015), .ref (ad 1016)]) : va_E) := hqs
    have hm1_1 : ct_1 1002 = some (ri ty 384 (fl64 yM)) := (ho_1 1002 (by omega)).trans hMo.2.2.1
    obtain ⟨y9, hn_y9⟩ : ∃ y9 : Nat, z9 = (y9 : Int) := ⟨z9.toNat, by omega⟩
    subst hn_y9
    have hy9 : y9 < yc := by omega
    have hn8 := hyn y9 hy9
    have hM8 := hyM y9 hy9
    have hu8 := hyu y9 hy9
    refine rm_if_eq (tgt := 26) hx hb ⟨by omega, by omega⟩ dX6_path_5 (by decide) (fun hq => absurd hq (by omega)) (fun _ => ?_)
    refine lv_aload_n hx hb dX6_path_8 rfl (lv_at hl 0 rfl) ?_
    refine lv_iload_n hx hb dX6_path_9 rfl (lv_at hl 1 rfl) ?_
    refine lv_iload_n hx hb dX6_path_10 rfl (lv_at hl 2 rfl) ?_
    refine rm_calli (va_runV (As := [.int (jI ((y9 : Nat) : Int)), .int (jI p9)]) (rest := []) ⟨hx, hb, hml, hown, hts⟩ (c_X6_isPlace l D ty ad ct_1 H.size 0 yc hc yn yM yu hy hg hf mA pt ro ke kt mu sl tw bw de ⟨hm0_1, ((hof_1 1001 (by omega) (by omega)).trans hMo.2.1), hm1_1, ((hof_1 1003 (by omega) (by omega)).trans hMo.2.2.2.1), ((hof_1 1004 (by omega) (by omega)).trans hMo.2.2.2.2.1), ((hof_1 1005 (by omega) (by omega)).trans hMo.2.2.2.2.2.1), ((hof_1 1006 (by omega) (by omega)).trans hMo.2.2.2.2.2.2.1), ((hof_1 1007 (by omega) (by omega)).trans hMo.2.2.2.2.2.2.2.1), ((hof_1 1008 (by omega) (by omega)).trans hMo.2.2.2.2.2.2.2.2.1), ((hof_1 1009 (by omega) (by omega)).trans hMo.2.2.2.2.2.2.2.2.2.1), ((hof_1 1010 (by omega) (by omega)).trans hMo.2.2.2.2.2.2.2.2.2.2.1), ((hof_1 1011 (by omega) (by omega)).trans hMo.2.2.2.2.2.2.2.2.2.2.2.1), ((hof_1 1012 (by omega) (by omega)).trans hMo.2.2.2.2.2.2.2.2.2.2.2.2.1), ((hof_1 1013 (by omega) (by omega)).trans hMo.2.2.2.2.2.2.2.2.2.2.2.2.2.1), ((hof_1 1014 (by omega) (by omega)).trans hMo.2.2.2.2.2.2.2.2.2.2.2.2.2.2.1), ((hof_1 1015 (by omega) (by omega)).trans hMo.2.2.2.2.2.2.2.2.2.2.2.2.2.2.2.1), ((hof_1 1016 (by omega) (by omega)).trans hMo.2.2.2.2.2.2.2.2.2.2.2.2.2.2.2.2)⟩ rfl y9 (by omega) hn8.2 p9 hp9) (cwV 2 hts gX6_path_X6_isPlace rfl rfl rfl (by decide +kernel) ⟨Nat.le_of_ble_eq_true rfl, Nat.le_of_ble_eq_true rfl⟩) (rm_preV hK hNw hW hm0_1 rfl) rfl rfl hl.1 rfl (lv_room (Nat.le_of_ble_eq_true rfl)) dX6_path_11 ⟨Nat.zero_le _, Nat.zero_le _⟩) hW hS hA (fun z_2 ct_2 H locs hq_2 hW hS => ?_)
    obtain ⟨hqo, hqc⟩ := hq_2
    rcases hqc with ⟨hbad, hz, hqs⟩ | ⟨hp1, hp2, hz, hqs⟩
    · skip
      subst hz
      have ho_2 : ∀ q, q ≠ 1000 → ct_2 q = ct_1 q := hqo
      have hof_2 : ∀ q, q ≠ 1000 → q ≠ 1002 → ct_2 q = ct q := fun q h0_2 h1_2 => (ho_2 q h0_2).trans (hof_1 q h0_2 h1_2)
      have hm0_2 : ct_2 1000 = some (.inr (6, [.int (jI 1), .int (jI ((yc : Nat) : Int)), .int (jI ((hc : Nat) : Int)), .ref (ad 1001), .ref (ad 1002), .ref (ad 1003), .ref (ad 1004), .ref (ad 1005), .ref (ad 1006), .ref (ad 1007), .ref (ad 1008), .ref (ad 1009), .ref (ad 1010), .ref (ad 1011), .ref (ad 1012), .ref (ad 1013), .ref (ad 1014), .ref (ad 1015), .ref (ad 1016)]) : va_E) := hqs
      have hm1_2 : ct_2 1002 = some (ri ty 384 (fl64 yM)) := (ho_2 1002 (by omega)).trans hm1_1
      refine rm_if_eq (tgt := 26) hx hb ⟨by omega, by omega⟩ dX6_path_14 (by decide) (fun _ => ?_) (fun hq => absurd hq (by omega))
      refine lv_iconst (v := jI 0) hx hb dX6_path_26 rfl ?_
      exact W.iret hx hb hr (fun t ht hw => ⟨⟨_, (0, ct_2), rfl, ⟨rfl, ⟨(fun q hq9 => hof_2 q (by omega) (by omega)), Or.inl ⟨Or.inr ⟨y9, rfl, hy9, Or.inl hbad⟩, ⟨mA, pt, ro, ke, kt, mu, sl, tw, bw, de, ⟨hm0_2, ((hof_2 1001 (by omega) (by omega)).trans hMo.2.1), hm1_2, ((hof_2 1003 (by omega) (by omega)).trans hMo.2.2.2.1), ((hof_2 1004 (by omega) (by omega)).trans hMo.2.2.2.2.1), ((hof_2 1005 (by omega) (by omega)).trans hMo.2.2.2.2.2.1), ((hof_2 1006 (by omega) (by omega)).trans hMo.2.2.2.2.2.2.1), ((hof_2 1007 (by omega) (by omega)).trans hMo.2.2.2.2.2.2.2.1), ((hof_2 1008 (by omega) (by omega)).trans hMo.2.2.2.2.2.2.2.2.1), ((hof_2 1009 (by omega) (by omega)).trans hMo.2.2.2.2.2.2.2.2.2.1), ((hof_2 1010 (by omega) (by omega)).trans hMo.2.2.2.2.2.2.2.2.2.2.1), ((hof_2 1011 (by omega) (by omega)).trans hMo.2.2.2.2.2.2.2.2.2.2.2.1), ((hof_2 1012 (by omega) (by omega)).trans hMo.2.2.2.2.2.2.2.2.2.2.2.2.1), ((hof_2 1013 (by omega) (by omega)).trans hMo.2.2.2.2.2.2.2.2.2.2.2.2.2.1), ((hof_2 1014 (by omega) (by omega)).trans hMo.2.2.2.2.2.2.2.2.2.2.2.2.2.2.1), ((hof_2 1015 (by omega) (by omega)).trans hMo.2.2.2.2.2.2.2.2.2.2.2.2.2.2.2.1), ((hof_2 1016 (by omega) (by omega)).trans hMo.2.2.2.2.2.2.2.2.2.2.2.2.2.2.2.2)⟩⟩⟩⟩⟩, by show rm_W D ad _ _ t.heap; rw [ht]; exact hW⟩, hS.F ht⟩) hS.2.2 dX6_path_27
    · skip
      subst hz
      have ho_2 : ∀ q, q ≠ 1000 → ct_2 q = ct_1 q := hqo
      have hof_2 : ∀ q, q ≠ 1000 → q ≠ 1002 → ct_2 q = ct q := fun q h0_2 h1_2 => (ho_2 q h0_2).trans (hof_1 q h0_2 h1_2)
      have hm0_2 : ct_2 1000 = some (.inr (6, [.int (jI 0), .int (jI ((yc : Nat) : Int)), .int (jI ((hc : Nat) : Int)), .ref (ad 1001), .ref (ad 1002), .ref (ad 1003), .ref (ad 1004), .ref (ad 1005), .ref (ad 1006), .ref (ad 1007), .ref (ad 1008), .ref (ad 1009), .ref (ad 1010), .ref (ad 1011), .ref (ad 1012), .ref (ad 1013), .ref (ad 1014), .ref (ad 1015), .ref (ad 1016)]) : va_E) := hqs
      have hm1_2 : ct_2 1002 = some (ri ty 384 (fl64 yM)) := (ho_2 1002 (by omega)).trans hm1_1
      obtain ⟨a9, hn_a9⟩ : ∃ a9 : Nat, p9 = (a9 : Int) := ⟨p9.toNat, by omega⟩
      subst hn_a9
      refine rm_if_eq (tgt := 26) hx hb ⟨by omega, by omega⟩ dX6_path_14 (by decide) (fun hq => absurd hq (by omega)) (fun _ => ?_)
      refine lv_aload_n hx hb dX6_path_17 rfl (lv_at hl 0 rfl) ?_
      refine lv_iload_n hx hb dX6_path_18 rfl (lv_at hl 1 rfl) ?_
      refine lv_iload_n hx hb dX6_path_19 rfl (lv_at hl 3 rfl) ?_
      refine rm_calli (va_runV (As := [.int (jI ((y9 : Nat) : Int)), .int (jI r9)]) (rest := []) ⟨hx, hb, hml, hown, hts⟩ (c_X6_isPlace l D ty ad ct_2 H.size 0 yc hc yn yM yu hy hg hf mA pt ro ke kt mu sl tw bw de ⟨hm0_2, ((hof_2 1001 (by omega) (by omega)).trans hMo.2.1), hm1_2, ((hof_2 1003 (by omega) (by omega)).trans hMo.2.2.2.1), ((hof_2 1004 (by omega) (by omega)).trans hMo.2.2.2.2.1), ((hof_2 1005 (by omega) (by omega)).trans hMo.2.2.2.2.2.1), ((hof_2 1006 (by omega) (by omega)).trans hMo.2.2.2.2.2.2.1), ((hof_2 1007 (by omega) (by omega)).trans hMo.2.2.2.2.2.2.2.1), ((hof_2 1008 (by omega) (by omega)).trans hMo.2.2.2.2.2.2.2.2.1), ((hof_2 1009 (by omega) (by omega)).trans hMo.2.2.2.2.2.2.2.2.2.1), ((hof_2 1010 (by omega) (by omega)).trans hMo.2.2.2.2.2.2.2.2.2.2.1), ((hof_2 1011 (by omega) (by omega)).trans hMo.2.2.2.2.2.2.2.2.2.2.2.1), ((hof_2 1012 (by omega) (by omega)).trans hMo.2.2.2.2.2.2.2.2.2.2.2.2.1), ((hof_2 1013 (by omega) (by omega)).trans hMo.2.2.2.2.2.2.2.2.2.2.2.2.2.1), ((hof_2 1014 (by omega) (by omega)).trans hMo.2.2.2.2.2.2.2.2.2.2.2.2.2.2.1), ((hof_2 1015 (by omega) (by omega)).trans hMo.2.2.2.2.2.2.2.2.2.2.2.2.2.2.2.1), ((hof_2 1016 (by omega) (by omega)).trans hMo.2.2.2.2.2.2.2.2.2.2.2.2.2.2.2.2)⟩ rfl y9 (by omega) hn8.2 r9 hr9) (cwV 2 hts gX6_path_X6_isPlace rfl rfl rfl (by decide +kernel) ⟨Nat.le_of_ble_eq_true rfl, Nat.le_of_ble_eq_true rfl⟩) (rm_preV hK hNw hW hm0_2 rfl) rfl rfl hl.1 rfl (lv_room (Nat.le_of_ble_eq_true rfl)) dX6_path_20 ⟨Nat.zero_le _, Nat.zero_le _⟩) hW hS hA (fun z_3 ct_3 H locs hq_3 hW hS => ?_)
      obtain ⟨hqo, hqc⟩ := hq_3
      rcases hqc with ⟨hbad, hz, hqs⟩ | ⟨hp1, hp2, hz, hqs⟩
      · skip
        subst hz
        have ho_3 : ∀ q, q ≠ 1000 → ct_3 q = ct_2 q := hqo
        have hof_3 : ∀ q, q ≠ 1000 → q ≠ 1002 → ct_3 q = ct q := fun q h0_3 h1_3 => (ho_3 q h0_3).trans (hof_2 q h0_3 h1_3)
        have hm0_3 : ct_3 1000 = some (.inr (6, [.int (jI 1), .int (jI ((yc : Nat) : Int)), .int (jI ((hc : Nat) : Int)), .ref (ad 1001), .ref (ad 1002), .ref (ad 1003), .ref (ad 1004), .ref (ad 1005), .ref (ad 1006), .ref (ad 1007), .ref (ad 1008), .ref (ad 1009), .ref (ad 1010), .ref (ad 1011), .ref (ad 1012), .ref (ad 1013), .ref (ad 1014), .ref (ad 1015), .ref (ad 1016)]) : va_E) := hqs
        have hm1_3 : ct_3 1002 = some (ri ty 384 (fl64 yM)) := (ho_3 1002 (by omega)).trans hm1_2
        refine rm_if_ne (tgt := 28) hx hb ⟨by omega, by omega⟩ dX6_path_23 (by decide) (fun hq => absurd hq (by omega)) (fun _ => ?_)
        refine lv_iconst (v := jI 0) hx hb dX6_path_26 rfl ?_
        exact W.iret hx hb hr (fun t ht hw => ⟨⟨_, (0, ct_3), rfl, ⟨rfl, ⟨(fun q hq9 => hof_3 q (by omega) (by omega)), Or.inl ⟨Or.inr ⟨y9, rfl, hy9, Or.inr hbad⟩, ⟨mA, pt, ro, ke, kt, mu, sl, tw, bw, de, ⟨hm0_3, ((hof_3 1001 (by omega) (by omega)).trans hMo.2.1), hm1_3, ((hof_3 1003 (by omega) (by omega)).trans hMo.2.2.2.1), ((hof_3 1004 (by omega) (by omega)).trans hMo.2.2.2.2.1), ((hof_3 1005 (by omega) (by omega)).trans hMo.2.2.2.2.2.1), ((hof_3 1006 (by omega) (by omega)).trans hMo.2.2.2.2.2.2.1), ((hof_3 1007 (by omega) (by omega)).trans hMo.2.2.2.2.2.2.2.1), ((hof_3 1008 (by omega) (by omega)).trans hMo.2.2.2.2.2.2.2.2.1), ((hof_3 1009 (by omega) (by omega)).trans hMo.2.2.2.2.2.2.2.2.2.1), ((hof_3 1010 (by omega) (by omega)).trans hMo.2.2.2.2.2.2.2.2.2.2.1), ((hof_3 1011 (by omega) (by omega)).trans hMo.2.2.2.2.2.2.2.2.2.2.2.1), ((hof_3 1012 (by omega) (by omega)).trans hMo.2.2.2.2.2.2.2.2.2.2.2.2.1), ((hof_3 1013 (by omega) (by omega)).trans hMo.2.2.2.2.2.2.2.2.2.2.2.2.2.1), ((hof_3 1014 (by omega) (by omega)).trans hMo.2.2.2.2.2.2.2.2.2.2.2.2.2.2.1), ((hof_3 1015 (by omega) (by omega)).trans hMo.2.2.2.2.2.2.2.2.2.2.2.2.2.2.2.1), ((hof_3 1016 (by omega) (by omega)).trans hMo.2.2.2.2.2.2.2.2.2.2.2.2.2.2.2.2)⟩⟩⟩⟩⟩, by show rm_W D ad _ _ t.heap; rw [ht]; exact hW⟩, hS.F ht⟩) hS.2.2 dX6_path_27
      · skip
        subst hz
        have ho_3 : ∀ q, q ≠ 1000 → ct_3 q = ct_2 q := hqo
        have hof_3 : ∀ q, q ≠ 1000 → q ≠ 1002 → ct_3 q = ct q := fun q h0_3 h1_3 => (ho_3 q h0_3).trans (hof_2 q h0_3 h1_3)
        have hm0_3 : ct_3 1000 = some (.inr (6, [.int (jI 0), .int (jI ((yc : Nat) : Int)), .int (jI ((hc : Nat) : Int)), .ref (ad 1001), .ref (ad 1002), .ref (ad 1003), .ref (ad 1004), .ref (ad 1005), .ref (ad 1006), .ref (ad 1007), .ref (ad 1008), .ref (ad 1009), .ref (ad 1010), .ref (ad 1011), .ref (ad 1012), .ref (ad 1013), .ref (ad 1014), .ref (ad 1015), .ref (ad 1016)]) : va_E) := hqs
        have hm1_3 : ct_3 1002 = some (ri ty 384 (fl64 yM)) := (ho_3 1002 (by omega)).trans hm1_2
        obtain ⟨b9, hn_b9⟩ : ∃ b9 : Nat, r9 = (b9 : Int) := ⟨r9.toNat, by omega⟩
        subst hn_b9
        refine rm_if_ne (tgt := 28) hx hb ⟨by omega, by omega⟩ dX6_path_23 (by decide) (fun _ => ?_) (fun hq => absurd hq (by omega))
        refine lv_iload hx hb dX6_path_28 (lv_at hl 4 rfl) ?_
        refine rm_if_lt (tgt := 53) hx hb ⟨by omega, by omega⟩ dX6_path_30 (by decide) (fun hc_4 => ?_) (fun hc_4 => ?_)
        · skip
          refine lv_iconst (v := jI (-1)) hx hb dX6_path_53 rfl ?_
          exact W.iret hx hb hr (fun t ht hw => ⟨⟨_, ((-1), ct_3), rfl, ⟨rfl, ⟨(fun q hq9 => hof_3 q (by omega) (by omega)), Or.inr ⟨y9, a9, b9, rfl, rfl, rfl, hy9, by omega, by omega, Or.inl ⟨by omega, rfl, ⟨mA, pt, ro, ke, kt, mu, sl, tw, bw, de, ⟨hm0_3, ((hof_3 1001 (by omega) (by omega)).trans hMo.2.1), hm1_3, ((hof_3 1003 (by omega) (by omega)).trans hMo.2.2.2.1), ((hof_3 1004 (by omega) (by omega)).trans hMo.2.2.2.2.1), ((hof_3 1005 (by omega) (by omega)).trans hMo.2.2.2.2.2.1), ((hof_3 1006 (by omega) (by omega)).trans hMo.2.2.2.2.2.2.1), ((hof_3 1007 (by omega) (by omega)).trans hMo.2.2.2.2.2.2.2.1), ((hof_3 1008 (by omega) (by omega)).trans hMo.2.2.2.2.2.2.2.2.1), ((hof_3 1009 (by omega) (by omega)).trans hMo.2.2.2.2.2.2.2.2.2.1), ((hof_3 1010 (by omega) (by omega)).trans hMo.2.2.2.2.2.2.2.2.2.2.1), ((hof_3 1011 (by omega) (by omega)).trans hMo.2.2.2.2.2.2.2.2.2.2.2.1), ((hof_3 1012 (by omega) (by omega)).trans hMo.2.2.2.2.2.2.2.2.2.2.2.2.1), ((hof_3 1013 (by omega) (by omega)).trans hMo.2.2.2.2.2.2.2.2.2.2.2.2.2.1), ((hof_3 1014 (by omega) (by omega)).trans hMo.2.2.2.2.2.2.2.2.2.2.2.2.2.2.1), ((hof_3 1015 (by omega) (by omega)).trans hMo.2.2.2.2.2.2.2.2.2.2.2.2.2.2.2.1), ((hof_3 1016 (by omega) (by omega)).trans hMo.2.2.2.2.2.2.2.2.2.2.2.2.2.2.2.2)⟩⟩⟩⟩⟩⟩, by show rm_W D ad _ _ t.heap; rw [ht]; exact hW⟩, hS.F ht⟩) hS.2.2 dX6_path_54
        · skip
          refine lv_iload hx hb dX6_path_33 (lv_at hl 4 rfl) ?_
          refine lv_iconst (v := jI 3) hx hb dX6_path_35 rfl ?_
          refine rm_icmp_gt (tgt := 53) hx hb ⟨by omega, by omega⟩ ⟨by omega, by omega⟩ dX6_path_36 (by decide) (fun hc_5 => ?_) (fun hc_5 => ?_)
          · skip
            refine lv_iconst (v := jI (-1)) hx hb dX6_path_53 rfl ?_
            exact W.iret hx hb hr (fun t ht hw => ⟨⟨_, ((-1), ct_3), rfl, ⟨rfl, ⟨(fun q hq9 => hof_3 q (by omega) (by omega)), Or.inr ⟨y9, a9, b9, rfl, rfl, rfl, hy9, by omega, by omega, Or.inl ⟨by omega, rfl, ⟨mA, pt, ro, ke, kt, mu, sl, tw, bw, de, ⟨hm0_3, ((hof_3 1001 (by omega) (by omega)).trans hMo.2.1), hm1_3, ((hof_3 1003 (by omega) (by omega)).trans hMo.2.2.2.1), ((hof_3 1004 (by omega) (by omega)).trans hMo.2.2.2.2.1), ((hof_3 1005 (by omega) (by omega)).trans hMo.2.2.2.2.2.1), ((hof_3 1006 (by omega) (by omega)).trans hMo.2.2.2.2.2.2.1), ((hof_3 1007 (by omega) (by omega)).trans hMo.2.2.2.2.2.2.2.1), ((hof_3 1008 (by omega) (by omega)).trans hMo.2.2.2.2.2.2.2.2.1), ((hof_3 1009 (by omega) (by omega)).trans hMo.2.2.2.2.2.2.2.2.2.1), ((hof_3 1010 (by omega) (by omega)).trans hMo.2.2.2.2.2.2.2.2.2.2.1), ((hof_3 1011 (by omega) (by omega)).trans hMo.2.2.2.2.2.2.2.2.2.2.2.1), ((hof_3 1012 (by omega) (by omega)).trans hMo.2.2.2.2.2.2.2.2.2.2.2.2.1), ((hof_3 1013 (by omega) (by omega)).trans hMo.2.2.2.2.2.2.2.2.2.2.2.2.2.1), ((hof_3 1014 (by omega) (by omega)).trans hMo.2.2.2.2.2.2.2.2.2.2.2.2.2.2.1), ((hof_3 1015 (by omega) (by omega)).trans hMo.2.2.2.2.2.2.2.2.2.2.2.2.2.2.2.1), ((hof_3 1016 (by omega) (by omega)).trans hMo.2.2.2.2.2.2.2.2.2.2.2.2.2.2.2.2)⟩⟩⟩⟩⟩⟩, by show rm_W D ad _ _ t.heap; rw [ht]; exact hW⟩, hS.F ht⟩) hS.2.2 dX6_path_54
          · skip
            refine lv_iload_n hx hb dX6_path_39 rfl (lv_at hl 2 rfl) ?_
            refine lv_iload_n hx hb dX6_path_40 rfl (lv_at hl 3 rfl) ?_
            refine rm_icmp_eq (tgt := 53) hx hb ⟨by omega, by omega⟩ ⟨by omega, by omega⟩ dX6_path_41 (by decide) (fun hc_6 => ?_) (fun hc_6 => ?_)
            · skip
              refine lv_iconst (v := jI (-1)) hx hb dX6_path_53 rfl ?_
              exact W.iret hx hb hr (fun t ht hw => ⟨⟨_, ((-1), ct_3), rfl, ⟨rfl, ⟨(fun q hq9 => hof_3 q (by omega) (by omega)), Or.inr ⟨y9, a9, b9, rfl, rfl, rfl, hy9, by omega, by omega, Or.inl ⟨by omega, rfl, ⟨mA, pt, ro, ke, kt, mu, sl, tw, bw, de, ⟨hm0_3, ((hof_3 1001 (by omega) (by omega)).trans hMo.2.1), hm1_3, ((hof_3 1003 (by omega) (by omega)).trans hMo.2.2.2.1), ((hof_3 1004 (by omega) (by omega)).trans hMo.2.2.2.2.1), ((hof_3 1005 (by omega) (by omega)).trans hMo.2.2.2.2.2.1), ((hof_3 1006 (by omega) (by omega)).trans hMo.2.2.2.2.2.2.1), ((hof_3 1007 (by omega) (by omega)).trans hMo.2.2.2.2.2.2.2.1), ((hof_3 1008 (by omega) (by omega)).trans hMo.2.2.2.2.2.2.2.2.1), ((hof_3 1009 (by omega) (by omega)).trans hMo.2.2.2.2.2.2.2.2.2.1), ((hof_3 1010 (by omega) (by omega)).trans hMo.2.2.2.2.2.2.2.2.2.2.1), ((hof_3 1011 (by omega) (by omega)).trans hMo.2.2.2.2.2.2.2.2.2.2.2.1), ((hof_3 1012 (by omega) (by omega)).trans hMo.2.2.2.2.2.2.2.2.2.2.2.2.1), ((hof_3 1013 (by omega) (by omega)).trans hMo.2.2.2.2.2.2.2.2.2.2.2.2.2.1), ((hof_3 1014 (by omega) (by omega)).trans hMo.2.2.2.2.2.2.2.2.2.2.2.2.2.2.1), ((hof_3 1015 (by omega) (by omega)).trans hMo.2.2.2.2.2.2.2.2.2.2.2.2.2.2.2.1), ((hof_3 1016 (by omega) (by omega)).trans hMo.2.2.2.2.2.2.2.2.2.2.2.2.2.2.2.2)⟩⟩⟩⟩⟩⟩, by show rm_W D ad _ _ t.heap; rw [ht]; exact hW⟩, hS.F ht⟩) hS.2.2 dX6_path_54
            · skip
              refine lv_aload_n hx hb dX6_path_44 rfl (lv_at hl 0 rfl) ?_
              refine rm_get (ci := 6) (v := .ref (ad 1004)) (C := RX6) (T := TX6) (N := 19) hx hb hts (by decide +kernel) hown hK hW hm0_3 rfl 6 (by decide) (hts (.fieldLink RX6 19 "GrainYardModel" "isUsed" "[Z") (by decide +kernel)) (fun _ h9 => h9) rfl dX6_path_45 ?_
              refine lv_iload_n hx hb dX6_path_48 rfl (lv_at hl 1 rfl) ?_
              refine rm_zald hx hb hK hW (f := yu) ((hof_3 1004 (by omega) (by omega)).trans hMo.2.2.2.2.1) y9 rfl (by omega) (by omega) dX6_path_49 ?_
              refine rm_if_eq (tgt := 55) hx hb ⟨by omega, by omega⟩ dX6_path_50 (by decide) (fun hc_7 => ?_) (fun hc_7 => ?_)
              · skip
                refine lv_aload_n hx hb dX6_path_55 rfl (lv_at hl 0 rfl) ?_
                refine lv_iload_n hx hb dX6_path_56 rfl (lv_at hl 1 rfl) ?_
                refine lv_iload_n hx hb dX6_path_57 rfl (lv_at hl 2 rfl) ?_
                refine lv_iload_n hx hb dX6_path_58 rfl (lv_at hl 3 rfl) ?_
                refine rm_calli (va_runV (As := [.int (jI ((y9 : Nat) : Int)), .int (jI ((a9 : Nat) : Int)), .int (jI ((b9 : Nat) : Int))]) (rest := []) ⟨hx, hb, hml, hown, hts⟩ (c_X6_between l D ty ad ct_3 H.size 0 yc hc yn yM yu hy hg hf mA pt ro ke kt mu sl tw bw de ⟨hm0_3, ((hof_3 1001 (by omega) (by omega)).trans hMo.2.1), hm1_3, ((hof_3 1003 (by omega) (by omega)).trans hMo.2.2.2.1), ((hof_3 1004 (by omega) (by omega)).trans hMo.2.2.2.2.1), ((hof_3 1005 (by omega) (by omega)).trans hMo.2.2.2.2.2.1), ((hof_3 1006 (by omega) (by omega)).trans hMo.2.2.2.2.2.2.1), ((hof_3 1007 (by omega) (by omega)).trans hMo.2.2.2.2.2.2.2.1), ((hof_3 1008 (by omega) (by omega)).trans hMo.2.2.2.2.2.2.2.2.1), ((hof_3 1009 (by omega) (by omega)).trans hMo.2.2.2.2.2.2.2.2.2.1), ((hof_3 1010 (by omega) (by omega)).trans hMo.2.2.2.2.2.2.2.2.2.2.1), ((hof_3 1011 (by omega) (by omega)).trans hMo.2.2.2.2.2.2.2.2.2.2.2.1), ((hof_3 1012 (by omega) (by omega)).trans hMo.2.2.2.2.2.2.2.2.2.2.2.2.1), ((hof_3 1013 (by omega) (by omega)).trans hMo.2.2.2.2.2.2.2.2.2.2.2.2.2.1), ((hof_3 1014 (by omega) (by omega)).trans hMo.2.2.2.2.2.2.2.2.2.2.2.2.2.2.1), ((hof_3 1015 (by omega) (by omega)).trans hMo.2.2.2.2.2.2.2.2.2.2.2.2.2.2.2.1), ((hof_3 1016 (by omega) (by omega)).trans hMo.2.2.2.2.2.2.2.2.2.2.2.2.2.2.2.2)⟩ y9 a9 b9 (by omega) (by omega) (by omega)) (cwV 3 hts gX6_path_X6_between rfl rfl rfl (by decide +kernel) ⟨Nat.le_of_ble_eq_true rfl, Nat.le_of_ble_eq_true rfl⟩) (rm_preV hK hNw hW hm0_3 rfl) rfl rfl hl.1 rfl (lv_room (Nat.le_of_ble_eq_true rfl)) dX6_path_59 ⟨Nat.zero_le _, Nat.zero_le _⟩) hW hS hA (fun z_8 ct_8 H locs hq_8 hW hS => ?_)
                obtain ⟨hz, hcc_8⟩ := hq_8
                have hcc_8 := hcc_8.symm
                subst hcc_8
                subst hz
                refine lv_istore (lv' := [(5, .int (jI (yM y9 a9 b9))), (0, .ref (ad 1000)), (1, .int (jI ((y9 : Nat) : Int))), (2, .int (jI ((a9 : Nat) : Int))), (3, .int (jI ((b9 : Nat) : Int))), (4, .int (jI n9))]) hx hb dX6_path_62 hl (by decide) rfl (fun ls hl => ?_)
                refine lv_aload_n hx hb dX6_path_64 rfl (lv_at hl 1 rfl) ?_
                refine rm_get (ci := 6) (v := .ref (ad 1002)) (C := RX6) (T := TX6) (N := 19) hx hb hts (by decide +kernel) hown hK hW hm0_3 rfl 4 (by decide) (hts (.fieldLink RX6 13 "GrainYardModel" "paths" "[I") (by decide +kernel)) (fun _ h9 => h9) rfl dX6_path_65 ?_
                refine lv_bipush (v := jI 64) hx hb dX6_path_68 (by decide) ?_
                refine lv_iload_n hx hb dX6_path_70 rfl (lv_at hl 2 rfl) ?_
                refine rm_imul hx hb dX6_path_71 ?_
                refine lv_bipush (v := jI 8) hx hb dX6_path_72 (by decide) ?_
                refine lv_iload_n hx hb dX6_path_74 rfl (lv_at hl 3 rfl) ?_
                refine rm_imul hx hb dX6_path_75 ?_
                refine rm_iadd hx hb dX6_path_76 ?_
                refine lv_iload_n hx hb dX6_path_77 rfl (lv_at hl 4 rfl) ?_
                refine rm_iadd hx hb dX6_path_78 ?_
                refine lv_iload hx hb dX6_path_79 (lv_at hl 5 rfl) ?_
                refine rm_iast hx hb hK hW hS (f := (fl64 yM)) hm1_3 (64 * y9 + 8 * a9 + b9) (by first | rfl | (push_cast; omega)) (by omega) (by omega) dX6_path_81 (fun H locs ct_9 hs_9 ho_9 hW hS hz_9 => ?_)
                have hof_9 : ∀ q, q ≠ 1000 → q ≠ 1002 → ct_9 q = ct q := fun q h0_9 h1_9 => (ho_9 q h1_9).trans (hof_3 q h0_9 h1_9)
                have hm0_9 : ct_9 1000 = some (.inr (6, [.int (jI 0), .int (jI ((yc : Nat) : Int)), .int (jI ((hc : Nat) : Int)), .ref (ad 1001), .ref (ad 1002), .ref (ad 1003), .ref (ad 1004), .ref (ad 1005), .ref (ad 1006), .ref (ad 1007), .ref (ad 1008), .ref (ad 1009), .ref (ad 1010), .ref (ad 1011), .ref (ad 1012), .ref (ad 1013), .ref (ad 1014), .ref (ad 1015), .ref (ad 1016)]) : va_E) := (ho_9 1000 (by omega)).trans hm0_3
                have hk_10 : ct_9 1002 = some (ri ty 384 (fl64 (ub yM y9 (ub (yM y9) a9 (ub (yM y9 a9) b9 n9))))) := hs_9.trans (congrArg (fun f => some (ri ty 384 f)) (fl64_ub (by omega) (by omega) _ _))
                refine lv_aload_n hx hb dX6_path_82 rfl (lv_at hl 1 rfl) ?_
                refine rm_get (ci := 6) (v := .ref (ad 1002)) (C := RX6) (T := TX6) (N := 19) hx hb hts (by decide +kernel) hown hK hW hm0_9 rfl 4 (by decide) (hts (.fieldLink RX6 13 "GrainYardModel" "paths" "[I") (by decide +kernel)) (fun _ h9 => h9) rfl dX6_path_83 ?_
                refine lv_bipush (v := jI 64) hx hb dX6_path_86 (by decide) ?_
                refine lv_iload_n hx hb dX6_path_88 rfl (lv_at hl 2 rfl) ?_
                refine rm_imul hx hb dX6_path_89 ?_
                refine lv_bipush (v := jI 8) hx hb dX6_path_90 (by decide) ?_
                refine lv_iload_n hx hb dX6_path_92 rfl (lv_at hl 4 rfl) ?_
                refine rm_imul hx hb dX6_path_93 ?_
                refine rm_iadd hx hb dX6_path_94 ?_
                refine lv_iload_n hx hb dX6_path_95 rfl (lv_at hl 3 rfl) ?_
                refine rm_iadd hx hb dX6_path_96 ?_
                refine lv_iload hx hb dX6_path_97 (lv_at hl 5 rfl) ?_
                refine rm_iast hx hb hK hW hS (f := (fl64 (ub yM y9 (ub (yM y9) a9 (ub (yM y9 a9) b9 n9))))) hk_10 (64 * y9 + 8 * b9 + a9) (by first | rfl | (push_cast; omega)) (by omega) (by omega) dX6_path_99 (fun H locs ct_11 hs_11 ho_11 hW hS hz_11 => ?_)
                have hof_11 : ∀ q, q ≠ 1000 → q ≠ 1002 → ct_11 q = ct q := fun q h0_11 h1_11 => (ho_11 q h1_11).trans (hof_9 q h0_11 h1_11)
                have hm0_11 : ct_11 1000 = some (.inr (6, [.int (jI 0), .int (jI ((yc : Nat) : Int)), .int (jI ((hc : Nat) : Int)), .ref (ad 1001), .ref (ad 1002), .ref (ad 1003), .ref (ad 1004), .ref (ad 1005), .ref (ad 1006), .ref (ad 1007), .ref (ad 1008), .ref (ad 1009), .ref (ad 1010), .ref (ad 1011), .ref (ad 1012), .ref (ad 1013), .ref (ad 1014), .ref (ad 1015), .ref (ad 1016)]) : va_E) := (ho_11 1000 (by omega)).trans hm0_9
                have hk_12 : ct_11 1002 = some (ri ty 384 (fl64 (ub (ub yM y9 (ub (yM y9) a9 (ub (yM y9 a9) b9 n9))) y9 (ub ((ub yM y9 (ub (yM y9) a9 (ub (yM y9 a9) b9 n9))) y9) b9 (ub ((ub yM y9 (ub (yM y9) a9 (ub (yM y9 a9) b9 n9))) y9 b9) a9 n9))))) := hs_11.trans (congrArg (fun f => some (ri ty 384 f)) (fl64_ub (by omega) (by omega) _ _))
                refine lv_iload hx hb dX6_path_100 (lv_at hl 0 rfl) ?_
                have hk_13 : ct_11 1002 = some (ri ty 384 (fl64 (us yM y9 (lyM (yM y9) a9 b9 n9)))) := hk_12.trans (congrArg (fun G => some (ri ty 384 (fl64 G))) (by rw [ub_s, ub_ub, lyM_eq (fun h => by omega)]; rfl))
                exact W.iret hx hb hr (fun t ht hw => ⟨⟨_, ((yM y9 a9 b9), ct_11), rfl, ⟨rfl, ⟨(fun q hq9 => hof_11 q (by omega) (by omega)), Or.inr ⟨y9, a9, b9, rfl, rfl, rfl, hy9, by omega, by omega, Or.inr ⟨by omega, by omega, by omega, by omega, rfl, ⟨mA, pt, ro, ke, kt, mu, sl, tw, bw, de, ⟨hm0_11, ((hof_11 1001 (by omega) (by omega)).trans hMo.2.1), hk_13, ((hof_11 1003 (by omega) (by omega)).trans hMo.2.2.2.1), ((hof_11 1004 (by omega) (by omega)).trans hMo.2.2.2.2.1), ((hof_11 1005 (by omega) (by omega)).trans hMo.2.2.2.2.2.1), ((hof_11 1006 (by omega) (by omega)).trans hMo.2.2.2.2.2.2.1), ((hof_11 1007 (by omega) (by omega)).trans hMo.2.2.2.2.2.2.2.1), ((hof_11 1008 (by omega) (by omega)).trans hMo.2.2.2.2.2.2.2.2.1), ((hof_11 1009 (by omega) (by omega)).trans hMo.2.2.2.2.2.2.2.2.2.1), ((hof_11 1010 (by omega) (by omega)).trans hMo.2.2.2.2.2.2.2.2.2.2.1), ((hof_11 1011 (by omega) (by omega)).trans hMo.2.2.2.2.2.2.2.2.2.2.2.1), ((hof_11 1012 (by omega) (by omega)).trans hMo.2.2.2.2.2.2.2.2.2.2.2.2.1), ((hof_11 1013 (by omega) (by omega)).trans hMo.2.2.2.2.2.2.2.2.2.2.2.2.2.1), ((hof_11 1014 (by omega) (by omega)).trans hMo.2.2.2.2.2.2.2.2.2.2.2.2.2.2.1), ((hof_11 1015 (by omega) (by omega)).trans hMo.2.2.2.2.2.2.2.2.2.2.2.2.2.2.2.1), ((hof_11 1016 (by omega) (by omega)).trans hMo.2.2.2.2.2.2.2.2.2.2.2.2.2.2.2.2)⟩⟩⟩⟩⟩⟩, by show rm_W D ad _ _ t.heap; rw [ht]; exact hW⟩, hS.F ht⟩) hS.2.2 dX6_path_102
              · skip
                refine lv_iconst (v := jI (-1)) hx hb dX6_path_53 rfl ?_
                exact W.iret hx hb hr (fun t ht hw => ⟨⟨_, ((-1), ct_3), rfl, ⟨rfl, ⟨(fun q hq9 => hof_3 q (by omega) (by omega)), Or.inr ⟨y9, a9, b9, rfl, rfl, rfl, hy9, by omega, by omega, Or.inl ⟨by omega, rfl, ⟨mA, pt, ro, ke, kt, mu, sl, tw, bw, de, ⟨hm0_3, ((hof_3 1001 (by omega) (by omega)).trans hMo.2.1), hm1_3, ((hof_3 1003 (by omega) (by omega)).trans hMo.2.2.2.1), ((hof_3 1004 (by omega) (by omega)).trans hMo.2.2.2.2.1), ((hof_3 1005 (by omega) (by omega)).trans hMo.2.2.2.2.2.1), ((hof_3 1006 (by omega) (by omega)).trans hMo.2.2.2.2.2.2.1), ((hof_3 1007 (by omega) (by omega)).trans hMo.2.2.2.2.2.2.2.1), ((hof_3 1008 (by omega) (by omega)).trans hMo.2.2.2.2.2.2.2.2.1), ((hof_3 1009 (by omega) (by omega)).trans hMo.2.2.2.2.2.2.2.2.2.1), ((hof_3 1010 (by omega) (by omega)).trans hMo.2.2.2.2.2.2.2.2.2.2.1), ((hof_3 1011 (by omega) (by omega)).trans hMo.2.2.2.2.2.2.2.2.2.2.2.1), ((hof_3 1012 (by omega) (by omega)).trans hMo.2.2.2.2.2.2.2.2.2.2.2.2.1), ((hof_3 1013 (by omega) (by omega)).trans hMo.2.2.2.2.2.2.2.2.2.2.2.2.2.1), ((hof_3 1014 (by omega) (by omega)).trans hMo.2.2.2.2.2.2.2.2.2.2.2.2.2.2.1), ((hof_3 1015 (by omega) (by omega)).trans hMo.2.2.2.2.2.2.2.2.2.2.2.2.2.2.2.1), ((hof_3 1016 (by omega) (by omega)).trans hMo.2.2.2.2.2.2.2.2.2.2.2.2.2.2.2.2)⟩⟩⟩⟩⟩⟩, by show rm_W D ad _ _ t.heap; rw [ht]; exact hW⟩, hS.F ht⟩) hS.2.2 dX6_path_54
set_option maxHeartbeats 4000000 in
set_option maxRecDepth 100000 in
theorem c_X6_degree (l : Launch) (D : va_G) (ty : Nat → ClassId) (ad : Nat → Nat) (ct : rm_C) (sz : Nat) (th : Int) (yc hc : Nat) (yn : Nat → Nat) (yM : Nat → Nat → Nat → Int) (yu : Nat → Int) (hy : Nat → Nat) (hg hf mA : Nat → Nat → Int) (pt ro ke kt mu sl tw bw de : Nat → Int) (hMo : ModAt ty ad ct th yc hc yn yM yu hy hg hf mA pt ro ke kt mu sl tw bw de) (hb20 : yc ≤ 6 ∧ hc ≤ 20) (hyn : ∀ y, y < yc → 2 ≤ yn y ∧ yn y ≤ 8) (hyM : ∀ y, y < yc → ∀ i j, 0 ≤ yM y i j ∧ yM y i j ≤ 3) (z9 p9 : Int) (hz9 : r32 z9) (hp9 : r32 p9) : Met l yX6_degree wsX6_degree ({ frames := 2, cells := 0, slots := 0, locals := 47 }) (rm_P D ty ad ct sz [.ref (ad 1000), .int (jI z9), .int (jI p9)]) (rm_Qi D ad ct sz (fun z ct1 => (∀ q, (q < 1000 ∨ 1016 < q) → ct1 q = ct q) ∧ ((((z9 < 0 ∨ ((yc : Nat) : Int) ≤ z9) ∨ ∃ y9 : Nat, z9 = (y9 : Int) ∧ y9 < yc ∧ (p9 < 0 ∨ (yn y9 : Int) ≤ p9)) ∧ ModX ty ad ct1 1 yc hc yn yM yu hy hg hf) ∨ ∃ y9 q9 : Nat, z9 = (y9 : Int) ∧ p9 = (q9 : Int) ∧ y9 < yc ∧ q9 < yn y9 ∧ z = dg (yn y9) (yM y9) q9 ∧ ModX ty ad ct1 0 yc hc yn yM yu hy hg hf))) 0 0 (rm_A ad ct sz) := by
  refine Met.ofW (cc := cX6_degree) (maxL := 3) (ret := (some .int)) (by decide) rfl ?_
  intro p e s m args below meth c s₁ B hml hv
  obtain ⟨hargs, hsz, hW, hK, hNw⟩ := hv
  have hx := B.exec
  have hb := B.bytes
  have hr := B.returns
  have hts := atoms_spec (ws := wsX6_degree) B.pre
  have hown : s.vm.findClass RX6 = some m.cls := findClass_of_methodNamed B.named
  have hlocks := B.notSynchronized
  subst hsz
  have hW := hW.own (sz := s.heap.size)
  have hA : ∀ q : Nat, s.heap.size ≤ q → rm_A ad ct s.heap.size q := fun q h => Or.inr h
  have hS : va_S (rm_A ad ct s.heap.size) s.heap s.heap [] := va_S.rf
  have hent : entryFrame m args 3 = entryFrame m ([.ref (ad 1000), .int (jI z9), .int (jI p9)] : List Value).toArray 3 := by rw [hargs]
  have hl := lv_entry ([.ref (ad 1000), .int (jI z9), .int (jI p9)]) (n := 3) (Nat.le_of_ble_eq_true rfl)
  rw [hent, lg_entry_eq]
  generalize (lg_sl ([.ref (ad 1000), .int (jI z9), .int (jI p9)]) ++ List.replicate (3 - (lg_sl ([.ref (ad 1000), .int (jI z9), .int (jI p9)])).length) Slot.unset).toArray = ls at hl ⊢
  have hl : lv_has ls 3 [(0, .ref (ad 1000)), (1, .int (jI z9)), (2, .int (jI p9))] := hl
  refine lv_aload_n hx hb dX6_degree_0 rfl (lv_at hl 0 rfl) ?_
  refine lv_iload_n hx hb dX6_degree_1 rfl (lv_at hl 1 rfl) ?_
  refine rm_calli (va_runV (As := [.int (jI z9)]) (rest := []) ⟨hx, hb, hml, hown, hts⟩ (c_X6_isYard l D ty ad ct s.heap.size th yc hc yn yM yu hy hg hf mA pt ro ke kt mu sl tw bw de hMo z9 hz9 hb20) (cwV 1 hts gX6_degree_X6_isYard rfl rfl rfl (by decide +kernel) ⟨Nat.le_of_ble_eq_true rfl, Nat.le_of_ble_eq_true rfl⟩) (rm_preV hK hNw hW hMo.1 rfl) rfl rfl hl.1 rfl (lv_room (Nat.le_of_ble_eq_true rfl)) dX6_degree_2 ⟨Nat.zero_le _, Nat.zero_le _⟩) hW hS hA (fun z_1 ct_1 H locs hq_1 hW hS => ?_)
  obtain ⟨hqo, hqc⟩ := hq_1
  rcases hqc with ⟨hbad, hz, hqs⟩ | ⟨hp1, hp2, hz, hqs⟩
  · skip
    subst hz
    have ho_1 : ∀ q, q ≠ 1000 → ct_1 q = ct q := hqo
    have hof_1 : ∀ q, q ≠ 1000 → ct_1 q = ct q := fun q h0_1 => (ho_1 q h0_1).trans rfl
    have hm0_1 : ct_1 1000 = some (.inr (6, [.int (jI 1), .int (jI ((yc : Nat) : Int)), .int (jI ((hc : Nat) : Int)), .ref (ad 1001), .ref (ad 1002), .ref (ad 1003), .ref (ad 1004), .ref (ad 1005), .ref (ad 1006), .ref (ad 1007), .ref (ad 1008), .ref (ad 1009), .ref (ad 1010), .ref (ad 1011), .ref (ad 1012), .ref (ad 1013), .ref (ad 1014), .ref (ad 1015), .ref (ad 1016)]) : va_E) := hqs
    refine rm_if_eq (tgt := 26) hx hb ⟨by omega, by omega⟩ dX6_degree_5 (by decide) (fun _ => ?_) (fun hq => absurd hq (by omega))
    refine lv_iconst (v := jI 0) hx hb dX6_degree_26 rfl ?_
    exact W.iret hx hb hr (fun t ht hw => ⟨⟨_, (0, ct_1), rfl, ⟨rfl, ⟨(fun q hq9 => hof_1 q (by omega)), Or.inl ⟨Or.inl hbad, ⟨mA, pt, ro, ke, kt, mu, sl, tw, bw, de, ⟨hm0_1, ((hof_1 1001 (by omega)).trans hMo.2.1), ((hof_1 1002 (by omega)).trans hMo.2.2.1), ((hof_1 1003 (by omega)).trans hMo.2.2.2.1), ((hof_1 1004 (by omega)).trans hMo.2.2.2.2.1), ((hof_1 1005 (by omega)).trans hMo.2.2.2.2.2.1), ((hof_1 1006 (by omega)).trans hMo.2.2.2.2.2.2.1), ((hof_1 1007 (by omega)).trans hMo.2.2.2.2.2.2.2.1), ((hof_1 1008 (by omega)).trans hMo.2.2.2.2.2.2.2.2.1), ((hof_1 1009 (by omega)).trans hMo.2.2.2.2.2.2.2.2.2.1), ((hof_1 1010 (by omega)).trans hMo.2.2.2.2.2.2.2.2.2.2.1), ((hof_1 1011 (by omega)).trans hMo.2.2.2.2.2.2.2.2.2.2.2.1), ((hof_1 1012 (by omega)).trans hMo.2.2.2.2.2.2.2.2.2.2.2.2.1), ((hof_1 1013 (by omega)).trans hMo.2.2.2.2.2.2.2.2.2.2.2.2.2.1), ((hof_1 1014 (by omega)).trans hMo.2.2.2.2.2.2.2.2.2.2.2.2.2.2.1), ((hof_1 1015 (by omega)).trans hMo.2.2.2.2.2.2.2.2.2.2.2.2.2.2.2.1), ((hof_1 1016 (by omega)).trans hMo.2.2.2.2.2.2.2.2.2.2.2.2.2.2.2.2)⟩⟩⟩⟩⟩, by show rm_W D ad _ _ t.heap; rw [ht]; exact hW⟩, hS.F ht⟩) hS.2.2 dX6_degree_27
  · skip
    subst hz
    have ho_1 : ∀ q, q ≠ 1000 → ct_1 q = ct q := hqo
    have hof_1 : ∀ q, q ≠ 1000 → ct_1 q = ct q := fun q h0_1 => (ho_1 q h0_1).trans rfl
    have hm0_1 : ct_1 1000 = some (.inr (6, [.int (jI 0), .int (jI ((yc : Nat) : Int)), .int (jI ((hc : Nat) : Int)), .ref (ad 1001), .ref (ad 1002), .ref (ad 1003), .ref (ad 1004), .ref (ad 1005), .ref (ad 1006), .ref (ad 1007), .ref (ad 1008), .ref (ad 1009), .ref (ad 1010), .ref (ad 1011), .ref (ad 1012), .ref (ad 1013), .ref (ad 1014), .ref (ad 1015), .ref (ad 1016)]) : va_E) := hqs
    obtain ⟨y9, hn_y9⟩ : ∃ y9 : Nat, z9 = (y9 : Int) := ⟨z9.toNat, by omega⟩
    subst hn_y9
    have hy9 : y9 < yc := by omega
    have hn8 := hyn y9 hy9
    have hM8 := hyM y9 hy9
    refine rm_if_eq (tgt := 26) hx hb ⟨by omega, by omega⟩ dX6_degree_5 (by decide) (fun hq => absurd hq (by omega)) (fun _ => ?_)
    refine lv_aload_n hx hb dX6_degree_8 rfl (lv_at hl 0 rfl) ?_
    refine lv_iload_n hx hb dX6_degree_9 rfl (lv_at hl 1 rfl) ?_
    refine lv_iload_n hx hb dX6_degree_10 rfl (lv_at hl 2 rfl) ?_
    refine rm_calli (va_runV (As := [.int (jI ((y9 : Nat) : Int)), .int (jI p9)]) (rest := []) ⟨hx, hb, hml, hown, hts⟩ (c_X6_isPlace l D ty ad ct_1 H.size 0 yc hc yn yM yu hy hg hf mA pt ro ke kt mu sl tw bw de ⟨hm0_1, ((hof_1 1001 (by omega)).trans hMo.2.1), ((hof_1 1002 (by omega)).trans hMo.2.2.1), ((hof_1 1003 (by omega)).trans hMo.2.2.2.1), ((hof_1 1004 (by omega)).trans hMo.2.2.2.2.1), ((hof_1 1005 (by omega)).trans hMo.2.2.2.2.2.1), ((hof_1 1006 (by omega)).trans hMo.2.2.2.2.2.2.1), ((hof_1 1007 (by omega)).trans hMo.2.2.2.2.2.2.2.1), ((hof_1 1008 (by omega)).trans hMo.2.2.2.2.2.2.2.2.1), ((hof_1 1009 (by omega)).trans hMo.2.2.2.2.2.2.2.2.2.1), ((hof_1 1010 (by omega)).trans hMo.2.2.2.2.2.2.2.2.2.2.1), ((hof_1 1011 (by omega)).trans hMo.2.2.2.2.2.2.2.2.2.2.2.1), ((hof_1 1012 (by omega)).trans hMo.2.2.2.2.2.2.2.2.2.2.2.2.1), ((hof_1 1013 (by omega)).trans hMo.2.2.2.2.2.2.2.2.2.2.2.2.2.1), ((hof_1 1014 (by omega)).trans hMo.2.2.2.2.2.2.2.2.2.2.2.2.2.2.1), ((hof_1 1015 (by omega)).trans hMo.2.2.2.2.2.2.2.2.2.2.2.2.2.2.2.1), ((hof_1 1016 (by omega)).trans hMo.2.2.2.2.2.2.2.2.2.2.2.2.2.2.2.2)⟩ rfl y9 (by omega) hn8.2 p9 hp9) (cwV 2 hts gX6_degree_X6_isPlace rfl rfl rfl (by decide +kernel) ⟨Nat.le_of_ble_eq_true rfl, Nat.le_of_ble_eq_true rfl⟩) (rm_preV hK hNw hW hm0_1 rfl) rfl rfl hl.1 rfl (lv_room (Nat.le_of_ble_eq_true rfl)) dX6_degree_11 ⟨Nat.zero_le _, Nat.zero_le _⟩) hW hS hA (fun z_2 ct_2 H locs hq_2 hW hS => ?_)
    obtain ⟨hqo, hqc⟩ := hq_2
    rcases hqc with ⟨hbad, hz, hqs⟩ | ⟨hp1, hp2, hz, hqs⟩
    · skip
      subst hz
      have ho_2 : ∀ q, q ≠ 1000 → ct_2 q = ct_1 q := hqo
      have hof_2 : ∀ q, q ≠ 1000 → ct_2 q = ct q := fun q h0_2 => (ho_2 q h0_2).trans (hof_1 q h0_2)
      have hm0_2 : ct_2 1000 = some (.inr (6, [.int (jI 1), .int (jI ((yc : Nat) : Int)), .int (jI ((hc : Nat) : Int)), .ref (ad 1001), .ref (ad 1002), .ref (ad 1003), .ref (ad 1004), .ref (ad 1005), .ref (ad 1006), .ref (ad 1007), .ref (ad 1008), .ref (ad 1009), .ref (ad 1010), .ref (ad 1011), .ref (ad 1012), .ref (ad 1013), .ref (ad 1014), .ref (ad 1015), .ref (ad 1016)]) : va_E) := hqs
      refine rm_if_eq (tgt := 26) hx hb ⟨by omega, by omega⟩ dX6_degree_14 (by decide) (fun _ => ?_) (fun hq => absurd hq (by omega))
      refine lv_iconst (v := jI 0) hx hb dX6_degree_26 rfl ?_
      exact W.iret hx hb hr (fun t ht hw => ⟨⟨_, (0, ct_2), rfl, ⟨rfl, ⟨(fun q hq9 => hof_2 q (by omega)), Or.inl ⟨Or.inr ⟨y9, rfl, hy9, hbad⟩, ⟨mA, pt, ro, ke, kt, mu, sl, tw, bw, de, ⟨hm0_2, ((hof_2 1001 (by omega)).trans hMo.2.1), ((hof_2 1002 (by omega)).trans hMo.2.2.1), ((hof_2 1003 (by omega)).trans hMo.2.2.2.1), ((hof_2 1004 (by omega)).trans hMo.2.2.2.2.1), ((hof_2 1005 (by omega)).trans hMo.2.2.2.2.2.1), ((hof_2 1006 (by omega)).trans hMo.2.2.2.2.2.2.1), ((hof_2 1007 (by omega)).trans hMo.2.2.2.2.2.2.2.1), ((hof_2 1008 (by omega)).trans hMo.2.2.2.2.2.2.2.2.1), ((hof_2 1009 (by omega)).trans hMo.2.2.2.2.2.2.2.2.2.1), ((hof_2 1010 (by omega)).trans hMo.2.2.2.2.2.2.2.2.2.2.1), ((hof_2 1011 (by omega)).trans hMo.2.2.2.2.2.2.2.2.2.2.2.1), ((hof_2 1012 (by omega)).trans hMo.2.2.2.2.2.2.2.2.2.2.2.2.1), ((hof_2 1013 (by omega)).trans hMo.2.2.2.2.2.2.2.2.2.2.2.2.2.1), ((hof_2 1014 (by omega)).trans hMo.2.2.2.2.2.2.2.2.2.2.2.2.2.2.1), ((hof_2 1015 (by omega)).trans hMo.2.2.2.2.2.2.2.2.2.2.2.2.2.2.2.1), ((hof_2 1016 (by omega)).trans hMo.2.2.2.2.2.2.2.2.2.2.2.2.2.2.2.2)⟩⟩⟩⟩⟩, by show rm_W D ad _ _ t.heap; rw [ht]; exact hW⟩, hS.F ht⟩) hS.2.2 dX6_degree_27
    · skip
      subst hz
      have ho_2 : ∀ q, q ≠ 1000 → ct_2 q = ct_1 q := hqo
      have hof_2 : ∀ q, q ≠ 1000 → ct_2 q = ct q := fun q h0_2 => (ho_2 q h0_2).trans (hof_1 q h0_2)
      have hm0_2 : ct_2 1000 = some (.inr (6, [.int (jI 0), .int (jI ((yc : Nat) : Int)), .int (jI ((hc : Nat) : Int)), .ref (ad 1001), .ref (ad 1002), .ref (ad 1003), .ref (ad 1004), .ref (ad 1005), .ref (ad 1006), .ref (ad 1007), .ref (ad 1008), .ref (ad 1009), .ref (ad 1010), .ref (ad 1011), .ref (ad 1012), .ref (ad 1013), .ref (ad 1014), .ref (ad 1015), .ref (ad 1016)]) : va_E) := hqs
      obtain ⟨q9, hn_q9⟩ : ∃ q9 : Nat, p9 = (q9 : Int) := ⟨p9.toNat, by omega⟩
      subst hn_q9
      refine rm_if_eq (tgt := 26) hx hb ⟨by omega, by omega⟩ dX6_degree_14 (by decide) (fun hq => absurd hq (by omega)) (fun _ => ?_)
      refine lv_aload_n hx hb dX6_degree_17 rfl (lv_at hl 0 rfl) ?_
      refine lv_iload_n hx hb dX6_degree_18 rfl (lv_at hl 1 rfl) ?_
      refine lv_iload_n hx hb dX6_degree_19 rfl (lv_at hl 2 rfl) ?_
      refine rm_calli (va_runV (As := [.int (jI ((y9 : Nat) : Int)), .int (jI ((q9 : Nat) : Int))]) (rest := []) ⟨hx, hb, hml, hown, hts⟩ (c_X6_degreeOf l D ty ad ct_2 H.size 0 yc hc yn yM yu hy hg hf mA pt ro ke kt mu sl tw bw de ⟨hm0_2, ((hof_2 1001 (by omega)).trans hMo.2.1), ((hof_2 1002 (by omega)).trans hMo.2.2.1), ((hof_2 1003 (by omega)).trans hMo.2.2.2.1), ((hof_2 1004 (by omega)).trans hMo.2.2.2.2.1), ((hof_2 1005 (by omega)).trans hMo.2.2.2.2.2.1), ((hof_2 1006 (by omega)).trans hMo.2.2.2.2.2.2.1), ((hof_2 1007 (by omega)).trans hMo.2.2.2.2.2.2.2.1), ((hof_2 1008 (by omega)).trans hMo.2.2.2.2.2.2.2.2.1), ((hof_2 1009 (by omega)).trans hMo.2.2.2.2.2.2.2.2.2.1), ((hof_2 1010 (by omega)).trans hMo.2.2.2.2.2.2.2.2.2.2.1), ((hof_2 1011 (by omega)).trans hMo.2.2.2.2.2.2.2.2.2.2.2.1), ((hof_2 1012 (by omega)).trans hMo.2.2.2.2.2.2.2.2.2.2.2.2.1), ((hof_2 1013 (by omega)).trans hMo.2.2.2.2.2.2.2.2.2.2.2.2.2.1), ((hof_2 1014 (by omega)).trans hMo.2.2.2.2.2.2.2.2.2.2.2.2.2.2.1), ((hof_2 1015 (by omega)).trans hMo.2.2.2.2.2.2.2.2.2.2.2.2.2.2.2.1), ((hof_2 1016 (by omega)).trans hMo.2.2.2.2.2.2.2.2.2.2.2.2.2.2.2.2)⟩ y9 (by omega) hn8 hM8 q9 (by omega)) (cwV 2 hts gX6_degree_X6_degreeOf rfl rfl rfl (by decide +kernel) ⟨Nat.le_of_ble_eq_true rfl, Nat.le_of_ble_eq_true rfl⟩) (rm_preV hK hNw hW hm0_2 rfl) rfl rfl hl.1 rfl (lv_room (Nat.le_of_ble_eq_true rfl)) dX6_degree_20 ⟨Nat.zero_le _, Nat.zero_le _⟩) hW hS hA (fun z_3 ct_3 H locs hq_3 hW hS => ?_)
      obtain ⟨hz, hcc_3⟩ := hq_3
      have hcc_3 := hcc_3.symm
      subst hcc_3
      subst hz
      refine lv_goto (tgt := 27) hx hb dX6_degree_23 (by decide) ?_
      exact W.iret hx hb hr (fun t ht hw => ⟨⟨_, ((dg (yn y9) (yM y9) q9), ct_2), rfl, ⟨rfl, ⟨(fun q hq9 => hof_2 q (by omega)), Or.inr ⟨y9, q9, rfl, rfl, hy9, by omega, rfl, ⟨mA, pt, ro, ke, kt, mu, sl, tw, bw, de, ⟨hm0_2, ((hof_2 1001 (by omega)).trans hMo.2.1), ((hof_2 1002 (by omega)).trans hMo.2.2.1), ((hof_2 1003 (by omega)).trans hMo.2.2.2.1), ((hof_2 1004 (by omega)).trans hMo.2.2.2.2.1), ((hof_2 1005 (by omega)).trans hMo.2.2.2.2.2.1), ((hof_2 1006 (by omega)).trans hMo.2.2.2.2.2.2.1), ((hof_2 1007 (by omega)).trans hMo.2.2.2.2.2.2.2.1), ((hof_2 1008 (by omega)).trans hMo.2.2.2.2.2.2.2.2.1), ((hof_2 1009 (by omega)).trans hMo.2.2.2.2.2.2.2.2.2.1), ((hof_2 1010 (by omega)).trans hMo.2.2.2.2.2.2.2.2.2.2.1), ((hof_2 1011 (by omega)).trans hMo.2.2.2.2.2.2.2.2.2.2.2.1), ((hof_2 1012 (by omega)).trans hMo.2.2.2.2.2.2.2.2.2.2.2.2.1), ((hof_2 1013 (by omega)).trans hMo.2.2.2.2.2.2.2.2.2.2.2.2.2.1), ((hof_2 1014 (by omega)).trans hMo.2.2.2.2.2.2.2.2.2.2.2.2.2.2.1), ((hof_2 1015 (by omega)).trans hMo.2.2.2.2.2.2.2.2.2.2.2.2.2.2.2.1), ((hof_2 1016 (by omega)).trans hMo.2.2.2.2.2.2.2.2.2.2.2.2.2.2.2.2)⟩⟩⟩⟩⟩, by show rm_W D ad _ _ t.heap; rw [ht]; exact hW⟩, hS.F ht⟩) hS.2.2 dX6_degree_27
set_option maxHeartbeats 4000000 in
set_option maxRecDepth 100000 in
theorem c_X6_count (l : Launch) (D : va_G) (ty : Nat → ClassId) (ad : Nat → Nat) (ct : rm_C) (sz : Nat) (th : Int) (yc hc : Nat) (yn : Nat → Nat) (yM : Nat → Nat → Nat → Int) (yu : Nat → Int) (hy : Nat → Nat) (hg hf mA : Nat → Nat → Int) (pt ro ke kt mu sl tw bw de : Nat → Int) (hMo : ModAt ty ad ct th yc hc yn yM yu hy hg hf mA pt ro ke kt mu sl tw bw de) (w9 : Int) (hw9 : r32 w9) : Met l yX6_count wsX6_count ({ frames := 1, cells := 0, slots := 0, locals := 22 }) (rm_P D ty ad ct sz [.ref (ad 1000), .int (jI w9)]) (rm_Qi D ad ct sz (fun z ct1 => (∀ q, (q < 1000 ∨ 1016 < q) → ct1 q = ct q) ∧ (((w9 ≠ 0 ∧ w9 ≠ 1) ∧ ModX ty ad ct1 1 yc hc yn yM yu hy hg hf) ∨ (((w9 = 0 ∧ z = (yc : Int)) ∨ (w9 = 1 ∧ z = (hc : Int))) ∧ ModX ty ad ct1 0 yc hc yn yM yu hy hg hf)))) 0 0 (rm_A ad ct sz) := by
  refine Met.ofW (cc := cX6_count) (maxL := 2) (ret := (some .int)) (by decide) rfl ?_
  intro p e s m args below meth c s₁ B hml hv
  obtain ⟨hargs, hsz, hW, hK, hNw⟩ := hv
  have hx := B.exec
  have hb := B.bytes
  have hr := B.returns
  have hts := atoms_spec (ws := wsX6_count) B.pre
  have hown : s.vm.findClass RX6 = some m.cls := findClass_of_methodNamed B.named
  have hlocks := B.notSynchronized
  subst hsz
  have hW := hW.own (sz := s.heap.size)
  have hA : ∀ q : Nat, s.heap.size ≤ q → rm_A ad ct s.heap.size q := fun q h => Or.inr h
  have hS : va_S (rm_A ad ct s.heap.size) s.heap s.heap [] := va_S.rf
  have hent : entryFrame m args 2 = entryFrame m ([.ref (ad 1000), .int (jI w9)] : List Value).toArray 2 := by rw [hargs]
  have hl := lv_entry ([.ref (ad 1000), .int (jI w9)]) (n := 2) (Nat.le_of_ble_eq_true rfl)
  rw [hent, lg_entry_eq]
  generalize (lg_sl ([.ref (ad 1000), .int (jI w9)]) ++ List.replicate (2 - (lg_sl ([.ref (ad 1000), .int (jI w9)])).length) Slot.unset).toArray = ls at hl ⊢
  have hl : lv_has ls 2 [(0, .ref (ad 1000)), (1, .int (jI w9))] := hl
  refine lv_aload_n hx hb dX6_count_0 rfl (lv_at hl 0 rfl) ?_
  refine lv_iconst (v := jI 0) hx hb dX6_count_1 rfl ?_
  refine rm_put (ci := 6) (v := .int (jI 0)) (fty := .int) (C := RX6) (T := TX6) (N := 19) hx hb hts (by decide +kernel) tyX6 tyX6_ok nmX6 hown hK hW hS hMo.1 rfl 0 (by decide) (hts (.fieldLink RX6 60 "GrainYardModel" "thrown" "I") (by decide +kernel)) (fun _ h9 => h9) rfl (by decide +kernel) rfl rfl (Nat.le_of_ble_eq_true rfl) dX6_count_2 (fun H locs ct_1 hs_1 ho_1 hW hS hz_1 => ?_)
  have hs_1 : ct_1 1000 = some (.inr (6, [.int (jI 0), .int (jI ((yc : Nat) : Int)), .int (jI ((hc : Nat) : Int)), .ref (ad 1001), .ref (ad 1002), .ref (ad 1003), .ref (ad 1004), .ref (ad 1005), .ref (ad 1006), .ref (ad 1007), .ref (ad 1008), .ref (ad 1009), .ref (ad 1010), .ref (ad 1011), .ref (ad 1012), .ref (ad 1013), .ref (ad 1014), .ref (ad 1015), .ref (ad 1016)]) : va_E) := hs_1
  have hof_1 : ∀ q, q ≠ 1000 → ct_1 q = ct q := fun q h0_1 => (ho_1 q h0_1).trans rfl
  refine lv_aload_n hx hb dX6_count_5 rfl (lv_at hl 0 rfl) ?_
  refine lv_iload_n hx hb dX6_count_6 rfl (lv_at hl 1 rfl) ?_
  refine rm_if_eq (tgt := 15) hx hb ⟨by omega, by omega⟩ dX6_count_7 (by decide) (fun hc_2 => ?_) (fun hc_2 => ?_)
  · skip
    refine lv_iconst (v := jI 1) hx hb dX6_count_15 rfl ?_
    refine lv_goto (tgt := 20) hx hb dX6_count_16 (by decide) ?_
    refine lv_iconst (v := jI 1) hx hb dX6_count_20 rfl ?_
    refine rm_calli (va_runV (As := [.int (jI 1), .int (jI 1)]) (rest := []) ⟨hx, hb, hml, hown, hts⟩ (c_X6_right l D ty ad ct_1 H.size 0 yc hc yn yM yu hy hg hf mA pt ro ke kt mu sl tw bw de ⟨hs_1, ((hof_1 1001 (by omega)).trans hMo.2.1), ((hof_1 1002 (by omega)).trans hMo.2.2.1), ((hof_1 1003 (by omega)).trans hMo.2.2.2.1), ((hof_1 1004 (by omega)).trans hMo.2.2.2.2.1), ((hof_1 1005 (by omega)).trans hMo.2.2.2.2.2.1), ((hof_1 1006 (by omega)).trans hMo.2.2.2.2.2.2.1), ((hof_1 1007 (by omega)).trans hMo.2.2.2.2.2.2.2.1), ((hof_1 1008 (by omega)).trans hMo.2.2.2.2.2.2.2.2.1), ((hof_1 1009 (by omega)).trans hMo.2.2.2.2.2.2.2.2.2.1), ((hof_1 1010 (by omega)).trans hMo.2.2.2.2.2.2.2.2.2.2.1), ((hof_1 1011 (by omega)).trans hMo.2.2.2.2.2.2.2.2.2.2.2.1), ((hof_1 1012 (by omega)).trans hMo.2.2.2.2.2.2.2.2.2.2.2.2.1), ((hof_1 1013 (by omega)).trans hMo.2.2.2.2.2.2.2.2.2.2.2.2.2.1), ((hof_1 1014 (by omega)).trans hMo.2.2.2.2.2.2.2.2.2.2.2.2.2.2.1), ((hof_1 1015 (by omega)).trans hMo.2.2.2.2.2.2.2.2.2.2.2.2.2.2.2.1), ((hof_1 1016 (by omega)).trans hMo.2.2.2.2.2.2.2.2.2.2.2.2.2.2.2.2)⟩ 1 1 r32_0 (by omega) (by omega)) (cwV 2 hts gX6_count_X6_right rfl rfl rfl (by decide +kernel) ⟨Nat.le_of_ble_eq_true rfl, Nat.le_of_ble_eq_true rfl⟩) (rm_preV hK hNw hW hs_1 rfl) rfl rfl hl.1 rfl (lv_room (Nat.le_of_ble_eq_true rfl)) dX6_count_21 ⟨Nat.zero_le _, Nat.zero_le _⟩) hW hS hA (fun z_3 ct_3 H locs hq_3 hW hS => ?_)
    obtain ⟨t9, ht9, hz, hq1, hq2⟩ := hq_3
    rw [if_neg (by omega)] at ht9
    subst ht9
    rw [if_pos rfl] at hz
    subst hz
    have ho_3 : ∀ q, q ≠ 1000 → ct_3 q = ct_1 q := hq2
    have hof_3 : ∀ q, q ≠ 1000 → ct_3 q = ct q := fun q h0_3 => (ho_3 q h0_3).trans (hof_1 q h0_3)
    have hm0_3 : ct_3 1000 = some (.inr (6, [.int (jI 0), .int (jI ((yc : Nat) : Int)), .int (jI ((hc : Nat) : Int)), .ref (ad 1001), .ref (ad 1002), .ref (ad 1003), .ref (ad 1004), .ref (ad 1005), .ref (ad 1006), .ref (ad 1007), .ref (ad 1008), .ref (ad 1009), .ref (ad 1010), .ref (ad 1011), .ref (ad 1012), .ref (ad 1013), .ref (ad 1014), .ref (ad 1015), .ref (ad 1016)]) : va_E) := hq1
    refine rm_if_ne (tgt := 29) hx hb ⟨by omega, by omega⟩ dX6_count_24 (by decide) (fun _ => ?_) (fun hq => absurd hq (by omega))
    refine lv_iload_n hx hb dX6_count_29 rfl (lv_at hl 1 rfl) ?_
    refine rm_if_ne (tgt := 40) hx hb ⟨by omega, by omega⟩ dX6_count_30 (by decide) (fun hc_4 => ?_) (fun hc_4 => ?_)
    · skip
      refine lv_aload_n hx hb dX6_count_40 rfl (lv_at hl 0 rfl) ?_
      refine rm_get (ci := 6) (v := .int (jI ((hc : Nat) : Int))) (C := RX6) (T := TX6) (N := 19) hx hb hts (by decide +kernel) hown hK hW hm0_3 rfl 2 (by decide) (hts (.fieldLink RX6 126 "GrainYardModel" "heaps" "I") (by decide +kernel)) (fun _ h9 => h9) rfl dX6_count_41 ?_
      exact W.iret hx hb hr (fun t ht hw => ⟨⟨_, (((hc : Nat) : Int), ct_3), rfl, ⟨rfl, ⟨(fun q hq9 => hof_3 q (by omega)), Or.inr ⟨Or.inr ⟨by omega, rfl⟩, ⟨mA, pt, ro, ke, kt, mu, sl, tw, bw, de, ⟨hm0_3, ((hof_3 1001 (by omega)).trans hMo.2.1), ((hof_3 1002 (by omega)).trans hMo.2.2.1), ((hof_3 1003 (by omega)).trans hMo.2.2.2.1), ((hof_3 1004 (by omega)).trans hMo.2.2.2.2.1), ((hof_3 1005 (by omega)).trans hMo.2.2.2.2.2.1), ((hof_3 1006 (by omega)).trans hMo.2.2.2.2.2.2.1), ((hof_3 1007 (by omega)).trans hMo.2.2.2.2.2.2.2.1), ((hof_3 1008 (by omega)).trans hMo.2.2.2.2.2.2.2.2.1), ((hof_3 1009 (by omega)).trans hMo.2.2.2.2.2.2.2.2.2.1), ((hof_3 1010 (by omega)).trans hMo.2.2.2.2.2.2.2.2.2.2.1), ((hof_3 1011 (by omega)).trans hMo.2.2.2.2.2.2.2.2.2.2.2.1), ((hof_3 1012 (by omega)).trans hMo.2.2.2.2.2.2.2.2.2.2.2.2.1), ((hof_3 1013 (by omega)).trans hMo.2.2.2.2.2.2.2.2.2.2.2.2.2.1), ((hof_3 1014 (by omega)).trans hMo.2.2.2.2.2.2.2.2.2.2.2.2.2.2.1), ((hof_3 1015 (by omega)).trans hMo.2.2.2.2.2.2.2.2.2.2.2.2.2.2.2.1), ((hof_3 1016 (by omega)).trans hMo.2.2.2.2.2.2.2.2.2.2.2.2.2.2.2.2)⟩⟩⟩⟩⟩, by show rm_W D ad _ _ t.heap; rw [ht]; exact hW⟩, hS.F ht⟩) hS.2.2 dX6_count_44
    · skip
      refine lv_aload_n hx hb dX6_count_33 rfl (lv_at hl 0 rfl) ?_
      refine rm_get (ci := 6) (v := .int (jI ((yc : Nat) : Int))) (C := RX6) (T := TX6) (N := 19) hx hb hts (by decide +kernel) hown hK hW hm0_3 rfl 1 (by decide) (hts (.fieldLink RX6 64 "GrainYardModel" "yards" "I") (by decide +kernel)) (fun _ h9 => h9) rfl dX6_count_34 ?_
      refine lv_goto (tgt := 44) hx hb dX6_count_37 (by decide) ?_
      exact W.iret hx hb hr (fun t ht hw => ⟨⟨_, (((yc : Nat) : Int), ct_3), rfl, ⟨rfl, ⟨(fun q hq9 => hof_3 q (by omega)), Or.inr ⟨Or.inl ⟨by omega, rfl⟩, ⟨mA, pt, ro, ke, kt, mu, sl, tw, bw, de, ⟨hm0_3, ((hof_3 1001 (by omega)).trans hMo.2.1), ((hof_3 1002 (by omega)).trans hMo.2.2.1), ((hof_3 1003 (by omega)).trans hMo.2.2.2.1), ((hof_3 1004 (by omega)).trans hMo.2.2.2.2.1), ((hof_3 1005 (by omega)).trans hMo.2.2.2.2.2.1), ((hof_3 1006 (by omega)).trans hMo.2.2.2.2.2.2.1), ((hof_3 1007 (by omega)).trans hMo.2.2.2.2.2.2.2.1), ((hof_3 1008 (by omega)).trans hMo.2.2.2.2.2.2.2.2.1), ((hof_3 1009 (by omega)).trans hMo.2.2.2.2.2.2.2.2.2.1), ((hof_3 1010 (by omega)).trans hMo.2.2.2.2.2.2.2.2.2.2.1), ((hof_3 1011 (by omega)).trans hMo.2.2.2.2.2.2.2.2.2.2.2.1), ((hof_3 1012 (by omega)).trans hMo.2.2.2.2.2.2.2.2.2.2.2.2.1), ((hof_3 1013 (by omega)).trans hMo.2.2.2.2.2.2.2.2.2.2.2.2.2.1), ((hof_3 1014 (by omega)).trans hMo.2.2.2.2.2.2.2.2.2.2.2.2.2.2.1), ((hof_3 1015 (by omega)).trans hMo.2.2.2.2.2.2.2.2.2.2.2.2.2.2.2.1), ((hof_3 1016 (by omega)).trans hMo.2.2.2.2.2.2.2.2.2.2.2.2.2.2.2.2)⟩⟩⟩⟩⟩, by show rm_W D ad _ _ t.heap; rw [ht]; exact hW⟩, hS.F ht⟩) hS.2.2 dX6_count_44
  · skip
    refine lv_iload_n hx hb dX6_count_10 rfl (lv_at hl 1 rfl) ?_
    refine lv_iconst (v := jI 1) hx hb dX6_count_11 rfl ?_
    refine rm_icmp_ne (tgt := 19) hx hb ⟨by omega, by omega⟩ ⟨by omega, by omega⟩ dX6_count_12 (by decide) (fun hc_5 => ?_) (fun hc_5 => ?_)
    · skip
      refine lv_iconst (v := jI 0) hx hb dX6_count_19 rfl ?_
      refine lv_iconst (v := jI 1) hx hb dX6_count_20 rfl ?_
      refine rm_calli (va_runV (As := [.int (jI 0), .int (jI 1)]) (rest := []) ⟨hx, hb, hml, hown, hts⟩ (c_X6_right l D ty ad ct_1 H.size 0 yc hc yn yM yu hy hg hf mA pt ro ke kt mu sl tw bw de ⟨hs_1, ((hof_1 1001 (by omega)).trans hMo.2.1), ((hof_1 1002 (by omega)).trans hMo.2.2.1), ((hof_1 1003 (by omega)).trans hMo.2.2.2.1), ((hof_1 1004 (by omega)).trans hMo.2.2.2.2.1), ((hof_1 1005 (by omega)).trans hMo.2.2.2.2.2.1), ((hof_1 1006 (by omega)).trans hMo.2.2.2.2.2.2.1), ((hof_1 1007 (by omega)).trans hMo.2.2.2.2.2.2.2.1), ((hof_1 1008 (by omega)).trans hMo.2.2.2.2.2.2.2.2.1), ((hof_1 1009 (by omega)).trans hMo.2.2.2.2.2.2.2.2.2.1), ((hof_1 1010 (by omega)).trans hMo.2.2.2.2.2.2.2.2.2.2.1), ((hof_1 1011 (by omega)).trans hMo.2.2.2.2.2.2.2.2.2.2.2.1), ((hof_1 1012 (by omega)).trans hMo.2.2.2.2.2.2.2.2.2.2.2.2.1), ((hof_1 1013 (by omega)).trans hMo.2.2.2.2.2.2.2.2.2.2.2.2.2.1), ((hof_1 1014 (by omega)).trans hMo.2.2.2.2.2.2.2.2.2.2.2.2.2.2.1), ((hof_1 1015 (by omega)).trans hMo.2.2.2.2.2.2.2.2.2.2.2.2.2.2.2.1), ((hof_1 1016 (by omega)).trans hMo.2.2.2.2.2.2.2.2.2.2.2.2.2.2.2.2)⟩ 0 1 r32_0 (by omega) (by omega)) (cwV 2 hts gX6_count_X6_right rfl rfl rfl (by decide +kernel) ⟨Nat.le_of_ble_eq_true rfl, Nat.le_of_ble_eq_true rfl⟩) (rm_preV hK hNw hW hs_1 rfl) rfl rfl hl.1 rfl (lv_room (Nat.le_of_ble_eq_true rfl)) dX6_count_21 ⟨Nat.zero_le _, Nat.zero_le _⟩) hW hS hA (fun z_6 ct_6 H locs hq_6 hW hS => ?_)
      obtain ⟨t9, ht9, hz, hq1, hq2⟩ := hq_6
      rw [if_pos (by decide)] at ht9
      subst ht9
      rw [if_neg (by omega)] at hz
      subst hz
      have ho_6 : ∀ q, q ≠ 1000 → ct_6 q = ct_1 q := hq2
      have hof_6 : ∀ q, q ≠ 1000 → ct_6 q = ct q := fun q h0_6 => (ho_6 q h0_6).trans (hof_1 q h0_6)
      have hm0_6 : ct_6 1000 = some (.inr (6, [.int (jI 1), .int (jI ((yc : Nat) : Int)), .int (jI ((hc : Nat) : Int)), .ref (ad 1001), .ref (ad 1002), .ref (ad 1003), .ref (ad 1004), .ref (ad 1005), .ref (ad 1006), .ref (ad 1007), .ref (ad 1008), .ref (ad 1009), .ref (ad 1010), .ref (ad 1011), .ref (ad 1012), .ref (ad 1013), .ref (ad 1014), .ref (ad 1015), .ref (ad 1016)]) : va_E) := hq1
      refine rm_if_ne (tgt := 29) hx hb ⟨by omega, by omega⟩ dX6_count_24 (by decide) (fun hq => absurd hq (by omega)) (fun _ => ?_)
      refine lv_iconst (v := jI 0) hx hb dX6_count_27 rfl ?_
      exact W.iret hx hb hr (fun t ht hw => ⟨⟨_, (0, ct_6), rfl, ⟨rfl, ⟨(fun q hq9 => hof_6 q (by omega)), Or.inl ⟨⟨by omega, by omega⟩, ⟨mA, pt, ro, ke, kt, mu, sl, tw, bw, de, ⟨hm0_6, ((hof_6 1001 (by omega)).trans hMo.2.1), ((hof_6 1002 (by omega)).trans hMo.2.2.1), ((hof_6 1003 (by omega)).trans hMo.2.2.2.1), ((hof_6 1004 (by omega)).trans hMo.2.2.2.2.1), ((hof_6 1005 (by omega)).trans hMo.2.2.2.2.2.1), ((hof_6 1006 (by omega)).trans hMo.2.2.2.2.2.2.1), ((hof_6 1007 (by omega)).trans hMo.2.2.2.2.2.2.2.1), ((hof_6 1008 (by omega)).trans hMo.2.2.2.2.2.2.2.2.1), ((hof_6 1009 (by omega)).trans hMo.2.2.2.2.2.2.2.2.2.1), ((hof_6 1010 (by omega)).trans hMo.2.2.2.2.2.2.2.2.2.2.1), ((hof_6 1011 (by omega)).trans hMo.2.2.2.2.2.2.2.2.2.2.2.1), ((hof_6 1012 (by omega)).trans hMo.2.2.2.2.2.2.2.2.2.2.2.2.1), ((hof_6 1013 (by omega)).trans hMo.2.2.2.2.2.2.2.2.2.2.2.2.2.1), ((hof_6 1014 (by omega)).trans hMo.2.2.2.2.2.2.2.2.2.2.2.2.2.2.1), ((hof_6 1015 (by omega)).trans hMo.2.2.2.2.2.2.2.2.2.2.2.2.2.2.2.1), ((hof_6 1016 (by omega)).trans hMo.2.2.2.2.2.2.2.2.2.2.2.2.2.2.2.2)⟩⟩⟩⟩⟩, by show rm_W D ad _ _ t.heap; rw [ht]; exact hW⟩, hS.F ht⟩) hS.2.2 dX6_count_28
    · skip
      refine lv_iconst (v := jI 1) hx hb dX6_count_15 rfl ?_
      refine lv_goto (tgt := 20) hx hb dX6_count_16 (by decide) ?_
      refine lv_iconst (v := jI 1) hx hb dX6_count_20 rfl ?_
      refine rm_calli (va_runV (As := [.int (jI 1), .int (jI 1)]) (rest := []) ⟨hx, hb, hml, hown, hts⟩ (c_X6_right l D ty ad ct_1 H.size 0 yc hc yn yM yu hy hg hf mA pt ro ke kt mu sl tw bw de ⟨hs_1, ((hof_1 1001 (by omega)).trans hMo.2.1), ((hof_1 1002 (by omega)).trans hMo.2.2.1), ((hof_1 1003 (by omega)).trans hMo.2.2.2.1), ((hof_1 1004 (by omega)).trans hMo.2.2.2.2.1), ((hof_1 1005 (by omega)).trans hMo.2.2.2.2.2.1), ((hof_1 1006 (by omega)).trans hMo.2.2.2.2.2.2.1), ((hof_1 1007 (by omega)).trans hMo.2.2.2.2.2.2.2.1), ((hof_1 1008 (by omega)).trans hMo.2.2.2.2.2.2.2.2.1), ((hof_1 1009 (by omega)).trans hMo.2.2.2.2.2.2.2.2.2.1), ((hof_1 1010 (by omega)).trans hMo.2.2.2.2.2.2.2.2.2.2.1), ((hof_1 1011 (by omega)).trans hMo.2.2.2.2.2.2.2.2.2.2.2.1), ((hof_1 1012 (by omega)).trans hMo.2.2.2.2.2.2.2.2.2.2.2.2.1), ((hof_1 1013 (by omega)).trans hMo.2.2.2.2.2.2.2.2.2.2.2.2.2.1), ((hof_1 1014 (by omega)).trans hMo.2.2.2.2.2.2.2.2.2.2.2.2.2.2.1), ((hof_1 1015 (by omega)).trans hMo.2.2.2.2.2.2.2.2.2.2.2.2.2.2.2.1), ((hof_1 1016 (by omega)).trans hMo.2.2.2.2.2.2.2.2.2.2.2.2.2.2.2.2)⟩ 1 1 r32_0 (by omega) (by omega)) (cwV 2 hts gX6_count_X6_right rfl rfl rfl (by decide +kernel) ⟨Nat.le_of_ble_eq_true rfl, Nat.le_of_ble_eq_true rfl⟩) (rm_preV hK hNw hW hs_1 rfl) rfl rfl hl.1 rfl (lv_room (Nat.le_of_ble_eq_true rfl)) dX6_count_21 ⟨Nat.zero_le _, Nat.zero_le _⟩) hW hS hA (fun z_7 ct_7 H locs hq_7 hW hS => ?_)
      obtain ⟨t9, ht9, hz, hq1, hq2⟩ := hq_7
      rw [if_neg (by omega)] at ht9
      subst ht9
      rw [if_pos rfl] at hz
      subst hz
      have ho_7 : ∀ q, q ≠ 1000 → ct_7 q = ct_1 q := hq2
      have hof_7 : ∀ q, q ≠ 1000 → ct_7 q = ct q := fun q h0_7 => (ho_7 q h0_7).trans (hof_1 q h0_7)
      have hm0_7 : ct_7 1000 = some (.inr (6, [.int (jI 0), .int (jI ((yc : Nat) : Int)), .int (jI ((hc : Nat) : Int)), .ref (ad 1001), .ref (ad 1002), .ref (ad 1003), .ref (ad 1004), .ref (ad 1005), .ref (ad 1006), .ref (ad 1007), .ref (ad 1008), .ref (ad 1009), .ref (ad 1010), .ref (ad 1011), .ref (ad 1012), .ref (ad 1013), .ref (ad 1014), .ref (ad 1015), .ref (ad 1016)]) : va_E) := hq1
      refine rm_if_ne (tgt := 29) hx hb ⟨by omega, by omega⟩ dX6_count_24 (by decide) (fun _ => ?_) (fun hq => absurd hq (by omega))
      refine lv_iload_n hx hb dX6_count_29 rfl (lv_at hl 1 rfl) ?_
      refine rm_if_ne (tgt := 40) hx hb ⟨by omega, by omega⟩ dX6_count_30 (by decide) (fun hc_8 => ?_) (fun hc_8 => ?_)
      · skip
        refine lv_aload_n hx hb dX6_count_40 rfl (lv_at hl 0 rfl) ?_
        refine rm_get (ci := 6) (v := .int (jI ((hc : Nat) : Int))) (C := RX6) (T := TX6) (N := 19) hx hb hts (by decide +kernel) hown hK hW hm0_7 rfl 2 (by decide) (hts (.fieldLink RX6 126 "GrainYardModel" "heaps" "I") (by decide +kernel)) (fun _ h9 => h9) rfl dX6_count_41 ?_
        exact W.iret hx hb hr (fun t ht hw => ⟨⟨_, (((hc : Nat) : Int), ct_7), rfl, ⟨rfl, ⟨(fun q hq9 => hof_7 q (by omega)), Or.inr ⟨Or.inr ⟨by omega, rfl⟩, ⟨mA, pt, ro, ke, kt, mu, sl, tw, bw, de, ⟨hm0_7, ((hof_7 1001 (by omega)).trans hMo.2.1), ((hof_7 1002 (by omega)).trans hMo.2.2.1), ((hof_7 1003 (by omega)).trans hMo.2.2.2.1), ((hof_7 1004 (by omega)).trans hMo.2.2.2.2.1), ((hof_7 1005 (by omega)).trans hMo.2.2.2.2.2.1), ((hof_7 1006 (by omega)).trans hMo.2.2.2.2.2.2.1), ((hof_7 1007 (by omega)).trans hMo.2.2.2.2.2.2.2.1), ((hof_7 1008 (by omega)).trans hMo.2.2.2.2.2.2.2.2.1), ((hof_7 1009 (by omega)).trans hMo.2.2.2.2.2.2.2.2.2.1), ((hof_7 1010 (by omega)).trans hMo.2.2.2.2.2.2.2.2.2.2.1), ((hof_7 1011 (by omega)).trans hMo.2.2.2.2.2.2.2.2.2.2.2.1), ((hof_7 1012 (by omega)).trans hMo.2.2.2.2.2.2.2.2.2.2.2.2.1), ((hof_7 1013 (by omega)).trans hMo.2.2.2.2.2.2.2.2.2.2.2.2.2.1), ((hof_7 1014 (by omega)).trans hMo.2.2.2.2.2.2.2.2.2.2.2.2.2.2.1), ((hof_7 1015 (by omega)).trans hMo.2.2.2.2.2.2.2.2.2.2.2.2.2.2.2.1), ((hof_7 1016 (by omega)).trans hMo.2.2.2.2.2.2.2.2.2.2.2.2.2.2.2.2)⟩⟩⟩⟩⟩, by show rm_W D ad _ _ t.heap; rw [ht]; exact hW⟩, hS.F ht⟩) hS.2.2 dX6_count_44
      · skip
        refine lv_aload_n hx hb dX6_count_33 rfl (lv_at hl 0 rfl) ?_
        refine rm_get (ci := 6) (v := .int (jI ((yc : Nat) : Int))) (C := RX6) (T := TX6) (N := 19) hx hb hts (by decide +kernel) hown hK hW hm0_7 rfl 1 (by decide) (hts (.fieldLink RX6 64 "GrainYardModel" "yards" "I") (by decide +kernel)) (fun _ h9 => h9) rfl dX6_count_34 ?_
        refine lv_goto (tgt := 44) hx hb dX6_count_37 (by decide) ?_
        exact W.iret hx hb hr (fun t ht hw => ⟨⟨_, (((yc : Nat) : Int), ct_7), rfl, ⟨rfl, ⟨(fun q hq9 => hof_7 q (by omega)), Or.inr ⟨Or.inl ⟨by omega, rfl⟩, ⟨mA, pt, ro, ke, kt, mu, sl, tw, bw, de, ⟨hm0_7, ((hof_7 1001 (by omega)).trans hMo.2.1), ((hof_7 1002 (by omega)).trans hMo.2.2.1), ((hof_7 1003 (by omega)).trans hMo.2.2.2.1), ((hof_7 1004 (by omega)).trans hMo.2.2.2.2.1), ((hof_7 1005 (by omega)).trans hMo.2.2.2.2.2.1), ((hof_7 1006 (by omega)).trans hMo.2.2.2.2.2.2.1), ((hof_7 1007 (by omega)).trans hMo.2.2.2.2.2.2.2.1), ((hof_7 1008 (by omega)).trans hMo.2.2.2.2.2.2.2.2.1), ((hof_7 1009 (by omega)).trans hMo.2.2.2.2.2.2.2.2.2.1), ((hof_7 1010 (by omega)).trans hMo.2.2.2.2.2.2.2.2.2.2.1), ((hof_7 1011 (by omega)).trans hMo.2.2.2.2.2.2.2.2.2.2.2.1), ((hof_7 1012 (by omega)).trans hMo.2.2.2.2.2.2.2.2.2.2.2.2.1), ((hof_7 1013 (by omega)).trans hMo.2.2.2.2.2.2.2.2.2.2.2.2.2.1), ((hof_7 1014 (by omega)).trans hMo.2.2.2.2.2.2.2.2.2.2.2.2.2.2.1), ((hof_7 1015 (by omega)).trans hMo.2.2.2.2.2.2.2.2.2.2.2.2.2.2.2.1), ((hof_7 1016 (by omega)).trans hMo.2.2.2.2.2.2.2.2.2.2.2.2.2.2.2.2)⟩⟩⟩⟩⟩, by show rm_W D ad _ _ t.heap; rw [ht]; exact hW⟩, hS.F ht⟩) hS.2.2 dX6_count_44
