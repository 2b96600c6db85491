section ModPic4
theorem tkn_congG {hg : Nat → Nat → Int} {h9 n : Nat} {w w' g : Nat → Int} (h : ∀ q, 1 ≤ q → q < n → w q = w' q) : ub hg h9 (tkn n w g) = ub hg h9 (tkn n w' g) := by rw [tkn_cong h]
end ModPic4
set_option maxHeartbeats 4000000 in
set_option maxRecDepth 100000 in
theorem c_X6_add (l : Launch) (D : va_G) (ty : Nat → ClassId) (ad : Nat → Nat) (ct : rm_C) (sz : Nat) (th : Int) (yc hc : Nat) (yn : Nat → Nat) (yM : Nat → Nat → Nat → Int) (yu : Nat → Int) (hy : Nat → Nat) (hg hf mA : Nat → Nat → Int) (pt ro ke kt mu sl tw bw de : Nat → Int) (hMo : ModAt ty ad ct th yc hc yn yM yu hy hg hf mA pt ro ke kt mu sl tw bw de) (hb20 : yc ≤ 6 ∧ hc ≤ 20) (hyn : ∀ y, y < yc → 2 ≤ yn y ∧ yn y ≤ 8) (hyM : ∀ y, y < yc → ∀ i j, 0 ≤ yM y i j ∧ yM y i j ≤ 3) (hhy : ∀ h, h < hc → hy h < yc) (hgr : ∀ h, h < hc → ∀ q, 1 ≤ q → q < yn (hy h) → 0 ≤ hg h q ∧ hg h q ≤ 1000000000) (hst : ∀ h, h < hc → mst9 (yn (hy h)) (yM (hy h)) ∧ psum (yn (hy h)) (hg h) ≤ 900000000) (had9 : ∀ h, h < hc → psum (yn (hy h)) (hg h) ≤ 400000000) (z9 w9 : Int) (hz9 : r32 z9) (hw9 : r32 w9) : Met l yX6_add wsX6_add ({ frames := 5, cells := 0, slots := 0, locals := 118 }) (rm_P D ty ad ct sz [.ref (ad 1000), .int (jI z9), .int (jI w9)]) (rm_Ql D ad ct sz (fun z ct1 => (∀ q, (q < 1000 ∨ 1016 < q) → ct1 q = ct q) ∧ ((((z9 < 0 ∨ ((hc : Nat) : Int) ≤ z9) ∨ (w9 < 0 ∨ ((hc : Nat) : Int) ≤ w9)) ∧ ModX ty ad ct1 1 yc hc yn yM yu hy hg hf) ∨ ∃ h9 o9 : Nat, z9 = (h9 : Int) ∧ w9 = (o9 : Int) ∧ h9 < hc ∧ o9 < hc ∧ ((hy h9 ≠ hy o9 ∧ ModX ty ad ct1 2 yc hc yn yM yu hy hg hf) ∨ (hy o9 = hy h9 ∧ ∃ v, stl (yn (hy h9)) (yM (hy h9)) (tkn (yn (hy h9)) (fun q => hg h9 q + hg o9 q) (hg h9)) v ∧ z = gs v (yn (hy h9)) ∧ ModX ty ad ct1 0 yc hc yn yM yu hy (us hg h9 (gaf (yn (hy h9)) (yM (hy h9)) (tkn (yn (hy h9)) (fun q => hg h9 q + hg o9 q) (hg h9)) v)) (us hf h9 v)))))) 0 0 (rm_A ad ct sz) := by
  refine Met.ofW (cc := cX6_add) (maxL := 4) (ret := (some .long)) (by decide) rfl ?_
  intro p e s m args below meth c s₁ B hml hv
  obtain ⟨hargs, hsz, hW, hK, hNw⟩ := hv
  have hx := B.exec
  have hb := B.bytes
  have hr := B.returns
  have hts := atoms_spec (ws := wsX6_add) B.pre
  have hown : s.vm.findClass RX6 = some m.cls := findClass_of_methodNamed B.named
  have hlocks := B.notSynchronized
  subst hsz
  have hW := hW.own (sz := s.heap.size)
  have hA : ∀ q : Nat, s.heap.size ≤ q → rm_A ad ct s.heap.size q := fun q h => Or.inr h
  have hS : va_S (rm_A ad ct s.heap.size) s.heap s.heap [] := va_S.rf
  have hent : entryFrame m args 4 = entryFrame m ([.ref (ad 1000), .int (jI z9), .int (jI w9)] : List Value).toArray 4 := by rw [hargs]
  have hl := lv_entry ([.ref (ad 1000), .int (jI z9), .int (jI w9)]) (n := 4) (Nat.le_of_ble_eq_true rfl)
  rw [hent, lg_entry_eq]
  generalize (lg_sl ([.ref (ad 1000), .int (jI z9), .int (jI w9)]) ++ List.replicate (4 - (lg_sl ([.ref (ad 1000), .int (jI z9), .int (jI w9)])).length) Slot.unset).toArray = ls at hl ⊢
  have hl : lv_has ls 4 [(0, .ref (ad 1000)), (1, .int (jI z9)), (2, .int (jI w9))] := hl
  refine lv_aload_n hx hb dX6_add_0 rfl (lv_at hl 0 rfl) ?_
  refine lv_iload_n hx hb dX6_add_1 rfl (lv_at hl 1 rfl) ?_
  refine rm_calli (va_runV (As := [.int (jI z9)]) (rest := []) ⟨hx, hb, hml, hown, hts⟩ (c_X6_isHeap l D ty ad ct s.heap.size th yc hc yn yM yu hy hg hf mA pt ro ke kt mu sl tw bw de hMo z9 hz9 hb20) (cwV 1 hts gX6_add_X6_isHeap rfl rfl rfl (by decide +kernel) ⟨Nat.le_of_ble_eq_true rfl, Nat.le_of_ble_eq_true rfl⟩) (rm_preV hK hNw hW hMo.1 rfl) rfl rfl hl.1 rfl (lv_room (Nat.le_of_ble_eq_true rfl)) dX6_add_2 ⟨Nat.zero_le _, Nat.zero_le _⟩) hW hS hA (fun z_1 ct_1 H locs hq_1 hW hS => ?_)
  obtain ⟨hqo, hqc⟩ := hq_1
  rcases hqc with ⟨hbad, hz, hqs⟩ | ⟨hp1, hp2, hz, hqs⟩
  · skip
    subst hz
    have ho_1 : ∀ q, q ≠ 1000 → ct_1 q = ct q := hqo
    have hof_1 : ∀ q, q ≠ 1000 → q ≠ 1005 → q ≠ 1006 → ct_1 q = ct q := fun q h0_1 h1_1 h2_1 => (ho_1 q h0_1).trans rfl
    have hm0_1 : ct_1 1000 = some (.inr (6, [.int (jI 1), .int (jI ((yc : Nat) : Int)), .int (jI ((hc : Nat) : Int)), .ref (ad 1001), .ref (ad 1002), .ref (ad 1003), .ref (ad 1004), .ref (ad 1005), .ref (ad 1006), .ref (ad 1007), .ref (ad 1008), .ref (ad 1009), .ref (ad 1010), .ref (ad 1011), .ref (ad 1012), .ref (ad 1013), .ref (ad 1014), .ref (ad 1015), .ref (ad 1016)]) : va_E) := hqs
    have hm1_1 : ct_1 1005 = some (rl ty 160 (fl 8 hg)) := (ho_1 1005 (by omega)).trans hMo.2.2.2.2.2.1
    have hm2_1 : ct_1 1006 = some (rl ty 160 (fl 8 hf)) := (ho_1 1006 (by omega)).trans hMo.2.2.2.2.2.2.1
    refine rm_if_eq (tgt := 61) hx hb ⟨by omega, by omega⟩ dX6_add_5 (by decide) (fun _ => ?_) (fun hq => absurd hq (by omega))
    refine lv_lconst (v := jL 0) hx hb dX6_add_61 rfl ?_
    exact W.lret hx hb hr (fun t ht hw => ⟨⟨_, (0, ct_1), rfl, ⟨rfl, ⟨(fun q hq9 => hof_1 q (by omega) (by omega) (by omega)), Or.inl ⟨Or.inl hbad, ⟨mA, pt, ro, ke, kt, mu, sl, tw, bw, de, ⟨hm0_1, ((hof_1 1001 (by omega) (by omega) (by omega)).trans hMo.2.1), ((hof_1 1002 (by omega) (by omega) (by omega)).trans hMo.2.2.1), ((hof_1 1003 (by omega) (by omega) (by omega)).trans hMo.2.2.2.1), ((hof_1 1004 (by omega) (by omega) (by omega)).trans hMo.2.2.2.2.1), hm1_1, hm2_1, ((hof_1 1007 (by omega) (by omega) (by omega)).trans hMo.2.2.2.2.2.2.2.1), ((hof_1 1008 (by omega) (by omega) (by omega)).trans hMo.2.2.2.2.2.2.2.2.1), ((hof_1 1009 (by omega) (by omega) (by omega)).trans hMo.2.2.2.2.2.2.2.2.2.1), ((hof_1 1010 (by omega) (by omega) (by omega)).trans hMo.2.2.2.2.2.2.2.2.2.2.1), ((hof_1 1011 (by omega) (by omega) (by omega)).trans hMo.2.2.2.2.2.2.2.2.2.2.2.1), ((hof_1 1012 (by omega) (by omega) (by omega)).trans hMo.2.2.2.2.2.2.2.2.2.2.2.2.1), ((hof_1 1013 (by omega) (by omega) (by omega)).trans hMo.2.2.2.2.2.2.2.2.2.2.2.2.2.1), ((hof_1 1014 (by omega) (by omega) (by omega)).trans hMo.2.2.2.2.2.2.2.2.2.2.2.2.2.2.1), ((hof_1 1015 (by omega) (by omega) (by omega)).trans hMo.2.2.2.2.2.2.2.2.2.2.2.2.2.2.2.1), ((hof_1 1016 (by omega) (by omega) (by omega)).trans hMo.2.2.2.2.2.2.2.2.2.2.2.2.2.2.2.2)⟩⟩⟩⟩⟩, by show rm_W D ad _ _ t.heap; rw [ht]; exact hW⟩, hS.F ht⟩) hS.2.2 dX6_add_62
  · skip
    subst hz
    have ho_1 : ∀ q, q ≠ 1000 → ct_1 q = ct q := hqo
    have hof_1 : ∀ q, q ≠ 1000 → q ≠ 1005 → q ≠ 1006 → ct_1 q = ct q := fun q h0_1 h1_1 h2_1 => (ho_1 q h0_1).trans rfl
    have hm0_1 : ct_1 1000 = some (.inr (6, [.int (jI 0), .int (jI ((yc : Nat) : Int)), .int (jI ((hc : Nat) : Int)), .ref (ad 1001), .ref (ad 1002), .ref (ad 1003), .ref (ad 1004), .ref (ad 1005), .ref (ad 1006), .ref (ad 1007), .ref (ad 1008), .ref (ad 1009), .ref (ad 1010), .ref (ad 1011), .ref (ad 1012), .ref (ad 1013), .ref (ad 1014), .ref (ad 1015), .ref (ad 1016)]) : va_E) := hqs
    have hm1_1 : ct_1 1005 = some (rl ty 160 (fl 8 hg)) := (ho_1 1005 (by omega)).trans hMo.2.2.2.2.2.1
    have hm2_1 : ct_1 1006 = some (rl ty 160 (fl 8 hf)) := (ho_1 1006 (by omega)).trans hMo.2.2.2.2.2.2.1
    obtain ⟨h9, hn_h9⟩ : ∃ h9 : Nat, z9 = (h9 : Int) := ⟨z9.toNat, by omega⟩
    subst hn_h9
    have hh9 : h9 < hc := by omega
    have hyh := hhy h9 hh9
    have hn8 := hyn (hy h9) hyh
    have hM8 := hyM (hy h9) hyh
    refine rm_if_eq (tgt := 61) hx hb ⟨by omega, by omega⟩ dX6_add_5 (by decide) (fun hq => absurd hq (by omega)) (fun _ => ?_)
    refine lv_aload_n hx hb dX6_add_8 rfl (lv_at hl 0 rfl) ?_
    refine lv_iload_n hx hb dX6_add_9 rfl (lv_at hl 2 rfl) ?_
    refine rm_if_lt (tgt := 25) hx hb ⟨by omega, by omega⟩ dX6_add_10 (by decide) (fun hc_2 => ?_) (fun hc_2 => ?_)
    · skip
      refine lv_iconst (v := jI 0) hx hb dX6_add_25 rfl ?_
      refine lv_iconst (v := jI 1) hx hb dX6_add_26 rfl ?_
      refine rm_calli (va_runV (As := [.int (jI 0), .int (jI 1)]) (rest := []) ⟨hx, hb, hml, hown, hts⟩ (c_X6_right l D ty ad ct_1 H.size 0 yc hc yn yM yu hy hg hf mA pt ro ke kt mu sl tw bw de ⟨hm0_1, ((hof_1 1001 (by omega) (by omega) (by omega)).trans hMo.2.1), ((hof_1 1002 (by omega) (by omega) (by omega)).trans hMo.2.2.1), ((hof_1 1003 (by omega) (by omega) (by omega)).trans hMo.2.2.2.1), ((hof_1 1004 (by omega) (by omega) (by omega)).trans hMo.2.2.2.2.1), hm1_1, hm2_1, ((hof_1 1007 (by omega) (by omega) (by omega)).trans hMo.2.2.2.2.2.2.2.1), ((hof_1 1008 (by omega) (by omega) (by omega)).trans hMo.2.2.2.2.2.2.2.2.1), ((hof_1 1009 (by omega) (by omega) (by omega)).trans hMo.2.2.2.2.2.2.2.2.2.1), ((hof_1 1010 (by omega) (by omega) (by omega)).trans hMo.2.2.2.2.2.2.2.2.2.2.1), ((hof_1 1011 (by omega) (by omega) (by omega)).trans hMo.2.2.2.2.2.2.2.2.2.2.2.1), ((hof_1 1012 (by omega) (by omega) (by omega)).trans hMo.2.2.2.2.2.2.2.2.2.2.2.2.1), ((hof_1 1013 (by omega) (by omega) (by omega)).trans hMo.2.2.2.2.2.2.2.2.2.2.2.2.2.1), ((hof_1 1014 (by omega) (by omega) (by omega)).trans hMo.2.2.2.2.2.2.2.2.2.2.2.2.2.2.1), ((hof_1 1015 (by omega) (by omega) (by omega)).trans hMo.2.2.2.2.2.2.2.2.2.2.2.2.2.2.2.1), ((hof_1 1016 (by omega) (by omega) (by omega)).trans hMo.2.2.2.2.2.2.2.2.2.2.2.2.2.2.2.2)⟩ 0 1 r32_0 (by omega) (by omega)) (cwV 2 hts gX6_add_X6_right rfl rfl rfl (by decide +kernel) ⟨Nat.le_of_ble_eq_true rfl, Nat.le_of_ble_eq_true rfl⟩) (rm_preV hK hNw hW hm0_1 rfl) rfl rfl hl.1 rfl (lv_room (Nat.le_of_ble_eq_true rfl)) dX6_add_27 ⟨Nat.zero_le _, Nat.zero_le _⟩) hW hS hA (fun z_3 ct_3 H locs hq_3 hW hS => ?_)
      obtain ⟨t9, ht9, hz, hq1, hq2⟩ := hq_3
      rw [if_pos (by decide)] at ht9
      subst ht9
      rw [if_neg (by omega)] at hz
      subst hz
      have ho_3 : ∀ q, q ≠ 1000 → ct_3 q = ct_1 q := hq2
      have hof_3 : ∀ q, q ≠ 1000 → q ≠ 1005 → q ≠ 1006 → ct_3 q = ct q := fun q h0_3 h1_3 h2_3 => (ho_3 q h0_3).trans (hof_1 q h0_3 h1_3 h2_3)
      have hm0_3 : ct_3 1000 = some (.inr (6, [.int (jI 1), .int (jI ((yc : Nat) : Int)), .int (jI ((hc : Nat) : Int)), .ref (ad 1001), .ref (ad 1002), .ref (ad 1003), .ref (ad 1004), .ref (ad 1005), .ref (ad 1006), .ref (ad 1007), .ref (ad 1008), .ref (ad 1009), .ref (ad 1010), .ref (ad 1011), .ref (ad 1012), .ref (ad 1013), .ref (ad 1014), .ref (ad 1015), .ref (ad 1016)]) : va_E) := hq1
      have hm1_3 : ct_3 1005 = some (rl ty 160 (fl 8 hg)) := (ho_3 1005 (by omega)).trans hm1_1
      have hm2_3 : ct_3 1006 = some (rl ty 160 (fl 8 hf)) := (ho_3 1006 (by omega)).trans hm2_1
      refine rm_if_eq (tgt := 61) hx hb ⟨by omega, by omega⟩ dX6_add_30 (by decide) (fun _ => ?_) (fun hq => absurd hq (by omega))
      refine lv_lconst (v := jL 0) hx hb dX6_add_61 rfl ?_
      exact W.lret hx hb hr (fun t ht hw => ⟨⟨_, (0, ct_3), rfl, ⟨rfl, ⟨(fun q hq9 => hof_3 q (by omega) (by omega) (by omega)), Or.inl ⟨Or.inr (by omega), ⟨mA, pt, ro, ke, kt, mu, sl, tw, bw, de, ⟨hm0_3, ((hof_3 1001 (by omega) (by omega) (by omega)).trans hMo.2.1), ((hof_3 1002 (by omega) (by omega) (by omega)).trans hMo.2.2.1), ((hof_3 1003 (by omega) (by omega) (by omega)).trans hMo.2.2.2.1), ((hof_3 1004 (by omega) (by omega) (by omega)).trans hMo.2.2.2.2.1), hm1_3, hm2_3, ((hof_3 1007 (by omega) (by omega) (by omega)).trans hMo.2.2.2.2.2.2.2.1), ((hof_3 1008 (by omega) (by omega) (by omega)).trans hMo.2.2.2.2.2.2.2.2.1), ((hof_3 1009 (by omega) (by omega) (by omega)).trans hMo.2.2.2.2.2.2.2.2.2.1), ((hof_3 1010 (by omega) (by omega) (by omega)).trans hMo.2.2.2.2.2.2.2.2.2.2.1), ((hof_3 1011 (by omega) (by omega) (by omega)).trans hMo.2.2.2.2.2.2.2.2.2.2.2.1), ((hof_3 1012 (by omega) (by omega) (by omega)).trans hMo.2.2.2.2.2.2.2.2.2.2.2.2.1), ((hof_3 1013 (by omega) (by omega) (by omega)).trans hMo.2.2.2.2.2.2.2.2.2.2.2.2.2.1), ((hof_3 1014 (by omega) (by omega) (by omega)).trans hMo.2.2.2.2.2.2.2.2.2.2.2.2.2.2.1), ((hof_3 1015 (by omega) (by omega) (by omega)).trans hMo.2.2.2.2.2.2.2.2.2.2.2.2.2.2.2.1), ((hof_3 1016 (by omega) (by omega) (by omega)).trans hMo.2.2.2.2.2.2.2.2.2.2.2.2.2.2.2.2)⟩⟩⟩⟩⟩, by show rm_W D ad _ _ t.heap; rw [ht]; exact hW⟩, hS.F ht⟩) hS.2.2 dX6_add_62
    · skip
      refine lv_iload_n hx hb dX6_add_13 rfl (lv_at hl 2 rfl) ?_
      refine lv_aload_n hx hb dX6_add_14 rfl (lv_at hl 0 rfl) ?_
      refine rm_get (ci := 6) (v := .int (jI ((hc : Nat) : Int))) (C := RX6) (T := TX6) (N := 19) hx hb hts (by decide +kernel) hown hK hW hm0_1 rfl 2 (by decide) (hts (.fieldLink RX6 126 "GrainYardModel" "heaps" "I") (by decide +kernel)) (fun _ h9 => h9) rfl dX6_add_15 ?_
      refine rm_icmp_ge (tgt := 25) hx hb ⟨by omega, by omega⟩ ⟨by omega, by omega⟩ dX6_add_18 (by decide) (fun hc_4 => ?_) (fun hc_4 => ?_)
      · skip
        refine lv_iconst (v := jI 0) hx hb dX6_add_25 rfl ?_
        refine lv_iconst (v := jI 1) hx hb dX6_add_26 rfl ?_
        refine rm_calli (va_runV (As := [.int (jI 0), .int (jI 1)]) (rest := []) ⟨hx, hb, hml, hown, hts⟩ (c_X6_right l D ty ad ct_1 H.size 0 yc hc yn yM yu hy hg hf mA pt ro ke kt mu sl tw bw de ⟨hm0_1, ((hof_1 1001 (by omega) (by omega) (by omega)).trans hMo.2.1), ((hof_1 1002 (by omega) (by omega) (by omega)).trans hMo.2.2.1), ((hof_1 1003 (by omega) (by omega) (by omega)).trans hMo.2.2.2.1), ((hof_1 1004 (by omega) (by omega) (by omega)).trans hMo.2.2.2.2.1), hm1_1, hm2_1, ((hof_1 1007 (by omega) (by omega) (by omega)).trans hMo.2.2.2.2.2.2.2.1), ((hof_1 1008 (by omega) (by omega) (by omega)).trans hMo.2.2.2.2.2.2.2.2.1), ((hof_1 1009 (by omega) (by omega) (by omega)).trans hMo.2.2.2.2.2.2.2.2.2.1), ((hof_1 1010 (by omega) (by omega) (by omega)).trans hMo.2.2.2.2.2.2.2.2.2.2.1), ((hof_1 1011 (by omega) (by omega) (by omega)).trans hMo.2.2.2.2.2.2.2.2.2.2.2.1), ((hof_1 1012 (by omega) (by omega) (by omega)).trans hMo.2.2.2.2.2.2.2.2.2.2.2.2.1), ((hof_1 1013 (by omega) (by omega) (by omega)).trans hMo.2.2.2.2.2.2.2.2.2.2.2.2.2.1), ((hof_1 1014 (by omega) (by omega) (by omega)).trans hMo.2.2.2.2.2.2.2.2.2.2.2.2.2.2.1), ((hof_1 1015 (by omega) (by omega) (by omega)).trans hMo.2.2.2.2.2.2.2.2.2.2.2.2.2.2.2.1), ((hof_1 1016 (by omega) (by omega) (by omega)).trans hMo.2.2.2.2.2.2.2.2.2.2.2.2.2.2.2.2)⟩ 0 1 r32_0 (by omega) (by omega)) (cwV 2 hts gX6_add_X6_right rfl rfl rfl (by decide +kernel) ⟨Nat.le_of_ble_eq_true rfl, Nat.le_of_ble_eq_true rfl⟩) (rm_preV hK hNw hW hm0_1 rfl) rfl rfl hl.1 rfl (lv_room (Nat.le_of_ble_eq_true rfl)) dX6_add_27 ⟨Nat.zero_le _, Nat.zero_le _⟩) hW hS hA (fun z_5 ct_5 H locs hq_5 hW hS => ?_)
        obtain ⟨t9, ht9, hz, hq1, hq2⟩ := hq_5
        rw [if_pos (by decide)] at ht9
        subst ht9
        rw [if_neg (by omega)] at hz
        subst hz
        have ho_5 : ∀ q, q ≠ 1000 → ct_5 q = ct_1 q := hq2
        have hof_5 : ∀ q, q ≠ 1000 → q ≠ 1005 → q ≠ 1006 → ct_5 q = ct q := fun q h0_5 h1_5 h2_5 => (ho_5 q h0_5).trans (hof_1 q h0_5 h1_5 h2_5)
        have hm0_5 : ct_5 1000 = some (.inr (6, [.int (jI 1), .int (jI ((yc : Nat) : Int)), .int (jI ((hc : Nat) : Int)), .ref (ad 1001), .ref (ad 1002), .ref (ad 1003), .ref (ad 1004), .ref (ad 1005), .ref (ad 1006), .ref (ad 1007), .ref (ad 1008), .ref (ad 1009), .ref (ad 1010), .ref (ad 1011), .ref (ad 1012), .ref (ad 1013), .ref (ad 1014), .ref (ad 1015), .ref (ad 1016)]) : va_E) := hq1
        have hm1_5 : ct_5 1005 = some (rl ty 160 (fl 8 hg)) := (ho_5 1005 (by omega)).trans hm1_1
        have hm2_5 : ct_5 1006 = some (rl ty 160 (fl 8 hf)) := (ho_5 1006 (by omega)).trans hm2_1
        refine rm_if_eq (tgt := 61) hx hb ⟨by omega, by omega⟩ dX6_add_30 (by decide) (fun _ => ?_) (fun hq => absurd hq (by omega))
        refine lv_lconst (v := jL 0) hx hb dX6_add_61 rfl ?_
        exact W.lret hx hb hr (fun t ht hw => ⟨⟨_, (0, ct_5), rfl, ⟨rfl, ⟨(fun q hq9 => hof_5 q (by omega) (by omega) (by omega)), Or.inl ⟨Or.inr (by omega), ⟨mA, pt, ro, ke, kt, mu, sl, tw, bw, de, ⟨hm0_5, ((hof_5 1001 (by omega) (by omega) (by omega)).trans hMo.2.1), ((hof_5 1002 (by omega) (by omega) (by omega)).trans hMo.2.2.1), ((hof_5 1003 (by omega) (by omega) (by omega)).trans hMo.2.2.2.1), ((hof_5 1004 (by omega) (by omega) (by omega)).trans hMo.2.2.2.2.1), hm1_5, hm2_5, ((hof_5 1007 (by omega) (by omega) (by omega)).trans hMo.2.2.2.2.2.2.2.1), ((hof_5 1008 (by omega) (by omega) (by omega)).trans hMo.2.2.2.2.2.2.2.2.1), ((hof_5 1009 (by omega) (by omega) (by omega)).trans hMo.2.2.2.2.2.2.2.2.2.1), ((hof_5 1010 (by omega) (by omega) (by omega)).trans hMo.2.2.2.2.2.2.2.2.2.2.1), ((hof_5 1011 (by omega) (by omega) (by omega)).trans hMo.2.2.2.2.2.2.2.2.2.2.2.1), ((hof_5 1012 (by omega) (by omega) (by omega)).trans hMo.2.2.2.2.2.2.2.2.2.2.2.2.1), ((hof_5 1013 (by omega) (by omega) (by omega)).trans hMo.2.2.2.2.2.2.2.2.2.2.2.2.2.1), ((hof_5 1014 (by omega) (by omega) (by omega)).trans hMo.2.2.2.2.2.2.2.2.2.2.2.2.2.2.1), ((hof_5 1015 (by omega) (by omega) (by omega)).trans hMo.2.2.2.2.2.2.2.2.2.2.2.2.2.2.2.1), ((hof_5 1016 (by omega) (by omega) (by omega)).trans hMo.2.2.2.2.2.2.2.2.2.2.2.2.2.2.2.2)⟩⟩⟩⟩⟩, by show rm_W D ad _ _ t.heap; rw [ht]; exact hW⟩, hS.F ht⟩) hS.2.2 dX6_add_62
      · skip
        obtain ⟨o9, hn_o9⟩ : ∃ o9 : Nat, w9 = (o9 : Int) := ⟨w9.toNat, by omega⟩
        subst hn_o9
        have ho9 : o9 < hc := by omega
        have hyo := hhy o9 ho9
        refine lv_iconst (v := jI 1) hx hb dX6_add_21 rfl ?_
        refine lv_goto (tgt := 26) hx hb dX6_add_22 (by decide) ?_
        refine lv_iconst (v := jI 1) hx hb dX6_add_26 rfl ?_
        refine rm_calli (va_runV (As := [.int (jI 1), .int (jI 1)]) (rest := []) ⟨hx, hb, hml, hown, hts⟩ (c_X6_right l D ty ad ct_1 H.size 0 yc hc yn yM yu hy hg hf mA pt ro ke kt mu sl tw bw de ⟨hm0_1, ((hof_1 1001 (by omega) (by omega) (by omega)).trans hMo.2.1), ((hof_1 1002 (by omega) (by omega) (by omega)).trans hMo.2.2.1), ((hof_1 1003 (by omega) (by omega) (by omega)).trans hMo.2.2.2.1), ((hof_1 1004 (by omega) (by omega) (by omega)).trans hMo.2.2.2.2.1), hm1_1, hm2_1, ((hof_1 1007 (by omega) (by omega) (by omega)).trans hMo.2.2.2.2.2.2.2.1), ((hof_1 1008 (by omega) (by omega) (by omega)).trans hMo.2.2.2.2.2.2.2.2.1), ((hof_1 1009 (by omega) (by omega) (by omega)).trans hMo.2.2.2.2.2.2.2.2.2.1), ((hof_1 1010 (by omega) (by omega) (by omega)).trans hMo.2.2.2.2.2.2.2.2.2.2.1), ((hof_1 1011 (by omega) (by omega) (by omega)).trans hMo.2.2.2.2.2.2.2.2.2.2.2.1), ((hof_1 1012 (by omega) (by omega) (by omega)).trans hMo.2.2.2.2.2.2.2.2.2.2.2.2.1), ((hof_1 1013 (by omega) (by omega) (by omega)).trans hMo.2.2.2.2.2.2.2.2.2.2.2.2.2.1), ((hof_1 1014 (by omega) (by omega) (by omega)).trans hMo.2.2.2.2.2.2.2.2.2.2.2.2.2.2.1), ((hof_1 1015 (by omega) (by omega) (by omega)).trans hMo.2.2.2.2.2.2.2.2.2.2.2.2.2.2.2.1), ((hof_1 1016 (by omega) (by omega) (by omega)).trans hMo.2.2.2.2.2.2.2.2.2.2.2.2.2.2.2.2)⟩ 1 1 r32_0 (by omega) (by omega)) (cwV 2 hts gX6_add_X6_right rfl rfl rfl (by decide +kernel) ⟨Nat.le_of_ble_eq_true rfl, Nat.le_of_ble_eq_true rfl⟩) (rm_preV hK hNw hW hm0_1 rfl) rfl rfl hl.1 rfl (lv_room (Nat.le_of_ble_eq_true rfl)) dX6_add_27 ⟨Nat.zero_le _, Nat.zero_le _⟩) hW hS hA (fun z_6 ct_6 H locs hq_6 hW hS => ?_)
        obtain ⟨t9, ht9, hz, hq1, hq2⟩ := hq_6
        rw [if_neg (by omega)] at ht9
        subst ht9
        rw [if_pos rfl] at hz
        subst hz
        have ho_6 : ∀ q, q ≠ 1000 → ct_6 q = ct_1 q := hq2
        have hof_6 : ∀ q, q ≠ 1000 → q ≠ 1005 → q ≠ 1006 → ct_6 q = ct q := fun q h0_6 h1_6 h2_6 => (ho_6 q h0_6).trans (hof_1 q h0_6 h1_6 h2_6)
        have hm0_6 : ct_6 1000 = some (.inr (6, [.int (jI 0), .int (jI ((yc : Nat) : Int)), .int (jI ((hc : Nat) : Int)), .ref (ad 1001), .ref (ad 1002), .ref (ad 1003), .ref (ad 1004), .ref (ad 1005), .ref (ad 1006), .ref (ad 1007), .ref (ad 1008), .ref (ad 1009), .ref (ad 1010), .ref (ad 1011), .ref (ad 1012), .ref (ad 1013), .ref (ad 1014), .ref (ad 1015), .ref (ad 1016)]) : va_E) := hq1
        have hm1_6 : ct_6 1005 = some (rl ty 160 (fl 8 hg)) := (ho_6 1005 (by omega)).trans hm1_1
        have hm2_6 : ct_6 1006 = some (rl ty 160 (fl 8 hf)) := (ho_6 1006 (by omega)).trans hm2_1
        refine rm_if_eq (tgt := 61) hx hb ⟨by omega, by omega⟩ dX6_add_30 (by decide) (fun hq => absurd hq (by omega)) (fun _ => ?_)
        refine lv_aload_n hx hb dX6_add_33 rfl (lv_at hl 0 rfl) ?_
        refine lv_aload_n hx hb dX6_add_34 rfl (lv_at hl 0 rfl) ?_
        refine rm_get (ci := 6) (v := .ref (ad 1003)) (C := RX6) (T := TX6) (N := 19) hx hb hts (by decide +kernel) hown hK hW hm0_6 rfl 5 (by decide) (hts (.fieldLink RX6 16 "GrainYardModel" "yardOf" "[I") (by decide +kernel)) (fun _ h9 => h9) rfl dX6_add_35 ?_
        refine lv_iload_n hx hb dX6_add_38 rfl (lv_at hl 1 rfl) ?_
        refine rm_iald hx hb hK hW (f := (fun y => ((hy y : Nat) : Int))) ((hof_6 1003 (by omega) (by omega) (by omega)).trans hMo.2.2.2.1) h9 rfl (by omega) (by omega) dX6_add_39 ?_
        refine lv_aload_n hx hb dX6_add_40 rfl (lv_at hl 0 rfl) ?_
        refine rm_get (ci := 6) (v := .ref (ad 1003)) (C := RX6) (T := TX6) (N := 19) hx hb hts (by decide +kernel) hown hK hW hm0_6 rfl 5 (by decide) (hts (.fieldLink RX6 16 "GrainYardModel" "yardOf" "[I") (by decide +kernel)) (fun _ h9 => h9) rfl dX6_add_41 ?_
        refine lv_iload_n hx hb dX6_add_44 rfl (lv_at hl 2 rfl) ?_
        refine rm_iald hx hb hK hW (f := (fun y => ((hy y : Nat) : Int))) ((hof_6 1003 (by omega) (by omega) (by omega)).trans hMo.2.2.2.1) o9 rfl (by omega) (by omega) dX6_add_45 ?_
        refine rm_icmp_ne (tgt := 53) hx hb ⟨by omega, by omega⟩ ⟨by omega, by omega⟩ dX6_add_46 (by decide) (fun hc_7 => ?_) (fun hc_7 => ?_)
        · skip
          refine lv_iconst (v := jI 0) hx hb dX6_add_53 rfl ?_
          refine lv_iconst (v := jI 2) hx hb dX6_add_54 rfl ?_
          refine rm_calli (va_runV (As := [.int (jI 0), .int (jI 2)]) (rest := []) ⟨hx, hb, hml, hown, hts⟩ (c_X6_right l D ty ad ct_6 H.size 0 yc hc yn yM yu hy hg hf mA pt ro ke kt mu sl tw bw de ⟨hm0_6, ((hof_6 1001 (by omega) (by omega) (by omega)).trans hMo.2.1), ((hof_6 1002 (by omega) (by omega) (by omega)).trans hMo.2.2.1), ((hof_6 1003 (by omega) (by omega) (by omega)).trans hMo.2.2.2.1), ((hof_6 1004 (by omega) (by omega) (by omega)).trans hMo.2.2.2.2.1), hm1_6, hm2_6, ((hof_6 1007 (by omega) (by omega) (by omega)).trans hMo.2.2.2.2.2.2.2.1), ((hof_6 1008 (by omega) (by omega) (by omega)).trans hMo.2.2.2.2.2.2.2.2.1), ((hof_6 1009 (by omega) (by omega) (by omega)).trans hMo.2.2.2.2.2.2.2.2.2.1), ((hof_6 1010 (by omega) (by omega) (by omega)).trans hMo.2.2.2.2.2.2.2.2.2.2.1), ((hof_6 1011 (by omega) (by omega) (by omega)).trans hMo.2.2.2.2.2.2.2.2.2.2.2.1), ((hof_6 1012 (by omega) (by omega) (by omega)).trans hMo.2.2.2.2.2.2.2.2.2.2.2.2.1), ((hof_6 1013 (by omega) (by omega) (by omega)).trans hMo.2.2.2.2.2.2.2.2.2.2.2.2.2.1), ((hof_6 1014 (by omega) (by omega) (by omega)).trans hMo.2.2.2.2.2.2.2.2.2.2.2.2.2.2.1), ((hof_6 1015 (by omega) (by omega) (by omega)).trans hMo.2.2.2.2.2.2.2.2.2.2.2.2.2.2.2.1), ((hof_6 1016 (by omega) (by omega) (by omega)).trans hMo.2.2.2.2.2.2.2.2.2.2.2.2.2.2.2.2)⟩ 0 2 r32_0 (by omega) (by omega)) (cwV 2 hts gX6_add_X6_right rfl rfl rfl (by decide +kernel) ⟨Nat.le_of_ble_eq_true rfl, Nat.le_of_ble_eq_true rfl⟩) (rm_preV hK hNw hW hm0_6 rfl) rfl rfl hl.1 rfl (lv_room (Nat.le_of_ble_eq_true rfl)) dX6_add_55 ⟨Nat.zero_le _, Nat.zero_le _⟩) hW hS hA (fun z_8 ct_8 H locs hq_8 hW hS => ?_)
          obtain ⟨t9, ht9, hz, hq1, hq2⟩ := hq_8
          rw [if_pos (by decide)] at ht9
          subst ht9
          rw [if_neg (by omega)] at hz
          subst hz
          have ho_8 : ∀ q, q ≠ 1000 → ct_8 q = ct_6 q := hq2
          have hof_8 : ∀ q, q ≠ 1000 → q ≠ 1005 → q ≠ 1006 → ct_8 q = ct q := fun q h0_8 h1_8 h2_8 => (ho_8 q h0_8).trans (hof_6 q h0_8 h1_8 h2_8)
          have hm0_8 : ct_8 1000 = some (.inr (6, [.int (jI 2), .int (jI ((yc : Nat) : Int)), .int (jI ((hc : Nat) : Int)), .ref (ad 1001), .ref (ad 1002), .ref (ad 1003), .ref (ad 1004), .ref (ad 1005), .ref (ad 1006), .ref (ad 1007), .ref (ad 1008), .ref (ad 1009), .ref (ad 1010), .ref (ad 1011), .ref (ad 1012), .ref (ad 1013), .ref (ad 1014), .ref (ad 1015), .ref (ad 1016)]) : va_E) := hq1
          have hm1_8 : ct_8 1005 = some (rl ty 160 (fl 8 hg)) := (ho_8 1005 (by omega)).trans hm1_6
          have hm2_8 : ct_8 1006 = some (rl ty 160 (fl 8 hf)) := (ho_8 1006 (by omega)).trans hm2_6
          refine rm_if_ne (tgt := 63) hx hb ⟨by omega, by omega⟩ dX6_add_58 (by decide) (fun hq => absurd hq (by omega)) (fun _ => ?_)
          refine lv_lconst (v := jL 0) hx hb dX6_add_61 rfl ?_
          exact W.lret hx hb hr (fun t ht hw => ⟨⟨_, (0, ct_8), rfl, ⟨rfl, ⟨(fun q hq9 => hof_8 q (by omega) (by omega) (by omega)), Or.inr ⟨h9, o9, rfl, rfl, hh9, ho9, Or.inl ⟨by omega, ⟨mA, pt, ro, ke, kt, mu, sl, tw, bw, de, ⟨hm0_8, ((hof_8 1001 (by omega) (by omega) (by omega)).trans hMo.2.1), ((hof_8 1002 (by omega) (by omega) (by omega)).trans hMo.2.2.1), ((hof_8 1003 (by omega) (by omega) (by omega)).trans hMo.2.2.2.1), ((hof_8 1004 (by omega) (by omega) (by omega)).trans hMo.2.2.2.2.1), hm1_8, hm2_8, ((hof_8 1007 (by omega) (by omega) (by omega)).trans hMo.2.2.2.2.2.2.2.1), ((hof_8 1008 (by omega) (by omega) (by omega)).trans hMo.2.2.2.2.2.2.2.2.1), ((hof_8 1009 (by omega) (by omega) (by omega)).trans hMo.2.2.2.2.2.2.2.2.2.1), ((hof_8 1010 (by omega) (by omega) (by omega)).trans hMo.2.2.2.2.2.2.2.2.2.2.1), ((hof_8 1011 (by omega) (by omega) (by omega)).trans hMo.2.2.2.2.2.2.2.2.2.2.2.1), ((hof_8 1012 (by omega) (by omega) (by omega)).trans hMo.2.2.2.2.2.2.2.2.2.2.2.2.1), ((hof_8 1013 (by omega) (by omega) (by omega)).trans hMo.2.2.2.2.2.2.2.2.2.2.2.2.2.1), ((hof_8 1014 (by omega) (by omega) (by omega)).trans hMo.2.2.2.2.2.2.2.2.2.2.2.2.2.2.1), ((hof_8 1015 (by omega) (by omega) (by omega)).trans hMo.2.2.2.2.2.2.2.2.2.2.2.2.2.2.2.1), ((hof_8 1016 (by omega) (by omega) (by omega)).trans hMo.2.2.2.2.2.2.2.2.2.2.2.2.2.2.2.2)⟩⟩⟩⟩⟩⟩, by show rm_W D ad _ _ t.heap; rw [ht]; exact hW⟩, hS.F ht⟩) hS.2.2 dX6_add_62
        · skip
          have hoy : hy o9 = hy h9 := by omega
          refine lv_iconst (v := jI 1) hx hb dX6_add_49 rfl ?_
          refine lv_goto (tgt := 54) hx hb dX6_add_50 (by decide) ?_
          refine lv_iconst (v := jI 2) hx hb dX6_add_54 rfl ?_
          refine rm_calli (va_runV (As := [.int (jI 1), .int (jI 2)]) (rest := []) ⟨hx, hb, hml, hown, hts⟩ (c_X6_right l D ty ad ct_6 H.size 0 yc hc yn yM yu hy hg hf mA pt ro ke kt mu sl tw bw de ⟨hm0_6, ((hof_6 1001 (by omega) (by omega) (by omega)).trans hMo.2.1), ((hof_6 1002 (by omega) (by omega) (by omega)).trans hMo.2.2.1), ((hof_6 1003 (by omega) (by omega) (by omega)).trans hMo.2.2.2.1), ((hof_6 1004 (by omega) (by omega) (by omega)).trans hMo.2.2.2.2.1), hm1_6, hm2_6, ((hof_6 1007 (by omega) (by omega) (by omega)).trans hMo.2.2.2.2.2.2.2.1), ((hof_6 1008 (by omega) (by omega) (by omega)).trans hMo.2.2.2.2.2.2.2.2.1), ((hof_6 1009 (by omega) (by omega) (by omega)).trans hMo.2.2.2.2.2.2.2.2.2.1), ((hof_6 1010 (by omega) (by omega) (by omega)).trans hMo.2.2.2.2.2.2.2.2.2.2.1), ((hof_6 1011 (by omega) (by omega) (by omega)).trans hMo.2.2.2.2.2.2.2.2.2.2.2.1), ((hof_6 1012 (by omega) (by omega) (by omega)).trans hMo.2.2.2.2.2.2.2.2.2.2.2.2.1), ((hof_6 1013 (by omega) (by omega) (by omega)).trans hMo.2.2.2.2.2.2.2.2.2.2.2.2.2.1), ((hof_6 1014 (by omega) (by omega) (by omega)).trans hMo.2.2.2.2.2.2.2.2.2.2.2.2.2.2.1), ((hof_6 1015 (by omega) (by omega) (by omega)).trans hMo.2.2.2.2.2.2.2.2.2.2.2.2.2.2.2.1), ((hof_6 1016 (by omega) (by omega) (by omega)).trans hMo.2.2.2.2.2.2.2.2.2.2.2.2.2.2.2.2)⟩ 1 2 r32_0 (by omega) (by omega)) (cwV 2 hts gX6_add_X6_right rfl rfl rfl (by decide +kernel) ⟨Nat.le_of_ble_eq_true rfl, Nat.le_of_ble_eq_true rfl⟩) (rm_preV hK hNw hW hm0_6 rfl) rfl rfl hl.1 rfl (lv_room (Nat.le_of_ble_eq_true rfl)) dX6_add_55 ⟨Nat.zero_le _, Nat.zero_le _⟩) hW hS hA (fun z_9 ct_9 H locs hq_9 hW hS => ?_)
          obtain ⟨t9, ht9, hz, hq1, hq2⟩ := hq_9
          rw [if_neg (by omega)] at ht9
          subst ht9
          rw [if_pos rfl] at hz
          subst hz
          have ho_9 : ∀ q, q ≠ 1000 → ct_9 q = ct_6 q := hq2
          have hof_9 : ∀ q, q ≠ 1000 → q ≠ 1005 → q ≠ 1006 → ct_9 q = ct q := fun q h0_9 h1_9 h2_9 => (ho_9 q h0_9).trans (hof_6 q h0_9 h1_9 h2_9)
          have hm0_9 : ct_9 1000 = some (.inr (6, [.int (jI 0), .int (jI ((yc : Nat) : Int)), .int (jI ((hc : Nat) : Int)), .ref (ad 1001), .ref (ad 1002), .ref (ad 1003), .ref (ad 1004), .ref (ad 1005), .ref (ad 1006), .ref (ad 1007), .ref (ad 1008), .ref (ad 1009), .ref (ad 1010), .ref (ad 1011), .ref (ad 1012), .ref (ad 1013), .ref (ad 1014), .ref (ad 1015), .ref (ad 1016)]) : va_E) := hq1
          have hm1_9 : ct_9 1005 = some (rl ty 160 (fl 8 hg)) := (ho_9 1005 (by omega)).trans hm1_6
          have hm2_9 : ct_9 1006 = some (rl ty 160 (fl 8 hf)) := (ho_9 1006 (by omega)).trans hm2_6
          refine rm_if_ne (tgt := 63) hx hb ⟨by omega, by omega⟩ dX6_add_58 (by decide) (fun _ => ?_) (fun hq => absurd hq (by omega))
          have hgb := hgr h9 hh9
          have hob : ∀ q, 1 ≤ q → q < (yn (hy h9)) → 0 ≤ hg o9 q ∧ hg o9 q ≤ 1000000000 := fun q a b => hgr o9 ho9 q a (by rw [hoy]; exact b)
          have hps : psum (yn (hy h9)) (tkn (yn (hy h9)) (fun q => hg h9 q + hg o9 q) (hg h9)) ≤ 900000000 := by
            have h5 := had9 h9 hh9
            have h6 := had9 o9 ho9
            rw [hoy] at h6
            rw [psum_cong (f := (tkn (yn (hy h9)) (fun q => hg h9 q + hg o9 q) (hg h9))) (g := (fun q => hg h9 q + hg o9 q)) (fun q a b => tkn_in a b), psum_add]
            omega
          have hg9 : ∀ q, 1 ≤ q → q < (yn (hy h9)) → 0 ≤ (tkn (yn (hy h9)) (fun q => hg h9 q + hg o9 q) (hg h9)) q := fun q a b => by
            have h1 := (hgb q a b).1
            have h2 := (hob q a b).1
            rw [tkn_in a b]; omega
          have hst9 := hst h9 hh9
          refine W_genQ (fun QQ hQQ => ?_)
          refine lv_iconst (v := jI 1) hx hb dX6_add_63 rfl ?_
          refine lv_istore_n (lv' := [(3, .int (jI 1)), (0, .ref (ad 1000)), (1, .int (jI ((h9 : Nat) : Int))), (2, .int (jI ((o9 : Nat) : Int)))]) hx hb dX6_add_64 rfl hl (by decide) rfl (fun ls hl => ?_)
          have h05 : ct_9 1005 = some (rl ty 160 (fl 8 (ub hg h9 (tkn (0 + 1) (fun q => hg h9 q + hg o9 q) (hg h9))))) := hm1_9.trans (congrArg (fun G => some (rl ty 160 (fl 8 G))) (by rw [← tkn_0, ub_self]))
          have LP : ∀ (k : Nat) (i8 : Nat) (hi8 : i8 + 1 ≤ (yn (hy h9))), (yn (hy h9)) - i8 < k → ∀ (ctv : rm_C) (H : Heap) (locs : List Loc), (ctv 1000 = some (.inr (6, [.int (jI 0), .int (jI ((yc : Nat) : Int)), .int (jI ((hc : Nat) : Int)), .ref (ad 1001), .ref (ad 1002), .ref (ad 1003), .ref (ad 1004), .ref (ad 1005), .ref (ad 1006), .ref (ad 1007), .ref (ad 1008), .ref (ad 1009), .ref (ad 1010), .ref (ad 1011), .ref (ad 1012), .ref (ad 1013), .ref (ad 1014), .ref (ad 1015), .ref (ad 1016)]) : va_E)) → ∀ (_ : True), (ctv 1005 = some (rl ty 160 (fl 8 (ub hg h9 (tkn (i8 + 1) (fun q => hg h9 q + hg o9 q) (hg h9)))))) → ∀ (_ : True), (ctv 1006 = some (rl ty 160 (fl 8 hf))) → ∀ (_ : True), (∀ q, q ≠ 1000 → q ≠ 1005 → q ≠ 1006 → ctv q = ct q) → ∀ (_ : True), rm_W D ad ctv (rm_A ad ct s.heap.size) H → va_S (rm_A ad ct s.heap.size) s.heap H locs → ∀ ls : Array Slot, lv_has ls 4 [(3, .int (jI (((i8 + 1) : Nat) : Int))), (0, .ref (ad 1000)), (1, .int (jI ((h9 : Nat) : Int))), (2, .int (jI ((o9 : Nat) : Int)))] → W p l e (headSpec wsX6_add ({ frames := 5, cells := 0, slots := 0, locals := 118 })).room s m args below meth c H locs 0 0 QQ (F0 m 65 ls []) := by
            intro k
            induction k with
            | zero => intro i8 hi8 hk; exact absurd hk (Nat.not_lt_zero _)
            | succ k ih_LP =>
              intro i8 hi8 hk ctv_10 H locs hv0_10 _ hv1_10 _ hv2_10 _ hofv_10 _ hW hS ls hl
              refine lv_iload_n hx hb dX6_add_65 rfl (lv_at hl 0 rfl) ?_
              refine lv_aload_n hx hb dX6_add_66 rfl (lv_at hl 1 rfl) ?_
              refine lv_iload_n hx hb dX6_add_67 rfl (lv_at hl 2 rfl) ?_
              refine rm_calli (va_runV (As := [.int (jI ((h9 : Nat) : Int))]) (rest := [.int (jI (((i8 + 1) : Nat) : Int))]) ⟨hx, hb, hml, hown, hts⟩ (c_X6_size l D ty ad ctv_10 H.size 0 yc hc yn yM yu hy (ub hg h9 (tkn (i8 + 1) (fun q => hg h9 q + hg o9 q) (hg h9))) hf mA pt ro ke kt mu sl tw bw de ⟨hv0_10, ((hofv_10 1001 (by omega) (by omega) (by omega)).trans hMo.2.1), ((hofv_10 1002 (by omega) (by omega) (by omega)).trans hMo.2.2.1), ((hofv_10 1003 (by omega) (by omega) (by omega)).trans hMo.2.2.2.1), ((hofv_10 1004 (by omega) (by omega) (by omega)).trans hMo.2.2.2.2.1), hv1_10, hv2_10, ((hofv_10 1007 (by omega) (by omega) (by omega)).trans hMo.2.2.2.2.2.2.2.1), ((hofv_10 1008 (by omega) (by omega) (by omega)).trans hMo.2.2.2.2.2.2.2.2.1), ((hofv_10 1009 (by omega) (by omega) (by omega)).trans hMo.2.2.2.2.2.2.2.2.2.1), ((hofv_10 1010 (by omega) (by omega) (by omega)).trans hMo.2.2.2.2.2.2.2.2.2.2.1), ((hofv_10 1011 (by omega) (by omega) (by omega)).trans hMo.2.2.2.2.2.2.2.2.2.2.2.1), ((hofv_10 1012 (by omega) (by omega) (by omega)).trans hMo.2.2.2.2.2.2.2.2.2.2.2.2.1), ((hofv_10 1013 (by omega) (by omega) (by omega)).trans hMo.2.2.2.2.2.2.2.2.2.2.2.2.2.1), ((hofv_10 1014 (by omega) (by omega) (by omega)).trans hMo.2.2.2.2.2.2.2.2.2.2.2.2.2.2.1), ((hofv_10 1015 (by omega) (by omega) (by omega)).trans hMo.2.2.2.2.2.2.2.2.2.2.2.2.2.2.2.1), ((hofv_10 1016 (by omega) (by omega) (by omega)).trans hMo.2.2.2.2.2.2.2.2.2.2.2.2.2.2.2.2)⟩ h9 (by omega) (by omega)) (cwV 1 hts gX6_add_X6_size rfl rfl rfl (by decide +kernel) ⟨Nat.le_of_ble_eq_true rfl, Nat.le_of_ble_eq_true rfl⟩) (rm_preV hK hNw hW hv0_10 rfl) rfl rfl hl.1 rfl (lv_room (Nat.le_of_ble_eq_true rfl)) dX6_add_68 ⟨Nat.zero_le _, Nat.zero_le _⟩) hW hS hA (fun z_11 ct_11 H locs hq_11 hW hS => ?_)
              obtain ⟨hz, hcc_11⟩ := hq_11
              have hcc_11 := hcc_11.symm
              subst hcc_11
              subst hz
              refine rm_icmp_ge (tgt := 105) hx hb ⟨by omega, by omega⟩ ⟨by omega, by omega⟩ dX6_add_71 (by decide) (fun hc_12 => ?_) (fun hc_12 => ?_)
              · skip
                have hi8e : i8 + 1 = (yn (hy h9)) := by omega
                have hk_13 : ctv_10 1005 = some (rl ty 160 (fl 8 (ub hg h9 (tkn (yn (hy h9)) (fun q => hg h9 q + hg o9 q) (hg h9))))) := hv1_10.trans (congrArg (fun G => some (rl ty 160 (fl 8 G))) (by rw [hi8e]))
                refine lv_aload_n hx hb dX6_add_105 rfl (lv_at hl 1 rfl) ?_
                refine lv_iload_n hx hb dX6_add_106 rfl (lv_at hl 2 rfl) ?_
                refine rm_calll (va_runV (As := [.int (jI ((h9 : Nat) : Int))]) (rest := []) ⟨hx, hb, hml, hown, hts⟩ (c_X6_settles l D ty ad ctv_10 H.size 0 yc hc yn yM yu hy (ub hg h9 (tkn (yn (hy h9)) (fun q => hg h9 q + hg o9 q) (hg h9))) hf mA pt ro ke kt mu sl tw bw de ⟨hv0_10, ((hofv_10 1001 (by omega) (by omega) (by omega)).trans hMo.2.1), ((hofv_10 1002 (by omega) (by omega) (by omega)).trans hMo.2.2.1), ((hofv_10 1003 (by omega) (by omega) (by omega)).trans hMo.2.2.2.1), ((hofv_10 1004 (by omega) (by omega) (by omega)).trans hMo.2.2.2.2.1), hk_13, hv2_10, ((hofv_10 1007 (by omega) (by omega) (by omega)).trans hMo.2.2.2.2.2.2.2.1), ((hofv_10 1008 (by omega) (by omega) (by omega)).trans hMo.2.2.2.2.2.2.2.2.1), ((hofv_10 1009 (by omega) (by omega) (by omega)).trans hMo.2.2.2.2.2.2.2.2.2.1), ((hofv_10 1010 (by omega) (by omega) (by omega)).trans hMo.2.2.2.2.2.2.2.2.2.2.1), ((hofv_10 1011 (by omega) (by omega) (by omega)).trans hMo.2.2.2.2.2.2.2.2.2.2.2.1), ((hofv_10 1012 (by omega) (by omega) (by omega)).trans hMo.2.2.2.2.2.2.2.2.2.2.2.2.1), ((hofv_10 1013 (by omega) (by omega) (by omega)).trans hMo.2.2.2.2.2.2.2.2.2.2.2.2.2.1), ((hofv_10 1014 (by omega) (by omega) (by omega)).trans hMo.2.2.2.2.2.2.2.2.2.2.2.2.2.2.1), ((hofv_10 1015 (by omega) (by omega) (by omega)).trans hMo.2.2.2.2.2.2.2.2.2.2.2.2.2.2.2.1), ((hofv_10 1016 (by omega) (by omega) (by omega)).trans hMo.2.2.2.2.2.2.2.2.2.2.2.2.2.2.2.2)⟩ h9 (by omega) (by omega) hn8 hM8 hst9.1 (by rw [ub_s]; exact hg9) (by rw [ub_s]; omega)) (cwV 1 hts gX6_add_X6_settles rfl rfl rfl (by decide +kernel) ⟨Nat.le_of_ble_eq_true rfl, Nat.le_of_ble_eq_true rfl⟩) (rm_preV hK hNw hW hv0_10 rfl) rfl rfl hl.1 rfl (lv_room (Nat.le_of_ble_eq_true rfl)) dX6_add_107 ⟨Nat.zero_le _, Nat.zero_le _⟩) hW hS hA (fun z_14 ct_14 H locs hq_14 hW hS => ?_)
                obtain ⟨v, hv1, hv2, hq1, hq2, hq3⟩ := hq_14
                rw [ub_s] at hv1
                rw [ub_s, ub_ub] at hq1
                have ho_14 : ∀ q, q ≠ 1005 → q ≠ 1006 → ct_14 q = ctv_10 q := hq3
                have hof_14 : ∀ q, q ≠ 1000 → q ≠ 1005 → q ≠ 1006 → ct_14 q = ct q := fun q h0_14 h1_14 h2_14 => (ho_14 q h1_14 h2_14).trans (hofv_10 q h0_14 h1_14 h2_14)
                have hm0_14 : ct_14 1000 = some (.inr (6, [.int (jI 0), .int (jI ((yc : Nat) : Int)), .int (jI ((hc : Nat) : Int)), .ref (ad 1001), .ref (ad 1002), .ref (ad 1003), .ref (ad 1004), .ref (ad 1005), .ref (ad 1006), .ref (ad 1007), .ref (ad 1008), .ref (ad 1009), .ref (ad 1010), .ref (ad 1011), .ref (ad 1012), .ref (ad 1013), .ref (ad 1014), .ref (ad 1015), .ref (ad 1016)]) : va_E) := (ho_14 1000 (by omega) (by omega)).trans hv0_10
                have hm1_14 : ct_14 1005 = some (rl ty 160 (fl 8 (us hg h9 (gaf (yn (hy h9)) (yM (hy h9)) (tkn (yn (hy h9)) (fun q => hg h9 q + hg o9 q) (hg h9)) v)))) := hq1
                have hm2_14 : ct_14 1006 = some (rl ty 160 (fl 8 (us hf h9 v))) := hq2
                rw [hQQ]
                exact W.lret hx hb hr (fun t ht hw => ⟨⟨_, (z_14, ct_14), rfl, ⟨rfl, ⟨(fun q hq9 => hof_14 q (by omega) (by omega) (by omega)), Or.inr ⟨h9, o9, rfl, rfl, hh9, ho9, Or.inr ⟨hoy, v, hv1, hv2, ⟨mA, pt, ro, ke, kt, mu, sl, tw, bw, de, ⟨hm0_14, ((hof_14 1001 (by omega) (by omega) (by omega)).trans hMo.2.1), ((hof_14 1002 (by omega) (by omega) (by omega)).trans hMo.2.2.1), ((hof_14 1003 (by omega) (by omega) (by omega)).trans hMo.2.2.2.1), ((hof_14 1004 (by omega) (by omega) (by omega)).trans hMo.2.2.2.2.1), hm1_14, hm2_14, ((hof_14 1007 (by omega) (by omega) (by omega)).trans hMo.2.2.2.2.2.2.2.1), ((hof_14 1008 (by omega) (by omega) (by omega)).trans hMo.2.2.2.2.2.2.2.2.1), ((hof_14 1009 (by omega) (by omega) (by omega)).trans hMo.2.2.2.2.2.2.2.2.2.1), ((hof_14 1010 (by omega) (by omega) (by omega)).trans hMo.2.2.2.2.2.2.2.2.2.2.1), ((hof_14 1011 (by omega) (by omega) (by omega)).trans hMo.2.2.2.2.2.2.2.2.2.2.2.1), ((hof_14 1012 (by omega) (by omega) (by omega)).trans hMo.2.2.2.2.2.2.2.2.2.2.2.2.1), ((hof_14 1013 (by omega) (by omega) (by omega)).trans hMo.2.2.2.2.2.2.2.2.2.2.2.2.2.1), ((hof_14 1014 (by omega) (by omega) (by omega)).trans hMo.2.2.2.2.2.2.2.2.2.2.2.2.2.2.1), ((hof_14 1015 (by omega) (by omega) (by omega)).trans hMo.2.2.2.2.2.2.2.2.2.2.2.2.2.2.2.1), ((hof_14 1016 (by omega) (by omega) (by omega)).trans hMo.2.2.2.2.2.2.2.2.2.2.2.2.2.2.2.2)⟩⟩⟩⟩⟩⟩, by show rm_W D ad _ _ t.heap; rw [ht]; exact hW⟩, hS.F ht⟩) hS.2.2 dX6_add_110
              · skip
                refine lv_aload_n hx hb dX6_add_74 rfl (lv_at hl 1 rfl) ?_
                refine rm_get (ci := 6) (v := .ref (ad 1005)) (C := RX6) (T := TX6) (N := 19) hx hb hts (by decide +kernel) hown hK hW hv0_10 rfl 7 (by decide) (hts (.fieldLink RX6 23 "GrainYardModel" "grains" "[J") (by decide +kernel)) (fun _ h9 => h9) rfl dX6_add_75 ?_
                refine lv_bipush (v := jI 8) hx hb dX6_add_78 (by decide) ?_
                refine lv_iload_n hx hb dX6_add_80 rfl (lv_at hl 2 rfl) ?_
                refine rm_imul hx hb dX6_add_81 ?_
                refine lv_iload_n hx hb dX6_add_82 rfl (lv_at hl 0 rfl) ?_
                refine rm_iadd hx hb dX6_add_83 ?_
                refine lv_dup2_11 hx hb dX6_add_84 rfl rfl ?_
                refine rm_lald hx hb hK hW (f := (fl 8 (ub hg h9 (tkn (i8 + 1) (fun q => hg h9 q + hg o9 q) (hg h9))))) hv1_10 (8 * h9 + (i8 + 1)) (by first | rfl | (push_cast; omega)) (by omega) (by omega) dX6_add_85 ?_
                rw [fl_at (by omega), ub_s]
                rw [tkn_at]
                refine lv_aload_n hx hb dX6_add_86 rfl (lv_at hl 1 rfl) ?_
                refine rm_get (ci := 6) (v := .ref (ad 1005)) (C := RX6) (T := TX6) (N := 19) hx hb hts (by decide +kernel) hown hK hW hv0_10 rfl 7 (by decide) (hts (.fieldLink RX6 23 "GrainYardModel" "grains" "[J") (by decide +kernel)) (fun _ h9 => h9) rfl dX6_add_87 ?_
                refine lv_bipush (v := jI 8) hx hb dX6_add_90 (by decide) ?_
                refine lv_iload_n hx hb dX6_add_92 rfl (lv_at hl 3 rfl) ?_
                refine rm_imul hx hb dX6_add_93 ?_
                refine lv_iload_n hx hb dX6_add_94 rfl (lv_at hl 0 rfl) ?_
                refine rm_iadd hx hb dX6_add_95 ?_
                have hov : ub hg h9 (tkn (i8 + 1) (fun q => hg h9 q + hg o9 q) (hg h9)) o9 (i8 + 1) = hg o9 (i8 + 1) := by
                  by_cases e : o9 = h9
                  · rw [e, ub_s, tkn_at]
                  · rw [ub_n _ _ e]
                refine rm_lald hx hb hK hW (f := (fl 8 (ub hg h9 (tkn (i8 + 1) (fun q => hg h9 q + hg o9 q) (hg h9))))) hv1_10 (8 * o9 + (i8 + 1)) (by first | rfl | (push_cast; omega)) (by omega) (by omega) dX6_add_96 ?_
                rw [fl_at (by omega)]
                rw [hov]
                refine rm_ladd hx hb dX6_add_97 ?_
                refine rm_last hx hb hK hW hS (f := (fl 8 (ub hg h9 (tkn (i8 + 1) (fun q => hg h9 q + hg o9 q) (hg h9))))) hv1_10 (8 * h9 + (i8 + 1)) (by first | rfl | (push_cast; omega)) (by omega) (by omega) dX6_add_98 (fun H locs ct_15 hs_15 ho_15 hW hS hz_15 => ?_)
                have hof_15 : ∀ q, q ≠ 1000 → q ≠ 1005 → q ≠ 1006 → ct_15 q = ct q := fun q h0_15 h1_15 h2_15 => (ho_15 q h1_15).trans (hofv_10 q h0_15 h1_15 h2_15)
                have hm0_15 : ct_15 1000 = some (.inr (6, [.int (jI 0), .int (jI ((yc : Nat) : Int)), .int (jI ((hc : Nat) : Int)), .ref (ad 1001), .ref (ad 1002), .ref (ad 1003), .ref (ad 1004), .ref (ad 1005), .ref (ad 1006), .ref (ad 1007), .ref (ad 1008), .ref (ad 1009), .ref (ad 1010), .ref (ad 1011), .ref (ad 1012), .ref (ad 1013), .ref (ad 1014), .ref (ad 1015), .ref (ad 1016)]) : va_E) := (ho_15 1000 (by omega)).trans hv0_10
                have hm2_15 : ct_15 1006 = some (rl ty 160 (fl 8 hf)) := (ho_15 1006 (by omega)).trans hv2_10
                have hk_16 : ct_15 1005 = some (rl ty 160 (fl 8 (ub hg h9 (ub (tkn (i8 + 1) (fun q => hg h9 q + hg o9 q) (hg h9)) (i8 + 1) ((hg h9 (i8 + 1)) + (hg o9 (i8 + 1))))))) := hs_15.trans (congrArg (fun f => some (rl ty 160 f)) (by rw [fl_ub (by omega) _ _, ub_s, ub_ub]))
                have hk_17 : ct_15 1005 = some (rl ty 160 (fl 8 (ub hg h9 (tkn (i8 + 1 + 1) (fun q => hg h9 q + hg o9 q) (hg h9))))) := hk_16.trans (congrArg (fun G => some (rl ty 160 (fl 8 G))) (by rw [show hg h9 (i8 + 1) + hg o9 (i8 + 1) = (fun q => hg h9 q + hg o9 q) (i8 + 1) from rfl, tkn_s (by omega)]))
                refine lv_iinc (v := jI ((((i8 + 1) : Nat) : Int) + 1)) (lv' := [(3, .int (jI ((((i8 + 1) : Nat) : Int) + 1))), (0, .ref (ad 1000)), (1, .int (jI ((h9 : Nat) : Int))), (2, .int (jI ((o9 : Nat) : Int)))]) hx hb dX6_add_99 hl (k := 0) rfl (jI_add _ _) (by decide) rfl (fun ls hl => ?_)
                refine lv_goto (tgt := 65) hx hb dX6_add_102 (by decide) ?_
                exact ih_LP (i8 + 1) (by omega) (by omega) ct_15 _ _ hm0_15 trivial hk_17 trivial hm2_15 trivial hof_15 trivial hW hS ls (lv_sub hl [0, 1, 2, 3] rfl)
          exact LP ((yn (hy h9)) + 1) (0) (by omega) (by omega) ct_9 _ _ hm0_9 trivial h05 trivial hm2_9 trivial hof_9 trivial hW hS ls (lv_sub hl [0, 1, 2, 3] rfl)
