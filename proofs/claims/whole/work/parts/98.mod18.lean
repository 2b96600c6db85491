set_option maxHeartbeats 4000000 in
set_option maxRecDepth 100000 in
theorem c_X6_alike (l : Launch) (D : va_G) (ty : Nat → ClassId) (ad : Nat → Nat) (ct : rm_C) (sz : Nat) (th : Int) (yc hc : Nat) (yn : Nat → Nat) (yM : Nat → Nat → Nat → Int) (yu : Nat → Int) (hy : Nat → Nat) (hg hf mA : Nat → Nat → Int) (pt ro ke kt mu sl tw bw de : Nat → Int) (hMo : ModAt ty ad ct th yc hc yn yM yu hy hg hf mA pt ro ke kt mu sl tw bw de) (hb20 : yc ≤ 6 ∧ hc ≤ 20) (hyn : ∀ y, y < yc → 2 ≤ yn y ∧ yn y ≤ 8) (hyM : ∀ y, y < yc → ∀ i j, 0 ≤ yM y i j ∧ yM y i j ≤ 3) (hhy : ∀ h, h < hc → hy h < yc) (hyk : ∀ y, y < yc → yok (yn y) (yM y)) (htr : ∀ h, h < hc → trd (yn (hy h)) (yM (hy h)) ≠ 0) (hga : ∀ h, h < hc → ∀ q, 1 ≤ q → q < yn (hy h) → 0 ≤ hg h q ∧ hg h q ≤ 900000000) (z9 w9 : Int) (hz9 : r32 z9) (hw9 : r32 w9) : Met l yX6_alike wsX6_alike ({ frames := 5, cells := 0, slots := 0, locals := 128 }) (rm_P D ty ad ct sz [.ref (ad 1000), .int (jI z9), .int (jI w9)]) (rm_Qi D ad ct sz (fun z ct1 => (∀ q, (q < 1000 ∨ 1016 < q) → ct1 q = ct q) ∧ ((((z9 < 0 ∨ ((hc : Nat) : Int) ≤ z9) ∨ (w9 < 0 ∨ ((hc : Nat) : Int) ≤ w9)) ∧ ModX ty ad ct1 1 yc hc yn yM yu hy hg hf) ∨ ∃ h9 o9 : Nat, z9 = (h9 : Int) ∧ w9 = (o9 : Int) ∧ h9 < hc ∧ o9 < hc ∧ ((hy h9 ≠ hy o9 ∧ ModX ty ad ct1 2 yc hc yn yM yu hy hg hf) ∨ (hy o9 = hy h9 ∧ ((z = 1 ∧ ∀ p, 1 ≤ p → p < (yn (hy h9)) → trd (yn (hy h9)) (yM (hy h9)) ∣ trn (yn (hy h9)) (yM (hy h9)) (fun q => hg h9 q - hg o9 q) p ((yn (hy h9)) - 1)) ∨ (z = 0 ∧ exm (yn (hy h9)) (yM (hy h9)) (fun q => hg h9 q - hg o9 q))) ∧ ModX ty ad ct1 0 yc hc yn yM yu hy hg hf))))) 0 0 (rm_A ad ct sz) := by
  refine Met.ofW (cc := cX6_alike) (maxL := 8) (ret := (some .boolean)) (by decide) rfl ?_
  intro p e s m args below meth c s₁ B hml hv
  obtain ⟨hargs, hsz, hW, hK, hNw⟩ := hv
  have hx := B.exec
  have hb := B.bytes
  have hr := B.returns
  have hts := atoms_spec (ws := wsX6_alike) B.pre
  have hown : s.vm.findClass RX6 = some m.cls := findClass_of_methodNamed B.named
  have hlocks := B.notSynchronized
  subst hsz
  have hW := hW.own (sz := s.heap.size)
  have hA : ∀ q : Nat, s.heap.size ≤ q → rm_A ad ct s.heap.size q := fun q h => Or.inr h
  have hS : va_S (rm_A ad ct s.heap.size) s.heap s.heap [] := va_S.rf
  have hent : entryFrame m args 8 = entryFrame m ([.ref (ad 1000), .int (jI z9), .int (jI w9)] : List Value).toArray 8 := by rw [hargs]
  have hl := lv_entry ([.ref (ad 1000), .int (jI z9), .int (jI w9)]) (n := 8) (Nat.le_of_ble_eq_true rfl)
  rw [hent, lg_entry_eq]
  generalize (lg_sl ([.ref (ad 1000), .int (jI z9), .int (jI w9)]) ++ List.replicate (8 - (lg_sl ([.ref (ad 1000), .int (jI z9), .int (jI w9)])).length) Slot.unset).toArray = ls at hl ⊢
  have hl : lv_has ls 8 [(0, .ref (ad 1000)), (1, .int (jI z9)), (2, .int (jI w9))] := hl
  refine lv_aload_n hx hb dX6_alike_0 rfl (lv_at hl 0 rfl) ?_
  refine lv_iload_n hx hb dX6_alike_1 rfl (lv_at hl 1 rfl) ?_
  refine rm_calli (va_runV (As := [.int (jI z9)]) (rest := []) ⟨hx, hb, hml, hown, hts⟩ (c_X6_isHeap l D ty ad ct s.heap.size th yc hc yn yM yu hy hg hf mA pt ro ke kt mu sl tw bw de hMo z9 hz9 hb20) (cwV 1 hts gX6_alike_X6_isHeap rfl rfl rfl (by decide +kernel) ⟨Nat.le_of_ble_eq_true rfl, Nat.le_of_ble_eq_true rfl⟩) (rm_preV hK hNw hW hMo.1 rfl) rfl rfl hl.1 rfl (lv_room (Nat.le_of_ble_eq_true rfl)) dX6_alike_2 ⟨Nat.zero_le _, Nat.zero_le _⟩) hW hS hA (fun z_1 ct_1 H locs hq_1 hW hS => ?_)
  obtain ⟨hqo, hqc⟩ := hq_1
  rcases hqc with ⟨hbad, hz, hqs⟩ | ⟨hp1, hp2, hz, hqs⟩
  · skip
    subst hz
    have ho_1 : ∀ q, q ≠ 1000 → ct_1 q = ct q := hqo
    have hof_1 : ∀ q, q ≠ 1000 → q ≠ 1007 → ct_1 q = ct q := fun q h0_1 h1_1 => (ho_1 q h0_1).trans rfl
    have hm0_1 : ct_1 1000 = some (.inr (6, [.int (jI 1), .int (jI ((yc : Nat) : Int)), .int (jI ((hc : Nat) : Int)), .ref (ad 1001), .ref (ad 1002), .ref (ad 1003), .ref (ad 1004), .ref (ad 1005), .ref (ad 1006), .ref (ad 1007), .ref (ad 1008), .ref (ad 1009), .ref (ad 1010), .ref (ad 1011), .ref (ad 1012), .ref (ad 1013), .ref (ad 1014), .ref (ad 1015), .ref (ad 1016)]) : va_E) := hqs
    have hm1_1 : ct_1 1007 = some (rl ty 49 (fl 7 mA)) := (ho_1 1007 (by omega)).trans hMo.2.2.2.2.2.2.2.1
    refine rm_if_eq (tgt := 61) hx hb ⟨by omega, by omega⟩ dX6_alike_5 (by decide) (fun _ => ?_) (fun hq => absurd hq (by omega))
    refine lv_iconst (v := jI 0) hx hb dX6_alike_61 rfl ?_
    exact W.zret hx hb hr (by decide) (fun t ht hw => ⟨⟨_, (0, ct_1), rfl, ⟨rfl, ⟨(fun q hq9 => hof_1 q (by omega) (by omega)), Or.inl ⟨Or.inl hbad, ⟨mA, pt, ro, ke, kt, mu, sl, tw, bw, de, ⟨hm0_1, ((hof_1 1001 (by omega) (by omega)).trans hMo.2.1), ((hof_1 1002 (by omega) (by omega)).trans hMo.2.2.1), ((hof_1 1003 (by omega) (by omega)).trans hMo.2.2.2.1), ((hof_1 1004 (by omega) (by omega)).trans hMo.2.2.2.2.1), ((hof_1 1005 (by omega) (by omega)).trans hMo.2.2.2.2.2.1), ((hof_1 1006 (by omega) (by omega)).trans hMo.2.2.2.2.2.2.1), hm1_1, ((hof_1 1008 (by omega) (by omega)).trans hMo.2.2.2.2.2.2.2.2.1), ((hof_1 1009 (by omega) (by omega)).trans hMo.2.2.2.2.2.2.2.2.2.1), ((hof_1 1010 (by omega) (by omega)).trans hMo.2.2.2.2.2.2.2.2.2.2.1), ((hof_1 1011 (by omega) (by omega)).trans hMo.2.2.2.2.2.2.2.2.2.2.2.1), ((hof_1 1012 (by omega) (by omega)).trans hMo.2.2.2.2.2.2.2.2.2.2.2.2.1), ((hof_1 1013 (by omega) (by omega)).trans hMo.2.2.2.2.2.2.2.2.2.2.2.2.2.1), ((hof_1 1014 (by omega) (by omega)).trans hMo.2.2.2.2.2.2.2.2.2.2.2.2.2.2.1), ((hof_1 1015 (by omega) (by omega)).trans hMo.2.2.2.2.2.2.2.2.2.2.2.2.2.2.2.1), ((hof_1 1016 (by omega) (by omega)).trans hMo.2.2.2.2.2.2.2.2.2.2.2.2.2.2.2.2)⟩⟩⟩⟩⟩, by show rm_W D ad _ _ t.heap; rw [ht]; exact hW⟩, hS.F ht⟩) hS.2.2 dX6_alike_62
  · skip
    subst hz
    have ho_1 : ∀ q, q ≠ 1000 → ct_1 q = ct q := hqo
    have hof_1 : ∀ q, q ≠ 1000 → q ≠ 1007 → ct_1 q = ct q := fun q h0_1 h1_1 => (ho_1 q h0_1).trans rfl
    have hm0_1 : ct_1 1000 = some (.inr (6, [.int (jI 0), .int (jI ((yc : Nat) : Int)), .int (jI ((hc : Nat) : Int)), .ref (ad 1001), .ref (ad 1002), .ref (ad 1003), .ref (ad 1004), .ref (ad 1005), .ref (ad 1006), .ref (ad 1007), .ref (ad 1008), .ref (ad 1009), .ref (ad 1010), .ref (ad 1011), .ref (ad 1012), .ref (ad 1013), .ref (ad 1014), .ref (ad 1015), .ref (ad 1016)]) : va_E) := hqs
    have hm1_1 : ct_1 1007 = some (rl ty 49 (fl 7 mA)) := (ho_1 1007 (by omega)).trans hMo.2.2.2.2.2.2.2.1
    obtain ⟨h9, hn_h9⟩ : ∃ h9 : Nat, z9 = (h9 : Int) := ⟨z9.toNat, by omega⟩
    subst hn_h9
    have hh9 : h9 < hc := by omega
    have hyh := hhy h9 hh9
    have hn8 := hyn (hy h9) hyh
    have hM8 := hyM (hy h9) hyh
    refine rm_if_eq (tgt := 61) hx hb ⟨by omega, by omega⟩ dX6_alike_5 (by decide) (fun hq => absurd hq (by omega)) (fun _ => ?_)
    refine lv_aload_n hx hb dX6_alike_8 rfl (lv_at hl 0 rfl) ?_
    refine lv_iload_n hx hb dX6_alike_9 rfl (lv_at hl 2 rfl) ?_
    refine rm_if_lt (tgt := 25) hx hb ⟨by omega, by omega⟩ dX6_alike_10 (by decide) (fun hc_2 => ?_) (fun hc_2 => ?_)
    · skip
      refine lv_iconst (v := jI 0) hx hb dX6_alike_25 rfl ?_
      refine lv_iconst (v := jI 1) hx hb dX6_alike_26 rfl ?_
      refine rm_calli (va_runV (As := [.int (jI 0), .int (jI 1)]) (rest := []) ⟨hx, hb, hml, hown, hts⟩ (c_X6_right l D ty ad ct_1 H.size 0 yc hc yn yM yu hy hg hf mA pt ro ke kt mu sl tw bw de ⟨hm0_1, ((hof_1 1001 (by omega) (by omega)).trans hMo.2.1), ((hof_1 1002 (by omega) (by omega)).trans hMo.2.2.1), ((hof_1 1003 (by omega) (by omega)).trans hMo.2.2.2.1), ((hof_1 1004 (by omega) (by omega)).trans hMo.2.2.2.2.1), ((hof_1 1005 (by omega) (by omega)).trans hMo.2.2.2.2.2.1), ((hof_1 1006 (by omega) (by omega)).trans hMo.2.2.2.2.2.2.1), hm1_1, ((hof_1 1008 (by omega) (by omega)).trans hMo.2.2.2.2.2.2.2.2.1), ((hof_1 1009 (by omega) (by omega)).trans hMo.2.2.2.2.2.2.2.2.2.1), ((hof_1 1010 (by omega) (by omega)).trans hMo.2.2.2.2.2.2.2.2.2.2.1), ((hof_1 1011 (by omega) (by omega)).trans hMo.2.2.2.2.2.2.2.2.2.2.2.1), ((hof_1 1012 (by omega) (by omega)).trans hMo.2.2.2.2.2.2.2.2.2.2.2.2.1), ((hof_1 1013 (by omega) (by omega)).trans hMo.2.2.2.2.2.2.2.2.2.2.2.2.2.1), ((hof_1 1014 (by omega) (by omega)).trans hMo.2.2.2.2.2.2.2.2.2.2.2.2.2.2.1), ((hof_1 1015 (by omega) (by omega)).trans hMo.2.2.2.2.2.2.2.2.2.2.2.2.2.2.2.1), ((hof_1 1016 (by omega) (by omega)).trans hMo.2.2.2.2.2.2.2.2.2.2.2.2.2.2.2.2)⟩ 0 1 r32_0 (by omega) (by omega)) (cwV 2 hts gX6_alike_X6_right rfl rfl rfl (by decide +kernel) ⟨Nat.le_of_ble_eq_true rfl, Nat.le_of_ble_eq_true rfl⟩) (rm_preV hK hNw hW hm0_1 rfl) rfl rfl hl.1 rfl (lv_room (Nat.le_of_ble_eq_true rfl)) dX6_alike_27 ⟨Nat.zero_le _, Nat.zero_le _⟩) hW hS hA (fun z_3 ct_3 H locs hq_3 hW hS => ?_)
      obtain ⟨t9, ht9, hz, hq1, hq2⟩ := hq_3
      rw [if_pos (by decide)] at ht9
      subst ht9
      rw [if_neg (by omega)] at hz
      subst hz
      have ho_3 : ∀ q, q ≠ 1000 → ct_3 q = ct_1 q := hq2
      have hof_3 : ∀ q, q ≠ 1000 → q ≠ 1007 → ct_3 q = ct q := fun q h0_3 h1_3 => (ho_3 q h0_3).trans (hof_1 q h0_3 h1_3)
      have hm0_3 : ct_3 1000 = some (.inr (6, [.int (jI 1), .int (jI ((yc : Nat) : Int)), .int (jI ((hc : Nat) : Int)), .ref (ad 1001), .ref (ad 1002), .ref (ad 1003), .ref (ad 1004), .ref (ad 1005), .ref (ad 1006), .ref (ad 1007), .ref (ad 1008), .ref (ad 1009), .ref (ad 1010), .ref (ad 1011), .ref (ad 1012), .ref (ad 1013), .ref (ad 1014), .ref (ad 1015), .ref (ad 1016)]) : va_E) := hq1
      have hm1_3 : ct_3 1007 = some (rl ty 49 (fl 7 mA)) := (ho_3 1007 (by omega)).trans hm1_1
      refine rm_if_eq (tgt := 61) hx hb ⟨by omega, by omega⟩ dX6_alike_30 (by decide) (fun _ => ?_) (fun hq => absurd hq (by omega))
      refine lv_iconst (v := jI 0) hx hb dX6_alike_61 rfl ?_
      exact W.zret hx hb hr (by decide) (fun t ht hw => ⟨⟨_, (0, ct_3), rfl, ⟨rfl, ⟨(fun q hq9 => hof_3 q (by omega) (by omega)), Or.inl ⟨Or.inr (by omega), ⟨mA, pt, ro, ke, kt, mu, sl, tw, bw, de, ⟨hm0_3, ((hof_3 1001 (by omega) (by omega)).trans hMo.2.1), ((hof_3 1002 (by omega) (by omega)).trans hMo.2.2.1), ((hof_3 1003 (by omega) (by omega)).trans hMo.2.2.2.1), ((hof_3 1004 (by omega) (by omega)).trans hMo.2.2.2.2.1), ((hof_3 1005 (by omega) (by omega)).trans hMo.2.2.2.2.2.1), ((hof_3 1006 (by omega) (by omega)).trans hMo.2.2.2.2.2.2.1), hm1_3, ((hof_3 1008 (by omega) (by omega)).trans hMo.2.2.2.2.2.2.2.2.1), ((hof_3 1009 (by omega) (by omega)).trans hMo.2.2.2.2.2.2.2.2.2.1), ((hof_3 1010 (by omega) (by omega)).trans hMo.2.2.2.2.2.2.2.2.2.2.1), ((hof_3 1011 (by omega) (by omega)).trans hMo.2.2.2.2.2.2.2.2.2.2.2.1), ((hof_3 1012 (by omega) (by omega)).trans hMo.2.2.2.2.2.2.2.2.2.2.2.2.1), ((hof_3 1013 (by omega) (by omega)).trans hMo.2.2.2.2.2.2.2.2.2.2.2.2.2.1), ((hof_3 1014 (by omega) (by omega)).trans hMo.2.2.2.2.2.2.2.2.2.2.2.2.2.2.1), ((hof_3 1015 (by omega) (by omega)).trans hMo.2.2.2.2.2.2.2.2.2.2.2.2.2.2.2.1), ((hof_3 1016 (by omega) (by omega)).trans hMo.2.2.2.2.2.2.2.2.2.2.2.2.2.2.2.2)⟩⟩⟩⟩⟩, by show rm_W D ad _ _ t.heap; rw [ht]; exact hW⟩, hS.F ht⟩) hS.2.2 dX6_alike_62
    · skip
      refine lv_iload_n hx hb dX6_alike_13 rfl (lv_at hl 2 rfl) ?_
      refine lv_aload_n hx hb dX6_alike_14 rfl (lv_at hl 0 rfl) ?_
      refine rm_get (ci := 6) (v := .int (jI ((hc : Nat) : Int))) (C := RX6) (T := TX6) (N := 19) hx hb hts (by decide +kernel) hown hK hW hm0_1 rfl 2 (by decide) (hts (.fieldLink RX6 126 "GrainYardModel" "heaps" "I") (by decide +kernel)) (fun _ h9 => h9) rfl dX6_alike_15 ?_
      refine rm_icmp_ge (tgt := 25) hx hb ⟨by omega, by omega⟩ ⟨by omega, by omega⟩ dX6_alike_18 (by decide) (fun hc_4 => ?_) (fun hc_4 => ?_)
      · skip
        refine lv_iconst (v := jI 0) hx hb dX6_alike_25 rfl ?_
        refine lv_iconst (v := jI 1) hx hb dX6_alike_26 rfl ?_
        refine rm_calli (va_runV (As := [.int (jI 0), .int (jI 1)]) (rest := []) ⟨hx, hb, hml, hown, hts⟩ (c_X6_right l D ty ad ct_1 H.size 0 yc hc yn yM yu hy hg hf mA pt ro ke kt mu sl tw bw de ⟨hm0_1, ((hof_1 1001 (by omega) (by omega)).trans hMo.2.1), ((hof_1 1002 (by omega) (by omega)).trans hMo.2.2.1), ((hof_1 1003 (by omega) (by omega)).trans hMo.2.2.2.1), ((hof_1 1004 (by omega) (by omega)).trans hMo.2.2.2.2.1), ((hof_1 1005 (by omega) (by omega)).trans hMo.2.2.2.2.2.1), ((hof_1 1006 (by omega) (by omega)).trans hMo.2.2.2.2.2.2.1), hm1_1, ((hof_1 1008 (by omega) (by omega)).trans hMo.2.2.2.2.2.2.2.2.1), ((hof_1 1009 (by omega) (by omega)).trans hMo.2.2.2.2.2.2.2.2.2.1), ((hof_1 1010 (by omega) (by omega)).trans hMo.2.2.2.2.2.2.2.2.2.2.1), ((hof_1 1011 (by omega) (by omega)).trans hMo.2.2.2.2.2.2.2.2.2.2.2.1), ((hof_1 1012 (by omega) (by omega)).trans hMo.2.2.2.2.2.2.2.2.2.2.2.2.1), ((hof_1 1013 (by omega) (by omega)).trans hMo.2.2.2.2.2.2.2.2.2.2.2.2.2.1), ((hof_1 1014 (by omega) (by omega)).trans hMo.2.2.2.2.2.2.2.2.2.2.2.2.2.2.1), ((hof_1 1015 (by omega) (by omega)).trans hMo.2.2.2.2.2.2.2.2.2.2.2.2.2.2.2.1), ((hof_1 1016 (by omega) (by omega)).trans hMo.2.2.2.2.2.2.2.2.2.2.2.2.2.2.2.2)⟩ 0 1 r32_0 (by omega) (by omega)) (cwV 2 hts gX6_alike_X6_right rfl rfl rfl (by decide +kernel) ⟨Nat.le_of_ble_eq_true rfl, Nat.le_of_ble_eq_true rfl⟩) (rm_preV hK hNw hW hm0_1 rfl) rfl rfl hl.1 rfl (lv_room (Nat.le_of_ble_eq_true rfl)) dX6_alike_27 ⟨Nat.zero_le _, Nat.zero_le _⟩) hW hS hA (fun z_5 ct_5 H locs hq_5 hW hS => ?_)
        obtain ⟨t9, ht9, hz, hq1, hq2⟩ := hq_5
        rw [if_pos (by decide)] at ht9
        subst ht9
        rw [if_neg (by omega)] at hz
        subst hz
        have ho_5 : ∀ q, q ≠ 1000 → ct_5 q = ct_1 q := hq2
        have hof_5 : ∀ q, q ≠ 1000 → q ≠ 1007 → ct_5 q = ct q := fun q h0_5 h1_5 => (ho_5 q h0_5).trans (hof_1 q h0_5 h1_5)
        have hm0_5 : ct_5 1000 = some (.inr (6, [.int (jI 1), .int (jI ((yc : Nat) : Int)), .int (jI ((hc : Nat) : Int)), .ref (ad 1001), .ref (ad 1002), .ref (ad 1003), .ref (ad 1004), .ref (ad 1005), .ref (ad 1006), .ref (ad 1007), .ref (ad 1008), .ref (ad 1009), .ref (ad 1010), .ref (ad 1011), .ref (ad 1012), .ref (ad 1013), .ref (ad 1014), .ref (ad 1015), .ref (ad 1016)]) : va_E) := hq1
        have hm1_5 : ct_5 1007 = some (rl ty 49 (fl 7 mA)) := (ho_5 1007 (by omega)).trans hm1_1
        refine rm_if_eq (tgt := 61) hx hb ⟨by omega, by omega⟩ dX6_alike_30 (by decide) (fun _ => ?_) (fun hq => absurd hq (by omega))
        refine lv_iconst (v := jI 0) hx hb dX6_alike_61 rfl ?_
        exact W.zret hx hb hr (by decide) (fun t ht hw => ⟨⟨_, (0, ct_5), rfl, ⟨rfl, ⟨(fun q hq9 => hof_5 q (by omega) (by omega)), Or.inl ⟨Or.inr (by omega), ⟨mA, pt, ro, ke, kt, mu, sl, tw, bw, de, ⟨hm0_5, ((hof_5 1001 (by omega) (by omega)).trans hMo.2.1), ((hof_5 1002 (by omega) (by omega)).trans hMo.2.2.1), ((hof_5 1003 (by omega) (by omega)).trans hMo.2.2.2.1), ((hof_5 1004 (by omega) (by omega)).trans hMo.2.2.2.2.1), ((hof_5 1005 (by omega) (by omega)).trans hMo.2.2.2.2.2.1), ((hof_5 1006 (by omega) (by omega)).trans hMo.2.2.2.2.2.2.1), hm1_5, ((hof_5 1008 (by omega) (by omega)).trans hMo.2.2.2.2.2.2.2.2.1), ((hof_5 1009 (by omega) (by omega)).trans hMo.2.2.2.2.2.2.2.2.2.1), ((hof_5 1010 (by omega) (by omega)).trans hMo.2.2.2.2.2.2.2.2.2.2.1), ((hof_5 1011 (by omega) (by omega)).trans hMo.2.2.2.2.2.2.2.2.2.2.2.1), ((hof_5 1012 (by omega) (by omega)).trans hMo.2.2.2.2.2.2.2.2.2.2.2.2.1), ((hof_5 1013 (by omega) (by omega)).trans hMo.2.2.2.2.2.2.2.2.2.2.2.2.2.1), ((hof_5 1014 (by omega) (by omega)).trans hMo.2.2.2.2.2.2.2.2.2.2.2.2.2.2.1), ((hof_5 1015 (by omega) (by omega)).trans hMo.2.2.2.2.2.2.2.2.2.2.2.2.2.2.2.1), ((hof_5 1016 (by omega) (by omega)).trans hMo.2.2.2.2.2.2.2.2.2.2.2.2.2.2.2.2)⟩⟩⟩⟩⟩, by show rm_W D ad _ _ t.heap; rw [ht]; exact hW⟩, hS.F ht⟩) hS.2.2 dX6_alike_62
      · skip
        obtain ⟨o9, hn_o9⟩ : ∃ o9 : Nat, w9 = (o9 : Int) := ⟨w9.toNat, by omega⟩
        subst hn_o9
        have ho9 : o9 < hc := by omega
        have hyo := hhy o9 ho9
        refine lv_iconst (v := jI 1) hx hb dX6_alike_21 rfl ?_
        refine lv_goto (tgt := 26) hx hb dX6_alike_22 (by decide) ?_
        refine lv_iconst (v := jI 1) hx hb dX6_alike_26 rfl ?_
        refine rm_calli (va_runV (As := [.int (jI 1), .int (jI 1)]) (rest := []) ⟨hx, hb, hml, hown, hts⟩ (c_X6_right l D ty ad ct_1 H.size 0 yc hc yn yM yu hy hg hf mA pt ro ke kt mu sl tw bw de ⟨hm0_1, ((hof_1 1001 (by omega) (by omega)).trans hMo.2.1), ((hof_1 1002 (by omega) (by omega)).trans hMo.2.2.1), ((hof_1 1003 (by omega) (by omega)).trans hMo.2.2.2.1), ((hof_1 1004 (by omega) (by omega)).trans hMo.2.2.2.2.1), ((hof_1 1005 (by omega) (by omega)).trans hMo.2.2.2.2.2.1), ((hof_1 1006 (by omega) (by omega)).trans hMo.2.2.2.2.2.2.1), hm1_1, ((hof_1 1008 (by omega) (by omega)).trans hMo.2.2.2.2.2.2.2.2.1), ((hof_1 1009 (by omega) (by omega)).trans hMo.2.2.2.2.2.2.2.2.2.1), ((hof_1 1010 (by omega) (by omega)).trans hMo.2.2.2.2.2.2.2.2.2.2.1), ((hof_1 1011 (by omega) (by omega)).trans hMo.2.2.2.2.2.2.2.2.2.2.2.1), ((hof_1 1012 (by omega) (by omega)).trans hMo.2.2.2.2.2.2.2.2.2.2.2.2.1), ((hof_1 1013 (by omega) (by omega)).trans hMo.2.2.2.2.2.2.2.2.2.2.2.2.2.1), ((hof_1 1014 (by omega) (by omega)).trans hMo.2.2.2.2.2.2.2.2.2.2.2.2.2.2.1), ((hof_1 1015 (by omega) (by omega)).trans hMo.2.2.2.2.2.2.2.2.2.2.2.2.2.2.2.1), ((hof_1 1016 (by omega) (by omega)).trans hMo.2.2.2.2.2.2.2.2.2.2.2.2.2.2.2.2)⟩ 1 1 r32_0 (by omega) (by omega)) (cwV 2 hts gX6_alike_X6_right rfl rfl rfl (by decide +kernel) ⟨Nat.le_of_ble_eq_true rfl, Nat.le_of_ble_eq_true rfl⟩) (rm_preV hK hNw hW hm0_1 rfl) rfl rfl hl.1 rfl (lv_room (Nat.le_of_ble_eq_true rfl)) dX6_alike_27 ⟨Nat.zero_le _, Nat.zero_le _⟩) hW hS hA (fun z_6 ct_6 H locs hq_6 hW hS => ?_)
        obtain ⟨t9, ht9, hz, hq1, hq2⟩ := hq_6
        rw [if_neg (by omega)] at ht9
        subst ht9
        rw [if_pos rfl] at hz
        subst hz
        have ho_6 : ∀ q, q ≠ 1000 → ct_6 q = ct_1 q := hq2
        have hof_6 : ∀ q, q ≠ 1000 → q ≠ 1007 → ct_6 q = ct q := fun q h0_6 h1_6 => (ho_6 q h0_6).trans (hof_1 q h0_6 h1_6)
        have hm0_6 : ct_6 1000 = some (.inr (6, [.int (jI 0), .int (jI ((yc : Nat) : Int)), .int (jI ((hc : Nat) : Int)), .ref (ad 1001), .ref (ad 1002), .ref (ad 1003), .ref (ad 1004), .ref (ad 1005), .ref (ad 1006), .ref (ad 1007), .ref (ad 1008), .ref (ad 1009), .ref (ad 1010), .ref (ad 1011), .ref (ad 1012), .ref (ad 1013), .ref (ad 1014), .ref (ad 1015), .ref (ad 1016)]) : va_E) := hq1
        have hm1_6 : ct_6 1007 = some (rl ty 49 (fl 7 mA)) := (ho_6 1007 (by omega)).trans hm1_1
        refine rm_if_eq (tgt := 61) hx hb ⟨by omega, by omega⟩ dX6_alike_30 (by decide) (fun hq => absurd hq (by omega)) (fun _ => ?_)
        refine lv_aload_n hx hb dX6_alike_33 rfl (lv_at hl 0 rfl) ?_
        refine lv_aload_n hx hb dX6_alike_34 rfl (lv_at hl 0 rfl) ?_
        refine rm_get (ci := 6) (v := .ref (ad 1003)) (C := RX6) (T := TX6) (N := 19) hx hb hts (by decide +kernel) hown hK hW hm0_6 rfl 5 (by decide) (hts (.fieldLink RX6 16 "GrainYardModel" "yardOf" "[I") (by decide +kernel)) (fun _ h9 => h9) rfl dX6_alike_35 ?_
        refine lv_iload_n hx hb dX6_alike_38 rfl (lv_at hl 1 rfl) ?_
        refine rm_iald hx hb hK hW (f := (fun y => ((hy y : Nat) : Int))) ((hof_6 1003 (by omega) (by omega)).trans hMo.2.2.2.1) h9 rfl (by omega) (by omega) dX6_alike_39 ?_
        refine lv_aload_n hx hb dX6_alike_40 rfl (lv_at hl 0 rfl) ?_
        refine rm_get (ci := 6) (v := .ref (ad 1003)) (C := RX6) (T := TX6) (N := 19) hx hb hts (by decide +kernel) hown hK hW hm0_6 rfl 5 (by decide) (hts (.fieldLink RX6 16 "GrainYardModel" "yardOf" "[I") (by decide +kernel)) (fun _ h9 => h9) rfl dX6_alike_41 ?_
        refine lv_iload_n hx hb dX6_alike_44 rfl (lv_at hl 2 rfl) ?_
        refine rm_iald hx hb hK hW (f := (fun y => ((hy y : Nat) : Int))) ((hof_6 1003 (by omega) (by omega)).trans hMo.2.2.2.1) o9 rfl (by omega) (by omega) dX6_alike_45 ?_
        refine rm_icmp_ne (tgt := 53) hx hb ⟨by omega, by omega⟩ ⟨by omega, by omega⟩ dX6_alike_46 (by decide) (fun hc_7 => ?_) (fun hc_7 => ?_)
        · skip
          refine lv_iconst (v := jI 0) hx hb dX6_alike_53 rfl ?_
          refine lv_iconst (v := jI 2) hx hb dX6_alike_54 rfl ?_
          refine rm_calli (va_runV (As := [.int (jI 0), .int (jI 2)]) (rest := []) ⟨hx, hb, hml, hown, hts⟩ (c_X6_right l D ty ad ct_6 H.size 0 yc hc yn yM yu hy hg hf mA pt ro ke kt mu sl tw bw de ⟨hm0_6, ((hof_6 1001 (by omega) (by omega)).trans hMo.2.1), ((hof_6 1002 (by omega) (by omega)).trans hMo.2.2.1), ((hof_6 1003 (by omega) (by omega)).trans hMo.2.2.2.1), ((hof_6 1004 (by omega) (by omega)).trans hMo.2.2.2.2.1), ((hof_6 1005 (by omega) (by omega)).trans hMo.2.2.2.2.2.1), ((hof_6 1006 (by omega) (by omega)).trans hMo.2.2.2.2.2.2.1), hm1_6, ((hof_6 1008 (by omega) (by omega)).trans hMo.2.2.2.2.2.2.2.2.1), ((hof_6 1009 (by omega) (by omega)).trans hMo.2.2.2.2.2.2.2.2.2.1), ((hof_6 1010 (by omega) (by omega)).trans hMo.2.2.2.2.2.2.2.2.2.2.1), ((hof_6 1011 (by omega) (by omega)).trans hMo.2.2.2.2.2.2.2.2.2.2.2.1), ((hof_6 1012 (by omega) (by omega)).trans hMo.2.2.2.2.2.2.2.2.2.2.2.2.1), ((hof_6 1013 (by omega) (by omega)).trans hMo.2.2.2.2.2.2.2.2.2.2.2.2.2.1), ((hof_6 1014 (by omega) (by omega)).trans hMo.2.2.2.2.2.2.2.2.2.2.2.2.2.2.1), ((hof_6 1015 (by omega) (by omega)).trans hMo.2.2.2.2.2.2.2.2.2.2.2.2.2.2.2.1), ((hof_6 1016 (by omega) (by omega)).trans hMo.2.2.2.2.2.2.2.2.2.2.2.2.2.2.2.2)⟩ 0 2 r32_0 (by omega) (by omega)) (cwV 2 hts gX6_alike_X6_right rfl rfl rfl (by decide +kernel) ⟨Nat.le_of_ble_eq_true rfl, Nat.le_of_ble_eq_true rfl⟩) (rm_preV hK hNw hW hm0_6 rfl) rfl rfl hl.1 rfl (lv_room (Nat.le_of_ble_eq_true rfl)) dX6_alike_55 ⟨Nat.zero_le _, Nat.zero_le _⟩) hW hS hA (fun z_8 ct_8 H locs hq_8 hW hS => ?_)
          obtain ⟨t9, ht9, hz, hq1, hq2⟩ := hq_8
          rw [if_pos (by decide)] at ht9
          subst ht9
          rw [if_neg (by omega)] at hz
          subst hz
          have ho_8 : ∀ q, q ≠ 1000 → ct_8 q = ct_6 q := hq2
          have hof_8 : ∀ q, q ≠ 1000 → q ≠ 1007 → ct_8 q = ct q := fun q h0_8 h1_8 => (ho_8 q h0_8).trans (hof_6 q h0_8 h1_8)
          have hm0_8 : ct_8 1000 = some (.inr (6, [.int (jI 2), .int (jI ((yc : Nat) : Int)), .int (jI ((hc : Nat) : Int)), .ref (ad 1001), .ref (ad 1002), .ref (ad 1003), .ref (ad 1004), .ref (ad 1005), .ref (ad 1006), .ref (ad 1007), .ref (ad 1008), .ref (ad 1009), .ref (ad 1010), .ref (ad 1011), .ref (ad 1012), .ref (ad 1013), .ref (ad 1014), .ref (ad 1015), .ref (ad 1016)]) : va_E) := hq1
          have hm1_8 : ct_8 1007 = some (rl ty 49 (fl 7 mA)) := (ho_8 1007 (by omega)).trans hm1_6
          refine rm_if_ne (tgt := 63) hx hb ⟨by omega, by omega⟩ dX6_alike_58 (by decide) (fun hq => absurd hq (by omega)) (fun _ => ?_)
          refine lv_iconst (v := jI 0) hx hb dX6_alike_61 rfl ?_
          exact W.zret hx hb hr (by decide) (fun t ht hw => ⟨⟨_, (0, ct_8), rfl, ⟨rfl, ⟨(fun q hq9 => hof_8 q (by omega) (by omega)), Or.inr ⟨h9, o9, rfl, rfl, hh9, ho9, Or.inl ⟨by omega, ⟨mA, pt, ro, ke, kt, mu, sl, tw, bw, de, ⟨hm0_8, ((hof_8 1001 (by omega) (by omega)).trans hMo.2.1), ((hof_8 1002 (by omega) (by omega)).trans hMo.2.2.1), ((hof_8 1003 (by omega) (by omega)).trans hMo.2.2.2.1), ((hof_8 1004 (by omega) (by omega)).trans hMo.2.2.2.2.1), ((hof_8 1005 (by omega) (by omega)).trans hMo.2.2.2.2.2.1), ((hof_8 1006 (by omega) (by omega)).trans hMo.2.2.2.2.2.2.1), hm1_8, ((hof_8 1008 (by omega) (by omega)).trans hMo.2.2.2.2.2.2.2.2.1), ((hof_8 1009 (by omega) (by omega)).trans hMo.2.2.2.2.2.2.2.2.2.1), ((hof_8 1010 (by omega) (by omega)).trans hMo.2.2.2.2.2.2.2.2.2.2.1), ((hof_8 1011 (by omega) (by omega)).trans hMo.2.2.2.2.2.2.2.2.2.2.2.1), ((hof_8 1012 (by omega) (by omega)).trans hMo.2.2.2.2.2.2.2.2.2.2.2.2.1), ((hof_8 1013 (by omega) (by omega)).trans hMo.2.2.2.2.2.2.2.2.2.2.2.2.2.1), ((hof_8 1014 (by omega) (by omega)).trans hMo.2.2.2.2.2.2.2.2.2.2.2.2.2.2.1), ((hof_8 1015 (by omega) (by omega)).trans hMo.2.2.2.2.2.2.2.2.2.2.2.2.2.2.2.1), ((hof_8 1016 (by omega) (by omega)).trans hMo.2.2.2.2.2.2.2.2.2.2.2.2.2.2.2.2)⟩⟩⟩⟩⟩⟩, by show rm_W D ad _ _ t.heap; rw [ht]; exact hW⟩, hS.F ht⟩) hS.2.2 dX6_alike_62
        · skip
          have hoy : hy o9 = hy h9 := by omega
          refine lv_iconst (v := jI 1) hx hb dX6_alike_49 rfl ?_
          refine lv_goto (tgt := 54) hx hb dX6_alike_50 (by decide) ?_
          refine lv_iconst (v := jI 2) hx hb dX6_alike_54 rfl ?_
          refine rm_calli (va_runV (As := [.int (jI 1), .int (jI 2)]) (rest := []) ⟨hx, hb, hml, hown, hts⟩ (c_X6_right l D ty ad ct_6 H.size 0 yc hc yn yM yu hy hg hf mA pt ro ke kt mu sl tw bw de ⟨hm0_6, ((hof_6 1001 (by omega) (by omega)).trans hMo.2.1), ((hof_6 1002 (by omega) (by omega)).trans hMo.2.2.1), ((hof_6 1003 (by omega) (by omega)).trans hMo.2.2.2.1), ((hof_6 1004 (by omega) (by omega)).trans hMo.2.2.2.2.1), ((hof_6 1005 (by omega) (by omega)).trans hMo.2.2.2.2.2.1), ((hof_6 1006 (by omega) (by omega)).trans hMo.2.2.2.2.2.2.1), hm1_6, ((hof_6 1008 (by omega) (by omega)).trans hMo.2.2.2.2.2.2.2.2.1), ((hof_6 1009 (by omega) (by omega)).trans hMo.2.2.2.2.2.2.2.2.2.1), ((hof_6 1010 (by omega) (by omega)).trans hMo.2.2.2.2.2.2.2.2.2.2.1), ((hof_6 1011 (by omega) (by omega)).trans hMo.2.2.2.2.2.2.2.2.2.2.2.1), ((hof_6 1012 (by omega) (by omega)).trans hMo.2.2.2.2.2.2.2.2.2.2.2.2.1), ((hof_6 1013 (by omega) (by omega)).trans hMo.2.2.2.2.2.2.2.2.2.2.2.2.2.1), ((hof_6 1014 (by omega) (by omega)).trans hMo.2.2.2.2.2.2.2.2.2.2.2.2.2.2.1), ((hof_6 1015 (by omega) (by omega)).trans hMo.2.2.2.2.2.2.2.2.2.2.2.2.2.2.2.1), ((hof_6 1016 (by omega) (by omega)).trans hMo.2.2.2.2.2.2.2.2.2.2.2.2.2.2.2.2)⟩ 1 2 r32_0 (by omega) (by omega)) (cwV 2 hts gX6_alike_X6_right rfl rfl rfl (by decide +kernel) ⟨Nat.le_of_ble_eq_true rfl, Nat.le_of_ble_eq_true rfl⟩) (rm_preV hK hNw hW hm0_6 rfl) rfl rfl hl.1 rfl (lv_room (Nat.le_of_ble_eq_true rfl)) dX6_alike_55 ⟨Nat.zero_le _, Nat.zero_le _⟩) hW hS hA (fun z_9 ct_9 H locs hq_9 hW hS => ?_)
          obtain ⟨t9, ht9, hz, hq1, hq2⟩ := hq_9
          rw [if_neg (by omega)] at ht9
          subst ht9
          rw [if_pos rfl] at hz
          subst hz
          have ho_9 : ∀ q, q ≠ 1000 → ct_9 q = ct_6 q := hq2
          have hof_9 : ∀ q, q ≠ 1000 → q ≠ 1007 → ct_9 q = ct q := fun q h0_9 h1_9 => (ho_9 q h0_9).trans (hof_6 q h0_9 h1_9)
          have hm0_9 : ct_9 1000 = some (.inr (6, [.int (jI 0), .int (jI ((yc : Nat) : Int)), .int (jI ((hc : Nat) : Int)), .ref (ad 1001), .ref (ad 1002), .ref (ad 1003), .ref (ad 1004), .ref (ad 1005), .ref (ad 1006), .ref (ad 1007), .ref (ad 1008), .ref (ad 1009), .ref (ad 1010), .ref (ad 1011), .ref (ad 1012), .ref (ad 1013), .ref (ad 1014), .ref (ad 1015), .ref (ad 1016)]) : va_E) := hq1
          have hm1_9 : ct_9 1007 = some (rl ty 49 (fl 7 mA)) := (ho_9 1007 (by omega)).trans hm1_6
          refine rm_if_ne (tgt := 63) hx hb ⟨by omega, by omega⟩ dX6_alike_58 (by decide) (fun _ => ?_) (fun hq => absurd hq (by omega))
          have hyk9 := hyk _ hyh
          have htr9 := htr h9 hh9
          have htb : -2147483648 < trd (yn (hy h9)) (yM (hy h9)) ∧ trd (yn (hy h9)) (yM (hy h9)) < 2147483648 := by
            have h5 := tub_any hyk9 (k := (yn (hy h9)) - 1) (fun c => c + 1) (fun r => r + 1) (fun c hc => by omega) (fun r hr => by omega)
            have h6 := p21 ((yn (hy h9)) - 1) (by omega)
            unfold trd lpm; omega
          have hdr : ∀ q, 1 ≤ q → q < (yn (hy h9)) → -1000000000 ≤ (fun q => hg h9 q - hg o9 q) q ∧ (fun q => hg h9 q - hg o9 q) q ≤ 1000000000 := fun q a b => by
            have h1 := hga h9 hh9 q a b
            have h2 := hga o9 ho9 q a (by rw [hoy]; exact b)
            show -1000000000 ≤ hg h9 q - hg o9 q ∧ hg h9 q - hg o9 q ≤ 1000000000
            omega
          refine W_genQ (fun QQ hQQ => ?_)
          refine lv_aload_n hx hb dX6_alike_63 rfl (lv_at hl 0 rfl) ?_
          refine rm_get (ci := 6) (v := .ref (ad 1003)) (C := RX6) (T := TX6) (N := 19) hx hb hts (by decide +kernel) hown hK hW hm0_9 rfl 5 (by decide) (hts (.fieldLink RX6 16 "GrainYardModel" "yardOf" "[I") (by decide +kernel)) (fun _ h9 => h9) rfl dX6_alike_64 ?_
          refine lv_iload_n hx hb dX6_alike_67 rfl (lv_at hl 1 rfl) ?_
          refine rm_iald hx hb hK hW (f := (fun y => ((hy y : Nat) : Int))) ((hof_9 1003 (by omega) (by omega)).trans hMo.2.2.2.1) h9 rfl (by omega) (by omega) dX6_alike_68 ?_
          refine lv_istore_n (lv' := [(3, .int (jI ((hy h9 : Nat) : Int))), (0, .ref (ad 1000)), (1, .int (jI ((h9 : Nat) : Int))), (2, .int (jI ((o9 : Nat) : Int)))]) hx hb dX6_alike_69 rfl hl (by decide) rfl (fun ls hl => ?_)
          refine lv_aload_n hx hb dX6_alike_70 rfl (lv_at hl 1 rfl) ?_
          refine lv_iload_n hx hb dX6_alike_71 rfl (lv_at hl 0 rfl) ?_
          refine rm_calll (va_runV (As := [.int (jI ((hy h9 : Nat) : Int))]) (rest := []) ⟨hx, hb, hml, hown, hts⟩ (c_X6_treesOf l D ty ad ct_9 H.size 0 yc hc yn yM yu hy hg hf mA pt ro ke kt mu sl tw bw de ⟨hm0_9, ((hof_9 1001 (by omega) (by omega)).trans hMo.2.1), ((hof_9 1002 (by omega) (by omega)).trans hMo.2.2.1), ((hof_9 1003 (by omega) (by omega)).trans hMo.2.2.2.1), ((hof_9 1004 (by omega) (by omega)).trans hMo.2.2.2.2.1), ((hof_9 1005 (by omega) (by omega)).trans hMo.2.2.2.2.2.1), ((hof_9 1006 (by omega) (by omega)).trans hMo.2.2.2.2.2.2.1), hm1_9, ((hof_9 1008 (by omega) (by omega)).trans hMo.2.2.2.2.2.2.2.2.1), ((hof_9 1009 (by omega) (by omega)).trans hMo.2.2.2.2.2.2.2.2.2.1), ((hof_9 1010 (by omega) (by omega)).trans hMo.2.2.2.2.2.2.2.2.2.2.1), ((hof_9 1011 (by omega) (by omega)).trans hMo.2.2.2.2.2.2.2.2.2.2.2.1), ((hof_9 1012 (by omega) (by omega)).trans hMo.2.2.2.2.2.2.2.2.2.2.2.2.1), ((hof_9 1013 (by omega) (by omega)).trans hMo.2.2.2.2.2.2.2.2.2.2.2.2.2.1), ((hof_9 1014 (by omega) (by omega)).trans hMo.2.2.2.2.2.2.2.2.2.2.2.2.2.2.1), ((hof_9 1015 (by omega) (by omega)).trans hMo.2.2.2.2.2.2.2.2.2.2.2.2.2.2.2.1), ((hof_9 1016 (by omega) (by omega)).trans hMo.2.2.2.2.2.2.2.2.2.2.2.2.2.2.2.2)⟩ (hy h9) (by omega) hn8 hM8 (hyk _ hyh)) (cwV 1 hts gX6_alike_X6_treesOf rfl rfl rfl (by decide +kernel) ⟨Nat.le_of_ble_eq_true rfl, Nat.le_of_ble_eq_true rfl⟩) (rm_preV hK hNw hW hm0_9 rfl) rfl rfl hl.1 rfl (lv_room (Nat.le_of_ble_eq_true rfl)) dX6_alike_72 ⟨Nat.zero_le _, Nat.zero_le _⟩) hW hS hA (fun z_10 ct_10 H locs hq_10 hW hS => ?_)
          obtain ⟨A3, hz, hq1, hq2⟩ := hq_10
          subst hz
          have ho_10 : ∀ q, q ≠ 1007 → ct_10 q = ct_9 q := hq2
          have hof_10 : ∀ q, q ≠ 1000 → q ≠ 1007 → ct_10 q = ct q := fun q h0_10 h1_10 => (ho_10 q h1_10).trans (hof_9 q h0_10 h1_10)
          have hm0_10 : ct_10 1000 = some (.inr (6, [.int (jI 0), .int (jI ((yc : Nat) : Int)), .int (jI ((hc : Nat) : Int)), .ref (ad 1001), .ref (ad 1002), .ref (ad 1003), .ref (ad 1004), .ref (ad 1005), .ref (ad 1006), .ref (ad 1007), .ref (ad 1008), .ref (ad 1009), .ref (ad 1010), .ref (ad 1011), .ref (ad 1012), .ref (ad 1013), .ref (ad 1014), .ref (ad 1015), .ref (ad 1016)]) : va_E) := (ho_10 1000 (by omega)).trans hm0_9
          have hm1_10 : ct_10 1007 = some (rl ty 49 (fl 7 A3)) := hq1
          refine lv_lstore (lv' := [(4, .long (jL (trd (yn (hy h9)) (yM (hy h9))))), (3, .int (jI ((hy h9 : Nat) : Int))), (0, .ref (ad 1000)), (1, .int (jI ((h9 : Nat) : Int))), (2, .int (jI ((o9 : Nat) : Int)))]) hx hb dX6_alike_75 hl (by decide) rfl (fun ls hl => ?_)
          refine lv_iconst (v := jI 1) hx hb dX6_alike_77 rfl ?_
          refine lv_istore (lv' := [(6, .int (jI 1)), (4, .long (jL (trd (yn (hy h9)) (yM (hy h9))))), (3, .int (jI ((hy h9 : Nat) : Int))), (0, .ref (ad 1000)), (1, .int (jI ((h9 : Nat) : Int))), (2, .int (jI ((o9 : Nat) : Int)))]) hx hb dX6_alike_78 hl (by decide) rfl (fun ls hl => ?_)
          refine lv_iconst (v := jI 1) hx hb dX6_alike_80 rfl ?_
          refine lv_istore (lv' := [(7, .int (jI 1)), (6, .int (jI 1)), (4, .long (jL (trd (yn (hy h9)) (yM (hy h9))))), (3, .int (jI ((hy h9 : Nat) : Int))), (0, .ref (ad 1000)), (1, .int (jI ((h9 : Nat) : Int))), (2, .int (jI ((o9 : Nat) : Int)))]) hx hb dX6_alike_81 hl (by decide) rfl (fun ls hl => ?_)
          have LP : ∀ (k : Nat) (i8 : Nat) (z8 : Int) (A1 : Nat → Nat → Int) (hi8 : i8 + 1 ≤ (yn (hy h9))) (hz8 : (z8 = 1 ∧ ∀ p, 1 ≤ p → p < i8 + 1 → (trd (yn (hy h9)) (yM (hy h9))) ∣ (trn (yn (hy h9)) (yM (hy h9)) (fun q => hg h9 q - hg o9 q) p ((yn (hy h9)) - 1))) ∨ (z8 = 0 ∧ exm (yn (hy h9)) (yM (hy h9)) (fun q => hg h9 q - hg o9 q))), (yn (hy h9)) - i8 < k → ∀ (ctv : rm_C) (H : Heap) (locs : List Loc), (ctv 1000 = some (.inr (6, [.int (jI 0), .int (jI ((yc : Nat) : Int)), .int (jI ((hc : Nat) : Int)), .ref (ad 1001), .ref (ad 1002), .ref (ad 1003), .ref (ad 1004), .ref (ad 1005), .ref (ad 1006), .ref (ad 1007), .ref (ad 1008), .ref (ad 1009), .ref (ad 1010), .ref (ad 1011), .ref (ad 1012), .ref (ad 1013), .ref (ad 1014), .ref (ad 1015), .ref (ad 1016)]) : va_E)) → ∀ (_ : True), (ctv 1007 = some (rl ty 49 (fl 7 A1))) → ∀ (_ : True), (∀ q, q ≠ 1000 → q ≠ 1007 → ctv q = ct q) → ∀ (_ : True), rm_W D ad ctv (rm_A ad ct s.heap.size) H → va_S (rm_A ad ct s.heap.size) s.heap H locs → ∀ ls : Array Slot, lv_has ls 8 [(7, .int (jI (((i8 + 1) : Nat) : Int))), (6, .int (jI z8)), (4, .long (jL (trd (yn (hy h9)) (yM (hy h9))))), (3, .int (jI (((hy h9) : Nat) : Int))), (0, .ref (ad 1000)), (1, .int (jI ((h9 : Nat) : Int))), (2, .int (jI ((o9 : Nat) : Int)))] → W p l e (headSpec wsX6_alike ({ frames := 5, cells := 0, slots := 0, locals := 128 })).room s m args below meth c H locs 0 0 QQ (F0 m 83 ls []) := by
            intro k
            induction k with
            | zero => intro i8 z8 A1 hi8 hz8 hk; exact absurd hk (Nat.not_lt_zero _)
            | succ k ih_LP =>
              intro i8 z8 A1 hi8 hz8 hk ctv_11 H locs hv0_11 _ hv1_11 _ hofv_11 _ hW hS ls hl
              have hzr : z8 = 0 ∨ z8 = 1 := by rcases hz8 with h | h; exact Or.inr h.1; exact Or.inl h.1
              refine lv_iload hx hb dX6_alike_83 (lv_at hl 0 rfl) ?_
              refine lv_aload_n hx hb dX6_alike_85 rfl (lv_at hl 4 rfl) ?_
              refine rm_get (ci := 6) (v := .ref (ad 1001)) (C := RX6) (T := TX6) (N := 19) hx hb hts (by decide +kernel) hown hK hW hv0_11 rfl 3 (by decide) (hts (.fieldLink RX6 7 "GrainYardModel" "places" "[I") (by decide +kernel)) (fun _ h9 => h9) rfl dX6_alike_86 ?_
              refine lv_iload_n hx hb dX6_alike_89 rfl (lv_at hl 3 rfl) ?_
              refine rm_iald hx hb hK hW (f := (fun y => ((yn y : Nat) : Int))) ((hofv_11 1001 (by omega) (by omega)).trans hMo.2.1) (hy h9) rfl (by omega) (by omega) dX6_alike_90 ?_
              refine rm_icmp_ge (tgt := 129) hx hb ⟨by omega, by omega⟩ ⟨by omega, by omega⟩ dX6_alike_91 (by decide) (fun hc_12 => ?_) (fun hc_12 => ?_)
              · skip
                have hie : i8 + 1 = (yn (hy h9)) := by omega
                rw [hie] at hz8
                refine lv_iload hx hb dX6_alike_129 (lv_at hl 1 rfl) ?_
                rw [hQQ]
                exact W.zret hx hb hr (by rcases hzr with h | h <;> rw [h] <;> decide) (fun t ht hw => ⟨⟨_, (z8, ctv_11), rfl, ⟨rfl, ⟨(fun q hq9 => hofv_11 q (by omega) (by omega)), Or.inr ⟨h9, o9, rfl, rfl, hh9, ho9, Or.inr ⟨hoy, hz8, ⟨A1, pt, ro, ke, kt, mu, sl, tw, bw, de, ⟨hv0_11, ((hofv_11 1001 (by omega) (by omega)).trans hMo.2.1), ((hofv_11 1002 (by omega) (by omega)).trans hMo.2.2.1), ((hofv_11 1003 (by omega) (by omega)).trans hMo.2.2.2.1), ((hofv_11 1004 (by omega) (by omega)).trans hMo.2.2.2.2.1), ((hofv_11 1005 (by omega) (by omega)).trans hMo.2.2.2.2.2.1), ((hofv_11 1006 (by omega) (by omega)).trans hMo.2.2.2.2.2.2.1), hv1_11, ((hofv_11 1008 (by omega) (by omega)).trans hMo.2.2.2.2.2.2.2.2.1), ((hofv_11 1009 (by omega) (by omega)).trans hMo.2.2.2.2.2.2.2.2.2.1), ((hofv_11 1010 (by omega) (by omega)).trans hMo.2.2.2.2.2.2.2.2.2.2.1), ((hofv_11 1011 (by omega) (by omega)).trans hMo.2.2.2.2.2.2.2.2.2.2.2.1), ((hofv_11 1012 (by omega) (by omega)).trans hMo.2.2.2.2.2.2.2.2.2.2.2.2.1), ((hofv_11 1013 (by omega) (by omega)).trans hMo.2.2.2.2.2.2.2.2.2.2.2.2.2.1), ((hofv_11 1014 (by omega) (by omega)).trans hMo.2.2.2.2.2.2.2.2.2.2.2.2.2.2.1), ((hofv_11 1015 (by omega) (by omega)).trans hMo.2.2.2.2.2.2.2.2.2.2.2.2.2.2.2.1), ((hofv_11 1016 (by omega) (by omega)).trans hMo.2.2.2.2.2.2.2.2.2.2.2.2.2.2.2.2)⟩⟩⟩⟩⟩⟩, by show rm_W D ad _ _ t.heap; rw [ht]; exact hW⟩, hS.F ht⟩) hS.2.2 dX6_alike_131
              · skip
                refine lv_iload hx hb dX6_alike_94 (lv_at hl 1 rfl) ?_
                refine rm_if_eq (tgt := 120) hx hb ⟨by omega, by omega⟩ dX6_alike_96 (by decide) (fun hc_13 => ?_) (fun hc_13 => ?_)
                · skip
                  refine lv_iconst (v := jI 0) hx hb dX6_alike_120 rfl ?_
                  refine lv_istore (lv' := [(6, .int (jI 0)), (7, .int (jI (((i8 + 1) : Nat) : Int))), (4, .long (jL (trd (yn (hy h9)) (yM (hy h9))))), (3, .int (jI (((hy h9) : Nat) : Int))), (0, .ref (ad 1000)), (1, .int (jI ((h9 : Nat) : Int))), (2, .int (jI ((o9 : Nat) : Int)))]) hx hb dX6_alike_121 hl (by decide) rfl (fun ls hl => ?_)
                  refine lv_iinc (v := jI ((((i8 + 1) : Nat) : Int) + 1)) (lv' := [(7, .int (jI ((((i8 + 1) : Nat) : Int) + 1))), (6, .int (jI 0)), (4, .long (jL (trd (yn (hy h9)) (yM (hy h9))))), (3, .int (jI (((hy h9) : Nat) : Int))), (0, .ref (ad 1000)), (1, .int (jI ((h9 : Nat) : Int))), (2, .int (jI ((o9 : Nat) : Int)))]) hx hb dX6_alike_123 hl (k := 1) rfl (jI_add _ _) (by decide) rfl (fun ls hl => ?_)
                  refine lv_goto (tgt := 83) hx hb dX6_alike_126 (by decide) ?_
                  exact ih_LP (i8 + 1) (0) (A1) (by omega) (by rcases hz8 with h | h; exact absurd h.1 (by omega); exact Or.inr ⟨rfl, h.2⟩) (by omega) ctv_11 _ _ hv0_11 trivial hv1_11 trivial hofv_11 trivial hW hS ls (lv_sub hl [0, 1, 2, 3, 4, 5, 6] rfl)
                · skip
                  have hz1 : z8 = 1 := by omega
                  have hz9 : ∀ p, 1 ≤ p → p < i8 + 1 → (trd (yn (hy h9)) (yM (hy h9))) ∣ (trn (yn (hy h9)) (yM (hy h9)) (fun q => hg h9 q - hg o9 q) p ((yn (hy h9)) - 1)) := by rcases hz8 with h | h; exact h.2; exact absurd h.1 (by omega)
                  have htn := trn_rng hyk9 hdr (a := i8 + 1) (by omega) (by omega) ((yn (hy h9)) - 1) (Nat.le_refl _)
                  refine lv_aload_n hx hb dX6_alike_99 rfl (lv_at hl 4 rfl) ?_
                  refine lv_iload_n hx hb dX6_alike_100 rfl (lv_at hl 3 rfl) ?_
                  refine lv_iload hx hb dX6_alike_101 (lv_at hl 0 rfl) ?_
                  refine lv_iload_n hx hb dX6_alike_103 rfl (lv_at hl 5 rfl) ?_
                  refine lv_iload_n hx hb dX6_alike_104 rfl (lv_at hl 6 rfl) ?_
                  refine rm_calll (va_runV (As := [.int (jI (((hy h9) : Nat) : Int)), .int (jI (((i8 + 1) : Nat) : Int)), .int (jI ((h9 : Nat) : Int)), .int (jI ((o9 : Nat) : Int))]) (rest := []) ⟨hx, hb, hml, hown, hts⟩ (c_X6_turned l D ty ad ctv_11 H.size 0 yc hc yn yM yu hy hg hf A1 pt ro ke kt mu sl tw bw de ⟨hv0_11, ((hofv_11 1001 (by omega) (by omega)).trans hMo.2.1), ((hofv_11 1002 (by omega) (by omega)).trans hMo.2.2.1), ((hofv_11 1003 (by omega) (by omega)).trans hMo.2.2.2.1), ((hofv_11 1004 (by omega) (by omega)).trans hMo.2.2.2.2.1), ((hofv_11 1005 (by omega) (by omega)).trans hMo.2.2.2.2.2.1), ((hofv_11 1006 (by omega) (by omega)).trans hMo.2.2.2.2.2.2.1), hv1_11, ((hofv_11 1008 (by omega) (by omega)).trans hMo.2.2.2.2.2.2.2.2.1), ((hofv_11 1009 (by omega) (by omega)).trans hMo.2.2.2.2.2.2.2.2.2.1), ((hofv_11 1010 (by omega) (by omega)).trans hMo.2.2.2.2.2.2.2.2.2.2.1), ((hofv_11 1011 (by omega) (by omega)).trans hMo.2.2.2.2.2.2.2.2.2.2.2.1), ((hofv_11 1012 (by omega) (by omega)).trans hMo.2.2.2.2.2.2.2.2.2.2.2.2.1), ((hofv_11 1013 (by omega) (by omega)).trans hMo.2.2.2.2.2.2.2.2.2.2.2.2.2.1), ((hofv_11 1014 (by omega) (by omega)).trans hMo.2.2.2.2.2.2.2.2.2.2.2.2.2.2.1), ((hofv_11 1015 (by omega) (by omega)).trans hMo.2.2.2.2.2.2.2.2.2.2.2.2.2.2.2.1), ((hofv_11 1016 (by omega) (by omega)).trans hMo.2.2.2.2.2.2.2.2.2.2.2.2.2.2.2.2)⟩ (hy h9) (by omega) hn8 hM8 hyk9 (i8 + 1) ⟨by omega, by omega⟩ h9 (by omega) ((o9 : Nat) : Int) ⟨by omega, by omega⟩ (fun q => hg h9 q - hg o9 q) (Or.inr ⟨o9, rfl, by omega, fun q _ _ => rfl⟩)) (cwV 4 hts gX6_alike_X6_turned rfl rfl rfl (by decide +kernel) ⟨Nat.le_of_ble_eq_true rfl, Nat.le_of_ble_eq_true rfl⟩) (rm_preV hK hNw hW hv0_11 rfl) rfl rfl hl.1 rfl (lv_room (Nat.le_of_ble_eq_true rfl)) dX6_alike_105 ⟨Nat.zero_le _, Nat.zero_le _⟩) hW hS hA (fun z_14 ct_14 H locs hq_14 hW hS => ?_)
                  obtain ⟨A4, hz, hq1, hq2⟩ := hq_14
                  subst hz
                  have ho_14 : ∀ q, q ≠ 1007 → ct_14 q = ctv_11 q := hq2
                  have hof_14 : ∀ q, q ≠ 1000 → q ≠ 1007 → ct_14 q = ct q := fun q h0_14 h1_14 => (ho_14 q h1_14).trans (hofv_11 q h0_14 h1_14)
                  have hm0_14 : ct_14 1000 = some (.inr (6, [.int (jI 0), .int (jI ((yc : Nat) : Int)), .int (jI ((hc : Nat) : Int)), .ref (ad 1001), .ref (ad 1002), .ref (ad 1003), .ref (ad 1004), .ref (ad 1005), .ref (ad 1006), .ref (ad 1007), .ref (ad 1008), .ref (ad 1009), .ref (ad 1010), .ref (ad 1011), .ref (ad 1012), .ref (ad 1013), .ref (ad 1014), .ref (ad 1015), .ref (ad 1016)]) : va_E) := (ho_14 1000 (by omega)).trans hv0_11
                  have hm1_14 : ct_14 1007 = some (rl ty 49 (fl 7 A4)) := hq1
                  refine lv_lload hx hb dX6_alike_108 (lv_at hl 2 rfl) ?_
                  refine rm_lrem hx hb dX6_alike_110 ⟨by omega, by omega⟩ ⟨by omega, by omega⟩ htr9 ?_
                  have hrl : -2147483648 < (Int.tmod (trn (yn (hy h9)) (yM (hy h9)) (fun q => hg h9 q - hg o9 q) (i8 + 1) ((yn (hy h9)) - 1)) (trd (yn (hy h9)) (yM (hy h9)))) ∧ (Int.tmod (trn (yn (hy h9)) (yM (hy h9)) (fun q => hg h9 q - hg o9 q) (i8 + 1) ((yn (hy h9)) - 1)) (trd (yn (hy h9)) (yM (hy h9)))) < 2147483648 := by
                    have h1 := Int.natAbs_tmod (trn (yn (hy h9)) (yM (hy h9)) (fun q => hg h9 q - hg o9 q) (i8 + 1) ((yn (hy h9)) - 1)) (trd (yn (hy h9)) (yM (hy h9)))
                    have h2 := Nat.mod_lt (trn (yn (hy h9)) (yM (hy h9)) (fun q => hg h9 q - hg o9 q) (i8 + 1) ((yn (hy h9)) - 1)).natAbs (show 0 < (trd (yn (hy h9)) (yM (hy h9))).natAbs by omega)
                    omega
                  refine lv_lconst (v := jL 0) hx hb dX6_alike_111 rfl ?_
                  refine rm_lcmp hx hb ⟨by omega, by omega⟩ ⟨by omega, by omega⟩ dX6_alike_112 ?_
                  refine rm_if_ne (tgt := 120) hx hb (lcv_rng _ _) dX6_alike_113 (by decide) (fun hc_15 => ?_) (fun hc_15 => ?_)
                  · skip
                    have hc_15 : (Int.tmod (trn (yn (hy h9)) (yM (hy h9)) (fun q => hg h9 q - hg o9 q) (i8 + 1) ((yn (hy h9)) - 1)) (trd (yn (hy h9)) (yM (hy h9)))) ≠ 0 := fun hq => hc_15 (lcv_eq.mpr hq)
                    have hnd : ¬ (trd (yn (hy h9)) (yM (hy h9))) ∣ (trn (yn (hy h9)) (yM (hy h9)) (fun q => hg h9 q - hg o9 q) (i8 + 1) ((yn (hy h9)) - 1)) := fun h => by
                      have h2 := Int.tmod_eq_zero_of_dvd h
                      omega
                    refine lv_iconst (v := jI 0) hx hb dX6_alike_120 rfl ?_
                    refine lv_istore (lv' := [(6, .int (jI 0)), (7, .int (jI (((i8 + 1) : Nat) : Int))), (4, .long (jL (trd (yn (hy h9)) (yM (hy h9))))), (3, .int (jI (((hy h9) : Nat) : Int))), (0, .ref (ad 1000)), (1, .int (jI ((h9 : Nat) : Int))), (2, .int (jI ((o9 : Nat) : Int)))]) hx hb dX6_alike_121 hl (by decide) rfl (fun ls hl => ?_)
                    refine lv_iinc (v := jI ((((i8 + 1) : Nat) : Int) + 1)) (lv' := [(7, .int (jI ((((i8 + 1) : Nat) : Int) + 1))), (6, .int (jI 0)), (4, .long (jL (trd (yn (hy h9)) (yM (hy h9))))), (3, .int (jI (((hy h9) : Nat) : Int))), (0, .ref (ad 1000)), (1, .int (jI ((h9 : Nat) : Int))), (2, .int (jI ((o9 : Nat) : Int)))]) hx hb dX6_alike_123 hl (k := 1) rfl (jI_add _ _) (by decide) rfl (fun ls hl => ?_)
                    refine lv_goto (tgt := 83) hx hb dX6_alike_126 (by decide) ?_
                    exact ih_LP (i8 + 1) (0) (A4) (by omega) (Or.inr ⟨rfl, ⟨i8 + 1, by omega, by omega, hnd⟩⟩) (by omega) ct_14 _ _ hm0_14 trivial hm1_14 trivial hof_14 trivial hW hS ls (lv_sub hl [0, 1, 2, 3, 4, 5, 6] rfl)
                  · skip
                    have hc_15 := lcv_eq.mp hc_15
                    have hyd : (trd (yn (hy h9)) (yM (hy h9))) ∣ (trn (yn (hy h9)) (yM (hy h9)) (fun q => hg h9 q - hg o9 q) (i8 + 1) ((yn (hy h9)) - 1)) := Int.dvd_of_tmod_eq_zero (by omega)
                    refine lv_iconst (v := jI 1) hx hb dX6_alike_116 rfl ?_
                    refine lv_goto (tgt := 121) hx hb dX6_alike_117 (by decide) ?_
                    refine lv_istore (lv' := [(6, .int (jI 1)), (7, .int (jI (((i8 + 1) : Nat) : Int))), (4, .long (jL (trd (yn (hy h9)) (yM (hy h9))))), (3, .int (jI (((hy h9) : Nat) : Int))), (0, .ref (ad 1000)), (1, .int (jI ((h9 : Nat) : Int))), (2, .int (jI ((o9 : Nat) : Int)))]) hx hb dX6_alike_121 hl (by decide) rfl (fun ls hl => ?_)
                    refine lv_iinc (v := jI ((((i8 + 1) : Nat) : Int) + 1)) (lv' := [(7, .int (jI ((((i8 + 1) : Nat) : Int) + 1))), (6, .int (jI 1)), (4, .long (jL (trd (yn (hy h9)) (yM (hy h9))))), (3, .int (jI (((hy h9) : Nat) : Int))), (0, .ref (ad 1000)), (1, .int (jI ((h9 : Nat) : Int))), (2, .int (jI ((o9 : Nat) : Int)))]) hx hb dX6_alike_123 hl (k := 1) rfl (jI_add _ _) (by decide) rfl (fun ls hl => ?_)
                    refine lv_goto (tgt := 83) hx hb dX6_alike_126 (by decide) ?_
                    exact ih_LP (i8 + 1) (1) (A4) (by omega) (Or.inl ⟨rfl, fun p h1 h2 => by
                        rcases Nat.lt_or_ge p (i8 + 1) with h | h
                        · exact hz9 p h1 h
                        · rw [show p = i8 + 1 by omega]; exact hyd⟩) (by omega) ct_14 _ _ hm0_14 trivial hm1_14 trivial hof_14 trivial hW hS ls (lv_sub hl [0, 1, 2, 3, 4, 5, 6] rfl)
          exact LP ((yn (hy h9)) + 1) (0) (1) (A3) (by omega) (Or.inl ⟨rfl, fun p h1 h2 => by omega⟩) (by omega) ct_10 _ _ hm0_10 trivial hm1_10 trivial hof_10 trivial hW hS ls (lv_sub hl [0, 1, 2, 3, 4, 5, 6] rfl)
set_option maxHeartbeats 4000000 in
set_option maxRecDepth 100000 in
theorem c_X6_order (l : Launch) (D : va_G) (ty : Nat → ClassId) (ad : Nat → Nat) (ct : rm_C) (sz : Nat) (th : Int) (yc hc : Nat) (yn : Nat → Nat) (yM : Nat → Nat → Nat → Int) (yu : Nat → Int) (hy : Nat → Nat) (hg hf mA : Nat → Nat → Int) (pt ro ke kt mu sl tw bw de : Nat → Int) (hMo : ModAt ty ad ct th yc hc yn yM yu hy hg hf mA pt ro ke kt mu sl tw bw de) (hb20 : yc ≤ 6 ∧ hc ≤ 20) (hyn : ∀ y, y < yc → 2 ≤ yn y ∧ yn y ≤ 8) (hyM : ∀ y, y < yc → ∀ i j, 0 ≤ yM y i j ∧ yM y i j ≤ 3) (hhy : ∀ h, h < hc → hy h < yc) (hyk : ∀ y, y < yc → yok (yn y) (yM y)) (htr : ∀ h, h < hc → trd (yn (hy h)) (yM (hy h)) ≠ 0) (hga : ∀ h, h < hc → ∀ q, 1 ≤ q → q < yn (hy h) → 0 ≤ hg h q ∧ hg h q ≤ 900000000) (z9 : Int) (hz9 : r32 z9) : Met l yX6_order wsX6_order ({ frames := 5, cells := 0, slots := 0, locals := 128 }) (rm_P D ty ad ct sz [.ref (ad 1000), .int (jI z9)]) (rm_Ql D ad ct sz (fun z ct1 => (∀ q, (q < 1000 ∨ 1016 < q) → ct1 q = ct q) ∧ (((z9 < 0 ∨ ((hc : Nat) : Int) ≤ z9) ∧ ModX ty ad ct1 1 yc hc yn yM yu hy hg hf) ∨ ∃ h9 : Nat, z9 = (h9 : Int) ∧ h9 < hc ∧ z = Int.tdiv (trd (yn (hy h9)) (yM (hy h9))) ((odg (yn (hy h9)) (yM (hy h9)) (hg h9) ((yn (hy h9)) - 1) : Nat) : Int) ∧ ModX ty ad ct1 0 yc hc yn yM yu hy hg hf))) 0 0 (rm_A ad ct sz) := by
  refine Met.ofW (cc := cX6_order) (maxL := 8) (ret := (some .long)) (by decide) rfl ?_
  intro p e s m args below meth c s₁ B hml hv
  obtain ⟨hargs, hsz, hW, hK, hNw⟩ := hv
  have hx := B.exec
  have hb := B.bytes
  have hr := B.returns
  have hts := atoms_spec (ws := wsX6_order) B.pre
  have hown : s.vm.findClass RX6 = some m.cls := findClass_of_methodNamed B.named
  have hlocks := B.notSynchronized
  subst hsz
  have hW := hW.own (sz := s.heap.size)
  have hA : ∀ q : Nat, s.heap.size ≤ q → rm_A ad ct s.heap.size q := fun q h => Or.inr h
  have hS : va_S (rm_A ad ct s.heap.size) s.heap s.heap [] := va_S.rf
  have hent : entryFrame m args 8 = entryFrame m ([.ref (ad 1000), .int (jI z9)] : List Value).toArray 8 := by rw [hargs]
  have hl := lv_entry ([.ref (ad 1000), .int (jI z9)]) (n := 8) (Nat.le_of_ble_eq_true rfl)
  rw [hent, lg_entry_eq]
  generalize (lg_sl ([.ref (ad 1000), .int (jI z9)]) ++ List.replicate (8 - (lg_sl ([.ref (ad 1000), .int (jI z9)])).length) Slot.unset).toArray = ls at hl ⊢
  have hl : lv_has ls 8 [(0, .ref (ad 1000)), (1, .int (jI z9))] := hl
  refine lv_aload_n hx hb dX6_order_0 rfl (lv_at hl 0 rfl) ?_
  refine lv_iload_n hx hb dX6_order_1 rfl (lv_at hl 1 rfl) ?_
  refine rm_calli (va_runV (As := [.int (jI z9)]) (rest := []) ⟨hx, hb, hml, hown, hts⟩ (c_X6_isHeap l D ty ad ct s.heap.size th yc hc yn yM yu hy hg hf mA pt ro ke kt mu sl tw bw de hMo z9 hz9 hb20) (cwV 1 hts gX6_order_X6_isHeap rfl rfl rfl (by decide +kernel) ⟨Nat.le_of_ble_eq_true rfl, Nat.le_of_ble_eq_true rfl⟩) (rm_preV hK hNw hW hMo.1 rfl) rfl rfl hl.1 rfl (lv_room (Nat.le_of_ble_eq_true rfl)) dX6_order_2 ⟨Nat.zero_le _, Nat.zero_le _⟩) hW hS hA (fun z_1 ct_1 H locs hq_1 hW hS => ?_)
  obtain ⟨hqo, hqc⟩ := hq_1
  rcases hqc with ⟨hbad, hz, hqs⟩ | ⟨hp1, hp2, hz, hqs⟩
  · skip
    subst hz
    have ho_1 : ∀ q, q ≠ 1000 → ct_1 q = ct q := hqo
    have hof_1 : ∀ q, q ≠ 1000 → q ≠ 1007 → ct_1 q = ct q := fun q h0_1 h1_1 => (ho_1 q h0_1).trans rfl
    have hm0_1 : ct_1 1000 = some (.inr (6, [.int (jI 1), .int (jI ((yc : Nat) : Int)), .int (jI ((hc : Nat) : Int)), .ref (ad 1001), .ref (ad 1002), .ref (ad 1003), .ref (ad 1004), .ref (ad 1005), .ref (ad 1006), .ref (ad 1007), .ref (ad 1008), .ref (ad 1009), .ref (ad 1010), .ref (ad 1011), .ref (ad 1012), .ref (ad 1013), .ref (ad 1014), .ref (ad 1015), .ref (ad 1016)]) : va_E) := hqs
    have hm1_1 : ct_1 1007 = some (rl ty 49 (fl 7 mA)) := (ho_1 1007 (by omega)).trans hMo.2.2.2.2.2.2.2.1
    refine rm_if_ne (tgt := 10) hx hb ⟨by omega, by omega⟩ dX6_order_5 (by decide) (fun hq => absurd hq (by omega)) (fun _ => ?_)
    refine lv_lconst (v := jL 0) hx hb dX6_order_8 rfl ?_
    exact W.lret hx hb hr (fun t ht hw => ⟨⟨_, (0, ct_1), rfl, ⟨rfl, ⟨(fun q hq9 => hof_1 q (by omega) (by omega)), Or.inl ⟨hbad, ⟨mA, pt, ro, ke, kt, mu, sl, tw, bw, de, ⟨hm0_1, ((hof_1 1001 (by omega) (by omega)).trans hMo.2.1), ((hof_1 1002 (by omega) (by omega)).trans hMo.2.2.1), ((hof_1 1003 (by omega) (by omega)).trans hMo.2.2.2.1), ((hof_1 1004 (by omega) (by omega)).trans hMo.2.2.2.2.1), ((hof_1 1005 (by omega) (by omega)).trans hMo.2.2.2.2.2.1), ((hof_1 1006 (by omega) (by omega)).trans hMo.2.2.2.2.2.2.1), hm1_1, ((hof_1 1008 (by omega) (by omega)).trans hMo.2.2.2.2.2.2.2.2.1), ((hof_1 1009 (by omega) (by omega)).trans hMo.2.2.2.2.2.2.2.2.2.1), ((hof_1 1010 (by omega) (by omega)).trans hMo.2.2.2.2.2.2.2.2.2.2.1), ((hof_1 1011 (by omega) (by omega)).trans hMo.2.2.2.2.2.2.2.2.2.2.2.1), ((hof_1 1012 (by omega) (by omega)).trans hMo.2.2.2.2.2.2.2.2.2.2.2.2.1), ((hof_1 1013 (by omega) (by omega)).trans hMo.2.2.2.2.2.2.2.2.2.2.2.2.2.1), ((hof_1 1014 (by omega) (by omega)).trans hMo.2.2.2.2.2.2.2.2.2.2.2.2.2.2.1), ((hof_1 1015 (by omega) (by omega)).trans hMo.2.2.2.2.2.2.2.2.2.2.2.2.2.2.2.1), ((hof_1 1016 (by omega) (by omega)).trans hMo.2.2.2.2.2.2.2.2.2.2.2.2.2.2.2.2)⟩⟩⟩⟩⟩, by show rm_W D ad _ _ t.heap; rw [ht]; exact hW⟩, hS.F ht⟩) hS.2.2 dX6_order_9
  · skip
    subst hz
    have ho_1 : ∀ q, q ≠ 1000 → ct_1 q = ct q := hqo
    have hof_1 : ∀ q, q ≠ 1000 → q ≠ 1007 → ct_1 q = ct q := fun q h0_1 h1_1 => (ho_1 q h0_1).trans rfl
    have hm0_1 : ct_1 1000 = some (.inr (6, [.int (jI 0), .int (jI ((yc : Nat) : Int)), .int (jI ((hc : Nat) : Int)), .ref (ad 1001), .ref (ad 1002), .ref (ad 1003), .ref (ad 1004), .ref (ad 1005), .ref (ad 1006), .ref (ad 1007), .ref (ad 1008), .ref (ad 1009), .ref (ad 1010), .ref (ad 1011), .ref (ad 1012), .ref (ad 1013), .ref (ad 1014), .ref (ad 1015), .ref (ad 1016)]) : va_E) := hqs
    have hm1_1 : ct_1 1007 = some (rl ty 49 (fl 7 mA)) := (ho_1 1007 (by omega)).trans hMo.2.2.2.2.2.2.2.1
    obtain ⟨h9, hn_h9⟩ : ∃ h9 : Nat, z9 = (h9 : Int) := ⟨z9.toNat, by omega⟩
    subst hn_h9
    have hh9 : h9 < hc := by omega
    have hyh := hhy h9 hh9
    have hn8 := hyn (hy h9) hyh
    have hM8 := hyM (hy h9) hyh
    refine rm_if_ne (tgt := 10) hx hb ⟨by omega, by omega⟩ dX6_order_5 (by decide) (fun _ => ?_) (fun hq => absurd hq (by omega))
    have hyk9 := hyk _ hyh
    have htr9 := htr h9 hh9
    have htb : -2147483648 < trd (yn (hy h9)) (yM (hy h9)) ∧ trd (yn (hy h9)) (yM (hy h9)) < 2147483648 := by
      have h5 := tub_any hyk9 (k := (yn (hy h9)) - 1) (fun c => c + 1) (fun r => r + 1) (fun c hc => by omega) (fun r hr => by omega)
      have h6 := p21 ((yn (hy h9)) - 1) (by omega)
      unfold trd lpm; omega
    have hdr : ∀ q, 1 ≤ q → q < (yn (hy h9)) → -1000000000 ≤ hg h9 q ∧ hg h9 q ≤ 1000000000 := fun q a b => by
      have h1 := hga h9 hh9 q a b
      omega
    have hol := fun q => odg_le (d := hg h9) (show 0 < (trd (yn (hy h9)) (yM (hy h9))).natAbs by omega) q
    refine W_genQ (fun QQ hQQ => ?_)
    refine lv_aload_n hx hb dX6_order_10 rfl (lv_at hl 0 rfl) ?_
    refine rm_get (ci := 6) (v := .ref (ad 1003)) (C := RX6) (T := TX6) (N := 19) hx hb hts (by decide +kernel) hown hK hW hm0_1 rfl 5 (by decide) (hts (.fieldLink RX6 16 "GrainYardModel" "yardOf" "[I") (by decide +kernel)) (fun _ h9 => h9) rfl dX6_order_11 ?_
    refine lv_iload_n hx hb dX6_order_14 rfl (lv_at hl 1 rfl) ?_
    refine rm_iald hx hb hK hW (f := (fun y => ((hy y : Nat) : Int))) ((hof_1 1003 (by omega) (by omega)).trans hMo.2.2.2.1) h9 rfl (by omega) (by omega) dX6_order_15 ?_
    refine lv_istore_n (lv' := [(2, .int (jI ((hy h9 : Nat) : Int))), (0, .ref (ad 1000)), (1, .int (jI ((h9 : Nat) : Int)))]) hx hb dX6_order_16 rfl hl (by decide) rfl (fun ls hl => ?_)
    refine lv_aload_n hx hb dX6_order_17 rfl (lv_at hl 1 rfl) ?_
    refine lv_iload_n hx hb dX6_order_18 rfl (lv_at hl 0 rfl) ?_
    refine rm_calll (va_runV (As := [.int (jI ((hy h9 : Nat) : Int))]) (rest := []) ⟨hx, hb, hml, hown, hts⟩ (c_X6_treesOf l D ty ad ct_1 H.size 0 yc hc yn yM yu hy hg hf mA pt ro ke kt mu sl tw bw de ⟨hm0_1, ((hof_1 1001 (by omega) (by omega)).trans hMo.2.1), ((hof_1 1002 (by omega) (by omega)).trans hMo.2.2.1), ((hof_1 1003 (by omega) (by omega)).trans hMo.2.2.2.1), ((hof_1 1004 (by omega) (by omega)).trans hMo.2.2.2.2.1), ((hof_1 1005 (by omega) (by omega)).trans hMo.2.2.2.2.2.1), ((hof_1 1006 (by omega) (by omega)).trans hMo.2.2.2.2.2.2.1), hm1_1, ((hof_1 1008 (by omega) (by omega)).trans hMo.2.2.2.2.2.2.2.2.1), ((hof_1 1009 (by omega) (by omega)).trans hMo.2.2.2.2.2.2.2.2.2.1), ((hof_1 1010 (by omega) (by omega)).trans hMo.2.2.2.2.2.2.2.2.2.2.1), ((hof_1 1011 (by omega) (by omega)).trans hMo.2.2.2.2.2.2.2.2.2.2.2.1), ((hof_1 1012 (by omega) (by omega)).trans hMo.2.2.2.2.2.2.2.2.2.2.2.2.1), ((hof_1 1013 (by omega) (by omega)).trans hMo.2.2.2.2.2.2.2.2.2.2.2.2.2.1), ((hof_1 1014 (by omega) (by omega)).trans hMo.2.2.2.2.2.2.2.2.2.2.2.2.2.2.1), ((hof_1 1015 (by omega) (by omega)).trans hMo.2.2.2.2.2.2.2.2.2.2.2.2.2.2.2.1), ((hof_1 1016 (by omega) (by omega)).trans hMo.2.2.2.2.2.2.2.2.2.2.2.2.2.2.2.2)⟩ (hy h9) (by omega) hn8 hM8 (hyk _ hyh)) (cwV 1 hts gX6_order_X6_treesOf rfl rfl rfl (by decide +kernel) ⟨Nat.le_of_ble_eq_true rfl, Nat.le_of_ble_eq_true rfl⟩) (rm_preV hK hNw hW hm0_1 rfl) rfl rfl hl.1 rfl (lv_room (Nat.le_of_ble_eq_true rfl)) dX6_order_19 ⟨Nat.zero_le _, Nat.zero_le _⟩) hW hS hA (fun z_2 ct_2 H locs hq_2 hW hS => ?_)
    obtain ⟨A3, hz, hq1, hq2⟩ := hq_2
    subst hz
    have ho_2 : ∀ q, q ≠ 1007 → ct_2 q = ct_1 q := hq2
    have hof_2 : ∀ q, q ≠ 1000 → q ≠ 1007 → ct_2 q = ct q := fun q h0_2 h1_2 => (ho_2 q h1_2).trans (hof_1 q h0_2 h1_2)
    have hm0_2 : ct_2 1000 = some (.inr (6, [.int (jI 0), .int (jI ((yc : Nat) : Int)), .int (jI ((hc : Nat) : Int)), .ref (ad 1001), .ref (ad 1002), .ref (ad 1003), .ref (ad 1004), .ref (ad 1005), .ref (ad 1006), .ref (ad 1007), .ref (ad 1008), .ref (ad 1009), .ref (ad 1010), .ref (ad 1011), .ref (ad 1012), .ref (ad 1013), .ref (ad 1014), .ref (ad 1015), .ref (ad 1016)]) : va_E) := (ho_2 1000 (by omega)).trans hm0_1
    have hm1_2 : ct_2 1007 = some (rl ty 49 (fl 7 A3)) := hq1
    refine lv_lstore_n (lv' := [(3, .long (jL (trd (yn (hy h9)) (yM (hy h9))))), (2, .int (jI ((hy h9 : Nat) : Int))), (0, .ref (ad 1000)), (1, .int (jI ((h9 : Nat) : Int)))]) hx hb dX6_order_22 rfl hl (by decide) rfl (fun ls hl => ?_)
    refine lv_lload_n hx hb dX6_order_23 rfl (lv_at hl 0 rfl) ?_
    refine lv_lstore (lv' := [(5, .long (jL (trd (yn (hy h9)) (yM (hy h9))))), (3, .long (jL (trd (yn (hy h9)) (yM (hy h9))))), (2, .int (jI ((hy h9 : Nat) : Int))), (0, .ref (ad 1000)), (1, .int (jI ((h9 : Nat) : Int)))]) hx hb dX6_order_24 hl (by decide) rfl (fun ls hl => ?_)
    refine lv_iconst (v := jI 1) hx hb dX6_order_26 rfl ?_
    refine lv_istore (lv' := [(7, .int (jI 1)), (5, .long (jL (trd (yn (hy h9)) (yM (hy h9))))), (3, .long (jL (trd (yn (hy h9)) (yM (hy h9))))), (2, .int (jI ((hy h9 : Nat) : Int))), (0, .ref (ad 1000)), (1, .int (jI ((h9 : Nat) : Int)))]) hx hb dX6_order_27 hl (by decide) rfl (fun ls hl => ?_)
    have LP : ∀ (k : Nat) (i8 : Nat) (v8 : Int) (A1 : Nat → Nat → Int) (hi8 : i8 + 1 ≤ (yn (hy h9))) (hvb : -2147483648 < v8 ∧ v8 < 2147483648) (hv8 : (v8 = (trd (yn (hy h9)) (yM (hy h9))) ∧ i8 = 0) ∨ (1 ≤ i8 ∧ v8 = (((odg (yn (hy h9)) (yM (hy h9)) (hg h9) i8) : Nat) : Int))), (yn (hy h9)) - i8 < k → ∀ (ctv : rm_C) (H : Heap) (locs : List Loc), (ctv 1000 = some (.inr (6, [.int (jI 0), .int (jI ((yc : Nat) : Int)), .int (jI ((hc : Nat) : Int)), .ref (ad 1001), .ref (ad 1002), .ref (ad 1003), .ref (ad 1004), .ref (ad 1005), .ref (ad 1006), .ref (ad 1007), .ref (ad 1008), .ref (ad 1009), .ref (ad 1010), .ref (ad 1011), .ref (ad 1012), .ref (ad 1013), .ref (ad 1014), .ref (ad 1015), .ref (ad 1016)]) : va_E)) → ∀ (_ : True), (ctv 1007 = some (rl ty 49 (fl 7 A1))) → ∀ (_ : True), (∀ q, q ≠ 1000 → q ≠ 1007 → ctv q = ct q) → ∀ (_ : True), rm_W D ad ctv (rm_A ad ct s.heap.size) H → va_S (rm_A ad ct s.heap.size) s.heap H locs → ∀ ls : Array Slot, lv_has ls 8 [(7, .int (jI (((i8 + 1) : Nat) : Int))), (5, .long (jL v8)), (3, .long (jL (trd (yn (hy h9)) (yM (hy h9))))), (2, .int (jI (((hy h9) : Nat) : Int))), (0, .ref (ad 1000)), (1, .int (jI ((h9 : Nat) : Int)))] → W p l e (headSpec wsX6_order ({ frames := 5, cells := 0, slots := 0, locals := 128 })).room s m args below meth c H locs 0 0 QQ (F0 m 29 ls []) := by
      intro k
      induction k with
      | zero => intro i8 v8 A1 hi8 hvb hv8 hk; exact absurd hk (Nat.not_lt_zero _)
      | succ k ih_LP =>
        intro i8 v8 A1 hi8 hvb hv8 hk ctv_3 H locs hv0_3 _ hv1_3 _ hofv_3 _ hW hS ls hl
        have hoq := hol i8
        refine lv_iload hx hb dX6_order_29 (lv_at hl 0 rfl) ?_
        refine lv_aload_n hx hb dX6_order_31 rfl (lv_at hl 4 rfl) ?_
        refine rm_get (ci := 6) (v := .ref (ad 1001)) (C := RX6) (T := TX6) (N := 19) hx hb hts (by decide +kernel) hown hK hW hv0_3 rfl 3 (by decide) (hts (.fieldLink RX6 7 "GrainYardModel" "places" "[I") (by decide +kernel)) (fun _ h9 => h9) rfl dX6_order_32 ?_
        refine lv_iload_n hx hb dX6_order_35 rfl (lv_at hl 3 rfl) ?_
        refine rm_iald hx hb hK hW (f := (fun y => ((yn y : Nat) : Int))) ((hofv_3 1001 (by omega) (by omega)).trans hMo.2.1) (hy h9) rfl (by omega) (by omega) dX6_order_36 ?_
        refine rm_icmp_ge (tgt := 62) hx hb ⟨by omega, by omega⟩ ⟨by omega, by omega⟩ dX6_order_37 (by decide) (fun hc_4 => ?_) (fun hc_4 => ?_)
        · skip
          have hie : i8 = (yn (hy h9)) - 1 := by omega
          refine lv_lload_n hx hb dX6_order_62 rfl (lv_at hl 2 rfl) ?_
          refine lv_lload hx hb dX6_order_63 (lv_at hl 1 rfl) ?_
          have hv0 : v8 ≠ 0 := by rcases hv8 with h | h; rw [h.1]; exact htr9; rw [h.2]; omega
          have hvr : v8 = (((odg (yn (hy h9)) (yM (hy h9)) (hg h9) ((yn (hy h9)) - 1)) : Nat) : Int) := by rcases hv8 with h | h; omega; rw [h.2, hie]
          refine rm_ldiv hx hb dX6_order_65 ⟨by omega, by omega⟩ ⟨by omega, by omega⟩ hv0 ?_
          rw [hQQ]
          exact W.lret hx hb hr (fun t ht hw => ⟨⟨_, ((Int.tdiv (trd (yn (hy h9)) (yM (hy h9))) v8), ctv_3), rfl, ⟨rfl, ⟨(fun q hq9 => hofv_3 q (by omega) (by omega)), Or.inr ⟨h9, rfl, hh9, by rw [hvr], ⟨A1, pt, ro, ke, kt, mu, sl, tw, bw, de, ⟨hv0_3, ((hofv_3 1001 (by omega) (by omega)).trans hMo.2.1), ((hofv_3 1002 (by omega) (by omega)).trans hMo.2.2.1), ((hofv_3 1003 (by omega) (by omega)).trans hMo.2.2.2.1), ((hofv_3 1004 (by omega) (by omega)).trans hMo.2.2.2.2.1), ((hofv_3 1005 (by omega) (by omega)).trans hMo.2.2.2.2.2.1), ((hofv_3 1006 (by omega) (by omega)).trans hMo.2.2.2.2.2.2.1), hv1_3, ((hofv_3 1008 (by omega) (by omega)).trans hMo.2.2.2.2.2.2.2.2.1), ((hofv_3 1009 (by omega) (by omega)).trans hMo.2.2.2.2.2.2.2.2.2.1), ((hofv_3 1010 (by omega) (by omega)).trans hMo.2.2.2.2.2.2.2.2.2.2.1), ((hofv_3 1011 (by omega) (by omega)).trans hMo.2.2.2.2.2.2.2.2.2.2.2.1), ((hofv_3 1012 (by omega) (by omega)).trans hMo.2.2.2.2.2.2.2.2.2.2.2.2.1), ((hofv_3 1013 (by omega) (by omega)).trans hMo.2.2.2.2.2.2.2.2.2.2.2.2.2.1), ((hofv_3 1014 (by omega) (by omega)).trans hMo.2.2.2.2.2.2.2.2.2.2.2.2.2.2.1), ((hofv_3 1015 (by omega) (by omega)).trans hMo.2.2.2.2.2.2.2.2.2.2.2.2.2.2.2.1), ((hofv_3 1016 (by omega) (by omega)).trans hMo.2.2.2.2.2.2.2.2.2.2.2.2.2.2.2.2)⟩⟩⟩⟩⟩, by show rm_W D ad _ _ t.heap; rw [ht]; exact hW⟩, hS.F ht⟩) hS.2.2 dX6_order_66
        · skip
          have htn := trn_rng hyk9 hdr (a := i8 + 1) (by omega) (by omega) ((yn (hy h9)) - 1) (Nat.le_refl _)
          refine lv_lload hx hb dX6_order_40 (lv_at hl 1 rfl) ?_
          refine lv_aload_n hx hb dX6_order_42 rfl (lv_at hl 4 rfl) ?_
          refine lv_iload_n hx hb dX6_order_43 rfl (lv_at hl 3 rfl) ?_
          refine lv_iload hx hb dX6_order_44 (lv_at hl 0 rfl) ?_
          refine lv_iload_n hx hb dX6_order_46 rfl (lv_at hl 5 rfl) ?_
          refine lv_iconst (v := jI (-1)) hx hb dX6_order_47 rfl ?_
          refine rm_calll (va_runV (As := [.int (jI (((hy h9) : Nat) : Int)), .int (jI (((i8 + 1) : Nat) : Int)), .int (jI ((h9 : Nat) : Int)), .int (jI (-1))]) (rest := [.long (jL v8)]) ⟨hx, hb, hml, hown, hts⟩ (c_X6_turned l D ty ad ctv_3 H.size 0 yc hc yn yM yu hy hg hf A1 pt ro ke kt mu sl tw bw de ⟨hv0_3, ((hofv_3 1001 (by omega) (by omega)).trans hMo.2.1), ((hofv_3 1002 (by omega) (by omega)).trans hMo.2.2.1), ((hofv_3 1003 (by omega) (by omega)).trans hMo.2.2.2.1), ((hofv_3 1004 (by omega) (by omega)).trans hMo.2.2.2.2.1), ((hofv_3 1005 (by omega) (by omega)).trans hMo.2.2.2.2.2.1), ((hofv_3 1006 (by omega) (by omega)).trans hMo.2.2.2.2.2.2.1), hv1_3, ((hofv_3 1008 (by omega) (by omega)).trans hMo.2.2.2.2.2.2.2.2.1), ((hofv_3 1009 (by omega) (by omega)).trans hMo.2.2.2.2.2.2.2.2.2.1), ((hofv_3 1010 (by omega) (by omega)).trans hMo.2.2.2.2.2.2.2.2.2.2.1), ((hofv_3 1011 (by omega) (by omega)).trans hMo.2.2.2.2.2.2.2.2.2.2.2.1), ((hofv_3 1012 (by omega) (by omega)).trans hMo.2.2.2.2.2.2.2.2.2.2.2.2.1), ((hofv_3 1013 (by omega) (by omega)).trans hMo.2.2.2.2.2.2.2.2.2.2.2.2.2.1), ((hofv_3 1014 (by omega) (by omega)).trans hMo.2.2.2.2.2.2.2.2.2.2.2.2.2.2.1), ((hofv_3 1015 (by omega) (by omega)).trans hMo.2.2.2.2.2.2.2.2.2.2.2.2.2.2.2.1), ((hofv_3 1016 (by omega) (by omega)).trans hMo.2.2.2.2.2.2.2.2.2.2.2.2.2.2.2.2)⟩ (hy h9) (by omega) hn8 hM8 hyk9 (i8 + 1) ⟨by omega, by omega⟩ h9 (by omega) (-1) ⟨by omega, by omega⟩ (hg h9) (Or.inl ⟨rfl, fun q _ _ => rfl⟩)) (cwV 4 hts gX6_order_X6_turned rfl rfl rfl (by decide +kernel) ⟨Nat.le_of_ble_eq_true rfl, Nat.le_of_ble_eq_true rfl⟩) (rm_preV hK hNw hW hv0_3 rfl) rfl rfl hl.1 rfl (lv_room (Nat.le_of_ble_eq_true rfl)) dX6_order_48 ⟨Nat.zero_le _, Nat.zero_le _⟩) hW hS hA (fun z_5 ct_5 H locs hq_5 hW hS => ?_)
          obtain ⟨A4, hz, hq1, hq2⟩ := hq_5
          subst hz
          have ho_5 : ∀ q, q ≠ 1007 → ct_5 q = ctv_3 q := hq2
          have hof_5 : ∀ q, q ≠ 1000 → q ≠ 1007 → ct_5 q = ct q := fun q h0_5 h1_5 => (ho_5 q h1_5).trans (hofv_3 q h0_5 h1_5)
          have hm0_5 : ct_5 1000 = some (.inr (6, [.int (jI 0), .int (jI ((yc : Nat) : Int)), .int (jI ((hc : Nat) : Int)), .ref (ad 1001), .ref (ad 1002), .ref (ad 1003), .ref (ad 1004), .ref (ad 1005), .ref (ad 1006), .ref (ad 1007), .ref (ad 1008), .ref (ad 1009), .ref (ad 1010), .ref (ad 1011), .ref (ad 1012), .ref (ad 1013), .ref (ad 1014), .ref (ad 1015), .ref (ad 1016)]) : va_E) := (ho_5 1000 (by omega)).trans hv0_3
          have hm1_5 : ct_5 1007 = some (rl ty 49 (fl 7 A4)) := hq1
          refine rm_calll (va_runS (As := [.long (jL v8), .long (jL (trn (yn (hy h9)) (yM (hy h9)) (hg h9) (i8 + 1) ((yn (hy h9)) - 1)))]) (rest := []) ⟨hx, hb, hml, hown, hts⟩ (c_X6_common l D ty ad ct_5 H.size v8 (trn (yn (hy h9)) (yM (hy h9)) (hg h9) (i8 + 1) ((yn (hy h9)) - 1)) (by omega) (by omega)) (va_cwS 2 hts gX6_order_X6_common rfl rfl rfl (by decide +kernel) ⟨Nat.le_of_ble_eq_true rfl, Nat.le_of_ble_eq_true rfl⟩) (rm_preS hK hNw hW) rfl rfl hl.1 rfl (lv_room (Nat.le_of_ble_eq_true rfl)) dX6_order_51 ⟨Nat.zero_le _, Nat.zero_le _⟩) hW hS hA (fun z_6 ct_6 H locs hq_6 hW hS => ?_)
          obtain ⟨hz, hcc_6⟩ := hq_6
          have hcc_6 := hcc_6.symm
          subst hcc_6
          have hva : v8.natAbs = (odg (yn (hy h9)) (yM (hy h9)) (hg h9) i8) := by rcases hv8 with h | h; rw [h.1, h.2]; rfl; rw [h.2, Int.natAbs_natCast]
          rw [hva] at hz
          subst hz
          refine lv_lstore (lv' := [(5, .long (jL (((odg (yn (hy h9)) (yM (hy h9)) (hg h9) (i8 + 1)) : Nat) : Int))), (7, .int (jI (((i8 + 1) : Nat) : Int))), (3, .long (jL (trd (yn (hy h9)) (yM (hy h9))))), (2, .int (jI (((hy h9) : Nat) : Int))), (0, .ref (ad 1000)), (1, .int (jI ((h9 : Nat) : Int)))]) hx hb dX6_order_54 hl (by decide) rfl (fun ls hl => ?_)
          refine lv_iinc (v := jI ((((i8 + 1) : Nat) : Int) + 1)) (lv' := [(7, .int (jI ((((i8 + 1) : Nat) : Int) + 1))), (5, .long (jL (((odg (yn (hy h9)) (yM (hy h9)) (hg h9) (i8 + 1)) : Nat) : Int))), (3, .long (jL (trd (yn (hy h9)) (yM (hy h9))))), (2, .int (jI (((hy h9) : Nat) : Int))), (0, .ref (ad 1000)), (1, .int (jI ((h9 : Nat) : Int)))]) hx hb dX6_order_56 hl (k := 1) rfl (jI_add _ _) (by decide) rfl (fun ls hl => ?_)
          refine lv_goto (tgt := 29) hx hb dX6_order_59 (by decide) ?_
          exact ih_LP (i8 + 1) ((((odg (yn (hy h9)) (yM (hy h9)) (hg h9) (i8 + 1)) : Nat) : Int)) (A4) (by omega) (by have := hol (i8 + 1); omega) (Or.inr ⟨by omega, rfl⟩) (by omega) ct_5 _ _ hm0_5 trivial hm1_5 trivial hof_5 trivial hW hS ls (lv_sub hl [0, 1, 2, 3, 4, 5] rfl)
    exact LP ((yn (hy h9)) + 1) (0) ((trd (yn (hy h9)) (yM (hy h9)))) (A3) (by omega) (htb) (Or.inl ⟨rfl, rfl⟩) (by omega) ct_2 _ _ hm0_2 trivial hm1_2 trivial hof_2 trivial hW hS ls (lv_sub hl [0, 1, 2, 3, 4, 5] rfl)
set_option maxHeartbeats 4000000 in
set_option maxRecDepth 100000 in
theorem c_X6_init (l : Launch) (D : va_G) (ty : Nat → ClassId) (ad : Nat → Nat) (ct : rm_C) (sz : Nat) (hno0 : ∀ j, 1000 < j → j ≤ 1016 → ct j = none) (had0 : ∀ j, 1 ≤ j → j ≤ 16 → ad (1000 + j) = sz + (j - 1)) (hO : ct 1000 = some (.inr (6, [.int (jI 0), .int (jI 0), .int (jI 0), .null, .null, .null, .null, .null, .null, .null, .null, .null, .null, .null, .null, .null, .null, .null, .null]))) : Met l yX6_init wsX6_init ({ frames := 1, cells := 16, slots := 856, locals := 30 }) (rm_P D ty ad ct sz [.ref (ad 1000)]) (rm_Qv D ad ct sz 16 (fun ct1 => ModX ty ad ct1 0 0 0 (fun _ => 0) (fun _ _ _ => 0) (fun _ => 0) (fun _ => 0) (fun _ _ => 0) (fun _ _ => 0) ∧ ∀ q, (q < 1000 ∨ 1016 < q) → ct1 q = ct q)) 16 856 (rm_A ad ct sz) := by
  refine Met.ofW (cc := cX6_init) (maxL := 1) (ret := none) (by decide) rfl ?_
  intro p e s m args below meth c s₁ B hml hv
  obtain ⟨hargs, hsz, hW, hK, hNw⟩ := hv
  have hx := B.exec
  have hb := B.bytes
  have hr := B.returns
  have hts := atoms_spec (ws := wsX6_init) B.pre
  have hown : s.vm.findClass RX6 = some m.cls := findClass_of_methodNamed B.named
  have hlocks := B.notSynchronized
  have hin : meth.name = "<init>" := (name_of_methodNamed B.named B.method).1
  subst hsz
  have hW := hW.own (sz := s.heap.size)
  have hA : ∀ q : Nat, s.heap.size ≤ q → rm_A ad ct s.heap.size q := fun q h => Or.inr h
  have hS : va_S (rm_A ad ct s.heap.size) s.heap s.heap [] := va_S.rf
  have hent : entryFrame m args 1 = entryFrame m ([.ref (ad 1000)] : List Value).toArray 1 := by rw [hargs]
  have hl := lv_entry ([.ref (ad 1000)]) (n := 1) (Nat.le_of_ble_eq_true rfl)
  rw [hent, lg_entry_eq]
  generalize (lg_sl ([.ref (ad 1000)]) ++ List.replicate (1 - (lg_sl ([.ref (ad 1000)])).length) Slot.unset).toArray = ls at hl ⊢
  have hl : lv_has ls 1 [(0, .ref (ad 1000))] := hl
  have hab1_0 : ct 1001 = none := hno0 _ (by omega) (by omega)
  have hab2_0 : ct 1002 = none := hno0 _ (by omega) (by omega)
  have hab3_0 : ct 1003 = none := hno0 _ (by omega) (by omega)
  have hab4_0 : ct 1004 = none := hno0 _ (by omega) (by omega)
  have hab5_0 : ct 1005 = none := hno0 _ (by omega) (by omega)
  have hab6_0 : ct 1006 = none := hno0 _ (by omega) (by omega)
  have hab7_0 : ct 1007 = none := hno0 _ (by omega) (by omega)
  have hab8_0 : ct 1008 = none := hno0 _ (by omega) (by omega)
  have hab9_0 : ct 1009 = none := hno0 _ (by omega) (by omega)
  have hab10_0 : ct 1010 = none := hno0 _ (by omega) (by omega)
  have hab11_0 : ct 1011 = none := hno0 _ (by omega) (by omega)
  have hab12_0 : ct 1012 = none := hno0 _ (by omega) (by omega)
  have hab13_0 : ct 1013 = none := hno0 _ (by omega) (by omega)
  have hab14_0 : ct 1014 = none := hno0 _ (by omega) (by omega)
  have hab15_0 : ct 1015 = none := hno0 _ (by omega) (by omega)
  have hab16_0 : ct 1016 = none := hno0 _ (by omega) (by omega)
  refine lv_aload_n hx hb dX6_init_0 rfl (lv_at hl 0 rfl) ?_
  refine W.objInit (g := F0 m 1 ls [.ref (ad 1000)]) hx hb hown (hts (.methodLink RX6 1 Lib.objectInit) (by decide +kernel)) (hts (.instanceMethod Lib.objectInit) (by decide +kernel)) (hts (.code Lib.objectInit ⟨#[0xb1]⟩ 1 none) (by decide +kernel)) rfl (hl.1.trans hml.symm) rfl dX6_init_1 (Nat.le_of_ble_eq_true rfl) (Nat.le_of_ble_eq_true rfl) ?_
  show W p l e _ s m args below meth c _ _ _ _ _ (F0 m 4 ls [])
  refine lv_aload_n hx hb dX6_init_4 rfl (lv_at hl 0 rfl) ?_
  refine lv_bipush (v := jI 6) hx hb dX6_init_5 (by decide) ?_
  have hno_1 : ct 1001 = none := hab1_0
  refine rm_newA (atype := .int) (fty := .int) (k := 0) (N' := 6) (a0 := (6, .inl (fun _ => jI 0))) hx hb (hts (.arrayClass .int) (by decide +kernel)) rfl hK hW hS hA rfl (fun _ h9 => by cases h9) (fun _ => rfl) rfl (by decide) (by decide) 1001 hno_1 (by rw [show 1001 = 1000 + 1 from rfl, had0 1 (by omega) (by omega)]; omega) (Nat.le_of_ble_eq_true rfl) (Nat.le_of_ble_eq_true rfl) dX6_init_7 (fun H ct_1 hs_1 ho_1 hW hS hz_1 => ?_)
  have hs_1 : ct_1 1001 = some (ri ty 6 (fun _ => (0 : Int))) := hs_1
  have hof_1 : ∀ q, q ≠ 1000 → q ≠ 1001 → q ≠ 1002 → q ≠ 1003 → q ≠ 1004 → q ≠ 1005 → q ≠ 1006 → q ≠ 1007 → q ≠ 1008 → q ≠ 1009 → q ≠ 1010 → q ≠ 1011 → q ≠ 1012 → q ≠ 1013 → q ≠ 1014 → q ≠ 1015 → q ≠ 1016 → ct_1 q = ct q := fun q h0_1 h1_1 h2_1 h3_1 h4_1 h5_1 h6_1 h7_1 h8_1 h9_1 h10_1 h11_1 h12_1 h13_1 h14_1 h15_1 h16_1 => (ho_1 q h1_1).trans rfl
  have hm0_1 : ct_1 1000 = some (.inr (6, [.int (jI 0), .int (jI 0), .int (jI 0), .null, .null, .null, .null, .null, .null, .null, .null, .null, .null, .null, .null, .null, .null, .null, .null]) : va_E) := (ho_1 1000 (by omega)).trans hO
  have hab0_1 : ct_1 1002 = none := (ho_1 1002  (by omega)).trans hab2_0
  have hab1_1 : ct_1 1003 = none := (ho_1 1003  (by omega)).trans hab3_0
  have hab2_1 : ct_1 1004 = none := (ho_1 1004  (by omega)).trans hab4_0
  have hab3_1 : ct_1 1005 = none := (ho_1 1005  (by omega)).trans hab5_0
  have hab4_1 : ct_1 1006 = none := (ho_1 1006  (by omega)).trans hab6_0
  have hab5_1 : ct_1 1007 = none := (ho_1 1007  (by omega)).trans hab7_0
  have hab6_1 : ct_1 1008 = none := (ho_1 1008  (by omega)).trans hab8_0
  have hab7_1 : ct_1 1009 = none := (ho_1 1009  (by omega)).trans hab9_0
  have hab8_1 : ct_1 1010 = none := (ho_1 1010  (by omega)).trans hab10_0
  have hab9_1 : ct_1 1011 = none := (ho_1 1011  (by omega)).trans hab11_0
  have hab10_1 : ct_1 1012 = none := (ho_1 1012  (by omega)).trans hab12_0
  have hab11_1 : ct_1 1013 = none := (ho_1 1013  (by omega)).trans hab13_0
  have hab12_1 : ct_1 1014 = none := (ho_1 1014  (by omega)).trans hab14_0
  have hab13_1 : ct_1 1015 = none := (ho_1 1015  (by omega)).trans hab15_0
  have hab14_1 : ct_1 1016 = none := (ho_1 1016  (by omega)).trans hab16_0
  refine rm_putF (ci := 6) (v := .ref (ad 1001)) (fty := .array .int) (C := RX6) (T := TX6) (N := 19) hx hb hts (by decide +kernel) tyX6 tyX6_ok nmX6 hown hK hW hS hm0_1 rfl 3 (by decide) (hts (.fieldLink RX6 7 "GrainYardModel" "places" "[I") (by decide +kernel)) (fun _ h9 => h9) rfl hin rfl (by decide +kernel) rfl rfl (Nat.le_of_ble_eq_true rfl) dX6_init_9 (fun H locs ct_2 hs_2 ho_2 hW hS hz_2 => ?_)
  have hs_2 : ct_2 1000 = some (.inr (6, [.int (jI 0), .int (jI 0), .int (jI 0), .ref (ad 1001), .null, .null, .null, .null, .null, .null, .null, .null, .null, .null, .null, .null, .null, .null, .null]) : va_E) := hs_2
  have hof_2 : ∀ q, q ≠ 1000 → q ≠ 1001 → q ≠ 1002 → q ≠ 1003 → q ≠ 1004 → q ≠ 1005 → q ≠ 1006 → q ≠ 1007 → q ≠ 1008 → q ≠ 1009 → q ≠ 1010 → q ≠ 1011 → q ≠ 1012 → q ≠ 1013 → q ≠ 1014 → q ≠ 1015 → q ≠ 1016 → ct_2 q = ct q := fun q h0_2 h1_2 h2_2 h3_2 h4_2 h5_2 h6_2 h7_2 h8_2 h9_2 h10_2 h11_2 h12_2 h13_2 h14_2 h15_2 h16_2 => (ho_2 q h0_2).trans (hof_1 q h0_2 h1_2 h2_2 h3_2 h4_2 h5_2 h6_2 h7_2 h8_2 h9_2 h10_2 h11_2 h12_2 h13_2 h14_2 h15_2 h16_2)
  have hm1_2 : ct_2 1001 = some (ri ty 6 (fun _ => (0 : Int))) := (ho_2 1001 (by omega)).trans hs_1
  have hab0_2 : ct_2 1002 = none := (ho_2 1002  (by omega)).trans hab0_1
  have hab1_2 : ct_2 1003 = none := (ho_2 1003  (by omega)).trans hab1_1
  have hab2_2 : ct_2 1004 = none := (ho_2 1004  (by omega)).trans hab2_1
  have hab3_2 : ct_2 1005 = none := (ho_2 1005  (by omega)).trans hab3_1
  have hab4_2 : ct_2 1006 = none := (ho_2 1006  (by omega)).trans hab4_1
  have hab5_2 : ct_2 1007 = none := (ho_2 1007  (by omega)).trans hab5_1
  have hab6_2 : ct_2 1008 = none := (ho_2 1008  (by omega)).trans hab6_1
  have hab7_2 : ct_2 1009 = none := (ho_2 1009  (by omega)).trans hab7_1
  have hab8_2 : ct_2 1010 = none := (ho_2 1010  (by omega)).trans hab8_1
  have hab9_2 : ct_2 1011 = none := (ho_2 1011  (by omega)).trans hab9_1
  have hab10_2 : ct_2 1012 = none := (ho_2 1012  (by omega)).trans hab10_1
  have hab11_2 : ct_2 1013 = none := (ho_2 1013  (by omega)).trans hab11_1
  have hab12_2 : ct_2 1014 = none := (ho_2 1014  (by omega)).trans hab12_1
  have hab13_2 : ct_2 1015 = none := (ho_2 1015  (by omega)).trans hab13_1
  have hab14_2 : ct_2 1016 = none := (ho_2 1016  (by omega)).trans hab14_1
  refine lv_aload_n hx hb dX6_init_12 rfl (lv_at hl 0 rfl) ?_
  refine lv_sipush (v := jI 384) hx hb dX6_init_13 (by decide) ?_
  have hno_3 : ct_2 1002 = none := hab0_2
  refine rm_newA (atype := .int) (fty := .int) (k := 0) (N' := 384) (a0 := (384, .inl (fun _ => jI 0))) hx hb (hts (.arrayClass .int) (by decide +kernel)) rfl hK hW hS hA rfl (fun _ h9 => by cases h9) (fun _ => rfl) rfl (by decide) (by decide) 1002 hno_3 (by rw [show 1002 = 1000 + 2 from rfl, had0 2 (by omega) (by omega)]; omega) (Nat.le_of_ble_eq_true rfl) (Nat.le_of_ble_eq_true rfl) dX6_init_16 (fun H ct_3 hs_3 ho_3 hW hS hz_3 => ?_)
  have hs_3 : ct_3 1002 = some (ri ty 384 (fun _ => (0 : Int))) := hs_3
  have hof_3 : ∀ q, q ≠ 1000 → q ≠ 1001 → q ≠ 1002 → q ≠ 1003 → q ≠ 1004 → q ≠ 1005 → q ≠ 1006 → q ≠ 1007 → q ≠ 1008 → q ≠ 1009 → q ≠ 1010 → q ≠ 1011 → q ≠ 1012 → q ≠ 1013 → q ≠ 1014 → q ≠ 1015 → q ≠ 1016 → ct_3 q = ct q := fun q h0_3 h1_3 h2_3 h3_3 h4_3 h5_3 h6_3 h7_3 h8_3 h9_3 h10_3 h11_3 h12_3 h13_3 h14_3 h15_3 h16_3 => (ho_3 q h2_3).trans (hof_2 q h0_3 h1_3 h2_3 h3_3 h4_3 h5_3 h6_3 h7_3 h8_3 h9_3 h10_3 h11_3 h12_3 h13_3 h14_3 h15_3 h16_3)
  have hm0_3 : ct_3 1000 = some (.inr (6, [.int (jI 0), .int (jI 0), .int (jI 0), .ref (ad 1001), .null, .null, .null, .null, .null, .null, .null, .null, .null, .null, .null, .null, .null, .null, .null]) : va_E) := (ho_3 1000 (by omega)).trans hs_2
  have hm1_3 : ct_3 1001 = some (ri ty 6 (fun _ => (0 : Int))) := (ho_3 1001 (by omega)).trans hm1_2
  have hab0_3 : ct_3 1003 = none := (ho_3 1003  (by omega)).trans hab1_2
  have hab1_3 : ct_3 1004 = none := (ho_3 1004  (by omega)).trans hab2_2
  have hab2_3 : ct_3 1005 = none := (ho_3 1005  (by omega)).trans hab3_2
  have hab3_3 : ct_3 1006 = none := (ho_3 1006  (by omega)).trans hab4_2
  have hab4_3 : ct_3 1007 = none := (ho_3 1007  (by omega)).trans hab5_2
  have hab5_3 : ct_3 1008 = none := (ho_3 1008  (by omega)).trans hab6_2
  have hab6_3 : ct_3 1009 = none := (ho_3 1009  (by omega)).trans hab7_2
  have hab7_3 : ct_3 1010 = none := (ho_3 1010  (by omega)).trans hab8_2
  have hab8_3 : ct_3 1011 = none := (ho_3 1011  (by omega)).trans hab9_2
  have hab9_3 : ct_3 1012 = none := (ho_3 1012  (by omega)).trans hab10_2
  have hab10_3 : ct_3 1013 = none := (ho_3 1013  (by omega)).trans hab11_2
  have hab11_3 : ct_3 1014 = none := (ho_3 1014  (by omega)).trans hab12_2
  have hab12_3 : ct_3 1015 = none := (ho_3 1015  (by omega)).trans hab13_2
  have hab13_3 : ct_3 1016 = none := (ho_3 1016  (by omega)).trans hab14_2
  refine rm_putF (ci := 6) (v := .ref (ad 1002)) (fty := .array .int) (C := RX6) (T := TX6) (N := 19) hx hb hts (by decide +kernel) tyX6 tyX6_ok nmX6 hown hK hW hS hm0_3 rfl 4 (by decide) (hts (.fieldLink RX6 13 "GrainYardModel" "paths" "[I") (by decide +kernel)) (fun _ h9 => h9) rfl hin rfl (by decide +kernel) rfl rfl (Nat.le_of_ble_eq_true rfl) dX6_init_18 (fun H locs ct_4 hs_4 ho_4 hW hS hz_4 => ?_)
  have hs_4 : ct_4 1000 = some (.inr (6, [.int (jI 0), .int (jI 0), .int (jI 0), .ref (ad 1001), .ref (ad 1002), .null, .null, .null, .null, .null, .null, .null, .null, .null, .null, .null, .null, .null, .null]) : va_E) := hs_4
  have hof_4 : ∀ q, q ≠ 1000 → q ≠ 1001 → q ≠ 1002 → q ≠ 1003 → q ≠ 1004 → q ≠ 1005 → q ≠ 1006 → q ≠ 1007 → q ≠ 1008 → q ≠ 1009 → q ≠ 1010 → q ≠ 1011 → q ≠ 1012 → q ≠ 1013 → q ≠ 1014 → q ≠ 1015 → q ≠ 1016 → ct_4 q = ct q := fun q h0_4 h1_4 h2_4 h3_4 h4_4 h5_4 h6_4 h7_4 h8_4 h9_4 h10_4 h11_4 h12_4 h13_4 h14_4 h15_4 h16_4 => (ho_4 q h0_4).trans (hof_3 q h0_4 h1_4 h2_4 h3_4 h4_4 h5_4 h6_4 h7_4 h8_4 h9_4 h10_4 h11_4 h12_4 h13_4 h14_4 h15_4 h16_4)
  have hm1_4 : ct_4 1001 = some (ri ty 6 (fun _ => (0 : Int))) := (ho_4 1001 (by omega)).trans hm1_3
  have hm2_4 : ct_4 1002 = some (ri ty 384 (fun _ => (0 : Int))) := (ho_4 1002 (by omega)).trans hs_3
  have hab0_4 : ct_4 1003 = none := (ho_4 1003  (by omega)).trans hab0_3
  have hab1_4 : ct_4 1004 = none := (ho_4 1004  (by omega)).trans hab1_3
  have hab2_4 : ct_4 1005 = none := (ho_4 1005  (by omega)).trans hab2_3
  have hab3_4 : ct_4 1006 = none := (ho_4 1006  (by omega)).trans hab3_3
  have hab4_4 : ct_4 1007 = none := (ho_4 1007  (by omega)).trans hab4_3
  have hab5_4 : ct_4 1008 = none := (ho_4 1008  (by omega)).trans hab5_3
  have hab6_4 : ct_4 1009 = none := (ho_4 1009  (by omega)).trans hab6_3
  have hab7_4 : ct_4 1010 = none := (ho_4 1010  (by omega)).trans hab7_3
  have hab8_4 : ct_4 1011 = none := (ho_4 1011  (by omega)).trans hab8_3
  have hab9_4 : ct_4 1012 = none := (ho_4 1012  (by omega)).trans hab9_3
  have hab10_4 : ct_4 1013 = none := (ho_4 1013  (by omega)).trans hab10_3
  have hab11_4 : ct_4 1014 = none := (ho_4 1014  (by omega)).trans hab11_3
  have hab12_4 : ct_4 1015 = none := (ho_4 1015  (by omega)).trans hab12_3
  have hab13_4 : ct_4 1016 = none := (ho_4 1016  (by omega)).trans hab13_3
  refine lv_aload_n hx hb dX6_init_21 rfl (lv_at hl 0 rfl) ?_
  refine lv_bipush (v := jI 20) hx hb dX6_init_22 (by decide) ?_
  have hno_5 : ct_4 1003 = none := hab0_4
  refine rm_newA (atype := .int) (fty := .int) (k := 0) (N' := 20) (a0 := (20, .inl (fun _ => jI 0))) hx hb (hts (.arrayClass .int) (by decide +kernel)) rfl hK hW hS hA rfl (fun _ h9 => by cases h9) (fun _ => rfl) rfl (by decide) (by decide) 1003 hno_5 (by rw [show 1003 = 1000 + 3 from rfl, had0 3 (by omega) (by omega)]; omega) (Nat.le_of_ble_eq_true rfl) (Nat.le_of_ble_eq_true rfl) dX6_init_24 (fun H ct_5 hs_5 ho_5 hW hS hz_5 => ?_)
  have hs_5 : ct_5 1003 = some (ri ty 20 (fun _ => (0 : Int))) := hs_5
  have hof_5 : ∀ q, q ≠ 1000 → q ≠ 1001 → q ≠ 1002 → q ≠ 1003 → q ≠ 1004 → q ≠ 1005 → q ≠ 1006 → q ≠ 1007 → q ≠ 1008 → q ≠ 1009 → q ≠ 1010 → q ≠ 1011 → q ≠ 1012 → q ≠ 1013 → q ≠ 1014 → q ≠ 1015 → q ≠ 1016 → ct_5 q = ct q := fun q h0_5 h1_5 h2_5 h3_5 h4_5 h5_5 h6_5 h7_5 h8_5 h9_5 h10_5 h11_5 h12_5 h13_5 h14_5 h15_5 h16_5 => (ho_5 q h3_5).trans (hof_4 q h0_5 h1_5 h2_5 h3_5 h4_5 h5_5 h6_5 h7_5 h8_5 h9_5 h10_5 h11_5 h12_5 h13_5 h14_5 h15_5 h16_5)
  have hm0_5 : ct_5 1000 = some (.inr (6, [.int (jI 0), .int (jI 0), .int (jI 0), .ref (ad 1001), .ref (ad 1002), .null, .null, .null, .null, .null, .null, .null, .null, .null, .null, .null, .null, .null, .null]) : va_E) := (ho_5 1000 (by omega)).trans hs_4
  have hm1_5 : ct_5 1001 = some (ri ty 6 (fun _ => (0 : Int))) := (ho_5 1001 (by omega)).trans hm1_4
  have hm2_5 : ct_5 1002 = some (ri ty 384 (fun _ => (0 : Int))) := (ho_5 1002 (by omega)).trans hm2_4
  have hab0_5 : ct_5 1004 = none := (ho_5 1004  (by omega)).trans hab1_4
  have hab1_5 : ct_5 1005 = none := (ho_5 1005  (by omega)).trans hab2_4
  have hab2_5 : ct_5 1006 = none := (ho_5 1006  (by omega)).trans hab3_4
  have hab3_5 : ct_5 1007 = none := (ho_5 1007  (by omega)).trans hab4_4
  have hab4_5 : ct_5 1008 = none := (ho_5 1008  (by omega)).trans hab5_4
  have hab5_5 : ct_5 1009 = none := (ho_5 1009  (by omega)).trans hab6_4
  have hab6_5 : ct_5 1010 = none := (ho_5 1010  (by omega)).trans hab7_4
  have hab7_5 : ct_5 1011 = none := (ho_5 1011  (by omega)).trans hab8_4
  have hab8_5 : ct_5 1012 = none := (ho_5 1012  (by omega)).trans hab9_4
  have hab9_5 : ct_5 1013 = none := (ho_5 1013  (by omega)).trans hab10_4
  have hab10_5 : ct_5 1014 = none := (ho_5 1014  (by omega)).trans hab11_4
  have hab11_5 : ct_5 1015 = none := (ho_5 1015  (by omega)).trans hab12_4
  have hab12_5 : ct_5 1016 = none := (ho_5 1016  (by omega)).trans hab13_4
  refine rm_putF (ci := 6) (v := .ref (ad 1003)) (fty := .array .int) (C := RX6) (T := TX6) (N := 19) hx hb hts (by decide +kernel) tyX6 tyX6_ok nmX6 hown hK hW hS hm0_5 rfl 5 (by decide) (hts (.fieldLink RX6 16 "GrainYardModel" "yardOf" "[I") (by decide +kernel)) (fun _ h9 => h9) rfl hin rfl (by decide +kernel) rfl rfl (Nat.le_of_ble_eq_true rfl) dX6_init_26 (fun H locs ct_6 hs_6 ho_6 hW hS hz_6 => ?_)
  have hs_6 : ct_6 1000 = some (.inr (6, [.int (jI 0), .int (jI 0), .int (jI 0), .ref (ad 1001), .ref (ad 1002), .ref (ad 1003), .null, .null, .null, .null, .null, .null, .null, .null, .null, .null, .null, .null, .null]) : va_E) := hs_6
  have hof_6 : ∀ q, q ≠ 1000 → q ≠ 1001 → q ≠ 1002 → q ≠ 1003 → q ≠ 1004 → q ≠ 1005 → q ≠ 1006 → q ≠ 1007 → q ≠ 1008 → q ≠ 1009 → q ≠ 1010 → q ≠ 1011 → q ≠ 1012 → q ≠ 1013 → q ≠ 1014 → q ≠ 1015 → q ≠ 1016 → ct_6 q = ct q := fun q h0_6 h1_6 h2_6 h3_6 h4_6 h5_6 h6_6 h7_6 h8_6 h9_6 h10_6 h11_6 h12_6 h13_6 h14_6 h15_6 h16_6 => (ho_6 q h0_6).trans (hof_5 q h0_6 h1_6 h2_6 h3_6 h4_6 h5_6 h6_6 h7_6 h8_6 h9_6 h10_6 h11_6 h12_6 h13_6 h14_6 h15_6 h16_6)
  have hm1_6 : ct_6 1001 = some (ri ty 6 (fun _ => (0 : Int))) := (ho_6 1001 (by omega)).trans hm1_5
  have hm2_6 : ct_6 1002 = some (ri ty 384 (fun _ => (0 : Int))) := (ho_6 1002 (by omega)).trans hm2_5
  have hm3_6 : ct_6 1003 = some (ri ty 20 (fun _ => (0 : Int))) := (ho_6 1003 (by omega)).trans hs_5
  have hab0_6 : ct_6 1004 = none := (ho_6 1004  (by omega)).trans hab0_5
  have hab1_6 : ct_6 1005 = none := (ho_6 1005  (by omega)).trans hab1_5
  have hab2_6 : ct_6 1006 = none := (ho_6 1006  (by omega)).trans hab2_5
  have hab3_6 : ct_6 1007 = none := (ho_6 1007  (by omega)).trans hab3_5
  have hab4_6 : ct_6 1008 = none := (ho_6 1008  (by omega)).trans hab4_5
  have hab5_6 : ct_6 1009 = none := (ho_6 1009  (by omega)).trans hab5_5
  have hab6_6 : ct_6 1010 = none := (ho_6 1010  (by omega)).trans hab6_5
  have hab7_6 : ct_6 1011 = none := (ho_6 1011  (by omega)).trans hab7_5
  have hab8_6 : ct_6 1012 = none := (ho_6 1012  (by omega)).trans hab8_5
  have hab9_6 : ct_6 1013 = none := (ho_6 1013  (by omega)).trans hab9_5
  have hab10_6 : ct_6 1014 = none := (ho_6 1014  (by omega)).trans hab10_5
  have hab11_6 : ct_6 1015 = none := (ho_6 1015  (by omega)).trans hab11_5
  have hab12_6 : ct_6 1016 = none := (ho_6 1016  (by omega)).trans hab12_5
  refine lv_aload_n hx hb dX6_init_29 rfl (lv_at hl 0 rfl) ?_
  refine lv_bipush (v := jI 6) hx hb dX6_init_30 (by decide) ?_
  have hno_7 : ct_6 1004 = none := hab0_6
  refine rm_newA (atype := .boolean) (fty := .boolean) (k := 2) (N' := 6) (a0 := (6, .inl (fun _ => jI 0))) hx hb (hts (.arrayClass .boolean) (by decide +kernel)) rfl hK hW hS hA rfl (fun _ h9 => by cases h9) (fun _ => rfl) rfl (by decide) (by decide) 1004 hno_7 (by rw [show 1004 = 1000 + 4 from rfl, had0 4 (by omega) (by omega)]; omega) (Nat.le_of_ble_eq_true rfl) (Nat.le_of_ble_eq_true rfl) dX6_init_32 (fun H ct_7 hs_7 ho_7 hW hS hz_7 => ?_)
  have hs_7 : ct_7 1004 = some (rz ty 6 (fun _ => (0 : Int))) := hs_7
  have hof_7 : ∀ q, q ≠ 1000 → q ≠ 1001 → q ≠ 1002 → q ≠ 1003 → q ≠ 1004 → q ≠ 1005 → q ≠ 1006 → q ≠ 1007 → q ≠ 1008 → q ≠ 1009 → q ≠ 1010 → q ≠ 1011 → q ≠ 1012 → q ≠ 1013 → q ≠ 1014 → q ≠ 1015 → q ≠ 1016 → ct_7 q = ct q := fun q h0_7 h1_7 h2_7 h3_7 h4_7 h5_7 h6_7 h7_7 h8_7 h9_7 h10_7 h11_7 h12_7 h13_7 h14_7 h15_7 h16_7 => (ho_7 q h4_7).trans (hof_6 q h0_7 h1_7 h2_7 h3_7 h4_7 h5_7 h6_7 h7_7 h8_7 h9_7 h10_7 h11_7 h12_7 h13_7 h14_7 h15_7 h16_7)
  have hm0_7 : ct_7 1000 = some (.inr (6, [.int (jI 0), .int (jI 0), .int (jI 0), .ref (ad 1001), .ref (ad 1002), .ref (ad 1003), .null, .null, .null, .null, .null, .null, .null, .null, .null, .null, .null, .null, .null]) : va_E) := (ho_7 1000 (by omega)).trans hs_6
  have hm1_7 : ct_7 1001 = some (ri ty 6 (fun _ => (0 : Int))) := (ho_7 1001 (by omega)).trans hm1_6
  have hm2_7 : ct_7 1002 = some (ri ty 384 (fun _ => (0 : Int))) := (ho_7 1002 (by omega)).trans hm2_6
  have hm3_7 : ct_7 1003 = some (ri ty 20 (fun _ => (0 : Int))) := (ho_7 1003 (by omega)).trans hm3_6
  have hab0_7 : ct_7 1005 = none := (ho_7 1005  (by omega)).trans hab1_6
  have hab1_7 : ct_7 1006 = none := (ho_7 1006  (by omega)).trans hab2_6
  have hab2_7 : ct_7 1007 = none := (ho_7 1007  (by omega)).trans hab3_6
  have hab3_7 : ct_7 1008 = none := (ho_7 1008  (by omega)).trans hab4_6
  have hab4_7 : ct_7 1009 = none := (ho_7 1009  (by omega)).trans hab5_6
  have hab5_7 : ct_7 1010 = none := (ho_7 1010  (by omega)).trans hab6_6
  have hab6_7 : ct_7 1011 = none := (ho_7 1011  (by omega)).trans hab7_6
  have hab7_7 : ct_7 1012 = none := (ho_7 1012  (by omega)).trans hab8_6
  have hab8_7 : ct_7 1013 = none := (ho_7 1013  (by omega)).trans hab9_6
  have hab9_7 : ct_7 1014 = none := (ho_7 1014  (by omega)).trans hab10_6
  have hab10_7 : ct_7 1015 = none := (ho_7 1015  (by omega)).trans hab11_6
  have hab11_7 : ct_7 1016 = none := (ho_7 1016  (by omega)).trans hab12_6
  refine rm_putF (ci := 6) (v := .ref (ad 1004)) (fty := .array .boolean) (C := RX6) (T := TX6) (N := 19) hx hb hts (by decide +kernel) tyX6 tyX6_ok nmX6 hown hK hW hS hm0_7 rfl 6 (by decide) (hts (.fieldLink RX6 19 "GrainYardModel" "isUsed" "[Z") (by decide +kernel)) (fun _ h9 => h9) rfl hin rfl (by decide +kernel) rfl rfl (Nat.le_of_ble_eq_true rfl) dX6_init_34 (fun H locs ct_8 hs_8 ho_8 hW hS hz_8 => ?_)
  have hs_8 : ct_8 1000 = some (.inr (6, [.int (jI 0), .int (jI 0), .int (jI 0), .ref (ad 1001), .ref (ad 1002), .ref (ad 1003), .ref (ad 1004), .null, .null, .null, .null, .null, .null, .null, .null, .null, .null, .null, .null]) : va_E) := hs_8
  have hof_8 : ∀ q, q ≠ 1000 → q ≠ 1001 → q ≠ 1002 → q ≠ 1003 → q ≠ 1004 → q ≠ 1005 → q ≠ 1006 → q ≠ 1007 → q ≠ 1008 → q ≠ 1009 → q ≠ 1010 → q ≠ 1011 → q ≠ 1012 → q ≠ 1013 → q ≠ 1014 → q ≠ 1015 → q ≠ 1016 → ct_8 q = ct q := fun q h0_8 h1_8 h2_8 h3_8 h4_8 h5_8 h6_8 h7_8 h8_8 h9_8 h10_8 h11_8 h12_8 h13_8 h14_8 h15_8 h16_8 => (ho_8 q h0_8).trans (hof_7 q h0_8 h1_8 h2_8 h3_8 h4_8 h5_8 h6_8 h7_8 h8_8 h9_8 h10_8 h11_8 h12_8 h13_8 h14_8 h15_8 h16_8)
  have hm1_8 : ct_8 1001 = some (ri ty 6 (fun _ => (0 : Int))) := (ho_8 1001 (by omega)).trans hm1_7
  have hm2_8 : ct_8 1002 = some (ri ty 384 (fun _ => (0 : Int))) := (ho_8 1002 (by omega)).trans hm2_7
  have hm3_8 : ct_8 1003 = some (ri ty 20 (fun _ => (0 : Int))) := (ho_8 1003 (by omega)).trans hm3_7
  have hm4_8 : ct_8 1004 = some (rz ty 6 (fun _ => (0 : Int))) := (ho_8 1004 (by omega)).trans hs_7
  have hab0_8 : ct_8 1005 = none := (ho_8 1005  (by omega)).trans hab0_7
  have hab1_8 : ct_8 1006 = none := (ho_8 1006  (by omega)).trans hab1_7
  have hab2_8 : ct_8 1007 = none := (ho_8 1007  (by omega)).trans hab2_7
  have hab3_8 : ct_8 1008 = none := (ho_8 1008  (by omega)).trans hab3_7
  have hab4_8 : ct_8 1009 = none := (ho_8 1009  (by omega)).trans hab4_7
  have hab5_8 : ct_8 1010 = none := (ho_8 1010  (by omega)).trans hab5_7
  have hab6_8 : ct_8 1011 = none := (ho_8 1011  (by omega)).trans hab6_7
  have hab7_8 : ct_8 1012 = none := (ho_8 1012  (by omega)).trans hab7_7
  have hab8_8 : ct_8 1013 = none := (ho_8 1013  (by omega)).trans hab8_7
  have hab9_8 : ct_8 1014 = none := (ho_8 1014  (by omega)).trans hab9_7
  have hab10_8 : ct_8 1015 = none := (ho_8 1015  (by omega)).trans hab10_7
  have hab11_8 : ct_8 1016 = none := (ho_8 1016  (by omega)).trans hab11_7
  refine lv_aload_n hx hb dX6_init_37 rfl (lv_at hl 0 rfl) ?_
  refine lv_sipush (v := jI 160) hx hb dX6_init_38 (by decide) ?_
  have hno_9 : ct_8 1005 = none := hab0_8
  refine rm_newA (atype := .long) (fty := .long) (k := 1) (N' := 160) (a0 := (160, .inr (.inl (fun _ => jL 0)))) hx hb (hts (.arrayClass .long) (by decide +kernel)) rfl hK hW hS hA rfl (fun _ h9 => by cases h9) (fun _ => rfl) rfl (by decide) (by decide) 1005 hno_9 (by rw [show 1005 = 1000 + 5 from rfl, had0 5 (by omega) (by omega)]; omega) (Nat.le_of_ble_eq_true rfl) (Nat.le_of_ble_eq_true rfl) dX6_init_41 (fun H ct_9 hs_9 ho_9 hW hS hz_9 => ?_)
  have hs_9 : ct_9 1005 = some (rl ty 160 (fun _ => (0 : Int))) := hs_9
  have hof_9 : ∀ q, q ≠ 1000 → q ≠ 1001 → q ≠ 1002 → q ≠ 1003 → q ≠ 1004 → q ≠ 1005 → q ≠ 1006 → q ≠ 1007 → q ≠ 1008 → q ≠ 1009 → q ≠ 1010 → q ≠ 1011 → q ≠ 1012 → q ≠ 1013 → q ≠ 1014 → q ≠ 1015 → q ≠ 1016 → ct_9 q = ct q := fun q h0_9 h1_9 h2_9 h3_9 h4_9 h5_9 h6_9 h7_9 h8_9 h9_9 h10_9 h11_9 h12_9 h13_9 h14_9 h15_9 h16_9 => (ho_9 q h5_9).trans (hof_8 q h0_9 h1_9 h2_9 h3_9 h4_9 h5_9 h6_9 h7_9 h8_9 h9_9 h10_9 h11_9 h12_9 h13_9 h14_9 h15_9 h16_9)
  have hm0_9 : ct_9 1000 = some (.inr (6, [.int (jI 0), .int (jI 0), .int (jI 0), .ref (ad 1001), .ref (ad 1002), .ref (ad 1003), .ref (ad 1004), .null, .null, .null, .null, .null, .null, .null, .null, .null, .null, .null, .null]) : va_E) := (ho_9 1000 (by omega)).trans hs_8
  have hm1_9 : ct_9 1001 = some (ri ty 6 (fun _ => (0 : Int))) := (ho_9 1001 (by omega)).trans hm1_8
  have hm2_9 : ct_9 1002 = some (ri ty 384 (fun _ => (0 : Int))) := (ho_9 1002 (by omega)).trans hm2_8
  have hm3_9 : ct_9 1003 = some (ri ty 20 (fun _ => (0 : Int))) := (ho_9 1003 (by omega)).trans hm3_8
  have hm4_9 : ct_9 1004 = some (rz ty 6 (fun _ => (0 : Int))) := (ho_9 1004 (by omega)).trans hm4_8
  have hab0_9 : ct_9 1006 = none := (ho_9 1006  (by omega)).trans hab1_8
  have hab1_9 : ct_9 1007 = none := (ho_9 1007  (by omega)).trans hab2_8
  have hab2_9 : ct_9 1008 = none := (ho_9 1008  (by omega)).trans hab3_8
  have hab3_9 : ct_9 1009 = none := (ho_9 1009  (by omega)).trans hab4_8
  have hab4_9 : ct_9 1010 = none := (ho_9 1010  (by omega)).trans hab5_8
  have hab5_9 : ct_9 1011 = none := (ho_9 1011  (by omega)).trans hab6_8
  have hab6_9 : ct_9 1012 = none := (ho_9 1012  (by omega)).trans hab7_8
  have hab7_9 : ct_9 1013 = none := (ho_9 1013  (by omega)).trans hab8_8
  have hab8_9 : ct_9 1014 = none := (ho_9 1014  (by omega)).trans hab9_8
  have hab9_9 : ct_9 1015 = none := (ho_9 1015  (by omega)).trans hab10_8
  have hab10_9 : ct_9 1016 = none := (ho_9 1016  (by omega)).trans hab11_8
  refine rm_putF (ci := 6) (v := .ref (ad 1005)) (fty := .array .long) (C := RX6) (T := TX6) (N := 19) hx hb hts (by decide +kernel) tyX6 tyX6_ok nmX6 hown hK hW hS hm0_9 rfl 7 (by decide) (hts (.fieldLink RX6 23 "GrainYardModel" "grains" "[J") (by decide +kernel)) (fun _ h9 => h9) rfl hin rfl (by decide +kernel) rfl rfl (Nat.le_of_ble_eq_true rfl) dX6_init_43 (fun H locs ct_10 hs_10 ho_10 hW hS hz_10 => ?_)
  have hs_10 : ct_10 1000 = some (.inr (6, [.int (jI 0), .int (jI 0), .int (jI 0), .ref (ad 1001), .ref (ad 1002), .ref (ad 1003), .ref (ad 1004), .ref (ad 1005), .null, .null, .null, .null, .null, .null, .null, .null, .null, .null, .null]) : va_E) := hs_10
  have hof_10 : ∀ q, q ≠ 1000 → q ≠ 1001 → q ≠ 1002 → q ≠ 1003 → q ≠ 1004 → q ≠ 1005 → q ≠ 1006 → q ≠ 1007 → q ≠ 1008 → q ≠ 1009 → q ≠ 1010 → q ≠ 1011 → q ≠ 1012 → q ≠ 1013 → q ≠ 1014 → q ≠ 1015 → q ≠ 1016 → ct_10 q = ct q := fun q h0_10 h1_10 h2_10 h3_10 h4_10 h5_10 h6_10 h7_10 h8_10 h9_10 h10_10 h11_10 h12_10 h13_10 h14_10 h15_10 h16_10 => (ho_10 q h0_10).trans (hof_9 q h0_10 h1_10 h2_10 h3_10 h4_10 h5_10 h6_10 h7_10 h8_10 h9_10 h10_10 h11_10 h12_10 h13_10 h14_10 h15_10 h16_10)
  have hm1_10 : ct_10 1001 = some (ri ty 6 (fun _ => (0 : Int))) := (ho_10 1001 (by omega)).trans hm1_9
  have hm2_10 : ct_10 1002 = some (ri ty 384 (fun _ => (0 : Int))) := (ho_10 1002 (by omega)).trans hm2_9
  have hm3_10 : ct_10 1003 = some (ri ty 20 (fun _ => (0 : Int))) := (ho_10 1003 (by omega)).trans hm3_9
  have hm4_10 : ct_10 1004 = some (rz ty 6 (fun _ => (0 : Int))) := (ho_10 1004 (by omega)).trans hm4_9
  have hm5_10 : ct_10 1005 = some (rl ty 160 (fun _ => (0 : Int))) := (ho_10 1005 (by omega)).trans hs_9
  have hab0_10 : ct_10 1006 = none := (ho_10 1006  (by omega)).trans hab0_9
  have hab1_10 : ct_10 1007 = none := (ho_10 1007  (by omega)).trans hab1_9
  have hab2_10 : ct_10 1008 = none := (ho_10 1008  (by omega)).trans hab2_9
  have hab3_10 : ct_10 1009 = none := (ho_10 1009  (by omega)).trans hab3_9
  have hab4_10 : ct_10 1010 = none := (ho_10 1010  (by omega)).trans hab4_9
  have hab5_10 : ct_10 1011 = none := (ho_10 1011  (by omega)).trans hab5_9
  have hab6_10 : ct_10 1012 = none := (ho_10 1012  (by omega)).trans hab6_9
  have hab7_10 : ct_10 1013 = none := (ho_10 1013  (by omega)).trans hab7_9
  have hab8_10 : ct_10 1014 = none := (ho_10 1014  (by omega)).trans hab8_9
  have hab9_10 : ct_10 1015 = none := (ho_10 1015  (by omega)).trans hab9_9
  have hab10_10 : ct_10 1016 = none := (ho_10 1016  (by omega)).trans hab10_9
  refine lv_aload_n hx hb dX6_init_46 rfl (lv_at hl 0 rfl) ?_
  refine lv_sipush (v := jI 160) hx hb dX6_init_47 (by decide) ?_
  have hno_11 : ct_10 1006 = none := hab0_10
  refine rm_newA (atype := .long) (fty := .long) (k := 1) (N' := 160) (a0 := (160, .inr (.inl (fun _ => jL 0)))) hx hb (hts (.arrayClass .long) (by decide +kernel)) rfl hK hW hS hA rfl (fun _ h9 => by cases h9) (fun _ => rfl) rfl (by decide) (by decide) 1006 hno_11 (by rw [show 1006 = 1000 + 6 from rfl, had0 6 (by omega) (by omega)]; omega) (Nat.le_of_ble_eq_true rfl) (Nat.le_of_ble_eq_true rfl) dX6_init_50 (fun H ct_11 hs_11 ho_11 hW hS hz_11 => ?_)
  have hs_11 : ct_11 1006 = some (rl ty 160 (fun _ => (0 : Int))) := hs_11
  have hof_11 : ∀ q, q ≠ 1000 → q ≠ 1001 → q ≠ 1002 → q ≠ 1003 → q ≠ 1004 → q ≠ 1005 → q ≠ 1006 → q ≠ 1007 → q ≠ 1008 → q ≠ 1009 → q ≠ 1010 → q ≠ 1011 → q ≠ 1012 → q ≠ 1013 → q ≠ 1014 → q ≠ 1015 → q ≠ 1016 → ct_11 q = ct q := fun q h0_11 h1_11 h2_11 h3_11 h4_11 h5_11 h6_11 h7_11 h8_11 h9_11 h10_11 h11_11 h12_11 h13_11 h14_11 h15_11 h16_11 => (ho_11 q h6_11).trans (hof_10 q h0_11 h1_11 h2_11 h3_11 h4_11 h5_11 h6_11 h7_11 h8_11 h9_11 h10_11 h11_11 h12_11 h13_11 h14_11 h15_11 h16_11)
  have hm0_11 : ct_11 1000 = some (.inr (6, [.int (jI 0), .int (jI 0), .int (jI 0), .ref (ad 1001), .ref (ad 1002), .ref (ad 1003), .ref (ad 1004), .ref (ad 1005), .null, .null, .null, .null, .null, .null, .null, .null, .null, .null, .null]) : va_E) := (ho_11 1000 (by omega)).trans hs_10
  have hm1_11 : ct_11 1001 = some (ri ty 6 (fun _ => (0 : Int))) := (ho_11 1001 (by omega)).trans hm1_10
  have hm2_11 : ct_11 1002 = some (ri ty 384 (fun _ => (0 : Int))) := (ho_11 1002 (by omega)).trans hm2_10
  have hm3_11 : ct_11 1003 = some (ri ty 20 (fun _ => (0 : Int))) := (ho_11 1003 (by omega)).trans hm3_10
  have hm4_11 : ct_11 1004 = some (rz ty 6 (fun _ => (0 : Int))) := (ho_11 1004 (by omega)).trans hm4_10
  have hm5_11 : ct_11 1005 = some (rl ty 160 (fun _ => (0 : Int))) := (ho_11 1005 (by omega)).trans hm5_10
  have hab0_11 : ct_11 1007 = none := (ho_11 1007  (by omega)).trans hab1_10
  have hab1_11 : ct_11 1008 = none := (ho_11 1008  (by omega)).trans hab2_10
  have hab2_11 : ct_11 1009 = none := (ho_11 1009  (by omega)).trans hab3_10
  have hab3_11 : ct_11 1010 = none := (ho_11 1010  (by omega)).trans hab4_10
  have hab4_11 : ct_11 1011 = none := (ho_11 1011  (by omega)).trans hab5_10
  have hab5_11 : ct_11 1012 = none := (ho_11 1012  (by omega)).trans hab6_10
  have hab6_11 : ct_11 1013 = none := (ho_11 1013  (by omega)).trans hab7_10
  have hab7_11 : ct_11 1014 = none := (ho_11 1014  (by omega)).trans hab8_10
  have hab8_11 : ct_11 1015 = none := (ho_11 1015  (by omega)).trans hab9_10
  have hab9_11 : ct_11 1016 = none := (ho_11 1016  (by omega)).trans hab10_10
  refine rm_putF (ci := 6) (v := .ref (ad 1006)) (fty := .array .long) (C := RX6) (T := TX6) (N := 19) hx hb hts (by decide +kernel) tyX6 tyX6_ok nmX6 hown hK hW hS hm0_11 rfl 8 (by decide) (hts (.fieldLink RX6 27 "GrainYardModel" "toppled" "[J") (by decide +kernel)) (fun _ h9 => h9) rfl hin rfl (by decide +kernel) rfl rfl (Nat.le_of_ble_eq_true rfl) dX6_init_52 (fun H locs ct_12 hs_12 ho_12 hW hS hz_12 => ?_)
  have hs_12 : ct_12 1000 = some (.inr (6, [.int (jI 0), .int (jI 0), .int (jI 0), .ref (ad 1001), .ref (ad 1002), .ref (ad 1003), .ref (ad 1004), .ref (ad 1005), .ref (ad 1006), .null, .null, .null, .null, .null, .null, .null, .null, .null, .null]) : va_E) := hs_12
  have hof_12 : ∀ q, q ≠ 1000 → q ≠ 1001 → q ≠ 1002 → q ≠ 1003 → q ≠ 1004 → q ≠ 1005 → q ≠ 1006 → q ≠ 1007 → q ≠ 1008 → q ≠ 1009 → q ≠ 1010 → q ≠ 1011 → q ≠ 1012 → q ≠ 1013 → q ≠ 1014 → q ≠ 1015 → q ≠ 1016 → ct_12 q = ct q := fun q h0_12 h1_12 h2_12 h3_12 h4_12 h5_12 h6_12 h7_12 h8_12 h9_12 h10_12 h11_12 h12_12 h13_12 h14_12 h15_12 h16_12 => (ho_12 q h0_12).trans (hof_11 q h0_12 h1_12 h2_12 h3_12 h4_12 h5_12 h6_12 h7_12 h8_12 h9_12 h10_12 h11_12 h12_12 h13_12 h14_12 h15_12 h16_12)
  have hm1_12 : ct_12 1001 = some (ri ty 6 (fun _ => (0 : Int))) := (ho_12 1001 (by omega)).trans hm1_11
  have hm2_12 : ct_12 1002 = some (ri ty 384 (fun _ => (0 : Int))) := (ho_12 1002 (by omega)).trans hm2_11
  have hm3_12 : ct_12 1003 = some (ri ty 20 (fun _ => (0 : Int))) := (ho_12 1003 (by omega)).trans hm3_11
  have hm4_12 : ct_12 1004 = some (rz ty 6 (fun _ => (0 : Int))) := (ho_12 1004 (by omega)).trans hm4_11
  have hm5_12 : ct_12 1005 = some (rl ty 160 (fun _ => (0 : Int))) := (ho_12 1005 (by omega)).trans hm5_11
  have hm6_12 : ct_12 1006 = some (rl ty 160 (fun _ => (0 : Int))) := (ho_12 1006 (by omega)).trans hs_11
  have hab0_12 : ct_12 1007 = none := (ho_12 1007  (by omega)).trans hab0_11
  have hab1_12 : ct_12 1008 = none := (ho_12 1008  (by omega)).trans hab1_11
  have hab2_12 : ct_12 1009 = none := (ho_12 1009  (by omega)).trans hab2_11
  have hab3_12 : ct_12 1010 = none := (ho_12 1010  (by omega)).trans hab3_11
  have hab4_12 : ct_12 1011 = none := (ho_12 1011  (by omega)).trans hab4_11
  have hab5_12 : ct_12 1012 = none := (ho_12 1012  (by omega)).trans hab5_11
  have hab6_12 : ct_12 1013 = none := (ho_12 1013  (by omega)).trans hab6_11
  have hab7_12 : ct_12 1014 = none := (ho_12 1014  (by omega)).trans hab7_11
  have hab8_12 : ct_12 1015 = none := (ho_12 1015  (by omega)).trans hab8_11
  have hab9_12 : ct_12 1016 = none := (ho_12 1016  (by omega)).trans hab9_11
  refine lv_aload_n hx hb dX6_init_55 rfl (lv_at hl 0 rfl) ?_
  refine lv_bipush (v := jI 49) hx hb dX6_init_56 (by decide) ?_
  have hno_13 : ct_12 1007 = none := hab0_12
  refine rm_newA (atype := .long) (fty := .long) (k := 1) (N' := 49) (a0 := (49, .inr (.inl (fun _ => jL 0)))) hx hb (hts (.arrayClass .long) (by decide +kernel)) rfl hK hW hS hA rfl (fun _ h9 => by cases h9) (fun _ => rfl) rfl (by decide) (by decide) 1007 hno_13 (by rw [show 1007 = 1000 + 7 from rfl, had0 7 (by omega) (by omega)]; omega) (Nat.le_of_ble_eq_true rfl) (Nat.le_of_ble_eq_true rfl) dX6_init_58 (fun H ct_13 hs_13 ho_13 hW hS hz_13 => ?_)
  have hs_13 : ct_13 1007 = some (rl ty 49 (fun _ => (0 : Int))) := hs_13
  have hof_13 : ∀ q, q ≠ 1000 → q ≠ 1001 → q ≠ 1002 → q ≠ 1003 → q ≠ 1004 → q ≠ 1005 → q ≠ 1006 → q ≠ 1007 → q ≠ 1008 → q ≠ 1009 → q ≠ 1010 → q ≠ 1011 → q ≠ 1012 → q ≠ 1013 → q ≠ 1014 → q ≠ 1015 → q ≠ 1016 → ct_13 q = ct q := fun q h0_13 h1_13 h2_13 h3_13 h4_13 h5_13 h6_13 h7_13 h8_13 h9_13 h10_13 h11_13 h12_13 h13_13 h14_13 h15_13 h16_13 => (ho_13 q h7_13).trans (hof_12 q h0_13 h1_13 h2_13 h3_13 h4_13 h5_13 h6_13 h7_13 h8_13 h9_13 h10_13 h11_13 h12_13 h13_13 h14_13 h15_13 h16_13)
  have hm0_13 : ct_13 1000 = some (.inr (6, [.int (jI 0), .int (jI 0), .int (jI 0), .ref (ad 1001), .ref (ad 1002), .ref (ad 1003), .ref (ad 1004), .ref (ad 1005), .ref (ad 1006), .null, .null, .null, .null, .null, .null, .null, .null, .null, .null]) : va_E) := (ho_13 1000 (by omega)).trans hs_12
  have hm1_13 : ct_13 1001 = some (ri ty 6 (fun _ => (0 : Int))) := (ho_13 1001 (by omega)).trans hm1_12
  have hm2_13 : ct_13 1002 = some (ri ty 384 (fun _ => (0 : Int))) := (ho_13 1002 (by omega)).trans hm2_12
  have hm3_13 : ct_13 1003 = some (ri ty 20 (fun _ => (0 : Int))) := (ho_13 1003 (by omega)).trans hm3_12
  have hm4_13 : ct_13 1004 = some (rz ty 6 (fun _ => (0 : Int))) := (ho_13 1004 (by omega)).trans hm4_12
  have hm5_13 : ct_13 1005 = some (rl ty 160 (fun _ => (0 : Int))) := (ho_13 1005 (by omega)).trans hm5_12
  have hm6_13 : ct_13 1006 = some (rl ty 160 (fun _ => (0 : Int))) := (ho_13 1006 (by omega)).trans hm6_12
  have hab0_13 : ct_13 1008 = none := (ho_13 1008  (by omega)).trans hab1_12
  have hab1_13 : ct_13 1009 = none := (ho_13 1009  (by omega)).trans hab2_12
  have hab2_13 : ct_13 1010 = none := (ho_13 1010  (by omega)).trans hab3_12
  have hab3_13 : ct_13 1011 = none := (ho_13 1011  (by omega)).trans hab4_12
  have hab4_13 : ct_13 1012 = none := (ho_13 1012  (by omega)).trans hab5_12
  have hab5_13 : ct_13 1013 = none := (ho_13 1013  (by omega)).trans hab6_12
  have hab6_13 : ct_13 1014 = none := (ho_13 1014  (by omega)).trans hab7_12
  have hab7_13 : ct_13 1015 = none := (ho_13 1015  (by omega)).trans hab8_12
  have hab8_13 : ct_13 1016 = none := (ho_13 1016  (by omega)).trans hab9_12
  refine rm_putF (ci := 6) (v := .ref (ad 1007)) (fty := .array .long) (C := RX6) (T := TX6) (N := 19) hx hb hts (by decide +kernel) tyX6 tyX6_ok nmX6 hown hK hW hS hm0_13 rfl 9 (by decide) (hts (.fieldLink RX6 30 "GrainYardModel" "m" "[J") (by decide +kernel)) (fun _ h9 => h9) rfl hin rfl (by decide +kernel) rfl rfl (Nat.le_of_ble_eq_true rfl) dX6_init_60 (fun H locs ct_14 hs_14 ho_14 hW hS hz_14 => ?_)
  have hs_14 : ct_14 1000 = some (.inr (6, [.int (jI 0), .int (jI 0), .int (jI 0), .ref (ad 1001), .ref (ad 1002), .ref (ad 1003), .ref (ad 1004), .ref (ad 1005), .ref (ad 1006), .ref (ad 1007), .null, .null, .null, .null, .null, .null, .null, .null, .null]) : va_E) := hs_14
  have hof_14 : ∀ q, q ≠ 1000 → q ≠ 1001 → q ≠ 1002 → q ≠ 1003 → q ≠ 1004 → q ≠ 1005 → q ≠ 1006 → q ≠ 1007 → q ≠ 1008 → q ≠ 1009 → q ≠ 1010 → q ≠ 1011 → q ≠ 1012 → q ≠ 1013 → q ≠ 1014 → q ≠ 1015 → q ≠ 1016 → ct_14 q = ct q := fun q h0_14 h1_14 h2_14 h3_14 h4_14 h5_14 h6_14 h7_14 h8_14 h9_14 h10_14 h11_14 h12_14 h13_14 h14_14 h15_14 h16_14 => (ho_14 q h0_14).trans (hof_13 q h0_14 h1_14 h2_14 h3_14 h4_14 h5_14 h6_14 h7_14 h8_14 h9_14 h10_14 h11_14 h12_14 h13_14 h14_14 h15_14 h16_14)
  have hm1_14 : ct_14 1001 = some (ri ty 6 (fun _ => (0 : Int))) := (ho_14 1001 (by omega)).trans hm1_13
  have hm2_14 : ct_14 1002 = some (ri ty 384 (fun _ => (0 : Int))) := (ho_14 1002 (by omega)).trans hm2_13
  have hm3_14 : ct_14 1003 = some (ri ty 20 (fun _ => (0 : Int))) := (ho_14 1003 (by omega)).trans hm3_13
  have hm4_14 : ct_14 1004 = some (rz ty 6 (fun _ => (0 : Int))) := (ho_14 1004 (by omega)).trans hm4_13
  have hm5_14 : ct_14 1005 = some (rl ty 160 (fun _ => (0 : Int))) := (ho_14 1005 (by omega)).trans hm5_13
  have hm6_14 : ct_14 1006 = some (rl ty 160 (fun _ => (0 : Int))) := (ho_14 1006 (by omega)).trans hm6_13
  have hm7_14 : ct_14 1007 = some (rl ty 49 (fun _ => (0 : Int))) := (ho_14 1007 (by omega)).trans hs_13
  have hab0_14 : ct_14 1008 = none := (ho_14 1008  (by omega)).trans hab0_13
  have hab1_14 : ct_14 1009 = none := (ho_14 1009  (by omega)).trans hab1_13
  have hab2_14 : ct_14 1010 = none := (ho_14 1010  (by omega)).trans hab2_13
  have hab3_14 : ct_14 1011 = none := (ho_14 1011  (by omega)).trans hab3_13
  have hab4_14 : ct_14 1012 = none := (ho_14 1012  (by omega)).trans hab4_13
  have hab5_14 : ct_14 1013 = none := (ho_14 1013  (by omega)).trans hab5_13
  have hab6_14 : ct_14 1014 = none := (ho_14 1014  (by omega)).trans hab6_13
  have hab7_14 : ct_14 1015 = none := (ho_14 1015  (by omega)).trans hab7_13
  have hab8_14 : ct_14 1016 = none := (ho_14 1016  (by omega)).trans hab8_13
  refine lv_aload_n hx hb dX6_init_63 rfl (lv_at hl 0 rfl) ?_
  refine lv_bipush (v := jI 7) hx hb dX6_init_64 (by decide) ?_
  have hno_15 : ct_14 1008 = none := hab0_14
  refine rm_newA (atype := .long) (fty := .long) (k := 1) (N' := 7) (a0 := (7, .inr (.inl (fun _ => jL 0)))) hx hb (hts (.arrayClass .long) (by decide +kernel)) rfl hK hW hS hA rfl (fun _ h9 => by cases h9) (fun _ => rfl) rfl (by decide) (by decide) 1008 hno_15 (by rw [show 1008 = 1000 + 8 from rfl, had0 8 (by omega) (by omega)]; omega) (Nat.le_of_ble_eq_true rfl) (Nat.le_of_ble_eq_true rfl) dX6_init_66 (fun H ct_15 hs_15 ho_15 hW hS hz_15 => ?_)
  have hs_15 : ct_15 1008 = some (rl ty 7 (fun _ => (0 : Int))) := hs_15
  have hof_15 : ∀ q, q ≠ 1000 → q ≠ 1001 → q ≠ 1002 → q ≠ 1003 → q ≠ 1004 → q ≠ 1005 → q ≠ 1006 → q ≠ 1007 → q ≠ 1008 → q ≠ 1009 → q ≠ 1010 → q ≠ 1011 → q ≠ 1012 → q ≠ 1013 → q ≠ 1014 → q ≠ 1015 → q ≠ 1016 → ct_15 q = ct q := fun q h0_15 h1_15 h2_15 h3_15 h4_15 h5_15 h6_15 h7_15 h8_15 h9_15 h10_15 h11_15 h12_15 h13_15 h14_15 h15_15 h16_15 => (ho_15 q h8_15).trans (hof_14 q h0_15 h1_15 h2_15 h3_15 h4_15 h5_15 h6_15 h7_15 h8_15 h9_15 h10_15 h11_15 h12_15 h13_15 h14_15 h15_15 h16_15)
  have hm0_15 : ct_15 1000 = some (.inr (6, [.int (jI 0), .int (jI 0), .int (jI 0), .ref (ad 1001), .ref (ad 1002), .ref (ad 1003), .ref (ad 1004), .ref (ad 1005), .ref (ad 1006), .ref (ad 1007), .null, .null, .null, .null, .null, .null, .null, .null, .null]) : va_E) := (ho_15 1000 (by omega)).trans hs_14
  have hm1_15 : ct_15 1001 = some (ri ty 6 (fun _ => (0 : Int))) := (ho_15 1001 (by omega)).trans hm1_14
  have hm2_15 : ct_15 1002 = some (ri ty 384 (fun _ => (0 : Int))) := (ho_15 1002 (by omega)).trans hm2_14
  have hm3_15 : ct_15 1003 = some (ri ty 20 (fun _ => (0 : Int))) := (ho_15 1003 (by omega)).trans hm3_14
  have hm4_15 : ct_15 1004 = some (rz ty 6 (fun _ => (0 : Int))) := (ho_15 1004 (by omega)).trans hm4_14
  have hm5_15 : ct_15 1005 = some (rl ty 160 (fun _ => (0 : Int))) := (ho_15 1005 (by omega)).trans hm5_14
  have hm6_15 : ct_15 1006 = some (rl ty 160 (fun _ => (0 : Int))) := (ho_15 1006 (by omega)).trans hm6_14
  have hm7_15 : ct_15 1007 = some (rl ty 49 (fun _ => (0 : Int))) := (ho_15 1007 (by omega)).trans hm7_14
  have hab0_15 : ct_15 1009 = none := (ho_15 1009  (by omega)).trans hab1_14
  have hab1_15 : ct_15 1010 = none := (ho_15 1010  (by omega)).trans hab2_14
  have hab2_15 : ct_15 1011 = none := (ho_15 1011  (by omega)).trans hab3_14
  have hab3_15 : ct_15 1012 = none := (ho_15 1012  (by omega)).trans hab4_14
  have hab4_15 : ct_15 1013 = none := (ho_15 1013  (by omega)).trans hab5_14
  have hab5_15 : ct_15 1014 = none := (ho_15 1014  (by omega)).trans hab6_14
  have hab6_15 : ct_15 1015 = none := (ho_15 1015  (by omega)).trans hab7_14
  have hab7_15 : ct_15 1016 = none := (ho_15 1016  (by omega)).trans hab8_14
  refine rm_putF (ci := 6) (v := .ref (ad 1008)) (fty := .array .long) (C := RX6) (T := TX6) (N := 19) hx hb hts (by decide +kernel) tyX6 tyX6_ok nmX6 hown hK hW hS hm0_15 rfl 10 (by decide) (hts (.fieldLink RX6 33 "GrainYardModel" "parts" "[J") (by decide +kernel)) (fun _ h9 => h9) rfl hin rfl (by decide +kernel) rfl rfl (Nat.le_of_ble_eq_true rfl) dX6_init_68 (fun H locs ct_16 hs_16 ho_16 hW hS hz_16 => ?_)
  have hs_16 : ct_16 1000 = some (.inr (6, [.int (jI 0), .int (jI 0), .int (jI 0), .ref (ad 1001), .ref (ad 1002), .ref (ad 1003), .ref (ad 1004), .ref (ad 1005), .ref (ad 1006), .ref (ad 1007), .ref (ad 1008), .null, .null, .null, .null, .null, .null, .null, .null]) : va_E) := hs_16
  have hof_16 : ∀ q, q ≠ 1000 → q ≠ 1001 → q ≠ 1002 → q ≠ 1003 → q ≠ 1004 → q ≠ 1005 → q ≠ 1006 → q ≠ 1007 → q ≠ 1008 → q ≠ 1009 → q ≠ 1010 → q ≠ 1011 → q ≠ 1012 → q ≠ 1013 → q ≠ 1014 → q ≠ 1015 → q ≠ 1016 → ct_16 q = ct q := fun q h0_16 h1_16 h2_16 h3_16 h4_16 h5_16 h6_16 h7_16 h8_16 h9_16 h10_16 h11_16 h12_16 h13_16 h14_16 h15_16 h16_16 => (ho_16 q h0_16).trans (hof_15 q h0_16 h1_16 h2_16 h3_16 h4_16 h5_16 h6_16 h7_16 h8_16 h9_16 h10_16 h11_16 h12_16 h13_16 h14_16 h15_16 h16_16)
  have hm1_16 : ct_16 1001 = some (ri ty 6 (fun _ => (0 : Int))) := (ho_16 1001 (by omega)).trans hm1_15
  have hm2_16 : ct_16 1002 = some (ri ty 384 (fun _ => (0 : Int))) := (ho_16 1002 (by omega)).trans hm2_15
  have hm3_16 : ct_16 1003 = some (ri ty 20 (fun _ => (0 : Int))) := (ho_16 1003 (by omega)).trans hm3_15
  have hm4_16 : ct_16 1004 = some (rz ty 6 (fun _ => (0 : Int))) := (ho_16 1004 (by omega)).trans hm4_15
  have hm5_16 : ct_16 1005 = some (rl ty 160 (fun _ => (0 : Int))) := (ho_16 1005 (by omega)).trans hm5_15
  have hm6_16 : ct_16 1006 = some (rl ty 160 (fun _ => (0 : Int))) := (ho_16 1006 (by omega)).trans hm6_15
  have hm7_16 : ct_16 1007 = some (rl ty 49 (fun _ => (0 : Int))) := (ho_16 1007 (by omega)).trans hm7_15
  have hm8_16 : ct_16 1008 = some (rl ty 7 (fun _ => (0 : Int))) := (ho_16 1008 (by omega)).trans hs_15
  have hab0_16 : ct_16 1009 = none := (ho_16 1009  (by omega)).trans hab0_15
  have hab1_16 : ct_16 1010 = none := (ho_16 1010  (by omega)).trans hab1_15
  have hab2_16 : ct_16 1011 = none := (ho_16 1011  (by omega)).trans hab2_15
  have hab3_16 : ct_16 1012 = none := (ho_16 1012  (by omega)).trans hab3_15
  have hab4_16 : ct_16 1013 = none := (ho_16 1013  (by omega)).trans hab4_15
  have hab5_16 : ct_16 1014 = none := (ho_16 1014  (by omega)).trans hab5_15
  have hab6_16 : ct_16 1015 = none := (ho_16 1015  (by omega)).trans hab6_15
  have hab7_16 : ct_16 1016 = none := (ho_16 1016  (by omega)).trans hab7_15
  refine lv_aload_n hx hb dX6_init_71 rfl (lv_at hl 0 rfl) ?_
  refine lv_bipush (v := jI 8) hx hb dX6_init_72 (by decide) ?_
  have hno_17 : ct_16 1009 = none := hab0_16
  refine rm_newA (atype := .int) (fty := .int) (k := 0) (N' := 8) (a0 := (8, .inl (fun _ => jI 0))) hx hb (hts (.arrayClass .int) (by decide +kernel)) rfl hK hW hS hA rfl (fun _ h9 => by cases h9) (fun _ => rfl) rfl (by decide) (by decide) 1009 hno_17 (by rw [show 1009 = 1000 + 9 from rfl, had0 9 (by omega) (by omega)]; omega) (Nat.le_of_ble_eq_true rfl) (Nat.le_of_ble_eq_true rfl) dX6_init_74 (fun H ct_17 hs_17 ho_17 hW hS hz_17 => ?_)
  have hs_17 : ct_17 1009 = some (ri ty 8 (fun _ => (0 : Int))) := hs_17
  have hof_17 : ∀ q, q ≠ 1000 → q ≠ 1001 → q ≠ 1002 → q ≠ 1003 → q ≠ 1004 → q ≠ 1005 → q ≠ 1006 → q ≠ 1007 → q ≠ 1008 → q ≠ 1009 → q ≠ 1010 → q ≠ 1011 → q ≠ 1012 → q ≠ 1013 → q ≠ 1014 → q ≠ 1015 → q ≠ 1016 → ct_17 q = ct q := fun q h0_17 h1_17 h2_17 h3_17 h4_17 h5_17 h6_17 h7_17 h8_17 h9_17 h10_17 h11_17 h12_17 h13_17 h14_17 h15_17 h16_17 => (ho_17 q h9_17).trans (hof_16 q h0_17 h1_17 h2_17 h3_17 h4_17 h5_17 h6_17 h7_17 h8_17 h9_17 h10_17 h11_17 h12_17 h13_17 h14_17 h15_17 h16_17)
  have hm0_17 : ct_17 1000 = some (.inr (6, [.int (jI 0), .int (jI 0), .int (jI 0), .ref (ad 1001), .ref (ad 1002), .ref (ad 1003), .ref (ad 1004), .ref (ad 1005), .ref (ad 1006), .ref (ad 1007), .ref (ad 1008), .null, .null, .null, .null, .null, .null, .null, .null]) : va_E) := (ho_17 1000 (by omega)).trans hs_16
  have hm1_17 : ct_17 1001 = some (ri ty 6 (fun _ => (0 : Int))) := (ho_17 1001 (by omega)).trans hm1_16
  have hm2_17 : ct_17 1002 = some (ri ty 384 (fun _ => (0 : Int))) := (ho_17 1002 (by omega)).trans hm2_16
  have hm3_17 : ct_17 1003 = some (ri ty 20 (fun _ => (0 : Int))) := (ho_17 1003 (by omega)).trans hm3_16
  have hm4_17 : ct_17 1004 = some (rz ty 6 (fun _ => (0 : Int))) := (ho_17 1004 (by omega)).trans hm4_16
  have hm5_17 : ct_17 1005 = some (rl ty 160 (fun _ => (0 : Int))) := (ho_17 1005 (by omega)).trans hm5_16
  have hm6_17 : ct_17 1006 = some (rl ty 160 (fun _ => (0 : Int))) := (ho_17 1006 (by omega)).trans hm6_16
  have hm7_17 : ct_17 1007 = some (rl ty 49 (fun _ => (0 : Int))) := (ho_17 1007 (by omega)).trans hm7_16
  have hm8_17 : ct_17 1008 = some (rl ty 7 (fun _ => (0 : Int))) := (ho_17 1008 (by omega)).trans hm8_16
  have hab0_17 : ct_17 1010 = none := (ho_17 1010  (by omega)).trans hab1_16
  have hab1_17 : ct_17 1011 = none := (ho_17 1011  (by omega)).trans hab2_16
  have hab2_17 : ct_17 1012 = none := (ho_17 1012  (by omega)).trans hab3_16
  have hab3_17 : ct_17 1013 = none := (ho_17 1013  (by omega)).trans hab4_16
  have hab4_17 : ct_17 1014 = none := (ho_17 1014  (by omega)).trans hab5_16
  have hab5_17 : ct_17 1015 = none := (ho_17 1015  (by omega)).trans hab6_16
  have hab6_17 : ct_17 1016 = none := (ho_17 1016  (by omega)).trans hab7_16
  refine rm_putF (ci := 6) (v := .ref (ad 1009)) (fty := .array .int) (C := RX6) (T := TX6) (N := 19) hx hb hts (by decide +kernel) tyX6 tyX6_ok nmX6 hown hK hW hS hm0_17 rfl 11 (by decide) (hts (.fieldLink RX6 36 "GrainYardModel" "round" "[I") (by decide +kernel)) (fun _ h9 => h9) rfl hin rfl (by decide +kernel) rfl rfl (Nat.le_of_ble_eq_true rfl) dX6_init_76 (fun H locs ct_18 hs_18 ho_18 hW hS hz_18 => ?_)
  have hs_18 : ct_18 1000 = some (.inr (6, [.int (jI 0), .int (jI 0), .int (jI 0), .ref (ad 1001), .ref (ad 1002), .ref (ad 1003), .ref (ad 1004), .ref (ad 1005), .ref (ad 1006), .ref (ad 1007), .ref (ad 1008), .ref (ad 1009), .null, .null, .null, .null, .null, .null, .null]) : va_E) := hs_18
  have hof_18 : ∀ q, q ≠ 1000 → q ≠ 1001 → q ≠ 1002 → q ≠ 1003 → q ≠ 1004 → q ≠ 1005 → q ≠ 1006 → q ≠ 1007 → q ≠ 1008 → q ≠ 1009 → q ≠ 1010 → q ≠ 1011 → q ≠ 1012 → q ≠ 1013 → q ≠ 1014 → q ≠ 1015 → q ≠ 1016 → ct_18 q = ct q := fun q h0_18 h1_18 h2_18 h3_18 h4_18 h5_18 h6_18 h7_18 h8_18 h9_18 h10_18 h11_18 h12_18 h13_18 h14_18 h15_18 h16_18 => (ho_18 q h0_18).trans (hof_17 q h0_18 h1_18 h2_18 h3_18 h4_18 h5_18 h6_18 h7_18 h8_18 h9_18 h10_18 h11_18 h12_18 h13_18 h14_18 h15_18 h16_18)
  have hm1_18 : ct_18 1001 = some (ri ty 6 (fun _ => (0 : Int))) := (ho_18 1001 (by omega)).trans hm1_17
  have hm2_18 : ct_18 1002 = some (ri ty 384 (fun _ => (0 : Int))) := (ho_18 1002 (by omega)).trans hm2_17
  have hm3_18 : ct_18 1003 = some (ri ty 20 (fun _ => (0 : Int))) := (ho_18 1003 (by omega)).trans hm3_17
  have hm4_18 : ct_18 1004 = some (rz ty 6 (fun _ => (0 : Int))) := (ho_18 1004 (by omega)).trans hm4_17
  have hm5_18 : ct_18 1005 = some (rl ty 160 (fun _ => (0 : Int))) := (ho_18 1005 (by omega)).trans hm5_17
  have hm6_18 : ct_18 1006 = some (rl ty 160 (fun _ => (0 : Int))) := (ho_18 1006 (by omega)).trans hm6_17
  have hm7_18 : ct_18 1007 = some (rl ty 49 (fun _ => (0 : Int))) := (ho_18 1007 (by omega)).trans hm7_17
  have hm8_18 : ct_18 1008 = some (rl ty 7 (fun _ => (0 : Int))) := (ho_18 1008 (by omega)).trans hm8_17
  have hm9_18 : ct_18 1009 = some (ri ty 8 (fun _ => (0 : Int))) := (ho_18 1009 (by omega)).trans hs_17
  have hab0_18 : ct_18 1010 = none := (ho_18 1010  (by omega)).trans hab0_17
  have hab1_18 : ct_18 1011 = none := (ho_18 1011  (by omega)).trans hab1_17
  have hab2_18 : ct_18 1012 = none := (ho_18 1012  (by omega)).trans hab2_17
  have hab3_18 : ct_18 1013 = none := (ho_18 1013  (by omega)).trans hab3_17
  have hab4_18 : ct_18 1014 = none := (ho_18 1014  (by omega)).trans hab4_17
  have hab5_18 : ct_18 1015 = none := (ho_18 1015  (by omega)).trans hab5_17
  have hab6_18 : ct_18 1016 = none := (ho_18 1016  (by omega)).trans hab6_17
  refine lv_aload_n hx hb dX6_init_79 rfl (lv_at hl 0 rfl) ?_
  refine lv_bipush (v := jI 8) hx hb dX6_init_80 (by decide) ?_
  have hno_19 : ct_18 1010 = none := hab0_18
  refine rm_newA (atype := .long) (fty := .long) (k := 1) (N' := 8) (a0 := (8, .inr (.inl (fun _ => jL 0)))) hx hb (hts (.arrayClass .long) (by decide +kernel)) rfl hK hW hS hA rfl (fun _ h9 => by cases h9) (fun _ => rfl) rfl (by decide) (by decide) 1010 hno_19 (by rw [show 1010 = 1000 + 10 from rfl, had0 10 (by omega) (by omega)]; omega) (Nat.le_of_ble_eq_true rfl) (Nat.le_of_ble_eq_true rfl) dX6_init_82 (fun H ct_19 hs_19 ho_19 hW hS hz_19 => ?_)
  have hs_19 : ct_19 1010 = some (rl ty 8 (fun _ => (0 : Int))) := hs_19
  have hof_19 : ∀ q, q ≠ 1000 → q ≠ 1001 → q ≠ 1002 → q ≠ 1003 → q ≠ 1004 → q ≠ 1005 → q ≠ 1006 → q ≠ 1007 → q ≠ 1008 → q ≠ 1009 → q ≠ 1010 → q ≠ 1011 → q ≠ 1012 → q ≠ 1013 → q ≠ 1014 → q ≠ 1015 → q ≠ 1016 → ct_19 q = ct q := fun q h0_19 h1_19 h2_19 h3_19 h4_19 h5_19 h6_19 h7_19 h8_19 h9_19 h10_19 h11_19 h12_19 h13_19 h14_19 h15_19 h16_19 => (ho_19 q h10_19).trans (hof_18 q h0_19 h1_19 h2_19 h3_19 h4_19 h5_19 h6_19 h7_19 h8_19 h9_19 h10_19 h11_19 h12_19 h13_19 h14_19 h15_19 h16_19)
  have hm0_19 : ct_19 1000 = some (.inr (6, [.int (jI 0), .int (jI 0), .int (jI 0), .ref (ad 1001), .ref (ad 1002), .ref (ad 1003), .ref (ad 1004), .ref (ad 1005), .ref (ad 1006), .ref (ad 1007), .ref (ad 1008), .ref (ad 1009), .null, .null, .null, .null, .null, .null, .null]) : va_E) := (ho_19 1000 (by omega)).trans hs_18
  have hm1_19 : ct_19 1001 = some (ri ty 6 (fun _ => (0 : Int))) := (ho_19 1001 (by omega)).trans hm1_18
  have hm2_19 : ct_19 1002 = some (ri ty 384 (fun _ => (0 : Int))) := (ho_19 1002 (by omega)).trans hm2_18
  have hm3_19 : ct_19 1003 = some (ri ty 20 (fun _ => (0 : Int))) := (ho_19 1003 (by omega)).trans hm3_18
  have hm4_19 : ct_19 1004 = some (rz ty 6 (fun _ => (0 : Int))) := (ho_19 1004 (by omega)).trans hm4_18
  have hm5_19 : ct_19 1005 = some (rl ty 160 (fun _ => (0 : Int))) := (ho_19 1005 (by omega)).trans hm5_18
  have hm6_19 : ct_19 1006 = some (rl ty 160 (fun _ => (0 : Int))) := (ho_19 1006 (by omega)).trans hm6_18
  have hm7_19 : ct_19 1007 = some (rl ty 49 (fun _ => (0 : Int))) := (ho_19 1007 (by omega)).trans hm7_18
  have hm8_19 : ct_19 1008 = some (rl ty 7 (fun _ => (0 : Int))) := (ho_19 1008 (by omega)).trans hm8_18
  have hm9_19 : ct_19 1009 = some (ri ty 8 (fun _ => (0 : Int))) := (ho_19 1009 (by omega)).trans hm9_18
  have hab0_19 : ct_19 1011 = none := (ho_19 1011  (by omega)).trans hab1_18
  have hab1_19 : ct_19 1012 = none := (ho_19 1012  (by omega)).trans hab2_18
  have hab2_19 : ct_19 1013 = none := (ho_19 1013  (by omega)).trans hab3_18
  have hab3_19 : ct_19 1014 = none := (ho_19 1014  (by omega)).trans hab4_18
  have hab4_19 : ct_19 1015 = none := (ho_19 1015  (by omega)).trans hab5_18
  have hab5_19 : ct_19 1016 = none := (ho_19 1016  (by omega)).trans hab6_18
  refine rm_putF (ci := 6) (v := .ref (ad 1010)) (fty := .array .long) (C := RX6) (T := TX6) (N := 19) hx hb hts (by decide +kernel) tyX6 tyX6_ok nmX6 hown hK hW hS hm0_19 rfl 12 (by decide) (hts (.fieldLink RX6 39 "GrainYardModel" "kept" "[J") (by decide +kernel)) (fun _ h9 => h9) rfl hin rfl (by decide +kernel) rfl rfl (Nat.le_of_ble_eq_true rfl) dX6_init_84 (fun H locs ct_20 hs_20 ho_20 hW hS hz_20 => ?_)
  have hs_20 : ct_20 1000 = some (.inr (6, [.int (jI 0), .int (jI 0), .int (jI 0), .ref (ad 1001), .ref (ad 1002), .ref (ad 1003), .ref (ad 1004), .ref (ad 1005), .ref (ad 1006), .ref (ad 1007), .ref (ad 1008), .ref (ad 1009), .ref (ad 1010), .null, .null, .null, .null, .null, .null]) : va_E) := hs_20
  have hof_20 : ∀ q, q ≠ 1000 → q ≠ 1001 → q ≠ 1002 → q ≠ 1003 → q ≠ 1004 → q ≠ 1005 → q ≠ 1006 → q ≠ 1007 → q ≠ 1008 → q ≠ 1009 → q ≠ 1010 → q ≠ 1011 → q ≠ 1012 → q ≠ 1013 → q ≠ 1014 → q ≠ 1015 → q ≠ 1016 → ct_20 q = ct q := fun q h0_20 h1_20 h2_20 h3_20 h4_20 h5_20 h6_20 h7_20 h8_20 h9_20 h10_20 h11_20 h12_20 h13_20 h14_20 h15_20 h16_20 => (ho_20 q h0_20).trans (hof_19 q h0_20 h1_20 h2_20 h3_20 h4_20 h5_20 h6_20 h7_20 h8_20 h9_20 h10_20 h11_20 h12_20 h13_20 h14_20 h15_20 h16_20)
  have hm1_20 : ct_20 1001 = some (ri ty 6 (fun _ => (0 : Int))) := (ho_20 1001 (by omega)).trans hm1_19
  have hm2_20 : ct_20 1002 = some (ri ty 384 (fun _ => (0 : Int))) := (ho_20 1002 (by omega)).trans hm2_19
  have hm3_20 : ct_20 1003 = some (ri ty 20 (fun _ => (0 : Int))) := (ho_20 1003 (by omega)).trans hm3_19
  have hm4_20 : ct_20 1004 = some (rz ty 6 (fun _ => (0 : Int))) := (ho_20 1004 (by omega)).trans hm4_19
  have hm5_20 : ct_20 1005 = some (rl ty 160 (fun _ => (0 : Int))) := (ho_20 1005 (by omega)).trans hm5_19
  have hm6_20 : ct_20 1006 = some (rl ty 160 (fun _ => (0 : Int))) := (ho_20 1006 (by omega)).trans hm6_19
  have hm7_20 : ct_20 1007 = some (rl ty 49 (fun _ => (0 : Int))) := (ho_20 1007 (by omega)).trans hm7_19
  have hm8_20 : ct_20 1008 = some (rl ty 7 (fun _ => (0 : Int))) := (ho_20 1008 (by omega)).trans hm8_19
  have hm9_20 : ct_20 1009 = some (ri ty 8 (fun _ => (0 : Int))) := (ho_20 1009 (by omega)).trans hm9_19
  have hm10_20 : ct_20 1010 = some (rl ty 8 (fun _ => (0 : Int))) := (ho_20 1010 (by omega)).trans hs_19
  have hab0_20 : ct_20 1011 = none := (ho_20 1011  (by omega)).trans hab0_19
  have hab1_20 : ct_20 1012 = none := (ho_20 1012  (by omega)).trans hab1_19
  have hab2_20 : ct_20 1013 = none := (ho_20 1013  (by omega)).trans hab2_19
  have hab3_20 : ct_20 1014 = none := (ho_20 1014  (by omega)).trans hab3_19
  have hab4_20 : ct_20 1015 = none := (ho_20 1015  (by omega)).trans hab4_19
  have hab5_20 : ct_20 1016 = none := (ho_20 1016  (by omega)).trans hab5_19
  refine lv_aload_n hx hb dX6_init_87 rfl (lv_at hl 0 rfl) ?_
  refine lv_bipush (v := jI 8) hx hb dX6_init_88 (by decide) ?_
  have hno_21 : ct_20 1011 = none := hab0_20
  refine rm_newA (atype := .long) (fty := .long) (k := 1) (N' := 8) (a0 := (8, .inr (.inl (fun _ => jL 0)))) hx hb (hts (.arrayClass .long) (by decide +kernel)) rfl hK hW hS hA rfl (fun _ h9 => by cases h9) (fun _ => rfl) rfl (by decide) (by decide) 1011 hno_21 (by rw [show 1011 = 1000 + 11 from rfl, had0 11 (by omega) (by omega)]; omega) (Nat.le_of_ble_eq_true rfl) (Nat.le_of_ble_eq_true rfl) dX6_init_90 (fun H ct_21 hs_21 ho_21 hW hS hz_21 => ?_)
  have hs_21 : ct_21 1011 = some (rl ty 8 (fun _ => (0 : Int))) := hs_21
  have hof_21 : ∀ q, q ≠ 1000 → q ≠ 1001 → q ≠ 1002 → q ≠ 1003 → q ≠ 1004 → q ≠ 1005 → q ≠ 1006 → q ≠ 1007 → q ≠ 1008 → q ≠ 1009 → q ≠ 1010 → q ≠ 1011 → q ≠ 1012 → q ≠ 1013 → q ≠ 1014 → q ≠ 1015 → q ≠ 1016 → ct_21 q = ct q := fun q h0_21 h1_21 h2_21 h3_21 h4_21 h5_21 h6_21 h7_21 h8_21 h9_21 h10_21 h11_21 h12_21 h13_21 h14_21 h15_21 h16_21 => (ho_21 q h11_21).trans (hof_20 q h0_21 h1_21 h2_21 h3_21 h4_21 h5_21 h6_21 h7_21 h8_21 h9_21 h10_21 h11_21 h12_21 h13_21 h14_21 h15_21 h16_21)
  have hm0_21 : ct_21 1000 = some (.inr (6, [.int (jI 0), .int (jI 0), .int (jI 0), .ref (ad 1001), .ref (ad 1002), .ref (ad 1003), .ref (ad 1004), .ref (ad 1005), .ref (ad 1006), .ref (ad 1007), .ref (ad 1008), .ref (ad 1009), .ref (ad 1010), .null, .null, .null, .null, .null, .null]) : va_E) := (ho_21 1000 (by omega)).trans hs_20
  have hm1_21 : ct_21 1001 = some (ri ty 6 (fun _ => (0 : Int))) := (ho_21 1001 (by omega)).trans hm1_20
  have hm2_21 : ct_21 1002 = some (ri ty 384 (fun _ => (0 : Int))) := (ho_21 1002 (by omega)).trans hm2_20
  have hm3_21 : ct_21 1003 = some (ri ty 20 (fun _ => (0 : Int))) := (ho_21 1003 (by omega)).trans hm3_20
  have hm4_21 : ct_21 1004 = some (rz ty 6 (fun _ => (0 : Int))) := (ho_21 1004 (by omega)).trans hm4_20
  have hm5_21 : ct_21 1005 = some (rl ty 160 (fun _ => (0 : Int))) := (ho_21 1005 (by omega)).trans hm5_20
  have hm6_21 : ct_21 1006 = some (rl ty 160 (fun _ => (0 : Int))) := (ho_21 1006 (by omega)).trans hm6_20
  have hm7_21 : ct_21 1007 = some (rl ty 49 (fun _ => (0 : Int))) := (ho_21 1007 (by omega)).trans hm7_20
  have hm8_21 : ct_21 1008 = some (rl ty 7 (fun _ => (0 : Int))) := (ho_21 1008 (by omega)).trans hm8_20
  have hm9_21 : ct_21 1009 = some (ri ty 8 (fun _ => (0 : Int))) := (ho_21 1009 (by omega)).trans hm9_20
  have hm10_21 : ct_21 1010 = some (rl ty 8 (fun _ => (0 : Int))) := (ho_21 1010 (by omega)).trans hm10_20
  have hab0_21 : ct_21 1012 = none := (ho_21 1012  (by omega)).trans hab1_20
  have hab1_21 : ct_21 1013 = none := (ho_21 1013  (by omega)).trans hab2_20
  have hab2_21 : ct_21 1014 = none := (ho_21 1014  (by omega)).trans hab3_20
  have hab3_21 : ct_21 1015 = none := (ho_21 1015  (by omega)).trans hab4_20
  have hab4_21 : ct_21 1016 = none := (ho_21 1016  (by omega)).trans hab5_20
  refine rm_putF (ci := 6) (v := .ref (ad 1011)) (fty := .array .long) (C := RX6) (T := TX6) (N := 19) hx hb hts (by decide +kernel) tyX6 tyX6_ok nmX6 hown hK hW hS hm0_21 rfl 13 (by decide) (hts (.fieldLink RX6 42 "GrainYardModel" "keptToppled" "[J") (by decide +kernel)) (fun _ h9 => h9) rfl hin rfl (by decide +kernel) rfl rfl (Nat.le_of_ble_eq_true rfl) dX6_init_92 (fun H locs ct_22 hs_22 ho_22 hW hS hz_22 => ?_)
  have hs_22 : ct_22 1000 = some (.inr (6, [.int (jI 0), .int (jI 0), .int (jI 0), .ref (ad 1001), .ref (ad 1002), .ref (ad 1003), .ref (ad 1004), .ref (ad 1005), .ref (ad 1006), .ref (ad 1007), .ref (ad 1008), .ref (ad 1009), .ref (ad 1010), .ref (ad 1011), .null, .null, .null, .null, .null]) : va_E) := hs_22
  have hof_22 : ∀ q, q ≠ 1000 → q ≠ 1001 → q ≠ 1002 → q ≠ 1003 → q ≠ 1004 → q ≠ 1005 → q ≠ 1006 → q ≠ 1007 → q ≠ 1008 → q ≠ 1009 → q ≠ 1010 → q ≠ 1011 → q ≠ 1012 → q ≠ 1013 → q ≠ 1014 → q ≠ 1015 → q ≠ 1016 → ct_22 q = ct q := fun q h0_22 h1_22 h2_22 h3_22 h4_22 h5_22 h6_22 h7_22 h8_22 h9_22 h10_22 h11_22 h12_22 h13_22 h14_22 h15_22 h16_22 => (ho_22 q h0_22).trans (hof_21 q h0_22 h1_22 h2_22 h3_22 h4_22 h5_22 h6_22 h7_22 h8_22 h9_22 h10_22 h11_22 h12_22 h13_22 h14_22 h15_22 h16_22)
  have hm1_22 : ct_22 1001 = some (ri ty 6 (fun _ => (0 : Int))) := (ho_22 1001 (by omega)).trans hm1_21
  have hm2_22 : ct_22 1002 = some (ri ty 384 (fun _ => (0 : Int))) := (ho_22 1002 (by omega)).trans hm2_21
  have hm3_22 : ct_22 1003 = some (ri ty 20 (fun _ => (0 : Int))) := (ho_22 1003 (by omega)).trans hm3_21
  have hm4_22 : ct_22 1004 = some (rz ty 6 (fun _ => (0 : Int))) := (ho_22 1004 (by omega)).trans hm4_21
  have hm5_22 : ct_22 1005 = some (rl ty 160 (fun _ => (0 : Int))) := (ho_22 1005 (by omega)).trans hm5_21
  have hm6_22 : ct_22 1006 = some (rl ty 160 (fun _ => (0 : Int))) := (ho_22 1006 (by omega)).trans hm6_21
  have hm7_22 : ct_22 1007 = some (rl ty 49 (fun _ => (0 : Int))) := (ho_22 1007 (by omega)).trans hm7_21
  have hm8_22 : ct_22 1008 = some (rl ty 7 (fun _ => (0 : Int))) := (ho_22 1008 (by omega)).trans hm8_21
  have hm9_22 : ct_22 1009 = some (ri ty 8 (fun _ => (0 : Int))) := (ho_22 1009 (by omega)).trans hm9_21
  have hm10_22 : ct_22 1010 = some (rl ty 8 (fun _ => (0 : Int))) := (ho_22 1010 (by omega)).trans hm10_21
  have hm11_22 : ct_22 1011 = some (rl ty 8 (fun _ => (0 : Int))) := (ho_22 1011 (by omega)).trans hs_21
  have hab0_22 : ct_22 1012 = none := (ho_22 1012  (by omega)).trans hab0_21
  have hab1_22 : ct_22 1013 = none := (ho_22 1013  (by omega)).trans hab1_21
  have hab2_22 : ct_22 1014 = none := (ho_22 1014  (by omega)).trans hab2_21
  have hab3_22 : ct_22 1015 = none := (ho_22 1015  (by omega)).trans hab3_21
  have hab4_22 : ct_22 1016 = none := (ho_22 1016  (by omega)).trans hab4_21
  refine lv_aload_n hx hb dX6_init_95 rfl (lv_at hl 0 rfl) ?_
  refine lv_bipush (v := jI 8) hx hb dX6_init_96 (by decide) ?_
  have hno_23 : ct_22 1012 = none := hab0_22
  refine rm_newA (atype := .long) (fty := .long) (k := 1) (N' := 8) (a0 := (8, .inr (.inl (fun _ => jL 0)))) hx hb (hts (.arrayClass .long) (by decide +kernel)) rfl hK hW hS hA rfl (fun _ h9 => by cases h9) (fun _ => rfl) rfl (by decide) (by decide) 1012 hno_23 (by rw [show 1012 = 1000 + 12 from rfl, had0 12 (by omega) (by omega)]; omega) (Nat.le_of_ble_eq_true rfl) (Nat.le_of_ble_eq_true rfl) dX6_init_98 (fun H ct_23 hs_23 ho_23 hW hS hz_23 => ?_)
  have hs_23 : ct_23 1012 = some (rl ty 8 (fun _ => (0 : Int))) := hs_23
  have hof_23 : ∀ q, q ≠ 1000 → q ≠ 1001 → q ≠ 1002 → q ≠ 1003 → q ≠ 1004 → q ≠ 1005 → q ≠ 1006 → q ≠ 1007 → q ≠ 1008 → q ≠ 1009 → q ≠ 1010 → q ≠ 1011 → q ≠ 1012 → q ≠ 1013 → q ≠ 1014 → q ≠ 1015 → q ≠ 1016 → ct_23 q = ct q := fun q h0_23 h1_23 h2_23 h3_23 h4_23 h5_23 h6_23 h7_23 h8_23 h9_23 h10_23 h11_23 h12_23 h13_23 h14_23 h15_23 h16_23 => (ho_23 q h12_23).trans (hof_22 q h0_23 h1_23 h2_23 h3_23 h4_23 h5_23 h6_23 h7_23 h8_23 h9_23 h10_23 h11_23 h12_23 h13_23 h14_23 h15_23 h16_23)
  have hm0_23 : ct_23 1000 = some (.inr (6, [.int (jI 0), .int (jI 0), .int (jI 0), .ref (ad 1001), .ref (ad 1002), .ref (ad 1003), .ref (ad 1004), .ref (ad 1005), .ref (ad 1006), .ref (ad 1007), .ref (ad 1008), .ref (ad 1009), .ref (ad 1010), .ref (ad 1011), .null, .null, .null, .null, .null]) : va_E) := (ho_23 1000 (by omega)).trans hs_22
  have hm1_23 : ct_23 1001 = some (ri ty 6 (fun _ => (0 : Int))) := (ho_23 1001 (by omega)).trans hm1_22
  have hm2_23 : ct_23 1002 = some (ri ty 384 (fun _ => (0 : Int))) := (ho_23 1002 (by omega)).trans hm2_22
  have hm3_23 : ct_23 1003 = some (ri ty 20 (fun _ => (0 : Int))) := (ho_23 1003 (by omega)).trans hm3_22
  have hm4_23 : ct_23 1004 = some (rz ty 6 (fun _ => (0 : Int))) := (ho_23 1004 (by omega)).trans hm4_22
  have hm5_23 : ct_23 1005 = some (rl ty 160 (fun _ => (0 : Int))) := (ho_23 1005 (by omega)).trans hm5_22
  have hm6_23 : ct_23 1006 = some (rl ty 160 (fun _ => (0 : Int))) := (ho_23 1006 (by omega)).trans hm6_22
  have hm7_23 : ct_23 1007 = some (rl ty 49 (fun _ => (0 : Int))) := (ho_23 1007 (by omega)).trans hm7_22
  have hm8_23 : ct_23 1008 = some (rl ty 7 (fun _ => (0 : Int))) := (ho_23 1008 (by omega)).trans hm8_22
  have hm9_23 : ct_23 1009 = some (ri ty 8 (fun _ => (0 : Int))) := (ho_23 1009 (by omega)).trans hm9_22
  have hm10_23 : ct_23 1010 = some (rl ty 8 (fun _ => (0 : Int))) := (ho_23 1010 (by omega)).trans hm10_22
  have hm11_23 : ct_23 1011 = some (rl ty 8 (fun _ => (0 : Int))) := (ho_23 1011 (by omega)).trans hm11_22
  have hab0_23 : ct_23 1013 = none := (ho_23 1013  (by omega)).trans hab1_22
  have hab1_23 : ct_23 1014 = none := (ho_23 1014  (by omega)).trans hab2_22
  have hab2_23 : ct_23 1015 = none := (ho_23 1015  (by omega)).trans hab3_22
  have hab3_23 : ct_23 1016 = none := (ho_23 1016  (by omega)).trans hab4_22
  refine rm_putF (ci := 6) (v := .ref (ad 1012)) (fty := .array .long) (C := RX6) (T := TX6) (N := 19) hx hb hts (by decide +kernel) tyX6 tyX6_ok nmX6 hown hK hW hS hm0_23 rfl 14 (by decide) (hts (.fieldLink RX6 45 "GrainYardModel" "much" "[J") (by decide +kernel)) (fun _ h9 => h9) rfl hin rfl (by decide +kernel) rfl rfl (Nat.le_of_ble_eq_true rfl) dX6_init_100 (fun H locs ct_24 hs_24 ho_24 hW hS hz_24 => ?_)
  have hs_24 : ct_24 1000 = some (.inr (6, [.int (jI 0), .int (jI 0), .int (jI 0), .ref (ad 1001), .ref (ad 1002), .ref (ad 1003), .ref (ad 1004), .ref (ad 1005), .ref (ad 1006), .ref (ad 1007), .ref (ad 1008), .ref (ad 1009), .ref (ad 1010), .ref (ad 1011), .ref (ad 1012), .null, .null, .null, .null]) : va_E) := hs_24
  have hof_24 : ∀ q, q ≠ 1000 → q ≠ 1001 → q ≠ 1002 → q ≠ 1003 → q ≠ 1004 → q ≠ 1005 → q ≠ 1006 → q ≠ 1007 → q ≠ 1008 → q ≠ 1009 → q ≠ 1010 → q ≠ 1011 → q ≠ 1012 → q ≠ 1013 → q ≠ 1014 → q ≠ 1015 → q ≠ 1016 → ct_24 q = ct q := fun q h0_24 h1_24 h2_24 h3_24 h4_24 h5_24 h6_24 h7_24 h8_24 h9_24 h10_24 h11_24 h12_24 h13_24 h14_24 h15_24 h16_24 => (ho_24 q h0_24).trans (hof_23 q h0_24 h1_24 h2_24 h3_24 h4_24 h5_24 h6_24 h7_24 h8_24 h9_24 h10_24 h11_24 h12_24 h13_24 h14_24 h15_24 h16_24)
  have hm1_24 : ct_24 1001 = some (ri ty 6 (fun _ => (0 : Int))) := (ho_24 1001 (by omega)).trans hm1_23
  have hm2_24 : ct_24 1002 = some (ri ty 384 (fun _ => (0 : Int))) := (ho_24 1002 (by omega)).trans hm2_23
  have hm3_24 : ct_24 1003 = some (ri ty 20 (fun _ => (0 : Int))) := (ho_24 1003 (by omega)).trans hm3_23
  have hm4_24 : ct_24 1004 = some (rz ty 6 (fun _ => (0 : Int))) := (ho_24 1004 (by omega)).trans hm4_23
  have hm5_24 : ct_24 1005 = some (rl ty 160 (fun _ => (0 : Int))) := (ho_24 1005 (by omega)).trans hm5_23
  have hm6_24 : ct_24 1006 = some (rl ty 160 (fun _ => (0 : Int))) := (ho_24 1006 (by omega)).trans hm6_23
  have hm7_24 : ct_24 1007 = some (rl ty 49 (fun _ => (0 : Int))) := (ho_24 1007 (by omega)).trans hm7_23
  have hm8_24 : ct_24 1008 = some (rl ty 7 (fun _ => (0 : Int))) := (ho_24 1008 (by omega)).trans hm8_23
  have hm9_24 : ct_24 1009 = some (ri ty 8 (fun _ => (0 : Int))) := (ho_24 1009 (by omega)).trans hm9_23
  have hm10_24 : ct_24 1010 = some (rl ty 8 (fun _ => (0 : Int))) := (ho_24 1010 (by omega)).trans hm10_23
  have hm11_24 : ct_24 1011 = some (rl ty 8 (fun _ => (0 : Int))) := (ho_24 1011 (by omega)).trans hm11_23
  have hm12_24 : ct_24 1012 = some (rl ty 8 (fun _ => (0 : Int))) := (ho_24 1012 (by omega)).trans hs_23
  have hab0_24 : ct_24 1013 = none := (ho_24 1013  (by omega)).trans hab0_23
  have hab1_24 : ct_24 1014 = none := (ho_24 1014  (by omega)).trans hab1_23
  have hab2_24 : ct_24 1015 = none := (ho_24 1015  (by omega)).trans hab2_23
  have hab3_24 : ct_24 1016 = none := (ho_24 1016  (by omega)).trans hab3_23
  refine lv_aload_n hx hb dX6_init_103 rfl (lv_at hl 0 rfl) ?_
  refine lv_bipush (v := jI 8) hx hb dX6_init_104 (by decide) ?_
  have hno_25 : ct_24 1013 = none := hab0_24
  refine rm_newA (atype := .long) (fty := .long) (k := 1) (N' := 8) (a0 := (8, .inr (.inl (fun _ => jL 0)))) hx hb (hts (.arrayClass .long) (by decide +kernel)) rfl hK hW hS hA rfl (fun _ h9 => by cases h9) (fun _ => rfl) rfl (by decide) (by decide) 1013 hno_25 (by rw [show 1013 = 1000 + 13 from rfl, had0 13 (by omega) (by omega)]; omega) (Nat.le_of_ble_eq_true rfl) (Nat.le_of_ble_eq_true rfl) dX6_init_106 (fun H ct_25 hs_25 ho_25 hW hS hz_25 => ?_)
  have hs_25 : ct_25 1013 = some (rl ty 8 (fun _ => (0 : Int))) := hs_25
  have hof_25 : ∀ q, q ≠ 1000 → q ≠ 1001 → q ≠ 1002 → q ≠ 1003 → q ≠ 1004 → q ≠ 1005 → q ≠ 1006 → q ≠ 1007 → q ≠ 1008 → q ≠ 1009 → q ≠ 1010 → q ≠ 1011 → q ≠ 1012 → q ≠ 1013 → q ≠ 1014 → q ≠ 1015 → q ≠ 1016 → ct_25 q = ct q := fun q h0_25 h1_25 h2_25 h3_25 h4_25 h5_25 h6_25 h7_25 h8_25 h9_25 h10_25 h11_25 h12_25 h13_25 h14_25 h15_25 h16_25 => (ho_25 q h13_25).trans (hof_24 q h0_25 h1_25 h2_25 h3_25 h4_25 h5_25 h6_25 h7_25 h8_25 h9_25 h10_25 h11_25 h12_25 h13_25 h14_25 h15_25 h16_25)
  have hm0_25 : ct_25 1000 = some (.inr (6, [.int (jI 0), .int (jI 0), .int (jI 0), .ref (ad 1001), .ref (ad 1002), .ref (ad 1003), .ref (ad 1004), .ref (ad 1005), .ref (ad 1006), .ref (ad 1007), .ref (ad 1008), .ref (ad 1009), .ref (ad 1010), .ref (ad 1011), .ref (ad 1012), .null, .null, .null, .null]) : va_E) := (ho_25 1000 (by omega)).trans hs_24
  have hm1_25 : ct_25 1001 = some (ri ty 6 (fun _ => (0 : Int))) := (ho_25 1001 (by omega)).trans hm1_24
  have hm2_25 : ct_25 1002 = some (ri ty 384 (fun _ => (0 : Int))) := (ho_25 1002 (by omega)).trans hm2_24
  have hm3_25 : ct_25 1003 = some (ri ty 20 (fun _ => (0 : Int))) := (ho_25 1003 (by omega)).trans hm3_24
  have hm4_25 : ct_25 1004 = some (rz ty 6 (fun _ => (0 : Int))) := (ho_25 1004 (by omega)).trans hm4_24
  have hm5_25 : ct_25 1005 = some (rl ty 160 (fun _ => (0 : Int))) := (ho_25 1005 (by omega)).trans hm5_24
  have hm6_25 : ct_25 1006 = some (rl ty 160 (fun _ => (0 : Int))) := (ho_25 1006 (by omega)).trans hm6_24
  have hm7_25 : ct_25 1007 = some (rl ty 49 (fun _ => (0 : Int))) := (ho_25 1007 (by omega)).trans hm7_24
  have hm8_25 : ct_25 1008 = some (rl ty 7 (fun _ => (0 : Int))) := (ho_25 1008 (by omega)).trans hm8_24
  have hm9_25 : ct_25 1009 = some (ri ty 8 (fun _ => (0 : Int))) := (ho_25 1009 (by omega)).trans hm9_24
  have hm10_25 : ct_25 1010 = some (rl ty 8 (fun _ => (0 : Int))) := (ho_25 1010 (by omega)).trans hm10_24
  have hm11_25 : ct_25 1011 = some (rl ty 8 (fun _ => (0 : Int))) := (ho_25 1011 (by omega)).trans hm11_24
  have hm12_25 : ct_25 1012 = some (rl ty 8 (fun _ => (0 : Int))) := (ho_25 1012 (by omega)).trans hm12_24
  have hab0_25 : ct_25 1014 = none := (ho_25 1014  (by omega)).trans hab1_24
  have hab1_25 : ct_25 1015 = none := (ho_25 1015  (by omega)).trans hab2_24
  have hab2_25 : ct_25 1016 = none := (ho_25 1016  (by omega)).trans hab3_24
  refine rm_putF (ci := 6) (v := .ref (ad 1013)) (fty := .array .long) (C := RX6) (T := TX6) (N := 19) hx hb hts (by decide +kernel) tyX6 tyX6_ok nmX6 hown hK hW hS hm0_25 rfl 15 (by decide) (hts (.fieldLink RX6 48 "GrainYardModel" "still" "[J") (by decide +kernel)) (fun _ h9 => h9) rfl hin rfl (by decide +kernel) rfl rfl (Nat.le_of_ble_eq_true rfl) dX6_init_108 (fun H locs ct_26 hs_26 ho_26 hW hS hz_26 => ?_)
  have hs_26 : ct_26 1000 = some (.inr (6, [.int (jI 0), .int (jI 0), .int (jI 0), .ref (ad 1001), .ref (ad 1002), .ref (ad 1003), .ref (ad 1004), .ref (ad 1005), .ref (ad 1006), .ref (ad 1007), .ref (ad 1008), .ref (ad 1009), .ref (ad 1010), .ref (ad 1011), .ref (ad 1012), .ref (ad 1013), .null, .null, .null]) : va_E) := hs_26
  have hof_26 : ∀ q, q ≠ 1000 → q ≠ 1001 → q ≠ 1002 → q ≠ 1003 → q ≠ 1004 → q ≠ 1005 → q ≠ 1006 → q ≠ 1007 → q ≠ 1008 → q ≠ 1009 → q ≠ 1010 → q ≠ 1011 → q ≠ 1012 → q ≠ 1013 → q ≠ 1014 → q ≠ 1015 → q ≠ 1016 → ct_26 q = ct q := fun q h0_26 h1_26 h2_26 h3_26 h4_26 h5_26 h6_26 h7_26 h8_26 h9_26 h10_26 h11_26 h12_26 h13_26 h14_26 h15_26 h16_26 => (ho_26 q h0_26).trans (hof_25 q h0_26 h1_26 h2_26 h3_26 h4_26 h5_26 h6_26 h7_26 h8_26 h9_26 h10_26 h11_26 h12_26 h13_26 h14_26 h15_26 h16_26)
  have hm1_26 : ct_26 1001 = some (ri ty 6 (fun _ => (0 : Int))) := (ho_26 1001 (by omega)).trans hm1_25
  have hm2_26 : ct_26 1002 = some (ri ty 384 (fun _ => (0 : Int))) := (ho_26 1002 (by omega)).trans hm2_25
  have hm3_26 : ct_26 1003 = some (ri ty 20 (fun _ => (0 : Int))) := (ho_26 1003 (by omega)).trans hm3_25
  have hm4_26 : ct_26 1004 = some (rz ty 6 (fun _ => (0 : Int))) := (ho_26 1004 (by omega)).trans hm4_25
  have hm5_26 : ct_26 1005 = some (rl ty 160 (fun _ => (0 : Int))) := (ho_26 1005 (by omega)).trans hm5_25
  have hm6_26 : ct_26 1006 = some (rl ty 160 (fun _ => (0 : Int))) := (ho_26 1006 (by omega)).trans hm6_25
  have hm7_26 : ct_26 1007 = some (rl ty 49 (fun _ => (0 : Int))) := (ho_26 1007 (by omega)).trans hm7_25
  have hm8_26 : ct_26 1008 = some (rl ty 7 (fun _ => (0 : Int))) := (ho_26 1008 (by omega)).trans hm8_25
  have hm9_26 : ct_26 1009 = some (ri ty 8 (fun _ => (0 : Int))) := (ho_26 1009 (by omega)).trans hm9_25
  have hm10_26 : ct_26 1010 = some (rl ty 8 (fun _ => (0 : Int))) := (ho_26 1010 (by omega)).trans hm10_25
  have hm11_26 : ct_26 1011 = some (rl ty 8 (fun _ => (0 : Int))) := (ho_26 1011 (by omega)).trans hm11_25
  have hm12_26 : ct_26 1012 = some (rl ty 8 (fun _ => (0 : Int))) := (ho_26 1012 (by omega)).trans hm12_25
  have hm13_26 : ct_26 1013 = some (rl ty 8 (fun _ => (0 : Int))) := (ho_26 1013 (by omega)).trans hs_25
  have hab0_26 : ct_26 1014 = none := (ho_26 1014  (by omega)).trans hab0_25
  have hab1_26 : ct_26 1015 = none := (ho_26 1015  (by omega)).trans hab1_25
  have hab2_26 : ct_26 1016 = none := (ho_26 1016  (by omega)).trans hab2_25
  refine lv_aload_n hx hb dX6_init_111 rfl (lv_at hl 0 rfl) ?_
  refine lv_bipush (v := jI 8) hx hb dX6_init_112 (by decide) ?_
  have hno_27 : ct_26 1014 = none := hab0_26
  refine rm_newA (atype := .int) (fty := .int) (k := 0) (N' := 8) (a0 := (8, .inl (fun _ => jI 0))) hx hb (hts (.arrayClass .int) (by decide +kernel)) rfl hK hW hS hA rfl (fun _ h9 => by cases h9) (fun _ => rfl) rfl (by decide) (by decide) 1014 hno_27 (by rw [show 1014 = 1000 + 14 from rfl, had0 14 (by omega) (by omega)]; omega) (Nat.le_of_ble_eq_true rfl) (Nat.le_of_ble_eq_true rfl) dX6_init_114 (fun H ct_27 hs_27 ho_27 hW hS hz_27 => ?_)
  have hs_27 : ct_27 1014 = some (ri ty 8 (fun _ => (0 : Int))) := hs_27
  have hof_27 : ∀ q, q ≠ 1000 → q ≠ 1001 → q ≠ 1002 → q ≠ 1003 → q ≠ 1004 → q ≠ 1005 → q ≠ 1006 → q ≠ 1007 → q ≠ 1008 → q ≠ 1009 → q ≠ 1010 → q ≠ 1011 → q ≠ 1012 → q ≠ 1013 → q ≠ 1014 → q ≠ 1015 → q ≠ 1016 → ct_27 q = ct q := fun q h0_27 h1_27 h2_27 h3_27 h4_27 h5_27 h6_27 h7_27 h8_27 h9_27 h10_27 h11_27 h12_27 h13_27 h14_27 h15_27 h16_27 => (ho_27 q h14_27).trans (hof_26 q h0_27 h1_27 h2_27 h3_27 h4_27 h5_27 h6_27 h7_27 h8_27 h9_27 h10_27 h11_27 h12_27 h13_27 h14_27 h15_27 h16_27)
  have hm0_27 : ct_27 1000 = some (.inr (6, [.int (jI 0), .int (jI 0), .int (jI 0), .ref (ad 1001), .ref (ad 1002), .ref (ad 1003), .ref (ad 1004), .ref (ad 1005), .ref (ad 1006), .ref (ad 1007), .ref (ad 1008), .ref (ad 1009), .ref (ad 1010), .ref (ad 1011), .ref (ad 1012), .ref (ad 1013), .null, .null, .null]) : va_E) := (ho_27 1000 (by omega)).trans hs_26
  have hm1_27 : ct_27 1001 = some (ri ty 6 (fun _ => (0 : Int))) := (ho_27 1001 (by omega)).trans hm1_26
  have hm2_27 : ct_27 1002 = some (ri ty 384 (fun _ => (0 : Int))) := (ho_27 1002 (by omega)).trans hm2_26
  have hm3_27 : ct_27 1003 = some (ri ty 20 (fun _ => (0 : Int))) := (ho_27 1003 (by omega)).trans hm3_26
  have hm4_27 : ct_27 1004 = some (rz ty 6 (fun _ => (0 : Int))) := (ho_27 1004 (by omega)).trans hm4_26
  have hm5_27 : ct_27 1005 = some (rl ty 160 (fun _ => (0 : Int))) := (ho_27 1005 (by omega)).trans hm5_26
  have hm6_27 : ct_27 1006 = some (rl ty 160 (fun _ => (0 : Int))) := (ho_27 1006 (by omega)).trans hm6_26
  have hm7_27 : ct_27 1007 = some (rl ty 49 (fun _ => (0 : Int))) := (ho_27 1007 (by omega)).trans hm7_26
  have hm8_27 : ct_27 1008 = some (rl ty 7 (fun _ => (0 : Int))) := (ho_27 1008 (by omega)).trans hm8_26
  have hm9_27 : ct_27 1009 = some (ri ty 8 (fun _ => (0 : Int))) := (ho_27 1009 (by omega)).trans hm9_26
  have hm10_27 : ct_27 1010 = some (rl ty 8 (fun _ => (0 : Int))) := (ho_27 1010 (by omega)).trans hm10_26
  have hm11_27 : ct_27 1011 = some (rl ty 8 (fun _ => (0 : Int))) := (ho_27 1011 (by omega)).trans hm11_26
  have hm12_27 : ct_27 1012 = some (rl ty 8 (fun _ => (0 : Int))) := (ho_27 1012 (by omega)).trans hm12_26
  have hm13_27 : ct_27 1013 = some (rl ty 8 (fun _ => (0 : Int))) := (ho_27 1013 (by omega)).trans hm13_26
  have hab0_27 : ct_27 1015 = none := (ho_27 1015  (by omega)).trans hab1_26
  have hab1_27 : ct_27 1016 = none := (ho_27 1016  (by omega)).trans hab2_26
  refine rm_putF (ci := 6) (v := .ref (ad 1014)) (fty := .array .int) (C := RX6) (T := TX6) (N := 19) hx hb hts (by decide +kernel) tyX6 tyX6_ok nmX6 hown hK hW hS hm0_27 rfl 16 (by decide) (hts (.fieldLink RX6 51 "GrainYardModel" "to" "[I") (by decide +kernel)) (fun _ h9 => h9) rfl hin rfl (by decide +kernel) rfl rfl (Nat.le_of_ble_eq_true rfl) dX6_init_116 (fun H locs ct_28 hs_28 ho_28 hW hS hz_28 => ?_)
  have hs_28 : ct_28 1000 = some (.inr (6, [.int (jI 0), .int (jI 0), .int (jI 0), .ref (ad 1001), .ref (ad 1002), .ref (ad 1003), .ref (ad 1004), .ref (ad 1005), .ref (ad 1006), .ref (ad 1007), .ref (ad 1008), .ref (ad 1009), .ref (ad 1010), .ref (ad 1011), .ref (ad 1012), .ref (ad 1013), .ref (ad 1014), .null, .null]) : va_E) := hs_28
  have hof_28 : ∀ q, q ≠ 1000 → q ≠ 1001 → q ≠ 1002 → q ≠ 1003 → q ≠ 1004 → q ≠ 1005 → q ≠ 1006 → q ≠ 1007 → q ≠ 1008 → q ≠ 1009 → q ≠ 1010 → q ≠ 1011 → q ≠ 1012 → q ≠ 1013 → q ≠ 1014 → q ≠ 1015 → q ≠ 1016 → ct_28 q = ct q := fun q h0_28 h1_28 h2_28 h3_28 h4_28 h5_28 h6_28 h7_28 h8_28 h9_28 h10_28 h11_28 h12_28 h13_28 h14_28 h15_28 h16_28 => (ho_28 q h0_28).trans (hof_27 q h0_28 h1_28 h2_28 h3_28 h4_28 h5_28 h6_28 h7_28 h8_28 h9_28 h10_28 h11_28 h12_28 h13_28 h14_28 h15_28 h16_28)
  have hm1_28 : ct_28 1001 = some (ri ty 6 (fun _ => (0 : Int))) := (ho_28 1001 (by omega)).trans hm1_27
  have hm2_28 : ct_28 1002 = some (ri ty 384 (fun _ => (0 : Int))) := (ho_28 1002 (by omega)).trans hm2_27
  have hm3_28 : ct_28 1003 = some (ri ty 20 (fun _ => (0 : Int))) := (ho_28 1003 (by omega)).trans hm3_27
  have hm4_28 : ct_28 1004 = some (rz ty 6 (fun _ => (0 : Int))) := (ho_28 1004 (by omega)).trans hm4_27
  have hm5_28 : ct_28 1005 = some (rl ty 160 (fun _ => (0 : Int))) := (ho_28 1005 (by omega)).trans hm5_27
  have hm6_28 : ct_28 1006 = some (rl ty 160 (fun _ => (0 : Int))) := (ho_28 1006 (by omega)).trans hm6_27
  have hm7_28 : ct_28 1007 = some (rl ty 49 (fun _ => (0 : Int))) := (ho_28 1007 (by omega)).trans hm7_27
  have hm8_28 : ct_28 1008 = some (rl ty 7 (fun _ => (0 : Int))) := (ho_28 1008 (by omega)).trans hm8_27
  have hm9_28 : ct_28 1009 = some (ri ty 8 (fun _ => (0 : Int))) := (ho_28 1009 (by omega)).trans hm9_27
  have hm10_28 : ct_28 1010 = some (rl ty 8 (fun _ => (0 : Int))) := (ho_28 1010 (by omega)).trans hm10_27
  have hm11_28 : ct_28 1011 = some (rl ty 8 (fun _ => (0 : Int))) := (ho_28 1011 (by omega)).trans hm11_27
  have hm12_28 : ct_28 1012 = some (rl ty 8 (fun _ => (0 : Int))) := (ho_28 1012 (by omega)).trans hm12_27
  have hm13_28 : ct_28 1013 = some (rl ty 8 (fun _ => (0 : Int))) := (ho_28 1013 (by omega)).trans hm13_27
  have hm14_28 : ct_28 1014 = some (ri ty 8 (fun _ => (0 : Int))) := (ho_28 1014 (by omega)).trans hs_27
  have hab0_28 : ct_28 1015 = none := (ho_28 1015  (by omega)).trans hab0_27
  have hab1_28 : ct_28 1016 = none := (ho_28 1016  (by omega)).trans hab1_27
  refine lv_aload_n hx hb dX6_init_119 rfl (lv_at hl 0 rfl) ?_
  refine lv_bipush (v := jI 8) hx hb dX6_init_120 (by decide) ?_
  have hno_29 : ct_28 1015 = none := hab0_28
  refine rm_newA (atype := .int) (fty := .int) (k := 0) (N' := 8) (a0 := (8, .inl (fun _ => jI 0))) hx hb (hts (.arrayClass .int) (by decide +kernel)) rfl hK hW hS hA rfl (fun _ h9 => by cases h9) (fun _ => rfl) rfl (by decide) (by decide) 1015 hno_29 (by rw [show 1015 = 1000 + 15 from rfl, had0 15 (by omega) (by omega)]; omega) (Nat.le_of_ble_eq_true rfl) (Nat.le_of_ble_eq_true rfl) dX6_init_122 (fun H ct_29 hs_29 ho_29 hW hS hz_29 => ?_)
  have hs_29 : ct_29 1015 = some (ri ty 8 (fun _ => (0 : Int))) := hs_29
  have hof_29 : ∀ q, q ≠ 1000 → q ≠ 1001 → q ≠ 1002 → q ≠ 1003 → q ≠ 1004 → q ≠ 1005 → q ≠ 1006 → q ≠ 1007 → q ≠ 1008 → q ≠ 1009 → q ≠ 1010 → q ≠ 1011 → q ≠ 1012 → q ≠ 1013 → q ≠ 1014 → q ≠ 1015 → q ≠ 1016 → ct_29 q = ct q := fun q h0_29 h1_29 h2_29 h3_29 h4_29 h5_29 h6_29 h7_29 h8_29 h9_29 h10_29 h11_29 h12_29 h13_29 h14_29 h15_29 h16_29 => (ho_29 q h15_29).trans (hof_28 q h0_29 h1_29 h2_29 h3_29 h4_29 h5_29 h6_29 h7_29 h8_29 h9_29 h10_29 h11_29 h12_29 h13_29 h14_29 h15_29 h16_29)
  have hm0_29 : ct_29 1000 = some (.inr (6, [.int (jI 0), .int (jI 0), .int (jI 0), .ref (ad 1001), .ref (ad 1002), .ref (ad 1003), .ref (ad 1004), .ref (ad 1005), .ref (ad 1006), .ref (ad 1007), .ref (ad 1008), .ref (ad 1009), .ref (ad 1010), .ref (ad 1011), .ref (ad 1012), .ref (ad 1013), .ref (ad 1014), .null, .null]) : va_E) := (ho_29 1000 (by omega)).trans hs_28
  have hm1_29 : ct_29 1001 = some (ri ty 6 (fun _ => (0 : Int))) := (ho_29 1001 (by omega)).trans hm1_28
  have hm2_29 : ct_29 1002 = some (ri ty 384 (fun _ => (0 : Int))) := (ho_29 1002 (by omega)).trans hm2_28
  have hm3_29 : ct_29 1003 = some (ri ty 20 (fun _ => (0 : Int))) := (ho_29 1003 (by omega)).trans hm3_28
  have hm4_29 : ct_29 1004 = some (rz ty 6 (fun _ => (0 : Int))) := (ho_29 1004 (by omega)).trans hm4_28
  have hm5_29 : ct_29 1005 = some (rl ty 160 (fun _ => (0 : Int))) := (ho_29 1005 (by omega)).trans hm5_28
  have hm6_29 : ct_29 1006 = some (rl ty 160 (fun _ => (0 : Int))) := (ho_29 1006 (by omega)).trans hm6_28
  have hm7_29 : ct_29 1007 = some (rl ty 49 (fun _ => (0 : Int))) := (ho_29 1007 (by omega)).trans hm7_28
  have hm8_29 : ct_29 1008 = some (rl ty 7 (fun _ => (0 : Int))) := (ho_29 1008 (by omega)).trans hm8_28
  have hm9_29 : ct_29 1009 = some (ri ty 8 (fun _ => (0 : Int))) := (ho_29 1009 (by omega)).trans hm9_28
  have hm10_29 : ct_29 1010 = some (rl ty 8 (fun _ => (0 : Int))) := (ho_29 1010 (by omega)).trans hm10_28
  have hm11_29 : ct_29 1011 = some (rl ty 8 (fun _ => (0 : Int))) := (ho_29 1011 (by omega)).trans hm11_28
  have hm12_29 : ct_29 1012 = some (rl ty 8 (fun _ => (0 : Int))) := (ho_29 1012 (by omega)).trans hm12_28
  have hm13_29 : ct_29 1013 = some (rl ty 8 (fun _ => (0 : Int))) := (ho_29 1013 (by omega)).trans hm13_28
  have hm14_29 : ct_29 1014 = some (ri ty 8 (fun _ => (0 : Int))) := (ho_29 1014 (by omega)).trans hm14_28
  have hab0_29 : ct_29 1016 = none := (ho_29 1016  (by omega)).trans hab1_28
  refine rm_putF (ci := 6) (v := .ref (ad 1015)) (fty := .array .int) (C := RX6) (T := TX6) (N := 19) hx hb hts (by decide +kernel) tyX6 tyX6_ok nmX6 hown hK hW hS hm0_29 rfl 17 (by decide) (hts (.fieldLink RX6 54 "GrainYardModel" "by" "[I") (by decide +kernel)) (fun _ h9 => h9) rfl hin rfl (by decide +kernel) rfl rfl (Nat.le_of_ble_eq_true rfl) dX6_init_124 (fun H locs ct_30 hs_30 ho_30 hW hS hz_30 => ?_)
  have hs_30 : ct_30 1000 = some (.inr (6, [.int (jI 0), .int (jI 0), .int (jI 0), .ref (ad 1001), .ref (ad 1002), .ref (ad 1003), .ref (ad 1004), .ref (ad 1005), .ref (ad 1006), .ref (ad 1007), .ref (ad 1008), .ref (ad 1009), .ref (ad 1010), .ref (ad 1011), .ref (ad 1012), .ref (ad 1013), .ref (ad 1014), .ref (ad 1015), .null]) : va_E) := hs_30
  have hof_30 : ∀ q, q ≠ 1000 → q ≠ 1001 → q ≠ 1002 → q ≠ 1003 → q ≠ 1004 → q ≠ 1005 → q ≠ 1006 → q ≠ 1007 → q ≠ 1008 → q ≠ 1009 → q ≠ 1010 → q ≠ 1011 → q ≠ 1012 → q ≠ 1013 → q ≠ 1014 → q ≠ 1015 → q ≠ 1016 → ct_30 q = ct q := fun q h0_30 h1_30 h2_30 h3_30 h4_30 h5_30 h6_30 h7_30 h8_30 h9_30 h10_30 h11_30 h12_30 h13_30 h14_30 h15_30 h16_30 => (ho_30 q h0_30).trans (hof_29 q h0_30 h1_30 h2_30 h3_30 h4_30 h5_30 h6_30 h7_30 h8_30 h9_30 h10_30 h11_30 h12_30 h13_30 h14_30 h15_30 h16_30)
  have hm1_30 : ct_30 1001 = some (ri ty 6 (fun _ => (0 : Int))) := (ho_30 1001 (by omega)).trans hm1_29
  have hm2_30 : ct_30 1002 = some (ri ty 384 (fun _ => (0 : Int))) := (ho_30 1002 (by omega)).trans hm2_29
  have hm3_30 : ct_30 1003 = some (ri ty 20 (fun _ => (0 : Int))) := (ho_30 1003 (by omega)).trans hm3_29
  have hm4_30 : ct_30 1004 = some (rz ty 6 (fun _ => (0 : Int))) := (ho_30 1004 (by omega)).trans hm4_29
  have hm5_30 : ct_30 1005 = some (rl ty 160 (fun _ => (0 : Int))) := (ho_30 1005 (by omega)).trans hm5_29
  have hm6_30 : ct_30 1006 = some (rl ty 160 (fun _ => (0 : Int))) := (ho_30 1006 (by omega)).trans hm6_29
  have hm7_30 : ct_30 1007 = some (rl ty 49 (fun _ => (0 : Int))) := (ho_30 1007 (by omega)).trans hm7_29
  have hm8_30 : ct_30 1008 = some (rl ty 7 (fun _ => (0 : Int))) := (ho_30 1008 (by omega)).trans hm8_29
  have hm9_30 : ct_30 1009 = some (ri ty 8 (fun _ => (0 : Int))) := (ho_30 1009 (by omega)).trans hm9_29
  have hm10_30 : ct_30 1010 = some (rl ty 8 (fun _ => (0 : Int))) := (ho_30 1010 (by omega)).trans hm10_29
  have hm11_30 : ct_30 1011 = some (rl ty 8 (fun _ => (0 : Int))) := (ho_30 1011 (by omega)).trans hm11_29
  have hm12_30 : ct_30 1012 = some (rl ty 8 (fun _ => (0 : Int))) := (ho_30 1012 (by omega)).trans hm12_29
  have hm13_30 : ct_30 1013 = some (rl ty 8 (fun _ => (0 : Int))) := (ho_30 1013 (by omega)).trans hm13_29
  have hm14_30 : ct_30 1014 = some (ri ty 8 (fun _ => (0 : Int))) := (ho_30 1014 (by omega)).trans hm14_29
  have hm15_30 : ct_30 1015 = some (ri ty 8 (fun _ => (0 : Int))) := (ho_30 1015 (by omega)).trans hs_29
  have hab0_30 : ct_30 1016 = none := (ho_30 1016  (by omega)).trans hab0_29
  refine lv_aload_n hx hb dX6_init_127 rfl (lv_at hl 0 rfl) ?_
  refine lv_bipush (v := jI 8) hx hb dX6_init_128 (by decide) ?_
  have hno_31 : ct_30 1016 = none := hab0_30
  refine rm_newA (atype := .int) (fty := .int) (k := 0) (N' := 8) (a0 := (8, .inl (fun _ => jI 0))) hx hb (hts (.arrayClass .int) (by decide +kernel)) rfl hK hW hS hA rfl (fun _ h9 => by cases h9) (fun _ => rfl) rfl (by decide) (by decide) 1016 hno_31 (by rw [show 1016 = 1000 + 16 from rfl, had0 16 (by omega) (by omega)]; omega) (Nat.le_of_ble_eq_true rfl) (Nat.le_of_ble_eq_true rfl) dX6_init_130 (fun H ct_31 hs_31 ho_31 hW hS hz_31 => ?_)
  have hs_31 : ct_31 1016 = some (ri ty 8 (fun _ => (0 : Int))) := hs_31
  have hof_31 : ∀ q, q ≠ 1000 → q ≠ 1001 → q ≠ 1002 → q ≠ 1003 → q ≠ 1004 → q ≠ 1005 → q ≠ 1006 → q ≠ 1007 → q ≠ 1008 → q ≠ 1009 → q ≠ 1010 → q ≠ 1011 → q ≠ 1012 → q ≠ 1013 → q ≠ 1014 → q ≠ 1015 → q ≠ 1016 → ct_31 q = ct q := fun q h0_31 h1_31 h2_31 h3_31 h4_31 h5_31 h6_31 h7_31 h8_31 h9_31 h10_31 h11_31 h12_31 h13_31 h14_31 h15_31 h16_31 => (ho_31 q h16_31).trans (hof_30 q h0_31 h1_31 h2_31 h3_31 h4_31 h5_31 h6_31 h7_31 h8_31 h9_31 h10_31 h11_31 h12_31 h13_31 h14_31 h15_31 h16_31)
  have hm0_31 : ct_31 1000 = some (.inr (6, [.int (jI 0), .int (jI 0), .int (jI 0), .ref (ad 1001), .ref (ad 1002), .ref (ad 1003), .ref (ad 1004), .ref (ad 1005), .ref (ad 1006), .ref (ad 1007), .ref (ad 1008), .ref (ad 1009), .ref (ad 1010), .ref (ad 1011), .ref (ad 1012), .ref (ad 1013), .ref (ad 1014), .ref (ad 1015), .null]) : va_E) := (ho_31 1000 (by omega)).trans hs_30
  have hm1_31 : ct_31 1001 = some (ri ty 6 (fun _ => (0 : Int))) := (ho_31 1001 (by omega)).trans hm1_30
  have hm2_31 : ct_31 1002 = some (ri ty 384 (fun _ => (0 : Int))) := (ho_31 1002 (by omega)).trans hm2_30
  have hm3_31 : ct_31 1003 = some (ri ty 20 (fun _ => (0 : Int))) := (ho_31 1003 (by omega)).trans hm3_30
  have hm4_31 : ct_31 1004 = some (rz ty 6 (fun _ => (0 : Int))) := (ho_31 1004 (by omega)).trans hm4_30
  have hm5_31 : ct_31 1005 = some (rl ty 160 (fun _ => (0 : Int))) := (ho_31 1005 (by omega)).trans hm5_30
  have hm6_31 : ct_31 1006 = some (rl ty 160 (fun _ => (0 : Int))) := (ho_31 1006 (by omega)).trans hm6_30
  have hm7_31 : ct_31 1007 = some (rl ty 49 (fun _ => (0 : Int))) := (ho_31 1007 (by omega)).trans hm7_30
  have hm8_31 : ct_31 1008 = some (rl ty 7 (fun _ => (0 : Int))) := (ho_31 1008 (by omega)).trans hm8_30
  have hm9_31 : ct_31 1009 = some (ri ty 8 (fun _ => (0 : Int))) := (ho_31 1009 (by omega)).trans hm9_30
  have hm10_31 : ct_31 1010 = some (rl ty 8 (fun _ => (0 : Int))) := (ho_31 1010 (by omega)).trans hm10_30
  have hm11_31 : ct_31 1011 = some (rl ty 8 (fun _ => (0 : Int))) := (ho_31 1011 (by omega)).trans hm11_30
  have hm12_31 : ct_31 1012 = some (rl ty 8 (fun _ => (0 : Int))) := (ho_31 1012 (by omega)).trans hm12_30
  have hm13_31 : ct_31 1013 = some (rl ty 8 (fun _ => (0 : Int))) := (ho_31 1013 (by omega)).trans hm13_30
  have hm14_31 : ct_31 1014 = some (ri ty 8 (fun _ => (0 : Int))) := (ho_31 1014 (by omega)).trans hm14_30
  have hm15_31 : ct_31 1015 = some (ri ty 8 (fun _ => (0 : Int))) := (ho_31 1015 (by omega)).trans hm15_30
  refine rm_putF (ci := 6) (v := .ref (ad 1016)) (fty := .array .int) (C := RX6) (T := TX6) (N := 19) hx hb hts (by decide +kernel) tyX6 tyX6_ok nmX6 hown hK hW hS hm0_31 rfl 18 (by decide) (hts (.fieldLink RX6 57 "GrainYardModel" "deep" "[I") (by decide +kernel)) (fun _ h9 => h9) rfl hin rfl (by decide +kernel) rfl rfl (Nat.le_of_ble_eq_true rfl) dX6_init_132 (fun H locs ct_32 hs_32 ho_32 hW hS hz_32 => ?_)
  have hs_32 : ct_32 1000 = some (.inr (6, [.int (jI 0), .int (jI 0), .int (jI 0), .ref (ad 1001), .ref (ad 1002), .ref (ad 1003), .ref (ad 1004), .ref (ad 1005), .ref (ad 1006), .ref (ad 1007), .ref (ad 1008), .ref (ad 1009), .ref (ad 1010), .ref (ad 1011), .ref (ad 1012), .ref (ad 1013), .ref (ad 1014), .ref (ad 1015), .ref (ad 1016)]) : va_E) := hs_32
  have hof_32 : ∀ q, q ≠ 1000 → q ≠ 1001 → q ≠ 1002 → q ≠ 1003 → q ≠ 1004 → q ≠ 1005 → q ≠ 1006 → q ≠ 1007 → q ≠ 1008 → q ≠ 1009 → q ≠ 1010 → q ≠ 1011 → q ≠ 1012 → q ≠ 1013 → q ≠ 1014 → q ≠ 1015 → q ≠ 1016 → ct_32 q = ct q := fun q h0_32 h1_32 h2_32 h3_32 h4_32 h5_32 h6_32 h7_32 h8_32 h9_32 h10_32 h11_32 h12_32 h13_32 h14_32 h15_32 h16_32 => (ho_32 q h0_32).trans (hof_31 q h0_32 h1_32 h2_32 h3_32 h4_32 h5_32 h6_32 h7_32 h8_32 h9_32 h10_32 h11_32 h12_32 h13_32 h14_32 h15_32 h16_32)
  have hm1_32 : ct_32 1001 = some (ri ty 6 (fun _ => (0 : Int))) := (ho_32 1001 (by omega)).trans hm1_31
  have hm2_32 : ct_32 1002 = some (ri ty 384 (fun _ => (0 : Int))) := (ho_32 1002 (by omega)).trans hm2_31
  have hm3_32 : ct_32 1003 = some (ri ty 20 (fun _ => (0 : Int))) := (ho_32 1003 (by omega)).trans hm3_31
  have hm4_32 : ct_32 1004 = some (rz ty 6 (fun _ => (0 : Int))) := (ho_32 1004 (by omega)).trans hm4_31
  have hm5_32 : ct_32 1005 = some (rl ty 160 (fun _ => (0 : Int))) := (ho_32 1005 (by omega)).trans hm5_31
  have hm6_32 : ct_32 1006 = some (rl ty 160 (fun _ => (0 : Int))) := (ho_32 1006 (by omega)).trans hm6_31
  have hm7_32 : ct_32 1007 = some (rl ty 49 (fun _ => (0 : Int))) := (ho_32 1007 (by omega)).trans hm7_31
  have hm8_32 : ct_32 1008 = some (rl ty 7 (fun _ => (0 : Int))) := (ho_32 1008 (by omega)).trans hm8_31
  have hm9_32 : ct_32 1009 = some (ri ty 8 (fun _ => (0 : Int))) := (ho_32 1009 (by omega)).trans hm9_31
  have hm10_32 : ct_32 1010 = some (rl ty 8 (fun _ => (0 : Int))) := (ho_32 1010 (by omega)).trans hm10_31
  have hm11_32 : ct_32 1011 = some (rl ty 8 (fun _ => (0 : Int))) := (ho_32 1011 (by omega)).trans hm11_31
  have hm12_32 : ct_32 1012 = some (rl ty 8 (fun _ => (0 : Int))) := (ho_32 1012 (by omega)).trans hm12_31
  have hm13_32 : ct_32 1013 = some (rl ty 8 (fun _ => (0 : Int))) := (ho_32 1013 (by omega)).trans hm13_31
  have hm14_32 : ct_32 1014 = some (ri ty 8 (fun _ => (0 : Int))) := (ho_32 1014 (by omega)).trans hm14_31
  have hm15_32 : ct_32 1015 = some (ri ty 8 (fun _ => (0 : Int))) := (ho_32 1015 (by omega)).trans hm15_31
  have hm16_32 : ct_32 1016 = some (ri ty 8 (fun _ => (0 : Int))) := (ho_32 1016 (by omega)).trans hs_31
  refine W.widen (k := 16) (n := 856) (by omega) (by omega) ?_
  exact W.vret hx hb hr (fun t ht hw => ⟨⟨ct_32, rfl, ⟨⟨fun _ _ => 0, fun _ => 0, fun _ => 0, fun _ => 0, fun _ => 0, fun _ => 0, fun _ => 0, fun _ => 0, fun _ => 0, fun _ => 0, ⟨hs_32, hm1_32, hm2_32, hm3_32, hm4_32, hm5_32, hm6_32, hm7_32, hm8_32, hm9_32, hm10_32, hm11_32, hm12_32, hm13_32, hm14_32, hm15_32, hm16_32⟩⟩, fun q hq => hof_32 q (by omega) (by omega) (by omega) (by omega) (by omega) (by omega) (by omega) (by omega) (by omega) (by omega) (by omega) (by omega) (by omega) (by omega) (by omega) (by omega) (by omega)⟩, by show rm_W D ad _ _ t.heap; rw [ht]; exact hW, Or.inr (by rw [ht]; omega)⟩, hS.F ht⟩) hS.2.2 dX6_init_135
