theorem ub_nop {f : Nat → Nat → Int} {h9 : Nat} {X : Nat → Int} (h : X = f h9) : ub f h9 X = f := by rw [h, ub_self]
set_option maxHeartbeats 4000000 in
set_option maxRecDepth 100000 in
theorem c_X6_become (l : Launch) (D : va_G) (ty : Nat → ClassId) (ad : Nat → Nat) (ct : rm_C) (sz : Nat) (th : Int) (yc hc : Nat) (yn : Nat → Nat) (yM : Nat → Nat → Nat → Int) (yu : Nat → Int) (hy : Nat → Nat) (hg hf mA : Nat → Nat → Int) (pt ro ke kt mu sl tw bw de : Nat → Int) (hMo : ModAt ty ad ct th yc hc yn yM yu hy hg hf mA pt ro ke kt mu sl tw bw de) (hb20 : yc ≤ 6 ∧ hc ≤ 20) (hyn : ∀ y, y < yc → 2 ≤ yn y ∧ yn y ≤ 8) (hyM : ∀ y, y < yc → ∀ i j, 0 ≤ yM y i j ∧ yM y i j ≤ 3) (hhy : ∀ h, h < hc → hy h < yc) (hgr : ∀ h, h < hc → ∀ q, 1 ≤ q → q < yn (hy h) → 0 ≤ hg h q ∧ hg h q ≤ 1000000000) (hst : ∀ h, h < hc → mst9 (yn (hy h)) (yM (hy h)) ∧ psum (yn (hy h)) (hg h) ≤ 900000000) (hys : ∀ h, h < hc → yst (yn (hy h)) (yM (hy h))) (z9 w9 : Int) (hz9 : r32 z9) (hw9 : r32 w9) : Met l yX6_become wsX6_become ({ frames := 7, cells := 0, slots := 0, locals := 164 }) (rm_P D ty ad ct sz [.ref (ad 1000), .int (jI z9), .int (jI w9)]) (rm_Qv D ad ct sz 0 (fun ct1 => (∀ q, (q < 1000 ∨ 1016 < q) → ct1 q = ct q) ∧ ((((z9 < 0 ∨ ((hc : Nat) : Int) ≤ z9) ∨ (w9 < 0 ∨ 4 < w9)) ∧ ModX ty ad ct1 1 yc hc yn yM yu hy hg hf) ∨ ∃ h9 : Nat, z9 = (h9 : Int) ∧ h9 < hc ∧ ∃ w, bcm (yn (hy h9)) (yM (hy h9)) (dg (yn (hy h9)) (yM (hy h9))) (hg h9) w9 w ∧ ModX ty ad ct1 0 yc hc yn yM yu hy (us hg h9 (tkn (yn (hy h9)) w (hg h9))) hf))) 0 0 (rm_A ad ct sz) := by
  refine Met.ofW (cc := cX6_become) (maxL := 4) (ret := none) (by decide) rfl ?_
  intro p e s m args below meth c s₁ B hml hv
  obtain ⟨hargs, hsz, hW, hK, hNw⟩ := hv
  have hx := B.exec
  have hb := B.bytes
  have hr := B.returns
  have hts := atoms_spec (ws := wsX6_become) B.pre
  have hown : s.vm.findClass RX6 = some m.cls := findClass_of_methodNamed B.named
  have hlocks := B.notSynchronized
  subst hsz
  have hW := hW.own (sz := s.heap.size)
  have hA : ∀ q : Nat, s.heap.size ≤ q → rm_A ad ct s.heap.size q := fun q h => Or.inr h
  have hS : va_S (rm_A ad ct s.heap.size) s.heap s.heap [] := va_S.rf
  have hent : entryFrame m args 4 = entryFrame m ([.ref (ad 1000), .int (jI z9), .int (jI w9)] : List Value).toArray 4 := by rw [hargs]
  have hl := lv_entry ([.ref (ad 1000), .int (jI z9), .int (jI w9)]) (n := 4) (Nat.le_of_ble_eq_true rfl)
  rw [hent, lg_entry_eq]
  generalize (lg_sl ([.ref (ad 1000), .int (jI z9), .int (jI w9)]) ++ List.replicate (4 - (lg_sl ([.ref (ad 1000), .int (jI z9), .int (jI w9)])).length) Slot.unset).toArray = ls at hl ⊢
  have hl : lv_has ls 4 [(0, .ref (ad 1000)), (1, .int (jI z9)), (2, .int (jI w9))] := hl
  refine lv_aload_n hx hb dX6_become_0 rfl (lv_at hl 0 rfl) ?_
  refine lv_iload_n hx hb dX6_become_1 rfl (lv_at hl 1 rfl) ?_
  refine rm_calli (va_runV (As := [.int (jI z9)]) (rest := []) ⟨hx, hb, hml, hown, hts⟩ (c_X6_isHeap l D ty ad ct s.heap.size th yc hc yn yM yu hy hg hf mA pt ro ke kt mu sl tw bw de hMo z9 hz9 hb20) (cwV 1 hts gX6_become_X6_isHeap rfl rfl rfl (by decide +kernel) ⟨Nat.le_of_ble_eq_true rfl, Nat.le_of_ble_eq_true rfl⟩) (rm_preV hK hNw hW hMo.1 rfl) rfl rfl hl.1 rfl (lv_room (Nat.le_of_ble_eq_true rfl)) dX6_become_2 ⟨Nat.zero_le _, Nat.zero_le _⟩) hW hS hA (fun z_1 ct_1 H locs hq_1 hW hS => ?_)
  obtain ⟨hqo, hqc⟩ := hq_1
  rcases hqc with ⟨hbad, hz, hqs⟩ | ⟨hp1, hp2, hz, hqs⟩
  · skip
    subst hz
    have ho_1 : ∀ q, q ≠ 1000 → ct_1 q = ct q := hqo
    have hof_1 : ∀ q, q ≠ 1000 → q ≠ 1005 → q ≠ 1006 → q ≠ 1010 → q ≠ 1011 → q ≠ 1012 → q ≠ 1013 → ct_1 q = ct q := fun q h0_1 h1_1 h2_1 h3_1 h4_1 h5_1 h6_1 => (ho_1 q h0_1).trans rfl
    have hm0_1 : ct_1 1000 = some (.inr (6, [.int (jI 1), .int (jI ((yc : Nat) : Int)), .int (jI ((hc : Nat) : Int)), .ref (ad 1001), .ref (ad 1002), .ref (ad 1003), .ref (ad 1004), .ref (ad 1005), .ref (ad 1006), .ref (ad 1007), .ref (ad 1008), .ref (ad 1009), .ref (ad 1010), .ref (ad 1011), .ref (ad 1012), .ref (ad 1013), .ref (ad 1014), .ref (ad 1015), .ref (ad 1016)]) : va_E) := hqs
    have hm1_1 : ct_1 1005 = some (rl ty 160 (fl 8 hg)) := (ho_1 1005 (by omega)).trans hMo.2.2.2.2.2.1
    have hm2_1 : ct_1 1006 = some (rl ty 160 (fl 8 hf)) := (ho_1 1006 (by omega)).trans hMo.2.2.2.2.2.2.1
    have hm3_1 : ct_1 1010 = some (rl ty 8 ke) := (ho_1 1010 (by omega)).trans hMo.2.2.2.2.2.2.2.2.2.2.1
    have hm4_1 : ct_1 1011 = some (rl ty 8 kt) := (ho_1 1011 (by omega)).trans hMo.2.2.2.2.2.2.2.2.2.2.2.1
    have hm5_1 : ct_1 1012 = some (rl ty 8 mu) := (ho_1 1012 (by omega)).trans hMo.2.2.2.2.2.2.2.2.2.2.2.2.1
    have hm6_1 : ct_1 1013 = some (rl ty 8 sl) := (ho_1 1013 (by omega)).trans hMo.2.2.2.2.2.2.2.2.2.2.2.2.2.1
    refine rm_if_eq (tgt := 30) hx hb ⟨by omega, by omega⟩ dX6_become_5 (by decide) (fun _ => ?_) (fun hq => absurd hq (by omega))
    exact W.vret hx hb hr (fun t ht hw => ⟨⟨ct_1, rfl, ⟨(fun q hq9 => hof_1 q (by omega) (by omega) (by omega) (by omega) (by omega) (by omega) (by omega)), Or.inl ⟨Or.inl hbad, ⟨mA, pt, ro, ke, kt, mu, sl, tw, bw, de, ⟨hm0_1, ((hof_1 1001 (by omega) (by omega) (by omega) (by omega) (by omega) (by omega) (by omega)).trans hMo.2.1), ((hof_1 1002 (by omega) (by omega) (by omega) (by omega) (by omega) (by omega) (by omega)).trans hMo.2.2.1), ((hof_1 1003 (by omega) (by omega) (by omega) (by omega) (by omega) (by omega) (by omega)).trans hMo.2.2.2.1), ((hof_1 1004 (by omega) (by omega) (by omega) (by omega) (by omega) (by omega) (by omega)).trans hMo.2.2.2.2.1), hm1_1, hm2_1, ((hof_1 1007 (by omega) (by omega) (by omega) (by omega) (by omega) (by omega) (by omega)).trans hMo.2.2.2.2.2.2.2.1), ((hof_1 1008 (by omega) (by omega) (by omega) (by omega) (by omega) (by omega) (by omega)).trans hMo.2.2.2.2.2.2.2.2.1), ((hof_1 1009 (by omega) (by omega) (by omega) (by omega) (by omega) (by omega) (by omega)).trans hMo.2.2.2.2.2.2.2.2.2.1), hm3_1, hm4_1, hm5_1, hm6_1, ((hof_1 1014 (by omega) (by omega) (by omega) (by omega) (by omega) (by omega) (by omega)).trans hMo.2.2.2.2.2.2.2.2.2.2.2.2.2.2.1), ((hof_1 1015 (by omega) (by omega) (by omega) (by omega) (by omega) (by omega) (by omega)).trans hMo.2.2.2.2.2.2.2.2.2.2.2.2.2.2.2.1), ((hof_1 1016 (by omega) (by omega) (by omega) (by omega) (by omega) (by omega) (by omega)).trans hMo.2.2.2.2.2.2.2.2.2.2.2.2.2.2.2.2)⟩⟩⟩⟩, by show rm_W D ad _ _ t.heap; rw [ht]; exact hW, Or.inl rfl⟩, hS.F ht⟩) hS.2.2 dX6_become_30
  · skip
    subst hz
    have ho_1 : ∀ q, q ≠ 1000 → ct_1 q = ct q := hqo
    have hof_1 : ∀ q, q ≠ 1000 → q ≠ 1005 → q ≠ 1006 → q ≠ 1010 → q ≠ 1011 → q ≠ 1012 → q ≠ 1013 → ct_1 q = ct q := fun q h0_1 h1_1 h2_1 h3_1 h4_1 h5_1 h6_1 => (ho_1 q h0_1).trans rfl
    have hm0_1 : ct_1 1000 = some (.inr (6, [.int (jI 0), .int (jI ((yc : Nat) : Int)), .int (jI ((hc : Nat) : Int)), .ref (ad 1001), .ref (ad 1002), .ref (ad 1003), .ref (ad 1004), .ref (ad 1005), .ref (ad 1006), .ref (ad 1007), .ref (ad 1008), .ref (ad 1009), .ref (ad 1010), .ref (ad 1011), .ref (ad 1012), .ref (ad 1013), .ref (ad 1014), .ref (ad 1015), .ref (ad 1016)]) : va_E) := hqs
    have hm1_1 : ct_1 1005 = some (rl ty 160 (fl 8 hg)) := (ho_1 1005 (by omega)).trans hMo.2.2.2.2.2.1
    have hm2_1 : ct_1 1006 = some (rl ty 160 (fl 8 hf)) := (ho_1 1006 (by omega)).trans hMo.2.2.2.2.2.2.1
    have hm3_1 : ct_1 1010 = some (rl ty 8 ke) := (ho_1 1010 (by omega)).trans hMo.2.2.2.2.2.2.2.2.2.2.1
    have hm4_1 : ct_1 1011 = some (rl ty 8 kt) := (ho_1 1011 (by omega)).trans hMo.2.2.2.2.2.2.2.2.2.2.2.1
    have hm5_1 : ct_1 1012 = some (rl ty 8 mu) := (ho_1 1012 (by omega)).trans hMo.2.2.2.2.2.2.2.2.2.2.2.2.1
    have hm6_1 : ct_1 1013 = some (rl ty 8 sl) := (ho_1 1013 (by omega)).trans hMo.2.2.2.2.2.2.2.2.2.2.2.2.2.1
    obtain ⟨h9, hn_h9⟩ : ∃ h9 : Nat, z9 = (h9 : Int) := ⟨z9.toNat, by omega⟩
    subst hn_h9
    have hh9 : h9 < hc := by omega
    have hyh := hhy h9 hh9
    have hn8 := hyn (hy h9) hyh
    have hM8 := hyM (hy h9) hyh
    refine rm_if_eq (tgt := 30) hx hb ⟨by omega, by omega⟩ dX6_become_5 (by decide) (fun hq => absurd hq (by omega)) (fun _ => ?_)
    refine lv_aload_n hx hb dX6_become_8 rfl (lv_at hl 0 rfl) ?_
    refine lv_iload_n hx hb dX6_become_9 rfl (lv_at hl 2 rfl) ?_
    refine rm_if_lt (tgt := 22) hx hb ⟨by omega, by omega⟩ dX6_become_10 (by decide) (fun hc_2 => ?_) (fun hc_2 => ?_)
    · skip
      refine lv_iconst (v := jI 0) hx hb dX6_become_22 rfl ?_
      refine lv_iconst (v := jI 1) hx hb dX6_become_23 rfl ?_
      refine rm_calli (va_runV (As := [.int (jI 0), .int (jI 1)]) (rest := []) ⟨hx, hb, hml, hown, hts⟩ (c_X6_right l D ty ad ct_1 H.size 0 yc hc yn yM yu hy hg hf mA pt ro ke kt mu sl tw bw de ⟨hm0_1, ((hof_1 1001 (by omega) (by omega) (by omega) (by omega) (by omega) (by omega) (by omega)).trans hMo.2.1), ((hof_1 1002 (by omega) (by omega) (by omega) (by omega) (by omega) (by omega) (by omega)).trans hMo.2.2.1), ((hof_1 1003 (by omega) (by omega) (by omega) (by omega) (by omega) (by omega) (by omega)).trans hMo.2.2.2.1), ((hof_1 1004 (by omega) (by omega) (by omega) (by omega) (by omega) (by omega) (by omega)).trans hMo.2.2.2.2.1), hm1_1, hm2_1, ((hof_1 1007 (by omega) (by omega) (by omega) (by omega) (by omega) (by omega) (by omega)).trans hMo.2.2.2.2.2.2.2.1), ((hof_1 1008 (by omega) (by omega) (by omega) (by omega) (by omega) (by omega) (by omega)).trans hMo.2.2.2.2.2.2.2.2.1), ((hof_1 1009 (by omega) (by omega) (by omega) (by omega) (by omega) (by omega) (by omega)).trans hMo.2.2.2.2.2.2.2.2.2.1), hm3_1, hm4_1, hm5_1, hm6_1, ((hof_1 1014 (by omega) (by omega) (by omega) (by omega) (by omega) (by omega) (by omega)).trans hMo.2.2.2.2.2.2.2.2.2.2.2.2.2.2.1), ((hof_1 1015 (by omega) (by omega) (by omega) (by omega) (by omega) (by omega) (by omega)).trans hMo.2.2.2.2.2.2.2.2.2.2.2.2.2.2.2.1), ((hof_1 1016 (by omega) (by omega) (by omega) (by omega) (by omega) (by omega) (by omega)).trans hMo.2.2.2.2.2.2.2.2.2.2.2.2.2.2.2.2)⟩ 0 1 r32_0 (by omega) (by omega)) (cwV 2 hts gX6_become_X6_right rfl rfl rfl (by decide +kernel) ⟨Nat.le_of_ble_eq_true rfl, Nat.le_of_ble_eq_true rfl⟩) (rm_preV hK hNw hW hm0_1 rfl) rfl rfl hl.1 rfl (lv_room (Nat.le_of_ble_eq_true rfl)) dX6_become_24 ⟨Nat.zero_le _, Nat.zero_le _⟩) hW hS hA (fun z_3 ct_3 H locs hq_3 hW hS => ?_)
      obtain ⟨t9, ht9, hz, hq1, hq2⟩ := hq_3
      rw [if_pos (by decide)] at ht9
      subst ht9
      rw [if_neg (by omega)] at hz
      subst hz
      have ho_3 : ∀ q, q ≠ 1000 → ct_3 q = ct_1 q := hq2
      have hof_3 : ∀ q, q ≠ 1000 → q ≠ 1005 → q ≠ 1006 → q ≠ 1010 → q ≠ 1011 → q ≠ 1012 → q ≠ 1013 → ct_3 q = ct q := fun q h0_3 h1_3 h2_3 h3_3 h4_3 h5_3 h6_3 => (ho_3 q h0_3).trans (hof_1 q h0_3 h1_3 h2_3 h3_3 h4_3 h5_3 h6_3)
      have hm0_3 : ct_3 1000 = some (.inr (6, [.int (jI 1), .int (jI ((yc : Nat) : Int)), .int (jI ((hc : Nat) : Int)), .ref (ad 1001), .ref (ad 1002), .ref (ad 1003), .ref (ad 1004), .ref (ad 1005), .ref (ad 1006), .ref (ad 1007), .ref (ad 1008), .ref (ad 1009), .ref (ad 1010), .ref (ad 1011), .ref (ad 1012), .ref (ad 1013), .ref (ad 1014), .ref (ad 1015), .ref (ad 1016)]) : va_E) := hq1
      have hm1_3 : ct_3 1005 = some (rl ty 160 (fl 8 hg)) := (ho_3 1005 (by omega)).trans hm1_1
      have hm2_3 : ct_3 1006 = some (rl ty 160 (fl 8 hf)) := (ho_3 1006 (by omega)).trans hm2_1
      have hm3_3 : ct_3 1010 = some (rl ty 8 ke) := (ho_3 1010 (by omega)).trans hm3_1
      have hm4_3 : ct_3 1011 = some (rl ty 8 kt) := (ho_3 1011 (by omega)).trans hm4_1
      have hm5_3 : ct_3 1012 = some (rl ty 8 mu) := (ho_3 1012 (by omega)).trans hm5_1
      have hm6_3 : ct_3 1013 = some (rl ty 8 sl) := (ho_3 1013 (by omega)).trans hm6_1
      refine rm_if_ne (tgt := 31) hx hb ⟨by omega, by omega⟩ dX6_become_27 (by decide) (fun hq => absurd hq (by omega)) (fun _ => ?_)
      exact W.vret hx hb hr (fun t ht hw => ⟨⟨ct_3, rfl, ⟨(fun q hq9 => hof_3 q (by omega) (by omega) (by omega) (by omega) (by omega) (by omega) (by omega)), Or.inl ⟨Or.inr (by omega), ⟨mA, pt, ro, ke, kt, mu, sl, tw, bw, de, ⟨hm0_3, ((hof_3 1001 (by omega) (by omega) (by omega) (by omega) (by omega) (by omega) (by omega)).trans hMo.2.1), ((hof_3 1002 (by omega) (by omega) (by omega) (by omega) (by omega) (by omega) (by omega)).trans hMo.2.2.1), ((hof_3 1003 (by omega) (by omega) (by omega) (by omega) (by omega) (by omega) (by omega)).trans hMo.2.2.2.1), ((hof_3 1004 (by omega) (by omega) (by omega) (by omega) (by omega) (by omega) (by omega)).trans hMo.2.2.2.2.1), hm1_3, hm2_3, ((hof_3 1007 (by omega) (by omega) (by omega) (by omega) (by omega) (by omega) (by omega)).trans hMo.2.2.2.2.2.2.2.1), ((hof_3 1008 (by omega) (by omega) (by omega) (by omega) (by omega) (by omega) (by omega)).trans hMo.2.2.2.2.2.2.2.2.1), ((hof_3 1009 (by omega) (by omega) (by omega) (by omega) (by omega) (by omega) (by omega)).trans hMo.2.2.2.2.2.2.2.2.2.1), hm3_3, hm4_3, hm5_3, hm6_3, ((hof_3 1014 (by omega) (by omega) (by omega) (by omega) (by omega) (by omega) (by omega)).trans hMo.2.2.2.2.2.2.2.2.2.2.2.2.2.2.1), ((hof_3 1015 (by omega) (by omega) (by omega) (by omega) (by omega) (by omega) (by omega)).trans hMo.2.2.2.2.2.2.2.2.2.2.2.2.2.2.2.1), ((hof_3 1016 (by omega) (by omega) (by omega) (by omega) (by omega) (by omega) (by omega)).trans hMo.2.2.2.2.2.2.2.2.2.2.2.2.2.2.2.2)⟩⟩⟩⟩, by show rm_W D ad _ _ t.heap; rw [ht]; exact hW, Or.inl rfl⟩, hS.F ht⟩) hS.2.2 dX6_become_30
    · skip
      refine lv_iload_n hx hb dX6_become_13 rfl (lv_at hl 2 rfl) ?_
      refine lv_iconst (v := jI 4) hx hb dX6_become_14 rfl ?_
      refine rm_icmp_gt (tgt := 22) hx hb ⟨by omega, by omega⟩ ⟨by omega, by omega⟩ dX6_become_15 (by decide) (fun hc_4 => ?_) (fun hc_4 => ?_)
      · skip
        refine lv_iconst (v := jI 0) hx hb dX6_become_22 rfl ?_
        refine lv_iconst (v := jI 1) hx hb dX6_become_23 rfl ?_
        refine rm_calli (va_runV (As := [.int (jI 0), .int (jI 1)]) (rest := []) ⟨hx, hb, hml, hown, hts⟩ (c_X6_right l D ty ad ct_1 H.size 0 yc hc yn yM yu hy hg hf mA pt ro ke kt mu sl tw bw de ⟨hm0_1, ((hof_1 1001 (by omega) (by omega) (by omega) (by omega) (by omega) (by omega) (by omega)).trans hMo.2.1), ((hof_1 1002 (by omega) (by omega) (by omega) (by omega) (by omega) (by omega) (by omega)).trans hMo.2.2.1), ((hof_1 1003 (by omega) (by omega) (by omega) (by omega) (by omega) (by omega) (by omega)).trans hMo.2.2.2.1), ((hof_1 1004 (by omega) (by omega) (by omega) (by omega) (by omega) (by omega) (by omega)).trans hMo.2.2.2.2.1), hm1_1, hm2_1, ((hof_1 1007 (by omega) (by omega) (by omega) (by omega) (by omega) (by omega) (by omega)).trans hMo.2.2.2.2.2.2.2.1), ((hof_1 1008 (by omega) (by omega) (by omega) (by omega) (by omega) (by omega) (by omega)).trans hMo.2.2.2.2.2.2.2.2.1), ((hof_1 1009 (by omega) (by omega) (by omega) (by omega) (by omega) (by omega) (by omega)).trans hMo.2.2.2.2.2.2.2.2.2.1), hm3_1, hm4_1, hm5_1, hm6_1, ((hof_1 1014 (by omega) (by omega) (by omega) (by omega) (by omega) (by omega) (by omega)).trans hMo.2.2.2.2.2.2.2.2.2.2.2.2.2.2.1), ((hof_1 1015 (by omega) (by omega) (by omega) (by omega) (by omega) (by omega) (by omega)).trans hMo.2.2.2.2.2.2.2.2.2.2.2.2.2.2.2.1), ((hof_1 1016 (by omega) (by omega) (by omega) (by omega) (by omega) (by omega) (by omega)).trans hMo.2.2.2.2.2.2.2.2.2.2.2.2.2.2.2.2)⟩ 0 1 r32_0 (by omega) (by omega)) (cwV 2 hts gX6_become_X6_right rfl rfl rfl (by decide +kernel) ⟨Nat.le_of_ble_eq_true rfl, Nat.le_of_ble_eq_true rfl⟩) (rm_preV hK hNw hW hm0_1 rfl) rfl rfl hl.1 rfl (lv_room (Nat.le_of_ble_eq_true rfl)) dX6_become_24 ⟨Nat.zero_le _, Nat.zero_le _⟩) hW hS hA (fun z_5 ct_5 H locs hq_5 hW hS => ?_)
        obtain ⟨t9, ht9, hz, hq1, hq2⟩ := hq_5
        rw [if_pos (by decide)] at ht9
        subst ht9
        rw [if_neg (by omega)] at hz
        subst hz
        have ho_5 : ∀ q, q ≠ 1000 → ct_5 q = ct_1 q := hq2
        have hof_5 : ∀ q, q ≠ 1000 → q ≠ 1005 → q ≠ 1006 → q ≠ 1010 → q ≠ 1011 → q ≠ 1012 → q ≠ 1013 → ct_5 q = ct q := fun q h0_5 h1_5 h2_5 h3_5 h4_5 h5_5 h6_5 => (ho_5 q h0_5).trans (hof_1 q h0_5 h1_5 h2_5 h3_5 h4_5 h5_5 h6_5)
        have hm0_5 : ct_5 1000 = some (.inr (6, [.int (jI 1), .int (jI ((yc : Nat) : Int)), .int (jI ((hc : Nat) : Int)), .ref (ad 1001), .ref (ad 1002), .ref (ad 1003), .ref (ad 1004), .ref (ad 1005), .ref (ad 1006), .ref (ad 1007), .ref (ad 1008), .ref (ad 1009), .ref (ad 1010), .ref (ad 1011), .ref (ad 1012), .ref (ad 1013), .ref (ad 1014), .ref (ad 1015), .ref (ad 1016)]) : va_E) := hq1
        have hm1_5 : ct_5 1005 = some (rl ty 160 (fl 8 hg)) := (ho_5 1005 (by omega)).trans hm1_1
        have hm2_5 : ct_5 1006 = some (rl ty 160 (fl 8 hf)) := (ho_5 1006 (by omega)).trans hm2_1
        have hm3_5 : ct_5 1010 = some (rl ty 8 ke) := (ho_5 1010 (by omega)).trans hm3_1
        have hm4_5 : ct_5 1011 = some (rl ty 8 kt) := (ho_5 1011 (by omega)).trans hm4_1
        have hm5_5 : ct_5 1012 = some (rl ty 8 mu) := (ho_5 1012 (by omega)).trans hm5_1
        have hm6_5 : ct_5 1013 = some (rl ty 8 sl) := (ho_5 1013 (by omega)).trans hm6_1
        refine rm_if_ne (tgt := 31) hx hb ⟨by omega, by omega⟩ dX6_become_27 (by decide) (fun hq => absurd hq (by omega)) (fun _ => ?_)
        exact W.vret hx hb hr (fun t ht hw => ⟨⟨ct_5, rfl, ⟨(fun q hq9 => hof_5 q (by omega) (by omega) (by omega) (by omega) (by omega) (by omega) (by omega)), Or.inl ⟨Or.inr (by omega), ⟨mA, pt, ro, ke, kt, mu, sl, tw, bw, de, ⟨hm0_5, ((hof_5 1001 (by omega) (by omega) (by omega) (by omega) (by omega) (by omega) (by omega)).trans hMo.2.1), ((hof_5 1002 (by omega) (by omega) (by omega) (by omega) (by omega) (by omega) (by omega)).trans hMo.2.2.1), ((hof_5 1003 (by omega) (by omega) (by omega) (by omega) (by omega) (by omega) (by omega)).trans hMo.2.2.2.1), ((hof_5 1004 (by omega) (by omega) (by omega) (by omega) (by omega) (by omega) (by omega)).trans hMo.2.2.2.2.1), hm1_5, hm2_5, ((hof_5 1007 (by omega) (by omega) (by omega) (by omega) (by omega) (by omega) (by omega)).trans hMo.2.2.2.2.2.2.2.1), ((hof_5 1008 (by omega) (by omega) (by omega) (by omega) (by omega) (by omega) (by omega)).trans hMo.2.2.2.2.2.2.2.2.1), ((hof_5 1009 (by omega) (by omega) (by omega) (by omega) (by omega) (by omega) (by omega)).trans hMo.2.2.2.2.2.2.2.2.2.1), hm3_5, hm4_5, hm5_5, hm6_5, ((hof_5 1014 (by omega) (by omega) (by omega) (by omega) (by omega) (by omega) (by omega)).trans hMo.2.2.2.2.2.2.2.2.2.2.2.2.2.2.1), ((hof_5 1015 (by omega) (by omega) (by omega) (by omega) (by omega) (by omega) (by omega)).trans hMo.2.2.2.2.2.2.2.2.2.2.2.2.2.2.2.1), ((hof_5 1016 (by omega) (by omega) (by omega) (by omega) (by omega) (by omega) (by omega)).trans hMo.2.2.2.2.2.2.2.2.2.2.2.2.2.2.2.2)⟩⟩⟩⟩, by show rm_W D ad _ _ t.heap; rw [ht]; exact hW, Or.inl rfl⟩, hS.F ht⟩) hS.2.2 dX6_become_30
      · skip
        refine lv_iconst (v := jI 1) hx hb dX6_become_18 rfl ?_
        refine lv_goto (tgt := 23) hx hb dX6_become_19 (by decide) ?_
        refine lv_iconst (v := jI 1) hx hb dX6_become_23 rfl ?_
        refine rm_calli (va_runV (As := [.int (jI 1), .int (jI 1)]) (rest := []) ⟨hx, hb, hml, hown, hts⟩ (c_X6_right l D ty ad ct_1 H.size 0 yc hc yn yM yu hy hg hf mA pt ro ke kt mu sl tw bw de ⟨hm0_1, ((hof_1 1001 (by omega) (by omega) (by omega) (by omega) (by omega) (by omega) (by omega)).trans hMo.2.1), ((hof_1 1002 (by omega) (by omega) (by omega) (by omega) (by omega) (by omega) (by omega)).trans hMo.2.2.1), ((hof_1 1003 (by omega) (by omega) (by omega) (by omega) (by omega) (by omega) (by omega)).trans hMo.2.2.2.1), ((hof_1 1004 (by omega) (by omega) (by omega) (by omega) (by omega) (by omega) (by omega)).trans hMo.2.2.2.2.1), hm1_1, hm2_1, ((hof_1 1007 (by omega) (by omega) (by omega) (by omega) (by omega) (by omega) (by omega)).trans hMo.2.2.2.2.2.2.2.1), ((hof_1 1008 (by omega) (by omega) (by omega) (by omega) (by omega) (by omega) (by omega)).trans hMo.2.2.2.2.2.2.2.2.1), ((hof_1 1009 (by omega) (by omega) (by omega) (by omega) (by omega) (by omega) (by omega)).trans hMo.2.2.2.2.2.2.2.2.2.1), hm3_1, hm4_1, hm5_1, hm6_1, ((hof_1 1014 (by omega) (by omega) (by omega) (by omega) (by omega) (by omega) (by omega)).trans hMo.2.2.2.2.2.2.2.2.2.2.2.2.2.2.1), ((hof_1 1015 (by omega) (by omega) (by omega) (by omega) (by omega) (by omega) (by omega)).trans hMo.2.2.2.2.2.2.2.2.2.2.2.2.2.2.2.1), ((hof_1 1016 (by omega) (by omega) (by omega) (by omega) (by omega) (by omega) (by omega)).trans hMo.2.2.2.2.2.2.2.2.2.2.2.2.2.2.2.2)⟩ 1 1 r32_0 (by omega) (by omega)) (cwV 2 hts gX6_become_X6_right rfl rfl rfl (by decide +kernel) ⟨Nat.le_of_ble_eq_true rfl, Nat.le_of_ble_eq_true rfl⟩) (rm_preV hK hNw hW hm0_1 rfl) rfl rfl hl.1 rfl (lv_room (Nat.le_of_ble_eq_true rfl)) dX6_become_24 ⟨Nat.zero_le _, Nat.zero_le _⟩) hW hS hA (fun z_6 ct_6 H locs hq_6 hW hS => ?_)
        obtain ⟨t9, ht9, hz, hq1, hq2⟩ := hq_6
        rw [if_neg (by omega)] at ht9
        subst ht9
        rw [if_pos rfl] at hz
        subst hz
        have ho_6 : ∀ q, q ≠ 1000 → ct_6 q = ct_1 q := hq2
        have hof_6 : ∀ q, q ≠ 1000 → q ≠ 1005 → q ≠ 1006 → q ≠ 1010 → q ≠ 1011 → q ≠ 1012 → q ≠ 1013 → ct_6 q = ct q := fun q h0_6 h1_6 h2_6 h3_6 h4_6 h5_6 h6_6 => (ho_6 q h0_6).trans (hof_1 q h0_6 h1_6 h2_6 h3_6 h4_6 h5_6 h6_6)
        have hm0_6 : ct_6 1000 = some (.inr (6, [.int (jI 0), .int (jI ((yc : Nat) : Int)), .int (jI ((hc : Nat) : Int)), .ref (ad 1001), .ref (ad 1002), .ref (ad 1003), .ref (ad 1004), .ref (ad 1005), .ref (ad 1006), .ref (ad 1007), .ref (ad 1008), .ref (ad 1009), .ref (ad 1010), .ref (ad 1011), .ref (ad 1012), .ref (ad 1013), .ref (ad 1014), .ref (ad 1015), .ref (ad 1016)]) : va_E) := hq1
        have hm1_6 : ct_6 1005 = some (rl ty 160 (fl 8 hg)) := (ho_6 1005 (by omega)).trans hm1_1
        have hm2_6 : ct_6 1006 = some (rl ty 160 (fl 8 hf)) := (ho_6 1006 (by omega)).trans hm2_1
        have hm3_6 : ct_6 1010 = some (rl ty 8 ke) := (ho_6 1010 (by omega)).trans hm3_1
        have hm4_6 : ct_6 1011 = some (rl ty 8 kt) := (ho_6 1011 (by omega)).trans hm4_1
        have hm5_6 : ct_6 1012 = some (rl ty 8 mu) := (ho_6 1012 (by omega)).trans hm5_1
        have hm6_6 : ct_6 1013 = some (rl ty 8 sl) := (ho_6 1013 (by omega)).trans hm6_1
        refine rm_if_ne (tgt := 31) hx hb ⟨by omega, by omega⟩ dX6_become_27 (by decide) (fun _ => ?_) (fun hq => absurd hq (by omega))
        have hgb := hgr h9 hh9
        have hst9 := hst h9 hh9
        refine W_genQ (fun QQ hQQ => ?_)
        refine lv_iconst (v := jI 0) hx hb dX6_become_31 rfl ?_
        refine lv_istore_n (lv' := [(3, .int (jI 0)), (0, .ref (ad 1000)), (1, .int (jI ((h9 : Nat) : Int))), (2, .int (jI w9))]) hx hb dX6_become_32 rfl hl (by decide) rfl (fun ls hl => ?_)
        have LP : ∀ (k : Nat) (i8 : Nat) (hi8 : i8 ≤ 8), 8 - i8 < k → ∀ (ctv : rm_C) (H : Heap) (locs : List Loc), (ctv 1000 = some (.inr (6, [.int (jI 0), .int (jI ((yc : Nat) : Int)), .int (jI ((hc : Nat) : Int)), .ref (ad 1001), .ref (ad 1002), .ref (ad 1003), .ref (ad 1004), .ref (ad 1005), .ref (ad 1006), .ref (ad 1007), .ref (ad 1008), .ref (ad 1009), .ref (ad 1010), .ref (ad 1011), .ref (ad 1012), .ref (ad 1013), .ref (ad 1014), .ref (ad 1015), .ref (ad 1016)]) : va_E)) → ∀ (_ : True), (ctv 1005 = some (rl ty 160 (fl 8 hg))) → ∀ (_ : True), (ctv 1006 = some (rl ty 160 (fl 8 hf))) → ∀ (_ : True), (ctv 1010 = some (rl ty 8 (cpy i8 (hg h9) ke))) → ∀ (_ : True), (ctv 1011 = some (rl ty 8 (cpy i8 (hf h9) kt))) → ∀ (_ : True), (ctv 1012 = some (rl ty 8 mu)) → ∀ (_ : True), (ctv 1013 = some (rl ty 8 sl)) → ∀ (_ : True), (∀ q, q ≠ 1000 → q ≠ 1005 → q ≠ 1006 → q ≠ 1010 → q ≠ 1011 → q ≠ 1012 → q ≠ 1013 → ctv q = ct q) → ∀ (_ : True), rm_W D ad ctv (rm_A ad ct s.heap.size) H → va_S (rm_A ad ct s.heap.size) s.heap H locs → ∀ ls : Array Slot, lv_has ls 4 [(3, .int (jI ((i8 : Nat) : Int))), (0, .ref (ad 1000)), (1, .int (jI ((h9 : Nat) : Int))), (2, .int (jI w9))] → W p l e (headSpec wsX6_become ({ frames := 7, cells := 0, slots := 0, locals := 164 })).room s m args below meth c H locs 0 0 QQ (F0 m 33 ls []) := by
          intro k
          induction k with
          | zero => intro i8 hi8 hk; exact absurd hk (Nat.not_lt_zero _)
          | succ k ih_LP =>
            intro i8 hi8 hk ctv_7 H locs hv0_7 _ hv1_7 _ hv2_7 _ hv3_7 _ hv4_7 _ hv5_7 _ hv6_7 _ hofv_7 _ hW hS ls hl
            refine lv_iload_n hx hb dX6_become_33 rfl (lv_at hl 0 rfl) ?_
            refine lv_bipush (v := jI 8) hx hb dX6_become_34 (by decide) ?_
            refine rm_icmp_ge (tgt := 79) hx hb ⟨by omega, by omega⟩ ⟨by omega, by omega⟩ dX6_become_36 (by decide) (fun hc_8 => ?_) (fun hc_8 => ?_)
            · skip
              have hie : i8 = 8 := by omega
              have hk_9 : ctv_7 1010 = some (rl ty 8 (cpy 8 (hg h9) ke)) := hv3_7.trans (congrArg (fun f => some (rl ty 8 f)) (by rw [hie]))
              have hk_10 : ctv_7 1011 = some (rl ty 8 (cpy 8 (hf h9) kt)) := hv4_7.trans (congrArg (fun f => some (rl ty 8 f)) (by rw [hie]))
              have hl : lv_has ls 4 [(0, .ref (ad 1000)), (1, .int (jI ((h9 : Nat) : Int))), (2, .int (jI w9))] := lv_sub hl [1, 2, 3] rfl
              refine lv_iload_n hx hb dX6_become_79 rfl (lv_at hl 2 rfl) ?_
              refine rm_if_ne (tgt := 110) hx hb ⟨by omega, by omega⟩ dX6_become_80 (by decide) (fun hc_11 => ?_) (fun hc_11 => ?_)
              · skip
                refine lv_iload_n hx hb dX6_become_110 rfl (lv_at hl 2 rfl) ?_
                refine lv_iconst (v := jI 1) hx hb dX6_become_111 rfl ?_
                refine rm_icmp_ne (tgt := 155) hx hb ⟨by omega, by omega⟩ ⟨by omega, by omega⟩ dX6_become_112 (by decide) (fun hc_12 => ?_) (fun hc_12 => ?_)
                · skip
                  refine lv_aload_n hx hb dX6_become_155 rfl (lv_at hl 0 rfl) ?_
                  refine lv_iload_n hx hb dX6_become_156 rfl (lv_at hl 1 rfl) ?_
                  refine lv_iload_n hx hb dX6_become_157 rfl (lv_at hl 2 rfl) ?_
                  have hg0 : ∀ q, 1 ≤ q → q < (yn (hy h9)) → 0 ≤ hg h9 q := fun q a b => (hgb q a b).1
                  refine rm_callv (va_runV (As := [.int (jI ((h9 : Nat) : Int)), .int (jI w9)]) (rest := []) ⟨hx, hb, hml, hown, hts⟩ (c_X6_kinds l D ty ad ctv_7 H.size 0 yc hc yn yM yu hy hg hf mA pt ro (cpy 8 (hg h9) ke) (cpy 8 (hf h9) kt) mu sl tw bw de ⟨hv0_7, ((hofv_7 1001 (by omega) (by omega) (by omega) (by omega) (by omega) (by omega) (by omega)).trans hMo.2.1), ((hofv_7 1002 (by omega) (by omega) (by omega) (by omega) (by omega) (by omega) (by omega)).trans hMo.2.2.1), ((hofv_7 1003 (by omega) (by omega) (by omega) (by omega) (by omega) (by omega) (by omega)).trans hMo.2.2.2.1), ((hofv_7 1004 (by omega) (by omega) (by omega) (by omega) (by omega) (by omega) (by omega)).trans hMo.2.2.2.2.1), hv1_7, hv2_7, ((hofv_7 1007 (by omega) (by omega) (by omega) (by omega) (by omega) (by omega) (by omega)).trans hMo.2.2.2.2.2.2.2.1), ((hofv_7 1008 (by omega) (by omega) (by omega) (by omega) (by omega) (by omega) (by omega)).trans hMo.2.2.2.2.2.2.2.2.1), ((hofv_7 1009 (by omega) (by omega) (by omega) (by omega) (by omega) (by omega) (by omega)).trans hMo.2.2.2.2.2.2.2.2.2.1), hk_9, hk_10, hv5_7, hv6_7, ((hofv_7 1014 (by omega) (by omega) (by omega) (by omega) (by omega) (by omega) (by omega)).trans hMo.2.2.2.2.2.2.2.2.2.2.2.2.2.2.1), ((hofv_7 1015 (by omega) (by omega) (by omega) (by omega) (by omega) (by omega) (by omega)).trans hMo.2.2.2.2.2.2.2.2.2.2.2.2.2.2.2.1), ((hofv_7 1016 (by omega) (by omega) (by omega) (by omega) (by omega) (by omega) (by omega)).trans hMo.2.2.2.2.2.2.2.2.2.2.2.2.2.2.2.2)⟩ h9 (by omega) (by omega) hn8 hM8 (hys h9 hh9) hst9.1 w9 (by omega) hg0 hst9.2) (cwV 2 hts gX6_become_X6_kinds rfl rfl rfl (by decide +kernel) ⟨Nat.le_of_ble_eq_true rfl, Nat.le_of_ble_eq_true rfl⟩) (rm_preV hK hNw hW hv0_7 rfl) rfl rfl hl.1 rfl (lv_room (Nat.le_of_ble_eq_true rfl)) dX6_become_158 ⟨Nat.zero_le _, Nat.zero_le _⟩) hW hS hA (fun ct_13 H locs hq_13 hW hS hz_13 => ?_)
                  obtain ⟨X, v, mu1, sl1, hq1, hq2, hq3, hq4, hXw, hXo, hq5⟩ := hq_13
                  have ho_13 : ∀ q, q ≠ 1005 → q ≠ 1006 → q ≠ 1012 → q ≠ 1013 → ct_13 q = ctv_7 q := hq5
                  have hof_13 : ∀ q, q ≠ 1000 → q ≠ 1005 → q ≠ 1006 → q ≠ 1010 → q ≠ 1011 → q ≠ 1012 → q ≠ 1013 → ct_13 q = ct q := fun q h0_13 h1_13 h2_13 h3_13 h4_13 h5_13 h6_13 => (ho_13 q h1_13 h2_13 h5_13 h6_13).trans (hofv_7 q h0_13 h1_13 h2_13 h3_13 h4_13 h5_13 h6_13)
                  have hm0_13 : ct_13 1000 = some (.inr (6, [.int (jI 0), .int (jI ((yc : Nat) : Int)), .int (jI ((hc : Nat) : Int)), .ref (ad 1001), .ref (ad 1002), .ref (ad 1003), .ref (ad 1004), .ref (ad 1005), .ref (ad 1006), .ref (ad 1007), .ref (ad 1008), .ref (ad 1009), .ref (ad 1010), .ref (ad 1011), .ref (ad 1012), .ref (ad 1013), .ref (ad 1014), .ref (ad 1015), .ref (ad 1016)]) : va_E) := (ho_13 1000 (by omega) (by omega) (by omega) (by omega)).trans hv0_7
                  have hm1_13 : ct_13 1005 = some (rl ty 160 (fl 8 (ub hg h9 X))) := hq1
                  have hm2_13 : ct_13 1006 = some (rl ty 160 (fl 8 (ub hf h9 v))) := hq2
                  have hm3_13 : ct_13 1010 = some (rl ty 8 (cpy 8 (hg h9) ke)) := (ho_13 1010 (by omega) (by omega) (by omega) (by omega)).trans hk_9
                  have hm4_13 : ct_13 1011 = some (rl ty 8 (cpy 8 (hf h9) kt)) := (ho_13 1011 (by omega) (by omega) (by omega) (by omega)).trans hk_10
                  have hm5_13 : ct_13 1012 = some (rl ty 8 mu1) := hq3
                  have hm6_13 : ct_13 1013 = some (rl ty 8 sl1) := hq4
                  refine lv_aload_n hx hb dX6_become_161 rfl (lv_at hl 0 rfl) ?_
                  refine rm_get (ci := 6) (v := .ref (ad 1005)) (C := RX6) (T := TX6) (N := 19) hx hb hts (by decide +kernel) hown hK hW hm0_13 rfl 7 (by decide) (hts (.fieldLink RX6 23 "GrainYardModel" "grains" "[J") (by decide +kernel)) (fun _ h9 => h9) rfl dX6_become_162 ?_
                  refine lv_bipush (v := jI 8) hx hb dX6_become_165 (by decide) ?_
                  refine lv_iload_n hx hb dX6_become_167 rfl (lv_at hl 1 rfl) ?_
                  refine rm_imul hx hb dX6_become_168 ?_
                  refine lv_aload_n hx hb dX6_become_169 rfl (lv_at hl 0 rfl) ?_
                  refine rm_get (ci := 6) (v := .ref (ad 1010)) (C := RX6) (T := TX6) (N := 19) hx hb hts (by decide +kernel) hown hK hW hm0_13 rfl 12 (by decide) (hts (.fieldLink RX6 39 "GrainYardModel" "kept" "[J") (by decide +kernel)) (fun _ h9 => h9) rfl dX6_become_170 ?_
                  refine lv_iconst (v := jI 0) hx hb dX6_become_173 rfl ?_
                  refine rm_lald hx hb hK hW (f := (cpy 8 (hg h9) ke)) hm3_13 0 rfl (by omega) (by omega) dX6_become_174 ?_
                  rw [cpy_at (by omega)]
                  rw [show (8 : Int) * ((h9 : Nat) : Int) = ((8 * h9 + 0 : Nat) : Int) by omega]
                  refine rm_last hx hb hK hW hS (f := (fl 8 (ub hg h9 X))) hm1_13 (8 * h9 + 0) (by first | rfl | (push_cast; omega)) (by omega) (by omega) dX6_become_175 (fun H locs ct_14 hs_14 ho_14 hW hS hz_14 => ?_)
                  have hof_14 : ∀ q, q ≠ 1000 → q ≠ 1005 → q ≠ 1006 → q ≠ 1010 → q ≠ 1011 → q ≠ 1012 → q ≠ 1013 → ct_14 q = ct q := fun q h0_14 h1_14 h2_14 h3_14 h4_14 h5_14 h6_14 => (ho_14 q h1_14).trans (hof_13 q h0_14 h1_14 h2_14 h3_14 h4_14 h5_14 h6_14)
                  have hm0_14 : ct_14 1000 = some (.inr (6, [.int (jI 0), .int (jI ((yc : Nat) : Int)), .int (jI ((hc : Nat) : Int)), .ref (ad 1001), .ref (ad 1002), .ref (ad 1003), .ref (ad 1004), .ref (ad 1005), .ref (ad 1006), .ref (ad 1007), .ref (ad 1008), .ref (ad 1009), .ref (ad 1010), .ref (ad 1011), .ref (ad 1012), .ref (ad 1013), .ref (ad 1014), .ref (ad 1015), .ref (ad 1016)]) : va_E) := (ho_14 1000 (by omega)).trans hm0_13
                  have hm2_14 : ct_14 1006 = some (rl ty 160 (fl 8 (ub hf h9 v))) := (ho_14 1006 (by omega)).trans hm2_13
                  have hm3_14 : ct_14 1010 = some (rl ty 8 (cpy 8 (hg h9) ke)) := (ho_14 1010 (by omega)).trans hm3_13
                  have hm4_14 : ct_14 1011 = some (rl ty 8 (cpy 8 (hf h9) kt)) := (ho_14 1011 (by omega)).trans hm4_13
                  have hm5_14 : ct_14 1012 = some (rl ty 8 mu1) := (ho_14 1012 (by omega)).trans hm5_13
                  have hm6_14 : ct_14 1013 = some (rl ty 8 sl1) := (ho_14 1013 (by omega)).trans hm6_13
                  have hk_15 : ct_14 1005 = some (rl ty 160 (fl 8 (ub hg h9 (ub X 0 (hg h9 0))))) := hs_14.trans (congrArg (fun f => some (rl ty 160 f)) (by rw [fl_ub (by omega) _ _, ub_s, ub_ub]))
                  refine lv_iconst (v := jI 0) hx hb dX6_become_176 rfl ?_
                  refine lv_istore_n (lv' := [(3, .int (jI 0)), (0, .ref (ad 1000)), (1, .int (jI ((h9 : Nat) : Int))), (2, .int (jI w9))]) hx hb dX6_become_177 rfl hl (by decide) rfl (fun ls hl => ?_)
                  have hk_16 : ct_14 1005 = some (rl ty 160 (fl 8 (us hg h9 (tkn (yn (hy h9)) (bcw (yn (hy h9)) (yM (hy h9)) (hg h9) w9) (hg h9))))) := hk_15.trans (congrArg (fun G => some (rl ty 160 (fl 8 G))) (congrArg (ub hg h9) (row_end (n := (yn (hy h9))) (w := (bcw (yn (hy h9)) (yM (hy h9)) (hg h9) w9)) (g := hg h9) (X := X) (hXw) (hXo) (by omega))))
                  have hk_17 : ct_14 1006 = some (rl ty 160 (fl 8 (ub hf h9 (cpy 0 (cpy 8 (hf h9) kt) v)))) := hm2_14.trans (congrArg (fun G => some (rl ty 160 (fl 8 G))) (by rw [cpy_0]))
                  have LT : ∀ (k : Nat) (j8 : Nat) (hj8 : j8 ≤ 8), 8 - j8 < k → ∀ (ctv : rm_C) (H : Heap) (locs : List Loc), (ctv 1000 = some (.inr (6, [.int (jI 0), .int (jI ((yc : Nat) : Int)), .int (jI ((hc : Nat) : Int)), .ref (ad 1001), .ref (ad 1002), .ref (ad 1003), .ref (ad 1004), .ref (ad 1005), .ref (ad 1006), .ref (ad 1007), .ref (ad 1008), .ref (ad 1009), .ref (ad 1010), .ref (ad 1011), .ref (ad 1012), .ref (ad 1013), .ref (ad 1014), .ref (ad 1015), .ref (ad 1016)]) : va_E)) → ∀ (_ : True), (ctv 1005 = some (rl ty 160 (fl 8 (us hg h9 (tkn (yn (hy h9)) (bcw (yn (hy h9)) (yM (hy h9)) (hg h9) w9) (hg h9)))))) → ∀ (_ : True), (ctv 1006 = some (rl ty 160 (fl 8 (ub hf h9 (cpy j8 (cpy 8 (hf h9) kt) v))))) → ∀ (_ : True), (ctv 1010 = some (rl ty 8 (cpy 8 (hg h9) ke))) → ∀ (_ : True), (ctv 1011 = some (rl ty 8 (cpy 8 (hf h9) kt))) → ∀ (_ : True), (ctv 1012 = some (rl ty 8 mu1)) → ∀ (_ : True), (ctv 1013 = some (rl ty 8 sl1)) → ∀ (_ : True), (∀ q, q ≠ 1000 → q ≠ 1005 → q ≠ 1006 → q ≠ 1010 → q ≠ 1011 → q ≠ 1012 → q ≠ 1013 → ctv q = ct q) → ∀ (_ : True), rm_W D ad ctv (rm_A ad ct s.heap.size) H → va_S (rm_A ad ct s.heap.size) s.heap H locs → ∀ ls : Array Slot, lv_has ls 4 [(3, .int (jI ((j8 : Nat) : Int))), (0, .ref (ad 1000)), (1, .int (jI ((h9 : Nat) : Int)))] → W p l e (headSpec wsX6_become ({ frames := 7, cells := 0, slots := 0, locals := 164 })).room s m args below meth c H locs 0 0 QQ (F0 m 178 ls []) := by
                    intro k
                    induction k with
                    | zero => intro j8 hj8 hk; exact absurd hk (Nat.not_lt_zero _)
                    | succ k ih_LT =>
                      intro j8 hj8 hk ctv_18 H locs hv0_18 _ hv1_18 _ hv2_18 _ hv3_18 _ hv4_18 _ hv5_18 _ hv6_18 _ hofv_18 _ hW hS ls hl
                      refine lv_iload_n hx hb dX6_become_178 rfl (lv_at hl 0 rfl) ?_
                      refine lv_bipush (v := jI 8) hx hb dX6_become_179 (by decide) ?_
                      refine rm_icmp_ge (tgt := 207) hx hb ⟨by omega, by omega⟩ ⟨by omega, by omega⟩ dX6_become_181 (by decide) (fun hc_19 => ?_) (fun hc_19 => ?_)
                      · skip
                        have hje : j8 = 8 := by omega
                        have hk_20 : ctv_18 1006 = some (rl ty 160 (fl 8 (ub hf h9 (cpy 8 (cpy 8 (hf h9) kt) v)))) := hv2_18.trans (congrArg (fun G => some (rl ty 160 (fl 8 G))) (by rw [hje]))
                        have hk_21 : ctv_18 1006 = some (rl ty 160 (fl 8 hf)) := hk_20.trans (congrArg (fun f => some (rl ty 160 f)) (cpy_8 _ _ _ _ (fun q hq => cpy_at hq)))
                        rw [hQQ]
                        exact W.vret hx hb hr (fun t ht hw => ⟨⟨ctv_18, rfl, ⟨(fun q hq9 => hofv_18 q (by omega) (by omega) (by omega) (by omega) (by omega) (by omega) (by omega)), Or.inr ⟨h9, rfl, hh9, _, bcm_w (by omega), ⟨mA, pt, ro, (cpy 8 (hg h9) ke), (cpy 8 (hf h9) kt), mu1, sl1, tw, bw, de, ⟨hv0_18, ((hofv_18 1001 (by omega) (by omega) (by omega) (by omega) (by omega) (by omega) (by omega)).trans hMo.2.1), ((hofv_18 1002 (by omega) (by omega) (by omega) (by omega) (by omega) (by omega) (by omega)).trans hMo.2.2.1), ((hofv_18 1003 (by omega) (by omega) (by omega) (by omega) (by omega) (by omega) (by omega)).trans hMo.2.2.2.1), ((hofv_18 1004 (by omega) (by omega) (by omega) (by omega) (by omega) (by omega) (by omega)).trans hMo.2.2.2.2.1), hv1_18, hk_21, ((hofv_18 1007 (by omega) (by omega) (by omega) (by omega) (by omega) (by omega) (by omega)).trans hMo.2.2.2.2.2.2.2.1), ((hofv_18 1008 (by omega) (by omega) (by omega) (by omega) (by omega) (by omega) (by omega)).trans hMo.2.2.2.2.2.2.2.2.1), ((hofv_18 1009 (by omega) (by omega) (by omega) (by omega) (by omega) (by omega) (by omega)).trans hMo.2.2.2.2.2.2.2.2.2.1), hv3_18, hv4_18, hv5_18, hv6_18, ((hofv_18 1014 (by omega) (by omega) (by omega) (by omega) (by omega) (by omega) (by omega)).trans hMo.2.2.2.2.2.2.2.2.2.2.2.2.2.2.1), ((hofv_18 1015 (by omega) (by omega) (by omega) (by omega) (by omega) (by omega) (by omega)).trans hMo.2.2.2.2.2.2.2.2.2.2.2.2.2.2.2.1), ((hofv_18 1016 (by omega) (by omega) (by omega) (by omega) (by omega) (by omega) (by omega)).trans hMo.2.2.2.2.2.2.2.2.2.2.2.2.2.2.2.2)⟩⟩⟩⟩, by show rm_W D ad _ _ t.heap; rw [ht]; exact hW, Or.inl rfl⟩, hS.F ht⟩) hS.2.2 dX6_become_207
                      · skip
                        refine lv_aload_n hx hb dX6_become_184 rfl (lv_at hl 1 rfl) ?_
                        refine rm_get (ci := 6) (v := .ref (ad 1006)) (C := RX6) (T := TX6) (N := 19) hx hb hts (by decide +kernel) hown hK hW hv0_18 rfl 8 (by decide) (hts (.fieldLink RX6 27 "GrainYardModel" "toppled" "[J") (by decide +kernel)) (fun _ h9 => h9) rfl dX6_become_185 ?_
                        refine lv_bipush (v := jI 8) hx hb dX6_become_188 (by decide) ?_
                        refine lv_iload_n hx hb dX6_become_190 rfl (lv_at hl 2 rfl) ?_
                        refine rm_imul hx hb dX6_become_191 ?_
                        refine lv_iload_n hx hb dX6_become_192 rfl (lv_at hl 0 rfl) ?_
                        refine rm_iadd hx hb dX6_become_193 ?_
                        refine lv_aload_n hx hb dX6_become_194 rfl (lv_at hl 1 rfl) ?_
                        refine rm_get (ci := 6) (v := .ref (ad 1011)) (C := RX6) (T := TX6) (N := 19) hx hb hts (by decide +kernel) hown hK hW hv0_18 rfl 13 (by decide) (hts (.fieldLink RX6 42 "GrainYardModel" "keptToppled" "[J") (by decide +kernel)) (fun _ h9 => h9) rfl dX6_become_195 ?_
                        refine lv_iload_n hx hb dX6_become_198 rfl (lv_at hl 0 rfl) ?_
                        refine rm_lald hx hb hK hW (f := (cpy 8 (hf h9) kt)) hv4_18 j8 rfl (by omega) (by omega) dX6_become_199 ?_
                        refine rm_last hx hb hK hW hS (f := (fl 8 (ub hf h9 (cpy j8 (cpy 8 (hf h9) kt) v)))) hv2_18 (8 * h9 + j8) (by first | rfl | (push_cast; omega)) (by omega) (by omega) dX6_become_200 (fun H locs ct_22 hs_22 ho_22 hW hS hz_22 => ?_)
                        have hof_22 : ∀ q, q ≠ 1000 → q ≠ 1005 → q ≠ 1006 → q ≠ 1010 → q ≠ 1011 → q ≠ 1012 → q ≠ 1013 → ct_22 q = ct q := fun q h0_22 h1_22 h2_22 h3_22 h4_22 h5_22 h6_22 => (ho_22 q h2_22).trans (hofv_18 q h0_22 h1_22 h2_22 h3_22 h4_22 h5_22 h6_22)
                        have hm0_22 : ct_22 1000 = some (.inr (6, [.int (jI 0), .int (jI ((yc : Nat) : Int)), .int (jI ((hc : Nat) : Int)), .ref (ad 1001), .ref (ad 1002), .ref (ad 1003), .ref (ad 1004), .ref (ad 1005), .ref (ad 1006), .ref (ad 1007), .ref (ad 1008), .ref (ad 1009), .ref (ad 1010), .ref (ad 1011), .ref (ad 1012), .ref (ad 1013), .ref (ad 1014), .ref (ad 1015), .ref (ad 1016)]) : va_E) := (ho_22 1000 (by omega)).trans hv0_18
                        have hm1_22 : ct_22 1005 = some (rl ty 160 (fl 8 (us hg h9 (tkn (yn (hy h9)) (bcw (yn (hy h9)) (yM (hy h9)) (hg h9) w9) (hg h9))))) := (ho_22 1005 (by omega)).trans hv1_18
                        have hm3_22 : ct_22 1010 = some (rl ty 8 (cpy 8 (hg h9) ke)) := (ho_22 1010 (by omega)).trans hv3_18
                        have hm4_22 : ct_22 1011 = some (rl ty 8 (cpy 8 (hf h9) kt)) := (ho_22 1011 (by omega)).trans hv4_18
                        have hm5_22 : ct_22 1012 = some (rl ty 8 mu1) := (ho_22 1012 (by omega)).trans hv5_18
                        have hm6_22 : ct_22 1013 = some (rl ty 8 sl1) := (ho_22 1013 (by omega)).trans hv6_18
                        have hk_23 : ct_22 1006 = some (rl ty 160 (fl 8 (ub hf h9 (ub (cpy j8 (cpy 8 (hf h9) kt) v) j8 ((cpy 8 (hf h9) kt) j8))))) := hs_22.trans (congrArg (fun f => some (rl ty 160 f)) (by rw [fl_ub (by omega) _ _, ub_s, ub_ub]))
                        have hk_24 : ct_22 1006 = some (rl ty 160 (fl 8 (ub hf h9 (cpy (j8 + 1) (cpy 8 (hf h9) kt) v)))) := hk_23.trans (congrArg (fun G => some (rl ty 160 (fl 8 G))) (by rw [cpy_s]))
                        refine lv_iinc (v := jI (((j8 : Nat) : Int) + 1)) (lv' := [(3, .int (jI (((j8 : Nat) : Int) + 1))), (0, .ref (ad 1000)), (1, .int (jI ((h9 : Nat) : Int)))]) hx hb dX6_become_201 hl (k := 0) rfl (jI_add _ _) (by decide) rfl (fun ls hl => ?_)
                        refine lv_goto (tgt := 178) hx hb dX6_become_204 (by decide) ?_
                        exact ih_LT (j8 + 1) (by omega) (by omega) ct_22 _ _ hm0_22 trivial hm1_22 trivial hk_24 trivial hm3_22 trivial hm4_22 trivial hm5_22 trivial hm6_22 trivial hof_22 trivial hW hS ls (lv_sub hl [0, 1, 2] rfl)
                  exact LT (9) (0) (by omega) (by omega) ct_14 _ _ hm0_14 trivial hk_16 trivial hk_17 trivial hm3_14 trivial hm4_14 trivial hm5_14 trivial hm6_14 trivial hof_14 trivial hW hS ls (lv_sub hl [0, 1, 2] rfl)
                · skip
                  refine lv_iconst (v := jI 1) hx hb dX6_become_115 rfl ?_
                  refine lv_istore_n (lv' := [(3, .int (jI 1)), (0, .ref (ad 1000)), (1, .int (jI ((h9 : Nat) : Int))), (2, .int (jI w9))]) hx hb dX6_become_116 rfl hl (by decide) rfl (fun ls hl => ?_)
                  have h05 : ctv_7 1005 = some (rl ty 160 (fl 8 (ub hg h9 (tkn (0 + 1) (fun q => dg (yn (hy h9)) (yM (hy h9)) q - 1) (hg h9))))) := hv1_7.trans (congrArg (fun G => some (rl ty 160 (fl 8 G))) (by rw [← tkn_0, ub_self]))
                  have LS : ∀ (k : Nat) (k8 : Nat) (hk8 : k8 + 1 ≤ (yn (hy h9))), (yn (hy h9)) - k8 < k → ∀ (ctv : rm_C) (H : Heap) (locs : List Loc), (ctv 1000 = some (.inr (6, [.int (jI 0), .int (jI ((yc : Nat) : Int)), .int (jI ((hc : Nat) : Int)), .ref (ad 1001), .ref (ad 1002), .ref (ad 1003), .ref (ad 1004), .ref (ad 1005), .ref (ad 1006), .ref (ad 1007), .ref (ad 1008), .ref (ad 1009), .ref (ad 1010), .ref (ad 1011), .ref (ad 1012), .ref (ad 1013), .ref (ad 1014), .ref (ad 1015), .ref (ad 1016)]) : va_E)) → ∀ (_ : True), (ctv 1005 = some (rl ty 160 (fl 8 (ub hg h9 (tkn (k8 + 1) (fun q => dg (yn (hy h9)) (yM (hy h9)) q - 1) (hg h9)))))) → ∀ (_ : True), (ctv 1006 = some (rl ty 160 (fl 8 hf))) → ∀ (_ : True), (ctv 1010 = some (rl ty 8 (cpy 8 (hg h9) ke))) → ∀ (_ : True), (ctv 1011 = some (rl ty 8 (cpy 8 (hf h9) kt))) → ∀ (_ : True), (ctv 1012 = some (rl ty 8 mu)) → ∀ (_ : True), (ctv 1013 = some (rl ty 8 sl)) → ∀ (_ : True), (∀ q, q ≠ 1000 → q ≠ 1005 → q ≠ 1006 → q ≠ 1010 → q ≠ 1011 → q ≠ 1012 → q ≠ 1013 → ctv q = ct q) → ∀ (_ : True), rm_W D ad ctv (rm_A ad ct s.heap.size) H → va_S (rm_A ad ct s.heap.size) s.heap H locs → ∀ ls : Array Slot, lv_has ls 4 [(3, .int (jI (((k8 + 1) : Nat) : Int))), (0, .ref (ad 1000)), (1, .int (jI ((h9 : Nat) : Int))), (2, .int (jI w9))] → W p l e (headSpec wsX6_become ({ frames := 7, cells := 0, slots := 0, locals := 164 })).room s m args below meth c H locs 0 0 QQ (F0 m 117 ls []) := by
                    intro k
                    induction k with
                    | zero => intro k8 hk8 hk; exact absurd hk (Nat.not_lt_zero _)
                    | succ k ih_LS =>
                      intro k8 hk8 hk ctv_25 H locs hv0_25 _ hv1_25 _ hv2_25 _ hv3_25 _ hv4_25 _ hv5_25 _ hv6_25 _ hofv_25 _ hW hS ls hl
                      refine lv_iload_n hx hb dX6_become_117 rfl (lv_at hl 0 rfl) ?_
                      refine lv_aload_n hx hb dX6_become_118 rfl (lv_at hl 1 rfl) ?_
                      refine lv_iload_n hx hb dX6_become_119 rfl (lv_at hl 2 rfl) ?_
                      refine rm_calli (va_runV (As := [.int (jI ((h9 : Nat) : Int))]) (rest := [.int (jI (((k8 + 1) : Nat) : Int))]) ⟨hx, hb, hml, hown, hts⟩ (c_X6_size l D ty ad ctv_25 H.size 0 yc hc yn yM yu hy (ub hg h9 (tkn (k8 + 1) (fun q => dg (yn (hy h9)) (yM (hy h9)) q - 1) (hg h9))) hf mA pt ro (cpy 8 (hg h9) ke) (cpy 8 (hf h9) kt) mu sl tw bw de ⟨hv0_25, ((hofv_25 1001 (by omega) (by omega) (by omega) (by omega) (by omega) (by omega) (by omega)).trans hMo.2.1), ((hofv_25 1002 (by omega) (by omega) (by omega) (by omega) (by omega) (by omega) (by omega)).trans hMo.2.2.1), ((hofv_25 1003 (by omega) (by omega) (by omega) (by omega) (by omega) (by omega) (by omega)).trans hMo.2.2.2.1), ((hofv_25 1004 (by omega) (by omega) (by omega) (by omega) (by omega) (by omega) (by omega)).trans hMo.2.2.2.2.1), hv1_25, hv2_25, ((hofv_25 1007 (by omega) (by omega) (by omega) (by omega) (by omega) (by omega) (by omega)).trans hMo.2.2.2.2.2.2.2.1), ((hofv_25 1008 (by omega) (by omega) (by omega) (by omega) (by omega) (by omega) (by omega)).trans hMo.2.2.2.2.2.2.2.2.1), ((hofv_25 1009 (by omega) (by omega) (by omega) (by omega) (by omega) (by omega) (by omega)).trans hMo.2.2.2.2.2.2.2.2.2.1), hv3_25, hv4_25, hv5_25, hv6_25, ((hofv_25 1014 (by omega) (by omega) (by omega) (by omega) (by omega) (by omega) (by omega)).trans hMo.2.2.2.2.2.2.2.2.2.2.2.2.2.2.1), ((hofv_25 1015 (by omega) (by omega) (by omega) (by omega) (by omega) (by omega) (by omega)).trans hMo.2.2.2.2.2.2.2.2.2.2.2.2.2.2.2.1), ((hofv_25 1016 (by omega) (by omega) (by omega) (by omega) (by omega) (by omega) (by omega)).trans hMo.2.2.2.2.2.2.2.2.2.2.2.2.2.2.2.2)⟩ h9 (by omega) (by omega)) (cwV 1 hts gX6_become_X6_size rfl rfl rfl (by decide +kernel) ⟨Nat.le_of_ble_eq_true rfl, Nat.le_of_ble_eq_true rfl⟩) (rm_preV hK hNw hW hv0_25 rfl) rfl rfl hl.1 rfl (lv_room (Nat.le_of_ble_eq_true rfl)) dX6_become_120 ⟨Nat.zero_le _, Nat.zero_le _⟩) hW hS hA (fun z_26 ct_26 H locs hq_26 hW hS => ?_)
                      obtain ⟨hz, hcc_26⟩ := hq_26
                      have hcc_26 := hcc_26.symm
                      subst hcc_26
                      subst hz
                      refine rm_icmp_ge (tgt := 152) hx hb ⟨by omega, by omega⟩ ⟨by omega, by omega⟩ dX6_become_123 (by decide) (fun hc_27 => ?_) (fun hc_27 => ?_)
                      · skip
                        have hke : k8 + 1 = (yn (hy h9)) := by omega
                        have hk_28 : ctv_25 1005 = some (rl ty 160 (fl 8 (ub hg h9 (tkn (yn (hy h9)) (fun q => dg (yn (hy h9)) (yM (hy h9)) q - 1) (hg h9))))) := hv1_25.trans (congrArg (fun G => some (rl ty 160 (fl 8 G))) (by rw [hke]))
                        have hl : lv_has ls 4 [(0, .ref (ad 1000)), (1, .int (jI ((h9 : Nat) : Int))), (2, .int (jI w9))] := lv_sub hl [1, 2, 3] rfl
                        refine lv_goto (tgt := 161) hx hb dX6_become_152 (by decide) ?_
                        refine lv_aload_n hx hb dX6_become_161 rfl (lv_at hl 0 rfl) ?_
                        refine rm_get (ci := 6) (v := .ref (ad 1005)) (C := RX6) (T := TX6) (N := 19) hx hb hts (by decide +kernel) hown hK hW hv0_25 rfl 7 (by decide) (hts (.fieldLink RX6 23 "GrainYardModel" "grains" "[J") (by decide +kernel)) (fun _ h9 => h9) rfl dX6_become_162 ?_
                        refine lv_bipush (v := jI 8) hx hb dX6_become_165 (by decide) ?_
                        refine lv_iload_n hx hb dX6_become_167 rfl (lv_at hl 1 rfl) ?_
                        refine rm_imul hx hb dX6_become_168 ?_
                        refine lv_aload_n hx hb dX6_become_169 rfl (lv_at hl 0 rfl) ?_
                        refine rm_get (ci := 6) (v := .ref (ad 1010)) (C := RX6) (T := TX6) (N := 19) hx hb hts (by decide +kernel) hown hK hW hv0_25 rfl 12 (by decide) (hts (.fieldLink RX6 39 "GrainYardModel" "kept" "[J") (by decide +kernel)) (fun _ h9 => h9) rfl dX6_become_170 ?_
                        refine lv_iconst (v := jI 0) hx hb dX6_become_173 rfl ?_
                        refine rm_lald hx hb hK hW (f := (cpy 8 (hg h9) ke)) hv3_25 0 rfl (by omega) (by omega) dX6_become_174 ?_
                        rw [cpy_at (by omega)]
                        rw [show (8 : Int) * ((h9 : Nat) : Int) = ((8 * h9 + 0 : Nat) : Int) by omega]
                        refine rm_last hx hb hK hW hS (f := (fl 8 (ub hg h9 (tkn (yn (hy h9)) (fun q => dg (yn (hy h9)) (yM (hy h9)) q - 1) (hg h9))))) hk_28 (8 * h9 + 0) (by first | rfl | (push_cast; omega)) (by omega) (by omega) dX6_become_175 (fun H locs ct_29 hs_29 ho_29 hW hS hz_29 => ?_)
                        have hof_29 : ∀ q, q ≠ 1000 → q ≠ 1005 → q ≠ 1006 → q ≠ 1010 → q ≠ 1011 → q ≠ 1012 → q ≠ 1013 → ct_29 q = ct q := fun q h0_29 h1_29 h2_29 h3_29 h4_29 h5_29 h6_29 => (ho_29 q h1_29).trans (hofv_25 q h0_29 h1_29 h2_29 h3_29 h4_29 h5_29 h6_29)
                        have hm0_29 : ct_29 1000 = some (.inr (6, [.int (jI 0), .int (jI ((yc : Nat) : Int)), .int (jI ((hc : Nat) : Int)), .ref (ad 1001), .ref (ad 1002), .ref (ad 1003), .ref (ad 1004), .ref (ad 1005), .ref (ad 1006), .ref (ad 1007), .ref (ad 1008), .ref (ad 1009), .ref (ad 1010), .ref (ad 1011), .ref (ad 1012), .ref (ad 1013), .ref (ad 1014), .ref (ad 1015), .ref (ad 1016)]) : va_E) := (ho_29 1000 (by omega)).trans hv0_25
                        have hm2_29 : ct_29 1006 = some (rl ty 160 (fl 8 hf)) := (ho_29 1006 (by omega)).trans hv2_25
                        have hm3_29 : ct_29 1010 = some (rl ty 8 (cpy 8 (hg h9) ke)) := (ho_29 1010 (by omega)).trans hv3_25
                        have hm4_29 : ct_29 1011 = some (rl ty 8 (cpy 8 (hf h9) kt)) := (ho_29 1011 (by omega)).trans hv4_25
                        have hm5_29 : ct_29 1012 = some (rl ty 8 mu) := (ho_29 1012 (by omega)).trans hv5_25
                        have hm6_29 : ct_29 1013 = some (rl ty 8 sl) := (ho_29 1013 (by omega)).trans hv6_25
                        have hk_30 : ct_29 1005 = some (rl ty 160 (fl 8 (ub hg h9 (ub (tkn (yn (hy h9)) (fun q => dg (yn (hy h9)) (yM (hy h9)) q - 1) (hg h9)) 0 (hg h9 0))))) := hs_29.trans (congrArg (fun f => some (rl ty 160 f)) (by rw [fl_ub (by omega) _ _, ub_s, ub_ub]))
                        refine lv_iconst (v := jI 0) hx hb dX6_become_176 rfl ?_
                        refine lv_istore_n (lv' := [(3, .int (jI 0)), (0, .ref (ad 1000)), (1, .int (jI ((h9 : Nat) : Int))), (2, .int (jI w9))]) hx hb dX6_become_177 rfl hl (by decide) rfl (fun ls hl => ?_)
                        have hk_31 : ct_29 1005 = some (rl ty 160 (fl 8 (us hg h9 (tkn (yn (hy h9)) (fun q => dg (yn (hy h9)) (yM (hy h9)) q - 1) (hg h9))))) := hk_30.trans (congrArg (fun G => some (rl ty 160 (fl 8 G))) (congrArg (ub hg h9) (row_end (n := (yn (hy h9))) (w := (fun q => dg (yn (hy h9)) (yM (hy h9)) q - 1)) (g := hg h9) (X := (tkn (yn (hy h9)) (fun q => dg (yn (hy h9)) (yM (hy h9)) q - 1) (hg h9))) (fun q a b => tkn_in a b) (fun q hq => tkn_out (Or.inr hq)) (by omega))))
                        have hk_32 : ct_29 1006 = some (rl ty 160 (fl 8 (ub hf h9 (cpy 0 (cpy 8 (hf h9) kt) (hf h9))))) := hm2_29.trans (congrArg (fun G => some (rl ty 160 (fl 8 G))) (by rw [cpy_0]; rw [ub_self]))
                        have LT : ∀ (k : Nat) (j8 : Nat) (hj8 : j8 ≤ 8), 8 - j8 < k → ∀ (ctv : rm_C) (H : Heap) (locs : List Loc), (ctv 1000 = some (.inr (6, [.int (jI 0), .int (jI ((yc : Nat) : Int)), .int (jI ((hc : Nat) : Int)), .ref (ad 1001), .ref (ad 1002), .ref (ad 1003), .ref (ad 1004), .ref (ad 1005), .ref (ad 1006), .ref (ad 1007), .ref (ad 1008), .ref (ad 1009), .ref (ad 1010), .ref (ad 1011), .ref (ad 1012), .ref (ad 1013), .ref (ad 1014), .ref (ad 1015), .ref (ad 1016)]) : va_E)) → ∀ (_ : True), (ctv 1005 = some (rl ty 160 (fl 8 (us hg h9 (tkn (yn (hy h9)) (fun q => dg (yn (hy h9)) (yM (hy h9)) q - 1) (hg h9)))))) → ∀ (_ : True), (ctv 1006 = some (rl ty 160 (fl 8 (ub hf h9 (cpy j8 (cpy 8 (hf h9) kt) (hf h9)))))) → ∀ (_ : True), (ctv 1010 = some (rl ty 8 (cpy 8 (hg h9) ke))) → ∀ (_ : True), (ctv 1011 = some (rl ty 8 (cpy 8 (hf h9) kt))) → ∀ (_ : True), (ctv 1012 = some (rl ty 8 mu)) → ∀ (_ : True), (ctv 1013 = some (rl ty 8 sl)) → ∀ (_ : True), (∀ q, q ≠ 1000 → q ≠ 1005 → q ≠ 1006 → q ≠ 1010 → q ≠ 1011 → q ≠ 1012 → q ≠ 1013 → ctv q = ct q) → ∀ (_ : True), rm_W D ad ctv (rm_A ad ct s.heap.size) H → va_S (rm_A ad ct s.heap.size) s.heap H locs → ∀ ls : Array Slot, lv_has ls 4 [(3, .int (jI ((j8 : Nat) : Int))), (0, .ref (ad 1000)), (1, .int (jI ((h9 : Nat) : Int)))] → W p l e (headSpec wsX6_become ({ frames := 7, cells := 0, slots := 0, locals := 164 })).room s m args below meth c H locs 0 0 QQ (F0 m 178 ls []) := by
                          intro k
                          induction k with
                          | zero => intro j8 hj8 hk; exact absurd hk (Nat.not_lt_zero _)
                          | succ k ih_LT =>
                            intro j8 hj8 hk ctv_33 H locs hv0_33 _ hv1_33 _ hv2_33 _ hv3_33 _ hv4_33 _ hv5_33 _ hv6_33 _ hofv_33 _ hW hS ls hl
                            refine lv_iload_n hx hb dX6_become_178 rfl (lv_at hl 0 rfl) ?_
                            refine lv_bipush (v := jI 8) hx hb dX6_become_179 (by decide) ?_
                            refine rm_icmp_ge (tgt := 207) hx hb ⟨by omega, by omega⟩ ⟨by omega, by omega⟩ dX6_become_181 (by decide) (fun hc_34 => ?_) (fun hc_34 => ?_)
                            · skip
                              have hje : j8 = 8 := by omega
                              have hk_35 : ctv_33 1006 = some (rl ty 160 (fl 8 (ub hf h9 (cpy 8 (cpy 8 (hf h9) kt) (hf h9))))) := hv2_33.trans (congrArg (fun G => some (rl ty 160 (fl 8 G))) (by rw [hje]))
                              have hk_36 : ctv_33 1006 = some (rl ty 160 (fl 8 hf)) := hk_35.trans (congrArg (fun f => some (rl ty 160 f)) (cpy_8 _ _ _ _ (fun q hq => cpy_at hq)))
                              rw [hQQ]
                              exact W.vret hx hb hr (fun t ht hw => ⟨⟨ctv_33, rfl, ⟨(fun q hq9 => hofv_33 q (by omega) (by omega) (by omega) (by omega) (by omega) (by omega) (by omega)), Or.inr ⟨h9, rfl, hh9, _, Or.inr (Or.inl ⟨by omega, rfl⟩), ⟨mA, pt, ro, (cpy 8 (hg h9) ke), (cpy 8 (hf h9) kt), mu, sl, tw, bw, de, ⟨hv0_33, ((hofv_33 1001 (by omega) (by omega) (by omega) (by omega) (by omega) (by omega) (by omega)).trans hMo.2.1), ((hofv_33 1002 (by omega) (by omega) (by omega) (by omega) (by omega) (by omega) (by omega)).trans hMo.2.2.1), ((hofv_33 1003 (by omega) (by omega) (by omega) (by omega) (by omega) (by omega) (by omega)).trans hMo.2.2.2.1), ((hofv_33 1004 (by omega) (by omega) (by omega) (by omega) (by omega) (by omega) (by omega)).trans hMo.2.2.2.2.1), hv1_33, hk_36, ((hofv_33 1007 (by omega) (by omega) (by omega) (by omega) (by omega) (by omega) (by omega)).trans hMo.2.2.2.2.2.2.2.1), ((hofv_33 1008 (by omega) (by omega) (by omega) (by omega) (by omega) (by omega) (by omega)).trans hMo.2.2.2.2.2.2.2.2.1), ((hofv_33 1009 (by omega) (by omega) (by omega) (by omega) (by omega) (by omega) (by omega)).trans hMo.2.2.2.2.2.2.2.2.2.1), hv3_33, hv4_33, hv5_33, hv6_33, ((hofv_33 1014 (by omega) (by omega) (by omega) (by omega) (by omega) (by omega) (by omega)).trans hMo.2.2.2.2.2.2.2.2.2.2.2.2.2.2.1), ((hofv_33 1015 (by omega) (by omega) (by omega) (by omega) (by omega) (by omega) (by omega)).trans hMo.2.2.2.2.2.2.2.2.2.2.2.2.2.2.2.1), ((hofv_33 1016 (by omega) (by omega) (by omega) (by omega) (by omega) (by omega) (by omega)).trans hMo.2.2.2.2.2.2.2.2.2.2.2.2.2.2.2.2)⟩⟩⟩⟩, by show rm_W D ad _ _ t.heap; rw [ht]; exact hW, Or.inl rfl⟩, hS.F ht⟩) hS.2.2 dX6_become_207
                            · skip
                              refine lv_aload_n hx hb dX6_become_184 rfl (lv_at hl 1 rfl) ?_
                              refine rm_get (ci := 6) (v := .ref (ad 1006)) (C := RX6) (T := TX6) (N := 19) hx hb hts (by decide +kernel) hown hK hW hv0_33 rfl 8 (by decide) (hts (.fieldLink RX6 27 "GrainYardModel" "toppled" "[J") (by decide +kernel)) (fun _ h9 => h9) rfl dX6_become_185 ?_
                              refine lv_bipush (v := jI 8) hx hb dX6_become_188 (by decide) ?_
                              refine lv_iload_n hx hb dX6_become_190 rfl (lv_at hl 2 rfl) ?_
                              refine rm_imul hx hb dX6_become_191 ?_
                              refine lv_iload_n hx hb dX6_become_192 rfl (lv_at hl 0 rfl) ?_
                              refine rm_iadd hx hb dX6_become_193 ?_
                              refine lv_aload_n hx hb dX6_become_194 rfl (lv_at hl 1 rfl) ?_
                              refine rm_get (ci := 6) (v := .ref (ad 1011)) (C := RX6) (T := TX6) (N := 19) hx hb hts (by decide +kernel) hown hK hW hv0_33 rfl 13 (by decide) (hts (.fieldLink RX6 42 "GrainYardModel" "keptToppled" "[J") (by decide +kernel)) (fun _ h9 => h9) rfl dX6_become_195 ?_
                              refine lv_iload_n hx hb dX6_become_198 rfl (lv_at hl 0 rfl) ?_
                              refine rm_lald hx hb hK hW (f := (cpy 8 (hf h9) kt)) hv4_33 j8 rfl (by omega) (by omega) dX6_become_199 ?_
                              refine rm_last hx hb hK hW hS (f := (fl 8 (ub hf h9 (cpy j8 (cpy 8 (hf h9) kt) (hf h9))))) hv2_33 (8 * h9 + j8) (by first | rfl | (push_cast; omega)) (by omega) (by omega) dX6_become_200 (fun H locs ct_37 hs_37 ho_37 hW hS hz_37 => ?_)
                              have hof_37 : ∀ q, q ≠ 1000 → q ≠ 1005 → q ≠ 1006 → q ≠ 1010 → q ≠ 1011 → q ≠ 1012 → q ≠ 1013 → ct_37 q = ct q := fun q h0_37 h1_37 h2_37 h3_37 h4_37 h5_37 h6_37 => (ho_37 q h2_37).trans (hofv_33 q h0_37 h1_37 h2_37 h3_37 h4_37 h5_37 h6_37)
                              have hm0_37 : ct_37 1000 = some (.inr (6, [.int (jI 0), .int (jI ((yc : Nat) : Int)), .int (jI ((hc : Nat) : Int)), .ref (ad 1001), .ref (ad 1002), .ref (ad 1003), .ref (ad 1004), .ref (ad 1005), .ref (ad 1006), .ref (ad 1007), .ref (ad 1008), .ref (ad 1009), .ref (ad 1010), .ref (ad 1011), .ref (ad 1012), .ref (ad 1013), .ref (ad 1014), .ref (ad 1015), .ref (ad 1016)]) : va_E) := (ho_37 1000 (by omega)).trans hv0_33
                              have hm1_37 : ct_37 1005 = some (rl ty 160 (fl 8 (us hg h9 (tkn (yn (hy h9)) (fun q => dg (yn (hy h9)) (yM (hy h9)) q - 1) (hg h9))))) := (ho_37 1005 (by omega)).trans hv1_33
                              have hm3_37 : ct_37 1010 = some (rl ty 8 (cpy 8 (hg h9) ke)) := (ho_37 1010 (by omega)).trans hv3_33
                              have hm4_37 : ct_37 1011 = some (rl ty 8 (cpy 8 (hf h9) kt)) := (ho_37 1011 (by omega)).trans hv4_33
                              have hm5_37 : ct_37 1012 = some (rl ty 8 mu) := (ho_37 1012 (by omega)).trans hv5_33
                              have hm6_37 : ct_37 1013 = some (rl ty 8 sl) := (ho_37 1013 (by omega)).trans hv6_33
                              have hk_38 : ct_37 1006 = some (rl ty 160 (fl 8 (ub hf h9 (ub (cpy j8 (cpy 8 (hf h9) kt) (hf h9)) j8 ((cpy 8 (hf h9) kt) j8))))) := hs_37.trans (congrArg (fun f => some (rl ty 160 f)) (by rw [fl_ub (by omega) _ _, ub_s, ub_ub]))
                              have hk_39 : ct_37 1006 = some (rl ty 160 (fl 8 (ub hf h9 (cpy (j8 + 1) (cpy 8 (hf h9) kt) (hf h9))))) := hk_38.trans (congrArg (fun G => some (rl ty 160 (fl 8 G))) (by rw [cpy_s]))
                              refine lv_iinc (v := jI (((j8 : Nat) : Int) + 1)) (lv' := [(3, .int (jI (((j8 : Nat) : Int) + 1))), (0, .ref (ad 1000)), (1, .int (jI ((h9 : Nat) : Int)))]) hx hb dX6_become_201 hl (k := 0) rfl (jI_add _ _) (by decide) rfl (fun ls hl => ?_)
                              refine lv_goto (tgt := 178) hx hb dX6_become_204 (by decide) ?_
                              exact ih_LT (j8 + 1) (by omega) (by omega) ct_37 _ _ hm0_37 trivial hm1_37 trivial hk_39 trivial hm3_37 trivial hm4_37 trivial hm5_37 trivial hm6_37 trivial hof_37 trivial hW hS ls (lv_sub hl [0, 1, 2] rfl)
                        exact LT (9) (0) (by omega) (by omega) ct_29 _ _ hm0_29 trivial hk_31 trivial hk_32 trivial hm3_29 trivial hm4_29 trivial hm5_29 trivial hm6_29 trivial hof_29 trivial hW hS ls (lv_sub hl [0, 1, 2] rfl)
                      · skip
                        refine lv_aload_n hx hb dX6_become_126 rfl (lv_at hl 1 rfl) ?_
                        refine lv_iload_n hx hb dX6_become_127 rfl (lv_at hl 2 rfl) ?_
                        refine lv_iload_n hx hb dX6_become_128 rfl (lv_at hl 0 rfl) ?_
                        refine lv_aload_n hx hb dX6_become_129 rfl (lv_at hl 1 rfl) ?_
                        refine lv_aload_n hx hb dX6_become_130 rfl (lv_at hl 1 rfl) ?_
                        refine rm_get (ci := 6) (v := .ref (ad 1003)) (C := RX6) (T := TX6) (N := 19) hx hb hts (by decide +kernel) hown hK hW hv0_25 rfl 5 (by decide) (hts (.fieldLink RX6 16 "GrainYardModel" "yardOf" "[I") (by decide +kernel)) (fun _ h9 => h9) rfl dX6_become_131 ?_
                        refine lv_iload_n hx hb dX6_become_134 rfl (lv_at hl 2 rfl) ?_
                        refine rm_iald hx hb hK hW (f := (fun y => ((hy y : Nat) : Int))) ((hofv_25 1003 (by omega) (by omega) (by omega) (by omega) (by omega) (by omega) (by omega)).trans hMo.2.2.2.1) h9 rfl (by omega) (by omega) dX6_become_135 ?_
                        refine lv_iload_n hx hb dX6_become_136 rfl (lv_at hl 0 rfl) ?_
                        refine rm_calli (va_runV (As := [.int (jI ((hy h9 : Nat) : Int)), .int (jI (((k8 + 1) : Nat) : Int))]) (rest := [.int (jI (((k8 + 1) : Nat) : Int)), .int (jI ((h9 : Nat) : Int)), .ref (ad 1000)]) ⟨hx, hb, hml, hown, hts⟩ (c_X6_degreeOf l D ty ad ctv_25 H.size 0 yc hc yn yM yu hy (ub hg h9 (tkn (k8 + 1) (fun q => dg (yn (hy h9)) (yM (hy h9)) q - 1) (hg h9))) hf mA pt ro (cpy 8 (hg h9) ke) (cpy 8 (hf h9) kt) mu sl tw bw de ⟨hv0_25, ((hofv_25 1001 (by omega) (by omega) (by omega) (by omega) (by omega) (by omega) (by omega)).trans hMo.2.1), ((hofv_25 1002 (by omega) (by omega) (by omega) (by omega) (by omega) (by omega) (by omega)).trans hMo.2.2.1), ((hofv_25 1003 (by omega) (by omega) (by omega) (by omega) (by omega) (by omega) (by omega)).trans hMo.2.2.2.1), ((hofv_25 1004 (by omega) (by omega) (by omega) (by omega) (by omega) (by omega) (by omega)).trans hMo.2.2.2.2.1), hv1_25, hv2_25, ((hofv_25 1007 (by omega) (by omega) (by omega) (by omega) (by omega) (by omega) (by omega)).trans hMo.2.2.2.2.2.2.2.1), ((hofv_25 1008 (by omega) (by omega) (by omega) (by omega) (by omega) (by omega) (by omega)).trans hMo.2.2.2.2.2.2.2.2.1), ((hofv_25 1009 (by omega) (by omega) (by omega) (by omega) (by omega) (by omega) (by omega)).trans hMo.2.2.2.2.2.2.2.2.2.1), hv3_25, hv4_25, hv5_25, hv6_25, ((hofv_25 1014 (by omega) (by omega) (by omega) (by omega) (by omega) (by omega) (by omega)).trans hMo.2.2.2.2.2.2.2.2.2.2.2.2.2.2.1), ((hofv_25 1015 (by omega) (by omega) (by omega) (by omega) (by omega) (by omega) (by omega)).trans hMo.2.2.2.2.2.2.2.2.2.2.2.2.2.2.2.1), ((hofv_25 1016 (by omega) (by omega) (by omega) (by omega) (by omega) (by omega) (by omega)).trans hMo.2.2.2.2.2.2.2.2.2.2.2.2.2.2.2.2)⟩ (hy h9) (by omega) hn8 hM8 (k8 + 1) (by omega)) (cwV 2 hts gX6_become_X6_degreeOf rfl rfl rfl (by decide +kernel) ⟨Nat.le_of_ble_eq_true rfl, Nat.le_of_ble_eq_true rfl⟩) (rm_preV hK hNw hW hv0_25 rfl) rfl rfl hl.1 rfl (lv_room (Nat.le_of_ble_eq_true rfl)) dX6_become_137 ⟨Nat.zero_le _, Nat.zero_le _⟩) hW hS hA (fun z_40 ct_40 H locs hq_40 hW hS => ?_)
                        obtain ⟨hz, hcc_40⟩ := hq_40
                        have hcc_40 := hcc_40.symm
                        subst hcc_40
                        subst hz
                        have hdq := dg_rng8 hM8 hn8.2 (k8 + 1)
                        refine lv_iconst (v := jI 1) hx hb dX6_become_140 rfl ?_
                        refine rm_isub hx hb dX6_become_141 ?_
                        refine rm_i2l hx hb dX6_become_142 ⟨by omega, by omega⟩ ?_
                        refine rm_callv (va_runV (As := [.int (jI ((h9 : Nat) : Int)), .int (jI (((k8 + 1) : Nat) : Int)), .long (jL ((dg (yn (hy h9)) (yM (hy h9)) (k8 + 1)) - 1))]) (rest := []) ⟨hx, hb, hml, hown, hts⟩ (c_X6_sets l D ty ad ctv_25 H.size 0 yc hc yn yM yu hy (ub hg h9 (tkn (k8 + 1) (fun q => dg (yn (hy h9)) (yM (hy h9)) q - 1) (hg h9))) hf mA pt ro (cpy 8 (hg h9) ke) (cpy 8 (hf h9) kt) mu sl tw bw de ⟨hv0_25, ((hofv_25 1001 (by omega) (by omega) (by omega) (by omega) (by omega) (by omega) (by omega)).trans hMo.2.1), ((hofv_25 1002 (by omega) (by omega) (by omega) (by omega) (by omega) (by omega) (by omega)).trans hMo.2.2.1), ((hofv_25 1003 (by omega) (by omega) (by omega) (by omega) (by omega) (by omega) (by omega)).trans hMo.2.2.2.1), ((hofv_25 1004 (by omega) (by omega) (by omega) (by omega) (by omega) (by omega) (by omega)).trans hMo.2.2.2.2.1), hv1_25, hv2_25, ((hofv_25 1007 (by omega) (by omega) (by omega) (by omega) (by omega) (by omega) (by omega)).trans hMo.2.2.2.2.2.2.2.1), ((hofv_25 1008 (by omega) (by omega) (by omega) (by omega) (by omega) (by omega) (by omega)).trans hMo.2.2.2.2.2.2.2.2.1), ((hofv_25 1009 (by omega) (by omega) (by omega) (by omega) (by omega) (by omega) (by omega)).trans hMo.2.2.2.2.2.2.2.2.2.1), hv3_25, hv4_25, hv5_25, hv6_25, ((hofv_25 1014 (by omega) (by omega) (by omega) (by omega) (by omega) (by omega) (by omega)).trans hMo.2.2.2.2.2.2.2.2.2.2.2.2.2.2.1), ((hofv_25 1015 (by omega) (by omega) (by omega) (by omega) (by omega) (by omega) (by omega)).trans hMo.2.2.2.2.2.2.2.2.2.2.2.2.2.2.2.1), ((hofv_25 1016 (by omega) (by omega) (by omega) (by omega) (by omega) (by omega) (by omega)).trans hMo.2.2.2.2.2.2.2.2.2.2.2.2.2.2.2.2)⟩ h9 (k8 + 1) _ (by omega) (by omega)) (cwV 3 hts gX6_become_X6_sets rfl rfl rfl (by decide +kernel) ⟨Nat.le_of_ble_eq_true rfl, Nat.le_of_ble_eq_true rfl⟩) (rm_preV hK hNw hW hv0_25 rfl) rfl rfl hl.1 rfl (lv_room (Nat.le_of_ble_eq_true rfl)) dX6_become_143 ⟨Nat.zero_le _, Nat.zero_le _⟩) hW hS hA (fun ct_41 H locs hq_41 hW hS hz_41 => ?_)
                        have hqs := hq_41.1
                        rw [ub_s, ub_ub] at hqs
                        have hqs := hqs.trans (congrArg (fun X => some (rl ty 160 (fl 8 (ub hg h9 X)))) (tkn_s (i := k8 + 1) (w := (fun q => dg (yn (hy h9)) (yM (hy h9)) q - 1)) (g := hg h9) (by omega)))
                        have ho_41 : ∀ q, q ≠ 1005 → ct_41 q = ctv_25 q := hq_41.2
                        have hof_41 : ∀ q, q ≠ 1000 → q ≠ 1005 → q ≠ 1006 → q ≠ 1010 → q ≠ 1011 → q ≠ 1012 → q ≠ 1013 → ct_41 q = ct q := fun q h0_41 h1_41 h2_41 h3_41 h4_41 h5_41 h6_41 => (ho_41 q h1_41).trans (hofv_25 q h0_41 h1_41 h2_41 h3_41 h4_41 h5_41 h6_41)
                        have hm0_41 : ct_41 1000 = some (.inr (6, [.int (jI 0), .int (jI ((yc : Nat) : Int)), .int (jI ((hc : Nat) : Int)), .ref (ad 1001), .ref (ad 1002), .ref (ad 1003), .ref (ad 1004), .ref (ad 1005), .ref (ad 1006), .ref (ad 1007), .ref (ad 1008), .ref (ad 1009), .ref (ad 1010), .ref (ad 1011), .ref (ad 1012), .ref (ad 1013), .ref (ad 1014), .ref (ad 1015), .ref (ad 1016)]) : va_E) := (ho_41 1000 (by omega)).trans hv0_25
                        have hm1_41 : ct_41 1005 = some (rl ty 160 (fl 8 (ub hg h9 (tkn ((k8 + 1) + 1) (fun q => dg (yn (hy h9)) (yM (hy h9)) q - 1) (hg h9))))) := hqs
                        have hm2_41 : ct_41 1006 = some (rl ty 160 (fl 8 hf)) := (ho_41 1006 (by omega)).trans hv2_25
                        have hm3_41 : ct_41 1010 = some (rl ty 8 (cpy 8 (hg h9) ke)) := (ho_41 1010 (by omega)).trans hv3_25
                        have hm4_41 : ct_41 1011 = some (rl ty 8 (cpy 8 (hf h9) kt)) := (ho_41 1011 (by omega)).trans hv4_25
                        have hm5_41 : ct_41 1012 = some (rl ty 8 mu) := (ho_41 1012 (by omega)).trans hv5_25
                        have hm6_41 : ct_41 1013 = some (rl ty 8 sl) := (ho_41 1013 (by omega)).trans hv6_25
                        refine lv_iinc (v := jI ((((k8 + 1) : Nat) : Int) + 1)) (lv' := [(3, .int (jI ((((k8 + 1) : Nat) : Int) + 1))), (0, .ref (ad 1000)), (1, .int (jI ((h9 : Nat) : Int))), (2, .int (jI w9))]) hx hb dX6_become_146 hl (k := 0) rfl (jI_add _ _) (by decide) rfl (fun ls hl => ?_)
                        refine lv_goto (tgt := 117) hx hb dX6_become_149 (by decide) ?_
                        exact ih_LS (k8 + 1) (by omega) (by omega) ct_41 _ _ hm0_41 trivial hm1_41 trivial hm2_41 trivial hm3_41 trivial hm4_41 trivial hm5_41 trivial hm6_41 trivial hof_41 trivial hW hS ls (lv_sub hl [0, 1, 2, 3] rfl)
                  exact LS ((yn (hy h9)) + 1) (0) (by omega) (by omega) ctv_7 _ _ hv0_7 trivial h05 trivial hv2_7 trivial hk_9 trivial hk_10 trivial hv5_7 trivial hv6_7 trivial hofv_7 trivial hW hS ls (lv_sub hl [0, 1, 2, 3] rfl)
              · skip
                refine lv_iconst (v := jI 1) hx hb dX6_become_83 rfl ?_
                refine lv_istore_n (lv' := [(3, .int (jI 1)), (0, .ref (ad 1000)), (1, .int (jI ((h9 : Nat) : Int))), (2, .int (jI w9))]) hx hb dX6_become_84 rfl hl (by decide) rfl (fun ls hl => ?_)
                have h05 : ctv_7 1005 = some (rl ty 160 (fl 8 (ub hg h9 (tkn (0 + 1) (fun _ => (0 : Int)) (hg h9))))) := hv1_7.trans (congrArg (fun G => some (rl ty 160 (fl 8 G))) (by rw [← tkn_0, ub_self]))
                have LS : ∀ (k : Nat) (k8 : Nat) (hk8 : k8 + 1 ≤ (yn (hy h9))), (yn (hy h9)) - k8 < k → ∀ (ctv : rm_C) (H : Heap) (locs : List Loc), (ctv 1000 = some (.inr (6, [.int (jI 0), .int (jI ((yc : Nat) : Int)), .int (jI ((hc : Nat) : Int)), .ref (ad 1001), .ref (ad 1002), .ref (ad 1003), .ref (ad 1004), .ref (ad 1005), .ref (ad 1006), .ref (ad 1007), .ref (ad 1008), .ref (ad 1009), .ref (ad 1010), .ref (ad 1011), .ref (ad 1012), .ref (ad 1013), .ref (ad 1014), .ref (ad 1015), .ref (ad 1016)]) : va_E)) → ∀ (_ : True), (ctv 1005 = some (rl ty 160 (fl 8 (ub hg h9 (tkn (k8 + 1) (fun _ => (0 : Int)) (hg h9)))))) → ∀ (_ : True), (ctv 1006 = some (rl ty 160 (fl 8 hf))) → ∀ (_ : True), (ctv 1010 = some (rl ty 8 (cpy 8 (hg h9) ke))) → ∀ (_ : True), (ctv 1011 = some (rl ty 8 (cpy 8 (hf h9) kt))) → ∀ (_ : True), (ctv 1012 = some (rl ty 8 mu)) → ∀ (_ : True), (ctv 1013 = some (rl ty 8 sl)) → ∀ (_ : True), (∀ q, q ≠ 1000 → q ≠ 1005 → q ≠ 1006 → q ≠ 1010 → q ≠ 1011 → q ≠ 1012 → q ≠ 1013 → ctv q = ct q) → ∀ (_ : True), rm_W D ad ctv (rm_A ad ct s.heap.size) H → va_S (rm_A ad ct s.heap.size) s.heap H locs → ∀ ls : Array Slot, lv_has ls 4 [(3, .int (jI (((k8 + 1) : Nat) : Int))), (0, .ref (ad 1000)), (1, .int (jI ((h9 : Nat) : Int))), (2, .int (jI w9))] → W p l e (headSpec wsX6_become ({ frames := 7, cells := 0, slots := 0, locals := 164 })).room s m args below meth c H locs 0 0 QQ (F0 m 85 ls []) := by
                  intro k
                  induction k with
                  | zero => intro k8 hk8 hk; exact absurd hk (Nat.not_lt_zero _)
                  | succ k ih_LS =>
                    intro k8 hk8 hk ctv_42 H locs hv0_42 _ hv1_42 _ hv2_42 _ hv3_42 _ hv4_42 _ hv5_42 _ hv6_42 _ hofv_42 _ hW hS ls hl
                    refine lv_iload_n hx hb dX6_become_85 rfl (lv_at hl 0 rfl) ?_
                    refine lv_aload_n hx hb dX6_become_86 rfl (lv_at hl 1 rfl) ?_
                    refine lv_iload_n hx hb dX6_become_87 rfl (lv_at hl 2 rfl) ?_
                    refine rm_calli (va_runV (As := [.int (jI ((h9 : Nat) : Int))]) (rest := [.int (jI (((k8 + 1) : Nat) : Int))]) ⟨hx, hb, hml, hown, hts⟩ (c_X6_size l D ty ad ctv_42 H.size 0 yc hc yn yM yu hy (ub hg h9 (tkn (k8 + 1) (fun _ => (0 : Int)) (hg h9))) hf mA pt ro (cpy 8 (hg h9) ke) (cpy 8 (hf h9) kt) mu sl tw bw de ⟨hv0_42, ((hofv_42 1001 (by omega) (by omega) (by omega) (by omega) (by omega) (by omega) (by omega)).trans hMo.2.1), ((hofv_42 1002 (by omega) (by omega) (by omega) (by omega) (by omega) (by omega) (by omega)).trans hMo.2.2.1), ((hofv_42 1003 (by omega) (by omega) (by omega) (by omega) (by omega) (by omega) (by omega)).trans hMo.2.2.2.1), ((hofv_42 1004 (by omega) (by omega) (by omega) (by omega) (by omega) (by omega) (by omega)).trans hMo.2.2.2.2.1), hv1_42, hv2_42, ((hofv_42 1007 (by omega) (by omega) (by omega) (by omega) (by omega) (by omega) (by omega)).trans hMo.2.2.2.2.2.2.2.1), ((hofv_42 1008 (by omega) (by omega) (by omega) (by omega) (by omega) (by omega) (by omega)).trans hMo.2.2.2.2.2.2.2.2.1), ((hofv_42 1009 (by omega) (by omega) (by omega) (by omega) (by omega) (by omega) (by omega)).trans hMo.2.2.2.2.2.2.2.2.2.1), hv3_42, hv4_42, hv5_42, hv6_42, ((hofv_42 1014 (by omega) (by omega) (by omega) (by omega) (by omega) (by omega) (by omega)).trans hMo.2.2.2.2.2.2.2.2.2.2.2.2.2.2.1), ((hofv_42 1015 (by omega) (by omega) (by omega) (by omega) (by omega) (by omega) (by omega)).trans hMo.2.2.2.2.2.2.2.2.2.2.2.2.2.2.2.1), ((hofv_42 1016 (by omega) (by omega) (by omega) (by omega) (by omega) (by omega) (by omega)).trans hMo.2.2.2.2.2.2.2.2.2.2.2.2.2.2.2.2)⟩ h9 (by omega) (by omega)) (cwV 1 hts gX6_become_X6_size rfl rfl rfl (by decide +kernel) ⟨Nat.le_of_ble_eq_true rfl, Nat.le_of_ble_eq_true rfl⟩) (rm_preV hK hNw hW hv0_42 rfl) rfl rfl hl.1 rfl (lv_room (Nat.le_of_ble_eq_true rfl)) dX6_become_88 ⟨Nat.zero_le _, Nat.zero_le _⟩) hW hS hA (fun z_43 ct_43 H locs hq_43 hW hS => ?_)
                    obtain ⟨hz, hcc_43⟩ := hq_43
                    have hcc_43 := hcc_43.symm
                    subst hcc_43
                    subst hz
                    refine rm_icmp_ge (tgt := 107) hx hb ⟨by omega, by omega⟩ ⟨by omega, by omega⟩ dX6_become_91 (by decide) (fun hc_44 => ?_) (fun hc_44 => ?_)
                    · skip
                      have hke : k8 + 1 = (yn (hy h9)) := by omega
                      have hk_45 : ctv_42 1005 = some (rl ty 160 (fl 8 (ub hg h9 (tkn (yn (hy h9)) (fun _ => (0 : Int)) (hg h9))))) := hv1_42.trans (congrArg (fun G => some (rl ty 160 (fl 8 G))) (by rw [hke]))
                      have hl : lv_has ls 4 [(0, .ref (ad 1000)), (1, .int (jI ((h9 : Nat) : Int))), (2, .int (jI w9))] := lv_sub hl [1, 2, 3] rfl
                      refine lv_goto (tgt := 161) hx hb dX6_become_107 (by decide) ?_
                      refine lv_aload_n hx hb dX6_become_161 rfl (lv_at hl 0 rfl) ?_
                      refine rm_get (ci := 6) (v := .ref (ad 1005)) (C := RX6) (T := TX6) (N := 19) hx hb hts (by decide +kernel) hown hK hW hv0_42 rfl 7 (by decide) (hts (.fieldLink RX6 23 "GrainYardModel" "grains" "[J") (by decide +kernel)) (fun _ h9 => h9) rfl dX6_become_162 ?_
                      refine lv_bipush (v := jI 8) hx hb dX6_become_165 (by decide) ?_
                      refine lv_iload_n hx hb dX6_become_167 rfl (lv_at hl 1 rfl) ?_
                      refine rm_imul hx hb dX6_become_168 ?_
                      refine lv_aload_n hx hb dX6_become_169 rfl (lv_at hl 0 rfl) ?_
                      refine rm_get (ci := 6) (v := .ref (ad 1010)) (C := RX6) (T := TX6) (N := 19) hx hb hts (by decide +kernel) hown hK hW hv0_42 rfl 12 (by decide) (hts (.fieldLink RX6 39 "GrainYardModel" "kept" "[J") (by decide +kernel)) (fun _ h9 => h9) rfl dX6_become_170 ?_
                      refine lv_iconst (v := jI 0) hx hb dX6_become_173 rfl ?_
                      refine rm_lald hx hb hK hW (f := (cpy 8 (hg h9) ke)) hv3_42 0 rfl (by omega) (by omega) dX6_become_174 ?_
                      rw [cpy_at (by omega)]
                      rw [show (8 : Int) * ((h9 : Nat) : Int) = ((8 * h9 + 0 : Nat) : Int) by omega]
                      refine rm_last hx hb hK hW hS (f := (fl 8 (ub hg h9 (tkn (yn (hy h9)) (fun _ => (0 : Int)) (hg h9))))) hk_45 (8 * h9 + 0) (by first | rfl | (push_cast; omega)) (by omega) (by omega) dX6_become_175 (fun H locs ct_46 hs_46 ho_46 hW hS hz_46 => ?_)
                      have hof_46 : ∀ q, q ≠ 1000 → q ≠ 1005 → q ≠ 1006 → q ≠ 1010 → q ≠ 1011 → q ≠ 1012 → q ≠ 1013 → ct_46 q = ct q := fun q h0_46 h1_46 h2_46 h3_46 h4_46 h5_46 h6_46 => (ho_46 q h1_46).trans (hofv_42 q h0_46 h1_46 h2_46 h3_46 h4_46 h5_46 h6_46)
                      have hm0_46 : ct_46 1000 = some (.inr (6, [.int (jI 0), .int (jI ((yc : Nat) : Int)), .int (jI ((hc : Nat) : Int)), .ref (ad 1001), .ref (ad 1002), .ref (ad 1003), .ref (ad 1004), .ref (ad 1005), .ref (ad 1006), .ref (ad 1007), .ref (ad 1008), .ref (ad 1009), .ref (ad 1010), .ref (ad 1011), .ref (ad 1012), .ref (ad 1013), .ref (ad 1014), .ref (ad 1015), .ref (ad 1016)]) : va_E) := (ho_46 1000 (by omega)).trans hv0_42
                      have hm2_46 : ct_46 1006 = some (rl ty 160 (fl 8 hf)) := (ho_46 1006 (by omega)).trans hv2_42
                      have hm3_46 : ct_46 1010 = some (rl ty 8 (cpy 8 (hg h9) ke)) := (ho_46 1010 (by omega)).trans hv3_42
                      have hm4_46 : ct_46 1011 = some (rl ty 8 (cpy 8 (hf h9) kt)) := (ho_46 1011 (by omega)).trans hv4_42
                      have hm5_46 : ct_46 1012 = some (rl ty 8 mu) := (ho_46 1012 (by omega)).trans hv5_42
                      have hm6_46 : ct_46 1013 = some (rl ty 8 sl) := (ho_46 1013 (by omega)).trans hv6_42
                      have hk_47 : ct_46 1005 = some (rl ty 160 (fl 8 (ub hg h9 (ub (tkn (yn (hy h9)) (fun _ => (0 : Int)) (hg h9)) 0 (hg h9 0))))) := hs_46.trans (congrArg (fun f => some (rl ty 160 f)) (by rw [fl_ub (by omega) _ _, ub_s, ub_ub]))
                      refine lv_iconst (v := jI 0) hx hb dX6_become_176 rfl ?_
                      refine lv_istore_n (lv' := [(3, .int (jI 0)), (0, .ref (ad 1000)), (1, .int (jI ((h9 : Nat) : Int))), (2, .int (jI w9))]) hx hb dX6_become_177 rfl hl (by decide) rfl (fun ls hl => ?_)
                      have hk_48 : ct_46 1005 = some (rl ty 160 (fl 8 (us hg h9 (tkn (yn (hy h9)) (fun _ => (0 : Int)) (hg h9))))) := hk_47.trans (congrArg (fun G => some (rl ty 160 (fl 8 G))) (congrArg (ub hg h9) (row_end (n := (yn (hy h9))) (w := (fun _ => (0 : Int))) (g := hg h9) (X := (tkn (yn (hy h9)) (fun _ => (0 : Int)) (hg h9))) (fun q a b => tkn_in a b) (fun q hq => tkn_out (Or.inr hq)) (by omega))))
                      have hk_49 : ct_46 1006 = some (rl ty 160 (fl 8 (ub hf h9 (cpy 0 (cpy 8 (hf h9) kt) (hf h9))))) := hm2_46.trans (congrArg (fun G => some (rl ty 160 (fl 8 G))) (by rw [cpy_0]; rw [ub_self]))
                      have LT : ∀ (k : Nat) (j8 : Nat) (hj8 : j8 ≤ 8), 8 - j8 < k → ∀ (ctv : rm_C) (H : Heap) (locs : List Loc), (ctv 1000 = some (.inr (6, [.int (jI 0), .int (jI ((yc : Nat) : Int)), .int (jI ((hc : Nat) : Int)), .ref (ad 1001), .ref (ad 1002), .ref (ad 1003), .ref (ad 1004), .ref (ad 1005), .ref (ad 1006), .ref (ad 1007), .ref (ad 1008), .ref (ad 1009), .ref (ad 1010), .ref (ad 1011), .ref (ad 1012), .ref (ad 1013), .ref (ad 1014), .ref (ad 1015), .ref (ad 1016)]) : va_E)) → ∀ (_ : True), (ctv 1005 = some (rl ty 160 (fl 8 (us hg h9 (tkn (yn (hy h9)) (fun _ => (0 : Int)) (hg h9)))))) → ∀ (_ : True), (ctv 1006 = some (rl ty 160 (fl 8 (ub hf h9 (cpy j8 (cpy 8 (hf h9) kt) (hf h9)))))) → ∀ (_ : True), (ctv 1010 = some (rl ty 8 (cpy 8 (hg h9) ke))) → ∀ (_ : True), (ctv 1011 = some (rl ty 8 (cpy 8 (hf h9) kt))) → ∀ (_ : True), (ctv 1012 = some (rl ty 8 mu)) → ∀ (_ : True), (ctv 1013 = some (rl ty 8 sl)) → ∀ (_ : True), (∀ q, q ≠ 1000 → q ≠ 1005 → q ≠ 1006 → q ≠ 1010 → q ≠ 1011 → q ≠ 1012 → q ≠ 1013 → ctv q = ct q) → ∀ (_ : True), rm_W D ad ctv (rm_A ad ct s.heap.size) H → va_S (rm_A ad ct s.heap.size) s.heap H locs → ∀ ls : Array Slot, lv_has ls 4 [(3, .int (jI ((j8 : Nat) : Int))), (0, .ref (ad 1000)), (1, .int (jI ((h9 : Nat) : Int)))] → W p l e (headSpec wsX6_become ({ frames := 7, cells := 0, slots := 0, locals := 164 })).room s m args below meth c H locs 0 0 QQ (F0 m 178 ls []) := by
                        intro k
                        induction k with
                        | zero => intro j8 hj8 hk; exact absurd hk (Nat.not_lt_zero _)
                        | succ k ih_LT =>
                          intro j8 hj8 hk ctv_50 H locs hv0_50 _ hv1_50 _ hv2_50 _ hv3_50 _ hv4_50 _ hv5_50 _ hv6_50 _ hofv_50 _ hW hS ls hl
                          refine lv_iload_n hx hb dX6_become_178 rfl (lv_at hl 0 rfl) ?_
                          refine lv_bipush (v := jI 8) hx hb dX6_become_179 (by decide) ?_
                          refine rm_icmp_ge (tgt := 207) hx hb ⟨by omega, by omega⟩ ⟨by omega, by omega⟩ dX6_become_181 (by decide) (fun hc_51 => ?_) (fun hc_51 => ?_)
                          · skip
                            have hje : j8 = 8 := by omega
                            have hk_52 : ctv_50 1006 = some (rl ty 160 (fl 8 (ub hf h9 (cpy 8 (cpy 8 (hf h9) kt) (hf h9))))) := hv2_50.trans (congrArg (fun G => some (rl ty 160 (fl 8 G))) (by rw [hje]))
                            have hk_53 : ctv_50 1006 = some (rl ty 160 (fl 8 hf)) := hk_52.trans (congrArg (fun f => some (rl ty 160 f)) (cpy_8 _ _ _ _ (fun q hq => cpy_at hq)))
                            rw [hQQ]
                            exact W.vret hx hb hr (fun t ht hw => ⟨⟨ctv_50, rfl, ⟨(fun q hq9 => hofv_50 q (by omega) (by omega) (by omega) (by omega) (by omega) (by omega) (by omega)), Or.inr ⟨h9, rfl, hh9, _, Or.inl ⟨by omega, rfl⟩, ⟨mA, pt, ro, (cpy 8 (hg h9) ke), (cpy 8 (hf h9) kt), mu, sl, tw, bw, de, ⟨hv0_50, ((hofv_50 1001 (by omega) (by omega) (by omega) (by omega) (by omega) (by omega) (by omega)).trans hMo.2.1), ((hofv_50 1002 (by omega) (by omega) (by omega) (by omega) (by omega) (by omega) (by omega)).trans hMo.2.2.1), ((hofv_50 1003 (by omega) (by omega) (by omega) (by omega) (by omega) (by omega) (by omega)).trans hMo.2.2.2.1), ((hofv_50 1004 (by omega) (by omega) (by omega) (by omega) (by omega) (by omega) (by omega)).trans hMo.2.2.2.2.1), hv1_50, hk_53, ((hofv_50 1007 (by omega) (by omega) (by omega) (by omega) (by omega) (by omega) (by omega)).trans hMo.2.2.2.2.2.2.2.1), ((hofv_50 1008 (by omega) (by omega) (by omega) (by omega) (by omega) (by omega) (by omega)).trans hMo.2.2.2.2.2.2.2.2.1), ((hofv_50 1009 (by omega) (by omega) (by omega) (by omega) (by omega) (by omega) (by omega)).trans hMo.2.2.2.2.2.2.2.2.2.1), hv3_50, hv4_50, hv5_50, hv6_50, ((hofv_50 1014 (by omega) (by omega) (by omega) (by omega) (by omega) (by omega) (by omega)).trans hMo.2.2.2.2.2.2.2.2.2.2.2.2.2.2.1), ((hofv_50 1015 (by omega) (by omega) (by omega) (by omega) (by omega) (by omega) (by omega)).trans hMo.2.2.2.2.2.2.2.2.2.2.2.2.2.2.2.1), ((hofv_50 1016 (by omega) (by omega) (by omega) (by omega) (by omega) (by omega) (by omega)).trans hMo.2.2.2.2.2.2.2.2.2.2.2.2.2.2.2.2)⟩⟩⟩⟩, by show rm_W D ad _ _ t.heap; rw [ht]; exact hW, Or.inl rfl⟩, hS.F ht⟩) hS.2.2 dX6_become_207
                          · skip
                            refine lv_aload_n hx hb dX6_become_184 rfl (lv_at hl 1 rfl) ?_
                            refine rm_get (ci := 6) (v := .ref (ad 1006)) (C := RX6) (T := TX6) (N := 19) hx hb hts (by decide +kernel) hown hK hW hv0_50 rfl 8 (by decide) (hts (.fieldLink RX6 27 "GrainYardModel" "toppled" "[J") (by decide +kernel)) (fun _ h9 => h9) rfl dX6_become_185 ?_
                            refine lv_bipush (v := jI 8) hx hb dX6_become_188 (by decide) ?_
                            refine lv_iload_n hx hb dX6_become_190 rfl (lv_at hl 2 rfl) ?_
                            refine rm_imul hx hb dX6_become_191 ?_
                            refine lv_iload_n hx hb dX6_become_192 rfl (lv_at hl 0 rfl) ?_
                            refine rm_iadd hx hb dX6_become_193 ?_
                            refine lv_aload_n hx hb dX6_become_194 rfl (lv_at hl 1 rfl) ?_
                            refine rm_get (ci := 6) (v := .ref (ad 1011)) (C := RX6) (T := TX6) (N := 19) hx hb hts (by decide +kernel) hown hK hW hv0_50 rfl 13 (by decide) (hts (.fieldLink RX6 42 "GrainYardModel" "keptToppled" "[J") (by decide +kernel)) (fun _ h9 => h9) rfl dX6_become_195 ?_
                            refine lv_iload_n hx hb dX6_become_198 rfl (lv_at hl 0 rfl) ?_
                            refine rm_lald hx hb hK hW (f := (cpy 8 (hf h9) kt)) hv4_50 j8 rfl (by omega) (by omega) dX6_become_199 ?_
                            refine rm_last hx hb hK hW hS (f := (fl 8 (ub hf h9 (cpy j8 (cpy 8 (hf h9) kt) (hf h9))))) hv2_50 (8 * h9 + j8) (by first | rfl | (push_cast; omega)) (by omega) (by omega) dX6_become_200 (fun H locs ct_54 hs_54 ho_54 hW hS hz_54 => ?_)
                            have hof_54 : ∀ q, q ≠ 1000 → q ≠ 1005 → q ≠ 1006 → q ≠ 1010 → q ≠ 1011 → q ≠ 1012 → q ≠ 1013 → ct_54 q = ct q := fun q h0_54 h1_54 h2_54 h3_54 h4_54 h5_54 h6_54 => (ho_54 q h2_54).trans (hofv_50 q h0_54 h1_54 h2_54 h3_54 h4_54 h5_54 h6_54)
                            have hm0_54 : ct_54 1000 = some (.inr (6, [.int (jI 0), .int (jI ((yc : Nat) : Int)), .int (jI ((hc : Nat) : Int)), .ref (ad 1001), .ref (ad 1002), .ref (ad 1003), .ref (ad 1004), .ref (ad 1005), .ref (ad 1006), .ref (ad 1007), .ref (ad 1008), .ref (ad 1009), .ref (ad 1010), .ref (ad 1011), .ref (ad 1012), .ref (ad 1013), .ref (ad 1014), .ref (ad 1015), .ref (ad 1016)]) : va_E) := (ho_54 1000 (by omega)).trans hv0_50
                            have hm1_54 : ct_54 1005 = some (rl ty 160 (fl 8 (us hg h9 (tkn (yn (hy h9)) (fun _ => (0 : Int)) (hg h9))))) := (ho_54 1005 (by omega)).trans hv1_50
                            have hm3_54 : ct_54 1010 = some (rl ty 8 (cpy 8 (hg h9) ke)) := (ho_54 1010 (by omega)).trans hv3_50
                            have hm4_54 : ct_54 1011 = some (rl ty 8 (cpy 8 (hf h9) kt)) := (ho_54 1011 (by omega)).trans hv4_50
                            have hm5_54 : ct_54 1012 = some (rl ty 8 mu) := (ho_54 1012 (by omega)).trans hv5_50
                            have hm6_54 : ct_54 1013 = some (rl ty 8 sl) := (ho_54 1013 (by omega)).trans hv6_50
                            have hk_55 : ct_54 1006 = some (rl ty 160 (fl 8 (ub hf h9 (ub (cpy j8 (cpy 8 (hf h9) kt) (hf h9)) j8 ((cpy 8 (hf h9) kt) j8))))) := hs_54.trans (congrArg (fun f => some (rl ty 160 f)) (by rw [fl_ub (by omega) _ _, ub_s, ub_ub]))
                            have hk_56 : ct_54 1006 = some (rl ty 160 (fl 8 (ub hf h9 (cpy (j8 + 1) (cpy 8 (hf h9) kt) (hf h9))))) := hk_55.trans (congrArg (fun G => some (rl ty 160 (fl 8 G))) (by rw [cpy_s]))
                            refine lv_iinc (v := jI (((j8 : Nat) : Int) + 1)) (lv' := [(3, .int (jI (((j8 : Nat) : Int) + 1))), (0, .ref (ad 1000)), (1, .int (jI ((h9 : Nat) : Int)))]) hx hb dX6_become_201 hl (k := 0) rfl (jI_add _ _) (by decide) rfl (fun ls hl => ?_)
                            refine lv_goto (tgt := 178) hx hb dX6_become_204 (by decide) ?_
                            exact ih_LT (j8 + 1) (by omega) (by omega) ct_54 _ _ hm0_54 trivial hm1_54 trivial hk_56 trivial hm3_54 trivial hm4_54 trivial hm5_54 trivial hm6_54 trivial hof_54 trivial hW hS ls (lv_sub hl [0, 1, 2] rfl)
                      exact LT (9) (0) (by omega) (by omega) ct_46 _ _ hm0_46 trivial hk_48 trivial hk_49 trivial hm3_46 trivial hm4_46 trivial hm5_46 trivial hm6_46 trivial hof_46 trivial hW hS ls (lv_sub hl [0, 1, 2] rfl)
                    · skip
                      refine lv_aload_n hx hb dX6_become_94 rfl (lv_at hl 1 rfl) ?_
                      refine lv_iload_n hx hb dX6_become_95 rfl (lv_at hl 2 rfl) ?_
                      refine lv_iload_n hx hb dX6_become_96 rfl (lv_at hl 0 rfl) ?_
                      refine lv_lconst (v := jL 0) hx hb dX6_become_97 rfl ?_
                      refine rm_callv (va_runV (As := [.int (jI ((h9 : Nat) : Int)), .int (jI (((k8 + 1) : Nat) : Int)), .long (jL 0)]) (rest := []) ⟨hx, hb, hml, hown, hts⟩ (c_X6_sets l D ty ad ctv_42 H.size 0 yc hc yn yM yu hy (ub hg h9 (tkn (k8 + 1) (fun _ => (0 : Int)) (hg h9))) hf mA pt ro (cpy 8 (hg h9) ke) (cpy 8 (hf h9) kt) mu sl tw bw de ⟨hv0_42, ((hofv_42 1001 (by omega) (by omega) (by omega) (by omega) (by omega) (by omega) (by omega)).trans hMo.2.1), ((hofv_42 1002 (by omega) (by omega) (by omega) (by omega) (by omega) (by omega) (by omega)).trans hMo.2.2.1), ((hofv_42 1003 (by omega) (by omega) (by omega) (by omega) (by omega) (by omega) (by omega)).trans hMo.2.2.2.1), ((hofv_42 1004 (by omega) (by omega) (by omega) (by omega) (by omega) (by omega) (by omega)).trans hMo.2.2.2.2.1), hv1_42, hv2_42, ((hofv_42 1007 (by omega) (by omega) (by omega) (by omega) (by omega) (by omega) (by omega)).trans hMo.2.2.2.2.2.2.2.1), ((hofv_42 1008 (by omega) (by omega) (by omega) (by omega) (by omega) (by omega) (by omega)).trans hMo.2.2.2.2.2.2.2.2.1), ((hofv_42 1009 (by omega) (by omega) (by omega) (by omega) (by omega) (by omega) (by omega)).trans hMo.2.2.2.2.2.2.2.2.2.1), hv3_42, hv4_42, hv5_42, hv6_42, ((hofv_42 1014 (by omega) (by omega) (by omega) (by omega) (by omega) (by omega) (by omega)).trans hMo.2.2.2.2.2.2.2.2.2.2.2.2.2.2.1), ((hofv_42 1015 (by omega) (by omega) (by omega) (by omega) (by omega) (by omega) (by omega)).trans hMo.2.2.2.2.2.2.2.2.2.2.2.2.2.2.2.1), ((hofv_42 1016 (by omega) (by omega) (by omega) (by omega) (by omega) (by omega) (by omega)).trans hMo.2.2.2.2.2.2.2.2.2.2.2.2.2.2.2.2)⟩ h9 (k8 + 1) _ (by omega) (by omega)) (cwV 3 hts gX6_become_X6_sets rfl rfl rfl (by decide +kernel) ⟨Nat.le_of_ble_eq_true rfl, Nat.le_of_ble_eq_true rfl⟩) (rm_preV hK hNw hW hv0_42 rfl) rfl rfl hl.1 rfl (lv_room (Nat.le_of_ble_eq_true rfl)) dX6_become_98 ⟨Nat.zero_le _, Nat.zero_le _⟩) hW hS hA (fun ct_57 H locs hq_57 hW hS hz_57 => ?_)
                      have hqs := hq_57.1
                      rw [ub_s, ub_ub] at hqs
                      have hqs := hqs.trans (congrArg (fun X => some (rl ty 160 (fl 8 (ub hg h9 X)))) (tkn_s (i := k8 + 1) (w := (fun _ => (0 : Int))) (g := hg h9) (by omega)))
                      have ho_57 : ∀ q, q ≠ 1005 → ct_57 q = ctv_42 q := hq_57.2
                      have hof_57 : ∀ q, q ≠ 1000 → q ≠ 1005 → q ≠ 1006 → q ≠ 1010 → q ≠ 1011 → q ≠ 1012 → q ≠ 1013 → ct_57 q = ct q := fun q h0_57 h1_57 h2_57 h3_57 h4_57 h5_57 h6_57 => (ho_57 q h1_57).trans (hofv_42 q h0_57 h1_57 h2_57 h3_57 h4_57 h5_57 h6_57)
                      have hm0_57 : ct_57 1000 = some (.inr (6, [.int (jI 0), .int (jI ((yc : Nat) : Int)), .int (jI ((hc : Nat) : Int)), .ref (ad 1001), .ref (ad 1002), .ref (ad 1003), .ref (ad 1004), .ref (ad 1005), .ref (ad 1006), .ref (ad 1007), .ref (ad 1008), .ref (ad 1009), .ref (ad 1010), .ref (ad 1011), .ref (ad 1012), .ref (ad 1013), .ref (ad 1014), .ref (ad 1015), .ref (ad 1016)]) : va_E) := (ho_57 1000 (by omega)).trans hv0_42
                      have hm1_57 : ct_57 1005 = some (rl ty 160 (fl 8 (ub hg h9 (tkn ((k8 + 1) + 1) (fun _ => (0 : Int)) (hg h9))))) := hqs
                      have hm2_57 : ct_57 1006 = some (rl ty 160 (fl 8 hf)) := (ho_57 1006 (by omega)).trans hv2_42
                      have hm3_57 : ct_57 1010 = some (rl ty 8 (cpy 8 (hg h9) ke)) := (ho_57 1010 (by omega)).trans hv3_42
                      have hm4_57 : ct_57 1011 = some (rl ty 8 (cpy 8 (hf h9) kt)) := (ho_57 1011 (by omega)).trans hv4_42
                      have hm5_57 : ct_57 1012 = some (rl ty 8 mu) := (ho_57 1012 (by omega)).trans hv5_42
                      have hm6_57 : ct_57 1013 = some (rl ty 8 sl) := (ho_57 1013 (by omega)).trans hv6_42
                      refine lv_iinc (v := jI ((((k8 + 1) : Nat) : Int) + 1)) (lv' := [(3, .int (jI ((((k8 + 1) : Nat) : Int) + 1))), (0, .ref (ad 1000)), (1, .int (jI ((h9 : Nat) : Int))), (2, .int (jI w9))]) hx hb dX6_become_101 hl (k := 0) rfl (jI_add _ _) (by decide) rfl (fun ls hl => ?_)
                      refine lv_goto (tgt := 85) hx hb dX6_become_104 (by decide) ?_
                      exact ih_LS (k8 + 1) (by omega) (by omega) ct_57 _ _ hm0_57 trivial hm1_57 trivial hm2_57 trivial hm3_57 trivial hm4_57 trivial hm5_57 trivial hm6_57 trivial hof_57 trivial hW hS ls (lv_sub hl [0, 1, 2, 3] rfl)
                exact LS ((yn (hy h9)) + 1) (0) (by omega) (by omega) ctv_7 _ _ hv0_7 trivial h05 trivial hv2_7 trivial hk_9 trivial hk_10 trivial hv5_7 trivial hv6_7 trivial hofv_7 trivial hW hS ls (lv_sub hl [0, 1, 2, 3] rfl)
            · skip
              refine lv_aload_n hx hb dX6_become_39 rfl (lv_at hl 1 rfl) ?_
              refine rm_get (ci := 6) (v := .ref (ad 1010)) (C := RX6) (T := TX6) (N := 19) hx hb hts (by decide +kernel) hown hK hW hv0_7 rfl 12 (by decide) (hts (.fieldLink RX6 39 "GrainYardModel" "kept" "[J") (by decide +kernel)) (fun _ h9 => h9) rfl dX6_become_40 ?_
              refine lv_iload_n hx hb dX6_become_43 rfl (lv_at hl 0 rfl) ?_
              refine lv_aload_n hx hb dX6_become_44 rfl (lv_at hl 1 rfl) ?_
              refine rm_get (ci := 6) (v := .ref (ad 1005)) (C := RX6) (T := TX6) (N := 19) hx hb hts (by decide +kernel) hown hK hW hv0_7 rfl 7 (by decide) (hts (.fieldLink RX6 23 "GrainYardModel" "grains" "[J") (by decide +kernel)) (fun _ h9 => h9) rfl dX6_become_45 ?_
              refine lv_bipush (v := jI 8) hx hb dX6_become_48 (by decide) ?_
              refine lv_iload_n hx hb dX6_become_50 rfl (lv_at hl 2 rfl) ?_
              refine rm_imul hx hb dX6_become_51 ?_
              refine lv_iload_n hx hb dX6_become_52 rfl (lv_at hl 0 rfl) ?_
              refine rm_iadd hx hb dX6_become_53 ?_
              refine rm_lald hx hb hK hW (f := (fl 8 hg)) hv1_7 (8 * h9 + i8) (by first | rfl | (push_cast; omega)) (by omega) (by omega) dX6_become_54 ?_
              rw [fl_at (by omega)]
              refine rm_last hx hb hK hW hS (f := (cpy i8 (hg h9) ke)) hv3_7 i8 rfl (by omega) (by omega) dX6_become_55 (fun H locs ct_58 hs_58 ho_58 hW hS hz_58 => ?_)
              have hof_58 : ∀ q, q ≠ 1000 → q ≠ 1005 → q ≠ 1006 → q ≠ 1010 → q ≠ 1011 → q ≠ 1012 → q ≠ 1013 → ct_58 q = ct q := fun q h0_58 h1_58 h2_58 h3_58 h4_58 h5_58 h6_58 => (ho_58 q h3_58).trans (hofv_7 q h0_58 h1_58 h2_58 h3_58 h4_58 h5_58 h6_58)
              have hm0_58 : ct_58 1000 = some (.inr (6, [.int (jI 0), .int (jI ((yc : Nat) : Int)), .int (jI ((hc : Nat) : Int)), .ref (ad 1001), .ref (ad 1002), .ref (ad 1003), .ref (ad 1004), .ref (ad 1005), .ref (ad 1006), .ref (ad 1007), .ref (ad 1008), .ref (ad 1009), .ref (ad 1010), .ref (ad 1011), .ref (ad 1012), .ref (ad 1013), .ref (ad 1014), .ref (ad 1015), .ref (ad 1016)]) : va_E) := (ho_58 1000 (by omega)).trans hv0_7
              have hm1_58 : ct_58 1005 = some (rl ty 160 (fl 8 hg)) := (ho_58 1005 (by omega)).trans hv1_7
              have hm2_58 : ct_58 1006 = some (rl ty 160 (fl 8 hf)) := (ho_58 1006 (by omega)).trans hv2_7
              have hm4_58 : ct_58 1011 = some (rl ty 8 (cpy i8 (hf h9) kt)) := (ho_58 1011 (by omega)).trans hv4_7
              have hm5_58 : ct_58 1012 = some (rl ty 8 mu) := (ho_58 1012 (by omega)).trans hv5_7
              have hm6_58 : ct_58 1013 = some (rl ty 8 sl) := (ho_58 1013 (by omega)).trans hv6_7
              refine lv_aload_n hx hb dX6_become_56 rfl (lv_at hl 1 rfl) ?_
              refine rm_get (ci := 6) (v := .ref (ad 1011)) (C := RX6) (T := TX6) (N := 19) hx hb hts (by decide +kernel) hown hK hW hm0_58 rfl 13 (by decide) (hts (.fieldLink RX6 42 "GrainYardModel" "keptToppled" "[J") (by decide +kernel)) (fun _ h9 => h9) rfl dX6_become_57 ?_
              refine lv_iload_n hx hb dX6_become_60 rfl (lv_at hl 0 rfl) ?_
              refine lv_aload_n hx hb dX6_become_61 rfl (lv_at hl 1 rfl) ?_
              refine rm_get (ci := 6) (v := .ref (ad 1006)) (C := RX6) (T := TX6) (N := 19) hx hb hts (by decide +kernel) hown hK hW hm0_58 rfl 8 (by decide) (hts (.fieldLink RX6 27 "GrainYardModel" "toppled" "[J") (by decide +kernel)) (fun _ h9 => h9) rfl dX6_become_62 ?_
              refine lv_bipush (v := jI 8) hx hb dX6_become_65 (by decide) ?_
              refine lv_iload_n hx hb dX6_become_67 rfl (lv_at hl 2 rfl) ?_
              refine rm_imul hx hb dX6_become_68 ?_
              refine lv_iload_n hx hb dX6_become_69 rfl (lv_at hl 0 rfl) ?_
              refine rm_iadd hx hb dX6_become_70 ?_
              refine rm_lald hx hb hK hW (f := (fl 8 hf)) hm2_58 (8 * h9 + i8) (by first | rfl | (push_cast; omega)) (by omega) (by omega) dX6_become_71 ?_
              rw [fl_at (by omega)]
              refine rm_last hx hb hK hW hS (f := (cpy i8 (hf h9) kt)) hm4_58 i8 rfl (by omega) (by omega) dX6_become_72 (fun H locs ct_59 hs_59 ho_59 hW hS hz_59 => ?_)
              have hof_59 : ∀ q, q ≠ 1000 → q ≠ 1005 → q ≠ 1006 → q ≠ 1010 → q ≠ 1011 → q ≠ 1012 → q ≠ 1013 → ct_59 q = ct q := fun q h0_59 h1_59 h2_59 h3_59 h4_59 h5_59 h6_59 => (ho_59 q h4_59).trans (hof_58 q h0_59 h1_59 h2_59 h3_59 h4_59 h5_59 h6_59)
              have hm0_59 : ct_59 1000 = some (.inr (6, [.int (jI 0), .int (jI ((yc : Nat) : Int)), .int (jI ((hc : Nat) : Int)), .ref (ad 1001), .ref (ad 1002), .ref (ad 1003), .ref (ad 1004), .ref (ad 1005), .ref (ad 1006), .ref (ad 1007), .ref (ad 1008), .ref (ad 1009), .ref (ad 1010), .ref (ad 1011), .ref (ad 1012), .ref (ad 1013), .ref (ad 1014), .ref (ad 1015), .ref (ad 1016)]) : va_E) := (ho_59 1000 (by omega)).trans hm0_58
              have hm1_59 : ct_59 1005 = some (rl ty 160 (fl 8 hg)) := (ho_59 1005 (by omega)).trans hm1_58
              have hm2_59 : ct_59 1006 = some (rl ty 160 (fl 8 hf)) := (ho_59 1006 (by omega)).trans hm2_58
              have hm3_59 : ct_59 1010 = some (rl ty 8 (ub (cpy i8 (hg h9) ke) i8 (hg h9 i8))) := (ho_59 1010 (by omega)).trans hs_58
              have hm5_59 : ct_59 1012 = some (rl ty 8 mu) := (ho_59 1012 (by omega)).trans hm5_58
              have hm6_59 : ct_59 1013 = some (rl ty 8 sl) := (ho_59 1013 (by omega)).trans hm6_58
              have hk_60 : ct_59 1010 = some (rl ty 8 (cpy (i8 + 1) (hg h9) ke)) := hm3_59.trans (congrArg (fun f => some (rl ty 8 f)) (cpy_s _ _ _))
              have hk_61 : ct_59 1011 = some (rl ty 8 (cpy (i8 + 1) (hf h9) kt)) := hs_59.trans (congrArg (fun f => some (rl ty 8 f)) (cpy_s _ _ _))
              refine lv_iinc (v := jI (((i8 : Nat) : Int) + 1)) (lv' := [(3, .int (jI (((i8 : Nat) : Int) + 1))), (0, .ref (ad 1000)), (1, .int (jI ((h9 : Nat) : Int))), (2, .int (jI w9))]) hx hb dX6_become_73 hl (k := 0) rfl (jI_add _ _) (by decide) rfl (fun ls hl => ?_)
              refine lv_goto (tgt := 33) hx hb dX6_become_76 (by decide) ?_
              exact ih_LP (i8 + 1) (by omega) (by omega) ct_59 _ _ hm0_59 trivial hm1_59 trivial hm2_59 trivial hk_60 trivial hk_61 trivial hm5_59 trivial hm6_59 trivial hof_59 trivial hW hS ls (lv_sub hl [0, 1, 2, 3] rfl)
        exact LP (9) (0) (by omega) (by omega) ct_6 _ _ hm0_6 trivial hm1_6 trivial hm2_6 trivial (hm3_6.trans (congrArg (fun f => some (rl ty 8 f)) (cpy_0 _ _).symm)) trivial (hm4_6.trans (congrArg (fun f => some (rl ty 8 f)) (cpy_0 _ _).symm)) trivial hm5_6 trivial hm6_6 trivial hof_6 trivial hW hS ls (lv_sub hl [0, 1, 2, 3] rfl)
