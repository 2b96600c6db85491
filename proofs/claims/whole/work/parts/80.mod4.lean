theorem dg_rng8 {n : Nat} {M : Nat → Nat → Int} (hM : ∀ i j, 0 ≤ M i j ∧ M i j ≤ 3) (hn : n ≤ 8) (p : Nat) : 0 ≤ dg n M p ∧ dg n M p ≤ 24 := by
  have h1 := gs_nn (f := fun q => M p q) (n := n) (fun k _ => (hM p k).1)
  have h2 := gs_le (f := fun q => M p q) (g := fun _ => 3) (n := n) (fun k _ => (hM p k).2)
  rw [gs_const] at h2
  unfold dg; omega
set_option maxHeartbeats 4000000 in
set_option maxRecDepth 100000 in
theorem c_X6_whole (l : Launch) (D : va_G) (ty : Nat → ClassId) (ad : Nat → Nat) (ct : rm_C) (sz : Nat) (th : Int) (yc hc : Nat) (yn : Nat → Nat) (yM : Nat → Nat → Nat → Int) (yu : Nat → Int) (hy : Nat → Nat) (hg hf mA : Nat → Nat → Int) (pt ro ke kt mu sl tw bw de : Nat → Int) (hMo : ModAt ty ad ct th yc hc yn yM yu hy hg hf mA pt ro ke kt mu sl tw bw de) (hb20 : yc ≤ 6 ∧ hc ≤ 20) (hyn : ∀ y, y < yc → 2 ≤ yn y ∧ yn y ≤ 8) (hyM : ∀ y, y < yc → ∀ i j, 0 ≤ yM y i j ∧ yM y i j ≤ 3) (z9 : Int) (hz9 : r32 z9) : Met l yX6_whole wsX6_whole ({ frames := 2, cells := 0, slots := 0, locals := 48 }) (rm_P D ty ad ct sz [.ref (ad 1000), .int (jI z9)]) (rm_Qi D ad ct sz (fun z ct1 => (∀ q, (q < 1000 ∨ 1016 < q) → ct1 q = ct q) ∧ (((z9 < 0 ∨ ((yc : Nat) : Int) ≤ z9) ∧ ModX ty ad ct1 1 yc hc yn yM yu hy hg hf) ∨ ∃ y9 : Nat, z9 = (y9 : Int) ∧ y9 < yc ∧ z = (if isz (yn y9) (yM y9) 8 = 2 ^ yn y9 - 1 then 1 else 0) ∧ ModX ty ad ct1 0 yc hc yn yM yu hy hg hf))) 0 0 (rm_A ad ct sz) := by
  refine Met.ofW (cc := cX6_whole) (maxL := 2) (ret := (some .boolean)) (by decide) rfl ?_
  intro p e s m args below meth c s₁ B hml hv
  obtain ⟨hargs, hsz, hW, hK, hNw⟩ := hv
  have hx := B.exec
  have hb := B.bytes
  have hr := B.returns
  have hts := atoms_spec (ws := wsX6_whole) B.pre
  have hown : s.vm.findClass RX6 = some m.cls := findClass_of_methodNamed B.named
  have hlocks := B.notSynchronized
  subst hsz
  have hW := hW.own (sz := s.heap.size)
  have hA : ∀ q : Nat, s.heap.size ≤ q → rm_A ad ct s.heap.size q := fun q h => Or.inr h
  have hS : va_S (rm_A ad ct s.heap.size) s.heap s.heap [] := va_S.rf
  have hent : entryFrame m args 2 = entryFrame m ([.ref (ad 1000), .int (jI z9)] : List Value).toArray 2 := by rw [hargs]
  have hl := lv_entry ([.ref (ad 1000), .int (jI z9)]) (n := 2) (Nat.le_of_ble_eq_true rfl)
  rw [hent, lg_entry_eq]
  generalize (lg_sl ([.ref (ad 1000), .int (jI z9)]) ++ List.replicate (2 - (lg_sl ([.ref (ad 1000), .int (jI z9)])).length) Slot.unset).toArray = ls at hl ⊢
  have hl : lv_has ls 2 [(0, .ref (ad 1000)), (1, .int (jI z9))] := hl
  refine lv_aload_n hx hb dX6_whole_0 rfl (lv_at hl 0 rfl) ?_
  refine lv_iload_n hx hb dX6_whole_1 rfl (lv_at hl 1 rfl) ?_
  refine rm_calli (va_runV (As := [.int (jI z9)]) (rest := []) ⟨hx, hb, hml, hown, hts⟩ (c_X6_isYard l D ty ad ct s.heap.size th yc hc yn yM yu hy hg hf mA pt ro ke kt mu sl tw bw de hMo z9 hz9 hb20) (cwV 1 hts gX6_whole_X6_isYard rfl rfl rfl (by decide +kernel) ⟨Nat.le_of_ble_eq_true rfl, Nat.le_of_ble_eq_true rfl⟩) (rm_preV hK hNw hW hMo.1 rfl) rfl rfl hl.1 rfl (lv_room (Nat.le_of_ble_eq_true rfl)) dX6_whole_2 ⟨Nat.zero_le _, Nat.zero_le _⟩) hW hS hA (fun z_1 ct_1 H locs hq_1 hW hS => ?_)
  obtain ⟨hqo, hqc⟩ := hq_1
  rcases hqc with ⟨hbad, hz, hqs⟩ | ⟨hp1, hp2, hz, hqs⟩
  · skip
    subst hz
    have ho_1 : ∀ q, q ≠ 1000 → ct_1 q = ct q := hqo
    have hof_1 : ∀ q, q ≠ 1000 → ct_1 q = ct q := fun q h0_1 => (ho_1 q h0_1).trans rfl
    have hm0_1 : ct_1 1000 = some (.inr (6, [.int (jI 1), .int (jI ((yc : Nat) : Int)), .int (jI ((hc : Nat) : Int)), .ref (ad 1001), .ref (ad 1002), .ref (ad 1003), .ref (ad 1004), .ref (ad 1005), .ref (ad 1006), .ref (ad 1007), .ref (ad 1008), .ref (ad 1009), .ref (ad 1010), .ref (ad 1011), .ref (ad 1012), .ref (ad 1013), .ref (ad 1014), .ref (ad 1015), .ref (ad 1016)]) : va_E) := hqs
    refine rm_if_eq (tgt := 20) hx hb ⟨by omega, by omega⟩ dX6_whole_5 (by decide) (fun _ => ?_) (fun hq => absurd hq (by omega))
    refine lv_iconst (v := jI 0) hx hb dX6_whole_20 rfl ?_
    exact W.zret hx hb hr (by decide) (fun t ht hw => ⟨⟨_, (0, ct_1), rfl, ⟨rfl, ⟨(fun q hq9 => hof_1 q (by omega)), Or.inl ⟨hbad, ⟨mA, pt, ro, ke, kt, mu, sl, tw, bw, de, ⟨hm0_1, ((hof_1 1001 (by omega)).trans hMo.2.1), ((hof_1 1002 (by omega)).trans hMo.2.2.1), ((hof_1 1003 (by omega)).trans hMo.2.2.2.1), ((hof_1 1004 (by omega)).trans hMo.2.2.2.2.1), ((hof_1 1005 (by omega)).trans hMo.2.2.2.2.2.1), ((hof_1 1006 (by omega)).trans hMo.2.2.2.2.2.2.1), ((hof_1 1007 (by omega)).trans hMo.2.2.2.2.2.2.2.1), ((hof_1 1008 (by omega)).trans hMo.2.2.2.2.2.2.2.2.1), ((hof_1 1009 (by omega)).trans hMo.2.2.2.2.2.2.2.2.2.1), ((hof_1 1010 (by omega)).trans hMo.2.2.2.2.2.2.2.2.2.2.1), ((hof_1 1011 (by omega)).trans hMo.2.2.2.2.2.2.2.2.2.2.2.1), ((hof_1 1012 (by omega)).trans hMo.2.2.2.2.2.2.2.2.2.2.2.2.1), ((hof_1 1013 (by omega)).trans hMo.2.2.2.2.2.2.2.2.2.2.2.2.2.1), ((hof_1 1014 (by omega)).trans hMo.2.2.2.2.2.2.2.2.2.2.2.2.2.2.1), ((hof_1 1015 (by omega)).trans hMo.2.2.2.2.2.2.2.2.2.2.2.2.2.2.2.1), ((hof_1 1016 (by omega)).trans hMo.2.2.2.2.2.2.2.2.2.2.2.2.2.2.2.2)⟩⟩⟩⟩⟩, by show rm_W D ad _ _ t.heap; rw [ht]; exact hW⟩, hS.F ht⟩) hS.2.2 dX6_whole_21
  · skip
    subst hz
    have ho_1 : ∀ q, q ≠ 1000 → ct_1 q = ct q := hqo
    have hof_1 : ∀ q, q ≠ 1000 → ct_1 q = ct q := fun q h0_1 => (ho_1 q h0_1).trans rfl
    have hm0_1 : ct_1 1000 = some (.inr (6, [.int (jI 0), .int (jI ((yc : Nat) : Int)), .int (jI ((hc : Nat) : Int)), .ref (ad 1001), .ref (ad 1002), .ref (ad 1003), .ref (ad 1004), .ref (ad 1005), .ref (ad 1006), .ref (ad 1007), .ref (ad 1008), .ref (ad 1009), .ref (ad 1010), .ref (ad 1011), .ref (ad 1012), .ref (ad 1013), .ref (ad 1014), .ref (ad 1015), .ref (ad 1016)]) : va_E) := hqs
    obtain ⟨y9, hn_y9⟩ : ∃ y9 : Nat, z9 = (y9 : Int) := ⟨z9.toNat, by omega⟩
    subst hn_y9
    have hy9 : y9 < yc := by omega
    have hn8 := hyn y9 hy9
    have hM8 := hyM y9 hy9
    refine rm_if_eq (tgt := 20) hx hb ⟨by omega, by omega⟩ dX6_whole_5 (by decide) (fun hq => absurd hq (by omega)) (fun _ => ?_)
    refine lv_aload_n hx hb dX6_whole_8 rfl (lv_at hl 0 rfl) ?_
    refine lv_iload_n hx hb dX6_whole_9 rfl (lv_at hl 1 rfl) ?_
    refine rm_calli (va_runV (As := [.int (jI ((y9 : Nat) : Int))]) (rest := []) ⟨hx, hb, hml, hown, hts⟩ (c_X6_isWhole l D ty ad ct_1 H.size 0 yc hc yn yM yu hy hg hf mA pt ro ke kt mu sl tw bw de ⟨hm0_1, ((hof_1 1001 (by omega)).trans hMo.2.1), ((hof_1 1002 (by omega)).trans hMo.2.2.1), ((hof_1 1003 (by omega)).trans hMo.2.2.2.1), ((hof_1 1004 (by omega)).trans hMo.2.2.2.2.1), ((hof_1 1005 (by omega)).trans hMo.2.2.2.2.2.1), ((hof_1 1006 (by omega)).trans hMo.2.2.2.2.2.2.1), ((hof_1 1007 (by omega)).trans hMo.2.2.2.2.2.2.2.1), ((hof_1 1008 (by omega)).trans hMo.2.2.2.2.2.2.2.2.1), ((hof_1 1009 (by omega)).trans hMo.2.2.2.2.2.2.2.2.2.1), ((hof_1 1010 (by omega)).trans hMo.2.2.2.2.2.2.2.2.2.2.1), ((hof_1 1011 (by omega)).trans hMo.2.2.2.2.2.2.2.2.2.2.2.1), ((hof_1 1012 (by omega)).trans hMo.2.2.2.2.2.2.2.2.2.2.2.2.1), ((hof_1 1013 (by omega)).trans hMo.2.2.2.2.2.2.2.2.2.2.2.2.2.1), ((hof_1 1014 (by omega)).trans hMo.2.2.2.2.2.2.2.2.2.2.2.2.2.2.1), ((hof_1 1015 (by omega)).trans hMo.2.2.2.2.2.2.2.2.2.2.2.2.2.2.2.1), ((hof_1 1016 (by omega)).trans hMo.2.2.2.2.2.2.2.2.2.2.2.2.2.2.2.2)⟩ y9 (by omega) hn8 hM8) (cwV 1 hts gX6_whole_X6_isWhole rfl rfl rfl (by decide +kernel) ⟨Nat.le_of_ble_eq_true rfl, Nat.le_of_ble_eq_true rfl⟩) (rm_preV hK hNw hW hm0_1 rfl) rfl rfl hl.1 rfl (lv_room (Nat.le_of_ble_eq_true rfl)) dX6_whole_10 ⟨Nat.zero_le _, Nat.zero_le _⟩) hW hS hA (fun z_2 ct_2 H locs hq_2 hW hS => ?_)
    obtain ⟨hz, hcc_2⟩ := hq_2
    have hcc_2 := hcc_2.symm
    subst hcc_2
    by_cases hww : isz (yn y9) (yM y9) 8 = 2 ^ yn y9 - 1
    · skip
      rw [if_pos hww] at hz
      subst hz
      refine rm_if_eq (tgt := 20) hx hb ⟨by omega, by omega⟩ dX6_whole_13 (by decide) (fun hq => absurd hq (by omega)) (fun _ => ?_)
      refine lv_iconst (v := jI 1) hx hb dX6_whole_16 rfl ?_
      refine lv_goto (tgt := 21) hx hb dX6_whole_17 (by decide) ?_
      exact W.zret hx hb hr (by decide) (fun t ht hw => ⟨⟨_, (1, ct_1), rfl, ⟨rfl, ⟨(fun q hq9 => hof_1 q (by omega)), Or.inr ⟨y9, rfl, hy9, (if_pos hww).symm, ⟨mA, pt, ro, ke, kt, mu, sl, tw, bw, de, ⟨hm0_1, ((hof_1 1001 (by omega)).trans hMo.2.1), ((hof_1 1002 (by omega)).trans hMo.2.2.1), ((hof_1 1003 (by omega)).trans hMo.2.2.2.1), ((hof_1 1004 (by omega)).trans hMo.2.2.2.2.1), ((hof_1 1005 (by omega)).trans hMo.2.2.2.2.2.1), ((hof_1 1006 (by omega)).trans hMo.2.2.2.2.2.2.1), ((hof_1 1007 (by omega)).trans hMo.2.2.2.2.2.2.2.1), ((hof_1 1008 (by omega)).trans hMo.2.2.2.2.2.2.2.2.1), ((hof_1 1009 (by omega)).trans hMo.2.2.2.2.2.2.2.2.2.1), ((hof_1 1010 (by omega)).trans hMo.2.2.2.2.2.2.2.2.2.2.1), ((hof_1 1011 (by omega)).trans hMo.2.2.2.2.2.2.2.2.2.2.2.1), ((hof_1 1012 (by omega)).trans hMo.2.2.2.2.2.2.2.2.2.2.2.2.1), ((hof_1 1013 (by omega)).trans hMo.2.2.2.2.2.2.2.2.2.2.2.2.2.1), ((hof_1 1014 (by omega)).trans hMo.2.2.2.2.2.2.2.2.2.2.2.2.2.2.1), ((hof_1 1015 (by omega)).trans hMo.2.2.2.2.2.2.2.2.2.2.2.2.2.2.2.1), ((hof_1 1016 (by omega)).trans hMo.2.2.2.2.2.2.2.2.2.2.2.2.2.2.2.2)⟩⟩⟩⟩⟩, by show rm_W D ad _ _ t.heap; rw [ht]; exact hW⟩, hS.F ht⟩) hS.2.2 dX6_whole_21
    · skip
      rw [if_neg hww] at hz
      subst hz
      refine rm_if_eq (tgt := 20) hx hb ⟨by omega, by omega⟩ dX6_whole_13 (by decide) (fun _ => ?_) (fun hq => absurd hq (by omega))
      refine lv_iconst (v := jI 0) hx hb dX6_whole_20 rfl ?_
      exact W.zret hx hb hr (by decide) (fun t ht hw => ⟨⟨_, (0, ct_1), rfl, ⟨rfl, ⟨(fun q hq9 => hof_1 q (by omega)), Or.inr ⟨y9, rfl, hy9, (if_neg hww).symm, ⟨mA, pt, ro, ke, kt, mu, sl, tw, bw, de, ⟨hm0_1, ((hof_1 1001 (by omega)).trans hMo.2.1), ((hof_1 1002 (by omega)).trans hMo.2.2.1), ((hof_1 1003 (by omega)).trans hMo.2.2.2.1), ((hof_1 1004 (by omega)).trans hMo.2.2.2.2.1), ((hof_1 1005 (by omega)).trans hMo.2.2.2.2.2.1), ((hof_1 1006 (by omega)).trans hMo.2.2.2.2.2.2.1), ((hof_1 1007 (by omega)).trans hMo.2.2.2.2.2.2.2.1), ((hof_1 1008 (by omega)).trans hMo.2.2.2.2.2.2.2.2.1), ((hof_1 1009 (by omega)).trans hMo.2.2.2.2.2.2.2.2.2.1), ((hof_1 1010 (by omega)).trans hMo.2.2.2.2.2.2.2.2.2.2.1), ((hof_1 1011 (by omega)).trans hMo.2.2.2.2.2.2.2.2.2.2.2.1), ((hof_1 1012 (by omega)).trans hMo.2.2.2.2.2.2.2.2.2.2.2.2.1), ((hof_1 1013 (by omega)).trans hMo.2.2.2.2.2.2.2.2.2.2.2.2.2.1), ((hof_1 1014 (by omega)).trans hMo.2.2.2.2.2.2.2.2.2.2.2.2.2.2.1), ((hof_1 1015 (by omega)).trans hMo.2.2.2.2.2.2.2.2.2.2.2.2.2.2.2.1), ((hof_1 1016 (by omega)).trans hMo.2.2.2.2.2.2.2.2.2.2.2.2.2.2.2.2)⟩⟩⟩⟩⟩, by show rm_W D ad _ _ t.heap; rw [ht]; exact hW⟩, hS.F ht⟩) hS.2.2 dX6_whole_21
set_option maxHeartbeats 4000000 in
set_option maxRecDepth 100000 in
theorem c_X6_heap (l : Launch) (D : va_G) (ty : Nat → ClassId) (ad : Nat → Nat) (ct : rm_C) (sz : Nat) (th : Int) (yc hc : Nat) (yn : Nat → Nat) (yM : Nat → Nat → Nat → Int) (yu : Nat → Int) (hy : Nat → Nat) (hg hf mA : Nat → Nat → Int) (pt ro ke kt mu sl tw bw de : Nat → Int) (hMo : ModAt ty ad ct th yc hc yn yM yu hy hg hf mA pt ro ke kt mu sl tw bw de) (hb20 : yc ≤ 6 ∧ hc ≤ 20) (hyn : ∀ y, y < yc → 2 ≤ yn y ∧ yn y ≤ 8) (hyM : ∀ y, y < yc → ∀ i j, 0 ≤ yM y i j ∧ yM y i j ≤ 3) (z9 : Int) (hz9 : r32 z9) : Met l yX6_heap wsX6_heap ({ frames := 2, cells := 0, slots := 0, locals := 48 }) (rm_P D ty ad ct sz [.ref (ad 1000), .int (jI z9)]) (rm_Qi D ad ct sz (fun z ct1 => (∀ q, (q < 1000 ∨ 1016 < q) → ct1 q = ct q) ∧ (((z9 < 0 ∨ ((yc : Nat) : Int) ≤ z9) ∧ ModX ty ad ct1 1 yc hc yn yM yu hy hg hf) ∨ ∃ y9 : Nat, z9 = (y9 : Int) ∧ y9 < yc ∧ (((20 ≤ hc ∨ isz (yn y9) (yM y9) 8 ≠ 2 ^ yn y9 - 1) ∧ z = -1 ∧ ModX ty ad ct1 0 yc hc yn yM yu hy hg hf) ∨ (hc < 20 ∧ isz (yn y9) (yM y9) 8 = 2 ^ yn y9 - 1 ∧ z = (hc : Int) ∧ ModX ty ad ct1 0 yc (hc + 1) yn yM (us yu y9 1) (us hy hc y9) hg hf))))) 0 0 (rm_A ad ct sz) := by
  refine Met.ofW (cc := cX6_heap) (maxL := 2) (ret := (some .int)) (by decide) rfl ?_
  intro p e s m args below meth c s₁ B hml hv
  obtain ⟨hargs, hsz, hW, hK, hNw⟩ := hv
  have hx := B.exec
  have hb := B.bytes
  have hr := B.returns
  have hts := atoms_spec (ws := wsX6_heap) B.pre
  have hown : s.vm.findClass RX6 = some m.cls := findClass_of_methodNamed B.named
  have hlocks := B.notSynchronized
  subst hsz
  have hW := hW.own (sz := s.heap.size)
  have hA : ∀ q : Nat, s.heap.size ≤ q → rm_A ad ct s.heap.size q := fun q h => Or.inr h
  have hS : va_S (rm_A ad ct s.heap.size) s.heap s.heap [] := va_S.rf
  have hent : entryFrame m args 2 = entryFrame m ([.ref (ad 1000), .int (jI z9)] : List Value).toArray 2 := by rw [hargs]
  have hl := lv_entry ([.ref (ad 1000), .int (jI z9)]) (n := 2) (Nat.le_of_ble_eq_true rfl)
  rw [hent, lg_entry_eq]
  generalize (lg_sl ([.ref (ad 1000), .int (jI z9)]) ++ List.replicate (2 - (lg_sl ([.ref (ad 1000), .int (jI z9)])).length) Slot.unset).toArray = ls at hl ⊢
  have hl : lv_has ls 2 [(0, .ref (ad 1000)), (1, .int (jI z9))] := hl
  refine lv_aload_n hx hb dX6_heap_0 rfl (lv_at hl 0 rfl) ?_
  refine lv_iload_n hx hb dX6_heap_1 rfl (lv_at hl 1 rfl) ?_
  refine rm_calli (va_runV (As := [.int (jI z9)]) (rest := []) ⟨hx, hb, hml, hown, hts⟩ (c_X6_isYard l D ty ad ct s.heap.size th yc hc yn yM yu hy hg hf mA pt ro ke kt mu sl tw bw de hMo z9 hz9 hb20) (cwV 1 hts gX6_heap_X6_isYard rfl rfl rfl (by decide +kernel) ⟨Nat.le_of_ble_eq_true rfl, Nat.le_of_ble_eq_true rfl⟩) (rm_preV hK hNw hW hMo.1 rfl) rfl rfl hl.1 rfl (lv_room (Nat.le_of_ble_eq_true rfl)) dX6_heap_2 ⟨Nat.zero_le _, Nat.zero_le _⟩) hW hS hA (fun z_1 ct_1 H locs hq_1 hW hS => ?_)
  obtain ⟨hqo, hqc⟩ := hq_1
  rcases hqc with ⟨hbad, hz, hqs⟩ | ⟨hp1, hp2, hz, hqs⟩
  · skip
    subst hz
    have ho_1 : ∀ q, q ≠ 1000 → ct_1 q = ct q := hqo
    have hof_1 : ∀ q, q ≠ 1000 → q ≠ 1003 → q ≠ 1004 → ct_1 q = ct q := fun q h0_1 h1_1 h2_1 => (ho_1 q h0_1).trans rfl
    have hm0_1 : ct_1 1000 = some (.inr (6, [.int (jI 1), .int (jI ((yc : Nat) : Int)), .int (jI ((hc : Nat) : Int)), .ref (ad 1001), .ref (ad 1002), .ref (ad 1003), .ref (ad 1004), .ref (ad 1005), .ref (ad 1006), .ref (ad 1007), .ref (ad 1008), .ref (ad 1009), .ref (ad 1010), .ref (ad 1011), .ref (ad 1012), .ref (ad 1013), .ref (ad 1014), .ref (ad 1015), .ref (ad 1016)]) : va_E) := hqs
    have hm1_1 : ct_1 1003 = some (ri ty 20 (fun y => ((hy y : Nat) : Int))) := (ho_1 1003 (by omega)).trans hMo.2.2.2.1
    have hm2_1 : ct_1 1004 = some (rz ty 6 yu) := (ho_1 1004 (by omega)).trans hMo.2.2.2.2.1
    refine rm_if_ne (tgt := 10) hx hb ⟨by omega, by omega⟩ dX6_heap_5 (by decide) (fun hq => absurd hq (by omega)) (fun _ => ?_)
    refine lv_iconst (v := jI 0) hx hb dX6_heap_8 rfl ?_
    exact W.iret hx hb hr (fun t ht hw => ⟨⟨_, (0, ct_1), rfl, ⟨rfl, ⟨(fun q hq9 => hof_1 q (by omega) (by omega) (by omega)), Or.inl ⟨hbad, ⟨mA, pt, ro, ke, kt, mu, sl, tw, bw, de, ⟨hm0_1, ((hof_1 1001 (by omega) (by omega) (by omega)).trans hMo.2.1), ((hof_1 1002 (by omega) (by omega) (by omega)).trans hMo.2.2.1), hm1_1, hm2_1, ((hof_1 1005 (by omega) (by omega) (by omega)).trans hMo.2.2.2.2.2.1), ((hof_1 1006 (by omega) (by omega) (by omega)).trans hMo.2.2.2.2.2.2.1), ((hof_1 1007 (by omega) (by omega) (by omega)).trans hMo.2.2.2.2.2.2.2.1), ((hof_1 1008 (by omega) (by omega) (by omega)).trans hMo.2.2.2.2.2.2.2.2.1), ((hof_1 1009 (by omega) (by omega) (by omega)).trans hMo.2.2.2.2.2.2.2.2.2.1), ((hof_1 1010 (by omega) (by omega) (by omega)).trans hMo.2.2.2.2.2.2.2.2.2.2.1), ((hof_1 1011 (by omega) (by omega) (by omega)).trans hMo.2.2.2.2.2.2.2.2.2.2.2.1), ((hof_1 1012 (by omega) (by omega) (by omega)).trans hMo.2.2.2.2.2.2.2.2.2.2.2.2.1), ((hof_1 1013 (by omega) (by omega) (by omega)).trans hMo.2.2.2.2.2.2.2.2.2.2.2.2.2.1), ((hof_1 1014 (by omega) (by omega) (by omega)).trans hMo.2.2.2.2.2.2.2.2.2.2.2.2.2.2.1), ((hof_1 1015 (by omega) (by omega) (by omega)).trans hMo.2.2.2.2.2.2.2.2.2.2.2.2.2.2.2.1), ((hof_1 1016 (by omega) (by omega) (by omega)).trans hMo.2.2.2.2.2.2.2.2.2.2.2.2.2.2.2.2)⟩⟩⟩⟩⟩, by show rm_W D ad _ _ t.heap; rw [ht]; exact hW⟩, hS.F ht⟩) hS.2.2 dX6_heap_9
  · skip
    subst hz
    have ho_1 : ∀ q, q ≠ 1000 → ct_1 q = ct q := hqo
    have hof_1 : ∀ q, q ≠ 1000 → q ≠ 1003 → q ≠ 1004 → ct_1 q = ct q := fun q h0_1 h1_1 h2_1 => (ho_1 q h0_1).trans rfl
    have hm0_1 : ct_1 1000 = some (.inr (6, [.int (jI 0), .int (jI ((yc : Nat) : Int)), .int (jI ((hc : Nat) : Int)), .ref (ad 1001), .ref (ad 1002), .ref (ad 1003), .ref (ad 1004), .ref (ad 1005), .ref (ad 1006), .ref (ad 1007), .ref (ad 1008), .ref (ad 1009), .ref (ad 1010), .ref (ad 1011), .ref (ad 1012), .ref (ad 1013), .ref (ad 1014), .ref (ad 1015), .ref (ad 1016)]) : va_E) := hqs
    have hm1_1 : ct_1 1003 = some (ri ty 20 (fun y => ((hy y : Nat) : Int))) := (ho_1 1003 (by omega)).trans hMo.2.2.2.1
    have hm2_1 : ct_1 1004 = some (rz ty 6 yu) := (ho_1 1004 (by omega)).trans hMo.2.2.2.2.1
    obtain ⟨y9, hn_y9⟩ : ∃ y9 : Nat, z9 = (y9 : Int) := ⟨z9.toNat, by omega⟩
    subst hn_y9
    have hy9 : y9 < yc := by omega
    have hn8 := hyn y9 hy9
    have hM8 := hyM y9 hy9
    refine rm_if_ne (tgt := 10) hx hb ⟨by omega, by omega⟩ dX6_heap_5 (by decide) (fun _ => ?_) (fun hq => absurd hq (by omega))
    refine lv_aload_n hx hb dX6_heap_10 rfl (lv_at hl 0 rfl) ?_
    refine rm_get (ci := 6) (v := .int (jI ((hc : Nat) : Int))) (C := RX6) (T := TX6) (N := 19) hx hb hts (by decide +kernel) hown hK hW hm0_1 rfl 2 (by decide) (hts (.fieldLink RX6 126 "GrainYardModel" "heaps" "I") (by decide +kernel)) (fun _ h9 => h9) rfl dX6_heap_11 ?_
    refine lv_bipush (v := jI 20) hx hb dX6_heap_14 (by decide) ?_
    refine rm_icmp_eq (tgt := 27) hx hb ⟨by omega, by omega⟩ ⟨by omega, by omega⟩ dX6_heap_16 (by decide) (fun hc_2 => ?_) (fun hc_2 => ?_)
    · skip
      refine lv_iconst (v := jI (-1)) hx hb dX6_heap_27 rfl ?_
      exact W.iret hx hb hr (fun t ht hw => ⟨⟨_, ((-1), ct_1), rfl, ⟨rfl, ⟨(fun q hq9 => hof_1 q (by omega) (by omega) (by omega)), Or.inr ⟨y9, rfl, hy9, Or.inl ⟨Or.inl (by omega), rfl, ⟨mA, pt, ro, ke, kt, mu, sl, tw, bw, de, ⟨hm0_1, ((hof_1 1001 (by omega) (by omega) (by omega)).trans hMo.2.1), ((hof_1 1002 (by omega) (by omega) (by omega)).trans hMo.2.2.1), hm1_1, hm2_1, ((hof_1 1005 (by omega) (by omega) (by omega)).trans hMo.2.2.2.2.2.1), ((hof_1 1006 (by omega) (by omega) (by omega)).trans hMo.2.2.2.2.2.2.1), ((hof_1 1007 (by omega) (by omega) (by omega)).trans hMo.2.2.2.2.2.2.2.1), ((hof_1 1008 (by omega) (by omega) (by omega)).trans hMo.2.2.2.2.2.2.2.2.1), ((hof_1 1009 (by omega) (by omega) (by omega)).trans hMo.2.2.2.2.2.2.2.2.2.1), ((hof_1 1010 (by omega) (by omega) (by omega)).trans hMo.2.2.2.2.2.2.2.2.2.2.1), ((hof_1 1011 (by omega) (by omega) (by omega)).trans hMo.2.2.2.2.2.2.2.2.2.2.2.1), ((hof_1 1012 (by omega) (by omega) (by omega)).trans hMo.2.2.2.2.2.2.2.2.2.2.2.2.1), ((hof_1 1013 (by omega) (by omega) (by omega)).trans hMo.2.2.2.2.2.2.2.2.2.2.2.2.2.1), ((hof_1 1014 (by omega) (by omega) (by omega)).trans hMo.2.2.2.2.2.2.2.2.2.2.2.2.2.2.1), ((hof_1 1015 (by omega) (by omega) (by omega)).trans hMo.2.2.2.2.2.2.2.2.2.2.2.2.2.2.2.1), ((hof_1 1016 (by omega) (by omega) (by omega)).trans hMo.2.2.2.2.2.2.2.2.2.2.2.2.2.2.2.2)⟩⟩⟩⟩⟩⟩, by show rm_W D ad _ _ t.heap; rw [ht]; exact hW⟩, hS.F ht⟩) hS.2.2 dX6_heap_28
    · skip
      refine lv_aload_n hx hb dX6_heap_19 rfl (lv_at hl 0 rfl) ?_
      refine lv_iload_n hx hb dX6_heap_20 rfl (lv_at hl 1 rfl) ?_
      refine rm_calli (va_runV (As := [.int (jI ((y9 : Nat) : Int))]) (rest := []) ⟨hx, hb, hml, hown, hts⟩ (c_X6_isWhole l D ty ad ct_1 H.size 0 yc hc yn yM yu hy hg hf mA pt ro ke kt mu sl tw bw de ⟨hm0_1, ((hof_1 1001 (by omega) (by omega) (by omega)).trans hMo.2.1), ((hof_1 1002 (by omega) (by omega) (by omega)).trans hMo.2.2.1), hm1_1, hm2_1, ((hof_1 1005 (by omega) (by omega) (by omega)).trans hMo.2.2.2.2.2.1), ((hof_1 1006 (by omega) (by omega) (by omega)).trans hMo.2.2.2.2.2.2.1), ((hof_1 1007 (by omega) (by omega) (by omega)).trans hMo.2.2.2.2.2.2.2.1), ((hof_1 1008 (by omega) (by omega) (by omega)).trans hMo.2.2.2.2.2.2.2.2.1), ((hof_1 1009 (by omega) (by omega) (by omega)).trans hMo.2.2.2.2.2.2.2.2.2.1), ((hof_1 1010 (by omega) (by omega) (by omega)).trans hMo.2.2.2.2.2.2.2.2.2.2.1), ((hof_1 1011 (by omega) (by omega) (by omega)).trans hMo.2.2.2.2.2.2.2.2.2.2.2.1), ((hof_1 1012 (by omega) (by omega) (by omega)).trans hMo.2.2.2.2.2.2.2.2.2.2.2.2.1), ((hof_1 1013 (by omega) (by omega) (by omega)).trans hMo.2.2.2.2.2.2.2.2.2.2.2.2.2.1), ((hof_1 1014 (by omega) (by omega) (by omega)).trans hMo.2.2.2.2.2.2.2.2.2.2.2.2.2.2.1), ((hof_1 1015 (by omega) (by omega) (by omega)).trans hMo.2.2.2.2.2.2.2.2.2.2.2.2.2.2.2.1), ((hof_1 1016 (by omega) (by omega) (by omega)).trans hMo.2.2.2.2.2.2.2.2.2.2.2.2.2.2.2.2)⟩ y9 (by omega) hn8 hM8) (cwV 1 hts gX6_heap_X6_isWhole rfl rfl rfl (by decide +kernel) ⟨Nat.le_of_ble_eq_true rfl, Nat.le_of_ble_eq_true rfl⟩) (rm_preV hK hNw hW hm0_1 rfl) rfl rfl hl.1 rfl (lv_room (Nat.le_of_ble_eq_true rfl)) dX6_heap_21 ⟨Nat.zero_le _, Nat.zero_le _⟩) hW hS hA (fun z_3 ct_3 H locs hq_3 hW hS => ?_)
      obtain ⟨hz, hcc_3⟩ := hq_3
      have hcc_3 := hcc_3.symm
      subst hcc_3
      by_cases hww : isz (yn y9) (yM y9) 8 = 2 ^ yn y9 - 1
      · skip
        rw [if_pos hww] at hz
        subst hz
        refine rm_if_ne (tgt := 29) hx hb ⟨by omega, by omega⟩ dX6_heap_24 (by decide) (fun _ => ?_) (fun hq => absurd hq (by omega))
        refine lv_aload_n hx hb dX6_heap_29 rfl (lv_at hl 0 rfl) ?_
        refine rm_get (ci := 6) (v := .ref (ad 1003)) (C := RX6) (T := TX6) (N := 19) hx hb hts (by decide +kernel) hown hK hW hm0_1 rfl 5 (by decide) (hts (.fieldLink RX6 16 "GrainYardModel" "yardOf" "[I") (by decide +kernel)) (fun _ h9 => h9) rfl dX6_heap_30 ?_
        refine lv_aload_n hx hb dX6_heap_33 rfl (lv_at hl 0 rfl) ?_
        refine rm_get (ci := 6) (v := .int (jI ((hc : Nat) : Int))) (C := RX6) (T := TX6) (N := 19) hx hb hts (by decide +kernel) hown hK hW hm0_1 rfl 2 (by decide) (hts (.fieldLink RX6 126 "GrainYardModel" "heaps" "I") (by decide +kernel)) (fun _ h9 => h9) rfl dX6_heap_34 ?_
        refine lv_iload_n hx hb dX6_heap_37 rfl (lv_at hl 1 rfl) ?_
        refine rm_iast hx hb hK hW hS (f := (fun y => ((hy y : Nat) : Int))) hm1_1 hc rfl (by omega) (by omega) dX6_heap_38 (fun H locs ct_4 hs_4 ho_4 hW hS hz_4 => ?_)
        have hof_4 : ∀ q, q ≠ 1000 → q ≠ 1003 → q ≠ 1004 → ct_4 q = ct q := fun q h0_4 h1_4 h2_4 => (ho_4 q h1_4).trans (hof_1 q h0_4 h1_4 h2_4)
        have hm0_4 : ct_4 1000 = some (.inr (6, [.int (jI 0), .int (jI ((yc : Nat) : Int)), .int (jI ((hc : Nat) : Int)), .ref (ad 1001), .ref (ad 1002), .ref (ad 1003), .ref (ad 1004), .ref (ad 1005), .ref (ad 1006), .ref (ad 1007), .ref (ad 1008), .ref (ad 1009), .ref (ad 1010), .ref (ad 1011), .ref (ad 1012), .ref (ad 1013), .ref (ad 1014), .ref (ad 1015), .ref (ad 1016)]) : va_E) := (ho_4 1000 (by omega)).trans hm0_1
        have hm2_4 : ct_4 1004 = some (rz ty 6 yu) := (ho_4 1004 (by omega)).trans hm2_1
        have hk_5 : ct_4 1003 = some (ri ty 20 (fun y => (((ub hy hc y9) y : Nat) : Int))) := hs_4.trans (congrArg (fun f => some (ri ty 20 f)) (nub_eq _ _ _))
        refine lv_aload_n hx hb dX6_heap_39 rfl (lv_at hl 0 rfl) ?_
        refine rm_get (ci := 6) (v := .ref (ad 1004)) (C := RX6) (T := TX6) (N := 19) hx hb hts (by decide +kernel) hown hK hW hm0_4 rfl 6 (by decide) (hts (.fieldLink RX6 19 "GrainYardModel" "isUsed" "[Z") (by decide +kernel)) (fun _ h9 => h9) rfl dX6_heap_40 ?_
        refine lv_iload_n hx hb dX6_heap_43 rfl (lv_at hl 1 rfl) ?_
        refine lv_iconst (v := jI 1) hx hb dX6_heap_44 rfl ?_
        refine rm_zast hx hb hK hW hS (f := yu) hm2_4 (by decide) y9 rfl (by omega) (by omega) dX6_heap_45 (fun H locs ct_6 hs_6 ho_6 hW hS hz_6 => ?_)
        have hof_6 : ∀ q, q ≠ 1000 → q ≠ 1003 → q ≠ 1004 → ct_6 q = ct q := fun q h0_6 h1_6 h2_6 => (ho_6 q h2_6).trans (hof_4 q h0_6 h1_6 h2_6)
        have hm0_6 : ct_6 1000 = some (.inr (6, [.int (jI 0), .int (jI ((yc : Nat) : Int)), .int (jI ((hc : Nat) : Int)), .ref (ad 1001), .ref (ad 1002), .ref (ad 1003), .ref (ad 1004), .ref (ad 1005), .ref (ad 1006), .ref (ad 1007), .ref (ad 1008), .ref (ad 1009), .ref (ad 1010), .ref (ad 1011), .ref (ad 1012), .ref (ad 1013), .ref (ad 1014), .ref (ad 1015), .ref (ad 1016)]) : va_E) := (ho_6 1000 (by omega)).trans hm0_4
        have hm1_6 : ct_6 1003 = some (ri ty 20 (fun y => (((ub hy hc y9) y : Nat) : Int))) := (ho_6 1003 (by omega)).trans hk_5
        refine lv_aload_n hx hb dX6_heap_46 rfl (lv_at hl 0 rfl) ?_
        refine lv_dup hx hb dX6_heap_47 rfl ?_
        refine rm_get (ci := 6) (v := .int (jI ((hc : Nat) : Int))) (C := RX6) (T := TX6) (N := 19) hx hb hts (by decide +kernel) hown hK hW hm0_6 rfl 2 (by decide) (hts (.fieldLink RX6 126 "GrainYardModel" "heaps" "I") (by decide +kernel)) (fun _ h9 => h9) rfl dX6_heap_48 ?_
        refine lv_iconst (v := jI 1) hx hb dX6_heap_51 rfl ?_
        refine rm_iadd hx hb dX6_heap_52 ?_
        refine rm_put (ci := 6) (v := .int (jI (((hc : Nat) : Int) + 1))) (fty := .int) (C := RX6) (T := TX6) (N := 19) hx hb hts (by decide +kernel) tyX6 tyX6_ok nmX6 hown hK hW hS hm0_6 rfl 2 (by decide) (hts (.fieldLink RX6 126 "GrainYardModel" "heaps" "I") (by decide +kernel)) (fun _ h9 => h9) rfl (by decide +kernel) rfl rfl (Nat.le_of_ble_eq_true rfl) dX6_heap_53 (fun H locs ct_7 hs_7 ho_7 hW hS hz_7 => ?_)
        have hs_7 : ct_7 1000 = some (.inr (6, [.int (jI 0), .int (jI ((yc : Nat) : Int)), .int (jI (((hc : Nat) : Int) + 1)), .ref (ad 1001), .ref (ad 1002), .ref (ad 1003), .ref (ad 1004), .ref (ad 1005), .ref (ad 1006), .ref (ad 1007), .ref (ad 1008), .ref (ad 1009), .ref (ad 1010), .ref (ad 1011), .ref (ad 1012), .ref (ad 1013), .ref (ad 1014), .ref (ad 1015), .ref (ad 1016)]) : va_E) := hs_7
        have hof_7 : ∀ q, q ≠ 1000 → q ≠ 1003 → q ≠ 1004 → ct_7 q = ct q := fun q h0_7 h1_7 h2_7 => (ho_7 q h0_7).trans (hof_6 q h0_7 h1_7 h2_7)
        have hm1_7 : ct_7 1003 = some (ri ty 20 (fun y => (((ub hy hc y9) y : Nat) : Int))) := (ho_7 1003 (by omega)).trans hm1_6
        have hm2_7 : ct_7 1004 = some (rz ty 6 (ub yu y9 1)) := (ho_7 1004 (by omega)).trans hs_6
        refine lv_aload_n hx hb dX6_heap_56 rfl (lv_at hl 0 rfl) ?_
        refine rm_get (ci := 6) (v := .int (jI (((hc : Nat) : Int) + 1))) (C := RX6) (T := TX6) (N := 19) hx hb hts (by decide +kernel) hown hK hW hs_7 rfl 2 (by decide) (hts (.fieldLink RX6 126 "GrainYardModel" "heaps" "I") (by decide +kernel)) (fun _ h9 => h9) rfl dX6_heap_57 ?_
        refine lv_iconst (v := jI 1) hx hb dX6_heap_60 rfl ?_
        refine rm_isub hx hb dX6_heap_61 ?_
        rw [show ((hc : Nat) : Int) + 1 - 1 = ((hc : Nat) : Int) from by omega]
        exact W.iret hx hb hr (fun t ht hw => ⟨⟨_, (((hc : Nat) : Int), ct_7), rfl, ⟨rfl, ⟨(fun q hq9 => hof_7 q (by omega) (by omega) (by omega)), Or.inr ⟨y9, rfl, hy9, Or.inr ⟨by omega, hww, rfl, ⟨mA, pt, ro, ke, kt, mu, sl, tw, bw, de, ⟨hs_7, ((hof_7 1001 (by omega) (by omega) (by omega)).trans hMo.2.1), ((hof_7 1002 (by omega) (by omega) (by omega)).trans hMo.2.2.1), hm1_7, hm2_7, ((hof_7 1005 (by omega) (by omega) (by omega)).trans hMo.2.2.2.2.2.1), ((hof_7 1006 (by omega) (by omega) (by omega)).trans hMo.2.2.2.2.2.2.1), ((hof_7 1007 (by omega) (by omega) (by omega)).trans hMo.2.2.2.2.2.2.2.1), ((hof_7 1008 (by omega) (by omega) (by omega)).trans hMo.2.2.2.2.2.2.2.2.1), ((hof_7 1009 (by omega) (by omega) (by omega)).trans hMo.2.2.2.2.2.2.2.2.2.1), ((hof_7 1010 (by omega) (by omega) (by omega)).trans hMo.2.2.2.2.2.2.2.2.2.2.1), ((hof_7 1011 (by omega) (by omega) (by omega)).trans hMo.2.2.2.2.2.2.2.2.2.2.2.1), ((hof_7 1012 (by omega) (by omega) (by omega)).trans hMo.2.2.2.2.2.2.2.2.2.2.2.2.1), ((hof_7 1013 (by omega) (by omega) (by omega)).trans hMo.2.2.2.2.2.2.2.2.2.2.2.2.2.1), ((hof_7 1014 (by omega) (by omega) (by omega)).trans hMo.2.2.2.2.2.2.2.2.2.2.2.2.2.2.1), ((hof_7 1015 (by omega) (by omega) (by omega)).trans hMo.2.2.2.2.2.2.2.2.2.2.2.2.2.2.2.1), ((hof_7 1016 (by omega) (by omega) (by omega)).trans hMo.2.2.2.2.2.2.2.2.2.2.2.2.2.2.2.2)⟩⟩⟩⟩⟩⟩, by show rm_W D ad _ _ t.heap; rw [ht]; exact hW⟩, hS.F ht⟩) hS.2.2 dX6_heap_62
      · skip
        rw [if_neg hww] at hz
        subst hz
        refine rm_if_ne (tgt := 29) hx hb ⟨by omega, by omega⟩ dX6_heap_24 (by decide) (fun hq => absurd hq (by omega)) (fun _ => ?_)
        refine lv_iconst (v := jI (-1)) hx hb dX6_heap_27 rfl ?_
        exact W.iret hx hb hr (fun t ht hw => ⟨⟨_, ((-1), ct_1), rfl, ⟨rfl, ⟨(fun q hq9 => hof_1 q (by omega) (by omega) (by omega)), Or.inr ⟨y9, rfl, hy9, Or.inl ⟨Or.inr hww, rfl, ⟨mA, pt, ro, ke, kt, mu, sl, tw, bw, de, ⟨hm0_1, ((hof_1 1001 (by omega) (by omega) (by omega)).trans hMo.2.1), ((hof_1 1002 (by omega) (by omega) (by omega)).trans hMo.2.2.1), hm1_1, hm2_1, ((hof_1 1005 (by omega) (by omega) (by omega)).trans hMo.2.2.2.2.2.1), ((hof_1 1006 (by omega) (by omega) (by omega)).trans hMo.2.2.2.2.2.2.1), ((hof_1 1007 (by omega) (by omega) (by omega)).trans hMo.2.2.2.2.2.2.2.1), ((hof_1 1008 (by omega) (by omega) (by omega)).trans hMo.2.2.2.2.2.2.2.2.1), ((hof_1 1009 (by omega) (by omega) (by omega)).trans hMo.2.2.2.2.2.2.2.2.2.1), ((hof_1 1010 (by omega) (by omega) (by omega)).trans hMo.2.2.2.2.2.2.2.2.2.2.1), ((hof_1 1011 (by omega) (by omega) (by omega)).trans hMo.2.2.2.2.2.2.2.2.2.2.2.1), ((hof_1 1012 (by omega) (by omega) (by omega)).trans hMo.2.2.2.2.2.2.2.2.2.2.2.2.1), ((hof_1 1013 (by omega) (by omega) (by omega)).trans hMo.2.2.2.2.2.2.2.2.2.2.2.2.2.1), ((hof_1 1014 (by omega) (by omega) (by omega)).trans hMo.2.2.2.2.2.2.2.2.2.2.2.2.2.2.1), ((hof_1 1015 (by omega) (by omega) (by omega)).trans hMo.2.2.2.2.2.2.2.2.2.2.2.2.2.2.2.1), ((hof_1 1016 (by omega) (by omega) (by omega)).trans hMo.2.2.2.2.2.2.2.2.2.2.2.2.2.2.2.2)⟩⟩⟩⟩⟩⟩, by show rm_W D ad _ _ t.heap; rw [ht]; exact hW⟩, hS.F ht⟩) hS.2.2 dX6_heap_28
set_option maxHeartbeats 4000000 in
set_option maxRecDepth 100000 in
theorem c_X6_grains (l : Launch) (D : va_G) (ty : Nat → ClassId) (ad : Nat → Nat) (ct : rm_C) (sz : Nat) (th : Int) (yc hc : Nat) (yn : Nat → Nat) (yM : Nat → Nat → Nat → Int) (yu : Nat → Int) (hy : Nat → Nat) (hg hf mA : Nat → Nat → Int) (pt ro ke kt mu sl tw bw de : Nat → Int) (hMo : ModAt ty ad ct th yc hc yn yM yu hy hg hf mA pt ro ke kt mu sl tw bw de) (hb20 : yc ≤ 6 ∧ hc ≤ 20) (hyn : ∀ y, y < yc → 2 ≤ yn y ∧ yn y ≤ 8) (hyM : ∀ y, y < yc → ∀ i j, 0 ≤ yM y i j ∧ yM y i j ≤ 3) (hhy : ∀ h, h < hc → hy h < yc) (z9 p9 : Int) (hz9 : r32 z9) (hp9 : r32 p9) : Met l yX6_grains wsX6_grains ({ frames := 2, cells := 0, slots := 0, locals := 45 }) (rm_P D ty ad ct sz [.ref (ad 1000), .int (jI z9), .int (jI p9)]) (rm_Ql D ad ct sz (fun z ct1 => (∀ q, (q < 1000 ∨ 1016 < q) → ct1 q = ct q) ∧ ((((z9 < 0 ∨ ((hc : Nat) : Int) ≤ z9) ∨ ∃ h9 : Nat, z9 = (h9 : Int) ∧ h9 < hc ∧ (p9 < 0 ∨ (yn (hy h9) : Int) ≤ p9)) ∧ ModX ty ad ct1 1 yc hc yn yM yu hy hg hf) ∨ ∃ h9 q9 : Nat, z9 = (h9 : Int) ∧ p9 = (q9 : Int) ∧ h9 < hc ∧ q9 < yn (hy h9) ∧ z = hg h9 q9 ∧ ModX ty ad ct1 0 yc hc yn yM yu hy hg hf))) 0 0 (rm_A ad ct sz) := by
  refine Met.ofW (cc := cX6_grains) (maxL := 3) (ret := (some .long)) (by decide) rfl ?_
  intro p e s m args below meth c s₁ B hml hv
  obtain ⟨hargs, hsz, hW, hK, hNw⟩ := hv
  have hx := B.exec
  have hb := B.bytes
  have hr := B.returns
  have hts := atoms_spec (ws := wsX6_grains) B.pre
  have hown : s.vm.findClass RX6 = some m.cls := findClass_of_methodNamed B.named
  have hlocks := B.notSynchronized
  subst hsz
  have hW := hW.own (sz := s.heap.size)
  have hA : ∀ q : Nat, s.heap.size ≤ q → rm_A ad ct s.heap.size q := fun q h => Or.inr h
  have hS : va_S (rm_A ad ct s.heap.size) s.heap s.heap [] := va_S.rf
  have hent : entryFrame m args 3 = entryFrame m ([.ref (ad 1000), .int (jI z9), .int (jI p9)] : List Value).toArray 3 := by rw [hargs]
  have hl := lv_entry ([.ref (ad 1000), .int (jI z9), .int (jI p9)]) (n := 3) (Nat.le_of_ble_eq_true rfl)
  rw [hent, lg_entry_eq]
  generalize (lg_sl ([.ref (ad 1000), .int (jI z9), .int (jI p9)]) ++ List.replicate (3 - (lg_sl ([.ref (ad 1000), .int (jI z9), .int (jI p9)])).length) Slot.unset).toArray = ls at hl ⊢
  have hl : lv_has ls 3 [(0, .ref (ad 1000)), (1, .int (jI z9)), (2, .int (jI p9))] := hl
  refine lv_aload_n hx hb dX6_grains_0 rfl (lv_at hl 0 rfl) ?_
  refine lv_iload_n hx hb dX6_grains_1 rfl (lv_at hl 1 rfl) ?_
  refine rm_calli (va_runV (As := [.int (jI z9)]) (rest := []) ⟨hx, hb, hml, hown, hts⟩ (c_X6_isHeap l D ty ad ct s.heap.size th yc hc yn yM yu hy hg hf mA pt ro ke kt mu sl tw bw de hMo z9 hz9 hb20) (cwV 1 hts gX6_grains_X6_isHeap rfl rfl rfl (by decide +kernel) ⟨Nat.le_of_ble_eq_true rfl, Nat.le_of_ble_eq_true rfl⟩) (rm_preV hK hNw hW hMo.1 rfl) rfl rfl hl.1 rfl (lv_room (Nat.le_of_ble_eq_true rfl)) dX6_grains_2 ⟨Nat.zero_le _, Nat.zero_le _⟩) hW hS hA (fun z_1 ct_1 H locs hq_1 hW hS => ?_)
  obtain ⟨hqo, hqc⟩ := hq_1
  rcases hqc with ⟨hbad, hz, hqs⟩ | ⟨hp1, hp2, hz, hqs⟩
  · skip
    subst hz
    have ho_1 : ∀ q, q ≠ 1000 → ct_1 q = ct q := hqo
    have hof_1 : ∀ q, q ≠ 1000 → ct_1 q = ct q := fun q h0_1 => (ho_1 q h0_1).trans rfl
    have hm0_1 : ct_1 1000 = some (.inr (6, [.int (jI 1), .int (jI ((yc : Nat) : Int)), .int (jI ((hc : Nat) : Int)), .ref (ad 1001), .ref (ad 1002), .ref (ad 1003), .ref (ad 1004), .ref (ad 1005), .ref (ad 1006), .ref (ad 1007), .ref (ad 1008), .ref (ad 1009), .ref (ad 1010), .ref (ad 1011), .ref (ad 1012), .ref (ad 1013), .ref (ad 1014), .ref (ad 1015), .ref (ad 1016)]) : va_E) := hqs
    refine rm_if_eq (tgt := 32) hx hb ⟨by omega, by omega⟩ dX6_grains_5 (by decide) (fun _ => ?_) (fun hq => absurd hq (by omega))
    refine lv_lconst (v := jL 0) hx hb dX6_grains_32 rfl ?_
    exact W.lret hx hb hr (fun t ht hw => ⟨⟨_, (0, ct_1), rfl, ⟨rfl, ⟨(fun q hq9 => hof_1 q (by omega)), Or.inl ⟨Or.inl hbad, ⟨mA, pt, ro, ke, kt, mu, sl, tw, bw, de, ⟨hm0_1, ((hof_1 1001 (by omega)).trans hMo.2.1), ((hof_1 1002 (by omega)).trans hMo.2.2.1), ((hof_1 1003 (by omega)).trans hMo.2.2.2.1), ((hof_1 1004 (by omega)).trans hMo.2.2.2.2.1), ((hof_1 1005 (by omega)).trans hMo.2.2.2.2.2.1), ((hof_1 1006 (by omega)).trans hMo.2.2.2.2.2.2.1), ((hof_1 1007 (by omega)).trans hMo.2.2.2.2.2.2.2.1), ((hof_1 1008 (by omega)).trans hMo.2.2.2.2.2.2.2.2.1), ((hof_1 1009 (by omega)).trans hMo.2.2.2.2.2.2.2.2.2.1), ((hof_1 1010 (by omega)).trans hMo.2.2.2.2.2.2.2.2.2.2.1), ((hof_1 1011 (by omega)).trans hMo.2.2.2.2.2.2.2.2.2.2.2.1), ((hof_1 1012 (by omega)).trans hMo.2.2.2.2.2.2.2.2.2.2.2.2.1), ((hof_1 1013 (by omega)).trans hMo.2.2.2.2.2.2.2.2.2.2.2.2.2.1), ((hof_1 1014 (by omega)).trans hMo.2.2.2.2.2.2.2.2.2.2.2.2.2.2.1), ((hof_1 1015 (by omega)).trans hMo.2.2.2.2.2.2.2.2.2.2.2.2.2.2.2.1), ((hof_1 1016 (by omega)).trans hMo.2.2.2.2.2.2.2.2.2.2.2.2.2.2.2.2)⟩⟩⟩⟩⟩, by show rm_W D ad _ _ t.heap; rw [ht]; exact hW⟩, hS.F ht⟩) hS.2.2 dX6_grains_33
  · skip
    subst hz
    have ho_1 : ∀ q, q ≠ 1000 → ct_1 q = ct q := hqo
    have hof_1 : ∀ q, q ≠ 1000 → ct_1 q = ct q := fun q h0_1 => (ho_1 q h0_1).trans rfl
    have hm0_1 : ct_1 1000 = some (.inr (6, [.int (jI 0), .int (jI ((yc : Nat) : Int)), .int (jI ((hc : Nat) : Int)), .ref (ad 1001), .ref (ad 1002), .ref (ad 1003), .ref (ad 1004), .ref (ad 1005), .ref (ad 1006), .ref (ad 1007), .ref (ad 1008), .ref (ad 1009), .ref (ad 1010), .ref (ad 1011), .ref (ad 1012), .ref (ad 1013), .ref (ad 1014), .ref (ad 1015), .ref (ad 1016)]) : va_E) := hqs
    obtain ⟨h9, hn_h9⟩ : ∃ h9 : Nat, z9 = (h9 : Int) := ⟨z9.toNat, by omega⟩
    subst hn_h9
    have hh9 : h9 < hc := by omega
    have hyh := hhy h9 hh9
    have hn8 := hyn (hy h9) hyh
    have hM8 := hyM (hy h9) hyh
    refine rm_if_eq (tgt := 32) hx hb ⟨by omega, by omega⟩ dX6_grains_5 (by decide) (fun hq => absurd hq (by omega)) (fun _ => ?_)
    refine lv_aload_n hx hb dX6_grains_8 rfl (lv_at hl 0 rfl) ?_
    refine lv_iload_n hx hb dX6_grains_9 rfl (lv_at hl 1 rfl) ?_
    refine lv_iload_n hx hb dX6_grains_10 rfl (lv_at hl 2 rfl) ?_
    refine lv_iconst (v := jI 0) hx hb dX6_grains_11 rfl ?_
    refine rm_calli (va_runV (As := [.int (jI ((h9 : Nat) : Int)), .int (jI p9), .int (jI 0)]) (rest := []) ⟨hx, hb, hml, hown, hts⟩ (c_X6_isIn l D ty ad ct_1 H.size 0 yc hc yn yM yu hy hg hf mA pt ro ke kt mu sl tw bw de ⟨hm0_1, ((hof_1 1001 (by omega)).trans hMo.2.1), ((hof_1 1002 (by omega)).trans hMo.2.2.1), ((hof_1 1003 (by omega)).trans hMo.2.2.2.1), ((hof_1 1004 (by omega)).trans hMo.2.2.2.2.1), ((hof_1 1005 (by omega)).trans hMo.2.2.2.2.2.1), ((hof_1 1006 (by omega)).trans hMo.2.2.2.2.2.2.1), ((hof_1 1007 (by omega)).trans hMo.2.2.2.2.2.2.2.1), ((hof_1 1008 (by omega)).trans hMo.2.2.2.2.2.2.2.2.1), ((hof_1 1009 (by omega)).trans hMo.2.2.2.2.2.2.2.2.2.1), ((hof_1 1010 (by omega)).trans hMo.2.2.2.2.2.2.2.2.2.2.1), ((hof_1 1011 (by omega)).trans hMo.2.2.2.2.2.2.2.2.2.2.2.1), ((hof_1 1012 (by omega)).trans hMo.2.2.2.2.2.2.2.2.2.2.2.2.1), ((hof_1 1013 (by omega)).trans hMo.2.2.2.2.2.2.2.2.2.2.2.2.2.1), ((hof_1 1014 (by omega)).trans hMo.2.2.2.2.2.2.2.2.2.2.2.2.2.2.1), ((hof_1 1015 (by omega)).trans hMo.2.2.2.2.2.2.2.2.2.2.2.2.2.2.2.1), ((hof_1 1016 (by omega)).trans hMo.2.2.2.2.2.2.2.2.2.2.2.2.2.2.2.2)⟩ rfl h9 (by omega) (by omega) hn8.2 p9 0 hp9 (by omega)) (cwV 3 hts gX6_grains_X6_isIn rfl rfl rfl (by decide +kernel) ⟨Nat.le_of_ble_eq_true rfl, Nat.le_of_ble_eq_true rfl⟩) (rm_preV hK hNw hW hm0_1 rfl) rfl rfl hl.1 rfl (lv_room (Nat.le_of_ble_eq_true rfl)) dX6_grains_12 ⟨Nat.zero_le _, Nat.zero_le _⟩) hW hS hA (fun z_2 ct_2 H locs hq_2 hW hS => ?_)
    obtain ⟨hqo, hqc⟩ := hq_2
    rcases hqc with ⟨hbad, hz, hqs⟩ | ⟨hp1, hp2, hz, hqs⟩
    · skip
      subst hz
      have ho_2 : ∀ q, q ≠ 1000 → ct_2 q = ct_1 q := hqo
      have hof_2 : ∀ q, q ≠ 1000 → ct_2 q = ct q := fun q h0_2 => (ho_2 q h0_2).trans (hof_1 q h0_2)
      have hm0_2 : ct_2 1000 = some (.inr (6, [.int (jI 1), .int (jI ((yc : Nat) : Int)), .int (jI ((hc : Nat) : Int)), .ref (ad 1001), .ref (ad 1002), .ref (ad 1003), .ref (ad 1004), .ref (ad 1005), .ref (ad 1006), .ref (ad 1007), .ref (ad 1008), .ref (ad 1009), .ref (ad 1010), .ref (ad 1011), .ref (ad 1012), .ref (ad 1013), .ref (ad 1014), .ref (ad 1015), .ref (ad 1016)]) : va_E) := hqs
      refine rm_if_eq (tgt := 32) hx hb ⟨by omega, by omega⟩ dX6_grains_15 (by decide) (fun _ => ?_) (fun hq => absurd hq (by omega))
      refine lv_lconst (v := jL 0) hx hb dX6_grains_32 rfl ?_
      exact W.lret hx hb hr (fun t ht hw => ⟨⟨_, (0, ct_2), rfl, ⟨rfl, ⟨(fun q hq9 => hof_2 q (by omega)), Or.inl ⟨Or.inr ⟨h9, rfl, hh9, hbad⟩, ⟨mA, pt, ro, ke, kt, mu, sl, tw, bw, de, ⟨hm0_2, ((hof_2 1001 (by omega)).trans hMo.2.1), ((hof_2 1002 (by omega)).trans hMo.2.2.1), ((hof_2 1003 (by omega)).trans hMo.2.2.2.1), ((hof_2 1004 (by omega)).trans hMo.2.2.2.2.1), ((hof_2 1005 (by omega)).trans hMo.2.2.2.2.2.1), ((hof_2 1006 (by omega)).trans hMo.2.2.2.2.2.2.1), ((hof_2 1007 (by omega)).trans hMo.2.2.2.2.2.2.2.1), ((hof_2 1008 (by omega)).trans hMo.2.2.2.2.2.2.2.2.1), ((hof_2 1009 (by omega)).trans hMo.2.2.2.2.2.2.2.2.2.1), ((hof_2 1010 (by omega)).trans hMo.2.2.2.2.2.2.2.2.2.2.1), ((hof_2 1011 (by omega)).trans hMo.2.2.2.2.2.2.2.2.2.2.2.1), ((hof_2 1012 (by omega)).trans hMo.2.2.2.2.2.2.2.2.2.2.2.2.1), ((hof_2 1013 (by omega)).trans hMo.2.2.2.2.2.2.2.2.2.2.2.2.2.1), ((hof_2 1014 (by omega)).trans hMo.2.2.2.2.2.2.2.2.2.2.2.2.2.2.1), ((hof_2 1015 (by omega)).trans hMo.2.2.2.2.2.2.2.2.2.2.2.2.2.2.2.1), ((hof_2 1016 (by omega)).trans hMo.2.2.2.2.2.2.2.2.2.2.2.2.2.2.2.2)⟩⟩⟩⟩⟩, by show rm_W D ad _ _ t.heap; rw [ht]; exact hW⟩, hS.F ht⟩) hS.2.2 dX6_grains_33
    · skip
      subst hz
      have ho_2 : ∀ q, q ≠ 1000 → ct_2 q = ct_1 q := hqo
      have hof_2 : ∀ q, q ≠ 1000 → ct_2 q = ct q := fun q h0_2 => (ho_2 q h0_2).trans (hof_1 q h0_2)
      have hm0_2 : ct_2 1000 = some (.inr (6, [.int (jI 0), .int (jI ((yc : Nat) : Int)), .int (jI ((hc : Nat) : Int)), .ref (ad 1001), .ref (ad 1002), .ref (ad 1003), .ref (ad 1004), .ref (ad 1005), .ref (ad 1006), .ref (ad 1007), .ref (ad 1008), .ref (ad 1009), .ref (ad 1010), .ref (ad 1011), .ref (ad 1012), .ref (ad 1013), .ref (ad 1014), .ref (ad 1015), .ref (ad 1016)]) : va_E) := hqs
      obtain ⟨q9, hn_q9⟩ : ∃ q9 : Nat, p9 = (q9 : Int) := ⟨p9.toNat, by omega⟩
      subst hn_q9
      refine rm_if_eq (tgt := 32) hx hb ⟨by omega, by omega⟩ dX6_grains_15 (by decide) (fun hq => absurd hq (by omega)) (fun _ => ?_)
      refine lv_aload_n hx hb dX6_grains_18 rfl (lv_at hl 0 rfl) ?_
      refine rm_get (ci := 6) (v := .ref (ad 1005)) (C := RX6) (T := TX6) (N := 19) hx hb hts (by decide +kernel) hown hK hW hm0_2 rfl 7 (by decide) (hts (.fieldLink RX6 23 "GrainYardModel" "grains" "[J") (by decide +kernel)) (fun _ h9 => h9) rfl dX6_grains_19 ?_
      refine lv_bipush (v := jI 8) hx hb dX6_grains_22 (by decide) ?_
      refine lv_iload_n hx hb dX6_grains_24 rfl (lv_at hl 1 rfl) ?_
      refine rm_imul hx hb dX6_grains_25 ?_
      refine lv_iload_n hx hb dX6_grains_26 rfl (lv_at hl 2 rfl) ?_
      refine rm_iadd hx hb dX6_grains_27 ?_
      refine rm_lald hx hb hK hW (f := (fl 8 hg)) ((hof_2 1005 (by omega)).trans hMo.2.2.2.2.2.1) (8 * h9 + q9) (by first | rfl | (push_cast; omega)) (by omega) (by omega) dX6_grains_28 ?_
      rw [fl_at (by omega)]
      refine lv_goto (tgt := 33) hx hb dX6_grains_29 (by decide) ?_
      exact W.lret hx hb hr (fun t ht hw => ⟨⟨_, ((hg h9 q9), ct_2), rfl, ⟨rfl, ⟨(fun q hq9 => hof_2 q (by omega)), Or.inr ⟨h9, q9, rfl, rfl, hh9, by omega, rfl, ⟨mA, pt, ro, ke, kt, mu, sl, tw, bw, de, ⟨hm0_2, ((hof_2 1001 (by omega)).trans hMo.2.1), ((hof_2 1002 (by omega)).trans hMo.2.2.1), ((hof_2 1003 (by omega)).trans hMo.2.2.2.1), ((hof_2 1004 (by omega)).trans hMo.2.2.2.2.1), ((hof_2 1005 (by omega)).trans hMo.2.2.2.2.2.1), ((hof_2 1006 (by omega)).trans hMo.2.2.2.2.2.2.1), ((hof_2 1007 (by omega)).trans hMo.2.2.2.2.2.2.2.1), ((hof_2 1008 (by omega)).trans hMo.2.2.2.2.2.2.2.2.1), ((hof_2 1009 (by omega)).trans hMo.2.2.2.2.2.2.2.2.2.1), ((hof_2 1010 (by omega)).trans hMo.2.2.2.2.2.2.2.2.2.2.1), ((hof_2 1011 (by omega)).trans hMo.2.2.2.2.2.2.2.2.2.2.2.1), ((hof_2 1012 (by omega)).trans hMo.2.2.2.2.2.2.2.2.2.2.2.2.1), ((hof_2 1013 (by omega)).trans hMo.2.2.2.2.2.2.2.2.2.2.2.2.2.1), ((hof_2 1014 (by omega)).trans hMo.2.2.2.2.2.2.2.2.2.2.2.2.2.2.1), ((hof_2 1015 (by omega)).trans hMo.2.2.2.2.2.2.2.2.2.2.2.2.2.2.2.1), ((hof_2 1016 (by omega)).trans hMo.2.2.2.2.2.2.2.2.2.2.2.2.2.2.2.2)⟩⟩⟩⟩⟩, by show rm_W D ad _ _ t.heap; rw [ht]; exact hW⟩, hS.F ht⟩) hS.2.2 dX6_grains_33
set_option maxHeartbeats 4000000 in
set_option maxRecDepth 100000 in
theorem c_X6_toppled (l : Launch) (D : va_G) (ty : Nat → ClassId) (ad : Nat → Nat) (ct : rm_C) (sz : Nat) (th : Int) (yc hc : Nat) (yn : Nat → Nat) (yM : Nat → Nat → Nat → Int) (yu : Nat → Int) (hy : Nat → Nat) (hg hf mA : Nat → Nat → Int) (pt ro ke kt mu sl tw bw de : Nat → Int) (hMo : ModAt ty ad ct th yc hc yn yM yu hy hg hf mA pt ro ke kt mu sl tw bw de) (hb20 : yc ≤ 6 ∧ hc ≤ 20) (hyn : ∀ y, y < yc → 2 ≤ yn y ∧ yn y ≤ 8) (hyM : ∀ y, y < yc → ∀ i j, 0 ≤ yM y i j ∧ yM y i j ≤ 3) (hhy : ∀ h, h < hc → hy h < yc) (z9 p9 : Int) (hz9 : r32 z9) (hp9 : r32 p9) : Met l yX6_toppled wsX6_toppled ({ frames := 2, cells := 0, slots := 0, locals := 45 }) (rm_P D ty ad ct sz [.ref (ad 1000), .int (jI z9), .int (jI p9)]) (rm_Ql D ad ct sz (fun z ct1 => (∀ q, (q < 1000 ∨ 1016 < q) → ct1 q = ct q) ∧ ((((z9 < 0 ∨ ((hc : Nat) : Int) ≤ z9) ∨ ∃ h9 : Nat, z9 = (h9 : Int) ∧ h9 < hc ∧ (p9 < 0 ∨ (yn (hy h9) : Int) ≤ p9)) ∧ ModX ty ad ct1 1 yc hc yn yM yu hy hg hf) ∨ ∃ h9 q9 : Nat, z9 = (h9 : Int) ∧ p9 = (q9 : Int) ∧ h9 < hc ∧ q9 < yn (hy h9) ∧ z = hf h9 q9 ∧ ModX ty ad ct1 0 yc hc yn yM yu hy hg hf))) 0 0 (rm_A ad ct sz) := by
  refine Met.ofW (cc := cX6_toppled) (maxL := 3) (ret := (some .long)) (by decide) rfl ?_
  intro p e s m args below meth c s₁ B hml hv
  obtain ⟨hargs, hsz, hW, hK, hNw⟩ := hv
  have hx := B.exec
  have hb := B.bytes
  have hr := B.returns
  have hts := atoms_spec (ws := wsX6_toppled) B.pre
  have hown : s.vm.findClass RX6 = some m.cls := findClass_of_methodNamed B.named
  have hlocks := B.notSynchronized
  subst hsz
  have hW := hW.own (sz := s.heap.size)
  have hA : ∀ q : Nat, s.heap.size ≤ q → rm_A ad ct s.heap.size q := fun q h => Or.inr h
  have hS : va_S (rm_A ad ct s.heap.size) s.heap s.heap [] := va_S.rf
  have hent : entryFrame m args 3 = entryFrame m ([.ref (ad 1000), .int (jI z9), .int (jI p9)] : List Value).toArray 3 := by rw [hargs]
  have hl := lv_entry ([.ref (ad 1000), .int (jI z9), .int (jI p9)]) (n := 3) (Nat.le_of_ble_eq_true rfl)
  rw [hent, lg_entry_eq]
  generalize (lg_sl ([.ref (ad 1000), .int (jI z9), .int (jI p9)]) ++ List.replicate (3 - (lg_sl ([.ref (ad 1000), .int (jI z9), .int (jI p9)])).length) Slot.unset).toArray = ls at hl ⊢
  have hl : lv_has ls 3 [(0, .ref (ad 1000)), (1, .int (jI z9)), (2, .int (jI p9))] := hl
  refine lv_aload_n hx hb dX6_toppled_0 rfl (lv_at hl 0 rfl) ?_
  refine lv_iload_n hx hb dX6_toppled_1 rfl (lv_at hl 1 rfl) ?_
  refine rm_calli (va_runV (As := [.int (jI z9)]) (rest := []) ⟨hx, hb, hml, hown, hts⟩ (c_X6_isHeap l D ty ad ct s.heap.size th yc hc yn yM yu hy hg hf mA pt ro ke kt mu sl tw bw de hMo z9 hz9 hb20) (cwV 1 hts gX6_toppled_X6_isHeap rfl rfl rfl (by decide +kernel) ⟨Nat.le_of_ble_eq_true rfl, Nat.le_of_ble_eq_true rfl⟩) (rm_preV hK hNw hW hMo.1 rfl) rfl rfl hl.1 rfl (lv_room (Nat.le_of_ble_eq_true rfl)) dX6_toppled_2 ⟨Nat.zero_le _, Nat.zero_le _⟩) hW hS hA (fun z_1 ct_1 H locs hq_1 hW hS => ?_)
  obtain ⟨hqo, hqc⟩ := hq_1
  rcases hqc with ⟨hbad, hz, hqs⟩ | ⟨hp1, hp2, hz, hqs⟩
  · skip
    subst hz
    have ho_1 : ∀ q, q ≠ 1000 → ct_1 q = ct q := hqo
    have hof_1 : ∀ q, q ≠ 1000 → ct_1 q = ct q := fun q h0_1 => (ho_1 q h0_1).trans rfl
    have hm0_1 : ct_1 1000 = some (.inr (6, [.int (jI 1), .int (jI ((yc : Nat) : Int)), .int (jI ((hc : Nat) : Int)), .ref (ad 1001), .ref (ad 1002), .ref (ad 1003), .ref (ad 1004), .ref (ad 1005), .ref (ad 1006), .ref (ad 1007), .ref (ad 1008), .ref (ad 1009), .ref (ad 1010), .ref (ad 1011), .ref (ad 1012), .ref (ad 1013), .ref (ad 1014), .ref (ad 1015), .ref (ad 1016)]) : va_E) := hqs
    refine rm_if_eq (tgt := 32) hx hb ⟨by omega, by omega⟩ dX6_toppled_5 (by decide) (fun _ => ?_) (fun hq => absurd hq (by omega))
    refine lv_lconst (v := jL 0) hx hb dX6_toppled_32 rfl ?_
    exact W.lret hx hb hr (fun t ht hw => ⟨⟨_, (0, ct_1), rfl, ⟨rfl, ⟨(fun q hq9 => hof_1 q (by omega)), Or.inl ⟨Or.inl hbad, ⟨mA, pt, ro, ke, kt, mu, sl, tw, bw, de, ⟨hm0_1, ((hof_1 1001 (by omega)).trans hMo.2.1), ((hof_1 1002 (by omega)).trans hMo.2.2.1), ((hof_1 1003 (by omega)).trans hMo.2.2.2.1), ((hof_1 1004 (by omega)).trans hMo.2.2.2.2.1), ((hof_1 1005 (by omega)).trans hMo.2.2.2.2.2.1), ((hof_1 1006 (by omega)).trans hMo.2.2.2.2.2.2.1), ((hof_1 1007 (by omega)).trans hMo.2.2.2.2.2.2.2.1), ((hof_1 1008 (by omega)).trans hMo.2.2.2.2.2.2.2.2.1), ((hof_1 1009 (by omega)).trans hMo.2.2.2.2.2.2.2.2.2.1), ((hof_1 1010 (by omega)).trans hMo.2.2.2.2.2.2.2.2.2.2.1), ((hof_1 1011 (by omega)).trans hMo.2.2.2.2.2.2.2.2.2.2.2.1), ((hof_1 1012 (by omega)).trans hMo.2.2.2.2.2.2.2.2.2.2.2.2.1), ((hof_1 1013 (by omega)).trans hMo.2.2.2.2.2.2.2.2.2.2.2.2.2.1), ((hof_1 1014 (by omega)).trans hMo.2.2.2.2.2.2.2.2.2.2.2.2.2.2.1), ((hof_1 1015 (by omega)).trans hMo.2.2.2.2.2.2.2.2.2.2.2.2.2.2.2.1), ((hof_1 1016 (by omega)).trans hMo.2.2.2.2.2.2.2.2.2.2.2.2.2.2.2.2)⟩⟩⟩⟩⟩, by show rm_W D ad _ _ t.heap; rw [ht]; exact hW⟩, hS.F ht⟩) hS.2.2 dX6_toppled_33
  · skip
    subst hz
    have ho_1 : ∀ q, q ≠ 1000 → ct_1 q = ct q := hqo
    have hof_1 : ∀ q, q ≠ 1000 → ct_1 q = ct q := fun q h0_1 => (ho_1 q h0_1).trans rfl
    have hm0_1 : ct_1 1000 = some (.inr (6, [.int (jI 0), .int (jI ((yc : Nat) : Int)), .int (jI ((hc : Nat) : Int)), .ref (ad 1001), .ref (ad 1002), .ref (ad 1003), .ref (ad 1004), .ref (ad 1005), .ref (ad 1006), .ref (ad 1007), .ref (ad 1008), .ref (ad 1009), .ref (ad 1010), .ref (ad 1011), .ref (ad 1012), .ref (ad 1013), .ref (ad 1014), .ref (ad 1015), .ref (ad 1016)]) : va_E) := hqs
    obtain ⟨h9, hn_h9⟩ : ∃ h9 : Nat, z9 = (h9 : Int) := ⟨z9.toNat, by omega⟩
    subst hn_h9
    have hh9 : h9 < hc := by omega
    have hyh := hhy h9 hh9
    have hn8 := hyn (hy h9) hyh
    have hM8 := hyM (hy h9) hyh
    refine rm_if_eq (tgt := 32) hx hb ⟨by omega, by omega⟩ dX6_toppled_5 (by decide) (fun hq => absurd hq (by omega)) (fun _ => ?_)
    refine lv_aload_n hx hb dX6_toppled_8 rfl (lv_at hl 0 rfl) ?_
    refine lv_iload_n hx hb dX6_toppled_9 rfl (lv_at hl 1 rfl) ?_
    refine lv_iload_n hx hb dX6_toppled_10 rfl (lv_at hl 2 rfl) ?_
    refine lv_iconst (v := jI 0) hx hb dX6_toppled_11 rfl ?_
    refine rm_calli (va_runV (As := [.int (jI ((h9 : Nat) : Int)), .int (jI p9), .int (jI 0)]) (rest := []) ⟨hx, hb, hml, hown, hts⟩ (c_X6_isIn l D ty ad ct_1 H.size 0 yc hc yn yM yu hy hg hf mA pt ro ke kt mu sl tw bw de ⟨hm0_1, ((hof_1 1001 (by omega)).trans hMo.2.1), ((hof_1 1002 (by omega)).trans hMo.2.2.1), ((hof_1 1003 (by omega)).trans hMo.2.2.2.1), ((hof_1 1004 (by omega)).trans hMo.2.2.2.2.1), ((hof_1 1005 (by omega)).trans hMo.2.2.2.2.2.1), ((hof_1 1006 (by omega)).trans hMo.2.2.2.2.2.2.1), ((hof_1 1007 (by omega)).trans hMo.2.2.2.2.2.2.2.1), ((hof_1 1008 (by omega)).trans hMo.2.2.2.2.2.2.2.2.1), ((hof_1 1009 (by omega)).trans hMo.2.2.2.2.2.2.2.2.2.1), ((hof_1 1010 (by omega)).trans hMo.2.2.2.2.2.2.2.2.2.2.1), ((hof_1 1011 (by omega)).trans hMo.2.2.2.2.2.2.2.2.2.2.2.1), ((hof_1 1012 (by omega)).trans hMo.2.2.2.2.2.2.2.2.2.2.2.2.1), ((hof_1 1013 (by omega)).trans hMo.2.2.2.2.2.2.2.2.2.2.2.2.2.1), ((hof_1 1014 (by omega)).trans hMo.2.2.2.2.2.2.2.2.2.2.2.2.2.2.1), ((hof_1 1015 (by omega)).trans hMo.2.2.2.2.2.2.2.2.2.2.2.2.2.2.2.1), ((hof_1 1016 (by omega)).trans hMo.2.2.2.2.2.2.2.2.2.2.2.2.2.2.2.2)⟩ rfl h9 (by omega) (by omega) hn8.2 p9 0 hp9 (by omega)) (cwV 3 hts gX6_toppled_X6_isIn rfl rfl rfl (by decide +kernel) ⟨Nat.le_of_ble_eq_true rfl, Nat.le_of_ble_eq_true rfl⟩) (rm_preV hK hNw hW hm0_1 rfl) rfl rfl hl.1 rfl (lv_room (Nat.le_of_ble_eq_true rfl)) dX6_toppled_12 ⟨Nat.zero_le _, Nat.zero_le _⟩) hW hS hA (fun z_2 ct_2 H locs hq_2 hW hS => ?_)
    obtain ⟨hqo, hqc⟩ := hq_2
    rcases hqc with ⟨hbad, hz, hqs⟩ | ⟨hp1, hp2, hz, hqs⟩
    · skip
      subst hz
      have ho_2 : ∀ q, q ≠ 1000 → ct_2 q = ct_1 q := hqo
      have hof_2 : ∀ q, q ≠ 1000 → ct_2 q = ct q := fun q h0_2 => (ho_2 q h0_2).trans (hof_1 q h0_2)
      have hm0_2 : ct_2 1000 = some (.inr (6, [.int (jI 1), .int (jI ((yc : Nat) : Int)), .int (jI ((hc : Nat) : Int)), .ref (ad 1001), .ref (ad 1002), .ref (ad 1003), .ref (ad 1004), .ref (ad 1005), .ref (ad 1006), .ref (ad 1007), .ref (ad 1008), .ref (ad 1009), .ref (ad 1010), .ref (ad 1011), .ref (ad 1012), .ref (ad 1013), .ref (ad 1014), .ref (ad 1015), .ref (ad 1016)]) : va_E) := hqs
      refine rm_if_eq (tgt := 32) hx hb ⟨by omega, by omega⟩ dX6_toppled_15 (by decide) (fun _ => ?_) (fun hq => absurd hq (by omega))
      refine lv_lconst (v := jL 0) hx hb dX6_toppled_32 rfl ?_
      exact W.lret hx hb hr (fun t ht hw => ⟨⟨_, (0, ct_2), rfl, ⟨rfl, ⟨(fun q hq9 => hof_2 q (by omega)), Or.inl ⟨Or.inr ⟨h9, rfl, hh9, hbad⟩, ⟨mA, pt, ro, ke, kt, mu, sl, tw, bw, de, ⟨hm0_2, ((hof_2 1001 (by omega)).trans hMo.2.1), ((hof_2 1002 (by omega)).trans hMo.2.2.1), ((hof_2 1003 (by omega)).trans hMo.2.2.2.1), ((hof_2 1004 (by omega)).trans hMo.2.2.2.2.1), ((hof_2 1005 (by omega)).trans hMo.2.2.2.2.2.1), ((hof_2 1006 (by omega)).trans hMo.2.2.2.2.2.2.1), ((hof_2 1007 (by omega)).trans hMo.2.2.2.2.2.2.2.1), ((hof_2 1008 (by omega)).trans hMo.2.2.2.2.2.2.2.2.1), ((hof_2 1009 (by omega)).trans hMo.2.2.2.2.2.2.2.2.2.1), ((hof_2 1010 (by omega)).trans hMo.2.2.2.2.2.2.2.2.2.2.1), ((hof_2 1011 (by omega)).trans hMo.2.2.2.2.2.2.2.2.2.2.2.1), ((hof_2 1012 (by omega)).trans hMo.2.2.2.2.2.2.2.2.2.2.2.2.1), ((hof_2 1013 (by omega)).trans hMo.2.2.2.2.2.2.2.2.2.2.2.2.2.1), ((hof_2 1014 (by omega)).trans hMo.2.2.2.2.2.2.2.2.2.2.2.2.2.2.1), ((hof_2 1015 (by omega)).trans hMo.2.2.2.2.2.2.2.2.2.2.2.2.2.2.2.1), ((hof_2 1016 (by omega)).trans hMo.2.2.2.2.2.2.2.2.2.2.2.2.2.2.2.2)⟩⟩⟩⟩⟩, by show rm_W D ad _ _ t.heap; rw [ht]; exact hW⟩, hS.F ht⟩) hS.2.2 dX6_toppled_33
    · skip
      subst hz
      have ho_2 : ∀ q, q ≠ 1000 → ct_2 q = ct_1 q := hqo
      have hof_2 : ∀ q, q ≠ 1000 → ct_2 q = ct q := fun q h0_2 => (ho_2 q h0_2).trans (hof_1 q h0_2)
      have hm0_2 : ct_2 1000 = some (.inr (6, [.int (jI 0), .int (jI ((yc : Nat) : Int)), .int (jI ((hc : Nat) : Int)), .ref (ad 1001), .ref (ad 1002), .ref (ad 1003), .ref (ad 1004), .ref (ad 1005), .ref (ad 1006), .ref (ad 1007), .ref (ad 1008), .ref (ad 1009), .ref (ad 1010), .ref (ad 1011), .ref (ad 1012), .ref (ad 1013), .ref (ad 1014), .ref (ad 1015), .ref (ad 1016)]) : va_E) := hqs
      obtain ⟨q9, hn_q9⟩ : ∃ q9 : Nat, p9 = (q9 : Int) := ⟨p9.toNat, by omega⟩
      subst hn_q9
      refine rm_if_eq (tgt := 32) hx hb ⟨by omega, by omega⟩ dX6_toppled_15 (by decide) (fun hq => absurd hq (by omega)) (fun _ => ?_)
      refine lv_aload_n hx hb dX6_toppled_18 rfl (lv_at hl 0 rfl) ?_
      refine rm_get (ci := 6) (v := .ref (ad 1006)) (C := RX6) (T := TX6) (N := 19) hx hb hts (by decide +kernel) hown hK hW hm0_2 rfl 8 (by decide) (hts (.fieldLink RX6 27 "GrainYardModel" "toppled" "[J") (by decide +kernel)) (fun _ h9 => h9) rfl dX6_toppled_19 ?_
      refine lv_bipush (v := jI 8) hx hb dX6_toppled_22 (by decide) ?_
      refine lv_iload_n hx hb dX6_toppled_24 rfl (lv_at hl 1 rfl) ?_
      refine rm_imul hx hb dX6_toppled_25 ?_
      refine lv_iload_n hx hb dX6_toppled_26 rfl (lv_at hl 2 rfl) ?_
      refine rm_iadd hx hb dX6_toppled_27 ?_
      refine rm_lald hx hb hK hW (f := (fl 8 hf)) ((hof_2 1006 (by omega)).trans hMo.2.2.2.2.2.2.1) (8 * h9 + q9) (by first | rfl | (push_cast; omega)) (by omega) (by omega) dX6_toppled_28 ?_
      rw [fl_at (by omega)]
      refine lv_goto (tgt := 33) hx hb dX6_toppled_29 (by decide) ?_
      exact W.lret hx hb hr (fun t ht hw => ⟨⟨_, ((hf h9 q9), ct_2), rfl, ⟨rfl, ⟨(fun q hq9 => hof_2 q (by omega)), Or.inr ⟨h9, q9, rfl, rfl, hh9, by omega, rfl, ⟨mA, pt, ro, ke, kt, mu, sl, tw, bw, de, ⟨hm0_2, ((hof_2 1001 (by omega)).trans hMo.2.1), ((hof_2 1002 (by omega)).trans hMo.2.2.1), ((hof_2 1003 (by omega)).trans hMo.2.2.2.1), ((hof_2 1004 (by omega)).trans hMo.2.2.2.2.1), ((hof_2 1005 (by omega)).trans hMo.2.2.2.2.2.1), ((hof_2 1006 (by omega)).trans hMo.2.2.2.2.2.2.1), ((hof_2 1007 (by omega)).trans hMo.2.2.2.2.2.2.2.1), ((hof_2 1008 (by omega)).trans hMo.2.2.2.2.2.2.2.2.1), ((hof_2 1009 (by omega)).trans hMo.2.2.2.2.2.2.2.2.2.1), ((hof_2 1010 (by omega)).trans hMo.2.2.2.2.2.2.2.2.2.2.1), ((hof_2 1011 (by omega)).trans hMo.2.2.2.2.2.2.2.2.2.2.2.1), ((hof_2 1012 (by omega)).trans hMo.2.2.2.2.2.2.2.2.2.2.2.2.1), ((hof_2 1013 (by omega)).trans hMo.2.2.2.2.2.2.2.2.2.2.2.2.2.1), ((hof_2 1014 (by omega)).trans hMo.2.2.2.2.2.2.2.2.2.2.2.2.2.2.1), ((hof_2 1015 (by omega)).trans hMo.2.2.2.2.2.2.2.2.2.2.2.2.2.2.2.1), ((hof_2 1016 (by omega)).trans hMo.2.2.2.2.2.2.2.2.2.2.2.2.2.2.2.2)⟩⟩⟩⟩⟩, by show rm_W D ad _ _ t.heap; rw [ht]; exact hW⟩, hS.F ht⟩) hS.2.2 dX6_toppled_33
set_option maxHeartbeats 4000000 in
set_option maxRecDepth 100000 in
theorem c_X6_set (l : Launch) (D : va_G) (ty : Nat → ClassId) (ad : Nat → Nat) (ct : rm_C) (sz : Nat) (th : Int) (yc hc : Nat) (yn : Nat → Nat) (yM : Nat → Nat → Nat → Int) (yu : Nat → Int) (hy : Nat → Nat) (hg hf mA : Nat → Nat → Int) (pt ro ke kt mu sl tw bw de : Nat → Int) (hMo : ModAt ty ad ct th yc hc yn yM yu hy hg hf mA pt ro ke kt mu sl tw bw de) (hb20 : yc ≤ 6 ∧ hc ≤ 20) (hyn : ∀ y, y < yc → 2 ≤ yn y ∧ yn y ≤ 8) (hyM : ∀ y, y < yc → ∀ i j, 0 ≤ yM y i j ∧ yM y i j ≤ 3) (hhy : ∀ h, h < hc → hy h < yc) (z9 p9 n9 : Int) (hz9 : r32 z9) (hp9 : r32 p9) (hn9 : r32 n9) : Met l yX6_set wsX6_set ({ frames := 2, cells := 0, slots := 0, locals := 45 }) (rm_P D ty ad ct sz [.ref (ad 1000), .int (jI z9), .int (jI p9), .int (jI n9)]) (rm_Qi D ad ct sz (fun z ct1 => (∀ q, (q < 1000 ∨ 1016 < q) → ct1 q = ct q) ∧ ((((z9 < 0 ∨ ((hc : Nat) : Int) ≤ z9) ∨ ∃ h9 : Nat, z9 = (h9 : Int) ∧ h9 < hc ∧ (p9 < 1 ∨ (yn (hy h9) : Int) ≤ p9)) ∧ ModX ty ad ct1 1 yc hc yn yM yu hy hg hf) ∨ ∃ h9 q9 : Nat, z9 = (h9 : Int) ∧ p9 = (q9 : Int) ∧ h9 < hc ∧ 1 ≤ q9 ∧ q9 < yn (hy h9) ∧ (((n9 < 0 ∨ 100000 < n9) ∧ ModX ty ad ct1 2 yc hc yn yM yu hy hg hf) ∨ (0 ≤ n9 ∧ n9 ≤ 100000 ∧ z = hg h9 q9 ∧ ModX ty ad ct1 0 yc hc yn yM yu hy (us hg h9 (ub (hg h9) q9 n9)) hf))))) 0 0 (rm_A ad ct sz) := by
  refine Met.ofW (cc := cX6_set) (maxL := 5) (ret := (some .int)) (by decide) rfl ?_
  intro p e s m args below meth c s₁ B hml hv
  obtain ⟨hargs, hsz, hW, hK, hNw⟩ := hv
  have hx := B.exec
  have hb := B.bytes
  have hr := B.returns
  have hts := atoms_spec (ws := wsX6_set) B.pre
  have hown : s.vm.findClass RX6 = some m.cls := findClass_of_methodNamed B.named
  have hlocks := B.notSynchronized
  subst hsz
  have hW := hW.own (sz := s.heap.size)
  have hA : ∀ q : Nat, s.heap.size ≤ q → rm_A ad ct s.heap.size q := fun q h => Or.inr h
  have hS : va_S (rm_A ad ct s.heap.size) s.heap s.heap [] := va_S.rf
  have hent : entryFrame m args 5 = entryFrame m ([.ref (ad 1000), .int (jI z9), .int (jI p9), .int (jI n9)] : List Value).toArray 5 := by rw [hargs]
  have hl := lv_entry ([.ref (ad 1000), .int (jI z9), .int (jI p9), .int (jI n9)]) (n := 5) (Nat.le_of_ble_eq_true rfl)
  rw [hent, lg_entry_eq]
  generalize (lg_sl ([.ref (ad 1000), .int (jI z9), .int (jI p9), .int (jI n9)]) ++ List.replicate (5 - (lg_sl ([.ref (ad 1000), .int (jI z9), .int (jI p9), .int (jI n9)])).length) Slot.unset).toArray = ls at hl ⊢
  have hl : lv_has ls 5 [(0, .ref (ad 1000)), (1, .int (jI z9)), (2, .int (jI p9)), (3, .int (jI n9))] := hl
  refine lv_aload_n hx hb dX6_set_0 rfl (lv_at hl 0 rfl) ?_
  refine lv_iload_n hx hb dX6_set_1 rfl (lv_at hl 1 rfl) ?_
  refine rm_calli (va_runV (As := [.int (jI z9)]) (rest := []) ⟨hx, hb, hml, hown, hts⟩ (c_X6_isHeap l D ty ad ct s.heap.size th yc hc yn yM yu hy hg hf mA pt ro ke kt mu sl tw bw de hMo z9 hz9 hb20) (cwV 1 hts gX6_set_X6_isHeap rfl rfl rfl (by decide +kernel) ⟨Nat.le_of_ble_eq_true rfl, Nat.le_of_ble_eq_true rfl⟩) (rm_preV hK hNw hW hMo.1 rfl) rfl rfl hl.1 rfl (lv_room (Nat.le_of_ble_eq_true rfl)) dX6_set_2 ⟨Nat.zero_le _, Nat.zero_le _⟩) hW hS hA (fun z_1 ct_1 H locs hq_1 hW hS => ?_)
  obtain ⟨hqo, hqc⟩ := hq_1
  rcases hqc with ⟨hbad, hz, hqs⟩ | ⟨hp1, hp2, hz, hqs⟩
  · skip
    subst hz
    have ho_1 : ∀ q, q ≠ 1000 → ct_1 q = ct q := hqo
    have hof_1 : ∀ q, q ≠ 1000 → q ≠ 1005 → ct_1 q = ct q := fun q h0_1 h1_1 => (ho_1 q h0_1).trans rfl
    have hm0_1 : ct_1 1000 = some (.inr (6, [.int (jI 1), .int (jI ((yc : Nat) : Int)), .int (jI ((hc : Nat) : Int)), .ref (ad 1001), .ref (ad 1002), .ref (ad 1003), .ref (ad 1004), .ref (ad 1005), .ref (ad 1006), .ref (ad 1007), .ref (ad 1008), .ref (ad 1009), .ref (ad 1010), .ref (ad 1011), .ref (ad 1012), .ref (ad 1013), .ref (ad 1014), .ref (ad 1015), .ref (ad 1016)]) : va_E) := hqs
    have hm1_1 : ct_1 1005 = some (rl ty 160 (fl 8 hg)) := (ho_1 1005 (by omega)).trans hMo.2.2.2.2.2.1
    refine rm_if_eq (tgt := 41) hx hb ⟨by omega, by omega⟩ dX6_set_5 (by decide) (fun _ => ?_) (fun hq => absurd hq (by omega))
    refine lv_iconst (v := jI 0) hx hb dX6_set_41 rfl ?_
    exact W.iret hx hb hr (fun t ht hw => ⟨⟨_, (0, ct_1), rfl, ⟨rfl, ⟨(fun q hq9 => hof_1 q (by omega) (by omega)), Or.inl ⟨Or.inl hbad, ⟨mA, pt, ro, ke, kt, mu, sl, tw, bw, de, ⟨hm0_1, ((hof_1 1001 (by omega) (by omega)).trans hMo.2.1), ((hof_1 1002 (by omega) (by omega)).trans hMo.2.2.1), ((hof_1 1003 (by omega) (by omega)).trans hMo.2.2.2.1), ((hof_1 1004 (by omega) (by omega)).trans hMo.2.2.2.2.1), hm1_1, ((hof_1 1006 (by omega) (by omega)).trans hMo.2.2.2.2.2.2.1), ((hof_1 1007 (by omega) (by omega)).trans hMo.2.2.2.2.2.2.2.1), ((hof_1 1008 (by omega) (by omega)).trans hMo.2.2.2.2.2.2.2.2.1), ((hof_1 1009 (by omega) (by omega)).trans hMo.2.2.2.2.2.2.2.2.2.1), ((hof_1 1010 (by omega) (by omega)).trans hMo.2.2.2.2.2.2.2.2.2.2.1), ((hof_1 1011 (by omega) (by omega)).trans hMo.2.2.2.2.2.2.2.2.2.2.2.1), ((hof_1 1012 (by omega) (by omega)).trans hMo.2.2.2.2.2.2.2.2.2.2.2.2.1), ((hof_1 1013 (by omega) (by omega)).trans hMo.2.2.2.2.2.2.2.2.2.2.2.2.2.1), ((hof_1 1014 (by omega) (by omega)).trans hMo.2.2.2.2.2.2.2.2.2.2.2.2.2.2.1), ((hof_1 1015 (by omega) (by omega)).trans hMo.2.2.2.2.2.2.2.2.2.2.2.2.2.2.2.1), ((hof_1 1016 (by omega) (by omega)).trans hMo.2.2.2.2.2.2.2.2.2.2.2.2.2.2.2.2)⟩⟩⟩⟩⟩, by show rm_W D ad _ _ t.heap; rw [ht]; exact hW⟩, hS.F ht⟩) hS.2.2 dX6_set_42
  · skip
    subst hz
    have ho_1 : ∀ q, q ≠ 1000 → ct_1 q = ct q := hqo
    have hof_1 : ∀ q, q ≠ 1000 → q ≠ 1005 → ct_1 q = ct q := fun q h0_1 h1_1 => (ho_1 q h0_1).trans rfl
    have hm0_1 : ct_1 1000 = some (.inr (6, [.int (jI 0), .int (jI ((yc : Nat) : Int)), .int (jI ((hc : Nat) : Int)), .ref (ad 1001), .ref (ad 1002), .ref (ad 1003), .ref (ad 1004), .ref (ad 1005), .ref (ad 1006), .ref (ad 1007), .ref (ad 1008), .ref (ad 1009), .ref (ad 1010), .ref (ad 1011), .ref (ad 1012), .ref (ad 1013), .ref (ad 1014), .ref (ad 1015), .ref (ad 1016)]) : va_E) := hqs
    have hm1_1 : ct_1 1005 = some (rl ty 160 (fl 8 hg)) := (ho_1 1005 (by omega)).trans hMo.2.2.2.2.2.1
    obtain ⟨h9, hn_h9⟩ : ∃ h9 : Nat, z9 = (h9 : Int) := ⟨z9.toNat, by omega⟩
    subst hn_h9
    have hh9 : h9 < hc := by omega
    have hyh := hhy h9 hh9
    have hn8 := hyn (hy h9) hyh
    have hM8 := hyM (hy h9) hyh
    refine rm_if_eq (tgt := 41) hx hb ⟨by omega, by omega⟩ dX6_set_5 (by decide) (fun hq => absurd hq (by omega)) (fun _ => ?_)
    refine lv_aload_n hx hb dX6_set_8 rfl (lv_at hl 0 rfl) ?_
    refine lv_iload_n hx hb dX6_set_9 rfl (lv_at hl 1 rfl) ?_
    refine lv_iload_n hx hb dX6_set_10 rfl (lv_at hl 2 rfl) ?_
    refine lv_iconst (v := jI 1) hx hb dX6_set_11 rfl ?_
    refine rm_calli (va_runV (As := [.int (jI ((h9 : Nat) : Int)), .int (jI p9), .int (jI 1)]) (rest := []) ⟨hx, hb, hml, hown, hts⟩ (c_X6_isIn l D ty ad ct_1 H.size 0 yc hc yn yM yu hy hg hf mA pt ro ke kt mu sl tw bw de ⟨hm0_1, ((hof_1 1001 (by omega) (by omega)).trans hMo.2.1), ((hof_1 1002 (by omega) (by omega)).trans hMo.2.2.1), ((hof_1 1003 (by omega) (by omega)).trans hMo.2.2.2.1), ((hof_1 1004 (by omega) (by omega)).trans hMo.2.2.2.2.1), hm1_1, ((hof_1 1006 (by omega) (by omega)).trans hMo.2.2.2.2.2.2.1), ((hof_1 1007 (by omega) (by omega)).trans hMo.2.2.2.2.2.2.2.1), ((hof_1 1008 (by omega) (by omega)).trans hMo.2.2.2.2.2.2.2.2.1), ((hof_1 1009 (by omega) (by omega)).trans hMo.2.2.2.2.2.2.2.2.2.1), ((hof_1 1010 (by omega) (by omega)).trans hMo.2.2.2.2.2.2.2.2.2.2.1), ((hof_1 1011 (by omega) (by omega)).trans hMo.2.2.2.2.2.2.2.2.2.2.2.1), ((hof_1 1012 (by omega) (by omega)).trans hMo.2.2.2.2.2.2.2.2.2.2.2.2.1), ((hof_1 1013 (by omega) (by omega)).trans hMo.2.2.2.2.2.2.2.2.2.2.2.2.2.1), ((hof_1 1014 (by omega) (by omega)).trans hMo.2.2.2.2.2.2.2.2.2.2.2.2.2.2.1), ((hof_1 1015 (by omega) (by omega)).trans hMo.2.2.2.2.2.2.2.2.2.2.2.2.2.2.2.1), ((hof_1 1016 (by omega) (by omega)).trans hMo.2.2.2.2.2.2.2.2.2.2.2.2.2.2.2.2)⟩ rfl h9 (by omega) (by omega) hn8.2 p9 1 hp9 (by omega)) (cwV 3 hts gX6_set_X6_isIn rfl rfl rfl (by decide +kernel) ⟨Nat.le_of_ble_eq_true rfl, Nat.le_of_ble_eq_true rfl⟩) (rm_preV hK hNw hW hm0_1 rfl) rfl rfl hl.1 rfl (lv_room (Nat.le_of_ble_eq_true rfl)) dX6_set_12 ⟨Nat.zero_le _, Nat.zero_le _⟩) hW hS hA (fun z_2 ct_2 H locs hq_2 hW hS => ?_)
    obtain ⟨hqo, hqc⟩ := hq_2
    rcases hqc with ⟨hbad, hz, hqs⟩ | ⟨hp1, hp2, hz, hqs⟩
    · skip
      subst hz
      have ho_2 : ∀ q, q ≠ 1000 → ct_2 q = ct_1 q := hqo
      have hof_2 : ∀ q, q ≠ 1000 → q ≠ 1005 → ct_2 q = ct q := fun q h0_2 h1_2 => (ho_2 q h0_2).trans (hof_1 q h0_2 h1_2)
      have hm0_2 : ct_2 1000 = some (.inr (6, [.int (jI 1), .int (jI ((yc : Nat) : Int)), .int (jI ((hc : Nat) : Int)), .ref (ad 1001), .ref (ad 1002), .ref (ad 1003), .ref (ad 1004), .ref (ad 1005), .ref (ad 1006), .ref (ad 1007), .ref (ad 1008), .ref (ad 1009), .ref (ad 1010), .ref (ad 1011), .ref (ad 1012), .ref (ad 1013), .ref (ad 1014), .ref (ad 1015), .ref (ad 1016)]) : va_E) := hqs
      have hm1_2 : ct_2 1005 = some (rl ty 160 (fl 8 hg)) := (ho_2 1005 (by omega)).trans hm1_1
      refine rm_if_eq (tgt := 41) hx hb ⟨by omega, by omega⟩ dX6_set_15 (by decide) (fun _ => ?_) (fun hq => absurd hq (by omega))
      refine lv_iconst (v := jI 0) hx hb dX6_set_41 rfl ?_
      exact W.iret hx hb hr (fun t ht hw => ⟨⟨_, (0, ct_2), rfl, ⟨rfl, ⟨(fun q hq9 => hof_2 q (by omega) (by omega)), Or.inl ⟨Or.inr ⟨h9, rfl, hh9, hbad⟩, ⟨mA, pt, ro, ke, kt, mu, sl, tw, bw, de, ⟨hm0_2, ((hof_2 1001 (by omega) (by omega)).trans hMo.2.1), ((hof_2 1002 (by omega) (by omega)).trans hMo.2.2.1), ((hof_2 1003 (by omega) (by omega)).trans hMo.2.2.2.1), ((hof_2 1004 (by omega) (by omega)).trans hMo.2.2.2.2.1), hm1_2, ((hof_2 1006 (by omega) (by omega)).trans hMo.2.2.2.2.2.2.1), ((hof_2 1007 (by omega) (by omega)).trans hMo.2.2.2.2.2.2.2.1), ((hof_2 1008 (by omega) (by omega)).trans hMo.2.2.2.2.2.2.2.2.1), ((hof_2 1009 (by omega) (by omega)).trans hMo.2.2.2.2.2.2.2.2.2.1), ((hof_2 1010 (by omega) (by omega)).trans hMo.2.2.2.2.2.2.2.2.2.2.1), ((hof_2 1011 (by omega) (by omega)).trans hMo.2.2.2.2.2.2.2.2.2.2.2.1), ((hof_2 1012 (by omega) (by omega)).trans hMo.2.2.2.2.2.2.2.2.2.2.2.2.1), ((hof_2 1013 (by omega) (by omega)).trans hMo.2.2.2.2.2.2.2.2.2.2.2.2.2.1), ((hof_2 1014 (by omega) (by omega)).trans hMo.2.2.2.2.2.2.2.2.2.2.2.2.2.2.1), ((hof_2 1015 (by omega) (by omega)).trans hMo.2.2.2.2.2.2.2.2.2.2.2.2.2.2.2.1), ((hof_2 1016 (by omega) (by omega)).trans hMo.2.2.2.2.2.2.2.2.2.2.2.2.2.2.2.2)⟩⟩⟩⟩⟩, by show rm_W D ad _ _ t.heap; rw [ht]; exact hW⟩, hS.F ht⟩) hS.2.2 dX6_set_42
    · skip
      subst hz
      have ho_2 : ∀ q, q ≠ 1000 → ct_2 q = ct_1 q := hqo
      have hof_2 : ∀ q, q ≠ 1000 → q ≠ 1005 → ct_2 q = ct q := fun q h0_2 h1_2 => (ho_2 q h0_2).trans (hof_1 q h0_2 h1_2)
      have hm0_2 : ct_2 1000 = some (.inr (6, [.int (jI 0), .int (jI ((yc : Nat) : Int)), .int (jI ((hc : Nat) : Int)), .ref (ad 1001), .ref (ad 1002), .ref (ad 1003), .ref (ad 1004), .ref (ad 1005), .ref (ad 1006), .ref (ad 1007), .ref (ad 1008), .ref (ad 1009), .ref (ad 1010), .ref (ad 1011), .ref (ad 1012), .ref (ad 1013), .ref (ad 1014), .ref (ad 1015), .ref (ad 1016)]) : va_E) := hqs
      have hm1_2 : ct_2 1005 = some (rl ty 160 (fl 8 hg)) := (ho_2 1005 (by omega)).trans hm1_1
      obtain ⟨q9, hn_q9⟩ : ∃ q9 : Nat, p9 = (q9 : Int) := ⟨p9.toNat, by omega⟩
      subst hn_q9
      refine rm_if_eq (tgt := 41) hx hb ⟨by omega, by omega⟩ dX6_set_15 (by decide) (fun hq => absurd hq (by omega)) (fun _ => ?_)
      refine lv_aload_n hx hb dX6_set_18 rfl (lv_at hl 0 rfl) ?_
      refine lv_iload_n hx hb dX6_set_19 rfl (lv_at hl 3 rfl) ?_
      refine rm_if_lt (tgt := 33) hx hb ⟨by omega, by omega⟩ dX6_set_20 (by decide) (fun hc_3 => ?_) (fun hc_3 => ?_)
      · skip
        refine lv_iconst (v := jI 0) hx hb dX6_set_33 rfl ?_
        refine lv_iconst (v := jI 2) hx hb dX6_set_34 rfl ?_
        refine rm_calli (va_runV (As := [.int (jI 0), .int (jI 2)]) (rest := []) ⟨hx, hb, hml, hown, hts⟩ (c_X6_right l D ty ad ct_2 H.size 0 yc hc yn yM yu hy hg hf mA pt ro ke kt mu sl tw bw de ⟨hm0_2, ((hof_2 1001 (by omega) (by omega)).trans hMo.2.1), ((hof_2 1002 (by omega) (by omega)).trans hMo.2.2.1), ((hof_2 1003 (by omega) (by omega)).trans hMo.2.2.2.1), ((hof_2 1004 (by omega) (by omega)).trans hMo.2.2.2.2.1), hm1_2, ((hof_2 1006 (by omega) (by omega)).trans hMo.2.2.2.2.2.2.1), ((hof_2 1007 (by omega) (by omega)).trans hMo.2.2.2.2.2.2.2.1), ((hof_2 1008 (by omega) (by omega)).trans hMo.2.2.2.2.2.2.2.2.1), ((hof_2 1009 (by omega) (by omega)).trans hMo.2.2.2.2.2.2.2.2.2.1), ((hof_2 1010 (by omega) (by omega)).trans hMo.2.2.2.2.2.2.2.2.2.2.1), ((hof_2 1011 (by omega) (by omega)).trans hMo.2.2.2.2.2.2.2.2.2.2.2.1), ((hof_2 1012 (by omega) (by omega)).trans hMo.2.2.2.2.2.2.2.2.2.2.2.2.1), ((hof_2 1013 (by omega) (by omega)).trans hMo.2.2.2.2.2.2.2.2.2.2.2.2.2.1), ((hof_2 1014 (by omega) (by omega)).trans hMo.2.2.2.2.2.2.2.2.2.2.2.2.2.2.1), ((hof_2 1015 (by omega) (by omega)).trans hMo.2.2.2.2.2.2.2.2.2.2.2.2.2.2.2.1), ((hof_2 1016 (by omega) (by omega)).trans hMo.2.2.2.2.2.2.2.2.2.2.2.2.2.2.2.2)⟩ 0 2 r32_0 (by omega) (by omega)) (cwV 2 hts gX6_set_X6_right rfl rfl rfl (by decide +kernel) ⟨Nat.le_of_ble_eq_true rfl, Nat.le_of_ble_eq_true rfl⟩) (rm_preV hK hNw hW hm0_2 rfl) rfl rfl hl.1 rfl (lv_room (Nat.le_of_ble_eq_true rfl)) dX6_set_35 ⟨Nat.zero_le _, Nat.zero_le _⟩) hW hS hA (fun z_4 ct_4 H locs hq_4 hW hS => ?_)
        obtain ⟨t9, ht9, hz, hq1, hq2⟩ := hq_4
        rw [if_pos (by decide)] at ht9
        subst ht9
        rw [if_neg (by omega)] at hz
        subst hz
        have ho_4 : ∀ q, q ≠ 1000 → ct_4 q = ct_2 q := hq2
        have hof_4 : ∀ q, q ≠ 1000 → q ≠ 1005 → ct_4 q = ct q := fun q h0_4 h1_4 => (ho_4 q h0_4).trans (hof_2 q h0_4 h1_4)
        have hm0_4 : ct_4 1000 = some (.inr (6, [.int (jI 2), .int (jI ((yc : Nat) : Int)), .int (jI ((hc : Nat) : Int)), .ref (ad 1001), .ref (ad 1002), .ref (ad 1003), .ref (ad 1004), .ref (ad 1005), .ref (ad 1006), .ref (ad 1007), .ref (ad 1008), .ref (ad 1009), .ref (ad 1010), .ref (ad 1011), .ref (ad 1012), .ref (ad 1013), .ref (ad 1014), .ref (ad 1015), .ref (ad 1016)]) : va_E) := hq1
        have hm1_4 : ct_4 1005 = some (rl ty 160 (fl 8 hg)) := (ho_4 1005 (by omega)).trans hm1_2
        refine rm_if_ne (tgt := 43) hx hb ⟨by omega, by omega⟩ dX6_set_38 (by decide) (fun hq => absurd hq (by omega)) (fun _ => ?_)
        refine lv_iconst (v := jI 0) hx hb dX6_set_41 rfl ?_
        exact W.iret hx hb hr (fun t ht hw => ⟨⟨_, (0, ct_4), rfl, ⟨rfl, ⟨(fun q hq9 => hof_4 q (by omega) (by omega)), Or.inr ⟨h9, q9, rfl, rfl, hh9, by omega, by omega, Or.inl ⟨by omega, ⟨mA, pt, ro, ke, kt, mu, sl, tw, bw, de, ⟨hm0_4, ((hof_4 1001 (by omega) (by omega)).trans hMo.2.1), ((hof_4 1002 (by omega) (by omega)).trans hMo.2.2.1), ((hof_4 1003 (by omega) (by omega)).trans hMo.2.2.2.1), ((hof_4 1004 (by omega) (by omega)).trans hMo.2.2.2.2.1), hm1_4, ((hof_4 1006 (by omega) (by omega)).trans hMo.2.2.2.2.2.2.1), ((hof_4 1007 (by omega) (by omega)).trans hMo.2.2.2.2.2.2.2.1), ((hof_4 1008 (by omega) (by omega)).trans hMo.2.2.2.2.2.2.2.2.1), ((hof_4 1009 (by omega) (by omega)).trans hMo.2.2.2.2.2.2.2.2.2.1), ((hof_4 1010 (by omega) (by omega)).trans hMo.2.2.2.2.2.2.2.2.2.2.1), ((hof_4 1011 (by omega) (by omega)).trans hMo.2.2.2.2.2.2.2.2.2.2.2.1), ((hof_4 1012 (by omega) (by omega)).trans hMo.2.2.2.2.2.2.2.2.2.2.2.2.1), ((hof_4 1013 (by omega) (by omega)).trans hMo.2.2.2.2.2.2.2.2.2.2.2.2.2.1), ((hof_4 1014 (by omega) (by omega)).trans hMo.2.2.2.2.2.2.2.2.2.2.2.2.2.2.1), ((hof_4 1015 (by omega) (by omega)).trans hMo.2.2.2.2.2.2.2.2.2.2.2.2.2.2.2.1), ((hof_4 1016 (by omega) (by omega)).trans hMo.2.2.2.2.2.2.2.2.2.2.2.2.2.2.2.2)⟩⟩⟩⟩⟩⟩, by show rm_W D ad _ _ t.heap; rw [ht]; exact hW⟩, hS.F ht⟩) hS.2.2 dX6_set_42
      · skip
        refine lv_iload_n hx hb dX6_set_23 rfl (lv_at hl 3 rfl) ?_
        refine rm_ldc (z := 100000) hx hb hown (hts (.constant RX6 139 (100000)) (by decide +kernel)) (by decide) dX6_set_24 ?_
        refine rm_icmp_gt (tgt := 33) hx hb ⟨by omega, by omega⟩ ⟨by omega, by omega⟩ dX6_set_26 (by decide) (fun hc_5 => ?_) (fun hc_5 => ?_)
        · skip
          refine lv_iconst (v := jI 0) hx hb dX6_set_33 rfl ?_
          refine lv_iconst (v := jI 2) hx hb dX6_set_34 rfl ?_
          refine rm_calli (va_runV (As := [.int (jI 0), .int (jI 2)]) (rest := []) ⟨hx, hb, hml, hown, hts⟩ (c_X6_right l D ty ad ct_2 H.size 0 yc hc yn yM yu hy hg hf mA pt ro ke kt mu sl tw bw de ⟨hm0_2, ((hof_2 1001 (by omega) (by omega)).trans hMo.2.1), ((hof_2 1002 (by omega) (by omega)).trans hMo.2.2.1), ((hof_2 1003 (by omega) (by omega)).trans hMo.2.2.2.1), ((hof_2 1004 (by omega) (by omega)).trans hMo.2.2.2.2.1), hm1_2, ((hof_2 1006 (by omega) (by omega)).trans hMo.2.2.2.2.2.2.1), ((hof_2 1007 (by omega) (by omega)).trans hMo.2.2.2.2.2.2.2.1), ((hof_2 1008 (by omega) (by omega)).trans hMo.2.2.2.2.2.2.2.2.1), ((hof_2 1009 (by omega) (by omega)).trans hMo.2.2.2.2.2.2.2.2.2.1), ((hof_2 1010 (by omega) (by omega)).trans hMo.2.2.2.2.2.2.2.2.2.2.1), ((hof_2 1011 (by omega) (by omega)).trans hMo.2.2.2.2.2.2.2.2.2.2.2.1), ((hof_2 1012 (by omega) (by omega)).trans hMo.2.2.2.2.2.2.2.2.2.2.2.2.1), ((hof_2 1013 (by omega) (by omega)).trans hMo.2.2.2.2.2.2.2.2.2.2.2.2.2.1), ((hof_2 1014 (by omega) (by omega)).trans hMo.2.2.2.2.2.2.2.2.2.2.2.2.2.2.1), ((hof_2 1015 (by omega) (by omega)).trans hMo.2.2.2.2.2.2.2.2.2.2.2.2.2.2.2.1), ((hof_2 1016 (by omega) (by omega)).trans hMo.2.2.2.2.2.2.2.2.2.2.2.2.2.2.2.2)⟩ 0 2 r32_0 (by omega) (by omega)) (cwV 2 hts gX6_set_X6_right rfl rfl rfl (by decide +kernel) ⟨Nat.le_of_ble_eq_true rfl, Nat.le_of_ble_eq_true rfl⟩) (rm_preV hK hNw hW hm0_2 rfl) rfl rfl hl.1 rfl (lv_room (Nat.le_of_ble_eq_true rfl)) dX6_set_35 ⟨Nat.zero_le _, Nat.zero_le _⟩) hW hS hA (fun z_6 ct_6 H locs hq_6 hW hS => ?_)
          obtain ⟨t9, ht9, hz, hq1, hq2⟩ := hq_6
          rw [if_pos (by decide)] at ht9
          subst ht9
          rw [if_neg (by omega)] at hz
          subst hz
          have ho_6 : ∀ q, q ≠ 1000 → ct_6 q = ct_2 q := hq2
          have hof_6 : ∀ q, q ≠ 1000 → q ≠ 1005 → ct_6 q = ct q := fun q h0_6 h1_6 => (ho_6 q h0_6).trans (hof_2 q h0_6 h1_6)
          have hm0_6 : ct_6 1000 = some (.inr (6, [.int (jI 2), .int (jI ((yc : Nat) : Int)), .int (jI ((hc : Nat) : Int)), .ref (ad 1001), .ref (ad 1002), .ref (ad 1003), .ref (ad 1004), .ref (ad 1005), .ref (ad 1006), .ref (ad 1007), .ref (ad 1008), .ref (ad 1009), .ref (ad 1010), .ref (ad 1011), .ref (ad 1012), .ref (ad 1013), .ref (ad 1014), .ref (ad 1015), .ref (ad 1016)]) : va_E) := hq1
          have hm1_6 : ct_6 1005 = some (rl ty 160 (fl 8 hg)) := (ho_6 1005 (by omega)).trans hm1_2
          refine rm_if_ne (tgt := 43) hx hb ⟨by omega, by omega⟩ dX6_set_38 (by decide) (fun hq => absurd hq (by omega)) (fun _ => ?_)
          refine lv_iconst (v := jI 0) hx hb dX6_set_41 rfl ?_
          exact W.iret hx hb hr (fun t ht hw => ⟨⟨_, (0, ct_6), rfl, ⟨rfl, ⟨(fun q hq9 => hof_6 q (by omega) (by omega)), Or.inr ⟨h9, q9, rfl, rfl, hh9, by omega, by omega, Or.inl ⟨by omega, ⟨mA, pt, ro, ke, kt, mu, sl, tw, bw, de, ⟨hm0_6, ((hof_6 1001 (by omega) (by omega)).trans hMo.2.1), ((hof_6 1002 (by omega) (by omega)).trans hMo.2.2.1), ((hof_6 1003 (by omega) (by omega)).trans hMo.2.2.2.1), ((hof_6 1004 (by omega) (by omega)).trans hMo.2.2.2.2.1), hm1_6, ((hof_6 1006 (by omega) (by omega)).trans hMo.2.2.2.2.2.2.1), ((hof_6 1007 (by omega) (by omega)).trans hMo.2.2.2.2.2.2.2.1), ((hof_6 1008 (by omega) (by omega)).trans hMo.2.2.2.2.2.2.2.2.1), ((hof_6 1009 (by omega) (by omega)).trans hMo.2.2.2.2.2.2.2.2.2.1), ((hof_6 1010 (by omega) (by omega)).trans hMo.2.2.2.2.2.2.2.2.2.2.1), ((hof_6 1011 (by omega) (by omega)).trans hMo.2.2.2.2.2.2.2.2.2.2.2.1), ((hof_6 1012 (by omega) (by omega)).trans hMo.2.2.2.2.2.2.2.2.2.2.2.2.1), ((hof_6 1013 (by omega) (by omega)).trans hMo.2.2.2.2.2.2.2.2.2.2.2.2.2.1), ((hof_6 1014 (by omega) (by omega)).trans hMo.2.2.2.2.2.2.2.2.2.2.2.2.2.2.1), ((hof_6 1015 (by omega) (by omega)).trans hMo.2.2.2.2.2.2.2.2.2.2.2.2.2.2.2.1), ((hof_6 1016 (by omega) (by omega)).trans hMo.2.2.2.2.2.2.2.2.2.2.2.2.2.2.2.2)⟩⟩⟩⟩⟩⟩, by show rm_W D ad _ _ t.heap; rw [ht]; exact hW⟩, hS.F ht⟩) hS.2.2 dX6_set_42
        · skip
          refine lv_iconst (v := jI 1) hx hb dX6_set_29 rfl ?_
          refine lv_goto (tgt := 34) hx hb dX6_set_30 (by decide) ?_
          refine lv_iconst (v := jI 2) hx hb dX6_set_34 rfl ?_
          refine rm_calli (va_runV (As := [.int (jI 1), .int (jI 2)]) (rest := []) ⟨hx, hb, hml, hown, hts⟩ (c_X6_right l D ty ad ct_2 H.size 0 yc hc yn yM yu hy hg hf mA pt ro ke kt mu sl tw bw de ⟨hm0_2, ((hof_2 1001 (by omega) (by omega)).trans hMo.2.1), ((hof_2 1002 (by omega) (by omega)).trans hMo.2.2.1), ((hof_2 1003 (by omega) (by omega)).trans hMo.2.2.2.1), ((hof_2 1004 (by omega) (by omega)).trans hMo.2.2.2.2.1), hm1_2, ((hof_2 1006 (by omega) (by omega)).trans hMo.2.2.2.2.2.2.1), ((hof_2 1007 (by omega) (by omega)).trans hMo.2.2.2.2.2.2.2.1), ((hof_2 1008 (by omega) (by omega)).trans hMo.2.2.2.2.2.2.2.2.1), ((hof_2 1009 (by omega) (by omega)).trans hMo.2.2.2.2.2.2.2.2.2.1), ((hof_2 1010 (by omega) (by omega)).trans hMo.2.2.2.2.2.2.2.2.2.2.1), ((hof_2 1011 (by omega) (by omega)).trans hMo.2.2.2.2.2.2.2.2.2.2.2.1), ((hof_2 1012 (by omega) (by omega)).trans hMo.2.2.2.2.2.2.2.2.2.2.2.2.1), ((hof_2 1013 (by omega) (by omega)).trans hMo.2.2.2.2.2.2.2.2.2.2.2.2.2.1), ((hof_2 1014 (by omega) (by omega)).trans hMo.2.2.2.2.2.2.2.2.2.2.2.2.2.2.1), ((hof_2 1015 (by omega) (by omega)).trans hMo.2.2.2.2.2.2.2.2.2.2.2.2.2.2.2.1), ((hof_2 1016 (by omega) (by omega)).trans hMo.2.2.2.2.2.2.2.2.2.2.2.2.2.2.2.2)⟩ 1 2 r32_0 (by omega) (by omega)) (cwV 2 hts gX6_set_X6_right rfl rfl rfl (by decide +kernel) ⟨Nat.le_of_ble_eq_true rfl, Nat.le_of_ble_eq_true rfl⟩) (rm_preV hK hNw hW hm0_2 rfl) rfl rfl hl.1 rfl (lv_room (Nat.le_of_ble_eq_true rfl)) dX6_set_35 ⟨Nat.zero_le _, Nat.zero_le _⟩) hW hS hA (fun z_7 ct_7 H locs hq_7 hW hS => ?_)
          obtain ⟨t9, ht9, hz, hq1, hq2⟩ := hq_7
          rw [if_neg (by omega)] at ht9
          subst ht9
          rw [if_pos rfl] at hz
          subst hz
          have ho_7 : ∀ q, q ≠ 1000 → ct_7 q = ct_2 q := hq2
          have hof_7 : ∀ q, q ≠ 1000 → q ≠ 1005 → ct_7 q = ct q := fun q h0_7 h1_7 => (ho_7 q h0_7).trans (hof_2 q h0_7 h1_7)
          have hm0_7 : ct_7 1000 = some (.inr (6, [.int (jI 0), .int (jI ((yc : Nat) : Int)), .int (jI ((hc : Nat) : Int)), .ref (ad 1001), .ref (ad 1002), .ref (ad 1003), .ref (ad 1004), .ref (ad 1005), .ref (ad 1006), .ref (ad 1007), .ref (ad 1008), .ref (ad 1009), .ref (ad 1010), .ref (ad 1011), .ref (ad 1012), .ref (ad 1013), .ref (ad 1014), .ref (ad 1015), .ref (ad 1016)]) : va_E) := hq1
          have hm1_7 : ct_7 1005 = some (rl ty 160 (fl 8 hg)) := (ho_7 1005 (by omega)).trans hm1_2
          refine rm_if_ne (tgt := 43) hx hb ⟨by omega, by omega⟩ dX6_set_38 (by decide) (fun _ => ?_) (fun hq => absurd hq (by omega))
          refine lv_aload_n hx hb dX6_set_43 rfl (lv_at hl 0 rfl) ?_
          refine rm_get (ci := 6) (v := .ref (ad 1005)) (C := RX6) (T := TX6) (N := 19) hx hb hts (by decide +kernel) hown hK hW hm0_7 rfl 7 (by decide) (hts (.fieldLink RX6 23 "GrainYardModel" "grains" "[J") (by decide +kernel)) (fun _ h9 => h9) rfl dX6_set_44 ?_
          refine lv_bipush (v := jI 8) hx hb dX6_set_47 (by decide) ?_
          refine lv_iload_n hx hb dX6_set_49 rfl (lv_at hl 1 rfl) ?_
          refine rm_imul hx hb dX6_set_50 ?_
          refine lv_iload_n hx hb dX6_set_51 rfl (lv_at hl 2 rfl) ?_
          refine rm_iadd hx hb dX6_set_52 ?_
          refine rm_lald hx hb hK hW (f := (fl 8 hg)) hm1_7 (8 * h9 + q9) (by first | rfl | (push_cast; omega)) (by omega) (by omega) dX6_set_53 ?_
          rw [fl_at (by omega)]
          refine rm_l2i hx hb dX6_set_54 ?_
          refine lv_istore (lv' := [(4, .int (jI (hg h9 q9))), (0, .ref (ad 1000)), (1, .int (jI ((h9 : Nat) : Int))), (2, .int (jI ((q9 : Nat) : Int))), (3, .int (jI n9))]) hx hb dX6_set_55 hl (by decide) rfl (fun ls hl => ?_)
          refine lv_aload_n hx hb dX6_set_57 rfl (lv_at hl 1 rfl) ?_
          refine rm_get (ci := 6) (v := .ref (ad 1005)) (C := RX6) (T := TX6) (N := 19) hx hb hts (by decide +kernel) hown hK hW hm0_7 rfl 7 (by decide) (hts (.fieldLink RX6 23 "GrainYardModel" "grains" "[J") (by decide +kernel)) (fun _ h9 => h9) rfl dX6_set_58 ?_
          refine lv_bipush (v := jI 8) hx hb dX6_set_61 (by decide) ?_
          refine lv_iload_n hx hb dX6_set_63 rfl (lv_at hl 2 rfl) ?_
          refine rm_imul hx hb dX6_set_64 ?_
          refine lv_iload_n hx hb dX6_set_65 rfl (lv_at hl 3 rfl) ?_
          refine rm_iadd hx hb dX6_set_66 ?_
          refine lv_iload_n hx hb dX6_set_67 rfl (lv_at hl 4 rfl) ?_
          refine rm_i2l hx hb dX6_set_68 ⟨by omega, by omega⟩ ?_
          refine rm_last hx hb hK hW hS (f := (fl 8 hg)) hm1_7 (8 * h9 + q9) (by first | rfl | (push_cast; omega)) (by omega) (by omega) dX6_set_69 (fun H locs ct_8 hs_8 ho_8 hW hS hz_8 => ?_)
          have hof_8 : ∀ q, q ≠ 1000 → q ≠ 1005 → ct_8 q = ct q := fun q h0_8 h1_8 => (ho_8 q h1_8).trans (hof_7 q h0_8 h1_8)
          have hm0_8 : ct_8 1000 = some (.inr (6, [.int (jI 0), .int (jI ((yc : Nat) : Int)), .int (jI ((hc : Nat) : Int)), .ref (ad 1001), .ref (ad 1002), .ref (ad 1003), .ref (ad 1004), .ref (ad 1005), .ref (ad 1006), .ref (ad 1007), .ref (ad 1008), .ref (ad 1009), .ref (ad 1010), .ref (ad 1011), .ref (ad 1012), .ref (ad 1013), .ref (ad 1014), .ref (ad 1015), .ref (ad 1016)]) : va_E) := (ho_8 1000 (by omega)).trans hm0_7
          have hk_9 : ct_8 1005 = some (rl ty 160 (fl 8 (ub hg h9 (ub (hg h9) q9 n9)))) := hs_8.trans (congrArg (fun f => some (rl ty 160 f)) (fl_ub (by omega) _ _))
          refine lv_iload hx hb dX6_set_70 (lv_at hl 0 rfl) ?_
          exact W.iret hx hb hr (fun t ht hw => ⟨⟨_, ((hg h9 q9), ct_8), rfl, ⟨rfl, ⟨(fun q hq9 => hof_8 q (by omega) (by omega)), Or.inr ⟨h9, q9, rfl, rfl, hh9, by omega, by omega, Or.inr ⟨by omega, by omega, rfl, ⟨mA, pt, ro, ke, kt, mu, sl, tw, bw, de, ⟨hm0_8, ((hof_8 1001 (by omega) (by omega)).trans hMo.2.1), ((hof_8 1002 (by omega) (by omega)).trans hMo.2.2.1), ((hof_8 1003 (by omega) (by omega)).trans hMo.2.2.2.1), ((hof_8 1004 (by omega) (by omega)).trans hMo.2.2.2.2.1), hk_9, ((hof_8 1006 (by omega) (by omega)).trans hMo.2.2.2.2.2.2.1), ((hof_8 1007 (by omega) (by omega)).trans hMo.2.2.2.2.2.2.2.1), ((hof_8 1008 (by omega) (by omega)).trans hMo.2.2.2.2.2.2.2.2.1), ((hof_8 1009 (by omega) (by omega)).trans hMo.2.2.2.2.2.2.2.2.2.1), ((hof_8 1010 (by omega) (by omega)).trans hMo.2.2.2.2.2.2.2.2.2.2.1), ((hof_8 1011 (by omega) (by omega)).trans hMo.2.2.2.2.2.2.2.2.2.2.2.1), ((hof_8 1012 (by omega) (by omega)).trans hMo.2.2.2.2.2.2.2.2.2.2.2.2.1), ((hof_8 1013 (by omega) (by omega)).trans hMo.2.2.2.2.2.2.2.2.2.2.2.2.2.1), ((hof_8 1014 (by omega) (by omega)).trans hMo.2.2.2.2.2.2.2.2.2.2.2.2.2.2.1), ((hof_8 1015 (by omega) (by omega)).trans hMo.2.2.2.2.2.2.2.2.2.2.2.2.2.2.2.1), ((hof_8 1016 (by omega) (by omega)).trans hMo.2.2.2.2.2.2.2.2.2.2.2.2.2.2.2.2)⟩⟩⟩⟩⟩⟩, by show rm_W D ad _ _ t.heap; rw [ht]; exact hW⟩, hS.F ht⟩) hS.2.2 dX6_set_72
set_option maxHeartbeats 4000000 in
set_option maxRecDepth 100000 in
theorem c_X6_may (l : Launch) (D : va_G) (ty : Nat → ClassId) (ad : Nat → Nat) (ct : rm_C) (sz : Nat) (th : Int) (yc hc : Nat) (yn : Nat → Nat) (yM : Nat → Nat → Nat → Int) (yu : Nat → Int) (hy : Nat → Nat) (hg hf mA : Nat → Nat → Int) (pt ro ke kt mu sl tw bw de : Nat → Int) (hMo : ModAt ty ad ct th yc hc yn yM yu hy hg hf mA pt ro ke kt mu sl tw bw de) (h9 : Nat) (hh9 : h9 < 20) (hyh : hy h9 < 6) (hn9 : 2 ≤ yn (hy h9) ∧ yn (hy h9) ≤ 8) (hM9 : ∀ i j, 0 ≤ yM (hy h9) i j ∧ yM (hy h9) i j ≤ 3) (p9 : Nat) (hp9 : p9 < 8) (hg64 : r64 (hg h9 p9)) : Met l yX6_may wsX6_may ({ frames := 2, cells := 0, slots := 0, locals := 47 }) (rm_P D ty ad ct sz [.ref (ad 1000), .int (jI ((h9 : Nat) : Int)), .int (jI ((p9 : Nat) : Int))]) (rm_Qi D ad ct sz (fun z ct1 => z = (if dg (yn (hy h9)) (yM (hy h9)) p9 ≤ hg h9 p9 then 1 else 0) ∧ ct1 = ct)) 0 0 (rm_A ad ct sz) := by
  refine Met.ofW (cc := cX6_may) (maxL := 3) (ret := (some .boolean)) (by decide) rfl ?_
  intro p e s m args below meth c s₁ B hml hv
  obtain ⟨hargs, hsz, hW, hK, hNw⟩ := hv
  have hx := B.exec
  have hb := B.bytes
  have hr := B.returns
  have hts := atoms_spec (ws := wsX6_may) B.pre
  have hown : s.vm.findClass RX6 = some m.cls := findClass_of_methodNamed B.named
  have hlocks := B.notSynchronized
  subst hsz
  have hW := hW.own (sz := s.heap.size)
  have hA : ∀ q : Nat, s.heap.size ≤ q → rm_A ad ct s.heap.size q := fun q h => Or.inr h
  have hS : va_S (rm_A ad ct s.heap.size) s.heap s.heap [] := va_S.rf
  have hent : entryFrame m args 3 = entryFrame m ([.ref (ad 1000), .int (jI ((h9 : Nat) : Int)), .int (jI ((p9 : Nat) : Int))] : List Value).toArray 3 := by rw [hargs]
  have hl := lv_entry ([.ref (ad 1000), .int (jI ((h9 : Nat) : Int)), .int (jI ((p9 : Nat) : Int))]) (n := 3) (Nat.le_of_ble_eq_true rfl)
  rw [hent, lg_entry_eq]
  generalize (lg_sl ([.ref (ad 1000), .int (jI ((h9 : Nat) : Int)), .int (jI ((p9 : Nat) : Int))]) ++ List.replicate (3 - (lg_sl ([.ref (ad 1000), .int (jI ((h9 : Nat) : Int)), .int (jI ((p9 : Nat) : Int))])).length) Slot.unset).toArray = ls at hl ⊢
  have hl : lv_has ls 3 [(0, .ref (ad 1000)), (1, .int (jI ((h9 : Nat) : Int))), (2, .int (jI ((p9 : Nat) : Int)))] := hl
  have hdr : 0 ≤ dg (yn (hy h9)) (yM (hy h9)) p9 ∧ dg (yn (hy h9)) (yM (hy h9)) p9 ≤ 24 := dg_rng8 hM9 hn9.2 p9
  refine lv_aload_n hx hb dX6_may_0 rfl (lv_at hl 0 rfl) ?_
  refine rm_get (ci := 6) (v := .ref (ad 1005)) (C := RX6) (T := TX6) (N := 19) hx hb hts (by decide +kernel) hown hK hW hMo.1 rfl 7 (by decide) (hts (.fieldLink RX6 23 "GrainYardModel" "grains" "[J") (by decide +kernel)) (fun _ h9 => h9) rfl dX6_may_1 ?_
  refine lv_bipush (v := jI 8) hx hb dX6_may_4 (by decide) ?_
  refine lv_iload_n hx hb dX6_may_6 rfl (lv_at hl 1 rfl) ?_
  refine rm_imul hx hb dX6_may_7 ?_
  refine lv_iload_n hx hb dX6_may_8 rfl (lv_at hl 2 rfl) ?_
  refine rm_iadd hx hb dX6_may_9 ?_
  refine rm_lald hx hb hK hW (f := (fl 8 hg)) hMo.2.2.2.2.2.1 (8 * h9 + p9) (by first | rfl | (push_cast; omega)) (by omega) (by omega) dX6_may_10 ?_
  rw [fl_at (by omega)]
  refine lv_aload_n hx hb dX6_may_11 rfl (lv_at hl 0 rfl) ?_
  refine lv_aload_n hx hb dX6_may_12 rfl (lv_at hl 0 rfl) ?_
  refine rm_get (ci := 6) (v := .ref (ad 1003)) (C := RX6) (T := TX6) (N := 19) hx hb hts (by decide +kernel) hown hK hW hMo.1 rfl 5 (by decide) (hts (.fieldLink RX6 16 "GrainYardModel" "yardOf" "[I") (by decide +kernel)) (fun _ h9 => h9) rfl dX6_may_13 ?_
  refine lv_iload_n hx hb dX6_may_16 rfl (lv_at hl 1 rfl) ?_
  refine rm_iald hx hb hK hW (f := (fun y => ((hy y : Nat) : Int))) hMo.2.2.2.1 h9 rfl (by omega) (by omega) dX6_may_17 ?_
  refine lv_iload_n hx hb dX6_may_18 rfl (lv_at hl 2 rfl) ?_
  refine rm_calli (va_runV (As := [.int (jI ((hy h9 : Nat) : Int)), .int (jI ((p9 : Nat) : Int))]) (rest := [.long (jL (hg h9 p9))]) ⟨hx, hb, hml, hown, hts⟩ (c_X6_degreeOf l D ty ad ct s.heap.size th yc hc yn yM yu hy hg hf mA pt ro ke kt mu sl tw bw de hMo (hy h9) hyh hn9 hM9 p9 hp9) (cwV 2 hts gX6_may_X6_degreeOf rfl rfl rfl (by decide +kernel) ⟨Nat.le_of_ble_eq_true rfl, Nat.le_of_ble_eq_true rfl⟩) (rm_preV hK hNw hW hMo.1 rfl) rfl rfl hl.1 rfl (lv_room (Nat.le_of_ble_eq_true rfl)) dX6_may_19 ⟨Nat.zero_le _, Nat.zero_le _⟩) hW hS hA (fun z_1 ct_1 H locs hq_1 hW hS => ?_)
  obtain ⟨hz, hcc_1⟩ := hq_1
  have hcc_1 := hcc_1.symm
  subst hcc_1
  subst hz
  refine rm_i2l hx hb dX6_may_22 ⟨by omega, by omega⟩ ?_
  refine rm_lcmp hx hb hg64 ⟨by omega, by omega⟩ dX6_may_23 ?_
  refine rm_if_lt (tgt := 31) hx hb (lcv_rng _ _) dX6_may_24 (by decide) (fun hc_2 => ?_) (fun hc_2 => ?_)
  · skip
    have hc_2 := lcv_lt.mp hc_2
    refine lv_iconst (v := jI 0) hx hb dX6_may_31 rfl ?_
    exact W.zret hx hb hr (by decide) (fun t ht hw => ⟨⟨_, (0, ct), rfl, ⟨rfl, ⟨(if_neg (by omega)).symm, rfl⟩⟩, by show rm_W D ad _ _ t.heap; rw [ht]; exact hW⟩, hS.F ht⟩) hS.2.2 dX6_may_32
  · skip
    have hc_2 := lcv_ge.mp hc_2
    refine lv_iconst (v := jI 1) hx hb dX6_may_27 rfl ?_
    refine lv_goto (tgt := 32) hx hb dX6_may_28 (by decide) ?_
    exact W.zret hx hb hr (by decide) (fun t ht hw => ⟨⟨_, (1, ct), rfl, ⟨rfl, ⟨(if_pos (by omega)).symm, rfl⟩⟩, by show rm_W D ad _ _ t.heap; rw [ht]; exact hW⟩, hS.F ht⟩) hS.2.2 dX6_may_32
set_option maxHeartbeats 4000000 in
set_option maxRecDepth 100000 in
theorem c_X6_sets (l : Launch) (D : va_G) (ty : Nat → ClassId) (ad : Nat → Nat) (ct : rm_C) (sz : Nat) (th : Int) (yc hc : Nat) (yn : Nat → Nat) (yM : Nat → Nat → Nat → Int) (yu : Nat → Int) (hy : Nat → Nat) (hg hf mA : Nat → Nat → Int) (pt ro ke kt mu sl tw bw de : Nat → Int) (hMo : ModAt ty ad ct th yc hc yn yM yu hy hg hf mA pt ro ke kt mu sl tw bw de) (h9 p9 : Nat) (v9 : Int) (hh9 : h9 < 20) (hp9 : p9 < 8) : Met l yX6_sets wsX6_sets ({ frames := 0, cells := 0, slots := 0, locals := 0 }) (rm_P D ty ad ct sz [.ref (ad 1000), .int (jI ((h9 : Nat) : Int)), .int (jI ((p9 : Nat) : Int)), .long (jL v9)]) (rm_Qv D ad ct sz 0 (fun ct1 => ct1 1005 = some (rl ty 160 (fl 8 (ub hg h9 (ub (hg h9) p9 v9)))) ∧ (∀ q, q ≠ 1005 → ct1 q = ct q))) 0 0 (rm_A ad ct sz) := by
  refine Met.ofW (cc := cX6_sets) (maxL := 5) (ret := none) (by decide) rfl ?_
  intro p e s m args below meth c s₁ B hml hv
  obtain ⟨hargs, hsz, hW, hK, hNw⟩ := hv
  have hx := B.exec
  have hb := B.bytes
  have hr := B.returns
  have hts := atoms_spec (ws := wsX6_sets) B.pre
  have hown : s.vm.findClass RX6 = some m.cls := findClass_of_methodNamed B.named
  have hlocks := B.notSynchronized
  subst hsz
  have hW := hW.own (sz := s.heap.size)
  have hA : ∀ q : Nat, s.heap.size ≤ q → rm_A ad ct s.heap.size q := fun q h => Or.inr h
  have hS : va_S (rm_A ad ct s.heap.size) s.heap s.heap [] := va_S.rf
  have hent : entryFrame m args 5 = entryFrame m ([.ref (ad 1000), .int (jI ((h9 : Nat) : Int)), .int (jI ((p9 : Nat) : Int)), .long (jL v9)] : List Value).toArray 5 := by rw [hargs]
  have hl := lv_entry ([.ref (ad 1000), .int (jI ((h9 : Nat) : Int)), .int (jI ((p9 : Nat) : Int)), .long (jL v9)]) (n := 5) (Nat.le_of_ble_eq_true rfl)
  rw [hent, lg_entry_eq]
  generalize (lg_sl ([.ref (ad 1000), .int (jI ((h9 : Nat) : Int)), .int (jI ((p9 : Nat) : Int)), .long (jL v9)]) ++ List.replicate (5 - (lg_sl ([.ref (ad 1000), .int (jI ((h9 : Nat) : Int)), .int (jI ((p9 : Nat) : Int)), .long (jL v9)])).length) Slot.unset).toArray = ls at hl ⊢
  have hl : lv_has ls 5 [(0, .ref (ad 1000)), (1, .int (jI ((h9 : Nat) : Int))), (2, .int (jI ((p9 : Nat) : Int))), (3, .long (jL v9))] := hl
  refine lv_aload_n hx hb dX6_sets_0 rfl (lv_at hl 0 rfl) ?_
  refine rm_get (ci := 6) (v := .ref (ad 1005)) (C := RX6) (T := TX6) (N := 19) hx hb hts (by decide +kernel) hown hK hW hMo.1 rfl 7 (by decide) (hts (.fieldLink RX6 23 "GrainYardModel" "grains" "[J") (by decide +kernel)) (fun _ h9 => h9) rfl dX6_sets_1 ?_
  refine lv_bipush (v := jI 8) hx hb dX6_sets_4 (by decide) ?_
  refine lv_iload_n hx hb dX6_sets_6 rfl (lv_at hl 1 rfl) ?_
  refine rm_imul hx hb dX6_sets_7 ?_
  refine lv_iload_n hx hb dX6_sets_8 rfl (lv_at hl 2 rfl) ?_
  refine rm_iadd hx hb dX6_sets_9 ?_
  refine lv_lload_n hx hb dX6_sets_10 rfl (lv_at hl 3 rfl) ?_
  refine rm_last hx hb hK hW hS (f := (fl 8 hg)) hMo.2.2.2.2.2.1 (8 * h9 + p9) (by first | rfl | (push_cast; omega)) (by omega) (by omega) dX6_sets_11 (fun H locs ct_1 hs_1 ho_1 hW hS hz_1 => ?_)
  have hof_1 : ∀ q, q ≠ 1005 → ct_1 q = ct q := fun q h0_1 => (ho_1 q h0_1).trans rfl
  have hk_2 : ct_1 1005 = some (rl ty 160 (fl 8 (ub hg h9 (ub (hg h9) p9 v9)))) := hs_1.trans (congrArg (fun f => some (rl ty 160 f)) (fl_ub (by omega) _ _))
  exact W.vret hx hb hr (fun t ht hw => ⟨⟨ct_1, rfl, ⟨hk_2, fun q h0 => hof_1 q h0⟩, by show rm_W D ad _ _ t.heap; rw [ht]; exact hW, Or.inl rfl⟩, hS.F ht⟩) hS.2.2 dX6_sets_12
set_option maxHeartbeats 4000000 in
set_option maxRecDepth 100000 in
theorem c_X6_topples (l : Launch) (D : va_G) (ty : Nat → ClassId) (ad : Nat → Nat) (ct : rm_C) (sz : Nat) (th : Int) (yc hc : Nat) (yn : Nat → Nat) (yM : Nat → Nat → Nat → Int) (yu : Nat → Int) (hy : Nat → Nat) (hg hf mA : Nat → Nat → Int) (pt ro ke kt mu sl tw bw de : Nat → Int) (hMo : ModAt ty ad ct th yc hc yn yM yu hy hg hf mA pt ro ke kt mu sl tw bw de) (h9 : Nat) (hh9 : h9 < 20) (hyh : hy h9 < 6) (hn9 : 2 ≤ yn (hy h9) ∧ yn (hy h9) ≤ 8) (hM9 : ∀ i j, 0 ≤ yM (hy h9) i j ∧ yM (hy h9) i j ≤ 3) (p9 : Nat) (t9 : Int) (hp9 : p9 < (yn (hy h9))) : Met l yX6_topples wsX6_topples ({ frames := 2, cells := 0, slots := 0, locals := 47 }) (rm_P D ty ad ct sz [.ref (ad 1000), .int (jI ((h9 : Nat) : Int)), .int (jI ((p9 : Nat) : Int)), .long (jL t9)]) (rm_Qv D ad ct sz 0 (fun ct1 => ct1 1005 = some (rl ty 160 (fl 8 (ub hg h9 (fel (yn (hy h9)) (yM (hy h9)) (dg (yn (hy h9)) (yM (hy h9))) (hg h9) p9 t9)))) ∧ (∀ q, q ≠ 1005 → ct1 q = ct q))) 0 0 (rm_A ad ct sz) := by
  refine Met.ofW (cc := cX6_topples) (maxL := 7) (ret := none) (by decide) rfl ?_
  intro p e s m args below meth c s₁ B hml hv
  obtain ⟨hargs, hsz, hW, hK, hNw⟩ := hv
  have hx := B.exec
  have hb := B.bytes
  have hr := B.returns
  have hts := atoms_spec (ws := wsX6_topples) B.pre
  have hown : s.vm.findClass RX6 = some m.cls := findClass_of_methodNamed B.named
  have hlocks := B.notSynchronized
  subst hsz
  have hW := hW.own (sz := s.heap.size)
  have hA : ∀ q : Nat, s.heap.size ≤ q → rm_A ad ct s.heap.size q := fun q h => Or.inr h
  have hS : va_S (rm_A ad ct s.heap.size) s.heap s.heap [] := va_S.rf
  have hent : entryFrame m args 7 = entryFrame m ([.ref (ad 1000), .int (jI ((h9 : Nat) : Int)), .int (jI ((p9 : Nat) : Int)), .long (jL t9)] : List Value).toArray 7 := by rw [hargs]
  have hl := lv_entry ([.ref (ad 1000), .int (jI ((h9 : Nat) : Int)), .int (jI ((p9 : Nat) : Int)), .long (jL t9)]) (n := 7) (Nat.le_of_ble_eq_true rfl)
  rw [hent, lg_entry_eq]
  generalize (lg_sl ([.ref (ad 1000), .int (jI ((h9 : Nat) : Int)), .int (jI ((p9 : Nat) : Int)), .long (jL t9)]) ++ List.replicate (7 - (lg_sl ([.ref (ad 1000), .int (jI ((h9 : Nat) : Int)), .int (jI ((p9 : Nat) : Int)), .long (jL t9)])).length) Slot.unset).toArray = ls at hl ⊢
  have hl : lv_has ls 7 [(0, .ref (ad 1000)), (1, .int (jI ((h9 : Nat) : Int))), (2, .int (jI ((p9 : Nat) : Int))), (3, .long (jL t9))] := hl
  have hdr : 0 ≤ dg (yn (hy h9)) (yM (hy h9)) p9 ∧ dg (yn (hy h9)) (yM (hy h9)) p9 ≤ 24 := dg_rng8 hM9 hn9.2 p9
  refine lv_aload_n hx hb dX6_topples_0 rfl (lv_at hl 0 rfl) ?_
  refine rm_get (ci := 6) (v := .ref (ad 1003)) (C := RX6) (T := TX6) (N := 19) hx hb hts (by decide +kernel) hown hK hW hMo.1 rfl 5 (by decide) (hts (.fieldLink RX6 16 "GrainYardModel" "yardOf" "[I") (by decide +kernel)) (fun _ h9 => h9) rfl dX6_topples_1 ?_
  refine lv_iload_n hx hb dX6_topples_4 rfl (lv_at hl 1 rfl) ?_
  refine rm_iald hx hb hK hW (f := (fun y => ((hy y : Nat) : Int))) hMo.2.2.2.1 h9 rfl (by omega) (by omega) dX6_topples_5 ?_
  refine lv_istore (lv' := [(5, .int (jI ((hy h9 : Nat) : Int))), (0, .ref (ad 1000)), (1, .int (jI ((h9 : Nat) : Int))), (2, .int (jI ((p9 : Nat) : Int))), (3, .long (jL t9))]) hx hb dX6_topples_6 hl (by decide) rfl (fun ls hl => ?_)
  refine lv_iconst (v := jI 0) hx hb dX6_topples_8 rfl ?_
  refine lv_istore (lv' := [(6, .int (jI 0)), (5, .int (jI ((hy h9 : Nat) : Int))), (0, .ref (ad 1000)), (1, .int (jI ((h9 : Nat) : Int))), (2, .int (jI ((p9 : Nat) : Int))), (3, .long (jL t9))]) hx hb dX6_topples_9 hl (by decide) rfl (fun ls hl => ?_)
  have h05 : ct 1005 = some (rl ty 160 (fl 8 (ub hg h9 (adp 0 (yM (hy h9)) (hg h9) p9 t9)))) := hMo.2.2.2.2.2.1.trans (congrArg (fun G => some (rl ty 160 (fl 8 G))) (by rw [adp_0, ub_self]))
  have LP : ∀ (k : Nat) (i8 : Nat) (hi8 : i8 ≤ (yn (hy h9))), (yn (hy h9)) - i8 < k → ∀ (ctv : rm_C) (H : Heap) (locs : List Loc), (ctv 1005 = some (rl ty 160 (fl 8 (ub hg h9 (adp i8 (yM (hy h9)) (hg h9) p9 t9))))) → ∀ (_ : True), (∀ q, q ≠ 1005 → ctv q = ct q) → ∀ (_ : True), rm_W D ad ctv (rm_A ad ct s.heap.size) H → va_S (rm_A ad ct s.heap.size) s.heap H locs → ∀ ls : Array Slot, lv_has ls 7 [(6, .int (jI ((i8 : Nat) : Int))), (5, .int (jI (((hy h9) : Nat) : Int))), (0, .ref (ad 1000)), (1, .int (jI ((h9 : Nat) : Int))), (2, .int (jI ((p9 : Nat) : Int))), (3, .long (jL t9))] → W p l e (headSpec wsX6_topples ({ frames := 2, cells := 0, slots := 0, locals := 47 })).room s m args below meth c H locs 0 0 (MQ below (rm_Qv D ad ct s.heap.size 0 (fun ct1 => ct1 1005 = some (rl ty 160 (fl 8 (ub hg h9 (fel (yn (hy h9)) (yM (hy h9)) (dg (yn (hy h9)) (yM (hy h9))) (hg h9) p9 t9)))) ∧ (∀ q, q ≠ 1005 → ct1 q = ct q))) args s 0 0 (rm_A ad ct s.heap.size)) (F0 m 11 ls []) := by
    intro k
    induction k with
    | zero => intro i8 hi8 hk; exact absurd hk (Nat.not_lt_zero _)
    | succ k ih_LP =>
      intro i8 hi8 hk ctv_1 H locs hv0_1 _ hofv_1 _ hW hS ls hl
      refine lv_iload hx hb dX6_topples_11 (lv_at hl 0 rfl) ?_
      refine lv_aload_n hx hb dX6_topples_13 rfl (lv_at hl 2 rfl) ?_
      refine lv_iload_n hx hb dX6_topples_14 rfl (lv_at hl 3 rfl) ?_
      refine rm_calli (va_runV (As := [.int (jI ((h9 : Nat) : Int))]) (rest := [.int (jI ((i8 : Nat) : Int))]) ⟨hx, hb, hml, hown, hts⟩ (c_X6_size l D ty ad ctv_1 H.size th yc hc yn yM yu hy (ub hg h9 (adp i8 (yM (hy h9)) (hg h9) p9 t9)) hf mA pt ro ke kt mu sl tw bw de ⟨((hofv_1 1000 (by omega)).trans hMo.1), ((hofv_1 1001 (by omega)).trans hMo.2.1), ((hofv_1 1002 (by omega)).trans hMo.2.2.1), ((hofv_1 1003 (by omega)).trans hMo.2.2.2.1), ((hofv_1 1004 (by omega)).trans hMo.2.2.2.2.1), hv0_1, ((hofv_1 1006 (by omega)).trans hMo.2.2.2.2.2.2.1), ((hofv_1 1007 (by omega)).trans hMo.2.2.2.2.2.2.2.1), ((hofv_1 1008 (by omega)).trans hMo.2.2.2.2.2.2.2.2.1), ((hofv_1 1009 (by omega)).trans hMo.2.2.2.2.2.2.2.2.2.1), ((hofv_1 1010 (by omega)).trans hMo.2.2.2.2.2.2.2.2.2.2.1), ((hofv_1 1011 (by omega)).trans hMo.2.2.2.2.2.2.2.2.2.2.2.1), ((hofv_1 1012 (by omega)).trans hMo.2.2.2.2.2.2.2.2.2.2.2.2.1), ((hofv_1 1013 (by omega)).trans hMo.2.2.2.2.2.2.2.2.2.2.2.2.2.1), ((hofv_1 1014 (by omega)).trans hMo.2.2.2.2.2.2.2.2.2.2.2.2.2.2.1), ((hofv_1 1015 (by omega)).trans hMo.2.2.2.2.2.2.2.2.2.2.2.2.2.2.2.1), ((hofv_1 1016 (by omega)).trans hMo.2.2.2.2.2.2.2.2.2.2.2.2.2.2.2.2)⟩ h9 hh9 hyh) (cwV 1 hts gX6_topples_X6_size rfl rfl rfl (by decide +kernel) ⟨Nat.le_of_ble_eq_true rfl, Nat.le_of_ble_eq_true rfl⟩) (rm_preV hK hNw hW ((hofv_1 1000 (by omega)).trans hMo.1) rfl) rfl rfl hl.1 rfl (lv_room (Nat.le_of_ble_eq_true rfl)) dX6_topples_15 ⟨Nat.zero_le _, Nat.zero_le _⟩) hW hS hA (fun z_2 ct_2 H locs hq_2 hW hS => ?_)
      obtain ⟨hz, hcc_2⟩ := hq_2
      have hcc_2 := hcc_2.symm
      subst hcc_2
      subst hz
      refine rm_icmp_ge (tgt := 54) hx hb ⟨by omega, by omega⟩ ⟨by omega, by omega⟩ dX6_topples_18 (by decide) (fun hc_3 => ?_) (fun hc_3 => ?_)
      · skip
        have hi : i8 = (yn (hy h9)) := by omega
        have hk_4 : ctv_1 1005 = some (rl ty 160 (fl 8 (ub hg h9 (adp (yn (hy h9)) (yM (hy h9)) (hg h9) p9 t9)))) := hv0_1.trans (congrArg (fun G => some (rl ty 160 (fl 8 G))) (by rw [hi]))
        refine lv_aload_n hx hb dX6_topples_54 rfl (lv_at hl 2 rfl) ?_
        refine rm_get (ci := 6) (v := .ref (ad 1005)) (C := RX6) (T := TX6) (N := 19) hx hb hts (by decide +kernel) hown hK hW ((hofv_1 1000 (by omega)).trans hMo.1) rfl 7 (by decide) (hts (.fieldLink RX6 23 "GrainYardModel" "grains" "[J") (by decide +kernel)) (fun _ h9 => h9) rfl dX6_topples_55 ?_
        refine lv_bipush (v := jI 8) hx hb dX6_topples_58 (by decide) ?_
        refine lv_iload_n hx hb dX6_topples_60 rfl (lv_at hl 3 rfl) ?_
        refine rm_imul hx hb dX6_topples_61 ?_
        refine lv_iload_n hx hb dX6_topples_62 rfl (lv_at hl 4 rfl) ?_
        refine rm_iadd hx hb dX6_topples_63 ?_
        refine lv_dup2_11 hx hb dX6_topples_64 rfl rfl ?_
        refine rm_lald hx hb hK hW (f := (fl 8 (ub hg h9 (adp (yn (hy h9)) (yM (hy h9)) (hg h9) p9 t9)))) hk_4 (8 * h9 + p9) (by first | rfl | (push_cast; omega)) (by omega) (by omega) dX6_topples_65 ?_
        rw [fl_at (by omega), ub_s]
        refine lv_lload_n hx hb dX6_topples_66 rfl (lv_at hl 5 rfl) ?_
        refine lv_aload_n hx hb dX6_topples_67 rfl (lv_at hl 2 rfl) ?_
        refine lv_iload hx hb dX6_topples_68 (lv_at hl 1 rfl) ?_
        refine lv_iload_n hx hb dX6_topples_70 rfl (lv_at hl 4 rfl) ?_
        refine rm_calli (va_runV (As := [.int (jI (((hy h9) : Nat) : Int)), .int (jI ((p9 : Nat) : Int))]) (rest := [.long (jL t9), .long (jL ((adp (yn (hy h9)) (yM (hy h9)) (hg h9) p9 t9) p9)), .int (jI ((8 * ((h9 : Nat) : Int)) + ((p9 : Nat) : Int))), .ref (ad 1005)]) ⟨hx, hb, hml, hown, hts⟩ (c_X6_degreeOf l D ty ad ctv_1 H.size th yc hc yn yM yu hy (ub hg h9 (adp (yn (hy h9)) (yM (hy h9)) (hg h9) p9 t9)) hf mA pt ro ke kt mu sl tw bw de ⟨((hofv_1 1000 (by omega)).trans hMo.1), ((hofv_1 1001 (by omega)).trans hMo.2.1), ((hofv_1 1002 (by omega)).trans hMo.2.2.1), ((hofv_1 1003 (by omega)).trans hMo.2.2.2.1), ((hofv_1 1004 (by omega)).trans hMo.2.2.2.2.1), hk_4, ((hofv_1 1006 (by omega)).trans hMo.2.2.2.2.2.2.1), ((hofv_1 1007 (by omega)).trans hMo.2.2.2.2.2.2.2.1), ((hofv_1 1008 (by omega)).trans hMo.2.2.2.2.2.2.2.2.1), ((hofv_1 1009 (by omega)).trans hMo.2.2.2.2.2.2.2.2.2.1), ((hofv_1 1010 (by omega)).trans hMo.2.2.2.2.2.2.2.2.2.2.1), ((hofv_1 1011 (by omega)).trans hMo.2.2.2.2.2.2.2.2.2.2.2.1), ((hofv_1 1012 (by omega)).trans hMo.2.2.2.2.2.2.2.2.2.2.2.2.1), ((hofv_1 1013 (by omega)).trans hMo.2.2.2.2.2.2.2.2.2.2.2.2.2.1), ((hofv_1 1014 (by omega)).trans hMo.2.2.2.2.2.2.2.2.2.2.2.2.2.2.1), ((hofv_1 1015 (by omega)).trans hMo.2.2.2.2.2.2.2.2.2.2.2.2.2.2.2.1), ((hofv_1 1016 (by omega)).trans hMo.2.2.2.2.2.2.2.2.2.2.2.2.2.2.2.2)⟩ (hy h9) hyh hn9 hM9 p9 (by omega)) (cwV 2 hts gX6_topples_X6_degreeOf rfl rfl rfl (by decide +kernel) ⟨Nat.le_of_ble_eq_true rfl, Nat.le_of_ble_eq_true rfl⟩) (rm_preV hK hNw hW ((hofv_1 1000 (by omega)).trans hMo.1) rfl) rfl rfl hl.1 rfl (lv_room (Nat.le_of_ble_eq_true rfl)) dX6_topples_71 ⟨Nat.zero_le _, Nat.zero_le _⟩) hW hS hA (fun z_5 ct_5 H locs hq_5 hW hS => ?_)
        obtain ⟨hz, hcc_5⟩ := hq_5
        have hcc_5 := hcc_5.symm
        subst hcc_5
        subst hz
        refine rm_i2l hx hb dX6_topples_74 ⟨by omega, by omega⟩ ?_
        refine rm_lmul hx hb dX6_topples_75 ?_
        refine rm_lsub hx hb dX6_topples_76 ?_
        refine rm_last hx hb hK hW hS (f := (fl 8 (ub hg h9 (adp (yn (hy h9)) (yM (hy h9)) (hg h9) p9 t9)))) hk_4 (8 * h9 + p9) (by first | rfl | (push_cast; omega)) (by omega) (by omega) dX6_topples_77 (fun H locs ct_6 hs_6 ho_6 hW hS hz_6 => ?_)
        have hof_6 : ∀ q, q ≠ 1005 → ct_6 q = ct q := fun q h0_6 => (ho_6 q h0_6).trans (hofv_1 q h0_6)
        have hk_7 : ct_6 1005 = some (rl ty 160 (fl 8 (ub hg h9 (ub (adp (yn (hy h9)) (yM (hy h9)) (hg h9) p9 t9) p9 (((adp (yn (hy h9)) (yM (hy h9)) (hg h9) p9 t9) p9) - (t9 * (dg (yn (hy h9)) (yM (hy h9)) p9))))))) := hs_6.trans (congrArg (fun f => some (rl ty 160 f)) (by rw [fl_ub (by omega) _ _, ub_s, ub_ub]))
        have hk_8 : ct_6 1005 = some (rl ty 160 (fl 8 (ub hg h9 (fel (yn (hy h9)) (yM (hy h9)) (dg (yn (hy h9)) (yM (hy h9))) (hg h9) p9 t9)))) := hk_7.trans (congrArg (fun G => some (rl ty 160 (fl 8 G))) (by rw [adp_fel]))
        exact W.vret hx hb hr (fun t ht hw => ⟨⟨ct_6, rfl, ⟨hk_8, fun q h0 => hof_6 q h0⟩, by show rm_W D ad _ _ t.heap; rw [ht]; exact hW, Or.inl rfl⟩, hS.F ht⟩) hS.2.2 dX6_topples_78
      · skip
        refine lv_aload_n hx hb dX6_topples_21 rfl (lv_at hl 2 rfl) ?_
        refine rm_get (ci := 6) (v := .ref (ad 1005)) (C := RX6) (T := TX6) (N := 19) hx hb hts (by decide +kernel) hown hK hW ((hofv_1 1000 (by omega)).trans hMo.1) rfl 7 (by decide) (hts (.fieldLink RX6 23 "GrainYardModel" "grains" "[J") (by decide +kernel)) (fun _ h9 => h9) rfl dX6_topples_22 ?_
        refine lv_bipush (v := jI 8) hx hb dX6_topples_25 (by decide) ?_
        refine lv_iload_n hx hb dX6_topples_27 rfl (lv_at hl 3 rfl) ?_
        refine rm_imul hx hb dX6_topples_28 ?_
        refine lv_iload hx hb dX6_topples_29 (lv_at hl 0 rfl) ?_
        refine rm_iadd hx hb dX6_topples_31 ?_
        refine lv_dup2_11 hx hb dX6_topples_32 rfl rfl ?_
        refine rm_lald hx hb hK hW (f := (fl 8 (ub hg h9 (adp i8 (yM (hy h9)) (hg h9) p9 t9)))) hv0_1 (8 * h9 + i8) (by first | rfl | (push_cast; omega)) (by omega) (by omega) dX6_topples_33 ?_
        rw [fl_at (by omega), ub_s]
        refine lv_lload_n hx hb dX6_topples_34 rfl (lv_at hl 5 rfl) ?_
        refine lv_aload_n hx hb dX6_topples_35 rfl (lv_at hl 2 rfl) ?_
        refine lv_iload hx hb dX6_topples_36 (lv_at hl 1 rfl) ?_
        refine lv_iload_n hx hb dX6_topples_38 rfl (lv_at hl 4 rfl) ?_
        refine lv_iload hx hb dX6_topples_39 (lv_at hl 0 rfl) ?_
        refine rm_calli (va_runV (As := [.int (jI (((hy h9) : Nat) : Int)), .int (jI ((p9 : Nat) : Int)), .int (jI ((i8 : Nat) : Int))]) (rest := [.long (jL t9), .long (jL ((adp i8 (yM (hy h9)) (hg h9) p9 t9) i8)), .int (jI ((8 * ((h9 : Nat) : Int)) + ((i8 : Nat) : Int))), .ref (ad 1005)]) ⟨hx, hb, hml, hown, hts⟩ (c_X6_between l D ty ad ctv_1 H.size th yc hc yn yM yu hy (ub hg h9 (adp i8 (yM (hy h9)) (hg h9) p9 t9)) hf mA pt ro ke kt mu sl tw bw de ⟨((hofv_1 1000 (by omega)).trans hMo.1), ((hofv_1 1001 (by omega)).trans hMo.2.1), ((hofv_1 1002 (by omega)).trans hMo.2.2.1), ((hofv_1 1003 (by omega)).trans hMo.2.2.2.1), ((hofv_1 1004 (by omega)).trans hMo.2.2.2.2.1), hv0_1, ((hofv_1 1006 (by omega)).trans hMo.2.2.2.2.2.2.1), ((hofv_1 1007 (by omega)).trans hMo.2.2.2.2.2.2.2.1), ((hofv_1 1008 (by omega)).trans hMo.2.2.2.2.2.2.2.2.1), ((hofv_1 1009 (by omega)).trans hMo.2.2.2.2.2.2.2.2.2.1), ((hofv_1 1010 (by omega)).trans hMo.2.2.2.2.2.2.2.2.2.2.1), ((hofv_1 1011 (by omega)).trans hMo.2.2.2.2.2.2.2.2.2.2.2.1), ((hofv_1 1012 (by omega)).trans hMo.2.2.2.2.2.2.2.2.2.2.2.2.1), ((hofv_1 1013 (by omega)).trans hMo.2.2.2.2.2.2.2.2.2.2.2.2.2.1), ((hofv_1 1014 (by omega)).trans hMo.2.2.2.2.2.2.2.2.2.2.2.2.2.2.1), ((hofv_1 1015 (by omega)).trans hMo.2.2.2.2.2.2.2.2.2.2.2.2.2.2.2.1), ((hofv_1 1016 (by omega)).trans hMo.2.2.2.2.2.2.2.2.2.2.2.2.2.2.2.2)⟩ (hy h9) p9 i8 hyh (by omega) (by omega)) (cwV 3 hts gX6_topples_X6_between rfl rfl rfl (by decide +kernel) ⟨Nat.le_of_ble_eq_true rfl, Nat.le_of_ble_eq_true rfl⟩) (rm_preV hK hNw hW ((hofv_1 1000 (by omega)).trans hMo.1) rfl) rfl rfl hl.1 rfl (lv_room (Nat.le_of_ble_eq_true rfl)) dX6_topples_41 ⟨Nat.zero_le _, Nat.zero_le _⟩) hW hS hA (fun z_9 ct_9 H locs hq_9 hW hS => ?_)
        obtain ⟨hz, hcc_9⟩ := hq_9
        have hcc_9 := hcc_9.symm
        subst hcc_9
        subst hz
        have hMp := hM9 p9 i8
        refine rm_i2l hx hb dX6_topples_44 ⟨by omega, by omega⟩ ?_
        refine rm_lmul hx hb dX6_topples_45 ?_
        refine rm_ladd hx hb dX6_topples_46 ?_
        refine rm_last hx hb hK hW hS (f := (fl 8 (ub hg h9 (adp i8 (yM (hy h9)) (hg h9) p9 t9)))) hv0_1 (8 * h9 + i8) (by first | rfl | (push_cast; omega)) (by omega) (by omega) dX6_topples_47 (fun H locs ct_10 hs_10 ho_10 hW hS hz_10 => ?_)
        have hof_10 : ∀ q, q ≠ 1005 → ct_10 q = ct q := fun q h0_10 => (ho_10 q h0_10).trans (hofv_1 q h0_10)
        have hk_11 : ct_10 1005 = some (rl ty 160 (fl 8 (ub hg h9 (ub (adp i8 (yM (hy h9)) (hg h9) p9 t9) i8 (((adp i8 (yM (hy h9)) (hg h9) p9 t9) i8) + (t9 * ((yM (hy h9)) p9 i8))))))) := hs_10.trans (congrArg (fun f => some (rl ty 160 f)) (by rw [fl_ub (by omega) _ _, ub_s, ub_ub]))
        have hk_12 : ct_10 1005 = some (rl ty 160 (fl 8 (ub hg h9 (adp (i8 + 1) (yM (hy h9)) (hg h9) p9 t9)))) := hk_11.trans (congrArg (fun G => some (rl ty 160 (fl 8 G))) (by rw [adp_s]))
        refine lv_iinc (v := jI (((i8 : Nat) : Int) + 1)) (lv' := [(6, .int (jI (((i8 : Nat) : Int) + 1))), (5, .int (jI (((hy h9) : Nat) : Int))), (0, .ref (ad 1000)), (1, .int (jI ((h9 : Nat) : Int))), (2, .int (jI ((p9 : Nat) : Int))), (3, .long (jL t9))]) hx hb dX6_topples_48 hl (k := 0) rfl (jI_add _ _) (by decide) rfl (fun ls hl => ?_)
        refine lv_goto (tgt := 11) hx hb dX6_topples_51 (by decide) ?_
        exact ih_LP (i8 + 1) (by omega) (by omega) ct_10 _ _ hk_12 trivial hof_10 trivial hW hS ls (lv_sub hl [0, 1, 2, 3, 4, 5] rfl)
  exact LP ((yn (hy h9)) + 1) (0) (by omega) (by omega) ct _ _ h05 trivial (fun _ _ => rfl) trivial hW hS ls (lv_sub hl [0, 1, 2, 3, 4, 5] rfl)
set_option maxHeartbeats 4000000 in
set_option maxRecDepth 100000 in
theorem c_X6_topple (l : Launch) (D : va_G) (ty : Nat → ClassId) (ad : Nat → Nat) (ct : rm_C) (sz : Nat) (th : Int) (yc hc : Nat) (yn : Nat → Nat) (yM : Nat → Nat → Nat → Int) (yu : Nat → Int) (hy : Nat → Nat) (hg hf mA : Nat → Nat → Int) (pt ro ke kt mu sl tw bw de : Nat → Int) (hMo : ModAt ty ad ct th yc hc yn yM yu hy hg hf mA pt ro ke kt mu sl tw bw de) (hb20 : yc ≤ 6 ∧ hc ≤ 20) (hyn : ∀ y, y < yc → 2 ≤ yn y ∧ yn y ≤ 8) (hyM : ∀ y, y < yc → ∀ i j, 0 ≤ yM y i j ∧ yM y i j ≤ 3) (hhy : ∀ h, h < hc → hy h < yc) (hgr : ∀ h, h < hc → ∀ q, 1 ≤ q → q < yn (hy h) → 0 ≤ hg h q ∧ hg h q ≤ 1000000000) (z9 p9 : Int) (hz9 : r32 z9) (hp9 : r32 p9) : Met l yX6_topple wsX6_topple ({ frames := 3, cells := 0, slots := 0, locals := 73 }) (rm_P D ty ad ct sz [.ref (ad 1000), .int (jI z9), .int (jI p9)]) (rm_Qi D ad ct sz (fun z ct1 => (∀ q, (q < 1000 ∨ 1016 < q) → ct1 q = ct q) ∧ ((((z9 < 0 ∨ ((hc : Nat) : Int) ≤ z9) ∨ ∃ h9 : Nat, z9 = (h9 : Int) ∧ h9 < hc ∧ (p9 < 1 ∨ (yn (hy h9) : Int) ≤ p9)) ∧ ModX ty ad ct1 1 yc hc yn yM yu hy hg hf) ∨ ∃ h9 q9 : Nat, z9 = (h9 : Int) ∧ p9 = (q9 : Int) ∧ h9 < hc ∧ 1 ≤ q9 ∧ q9 < yn (hy h9) ∧ ((hg h9 q9 < dg (yn (hy h9)) (yM (hy h9)) q9 ∧ z = 0 ∧ ModX ty ad ct1 0 yc hc yn yM yu hy hg hf) ∨ (dg (yn (hy h9)) (yM (hy h9)) q9 ≤ hg h9 q9 ∧ z = 1 ∧ ModX ty ad ct1 0 yc hc yn yM yu hy (us hg h9 (fel (yn (hy h9)) (yM (hy h9)) (dg (yn (hy h9)) (yM (hy h9))) (hg h9) q9 1)) hf))))) 0 0 (rm_A ad ct sz) := by
  refine Met.ofW (cc := cX6_topple) (maxL := 3) (ret := (some .boolean)) (by decide) rfl ?_
  intro p e s m args below meth c s₁ B hml hv
  obtain ⟨hargs, hsz, hW, hK, hNw⟩ := hv
  have hx := B.exec
  have hb := B.bytes
  have hr := B.returns
  have hts := atoms_spec (ws := wsX6_topple) B.pre
  have hown : s.vm.findClass RX6 = some m.cls := findClass_of_methodNamed B.named
  have hlocks := B.notSynchronized
  subst hsz
  have hW := hW.own (sz := s.heap.size)
  have hA : ∀ q : Nat, s.heap.size ≤ q → rm_A ad ct s.heap.size q := fun q h => Or.inr h
  have hS : va_S (rm_A ad ct s.heap.size) s.heap s.heap [] := va_S.rf
  have hent : entryFrame m args 3 = entryFrame m ([.ref (ad 1000), .int (jI z9), .int (jI p9)] : List Value).toArray 3 := by rw [hargs]
  have hl := lv_entry ([.ref (ad 1000), .int (jI z9), .int (jI p9)]) (n := 3) (Nat.le_of_ble_eq_true rfl)
  rw [hent, lg_entry_eq]
  generalize (lg_sl ([.ref (ad 1000), .int (jI z9), .int (jI p9)]) ++ List.replicate (3 - (lg_sl ([.ref (ad 1000), .int (jI z9), .int (jI p9)])).length) Slot.unset).toArray = ls at hl ⊢
  have hl : lv_has ls 3 [(0, .ref (ad 1000)), (1, .int (jI z9)), (2, .int (jI p9))] := hl
  refine lv_aload_n hx hb dX6_topple_0 rfl (lv_at hl 0 rfl) ?_
  refine lv_iload_n hx hb dX6_topple_1 rfl (lv_at hl 1 rfl) ?_
  refine rm_calli (va_runV (As := [.int (jI z9)]) (rest := []) ⟨hx, hb, hml, hown, hts⟩ (c_X6_isHeap l D ty ad ct s.heap.size th yc hc yn yM yu hy hg hf mA pt ro ke kt mu sl tw bw de hMo z9 hz9 hb20) (cwV 1 hts gX6_topple_X6_isHeap rfl rfl rfl (by decide +kernel) ⟨Nat.le_of_ble_eq_true rfl, Nat.le_of_ble_eq_true rfl⟩) (rm_preV hK hNw hW hMo.1 rfl) rfl rfl hl.1 rfl (lv_room (Nat.le_of_ble_eq_true rfl)) dX6_topple_2 ⟨Nat.zero_le _, Nat.zero_le _⟩) hW hS hA (fun z_1 ct_1 H locs hq_1 hW hS => ?_)
  obtain ⟨hqo, hqc⟩ := hq_1
  rcases hqc with ⟨hbad, hz, hqs⟩ | ⟨hp1, hp2, hz, hqs⟩
  · skip
    subst hz
    have ho_1 : ∀ q, q ≠ 1000 → ct_1 q = ct q := hqo
    have hof_1 : ∀ q, q ≠ 1000 → q ≠ 1005 → ct_1 q = ct q := fun q h0_1 h1_1 => (ho_1 q h0_1).trans rfl
    have hm0_1 : ct_1 1000 = some (.inr (6, [.int (jI 1), .int (jI ((yc : Nat) : Int)), .int (jI ((hc : Nat) : Int)), .ref (ad 1001), .ref (ad 1002), .ref (ad 1003), .ref (ad 1004), .ref (ad 1005), .ref (ad 1006), .ref (ad 1007), .ref (ad 1008), .ref (ad 1009), .ref (ad 1010), .ref (ad 1011), .ref (ad 1012), .ref (ad 1013), .ref (ad 1014), .ref (ad 1015), .ref (ad 1016)]) : va_E) := hqs
    have hm1_1 : ct_1 1005 = some (rl ty 160 (fl 8 hg)) := (ho_1 1005 (by omega)).trans hMo.2.2.2.2.2.1
    refine rm_if_eq (tgt := 27) hx hb ⟨by omega, by omega⟩ dX6_topple_5 (by decide) (fun _ => ?_) (fun hq => absurd hq (by omega))
    refine lv_iconst (v := jI 0) hx hb dX6_topple_27 rfl ?_
    exact W.zret hx hb hr (by decide) (fun t ht hw => ⟨⟨_, (0, ct_1), rfl, ⟨rfl, ⟨(fun q hq9 => hof_1 q (by omega) (by omega)), Or.inl ⟨Or.inl hbad, ⟨mA, pt, ro, ke, kt, mu, sl, tw, bw, de, ⟨hm0_1, ((hof_1 1001 (by omega) (by omega)).trans hMo.2.1), ((hof_1 1002 (by omega) (by omega)).trans hMo.2.2.1), ((hof_1 1003 (by omega) (by omega)).trans hMo.2.2.2.1), ((hof_1 1004 (by omega) (by omega)).trans hMo.2.2.2.2.1), hm1_1, ((hof_1 1006 (by omega) (by omega)).trans hMo.2.2.2.2.2.2.1), ((hof_1 1007 (by omega) (by omega)).trans hMo.2.2.2.2.2.2.2.1), ((hof_1 1008 (by omega) (by omega)).trans hMo.2.2.2.2.2.2.2.2.1), ((hof_1 1009 (by omega) (by omega)).trans hMo.2.2.2.2.2.2.2.2.2.1), ((hof_1 1010 (by omega) (by omega)).trans hMo.2.2.2.2.2.2.2.2.2.2.1), ((hof_1 1011 (by omega) (by omega)).trans hMo.2.2.2.2.2.2.2.2.2.2.2.1), ((hof_1 1012 (by omega) (by omega)).trans hMo.2.2.2.2.2.2.2.2.2.2.2.2.1), ((hof_1 1013 (by omega) (by omega)).trans hMo.2.2.2.2.2.2.2.2.2.2.2.2.2.1), ((hof_1 1014 (by omega) (by omega)).trans hMo.2.2.2.2.2.2.2.2.2.2.2.2.2.2.1), ((hof_1 1015 (by omega) (by omega)).trans hMo.2.2.2.2.2.2.2.2.2.2.2.2.2.2.2.1), ((hof_1 1016 (by omega) (by omega)).trans hMo.2.2.2.2.2.2.2.2.2.2.2.2.2.2.2.2)⟩⟩⟩⟩⟩, by show rm_W D ad _ _ t.heap; rw [ht]; exact hW⟩, hS.F ht⟩) hS.2.2 dX6_topple_28
  · skip
    subst hz
    have ho_1 : ∀ q, q ≠ 1000 → ct_1 q = ct q := hqo
    have hof_1 : ∀ q, q ≠ 1000 → q ≠ 1005 → ct_1 q = ct q := fun q h0_1 h1_1 => (ho_1 q h0_1).trans rfl
    have hm0_1 : ct_1 1000 = some (.inr (6, [.int (jI 0), .int (jI ((yc : Nat) : Int)), .int (jI ((hc : Nat) : Int)), .ref (ad 1001), .ref (ad 1002), .ref (ad 1003), .ref (ad 1004), .ref (ad 1005), .ref (ad 1006), .ref (ad 1007), .ref (ad 1008), .ref (ad 1009), .ref (ad 1010), .ref (ad 1011), .ref (ad 1012), .ref (ad 1013), .ref (ad 1014), .ref (ad 1015), .ref (ad 1016)]) : va_E) := hqs
    have hm1_1 : ct_1 1005 = some (rl ty 160 (fl 8 hg)) := (ho_1 1005 (by omega)).trans hMo.2.2.2.2.2.1
    obtain ⟨h9, hn_h9⟩ : ∃ h9 : Nat, z9 = (h9 : Int) := ⟨z9.toNat, by omega⟩
    subst hn_h9
    have hh9 : h9 < hc := by omega
    have hyh := hhy h9 hh9
    have hn8 := hyn (hy h9) hyh
    have hM8 := hyM (hy h9) hyh
    refine rm_if_eq (tgt := 27) hx hb ⟨by omega, by omega⟩ dX6_topple_5 (by decide) (fun hq => absurd hq (by omega)) (fun _ => ?_)
    refine lv_aload_n hx hb dX6_topple_8 rfl (lv_at hl 0 rfl) ?_
    refine lv_iload_n hx hb dX6_topple_9 rfl (lv_at hl 1 rfl) ?_
    refine lv_iload_n hx hb dX6_topple_10 rfl (lv_at hl 2 rfl) ?_
    refine lv_iconst (v := jI 1) hx hb dX6_topple_11 rfl ?_
    refine rm_calli (va_runV (As := [.int (jI ((h9 : Nat) : Int)), .int (jI p9), .int (jI 1)]) (rest := []) ⟨hx, hb, hml, hown, hts⟩ (c_X6_isIn l D ty ad ct_1 H.size 0 yc hc yn yM yu hy hg hf mA pt ro ke kt mu sl tw bw de ⟨hm0_1, ((hof_1 1001 (by omega) (by omega)).trans hMo.2.1), ((hof_1 1002 (by omega) (by omega)).trans hMo.2.2.1), ((hof_1 1003 (by omega) (by omega)).trans hMo.2.2.2.1), ((hof_1 1004 (by omega) (by omega)).trans hMo.2.2.2.2.1), hm1_1, ((hof_1 1006 (by omega) (by omega)).trans hMo.2.2.2.2.2.2.1), ((hof_1 1007 (by omega) (by omega)).trans hMo.2.2.2.2.2.2.2.1), ((hof_1 1008 (by omega) (by omega)).trans hMo.2.2.2.2.2.2.2.2.1), ((hof_1 1009 (by omega) (by omega)).trans hMo.2.2.2.2.2.2.2.2.2.1), ((hof_1 1010 (by omega) (by omega)).trans hMo.2.2.2.2.2.2.2.2.2.2.1), ((hof_1 1011 (by omega) (by omega)).trans hMo.2.2.2.2.2.2.2.2.2.2.2.1), ((hof_1 1012 (by omega) (by omega)).trans hMo.2.2.2.2.2.2.2.2.2.2.2.2.1), ((hof_1 1013 (by omega) (by omega)).trans hMo.2.2.2.2.2.2.2.2.2.2.2.2.2.1), ((hof_1 1014 (by omega) (by omega)).trans hMo.2.2.2.2.2.2.2.2.2.2.2.2.2.2.1), ((hof_1 1015 (by omega) (by omega)).trans hMo.2.2.2.2.2.2.2.2.2.2.2.2.2.2.2.1), ((hof_1 1016 (by omega) (by omega)).trans hMo.2.2.2.2.2.2.2.2.2.2.2.2.2.2.2.2)⟩ rfl h9 (by omega) (by omega) hn8.2 p9 1 hp9 (by omega)) (cwV 3 hts gX6_topple_X6_isIn rfl rfl rfl (by decide +kernel) ⟨Nat.le_of_ble_eq_true rfl, Nat.le_of_ble_eq_true rfl⟩) (rm_preV hK hNw hW hm0_1 rfl) rfl rfl hl.1 rfl (lv_room (Nat.le_of_ble_eq_true rfl)) dX6_topple_12 ⟨Nat.zero_le _, Nat.zero_le _⟩) hW hS hA (fun z_2 ct_2 H locs hq_2 hW hS => ?_)
    obtain ⟨hqo, hqc⟩ := hq_2
    rcases hqc with ⟨hbad, hz, hqs⟩ | ⟨hp1, hp2, hz, hqs⟩
    · skip
      subst hz
      have ho_2 : ∀ q, q ≠ 1000 → ct_2 q = ct_1 q := hqo
      have hof_2 : ∀ q, q ≠ 1000 → q ≠ 1005 → ct_2 q = ct q := fun q h0_2 h1_2 => (ho_2 q h0_2).trans (hof_1 q h0_2 h1_2)
      have hm0_2 : ct_2 1000 = some (.inr (6, [.int (jI 1), .int (jI ((yc : Nat) : Int)), .int (jI ((hc : Nat) : Int)), .ref (ad 1001), .ref (ad 1002), .ref (ad 1003), .ref (ad 1004), .ref (ad 1005), .ref (ad 1006), .ref (ad 1007), .ref (ad 1008), .ref (ad 1009), .ref (ad 1010), .ref (ad 1011), .ref (ad 1012), .ref (ad 1013), .ref (ad 1014), .ref (ad 1015), .ref (ad 1016)]) : va_E) := hqs
      have hm1_2 : ct_2 1005 = some (rl ty 160 (fl 8 hg)) := (ho_2 1005 (by omega)).trans hm1_1
      refine rm_if_eq (tgt := 27) hx hb ⟨by omega, by omega⟩ dX6_topple_15 (by decide) (fun _ => ?_) (fun hq => absurd hq (by omega))
      refine lv_iconst (v := jI 0) hx hb dX6_topple_27 rfl ?_
      exact W.zret hx hb hr (by decide) (fun t ht hw => ⟨⟨_, (0, ct_2), rfl, ⟨rfl, ⟨(fun q hq9 => hof_2 q (by omega) (by omega)), Or.inl ⟨Or.inr ⟨h9, rfl, hh9, hbad⟩, ⟨mA, pt, ro, ke, kt, mu, sl, tw, bw, de, ⟨hm0_2, ((hof_2 1001 (by omega) (by omega)).trans hMo.2.1), ((hof_2 1002 (by omega) (by omega)).trans hMo.2.2.1), ((hof_2 1003 (by omega) (by omega)).trans hMo.2.2.2.1), ((hof_2 1004 (by omega) (by omega)).trans hMo.2.2.2.2.1), hm1_2, ((hof_2 1006 (by omega) (by omega)).trans hMo.2.2.2.2.2.2.1), ((hof_2 1007 (by omega) (by omega)).trans hMo.2.2.2.2.2.2.2.1), ((hof_2 1008 (by omega) (by omega)).trans hMo.2.2.2.2.2.2.2.2.1), ((hof_2 1009 (by omega) (by omega)).trans hMo.2.2.2.2.2.2.2.2.2.1), ((hof_2 1010 (by omega) (by omega)).trans hMo.2.2.2.2.2.2.2.2.2.2.1), ((hof_2 1011 (by omega) (by omega)).trans hMo.2.2.2.2.2.2.2.2.2.2.2.1), ((hof_2 1012 (by omega) (by omega)).trans hMo.2.2.2.2.2.2.2.2.2.2.2.2.1), ((hof_2 1013 (by omega) (by omega)).trans hMo.2.2.2.2.2.2.2.2.2.2.2.2.2.1), ((hof_2 1014 (by omega) (by omega)).trans hMo.2.2.2.2.2.2.2.2.2.2.2.2.2.2.1), ((hof_2 1015 (by omega) (by omega)).trans hMo.2.2.2.2.2.2.2.2.2.2.2.2.2.2.2.1), ((hof_2 1016 (by omega) (by omega)).trans hMo.2.2.2.2.2.2.2.2.2.2.2.2.2.2.2.2)⟩⟩⟩⟩⟩, by show rm_W D ad _ _ t.heap; rw [ht]; exact hW⟩, hS.F ht⟩) hS.2.2 dX6_topple_28
    · skip
      subst hz
      have ho_2 : ∀ q, q ≠ 1000 → ct_2 q = ct_1 q := hqo
      have hof_2 : ∀ q, q ≠ 1000 → q ≠ 1005 → ct_2 q = ct q := fun q h0_2 h1_2 => (ho_2 q h0_2).trans (hof_1 q h0_2 h1_2)
      have hm0_2 : ct_2 1000 = some (.inr (6, [.int (jI 0), .int (jI ((yc : Nat) : Int)), .int (jI ((hc : Nat) : Int)), .ref (ad 1001), .ref (ad 1002), .ref (ad 1003), .ref (ad 1004), .ref (ad 1005), .ref (ad 1006), .ref (ad 1007), .ref (ad 1008), .ref (ad 1009), .ref (ad 1010), .ref (ad 1011), .ref (ad 1012), .ref (ad 1013), .ref (ad 1014), .ref (ad 1015), .ref (ad 1016)]) : va_E) := hqs
      have hm1_2 : ct_2 1005 = some (rl ty 160 (fl 8 hg)) := (ho_2 1005 (by omega)).trans hm1_1
      obtain ⟨q9, hn_q9⟩ : ∃ q9 : Nat, p9 = (q9 : Int) := ⟨p9.toNat, by omega⟩
      subst hn_q9
      refine rm_if_eq (tgt := 27) hx hb ⟨by omega, by omega⟩ dX6_topple_15 (by decide) (fun hq => absurd hq (by omega)) (fun _ => ?_)
      refine lv_aload_n hx hb dX6_topple_18 rfl (lv_at hl 0 rfl) ?_
      refine lv_iload_n hx hb dX6_topple_19 rfl (lv_at hl 1 rfl) ?_
      refine lv_iload_n hx hb dX6_topple_20 rfl (lv_at hl 2 rfl) ?_
      have hgb := hgr h9 hh9 q9 (by omega) (by omega)
      refine rm_calli (va_runV (As := [.int (jI ((h9 : Nat) : Int)), .int (jI ((q9 : Nat) : Int))]) (rest := []) ⟨hx, hb, hml, hown, hts⟩ (c_X6_may l D ty ad ct_2 H.size 0 yc hc yn yM yu hy hg hf mA pt ro ke kt mu sl tw bw de ⟨hm0_2, ((hof_2 1001 (by omega) (by omega)).trans hMo.2.1), ((hof_2 1002 (by omega) (by omega)).trans hMo.2.2.1), ((hof_2 1003 (by omega) (by omega)).trans hMo.2.2.2.1), ((hof_2 1004 (by omega) (by omega)).trans hMo.2.2.2.2.1), hm1_2, ((hof_2 1006 (by omega) (by omega)).trans hMo.2.2.2.2.2.2.1), ((hof_2 1007 (by omega) (by omega)).trans hMo.2.2.2.2.2.2.2.1), ((hof_2 1008 (by omega) (by omega)).trans hMo.2.2.2.2.2.2.2.2.1), ((hof_2 1009 (by omega) (by omega)).trans hMo.2.2.2.2.2.2.2.2.2.1), ((hof_2 1010 (by omega) (by omega)).trans hMo.2.2.2.2.2.2.2.2.2.2.1), ((hof_2 1011 (by omega) (by omega)).trans hMo.2.2.2.2.2.2.2.2.2.2.2.1), ((hof_2 1012 (by omega) (by omega)).trans hMo.2.2.2.2.2.2.2.2.2.2.2.2.1), ((hof_2 1013 (by omega) (by omega)).trans hMo.2.2.2.2.2.2.2.2.2.2.2.2.2.1), ((hof_2 1014 (by omega) (by omega)).trans hMo.2.2.2.2.2.2.2.2.2.2.2.2.2.2.1), ((hof_2 1015 (by omega) (by omega)).trans hMo.2.2.2.2.2.2.2.2.2.2.2.2.2.2.2.1), ((hof_2 1016 (by omega) (by omega)).trans hMo.2.2.2.2.2.2.2.2.2.2.2.2.2.2.2.2)⟩ h9 (by omega) (by omega) hn8 hM8 q9 (by omega) ⟨by omega, by omega⟩) (cwV 2 hts gX6_topple_X6_may rfl rfl rfl (by decide +kernel) ⟨Nat.le_of_ble_eq_true rfl, Nat.le_of_ble_eq_true rfl⟩) (rm_preV hK hNw hW hm0_2 rfl) rfl rfl hl.1 rfl (lv_room (Nat.le_of_ble_eq_true rfl)) dX6_topple_21 ⟨Nat.zero_le _, Nat.zero_le _⟩) hW hS hA (fun z_3 ct_3 H locs hq_3 hW hS => ?_)
      obtain ⟨hz, hcc_3⟩ := hq_3
      have hcc_3 := hcc_3.symm
      subst hcc_3
      by_cases hww : dg (yn (hy h9)) (yM (hy h9)) q9 ≤ hg h9 q9
      · skip
        rw [if_pos hww] at hz
        subst hz
        refine rm_if_ne (tgt := 29) hx hb ⟨by omega, by omega⟩ dX6_topple_24 (by decide) (fun _ => ?_) (fun hq => absurd hq (by omega))
        refine lv_aload_n hx hb dX6_topple_29 rfl (lv_at hl 0 rfl) ?_
        refine lv_iload_n hx hb dX6_topple_30 rfl (lv_at hl 1 rfl) ?_
        refine lv_iload_n hx hb dX6_topple_31 rfl (lv_at hl 2 rfl) ?_
        refine lv_lconst (v := jL 1) hx hb dX6_topple_32 rfl ?_
        refine rm_callv (va_runV (As := [.int (jI ((h9 : Nat) : Int)), .int (jI ((q9 : Nat) : Int)), .long (jL 1)]) (rest := []) ⟨hx, hb, hml, hown, hts⟩ (c_X6_topples l D ty ad ct_2 H.size 0 yc hc yn yM yu hy hg hf mA pt ro ke kt mu sl tw bw de ⟨hm0_2, ((hof_2 1001 (by omega) (by omega)).trans hMo.2.1), ((hof_2 1002 (by omega) (by omega)).trans hMo.2.2.1), ((hof_2 1003 (by omega) (by omega)).trans hMo.2.2.2.1), ((hof_2 1004 (by omega) (by omega)).trans hMo.2.2.2.2.1), hm1_2, ((hof_2 1006 (by omega) (by omega)).trans hMo.2.2.2.2.2.2.1), ((hof_2 1007 (by omega) (by omega)).trans hMo.2.2.2.2.2.2.2.1), ((hof_2 1008 (by omega) (by omega)).trans hMo.2.2.2.2.2.2.2.2.1), ((hof_2 1009 (by omega) (by omega)).trans hMo.2.2.2.2.2.2.2.2.2.1), ((hof_2 1010 (by omega) (by omega)).trans hMo.2.2.2.2.2.2.2.2.2.2.1), ((hof_2 1011 (by omega) (by omega)).trans hMo.2.2.2.2.2.2.2.2.2.2.2.1), ((hof_2 1012 (by omega) (by omega)).trans hMo.2.2.2.2.2.2.2.2.2.2.2.2.1), ((hof_2 1013 (by omega) (by omega)).trans hMo.2.2.2.2.2.2.2.2.2.2.2.2.2.1), ((hof_2 1014 (by omega) (by omega)).trans hMo.2.2.2.2.2.2.2.2.2.2.2.2.2.2.1), ((hof_2 1015 (by omega) (by omega)).trans hMo.2.2.2.2.2.2.2.2.2.2.2.2.2.2.2.1), ((hof_2 1016 (by omega) (by omega)).trans hMo.2.2.2.2.2.2.2.2.2.2.2.2.2.2.2.2)⟩ h9 (by omega) (by omega) hn8 hM8 q9 1 (by omega)) (cwV 3 hts gX6_topple_X6_topples rfl rfl rfl (by decide +kernel) ⟨Nat.le_of_ble_eq_true rfl, Nat.le_of_ble_eq_true rfl⟩) (rm_preV hK hNw hW hm0_2 rfl) rfl rfl hl.1 rfl (lv_room (Nat.le_of_ble_eq_true rfl)) dX6_topple_33 ⟨Nat.zero_le _, Nat.zero_le _⟩) hW hS hA (fun ct_4 H locs hq_4 hW hS hz_4 => ?_)
        have ho_4 : ∀ q, q ≠ 1005 → ct_4 q = ct_2 q := hq_4.2
        have hof_4 : ∀ q, q ≠ 1000 → q ≠ 1005 → ct_4 q = ct q := fun q h0_4 h1_4 => (ho_4 q h1_4).trans (hof_2 q h0_4 h1_4)
        have hm0_4 : ct_4 1000 = some (.inr (6, [.int (jI 0), .int (jI ((yc : Nat) : Int)), .int (jI ((hc : Nat) : Int)), .ref (ad 1001), .ref (ad 1002), .ref (ad 1003), .ref (ad 1004), .ref (ad 1005), .ref (ad 1006), .ref (ad 1007), .ref (ad 1008), .ref (ad 1009), .ref (ad 1010), .ref (ad 1011), .ref (ad 1012), .ref (ad 1013), .ref (ad 1014), .ref (ad 1015), .ref (ad 1016)]) : va_E) := (ho_4 1000 (by omega)).trans hm0_2
        have hm1_4 : ct_4 1005 = some (rl ty 160 (fl 8 (us hg h9 (fel (yn (hy h9)) (yM (hy h9)) (dg (yn (hy h9)) (yM (hy h9))) (hg h9) q9 1)))) := hq_4.1
        refine lv_iconst (v := jI 1) hx hb dX6_topple_36 rfl ?_
        exact W.zret hx hb hr (by decide) (fun t ht hw => ⟨⟨_, (1, ct_4), rfl, ⟨rfl, ⟨(fun q hq9 => hof_4 q (by omega) (by omega)), Or.inr ⟨h9, q9, rfl, rfl, hh9, by omega, by omega, Or.inr ⟨hww, rfl, ⟨mA, pt, ro, ke, kt, mu, sl, tw, bw, de, ⟨hm0_4, ((hof_4 1001 (by omega) (by omega)).trans hMo.2.1), ((hof_4 1002 (by omega) (by omega)).trans hMo.2.2.1), ((hof_4 1003 (by omega) (by omega)).trans hMo.2.2.2.1), ((hof_4 1004 (by omega) (by omega)).trans hMo.2.2.2.2.1), hm1_4, ((hof_4 1006 (by omega) (by omega)).trans hMo.2.2.2.2.2.2.1), ((hof_4 1007 (by omega) (by omega)).trans hMo.2.2.2.2.2.2.2.1), ((hof_4 1008 (by omega) (by omega)).trans hMo.2.2.2.2.2.2.2.2.1), ((hof_4 1009 (by omega) (by omega)).trans hMo.2.2.2.2.2.2.2.2.2.1), ((hof_4 1010 (by omega) (by omega)).trans hMo.2.2.2.2.2.2.2.2.2.2.1), ((hof_4 1011 (by omega) (by omega)).trans hMo.2.2.2.2.2.2.2.2.2.2.2.1), ((hof_4 1012 (by omega) (by omega)).trans hMo.2.2.2.2.2.2.2.2.2.2.2.2.1), ((hof_4 1013 (by omega) (by omega)).trans hMo.2.2.2.2.2.2.2.2.2.2.2.2.2.1), ((hof_4 1014 (by omega) (by omega)).trans hMo.2.2.2.2.2.2.2.2.2.2.2.2.2.2.1), ((hof_4 1015 (by omega) (by omega)).trans hMo.2.2.2.2.2.2.2.2.2.2.2.2.2.2.2.1), ((hof_4 1016 (by omega) (by omega)).trans hMo.2.2.2.2.2.2.2.2.2.2.2.2.2.2.2.2)⟩⟩⟩⟩⟩⟩, by show rm_W D ad _ _ t.heap; rw [ht]; exact hW⟩, hS.F ht⟩) hS.2.2 dX6_topple_37
      · skip
        rw [if_neg hww] at hz
        subst hz
        refine rm_if_ne (tgt := 29) hx hb ⟨by omega, by omega⟩ dX6_topple_24 (by decide) (fun hq => absurd hq (by omega)) (fun _ => ?_)
        refine lv_iconst (v := jI 0) hx hb dX6_topple_27 rfl ?_
        exact W.zret hx hb hr (by decide) (fun t ht hw => ⟨⟨_, (0, ct_2), rfl, ⟨rfl, ⟨(fun q hq9 => hof_2 q (by omega) (by omega)), Or.inr ⟨h9, q9, rfl, rfl, hh9, by omega, by omega, Or.inl ⟨by omega, rfl, ⟨mA, pt, ro, ke, kt, mu, sl, tw, bw, de, ⟨hm0_2, ((hof_2 1001 (by omega) (by omega)).trans hMo.2.1), ((hof_2 1002 (by omega) (by omega)).trans hMo.2.2.1), ((hof_2 1003 (by omega) (by omega)).trans hMo.2.2.2.1), ((hof_2 1004 (by omega) (by omega)).trans hMo.2.2.2.2.1), hm1_2, ((hof_2 1006 (by omega) (by omega)).trans hMo.2.2.2.2.2.2.1), ((hof_2 1007 (by omega) (by omega)).trans hMo.2.2.2.2.2.2.2.1), ((hof_2 1008 (by omega) (by omega)).trans hMo.2.2.2.2.2.2.2.2.1), ((hof_2 1009 (by omega) (by omega)).trans hMo.2.2.2.2.2.2.2.2.2.1), ((hof_2 1010 (by omega) (by omega)).trans hMo.2.2.2.2.2.2.2.2.2.2.1), ((hof_2 1011 (by omega) (by omega)).trans hMo.2.2.2.2.2.2.2.2.2.2.2.1), ((hof_2 1012 (by omega) (by omega)).trans hMo.2.2.2.2.2.2.2.2.2.2.2.2.1), ((hof_2 1013 (by omega) (by omega)).trans hMo.2.2.2.2.2.2.2.2.2.2.2.2.2.1), ((hof_2 1014 (by omega) (by omega)).trans hMo.2.2.2.2.2.2.2.2.2.2.2.2.2.2.1), ((hof_2 1015 (by omega) (by omega)).trans hMo.2.2.2.2.2.2.2.2.2.2.2.2.2.2.2.1), ((hof_2 1016 (by omega) (by omega)).trans hMo.2.2.2.2.2.2.2.2.2.2.2.2.2.2.2.2)⟩⟩⟩⟩⟩⟩, by show rm_W D ad _ _ t.heap; rw [ht]; exact hW⟩, hS.F ht⟩) hS.2.2 dX6_topple_28
