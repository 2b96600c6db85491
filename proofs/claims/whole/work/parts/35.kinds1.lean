set_option maxHeartbeats 4000000 in
set_option maxRecDepth 100000 in
theorem c_X2_noGrains (l : Launch) (D : va_G) (ty : Nat → ClassId) (ad : Nat → Nat) (ct : rm_C) (sz : Nat) (ko : Nat) (fu li so fa : Nat → Int) (T : Nat → Nat → Int) (hKi : KindsAt ty ad ct ko fu li so fa T) : Met l yX2_noGrains wsX2_noGrains ({ frames := 0, cells := 0, slots := 0, locals := 0 }) (rm_P D ty ad ct sz [.ref (ad ko)]) (rm_Qr D ad ct sz (fun z ct1 => z = ko + 1 ∧ ct1 = ct)) 0 0 (rm_A ad ct sz) := by
  refine Met.ofW (cc := cX2_noGrains) (maxL := 1) (ret := (some (.array .long))) (by decide) rfl ?_
  intro p e s m args below meth c s₁ B hml hv
  obtain ⟨hargs, hsz, hW, hK, hNw⟩ := hv
  have hx := B.exec
  have hb := B.bytes
  have hr := B.returns
  have hts := atoms_spec (ws := wsX2_noGrains) B.pre
  have hown : s.vm.findClass RX2 = some m.cls := findClass_of_methodNamed B.named
  have hlocks := B.notSynchronized
  subst hsz
  have hW := hW.own (sz := s.heap.size)
  have hA : ∀ q : Nat, s.heap.size ≤ q → rm_A ad ct s.heap.size q := fun q h => Or.inr h
  have hS : va_S (rm_A ad ct s.heap.size) s.heap s.heap [] := va_S.rf
  have hent : entryFrame m args 1 = entryFrame m ([.ref (ad ko)] : List Value).toArray 1 := by rw [hargs]
  have hl := lv_entry ([.ref (ad ko)]) (n := 1) (Nat.le_of_ble_eq_true rfl)
  rw [hent, lg_entry_eq]
  generalize (lg_sl ([.ref (ad ko)]) ++ List.replicate (1 - (lg_sl ([.ref (ad ko)])).length) Slot.unset).toArray = ls at hl ⊢
  have hl : lv_has ls 1 [(0, .ref (ad ko))] := hl
  refine lv_aload_n hx hb dX2_noGrains_0 rfl (lv_at hl 0 rfl) ?_
  refine rm_get (ci := 2) (v := .ref (ad (ko + 1))) (C := RX2) (T := TX2) (N := 6) hx hb hts (by decide +kernel) hown hK hW hKi.1 rfl 0 (by decide) (hts (.fieldLink RX2 9 "GrainYard$Kinds" "zeros" "[J") (by decide +kernel)) (fun _ h9 => h9) rfl dX2_noGrains_1 ?_
  exact W.aret hx hb hr (by first | exact Or.inl ⟨_, rfl⟩ | exact Or.inr ⟨_, rfl⟩) (Or.inr ⟨_, rfl⟩) (fun t ht hw => ⟨⟨((ko + 1), ct), _, rfl, ⟨rfl, rfl⟩, rfl, by show rm_W D ad _ _ t.heap; rw [ht]; exact hW⟩, hS.F ht⟩) hS.2.2 dX2_noGrains_4
set_option maxHeartbeats 4000000 in
set_option maxRecDepth 100000 in
theorem c_X2_fullest (l : Launch) (D : va_G) (ty : Nat → ClassId) (ad : Nat → Nat) (ct : rm_C) (sz : Nat) (yr n : Nat) (M : Nat → Nat → Int) (d : Nat → Int) (u : Int) (ko : Nat) (fu li so fa : Nat → Int) (T : Nat → Nat → Int) (hn : 1 ≤ n ∧ n ≤ 8) (hY : YardAt ty ad ct yr n M d u) (hd0 : ∀ i, i < 8 → 0 ≤ d i ∧ d i ≤ 21) (hKi : KindsAt ty ad ct ko fu li so fa T) (hko : ko + 14 < yr ∨ yr + 10 < ko) : Met l yX2_fullest wsX2_fullest ({ frames := 0, cells := 0, slots := 0, locals := 0 }) (rm_P D ty ad ct sz [.ref (ad ko), .ref (ad yr)]) (rm_Qr D ad ct sz (fun z ct1 => z = ko + 2 ∧ ct1 (ko + 2) = some (rl ty 8 (fulr n d fu)) ∧ ∀ q, q ≠ ko + 2 → ct1 q = ct q)) 0 0 (rm_A ad ct sz) := by
  refine Met.ofW (cc := cX2_fullest) (maxL := 3) (ret := (some (.array .long))) (by decide) rfl ?_
  intro p e s m args below meth c s₁ B hml hv
  obtain ⟨hargs, hsz, hW, hK, hNw⟩ := hv
  have hx := B.exec
  have hb := B.bytes
  have hr := B.returns
  have hts := atoms_spec (ws := wsX2_fullest) B.pre
  have hown : s.vm.findClass RX2 = some m.cls := findClass_of_methodNamed B.named
  have hlocks := B.notSynchronized
  subst hsz
  have hW := hW.own (sz := s.heap.size)
  have hA : ∀ q : Nat, s.heap.size ≤ q → rm_A ad ct s.heap.size q := fun q h => Or.inr h
  have hS : va_S (rm_A ad ct s.heap.size) s.heap s.heap [] := va_S.rf
  have hent : entryFrame m args 3 = entryFrame m ([.ref (ad ko), .ref (ad yr)] : List Value).toArray 3 := by rw [hargs]
  have hl := lv_entry ([.ref (ad ko), .ref (ad yr)]) (n := 3) (Nat.le_of_ble_eq_true rfl)
  rw [hent, lg_entry_eq]
  generalize (lg_sl ([.ref (ad ko), .ref (ad yr)]) ++ List.replicate (3 - (lg_sl ([.ref (ad ko), .ref (ad yr)])).length) Slot.unset).toArray = ls at hl ⊢
  have hl : lv_has ls 3 [(0, .ref (ad ko)), (1, .ref (ad yr))] := hl
  refine lv_iconst (v := jI 1) hx hb dX2_fullest_0 rfl ?_
  refine lv_istore_n (lv' := [(2, .int (jI 1)), (0, .ref (ad ko)), (1, .ref (ad yr))]) hx hb dX2_fullest_1 rfl hl (by decide) rfl (fun ls hl => ?_)
  have hf0 : ct (ko + 2) = some (rl ty 8 (fulr 1 d fu)) := hKi.2.2.1.trans (congrArg (fun f => some (rl ty 8 f)) (funext fun q => (if_neg (by omega)).symm))
  have LP : ∀ (k : Nat) (i : Nat) (hi : i ≤ n) (hi1 : 1 ≤ i), n - i < k → ∀ (ctv : rm_C) (H : Heap) (locs : List Loc), (ctv (ko + 2) = some (rl ty 8 (fulr i d fu))) → ∀ (_ : True), (∀ q, q ≠ (ko + 2) → ctv q = ct q) → ∀ (_ : True), rm_W D ad ctv (rm_A ad ct s.heap.size) H → va_S (rm_A ad ct s.heap.size) s.heap H locs → ∀ ls : Array Slot, lv_has ls 3 [(2, .int (jI ((i : Nat) : Int))), (0, .ref (ad ko)), (1, .ref (ad yr))] → W p l e (headSpec wsX2_fullest ({ frames := 0, cells := 0, slots := 0, locals := 0 })).room s m args below meth c H locs 0 0 (MQ below (rm_Qr D ad ct s.heap.size (fun z ct1 => z = ko + 2 ∧ ct1 (ko + 2) = some (rl ty 8 (fulr n d fu)) ∧ ∀ q, q ≠ ko + 2 → ct1 q = ct q)) args s 0 0 (rm_A ad ct s.heap.size)) (F0 m 2 ls []) := by
    intro k
    induction k with
    | zero => intro i hi hi1 hk; exact absurd hk (Nat.not_lt_zero _)
    | succ k ih_LP =>
      intro i hi hi1 hk ctv_1 H locs hv0_1 _ hofv_1 _ hW hS ls hl
      refine lv_iload_n hx hb dX2_fullest_2 rfl (lv_at hl 0 rfl) ?_
      refine lv_aload_n hx hb dX2_fullest_3 rfl (lv_at hl 2 rfl) ?_
      refine rm_get (ci := 4) (v := .int (jI ((n : Nat) : Int))) (C := RX4) (T := TX4) (N := 4) hx hb hts (by decide +kernel) hown hK hW ((hofv_1 yr (by omega)).trans hY.1) rfl 0 (by decide) (hts (.fieldLink RX2 32 "GrainYard$Yard" "places" "I") (by decide +kernel)) (fun _ h9 => h9) rfl dX2_fullest_4 ?_
      refine rm_icmp_ge (tgt := 31) hx hb ⟨by omega, by omega⟩ ⟨by omega, by omega⟩ dX2_fullest_7 (by decide) (fun hc_2 => ?_) (fun hc_2 => ?_)
      · skip
        have hi : i = n := by omega
        subst hi
        refine lv_aload_n hx hb dX2_fullest_31 rfl (lv_at hl 1 rfl) ?_
        refine rm_get (ci := 2) (v := .ref (ad (ko + 2))) (C := RX2) (T := TX2) (N := 6) hx hb hts (by decide +kernel) hown hK hW ((hofv_1 ko (by omega)).trans hKi.1) rfl 1 (by decide) (hts (.fieldLink RX2 15 "GrainYard$Kinds" "full" "[J") (by decide +kernel)) (fun _ h9 => h9) rfl dX2_fullest_32 ?_
        exact W.aret hx hb hr (by first | exact Or.inl ⟨_, rfl⟩ | exact Or.inr ⟨_, rfl⟩) (Or.inr ⟨_, rfl⟩) (fun t ht hw => ⟨⟨((ko + 2), ctv_1), _, rfl, ⟨rfl, hv0_1, fun q hq => hofv_1 q hq⟩, rfl, by show rm_W D ad _ _ t.heap; rw [ht]; exact hW⟩, hS.F ht⟩) hS.2.2 dX2_fullest_35
      · skip
        have hdi := hd0 i (by omega)
        refine lv_aload_n hx hb dX2_fullest_10 rfl (lv_at hl 1 rfl) ?_
        refine rm_get (ci := 2) (v := .ref (ad (ko + 2))) (C := RX2) (T := TX2) (N := 6) hx hb hts (by decide +kernel) hown hK hW ((hofv_1 ko (by omega)).trans hKi.1) rfl 1 (by decide) (hts (.fieldLink RX2 15 "GrainYard$Kinds" "full" "[J") (by decide +kernel)) (fun _ h9 => h9) rfl dX2_fullest_11 ?_
        refine lv_iload_n hx hb dX2_fullest_14 rfl (lv_at hl 0 rfl) ?_
        refine lv_aload_n hx hb dX2_fullest_15 rfl (lv_at hl 2 rfl) ?_
        refine rm_get (ci := 4) (v := .ref (ad (yr + 10))) (C := RX4) (T := TX4) (N := 4) hx hb hts (by decide +kernel) hown hK hW ((hofv_1 yr (by omega)).trans hY.1) rfl 2 (by decide) (hts (.fieldLink RX2 38 "GrainYard$Yard" "degrees" "[I") (by decide +kernel)) (fun _ h9 => h9) rfl dX2_fullest_16 ?_
        refine lv_iload_n hx hb dX2_fullest_19 rfl (lv_at hl 0 rfl) ?_
        refine rm_iald hx hb hK hW (f := d) ((hofv_1 (yr + 10) (by omega)).trans hY.2.2.2) i rfl (by omega) (by omega) dX2_fullest_20 ?_
        refine lv_iconst (v := jI 1) hx hb dX2_fullest_21 rfl ?_
        refine rm_isub hx hb dX2_fullest_22 ?_
        refine rm_i2l hx hb dX2_fullest_23 ⟨by omega, by omega⟩ ?_
        refine rm_last hx hb hK hW hS (f := (fulr i d fu)) hv0_1 i rfl (by omega) (by omega) dX2_fullest_24 (fun H locs ct_3 hs_3 ho_3 hW hS hz_3 => ?_)
        have hof_3 : ∀ q, q ≠ (ko + 2) → ct_3 q = ct q := fun q h0_3 => (ho_3 q h0_3).trans (hofv_1 q h0_3)
        have hk_4 : ct_3 (ko + 2) = some (rl ty 8 (fulr (i + 1) d fu)) := hs_3.trans (congrArg (fun f => some (rl ty 8 f)) (by funext q; unfold ub fulr; by_cases e : q = i <;> by_cases e2 : 1 ≤ q ∧ q < i <;> by_cases e3 : 1 ≤ q ∧ q < i + 1 <;> simp [e, e2, e3] <;> omega))
        refine lv_iinc (v := jI (((i : Nat) : Int) + 1)) (lv' := [(2, .int (jI (((i : Nat) : Int) + 1))), (0, .ref (ad ko)), (1, .ref (ad yr))]) hx hb dX2_fullest_25 hl (k := 0) rfl (jI_add _ _) (by decide) rfl (fun ls hl => ?_)
        refine lv_goto (tgt := 2) hx hb dX2_fullest_28 (by decide) ?_
        exact ih_LP (i + 1) (by omega) (by omega) (by omega) ct_3 _ _ hk_4 trivial hof_3 trivial hW hS ls (lv_sub hl [0, 1, 2] rfl)
  exact LP (n + 1) (1) (by omega) (by omega) (by omega) ct _ _ hf0 trivial (fun _ _ => rfl) trivial hW hS ls (lv_sub hl [0, 1, 2] rfl)
set_option maxHeartbeats 4000000 in
set_option maxRecDepth 100000 in
theorem c_X2_makeLift (l : Launch) (D : va_G) (ty : Nat → ClassId) (ad : Nat → Nat) (ct : rm_C) (sz : Nat) (yr n : Nat) (M : Nat → Nat → Int) (d : Nat → Int) (u : Int) (ko : Nat) (fu li so fa : Nat → Int) (T : Nat → Nat → Int) (hy : yst n M) (hY : YardAt ty ad ct yr n M d u) (hdd : ∀ i, i < 8 → d i = dg n M i) (hd0 : ∀ i, i < 8 → 0 ≤ d i ∧ d i ≤ 21) (hKi : KindsAt ty ad ct ko fu li so fa T) (hko : ko + 14 < yr ∨ yr + 10 < ko) : Met l yX2_makeLift wsX2_makeLift ({ frames := 2, cells := 0, slots := 0, locals := 54 }) (rm_P D ty ad ct sz [.ref (ad ko), .ref (ad yr)]) (rm_Qv D ad ct sz 0 (fun ct1 => ∃ fu1 li1 fa1, ct1 (ko + 2) = some (rl ty 8 fu1) ∧ ct1 (ko + 3) = some (rl ty 8 li1) ∧ ct1 (ko + 5) = some (rl ty 8 fa1) ∧ (∀ q, 1 ≤ q → q < n → li1 q = lft n M q) ∧ ∀ q, q ≠ ko + 2 → q ≠ ko + 3 → q ≠ ko + 5 → ct1 q = ct q)) 0 0 (rm_A ad ct sz) := by
  refine Met.ofW (cc := cX2_makeLift) (maxL := 3) (ret := none) (by decide) rfl ?_
  intro p e s m args below meth c s₁ B hml hv
  obtain ⟨hargs, hsz, hW, hK, hNw⟩ := hv
  have hx := B.exec
  have hb := B.bytes
  have hr := B.returns
  have hts := atoms_spec (ws := wsX2_makeLift) B.pre
  have hown : s.vm.findClass RX2 = some m.cls := findClass_of_methodNamed B.named
  have hlocks := B.notSynchronized
  subst hsz
  have hW := hW.own (sz := s.heap.size)
  have hA : ∀ q : Nat, s.heap.size ≤ q → rm_A ad ct s.heap.size q := fun q h => Or.inr h
  have hS : va_S (rm_A ad ct s.heap.size) s.heap s.heap [] := va_S.rf
  have hent : entryFrame m args 3 = entryFrame m ([.ref (ad ko), .ref (ad yr)] : List Value).toArray 3 := by rw [hargs]
  have hl := lv_entry ([.ref (ad ko), .ref (ad yr)]) (n := 3) (Nat.le_of_ble_eq_true rfl)
  rw [hent, lg_entry_eq]
  generalize (lg_sl ([.ref (ad ko), .ref (ad yr)]) ++ List.replicate (3 - (lg_sl ([.ref (ad ko), .ref (ad yr)])).length) Slot.unset).toArray = ls at hl ⊢
  have hl : lv_has ls 3 [(0, .ref (ad ko)), (1, .ref (ad yr))] := hl
  have hn8 := hy.1.2.1
  have hn2 := hy.1.1
  refine lv_aload_n hx hb dX2_makeLift_0 rfl (lv_at hl 0 rfl) ?_
  refine lv_aload_n hx hb dX2_makeLift_1 rfl (lv_at hl 1 rfl) ?_
  refine rm_callr (va_runV (As := [.ref (ad yr)]) (rest := []) ⟨hx, hb, hml, hown, hts⟩ (c_X2_fullest l D ty ad ct s.heap.size yr n M d u ko fu li so fa T ⟨by omega, hn8⟩ hY hd0 hKi hko) (cwV 1 hts gX2_makeLift_X2_fullest rfl rfl rfl (by decide +kernel) ⟨Nat.le_of_ble_eq_true rfl, Nat.le_of_ble_eq_true rfl⟩) (rm_preV hK hNw hW hKi.1 rfl) rfl rfl hl.1 rfl (lv_room (Nat.le_of_ble_eq_true rfl)) dX2_makeLift_2 ⟨Nat.zero_le _, Nat.zero_le _⟩) hW hS hA (fun z_1 ct_1 H locs hq_1 hW hS => ?_)
  obtain ⟨hz, hq1, hq2⟩ := hq_1
  subst hz
  have ho_1 : ∀ q, q ≠ (ko + 2) → ct_1 q = ct q := hq2
  have hof_1 : ∀ q, q ≠ (ko + 2) → q ≠ (ko + 3) → q ≠ (ko + 5) → ct_1 q = ct q := fun q h0_1 h1_1 h2_1 => (ho_1 q h0_1).trans rfl
  have hm0_1 : ct_1 (ko + 2) = some (rl ty 8 (fulr n d fu)) := hq1
  have hm1_1 : ct_1 (ko + 3) = some (rl ty 8 li) := (ho_1 (ko + 3) (by omega)).trans hKi.2.2.2.1
  have hm2_1 : ct_1 (ko + 5) = some (rl ty 8 fa) := (ho_1 (ko + 5) (by omega)).trans hKi.2.2.2.2.2.1
  refine lv_pop hx hb dX2_makeLift_5 rfl ?_
  refine lv_iconst (v := jI 1) hx hb dX2_makeLift_6 rfl ?_
  refine lv_istore_n (lv' := [(2, .int (jI 1)), (0, .ref (ad ko)), (1, .ref (ad yr))]) hx hb dX2_makeLift_7 rfl hl (by decide) rfl (fun ls hl => ?_)
  have hf0 : ct_1 (ko + 3) = some (rl ty 8 (fun q => if 1 ≤ q ∧ q < 1 then 2 * fulr n d fu q else li q)) := hm1_1.trans (congrArg (fun f => some (rl ty 8 f)) (funext fun q => (if_neg (by omega)).symm))
  have LP : ∀ (k : Nat) (i : Nat) (hi : i ≤ n) (hi1 : 1 ≤ i), n - i < k → ∀ (ctv : rm_C) (H : Heap) (locs : List Loc), (ctv (ko + 2) = some (rl ty 8 (fulr n d fu))) → ∀ (_ : True), (ctv (ko + 3) = some (rl ty 8 (fun q => if 1 ≤ q ∧ q < i then 2 * fulr n d fu q else li q))) → ∀ (_ : True), (ctv (ko + 5) = some (rl ty 8 fa)) → ∀ (_ : True), (∀ q, q ≠ (ko + 2) → q ≠ (ko + 3) → q ≠ (ko + 5) → ctv q = ct q) → ∀ (_ : True), rm_W D ad ctv (rm_A ad ct s.heap.size) H → va_S (rm_A ad ct s.heap.size) s.heap H locs → ∀ ls : Array Slot, lv_has ls 3 [(2, .int (jI ((i : Nat) : Int))), (0, .ref (ad ko)), (1, .ref (ad yr))] → W p l e (headSpec wsX2_makeLift ({ frames := 2, cells := 0, slots := 0, locals := 54 })).room s m args below meth c H locs 0 0 (MQ below (rm_Qv D ad ct s.heap.size 0 (fun ct1 => ∃ fu1 li1 fa1, ct1 (ko + 2) = some (rl ty 8 fu1) ∧ ct1 (ko + 3) = some (rl ty 8 li1) ∧ ct1 (ko + 5) = some (rl ty 8 fa1) ∧ (∀ q, 1 ≤ q → q < n → li1 q = lft n M q) ∧ ∀ q, q ≠ ko + 2 → q ≠ ko + 3 → q ≠ ko + 5 → ct1 q = ct q)) args s 0 0 (rm_A ad ct s.heap.size)) (F0 m 8 ls []) := by
    intro k
    induction k with
    | zero => intro i hi hi1 hk; exact absurd hk (Nat.not_lt_zero _)
    | succ k ih_LP =>
      intro i hi hi1 hk ctv_2 H locs hv0_2 _ hv1_2 _ hv2_2 _ hofv_2 _ hW hS ls hl
      refine lv_iload_n hx hb dX2_makeLift_8 rfl (lv_at hl 0 rfl) ?_
      refine lv_aload_n hx hb dX2_makeLift_9 rfl (lv_at hl 2 rfl) ?_
      refine rm_get (ci := 4) (v := .int (jI ((n : Nat) : Int))) (C := RX4) (T := TX4) (N := 4) hx hb hts (by decide +kernel) hown hK hW ((hofv_2 yr (by omega) (by omega) (by omega)).trans hY.1) rfl 0 (by decide) (hts (.fieldLink RX2 32 "GrainYard$Yard" "places" "I") (by decide +kernel)) (fun _ h9 => h9) rfl dX2_makeLift_10 ?_
      refine rm_icmp_ge (tgt := 38) hx hb ⟨by omega, by omega⟩ ⟨by omega, by omega⟩ dX2_makeLift_13 (by decide) (fun hc_3 => ?_) (fun hc_3 => ?_)
      · skip
        have hi : n = i := by omega
        subst hi
        refine lv_aload_n hx hb dX2_makeLift_38 rfl (lv_at hl 2 rfl) ?_
        refine lv_aload_n hx hb dX2_makeLift_39 rfl (lv_at hl 1 rfl) ?_
        refine rm_get (ci := 2) (v := .ref (ad (ko + 3))) (C := RX2) (T := TX2) (N := 6) hx hb hts (by decide +kernel) hown hK hW ((hofv_2 ko (by omega) (by omega) (by omega)).trans hKi.1) rfl 2 (by decide) (hts (.fieldLink RX2 18 "GrainYard$Kinds" "lift" "[J") (by decide +kernel)) (fun _ h9 => h9) rfl dX2_makeLift_40 ?_
        refine lv_aload_n hx hb dX2_makeLift_43 rfl (lv_at hl 1 rfl) ?_
        refine rm_get (ci := 2) (v := .ref (ad (ko + 5))) (C := RX2) (T := TX2) (N := 6) hx hb hts (by decide +kernel) hown hK hW ((hofv_2 ko (by omega) (by omega) (by omega)).trans hKi.1) rfl 4 (by decide) (hts (.fieldLink RX2 24 "GrainYard$Kinds" "falls" "[J") (by decide +kernel)) (fun _ h9 => h9) rfl dX2_makeLift_44 ?_
        have hgq : ∀ q, 1 ≤ q → q < n → (fun q => if 1 ≤ q ∧ q < n then 2 * fulr n d fu q else li q) q = ful2 n M q := fun q h1 h2 => by show (if 1 ≤ q ∧ q < n then 2 * fulr n d fu q else li q) = _; rw [if_pos ⟨h1, h2⟩]; unfold fulr ful2; rw [if_pos ⟨h1, h2⟩, hdd q (by omega)]
        have hg0 : ∀ q, 1 ≤ q → q < n → 0 ≤ (fun q => if 1 ≤ q ∧ q < n then 2 * fulr n d fu q else li q) q := fun q h1 h2 => by rw [hgq q h1 h2]; exact (ful2_rng hy h1 h2).1
        have hgB : psum n (fun q => if 1 ≤ q ∧ q < n then 2 * fulr n d fu q else li q) ≤ 320 := by rw [psum_cong hgq]; exact ful2_sum hy
        refine rm_calll (va_runV (As := [.ref (ad (ko + 3)), .ref (ad (ko + 5))]) (rest := []) ⟨hx, hb, hml, hown, hts⟩ (c_X4_calm l D ty ad ctv_2 H.size yr n M d u (ko + 3) (ko + 5) (fun q => if 1 ≤ q ∧ q < n then 2 * fulr n d fu q else li q) fa hy.1 (hY.kept (fun q h1 h2 => hofv_2 q (by omega) (by omega) (by omega))) hdd hy.2.1 hd0 (by omega) (by omega) (by omega) hv1_2 hv2_2 hg0 (by omega) (hy.2.2 _ hg0 (by omega))) (cwV 2 hts gX2_makeLift_X4_calm rfl rfl rfl (by decide +kernel) ⟨Nat.le_of_ble_eq_true rfl, Nat.le_of_ble_eq_true rfl⟩) (rm_preV hK hNw hW ((hofv_2 yr (by omega) (by omega) (by omega)).trans hY.1) rfl) rfl rfl hl.1 rfl (lv_room (Nat.le_of_ble_eq_true rfl)) dX2_makeLift_47 ⟨Nat.zero_le _, Nat.zero_le _⟩) hW hS hA (fun z_4 ct_4 H locs hq_4 hW hS => ?_)
        obtain ⟨v9, hv9, -, hq1, hq2, hq3⟩ := hq_4
        have ho_4 : ∀ q, q ≠ (ko + 3) → q ≠ (ko + 5) → ct_4 q = ctv_2 q := hq3
        have hof_4 : ∀ q, q ≠ (ko + 2) → q ≠ (ko + 3) → q ≠ (ko + 5) → ct_4 q = ct q := fun q h0_4 h1_4 h2_4 => (ho_4 q h1_4 h2_4).trans (hofv_2 q h0_4 h1_4 h2_4)
        have hm0_4 : ct_4 (ko + 2) = some (rl ty 8 (fulr n d fu)) := (ho_4 (ko + 2) (by omega) (by omega)).trans hv0_2
        have hm1_4 : ct_4 (ko + 3) = some (rl ty 8 (gaf n M (fun q => if 1 ≤ q ∧ q < n then 2 * fulr n d fu q else li q) v9)) := hq1
        have hm2_4 : ct_4 (ko + 5) = some (rl ty 8 v9) := hq2
        have hvl : ∀ q, 1 ≤ q → q < n → ful2 n M q - gaf n M (fun q => if 1 ≤ q ∧ q < n then 2 * fulr n d fu q else li q) v9 q = lft n M q := fun q h1 h2 => by unfold gaf lft; rw [if_pos h2, stv_cong hgq hv9]; congr 1; unfold af; rw [← hgq q h1 h2]
        refine lv_pop2_2 hx hb dX2_makeLift_50 rfl ?_
        refine lv_iconst (v := jI 1) hx hb dX2_makeLift_51 rfl ?_
        refine lv_istore_n (lv' := [(2, .int (jI 1)), (0, .ref (ad ko)), (1, .ref (ad yr))]) hx hb dX2_makeLift_52 rfl hl (by decide) rfl (fun ls hl => ?_)
        have hf1 : ct_4 (ko + 3) = some (rl ty 8 (fun q => if 1 ≤ q ∧ q < 1 then lft n M q else gaf n M (fun q => if 1 ≤ q ∧ q < n then 2 * fulr n d fu q else li q) v9 q)) := hm1_4.trans (congrArg (fun f => some (rl ty 8 f)) (funext fun q => (if_neg (by omega)).symm))
        have LQ : ∀ (k : Nat) (j : Nat) (hj : j ≤ n) (hj1 : 1 ≤ j), n - j < k → ∀ (ctv : rm_C) (H : Heap) (locs : List Loc), (ctv (ko + 2) = some (rl ty 8 (fulr n d fu))) → ∀ (_ : True), (ctv (ko + 3) = some (rl ty 8 (fun q => if 1 ≤ q ∧ q < j then lft n M q else gaf n M (fun q => if 1 ≤ q ∧ q < n then 2 * fulr n d fu q else li q) v9 q))) → ∀ (_ : True), (ctv (ko + 5) = some (rl ty 8 v9)) → ∀ (_ : True), (∀ q, q ≠ (ko + 2) → q ≠ (ko + 3) → q ≠ (ko + 5) → ctv q = ct q) → ∀ (_ : True), rm_W D ad ctv (rm_A ad ct s.heap.size) H → va_S (rm_A ad ct s.heap.size) s.heap H locs → ∀ ls : Array Slot, lv_has ls 3 [(2, .int (jI ((j : Nat) : Int))), (0, .ref (ad ko)), (1, .ref (ad yr))] → W p l e (headSpec wsX2_makeLift ({ frames := 2, cells := 0, slots := 0, locals := 54 })).room s m args below meth c H locs 0 0 (MQ below (rm_Qv D ad ct s.heap.size 0 (fun ct1 => ∃ fu1 li1 fa1, ct1 (ko + 2) = some (rl ty 8 fu1) ∧ ct1 (ko + 3) = some (rl ty 8 li1) ∧ ct1 (ko + 5) = some (rl ty 8 fa1) ∧ (∀ q, 1 ≤ q → q < n → li1 q = lft n M q) ∧ ∀ q, q ≠ ko + 2 → q ≠ ko + 3 → q ≠ ko + 5 → ct1 q = ct q)) args s 0 0 (rm_A ad ct s.heap.size)) (F0 m 53 ls []) := by
          intro k
          induction k with
          | zero => intro j hj hj1 hk; exact absurd hk (Nat.not_lt_zero _)
          | succ k ih_LQ =>
            intro j hj hj1 hk ctv_5 H locs hv0_5 _ hv1_5 _ hv2_5 _ hofv_5 _ hW hS ls hl
            refine lv_iload_n hx hb dX2_makeLift_53 rfl (lv_at hl 0 rfl) ?_
            refine lv_aload_n hx hb dX2_makeLift_54 rfl (lv_at hl 2 rfl) ?_
            refine rm_get (ci := 4) (v := .int (jI ((n : Nat) : Int))) (C := RX4) (T := TX4) (N := 4) hx hb hts (by decide +kernel) hown hK hW ((hofv_5 yr (by omega) (by omega) (by omega)).trans hY.1) rfl 0 (by decide) (hts (.fieldLink RX2 32 "GrainYard$Yard" "places" "I") (by decide +kernel)) (fun _ h9 => h9) rfl dX2_makeLift_55 ?_
            refine rm_icmp_ge (tgt := 90) hx hb ⟨by omega, by omega⟩ ⟨by omega, by omega⟩ dX2_makeLift_58 (by decide) (fun hc_6 => ?_) (fun hc_6 => ?_)
            · skip
              exact W.vret hx hb hr (fun t ht hw => ⟨⟨ctv_5, rfl, ⟨_, _, _, hv0_5, hv1_5, hv2_5, fun q h1 h2 => if_pos ⟨h1, by omega⟩, fun q h1 h2 h3 => hofv_5 q h1 h2 h3⟩, by show rm_W D ad _ _ t.heap; rw [ht]; exact hW, Or.inl rfl⟩, hS.F ht⟩) hS.2.2 dX2_makeLift_90
            · skip
              have hlj := hvl j (by omega) (by omega)
              have hfj : 2 * fulr n d fu j = ful2 n M j := by unfold fulr ful2; rw [if_pos ⟨by omega, by omega⟩, hdd j (by omega)]
              refine lv_aload_n hx hb dX2_makeLift_61 rfl (lv_at hl 1 rfl) ?_
              refine rm_get (ci := 2) (v := .ref (ad (ko + 3))) (C := RX2) (T := TX2) (N := 6) hx hb hts (by decide +kernel) hown hK hW ((hofv_5 ko (by omega) (by omega) (by omega)).trans hKi.1) rfl 2 (by decide) (hts (.fieldLink RX2 18 "GrainYard$Kinds" "lift" "[J") (by decide +kernel)) (fun _ h9 => h9) rfl dX2_makeLift_62 ?_
              refine lv_iload_n hx hb dX2_makeLift_65 rfl (lv_at hl 0 rfl) ?_
              refine rm_ldc2 (z := 2) hx hb hown (hts (.constantLong RX2 46 (2)) (by decide +kernel)) (by decide) dX2_makeLift_66 ?_
              refine lv_aload_n hx hb dX2_makeLift_69 rfl (lv_at hl 1 rfl) ?_
              refine rm_get (ci := 2) (v := .ref (ad (ko + 2))) (C := RX2) (T := TX2) (N := 6) hx hb hts (by decide +kernel) hown hK hW ((hofv_5 ko (by omega) (by omega) (by omega)).trans hKi.1) rfl 1 (by decide) (hts (.fieldLink RX2 15 "GrainYard$Kinds" "full" "[J") (by decide +kernel)) (fun _ h9 => h9) rfl dX2_makeLift_70 ?_
              refine lv_iload_n hx hb dX2_makeLift_73 rfl (lv_at hl 0 rfl) ?_
              refine rm_lald hx hb hK hW (f := (fulr n d fu)) hv0_5 j rfl (by omega) (by omega) dX2_makeLift_74 ?_
              refine rm_lmul hx hb dX2_makeLift_75 ?_
              refine lv_aload_n hx hb dX2_makeLift_76 rfl (lv_at hl 1 rfl) ?_
              refine rm_get (ci := 2) (v := .ref (ad (ko + 3))) (C := RX2) (T := TX2) (N := 6) hx hb hts (by decide +kernel) hown hK hW ((hofv_5 ko (by omega) (by omega) (by omega)).trans hKi.1) rfl 2 (by decide) (hts (.fieldLink RX2 18 "GrainYard$Kinds" "lift" "[J") (by decide +kernel)) (fun _ h9 => h9) rfl dX2_makeLift_77 ?_
              refine lv_iload_n hx hb dX2_makeLift_80 rfl (lv_at hl 0 rfl) ?_
              refine rm_lald hx hb hK hW (f := (fun q => if 1 ≤ q ∧ q < j then lft n M q else gaf n M (fun q => if 1 ≤ q ∧ q < n then 2 * fulr n d fu q else li q) v9 q)) hv1_5 j rfl (by omega) (by omega) dX2_makeLift_81 ?_
              refine rm_lsub hx hb dX2_makeLift_82 ?_
              refine rm_last hx hb hK hW hS (f := (fun q => if 1 ≤ q ∧ q < j then lft n M q else gaf n M (fun q => if 1 ≤ q ∧ q < n then 2 * fulr n d fu q else li q) v9 q)) hv1_5 j rfl (by omega) (by omega) dX2_makeLift_83 (fun H locs ct_7 hs_7 ho_7 hW hS hz_7 => ?_)
              have hof_7 : ∀ q, q ≠ (ko + 2) → q ≠ (ko + 3) → q ≠ (ko + 5) → ct_7 q = ct q := fun q h0_7 h1_7 h2_7 => (ho_7 q h1_7).trans (hofv_5 q h0_7 h1_7 h2_7)
              have hm0_7 : ct_7 (ko + 2) = some (rl ty 8 (fulr n d fu)) := (ho_7 (ko + 2) (by omega)).trans hv0_5
              have hm2_7 : ct_7 (ko + 5) = some (rl ty 8 v9) := (ho_7 (ko + 5) (by omega)).trans hv2_5
              have hk_8 : ct_7 (ko + 3) = some (rl ty 8 (fun q => if 1 ≤ q ∧ q < j + 1 then lft n M q else gaf n M (fun q => if 1 ≤ q ∧ q < n then 2 * fulr n d fu q else li q) v9 q)) := hs_7.trans (congrArg (fun f => some (rl ty 8 f)) (by funext q; unfold ub; by_cases e : q = j; (rw [if_pos e, e, if_neg (show ¬ (1 ≤ j ∧ j < j) by omega), if_pos (show 1 ≤ j ∧ j < j + 1 by omega), hfj, hlj]); (rw [if_neg e]; dsimp only; by_cases e2 : 1 ≤ q ∧ q < j; (rw [if_pos e2, if_pos ⟨by omega, by omega⟩]); (rw [if_neg e2, if_neg (by omega)]))))
              refine lv_iinc (v := jI (((j : Nat) : Int) + 1)) (lv' := [(2, .int (jI (((j : Nat) : Int) + 1))), (0, .ref (ad ko)), (1, .ref (ad yr))]) hx hb dX2_makeLift_84 hl (k := 0) rfl (jI_add _ _) (by decide) rfl (fun ls hl => ?_)
              refine lv_goto (tgt := 53) hx hb dX2_makeLift_87 (by decide) ?_
              exact ih_LQ (j + 1) (by omega) (by omega) (by omega) ct_7 _ _ hm0_7 trivial hk_8 trivial hm2_7 trivial hof_7 trivial hW hS ls (lv_sub hl [0, 1, 2] rfl)
        exact LQ (n + 1) (1) (by omega) (by omega) (by omega) ct_4 _ _ hm0_4 trivial hf1 trivial hm2_4 trivial hof_4 trivial hW hS ls (lv_sub hl [0, 1, 2] rfl)
      · skip
        refine lv_aload_n hx hb dX2_makeLift_16 rfl (lv_at hl 1 rfl) ?_
        refine rm_get (ci := 2) (v := .ref (ad (ko + 3))) (C := RX2) (T := TX2) (N := 6) hx hb hts (by decide +kernel) hown hK hW ((hofv_2 ko (by omega) (by omega) (by omega)).trans hKi.1) rfl 2 (by decide) (hts (.fieldLink RX2 18 "GrainYard$Kinds" "lift" "[J") (by decide +kernel)) (fun _ h9 => h9) rfl dX2_makeLift_17 ?_
        refine lv_iload_n hx hb dX2_makeLift_20 rfl (lv_at hl 0 rfl) ?_
        refine rm_ldc2 (z := 2) hx hb hown (hts (.constantLong RX2 46 (2)) (by decide +kernel)) (by decide) dX2_makeLift_21 ?_
        refine lv_aload_n hx hb dX2_makeLift_24 rfl (lv_at hl 1 rfl) ?_
        refine rm_get (ci := 2) (v := .ref (ad (ko + 2))) (C := RX2) (T := TX2) (N := 6) hx hb hts (by decide +kernel) hown hK hW ((hofv_2 ko (by omega) (by omega) (by omega)).trans hKi.1) rfl 1 (by decide) (hts (.fieldLink RX2 15 "GrainYard$Kinds" "full" "[J") (by decide +kernel)) (fun _ h9 => h9) rfl dX2_makeLift_25 ?_
        refine lv_iload_n hx hb dX2_makeLift_28 rfl (lv_at hl 0 rfl) ?_
        refine rm_lald hx hb hK hW (f := (fulr n d fu)) hv0_2 i rfl (by omega) (by omega) dX2_makeLift_29 ?_
        refine rm_lmul hx hb dX2_makeLift_30 ?_
        refine rm_last hx hb hK hW hS (f := (fun q => if 1 ≤ q ∧ q < i then 2 * fulr n d fu q else li q)) hv1_2 i rfl (by omega) (by omega) dX2_makeLift_31 (fun H locs ct_9 hs_9 ho_9 hW hS hz_9 => ?_)
        have hof_9 : ∀ q, q ≠ (ko + 2) → q ≠ (ko + 3) → q ≠ (ko + 5) → ct_9 q = ct q := fun q h0_9 h1_9 h2_9 => (ho_9 q h1_9).trans (hofv_2 q h0_9 h1_9 h2_9)
        have hm0_9 : ct_9 (ko + 2) = some (rl ty 8 (fulr n d fu)) := (ho_9 (ko + 2) (by omega)).trans hv0_2
        have hm2_9 : ct_9 (ko + 5) = some (rl ty 8 fa) := (ho_9 (ko + 5) (by omega)).trans hv2_2
        have hk_10 : ct_9 (ko + 3) = some (rl ty 8 (fun q => if 1 ≤ q ∧ q < i + 1 then 2 * fulr n d fu q else li q)) := hs_9.trans (congrArg (fun f => some (rl ty 8 f)) (by funext q; unfold ub; by_cases e : q = i; (subst e; rw [if_pos rfl, if_pos ⟨by omega, by omega⟩]); (rw [if_neg e]; dsimp only; by_cases e2 : 1 ≤ q ∧ q < i; (rw [if_pos e2, if_pos ⟨by omega, by omega⟩]); (rw [if_neg e2, if_neg (by omega)]))))
        refine lv_iinc (v := jI (((i : Nat) : Int) + 1)) (lv' := [(2, .int (jI (((i : Nat) : Int) + 1))), (0, .ref (ad ko)), (1, .ref (ad yr))]) hx hb dX2_makeLift_32 hl (k := 0) rfl (jI_add _ _) (by decide) rfl (fun ls hl => ?_)
        refine lv_goto (tgt := 8) hx hb dX2_makeLift_35 (by decide) ?_
        exact ih_LP (i + 1) (by omega) (by omega) (by omega) ct_9 _ _ hm0_9 trivial hk_10 trivial hm2_9 trivial hof_9 trivial hW hS ls (lv_sub hl [0, 1, 2] rfl)
  exact LP (n + 1) (1) (by omega) (by omega) (by omega) ct_1 _ _ hm0_1 trivial hf0 trivial hm2_1 trivial hof_1 trivial hW hS ls (lv_sub hl [0, 1, 2] rfl)
