set_option maxHeartbeats 4000000 in
set_option maxRecDepth 100000 in
/-- Arrays.fill of long -/
theorem c_fill_l (l : Launch) (D : va_G) (ty : Nat → ClassId) (ad : Nat → Nat) (ct : rm_C) (sz : Nat) (r n : Nat) (f : Nat → Int) (v : Int) (hn : n < 2147483648) (hr0 : ct r = some (rl ty n f)) : Met l yJ7_fill_d0a16 wsJ7_fill_d0a16 ({ frames := 0, cells := 0, slots := 0, locals := 0 }) (rm_P D ty ad ct sz [.ref (ad r), .long (jL v)]) (rm_Qv D ad ct sz 0 (fun ct1 => ct1 r = some (rl ty n (fun _ => v)) ∧ ∀ q, q ≠ r → ct1 q = ct q)) 0 0 (rm_A ad ct sz) := by
  refine Met.ofW (cc := cJ7_fill_d0a16) (maxL := 5) (ret := none) (by decide) rfl ?_
  intro p e s m args below meth c s₁ B hml hv
  obtain ⟨hargs, hsz, hW, hK, hNw⟩ := hv
  have hx := B.exec
  have hb := B.bytes
  have hr := B.returns
  have hts := atoms_spec (ws := wsJ7_fill_d0a16) B.pre
  have hown : s.vm.findClass RJ7 = some m.cls := findClass_of_methodNamed B.named
  have hlocks := B.notSynchronized
  subst hsz
  have hW := hW.own (sz := s.heap.size)
  have hA : ∀ q : Nat, s.heap.size ≤ q → rm_A ad ct s.heap.size q := fun q h => Or.inr h
  have hS : va_S (rm_A ad ct s.heap.size) s.heap s.heap [] := va_S.rf
  have hent : entryFrame m args 5 = entryFrame m ([.ref (ad r), .long (jL v)] : List Value).toArray 5 := by rw [hargs]
  have hl := lv_entry ([.ref (ad r), .long (jL v)]) (n := 5) (Nat.le_of_ble_eq_true rfl)
  rw [hent, lg_entry_eq]
  generalize (lg_sl ([.ref (ad r), .long (jL v)]) ++ List.replicate (5 - (lg_sl ([.ref (ad r), .long (jL v)])).length) Slot.unset).toArray = ls at hl ⊢
  have hl : lv_has ls 5 [(0, .ref (ad r)), (1, .long (jL v))] := hl
  refine lv_iconst (v := jI 0) hx hb dJ7_fill_d0a16_0 rfl ?_
  refine lv_istore_n (lv' := [(3, .int (jI 0)), (0, .ref (ad r)), (1, .long (jL v))]) hx hb dJ7_fill_d0a16_1 rfl hl (by decide) rfl (fun ls hl => ?_)
  refine lv_aload_n hx hb dJ7_fill_d0a16_2 rfl (lv_at hl 1 rfl) ?_
  refine rm_alen hx hb hK hW (k := 1) hr0 rfl rfl dJ7_fill_d0a16_3 ?_
  refine lv_istore (lv' := [(4, .int (jI ((n : Nat) : Int))), (3, .int (jI 0)), (0, .ref (ad r)), (1, .long (jL v))]) hx hb dJ7_fill_d0a16_4 hl (by decide) rfl (fun ls hl => ?_)
  have hk0 : ct r = some (rl ty n (fun q => if q < 0 then v else f q)) := by simpa using hr0
  have LP : ∀ (k : Nat) (i : Nat) (hi : i ≤ n), n - i < k → ∀ (ctv : rm_C) (H : Heap) (locs : List Loc), (ctv r = some (rl ty n (fun q => if q < i then v else f q))) → ∀ (_ : True), (∀ q, q ≠ r → ctv q = ct q) → ∀ (_ : True), rm_W D ad ctv (rm_A ad ct s.heap.size) H → va_S (rm_A ad ct s.heap.size) s.heap H locs → ∀ ls : Array Slot, lv_has ls 5 [(3, .int (jI ((i : Nat) : Int))), (0, .ref (ad r)), (1, .long (jL v)), (4, .int (jI ((n : Nat) : Int)))] → W p l e (headSpec wsJ7_fill_d0a16 ({ frames := 0, cells := 0, slots := 0, locals := 0 })).room s m args below meth c H locs 0 0 (MQ below (rm_Qv D ad ct s.heap.size 0 (fun ct1 => ct1 r = some (rl ty n (fun _ => v)) ∧ ∀ q, q ≠ r → ct1 q = ct q)) args s 0 0 (rm_A ad ct s.heap.size)) (F0 m 6 ls []) := by
    intro k
    induction k with
    | zero => intro i hi hk; exact absurd hk (Nat.not_lt_zero _)
    | succ k ih_LP =>
      intro i hi hk ctv_2 H locs hv0_2 _ hofv_2 _ hW hS ls hl
      refine lv_iload_n hx hb dJ7_fill_d0a16_6 rfl (lv_at hl 0 rfl) ?_
      refine lv_iload hx hb dJ7_fill_d0a16_7 (lv_at hl 3 rfl) ?_
      refine rm_icmp_ge (tgt := 22) hx hb ⟨by omega, by omega⟩ ⟨by omega, by omega⟩ dJ7_fill_d0a16_9 (by decide) (fun hc_3 => ?_) (fun hc_3 => ?_)
      · skip
        have hi : i = n := by omega
        subst hi
        obtain ⟨ct_4, hs_4, ho_4, hW⟩ := rm_canon_l hW (g := (fun _ => v)) hv0_2 (fun j hj => if_pos hj)
        have hof_4 : ∀ q, q ≠ r → ct_4 q = ct q := fun q h0_4 => (ho_4 q h0_4).trans (hofv_2 q h0_4)
        exact W.vret hx hb hr (fun t ht hw => ⟨⟨ct_4, rfl, ⟨hs_4, fun q hq => hof_4 q hq⟩, by show rm_W D ad _ _ t.heap; rw [ht]; exact hW, Or.inl rfl⟩, hS.F ht⟩) hS.2.2 dJ7_fill_d0a16_22
      · skip
        refine lv_aload_n hx hb dJ7_fill_d0a16_12 rfl (lv_at hl 1 rfl) ?_
        refine lv_iload_n hx hb dJ7_fill_d0a16_13 rfl (lv_at hl 0 rfl) ?_
        refine lv_lload_n hx hb dJ7_fill_d0a16_14 rfl (lv_at hl 2 rfl) ?_
        refine rm_last hx hb hK hW hS (f := (fun q => if q < i then v else f q)) hv0_2 i rfl (by omega) (by omega) dJ7_fill_d0a16_15 (fun H locs ct_5 hs_5 ho_5 hW hS hz_5 => ?_)
        have hof_5 : ∀ q, q ≠ r → ct_5 q = ct q := fun q h0_5 => (ho_5 q h0_5).trans (hofv_2 q h0_5)
        refine lv_iinc (v := jI (((i : Nat) : Int) + 1)) (lv' := [(3, .int (jI (((i : Nat) : Int) + 1))), (0, .ref (ad r)), (1, .long (jL v)), (4, .int (jI ((n : Nat) : Int)))]) hx hb dJ7_fill_d0a16_16 hl (k := 0) rfl (jI_add _ _) (by decide) rfl (fun ls hl => ?_)
        refine lv_goto (tgt := 6) hx hb dJ7_fill_d0a16_19 (by decide) ?_
        have hk_6 : ct_5 r = some (rl ty n (fun q => if q < i + 1 then v else f q)) := hs_5.trans (congrArg (fun f => some (rl ty n f)) (by funext q; unfold ub; by_cases e : q = i <;> by_cases e2 : q < i <;> by_cases e3 : q < i + 1 <;> simp [e, e2, e3] <;> omega))
        exact ih_LP (i + 1) (by omega) (by omega) ct_5 _ _ hk_6 trivial hof_5 trivial hW hS ls (lv_sub hl [0, 1, 2, 3] rfl)
  exact LP (n + 1) (0) (Nat.zero_le _) (by omega) ct _ _ hk0 trivial (fun _ _ => rfl) trivial hW hS ls (lv_sub hl [1, 2, 3, 0] rfl)
set_option maxHeartbeats 4000000 in
set_option maxRecDepth 100000 in
/-- Arrays.fill of int -/
theorem c_fill_i (l : Launch) (D : va_G) (ty : Nat → ClassId) (ad : Nat → Nat) (ct : rm_C) (sz : Nat) (r n : Nat) (f : Nat → Int) (v : Int) (hn : n < 2147483648) (hr0 : ct r = some (ri ty n f)) : Met l yJ7_fill_53178 wsJ7_fill_53178 ({ frames := 0, cells := 0, slots := 0, locals := 0 }) (rm_P D ty ad ct sz [.ref (ad r), .int (jI v)]) (rm_Qv D ad ct sz 0 (fun ct1 => ct1 r = some (ri ty n (fun _ => v)) ∧ ∀ q, q ≠ r → ct1 q = ct q)) 0 0 (rm_A ad ct sz) := by
  refine Met.ofW (cc := cJ7_fill_53178) (maxL := 4) (ret := none) (by decide) rfl ?_
  intro p e s m args below meth c s₁ B hml hv
  obtain ⟨hargs, hsz, hW, hK, hNw⟩ := hv
  have hx := B.exec
  have hb := B.bytes
  have hr := B.returns
  have hts := atoms_spec (ws := wsJ7_fill_53178) B.pre
  have hown : s.vm.findClass RJ7 = some m.cls := findClass_of_methodNamed B.named
  have hlocks := B.notSynchronized
  subst hsz
  have hW := hW.own (sz := s.heap.size)
  have hA : ∀ q : Nat, s.heap.size ≤ q → rm_A ad ct s.heap.size q := fun q h => Or.inr h
  have hS : va_S (rm_A ad ct s.heap.size) s.heap s.heap [] := va_S.rf
  have hent : entryFrame m args 4 = entryFrame m ([.ref (ad r), .int (jI v)] : List Value).toArray 4 := by rw [hargs]
  have hl := lv_entry ([.ref (ad r), .int (jI v)]) (n := 4) (Nat.le_of_ble_eq_true rfl)
  rw [hent, lg_entry_eq]
  generalize (lg_sl ([.ref (ad r), .int (jI v)]) ++ List.replicate (4 - (lg_sl ([.ref (ad r), .int (jI v)])).length) Slot.unset).toArray = ls at hl ⊢
  have hl : lv_has ls 4 [(0, .ref (ad r)), (1, .int (jI v))] := hl
  refine lv_iconst (v := jI 0) hx hb dJ7_fill_53178_0 rfl ?_
  refine lv_istore_n (lv' := [(2, .int (jI 0)), (0, .ref (ad r)), (1, .int (jI v))]) hx hb dJ7_fill_53178_1 rfl hl (by decide) rfl (fun ls hl => ?_)
  refine lv_aload_n hx hb dJ7_fill_53178_2 rfl (lv_at hl 1 rfl) ?_
  refine rm_alen hx hb hK hW (k := 0) hr0 rfl rfl dJ7_fill_53178_3 ?_
  refine lv_istore_n (lv' := [(3, .int (jI ((n : Nat) : Int))), (2, .int (jI 0)), (0, .ref (ad r)), (1, .int (jI v))]) hx hb dJ7_fill_53178_4 rfl hl (by decide) rfl (fun ls hl => ?_)
  have hk0 : ct r = some (ri ty n (fun q => if q < 0 then v else f q)) := by simpa using hr0
  have LP : ∀ (k : Nat) (i : Nat) (hi : i ≤ n), n - i < k → ∀ (ctv : rm_C) (H : Heap) (locs : List Loc), (ctv r = some (ri ty n (fun q => if q < i then v else f q))) → ∀ (_ : True), (∀ q, q ≠ r → ctv q = ct q) → ∀ (_ : True), rm_W D ad ctv (rm_A ad ct s.heap.size) H → va_S (rm_A ad ct s.heap.size) s.heap H locs → ∀ ls : Array Slot, lv_has ls 4 [(2, .int (jI ((i : Nat) : Int))), (0, .ref (ad r)), (1, .int (jI v)), (3, .int (jI ((n : Nat) : Int)))] → W p l e (headSpec wsJ7_fill_53178 ({ frames := 0, cells := 0, slots := 0, locals := 0 })).room s m args below meth c H locs 0 0 (MQ below (rm_Qv D ad ct s.heap.size 0 (fun ct1 => ct1 r = some (ri ty n (fun _ => v)) ∧ ∀ q, q ≠ r → ct1 q = ct q)) args s 0 0 (rm_A ad ct s.heap.size)) (F0 m 5 ls []) := by
    intro k
    induction k with
    | zero => intro i hi hk; exact absurd hk (Nat.not_lt_zero _)
    | succ k ih_LP =>
      intro i hi hk ctv_2 H locs hv0_2 _ hofv_2 _ hW hS ls hl
      refine lv_iload_n hx hb dJ7_fill_53178_5 rfl (lv_at hl 0 rfl) ?_
      refine lv_iload_n hx hb dJ7_fill_53178_6 rfl (lv_at hl 3 rfl) ?_
      refine rm_icmp_ge (tgt := 20) hx hb ⟨by omega, by omega⟩ ⟨by omega, by omega⟩ dJ7_fill_53178_7 (by decide) (fun hc_3 => ?_) (fun hc_3 => ?_)
      · skip
        have hi : i = n := by omega
        subst hi
        obtain ⟨ct_4, hs_4, ho_4, hW⟩ := rm_canon_i hW (g := (fun _ => v)) hv0_2 (fun j hj => if_pos hj)
        have hof_4 : ∀ q, q ≠ r → ct_4 q = ct q := fun q h0_4 => (ho_4 q h0_4).trans (hofv_2 q h0_4)
        exact W.vret hx hb hr (fun t ht hw => ⟨⟨ct_4, rfl, ⟨hs_4, fun q hq => hof_4 q hq⟩, by show rm_W D ad _ _ t.heap; rw [ht]; exact hW, Or.inl rfl⟩, hS.F ht⟩) hS.2.2 dJ7_fill_53178_20
      · skip
        refine lv_aload_n hx hb dJ7_fill_53178_10 rfl (lv_at hl 1 rfl) ?_
        refine lv_iload_n hx hb dJ7_fill_53178_11 rfl (lv_at hl 0 rfl) ?_
        refine lv_iload_n hx hb dJ7_fill_53178_12 rfl (lv_at hl 2 rfl) ?_
        refine rm_iast hx hb hK hW hS (f := (fun q => if q < i then v else f q)) hv0_2 i rfl (by omega) (by omega) dJ7_fill_53178_13 (fun H locs ct_5 hs_5 ho_5 hW hS hz_5 => ?_)
        have hof_5 : ∀ q, q ≠ r → ct_5 q = ct q := fun q h0_5 => (ho_5 q h0_5).trans (hofv_2 q h0_5)
        refine lv_iinc (v := jI (((i : Nat) : Int) + 1)) (lv' := [(2, .int (jI (((i : Nat) : Int) + 1))), (0, .ref (ad r)), (1, .int (jI v)), (3, .int (jI ((n : Nat) : Int)))]) hx hb dJ7_fill_53178_14 hl (k := 0) rfl (jI_add _ _) (by decide) rfl (fun ls hl => ?_)
        refine lv_goto (tgt := 5) hx hb dJ7_fill_53178_17 (by decide) ?_
        have hk_6 : ct_5 r = some (ri ty n (fun q => if q < i + 1 then v else f q)) := hs_5.trans (congrArg (fun f => some (ri ty n f)) (by funext q; unfold ub; by_cases e : q = i <;> by_cases e2 : q < i <;> by_cases e3 : q < i + 1 <;> simp [e, e2, e3] <;> omega))
        exact ih_LP (i + 1) (by omega) (by omega) ct_5 _ _ hk_6 trivial hof_5 trivial hW hS ls (lv_sub hl [0, 1, 2, 3] rfl)
  exact LP (n + 1) (0) (Nat.zero_le _) (by omega) ct _ _ hk0 trivial (fun _ _ => rfl) trivial hW hS ls (lv_sub hl [1, 2, 3, 0] rfl)
set_option maxHeartbeats 4000000 in
set_option maxRecDepth 100000 in
/-- Yard.isCalm -/
theorem c_X4_isCalm (l : Launch) (D : va_G) (ty : Nat → ClassId) (ad : Nat → Nat) (ct : rm_C) (sz : Nat) (yr n : Nat) (M : Nat → Nat → Int) (d : Nat → Int) (u : Int) (gr : Nat) (g : Nat → Int) (hn : n ≤ 8) (hn1 : 1 ≤ n) (hY : YardAt ty ad ct yr n M d u) (hd : ∀ i, i < 8 → 0 ≤ d i ∧ d i ≤ 21) (hg : ct gr = some (rl ty 8 g)) (hg64 : ∀ q, 1 ≤ q → q < n → r64 (g q)) : Met l yX4_isCalm wsX4_isCalm ({ frames := 0, cells := 0, slots := 0, locals := 0 }) (rm_P D ty ad ct sz [.ref (ad yr), .ref (ad gr)]) (rm_Qi D ad ct sz (fun z ct1 => ((z = 1 ∧ ∀ q, 1 ≤ q → q < n → g q < d q) ∨ (z = 0 ∧ ∃ q, 1 ≤ q ∧ q < n ∧ d q ≤ g q)) ∧ ct1 = ct)) 0 0 (rm_A ad ct sz) := by
  refine Met.ofW (cc := cX4_isCalm) (maxL := 3) (ret := (some .boolean)) (by decide) rfl ?_
  intro p e s m args below meth c s₁ B hml hv
  obtain ⟨hargs, hsz, hW, hK, hNw⟩ := hv
  have hx := B.exec
  have hb := B.bytes
  have hr := B.returns
  have hts := atoms_spec (ws := wsX4_isCalm) B.pre
  have hown : s.vm.findClass RX4 = some m.cls := findClass_of_methodNamed B.named
  have hlocks := B.notSynchronized
  subst hsz
  have hW := hW.own (sz := s.heap.size)
  have hA : ∀ q : Nat, s.heap.size ≤ q → rm_A ad ct s.heap.size q := fun q h => Or.inr h
  have hS : va_S (rm_A ad ct s.heap.size) s.heap s.heap [] := va_S.rf
  have hent : entryFrame m args 3 = entryFrame m ([.ref (ad yr), .ref (ad gr)] : List Value).toArray 3 := by rw [hargs]
  have hl := lv_entry ([.ref (ad yr), .ref (ad gr)]) (n := 3) (Nat.le_of_ble_eq_true rfl)
  rw [hent, lg_entry_eq]
  generalize (lg_sl ([.ref (ad yr), .ref (ad gr)]) ++ List.replicate (3 - (lg_sl ([.ref (ad yr), .ref (ad gr)])).length) Slot.unset).toArray = ls at hl ⊢
  have hl : lv_has ls 3 [(0, .ref (ad yr)), (1, .ref (ad gr))] := hl
  refine lv_iconst (v := jI 1) hx hb dX4_isCalm_0 rfl ?_
  refine lv_istore_n (lv' := [(2, .int (jI 1)), (0, .ref (ad yr)), (1, .ref (ad gr))]) hx hb dX4_isCalm_1 rfl hl (by decide) rfl (fun ls hl => ?_)
  have LP : ∀ (k : Nat) (i : Nat) (hi : i ≤ n) (hi1 : 1 ≤ i) (hs : ∀ q, 1 ≤ q → q < i → g q < d q), n - i < k → ∀ (H : Heap) (locs : List Loc), rm_W D ad ct (rm_A ad ct s.heap.size) H → va_S (rm_A ad ct s.heap.size) s.heap H locs → ∀ ls : Array Slot, lv_has ls 3 [(2, .int (jI ((i : Nat) : Int))), (0, .ref (ad yr)), (1, .ref (ad gr))] → W p l e (headSpec wsX4_isCalm ({ frames := 0, cells := 0, slots := 0, locals := 0 })).room s m args below meth c H locs 0 0 (MQ below (rm_Qi D ad ct s.heap.size (fun z ct1 => ((z = 1 ∧ ∀ q, 1 ≤ q → q < n → g q < d q) ∨ (z = 0 ∧ ∃ q, 1 ≤ q ∧ q < n ∧ d q ≤ g q)) ∧ ct1 = ct)) args s 0 0 (rm_A ad ct s.heap.size)) (F0 m 2 ls []) := by
    intro k
    induction k with
    | zero => intro i hi hi1 hs hk; exact absurd hk (Nat.not_lt_zero _)
    | succ k ih_LP =>
      intro i hi hi1 hs hk  H locs   hW hS ls hl
      refine lv_iload_n hx hb dX4_isCalm_2 rfl (lv_at hl 0 rfl) ?_
      refine lv_aload_n hx hb dX4_isCalm_3 rfl (lv_at hl 1 rfl) ?_
      refine rm_get (ci := 4) (v := .int (jI ((n : Nat) : Int))) (C := RX4) (T := TX4) (N := 4) hx hb hts (by decide +kernel) hown hK hW hY.1 rfl 0 (by decide) (hts (.fieldLink RX4 9 "GrainYard$Yard" "places" "I") (by decide +kernel)) (fun _ h9 => h9) rfl dX4_isCalm_4 ?_
      refine rm_icmp_ge (tgt := 32) hx hb ⟨by omega, by omega⟩ ⟨by omega, by omega⟩ dX4_isCalm_7 (by decide) (fun hc_2 => ?_) (fun hc_2 => ?_)
      · skip
        have hi : i = n := by omega
        subst hi
        refine lv_iconst (v := jI 1) hx hb dX4_isCalm_32 rfl ?_
        exact W.zret hx hb hr (by decide) (fun t ht hw => ⟨⟨_, (1, ct), rfl, ⟨rfl, ⟨Or.inl ⟨rfl, hs⟩, rfl⟩⟩, by show rm_W D ad _ _ t.heap; rw [ht]; exact hW⟩, hS.F ht⟩) hS.2.2 dX4_isCalm_33
      · skip
        have hdp := hd i (by omega)
        refine lv_aload_n hx hb dX4_isCalm_10 rfl (lv_at hl 2 rfl) ?_
        refine lv_iload_n hx hb dX4_isCalm_11 rfl (lv_at hl 0 rfl) ?_
        refine rm_lald hx hb hK hW (f := g) hg i rfl (by omega) (by omega) dX4_isCalm_12 ?_
        refine lv_aload_n hx hb dX4_isCalm_13 rfl (lv_at hl 1 rfl) ?_
        refine rm_get (ci := 4) (v := .ref (ad (yr + 10))) (C := RX4) (T := TX4) (N := 4) hx hb hts (by decide +kernel) hown hK hW hY.1 rfl 2 (by decide) (hts (.fieldLink RX4 20 "GrainYard$Yard" "degrees" "[I") (by decide +kernel)) (fun _ h9 => h9) rfl dX4_isCalm_14 ?_
        refine lv_iload_n hx hb dX4_isCalm_17 rfl (lv_at hl 0 rfl) ?_
        refine rm_iald hx hb hK hW (f := d) hY.2.2.2 i rfl (by omega) (by omega) dX4_isCalm_18 ?_
        refine rm_i2l hx hb dX4_isCalm_19 ⟨by omega, by omega⟩ ?_
        refine rm_lcmp hx hb (hg64 i (by omega) (by omega)) ⟨by omega, by omega⟩ dX4_isCalm_20 ?_
        refine rm_if_lt (tgt := 26) hx hb (lcv_rng _ _) dX4_isCalm_21 (by decide) (fun hc_3 => ?_) (fun hc_3 => ?_)
        · skip
          have hc_3 := lcv_lt.mp hc_3
          refine lv_iinc (v := jI (((i : Nat) : Int) + 1)) (lv' := [(2, .int (jI (((i : Nat) : Int) + 1))), (0, .ref (ad yr)), (1, .ref (ad gr))]) hx hb dX4_isCalm_26 hl (k := 0) rfl (jI_add _ _) (by decide) rfl (fun ls hl => ?_)
          refine lv_goto (tgt := 2) hx hb dX4_isCalm_29 (by decide) ?_
          exact ih_LP (i + 1) (by omega) (by omega) (fun q h1 h2 => by rcases Nat.lt_or_ge q i with e | e; exact hs q h1 e; rw [show q = i by omega]; exact hc_3) (by omega)  _ _ hW hS ls (lv_sub hl [0, 1, 2] rfl)
        · skip
          have hc_3 := lcv_ge.mp hc_3
          refine lv_iconst (v := jI 0) hx hb dX4_isCalm_24 rfl ?_
          exact W.zret hx hb hr (by decide) (fun t ht hw => ⟨⟨_, (0, ct), rfl, ⟨rfl, ⟨Or.inr ⟨rfl, i, by omega, by omega, hc_3⟩, rfl⟩⟩, by show rm_W D ad _ _ t.heap; rw [ht]; exact hW⟩, hS.F ht⟩) hS.2.2 dX4_isCalm_25
  exact LP (n + 1) (1) (by omega) (by omega) (fun q h1 h2 => by omega) (by omega)  _ _ hW hS ls (lv_sub hl [0, 1, 2] rfl)
set_option maxHeartbeats 4000000 in
set_option maxRecDepth 100000 in
/-- Yard.touches -/
theorem c_X4_touches (l : Launch) (D : va_G) (ty : Nat → ClassId) (ad : Nat → Nat) (ct : rm_C) (sz : Nat) (yr n : Nat) (M : Nat → Nat → Int) (d : Nat → Int) (u : Int) (place r : Nat) (hn : n ≤ 8) (hp : place < n) (hr9 : r < 256) (hY : YardAt ty ad ct yr n M d u) (hM : ∀ i j, 0 ≤ M i j ∧ M i j ≤ 3) : Met l yX4_touches wsX4_touches ({ frames := 0, cells := 0, slots := 0, locals := 0 }) (rm_P D ty ad ct sz [.ref (ad yr), .int (jI ((place : Nat) : Int)), .int (jI ((r : Nat) : Int))]) (rm_Qi D ad ct sz (fun z ct1 => z = (if tch M place r n then 1 else 0) ∧ ct1 = ct)) 0 0 (rm_A ad ct sz) := by
  refine Met.ofW (cc := cX4_touches) (maxL := 4) (ret := (some .boolean)) (by decide) rfl ?_
  intro p e s m args below meth c s₁ B hml hv
  obtain ⟨hargs, hsz, hW, hK, hNw⟩ := hv
  have hx := B.exec
  have hb := B.bytes
  have hr := B.returns
  have hts := atoms_spec (ws := wsX4_touches) B.pre
  have hown : s.vm.findClass RX4 = some m.cls := findClass_of_methodNamed B.named
  have hlocks := B.notSynchronized
  subst hsz
  have hW := hW.own (sz := s.heap.size)
  have hA : ∀ q : Nat, s.heap.size ≤ q → rm_A ad ct s.heap.size q := fun q h => Or.inr h
  have hS : va_S (rm_A ad ct s.heap.size) s.heap s.heap [] := va_S.rf
  have hent : entryFrame m args 4 = entryFrame m ([.ref (ad yr), .int (jI ((place : Nat) : Int)), .int (jI ((r : Nat) : Int))] : List Value).toArray 4 := by rw [hargs]
  have hl := lv_entry ([.ref (ad yr), .int (jI ((place : Nat) : Int)), .int (jI ((r : Nat) : Int))]) (n := 4) (Nat.le_of_ble_eq_true rfl)
  rw [hent, lg_entry_eq]
  generalize (lg_sl ([.ref (ad yr), .int (jI ((place : Nat) : Int)), .int (jI ((r : Nat) : Int))]) ++ List.replicate (4 - (lg_sl ([.ref (ad yr), .int (jI ((place : Nat) : Int)), .int (jI ((r : Nat) : Int))])).length) Slot.unset).toArray = ls at hl ⊢
  have hl : lv_has ls 4 [(0, .ref (ad yr)), (1, .int (jI ((place : Nat) : Int))), (2, .int (jI ((r : Nat) : Int)))] := hl
  refine lv_iconst (v := jI 0) hx hb dX4_touches_0 rfl ?_
  refine lv_istore_n (lv' := [(3, .int (jI 0)), (0, .ref (ad yr)), (1, .int (jI ((place : Nat) : Int))), (2, .int (jI ((r : Nat) : Int)))]) hx hb dX4_touches_1 rfl hl (by decide) rfl (fun ls hl => ?_)
  have LP : ∀ (k : Nat) (i : Nat) (hi : i ≤ n) (hf : tch M place r i = false), n - i < k → ∀ (H : Heap) (locs : List Loc), rm_W D ad ct (rm_A ad ct s.heap.size) H → va_S (rm_A ad ct s.heap.size) s.heap H locs → ∀ ls : Array Slot, lv_has ls 4 [(3, .int (jI ((i : Nat) : Int))), (0, .ref (ad yr)), (1, .int (jI ((place : Nat) : Int))), (2, .int (jI ((r : Nat) : Int)))] → W p l e (headSpec wsX4_touches ({ frames := 0, cells := 0, slots := 0, locals := 0 })).room s m args below meth c H locs 0 0 (MQ below (rm_Qi D ad ct s.heap.size (fun z ct1 => z = (if tch M place r n then 1 else 0) ∧ ct1 = ct)) args s 0 0 (rm_A ad ct s.heap.size)) (F0 m 2 ls []) := by
    intro k
    induction k with
    | zero => intro i hi hf hk; exact absurd hk (Nat.not_lt_zero _)
    | succ k ih_LP =>
      intro i hi hf hk  H locs   hW hS ls hl
      refine lv_iload_n hx hb dX4_touches_2 rfl (lv_at hl 0 rfl) ?_
      refine lv_aload_n hx hb dX4_touches_3 rfl (lv_at hl 1 rfl) ?_
      refine rm_get (ci := 4) (v := .int (jI ((n : Nat) : Int))) (C := RX4) (T := TX4) (N := 4) hx hb hts (by decide +kernel) hown hK hW hY.1 rfl 0 (by decide) (hts (.fieldLink RX4 9 "GrainYard$Yard" "places" "I") (by decide +kernel)) (fun _ h9 => h9) rfl dX4_touches_4 ?_
      refine rm_icmp_ge (tgt := 38) hx hb ⟨by omega, by omega⟩ ⟨by omega, by omega⟩ dX4_touches_7 (by decide) (fun hc_2 => ?_) (fun hc_2 => ?_)
      · skip
        have hi : i = n := by omega
        subst hi
        refine lv_iconst (v := jI 0) hx hb dX4_touches_38 rfl ?_
        exact W.zret hx hb hr (by decide) (fun t ht hw => ⟨⟨_, (0, ct), rfl, ⟨rfl, ⟨by rw [if_neg (by rw [hf]; decide)], rfl⟩⟩, by show rm_W D ad _ _ t.heap; rw [ht]; exact hW⟩, hS.F ht⟩) hS.2.2 dX4_touches_39
      · skip
        have hMp := hM place i
        refine lv_iload_n hx hb dX4_touches_10 rfl (lv_at hl 3 rfl) ?_
        refine lv_iload_n hx hb dX4_touches_11 rfl (lv_at hl 0 rfl) ?_
        have hdiv : r / 2 ^ i ≤ r := Nat.div_le_self _ _
        refine rm_ishr (z := (((r / 2 ^ i) : Nat) : Int)) hx hb dX4_touches_12 (bt_shr (by omega) (by omega)) ?_
        refine lv_iconst (v := jI 1) hx hb dX4_touches_13 rfl ?_
        refine rm_iand (z := ((((r / 2 ^ i) % 2 ^ 1) : Nat) : Int)) hx hb dX4_touches_14 (bt_mask (by omega) 1 (by decide)) ?_
        refine lv_iconst (v := jI 1) hx hb dX4_touches_15 rfl ?_
        refine rm_icmp_ne (tgt := 32) hx hb ⟨by omega, by omega⟩ ⟨by omega, by omega⟩ dX4_touches_16 (by decide) (fun hc_3 => ?_) (fun hc_3 => ?_)
        · skip
          refine lv_iinc (v := jI (((i : Nat) : Int) + 1)) (lv' := [(3, .int (jI (((i : Nat) : Int) + 1))), (0, .ref (ad yr)), (1, .int (jI ((place : Nat) : Int))), (2, .int (jI ((r : Nat) : Int)))]) hx hb dX4_touches_32 hl (k := 0) rfl (jI_add _ _) (by decide) rfl (fun ls hl => ?_)
          refine lv_goto (tgt := 2) hx hb dX4_touches_35 (by decide) ?_
          exact ih_LP (i + 1) (by omega) (by show (tch M place r i || (r.testBit i && decide (0 < M place i))) = false; rw [hf, Nat.testBit_eq_decide_div_mod_eq, decide_eq_false (by omega)]; rfl) (by omega)  _ _ hW hS ls (lv_sub hl [0, 1, 2, 3] rfl)
        · skip
          refine lv_aload_n hx hb dX4_touches_19 rfl (lv_at hl 1 rfl) ?_
          refine rm_get (ci := 4) (v := .ref (ad (yr + 1))) (C := RX4) (T := TX4) (N := 4) hx hb hts (by decide +kernel) hown hK hW hY.1 rfl 1 (by decide) (hts (.fieldLink RX4 17 "GrainYard$Yard" "paths" "[[I") (by decide +kernel)) (fun _ h9 => h9) rfl dX4_touches_20 ?_
          refine lv_iload_n hx hb dX4_touches_23 rfl (lv_at hl 2 rfl) ?_
          refine rm_aald hx hb hK hW (f := (fun i => if i < 8 then some (ad (yr + 1 + 1 + i)) else none)) hY.2.1 rfl rfl place rfl (by omega) (by omega) dX4_touches_24 (congrArg va_rf (if_pos (by omega))) ?_
          refine lv_iload_n hx hb dX4_touches_25 rfl (lv_at hl 0 rfl) ?_
          refine rm_iald hx hb hK hW (f := (M place)) (hY.2.2.1 place (by omega)) i rfl (by omega) (by omega) dX4_touches_26 ?_
          refine rm_if_le (tgt := 32) hx hb ⟨by omega, by omega⟩ dX4_touches_27 (by decide) (fun hc_4 => ?_) (fun hc_4 => ?_)
          · skip
            refine lv_iinc (v := jI (((i : Nat) : Int) + 1)) (lv' := [(3, .int (jI (((i : Nat) : Int) + 1))), (0, .ref (ad yr)), (1, .int (jI ((place : Nat) : Int))), (2, .int (jI ((r : Nat) : Int)))]) hx hb dX4_touches_32 hl (k := 0) rfl (jI_add _ _) (by decide) rfl (fun ls hl => ?_)
            refine lv_goto (tgt := 2) hx hb dX4_touches_35 (by decide) ?_
            exact ih_LP (i + 1) (by omega) (by show (tch M place r i || (r.testBit i && decide (0 < M place i))) = false; rw [hf, decide_eq_false (show ¬ 0 < M place i by omega), Bool.and_false]; rfl) (by omega)  _ _ hW hS ls (lv_sub hl [0, 1, 2, 3] rfl)
          · skip
            refine lv_iconst (v := jI 1) hx hb dX4_touches_30 rfl ?_
            have htt : tch M place r (i + 1) = true := by show (tch M place r i || (r.testBit i && decide (0 < M place i))) = true; rw [Nat.testBit_eq_decide_div_mod_eq, decide_eq_true (by omega), decide_eq_true (show 0 < M place i by omega)]; simp
            exact W.zret hx hb hr (by decide) (fun t ht hw => ⟨⟨_, (1, ct), rfl, ⟨rfl, ⟨by rw [if_pos (tch_up htt (by omega))], rfl⟩⟩, by show rm_W D ad _ _ t.heap; rw [ht]; exact hW⟩, hS.F ht⟩) hS.2.2 dX4_touches_31
  exact LP (n + 1) (0) (by omega) (rfl) (by omega)  _ _ hW hS ls (lv_sub hl [0, 1, 2, 3] rfl)
set_option maxHeartbeats 4000000 in
set_option maxRecDepth 100000 in
/-- Yard.isJoined -/
theorem c_X4_isJoined (l : Launch) (D : va_G) (ty : Nat → ClassId) (ad : Nat → Nat) (ct : rm_C) (sz : Nat) (yr n : Nat) (M : Nat → Nat → Int) (d : Nat → Int) (u : Int) (hn : n ≤ 8) (hn1 : 2 ≤ n) (hY : YardAt ty ad ct yr n M d u) (hM : ∀ i j, 0 ≤ M i j ∧ M i j ≤ 3) : Met l yX4_isJoined wsX4_isJoined ({ frames := 1, cells := 0, slots := 0, locals := 23 }) (rm_P D ty ad ct sz [.ref (ad yr)]) (rm_Qi D ad ct sz (fun z ct1 => z = (if jit n M (n - 1) = 2 ^ n - 1 then 1 else 0) ∧ ct1 = ct)) 0 0 (rm_A ad ct sz) := by
  refine Met.ofW (cc := cX4_isJoined) (maxL := 4) (ret := (some .boolean)) (by decide) rfl ?_
  intro p e s m args below meth c s₁ B hml hv
  obtain ⟨hargs, hsz, hW, hK, hNw⟩ := hv
  have hx := B.exec
  have hb := B.bytes
  have hr := B.returns
  have hts := atoms_spec (ws := wsX4_isJoined) B.pre
  have hown : s.vm.findClass RX4 = some m.cls := findClass_of_methodNamed B.named
  have hlocks := B.notSynchronized
  subst hsz
  have hW := hW.own (sz := s.heap.size)
  have hA : ∀ q : Nat, s.heap.size ≤ q → rm_A ad ct s.heap.size q := fun q h => Or.inr h
  have hS : va_S (rm_A ad ct s.heap.size) s.heap s.heap [] := va_S.rf
  have hent : entryFrame m args 4 = entryFrame m ([.ref (ad yr)] : List Value).toArray 4 := by rw [hargs]
  have hl := lv_entry ([.ref (ad yr)]) (n := 4) (Nat.le_of_ble_eq_true rfl)
  rw [hent, lg_entry_eq]
  generalize (lg_sl ([.ref (ad yr)]) ++ List.replicate (4 - (lg_sl ([.ref (ad yr)])).length) Slot.unset).toArray = ls at hl ⊢
  have hl : lv_has ls 4 [(0, .ref (ad yr))] := hl
  have hp8 := bt_pow8 hn
  refine lv_iconst (v := jI 1) hx hb dX4_isJoined_0 rfl ?_
  refine lv_istore_n (lv' := [(1, .int (jI 1)), (0, .ref (ad yr))]) hx hb dX4_isJoined_1 rfl hl (by decide) rfl (fun ls hl => ?_)
  refine lv_iconst (v := jI 1) hx hb dX4_isJoined_2 rfl ?_
  refine lv_istore_n (lv' := [(2, .int (jI 1)), (1, .int (jI 1)), (0, .ref (ad yr))]) hx hb dX4_isJoined_3 rfl hl (by decide) rfl (fun ls hl => ?_)
  have OUT : ∀ (k : Nat) (k0 : Nat) (hk0 : k0 ≤ n - 1), n - k0 < k → ∀ (H : Heap) (locs : List Loc), rm_W D ad ct (rm_A ad ct s.heap.size) H → va_S (rm_A ad ct s.heap.size) s.heap H locs → ∀ ls : Array Slot, lv_has ls 4 [(1, .int (jI (((jit n M k0) : Nat) : Int))), (2, .int (jI (((k0 + 1) : Nat) : Int))), (0, .ref (ad yr))] → W p l e (headSpec wsX4_isJoined ({ frames := 1, cells := 0, slots := 0, locals := 23 })).room s m args below meth c H locs 0 0 (MQ below (rm_Qi D ad ct s.heap.size (fun z ct1 => z = (if jit n M (n - 1) = 2 ^ n - 1 then 1 else 0) ∧ ct1 = ct)) args s 0 0 (rm_A ad ct s.heap.size)) (F0 m 4 ls []) := by
    intro k
    induction k with
    | zero => intro k0 hk0 hk; exact absurd hk (Nat.not_lt_zero _)
    | succ k ih_OUT =>
      intro k0 hk0 hk  H locs   hW hS ls hl
      have hrl := jit_lt (M := M) (show 1 ≤ n by omega) k0
      refine lv_iload_n hx hb dX4_isJoined_4 rfl (lv_at hl 1 rfl) ?_
      refine lv_aload_n hx hb dX4_isJoined_5 rfl (lv_at hl 2 rfl) ?_
      refine rm_get (ci := 4) (v := .int (jI ((n : Nat) : Int))) (C := RX4) (T := TX4) (N := 4) hx hb hts (by decide +kernel) hown hK hW hY.1 rfl 0 (by decide) (hts (.fieldLink RX4 9 "GrainYard$Yard" "places" "I") (by decide +kernel)) (fun _ h9 => h9) rfl dX4_isJoined_6 ?_
      refine rm_icmp_ge (tgt := 49) hx hb ⟨by omega, by omega⟩ ⟨by omega, by omega⟩ dX4_isJoined_9 (by decide) (fun hc_2 => ?_) (fun hc_2 => ?_)
      · skip
        have hi : k0 = n - 1 := by omega
        subst hi
        refine lv_iload_n hx hb dX4_isJoined_49 rfl (lv_at hl 0 rfl) ?_
        refine lv_iconst (v := jI 1) hx hb dX4_isJoined_50 rfl ?_
        refine lv_aload_n hx hb dX4_isJoined_51 rfl (lv_at hl 2 rfl) ?_
        refine rm_get (ci := 4) (v := .int (jI ((n : Nat) : Int))) (C := RX4) (T := TX4) (N := 4) hx hb hts (by decide +kernel) hown hK hW hY.1 rfl 0 (by decide) (hts (.fieldLink RX4 9 "GrainYard$Yard" "places" "I") (by decide +kernel)) (fun _ h9 => h9) rfl dX4_isJoined_52 ?_
        refine rm_ishl (z := (((1 * 2 ^ n) : Nat) : Int)) hx hb dX4_isJoined_55 (bt_shl (by omega) (by first | omega | (rw [Nat.one_mul]; omega))) ?_
        refine lv_iconst (v := jI 1) hx hb dX4_isJoined_56 rfl ?_
        refine rm_isub hx hb dX4_isJoined_57 ?_
        refine rm_icmp_ne (tgt := 65) hx hb ⟨by omega, by omega⟩ ⟨by omega, by omega⟩ dX4_isJoined_58 (by decide) (fun hc_3 => ?_) (fun hc_3 => ?_)
        · skip
          refine lv_iconst (v := jI 0) hx hb dX4_isJoined_65 rfl ?_
          exact W.zret hx hb hr (by decide) (fun t ht hw => ⟨⟨_, (0, ct), rfl, ⟨rfl, ⟨by rw [if_neg (by omega)], rfl⟩⟩, by show rm_W D ad _ _ t.heap; rw [ht]; exact hW⟩, hS.F ht⟩) hS.2.2 dX4_isJoined_66
        · skip
          refine lv_iconst (v := jI 1) hx hb dX4_isJoined_61 rfl ?_
          refine lv_goto (tgt := 66) hx hb dX4_isJoined_62 (by decide) ?_
          exact W.zret hx hb hr (by decide) (fun t ht hw => ⟨⟨_, (1, ct), rfl, ⟨rfl, ⟨by rw [if_pos (by omega)], rfl⟩⟩, by show rm_W D ad _ _ t.heap; rw [ht]; exact hW⟩, hS.F ht⟩) hS.2.2 dX4_isJoined_66
      · skip
        refine lv_iconst (v := jI 1) hx hb dX4_isJoined_12 rfl ?_
        refine lv_istore_n (lv' := [(3, .int (jI 1)), (1, .int (jI (((jit n M k0) : Nat) : Int))), (2, .int (jI (((k0 + 1) : Nat) : Int))), (0, .ref (ad yr))]) hx hb dX4_isJoined_13 rfl hl (by decide) rfl (fun ls hl => ?_)
        have INN : ∀ (k : Nat) (j0 : Nat) (hj0 : j0 ≤ n - 1), n - j0 < k → ∀ (H : Heap) (locs : List Loc), rm_W D ad ct (rm_A ad ct s.heap.size) H → va_S (rm_A ad ct s.heap.size) s.heap H locs → ∀ ls : Array Slot, lv_has ls 4 [(1, .int (jI (((jrd n M j0 (jit n M k0)) : Nat) : Int))), (3, .int (jI (((j0 + 1) : Nat) : Int))), (2, .int (jI (((k0 + 1) : Nat) : Int))), (0, .ref (ad yr))] → W p l e (headSpec wsX4_isJoined ({ frames := 1, cells := 0, slots := 0, locals := 23 })).room s m args below meth c H locs 0 0 (MQ below (rm_Qi D ad ct s.heap.size (fun z ct1 => z = (if jit n M (n - 1) = 2 ^ n - 1 then 1 else 0) ∧ ct1 = ct)) args s 0 0 (rm_A ad ct s.heap.size)) (F0 m 14 ls []) := by
          intro k
          induction k with
          | zero => intro j0 hj0 hk; exact absurd hk (Nat.not_lt_zero _)
          | succ k ih_INN =>
            intro j0 hj0 hk  H locs   hW hS ls hl
            have hrl2 := jrd_lt (M := M) hrl (show j0 ≤ n - 1 by omega)
            refine lv_iload_n hx hb dX4_isJoined_14 rfl (lv_at hl 1 rfl) ?_
            refine lv_aload_n hx hb dX4_isJoined_15 rfl (lv_at hl 3 rfl) ?_
            refine rm_get (ci := 4) (v := .int (jI ((n : Nat) : Int))) (C := RX4) (T := TX4) (N := 4) hx hb hts (by decide +kernel) hown hK hW hY.1 rfl 0 (by decide) (hts (.fieldLink RX4 9 "GrainYard$Yard" "places" "I") (by decide +kernel)) (fun _ h9 => h9) rfl dX4_isJoined_16 ?_
            refine rm_icmp_ge (tgt := 43) hx hb ⟨by omega, by omega⟩ ⟨by omega, by omega⟩ dX4_isJoined_19 (by decide) (fun hc_5 => ?_) (fun hc_5 => ?_)
            · skip
              have hj : j0 = n - 1 := by omega
              rw [hj] at hl
              refine lv_iinc (v := jI ((((k0 + 1) : Nat) : Int) + 1)) (lv' := [(2, .int (jI ((((k0 + 1) : Nat) : Int) + 1))), (1, .int (jI (((jit n M (k0 + 1)) : Nat) : Int))), (3, .int (jI (((n - 1 + 1) : Nat) : Int))), (0, .ref (ad yr))]) hx hb dX4_isJoined_43 hl (k := 2) rfl (jI_add _ _) (by decide) rfl (fun ls hl => ?_)
              refine lv_goto (tgt := 4) hx hb dX4_isJoined_46 (by decide) ?_
              exact ih_OUT (k0 + 1) (by omega) (by omega)  _ _ hW hS ls (lv_sub hl [1, 0, 3] rfl)
            · skip
              refine lv_aload_n hx hb dX4_isJoined_22 rfl (lv_at hl 3 rfl) ?_
              refine lv_iload_n hx hb dX4_isJoined_23 rfl (lv_at hl 1 rfl) ?_
              refine lv_iload_n hx hb dX4_isJoined_24 rfl (lv_at hl 0 rfl) ?_
              refine rm_calli (va_runV (As := [.int (jI (((j0 + 1) : Nat) : Int)), .int (jI (((jrd n M j0 (jit n M k0)) : Nat) : Int))]) (rest := []) ⟨hx, hb, hml, hown, hts⟩ (c_X4_touches l D ty ad ct H.size yr n M d u (j0 + 1) (jrd n M j0 (jit n M k0)) hn (by omega) (by omega) hY hM) (cwV 2 hts gX4_isJoined_X4_touches rfl rfl rfl (by decide +kernel) ⟨Nat.le_of_ble_eq_true rfl, Nat.le_of_ble_eq_true rfl⟩) (rm_preV hK hNw hW hY.1 rfl) rfl rfl hl.1 rfl (lv_room (Nat.le_of_ble_eq_true rfl)) dX4_isJoined_25 ⟨Nat.zero_le _, Nat.zero_le _⟩) hW hS hA (fun z_6 ct_6 H locs hq_6 hW hS => ?_)
              obtain ⟨hz, rfl⟩ := hq_6
              subst hz
              rcases hb9 : tch M (j0 + 1) (jrd n M j0 (jit n M k0)) n with _ | _
              · skip
                simp only [Bool.false_eq_true, if_false]
                refine rm_if_eq (tgt := 37) hx hb ⟨by omega, by omega⟩ dX4_isJoined_28 (by decide) (fun _ => ?_) (fun hq => absurd hq (by omega))
                have he : jrd n M (j0 + 1) (jit n M k0) = jrd n M j0 (jit n M k0) := by show jst n M (j0 + 1) _ = _; unfold jst; rw [hb9]; rfl
                rw [← he] at hl
                refine lv_iinc (v := jI ((((j0 + 1) : Nat) : Int) + 1)) (lv' := [(3, .int (jI ((((j0 + 1) : Nat) : Int) + 1))), (1, .int (jI (((jrd n M (j0 + 1) (jit n M k0)) : Nat) : Int))), (2, .int (jI (((k0 + 1) : Nat) : Int))), (0, .ref (ad yr))]) hx hb dX4_isJoined_37 hl (k := 1) rfl (jI_add _ _) (by decide) rfl (fun ls hl => ?_)
                refine lv_goto (tgt := 14) hx hb dX4_isJoined_40 (by decide) ?_
                exact ih_INN (j0 + 1) (by omega) (by omega)  _ _ hW hS ls (lv_sub hl [1, 0, 2, 3] rfl)
              · skip
                simp only [if_true]
                refine rm_if_eq (tgt := 37) hx hb ⟨by omega, by omega⟩ dX4_isJoined_28 (by decide) (fun hq => absurd hq (by omega)) (fun _ => ?_)
                have he : jrd n M (j0 + 1) (jit n M k0) = jrd n M j0 (jit n M k0) ||| 2 ^ (j0 + 1) := by show jst n M (j0 + 1) _ = _; unfold jst; rw [hb9]; rfl
                have hpw : 2 ^ (j0 + 1) ≤ 256 := Nat.pow_le_pow_right (by omega) (show j0 + 1 ≤ 8 by omega)
                refine lv_iload_n hx hb dX4_isJoined_31 rfl (lv_at hl 0 rfl) ?_
                refine lv_iconst (v := jI 1) hx hb dX4_isJoined_32 rfl ?_
                refine lv_iload_n hx hb dX4_isJoined_33 rfl (lv_at hl 1 rfl) ?_
                refine rm_ishl (z := (((1 * 2 ^ (j0 + 1)) : Nat) : Int)) hx hb dX4_isJoined_34 (bt_shl (by omega) (by first | omega | (rw [Nat.one_mul]; omega))) ?_
                refine rm_ior (z := ((((jrd n M j0 (jit n M k0)) ||| (1 * 2 ^ (j0 + 1))) : Nat) : Int)) hx hb dX4_isJoined_35 (bt_or _ _) ?_
                rw [show jrd n M j0 (jit n M k0) ||| 1 * 2 ^ (j0 + 1) = jrd n M (j0 + 1) (jit n M k0) by rw [he, Nat.one_mul]]
                refine lv_istore_n (lv' := [(1, .int (jI (((jrd n M (j0 + 1) (jit n M k0)) : Nat) : Int))), (3, .int (jI (((j0 + 1) : Nat) : Int))), (2, .int (jI (((k0 + 1) : Nat) : Int))), (0, .ref (ad yr))]) hx hb dX4_isJoined_36 rfl hl (by decide) rfl (fun ls hl => ?_)
                refine lv_iinc (v := jI ((((j0 + 1) : Nat) : Int) + 1)) (lv' := [(3, .int (jI ((((j0 + 1) : Nat) : Int) + 1))), (1, .int (jI (((jrd n M (j0 + 1) (jit n M k0)) : Nat) : Int))), (2, .int (jI (((k0 + 1) : Nat) : Int))), (0, .ref (ad yr))]) hx hb dX4_isJoined_37 hl (k := 1) rfl (jI_add _ _) (by decide) rfl (fun ls hl => ?_)
                refine lv_goto (tgt := 14) hx hb dX4_isJoined_40 (by decide) ?_
                exact ih_INN (j0 + 1) (by omega) (by omega)  _ _ hW hS ls (lv_sub hl [1, 0, 2, 3] rfl)
        exact INN (n + 1) (0) (by omega) (by omega)  _ _ hW hS ls (lv_sub hl [1, 0, 2, 3] rfl)
  exact OUT (n + 1) (0) (by omega) (by omega)  _ _ hW hS ls (lv_sub hl [1, 0, 2] rfl)
