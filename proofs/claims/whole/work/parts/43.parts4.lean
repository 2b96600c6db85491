set_option maxHeartbeats 4000000 in
set_option maxRecDepth 100000 in
theorem c_X3_clearCross (l : Launch) (D : va_G) (ty : Nat → ClassId) (ad : Nat → Nat) (ct : rm_C) (sz : Nat) (po kz on : Nat) (tr : Int) (r : Nat → Int) (T : Nat → Nat → Int) (co : Nat) (hc : co < kz) (hT : inr_ kz tr T) (ht : 0 < tr) (ht9 : tr ≤ 2147483648) (hkz : kz ≤ 8) (hP : PartsAt ty ad ct po kz on tr r T) : Met l yX3_clearCross wsX3_clearCross ({ frames := 3, cells := 0, slots := 0, locals := 74 }) (rm_P D ty ad ct sz [.ref (ad po), .int (jI ((co : Nat) : Int))]) (rm_Qv D ad ct sz 0 (fun ct1 => (∀ i9, i9 < 8 → ct1 (po + 1 + 1 + i9) = some (rl ty 8 ((ccs kz tr co T 1000) i9))) ∧ ∀ q, (q < po + 1 + 1 ∨ po + 1 + 1 + 7 < q) → ct1 q = ct q)) 0 0 (rm_A ad ct sz) := by
  refine Met.ofW (cc := cX3_clearCross) (maxL := 5) (ret := none) (by decide) rfl ?_
  intro p e s m args below meth c s₁ B hml hv
  obtain ⟨hargs, hsz, hW, hK, hNw⟩ := hv
  have hx := B.exec
  have hb := B.bytes
  have hr := B.returns
  have hts := atoms_spec (ws := wsX3_clearCross) B.pre
  have hown : s.vm.findClass RX3 = some m.cls := findClass_of_methodNamed B.named
  have hlocks := B.notSynchronized
  subst hsz
  have hW := hW.own (sz := s.heap.size)
  have hA : ∀ q : Nat, s.heap.size ≤ q → rm_A ad ct s.heap.size q := fun q h => Or.inr h
  have hS : va_S (rm_A ad ct s.heap.size) s.heap s.heap [] := va_S.rf
  have hent : entryFrame m args 5 = entryFrame m ([.ref (ad po), .int (jI ((co : Nat) : Int))] : List Value).toArray 5 := by rw [hargs]
  have hl := lv_entry ([.ref (ad po), .int (jI ((co : Nat) : Int))]) (n := 5) (Nat.le_of_ble_eq_true rfl)
  rw [hent, lg_entry_eq]
  generalize (lg_sl ([.ref (ad po), .int (jI ((co : Nat) : Int))]) ++ List.replicate (5 - (lg_sl ([.ref (ad po), .int (jI ((co : Nat) : Int))])).length) Slot.unset).toArray = ls at hl ⊢
  have hl : lv_has ls 5 [(0, .ref (ad po)), (1, .int (jI ((co : Nat) : Int)))] := hl
  have hTb : ∀ i9, i9 < 8 → ct (po + 1 + 1 + i9) = some (rl ty 8 (T i9)) := fun i9 hi9 => hP.2.2.2 i9 hi9
  refine lv_iconst (v := jI 0) hx hb dX3_clearCross_0 rfl ?_
  refine lv_istore_n (lv' := [(2, .int (jI 0)), (0, .ref (ad po)), (1, .int (jI ((co : Nat) : Int)))]) hx hb dX3_clearCross_1 rfl hl (by decide) rfl (fun ls hl => ?_)
  have hk_1 : ∀ i9, i9 < 8 → ct (po + 1 + 1 + i9) = some (rl ty 8 ((ccs kz tr co T 0) i9)) := by rw [← (show T = (ccs kz tr co T 0) from rfl)]; exact hTb
  have LP : ∀ (k : Nat) (q9 : Nat) (hq9 : q9 ≤ 1000), 1000 - q9 < k → ∀ (ctv : rm_C) (H : Heap) (locs : List Loc), (∀ i9, i9 < 8 → ctv (po + 1 + 1 + i9) = some (rl ty 8 ((ccs kz tr co T q9) i9))) → ∀ (_ : True), (∀ q, (q < po + 1 + 1 ∨ po + 1 + 1 + 7 < q) → ctv q = ct q) → ∀ (_ : True), rm_W D ad ctv (rm_A ad ct s.heap.size) H → va_S (rm_A ad ct s.heap.size) s.heap H locs → ∀ ls : Array Slot, lv_has ls 5 [(2, .int (jI ((q9 : Nat) : Int))), (0, .ref (ad po)), (1, .int (jI ((co : Nat) : Int)))] → W p l e (headSpec wsX3_clearCross ({ frames := 3, cells := 0, slots := 0, locals := 74 })).room s m args below meth c H locs 0 0 (MQ below (rm_Qv D ad ct s.heap.size 0 (fun ct1 => (∀ i9, i9 < 8 → ct1 (po + 1 + 1 + i9) = some (rl ty 8 ((ccs kz tr co T 1000) i9))) ∧ ∀ q, (q < po + 1 + 1 ∨ po + 1 + 1 + 7 < q) → ct1 q = ct q)) args s 0 0 (rm_A ad ct s.heap.size)) (F0 m 2 ls []) := by
    intro k
    induction k with
    | zero => intro q9 hq9 hk; exact absurd hk (Nat.not_lt_zero _)
    | succ k ih_LP =>
      intro q9 hq9 hk ctv_2 H locs hv0_2 _ hofv_2 _ hW hS ls hl
      refine lv_iload_n hx hb dX3_clearCross_2 rfl (lv_at hl 0 rfl) ?_
      refine lv_sipush (v := jI 1000) hx hb dX3_clearCross_3 (by decide) ?_
      refine rm_icmp_ge (tgt := 55) hx hb ⟨by omega, by omega⟩ ⟨by omega, by omega⟩ dX3_clearCross_6 (by decide) (fun hc_3 => ?_) (fun hc_3 => ?_)
      · skip
        have hq : q9 = 1000 := by omega
        subst hq
        exact W.vret hx hb hr (fun t ht hw => ⟨⟨ctv_2, rfl, ⟨hv0_2, fun q hq => hofv_2 q hq⟩, by show rm_W D ad _ _ t.heap; rw [ht]; exact hW, Or.inl rfl⟩, hS.F ht⟩) hS.2.2 dX3_clearCross_55
      · skip
        obtain ⟨T9, hT9⟩ : ∃ T9, T9 = (ccs kz tr co T q9) := ⟨_, rfl⟩
        have hk_4 : ∀ i9, i9 < 8 → ctv_2 (po + 1 + 1 + i9) = some (rl ty 8 (T9 i9)) := by rw [← (show (ccs kz tr co T q9) = T9 from hT9.symm)]; exact hv0_2
        have hR9 : inr_ kz tr T9 := by rw [hT9]; exact ccs_rng ht hc hT q9
        have hr9 : ∀ i j, i < kz → j < kz → r64 (T9 i j) := fun i j h1 h2 => by have := hR9 i j h1 h2; exact ⟨by omega, by omega⟩
        have hcs : ccs kz tr co T (q9 + 1) = if ccl kz co T9 = true then T9 else cc1 kz tr co T9 := by rw [hT9]; rfl
        refine lv_aload_n hx hb dX3_clearCross_9 rfl (lv_at hl 1 rfl) ?_
        refine lv_iload_n hx hb dX3_clearCross_10 rfl (lv_at hl 2 rfl) ?_
        refine rm_calli (va_runV (As := [.int (jI ((co : Nat) : Int))]) (rest := []) ⟨hx, hb, hml, hown, hts⟩ (c_X3_isClear l D ty ad ctv_2 H.size po kz on tr r T9 co hc hr9 hkz ⟨((hofv_2 po (by omega)).trans hP.1), ((hofv_2 (po + 1) (by omega)).trans hP.2.1), ((hofv_2 (po + 10) (by omega)).trans hP.2.2.1), hk_4⟩) (cwV 1 hts gX3_clearCross_X3_isClear rfl rfl rfl (by decide +kernel) ⟨Nat.le_of_ble_eq_true rfl, Nat.le_of_ble_eq_true rfl⟩) (rm_preV hK hNw hW ((hofv_2 po (by omega)).trans hP.1) rfl) rfl rfl hl.1 rfl (lv_room (Nat.le_of_ble_eq_true rfl)) dX3_clearCross_11 ⟨Nat.zero_le _, Nat.zero_le _⟩) hW hS hA (fun z_5 ct_5 H locs hq_5 hW hS => ?_)
        obtain ⟨hz, hcc_5⟩ := hq_5
        have hcc_5 := hcc_5.symm
        subst hcc_5
        have hzr : z_5 = 0 ∨ z_5 = 1 := by rw [hz]; by_cases h : ccl kz co T9 = true <;> simp [h]
        refine rm_if_ne (tgt := 55) hx hb ⟨by omega, by omega⟩ dX3_clearCross_14 (by decide) (fun hc_6 => ?_) (fun hc_6 => ?_)
        · skip
          have hls : ccl kz co T9 = true := Classical.byContradiction fun h => by rw [if_neg h] at hz; omega
          have hst := ccs_stop (q := q9) (T := T) (tr := tr) (c := co) (k := kz) (by rw [← hT9]; exact hls) (1000 - q9)
          rw [show q9 + (1000 - q9) = 1000 by omega] at hst
          have hk_7 : ∀ i9, i9 < 8 → ctv_2 (po + 1 + 1 + i9) = some (rl ty 8 ((ccs kz tr co T 1000) i9)) := by rw [← (show T9 = (ccs kz tr co T 1000) from by rw [hst]; exact hT9)]; exact hk_4
          exact W.vret hx hb hr (fun t ht hw => ⟨⟨ctv_2, rfl, ⟨hk_7, fun q hq => hofv_2 q hq⟩, by show rm_W D ad _ _ t.heap; rw [ht]; exact hW, Or.inl rfl⟩, hS.F ht⟩) hS.2.2 dX3_clearCross_55
        · skip
          have hls : ccl kz co T9 ≠ true := fun h => by rw [if_pos h] at hz; omega
          rw [if_neg hls] at hcs
          refine lv_aload_n hx hb dX3_clearCross_17 rfl (lv_at hl 1 rfl) ?_
          refine lv_iload_n hx hb dX3_clearCross_18 rfl (lv_at hl 2 rfl) ?_
          refine rm_callv (va_runV (As := [.int (jI ((co : Nat) : Int))]) (rest := []) ⟨hx, hb, hml, hown, hts⟩ (c_X3_bringLeast l D ty ad ctv_2 H.size po kz on tr r T9 co hc hr9 hkz ⟨((hofv_2 po (by omega)).trans hP.1), ((hofv_2 (po + 1) (by omega)).trans hP.2.1), ((hofv_2 (po + 10) (by omega)).trans hP.2.2.1), hk_4⟩) (cwV 1 hts gX3_clearCross_X3_bringLeast rfl rfl rfl (by decide +kernel) ⟨Nat.le_of_ble_eq_true rfl, Nat.le_of_ble_eq_true rfl⟩) (rm_preV hK hNw hW ((hofv_2 po (by omega)).trans hP.1) rfl) rfl rfl hl.1 rfl (lv_room (Nat.le_of_ble_eq_true rfl)) dX3_clearCross_19 ⟨Nat.zero_le _, Nat.zero_le _⟩) hW hS hA (fun ct_8 H locs hq_8 hW hS hz_8 => ?_)
          have ho_8 : ∀ q, (q < po + 1 + 1 ∨ po + 1 + 1 + 7 < q) → ct_8 q = ctv_2 q := hq_8.2
          have hof_8 : ∀ q, (q < po + 1 + 1 ∨ po + 1 + 1 + 7 < q) → ct_8 q = ct q := fun q h0_8 => (ho_8 q h0_8).trans (hofv_2 q h0_8)
          have hm0_8 : ∀ i9, i9 < 8 → ct_8 (po + 1 + 1 + i9) = some (rl ty 8 ((brg kz co T9) i9)) := hq_8.1
          obtain ⟨B9, hB9⟩ : ∃ B9, B9 = brg kz co T9 := ⟨_, rfl⟩
          have hk_9 : ∀ i9, i9 < 8 → ct_8 (po + 1 + 1 + i9) = some (rl ty 8 (B9 i9)) := by rw [← (show (brg kz co T9) = B9 from hB9.symm)]; exact hm0_8
          have hRB : inr_ kz tr B9 := by rw [hB9]; exact brg_rng hc hR9
          have hcb := hRB co co hc hc
          unfold cc1 at hcs
          rw [← hB9] at hcs
          refine lv_aload_n hx hb dX3_clearCross_22 rfl (lv_at hl 1 rfl) ?_
          refine rm_get (ci := 3) (v := .ref (ad (po + 1))) (C := RX3) (T := TX3) (N := 5) hx hb hts (by decide +kernel) hown hK hW ((hof_8 po (by omega)).trans hP.1) rfl 0 (by decide) (hts (.fieldLink RX3 11 "GrainYard$Parts" "table" "[[J") (by decide +kernel)) (fun _ h9 => h9) rfl dX3_clearCross_23 ?_
          refine lv_iload_n hx hb dX3_clearCross_26 rfl (lv_at hl 2 rfl) ?_
          refine rm_aald hx hb hK hW (f := (fun i => if i < 8 then some (ad (po + 1 + 1 + i)) else none)) ((hof_8 (po + 1) (by omega)).trans hP.2.1) rfl rfl co rfl (by omega) (by omega) dX3_clearCross_27 (congrArg va_rf (if_pos (by omega))) ?_
          refine lv_iload_n hx hb dX3_clearCross_28 rfl (lv_at hl 2 rfl) ?_
          refine rm_lald hx hb hK hW (f := (B9 co)) (hk_9 co (by omega)) co rfl (by omega) (by omega) dX3_clearCross_29 ?_
          refine lv_lstore_n (lv' := [(3, .long (jL ((B9 co) co))), (2, .int (jI ((q9 : Nat) : Int))), (0, .ref (ad po)), (1, .int (jI ((co : Nat) : Int)))]) hx hb dX3_clearCross_30 rfl hl (by decide) rfl (fun ls hl => ?_)
          refine lv_lload_n hx hb dX3_clearCross_31 rfl (lv_at hl 0 rfl) ?_
          refine lv_lconst (v := jL 0) hx hb dX3_clearCross_32 rfl ?_
          refine rm_lcmp hx hb ⟨by omega, by omega⟩ ⟨by omega, by omega⟩ dX3_clearCross_33 ?_
          refine rm_if_le (tgt := 49) hx hb (lcv_rng _ _) dX3_clearCross_34 (by decide) (fun hc_10 => ?_) (fun hc_10 => ?_)
          · skip
            have hc_10 := lcv_le.mp hc_10
            rw [if_neg (by omega)] at hcs
            have hk_11 : ∀ i9, i9 < 8 → ct_8 (po + 1 + 1 + i9) = some (rl ty 8 ((ccs kz tr co T (q9 + 1)) i9)) := by rw [← (show B9 = (ccs kz tr co T (q9 + 1)) from hcs.symm)]; exact hk_9
            refine lv_iinc (v := jI (((q9 : Nat) : Int) + 1)) (lv' := [(2, .int (jI (((q9 : Nat) : Int) + 1))), (3, .long (jL ((B9 co) co))), (0, .ref (ad po)), (1, .int (jI ((co : Nat) : Int)))]) hx hb dX3_clearCross_49 hl (k := 1) rfl (jI_add _ _) (by decide) rfl (fun ls hl => ?_)
            refine lv_goto (tgt := 2) hx hb dX3_clearCross_52 (by decide) ?_
            exact ih_LP (q9 + 1) (by omega) (by omega) ct_8 _ _ hk_11 trivial hof_8 trivial hW hS ls (lv_sub hl [0, 2, 3] rfl)
          · skip
            have hc_10 := lcv_gt.mp hc_10
            rw [if_pos (by omega)] at hcs
            obtain ⟨g9, hg9⟩ : ∃ g9, g9 = B9 co co := ⟨_, rfl⟩
            rw [← hg9] at hcs hcb hl
            have hg0 : 0 < g9 := by omega
            refine lv_aload_n hx hb dX3_clearCross_37 rfl (lv_at hl 2 rfl) ?_
            refine lv_iload_n hx hb dX3_clearCross_38 rfl (lv_at hl 3 rfl) ?_
            refine lv_lload_n hx hb dX3_clearCross_39 rfl (lv_at hl 0 rfl) ?_
            refine rm_callv (va_runV (As := [.int (jI ((co : Nat) : Int)), .long (jL g9)]) (rest := []) ⟨hx, hb, hml, hown, hts⟩ (c_X3_lowerRows l D ty ad ct_8 H.size po kz on tr r B9 co g9 hc hg0 (by omega) hRB ht ht9 hkz ⟨((hof_8 po (by omega)).trans hP.1), ((hof_8 (po + 1) (by omega)).trans hP.2.1), ((hof_8 (po + 10) (by omega)).trans hP.2.2.1), hk_9⟩) (cwV 2 hts gX3_clearCross_X3_lowerRows rfl rfl rfl (by decide +kernel) ⟨Nat.le_of_ble_eq_true rfl, Nat.le_of_ble_eq_true rfl⟩) (rm_preV hK hNw hW ((hof_8 po (by omega)).trans hP.1) rfl) rfl rfl hl.1 rfl (lv_room (Nat.le_of_ble_eq_true rfl)) dX3_clearCross_40 ⟨Nat.zero_le _, Nat.zero_le _⟩) hW hS hA (fun ct_12 H locs hq_12 hW hS hz_12 => ?_)
            have ho_12 : ∀ q, (q < po + 1 + 1 ∨ po + 1 + 1 + 7 < q) → ct_12 q = ct_8 q := hq_12.2
            have hof_12 : ∀ q, (q < po + 1 + 1 ∨ po + 1 + 1 + 7 < q) → ct_12 q = ct q := fun q h0_12 => (ho_12 q h0_12).trans (hof_8 q h0_12)
            have hm0_12 : ∀ i9, i9 < 8 → ct_12 (po + 1 + 1 + i9) = some (rl ty 8 ((lrs kz tr co g9 B9 (kz - 1 - co)) i9)) := hq_12.1
            refine lv_aload_n hx hb dX3_clearCross_43 rfl (lv_at hl 2 rfl) ?_
            refine lv_iload_n hx hb dX3_clearCross_44 rfl (lv_at hl 3 rfl) ?_
            refine lv_lload_n hx hb dX3_clearCross_45 rfl (lv_at hl 0 rfl) ?_
            refine rm_callv (va_runV (As := [.int (jI ((co : Nat) : Int)), .long (jL g9)]) (rest := []) ⟨hx, hb, hml, hown, hts⟩ (c_X3_lowerColumns l D ty ad ct_12 H.size po kz on tr r (lrs kz tr co g9 B9 (kz - 1 - co)) co g9 hc hg0 (by omega) (lrs_rng ht hRB _) ht ht9 hkz ⟨((hof_12 po (by omega)).trans hP.1), ((hof_12 (po + 1) (by omega)).trans hP.2.1), ((hof_12 (po + 10) (by omega)).trans hP.2.2.1), hm0_12⟩) (cwV 2 hts gX3_clearCross_X3_lowerColumns rfl rfl rfl (by decide +kernel) ⟨Nat.le_of_ble_eq_true rfl, Nat.le_of_ble_eq_true rfl⟩) (rm_preV hK hNw hW ((hof_12 po (by omega)).trans hP.1) rfl) rfl rfl hl.1 rfl (lv_room (Nat.le_of_ble_eq_true rfl)) dX3_clearCross_46 ⟨Nat.zero_le _, Nat.zero_le _⟩) hW hS hA (fun ct_13 H locs hq_13 hW hS hz_13 => ?_)
            have ho_13 : ∀ q, (q < po + 1 + 1 ∨ po + 1 + 1 + 7 < q) → ct_13 q = ct_12 q := hq_13.2
            have hof_13 : ∀ q, (q < po + 1 + 1 ∨ po + 1 + 1 + 7 < q) → ct_13 q = ct q := fun q h0_13 => (ho_13 q h0_13).trans (hof_12 q h0_13)
            have hm0_13 : ∀ i9, i9 < 8 → ct_13 (po + 1 + 1 + i9) = some (rl ty 8 ((lcs kz tr co g9 (lrs kz tr co g9 B9 (kz - 1 - co)) (kz - 1 - co)) i9)) := hq_13.1
            have hk_14 : ∀ i9, i9 < 8 → ct_13 (po + 1 + 1 + i9) = some (rl ty 8 ((ccs kz tr co T (q9 + 1)) i9)) := by rw [← (show (lcs kz tr co g9 (lrs kz tr co g9 B9 (kz - 1 - co)) (kz - 1 - co)) = (ccs kz tr co T (q9 + 1)) from hcs.symm)]; exact hm0_13
            refine lv_iinc (v := jI (((q9 : Nat) : Int) + 1)) (lv' := [(2, .int (jI (((q9 : Nat) : Int) + 1))), (3, .long (jL g9)), (0, .ref (ad po)), (1, .int (jI ((co : Nat) : Int)))]) hx hb dX3_clearCross_49 hl (k := 1) rfl (jI_add _ _) (by decide) rfl (fun ls hl => ?_)
            refine lv_goto (tgt := 2) hx hb dX3_clearCross_52 (by decide) ?_
            exact ih_LP (q9 + 1) (by omega) (by omega) ct_13 _ _ hk_14 trivial hof_13 trivial hW hS ls (lv_sub hl [0, 2, 3] rfl)
  exact LP (1001) (0) (by omega) (by omega) ct _ _ hk_1 trivial (fun _ _ => rfl) trivial hW hS ls (lv_sub hl [0, 1, 2] rfl)
set_option maxHeartbeats 4000000 in
set_option maxRecDepth 100000 in
theorem c_X3_makeChain (l : Launch) (D : va_G) (ty : Nat → ClassId) (ad : Nat → Nat) (ct : rm_C) (sz : Nat) (po kz on : Nat) (tr : Int) (r : Nat → Int) (T : Nat → Nat → Int) (hrv : rdv kz tr r) (ht : 0 < tr) (ht9 : tr ≤ 2147483648) (hkz : kz ≤ 8) (hP : PartsAt ty ad ct po kz on tr r T) : Met l yX3_makeChain wsX3_makeChain ({ frames := 2, cells := 0, slots := 0, locals := 43 }) (rm_P D ty ad ct sz [.ref (ad po)]) (rm_Qv D ad ct sz 0 (fun ct1 => ct1 (po + 10) = some (rl ty 8 (mci kz r kz)) ∧ ∀ q, q ≠ po + 10 → ct1 q = ct q)) 0 0 (rm_A ad ct sz) := by
  refine Met.ofW (cc := cX3_makeChain) (maxL := 5) (ret := none) (by decide) rfl ?_
  intro p e s m args below meth c s₁ B hml hv
  obtain ⟨hargs, hsz, hW, hK, hNw⟩ := hv
  have hx := B.exec
  have hb := B.bytes
  have hr := B.returns
  have hts := atoms_spec (ws := wsX3_makeChain) B.pre
  have hown : s.vm.findClass RX3 = some m.cls := findClass_of_methodNamed B.named
  have hlocks := B.notSynchronized
  subst hsz
  have hW := hW.own (sz := s.heap.size)
  have hA : ∀ q : Nat, s.heap.size ≤ q → rm_A ad ct s.heap.size q := fun q h => Or.inr h
  have hS : va_S (rm_A ad ct s.heap.size) s.heap s.heap [] := va_S.rf
  have hent : entryFrame m args 5 = entryFrame m ([.ref (ad po)] : List Value).toArray 5 := by rw [hargs]
  have hl := lv_entry ([.ref (ad po)]) (n := 5) (Nat.le_of_ble_eq_true rfl)
  rw [hent, lg_entry_eq]
  generalize (lg_sl ([.ref (ad po)]) ++ List.replicate (5 - (lg_sl ([.ref (ad po)])).length) Slot.unset).toArray = ls at hl ⊢
  have hl : lv_has ls 5 [(0, .ref (ad po))] := hl
  refine lv_iconst (v := jI 0) hx hb dX3_makeChain_0 rfl ?_
  refine lv_istore_n (lv' := [(1, .int (jI 0)), (0, .ref (ad po))]) hx hb dX3_makeChain_1 rfl hl (by decide) rfl (fun ls hl => ?_)
  have hR0 : ct (po + 10) = some (rl ty 8 (mci kz r 0)) := hP.2.2.1
  have OUT : ∀ (k : Nat) (r9 : Nat) (hr9 : r9 ≤ kz), kz - r9 < k → ∀ (ctv : rm_C) (H : Heap) (locs : List Loc), (ctv (po + 10) = some (rl ty 8 (mci kz r r9))) → ∀ (_ : True), (∀ q, q ≠ (po + 10) → ctv q = ct q) → ∀ (_ : True), rm_W D ad ctv (rm_A ad ct s.heap.size) H → va_S (rm_A ad ct s.heap.size) s.heap H locs → ∀ ls : Array Slot, lv_has ls 5 [(1, .int (jI ((r9 : Nat) : Int))), (0, .ref (ad po))] → W p l e (headSpec wsX3_makeChain ({ frames := 2, cells := 0, slots := 0, locals := 43 })).room s m args below meth c H locs 0 0 (MQ below (rm_Qv D ad ct s.heap.size 0 (fun ct1 => ct1 (po + 10) = some (rl ty 8 (mci kz r kz)) ∧ ∀ q, q ≠ po + 10 → ct1 q = ct q)) args s 0 0 (rm_A ad ct s.heap.size)) (F0 m 2 ls []) := by
    intro k
    induction k with
    | zero => intro r9 hr9 hk; exact absurd hk (Nat.not_lt_zero _)
    | succ k ih_OUT =>
      intro r9 hr9 hk ctv_1 H locs hv0_1 _ hofv_1 _ hW hS ls hl
      refine lv_iload_n hx hb dX3_makeChain_2 rfl (lv_at hl 0 rfl) ?_
      refine lv_aload_n hx hb dX3_makeChain_3 rfl (lv_at hl 1 rfl) ?_
      refine rm_get (ci := 3) (v := .int (jI ((kz : Nat) : Int))) (C := RX3) (T := TX3) (N := 5) hx hb hts (by decide +kernel) hown hK hW ((hofv_1 po (by omega)).trans hP.1) rfl 2 (by decide) (hts (.fieldLink RX3 20 "GrainYard$Parts" "size" "I") (by decide +kernel)) (fun _ h9 => h9) rfl dX3_makeChain_4 ?_
      refine rm_icmp_ge (tgt := 84) hx hb ⟨by omega, by omega⟩ ⟨by omega, by omega⟩ dX3_makeChain_7 (by decide) (fun hc_2 => ?_) (fun hc_2 => ?_)
      · skip
        have hi : kz = r9 := by omega
        subst hi
        exact W.vret hx hb hr (fun t ht hw => ⟨⟨ctv_1, rfl, ⟨hv0_1, fun q hq => hofv_1 q hq⟩, by show rm_W D ad _ _ t.heap; rw [ht]; exact hW, Or.inl rfl⟩, hS.F ht⟩) hS.2.2 dX3_makeChain_84
      · skip
        refine lv_iload_n hx hb dX3_makeChain_10 rfl (lv_at hl 0 rfl) ?_
        refine lv_iconst (v := jI 1) hx hb dX3_makeChain_11 rfl ?_
        refine rm_iadd hx hb dX3_makeChain_12 ?_
        refine lv_istore_n (lv' := [(2, .int (jI (((r9 : Nat) : Int) + 1))), (1, .int (jI ((r9 : Nat) : Int))), (0, .ref (ad po))]) hx hb dX3_makeChain_13 rfl hl (by decide) rfl (fun ls hl => ?_)
        have INN : ∀ (k : Nat) (q9 : Nat) (hq9 : q9 ≤ kz - 1 - r9), kz - q9 < k → ∀ (ctv : rm_C) (H : Heap) (locs : List Loc), (ctv (po + 10) = some (rl ty 8 (mcj (mci kz r r9) r9 q9))) → ∀ (_ : True), (∀ q, q ≠ (po + 10) → ctv q = ct q) → ∀ (_ : True), rm_W D ad ctv (rm_A ad ct s.heap.size) H → va_S (rm_A ad ct s.heap.size) s.heap H locs → ∀ ls : Array Slot, lv_has ls 5 [(2, .int (jI (((r9 + 1 + q9) : Nat) : Int))), (1, .int (jI ((r9 : Nat) : Int))), (0, .ref (ad po))] → W p l e (headSpec wsX3_makeChain ({ frames := 2, cells := 0, slots := 0, locals := 43 })).room s m args below meth c H locs 0 0 (MQ below (rm_Qv D ad ct s.heap.size 0 (fun ct1 => ct1 (po + 10) = some (rl ty 8 (mci kz r kz)) ∧ ∀ q, q ≠ po + 10 → ct1 q = ct q)) args s 0 0 (rm_A ad ct s.heap.size)) (F0 m 14 ls []) := by
          intro k
          induction k with
          | zero => intro q9 hq9 hk; exact absurd hk (Nat.not_lt_zero _)
          | succ k ih_INN =>
            intro q9 hq9 hk ctv_3 H locs hv0_3 _ hofv_3 _ hW hS ls hl
            refine lv_iload_n hx hb dX3_makeChain_14 rfl (lv_at hl 0 rfl) ?_
            refine lv_aload_n hx hb dX3_makeChain_15 rfl (lv_at hl 2 rfl) ?_
            refine rm_get (ci := 3) (v := .int (jI ((kz : Nat) : Int))) (C := RX3) (T := TX3) (N := 5) hx hb hts (by decide +kernel) hown hK hW ((hofv_3 po (by omega)).trans hP.1) rfl 2 (by decide) (hts (.fieldLink RX3 20 "GrainYard$Parts" "size" "I") (by decide +kernel)) (fun _ h9 => h9) rfl dX3_makeChain_16 ?_
            refine rm_icmp_ge (tgt := 78) hx hb ⟨by omega, by omega⟩ ⟨by omega, by omega⟩ dX3_makeChain_19 (by decide) (fun hc_4 => ?_) (fun hc_4 => ?_)
            · skip
              have hj : q9 = kz - 1 - r9 := by omega
              have hk2 : ctv_3 (po + 10) = some (rl ty 8 (mci kz r (r9 + 1))) := by rw [hv0_3, hj]; rfl
              refine lv_iinc (v := jI (((r9 : Nat) : Int) + 1)) (lv' := [(1, .int (jI (((r9 : Nat) : Int) + 1))), (2, .int (jI (((r9 + 1 + q9) : Nat) : Int))), (0, .ref (ad po))]) hx hb dX3_makeChain_78 hl (k := 1) rfl (jI_add _ _) (by decide) rfl (fun ls hl => ?_)
              refine lv_goto (tgt := 2) hx hb dX3_makeChain_81 (by decide) ?_
              exact ih_OUT (r9 + 1) (by omega) (by omega) ctv_3 _ _ hk2 trivial hofv_3 trivial hW hS ls (lv_sub hl [0, 2] rfl)
            · skip
              obtain ⟨R9, hR9⟩ : ∃ R9, R9 = (mcj (mci kz r r9) r9 q9) := ⟨_, rfl⟩
              have hk1 : ctv_3 (po + 10) = some (rl ty 8 R9) := by rw [hR9]; exact hv0_3
              have hdv : rdv kz tr R9 := by rw [hR9]; exact mcj_dv (mci_dv hrv r9 (by omega)) (by omega) q9 (by omega)
              have ha1 := rdv_le ht hdv (show r9 < kz by omega)
              have hb1 := rdv_le ht hdv (show (r9 + 1 + q9) < kz by omega)
              have hlc := lcm_dvd_int ha1.1 hb1.1 (hdv r9 (by omega)).2 (hdv (r9 + 1 + q9) (by omega)).2
              have heu : (((eus 100 (R9 r9).natAbs (R9 (r9 + 1 + q9)).natAbs).1 : Nat) : Int) = ((Nat.gcd (R9 r9).natAbs (R9 (r9 + 1 + q9)).natAbs : Nat) : Int) := by rw [eus_100 (by omega)]
              refine lv_aload_n hx hb dX3_makeChain_22 rfl (lv_at hl 2 rfl) ?_
              refine rm_get (ci := 3) (v := .ref (ad (po + 10))) (C := RX3) (T := TX3) (N := 5) hx hb hts (by decide +kernel) hown hK hW ((hofv_3 po (by omega)).trans hP.1) rfl 1 (by decide) (hts (.fieldLink RX3 16 "GrainYard$Parts" "rounds" "[J") (by decide +kernel)) (fun _ h9 => h9) rfl dX3_makeChain_23 ?_
              refine lv_iload_n hx hb dX3_makeChain_26 rfl (lv_at hl 1 rfl) ?_
              refine rm_lald hx hb hK hW (f := R9) hk1 r9 rfl (by omega) (by omega) dX3_makeChain_27 ?_
              refine lv_aload_n hx hb dX3_makeChain_28 rfl (lv_at hl 2 rfl) ?_
              refine rm_get (ci := 3) (v := .ref (ad (po + 10))) (C := RX3) (T := TX3) (N := 5) hx hb hts (by decide +kernel) hown hK hW ((hofv_3 po (by omega)).trans hP.1) rfl 1 (by decide) (hts (.fieldLink RX3 16 "GrainYard$Parts" "rounds" "[J") (by decide +kernel)) (fun _ h9 => h9) rfl dX3_makeChain_29 ?_
              refine lv_iload_n hx hb dX3_makeChain_32 rfl (lv_at hl 0 rfl) ?_
              refine rm_lald hx hb hK hW (f := R9) hk1 (r9 + 1 + q9) rfl (by omega) (by omega) dX3_makeChain_33 ?_
              refine rm_calll (va_runSN (As := [.long (jL (R9 r9)), .long (jL (R9 (r9 + 1 + q9)))]) (rest := []) ⟨hx, hb, hml, hown, hts⟩ (c_X5_commonDivisor l D ty ad ctv_3 H.size (R9 r9) (R9 (r9 + 1 + q9)) ⟨by omega, by omega⟩ ⟨by omega, by omega⟩) ⟨va_cnB (host := RX5) 2 hts gX3_makeChain_X5_commonDivisor_n50 rfl rfl rfl hNw.2.1 (hts (.initialized RX5) (by decide +kernel)) (by decide +kernel) ⟨Nat.le_of_ble_eq_true rfl, Nat.le_of_ble_eq_true rfl⟩, hts (.static yX5_commonDivisor) (by decide +kernel), trivial⟩ (rm_preS hK hNw hW) rfl rfl hl.1 rfl (lv_room (Nat.le_of_ble_eq_true rfl)) dX3_makeChain_34 ⟨Nat.zero_le _, Nat.zero_le _⟩) hW hS hA (fun z_5 ct_5 H locs hq_5 hW hS => ?_)
              obtain ⟨hz, hcc_5⟩ := hq_5
              have hcc_5 := hcc_5.symm
              subst hcc_5
              rw [heu] at hz
              subst hz
              have hgl := Int.le_of_dvd (by omega) hlc.2.1
              refine lv_lstore_n (lv' := [(3, .long (jL ((Nat.gcd (R9 r9).natAbs (R9 (r9 + 1 + q9)).natAbs : Nat) : Int))), (2, .int (jI (((r9 + 1 + q9) : Nat) : Int))), (1, .int (jI ((r9 : Nat) : Int))), (0, .ref (ad po))]) hx hb dX3_makeChain_37 rfl hl (by decide) rfl (fun ls hl => ?_)
              refine lv_lload_n hx hb dX3_makeChain_38 rfl (lv_at hl 0 rfl) ?_
              refine lv_lconst (v := jL 0) hx hb dX3_makeChain_39 rfl ?_
              refine rm_lcmp hx hb ⟨by omega, by omega⟩ r64_0 dX3_makeChain_40 ?_
              refine rm_if_le (tgt := 72) hx hb (lcv_rng _ _) dX3_makeChain_41 (by decide) (fun hq => absurd (lcv_le.mp hq) (by omega)) (fun _ => ?_)
              refine lv_aload_n hx hb dX3_makeChain_44 rfl (lv_at hl 3 rfl) ?_
              refine rm_get (ci := 3) (v := .ref (ad (po + 10))) (C := RX3) (T := TX3) (N := 5) hx hb hts (by decide +kernel) hown hK hW ((hofv_3 po (by omega)).trans hP.1) rfl 1 (by decide) (hts (.fieldLink RX3 16 "GrainYard$Parts" "rounds" "[J") (by decide +kernel)) (fun _ h9 => h9) rfl dX3_makeChain_45 ?_
              refine lv_iload_n hx hb dX3_makeChain_48 rfl (lv_at hl 1 rfl) ?_
              refine lv_aload_n hx hb dX3_makeChain_49 rfl (lv_at hl 3 rfl) ?_
              refine rm_get (ci := 3) (v := .ref (ad (po + 10))) (C := RX3) (T := TX3) (N := 5) hx hb hts (by decide +kernel) hown hK hW ((hofv_3 po (by omega)).trans hP.1) rfl 1 (by decide) (hts (.fieldLink RX3 16 "GrainYard$Parts" "rounds" "[J") (by decide +kernel)) (fun _ h9 => h9) rfl dX3_makeChain_50 ?_
              refine lv_iload_n hx hb dX3_makeChain_53 rfl (lv_at hl 2 rfl) ?_
              refine rm_lald hx hb hK hW (f := R9) hk1 r9 rfl (by omega) (by omega) dX3_makeChain_54 ?_
              refine lv_lload_n hx hb dX3_makeChain_55 rfl (lv_at hl 0 rfl) ?_
              refine rm_ldiv hx hb dX3_makeChain_56 ⟨by omega, by omega⟩ ⟨by omega, by omega⟩ (by omega) ?_
              refine lv_aload_n hx hb dX3_makeChain_57 rfl (lv_at hl 3 rfl) ?_
              refine rm_get (ci := 3) (v := .ref (ad (po + 10))) (C := RX3) (T := TX3) (N := 5) hx hb hts (by decide +kernel) hown hK hW ((hofv_3 po (by omega)).trans hP.1) rfl 1 (by decide) (hts (.fieldLink RX3 16 "GrainYard$Parts" "rounds" "[J") (by decide +kernel)) (fun _ h9 => h9) rfl dX3_makeChain_58 ?_
              refine lv_iload_n hx hb dX3_makeChain_61 rfl (lv_at hl 1 rfl) ?_
              refine rm_lald hx hb hK hW (f := R9) hk1 (r9 + 1 + q9) rfl (by omega) (by omega) dX3_makeChain_62 ?_
              refine rm_lmul hx hb dX3_makeChain_63 ?_
              refine rm_last hx hb hK hW hS (f := R9) hk1 (r9 + 1 + q9) rfl (by omega) (by omega) dX3_makeChain_64 (fun H locs ct_6 hs_6 ho_6 hW hS hz_6 => ?_)
              have hof_6 : ∀ q, q ≠ (po + 10) → ct_6 q = ct q := fun q h0_6 => (ho_6 q h0_6).trans (hofv_3 q h0_6)
              refine lv_aload_n hx hb dX3_makeChain_65 rfl (lv_at hl 3 rfl) ?_
              refine rm_get (ci := 3) (v := .ref (ad (po + 10))) (C := RX3) (T := TX3) (N := 5) hx hb hts (by decide +kernel) hown hK hW ((hof_6 po (by omega)).trans hP.1) rfl 1 (by decide) (hts (.fieldLink RX3 16 "GrainYard$Parts" "rounds" "[J") (by decide +kernel)) (fun _ h9 => h9) rfl dX3_makeChain_66 ?_
              refine lv_iload_n hx hb dX3_makeChain_69 rfl (lv_at hl 2 rfl) ?_
              refine lv_lload_n hx hb dX3_makeChain_70 rfl (lv_at hl 0 rfl) ?_
              refine rm_last hx hb hK hW hS (f := (ub R9 (r9 + 1 + q9) ((Int.tdiv (R9 r9) ((Nat.gcd (R9 r9).natAbs (R9 (r9 + 1 + q9)).natAbs : Nat) : Int)) * (R9 (r9 + 1 + q9))))) hs_6 r9 rfl (by omega) (by omega) dX3_makeChain_71 (fun H locs ct_7 hs_7 ho_7 hW hS hz_7 => ?_)
              have hof_7 : ∀ q, q ≠ (po + 10) → ct_7 q = ct q := fun q h0_7 => (ho_7 q h0_7).trans (hof_6 q h0_7)
              have hk3 : ct_7 (po + 10) = some (rl ty 8 (mcj (mci kz r r9) r9 (q9 + 1))) := by rw [hs_7]; show _ = some (rl ty 8 (mc1 (mcj (mci kz r r9) r9 q9) r9 (r9 + 1 + q9))); rw [← hR9]; rfl
              refine lv_iinc (v := jI ((((r9 + 1 + q9) : Nat) : Int) + 1)) (lv' := [(2, .int (jI ((((r9 + 1 + q9) : Nat) : Int) + 1))), (3, .long (jL ((Nat.gcd (R9 r9).natAbs (R9 (r9 + 1 + q9)).natAbs : Nat) : Int))), (1, .int (jI ((r9 : Nat) : Int))), (0, .ref (ad po))]) hx hb dX3_makeChain_72 hl (k := 1) rfl (jI_add _ _) (by decide) rfl (fun ls hl => ?_)
              refine lv_goto (tgt := 14) hx hb dX3_makeChain_75 (by decide) ?_
              exact ih_INN (q9 + 1) (by omega) (by omega) ct_7 _ _ hk3 trivial hof_7 trivial hW hS ls (lv_sub hl [0, 2, 3] rfl)
        exact INN (kz + 1) (0) (by omega) (by omega) ctv_1 _ _ hv0_1 trivial hofv_1 trivial hW hS ls (lv_sub hl [0, 1, 2] rfl)
  exact OUT (kz + 1) (0) (by omega) (by omega) ct _ _ hR0 trivial (fun _ _ => rfl) trivial hW hS ls (lv_sub hl [0, 1] rfl)
