set_option maxHeartbeats 4000000 in
set_option maxRecDepth 100000 in
theorem c_X6_isStill (l : Launch) (D : va_G) (ty : Nat → ClassId) (ad : Nat → Nat) (ct : rm_C) (sz : Nat) (th : Int) (yc hc : Nat) (yn : Nat → Nat) (yM : Nat → Nat → Nat → Int) (yu : Nat → Int) (hy : Nat → Nat) (hg hf mA : Nat → Nat → Int) (pt ro ke kt mu sl tw bw de : Nat → Int) (hMo : ModAt ty ad ct th yc hc yn yM yu hy hg hf mA pt ro ke kt mu sl tw bw de) (h9 : Nat) (hh9 : h9 < 20) (hyh : hy h9 < 6) (hn9 : 2 ≤ yn (hy h9) ∧ yn (hy h9) ≤ 8) (hM9 : ∀ i j, 0 ≤ yM (hy h9) i j ∧ yM (hy h9) i j ≤ 3) (hg64 : ∀ q, 1 ≤ q → q < (yn (hy h9)) → r64 (hg h9 q)) : Met l yX6_isStill wsX6_isStill ({ frames := 3, cells := 0, slots := 0, locals := 69 }) (rm_P D ty ad ct sz [.ref (ad 1000), .int (jI ((h9 : Nat) : Int))]) (rm_Qi D ad ct sz (fun z ct1 => ((z = 1 ∧ ∀ q, 1 ≤ q → q < (yn (hy h9)) → hg h9 q < dg (yn (hy h9)) (yM (hy h9)) q) ∨ (z = 0 ∧ ∃ q, 1 ≤ q ∧ q < (yn (hy h9)) ∧ dg (yn (hy h9)) (yM (hy h9)) q ≤ hg h9 q)) ∧ ct1 = ct)) 0 0 (rm_A ad ct sz) := by
  refine Met.ofW (cc := cX6_isStill) (maxL := 4) (ret := (some .boolean)) (by decide) rfl ?_
  intro p e s m args below meth c s₁ B hml hv
  obtain ⟨hargs, hsz, hW, hK, hNw⟩ := hv
  have hx := B.exec
  have hb := B.bytes
  have hr := B.returns
  have hts := atoms_spec (ws := wsX6_isStill) B.pre
  have hown : s.vm.findClass RX6 = some m.cls := findClass_of_methodNamed B.named
  have hlocks := B.notSynchronized
  subst hsz
  have hW := hW.own (sz := s.heap.size)
  have hA : ∀ q : Nat, s.heap.size ≤ q → rm_A ad ct s.heap.size q := fun q h => Or.inr h
  have hS : va_S (rm_A ad ct s.heap.size) s.heap s.heap [] := va_S.rf
  have hent : entryFrame m args 4 = entryFrame m ([.ref (ad 1000), .int (jI ((h9 : Nat) : Int))] : List Value).toArray 4 := by rw [hargs]
  have hl := lv_entry ([.ref (ad 1000), .int (jI ((h9 : Nat) : Int))]) (n := 4) (Nat.le_of_ble_eq_true rfl)
  rw [hent, lg_entry_eq]
  generalize (lg_sl ([.ref (ad 1000), .int (jI ((h9 : Nat) : Int))]) ++ List.replicate (4 - (lg_sl ([.ref (ad 1000), .int (jI ((h9 : Nat) : Int))])).length) Slot.unset).toArray = ls at hl ⊢
  have hl : lv_has ls 4 [(0, .ref (ad 1000)), (1, .int (jI ((h9 : Nat) : Int)))] := hl
  refine lv_iconst (v := jI 1) hx hb dX6_isStill_0 rfl ?_
  refine lv_istore_n (lv' := [(2, .int (jI 1)), (0, .ref (ad 1000)), (1, .int (jI ((h9 : Nat) : Int)))]) hx hb dX6_isStill_1 rfl hl (by decide) rfl (fun ls hl => ?_)
  refine lv_iconst (v := jI 1) hx hb dX6_isStill_2 rfl ?_
  refine lv_istore_n (lv' := [(3, .int (jI 1)), (2, .int (jI 1)), (0, .ref (ad 1000)), (1, .int (jI ((h9 : Nat) : Int)))]) hx hb dX6_isStill_3 rfl hl (by decide) rfl (fun ls hl => ?_)
  have LP : ∀ (k : Nat) (i8 : Nat) (z8 : Int) (hi8 : i8 + 1 ≤ (yn (hy h9))) (hz8 : (z8 = 1 ∧ ∀ q, 1 ≤ q → q < (i8 + 1) → hg h9 q < dg (yn (hy h9)) (yM (hy h9)) q) ∨ (z8 = 0 ∧ ∃ q, 1 ≤ q ∧ q < (yn (hy h9)) ∧ dg (yn (hy h9)) (yM (hy h9)) q ≤ hg h9 q)), (yn (hy h9)) - i8 < k → ∀ (H : Heap) (locs : List Loc), rm_W D ad ct (rm_A ad ct s.heap.size) H → va_S (rm_A ad ct s.heap.size) s.heap H locs → ∀ ls : Array Slot, lv_has ls 4 [(3, .int (jI (((i8 + 1) : Nat) : Int))), (2, .int (jI z8)), (0, .ref (ad 1000)), (1, .int (jI ((h9 : Nat) : Int)))] → W p l e (headSpec wsX6_isStill ({ frames := 3, cells := 0, slots := 0, locals := 69 })).room s m args below meth c H locs 0 0 (MQ below (rm_Qi D ad ct s.heap.size (fun z ct1 => ((z = 1 ∧ ∀ q, 1 ≤ q → q < (yn (hy h9)) → hg h9 q < dg (yn (hy h9)) (yM (hy h9)) q) ∨ (z = 0 ∧ ∃ q, 1 ≤ q ∧ q < (yn (hy h9)) ∧ dg (yn (hy h9)) (yM (hy h9)) q ≤ hg h9 q)) ∧ ct1 = ct)) args s 0 0 (rm_A ad ct s.heap.size)) (F0 m 4 ls []) := by
    intro k
    induction k with
    | zero => intro i8 z8 hi8 hz8 hk; exact absurd hk (Nat.not_lt_zero _)
    | succ k ih_LP =>
      intro i8 z8 hi8 hz8 hk  H locs   hW hS ls hl
      have hzr : z8 = 0 ∨ z8 = 1 := by rcases hz8 with h | h; exact Or.inr h.1; exact Or.inl h.1
      refine lv_iload_n hx hb dX6_isStill_4 rfl (lv_at hl 0 rfl) ?_
      refine lv_aload_n hx hb dX6_isStill_5 rfl (lv_at hl 2 rfl) ?_
      refine lv_iload_n hx hb dX6_isStill_6 rfl (lv_at hl 3 rfl) ?_
      refine rm_calli (va_runV (As := [.int (jI ((h9 : Nat) : Int))]) (rest := [.int (jI (((i8 + 1) : Nat) : Int))]) ⟨hx, hb, hml, hown, hts⟩ (c_X6_size l D ty ad ct H.size th yc hc yn yM yu hy hg hf mA pt ro ke kt mu sl tw bw de hMo h9 hh9 hyh) (cwV 1 hts gX6_isStill_X6_size rfl rfl rfl (by decide +kernel) ⟨Nat.le_of_ble_eq_true rfl, Nat.le_of_ble_eq_true rfl⟩) (rm_preV hK hNw hW hMo.1 rfl) rfl rfl hl.1 rfl (lv_room (Nat.le_of_ble_eq_true rfl)) dX6_isStill_7 ⟨Nat.zero_le _, Nat.zero_le _⟩) hW hS hA (fun z_2 ct_2 H locs hq_2 hW hS => ?_)
      obtain ⟨hz, hcc_2⟩ := hq_2
      have hcc_2 := hcc_2.symm
      subst hcc_2
      subst hz
      refine rm_icmp_ge (tgt := 38) hx hb ⟨by omega, by omega⟩ ⟨by omega, by omega⟩ dX6_isStill_10 (by decide) (fun hc_3 => ?_) (fun hc_3 => ?_)
      · skip
        have hi : i8 + 1 = (yn (hy h9)) := by omega
        rw [hi] at hz8
        refine lv_iload_n hx hb dX6_isStill_38 rfl (lv_at hl 1 rfl) ?_
        exact W.zret hx hb hr (by rcases hzr with h | h <;> rw [h] <;> decide) (fun t ht hw => ⟨⟨_, (z8, ct), rfl, ⟨rfl, ⟨hz8, rfl⟩⟩, by show rm_W D ad _ _ t.heap; rw [ht]; exact hW⟩, hS.F ht⟩) hS.2.2 dX6_isStill_39
      · skip
        refine lv_iload_n hx hb dX6_isStill_13 rfl (lv_at hl 1 rfl) ?_
        refine rm_if_eq (tgt := 30) hx hb ⟨by omega, by omega⟩ dX6_isStill_14 (by decide) (fun hc_4 => ?_) (fun hc_4 => ?_)
        · skip
          refine lv_iconst (v := jI 0) hx hb dX6_isStill_30 rfl ?_
          refine lv_istore_n (lv' := [(2, .int (jI 0)), (3, .int (jI (((i8 + 1) : Nat) : Int))), (0, .ref (ad 1000)), (1, .int (jI ((h9 : Nat) : Int)))]) hx hb dX6_isStill_31 rfl hl (by decide) rfl (fun ls hl => ?_)
          refine lv_iinc (v := jI ((((i8 + 1) : Nat) : Int) + 1)) (lv' := [(3, .int (jI ((((i8 + 1) : Nat) : Int) + 1))), (2, .int (jI 0)), (0, .ref (ad 1000)), (1, .int (jI ((h9 : Nat) : Int)))]) hx hb dX6_isStill_32 hl (k := 1) rfl (jI_add _ _) (by decide) rfl (fun ls hl => ?_)
          refine lv_goto (tgt := 4) hx hb dX6_isStill_35 (by decide) ?_
          exact ih_LP (i8 + 1) (0) (by omega) (by rcases hz8 with h | h; exact absurd h.1 (by omega); exact Or.inr ⟨rfl, h.2⟩) (by omega)  _ _ hW hS ls (lv_sub hl [0, 1, 2, 3] rfl)
        · skip
          have hz1 : z8 = 1 := by omega
          refine lv_aload_n hx hb dX6_isStill_17 rfl (lv_at hl 2 rfl) ?_
          refine lv_iload_n hx hb dX6_isStill_18 rfl (lv_at hl 3 rfl) ?_
          refine lv_iload_n hx hb dX6_isStill_19 rfl (lv_at hl 0 rfl) ?_
          refine rm_calli (va_runV (As := [.int (jI ((h9 : Nat) : Int)), .int (jI (((i8 + 1) : Nat) : Int))]) (rest := []) ⟨hx, hb, hml, hown, hts⟩ (c_X6_may l D ty ad ct H.size th yc hc yn yM yu hy hg hf mA pt ro ke kt mu sl tw bw de hMo h9 hh9 hyh hn9 hM9 (i8 + 1) (by omega) (hg64 _ (by omega) (by omega))) (cwV 2 hts gX6_isStill_X6_may rfl rfl rfl (by decide +kernel) ⟨Nat.le_of_ble_eq_true rfl, Nat.le_of_ble_eq_true rfl⟩) (rm_preV hK hNw hW hMo.1 rfl) rfl rfl hl.1 rfl (lv_room (Nat.le_of_ble_eq_true rfl)) dX6_isStill_20 ⟨Nat.zero_le _, Nat.zero_le _⟩) hW hS hA (fun z_5 ct_5 H locs hq_5 hW hS => ?_)
          obtain ⟨hz, hcc_5⟩ := hq_5
          have hcc_5 := hcc_5.symm
          subst hcc_5
          by_cases hww : dg (yn (hy h9)) (yM (hy h9)) (i8 + 1) ≤ hg h9 (i8 + 1)
          · skip
            rw [if_pos hww] at hz
            subst hz
            refine rm_if_ne (tgt := 30) hx hb ⟨by omega, by omega⟩ dX6_isStill_23 (by decide) (fun _ => ?_) (fun hq => absurd hq (by omega))
            refine lv_iconst (v := jI 0) hx hb dX6_isStill_30 rfl ?_
            refine lv_istore_n (lv' := [(2, .int (jI 0)), (3, .int (jI (((i8 + 1) : Nat) : Int))), (0, .ref (ad 1000)), (1, .int (jI ((h9 : Nat) : Int)))]) hx hb dX6_isStill_31 rfl hl (by decide) rfl (fun ls hl => ?_)
            refine lv_iinc (v := jI ((((i8 + 1) : Nat) : Int) + 1)) (lv' := [(3, .int (jI ((((i8 + 1) : Nat) : Int) + 1))), (2, .int (jI 0)), (0, .ref (ad 1000)), (1, .int (jI ((h9 : Nat) : Int)))]) hx hb dX6_isStill_32 hl (k := 1) rfl (jI_add _ _) (by decide) rfl (fun ls hl => ?_)
            refine lv_goto (tgt := 4) hx hb dX6_isStill_35 (by decide) ?_
            exact ih_LP (i8 + 1) (0) (by omega) (Or.inr ⟨rfl, _, by omega, by omega, hww⟩) (by omega)  _ _ hW hS ls (lv_sub hl [0, 1, 2, 3] rfl)
          · skip
            rw [if_neg hww] at hz
            subst hz
            refine rm_if_ne (tgt := 30) hx hb ⟨by omega, by omega⟩ dX6_isStill_23 (by decide) (fun hq => absurd hq (by omega)) (fun _ => ?_)
            refine lv_iconst (v := jI 1) hx hb dX6_isStill_26 rfl ?_
            refine lv_goto (tgt := 31) hx hb dX6_isStill_27 (by decide) ?_
            refine lv_istore_n (lv' := [(2, .int (jI 1)), (3, .int (jI (((i8 + 1) : Nat) : Int))), (0, .ref (ad 1000)), (1, .int (jI ((h9 : Nat) : Int)))]) hx hb dX6_isStill_31 rfl hl (by decide) rfl (fun ls hl => ?_)
            refine lv_iinc (v := jI ((((i8 + 1) : Nat) : Int) + 1)) (lv' := [(3, .int (jI ((((i8 + 1) : Nat) : Int) + 1))), (2, .int (jI 1)), (0, .ref (ad 1000)), (1, .int (jI ((h9 : Nat) : Int)))]) hx hb dX6_isStill_32 hl (k := 1) rfl (jI_add _ _) (by decide) rfl (fun ls hl => ?_)
            refine lv_goto (tgt := 4) hx hb dX6_isStill_35 (by decide) ?_
            exact ih_LP (i8 + 1) (1) (by omega) (by rcases hz8 with h | h; exact Or.inl ⟨rfl, fun q h1 h2 => by rcases Nat.lt_or_ge q (i8 + 1) with h3 | h3; exact h.2 q h1 h3; rw [show q = i8 + 1 by omega]; omega⟩; exact absurd h.1 (by omega)) (by omega)  _ _ hW hS ls (lv_sub hl [0, 1, 2, 3] rfl)
  exact LP ((yn (hy h9)) + 1) (0) (1) (by omega) (Or.inl ⟨rfl, fun q h1 h2 => by omega⟩) (by omega)  _ _ hW hS ls (lv_sub hl [0, 1, 2, 3] rfl)
set_option maxHeartbeats 4000000 in
set_option maxRecDepth 100000 in
theorem c_X6_settles (l : Launch) (D : va_G) (ty : Nat → ClassId) (ad : Nat → Nat) (ct : rm_C) (sz : Nat) (th : Int) (yc hc : Nat) (yn : Nat → Nat) (yM : Nat → Nat → Nat → Int) (yu : Nat → Int) (hy : Nat → Nat) (hg hf mA : Nat → Nat → Int) (pt ro ke kt mu sl tw bw de : Nat → Int) (hMo : ModAt ty ad ct th yc hc yn yM yu hy hg hf mA pt ro ke kt mu sl tw bw de) (h9 : Nat) (hh9 : h9 < 20) (hyh : hy h9 < 6) (hn9 : 2 ≤ yn (hy h9) ∧ yn (hy h9) ≤ 8) (hM9 : ∀ i j, 0 ≤ yM (hy h9) i j ∧ yM (hy h9) i j ≤ 3) (hms : mst9 (yn (hy h9)) (yM (hy h9))) (hg0 : ∀ q, 1 ≤ q → q < (yn (hy h9)) → 0 ≤ hg h9 q) (hB : psum (yn (hy h9)) (hg h9) ≤ 1000000000) : Met l yX6_settles wsX6_settles ({ frames := 4, cells := 0, slots := 0, locals := 92 }) (rm_P D ty ad ct sz [.ref (ad 1000), .int (jI ((h9 : Nat) : Int))]) (rm_Ql D ad ct sz (fun z ct1 => ∃ v, stl (yn (hy h9)) (yM (hy h9)) (hg h9) v ∧ z = gs v (yn (hy h9)) ∧ ct1 1005 = some (rl ty 160 (fl 8 (ub hg h9 (gaf (yn (hy h9)) (yM (hy h9)) (hg h9) v)))) ∧ ct1 1006 = some (rl ty 160 (fl 8 (ub hf h9 v))) ∧ (∀ q, q ≠ 1005 → q ≠ 1006 → ct1 q = ct q))) 0 0 (rm_A ad ct sz) := by
  refine Met.ofW (cc := cX6_settles) (maxL := 7) (ret := (some .long)) (by decide) rfl ?_
  intro p e s m args below meth c s₁ B hml hv
  obtain ⟨hargs, hsz, hW, hK, hNw⟩ := hv
  have hx := B.exec
  have hb := B.bytes
  have hr := B.returns
  have hts := atoms_spec (ws := wsX6_settles) B.pre
  have hown : s.vm.findClass RX6 = some m.cls := findClass_of_methodNamed B.named
  have hlocks := B.notSynchronized
  subst hsz
  have hW := hW.own (sz := s.heap.size)
  have hA : ∀ q : Nat, s.heap.size ≤ q → rm_A ad ct s.heap.size q := fun q h => Or.inr h
  have hS : va_S (rm_A ad ct s.heap.size) s.heap s.heap [] := va_S.rf
  have hent : entryFrame m args 7 = entryFrame m ([.ref (ad 1000), .int (jI ((h9 : Nat) : Int))] : List Value).toArray 7 := by rw [hargs]
  have hl := lv_entry ([.ref (ad 1000), .int (jI ((h9 : Nat) : Int))]) (n := 7) (Nat.le_of_ble_eq_true rfl)
  rw [hent, lg_entry_eq]
  generalize (lg_sl ([.ref (ad 1000), .int (jI ((h9 : Nat) : Int))]) ++ List.replicate (7 - (lg_sl ([.ref (ad 1000), .int (jI ((h9 : Nat) : Int))])).length) Slot.unset).toArray = ls at hl ⊢
  have hl : lv_has ls 7 [(0, .ref (ad 1000)), (1, .int (jI ((h9 : Nat) : Int)))] := hl
  obtain ⟨hyk, hd1, hTT⟩ := hms
  obtain ⟨s0, he0⟩ := hTT _ hg0 hB
  refine lv_lconst (v := jL 0) hx hb dX6_settles_0 rfl ?_
  refine lv_lstore_n (lv' := [(2, .long (jL 0)), (0, .ref (ad 1000)), (1, .int (jI ((h9 : Nat) : Int)))]) hx hb dX6_settles_1 rfl hl (by decide) rfl (fun ls hl => ?_)
  refine lv_iconst (v := jI 0) hx hb dX6_settles_2 rfl ?_
  refine lv_istore (lv' := [(4, .int (jI 0)), (2, .long (jL 0)), (0, .ref (ad 1000)), (1, .int (jI ((h9 : Nat) : Int)))]) hx hb dX6_settles_3 hl (by decide) rfl (fun ls hl => ?_)
  have h06 : ct 1006 = some (rl ty 160 (fl 8 (ub hf h9 (zer 0 (hf h9))))) := hMo.2.2.2.2.2.2.1.trans (congrArg (fun G => some (rl ty 160 (fl 8 G))) (by rw [zer_0, ub_self]))
  have h05 : ct 1005 = some (rl ty 160 (fl 8 (ub hg h9 (gaf (yn (hy h9)) (yM (hy h9)) (hg h9) (its (yn (hy h9)) (yM (hy h9)) (hg h9) (dwn (yn (hy h9))) 0))))) := hMo.2.2.2.2.2.1.trans (congrArg (fun G => some (rl ty 160 (fl 8 G))) (by rw [show its (yn (hy h9)) (yM (hy h9)) (hg h9) (dwn (yn (hy h9))) 0 = fun _ => 0 from rfl, gaf_0, ub_self]))
  have LZ : ∀ (k : Nat) (i8 : Nat) (hi8 : i8 ≤ 8), 8 - i8 < k → ∀ (ctv : rm_C) (H : Heap) (locs : List Loc), (ctv 1005 = some (rl ty 160 (fl 8 (ub hg h9 (gaf (yn (hy h9)) (yM (hy h9)) (hg h9) (its (yn (hy h9)) (yM (hy h9)) (hg h9) (dwn (yn (hy h9))) 0)))))) → ∀ (_ : True), (ctv 1006 = some (rl ty 160 (fl 8 (ub hf h9 (zer i8 (hf h9)))))) → ∀ (_ : True), (∀ q, q ≠ 1005 → q ≠ 1006 → ctv q = ct q) → ∀ (_ : True), rm_W D ad ctv (rm_A ad ct s.heap.size) H → va_S (rm_A ad ct s.heap.size) s.heap H locs → ∀ ls : Array Slot, lv_has ls 7 [(4, .int (jI ((i8 : Nat) : Int))), (2, .long (jL 0)), (0, .ref (ad 1000)), (1, .int (jI ((h9 : Nat) : Int)))] → W p l e (headSpec wsX6_settles ({ frames := 4, cells := 0, slots := 0, locals := 92 })).room s m args below meth c H locs 0 0 (MQ below (rm_Ql D ad ct s.heap.size (fun z ct1 => ∃ v, stl (yn (hy h9)) (yM (hy h9)) (hg h9) v ∧ z = gs v (yn (hy h9)) ∧ ct1 1005 = some (rl ty 160 (fl 8 (ub hg h9 (gaf (yn (hy h9)) (yM (hy h9)) (hg h9) v)))) ∧ ct1 1006 = some (rl ty 160 (fl 8 (ub hf h9 v))) ∧ (∀ q, q ≠ 1005 → q ≠ 1006 → ct1 q = ct q))) args s 0 0 (rm_A ad ct s.heap.size)) (F0 m 5 ls []) := by
    intro k
    induction k with
    | zero => intro i8 hi8 hk; exact absurd hk (Nat.not_lt_zero _)
    | succ k ih_LZ =>
      intro i8 hi8 hk ctv_1 H locs hv0_1 _ hv1_1 _ hofv_1 _ hW hS ls hl
      refine lv_iload hx hb dX6_settles_5 (lv_at hl 0 rfl) ?_
      refine lv_bipush (v := jI 8) hx hb dX6_settles_7 (by decide) ?_
      refine rm_icmp_ge (tgt := 31) hx hb ⟨by omega, by omega⟩ ⟨by omega, by omega⟩ dX6_settles_9 (by decide) (fun hc_2 => ?_) (fun hc_2 => ?_)
      · skip
        have hi : i8 = 8 := by omega
        subst hi
        have hl : lv_has ls 7 [(2, .long (jL 0)), (0, .ref (ad 1000)), (1, .int (jI ((h9 : Nat) : Int)))] := lv_sub hl [1, 2, 3] rfl
        have hk_3 : ctv_1 1006 = some (rl ty 160 (fl 8 (ub hf h9 (its (yn (hy h9)) (yM (hy h9)) (hg h9) (dwn (yn (hy h9))) 0)))) := hv1_1.trans (congrArg (fun f => some (rl ty 160 f)) (zer_8 _ _ _))
        have hl : lv_has ls 7 [(2, .long (jL (gs (its (yn (hy h9)) (yM (hy h9)) (hg h9) (dwn (yn (hy h9))) 0) (yn (hy h9))))), (0, .ref (ad 1000)), (1, .int (jI ((h9 : Nat) : Int)))] := by rw [show gs (its (yn (hy h9)) (yM (hy h9)) (hg h9) (dwn (yn (hy h9))) 0) (yn (hy h9)) = 0 from gs_zero (fun _ _ => rfl)]; exact hl
        have OUT : ∀ (k : Nat) (s9 : Nat) (hs9 : s9 ≤ s0), s0 - s9 < k → ∀ (ctv : rm_C) (H : Heap) (locs : List Loc), (ctv 1005 = some (rl ty 160 (fl 8 (ub hg h9 (gaf (yn (hy h9)) (yM (hy h9)) (hg h9) (its (yn (hy h9)) (yM (hy h9)) (hg h9) (dwn (yn (hy h9))) s9)))))) → ∀ (_ : True), (ctv 1006 = some (rl ty 160 (fl 8 (ub hf h9 (its (yn (hy h9)) (yM (hy h9)) (hg h9) (dwn (yn (hy h9))) s9))))) → ∀ (_ : True), (∀ q, q ≠ 1005 → q ≠ 1006 → ctv q = ct q) → ∀ (_ : True), rm_W D ad ctv (rm_A ad ct s.heap.size) H → va_S (rm_A ad ct s.heap.size) s.heap H locs → ∀ ls : Array Slot, lv_has ls 7 [(2, .long (jL (gs (its (yn (hy h9)) (yM (hy h9)) (hg h9) (dwn (yn (hy h9))) s9) (yn (hy h9))))), (0, .ref (ad 1000)), (1, .int (jI ((h9 : Nat) : Int)))] → W p l e (headSpec wsX6_settles ({ frames := 4, cells := 0, slots := 0, locals := 92 })).room s m args below meth c H locs 0 0 (MQ below (rm_Ql D ad ct s.heap.size (fun z ct1 => ∃ v, stl (yn (hy h9)) (yM (hy h9)) (hg h9) v ∧ z = gs v (yn (hy h9)) ∧ ct1 1005 = some (rl ty 160 (fl 8 (ub hg h9 (gaf (yn (hy h9)) (yM (hy h9)) (hg h9) v)))) ∧ ct1 1006 = some (rl ty 160 (fl 8 (ub hf h9 v))) ∧ (∀ q, q ≠ 1005 → q ≠ 1006 → ct1 q = ct q))) args s 0 0 (rm_A ad ct s.heap.size)) (F0 m 31 ls []) := by
          intro k
          induction k with
          | zero => intro s9 hs9 hk; exact absurd hk (Nat.not_lt_zero _)
          | succ k ih_OUT =>
            intro s9 hs9 hk ctv_4 H locs hv0_4 _ hv1_4 _ hofv_4 _ hW hS ls hl
            have hon := onw_its (σ := dwn (yn (hy h9))) hyk dwn_in hg0 s9
            have h64 : ∀ q, 1 ≤ q → q < (yn (hy h9)) → r64 ((gaf (yn (hy h9)) (yM (hy h9)) (hg h9) (its (yn (hy h9)) (yM (hy h9)) (hg h9) (dwn (yn (hy h9))) s9)) q) := fun q a b => by
              have h1 := hon.2.2.2.2.1 q a b
              have h2 := psum_ge hon.2.2.2.2.1 a b
              have h3 := hon.2.2.2.2.2
              unfold gaf; rw [if_pos b]; exact ⟨by omega, by omega⟩
            refine lv_aload_n hx hb dX6_settles_31 rfl (lv_at hl 1 rfl) ?_
            refine lv_iload_n hx hb dX6_settles_32 rfl (lv_at hl 2 rfl) ?_
            refine rm_calli (va_runV (As := [.int (jI ((h9 : Nat) : Int))]) (rest := []) ⟨hx, hb, hml, hown, hts⟩ (c_X6_isStill l D ty ad ctv_4 H.size th yc hc yn yM yu hy (ub hg h9 (gaf (yn (hy h9)) (yM (hy h9)) (hg h9) (its (yn (hy h9)) (yM (hy h9)) (hg h9) (dwn (yn (hy h9))) s9))) (ub hf h9 (its (yn (hy h9)) (yM (hy h9)) (hg h9) (dwn (yn (hy h9))) s9)) mA pt ro ke kt mu sl tw bw de ⟨((hofv_4 1000 (by omega) (by omega)).trans hMo.1), ((hofv_4 1001 (by omega) (by omega)).trans hMo.2.1), ((hofv_4 1002 (by omega) (by omega)).trans hMo.2.2.1), ((hofv_4 1003 (by omega) (by omega)).trans hMo.2.2.2.1), ((hofv_4 1004 (by omega) (by omega)).trans hMo.2.2.2.2.1), hv0_4, hv1_4, ((hofv_4 1007 (by omega) (by omega)).trans hMo.2.2.2.2.2.2.2.1), ((hofv_4 1008 (by omega) (by omega)).trans hMo.2.2.2.2.2.2.2.2.1), ((hofv_4 1009 (by omega) (by omega)).trans hMo.2.2.2.2.2.2.2.2.2.1), ((hofv_4 1010 (by omega) (by omega)).trans hMo.2.2.2.2.2.2.2.2.2.2.1), ((hofv_4 1011 (by omega) (by omega)).trans hMo.2.2.2.2.2.2.2.2.2.2.2.1), ((hofv_4 1012 (by omega) (by omega)).trans hMo.2.2.2.2.2.2.2.2.2.2.2.2.1), ((hofv_4 1013 (by omega) (by omega)).trans hMo.2.2.2.2.2.2.2.2.2.2.2.2.2.1), ((hofv_4 1014 (by omega) (by omega)).trans hMo.2.2.2.2.2.2.2.2.2.2.2.2.2.2.1), ((hofv_4 1015 (by omega) (by omega)).trans hMo.2.2.2.2.2.2.2.2.2.2.2.2.2.2.2.1), ((hofv_4 1016 (by omega) (by omega)).trans hMo.2.2.2.2.2.2.2.2.2.2.2.2.2.2.2.2)⟩ h9 hh9 hyh hn9 hM9 (fun q a b => by rw [ub_s]; exact h64 q a b)) (cwV 1 hts gX6_settles_X6_isStill rfl rfl rfl (by decide +kernel) ⟨Nat.le_of_ble_eq_true rfl, Nat.le_of_ble_eq_true rfl⟩) (rm_preV hK hNw hW ((hofv_4 1000 (by omega) (by omega)).trans hMo.1) rfl) rfl rfl hl.1 rfl (lv_room (Nat.le_of_ble_eq_true rfl)) dX6_settles_33 ⟨Nat.zero_le _, Nat.zero_le _⟩) hW hS hA (fun z_5 ct_5 H locs hq_5 hW hS => ?_)
            obtain ⟨hz, hcc_5⟩ := hq_5
            have hcc_5 := hcc_5.symm
            subst hcc_5
            rw [ub_s] at hz
            have hzr : z_5 = 0 ∨ z_5 = 1 := by rcases hz with h | h; exact Or.inr h.1; exact Or.inl h.1
            refine rm_if_ne (tgt := 131) hx hb ⟨by omega, by omega⟩ dX6_settles_36 (by decide) (fun hc_6 => ?_) (fun hc_6 => ?_)
            · skip
              have hst9 : stb (yn (hy h9)) (yM (hy h9)) (af (yn (hy h9)) (yM (hy h9)) (hg h9) (its (yn (hy h9)) (yM (hy h9)) (hg h9) (dwn (yn (hy h9))) s9)) := fun q a b => by
                rcases hz with h | h
                · have h1 := h.2 q a b; unfold gaf at h1; rw [if_pos b] at h1; exact h1
                · exact absurd h.1 (by omega)
              refine lv_lload_n hx hb dX6_settles_131 rfl (lv_at hl 0 rfl) ?_
              exact W.lret hx hb hr (fun t ht hw => ⟨⟨_, ((gs (its (yn (hy h9)) (yM (hy h9)) (hg h9) (dwn (yn (hy h9))) s9) (yn (hy h9))), ctv_4), rfl, ⟨rfl, ⟨(its (yn (hy h9)) (yM (hy h9)) (hg h9) (dwn (yn (hy h9))) s9), ⟨hon.1, hon.2.1, hon.2.2.1, hst9, hon.2.2.2.1⟩, rfl, hv0_4, hv1_4, fun q h1 h2 => hofv_4 q h1 h2⟩⟩, by show rm_W D ad _ _ t.heap; rw [ht]; exact hW⟩, hS.F ht⟩) hS.2.2 dX6_settles_132
            · skip
              have hlt : s9 < s0 := by
                rcases Nat.lt_or_ge s9 s0 with h | h
                · exact h
                · exfalso
                  have e9 : s9 = s0 := by omega
                  subst e9
                  have hst := sw_still hyk dwn_in dwn_all hd1 hon he0
                  rcases hz with h | ⟨-, q, a, b, hq⟩
                  · exact absurd h.1 (by omega)
                  · have h1 := hst.2.2.2.1 q a b; unfold gaf at hq; rw [if_pos b] at hq; omega
              refine lv_aload_n hx hb dX6_settles_39 rfl (lv_at hl 1 rfl) ?_
              refine lv_iload_n hx hb dX6_settles_40 rfl (lv_at hl 2 rfl) ?_
              refine rm_calli (va_runV (As := [.int (jI ((h9 : Nat) : Int))]) (rest := []) ⟨hx, hb, hml, hown, hts⟩ (c_X6_size l D ty ad ctv_4 H.size th yc hc yn yM yu hy (ub hg h9 (gaf (yn (hy h9)) (yM (hy h9)) (hg h9) (its (yn (hy h9)) (yM (hy h9)) (hg h9) (dwn (yn (hy h9))) s9))) (ub hf h9 (its (yn (hy h9)) (yM (hy h9)) (hg h9) (dwn (yn (hy h9))) s9)) mA pt ro ke kt mu sl tw bw de ⟨((hofv_4 1000 (by omega) (by omega)).trans hMo.1), ((hofv_4 1001 (by omega) (by omega)).trans hMo.2.1), ((hofv_4 1002 (by omega) (by omega)).trans hMo.2.2.1), ((hofv_4 1003 (by omega) (by omega)).trans hMo.2.2.2.1), ((hofv_4 1004 (by omega) (by omega)).trans hMo.2.2.2.2.1), hv0_4, hv1_4, ((hofv_4 1007 (by omega) (by omega)).trans hMo.2.2.2.2.2.2.2.1), ((hofv_4 1008 (by omega) (by omega)).trans hMo.2.2.2.2.2.2.2.2.1), ((hofv_4 1009 (by omega) (by omega)).trans hMo.2.2.2.2.2.2.2.2.2.1), ((hofv_4 1010 (by omega) (by omega)).trans hMo.2.2.2.2.2.2.2.2.2.2.1), ((hofv_4 1011 (by omega) (by omega)).trans hMo.2.2.2.2.2.2.2.2.2.2.2.1), ((hofv_4 1012 (by omega) (by omega)).trans hMo.2.2.2.2.2.2.2.2.2.2.2.2.1), ((hofv_4 1013 (by omega) (by omega)).trans hMo.2.2.2.2.2.2.2.2.2.2.2.2.2.1), ((hofv_4 1014 (by omega) (by omega)).trans hMo.2.2.2.2.2.2.2.2.2.2.2.2.2.2.1), ((hofv_4 1015 (by omega) (by omega)).trans hMo.2.2.2.2.2.2.2.2.2.2.2.2.2.2.2.1), ((hofv_4 1016 (by omega) (by omega)).trans hMo.2.2.2.2.2.2.2.2.2.2.2.2.2.2.2.2)⟩ h9 hh9 hyh) (cwV 1 hts gX6_settles_X6_size rfl rfl rfl (by decide +kernel) ⟨Nat.le_of_ble_eq_true rfl, Nat.le_of_ble_eq_true rfl⟩) (rm_preV hK hNw hW ((hofv_4 1000 (by omega) (by omega)).trans hMo.1) rfl) rfl rfl hl.1 rfl (lv_room (Nat.le_of_ble_eq_true rfl)) dX6_settles_41 ⟨Nat.zero_le _, Nat.zero_le _⟩) hW hS hA (fun z_7 ct_7 H locs hq_7 hW hS => ?_)
              obtain ⟨hz, hcc_7⟩ := hq_7
              have hcc_7 := hcc_7.symm
              subst hcc_7
              subst hz
              refine lv_iconst (v := jI 1) hx hb dX6_settles_44 rfl ?_
              refine rm_isub hx hb dX6_settles_45 ?_
              refine lv_istore (lv' := [(4, .int (jI ((((yn (hy h9)) : Nat) : Int) - 1))), (2, .long (jL (gs (its (yn (hy h9)) (yM (hy h9)) (hg h9) (dwn (yn (hy h9))) s9) (yn (hy h9))))), (0, .ref (ad 1000)), (1, .int (jI ((h9 : Nat) : Int)))]) hx hb dX6_settles_46 hl (by decide) rfl (fun ls hl => ?_)
              have hl : lv_has ls 7 [(4, .int (jI ((((yn (hy h9)) - 1) : Nat) : Int))), (2, .long (jL (gs (sw (yn (hy h9)) (yM (hy h9)) (hg h9) (dwn (yn (hy h9))) ((yn (hy h9)) - 1 - ((yn (hy h9)) - 1)) (its (yn (hy h9)) (yM (hy h9)) (hg h9) (dwn (yn (hy h9))) s9)) (yn (hy h9))))), (0, .ref (ad 1000)), (1, .int (jI ((h9 : Nat) : Int)))] := by rw [show (((yn (hy h9)) - 1 : Nat) : Int) = (((yn (hy h9)) : Nat) : Int) - 1 by omega, show (yn (hy h9)) - 1 - ((yn (hy h9)) - 1) = 0 by omega]; exact hl
              have hk_8 : ctv_4 1005 = some (rl ty 160 (fl 8 (ub hg h9 (gaf (yn (hy h9)) (yM (hy h9)) (hg h9) (sw (yn (hy h9)) (yM (hy h9)) (hg h9) (dwn (yn (hy h9))) ((yn (hy h9)) - 1 - ((yn (hy h9)) - 1)) (its (yn (hy h9)) (yM (hy h9)) (hg h9) (dwn (yn (hy h9))) s9)))))) := hv0_4.trans (congrArg (fun G => some (rl ty 160 (fl 8 G))) (by rw [show (yn (hy h9)) - 1 - ((yn (hy h9)) - 1) = 0 by omega]; rfl))
              have hk_9 : ctv_4 1006 = some (rl ty 160 (fl 8 (ub hf h9 (sw (yn (hy h9)) (yM (hy h9)) (hg h9) (dwn (yn (hy h9))) ((yn (hy h9)) - 1 - ((yn (hy h9)) - 1)) (its (yn (hy h9)) (yM (hy h9)) (hg h9) (dwn (yn (hy h9))) s9))))) := hv1_4.trans (congrArg (fun G => some (rl ty 160 (fl 8 G))) (by rw [show (yn (hy h9)) - 1 - ((yn (hy h9)) - 1) = 0 by omega]; rfl))
              have INN : ∀ (k : Nat) (p8 : Nat) (hp8 : p8 ≤ (yn (hy h9)) - 1), p8 < k → ∀ (ctv : rm_C) (H : Heap) (locs : List Loc), (ctv 1005 = some (rl ty 160 (fl 8 (ub hg h9 (gaf (yn (hy h9)) (yM (hy h9)) (hg h9) (sw (yn (hy h9)) (yM (hy h9)) (hg h9) (dwn (yn (hy h9))) ((yn (hy h9)) - 1 - p8) (its (yn (hy h9)) (yM (hy h9)) (hg h9) (dwn (yn (hy h9))) s9))))))) → ∀ (_ : True), (ctv 1006 = some (rl ty 160 (fl 8 (ub hf h9 (sw (yn (hy h9)) (yM (hy h9)) (hg h9) (dwn (yn (hy h9))) ((yn (hy h9)) - 1 - p8) (its (yn (hy h9)) (yM (hy h9)) (hg h9) (dwn (yn (hy h9))) s9)))))) → ∀ (_ : True), (∀ q, q ≠ 1005 → q ≠ 1006 → ctv q = ct q) → ∀ (_ : True), rm_W D ad ctv (rm_A ad ct s.heap.size) H → va_S (rm_A ad ct s.heap.size) s.heap H locs → ∀ ls : Array Slot, lv_has ls 7 [(4, .int (jI ((p8 : Nat) : Int))), (2, .long (jL (gs (sw (yn (hy h9)) (yM (hy h9)) (hg h9) (dwn (yn (hy h9))) ((yn (hy h9)) - 1 - p8) (its (yn (hy h9)) (yM (hy h9)) (hg h9) (dwn (yn (hy h9))) s9)) (yn (hy h9))))), (0, .ref (ad 1000)), (1, .int (jI ((h9 : Nat) : Int)))] → W p l e (headSpec wsX6_settles ({ frames := 4, cells := 0, slots := 0, locals := 92 })).room s m args below meth c H locs 0 0 (MQ below (rm_Ql D ad ct s.heap.size (fun z ct1 => ∃ v, stl (yn (hy h9)) (yM (hy h9)) (hg h9) v ∧ z = gs v (yn (hy h9)) ∧ ct1 1005 = some (rl ty 160 (fl 8 (ub hg h9 (gaf (yn (hy h9)) (yM (hy h9)) (hg h9) v)))) ∧ ct1 1006 = some (rl ty 160 (fl 8 (ub hf h9 v))) ∧ (∀ q, q ≠ 1005 → q ≠ 1006 → ct1 q = ct q))) args s 0 0 (rm_A ad ct s.heap.size)) (F0 m 48 ls []) := by
                intro k
                induction k with
                | zero => intro p8 hp8 hk; exact absurd hk (Nat.not_lt_zero _)
                | succ k ih_INN =>
                  intro p8 hp8 hk ctv_10 H locs hv0_10 _ hv1_10 _ hofv_10 _ hW hS ls hl
                  have hon2 := onw_sw (k := (yn (hy h9)) - 1 - p8) hyk dwn_in hon (by omega)
                  refine lv_iload hx hb dX6_settles_48 (lv_at hl 0 rfl) ?_
                  refine rm_if_le (tgt := 128) hx hb ⟨by omega, by omega⟩ dX6_settles_50 (by decide) (fun hc_11 => ?_) (fun hc_11 => ?_)
                  · skip
                    have hp0 : p8 = 0 := by omega
                    have hl : lv_has ls 7 [(2, .long (jL (gs (sw (yn (hy h9)) (yM (hy h9)) (hg h9) (dwn (yn (hy h9))) ((yn (hy h9)) - 1 - p8) (its (yn (hy h9)) (yM (hy h9)) (hg h9) (dwn (yn (hy h9))) s9)) (yn (hy h9))))), (0, .ref (ad 1000)), (1, .int (jI ((h9 : Nat) : Int)))] := lv_sub hl [1, 2, 3] rfl
                    have hk_12 : ctv_10 1005 = some (rl ty 160 (fl 8 (ub hg h9 (gaf (yn (hy h9)) (yM (hy h9)) (hg h9) (its (yn (hy h9)) (yM (hy h9)) (hg h9) (dwn (yn (hy h9))) (s9 + 1)))))) := hv0_10.trans (congrArg (fun G => some (rl ty 160 (fl 8 G))) (by rw [hp0]; rfl))
                    have hk_13 : ctv_10 1006 = some (rl ty 160 (fl 8 (ub hf h9 (its (yn (hy h9)) (yM (hy h9)) (hg h9) (dwn (yn (hy h9))) (s9 + 1))))) := hv1_10.trans (congrArg (fun G => some (rl ty 160 (fl 8 G))) (by rw [hp0]; rfl))
                    have hl : lv_has ls 7 [(2, .long (jL (gs (its (yn (hy h9)) (yM (hy h9)) (hg h9) (dwn (yn (hy h9))) (s9 + 1)) (yn (hy h9))))), (0, .ref (ad 1000)), (1, .int (jI ((h9 : Nat) : Int)))] := by rw [hp0] at hl; exact hl
                    refine lv_goto (tgt := 31) hx hb dX6_settles_128 (by decide) ?_
                    exact ih_OUT (s9 + 1) (by omega) (by omega) ctv_10 _ _ hk_12 trivial hk_13 trivial hofv_10 trivial hW hS ls (lv_sub hl [0, 1, 2] rfl)
                  · skip
                    have hp1 : 1 ≤ p8 := by omega
                    have hp2 : p8 < (yn (hy h9)) := by omega
                    have hd1p := hd1 p8 hp1 hp2
                    have hok := due_ok hon2 hp1 hp2 hd1p
                    have hdl := dg_le hyk hp2
                    have hsd := sw_dwn (n := (yn (hy h9))) (M := (yM (hy h9))) (g := hg h9) (u := (its (yn (hy h9)) (yM (hy h9)) (hg h9) (dwn (yn (hy h9))) s9)) hp1 hp2
                    have hgq : (gaf (yn (hy h9)) (yM (hy h9)) (hg h9) (sw (yn (hy h9)) (yM (hy h9)) (hg h9) (dwn (yn (hy h9))) ((yn (hy h9)) - 1 - p8) (its (yn (hy h9)) (yM (hy h9)) (hg h9) (dwn (yn (hy h9))) s9))) p8 = af (yn (hy h9)) (yM (hy h9)) (hg h9) (sw (yn (hy h9)) (yM (hy h9)) (hg h9) (dwn (yn (hy h9))) ((yn (hy h9)) - 1 - p8) (its (yn (hy h9)) (yM (hy h9)) (hg h9) (dwn (yn (hy h9))) s9)) p8 := if_pos hp2
                    refine lv_aload_n hx hb dX6_settles_53 rfl (lv_at hl 2 rfl) ?_
                    refine rm_get (ci := 6) (v := .ref (ad 1005)) (C := RX6) (T := TX6) (N := 19) hx hb hts (by decide +kernel) hown hK hW ((hofv_10 1000 (by omega) (by omega)).trans hMo.1) rfl 7 (by decide) (hts (.fieldLink RX6 23 "GrainYardModel" "grains" "[J") (by decide +kernel)) (fun _ h9 => h9) rfl dX6_settles_54 ?_
                    refine lv_bipush (v := jI 8) hx hb dX6_settles_57 (by decide) ?_
                    refine lv_iload_n hx hb dX6_settles_59 rfl (lv_at hl 3 rfl) ?_
                    refine rm_imul hx hb dX6_settles_60 ?_
                    refine lv_iload hx hb dX6_settles_61 (lv_at hl 0 rfl) ?_
                    refine rm_iadd hx hb dX6_settles_63 ?_
                    refine rm_lald hx hb hK hW (f := (fl 8 (ub hg h9 (gaf (yn (hy h9)) (yM (hy h9)) (hg h9) (sw (yn (hy h9)) (yM (hy h9)) (hg h9) (dwn (yn (hy h9))) ((yn (hy h9)) - 1 - p8) (its (yn (hy h9)) (yM (hy h9)) (hg h9) (dwn (yn (hy h9))) s9)))))) hv0_10 (8 * h9 + p8) (by first | rfl | (push_cast; omega)) (by omega) (by omega) dX6_settles_64 ?_
                    rw [fl_at (by omega), ub_s]
                    refine lv_aload_n hx hb dX6_settles_65 rfl (lv_at hl 2 rfl) ?_
                    refine lv_aload_n hx hb dX6_settles_66 rfl (lv_at hl 2 rfl) ?_
                    refine rm_get (ci := 6) (v := .ref (ad 1003)) (C := RX6) (T := TX6) (N := 19) hx hb hts (by decide +kernel) hown hK hW ((hofv_10 1000 (by omega) (by omega)).trans hMo.1) rfl 5 (by decide) (hts (.fieldLink RX6 16 "GrainYardModel" "yardOf" "[I") (by decide +kernel)) (fun _ h9 => h9) rfl dX6_settles_67 ?_
                    refine lv_iload_n hx hb dX6_settles_70 rfl (lv_at hl 3 rfl) ?_
                    refine rm_iald hx hb hK hW (f := (fun y => ((hy y : Nat) : Int))) ((hofv_10 1003 (by omega) (by omega)).trans hMo.2.2.2.1) h9 rfl (by omega) (by omega) dX6_settles_71 ?_
                    refine lv_iload hx hb dX6_settles_72 (lv_at hl 0 rfl) ?_
                    refine rm_calli (va_runV (As := [.int (jI ((hy h9 : Nat) : Int)), .int (jI ((p8 : Nat) : Int))]) (rest := [.long (jL ((gaf (yn (hy h9)) (yM (hy h9)) (hg h9) (sw (yn (hy h9)) (yM (hy h9)) (hg h9) (dwn (yn (hy h9))) ((yn (hy h9)) - 1 - p8) (its (yn (hy h9)) (yM (hy h9)) (hg h9) (dwn (yn (hy h9))) s9))) p8))]) ⟨hx, hb, hml, hown, hts⟩ (c_X6_degreeOf l D ty ad ctv_10 H.size th yc hc yn yM yu hy (ub hg h9 (gaf (yn (hy h9)) (yM (hy h9)) (hg h9) (sw (yn (hy h9)) (yM (hy h9)) (hg h9) (dwn (yn (hy h9))) ((yn (hy h9)) - 1 - p8) (its (yn (hy h9)) (yM (hy h9)) (hg h9) (dwn (yn (hy h9))) s9)))) (ub hf h9 (sw (yn (hy h9)) (yM (hy h9)) (hg h9) (dwn (yn (hy h9))) ((yn (hy h9)) - 1 - p8) (its (yn (hy h9)) (yM (hy h9)) (hg h9) (dwn (yn (hy h9))) s9))) mA pt ro ke kt mu sl tw bw de ⟨((hofv_10 1000 (by omega) (by omega)).trans hMo.1), ((hofv_10 1001 (by omega) (by omega)).trans hMo.2.1), ((hofv_10 1002 (by omega) (by omega)).trans hMo.2.2.1), ((hofv_10 1003 (by omega) (by omega)).trans hMo.2.2.2.1), ((hofv_10 1004 (by omega) (by omega)).trans hMo.2.2.2.2.1), hv0_10, hv1_10, ((hofv_10 1007 (by omega) (by omega)).trans hMo.2.2.2.2.2.2.2.1), ((hofv_10 1008 (by omega) (by omega)).trans hMo.2.2.2.2.2.2.2.2.1), ((hofv_10 1009 (by omega) (by omega)).trans hMo.2.2.2.2.2.2.2.2.2.1), ((hofv_10 1010 (by omega) (by omega)).trans hMo.2.2.2.2.2.2.2.2.2.2.1), ((hofv_10 1011 (by omega) (by omega)).trans hMo.2.2.2.2.2.2.2.2.2.2.2.1), ((hofv_10 1012 (by omega) (by omega)).trans hMo.2.2.2.2.2.2.2.2.2.2.2.2.1), ((hofv_10 1013 (by omega) (by omega)).trans hMo.2.2.2.2.2.2.2.2.2.2.2.2.2.1), ((hofv_10 1014 (by omega) (by omega)).trans hMo.2.2.2.2.2.2.2.2.2.2.2.2.2.2.1), ((hofv_10 1015 (by omega) (by omega)).trans hMo.2.2.2.2.2.2.2.2.2.2.2.2.2.2.2.1), ((hofv_10 1016 (by omega) (by omega)).trans hMo.2.2.2.2.2.2.2.2.2.2.2.2.2.2.2.2)⟩ (hy h9) hyh hn9 hM9 p8 (by omega)) (cwV 2 hts gX6_settles_X6_degreeOf rfl rfl rfl (by decide +kernel) ⟨Nat.le_of_ble_eq_true rfl, Nat.le_of_ble_eq_true rfl⟩) (rm_preV hK hNw hW ((hofv_10 1000 (by omega) (by omega)).trans hMo.1) rfl) rfl rfl hl.1 rfl (lv_room (Nat.le_of_ble_eq_true rfl)) dX6_settles_74 ⟨Nat.zero_le _, Nat.zero_le _⟩) hW hS hA (fun z_14 ct_14 H locs hq_14 hW hS => ?_)
                    obtain ⟨hz, hcc_14⟩ := hq_14
                    have hcc_14 := hcc_14.symm
                    subst hcc_14
                    subst hz
                    refine rm_i2l hx hb dX6_settles_77 ⟨by omega, by omega⟩ ?_
                    rw [hgq]
                    refine rm_ldiv hx hb dX6_settles_78 ⟨by omega, by omega⟩ ⟨by omega, by omega⟩ (by omega) ?_
                    refine lv_lstore (lv' := [(5, .long (jL (Int.tdiv (af (yn (hy h9)) (yM (hy h9)) (hg h9) (sw (yn (hy h9)) (yM (hy h9)) (hg h9) (dwn (yn (hy h9))) ((yn (hy h9)) - 1 - p8) (its (yn (hy h9)) (yM (hy h9)) (hg h9) (dwn (yn (hy h9))) s9)) p8) (dg (yn (hy h9)) (yM (hy h9)) p8)))), (4, .int (jI ((p8 : Nat) : Int))), (2, .long (jL (gs (sw (yn (hy h9)) (yM (hy h9)) (hg h9) (dwn (yn (hy h9))) ((yn (hy h9)) - 1 - p8) (its (yn (hy h9)) (yM (hy h9)) (hg h9) (dwn (yn (hy h9))) s9)) (yn (hy h9))))), (0, .ref (ad 1000)), (1, .int (jI ((h9 : Nat) : Int)))]) hx hb dX6_settles_79 hl (by decide) rfl (fun ls hl => ?_)
                    refine lv_lload hx hb dX6_settles_81 (lv_at hl 0 rfl) ?_
                    refine lv_lconst (v := jL 0) hx hb dX6_settles_83 rfl ?_
                    refine rm_lcmp hx hb ⟨by omega, by omega⟩ ⟨by omega, by omega⟩ dX6_settles_84 ?_
                    refine rm_if_ne (tgt := 91) hx hb (lcv_rng _ _) dX6_settles_85 (by decide) (fun hc_15 => ?_) (fun hc_15 => ?_)
                    · skip
                      have hc_15 : (Int.tdiv (af (yn (hy h9)) (yM (hy h9)) (hg h9) (sw (yn (hy h9)) (yM (hy h9)) (hg h9) (dwn (yn (hy h9))) ((yn (hy h9)) - 1 - p8) (its (yn (hy h9)) (yM (hy h9)) (hg h9) (dwn (yn (hy h9))) s9)) p8) (dg (yn (hy h9)) (yM (hy h9)) p8)) ≠ 0 := fun hq => hc_15 (lcv_eq.mpr hq)
                      refine lv_aload_n hx hb dX6_settles_91 rfl (lv_at hl 3 rfl) ?_
                      refine lv_iload_n hx hb dX6_settles_92 rfl (lv_at hl 4 rfl) ?_
                      refine lv_iload hx hb dX6_settles_93 (lv_at hl 1 rfl) ?_
                      refine lv_lload hx hb dX6_settles_95 (lv_at hl 0 rfl) ?_
                      refine rm_callv (va_runV (As := [.int (jI ((h9 : Nat) : Int)), .int (jI ((p8 : Nat) : Int)), .long (jL (Int.tdiv (af (yn (hy h9)) (yM (hy h9)) (hg h9) (sw (yn (hy h9)) (yM (hy h9)) (hg h9) (dwn (yn (hy h9))) ((yn (hy h9)) - 1 - p8) (its (yn (hy h9)) (yM (hy h9)) (hg h9) (dwn (yn (hy h9))) s9)) p8) (dg (yn (hy h9)) (yM (hy h9)) p8)))]) (rest := []) ⟨hx, hb, hml, hown, hts⟩ (c_X6_topples l D ty ad ctv_10 H.size th yc hc yn yM yu hy (ub hg h9 (gaf (yn (hy h9)) (yM (hy h9)) (hg h9) (sw (yn (hy h9)) (yM (hy h9)) (hg h9) (dwn (yn (hy h9))) ((yn (hy h9)) - 1 - p8) (its (yn (hy h9)) (yM (hy h9)) (hg h9) (dwn (yn (hy h9))) s9)))) (ub hf h9 (sw (yn (hy h9)) (yM (hy h9)) (hg h9) (dwn (yn (hy h9))) ((yn (hy h9)) - 1 - p8) (its (yn (hy h9)) (yM (hy h9)) (hg h9) (dwn (yn (hy h9))) s9))) mA pt ro ke kt mu sl tw bw de ⟨((hofv_10 1000 (by omega) (by omega)).trans hMo.1), ((hofv_10 1001 (by omega) (by omega)).trans hMo.2.1), ((hofv_10 1002 (by omega) (by omega)).trans hMo.2.2.1), ((hofv_10 1003 (by omega) (by omega)).trans hMo.2.2.2.1), ((hofv_10 1004 (by omega) (by omega)).trans hMo.2.2.2.2.1), hv0_10, hv1_10, ((hofv_10 1007 (by omega) (by omega)).trans hMo.2.2.2.2.2.2.2.1), ((hofv_10 1008 (by omega) (by omega)).trans hMo.2.2.2.2.2.2.2.2.1), ((hofv_10 1009 (by omega) (by omega)).trans hMo.2.2.2.2.2.2.2.2.2.1), ((hofv_10 1010 (by omega) (by omega)).trans hMo.2.2.2.2.2.2.2.2.2.2.1), ((hofv_10 1011 (by omega) (by omega)).trans hMo.2.2.2.2.2.2.2.2.2.2.2.1), ((hofv_10 1012 (by omega) (by omega)).trans hMo.2.2.2.2.2.2.2.2.2.2.2.2.1), ((hofv_10 1013 (by omega) (by omega)).trans hMo.2.2.2.2.2.2.2.2.2.2.2.2.2.1), ((hofv_10 1014 (by omega) (by omega)).trans hMo.2.2.2.2.2.2.2.2.2.2.2.2.2.2.1), ((hofv_10 1015 (by omega) (by omega)).trans hMo.2.2.2.2.2.2.2.2.2.2.2.2.2.2.2.1), ((hofv_10 1016 (by omega) (by omega)).trans hMo.2.2.2.2.2.2.2.2.2.2.2.2.2.2.2.2)⟩ h9 hh9 hyh hn9 hM9 p8 (Int.tdiv (af (yn (hy h9)) (yM (hy h9)) (hg h9) (sw (yn (hy h9)) (yM (hy h9)) (hg h9) (dwn (yn (hy h9))) ((yn (hy h9)) - 1 - p8) (its (yn (hy h9)) (yM (hy h9)) (hg h9) (dwn (yn (hy h9))) s9)) p8) (dg (yn (hy h9)) (yM (hy h9)) p8)) hp2) (cwV 3 hts gX6_settles_X6_topples rfl rfl rfl (by decide +kernel) ⟨Nat.le_of_ble_eq_true rfl, Nat.le_of_ble_eq_true rfl⟩) (rm_preV hK hNw hW ((hofv_10 1000 (by omega) (by omega)).trans hMo.1) rfl) rfl rfl hl.1 rfl (lv_room (Nat.le_of_ble_eq_true rfl)) dX6_settles_97 ⟨Nat.zero_le _, Nat.zero_le _⟩) hW hS hA (fun ct_16 H locs hq_16 hW hS hz_16 => ?_)
                      have hfe := gaf_fel (g := hg h9) (u := (sw (yn (hy h9)) (yM (hy h9)) (hg h9) (dwn (yn (hy h9))) ((yn (hy h9)) - 1 - p8) (its (yn (hy h9)) (yM (hy h9)) (hg h9) (dwn (yn (hy h9))) s9))) (d := dg (yn (hy h9)) (yM (hy h9))) hyk hp2 rfl (Int.tdiv (af (yn (hy h9)) (yM (hy h9)) (hg h9) (sw (yn (hy h9)) (yM (hy h9)) (hg h9) (dwn (yn (hy h9))) ((yn (hy h9)) - 1 - p8) (its (yn (hy h9)) (yM (hy h9)) (hg h9) (dwn (yn (hy h9))) s9)) p8) (dg (yn (hy h9)) (yM (hy h9)) p8))
                      have htp : ub (sw (yn (hy h9)) (yM (hy h9)) (hg h9) (dwn (yn (hy h9))) ((yn (hy h9)) - 1 - p8) (its (yn (hy h9)) (yM (hy h9)) (hg h9) (dwn (yn (hy h9))) s9)) p8 ((sw (yn (hy h9)) (yM (hy h9)) (hg h9) (dwn (yn (hy h9))) ((yn (hy h9)) - 1 - p8) (its (yn (hy h9)) (yM (hy h9)) (hg h9) (dwn (yn (hy h9))) s9)) p8 + (Int.tdiv (af (yn (hy h9)) (yM (hy h9)) (hg h9) (sw (yn (hy h9)) (yM (hy h9)) (hg h9) (dwn (yn (hy h9))) ((yn (hy h9)) - 1 - p8) (its (yn (hy h9)) (yM (hy h9)) (hg h9) (dwn (yn (hy h9))) s9)) p8) (dg (yn (hy h9)) (yM (hy h9)) p8))) = (sw (yn (hy h9)) (yM (hy h9)) (hg h9) (dwn (yn (hy h9))) ((yn (hy h9)) - 1 - (p8 - 1)) (its (yn (hy h9)) (yM (hy h9)) (hg h9) (dwn (yn (hy h9))) s9)) := hsd.symm
                      rw [htp] at hfe
                      have hq5 := hq_16.1
                      rw [ub_s, ub_ub, hfe] at hq5
                      have ho_16 : ∀ q, q ≠ 1005 → ct_16 q = ctv_10 q := hq_16.2
                      have hof_16 : ∀ q, q ≠ 1005 → q ≠ 1006 → ct_16 q = ct q := fun q h0_16 h1_16 => (ho_16 q h0_16).trans (hofv_10 q h0_16 h1_16)
                      have hm0_16 : ct_16 1005 = some (rl ty 160 (fl 8 (ub hg h9 (gaf (yn (hy h9)) (yM (hy h9)) (hg h9) (sw (yn (hy h9)) (yM (hy h9)) (hg h9) (dwn (yn (hy h9))) ((yn (hy h9)) - 1 - (p8 - 1)) (its (yn (hy h9)) (yM (hy h9)) (hg h9) (dwn (yn (hy h9))) s9)))))) := hq5
                      have hm1_16 : ct_16 1006 = some (rl ty 160 (fl 8 (ub hf h9 (sw (yn (hy h9)) (yM (hy h9)) (hg h9) (dwn (yn (hy h9))) ((yn (hy h9)) - 1 - p8) (its (yn (hy h9)) (yM (hy h9)) (hg h9) (dwn (yn (hy h9))) s9))))) := (ho_16 1006 (by omega)).trans hv1_10
                      refine lv_aload_n hx hb dX6_settles_100 rfl (lv_at hl 3 rfl) ?_
                      refine rm_get (ci := 6) (v := .ref (ad 1006)) (C := RX6) (T := TX6) (N := 19) hx hb hts (by decide +kernel) hown hK hW ((hof_16 1000 (by omega) (by omega)).trans hMo.1) rfl 8 (by decide) (hts (.fieldLink RX6 27 "GrainYardModel" "toppled" "[J") (by decide +kernel)) (fun _ h9 => h9) rfl dX6_settles_101 ?_
                      refine lv_bipush (v := jI 8) hx hb dX6_settles_104 (by decide) ?_
                      refine lv_iload_n hx hb dX6_settles_106 rfl (lv_at hl 4 rfl) ?_
                      refine rm_imul hx hb dX6_settles_107 ?_
                      refine lv_iload hx hb dX6_settles_108 (lv_at hl 1 rfl) ?_
                      refine rm_iadd hx hb dX6_settles_110 ?_
                      refine lv_dup2_11 hx hb dX6_settles_111 rfl rfl ?_
                      refine rm_lald hx hb hK hW (f := (fl 8 (ub hf h9 (sw (yn (hy h9)) (yM (hy h9)) (hg h9) (dwn (yn (hy h9))) ((yn (hy h9)) - 1 - p8) (its (yn (hy h9)) (yM (hy h9)) (hg h9) (dwn (yn (hy h9))) s9))))) hm1_16 (8 * h9 + p8) (by first | rfl | (push_cast; omega)) (by omega) (by omega) dX6_settles_112 ?_
                      rw [fl_at (by omega), ub_s]
                      refine lv_lload hx hb dX6_settles_113 (lv_at hl 0 rfl) ?_
                      refine rm_ladd hx hb dX6_settles_115 ?_
                      refine rm_last hx hb hK hW hS (f := (fl 8 (ub hf h9 (sw (yn (hy h9)) (yM (hy h9)) (hg h9) (dwn (yn (hy h9))) ((yn (hy h9)) - 1 - p8) (its (yn (hy h9)) (yM (hy h9)) (hg h9) (dwn (yn (hy h9))) s9))))) hm1_16 (8 * h9 + p8) (by first | rfl | (push_cast; omega)) (by omega) (by omega) dX6_settles_116 (fun H locs ct_17 hs_17 ho_17 hW hS hz_17 => ?_)
                      have hof_17 : ∀ q, q ≠ 1005 → q ≠ 1006 → ct_17 q = ct q := fun q h0_17 h1_17 => (ho_17 q h1_17).trans (hof_16 q h0_17 h1_17)
                      have hm0_17 : ct_17 1005 = some (rl ty 160 (fl 8 (ub hg h9 (gaf (yn (hy h9)) (yM (hy h9)) (hg h9) (sw (yn (hy h9)) (yM (hy h9)) (hg h9) (dwn (yn (hy h9))) ((yn (hy h9)) - 1 - (p8 - 1)) (its (yn (hy h9)) (yM (hy h9)) (hg h9) (dwn (yn (hy h9))) s9)))))) := (ho_17 1005 (by omega)).trans hm0_16
                      have hk_18 : ct_17 1006 = some (rl ty 160 (fl 8 (ub hf h9 (ub (sw (yn (hy h9)) (yM (hy h9)) (hg h9) (dwn (yn (hy h9))) ((yn (hy h9)) - 1 - p8) (its (yn (hy h9)) (yM (hy h9)) (hg h9) (dwn (yn (hy h9))) s9)) p8 (((sw (yn (hy h9)) (yM (hy h9)) (hg h9) (dwn (yn (hy h9))) ((yn (hy h9)) - 1 - p8) (its (yn (hy h9)) (yM (hy h9)) (hg h9) (dwn (yn (hy h9))) s9)) p8) + (Int.tdiv (af (yn (hy h9)) (yM (hy h9)) (hg h9) (sw (yn (hy h9)) (yM (hy h9)) (hg h9) (dwn (yn (hy h9))) ((yn (hy h9)) - 1 - p8) (its (yn (hy h9)) (yM (hy h9)) (hg h9) (dwn (yn (hy h9))) s9)) p8) (dg (yn (hy h9)) (yM (hy h9)) p8))))))) := hs_17.trans (congrArg (fun f => some (rl ty 160 f)) (by rw [fl_ub (by omega) _ _, ub_s, ub_ub]))
                      have hk_19 : ct_17 1006 = some (rl ty 160 (fl 8 (ub hf h9 (sw (yn (hy h9)) (yM (hy h9)) (hg h9) (dwn (yn (hy h9))) ((yn (hy h9)) - 1 - (p8 - 1)) (its (yn (hy h9)) (yM (hy h9)) (hg h9) (dwn (yn (hy h9))) s9))))) := hk_18.trans (congrArg (fun G => some (rl ty 160 (fl 8 G))) (by rw [htp]))
                      have hsum := tp_sum (M := (yM (hy h9))) (g := hg h9) (u := (sw (yn (hy h9)) (yM (hy h9)) (hg h9) (dwn (yn (hy h9))) ((yn (hy h9)) - 1 - p8) (its (yn (hy h9)) (yM (hy h9)) (hg h9) (dwn (yn (hy h9))) s9))) hp2
                      rw [← hsd] at hsum
                      refine lv_lload_n hx hb dX6_settles_117 rfl (lv_at hl 2 rfl) ?_
                      refine lv_lload hx hb dX6_settles_118 (lv_at hl 0 rfl) ?_
                      refine rm_ladd hx hb dX6_settles_120 ?_
                      refine lv_lstore_n (lv' := [(2, .long (jL ((gs (sw (yn (hy h9)) (yM (hy h9)) (hg h9) (dwn (yn (hy h9))) ((yn (hy h9)) - 1 - p8) (its (yn (hy h9)) (yM (hy h9)) (hg h9) (dwn (yn (hy h9))) s9)) (yn (hy h9))) + (Int.tdiv (af (yn (hy h9)) (yM (hy h9)) (hg h9) (sw (yn (hy h9)) (yM (hy h9)) (hg h9) (dwn (yn (hy h9))) ((yn (hy h9)) - 1 - p8) (its (yn (hy h9)) (yM (hy h9)) (hg h9) (dwn (yn (hy h9))) s9)) p8) (dg (yn (hy h9)) (yM (hy h9)) p8))))), (5, .long (jL (Int.tdiv (af (yn (hy h9)) (yM (hy h9)) (hg h9) (sw (yn (hy h9)) (yM (hy h9)) (hg h9) (dwn (yn (hy h9))) ((yn (hy h9)) - 1 - p8) (its (yn (hy h9)) (yM (hy h9)) (hg h9) (dwn (yn (hy h9))) s9)) p8) (dg (yn (hy h9)) (yM (hy h9)) p8)))), (4, .int (jI ((p8 : Nat) : Int))), (0, .ref (ad 1000)), (1, .int (jI ((h9 : Nat) : Int)))]) hx hb dX6_settles_121 rfl hl (by decide) rfl (fun ls hl => ?_)
                      have hl : lv_has ls 7 [(2, .long (jL (gs (sw (yn (hy h9)) (yM (hy h9)) (hg h9) (dwn (yn (hy h9))) ((yn (hy h9)) - 1 - (p8 - 1)) (its (yn (hy h9)) (yM (hy h9)) (hg h9) (dwn (yn (hy h9))) s9)) (yn (hy h9))))), (5, .long (jL (Int.tdiv (af (yn (hy h9)) (yM (hy h9)) (hg h9) (sw (yn (hy h9)) (yM (hy h9)) (hg h9) (dwn (yn (hy h9))) ((yn (hy h9)) - 1 - p8) (its (yn (hy h9)) (yM (hy h9)) (hg h9) (dwn (yn (hy h9))) s9)) p8) (dg (yn (hy h9)) (yM (hy h9)) p8)))), (4, .int (jI ((p8 : Nat) : Int))), (0, .ref (ad 1000)), (1, .int (jI ((h9 : Nat) : Int)))] := by rw [hsum]; exact hl
                      refine lv_iinc (v := jI (((p8 : Nat) : Int) + (-1))) (lv' := [(4, .int (jI (((p8 : Nat) : Int) + (-1)))), (2, .long (jL (gs (sw (yn (hy h9)) (yM (hy h9)) (hg h9) (dwn (yn (hy h9))) ((yn (hy h9)) - 1 - (p8 - 1)) (its (yn (hy h9)) (yM (hy h9)) (hg h9) (dwn (yn (hy h9))) s9)) (yn (hy h9))))), (5, .long (jL (Int.tdiv (af (yn (hy h9)) (yM (hy h9)) (hg h9) (sw (yn (hy h9)) (yM (hy h9)) (hg h9) (dwn (yn (hy h9))) ((yn (hy h9)) - 1 - p8) (its (yn (hy h9)) (yM (hy h9)) (hg h9) (dwn (yn (hy h9))) s9)) p8) (dg (yn (hy h9)) (yM (hy h9)) p8)))), (0, .ref (ad 1000)), (1, .int (jI ((h9 : Nat) : Int)))]) hx hb dX6_settles_122 hl (k := 2) rfl (jI_add _ _) (by decide) rfl (fun ls hl => ?_)
                      have hl : lv_has ls 7 [(4, .int (jI (((p8 - 1) : Nat) : Int))), (2, .long (jL (gs (sw (yn (hy h9)) (yM (hy h9)) (hg h9) (dwn (yn (hy h9))) ((yn (hy h9)) - 1 - (p8 - 1)) (its (yn (hy h9)) (yM (hy h9)) (hg h9) (dwn (yn (hy h9))) s9)) (yn (hy h9))))), (5, .long (jL (Int.tdiv (af (yn (hy h9)) (yM (hy h9)) (hg h9) (sw (yn (hy h9)) (yM (hy h9)) (hg h9) (dwn (yn (hy h9))) ((yn (hy h9)) - 1 - p8) (its (yn (hy h9)) (yM (hy h9)) (hg h9) (dwn (yn (hy h9))) s9)) p8) (dg (yn (hy h9)) (yM (hy h9)) p8)))), (0, .ref (ad 1000)), (1, .int (jI ((h9 : Nat) : Int)))] := by rw [show ((p8 - 1 : Nat) : Int) = ((p8 : Nat) : Int) + (-1) by omega]; exact hl
                      refine lv_goto (tgt := 48) hx hb dX6_settles_125 (by decide) ?_
                      exact ih_INN (p8 - 1) (by omega) (by omega) ct_17 _ _ hm0_17 trivial hk_19 trivial hof_17 trivial hW hS ls (lv_sub hl [0, 1, 3, 4] rfl)
                    · skip
                      have hc_15 := lcv_eq.mp hc_15
                      have ht0 : (Int.tdiv (af (yn (hy h9)) (yM (hy h9)) (hg h9) (sw (yn (hy h9)) (yM (hy h9)) (hg h9) (dwn (yn (hy h9))) ((yn (hy h9)) - 1 - p8) (its (yn (hy h9)) (yM (hy h9)) (hg h9) (dwn (yn (hy h9))) s9)) p8) (dg (yn (hy h9)) (yM (hy h9)) p8)) = 0 := by omega
                      have he : (sw (yn (hy h9)) (yM (hy h9)) (hg h9) (dwn (yn (hy h9))) ((yn (hy h9)) - 1 - (p8 - 1)) (its (yn (hy h9)) (yM (hy h9)) (hg h9) (dwn (yn (hy h9))) s9)) = (sw (yn (hy h9)) (yM (hy h9)) (hg h9) (dwn (yn (hy h9))) ((yn (hy h9)) - 1 - p8) (its (yn (hy h9)) (yM (hy h9)) (hg h9) (dwn (yn (hy h9))) s9)) := hsd.trans (tp_0 ht0)
                      have hk_20 : ctv_10 1005 = some (rl ty 160 (fl 8 (ub hg h9 (gaf (yn (hy h9)) (yM (hy h9)) (hg h9) (sw (yn (hy h9)) (yM (hy h9)) (hg h9) (dwn (yn (hy h9))) ((yn (hy h9)) - 1 - (p8 - 1)) (its (yn (hy h9)) (yM (hy h9)) (hg h9) (dwn (yn (hy h9))) s9)))))) := hv0_10.trans (congrArg (fun G => some (rl ty 160 (fl 8 G))) (by rw [he]))
                      have hk_21 : ctv_10 1006 = some (rl ty 160 (fl 8 (ub hf h9 (sw (yn (hy h9)) (yM (hy h9)) (hg h9) (dwn (yn (hy h9))) ((yn (hy h9)) - 1 - (p8 - 1)) (its (yn (hy h9)) (yM (hy h9)) (hg h9) (dwn (yn (hy h9))) s9))))) := hv1_10.trans (congrArg (fun G => some (rl ty 160 (fl 8 G))) (by rw [he]))
                      refine lv_goto (tgt := 122) hx hb dX6_settles_88 (by decide) ?_
                      have hl : lv_has ls 7 [(5, .long (jL (Int.tdiv (af (yn (hy h9)) (yM (hy h9)) (hg h9) (sw (yn (hy h9)) (yM (hy h9)) (hg h9) (dwn (yn (hy h9))) ((yn (hy h9)) - 1 - p8) (its (yn (hy h9)) (yM (hy h9)) (hg h9) (dwn (yn (hy h9))) s9)) p8) (dg (yn (hy h9)) (yM (hy h9)) p8)))), (4, .int (jI ((p8 : Nat) : Int))), (2, .long (jL (gs (sw (yn (hy h9)) (yM (hy h9)) (hg h9) (dwn (yn (hy h9))) ((yn (hy h9)) - 1 - (p8 - 1)) (its (yn (hy h9)) (yM (hy h9)) (hg h9) (dwn (yn (hy h9))) s9)) (yn (hy h9))))), (0, .ref (ad 1000)), (1, .int (jI ((h9 : Nat) : Int)))] := by rw [he]; exact hl
                      refine lv_iinc (v := jI (((p8 : Nat) : Int) + (-1))) (lv' := [(4, .int (jI (((p8 : Nat) : Int) + (-1)))), (5, .long (jL (Int.tdiv (af (yn (hy h9)) (yM (hy h9)) (hg h9) (sw (yn (hy h9)) (yM (hy h9)) (hg h9) (dwn (yn (hy h9))) ((yn (hy h9)) - 1 - p8) (its (yn (hy h9)) (yM (hy h9)) (hg h9) (dwn (yn (hy h9))) s9)) p8) (dg (yn (hy h9)) (yM (hy h9)) p8)))), (2, .long (jL (gs (sw (yn (hy h9)) (yM (hy h9)) (hg h9) (dwn (yn (hy h9))) ((yn (hy h9)) - 1 - (p8 - 1)) (its (yn (hy h9)) (yM (hy h9)) (hg h9) (dwn (yn (hy h9))) s9)) (yn (hy h9))))), (0, .ref (ad 1000)), (1, .int (jI ((h9 : Nat) : Int)))]) hx hb dX6_settles_122 hl (k := 1) rfl (jI_add _ _) (by decide) rfl (fun ls hl => ?_)
                      have hl : lv_has ls 7 [(4, .int (jI (((p8 - 1) : Nat) : Int))), (5, .long (jL (Int.tdiv (af (yn (hy h9)) (yM (hy h9)) (hg h9) (sw (yn (hy h9)) (yM (hy h9)) (hg h9) (dwn (yn (hy h9))) ((yn (hy h9)) - 1 - p8) (its (yn (hy h9)) (yM (hy h9)) (hg h9) (dwn (yn (hy h9))) s9)) p8) (dg (yn (hy h9)) (yM (hy h9)) p8)))), (2, .long (jL (gs (sw (yn (hy h9)) (yM (hy h9)) (hg h9) (dwn (yn (hy h9))) ((yn (hy h9)) - 1 - (p8 - 1)) (its (yn (hy h9)) (yM (hy h9)) (hg h9) (dwn (yn (hy h9))) s9)) (yn (hy h9))))), (0, .ref (ad 1000)), (1, .int (jI ((h9 : Nat) : Int)))] := by rw [show ((p8 - 1 : Nat) : Int) = ((p8 : Nat) : Int) + (-1) by omega]; exact hl
                      refine lv_goto (tgt := 48) hx hb dX6_settles_125 (by decide) ?_
                      exact ih_INN (p8 - 1) (by omega) (by omega) ctv_10 _ _ hk_20 trivial hk_21 trivial hofv_10 trivial hW hS ls (lv_sub hl [0, 2, 3, 4] rfl)
              exact INN ((yn (hy h9))) ((yn (hy h9)) - 1) (by omega) (by omega) ctv_4 _ _ hk_8 trivial hk_9 trivial hofv_4 trivial hW hS ls (lv_sub hl [0, 1, 2, 3] rfl)
        exact OUT (s0 + 1) (0) (by omega) (by omega) ctv_1 _ _ hv0_1 trivial hk_3 trivial hofv_1 trivial hW hS ls (lv_sub hl [0, 1, 2] rfl)
      · skip
        refine lv_aload_n hx hb dX6_settles_12 rfl (lv_at hl 2 rfl) ?_
        refine rm_get (ci := 6) (v := .ref (ad 1006)) (C := RX6) (T := TX6) (N := 19) hx hb hts (by decide +kernel) hown hK hW ((hofv_1 1000 (by omega) (by omega)).trans hMo.1) rfl 8 (by decide) (hts (.fieldLink RX6 27 "GrainYardModel" "toppled" "[J") (by decide +kernel)) (fun _ h9 => h9) rfl dX6_settles_13 ?_
        refine lv_bipush (v := jI 8) hx hb dX6_settles_16 (by decide) ?_
        refine lv_iload_n hx hb dX6_settles_18 rfl (lv_at hl 3 rfl) ?_
        refine rm_imul hx hb dX6_settles_19 ?_
        refine lv_iload hx hb dX6_settles_20 (lv_at hl 0 rfl) ?_
        refine rm_iadd hx hb dX6_settles_22 ?_
        refine lv_lconst (v := jL 0) hx hb dX6_settles_23 rfl ?_
        refine rm_last hx hb hK hW hS (f := (fl 8 (ub hf h9 (zer i8 (hf h9))))) hv1_1 (8 * h9 + i8) (by first | rfl | (push_cast; omega)) (by omega) (by omega) dX6_settles_24 (fun H locs ct_22 hs_22 ho_22 hW hS hz_22 => ?_)
        have hof_22 : ∀ q, q ≠ 1005 → q ≠ 1006 → ct_22 q = ct q := fun q h0_22 h1_22 => (ho_22 q h1_22).trans (hofv_1 q h0_22 h1_22)
        have hm0_22 : ct_22 1005 = some (rl ty 160 (fl 8 (ub hg h9 (gaf (yn (hy h9)) (yM (hy h9)) (hg h9) (its (yn (hy h9)) (yM (hy h9)) (hg h9) (dwn (yn (hy h9))) 0))))) := (ho_22 1005 (by omega)).trans hv0_1
        have hk_23 : ct_22 1006 = some (rl ty 160 (fl 8 (ub hf h9 (ub (zer i8 (hf h9)) i8 0)))) := hs_22.trans (congrArg (fun f => some (rl ty 160 f)) (by rw [fl_ub (by omega) _ _, ub_s, ub_ub]))
        have hk_24 : ct_22 1006 = some (rl ty 160 (fl 8 (ub hf h9 (zer (i8 + 1) (hf h9))))) := hk_23.trans (congrArg (fun G => some (rl ty 160 (fl 8 G))) (by rw [zer_s]))
        refine lv_iinc (v := jI (((i8 : Nat) : Int) + 1)) (lv' := [(4, .int (jI (((i8 : Nat) : Int) + 1))), (2, .long (jL 0)), (0, .ref (ad 1000)), (1, .int (jI ((h9 : Nat) : Int)))]) hx hb dX6_settles_25 hl (k := 0) rfl (jI_add _ _) (by decide) rfl (fun ls hl => ?_)
        refine lv_goto (tgt := 5) hx hb dX6_settles_28 (by decide) ?_
        exact ih_LZ (i8 + 1) (by omega) (by omega) ct_22 _ _ hm0_22 trivial hk_24 trivial hof_22 trivial hW hS ls (lv_sub hl [0, 1, 2, 3] rfl)
  exact LZ (9) (0) (by omega) (by omega) ct _ _ h05 trivial h06 trivial (fun _ _ _ => rfl) trivial hW hS ls (lv_sub hl [0, 1, 2, 3] rfl)
set_option maxHeartbeats 4000000 in
set_option maxRecDepth 100000 in
theorem c_X6_settle (l : Launch) (D : va_G) (ty : Nat → ClassId) (ad : Nat → Nat) (ct : rm_C) (sz : Nat) (th : Int) (yc hc : Nat) (yn : Nat → Nat) (yM : Nat → Nat → Nat → Int) (yu : Nat → Int) (hy : Nat → Nat) (hg hf mA : Nat → Nat → Int) (pt ro ke kt mu sl tw bw de : Nat → Int) (hMo : ModAt ty ad ct th yc hc yn yM yu hy hg hf mA pt ro ke kt mu sl tw bw de) (hb20 : yc ≤ 6 ∧ hc ≤ 20) (hyn : ∀ y, y < yc → 2 ≤ yn y ∧ yn y ≤ 8) (hyM : ∀ y, y < yc → ∀ i j, 0 ≤ yM y i j ∧ yM y i j ≤ 3) (hhy : ∀ h, h < hc → hy h < yc) (hgr : ∀ h, h < hc → ∀ q, 1 ≤ q → q < yn (hy h) → 0 ≤ hg h q ∧ hg h q ≤ 1000000000) (hst : ∀ h, h < hc → mst9 (yn (hy h)) (yM (hy h)) ∧ psum (yn (hy h)) (hg h) ≤ 900000000) (z9 : Int) (hz9 : r32 z9) : Met l yX6_settle wsX6_settle ({ frames := 5, cells := 0, slots := 0, locals := 118 }) (rm_P D ty ad ct sz [.ref (ad 1000), .int (jI z9)]) (rm_Ql D ad ct sz (fun z ct1 => (∀ q, (q < 1000 ∨ 1016 < q) → ct1 q = ct q) ∧ (((z9 < 0 ∨ ((hc : Nat) : Int) ≤ z9) ∧ ModX ty ad ct1 1 yc hc yn yM yu hy hg hf) ∨ ∃ h9 : Nat, z9 = (h9 : Int) ∧ h9 < hc ∧ ∃ v, stl (yn (hy h9)) (yM (hy h9)) (hg h9) v ∧ z = gs v (yn (hy h9)) ∧ ModX ty ad ct1 0 yc hc yn yM yu hy (us hg h9 (gaf (yn (hy h9)) (yM (hy h9)) (hg h9) v)) (us hf h9 v)))) 0 0 (rm_A ad ct sz) := by
  refine Met.ofW (cc := cX6_settle) (maxL := 2) (ret := (some .long)) (by decide) rfl ?_
  intro p e s m args below meth c s₁ B hml hv
  obtain ⟨hargs, hsz, hW, hK, hNw⟩ := hv
  have hx := B.exec
  have hb := B.bytes
  have hr := B.returns
  have hts := atoms_spec (ws := wsX6_settle) B.pre
  have hown : s.vm.findClass RX6 = some m.cls := findClass_of_methodNamed B.named
  have hlocks := B.notSynchronized
  subst hsz
  have hW := hW.own (sz := s.heap.size)
  have hA : ∀ q : Nat, s.heap.size ≤ q → rm_A ad ct s.heap.size q := fun q h => Or.inr h
  have hS : va_S (rm_A ad ct s.heap.size) s.heap s.heap [] := va_S.rf
  have hent : entryFrame m args 2 = entryFrame m ([.ref (ad 1000), .int (jI z9)] : List Value).toArray 2 := by rw [hargs]
  have hl := lv_entry ([.ref (ad 1000), .int (jI z9)]) (n := 2) (Nat.le_of_ble_eq_true rfl)
  rw [hent, lg_entry_eq]
  generalize (lg_sl ([.ref (ad 1000), .int (jI z9)]) ++ List.replicate (2 - (lg_sl ([.ref (ad 1000), .int (jI z9)])).length) Slot.unset).toArray = ls at hl ⊢
  have hl : lv_has ls 2 [(0, .ref (ad 1000)), (1, .int (jI z9))] := hl
  refine lv_aload_n hx hb dX6_settle_0 rfl (lv_at hl 0 rfl) ?_
  refine lv_iload_n hx hb dX6_settle_1 rfl (lv_at hl 1 rfl) ?_
  refine rm_calli (va_runV (As := [.int (jI z9)]) (rest := []) ⟨hx, hb, hml, hown, hts⟩ (c_X6_isHeap l D ty ad ct s.heap.size th yc hc yn yM yu hy hg hf mA pt ro ke kt mu sl tw bw de hMo z9 hz9 hb20) (cwV 1 hts gX6_settle_X6_isHeap rfl rfl rfl (by decide +kernel) ⟨Nat.le_of_ble_eq_true rfl, Nat.le_of_ble_eq_true rfl⟩) (rm_preV hK hNw hW hMo.1 rfl) rfl rfl hl.1 rfl (lv_room (Nat.le_of_ble_eq_true rfl)) dX6_settle_2 ⟨Nat.zero_le _, Nat.zero_le _⟩) hW hS hA (fun z_1 ct_1 H locs hq_1 hW hS => ?_)
  obtain ⟨hqo, hqc⟩ := hq_1
  rcases hqc with ⟨hbad, hz, hqs⟩ | ⟨hp1, hp2, hz, hqs⟩
  · skip
    subst hz
    have ho_1 : ∀ q, q ≠ 1000 → ct_1 q = ct q := hqo
    have hof_1 : ∀ q, q ≠ 1000 → q ≠ 1005 → q ≠ 1006 → ct_1 q = ct q := fun q h0_1 h1_1 h2_1 => (ho_1 q h0_1).trans rfl
    have hm0_1 : ct_1 1000 = some (.inr (6, [.int (jI 1), .int (jI ((yc : Nat) : Int)), .int (jI ((hc : Nat) : Int)), .ref (ad 1001), .ref (ad 1002), .ref (ad 1003), .ref (ad 1004), .ref (ad 1005), .ref (ad 1006), .ref (ad 1007), .ref (ad 1008), .ref (ad 1009), .ref (ad 1010), .ref (ad 1011), .ref (ad 1012), .ref (ad 1013), .ref (ad 1014), .ref (ad 1015), .ref (ad 1016)]) : va_E) := hqs
    have hm1_1 : ct_1 1005 = some (rl ty 160 (fl 8 hg)) := (ho_1 1005 (by omega)).trans hMo.2.2.2.2.2.1
    have hm2_1 : ct_1 1006 = some (rl ty 160 (fl 8 hf)) := (ho_1 1006 (by omega)).trans hMo.2.2.2.2.2.2.1
    refine rm_if_eq (tgt := 16) hx hb ⟨by omega, by omega⟩ dX6_settle_5 (by decide) (fun _ => ?_) (fun hq => absurd hq (by omega))
    refine lv_lconst (v := jL 0) hx hb dX6_settle_16 rfl ?_
    exact W.lret hx hb hr (fun t ht hw => ⟨⟨_, (0, ct_1), rfl, ⟨rfl, ⟨(fun q hq9 => hof_1 q (by omega) (by omega) (by omega)), Or.inl ⟨hbad, ⟨mA, pt, ro, ke, kt, mu, sl, tw, bw, de, ⟨hm0_1, ((hof_1 1001 (by omega) (by omega) (by omega)).trans hMo.2.1), ((hof_1 1002 (by omega) (by omega) (by omega)).trans hMo.2.2.1), ((hof_1 1003 (by omega) (by omega) (by omega)).trans hMo.2.2.2.1), ((hof_1 1004 (by omega) (by omega) (by omega)).trans hMo.2.2.2.2.1), hm1_1, hm2_1, ((hof_1 1007 (by omega) (by omega) (by omega)).trans hMo.2.2.2.2.2.2.2.1), ((hof_1 1008 (by omega) (by omega) (by omega)).trans hMo.2.2.2.2.2.2.2.2.1), ((hof_1 1009 (by omega) (by omega) (by omega)).trans hMo.2.2.2.2.2.2.2.2.2.1), ((hof_1 1010 (by omega) (by omega) (by omega)).trans hMo.2.2.2.2.2.2.2.2.2.2.1), ((hof_1 1011 (by omega) (by omega) (by omega)).trans hMo.2.2.2.2.2.2.2.2.2.2.2.1), ((hof_1 1012 (by omega) (by omega) (by omega)).trans hMo.2.2.2.2.2.2.2.2.2.2.2.2.1), ((hof_1 1013 (by omega) (by omega) (by omega)).trans hMo.2.2.2.2.2.2.2.2.2.2.2.2.2.1), ((hof_1 1014 (by omega) (by omega) (by omega)).trans hMo.2.2.2.2.2.2.2.2.2.2.2.2.2.2.1), ((hof_1 1015 (by omega) (by omega) (by omega)).trans hMo.2.2.2.2.2.2.2.2.2.2.2.2.2.2.2.1), ((hof_1 1016 (by omega) (by omega) (by omega)).trans hMo.2.2.2.2.2.2.2.2.2.2.2.2.2.2.2.2)⟩⟩⟩⟩⟩, by show rm_W D ad _ _ t.heap; rw [ht]; exact hW⟩, hS.F ht⟩) hS.2.2 dX6_settle_17
  · skip
    subst hz
    have ho_1 : ∀ q, q ≠ 1000 → ct_1 q = ct q := hqo
    have hof_1 : ∀ q, q ≠ 1000 → q ≠ 1005 → q ≠ 1006 → ct_1 q = ct q := fun q h0_1 h1_1 h2_1 => (ho_1 q h0_1).trans rfl
    have hm0_1 : ct_1 1000 = some (.inr (6, [.int (jI 0), .int (jI ((yc : Nat) : Int)), .int (jI ((hc : Nat) : Int)), .ref (ad 1001), .ref (ad 1002), .ref (ad 1003), .ref (ad 1004), .ref (ad 1005), .ref (ad 1006), .ref (ad 1007), .ref (ad 1008), .ref (ad 1009), .ref (ad 1010), .ref (ad 1011), .ref (ad 1012), .ref (ad 1013), .ref (ad 1014), .ref (ad 1015), .ref (ad 1016)]) : va_E) := hqs
    have hm1_1 : ct_1 1005 = some (rl ty 160 (fl 8 hg)) := (ho_1 1005 (by omega)).trans hMo.2.2.2.2.2.1
    have hm2_1 : ct_1 1006 = some (rl ty 160 (fl 8 hf)) := (ho_1 1006 (by omega)).trans hMo.2.2.2.2.2.2.1
    obtain ⟨h9, hn_h9⟩ : ∃ h9 : Nat, z9 = (h9 : Int) := ⟨z9.toNat, by omega⟩
    subst hn_h9
    have hh9 : h9 < hc := by omega
    have hyh := hhy h9 hh9
    have hn8 := hyn (hy h9) hyh
    have hM8 := hyM (hy h9) hyh
    refine rm_if_eq (tgt := 16) hx hb ⟨by omega, by omega⟩ dX6_settle_5 (by decide) (fun hq => absurd hq (by omega)) (fun _ => ?_)
    refine lv_aload_n hx hb dX6_settle_8 rfl (lv_at hl 0 rfl) ?_
    refine lv_iload_n hx hb dX6_settle_9 rfl (lv_at hl 1 rfl) ?_
    have hgb := hgr h9 hh9
    refine rm_calll (va_runV (As := [.int (jI ((h9 : Nat) : Int))]) (rest := []) ⟨hx, hb, hml, hown, hts⟩ (c_X6_settles l D ty ad ct_1 H.size 0 yc hc yn yM yu hy hg hf mA pt ro ke kt mu sl tw bw de ⟨hm0_1, ((hof_1 1001 (by omega) (by omega) (by omega)).trans hMo.2.1), ((hof_1 1002 (by omega) (by omega) (by omega)).trans hMo.2.2.1), ((hof_1 1003 (by omega) (by omega) (by omega)).trans hMo.2.2.2.1), ((hof_1 1004 (by omega) (by omega) (by omega)).trans hMo.2.2.2.2.1), hm1_1, hm2_1, ((hof_1 1007 (by omega) (by omega) (by omega)).trans hMo.2.2.2.2.2.2.2.1), ((hof_1 1008 (by omega) (by omega) (by omega)).trans hMo.2.2.2.2.2.2.2.2.1), ((hof_1 1009 (by omega) (by omega) (by omega)).trans hMo.2.2.2.2.2.2.2.2.2.1), ((hof_1 1010 (by omega) (by omega) (by omega)).trans hMo.2.2.2.2.2.2.2.2.2.2.1), ((hof_1 1011 (by omega) (by omega) (by omega)).trans hMo.2.2.2.2.2.2.2.2.2.2.2.1), ((hof_1 1012 (by omega) (by omega) (by omega)).trans hMo.2.2.2.2.2.2.2.2.2.2.2.2.1), ((hof_1 1013 (by omega) (by omega) (by omega)).trans hMo.2.2.2.2.2.2.2.2.2.2.2.2.2.1), ((hof_1 1014 (by omega) (by omega) (by omega)).trans hMo.2.2.2.2.2.2.2.2.2.2.2.2.2.2.1), ((hof_1 1015 (by omega) (by omega) (by omega)).trans hMo.2.2.2.2.2.2.2.2.2.2.2.2.2.2.2.1), ((hof_1 1016 (by omega) (by omega) (by omega)).trans hMo.2.2.2.2.2.2.2.2.2.2.2.2.2.2.2.2)⟩ h9 (by omega) (by omega) hn8 hM8 (hst h9 hh9).1 (fun q a b => (hgb q a b).1) (by have := (hst h9 hh9).2; omega)) (cwV 1 hts gX6_settle_X6_settles rfl rfl rfl (by decide +kernel) ⟨Nat.le_of_ble_eq_true rfl, Nat.le_of_ble_eq_true rfl⟩) (rm_preV hK hNw hW hm0_1 rfl) rfl rfl hl.1 rfl (lv_room (Nat.le_of_ble_eq_true rfl)) dX6_settle_10 ⟨Nat.zero_le _, Nat.zero_le _⟩) hW hS hA (fun z_2 ct_2 H locs hq_2 hW hS => ?_)
    obtain ⟨v, hv1, hv2, hq1, hq2, hq3⟩ := hq_2
    have ho_2 : ∀ q, q ≠ 1005 → q ≠ 1006 → ct_2 q = ct_1 q := hq3
    have hof_2 : ∀ q, q ≠ 1000 → q ≠ 1005 → q ≠ 1006 → ct_2 q = ct q := fun q h0_2 h1_2 h2_2 => (ho_2 q h1_2 h2_2).trans (hof_1 q h0_2 h1_2 h2_2)
    have hm0_2 : ct_2 1000 = some (.inr (6, [.int (jI 0), .int (jI ((yc : Nat) : Int)), .int (jI ((hc : Nat) : Int)), .ref (ad 1001), .ref (ad 1002), .ref (ad 1003), .ref (ad 1004), .ref (ad 1005), .ref (ad 1006), .ref (ad 1007), .ref (ad 1008), .ref (ad 1009), .ref (ad 1010), .ref (ad 1011), .ref (ad 1012), .ref (ad 1013), .ref (ad 1014), .ref (ad 1015), .ref (ad 1016)]) : va_E) := (ho_2 1000 (by omega) (by omega)).trans hm0_1
    have hm1_2 : ct_2 1005 = some (rl ty 160 (fl 8 (us hg h9 (gaf (yn (hy h9)) (yM (hy h9)) (hg h9) v)))) := hq1
    have hm2_2 : ct_2 1006 = some (rl ty 160 (fl 8 (us hf h9 v))) := hq2
    refine lv_goto (tgt := 17) hx hb dX6_settle_13 (by decide) ?_
    exact W.lret hx hb hr (fun t ht hw => ⟨⟨_, (z_2, ct_2), rfl, ⟨rfl, ⟨(fun q hq9 => hof_2 q (by omega) (by omega) (by omega)), Or.inr ⟨h9, rfl, hh9, v, hv1, hv2, ⟨mA, pt, ro, ke, kt, mu, sl, tw, bw, de, ⟨hm0_2, ((hof_2 1001 (by omega) (by omega) (by omega)).trans hMo.2.1), ((hof_2 1002 (by omega) (by omega) (by omega)).trans hMo.2.2.1), ((hof_2 1003 (by omega) (by omega) (by omega)).trans hMo.2.2.2.1), ((hof_2 1004 (by omega) (by omega) (by omega)).trans hMo.2.2.2.2.1), hm1_2, hm2_2, ((hof_2 1007 (by omega) (by omega) (by omega)).trans hMo.2.2.2.2.2.2.2.1), ((hof_2 1008 (by omega) (by omega) (by omega)).trans hMo.2.2.2.2.2.2.2.2.1), ((hof_2 1009 (by omega) (by omega) (by omega)).trans hMo.2.2.2.2.2.2.2.2.2.1), ((hof_2 1010 (by omega) (by omega) (by omega)).trans hMo.2.2.2.2.2.2.2.2.2.2.1), ((hof_2 1011 (by omega) (by omega) (by omega)).trans hMo.2.2.2.2.2.2.2.2.2.2.2.1), ((hof_2 1012 (by omega) (by omega) (by omega)).trans hMo.2.2.2.2.2.2.2.2.2.2.2.2.1), ((hof_2 1013 (by omega) (by omega) (by omega)).trans hMo.2.2.2.2.2.2.2.2.2.2.2.2.2.1), ((hof_2 1014 (by omega) (by omega) (by omega)).trans hMo.2.2.2.2.2.2.2.2.2.2.2.2.2.2.1), ((hof_2 1015 (by omega) (by omega) (by omega)).trans hMo.2.2.2.2.2.2.2.2.2.2.2.2.2.2.2.1), ((hof_2 1016 (by omega) (by omega) (by omega)).trans hMo.2.2.2.2.2.2.2.2.2.2.2.2.2.2.2.2)⟩⟩⟩⟩⟩, by show rm_W D ad _ _ t.heap; rw [ht]; exact hW⟩, hS.F ht⟩) hS.2.2 dX6_settle_17
set_option maxHeartbeats 4000000 in
set_option maxRecDepth 100000 in
theorem c_X6_drop (l : Launch) (D : va_G) (ty : Nat → ClassId) (ad : Nat → Nat) (ct : rm_C) (sz : Nat) (th : Int) (yc hc : Nat) (yn : Nat → Nat) (yM : Nat → Nat → Nat → Int) (yu : Nat → Int) (hy : Nat → Nat) (hg hf mA : Nat → Nat → Int) (pt ro ke kt mu sl tw bw de : Nat → Int) (hMo : ModAt ty ad ct th yc hc yn yM yu hy hg hf mA pt ro ke kt mu sl tw bw de) (hb20 : yc ≤ 6 ∧ hc ≤ 20) (hyn : ∀ y, y < yc → 2 ≤ yn y ∧ yn y ≤ 8) (hyM : ∀ y, y < yc → ∀ i j, 0 ≤ yM y i j ∧ yM y i j ≤ 3) (hhy : ∀ h, h < hc → hy h < yc) (hgr : ∀ h, h < hc → ∀ q, 1 ≤ q → q < yn (hy h) → 0 ≤ hg h q ∧ hg h q ≤ 1000000000) (hst : ∀ h, h < hc → mst9 (yn (hy h)) (yM (hy h)) ∧ psum (yn (hy h)) (hg h) ≤ 900000000) (z9 p9 : Int) (hz9 : r32 z9) (hp9 : r32 p9) : Met l yX6_drop wsX6_drop ({ frames := 5, cells := 0, slots := 0, locals := 118 }) (rm_P D ty ad ct sz [.ref (ad 1000), .int (jI z9), .int (jI p9)]) (rm_Ql D ad ct sz (fun z ct1 => (∀ q, (q < 1000 ∨ 1016 < q) → ct1 q = ct q) ∧ ((((z9 < 0 ∨ ((hc : Nat) : Int) ≤ z9) ∨ ∃ h9 : Nat, z9 = (h9 : Int) ∧ h9 < hc ∧ (p9 < 1 ∨ (yn (hy h9) : Int) ≤ p9)) ∧ ModX ty ad ct1 1 yc hc yn yM yu hy hg hf) ∨ ∃ h9 q9 : Nat, z9 = (h9 : Int) ∧ p9 = (q9 : Int) ∧ h9 < hc ∧ 1 ≤ q9 ∧ q9 < (yn (hy h9)) ∧ ∃ v, stl (yn (hy h9)) (yM (hy h9)) (ub (hg h9) q9 (hg h9 q9 + 1)) v ∧ z = gs v (yn (hy h9)) ∧ ModX ty ad ct1 0 yc hc yn yM yu hy (us hg h9 (gaf (yn (hy h9)) (yM (hy h9)) (ub (hg h9) q9 (hg h9 q9 + 1)) v)) (us hf h9 v)))) 0 0 (rm_A ad ct sz) := by
  refine Met.ofW (cc := cX6_drop) (maxL := 3) (ret := (some .long)) (by decide) rfl ?_
  intro p e s m args below meth c s₁ B hml hv
  obtain ⟨hargs, hsz, hW, hK, hNw⟩ := hv
  have hx := B.exec
  have hb := B.bytes
  have hr := B.returns
  have hts := atoms_spec (ws := wsX6_drop) B.pre
  have hown : s.vm.findClass RX6 = some m.cls := findClass_of_methodNamed B.named
  have hlocks := B.notSynchronized
  subst hsz
  have hW := hW.own (sz := s.heap.size)
  have hA : ∀ q : Nat, s.heap.size ≤ q → rm_A ad ct s.heap.size q := fun q h => Or.inr h
  have hS : va_S (rm_A ad ct s.heap.size) s.heap s.heap [] := va_S.rf
  have hent : entryFrame m args 3 = entryFrame m ([.ref (ad 1000), .int (jI z9), .int (jI p9)] : List Value).toArray 3 := by rw [hargs]
  have hl := lv_entry ([.ref (ad 1000), .int (jI z9), .int (jI p9)]) (n := 3) (Nat.le_of_ble_eq_true rfl)
  rw [hent, lg_entry_eq]
  generalize (lg_sl ([.ref (ad 1000), .int (jI z9), .int (jI p9)]) ++ List.replicate (3 - (lg_sl ([.ref (ad 1000), .int (jI z9), .int (jI p9)])).length) Slot.unset).toArray = ls at hl ⊢
  have hl : lv_has ls 3 [(0, .ref (ad 1000)), (1, .int (jI z9)), (2, .int (jI p9))] := hl
  refine lv_aload_n hx hb dX6_drop_0 rfl (lv_at hl 0 rfl) ?_
  refine lv_iload_n hx hb dX6_drop_1 rfl (lv_at hl 1 rfl) ?_
  refine rm_calli (va_runV (As := [.int (jI z9)]) (rest := []) ⟨hx, hb, hml, hown, hts⟩ (c_X6_isHeap l D ty ad ct s.heap.size th yc hc yn yM yu hy hg hf mA pt ro ke kt mu sl tw bw de hMo z9 hz9 hb20) (cwV 1 hts gX6_drop_X6_isHeap rfl rfl rfl (by decide +kernel) ⟨Nat.le_of_ble_eq_true rfl, Nat.le_of_ble_eq_true rfl⟩) (rm_preV hK hNw hW hMo.1 rfl) rfl rfl hl.1 rfl (lv_room (Nat.le_of_ble_eq_true rfl)) dX6_drop_2 ⟨Nat.zero_le _, Nat.zero_le _⟩) hW hS hA (fun z_1 ct_1 H locs hq_1 hW hS => ?_)
  obtain ⟨hqo, hqc⟩ := hq_1
  rcases hqc with ⟨hbad, hz, hqs⟩ | ⟨hp1, hp2, hz, hqs⟩
  · skip
    subst hz
    have ho_1 : ∀ q, q ≠ 1000 → ct_1 q = ct q := hqo
    have hof_1 : ∀ q, q ≠ 1000 → q ≠ 1005 → q ≠ 1006 → ct_1 q = ct q := fun q h0_1 h1_1 h2_1 => (ho_1 q h0_1).trans rfl
    have hm0_1 : ct_1 1000 = some (.inr (6, [.int (jI 1), .int (jI ((yc : Nat) : Int)), .int (jI ((hc : Nat) : Int)), .ref (ad 1001), .ref (ad 1002), .ref (ad 1003), .ref (ad 1004), .ref (ad 1005), .ref (ad 1006), .ref (ad 1007), .ref (ad 1008), .ref (ad 1009), .ref (ad 1010), .ref (ad 1011), .ref (ad 1012), .ref (ad 1013), .ref (ad 1014), .ref (ad 1015), .ref (ad 1016)]) : va_E) := hqs
    have hm1_1 : ct_1 1005 = some (rl ty 160 (fl 8 hg)) := (ho_1 1005 (by omega)).trans hMo.2.2.2.2.2.1
    have hm2_1 : ct_1 1006 = some (rl ty 160 (fl 8 hf)) := (ho_1 1006 (by omega)).trans hMo.2.2.2.2.2.2.1
    refine rm_if_eq (tgt := 18) hx hb ⟨by omega, by omega⟩ dX6_drop_5 (by decide) (fun _ => ?_) (fun hq => absurd hq (by omega))
    refine lv_lconst (v := jL 0) hx hb dX6_drop_18 rfl ?_
    exact W.lret hx hb hr (fun t ht hw => ⟨⟨_, (0, ct_1), rfl, ⟨rfl, ⟨(fun q hq9 => hof_1 q (by omega) (by omega) (by omega)), Or.inl ⟨Or.inl hbad, ⟨mA, pt, ro, ke, kt, mu, sl, tw, bw, de, ⟨hm0_1, ((hof_1 1001 (by omega) (by omega) (by omega)).trans hMo.2.1), ((hof_1 1002 (by omega) (by omega) (by omega)).trans hMo.2.2.1), ((hof_1 1003 (by omega) (by omega) (by omega)).trans hMo.2.2.2.1), ((hof_1 1004 (by omega) (by omega) (by omega)).trans hMo.2.2.2.2.1), hm1_1, hm2_1, ((hof_1 1007 (by omega) (by omega) (by omega)).trans hMo.2.2.2.2.2.2.2.1), ((hof_1 1008 (by omega) (by omega) (by omega)).trans hMo.2.2.2.2.2.2.2.2.1), ((hof_1 1009 (by omega) (by omega) (by omega)).trans hMo.2.2.2.2.2.2.2.2.2.1), ((hof_1 1010 (by omega) (by omega) (by omega)).trans hMo.2.2.2.2.2.2.2.2.2.2.1), ((hof_1 1011 (by omega) (by omega) (by omega)).trans hMo.2.2.2.2.2.2.2.2.2.2.2.1), ((hof_1 1012 (by omega) (by omega) (by omega)).trans hMo.2.2.2.2.2.2.2.2.2.2.2.2.1), ((hof_1 1013 (by omega) (by omega) (by omega)).trans hMo.2.2.2.2.2.2.2.2.2.2.2.2.2.1), ((hof_1 1014 (by omega) (by omega) (by omega)).trans hMo.2.2.2.2.2.2.2.2.2.2.2.2.2.2.1), ((hof_1 1015 (by omega) (by omega) (by omega)).trans hMo.2.2.2.2.2.2.2.2.2.2.2.2.2.2.2.1), ((hof_1 1016 (by omega) (by omega) (by omega)).trans hMo.2.2.2.2.2.2.2.2.2.2.2.2.2.2.2.2)⟩⟩⟩⟩⟩, by show rm_W D ad _ _ t.heap; rw [ht]; exact hW⟩, hS.F ht⟩) hS.2.2 dX6_drop_19
  · skip
    subst hz
    have ho_1 : ∀ q, q ≠ 1000 → ct_1 q = ct q := hqo
    have hof_1 : ∀ q, q ≠ 1000 → q ≠ 1005 → q ≠ 1006 → ct_1 q = ct q := fun q h0_1 h1_1 h2_1 => (ho_1 q h0_1).trans rfl
    have hm0_1 : ct_1 1000 = some (.inr (6, [.int (jI 0), .int (jI ((yc : Nat) : Int)), .int (jI ((hc : Nat) : Int)), .ref (ad 1001), .ref (ad 1002), .ref (ad 1003), .ref (ad 1004), .ref (ad 1005), .ref (ad 1006), .ref (ad 1007), .ref (ad 1008), .ref (ad 1009), .ref (ad 1010), .ref (ad 1011), .ref (ad 1012), .ref (ad 1013), .ref (ad 1014), .ref (ad 1015), .ref (ad 1016)]) : va_E) := hqs
    have hm1_1 : ct_1 1005 = some (rl ty 160 (fl 8 hg)) := (ho_1 1005 (by omega)).trans hMo.2.2.2.2.2.1
    have hm2_1 : ct_1 1006 = some (rl ty 160 (fl 8 hf)) := (ho_1 1006 (by omega)).trans hMo.2.2.2.2.2.2.1
    obtain ⟨h9, hn_h9⟩ : ∃ h9 : Nat, z9 = (h9 : Int) := ⟨z9.toNat, by omega⟩
    subst hn_h9
    have hh9 : h9 < hc := by omega
    have hyh := hhy h9 hh9
    have hn8 := hyn (hy h9) hyh
    have hM8 := hyM (hy h9) hyh
    refine rm_if_eq (tgt := 18) hx hb ⟨by omega, by omega⟩ dX6_drop_5 (by decide) (fun hq => absurd hq (by omega)) (fun _ => ?_)
    refine lv_aload_n hx hb dX6_drop_8 rfl (lv_at hl 0 rfl) ?_
    refine lv_iload_n hx hb dX6_drop_9 rfl (lv_at hl 1 rfl) ?_
    refine lv_iload_n hx hb dX6_drop_10 rfl (lv_at hl 2 rfl) ?_
    refine lv_iconst (v := jI 1) hx hb dX6_drop_11 rfl ?_
    refine rm_calli (va_runV (As := [.int (jI ((h9 : Nat) : Int)), .int (jI p9), .int (jI 1)]) (rest := []) ⟨hx, hb, hml, hown, hts⟩ (c_X6_isIn l D ty ad ct_1 H.size 0 yc hc yn yM yu hy hg hf mA pt ro ke kt mu sl tw bw de ⟨hm0_1, ((hof_1 1001 (by omega) (by omega) (by omega)).trans hMo.2.1), ((hof_1 1002 (by omega) (by omega) (by omega)).trans hMo.2.2.1), ((hof_1 1003 (by omega) (by omega) (by omega)).trans hMo.2.2.2.1), ((hof_1 1004 (by omega) (by omega) (by omega)).trans hMo.2.2.2.2.1), hm1_1, hm2_1, ((hof_1 1007 (by omega) (by omega) (by omega)).trans hMo.2.2.2.2.2.2.2.1), ((hof_1 1008 (by omega) (by omega) (by omega)).trans hMo.2.2.2.2.2.2.2.2.1), ((hof_1 1009 (by omega) (by omega) (by omega)).trans hMo.2.2.2.2.2.2.2.2.2.1), ((hof_1 1010 (by omega) (by omega) (by omega)).trans hMo.2.2.2.2.2.2.2.2.2.2.1), ((hof_1 1011 (by omega) (by omega) (by omega)).trans hMo.2.2.2.2.2.2.2.2.2.2.2.1), ((hof_1 1012 (by omega) (by omega) (by omega)).trans hMo.2.2.2.2.2.2.2.2.2.2.2.2.1), ((hof_1 1013 (by omega) (by omega) (by omega)).trans hMo.2.2.2.2.2.2.2.2.2.2.2.2.2.1), ((hof_1 1014 (by omega) (by omega) (by omega)).trans hMo.2.2.2.2.2.2.2.2.2.2.2.2.2.2.1), ((hof_1 1015 (by omega) (by omega) (by omega)).trans hMo.2.2.2.2.2.2.2.2.2.2.2.2.2.2.2.1), ((hof_1 1016 (by omega) (by omega) (by omega)).trans hMo.2.2.2.2.2.2.2.2.2.2.2.2.2.2.2.2)⟩ rfl h9 (by omega) (by omega) hn8.2 p9 1 hp9 (by omega)) (cwV 3 hts gX6_drop_X6_isIn rfl rfl rfl (by decide +kernel) ⟨Nat.le_of_ble_eq_true rfl, Nat.le_of_ble_eq_true rfl⟩) (rm_preV hK hNw hW hm0_1 rfl) rfl rfl hl.1 rfl (lv_room (Nat.le_of_ble_eq_true rfl)) dX6_drop_12 ⟨Nat.zero_le _, Nat.zero_le _⟩) hW hS hA (fun z_2 ct_2 H locs hq_2 hW hS => ?_)
    obtain ⟨hqo, hqc⟩ := hq_2
    rcases hqc with ⟨hbad, hz, hqs⟩ | ⟨hp1, hp2, hz, hqs⟩
    · skip
      subst hz
      have ho_2 : ∀ q, q ≠ 1000 → ct_2 q = ct_1 q := hqo
      have hof_2 : ∀ q, q ≠ 1000 → q ≠ 1005 → q ≠ 1006 → ct_2 q = ct q := fun q h0_2 h1_2 h2_2 => (ho_2 q h0_2).trans (hof_1 q h0_2 h1_2 h2_2)
      have hm0_2 : ct_2 1000 = some (.inr (6, [.int (jI 1), .int (jI ((yc : Nat) : Int)), .int (jI ((hc : Nat) : Int)), .ref (ad 1001), .ref (ad 1002), .ref (ad 1003), .ref (ad 1004), .ref (ad 1005), .ref (ad 1006), .ref (ad 1007), .ref (ad 1008), .ref (ad 1009), .ref (ad 1010), .ref (ad 1011), .ref (ad 1012), .ref (ad 1013), .ref (ad 1014), .ref (ad 1015), .ref (ad 1016)]) : va_E) := hqs
      have hm1_2 : ct_2 1005 = some (rl ty 160 (fl 8 hg)) := (ho_2 1005 (by omega)).trans hm1_1
      have hm2_2 : ct_2 1006 = some (rl ty 160 (fl 8 hf)) := (ho_2 1006 (by omega)).trans hm2_1
      refine rm_if_ne (tgt := 20) hx hb ⟨by omega, by omega⟩ dX6_drop_15 (by decide) (fun hq => absurd hq (by omega)) (fun _ => ?_)
      refine lv_lconst (v := jL 0) hx hb dX6_drop_18 rfl ?_
      exact W.lret hx hb hr (fun t ht hw => ⟨⟨_, (0, ct_2), rfl, ⟨rfl, ⟨(fun q hq9 => hof_2 q (by omega) (by omega) (by omega)), Or.inl ⟨Or.inr ⟨h9, rfl, hh9, hbad⟩, ⟨mA, pt, ro, ke, kt, mu, sl, tw, bw, de, ⟨hm0_2, ((hof_2 1001 (by omega) (by omega) (by omega)).trans hMo.2.1), ((hof_2 1002 (by omega) (by omega) (by omega)).trans hMo.2.2.1), ((hof_2 1003 (by omega) (by omega) (by omega)).trans hMo.2.2.2.1), ((hof_2 1004 (by omega) (by omega) (by omega)).trans hMo.2.2.2.2.1), hm1_2, hm2_2, ((hof_2 1007 (by omega) (by omega) (by omega)).trans hMo.2.2.2.2.2.2.2.1), ((hof_2 1008 (by omega) (by omega) (by omega)).trans hMo.2.2.2.2.2.2.2.2.1), ((hof_2 1009 (by omega) (by omega) (by omega)).trans hMo.2.2.2.2.2.2.2.2.2.1), ((hof_2 1010 (by omega) (by omega) (by omega)).trans hMo.2.2.2.2.2.2.2.2.2.2.1), ((hof_2 1011 (by omega) (by omega) (by omega)).trans hMo.2.2.2.2.2.2.2.2.2.2.2.1), ((hof_2 1012 (by omega) (by omega) (by omega)).trans hMo.2.2.2.2.2.2.2.2.2.2.2.2.1), ((hof_2 1013 (by omega) (by omega) (by omega)).trans hMo.2.2.2.2.2.2.2.2.2.2.2.2.2.1), ((hof_2 1014 (by omega) (by omega) (by omega)).trans hMo.2.2.2.2.2.2.2.2.2.2.2.2.2.2.1), ((hof_2 1015 (by omega) (by omega) (by omega)).trans hMo.2.2.2.2.2.2.2.2.2.2.2.2.2.2.2.1), ((hof_2 1016 (by omega) (by omega) (by omega)).trans hMo.2.2.2.2.2.2.2.2.2.2.2.2.2.2.2.2)⟩⟩⟩⟩⟩, by show rm_W D ad _ _ t.heap; rw [ht]; exact hW⟩, hS.F ht⟩) hS.2.2 dX6_drop_19
    · skip
      subst hz
      have ho_2 : ∀ q, q ≠ 1000 → ct_2 q = ct_1 q := hqo
      have hof_2 : ∀ q, q ≠ 1000 → q ≠ 1005 → q ≠ 1006 → ct_2 q = ct q := fun q h0_2 h1_2 h2_2 => (ho_2 q h0_2).trans (hof_1 q h0_2 h1_2 h2_2)
      have hm0_2 : ct_2 1000 = some (.inr (6, [.int (jI 0), .int (jI ((yc : Nat) : Int)), .int (jI ((hc : Nat) : Int)), .ref (ad 1001), .ref (ad 1002), .ref (ad 1003), .ref (ad 1004), .ref (ad 1005), .ref (ad 1006), .ref (ad 1007), .ref (ad 1008), .ref (ad 1009), .ref (ad 1010), .ref (ad 1011), .ref (ad 1012), .ref (ad 1013), .ref (ad 1014), .ref (ad 1015), .ref (ad 1016)]) : va_E) := hqs
      have hm1_2 : ct_2 1005 = some (rl ty 160 (fl 8 hg)) := (ho_2 1005 (by omega)).trans hm1_1
      have hm2_2 : ct_2 1006 = some (rl ty 160 (fl 8 hf)) := (ho_2 1006 (by omega)).trans hm2_1
      obtain ⟨q9, hn_q9⟩ : ∃ q9 : Nat, p9 = (q9 : Int) := ⟨p9.toNat, by omega⟩
      subst hn_q9
      refine rm_if_ne (tgt := 20) hx hb ⟨by omega, by omega⟩ dX6_drop_15 (by decide) (fun _ => ?_) (fun hq => absurd hq (by omega))
      refine lv_aload_n hx hb dX6_drop_20 rfl (lv_at hl 0 rfl) ?_
      refine rm_get (ci := 6) (v := .ref (ad 1005)) (C := RX6) (T := TX6) (N := 19) hx hb hts (by decide +kernel) hown hK hW hm0_2 rfl 7 (by decide) (hts (.fieldLink RX6 23 "GrainYardModel" "grains" "[J") (by decide +kernel)) (fun _ h9 => h9) rfl dX6_drop_21 ?_
      refine lv_bipush (v := jI 8) hx hb dX6_drop_24 (by decide) ?_
      refine lv_iload_n hx hb dX6_drop_26 rfl (lv_at hl 1 rfl) ?_
      refine rm_imul hx hb dX6_drop_27 ?_
      refine lv_iload_n hx hb dX6_drop_28 rfl (lv_at hl 2 rfl) ?_
      refine rm_iadd hx hb dX6_drop_29 ?_
      refine lv_dup2_11 hx hb dX6_drop_30 rfl rfl ?_
      refine rm_lald hx hb hK hW (f := (fl 8 hg)) hm1_2 (8 * h9 + q9) (by first | rfl | (push_cast; omega)) (by omega) (by omega) dX6_drop_31 ?_
      rw [fl_at (by omega)]
      refine lv_lconst (v := jL 1) hx hb dX6_drop_32 rfl ?_
      refine rm_ladd hx hb dX6_drop_33 ?_
      refine rm_last hx hb hK hW hS (f := (fl 8 hg)) hm1_2 (8 * h9 + q9) (by first | rfl | (push_cast; omega)) (by omega) (by omega) dX6_drop_34 (fun H locs ct_3 hs_3 ho_3 hW hS hz_3 => ?_)
      have hof_3 : ∀ q, q ≠ 1000 → q ≠ 1005 → q ≠ 1006 → ct_3 q = ct q := fun q h0_3 h1_3 h2_3 => (ho_3 q h1_3).trans (hof_2 q h0_3 h1_3 h2_3)
      have hm0_3 : ct_3 1000 = some (.inr (6, [.int (jI 0), .int (jI ((yc : Nat) : Int)), .int (jI ((hc : Nat) : Int)), .ref (ad 1001), .ref (ad 1002), .ref (ad 1003), .ref (ad 1004), .ref (ad 1005), .ref (ad 1006), .ref (ad 1007), .ref (ad 1008), .ref (ad 1009), .ref (ad 1010), .ref (ad 1011), .ref (ad 1012), .ref (ad 1013), .ref (ad 1014), .ref (ad 1015), .ref (ad 1016)]) : va_E) := (ho_3 1000 (by omega)).trans hm0_2
      have hm2_3 : ct_3 1006 = some (rl ty 160 (fl 8 hf)) := (ho_3 1006 (by omega)).trans hm2_2
      have hk_4 : ct_3 1005 = some (rl ty 160 (fl 8 (ub hg h9 (ub (hg h9) q9 ((hg h9 q9) + 1))))) := hs_3.trans (congrArg (fun f => some (rl ty 160 f)) (fl_ub (by omega) _ _))
      refine lv_aload_n hx hb dX6_drop_35 rfl (lv_at hl 0 rfl) ?_
      refine lv_iload_n hx hb dX6_drop_36 rfl (lv_at hl 1 rfl) ?_
      have hgb := hgr h9 hh9
      have hps := psum_bump (hg h9) (show 1 ≤ q9 by omega) (yn (hy h9))
      rw [if_pos (by omega)] at hps
      have hst9 := hst h9 hh9
      have hg9 : ∀ q, 1 ≤ q → q < (yn (hy h9)) → 0 ≤ (ub (hg h9) q9 (hg h9 q9 + 1)) q := fun q a b => by
        have h1 := (hgb q a b).1
        by_cases e : q = q9
        · subst e; rw [ub_s]; omega
        · rw [ub_n _ _ e]; exact h1
      refine rm_calll (va_runV (As := [.int (jI ((h9 : Nat) : Int))]) (rest := []) ⟨hx, hb, hml, hown, hts⟩ (c_X6_settles l D ty ad ct_3 H.size 0 yc hc yn yM yu hy (ub hg h9 (ub (hg h9) q9 ((hg h9 q9) + 1))) hf mA pt ro ke kt mu sl tw bw de ⟨hm0_3, ((hof_3 1001 (by omega) (by omega) (by omega)).trans hMo.2.1), ((hof_3 1002 (by omega) (by omega) (by omega)).trans hMo.2.2.1), ((hof_3 1003 (by omega) (by omega) (by omega)).trans hMo.2.2.2.1), ((hof_3 1004 (by omega) (by omega) (by omega)).trans hMo.2.2.2.2.1), hk_4, hm2_3, ((hof_3 1007 (by omega) (by omega) (by omega)).trans hMo.2.2.2.2.2.2.2.1), ((hof_3 1008 (by omega) (by omega) (by omega)).trans hMo.2.2.2.2.2.2.2.2.1), ((hof_3 1009 (by omega) (by omega) (by omega)).trans hMo.2.2.2.2.2.2.2.2.2.1), ((hof_3 1010 (by omega) (by omega) (by omega)).trans hMo.2.2.2.2.2.2.2.2.2.2.1), ((hof_3 1011 (by omega) (by omega) (by omega)).trans hMo.2.2.2.2.2.2.2.2.2.2.2.1), ((hof_3 1012 (by omega) (by omega) (by omega)).trans hMo.2.2.2.2.2.2.2.2.2.2.2.2.1), ((hof_3 1013 (by omega) (by omega) (by omega)).trans hMo.2.2.2.2.2.2.2.2.2.2.2.2.2.1), ((hof_3 1014 (by omega) (by omega) (by omega)).trans hMo.2.2.2.2.2.2.2.2.2.2.2.2.2.2.1), ((hof_3 1015 (by omega) (by omega) (by omega)).trans hMo.2.2.2.2.2.2.2.2.2.2.2.2.2.2.2.1), ((hof_3 1016 (by omega) (by omega) (by omega)).trans hMo.2.2.2.2.2.2.2.2.2.2.2.2.2.2.2.2)⟩ h9 (by omega) (by omega) hn8 hM8 hst9.1 (by rw [ub_s]; exact hg9) (by rw [ub_s]; omega)) (cwV 1 hts gX6_drop_X6_settles rfl rfl rfl (by decide +kernel) ⟨Nat.le_of_ble_eq_true rfl, Nat.le_of_ble_eq_true rfl⟩) (rm_preV hK hNw hW hm0_3 rfl) rfl rfl hl.1 rfl (lv_room (Nat.le_of_ble_eq_true rfl)) dX6_drop_37 ⟨Nat.zero_le _, Nat.zero_le _⟩) hW hS hA (fun z_5 ct_5 H locs hq_5 hW hS => ?_)
      obtain ⟨v, hv1, hv2, hq1, hq2, hq3⟩ := hq_5
      rw [ub_s] at hv1
      rw [ub_s, ub_ub] at hq1
      have ho_5 : ∀ q, q ≠ 1005 → q ≠ 1006 → ct_5 q = ct_3 q := hq3
      have hof_5 : ∀ q, q ≠ 1000 → q ≠ 1005 → q ≠ 1006 → ct_5 q = ct q := fun q h0_5 h1_5 h2_5 => (ho_5 q h1_5 h2_5).trans (hof_3 q h0_5 h1_5 h2_5)
      have hm0_5 : ct_5 1000 = some (.inr (6, [.int (jI 0), .int (jI ((yc : Nat) : Int)), .int (jI ((hc : Nat) : Int)), .ref (ad 1001), .ref (ad 1002), .ref (ad 1003), .ref (ad 1004), .ref (ad 1005), .ref (ad 1006), .ref (ad 1007), .ref (ad 1008), .ref (ad 1009), .ref (ad 1010), .ref (ad 1011), .ref (ad 1012), .ref (ad 1013), .ref (ad 1014), .ref (ad 1015), .ref (ad 1016)]) : va_E) := (ho_5 1000 (by omega) (by omega)).trans hm0_3
      have hm1_5 : ct_5 1005 = some (rl ty 160 (fl 8 (us hg h9 (gaf (yn (hy h9)) (yM (hy h9)) (ub (hg h9) q9 (hg h9 q9 + 1)) v)))) := hq1
      have hm2_5 : ct_5 1006 = some (rl ty 160 (fl 8 (us hf h9 v))) := hq2
      exact W.lret hx hb hr (fun t ht hw => ⟨⟨_, (z_5, ct_5), rfl, ⟨rfl, ⟨(fun q hq9 => hof_5 q (by omega) (by omega) (by omega)), Or.inr ⟨h9, q9, rfl, rfl, hh9, by omega, by omega, v, hv1, hv2, ⟨mA, pt, ro, ke, kt, mu, sl, tw, bw, de, ⟨hm0_5, ((hof_5 1001 (by omega) (by omega) (by omega)).trans hMo.2.1), ((hof_5 1002 (by omega) (by omega) (by omega)).trans hMo.2.2.1), ((hof_5 1003 (by omega) (by omega) (by omega)).trans hMo.2.2.2.1), ((hof_5 1004 (by omega) (by omega) (by omega)).trans hMo.2.2.2.2.1), hm1_5, hm2_5, ((hof_5 1007 (by omega) (by omega) (by omega)).trans hMo.2.2.2.2.2.2.2.1), ((hof_5 1008 (by omega) (by omega) (by omega)).trans hMo.2.2.2.2.2.2.2.2.1), ((hof_5 1009 (by omega) (by omega) (by omega)).trans hMo.2.2.2.2.2.2.2.2.2.1), ((hof_5 1010 (by omega) (by omega) (by omega)).trans hMo.2.2.2.2.2.2.2.2.2.2.1), ((hof_5 1011 (by omega) (by omega) (by omega)).trans hMo.2.2.2.2.2.2.2.2.2.2.2.1), ((hof_5 1012 (by omega) (by omega) (by omega)).trans hMo.2.2.2.2.2.2.2.2.2.2.2.2.1), ((hof_5 1013 (by omega) (by omega) (by omega)).trans hMo.2.2.2.2.2.2.2.2.2.2.2.2.2.1), ((hof_5 1014 (by omega) (by omega) (by omega)).trans hMo.2.2.2.2.2.2.2.2.2.2.2.2.2.2.1), ((hof_5 1015 (by omega) (by omega) (by omega)).trans hMo.2.2.2.2.2.2.2.2.2.2.2.2.2.2.2.1), ((hof_5 1016 (by omega) (by omega) (by omega)).trans hMo.2.2.2.2.2.2.2.2.2.2.2.2.2.2.2.2)⟩⟩⟩⟩⟩, by show rm_W D ad _ _ t.heap; rw [ht]; exact hW⟩, hS.F ht⟩) hS.2.2 dX6_drop_40
