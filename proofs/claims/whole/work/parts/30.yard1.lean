set_option maxHeartbeats 4000000 in
set_option maxRecDepth 100000 in
/-- Yard.fell: a place topples times times -/
theorem c_X4_fell (l : Launch) (D : va_G) (ty : Nat → ClassId) (ad : Nat → Nat) (ct : rm_C) (sz : Nat) (yr n gr place : Nat) (M : Nat → Nat → Int) (d g : Nat → Int) (u times : Int) (hn : n ≤ 8) (hp : place < n) (hY : YardAt ty ad ct yr n M d u) (hM : ∀ i j, 0 ≤ M i j ∧ M i j ≤ 3) (hd : ∀ i, i < 8 → 0 ≤ d i ∧ d i ≤ 21) (hgr : gr < yr ∨ yr + 10 < gr) (hg : ct gr = some (rl ty 8 g)) : Met l yX4_fell wsX4_fell ({ frames := 0, cells := 0, slots := 0, locals := 0 }) (rm_P D ty ad ct sz [.ref (ad yr), .ref (ad gr), .int (jI ((place : Nat) : Int)), .long (jL times)]) (rm_Qv D ad ct sz 0 (fun ct1 => ct1 gr = some (rl ty 8 (fel n M d g place times)) ∧ ∀ q, q ≠ gr → ct1 q = ct q)) 0 0 (rm_A ad ct sz) := by
  refine Met.ofW (cc := cX4_fell) (maxL := 6) (ret := none) (by decide) rfl ?_
  intro p e s m args below meth c s₁ B hml hv
  obtain ⟨hargs, hsz, hW, hK, hNw⟩ := hv
  have hx := B.exec
  have hb := B.bytes
  have hr := B.returns
  have hts := atoms_spec (ws := wsX4_fell) B.pre
  have hown : s.vm.findClass RX4 = some m.cls := findClass_of_methodNamed B.named
  have hlocks := B.notSynchronized
  subst hsz
  have hW := hW.own (sz := s.heap.size)
  have hA : ∀ q : Nat, s.heap.size ≤ q → rm_A ad ct s.heap.size q := fun q h => Or.inr h
  have hS : va_S (rm_A ad ct s.heap.size) s.heap s.heap [] := va_S.rf
  have hent : entryFrame m args 6 = entryFrame m ([.ref (ad yr), .ref (ad gr), .int (jI ((place : Nat) : Int)), .long (jL times)] : List Value).toArray 6 := by rw [hargs]
  have hl := lv_entry ([.ref (ad yr), .ref (ad gr), .int (jI ((place : Nat) : Int)), .long (jL times)]) (n := 6) (Nat.le_of_ble_eq_true rfl)
  rw [hent, lg_entry_eq]
  generalize (lg_sl ([.ref (ad yr), .ref (ad gr), .int (jI ((place : Nat) : Int)), .long (jL times)]) ++ List.replicate (6 - (lg_sl ([.ref (ad yr), .ref (ad gr), .int (jI ((place : Nat) : Int)), .long (jL times)])).length) Slot.unset).toArray = ls at hl ⊢
  have hl : lv_has ls 6 [(0, .ref (ad yr)), (1, .ref (ad gr)), (2, .int (jI ((place : Nat) : Int))), (3, .long (jL times))] := hl
  have hdp := hd place (by omega)
  refine lv_aload_n hx hb dX4_fell_0 rfl (lv_at hl 1 rfl) ?_
  refine lv_iload_n hx hb dX4_fell_1 rfl (lv_at hl 2 rfl) ?_
  refine lv_dup2_11 hx hb dX4_fell_2 rfl rfl ?_
  refine rm_lald hx hb hK hW (f := g) hg place rfl (by omega) (by omega) dX4_fell_3 ?_
  refine lv_lload_n hx hb dX4_fell_4 rfl (lv_at hl 3 rfl) ?_
  refine lv_aload_n hx hb dX4_fell_5 rfl (lv_at hl 0 rfl) ?_
  refine rm_get (ci := 4) (v := .ref (ad (yr + 10))) (C := RX4) (T := TX4) (N := 4) hx hb hts (by decide +kernel) hown hK hW hY.1 rfl 2 (by decide) (hts (.fieldLink RX4 20 "GrainYard$Yard" "degrees" "[I") (by decide +kernel)) (fun _ h9 => h9) rfl dX4_fell_6 ?_
  refine lv_iload_n hx hb dX4_fell_9 rfl (lv_at hl 2 rfl) ?_
  refine rm_iald hx hb hK hW (f := d) hY.2.2.2 place rfl (by omega) (by omega) dX4_fell_10 ?_
  refine rm_i2l hx hb dX4_fell_11 ⟨by omega, by omega⟩ ?_
  refine rm_lmul hx hb dX4_fell_12 ?_
  refine rm_lsub hx hb dX4_fell_13 ?_
  refine rm_last hx hb hK hW hS (f := g) hg place rfl (by omega) (by omega) dX4_fell_14 (fun H locs ct_1 hs_1 ho_1 hW hS hz_1 => ?_)
  have hof_1 : ∀ q, q ≠ gr → ct_1 q = ct q := fun q h0_1 => (ho_1 q h0_1).trans rfl
  refine lv_iconst (v := jI 0) hx hb dX4_fell_15 rfl ?_
  refine lv_istore (lv' := [(5, .int (jI 0)), (0, .ref (ad yr)), (1, .ref (ad gr)), (2, .int (jI ((place : Nat) : Int))), (3, .long (jL times))]) hx hb dX4_fell_16 hl (by decide) rfl (fun ls hl => ?_)
  have hk_2 : ct_1 gr = some (rl ty 8 (fel 0 M d g place times)) := hs_1.trans (congrArg (fun f => some (rl ty 8 f)) (fel_0 M d g place times))
  have LP : ∀ (k : Nat) (i : Nat) (hi : i ≤ n), n - i < k → ∀ (ctv : rm_C) (H : Heap) (locs : List Loc), (ctv gr = some (rl ty 8 (fel i M d g place times))) → ∀ (_ : True), (∀ q, q ≠ gr → ctv q = ct q) → ∀ (_ : True), rm_W D ad ctv (rm_A ad ct s.heap.size) H → va_S (rm_A ad ct s.heap.size) s.heap H locs → ∀ ls : Array Slot, lv_has ls 6 [(5, .int (jI ((i : Nat) : Int))), (0, .ref (ad yr)), (1, .ref (ad gr)), (2, .int (jI ((place : Nat) : Int))), (3, .long (jL times))] → W p l e (headSpec wsX4_fell ({ frames := 0, cells := 0, slots := 0, locals := 0 })).room s m args below meth c H locs 0 0 (MQ below (rm_Qv D ad ct s.heap.size 0 (fun ct1 => ct1 gr = some (rl ty 8 (fel n M d g place times)) ∧ ∀ q, q ≠ gr → ct1 q = ct q)) args s 0 0 (rm_A ad ct s.heap.size)) (F0 m 18 ls []) := by
    intro k
    induction k with
    | zero => intro i hi hk; exact absurd hk (Nat.not_lt_zero _)
    | succ k ih_LP =>
      intro i hi hk ctv_3 H locs hv0_3 _ hofv_3 _ hW hS ls hl
      refine lv_iload hx hb dX4_fell_18 (lv_at hl 0 rfl) ?_
      refine lv_aload_n hx hb dX4_fell_20 rfl (lv_at hl 1 rfl) ?_
      refine rm_get (ci := 4) (v := .int (jI ((n : Nat) : Int))) (C := RX4) (T := TX4) (N := 4) hx hb hts (by decide +kernel) hown hK hW ((hofv_3 yr (by omega)).trans hY.1) rfl 0 (by decide) (hts (.fieldLink RX4 9 "GrainYard$Yard" "places" "I") (by decide +kernel)) (fun _ h9 => h9) rfl dX4_fell_21 ?_
      refine rm_icmp_ge (tgt := 52) hx hb ⟨by omega, by omega⟩ ⟨by omega, by omega⟩ dX4_fell_24 (by decide) (fun hc_4 => ?_) (fun hc_4 => ?_)
      · skip
        have hi : i = n := by omega
        subst hi
        exact W.vret hx hb hr (fun t ht hw => ⟨⟨ctv_3, rfl, ⟨hv0_3, fun q hq => hofv_3 q hq⟩, by show rm_W D ad _ _ t.heap; rw [ht]; exact hW, Or.inl rfl⟩, hS.F ht⟩) hS.2.2 dX4_fell_52
      · skip
        have hMp := hM place i
        refine lv_aload_n hx hb dX4_fell_27 rfl (lv_at hl 2 rfl) ?_
        refine lv_iload hx hb dX4_fell_28 (lv_at hl 0 rfl) ?_
        refine lv_dup2_11 hx hb dX4_fell_30 rfl rfl ?_
        refine rm_lald hx hb hK hW (f := (fel i M d g place times)) hv0_3 i rfl (by omega) (by omega) dX4_fell_31 ?_
        refine lv_lload_n hx hb dX4_fell_32 rfl (lv_at hl 4 rfl) ?_
        refine lv_aload_n hx hb dX4_fell_33 rfl (lv_at hl 1 rfl) ?_
        refine rm_get (ci := 4) (v := .ref (ad (yr + 1))) (C := RX4) (T := TX4) (N := 4) hx hb hts (by decide +kernel) hown hK hW ((hofv_3 yr (by omega)).trans hY.1) rfl 1 (by decide) (hts (.fieldLink RX4 17 "GrainYard$Yard" "paths" "[[I") (by decide +kernel)) (fun _ h9 => h9) rfl dX4_fell_34 ?_
        refine lv_iload_n hx hb dX4_fell_37 rfl (lv_at hl 3 rfl) ?_
        refine rm_aald hx hb hK hW (f := (fun i => if i < 8 then some (ad (yr + 1 + 1 + i)) else none)) ((hofv_3 (yr + 1) (by omega)).trans hY.2.1) rfl rfl place rfl (by omega) (by omega) dX4_fell_38 (congrArg va_rf (if_pos (by omega))) ?_
        refine lv_iload hx hb dX4_fell_39 (lv_at hl 0 rfl) ?_
        refine rm_iald hx hb hK hW (f := (M place)) ((hofv_3 (yr + 1 + 1 + place) (by omega)).trans (hY.2.2.1 place (by omega))) i rfl (by omega) (by omega) dX4_fell_41 ?_
        refine rm_i2l hx hb dX4_fell_42 ⟨by omega, by omega⟩ ?_
        refine rm_lmul hx hb dX4_fell_43 ?_
        refine rm_ladd hx hb dX4_fell_44 ?_
        refine rm_last hx hb hK hW hS (f := (fel i M d g place times)) hv0_3 i rfl (by omega) (by omega) dX4_fell_45 (fun H locs ct_5 hs_5 ho_5 hW hS hz_5 => ?_)
        have hof_5 : ∀ q, q ≠ gr → ct_5 q = ct q := fun q h0_5 => (ho_5 q h0_5).trans (hofv_3 q h0_5)
        refine lv_iinc (v := jI (((i : Nat) : Int) + 1)) (lv' := [(5, .int (jI (((i : Nat) : Int) + 1))), (0, .ref (ad yr)), (1, .ref (ad gr)), (2, .int (jI ((place : Nat) : Int))), (3, .long (jL times))]) hx hb dX4_fell_46 hl (k := 0) rfl (jI_add _ _) (by decide) rfl (fun ls hl => ?_)
        refine lv_goto (tgt := 18) hx hb dX4_fell_49 (by decide) ?_
        have hk_6 : ct_5 gr = some (rl ty 8 (fel (i + 1) M d g place times)) := hs_5.trans (congrArg (fun f => some (rl ty 8 f)) (fel_s M d g place times i))
        exact ih_LP (i + 1) (by omega) (by omega) ct_5 _ _ hk_6 trivial hof_5 trivial hW hS ls (lv_sub hl [0, 1, 2, 3, 4] rfl)
  exact LP (n + 1) (0) (Nat.zero_le _) (by omega) ct_1 _ _ hk_2 trivial hof_1 trivial hW hS ls (lv_sub hl [0, 1, 2, 3, 4] rfl)
set_option maxHeartbeats 4000000 in
set_option maxRecDepth 100000 in
/-- Yard.fallsDue -/
theorem c_X4_fallsDue (l : Launch) (D : va_G) (ty : Nat → ClassId) (ad : Nat → Nat) (ct : rm_C) (sz : Nat) (yr n gr place : Nat) (M : Nat → Nat → Int) (d g : Nat → Int) (u : Int) (hn : n ≤ 8) (hp : place < n) (hY : YardAt ty ad ct yr n M d u) (hd : ∀ i, i < 8 → 0 ≤ d i ∧ d i ≤ 21) (hg : ct gr = some (rl ty 8 g)) (hg64 : r64 (g place)) : Met l yX4_fallsDue wsX4_fallsDue ({ frames := 0, cells := 0, slots := 0, locals := 0 }) (rm_P D ty ad ct sz [.ref (ad yr), .ref (ad gr), .int (jI ((place : Nat) : Int))]) (rm_Ql D ad ct sz (fun z ct1 => z = due d g place ∧ ct1 = ct)) 0 0 (rm_A ad ct sz) := by
  refine Met.ofW (cc := cX4_fallsDue) (maxL := 4) (ret := (some .long)) (by decide) rfl ?_
  intro p e s m args below meth c s₁ B hml hv
  obtain ⟨hargs, hsz, hW, hK, hNw⟩ := hv
  have hx := B.exec
  have hb := B.bytes
  have hr := B.returns
  have hts := atoms_spec (ws := wsX4_fallsDue) B.pre
  have hown : s.vm.findClass RX4 = some m.cls := findClass_of_methodNamed B.named
  have hlocks := B.notSynchronized
  subst hsz
  have hW := hW.own (sz := s.heap.size)
  have hA : ∀ q : Nat, s.heap.size ≤ q → rm_A ad ct s.heap.size q := fun q h => Or.inr h
  have hS : va_S (rm_A ad ct s.heap.size) s.heap s.heap [] := va_S.rf
  have hent : entryFrame m args 4 = entryFrame m ([.ref (ad yr), .ref (ad gr), .int (jI ((place : Nat) : Int))] : List Value).toArray 4 := by rw [hargs]
  have hl := lv_entry ([.ref (ad yr), .ref (ad gr), .int (jI ((place : Nat) : Int))]) (n := 4) (Nat.le_of_ble_eq_true rfl)
  rw [hent, lg_entry_eq]
  generalize (lg_sl ([.ref (ad yr), .ref (ad gr), .int (jI ((place : Nat) : Int))]) ++ List.replicate (4 - (lg_sl ([.ref (ad yr), .ref (ad gr), .int (jI ((place : Nat) : Int))])).length) Slot.unset).toArray = ls at hl ⊢
  have hl : lv_has ls 4 [(0, .ref (ad yr)), (1, .ref (ad gr)), (2, .int (jI ((place : Nat) : Int)))] := hl
  have hdp := hd place (by omega)
  refine lv_aload_n hx hb dX4_fallsDue_0 rfl (lv_at hl 0 rfl) ?_
  refine rm_get (ci := 4) (v := .ref (ad (yr + 10))) (C := RX4) (T := TX4) (N := 4) hx hb hts (by decide +kernel) hown hK hW hY.1 rfl 2 (by decide) (hts (.fieldLink RX4 20 "GrainYard$Yard" "degrees" "[I") (by decide +kernel)) (fun _ h9 => h9) rfl dX4_fallsDue_1 ?_
  refine lv_iload_n hx hb dX4_fallsDue_4 rfl (lv_at hl 2 rfl) ?_
  refine rm_iald hx hb hK hW (f := d) hY.2.2.2 place rfl (by omega) (by omega) dX4_fallsDue_5 ?_
  refine lv_istore_n (lv' := [(3, .int (jI (d place))), (0, .ref (ad yr)), (1, .ref (ad gr)), (2, .int (jI ((place : Nat) : Int)))]) hx hb dX4_fallsDue_6 rfl hl (by decide) rfl (fun ls hl => ?_)
  refine lv_iload_n hx hb dX4_fallsDue_7 rfl (lv_at hl 0 rfl) ?_
  refine rm_if_gt (tgt := 15) hx hb ⟨by omega, by omega⟩ dX4_fallsDue_8 (by decide) (fun hc_1 => ?_) (fun hc_1 => ?_)
  · skip
    refine lv_aload_n hx hb dX4_fallsDue_15 rfl (lv_at hl 2 rfl) ?_
    refine lv_iload_n hx hb dX4_fallsDue_16 rfl (lv_at hl 3 rfl) ?_
    refine rm_lald hx hb hK hW (f := g) hg place rfl (by omega) (by omega) dX4_fallsDue_17 ?_
    refine lv_iload_n hx hb dX4_fallsDue_18 rfl (lv_at hl 0 rfl) ?_
    refine rm_i2l hx hb dX4_fallsDue_19 ⟨by omega, by omega⟩ ?_
    refine rm_ldiv hx hb dX4_fallsDue_20 hg64 ⟨by omega, by omega⟩ (by omega) ?_
    exact W.lret hx hb hr (fun t ht hw => ⟨⟨_, ((Int.tdiv (g place) (d place)), ct), rfl, ⟨rfl, ⟨by unfold due; rw [if_neg (by omega)], rfl⟩⟩, by show rm_W D ad _ _ t.heap; rw [ht]; exact hW⟩, hS.F ht⟩) hS.2.2 dX4_fallsDue_21
  · skip
    refine lv_lconst (v := jL 0) hx hb dX4_fallsDue_11 rfl ?_
    refine lv_goto (tgt := 21) hx hb dX4_fallsDue_12 (by decide) ?_
    exact W.lret hx hb hr (fun t ht hw => ⟨⟨_, (0, ct), rfl, ⟨rfl, ⟨by unfold due; rw [if_pos (by omega)], rfl⟩⟩, by show rm_W D ad _ _ t.heap; rw [ht]; exact hW⟩, hS.F ht⟩) hS.2.2 dX4_fallsDue_21
