set_option maxHeartbeats 4000000 in
set_option maxRecDepth 100000 in
theorem c_X2_against (l : Launch) (D : va_G) (ty : Nat → ClassId) (ad : Nat → Nat) (ct : rm_C) (sz : Nat) (yr n : Nat) (M : Nat → Nat → Int) (d : Nat → Int) (u : Int) (ko : Nat) (fu li so fa : Nat → Int) (T : Nat → Nat → Int) (gr : Nat) (g : Nat → Int) (hg : ct gr = some (rl ty 8 g)) (hgr : (gr < ko ∨ ko + 14 < gr) ∧ (gr < yr ∨ yr + 10 < gr)) (hg0 : ∀ q, 1 ≤ q → q < n → 0 ≤ g q) (hgB : psum n g ≤ 900000000) (hy : yst n M) (hY : YardAt ty ad ct yr n M d u) (hdd : ∀ i, i < 8 → d i = dg n M i) (hd0 : ∀ i, i < 8 → 0 ≤ d i ∧ d i ≤ 21) (hKi : KindsAt ty ad ct ko fu li so fa T) (hko : ko + 14 < yr ∨ yr + 10 < ko) : Met l yX2_against wsX2_against ({ frames := 3, cells := 0, slots := 0, locals := 79 }) (rm_P D ty ad ct sz [.ref (ad ko), .ref (ad yr), .ref (ad gr)]) (rm_Qr D ad ct sz (fun z ct1 => z = ko + 4 ∧ ∃ fu1 li1 so1 fa1, ct1 (ko + 2) = some (rl ty 8 fu1) ∧ ct1 (ko + 3) = some (rl ty 8 li1) ∧ ct1 (ko + 4) = some (rl ty 8 so1) ∧ ct1 (ko + 5) = some (rl ty 8 fa1) ∧ (∀ q, 1 ≤ q → q < n → so1 q = opp n M g q) ∧ ∀ q, q ≠ ko + 2 → q ≠ ko + 3 → q ≠ ko + 4 → q ≠ ko + 5 → ct1 q = ct q)) 0 0 (rm_A ad ct sz) := by
  refine Met.ofW (cc := cX2_against) (maxL := 4) (ret := (some (.array .long))) (by decide) rfl ?_
  intro p e s m args below meth c s₁ B hml hv
  obtain ⟨hargs, hsz, hW, hK, hNw⟩ := hv
  have hx := B.exec
  have hb := B.bytes
  have hr := B.returns
  have hts := atoms_spec (ws := wsX2_against) B.pre
  have hown : s.vm.findClass RX2 = some m.cls := findClass_of_methodNamed B.named
  have hlocks := B.notSynchronized
  subst hsz
  have hW := hW.own (sz := s.heap.size)
  have hA : ∀ q : Nat, s.heap.size ≤ q → rm_A ad ct s.heap.size q := fun q h => Or.inr h
  have hS : va_S (rm_A ad ct s.heap.size) s.heap s.heap [] := va_S.rf
  have hent : entryFrame m args 4 = entryFrame m ([.ref (ad ko), .ref (ad yr), .ref (ad gr)] : List Value).toArray 4 := by rw [hargs]
  have hl := lv_entry ([.ref (ad ko), .ref (ad yr), .ref (ad gr)]) (n := 4) (Nat.le_of_ble_eq_true rfl)
  rw [hent, lg_entry_eq]
  generalize (lg_sl ([.ref (ad ko), .ref (ad yr), .ref (ad gr)]) ++ List.replicate (4 - (lg_sl ([.ref (ad ko), .ref (ad yr), .ref (ad gr)])).length) Slot.unset).toArray = ls at hl ⊢
  have hl : lv_has ls 4 [(0, .ref (ad ko)), (1, .ref (ad yr)), (2, .ref (ad gr))] := hl
  have hn8 := hy.1.2.1
  have hn2 := hy.1.1
  refine lv_aload_n hx hb dX2_against_0 rfl (lv_at hl 2 rfl) ?_
  refine lv_iconst (v := jI 0) hx hb dX2_against_1 rfl ?_
  refine lv_aload_n hx hb dX2_against_2 rfl (lv_at hl 0 rfl) ?_
  refine rm_get (ci := 2) (v := .ref (ad (ko + 4))) (C := RX2) (T := TX2) (N := 6) hx hb hts (by decide +kernel) hown hK hW hKi.1 rfl 3 (by decide) (hts (.fieldLink RX2 21 "GrainYard$Kinds" "source" "[J") (by decide +kernel)) (fun _ h9 => h9) rfl dX2_against_3 ?_
  refine lv_iconst (v := jI 0) hx hb dX2_against_6 rfl ?_
  refine lv_bipush (v := jI 8) hx hb dX2_against_7 (by decide) ?_
  refine rm_copyl hx hb (hml.trans hl.1.symm) hown (hts (.methodLink RX2 52 arraycopyName) (by decide +kernel)) (hts (.native arraycopyName) (by decide +kernel)) (hts (.static arraycopyName) (by decide +kernel)) (hts (.initialized "java/lang/System") (by decide +kernel)) hK hW hS (f := g) (g := so) hg hKi.2.2.2.2.1 (by decide) (by decide) dX2_against_9 (fun H locs ct_1 hs_1 ho_1 hW hS hz_1 => ?_)
  have hof_1 : ∀ q, q ≠ (ko + 2) → q ≠ (ko + 3) → q ≠ (ko + 4) → q ≠ (ko + 5) → ct_1 q = ct q := fun q h0_1 h1_1 h2_1 h3_1 => (ho_1 q h2_1).trans rfl
  have hm0_1 : ct_1 (ko + 2) = some (rl ty 8 fu) := (ho_1 (ko + 2) (by omega)).trans hKi.2.2.1
  have hm1_1 : ct_1 (ko + 3) = some (rl ty 8 li) := (ho_1 (ko + 3) (by omega)).trans hKi.2.2.2.1
  have hm3_1 : ct_1 (ko + 5) = some (rl ty 8 fa) := (ho_1 (ko + 5) (by omega)).trans hKi.2.2.2.2.2.1
  refine lv_aload_n hx hb dX2_against_12 rfl (lv_at hl 1 rfl) ?_
  refine lv_aload_n hx hb dX2_against_13 rfl (lv_at hl 0 rfl) ?_
  refine rm_get (ci := 2) (v := .ref (ad (ko + 4))) (C := RX2) (T := TX2) (N := 6) hx hb hts (by decide +kernel) hown hK hW ((hof_1 ko (by omega) (by omega) (by omega) (by omega)).trans hKi.1) rfl 3 (by decide) (hts (.fieldLink RX2 21 "GrainYard$Kinds" "source" "[J") (by decide +kernel)) (fun _ h9 => h9) rfl dX2_against_14 ?_
  refine lv_aload_n hx hb dX2_against_17 rfl (lv_at hl 0 rfl) ?_
  refine rm_get (ci := 2) (v := .ref (ad (ko + 5))) (C := RX2) (T := TX2) (N := 6) hx hb hts (by decide +kernel) hown hK hW ((hof_1 ko (by omega) (by omega) (by omega) (by omega)).trans hKi.1) rfl 4 (by decide) (hts (.fieldLink RX2 24 "GrainYard$Kinds" "falls" "[J") (by decide +kernel)) (fun _ h9 => h9) rfl dX2_against_18 ?_
  refine rm_calll (va_runV (As := [.ref (ad (ko + 4)), .ref (ad (ko + 5))]) (rest := []) ⟨hx, hb, hml, hown, hts⟩ (c_X4_calm l D ty ad ct_1 H.size yr n M d u (ko + 4) (ko + 5) g fa hy.1 (hY.kept (fun q h1 h2 => hof_1 q (by omega) (by omega) (by omega) (by omega))) hdd hy.2.1 hd0 (by omega) (by omega) (by omega) hs_1 hm3_1 hg0 (by omega) (hy.2.2 _ hg0 (by omega))) (cwV 2 hts gX2_against_X4_calm rfl rfl rfl (by decide +kernel) ⟨Nat.le_of_ble_eq_true rfl, Nat.le_of_ble_eq_true rfl⟩) (rm_preV hK hNw hW ((hof_1 yr (by omega) (by omega) (by omega) (by omega)).trans hY.1) rfl) rfl rfl hl.1 rfl (lv_room (Nat.le_of_ble_eq_true rfl)) dX2_against_21 ⟨Nat.zero_le _, Nat.zero_le _⟩) hW hS hA (fun z_2 ct_2 H locs hq_2 hW hS => ?_)
  obtain ⟨v9, hv9, -, hq1, hq2, hq3⟩ := hq_2
  have ho_2 : ∀ q, q ≠ (ko + 4) → q ≠ (ko + 5) → ct_2 q = ct_1 q := hq3
  have hof_2 : ∀ q, q ≠ (ko + 2) → q ≠ (ko + 3) → q ≠ (ko + 4) → q ≠ (ko + 5) → ct_2 q = ct q := fun q h0_2 h1_2 h2_2 h3_2 => (ho_2 q h2_2 h3_2).trans (hof_1 q h0_2 h1_2 h2_2 h3_2)
  have hm0_2 : ct_2 (ko + 2) = some (rl ty 8 fu) := (ho_2 (ko + 2) (by omega) (by omega)).trans hm0_1
  have hm1_2 : ct_2 (ko + 3) = some (rl ty 8 li) := (ho_2 (ko + 3) (by omega) (by omega)).trans hm1_1
  have hm2_2 : ct_2 (ko + 4) = some (rl ty 8 (gaf n M g v9)) := hq1
  have hm3_2 : ct_2 (ko + 5) = some (rl ty 8 v9) := hq2
  refine lv_pop2_2 hx hb dX2_against_24 rfl ?_
  refine lv_aload_n hx hb dX2_against_25 rfl (lv_at hl 0 rfl) ?_
  refine lv_aload_n hx hb dX2_against_26 rfl (lv_at hl 1 rfl) ?_
  have hKi2 : KindsAt ty ad ct_2 ko fu li (gaf n M g v9) v9 T := ⟨((hof_2 ko (by omega) (by omega) (by omega) (by omega)).trans hKi.1), ((hof_2 (ko + 1) (by omega) (by omega) (by omega) (by omega)).trans hKi.2.1), hm0_2, hm1_2, hm2_2, hm3_2, ((hof_2 (ko + 6) (by omega) (by omega) (by omega) (by omega)).trans hKi.2.2.2.2.2.2.1), fun i hi => (hof_2 (ko + 6 + 1 + i) (by omega) (by omega) (by omega) (by omega)).trans (hKi.2.2.2.2.2.2.2 i hi)⟩
  refine rm_callv (va_runV (As := [.ref (ad yr)]) (rest := []) ⟨hx, hb, hml, hown, hts⟩ (c_X2_makeLift l D ty ad ct_2 H.size yr n M d u ko fu li (gaf n M g v9) v9 T hy (hY.kept (fun q h1 h2 => hof_2 q (by omega) (by omega) (by omega) (by omega))) hdd hd0 hKi2 hko) (cwV 1 hts gX2_against_X2_makeLift rfl rfl rfl (by decide +kernel) ⟨Nat.le_of_ble_eq_true rfl, Nat.le_of_ble_eq_true rfl⟩) (rm_preV hK hNw hW ((hof_2 ko (by omega) (by omega) (by omega) (by omega)).trans hKi.1) rfl) rfl rfl hl.1 rfl (lv_room (Nat.le_of_ble_eq_true rfl)) dX2_against_27 ⟨Nat.zero_le _, Nat.zero_le _⟩) hW hS hA (fun ct_3 H locs hq_3 hW hS hz_3 => ?_)
  obtain ⟨fu1, li1, fa1, hq1, hq2, hq3, hq4, hq5⟩ := hq_3
  have ho_3 : ∀ q, q ≠ (ko + 2) → q ≠ (ko + 3) → q ≠ (ko + 5) → ct_3 q = ct_2 q := hq5
  have hof_3 : ∀ q, q ≠ (ko + 2) → q ≠ (ko + 3) → q ≠ (ko + 4) → q ≠ (ko + 5) → ct_3 q = ct q := fun q h0_3 h1_3 h2_3 h3_3 => (ho_3 q h0_3 h1_3 h3_3).trans (hof_2 q h0_3 h1_3 h2_3 h3_3)
  have hm0_3 : ct_3 (ko + 2) = some (rl ty 8 fu1) := hq1
  have hm1_3 : ct_3 (ko + 3) = some (rl ty 8 li1) := hq2
  have hm2_3 : ct_3 (ko + 4) = some (rl ty 8 (gaf n M g v9)) := (ho_3 (ko + 4) (by omega) (by omega) (by omega)).trans hm2_2
  have hm3_3 : ct_3 (ko + 5) = some (rl ty 8 fa1) := hq3
  refine lv_iconst (v := jI 1) hx hb dX2_against_30 rfl ?_
  refine lv_istore_n (lv' := [(3, .int (jI 1)), (0, .ref (ad ko)), (1, .ref (ad yr)), (2, .ref (ad gr))]) hx hb dX2_against_31 rfl hl (by decide) rfl (fun ls hl => ?_)
  have hf1 : ct_3 (ko + 4) = some (rl ty 8 (fun q => if 1 ≤ q ∧ q < 1 then opp n M g q else gaf n M g v9 q)) := hm2_3.trans (congrArg (fun f => some (rl ty 8 f)) (funext fun q => (if_neg (by omega)).symm))
  have LP : ∀ (k : Nat) (i : Nat) (hi : i ≤ n) (hi1 : 1 ≤ i), n - i < k → ∀ (ctv : rm_C) (H : Heap) (locs : List Loc), (ctv (ko + 2) = some (rl ty 8 fu1)) → ∀ (_ : True), (ctv (ko + 3) = some (rl ty 8 li1)) → ∀ (_ : True), (ctv (ko + 4) = some (rl ty 8 (fun q => if 1 ≤ q ∧ q < i then opp n M g q else gaf n M g v9 q))) → ∀ (_ : True), (ctv (ko + 5) = some (rl ty 8 fa1)) → ∀ (_ : True), (∀ q, q ≠ (ko + 2) → q ≠ (ko + 3) → q ≠ (ko + 4) → q ≠ (ko + 5) → ctv q = ct q) → ∀ (_ : True), rm_W D ad ctv (rm_A ad ct s.heap.size) H → va_S (rm_A ad ct s.heap.size) s.heap H locs → ∀ ls : Array Slot, lv_has ls 4 [(3, .int (jI ((i : Nat) : Int))), (0, .ref (ad ko)), (1, .ref (ad yr)), (2, .ref (ad gr))] → W p l e (headSpec wsX2_against ({ frames := 3, cells := 0, slots := 0, locals := 79 })).room s m args below meth c H locs 0 0 (MQ below (rm_Qr D ad ct s.heap.size (fun z ct1 => z = ko + 4 ∧ ∃ fu1 li1 so1 fa1, ct1 (ko + 2) = some (rl ty 8 fu1) ∧ ct1 (ko + 3) = some (rl ty 8 li1) ∧ ct1 (ko + 4) = some (rl ty 8 so1) ∧ ct1 (ko + 5) = some (rl ty 8 fa1) ∧ (∀ q, 1 ≤ q → q < n → so1 q = opp n M g q) ∧ ∀ q, q ≠ ko + 2 → q ≠ ko + 3 → q ≠ ko + 4 → q ≠ ko + 5 → ct1 q = ct q)) args s 0 0 (rm_A ad ct s.heap.size)) (F0 m 32 ls []) := by
    intro k
    induction k with
    | zero => intro i hi hi1 hk; exact absurd hk (Nat.not_lt_zero _)
    | succ k ih_LP =>
      intro i hi hi1 hk ctv_4 H locs hv0_4 _ hv1_4 _ hv2_4 _ hv3_4 _ hofv_4 _ hW hS ls hl
      refine lv_iload_n hx hb dX2_against_32 rfl (lv_at hl 0 rfl) ?_
      refine lv_aload_n hx hb dX2_against_33 rfl (lv_at hl 2 rfl) ?_
      refine rm_get (ci := 4) (v := .int (jI ((n : Nat) : Int))) (C := RX4) (T := TX4) (N := 4) hx hb hts (by decide +kernel) hown hK hW ((hofv_4 yr (by omega) (by omega) (by omega) (by omega)).trans hY.1) rfl 0 (by decide) (hts (.fieldLink RX2 32 "GrainYard$Yard" "places" "I") (by decide +kernel)) (fun _ h9 => h9) rfl dX2_against_34 ?_
      refine rm_icmp_ge (tgt := 65) hx hb ⟨by omega, by omega⟩ ⟨by omega, by omega⟩ dX2_against_37 (by decide) (fun hc_5 => ?_) (fun hc_5 => ?_)
      · skip
        have hi : n = i := by omega
        subst hi
        refine lv_aload_n hx hb dX2_against_65 rfl (lv_at hl 1 rfl) ?_
        refine rm_get (ci := 2) (v := .ref (ad (ko + 4))) (C := RX2) (T := TX2) (N := 6) hx hb hts (by decide +kernel) hown hK hW ((hofv_4 ko (by omega) (by omega) (by omega) (by omega)).trans hKi.1) rfl 3 (by decide) (hts (.fieldLink RX2 21 "GrainYard$Kinds" "source" "[J") (by decide +kernel)) (fun _ h9 => h9) rfl dX2_against_66 ?_
        exact W.aret hx hb hr (by first | exact Or.inl ⟨_, rfl⟩ | exact Or.inr ⟨_, rfl⟩) (Or.inr ⟨_, rfl⟩) (fun t ht hw => ⟨⟨((ko + 4), ctv_4), _, rfl, ⟨rfl, _, _, _, _, hv0_4, hv1_4, hv2_4, hv3_4, fun q h1 h2 => if_pos ⟨h1, h2⟩, fun q h1 h2 h3 h4 => hofv_4 q h1 h2 h3 h4⟩, rfl, by show rm_W D ad _ _ t.heap; rw [ht]; exact hW⟩, hS.F ht⟩) hS.2.2 dX2_against_69
      · skip
        have hlj : li1 i - gaf n M g v9 i = opp n M g i := by unfold gaf opp; rw [if_pos (by omega), hq4 i (by omega) (by omega), stv_eq hv9]
        refine lv_aload_n hx hb dX2_against_40 rfl (lv_at hl 1 rfl) ?_
        refine rm_get (ci := 2) (v := .ref (ad (ko + 4))) (C := RX2) (T := TX2) (N := 6) hx hb hts (by decide +kernel) hown hK hW ((hofv_4 ko (by omega) (by omega) (by omega) (by omega)).trans hKi.1) rfl 3 (by decide) (hts (.fieldLink RX2 21 "GrainYard$Kinds" "source" "[J") (by decide +kernel)) (fun _ h9 => h9) rfl dX2_against_41 ?_
        refine lv_iload_n hx hb dX2_against_44 rfl (lv_at hl 0 rfl) ?_
        refine lv_aload_n hx hb dX2_against_45 rfl (lv_at hl 1 rfl) ?_
        refine rm_get (ci := 2) (v := .ref (ad (ko + 3))) (C := RX2) (T := TX2) (N := 6) hx hb hts (by decide +kernel) hown hK hW ((hofv_4 ko (by omega) (by omega) (by omega) (by omega)).trans hKi.1) rfl 2 (by decide) (hts (.fieldLink RX2 18 "GrainYard$Kinds" "lift" "[J") (by decide +kernel)) (fun _ h9 => h9) rfl dX2_against_46 ?_
        refine lv_iload_n hx hb dX2_against_49 rfl (lv_at hl 0 rfl) ?_
        refine rm_lald hx hb hK hW (f := li1) hv1_4 i rfl (by omega) (by omega) dX2_against_50 ?_
        refine lv_aload_n hx hb dX2_against_51 rfl (lv_at hl 1 rfl) ?_
        refine rm_get (ci := 2) (v := .ref (ad (ko + 4))) (C := RX2) (T := TX2) (N := 6) hx hb hts (by decide +kernel) hown hK hW ((hofv_4 ko (by omega) (by omega) (by omega) (by omega)).trans hKi.1) rfl 3 (by decide) (hts (.fieldLink RX2 21 "GrainYard$Kinds" "source" "[J") (by decide +kernel)) (fun _ h9 => h9) rfl dX2_against_52 ?_
        refine lv_iload_n hx hb dX2_against_55 rfl (lv_at hl 0 rfl) ?_
        refine rm_lald hx hb hK hW (f := (fun q => if 1 ≤ q ∧ q < i then opp n M g q else gaf n M g v9 q)) hv2_4 i rfl (by omega) (by omega) dX2_against_56 ?_
        refine rm_lsub hx hb dX2_against_57 ?_
        refine rm_last hx hb hK hW hS (f := (fun q => if 1 ≤ q ∧ q < i then opp n M g q else gaf n M g v9 q)) hv2_4 i rfl (by omega) (by omega) dX2_against_58 (fun H locs ct_6 hs_6 ho_6 hW hS hz_6 => ?_)
        have hof_6 : ∀ q, q ≠ (ko + 2) → q ≠ (ko + 3) → q ≠ (ko + 4) → q ≠ (ko + 5) → ct_6 q = ct q := fun q h0_6 h1_6 h2_6 h3_6 => (ho_6 q h2_6).trans (hofv_4 q h0_6 h1_6 h2_6 h3_6)
        have hm0_6 : ct_6 (ko + 2) = some (rl ty 8 fu1) := (ho_6 (ko + 2) (by omega)).trans hv0_4
        have hm1_6 : ct_6 (ko + 3) = some (rl ty 8 li1) := (ho_6 (ko + 3) (by omega)).trans hv1_4
        have hm3_6 : ct_6 (ko + 5) = some (rl ty 8 fa1) := (ho_6 (ko + 5) (by omega)).trans hv3_4
        have hk_7 : ct_6 (ko + 4) = some (rl ty 8 (fun q => if 1 ≤ q ∧ q < i + 1 then opp n M g q else gaf n M g v9 q)) := hs_6.trans (congrArg (fun f => some (rl ty 8 f)) (by funext q; unfold ub; by_cases e : q = i; (rw [if_pos e, e, if_neg (show ¬ (1 ≤ i ∧ i < i) by omega), if_pos (show 1 ≤ i ∧ i < i + 1 by omega), hlj]); (rw [if_neg e]; dsimp only; by_cases e2 : 1 ≤ q ∧ q < i; (rw [if_pos e2, if_pos ⟨by omega, by omega⟩]); (rw [if_neg e2, if_neg (by omega)]))))
        refine lv_iinc (v := jI (((i : Nat) : Int) + 1)) (lv' := [(3, .int (jI (((i : Nat) : Int) + 1))), (0, .ref (ad ko)), (1, .ref (ad yr)), (2, .ref (ad gr))]) hx hb dX2_against_59 hl (k := 0) rfl (jI_add _ _) (by decide) rfl (fun ls hl => ?_)
        refine lv_goto (tgt := 32) hx hb dX2_against_62 (by decide) ?_
        exact ih_LP (i + 1) (by omega) (by omega) (by omega) ct_6 _ _ hm0_6 trivial hm1_6 trivial hk_7 trivial hm3_6 trivial hof_6 trivial hW hS ls (lv_sub hl [0, 1, 2, 3] rfl)
  exact LP (n + 1) (1) (by omega) (by omega) (by omega) ct_3 _ _ hm0_3 trivial hm1_3 trivial hf1 trivial hm3_3 trivial hof_3 trivial hW hS ls (lv_sub hl [0, 1, 2, 3] rfl)
set_option maxHeartbeats 4000000 in
set_option maxRecDepth 100000 in
theorem c_X2_comingAgain (l : Launch) (D : va_G) (ty : Nat → ClassId) (ad : Nat → Nat) (ct : rm_C) (sz : Nat) (yr n : Nat) (M : Nat → Nat → Int) (d : Nat → Int) (u : Int) (ko : Nat) (fu li so fa : Nat → Int) (T : Nat → Nat → Int) (gr : Nat) (g : Nat → Int) (hg : ct gr = some (rl ty 8 g)) (hgr : gr ≠ ko + 2 ∧ gr ≠ ko + 3 ∧ gr ≠ ko + 5 ∧ gr ≠ ko ∧ (gr < yr ∨ yr + 10 < gr)) (hg0 : ∀ q, 1 ≤ q → q < n → 0 ≤ g q) (hgB : psum n g ≤ 900000000) (hy : yst n M) (hY : YardAt ty ad ct yr n M d u) (hdd : ∀ i, i < 8 → d i = dg n M i) (hd0 : ∀ i, i < 8 → 0 ≤ d i ∧ d i ≤ 21) (hKi : KindsAt ty ad ct ko fu li so fa T) (hko : ko + 14 < yr ∨ yr + 10 < ko) : Met l yX2_comingAgain wsX2_comingAgain ({ frames := 3, cells := 0, slots := 0, locals := 76 }) (rm_P D ty ad ct sz [.ref (ad ko), .ref (ad yr), .ref (ad gr)]) (rm_Qr D ad ct sz (fun z ct1 => z = ko + 3 ∧ ∃ fu1 li1 fa1, ct1 (ko + 2) = some (rl ty 8 fu1) ∧ ct1 (ko + 3) = some (rl ty 8 li1) ∧ ct1 (ko + 5) = some (rl ty 8 fa1) ∧ (∀ q, 1 ≤ q → q < n → li1 q = cag n M g q) ∧ ∀ q, q ≠ ko + 2 → q ≠ ko + 3 → q ≠ ko + 5 → ct1 q = ct q)) 0 0 (rm_A ad ct sz) := by
  refine Met.ofW (cc := cX2_comingAgain) (maxL := 4) (ret := (some (.array .long))) (by decide) rfl ?_
  intro p e s m args below meth c s₁ B hml hv
  obtain ⟨hargs, hsz, hW, hK, hNw⟩ := hv
  have hx := B.exec
  have hb := B.bytes
  have hr := B.returns
  have hts := atoms_spec (ws := wsX2_comingAgain) B.pre
  have hown : s.vm.findClass RX2 = some m.cls := findClass_of_methodNamed B.named
  have hlocks := B.notSynchronized
  subst hsz
  have hW := hW.own (sz := s.heap.size)
  have hA : ∀ q : Nat, s.heap.size ≤ q → rm_A ad ct s.heap.size q := fun q h => Or.inr h
  have hS : va_S (rm_A ad ct s.heap.size) s.heap s.heap [] := va_S.rf
  have hent : entryFrame m args 4 = entryFrame m ([.ref (ad ko), .ref (ad yr), .ref (ad gr)] : List Value).toArray 4 := by rw [hargs]
  have hl := lv_entry ([.ref (ad ko), .ref (ad yr), .ref (ad gr)]) (n := 4) (Nat.le_of_ble_eq_true rfl)
  rw [hent, lg_entry_eq]
  generalize (lg_sl ([.ref (ad ko), .ref (ad yr), .ref (ad gr)]) ++ List.replicate (4 - (lg_sl ([.ref (ad ko), .ref (ad yr), .ref (ad gr)])).length) Slot.unset).toArray = ls at hl ⊢
  have hl : lv_has ls 4 [(0, .ref (ad ko)), (1, .ref (ad yr)), (2, .ref (ad gr))] := hl
  have hn8 := hy.1.2.1
  have hn2 := hy.1.1
  refine lv_aload_n hx hb dX2_comingAgain_0 rfl (lv_at hl 0 rfl) ?_
  refine lv_aload_n hx hb dX2_comingAgain_1 rfl (lv_at hl 1 rfl) ?_
  refine rm_callv (va_runV (As := [.ref (ad yr)]) (rest := []) ⟨hx, hb, hml, hown, hts⟩ (c_X2_makeLift l D ty ad ct s.heap.size yr n M d u ko fu li so fa T hy hY hdd hd0 hKi hko) (cwV 1 hts gX2_comingAgain_X2_makeLift rfl rfl rfl (by decide +kernel) ⟨Nat.le_of_ble_eq_true rfl, Nat.le_of_ble_eq_true rfl⟩) (rm_preV hK hNw hW hKi.1 rfl) rfl rfl hl.1 rfl (lv_room (Nat.le_of_ble_eq_true rfl)) dX2_comingAgain_2 ⟨Nat.zero_le _, Nat.zero_le _⟩) hW hS hA (fun ct_1 H locs hq_1 hW hS hz_1 => ?_)
  obtain ⟨fu1, li1, fa1, hq1, hq2, hq3, hq4, hq5⟩ := hq_1
  have ho_1 : ∀ q, q ≠ (ko + 2) → q ≠ (ko + 3) → q ≠ (ko + 5) → ct_1 q = ct q := hq5
  have hof_1 : ∀ q, q ≠ (ko + 2) → q ≠ (ko + 3) → q ≠ (ko + 5) → ct_1 q = ct q := fun q h0_1 h1_1 h2_1 => (ho_1 q h0_1 h1_1 h2_1).trans rfl
  have hm0_1 : ct_1 (ko + 2) = some (rl ty 8 fu1) := hq1
  have hm1_1 : ct_1 (ko + 3) = some (rl ty 8 li1) := hq2
  have hm2_1 : ct_1 (ko + 5) = some (rl ty 8 fa1) := hq3
  refine lv_iconst (v := jI 1) hx hb dX2_comingAgain_5 rfl ?_
  refine lv_istore_n (lv' := [(3, .int (jI 1)), (0, .ref (ad ko)), (1, .ref (ad yr)), (2, .ref (ad gr))]) hx hb dX2_comingAgain_6 rfl hl (by decide) rfl (fun ls hl => ?_)
  have hf1 : ct_1 (ko + 3) = some (rl ty 8 (fun q => if 1 ≤ q ∧ q < 1 then lft n M q + g q else li1 q)) := hm1_1.trans (congrArg (fun f => some (rl ty 8 f)) (funext fun q => (if_neg (by omega)).symm))
  have LP : ∀ (k : Nat) (i : Nat) (hi : i ≤ n) (hi1 : 1 ≤ i), n - i < k → ∀ (ctv : rm_C) (H : Heap) (locs : List Loc), (ctv (ko + 2) = some (rl ty 8 fu1)) → ∀ (_ : True), (ctv (ko + 3) = some (rl ty 8 (fun q => if 1 ≤ q ∧ q < i then lft n M q + g q else li1 q))) → ∀ (_ : True), (ctv (ko + 5) = some (rl ty 8 fa1)) → ∀ (_ : True), (∀ q, q ≠ (ko + 2) → q ≠ (ko + 3) → q ≠ (ko + 5) → ctv q = ct q) → ∀ (_ : True), rm_W D ad ctv (rm_A ad ct s.heap.size) H → va_S (rm_A ad ct s.heap.size) s.heap H locs → ∀ ls : Array Slot, lv_has ls 4 [(3, .int (jI ((i : Nat) : Int))), (0, .ref (ad ko)), (1, .ref (ad yr)), (2, .ref (ad gr))] → W p l e (headSpec wsX2_comingAgain ({ frames := 3, cells := 0, slots := 0, locals := 76 })).room s m args below meth c H locs 0 0 (MQ below (rm_Qr D ad ct s.heap.size (fun z ct1 => z = ko + 3 ∧ ∃ fu1 li1 fa1, ct1 (ko + 2) = some (rl ty 8 fu1) ∧ ct1 (ko + 3) = some (rl ty 8 li1) ∧ ct1 (ko + 5) = some (rl ty 8 fa1) ∧ (∀ q, 1 ≤ q → q < n → li1 q = cag n M g q) ∧ ∀ q, q ≠ ko + 2 → q ≠ ko + 3 → q ≠ ko + 5 → ct1 q = ct q)) args s 0 0 (rm_A ad ct s.heap.size)) (F0 m 7 ls []) := by
    intro k
    induction k with
    | zero => intro i hi hi1 hk; exact absurd hk (Nat.not_lt_zero _)
    | succ k ih_LP =>
      intro i hi hi1 hk ctv_2 H locs hv0_2 _ hv1_2 _ hv2_2 _ hofv_2 _ hW hS ls hl
      refine lv_iload_n hx hb dX2_comingAgain_7 rfl (lv_at hl 0 rfl) ?_
      refine lv_aload_n hx hb dX2_comingAgain_8 rfl (lv_at hl 2 rfl) ?_
      refine rm_get (ci := 4) (v := .int (jI ((n : Nat) : Int))) (C := RX4) (T := TX4) (N := 4) hx hb hts (by decide +kernel) hown hK hW ((hofv_2 yr (by omega) (by omega) (by omega)).trans hY.1) rfl 0 (by decide) (hts (.fieldLink RX2 32 "GrainYard$Yard" "places" "I") (by decide +kernel)) (fun _ h9 => h9) rfl dX2_comingAgain_9 ?_
      refine rm_icmp_ge (tgt := 33) hx hb ⟨by omega, by omega⟩ ⟨by omega, by omega⟩ dX2_comingAgain_12 (by decide) (fun hc_3 => ?_) (fun hc_3 => ?_)
      · skip
        have hi : n = i := by omega
        subst hi
        refine lv_aload_n hx hb dX2_comingAgain_33 rfl (lv_at hl 2 rfl) ?_
        refine lv_aload_n hx hb dX2_comingAgain_34 rfl (lv_at hl 1 rfl) ?_
        refine rm_get (ci := 2) (v := .ref (ad (ko + 3))) (C := RX2) (T := TX2) (N := 6) hx hb hts (by decide +kernel) hown hK hW ((hofv_2 ko (by omega) (by omega) (by omega)).trans hKi.1) rfl 2 (by decide) (hts (.fieldLink RX2 18 "GrainYard$Kinds" "lift" "[J") (by decide +kernel)) (fun _ h9 => h9) rfl dX2_comingAgain_35 ?_
        refine lv_aload_n hx hb dX2_comingAgain_38 rfl (lv_at hl 1 rfl) ?_
        refine rm_get (ci := 2) (v := .ref (ad (ko + 5))) (C := RX2) (T := TX2) (N := 6) hx hb hts (by decide +kernel) hown hK hW ((hofv_2 ko (by omega) (by omega) (by omega)).trans hKi.1) rfl 4 (by decide) (hts (.fieldLink RX2 24 "GrainYard$Kinds" "falls" "[J") (by decide +kernel)) (fun _ h9 => h9) rfl dX2_comingAgain_39 ?_
        have hgq : ∀ q, 1 ≤ q → q < n → (fun q => if 1 ≤ q ∧ q < n then lft n M q + g q else li1 q) q = lft n M q + g q := fun q h1 h2 => if_pos ⟨h1, h2⟩
        have hgn : ∀ q, 1 ≤ q → q < n → 0 ≤ (fun q => if 1 ≤ q ∧ q < n then lft n M q + g q else li1 q) q := fun q h1 h2 => by rw [hgq q h1 h2]; have a1 := lft_rng hy h1 h2; have a2 := hy.2.1 q h1 h2; have a3 := hg0 q h1 h2; omega
        have hgs : psum n (fun q => if 1 ≤ q ∧ q < n then lft n M q + g q else li1 q) ≤ 1000000000 := by rw [psum_cong hgq, psum_add]; have := lft_sum hy; omega
        refine rm_calll (va_runV (As := [.ref (ad (ko + 3)), .ref (ad (ko + 5))]) (rest := []) ⟨hx, hb, hml, hown, hts⟩ (c_X4_calm l D ty ad ctv_2 H.size yr n M d u (ko + 3) (ko + 5) (fun q => if 1 ≤ q ∧ q < n then lft n M q + g q else li1 q) fa1 hy.1 (hY.kept (fun q h1 h2 => hofv_2 q (by omega) (by omega) (by omega))) hdd hy.2.1 hd0 (by omega) (by omega) (by omega) hv1_2 hv2_2 hgn (by omega) (hy.2.2 _ hgn hgs)) (cwV 2 hts gX2_comingAgain_X4_calm rfl rfl rfl (by decide +kernel) ⟨Nat.le_of_ble_eq_true rfl, Nat.le_of_ble_eq_true rfl⟩) (rm_preV hK hNw hW ((hofv_2 yr (by omega) (by omega) (by omega)).trans hY.1) rfl) rfl rfl hl.1 rfl (lv_room (Nat.le_of_ble_eq_true rfl)) dX2_comingAgain_42 ⟨Nat.zero_le _, Nat.zero_le _⟩) hW hS hA (fun z_4 ct_4 H locs hq_4 hW hS => ?_)
        obtain ⟨v9, hv9, -, hq1, hq2, hq3⟩ := hq_4
        have ho_4 : ∀ q, q ≠ (ko + 3) → q ≠ (ko + 5) → ct_4 q = ctv_2 q := hq3
        have hof_4 : ∀ q, q ≠ (ko + 2) → q ≠ (ko + 3) → q ≠ (ko + 5) → ct_4 q = ct q := fun q h0_4 h1_4 h2_4 => (ho_4 q h1_4 h2_4).trans (hofv_2 q h0_4 h1_4 h2_4)
        have hm0_4 : ct_4 (ko + 2) = some (rl ty 8 fu1) := (ho_4 (ko + 2) (by omega) (by omega)).trans hv0_2
        have hm1_4 : ct_4 (ko + 3) = some (rl ty 8 (gaf n M (fun q => if 1 ≤ q ∧ q < n then lft n M q + g q else li1 q) v9)) := hq1
        have hm2_4 : ct_4 (ko + 5) = some (rl ty 8 v9) := hq2
        refine lv_pop2_2 hx hb dX2_comingAgain_45 rfl ?_
        refine lv_aload_n hx hb dX2_comingAgain_46 rfl (lv_at hl 1 rfl) ?_
        refine rm_get (ci := 2) (v := .ref (ad (ko + 3))) (C := RX2) (T := TX2) (N := 6) hx hb hts (by decide +kernel) hown hK hW ((hof_4 ko (by omega) (by omega) (by omega)).trans hKi.1) rfl 2 (by decide) (hts (.fieldLink RX2 18 "GrainYard$Kinds" "lift" "[J") (by decide +kernel)) (fun _ h9 => h9) rfl dX2_comingAgain_47 ?_
        exact W.aret hx hb hr (by first | exact Or.inl ⟨_, rfl⟩ | exact Or.inr ⟨_, rfl⟩) (Or.inr ⟨_, rfl⟩) (fun t ht hw => ⟨⟨((ko + 3), ct_4), _, rfl, ⟨rfl, _, _, _, hm0_4, hm1_4, hm2_4, fun q h1 h2 => by unfold gaf cag; rw [if_pos h2, stv_cong hgq hv9]; unfold af; rw [hgq q h1 h2], fun q h1 h2 h3 => hof_4 q h1 h2 h3⟩, rfl, by show rm_W D ad _ _ t.heap; rw [ht]; exact hW⟩, hS.F ht⟩) hS.2.2 dX2_comingAgain_50
      · skip
        have hlj := hq4 i (by omega) (by omega)
        refine lv_aload_n hx hb dX2_comingAgain_15 rfl (lv_at hl 1 rfl) ?_
        refine rm_get (ci := 2) (v := .ref (ad (ko + 3))) (C := RX2) (T := TX2) (N := 6) hx hb hts (by decide +kernel) hown hK hW ((hofv_2 ko (by omega) (by omega) (by omega)).trans hKi.1) rfl 2 (by decide) (hts (.fieldLink RX2 18 "GrainYard$Kinds" "lift" "[J") (by decide +kernel)) (fun _ h9 => h9) rfl dX2_comingAgain_16 ?_
        refine lv_iload_n hx hb dX2_comingAgain_19 rfl (lv_at hl 0 rfl) ?_
        refine lv_dup2_11 hx hb dX2_comingAgain_20 rfl rfl ?_
        refine rm_lald hx hb hK hW (f := (fun q => if 1 ≤ q ∧ q < i then lft n M q + g q else li1 q)) hv1_2 i rfl (by omega) (by omega) dX2_comingAgain_21 ?_
        refine lv_aload_n hx hb dX2_comingAgain_22 rfl (lv_at hl 3 rfl) ?_
        refine lv_iload_n hx hb dX2_comingAgain_23 rfl (lv_at hl 0 rfl) ?_
        refine rm_lald hx hb hK hW (f := g) ((hofv_2 gr (by omega) (by omega) (by omega)).trans hg) i rfl (by omega) (by omega) dX2_comingAgain_24 ?_
        refine rm_ladd hx hb dX2_comingAgain_25 ?_
        refine rm_last hx hb hK hW hS (f := (fun q => if 1 ≤ q ∧ q < i then lft n M q + g q else li1 q)) hv1_2 i rfl (by omega) (by omega) dX2_comingAgain_26 (fun H locs ct_5 hs_5 ho_5 hW hS hz_5 => ?_)
        have hof_5 : ∀ q, q ≠ (ko + 2) → q ≠ (ko + 3) → q ≠ (ko + 5) → ct_5 q = ct q := fun q h0_5 h1_5 h2_5 => (ho_5 q h1_5).trans (hofv_2 q h0_5 h1_5 h2_5)
        have hm0_5 : ct_5 (ko + 2) = some (rl ty 8 fu1) := (ho_5 (ko + 2) (by omega)).trans hv0_2
        have hm2_5 : ct_5 (ko + 5) = some (rl ty 8 fa1) := (ho_5 (ko + 5) (by omega)).trans hv2_2
        have hk_6 : ct_5 (ko + 3) = some (rl ty 8 (fun q => if 1 ≤ q ∧ q < i + 1 then lft n M q + g q else li1 q)) := hs_5.trans (congrArg (fun f => some (rl ty 8 f)) (by funext q; unfold ub; by_cases e : q = i; (rw [if_pos e, e, if_neg (show ¬ (1 ≤ i ∧ i < i) by omega), if_pos (show 1 ≤ i ∧ i < i + 1 by omega), hlj]); (rw [if_neg e]; dsimp only; by_cases e2 : 1 ≤ q ∧ q < i; (rw [if_pos e2, if_pos ⟨by omega, by omega⟩]); (rw [if_neg e2, if_neg (by omega)]))))
        refine lv_iinc (v := jI (((i : Nat) : Int) + 1)) (lv' := [(3, .int (jI (((i : Nat) : Int) + 1))), (0, .ref (ad ko)), (1, .ref (ad yr)), (2, .ref (ad gr))]) hx hb dX2_comingAgain_27 hl (k := 0) rfl (jI_add _ _) (by decide) rfl (fun ls hl => ?_)
        refine lv_goto (tgt := 7) hx hb dX2_comingAgain_30 (by decide) ?_
        exact ih_LP (i + 1) (by omega) (by omega) (by omega) ct_5 _ _ hm0_5 trivial hk_6 trivial hm2_5 trivial hof_5 trivial hW hS ls (lv_sub hl [0, 1, 2, 3] rfl)
  exact LP (n + 1) (1) (by omega) (by omega) (by omega) ct_1 _ _ hm0_1 trivial hf1 trivial hm2_1 trivial hof_1 trivial hW hS ls (lv_sub hl [0, 1, 2, 3] rfl)
