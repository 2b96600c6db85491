set_option maxHeartbeats 4000000 in
set_option maxRecDepth 100000 in
theorem c_X0_burnsAll (l : Launch) (D : va_G) (ty : Nat → ClassId) (ad : Nat → Nat) (ct : rm_C) (sz : Nat) (yr n : Nat) (M : Nat → Nat → Int) (d : Nat → Int) (u : Int) (fo fr : Nat) (rd : Nat → Int) (gr : Nat) (g : Nat → Int) (hg : ct gr = some (rl ty 8 g)) (hgf : gr ≠ fr) (hg0 : ∀ q, 1 ≤ q → q < n → 0 ≤ g q ∧ g q ≤ 1000000000000) (hn2 : 2 ≤ n) (hn : n ≤ 8) (hY : YardAt ty ad ct yr n M d u) (hM : ∀ i j, 0 ≤ M i j ∧ M i j ≤ 3) (hd : ∀ i, i < 8 → 0 ≤ d i ∧ d i ≤ 21) (hF : FireAt ty ad ct fo fr rd) (hfr : fr < yr ∨ yr + 10 < fr) (hfo : fo ≠ fr) : Met l yX0_burnsAll wsX0_burnsAll ({ frames := 1, cells := 0, slots := 0, locals := 25 }) (rm_P D ty ad ct sz [.ref (ad fo), .ref (ad yr), .ref (ad gr)]) (rm_Qi D ad ct sz (fun z ct1 => ∃ rd1, ct1 fr = some (ri ty 8 rd1) ∧ (∀ q, q ≠ fr → ct1 q = ct q) ∧ ((z = 0 ∧ (∃ q, 1 ≤ q ∧ q < n ∧ d q ≤ g q) ∧ rd1 = fun _ => -1) ∨ ((∀ q, 1 ≤ q → q < n → g q < d q) ∧ rd1 = bit n M d g (n - 1) ∧ ((z = 1 ∧ ∀ q, q < n → rd1 q ≠ -1) ∨ (z = 0 ∧ ∃ q, q < n ∧ rd1 q = -1)))))) 0 0 (rm_A ad ct sz) := by
  refine Met.ofW (cc := cX0_burnsAll) (maxL := 5) (ret := (some .boolean)) (by decide) rfl ?_
  intro p e s m args below meth c s₁ B hml hv
  obtain ⟨hargs, hsz, hW, hK, hNw⟩ := hv
  have hx := B.exec
  have hb := B.bytes
  have hr := B.returns
  have hts := atoms_spec (ws := wsX0_burnsAll) B.pre
  have hown : s.vm.findClass RX0 = some m.cls := findClass_of_methodNamed B.named
  have hlocks := B.notSynchronized
  subst hsz
  have hW := hW.own (sz := s.heap.size)
  have hA : ∀ q : Nat, s.heap.size ≤ q → rm_A ad ct s.heap.size q := fun q h => Or.inr h
  have hS : va_S (rm_A ad ct s.heap.size) s.heap s.heap [] := va_S.rf
  have hent : entryFrame m args 5 = entryFrame m ([.ref (ad fo), .ref (ad yr), .ref (ad gr)] : List Value).toArray 5 := by rw [hargs]
  have hl := lv_entry ([.ref (ad fo), .ref (ad yr), .ref (ad gr)]) (n := 5) (Nat.le_of_ble_eq_true rfl)
  rw [hent, lg_entry_eq]
  generalize (lg_sl ([.ref (ad fo), .ref (ad yr), .ref (ad gr)]) ++ List.replicate (5 - (lg_sl ([.ref (ad fo), .ref (ad yr), .ref (ad gr)])).length) Slot.unset).toArray = ls at hl ⊢
  have hl : lv_has ls 5 [(0, .ref (ad fo)), (1, .ref (ad yr)), (2, .ref (ad gr))] := hl
  refine lv_aload_n hx hb dX0_burnsAll_0 rfl (lv_at hl 0 rfl) ?_
  refine rm_get (ci := 0) (v := .ref (ad fr)) (C := RX0) (T := TX0) (N := 1) hx hb hts (by decide +kernel) hown hK hW hF.1 rfl 0 (by decide) (hts (.fieldLink RX0 9 "GrainYard$Fire" "rounds" "[I") (by decide +kernel)) (fun _ h9 => h9) rfl dX0_burnsAll_1 ?_
  refine lv_iconst (v := jI (-1)) hx hb dX0_burnsAll_4 rfl ?_
  refine rm_callv (va_runS (As := [.ref (ad fr), .int (jI (-1))]) (rest := []) ⟨hx, hb, hml, hown, hts⟩ (c_fill_i l D ty ad ct s.heap.size fr 8 rd (-1) (by decide) hF.2) (va_cwS 2 hts gX0_burnsAll_J7_fill_53178 rfl rfl rfl (by decide +kernel) ⟨Nat.le_of_ble_eq_true rfl, Nat.le_of_ble_eq_true rfl⟩) (rm_preS hK hNw hW) rfl rfl hl.1 rfl (lv_room (Nat.le_of_ble_eq_true rfl)) dX0_burnsAll_5 ⟨Nat.zero_le _, Nat.zero_le _⟩) hW hS hA (fun ct_1 H locs hq_1 hW hS hz_1 => ?_)
  have ho_1 : ∀ q, q ≠ fr → ct_1 q = ct q := hq_1.2
  have hof_1 : ∀ q, q ≠ fr → ct_1 q = ct q := fun q h0_1 => (ho_1 q h0_1).trans rfl
  have hm0_1 : ct_1 fr = some (ri ty 8 (fun _ => (-1 : Int))) := hq_1.1
  refine lv_aload_n hx hb dX0_burnsAll_8 rfl (lv_at hl 1 rfl) ?_
  refine lv_aload_n hx hb dX0_burnsAll_9 rfl (lv_at hl 2 rfl) ?_
  refine rm_calli (va_runV (As := [.ref (ad gr)]) (rest := []) ⟨hx, hb, hml, hown, hts⟩ (c_X4_isCalm l D ty ad ct_1 H.size yr n M d u gr g hn (by omega) (hY.kept (fun q h1 h2 => hof_1 q (by omega))) hd ((hof_1 gr (by omega)).trans hg) (fun q h1 h2 => ⟨by have := hg0 q h1 h2; omega, by have := hg0 q h1 h2; omega⟩)) (cwV 1 hts gX0_burnsAll_X4_isCalm rfl rfl rfl (by decide +kernel) ⟨Nat.le_of_ble_eq_true rfl, Nat.le_of_ble_eq_true rfl⟩) (rm_preV hK hNw hW ((hof_1 yr (by omega)).trans hY.1) rfl) rfl rfl hl.1 rfl (lv_room (Nat.le_of_ble_eq_true rfl)) dX0_burnsAll_10 ⟨Nat.zero_le _, Nat.zero_le _⟩) hW hS hA (fun z_2 ct_2 H locs hq_2 hW hS => ?_)
  obtain ⟨hz, hcc_2⟩ := hq_2
  have hcc_2 := hcc_2.symm
  subst hcc_2
  have hzr : z_2 = 0 ∨ z_2 = 1 := by rcases hz with h | h; exact Or.inr h.1; exact Or.inl h.1
  refine rm_if_ne (tgt := 18) hx hb ⟨by omega, by omega⟩ dX0_burnsAll_13 (by decide) (fun hc_3 => ?_) (fun hc_3 => ?_)
  · skip
    have hst : ∀ q, 1 ≤ q → q < n → g q < d q := by rcases hz with h | h; exact h.2; exact absurd h.1 (by omega)
    refine lv_aload_n hx hb dX0_burnsAll_18 rfl (lv_at hl 0 rfl) ?_
    refine rm_get (ci := 0) (v := .ref (ad fr)) (C := RX0) (T := TX0) (N := 1) hx hb hts (by decide +kernel) hown hK hW ((hof_1 fo (by omega)).trans hF.1) rfl 0 (by decide) (hts (.fieldLink RX0 9 "GrainYard$Fire" "rounds" "[I") (by decide +kernel)) (fun _ h9 => h9) rfl dX0_burnsAll_19 ?_
    refine lv_iconst (v := jI 0) hx hb dX0_burnsAll_22 rfl ?_
    refine lv_iconst (v := jI 0) hx hb dX0_burnsAll_23 rfl ?_
    refine rm_iast hx hb hK hW hS (f := (fun _ => (-1 : Int))) hm0_1 0 rfl (by omega) (by omega) dX0_burnsAll_24 (fun H locs ct_4 hs_4 ho_4 hW hS hz_4 => ?_)
    have hof_4 : ∀ q, q ≠ fr → ct_4 q = ct q := fun q h0_4 => (ho_4 q h0_4).trans (hof_1 q h0_4)
    refine lv_iconst (v := jI 1) hx hb dX0_burnsAll_25 rfl ?_
    refine lv_istore_n (lv' := [(3, .int (jI 1)), (0, .ref (ad fo)), (1, .ref (ad yr)), (2, .ref (ad gr))]) hx hb dX0_burnsAll_26 rfl hl (by decide) rfl (fun ls hl => ?_)
    have hk_5 : ct_4 fr = some (ri ty 8 (bit n M d g 0)) := hs_4.trans (congrArg (fun f => some (ri ty 8 f)) (rfl))
    have OUT : ∀ (k : Nat) (s9 : Nat) (hs9 : s9 ≤ n - 1), n - s9 < k → ∀ (ctv : rm_C) (H : Heap) (locs : List Loc), (ctv fr = some (ri ty 8 (bit n M d g s9))) → ∀ (_ : True), (∀ q, q ≠ fr → ctv q = ct q) → ∀ (_ : True), rm_W D ad ctv (rm_A ad ct s.heap.size) H → va_S (rm_A ad ct s.heap.size) s.heap H locs → ∀ ls : Array Slot, lv_has ls 5 [(3, .int (jI (((s9 + 1) : Nat) : Int))), (0, .ref (ad fo)), (1, .ref (ad yr)), (2, .ref (ad gr))] → W p l e (headSpec wsX0_burnsAll ({ frames := 1, cells := 0, slots := 0, locals := 25 })).room s m args below meth c H locs 0 0 (MQ below (rm_Qi D ad ct s.heap.size (fun z ct1 => ∃ rd1, ct1 fr = some (ri ty 8 rd1) ∧ (∀ q, q ≠ fr → ct1 q = ct q) ∧ ((z = 0 ∧ (∃ q, 1 ≤ q ∧ q < n ∧ d q ≤ g q) ∧ rd1 = fun _ => -1) ∨ ((∀ q, 1 ≤ q → q < n → g q < d q) ∧ rd1 = bit n M d g (n - 1) ∧ ((z = 1 ∧ ∀ q, q < n → rd1 q ≠ -1) ∨ (z = 0 ∧ ∃ q, q < n ∧ rd1 q = -1)))))) args s 0 0 (rm_A ad ct s.heap.size)) (F0 m 27 ls []) := by
      intro k
      induction k with
      | zero => intro s9 hs9 hk; exact absurd hk (Nat.not_lt_zero _)
      | succ k ih_OUT =>
        intro s9 hs9 hk ctv_6 H locs hv0_6 _ hofv_6 _ hW hS ls hl
        have hbr := bit_rng (n := n) (M := M) (d := d) (g := g) s9 (by omega)
        refine lv_iload_n hx hb dX0_burnsAll_27 rfl (lv_at hl 0 rfl) ?_
        refine lv_aload_n hx hb dX0_burnsAll_28 rfl (lv_at hl 2 rfl) ?_
        refine rm_get (ci := 4) (v := .int (jI ((n : Nat) : Int))) (C := RX4) (T := TX4) (N := 4) hx hb hts (by decide +kernel) hown hK hW ((hofv_6 yr (by omega)).trans hY.1) rfl 0 (by decide) (hts (.fieldLink RX0 27 "GrainYard$Yard" "places" "I") (by decide +kernel)) (fun _ h9 => h9) rfl dX0_burnsAll_29 ?_
        refine rm_icmp_ge (tgt := 95) hx hb ⟨by omega, by omega⟩ ⟨by omega, by omega⟩ dX0_burnsAll_32 (by decide) (fun hc_7 => ?_) (fun hc_7 => ?_)
        · skip
          have hi : s9 = n - 1 := by omega
          rw [hi] at hbr
          have hfe : ctv_6 fr = some (ri ty 8 (bit n M d g (n - 1))) := by rw [← hi]; exact hv0_6
          refine lv_aload_n hx hb dX0_burnsAll_95 rfl (lv_at hl 1 rfl) ?_
          refine lv_aload_n hx hb dX0_burnsAll_96 rfl (lv_at hl 2 rfl) ?_
          refine rm_calli (va_runV (As := [.ref (ad yr)]) (rest := []) ⟨hx, hb, hml, hown, hts⟩ (c_X0_allHaveRounds l D ty ad ctv_6 H.size yr n M d u fo fr (bit n M d g (n - 1)) hn (hY.kept (fun q h1 h2 => hofv_6 q (by omega))) hM hd ⟨((hofv_6 fo (by omega)).trans hF.1), hfe⟩ hbr) (cwV 1 hts gX0_burnsAll_X0_allHaveRounds rfl rfl rfl (by decide +kernel) ⟨Nat.le_of_ble_eq_true rfl, Nat.le_of_ble_eq_true rfl⟩) (rm_preV hK hNw hW ((hofv_6 fo (by omega)).trans hF.1) rfl) rfl rfl hl.1 rfl (lv_room (Nat.le_of_ble_eq_true rfl)) dX0_burnsAll_97 ⟨Nat.zero_le _, Nat.zero_le _⟩) hW hS hA (fun z_8 ct_8 H locs hq_8 hW hS => ?_)
          obtain ⟨hz, hcc_8⟩ := hq_8
          have hcc_8 := hcc_8.symm
          subst hcc_8
          exact W.zret hx hb hr (by rcases hz with h | h <;> rw [h.1] <;> decide) (fun t ht hw => ⟨⟨_, (z_8, ctv_6), rfl, ⟨rfl, ⟨_, hfe, fun q hq => hofv_6 q hq, Or.inr ⟨hst, rfl, hz⟩⟩⟩, by show rm_W D ad _ _ t.heap; rw [ht]; exact hW⟩, hS.F ht⟩) hS.2.2 dX0_burnsAll_100
        · skip
          refine lv_iconst (v := jI 1) hx hb dX0_burnsAll_35 rfl ?_
          refine lv_istore (lv' := [(4, .int (jI 1)), (3, .int (jI (((s9 + 1) : Nat) : Int))), (0, .ref (ad fo)), (1, .ref (ad yr)), (2, .ref (ad gr))]) hx hb dX0_burnsAll_36 hl (by decide) rfl (fun ls hl => ?_)
          have INN : ∀ (k : Nat) (j9 : Nat) (hj9 : j9 ≤ n - 1), n - j9 < k → ∀ (ctv : rm_C) (H : Heap) (locs : List Loc), (ctv fr = some (ri ty 8 (brd n M d g ((s9 + 1 : Nat) : Int) j9 (bit n M d g s9)))) → ∀ (_ : True), (∀ q, q ≠ fr → ctv q = ct q) → ∀ (_ : True), rm_W D ad ctv (rm_A ad ct s.heap.size) H → va_S (rm_A ad ct s.heap.size) s.heap H locs → ∀ ls : Array Slot, lv_has ls 5 [(4, .int (jI (((j9 + 1) : Nat) : Int))), (3, .int (jI (((s9 + 1) : Nat) : Int))), (0, .ref (ad fo)), (1, .ref (ad yr)), (2, .ref (ad gr))] → W p l e (headSpec wsX0_burnsAll ({ frames := 1, cells := 0, slots := 0, locals := 25 })).room s m args below meth c H locs 0 0 (MQ below (rm_Qi D ad ct s.heap.size (fun z ct1 => ∃ rd1, ct1 fr = some (ri ty 8 rd1) ∧ (∀ q, q ≠ fr → ct1 q = ct q) ∧ ((z = 0 ∧ (∃ q, 1 ≤ q ∧ q < n ∧ d q ≤ g q) ∧ rd1 = fun _ => -1) ∨ ((∀ q, 1 ≤ q → q < n → g q < d q) ∧ rd1 = bit n M d g (n - 1) ∧ ((z = 1 ∧ ∀ q, q < n → rd1 q ≠ -1) ∨ (z = 0 ∧ ∃ q, q < n ∧ rd1 q = -1)))))) args s 0 0 (rm_A ad ct s.heap.size)) (F0 m 38 ls []) := by
            intro k
            induction k with
            | zero => intro j9 hj9 hk; exact absurd hk (Nat.not_lt_zero _)
            | succ k ih_INN =>
              intro j9 hj9 hk ctv_9 H locs hv0_9 _ hofv_9 _ hW hS ls hl
              have hbr2 := brd_rng (n := n) (M := M) (d := d) (g := g) (r := ((s9 + 1 : Nat) : Int)) ⟨by omega, by omega⟩ hbr j9
              refine lv_iload hx hb dX0_burnsAll_38 (lv_at hl 0 rfl) ?_
              refine lv_aload_n hx hb dX0_burnsAll_40 rfl (lv_at hl 3 rfl) ?_
              refine rm_get (ci := 4) (v := .int (jI ((n : Nat) : Int))) (C := RX4) (T := TX4) (N := 4) hx hb hts (by decide +kernel) hown hK hW ((hofv_9 yr (by omega)).trans hY.1) rfl 0 (by decide) (hts (.fieldLink RX0 27 "GrainYard$Yard" "places" "I") (by decide +kernel)) (fun _ h9 => h9) rfl dX0_burnsAll_41 ?_
              refine rm_icmp_ge (tgt := 89) hx hb ⟨by omega, by omega⟩ ⟨by omega, by omega⟩ dX0_burnsAll_44 (by decide) (fun hc_10 => ?_) (fun hc_10 => ?_)
              · skip
                have hj : j9 = n - 1 := by omega
                have hfe : ctv_9 fr = some (ri ty 8 (bit n M d g (s9 + 1))) := by rw [bit_s, ← hj]; exact hv0_9
                refine lv_iinc (v := jI ((((s9 + 1) : Nat) : Int) + 1)) (lv' := [(3, .int (jI ((((s9 + 1) : Nat) : Int) + 1))), (4, .int (jI (((j9 + 1) : Nat) : Int))), (0, .ref (ad fo)), (1, .ref (ad yr)), (2, .ref (ad gr))]) hx hb dX0_burnsAll_89 hl (k := 1) rfl (jI_add _ _) (by decide) rfl (fun ls hl => ?_)
                refine lv_goto (tgt := 27) hx hb dX0_burnsAll_92 (by decide) ?_
                exact ih_OUT (s9 + 1) (by omega) (by omega) ctv_9 _ _ hfe trivial hofv_9 trivial hW hS ls (lv_sub hl [0, 2, 3, 4] rfl)
              · skip
                have hbj := hbr2 (j9 + 1)
                have hgj := hg0 (j9 + 1) (by omega) (by omega)
                have hbs := brd_s n M d g ((s9 + 1 : Nat) : Int) j9 (bit n M d g s9)
                unfold bst at hbs
                have hlr := ltb_rng hM d (brd n M d g ((s9 + 1 : Nat) : Int) j9 (bit n M d g s9)) (j9 + 1) ((s9 + 1 : Nat) : Int) n
                have hdj := hd (j9 + 1) (by omega)
                refine lv_aload_n hx hb dX0_burnsAll_47 rfl (lv_at hl 2 rfl) ?_
                refine rm_get (ci := 0) (v := .ref (ad fr)) (C := RX0) (T := TX0) (N := 1) hx hb hts (by decide +kernel) hown hK hW ((hofv_9 fo (by omega)).trans hF.1) rfl 0 (by decide) (hts (.fieldLink RX0 9 "GrainYard$Fire" "rounds" "[I") (by decide +kernel)) (fun _ h9 => h9) rfl dX0_burnsAll_48 ?_
                refine lv_iload hx hb dX0_burnsAll_51 (lv_at hl 0 rfl) ?_
                refine rm_iald hx hb hK hW (f := (brd n M d g ((s9 + 1 : Nat) : Int) j9 (bit n M d g s9))) hv0_9 (j9 + 1) rfl (by omega) (by omega) dX0_burnsAll_53 ?_
                refine lv_iconst (v := jI (-1)) hx hb dX0_burnsAll_54 rfl ?_
                refine rm_icmp_ne (tgt := 83) hx hb ⟨by omega, by omega⟩ ⟨by omega, by omega⟩ dX0_burnsAll_55 (by decide) (fun hc_11 => ?_) (fun hc_11 => ?_)
                · skip
                  rw [if_neg (fun hq => by have h1 := hq.1; have h2 := hq.2; omega)] at hbs
                  have hfe : ctv_9 fr = some (ri ty 8 (brd n M d g ((s9 + 1 : Nat) : Int) (j9 + 1) (bit n M d g s9))) := by rw [hbs]; exact hv0_9
                  refine lv_iinc (v := jI ((((j9 + 1) : Nat) : Int) + 1)) (lv' := [(4, .int (jI ((((j9 + 1) : Nat) : Int) + 1))), (3, .int (jI (((s9 + 1) : Nat) : Int))), (0, .ref (ad fo)), (1, .ref (ad yr)), (2, .ref (ad gr))]) hx hb dX0_burnsAll_83 hl (k := 0) rfl (jI_add _ _) (by decide) rfl (fun ls hl => ?_)
                  refine lv_goto (tgt := 38) hx hb dX0_burnsAll_86 (by decide) ?_
                  exact ih_INN (j9 + 1) (by omega) (by omega) ctv_9 _ _ hfe trivial hofv_9 trivial hW hS ls (lv_sub hl [0, 1, 2, 3, 4] rfl)
                · skip
                  refine lv_aload_n hx hb dX0_burnsAll_58 rfl (lv_at hl 4 rfl) ?_
                  refine lv_iload hx hb dX0_burnsAll_59 (lv_at hl 0 rfl) ?_
                  refine rm_lald hx hb hK hW (f := g) ((hofv_9 gr (by omega)).trans hg) (j9 + 1) rfl (by omega) (by omega) dX0_burnsAll_61 ?_
                  refine lv_aload_n hx hb dX0_burnsAll_62 rfl (lv_at hl 2 rfl) ?_
                  refine lv_aload_n hx hb dX0_burnsAll_63 rfl (lv_at hl 3 rfl) ?_
                  refine lv_iload hx hb dX0_burnsAll_64 (lv_at hl 0 rfl) ?_
                  refine lv_iload_n hx hb dX0_burnsAll_66 rfl (lv_at hl 1 rfl) ?_
                  refine rm_calli (va_runV (As := [.ref (ad yr), .int (jI (((j9 + 1) : Nat) : Int)), .int (jI (((s9 + 1) : Nat) : Int))]) (rest := [.long (jL (g (j9 + 1)))]) ⟨hx, hb, hml, hown, hts⟩ (c_X0_leastToBurn l D ty ad ctv_9 H.size yr n M d u fo fr (brd n M d g ((s9 + 1 : Nat) : Int) j9 (bit n M d g s9)) (j9 + 1) ((s9 + 1 : Nat) : Int) (by omega) ⟨by omega, by omega⟩ hn (hY.kept (fun q h1 h2 => hofv_9 q (by omega))) hM hd ⟨((hofv_9 fo (by omega)).trans hF.1), hv0_9⟩ hbr2) (cwV 3 hts gX0_burnsAll_X0_leastToBurn rfl rfl rfl (by decide +kernel) ⟨Nat.le_of_ble_eq_true rfl, Nat.le_of_ble_eq_true rfl⟩) (rm_preV hK hNw hW ((hofv_9 fo (by omega)).trans hF.1) rfl) rfl rfl hl.1 rfl (lv_room (Nat.le_of_ble_eq_true rfl)) dX0_burnsAll_67 ⟨Nat.zero_le _, Nat.zero_le _⟩) hW hS hA (fun z_12 ct_12 H locs hq_12 hW hS => ?_)
                  obtain ⟨hz, hcc_12⟩ := hq_12
                  have hcc_12 := hcc_12.symm
                  subst hcc_12
                  subst hz
                  refine rm_i2l hx hb dX0_burnsAll_70 ⟨by omega, by omega⟩ ?_
                  refine rm_lcmp hx hb ⟨by omega, by omega⟩ ⟨by omega, by omega⟩ dX0_burnsAll_71 ?_
                  refine rm_if_lt (tgt := 83) hx hb (lcv_rng _ _) dX0_burnsAll_72 (by decide) (fun hc_13 => ?_) (fun hc_13 => ?_)
                  · skip
                    have hc_13 := lcv_lt.mp hc_13
                    rw [if_neg (fun hq => by have h1 := hq.1; have h2 := hq.2; omega)] at hbs
                    have hfe : ctv_9 fr = some (ri ty 8 (brd n M d g ((s9 + 1 : Nat) : Int) (j9 + 1) (bit n M d g s9))) := by rw [hbs]; exact hv0_9
                    refine lv_iinc (v := jI ((((j9 + 1) : Nat) : Int) + 1)) (lv' := [(4, .int (jI ((((j9 + 1) : Nat) : Int) + 1))), (3, .int (jI (((s9 + 1) : Nat) : Int))), (0, .ref (ad fo)), (1, .ref (ad yr)), (2, .ref (ad gr))]) hx hb dX0_burnsAll_83 hl (k := 0) rfl (jI_add _ _) (by decide) rfl (fun ls hl => ?_)
                    refine lv_goto (tgt := 38) hx hb dX0_burnsAll_86 (by decide) ?_
                    exact ih_INN (j9 + 1) (by omega) (by omega) ctv_9 _ _ hfe trivial hofv_9 trivial hW hS ls (lv_sub hl [0, 1, 2, 3, 4] rfl)
                  · skip
                    have hc_13 := lcv_ge.mp hc_13
                    rw [if_pos ⟨by omega, by omega⟩] at hbs
                    refine lv_aload_n hx hb dX0_burnsAll_75 rfl (lv_at hl 2 rfl) ?_
                    refine rm_get (ci := 0) (v := .ref (ad fr)) (C := RX0) (T := TX0) (N := 1) hx hb hts (by decide +kernel) hown hK hW ((hofv_9 fo (by omega)).trans hF.1) rfl 0 (by decide) (hts (.fieldLink RX0 9 "GrainYard$Fire" "rounds" "[I") (by decide +kernel)) (fun _ h9 => h9) rfl dX0_burnsAll_76 ?_
                    refine lv_iload hx hb dX0_burnsAll_79 (lv_at hl 0 rfl) ?_
                    refine lv_iload_n hx hb dX0_burnsAll_81 rfl (lv_at hl 1 rfl) ?_
                    refine rm_iast hx hb hK hW hS (f := (brd n M d g ((s9 + 1 : Nat) : Int) j9 (bit n M d g s9))) hv0_9 (j9 + 1) rfl (by omega) (by omega) dX0_burnsAll_82 (fun H locs ct_14 hs_14 ho_14 hW hS hz_14 => ?_)
                    have hof_14 : ∀ q, q ≠ fr → ct_14 q = ct q := fun q h0_14 => (ho_14 q h0_14).trans (hofv_9 q h0_14)
                    
                    have hfe : ct_14 fr = some (ri ty 8 (brd n M d g ((s9 + 1 : Nat) : Int) (j9 + 1) (bit n M d g s9))) := by rw [hbs]; exact hs_14
                    refine lv_iinc (v := jI ((((j9 + 1) : Nat) : Int) + 1)) (lv' := [(4, .int (jI ((((j9 + 1) : Nat) : Int) + 1))), (3, .int (jI (((s9 + 1) : Nat) : Int))), (0, .ref (ad fo)), (1, .ref (ad yr)), (2, .ref (ad gr))]) hx hb dX0_burnsAll_83 hl (k := 0) rfl (jI_add _ _) (by decide) rfl (fun ls hl => ?_)
                    refine lv_goto (tgt := 38) hx hb dX0_burnsAll_86 (by decide) ?_
                    exact ih_INN (j9 + 1) (by omega) (by omega) ct_14 _ _ hfe trivial hof_14 trivial hW hS ls (lv_sub hl [0, 1, 2, 3, 4] rfl)
          exact INN (n + 1) (0) (by omega) (by omega) ctv_6 _ _ hv0_6 trivial hofv_6 trivial hW hS ls (lv_sub hl [0, 1, 2, 3, 4] rfl)
    exact OUT (n + 1) (0) (by omega) (by omega) ct_4 _ _ hk_5 trivial hof_4 trivial hW hS ls (lv_sub hl [0, 1, 2, 3] rfl)
  · skip
    have hst : ∃ q, 1 ≤ q ∧ q < n ∧ d q ≤ g q := by rcases hz with h | h; exact absurd h.1 (by omega); exact h.2
    refine lv_iconst (v := jI 0) hx hb dX0_burnsAll_16 rfl ?_
    exact W.zret hx hb hr (by decide) (fun t ht hw => ⟨⟨_, (0, ct_1), rfl, ⟨rfl, ⟨_, hm0_1, fun q hq => hof_1 q hq, Or.inl ⟨rfl, hst, rfl⟩⟩⟩, by show rm_W D ad _ _ t.heap; rw [ht]; exact hW⟩, hS.F ht⟩) hS.2.2 dX0_burnsAll_17
set_option maxHeartbeats 4000000 in
set_option maxRecDepth 100000 in
theorem c_X0_followsTree (l : Launch) (D : va_G) (ty : Nat → ClassId) (ad : Nat → Nat) (ct : rm_C) (sz : Nat) (yr n : Nat) (M : Nat → Nat → Int) (d : Nat → Int) (u : Int) (fo fr : Nat) (rd : Nat → Int) (tr : Nat) (htr : tr < 18446744073709551616) (hn2 : 2 ≤ n) (hn : n ≤ 8) (hY : YardAt ty ad ct yr n M d u) (hM : ∀ i j, 0 ≤ M i j ∧ M i j ≤ 3) (hd : ∀ i, i < 8 → 0 ≤ d i ∧ d i ≤ 21) (hF : FireAt ty ad ct fo fr rd) (hfr : fr < yr ∨ yr + 10 < fr) (hfo : fo ≠ fr) : Met l yX0_followsTree wsX0_followsTree ({ frames := 1, cells := 0, slots := 0, locals := 24 }) (rm_P D ty ad ct sz [.ref (ad fo), .ref (ad yr), .long (jL ((tr : Nat) : Int))]) (rm_Qi D ad ct sz (fun z ct1 => ∃ rd1, ct1 fr = some (ri ty 8 rd1) ∧ (∀ q, q ≠ fr → ct1 q = ct q) ∧ ((z = 0 ∧ (∃ p, 1 ≤ p ∧ p < n ∧ M p (tgt tr p) ≤ (pth tr p : Int))) ∨ ((∀ p, 1 ≤ p → p < n → (pth tr p : Int) < M p (tgt tr p)) ∧ rd1 = fit9 n tr (n - 1) ∧ ((z = 1 ∧ ∀ q, q < n → rd1 q ≠ -1) ∨ (z = 0 ∧ ∃ q, q < n ∧ rd1 q = -1)))))) 0 0 (rm_A ad ct sz) := by
  refine Met.ofW (cc := cX0_followsTree) (maxL := 6) (ret := (some .boolean)) (by decide) rfl ?_
  intro p e s m args below meth c s₁ B hml hv
  obtain ⟨hargs, hsz, hW, hK, hNw⟩ := hv
  have hx := B.exec
  have hb := B.bytes
  have hr := B.returns
  have hts := atoms_spec (ws := wsX0_followsTree) B.pre
  have hown : s.vm.findClass RX0 = some m.cls := findClass_of_methodNamed B.named
  have hlocks := B.notSynchronized
  subst hsz
  have hW := hW.own (sz := s.heap.size)
  have hA : ∀ q : Nat, s.heap.size ≤ q → rm_A ad ct s.heap.size q := fun q h => Or.inr h
  have hS : va_S (rm_A ad ct s.heap.size) s.heap s.heap [] := va_S.rf
  have hent : entryFrame m args 6 = entryFrame m ([.ref (ad fo), .ref (ad yr), .long (jL ((tr : Nat) : Int))] : List Value).toArray 6 := by rw [hargs]
  have hl := lv_entry ([.ref (ad fo), .ref (ad yr), .long (jL ((tr : Nat) : Int))]) (n := 6) (Nat.le_of_ble_eq_true rfl)
  rw [hent, lg_entry_eq]
  generalize (lg_sl ([.ref (ad fo), .ref (ad yr), .long (jL ((tr : Nat) : Int))]) ++ List.replicate (6 - (lg_sl ([.ref (ad fo), .ref (ad yr), .long (jL ((tr : Nat) : Int))])).length) Slot.unset).toArray = ls at hl ⊢
  have hl : lv_has ls 6 [(0, .ref (ad fo)), (1, .ref (ad yr)), (2, .long (jL ((tr : Nat) : Int)))] := hl
  refine lv_aload_n hx hb dX0_followsTree_0 rfl (lv_at hl 0 rfl) ?_
  refine rm_get (ci := 0) (v := .ref (ad fr)) (C := RX0) (T := TX0) (N := 1) hx hb hts (by decide +kernel) hown hK hW hF.1 rfl 0 (by decide) (hts (.fieldLink RX0 9 "GrainYard$Fire" "rounds" "[I") (by decide +kernel)) (fun _ h9 => h9) rfl dX0_followsTree_1 ?_
  refine lv_iconst (v := jI (-1)) hx hb dX0_followsTree_4 rfl ?_
  refine rm_callv (va_runS (As := [.ref (ad fr), .int (jI (-1))]) (rest := []) ⟨hx, hb, hml, hown, hts⟩ (c_fill_i l D ty ad ct s.heap.size fr 8 rd (-1) (by decide) hF.2) (va_cwS 2 hts gX0_followsTree_J7_fill_53178 rfl rfl rfl (by decide +kernel) ⟨Nat.le_of_ble_eq_true rfl, Nat.le_of_ble_eq_true rfl⟩) (rm_preS hK hNw hW) rfl rfl hl.1 rfl (lv_room (Nat.le_of_ble_eq_true rfl)) dX0_followsTree_5 ⟨Nat.zero_le _, Nat.zero_le _⟩) hW hS hA (fun ct_1 H locs hq_1 hW hS hz_1 => ?_)
  have ho_1 : ∀ q, q ≠ fr → ct_1 q = ct q := hq_1.2
  have hof_1 : ∀ q, q ≠ fr → ct_1 q = ct q := fun q h0_1 => (ho_1 q h0_1).trans rfl
  have hm0_1 : ct_1 fr = some (ri ty 8 (fun _ => (-1 : Int))) := hq_1.1
  refine lv_aload_n hx hb dX0_followsTree_8 rfl (lv_at hl 0 rfl) ?_
  refine rm_get (ci := 0) (v := .ref (ad fr)) (C := RX0) (T := TX0) (N := 1) hx hb hts (by decide +kernel) hown hK hW ((hof_1 fo (by omega)).trans hF.1) rfl 0 (by decide) (hts (.fieldLink RX0 9 "GrainYard$Fire" "rounds" "[I") (by decide +kernel)) (fun _ h9 => h9) rfl dX0_followsTree_9 ?_
  refine lv_iconst (v := jI 0) hx hb dX0_followsTree_12 rfl ?_
  refine lv_iconst (v := jI 0) hx hb dX0_followsTree_13 rfl ?_
  refine rm_iast hx hb hK hW hS (f := (fun _ => (-1 : Int))) hm0_1 0 rfl (by omega) (by omega) dX0_followsTree_14 (fun H locs ct_2 hs_2 ho_2 hW hS hz_2 => ?_)
  have hof_2 : ∀ q, q ≠ fr → ct_2 q = ct q := fun q h0_2 => (ho_2 q h0_2).trans (hof_1 q h0_2)
  refine lv_iconst (v := jI 1) hx hb dX0_followsTree_15 rfl ?_
  refine lv_istore (lv' := [(4, .int (jI 1)), (0, .ref (ad fo)), (1, .ref (ad yr)), (2, .long (jL ((tr : Nat) : Int)))]) hx hb dX0_followsTree_16 hl (by decide) rfl (fun ls hl => ?_)
  have hk_3 : ct_2 fr = some (ri ty 8 rd0) := hs_2.trans (congrArg (fun f => some (ri ty 8 f)) (rfl))
  have CHK : ∀ (k : Nat) (i : Nat) (hi : i ≤ n) (hi1 : 1 ≤ i) (hs : ∀ p, 1 ≤ p → p < i → (pth tr p : Int) < M p (tgt tr p)), n - i < k → ∀ (ctv : rm_C) (H : Heap) (locs : List Loc), (ctv fr = some (ri ty 8 rd0)) → ∀ (_ : True), (∀ q, q ≠ fr → ctv q = ct q) → ∀ (_ : True), rm_W D ad ctv (rm_A ad ct s.heap.size) H → va_S (rm_A ad ct s.heap.size) s.heap H locs → ∀ ls : Array Slot, lv_has ls 6 [(4, .int (jI ((i : Nat) : Int))), (0, .ref (ad fo)), (1, .ref (ad yr)), (2, .long (jL ((tr : Nat) : Int)))] → W p l e (headSpec wsX0_followsTree ({ frames := 1, cells := 0, slots := 0, locals := 24 })).room s m args below meth c H locs 0 0 (MQ below (rm_Qi D ad ct s.heap.size (fun z ct1 => ∃ rd1, ct1 fr = some (ri ty 8 rd1) ∧ (∀ q, q ≠ fr → ct1 q = ct q) ∧ ((z = 0 ∧ (∃ p, 1 ≤ p ∧ p < n ∧ M p (tgt tr p) ≤ (pth tr p : Int))) ∨ ((∀ p, 1 ≤ p → p < n → (pth tr p : Int) < M p (tgt tr p)) ∧ rd1 = fit9 n tr (n - 1) ∧ ((z = 1 ∧ ∀ q, q < n → rd1 q ≠ -1) ∨ (z = 0 ∧ ∃ q, q < n ∧ rd1 q = -1)))))) args s 0 0 (rm_A ad ct s.heap.size)) (F0 m 18 ls []) := by
    intro k
    induction k with
    | zero => intro i hi hi1 hs hk; exact absurd hk (Nat.not_lt_zero _)
    | succ k ih_CHK =>
      intro i hi hi1 hs hk ctv_4 H locs hv0_4 _ hofv_4 _ hW hS ls hl
      refine lv_iload hx hb dX0_followsTree_18 (lv_at hl 0 rfl) ?_
      refine lv_aload_n hx hb dX0_followsTree_20 rfl (lv_at hl 2 rfl) ?_
      refine rm_get (ci := 4) (v := .int (jI ((n : Nat) : Int))) (C := RX4) (T := TX4) (N := 4) hx hb hts (by decide +kernel) hown hK hW ((hofv_4 yr (by omega)).trans hY.1) rfl 0 (by decide) (hts (.fieldLink RX0 27 "GrainYard$Yard" "places" "I") (by decide +kernel)) (fun _ h9 => h9) rfl dX0_followsTree_21 ?_
      refine rm_icmp_ge (tgt := 58) hx hb ⟨by omega, by omega⟩ ⟨by omega, by omega⟩ dX0_followsTree_24 (by decide) (fun hc_5 => ?_) (fun hc_5 => ?_)
      · skip
        have hok : ∀ p, 1 ≤ p → p < n → (pth tr p : Int) < M p (tgt tr p) := fun p h1 h2 => hs p h1 (by omega)
        refine lv_iconst (v := jI 1) hx hb dX0_followsTree_58 rfl ?_
        refine lv_istore (lv' := [(4, .int (jI 1)), (0, .ref (ad fo)), (1, .ref (ad yr)), (2, .long (jL ((tr : Nat) : Int)))]) hx hb dX0_followsTree_59 hl (by decide) rfl (fun ls hl => ?_)
        have OUT : ∀ (k : Nat) (s9 : Nat) (hs9 : s9 ≤ n - 1), n - s9 < k → ∀ (ctv : rm_C) (H : Heap) (locs : List Loc), (ctv fr = some (ri ty 8 (fit9 n tr s9))) → ∀ (_ : True), (∀ q, q ≠ fr → ctv q = ct q) → ∀ (_ : True), rm_W D ad ctv (rm_A ad ct s.heap.size) H → va_S (rm_A ad ct s.heap.size) s.heap H locs → ∀ ls : Array Slot, lv_has ls 6 [(4, .int (jI (((s9 + 1) : Nat) : Int))), (0, .ref (ad fo)), (1, .ref (ad yr)), (2, .long (jL ((tr : Nat) : Int)))] → W p l e (headSpec wsX0_followsTree ({ frames := 1, cells := 0, slots := 0, locals := 24 })).room s m args below meth c H locs 0 0 (MQ below (rm_Qi D ad ct s.heap.size (fun z ct1 => ∃ rd1, ct1 fr = some (ri ty 8 rd1) ∧ (∀ q, q ≠ fr → ct1 q = ct q) ∧ ((z = 0 ∧ (∃ p, 1 ≤ p ∧ p < n ∧ M p (tgt tr p) ≤ (pth tr p : Int))) ∨ ((∀ p, 1 ≤ p → p < n → (pth tr p : Int) < M p (tgt tr p)) ∧ rd1 = fit9 n tr (n - 1) ∧ ((z = 1 ∧ ∀ q, q < n → rd1 q ≠ -1) ∨ (z = 0 ∧ ∃ q, q < n ∧ rd1 q = -1)))))) args s 0 0 (rm_A ad ct s.heap.size)) (F0 m 61 ls []) := by
          intro k
          induction k with
          | zero => intro s9 hs9 hk; exact absurd hk (Nat.not_lt_zero _)
          | succ k ih_OUT =>
            intro s9 hs9 hk ctv_6 H locs hv0_6 _ hofv_6 _ hW hS ls hl
            have hbr := fit9_rng (n := n) (tr := tr) s9 (by omega)
            refine lv_iload hx hb dX0_followsTree_61 (lv_at hl 0 rfl) ?_
            refine lv_aload_n hx hb dX0_followsTree_63 rfl (lv_at hl 2 rfl) ?_
            refine rm_get (ci := 4) (v := .int (jI ((n : Nat) : Int))) (C := RX4) (T := TX4) (N := 4) hx hb hts (by decide +kernel) hown hK hW ((hofv_6 yr (by omega)).trans hY.1) rfl 0 (by decide) (hts (.fieldLink RX0 27 "GrainYard$Yard" "places" "I") (by decide +kernel)) (fun _ h9 => h9) rfl dX0_followsTree_64 ?_
            refine rm_icmp_ge (tgt := 121) hx hb ⟨by omega, by omega⟩ ⟨by omega, by omega⟩ dX0_followsTree_67 (by decide) (fun hc_7 => ?_) (fun hc_7 => ?_)
            · skip
              have hi : s9 = n - 1 := by omega
              rw [hi] at hbr
              have hfe : ctv_6 fr = some (ri ty 8 (fit9 n tr (n - 1))) := by rw [← hi]; exact hv0_6
              refine lv_aload_n hx hb dX0_followsTree_121 rfl (lv_at hl 1 rfl) ?_
              refine lv_aload_n hx hb dX0_followsTree_122 rfl (lv_at hl 2 rfl) ?_
              refine rm_calli (va_runV (As := [.ref (ad yr)]) (rest := []) ⟨hx, hb, hml, hown, hts⟩ (c_X0_allHaveRounds l D ty ad ctv_6 H.size yr n M d u fo fr (fit9 n tr (n - 1)) hn (hY.kept (fun q h1 h2 => hofv_6 q (by omega))) hM hd ⟨((hofv_6 fo (by omega)).trans hF.1), hfe⟩ hbr) (cwV 1 hts gX0_followsTree_X0_allHaveRounds rfl rfl rfl (by decide +kernel) ⟨Nat.le_of_ble_eq_true rfl, Nat.le_of_ble_eq_true rfl⟩) (rm_preV hK hNw hW ((hofv_6 fo (by omega)).trans hF.1) rfl) rfl rfl hl.1 rfl (lv_room (Nat.le_of_ble_eq_true rfl)) dX0_followsTree_123 ⟨Nat.zero_le _, Nat.zero_le _⟩) hW hS hA (fun z_8 ct_8 H locs hq_8 hW hS => ?_)
              obtain ⟨hz, hcc_8⟩ := hq_8
              have hcc_8 := hcc_8.symm
              subst hcc_8
              exact W.zret hx hb hr (by rcases hz with h | h <;> rw [h.1] <;> decide) (fun t ht hw => ⟨⟨_, (z_8, ctv_6), rfl, ⟨rfl, ⟨_, hfe, fun q hq => hofv_6 q hq, Or.inr ⟨hok, rfl, hz⟩⟩⟩, by show rm_W D ad _ _ t.heap; rw [ht]; exact hW⟩, hS.F ht⟩) hS.2.2 dX0_followsTree_126
            · skip
              refine lv_iconst (v := jI 1) hx hb dX0_followsTree_70 rfl ?_
              refine lv_istore (lv' := [(5, .int (jI 1)), (4, .int (jI (((s9 + 1) : Nat) : Int))), (0, .ref (ad fo)), (1, .ref (ad yr)), (2, .long (jL ((tr : Nat) : Int)))]) hx hb dX0_followsTree_71 hl (by decide) rfl (fun ls hl => ?_)
              have INN : ∀ (k : Nat) (j9 : Nat) (hj9 : j9 ≤ n - 1), n - j9 < k → ∀ (ctv : rm_C) (H : Heap) (locs : List Loc), (ctv fr = some (ri ty 8 (frd tr ((s9 + 1 : Nat) : Int) j9 (fit9 n tr s9)))) → ∀ (_ : True), (∀ q, q ≠ fr → ctv q = ct q) → ∀ (_ : True), rm_W D ad ctv (rm_A ad ct s.heap.size) H → va_S (rm_A ad ct s.heap.size) s.heap H locs → ∀ ls : Array Slot, lv_has ls 6 [(5, .int (jI (((j9 + 1) : Nat) : Int))), (4, .int (jI (((s9 + 1) : Nat) : Int))), (0, .ref (ad fo)), (1, .ref (ad yr)), (2, .long (jL ((tr : Nat) : Int)))] → W p l e (headSpec wsX0_followsTree ({ frames := 1, cells := 0, slots := 0, locals := 24 })).room s m args below meth c H locs 0 0 (MQ below (rm_Qi D ad ct s.heap.size (fun z ct1 => ∃ rd1, ct1 fr = some (ri ty 8 rd1) ∧ (∀ q, q ≠ fr → ct1 q = ct q) ∧ ((z = 0 ∧ (∃ p, 1 ≤ p ∧ p < n ∧ M p (tgt tr p) ≤ (pth tr p : Int))) ∨ ((∀ p, 1 ≤ p → p < n → (pth tr p : Int) < M p (tgt tr p)) ∧ rd1 = fit9 n tr (n - 1) ∧ ((z = 1 ∧ ∀ q, q < n → rd1 q ≠ -1) ∨ (z = 0 ∧ ∃ q, q < n ∧ rd1 q = -1)))))) args s 0 0 (rm_A ad ct s.heap.size)) (F0 m 73 ls []) := by
                intro k
                induction k with
                | zero => intro j9 hj9 hk; exact absurd hk (Nat.not_lt_zero _)
                | succ k ih_INN =>
                  intro j9 hj9 hk ctv_9 H locs hv0_9 _ hofv_9 _ hW hS ls hl
                  have hbr2 := frd_rng (tr := tr) (r := ((s9 + 1 : Nat) : Int)) ⟨by omega, by omega⟩ hbr j9
                  refine lv_iload hx hb dX0_followsTree_73 (lv_at hl 0 rfl) ?_
                  refine lv_aload_n hx hb dX0_followsTree_75 rfl (lv_at hl 3 rfl) ?_
                  refine rm_get (ci := 4) (v := .int (jI ((n : Nat) : Int))) (C := RX4) (T := TX4) (N := 4) hx hb hts (by decide +kernel) hown hK hW ((hofv_9 yr (by omega)).trans hY.1) rfl 0 (by decide) (hts (.fieldLink RX0 27 "GrainYard$Yard" "places" "I") (by decide +kernel)) (fun _ h9 => h9) rfl dX0_followsTree_76 ?_
                  refine rm_icmp_ge (tgt := 115) hx hb ⟨by omega, by omega⟩ ⟨by omega, by omega⟩ dX0_followsTree_79 (by decide) (fun hc_10 => ?_) (fun hc_10 => ?_)
                  · skip
                    have hj : j9 = n - 1 := by omega
                    have hfe : ctv_9 fr = some (ri ty 8 (fit9 n tr (s9 + 1))) := by show _ = some (ri ty 8 (frd tr ((s9 + 1 : Nat) : Int) (n - 1) (fit9 n tr s9))); rw [← hj]; exact hv0_9
                    refine lv_iinc (v := jI ((((s9 + 1) : Nat) : Int) + 1)) (lv' := [(4, .int (jI ((((s9 + 1) : Nat) : Int) + 1))), (5, .int (jI (((j9 + 1) : Nat) : Int))), (0, .ref (ad fo)), (1, .ref (ad yr)), (2, .long (jL ((tr : Nat) : Int)))]) hx hb dX0_followsTree_115 hl (k := 1) rfl (jI_add _ _) (by decide) rfl (fun ls hl => ?_)
                    refine lv_goto (tgt := 61) hx hb dX0_followsTree_118 (by decide) ?_
                    exact ih_OUT (s9 + 1) (by omega) (by omega) ctv_9 _ _ hfe trivial hofv_9 trivial hW hS ls (lv_sub hl [0, 2, 3, 4] rfl)
                  · skip
                    have htl := tgt_lt tr (j9 + 1)
                    have hbt := hbr2 (tgt tr (j9 + 1))
                    have hbs : frd tr ((s9 + 1 : Nat) : Int) (j9 + 1) (fit9 n tr s9) = fst9 tr ((s9 + 1 : Nat) : Int) (j9 + 1) (frd tr ((s9 + 1 : Nat) : Int) j9 (fit9 n tr s9)) := rfl
                    unfold fst9 at hbs
                    refine lv_aload_n hx hb dX0_followsTree_82 rfl (lv_at hl 2 rfl) ?_
                    refine rm_get (ci := 0) (v := .ref (ad fr)) (C := RX0) (T := TX0) (N := 1) hx hb hts (by decide +kernel) hown hK hW ((hofv_9 fo (by omega)).trans hF.1) rfl 0 (by decide) (hts (.fieldLink RX0 9 "GrainYard$Fire" "rounds" "[I") (by decide +kernel)) (fun _ h9 => h9) rfl dX0_followsTree_83 ?_
                    refine lv_lload_n hx hb dX0_followsTree_86 rfl (lv_at hl 4 rfl) ?_
                    refine lv_iload hx hb dX0_followsTree_87 (lv_at hl 0 rfl) ?_
                    refine rm_calli (va_runS (As := [.long (jL ((tr : Nat) : Int)), .int (jI (((j9 + 1) : Nat) : Int))]) (rest := [.ref (ad fr)]) ⟨hx, hb, hml, hown, hts⟩ (c_X0_targetIn l D ty ad ctv_9 H.size tr (j9 + 1) htr ⟨by omega, by omega⟩) (va_cwS 2 hts gX0_followsTree_X0_targetIn rfl rfl rfl (by decide +kernel) ⟨Nat.le_of_ble_eq_true rfl, Nat.le_of_ble_eq_true rfl⟩) (rm_preS hK hNw hW) rfl rfl hl.1 rfl (lv_room (Nat.le_of_ble_eq_true rfl)) dX0_followsTree_89 ⟨Nat.zero_le _, Nat.zero_le _⟩) hW hS hA (fun z_11 ct_11 H locs hq_11 hW hS => ?_)
                    obtain ⟨hz, hcc_11⟩ := hq_11
                    have hcc_11 := hcc_11.symm
                    subst hcc_11
                    subst hz
                    refine rm_iald hx hb hK hW (f := (frd tr ((s9 + 1 : Nat) : Int) j9 (fit9 n tr s9))) hv0_9 (tgt tr (j9 + 1)) rfl (by omega) (by omega) dX0_followsTree_92 ?_
                    refine lv_iload hx hb dX0_followsTree_93 (lv_at hl 1 rfl) ?_
                    refine lv_iconst (v := jI 1) hx hb dX0_followsTree_95 rfl ?_
                    refine rm_isub hx hb dX0_followsTree_96 ?_
                    refine rm_icmp_ne (tgt := 109) hx hb ⟨by omega, by omega⟩ ⟨by omega, by omega⟩ dX0_followsTree_97 (by decide) (fun hc_12 => ?_) (fun hc_12 => ?_)
                    · skip
                      rw [if_neg (by omega)] at hbs
                      have hfe : ctv_9 fr = some (ri ty 8 (frd tr ((s9 + 1 : Nat) : Int) (j9 + 1) (fit9 n tr s9))) := by rw [hbs]; exact hv0_9
                      refine lv_iinc (v := jI ((((j9 + 1) : Nat) : Int) + 1)) (lv' := [(5, .int (jI ((((j9 + 1) : Nat) : Int) + 1))), (4, .int (jI (((s9 + 1) : Nat) : Int))), (0, .ref (ad fo)), (1, .ref (ad yr)), (2, .long (jL ((tr : Nat) : Int)))]) hx hb dX0_followsTree_109 hl (k := 0) rfl (jI_add _ _) (by decide) rfl (fun ls hl => ?_)
                      refine lv_goto (tgt := 73) hx hb dX0_followsTree_112 (by decide) ?_
                      exact ih_INN (j9 + 1) (by omega) (by omega) ctv_9 _ _ hfe trivial hofv_9 trivial hW hS ls (lv_sub hl [0, 1, 2, 3, 4] rfl)
                    · skip
                      rw [if_pos (by omega)] at hbs
                      refine lv_aload_n hx hb dX0_followsTree_100 rfl (lv_at hl 2 rfl) ?_
                      refine rm_get (ci := 0) (v := .ref (ad fr)) (C := RX0) (T := TX0) (N := 1) hx hb hts (by decide +kernel) hown hK hW ((hofv_9 fo (by omega)).trans hF.1) rfl 0 (by decide) (hts (.fieldLink RX0 9 "GrainYard$Fire" "rounds" "[I") (by decide +kernel)) (fun _ h9 => h9) rfl dX0_followsTree_101 ?_
                      refine lv_iload hx hb dX0_followsTree_104 (lv_at hl 0 rfl) ?_
                      refine lv_iload hx hb dX0_followsTree_106 (lv_at hl 1 rfl) ?_
                      refine rm_iast hx hb hK hW hS (f := (frd tr ((s9 + 1 : Nat) : Int) j9 (fit9 n tr s9))) hv0_9 (j9 + 1) rfl (by omega) (by omega) dX0_followsTree_108 (fun H locs ct_13 hs_13 ho_13 hW hS hz_13 => ?_)
                      have hof_13 : ∀ q, q ≠ fr → ct_13 q = ct q := fun q h0_13 => (ho_13 q h0_13).trans (hofv_9 q h0_13)
                      have hfe : ct_13 fr = some (ri ty 8 (frd tr ((s9 + 1 : Nat) : Int) (j9 + 1) (fit9 n tr s9))) := by rw [hbs]; exact hs_13
                      refine lv_iinc (v := jI ((((j9 + 1) : Nat) : Int) + 1)) (lv' := [(5, .int (jI ((((j9 + 1) : Nat) : Int) + 1))), (4, .int (jI (((s9 + 1) : Nat) : Int))), (0, .ref (ad fo)), (1, .ref (ad yr)), (2, .long (jL ((tr : Nat) : Int)))]) hx hb dX0_followsTree_109 hl (k := 0) rfl (jI_add _ _) (by decide) rfl (fun ls hl => ?_)
                      refine lv_goto (tgt := 73) hx hb dX0_followsTree_112 (by decide) ?_
                      exact ih_INN (j9 + 1) (by omega) (by omega) ct_13 _ _ hfe trivial hof_13 trivial hW hS ls (lv_sub hl [0, 1, 2, 3, 4] rfl)
              exact INN (n + 1) (0) (by omega) (by omega) ctv_6 _ _ hv0_6 trivial hofv_6 trivial hW hS ls (lv_sub hl [0, 1, 2, 3, 4] rfl)
        exact OUT (n + 1) (0) (by omega) (by omega) ctv_4 _ _ hv0_4 trivial hofv_4 trivial hW hS ls (lv_sub hl [0, 1, 2, 3] rfl)
      · skip
        have htl := tgt_lt tr i
        have hpl := pth_lt tr i
        have hMi := hM i (tgt tr i)
        refine lv_lload_n hx hb dX0_followsTree_27 rfl (lv_at hl 3 rfl) ?_
        refine lv_iload hx hb dX0_followsTree_28 (lv_at hl 0 rfl) ?_
        refine rm_calli (va_runS (As := [.long (jL ((tr : Nat) : Int)), .int (jI ((i : Nat) : Int))]) (rest := []) ⟨hx, hb, hml, hown, hts⟩ (c_X0_pathIn l D ty ad ctv_4 H.size tr i htr ⟨by omega, by omega⟩) (va_cwS 2 hts gX0_followsTree_X0_pathIn rfl rfl rfl (by decide +kernel) ⟨Nat.le_of_ble_eq_true rfl, Nat.le_of_ble_eq_true rfl⟩) (rm_preS hK hNw hW) rfl rfl hl.1 rfl (lv_room (Nat.le_of_ble_eq_true rfl)) dX0_followsTree_30 ⟨Nat.zero_le _, Nat.zero_le _⟩) hW hS hA (fun z_14 ct_14 H locs hq_14 hW hS => ?_)
        obtain ⟨hz, hcc_14⟩ := hq_14
        have hcc_14 := hcc_14.symm
        subst hcc_14
        subst hz
        refine lv_aload_n hx hb dX0_followsTree_33 rfl (lv_at hl 2 rfl) ?_
        refine rm_get (ci := 4) (v := .ref (ad (yr + 1))) (C := RX4) (T := TX4) (N := 4) hx hb hts (by decide +kernel) hown hK hW ((hofv_4 yr (by omega)).trans hY.1) rfl 1 (by decide) (hts (.fieldLink RX0 42 "GrainYard$Yard" "paths" "[[I") (by decide +kernel)) (fun _ h9 => h9) rfl dX0_followsTree_34 ?_
        refine lv_iload hx hb dX0_followsTree_37 (lv_at hl 0 rfl) ?_
        refine rm_aald hx hb hK hW (f := (fun i => if i < 8 then some (ad (yr + 1 + 1 + i)) else none)) ((hofv_4 (yr + 1) (by omega)).trans hY.2.1) rfl rfl i rfl (by omega) (by omega) dX0_followsTree_39 (congrArg va_rf (if_pos (by omega))) ?_
        refine lv_lload_n hx hb dX0_followsTree_40 rfl (lv_at hl 3 rfl) ?_
        refine lv_iload hx hb dX0_followsTree_41 (lv_at hl 0 rfl) ?_
        refine rm_calli (va_runS (As := [.long (jL ((tr : Nat) : Int)), .int (jI ((i : Nat) : Int))]) (rest := [.ref (ad (yr + 1 + 1 + i)), .int (jI (((pth tr i) : Nat) : Int))]) ⟨hx, hb, hml, hown, hts⟩ (c_X0_targetIn l D ty ad ctv_4 H.size tr i htr ⟨by omega, by omega⟩) (va_cwS 2 hts gX0_followsTree_X0_targetIn rfl rfl rfl (by decide +kernel) ⟨Nat.le_of_ble_eq_true rfl, Nat.le_of_ble_eq_true rfl⟩) (rm_preS hK hNw hW) rfl rfl hl.1 rfl (lv_room (Nat.le_of_ble_eq_true rfl)) dX0_followsTree_43 ⟨Nat.zero_le _, Nat.zero_le _⟩) hW hS hA (fun z_15 ct_15 H locs hq_15 hW hS => ?_)
        obtain ⟨hz, hcc_15⟩ := hq_15
        have hcc_15 := hcc_15.symm
        subst hcc_15
        subst hz
        refine rm_iald hx hb hK hW (f := (M i)) ((hofv_4 (yr + 1 + 1 + i) (by omega)).trans (hY.2.2.1 i (by omega))) (tgt tr i) rfl (by omega) (by omega) dX0_followsTree_46 ?_
        refine rm_icmp_lt (tgt := 52) hx hb ⟨by omega, by omega⟩ ⟨by omega, by omega⟩ dX0_followsTree_47 (by decide) (fun hc_16 => ?_) (fun hc_16 => ?_)
        · skip
          refine lv_iinc (v := jI (((i : Nat) : Int) + 1)) (lv' := [(4, .int (jI (((i : Nat) : Int) + 1))), (0, .ref (ad fo)), (1, .ref (ad yr)), (2, .long (jL ((tr : Nat) : Int)))]) hx hb dX0_followsTree_52 hl (k := 0) rfl (jI_add _ _) (by decide) rfl (fun ls hl => ?_)
          refine lv_goto (tgt := 18) hx hb dX0_followsTree_55 (by decide) ?_
          exact ih_CHK (i + 1) (by omega) (by omega) (fun p h1 h2 => by rcases Nat.lt_or_ge p i with e | e; exact hs p h1 e; rw [show p = i by omega]; omega) (by omega) ctv_4 _ _ hv0_4 trivial hofv_4 trivial hW hS ls (lv_sub hl [0, 1, 2, 3] rfl)
        · skip
          refine lv_iconst (v := jI 0) hx hb dX0_followsTree_50 rfl ?_
          exact W.zret hx hb hr (by decide) (fun t ht hw => ⟨⟨_, (0, ctv_4), rfl, ⟨rfl, ⟨_, hv0_4, fun q hq => hofv_4 q hq, Or.inl ⟨rfl, i, hi1, by omega, by omega⟩⟩⟩, by show rm_W D ad _ _ t.heap; rw [ht]; exact hW⟩, hS.F ht⟩) hS.2.2 dX0_followsTree_51
  exact CHK (n + 1) (1) (by omega) (by omega) (fun p h1 h2 => by omega) (by omega) ct_2 _ _ hk_3 trivial hof_2 trivial hW hS ls (lv_sub hl [0, 1, 2, 3] rfl)
set_option maxHeartbeats 4000000 in
set_option maxRecDepth 100000 in
theorem c_X0_grainsByTree (l : Launch) (D : va_G) (ty : Nat → ClassId) (ad : Nat → Nat) (ct : rm_C) (sz : Nat) (yr n : Nat) (M : Nat → Nat → Int) (d : Nat → Int) (u : Int) (fo fr : Nat) (rd : Nat → Int) (tr place : Nat) (htr : tr < 18446744073709551616) (hp : place < n) (hp1 : 1 ≤ place) (hn : n ≤ 8) (hY : YardAt ty ad ct yr n M d u) (hM : ∀ i j, 0 ≤ M i j ∧ M i j ≤ 3) (hd : ∀ i, i < 8 → 0 ≤ d i ∧ d i ≤ 21) (hF : FireAt ty ad ct fo fr rd) (hrd : ∀ q, -1 ≤ rd q ∧ rd q ≤ 8) : Met l yX0_grainsByTree wsX0_grainsByTree ({ frames := 1, cells := 0, slots := 0, locals := 25 }) (rm_P D ty ad ct sz [.ref (ad fo), .ref (ad yr), .long (jL ((tr : Nat) : Int)), .int (jI ((place : Nat) : Int))]) (rm_Qi D ad ct sz (fun z ct1 => z = ltb M d rd place (rd place) n + (pbk M rd place (tgt tr place) + (pth tr place : Int)) ∧ ct1 = ct)) 0 0 (rm_A ad ct sz) := by
  refine Met.ofW (cc := cX0_grainsByTree) (maxL := 6) (ret := (some .int)) (by decide) rfl ?_
  intro p e s m args below meth c s₁ B hml hv
  obtain ⟨hargs, hsz, hW, hK, hNw⟩ := hv
  have hx := B.exec
  have hb := B.bytes
  have hr := B.returns
  have hts := atoms_spec (ws := wsX0_grainsByTree) B.pre
  have hown : s.vm.findClass RX0 = some m.cls := findClass_of_methodNamed B.named
  have hlocks := B.notSynchronized
  subst hsz
  have hW := hW.own (sz := s.heap.size)
  have hA : ∀ q : Nat, s.heap.size ≤ q → rm_A ad ct s.heap.size q := fun q h => Or.inr h
  have hS : va_S (rm_A ad ct s.heap.size) s.heap s.heap [] := va_S.rf
  have hent : entryFrame m args 6 = entryFrame m ([.ref (ad fo), .ref (ad yr), .long (jL ((tr : Nat) : Int)), .int (jI ((place : Nat) : Int))] : List Value).toArray 6 := by rw [hargs]
  have hl := lv_entry ([.ref (ad fo), .ref (ad yr), .long (jL ((tr : Nat) : Int)), .int (jI ((place : Nat) : Int))]) (n := 6) (Nat.le_of_ble_eq_true rfl)
  rw [hent, lg_entry_eq]
  generalize (lg_sl ([.ref (ad fo), .ref (ad yr), .long (jL ((tr : Nat) : Int)), .int (jI ((place : Nat) : Int))]) ++ List.replicate (6 - (lg_sl ([.ref (ad fo), .ref (ad yr), .long (jL ((tr : Nat) : Int)), .int (jI ((place : Nat) : Int))])).length) Slot.unset).toArray = ls at hl ⊢
  have hl : lv_has ls 6 [(0, .ref (ad fo)), (1, .ref (ad yr)), (2, .long (jL ((tr : Nat) : Int))), (4, .int (jI ((place : Nat) : Int)))] := hl
  have htl := tgt_lt tr place
  have hrp := hrd place
  refine lv_aload_n hx hb dX0_grainsByTree_0 rfl (lv_at hl 0 rfl) ?_
  refine lv_aload_n hx hb dX0_grainsByTree_1 rfl (lv_at hl 1 rfl) ?_
  refine lv_iload hx hb dX0_grainsByTree_2 (lv_at hl 3 rfl) ?_
  refine lv_lload_n hx hb dX0_grainsByTree_4 rfl (lv_at hl 2 rfl) ?_
  refine lv_iload hx hb dX0_grainsByTree_5 (lv_at hl 3 rfl) ?_
  refine rm_calli (va_runS (As := [.long (jL ((tr : Nat) : Int)), .int (jI ((place : Nat) : Int))]) (rest := [.int (jI ((place : Nat) : Int)), .ref (ad yr), .ref (ad fo)]) ⟨hx, hb, hml, hown, hts⟩ (c_X0_targetIn l D ty ad ct s.heap.size tr place htr ⟨by omega, by omega⟩) (va_cwS 2 hts gX0_grainsByTree_X0_targetIn rfl rfl rfl (by decide +kernel) ⟨Nat.le_of_ble_eq_true rfl, Nat.le_of_ble_eq_true rfl⟩) (rm_preS hK hNw hW) rfl rfl hl.1 rfl (lv_room (Nat.le_of_ble_eq_true rfl)) dX0_grainsByTree_7 ⟨Nat.zero_le _, Nat.zero_le _⟩) hW hS hA (fun z_1 ct_1 H locs hq_1 hW hS => ?_)
  obtain ⟨hz, hcc_1⟩ := hq_1
  have hcc_1 := hcc_1.symm
  subst hcc_1
  subst hz
  refine rm_calli (va_runV (As := [.ref (ad yr), .int (jI ((place : Nat) : Int)), .int (jI (((tgt tr place) : Nat) : Int))]) (rest := []) ⟨hx, hb, hml, hown, hts⟩ (c_X0_pathsBack l D ty ad ct H.size yr n M d u fo fr rd place ((tgt tr place : Nat) : Int) hp ⟨by omega, by omega⟩ hn hY hM hd hF hrd) (cwV 3 hts gX0_grainsByTree_X0_pathsBack rfl rfl rfl (by decide +kernel) ⟨Nat.le_of_ble_eq_true rfl, Nat.le_of_ble_eq_true rfl⟩) (rm_preV hK hNw hW hF.1 rfl) rfl rfl hl.1 rfl (lv_room (Nat.le_of_ble_eq_true rfl)) dX0_grainsByTree_10 ⟨Nat.zero_le _, Nat.zero_le _⟩) hW hS hA (fun z_2 ct_2 H locs hq_2 hW hS => ?_)
  obtain ⟨hz, hcc_2⟩ := hq_2
  have hcc_2 := hcc_2.symm
  subst hcc_2
  rw [Int.toNat_natCast] at hz
  subst hz
  refine lv_lload_n hx hb dX0_grainsByTree_13 rfl (lv_at hl 2 rfl) ?_
  refine lv_iload hx hb dX0_grainsByTree_14 (lv_at hl 3 rfl) ?_
  refine rm_calli (va_runS (As := [.long (jL ((tr : Nat) : Int)), .int (jI ((place : Nat) : Int))]) (rest := [.int (jI (pbk M rd place (tgt tr place)))]) ⟨hx, hb, hml, hown, hts⟩ (c_X0_pathIn l D ty ad ct H.size tr place htr ⟨by omega, by omega⟩) (va_cwS 2 hts gX0_grainsByTree_X0_pathIn rfl rfl rfl (by decide +kernel) ⟨Nat.le_of_ble_eq_true rfl, Nat.le_of_ble_eq_true rfl⟩) (rm_preS hK hNw hW) rfl rfl hl.1 rfl (lv_room (Nat.le_of_ble_eq_true rfl)) dX0_grainsByTree_16 ⟨Nat.zero_le _, Nat.zero_le _⟩) hW hS hA (fun z_3 ct_3 H locs hq_3 hW hS => ?_)
  obtain ⟨hz, hcc_3⟩ := hq_3
  have hcc_3 := hcc_3.symm
  subst hcc_3
  subst hz
  refine rm_iadd hx hb dX0_grainsByTree_19 ?_
  refine lv_istore (lv' := [(5, .int (jI ((pbk M rd place (tgt tr place)) + (((pth tr place) : Nat) : Int)))), (0, .ref (ad fo)), (1, .ref (ad yr)), (2, .long (jL ((tr : Nat) : Int))), (4, .int (jI ((place : Nat) : Int)))]) hx hb dX0_grainsByTree_20 hl (by decide) rfl (fun ls hl => ?_)
  refine lv_aload_n hx hb dX0_grainsByTree_22 rfl (lv_at hl 1 rfl) ?_
  refine lv_aload_n hx hb dX0_grainsByTree_23 rfl (lv_at hl 2 rfl) ?_
  refine lv_iload hx hb dX0_grainsByTree_24 (lv_at hl 4 rfl) ?_
  refine lv_aload_n hx hb dX0_grainsByTree_26 rfl (lv_at hl 1 rfl) ?_
  refine rm_get (ci := 0) (v := .ref (ad fr)) (C := RX0) (T := TX0) (N := 1) hx hb hts (by decide +kernel) hown hK hW hF.1 rfl 0 (by decide) (hts (.fieldLink RX0 9 "GrainYard$Fire" "rounds" "[I") (by decide +kernel)) (fun _ h9 => h9) rfl dX0_grainsByTree_27 ?_
  refine lv_iload hx hb dX0_grainsByTree_30 (lv_at hl 4 rfl) ?_
  refine rm_iald hx hb hK hW (f := rd) hF.2 place rfl (by omega) (by omega) dX0_grainsByTree_32 ?_
  refine rm_calli (va_runV (As := [.ref (ad yr), .int (jI ((place : Nat) : Int)), .int (jI (rd place))]) (rest := []) ⟨hx, hb, hml, hown, hts⟩ (c_X0_leastToBurn l D ty ad ct H.size yr n M d u fo fr rd place (rd place) hp ⟨by omega, by omega⟩ hn hY hM hd hF hrd) (cwV 3 hts gX0_grainsByTree_X0_leastToBurn rfl rfl rfl (by decide +kernel) ⟨Nat.le_of_ble_eq_true rfl, Nat.le_of_ble_eq_true rfl⟩) (rm_preV hK hNw hW hF.1 rfl) rfl rfl hl.1 rfl (lv_room (Nat.le_of_ble_eq_true rfl)) dX0_grainsByTree_33 ⟨Nat.zero_le _, Nat.zero_le _⟩) hW hS hA (fun z_4 ct_4 H locs hq_4 hW hS => ?_)
  obtain ⟨hz, hcc_4⟩ := hq_4
  have hcc_4 := hcc_4.symm
  subst hcc_4
  subst hz
  refine lv_iload hx hb dX0_grainsByTree_36 (lv_at hl 0 rfl) ?_
  refine rm_iadd hx hb dX0_grainsByTree_38 ?_
  exact W.iret hx hb hr (fun t ht hw => ⟨⟨_, (((ltb M d rd place (rd place) n) + ((pbk M rd place (tgt tr place)) + (((pth tr place) : Nat) : Int))), ct), rfl, ⟨rfl, ⟨rfl, rfl⟩⟩, by show rm_W D ad _ _ t.heap; rw [ht]; exact hW⟩, hS.F ht⟩) hS.2.2 dX0_grainsByTree_39
