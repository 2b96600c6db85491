set_option maxHeartbeats 4000000 in
set_option maxRecDepth 100000 in
/-- Yard.calm: settles -/
theorem c_X4_calm (l : Launch) (D : va_G) (ty : Nat → ClassId) (ad : Nat → Nat) (ct : rm_C) (sz : Nat) (yr n : Nat) (M : Nat → Nat → Int) (d : Nat → Int) (u : Int) (gr fl : Nat) (g f : Nat → Int) (hy : yok n M) (hY : YardAt ty ad ct yr n M d u) (hdd : ∀ i, i < 8 → d i = dg n M i) (hd1 : ∀ i, 1 ≤ i → i < n → 1 ≤ dg n M i) (hd0 : ∀ i, i < 8 → 0 ≤ d i ∧ d i ≤ 21) (hgr : gr < yr ∨ yr + 10 < gr) (hfl : fl < yr ∨ yr + 10 < fl) (hne : gr ≠ fl) (hg : ct gr = some (rl ty 8 g)) (hf : ct fl = some (rl ty 8 f)) (hg0 : ∀ q, 1 ≤ q → q < n → 0 ≤ g q) (hB : psum n g ≤ 1000000000000) (hT : ∃ s0, s0 < 1000000 ∧ its n M g up1 (s0 + 1) = its n M g up1 s0) : Met l yX4_calm wsX4_calm ({ frames := 1, cells := 0, slots := 0, locals := 25 }) (rm_P D ty ad ct sz [.ref (ad yr), .ref (ad gr), .ref (ad fl)]) (rm_Ql D ad ct sz (fun z ct1 => ∃ v, stl n M g v ∧ z = gs v n ∧ ct1 gr = some (rl ty 8 (gaf n M g v)) ∧ ct1 fl = some (rl ty 8 v) ∧ ∀ q, q ≠ gr → q ≠ fl → ct1 q = ct q)) 0 0 (rm_A ad ct sz) := by
  refine Met.ofW (cc := cX4_calm) (maxL := 10) (ret := (some .long)) (by decide) rfl ?_
  intro p e s m args below meth c s₁ B hml hv
  obtain ⟨hargs, hsz, hW, hK, hNw⟩ := hv
  have hx := B.exec
  have hb := B.bytes
  have hr := B.returns
  have hts := atoms_spec (ws := wsX4_calm) B.pre
  have hown : s.vm.findClass RX4 = some m.cls := findClass_of_methodNamed B.named
  have hlocks := B.notSynchronized
  subst hsz
  have hW := hW.own (sz := s.heap.size)
  have hA : ∀ q : Nat, s.heap.size ≤ q → rm_A ad ct s.heap.size q := fun q h => Or.inr h
  have hS : va_S (rm_A ad ct s.heap.size) s.heap s.heap [] := va_S.rf
  have hent : entryFrame m args 10 = entryFrame m ([.ref (ad yr), .ref (ad gr), .ref (ad fl)] : List Value).toArray 10 := by rw [hargs]
  have hl := lv_entry ([.ref (ad yr), .ref (ad gr), .ref (ad fl)]) (n := 10) (Nat.le_of_ble_eq_true rfl)
  rw [hent, lg_entry_eq]
  generalize (lg_sl ([.ref (ad yr), .ref (ad gr), .ref (ad fl)]) ++ List.replicate (10 - (lg_sl ([.ref (ad yr), .ref (ad gr), .ref (ad fl)])).length) Slot.unset).toArray = ls at hl ⊢
  have hl : lv_has ls 10 [(0, .ref (ad yr)), (1, .ref (ad gr)), (2, .ref (ad fl))] := hl
  have hn8 := hy.2.1
  have hn2 := hy.1
  have hM := hy.2.2.1
  refine lv_aload_n hx hb dX4_calm_0 rfl (lv_at hl 2 rfl) ?_
  refine lv_lconst (v := jL 0) hx hb dX4_calm_1 rfl ?_
  refine rm_callv (va_runS (As := [.ref (ad fl), .long (jL 0)]) (rest := []) ⟨hx, hb, hml, hown, hts⟩ (c_fill_l l D ty ad ct s.heap.size fl 8 f 0 (by decide) hf) (va_cwS 2 hts gX4_calm_J7_fill_d0a16 rfl rfl rfl (by decide +kernel) ⟨Nat.le_of_ble_eq_true rfl, Nat.le_of_ble_eq_true rfl⟩) (rm_preS hK hNw hW) rfl rfl hl.1 rfl (lv_room (Nat.le_of_ble_eq_true rfl)) dX4_calm_2 ⟨Nat.zero_le _, Nat.zero_le _⟩) hW hS hA (fun ct_1 H locs hq_1 hW hS hz_1 => ?_)
  have ho_1 : ∀ q, q ≠ fl → ct_1 q = ct q := hq_1.2
  have hof_1 : ∀ q, q ≠ gr → q ≠ fl → ct_1 q = ct q := fun q h0_1 h1_1 => (ho_1 q h1_1).trans rfl
  have hm0_1 : ct_1 gr = some (rl ty 8 g) := (ho_1 gr (by omega)).trans hg
  have hm1_1 : ct_1 fl = some (rl ty 8 (fun _ => (0 : Int))) := hq_1.1
  refine lv_lconst (v := jL 0) hx hb dX4_calm_5 rfl ?_
  refine lv_lstore_n (lv' := [(3, .long (jL 0)), (0, .ref (ad yr)), (1, .ref (ad gr)), (2, .ref (ad fl))]) hx hb dX4_calm_6 rfl hl (by decide) rfl (fun ls hl => ?_)
  refine lv_iconst (v := jI 1) hx hb dX4_calm_7 rfl ?_
  refine lv_istore (lv' := [(5, .int (jI 1)), (3, .long (jL 0)), (0, .ref (ad yr)), (1, .ref (ad gr)), (2, .ref (ad fl))]) hx hb dX4_calm_8 hl (by decide) rfl (fun ls hl => ?_)
  refine lv_iconst (v := jI 0) hx hb dX4_calm_10 rfl ?_
  refine lv_istore (lv' := [(6, .int (jI 0)), (5, .int (jI 1)), (3, .long (jL 0)), (0, .ref (ad yr)), (1, .ref (ad gr)), (2, .ref (ad fl))]) hx hb dX4_calm_11 hl (by decide) rfl (fun ls hl => ?_)
  have hgz : ct_1 gr = some (rl ty 8 (gaf n M g (its n M g up1 0))) := hm0_1.trans (by show some (rl ty 8 g) = some (rl ty 8 (gaf n M g (fun _ => 0))); rw [gaf_0])
  have hall : gs (its n M g up1 0) n = 0 := gs_zero (fun _ _ => rfl)
  have hl : lv_has ls 10 [(6, .int (jI 0)), (5, .int (jI 1)), (3, .long (jL (gs (its n M g up1 0) n))), (0, .ref (ad yr)), (1, .ref (ad gr)), (2, .ref (ad fl))] := by rw [hall]; exact hl
  have OUT : ∀ (k : Nat) (s9 : Nat) (mv : Int) (hs9 : s9 ≤ 1000000) (hmv : (mv = 1 ∧ ∀ s8, s8 < s9 → its n M g up1 (s8 + 1) ≠ its n M g up1 s8) ∨ (mv = 0 ∧ sw n M g up1 (n - 1) (its n M g up1 s9) = (its n M g up1 s9))), 1000000 - s9 < k → ∀ (ctv : rm_C) (H : Heap) (locs : List Loc), (ctv gr = some (rl ty 8 (gaf n M g (its n M g up1 s9)))) → ∀ (_ : True), (ctv fl = some (rl ty 8 (its n M g up1 s9))) → ∀ (_ : True), (∀ q, q ≠ gr → q ≠ fl → ctv q = ct q) → ∀ (_ : True), rm_W D ad ctv (rm_A ad ct s.heap.size) H → va_S (rm_A ad ct s.heap.size) s.heap H locs → ∀ ls : Array Slot, lv_has ls 10 [(6, .int (jI ((s9 : Nat) : Int))), (5, .int (jI mv)), (3, .long (jL (gs (its n M g up1 s9) n))), (0, .ref (ad yr)), (1, .ref (ad gr)), (2, .ref (ad fl))] → W p l e (headSpec wsX4_calm ({ frames := 1, cells := 0, slots := 0, locals := 25 })).room s m args below meth c H locs 0 0 (MQ below (rm_Ql D ad ct s.heap.size (fun z ct1 => ∃ v, stl n M g v ∧ z = gs v n ∧ ct1 gr = some (rl ty 8 (gaf n M g v)) ∧ ct1 fl = some (rl ty 8 v) ∧ ∀ q, q ≠ gr → q ≠ fl → ct1 q = ct q)) args s 0 0 (rm_A ad ct s.heap.size)) (F0 m 13 ls []) := by
    intro k
    induction k with
    | zero => intro s9 mv hs9 hmv hk; exact absurd hk (Nat.not_lt_zero _)
    | succ k ih_OUT =>
      intro s9 mv hs9 hmv hk ctv_2 H locs hv0_2 _ hv1_2 _ hofv_2 _ hW hS ls hl
      have hon := onw_its (σ := up1) hy up1_in hg0 s9
      have hmr : mv = 0 ∨ mv = 1 := by rcases hmv with h | h; exact Or.inr h.1; exact Or.inl h.1
      refine lv_iload hx hb dX4_calm_13 (lv_at hl 1 rfl) ?_
      refine rm_if_eq (tgt := 94) hx hb ⟨by omega, by omega⟩ dX4_calm_15 (by decide) (fun hc_3 => ?_) (fun hc_3 => ?_)
      · skip
        have hend : sw n M g up1 (n - 1) (its n M g up1 s9) = (its n M g up1 s9) := by rcases hmv with h | h; exact absurd h.1 (by omega); exact h.2
        have hst := sw_still hy up1_in up1_all hd1 hon hend
        refine lv_lload_n hx hb dX4_calm_94 rfl (lv_at hl 2 rfl) ?_
        exact W.lret hx hb hr (fun t ht hw => ⟨⟨_, ((gs (its n M g up1 s9) n), ctv_2), rfl, ⟨rfl, ⟨_, hst, rfl, hv0_2, hv1_2, fun q h1 h2 => hofv_2 q h1 h2⟩⟩, by show rm_W D ad _ _ t.heap; rw [ht]; exact hW⟩, hS.F ht⟩) hS.2.2 dX4_calm_95
      · skip
        refine lv_iload hx hb dX4_calm_18 (lv_at hl 0 rfl) ?_
        refine rm_ldc (z := 1000000) hx hb hown (hts (.constant RX4 38 (1000000)) (by decide +kernel)) (by decide) dX4_calm_20 ?_
        refine rm_icmp_ge (tgt := 94) hx hb ⟨by omega, by omega⟩ ⟨by omega, by omega⟩ dX4_calm_22 (by decide) (fun hc_4 => ?_) (fun hc_4 => ?_)
        · skip
          obtain ⟨s0, hs0, he0⟩ := hT
          exact absurd he0 (by rcases hmv with h | h; exact h.2 s0 (by omega); exact absurd h.1 (by omega))
        · skip
          have hmv1 : ∀ s8, s8 < s9 → its n M g up1 (s8 + 1) ≠ its n M g up1 s8 := by rcases hmv with h | h; exact h.2; exact absurd h.1 (by omega)
          refine lv_iconst (v := jI 0) hx hb dX4_calm_25 rfl ?_
          refine lv_istore (lv' := [(5, .int (jI 0)), (6, .int (jI ((s9 : Nat) : Int))), (3, .long (jL (gs (its n M g up1 s9) n))), (0, .ref (ad yr)), (1, .ref (ad gr)), (2, .ref (ad fl))]) hx hb dX4_calm_26 hl (by decide) rfl (fun ls hl => ?_)
          refine lv_iconst (v := jI 1) hx hb dX4_calm_28 rfl ?_
          refine lv_istore (lv' := [(7, .int (jI 1)), (5, .int (jI 0)), (6, .int (jI ((s9 : Nat) : Int))), (3, .long (jL (gs (its n M g up1 s9) n))), (0, .ref (ad yr)), (1, .ref (ad gr)), (2, .ref (ad fl))]) hx hb dX4_calm_29 hl (by decide) rfl (fun ls hl => ?_)
          have INN : ∀ (k : Nat) (j9 : Nat) (mv2 : Int) (hj9 : j9 ≤ n - 1) (hm2 : (mv2 = 0 ∧ (sw n M g up1 j9 (its n M g up1 s9)) = (its n M g up1 s9)) ∨ (mv2 = 1 ∧ gs (its n M g up1 s9) n < gs (sw n M g up1 j9 (its n M g up1 s9)) n)), n - j9 < k → ∀ (ctv : rm_C) (H : Heap) (locs : List Loc), (ctv gr = some (rl ty 8 (gaf n M g (sw n M g up1 j9 (its n M g up1 s9))))) → ∀ (_ : True), (ctv fl = some (rl ty 8 (sw n M g up1 j9 (its n M g up1 s9)))) → ∀ (_ : True), (∀ q, q ≠ gr → q ≠ fl → ctv q = ct q) → ∀ (_ : True), rm_W D ad ctv (rm_A ad ct s.heap.size) H → va_S (rm_A ad ct s.heap.size) s.heap H locs → ∀ ls : Array Slot, lv_has ls 10 [(7, .int (jI (((j9 + 1) : Nat) : Int))), (5, .int (jI mv2)), (6, .int (jI ((s9 : Nat) : Int))), (3, .long (jL (gs (sw n M g up1 j9 (its n M g up1 s9)) n))), (0, .ref (ad yr)), (1, .ref (ad gr)), (2, .ref (ad fl))] → W p l e (headSpec wsX4_calm ({ frames := 1, cells := 0, slots := 0, locals := 25 })).room s m args below meth c H locs 0 0 (MQ below (rm_Ql D ad ct s.heap.size (fun z ct1 => ∃ v, stl n M g v ∧ z = gs v n ∧ ct1 gr = some (rl ty 8 (gaf n M g v)) ∧ ct1 fl = some (rl ty 8 v) ∧ ∀ q, q ≠ gr → q ≠ fl → ct1 q = ct q)) args s 0 0 (rm_A ad ct s.heap.size)) (F0 m 31 ls []) := by
            intro k
            induction k with
            | zero => intro j9 mv2 hj9 hm2 hk; exact absurd hk (Nat.not_lt_zero _)
            | succ k ih_INN =>
              intro j9 mv2 hj9 hm2 hk ctv_5 H locs hv0_5 _ hv1_5 _ hofv_5 _ hW hS ls hl
              have hon2 := onw_sw hy up1_in hon hj9
              refine lv_iload hx hb dX4_calm_31 (lv_at hl 0 rfl) ?_
              refine lv_aload_n hx hb dX4_calm_33 rfl (lv_at hl 4 rfl) ?_
              refine rm_get (ci := 4) (v := .int (jI ((n : Nat) : Int))) (C := RX4) (T := TX4) (N := 4) hx hb hts (by decide +kernel) hown hK hW ((hofv_5 yr (by omega) (by omega)).trans hY.1) rfl 0 (by decide) (hts (.fieldLink RX4 9 "GrainYard$Yard" "places" "I") (by decide +kernel)) (fun _ h9 => h9) rfl dX4_calm_34 ?_
              refine rm_icmp_ge (tgt := 88) hx hb ⟨by omega, by omega⟩ ⟨by omega, by omega⟩ dX4_calm_37 (by decide) (fun hc_6 => ?_) (fun hc_6 => ?_)
              · skip
                have hj : j9 = n - 1 := by omega
                rw [hj] at hm2
                have hGe : ctv_5 gr = some (rl ty 8 (gaf n M g (its n M g up1 (s9 + 1)))) := by rw [hv0_5, hj]; rfl
                have hFe : ctv_5 fl = some (rl ty 8 (its n M g up1 (s9 + 1))) := by rw [hv1_5, hj]; rfl
                have hl : lv_has ls 10 [(7, .int (jI (((j9 + 1) : Nat) : Int))), (5, .int (jI mv2)), (6, .int (jI ((s9 : Nat) : Int))), (3, .long (jL (gs (its n M g up1 (s9 + 1)) n))), (0, .ref (ad yr)), (1, .ref (ad gr)), (2, .ref (ad fl))] := by rw [its_s, ← hj]; exact hl
                refine lv_iinc (v := jI (((s9 : Nat) : Int) + 1)) (lv' := [(6, .int (jI (((s9 : Nat) : Int) + 1))), (7, .int (jI (((j9 + 1) : Nat) : Int))), (5, .int (jI mv2)), (3, .long (jL (gs (its n M g up1 (s9 + 1)) n))), (0, .ref (ad yr)), (1, .ref (ad gr)), (2, .ref (ad fl))]) hx hb dX4_calm_88 hl (k := 2) rfl (jI_add _ _) (by decide) rfl (fun ls hl => ?_)
                refine lv_goto (tgt := 13) hx hb dX4_calm_91 (by decide) ?_
                exact ih_OUT (s9 + 1) (mv2) (by omega) (by rcases hm2 with h | h; exact Or.inr ⟨h.1, by have e : its n M g up1 (s9 + 1) = (its n M g up1 s9) := h.2; rw [e]; exact h.2⟩; exact Or.inl ⟨h.1, fun s8 h8 => by rcases Nat.lt_or_ge s8 s9 with q | q; exact hmv1 s8 q; rw [show s8 = s9 by omega]; exact fun e => absurd (congrArg (fun f => gs f n) e) (by show gs (sw n M g up1 (n - 1) (its n M g up1 s9)) n ≠ gs (its n M g up1 s9) n; omega)⟩) (by omega) ctv_5 _ _ hGe trivial hFe trivial hofv_5 trivial hW hS ls (lv_sub hl [0, 2, 3, 4, 5, 6] rfl)
              · skip
                have hp1 : j9 + 1 < n := by omega
                have hd1p := hd1 (j9 + 1) (by omega) hp1
                have hdp := hdd (j9 + 1) (by omega)
                have hok := due_ok hon2 (by omega) hp1 hd1p
                have hgr64 : r64 (gaf n M g (sw n M g up1 j9 (its n M g up1 s9)) (j9 + 1)) := by unfold gaf; rw [if_pos hp1]; exact ⟨by omega, by omega⟩
                refine lv_aload_n hx hb dX4_calm_40 rfl (lv_at hl 4 rfl) ?_
                refine lv_aload_n hx hb dX4_calm_41 rfl (lv_at hl 5 rfl) ?_
                refine lv_iload hx hb dX4_calm_42 (lv_at hl 0 rfl) ?_
                refine rm_calll (va_runV (As := [.ref (ad gr), .int (jI (((j9 + 1) : Nat) : Int))]) (rest := []) ⟨hx, hb, hml, hown, hts⟩ (c_X4_fallsDue l D ty ad ctv_5 H.size yr n gr (j9 + 1) M d (gaf n M g (sw n M g up1 j9 (its n M g up1 s9))) u hn8 hp1 (hY.kept (fun q h1 h2 => hofv_5 q (by omega) (by omega))) hd0 hv0_5 hgr64) (cwV 2 hts gX4_calm_X4_fallsDue rfl rfl rfl (by decide +kernel) ⟨Nat.le_of_ble_eq_true rfl, Nat.le_of_ble_eq_true rfl⟩) (rm_preV hK hNw hW ((hofv_5 yr (by omega) (by omega)).trans hY.1) rfl) rfl rfl hl.1 rfl (lv_room (Nat.le_of_ble_eq_true rfl)) dX4_calm_44 ⟨Nat.zero_le _, Nat.zero_le _⟩) hW hS hA (fun z_7 ct_7 H locs hq_7 hW hS => ?_)
                obtain ⟨hz, hcc_7⟩ := hq_7
                have hcc_7 := hcc_7.symm
                subst hcc_7
                rw [due_gaf hp1 hdp hd1p] at hz
                subst hz
                refine lv_lstore (lv' := [(8, .long (jL (Int.tdiv (af n M g (sw n M g up1 j9 (its n M g up1 s9)) (j9 + 1)) (dg n M (j9 + 1))))), (7, .int (jI (((j9 + 1) : Nat) : Int))), (5, .int (jI mv2)), (6, .int (jI ((s9 : Nat) : Int))), (3, .long (jL (gs (sw n M g up1 j9 (its n M g up1 s9)) n))), (0, .ref (ad yr)), (1, .ref (ad gr)), (2, .ref (ad fl))]) hx hb dX4_calm_47 hl (by decide) rfl (fun ls hl => ?_)
                refine lv_lload hx hb dX4_calm_49 (lv_at hl 0 rfl) ?_
                refine lv_lconst (v := jL 0) hx hb dX4_calm_51 rfl ?_
                refine rm_lcmp hx hb ⟨by omega, by omega⟩ ⟨by omega, by omega⟩ dX4_calm_52 ?_
                refine rm_if_le (tgt := 82) hx hb (lcv_rng _ _) dX4_calm_53 (by decide) (fun hc_8 => ?_) (fun hc_8 => ?_)
                · skip
                  have hc_8 := lcv_le.mp hc_8
                  have ht0 : (Int.tdiv (af n M g (sw n M g up1 j9 (its n M g up1 s9)) (j9 + 1)) (dg n M (j9 + 1))) = 0 := by omega
                  have he : sw n M g up1 (j9 + 1) (its n M g up1 s9) = (sw n M g up1 j9 (its n M g up1 s9)) := tp_0 ht0
                  have hG2 : ctv_5 gr = some (rl ty 8 (gaf n M g (sw n M g up1 (j9 + 1) (its n M g up1 s9)))) := by rw [he]; exact hv0_5
                  have hF2 : ctv_5 fl = some (rl ty 8 (sw n M g up1 (j9 + 1) (its n M g up1 s9))) := by rw [he]; exact hv1_5
                  have hl : lv_has ls 10 [(8, .long (jL (Int.tdiv (af n M g (sw n M g up1 j9 (its n M g up1 s9)) (j9 + 1)) (dg n M (j9 + 1))))), (7, .int (jI (((j9 + 1) : Nat) : Int))), (5, .int (jI mv2)), (6, .int (jI ((s9 : Nat) : Int))), (3, .long (jL (gs (sw n M g up1 (j9 + 1) (its n M g up1 s9)) n))), (0, .ref (ad yr)), (1, .ref (ad gr)), (2, .ref (ad fl))] := by rw [he]; exact hl
                  refine lv_iinc (v := jI ((((j9 + 1) : Nat) : Int) + 1)) (lv' := [(7, .int (jI ((((j9 + 1) : Nat) : Int) + 1))), (8, .long (jL (Int.tdiv (af n M g (sw n M g up1 j9 (its n M g up1 s9)) (j9 + 1)) (dg n M (j9 + 1))))), (5, .int (jI mv2)), (6, .int (jI ((s9 : Nat) : Int))), (3, .long (jL (gs (sw n M g up1 (j9 + 1) (its n M g up1 s9)) n))), (0, .ref (ad yr)), (1, .ref (ad gr)), (2, .ref (ad fl))]) hx hb dX4_calm_82 hl (k := 1) rfl (jI_add _ _) (by decide) rfl (fun ls hl => ?_)
                  refine lv_goto (tgt := 31) hx hb dX4_calm_85 (by decide) ?_
                  exact ih_INN (j9 + 1) (mv2) (by omega) (by rw [he]; exact hm2) (by omega) ctv_5 _ _ hG2 trivial hF2 trivial hofv_5 trivial hW hS ls (lv_sub hl [0, 2, 3, 4, 5, 6, 7] rfl)
                · skip
                  have hc_8 := lcv_gt.mp hc_8
                  refine lv_aload_n hx hb dX4_calm_56 rfl (lv_at hl 5 rfl) ?_
                  refine lv_aload_n hx hb dX4_calm_57 rfl (lv_at hl 6 rfl) ?_
                  refine lv_iload hx hb dX4_calm_58 (lv_at hl 1 rfl) ?_
                  refine lv_lload hx hb dX4_calm_60 (lv_at hl 0 rfl) ?_
                  refine rm_callv (va_runV (As := [.ref (ad gr), .int (jI (((j9 + 1) : Nat) : Int)), .long (jL (Int.tdiv (af n M g (sw n M g up1 j9 (its n M g up1 s9)) (j9 + 1)) (dg n M (j9 + 1))))]) (rest := []) ⟨hx, hb, hml, hown, hts⟩ (c_X4_fell l D ty ad ctv_5 H.size yr n gr (j9 + 1) M d (gaf n M g (sw n M g up1 j9 (its n M g up1 s9))) u (Int.tdiv (af n M g (sw n M g up1 j9 (its n M g up1 s9)) (j9 + 1)) (dg n M (j9 + 1))) hn8 hp1 (hY.kept (fun q h1 h2 => hofv_5 q (by omega) (by omega))) hM hd0 hgr hv0_5) (cwV 3 hts gX4_calm_X4_fell rfl rfl rfl (by decide +kernel) ⟨Nat.le_of_ble_eq_true rfl, Nat.le_of_ble_eq_true rfl⟩) (rm_preV hK hNw hW ((hofv_5 yr (by omega) (by omega)).trans hY.1) rfl) rfl rfl hl.1 rfl (lv_room (Nat.le_of_ble_eq_true rfl)) dX4_calm_62 ⟨Nat.zero_le _, Nat.zero_le _⟩) hW hS hA (fun ct_9 H locs hq_9 hW hS hz_9 => ?_)
                  have hfe := gaf_fel (g := g) (u := (sw n M g up1 j9 (its n M g up1 s9))) hy hp1 hdp (Int.tdiv (af n M g (sw n M g up1 j9 (its n M g up1 s9)) (j9 + 1)) (dg n M (j9 + 1)))
                  have ho_9 : ∀ q, q ≠ gr → ct_9 q = ctv_5 q := hq_9.2
                  have hof_9 : ∀ q, q ≠ gr → q ≠ fl → ct_9 q = ct q := fun q h0_9 h1_9 => (ho_9 q h0_9).trans (hofv_5 q h0_9 h1_9)
                  have hm0_9 : ct_9 gr = some (rl ty 8 (gaf n M g (sw n M g up1 (j9 + 1) (its n M g up1 s9)))) := (hq_9.1.trans (congrArg (fun f => some (rl ty 8 f)) hfe))
                  have hm1_9 : ct_9 fl = some (rl ty 8 (sw n M g up1 j9 (its n M g up1 s9))) := (ho_9 fl (by omega)).trans hv1_5
                  refine lv_aload_n hx hb dX4_calm_65 rfl (lv_at hl 7 rfl) ?_
                  refine lv_iload hx hb dX4_calm_66 (lv_at hl 1 rfl) ?_
                  refine lv_dup2_11 hx hb dX4_calm_68 rfl rfl ?_
                  refine rm_lald hx hb hK hW (f := (sw n M g up1 j9 (its n M g up1 s9))) hm1_9 (j9 + 1) rfl (by omega) (by omega) dX4_calm_69 ?_
                  refine lv_lload hx hb dX4_calm_70 (lv_at hl 0 rfl) ?_
                  refine rm_ladd hx hb dX4_calm_72 ?_
                  refine rm_last hx hb hK hW hS (f := (sw n M g up1 j9 (its n M g up1 s9))) hm1_9 (j9 + 1) rfl (by omega) (by omega) dX4_calm_73 (fun H locs ct_10 hs_10 ho_10 hW hS hz_10 => ?_)
                  have hof_10 : ∀ q, q ≠ gr → q ≠ fl → ct_10 q = ct q := fun q h0_10 h1_10 => (ho_10 q h1_10).trans (hof_9 q h0_10 h1_10)
                  have hm0_10 : ct_10 gr = some (rl ty 8 (gaf n M g (sw n M g up1 (j9 + 1) (its n M g up1 s9)))) := (ho_10 gr (by omega)).trans hm0_9
                  refine lv_lload_n hx hb dX4_calm_74 rfl (lv_at hl 4 rfl) ?_
                  refine lv_lload hx hb dX4_calm_75 (lv_at hl 0 rfl) ?_
                  refine rm_ladd hx hb dX4_calm_77 ?_
                  refine lv_lstore_n (lv' := [(3, .long (jL ((gs (sw n M g up1 j9 (its n M g up1 s9)) n) + (Int.tdiv (af n M g (sw n M g up1 j9 (its n M g up1 s9)) (j9 + 1)) (dg n M (j9 + 1)))))), (8, .long (jL (Int.tdiv (af n M g (sw n M g up1 j9 (its n M g up1 s9)) (j9 + 1)) (dg n M (j9 + 1))))), (7, .int (jI (((j9 + 1) : Nat) : Int))), (5, .int (jI mv2)), (6, .int (jI ((s9 : Nat) : Int))), (0, .ref (ad yr)), (1, .ref (ad gr)), (2, .ref (ad fl))]) hx hb dX4_calm_78 rfl hl (by decide) rfl (fun ls hl => ?_)
                  have hsum := tp_sum (M := M) (g := g) (u := (sw n M g up1 j9 (its n M g up1 s9))) hp1
                  have hsum2 : gs (sw n M g up1 j9 (its n M g up1 s9)) n + (Int.tdiv (af n M g (sw n M g up1 j9 (its n M g up1 s9)) (j9 + 1)) (dg n M (j9 + 1))) = gs (sw n M g up1 (j9 + 1) (its n M g up1 s9)) n := hsum.symm
                  have hl : lv_has ls 10 [(3, .long (jL (gs (sw n M g up1 (j9 + 1) (its n M g up1 s9)) n))), (8, .long (jL (Int.tdiv (af n M g (sw n M g up1 j9 (its n M g up1 s9)) (j9 + 1)) (dg n M (j9 + 1))))), (7, .int (jI (((j9 + 1) : Nat) : Int))), (5, .int (jI mv2)), (6, .int (jI ((s9 : Nat) : Int))), (0, .ref (ad yr)), (1, .ref (ad gr)), (2, .ref (ad fl))] := by rw [← hsum2]; exact hl
                  have hF3 : ct_10 fl = some (rl ty 8 (sw n M g up1 (j9 + 1) (its n M g up1 s9))) := hs_10
                  refine lv_iconst (v := jI 1) hx hb dX4_calm_79 rfl ?_
                  refine lv_istore (lv' := [(5, .int (jI 1)), (3, .long (jL (gs (sw n M g up1 (j9 + 1) (its n M g up1 s9)) n))), (8, .long (jL (Int.tdiv (af n M g (sw n M g up1 j9 (its n M g up1 s9)) (j9 + 1)) (dg n M (j9 + 1))))), (7, .int (jI (((j9 + 1) : Nat) : Int))), (6, .int (jI ((s9 : Nat) : Int))), (0, .ref (ad yr)), (1, .ref (ad gr)), (2, .ref (ad fl))]) hx hb dX4_calm_80 hl (by decide) rfl (fun ls hl => ?_)
                  refine lv_iinc (v := jI ((((j9 + 1) : Nat) : Int) + 1)) (lv' := [(7, .int (jI ((((j9 + 1) : Nat) : Int) + 1))), (5, .int (jI 1)), (3, .long (jL (gs (sw n M g up1 (j9 + 1) (its n M g up1 s9)) n))), (8, .long (jL (Int.tdiv (af n M g (sw n M g up1 j9 (its n M g up1 s9)) (j9 + 1)) (dg n M (j9 + 1))))), (6, .int (jI ((s9 : Nat) : Int))), (0, .ref (ad yr)), (1, .ref (ad gr)), (2, .ref (ad fl))]) hx hb dX4_calm_82 hl (k := 3) rfl (jI_add _ _) (by decide) rfl (fun ls hl => ?_)
                  refine lv_goto (tgt := 31) hx hb dX4_calm_85 (by decide) ?_
                  exact ih_INN (j9 + 1) (1) (by omega) (Or.inr ⟨rfl, by rcases hm2 with h | h; (have e : gs (sw n M g up1 j9 (its n M g up1 s9)) n = gs (its n M g up1 s9) n := congrArg (fun f => gs f n) h.2; omega); omega⟩) (by omega) ct_10 _ _ hm0_10 trivial hF3 trivial hof_10 trivial hW hS ls (lv_sub hl [0, 1, 4, 2, 5, 6, 7] rfl)
          exact INN (n + 1) (0) (0) (by omega) (Or.inl ⟨rfl, rfl⟩) (by omega) ctv_2 _ _ hv0_2 trivial hv1_2 trivial hofv_2 trivial hW hS ls (lv_sub hl [0, 1, 2, 3, 4, 5, 6] rfl)
  exact OUT (1000001) (0) (1) (by omega) (Or.inl ⟨rfl, fun s8 h => absurd h (Nat.not_lt_zero _)⟩) (by omega) ct_1 _ _ hgz trivial hm1_1 trivial hof_1 trivial hW hS ls (lv_sub hl [0, 1, 2, 3, 4, 5] rfl)
