set_option maxHeartbeats 4000000 in
set_option maxRecDepth 100000 in
theorem c_X3_split (l : Launch) (D : va_G) (ty : Nat → ClassId) (ad : Nat → Nat) (ct : rm_C) (sz : Nat) (yr n : Nat) (M : Nat → Nat → Int) (d : Nat → Int) (u : Int) (po kz on : Nat) (tr : Int) (r : Nat → Int) (T : Nat → Nat → Int) (D9 : Int) (hD : 1 ≤ D9) (hD9 : D9 ≤ 2147483648) (hn : 2 ≤ n ∧ n ≤ 8) (hM : ∀ i j, 0 ≤ M i j ∧ M i j ≤ 3) (hd0 : ∀ i, i < 8 → 0 ≤ d i ∧ d i ≤ 21) (hY : YardAt ty ad ct yr n M d u) (hP : PartsAt ty ad ct po kz on tr r T) (hpo : po + 10 < yr ∨ yr + 10 < po) : Met l yX3_split wsX3_split ({ frames := 4, cells := 0, slots := 0, locals := 98 }) (rm_P D ty ad ct sz [.ref (ad po), .ref (ad yr), .long (jL D9)]) (rm_Qi D ad ct sz (fun z ct1 => ∃ R9 : Nat → Int, R9 = (mci (n - 1) (rdd (n - 1) D9 (pfp (n - 1) M d D9 T (n - 1) 0) r (n - 1)) (n - 1)) ∧ z = ((n - 1 : Nat) : Int) - ((ons R9 (n - 1) : Nat) : Int) ∧ PartsAt ty ad ct1 po (n - 1) (ons R9 (n - 1)) D9 R9 (spl (n - 1) D9 (pfp (n - 1) M d D9 T (n - 1) 0) (n - 1)) ∧ ∀ q, (q < po ∨ po + 10 < q) → ct1 q = ct q)) 0 0 (rm_A ad ct sz) := by
  refine Met.ofW (cc := cX3_split) (maxL := 5) (ret := (some .int)) (by decide) rfl ?_
  intro p e s m args below meth c s₁ B hml hv
  obtain ⟨hargs, hsz, hW, hK, hNw⟩ := hv
  have hx := B.exec
  have hb := B.bytes
  have hr := B.returns
  have hts := atoms_spec (ws := wsX3_split) B.pre
  have hown : s.vm.findClass RX3 = some m.cls := findClass_of_methodNamed B.named
  have hlocks := B.notSynchronized
  subst hsz
  have hW := hW.own (sz := s.heap.size)
  have hA : ∀ q : Nat, s.heap.size ≤ q → rm_A ad ct s.heap.size q := fun q h => Or.inr h
  have hS : va_S (rm_A ad ct s.heap.size) s.heap s.heap [] := va_S.rf
  have hent : entryFrame m args 5 = entryFrame m ([.ref (ad po), .ref (ad yr), .long (jL D9)] : List Value).toArray 5 := by rw [hargs]
  have hl := lv_entry ([.ref (ad po), .ref (ad yr), .long (jL D9)]) (n := 5) (Nat.le_of_ble_eq_true rfl)
  rw [hent, lg_entry_eq]
  generalize (lg_sl ([.ref (ad po), .ref (ad yr), .long (jL D9)]) ++ List.replicate (5 - (lg_sl ([.ref (ad po), .ref (ad yr), .long (jL D9)])).length) Slot.unset).toArray = ls at hl ⊢
  have hl : lv_has ls 5 [(0, .ref (ad po)), (1, .ref (ad yr)), (2, .long (jL D9))] := hl
  have hTb : ∀ i9, i9 < 8 → ct (po + 1 + 1 + i9) = some (rl ty 8 (T i9)) := fun i9 hi9 => hP.2.2.2 i9 hi9
  refine lv_aload_n hx hb dX3_split_0 rfl (lv_at hl 0 rfl) ?_
  refine lv_aload_n hx hb dX3_split_1 rfl (lv_at hl 1 rfl) ?_
  refine rm_get (ci := 4) (v := .int (jI ((n : Nat) : Int))) (C := RX4) (T := TX4) (N := 4) hx hb hts (by decide +kernel) hown hK hW hY.1 rfl 0 (by decide) (hts (.fieldLink RX3 31 "GrainYard$Yard" "places" "I") (by decide +kernel)) (fun _ h9 => h9) rfl dX3_split_2 ?_
  refine lv_iconst (v := jI 1) hx hb dX3_split_5 rfl ?_
  refine rm_isub hx hb dX3_split_6 ?_
  rw [show (((n : Nat) : Int) - 1) = ((n - 1 : Nat) : Int) from by omega]
  refine rm_put (ci := 3) (v := .int (jI (((n - 1) : Nat) : Int))) (fty := .int) (C := RX3) (T := TX3) (N := 5) hx hb hts (by decide +kernel) tyX3 tyX3_ok nmX3 hown hK hW hS hP.1 rfl 2 (by decide) (hts (.fieldLink RX3 20 "GrainYard$Parts" "size" "I") (by decide +kernel)) (fun _ h9 => h9) rfl (by decide +kernel) rfl rfl (Nat.le_of_ble_eq_true rfl) dX3_split_7 (fun H locs ct_1 hs_1 ho_1 hW hS hz_1 => ?_)
  have hs_1 : ct_1 po = some (.inr (3, [.ref (ad (po + 1)), .ref (ad (po + 10)), .int (jI (((n - 1) : Nat) : Int)), .int (jI ((on : Nat) : Int)), .long (jL tr)]) : va_E) := hs_1
  have hof_1 : ∀ q, q ≠ po → q ≠ (po + 10) → (q < po + 1 + 1 ∨ po + 1 + 1 + 7 < q) → ct_1 q = ct q := fun q h0_1 h1_1 h2_1 => (ho_1 q h0_1).trans rfl
  have hm1_1 : ct_1 (po + 10) = some (rl ty 8 r) := (ho_1 (po + 10) (by omega)).trans hP.2.2.1
  have hm2_1 : ∀ i9, i9 < 8 → ct_1 (po + 1 + 1 + i9) = some (rl ty 8 (T i9)) := fun i9 hi9 => (ho_1 _ (by omega)).trans (hTb i9 hi9)
  refine lv_aload_n hx hb dX3_split_10 rfl (lv_at hl 0 rfl) ?_
  refine lv_lconst (v := jL 1) hx hb dX3_split_11 rfl ?_
  refine lv_lload_n hx hb dX3_split_12 rfl (lv_at hl 2 rfl) ?_
  refine rm_lmax hx hb (hml.trans hl.1.symm) hown (hts (.methodLink RX3 36 Lib.MathLoose.max_long.x) (by decide +kernel)) (hts (.static Lib.MathLoose.max_long.x) (by decide +kernel)) (hts (.initialized "java/lang/Math") (by decide +kernel)) (hts (.code Lib.MathLoose.max_long.x Lib.MathLoose.max_long.code 4 (some .long)) (by decide +kernel)) (by decide) (Nat.le_of_ble_eq_true rfl) (Nat.zero_le _) (Nat.zero_le _) ⟨by omega, by omega⟩ ⟨by omega, by omega⟩ dX3_split_13 ?_
  rw [if_neg (show ¬ D9 < 1 by omega)]
  refine rm_put (ci := 3) (v := .long (jL D9)) (fty := .long) (C := RX3) (T := TX3) (N := 5) hx hb hts (by decide +kernel) tyX3 tyX3_ok nmX3 hown hK hW hS hs_1 rfl 4 (by decide) (hts (.fieldLink RX3 27 "GrainYard$Parts" "trees" "J") (by decide +kernel)) (fun _ h9 => h9) rfl (by decide +kernel) rfl rfl (Nat.le_of_ble_eq_true rfl) dX3_split_16 (fun H locs ct_2 hs_2 ho_2 hW hS hz_2 => ?_)
  have hs_2 : ct_2 po = some (.inr (3, [.ref (ad (po + 1)), .ref (ad (po + 10)), .int (jI (((n - 1) : Nat) : Int)), .int (jI ((on : Nat) : Int)), .long (jL D9)]) : va_E) := hs_2
  have hof_2 : ∀ q, q ≠ po → q ≠ (po + 10) → (q < po + 1 + 1 ∨ po + 1 + 1 + 7 < q) → ct_2 q = ct q := fun q h0_2 h1_2 h2_2 => (ho_2 q h0_2).trans (hof_1 q h0_2 h1_2 h2_2)
  have hm1_2 : ct_2 (po + 10) = some (rl ty 8 r) := (ho_2 (po + 10) (by omega)).trans hm1_1
  have hm2_2 : ∀ i9, i9 < 8 → ct_2 (po + 1 + 1 + i9) = some (rl ty 8 (T i9)) := fun i9 hi9 => (ho_2 _ (by omega)).trans (hm2_1 i9 hi9)
  refine lv_aload_n hx hb dX3_split_19 rfl (lv_at hl 0 rfl) ?_
  refine lv_aload_n hx hb dX3_split_20 rfl (lv_at hl 1 rfl) ?_
  refine rm_callv (va_runV (As := [.ref (ad yr)]) (rest := []) ⟨hx, hb, hml, hown, hts⟩ (c_X3_fillTable l D ty ad ct_2 H.size yr n M d u po (n - 1) on D9 r T (by omega) hM hd0 (hY.kept (fun q h1 h2 => hof_2 q (by omega) (by omega) (by omega))) (by omega) (by omega) (by omega) ⟨hs_2, ((hof_2 (po + 1) (by omega) (by omega) (by omega)).trans hP.2.1), hm1_2, hm2_2⟩ hpo) (cwV 1 hts gX3_split_X3_fillTable rfl rfl rfl (by decide +kernel) ⟨Nat.le_of_ble_eq_true rfl, Nat.le_of_ble_eq_true rfl⟩) (rm_preV hK hNw hW hs_2 rfl) rfl rfl hl.1 rfl (lv_room (Nat.le_of_ble_eq_true rfl)) dX3_split_21 ⟨Nat.zero_le _, Nat.zero_le _⟩) hW hS hA (fun ct_3 H locs hq_3 hW hS hz_3 => ?_)
  have ho_3 : ∀ q, (q < po + 1 + 1 ∨ po + 1 + 1 + 7 < q) → ct_3 q = ct_2 q := hq_3.2
  have hof_3 : ∀ q, q ≠ po → q ≠ (po + 10) → (q < po + 1 + 1 ∨ po + 1 + 1 + 7 < q) → ct_3 q = ct q := fun q h0_3 h1_3 h2_3 => (ho_3 q h2_3).trans (hof_2 q h0_3 h1_3 h2_3)
  have hm0_3 : ct_3 po = some (.inr (3, [.ref (ad (po + 1)), .ref (ad (po + 10)), .int (jI (((n - 1) : Nat) : Int)), .int (jI ((on : Nat) : Int)), .long (jL D9)]) : va_E) := (ho_3 po (by omega)).trans hs_2
  have hm1_3 : ct_3 (po + 10) = some (rl ty 8 r) := (ho_3 (po + 10) (by omega)).trans hm1_2
  have hm2_3 : ∀ i9, i9 < 8 → ct_3 (po + 1 + 1 + i9) = some (rl ty 8 ((pfp (n - 1) M d D9 T (n - 1) 0) i9)) := hq_3.1
  obtain ⟨F9, hF9⟩ : ∃ F9, F9 = (pfp (n - 1) M d D9 T (n - 1) 0) := ⟨_, rfl⟩
  have hk_4 : ∀ i9, i9 < 8 → ct_3 (po + 1 + 1 + i9) = some (rl ty 8 (F9 i9)) := by rw [← (show (pfp (n - 1) M d D9 T (n - 1) 0) = F9 from hF9.symm)]; exact hm2_3
  have hRF : inr_ (n - 1) D9 F9 := fun i j h1 h2 => by rw [hF9]; unfold pfp; rw [if_pos ⟨h1, h2, Or.inl h1⟩]; exact ⟨Int.emod_nonneg _ (by omega), Int.emod_lt_of_pos _ (by omega)⟩
  have hk_5 : ∀ i9, i9 < 8 → ct_3 (po + 1 + 1 + i9) = some (rl ty 8 ((spl (n - 1) D9 F9 0) i9)) := by rw [← (show F9 = (spl (n - 1) D9 F9 0) from rfl)]; exact hk_4
  have hR0 : ct_3 (po + 10) = some (rl ty 8 (rdd (n - 1) D9 F9 r 0)) := hm1_3.trans (congrArg (fun f => some (rl ty 8 f)) (rdd_0 (n - 1) D9 F9 r))
  refine lv_iconst (v := jI 0) hx hb dX3_split_24 rfl ?_
  refine lv_istore (lv' := [(4, .int (jI 0)), (0, .ref (ad po)), (1, .ref (ad yr)), (2, .long (jL D9))]) hx hb dX3_split_25 hl (by decide) rfl (fun ls hl => ?_)
  have LP : ∀ (k : Nat) (c9 : Nat) (hc9 : c9 ≤ n - 1), n - c9 < k → ∀ (ctv : rm_C) (H : Heap) (locs : List Loc), (ctv po = some (.inr (3, [.ref (ad (po + 1)), .ref (ad (po + 10)), .int (jI (((n - 1) : Nat) : Int)), .int (jI ((on : Nat) : Int)), .long (jL D9)]) : va_E)) → ∀ (_ : True), (ctv (po + 10) = some (rl ty 8 (rdd (n - 1) D9 F9 r c9))) → ∀ (_ : True), (∀ i9, i9 < 8 → ctv (po + 1 + 1 + i9) = some (rl ty 8 ((spl (n - 1) D9 F9 c9) i9))) → ∀ (_ : True), (∀ q, q ≠ po → q ≠ (po + 10) → (q < po + 1 + 1 ∨ po + 1 + 1 + 7 < q) → ctv q = ct q) → ∀ (_ : True), rm_W D ad ctv (rm_A ad ct s.heap.size) H → va_S (rm_A ad ct s.heap.size) s.heap H locs → ∀ ls : Array Slot, lv_has ls 5 [(4, .int (jI ((c9 : Nat) : Int))), (0, .ref (ad po)), (1, .ref (ad yr))] → W p l e (headSpec wsX3_split ({ frames := 4, cells := 0, slots := 0, locals := 98 })).room s m args below meth c H locs 0 0 (MQ below (rm_Qi D ad ct s.heap.size (fun z ct1 => ∃ R9 : Nat → Int, R9 = (mci (n - 1) (rdd (n - 1) D9 (pfp (n - 1) M d D9 T (n - 1) 0) r (n - 1)) (n - 1)) ∧ z = ((n - 1 : Nat) : Int) - ((ons R9 (n - 1) : Nat) : Int) ∧ PartsAt ty ad ct1 po (n - 1) (ons R9 (n - 1)) D9 R9 (spl (n - 1) D9 (pfp (n - 1) M d D9 T (n - 1) 0) (n - 1)) ∧ ∀ q, (q < po ∨ po + 10 < q) → ct1 q = ct q)) args s 0 0 (rm_A ad ct s.heap.size)) (F0 m 27 ls []) := by
    intro k
    induction k with
    | zero => intro c9 hc9 hk; exact absurd hk (Nat.not_lt_zero _)
    | succ k ih_LP =>
      intro c9 hc9 hk ctv_6 H locs hv0_6 _ hv1_6 _ hv2_6 _ hofv_6 _ hW hS ls hl
      refine lv_iload hx hb dX3_split_27 (lv_at hl 0 rfl) ?_
      refine lv_aload_n hx hb dX3_split_29 rfl (lv_at hl 1 rfl) ?_
      refine rm_get (ci := 3) (v := .int (jI (((n - 1) : Nat) : Int))) (C := RX3) (T := TX3) (N := 5) hx hb hts (by decide +kernel) hown hK hW hv0_6 rfl 2 (by decide) (hts (.fieldLink RX3 20 "GrainYard$Parts" "size" "I") (by decide +kernel)) (fun _ h9 => h9) rfl dX3_split_30 ?_
      refine rm_icmp_ge (tgt := 72) hx hb ⟨by omega, by omega⟩ ⟨by omega, by omega⟩ dX3_split_33 (by decide) (fun hc_7 => ?_) (fun hc_7 => ?_)
      · skip
        have hc9 : n - 1 = c9 := by omega
        refine lv_aload_n hx hb dX3_split_72 rfl (lv_at hl 1 rfl) ?_
        refine rm_callv (va_runV (As := []) (rest := []) ⟨hx, hb, hml, hown, hts⟩ (c_X3_makeChain l D ty ad ctv_6 H.size po (n - 1) on D9 (rdd (n - 1) D9 F9 r c9) (spl (n - 1) D9 F9 c9) (by rw [← hc9]; exact rdd_dv (by omega)) (by omega) (by omega) (by omega) ⟨hv0_6, ((hofv_6 (po + 1) (by omega) (by omega) (by omega)).trans hP.2.1), hv1_6, hv2_6⟩) (cwV 0 hts gX3_split_X3_makeChain rfl rfl rfl (by decide +kernel) ⟨Nat.le_of_ble_eq_true rfl, Nat.le_of_ble_eq_true rfl⟩) (rm_preV hK hNw hW hv0_6 rfl) rfl rfl hl.1 rfl (lv_room (Nat.le_of_ble_eq_true rfl)) dX3_split_73 ⟨Nat.zero_le _, Nat.zero_le _⟩) hW hS hA (fun ct_8 H locs hq_8 hW hS hz_8 => ?_)
        obtain ⟨R9, hR9⟩ : ∃ R9, R9 = mci (n - 1) (rdd (n - 1) D9 F9 r c9) (n - 1) := ⟨_, rfl⟩
        rw [← hR9] at hq_8
        have ho_8 : ∀ q, q ≠ (po + 10) → ct_8 q = ctv_6 q := hq_8.2
        have hof_8 : ∀ q, q ≠ po → q ≠ (po + 10) → (q < po + 1 + 1 ∨ po + 1 + 1 + 7 < q) → ct_8 q = ct q := fun q h0_8 h1_8 h2_8 => (ho_8 q h1_8).trans (hofv_6 q h0_8 h1_8 h2_8)
        have hm0_8 : ct_8 po = some (.inr (3, [.ref (ad (po + 1)), .ref (ad (po + 10)), .int (jI (((n - 1) : Nat) : Int)), .int (jI ((on : Nat) : Int)), .long (jL D9)]) : va_E) := (ho_8 po (by omega)).trans hv0_6
        have hm1_8 : ct_8 (po + 10) = some (rl ty 8 R9) := hq_8.1
        have hm2_8 : ∀ i9, i9 < 8 → ct_8 (po + 1 + 1 + i9) = some (rl ty 8 ((spl (n - 1) D9 F9 c9) i9)) := fun i9 hi9 => (ho_8 _ (by omega)).trans (hv2_6 i9 hi9)
        have hdv : rdv (n - 1) D9 R9 := by rw [hR9]; exact mci_dv (by rw [← hc9]; exact rdd_dv (by omega)) _ (Nat.le_refl _)
        refine lv_aload_n hx hb dX3_split_76 rfl (lv_at hl 1 rfl) ?_
        refine lv_iconst (v := jI 0) hx hb dX3_split_77 rfl ?_
        refine rm_put (ci := 3) (v := .int (jI 0)) (fty := .int) (C := RX3) (T := TX3) (N := 5) hx hb hts (by decide +kernel) tyX3 tyX3_ok nmX3 hown hK hW hS hm0_8 rfl 3 (by decide) (hts (.fieldLink RX3 24 "GrainYard$Parts" "ones" "I") (by decide +kernel)) (fun _ h9 => h9) rfl (by decide +kernel) rfl rfl (Nat.le_of_ble_eq_true rfl) dX3_split_78 (fun H locs ct_9 hs_9 ho_9 hW hS hz_9 => ?_)
        have hs_9 : ct_9 po = some (.inr (3, [.ref (ad (po + 1)), .ref (ad (po + 10)), .int (jI (((n - 1) : Nat) : Int)), .int (jI 0), .long (jL D9)]) : va_E) := hs_9
        have hof_9 : ∀ q, q ≠ po → q ≠ (po + 10) → (q < po + 1 + 1 ∨ po + 1 + 1 + 7 < q) → ct_9 q = ct q := fun q h0_9 h1_9 h2_9 => (ho_9 q h0_9).trans (hof_8 q h0_9 h1_9 h2_9)
        have hm1_9 : ct_9 (po + 10) = some (rl ty 8 R9) := (ho_9 (po + 10) (by omega)).trans hm1_8
        have hm2_9 : ∀ i9, i9 < 8 → ct_9 (po + 1 + 1 + i9) = some (rl ty 8 ((spl (n - 1) D9 F9 c9) i9)) := fun i9 hi9 => (ho_9 _ (by omega)).trans (hm2_8 i9 hi9)
        refine lv_iconst (v := jI 0) hx hb dX3_split_81 rfl ?_
        refine lv_istore (lv' := [(4, .int (jI 0)), (0, .ref (ad po)), (1, .ref (ad yr))]) hx hb dX3_split_82 hl (by decide) rfl (fun ls hl => ?_)
        have ONES : ∀ (k : Nat) (j9 : Nat) (hj9 : j9 ≤ n - 1), n - j9 < k → ∀ (ctv : rm_C) (H : Heap) (locs : List Loc), (ctv po = some (.inr (3, [.ref (ad (po + 1)), .ref (ad (po + 10)), .int (jI (((n - 1) : Nat) : Int)), .int (jI (((ons R9 j9) : Nat) : Int)), .long (jL D9)]) : va_E)) → ∀ (_ : True), (ctv (po + 10) = some (rl ty 8 R9)) → ∀ (_ : True), (∀ i9, i9 < 8 → ctv (po + 1 + 1 + i9) = some (rl ty 8 ((spl (n - 1) D9 F9 c9) i9))) → ∀ (_ : True), (∀ q, q ≠ po → q ≠ (po + 10) → (q < po + 1 + 1 ∨ po + 1 + 1 + 7 < q) → ctv q = ct q) → ∀ (_ : True), rm_W D ad ctv (rm_A ad ct s.heap.size) H → va_S (rm_A ad ct s.heap.size) s.heap H locs → ∀ ls : Array Slot, lv_has ls 5 [(4, .int (jI ((j9 : Nat) : Int))), (0, .ref (ad po)), (1, .ref (ad yr))] → W p l e (headSpec wsX3_split ({ frames := 4, cells := 0, slots := 0, locals := 98 })).room s m args below meth c H locs 0 0 (MQ below (rm_Qi D ad ct s.heap.size (fun z ct1 => ∃ R9 : Nat → Int, R9 = (mci (n - 1) (rdd (n - 1) D9 (pfp (n - 1) M d D9 T (n - 1) 0) r (n - 1)) (n - 1)) ∧ z = ((n - 1 : Nat) : Int) - ((ons R9 (n - 1) : Nat) : Int) ∧ PartsAt ty ad ct1 po (n - 1) (ons R9 (n - 1)) D9 R9 (spl (n - 1) D9 (pfp (n - 1) M d D9 T (n - 1) 0) (n - 1)) ∧ ∀ q, (q < po ∨ po + 10 < q) → ct1 q = ct q)) args s 0 0 (rm_A ad ct s.heap.size)) (F0 m 84 ls []) := by
          intro k
          induction k with
          | zero => intro j9 hj9 hk; exact absurd hk (Nat.not_lt_zero _)
          | succ k ih_ONES =>
            intro j9 hj9 hk ctv_10 H locs hv0_10 _ hv1_10 _ hv2_10 _ hofv_10 _ hW hS ls hl
            refine lv_iload hx hb dX3_split_84 (lv_at hl 0 rfl) ?_
            refine lv_aload_n hx hb dX3_split_86 rfl (lv_at hl 1 rfl) ?_
            refine rm_get (ci := 3) (v := .int (jI (((n - 1) : Nat) : Int))) (C := RX3) (T := TX3) (N := 5) hx hb hts (by decide +kernel) hown hK hW hv0_10 rfl 2 (by decide) (hts (.fieldLink RX3 20 "GrainYard$Parts" "size" "I") (by decide +kernel)) (fun _ h9 => h9) rfl dX3_split_87 ?_
            refine rm_icmp_ge (tgt := 125) hx hb ⟨by omega, by omega⟩ ⟨by omega, by omega⟩ dX3_split_90 (by decide) (fun hc_11 => ?_) (fun hc_11 => ?_)
            · skip
              have hi9 : j9 = n - 1 := by omega
              have hon9 : ons R9 (n - 1) = ons R9 j9 := by rw [hi9]
              have hk1 : ctv_10 po = some (.inr (3, [.ref (ad (po + 1)), .ref (ad (po + 10)), .int (jI (((n - 1) : Nat) : Int)), .int (jI (((ons R9 (n - 1)) : Nat) : Int)), .long (jL D9)]) : va_E) := by rw [hon9]; exact hv0_10
              have hk2 : ∀ i9, i9 < 8 → ctv_10 (po + 1 + 1 + i9) = some (rl ty 8 ((spl (n - 1) D9 (pfp (n - 1) M d D9 T (n - 1) 0) (n - 1)) i9)) := fun i9 hi => by have h := hv2_10 i9 hi; rw [h, ← hF9, hc9]
              refine lv_aload_n hx hb dX3_split_125 rfl (lv_at hl 1 rfl) ?_
              refine rm_get (ci := 3) (v := .int (jI (((n - 1) : Nat) : Int))) (C := RX3) (T := TX3) (N := 5) hx hb hts (by decide +kernel) hown hK hW hk1 rfl 2 (by decide) (hts (.fieldLink RX3 20 "GrainYard$Parts" "size" "I") (by decide +kernel)) (fun _ h9 => h9) rfl dX3_split_126 ?_
              refine lv_aload_n hx hb dX3_split_129 rfl (lv_at hl 1 rfl) ?_
              refine rm_get (ci := 3) (v := .int (jI (((ons R9 (n - 1)) : Nat) : Int))) (C := RX3) (T := TX3) (N := 5) hx hb hts (by decide +kernel) hown hK hW hk1 rfl 3 (by decide) (hts (.fieldLink RX3 24 "GrainYard$Parts" "ones" "I") (by decide +kernel)) (fun _ h9 => h9) rfl dX3_split_130 ?_
              refine rm_isub hx hb dX3_split_133 ?_
              exact W.iret hx hb hr (fun t ht hw => ⟨⟨_, (((((n - 1) : Nat) : Int) - (((ons R9 (n - 1)) : Nat) : Int)), ctv_10), rfl, ⟨rfl, ⟨R9, by rw [hR9, ← hF9, hc9], rfl, ⟨hk1, ((hofv_10 (po + 1) (by omega) (by omega) (by omega)).trans hP.2.1), hv1_10, hk2⟩, fun q hq => hofv_10 q (by omega) (by omega) (by omega)⟩⟩, by show rm_W D ad _ _ t.heap; rw [ht]; exact hW⟩, hS.F ht⟩) hS.2.2 dX3_split_134
            · skip
              have hr1 := rdv_le (by omega) hdv (show j9 < n - 1 by omega)
              refine lv_aload_n hx hb dX3_split_93 rfl (lv_at hl 1 rfl) ?_
              refine lv_dup hx hb dX3_split_94 rfl ?_
              refine rm_get (ci := 3) (v := .int (jI (((ons R9 j9) : Nat) : Int))) (C := RX3) (T := TX3) (N := 5) hx hb hts (by decide +kernel) hown hK hW hv0_10 rfl 3 (by decide) (hts (.fieldLink RX3 24 "GrainYard$Parts" "ones" "I") (by decide +kernel)) (fun _ h9 => h9) rfl dX3_split_95 ?_
              refine lv_aload_n hx hb dX3_split_98 rfl (lv_at hl 1 rfl) ?_
              refine rm_get (ci := 3) (v := .ref (ad (po + 10))) (C := RX3) (T := TX3) (N := 5) hx hb hts (by decide +kernel) hown hK hW hv0_10 rfl 1 (by decide) (hts (.fieldLink RX3 16 "GrainYard$Parts" "rounds" "[J") (by decide +kernel)) (fun _ h9 => h9) rfl dX3_split_99 ?_
              refine lv_iload hx hb dX3_split_102 (lv_at hl 0 rfl) ?_
              refine rm_lald hx hb hK hW (f := R9) hv1_10 j9 rfl (by omega) (by omega) dX3_split_104 ?_
              refine lv_lconst (v := jL 1) hx hb dX3_split_105 rfl ?_
              refine rm_lcmp hx hb ⟨by omega, by omega⟩ ⟨by omega, by omega⟩ dX3_split_106 ?_
              refine rm_if_ne (tgt := 114) hx hb (lcv_rng _ _) dX3_split_107 (by decide) (fun hc_12 => ?_) (fun hc_12 => ?_)
              · skip
                have hc_12 : (R9 j9) ≠ 1 := fun hq => hc_12 (lcv_eq.mpr hq)
                refine lv_iconst (v := jI 0) hx hb dX3_split_114 rfl ?_
                refine rm_iadd hx hb dX3_split_115 ?_
                refine rm_put (ci := 3) (v := .int (jI ((((ons R9 j9) : Nat) : Int) + 0))) (fty := .int) (C := RX3) (T := TX3) (N := 5) hx hb hts (by decide +kernel) tyX3 tyX3_ok nmX3 hown hK hW hS hv0_10 rfl 3 (by decide) (hts (.fieldLink RX3 24 "GrainYard$Parts" "ones" "I") (by decide +kernel)) (fun _ h9 => h9) rfl (by decide +kernel) rfl rfl (Nat.le_of_ble_eq_true rfl) dX3_split_116 (fun H locs ct_13 hs_13 ho_13 hW hS hz_13 => ?_)
                have hs_13 : ct_13 po = some (.inr (3, [.ref (ad (po + 1)), .ref (ad (po + 10)), .int (jI (((n - 1) : Nat) : Int)), .int (jI ((((ons R9 j9) : Nat) : Int) + 0)), .long (jL D9)]) : va_E) := hs_13
                have hof_13 : ∀ q, q ≠ po → q ≠ (po + 10) → (q < po + 1 + 1 ∨ po + 1 + 1 + 7 < q) → ct_13 q = ct q := fun q h0_13 h1_13 h2_13 => (ho_13 q h0_13).trans (hofv_10 q h0_13 h1_13 h2_13)
                have hm1_13 : ct_13 (po + 10) = some (rl ty 8 R9) := (ho_13 (po + 10) (by omega)).trans hv1_10
                have hm2_13 : ∀ i9, i9 < 8 → ct_13 (po + 1 + 1 + i9) = some (rl ty 8 ((spl (n - 1) D9 F9 c9) i9)) := fun i9 hi9 => (ho_13 _ (by omega)).trans (hv2_10 i9 hi9)
                have hos : ((ons R9 (j9 + 1) : Nat) : Int) = ((ons R9 j9 : Nat) : Int) + 0 := by show ((ons R9 j9 + (if R9 j9 = 1 then 1 else 0) : Nat) : Int) = _; rw [if_neg (by omega)]; rfl
                have hk1 : ct_13 po = some (.inr (3, [.ref (ad (po + 1)), .ref (ad (po + 10)), .int (jI (((n - 1) : Nat) : Int)), .int (jI (((ons R9 (j9 + 1)) : Nat) : Int)), .long (jL D9)]) : va_E) := by rw [hos]; exact hs_13
                refine lv_iinc (v := jI (((j9 : Nat) : Int) + 1)) (lv' := [(4, .int (jI (((j9 : Nat) : Int) + 1))), (0, .ref (ad po)), (1, .ref (ad yr))]) hx hb dX3_split_119 hl (k := 0) rfl (jI_add _ _) (by decide) rfl (fun ls hl => ?_)
                refine lv_goto (tgt := 84) hx hb dX3_split_122 (by decide) ?_
                exact ih_ONES (j9 + 1) (by omega) (by omega) ct_13 _ _ hk1 trivial hm1_13 trivial hm2_13 trivial hof_13 trivial hW hS ls (lv_sub hl [0, 1, 2] rfl)
              · skip
                have hc_12 := lcv_eq.mp hc_12
                refine lv_iconst (v := jI 1) hx hb dX3_split_110 rfl ?_
                refine lv_goto (tgt := 115) hx hb dX3_split_111 (by decide) ?_
                refine rm_iadd hx hb dX3_split_115 ?_
                refine rm_put (ci := 3) (v := .int (jI ((((ons R9 j9) : Nat) : Int) + 1))) (fty := .int) (C := RX3) (T := TX3) (N := 5) hx hb hts (by decide +kernel) tyX3 tyX3_ok nmX3 hown hK hW hS hv0_10 rfl 3 (by decide) (hts (.fieldLink RX3 24 "GrainYard$Parts" "ones" "I") (by decide +kernel)) (fun _ h9 => h9) rfl (by decide +kernel) rfl rfl (Nat.le_of_ble_eq_true rfl) dX3_split_116 (fun H locs ct_14 hs_14 ho_14 hW hS hz_14 => ?_)
                have hs_14 : ct_14 po = some (.inr (3, [.ref (ad (po + 1)), .ref (ad (po + 10)), .int (jI (((n - 1) : Nat) : Int)), .int (jI ((((ons R9 j9) : Nat) : Int) + 1)), .long (jL D9)]) : va_E) := hs_14
                have hof_14 : ∀ q, q ≠ po → q ≠ (po + 10) → (q < po + 1 + 1 ∨ po + 1 + 1 + 7 < q) → ct_14 q = ct q := fun q h0_14 h1_14 h2_14 => (ho_14 q h0_14).trans (hofv_10 q h0_14 h1_14 h2_14)
                have hm1_14 : ct_14 (po + 10) = some (rl ty 8 R9) := (ho_14 (po + 10) (by omega)).trans hv1_10
                have hm2_14 : ∀ i9, i9 < 8 → ct_14 (po + 1 + 1 + i9) = some (rl ty 8 ((spl (n - 1) D9 F9 c9) i9)) := fun i9 hi9 => (ho_14 _ (by omega)).trans (hv2_10 i9 hi9)
                have hos : ((ons R9 (j9 + 1) : Nat) : Int) = ((ons R9 j9 : Nat) : Int) + 1 := by show ((ons R9 j9 + (if R9 j9 = 1 then 1 else 0) : Nat) : Int) = _; rw [if_pos (by omega)]; rfl
                have hk1 : ct_14 po = some (.inr (3, [.ref (ad (po + 1)), .ref (ad (po + 10)), .int (jI (((n - 1) : Nat) : Int)), .int (jI (((ons R9 (j9 + 1)) : Nat) : Int)), .long (jL D9)]) : va_E) := by rw [hos]; exact hs_14
                refine lv_iinc (v := jI (((j9 : Nat) : Int) + 1)) (lv' := [(4, .int (jI (((j9 : Nat) : Int) + 1))), (0, .ref (ad po)), (1, .ref (ad yr))]) hx hb dX3_split_119 hl (k := 0) rfl (jI_add _ _) (by decide) rfl (fun ls hl => ?_)
                refine lv_goto (tgt := 84) hx hb dX3_split_122 (by decide) ?_
                exact ih_ONES (j9 + 1) (by omega) (by omega) ct_14 _ _ hk1 trivial hm1_14 trivial hm2_14 trivial hof_14 trivial hW hS ls (lv_sub hl [0, 1, 2] rfl)
        exact ONES (n + 1) (0) (by omega) (by omega) ct_9 _ _ hs_9 trivial hm1_9 trivial hm2_9 trivial hof_9 trivial hW hS ls (lv_sub hl [0, 1, 2] rfl)
      · skip
        have hRS : inr_ (n - 1) D9 (spl (n - 1) D9 F9 c9) := spl_rng (by omega) hRF c9 (by omega)
        have hRS2 := spl_rng (by omega) hRF (c9 + 1) (by omega) c9 c9 (by omega) (by omega)
        refine lv_aload_n hx hb dX3_split_36 rfl (lv_at hl 1 rfl) ?_
        refine lv_iload hx hb dX3_split_37 (lv_at hl 0 rfl) ?_
        refine rm_callv (va_runV (As := [.int (jI ((c9 : Nat) : Int))]) (rest := []) ⟨hx, hb, hml, hown, hts⟩ (c_X3_clearCross l D ty ad ctv_6 H.size po (n - 1) on D9 (rdd (n - 1) D9 F9 r c9) (spl (n - 1) D9 F9 c9) c9 (by omega) hRS (by omega) (by omega) (by omega) ⟨hv0_6, ((hofv_6 (po + 1) (by omega) (by omega) (by omega)).trans hP.2.1), hv1_6, hv2_6⟩) (cwV 1 hts gX3_split_X3_clearCross rfl rfl rfl (by decide +kernel) ⟨Nat.le_of_ble_eq_true rfl, Nat.le_of_ble_eq_true rfl⟩) (rm_preV hK hNw hW hv0_6 rfl) rfl rfl hl.1 rfl (lv_room (Nat.le_of_ble_eq_true rfl)) dX3_split_39 ⟨Nat.zero_le _, Nat.zero_le _⟩) hW hS hA (fun ct_15 H locs hq_15 hW hS hz_15 => ?_)
        have ho_15 : ∀ q, (q < po + 1 + 1 ∨ po + 1 + 1 + 7 < q) → ct_15 q = ctv_6 q := hq_15.2
        have hof_15 : ∀ q, q ≠ po → q ≠ (po + 10) → (q < po + 1 + 1 ∨ po + 1 + 1 + 7 < q) → ct_15 q = ct q := fun q h0_15 h1_15 h2_15 => (ho_15 q h2_15).trans (hofv_6 q h0_15 h1_15 h2_15)
        have hm0_15 : ct_15 po = some (.inr (3, [.ref (ad (po + 1)), .ref (ad (po + 10)), .int (jI (((n - 1) : Nat) : Int)), .int (jI ((on : Nat) : Int)), .long (jL D9)]) : va_E) := (ho_15 po (by omega)).trans hv0_6
        have hm1_15 : ct_15 (po + 10) = some (rl ty 8 (rdd (n - 1) D9 F9 r c9)) := (ho_15 (po + 10) (by omega)).trans hv1_6
        have hm2_15 : ∀ i9, i9 < 8 → ct_15 (po + 1 + 1 + i9) = some (rl ty 8 ((spl (n - 1) D9 F9 (c9 + 1)) i9)) := hq_15.1
        refine lv_aload_n hx hb dX3_split_42 rfl (lv_at hl 1 rfl) ?_
        refine rm_get (ci := 3) (v := .ref (ad (po + 10))) (C := RX3) (T := TX3) (N := 5) hx hb hts (by decide +kernel) hown hK hW hm0_15 rfl 1 (by decide) (hts (.fieldLink RX3 16 "GrainYard$Parts" "rounds" "[J") (by decide +kernel)) (fun _ h9 => h9) rfl dX3_split_43 ?_
        refine lv_iload hx hb dX3_split_46 (lv_at hl 0 rfl) ?_
        refine lv_aload_n hx hb dX3_split_48 rfl (lv_at hl 1 rfl) ?_
        refine rm_get (ci := 3) (v := .ref (ad (po + 1))) (C := RX3) (T := TX3) (N := 5) hx hb hts (by decide +kernel) hown hK hW hm0_15 rfl 0 (by decide) (hts (.fieldLink RX3 11 "GrainYard$Parts" "table" "[[J") (by decide +kernel)) (fun _ h9 => h9) rfl dX3_split_49 ?_
        refine lv_iload hx hb dX3_split_52 (lv_at hl 0 rfl) ?_
        refine rm_aald hx hb hK hW (f := (fun i => if i < 8 then some (ad (po + 1 + 1 + i)) else none)) ((hof_15 (po + 1) (by omega) (by omega) (by omega)).trans hP.2.1) rfl rfl c9 rfl (by omega) (by omega) dX3_split_54 (congrArg va_rf (if_pos (by omega))) ?_
        refine lv_iload hx hb dX3_split_55 (lv_at hl 0 rfl) ?_
        refine rm_lald hx hb hK hW (f := ((spl (n - 1) D9 F9 (c9 + 1)) c9)) (hm2_15 c9 (by omega)) c9 rfl (by omega) (by omega) dX3_split_57 ?_
        refine lv_aload_n hx hb dX3_split_58 rfl (lv_at hl 1 rfl) ?_
        refine rm_get (ci := 3) (v := .long (jL D9)) (C := RX3) (T := TX3) (N := 5) hx hb hts (by decide +kernel) hown hK hW hm0_15 rfl 4 (by decide) (hts (.fieldLink RX3 27 "GrainYard$Parts" "trees" "J") (by decide +kernel)) (fun _ h9 => h9) rfl dX3_split_59 ?_
        refine rm_calll (va_runSN (As := [.long (jL (((spl (n - 1) D9 F9 (c9 + 1)) c9) c9)), .long (jL D9)]) (rest := [.int (jI ((c9 : Nat) : Int)), .ref (ad (po + 10))]) ⟨hx, hb, hml, hown, hts⟩ (c_X5_commonDivisor l D ty ad ct_15 H.size (spl (n - 1) D9 F9 (c9 + 1) c9 c9) D9 ⟨by omega, by omega⟩ ⟨by omega, by omega⟩) ⟨va_cnB (host := RX5) 2 hts gX3_split_X5_commonDivisor_n50 rfl rfl rfl hNw.2.1 (hts (.initialized RX5) (by decide +kernel)) (by decide +kernel) ⟨Nat.le_of_ble_eq_true rfl, Nat.le_of_ble_eq_true rfl⟩, hts (.static yX5_commonDivisor) (by decide +kernel), trivial⟩ (rm_preS hK hNw hW) rfl rfl hl.1 rfl (lv_room (Nat.le_of_ble_eq_true rfl)) dX3_split_62 ⟨Nat.zero_le _, Nat.zero_le _⟩) hW hS hA (fun z_16 ct_16 H locs hq_16 hW hS => ?_)
        obtain ⟨hz, hcc_16⟩ := hq_16
        have hcc_16 := hcc_16.symm
        subst hcc_16
        rw [eus_100 (by omega)] at hz
        subst hz
        refine rm_last hx hb hK hW hS (f := (rdd (n - 1) D9 F9 r c9)) hm1_15 c9 rfl (by omega) (by omega) dX3_split_65 (fun H locs ct_17 hs_17 ho_17 hW hS hz_17 => ?_)
        have hof_17 : ∀ q, q ≠ po → q ≠ (po + 10) → (q < po + 1 + 1 ∨ po + 1 + 1 + 7 < q) → ct_17 q = ct q := fun q h0_17 h1_17 h2_17 => (ho_17 q h1_17).trans (hof_15 q h0_17 h1_17 h2_17)
        have hm0_17 : ct_17 po = some (.inr (3, [.ref (ad (po + 1)), .ref (ad (po + 10)), .int (jI (((n - 1) : Nat) : Int)), .int (jI ((on : Nat) : Int)), .long (jL D9)]) : va_E) := (ho_17 po (by omega)).trans hm0_15
        have hm2_17 : ∀ i9, i9 < 8 → ct_17 (po + 1 + 1 + i9) = some (rl ty 8 ((spl (n - 1) D9 F9 (c9 + 1)) i9)) := fun i9 hi9 => (ho_17 _ (by omega)).trans (hm2_15 i9 hi9)
        have hk4 : ct_17 (po + 10) = some (rl ty 8 (rdd (n - 1) D9 F9 r (c9 + 1))) := by rw [← rdd_s]; exact hs_17
        refine lv_iinc (v := jI (((c9 : Nat) : Int) + 1)) (lv' := [(4, .int (jI (((c9 : Nat) : Int) + 1))), (0, .ref (ad po)), (1, .ref (ad yr))]) hx hb dX3_split_66 hl (k := 0) rfl (jI_add _ _) (by decide) rfl (fun ls hl => ?_)
        refine lv_goto (tgt := 27) hx hb dX3_split_69 (by decide) ?_
        exact ih_LP (c9 + 1) (by omega) (by omega) ct_17 _ _ hm0_17 trivial hk4 trivial hm2_17 trivial hof_17 trivial hW hS ls (lv_sub hl [0, 1, 2] rfl)
  exact LP (n + 1) (0) (by omega) (by omega) ct_3 _ _ hm0_3 trivial hR0 trivial hk_5 trivial hof_3 trivial hW hS ls (lv_sub hl [0, 1, 2] rfl)
