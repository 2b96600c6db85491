set_option maxHeartbeats 4000000 in
set_option maxRecDepth 100000 in
theorem c_X3_fillTable (l : Launch) (D : va_G) (ty : Nat → ClassId) (ad : Nat → Nat) (ct : rm_C) (sz : Nat) (yr n : Nat) (M : Nat → Nat → Int) (d : Nat → Int) (u : Int) (po kz on : Nat) (tr : Int) (r : Nat → Int) (T : Nat → Nat → Int) (hn : kz + 1 ≤ n ∧ n ≤ 8) (hM : ∀ i j, 0 ≤ M i j ∧ M i j ≤ 3) (hd0 : ∀ i, i < 8 → 0 ≤ d i ∧ d i ≤ 21) (hY : YardAt ty ad ct yr n M d u) (ht : 0 < tr) (ht9 : tr ≤ 2147483648) (hkz : kz ≤ 8) (hP : PartsAt ty ad ct po kz on tr r T) (hpo : po + 10 < yr ∨ yr + 10 < po) : Met l yX3_fillTable wsX3_fillTable ({ frames := 2, cells := 0, slots := 0, locals := 47 }) (rm_P D ty ad ct sz [.ref (ad po), .ref (ad yr)]) (rm_Qv D ad ct sz 0 (fun ct1 => (∀ i9, i9 < 8 → ct1 (po + 1 + 1 + i9) = some (rl ty 8 ((pfp kz M d tr T kz 0) i9))) ∧ ∀ q, (q < po + 1 + 1 ∨ po + 1 + 1 + 7 < q) → ct1 q = ct q)) 0 0 (rm_A ad ct sz) := by
  refine Met.ofW (cc := cX3_fillTable) (maxL := 6) (ret := none) (by decide) rfl ?_
  intro p e s m args below meth c s₁ B hml hv
  obtain ⟨hargs, hsz, hW, hK, hNw⟩ := hv
  have hx := B.exec
  have hb := B.bytes
  have hr := B.returns
  have hts := atoms_spec (ws := wsX3_fillTable) B.pre
  have hown : s.vm.findClass RX3 = some m.cls := findClass_of_methodNamed B.named
  have hlocks := B.notSynchronized
  subst hsz
  have hW := hW.own (sz := s.heap.size)
  have hA : ∀ q : Nat, s.heap.size ≤ q → rm_A ad ct s.heap.size q := fun q h => Or.inr h
  have hS : va_S (rm_A ad ct s.heap.size) s.heap s.heap [] := va_S.rf
  have hent : entryFrame m args 6 = entryFrame m ([.ref (ad po), .ref (ad yr)] : List Value).toArray 6 := by rw [hargs]
  have hl := lv_entry ([.ref (ad po), .ref (ad yr)]) (n := 6) (Nat.le_of_ble_eq_true rfl)
  rw [hent, lg_entry_eq]
  generalize (lg_sl ([.ref (ad po), .ref (ad yr)]) ++ List.replicate (6 - (lg_sl ([.ref (ad po), .ref (ad yr)])).length) Slot.unset).toArray = ls at hl ⊢
  have hl : lv_has ls 6 [(0, .ref (ad po)), (1, .ref (ad yr))] := hl
  have hTb : ∀ i9, i9 < 8 → ct (po + 1 + 1 + i9) = some (rl ty 8 (T i9)) := fun i9 hi9 => hP.2.2.2 i9 hi9
  refine lv_iconst (v := jI 0) hx hb dX3_fillTable_0 rfl ?_
  refine lv_istore_n (lv' := [(2, .int (jI 0)), (0, .ref (ad po)), (1, .ref (ad yr))]) hx hb dX3_fillTable_1 rfl hl (by decide) rfl (fun ls hl => ?_)
  have hk_1 : ∀ i9, i9 < 8 → ct (po + 1 + 1 + i9) = some (rl ty 8 ((pfp kz M d tr T 0 0) i9)) := by rw [← (show T = (pfp kz M d tr T 0 0) from pfp_0 kz M d tr T)]; exact hTb
  have OUT : ∀ (k : Nat) (r9 : Nat) (hr9 : r9 ≤ kz), kz - r9 < k → ∀ (ctv : rm_C) (H : Heap) (locs : List Loc), (∀ i9, i9 < 8 → ctv (po + 1 + 1 + i9) = some (rl ty 8 ((pfp kz M d tr T r9 0) i9))) → ∀ (_ : True), (∀ q, (q < po + 1 + 1 ∨ po + 1 + 1 + 7 < q) → ctv q = ct q) → ∀ (_ : True), rm_W D ad ctv (rm_A ad ct s.heap.size) H → va_S (rm_A ad ct s.heap.size) s.heap H locs → ∀ ls : Array Slot, lv_has ls 6 [(2, .int (jI ((r9 : Nat) : Int))), (0, .ref (ad po)), (1, .ref (ad yr))] → W p l e (headSpec wsX3_fillTable ({ frames := 2, cells := 0, slots := 0, locals := 47 })).room s m args below meth c H locs 0 0 (MQ below (rm_Qv D ad ct s.heap.size 0 (fun ct1 => (∀ i9, i9 < 8 → ct1 (po + 1 + 1 + i9) = some (rl ty 8 ((pfp kz M d tr T kz 0) i9))) ∧ ∀ q, (q < po + 1 + 1 ∨ po + 1 + 1 + 7 < q) → ct1 q = ct q)) args s 0 0 (rm_A ad ct s.heap.size)) (F0 m 2 ls []) := by
    intro k
    induction k with
    | zero => intro r9 hr9 hk; exact absurd hk (Nat.not_lt_zero _)
    | succ k ih_OUT =>
      intro r9 hr9 hk ctv_2 H locs hv0_2 _ hofv_2 _ hW hS ls hl
      refine lv_iload_n hx hb dX3_fillTable_2 rfl (lv_at hl 0 rfl) ?_
      refine lv_aload_n hx hb dX3_fillTable_3 rfl (lv_at hl 1 rfl) ?_
      refine rm_get (ci := 3) (v := .int (jI ((kz : Nat) : Int))) (C := RX3) (T := TX3) (N := 5) hx hb hts (by decide +kernel) hown hK hW ((hofv_2 po (by omega)).trans hP.1) rfl 2 (by decide) (hts (.fieldLink RX3 20 "GrainYard$Parts" "size" "I") (by decide +kernel)) (fun _ h9 => h9) rfl dX3_fillTable_4 ?_
      refine rm_icmp_ge (tgt := 79) hx hb ⟨by omega, by omega⟩ ⟨by omega, by omega⟩ dX3_fillTable_7 (by decide) (fun hc_3 => ?_) (fun hc_3 => ?_)
      · skip
        have hi : kz = r9 := by omega
        subst hi
        exact W.vret hx hb hr (fun t ht hw => ⟨⟨ctv_2, rfl, ⟨hv0_2, fun q hq => hofv_2 q hq⟩, by show rm_W D ad _ _ t.heap; rw [ht]; exact hW, Or.inl rfl⟩, hS.F ht⟩) hS.2.2 dX3_fillTable_79
      · skip
        refine lv_iconst (v := jI 0) hx hb dX3_fillTable_10 rfl ?_
        refine lv_istore_n (lv' := [(3, .int (jI 0)), (2, .int (jI ((r9 : Nat) : Int))), (0, .ref (ad po)), (1, .ref (ad yr))]) hx hb dX3_fillTable_11 rfl hl (by decide) rfl (fun ls hl => ?_)
        have INN : ∀ (k : Nat) (j9 : Nat) (hj9 : j9 ≤ kz), kz - j9 < k → ∀ (ctv : rm_C) (H : Heap) (locs : List Loc), (∀ i9, i9 < 8 → ctv (po + 1 + 1 + i9) = some (rl ty 8 ((pfp kz M d tr T r9 j9) i9))) → ∀ (_ : True), (∀ q, (q < po + 1 + 1 ∨ po + 1 + 1 + 7 < q) → ctv q = ct q) → ∀ (_ : True), rm_W D ad ctv (rm_A ad ct s.heap.size) H → va_S (rm_A ad ct s.heap.size) s.heap H locs → ∀ ls : Array Slot, lv_has ls 6 [(3, .int (jI ((j9 : Nat) : Int))), (2, .int (jI ((r9 : Nat) : Int))), (0, .ref (ad po)), (1, .ref (ad yr))] → W p l e (headSpec wsX3_fillTable ({ frames := 2, cells := 0, slots := 0, locals := 47 })).room s m args below meth c H locs 0 0 (MQ below (rm_Qv D ad ct s.heap.size 0 (fun ct1 => (∀ i9, i9 < 8 → ct1 (po + 1 + 1 + i9) = some (rl ty 8 ((pfp kz M d tr T kz 0) i9))) ∧ ∀ q, (q < po + 1 + 1 ∨ po + 1 + 1 + 7 < q) → ct1 q = ct q)) args s 0 0 (rm_A ad ct s.heap.size)) (F0 m 12 ls []) := by
          intro k
          induction k with
          | zero => intro j9 hj9 hk; exact absurd hk (Nat.not_lt_zero _)
          | succ k ih_INN =>
            intro j9 hj9 hk ctv_4 H locs hv0_4 _ hofv_4 _ hW hS ls hl
            refine lv_iload_n hx hb dX3_fillTable_12 rfl (lv_at hl 0 rfl) ?_
            refine lv_aload_n hx hb dX3_fillTable_13 rfl (lv_at hl 2 rfl) ?_
            refine rm_get (ci := 3) (v := .int (jI ((kz : Nat) : Int))) (C := RX3) (T := TX3) (N := 5) hx hb hts (by decide +kernel) hown hK hW ((hofv_4 po (by omega)).trans hP.1) rfl 2 (by decide) (hts (.fieldLink RX3 20 "GrainYard$Parts" "size" "I") (by decide +kernel)) (fun _ h9 => h9) rfl dX3_fillTable_14 ?_
            refine rm_icmp_ge (tgt := 73) hx hb ⟨by omega, by omega⟩ ⟨by omega, by omega⟩ dX3_fillTable_17 (by decide) (fun hc_5 => ?_) (fun hc_5 => ?_)
            · skip
              have hj : kz = j9 := by omega
              have hk_6 : ∀ i9, i9 < 8 → ctv_4 (po + 1 + 1 + i9) = some (rl ty 8 ((pfp kz M d tr T (r9 + 1) 0) i9)) := by rw [← (show (pfp kz M d tr T r9 j9) = (pfp kz M d tr T (r9 + 1) 0) from by rw [← hj]; exact pfp_n)]; exact hv0_4
              refine lv_iinc (v := jI (((r9 : Nat) : Int) + 1)) (lv' := [(2, .int (jI (((r9 : Nat) : Int) + 1))), (3, .int (jI ((j9 : Nat) : Int))), (0, .ref (ad po)), (1, .ref (ad yr))]) hx hb dX3_fillTable_73 hl (k := 1) rfl (jI_add _ _) (by decide) rfl (fun ls hl => ?_)
              refine lv_goto (tgt := 2) hx hb dX3_fillTable_76 (by decide) ?_
              exact ih_OUT (r9 + 1) (by omega) (by omega) ctv_4 _ _ hk_6 trivial hofv_4 trivial hW hS ls (lv_sub hl [0, 2, 3] rfl)
            · skip
              have hMr := hM (r9 + 1) (j9 + 1)
              have hdr := hd0 (r9 + 1) (by omega)
              refine lv_iload_n hx hb dX3_fillTable_20 rfl (lv_at hl 1 rfl) ?_
              refine lv_iload_n hx hb dX3_fillTable_21 rfl (lv_at hl 0 rfl) ?_
              refine rm_icmp_ne (tgt := 37) hx hb ⟨by omega, by omega⟩ ⟨by omega, by omega⟩ dX3_fillTable_22 (by decide) (fun hc_7 => ?_) (fun hc_7 => ?_)
              · skip
                refine lv_aload_n hx hb dX3_fillTable_37 rfl (lv_at hl 3 rfl) ?_
                refine rm_get (ci := 4) (v := .ref (ad (yr + 1))) (C := RX4) (T := TX4) (N := 4) hx hb hts (by decide +kernel) hown hK hW ((hofv_4 yr (by omega)).trans hY.1) rfl 1 (by decide) (hts (.fieldLink RX3 60 "GrainYard$Yard" "paths" "[[I") (by decide +kernel)) (fun _ h9 => h9) rfl dX3_fillTable_38 ?_
                refine lv_iload_n hx hb dX3_fillTable_41 rfl (lv_at hl 1 rfl) ?_
                refine lv_iconst (v := jI 1) hx hb dX3_fillTable_42 rfl ?_
                refine rm_iadd hx hb dX3_fillTable_43 ?_
                refine rm_aald hx hb hK hW (f := (fun i => if i < 8 then some (ad (yr + 1 + 1 + i)) else none)) ((hofv_4 (yr + 1) (by omega)).trans hY.2.1) rfl rfl (r9 + 1) (by push_cast; omega) (by omega) (by omega) dX3_fillTable_44 (congrArg va_rf (if_pos (by omega))) ?_
                refine lv_iload_n hx hb dX3_fillTable_45 rfl (lv_at hl 0 rfl) ?_
                refine lv_iconst (v := jI 1) hx hb dX3_fillTable_46 rfl ?_
                refine rm_iadd hx hb dX3_fillTable_47 ?_
                refine rm_iald hx hb hK hW (f := (M (r9 + 1))) ((hofv_4 (yr + 1 + 1 + (r9 + 1)) (by omega)).trans (hY.2.2.1 (r9 + 1) (by omega))) (j9 + 1) (by push_cast; omega) (by omega) (by omega) dX3_fillTable_48 ?_
                refine rm_ineg hx hb dX3_fillTable_49 ?_
                refine rm_i2l hx hb dX3_fillTable_50 ⟨by omega, by omega⟩ ?_
                refine lv_lstore (lv' := [(4, .long (jL (-((M (r9 + 1)) (j9 + 1))))), (3, .int (jI ((j9 : Nat) : Int))), (2, .int (jI ((r9 : Nat) : Int))), (0, .ref (ad po)), (1, .ref (ad yr))]) hx hb dX3_fillTable_51 hl (by decide) rfl (fun ls hl => ?_)
                refine lv_aload_n hx hb dX3_fillTable_53 rfl (lv_at hl 3 rfl) ?_
                refine rm_get (ci := 3) (v := .ref (ad (po + 1))) (C := RX3) (T := TX3) (N := 5) hx hb hts (by decide +kernel) hown hK hW ((hofv_4 po (by omega)).trans hP.1) rfl 0 (by decide) (hts (.fieldLink RX3 11 "GrainYard$Parts" "table" "[[J") (by decide +kernel)) (fun _ h9 => h9) rfl dX3_fillTable_54 ?_
                refine lv_iload_n hx hb dX3_fillTable_57 rfl (lv_at hl 2 rfl) ?_
                refine rm_aald hx hb hK hW (f := (fun i => if i < 8 then some (ad (po + 1 + 1 + i)) else none)) ((hofv_4 (po + 1) (by omega)).trans hP.2.1) rfl rfl r9 rfl (by omega) (by omega) dX3_fillTable_58 (congrArg va_rf (if_pos (by omega))) ?_
                refine lv_iload_n hx hb dX3_fillTable_59 rfl (lv_at hl 1 rfl) ?_
                refine lv_aload_n hx hb dX3_fillTable_60 rfl (lv_at hl 3 rfl) ?_
                refine lv_lload hx hb dX3_fillTable_61 (lv_at hl 0 rfl) ?_
                refine rm_calll (va_runV (As := [.long (jL (-((M (r9 + 1)) (j9 + 1))))]) (rest := [.int (jI ((j9 : Nat) : Int)), .ref (ad (po + 1 + 1 + r9))]) ⟨hx, hb, hml, hown, hts⟩ (c_X3_counted l D ty ad ctv_4 H.size po kz on tr r (pfp kz M d tr T r9 j9) (-(M (r9 + 1) (j9 + 1))) ⟨by omega, by omega⟩ ht (by omega) hkz ⟨((hofv_4 po (by omega)).trans hP.1), ((hofv_4 (po + 1) (by omega)).trans hP.2.1), ((hofv_4 (po + 10) (by omega)).trans hP.2.2.1), hv0_4⟩) (cwV 1 hts gX3_fillTable_X3_counted rfl rfl rfl (by decide +kernel) ⟨Nat.le_of_ble_eq_true rfl, Nat.le_of_ble_eq_true rfl⟩) (rm_preV hK hNw hW ((hofv_4 po (by omega)).trans hP.1) rfl) rfl rfl hl.1 rfl (lv_room (Nat.le_of_ble_eq_true rfl)) dX3_fillTable_63 ⟨Nat.zero_le _, Nat.zero_le _⟩) hW hS hA (fun z_8 ct_8 H locs hq_8 hW hS => ?_)
                obtain ⟨hz, hcc_8⟩ := hq_8
                have hcc_8 := hcc_8.symm
                subst hcc_8
                subst hz
                refine rm_last hx hb hK hW hS (f := ((pfp kz M d tr T r9 j9) r9)) (hv0_4 r9 (by omega)) j9 rfl (by omega) (by omega) dX3_fillTable_66 (fun H locs ct_9 hs_9 ho_9 hW hS hz_9 => ?_)
                have hof_9 : ∀ q, (q < po + 1 + 1 ∨ po + 1 + 1 + 7 < q) → ct_9 q = ct q := fun q h0_9 => (ho_9 q (by omega)).trans (hofv_4 q h0_9)
                have hm0_9 : ∀ i9, i9 < 8 → ct_9 (po + 1 + 1 + i9) = some (rl ty 8 ((ub (pfp kz M d tr T r9 j9) r9 (ub ((pfp kz M d tr T r9 j9) r9) j9 ((-(M (r9 + 1) (j9 + 1))) % tr))) i9)) := fun i9 hi9 => by
                  by_cases e9 : i9 = r9
                  · rw [e9, ub_s]; exact hs_9
                  · rw [ub_n _ _ e9]; exact (ho_9 _ (by omega)).trans (hv0_4 i9 hi9)
                have hk_10 : ∀ i9, i9 < 8 → ct_9 (po + 1 + 1 + i9) = some (rl ty 8 ((pfp kz M d tr T r9 (j9 + 1)) i9)) := by rw [← (show (ub (pfp kz M d tr T r9 j9) r9 (ub ((pfp kz M d tr T r9 j9) r9) j9 ((-(M (r9 + 1) (j9 + 1))) % tr))) = (pfp kz M d tr T r9 (j9 + 1)) from pfp_s (by omega) (by omega) (by unfold pen; rw [if_neg (by omega)]))]; exact hm0_9
                refine lv_iinc (v := jI (((j9 : Nat) : Int) + 1)) (lv' := [(3, .int (jI (((j9 : Nat) : Int) + 1))), (4, .long (jL (-((M (r9 + 1)) (j9 + 1))))), (2, .int (jI ((r9 : Nat) : Int))), (0, .ref (ad po)), (1, .ref (ad yr))]) hx hb dX3_fillTable_67 hl (k := 1) rfl (jI_add _ _) (by decide) rfl (fun ls hl => ?_)
                refine lv_goto (tgt := 12) hx hb dX3_fillTable_70 (by decide) ?_
                exact ih_INN (j9 + 1) (by omega) (by omega) ct_9 _ _ hk_10 trivial hof_9 trivial hW hS ls (lv_sub hl [0, 2, 3, 4] rfl)
              · skip
                refine lv_aload_n hx hb dX3_fillTable_25 rfl (lv_at hl 3 rfl) ?_
                refine rm_get (ci := 4) (v := .ref (ad (yr + 10))) (C := RX4) (T := TX4) (N := 4) hx hb hts (by decide +kernel) hown hK hW ((hofv_4 yr (by omega)).trans hY.1) rfl 2 (by decide) (hts (.fieldLink RX3 56 "GrainYard$Yard" "degrees" "[I") (by decide +kernel)) (fun _ h9 => h9) rfl dX3_fillTable_26 ?_
                refine lv_iload_n hx hb dX3_fillTable_29 rfl (lv_at hl 1 rfl) ?_
                refine lv_iconst (v := jI 1) hx hb dX3_fillTable_30 rfl ?_
                refine rm_iadd hx hb dX3_fillTable_31 ?_
                refine rm_iald hx hb hK hW (f := d) ((hofv_4 (yr + 10) (by omega)).trans hY.2.2.2) (r9 + 1) (by push_cast; omega) (by omega) (by omega) dX3_fillTable_32 ?_
                refine rm_i2l hx hb dX3_fillTable_33 ⟨by omega, by omega⟩ ?_
                refine lv_goto (tgt := 51) hx hb dX3_fillTable_34 (by decide) ?_
                refine lv_lstore (lv' := [(4, .long (jL (d (r9 + 1)))), (3, .int (jI ((j9 : Nat) : Int))), (2, .int (jI ((r9 : Nat) : Int))), (0, .ref (ad po)), (1, .ref (ad yr))]) hx hb dX3_fillTable_51 hl (by decide) rfl (fun ls hl => ?_)
                refine lv_aload_n hx hb dX3_fillTable_53 rfl (lv_at hl 3 rfl) ?_
                refine rm_get (ci := 3) (v := .ref (ad (po + 1))) (C := RX3) (T := TX3) (N := 5) hx hb hts (by decide +kernel) hown hK hW ((hofv_4 po (by omega)).trans hP.1) rfl 0 (by decide) (hts (.fieldLink RX3 11 "GrainYard$Parts" "table" "[[J") (by decide +kernel)) (fun _ h9 => h9) rfl dX3_fillTable_54 ?_
                refine lv_iload_n hx hb dX3_fillTable_57 rfl (lv_at hl 2 rfl) ?_
                refine rm_aald hx hb hK hW (f := (fun i => if i < 8 then some (ad (po + 1 + 1 + i)) else none)) ((hofv_4 (po + 1) (by omega)).trans hP.2.1) rfl rfl r9 rfl (by omega) (by omega) dX3_fillTable_58 (congrArg va_rf (if_pos (by omega))) ?_
                refine lv_iload_n hx hb dX3_fillTable_59 rfl (lv_at hl 1 rfl) ?_
                refine lv_aload_n hx hb dX3_fillTable_60 rfl (lv_at hl 3 rfl) ?_
                refine lv_lload hx hb dX3_fillTable_61 (lv_at hl 0 rfl) ?_
                refine rm_calll (va_runV (As := [.long (jL (d (r9 + 1)))]) (rest := [.int (jI ((j9 : Nat) : Int)), .ref (ad (po + 1 + 1 + r9))]) ⟨hx, hb, hml, hown, hts⟩ (c_X3_counted l D ty ad ctv_4 H.size po kz on tr r (pfp kz M d tr T r9 j9) (d (r9 + 1)) ⟨by omega, by omega⟩ ht (by omega) hkz ⟨((hofv_4 po (by omega)).trans hP.1), ((hofv_4 (po + 1) (by omega)).trans hP.2.1), ((hofv_4 (po + 10) (by omega)).trans hP.2.2.1), hv0_4⟩) (cwV 1 hts gX3_fillTable_X3_counted rfl rfl rfl (by decide +kernel) ⟨Nat.le_of_ble_eq_true rfl, Nat.le_of_ble_eq_true rfl⟩) (rm_preV hK hNw hW ((hofv_4 po (by omega)).trans hP.1) rfl) rfl rfl hl.1 rfl (lv_room (Nat.le_of_ble_eq_true rfl)) dX3_fillTable_63 ⟨Nat.zero_le _, Nat.zero_le _⟩) hW hS hA (fun z_11 ct_11 H locs hq_11 hW hS => ?_)
                obtain ⟨hz, hcc_11⟩ := hq_11
                have hcc_11 := hcc_11.symm
                subst hcc_11
                subst hz
                refine rm_last hx hb hK hW hS (f := ((pfp kz M d tr T r9 j9) r9)) (hv0_4 r9 (by omega)) j9 rfl (by omega) (by omega) dX3_fillTable_66 (fun H locs ct_12 hs_12 ho_12 hW hS hz_12 => ?_)
                have hof_12 : ∀ q, (q < po + 1 + 1 ∨ po + 1 + 1 + 7 < q) → ct_12 q = ct q := fun q h0_12 => (ho_12 q (by omega)).trans (hofv_4 q h0_12)
                have hm0_12 : ∀ i9, i9 < 8 → ct_12 (po + 1 + 1 + i9) = some (rl ty 8 ((ub (pfp kz M d tr T r9 j9) r9 (ub ((pfp kz M d tr T r9 j9) r9) j9 ((d (r9 + 1)) % tr))) i9)) := fun i9 hi9 => by
                  by_cases e9 : i9 = r9
                  · rw [e9, ub_s]; exact hs_12
                  · rw [ub_n _ _ e9]; exact (ho_12 _ (by omega)).trans (hv0_4 i9 hi9)
                have hk_13 : ∀ i9, i9 < 8 → ct_12 (po + 1 + 1 + i9) = some (rl ty 8 ((pfp kz M d tr T r9 (j9 + 1)) i9)) := by rw [← (show (ub (pfp kz M d tr T r9 j9) r9 (ub ((pfp kz M d tr T r9 j9) r9) j9 ((d (r9 + 1)) % tr))) = (pfp kz M d tr T r9 (j9 + 1)) from pfp_s (by omega) (by omega) (by unfold pen; rw [if_pos (by omega)]))]; exact hm0_12
                refine lv_iinc (v := jI (((j9 : Nat) : Int) + 1)) (lv' := [(3, .int (jI (((j9 : Nat) : Int) + 1))), (4, .long (jL (d (r9 + 1)))), (2, .int (jI ((r9 : Nat) : Int))), (0, .ref (ad po)), (1, .ref (ad yr))]) hx hb dX3_fillTable_67 hl (k := 1) rfl (jI_add _ _) (by decide) rfl (fun ls hl => ?_)
                refine lv_goto (tgt := 12) hx hb dX3_fillTable_70 (by decide) ?_
                exact ih_INN (j9 + 1) (by omega) (by omega) ct_12 _ _ hk_13 trivial hof_12 trivial hW hS ls (lv_sub hl [0, 2, 3, 4] rfl)
        exact INN (kz + 1) (0) (by omega) (by omega) ctv_2 _ _ hv0_2 trivial hofv_2 trivial hW hS ls (lv_sub hl [0, 1, 2, 3] rfl)
  exact OUT (kz + 1) (0) (by omega) (by omega) ct _ _ hk_1 trivial (fun _ _ => rfl) trivial hW hS ls (lv_sub hl [0, 1, 2] rfl)
set_option maxHeartbeats 4000000 in
set_option maxRecDepth 100000 in
theorem c_X3_lowerRows (l : Launch) (D : va_G) (ty : Nat → ClassId) (ad : Nat → Nat) (ct : rm_C) (sz : Nat) (po kz on : Nat) (tr : Int) (r : Nat → Int) (T : Nat → Nat → Int) (co : Nat) (least : Int) (hc : co < kz) (hl0 : 0 < least) (hl9 : least ≤ 2147483648) (hT : inr_ kz tr T) (ht : 0 < tr) (ht9 : tr ≤ 2147483648) (hkz : kz ≤ 8) (hP : PartsAt ty ad ct po kz on tr r T) : Met l yX3_lowerRows wsX3_lowerRows ({ frames := 2, cells := 0, slots := 0, locals := 47 }) (rm_P D ty ad ct sz [.ref (ad po), .int (jI ((co : Nat) : Int)), .long (jL least)]) (rm_Qv D ad ct sz 0 (fun ct1 => (∀ i9, i9 < 8 → ct1 (po + 1 + 1 + i9) = some (rl ty 8 ((lrs kz tr co least T (kz - 1 - co)) i9))) ∧ ∀ q, (q < po + 1 + 1 ∨ po + 1 + 1 + 7 < q) → ct1 q = ct q)) 0 0 (rm_A ad ct sz) := by
  refine Met.ofW (cc := cX3_lowerRows) (maxL := 8) (ret := none) (by decide) rfl ?_
  intro p e s m args below meth c s₁ B hml hv
  obtain ⟨hargs, hsz, hW, hK, hNw⟩ := hv
  have hx := B.exec
  have hb := B.bytes
  have hr := B.returns
  have hts := atoms_spec (ws := wsX3_lowerRows) B.pre
  have hown : s.vm.findClass RX3 = some m.cls := findClass_of_methodNamed B.named
  have hlocks := B.notSynchronized
  subst hsz
  have hW := hW.own (sz := s.heap.size)
  have hA : ∀ q : Nat, s.heap.size ≤ q → rm_A ad ct s.heap.size q := fun q h => Or.inr h
  have hS : va_S (rm_A ad ct s.heap.size) s.heap s.heap [] := va_S.rf
  have hent : entryFrame m args 8 = entryFrame m ([.ref (ad po), .int (jI ((co : Nat) : Int)), .long (jL least)] : List Value).toArray 8 := by rw [hargs]
  have hl := lv_entry ([.ref (ad po), .int (jI ((co : Nat) : Int)), .long (jL least)]) (n := 8) (Nat.le_of_ble_eq_true rfl)
  rw [hent, lg_entry_eq]
  generalize (lg_sl ([.ref (ad po), .int (jI ((co : Nat) : Int)), .long (jL least)]) ++ List.replicate (8 - (lg_sl ([.ref (ad po), .int (jI ((co : Nat) : Int)), .long (jL least)])).length) Slot.unset).toArray = ls at hl ⊢
  have hl : lv_has ls 8 [(0, .ref (ad po)), (1, .int (jI ((co : Nat) : Int))), (2, .long (jL least))] := hl
  have hTb : ∀ i9, i9 < 8 → ct (po + 1 + 1 + i9) = some (rl ty 8 (T i9)) := fun i9 hi9 => hP.2.2.2 i9 hi9
  refine lv_iload_n hx hb dX3_lowerRows_0 rfl (lv_at hl 1 rfl) ?_
  refine lv_iconst (v := jI 1) hx hb dX3_lowerRows_1 rfl ?_
  refine rm_iadd hx hb dX3_lowerRows_2 ?_
  refine lv_istore (lv' := [(4, .int (jI (((co : Nat) : Int) + 1))), (0, .ref (ad po)), (1, .int (jI ((co : Nat) : Int))), (2, .long (jL least))]) hx hb dX3_lowerRows_3 hl (by decide) rfl (fun ls hl => ?_)
  have hk_1 : ∀ i9, i9 < 8 → ct (po + 1 + 1 + i9) = some (rl ty 8 ((lrs kz tr co least T 0) i9)) := by rw [← (show T = (lrs kz tr co least T 0) from rfl)]; exact hTb
  have OUT : ∀ (k : Nat) (q9 : Nat) (hq9 : q9 ≤ kz - 1 - co), kz - q9 < k → ∀ (ctv : rm_C) (H : Heap) (locs : List Loc), (∀ i9, i9 < 8 → ctv (po + 1 + 1 + i9) = some (rl ty 8 ((lrs kz tr co least T q9) i9))) → ∀ (_ : True), (∀ q, (q < po + 1 + 1 ∨ po + 1 + 1 + 7 < q) → ctv q = ct q) → ∀ (_ : True), rm_W D ad ctv (rm_A ad ct s.heap.size) H → va_S (rm_A ad ct s.heap.size) s.heap H locs → ∀ ls : Array Slot, lv_has ls 8 [(4, .int (jI (((co + 1 + q9) : Nat) : Int))), (0, .ref (ad po)), (1, .int (jI ((co : Nat) : Int))), (2, .long (jL least))] → W p l e (headSpec wsX3_lowerRows ({ frames := 2, cells := 0, slots := 0, locals := 47 })).room s m args below meth c H locs 0 0 (MQ below (rm_Qv D ad ct s.heap.size 0 (fun ct1 => (∀ i9, i9 < 8 → ct1 (po + 1 + 1 + i9) = some (rl ty 8 ((lrs kz tr co least T (kz - 1 - co)) i9))) ∧ ∀ q, (q < po + 1 + 1 ∨ po + 1 + 1 + 7 < q) → ct1 q = ct q)) args s 0 0 (rm_A ad ct s.heap.size)) (F0 m 5 ls []) := by
    intro k
    induction k with
    | zero => intro q9 hq9 hk; exact absurd hk (Nat.not_lt_zero _)
    | succ k ih_OUT =>
      intro q9 hq9 hk ctv_2 H locs hv0_2 _ hofv_2 _ hW hS ls hl
      refine lv_iload hx hb dX3_lowerRows_5 (lv_at hl 0 rfl) ?_
      refine lv_aload_n hx hb dX3_lowerRows_7 rfl (lv_at hl 1 rfl) ?_
      refine rm_get (ci := 3) (v := .int (jI ((kz : Nat) : Int))) (C := RX3) (T := TX3) (N := 5) hx hb hts (by decide +kernel) hown hK hW ((hofv_2 po (by omega)).trans hP.1) rfl 2 (by decide) (hts (.fieldLink RX3 20 "GrainYard$Parts" "size" "I") (by decide +kernel)) (fun _ h9 => h9) rfl dX3_lowerRows_8 ?_
      refine rm_icmp_ge (tgt := 94) hx hb ⟨by omega, by omega⟩ ⟨by omega, by omega⟩ dX3_lowerRows_11 (by decide) (fun hc_3 => ?_) (fun hc_3 => ?_)
      · skip
        have hi : q9 = kz - 1 - co := by omega
        subst hi
        exact W.vret hx hb hr (fun t ht hw => ⟨⟨ctv_2, rfl, ⟨hv0_2, fun q hq => hofv_2 q hq⟩, by show rm_W D ad _ _ t.heap; rw [ht]; exact hW, Or.inl rfl⟩, hS.F ht⟩) hS.2.2 dX3_lowerRows_94
      · skip
        refine lv_lload_n hx hb dX3_lowerRows_14 rfl (lv_at hl 3 rfl) ?_
        refine lv_lconst (v := jL 0) hx hb dX3_lowerRows_15 rfl ?_
        refine rm_lcmp hx hb ⟨by omega, by omega⟩ ⟨by omega, by omega⟩ dX3_lowerRows_16 ?_
        refine rm_if_le (tgt := 94) hx hb (lcv_rng _ _) dX3_lowerRows_17 (by decide) (fun hq => absurd (lcv_le.mp hq) (by omega)) (fun _ => ?_)
        obtain ⟨T9, hT9⟩ : ∃ T9, T9 = lrs kz tr co least T q9 := ⟨_, rfl⟩
        have hk_4 : ∀ i9, i9 < 8 → ctv_2 (po + 1 + 1 + i9) = some (rl ty 8 (T9 i9)) := by rw [← (show (lrs kz tr co least T q9) = T9 from hT9.symm)]; exact hv0_2
        have hR9 : inr_ kz tr T9 := by rw [hT9]; exact lrs_rng ht hT q9
        have hh := hR9 (co + 1 + q9) co (by omega) hc
        obtain ⟨t9, ht9v⟩ : ∃ t9 : Int, t9 = Int.tdiv (T9 (co + 1 + q9) co) least := ⟨_, rfl⟩
        have htb : 0 ≤ t9 ∧ t9 ≤ (T9 (co + 1 + q9) co) := by
          rw [ht9v, Int.tdiv_eq_ediv_of_nonneg hh.1]
          exact ⟨Int.ediv_nonneg hh.1 (by omega), Int.ediv_le_self _ hh.1⟩
        refine lv_aload_n hx hb dX3_lowerRows_20 rfl (lv_at hl 1 rfl) ?_
        refine rm_get (ci := 3) (v := .ref (ad (po + 1))) (C := RX3) (T := TX3) (N := 5) hx hb hts (by decide +kernel) hown hK hW ((hofv_2 po (by omega)).trans hP.1) rfl 0 (by decide) (hts (.fieldLink RX3 11 "GrainYard$Parts" "table" "[[J") (by decide +kernel)) (fun _ h9 => h9) rfl dX3_lowerRows_21 ?_
        refine lv_iload hx hb dX3_lowerRows_24 (lv_at hl 0 rfl) ?_
        refine rm_aald hx hb hK hW (f := (fun i => if i < 8 then some (ad (po + 1 + 1 + i)) else none)) ((hofv_2 (po + 1) (by omega)).trans hP.2.1) rfl rfl (co + 1 + q9) rfl (by omega) (by omega) dX3_lowerRows_26 (congrArg va_rf (if_pos (by omega))) ?_
        refine lv_iload_n hx hb dX3_lowerRows_27 rfl (lv_at hl 2 rfl) ?_
        refine rm_lald hx hb hK hW (f := (T9 (co + 1 + q9))) (hk_4 (co + 1 + q9) (by omega)) co rfl (by omega) (by omega) dX3_lowerRows_28 ?_
        refine lv_lload_n hx hb dX3_lowerRows_29 rfl (lv_at hl 3 rfl) ?_
        refine rm_ldiv hx hb dX3_lowerRows_30 ⟨by omega, by omega⟩ ⟨by omega, by omega⟩ (by omega) ?_
        rw [← ht9v]
        refine lv_lstore (lv' := [(5, .long (jL t9)), (4, .int (jI (((co + 1 + q9) : Nat) : Int))), (0, .ref (ad po)), (1, .int (jI ((co : Nat) : Int))), (2, .long (jL least))]) hx hb dX3_lowerRows_31 hl (by decide) rfl (fun ls hl => ?_)
        refine lv_iload_n hx hb dX3_lowerRows_33 rfl (lv_at hl 3 rfl) ?_
        refine lv_istore (lv' := [(7, .int (jI ((co : Nat) : Int))), (5, .long (jL t9)), (4, .int (jI (((co + 1 + q9) : Nat) : Int))), (0, .ref (ad po)), (1, .int (jI ((co : Nat) : Int))), (2, .long (jL least))]) hx hb dX3_lowerRows_34 hl (by decide) rfl (fun ls hl => ?_)
        have hk_5 : ∀ i9, i9 < 8 → ctv_2 (po + 1 + 1 + i9) = some (rl ty 8 ((rwf tr co t9 (co + 1 + q9) T9 co) i9)) := by rw [← (show T9 = (rwf tr co t9 (co + 1 + q9) T9 co) from rwf_0 tr co t9 (co + 1 + q9) T9)]; exact hk_4
        have INN : ∀ (k : Nat) (x9 : Nat) (hx9 : x9 ≤ kz) (hx1 : co ≤ x9), kz - x9 < k → ∀ (ctv : rm_C) (H : Heap) (locs : List Loc), (∀ i9, i9 < 8 → ctv (po + 1 + 1 + i9) = some (rl ty 8 ((rwf tr co t9 (co + 1 + q9) T9 x9) i9))) → ∀ (_ : True), (∀ q, (q < po + 1 + 1 ∨ po + 1 + 1 + 7 < q) → ctv q = ct q) → ∀ (_ : True), rm_W D ad ctv (rm_A ad ct s.heap.size) H → va_S (rm_A ad ct s.heap.size) s.heap H locs → ∀ ls : Array Slot, lv_has ls 8 [(7, .int (jI ((x9 : Nat) : Int))), (5, .long (jL t9)), (4, .int (jI (((co + 1 + q9) : Nat) : Int))), (0, .ref (ad po)), (1, .int (jI ((co : Nat) : Int))), (2, .long (jL least))] → W p l e (headSpec wsX3_lowerRows ({ frames := 2, cells := 0, slots := 0, locals := 47 })).room s m args below meth c H locs 0 0 (MQ below (rm_Qv D ad ct s.heap.size 0 (fun ct1 => (∀ i9, i9 < 8 → ct1 (po + 1 + 1 + i9) = some (rl ty 8 ((lrs kz tr co least T (kz - 1 - co)) i9))) ∧ ∀ q, (q < po + 1 + 1 ∨ po + 1 + 1 + 7 < q) → ct1 q = ct q)) args s 0 0 (rm_A ad ct s.heap.size)) (F0 m 36 ls []) := by
          intro k
          induction k with
          | zero => intro x9 hx9 hx1 hk; exact absurd hk (Nat.not_lt_zero _)
          | succ k ih_INN =>
            intro x9 hx9 hx1 hk ctv_6 H locs hv0_6 _ hofv_6 _ hW hS ls hl
            refine lv_iload hx hb dX3_lowerRows_36 (lv_at hl 0 rfl) ?_
            refine lv_aload_n hx hb dX3_lowerRows_38 rfl (lv_at hl 3 rfl) ?_
            refine rm_get (ci := 3) (v := .int (jI ((kz : Nat) : Int))) (C := RX3) (T := TX3) (N := 5) hx hb hts (by decide +kernel) hown hK hW ((hofv_6 po (by omega)).trans hP.1) rfl 2 (by decide) (hts (.fieldLink RX3 20 "GrainYard$Parts" "size" "I") (by decide +kernel)) (fun _ h9 => h9) rfl dX3_lowerRows_39 ?_
            refine rm_icmp_ge (tgt := 88) hx hb ⟨by omega, by omega⟩ ⟨by omega, by omega⟩ dX3_lowerRows_42 (by decide) (fun hc_7 => ?_) (fun hc_7 => ?_)
            · skip
              have hxk : x9 = kz := by omega
              have hk_8 : ∀ i9, i9 < 8 → ctv_6 (po + 1 + 1 + i9) = some (rl ty 8 ((lrs kz tr co least T (q9 + 1)) i9)) := by rw [← (show (rwf tr co t9 (co + 1 + q9) T9 x9) = (lrs kz tr co least T (q9 + 1)) from by rw [hxk, ht9v, hT9]; rfl)]; exact hv0_6
              refine lv_iinc (v := jI ((((co + 1 + q9) : Nat) : Int) + 1)) (lv' := [(4, .int (jI ((((co + 1 + q9) : Nat) : Int) + 1))), (7, .int (jI ((x9 : Nat) : Int))), (5, .long (jL t9)), (0, .ref (ad po)), (1, .int (jI ((co : Nat) : Int))), (2, .long (jL least))]) hx hb dX3_lowerRows_88 hl (k := 2) rfl (jI_add _ _) (by decide) rfl (fun ls hl => ?_)
              refine lv_goto (tgt := 5) hx hb dX3_lowerRows_91 (by decide) ?_
              exact ih_OUT (q9 + 1) (by omega) (by omega) ctv_6 _ _ hk_8 trivial hofv_6 trivial hW hS ls (lv_sub hl [0, 3, 4, 5] rfl)
            · skip
              have e1 : (rwf tr co t9 (co + 1 + q9) T9 x9) (co + 1 + q9) x9 = (T9 (co + 1 + q9) x9) := rwf_at (Nat.le_refl _)
              have e2 : (rwf tr co t9 (co + 1 + q9) T9 x9) co x9 = (T9 co x9) := congrFun (rwf_o (by omega)) x9
              have b1 := hR9 (co + 1 + q9) x9 (by omega) (by omega)
              have b2 := hR9 co x9 hc (by omega)
              have bm1 : 0 ≤ t9 * (T9 co x9) := Int.mul_nonneg htb.1 b2.1
              have bm2 : t9 * (T9 co x9) ≤ 2147483648 * 2147483648 := Int.mul_le_mul (by omega) (by omega) b2.1 (by omega)
              refine lv_aload_n hx hb dX3_lowerRows_45 rfl (lv_at hl 3 rfl) ?_
              refine rm_get (ci := 3) (v := .ref (ad (po + 1))) (C := RX3) (T := TX3) (N := 5) hx hb hts (by decide +kernel) hown hK hW ((hofv_6 po (by omega)).trans hP.1) rfl 0 (by decide) (hts (.fieldLink RX3 11 "GrainYard$Parts" "table" "[[J") (by decide +kernel)) (fun _ h9 => h9) rfl dX3_lowerRows_46 ?_
              refine lv_iload hx hb dX3_lowerRows_49 (lv_at hl 2 rfl) ?_
              refine rm_aald hx hb hK hW (f := (fun i => if i < 8 then some (ad (po + 1 + 1 + i)) else none)) ((hofv_6 (po + 1) (by omega)).trans hP.2.1) rfl rfl (co + 1 + q9) rfl (by omega) (by omega) dX3_lowerRows_51 (congrArg va_rf (if_pos (by omega))) ?_
              refine lv_iload hx hb dX3_lowerRows_52 (lv_at hl 0 rfl) ?_
              refine lv_aload_n hx hb dX3_lowerRows_54 rfl (lv_at hl 3 rfl) ?_
              refine lv_aload_n hx hb dX3_lowerRows_55 rfl (lv_at hl 3 rfl) ?_
              refine rm_get (ci := 3) (v := .ref (ad (po + 1))) (C := RX3) (T := TX3) (N := 5) hx hb hts (by decide +kernel) hown hK hW ((hofv_6 po (by omega)).trans hP.1) rfl 0 (by decide) (hts (.fieldLink RX3 11 "GrainYard$Parts" "table" "[[J") (by decide +kernel)) (fun _ h9 => h9) rfl dX3_lowerRows_56 ?_
              refine lv_iload hx hb dX3_lowerRows_59 (lv_at hl 2 rfl) ?_
              refine rm_aald hx hb hK hW (f := (fun i => if i < 8 then some (ad (po + 1 + 1 + i)) else none)) ((hofv_6 (po + 1) (by omega)).trans hP.2.1) rfl rfl (co + 1 + q9) rfl (by omega) (by omega) dX3_lowerRows_61 (congrArg va_rf (if_pos (by omega))) ?_
              refine lv_iload hx hb dX3_lowerRows_62 (lv_at hl 0 rfl) ?_
              refine rm_lald hx hb hK hW (f := ((rwf tr co t9 (co + 1 + q9) T9 x9) (co + 1 + q9))) (hv0_6 (co + 1 + q9) (by omega)) x9 rfl (by omega) (by omega) dX3_lowerRows_64 ?_
              refine lv_lload hx hb dX3_lowerRows_65 (lv_at hl 1 rfl) ?_
              refine lv_aload_n hx hb dX3_lowerRows_67 rfl (lv_at hl 3 rfl) ?_
              refine rm_get (ci := 3) (v := .ref (ad (po + 1))) (C := RX3) (T := TX3) (N := 5) hx hb hts (by decide +kernel) hown hK hW ((hofv_6 po (by omega)).trans hP.1) rfl 0 (by decide) (hts (.fieldLink RX3 11 "GrainYard$Parts" "table" "[[J") (by decide +kernel)) (fun _ h9 => h9) rfl dX3_lowerRows_68 ?_
              refine lv_iload_n hx hb dX3_lowerRows_71 rfl (lv_at hl 4 rfl) ?_
              refine rm_aald hx hb hK hW (f := (fun i => if i < 8 then some (ad (po + 1 + 1 + i)) else none)) ((hofv_6 (po + 1) (by omega)).trans hP.2.1) rfl rfl co rfl (by omega) (by omega) dX3_lowerRows_72 (congrArg va_rf (if_pos (by omega))) ?_
              refine lv_iload hx hb dX3_lowerRows_73 (lv_at hl 0 rfl) ?_
              refine rm_lald hx hb hK hW (f := ((rwf tr co t9 (co + 1 + q9) T9 x9) co)) (hv0_6 co (by omega)) x9 rfl (by omega) (by omega) dX3_lowerRows_75 ?_
              refine rm_lmul hx hb dX3_lowerRows_76 ?_
              refine rm_lsub hx hb dX3_lowerRows_77 ?_
              rw [e1, e2]
              refine rm_calll (va_runV (As := [.long (jL ((T9 (co + 1 + q9) x9) - t9 * (T9 co x9)))]) (rest := [.int (jI ((x9 : Nat) : Int)), .ref (ad (po + 1 + 1 + (co + 1 + q9)))]) ⟨hx, hb, hml, hown, hts⟩ (c_X3_counted l D ty ad ctv_6 H.size po kz on tr r (rwf tr co t9 (co + 1 + q9) T9 x9) ((T9 (co + 1 + q9) x9) - t9 * (T9 co x9)) ⟨by omega, by omega⟩ ht (by omega) hkz ⟨((hofv_6 po (by omega)).trans hP.1), ((hofv_6 (po + 1) (by omega)).trans hP.2.1), ((hofv_6 (po + 10) (by omega)).trans hP.2.2.1), hv0_6⟩) (cwV 1 hts gX3_lowerRows_X3_counted rfl rfl rfl (by decide +kernel) ⟨Nat.le_of_ble_eq_true rfl, Nat.le_of_ble_eq_true rfl⟩) (rm_preV hK hNw hW ((hofv_6 po (by omega)).trans hP.1) rfl) rfl rfl hl.1 rfl (lv_room (Nat.le_of_ble_eq_true rfl)) dX3_lowerRows_78 ⟨Nat.zero_le _, Nat.zero_le _⟩) hW hS hA (fun z_9 ct_9 H locs hq_9 hW hS => ?_)
              obtain ⟨hz, hcc_9⟩ := hq_9
              have hcc_9 := hcc_9.symm
              subst hcc_9
              subst hz
              refine rm_last hx hb hK hW hS (f := ((rwf tr co t9 (co + 1 + q9) T9 x9) (co + 1 + q9))) (hv0_6 (co + 1 + q9) (by omega)) x9 rfl (by omega) (by omega) dX3_lowerRows_81 (fun H locs ct_10 hs_10 ho_10 hW hS hz_10 => ?_)
              have hof_10 : ∀ q, (q < po + 1 + 1 ∨ po + 1 + 1 + 7 < q) → ct_10 q = ct q := fun q h0_10 => (ho_10 q (by omega)).trans (hofv_6 q h0_10)
              have hm0_10 : ∀ i9, i9 < 8 → ct_10 (po + 1 + 1 + i9) = some (rl ty 8 ((ub (rwf tr co t9 (co + 1 + q9) T9 x9) (co + 1 + q9) (ub ((rwf tr co t9 (co + 1 + q9) T9 x9) (co + 1 + q9)) x9 (((T9 (co + 1 + q9) x9) - t9 * (T9 co x9)) % tr))) i9)) := fun i9 hi9 => by
                by_cases e9 : i9 = (co + 1 + q9)
                · rw [e9, ub_s]; exact hs_10
                · rw [ub_n _ _ e9]; exact (ho_10 _ (by omega)).trans (hv0_6 i9 hi9)
              have hk_11 : ∀ i9, i9 < 8 → ct_10 (po + 1 + 1 + i9) = some (rl ty 8 ((rwf tr co t9 (co + 1 + q9) T9 (x9 + 1)) i9)) := by rw [← (show (ub (rwf tr co t9 (co + 1 + q9) T9 x9) (co + 1 + q9) (ub ((rwf tr co t9 (co + 1 + q9) T9 x9) (co + 1 + q9)) x9 (((T9 (co + 1 + q9) x9) - t9 * (T9 co x9)) % tr))) = (rwf tr co t9 (co + 1 + q9) T9 (x9 + 1)) from rwf_s (by omega))]; exact hm0_10
              refine lv_iinc (v := jI (((x9 : Nat) : Int) + 1)) (lv' := [(7, .int (jI (((x9 : Nat) : Int) + 1))), (5, .long (jL t9)), (4, .int (jI (((co + 1 + q9) : Nat) : Int))), (0, .ref (ad po)), (1, .int (jI ((co : Nat) : Int))), (2, .long (jL least))]) hx hb dX3_lowerRows_82 hl (k := 0) rfl (jI_add _ _) (by decide) rfl (fun ls hl => ?_)
              refine lv_goto (tgt := 36) hx hb dX3_lowerRows_85 (by decide) ?_
              exact ih_INN (x9 + 1) (by omega) (by omega) (by omega) ct_10 _ _ hk_11 trivial hof_10 trivial hW hS ls (lv_sub hl [0, 1, 2, 3, 4, 5] rfl)
        exact INN (kz + 1) (co) (by omega) (by omega) (by omega) ctv_2 _ _ hk_5 trivial hofv_2 trivial hW hS ls (lv_sub hl [0, 1, 2, 3, 4, 5] rfl)
  exact OUT (kz + 1) (0) (by omega) (by omega) ct _ _ hk_1 trivial (fun _ _ => rfl) trivial hW hS ls (lv_sub hl [0, 1, 2, 3] rfl)
set_option maxHeartbeats 4000000 in
set_option maxRecDepth 100000 in
theorem c_X3_lowerColumns (l : Launch) (D : va_G) (ty : Nat → ClassId) (ad : Nat → Nat) (ct : rm_C) (sz : Nat) (po kz on : Nat) (tr : Int) (r : Nat → Int) (T : Nat → Nat → Int) (co : Nat) (least : Int) (hc : co < kz) (hl0 : 0 < least) (hl9 : least ≤ 2147483648) (hT : inr_ kz tr T) (ht : 0 < tr) (ht9 : tr ≤ 2147483648) (hkz : kz ≤ 8) (hP : PartsAt ty ad ct po kz on tr r T) : Met l yX3_lowerColumns wsX3_lowerColumns ({ frames := 2, cells := 0, slots := 0, locals := 47 }) (rm_P D ty ad ct sz [.ref (ad po), .int (jI ((co : Nat) : Int)), .long (jL least)]) (rm_Qv D ad ct sz 0 (fun ct1 => (∀ i9, i9 < 8 → ct1 (po + 1 + 1 + i9) = some (rl ty 8 ((lcs kz tr co least T (kz - 1 - co)) i9))) ∧ ∀ q, (q < po + 1 + 1 ∨ po + 1 + 1 + 7 < q) → ct1 q = ct q)) 0 0 (rm_A ad ct sz) := by
  refine Met.ofW (cc := cX3_lowerColumns) (maxL := 8) (ret := none) (by decide) rfl ?_
  intro p e s m args below meth c s₁ B hml hv
  obtain ⟨hargs, hsz, hW, hK, hNw⟩ := hv
  have hx := B.exec
  have hb := B.bytes
  have hr := B.returns
  have hts := atoms_spec (ws := wsX3_lowerColumns) B.pre
  have hown : s.vm.findClass RX3 = some m.cls := findClass_of_methodNamed B.named
  have hlocks := B.notSynchronized
  subst hsz
  have hW := hW.own (sz := s.heap.size)
  have hA : ∀ q : Nat, s.heap.size ≤ q → rm_A ad ct s.heap.size q := fun q h => Or.inr h
  have hS : va_S (rm_A ad ct s.heap.size) s.heap s.heap [] := va_S.rf
  have hent : entryFrame m args 8 = entryFrame m ([.ref (ad po), .int (jI ((co : Nat) : Int)), .long (jL least)] : List Value).toArray 8 := by rw [hargs]
  have hl := lv_entry ([.ref (ad po), .int (jI ((co : Nat) : Int)), .long (jL least)]) (n := 8) (Nat.le_of_ble_eq_true rfl)
  rw [hent, lg_entry_eq]
  generalize (lg_sl ([.ref (ad po), .int (jI ((co : Nat) : Int)), .long (jL least)]) ++ List.replicate (8 - (lg_sl ([.ref (ad po), .int (jI ((co : Nat) : Int)), .long (jL least)])).length) Slot.unset).toArray = ls at hl ⊢
  have hl : lv_has ls 8 [(0, .ref (ad po)), (1, .int (jI ((co : Nat) : Int))), (2, .long (jL least))] := hl
  have hTb : ∀ i9, i9 < 8 → ct (po + 1 + 1 + i9) = some (rl ty 8 (T i9)) := fun i9 hi9 => hP.2.2.2 i9 hi9
  refine lv_iload_n hx hb dX3_lowerColumns_0 rfl (lv_at hl 1 rfl) ?_
  refine lv_iconst (v := jI 1) hx hb dX3_lowerColumns_1 rfl ?_
  refine rm_iadd hx hb dX3_lowerColumns_2 ?_
  refine lv_istore (lv' := [(4, .int (jI (((co : Nat) : Int) + 1))), (0, .ref (ad po)), (1, .int (jI ((co : Nat) : Int))), (2, .long (jL least))]) hx hb dX3_lowerColumns_3 hl (by decide) rfl (fun ls hl => ?_)
  have hk_1 : ∀ i9, i9 < 8 → ct (po + 1 + 1 + i9) = some (rl ty 8 ((lcs kz tr co least T 0) i9)) := by rw [← (show T = (lcs kz tr co least T 0) from rfl)]; exact hTb
  have OUT : ∀ (k : Nat) (q9 : Nat) (hq9 : q9 ≤ kz - 1 - co), kz - q9 < k → ∀ (ctv : rm_C) (H : Heap) (locs : List Loc), (∀ i9, i9 < 8 → ctv (po + 1 + 1 + i9) = some (rl ty 8 ((lcs kz tr co least T q9) i9))) → ∀ (_ : True), (∀ q, (q < po + 1 + 1 ∨ po + 1 + 1 + 7 < q) → ctv q = ct q) → ∀ (_ : True), rm_W D ad ctv (rm_A ad ct s.heap.size) H → va_S (rm_A ad ct s.heap.size) s.heap H locs → ∀ ls : Array Slot, lv_has ls 8 [(4, .int (jI (((co + 1 + q9) : Nat) : Int))), (0, .ref (ad po)), (1, .int (jI ((co : Nat) : Int))), (2, .long (jL least))] → W p l e (headSpec wsX3_lowerColumns ({ frames := 2, cells := 0, slots := 0, locals := 47 })).room s m args below meth c H locs 0 0 (MQ below (rm_Qv D ad ct s.heap.size 0 (fun ct1 => (∀ i9, i9 < 8 → ct1 (po + 1 + 1 + i9) = some (rl ty 8 ((lcs kz tr co least T (kz - 1 - co)) i9))) ∧ ∀ q, (q < po + 1 + 1 ∨ po + 1 + 1 + 7 < q) → ct1 q = ct q)) args s 0 0 (rm_A ad ct s.heap.size)) (F0 m 5 ls []) := by
    intro k
    induction k with
    | zero => intro q9 hq9 hk; exact absurd hk (Nat.not_lt_zero _)
    | succ k ih_OUT =>
      intro q9 hq9 hk ctv_2 H locs hv0_2 _ hofv_2 _ hW hS ls hl
      refine lv_iload hx hb dX3_lowerColumns_5 (lv_at hl 0 rfl) ?_
      refine lv_aload_n hx hb dX3_lowerColumns_7 rfl (lv_at hl 1 rfl) ?_
      refine rm_get (ci := 3) (v := .int (jI ((kz : Nat) : Int))) (C := RX3) (T := TX3) (N := 5) hx hb hts (by decide +kernel) hown hK hW ((hofv_2 po (by omega)).trans hP.1) rfl 2 (by decide) (hts (.fieldLink RX3 20 "GrainYard$Parts" "size" "I") (by decide +kernel)) (fun _ h9 => h9) rfl dX3_lowerColumns_8 ?_
      refine rm_icmp_ge (tgt := 94) hx hb ⟨by omega, by omega⟩ ⟨by omega, by omega⟩ dX3_lowerColumns_11 (by decide) (fun hc_3 => ?_) (fun hc_3 => ?_)
      · skip
        have hi : q9 = kz - 1 - co := by omega
        subst hi
        exact W.vret hx hb hr (fun t ht hw => ⟨⟨ctv_2, rfl, ⟨hv0_2, fun q hq => hofv_2 q hq⟩, by show rm_W D ad _ _ t.heap; rw [ht]; exact hW, Or.inl rfl⟩, hS.F ht⟩) hS.2.2 dX3_lowerColumns_94
      · skip
        refine lv_lload_n hx hb dX3_lowerColumns_14 rfl (lv_at hl 3 rfl) ?_
        refine lv_lconst (v := jL 0) hx hb dX3_lowerColumns_15 rfl ?_
        refine rm_lcmp hx hb ⟨by omega, by omega⟩ ⟨by omega, by omega⟩ dX3_lowerColumns_16 ?_
        refine rm_if_le (tgt := 94) hx hb (lcv_rng _ _) dX3_lowerColumns_17 (by decide) (fun hq => absurd (lcv_le.mp hq) (by omega)) (fun _ => ?_)
        obtain ⟨T9, hT9⟩ : ∃ T9, T9 = lcs kz tr co least T q9 := ⟨_, rfl⟩
        have hk_4 : ∀ i9, i9 < 8 → ctv_2 (po + 1 + 1 + i9) = some (rl ty 8 (T9 i9)) := by rw [← (show (lcs kz tr co least T q9) = T9 from hT9.symm)]; exact hv0_2
        have hR9 : inr_ kz tr T9 := by rw [hT9]; exact lcs_rng ht hT q9
        have hh := hR9 co (co + 1 + q9) hc (by omega)
        obtain ⟨t9, ht9v⟩ : ∃ t9 : Int, t9 = Int.tdiv (T9 co (co + 1 + q9)) least := ⟨_, rfl⟩
        have htb : 0 ≤ t9 ∧ t9 ≤ (T9 co (co + 1 + q9)) := by
          rw [ht9v, Int.tdiv_eq_ediv_of_nonneg hh.1]
          exact ⟨Int.ediv_nonneg hh.1 (by omega), Int.ediv_le_self _ hh.1⟩
        refine lv_aload_n hx hb dX3_lowerColumns_20 rfl (lv_at hl 1 rfl) ?_
        refine rm_get (ci := 3) (v := .ref (ad (po + 1))) (C := RX3) (T := TX3) (N := 5) hx hb hts (by decide +kernel) hown hK hW ((hofv_2 po (by omega)).trans hP.1) rfl 0 (by decide) (hts (.fieldLink RX3 11 "GrainYard$Parts" "table" "[[J") (by decide +kernel)) (fun _ h9 => h9) rfl dX3_lowerColumns_21 ?_
        refine lv_iload_n hx hb dX3_lowerColumns_24 rfl (lv_at hl 2 rfl) ?_
        refine rm_aald hx hb hK hW (f := (fun i => if i < 8 then some (ad (po + 1 + 1 + i)) else none)) ((hofv_2 (po + 1) (by omega)).trans hP.2.1) rfl rfl co rfl (by omega) (by omega) dX3_lowerColumns_25 (congrArg va_rf (if_pos (by omega))) ?_
        refine lv_iload hx hb dX3_lowerColumns_26 (lv_at hl 0 rfl) ?_
        refine rm_lald hx hb hK hW (f := (T9 co)) (hk_4 co (by omega)) (co + 1 + q9) rfl (by omega) (by omega) dX3_lowerColumns_28 ?_
        refine lv_lload_n hx hb dX3_lowerColumns_29 rfl (lv_at hl 3 rfl) ?_
        refine rm_ldiv hx hb dX3_lowerColumns_30 ⟨by omega, by omega⟩ ⟨by omega, by omega⟩ (by omega) ?_
        rw [← ht9v]
        refine lv_lstore (lv' := [(5, .long (jL t9)), (4, .int (jI (((co + 1 + q9) : Nat) : Int))), (0, .ref (ad po)), (1, .int (jI ((co : Nat) : Int))), (2, .long (jL least))]) hx hb dX3_lowerColumns_31 hl (by decide) rfl (fun ls hl => ?_)
        refine lv_iload_n hx hb dX3_lowerColumns_33 rfl (lv_at hl 3 rfl) ?_
        refine lv_istore (lv' := [(7, .int (jI ((co : Nat) : Int))), (5, .long (jL t9)), (4, .int (jI (((co + 1 + q9) : Nat) : Int))), (0, .ref (ad po)), (1, .int (jI ((co : Nat) : Int))), (2, .long (jL least))]) hx hb dX3_lowerColumns_34 hl (by decide) rfl (fun ls hl => ?_)
        have hk_5 : ∀ i9, i9 < 8 → ctv_2 (po + 1 + 1 + i9) = some (rl ty 8 ((cwf tr co t9 (co + 1 + q9) T9 co) i9)) := by rw [← (show T9 = (cwf tr co t9 (co + 1 + q9) T9 co) from cwf_0 tr co t9 (co + 1 + q9) T9)]; exact hk_4
        have INN : ∀ (k : Nat) (x9 : Nat) (hx9 : x9 ≤ kz) (hx1 : co ≤ x9), kz - x9 < k → ∀ (ctv : rm_C) (H : Heap) (locs : List Loc), (∀ i9, i9 < 8 → ctv (po + 1 + 1 + i9) = some (rl ty 8 ((cwf tr co t9 (co + 1 + q9) T9 x9) i9))) → ∀ (_ : True), (∀ q, (q < po + 1 + 1 ∨ po + 1 + 1 + 7 < q) → ctv q = ct q) → ∀ (_ : True), rm_W D ad ctv (rm_A ad ct s.heap.size) H → va_S (rm_A ad ct s.heap.size) s.heap H locs → ∀ ls : Array Slot, lv_has ls 8 [(7, .int (jI ((x9 : Nat) : Int))), (5, .long (jL t9)), (4, .int (jI (((co + 1 + q9) : Nat) : Int))), (0, .ref (ad po)), (1, .int (jI ((co : Nat) : Int))), (2, .long (jL least))] → W p l e (headSpec wsX3_lowerColumns ({ frames := 2, cells := 0, slots := 0, locals := 47 })).room s m args below meth c H locs 0 0 (MQ below (rm_Qv D ad ct s.heap.size 0 (fun ct1 => (∀ i9, i9 < 8 → ct1 (po + 1 + 1 + i9) = some (rl ty 8 ((lcs kz tr co least T (kz - 1 - co)) i9))) ∧ ∀ q, (q < po + 1 + 1 ∨ po + 1 + 1 + 7 < q) → ct1 q = ct q)) args s 0 0 (rm_A ad ct s.heap.size)) (F0 m 36 ls []) := by
          intro k
          induction k with
          | zero => intro x9 hx9 hx1 hk; exact absurd hk (Nat.not_lt_zero _)
          | succ k ih_INN =>
            intro x9 hx9 hx1 hk ctv_6 H locs hv0_6 _ hofv_6 _ hW hS ls hl
            refine lv_iload hx hb dX3_lowerColumns_36 (lv_at hl 0 rfl) ?_
            refine lv_aload_n hx hb dX3_lowerColumns_38 rfl (lv_at hl 3 rfl) ?_
            refine rm_get (ci := 3) (v := .int (jI ((kz : Nat) : Int))) (C := RX3) (T := TX3) (N := 5) hx hb hts (by decide +kernel) hown hK hW ((hofv_6 po (by omega)).trans hP.1) rfl 2 (by decide) (hts (.fieldLink RX3 20 "GrainYard$Parts" "size" "I") (by decide +kernel)) (fun _ h9 => h9) rfl dX3_lowerColumns_39 ?_
            refine rm_icmp_ge (tgt := 88) hx hb ⟨by omega, by omega⟩ ⟨by omega, by omega⟩ dX3_lowerColumns_42 (by decide) (fun hc_7 => ?_) (fun hc_7 => ?_)
            · skip
              have hxk : x9 = kz := by omega
              have hk_8 : ∀ i9, i9 < 8 → ctv_6 (po + 1 + 1 + i9) = some (rl ty 8 ((lcs kz tr co least T (q9 + 1)) i9)) := by rw [← (show (cwf tr co t9 (co + 1 + q9) T9 x9) = (lcs kz tr co least T (q9 + 1)) from by rw [hxk, ht9v, hT9]; rfl)]; exact hv0_6
              refine lv_iinc (v := jI ((((co + 1 + q9) : Nat) : Int) + 1)) (lv' := [(4, .int (jI ((((co + 1 + q9) : Nat) : Int) + 1))), (7, .int (jI ((x9 : Nat) : Int))), (5, .long (jL t9)), (0, .ref (ad po)), (1, .int (jI ((co : Nat) : Int))), (2, .long (jL least))]) hx hb dX3_lowerColumns_88 hl (k := 2) rfl (jI_add _ _) (by decide) rfl (fun ls hl => ?_)
              refine lv_goto (tgt := 5) hx hb dX3_lowerColumns_91 (by decide) ?_
              exact ih_OUT (q9 + 1) (by omega) (by omega) ctv_6 _ _ hk_8 trivial hofv_6 trivial hW hS ls (lv_sub hl [0, 3, 4, 5] rfl)
            · skip
              have e1 : (cwf tr co t9 (co + 1 + q9) T9 x9) x9 (co + 1 + q9) = (T9 x9 (co + 1 + q9)) := congrFun (cwf_at (Nat.le_refl _)) _
              have e2 : (cwf tr co t9 (co + 1 + q9) T9 x9) x9 co = (T9 x9 co) := congrFun (cwf_at (Nat.le_refl _)) _
              have b1 := hR9 x9 (co + 1 + q9) (by omega) (by omega)
              have b2 := hR9 x9 co (by omega) hc
              have bm1 : 0 ≤ t9 * (T9 x9 co) := Int.mul_nonneg htb.1 b2.1
              have bm2 : t9 * (T9 x9 co) ≤ 2147483648 * 2147483648 := Int.mul_le_mul (by omega) (by omega) b2.1 (by omega)
              refine lv_aload_n hx hb dX3_lowerColumns_45 rfl (lv_at hl 3 rfl) ?_
              refine rm_get (ci := 3) (v := .ref (ad (po + 1))) (C := RX3) (T := TX3) (N := 5) hx hb hts (by decide +kernel) hown hK hW ((hofv_6 po (by omega)).trans hP.1) rfl 0 (by decide) (hts (.fieldLink RX3 11 "GrainYard$Parts" "table" "[[J") (by decide +kernel)) (fun _ h9 => h9) rfl dX3_lowerColumns_46 ?_
              refine lv_iload hx hb dX3_lowerColumns_49 (lv_at hl 0 rfl) ?_
              refine rm_aald hx hb hK hW (f := (fun i => if i < 8 then some (ad (po + 1 + 1 + i)) else none)) ((hofv_6 (po + 1) (by omega)).trans hP.2.1) rfl rfl x9 rfl (by omega) (by omega) dX3_lowerColumns_51 (congrArg va_rf (if_pos (by omega))) ?_
              refine lv_iload hx hb dX3_lowerColumns_52 (lv_at hl 2 rfl) ?_
              refine lv_aload_n hx hb dX3_lowerColumns_54 rfl (lv_at hl 3 rfl) ?_
              refine lv_aload_n hx hb dX3_lowerColumns_55 rfl (lv_at hl 3 rfl) ?_
              refine rm_get (ci := 3) (v := .ref (ad (po + 1))) (C := RX3) (T := TX3) (N := 5) hx hb hts (by decide +kernel) hown hK hW ((hofv_6 po (by omega)).trans hP.1) rfl 0 (by decide) (hts (.fieldLink RX3 11 "GrainYard$Parts" "table" "[[J") (by decide +kernel)) (fun _ h9 => h9) rfl dX3_lowerColumns_56 ?_
              refine lv_iload hx hb dX3_lowerColumns_59 (lv_at hl 0 rfl) ?_
              refine rm_aald hx hb hK hW (f := (fun i => if i < 8 then some (ad (po + 1 + 1 + i)) else none)) ((hofv_6 (po + 1) (by omega)).trans hP.2.1) rfl rfl x9 rfl (by omega) (by omega) dX3_lowerColumns_61 (congrArg va_rf (if_pos (by omega))) ?_
              refine lv_iload hx hb dX3_lowerColumns_62 (lv_at hl 2 rfl) ?_
              refine rm_lald hx hb hK hW (f := ((cwf tr co t9 (co + 1 + q9) T9 x9) x9)) (hv0_6 x9 (by omega)) (co + 1 + q9) rfl (by omega) (by omega) dX3_lowerColumns_64 ?_
              refine lv_lload hx hb dX3_lowerColumns_65 (lv_at hl 1 rfl) ?_
              refine lv_aload_n hx hb dX3_lowerColumns_67 rfl (lv_at hl 3 rfl) ?_
              refine rm_get (ci := 3) (v := .ref (ad (po + 1))) (C := RX3) (T := TX3) (N := 5) hx hb hts (by decide +kernel) hown hK hW ((hofv_6 po (by omega)).trans hP.1) rfl 0 (by decide) (hts (.fieldLink RX3 11 "GrainYard$Parts" "table" "[[J") (by decide +kernel)) (fun _ h9 => h9) rfl dX3_lowerColumns_68 ?_
              refine lv_iload hx hb dX3_lowerColumns_71 (lv_at hl 0 rfl) ?_
              refine rm_aald hx hb hK hW (f := (fun i => if i < 8 then some (ad (po + 1 + 1 + i)) else none)) ((hofv_6 (po + 1) (by omega)).trans hP.2.1) rfl rfl x9 rfl (by omega) (by omega) dX3_lowerColumns_73 (congrArg va_rf (if_pos (by omega))) ?_
              refine lv_iload_n hx hb dX3_lowerColumns_74 rfl (lv_at hl 4 rfl) ?_
              refine rm_lald hx hb hK hW (f := ((cwf tr co t9 (co + 1 + q9) T9 x9) x9)) (hv0_6 x9 (by omega)) co rfl (by omega) (by omega) dX3_lowerColumns_75 ?_
              refine rm_lmul hx hb dX3_lowerColumns_76 ?_
              refine rm_lsub hx hb dX3_lowerColumns_77 ?_
              rw [e1, e2]
              refine rm_calll (va_runV (As := [.long (jL ((T9 x9 (co + 1 + q9)) - t9 * (T9 x9 co)))]) (rest := [.int (jI (((co + 1 + q9) : Nat) : Int)), .ref (ad (po + 1 + 1 + x9))]) ⟨hx, hb, hml, hown, hts⟩ (c_X3_counted l D ty ad ctv_6 H.size po kz on tr r (cwf tr co t9 (co + 1 + q9) T9 x9) ((T9 x9 (co + 1 + q9)) - t9 * (T9 x9 co)) ⟨by omega, by omega⟩ ht (by omega) hkz ⟨((hofv_6 po (by omega)).trans hP.1), ((hofv_6 (po + 1) (by omega)).trans hP.2.1), ((hofv_6 (po + 10) (by omega)).trans hP.2.2.1), hv0_6⟩) (cwV 1 hts gX3_lowerColumns_X3_counted rfl rfl rfl (by decide +kernel) ⟨Nat.le_of_ble_eq_true rfl, Nat.le_of_ble_eq_true rfl⟩) (rm_preV hK hNw hW ((hofv_6 po (by omega)).trans hP.1) rfl) rfl rfl hl.1 rfl (lv_room (Nat.le_of_ble_eq_true rfl)) dX3_lowerColumns_78 ⟨Nat.zero_le _, Nat.zero_le _⟩) hW hS hA (fun z_9 ct_9 H locs hq_9 hW hS => ?_)
              obtain ⟨hz, hcc_9⟩ := hq_9
              have hcc_9 := hcc_9.symm
              subst hcc_9
              subst hz
              refine rm_last hx hb hK hW hS (f := ((cwf tr co t9 (co + 1 + q9) T9 x9) x9)) (hv0_6 x9 (by omega)) (co + 1 + q9) rfl (by omega) (by omega) dX3_lowerColumns_81 (fun H locs ct_10 hs_10 ho_10 hW hS hz_10 => ?_)
              have hof_10 : ∀ q, (q < po + 1 + 1 ∨ po + 1 + 1 + 7 < q) → ct_10 q = ct q := fun q h0_10 => (ho_10 q (by omega)).trans (hofv_6 q h0_10)
              have hm0_10 : ∀ i9, i9 < 8 → ct_10 (po + 1 + 1 + i9) = some (rl ty 8 ((ub (cwf tr co t9 (co + 1 + q9) T9 x9) x9 (ub ((cwf tr co t9 (co + 1 + q9) T9 x9) x9) (co + 1 + q9) (((T9 x9 (co + 1 + q9)) - t9 * (T9 x9 co)) % tr))) i9)) := fun i9 hi9 => by
                by_cases e9 : i9 = x9
                · rw [e9, ub_s]; exact hs_10
                · rw [ub_n _ _ e9]; exact (ho_10 _ (by omega)).trans (hv0_6 i9 hi9)
              have hk_11 : ∀ i9, i9 < 8 → ct_10 (po + 1 + 1 + i9) = some (rl ty 8 ((cwf tr co t9 (co + 1 + q9) T9 (x9 + 1)) i9)) := by rw [← (show (ub (cwf tr co t9 (co + 1 + q9) T9 x9) x9 (ub ((cwf tr co t9 (co + 1 + q9) T9 x9) x9) (co + 1 + q9) (((T9 x9 (co + 1 + q9)) - t9 * (T9 x9 co)) % tr))) = (cwf tr co t9 (co + 1 + q9) T9 (x9 + 1)) from cwf_s (by omega))]; exact hm0_10
              refine lv_iinc (v := jI (((x9 : Nat) : Int) + 1)) (lv' := [(7, .int (jI (((x9 : Nat) : Int) + 1))), (5, .long (jL t9)), (4, .int (jI (((co + 1 + q9) : Nat) : Int))), (0, .ref (ad po)), (1, .int (jI ((co : Nat) : Int))), (2, .long (jL least))]) hx hb dX3_lowerColumns_82 hl (k := 0) rfl (jI_add _ _) (by decide) rfl (fun ls hl => ?_)
              refine lv_goto (tgt := 36) hx hb dX3_lowerColumns_85 (by decide) ?_
              exact ih_INN (x9 + 1) (by omega) (by omega) (by omega) ct_10 _ _ hk_11 trivial hof_10 trivial hW hS ls (lv_sub hl [0, 1, 2, 3, 4, 5] rfl)
        exact INN (kz + 1) (co) (by omega) (by omega) (by omega) ctv_2 _ _ hk_5 trivial hofv_2 trivial hW hS ls (lv_sub hl [0, 1, 2, 3, 4, 5] rfl)
  exact OUT (kz + 1) (0) (by omega) (by omega) ct _ _ hk_1 trivial (fun _ _ => rfl) trivial hW hS ls (lv_sub hl [0, 1, 2, 3] rfl)
