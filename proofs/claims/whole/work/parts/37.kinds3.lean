set_option maxHeartbeats 4000000 in
set_option maxRecDepth 100000 in
theorem c_X2_fillTable (l : Launch) (D : va_G) (ty : Nat → ClassId) (ad : Nat → Nat) (ct : rm_C) (sz : Nat) (yr n : Nat) (M : Nat → Nat → Int) (d : Nat → Int) (u : Int) (ko : Nat) (fu li so fa : Nat → Int) (T : Nat → Nat → Int) (gr : Nat) (g : Nat → Int) (hg : ct gr = some (rl ty 8 g)) (hgr : gr < ko + 6 + 1 ∨ ko + 6 + 1 + 7 < gr) (hn : 1 ≤ n ∧ n ≤ 8) (hM : ∀ i j, 0 ≤ M i j ∧ M i j ≤ 3) (hd0 : ∀ i, i < 8 → 0 ≤ d i ∧ d i ≤ 21) (hY : YardAt ty ad ct yr n M d u) (hKi : KindsAt ty ad ct ko fu li so fa T) (hko : ko + 14 < yr ∨ yr + 10 < ko) : Met l yX2_fillTable wsX2_fillTable ({ frames := 0, cells := 0, slots := 0, locals := 0 }) (rm_P D ty ad ct sz [.ref (ad ko), .ref (ad yr), .ref (ad gr)]) (rm_Qv D ad ct sz 0 (fun ct1 => (∀ i9, i9 < 8 → ct1 (ko + 6 + 1 + i9) = some (rl ty 8 ((tfp n M d g T n 0) i9))) ∧ ∀ q, (q < ko + 6 + 1 ∨ ko + 6 + 1 + 7 < q) → ct1 q = ct q)) 0 0 (rm_A ad ct sz) := by
  refine Met.ofW (cc := cX2_fillTable) (maxL := 5) (ret := none) (by decide) rfl ?_
  intro p e s m args below meth c s₁ B hml hv
  obtain ⟨hargs, hsz, hW, hK, hNw⟩ := hv
  have hx := B.exec
  have hb := B.bytes
  have hr := B.returns
  have hts := atoms_spec (ws := wsX2_fillTable) B.pre
  have hown : s.vm.findClass RX2 = some m.cls := findClass_of_methodNamed B.named
  have hlocks := B.notSynchronized
  subst hsz
  have hW := hW.own (sz := s.heap.size)
  have hA : ∀ q : Nat, s.heap.size ≤ q → rm_A ad ct s.heap.size q := fun q h => Or.inr h
  have hS : va_S (rm_A ad ct s.heap.size) s.heap s.heap [] := va_S.rf
  have hent : entryFrame m args 5 = entryFrame m ([.ref (ad ko), .ref (ad yr), .ref (ad gr)] : List Value).toArray 5 := by rw [hargs]
  have hl := lv_entry ([.ref (ad ko), .ref (ad yr), .ref (ad gr)]) (n := 5) (Nat.le_of_ble_eq_true rfl)
  rw [hent, lg_entry_eq]
  generalize (lg_sl ([.ref (ad ko), .ref (ad yr), .ref (ad gr)]) ++ List.replicate (5 - (lg_sl ([.ref (ad ko), .ref (ad yr), .ref (ad gr)])).length) Slot.unset).toArray = ls at hl ⊢
  have hl : lv_has ls 5 [(0, .ref (ad ko)), (1, .ref (ad yr)), (2, .ref (ad gr))] := hl
  have hTb : ∀ i9, i9 < 8 → ct (ko + 6 + 1 + i9) = some (rl ty 8 (T i9)) := fun i9 hi9 => hKi.2.2.2.2.2.2.2 i9 hi9
  refine lv_iconst (v := jI 1) hx hb dX2_fillTable_0 rfl ?_
  refine lv_istore_n (lv' := [(3, .int (jI 1)), (0, .ref (ad ko)), (1, .ref (ad yr)), (2, .ref (ad gr))]) hx hb dX2_fillTable_1 rfl hl (by decide) rfl (fun ls hl => ?_)
  have hk_1 : ∀ i9, i9 < 8 → ct (ko + 6 + 1 + i9) = some (rl ty 8 ((tfp n M d g T 1 0) i9)) := by rw [← (show T = (tfp n M d g T 1 0) from tfp_0 n M d g T)]; exact hTb
  have OUT : ∀ (k : Nat) (r : Nat) (hr9 : r ≤ n) (hr1 : 1 ≤ r), n - r < k → ∀ (ctv : rm_C) (H : Heap) (locs : List Loc), (∀ i9, i9 < 8 → ctv (ko + 6 + 1 + i9) = some (rl ty 8 ((tfp n M d g T r 0) i9))) → ∀ (_ : True), (∀ q, (q < ko + 6 + 1 ∨ ko + 6 + 1 + 7 < q) → ctv q = ct q) → ∀ (_ : True), rm_W D ad ctv (rm_A ad ct s.heap.size) H → va_S (rm_A ad ct s.heap.size) s.heap H locs → ∀ ls : Array Slot, lv_has ls 5 [(3, .int (jI ((r : Nat) : Int))), (0, .ref (ad ko)), (1, .ref (ad yr)), (2, .ref (ad gr))] → W p l e (headSpec wsX2_fillTable ({ frames := 0, cells := 0, slots := 0, locals := 0 })).room s m args below meth c H locs 0 0 (MQ below (rm_Qv D ad ct s.heap.size 0 (fun ct1 => (∀ i9, i9 < 8 → ct1 (ko + 6 + 1 + i9) = some (rl ty 8 ((tfp n M d g T n 0) i9))) ∧ ∀ q, (q < ko + 6 + 1 ∨ ko + 6 + 1 + 7 < q) → ct1 q = ct q)) args s 0 0 (rm_A ad ct s.heap.size)) (F0 m 2 ls []) := by
    intro k
    induction k with
    | zero => intro r hr9 hr1 hk; exact absurd hk (Nat.not_lt_zero _)
    | succ k ih_OUT =>
      intro r hr9 hr1 hk ctv_2 H locs hv0_2 _ hofv_2 _ hW hS ls hl
      refine lv_iload_n hx hb dX2_fillTable_2 rfl (lv_at hl 0 rfl) ?_
      refine lv_aload_n hx hb dX2_fillTable_3 rfl (lv_at hl 2 rfl) ?_
      refine rm_get (ci := 4) (v := .int (jI ((n : Nat) : Int))) (C := RX4) (T := TX4) (N := 4) hx hb hts (by decide +kernel) hown hK hW ((hofv_2 yr (by omega)).trans hY.1) rfl 0 (by decide) (hts (.fieldLink RX2 32 "GrainYard$Yard" "places" "I") (by decide +kernel)) (fun _ h9 => h9) rfl dX2_fillTable_4 ?_
      refine rm_icmp_ge (tgt := 81) hx hb ⟨by omega, by omega⟩ ⟨by omega, by omega⟩ dX2_fillTable_7 (by decide) (fun hc_3 => ?_) (fun hc_3 => ?_)
      · skip
        have hi : n = r := by omega
        subst hi
        exact W.vret hx hb hr (fun t ht hw => ⟨⟨ctv_2, rfl, ⟨hv0_2, fun q hq => hofv_2 q hq⟩, by show rm_W D ad _ _ t.heap; rw [ht]; exact hW, Or.inl rfl⟩, hS.F ht⟩) hS.2.2 dX2_fillTable_81
      · skip
        refine lv_aload_n hx hb dX2_fillTable_10 rfl (lv_at hl 1 rfl) ?_
        refine rm_get (ci := 2) (v := .ref (ad (ko + 6))) (C := RX2) (T := TX2) (N := 6) hx hb hts (by decide +kernel) hown hK hW ((hofv_2 ko (by omega)).trans hKi.1) rfl 5 (by decide) (hts (.fieldLink RX2 29 "GrainYard$Kinds" "table" "[[J") (by decide +kernel)) (fun _ h9 => h9) rfl dX2_fillTable_11 ?_
        refine lv_iload_n hx hb dX2_fillTable_14 rfl (lv_at hl 0 rfl) ?_
        refine rm_aald hx hb hK hW (f := (fun i => if i < 8 then some (ad (ko + 6 + 1 + i)) else none)) ((hofv_2 (ko + 6) (by omega)).trans hKi.2.2.2.2.2.2.1) rfl rfl r rfl (by omega) (by omega) dX2_fillTable_15 (congrArg va_rf (if_pos (by omega))) ?_
        refine lv_iconst (v := jI 0) hx hb dX2_fillTable_16 rfl ?_
        refine lv_aload_n hx hb dX2_fillTable_17 rfl (lv_at hl 3 rfl) ?_
        refine lv_iload_n hx hb dX2_fillTable_18 rfl (lv_at hl 0 rfl) ?_
        refine rm_lald hx hb hK hW (f := g) ((hofv_2 gr (by omega)).trans hg) r rfl (by omega) (by omega) dX2_fillTable_19 ?_
        refine rm_last hx hb hK hW hS (f := ((tfp n M d g T r 0) r)) (hv0_2 r (by omega)) 0 rfl (by omega) (by omega) dX2_fillTable_20 (fun H locs ct_4 hs_4 ho_4 hW hS hz_4 => ?_)
        have hof_4 : ∀ q, (q < ko + 6 + 1 ∨ ko + 6 + 1 + 7 < q) → ct_4 q = ct q := fun q h0_4 => (ho_4 q (by omega)).trans (hofv_2 q h0_4)
        have hm0_4 : ∀ i9, i9 < 8 → ct_4 (ko + 6 + 1 + i9) = some (rl ty 8 ((ub (tfp n M d g T r 0) r (ub ((tfp n M d g T r 0) r) 0 (g r))) i9)) := fun i9 hi9 => by
          by_cases e9 : i9 = r
          · rw [e9, ub_s]; exact hs_4
          · rw [ub_n _ _ e9]; exact (ho_4 _ (by omega)).trans (hv0_2 i9 hi9)
        refine lv_iconst (v := jI 1) hx hb dX2_fillTable_21 rfl ?_
        refine lv_istore (lv' := [(4, .int (jI 1)), (3, .int (jI ((r : Nat) : Int))), (0, .ref (ad ko)), (1, .ref (ad yr)), (2, .ref (ad gr))]) hx hb dX2_fillTable_22 hl (by decide) rfl (fun ls hl => ?_)
        have hk_5 : ∀ i9, i9 < 8 → ct_4 (ko + 6 + 1 + i9) = some (rl ty 8 ((tfp n M d g T r 1) i9)) := by rw [← (show (ub (tfp n M d g T r 0) r (ub ((tfp n M d g T r 0) r) 0 (g r))) = (tfp n M d g T r 1) from tfp_s hr1 (by omega) (g r) rfl)]; exact hm0_4
        have INN : ∀ (k : Nat) (k9 : Nat) (hc9 : k9 ≤ n) (hc1 : 1 ≤ k9), n - k9 < k → ∀ (ctv : rm_C) (H : Heap) (locs : List Loc), (∀ i9, i9 < 8 → ctv (ko + 6 + 1 + i9) = some (rl ty 8 ((tfp n M d g T r k9) i9))) → ∀ (_ : True), (∀ q, (q < ko + 6 + 1 ∨ ko + 6 + 1 + 7 < q) → ctv q = ct q) → ∀ (_ : True), rm_W D ad ctv (rm_A ad ct s.heap.size) H → va_S (rm_A ad ct s.heap.size) s.heap H locs → ∀ ls : Array Slot, lv_has ls 5 [(4, .int (jI ((k9 : Nat) : Int))), (3, .int (jI ((r : Nat) : Int))), (0, .ref (ad ko)), (1, .ref (ad yr)), (2, .ref (ad gr))] → W p l e (headSpec wsX2_fillTable ({ frames := 0, cells := 0, slots := 0, locals := 0 })).room s m args below meth c H locs 0 0 (MQ below (rm_Qv D ad ct s.heap.size 0 (fun ct1 => (∀ i9, i9 < 8 → ct1 (ko + 6 + 1 + i9) = some (rl ty 8 ((tfp n M d g T n 0) i9))) ∧ ∀ q, (q < ko + 6 + 1 ∨ ko + 6 + 1 + 7 < q) → ct1 q = ct q)) args s 0 0 (rm_A ad ct s.heap.size)) (F0 m 24 ls []) := by
          intro k
          induction k with
          | zero => intro k9 hc9 hc1 hk; exact absurd hk (Nat.not_lt_zero _)
          | succ k ih_INN =>
            intro k9 hc9 hc1 hk ctv_6 H locs hv0_6 _ hofv_6 _ hW hS ls hl
            refine lv_iload hx hb dX2_fillTable_24 (lv_at hl 0 rfl) ?_
            refine lv_aload_n hx hb dX2_fillTable_26 rfl (lv_at hl 3 rfl) ?_
            refine rm_get (ci := 4) (v := .int (jI ((n : Nat) : Int))) (C := RX4) (T := TX4) (N := 4) hx hb hts (by decide +kernel) hown hK hW ((hofv_6 yr (by omega)).trans hY.1) rfl 0 (by decide) (hts (.fieldLink RX2 32 "GrainYard$Yard" "places" "I") (by decide +kernel)) (fun _ h9 => h9) rfl dX2_fillTable_27 ?_
            refine rm_icmp_ge (tgt := 75) hx hb ⟨by omega, by omega⟩ ⟨by omega, by omega⟩ dX2_fillTable_30 (by decide) (fun hc_7 => ?_) (fun hc_7 => ?_)
            · skip
              have hc : n = k9 := by omega
              have hk_8 : ∀ i9, i9 < 8 → ctv_6 (ko + 6 + 1 + i9) = some (rl ty 8 ((tfp n M d g T (r + 1) 0) i9)) := by rw [← (show (tfp n M d g T r k9) = (tfp n M d g T (r + 1) 0) from by rw [← hc]; exact tfp_n hr1)]; exact hv0_6
              refine lv_iinc (v := jI (((r : Nat) : Int) + 1)) (lv' := [(3, .int (jI (((r : Nat) : Int) + 1))), (4, .int (jI ((k9 : Nat) : Int))), (0, .ref (ad ko)), (1, .ref (ad yr)), (2, .ref (ad gr))]) hx hb dX2_fillTable_75 hl (k := 1) rfl (jI_add _ _) (by decide) rfl (fun ls hl => ?_)
              refine lv_goto (tgt := 2) hx hb dX2_fillTable_78 (by decide) ?_
              exact ih_OUT (r + 1) (by omega) (by omega) (by omega) ctv_6 _ _ hk_8 trivial hofv_6 trivial hW hS ls (lv_sub hl [0, 2, 3, 4] rfl)
            · skip
              have hMr := hM r k9
              have hdr := hd0 r (by omega)
              refine lv_aload_n hx hb dX2_fillTable_33 rfl (lv_at hl 2 rfl) ?_
              refine rm_get (ci := 2) (v := .ref (ad (ko + 6))) (C := RX2) (T := TX2) (N := 6) hx hb hts (by decide +kernel) hown hK hW ((hofv_6 ko (by omega)).trans hKi.1) rfl 5 (by decide) (hts (.fieldLink RX2 29 "GrainYard$Kinds" "table" "[[J") (by decide +kernel)) (fun _ h9 => h9) rfl dX2_fillTable_34 ?_
              refine lv_iload_n hx hb dX2_fillTable_37 rfl (lv_at hl 1 rfl) ?_
              refine rm_aald hx hb hK hW (f := (fun i => if i < 8 then some (ad (ko + 6 + 1 + i)) else none)) ((hofv_6 (ko + 6) (by omega)).trans hKi.2.2.2.2.2.2.1) rfl rfl r rfl (by omega) (by omega) dX2_fillTable_38 (congrArg va_rf (if_pos (by omega))) ?_
              refine lv_iload hx hb dX2_fillTable_39 (lv_at hl 0 rfl) ?_
              refine lv_iload_n hx hb dX2_fillTable_41 rfl (lv_at hl 1 rfl) ?_
              refine lv_iload hx hb dX2_fillTable_42 (lv_at hl 0 rfl) ?_
              refine rm_icmp_ne (tgt := 57) hx hb ⟨by omega, by omega⟩ ⟨by omega, by omega⟩ dX2_fillTable_44 (by decide) (fun hc_9 => ?_) (fun hc_9 => ?_)
              · skip
                refine lv_aload_n hx hb dX2_fillTable_57 rfl (lv_at hl 3 rfl) ?_
                refine rm_get (ci := 4) (v := .ref (ad (yr + 1))) (C := RX4) (T := TX4) (N := 4) hx hb hts (by decide +kernel) hown hK hW ((hofv_6 yr (by omega)).trans hY.1) rfl 1 (by decide) (hts (.fieldLink RX2 82 "GrainYard$Yard" "paths" "[[I") (by decide +kernel)) (fun _ h9 => h9) rfl dX2_fillTable_58 ?_
                refine lv_iload_n hx hb dX2_fillTable_61 rfl (lv_at hl 1 rfl) ?_
                refine rm_aald hx hb hK hW (f := (fun i => if i < 8 then some (ad (yr + 1 + 1 + i)) else none)) ((hofv_6 (yr + 1) (by omega)).trans hY.2.1) rfl rfl r rfl (by omega) (by omega) dX2_fillTable_62 (congrArg va_rf (if_pos (by omega))) ?_
                refine lv_iload hx hb dX2_fillTable_63 (lv_at hl 0 rfl) ?_
                refine rm_iald hx hb hK hW (f := (M r)) ((hofv_6 (yr + 1 + 1 + r) (by omega)).trans (hY.2.2.1 r (by omega))) k9 rfl (by omega) (by omega) dX2_fillTable_65 ?_
                refine rm_ineg hx hb dX2_fillTable_66 ?_
                refine rm_i2l hx hb dX2_fillTable_67 ⟨by omega, by omega⟩ ?_
                refine rm_last hx hb hK hW hS (f := ((tfp n M d g T r k9) r)) (hv0_6 r (by omega)) k9 rfl (by omega) (by omega) dX2_fillTable_68 (fun H locs ct_10 hs_10 ho_10 hW hS hz_10 => ?_)
                have hof_10 : ∀ q, (q < ko + 6 + 1 ∨ ko + 6 + 1 + 7 < q) → ct_10 q = ct q := fun q h0_10 => (ho_10 q (by omega)).trans (hofv_6 q h0_10)
                have hm0_10 : ∀ i9, i9 < 8 → ct_10 (ko + 6 + 1 + i9) = some (rl ty 8 ((ub (tfp n M d g T r k9) r (ub ((tfp n M d g T r k9) r) k9 (-((M r) k9)))) i9)) := fun i9 hi9 => by
                  by_cases e9 : i9 = r
                  · rw [e9, ub_s]; exact hs_10
                  · rw [ub_n _ _ e9]; exact (ho_10 _ (by omega)).trans (hv0_6 i9 hi9)
                have hk_11 : ∀ i9, i9 < 8 → ct_10 (ko + 6 + 1 + i9) = some (rl ty 8 ((tfp n M d g T r (k9 + 1)) i9)) := by rw [← (show (ub (tfp n M d g T r k9) r (ub ((tfp n M d g T r k9) r) k9 (-((M r) k9)))) = (tfp n M d g T r (k9 + 1)) from tfp_s hr1 (by omega) (- M r k9) (by unfold ent; rw [if_neg (by omega)]; rw [if_neg (by omega)]))]; exact hm0_10
                refine lv_iinc (v := jI (((k9 : Nat) : Int) + 1)) (lv' := [(4, .int (jI (((k9 : Nat) : Int) + 1))), (3, .int (jI ((r : Nat) : Int))), (0, .ref (ad ko)), (1, .ref (ad yr)), (2, .ref (ad gr))]) hx hb dX2_fillTable_69 hl (k := 0) rfl (jI_add _ _) (by decide) rfl (fun ls hl => ?_)
                refine lv_goto (tgt := 24) hx hb dX2_fillTable_72 (by decide) ?_
                exact ih_INN (k9 + 1) (by omega) (by omega) (by omega) ct_10 _ _ hk_11 trivial hof_10 trivial hW hS ls (lv_sub hl [0, 1, 2, 3, 4] rfl)
              · skip
                refine lv_aload_n hx hb dX2_fillTable_47 rfl (lv_at hl 3 rfl) ?_
                refine rm_get (ci := 4) (v := .ref (ad (yr + 10))) (C := RX4) (T := TX4) (N := 4) hx hb hts (by decide +kernel) hown hK hW ((hofv_6 yr (by omega)).trans hY.1) rfl 2 (by decide) (hts (.fieldLink RX2 38 "GrainYard$Yard" "degrees" "[I") (by decide +kernel)) (fun _ h9 => h9) rfl dX2_fillTable_48 ?_
                refine lv_iload_n hx hb dX2_fillTable_51 rfl (lv_at hl 1 rfl) ?_
                refine rm_iald hx hb hK hW (f := d) ((hofv_6 (yr + 10) (by omega)).trans hY.2.2.2) r rfl (by omega) (by omega) dX2_fillTable_52 ?_
                refine rm_i2l hx hb dX2_fillTable_53 ⟨by omega, by omega⟩ ?_
                refine lv_goto (tgt := 68) hx hb dX2_fillTable_54 (by decide) ?_
                refine rm_last hx hb hK hW hS (f := ((tfp n M d g T r k9) r)) (hv0_6 r (by omega)) k9 rfl (by omega) (by omega) dX2_fillTable_68 (fun H locs ct_12 hs_12 ho_12 hW hS hz_12 => ?_)
                have hof_12 : ∀ q, (q < ko + 6 + 1 ∨ ko + 6 + 1 + 7 < q) → ct_12 q = ct q := fun q h0_12 => (ho_12 q (by omega)).trans (hofv_6 q h0_12)
                have hm0_12 : ∀ i9, i9 < 8 → ct_12 (ko + 6 + 1 + i9) = some (rl ty 8 ((ub (tfp n M d g T r k9) r (ub ((tfp n M d g T r k9) r) k9 (d r))) i9)) := fun i9 hi9 => by
                  by_cases e9 : i9 = r
                  · rw [e9, ub_s]; exact hs_12
                  · rw [ub_n _ _ e9]; exact (ho_12 _ (by omega)).trans (hv0_6 i9 hi9)
                have hk_13 : ∀ i9, i9 < 8 → ct_12 (ko + 6 + 1 + i9) = some (rl ty 8 ((tfp n M d g T r (k9 + 1)) i9)) := by rw [← (show (ub (tfp n M d g T r k9) r (ub ((tfp n M d g T r k9) r) k9 (d r))) = (tfp n M d g T r (k9 + 1)) from tfp_s hr1 (by omega) (d r) (by unfold ent; rw [if_neg (by omega)]; rw [if_pos (by omega)]))]; exact hm0_12
                refine lv_iinc (v := jI (((k9 : Nat) : Int) + 1)) (lv' := [(4, .int (jI (((k9 : Nat) : Int) + 1))), (3, .int (jI ((r : Nat) : Int))), (0, .ref (ad ko)), (1, .ref (ad yr)), (2, .ref (ad gr))]) hx hb dX2_fillTable_69 hl (k := 0) rfl (jI_add _ _) (by decide) rfl (fun ls hl => ?_)
                refine lv_goto (tgt := 24) hx hb dX2_fillTable_72 (by decide) ?_
                exact ih_INN (k9 + 1) (by omega) (by omega) (by omega) ct_12 _ _ hk_13 trivial hof_12 trivial hW hS ls (lv_sub hl [0, 1, 2, 3, 4] rfl)
        exact INN (n + 1) (1) (by omega) (by omega) (by omega) ct_4 _ _ hk_5 trivial hof_4 trivial hW hS ls (lv_sub hl [0, 1, 2, 3, 4] rfl)
  exact OUT (n + 1) (1) (by omega) (by omega) (by omega) ct _ _ hk_1 trivial (fun _ _ => rfl) trivial hW hS ls (lv_sub hl [0, 1, 2, 3] rfl)
set_option maxHeartbeats 4000000 in
set_option maxRecDepth 100000 in
theorem c_X2_clearInRow (l : Launch) (D : va_G) (ty : Nat → ClassId) (ad : Nat → Nat) (ct : rm_C) (sz : Nat) (yr n : Nat) (M : Nat → Nat → Int) (d : Nat → Int) (u : Int) (ko : Nat) (fu li so fa : Nat → Int) (T : Nat → Nat → Int) (row pv : Nat) (last : Int) (hn : n ≤ 8) (hrow : row < n) (hpv : pv < n) (hne : row ≠ pv) (hl0 : last ≠ 0) (hl64 : r64 last) (hN : ∀ c9, c9 < n → r64 (T pv pv * T row c9 - T row pv * T pv c9)) (hY : YardAt ty ad ct yr n M d u) (hKi : KindsAt ty ad ct ko fu li so fa T) (hko : ko + 14 < yr ∨ yr + 10 < ko) : Met l yX2_clearInRow wsX2_clearInRow ({ frames := 0, cells := 0, slots := 0, locals := 0 }) (rm_P D ty ad ct sz [.ref (ad ko), .ref (ad yr), .int (jI ((row : Nat) : Int)), .int (jI ((pv : Nat) : Int)), .long (jL last)]) (rm_Qv D ad ct sz 0 (fun ct1 => (∀ i9, i9 < 8 → ct1 (ko + 6 + 1 + i9) = some (rl ty 8 ((clr n T row pv last n) i9))) ∧ ∀ q, (q < ko + 6 + 1 ∨ ko + 6 + 1 + 7 < q) → ct1 q = ct q)) 0 0 (rm_A ad ct sz) := by
  refine Met.ofW (cc := cX2_clearInRow) (maxL := 11) (ret := none) (by decide) rfl ?_
  intro p e s m args below meth c s₁ B hml hv
  obtain ⟨hargs, hsz, hW, hK, hNw⟩ := hv
  have hx := B.exec
  have hb := B.bytes
  have hr := B.returns
  have hts := atoms_spec (ws := wsX2_clearInRow) B.pre
  have hown : s.vm.findClass RX2 = some m.cls := findClass_of_methodNamed B.named
  have hlocks := B.notSynchronized
  subst hsz
  have hW := hW.own (sz := s.heap.size)
  have hA : ∀ q : Nat, s.heap.size ≤ q → rm_A ad ct s.heap.size q := fun q h => Or.inr h
  have hS : va_S (rm_A ad ct s.heap.size) s.heap s.heap [] := va_S.rf
  have hent : entryFrame m args 11 = entryFrame m ([.ref (ad ko), .ref (ad yr), .int (jI ((row : Nat) : Int)), .int (jI ((pv : Nat) : Int)), .long (jL last)] : List Value).toArray 11 := by rw [hargs]
  have hl := lv_entry ([.ref (ad ko), .ref (ad yr), .int (jI ((row : Nat) : Int)), .int (jI ((pv : Nat) : Int)), .long (jL last)]) (n := 11) (Nat.le_of_ble_eq_true rfl)
  rw [hent, lg_entry_eq]
  generalize (lg_sl ([.ref (ad ko), .ref (ad yr), .int (jI ((row : Nat) : Int)), .int (jI ((pv : Nat) : Int)), .long (jL last)]) ++ List.replicate (11 - (lg_sl ([.ref (ad ko), .ref (ad yr), .int (jI ((row : Nat) : Int)), .int (jI ((pv : Nat) : Int)), .long (jL last)])).length) Slot.unset).toArray = ls at hl ⊢
  have hl : lv_has ls 11 [(0, .ref (ad ko)), (1, .ref (ad yr)), (2, .int (jI ((row : Nat) : Int))), (3, .int (jI ((pv : Nat) : Int))), (4, .long (jL last))] := hl
  have hTb : ∀ i9, i9 < 8 → ct (ko + 6 + 1 + i9) = some (rl ty 8 (T i9)) := fun i9 hi9 => hKi.2.2.2.2.2.2.2 i9 hi9
  refine lv_lload hx hb dX2_clearInRow_0 (lv_at hl 4 rfl) ?_
  refine lv_lconst (v := jL 0) hx hb dX2_clearInRow_2 rfl ?_
  refine rm_lcmp hx hb hl64 ⟨by omega, by omega⟩ dX2_clearInRow_3 ?_
  refine rm_if_ne (tgt := 8) hx hb (lcv_rng _ _) dX2_clearInRow_4 (by decide) (fun _ => ?_) (fun hq => absurd (lcv_eq.mp hq) (by omega))
  refine lv_aload_n hx hb dX2_clearInRow_8 rfl (lv_at hl 0 rfl) ?_
  refine rm_get (ci := 2) (v := .ref (ad (ko + 6))) (C := RX2) (T := TX2) (N := 6) hx hb hts (by decide +kernel) hown hK hW hKi.1 rfl 5 (by decide) (hts (.fieldLink RX2 29 "GrainYard$Kinds" "table" "[[J") (by decide +kernel)) (fun _ h9 => h9) rfl dX2_clearInRow_9 ?_
  refine lv_iload_n hx hb dX2_clearInRow_12 rfl (lv_at hl 3 rfl) ?_
  refine rm_aald hx hb hK hW (f := (fun i => if i < 8 then some (ad (ko + 6 + 1 + i)) else none)) hKi.2.2.2.2.2.2.1 rfl rfl pv rfl (by omega) (by omega) dX2_clearInRow_13 (congrArg va_rf (if_pos (by omega))) ?_
  refine lv_iload_n hx hb dX2_clearInRow_14 rfl (lv_at hl 3 rfl) ?_
  refine rm_lald hx hb hK hW (f := (T pv)) (hTb pv (by omega)) pv rfl (by omega) (by omega) dX2_clearInRow_15 ?_
  refine lv_lstore (lv' := [(6, .long (jL ((T pv) pv))), (0, .ref (ad ko)), (1, .ref (ad yr)), (2, .int (jI ((row : Nat) : Int))), (3, .int (jI ((pv : Nat) : Int))), (4, .long (jL last))]) hx hb dX2_clearInRow_16 hl (by decide) rfl (fun ls hl => ?_)
  refine lv_aload_n hx hb dX2_clearInRow_18 rfl (lv_at hl 1 rfl) ?_
  refine rm_get (ci := 2) (v := .ref (ad (ko + 6))) (C := RX2) (T := TX2) (N := 6) hx hb hts (by decide +kernel) hown hK hW hKi.1 rfl 5 (by decide) (hts (.fieldLink RX2 29 "GrainYard$Kinds" "table" "[[J") (by decide +kernel)) (fun _ h9 => h9) rfl dX2_clearInRow_19 ?_
  refine lv_iload_n hx hb dX2_clearInRow_22 rfl (lv_at hl 3 rfl) ?_
  refine rm_aald hx hb hK hW (f := (fun i => if i < 8 then some (ad (ko + 6 + 1 + i)) else none)) hKi.2.2.2.2.2.2.1 rfl rfl row rfl (by omega) (by omega) dX2_clearInRow_23 (congrArg va_rf (if_pos (by omega))) ?_
  refine lv_iload_n hx hb dX2_clearInRow_24 rfl (lv_at hl 4 rfl) ?_
  refine rm_lald hx hb hK hW (f := (T row)) (hTb row (by omega)) pv rfl (by omega) (by omega) dX2_clearInRow_25 ?_
  refine lv_lstore (lv' := [(8, .long (jL ((T row) pv))), (6, .long (jL ((T pv) pv))), (0, .ref (ad ko)), (1, .ref (ad yr)), (2, .int (jI ((row : Nat) : Int))), (3, .int (jI ((pv : Nat) : Int))), (4, .long (jL last))]) hx hb dX2_clearInRow_26 hl (by decide) rfl (fun ls hl => ?_)
  refine lv_iconst (v := jI 0) hx hb dX2_clearInRow_28 rfl ?_
  refine lv_istore (lv' := [(10, .int (jI 0)), (8, .long (jL ((T row) pv))), (6, .long (jL ((T pv) pv))), (0, .ref (ad ko)), (1, .ref (ad yr)), (2, .int (jI ((row : Nat) : Int))), (3, .int (jI ((pv : Nat) : Int))), (4, .long (jL last))]) hx hb dX2_clearInRow_29 hl (by decide) rfl (fun ls hl => ?_)
  have hk_1 : ∀ i9, i9 < 8 → ct (ko + 6 + 1 + i9) = some (rl ty 8 ((clr n T row pv last 0) i9)) := by rw [← (show T = (clr n T row pv last 0) from clr_0 n T row pv last)]; exact hTb
  have LP : ∀ (k : Nat) (i : Nat) (hi : i ≤ n), n - i < k → ∀ (ctv : rm_C) (H : Heap) (locs : List Loc), (∀ i9, i9 < 8 → ctv (ko + 6 + 1 + i9) = some (rl ty 8 ((clr n T row pv last i) i9))) → ∀ (_ : True), (∀ q, (q < ko + 6 + 1 ∨ ko + 6 + 1 + 7 < q) → ctv q = ct q) → ∀ (_ : True), rm_W D ad ctv (rm_A ad ct s.heap.size) H → va_S (rm_A ad ct s.heap.size) s.heap H locs → ∀ ls : Array Slot, lv_has ls 11 [(10, .int (jI ((i : Nat) : Int))), (8, .long (jL (T row pv))), (6, .long (jL (T pv pv))), (0, .ref (ad ko)), (1, .ref (ad yr)), (2, .int (jI ((row : Nat) : Int))), (3, .int (jI ((pv : Nat) : Int))), (4, .long (jL last))] → W p l e (headSpec wsX2_clearInRow ({ frames := 0, cells := 0, slots := 0, locals := 0 })).room s m args below meth c H locs 0 0 (MQ below (rm_Qv D ad ct s.heap.size 0 (fun ct1 => (∀ i9, i9 < 8 → ct1 (ko + 6 + 1 + i9) = some (rl ty 8 ((clr n T row pv last n) i9))) ∧ ∀ q, (q < ko + 6 + 1 ∨ ko + 6 + 1 + 7 < q) → ct1 q = ct q)) args s 0 0 (rm_A ad ct s.heap.size)) (F0 m 31 ls []) := by
    intro k
    induction k with
    | zero => intro i hi hk; exact absurd hk (Nat.not_lt_zero _)
    | succ k ih_LP =>
      intro i hi hk ctv_2 H locs hv0_2 _ hofv_2 _ hW hS ls hl
      refine lv_iload hx hb dX2_clearInRow_31 (lv_at hl 0 rfl) ?_
      refine lv_aload_n hx hb dX2_clearInRow_33 rfl (lv_at hl 4 rfl) ?_
      refine rm_get (ci := 4) (v := .int (jI ((n : Nat) : Int))) (C := RX4) (T := TX4) (N := 4) hx hb hts (by decide +kernel) hown hK hW ((hofv_2 yr (by omega)).trans hY.1) rfl 0 (by decide) (hts (.fieldLink RX2 32 "GrainYard$Yard" "places" "I") (by decide +kernel)) (fun _ h9 => h9) rfl dX2_clearInRow_34 ?_
      refine rm_icmp_ge (tgt := 83) hx hb ⟨by omega, by omega⟩ ⟨by omega, by omega⟩ dX2_clearInRow_37 (by decide) (fun hc_3 => ?_) (fun hc_3 => ?_)
      · skip
        have hi : n = i := by omega
        subst hi
        exact W.vret hx hb hr (fun t ht hw => ⟨⟨ctv_2, rfl, ⟨hv0_2, fun q hq => hofv_2 q hq⟩, by show rm_W D ad _ _ t.heap; rw [ht]; exact hW, Or.inl rfl⟩, hS.F ht⟩) hS.2.2 dX2_clearInRow_83
      · skip
        have hci : clr n T row pv last i row i = T row i := clr_at (Nat.le_refl _)
        have hcp : clr n T row pv last i pv i = T pv i := congrFun (clr_row (fun h => hne h.symm)) i
        refine lv_aload_n hx hb dX2_clearInRow_40 rfl (lv_at hl 3 rfl) ?_
        refine rm_get (ci := 2) (v := .ref (ad (ko + 6))) (C := RX2) (T := TX2) (N := 6) hx hb hts (by decide +kernel) hown hK hW ((hofv_2 ko (by omega)).trans hKi.1) rfl 5 (by decide) (hts (.fieldLink RX2 29 "GrainYard$Kinds" "table" "[[J") (by decide +kernel)) (fun _ h9 => h9) rfl dX2_clearInRow_41 ?_
        refine lv_iload_n hx hb dX2_clearInRow_44 rfl (lv_at hl 5 rfl) ?_
        refine rm_aald hx hb hK hW (f := (fun i => if i < 8 then some (ad (ko + 6 + 1 + i)) else none)) ((hofv_2 (ko + 6) (by omega)).trans hKi.2.2.2.2.2.2.1) rfl rfl row rfl (by omega) (by omega) dX2_clearInRow_45 (congrArg va_rf (if_pos (by omega))) ?_
        refine lv_iload hx hb dX2_clearInRow_46 (lv_at hl 0 rfl) ?_
        refine lv_lload hx hb dX2_clearInRow_48 (lv_at hl 2 rfl) ?_
        refine lv_aload_n hx hb dX2_clearInRow_50 rfl (lv_at hl 3 rfl) ?_
        refine rm_get (ci := 2) (v := .ref (ad (ko + 6))) (C := RX2) (T := TX2) (N := 6) hx hb hts (by decide +kernel) hown hK hW ((hofv_2 ko (by omega)).trans hKi.1) rfl 5 (by decide) (hts (.fieldLink RX2 29 "GrainYard$Kinds" "table" "[[J") (by decide +kernel)) (fun _ h9 => h9) rfl dX2_clearInRow_51 ?_
        refine lv_iload_n hx hb dX2_clearInRow_54 rfl (lv_at hl 5 rfl) ?_
        refine rm_aald hx hb hK hW (f := (fun i => if i < 8 then some (ad (ko + 6 + 1 + i)) else none)) ((hofv_2 (ko + 6) (by omega)).trans hKi.2.2.2.2.2.2.1) rfl rfl row rfl (by omega) (by omega) dX2_clearInRow_55 (congrArg va_rf (if_pos (by omega))) ?_
        refine lv_iload hx hb dX2_clearInRow_56 (lv_at hl 0 rfl) ?_
        refine rm_lald hx hb hK hW (f := ((clr n T row pv last i) row)) (hv0_2 row (by omega)) i rfl (by omega) (by omega) dX2_clearInRow_58 ?_
        refine rm_lmul hx hb dX2_clearInRow_59 ?_
        refine lv_lload hx hb dX2_clearInRow_60 (lv_at hl 1 rfl) ?_
        refine lv_aload_n hx hb dX2_clearInRow_62 rfl (lv_at hl 3 rfl) ?_
        refine rm_get (ci := 2) (v := .ref (ad (ko + 6))) (C := RX2) (T := TX2) (N := 6) hx hb hts (by decide +kernel) hown hK hW ((hofv_2 ko (by omega)).trans hKi.1) rfl 5 (by decide) (hts (.fieldLink RX2 29 "GrainYard$Kinds" "table" "[[J") (by decide +kernel)) (fun _ h9 => h9) rfl dX2_clearInRow_63 ?_
        refine lv_iload_n hx hb dX2_clearInRow_66 rfl (lv_at hl 6 rfl) ?_
        refine rm_aald hx hb hK hW (f := (fun i => if i < 8 then some (ad (ko + 6 + 1 + i)) else none)) ((hofv_2 (ko + 6) (by omega)).trans hKi.2.2.2.2.2.2.1) rfl rfl pv rfl (by omega) (by omega) dX2_clearInRow_67 (congrArg va_rf (if_pos (by omega))) ?_
        refine lv_iload hx hb dX2_clearInRow_68 (lv_at hl 0 rfl) ?_
        refine rm_lald hx hb hK hW (f := ((clr n T row pv last i) pv)) (hv0_2 pv (by omega)) i rfl (by omega) (by omega) dX2_clearInRow_70 ?_
        refine rm_lmul hx hb dX2_clearInRow_71 ?_
        refine rm_lsub hx hb dX2_clearInRow_72 ?_
        refine lv_lload hx hb dX2_clearInRow_73 (lv_at hl 7 rfl) ?_
        rw [hci, hcp]
        refine rm_ldiv hx hb dX2_clearInRow_75 (hN i (by omega)) hl64 hl0 ?_
        refine rm_last hx hb hK hW hS (f := ((clr n T row pv last i) row)) (hv0_2 row (by omega)) i rfl (by omega) (by omega) dX2_clearInRow_76 (fun H locs ct_4 hs_4 ho_4 hW hS hz_4 => ?_)
        have hof_4 : ∀ q, (q < ko + 6 + 1 ∨ ko + 6 + 1 + 7 < q) → ct_4 q = ct q := fun q h0_4 => (ho_4 q (by omega)).trans (hofv_2 q h0_4)
        have hm0_4 : ∀ i9, i9 < 8 → ct_4 (ko + 6 + 1 + i9) = some (rl ty 8 ((ub (clr n T row pv last i) row (ub ((clr n T row pv last i) row) i (Int.tdiv (T pv pv * T row i - T row pv * T pv i) last))) i9)) := fun i9 hi9 => by
          by_cases e9 : i9 = row
          · rw [e9, ub_s]; exact hs_4
          · rw [ub_n _ _ e9]; exact (ho_4 _ (by omega)).trans (hv0_2 i9 hi9)
        have hk_5 : ∀ i9, i9 < 8 → ct_4 (ko + 6 + 1 + i9) = some (rl ty 8 ((clr n T row pv last (i + 1)) i9)) := by rw [← (show (ub (clr n T row pv last i) row (ub ((clr n T row pv last i) row) i (Int.tdiv (T pv pv * T row i - T row pv * T pv i) last))) = (clr n T row pv last (i + 1)) from clr_s (by omega))]; exact hm0_4
        refine lv_iinc (v := jI (((i : Nat) : Int) + 1)) (lv' := [(10, .int (jI (((i : Nat) : Int) + 1))), (8, .long (jL (T row pv))), (6, .long (jL (T pv pv))), (0, .ref (ad ko)), (1, .ref (ad yr)), (2, .int (jI ((row : Nat) : Int))), (3, .int (jI ((pv : Nat) : Int))), (4, .long (jL last))]) hx hb dX2_clearInRow_77 hl (k := 0) rfl (jI_add _ _) (by decide) rfl (fun ls hl => ?_)
        refine lv_goto (tgt := 31) hx hb dX2_clearInRow_80 (by decide) ?_
        exact ih_LP (i + 1) (by omega) (by omega) ct_4 _ _ hk_5 trivial hof_4 trivial hW hS ls (lv_sub hl [0, 1, 2, 3, 4, 5, 6, 7] rfl)
  exact LP (n + 1) (0) (by omega) (by omega) ct _ _ hk_1 trivial (fun _ _ => rfl) trivial hW hS ls (lv_sub hl [0, 1, 2, 3, 4, 5, 6, 7] rfl)
set_option maxHeartbeats 4000000 in
set_option maxRecDepth 100000 in
theorem c_X2_solve (l : Launch) (D : va_G) (ty : Nat → ClassId) (ad : Nat → Nat) (ct : rm_C) (sz : Nat) (yr n : Nat) (M : Nat → Nat → Int) (d : Nat → Int) (u : Int) (ko : Nat) (fu li so fa : Nat → Int) (T : Nat → Nat → Int) (gr : Nat) (g : Nat → Int) (hg : ct gr = some (rl ty 8 g)) (hgr : gr < ko + 6 + 1 ∨ ko + 6 + 1 + 7 < gr) (hn : 2 ≤ n ∧ n ≤ 8) (hM : ∀ i j, 0 ≤ M i j ∧ M i j ≤ 3) (hd0 : ∀ i, i < 8 → 0 ≤ d i ∧ d i ≤ 21) (hR : slr n (tfp n M d g T n 0)) (hY : YardAt ty ad ct yr n M d u) (hKi : KindsAt ty ad ct ko fu li so fa T) (hko : ko + 14 < yr ∨ yr + 10 < ko) : Met l yX2_solve wsX2_solve ({ frames := 1, cells := 0, slots := 0, locals := 31 }) (rm_P D ty ad ct sz [.ref (ad ko), .ref (ad yr), .ref (ad gr)]) (rm_Ql D ad ct sz (fun z ct1 => z = (slv n (tfp n M d g T n 0) (n - 1)).2 ∧ (∀ i9, i9 < 8 → ct1 (ko + 6 + 1 + i9) = some (rl ty 8 (((slv n (tfp n M d g T n 0) (n - 1)).1) i9))) ∧ ∀ q, (q < ko + 6 + 1 ∨ ko + 6 + 1 + 7 < q) → ct1 q = ct q)) 0 0 (rm_A ad ct sz) := by
  refine Met.ofW (cc := cX2_solve) (maxL := 7) (ret := (some .long)) (by decide) rfl ?_
  intro p e s m args below meth c s₁ B hml hv
  obtain ⟨hargs, hsz, hW, hK, hNw⟩ := hv
  have hx := B.exec
  have hb := B.bytes
  have hr := B.returns
  have hts := atoms_spec (ws := wsX2_solve) B.pre
  have hown : s.vm.findClass RX2 = some m.cls := findClass_of_methodNamed B.named
  have hlocks := B.notSynchronized
  subst hsz
  have hW := hW.own (sz := s.heap.size)
  have hA : ∀ q : Nat, s.heap.size ≤ q → rm_A ad ct s.heap.size q := fun q h => Or.inr h
  have hS : va_S (rm_A ad ct s.heap.size) s.heap s.heap [] := va_S.rf
  have hent : entryFrame m args 7 = entryFrame m ([.ref (ad ko), .ref (ad yr), .ref (ad gr)] : List Value).toArray 7 := by rw [hargs]
  have hl := lv_entry ([.ref (ad ko), .ref (ad yr), .ref (ad gr)]) (n := 7) (Nat.le_of_ble_eq_true rfl)
  rw [hent, lg_entry_eq]
  generalize (lg_sl ([.ref (ad ko), .ref (ad yr), .ref (ad gr)]) ++ List.replicate (7 - (lg_sl ([.ref (ad ko), .ref (ad yr), .ref (ad gr)])).length) Slot.unset).toArray = ls at hl ⊢
  have hl : lv_has ls 7 [(0, .ref (ad ko)), (1, .ref (ad yr)), (2, .ref (ad gr))] := hl
  refine lv_aload_n hx hb dX2_solve_0 rfl (lv_at hl 0 rfl) ?_
  refine lv_aload_n hx hb dX2_solve_1 rfl (lv_at hl 1 rfl) ?_
  refine lv_aload_n hx hb dX2_solve_2 rfl (lv_at hl 2 rfl) ?_
  refine rm_callv (va_runV (As := [.ref (ad yr), .ref (ad gr)]) (rest := []) ⟨hx, hb, hml, hown, hts⟩ (c_X2_fillTable l D ty ad ct s.heap.size yr n M d u ko fu li so fa T gr g hg hgr ⟨by omega, hn.2⟩ hM hd0 hY hKi hko) (cwV 2 hts gX2_solve_X2_fillTable rfl rfl rfl (by decide +kernel) ⟨Nat.le_of_ble_eq_true rfl, Nat.le_of_ble_eq_true rfl⟩) (rm_preV hK hNw hW hKi.1 rfl) rfl rfl hl.1 rfl (lv_room (Nat.le_of_ble_eq_true rfl)) dX2_solve_3 ⟨Nat.zero_le _, Nat.zero_le _⟩) hW hS hA (fun ct_1 H locs hq_1 hW hS hz_1 => ?_)
  have ho_1 : ∀ q, (q < ko + 6 + 1 ∨ ko + 6 + 1 + 7 < q) → ct_1 q = ct q := hq_1.2
  have hof_1 : ∀ q, (q < ko + 6 + 1 ∨ ko + 6 + 1 + 7 < q) → ct_1 q = ct q := fun q h0_1 => (ho_1 q h0_1).trans rfl
  have hm0_1 : ∀ i9, i9 < 8 → ct_1 (ko + 6 + 1 + i9) = some (rl ty 8 ((tfp n M d g T n 0) i9)) := hq_1.1
  refine lv_lconst (v := jL 1) hx hb dX2_solve_6 rfl ?_
  refine lv_lstore_n (lv' := [(3, .long (jL 1)), (0, .ref (ad ko)), (1, .ref (ad yr)), (2, .ref (ad gr))]) hx hb dX2_solve_7 rfl hl (by decide) rfl (fun ls hl => ?_)
  refine lv_iconst (v := jI 1) hx hb dX2_solve_8 rfl ?_
  refine lv_istore (lv' := [(5, .int (jI 1)), (3, .long (jL 1)), (0, .ref (ad ko)), (1, .ref (ad yr)), (2, .ref (ad gr))]) hx hb dX2_solve_9 hl (by decide) rfl (fun ls hl => ?_)
  have hk_2 : ∀ i9, i9 < 8 → ct_1 (ko + 6 + 1 + i9) = some (rl ty 8 (((slv n (tfp n M d g T n 0) 0).1) i9)) := by rw [← (show (tfp n M d g T n 0) = ((slv n (tfp n M d g T n 0) 0).1) from rfl)]; exact hm0_1
  have hl : lv_has ls 7 [(5, .int (jI 1)), (3, .long (jL ((slv n (tfp n M d g T n 0) 0).2))), (0, .ref (ad ko)), (1, .ref (ad yr)), (2, .ref (ad gr))] := by exact hl
  have OUT : ∀ (k : Nat) (p9 : Nat) (hp9 : p9 ≤ n - 1), n - p9 < k → ∀ (ctv : rm_C) (H : Heap) (locs : List Loc), (∀ i9, i9 < 8 → ctv (ko + 6 + 1 + i9) = some (rl ty 8 (((slv n (tfp n M d g T n 0) p9).1) i9))) → ∀ (_ : True), (∀ q, (q < ko + 6 + 1 ∨ ko + 6 + 1 + 7 < q) → ctv q = ct q) → ∀ (_ : True), rm_W D ad ctv (rm_A ad ct s.heap.size) H → va_S (rm_A ad ct s.heap.size) s.heap H locs → ∀ ls : Array Slot, lv_has ls 7 [(5, .int (jI (((p9 + 1) : Nat) : Int))), (3, .long (jL ((slv n (tfp n M d g T n 0) p9).2))), (0, .ref (ad ko)), (1, .ref (ad yr)), (2, .ref (ad gr))] → W p l e (headSpec wsX2_solve ({ frames := 1, cells := 0, slots := 0, locals := 31 })).room s m args below meth c H locs 0 0 (MQ below (rm_Ql D ad ct s.heap.size (fun z ct1 => z = (slv n (tfp n M d g T n 0) (n - 1)).2 ∧ (∀ i9, i9 < 8 → ct1 (ko + 6 + 1 + i9) = some (rl ty 8 (((slv n (tfp n M d g T n 0) (n - 1)).1) i9))) ∧ ∀ q, (q < ko + 6 + 1 ∨ ko + 6 + 1 + 7 < q) → ct1 q = ct q)) args s 0 0 (rm_A ad ct s.heap.size)) (F0 m 11 ls []) := by
    intro k
    induction k with
    | zero => intro p9 hp9 hk; exact absurd hk (Nat.not_lt_zero _)
    | succ k ih_OUT =>
      intro p9 hp9 hk ctv_3 H locs hv0_3 _ hofv_3 _ hW hS ls hl
      refine lv_iload hx hb dX2_solve_11 (lv_at hl 0 rfl) ?_
      refine lv_aload_n hx hb dX2_solve_13 rfl (lv_at hl 3 rfl) ?_
      refine rm_get (ci := 4) (v := .int (jI ((n : Nat) : Int))) (C := RX4) (T := TX4) (N := 4) hx hb hts (by decide +kernel) hown hK hW ((hofv_3 yr (by omega)).trans hY.1) rfl 0 (by decide) (hts (.fieldLink RX2 32 "GrainYard$Yard" "places" "I") (by decide +kernel)) (fun _ h9 => h9) rfl dX2_solve_14 ?_
      refine rm_icmp_ge (tgt := 78) hx hb ⟨by omega, by omega⟩ ⟨by omega, by omega⟩ dX2_solve_17 (by decide) (fun hc_4 => ?_) (fun hc_4 => ?_)
      · skip
        have hi : p9 = n - 1 := by omega
        rw [hi] at hl
        refine lv_lload_n hx hb dX2_solve_78 rfl (lv_at hl 1 rfl) ?_
        exact W.lret hx hb hr (fun t ht hw => ⟨⟨_, (((slv n (tfp n M d g T n 0) (n - 1)).2), ctv_3), rfl, ⟨rfl, ⟨rfl, by rw [← hi]; exact hv0_3, fun q hq => hofv_3 q hq⟩⟩, by show rm_W D ad _ _ t.heap; rw [ht]; exact hW⟩, hS.F ht⟩) hS.2.2 dX2_solve_79
      · skip
        obtain ⟨hlr, hNr⟩ := hR p9 (by omega)
        refine lv_iconst (v := jI 1) hx hb dX2_solve_20 rfl ?_
        refine lv_istore (lv' := [(6, .int (jI 1)), (5, .int (jI (((p9 + 1) : Nat) : Int))), (3, .long (jL ((slv n (tfp n M d g T n 0) p9).2))), (0, .ref (ad ko)), (1, .ref (ad yr)), (2, .ref (ad gr))]) hx hb dX2_solve_21 hl (by decide) rfl (fun ls hl => ?_)
        have INN : ∀ (k : Nat) (j9 : Nat) (hj9 : j9 ≤ n - 1), n - j9 < k → ∀ (ctv : rm_C) (H : Heap) (locs : List Loc), (∀ i9, i9 < 8 → ctv (ko + 6 + 1 + i9) = some (rl ty 8 ((clrs n (p9 + 1) (slv n (tfp n M d g T n 0) p9).2 j9 (slv n (tfp n M d g T n 0) p9).1) i9))) → ∀ (_ : True), (∀ q, (q < ko + 6 + 1 ∨ ko + 6 + 1 + 7 < q) → ctv q = ct q) → ∀ (_ : True), rm_W D ad ctv (rm_A ad ct s.heap.size) H → va_S (rm_A ad ct s.heap.size) s.heap H locs → ∀ ls : Array Slot, lv_has ls 7 [(6, .int (jI (((j9 + 1) : Nat) : Int))), (5, .int (jI (((p9 + 1) : Nat) : Int))), (3, .long (jL ((slv n (tfp n M d g T n 0) p9).2))), (0, .ref (ad ko)), (1, .ref (ad yr)), (2, .ref (ad gr))] → W p l e (headSpec wsX2_solve ({ frames := 1, cells := 0, slots := 0, locals := 31 })).room s m args below meth c H locs 0 0 (MQ below (rm_Ql D ad ct s.heap.size (fun z ct1 => z = (slv n (tfp n M d g T n 0) (n - 1)).2 ∧ (∀ i9, i9 < 8 → ct1 (ko + 6 + 1 + i9) = some (rl ty 8 (((slv n (tfp n M d g T n 0) (n - 1)).1) i9))) ∧ ∀ q, (q < ko + 6 + 1 ∨ ko + 6 + 1 + 7 < q) → ct1 q = ct q)) args s 0 0 (rm_A ad ct s.heap.size)) (F0 m 23 ls []) := by
          intro k
          induction k with
          | zero => intro j9 hj9 hk; exact absurd hk (Nat.not_lt_zero _)
          | succ k ih_INN =>
            intro j9 hj9 hk ctv_5 H locs hv0_5 _ hofv_5 _ hW hS ls hl
            refine lv_iload hx hb dX2_solve_23 (lv_at hl 0 rfl) ?_
            refine lv_aload_n hx hb dX2_solve_25 rfl (lv_at hl 4 rfl) ?_
            refine rm_get (ci := 4) (v := .int (jI ((n : Nat) : Int))) (C := RX4) (T := TX4) (N := 4) hx hb hts (by decide +kernel) hown hK hW ((hofv_5 yr (by omega)).trans hY.1) rfl 0 (by decide) (hts (.fieldLink RX2 32 "GrainYard$Yard" "places" "I") (by decide +kernel)) (fun _ h9 => h9) rfl dX2_solve_26 ?_
            refine rm_icmp_ge (tgt := 61) hx hb ⟨by omega, by omega⟩ ⟨by omega, by omega⟩ dX2_solve_29 (by decide) (fun hc_6 => ?_) (fun hc_6 => ?_)
            · skip
              have hj : j9 = n - 1 := by omega
              have hk_7 : ∀ i9, i9 < 8 → ctv_5 (ko + 6 + 1 + i9) = some (rl ty 8 (((slv n (tfp n M d g T n 0) (p9 + 1)).1) i9)) := by rw [← (show (clrs n (p9 + 1) (slv n (tfp n M d g T n 0) p9).2 j9 (slv n (tfp n M d g T n 0) p9).1) = ((slv n (tfp n M d g T n 0) (p9 + 1)).1) from by rw [hj]; rfl)]; exact hv0_5
              refine lv_aload_n hx hb dX2_solve_61 rfl (lv_at hl 3 rfl) ?_
              refine rm_get (ci := 2) (v := .ref (ad (ko + 6))) (C := RX2) (T := TX2) (N := 6) hx hb hts (by decide +kernel) hown hK hW ((hofv_5 ko (by omega)).trans hKi.1) rfl 5 (by decide) (hts (.fieldLink RX2 29 "GrainYard$Kinds" "table" "[[J") (by decide +kernel)) (fun _ h9 => h9) rfl dX2_solve_62 ?_
              refine lv_iload hx hb dX2_solve_65 (lv_at hl 1 rfl) ?_
              refine rm_aald hx hb hK hW (f := (fun i => if i < 8 then some (ad (ko + 6 + 1 + i)) else none)) ((hofv_5 (ko + 6) (by omega)).trans hKi.2.2.2.2.2.2.1) rfl rfl (p9 + 1) rfl (by omega) (by omega) dX2_solve_67 (congrArg va_rf (if_pos (by omega))) ?_
              refine lv_iload hx hb dX2_solve_68 (lv_at hl 1 rfl) ?_
              refine rm_lald hx hb hK hW (f := (((slv n (tfp n M d g T n 0) (p9 + 1)).1) (p9 + 1))) (hk_7 (p9 + 1) (by omega)) (p9 + 1) rfl (by omega) (by omega) dX2_solve_70 ?_
              refine lv_lstore_n (lv' := [(3, .long (jL ((((slv n (tfp n M d g T n 0) (p9 + 1)).1) (p9 + 1)) (p9 + 1)))), (6, .int (jI (((j9 + 1) : Nat) : Int))), (5, .int (jI (((p9 + 1) : Nat) : Int))), (0, .ref (ad ko)), (1, .ref (ad yr)), (2, .ref (ad gr))]) hx hb dX2_solve_71 rfl hl (by decide) rfl (fun ls hl => ?_)
              have hl : lv_has ls 7 [(3, .long (jL ((slv n (tfp n M d g T n 0) (p9 + 1)).2))), (6, .int (jI (((j9 + 1) : Nat) : Int))), (5, .int (jI (((p9 + 1) : Nat) : Int))), (0, .ref (ad ko)), (1, .ref (ad yr)), (2, .ref (ad gr))] := by exact hl
              refine lv_iinc (v := jI ((((p9 + 1) : Nat) : Int) + 1)) (lv' := [(5, .int (jI ((((p9 + 1) : Nat) : Int) + 1))), (3, .long (jL ((slv n (tfp n M d g T n 0) (p9 + 1)).2))), (6, .int (jI (((j9 + 1) : Nat) : Int))), (0, .ref (ad ko)), (1, .ref (ad yr)), (2, .ref (ad gr))]) hx hb dX2_solve_72 hl (k := 2) rfl (jI_add _ _) (by decide) rfl (fun ls hl => ?_)
              refine lv_goto (tgt := 11) hx hb dX2_solve_75 (by decide) ?_
              exact ih_OUT (p9 + 1) (by omega) (by omega) ctv_5 _ _ hk_7 trivial hofv_5 trivial hW hS ls (lv_sub hl [0, 1, 3, 4, 5] rfl)
            · skip
              have hcs : (clrs n (p9 + 1) (slv n (tfp n M d g T n 0) p9).2 (j9 + 1) (slv n (tfp n M d g T n 0) p9).1) = clr1 n (p9 + 1) (slv n (tfp n M d g T n 0) p9).2 (j9 + 1) (clrs n (p9 + 1) (slv n (tfp n M d g T n 0) p9).2 j9 (slv n (tfp n M d g T n 0) p9).1) := rfl
              unfold clr1 at hcs
              refine lv_iload hx hb dX2_solve_32 (lv_at hl 0 rfl) ?_
              refine lv_iload hx hb dX2_solve_34 (lv_at hl 1 rfl) ?_
              refine rm_icmp_eq (tgt := 55) hx hb ⟨by omega, by omega⟩ ⟨by omega, by omega⟩ dX2_solve_36 (by decide) (fun hc_8 => ?_) (fun hc_8 => ?_)
              · skip
                rw [if_pos (Or.inl (by omega))] at hcs
                have hk_9 : ∀ i9, i9 < 8 → ctv_5 (ko + 6 + 1 + i9) = some (rl ty 8 ((clrs n (p9 + 1) (slv n (tfp n M d g T n 0) p9).2 (j9 + 1) (slv n (tfp n M d g T n 0) p9).1) i9)) := by rw [← (show (clrs n (p9 + 1) (slv n (tfp n M d g T n 0) p9).2 j9 (slv n (tfp n M d g T n 0) p9).1) = (clrs n (p9 + 1) (slv n (tfp n M d g T n 0) p9).2 (j9 + 1) (slv n (tfp n M d g T n 0) p9).1) from hcs.symm)]; exact hv0_5
                refine lv_iinc (v := jI ((((j9 + 1) : Nat) : Int) + 1)) (lv' := [(6, .int (jI ((((j9 + 1) : Nat) : Int) + 1))), (5, .int (jI (((p9 + 1) : Nat) : Int))), (3, .long (jL ((slv n (tfp n M d g T n 0) p9).2))), (0, .ref (ad ko)), (1, .ref (ad yr)), (2, .ref (ad gr))]) hx hb dX2_solve_55 hl (k := 0) rfl (jI_add _ _) (by decide) rfl (fun ls hl => ?_)
                refine lv_goto (tgt := 23) hx hb dX2_solve_58 (by decide) ?_
                exact ih_INN (j9 + 1) (by omega) (by omega) ctv_5 _ _ hk_9 trivial hofv_5 trivial hW hS ls (lv_sub hl [0, 1, 2, 3, 4, 5] rfl)
              · skip
                refine lv_lload_n hx hb dX2_solve_39 rfl (lv_at hl 2 rfl) ?_
                refine lv_lconst (v := jL 0) hx hb dX2_solve_40 rfl ?_
                refine rm_lcmp hx hb hlr ⟨by omega, by omega⟩ dX2_solve_41 ?_
                refine rm_if_eq (tgt := 55) hx hb (lcv_rng _ _) dX2_solve_42 (by decide) (fun hc_10 => ?_) (fun hc_10 => ?_)
                · skip
                  have hc_10 := lcv_eq.mp hc_10
                  rw [if_pos (Or.inr (by omega))] at hcs
                  have hk_11 : ∀ i9, i9 < 8 → ctv_5 (ko + 6 + 1 + i9) = some (rl ty 8 ((clrs n (p9 + 1) (slv n (tfp n M d g T n 0) p9).2 (j9 + 1) (slv n (tfp n M d g T n 0) p9).1) i9)) := by rw [← (show (clrs n (p9 + 1) (slv n (tfp n M d g T n 0) p9).2 j9 (slv n (tfp n M d g T n 0) p9).1) = (clrs n (p9 + 1) (slv n (tfp n M d g T n 0) p9).2 (j9 + 1) (slv n (tfp n M d g T n 0) p9).1) from hcs.symm)]; exact hv0_5
                  refine lv_iinc (v := jI ((((j9 + 1) : Nat) : Int) + 1)) (lv' := [(6, .int (jI ((((j9 + 1) : Nat) : Int) + 1))), (5, .int (jI (((p9 + 1) : Nat) : Int))), (3, .long (jL ((slv n (tfp n M d g T n 0) p9).2))), (0, .ref (ad ko)), (1, .ref (ad yr)), (2, .ref (ad gr))]) hx hb dX2_solve_55 hl (k := 0) rfl (jI_add _ _) (by decide) rfl (fun ls hl => ?_)
                  refine lv_goto (tgt := 23) hx hb dX2_solve_58 (by decide) ?_
                  exact ih_INN (j9 + 1) (by omega) (by omega) ctv_5 _ _ hk_11 trivial hofv_5 trivial hW hS ls (lv_sub hl [0, 1, 2, 3, 4, 5] rfl)
                · skip
                  have hc_10 : ((slv n (tfp n M d g T n 0) p9).2) ≠ 0 := fun hq => hc_10 (lcv_eq.mpr hq)
                  rw [if_neg (by omega)] at hcs
                  have hrw : (clrs n (p9 + 1) (slv n (tfp n M d g T n 0) p9).2 j9 (slv n (tfp n M d g T n 0) p9).1) (j9 + 1) = (slv n (tfp n M d g T n 0) p9).1 (j9 + 1) := clrs_row (by omega)
                  have hpw : (clrs n (p9 + 1) (slv n (tfp n M d g T n 0) p9).2 j9 (slv n (tfp n M d g T n 0) p9).1) (p9 + 1) = (slv n (tfp n M d g T n 0) p9).1 (p9 + 1) := clrs_pv _
                  refine lv_aload_n hx hb dX2_solve_45 rfl (lv_at hl 3 rfl) ?_
                  refine lv_aload_n hx hb dX2_solve_46 rfl (lv_at hl 4 rfl) ?_
                  refine lv_iload hx hb dX2_solve_47 (lv_at hl 0 rfl) ?_
                  refine lv_iload hx hb dX2_solve_49 (lv_at hl 1 rfl) ?_
                  refine lv_lload_n hx hb dX2_solve_51 rfl (lv_at hl 2 rfl) ?_
                  refine rm_callv (va_runV (As := [.ref (ad yr), .int (jI (((j9 + 1) : Nat) : Int)), .int (jI (((p9 + 1) : Nat) : Int)), .long (jL ((slv n (tfp n M d g T n 0) p9).2))]) (rest := []) ⟨hx, hb, hml, hown, hts⟩ (c_X2_clearInRow l D ty ad ctv_5 H.size yr n M d u ko fu li so fa (clrs n (p9 + 1) (slv n (tfp n M d g T n 0) p9).2 j9 (slv n (tfp n M d g T n 0) p9).1) (j9 + 1) (p9 + 1) (slv n (tfp n M d g T n 0) p9).2 hn.2 (by omega) (by omega) (by omega) (by omega) hlr (fun c9 hc9 => by rw [hrw, hpw]; exact hNr (j9 + 1) c9 (by omega) (by omega) (by omega) hc9) (hY.kept (fun q h1 h2 => hofv_5 q (by omega))) ⟨((hofv_5 ko (by omega)).trans hKi.1), ((hofv_5 (ko + 1) (by omega)).trans hKi.2.1), ((hofv_5 (ko + 2) (by omega)).trans hKi.2.2.1), ((hofv_5 (ko + 3) (by omega)).trans hKi.2.2.2.1), ((hofv_5 (ko + 4) (by omega)).trans hKi.2.2.2.2.1), ((hofv_5 (ko + 5) (by omega)).trans hKi.2.2.2.2.2.1), ((hofv_5 (ko + 6) (by omega)).trans hKi.2.2.2.2.2.2.1), hv0_5⟩ hko) (cwV 4 hts gX2_solve_X2_clearInRow rfl rfl rfl (by decide +kernel) ⟨Nat.le_of_ble_eq_true rfl, Nat.le_of_ble_eq_true rfl⟩) (rm_preV hK hNw hW ((hofv_5 ko (by omega)).trans hKi.1) rfl) rfl rfl hl.1 rfl (lv_room (Nat.le_of_ble_eq_true rfl)) dX2_solve_52 ⟨Nat.zero_le _, Nat.zero_le _⟩) hW hS hA (fun ct_12 H locs hq_12 hW hS hz_12 => ?_)
                  have ho_12 : ∀ q, (q < ko + 6 + 1 ∨ ko + 6 + 1 + 7 < q) → ct_12 q = ctv_5 q := hq_12.2
                  have hof_12 : ∀ q, (q < ko + 6 + 1 ∨ ko + 6 + 1 + 7 < q) → ct_12 q = ct q := fun q h0_12 => (ho_12 q h0_12).trans (hofv_5 q h0_12)
                  have hm0_12 : ∀ i9, i9 < 8 → ct_12 (ko + 6 + 1 + i9) = some (rl ty 8 ((clr n (clrs n (p9 + 1) (slv n (tfp n M d g T n 0) p9).2 j9 (slv n (tfp n M d g T n 0) p9).1) (j9 + 1) (p9 + 1) (slv n (tfp n M d g T n 0) p9).2 n) i9)) := hq_12.1
                  have hk_13 : ∀ i9, i9 < 8 → ct_12 (ko + 6 + 1 + i9) = some (rl ty 8 ((clrs n (p9 + 1) (slv n (tfp n M d g T n 0) p9).2 (j9 + 1) (slv n (tfp n M d g T n 0) p9).1) i9)) := by rw [← (show (clr n (clrs n (p9 + 1) (slv n (tfp n M d g T n 0) p9).2 j9 (slv n (tfp n M d g T n 0) p9).1) (j9 + 1) (p9 + 1) (slv n (tfp n M d g T n 0) p9).2 n) = (clrs n (p9 + 1) (slv n (tfp n M d g T n 0) p9).2 (j9 + 1) (slv n (tfp n M d g T n 0) p9).1) from hcs.symm)]; exact hm0_12
                  refine lv_iinc (v := jI ((((j9 + 1) : Nat) : Int) + 1)) (lv' := [(6, .int (jI ((((j9 + 1) : Nat) : Int) + 1))), (5, .int (jI (((p9 + 1) : Nat) : Int))), (3, .long (jL ((slv n (tfp n M d g T n 0) p9).2))), (0, .ref (ad ko)), (1, .ref (ad yr)), (2, .ref (ad gr))]) hx hb dX2_solve_55 hl (k := 0) rfl (jI_add _ _) (by decide) rfl (fun ls hl => ?_)
                  refine lv_goto (tgt := 23) hx hb dX2_solve_58 (by decide) ?_
                  exact ih_INN (j9 + 1) (by omega) (by omega) ct_12 _ _ hk_13 trivial hof_12 trivial hW hS ls (lv_sub hl [0, 1, 2, 3, 4, 5] rfl)
        exact INN (n + 1) (0) (by omega) (by omega) ctv_3 _ _ hv0_3 trivial hofv_3 trivial hW hS ls (lv_sub hl [0, 1, 2, 3, 4, 5] rfl)
  exact OUT (n + 1) (0) (by omega) (by omega) ct_1 _ _ hk_2 trivial hof_1 trivial hW hS ls (lv_sub hl [0, 1, 2, 3, 4] rfl)
