set_option maxHeartbeats 4000000 in
set_option maxRecDepth 100000 in
theorem c_X0_leastToBurn (l : Launch) (D : va_G) (ty : Nat → ClassId) (ad : Nat → Nat) (ct : rm_C) (sz : Nat) (yr n : Nat) (M : Nat → Nat → Int) (d : Nat → Int) (u : Int) (fo fr : Nat) (rd : Nat → Int) (place : Nat) (r : Int) (hp : place < n) (hr8 : -1 ≤ r ∧ r ≤ 9) (hn : n ≤ 8) (hY : YardAt ty ad ct yr n M d u) (hM : ∀ i j, 0 ≤ M i j ∧ M i j ≤ 3) (hd : ∀ i, i < 8 → 0 ≤ d i ∧ d i ≤ 21) (hF : FireAt ty ad ct fo fr rd) (hrd : ∀ q, -1 ≤ rd q ∧ rd q ≤ 8) : Met l yX0_leastToBurn wsX0_leastToBurn ({ frames := 0, cells := 0, slots := 0, locals := 0 }) (rm_P D ty ad ct sz [.ref (ad fo), .ref (ad yr), .int (jI ((place : Nat) : Int)), .int (jI r)]) (rm_Qi D ad ct sz (fun z ct1 => z = ltb M d rd place r n ∧ ct1 = ct)) 0 0 (rm_A ad ct sz) := by
  refine Met.ofW (cc := cX0_leastToBurn) (maxL := 6) (ret := (some .int)) (by decide) rfl ?_
  intro p e s m args below meth c s₁ B hml hv
  obtain ⟨hargs, hsz, hW, hK, hNw⟩ := hv
  have hx := B.exec
  have hb := B.bytes
  have hr := B.returns
  have hts := atoms_spec (ws := wsX0_leastToBurn) B.pre
  have hown : s.vm.findClass RX0 = some m.cls := findClass_of_methodNamed B.named
  have hlocks := B.notSynchronized
  subst hsz
  have hW := hW.own (sz := s.heap.size)
  have hA : ∀ q : Nat, s.heap.size ≤ q → rm_A ad ct s.heap.size q := fun q h => Or.inr h
  have hS : va_S (rm_A ad ct s.heap.size) s.heap s.heap [] := va_S.rf
  have hent : entryFrame m args 6 = entryFrame m ([.ref (ad fo), .ref (ad yr), .int (jI ((place : Nat) : Int)), .int (jI r)] : List Value).toArray 6 := by rw [hargs]
  have hl := lv_entry ([.ref (ad fo), .ref (ad yr), .int (jI ((place : Nat) : Int)), .int (jI r)]) (n := 6) (Nat.le_of_ble_eq_true rfl)
  rw [hent, lg_entry_eq]
  generalize (lg_sl ([.ref (ad fo), .ref (ad yr), .int (jI ((place : Nat) : Int)), .int (jI r)]) ++ List.replicate (6 - (lg_sl ([.ref (ad fo), .ref (ad yr), .int (jI ((place : Nat) : Int)), .int (jI r)])).length) Slot.unset).toArray = ls at hl ⊢
  have hl : lv_has ls 6 [(0, .ref (ad fo)), (1, .ref (ad yr)), (2, .int (jI ((place : Nat) : Int))), (3, .int (jI r))] := hl
  refine lv_aload_n hx hb dX0_leastToBurn_0 rfl (lv_at hl 1 rfl) ?_
  refine rm_get (ci := 4) (v := .ref (ad (yr + 10))) (C := RX4) (T := TX4) (N := 4) hx hb hts (by decide +kernel) hown hK hW hY.1 rfl 2 (by decide) (hts (.fieldLink RX0 39 "GrainYard$Yard" "degrees" "[I") (by decide +kernel)) (fun _ h9 => h9) rfl dX0_leastToBurn_1 ?_
  refine lv_iload_n hx hb dX0_leastToBurn_4 rfl (lv_at hl 2 rfl) ?_
  refine rm_iald hx hb hK hW (f := d) hY.2.2.2 place rfl (by omega) (by omega) dX0_leastToBurn_5 ?_
  refine lv_istore (lv' := [(4, .int (jI (d place))), (0, .ref (ad fo)), (1, .ref (ad yr)), (2, .int (jI ((place : Nat) : Int))), (3, .int (jI r))]) hx hb dX0_leastToBurn_6 hl (by decide) rfl (fun ls hl => ?_)
  refine lv_iconst (v := jI 0) hx hb dX0_leastToBurn_8 rfl ?_
  refine lv_istore (lv' := [(5, .int (jI 0)), (4, .int (jI (d place))), (0, .ref (ad fo)), (1, .ref (ad yr)), (2, .int (jI ((place : Nat) : Int))), (3, .int (jI r))]) hx hb dX0_leastToBurn_9 hl (by decide) rfl (fun ls hl => ?_)
  have hl : lv_has ls 6 [(5, .int (jI 0)), (4, .int (jI (ltb M d rd place r 0))), (0, .ref (ad fo)), (1, .ref (ad yr)), (2, .int (jI ((place : Nat) : Int))), (3, .int (jI r))] := by rw [ltb_0]; exact hl
  have LP : ∀ (k : Nat) (i : Nat) (hi : i ≤ n), n - i < k → ∀ (H : Heap) (locs : List Loc), rm_W D ad ct (rm_A ad ct s.heap.size) H → va_S (rm_A ad ct s.heap.size) s.heap H locs → ∀ ls : Array Slot, lv_has ls 6 [(5, .int (jI ((i : Nat) : Int))), (4, .int (jI (ltb M d rd place r i))), (0, .ref (ad fo)), (1, .ref (ad yr)), (2, .int (jI ((place : Nat) : Int))), (3, .int (jI r))] → W p l e (headSpec wsX0_leastToBurn ({ frames := 0, cells := 0, slots := 0, locals := 0 })).room s m args below meth c H locs 0 0 (MQ below (rm_Qi D ad ct s.heap.size (fun z ct1 => z = ltb M d rd place r n ∧ ct1 = ct)) args s 0 0 (rm_A ad ct s.heap.size)) (F0 m 11 ls []) := by
    intro k
    induction k with
    | zero => intro i hi hk; exact absurd hk (Nat.not_lt_zero _)
    | succ k ih_LP =>
      intro i hi hk  H locs   hW hS ls hl
      refine lv_iload hx hb dX0_leastToBurn_11 (lv_at hl 0 rfl) ?_
      refine lv_aload_n hx hb dX0_leastToBurn_13 rfl (lv_at hl 3 rfl) ?_
      refine rm_get (ci := 4) (v := .int (jI ((n : Nat) : Int))) (C := RX4) (T := TX4) (N := 4) hx hb hts (by decide +kernel) hown hK hW hY.1 rfl 0 (by decide) (hts (.fieldLink RX0 27 "GrainYard$Yard" "places" "I") (by decide +kernel)) (fun _ h9 => h9) rfl dX0_leastToBurn_14 ?_
      refine rm_icmp_ge (tgt := 62) hx hb ⟨by omega, by omega⟩ ⟨by omega, by omega⟩ dX0_leastToBurn_17 (by decide) (fun hc_2 => ?_) (fun hc_2 => ?_)
      · skip
        have hi : i = n := by omega
        subst hi
        refine lv_iload hx hb dX0_leastToBurn_62 (lv_at hl 1 rfl) ?_
        exact W.iret hx hb hr (fun t ht hw => ⟨⟨_, ((ltb M d rd place r i), ct), rfl, ⟨rfl, ⟨rfl, rfl⟩⟩, by show rm_W D ad _ _ t.heap; rw [ht]; exact hW⟩, hS.F ht⟩) hS.2.2 dX0_leastToBurn_64
      · skip
        have hri := hrd i
        have hls := ltb_s M d rd place r i
        refine lv_aload_n hx hb dX0_leastToBurn_20 rfl (lv_at hl 2 rfl) ?_
        refine rm_get (ci := 0) (v := .ref (ad fr)) (C := RX0) (T := TX0) (N := 1) hx hb hts (by decide +kernel) hown hK hW hF.1 rfl 0 (by decide) (hts (.fieldLink RX0 9 "GrainYard$Fire" "rounds" "[I") (by decide +kernel)) (fun _ h9 => h9) rfl dX0_leastToBurn_21 ?_
        refine lv_iload hx hb dX0_leastToBurn_24 (lv_at hl 0 rfl) ?_
        refine rm_iald hx hb hK hW (f := rd) hF.2 i rfl (by omega) (by omega) dX0_leastToBurn_26 ?_
        refine lv_iconst (v := jI (-1)) hx hb dX0_leastToBurn_27 rfl ?_
        refine rm_icmp_eq (tgt := 56) hx hb ⟨by omega, by omega⟩ ⟨by omega, by omega⟩ dX0_leastToBurn_28 (by decide) (fun hc_3 => ?_) (fun hc_3 => ?_)
        · skip
          rw [if_neg (by omega)] at hls
          have hl : lv_has ls 6 [(5, .int (jI ((i : Nat) : Int))), (4, .int (jI (ltb M d rd place r (i + 1)))), (0, .ref (ad fo)), (1, .ref (ad yr)), (2, .int (jI ((place : Nat) : Int))), (3, .int (jI r))] := by rw [show ltb M d rd place r (i + 1) = ltb M d rd place r i by omega]; exact hl
          refine lv_iinc (v := jI (((i : Nat) : Int) + 1)) (lv' := [(5, .int (jI (((i : Nat) : Int) + 1))), (4, .int (jI (ltb M d rd place r (i + 1)))), (0, .ref (ad fo)), (1, .ref (ad yr)), (2, .int (jI ((place : Nat) : Int))), (3, .int (jI r))]) hx hb dX0_leastToBurn_56 hl (k := 0) rfl (jI_add _ _) (by decide) rfl (fun ls hl => ?_)
          refine lv_goto (tgt := 11) hx hb dX0_leastToBurn_59 (by decide) ?_
          exact ih_LP (i + 1) (by omega) (by omega)  _ _ hW hS ls (lv_sub hl [0, 1, 2, 3, 4, 5] rfl)
        · skip
          refine lv_aload_n hx hb dX0_leastToBurn_31 rfl (lv_at hl 2 rfl) ?_
          refine rm_get (ci := 0) (v := .ref (ad fr)) (C := RX0) (T := TX0) (N := 1) hx hb hts (by decide +kernel) hown hK hW hF.1 rfl 0 (by decide) (hts (.fieldLink RX0 9 "GrainYard$Fire" "rounds" "[I") (by decide +kernel)) (fun _ h9 => h9) rfl dX0_leastToBurn_32 ?_
          refine lv_iload hx hb dX0_leastToBurn_35 (lv_at hl 0 rfl) ?_
          refine rm_iald hx hb hK hW (f := rd) hF.2 i rfl (by omega) (by omega) dX0_leastToBurn_37 ?_
          refine lv_iload_n hx hb dX0_leastToBurn_38 rfl (lv_at hl 5 rfl) ?_
          refine rm_icmp_ge (tgt := 56) hx hb ⟨by omega, by omega⟩ ⟨by omega, by omega⟩ dX0_leastToBurn_39 (by decide) (fun hc_4 => ?_) (fun hc_4 => ?_)
          · skip
            rw [if_neg (by omega)] at hls
            have hl : lv_has ls 6 [(5, .int (jI ((i : Nat) : Int))), (4, .int (jI (ltb M d rd place r (i + 1)))), (0, .ref (ad fo)), (1, .ref (ad yr)), (2, .int (jI ((place : Nat) : Int))), (3, .int (jI r))] := by rw [show ltb M d rd place r (i + 1) = ltb M d rd place r i by omega]; exact hl
            refine lv_iinc (v := jI (((i : Nat) : Int) + 1)) (lv' := [(5, .int (jI (((i : Nat) : Int) + 1))), (4, .int (jI (ltb M d rd place r (i + 1)))), (0, .ref (ad fo)), (1, .ref (ad yr)), (2, .int (jI ((place : Nat) : Int))), (3, .int (jI r))]) hx hb dX0_leastToBurn_56 hl (k := 0) rfl (jI_add _ _) (by decide) rfl (fun ls hl => ?_)
            refine lv_goto (tgt := 11) hx hb dX0_leastToBurn_59 (by decide) ?_
            exact ih_LP (i + 1) (by omega) (by omega)  _ _ hW hS ls (lv_sub hl [0, 1, 2, 3, 4, 5] rfl)
          · skip
            refine lv_iload hx hb dX0_leastToBurn_42 (lv_at hl 1 rfl) ?_
            refine lv_aload_n hx hb dX0_leastToBurn_44 rfl (lv_at hl 3 rfl) ?_
            refine rm_get (ci := 4) (v := .ref (ad (yr + 1))) (C := RX4) (T := TX4) (N := 4) hx hb hts (by decide +kernel) hown hK hW hY.1 rfl 1 (by decide) (hts (.fieldLink RX0 42 "GrainYard$Yard" "paths" "[[I") (by decide +kernel)) (fun _ h9 => h9) rfl dX0_leastToBurn_45 ?_
            refine lv_iload_n hx hb dX0_leastToBurn_48 rfl (lv_at hl 4 rfl) ?_
            refine rm_aald hx hb hK hW (f := (fun i => if i < 8 then some (ad (yr + 1 + 1 + i)) else none)) hY.2.1 rfl rfl place rfl (by omega) (by omega) dX0_leastToBurn_49 (congrArg va_rf (if_pos (by omega))) ?_
            refine lv_iload hx hb dX0_leastToBurn_50 (lv_at hl 0 rfl) ?_
            refine rm_iald hx hb hK hW (f := (M place)) (hY.2.2.1 place (by omega)) i rfl (by omega) (by omega) dX0_leastToBurn_52 ?_
            refine rm_isub hx hb dX0_leastToBurn_53 ?_
            refine lv_istore (lv' := [(4, .int (jI ((ltb M d rd place r i) - ((M place) i)))), (5, .int (jI ((i : Nat) : Int))), (0, .ref (ad fo)), (1, .ref (ad yr)), (2, .int (jI ((place : Nat) : Int))), (3, .int (jI r))]) hx hb dX0_leastToBurn_54 hl (by decide) rfl (fun ls hl => ?_)
            rw [if_pos (by omega)] at hls
            have hl : lv_has ls 6 [(4, .int (jI (ltb M d rd place r (i + 1)))), (5, .int (jI ((i : Nat) : Int))), (0, .ref (ad fo)), (1, .ref (ad yr)), (2, .int (jI ((place : Nat) : Int))), (3, .int (jI r))] := by rw [hls]; exact hl
            refine lv_iinc (v := jI (((i : Nat) : Int) + 1)) (lv' := [(5, .int (jI (((i : Nat) : Int) + 1))), (4, .int (jI (ltb M d rd place r (i + 1)))), (0, .ref (ad fo)), (1, .ref (ad yr)), (2, .int (jI ((place : Nat) : Int))), (3, .int (jI r))]) hx hb dX0_leastToBurn_56 hl (k := 1) rfl (jI_add _ _) (by decide) rfl (fun ls hl => ?_)
            refine lv_goto (tgt := 11) hx hb dX0_leastToBurn_59 (by decide) ?_
            exact ih_LP (i + 1) (by omega) (by omega)  _ _ hW hS ls (lv_sub hl [0, 1, 2, 3, 4, 5] rfl)
  exact LP (n + 1) (0) (by omega) (by omega)  _ _ hW hS ls (lv_sub hl [0, 1, 2, 3, 4, 5] rfl)
set_option maxHeartbeats 4000000 in
set_option maxRecDepth 100000 in
theorem c_X0_allHaveRounds (l : Launch) (D : va_G) (ty : Nat → ClassId) (ad : Nat → Nat) (ct : rm_C) (sz : Nat) (yr n : Nat) (M : Nat → Nat → Int) (d : Nat → Int) (u : Int) (fo fr : Nat) (rd : Nat → Int) (hn : n ≤ 8) (hY : YardAt ty ad ct yr n M d u) (hM : ∀ i j, 0 ≤ M i j ∧ M i j ≤ 3) (hd : ∀ i, i < 8 → 0 ≤ d i ∧ d i ≤ 21) (hF : FireAt ty ad ct fo fr rd) (hrd : ∀ q, -1 ≤ rd q ∧ rd q ≤ 8) : Met l yX0_allHaveRounds wsX0_allHaveRounds ({ frames := 0, cells := 0, slots := 0, locals := 0 }) (rm_P D ty ad ct sz [.ref (ad fo), .ref (ad yr)]) (rm_Qi D ad ct sz (fun z ct1 => ((z = 1 ∧ ∀ q, q < n → rd q ≠ -1) ∨ (z = 0 ∧ ∃ q, q < n ∧ rd q = -1)) ∧ ct1 = ct)) 0 0 (rm_A ad ct sz) := by
  refine Met.ofW (cc := cX0_allHaveRounds) (maxL := 3) (ret := (some .boolean)) (by decide) rfl ?_
  intro p e s m args below meth c s₁ B hml hv
  obtain ⟨hargs, hsz, hW, hK, hNw⟩ := hv
  have hx := B.exec
  have hb := B.bytes
  have hr := B.returns
  have hts := atoms_spec (ws := wsX0_allHaveRounds) B.pre
  have hown : s.vm.findClass RX0 = some m.cls := findClass_of_methodNamed B.named
  have hlocks := B.notSynchronized
  subst hsz
  have hW := hW.own (sz := s.heap.size)
  have hA : ∀ q : Nat, s.heap.size ≤ q → rm_A ad ct s.heap.size q := fun q h => Or.inr h
  have hS : va_S (rm_A ad ct s.heap.size) s.heap s.heap [] := va_S.rf
  have hent : entryFrame m args 3 = entryFrame m ([.ref (ad fo), .ref (ad yr)] : List Value).toArray 3 := by rw [hargs]
  have hl := lv_entry ([.ref (ad fo), .ref (ad yr)]) (n := 3) (Nat.le_of_ble_eq_true rfl)
  rw [hent, lg_entry_eq]
  generalize (lg_sl ([.ref (ad fo), .ref (ad yr)]) ++ List.replicate (3 - (lg_sl ([.ref (ad fo), .ref (ad yr)])).length) Slot.unset).toArray = ls at hl ⊢
  have hl : lv_has ls 3 [(0, .ref (ad fo)), (1, .ref (ad yr))] := hl
  refine lv_iconst (v := jI 0) hx hb dX0_allHaveRounds_0 rfl ?_
  refine lv_istore_n (lv' := [(2, .int (jI 0)), (0, .ref (ad fo)), (1, .ref (ad yr))]) hx hb dX0_allHaveRounds_1 rfl hl (by decide) rfl (fun ls hl => ?_)
  have LP : ∀ (k : Nat) (i : Nat) (hi : i ≤ n) (hs : ∀ q, q < i → rd q ≠ -1), n - i < k → ∀ (H : Heap) (locs : List Loc), rm_W D ad ct (rm_A ad ct s.heap.size) H → va_S (rm_A ad ct s.heap.size) s.heap H locs → ∀ ls : Array Slot, lv_has ls 3 [(2, .int (jI ((i : Nat) : Int))), (0, .ref (ad fo)), (1, .ref (ad yr))] → W p l e (headSpec wsX0_allHaveRounds ({ frames := 0, cells := 0, slots := 0, locals := 0 })).room s m args below meth c H locs 0 0 (MQ below (rm_Qi D ad ct s.heap.size (fun z ct1 => ((z = 1 ∧ ∀ q, q < n → rd q ≠ -1) ∨ (z = 0 ∧ ∃ q, q < n ∧ rd q = -1)) ∧ ct1 = ct)) args s 0 0 (rm_A ad ct s.heap.size)) (F0 m 2 ls []) := by
    intro k
    induction k with
    | zero => intro i hi hs hk; exact absurd hk (Nat.not_lt_zero _)
    | succ k ih_LP =>
      intro i hi hs hk  H locs   hW hS ls hl
      refine lv_iload_n hx hb dX0_allHaveRounds_2 rfl (lv_at hl 0 rfl) ?_
      refine lv_aload_n hx hb dX0_allHaveRounds_3 rfl (lv_at hl 2 rfl) ?_
      refine rm_get (ci := 4) (v := .int (jI ((n : Nat) : Int))) (C := RX4) (T := TX4) (N := 4) hx hb hts (by decide +kernel) hown hK hW hY.1 rfl 0 (by decide) (hts (.fieldLink RX0 27 "GrainYard$Yard" "places" "I") (by decide +kernel)) (fun _ h9 => h9) rfl dX0_allHaveRounds_4 ?_
      refine rm_icmp_ge (tgt := 28) hx hb ⟨by omega, by omega⟩ ⟨by omega, by omega⟩ dX0_allHaveRounds_7 (by decide) (fun hc_2 => ?_) (fun hc_2 => ?_)
      · skip
        have hi : i = n := by omega
        subst hi
        refine lv_iconst (v := jI 1) hx hb dX0_allHaveRounds_28 rfl ?_
        exact W.zret hx hb hr (by decide) (fun t ht hw => ⟨⟨_, (1, ct), rfl, ⟨rfl, ⟨Or.inl ⟨rfl, hs⟩, rfl⟩⟩, by show rm_W D ad _ _ t.heap; rw [ht]; exact hW⟩, hS.F ht⟩) hS.2.2 dX0_allHaveRounds_29
      · skip
        have hri := hrd i
        refine lv_aload_n hx hb dX0_allHaveRounds_10 rfl (lv_at hl 1 rfl) ?_
        refine rm_get (ci := 0) (v := .ref (ad fr)) (C := RX0) (T := TX0) (N := 1) hx hb hts (by decide +kernel) hown hK hW hF.1 rfl 0 (by decide) (hts (.fieldLink RX0 9 "GrainYard$Fire" "rounds" "[I") (by decide +kernel)) (fun _ h9 => h9) rfl dX0_allHaveRounds_11 ?_
        refine lv_iload_n hx hb dX0_allHaveRounds_14 rfl (lv_at hl 0 rfl) ?_
        refine rm_iald hx hb hK hW (f := rd) hF.2 i rfl (by omega) (by omega) dX0_allHaveRounds_15 ?_
        refine lv_iconst (v := jI (-1)) hx hb dX0_allHaveRounds_16 rfl ?_
        refine rm_icmp_ne (tgt := 22) hx hb ⟨by omega, by omega⟩ ⟨by omega, by omega⟩ dX0_allHaveRounds_17 (by decide) (fun hc_3 => ?_) (fun hc_3 => ?_)
        · skip
          refine lv_iinc (v := jI (((i : Nat) : Int) + 1)) (lv' := [(2, .int (jI (((i : Nat) : Int) + 1))), (0, .ref (ad fo)), (1, .ref (ad yr))]) hx hb dX0_allHaveRounds_22 hl (k := 0) rfl (jI_add _ _) (by decide) rfl (fun ls hl => ?_)
          refine lv_goto (tgt := 2) hx hb dX0_allHaveRounds_25 (by decide) ?_
          exact ih_LP (i + 1) (by omega) (fun q h => by rcases Nat.lt_or_ge q i with e | e; exact hs q e; rw [show q = i by omega]; exact hc_3) (by omega)  _ _ hW hS ls (lv_sub hl [0, 1, 2] rfl)
        · skip
          refine lv_iconst (v := jI 0) hx hb dX0_allHaveRounds_20 rfl ?_
          exact W.zret hx hb hr (by decide) (fun t ht hw => ⟨⟨_, (0, ct), rfl, ⟨rfl, ⟨Or.inr ⟨rfl, i, by omega, hc_3⟩, rfl⟩⟩, by show rm_W D ad _ _ t.heap; rw [ht]; exact hW⟩, hS.F ht⟩) hS.2.2 dX0_allHaveRounds_21
  exact LP (n + 1) (0) (by omega) (fun q h => absurd h (Nat.not_lt_zero _)) (by omega)  _ _ hW hS ls (lv_sub hl [0, 1, 2] rfl)
set_option maxHeartbeats 4000000 in
set_option maxRecDepth 100000 in
theorem c_X0_pathsBack (l : Launch) (D : va_G) (ty : Nat → ClassId) (ad : Nat → Nat) (ct : rm_C) (sz : Nat) (yr n : Nat) (M : Nat → Nat → Int) (d : Nat → Int) (u : Int) (fo fr : Nat) (rd : Nat → Int) (place : Nat) (bel : Int) (hp : place < n) (hbl : -1 ≤ bel ∧ bel ≤ 8) (hn : n ≤ 8) (hY : YardAt ty ad ct yr n M d u) (hM : ∀ i j, 0 ≤ M i j ∧ M i j ≤ 3) (hd : ∀ i, i < 8 → 0 ≤ d i ∧ d i ≤ 21) (hF : FireAt ty ad ct fo fr rd) (hrd : ∀ q, -1 ≤ rd q ∧ rd q ≤ 8) : Met l yX0_pathsBack wsX0_pathsBack ({ frames := 0, cells := 0, slots := 0, locals := 0 }) (rm_P D ty ad ct sz [.ref (ad fo), .ref (ad yr), .int (jI ((place : Nat) : Int)), .int (jI bel)]) (rm_Qi D ad ct sz (fun z ct1 => z = pbk M rd place bel.toNat ∧ ct1 = ct)) 0 0 (rm_A ad ct sz) := by
  refine Met.ofW (cc := cX0_pathsBack) (maxL := 6) (ret := (some .int)) (by decide) rfl ?_
  intro p e s m args below meth c s₁ B hml hv
  obtain ⟨hargs, hsz, hW, hK, hNw⟩ := hv
  have hx := B.exec
  have hb := B.bytes
  have hr := B.returns
  have hts := atoms_spec (ws := wsX0_pathsBack) B.pre
  have hown : s.vm.findClass RX0 = some m.cls := findClass_of_methodNamed B.named
  have hlocks := B.notSynchronized
  subst hsz
  have hW := hW.own (sz := s.heap.size)
  have hA : ∀ q : Nat, s.heap.size ≤ q → rm_A ad ct s.heap.size q := fun q h => Or.inr h
  have hS : va_S (rm_A ad ct s.heap.size) s.heap s.heap [] := va_S.rf
  have hent : entryFrame m args 6 = entryFrame m ([.ref (ad fo), .ref (ad yr), .int (jI ((place : Nat) : Int)), .int (jI bel)] : List Value).toArray 6 := by rw [hargs]
  have hl := lv_entry ([.ref (ad fo), .ref (ad yr), .int (jI ((place : Nat) : Int)), .int (jI bel)]) (n := 6) (Nat.le_of_ble_eq_true rfl)
  rw [hent, lg_entry_eq]
  generalize (lg_sl ([.ref (ad fo), .ref (ad yr), .int (jI ((place : Nat) : Int)), .int (jI bel)]) ++ List.replicate (6 - (lg_sl ([.ref (ad fo), .ref (ad yr), .int (jI ((place : Nat) : Int)), .int (jI bel)])).length) Slot.unset).toArray = ls at hl ⊢
  have hl : lv_has ls 6 [(0, .ref (ad fo)), (1, .ref (ad yr)), (2, .int (jI ((place : Nat) : Int))), (3, .int (jI bel))] := hl
  refine lv_iconst (v := jI 0) hx hb dX0_pathsBack_0 rfl ?_
  refine lv_istore (lv' := [(4, .int (jI 0)), (0, .ref (ad fo)), (1, .ref (ad yr)), (2, .int (jI ((place : Nat) : Int))), (3, .int (jI bel))]) hx hb dX0_pathsBack_1 hl (by decide) rfl (fun ls hl => ?_)
  refine lv_iconst (v := jI 0) hx hb dX0_pathsBack_3 rfl ?_
  refine lv_istore (lv' := [(5, .int (jI 0)), (4, .int (jI 0)), (0, .ref (ad fo)), (1, .ref (ad yr)), (2, .int (jI ((place : Nat) : Int))), (3, .int (jI bel))]) hx hb dX0_pathsBack_4 hl (by decide) rfl (fun ls hl => ?_)
  have LP : ∀ (k : Nat) (i : Nat) (hi : i ≤ bel.toNat), bel.toNat - i < k → ∀ (H : Heap) (locs : List Loc), rm_W D ad ct (rm_A ad ct s.heap.size) H → va_S (rm_A ad ct s.heap.size) s.heap H locs → ∀ ls : Array Slot, lv_has ls 6 [(5, .int (jI ((i : Nat) : Int))), (4, .int (jI (pbk M rd place i))), (0, .ref (ad fo)), (1, .ref (ad yr)), (2, .int (jI ((place : Nat) : Int))), (3, .int (jI bel))] → W p l e (headSpec wsX0_pathsBack ({ frames := 0, cells := 0, slots := 0, locals := 0 })).room s m args below meth c H locs 0 0 (MQ below (rm_Qi D ad ct s.heap.size (fun z ct1 => z = pbk M rd place bel.toNat ∧ ct1 = ct)) args s 0 0 (rm_A ad ct s.heap.size)) (F0 m 6 ls []) := by
    intro k
    induction k with
    | zero => intro i hi hk; exact absurd hk (Nat.not_lt_zero _)
    | succ k ih_LP =>
      intro i hi hk  H locs   hW hS ls hl
      refine lv_iload hx hb dX0_pathsBack_6 (lv_at hl 0 rfl) ?_
      refine lv_iload_n hx hb dX0_pathsBack_8 rfl (lv_at hl 5 rfl) ?_
      refine rm_icmp_ge (tgt := 50) hx hb ⟨by omega, by omega⟩ ⟨by omega, by omega⟩ dX0_pathsBack_9 (by decide) (fun hc_2 => ?_) (fun hc_2 => ?_)
      · skip
        have hi : i = bel.toNat := by omega
        rw [hi] at hl
        have hl : lv_has ls 6 [(5, .int (jI ((bel.toNat : Nat) : Int))), (4, .int (jI (pbk M rd place bel.toNat))), (0, .ref (ad fo)), (1, .ref (ad yr)), (2, .int (jI ((place : Nat) : Int))), (3, .int (jI bel))] := by exact hl
        refine lv_iload hx hb dX0_pathsBack_50 (lv_at hl 1 rfl) ?_
        exact W.iret hx hb hr (fun t ht hw => ⟨⟨_, ((pbk M rd place bel.toNat), ct), rfl, ⟨rfl, ⟨rfl, rfl⟩⟩, by show rm_W D ad _ _ t.heap; rw [ht]; exact hW⟩, hS.F ht⟩) hS.2.2 dX0_pathsBack_52
      · skip
        have hri := hrd i
        have hrp := hrd place
        have hls := pbk_s M rd place i
        refine lv_aload_n hx hb dX0_pathsBack_12 rfl (lv_at hl 2 rfl) ?_
        refine rm_get (ci := 0) (v := .ref (ad fr)) (C := RX0) (T := TX0) (N := 1) hx hb hts (by decide +kernel) hown hK hW hF.1 rfl 0 (by decide) (hts (.fieldLink RX0 9 "GrainYard$Fire" "rounds" "[I") (by decide +kernel)) (fun _ h9 => h9) rfl dX0_pathsBack_13 ?_
        refine lv_iload hx hb dX0_pathsBack_16 (lv_at hl 0 rfl) ?_
        refine rm_iald hx hb hK hW (f := rd) hF.2 i rfl (by omega) (by omega) dX0_pathsBack_18 ?_
        refine lv_aload_n hx hb dX0_pathsBack_19 rfl (lv_at hl 2 rfl) ?_
        refine rm_get (ci := 0) (v := .ref (ad fr)) (C := RX0) (T := TX0) (N := 1) hx hb hts (by decide +kernel) hown hK hW hF.1 rfl 0 (by decide) (hts (.fieldLink RX0 9 "GrainYard$Fire" "rounds" "[I") (by decide +kernel)) (fun _ h9 => h9) rfl dX0_pathsBack_20 ?_
        refine lv_iload_n hx hb dX0_pathsBack_23 rfl (lv_at hl 4 rfl) ?_
        refine rm_iald hx hb hK hW (f := rd) hF.2 place rfl (by omega) (by omega) dX0_pathsBack_24 ?_
        refine lv_iconst (v := jI 1) hx hb dX0_pathsBack_25 rfl ?_
        refine rm_isub hx hb dX0_pathsBack_26 ?_
        refine rm_icmp_ne (tgt := 44) hx hb ⟨by omega, by omega⟩ ⟨by omega, by omega⟩ dX0_pathsBack_27 (by decide) (fun hc_3 => ?_) (fun hc_3 => ?_)
        · skip
          rw [if_neg (by omega)] at hls
          have hl : lv_has ls 6 [(5, .int (jI ((i : Nat) : Int))), (4, .int (jI (pbk M rd place (i + 1)))), (0, .ref (ad fo)), (1, .ref (ad yr)), (2, .int (jI ((place : Nat) : Int))), (3, .int (jI bel))] := by rw [show pbk M rd place (i + 1) = pbk M rd place i by omega]; exact hl
          refine lv_iinc (v := jI (((i : Nat) : Int) + 1)) (lv' := [(5, .int (jI (((i : Nat) : Int) + 1))), (4, .int (jI (pbk M rd place (i + 1)))), (0, .ref (ad fo)), (1, .ref (ad yr)), (2, .int (jI ((place : Nat) : Int))), (3, .int (jI bel))]) hx hb dX0_pathsBack_44 hl (k := 0) rfl (jI_add _ _) (by decide) rfl (fun ls hl => ?_)
          refine lv_goto (tgt := 6) hx hb dX0_pathsBack_47 (by decide) ?_
          exact ih_LP (i + 1) (by omega) (by omega)  _ _ hW hS ls (lv_sub hl [0, 1, 2, 3, 4, 5] rfl)
        · skip
          refine lv_iload hx hb dX0_pathsBack_30 (lv_at hl 1 rfl) ?_
          refine lv_aload_n hx hb dX0_pathsBack_32 rfl (lv_at hl 3 rfl) ?_
          refine rm_get (ci := 4) (v := .ref (ad (yr + 1))) (C := RX4) (T := TX4) (N := 4) hx hb hts (by decide +kernel) hown hK hW hY.1 rfl 1 (by decide) (hts (.fieldLink RX0 42 "GrainYard$Yard" "paths" "[[I") (by decide +kernel)) (fun _ h9 => h9) rfl dX0_pathsBack_33 ?_
          refine lv_iload_n hx hb dX0_pathsBack_36 rfl (lv_at hl 4 rfl) ?_
          refine rm_aald hx hb hK hW (f := (fun i => if i < 8 then some (ad (yr + 1 + 1 + i)) else none)) hY.2.1 rfl rfl place rfl (by omega) (by omega) dX0_pathsBack_37 (congrArg va_rf (if_pos (by omega))) ?_
          refine lv_iload hx hb dX0_pathsBack_38 (lv_at hl 0 rfl) ?_
          refine rm_iald hx hb hK hW (f := (M place)) (hY.2.2.1 place (by omega)) i rfl (by omega) (by omega) dX0_pathsBack_40 ?_
          refine rm_iadd hx hb dX0_pathsBack_41 ?_
          refine lv_istore (lv' := [(4, .int (jI ((pbk M rd place i) + ((M place) i)))), (5, .int (jI ((i : Nat) : Int))), (0, .ref (ad fo)), (1, .ref (ad yr)), (2, .int (jI ((place : Nat) : Int))), (3, .int (jI bel))]) hx hb dX0_pathsBack_42 hl (by decide) rfl (fun ls hl => ?_)
          rw [if_pos (by omega)] at hls
          have hl : lv_has ls 6 [(4, .int (jI (pbk M rd place (i + 1)))), (5, .int (jI ((i : Nat) : Int))), (0, .ref (ad fo)), (1, .ref (ad yr)), (2, .int (jI ((place : Nat) : Int))), (3, .int (jI bel))] := by rw [hls]; exact hl
          refine lv_iinc (v := jI (((i : Nat) : Int) + 1)) (lv' := [(5, .int (jI (((i : Nat) : Int) + 1))), (4, .int (jI (pbk M rd place (i + 1)))), (0, .ref (ad fo)), (1, .ref (ad yr)), (2, .int (jI ((place : Nat) : Int))), (3, .int (jI bel))]) hx hb dX0_pathsBack_44 hl (k := 1) rfl (jI_add _ _) (by decide) rfl (fun ls hl => ?_)
          refine lv_goto (tgt := 6) hx hb dX0_pathsBack_47 (by decide) ?_
          exact ih_LP (i + 1) (by omega) (by omega)  _ _ hW hS ls (lv_sub hl [0, 1, 2, 3, 4, 5] rfl)
  exact LP (bel.toNat + 1) (0) (by omega) (by omega)  _ _ hW hS ls (lv_sub hl [0, 1, 2, 3, 4, 5] rfl)
set_option maxHeartbeats 4000000 in
set_option maxRecDepth 100000 in
theorem c_X0_leadsTo (l : Launch) (D : va_G) (ty : Nat → ClassId) (ad : Nat → Nat) (ct : rm_C) (sz : Nat) (yr n : Nat) (M : Nat → Nat → Int) (d : Nat → Int) (u : Int) (fo fr : Nat) (rd : Nat → Int) (place : Nat) (hp : place < n) (gr : Nat) (g : Nat → Int) (hg : ct gr = some (rl ty 8 g)) (hgp : 0 ≤ g place ∧ g place ≤ 1000000000000) (hn : n ≤ 8) (hY : YardAt ty ad ct yr n M d u) (hM : ∀ i j, 0 ≤ M i j ∧ M i j ≤ 3) (hd : ∀ i, i < 8 → 0 ≤ d i ∧ d i ≤ 21) (hF : FireAt ty ad ct fo fr rd) (hrd : ∀ q, -1 ≤ rd q ∧ rd q ≤ 8) : Met l yX0_leadsTo wsX0_leadsTo ({ frames := 1, cells := 0, slots := 0, locals := 25 }) (rm_P D ty ad ct sz [.ref (ad fo), .ref (ad yr), .ref (ad gr), .int (jI ((place : Nat) : Int))]) (rm_Qi D ad ct sz (fun z ct1 => z = ldf M rd place (g place - ltb M d rd place (rd place) n) n 0 ∧ ct1 = ct)) 0 0 (rm_A ad ct sz) := by
  refine Met.ofW (cc := cX0_leadsTo) (maxL := 7) (ret := (some .int)) (by decide) rfl ?_
  intro p e s m args below meth c s₁ B hml hv
  obtain ⟨hargs, hsz, hW, hK, hNw⟩ := hv
  have hx := B.exec
  have hb := B.bytes
  have hr := B.returns
  have hts := atoms_spec (ws := wsX0_leadsTo) B.pre
  have hown : s.vm.findClass RX0 = some m.cls := findClass_of_methodNamed B.named
  have hlocks := B.notSynchronized
  subst hsz
  have hW := hW.own (sz := s.heap.size)
  have hA : ∀ q : Nat, s.heap.size ≤ q → rm_A ad ct s.heap.size q := fun q h => Or.inr h
  have hS : va_S (rm_A ad ct s.heap.size) s.heap s.heap [] := va_S.rf
  have hent : entryFrame m args 7 = entryFrame m ([.ref (ad fo), .ref (ad yr), .ref (ad gr), .int (jI ((place : Nat) : Int))] : List Value).toArray 7 := by rw [hargs]
  have hl := lv_entry ([.ref (ad fo), .ref (ad yr), .ref (ad gr), .int (jI ((place : Nat) : Int))]) (n := 7) (Nat.le_of_ble_eq_true rfl)
  rw [hent, lg_entry_eq]
  generalize (lg_sl ([.ref (ad fo), .ref (ad yr), .ref (ad gr), .int (jI ((place : Nat) : Int))]) ++ List.replicate (7 - (lg_sl ([.ref (ad fo), .ref (ad yr), .ref (ad gr), .int (jI ((place : Nat) : Int))])).length) Slot.unset).toArray = ls at hl ⊢
  have hl : lv_has ls 7 [(0, .ref (ad fo)), (1, .ref (ad yr)), (2, .ref (ad gr)), (3, .int (jI ((place : Nat) : Int)))] := hl
  have hrp := hrd place
  have hlr := ltb_rng hM d rd place (rd place) n
  have hdp := hd place (by omega)
  refine lv_aload_n hx hb dX0_leadsTo_0 rfl (lv_at hl 2 rfl) ?_
  refine lv_iload_n hx hb dX0_leadsTo_1 rfl (lv_at hl 3 rfl) ?_
  refine rm_lald hx hb hK hW (f := g) hg place rfl (by omega) (by omega) dX0_leadsTo_2 ?_
  refine lv_aload_n hx hb dX0_leadsTo_3 rfl (lv_at hl 0 rfl) ?_
  refine lv_aload_n hx hb dX0_leadsTo_4 rfl (lv_at hl 1 rfl) ?_
  refine lv_iload_n hx hb dX0_leadsTo_5 rfl (lv_at hl 3 rfl) ?_
  refine lv_aload_n hx hb dX0_leadsTo_6 rfl (lv_at hl 0 rfl) ?_
  refine rm_get (ci := 0) (v := .ref (ad fr)) (C := RX0) (T := TX0) (N := 1) hx hb hts (by decide +kernel) hown hK hW hF.1 rfl 0 (by decide) (hts (.fieldLink RX0 9 "GrainYard$Fire" "rounds" "[I") (by decide +kernel)) (fun _ h9 => h9) rfl dX0_leadsTo_7 ?_
  refine lv_iload_n hx hb dX0_leadsTo_10 rfl (lv_at hl 3 rfl) ?_
  refine rm_iald hx hb hK hW (f := rd) hF.2 place rfl (by omega) (by omega) dX0_leadsTo_11 ?_
  refine rm_calli (va_runV (As := [.ref (ad yr), .int (jI ((place : Nat) : Int)), .int (jI (rd place))]) (rest := [.long (jL (g place))]) ⟨hx, hb, hml, hown, hts⟩ (c_X0_leastToBurn l D ty ad ct s.heap.size yr n M d u fo fr rd place (rd place) hp ⟨by omega, by omega⟩ hn hY hM hd hF hrd) (cwV 3 hts gX0_leadsTo_X0_leastToBurn rfl rfl rfl (by decide +kernel) ⟨Nat.le_of_ble_eq_true rfl, Nat.le_of_ble_eq_true rfl⟩) (rm_preV hK hNw hW hF.1 rfl) rfl rfl hl.1 rfl (lv_room (Nat.le_of_ble_eq_true rfl)) dX0_leadsTo_12 ⟨Nat.zero_le _, Nat.zero_le _⟩) hW hS hA (fun z_1 ct_1 H locs hq_1 hW hS => ?_)
  obtain ⟨hz, hcc_1⟩ := hq_1
  have hcc_1 := hcc_1.symm
  subst hcc_1
  subst hz
  refine rm_i2l hx hb dX0_leadsTo_15 ⟨by omega, by omega⟩ ?_
  refine rm_lsub hx hb dX0_leadsTo_16 ?_
  refine lv_lstore (lv' := [(4, .long (jL ((g place) - (ltb M d rd place (rd place) n)))), (0, .ref (ad fo)), (1, .ref (ad yr)), (2, .ref (ad gr)), (3, .int (jI ((place : Nat) : Int)))]) hx hb dX0_leadsTo_17 hl (by decide) rfl (fun ls hl => ?_)
  refine lv_iconst (v := jI 0) hx hb dX0_leadsTo_19 rfl ?_
  refine lv_istore (lv' := [(6, .int (jI 0)), (4, .long (jL ((g place) - (ltb M d rd place (rd place) n)))), (0, .ref (ad fo)), (1, .ref (ad yr)), (2, .ref (ad gr)), (3, .int (jI ((place : Nat) : Int)))]) hx hb dX0_leadsTo_20 hl (by decide) rfl (fun ls hl => ?_)
  have LP : ∀ (k : Nat) (i : Nat) (hi : i ≤ n) (hf : ldf M rd place (g place - ltb M d rd place (rd place) n) (n - i) i = ldf M rd place (g place - ltb M d rd place (rd place) n) n 0), n - i < k → ∀ (H : Heap) (locs : List Loc), rm_W D ad ct (rm_A ad ct s.heap.size) H → va_S (rm_A ad ct s.heap.size) s.heap H locs → ∀ ls : Array Slot, lv_has ls 7 [(6, .int (jI ((i : Nat) : Int))), (4, .long (jL (g place - ltb M d rd place (rd place) n))), (0, .ref (ad fo)), (1, .ref (ad yr)), (2, .ref (ad gr)), (3, .int (jI ((place : Nat) : Int)))] → W p l e (headSpec wsX0_leadsTo ({ frames := 1, cells := 0, slots := 0, locals := 25 })).room s m args below meth c H locs 0 0 (MQ below (rm_Qi D ad ct s.heap.size (fun z ct1 => z = ldf M rd place (g place - ltb M d rd place (rd place) n) n 0 ∧ ct1 = ct)) args s 0 0 (rm_A ad ct s.heap.size)) (F0 m 22 ls []) := by
    intro k
    induction k with
    | zero => intro i hi hf hk; exact absurd hk (Nat.not_lt_zero _)
    | succ k ih_LP =>
      intro i hi hf hk  H locs   hW hS ls hl
      refine lv_iload hx hb dX0_leadsTo_22 (lv_at hl 0 rfl) ?_
      refine lv_aload_n hx hb dX0_leadsTo_24 rfl (lv_at hl 3 rfl) ?_
      refine rm_get (ci := 4) (v := .int (jI ((n : Nat) : Int))) (C := RX4) (T := TX4) (N := 4) hx hb hts (by decide +kernel) hown hK hW hY.1 rfl 0 (by decide) (hts (.fieldLink RX0 27 "GrainYard$Yard" "places" "I") (by decide +kernel)) (fun _ h9 => h9) rfl dX0_leadsTo_25 ?_
      refine rm_icmp_ge (tgt := 57) hx hb ⟨by omega, by omega⟩ ⟨by omega, by omega⟩ dX0_leadsTo_28 (by decide) (fun hc_3 => ?_) (fun hc_3 => ?_)
      · skip
        have hi : i = n := by omega
        subst hi
        refine lv_iconst (v := jI (-1)) hx hb dX0_leadsTo_57 rfl ?_
        exact W.iret hx hb hr (fun t ht hw => ⟨⟨_, ((-1), ct), rfl, ⟨rfl, ⟨by rw [← hf, Nat.sub_self]; rfl, rfl⟩⟩, by show rm_W D ad _ _ t.heap; rw [ht]; exact hW⟩, hS.F ht⟩) hS.2.2 dX0_leadsTo_58
      · skip
        refine lv_aload_n hx hb dX0_leadsTo_31 rfl (lv_at hl 2 rfl) ?_
        refine lv_aload_n hx hb dX0_leadsTo_32 rfl (lv_at hl 3 rfl) ?_
        refine lv_iload_n hx hb dX0_leadsTo_33 rfl (lv_at hl 5 rfl) ?_
        refine lv_iload hx hb dX0_leadsTo_34 (lv_at hl 0 rfl) ?_
        refine lv_iconst (v := jI 1) hx hb dX0_leadsTo_36 rfl ?_
        refine rm_iadd hx hb dX0_leadsTo_37 ?_
        refine rm_calli (va_runV (As := [.ref (ad yr), .int (jI ((place : Nat) : Int)), .int (jI (((i : Nat) : Int) + 1))]) (rest := []) ⟨hx, hb, hml, hown, hts⟩ (c_X0_pathsBack l D ty ad ct H.size yr n M d u fo fr rd place (((i : Nat) : Int) + 1) hp ⟨by omega, by omega⟩ hn hY hM hd hF hrd) (cwV 3 hts gX0_leadsTo_X0_pathsBack rfl rfl rfl (by decide +kernel) ⟨Nat.le_of_ble_eq_true rfl, Nat.le_of_ble_eq_true rfl⟩) (rm_preV hK hNw hW hF.1 rfl) rfl rfl hl.1 rfl (lv_room (Nat.le_of_ble_eq_true rfl)) dX0_leadsTo_38 ⟨Nat.zero_le _, Nat.zero_le _⟩) hW hS hA (fun z_4 ct_4 H locs hq_4 hW hS => ?_)
        obtain ⟨hz, hcc_4⟩ := hq_4
        have hcc_4 := hcc_4.symm
        subst hcc_4
        rw [show (((i : Nat) : Int) + 1).toNat = i + 1 by omega] at hz
        subst hz
        have hpr := pbk_rng hM rd place (i + 1)
        have hfs : ldf M rd place (g place - ltb M d rd place (rd place) n) (n - i) i = if (g place - ltb M d rd place (rd place) n) < pbk M rd place (i + 1) then (i : Int) else ldf M rd place (g place - ltb M d rd place (rd place) n) (n - (i + 1)) (i + 1) := by rw [show n - i = (n - (i + 1)) + 1 by omega]; rfl
        refine rm_i2l hx hb dX0_leadsTo_41 ⟨by omega, by omega⟩ ?_
        refine lv_lload hx hb dX0_leadsTo_42 (lv_at hl 1 rfl) ?_
        refine rm_lcmp hx hb ⟨by omega, by omega⟩ ⟨by omega, by omega⟩ dX0_leadsTo_44 ?_
        refine rm_if_le (tgt := 51) hx hb (lcv_rng _ _) dX0_leadsTo_45 (by decide) (fun hc_5 => ?_) (fun hc_5 => ?_)
        · skip
          have hc_5 := lcv_le.mp hc_5
          rw [if_neg (by omega)] at hfs
          refine lv_iinc (v := jI (((i : Nat) : Int) + 1)) (lv' := [(6, .int (jI (((i : Nat) : Int) + 1))), (4, .long (jL (g place - ltb M d rd place (rd place) n))), (0, .ref (ad fo)), (1, .ref (ad yr)), (2, .ref (ad gr)), (3, .int (jI ((place : Nat) : Int)))]) hx hb dX0_leadsTo_51 hl (k := 0) rfl (jI_add _ _) (by decide) rfl (fun ls hl => ?_)
          refine lv_goto (tgt := 22) hx hb dX0_leadsTo_54 (by decide) ?_
          exact ih_LP (i + 1) (by omega) (by rw [← hfs]; exact hf) (by omega)  _ _ hW hS ls (lv_sub hl [0, 1, 2, 3, 4, 5] rfl)
        · skip
          have hc_5 := lcv_gt.mp hc_5
          rw [if_pos (by omega)] at hfs
          refine lv_iload hx hb dX0_leadsTo_48 (lv_at hl 0 rfl) ?_
          exact W.iret hx hb hr (fun t ht hw => ⟨⟨_, (((i : Nat) : Int), ct), rfl, ⟨rfl, ⟨by rw [← hf, hfs], rfl⟩⟩, by show rm_W D ad _ _ t.heap; rw [ht]; exact hW⟩, hS.F ht⟩) hS.2.2 dX0_leadsTo_50
  exact LP (n + 1) (0) (by omega) (rfl) (by omega)  _ _ hW hS ls (lv_sub hl [0, 1, 2, 3, 4, 5] rfl)
set_option maxHeartbeats 4000000 in
set_option maxRecDepth 100000 in
theorem c_X0_byPath (l : Launch) (D : va_G) (ty : Nat → ClassId) (ad : Nat → Nat) (ct : rm_C) (sz : Nat) (yr n : Nat) (M : Nat → Nat → Int) (d : Nat → Int) (u : Int) (fo fr : Nat) (rd : Nat → Int) (place : Nat) (hp : place < n) (gr : Nat) (g : Nat → Int) (hg : ct gr = some (rl ty 8 g)) (hgp : 0 ≤ g place ∧ g place ≤ 1000000000000) (hn : n ≤ 8) (hY : YardAt ty ad ct yr n M d u) (hM : ∀ i j, 0 ≤ M i j ∧ M i j ≤ 3) (hd : ∀ i, i < 8 → 0 ≤ d i ∧ d i ≤ 21) (hF : FireAt ty ad ct fo fr rd) (hrd : ∀ q, -1 ≤ rd q ∧ rd q ≤ 8) : Met l yX0_byPath wsX0_byPath ({ frames := 2, cells := 0, slots := 0, locals := 51 }) (rm_P D ty ad ct sz [.ref (ad fo), .ref (ad yr), .ref (ad gr), .int (jI ((place : Nat) : Int))]) (rm_Qi D ad ct sz (fun z ct1 => z = (g place - ltb M d rd place (rd place) n) - pbk M rd place (ldf M rd place (g place - ltb M d rd place (rd place) n) n 0).toNat ∧ ct1 = ct)) 0 0 (rm_A ad ct sz) := by
  refine Met.ofW (cc := cX0_byPath) (maxL := 6) (ret := (some .int)) (by decide) rfl ?_
  intro p e s m args below meth c s₁ B hml hv
  obtain ⟨hargs, hsz, hW, hK, hNw⟩ := hv
  have hx := B.exec
  have hb := B.bytes
  have hr := B.returns
  have hts := atoms_spec (ws := wsX0_byPath) B.pre
  have hown : s.vm.findClass RX0 = some m.cls := findClass_of_methodNamed B.named
  have hlocks := B.notSynchronized
  subst hsz
  have hW := hW.own (sz := s.heap.size)
  have hA : ∀ q : Nat, s.heap.size ≤ q → rm_A ad ct s.heap.size q := fun q h => Or.inr h
  have hS : va_S (rm_A ad ct s.heap.size) s.heap s.heap [] := va_S.rf
  have hent : entryFrame m args 6 = entryFrame m ([.ref (ad fo), .ref (ad yr), .ref (ad gr), .int (jI ((place : Nat) : Int))] : List Value).toArray 6 := by rw [hargs]
  have hl := lv_entry ([.ref (ad fo), .ref (ad yr), .ref (ad gr), .int (jI ((place : Nat) : Int))]) (n := 6) (Nat.le_of_ble_eq_true rfl)
  rw [hent, lg_entry_eq]
  generalize (lg_sl ([.ref (ad fo), .ref (ad yr), .ref (ad gr), .int (jI ((place : Nat) : Int))]) ++ List.replicate (6 - (lg_sl ([.ref (ad fo), .ref (ad yr), .ref (ad gr), .int (jI ((place : Nat) : Int))])).length) Slot.unset).toArray = ls at hl ⊢
  have hl : lv_has ls 6 [(0, .ref (ad fo)), (1, .ref (ad yr)), (2, .ref (ad gr)), (3, .int (jI ((place : Nat) : Int)))] := hl
  have hrp := hrd place
  have hlr := ltb_rng hM d rd place (rd place) n
  have hdp := hd place (by omega)
  have hldr := ldf_rng M rd place (g place - ltb M d rd place (rd place) n) n 0
  refine lv_aload_n hx hb dX0_byPath_0 rfl (lv_at hl 2 rfl) ?_
  refine lv_iload_n hx hb dX0_byPath_1 rfl (lv_at hl 3 rfl) ?_
  refine rm_lald hx hb hK hW (f := g) hg place rfl (by omega) (by omega) dX0_byPath_2 ?_
  refine lv_aload_n hx hb dX0_byPath_3 rfl (lv_at hl 0 rfl) ?_
  refine lv_aload_n hx hb dX0_byPath_4 rfl (lv_at hl 1 rfl) ?_
  refine lv_iload_n hx hb dX0_byPath_5 rfl (lv_at hl 3 rfl) ?_
  refine lv_aload_n hx hb dX0_byPath_6 rfl (lv_at hl 0 rfl) ?_
  refine rm_get (ci := 0) (v := .ref (ad fr)) (C := RX0) (T := TX0) (N := 1) hx hb hts (by decide +kernel) hown hK hW hF.1 rfl 0 (by decide) (hts (.fieldLink RX0 9 "GrainYard$Fire" "rounds" "[I") (by decide +kernel)) (fun _ h9 => h9) rfl dX0_byPath_7 ?_
  refine lv_iload_n hx hb dX0_byPath_10 rfl (lv_at hl 3 rfl) ?_
  refine rm_iald hx hb hK hW (f := rd) hF.2 place rfl (by omega) (by omega) dX0_byPath_11 ?_
  refine rm_calli (va_runV (As := [.ref (ad yr), .int (jI ((place : Nat) : Int)), .int (jI (rd place))]) (rest := [.long (jL (g place))]) ⟨hx, hb, hml, hown, hts⟩ (c_X0_leastToBurn l D ty ad ct s.heap.size yr n M d u fo fr rd place (rd place) hp ⟨by omega, by omega⟩ hn hY hM hd hF hrd) (cwV 3 hts gX0_byPath_X0_leastToBurn rfl rfl rfl (by decide +kernel) ⟨Nat.le_of_ble_eq_true rfl, Nat.le_of_ble_eq_true rfl⟩) (rm_preV hK hNw hW hF.1 rfl) rfl rfl hl.1 rfl (lv_room (Nat.le_of_ble_eq_true rfl)) dX0_byPath_12 ⟨Nat.zero_le _, Nat.zero_le _⟩) hW hS hA (fun z_1 ct_1 H locs hq_1 hW hS => ?_)
  obtain ⟨hz, hcc_1⟩ := hq_1
  have hcc_1 := hcc_1.symm
  subst hcc_1
  subst hz
  refine rm_i2l hx hb dX0_byPath_15 ⟨by omega, by omega⟩ ?_
  refine rm_lsub hx hb dX0_byPath_16 ?_
  refine lv_lstore (lv' := [(4, .long (jL ((g place) - (ltb M d rd place (rd place) n)))), (0, .ref (ad fo)), (1, .ref (ad yr)), (2, .ref (ad gr)), (3, .int (jI ((place : Nat) : Int)))]) hx hb dX0_byPath_17 hl (by decide) rfl (fun ls hl => ?_)
  refine lv_lload hx hb dX0_byPath_19 (lv_at hl 0 rfl) ?_
  refine rm_l2i hx hb dX0_byPath_21 ?_
  refine lv_aload_n hx hb dX0_byPath_22 rfl (lv_at hl 1 rfl) ?_
  refine lv_aload_n hx hb dX0_byPath_23 rfl (lv_at hl 2 rfl) ?_
  refine lv_iload_n hx hb dX0_byPath_24 rfl (lv_at hl 4 rfl) ?_
  refine lv_aload_n hx hb dX0_byPath_25 rfl (lv_at hl 1 rfl) ?_
  refine lv_aload_n hx hb dX0_byPath_26 rfl (lv_at hl 2 rfl) ?_
  refine lv_aload_n hx hb dX0_byPath_27 rfl (lv_at hl 3 rfl) ?_
  refine lv_iload_n hx hb dX0_byPath_28 rfl (lv_at hl 4 rfl) ?_
  refine rm_calli (va_runV (As := [.ref (ad yr), .ref (ad gr), .int (jI ((place : Nat) : Int))]) (rest := [.int (jI ((place : Nat) : Int)), .ref (ad yr), .ref (ad fo), .int (jI ((g place) - (ltb M d rd place (rd place) n)))]) ⟨hx, hb, hml, hown, hts⟩ (c_X0_leadsTo l D ty ad ct H.size yr n M d u fo fr rd place hp gr g hg hgp hn hY hM hd hF hrd) (cwV 3 hts gX0_byPath_X0_leadsTo rfl rfl rfl (by decide +kernel) ⟨Nat.le_of_ble_eq_true rfl, Nat.le_of_ble_eq_true rfl⟩) (rm_preV hK hNw hW hF.1 rfl) rfl rfl hl.1 rfl (lv_room (Nat.le_of_ble_eq_true rfl)) dX0_byPath_29 ⟨Nat.zero_le _, Nat.zero_le _⟩) hW hS hA (fun z_2 ct_2 H locs hq_2 hW hS => ?_)
  obtain ⟨hz, hcc_2⟩ := hq_2
  have hcc_2 := hcc_2.symm
  subst hcc_2
  subst hz
  refine rm_calli (va_runV (As := [.ref (ad yr), .int (jI ((place : Nat) : Int)), .int (jI (ldf M rd place (g place - ltb M d rd place (rd place) n) n 0))]) (rest := [.int (jI ((g place) - (ltb M d rd place (rd place) n)))]) ⟨hx, hb, hml, hown, hts⟩ (c_X0_pathsBack l D ty ad ct H.size yr n M d u fo fr rd place (ldf M rd place (g place - ltb M d rd place (rd place) n) n 0) hp ⟨by omega, by omega⟩ hn hY hM hd hF hrd) (cwV 3 hts gX0_byPath_X0_pathsBack rfl rfl rfl (by decide +kernel) ⟨Nat.le_of_ble_eq_true rfl, Nat.le_of_ble_eq_true rfl⟩) (rm_preV hK hNw hW hF.1 rfl) rfl rfl hl.1 rfl (lv_room (Nat.le_of_ble_eq_true rfl)) dX0_byPath_32 ⟨Nat.zero_le _, Nat.zero_le _⟩) hW hS hA (fun z_3 ct_3 H locs hq_3 hW hS => ?_)
  obtain ⟨hz, hcc_3⟩ := hq_3
  have hcc_3 := hcc_3.symm
  subst hcc_3
  subst hz
  refine rm_isub hx hb dX0_byPath_35 ?_
  exact W.iret hx hb hr (fun t ht hw => ⟨⟨_, ((((g place) - (ltb M d rd place (rd place) n)) - (pbk M rd place (ldf M rd place (g place - ltb M d rd place (rd place) n) n 0).toNat)), ct), rfl, ⟨rfl, ⟨rfl, rfl⟩⟩, by show rm_W D ad _ _ t.heap; rw [ht]; exact hW⟩, hS.F ht⟩) hS.2.2 dX0_byPath_36
set_option maxHeartbeats 4000000 in
set_option maxRecDepth 100000 in
theorem c_X0_targetIn (l : Launch) (D : va_G) (ty : Nat → ClassId) (ad : Nat → Nat) (ct : rm_C) (sz : Nat) (tr place : Nat) (htr : tr < 18446744073709551616) (hp : 1 ≤ place ∧ place < 8) : Met l yX0_targetIn wsX0_targetIn ({ frames := 0, cells := 0, slots := 0, locals := 0 }) (rm_P D ty ad ct sz [.long (jL ((tr : Nat) : Int)), .int (jI ((place : Nat) : Int))]) (rm_Qi D ad ct sz (fun z ct1 => z = ((tgt tr place : Nat) : Int) ∧ ct1 = ct)) 0 0 (rm_A ad ct sz) := by
  refine Met.ofW (cc := cX0_targetIn) (maxL := 3) (ret := (some .int)) (by decide) rfl ?_
  intro p e s m args below meth c s₁ B hml hv
  obtain ⟨hargs, hsz, hW, hK, hNw⟩ := hv
  have hx := B.exec
  have hb := B.bytes
  have hr := B.returns
  have hts := atoms_spec (ws := wsX0_targetIn) B.pre
  have hown : s.vm.findClass RX0 = some m.cls := findClass_of_methodNamed B.named
  have hlocks := B.notSynchronized
  subst hsz
  have hW := hW.own (sz := s.heap.size)
  have hA : ∀ q : Nat, s.heap.size ≤ q → rm_A ad ct s.heap.size q := fun q h => Or.inr h
  have hS : va_S (rm_A ad ct s.heap.size) s.heap s.heap [] := va_S.rf
  have hent : entryFrame m args 3 = entryFrame m ([.long (jL ((tr : Nat) : Int)), .int (jI ((place : Nat) : Int))] : List Value).toArray 3 := by rw [hargs]
  have hl := lv_entry ([.long (jL ((tr : Nat) : Int)), .int (jI ((place : Nat) : Int))]) (n := 3) (Nat.le_of_ble_eq_true rfl)
  rw [hent, lg_entry_eq]
  generalize (lg_sl ([.long (jL ((tr : Nat) : Int)), .int (jI ((place : Nat) : Int))]) ++ List.replicate (3 - (lg_sl ([.long (jL ((tr : Nat) : Int)), .int (jI ((place : Nat) : Int))])).length) Slot.unset).toArray = ls at hl ⊢
  have hl : lv_has ls 3 [(0, .long (jL ((tr : Nat) : Int))), (2, .int (jI ((place : Nat) : Int)))] := hl
  refine lv_lload_n hx hb dX0_targetIn_0 rfl (lv_at hl 0 rfl) ?_
  refine lv_iconst (v := jI 5) hx hb dX0_targetIn_1 rfl ?_
  refine lv_iload_n hx hb dX0_targetIn_2 rfl (lv_at hl 1 rfl) ?_
  refine lv_iconst (v := jI 1) hx hb dX0_targetIn_3 rfl ?_
  refine rm_isub hx hb dX0_targetIn_4 ?_
  refine rm_imul hx hb dX0_targetIn_5 ?_
  rw [show (5 * (((place : Nat) : Int) - 1)) = ((5 * (place - 1) : Nat) : Int) by omega]
  refine rm_lushr (z := ((tr / 2 ^ (5 * (place - 1)) : Nat) : Int)) hx hb dX0_targetIn_6 (bt_lushr htr (by omega)) ?_
  refine rm_l2i hx hb dX0_targetIn_7 ?_
  refine lv_bipush (v := jI 7) hx hb dX0_targetIn_8 (by decide) ?_
  refine rm_iand (z := ((tgt tr place : Nat) : Int)) hx hb dX0_targetIn_10 (bt_mask9 _ 3 (by decide) (by decide)) ?_
  exact W.iret hx hb hr (fun t ht hw => ⟨⟨_, (((tgt tr place : Nat) : Int), ct), rfl, ⟨rfl, ⟨rfl, rfl⟩⟩, by show rm_W D ad _ _ t.heap; rw [ht]; exact hW⟩, hS.F ht⟩) hS.2.2 dX0_targetIn_11
set_option maxHeartbeats 4000000 in
set_option maxRecDepth 100000 in
theorem c_X0_pathIn (l : Launch) (D : va_G) (ty : Nat → ClassId) (ad : Nat → Nat) (ct : rm_C) (sz : Nat) (tr place : Nat) (htr : tr < 18446744073709551616) (hp : 1 ≤ place ∧ place < 8) : Met l yX0_pathIn wsX0_pathIn ({ frames := 0, cells := 0, slots := 0, locals := 0 }) (rm_P D ty ad ct sz [.long (jL ((tr : Nat) : Int)), .int (jI ((place : Nat) : Int))]) (rm_Qi D ad ct sz (fun z ct1 => z = ((pth tr place : Nat) : Int) ∧ ct1 = ct)) 0 0 (rm_A ad ct sz) := by
  refine Met.ofW (cc := cX0_pathIn) (maxL := 3) (ret := (some .int)) (by decide) rfl ?_
  intro p e s m args below meth c s₁ B hml hv
  obtain ⟨hargs, hsz, hW, hK, hNw⟩ := hv
  have hx := B.exec
  have hb := B.bytes
  have hr := B.returns
  have hts := atoms_spec (ws := wsX0_pathIn) B.pre
  have hown : s.vm.findClass RX0 = some m.cls := findClass_of_methodNamed B.named
  have hlocks := B.notSynchronized
  subst hsz
  have hW := hW.own (sz := s.heap.size)
  have hA : ∀ q : Nat, s.heap.size ≤ q → rm_A ad ct s.heap.size q := fun q h => Or.inr h
  have hS : va_S (rm_A ad ct s.heap.size) s.heap s.heap [] := va_S.rf
  have hent : entryFrame m args 3 = entryFrame m ([.long (jL ((tr : Nat) : Int)), .int (jI ((place : Nat) : Int))] : List Value).toArray 3 := by rw [hargs]
  have hl := lv_entry ([.long (jL ((tr : Nat) : Int)), .int (jI ((place : Nat) : Int))]) (n := 3) (Nat.le_of_ble_eq_true rfl)
  rw [hent, lg_entry_eq]
  generalize (lg_sl ([.long (jL ((tr : Nat) : Int)), .int (jI ((place : Nat) : Int))]) ++ List.replicate (3 - (lg_sl ([.long (jL ((tr : Nat) : Int)), .int (jI ((place : Nat) : Int))])).length) Slot.unset).toArray = ls at hl ⊢
  have hl : lv_has ls 3 [(0, .long (jL ((tr : Nat) : Int))), (2, .int (jI ((place : Nat) : Int)))] := hl
  refine lv_lload_n hx hb dX0_pathIn_0 rfl (lv_at hl 0 rfl) ?_
  refine lv_iconst (v := jI 5) hx hb dX0_pathIn_1 rfl ?_
  refine lv_iload_n hx hb dX0_pathIn_2 rfl (lv_at hl 1 rfl) ?_
  refine lv_iconst (v := jI 1) hx hb dX0_pathIn_3 rfl ?_
  refine rm_isub hx hb dX0_pathIn_4 ?_
  refine rm_imul hx hb dX0_pathIn_5 ?_
  refine lv_iconst (v := jI 3) hx hb dX0_pathIn_6 rfl ?_
  refine rm_iadd hx hb dX0_pathIn_7 ?_
  rw [show ((5 * (((place : Nat) : Int) - 1)) + 3) = ((5 * (place - 1) + 3 : Nat) : Int) by omega]
  refine rm_lushr (z := ((tr / 2 ^ (5 * (place - 1) + 3) : Nat) : Int)) hx hb dX0_pathIn_8 (bt_lushr htr (by omega)) ?_
  refine rm_l2i hx hb dX0_pathIn_9 ?_
  refine lv_iconst (v := jI 3) hx hb dX0_pathIn_10 rfl ?_
  refine rm_iand (z := ((pth tr place : Nat) : Int)) hx hb dX0_pathIn_11 (bt_mask9 _ 2 (by decide) (by decide)) ?_
  exact W.iret hx hb hr (fun t ht hw => ⟨⟨_, (((pth tr place : Nat) : Int), ct), rfl, ⟨rfl, ⟨rfl, rfl⟩⟩, by show rm_W D ad _ _ t.heap; rw [ht]; exact hW⟩, hS.F ht⟩) hS.2.2 dX0_pathIn_12
