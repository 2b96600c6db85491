set_option maxHeartbeats 4000000 in
set_option maxRecDepth 100000 in
theorem c_X6_isWhole (l : Launch) (D : va_G) (ty : Nat → ClassId) (ad : Nat → Nat) (ct : rm_C) (sz : Nat) (th : Int) (yc hc : Nat) (yn : Nat → Nat) (yM : Nat → Nat → Nat → Int) (yu : Nat → Int) (hy : Nat → Nat) (hg hf mA : Nat → Nat → Int) (pt ro ke kt mu sl tw bw de : Nat → Int) (hMo : ModAt ty ad ct th yc hc yn yM yu hy hg hf mA pt ro ke kt mu sl tw bw de) (y9 : Nat) (hy9 : y9 < 6) (hn9 : 2 ≤ yn y9 ∧ yn y9 ≤ 8) (hM9 : ∀ i j, 0 ≤ yM y9 i j ∧ yM y9 i j ≤ 3) : Met l yX6_isWhole wsX6_isWhole ({ frames := 1, cells := 0, slots := 0, locals := 23 }) (rm_P D ty ad ct sz [.ref (ad 1000), .int (jI ((y9 : Nat) : Int))]) (rm_Qi D ad ct sz (fun z ct1 => z = (if isz (yn y9) (yM y9) 8 = 2 ^ (yn y9) - 1 then 1 else 0) ∧ ct1 = ct)) 0 0 (rm_A ad ct sz) := by
  refine Met.ofW (cc := cX6_isWhole) (maxL := 6) (ret := (some .boolean)) (by decide) rfl ?_
  intro p e s m args below meth c s₁ B hml hv
  obtain ⟨hargs, hsz, hW, hK, hNw⟩ := hv
  have hx := B.exec
  have hb := B.bytes
  have hr := B.returns
  have hts := atoms_spec (ws := wsX6_isWhole) B.pre
  have hown : s.vm.findClass RX6 = some m.cls := findClass_of_methodNamed B.named
  have hlocks := B.notSynchronized
  subst hsz
  have hW := hW.own (sz := s.heap.size)
  have hA : ∀ q : Nat, s.heap.size ≤ q → rm_A ad ct s.heap.size q := fun q h => Or.inr h
  have hS : va_S (rm_A ad ct s.heap.size) s.heap s.heap [] := va_S.rf
  have hent : entryFrame m args 6 = entryFrame m ([.ref (ad 1000), .int (jI ((y9 : Nat) : Int))] : List Value).toArray 6 := by rw [hargs]
  have hl := lv_entry ([.ref (ad 1000), .int (jI ((y9 : Nat) : Int))]) (n := 6) (Nat.le_of_ble_eq_true rfl)
  rw [hent, lg_entry_eq]
  generalize (lg_sl ([.ref (ad 1000), .int (jI ((y9 : Nat) : Int))]) ++ List.replicate (6 - (lg_sl ([.ref (ad 1000), .int (jI ((y9 : Nat) : Int))])).length) Slot.unset).toArray = ls at hl ⊢
  have hl : lv_has ls 6 [(0, .ref (ad 1000)), (1, .int (jI ((y9 : Nat) : Int)))] := hl
  have h256 := bt_pow8 hn9.2
  refine lv_iconst (v := jI 1) hx hb dX6_isWhole_0 rfl ?_
  refine lv_istore_n (lv' := [(2, .int (jI 1)), (0, .ref (ad 1000)), (1, .int (jI ((y9 : Nat) : Int)))]) hx hb dX6_isWhole_1 rfl hl (by decide) rfl (fun ls hl => ?_)
  refine lv_iconst (v := jI 0) hx hb dX6_isWhole_2 rfl ?_
  refine lv_istore_n (lv' := [(3, .int (jI 0)), (2, .int (jI 1)), (0, .ref (ad 1000)), (1, .int (jI ((y9 : Nat) : Int)))]) hx hb dX6_isWhole_3 rfl hl (by decide) rfl (fun ls hl => ?_)
  have hl : lv_has ls 6 [(3, .int (jI 0)), (2, .int (jI (((isz (yn y9) (yM y9) 0) : Nat) : Int))), (0, .ref (ad 1000)), (1, .int (jI ((y9 : Nat) : Int)))] := by exact hl
  have LZ : ∀ (k : Nat) (z8 : Nat) (hz8 : z8 ≤ 8), 8 - z8 < k → ∀ (H : Heap) (locs : List Loc), rm_W D ad ct (rm_A ad ct s.heap.size) H → va_S (rm_A ad ct s.heap.size) s.heap H locs → ∀ ls : Array Slot, lv_has ls 6 [(3, .int (jI ((z8 : Nat) : Int))), (2, .int (jI (((isz (yn y9) (yM y9) z8) : Nat) : Int))), (0, .ref (ad 1000)), (1, .int (jI ((y9 : Nat) : Int)))] → W p l e (headSpec wsX6_isWhole ({ frames := 1, cells := 0, slots := 0, locals := 23 })).room s m args below meth c H locs 0 0 (MQ below (rm_Qi D ad ct s.heap.size (fun z ct1 => z = (if isz (yn y9) (yM y9) 8 = 2 ^ (yn y9) - 1 then 1 else 0) ∧ ct1 = ct)) args s 0 0 (rm_A ad ct s.heap.size)) (F0 m 4 ls []) := by
    intro k
    induction k with
    | zero => intro z8 hz8 hk; exact absurd hk (Nat.not_lt_zero _)
    | succ k ih_LZ =>
      intro z8 hz8 hk  H locs   hW hS ls hl
      have hzl := isz_lt (n := (yn y9)) (M := (yM y9)) (by omega) z8
      refine lv_iload_n hx hb dX6_isWhole_4 rfl (lv_at hl 0 rfl) ?_
      refine lv_bipush (v := jI 8) hx hb dX6_isWhole_5 (by decide) ?_
      refine rm_icmp_ge (tgt := 85) hx hb ⟨by omega, by omega⟩ ⟨by omega, by omega⟩ dX6_isWhole_7 (by decide) (fun hc_2 => ?_) (fun hc_2 => ?_)
      · skip
        have hz8e : z8 = 8 := by omega
        subst hz8e
        have hpp := Nat.one_le_two_pow (n := (yn y9))
        refine lv_iload_n hx hb dX6_isWhole_85 rfl (lv_at hl 1 rfl) ?_
        refine lv_iconst (v := jI 1) hx hb dX6_isWhole_86 rfl ?_
        refine lv_aload_n hx hb dX6_isWhole_87 rfl (lv_at hl 2 rfl) ?_
        refine rm_get (ci := 6) (v := .ref (ad 1001)) (C := RX6) (T := TX6) (N := 19) hx hb hts (by decide +kernel) hown hK hW hMo.1 rfl 3 (by decide) (hts (.fieldLink RX6 7 "GrainYardModel" "places" "[I") (by decide +kernel)) (fun _ h9 => h9) rfl dX6_isWhole_88 ?_
        refine lv_iload_n hx hb dX6_isWhole_91 rfl (lv_at hl 3 rfl) ?_
        refine rm_iald hx hb hK hW (f := (fun y => ((yn y : Nat) : Int))) hMo.2.1 y9 rfl (by omega) (by omega) dX6_isWhole_92 ?_
        refine rm_ishl (z := (((1 * 2 ^ (yn y9)) : Nat) : Int)) hx hb dX6_isWhole_93 (bt_shl (by omega) (by first | omega | (rw [Nat.one_mul]; omega))) ?_
        refine lv_iconst (v := jI 1) hx hb dX6_isWhole_94 rfl ?_
        refine rm_isub hx hb dX6_isWhole_95 ?_
        rw [Nat.one_mul]
        refine rm_icmp_ne (tgt := 103) hx hb ⟨by omega, by omega⟩ ⟨by omega, by omega⟩ dX6_isWhole_96 (by decide) (fun hc_3 => ?_) (fun hc_3 => ?_)
        · skip
          have hne : isz (yn y9) (yM y9) 8 ≠ 2 ^ (yn y9) - 1 := by omega
          refine lv_iconst (v := jI 0) hx hb dX6_isWhole_103 rfl ?_
          exact W.zret hx hb hr (by decide) (fun t ht hw => ⟨⟨_, (0, ct), rfl, ⟨rfl, ⟨(if_neg hne).symm, rfl⟩⟩, by show rm_W D ad _ _ t.heap; rw [ht]; exact hW⟩, hS.F ht⟩) hS.2.2 dX6_isWhole_104
        · skip
          have hne : isz (yn y9) (yM y9) 8 = 2 ^ (yn y9) - 1 := by omega
          refine lv_iconst (v := jI 1) hx hb dX6_isWhole_99 rfl ?_
          refine lv_goto (tgt := 104) hx hb dX6_isWhole_100 (by decide) ?_
          exact W.zret hx hb hr (by decide) (fun t ht hw => ⟨⟨_, (1, ct), rfl, ⟨rfl, ⟨(if_pos hne).symm, rfl⟩⟩, by show rm_W D ad _ _ t.heap; rw [ht]; exact hW⟩, hS.F ht⟩) hS.2.2 dX6_isWhole_104
      · skip
        refine lv_iconst (v := jI 0) hx hb dX6_isWhole_10 rfl ?_
        refine lv_istore (lv' := [(4, .int (jI 0)), (3, .int (jI ((z8 : Nat) : Int))), (2, .int (jI (((isz (yn y9) (yM y9) z8) : Nat) : Int))), (0, .ref (ad 1000)), (1, .int (jI ((y9 : Nat) : Int)))]) hx hb dX6_isWhole_11 hl (by decide) rfl (fun ls hl => ?_)
        have hl : lv_has ls 6 [(4, .int (jI 0)), (3, .int (jI ((z8 : Nat) : Int))), (2, .int (jI (((isa (yn y9) (yM y9) 0 (isz (yn y9) (yM y9) z8)) : Nat) : Int))), (0, .ref (ad 1000)), (1, .int (jI ((y9 : Nat) : Int)))] := by exact hl
        have LA : ∀ (k : Nat) (a8 : Nat) (ha8 : a8 ≤ (yn y9)), (yn y9) - a8 < k → ∀ (H : Heap) (locs : List Loc), rm_W D ad ct (rm_A ad ct s.heap.size) H → va_S (rm_A ad ct s.heap.size) s.heap H locs → ∀ ls : Array Slot, lv_has ls 6 [(4, .int (jI ((a8 : Nat) : Int))), (3, .int (jI ((z8 : Nat) : Int))), (2, .int (jI (((isa (yn y9) (yM y9) a8 (isz (yn y9) (yM y9) z8)) : Nat) : Int))), (0, .ref (ad 1000)), (1, .int (jI ((y9 : Nat) : Int)))] → W p l e (headSpec wsX6_isWhole ({ frames := 1, cells := 0, slots := 0, locals := 23 })).room s m args below meth c H locs 0 0 (MQ below (rm_Qi D ad ct s.heap.size (fun z ct1 => z = (if isz (yn y9) (yM y9) 8 = 2 ^ (yn y9) - 1 then 1 else 0) ∧ ct1 = ct)) args s 0 0 (rm_A ad ct s.heap.size)) (F0 m 13 ls []) := by
          intro k
          induction k with
          | zero => intro a8 ha8 hk; exact absurd hk (Nat.not_lt_zero _)
          | succ k ih_LA =>
            intro a8 ha8 hk  H locs   hW hS ls hl
            have hal := isa_lt (n := (yn y9)) (M := (yM y9)) hzl a8
            refine lv_iload hx hb dX6_isWhole_13 (lv_at hl 0 rfl) ?_
            refine lv_aload_n hx hb dX6_isWhole_15 rfl (lv_at hl 3 rfl) ?_
            refine rm_get (ci := 6) (v := .ref (ad 1001)) (C := RX6) (T := TX6) (N := 19) hx hb hts (by decide +kernel) hown hK hW hMo.1 rfl 3 (by decide) (hts (.fieldLink RX6 7 "GrainYardModel" "places" "[I") (by decide +kernel)) (fun _ h9 => h9) rfl dX6_isWhole_16 ?_
            refine lv_iload_n hx hb dX6_isWhole_19 rfl (lv_at hl 4 rfl) ?_
            refine rm_iald hx hb hK hW (f := (fun y => ((yn y : Nat) : Int))) hMo.2.1 y9 rfl (by omega) (by omega) dX6_isWhole_20 ?_
            refine rm_icmp_ge (tgt := 79) hx hb ⟨by omega, by omega⟩ ⟨by omega, by omega⟩ dX6_isWhole_21 (by decide) (fun hc_5 => ?_) (fun hc_5 => ?_)
            · skip
              have hae : a8 = (yn y9) := by omega
              have hl : lv_has ls 6 [(3, .int (jI ((z8 : Nat) : Int))), (2, .int (jI (((isa (yn y9) (yM y9) a8 (isz (yn y9) (yM y9) z8)) : Nat) : Int))), (0, .ref (ad 1000)), (1, .int (jI ((y9 : Nat) : Int)))] := lv_sub hl [1, 2, 3, 4] rfl
              have hl : lv_has ls 6 [(3, .int (jI ((z8 : Nat) : Int))), (2, .int (jI (((isz (yn y9) (yM y9) (z8 + 1)) : Nat) : Int))), (0, .ref (ad 1000)), (1, .int (jI ((y9 : Nat) : Int)))] := by rw [hae] at hl; exact hl
              refine lv_iinc (v := jI (((z8 : Nat) : Int) + 1)) (lv' := [(3, .int (jI (((z8 : Nat) : Int) + 1))), (2, .int (jI (((isz (yn y9) (yM y9) (z8 + 1)) : Nat) : Int))), (0, .ref (ad 1000)), (1, .int (jI ((y9 : Nat) : Int)))]) hx hb dX6_isWhole_79 hl (k := 0) rfl (jI_add _ _) (by decide) rfl (fun ls hl => ?_)
              refine lv_goto (tgt := 4) hx hb dX6_isWhole_82 (by decide) ?_
              exact ih_LZ (z8 + 1) (by omega) (by omega)  _ _ hW hS ls (lv_sub hl [0, 1, 2, 3] rfl)
            · skip
              refine lv_iconst (v := jI 0) hx hb dX6_isWhole_24 rfl ?_
              refine lv_istore (lv' := [(5, .int (jI 0)), (4, .int (jI ((a8 : Nat) : Int))), (3, .int (jI ((z8 : Nat) : Int))), (2, .int (jI (((isa (yn y9) (yM y9) a8 (isz (yn y9) (yM y9) z8)) : Nat) : Int))), (0, .ref (ad 1000)), (1, .int (jI ((y9 : Nat) : Int)))]) hx hb dX6_isWhole_25 hl (by decide) rfl (fun ls hl => ?_)
              have hl : lv_has ls 6 [(5, .int (jI 0)), (4, .int (jI ((a8 : Nat) : Int))), (3, .int (jI ((z8 : Nat) : Int))), (2, .int (jI (((isb (yM y9) a8 0 (isa (yn y9) (yM y9) a8 (isz (yn y9) (yM y9) z8))) : Nat) : Int))), (0, .ref (ad 1000)), (1, .int (jI ((y9 : Nat) : Int)))] := by exact hl
              have LB : ∀ (k : Nat) (b8 : Nat) (hb8 : b8 ≤ (yn y9)), (yn y9) - b8 < k → ∀ (H : Heap) (locs : List Loc), rm_W D ad ct (rm_A ad ct s.heap.size) H → va_S (rm_A ad ct s.heap.size) s.heap H locs → ∀ ls : Array Slot, lv_has ls 6 [(5, .int (jI ((b8 : Nat) : Int))), (4, .int (jI ((a8 : Nat) : Int))), (3, .int (jI ((z8 : Nat) : Int))), (2, .int (jI (((isb (yM y9) a8 b8 (isa (yn y9) (yM y9) a8 (isz (yn y9) (yM y9) z8))) : Nat) : Int))), (0, .ref (ad 1000)), (1, .int (jI ((y9 : Nat) : Int)))] → W p l e (headSpec wsX6_isWhole ({ frames := 1, cells := 0, slots := 0, locals := 23 })).room s m args below meth c H locs 0 0 (MQ below (rm_Qi D ad ct s.heap.size (fun z ct1 => z = (if isz (yn y9) (yM y9) 8 = 2 ^ (yn y9) - 1 then 1 else 0) ∧ ct1 = ct)) args s 0 0 (rm_A ad ct s.heap.size)) (F0 m 27 ls []) := by
                intro k
                induction k with
                | zero => intro b8 hb8 hk; exact absurd hk (Nat.not_lt_zero _)
                | succ k ih_LB =>
                  intro b8 hb8 hk  H locs   hW hS ls hl
                  have hbl := isb_lt (M := (yM y9)) (a := a8) hal hb8
                  have his : isb (yM y9) a8 (b8 + 1) (isa (yn y9) (yM y9) a8 (isz (yn y9) (yM y9) z8)) = ist (yM y9) a8 b8 (isb (yM y9) a8 b8 (isa (yn y9) (yM y9) a8 (isz (yn y9) (yM y9) z8))) := rfl
                  unfold ist at his
                  refine lv_iload hx hb dX6_isWhole_27 (lv_at hl 0 rfl) ?_
                  refine lv_aload_n hx hb dX6_isWhole_29 rfl (lv_at hl 4 rfl) ?_
                  refine rm_get (ci := 6) (v := .ref (ad 1001)) (C := RX6) (T := TX6) (N := 19) hx hb hts (by decide +kernel) hown hK hW hMo.1 rfl 3 (by decide) (hts (.fieldLink RX6 7 "GrainYardModel" "places" "[I") (by decide +kernel)) (fun _ h9 => h9) rfl dX6_isWhole_30 ?_
                  refine lv_iload_n hx hb dX6_isWhole_33 rfl (lv_at hl 5 rfl) ?_
                  refine rm_iald hx hb hK hW (f := (fun y => ((yn y : Nat) : Int))) hMo.2.1 y9 rfl (by omega) (by omega) dX6_isWhole_34 ?_
                  refine rm_icmp_ge (tgt := 73) hx hb ⟨by omega, by omega⟩ ⟨by omega, by omega⟩ dX6_isWhole_35 (by decide) (fun hc_7 => ?_) (fun hc_7 => ?_)
                  · skip
                    have hbe : b8 = (yn y9) := by omega
                    have hl : lv_has ls 6 [(4, .int (jI ((a8 : Nat) : Int))), (3, .int (jI ((z8 : Nat) : Int))), (2, .int (jI (((isb (yM y9) a8 b8 (isa (yn y9) (yM y9) a8 (isz (yn y9) (yM y9) z8))) : Nat) : Int))), (0, .ref (ad 1000)), (1, .int (jI ((y9 : Nat) : Int)))] := lv_sub hl [1, 2, 3, 4, 5] rfl
                    have hl : lv_has ls 6 [(4, .int (jI ((a8 : Nat) : Int))), (3, .int (jI ((z8 : Nat) : Int))), (2, .int (jI (((isa (yn y9) (yM y9) (a8 + 1) (isz (yn y9) (yM y9) z8)) : Nat) : Int))), (0, .ref (ad 1000)), (1, .int (jI ((y9 : Nat) : Int)))] := by rw [hbe] at hl; exact hl
                    refine lv_iinc (v := jI (((a8 : Nat) : Int) + 1)) (lv' := [(4, .int (jI (((a8 : Nat) : Int) + 1))), (3, .int (jI ((z8 : Nat) : Int))), (2, .int (jI (((isa (yn y9) (yM y9) (a8 + 1) (isz (yn y9) (yM y9) z8)) : Nat) : Int))), (0, .ref (ad 1000)), (1, .int (jI ((y9 : Nat) : Int)))]) hx hb dX6_isWhole_73 hl (k := 0) rfl (jI_add _ _) (by decide) rfl (fun ls hl => ?_)
                    refine lv_goto (tgt := 13) hx hb dX6_isWhole_76 (by decide) ?_
                    exact ih_LA (a8 + 1) (by omega) (by omega)  _ _ hW hS ls (lv_sub hl [0, 1, 2, 3, 4] rfl)
                  · skip
                    refine lv_iload_n hx hb dX6_isWhole_38 rfl (lv_at hl 3 rfl) ?_
                    refine lv_iload hx hb dX6_isWhole_39 (lv_at hl 1 rfl) ?_
                    refine rm_ishr (z := ((((isb (yM y9) a8 b8 (isa (yn y9) (yM y9) a8 (isz (yn y9) (yM y9) z8))) / 2 ^ a8) : Nat) : Int)) hx hb dX6_isWhole_41 (bt_shr (by omega) (by omega)) ?_
                    refine lv_iconst (v := jI 1) hx hb dX6_isWhole_42 rfl ?_
                    refine rm_iand (z := (((((isb (yM y9) a8 b8 (isa (yn y9) (yM y9) a8 (isz (yn y9) (yM y9) z8))) / 2 ^ a8) % 2 ^ 1) : Nat) : Int)) hx hb dX6_isWhole_43 (bt_mask (Nat.lt_of_le_of_lt (Nat.div_le_self _ _) (by omega)) 1 (by decide)) ?_
                    refine lv_iconst (v := jI 1) hx hb dX6_isWhole_44 rfl ?_
                    refine rm_icmp_ne (tgt := 67) hx hb ⟨by omega, by omega⟩ ⟨by omega, by omega⟩ dX6_isWhole_45 (by decide) (fun hc_8 => ?_) (fun hc_8 => ?_)
                    · skip
                      rw [if_neg (fun hq => by have h1 := hq.1; have h2 := hq.2; omega)] at his
                      have hl : lv_has ls 6 [(5, .int (jI ((b8 : Nat) : Int))), (4, .int (jI ((a8 : Nat) : Int))), (3, .int (jI ((z8 : Nat) : Int))), (2, .int (jI (((isb (yM y9) a8 (b8 + 1) (isa (yn y9) (yM y9) a8 (isz (yn y9) (yM y9) z8))) : Nat) : Int))), (0, .ref (ad 1000)), (1, .int (jI ((y9 : Nat) : Int)))] := by rw [his]; exact hl
                      refine lv_iinc (v := jI (((b8 : Nat) : Int) + 1)) (lv' := [(5, .int (jI (((b8 : Nat) : Int) + 1))), (4, .int (jI ((a8 : Nat) : Int))), (3, .int (jI ((z8 : Nat) : Int))), (2, .int (jI (((isb (yM y9) a8 (b8 + 1) (isa (yn y9) (yM y9) a8 (isz (yn y9) (yM y9) z8))) : Nat) : Int))), (0, .ref (ad 1000)), (1, .int (jI ((y9 : Nat) : Int)))]) hx hb dX6_isWhole_67 hl (k := 0) rfl (jI_add _ _) (by decide) rfl (fun ls hl => ?_)
                      refine lv_goto (tgt := 27) hx hb dX6_isWhole_70 (by decide) ?_
                      exact ih_LB (b8 + 1) (by omega) (by omega)  _ _ hW hS ls (lv_sub hl [0, 1, 2, 3, 4, 5] rfl)
                    · skip
                      refine lv_aload_n hx hb dX6_isWhole_48 rfl (lv_at hl 4 rfl) ?_
                      refine lv_iload_n hx hb dX6_isWhole_49 rfl (lv_at hl 5 rfl) ?_
                      refine lv_iload hx hb dX6_isWhole_50 (lv_at hl 1 rfl) ?_
                      refine lv_iload hx hb dX6_isWhole_52 (lv_at hl 0 rfl) ?_
                      refine rm_calli (va_runV (As := [.int (jI ((y9 : Nat) : Int)), .int (jI ((a8 : Nat) : Int)), .int (jI ((b8 : Nat) : Int))]) (rest := []) ⟨hx, hb, hml, hown, hts⟩ (c_X6_between l D ty ad ct H.size th yc hc yn yM yu hy hg hf mA pt ro ke kt mu sl tw bw de hMo y9 a8 b8 hy9 (by omega) (by omega)) (cwV 3 hts gX6_isWhole_X6_between rfl rfl rfl (by decide +kernel) ⟨Nat.le_of_ble_eq_true rfl, Nat.le_of_ble_eq_true rfl⟩) (rm_preV hK hNw hW hMo.1 rfl) rfl rfl hl.1 rfl (lv_room (Nat.le_of_ble_eq_true rfl)) dX6_isWhole_54 ⟨Nat.zero_le _, Nat.zero_le _⟩) hW hS hA (fun z_9 ct_9 H locs hq_9 hW hS => ?_)
                      obtain ⟨hz, hcc_9⟩ := hq_9
                      have hcc_9 := hcc_9.symm
                      subst hcc_9
                      subst hz
                      have hMb := hM9 a8 b8
                      refine rm_if_le (tgt := 67) hx hb ⟨by omega, by omega⟩ dX6_isWhole_57 (by decide) (fun hc_10 => ?_) (fun hc_10 => ?_)
                      · skip
                        rw [if_neg (fun hq => by have h1 := hq.1; have h2 := hq.2; omega)] at his
                        have hl : lv_has ls 6 [(5, .int (jI ((b8 : Nat) : Int))), (4, .int (jI ((a8 : Nat) : Int))), (3, .int (jI ((z8 : Nat) : Int))), (2, .int (jI (((isb (yM y9) a8 (b8 + 1) (isa (yn y9) (yM y9) a8 (isz (yn y9) (yM y9) z8))) : Nat) : Int))), (0, .ref (ad 1000)), (1, .int (jI ((y9 : Nat) : Int)))] := by rw [his]; exact hl
                        refine lv_iinc (v := jI (((b8 : Nat) : Int) + 1)) (lv' := [(5, .int (jI (((b8 : Nat) : Int) + 1))), (4, .int (jI ((a8 : Nat) : Int))), (3, .int (jI ((z8 : Nat) : Int))), (2, .int (jI (((isb (yM y9) a8 (b8 + 1) (isa (yn y9) (yM y9) a8 (isz (yn y9) (yM y9) z8))) : Nat) : Int))), (0, .ref (ad 1000)), (1, .int (jI ((y9 : Nat) : Int)))]) hx hb dX6_isWhole_67 hl (k := 0) rfl (jI_add _ _) (by decide) rfl (fun ls hl => ?_)
                        refine lv_goto (tgt := 27) hx hb dX6_isWhole_70 (by decide) ?_
                        exact ih_LB (b8 + 1) (by omega) (by omega)  _ _ hW hS ls (lv_sub hl [0, 1, 2, 3, 4, 5] rfl)
                      · skip
                        rw [if_pos ⟨by omega, by omega⟩] at his
                        have hp2 : 2 ^ b8 < 256 := Nat.pow_lt_pow_right (by omega) (show b8 < 8 by omega)
                        refine lv_iload_n hx hb dX6_isWhole_60 rfl (lv_at hl 3 rfl) ?_
                        refine lv_iconst (v := jI 1) hx hb dX6_isWhole_61 rfl ?_
                        refine lv_iload hx hb dX6_isWhole_62 (lv_at hl 0 rfl) ?_
                        refine rm_ishl (z := (((1 * 2 ^ b8) : Nat) : Int)) hx hb dX6_isWhole_64 (bt_shl (by omega) (by first | omega | (rw [Nat.one_mul]; omega))) ?_
                        refine rm_ior (z := ((((isb (yM y9) a8 b8 (isa (yn y9) (yM y9) a8 (isz (yn y9) (yM y9) z8))) ||| (1 * 2 ^ b8)) : Nat) : Int)) hx hb dX6_isWhole_65 (bt_or _ _) ?_
                        refine lv_istore_n (lv' := [(2, .int (jI ((((isb (yM y9) a8 b8 (isa (yn y9) (yM y9) a8 (isz (yn y9) (yM y9) z8))) ||| (1 * 2 ^ b8)) : Nat) : Int))), (5, .int (jI ((b8 : Nat) : Int))), (4, .int (jI ((a8 : Nat) : Int))), (3, .int (jI ((z8 : Nat) : Int))), (0, .ref (ad 1000)), (1, .int (jI ((y9 : Nat) : Int)))]) hx hb dX6_isWhole_66 rfl hl (by decide) rfl (fun ls hl => ?_)
                        have hl : lv_has ls 6 [(2, .int (jI (((isb (yM y9) a8 (b8 + 1) (isa (yn y9) (yM y9) a8 (isz (yn y9) (yM y9) z8))) : Nat) : Int))), (5, .int (jI ((b8 : Nat) : Int))), (4, .int (jI ((a8 : Nat) : Int))), (3, .int (jI ((z8 : Nat) : Int))), (0, .ref (ad 1000)), (1, .int (jI ((y9 : Nat) : Int)))] := by rw [his]; rw [Nat.one_mul] at hl; exact hl
                        refine lv_iinc (v := jI (((b8 : Nat) : Int) + 1)) (lv' := [(5, .int (jI (((b8 : Nat) : Int) + 1))), (2, .int (jI (((isb (yM y9) a8 (b8 + 1) (isa (yn y9) (yM y9) a8 (isz (yn y9) (yM y9) z8))) : Nat) : Int))), (4, .int (jI ((a8 : Nat) : Int))), (3, .int (jI ((z8 : Nat) : Int))), (0, .ref (ad 1000)), (1, .int (jI ((y9 : Nat) : Int)))]) hx hb dX6_isWhole_67 hl (k := 1) rfl (jI_add _ _) (by decide) rfl (fun ls hl => ?_)
                        refine lv_goto (tgt := 27) hx hb dX6_isWhole_70 (by decide) ?_
                        exact ih_LB (b8 + 1) (by omega) (by omega)  _ _ hW hS ls (lv_sub hl [0, 2, 3, 1, 4, 5] rfl)
              exact LB ((yn y9) + 1) (0) (by omega) (by omega)  _ _ hW hS ls (lv_sub hl [0, 1, 2, 3, 4, 5] rfl)
        exact LA ((yn y9) + 1) (0) (by omega) (by omega)  _ _ hW hS ls (lv_sub hl [0, 1, 2, 3, 4] rfl)
  exact LZ (9) (0) (by omega) (by omega)  _ _ hW hS ls (lv_sub hl [0, 1, 2, 3] rfl)
