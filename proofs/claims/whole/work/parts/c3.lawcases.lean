section LawCasesc3
set_option maxHeartbeats 4000000 in
set_option maxRecDepth 100000 in
theorem law_c8 {p : Program} {l : Launch} {e : Env} {s : State} {m : MethodId} {below : List Frame} {meth : Method} {c : Code} {b L : Nat} {xs : Nat → Int32} {D : va_G} {ty : Nat → ClassId} (hC : LC p l s m meth c b L xs D ty) {j : Nat} (hj : 5 * j + 5 ≤ L) (hL : L ≤ 2560) (hn : LawK p l e s m below meth c b D ty (j + 1)) {ad : Nat → Nat} {ct : rm_C} {th : Int} {o : Nat → Int} {H : Heap} {locs : List Loc} {ls : Array Slot} (hG : lwGo ty ad ct j th o) (hW : rm_W D ad ct (lwA s) H) (hS : va_S (lwA s) s.heap H locs) (hl : lv_has ls 8 [(0, .ref b), (1, .ref (ad 0)), (2, .ref (ad 1000)), (3, .ref (ad 2000)), (4, .int (jI (5 * (j : Int))))]) : W p l e room_1 s m #[Value.ref b] below meth c H locs (60 + 20 * j) (1300 + 200 * j) (lw_Z below #[Value.ref b] s) (F0 m 646 ls []) := by
  obtain ⟨⟨hx, hb, hr, hml, hown0, htb, hX, hbl, hlocks, hgv⟩, hlf, hK, hNw, hE, hX2, hU⟩ := id hC
  have hb : c.code = cL_law := hb
  have hts : ∀ w ∈ wsL_law, w.before #[Value.ref b] s = true := fun w hw => htb w (wsL_law_in w hw)
  have hown : s.vm.findClass RL = some m.cls := hown0
  have hA : ∀ q : Nat, s.heap.size ≤ q → lwA s q := fun _ h => h
  have hbA : ¬ lwA s b := Nat.not_le.mpr hbl
  have hj5 : j ≤ 512 := by omega
  obtain ⟨⟨yc, hc, yn, yM, yu, hy, hg, hf, hCl, hMx, hI⟩, ho⟩ := hG
  have hCc : ClsAt ty ad (cutC ct) yc hc yn yM (ydg yn yM) yu hy hg hf := hCl.lo (fun q hq => cutC_lo hq)
  obtain ⟨z1, hz1⟩ : ∃ z, (xs (5 * j + 1)).toInt = z := ⟨_, rfl⟩
  have r1 : r32 z1 := by rw [← hz1]; exact jI_rng _
  obtain ⟨z2, hz2⟩ : ∃ z, (xs (5 * j + 2)).toInt = z := ⟨_, rfl⟩
  have r2 : r32 z2 := by rw [← hz2]; exact jI_rng _
  refine lv_aload_n hx hb dL_law_646 rfl (lv_at hl 1 rfl) ?_
  refine lv_aload_n hx hb dL_law_647 rfl (lv_at hl 0 rfl) ?_
  refine lv_iload hx hb dL_law_648 (lv_at hl 4 rfl) ?_
  refine lv_iconst (v := jI 1) hx hb dL_law_650 rfl ?_
  refine rm_iadd hx hb dL_law_651 ?_
  refine s_ld hx hb hX hbl hbA hS hL (5 * j + 1) (by omega) (by omega) hz1 dL_law_652 ?_
  refine lv_aload_n hx hb dL_law_653 rfl (lv_at hl 0 rfl) ?_
  refine lv_iload hx hb dL_law_654 (lv_at hl 4 rfl) ?_
  refine lv_iconst (v := jI 2) hx hb dL_law_656 rfl ?_
  refine rm_iadd hx hb dL_law_657 ?_
  refine s_ld hx hb hX hbl hbA hS hL (5 * j + 2) (by omega) (by omega) hz2 dL_law_658 ?_
  refine lv_aload_n hx hb dL_law_659 rfl (lv_at hl 3 rfl) ?_
  refine yc_i (vx_runSX (As := [.ref (ad 0), .int (jI z1), .int (jI z2), .ref (ad 2000)]) (rest := []) ⟨hx, hb, hml, hown, hts⟩ (c_L_grains l D ty ad ct H.size _ o z1 z2 (post := p5_grains ty ad (cutC ct) yc hc yn yM yu hy hg hf z1 z2) (px := x5_grains ty ad (cutC ct) yc hc yn yM yu hy hg hf z1 z2) hCl.2.1.1 ho (c_X5_grains l hlf D ty ad (cutC ct) H.size yc hc yn yM (ydg yn yM) yu hy hg hf hCc (iv_n hI) z1 z2 r1 r2) (fun E c1 h => h.1)) (vx_cwSW 4 hts gL_law_L_grains rfl rfl rfl (by decide +kernel) ⟨Nat.le_of_ble_eq_true rfl, Nat.le_of_ble_eq_true rfl⟩) (rm_preSY hK hNw hE hX2 hU hW hS hA) rfl rfl hl.1 rfl (lv_room (Nat.le_of_ble_eq_true rfl)) dL_law_660 ⟨by show 60 + 20 * j + 2 ≤ 601024; omega, by show 1300 + 200 * j + 12 ≤ 7293034; omega⟩) hW hS hA (fun k ct1 H locs hq1 hW hS => ?_)
  refine lv_istore (lv' := [(5, .int (jI k)), (0, .ref b), (1, .ref (ad 0)), (2, .ref (ad 1000)), (3, .ref (ad 2000)), (4, .int (jI (5 * (j : Int))))]) hx hb dL_law_663 hl (by decide) rfl (fun ls hl => ?_)
  have hk1 : ∀ q, 1000 ≤ q → q ≤ 1016 → ct1 q = ct q := by
    rcases hq1 with ⟨-, z, c1, -, -, hgl⟩ | ⟨-, c1, -, hgl⟩
    · exact fun q h h2 => (hgl q (by omega)).trans (glue_hi h)
    · exact fun q h h2 => (hgl q).trans (glue_hi h)
  obtain ⟨mA, pt, ro, ke, kt, mu, sl, tw, bw, de, hMo⟩ := hMx.hi (ad2 := ad) hk1 (fun r hr => rfl)
  refine lv_aload_n hx hb dL_law_665 rfl (lv_at hl 3 rfl) ?_
  refine lv_aload_n hx hb dL_law_666 rfl (lv_at hl 1 rfl) ?_
  refine lv_iload hx hb dL_law_667 (lv_at hl 5 rfl) ?_
  refine lv_iconst (v := jI 1) hx hb dL_law_669 rfl ?_
  refine rm_iadd hx hb dL_law_670 ?_
  refine s_ld hx hb hX hbl hbA hS hL (5 * j + 1) (by omega) (by omega) hz1 dL_law_671 ?_
  refine lv_aload_n hx hb dL_law_672 rfl (lv_at hl 1 rfl) ?_
  refine lv_iload hx hb dL_law_673 (lv_at hl 5 rfl) ?_
  refine lv_iconst (v := jI 2) hx hb dL_law_675 rfl ?_
  refine rm_iadd hx hb dL_law_676 ?_
  refine s_ld hx hb hX hbl hbA hS hL (5 * j + 2) (by omega) (by omega) hz2 dL_law_677 ?_
  refine rm_calll (va_runV (As := [.int (jI z1), .int (jI z2)]) (rest := []) ⟨hx, hb, hml, hown, hts⟩ (c_X6_grains l D ty ad ct1 H.size th yc hc yn yM yu hy hg hf mA pt ro ke kt mu sl tw bw de hMo (hI.1) (iv_n hI) (iv_M hI) (iv_hy hI) z1 z2 r1 r2) (cwV 2 hts gL_law_X6_grains rfl rfl rfl (by decide +kernel) ⟨Nat.le_of_ble_eq_true rfl, Nat.le_of_ble_eq_true rfl⟩) (rm_preV hK hNw hW hMo.1 rfl) rfl rfl hl.1 rfl (lv_room (Nat.le_of_ble_eq_true rfl)) dL_law_678 ⟨by show 60 + 20 * j + 2 + 0 ≤ 601024; omega, by show 1300 + 200 * j + 12 + 0 ≤ 7293034; omega⟩) hW hS hA (fun b9 ct2 H locs hq2 hW hS => ?_)
  have hEnd := ag_grains hj5 hI hCl ho (R := fun _ => True) (fun _ _ _ => trivial) hq1 hq2
  obtain ⟨o2, hG2, hk3, hb2⟩ := hEnd
  refine lv_lstore (lv' := [(6, .long (jL b9)), (5, .int (jI k)), (0, .ref b), (1, .ref (ad 0)), (2, .ref (ad 1000)), (3, .ref (ad 2000)), (4, .int (jI (5 * (j : Int))))]) hx hb dL_law_681 hl (by decide) rfl (fun ls hl => ?_)
  have hrk : r32 k := by
    rcases hk3 with h | h | h <;> rw [h] <;> exact ⟨by omega, by omega⟩
  obtain ⟨⟨yc2, hc2, yn2, yM2, yu2, hy2, hg2, hf2, hCl2, hMx2, hI2⟩, ho2⟩ := id hG2
  obtain ⟨mA2, pt2, ro2, ke2, kt2, mu2, sl2, tw2, bw2, de2, hMo2⟩ := hMx2
  refine lv_aload_n hx hb dL_law_683 rfl (lv_at hl 4 rfl) ?_
  refine rm_calli (va_runV (As := []) (rest := []) ⟨hx, hb, hml, hown, hts⟩ (c_X6_thrown l D ty ad ct2 H.size k yc2 hc2 yn2 yM2 yu2 hy2 hg2 hf2 mA2 pt2 ro2 ke2 kt2 mu2 sl2 tw2 bw2 de2 hMo2 hrk) (cwV 0 hts gL_law_X6_thrown rfl rfl rfl (by decide +kernel) ⟨Nat.le_of_ble_eq_true rfl, Nat.le_of_ble_eq_true rfl⟩) (rm_preV hK hNw hW hMo2.1 rfl) rfl rfl hl.1 rfl (lv_room (Nat.le_of_ble_eq_true rfl)) dL_law_684 ⟨by show 60 + 20 * j + 2 + 0 + 0 ≤ 601024; omega, by show 1300 + 200 * j + 12 + 0 + 0 ≤ 7293034; omega⟩) hW hS hA (fun t9 ct3 H locs hq3 hW hS => ?_)
  obtain ⟨ht9, hc3⟩ := hq3
  rw [ht9]
  rw [hc3] at hW
  refine lv_iload hx hb dL_law_687 (lv_at hl 1 rfl) ?_
  refine rm_icmp_eq (tgt := 694) hx hb hrk hrk dL_law_689 (by decide) (fun _ => ?_) (fun hq => absurd rfl hq)
  refine lv_iload hx hb dL_law_694 (lv_at hl 1 rfl) ?_
  refine rm_if_ne (tgt := 710) hx hb hrk dL_law_696 (by decide) (fun hk0 => ?_) (fun hk0 => ?_)
  · skip
    refine lv_goto (tgt := 1608) hx hb dL_law_710 (by decide) ?_
    exact law_tail hC hn (by omega) (by omega) hG2 hW hS (lv_sub hl [2, 3, 4, 5, 6] rfl)
  · obtain ⟨hb3, hR⟩ := hb2 hk0
    refine lv_aload_n hx hb dL_law_699 rfl (lv_at hl 5 rfl) ?_
    refine lv_iconst (v := jI 0) hx hb dL_law_700 rfl ?_
    refine rm_lald hx hb hK hW (f := o2) ho2 0 rfl (by omega) (by omega) dL_law_701 ?_
    rw [hb3]
    refine lv_lload hx hb dL_law_702 (lv_at hl 0 rfl) ?_
    refine lcmp_same hx hb dL_law_704 ?_
    refine rm_if_eq (tgt := 710) hx hb r32_0 dL_law_705 (by decide) (fun _ => ?_) (fun hq => absurd rfl hq)
    refine lv_goto (tgt := 1608) hx hb dL_law_710 (by decide) ?_
    exact law_tail hC hn (by omega) (by omega) hG2 hW hS (lv_sub hl [2, 3, 4, 5, 6] rfl)
set_option maxHeartbeats 4000000 in
set_option maxRecDepth 100000 in
theorem law_c9 {p : Program} {l : Launch} {e : Env} {s : State} {m : MethodId} {below : List Frame} {meth : Method} {c : Code} {b L : Nat} {xs : Nat → Int32} {D : va_G} {ty : Nat → ClassId} (hC : LC p l s m meth c b L xs D ty) {j : Nat} (hj : 5 * j + 5 ≤ L) (hL : L ≤ 2560) (hn : LawK p l e s m below meth c b D ty (j + 1)) {ad : Nat → Nat} {ct : rm_C} {th : Int} {o : Nat → Int} {H : Heap} {locs : List Loc} {ls : Array Slot} (hG : lwGo ty ad ct j th o) (hW : rm_W D ad ct (lwA s) H) (hS : va_S (lwA s) s.heap H locs) (hl : lv_has ls 8 [(0, .ref b), (1, .ref (ad 0)), (2, .ref (ad 1000)), (3, .ref (ad 2000)), (4, .int (jI (5 * (j : Int))))]) : W p l e room_1 s m #[Value.ref b] below meth c H locs (60 + 20 * j) (1300 + 200 * j) (lw_Z below #[Value.ref b] s) (F0 m 713 ls []) := by
  obtain ⟨⟨hx, hb, hr, hml, hown0, htb, hX, hbl, hlocks, hgv⟩, hlf, hK, hNw, hE, hX2, hU⟩ := id hC
  have hb : c.code = cL_law := hb
  have hts : ∀ w ∈ wsL_law, w.before #[Value.ref b] s = true := fun w hw => htb w (wsL_law_in w hw)
  have hown : s.vm.findClass RL = some m.cls := hown0
  have hA : ∀ q : Nat, s.heap.size ≤ q → lwA s q := fun _ h => h
  have hbA : ¬ lwA s b := Nat.not_le.mpr hbl
  have hj5 : j ≤ 512 := by omega
  obtain ⟨⟨yc, hc, yn, yM, yu, hy, hg, hf, hCl, hMx, hI⟩, ho⟩ := hG
  have hCc : ClsAt ty ad (cutC ct) yc hc yn yM (ydg yn yM) yu hy hg hf := hCl.lo (fun q hq => cutC_lo hq)
  obtain ⟨z1, hz1⟩ : ∃ z, (xs (5 * j + 1)).toInt = z := ⟨_, rfl⟩
  have r1 : r32 z1 := by rw [← hz1]; exact jI_rng _
  obtain ⟨z2, hz2⟩ : ∃ z, (xs (5 * j + 2)).toInt = z := ⟨_, rfl⟩
  have r2 : r32 z2 := by rw [← hz2]; exact jI_rng _
  refine lv_aload_n hx hb dL_law_713 rfl (lv_at hl 1 rfl) ?_
  refine lv_aload_n hx hb dL_law_714 rfl (lv_at hl 0 rfl) ?_
  refine lv_iload hx hb dL_law_715 (lv_at hl 4 rfl) ?_
  refine lv_iconst (v := jI 1) hx hb dL_law_717 rfl ?_
  refine rm_iadd hx hb dL_law_718 ?_
  refine s_ld hx hb hX hbl hbA hS hL (5 * j + 1) (by omega) (by omega) hz1 dL_law_719 ?_
  refine lv_aload_n hx hb dL_law_720 rfl (lv_at hl 0 rfl) ?_
  refine lv_iload hx hb dL_law_721 (lv_at hl 4 rfl) ?_
  refine lv_iconst (v := jI 2) hx hb dL_law_723 rfl ?_
  refine rm_iadd hx hb dL_law_724 ?_
  refine s_ld hx hb hX hbl hbA hS hL (5 * j + 2) (by omega) (by omega) hz2 dL_law_725 ?_
  refine lv_aload_n hx hb dL_law_726 rfl (lv_at hl 3 rfl) ?_
  have hrz : ∀ z c1, p5_topple ty ad (cutC ct) yc hc yn yM yu hy hg hf z1 z2 z c1 → (fun z => z = 0 ∨ z = 1) z := rz_topple hj5 hI
  refine yc_i (vx_runSX (As := [.ref (ad 0), .int (jI z1), .int (jI z2), .ref (ad 2000)]) (rest := []) ⟨hx, hb, hml, hown, hts⟩ (c_L_topple l D ty ad ct H.size _ o z1 z2 (post := p5_topple ty ad (cutC ct) yc hc yn yM yu hy hg hf z1 z2) (px := x5_topple ty ad (cutC ct) yc hc yn yM yu hy hg hf z1 z2) hCl.2.1.1 ho (c_X5_topple l hlf D ty ad (cutC ct) H.size yc hc yn yM (ydg yn yM) yu hy hg hf hCc (iv_n hI) (iv_M hI) (iv_d hI) (iv_hgr hj5 hI) z1 z2 r1 r2) hrz (fun E c1 h => h.1)) (vx_cwSW 4 hts gL_law_L_topple rfl rfl rfl (by decide +kernel) ⟨Nat.le_of_ble_eq_true rfl, Nat.le_of_ble_eq_true rfl⟩) (rm_preSY hK hNw hE hX2 hU hW hS hA) rfl rfl hl.1 rfl (lv_room (Nat.le_of_ble_eq_true rfl)) dL_law_727 ⟨by show 60 + 20 * j + 2 ≤ 601024; omega, by show 1300 + 200 * j + 12 ≤ 7293034; omega⟩) hW hS hA (fun k ct1 H locs hq1 hW hS => ?_)
  refine lv_istore (lv' := [(5, .int (jI k)), (0, .ref b), (1, .ref (ad 0)), (2, .ref (ad 1000)), (3, .ref (ad 2000)), (4, .int (jI (5 * (j : Int))))]) hx hb dL_law_730 hl (by decide) rfl (fun ls hl => ?_)
  have hk1 : ∀ q, 1000 ≤ q → q ≤ 1016 → ct1 q = ct q := by
    rcases hq1 with ⟨-, z, c1, -, -, hgl⟩ | ⟨-, c1, -, hgl⟩
    · exact fun q h h2 => (hgl q (by omega)).trans (glue_hi h)
    · exact fun q h h2 => (hgl q).trans (glue_hi h)
  obtain ⟨mA, pt, ro, ke, kt, mu, sl, tw, bw, de, hMo⟩ := hMx.hi (ad2 := ad) hk1 (fun r hr => rfl)
  refine lv_aload_n hx hb dL_law_732 rfl (lv_at hl 3 rfl) ?_
  refine lv_aload_n hx hb dL_law_733 rfl (lv_at hl 1 rfl) ?_
  refine lv_iload hx hb dL_law_734 (lv_at hl 5 rfl) ?_
  refine lv_iconst (v := jI 1) hx hb dL_law_736 rfl ?_
  refine rm_iadd hx hb dL_law_737 ?_
  refine s_ld hx hb hX hbl hbA hS hL (5 * j + 1) (by omega) (by omega) hz1 dL_law_738 ?_
  refine lv_aload_n hx hb dL_law_739 rfl (lv_at hl 1 rfl) ?_
  refine lv_iload hx hb dL_law_740 (lv_at hl 5 rfl) ?_
  refine lv_iconst (v := jI 2) hx hb dL_law_742 rfl ?_
  refine rm_iadd hx hb dL_law_743 ?_
  refine s_ld hx hb hX hbl hbA hS hL (5 * j + 2) (by omega) (by omega) hz2 dL_law_744 ?_
  refine rm_calli (va_runV (As := [.int (jI z1), .int (jI z2)]) (rest := []) ⟨hx, hb, hml, hown, hts⟩ (c_X6_topple l D ty ad ct1 H.size th yc hc yn yM yu hy hg hf mA pt ro ke kt mu sl tw bw de hMo (hI.1) (iv_n hI) (iv_M hI) (iv_hy hI) (iv_hgr hj5 hI) z1 z2 r1 r2) (cwV 2 hts gL_law_X6_topple rfl rfl rfl (by decide +kernel) ⟨Nat.le_of_ble_eq_true rfl, Nat.le_of_ble_eq_true rfl⟩) (rm_preV hK hNw hW hMo.1 rfl) rfl rfl hl.1 rfl (lv_room (Nat.le_of_ble_eq_true rfl)) dL_law_745 ⟨by show 60 + 20 * j + 2 + 0 ≤ 601024; omega, by show 1300 + 200 * j + 12 + 0 ≤ 7293034; omega⟩) hW hS hA (fun b9 ct2 H locs hq2 hW hS => ?_)
  have hEnd := ag_topple hj5 hI hCl ho hrz hq1 hq2
  obtain ⟨o2, hG2, hk3, hb2⟩ := hEnd
  refine lv_istore (lv' := [(6, .int (jI b9)), (5, .int (jI k)), (0, .ref b), (1, .ref (ad 0)), (2, .ref (ad 1000)), (3, .ref (ad 2000)), (4, .int (jI (5 * (j : Int))))]) hx hb dL_law_748 hl (by decide) rfl (fun ls hl => ?_)
  have hrk : r32 k := by
    rcases hk3 with h | h | h <;> rw [h] <;> exact ⟨by omega, by omega⟩
  obtain ⟨⟨yc2, hc2, yn2, yM2, yu2, hy2, hg2, hf2, hCl2, hMx2, hI2⟩, ho2⟩ := id hG2
  obtain ⟨mA2, pt2, ro2, ke2, kt2, mu2, sl2, tw2, bw2, de2, hMo2⟩ := hMx2
  refine lv_aload_n hx hb dL_law_750 rfl (lv_at hl 4 rfl) ?_
  refine rm_calli (va_runV (As := []) (rest := []) ⟨hx, hb, hml, hown, hts⟩ (c_X6_thrown l D ty ad ct2 H.size k yc2 hc2 yn2 yM2 yu2 hy2 hg2 hf2 mA2 pt2 ro2 ke2 kt2 mu2 sl2 tw2 bw2 de2 hMo2 hrk) (cwV 0 hts gL_law_X6_thrown rfl rfl rfl (by decide +kernel) ⟨Nat.le_of_ble_eq_true rfl, Nat.le_of_ble_eq_true rfl⟩) (rm_preV hK hNw hW hMo2.1 rfl) rfl rfl hl.1 rfl (lv_room (Nat.le_of_ble_eq_true rfl)) dL_law_751 ⟨by show 60 + 20 * j + 2 + 0 + 0 ≤ 601024; omega, by show 1300 + 200 * j + 12 + 0 + 0 ≤ 7293034; omega⟩) hW hS hA (fun t9 ct3 H locs hq3 hW hS => ?_)
  obtain ⟨ht9, hc3⟩ := hq3
  rw [ht9]
  rw [hc3] at hW
  refine lv_iload hx hb dL_law_754 (lv_at hl 1 rfl) ?_
  refine rm_icmp_eq (tgt := 761) hx hb hrk hrk dL_law_756 (by decide) (fun _ => ?_) (fun hq => absurd rfl hq)
  refine lv_iload hx hb dL_law_761 (lv_at hl 1 rfl) ?_
  refine rm_if_ne (tgt := 785) hx hb hrk dL_law_763 (by decide) (fun hk0 => ?_) (fun hk0 => ?_)
  · skip
    refine lv_goto (tgt := 1608) hx hb dL_law_785 (by decide) ?_
    exact law_tail hC hn (by omega) (by omega) hG2 hW hS (lv_sub hl [2, 3, 4, 5, 6] rfl)
  · obtain ⟨hb3, hR⟩ := hb2 hk0
    refine lv_aload_n hx hb dL_law_766 rfl (lv_at hl 5 rfl) ?_
    refine lv_iconst (v := jI 0) hx hb dL_law_767 rfl ?_
    refine rm_lald hx hb hK hW (f := o2) ho2 0 rfl (by omega) (by omega) dL_law_768 ?_
    rw [hb3]
    refine lv_iload hx hb dL_law_769 (lv_at hl 0 rfl) ?_
    rcases hR with hR | hR
    · rw [hR]
      refine rm_if_eq (tgt := 778) hx hb r32_0 dL_law_771 (by decide) (fun _ => ?_) (fun hq => absurd rfl hq)
      refine lv_lconst (v := jL 0) hx hb dL_law_778 rfl ?_
      refine lcmp_same hx hb dL_law_779 ?_
      refine rm_if_eq (tgt := 785) hx hb r32_0 dL_law_780 (by decide) (fun _ => ?_) (fun hq => absurd rfl hq)
      refine lv_goto (tgt := 1608) hx hb dL_law_785 (by decide) ?_
      exact law_tail hC hn (by omega) (by omega) hG2 hW hS (lv_sub hl [2, 3, 4, 5, 6] rfl)
    · rw [hR]
      refine rm_if_eq (tgt := 778) hx hb ⟨by omega, by omega⟩ dL_law_771 (by decide) (fun hq => absurd hq (by decide)) (fun _ => ?_)
      refine lv_lconst (v := jL 1) hx hb dL_law_774 rfl ?_
      refine lv_goto (tgt := 779) hx hb dL_law_775 (by decide) ?_
      refine lcmp_same hx hb dL_law_779 ?_
      refine rm_if_eq (tgt := 785) hx hb r32_0 dL_law_780 (by decide) (fun _ => ?_) (fun hq => absurd rfl hq)
      refine lv_goto (tgt := 1608) hx hb dL_law_785 (by decide) ?_
      exact law_tail hC hn (by omega) (by omega) hG2 hW hS (lv_sub hl [2, 3, 4, 5, 6] rfl)
set_option maxHeartbeats 4000000 in
set_option maxRecDepth 100000 in
theorem law_c10 {p : Program} {l : Launch} {e : Env} {s : State} {m : MethodId} {below : List Frame} {meth : Method} {c : Code} {b L : Nat} {xs : Nat → Int32} {D : va_G} {ty : Nat → ClassId} (hC : LC p l s m meth c b L xs D ty) {j : Nat} (hj : 5 * j + 5 ≤ L) (hL : L ≤ 2560) (hn : LawK p l e s m below meth c b D ty (j + 1)) {ad : Nat → Nat} {ct : rm_C} {th : Int} {o : Nat → Int} {H : Heap} {locs : List Loc} {ls : Array Slot} (hG : lwGo ty ad ct j th o) (hW : rm_W D ad ct (lwA s) H) (hS : va_S (lwA s) s.heap H locs) (hl : lv_has ls 8 [(0, .ref b), (1, .ref (ad 0)), (2, .ref (ad 1000)), (3, .ref (ad 2000)), (4, .int (jI (5 * (j : Int))))]) : W p l e room_1 s m #[Value.ref b] below meth c H locs (60 + 20 * j) (1300 + 200 * j) (lw_Z below #[Value.ref b] s) (F0 m 788 ls []) := by
  obtain ⟨⟨hx, hb, hr, hml, hown0, htb, hX, hbl, hlocks, hgv⟩, hlf, hK, hNw, hE, hX2, hU⟩ := id hC
  have hb : c.code = cL_law := hb
  have hts : ∀ w ∈ wsL_law, w.before #[Value.ref b] s = true := fun w hw => htb w (wsL_law_in w hw)
  have hown : s.vm.findClass RL = some m.cls := hown0
  have hA : ∀ q : Nat, s.heap.size ≤ q → lwA s q := fun _ h => h
  have hbA : ¬ lwA s b := Nat.not_le.mpr hbl
  have hj5 : j ≤ 512 := by omega
  obtain ⟨⟨yc, hc, yn, yM, yu, hy, hg, hf, hCl, hMx, hI⟩, ho⟩ := hG
  have hCc : ClsAt ty ad (cutC ct) yc hc yn yM (ydg yn yM) yu hy hg hf := hCl.lo (fun q hq => cutC_lo hq)
  obtain ⟨z1, hz1⟩ : ∃ z, (xs (5 * j + 1)).toInt = z := ⟨_, rfl⟩
  have r1 : r32 z1 := by rw [← hz1]; exact jI_rng _
  refine lv_aload_n hx hb dL_law_788 rfl (lv_at hl 1 rfl) ?_
  refine lv_aload_n hx hb dL_law_789 rfl (lv_at hl 0 rfl) ?_
  refine lv_iload hx hb dL_law_790 (lv_at hl 4 rfl) ?_
  refine lv_iconst (v := jI 1) hx hb dL_law_792 rfl ?_
  refine rm_iadd hx hb dL_law_793 ?_
  refine s_ld hx hb hX hbl hbA hS hL (5 * j + 1) (by omega) (by omega) hz1 dL_law_794 ?_
  refine lv_aload_n hx hb dL_law_795 rfl (lv_at hl 3 rfl) ?_
  refine yc_i (vx_runSX (As := [.ref (ad 0), .int (jI z1), .ref (ad 2000)]) (rest := []) ⟨hx, hb, hml, hown, hts⟩ (c_L_settle l D ty ad ct H.size _ o z1 (post := p5_settle ty ad (cutC ct) yc hc yn yM yu hy hg hf z1) (px := x5_settle ty ad (cutC ct) yc hc yn yM yu hy hg hf z1) hCl.2.1.1 ho (c_X5_settle l hlf D ty ad (cutC ct) H.size yc hc yn yM (ydg yn yM) yu hy hg hf hCc (iv_n hI) (iv_M hI) (iv_d hI) (iv_hgr hj5 hI) (iv_hst hj5 hI) z1 r1) (fun E c1 h => h.1)) (vx_cwSW 3 hts gL_law_L_settle rfl rfl rfl (by decide +kernel) ⟨Nat.le_of_ble_eq_true rfl, Nat.le_of_ble_eq_true rfl⟩) (rm_preSY hK hNw hE hX2 hU hW hS hA) rfl rfl hl.1 rfl (lv_room (Nat.le_of_ble_eq_true rfl)) dL_law_796 ⟨by show 60 + 20 * j + 1 ≤ 601024; omega, by show 1300 + 200 * j + 6 ≤ 7293034; omega⟩) hW hS hA (fun k ct1 H locs hq1 hW hS => ?_)
  refine lv_istore (lv' := [(5, .int (jI k)), (0, .ref b), (1, .ref (ad 0)), (2, .ref (ad 1000)), (3, .ref (ad 2000)), (4, .int (jI (5 * (j : Int))))]) hx hb dL_law_799 hl (by decide) rfl (fun ls hl => ?_)
  have hk1 : ∀ q, 1000 ≤ q → q ≤ 1016 → ct1 q = ct q := by
    rcases hq1 with ⟨-, z, c1, -, -, hgl⟩ | ⟨-, c1, -, hgl⟩
    · exact fun q h h2 => (hgl q (by omega)).trans (glue_hi h)
    · exact fun q h h2 => (hgl q).trans (glue_hi h)
  obtain ⟨mA, pt, ro, ke, kt, mu, sl, tw, bw, de, hMo⟩ := hMx.hi (ad2 := ad) hk1 (fun r hr => rfl)
  refine lv_aload_n hx hb dL_law_801 rfl (lv_at hl 3 rfl) ?_
  refine lv_aload_n hx hb dL_law_802 rfl (lv_at hl 1 rfl) ?_
  refine lv_iload hx hb dL_law_803 (lv_at hl 5 rfl) ?_
  refine lv_iconst (v := jI 1) hx hb dL_law_805 rfl ?_
  refine rm_iadd hx hb dL_law_806 ?_
  refine s_ld hx hb hX hbl hbA hS hL (5 * j + 1) (by omega) (by omega) hz1 dL_law_807 ?_
  refine rm_calll (va_runV (As := [.int (jI z1)]) (rest := []) ⟨hx, hb, hml, hown, hts⟩ (c_X6_settle l D ty ad ct1 H.size th yc hc yn yM yu hy hg hf mA pt ro ke kt mu sl tw bw de hMo (hI.1) (iv_n hI) (iv_M hI) (iv_hy hI) (iv_hgr hj5 hI) (iv_hsm hj5 hI) z1 r1) (cwV 1 hts gL_law_X6_settle rfl rfl rfl (by decide +kernel) ⟨Nat.le_of_ble_eq_true rfl, Nat.le_of_ble_eq_true rfl⟩) (rm_preV hK hNw hW hMo.1 rfl) rfl rfl hl.1 rfl (lv_room (Nat.le_of_ble_eq_true rfl)) dL_law_808 ⟨by show 60 + 20 * j + 1 + 0 ≤ 601024; omega, by show 1300 + 200 * j + 6 + 0 ≤ 7293034; omega⟩) hW hS hA (fun b9 ct2 H locs hq2 hW hS => ?_)
  have hEnd := ag_settle hj5 hI hCl ho (R := fun _ => True) (fun _ _ _ => trivial) hq1 hq2
  obtain ⟨o2, hG2, hk3, hb2⟩ := hEnd
  refine lv_lstore (lv' := [(6, .long (jL b9)), (5, .int (jI k)), (0, .ref b), (1, .ref (ad 0)), (2, .ref (ad 1000)), (3, .ref (ad 2000)), (4, .int (jI (5 * (j : Int))))]) hx hb dL_law_811 hl (by decide) rfl (fun ls hl => ?_)
  have hrk : r32 k := by
    rcases hk3 with h | h | h <;> rw [h] <;> exact ⟨by omega, by omega⟩
  obtain ⟨⟨yc2, hc2, yn2, yM2, yu2, hy2, hg2, hf2, hCl2, hMx2, hI2⟩, ho2⟩ := id hG2
  obtain ⟨mA2, pt2, ro2, ke2, kt2, mu2, sl2, tw2, bw2, de2, hMo2⟩ := hMx2
  refine lv_aload_n hx hb dL_law_813 rfl (lv_at hl 4 rfl) ?_
  refine rm_calli (va_runV (As := []) (rest := []) ⟨hx, hb, hml, hown, hts⟩ (c_X6_thrown l D ty ad ct2 H.size k yc2 hc2 yn2 yM2 yu2 hy2 hg2 hf2 mA2 pt2 ro2 ke2 kt2 mu2 sl2 tw2 bw2 de2 hMo2 hrk) (cwV 0 hts gL_law_X6_thrown rfl rfl rfl (by decide +kernel) ⟨Nat.le_of_ble_eq_true rfl, Nat.le_of_ble_eq_true rfl⟩) (rm_preV hK hNw hW hMo2.1 rfl) rfl rfl hl.1 rfl (lv_room (Nat.le_of_ble_eq_true rfl)) dL_law_814 ⟨by show 60 + 20 * j + 1 + 0 + 0 ≤ 601024; omega, by show 1300 + 200 * j + 6 + 0 + 0 ≤ 7293034; omega⟩) hW hS hA (fun t9 ct3 H locs hq3 hW hS => ?_)
  obtain ⟨ht9, hc3⟩ := hq3
  rw [ht9]
  rw [hc3] at hW
  refine lv_iload hx hb dL_law_817 (lv_at hl 1 rfl) ?_
  refine rm_icmp_eq (tgt := 824) hx hb hrk hrk dL_law_819 (by decide) (fun _ => ?_) (fun hq => absurd rfl hq)
  refine lv_iload hx hb dL_law_824 (lv_at hl 1 rfl) ?_
  refine rm_if_ne (tgt := 840) hx hb hrk dL_law_826 (by decide) (fun hk0 => ?_) (fun hk0 => ?_)
  · skip
    refine lv_goto (tgt := 1608) hx hb dL_law_840 (by decide) ?_
    exact law_tail hC hn (by omega) (by omega) hG2 hW hS (lv_sub hl [2, 3, 4, 5, 6] rfl)
  · obtain ⟨hb3, hR⟩ := hb2 hk0
    refine lv_aload_n hx hb dL_law_829 rfl (lv_at hl 5 rfl) ?_
    refine lv_iconst (v := jI 0) hx hb dL_law_830 rfl ?_
    refine rm_lald hx hb hK hW (f := o2) ho2 0 rfl (by omega) (by omega) dL_law_831 ?_
    rw [hb3]
    refine lv_lload hx hb dL_law_832 (lv_at hl 0 rfl) ?_
    refine lcmp_same hx hb dL_law_834 ?_
    refine rm_if_eq (tgt := 840) hx hb r32_0 dL_law_835 (by decide) (fun _ => ?_) (fun hq => absurd rfl hq)
    refine lv_goto (tgt := 1608) hx hb dL_law_840 (by decide) ?_
    exact law_tail hC hn (by omega) (by omega) hG2 hW hS (lv_sub hl [2, 3, 4, 5, 6] rfl)
set_option maxHeartbeats 4000000 in
set_option maxRecDepth 100000 in
theorem law_c11 {p : Program} {l : Launch} {e : Env} {s : State} {m : MethodId} {below : List Frame} {meth : Method} {c : Code} {b L : Nat} {xs : Nat → Int32} {D : va_G} {ty : Nat → ClassId} (hC : LC p l s m meth c b L xs D ty) {j : Nat} (hj : 5 * j + 5 ≤ L) (hL : L ≤ 2560) (hn : LawK p l e s m below meth c b D ty (j + 1)) {ad : Nat → Nat} {ct : rm_C} {th : Int} {o : Nat → Int} {H : Heap} {locs : List Loc} {ls : Array Slot} (hG : lwGo ty ad ct j th o) (hW : rm_W D ad ct (lwA s) H) (hS : va_S (lwA s) s.heap H locs) (hl : lv_has ls 8 [(0, .ref b), (1, .ref (ad 0)), (2, .ref (ad 1000)), (3, .ref (ad 2000)), (4, .int (jI (5 * (j : Int))))]) : W p l e room_1 s m #[Value.ref b] below meth c H locs (60 + 20 * j) (1300 + 200 * j) (lw_Z below #[Value.ref b] s) (F0 m 843 ls []) := by
  obtain ⟨⟨hx, hb, hr, hml, hown0, htb, hX, hbl, hlocks, hgv⟩, hlf, hK, hNw, hE, hX2, hU⟩ := id hC
  have hb : c.code = cL_law := hb
  have hts : ∀ w ∈ wsL_law, w.before #[Value.ref b] s = true := fun w hw => htb w (wsL_law_in w hw)
  have hown : s.vm.findClass RL = some m.cls := hown0
  have hA : ∀ q : Nat, s.heap.size ≤ q → lwA s q := fun _ h => h
  have hbA : ¬ lwA s b := Nat.not_le.mpr hbl
  have hj5 : j ≤ 512 := by omega
  obtain ⟨⟨yc, hc, yn, yM, yu, hy, hg, hf, hCl, hMx, hI⟩, ho⟩ := hG
  have hCc : ClsAt ty ad (cutC ct) yc hc yn yM (ydg yn yM) yu hy hg hf := hCl.lo (fun q hq => cutC_lo hq)
  obtain ⟨z1, hz1⟩ : ∃ z, (xs (5 * j + 1)).toInt = z := ⟨_, rfl⟩
  have r1 : r32 z1 := by rw [← hz1]; exact jI_rng _
  obtain ⟨z2, hz2⟩ : ∃ z, (xs (5 * j + 2)).toInt = z := ⟨_, rfl⟩
  have r2 : r32 z2 := by rw [← hz2]; exact jI_rng _
  refine lv_aload_n hx hb dL_law_843 rfl (lv_at hl 1 rfl) ?_
  refine lv_aload_n hx hb dL_law_844 rfl (lv_at hl 0 rfl) ?_
  refine lv_iload hx hb dL_law_845 (lv_at hl 4 rfl) ?_
  refine lv_iconst (v := jI 1) hx hb dL_law_847 rfl ?_
  refine rm_iadd hx hb dL_law_848 ?_
  refine s_ld hx hb hX hbl hbA hS hL (5 * j + 1) (by omega) (by omega) hz1 dL_law_849 ?_
  refine lv_aload_n hx hb dL_law_850 rfl (lv_at hl 0 rfl) ?_
  refine lv_iload hx hb dL_law_851 (lv_at hl 4 rfl) ?_
  refine lv_iconst (v := jI 2) hx hb dL_law_853 rfl ?_
  refine rm_iadd hx hb dL_law_854 ?_
  refine s_ld hx hb hX hbl hbA hS hL (5 * j + 2) (by omega) (by omega) hz2 dL_law_855 ?_
  refine lv_aload_n hx hb dL_law_856 rfl (lv_at hl 3 rfl) ?_
  refine yc_i (vx_runSX (As := [.ref (ad 0), .int (jI z1), .int (jI z2), .ref (ad 2000)]) (rest := []) ⟨hx, hb, hml, hown, hts⟩ (c_L_drop l D ty ad ct H.size _ o z1 z2 (post := p5_drop ty ad (cutC ct) yc hc yn yM yu hy hg hf z1 z2) (px := x5_drop ty ad (cutC ct) yc hc yn yM yu hy hg hf z1 z2) hCl.2.1.1 ho (c_X5_drop l hlf D ty ad (cutC ct) H.size yc hc yn yM (ydg yn yM) yu hy hg hf hCc (iv_n hI) (iv_M hI) (iv_d hI) (iv_hgr hj5 hI) (iv_hst hj5 hI) z1 z2 r1 r2) (fun E c1 h => h.1)) (vx_cwSW 4 hts gL_law_L_drop rfl rfl rfl (by decide +kernel) ⟨Nat.le_of_ble_eq_true rfl, Nat.le_of_ble_eq_true rfl⟩) (rm_preSY hK hNw hE hX2 hU hW hS hA) rfl rfl hl.1 rfl (lv_room (Nat.le_of_ble_eq_true rfl)) dL_law_857 ⟨by show 60 + 20 * j + 2 ≤ 601024; omega, by show 1300 + 200 * j + 12 ≤ 7293034; omega⟩) hW hS hA (fun k ct1 H locs hq1 hW hS => ?_)
  refine lv_istore (lv' := [(5, .int (jI k)), (0, .ref b), (1, .ref (ad 0)), (2, .ref (ad 1000)), (3, .ref (ad 2000)), (4, .int (jI (5 * (j : Int))))]) hx hb dL_law_860 hl (by decide) rfl (fun ls hl => ?_)
  have hk1 : ∀ q, 1000 ≤ q → q ≤ 1016 → ct1 q = ct q := by
    rcases hq1 with ⟨-, z, c1, -, -, hgl⟩ | ⟨-, c1, -, hgl⟩
    · exact fun q h h2 => (hgl q (by omega)).trans (glue_hi h)
    · exact fun q h h2 => (hgl q).trans (glue_hi h)
  obtain ⟨mA, pt, ro, ke, kt, mu, sl, tw, bw, de, hMo⟩ := hMx.hi (ad2 := ad) hk1 (fun r hr => rfl)
  refine lv_aload_n hx hb dL_law_862 rfl (lv_at hl 3 rfl) ?_
  refine lv_aload_n hx hb dL_law_863 rfl (lv_at hl 1 rfl) ?_
  refine lv_iload hx hb dL_law_864 (lv_at hl 5 rfl) ?_
  refine lv_iconst (v := jI 1) hx hb dL_law_866 rfl ?_
  refine rm_iadd hx hb dL_law_867 ?_
  refine s_ld hx hb hX hbl hbA hS hL (5 * j + 1) (by omega) (by omega) hz1 dL_law_868 ?_
  refine lv_aload_n hx hb dL_law_869 rfl (lv_at hl 1 rfl) ?_
  refine lv_iload hx hb dL_law_870 (lv_at hl 5 rfl) ?_
  refine lv_iconst (v := jI 2) hx hb dL_law_872 rfl ?_
  refine rm_iadd hx hb dL_law_873 ?_
  refine s_ld hx hb hX hbl hbA hS hL (5 * j + 2) (by omega) (by omega) hz2 dL_law_874 ?_
  refine rm_calll (va_runV (As := [.int (jI z1), .int (jI z2)]) (rest := []) ⟨hx, hb, hml, hown, hts⟩ (c_X6_drop l D ty ad ct1 H.size th yc hc yn yM yu hy hg hf mA pt ro ke kt mu sl tw bw de hMo (hI.1) (iv_n hI) (iv_M hI) (iv_hy hI) (iv_hgr hj5 hI) (iv_hsm hj5 hI) z1 z2 r1 r2) (cwV 2 hts gL_law_X6_drop rfl rfl rfl (by decide +kernel) ⟨Nat.le_of_ble_eq_true rfl, Nat.le_of_ble_eq_true rfl⟩) (rm_preV hK hNw hW hMo.1 rfl) rfl rfl hl.1 rfl (lv_room (Nat.le_of_ble_eq_true rfl)) dL_law_875 ⟨by show 60 + 20 * j + 2 + 0 ≤ 601024; omega, by show 1300 + 200 * j + 12 + 0 ≤ 7293034; omega⟩) hW hS hA (fun b9 ct2 H locs hq2 hW hS => ?_)
  have hEnd := ag_drop hj5 hI hCl ho (R := fun _ => True) (fun _ _ _ => trivial) hq1 hq2
  obtain ⟨o2, hG2, hk3, hb2⟩ := hEnd
  refine lv_lstore (lv' := [(6, .long (jL b9)), (5, .int (jI k)), (0, .ref b), (1, .ref (ad 0)), (2, .ref (ad 1000)), (3, .ref (ad 2000)), (4, .int (jI (5 * (j : Int))))]) hx hb dL_law_878 hl (by decide) rfl (fun ls hl => ?_)
  have hrk : r32 k := by
    rcases hk3 with h | h | h <;> rw [h] <;> exact ⟨by omega, by omega⟩
  obtain ⟨⟨yc2, hc2, yn2, yM2, yu2, hy2, hg2, hf2, hCl2, hMx2, hI2⟩, ho2⟩ := id hG2
  obtain ⟨mA2, pt2, ro2, ke2, kt2, mu2, sl2, tw2, bw2, de2, hMo2⟩ := hMx2
  refine lv_aload_n hx hb dL_law_880 rfl (lv_at hl 4 rfl) ?_
  refine rm_calli (va_runV (As := []) (rest := []) ⟨hx, hb, hml, hown, hts⟩ (c_X6_thrown l D ty ad ct2 H.size k yc2 hc2 yn2 yM2 yu2 hy2 hg2 hf2 mA2 pt2 ro2 ke2 kt2 mu2 sl2 tw2 bw2 de2 hMo2 hrk) (cwV 0 hts gL_law_X6_thrown rfl rfl rfl (by decide +kernel) ⟨Nat.le_of_ble_eq_true rfl, Nat.le_of_ble_eq_true rfl⟩) (rm_preV hK hNw hW hMo2.1 rfl) rfl rfl hl.1 rfl (lv_room (Nat.le_of_ble_eq_true rfl)) dL_law_881 ⟨by show 60 + 20 * j + 2 + 0 + 0 ≤ 601024; omega, by show 1300 + 200 * j + 12 + 0 + 0 ≤ 7293034; omega⟩) hW hS hA (fun t9 ct3 H locs hq3 hW hS => ?_)
  obtain ⟨ht9, hc3⟩ := hq3
  rw [ht9]
  rw [hc3] at hW
  refine lv_iload hx hb dL_law_884 (lv_at hl 1 rfl) ?_
  refine rm_icmp_eq (tgt := 891) hx hb hrk hrk dL_law_886 (by decide) (fun _ => ?_) (fun hq => absurd rfl hq)
  refine lv_iload hx hb dL_law_891 (lv_at hl 1 rfl) ?_
  refine rm_if_ne (tgt := 907) hx hb hrk dL_law_893 (by decide) (fun hk0 => ?_) (fun hk0 => ?_)
  · skip
    refine lv_goto (tgt := 1608) hx hb dL_law_907 (by decide) ?_
    exact law_tail hC hn (by omega) (by omega) hG2 hW hS (lv_sub hl [2, 3, 4, 5, 6] rfl)
  · obtain ⟨hb3, hR⟩ := hb2 hk0
    refine lv_aload_n hx hb dL_law_896 rfl (lv_at hl 5 rfl) ?_
    refine lv_iconst (v := jI 0) hx hb dL_law_897 rfl ?_
    refine rm_lald hx hb hK hW (f := o2) ho2 0 rfl (by omega) (by omega) dL_law_898 ?_
    rw [hb3]
    refine lv_lload hx hb dL_law_899 (lv_at hl 0 rfl) ?_
    refine lcmp_same hx hb dL_law_901 ?_
    refine rm_if_eq (tgt := 907) hx hb r32_0 dL_law_902 (by decide) (fun _ => ?_) (fun hq => absurd rfl hq)
    refine lv_goto (tgt := 1608) hx hb dL_law_907 (by decide) ?_
    exact law_tail hC hn (by omega) (by omega) hG2 hW hS (lv_sub hl [2, 3, 4, 5, 6] rfl)
set_option maxHeartbeats 4000000 in
set_option maxRecDepth 100000 in
theorem law_c12 {p : Program} {l : Launch} {e : Env} {s : State} {m : MethodId} {below : List Frame} {meth : Method} {c : Code} {b L : Nat} {xs : Nat → Int32} {D : va_G} {ty : Nat → ClassId} (hC : LC p l s m meth c b L xs D ty) {j : Nat} (hj : 5 * j + 5 ≤ L) (hL : L ≤ 2560) (hn : LawK p l e s m below meth c b D ty (j + 1)) {ad : Nat → Nat} {ct : rm_C} {th : Int} {o : Nat → Int} {H : Heap} {locs : List Loc} {ls : Array Slot} (hG : lwGo ty ad ct j th o) (hW : rm_W D ad ct (lwA s) H) (hS : va_S (lwA s) s.heap H locs) (hl : lv_has ls 8 [(0, .ref b), (1, .ref (ad 0)), (2, .ref (ad 1000)), (3, .ref (ad 2000)), (4, .int (jI (5 * (j : Int))))]) : W p l e room_1 s m #[Value.ref b] below meth c H locs (60 + 20 * j) (1300 + 200 * j) (lw_Z below #[Value.ref b] s) (F0 m 910 ls []) := by
  obtain ⟨⟨hx, hb, hr, hml, hown0, htb, hX, hbl, hlocks, hgv⟩, hlf, hK, hNw, hE, hX2, hU⟩ := id hC
  have hb : c.code = cL_law := hb
  have hts : ∀ w ∈ wsL_law, w.before #[Value.ref b] s = true := fun w hw => htb w (wsL_law_in w hw)
  have hown : s.vm.findClass RL = some m.cls := hown0
  have hA : ∀ q : Nat, s.heap.size ≤ q → lwA s q := fun _ h => h
  have hbA : ¬ lwA s b := Nat.not_le.mpr hbl
  have hj5 : j ≤ 512 := by omega
  obtain ⟨⟨yc, hc, yn, yM, yu, hy, hg, hf, hCl, hMx, hI⟩, ho⟩ := hG
  have hCc : ClsAt ty ad (cutC ct) yc hc yn yM (ydg yn yM) yu hy hg hf := hCl.lo (fun q hq => cutC_lo hq)
  obtain ⟨z1, hz1⟩ : ∃ z, (xs (5 * j + 1)).toInt = z := ⟨_, rfl⟩
  have r1 : r32 z1 := by rw [← hz1]; exact jI_rng _
  obtain ⟨z2, hz2⟩ : ∃ z, (xs (5 * j + 2)).toInt = z := ⟨_, rfl⟩
  have r2 : r32 z2 := by rw [← hz2]; exact jI_rng _
  refine lv_aload_n hx hb dL_law_910 rfl (lv_at hl 1 rfl) ?_
  refine lv_aload_n hx hb dL_law_911 rfl (lv_at hl 0 rfl) ?_
  refine lv_iload hx hb dL_law_912 (lv_at hl 4 rfl) ?_
  refine lv_iconst (v := jI 1) hx hb dL_law_914 rfl ?_
  refine rm_iadd hx hb dL_law_915 ?_
  refine s_ld hx hb hX hbl hbA hS hL (5 * j + 1) (by omega) (by omega) hz1 dL_law_916 ?_
  refine lv_aload_n hx hb dL_law_917 rfl (lv_at hl 0 rfl) ?_
  refine lv_iload hx hb dL_law_918 (lv_at hl 4 rfl) ?_
  refine lv_iconst (v := jI 2) hx hb dL_law_920 rfl ?_
  refine rm_iadd hx hb dL_law_921 ?_
  refine s_ld hx hb hX hbl hbA hS hL (5 * j + 2) (by omega) (by omega) hz2 dL_law_922 ?_
  refine lv_aload_n hx hb dL_law_923 rfl (lv_at hl 3 rfl) ?_
  refine yc_i (vx_runSX (As := [.ref (ad 0), .int (jI z1), .int (jI z2), .ref (ad 2000)]) (rest := []) ⟨hx, hb, hml, hown, hts⟩ (c_L_toppled l D ty ad ct H.size _ o z1 z2 (post := p5_toppled ty ad (cutC ct) yc hc yn yM yu hy hg hf z1 z2) (px := x5_toppled ty ad (cutC ct) yc hc yn yM yu hy hg hf z1 z2) hCl.2.1.1 ho (c_X5_toppled l hlf D ty ad (cutC ct) H.size yc hc yn yM (ydg yn yM) yu hy hg hf hCc (iv_n hI) z1 z2 r1 r2) (fun E c1 h => h.1)) (vx_cwSW 4 hts gL_law_L_toppled rfl rfl rfl (by decide +kernel) ⟨Nat.le_of_ble_eq_true rfl, Nat.le_of_ble_eq_true rfl⟩) (rm_preSY hK hNw hE hX2 hU hW hS hA) rfl rfl hl.1 rfl (lv_room (Nat.le_of_ble_eq_true rfl)) dL_law_924 ⟨by show 60 + 20 * j + 2 ≤ 601024; omega, by show 1300 + 200 * j + 12 ≤ 7293034; omega⟩) hW hS hA (fun k ct1 H locs hq1 hW hS => ?_)
  refine lv_istore (lv' := [(5, .int (jI k)), (0, .ref b), (1, .ref (ad 0)), (2, .ref (ad 1000)), (3, .ref (ad 2000)), (4, .int (jI (5 * (j : Int))))]) hx hb dL_law_927 hl (by decide) rfl (fun ls hl => ?_)
  have hk1 : ∀ q, 1000 ≤ q → q ≤ 1016 → ct1 q = ct q := by
    rcases hq1 with ⟨-, z, c1, -, -, hgl⟩ | ⟨-, c1, -, hgl⟩
    · exact fun q h h2 => (hgl q (by omega)).trans (glue_hi h)
    · exact fun q h h2 => (hgl q).trans (glue_hi h)
  obtain ⟨mA, pt, ro, ke, kt, mu, sl, tw, bw, de, hMo⟩ := hMx.hi (ad2 := ad) hk1 (fun r hr => rfl)
  refine lv_aload_n hx hb dL_law_929 rfl (lv_at hl 3 rfl) ?_
  refine lv_aload_n hx hb dL_law_930 rfl (lv_at hl 1 rfl) ?_
  refine lv_iload hx hb dL_law_931 (lv_at hl 5 rfl) ?_
  refine lv_iconst (v := jI 1) hx hb dL_law_933 rfl ?_
  refine rm_iadd hx hb dL_law_934 ?_
  refine s_ld hx hb hX hbl hbA hS hL (5 * j + 1) (by omega) (by omega) hz1 dL_law_935 ?_
  refine lv_aload_n hx hb dL_law_936 rfl (lv_at hl 1 rfl) ?_
  refine lv_iload hx hb dL_law_937 (lv_at hl 5 rfl) ?_
  refine lv_iconst (v := jI 2) hx hb dL_law_939 rfl ?_
  refine rm_iadd hx hb dL_law_940 ?_
  refine s_ld hx hb hX hbl hbA hS hL (5 * j + 2) (by omega) (by omega) hz2 dL_law_941 ?_
  refine rm_calll (va_runV (As := [.int (jI z1), .int (jI z2)]) (rest := []) ⟨hx, hb, hml, hown, hts⟩ (c_X6_toppled l D ty ad ct1 H.size th yc hc yn yM yu hy hg hf mA pt ro ke kt mu sl tw bw de hMo (hI.1) (iv_n hI) (iv_M hI) (iv_hy hI) z1 z2 r1 r2) (cwV 2 hts gL_law_X6_toppled rfl rfl rfl (by decide +kernel) ⟨Nat.le_of_ble_eq_true rfl, Nat.le_of_ble_eq_true rfl⟩) (rm_preV hK hNw hW hMo.1 rfl) rfl rfl hl.1 rfl (lv_room (Nat.le_of_ble_eq_true rfl)) dL_law_942 ⟨by show 60 + 20 * j + 2 + 0 ≤ 601024; omega, by show 1300 + 200 * j + 12 + 0 ≤ 7293034; omega⟩) hW hS hA (fun b9 ct2 H locs hq2 hW hS => ?_)
  have hEnd := ag_toppled hj5 hI hCl ho (R := fun _ => True) (fun _ _ _ => trivial) hq1 hq2
  obtain ⟨o2, hG2, hk3, hb2⟩ := hEnd
  refine lv_lstore (lv' := [(6, .long (jL b9)), (5, .int (jI k)), (0, .ref b), (1, .ref (ad 0)), (2, .ref (ad 1000)), (3, .ref (ad 2000)), (4, .int (jI (5 * (j : Int))))]) hx hb dL_law_945 hl (by decide) rfl (fun ls hl => ?_)
  have hrk : r32 k := by
    rcases hk3 with h | h | h <;> rw [h] <;> exact ⟨by omega, by omega⟩
  obtain ⟨⟨yc2, hc2, yn2, yM2, yu2, hy2, hg2, hf2, hCl2, hMx2, hI2⟩, ho2⟩ := id hG2
  obtain ⟨mA2, pt2, ro2, ke2, kt2, mu2, sl2, tw2, bw2, de2, hMo2⟩ := hMx2
  refine lv_aload_n hx hb dL_law_947 rfl (lv_at hl 4 rfl) ?_
  refine rm_calli (va_runV (As := []) (rest := []) ⟨hx, hb, hml, hown, hts⟩ (c_X6_thrown l D ty ad ct2 H.size k yc2 hc2 yn2 yM2 yu2 hy2 hg2 hf2 mA2 pt2 ro2 ke2 kt2 mu2 sl2 tw2 bw2 de2 hMo2 hrk) (cwV 0 hts gL_law_X6_thrown rfl rfl rfl (by decide +kernel) ⟨Nat.le_of_ble_eq_true rfl, Nat.le_of_ble_eq_true rfl⟩) (rm_preV hK hNw hW hMo2.1 rfl) rfl rfl hl.1 rfl (lv_room (Nat.le_of_ble_eq_true rfl)) dL_law_948 ⟨by show 60 + 20 * j + 2 + 0 + 0 ≤ 601024; omega, by show 1300 + 200 * j + 12 + 0 + 0 ≤ 7293034; omega⟩) hW hS hA (fun t9 ct3 H locs hq3 hW hS => ?_)
  obtain ⟨ht9, hc3⟩ := hq3
  rw [ht9]
  rw [hc3] at hW
  refine lv_iload hx hb dL_law_951 (lv_at hl 1 rfl) ?_
  refine rm_icmp_eq (tgt := 958) hx hb hrk hrk dL_law_953 (by decide) (fun _ => ?_) (fun hq => absurd rfl hq)
  refine lv_iload hx hb dL_law_958 (lv_at hl 1 rfl) ?_
  refine rm_if_ne (tgt := 974) hx hb hrk dL_law_960 (by decide) (fun hk0 => ?_) (fun hk0 => ?_)
  · skip
    refine lv_goto (tgt := 1608) hx hb dL_law_974 (by decide) ?_
    exact law_tail hC hn (by omega) (by omega) hG2 hW hS (lv_sub hl [2, 3, 4, 5, 6] rfl)
  · obtain ⟨hb3, hR⟩ := hb2 hk0
    refine lv_aload_n hx hb dL_law_963 rfl (lv_at hl 5 rfl) ?_
    refine lv_iconst (v := jI 0) hx hb dL_law_964 rfl ?_
    refine rm_lald hx hb hK hW (f := o2) ho2 0 rfl (by omega) (by omega) dL_law_965 ?_
    rw [hb3]
    refine lv_lload hx hb dL_law_966 (lv_at hl 0 rfl) ?_
    refine lcmp_same hx hb dL_law_968 ?_
    refine rm_if_eq (tgt := 974) hx hb r32_0 dL_law_969 (by decide) (fun _ => ?_) (fun hq => absurd rfl hq)
    refine lv_goto (tgt := 1608) hx hb dL_law_974 (by decide) ?_
    exact law_tail hC hn (by omega) (by omega) hG2 hW hS (lv_sub hl [2, 3, 4, 5, 6] rfl)
set_option maxHeartbeats 4000000 in
set_option maxRecDepth 100000 in
theorem law_c13 {p : Program} {l : Launch} {e : Env} {s : State} {m : MethodId} {below : List Frame} {meth : Method} {c : Code} {b L : Nat} {xs : Nat → Int32} {D : va_G} {ty : Nat → ClassId} (hC : LC p l s m meth c b L xs D ty) {j : Nat} (hj : 5 * j + 5 ≤ L) (hL : L ≤ 2560) (hn : LawK p l e s m below meth c b D ty (j + 1)) {ad : Nat → Nat} {ct : rm_C} {th : Int} {o : Nat → Int} {H : Heap} {locs : List Loc} {ls : Array Slot} (hG : lwGo ty ad ct j th o) (hW : rm_W D ad ct (lwA s) H) (hS : va_S (lwA s) s.heap H locs) (hl : lv_has ls 8 [(0, .ref b), (1, .ref (ad 0)), (2, .ref (ad 1000)), (3, .ref (ad 2000)), (4, .int (jI (5 * (j : Int))))]) : W p l e room_1 s m #[Value.ref b] below meth c H locs (60 + 20 * j) (1300 + 200 * j) (lw_Z below #[Value.ref b] s) (F0 m 977 ls []) := by
  obtain ⟨⟨hx, hb, hr, hml, hown0, htb, hX, hbl, hlocks, hgv⟩, hlf, hK, hNw, hE, hX2, hU⟩ := id hC
  have hb : c.code = cL_law := hb
  have hts : ∀ w ∈ wsL_law, w.before #[Value.ref b] s = true := fun w hw => htb w (wsL_law_in w hw)
  have hown : s.vm.findClass RL = some m.cls := hown0
  have hA : ∀ q : Nat, s.heap.size ≤ q → lwA s q := fun _ h => h
  have hbA : ¬ lwA s b := Nat.not_le.mpr hbl
  have hj5 : j ≤ 512 := by omega
  obtain ⟨⟨yc, hc, yn, yM, yu, hy, hg, hf, hCl, hMx, hI⟩, ho⟩ := hG
  have hCc : ClsAt ty ad (cutC ct) yc hc yn yM (ydg yn yM) yu hy hg hf := hCl.lo (fun q hq => cutC_lo hq)
  obtain ⟨z1, hz1⟩ : ∃ z, (xs (5 * j + 1)).toInt = z := ⟨_, rfl⟩
  have r1 : r32 z1 := by rw [← hz1]; exact jI_rng _
  obtain ⟨z2, hz2⟩ : ∃ z, (xs (5 * j + 2)).toInt = z := ⟨_, rfl⟩
  have r2 : r32 z2 := by rw [← hz2]; exact jI_rng _
  refine lv_aload_n hx hb dL_law_977 rfl (lv_at hl 1 rfl) ?_
  refine lv_aload_n hx hb dL_law_978 rfl (lv_at hl 0 rfl) ?_
  refine lv_iload hx hb dL_law_979 (lv_at hl 4 rfl) ?_
  refine lv_iconst (v := jI 1) hx hb dL_law_981 rfl ?_
  refine rm_iadd hx hb dL_law_982 ?_
  refine s_ld hx hb hX hbl hbA hS hL (5 * j + 1) (by omega) (by omega) hz1 dL_law_983 ?_
  refine lv_aload_n hx hb dL_law_984 rfl (lv_at hl 0 rfl) ?_
  refine lv_iload hx hb dL_law_985 (lv_at hl 4 rfl) ?_
  refine lv_iconst (v := jI 2) hx hb dL_law_987 rfl ?_
  refine rm_iadd hx hb dL_law_988 ?_
  refine s_ld hx hb hX hbl hbA hS hL (5 * j + 2) (by omega) (by omega) hz2 dL_law_989 ?_
  refine lv_aload_n hx hb dL_law_990 rfl (lv_at hl 3 rfl) ?_
  have hrz : ∀ z c1, p5_is ty ad (cutC ct) yc hc yn yM yu hy hg hf z1 z2 z c1 → (fun z => z = 0 ∨ z = 1) z := rz_is hj5 hI
  refine yc_i (vx_runSX (As := [.ref (ad 0), .int (jI z1), .int (jI z2), .ref (ad 2000)]) (rest := []) ⟨hx, hb, hml, hown, hts⟩ (c_L_is l D ty ad ct H.size _ o z1 z2 (post := p5_is ty ad (cutC ct) yc hc yn yM yu hy hg hf z1 z2) (px := x5_is ty ad (cutC ct) yc hc yn yM yu hy hg hf z1 z2) hCl.2.1.1 ho (c_X5_is l hlf D ty ad (cutC ct) H.size yc hc yn yM (ydg yn yM) yu hy hg hf hCc (iv_n hI) (iv_M hI) (iv_d hI) (iv_hgr hj5 hI) z1 z2 r1 r2) hrz (fun E c1 h => h.1)) (vx_cwSW 4 hts gL_law_L_is rfl rfl rfl (by decide +kernel) ⟨Nat.le_of_ble_eq_true rfl, Nat.le_of_ble_eq_true rfl⟩) (rm_preSY hK hNw hE hX2 hU hW hS hA) rfl rfl hl.1 rfl (lv_room (Nat.le_of_ble_eq_true rfl)) dL_law_991 ⟨by show 60 + 20 * j + 2 ≤ 601024; omega, by show 1300 + 200 * j + 12 ≤ 7293034; omega⟩) hW hS hA (fun k ct1 H locs hq1 hW hS => ?_)
  refine lv_istore (lv' := [(5, .int (jI k)), (0, .ref b), (1, .ref (ad 0)), (2, .ref (ad 1000)), (3, .ref (ad 2000)), (4, .int (jI (5 * (j : Int))))]) hx hb dL_law_994 hl (by decide) rfl (fun ls hl => ?_)
  have hk1 : ∀ q, 1000 ≤ q → q ≤ 1016 → ct1 q = ct q := by
    rcases hq1 with ⟨-, z, c1, -, -, hgl⟩ | ⟨-, c1, -, hgl⟩
    · exact fun q h h2 => (hgl q (by omega)).trans (glue_hi h)
    · exact fun q h h2 => (hgl q).trans (glue_hi h)
  obtain ⟨mA, pt, ro, ke, kt, mu, sl, tw, bw, de, hMo⟩ := hMx.hi (ad2 := ad) hk1 (fun r hr => rfl)
  refine lv_aload_n hx hb dL_law_996 rfl (lv_at hl 3 rfl) ?_
  refine lv_aload_n hx hb dL_law_997 rfl (lv_at hl 1 rfl) ?_
  refine lv_iload hx hb dL_law_998 (lv_at hl 5 rfl) ?_
  refine lv_iconst (v := jI 1) hx hb dL_law_1000 rfl ?_
  refine rm_iadd hx hb dL_law_1001 ?_
  refine s_ld hx hb hX hbl hbA hS hL (5 * j + 1) (by omega) (by omega) hz1 dL_law_1002 ?_
  refine lv_aload_n hx hb dL_law_1003 rfl (lv_at hl 1 rfl) ?_
  refine lv_iload hx hb dL_law_1004 (lv_at hl 5 rfl) ?_
  refine lv_iconst (v := jI 2) hx hb dL_law_1006 rfl ?_
  refine rm_iadd hx hb dL_law_1007 ?_
  refine s_ld hx hb hX hbl hbA hS hL (5 * j + 2) (by omega) (by omega) hz2 dL_law_1008 ?_
  refine rm_calli (va_runV (As := [.int (jI z1), .int (jI z2)]) (rest := []) ⟨hx, hb, hml, hown, hts⟩ (c_X6_is l D ty ad ct1 H.size th yc hc yn yM yu hy hg hf mA pt ro ke kt mu sl tw bw de hMo (hI.1) (iv_n hI) (iv_M hI) (iv_hy hI) (iv_hgr hj5 hI) z1 z2 r1 r2) (cwV 2 hts gL_law_X6_is rfl rfl rfl (by decide +kernel) ⟨Nat.le_of_ble_eq_true rfl, Nat.le_of_ble_eq_true rfl⟩) (rm_preV hK hNw hW hMo.1 rfl) rfl rfl hl.1 rfl (lv_room (Nat.le_of_ble_eq_true rfl)) dL_law_1009 ⟨by show 60 + 20 * j + 2 + 0 ≤ 601024; omega, by show 1300 + 200 * j + 12 + 0 ≤ 7293034; omega⟩) hW hS hA (fun b9 ct2 H locs hq2 hW hS => ?_)
  have hEnd := ag_is hj5 hI hCl ho hrz hq1 hq2
  obtain ⟨o2, hG2, hk3, hb2⟩ := hEnd
  refine lv_istore (lv' := [(6, .int (jI b9)), (5, .int (jI k)), (0, .ref b), (1, .ref (ad 0)), (2, .ref (ad 1000)), (3, .ref (ad 2000)), (4, .int (jI (5 * (j : Int))))]) hx hb dL_law_1012 hl (by decide) rfl (fun ls hl => ?_)
  have hrk : r32 k := by
    rcases hk3 with h | h | h <;> rw [h] <;> exact ⟨by omega, by omega⟩
  obtain ⟨⟨yc2, hc2, yn2, yM2, yu2, hy2, hg2, hf2, hCl2, hMx2, hI2⟩, ho2⟩ := id hG2
  obtain ⟨mA2, pt2, ro2, ke2, kt2, mu2, sl2, tw2, bw2, de2, hMo2⟩ := hMx2
  refine lv_aload_n hx hb dL_law_1014 rfl (lv_at hl 4 rfl) ?_
  refine rm_calli (va_runV (As := []) (rest := []) ⟨hx, hb, hml, hown, hts⟩ (c_X6_thrown l D ty ad ct2 H.size k yc2 hc2 yn2 yM2 yu2 hy2 hg2 hf2 mA2 pt2 ro2 ke2 kt2 mu2 sl2 tw2 bw2 de2 hMo2 hrk) (cwV 0 hts gL_law_X6_thrown rfl rfl rfl (by decide +kernel) ⟨Nat.le_of_ble_eq_true rfl, Nat.le_of_ble_eq_true rfl⟩) (rm_preV hK hNw hW hMo2.1 rfl) rfl rfl hl.1 rfl (lv_room (Nat.le_of_ble_eq_true rfl)) dL_law_1015 ⟨by show 60 + 20 * j + 2 + 0 + 0 ≤ 601024; omega, by show 1300 + 200 * j + 12 + 0 + 0 ≤ 7293034; omega⟩) hW hS hA (fun t9 ct3 H locs hq3 hW hS => ?_)
  obtain ⟨ht9, hc3⟩ := hq3
  rw [ht9]
  rw [hc3] at hW
  refine lv_iload hx hb dL_law_1018 (lv_at hl 1 rfl) ?_
  refine rm_icmp_eq (tgt := 1025) hx hb hrk hrk dL_law_1020 (by decide) (fun _ => ?_) (fun hq => absurd rfl hq)
  refine lv_iload hx hb dL_law_1025 (lv_at hl 1 rfl) ?_
  refine rm_if_ne (tgt := 1049) hx hb hrk dL_law_1027 (by decide) (fun hk0 => ?_) (fun hk0 => ?_)
  · skip
    refine lv_goto (tgt := 1608) hx hb dL_law_1049 (by decide) ?_
    exact law_tail hC hn (by omega) (by omega) hG2 hW hS (lv_sub hl [2, 3, 4, 5, 6] rfl)
  · obtain ⟨hb3, hR⟩ := hb2 hk0
    refine lv_aload_n hx hb dL_law_1030 rfl (lv_at hl 5 rfl) ?_
    refine lv_iconst (v := jI 0) hx hb dL_law_1031 rfl ?_
    refine rm_lald hx hb hK hW (f := o2) ho2 0 rfl (by omega) (by omega) dL_law_1032 ?_
    rw [hb3]
    refine lv_iload hx hb dL_law_1033 (lv_at hl 0 rfl) ?_
    rcases hR with hR | hR
    · rw [hR]
      refine rm_if_eq (tgt := 1042) hx hb r32_0 dL_law_1035 (by decide) (fun _ => ?_) (fun hq => absurd rfl hq)
      refine lv_lconst (v := jL 0) hx hb dL_law_1042 rfl ?_
      refine lcmp_same hx hb dL_law_1043 ?_
      refine rm_if_eq (tgt := 1049) hx hb r32_0 dL_law_1044 (by decide) (fun _ => ?_) (fun hq => absurd rfl hq)
      refine lv_goto (tgt := 1608) hx hb dL_law_1049 (by decide) ?_
      exact law_tail hC hn (by omega) (by omega) hG2 hW hS (lv_sub hl [2, 3, 4, 5, 6] rfl)
    · rw [hR]
      refine rm_if_eq (tgt := 1042) hx hb ⟨by omega, by omega⟩ dL_law_1035 (by decide) (fun hq => absurd hq (by decide)) (fun _ => ?_)
      refine lv_lconst (v := jL 1) hx hb dL_law_1038 rfl ?_
      refine lv_goto (tgt := 1043) hx hb dL_law_1039 (by decide) ?_
      refine lcmp_same hx hb dL_law_1043 ?_
      refine rm_if_eq (tgt := 1049) hx hb r32_0 dL_law_1044 (by decide) (fun _ => ?_) (fun hq => absurd rfl hq)
      refine lv_goto (tgt := 1608) hx hb dL_law_1049 (by decide) ?_
      exact law_tail hC hn (by omega) (by omega) hG2 hW hS (lv_sub hl [2, 3, 4, 5, 6] rfl)
set_option maxHeartbeats 4000000 in
set_option maxRecDepth 100000 in
theorem law_c14 {p : Program} {l : Launch} {e : Env} {s : State} {m : MethodId} {below : List Frame} {meth : Method} {c : Code} {b L : Nat} {xs : Nat → Int32} {D : va_G} {ty : Nat → ClassId} (hC : LC p l s m meth c b L xs D ty) {j : Nat} (hj : 5 * j + 5 ≤ L) (hL : L ≤ 2560) (hn : LawK p l e s m below meth c b D ty (j + 1)) {ad : Nat → Nat} {ct : rm_C} {th : Int} {o : Nat → Int} {H : Heap} {locs : List Loc} {ls : Array Slot} (hG : lwGo ty ad ct j th o) (hW : rm_W D ad ct (lwA s) H) (hS : va_S (lwA s) s.heap H locs) (hl : lv_has ls 8 [(0, .ref b), (1, .ref (ad 0)), (2, .ref (ad 1000)), (3, .ref (ad 2000)), (4, .int (jI (5 * (j : Int))))]) : W p l e room_1 s m #[Value.ref b] below meth c H locs (60 + 20 * j) (1300 + 200 * j) (lw_Z below #[Value.ref b] s) (F0 m 1052 ls []) := by
  obtain ⟨⟨hx, hb, hr, hml, hown0, htb, hX, hbl, hlocks, hgv⟩, hlf, hK, hNw, hE, hX2, hU⟩ := id hC
  have hb : c.code = cL_law := hb
  have hts : ∀ w ∈ wsL_law, w.before #[Value.ref b] s = true := fun w hw => htb w (wsL_law_in w hw)
  have hown : s.vm.findClass RL = some m.cls := hown0
  have hA : ∀ q : Nat, s.heap.size ≤ q → lwA s q := fun _ h => h
  have hbA : ¬ lwA s b := Nat.not_le.mpr hbl
  have hj5 : j ≤ 512 := by omega
  obtain ⟨⟨yc, hc, yn, yM, yu, hy, hg, hf, hCl, hMx, hI⟩, ho⟩ := hG
  have hCc : ClsAt ty ad (cutC ct) yc hc yn yM (ydg yn yM) yu hy hg hf := hCl.lo (fun q hq => cutC_lo hq)
  obtain ⟨z1, hz1⟩ : ∃ z, (xs (5 * j + 1)).toInt = z := ⟨_, rfl⟩
  have r1 : r32 z1 := by rw [← hz1]; exact jI_rng _
  obtain ⟨z2, hz2⟩ : ∃ z, (xs (5 * j + 2)).toInt = z := ⟨_, rfl⟩
  have r2 : r32 z2 := by rw [← hz2]; exact jI_rng _
  refine lv_aload_n hx hb dL_law_1052 rfl (lv_at hl 1 rfl) ?_
  refine lv_aload_n hx hb dL_law_1053 rfl (lv_at hl 0 rfl) ?_
  refine lv_iload hx hb dL_law_1054 (lv_at hl 4 rfl) ?_
  refine lv_iconst (v := jI 1) hx hb dL_law_1056 rfl ?_
  refine rm_iadd hx hb dL_law_1057 ?_
  refine s_ld hx hb hX hbl hbA hS hL (5 * j + 1) (by omega) (by omega) hz1 dL_law_1058 ?_
  refine lv_aload_n hx hb dL_law_1059 rfl (lv_at hl 0 rfl) ?_
  refine lv_iload hx hb dL_law_1060 (lv_at hl 4 rfl) ?_
  refine lv_iconst (v := jI 2) hx hb dL_law_1062 rfl ?_
  refine rm_iadd hx hb dL_law_1063 ?_
  refine s_ld hx hb hX hbl hbA hS hL (5 * j + 2) (by omega) (by omega) hz2 dL_law_1064 ?_
  refine lv_aload_n hx hb dL_law_1065 rfl (lv_at hl 3 rfl) ?_
  have hrz : ∀ z c1, p5_burns ty ad (cutC ct) yc hc yn yM yu hy hg hf z1 z2 z c1 → r32 z := rz_burns hj5 hI
  refine yc_i (vx_runSX (As := [.ref (ad 0), .int (jI z1), .int (jI z2), .ref (ad 2000)]) (rest := []) ⟨hx, hb, hml, hown, hts⟩ (c_L_burns l D ty ad ct H.size _ o z1 z2 (post := p5_burns ty ad (cutC ct) yc hc yn yM yu hy hg hf z1 z2) (px := x5_burns ty ad (cutC ct) yc hc yn yM yu hy hg hf z1 z2) hCl.2.1.1 ho (c_X5_burns l hlf D ty ad (cutC ct) H.size yc hc yn yM (ydg yn yM) yu hy hg hf hCc (iv_n hI) (iv_M hI) (iv_d hI) (iv_hgr hj5 hI) z1 z2 r1 r2) hrz (fun E c1 h => h.1)) (vx_cwSW 4 hts gL_law_L_burns rfl rfl rfl (by decide +kernel) ⟨Nat.le_of_ble_eq_true rfl, Nat.le_of_ble_eq_true rfl⟩) (rm_preSY hK hNw hE hX2 hU hW hS hA) rfl rfl hl.1 rfl (lv_room (Nat.le_of_ble_eq_true rfl)) dL_law_1066 ⟨by show 60 + 20 * j + 2 ≤ 601024; omega, by show 1300 + 200 * j + 12 ≤ 7293034; omega⟩) hW hS hA (fun k ct1 H locs hq1 hW hS => ?_)
  refine lv_istore (lv' := [(5, .int (jI k)), (0, .ref b), (1, .ref (ad 0)), (2, .ref (ad 1000)), (3, .ref (ad 2000)), (4, .int (jI (5 * (j : Int))))]) hx hb dL_law_1069 hl (by decide) rfl (fun ls hl => ?_)
  have hk1 : ∀ q, 1000 ≤ q → q ≤ 1016 → ct1 q = ct q := by
    rcases hq1 with ⟨-, z, c1, -, -, hgl⟩ | ⟨-, c1, -, hgl⟩
    · exact fun q h h2 => (hgl q (by omega)).trans (glue_hi h)
    · exact fun q h h2 => (hgl q).trans (glue_hi h)
  obtain ⟨mA, pt, ro, ke, kt, mu, sl, tw, bw, de, hMo⟩ := hMx.hi (ad2 := ad) hk1 (fun r hr => rfl)
  refine lv_aload_n hx hb dL_law_1071 rfl (lv_at hl 3 rfl) ?_
  refine lv_aload_n hx hb dL_law_1072 rfl (lv_at hl 1 rfl) ?_
  refine lv_iload hx hb dL_law_1073 (lv_at hl 5 rfl) ?_
  refine lv_iconst (v := jI 1) hx hb dL_law_1075 rfl ?_
  refine rm_iadd hx hb dL_law_1076 ?_
  refine s_ld hx hb hX hbl hbA hS hL (5 * j + 1) (by omega) (by omega) hz1 dL_law_1077 ?_
  refine lv_aload_n hx hb dL_law_1078 rfl (lv_at hl 1 rfl) ?_
  refine lv_iload hx hb dL_law_1079 (lv_at hl 5 rfl) ?_
  refine lv_iconst (v := jI 2) hx hb dL_law_1081 rfl ?_
  refine rm_iadd hx hb dL_law_1082 ?_
  refine s_ld hx hb hX hbl hbA hS hL (5 * j + 2) (by omega) (by omega) hz2 dL_law_1083 ?_
  refine rm_calli (va_runV (As := [.int (jI z1), .int (jI z2)]) (rest := []) ⟨hx, hb, hml, hown, hts⟩ (c_X6_burns l D ty ad ct1 H.size th yc hc yn yM yu hy hg hf mA pt ro ke kt mu sl tw bw de hMo (hI.1) (iv_n hI) (iv_M hI) (iv_hy hI) (iv_hgr hj5 hI) z1 z2 r1 r2) (cwV 2 hts gL_law_X6_burns rfl rfl rfl (by decide +kernel) ⟨Nat.le_of_ble_eq_true rfl, Nat.le_of_ble_eq_true rfl⟩) (rm_preV hK hNw hW hMo.1 rfl) rfl rfl hl.1 rfl (lv_room (Nat.le_of_ble_eq_true rfl)) dL_law_1084 ⟨by show 60 + 20 * j + 2 + 0 ≤ 601024; omega, by show 1300 + 200 * j + 12 + 0 ≤ 7293034; omega⟩) hW hS hA (fun b9 ct2 H locs hq2 hW hS => ?_)
  have hEnd := ag_burns hj5 hI hCl ho hrz hq1 hq2
  obtain ⟨o2, hG2, hk3, hb2⟩ := hEnd
  refine lv_istore (lv' := [(6, .int (jI b9)), (5, .int (jI k)), (0, .ref b), (1, .ref (ad 0)), (2, .ref (ad 1000)), (3, .ref (ad 2000)), (4, .int (jI (5 * (j : Int))))]) hx hb dL_law_1087 hl (by decide) rfl (fun ls hl => ?_)
  have hrk : r32 k := by
    rcases hk3 with h | h | h <;> rw [h] <;> exact ⟨by omega, by omega⟩
  obtain ⟨⟨yc2, hc2, yn2, yM2, yu2, hy2, hg2, hf2, hCl2, hMx2, hI2⟩, ho2⟩ := id hG2
  obtain ⟨mA2, pt2, ro2, ke2, kt2, mu2, sl2, tw2, bw2, de2, hMo2⟩ := hMx2
  refine lv_aload_n hx hb dL_law_1089 rfl (lv_at hl 4 rfl) ?_
  refine rm_calli (va_runV (As := []) (rest := []) ⟨hx, hb, hml, hown, hts⟩ (c_X6_thrown l D ty ad ct2 H.size k yc2 hc2 yn2 yM2 yu2 hy2 hg2 hf2 mA2 pt2 ro2 ke2 kt2 mu2 sl2 tw2 bw2 de2 hMo2 hrk) (cwV 0 hts gL_law_X6_thrown rfl rfl rfl (by decide +kernel) ⟨Nat.le_of_ble_eq_true rfl, Nat.le_of_ble_eq_true rfl⟩) (rm_preV hK hNw hW hMo2.1 rfl) rfl rfl hl.1 rfl (lv_room (Nat.le_of_ble_eq_true rfl)) dL_law_1090 ⟨by show 60 + 20 * j + 2 + 0 + 0 ≤ 601024; omega, by show 1300 + 200 * j + 12 + 0 + 0 ≤ 7293034; omega⟩) hW hS hA (fun t9 ct3 H locs hq3 hW hS => ?_)
  obtain ⟨ht9, hc3⟩ := hq3
  rw [ht9]
  rw [hc3] at hW
  refine lv_iload hx hb dL_law_1093 (lv_at hl 1 rfl) ?_
  refine rm_icmp_eq (tgt := 1100) hx hb hrk hrk dL_law_1095 (by decide) (fun _ => ?_) (fun hq => absurd rfl hq)
  refine lv_iload hx hb dL_law_1100 (lv_at hl 1 rfl) ?_
  refine rm_if_ne (tgt := 1117) hx hb hrk dL_law_1102 (by decide) (fun hk0 => ?_) (fun hk0 => ?_)
  · skip
    refine lv_goto (tgt := 1608) hx hb dL_law_1117 (by decide) ?_
    exact law_tail hC hn (by omega) (by omega) hG2 hW hS (lv_sub hl [2, 3, 4, 5, 6] rfl)
  · obtain ⟨hb3, hR⟩ := hb2 hk0
    refine lv_aload_n hx hb dL_law_1105 rfl (lv_at hl 5 rfl) ?_
    refine lv_iconst (v := jI 0) hx hb dL_law_1106 rfl ?_
    refine rm_lald hx hb hK hW (f := o2) ho2 0 rfl (by omega) (by omega) dL_law_1107 ?_
    rw [hb3]
    refine lv_iload hx hb dL_law_1108 (lv_at hl 0 rfl) ?_
    refine rm_i2l hx hb dL_law_1110 hR ?_
    refine lcmp_same hx hb dL_law_1111 ?_
    refine rm_if_eq (tgt := 1117) hx hb r32_0 dL_law_1112 (by decide) (fun _ => ?_) (fun hq => absurd rfl hq)
    refine lv_goto (tgt := 1608) hx hb dL_law_1117 (by decide) ?_
    exact law_tail hC hn (by omega) (by omega) hG2 hW hS (lv_sub hl [2, 3, 4, 5, 6] rfl)
end LawCasesc3
