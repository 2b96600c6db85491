section LawCasesc4
set_option maxHeartbeats 4000000 in
set_option maxRecDepth 100000 in
theorem law_c15 {p : Program} {l : Launch} {e : Env} {s : State} {m : MethodId} {below : List Frame} {meth : Method} {c : Code} {b L : Nat} {xs : Nat → Int32} {D : va_G} {ty : Nat → ClassId} (hC : LC p l s m meth c b L xs D ty) {j : Nat} (hj : 5 * j + 5 ≤ L) (hL : L ≤ 2560) (hn : LawK p l e s m below meth c b D ty (j + 1)) {ad : Nat → Nat} {ct : rm_C} {th : Int} {o : Nat → Int} {H : Heap} {locs : List Loc} {ls : Array Slot} (hG : lwGo ty ad ct j th o) (hW : rm_W D ad ct (lwA s) H) (hS : va_S (lwA s) s.heap H locs) (hl : lv_has ls 8 [(0, .ref b), (1, .ref (ad 0)), (2, .ref (ad 1000)), (3, .ref (ad 2000)), (4, .int (jI (5 * (j : Int))))]) : W p l e room_1 s m #[Value.ref b] below meth c H locs (60 + 20 * j) (1300 + 200 * j) (lw_Z below #[Value.ref b] s) (F0 m 1120 ls []) := by
  obtain ⟨⟨hx, hb, hr, hml, hown0, htb, hX, hbl, hlocks, hgv⟩, hlf, hK, hNw, hE, hX2, hU⟩ := id hC
  have hb : c.code = cL_law := hb
  have hts : ∀ w ∈ wsL_law, w.before #[Value.ref b] s = true := fun w hw => htb w (wsL_law_in w hw)
  have hown : s.vm.findClass RL = some m.cls := hown0
  have hA : ∀ q : Nat, s.heap.size ≤ q → lwA s q := fun _ h => h
  have hbA : ¬ lwA s b := Nat.not_le.mpr hbl
  have hj5 : j ≤ 512 := by omega
  obtain ⟨⟨yc, hc, yn, yM, yu, hy, hg, hf, hCl, hMx, hI⟩, ho⟩ := hG
  have hCc : ClsAt ty ad (cutC ct) yc hc yn yM (ydg yn yM) yu hy hg hf := hCl.lo (fun q hq => cutC_lo hq)
  obtain ⟨z1, hz1⟩ : ∃ z, (xs (5 * j + 1)).toInt = z := ⟨_, rfl⟩
  have r1 : r32 z1 := by rw [← hz1]; exact jI_rng _
  obtain ⟨z2, hz2⟩ : ∃ z, (xs (5 * j + 2)).toInt = z := ⟨_, rfl⟩
  have r2 : r32 z2 := by rw [← hz2]; exact jI_rng _
  refine lv_aload_n hx hb dL_law_1120 rfl (lv_at hl 1 rfl) ?_
  refine lv_aload_n hx hb dL_law_1121 rfl (lv_at hl 0 rfl) ?_
  refine lv_iload hx hb dL_law_1122 (lv_at hl 4 rfl) ?_
  refine lv_iconst (v := jI 1) hx hb dL_law_1124 rfl ?_
  refine rm_iadd hx hb dL_law_1125 ?_
  refine s_ld hx hb hX hbl hbA hS hL (5 * j + 1) (by omega) (by omega) hz1 dL_law_1126 ?_
  refine lv_aload_n hx hb dL_law_1127 rfl (lv_at hl 0 rfl) ?_
  refine lv_iload hx hb dL_law_1128 (lv_at hl 4 rfl) ?_
  refine lv_iconst (v := jI 2) hx hb dL_law_1130 rfl ?_
  refine rm_iadd hx hb dL_law_1131 ?_
  refine s_ld hx hb hX hbl hbA hS hL (5 * j + 2) (by omega) (by omega) hz2 dL_law_1132 ?_
  refine lv_aload_n hx hb dL_law_1133 rfl (lv_at hl 3 rfl) ?_
  refine yc_i (vx_runSX (As := [.ref (ad 0), .int (jI z1), .int (jI z2), .ref (ad 2000)]) (rest := []) ⟨hx, hb, hml, hown, hts⟩ (c_L_add l D ty ad ct H.size _ o z1 z2 (post := p5_add ty ad (cutC ct) yc hc yn yM yu hy hg hf z1 z2) (px := x5_add ty ad (cutC ct) yc hc yn yM yu hy hg hf z1 z2) hCl.2.1.1 ho (c_X5_add l hlf D ty ad (cutC ct) H.size yc hc yn yM (ydg yn yM) yu hy hg hf hCc (iv_n hI) (iv_M hI) (iv_d hI) (iv_hgr hj5 hI) (iv_hst hj5 hI) (iv_had hj5 hI) z1 z2 r1 r2) (xp_add)) (vx_cwSW 4 hts gL_law_L_add rfl rfl rfl (by decide +kernel) ⟨Nat.le_of_ble_eq_true rfl, Nat.le_of_ble_eq_true rfl⟩) (rm_preSY hK hNw hE hX2 hU hW hS hA) rfl rfl hl.1 rfl (lv_room (Nat.le_of_ble_eq_true rfl)) dL_law_1134 ⟨by show 60 + 20 * j + 3 ≤ 601024; omega, by show 1300 + 200 * j + 18 ≤ 7293034; omega⟩) hW hS hA (fun k ct1 H locs hq1 hW hS => ?_)
  refine lv_istore (lv' := [(5, .int (jI k)), (0, .ref b), (1, .ref (ad 0)), (2, .ref (ad 1000)), (3, .ref (ad 2000)), (4, .int (jI (5 * (j : Int))))]) hx hb dL_law_1137 hl (by decide) rfl (fun ls hl => ?_)
  have hk1 : ∀ q, 1000 ≤ q → q ≤ 1016 → ct1 q = ct q := by
    rcases hq1 with ⟨-, z, c1, -, -, hgl⟩ | ⟨-, c1, -, hgl⟩ | ⟨-, c1, -, hgl⟩
    · exact fun q h h2 => (hgl q (by omega)).trans (glue_hi h)
    · exact fun q h h2 => (hgl q).trans (glue_hi h)
    · exact fun q h h2 => (hgl q).trans (glue_hi h)
  obtain ⟨mA, pt, ro, ke, kt, mu, sl, tw, bw, de, hMo⟩ := hMx.hi (ad2 := ad) hk1 (fun r hr => rfl)
  refine lv_aload_n hx hb dL_law_1139 rfl (lv_at hl 3 rfl) ?_
  refine lv_aload_n hx hb dL_law_1140 rfl (lv_at hl 1 rfl) ?_
  refine lv_iload hx hb dL_law_1141 (lv_at hl 5 rfl) ?_
  refine lv_iconst (v := jI 1) hx hb dL_law_1143 rfl ?_
  refine rm_iadd hx hb dL_law_1144 ?_
  refine s_ld hx hb hX hbl hbA hS hL (5 * j + 1) (by omega) (by omega) hz1 dL_law_1145 ?_
  refine lv_aload_n hx hb dL_law_1146 rfl (lv_at hl 1 rfl) ?_
  refine lv_iload hx hb dL_law_1147 (lv_at hl 5 rfl) ?_
  refine lv_iconst (v := jI 2) hx hb dL_law_1149 rfl ?_
  refine rm_iadd hx hb dL_law_1150 ?_
  refine s_ld hx hb hX hbl hbA hS hL (5 * j + 2) (by omega) (by omega) hz2 dL_law_1151 ?_
  refine rm_calll (va_runV (As := [.int (jI z1), .int (jI z2)]) (rest := []) ⟨hx, hb, hml, hown, hts⟩ (c_X6_add l D ty ad ct1 H.size th yc hc yn yM yu hy hg hf mA pt ro ke kt mu sl tw bw de hMo (hI.1) (iv_n hI) (iv_M hI) (iv_hy hI) (iv_hgr hj5 hI) (iv_hsm hj5 hI) (iv_had hj5 hI) z1 z2 r1 r2) (cwV 2 hts gL_law_X6_add rfl rfl rfl (by decide +kernel) ⟨Nat.le_of_ble_eq_true rfl, Nat.le_of_ble_eq_true rfl⟩) (rm_preV hK hNw hW hMo.1 rfl) rfl rfl hl.1 rfl (lv_room (Nat.le_of_ble_eq_true rfl)) dL_law_1152 ⟨by show 60 + 20 * j + 3 + 0 ≤ 601024; omega, by show 1300 + 200 * j + 18 + 0 ≤ 7293034; omega⟩) hW hS hA (fun b9 ct2 H locs hq2 hW hS => ?_)
  have hEnd := ag_add hj5 hI hCl ho (R := fun _ => True) (fun _ _ _ => trivial) hq1 hq2
  obtain ⟨o2, hG2, hk3, hb2⟩ := hEnd
  refine lv_lstore (lv' := [(6, .long (jL b9)), (5, .int (jI k)), (0, .ref b), (1, .ref (ad 0)), (2, .ref (ad 1000)), (3, .ref (ad 2000)), (4, .int (jI (5 * (j : Int))))]) hx hb dL_law_1155 hl (by decide) rfl (fun ls hl => ?_)
  have hrk : r32 k := by
    rcases hk3 with h | h | h <;> rw [h] <;> exact ⟨by omega, by omega⟩
  obtain ⟨⟨yc2, hc2, yn2, yM2, yu2, hy2, hg2, hf2, hCl2, hMx2, hI2⟩, ho2⟩ := id hG2
  obtain ⟨mA2, pt2, ro2, ke2, kt2, mu2, sl2, tw2, bw2, de2, hMo2⟩ := hMx2
  refine lv_aload_n hx hb dL_law_1157 rfl (lv_at hl 4 rfl) ?_
  refine rm_calli (va_runV (As := []) (rest := []) ⟨hx, hb, hml, hown, hts⟩ (c_X6_thrown l D ty ad ct2 H.size k yc2 hc2 yn2 yM2 yu2 hy2 hg2 hf2 mA2 pt2 ro2 ke2 kt2 mu2 sl2 tw2 bw2 de2 hMo2 hrk) (cwV 0 hts gL_law_X6_thrown rfl rfl rfl (by decide +kernel) ⟨Nat.le_of_ble_eq_true rfl, Nat.le_of_ble_eq_true rfl⟩) (rm_preV hK hNw hW hMo2.1 rfl) rfl rfl hl.1 rfl (lv_room (Nat.le_of_ble_eq_true rfl)) dL_law_1158 ⟨by show 60 + 20 * j + 3 + 0 + 0 ≤ 601024; omega, by show 1300 + 200 * j + 18 + 0 + 0 ≤ 7293034; omega⟩) hW hS hA (fun t9 ct3 H locs hq3 hW hS => ?_)
  obtain ⟨ht9, hc3⟩ := hq3
  rw [ht9]
  rw [hc3] at hW
  refine lv_iload hx hb dL_law_1161 (lv_at hl 1 rfl) ?_
  refine rm_icmp_eq (tgt := 1168) hx hb hrk hrk dL_law_1163 (by decide) (fun _ => ?_) (fun hq => absurd rfl hq)
  refine lv_iload hx hb dL_law_1168 (lv_at hl 1 rfl) ?_
  refine rm_if_ne (tgt := 1184) hx hb hrk dL_law_1170 (by decide) (fun hk0 => ?_) (fun hk0 => ?_)
  · skip
    refine lv_goto (tgt := 1608) hx hb dL_law_1184 (by decide) ?_
    exact law_tail hC hn (by omega) (by omega) hG2 hW hS (lv_sub hl [2, 3, 4, 5, 6] rfl)
  · obtain ⟨hb3, hR⟩ := hb2 hk0
    refine lv_aload_n hx hb dL_law_1173 rfl (lv_at hl 5 rfl) ?_
    refine lv_iconst (v := jI 0) hx hb dL_law_1174 rfl ?_
    refine rm_lald hx hb hK hW (f := o2) ho2 0 rfl (by omega) (by omega) dL_law_1175 ?_
    rw [hb3]
    refine lv_lload hx hb dL_law_1176 (lv_at hl 0 rfl) ?_
    refine lcmp_same hx hb dL_law_1178 ?_
    refine rm_if_eq (tgt := 1184) hx hb r32_0 dL_law_1179 (by decide) (fun _ => ?_) (fun hq => absurd rfl hq)
    refine lv_goto (tgt := 1608) hx hb dL_law_1184 (by decide) ?_
    exact law_tail hC hn (by omega) (by omega) hG2 hW hS (lv_sub hl [2, 3, 4, 5, 6] rfl)
set_option maxHeartbeats 4000000 in
set_option maxRecDepth 100000 in
theorem law_c16 {p : Program} {l : Launch} {e : Env} {s : State} {m : MethodId} {below : List Frame} {meth : Method} {c : Code} {b L : Nat} {xs : Nat → Int32} {D : va_G} {ty : Nat → ClassId} (hC : LC p l s m meth c b L xs D ty) {j : Nat} (hj : 5 * j + 5 ≤ L) (hL : L ≤ 2560) (hn : LawK p l e s m below meth c b D ty (j + 1)) {ad : Nat → Nat} {ct : rm_C} {th : Int} {o : Nat → Int} {H : Heap} {locs : List Loc} {ls : Array Slot} (hG : lwGo ty ad ct j th o) (hW : rm_W D ad ct (lwA s) H) (hS : va_S (lwA s) s.heap H locs) (hl : lv_has ls 8 [(0, .ref b), (1, .ref (ad 0)), (2, .ref (ad 1000)), (3, .ref (ad 2000)), (4, .int (jI (5 * (j : Int))))]) : W p l e room_1 s m #[Value.ref b] below meth c H locs (60 + 20 * j) (1300 + 200 * j) (lw_Z below #[Value.ref b] s) (F0 m 1187 ls []) := by
  obtain ⟨⟨hx, hb, hr, hml, hown0, htb, hX, hbl, hlocks, hgv⟩, hlf, hK, hNw, hE, hX2, hU⟩ := id hC
  have hb : c.code = cL_law := hb
  have hts : ∀ w ∈ wsL_law, w.before #[Value.ref b] s = true := fun w hw => htb w (wsL_law_in w hw)
  have hown : s.vm.findClass RL = some m.cls := hown0
  have hA : ∀ q : Nat, s.heap.size ≤ q → lwA s q := fun _ h => h
  have hbA : ¬ lwA s b := Nat.not_le.mpr hbl
  have hj5 : j ≤ 512 := by omega
  obtain ⟨⟨yc, hc, yn, yM, yu, hy, hg, hf, hCl, hMx, hI⟩, ho⟩ := hG
  have hCc : ClsAt ty ad (cutC ct) yc hc yn yM (ydg yn yM) yu hy hg hf := hCl.lo (fun q hq => cutC_lo hq)
  obtain ⟨z1, hz1⟩ : ∃ z, (xs (5 * j + 1)).toInt = z := ⟨_, rfl⟩
  have r1 : r32 z1 := by rw [← hz1]; exact jI_rng _
  obtain ⟨z2, hz2⟩ : ∃ z, (xs (5 * j + 2)).toInt = z := ⟨_, rfl⟩
  have r2 : r32 z2 := by rw [← hz2]; exact jI_rng _
  refine lv_aload_n hx hb dL_law_1187 rfl (lv_at hl 1 rfl) ?_
  refine lv_aload_n hx hb dL_law_1188 rfl (lv_at hl 0 rfl) ?_
  refine lv_iload hx hb dL_law_1189 (lv_at hl 4 rfl) ?_
  refine lv_iconst (v := jI 1) hx hb dL_law_1191 rfl ?_
  refine rm_iadd hx hb dL_law_1192 ?_
  refine s_ld hx hb hX hbl hbA hS hL (5 * j + 1) (by omega) (by omega) hz1 dL_law_1193 ?_
  refine lv_aload_n hx hb dL_law_1194 rfl (lv_at hl 0 rfl) ?_
  refine lv_iload hx hb dL_law_1195 (lv_at hl 4 rfl) ?_
  refine lv_iconst (v := jI 2) hx hb dL_law_1197 rfl ?_
  refine rm_iadd hx hb dL_law_1198 ?_
  refine s_ld hx hb hX hbl hbA hS hL (5 * j + 2) (by omega) (by omega) hz2 dL_law_1199 ?_
  refine yc_i (vx_runSX (As := [.ref (ad 0), .int (jI z1), .int (jI z2)]) (rest := []) ⟨hx, hb, hml, hown, hts⟩ (c_L_become l D ty ad ct H.size _ o z1 z2 (post := p5_become ty ad (cutC ct) yc hc yn yM yu hy hg hf z1 z2) (px := x5_become ty ad (cutC ct) yc hc yn yM yu hy hg hf z1 z2) hCl.2.1.1 (c_X5_become l hlf D ty ad (cutC ct) H.size yc hc yn yM (ydg yn yM) yu hy hg hf hCc (iv_n hI) (iv_M hI) (iv_d hI) (iv_hgr hj5 hI) (iv_hst hj5 hI) z1 z2 r1 r2) (fun E c1 h => h.1)) (vx_cwSW 3 hts gL_law_L_become rfl rfl rfl (by decide +kernel) ⟨Nat.le_of_ble_eq_true rfl, Nat.le_of_ble_eq_true rfl⟩) (rm_preSY hK hNw hE hX2 hU hW hS hA) rfl rfl hl.1 rfl (lv_room (Nat.le_of_ble_eq_true rfl)) dL_law_1200 ⟨by show 60 + 20 * j + 2 ≤ 601024; omega, by show 1300 + 200 * j + 12 ≤ 7293034; omega⟩) hW hS hA (fun k ct1 H locs hq1 hW hS => ?_)
  refine lv_istore (lv' := [(5, .int (jI k)), (0, .ref b), (1, .ref (ad 0)), (2, .ref (ad 1000)), (3, .ref (ad 2000)), (4, .int (jI (5 * (j : Int))))]) hx hb dL_law_1203 hl (by decide) rfl (fun ls hl => ?_)
  have hk1 : ∀ q, 1000 ≤ q → q ≤ 1016 → ct1 q = ct q := by
    rcases hq1 with ⟨-, c1, -, hgl⟩ | ⟨-, c1, -, hgl⟩
    · exact fun q h h2 => (hgl q).trans (glue_hi h)
    · exact fun q h h2 => (hgl q).trans (glue_hi h)
  obtain ⟨mA, pt, ro, ke, kt, mu, sl, tw, bw, de, hMo⟩ := hMx.hi (ad2 := ad) hk1 (fun r hr => rfl)
  refine lv_aload_n hx hb dL_law_1205 rfl (lv_at hl 3 rfl) ?_
  refine lv_aload_n hx hb dL_law_1206 rfl (lv_at hl 1 rfl) ?_
  refine lv_iload hx hb dL_law_1207 (lv_at hl 5 rfl) ?_
  refine lv_iconst (v := jI 1) hx hb dL_law_1209 rfl ?_
  refine rm_iadd hx hb dL_law_1210 ?_
  refine s_ld hx hb hX hbl hbA hS hL (5 * j + 1) (by omega) (by omega) hz1 dL_law_1211 ?_
  refine lv_aload_n hx hb dL_law_1212 rfl (lv_at hl 1 rfl) ?_
  refine lv_iload hx hb dL_law_1213 (lv_at hl 5 rfl) ?_
  refine lv_iconst (v := jI 2) hx hb dL_law_1215 rfl ?_
  refine rm_iadd hx hb dL_law_1216 ?_
  refine s_ld hx hb hX hbl hbA hS hL (5 * j + 2) (by omega) (by omega) hz2 dL_law_1217 ?_
  refine rm_callv (va_runV (As := [.int (jI z1), .int (jI z2)]) (rest := []) ⟨hx, hb, hml, hown, hts⟩ (c_X6_become l D ty ad ct1 H.size th yc hc yn yM yu hy hg hf mA pt ro ke kt mu sl tw bw de hMo (hI.1) (iv_n hI) (iv_M hI) (iv_hy hI) (iv_hgr hj5 hI) (iv_hsm hj5 hI) (iv_st hI) z1 z2 r1 r2) (cwV 2 hts gL_law_X6_become rfl rfl rfl (by decide +kernel) ⟨Nat.le_of_ble_eq_true rfl, Nat.le_of_ble_eq_true rfl⟩) (rm_preV hK hNw hW hMo.1 rfl) rfl rfl hl.1 rfl (lv_room (Nat.le_of_ble_eq_true rfl)) dL_law_1218 ⟨by show 60 + 20 * j + 2 + 0 ≤ 601024; omega, by show 1300 + 200 * j + 12 + 0 ≤ 7293034; omega⟩) hW hS hA (fun ct2 H locs hq2 hW hS hz9 => ?_)
  have hEnd := ag_become (b := 0) hj5 hI hCl ho hq1 hq2
  obtain ⟨o2, hG2, hk3, hb2⟩ := hEnd
  have hrk : r32 k := by
    rcases hk3 with h | h | h <;> rw [h] <;> exact ⟨by omega, by omega⟩
  obtain ⟨⟨yc2, hc2, yn2, yM2, yu2, hy2, hg2, hf2, hCl2, hMx2, hI2⟩, ho2⟩ := id hG2
  obtain ⟨mA2, pt2, ro2, ke2, kt2, mu2, sl2, tw2, bw2, de2, hMo2⟩ := hMx2
  refine lv_aload_n hx hb dL_law_1221 rfl (lv_at hl 3 rfl) ?_
  refine rm_calli (va_runV (As := []) (rest := []) ⟨hx, hb, hml, hown, hts⟩ (c_X6_thrown l D ty ad ct2 H.size k yc2 hc2 yn2 yM2 yu2 hy2 hg2 hf2 mA2 pt2 ro2 ke2 kt2 mu2 sl2 tw2 bw2 de2 hMo2 hrk) (cwV 0 hts gL_law_X6_thrown rfl rfl rfl (by decide +kernel) ⟨Nat.le_of_ble_eq_true rfl, Nat.le_of_ble_eq_true rfl⟩) (rm_preV hK hNw hW hMo2.1 rfl) rfl rfl hl.1 rfl (lv_room (Nat.le_of_ble_eq_true rfl)) dL_law_1222 ⟨by show 60 + 20 * j + 2 + 0 + 0 ≤ 601024; omega, by show 1300 + 200 * j + 12 + 0 + 0 ≤ 7293034; omega⟩) hW hS hA (fun t9 ct3 H locs hq3 hW hS => ?_)
  obtain ⟨ht9, hc3⟩ := hq3
  rw [ht9]
  rw [hc3] at hW
  refine lv_iload hx hb dL_law_1225 (lv_at hl 0 rfl) ?_
  refine rm_icmp_eq (tgt := 1232) hx hb hrk hrk dL_law_1227 (by decide) (fun _ => ?_) (fun hq => absurd rfl hq)
  refine lv_goto (tgt := 1608) hx hb dL_law_1232 (by decide) ?_
  exact law_tail hC hn (by omega) (by omega) hG2 hW hS (lv_sub hl [1, 2, 3, 4, 5] rfl)
set_option maxHeartbeats 4000000 in
set_option maxRecDepth 100000 in
theorem law_c17 {p : Program} {l : Launch} {e : Env} {s : State} {m : MethodId} {below : List Frame} {meth : Method} {c : Code} {b L : Nat} {xs : Nat → Int32} {D : va_G} {ty : Nat → ClassId} (hC : LC p l s m meth c b L xs D ty) {j : Nat} (hj : 5 * j + 5 ≤ L) (hL : L ≤ 2560) (hn : LawK p l e s m below meth c b D ty (j + 1)) {ad : Nat → Nat} {ct : rm_C} {th : Int} {o : Nat → Int} {H : Heap} {locs : List Loc} {ls : Array Slot} (hG : lwGo ty ad ct j th o) (hW : rm_W D ad ct (lwA s) H) (hS : va_S (lwA s) s.heap H locs) (hl : lv_has ls 8 [(0, .ref b), (1, .ref (ad 0)), (2, .ref (ad 1000)), (3, .ref (ad 2000)), (4, .int (jI (5 * (j : Int))))]) : W p l e room_1 s m #[Value.ref b] below meth c H locs (60 + 20 * j) (1300 + 200 * j) (lw_Z below #[Value.ref b] s) (F0 m 1235 ls []) := by
  obtain ⟨⟨hx, hb, hr, hml, hown0, htb, hX, hbl, hlocks, hgv⟩, hlf, hK, hNw, hE, hX2, hU⟩ := id hC
  have hb : c.code = cL_law := hb
  have hts : ∀ w ∈ wsL_law, w.before #[Value.ref b] s = true := fun w hw => htb w (wsL_law_in w hw)
  have hown : s.vm.findClass RL = some m.cls := hown0
  have hA : ∀ q : Nat, s.heap.size ≤ q → lwA s q := fun _ h => h
  have hbA : ¬ lwA s b := Nat.not_le.mpr hbl
  have hj5 : j ≤ 512 := by omega
  obtain ⟨⟨yc, hc, yn, yM, yu, hy, hg, hf, hCl, hMx, hI⟩, ho⟩ := hG
  have hCc : ClsAt ty ad (cutC ct) yc hc yn yM (ydg yn yM) yu hy hg hf := hCl.lo (fun q hq => cutC_lo hq)
  obtain ⟨z1, hz1⟩ : ∃ z, (xs (5 * j + 1)).toInt = z := ⟨_, rfl⟩
  have r1 : r32 z1 := by rw [← hz1]; exact jI_rng _
  obtain ⟨z2, hz2⟩ : ∃ z, (xs (5 * j + 2)).toInt = z := ⟨_, rfl⟩
  have r2 : r32 z2 := by rw [← hz2]; exact jI_rng _
  refine lv_aload_n hx hb dL_law_1235 rfl (lv_at hl 1 rfl) ?_
  refine lv_aload_n hx hb dL_law_1236 rfl (lv_at hl 0 rfl) ?_
  refine lv_iload hx hb dL_law_1237 (lv_at hl 4 rfl) ?_
  refine lv_iconst (v := jI 1) hx hb dL_law_1239 rfl ?_
  refine rm_iadd hx hb dL_law_1240 ?_
  refine s_ld hx hb hX hbl hbA hS hL (5 * j + 1) (by omega) (by omega) hz1 dL_law_1241 ?_
  refine lv_aload_n hx hb dL_law_1242 rfl (lv_at hl 0 rfl) ?_
  refine lv_iload hx hb dL_law_1243 (lv_at hl 4 rfl) ?_
  refine lv_iconst (v := jI 2) hx hb dL_law_1245 rfl ?_
  refine rm_iadd hx hb dL_law_1246 ?_
  refine s_ld hx hb hX hbl hbA hS hL (5 * j + 2) (by omega) (by omega) hz2 dL_law_1247 ?_
  refine lv_aload_n hx hb dL_law_1248 rfl (lv_at hl 3 rfl) ?_
  have hrz : ∀ z c1, p5_alike ty ad (cutC ct) yc hc yn yM yu hy hg hf z1 z2 z c1 → (fun z => z = 0 ∨ z = 1) z := rz_alike hj5 hI
  refine yc_i (vx_runSX (As := [.ref (ad 0), .int (jI z1), .int (jI z2), .ref (ad 2000)]) (rest := []) ⟨hx, hb, hml, hown, hts⟩ (c_L_alike l D ty ad ct H.size _ o z1 z2 (post := p5_alike ty ad (cutC ct) yc hc yn yM yu hy hg hf z1 z2) (px := x5_alike ty ad (cutC ct) yc hc yn yM yu hy hg hf z1 z2) hCl.2.1.1 ho (c_X5_alike l hlf D ty ad (cutC ct) H.size yc hc yn yM (ydg yn yM) yu hy hg hf hCc (iv_n hI) (iv_M hI) (iv_d hI) (iv_hgr hj5 hI) (iv_hst hj5 hI) (iv_sv hI) z1 z2 r1 r2) hrz (xp_alike)) (vx_cwSW 4 hts gL_law_L_alike rfl rfl rfl (by decide +kernel) ⟨Nat.le_of_ble_eq_true rfl, Nat.le_of_ble_eq_true rfl⟩) (rm_preSY hK hNw hE hX2 hU hW hS hA) rfl rfl hl.1 rfl (lv_room (Nat.le_of_ble_eq_true rfl)) dL_law_1249 ⟨by show 60 + 20 * j + 3 ≤ 601024; omega, by show 1300 + 200 * j + 18 ≤ 7293034; omega⟩) hW hS hA (fun k ct1 H locs hq1 hW hS => ?_)
  refine lv_istore (lv' := [(5, .int (jI k)), (0, .ref b), (1, .ref (ad 0)), (2, .ref (ad 1000)), (3, .ref (ad 2000)), (4, .int (jI (5 * (j : Int))))]) hx hb dL_law_1252 hl (by decide) rfl (fun ls hl => ?_)
  have hk1 : ∀ q, 1000 ≤ q → q ≤ 1016 → ct1 q = ct q := by
    rcases hq1 with ⟨-, z, c1, -, -, hgl⟩ | ⟨-, c1, -, hgl⟩ | ⟨-, c1, -, hgl⟩
    · exact fun q h h2 => (hgl q (by omega)).trans (glue_hi h)
    · exact fun q h h2 => (hgl q).trans (glue_hi h)
    · exact fun q h h2 => (hgl q).trans (glue_hi h)
  obtain ⟨mA, pt, ro, ke, kt, mu, sl, tw, bw, de, hMo⟩ := hMx.hi (ad2 := ad) hk1 (fun r hr => rfl)
  refine lv_aload_n hx hb dL_law_1254 rfl (lv_at hl 3 rfl) ?_
  refine lv_aload_n hx hb dL_law_1255 rfl (lv_at hl 1 rfl) ?_
  refine lv_iload hx hb dL_law_1256 (lv_at hl 5 rfl) ?_
  refine lv_iconst (v := jI 1) hx hb dL_law_1258 rfl ?_
  refine rm_iadd hx hb dL_law_1259 ?_
  refine s_ld hx hb hX hbl hbA hS hL (5 * j + 1) (by omega) (by omega) hz1 dL_law_1260 ?_
  refine lv_aload_n hx hb dL_law_1261 rfl (lv_at hl 1 rfl) ?_
  refine lv_iload hx hb dL_law_1262 (lv_at hl 5 rfl) ?_
  refine lv_iconst (v := jI 2) hx hb dL_law_1264 rfl ?_
  refine rm_iadd hx hb dL_law_1265 ?_
  refine s_ld hx hb hX hbl hbA hS hL (5 * j + 2) (by omega) (by omega) hz2 dL_law_1266 ?_
  refine rm_calli (va_runV (As := [.int (jI z1), .int (jI z2)]) (rest := []) ⟨hx, hb, hml, hown, hts⟩ (c_X6_alike l D ty ad ct1 H.size th yc hc yn yM yu hy hg hf mA pt ro ke kt mu sl tw bw de hMo (hI.1) (iv_n hI) (iv_M hI) (iv_hy hI) (hI.2.1) (iv_td hI) (iv_hga hj5 hI) z1 z2 r1 r2) (cwV 2 hts gL_law_X6_alike rfl rfl rfl (by decide +kernel) ⟨Nat.le_of_ble_eq_true rfl, Nat.le_of_ble_eq_true rfl⟩) (rm_preV hK hNw hW hMo.1 rfl) rfl rfl hl.1 rfl (lv_room (Nat.le_of_ble_eq_true rfl)) dL_law_1267 ⟨by show 60 + 20 * j + 3 + 0 ≤ 601024; omega, by show 1300 + 200 * j + 18 + 0 ≤ 7293034; omega⟩) hW hS hA (fun b9 ct2 H locs hq2 hW hS => ?_)
  have hEnd := ag_alike hj5 hI hCl ho hrz hq1 hq2
  obtain ⟨o2, hG2, hk3, hb2⟩ := hEnd
  refine lv_istore (lv' := [(6, .int (jI b9)), (5, .int (jI k)), (0, .ref b), (1, .ref (ad 0)), (2, .ref (ad 1000)), (3, .ref (ad 2000)), (4, .int (jI (5 * (j : Int))))]) hx hb dL_law_1270 hl (by decide) rfl (fun ls hl => ?_)
  have hrk : r32 k := by
    rcases hk3 with h | h | h <;> rw [h] <;> exact ⟨by omega, by omega⟩
  obtain ⟨⟨yc2, hc2, yn2, yM2, yu2, hy2, hg2, hf2, hCl2, hMx2, hI2⟩, ho2⟩ := id hG2
  obtain ⟨mA2, pt2, ro2, ke2, kt2, mu2, sl2, tw2, bw2, de2, hMo2⟩ := hMx2
  refine lv_aload_n hx hb dL_law_1272 rfl (lv_at hl 4 rfl) ?_
  refine rm_calli (va_runV (As := []) (rest := []) ⟨hx, hb, hml, hown, hts⟩ (c_X6_thrown l D ty ad ct2 H.size k yc2 hc2 yn2 yM2 yu2 hy2 hg2 hf2 mA2 pt2 ro2 ke2 kt2 mu2 sl2 tw2 bw2 de2 hMo2 hrk) (cwV 0 hts gL_law_X6_thrown rfl rfl rfl (by decide +kernel) ⟨Nat.le_of_ble_eq_true rfl, Nat.le_of_ble_eq_true rfl⟩) (rm_preV hK hNw hW hMo2.1 rfl) rfl rfl hl.1 rfl (lv_room (Nat.le_of_ble_eq_true rfl)) dL_law_1273 ⟨by show 60 + 20 * j + 3 + 0 + 0 ≤ 601024; omega, by show 1300 + 200 * j + 18 + 0 + 0 ≤ 7293034; omega⟩) hW hS hA (fun t9 ct3 H locs hq3 hW hS => ?_)
  obtain ⟨ht9, hc3⟩ := hq3
  rw [ht9]
  rw [hc3] at hW
  refine lv_iload hx hb dL_law_1276 (lv_at hl 1 rfl) ?_
  refine rm_icmp_eq (tgt := 1283) hx hb hrk hrk dL_law_1278 (by decide) (fun _ => ?_) (fun hq => absurd rfl hq)
  refine lv_iload hx hb dL_law_1283 (lv_at hl 1 rfl) ?_
  refine rm_if_ne (tgt := 1307) hx hb hrk dL_law_1285 (by decide) (fun hk0 => ?_) (fun hk0 => ?_)
  · skip
    refine lv_goto (tgt := 1608) hx hb dL_law_1307 (by decide) ?_
    exact law_tail hC hn (by omega) (by omega) hG2 hW hS (lv_sub hl [2, 3, 4, 5, 6] rfl)
  · obtain ⟨hb3, hR⟩ := hb2 hk0
    refine lv_aload_n hx hb dL_law_1288 rfl (lv_at hl 5 rfl) ?_
    refine lv_iconst (v := jI 0) hx hb dL_law_1289 rfl ?_
    refine rm_lald hx hb hK hW (f := o2) ho2 0 rfl (by omega) (by omega) dL_law_1290 ?_
    rw [hb3]
    refine lv_iload hx hb dL_law_1291 (lv_at hl 0 rfl) ?_
    rcases hR with hR | hR
    · rw [hR]
      refine rm_if_eq (tgt := 1300) hx hb r32_0 dL_law_1293 (by decide) (fun _ => ?_) (fun hq => absurd rfl hq)
      refine lv_lconst (v := jL 0) hx hb dL_law_1300 rfl ?_
      refine lcmp_same hx hb dL_law_1301 ?_
      refine rm_if_eq (tgt := 1307) hx hb r32_0 dL_law_1302 (by decide) (fun _ => ?_) (fun hq => absurd rfl hq)
      refine lv_goto (tgt := 1608) hx hb dL_law_1307 (by decide) ?_
      exact law_tail hC hn (by omega) (by omega) hG2 hW hS (lv_sub hl [2, 3, 4, 5, 6] rfl)
    · rw [hR]
      refine rm_if_eq (tgt := 1300) hx hb ⟨by omega, by omega⟩ dL_law_1293 (by decide) (fun hq => absurd hq (by decide)) (fun _ => ?_)
      refine lv_lconst (v := jL 1) hx hb dL_law_1296 rfl ?_
      refine lv_goto (tgt := 1301) hx hb dL_law_1297 (by decide) ?_
      refine lcmp_same hx hb dL_law_1301 ?_
      refine rm_if_eq (tgt := 1307) hx hb r32_0 dL_law_1302 (by decide) (fun _ => ?_) (fun hq => absurd rfl hq)
      refine lv_goto (tgt := 1608) hx hb dL_law_1307 (by decide) ?_
      exact law_tail hC hn (by omega) (by omega) hG2 hW hS (lv_sub hl [2, 3, 4, 5, 6] rfl)
set_option maxHeartbeats 4000000 in
set_option maxRecDepth 100000 in
theorem law_c18 {p : Program} {l : Launch} {e : Env} {s : State} {m : MethodId} {below : List Frame} {meth : Method} {c : Code} {b L : Nat} {xs : Nat → Int32} {D : va_G} {ty : Nat → ClassId} (hC : LC p l s m meth c b L xs D ty) {j : Nat} (hj : 5 * j + 5 ≤ L) (hL : L ≤ 2560) (hn : LawK p l e s m below meth c b D ty (j + 1)) {ad : Nat → Nat} {ct : rm_C} {th : Int} {o : Nat → Int} {H : Heap} {locs : List Loc} {ls : Array Slot} (hG : lwGo ty ad ct j th o) (hW : rm_W D ad ct (lwA s) H) (hS : va_S (lwA s) s.heap H locs) (hl : lv_has ls 8 [(0, .ref b), (1, .ref (ad 0)), (2, .ref (ad 1000)), (3, .ref (ad 2000)), (4, .int (jI (5 * (j : Int))))]) : W p l e room_1 s m #[Value.ref b] below meth c H locs (60 + 20 * j) (1300 + 200 * j) (lw_Z below #[Value.ref b] s) (F0 m 1310 ls []) := by
  obtain ⟨⟨hx, hb, hr, hml, hown0, htb, hX, hbl, hlocks, hgv⟩, hlf, hK, hNw, hE, hX2, hU⟩ := id hC
  have hb : c.code = cL_law := hb
  have hts : ∀ w ∈ wsL_law, w.before #[Value.ref b] s = true := fun w hw => htb w (wsL_law_in w hw)
  have hown : s.vm.findClass RL = some m.cls := hown0
  have hA : ∀ q : Nat, s.heap.size ≤ q → lwA s q := fun _ h => h
  have hbA : ¬ lwA s b := Nat.not_le.mpr hbl
  have hj5 : j ≤ 512 := by omega
  obtain ⟨⟨yc, hc, yn, yM, yu, hy, hg, hf, hCl, hMx, hI⟩, ho⟩ := hG
  have hCc : ClsAt ty ad (cutC ct) yc hc yn yM (ydg yn yM) yu hy hg hf := hCl.lo (fun q hq => cutC_lo hq)
  obtain ⟨z1, hz1⟩ : ∃ z, (xs (5 * j + 1)).toInt = z := ⟨_, rfl⟩
  have r1 : r32 z1 := by rw [← hz1]; exact jI_rng _
  refine lv_aload_n hx hb dL_law_1310 rfl (lv_at hl 1 rfl) ?_
  refine lv_aload_n hx hb dL_law_1311 rfl (lv_at hl 0 rfl) ?_
  refine lv_iload hx hb dL_law_1312 (lv_at hl 4 rfl) ?_
  refine lv_iconst (v := jI 1) hx hb dL_law_1314 rfl ?_
  refine rm_iadd hx hb dL_law_1315 ?_
  refine s_ld hx hb hX hbl hbA hS hL (5 * j + 1) (by omega) (by omega) hz1 dL_law_1316 ?_
  refine lv_aload_n hx hb dL_law_1317 rfl (lv_at hl 3 rfl) ?_
  refine yc_i (vx_runSX (As := [.ref (ad 0), .int (jI z1), .ref (ad 2000)]) (rest := []) ⟨hx, hb, hml, hown, hts⟩ (c_L_order l D ty ad ct H.size _ o z1 (post := p5_order ty ad (cutC ct) yc hc yn yM yu hy hg hf z1) (px := x5_order ty ad (cutC ct) yc hc yn yM yu hy hg hf z1) hCl.2.1.1 ho (c_X5_order l hlf D ty ad (cutC ct) H.size yc hc yn yM (ydg yn yM) yu hy hg hf hCc (iv_n hI) (iv_M hI) (iv_d hI) (iv_hgr hj5 hI) (iv_hst hj5 hI) (iv_sv hI) z1 r1) (fun E c1 h => h.1)) (vx_cwSW 3 hts gL_law_L_order rfl rfl rfl (by decide +kernel) ⟨Nat.le_of_ble_eq_true rfl, Nat.le_of_ble_eq_true rfl⟩) (rm_preSY hK hNw hE hX2 hU hW hS hA) rfl rfl hl.1 rfl (lv_room (Nat.le_of_ble_eq_true rfl)) dL_law_1318 ⟨by show 60 + 20 * j + 1 ≤ 601024; omega, by show 1300 + 200 * j + 6 ≤ 7293034; omega⟩) hW hS hA (fun k ct1 H locs hq1 hW hS => ?_)
  refine lv_istore (lv' := [(5, .int (jI k)), (0, .ref b), (1, .ref (ad 0)), (2, .ref (ad 1000)), (3, .ref (ad 2000)), (4, .int (jI (5 * (j : Int))))]) hx hb dL_law_1321 hl (by decide) rfl (fun ls hl => ?_)
  have hk1 : ∀ q, 1000 ≤ q → q ≤ 1016 → ct1 q = ct q := by
    rcases hq1 with ⟨-, z, c1, -, -, hgl⟩ | ⟨-, c1, -, hgl⟩
    · exact fun q h h2 => (hgl q (by omega)).trans (glue_hi h)
    · exact fun q h h2 => (hgl q).trans (glue_hi h)
  obtain ⟨mA, pt, ro, ke, kt, mu, sl, tw, bw, de, hMo⟩ := hMx.hi (ad2 := ad) hk1 (fun r hr => rfl)
  refine lv_aload_n hx hb dL_law_1323 rfl (lv_at hl 3 rfl) ?_
  refine lv_aload_n hx hb dL_law_1324 rfl (lv_at hl 1 rfl) ?_
  refine lv_iload hx hb dL_law_1325 (lv_at hl 5 rfl) ?_
  refine lv_iconst (v := jI 1) hx hb dL_law_1327 rfl ?_
  refine rm_iadd hx hb dL_law_1328 ?_
  refine s_ld hx hb hX hbl hbA hS hL (5 * j + 1) (by omega) (by omega) hz1 dL_law_1329 ?_
  refine rm_calll (va_runV (As := [.int (jI z1)]) (rest := []) ⟨hx, hb, hml, hown, hts⟩ (c_X6_order l D ty ad ct1 H.size th yc hc yn yM yu hy hg hf mA pt ro ke kt mu sl tw bw de hMo (hI.1) (iv_n hI) (iv_M hI) (iv_hy hI) (hI.2.1) (iv_td hI) (iv_hga hj5 hI) z1 r1) (cwV 1 hts gL_law_X6_order rfl rfl rfl (by decide +kernel) ⟨Nat.le_of_ble_eq_true rfl, Nat.le_of_ble_eq_true rfl⟩) (rm_preV hK hNw hW hMo.1 rfl) rfl rfl hl.1 rfl (lv_room (Nat.le_of_ble_eq_true rfl)) dL_law_1330 ⟨by show 60 + 20 * j + 1 + 0 ≤ 601024; omega, by show 1300 + 200 * j + 6 + 0 ≤ 7293034; omega⟩) hW hS hA (fun b9 ct2 H locs hq2 hW hS => ?_)
  have hEnd := ag_order hj5 hI hCl ho (R := fun _ => True) (fun _ _ _ => trivial) hq1 hq2
  obtain ⟨o2, hG2, hk3, hb2⟩ := hEnd
  refine lv_lstore (lv' := [(6, .long (jL b9)), (5, .int (jI k)), (0, .ref b), (1, .ref (ad 0)), (2, .ref (ad 1000)), (3, .ref (ad 2000)), (4, .int (jI (5 * (j : Int))))]) hx hb dL_law_1333 hl (by decide) rfl (fun ls hl => ?_)
  have hrk : r32 k := by
    rcases hk3 with h | h | h <;> rw [h] <;> exact ⟨by omega, by omega⟩
  obtain ⟨⟨yc2, hc2, yn2, yM2, yu2, hy2, hg2, hf2, hCl2, hMx2, hI2⟩, ho2⟩ := id hG2
  obtain ⟨mA2, pt2, ro2, ke2, kt2, mu2, sl2, tw2, bw2, de2, hMo2⟩ := hMx2
  refine lv_aload_n hx hb dL_law_1335 rfl (lv_at hl 4 rfl) ?_
  refine rm_calli (va_runV (As := []) (rest := []) ⟨hx, hb, hml, hown, hts⟩ (c_X6_thrown l D ty ad ct2 H.size k yc2 hc2 yn2 yM2 yu2 hy2 hg2 hf2 mA2 pt2 ro2 ke2 kt2 mu2 sl2 tw2 bw2 de2 hMo2 hrk) (cwV 0 hts gL_law_X6_thrown rfl rfl rfl (by decide +kernel) ⟨Nat.le_of_ble_eq_true rfl, Nat.le_of_ble_eq_true rfl⟩) (rm_preV hK hNw hW hMo2.1 rfl) rfl rfl hl.1 rfl (lv_room (Nat.le_of_ble_eq_true rfl)) dL_law_1336 ⟨by show 60 + 20 * j + 1 + 0 + 0 ≤ 601024; omega, by show 1300 + 200 * j + 6 + 0 + 0 ≤ 7293034; omega⟩) hW hS hA (fun t9 ct3 H locs hq3 hW hS => ?_)
  obtain ⟨ht9, hc3⟩ := hq3
  rw [ht9]
  rw [hc3] at hW
  refine lv_iload hx hb dL_law_1339 (lv_at hl 1 rfl) ?_
  refine rm_icmp_eq (tgt := 1346) hx hb hrk hrk dL_law_1341 (by decide) (fun _ => ?_) (fun hq => absurd rfl hq)
  refine lv_iload hx hb dL_law_1346 (lv_at hl 1 rfl) ?_
  refine rm_if_ne (tgt := 1362) hx hb hrk dL_law_1348 (by decide) (fun hk0 => ?_) (fun hk0 => ?_)
  · skip
    refine lv_goto (tgt := 1608) hx hb dL_law_1362 (by decide) ?_
    exact law_tail hC hn (by omega) (by omega) hG2 hW hS (lv_sub hl [2, 3, 4, 5, 6] rfl)
  · obtain ⟨hb3, hR⟩ := hb2 hk0
    refine lv_aload_n hx hb dL_law_1351 rfl (lv_at hl 5 rfl) ?_
    refine lv_iconst (v := jI 0) hx hb dL_law_1352 rfl ?_
    refine rm_lald hx hb hK hW (f := o2) ho2 0 rfl (by omega) (by omega) dL_law_1353 ?_
    rw [hb3]
    refine lv_lload hx hb dL_law_1354 (lv_at hl 0 rfl) ?_
    refine lcmp_same hx hb dL_law_1356 ?_
    refine rm_if_eq (tgt := 1362) hx hb r32_0 dL_law_1357 (by decide) (fun _ => ?_) (fun hq => absurd rfl hq)
    refine lv_goto (tgt := 1608) hx hb dL_law_1362 (by decide) ?_
    exact law_tail hC hn (by omega) (by omega) hG2 hW hS (lv_sub hl [2, 3, 4, 5, 6] rfl)
set_option maxHeartbeats 4000000 in
set_option maxRecDepth 100000 in
theorem law_c19 {p : Program} {l : Launch} {e : Env} {s : State} {m : MethodId} {below : List Frame} {meth : Method} {c : Code} {b L : Nat} {xs : Nat → Int32} {D : va_G} {ty : Nat → ClassId} (hC : LC p l s m meth c b L xs D ty) {j : Nat} (hj : 5 * j + 5 ≤ L) (hL : L ≤ 2560) (hn : LawK p l e s m below meth c b D ty (j + 1)) {ad : Nat → Nat} {ct : rm_C} {th : Int} {o : Nat → Int} {H : Heap} {locs : List Loc} {ls : Array Slot} (hG : lwGo ty ad ct j th o) (hW : rm_W D ad ct (lwA s) H) (hS : va_S (lwA s) s.heap H locs) (hl : lv_has ls 8 [(0, .ref b), (1, .ref (ad 0)), (2, .ref (ad 1000)), (3, .ref (ad 2000)), (4, .int (jI (5 * (j : Int))))]) : W p l e room_1 s m #[Value.ref b] below meth c H locs (60 + 20 * j) (1300 + 200 * j) (lw_Z below #[Value.ref b] s) (F0 m 1365 ls []) := by
  obtain ⟨⟨hx, hb, hr, hml, hown0, htb, hX, hbl, hlocks, hgv⟩, hlf, hK, hNw, hE, hX2, hU⟩ := id hC
  have hb : c.code = cL_law := hb
  have hts : ∀ w ∈ wsL_law, w.before #[Value.ref b] s = true := fun w hw => htb w (wsL_law_in w hw)
  have hown : s.vm.findClass RL = some m.cls := hown0
  have hA : ∀ q : Nat, s.heap.size ≤ q → lwA s q := fun _ h => h
  have hbA : ¬ lwA s b := Nat.not_le.mpr hbl
  have hj5 : j ≤ 512 := by omega
  obtain ⟨⟨yc, hc, yn, yM, yu, hy, hg, hf, hCl, hMx, hI⟩, ho⟩ := hG
  have hCc : ClsAt ty ad (cutC ct) yc hc yn yM (ydg yn yM) yu hy hg hf := hCl.lo (fun q hq => cutC_lo hq)
  obtain ⟨z1, hz1⟩ : ∃ z, (xs (5 * j + 1)).toInt = z := ⟨_, rfl⟩
  have r1 : r32 z1 := by rw [← hz1]; exact jI_rng _
  obtain ⟨z2, hz2⟩ : ∃ z, (xs (5 * j + 2)).toInt = z := ⟨_, rfl⟩
  have r2 : r32 z2 := by rw [← hz2]; exact jI_rng _
  obtain ⟨z3, hz3⟩ : ∃ z, (xs (5 * j + 3)).toInt = z := ⟨_, rfl⟩
  have r3 : r32 z3 := by rw [← hz3]; exact jI_rng _
  refine lv_aload_n hx hb dL_law_1365 rfl (lv_at hl 1 rfl) ?_
  refine lv_aload_n hx hb dL_law_1366 rfl (lv_at hl 0 rfl) ?_
  refine lv_iload hx hb dL_law_1367 (lv_at hl 4 rfl) ?_
  refine lv_iconst (v := jI 1) hx hb dL_law_1369 rfl ?_
  refine rm_iadd hx hb dL_law_1370 ?_
  refine s_ld hx hb hX hbl hbA hS hL (5 * j + 1) (by omega) (by omega) hz1 dL_law_1371 ?_
  refine lv_aload_n hx hb dL_law_1372 rfl (lv_at hl 0 rfl) ?_
  refine lv_iload hx hb dL_law_1373 (lv_at hl 4 rfl) ?_
  refine lv_iconst (v := jI 2) hx hb dL_law_1375 rfl ?_
  refine rm_iadd hx hb dL_law_1376 ?_
  refine s_ld hx hb hX hbl hbA hS hL (5 * j + 2) (by omega) (by omega) hz2 dL_law_1377 ?_
  refine lv_aload_n hx hb dL_law_1378 rfl (lv_at hl 0 rfl) ?_
  refine lv_iload hx hb dL_law_1379 (lv_at hl 4 rfl) ?_
  refine lv_iconst (v := jI 3) hx hb dL_law_1381 rfl ?_
  refine rm_iadd hx hb dL_law_1382 ?_
  refine s_ld hx hb hX hbl hbA hS hL (5 * j + 3) (by omega) (by omega) hz3 dL_law_1383 ?_
  refine lv_aload_n hx hb dL_law_1384 rfl (lv_at hl 3 rfl) ?_
  have hrz : ∀ z c1, p5_tree ty ad (cutC ct) yc hc yn yM yu hy hg hf z1 z2 z3 z c1 → r32 z := rz_tree hj5 hI
  refine yc_i (vx_runSX (As := [.ref (ad 0), .int (jI z1), .int (jI z2), .int (jI z3), .ref (ad 2000)]) (rest := []) ⟨hx, hb, hml, hown, hts⟩ (c_L_tree l D ty ad ct H.size _ o z1 z2 z3 (post := p5_tree ty ad (cutC ct) yc hc yn yM yu hy hg hf z1 z2 z3) (px := x5_tree ty ad (cutC ct) yc hc yn yM yu hy hg hf z1 z2 z3) hCl.2.1.1 ho (c_X5_tree l hlf D ty ad (cutC ct) H.size yc hc yn yM (ydg yn yM) yu hy hg hf hCc (iv_n hI) (iv_M hI) (iv_d hI) (iv_hgr hj5 hI) z1 z2 z3 r1 r2 r3) hrz (xp_tree)) (vx_cwSW 5 hts gL_law_L_tree rfl rfl rfl (by decide +kernel) ⟨Nat.le_of_ble_eq_true rfl, Nat.le_of_ble_eq_true rfl⟩) (rm_preSY hK hNw hE hX2 hU hW hS hA) rfl rfl hl.1 rfl (lv_room (Nat.le_of_ble_eq_true rfl)) dL_law_1385 ⟨by show 60 + 20 * j + 3 ≤ 601024; omega, by show 1300 + 200 * j + 18 ≤ 7293034; omega⟩) hW hS hA (fun k ct1 H locs hq1 hW hS => ?_)
  refine lv_istore (lv' := [(5, .int (jI k)), (0, .ref b), (1, .ref (ad 0)), (2, .ref (ad 1000)), (3, .ref (ad 2000)), (4, .int (jI (5 * (j : Int))))]) hx hb dL_law_1388 hl (by decide) rfl (fun ls hl => ?_)
  have hk1 : ∀ q, 1000 ≤ q → q ≤ 1016 → ct1 q = ct q := by
    rcases hq1 with ⟨-, z, c1, -, -, hgl⟩ | ⟨-, c1, -, hgl⟩ | ⟨-, c1, -, hgl⟩
    · exact fun q h h2 => (hgl q (by omega)).trans (glue_hi h)
    · exact fun q h h2 => (hgl q).trans (glue_hi h)
    · exact fun q h h2 => (hgl q).trans (glue_hi h)
  obtain ⟨mA, pt, ro, ke, kt, mu, sl, tw, bw, de, hMo⟩ := hMx.hi (ad2 := ad) hk1 (fun r hr => rfl)
  refine lv_aload_n hx hb dL_law_1390 rfl (lv_at hl 3 rfl) ?_
  refine lv_aload_n hx hb dL_law_1391 rfl (lv_at hl 1 rfl) ?_
  refine lv_iload hx hb dL_law_1392 (lv_at hl 5 rfl) ?_
  refine lv_iconst (v := jI 1) hx hb dL_law_1394 rfl ?_
  refine rm_iadd hx hb dL_law_1395 ?_
  refine s_ld hx hb hX hbl hbA hS hL (5 * j + 1) (by omega) (by omega) hz1 dL_law_1396 ?_
  refine lv_aload_n hx hb dL_law_1397 rfl (lv_at hl 1 rfl) ?_
  refine lv_iload hx hb dL_law_1398 (lv_at hl 5 rfl) ?_
  refine lv_iconst (v := jI 2) hx hb dL_law_1400 rfl ?_
  refine rm_iadd hx hb dL_law_1401 ?_
  refine s_ld hx hb hX hbl hbA hS hL (5 * j + 2) (by omega) (by omega) hz2 dL_law_1402 ?_
  refine lv_aload_n hx hb dL_law_1403 rfl (lv_at hl 1 rfl) ?_
  refine lv_iload hx hb dL_law_1404 (lv_at hl 5 rfl) ?_
  refine lv_iconst (v := jI 3) hx hb dL_law_1406 rfl ?_
  refine rm_iadd hx hb dL_law_1407 ?_
  refine s_ld hx hb hX hbl hbA hS hL (5 * j + 3) (by omega) (by omega) hz3 dL_law_1408 ?_
  refine rm_calli (va_runV (As := [.int (jI z1), .int (jI z2), .int (jI z3)]) (rest := []) ⟨hx, hb, hml, hown, hts⟩ (c_X6_tree l D ty ad ct1 H.size th yc hc yn yM yu hy hg hf mA pt ro ke kt mu sl tw bw de hMo (hI.1) (iv_n hI) (iv_M hI) (iv_hy hI) (iv_hgr hj5 hI) z1 z2 z3 r1 r2 r3) (cwV 3 hts gL_law_X6_tree rfl rfl rfl (by decide +kernel) ⟨Nat.le_of_ble_eq_true rfl, Nat.le_of_ble_eq_true rfl⟩) (rm_preV hK hNw hW hMo.1 rfl) rfl rfl hl.1 rfl (lv_room (Nat.le_of_ble_eq_true rfl)) dL_law_1409 ⟨by show 60 + 20 * j + 3 + 0 ≤ 601024; omega, by show 1300 + 200 * j + 18 + 0 ≤ 7293034; omega⟩) hW hS hA (fun b9 ct2 H locs hq2 hW hS => ?_)
  have hEnd := ag_tree hj5 hI hCl ho hrz hq1 hq2
  obtain ⟨o2, hG2, hk3, hb2⟩ := hEnd
  refine lv_istore (lv' := [(6, .int (jI b9)), (5, .int (jI k)), (0, .ref b), (1, .ref (ad 0)), (2, .ref (ad 1000)), (3, .ref (ad 2000)), (4, .int (jI (5 * (j : Int))))]) hx hb dL_law_1412 hl (by decide) rfl (fun ls hl => ?_)
  have hrk : r32 k := by
    rcases hk3 with h | h | h <;> rw [h] <;> exact ⟨by omega, by omega⟩
  obtain ⟨⟨yc2, hc2, yn2, yM2, yu2, hy2, hg2, hf2, hCl2, hMx2, hI2⟩, ho2⟩ := id hG2
  obtain ⟨mA2, pt2, ro2, ke2, kt2, mu2, sl2, tw2, bw2, de2, hMo2⟩ := hMx2
  refine lv_aload_n hx hb dL_law_1414 rfl (lv_at hl 4 rfl) ?_
  refine rm_calli (va_runV (As := []) (rest := []) ⟨hx, hb, hml, hown, hts⟩ (c_X6_thrown l D ty ad ct2 H.size k yc2 hc2 yn2 yM2 yu2 hy2 hg2 hf2 mA2 pt2 ro2 ke2 kt2 mu2 sl2 tw2 bw2 de2 hMo2 hrk) (cwV 0 hts gL_law_X6_thrown rfl rfl rfl (by decide +kernel) ⟨Nat.le_of_ble_eq_true rfl, Nat.le_of_ble_eq_true rfl⟩) (rm_preV hK hNw hW hMo2.1 rfl) rfl rfl hl.1 rfl (lv_room (Nat.le_of_ble_eq_true rfl)) dL_law_1415 ⟨by show 60 + 20 * j + 3 + 0 + 0 ≤ 601024; omega, by show 1300 + 200 * j + 18 + 0 + 0 ≤ 7293034; omega⟩) hW hS hA (fun t9 ct3 H locs hq3 hW hS => ?_)
  obtain ⟨ht9, hc3⟩ := hq3
  rw [ht9]
  rw [hc3] at hW
  refine lv_iload hx hb dL_law_1418 (lv_at hl 1 rfl) ?_
  refine rm_icmp_eq (tgt := 1425) hx hb hrk hrk dL_law_1420 (by decide) (fun _ => ?_) (fun hq => absurd rfl hq)
  refine lv_iload hx hb dL_law_1425 (lv_at hl 1 rfl) ?_
  refine rm_if_ne (tgt := 1442) hx hb hrk dL_law_1427 (by decide) (fun hk0 => ?_) (fun hk0 => ?_)
  · skip
    refine lv_goto (tgt := 1608) hx hb dL_law_1442 (by decide) ?_
    exact law_tail hC hn (by omega) (by omega) hG2 hW hS (lv_sub hl [2, 3, 4, 5, 6] rfl)
  · obtain ⟨hb3, hR⟩ := hb2 hk0
    refine lv_aload_n hx hb dL_law_1430 rfl (lv_at hl 5 rfl) ?_
    refine lv_iconst (v := jI 0) hx hb dL_law_1431 rfl ?_
    refine rm_lald hx hb hK hW (f := o2) ho2 0 rfl (by omega) (by omega) dL_law_1432 ?_
    rw [hb3]
    refine lv_iload hx hb dL_law_1433 (lv_at hl 0 rfl) ?_
    refine rm_i2l hx hb dL_law_1435 hR ?_
    refine lcmp_same hx hb dL_law_1436 ?_
    refine rm_if_eq (tgt := 1442) hx hb r32_0 dL_law_1437 (by decide) (fun _ => ?_) (fun hq => absurd rfl hq)
    refine lv_goto (tgt := 1608) hx hb dL_law_1442 (by decide) ?_
    exact law_tail hC hn (by omega) (by omega) hG2 hW hS (lv_sub hl [2, 3, 4, 5, 6] rfl)
set_option maxHeartbeats 4000000 in
set_option maxRecDepth 100000 in
theorem law_c20 {p : Program} {l : Launch} {e : Env} {s : State} {m : MethodId} {below : List Frame} {meth : Method} {c : Code} {b L : Nat} {xs : Nat → Int32} {D : va_G} {ty : Nat → ClassId} (hC : LC p l s m meth c b L xs D ty) {j : Nat} (hj : 5 * j + 5 ≤ L) (hL : L ≤ 2560) (hn : LawK p l e s m below meth c b D ty (j + 1)) {ad : Nat → Nat} {ct : rm_C} {th : Int} {o : Nat → Int} {H : Heap} {locs : List Loc} {ls : Array Slot} (hG : lwGo ty ad ct j th o) (hW : rm_W D ad ct (lwA s) H) (hS : va_S (lwA s) s.heap H locs) (hl : lv_has ls 8 [(0, .ref b), (1, .ref (ad 0)), (2, .ref (ad 1000)), (3, .ref (ad 2000)), (4, .int (jI (5 * (j : Int))))]) : W p l e room_1 s m #[Value.ref b] below meth c H locs (60 + 20 * j) (1300 + 200 * j) (lw_Z below #[Value.ref b] s) (F0 m 1445 ls []) := by
  obtain ⟨⟨hx, hb, hr, hml, hown0, htb, hX, hbl, hlocks, hgv⟩, hlf, hK, hNw, hE, hX2, hU⟩ := id hC
  have hb : c.code = cL_law := hb
  have hts : ∀ w ∈ wsL_law, w.before #[Value.ref b] s = true := fun w hw => htb w (wsL_law_in w hw)
  have hown : s.vm.findClass RL = some m.cls := hown0
  have hA : ∀ q : Nat, s.heap.size ≤ q → lwA s q := fun _ h => h
  have hbA : ¬ lwA s b := Nat.not_le.mpr hbl
  have hj5 : j ≤ 512 := by omega
  obtain ⟨⟨yc, hc, yn, yM, yu, hy, hg, hf, hCl, hMx, hI⟩, ho⟩ := hG
  have hCc : ClsAt ty ad (cutC ct) yc hc yn yM (ydg yn yM) yu hy hg hf := hCl.lo (fun q hq => cutC_lo hq)
  obtain ⟨z1, hz1⟩ : ∃ z, (xs (5 * j + 1)).toInt = z := ⟨_, rfl⟩
  have r1 : r32 z1 := by rw [← hz1]; exact jI_rng _
  obtain ⟨z2, hz2⟩ : ∃ z, (xs (5 * j + 2)).toInt = z := ⟨_, rfl⟩
  have r2 : r32 z2 := by rw [← hz2]; exact jI_rng _
  obtain ⟨z3, hz3⟩ : ∃ z, (xs (5 * j + 3)).toInt = z := ⟨_, rfl⟩
  have r3 : r32 z3 := by rw [← hz3]; exact jI_rng _
  refine lv_aload_n hx hb dL_law_1445 rfl (lv_at hl 1 rfl) ?_
  refine lv_aload_n hx hb dL_law_1446 rfl (lv_at hl 0 rfl) ?_
  refine lv_iload hx hb dL_law_1447 (lv_at hl 4 rfl) ?_
  refine lv_iconst (v := jI 1) hx hb dL_law_1449 rfl ?_
  refine rm_iadd hx hb dL_law_1450 ?_
  refine s_ld hx hb hX hbl hbA hS hL (5 * j + 1) (by omega) (by omega) hz1 dL_law_1451 ?_
  refine lv_aload_n hx hb dL_law_1452 rfl (lv_at hl 0 rfl) ?_
  refine lv_iload hx hb dL_law_1453 (lv_at hl 4 rfl) ?_
  refine lv_iconst (v := jI 2) hx hb dL_law_1455 rfl ?_
  refine rm_iadd hx hb dL_law_1456 ?_
  refine s_ld hx hb hX hbl hbA hS hL (5 * j + 2) (by omega) (by omega) hz2 dL_law_1457 ?_
  refine rm_i2l hx hb dL_law_1458 r2 ?_
  refine lv_bipush (v := jI 32) hx hb dL_law_1459 (by decide) ?_
  refine lv_lshl hx hb dL_law_1461 rfl ?_
  refine lv_aload_n hx hb dL_law_1462 rfl (lv_at hl 0 rfl) ?_
  refine lv_iload hx hb dL_law_1463 (lv_at hl 4 rfl) ?_
  refine lv_iconst (v := jI 3) hx hb dL_law_1465 rfl ?_
  refine rm_iadd hx hb dL_law_1466 ?_
  refine s_ld hx hb hX hbl hbA hS hL (5 * j + 3) (by omega) (by omega) hz3 dL_law_1467 ?_
  refine rm_i2l hx hb dL_law_1468 r3 ?_
  refine rm_ldc2 (z := 4294967295) hx hb hown (hts (.constantLong RL 164 (4294967295)) (by decide +kernel)) (by decide) dL_law_1469 ?_
  refine lv_land hx hb dL_law_1472 ?_
  refine lv_lor hx hb dL_law_1473 ?_
  obtain ⟨tr, htr, hv9⟩ := jL_bits ((jL z2 <<< ((jI 32).toInt64 &&& 63)) ||| (jL z3 &&& jL 4294967295))
  rw [hv9]
  refine lv_aload_n hx hb dL_law_1474 rfl (lv_at hl 3 rfl) ?_
  have hrz : ∀ z c1, p5_grow ty ad (cutC ct) yc hc yn yM yu hy hg hf z1 tr z c1 → (fun z => z = 0 ∨ z = 1) z := rz_grow hj5 hI
  refine yc_i (vx_runSX (As := [.ref (ad 0), .int (jI z1), .long (jL ((tr : Nat) : Int)), .ref (ad 2000)]) (rest := []) ⟨hx, hb, hml, hown, hts⟩ (c_L_grow l D ty ad ct H.size _ o z1 ((tr : Nat) : Int) (post := p5_grow ty ad (cutC ct) yc hc yn yM yu hy hg hf z1 tr) (px := x5_grow ty ad (cutC ct) yc hc yn yM yu hy hg hf z1 tr) hCl.2.1.1 ho (c_X5_grow l hlf D ty ad (cutC ct) H.size yc hc yn yM (ydg yn yM) yu hy hg hf hCc (iv_n hI) (iv_M hI) (iv_d hI) z1 tr r1 htr) hrz (fun E c1 h => h.1)) (vx_cwSW 4 hts gL_law_L_grow rfl rfl rfl (by decide +kernel) ⟨Nat.le_of_ble_eq_true rfl, Nat.le_of_ble_eq_true rfl⟩) (rm_preSY hK hNw hE hX2 hU hW hS hA) rfl rfl hl.1 rfl (lv_room (Nat.le_of_ble_eq_true rfl)) dL_law_1475 ⟨by show 60 + 20 * j + 1 ≤ 601024; omega, by show 1300 + 200 * j + 6 ≤ 7293034; omega⟩) hW hS hA (fun k ct1 H locs hq1 hW hS => ?_)
  refine lv_istore (lv' := [(5, .int (jI k)), (0, .ref b), (1, .ref (ad 0)), (2, .ref (ad 1000)), (3, .ref (ad 2000)), (4, .int (jI (5 * (j : Int))))]) hx hb dL_law_1478 hl (by decide) rfl (fun ls hl => ?_)
  have hk1 : ∀ q, 1000 ≤ q → q ≤ 1016 → ct1 q = ct q := by
    rcases hq1 with ⟨-, z, c1, -, -, hgl⟩ | ⟨-, c1, -, hgl⟩
    · exact fun q h h2 => (hgl q (by omega)).trans (glue_hi h)
    · exact fun q h h2 => (hgl q).trans (glue_hi h)
  obtain ⟨mA, pt, ro, ke, kt, mu, sl, tw, bw, de, hMo⟩ := hMx.hi (ad2 := ad) hk1 (fun r hr => rfl)
  refine lv_aload_n hx hb dL_law_1480 rfl (lv_at hl 3 rfl) ?_
  refine lv_aload_n hx hb dL_law_1481 rfl (lv_at hl 1 rfl) ?_
  refine lv_iload hx hb dL_law_1482 (lv_at hl 5 rfl) ?_
  refine lv_iconst (v := jI 1) hx hb dL_law_1484 rfl ?_
  refine rm_iadd hx hb dL_law_1485 ?_
  refine s_ld hx hb hX hbl hbA hS hL (5 * j + 1) (by omega) (by omega) hz1 dL_law_1486 ?_
  refine lv_aload_n hx hb dL_law_1487 rfl (lv_at hl 1 rfl) ?_
  refine lv_iload hx hb dL_law_1488 (lv_at hl 5 rfl) ?_
  refine lv_iconst (v := jI 2) hx hb dL_law_1490 rfl ?_
  refine rm_iadd hx hb dL_law_1491 ?_
  refine s_ld hx hb hX hbl hbA hS hL (5 * j + 2) (by omega) (by omega) hz2 dL_law_1492 ?_
  refine rm_i2l hx hb dL_law_1493 r2 ?_
  refine lv_bipush (v := jI 32) hx hb dL_law_1494 (by decide) ?_
  refine lv_lshl hx hb dL_law_1496 rfl ?_
  refine lv_aload_n hx hb dL_law_1497 rfl (lv_at hl 1 rfl) ?_
  refine lv_iload hx hb dL_law_1498 (lv_at hl 5 rfl) ?_
  refine lv_iconst (v := jI 3) hx hb dL_law_1500 rfl ?_
  refine rm_iadd hx hb dL_law_1501 ?_
  refine s_ld hx hb hX hbl hbA hS hL (5 * j + 3) (by omega) (by omega) hz3 dL_law_1502 ?_
  refine rm_i2l hx hb dL_law_1503 r3 ?_
  refine rm_ldc2 (z := 4294967295) hx hb hown (hts (.constantLong RL 164 (4294967295)) (by decide +kernel)) (by decide) dL_law_1504 ?_
  refine lv_land hx hb dL_law_1507 ?_
  refine lv_lor hx hb dL_law_1508 ?_
  rw [hv9]
  refine rm_calli (va_runV (As := [.int (jI z1), .long (jL ((tr : Nat) : Int))]) (rest := []) ⟨hx, hb, hml, hown, hts⟩ (c_X6_grow l D ty ad ct1 H.size th yc hc yn yM yu hy hg hf mA pt ro ke kt mu sl tw bw de hMo (hI.1) (iv_n hI) (iv_M hI) (iv_hy hI) (iv_kh hI) z1 tr r1 htr) (cwV 2 hts gL_law_X6_grow rfl rfl rfl (by decide +kernel) ⟨Nat.le_of_ble_eq_true rfl, Nat.le_of_ble_eq_true rfl⟩) (rm_preV hK hNw hW hMo.1 rfl) rfl rfl hl.1 rfl (lv_room (Nat.le_of_ble_eq_true rfl)) dL_law_1509 ⟨by show 60 + 20 * j + 1 + 0 ≤ 601024; omega, by show 1300 + 200 * j + 6 + 0 ≤ 7293034; omega⟩) hW hS hA (fun b9 ct2 H locs hq2 hW hS => ?_)
  have hEnd := ag_grow hj5 hI hCl ho hrz hq1 hq2
  obtain ⟨o2, hG2, hk3, hb2⟩ := hEnd
  refine lv_istore (lv' := [(6, .int (jI b9)), (5, .int (jI k)), (0, .ref b), (1, .ref (ad 0)), (2, .ref (ad 1000)), (3, .ref (ad 2000)), (4, .int (jI (5 * (j : Int))))]) hx hb dL_law_1512 hl (by decide) rfl (fun ls hl => ?_)
  have hrk : r32 k := by
    rcases hk3 with h | h | h <;> rw [h] <;> exact ⟨by omega, by omega⟩
  obtain ⟨⟨yc2, hc2, yn2, yM2, yu2, hy2, hg2, hf2, hCl2, hMx2, hI2⟩, ho2⟩ := id hG2
  obtain ⟨mA2, pt2, ro2, ke2, kt2, mu2, sl2, tw2, bw2, de2, hMo2⟩ := hMx2
  refine lv_aload_n hx hb dL_law_1514 rfl (lv_at hl 4 rfl) ?_
  refine rm_calli (va_runV (As := []) (rest := []) ⟨hx, hb, hml, hown, hts⟩ (c_X6_thrown l D ty ad ct2 H.size k yc2 hc2 yn2 yM2 yu2 hy2 hg2 hf2 mA2 pt2 ro2 ke2 kt2 mu2 sl2 tw2 bw2 de2 hMo2 hrk) (cwV 0 hts gL_law_X6_thrown rfl rfl rfl (by decide +kernel) ⟨Nat.le_of_ble_eq_true rfl, Nat.le_of_ble_eq_true rfl⟩) (rm_preV hK hNw hW hMo2.1 rfl) rfl rfl hl.1 rfl (lv_room (Nat.le_of_ble_eq_true rfl)) dL_law_1515 ⟨by show 60 + 20 * j + 1 + 0 + 0 ≤ 601024; omega, by show 1300 + 200 * j + 6 + 0 + 0 ≤ 7293034; omega⟩) hW hS hA (fun t9 ct3 H locs hq3 hW hS => ?_)
  obtain ⟨ht9, hc3⟩ := hq3
  rw [ht9]
  rw [hc3] at hW
  refine lv_iload hx hb dL_law_1518 (lv_at hl 1 rfl) ?_
  refine rm_icmp_eq (tgt := 1525) hx hb hrk hrk dL_law_1520 (by decide) (fun _ => ?_) (fun hq => absurd rfl hq)
  refine lv_iload hx hb dL_law_1525 (lv_at hl 1 rfl) ?_
  refine rm_if_ne (tgt := 1549) hx hb hrk dL_law_1527 (by decide) (fun hk0 => ?_) (fun hk0 => ?_)
  · skip
    refine lv_goto (tgt := 1608) hx hb dL_law_1549 (by decide) ?_
    exact law_tail hC hn (by omega) (by omega) hG2 hW hS (lv_sub hl [2, 3, 4, 5, 6] rfl)
  · obtain ⟨hb3, hR⟩ := hb2 hk0
    refine lv_aload_n hx hb dL_law_1530 rfl (lv_at hl 5 rfl) ?_
    refine lv_iconst (v := jI 0) hx hb dL_law_1531 rfl ?_
    refine rm_lald hx hb hK hW (f := o2) ho2 0 rfl (by omega) (by omega) dL_law_1532 ?_
    rw [hb3]
    refine lv_iload hx hb dL_law_1533 (lv_at hl 0 rfl) ?_
    rcases hR with hR | hR
    · rw [hR]
      refine rm_if_eq (tgt := 1542) hx hb r32_0 dL_law_1535 (by decide) (fun _ => ?_) (fun hq => absurd rfl hq)
      refine lv_lconst (v := jL 0) hx hb dL_law_1542 rfl ?_
      refine lcmp_same hx hb dL_law_1543 ?_
      refine rm_if_eq (tgt := 1549) hx hb r32_0 dL_law_1544 (by decide) (fun _ => ?_) (fun hq => absurd rfl hq)
      refine lv_goto (tgt := 1608) hx hb dL_law_1549 (by decide) ?_
      exact law_tail hC hn (by omega) (by omega) hG2 hW hS (lv_sub hl [2, 3, 4, 5, 6] rfl)
    · rw [hR]
      refine rm_if_eq (tgt := 1542) hx hb ⟨by omega, by omega⟩ dL_law_1535 (by decide) (fun hq => absurd hq (by decide)) (fun _ => ?_)
      refine lv_lconst (v := jL 1) hx hb dL_law_1538 rfl ?_
      refine lv_goto (tgt := 1543) hx hb dL_law_1539 (by decide) ?_
      refine lcmp_same hx hb dL_law_1543 ?_
      refine rm_if_eq (tgt := 1549) hx hb r32_0 dL_law_1544 (by decide) (fun _ => ?_) (fun hq => absurd rfl hq)
      refine lv_goto (tgt := 1608) hx hb dL_law_1549 (by decide) ?_
      exact law_tail hC hn (by omega) (by omega) hG2 hW hS (lv_sub hl [2, 3, 4, 5, 6] rfl)
set_option maxHeartbeats 4000000 in
set_option maxRecDepth 100000 in
theorem law_c21 {p : Program} {l : Launch} {e : Env} {s : State} {m : MethodId} {below : List Frame} {meth : Method} {c : Code} {b L : Nat} {xs : Nat → Int32} {D : va_G} {ty : Nat → ClassId} (hC : LC p l s m meth c b L xs D ty) {j : Nat} (hj : 5 * j + 5 ≤ L) (hL : L ≤ 2560) (hn : LawK p l e s m below meth c b D ty (j + 1)) {ad : Nat → Nat} {ct : rm_C} {th : Int} {o : Nat → Int} {H : Heap} {locs : List Loc} {ls : Array Slot} (hG : lwGo ty ad ct j th o) (hW : rm_W D ad ct (lwA s) H) (hS : va_S (lwA s) s.heap H locs) (hl : lv_has ls 8 [(0, .ref b), (1, .ref (ad 0)), (2, .ref (ad 1000)), (3, .ref (ad 2000)), (4, .int (jI (5 * (j : Int))))]) : W p l e room_1 s m #[Value.ref b] below meth c H locs (60 + 20 * j) (1300 + 200 * j) (lw_Z below #[Value.ref b] s) (F0 m 1552 ls []) := by
  obtain ⟨⟨hx, hb, hr, hml, hown0, htb, hX, hbl, hlocks, hgv⟩, hlf, hK, hNw, hE, hX2, hU⟩ := id hC
  have hb : c.code = cL_law := hb
  have hts : ∀ w ∈ wsL_law, w.before #[Value.ref b] s = true := fun w hw => htb w (wsL_law_in w hw)
  have hown : s.vm.findClass RL = some m.cls := hown0
  have hA : ∀ q : Nat, s.heap.size ≤ q → lwA s q := fun _ h => h
  have hbA : ¬ lwA s b := Nat.not_le.mpr hbl
  have hj5 : j ≤ 512 := by omega
  obtain ⟨⟨yc, hc, yn, yM, yu, hy, hg, hf, hCl, hMx, hI⟩, ho⟩ := hG
  have hCc : ClsAt ty ad (cutC ct) yc hc yn yM (ydg yn yM) yu hy hg hf := hCl.lo (fun q hq => cutC_lo hq)
  obtain ⟨z1, hz1⟩ : ∃ z, (xs (5 * j + 1)).toInt = z := ⟨_, rfl⟩
  have r1 : r32 z1 := by rw [← hz1]; exact jI_rng _
  refine lv_aload_n hx hb dL_law_1552 rfl (lv_at hl 1 rfl) ?_
  refine lv_aload_n hx hb dL_law_1553 rfl (lv_at hl 0 rfl) ?_
  refine lv_iload hx hb dL_law_1554 (lv_at hl 4 rfl) ?_
  refine lv_iconst (v := jI 1) hx hb dL_law_1556 rfl ?_
  refine rm_iadd hx hb dL_law_1557 ?_
  refine s_ld hx hb hX hbl hbA hS hL (5 * j + 1) (by omega) (by omega) hz1 dL_law_1558 ?_
  refine lv_aload_n hx hb dL_law_1559 rfl (lv_at hl 3 rfl) ?_
  have hrz : ∀ z c1, p5_count ty ad (cutC ct) yc hc yn yM yu hy hg hf z1 z c1 → r32 z := rz_count hj5 hI
  refine yc_i (vx_runSX (As := [.ref (ad 0), .int (jI z1), .ref (ad 2000)]) (rest := []) ⟨hx, hb, hml, hown, hts⟩ (c_L_count l D ty ad ct H.size _ o z1 (post := p5_count ty ad (cutC ct) yc hc yn yM yu hy hg hf z1) (px := x5_count ty ad (cutC ct) yc hc yn yM yu hy hg hf z1) hCl.2.1.1 ho (c_X5_count l hlf D ty ad (cutC ct) H.size yc hc yn yM (ydg yn yM) yu hy hg hf hCc  z1 r1) hrz (fun E c1 h => h.1)) (vx_cwSW 3 hts gL_law_L_count rfl rfl rfl (by decide +kernel) ⟨Nat.le_of_ble_eq_true rfl, Nat.le_of_ble_eq_true rfl⟩) (rm_preSY hK hNw hE hX2 hU hW hS hA) rfl rfl hl.1 rfl (lv_room (Nat.le_of_ble_eq_true rfl)) dL_law_1560 ⟨by show 60 + 20 * j + 1 ≤ 601024; omega, by show 1300 + 200 * j + 6 ≤ 7293034; omega⟩) hW hS hA (fun k ct1 H locs hq1 hW hS => ?_)
  refine lv_istore (lv' := [(5, .int (jI k)), (0, .ref b), (1, .ref (ad 0)), (2, .ref (ad 1000)), (3, .ref (ad 2000)), (4, .int (jI (5 * (j : Int))))]) hx hb dL_law_1563 hl (by decide) rfl (fun ls hl => ?_)
  have hk1 : ∀ q, 1000 ≤ q → q ≤ 1016 → ct1 q = ct q := by
    rcases hq1 with ⟨-, z, c1, -, -, hgl⟩ | ⟨-, c1, -, hgl⟩
    · exact fun q h h2 => (hgl q (by omega)).trans (glue_hi h)
    · exact fun q h h2 => (hgl q).trans (glue_hi h)
  obtain ⟨mA, pt, ro, ke, kt, mu, sl, tw, bw, de, hMo⟩ := hMx.hi (ad2 := ad) hk1 (fun r hr => rfl)
  refine lv_aload_n hx hb dL_law_1565 rfl (lv_at hl 3 rfl) ?_
  refine lv_aload_n hx hb dL_law_1566 rfl (lv_at hl 1 rfl) ?_
  refine lv_iload hx hb dL_law_1567 (lv_at hl 5 rfl) ?_
  refine lv_iconst (v := jI 1) hx hb dL_law_1569 rfl ?_
  refine rm_iadd hx hb dL_law_1570 ?_
  refine s_ld hx hb hX hbl hbA hS hL (5 * j + 1) (by omega) (by omega) hz1 dL_law_1571 ?_
  refine rm_calli (va_runV (As := [.int (jI z1)]) (rest := []) ⟨hx, hb, hml, hown, hts⟩ (c_X6_count l D ty ad ct1 H.size th yc hc yn yM yu hy hg hf mA pt ro ke kt mu sl tw bw de hMo  z1 r1) (cwV 1 hts gL_law_X6_count rfl rfl rfl (by decide +kernel) ⟨Nat.le_of_ble_eq_true rfl, Nat.le_of_ble_eq_true rfl⟩) (rm_preV hK hNw hW hMo.1 rfl) rfl rfl hl.1 rfl (lv_room (Nat.le_of_ble_eq_true rfl)) dL_law_1572 ⟨by show 60 + 20 * j + 1 + 0 ≤ 601024; omega, by show 1300 + 200 * j + 6 + 0 ≤ 7293034; omega⟩) hW hS hA (fun b9 ct2 H locs hq2 hW hS => ?_)
  have hEnd := ag_count hj5 hI hCl ho hrz hq1 hq2
  obtain ⟨o2, hG2, hk3, hb2⟩ := hEnd
  refine lv_istore (lv' := [(6, .int (jI b9)), (5, .int (jI k)), (0, .ref b), (1, .ref (ad 0)), (2, .ref (ad 1000)), (3, .ref (ad 2000)), (4, .int (jI (5 * (j : Int))))]) hx hb dL_law_1575 hl (by decide) rfl (fun ls hl => ?_)
  have hrk : r32 k := by
    rcases hk3 with h | h | h <;> rw [h] <;> exact ⟨by omega, by omega⟩
  obtain ⟨⟨yc2, hc2, yn2, yM2, yu2, hy2, hg2, hf2, hCl2, hMx2, hI2⟩, ho2⟩ := id hG2
  obtain ⟨mA2, pt2, ro2, ke2, kt2, mu2, sl2, tw2, bw2, de2, hMo2⟩ := hMx2
  refine lv_aload_n hx hb dL_law_1577 rfl (lv_at hl 4 rfl) ?_
  refine rm_calli (va_runV (As := []) (rest := []) ⟨hx, hb, hml, hown, hts⟩ (c_X6_thrown l D ty ad ct2 H.size k yc2 hc2 yn2 yM2 yu2 hy2 hg2 hf2 mA2 pt2 ro2 ke2 kt2 mu2 sl2 tw2 bw2 de2 hMo2 hrk) (cwV 0 hts gL_law_X6_thrown rfl rfl rfl (by decide +kernel) ⟨Nat.le_of_ble_eq_true rfl, Nat.le_of_ble_eq_true rfl⟩) (rm_preV hK hNw hW hMo2.1 rfl) rfl rfl hl.1 rfl (lv_room (Nat.le_of_ble_eq_true rfl)) dL_law_1578 ⟨by show 60 + 20 * j + 1 + 0 + 0 ≤ 601024; omega, by show 1300 + 200 * j + 6 + 0 + 0 ≤ 7293034; omega⟩) hW hS hA (fun t9 ct3 H locs hq3 hW hS => ?_)
  obtain ⟨ht9, hc3⟩ := hq3
  rw [ht9]
  rw [hc3] at hW
  refine lv_iload hx hb dL_law_1581 (lv_at hl 1 rfl) ?_
  refine rm_icmp_eq (tgt := 1588) hx hb hrk hrk dL_law_1583 (by decide) (fun _ => ?_) (fun hq => absurd rfl hq)
  refine lv_iload hx hb dL_law_1588 (lv_at hl 1 rfl) ?_
  refine rm_if_ne (tgt := 1605) hx hb hrk dL_law_1590 (by decide) (fun hk0 => ?_) (fun hk0 => ?_)
  · skip
    refine lv_goto (tgt := 1608) hx hb dL_law_1605 (by decide) ?_
    exact law_tail hC hn (by omega) (by omega) hG2 hW hS (lv_sub hl [2, 3, 4, 5, 6] rfl)
  · obtain ⟨hb3, hR⟩ := hb2 hk0
    refine lv_aload_n hx hb dL_law_1593 rfl (lv_at hl 5 rfl) ?_
    refine lv_iconst (v := jI 0) hx hb dL_law_1594 rfl ?_
    refine rm_lald hx hb hK hW (f := o2) ho2 0 rfl (by omega) (by omega) dL_law_1595 ?_
    rw [hb3]
    refine lv_iload hx hb dL_law_1596 (lv_at hl 0 rfl) ?_
    refine rm_i2l hx hb dL_law_1598 hR ?_
    refine lcmp_same hx hb dL_law_1599 ?_
    refine rm_if_eq (tgt := 1605) hx hb r32_0 dL_law_1600 (by decide) (fun _ => ?_) (fun hq => absurd rfl hq)
    refine lv_goto (tgt := 1608) hx hb dL_law_1605 (by decide) ?_
    exact law_tail hC hn (by omega) (by omega) hG2 hW hS (lv_sub hl [2, 3, 4, 5, 6] rfl)
end LawCasesc4
