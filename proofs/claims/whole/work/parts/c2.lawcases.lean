section LawCasesc2
set_option maxHeartbeats 4000000 in
set_option maxRecDepth 100000 in
theorem law_c0 {p : Program} {l : Launch} {e : Env} {s : State} {m : MethodId} {below : List Frame} {meth : Method} {c : Code} {b L : Nat} {xs : Nat → Int32} {D : va_G} {ty : Nat → ClassId} (hC : LC p l s m meth c b L xs D ty) {j : Nat} (hj : 5 * j + 5 ≤ L) (hL : L ≤ 2560) (hn : LawK p l e s m below meth c b D ty (j + 1)) {ad : Nat → Nat} {ct : rm_C} {th : Int} {o : Nat → Int} {H : Heap} {locs : List Loc} {ls : Array Slot} (hG : lwGo ty ad ct j th o) (hW : rm_W D ad ct (lwA s) H) (hS : va_S (lwA s) s.heap H locs) (hl : lv_has ls 8 [(0, .ref b), (1, .ref (ad 0)), (2, .ref (ad 1000)), (3, .ref (ad 2000)), (4, .int (jI (5 * (j : Int))))]) : W p l e room_1 s m #[Value.ref b] below meth c H locs (60 + 20 * j) (1300 + 200 * j) (lw_Z below #[Value.ref b] s) (F0 m 140 ls []) := by
  obtain ⟨⟨hx, hb, hr, hml, hown0, htb, hX, hbl, hlocks, hgv⟩, hlf, hK, hNw, hE, hX2, hU⟩ := id hC
  have hb : c.code = cL_law := hb
  have hts : ∀ w ∈ wsL_law, w.before #[Value.ref b] s = true := fun w hw => htb w (wsL_law_in w hw)
  have hown : s.vm.findClass RL = some m.cls := hown0
  have hA : ∀ q : Nat, s.heap.size ≤ q → lwA s q := fun _ h => h
  have hbA : ¬ lwA s b := Nat.not_le.mpr hbl
  have hj5 : j ≤ 512 := by omega
  obtain ⟨⟨yc, hc, yn, yM, yu, hy, hg, hf, hCl0, hMx0, hI⟩, ho⟩ := hG
  obtain ⟨ad1, had1⟩ : ∃ ad1 : Nat → Nat, ad1 = fun q => if yc < 6 ∧ 40 + 16 * yc ≤ q ∧ q ≤ 40 + 16 * yc + 10 then H.size + (q - (40 + 16 * yc)) else ad q := ⟨_, rfl⟩
  have hyc6 := hI.1.1
  have hre : ∀ r, (r < 40 + 16 * yc ∨ 40 + 16 * yc + 10 < r) → ad1 r = ad r := fun r h => by rw [had1]; dsimp only; rw [if_neg (by omega)]
  have hCl : ClsAt ty ad1 ct yc hc yn yM (ydg yn yM) yu hy hg hf := by
    by_cases h6 : yc < 6
    · exact hCl0.reY h6 hre
    · have h7 : ad1 = ad := by
        rw [had1]; funext q; rw [if_neg (by omega)]
      rw [h7]; exact hCl0
  have hMx : ModX ty ad1 ct th yc hc yn yM yu hy hg hf := hMx0.hi (fun _ _ _ => rfl) (fun q h => hre q (by omega))
  have hW : rm_W D ad1 ct (lwA s) H := hW.re (fun r e hr => by
    by_cases h6 : yc < 6 ∧ 40 + 16 * yc ≤ r ∧ r ≤ 40 + 16 * yc + 10
    · have := hCl0.2.2.2.2.2.1 yc (Nat.le_refl _) h6.1 (r - (40 + 16 * yc)) (by omega)
      rw [show 40 + 16 * yc + (r - (40 + 16 * yc)) = r by omega, hr] at this
      cases this
    · rw [had1]; exact if_neg h6)
  have had0 : yc < 6 → ∀ j, j ≤ 10 → ad1 (40 + 16 * yc + j) = H.size + j := fun h6 j hj => by
    rw [had1]; dsimp only; rw [if_pos ⟨h6, by omega, by omega⟩]; omega
  rw [← hre 0 (by omega), ← hre 1000 (by omega), ← hre 2000 (by omega)] at hl
  have hCc : ClsAt ty ad1 (cutC ct) yc hc yn yM (ydg yn yM) yu hy hg hf := hCl.lo (fun q hq => cutC_lo hq)
  obtain ⟨z1, hz1⟩ : ∃ z, (xs (5 * j + 1)).toInt = z := ⟨_, rfl⟩
  have r1 : r32 z1 := by rw [← hz1]; exact jI_rng _
  refine lv_aload_n hx hb dL_law_140 rfl (lv_at hl 1 rfl) ?_
  refine lv_aload_n hx hb dL_law_141 rfl (lv_at hl 0 rfl) ?_
  refine lv_iload hx hb dL_law_142 (lv_at hl 4 rfl) ?_
  refine lv_iconst (v := jI 1) hx hb dL_law_144 rfl ?_
  refine rm_iadd hx hb dL_law_145 ?_
  refine s_ld hx hb hX hbl hbA hS hL (5 * j + 1) (by omega) (by omega) hz1 dL_law_146 ?_
  refine fc_i (va_runV (As := [.int (jI z1)]) (rest := []) ⟨hx, hb, hml, hown, hts⟩ (c_X5_yard l D ty ad1 (cutC ct) H.size yc hc yn yM (ydg yn yM) yu hy hg hf hCc z1 r1 had0) (cwV 1 hts gL_law_X5_yard rfl rfl rfl (by decide +kernel) ⟨Nat.le_of_ble_eq_true rfl, Nat.le_of_ble_eq_true rfl⟩) (rm_preV hK hNw (cutW hW) (r := 0) (ci := 5) (q := (RX5, TX5, 7)) ((cutC_lo (by omega)).trans hCl.2.1.1) rfl) rfl rfl hl.1 rfl (lv_room (Nat.le_of_ble_eq_true rfl)) dL_law_147 ⟨by show 60 + 20 * j + 11 ≤ 601024; omega, by show 1300 + 200 * j + 84 ≤ 7293034; omega⟩) hW hS hA (fun k c1 H locs hq1 hW hS => ?_)
  have hk1 : ∀ q, 1000 ≤ q → q ≤ 1016 → (glue c1 ct) q = ct q := fun q h _ => glue_hi h
  obtain ⟨mA, pt, ro, ke, kt, mu, sl, tw, bw, de, hMo⟩ := hMx.hi (ad2 := ad1) hk1 (fun _ _ => rfl)
  refine lv_aload_n hx hb dL_law_150 rfl (lv_at hl 2 rfl) ?_
  refine lv_aload_n hx hb dL_law_151 rfl (lv_at hl 0 rfl) ?_
  refine lv_iload hx hb dL_law_152 (lv_at hl 4 rfl) ?_
  refine lv_iconst (v := jI 1) hx hb dL_law_154 rfl ?_
  refine rm_iadd hx hb dL_law_155 ?_
  refine s_ld hx hb hX hbl hbA hS hL (5 * j + 1) (by omega) (by omega) hz1 dL_law_156 ?_
  refine rm_calli (va_runV (As := [.int (jI z1)]) (rest := [.int (jI k)]) ⟨hx, hb, hml, hown, hts⟩ (c_X6_yard l D ty ad1 (glue c1 ct) H.size th yc hc yn yM yu hy hg hf mA pt ro ke kt mu sl tw bw de hMo (hI.1) z1 r1) (cwV 1 hts gL_law_X6_yard rfl rfl rfl (by decide +kernel) ⟨Nat.le_of_ble_eq_true rfl, Nat.le_of_ble_eq_true rfl⟩) (rm_preV hK hNw hW hMo.1 rfl) rfl rfl hl.1 rfl (lv_room (Nat.le_of_ble_eq_true rfl)) dL_law_157 ⟨by show 60 + 20 * j + 11 + 0 ≤ 601024; omega, by show 1300 + 200 * j + 84 + 0 ≤ 7293034; omega⟩) hW hS hA (fun b9 ct2 H locs hq2 hW hS => ?_)
  obtain ⟨⟨hkb, hrb⟩, o2, hG2, -, -⟩ := ag_yard (k := 0) hj5 hI hCl ho hq1 (fun _ => rfl) hq2
  subst hkb
  refine rm_icmp_eq (tgt := 1608) hx hb hrb hrb dL_law_160 (by decide) (fun _ => ?_) (fun hq => absurd rfl hq)
  exact law_tail hC hn (by omega) (by omega) hG2 hW hS (lv_sub hl [0, 1, 2, 3, 4] rfl)
set_option maxHeartbeats 4000000 in
set_option maxRecDepth 100000 in
theorem law_c1 {p : Program} {l : Launch} {e : Env} {s : State} {m : MethodId} {below : List Frame} {meth : Method} {c : Code} {b L : Nat} {xs : Nat → Int32} {D : va_G} {ty : Nat → ClassId} (hC : LC p l s m meth c b L xs D ty) {j : Nat} (hj : 5 * j + 5 ≤ L) (hL : L ≤ 2560) (hn : LawK p l e s m below meth c b D ty (j + 1)) {ad : Nat → Nat} {ct : rm_C} {th : Int} {o : Nat → Int} {H : Heap} {locs : List Loc} {ls : Array Slot} (hG : lwGo ty ad ct j th o) (hW : rm_W D ad ct (lwA s) H) (hS : va_S (lwA s) s.heap H locs) (hl : lv_has ls 8 [(0, .ref b), (1, .ref (ad 0)), (2, .ref (ad 1000)), (3, .ref (ad 2000)), (4, .int (jI (5 * (j : Int))))]) : W p l e room_1 s m #[Value.ref b] below meth c H locs (60 + 20 * j) (1300 + 200 * j) (lw_Z below #[Value.ref b] s) (F0 m 165 ls []) := by
  obtain ⟨⟨hx, hb, hr, hml, hown0, htb, hX, hbl, hlocks, hgv⟩, hlf, hK, hNw, hE, hX2, hU⟩ := id hC
  have hb : c.code = cL_law := hb
  have hts : ∀ w ∈ wsL_law, w.before #[Value.ref b] s = true := fun w hw => htb w (wsL_law_in w hw)
  have hown : s.vm.findClass RL = some m.cls := hown0
  have hA : ∀ q : Nat, s.heap.size ≤ q → lwA s q := fun _ h => h
  have hbA : ¬ lwA s b := Nat.not_le.mpr hbl
  have hj5 : j ≤ 512 := by omega
  obtain ⟨⟨yc, hc, yn, yM, yu, hy, hg, hf, hCl, hMx, hI⟩, ho⟩ := hG
  have hCc : ClsAt ty ad (cutC ct) yc hc yn yM (ydg yn yM) yu hy hg hf := hCl.lo (fun q hq => cutC_lo hq)
  obtain ⟨z1, hz1⟩ : ∃ z, (xs (5 * j + 1)).toInt = z := ⟨_, rfl⟩
  have r1 : r32 z1 := by rw [← hz1]; exact jI_rng _
  obtain ⟨z2, hz2⟩ : ∃ z, (xs (5 * j + 2)).toInt = z := ⟨_, rfl⟩
  have r2 : r32 z2 := by rw [← hz2]; exact jI_rng _
  obtain ⟨z3, hz3⟩ : ∃ z, (xs (5 * j + 3)).toInt = z := ⟨_, rfl⟩
  have r3 : r32 z3 := by rw [← hz3]; exact jI_rng _
  obtain ⟨z4, hz4⟩ : ∃ z, (xs (5 * j + 4)).toInt = z := ⟨_, rfl⟩
  have r4 : r32 z4 := by rw [← hz4]; exact jI_rng _
  refine lv_aload_n hx hb dL_law_165 rfl (lv_at hl 1 rfl) ?_
  refine lv_aload_n hx hb dL_law_166 rfl (lv_at hl 0 rfl) ?_
  refine lv_iload hx hb dL_law_167 (lv_at hl 4 rfl) ?_
  refine lv_iconst (v := jI 1) hx hb dL_law_169 rfl ?_
  refine rm_iadd hx hb dL_law_170 ?_
  refine s_ld hx hb hX hbl hbA hS hL (5 * j + 1) (by omega) (by omega) hz1 dL_law_171 ?_
  refine lv_aload_n hx hb dL_law_172 rfl (lv_at hl 0 rfl) ?_
  refine lv_iload hx hb dL_law_173 (lv_at hl 4 rfl) ?_
  refine lv_iconst (v := jI 2) hx hb dL_law_175 rfl ?_
  refine rm_iadd hx hb dL_law_176 ?_
  refine s_ld hx hb hX hbl hbA hS hL (5 * j + 2) (by omega) (by omega) hz2 dL_law_177 ?_
  refine lv_aload_n hx hb dL_law_178 rfl (lv_at hl 0 rfl) ?_
  refine lv_iload hx hb dL_law_179 (lv_at hl 4 rfl) ?_
  refine lv_iconst (v := jI 3) hx hb dL_law_181 rfl ?_
  refine rm_iadd hx hb dL_law_182 ?_
  refine s_ld hx hb hX hbl hbA hS hL (5 * j + 3) (by omega) (by omega) hz3 dL_law_183 ?_
  refine lv_aload_n hx hb dL_law_184 rfl (lv_at hl 0 rfl) ?_
  refine lv_iload hx hb dL_law_185 (lv_at hl 4 rfl) ?_
  refine lv_iconst (v := jI 4) hx hb dL_law_187 rfl ?_
  refine rm_iadd hx hb dL_law_188 ?_
  refine s_ld hx hb hX hbl hbA hS hL (5 * j + 4) (by omega) (by omega) hz4 dL_law_189 ?_
  refine lv_aload_n hx hb dL_law_190 rfl (lv_at hl 3 rfl) ?_
  have hrz : ∀ z c1, p5_path ty ad (cutC ct) yc hc yn yM yu hy hg hf z1 z2 z3 z4 z c1 → r32 z := rz_path hj5 hI
  refine yc_i (vx_runSX (As := [.ref (ad 0), .int (jI z1), .int (jI z2), .int (jI z3), .int (jI z4), .ref (ad 2000)]) (rest := []) ⟨hx, hb, hml, hown, hts⟩ (c_L_path l D ty ad ct H.size _ o z1 z2 z3 z4 (post := p5_path ty ad (cutC ct) yc hc yn yM yu hy hg hf z1 z2 z3 z4) (px := x5_path ty ad (cutC ct) yc hc yn yM yu hy hg hf z1 z2 z3 z4) hCl.2.1.1 ho (c_X5_path l hlf D ty ad (cutC ct) H.size yc hc yn yM (ydg yn yM) yu hy hg hf hCc (iv_n hI) (iv_M hI) (iv_d hI) ((fun y _ => hI.2.2.1 y)) z1 z2 z3 z4 r1 r2 r3 r4) hrz (fun E c1 h => h.1)) (vx_cwSW 6 hts gL_law_L_path rfl rfl rfl (by decide +kernel) ⟨Nat.le_of_ble_eq_true rfl, Nat.le_of_ble_eq_true rfl⟩) (rm_preSY hK hNw hE hX2 hU hW hS hA) rfl rfl hl.1 rfl (lv_room (Nat.le_of_ble_eq_true rfl)) dL_law_191 ⟨by show 60 + 20 * j + 3 ≤ 601024; omega, by show 1300 + 200 * j + 18 ≤ 7293034; omega⟩) hW hS hA (fun k ct1 H locs hq1 hW hS => ?_)
  refine lv_istore (lv' := [(5, .int (jI k)), (0, .ref b), (1, .ref (ad 0)), (2, .ref (ad 1000)), (3, .ref (ad 2000)), (4, .int (jI (5 * (j : Int))))]) hx hb dL_law_194 hl (by decide) rfl (fun ls hl => ?_)
  have hk1 : ∀ q, 1000 ≤ q → q ≤ 1016 → ct1 q = ct q := by
    rcases hq1 with ⟨-, z, c1, -, -, hgl⟩ | ⟨-, c1, -, hgl⟩
    · exact fun q h h2 => (hgl q (by omega)).trans (glue_hi h)
    · exact fun q h h2 => (hgl q).trans (glue_hi h)
  obtain ⟨mA, pt, ro, ke, kt, mu, sl, tw, bw, de, hMo⟩ := hMx.hi (ad2 := ad) hk1 (fun r hr => rfl)
  refine lv_aload_n hx hb dL_law_196 rfl (lv_at hl 3 rfl) ?_
  refine lv_aload_n hx hb dL_law_197 rfl (lv_at hl 1 rfl) ?_
  refine lv_iload hx hb dL_law_198 (lv_at hl 5 rfl) ?_
  refine lv_iconst (v := jI 1) hx hb dL_law_200 rfl ?_
  refine rm_iadd hx hb dL_law_201 ?_
  refine s_ld hx hb hX hbl hbA hS hL (5 * j + 1) (by omega) (by omega) hz1 dL_law_202 ?_
  refine lv_aload_n hx hb dL_law_203 rfl (lv_at hl 1 rfl) ?_
  refine lv_iload hx hb dL_law_204 (lv_at hl 5 rfl) ?_
  refine lv_iconst (v := jI 2) hx hb dL_law_206 rfl ?_
  refine rm_iadd hx hb dL_law_207 ?_
  refine s_ld hx hb hX hbl hbA hS hL (5 * j + 2) (by omega) (by omega) hz2 dL_law_208 ?_
  refine lv_aload_n hx hb dL_law_209 rfl (lv_at hl 1 rfl) ?_
  refine lv_iload hx hb dL_law_210 (lv_at hl 5 rfl) ?_
  refine lv_iconst (v := jI 3) hx hb dL_law_212 rfl ?_
  refine rm_iadd hx hb dL_law_213 ?_
  refine s_ld hx hb hX hbl hbA hS hL (5 * j + 3) (by omega) (by omega) hz3 dL_law_214 ?_
  refine lv_aload_n hx hb dL_law_215 rfl (lv_at hl 1 rfl) ?_
  refine lv_iload hx hb dL_law_216 (lv_at hl 5 rfl) ?_
  refine lv_iconst (v := jI 4) hx hb dL_law_218 rfl ?_
  refine rm_iadd hx hb dL_law_219 ?_
  refine s_ld hx hb hX hbl hbA hS hL (5 * j + 4) (by omega) (by omega) hz4 dL_law_220 ?_
  refine rm_calli (va_runV (As := [.int (jI z1), .int (jI z2), .int (jI z3), .int (jI z4)]) (rest := []) ⟨hx, hb, hml, hown, hts⟩ (c_X6_path l D ty ad ct1 H.size th yc hc yn yM yu hy hg hf mA pt ro ke kt mu sl tw bw de hMo (hI.1) (iv_n hI) (iv_M hI) ((fun y _ => hI.2.2.1 y)) z1 z2 z3 z4 r1 r2 r3 r4) (cwV 4 hts gL_law_X6_path rfl rfl rfl (by decide +kernel) ⟨Nat.le_of_ble_eq_true rfl, Nat.le_of_ble_eq_true rfl⟩) (rm_preV hK hNw hW hMo.1 rfl) rfl rfl hl.1 rfl (lv_room (Nat.le_of_ble_eq_true rfl)) dL_law_221 ⟨by show 60 + 20 * j + 3 + 0 ≤ 601024; omega, by show 1300 + 200 * j + 18 + 0 ≤ 7293034; omega⟩) hW hS hA (fun b9 ct2 H locs hq2 hW hS => ?_)
  have hEnd := ag_path hj5 hI hCl ho hrz hq1 hq2
  obtain ⟨o2, hG2, hk3, hb2⟩ := hEnd
  refine lv_istore (lv' := [(6, .int (jI b9)), (5, .int (jI k)), (0, .ref b), (1, .ref (ad 0)), (2, .ref (ad 1000)), (3, .ref (ad 2000)), (4, .int (jI (5 * (j : Int))))]) hx hb dL_law_224 hl (by decide) rfl (fun ls hl => ?_)
  have hrk : r32 k := by
    rcases hk3 with h | h | h <;> rw [h] <;> exact ⟨by omega, by omega⟩
  obtain ⟨⟨yc2, hc2, yn2, yM2, yu2, hy2, hg2, hf2, hCl2, hMx2, hI2⟩, ho2⟩ := id hG2
  obtain ⟨mA2, pt2, ro2, ke2, kt2, mu2, sl2, tw2, bw2, de2, hMo2⟩ := hMx2
  refine lv_aload_n hx hb dL_law_226 rfl (lv_at hl 4 rfl) ?_
  refine rm_calli (va_runV (As := []) (rest := []) ⟨hx, hb, hml, hown, hts⟩ (c_X6_thrown l D ty ad ct2 H.size k yc2 hc2 yn2 yM2 yu2 hy2 hg2 hf2 mA2 pt2 ro2 ke2 kt2 mu2 sl2 tw2 bw2 de2 hMo2 hrk) (cwV 0 hts gL_law_X6_thrown rfl rfl rfl (by decide +kernel) ⟨Nat.le_of_ble_eq_true rfl, Nat.le_of_ble_eq_true rfl⟩) (rm_preV hK hNw hW hMo2.1 rfl) rfl rfl hl.1 rfl (lv_room (Nat.le_of_ble_eq_true rfl)) dL_law_227 ⟨by show 60 + 20 * j + 3 + 0 + 0 ≤ 601024; omega, by show 1300 + 200 * j + 18 + 0 + 0 ≤ 7293034; omega⟩) hW hS hA (fun t9 ct3 H locs hq3 hW hS => ?_)
  obtain ⟨ht9, hc3⟩ := hq3
  rw [ht9]
  rw [hc3] at hW
  refine lv_iload hx hb dL_law_230 (lv_at hl 1 rfl) ?_
  refine rm_icmp_eq (tgt := 237) hx hb hrk hrk dL_law_232 (by decide) (fun _ => ?_) (fun hq => absurd rfl hq)
  refine lv_iload hx hb dL_law_237 (lv_at hl 1 rfl) ?_
  refine rm_if_ne (tgt := 254) hx hb hrk dL_law_239 (by decide) (fun hk0 => ?_) (fun hk0 => ?_)
  · skip
    refine lv_goto (tgt := 1608) hx hb dL_law_254 (by decide) ?_
    exact law_tail hC hn (by omega) (by omega) hG2 hW hS (lv_sub hl [2, 3, 4, 5, 6] rfl)
  · obtain ⟨hb3, hR⟩ := hb2 hk0
    refine lv_aload_n hx hb dL_law_242 rfl (lv_at hl 5 rfl) ?_
    refine lv_iconst (v := jI 0) hx hb dL_law_243 rfl ?_
    refine rm_lald hx hb hK hW (f := o2) ho2 0 rfl (by omega) (by omega) dL_law_244 ?_
    rw [hb3]
    refine lv_iload hx hb dL_law_245 (lv_at hl 0 rfl) ?_
    refine rm_i2l hx hb dL_law_247 hR ?_
    refine lcmp_same hx hb dL_law_248 ?_
    refine rm_if_eq (tgt := 254) hx hb r32_0 dL_law_249 (by decide) (fun _ => ?_) (fun hq => absurd rfl hq)
    refine lv_goto (tgt := 1608) hx hb dL_law_254 (by decide) ?_
    exact law_tail hC hn (by omega) (by omega) hG2 hW hS (lv_sub hl [2, 3, 4, 5, 6] rfl)
set_option maxHeartbeats 4000000 in
set_option maxRecDepth 100000 in
theorem law_c2 {p : Program} {l : Launch} {e : Env} {s : State} {m : MethodId} {below : List Frame} {meth : Method} {c : Code} {b L : Nat} {xs : Nat → Int32} {D : va_G} {ty : Nat → ClassId} (hC : LC p l s m meth c b L xs D ty) {j : Nat} (hj : 5 * j + 5 ≤ L) (hL : L ≤ 2560) (hn : LawK p l e s m below meth c b D ty (j + 1)) {ad : Nat → Nat} {ct : rm_C} {th : Int} {o : Nat → Int} {H : Heap} {locs : List Loc} {ls : Array Slot} (hG : lwGo ty ad ct j th o) (hW : rm_W D ad ct (lwA s) H) (hS : va_S (lwA s) s.heap H locs) (hl : lv_has ls 8 [(0, .ref b), (1, .ref (ad 0)), (2, .ref (ad 1000)), (3, .ref (ad 2000)), (4, .int (jI (5 * (j : Int))))]) : W p l e room_1 s m #[Value.ref b] below meth c H locs (60 + 20 * j) (1300 + 200 * j) (lw_Z below #[Value.ref b] s) (F0 m 257 ls []) := by
  obtain ⟨⟨hx, hb, hr, hml, hown0, htb, hX, hbl, hlocks, hgv⟩, hlf, hK, hNw, hE, hX2, hU⟩ := id hC
  have hb : c.code = cL_law := hb
  have hts : ∀ w ∈ wsL_law, w.before #[Value.ref b] s = true := fun w hw => htb w (wsL_law_in w hw)
  have hown : s.vm.findClass RL = some m.cls := hown0
  have hA : ∀ q : Nat, s.heap.size ≤ q → lwA s q := fun _ h => h
  have hbA : ¬ lwA s b := Nat.not_le.mpr hbl
  have hj5 : j ≤ 512 := by omega
  obtain ⟨⟨yc, hc, yn, yM, yu, hy, hg, hf, hCl, hMx, hI⟩, ho⟩ := hG
  have hCc : ClsAt ty ad (cutC ct) yc hc yn yM (ydg yn yM) yu hy hg hf := hCl.lo (fun q hq => cutC_lo hq)
  obtain ⟨z1, hz1⟩ : ∃ z, (xs (5 * j + 1)).toInt = z := ⟨_, rfl⟩
  have r1 : r32 z1 := by rw [← hz1]; exact jI_rng _
  obtain ⟨z2, hz2⟩ : ∃ z, (xs (5 * j + 2)).toInt = z := ⟨_, rfl⟩
  have r2 : r32 z2 := by rw [← hz2]; exact jI_rng _
  refine lv_aload_n hx hb dL_law_257 rfl (lv_at hl 1 rfl) ?_
  refine lv_aload_n hx hb dL_law_258 rfl (lv_at hl 0 rfl) ?_
  refine lv_iload hx hb dL_law_259 (lv_at hl 4 rfl) ?_
  refine lv_iconst (v := jI 1) hx hb dL_law_261 rfl ?_
  refine rm_iadd hx hb dL_law_262 ?_
  refine s_ld hx hb hX hbl hbA hS hL (5 * j + 1) (by omega) (by omega) hz1 dL_law_263 ?_
  refine lv_aload_n hx hb dL_law_264 rfl (lv_at hl 0 rfl) ?_
  refine lv_iload hx hb dL_law_265 (lv_at hl 4 rfl) ?_
  refine lv_iconst (v := jI 2) hx hb dL_law_267 rfl ?_
  refine rm_iadd hx hb dL_law_268 ?_
  refine s_ld hx hb hX hbl hbA hS hL (5 * j + 2) (by omega) (by omega) hz2 dL_law_269 ?_
  refine lv_aload_n hx hb dL_law_270 rfl (lv_at hl 3 rfl) ?_
  have hrz : ∀ z c1, p5_degree ty ad (cutC ct) yc hc yn yM yu hy hg hf z1 z2 z c1 → r32 z := rz_degree hj5 hI
  refine yc_i (vx_runSX (As := [.ref (ad 0), .int (jI z1), .int (jI z2), .ref (ad 2000)]) (rest := []) ⟨hx, hb, hml, hown, hts⟩ (c_L_degree l D ty ad ct H.size _ o z1 z2 (post := p5_degree ty ad (cutC ct) yc hc yn yM yu hy hg hf z1 z2) (px := x5_degree ty ad (cutC ct) yc hc yn yM yu hy hg hf z1 z2) hCl.2.1.1 ho (c_X5_degree l hlf D ty ad (cutC ct) H.size yc hc yn yM (ydg yn yM) yu hy hg hf hCc (iv_n hI) z1 z2 r1 r2) hrz (fun E c1 h => h.1)) (vx_cwSW 4 hts gL_law_L_degree rfl rfl rfl (by decide +kernel) ⟨Nat.le_of_ble_eq_true rfl, Nat.le_of_ble_eq_true rfl⟩) (rm_preSY hK hNw hE hX2 hU hW hS hA) rfl rfl hl.1 rfl (lv_room (Nat.le_of_ble_eq_true rfl)) dL_law_271 ⟨by show 60 + 20 * j + 2 ≤ 601024; omega, by show 1300 + 200 * j + 12 ≤ 7293034; omega⟩) hW hS hA (fun k ct1 H locs hq1 hW hS => ?_)
  refine lv_istore (lv' := [(5, .int (jI k)), (0, .ref b), (1, .ref (ad 0)), (2, .ref (ad 1000)), (3, .ref (ad 2000)), (4, .int (jI (5 * (j : Int))))]) hx hb dL_law_274 hl (by decide) rfl (fun ls hl => ?_)
  have hk1 : ∀ q, 1000 ≤ q → q ≤ 1016 → ct1 q = ct q := by
    rcases hq1 with ⟨-, z, c1, -, -, hgl⟩ | ⟨-, c1, -, hgl⟩
    · exact fun q h h2 => (hgl q (by omega)).trans (glue_hi h)
    · exact fun q h h2 => (hgl q).trans (glue_hi h)
  obtain ⟨mA, pt, ro, ke, kt, mu, sl, tw, bw, de, hMo⟩ := hMx.hi (ad2 := ad) hk1 (fun r hr => rfl)
  refine lv_aload_n hx hb dL_law_276 rfl (lv_at hl 3 rfl) ?_
  refine lv_aload_n hx hb dL_law_277 rfl (lv_at hl 1 rfl) ?_
  refine lv_iload hx hb dL_law_278 (lv_at hl 5 rfl) ?_
  refine lv_iconst (v := jI 1) hx hb dL_law_280 rfl ?_
  refine rm_iadd hx hb dL_law_281 ?_
  refine s_ld hx hb hX hbl hbA hS hL (5 * j + 1) (by omega) (by omega) hz1 dL_law_282 ?_
  refine lv_aload_n hx hb dL_law_283 rfl (lv_at hl 1 rfl) ?_
  refine lv_iload hx hb dL_law_284 (lv_at hl 5 rfl) ?_
  refine lv_iconst (v := jI 2) hx hb dL_law_286 rfl ?_
  refine rm_iadd hx hb dL_law_287 ?_
  refine s_ld hx hb hX hbl hbA hS hL (5 * j + 2) (by omega) (by omega) hz2 dL_law_288 ?_
  refine rm_calli (va_runV (As := [.int (jI z1), .int (jI z2)]) (rest := []) ⟨hx, hb, hml, hown, hts⟩ (c_X6_degree l D ty ad ct1 H.size th yc hc yn yM yu hy hg hf mA pt ro ke kt mu sl tw bw de hMo (hI.1) (iv_n hI) (iv_M hI) z1 z2 r1 r2) (cwV 2 hts gL_law_X6_degree rfl rfl rfl (by decide +kernel) ⟨Nat.le_of_ble_eq_true rfl, Nat.le_of_ble_eq_true rfl⟩) (rm_preV hK hNw hW hMo.1 rfl) rfl rfl hl.1 rfl (lv_room (Nat.le_of_ble_eq_true rfl)) dL_law_289 ⟨by show 60 + 20 * j + 2 + 0 ≤ 601024; omega, by show 1300 + 200 * j + 12 + 0 ≤ 7293034; omega⟩) hW hS hA (fun b9 ct2 H locs hq2 hW hS => ?_)
  have hEnd := ag_degree hj5 hI hCl ho hrz hq1 hq2
  obtain ⟨o2, hG2, hk3, hb2⟩ := hEnd
  refine lv_istore (lv' := [(6, .int (jI b9)), (5, .int (jI k)), (0, .ref b), (1, .ref (ad 0)), (2, .ref (ad 1000)), (3, .ref (ad 2000)), (4, .int (jI (5 * (j : Int))))]) hx hb dL_law_292 hl (by decide) rfl (fun ls hl => ?_)
  have hrk : r32 k := by
    rcases hk3 with h | h | h <;> rw [h] <;> exact ⟨by omega, by omega⟩
  obtain ⟨⟨yc2, hc2, yn2, yM2, yu2, hy2, hg2, hf2, hCl2, hMx2, hI2⟩, ho2⟩ := id hG2
  obtain ⟨mA2, pt2, ro2, ke2, kt2, mu2, sl2, tw2, bw2, de2, hMo2⟩ := hMx2
  refine lv_aload_n hx hb dL_law_294 rfl (lv_at hl 4 rfl) ?_
  refine rm_calli (va_runV (As := []) (rest := []) ⟨hx, hb, hml, hown, hts⟩ (c_X6_thrown l D ty ad ct2 H.size k yc2 hc2 yn2 yM2 yu2 hy2 hg2 hf2 mA2 pt2 ro2 ke2 kt2 mu2 sl2 tw2 bw2 de2 hMo2 hrk) (cwV 0 hts gL_law_X6_thrown rfl rfl rfl (by decide +kernel) ⟨Nat.le_of_ble_eq_true rfl, Nat.le_of_ble_eq_true rfl⟩) (rm_preV hK hNw hW hMo2.1 rfl) rfl rfl hl.1 rfl (lv_room (Nat.le_of_ble_eq_true rfl)) dL_law_295 ⟨by show 60 + 20 * j + 2 + 0 + 0 ≤ 601024; omega, by show 1300 + 200 * j + 12 + 0 + 0 ≤ 7293034; omega⟩) hW hS hA (fun t9 ct3 H locs hq3 hW hS => ?_)
  obtain ⟨ht9, hc3⟩ := hq3
  rw [ht9]
  rw [hc3] at hW
  refine lv_iload hx hb dL_law_298 (lv_at hl 1 rfl) ?_
  refine rm_icmp_eq (tgt := 305) hx hb hrk hrk dL_law_300 (by decide) (fun _ => ?_) (fun hq => absurd rfl hq)
  refine lv_iload hx hb dL_law_305 (lv_at hl 1 rfl) ?_
  refine rm_if_ne (tgt := 322) hx hb hrk dL_law_307 (by decide) (fun hk0 => ?_) (fun hk0 => ?_)
  · skip
    refine lv_goto (tgt := 1608) hx hb dL_law_322 (by decide) ?_
    exact law_tail hC hn (by omega) (by omega) hG2 hW hS (lv_sub hl [2, 3, 4, 5, 6] rfl)
  · obtain ⟨hb3, hR⟩ := hb2 hk0
    refine lv_aload_n hx hb dL_law_310 rfl (lv_at hl 5 rfl) ?_
    refine lv_iconst (v := jI 0) hx hb dL_law_311 rfl ?_
    refine rm_lald hx hb hK hW (f := o2) ho2 0 rfl (by omega) (by omega) dL_law_312 ?_
    rw [hb3]
    refine lv_iload hx hb dL_law_313 (lv_at hl 0 rfl) ?_
    refine rm_i2l hx hb dL_law_315 hR ?_
    refine lcmp_same hx hb dL_law_316 ?_
    refine rm_if_eq (tgt := 322) hx hb r32_0 dL_law_317 (by decide) (fun _ => ?_) (fun hq => absurd rfl hq)
    refine lv_goto (tgt := 1608) hx hb dL_law_322 (by decide) ?_
    exact law_tail hC hn (by omega) (by omega) hG2 hW hS (lv_sub hl [2, 3, 4, 5, 6] rfl)
set_option maxHeartbeats 4000000 in
set_option maxRecDepth 100000 in
theorem law_c3 {p : Program} {l : Launch} {e : Env} {s : State} {m : MethodId} {below : List Frame} {meth : Method} {c : Code} {b L : Nat} {xs : Nat → Int32} {D : va_G} {ty : Nat → ClassId} (hC : LC p l s m meth c b L xs D ty) {j : Nat} (hj : 5 * j + 5 ≤ L) (hL : L ≤ 2560) (hn : LawK p l e s m below meth c b D ty (j + 1)) {ad : Nat → Nat} {ct : rm_C} {th : Int} {o : Nat → Int} {H : Heap} {locs : List Loc} {ls : Array Slot} (hG : lwGo ty ad ct j th o) (hW : rm_W D ad ct (lwA s) H) (hS : va_S (lwA s) s.heap H locs) (hl : lv_has ls 8 [(0, .ref b), (1, .ref (ad 0)), (2, .ref (ad 1000)), (3, .ref (ad 2000)), (4, .int (jI (5 * (j : Int))))]) : W p l e room_1 s m #[Value.ref b] below meth c H locs (60 + 20 * j) (1300 + 200 * j) (lw_Z below #[Value.ref b] s) (F0 m 325 ls []) := by
  obtain ⟨⟨hx, hb, hr, hml, hown0, htb, hX, hbl, hlocks, hgv⟩, hlf, hK, hNw, hE, hX2, hU⟩ := id hC
  have hb : c.code = cL_law := hb
  have hts : ∀ w ∈ wsL_law, w.before #[Value.ref b] s = true := fun w hw => htb w (wsL_law_in w hw)
  have hown : s.vm.findClass RL = some m.cls := hown0
  have hA : ∀ q : Nat, s.heap.size ≤ q → lwA s q := fun _ h => h
  have hbA : ¬ lwA s b := Nat.not_le.mpr hbl
  have hj5 : j ≤ 512 := by omega
  obtain ⟨⟨yc, hc, yn, yM, yu, hy, hg, hf, hCl, hMx, hI⟩, ho⟩ := hG
  have hCc : ClsAt ty ad (cutC ct) yc hc yn yM (ydg yn yM) yu hy hg hf := hCl.lo (fun q hq => cutC_lo hq)
  obtain ⟨z1, hz1⟩ : ∃ z, (xs (5 * j + 1)).toInt = z := ⟨_, rfl⟩
  have r1 : r32 z1 := by rw [← hz1]; exact jI_rng _
  refine lv_aload_n hx hb dL_law_325 rfl (lv_at hl 1 rfl) ?_
  refine lv_aload_n hx hb dL_law_326 rfl (lv_at hl 0 rfl) ?_
  refine lv_iload hx hb dL_law_327 (lv_at hl 4 rfl) ?_
  refine lv_iconst (v := jI 1) hx hb dL_law_329 rfl ?_
  refine rm_iadd hx hb dL_law_330 ?_
  refine s_ld hx hb hX hbl hbA hS hL (5 * j + 1) (by omega) (by omega) hz1 dL_law_331 ?_
  refine lv_aload_n hx hb dL_law_332 rfl (lv_at hl 3 rfl) ?_
  have hrz : ∀ z c1, p5_whole ty ad (cutC ct) yc hc yn yM yu hy hg hf z1 z c1 → (fun z => z = 0 ∨ z = 1) z := rz_whole hj5 hI
  refine yc_i (vx_runSX (As := [.ref (ad 0), .int (jI z1), .ref (ad 2000)]) (rest := []) ⟨hx, hb, hml, hown, hts⟩ (c_L_whole l D ty ad ct H.size _ o z1 (post := p5_whole ty ad (cutC ct) yc hc yn yM yu hy hg hf z1) (px := x5_whole ty ad (cutC ct) yc hc yn yM yu hy hg hf z1) hCl.2.1.1 ho (c_X5_whole l hlf D ty ad (cutC ct) H.size yc hc yn yM (ydg yn yM) yu hy hg hf hCc (iv_n hI) (iv_M hI) (iv_d hI) z1 r1) hrz (fun E c1 h => h.1)) (vx_cwSW 3 hts gL_law_L_whole rfl rfl rfl (by decide +kernel) ⟨Nat.le_of_ble_eq_true rfl, Nat.le_of_ble_eq_true rfl⟩) (rm_preSY hK hNw hE hX2 hU hW hS hA) rfl rfl hl.1 rfl (lv_room (Nat.le_of_ble_eq_true rfl)) dL_law_333 ⟨by show 60 + 20 * j + 1 ≤ 601024; omega, by show 1300 + 200 * j + 6 ≤ 7293034; omega⟩) hW hS hA (fun k ct1 H locs hq1 hW hS => ?_)
  refine lv_istore (lv' := [(5, .int (jI k)), (0, .ref b), (1, .ref (ad 0)), (2, .ref (ad 1000)), (3, .ref (ad 2000)), (4, .int (jI (5 * (j : Int))))]) hx hb dL_law_336 hl (by decide) rfl (fun ls hl => ?_)
  have hk1 : ∀ q, 1000 ≤ q → q ≤ 1016 → ct1 q = ct q := by
    rcases hq1 with ⟨-, z, c1, -, -, hgl⟩ | ⟨-, c1, -, hgl⟩
    · exact fun q h h2 => (hgl q (by omega)).trans (glue_hi h)
    · exact fun q h h2 => (hgl q).trans (glue_hi h)
  obtain ⟨mA, pt, ro, ke, kt, mu, sl, tw, bw, de, hMo⟩ := hMx.hi (ad2 := ad) hk1 (fun r hr => rfl)
  refine lv_aload_n hx hb dL_law_338 rfl (lv_at hl 3 rfl) ?_
  refine lv_aload_n hx hb dL_law_339 rfl (lv_at hl 1 rfl) ?_
  refine lv_iload hx hb dL_law_340 (lv_at hl 5 rfl) ?_
  refine lv_iconst (v := jI 1) hx hb dL_law_342 rfl ?_
  refine rm_iadd hx hb dL_law_343 ?_
  refine s_ld hx hb hX hbl hbA hS hL (5 * j + 1) (by omega) (by omega) hz1 dL_law_344 ?_
  refine rm_calli (va_runV (As := [.int (jI z1)]) (rest := []) ⟨hx, hb, hml, hown, hts⟩ (c_X6_whole l D ty ad ct1 H.size th yc hc yn yM yu hy hg hf mA pt ro ke kt mu sl tw bw de hMo (hI.1) (iv_n hI) (iv_M hI) z1 r1) (cwV 1 hts gL_law_X6_whole rfl rfl rfl (by decide +kernel) ⟨Nat.le_of_ble_eq_true rfl, Nat.le_of_ble_eq_true rfl⟩) (rm_preV hK hNw hW hMo.1 rfl) rfl rfl hl.1 rfl (lv_room (Nat.le_of_ble_eq_true rfl)) dL_law_345 ⟨by show 60 + 20 * j + 1 + 0 ≤ 601024; omega, by show 1300 + 200 * j + 6 + 0 ≤ 7293034; omega⟩) hW hS hA (fun b9 ct2 H locs hq2 hW hS => ?_)
  have hEnd := ag_whole hj5 hI hCl ho hrz hq1 hq2
  obtain ⟨o2, hG2, hk3, hb2⟩ := hEnd
  refine lv_istore (lv' := [(6, .int (jI b9)), (5, .int (jI k)), (0, .ref b), (1, .ref (ad 0)), (2, .ref (ad 1000)), (3, .ref (ad 2000)), (4, .int (jI (5 * (j : Int))))]) hx hb dL_law_348 hl (by decide) rfl (fun ls hl => ?_)
  have hrk : r32 k := by
    rcases hk3 with h | h | h <;> rw [h] <;> exact ⟨by omega, by omega⟩
  obtain ⟨⟨yc2, hc2, yn2, yM2, yu2, hy2, hg2, hf2, hCl2, hMx2, hI2⟩, ho2⟩ := id hG2
  obtain ⟨mA2, pt2, ro2, ke2, kt2, mu2, sl2, tw2, bw2, de2, hMo2⟩ := hMx2
  refine lv_aload_n hx hb dL_law_350 rfl (lv_at hl 4 rfl) ?_
  refine rm_calli (va_runV (As := []) (rest := []) ⟨hx, hb, hml, hown, hts⟩ (c_X6_thrown l D ty ad ct2 H.size k yc2 hc2 yn2 yM2 yu2 hy2 hg2 hf2 mA2 pt2 ro2 ke2 kt2 mu2 sl2 tw2 bw2 de2 hMo2 hrk) (cwV 0 hts gL_law_X6_thrown rfl rfl rfl (by decide +kernel) ⟨Nat.le_of_ble_eq_true rfl, Nat.le_of_ble_eq_true rfl⟩) (rm_preV hK hNw hW hMo2.1 rfl) rfl rfl hl.1 rfl (lv_room (Nat.le_of_ble_eq_true rfl)) dL_law_351 ⟨by show 60 + 20 * j + 1 + 0 + 0 ≤ 601024; omega, by show 1300 + 200 * j + 6 + 0 + 0 ≤ 7293034; omega⟩) hW hS hA (fun t9 ct3 H locs hq3 hW hS => ?_)
  obtain ⟨ht9, hc3⟩ := hq3
  rw [ht9]
  rw [hc3] at hW
  refine lv_iload hx hb dL_law_354 (lv_at hl 1 rfl) ?_
  refine rm_icmp_eq (tgt := 361) hx hb hrk hrk dL_law_356 (by decide) (fun _ => ?_) (fun hq => absurd rfl hq)
  refine lv_iload hx hb dL_law_361 (lv_at hl 1 rfl) ?_
  refine rm_if_ne (tgt := 385) hx hb hrk dL_law_363 (by decide) (fun hk0 => ?_) (fun hk0 => ?_)
  · skip
    refine lv_goto (tgt := 1608) hx hb dL_law_385 (by decide) ?_
    exact law_tail hC hn (by omega) (by omega) hG2 hW hS (lv_sub hl [2, 3, 4, 5, 6] rfl)
  · obtain ⟨hb3, hR⟩ := hb2 hk0
    refine lv_aload_n hx hb dL_law_366 rfl (lv_at hl 5 rfl) ?_
    refine lv_iconst (v := jI 0) hx hb dL_law_367 rfl ?_
    refine rm_lald hx hb hK hW (f := o2) ho2 0 rfl (by omega) (by omega) dL_law_368 ?_
    rw [hb3]
    refine lv_iload hx hb dL_law_369 (lv_at hl 0 rfl) ?_
    rcases hR with hR | hR
    · rw [hR]
      refine rm_if_eq (tgt := 378) hx hb r32_0 dL_law_371 (by decide) (fun _ => ?_) (fun hq => absurd rfl hq)
      refine lv_lconst (v := jL 0) hx hb dL_law_378 rfl ?_
      refine lcmp_same hx hb dL_law_379 ?_
      refine rm_if_eq (tgt := 385) hx hb r32_0 dL_law_380 (by decide) (fun _ => ?_) (fun hq => absurd rfl hq)
      refine lv_goto (tgt := 1608) hx hb dL_law_385 (by decide) ?_
      exact law_tail hC hn (by omega) (by omega) hG2 hW hS (lv_sub hl [2, 3, 4, 5, 6] rfl)
    · rw [hR]
      refine rm_if_eq (tgt := 378) hx hb ⟨by omega, by omega⟩ dL_law_371 (by decide) (fun hq => absurd hq (by decide)) (fun _ => ?_)
      refine lv_lconst (v := jL 1) hx hb dL_law_374 rfl ?_
      refine lv_goto (tgt := 379) hx hb dL_law_375 (by decide) ?_
      refine lcmp_same hx hb dL_law_379 ?_
      refine rm_if_eq (tgt := 385) hx hb r32_0 dL_law_380 (by decide) (fun _ => ?_) (fun hq => absurd rfl hq)
      refine lv_goto (tgt := 1608) hx hb dL_law_385 (by decide) ?_
      exact law_tail hC hn (by omega) (by omega) hG2 hW hS (lv_sub hl [2, 3, 4, 5, 6] rfl)
set_option maxHeartbeats 4000000 in
set_option maxRecDepth 100000 in
theorem law_c4 {p : Program} {l : Launch} {e : Env} {s : State} {m : MethodId} {below : List Frame} {meth : Method} {c : Code} {b L : Nat} {xs : Nat → Int32} {D : va_G} {ty : Nat → ClassId} (hC : LC p l s m meth c b L xs D ty) {j : Nat} (hj : 5 * j + 5 ≤ L) (hL : L ≤ 2560) (hn : LawK p l e s m below meth c b D ty (j + 1)) {ad : Nat → Nat} {ct : rm_C} {th : Int} {o : Nat → Int} {H : Heap} {locs : List Loc} {ls : Array Slot} (hG : lwGo ty ad ct j th o) (hW : rm_W D ad ct (lwA s) H) (hS : va_S (lwA s) s.heap H locs) (hl : lv_has ls 8 [(0, .ref b), (1, .ref (ad 0)), (2, .ref (ad 1000)), (3, .ref (ad 2000)), (4, .int (jI (5 * (j : Int))))]) : W p l e room_1 s m #[Value.ref b] below meth c H locs (60 + 20 * j) (1300 + 200 * j) (lw_Z below #[Value.ref b] s) (F0 m 388 ls []) := by
  obtain ⟨⟨hx, hb, hr, hml, hown0, htb, hX, hbl, hlocks, hgv⟩, hlf, hK, hNw, hE, hX2, hU⟩ := id hC
  have hb : c.code = cL_law := hb
  have hts : ∀ w ∈ wsL_law, w.before #[Value.ref b] s = true := fun w hw => htb w (wsL_law_in w hw)
  have hown : s.vm.findClass RL = some m.cls := hown0
  have hA : ∀ q : Nat, s.heap.size ≤ q → lwA s q := fun _ h => h
  have hbA : ¬ lwA s b := Nat.not_le.mpr hbl
  have hj5 : j ≤ 512 := by omega
  obtain ⟨⟨yc, hc, yn, yM, yu, hy, hg, hf, hCl, hMx, hI⟩, ho⟩ := hG
  have hCc : ClsAt ty ad (cutC ct) yc hc yn yM (ydg yn yM) yu hy hg hf := hCl.lo (fun q hq => cutC_lo hq)
  obtain ⟨z1, hz1⟩ : ∃ z, (xs (5 * j + 1)).toInt = z := ⟨_, rfl⟩
  have r1 : r32 z1 := by rw [← hz1]; exact jI_rng _
  refine lv_aload_n hx hb dL_law_388 rfl (lv_at hl 1 rfl) ?_
  refine lv_aload_n hx hb dL_law_389 rfl (lv_at hl 0 rfl) ?_
  refine lv_iload hx hb dL_law_390 (lv_at hl 4 rfl) ?_
  refine lv_iconst (v := jI 1) hx hb dL_law_392 rfl ?_
  refine rm_iadd hx hb dL_law_393 ?_
  refine s_ld hx hb hX hbl hbA hS hL (5 * j + 1) (by omega) (by omega) hz1 dL_law_394 ?_
  refine lv_aload_n hx hb dL_law_395 rfl (lv_at hl 3 rfl) ?_
  refine yc_i (vx_runSX (As := [.ref (ad 0), .int (jI z1), .ref (ad 2000)]) (rest := []) ⟨hx, hb, hml, hown, hts⟩ (c_L_trees l D ty ad ct H.size _ o z1 (post := p5_trees ty ad (cutC ct) yc hc yn yM yu hy hg hf z1) (px := x5_trees ty ad (cutC ct) yc hc yn yM yu hy hg hf z1) hCl.2.1.1 ho (c_X5_trees l hlf D ty ad (cutC ct) H.size yc hc yn yM (ydg yn yM) yu hy hg hf hCc (iv_n hI) (iv_M hI) (iv_d hI) (iv_sl hI) z1 r1) (fun E c1 h => h.1)) (vx_cwSW 3 hts gL_law_L_trees rfl rfl rfl (by decide +kernel) ⟨Nat.le_of_ble_eq_true rfl, Nat.le_of_ble_eq_true rfl⟩) (rm_preSY hK hNw hE hX2 hU hW hS hA) rfl rfl hl.1 rfl (lv_room (Nat.le_of_ble_eq_true rfl)) dL_law_396 ⟨by show 60 + 20 * j + 1 ≤ 601024; omega, by show 1300 + 200 * j + 6 ≤ 7293034; omega⟩) hW hS hA (fun k ct1 H locs hq1 hW hS => ?_)
  refine lv_istore (lv' := [(5, .int (jI k)), (0, .ref b), (1, .ref (ad 0)), (2, .ref (ad 1000)), (3, .ref (ad 2000)), (4, .int (jI (5 * (j : Int))))]) hx hb dL_law_399 hl (by decide) rfl (fun ls hl => ?_)
  have hk1 : ∀ q, 1000 ≤ q → q ≤ 1016 → ct1 q = ct q := by
    rcases hq1 with ⟨-, z, c1, -, -, hgl⟩ | ⟨-, c1, -, hgl⟩
    · exact fun q h h2 => (hgl q (by omega)).trans (glue_hi h)
    · exact fun q h h2 => (hgl q).trans (glue_hi h)
  obtain ⟨mA, pt, ro, ke, kt, mu, sl, tw, bw, de, hMo⟩ := hMx.hi (ad2 := ad) hk1 (fun r hr => rfl)
  refine lv_aload_n hx hb dL_law_401 rfl (lv_at hl 3 rfl) ?_
  refine lv_aload_n hx hb dL_law_402 rfl (lv_at hl 1 rfl) ?_
  refine lv_iload hx hb dL_law_403 (lv_at hl 5 rfl) ?_
  refine lv_iconst (v := jI 1) hx hb dL_law_405 rfl ?_
  refine rm_iadd hx hb dL_law_406 ?_
  refine s_ld hx hb hX hbl hbA hS hL (5 * j + 1) (by omega) (by omega) hz1 dL_law_407 ?_
  refine rm_calll (va_runV (As := [.int (jI z1)]) (rest := []) ⟨hx, hb, hml, hown, hts⟩ (c_X6_trees l D ty ad ct1 H.size th yc hc yn yM yu hy hg hf mA pt ro ke kt mu sl tw bw de hMo (hI.1) (iv_n hI) (iv_M hI) (hI.2.1) z1 r1) (cwV 1 hts gL_law_X6_trees rfl rfl rfl (by decide +kernel) ⟨Nat.le_of_ble_eq_true rfl, Nat.le_of_ble_eq_true rfl⟩) (rm_preV hK hNw hW hMo.1 rfl) rfl rfl hl.1 rfl (lv_room (Nat.le_of_ble_eq_true rfl)) dL_law_408 ⟨by show 60 + 20 * j + 1 + 0 ≤ 601024; omega, by show 1300 + 200 * j + 6 + 0 ≤ 7293034; omega⟩) hW hS hA (fun b9 ct2 H locs hq2 hW hS => ?_)
  have hEnd := ag_trees hj5 hI hCl ho (R := fun _ => True) (fun _ _ _ => trivial) hq1 hq2
  obtain ⟨o2, hG2, hk3, hb2⟩ := hEnd
  refine lv_lstore (lv' := [(6, .long (jL b9)), (5, .int (jI k)), (0, .ref b), (1, .ref (ad 0)), (2, .ref (ad 1000)), (3, .ref (ad 2000)), (4, .int (jI (5 * (j : Int))))]) hx hb dL_law_411 hl (by decide) rfl (fun ls hl => ?_)
  have hrk : r32 k := by
    rcases hk3 with h | h | h <;> rw [h] <;> exact ⟨by omega, by omega⟩
  obtain ⟨⟨yc2, hc2, yn2, yM2, yu2, hy2, hg2, hf2, hCl2, hMx2, hI2⟩, ho2⟩ := id hG2
  obtain ⟨mA2, pt2, ro2, ke2, kt2, mu2, sl2, tw2, bw2, de2, hMo2⟩ := hMx2
  refine lv_aload_n hx hb dL_law_413 rfl (lv_at hl 4 rfl) ?_
  refine rm_calli (va_runV (As := []) (rest := []) ⟨hx, hb, hml, hown, hts⟩ (c_X6_thrown l D ty ad ct2 H.size k yc2 hc2 yn2 yM2 yu2 hy2 hg2 hf2 mA2 pt2 ro2 ke2 kt2 mu2 sl2 tw2 bw2 de2 hMo2 hrk) (cwV 0 hts gL_law_X6_thrown rfl rfl rfl (by decide +kernel) ⟨Nat.le_of_ble_eq_true rfl, Nat.le_of_ble_eq_true rfl⟩) (rm_preV hK hNw hW hMo2.1 rfl) rfl rfl hl.1 rfl (lv_room (Nat.le_of_ble_eq_true rfl)) dL_law_414 ⟨by show 60 + 20 * j + 1 + 0 + 0 ≤ 601024; omega, by show 1300 + 200 * j + 6 + 0 + 0 ≤ 7293034; omega⟩) hW hS hA (fun t9 ct3 H locs hq3 hW hS => ?_)
  obtain ⟨ht9, hc3⟩ := hq3
  rw [ht9]
  rw [hc3] at hW
  refine lv_iload hx hb dL_law_417 (lv_at hl 1 rfl) ?_
  refine rm_icmp_eq (tgt := 424) hx hb hrk hrk dL_law_419 (by decide) (fun _ => ?_) (fun hq => absurd rfl hq)
  refine lv_iload hx hb dL_law_424 (lv_at hl 1 rfl) ?_
  refine rm_if_ne (tgt := 440) hx hb hrk dL_law_426 (by decide) (fun hk0 => ?_) (fun hk0 => ?_)
  · skip
    refine lv_goto (tgt := 1608) hx hb dL_law_440 (by decide) ?_
    exact law_tail hC hn (by omega) (by omega) hG2 hW hS (lv_sub hl [2, 3, 4, 5, 6] rfl)
  · obtain ⟨hb3, hR⟩ := hb2 hk0
    refine lv_aload_n hx hb dL_law_429 rfl (lv_at hl 5 rfl) ?_
    refine lv_iconst (v := jI 0) hx hb dL_law_430 rfl ?_
    refine rm_lald hx hb hK hW (f := o2) ho2 0 rfl (by omega) (by omega) dL_law_431 ?_
    rw [hb3]
    refine lv_lload hx hb dL_law_432 (lv_at hl 0 rfl) ?_
    refine lcmp_same hx hb dL_law_434 ?_
    refine rm_if_eq (tgt := 440) hx hb r32_0 dL_law_435 (by decide) (fun _ => ?_) (fun hq => absurd rfl hq)
    refine lv_goto (tgt := 1608) hx hb dL_law_440 (by decide) ?_
    exact law_tail hC hn (by omega) (by omega) hG2 hW hS (lv_sub hl [2, 3, 4, 5, 6] rfl)
set_option maxHeartbeats 4000000 in
set_option maxRecDepth 100000 in
theorem law_c5 {p : Program} {l : Launch} {e : Env} {s : State} {m : MethodId} {below : List Frame} {meth : Method} {c : Code} {b L : Nat} {xs : Nat → Int32} {D : va_G} {ty : Nat → ClassId} (hC : LC p l s m meth c b L xs D ty) {j : Nat} (hj : 5 * j + 5 ≤ L) (hL : L ≤ 2560) (hn : LawK p l e s m below meth c b D ty (j + 1)) {ad : Nat → Nat} {ct : rm_C} {th : Int} {o : Nat → Int} {H : Heap} {locs : List Loc} {ls : Array Slot} (hG : lwGo ty ad ct j th o) (hW : rm_W D ad ct (lwA s) H) (hS : va_S (lwA s) s.heap H locs) (hl : lv_has ls 8 [(0, .ref b), (1, .ref (ad 0)), (2, .ref (ad 1000)), (3, .ref (ad 2000)), (4, .int (jI (5 * (j : Int))))]) : W p l e room_1 s m #[Value.ref b] below meth c H locs (60 + 20 * j) (1300 + 200 * j) (lw_Z below #[Value.ref b] s) (F0 m 443 ls []) := by
  obtain ⟨⟨hx, hb, hr, hml, hown0, htb, hX, hbl, hlocks, hgv⟩, hlf, hK, hNw, hE, hX2, hU⟩ := id hC
  have hb : c.code = cL_law := hb
  have hts : ∀ w ∈ wsL_law, w.before #[Value.ref b] s = true := fun w hw => htb w (wsL_law_in w hw)
  have hown : s.vm.findClass RL = some m.cls := hown0
  have hA : ∀ q : Nat, s.heap.size ≤ q → lwA s q := fun _ h => h
  have hbA : ¬ lwA s b := Nat.not_le.mpr hbl
  have hj5 : j ≤ 512 := by omega
  obtain ⟨⟨yc, hc, yn, yM, yu, hy, hg, hf, hCl, hMx, hI⟩, ho⟩ := hG
  have hCc : ClsAt ty ad (cutC ct) yc hc yn yM (ydg yn yM) yu hy hg hf := hCl.lo (fun q hq => cutC_lo hq)
  obtain ⟨z1, hz1⟩ : ∃ z, (xs (5 * j + 1)).toInt = z := ⟨_, rfl⟩
  have r1 : r32 z1 := by rw [← hz1]; exact jI_rng _
  obtain ⟨z2, hz2⟩ : ∃ z, (xs (5 * j + 2)).toInt = z := ⟨_, rfl⟩
  have r2 : r32 z2 := by rw [← hz2]; exact jI_rng _
  refine lv_aload_n hx hb dL_law_443 rfl (lv_at hl 1 rfl) ?_
  refine lv_aload_n hx hb dL_law_444 rfl (lv_at hl 0 rfl) ?_
  refine lv_iload hx hb dL_law_445 (lv_at hl 4 rfl) ?_
  refine lv_iconst (v := jI 1) hx hb dL_law_447 rfl ?_
  refine rm_iadd hx hb dL_law_448 ?_
  refine s_ld hx hb hX hbl hbA hS hL (5 * j + 1) (by omega) (by omega) hz1 dL_law_449 ?_
  refine lv_aload_n hx hb dL_law_450 rfl (lv_at hl 0 rfl) ?_
  refine lv_iload hx hb dL_law_451 (lv_at hl 4 rfl) ?_
  refine lv_iconst (v := jI 2) hx hb dL_law_453 rfl ?_
  refine rm_iadd hx hb dL_law_454 ?_
  refine s_ld hx hb hX hbl hbA hS hL (5 * j + 2) (by omega) (by omega) hz2 dL_law_455 ?_
  refine lv_aload_n hx hb dL_law_456 rfl (lv_at hl 3 rfl) ?_
  refine yc_i (vx_runSX (As := [.ref (ad 0), .int (jI z1), .int (jI z2), .ref (ad 2000)]) (rest := []) ⟨hx, hb, hml, hown, hts⟩ (c_L_part l D ty ad ct H.size _ o z1 z2 (post := p5_part ty ad (cutC ct) yc hc yn yM yu hy hg hf z1 z2) (px := x5_part ty ad (cutC ct) yc hc yn yM yu hy hg hf z1 z2) hCl.2.1.1 ho (c_X5_part l hlf D ty ad (cutC ct) H.size yc hc yn yM (ydg yn yM) yu hy hg hf hCc (iv_n hI) (iv_M hI) (iv_d hI) (iv_sl hI) (iv_tr hI) z1 z2 r1 r2) (xp_part)) (vx_cwSW 4 hts gL_law_L_part rfl rfl rfl (by decide +kernel) ⟨Nat.le_of_ble_eq_true rfl, Nat.le_of_ble_eq_true rfl⟩) (rm_preSY hK hNw hE hX2 hU hW hS hA) rfl rfl hl.1 rfl (lv_room (Nat.le_of_ble_eq_true rfl)) dL_law_457 ⟨by show 60 + 20 * j + 2 ≤ 601024; omega, by show 1300 + 200 * j + 12 ≤ 7293034; omega⟩) hW hS hA (fun k ct1 H locs hq1 hW hS => ?_)
  refine lv_istore (lv' := [(5, .int (jI k)), (0, .ref b), (1, .ref (ad 0)), (2, .ref (ad 1000)), (3, .ref (ad 2000)), (4, .int (jI (5 * (j : Int))))]) hx hb dL_law_460 hl (by decide) rfl (fun ls hl => ?_)
  have hk1 : ∀ q, 1000 ≤ q → q ≤ 1016 → ct1 q = ct q := by
    rcases hq1 with ⟨-, z, c1, -, -, hgl⟩ | ⟨-, c1, -, hgl⟩ | ⟨-, c1, -, hgl⟩
    · exact fun q h h2 => (hgl q (by omega)).trans (glue_hi h)
    · exact fun q h h2 => (hgl q).trans (glue_hi h)
    · exact fun q h h2 => (hgl q).trans (glue_hi h)
  obtain ⟨mA, pt, ro, ke, kt, mu, sl, tw, bw, de, hMo⟩ := hMx.hi (ad2 := ad) hk1 (fun r hr => rfl)
  refine lv_aload_n hx hb dL_law_462 rfl (lv_at hl 3 rfl) ?_
  refine lv_aload_n hx hb dL_law_463 rfl (lv_at hl 1 rfl) ?_
  refine lv_iload hx hb dL_law_464 (lv_at hl 5 rfl) ?_
  refine lv_iconst (v := jI 1) hx hb dL_law_466 rfl ?_
  refine rm_iadd hx hb dL_law_467 ?_
  refine s_ld hx hb hX hbl hbA hS hL (5 * j + 1) (by omega) (by omega) hz1 dL_law_468 ?_
  refine lv_aload_n hx hb dL_law_469 rfl (lv_at hl 1 rfl) ?_
  refine lv_iload hx hb dL_law_470 (lv_at hl 5 rfl) ?_
  refine lv_iconst (v := jI 2) hx hb dL_law_472 rfl ?_
  refine rm_iadd hx hb dL_law_473 ?_
  refine s_ld hx hb hX hbl hbA hS hL (5 * j + 2) (by omega) (by omega) hz2 dL_law_474 ?_
  refine rm_calll (va_runV (As := [.int (jI z1), .int (jI z2)]) (rest := []) ⟨hx, hb, hml, hown, hts⟩ (c_X6_part l D ty ad ct1 H.size th yc hc yn yM yu hy hg hf mA pt ro ke kt mu sl tw bw de hMo (hI.1) (iv_n hI) (iv_M hI) (hI.2.1) (iv_pz hI) z1 z2 r1 r2) (cwV 2 hts gL_law_X6_part rfl rfl rfl (by decide +kernel) ⟨Nat.le_of_ble_eq_true rfl, Nat.le_of_ble_eq_true rfl⟩) (rm_preV hK hNw hW hMo.1 rfl) rfl rfl hl.1 rfl (lv_room (Nat.le_of_ble_eq_true rfl)) dL_law_475 ⟨by show 60 + 20 * j + 2 + 0 ≤ 601024; omega, by show 1300 + 200 * j + 12 + 0 ≤ 7293034; omega⟩) hW hS hA (fun b9 ct2 H locs hq2 hW hS => ?_)
  have hEnd := ag_part hj5 hI hCl ho (R := fun _ => True) (fun _ _ _ => trivial) hq1 hq2
  obtain ⟨o2, hG2, hk3, hb2⟩ := hEnd
  refine lv_lstore (lv' := [(6, .long (jL b9)), (5, .int (jI k)), (0, .ref b), (1, .ref (ad 0)), (2, .ref (ad 1000)), (3, .ref (ad 2000)), (4, .int (jI (5 * (j : Int))))]) hx hb dL_law_478 hl (by decide) rfl (fun ls hl => ?_)
  have hrk : r32 k := by
    rcases hk3 with h | h | h <;> rw [h] <;> exact ⟨by omega, by omega⟩
  obtain ⟨⟨yc2, hc2, yn2, yM2, yu2, hy2, hg2, hf2, hCl2, hMx2, hI2⟩, ho2⟩ := id hG2
  obtain ⟨mA2, pt2, ro2, ke2, kt2, mu2, sl2, tw2, bw2, de2, hMo2⟩ := hMx2
  refine lv_aload_n hx hb dL_law_480 rfl (lv_at hl 4 rfl) ?_
  refine rm_calli (va_runV (As := []) (rest := []) ⟨hx, hb, hml, hown, hts⟩ (c_X6_thrown l D ty ad ct2 H.size k yc2 hc2 yn2 yM2 yu2 hy2 hg2 hf2 mA2 pt2 ro2 ke2 kt2 mu2 sl2 tw2 bw2 de2 hMo2 hrk) (cwV 0 hts gL_law_X6_thrown rfl rfl rfl (by decide +kernel) ⟨Nat.le_of_ble_eq_true rfl, Nat.le_of_ble_eq_true rfl⟩) (rm_preV hK hNw hW hMo2.1 rfl) rfl rfl hl.1 rfl (lv_room (Nat.le_of_ble_eq_true rfl)) dL_law_481 ⟨by show 60 + 20 * j + 2 + 0 + 0 ≤ 601024; omega, by show 1300 + 200 * j + 12 + 0 + 0 ≤ 7293034; omega⟩) hW hS hA (fun t9 ct3 H locs hq3 hW hS => ?_)
  obtain ⟨ht9, hc3⟩ := hq3
  rw [ht9]
  rw [hc3] at hW
  refine lv_iload hx hb dL_law_484 (lv_at hl 1 rfl) ?_
  refine rm_icmp_eq (tgt := 491) hx hb hrk hrk dL_law_486 (by decide) (fun _ => ?_) (fun hq => absurd rfl hq)
  refine lv_iload hx hb dL_law_491 (lv_at hl 1 rfl) ?_
  refine rm_if_ne (tgt := 507) hx hb hrk dL_law_493 (by decide) (fun hk0 => ?_) (fun hk0 => ?_)
  · skip
    refine lv_goto (tgt := 1608) hx hb dL_law_507 (by decide) ?_
    exact law_tail hC hn (by omega) (by omega) hG2 hW hS (lv_sub hl [2, 3, 4, 5, 6] rfl)
  · obtain ⟨hb3, hR⟩ := hb2 hk0
    refine lv_aload_n hx hb dL_law_496 rfl (lv_at hl 5 rfl) ?_
    refine lv_iconst (v := jI 0) hx hb dL_law_497 rfl ?_
    refine rm_lald hx hb hK hW (f := o2) ho2 0 rfl (by omega) (by omega) dL_law_498 ?_
    rw [hb3]
    refine lv_lload hx hb dL_law_499 (lv_at hl 0 rfl) ?_
    refine lcmp_same hx hb dL_law_501 ?_
    refine rm_if_eq (tgt := 507) hx hb r32_0 dL_law_502 (by decide) (fun _ => ?_) (fun hq => absurd rfl hq)
    refine lv_goto (tgt := 1608) hx hb dL_law_507 (by decide) ?_
    exact law_tail hC hn (by omega) (by omega) hG2 hW hS (lv_sub hl [2, 3, 4, 5, 6] rfl)
set_option maxHeartbeats 4000000 in
set_option maxRecDepth 100000 in
theorem law_c6 {p : Program} {l : Launch} {e : Env} {s : State} {m : MethodId} {below : List Frame} {meth : Method} {c : Code} {b L : Nat} {xs : Nat → Int32} {D : va_G} {ty : Nat → ClassId} (hC : LC p l s m meth c b L xs D ty) {j : Nat} (hj : 5 * j + 5 ≤ L) (hL : L ≤ 2560) (hn : LawK p l e s m below meth c b D ty (j + 1)) {ad : Nat → Nat} {ct : rm_C} {th : Int} {o : Nat → Int} {H : Heap} {locs : List Loc} {ls : Array Slot} (hG : lwGo ty ad ct j th o) (hW : rm_W D ad ct (lwA s) H) (hS : va_S (lwA s) s.heap H locs) (hl : lv_has ls 8 [(0, .ref b), (1, .ref (ad 0)), (2, .ref (ad 1000)), (3, .ref (ad 2000)), (4, .int (jI (5 * (j : Int))))]) : W p l e room_1 s m #[Value.ref b] below meth c H locs (60 + 20 * j) (1300 + 200 * j) (lw_Z below #[Value.ref b] s) (F0 m 510 ls []) := by
  obtain ⟨⟨hx, hb, hr, hml, hown0, htb, hX, hbl, hlocks, hgv⟩, hlf, hK, hNw, hE, hX2, hU⟩ := id hC
  have hb : c.code = cL_law := hb
  have hts : ∀ w ∈ wsL_law, w.before #[Value.ref b] s = true := fun w hw => htb w (wsL_law_in w hw)
  have hown : s.vm.findClass RL = some m.cls := hown0
  have hA : ∀ q : Nat, s.heap.size ≤ q → lwA s q := fun _ h => h
  have hbA : ¬ lwA s b := Nat.not_le.mpr hbl
  have hj5 : j ≤ 512 := by omega
  obtain ⟨⟨yc, hc, yn, yM, yu, hy, hg, hf, hCl, hMx, hI⟩, ho⟩ := hG
  have hCc : ClsAt ty ad (cutC ct) yc hc yn yM (ydg yn yM) yu hy hg hf := hCl.lo (fun q hq => cutC_lo hq)
  obtain ⟨z1, hz1⟩ : ∃ z, (xs (5 * j + 1)).toInt = z := ⟨_, rfl⟩
  have r1 : r32 z1 := by rw [← hz1]; exact jI_rng _
  refine lv_aload_n hx hb dL_law_510 rfl (lv_at hl 1 rfl) ?_
  refine lv_aload_n hx hb dL_law_511 rfl (lv_at hl 0 rfl) ?_
  refine lv_iload hx hb dL_law_512 (lv_at hl 4 rfl) ?_
  refine lv_iconst (v := jI 1) hx hb dL_law_514 rfl ?_
  refine rm_iadd hx hb dL_law_515 ?_
  refine s_ld hx hb hX hbl hbA hS hL (5 * j + 1) (by omega) (by omega) hz1 dL_law_516 ?_
  refine lv_aload_n hx hb dL_law_517 rfl (lv_at hl 3 rfl) ?_
  have hrz : ∀ z c1 ad1, p5_heap ty ad (cutC ct) yc hc yn yM yu hy hg hf z1 z c1 ad1 → r32 z := rz_heap hj5 hI
  have hpa : ∀ z c1 ad1, p5_heap ty ad (cutC ct) yc hc yn yM yu hy hg hf z1 z c1 ad1 → ∀ r, (r < 200 ∨ 1000 ≤ r) → ad1 r = ad r := fun z c1 ad1 hp r hr => by
    obtain ⟨y9, -, -, ⟨-, -, -, h⟩ | ⟨h20, -, -, h, -⟩⟩ := hp
    · rw [h]
    · exact h r (by omega)
  refine yc_a (vx_runSX (As := [.ref (ad 0), .int (jI z1), .ref (ad 2000)]) (rest := []) ⟨hx, hb, hml, hown, hts⟩ (c_L_heap l D ty ad ct H.size _ o z1 (post := p5_heap ty ad (cutC ct) yc hc yn yM yu hy hg hf z1) (px := x5_heap ty ad (cutC ct) yc hc yn yM yu hy hg hf z1) hCl.2.1.1 ho (c_X5_heap l hlf D ty ad (cutC ct) H.size yc hc yn yM (ydg yn yM) yu hy hg hf hCc (iv_n hI) (iv_M hI) (iv_d hI) z1 r1) hrz (fun z c1 ad1 h r hr => hpa z c1 ad1 h r (Or.inr hr)) (fun E c1 h => h.1)) (vx_cwSW 3 hts gL_law_L_heap rfl rfl rfl (by decide +kernel) ⟨Nat.le_of_ble_eq_true rfl, Nat.le_of_ble_eq_true rfl⟩) (rm_preSY hK hNw hE hX2 hU hW hS hA) rfl rfl hl.1 rfl (lv_room (Nat.le_of_ble_eq_true rfl)) dL_law_518 ⟨by show 60 + 20 * j + 4 ≤ 601024; omega, by show 1300 + 200 * j + 25 ≤ 7293034; omega⟩) hW hS hA (fun k ct1 ad1 H locs hq1 hW hS => ?_)
  have hpb : ∀ r, (r < 200 ∨ 1000 ≤ r) → ad1 r = ad r := by
    rcases hq1 with ⟨-, z, c1, hp, -, -⟩ | ⟨-, c1, -, h, -⟩
    · exact hpa z c1 ad1 hp
    · intro r _; rw [h]
  rw [← hpb 0 (by omega), ← hpb 1000 (by omega), ← hpb 2000 (by omega)] at hl
  refine lv_istore (lv' := [(5, .int (jI k)), (0, .ref b), (1, .ref (ad1 0)), (2, .ref (ad1 1000)), (3, .ref (ad1 2000)), (4, .int (jI (5 * (j : Int))))]) hx hb dL_law_521 hl (by decide) rfl (fun ls hl => ?_)
  have hk1 : ∀ q, 1000 ≤ q → q ≤ 1016 → ct1 q = ct q := by
    rcases hq1 with ⟨-, z, c1, -, -, hgl⟩ | ⟨-, c1, -, -, hgl⟩
    · exact fun q h h2 => (hgl q (by omega)).trans (glue_hi h)
    · exact fun q h h2 => (hgl q).trans (glue_hi h)
  obtain ⟨mA, pt, ro, ke, kt, mu, sl, tw, bw, de, hMo⟩ := hMx.hi (ad2 := ad1) hk1 (fun r hr => hpb r (Or.inr hr))
  refine lv_aload_n hx hb dL_law_523 rfl (lv_at hl 3 rfl) ?_
  refine lv_aload_n hx hb dL_law_524 rfl (lv_at hl 1 rfl) ?_
  refine lv_iload hx hb dL_law_525 (lv_at hl 5 rfl) ?_
  refine lv_iconst (v := jI 1) hx hb dL_law_527 rfl ?_
  refine rm_iadd hx hb dL_law_528 ?_
  refine s_ld hx hb hX hbl hbA hS hL (5 * j + 1) (by omega) (by omega) hz1 dL_law_529 ?_
  refine rm_calli (va_runV (As := [.int (jI z1)]) (rest := []) ⟨hx, hb, hml, hown, hts⟩ (c_X6_heap l D ty ad1 ct1 H.size th yc hc yn yM yu hy hg hf mA pt ro ke kt mu sl tw bw de hMo (hI.1) (iv_n hI) (iv_M hI) z1 r1) (cwV 1 hts gL_law_X6_heap rfl rfl rfl (by decide +kernel) ⟨Nat.le_of_ble_eq_true rfl, Nat.le_of_ble_eq_true rfl⟩) (rm_preV hK hNw hW hMo.1 rfl) rfl rfl hl.1 rfl (lv_room (Nat.le_of_ble_eq_true rfl)) dL_law_530 ⟨by show 60 + 20 * j + 4 + 0 ≤ 601024; omega, by show 1300 + 200 * j + 25 + 0 ≤ 7293034; omega⟩) hW hS hA (fun b9 ct2 H locs hq2 hW hS => ?_)
  have hEnd := ag_heap hj5 hI hCl ho hrz hq1 hq2
  obtain ⟨o2, hG2, hk3, hb2⟩ := hEnd
  refine lv_istore (lv' := [(6, .int (jI b9)), (5, .int (jI k)), (0, .ref b), (1, .ref (ad1 0)), (2, .ref (ad1 1000)), (3, .ref (ad1 2000)), (4, .int (jI (5 * (j : Int))))]) hx hb dL_law_533 hl (by decide) rfl (fun ls hl => ?_)
  have hrk : r32 k := by
    rcases hk3 with h | h | h <;> rw [h] <;> exact ⟨by omega, by omega⟩
  obtain ⟨⟨yc2, hc2, yn2, yM2, yu2, hy2, hg2, hf2, hCl2, hMx2, hI2⟩, ho2⟩ := id hG2
  obtain ⟨mA2, pt2, ro2, ke2, kt2, mu2, sl2, tw2, bw2, de2, hMo2⟩ := hMx2
  refine lv_aload_n hx hb dL_law_535 rfl (lv_at hl 4 rfl) ?_
  refine rm_calli (va_runV (As := []) (rest := []) ⟨hx, hb, hml, hown, hts⟩ (c_X6_thrown l D ty ad1 ct2 H.size k yc2 hc2 yn2 yM2 yu2 hy2 hg2 hf2 mA2 pt2 ro2 ke2 kt2 mu2 sl2 tw2 bw2 de2 hMo2 hrk) (cwV 0 hts gL_law_X6_thrown rfl rfl rfl (by decide +kernel) ⟨Nat.le_of_ble_eq_true rfl, Nat.le_of_ble_eq_true rfl⟩) (rm_preV hK hNw hW hMo2.1 rfl) rfl rfl hl.1 rfl (lv_room (Nat.le_of_ble_eq_true rfl)) dL_law_536 ⟨by show 60 + 20 * j + 4 + 0 + 0 ≤ 601024; omega, by show 1300 + 200 * j + 25 + 0 + 0 ≤ 7293034; omega⟩) hW hS hA (fun t9 ct3 H locs hq3 hW hS => ?_)
  obtain ⟨ht9, hc3⟩ := hq3
  rw [ht9]
  rw [hc3] at hW
  refine lv_iload hx hb dL_law_539 (lv_at hl 1 rfl) ?_
  refine rm_icmp_eq (tgt := 546) hx hb hrk hrk dL_law_541 (by decide) (fun _ => ?_) (fun hq => absurd rfl hq)
  refine lv_iload hx hb dL_law_546 (lv_at hl 1 rfl) ?_
  refine rm_if_ne (tgt := 563) hx hb hrk dL_law_548 (by decide) (fun hk0 => ?_) (fun hk0 => ?_)
  · skip
    refine lv_goto (tgt := 1608) hx hb dL_law_563 (by decide) ?_
    exact law_tail hC hn (by omega) (by omega) hG2 hW hS (lv_sub hl [2, 3, 4, 5, 6] rfl)
  · obtain ⟨hb3, hR⟩ := hb2 hk0
    refine lv_aload_n hx hb dL_law_551 rfl (lv_at hl 5 rfl) ?_
    refine lv_iconst (v := jI 0) hx hb dL_law_552 rfl ?_
    refine rm_lald hx hb hK hW (f := o2) ho2 0 rfl (by omega) (by omega) dL_law_553 ?_
    rw [hb3]
    refine lv_iload hx hb dL_law_554 (lv_at hl 0 rfl) ?_
    refine rm_i2l hx hb dL_law_556 hR ?_
    refine lcmp_same hx hb dL_law_557 ?_
    refine rm_if_eq (tgt := 563) hx hb r32_0 dL_law_558 (by decide) (fun _ => ?_) (fun hq => absurd rfl hq)
    refine lv_goto (tgt := 1608) hx hb dL_law_563 (by decide) ?_
    exact law_tail hC hn (by omega) (by omega) hG2 hW hS (lv_sub hl [2, 3, 4, 5, 6] rfl)
set_option maxHeartbeats 4000000 in
set_option maxRecDepth 100000 in
theorem law_c7 {p : Program} {l : Launch} {e : Env} {s : State} {m : MethodId} {below : List Frame} {meth : Method} {c : Code} {b L : Nat} {xs : Nat → Int32} {D : va_G} {ty : Nat → ClassId} (hC : LC p l s m meth c b L xs D ty) {j : Nat} (hj : 5 * j + 5 ≤ L) (hL : L ≤ 2560) (hn : LawK p l e s m below meth c b D ty (j + 1)) {ad : Nat → Nat} {ct : rm_C} {th : Int} {o : Nat → Int} {H : Heap} {locs : List Loc} {ls : Array Slot} (hG : lwGo ty ad ct j th o) (hW : rm_W D ad ct (lwA s) H) (hS : va_S (lwA s) s.heap H locs) (hl : lv_has ls 8 [(0, .ref b), (1, .ref (ad 0)), (2, .ref (ad 1000)), (3, .ref (ad 2000)), (4, .int (jI (5 * (j : Int))))]) : W p l e room_1 s m #[Value.ref b] below meth c H locs (60 + 20 * j) (1300 + 200 * j) (lw_Z below #[Value.ref b] s) (F0 m 566 ls []) := by
  obtain ⟨⟨hx, hb, hr, hml, hown0, htb, hX, hbl, hlocks, hgv⟩, hlf, hK, hNw, hE, hX2, hU⟩ := id hC
  have hb : c.code = cL_law := hb
  have hts : ∀ w ∈ wsL_law, w.before #[Value.ref b] s = true := fun w hw => htb w (wsL_law_in w hw)
  have hown : s.vm.findClass RL = some m.cls := hown0
  have hA : ∀ q : Nat, s.heap.size ≤ q → lwA s q := fun _ h => h
  have hbA : ¬ lwA s b := Nat.not_le.mpr hbl
  have hj5 : j ≤ 512 := by omega
  obtain ⟨⟨yc, hc, yn, yM, yu, hy, hg, hf, hCl, hMx, hI⟩, ho⟩ := hG
  have hCc : ClsAt ty ad (cutC ct) yc hc yn yM (ydg yn yM) yu hy hg hf := hCl.lo (fun q hq => cutC_lo hq)
  obtain ⟨z1, hz1⟩ : ∃ z, (xs (5 * j + 1)).toInt = z := ⟨_, rfl⟩
  have r1 : r32 z1 := by rw [← hz1]; exact jI_rng _
  obtain ⟨z2, hz2⟩ : ∃ z, (xs (5 * j + 2)).toInt = z := ⟨_, rfl⟩
  have r2 : r32 z2 := by rw [← hz2]; exact jI_rng _
  obtain ⟨z3, hz3⟩ : ∃ z, (xs (5 * j + 3)).toInt = z := ⟨_, rfl⟩
  have r3 : r32 z3 := by rw [← hz3]; exact jI_rng _
  refine lv_aload_n hx hb dL_law_566 rfl (lv_at hl 1 rfl) ?_
  refine lv_aload_n hx hb dL_law_567 rfl (lv_at hl 0 rfl) ?_
  refine lv_iload hx hb dL_law_568 (lv_at hl 4 rfl) ?_
  refine lv_iconst (v := jI 1) hx hb dL_law_570 rfl ?_
  refine rm_iadd hx hb dL_law_571 ?_
  refine s_ld hx hb hX hbl hbA hS hL (5 * j + 1) (by omega) (by omega) hz1 dL_law_572 ?_
  refine lv_aload_n hx hb dL_law_573 rfl (lv_at hl 0 rfl) ?_
  refine lv_iload hx hb dL_law_574 (lv_at hl 4 rfl) ?_
  refine lv_iconst (v := jI 2) hx hb dL_law_576 rfl ?_
  refine rm_iadd hx hb dL_law_577 ?_
  refine s_ld hx hb hX hbl hbA hS hL (5 * j + 2) (by omega) (by omega) hz2 dL_law_578 ?_
  refine lv_aload_n hx hb dL_law_579 rfl (lv_at hl 0 rfl) ?_
  refine lv_iload hx hb dL_law_580 (lv_at hl 4 rfl) ?_
  refine lv_iconst (v := jI 3) hx hb dL_law_582 rfl ?_
  refine rm_iadd hx hb dL_law_583 ?_
  refine s_ld hx hb hX hbl hbA hS hL (5 * j + 3) (by omega) (by omega) hz3 dL_law_584 ?_
  refine lv_aload_n hx hb dL_law_585 rfl (lv_at hl 3 rfl) ?_
  have hrz : ∀ z c1, p5_set ty ad (cutC ct) yc hc yn yM yu hy hg hf z1 z2 z3 z c1 → r32 z := rz_set hj5 hI
  refine yc_i (vx_runSX (As := [.ref (ad 0), .int (jI z1), .int (jI z2), .int (jI z3), .ref (ad 2000)]) (rest := []) ⟨hx, hb, hml, hown, hts⟩ (c_L_set l D ty ad ct H.size _ o z1 z2 z3 (post := p5_set ty ad (cutC ct) yc hc yn yM yu hy hg hf z1 z2 z3) (px := x5_set ty ad (cutC ct) yc hc yn yM yu hy hg hf z1 z2 z3) hCl.2.1.1 ho (c_X5_set l hlf D ty ad (cutC ct) H.size yc hc yn yM (ydg yn yM) yu hy hg hf hCc (iv_n hI) z1 z2 z3 r1 r2 r3) hrz (xp_set)) (vx_cwSW 5 hts gL_law_L_set rfl rfl rfl (by decide +kernel) ⟨Nat.le_of_ble_eq_true rfl, Nat.le_of_ble_eq_true rfl⟩) (rm_preSY hK hNw hE hX2 hU hW hS hA) rfl rfl hl.1 rfl (lv_room (Nat.le_of_ble_eq_true rfl)) dL_law_586 ⟨by show 60 + 20 * j + 3 ≤ 601024; omega, by show 1300 + 200 * j + 18 ≤ 7293034; omega⟩) hW hS hA (fun k ct1 H locs hq1 hW hS => ?_)
  refine lv_istore (lv' := [(5, .int (jI k)), (0, .ref b), (1, .ref (ad 0)), (2, .ref (ad 1000)), (3, .ref (ad 2000)), (4, .int (jI (5 * (j : Int))))]) hx hb dL_law_589 hl (by decide) rfl (fun ls hl => ?_)
  have hk1 : ∀ q, 1000 ≤ q → q ≤ 1016 → ct1 q = ct q := by
    rcases hq1 with ⟨-, z, c1, -, -, hgl⟩ | ⟨-, c1, -, hgl⟩ | ⟨-, c1, -, hgl⟩
    · exact fun q h h2 => (hgl q (by omega)).trans (glue_hi h)
    · exact fun q h h2 => (hgl q).trans (glue_hi h)
    · exact fun q h h2 => (hgl q).trans (glue_hi h)
  obtain ⟨mA, pt, ro, ke, kt, mu, sl, tw, bw, de, hMo⟩ := hMx.hi (ad2 := ad) hk1 (fun r hr => rfl)
  refine lv_aload_n hx hb dL_law_591 rfl (lv_at hl 3 rfl) ?_
  refine lv_aload_n hx hb dL_law_592 rfl (lv_at hl 1 rfl) ?_
  refine lv_iload hx hb dL_law_593 (lv_at hl 5 rfl) ?_
  refine lv_iconst (v := jI 1) hx hb dL_law_595 rfl ?_
  refine rm_iadd hx hb dL_law_596 ?_
  refine s_ld hx hb hX hbl hbA hS hL (5 * j + 1) (by omega) (by omega) hz1 dL_law_597 ?_
  refine lv_aload_n hx hb dL_law_598 rfl (lv_at hl 1 rfl) ?_
  refine lv_iload hx hb dL_law_599 (lv_at hl 5 rfl) ?_
  refine lv_iconst (v := jI 2) hx hb dL_law_601 rfl ?_
  refine rm_iadd hx hb dL_law_602 ?_
  refine s_ld hx hb hX hbl hbA hS hL (5 * j + 2) (by omega) (by omega) hz2 dL_law_603 ?_
  refine lv_aload_n hx hb dL_law_604 rfl (lv_at hl 1 rfl) ?_
  refine lv_iload hx hb dL_law_605 (lv_at hl 5 rfl) ?_
  refine lv_iconst (v := jI 3) hx hb dL_law_607 rfl ?_
  refine rm_iadd hx hb dL_law_608 ?_
  refine s_ld hx hb hX hbl hbA hS hL (5 * j + 3) (by omega) (by omega) hz3 dL_law_609 ?_
  refine rm_calli (va_runV (As := [.int (jI z1), .int (jI z2), .int (jI z3)]) (rest := []) ⟨hx, hb, hml, hown, hts⟩ (c_X6_set l D ty ad ct1 H.size th yc hc yn yM yu hy hg hf mA pt ro ke kt mu sl tw bw de hMo (hI.1) (iv_n hI) (iv_M hI) (iv_hy hI) z1 z2 z3 r1 r2 r3) (cwV 3 hts gL_law_X6_set rfl rfl rfl (by decide +kernel) ⟨Nat.le_of_ble_eq_true rfl, Nat.le_of_ble_eq_true rfl⟩) (rm_preV hK hNw hW hMo.1 rfl) rfl rfl hl.1 rfl (lv_room (Nat.le_of_ble_eq_true rfl)) dL_law_610 ⟨by show 60 + 20 * j + 3 + 0 ≤ 601024; omega, by show 1300 + 200 * j + 18 + 0 ≤ 7293034; omega⟩) hW hS hA (fun b9 ct2 H locs hq2 hW hS => ?_)
  have hEnd := ag_set hj5 hI hCl ho hrz hq1 hq2
  obtain ⟨o2, hG2, hk3, hb2⟩ := hEnd
  refine lv_istore (lv' := [(6, .int (jI b9)), (5, .int (jI k)), (0, .ref b), (1, .ref (ad 0)), (2, .ref (ad 1000)), (3, .ref (ad 2000)), (4, .int (jI (5 * (j : Int))))]) hx hb dL_law_613 hl (by decide) rfl (fun ls hl => ?_)
  have hrk : r32 k := by
    rcases hk3 with h | h | h <;> rw [h] <;> exact ⟨by omega, by omega⟩
  obtain ⟨⟨yc2, hc2, yn2, yM2, yu2, hy2, hg2, hf2, hCl2, hMx2, hI2⟩, ho2⟩ := id hG2
  obtain ⟨mA2, pt2, ro2, ke2, kt2, mu2, sl2, tw2, bw2, de2, hMo2⟩ := hMx2
  refine lv_aload_n hx hb dL_law_615 rfl (lv_at hl 4 rfl) ?_
  refine rm_calli (va_runV (As := []) (rest := []) ⟨hx, hb, hml, hown, hts⟩ (c_X6_thrown l D ty ad ct2 H.size k yc2 hc2 yn2 yM2 yu2 hy2 hg2 hf2 mA2 pt2 ro2 ke2 kt2 mu2 sl2 tw2 bw2 de2 hMo2 hrk) (cwV 0 hts gL_law_X6_thrown rfl rfl rfl (by decide +kernel) ⟨Nat.le_of_ble_eq_true rfl, Nat.le_of_ble_eq_true rfl⟩) (rm_preV hK hNw hW hMo2.1 rfl) rfl rfl hl.1 rfl (lv_room (Nat.le_of_ble_eq_true rfl)) dL_law_616 ⟨by show 60 + 20 * j + 3 + 0 + 0 ≤ 601024; omega, by show 1300 + 200 * j + 18 + 0 + 0 ≤ 7293034; omega⟩) hW hS hA (fun t9 ct3 H locs hq3 hW hS => ?_)
  obtain ⟨ht9, hc3⟩ := hq3
  rw [ht9]
  rw [hc3] at hW
  refine lv_iload hx hb dL_law_619 (lv_at hl 1 rfl) ?_
  refine rm_icmp_eq (tgt := 626) hx hb hrk hrk dL_law_621 (by decide) (fun _ => ?_) (fun hq => absurd rfl hq)
  refine lv_iload hx hb dL_law_626 (lv_at hl 1 rfl) ?_
  refine rm_if_ne (tgt := 643) hx hb hrk dL_law_628 (by decide) (fun hk0 => ?_) (fun hk0 => ?_)
  · skip
    refine lv_goto (tgt := 1608) hx hb dL_law_643 (by decide) ?_
    exact law_tail hC hn (by omega) (by omega) hG2 hW hS (lv_sub hl [2, 3, 4, 5, 6] rfl)
  · obtain ⟨hb3, hR⟩ := hb2 hk0
    refine lv_aload_n hx hb dL_law_631 rfl (lv_at hl 5 rfl) ?_
    refine lv_iconst (v := jI 0) hx hb dL_law_632 rfl ?_
    refine rm_lald hx hb hK hW (f := o2) ho2 0 rfl (by omega) (by omega) dL_law_633 ?_
    rw [hb3]
    refine lv_iload hx hb dL_law_634 (lv_at hl 0 rfl) ?_
    refine rm_i2l hx hb dL_law_636 hR ?_
    refine lcmp_same hx hb dL_law_637 ?_
    refine rm_if_eq (tgt := 643) hx hb r32_0 dL_law_638 (by decide) (fun _ => ?_) (fun hq => absurd rfl hq)
    refine lv_goto (tgt := 1608) hx hb dL_law_643 (by decide) ?_
    exact law_tail hC hn (by omega) (by omega) hG2 hW hS (lv_sub hl [2, 3, 4, 5, 6] rfl)
end LawCasesc2
