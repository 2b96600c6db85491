/-! The law from its entry: what stands at the start, its loop -/
section LawStart
theorem st_arr {s : State} {args : Array Value} {t : FieldType} (h : (Cond.arrayClass t).before args s = true) (ht : ∀ C, t ≠ .object C) : ∃ cA, ArrOfT s cA t ∧ va_RA s cA t := by
  obtain ⟨c, k, comp, h1, h2, h3⟩ := Cond.arrayClass_spec h
  refine ⟨c, fun n z => ⟨fun k h => (by cases h), k, h2, comp, h3⟩, ?_⟩
  cases t with
  | object C => exact absurd rfl (ht C)
  | _ => exact h1
theorem st_arrO {s : State} {args : Array Value} {C : String} (h : (Cond.arrayOver (.object C)).before args s = true) : ∃ cA, ArrOfT s cA (.object C) ∧ va_RA s cA (.object C) := by
  obtain ⟨comp, c, k, h1, h2, h3, h4, h5⟩ := Cond.arrayOver_spec h
  exact ⟨c, fun n z => ⟨fun k h => (by cases h), k, h3, comp, h4⟩, k, comp, h3, h4, h1, h5⟩
theorem st_arrA {s : State} {args : Array Value} {t : FieldType} (h : (Cond.arrayOver (.array t)).before args s = true) : ∃ cA, ArrOfT s cA (.array t) ∧ va_RA s cA (.array t) := by
  obtain ⟨comp, c, k, h1, h2, h3, h4, h5⟩ := arrayOverA_spec h
  exact ⟨c, fun n z => ⟨fun k h => (by cases h), k, h3, comp, h4⟩, h5⟩
theorem jI_bits (z : Int) : ∃ a : Nat, jI z = jI ((a : Nat) : Int) := by
  refine ⟨(jI z).toBitVec.toNat, ?_⟩
  conv => rhs; unfold jI
  rw [Int32.ofInt_eq_ofNat]
  exact (Int32.ofNat_bitVecToNat _).symm.trans rfl
theorem rm_B_in : ∀ w ∈ rm_B, w ∈ lw_tbl := by decide +kernel
theorem rm_B_on : ∀ w ∈ rm_B, w.onTables = true := by
  intro w hw
  simp only [rm_B, List.mem_cons, List.mem_nil_iff, or_false] at hw
  rcases hw with rfl | rfl | rfl | rfl | rfl | rfl <;> rfl
theorem rm_lits_in : ∀ q ∈ rm_lits, Cond.stringRef RX5 q.1 q.2 ∈ lw_tbl := by decide +kernel
theorem law_cls {s : State} {A : Array Value} (htb : ∀ w ∈ lw_tbl, w.before A s = true) : ∃ D : va_G, ∀ (k : Nat) (q : vw_C), vwCl[k]? = some q → u_Kn s q.1 q.2.1 q.2.2 (D.1 k) (D.2 k) := by

  obtain ⟨c0, i0, h0⟩ := u_known (C := RX0) (T := TX0) (N := 1) (n := 1) htb wsX00_inT (htb (.instantiable RX0 1) (by decide +kernel))
  obtain ⟨c1, i1, h1⟩ := u_known (C := RX1) (T := TX1) (N := 3) (n := 3) htb wsX10_inT (htb (.instantiable RX1 3) (by decide +kernel))
  obtain ⟨c2, i2, h2⟩ := u_known (C := RX2) (T := TX2) (N := 6) (n := 6) htb wsX20_inT (htb (.instantiable RX2 6) (by decide +kernel))
  obtain ⟨c3, i3, h3⟩ := u_known (C := RX3) (T := TX3) (N := 5) (n := 5) htb wsX30_inT (htb (.instantiable RX3 5) (by decide +kernel))
  obtain ⟨c4, i4, h4⟩ := u_known (C := RX4) (T := TX4) (N := 4) (n := 4) htb wsX40_inT (htb (.instantiable RX4 4) (by decide +kernel))
  obtain ⟨c5, i5, h5⟩ := u_known (C := RX5) (T := TX5) (N := 7) (n := 7) htb wsX50_inT (htb (.instantiable RX5 7) (by decide +kernel))
  obtain ⟨c6, i6, h6⟩ := u_known (C := RX6) (T := TX6) (N := 19) (n := 19) htb wsX60_inT (htb (.instantiable RX6 19) (by decide +kernel))
  refine ⟨(fun k => match k with | 0 => c0 | 1 => c1 | 2 => c2 | 3 => c3 | 4 => c4 | 5 => c5 | _ => c6, fun k => match k with | 0 => i0 | 1 => i1 | 2 => i2 | 3 => i3 | 4 => i4 | 5 => i5 | _ => i6), ?_⟩
  intro k q hq
  match k, hq with
  | 0, hq => cases (show (RX0, TX0, 1) = q from Option.some.inj hq); exact h0
  | 1, hq => cases (show (RX1, TX1, 3) = q from Option.some.inj hq); exact h1
  | 2, hq => cases (show (RX2, TX2, 6) = q from Option.some.inj hq); exact h2
  | 3, hq => cases (show (RX3, TX3, 5) = q from Option.some.inj hq); exact h3
  | 4, hq => cases (show (RX4, TX4, 4) = q from Option.some.inj hq); exact h4
  | 5, hq => cases (show (RX5, TX5, 7) = q from Option.some.inj hq); exact h5
  | 6, hq => cases (show (RX6, TX6, 19) = q from Option.some.inj hq); exact h6
  | k + 7, hq => simp at hq
theorem law_tys {s : State} {A : Array Value} (htb : ∀ w ∈ lw_tbl, w.before A s = true) : ∃ ty : Nat → ClassId, ∀ (k : Nat) (q : ClassId × FieldType), (rm_tys ty)[k]? = some q → ArrOfT s q.1 q.2 ∧ va_RA s q.1 q.2 := by
  obtain ⟨t0, a0⟩ := st_arr (htb (.arrayClass .int) (by decide +kernel)) (fun _ h => by cases h)
  obtain ⟨t1, a1⟩ := st_arr (htb (.arrayClass .long) (by decide +kernel)) (fun _ h => by cases h)
  obtain ⟨t2, a2⟩ := st_arr (htb (.arrayClass .boolean) (by decide +kernel)) (fun _ h => by cases h)
  obtain ⟨t3, a3⟩ := st_arrO (htb (.arrayOver (.object "GrainYard$Yard")) (by decide +kernel))
  obtain ⟨t4, a4⟩ := st_arrO (htb (.arrayOver (.object "GrainYard$Heap")) (by decide +kernel))
  obtain ⟨t5, a5⟩ := st_arrA (htb (.arrayOver (.array .int)) (by decide +kernel))
  obtain ⟨t6, a6⟩ := st_arrA (htb (.arrayOver (.array .long)) (by decide +kernel))
  refine ⟨fun k => match k with | 0 => t0 | 1 => t1 | 2 => t2 | 3 => t3 | 4 => t4 | 5 => t5 | _ => t6, ?_⟩
  intro k q hq
  match k, hq with
  | 0, hq => cases (show (t0, (.int : FieldType)) = q from Option.some.inj hq); exact a0
  | 1, hq => cases (show (t1, (.long : FieldType)) = q from Option.some.inj hq); exact a1
  | 2, hq => cases (show (t2, (.boolean : FieldType)) = q from Option.some.inj hq); exact a2
  | 3, hq => cases (show (t3, (.object "GrainYard$Yard" : FieldType)) = q from Option.some.inj hq); exact a3
  | 4, hq => cases (show (t4, (.object "GrainYard$Heap" : FieldType)) = q from Option.some.inj hq); exact a4
  | 5, hq => cases (show (t5, (.array .int : FieldType)) = q from Option.some.inj hq); exact a5
  | 6, hq => cases (show (t6, (.array .long : FieldType)) = q from Option.some.inj hq); exact a6
  | k + 7, hq => simp [rm_tys] at hq
theorem law_std {p : Program} {l : Launch} {s : State} {m : MethodId} {meth : Method} {c : Code} {b L : Nat} {xs : Nat → Int32} (hflags : l.flags = flags0) (C0 : lw_At p s m meth c b L xs) : ∃ (D : va_G) (ty : Nat → ClassId), LC p l s m meth c b L xs D ty := by
  obtain ⟨hx, hb, hr, hml, hown0, htb, hX, hbl, hlocks, hgv⟩ := id C0
  obtain ⟨D, hD⟩ := law_cls htb
  obtain ⟨ty, hty⟩ := law_tys htb
  have hs := flat_of_before _ hgv
  have h5 : s.vm.findClass RX5 = some (D.1 5) := (hD 5 _ rfl).2.1
  have hlt : ∀ a : Nat, a < s.heap.size → ¬ lwA s a := fun a h => Nat.not_le.mpr h
  refine ⟨D, ty, C0, ?_, ⟨hD, hty⟩, ⟨va_Nw.of rfl (htb (.methodLinkNest RX2 70 yX5_commonDivisor RX5) (by decide +kernel)), va_Nw.of rfl (htb (.methodLinkNest RX3 50 yX5_commonDivisor RX5) (by decide +kernel)), va_AO.of (htb (.arrayOver (.object RX4)) (by decide +kernel)), va_AO.of (htb (.arrayOver (.object RX1)) (by decide +kernel)), htb (.arrayOver (.array .int)) (by decide +kernel), htb (.arrayOver (.array .long)) (by decide +kernel)⟩, ⟨fun w hw => va_Nw.of (rm_B_on w hw) (htb w (rm_B_in w hw)), fun q hq => ?_⟩, ⟨va_Nc.of (hs (.not (.castable xISE xNSE)) (by decide +kernel)), va_Nc.of (hs (.not (.castable xIAE xNSE)) (by decide +kernel))⟩, ⟨vx_Zqof (htb (.laysStatic Bundle.tN "UNASSIGNED_STACK" Bundle.steD) (by decide +kernel)) (htb (.initialized Bundle.tN) (by decide +kernel)) (hs (.isRef (.static Bundle.tN "UNASSIGNED_STACK" Bundle.steD)) (by decide +kernel)) hlt, vx_Zqof (htb (.laysStatic Bundle.tN "SUPPRESSED_SENTINEL" Bundle.listD) (by decide +kernel)) (htb (.initialized Bundle.tN) (by decide +kernel)) (hs (.isRef (.static Bundle.tN "SUPPRESSED_SENTINEL" Bundle.listD)) (by decide +kernel)) hlt⟩⟩
  · unfold Launch.stackTraces
    rw [hflags]
    decide +kernel
  · have hw := htb _ (rm_lits_in q hq)
    obtain ⟨k, cf, i, a, -, -, -, -, -, he⟩ := Cond.stringRef_spec h5 hw
    exact ⟨a, vk_R.of hw he⟩
end LawStart
section LawLoop
theorem go_up {ty : Nat → ClassId} {ad : Nat → Nat} {ct : rm_C} {j : Nat} {th : Int} {o : Nat → Int} (h : lwGo ty ad ct j th o) : lwGo ty ad ct (j + 1) th o := by
  obtain ⟨⟨yc, hc, yn, yM, yu, hy, hg, hf, hCl, hMx, hI⟩, ho⟩ := h
  exact ⟨⟨yc, hc, yn, yM, yu, hy, hg, hf, hCl, hMx, iv_up hI⟩, ho⟩
set_option maxHeartbeats 4000000 in
set_option maxRecDepth 100000 in
theorem law_sw {p : Program} {l : Launch} {e : Env} {s : State} {m : MethodId} {below : List Frame} {meth : Method} {c : Code} {b L : Nat} {xs : Nat → Int32} {D : va_G} {ty : Nat → ClassId} (hC : LC p l s m meth c b L xs D ty) {j : Nat} (hj : 5 * j + 5 ≤ L) (hL : L ≤ 2560) (hn : LawK p l e s m below meth c b D ty (j + 1)) {ad : Nat → Nat} {ct : rm_C} {th : Int} {o : Nat → Int} {H : Heap} {locs : List Loc} {ls : Array Slot} (hG : lwGo ty ad ct j th o) (hW : rm_W D ad ct (lwA s) H) (hS : va_S (lwA s) s.heap H locs) (hl : lv_has ls 8 [(0, .ref b), (1, .ref (ad 0)), (2, .ref (ad 1000)), (3, .ref (ad 2000)), (4, .int (jI (5 * (j : Int))))]) {r : Nat} (hr32 : r < 32) : W p l e room_1 s m #[Value.ref b] below meth c H locs (60 + 20 * j) (1300 + 200 * j) (lw_Z below #[Value.ref b] s) (F0 m 39 ls [.int (jI ((r : Nat) : Int))]) := by
  obtain ⟨⟨hx, hb, hr, hml, hown0, htb, hX, hbl, hlocks, hgv⟩, hlf, hK, hNw, hE, hX2, hU⟩ := id hC
  have hb : c.code = cL_law := hb
  rcases Nat.lt_or_ge r 22 with h22 | h22
  · match r, h22 with
    | 0, _ => exact rm_tabI (off := 101) (tgt := 140) hx hb ⟨by decide, by decide⟩ dL_law_39 (by decide) (by decide) rfl (by decide) (law_c0 hC hj hL hn hG hW hS hl)
    | 1, _ => exact rm_tabI (off := 126) (tgt := 165) hx hb ⟨by decide, by decide⟩ dL_law_39 (by decide) (by decide) rfl (by decide) (law_c1 hC hj hL hn hG hW hS hl)
    | 2, _ => exact rm_tabI (off := 218) (tgt := 257) hx hb ⟨by decide, by decide⟩ dL_law_39 (by decide) (by decide) rfl (by decide) (law_c2 hC hj hL hn hG hW hS hl)
    | 3, _ => exact rm_tabI (off := 286) (tgt := 325) hx hb ⟨by decide, by decide⟩ dL_law_39 (by decide) (by decide) rfl (by decide) (law_c3 hC hj hL hn hG hW hS hl)
    | 4, _ => exact rm_tabI (off := 349) (tgt := 388) hx hb ⟨by decide, by decide⟩ dL_law_39 (by decide) (by decide) rfl (by decide) (law_c4 hC hj hL hn hG hW hS hl)
    | 5, _ => exact rm_tabI (off := 404) (tgt := 443) hx hb ⟨by decide, by decide⟩ dL_law_39 (by decide) (by decide) rfl (by decide) (law_c5 hC hj hL hn hG hW hS hl)
    | 6, _ => exact rm_tabI (off := 471) (tgt := 510) hx hb ⟨by decide, by decide⟩ dL_law_39 (by decide) (by decide) rfl (by decide) (law_c6 hC hj hL hn hG hW hS hl)
    | 7, _ => exact rm_tabI (off := 527) (tgt := 566) hx hb ⟨by decide, by decide⟩ dL_law_39 (by decide) (by decide) rfl (by decide) (law_c7 hC hj hL hn hG hW hS hl)
    | 8, _ => exact rm_tabI (off := 607) (tgt := 646) hx hb ⟨by decide, by decide⟩ dL_law_39 (by decide) (by decide) rfl (by decide) (law_c8 hC hj hL hn hG hW hS hl)
    | 9, _ => exact rm_tabI (off := 674) (tgt := 713) hx hb ⟨by decide, by decide⟩ dL_law_39 (by decide) (by decide) rfl (by decide) (law_c9 hC hj hL hn hG hW hS hl)
    | 10, _ => exact rm_tabI (off := 749) (tgt := 788) hx hb ⟨by decide, by decide⟩ dL_law_39 (by decide) (by decide) rfl (by decide) (law_c10 hC hj hL hn hG hW hS hl)
    | 11, _ => exact rm_tabI (off := 804) (tgt := 843) hx hb ⟨by decide, by decide⟩ dL_law_39 (by decide) (by decide) rfl (by decide) (law_c11 hC hj hL hn hG hW hS hl)
    | 12, _ => exact rm_tabI (off := 871) (tgt := 910) hx hb ⟨by decide, by decide⟩ dL_law_39 (by decide) (by decide) rfl (by decide) (law_c12 hC hj hL hn hG hW hS hl)
    | 13, _ => exact rm_tabI (off := 938) (tgt := 977) hx hb ⟨by decide, by decide⟩ dL_law_39 (by decide) (by decide) rfl (by decide) (law_c13 hC hj hL hn hG hW hS hl)
    | 14, _ => exact rm_tabI (off := 1013) (tgt := 1052) hx hb ⟨by decide, by decide⟩ dL_law_39 (by decide) (by decide) rfl (by decide) (law_c14 hC hj hL hn hG hW hS hl)
    | 15, _ => exact rm_tabI (off := 1081) (tgt := 1120) hx hb ⟨by decide, by decide⟩ dL_law_39 (by decide) (by decide) rfl (by decide) (law_c15 hC hj hL hn hG hW hS hl)
    | 16, _ => exact rm_tabI (off := 1148) (tgt := 1187) hx hb ⟨by decide, by decide⟩ dL_law_39 (by decide) (by decide) rfl (by decide) (law_c16 hC hj hL hn hG hW hS hl)
    | 17, _ => exact rm_tabI (off := 1196) (tgt := 1235) hx hb ⟨by decide, by decide⟩ dL_law_39 (by decide) (by decide) rfl (by decide) (law_c17 hC hj hL hn hG hW hS hl)
    | 18, _ => exact rm_tabI (off := 1271) (tgt := 1310) hx hb ⟨by decide, by decide⟩ dL_law_39 (by decide) (by decide) rfl (by decide) (law_c18 hC hj hL hn hG hW hS hl)
    | 19, _ => exact rm_tabI (off := 1326) (tgt := 1365) hx hb ⟨by decide, by decide⟩ dL_law_39 (by decide) (by decide) rfl (by decide) (law_c19 hC hj hL hn hG hW hS hl)
    | 20, _ => exact rm_tabI (off := 1406) (tgt := 1445) hx hb ⟨by decide, by decide⟩ dL_law_39 (by decide) (by decide) rfl (by decide) (law_c20 hC hj hL hn hG hW hS hl)
    | 21, _ => exact rm_tabI (off := 1513) (tgt := 1552) hx hb ⟨by decide, by decide⟩ dL_law_39 (by decide) (by decide) rfl (by decide) (law_c21 hC hj hL hn hG hW hS hl)
    | r + 22, h => exact absurd h (by omega)
  · exact rm_tabO (tgt := 1608) hx hb ⟨by omega, by omega⟩ dL_law_39 (Or.inr (by omega)) (by decide) (law_tail hC hn (by omega) (by omega) (go_up hG) hW hS hl)
set_option maxHeartbeats 4000000 in
set_option maxRecDepth 100000 in
theorem law_loop {p : Program} {l : Launch} {e : Env} {s : State} {m : MethodId} {below : List Frame} {meth : Method} {c : Code} {b L : Nat} {xs : Nat → Int32} {D : va_G} {ty : Nat → ClassId} (hC : LC p l s m meth c b L xs D ty) (hL : L ≤ 2560) : ∀ n j : Nat, L < 5 * j + n → 5 * j ≤ L → LawK p l e s m below meth c b D ty j := by
  obtain ⟨⟨hx, hb, hr, hml, hown0, htb, hX, hbl, hlocks, hgv⟩, hlf, hK, hNw, hE, hX2, hU⟩ := id hC
  have hb : c.code = cL_law := hb
  have hbA : ¬ lwA s b := Nat.not_le.mpr hbl
  intro n
  induction n with
  | zero =>
    intro j h1 h2
    exact absurd h1 (by omega)
  | succ n ih =>
    intro j h1 h2 ad ct th o H locs ls hG hW hS hl
    refine lv_iload hx hb dL_law_23 (lv_at hl 4 rfl) ?_
    refine lv_aload_n hx hb dL_law_25 rfl (lv_at hl 0 rfl) ?_
    refine s_len hx hb hX hbl hbA hS dL_law_26 ?_
    refine lv_iconst (v := jI 5) hx hb dL_law_27 rfl ?_
    refine rm_isub hx hb dL_law_28 ?_
    refine rm_icmp_gt (tgt := 1614) hx hb ⟨by omega, by omega⟩ ⟨by omega, by omega⟩ dL_law_29 (by decide) (fun h5 => ?_) (fun h5 => ?_)
    · refine lv_iconst (v := 1) hx hb dL_law_1614 (by decide) ?_
      refine va_forget (fun q hq => hS.2.2 q hq) ?_
      refine W.widen (k := 601024) (n := 7293034) (by omega) (by omega) ?_
      exact lw_ret hx hb hr hlocks dL_law_1615
    · have hj : 5 * j + 5 ≤ L := by omega
      have hn := ih (j + 1) (by omega) (by omega)
      refine lv_aload_n hx hb dL_law_32 rfl (lv_at hl 0 rfl) ?_
      refine lv_iload hx hb dL_law_33 (lv_at hl 4 rfl) ?_
      refine s_ld hx hb hX hbl hbA hS hL (5 * j) (by omega) (by omega) rfl dL_law_35 ?_
      obtain ⟨a, ha⟩ := jI_bits (xs (5 * j)).toInt
      rw [ha]
      refine lv_bipush (v := jI 31) hx hb dL_law_36 (by decide) ?_
      refine rm_iand hx hb dL_law_38 (bt_mask9 a 5 (by omega) (by decide +kernel)) ?_
      exact law_sw hC hj hL hn hG hW hS hl (Nat.mod_lt _ (by decide))
end LawLoop
section LawEntry

set_option maxHeartbeats 4000000 in
set_option maxRecDepth 100000 in
/-- THE LAW, from its entry -/
theorem whole_start {p : Program} {e : Env} {s : State} {m : MethodId} {below : List Frame} {meth : Method} {c : Code} (l : Launch) (hflags : l.flags = flags0) {b L : Nat} {xs : Nat → Int32} (hL : L ≤ 2560) (C0 : lw_At p s m meth c b L xs) : W p l e room_1 s m #[Value.ref b] below meth c s.heap [] 0 0 (lw_Z below #[Value.ref b] s) (entryFrame m ([Value.ref b] : List Value).toArray 8) := by
  obtain ⟨D, ty, hC⟩ := law_std hflags C0
  obtain ⟨⟨hx, hb, hr, hml, hown0, htb, hX, hbl, hlocks, hgv⟩, hlf, hK, hNw, hE, hX2, hU⟩ := id hC
  have hb : c.code = cL_law := hb
  have hts : ∀ w ∈ wsL_law, w.before #[Value.ref b] s = true := fun w hw => htb w (wsL_law_in w hw)
  have hown : s.vm.findClass RL = some m.cls := hown0
  have hA : ∀ q : Nat, s.heap.size ≤ q → lwA s q := fun _ h => h
  have hS : va_S (lwA s) s.heap s.heap [] := va_S.rf
  obtain ⟨ad, had⟩ : ∃ ad : Nat → Nat, ad = fun q => if q < 1000 then s.heap.size + q else if q < 2000 then s.heap.size + 31 + (q - 1000) else s.heap.size + 48 := ⟨_, rfl⟩
  have ad1 : ∀ q, q < 1000 → ad q = s.heap.size + q := fun q h => by rw [had]; exact if_pos h
  have ad2 : ∀ q, 1000 ≤ q → q < 2000 → ad q = s.heap.size + 31 + (q - 1000) := fun q h h2 => by rw [had]; dsimp only; rw [if_neg (by omega), if_pos h2]
  have ad3 : ad 2000 = s.heap.size + 48 := by rw [had]; dsimp only; rw [if_neg (by omega), if_neg (by omega)]
  obtain ⟨ct0, hct0⟩ : ∃ ct0 : rm_C, ct0 = fun _ => none := ⟨_, rfl⟩
  have hno : ∀ q, ct0 q = none := fun q => by rw [hct0]
  have hW : rm_W D ad ct0 (lwA s) s.heap := ⟨fun r e h => (by rw [hno] at h; cases h), fun r r' e e' h => (by rw [hno] at h; cases h)⟩
  have hl := lv_entry ([.ref b]) (n := 8) (Nat.le_of_ble_eq_true rfl)
  rw [lg_entry_eq]
  generalize (lg_sl ([.ref b]) ++ List.replicate (8 - (lg_sl ([.ref b])).length) Slot.unset).toArray = ls at hl ⊢
  have hl : lv_has ls 8 [(0, .ref b)] := hl
  have hfs5 : ∀ j, j < 7 → defaultValue (tyX5 j) = vp_V [.null, .null, .int (jI 0), .int (jI 0), .null, .null, .null] j := fun j h9 => by
    match j, h9 with
    | 0, _ => rfl
    | 1, _ => rfl
    | 2, _ => rfl
    | 3, _ => rfl
    | 4, _ => rfl
    | 5, _ => rfl
    | 6, _ => rfl
    | j + 7, h => exact absurd h (by omega)
  have hfs6 : ∀ j, j < 19 → defaultValue (tyX6 j) = vp_V [.int (jI 0), .int (jI 0), .int (jI 0), .null, .null, .null, .null, .null, .null, .null, .null, .null, .null, .null, .null, .null, .null, .null, .null] j := fun j h9 => by
    match j, h9 with
    | 0, _ => rfl
    | 1, _ => rfl
    | 2, _ => rfl
    | 3, _ => rfl
    | 4, _ => rfl
    | 5, _ => rfl
    | 6, _ => rfl
    | 7, _ => rfl
    | 8, _ => rfl
    | 9, _ => rfl
    | 10, _ => rfl
    | 11, _ => rfl
    | 12, _ => rfl
    | 13, _ => rfl
    | 14, _ => rfl
    | 15, _ => rfl
    | 16, _ => rfl
    | 17, _ => rfl
    | 18, _ => rfl
    | j + 19, h => exact absurd h (by omega)
  refine rm_new (ci := 5) (C := RX5) (T := TX5) (N := 7) (fs := [.null, .null, .int (jI 0), .int (jI 0), .null, .null, .null]) hx hb htb wsX50_inT tyX5 tyX5_ok hown (hts (.classLink RL 8 RX5) (by decide +kernel)) (hts (.instantiable RX5 7) (by decide +kernel)) (hts (.initialized RX5) (by decide +kernel)) hK hW hS hA rfl hfs5 0 (hno 0) (ad1 0 (by omega)) (Nat.le_of_ble_eq_true rfl) (Nat.le_of_ble_eq_true rfl) dL_law_0 (fun H1 ct1 hs1 ho1 hW hS hz1 => ?_)
  refine lv_dup hx hb dL_law_3 rfl ?_
  refine rm_callv (va_runI (As := []) (rest := [.ref (ad 0)]) ⟨hx, hb, hml, hown, hts⟩ (c_X5_init l D ty ad ct1 H1.size (fun j h1 h2 => (ho1 j (by omega)).trans (hno j)) (fun j h1 h2 => by rw [ad1 j (by omega), hz1]; omega) hs1) (cwI 0 hts gL_law_X5_init rfl rfl rfl (htb (.initialized RX5) (by decide +kernel)) (htb (.methodLink RL 88 yX5_init) (by decide +kernel)) (htb (.instanceMethod yX5_init) (by decide +kernel)) rfl (by decide +kernel) ⟨Nat.le_of_ble_eq_true rfl, Nat.le_of_ble_eq_true rfl⟩) (rm_preI hK hNw hW) rfl rfl hl.1 rfl (lv_room (Nat.le_of_ble_eq_true rfl)) dL_law_4 ⟨Nat.le_of_ble_eq_true rfl, Nat.le_of_ble_eq_true rfl⟩) hW hS hA (fun ct2 H2 locs2 hq2 hW hS hz2 => ?_)
  refine lv_astore_n (lv' := [(1, .ref (ad 0)), (0, .ref b)]) hx hb dL_law_7 rfl hl (by decide) rfl (fun ls hl => ?_)
  obtain ⟨hq2t, hq2h, hq2o⟩ := hq2
  have hz2 : H2.size = s.heap.size + 31 := by omega
  have hn2 : ∀ q, 30 < q → ct2 q = none := fun q h => (hq2o q h).trans ((ho1 q (by omega)).trans (hno q))
  refine rm_new (ci := 6) (C := RX6) (T := TX6) (N := 19) (fs := [.int (jI 0), .int (jI 0), .int (jI 0), .null, .null, .null, .null, .null, .null, .null, .null, .null, .null, .null, .null, .null, .null, .null, .null]) hx hb htb wsX60_inT tyX6 tyX6_ok hown (hts (.classLink RL 89 RX6) (by decide +kernel)) (hts (.instantiable RX6 19) (by decide +kernel)) (hts (.initialized RX6) (by decide +kernel)) hK hW hS hA rfl hfs6 1000 (hn2 1000 (by omega)) (by rw [ad2 1000 (by omega) (by omega), hz2]) (Nat.le_of_ble_eq_true rfl) (Nat.le_of_ble_eq_true rfl) dL_law_8 (fun H3 ct3 hs3 ho3 hW hS hz3 => ?_)
  refine lv_dup hx hb dL_law_11 rfl ?_
  refine rm_callv (va_runI (As := []) (rest := [.ref (ad 1000)]) ⟨hx, hb, hml, hown, hts⟩ (c_X6_init l D ty ad ct3 H3.size (fun j h1 h2 => (ho3 j (by omega)).trans (hn2 j (by omega))) (fun j h1 h2 => by rw [ad2 (1000 + j) (by omega) (by omega), hz3, hz2]; omega) hs3) (cwI 0 hts gL_law_X6_init rfl rfl rfl (htb (.initialized RX6) (by decide +kernel)) (htb (.methodLink RL 91 yX6_init) (by decide +kernel)) (htb (.instanceMethod yX6_init) (by decide +kernel)) rfl (by decide +kernel) ⟨Nat.le_of_ble_eq_true rfl, Nat.le_of_ble_eq_true rfl⟩) (rm_preI hK hNw hW) rfl rfl hl.1 rfl (lv_room (Nat.le_of_ble_eq_true rfl)) dL_law_12 ⟨Nat.le_of_ble_eq_true rfl, Nat.le_of_ble_eq_true rfl⟩) hW hS hA (fun ct4 H4 locs4 hq4 hW hS hz4 => ?_)
  refine lv_astore_n (lv' := [(2, .ref (ad 1000)), (1, .ref (ad 0)), (0, .ref b)]) hx hb dL_law_15 rfl hl (by decide) rfl (fun ls hl => ?_)
  obtain ⟨hq4m, hq4o⟩ := hq4
  have hz4 : H4.size = s.heap.size + 48 := by omega
  refine lv_iconst (v := jI 1) hx hb dL_law_16 rfl ?_
  refine rm_newA (atype := .long) (fty := .long) (k := 1) (N' := 1) (a0 := (1, .inr (.inl (fun _ => jL 0)))) hx hb (hts (.arrayClass .long) (by decide +kernel)) rfl hK hW hS hA rfl (fun _ h9 => by cases h9) (fun _ => rfl) rfl (by decide) (by decide) 2000 ((hq4o 2000 (by omega)).trans ((ho3 2000 (by omega)).trans (hn2 2000 (by omega)))) (by rw [ad3, hz4]) (Nat.le_of_ble_eq_true rfl) (Nat.le_of_ble_eq_true rfl) dL_law_17 (fun H5 ct5 hs5 ho5 hW hS hz5 => ?_)
  refine lv_astore_n (lv' := [(3, .ref (ad 2000)), (2, .ref (ad 1000)), (1, .ref (ad 0)), (0, .ref b)]) hx hb dL_law_19 rfl hl (by decide) rfl (fun ls hl => ?_)
  refine lv_iconst (v := jI (5 * ((0 : Nat) : Int))) hx hb dL_law_20 rfl ?_
  refine lv_istore (lv' := [(4, .int (jI (5 * ((0 : Nat) : Int)))), (3, .ref (ad 2000)), (2, .ref (ad 1000)), (1, .ref (ad 0)), (0, .ref b)]) hx hb dL_law_21 hl (by decide) rfl (fun ls hl => ?_)
  refine W.widen (k := 60 + 20 * 0) (n := 1300 + 200 * 0) (by omega) (by omega) ?_
  have hCl : ClsAt ty ad ct2 0 0 (fun _ => 0) (fun _ _ _ => 0) (ydg (fun _ => 0) (fun _ _ _ => 0)) (fun _ => 0) (fun _ => 0) (fun _ _ => 0) (fun _ _ => 0) := ⟨⟨by omega, by omega⟩, hq2t, hq2h, fun y h => absurd h (Nat.not_lt_zero _), fun h hh => absurd hh (Nat.not_lt_zero _), fun y h1 h2 j hj => hn2 _ (by omega), fun h h1 h2 j hj => hn2 _ (by omega)⟩
  have hI : lwInv 0 0 0 (fun _ => 0) (fun _ _ _ => 0) (fun _ => 0) (fun _ => 0) (fun _ _ => 0) (fun _ _ => 0) := ⟨⟨by omega, by omega⟩, fun y h => absurd h (Nat.not_lt_zero _), fun y => Or.inl rfl, fun y _ => ⟨rfl, rfl⟩, fun h _ => ⟨rfl, rfl⟩, fun h hh => absurd hh (Nat.not_lt_zero _), fun h hh => absurd hh (Nat.not_lt_zero _)⟩
  have hG : lwGo ty ad ct5 0 0 (fun _ => 0) := ⟨⟨0, 0, _, _, _, _, _, _, hCl.lo (fun q hq => (ho5 q (by omega)).trans ((hq4o q (by omega)).trans (ho3 q (by omega)))), hq4m.hi (fun q h1 h2 => ho5 q (by omega)) (fun _ _ => rfl), hI⟩, hs5⟩
  exact law_loop hC hL (L + 1) 0 (by omega) (by omega) ad ct5 0 (fun _ => 0) H5 _ ls hG hW hS (lv_sub hl [4, 3, 2, 1, 0] rfl)
end LawEntry
