section ModPic5
theorem lft_of {n : Nat} {M : Nat → Nat → Int} {g G v : Nat → Int} (hG : ∀ q, 1 ≤ q → q < n → G q = ful2 n M q) (hv : stl n M G v) {q : Nat} (h1 : 1 ≤ q) (h2 : q < n) : 2 * dg n M q - 2 - gaf n M G v q = lft n M q := by
  unfold lft gaf
  rw [if_pos h2, stv_cong (g' := ful2 n M) hG hv]
  unfold af
  rw [hG q h1 h2]
  unfold ful2; omega
theorem gaf_sti {n : Nat} {M : Nat → Nat → Int} {g v : Nat → Int} (hv : stl n M g v) {q : Nat} (h2 : q < n) : gaf n M g v q = sti n M g q := by
  unfold sti gaf; rw [if_pos h2, stv_eq hv]
/-- what is settled at the end, by what is asked -/
noncomputable def rowk (n : Nat) (M : Nat → Nat → Int) (g : Nat → Int) (w9 : Int) (q : Nat) : Int := if w9 = 2 then lft n M q else if w9 = 3 then 2 * lft n M q - sti n M g q else sti n M g q + lft n M q
noncomputable def bcw (n : Nat) (M : Nat → Nat → Int) (g : Nat → Int) (w9 : Int) : Nat → Int := if w9 = 2 then cag n M (fun _ => 0) else if w9 = 3 then cag n M (opp n M g) else cag n M g
theorem rowk_rng {n : Nat} {M : Nat → Nat → Int} {g : Nat → Int} (h : yst n M) (hg : ∀ q, 1 ≤ q → q < n → 0 ≤ g q) (hB : psum n g ≤ 900000000) (w9 : Int) {q : Nat} (h1 : 1 ≤ q) (h2 : q < n) : 0 ≤ rowk n M g w9 q ∧ rowk n M g w9 q ≤ 100 := by
  have a := lft_rng h h1 h2
  obtain ⟨v, hv⟩ := yst_first h hg (by omega)
  have b := stl_nn h hg (by omega) hv h1 h2
  have e : sti n M g q = af n M g v q := by unfold sti; rw [stv_eq hv]
  have c := dg_le h.1 h2
  unfold rowk; split
  · omega
  · split <;> omega
theorem bcw_row {n : Nat} {M : Nat → Nat → Int} {g G v : Nat → Int} {w9 : Int} (h : yst n M) (hg : ∀ q, 1 ≤ q → q < n → 0 ≤ g q) (hB : psum n g ≤ 900000000) (hG : ∀ q, 1 ≤ q → q < n → G q = rowk n M g w9 q) (hv : stl n M G v) {q : Nat} (h1 : 1 ≤ q) (h2 : q < n) : gaf n M G v q = bcw n M g w9 q := by
  have hge : gaf n M G v q = af n M (rowk n M g w9) v q := by
    unfold gaf; rw [if_pos h2]; unfold af; rw [hG q h1 h2]
  have hv2 := stl_cong hG hv
  rw [hge]
  unfold bcw
  by_cases e2 : w9 = 2
  · rw [if_pos e2]
    have hc : ∀ q, rowk n M g w9 q = lft n M q + (fun _ => (0 : Int)) q := fun q => by unfold rowk; rw [if_pos e2]; exact (Int.add_zero _).symm
    unfold cag
    rw [stv_cong (g := rowk n M g w9) (g' := fun q => lft n M q + (fun _ => (0 : Int)) q) (fun q _ _ => hc q) hv2, show rowk n M g w9 = fun q => lft n M q + (fun _ => (0 : Int)) q from funext hc]
  · rw [if_neg e2]
    by_cases e3 : w9 = 3
    · rw [if_pos e3]
      have hc : ∀ q, rowk n M g w9 q = lft n M q + opp n M g q := fun q => by unfold rowk opp; rw [if_neg e2, if_pos e3]; unfold sti; omega
      unfold cag
      rw [stv_cong (g := rowk n M g w9) (g' := fun q => lft n M q + opp n M g q) (fun q _ _ => hc q) hv2, show rowk n M g w9 = fun q => lft n M q + opp n M g q from funext hc]
    · rw [if_neg e3]
      obtain ⟨u, hu⟩ := yst_first h hg (by omega)
      have hc : ∀ q, rowk n M g w9 q = lft n M q + af n M g u q := fun q => by unfold rowk; rw [if_neg e2, if_neg e3]; unfold sti; rw [stv_eq hu]; omega
      have hv3 : stl n M (fun q => lft n M q + af n M g u q) v := by rw [← show rowk n M g w9 = fun q => lft n M q + af n M g u q from funext hc]; exact hv2
      have hadd := stl_add (a := lft n M) (b := g) (fun p a b => by have h5 := (lft_rng h a b).1; have h6 := h.2.1 p a b; omega) hu hv3
      unfold cag
      rw [stv_eq hadd, show rowk n M g w9 = fun q => lft n M q + af n M g u q from funext hc, ← af_af n M (fun q => lft n M q + g q) u v]
      have hf : af n M (fun q => lft n M q + g q) u = fun q => lft n M q + af n M g u q := by funext p; exact af_plus n M (lft n M) g u p
      rw [hf]
def cpy (i : Nat) (w f : Nat → Int) : Nat → Int := fun q => if q < i then w q else f q
theorem cpy_0 (w f : Nat → Int) : cpy 0 w f = f := by funext q; unfold cpy; rw [if_neg (by omega)]
theorem cpy_s (w f : Nat → Int) (i : Nat) : ub (cpy i w f) i (w i) = cpy (i + 1) w f := by
  funext q
  by_cases e : q = i
  · subst e; rw [ub_s]; unfold cpy; rw [if_pos (by omega)]
  · rw [ub_n _ _ e]; unfold cpy
    by_cases e2 : q < i
    · rw [if_pos e2, if_pos (by omega)]
    · rw [if_neg e2, if_neg (by omega)]
theorem cpy_at {i q : Nat} {w f : Nat → Int} (h : q < i) : cpy i w f q = w q := if_pos h
theorem cpy_8 (hf : Nat → Nat → Int) (h9 : Nat) (w f : Nat → Int) (h : ∀ q, q < 8 → w q = hf h9 q) : fl 8 (ub hf h9 (cpy 8 w f)) = fl 8 hf := fl_cong (by omega) (fun i j hj => by
  by_cases e : i = h9
  · subst e; rw [ub_s, cpy_at hj]; exact h j hj
  · rw [ub_n _ _ e])
theorem tkn_out {n q : Nat} {w g : Nat → Int} (h : q = 0 ∨ n ≤ q) : tkn n w g q = g q := by unfold tkn; rw [if_neg (by omega)]
theorem row_end {n : Nat} {w g X : Nat → Int} (h1 : ∀ q, 1 ≤ q → q < n → X q = w q) (h2 : ∀ q, n ≤ q → X q = g q) (hn : 1 ≤ n) : ub X 0 (g 0) = tkn n w g := by
  funext q
  by_cases e : q = 0
  · subst e; rw [ub_s, tkn_out (Or.inl rfl)]
  · rw [ub_n _ _ e]
    rcases Nat.lt_or_ge q n with h | h
    · rw [tkn_in (by omega) h, h1 q (by omega) h]
    · rw [tkn_out (Or.inr h), h2 q h]
theorem bcm_w {n : Nat} {M : Nat → Nat → Int} {d g : Nat → Int} {w9 : Int} (h : 2 ≤ w9 ∧ w9 ≤ 4) : bcm n M d g w9 (bcw n M g w9) := by
  unfold bcm bcw
  rcases (show w9 = 2 ∨ w9 = 3 ∨ w9 = 4 by omega) with e | e | e
  · subst e; exact Or.inr (Or.inr (Or.inl ⟨rfl, if_pos rfl⟩))
  · subst e; exact Or.inr (Or.inr (Or.inr (Or.inl ⟨rfl, by rw [if_neg (by decide), if_pos rfl]⟩)))
  · subst e; exact Or.inr (Or.inr (Or.inr (Or.inr ⟨rfl, by rw [if_neg (by decide), if_neg (by decide)]⟩)))
end ModPic5
set_option maxHeartbeats 4000000 in
set_option maxRecDepth 100000 in
theorem c_X6_fills (l : Launch) (D : va_G) (ty : Nat → ClassId) (ad : Nat → Nat) (ct : rm_C) (sz : Nat) (th : Int) (yc hc : Nat) (yn : Nat → Nat) (yM : Nat → Nat → Nat → Int) (yu : Nat → Int) (hy : Nat → Nat) (hg hf mA : Nat → Nat → Int) (pt ro ke kt mu sl tw bw de : Nat → Int) (hMo : ModAt ty ad ct th yc hc yn yM yu hy hg hf mA pt ro ke kt mu sl tw bw de) (h9 : Nat) (hh9 : h9 < 20) (hyh : hy h9 < 6) (hn9 : 2 ≤ yn (hy h9) ∧ yn (hy h9) ≤ 8) (hM9 : ∀ i j, 0 ≤ yM (hy h9) i j ∧ yM (hy h9) i j ≤ 3) (hys : yst (yn (hy h9)) (yM (hy h9))) (hms : mst9 (yn (hy h9)) (yM (hy h9))) : Met l yX6_fills wsX6_fills ({ frames := 5, cells := 0, slots := 0, locals := 118 }) (rm_P D ty ad ct sz [.ref (ad 1000), .int (jI ((h9 : Nat) : Int))]) (rm_Qv D ad ct sz 0 (fun ct1 => ∃ X v mu1 : Nat → Int, ct1 1005 = some (rl ty 160 (fl 8 (ub hg h9 X))) ∧ ct1 1006 = some (rl ty 160 (fl 8 (ub hf h9 v))) ∧ ct1 1012 = some (rl ty 8 mu1) ∧ (∀ q, 1 ≤ q → q < (yn (hy h9)) → mu1 q = lft (yn (hy h9)) (yM (hy h9)) q) ∧ (∀ q, (yn (hy h9)) ≤ q → X q = hg h9 q) ∧ (∀ q, q ≠ 1005 → q ≠ 1006 → q ≠ 1012 → ct1 q = ct q))) 0 0 (rm_A ad ct sz) := by
  refine Met.ofW (cc := cX6_fills) (maxL := 4) (ret := none) (by decide) rfl ?_
  intro p e s m args below meth c s₁ B hml hv
  obtain ⟨hargs, hsz, hW, hK, hNw⟩ := hv
  have hx := B.exec
  have hb := B.bytes
  have hr := B.returns
  have hts := atoms_spec (ws := wsX6_fills) B.pre
  have hown : s.vm.findClass RX6 = some m.cls := findClass_of_methodNamed B.named
  have hlocks := B.notSynchronized
  subst hsz
  have hW := hW.own (sz := s.heap.size)
  have hA : ∀ q : Nat, s.heap.size ≤ q → rm_A ad ct s.heap.size q := fun q h => Or.inr h
  have hS : va_S (rm_A ad ct s.heap.size) s.heap s.heap [] := va_S.rf
  have hent : entryFrame m args 4 = entryFrame m ([.ref (ad 1000), .int (jI ((h9 : Nat) : Int))] : List Value).toArray 4 := by rw [hargs]
  have hl := lv_entry ([.ref (ad 1000), .int (jI ((h9 : Nat) : Int))]) (n := 4) (Nat.le_of_ble_eq_true rfl)
  rw [hent, lg_entry_eq]
  generalize (lg_sl ([.ref (ad 1000), .int (jI ((h9 : Nat) : Int))]) ++ List.replicate (4 - (lg_sl ([.ref (ad 1000), .int (jI ((h9 : Nat) : Int))])).length) Slot.unset).toArray = ls at hl ⊢
  have hl : lv_has ls 4 [(0, .ref (ad 1000)), (1, .int (jI ((h9 : Nat) : Int)))] := hl
  refine lv_aload_n hx hb dX6_fills_0 rfl (lv_at hl 0 rfl) ?_
  refine rm_get (ci := 6) (v := .ref (ad 1003)) (C := RX6) (T := TX6) (N := 19) hx hb hts (by decide +kernel) hown hK hW hMo.1 rfl 5 (by decide) (hts (.fieldLink RX6 16 "GrainYardModel" "yardOf" "[I") (by decide +kernel)) (fun _ h9 => h9) rfl dX6_fills_1 ?_
  refine lv_iload_n hx hb dX6_fills_4 rfl (lv_at hl 1 rfl) ?_
  refine rm_iald hx hb hK hW (f := (fun y => ((hy y : Nat) : Int))) hMo.2.2.2.1 h9 rfl (by omega) (by omega) dX6_fills_5 ?_
  refine lv_istore_n (lv' := [(2, .int (jI ((hy h9 : Nat) : Int))), (0, .ref (ad 1000)), (1, .int (jI ((h9 : Nat) : Int)))]) hx hb dX6_fills_6 rfl hl (by decide) rfl (fun ls hl => ?_)
  refine lv_iconst (v := jI 1) hx hb dX6_fills_7 rfl ?_
  refine lv_istore_n (lv' := [(3, .int (jI 1)), (2, .int (jI ((hy h9 : Nat) : Int))), (0, .ref (ad 1000)), (1, .int (jI ((h9 : Nat) : Int)))]) hx hb dX6_fills_8 rfl hl (by decide) rfl (fun ls hl => ?_)
  have h05 : ct 1005 = some (rl ty 160 (fl 8 (ub hg h9 (tkn (0 + 1) (ful2 (yn (hy h9)) (yM (hy h9))) (hg h9))))) := hMo.2.2.2.2.2.1.trans (congrArg (fun G => some (rl ty 160 (fl 8 G))) (by rw [← tkn_0, ub_self]))
  have hdr := fun q => dg_rng8 hM9 hn9.2 q
  have LP : ∀ (k : Nat) (i8 : Nat) (hi8 : i8 + 1 ≤ (yn (hy h9))), (yn (hy h9)) - i8 < k → ∀ (ctv : rm_C) (H : Heap) (locs : List Loc), (ctv 1005 = some (rl ty 160 (fl 8 (ub hg h9 (tkn (i8 + 1) (ful2 (yn (hy h9)) (yM (hy h9))) (hg h9)))))) → ∀ (_ : True), (ctv 1006 = some (rl ty 160 (fl 8 hf))) → ∀ (_ : True), (ctv 1012 = some (rl ty 8 mu)) → ∀ (_ : True), (∀ q, q ≠ 1005 → q ≠ 1006 → q ≠ 1012 → ctv q = ct q) → ∀ (_ : True), rm_W D ad ctv (rm_A ad ct s.heap.size) H → va_S (rm_A ad ct s.heap.size) s.heap H locs → ∀ ls : Array Slot, lv_has ls 4 [(3, .int (jI (((i8 + 1) : Nat) : Int))), (0, .ref (ad 1000)), (1, .int (jI ((h9 : Nat) : Int))), (2, .int (jI (((hy h9) : Nat) : Int)))] → W p l e (headSpec wsX6_fills ({ frames := 5, cells := 0, slots := 0, locals := 118 })).room s m args below meth c H locs 0 0 (MQ below (rm_Qv D ad ct s.heap.size 0 (fun ct1 => ∃ X v mu1 : Nat → Int, ct1 1005 = some (rl ty 160 (fl 8 (ub hg h9 X))) ∧ ct1 1006 = some (rl ty 160 (fl 8 (ub hf h9 v))) ∧ ct1 1012 = some (rl ty 8 mu1) ∧ (∀ q, 1 ≤ q → q < (yn (hy h9)) → mu1 q = lft (yn (hy h9)) (yM (hy h9)) q) ∧ (∀ q, (yn (hy h9)) ≤ q → X q = hg h9 q) ∧ (∀ q, q ≠ 1005 → q ≠ 1006 → q ≠ 1012 → ct1 q = ct q))) args s 0 0 (rm_A ad ct s.heap.size)) (F0 m 9 ls []) := by
    intro k
    induction k with
    | zero => intro i8 hi8 hk; exact absurd hk (Nat.not_lt_zero _)
    | succ k ih_LP =>
      intro i8 hi8 hk ctv_1 H locs hv0_1 _ hv1_1 _ hv2_1 _ hofv_1 _ hW hS ls hl
      refine lv_iload_n hx hb dX6_fills_9 rfl (lv_at hl 0 rfl) ?_
      refine lv_aload_n hx hb dX6_fills_10 rfl (lv_at hl 1 rfl) ?_
      refine lv_iload_n hx hb dX6_fills_11 rfl (lv_at hl 2 rfl) ?_
      refine rm_calli (va_runV (As := [.int (jI ((h9 : Nat) : Int))]) (rest := [.int (jI (((i8 + 1) : Nat) : Int))]) ⟨hx, hb, hml, hown, hts⟩ (c_X6_size l D ty ad ctv_1 H.size th yc hc yn yM yu hy (ub hg h9 (tkn (i8 + 1) (ful2 (yn (hy h9)) (yM (hy h9))) (hg h9))) hf mA pt ro ke kt mu sl tw bw de ⟨((hofv_1 1000 (by omega) (by omega) (by omega)).trans hMo.1), ((hofv_1 1001 (by omega) (by omega) (by omega)).trans hMo.2.1), ((hofv_1 1002 (by omega) (by omega) (by omega)).trans hMo.2.2.1), ((hofv_1 1003 (by omega) (by omega) (by omega)).trans hMo.2.2.2.1), ((hofv_1 1004 (by omega) (by omega) (by omega)).trans hMo.2.2.2.2.1), hv0_1, hv1_1, ((hofv_1 1007 (by omega) (by omega) (by omega)).trans hMo.2.2.2.2.2.2.2.1), ((hofv_1 1008 (by omega) (by omega) (by omega)).trans hMo.2.2.2.2.2.2.2.2.1), ((hofv_1 1009 (by omega) (by omega) (by omega)).trans hMo.2.2.2.2.2.2.2.2.2.1), ((hofv_1 1010 (by omega) (by omega) (by omega)).trans hMo.2.2.2.2.2.2.2.2.2.2.1), ((hofv_1 1011 (by omega) (by omega) (by omega)).trans hMo.2.2.2.2.2.2.2.2.2.2.2.1), hv2_1, ((hofv_1 1013 (by omega) (by omega) (by omega)).trans hMo.2.2.2.2.2.2.2.2.2.2.2.2.2.1), ((hofv_1 1014 (by omega) (by omega) (by omega)).trans hMo.2.2.2.2.2.2.2.2.2.2.2.2.2.2.1), ((hofv_1 1015 (by omega) (by omega) (by omega)).trans hMo.2.2.2.2.2.2.2.2.2.2.2.2.2.2.2.1), ((hofv_1 1016 (by omega) (by omega) (by omega)).trans hMo.2.2.2.2.2.2.2.2.2.2.2.2.2.2.2.2)⟩ h9 hh9 hyh) (cwV 1 hts gX6_fills_X6_size rfl rfl rfl (by decide +kernel) ⟨Nat.le_of_ble_eq_true rfl, Nat.le_of_ble_eq_true rfl⟩) (rm_preV hK hNw hW ((hofv_1 1000 (by omega) (by omega) (by omega)).trans hMo.1) rfl) rfl rfl hl.1 rfl (lv_room (Nat.le_of_ble_eq_true rfl)) dX6_fills_12 ⟨Nat.zero_le _, Nat.zero_le _⟩) hW hS hA (fun z_2 ct_2 H locs hq_2 hW hS => ?_)
      obtain ⟨hz, hcc_2⟩ := hq_2
      have hcc_2 := hcc_2.symm
      subst hcc_2
      subst hz
      refine rm_icmp_ge (tgt := 45) hx hb ⟨by omega, by omega⟩ ⟨by omega, by omega⟩ dX6_fills_15 (by decide) (fun hc_3 => ?_) (fun hc_3 => ?_)
      · skip
        have hie : i8 + 1 = (yn (hy h9)) := by omega
        have hk_4 : ctv_1 1005 = some (rl ty 160 (fl 8 (ub hg h9 (tkn (yn (hy h9)) (ful2 (yn (hy h9)) (yM (hy h9))) (hg h9))))) := hv0_1.trans (congrArg (fun G => some (rl ty 160 (fl 8 G))) (by rw [hie]))
        have hGq : ∀ q, 1 ≤ q → q < (yn (hy h9)) → (tkn (yn (hy h9)) (ful2 (yn (hy h9)) (yM (hy h9))) (hg h9)) q = (ful2 (yn (hy h9)) (yM (hy h9))) q := fun q a b => tkn_in a b
        have hGs : psum (yn (hy h9)) (tkn (yn (hy h9)) (ful2 (yn (hy h9)) (yM (hy h9))) (hg h9)) ≤ 320 := by rw [psum_cong hGq]; exact ful2_sum hys
        refine lv_aload_n hx hb dX6_fills_45 rfl (lv_at hl 1 rfl) ?_
        refine lv_iload_n hx hb dX6_fills_46 rfl (lv_at hl 2 rfl) ?_
        refine rm_calll (va_runV (As := [.int (jI ((h9 : Nat) : Int))]) (rest := []) ⟨hx, hb, hml, hown, hts⟩ (c_X6_settles l D ty ad ctv_1 H.size th yc hc yn yM yu hy (ub hg h9 (tkn (yn (hy h9)) (ful2 (yn (hy h9)) (yM (hy h9))) (hg h9))) hf mA pt ro ke kt mu sl tw bw de ⟨((hofv_1 1000 (by omega) (by omega) (by omega)).trans hMo.1), ((hofv_1 1001 (by omega) (by omega) (by omega)).trans hMo.2.1), ((hofv_1 1002 (by omega) (by omega) (by omega)).trans hMo.2.2.1), ((hofv_1 1003 (by omega) (by omega) (by omega)).trans hMo.2.2.2.1), ((hofv_1 1004 (by omega) (by omega) (by omega)).trans hMo.2.2.2.2.1), hk_4, hv1_1, ((hofv_1 1007 (by omega) (by omega) (by omega)).trans hMo.2.2.2.2.2.2.2.1), ((hofv_1 1008 (by omega) (by omega) (by omega)).trans hMo.2.2.2.2.2.2.2.2.1), ((hofv_1 1009 (by omega) (by omega) (by omega)).trans hMo.2.2.2.2.2.2.2.2.2.1), ((hofv_1 1010 (by omega) (by omega) (by omega)).trans hMo.2.2.2.2.2.2.2.2.2.2.1), ((hofv_1 1011 (by omega) (by omega) (by omega)).trans hMo.2.2.2.2.2.2.2.2.2.2.2.1), hv2_1, ((hofv_1 1013 (by omega) (by omega) (by omega)).trans hMo.2.2.2.2.2.2.2.2.2.2.2.2.2.1), ((hofv_1 1014 (by omega) (by omega) (by omega)).trans hMo.2.2.2.2.2.2.2.2.2.2.2.2.2.2.1), ((hofv_1 1015 (by omega) (by omega) (by omega)).trans hMo.2.2.2.2.2.2.2.2.2.2.2.2.2.2.2.1), ((hofv_1 1016 (by omega) (by omega) (by omega)).trans hMo.2.2.2.2.2.2.2.2.2.2.2.2.2.2.2.2)⟩ h9 hh9 hyh hn9 hM9 hms (fun q a b => by rw [ub_s, hGq q a b]; exact (ful2_rng hys a b).1) (by rw [ub_s]; omega)) (cwV 1 hts gX6_fills_X6_settles rfl rfl rfl (by decide +kernel) ⟨Nat.le_of_ble_eq_true rfl, Nat.le_of_ble_eq_true rfl⟩) (rm_preV hK hNw hW ((hofv_1 1000 (by omega) (by omega) (by omega)).trans hMo.1) rfl) rfl rfl hl.1 rfl (lv_room (Nat.le_of_ble_eq_true rfl)) dX6_fills_47 ⟨Nat.zero_le _, Nat.zero_le _⟩) hW hS hA (fun z_5 ct_5 H locs hq_5 hW hS => ?_)
        obtain ⟨v, hv1, hv2, hq1, hq2, hq3⟩ := hq_5
        rw [ub_s] at hv1
        rw [ub_s, ub_ub] at hq1
        have ho_5 : ∀ q, q ≠ 1005 → q ≠ 1006 → ct_5 q = ctv_1 q := hq3
        have hof_5 : ∀ q, q ≠ 1005 → q ≠ 1006 → q ≠ 1012 → ct_5 q = ct q := fun q h0_5 h1_5 h2_5 => (ho_5 q h0_5 h1_5).trans (hofv_1 q h0_5 h1_5 h2_5)
        have hm0_5 : ct_5 1005 = some (rl ty 160 (fl 8 (ub hg h9 (gaf (yn (hy h9)) (yM (hy h9)) (tkn (yn (hy h9)) (ful2 (yn (hy h9)) (yM (hy h9))) (hg h9)) v)))) := hq1
        have hm1_5 : ct_5 1006 = some (rl ty 160 (fl 8 (ub hf h9 v))) := hq2
        have hm2_5 : ct_5 1012 = some (rl ty 8 mu) := (ho_5 1012 (by omega) (by omega)).trans hv2_1
        refine lv_pop2_2 hx hb dX6_fills_50 rfl ?_
        refine lv_iconst (v := jI 1) hx hb dX6_fills_51 rfl ?_
        refine lv_istore_n (lv' := [(3, .int (jI 1)), (0, .ref (ad 1000)), (1, .int (jI ((h9 : Nat) : Int))), (2, .int (jI (((hy h9) : Nat) : Int)))]) hx hb dX6_fills_52 rfl hl (by decide) rfl (fun ls hl => ?_)
        have LQ : ∀ (k : Nat) (i8 : Nat) (hi8 : i8 + 1 ≤ (yn (hy h9))), (yn (hy h9)) - i8 < k → ∀ (ctv : rm_C) (H : Heap) (locs : List Loc), (ctv 1005 = some (rl ty 160 (fl 8 (ub hg h9 (gaf (yn (hy h9)) (yM (hy h9)) (tkn (yn (hy h9)) (ful2 (yn (hy h9)) (yM (hy h9))) (hg h9)) v))))) → ∀ (_ : True), (ctv 1006 = some (rl ty 160 (fl 8 (ub hf h9 v)))) → ∀ (_ : True), (ctv 1012 = some (rl ty 8 (tkn (i8 + 1) (lft (yn (hy h9)) (yM (hy h9))) mu))) → ∀ (_ : True), (∀ q, q ≠ 1005 → q ≠ 1006 → q ≠ 1012 → ctv q = ct q) → ∀ (_ : True), rm_W D ad ctv (rm_A ad ct s.heap.size) H → va_S (rm_A ad ct s.heap.size) s.heap H locs → ∀ ls : Array Slot, lv_has ls 4 [(3, .int (jI (((i8 + 1) : Nat) : Int))), (0, .ref (ad 1000)), (1, .int (jI ((h9 : Nat) : Int))), (2, .int (jI (((hy h9) : Nat) : Int)))] → W p l e (headSpec wsX6_fills ({ frames := 5, cells := 0, slots := 0, locals := 118 })).room s m args below meth c H locs 0 0 (MQ below (rm_Qv D ad ct s.heap.size 0 (fun ct1 => ∃ X v mu1 : Nat → Int, ct1 1005 = some (rl ty 160 (fl 8 (ub hg h9 X))) ∧ ct1 1006 = some (rl ty 160 (fl 8 (ub hf h9 v))) ∧ ct1 1012 = some (rl ty 8 mu1) ∧ (∀ q, 1 ≤ q → q < (yn (hy h9)) → mu1 q = lft (yn (hy h9)) (yM (hy h9)) q) ∧ (∀ q, (yn (hy h9)) ≤ q → X q = hg h9 q) ∧ (∀ q, q ≠ 1005 → q ≠ 1006 → q ≠ 1012 → ct1 q = ct q))) args s 0 0 (rm_A ad ct s.heap.size)) (F0 m 53 ls []) := by
          intro k
          induction k with
          | zero => intro i8 hi8 hk; exact absurd hk (Nat.not_lt_zero _)
          | succ k ih_LQ =>
            intro i8 hi8 hk ctv_6 H locs hv0_6 _ hv1_6 _ hv2_6 _ hofv_6 _ hW hS ls hl
            refine lv_iload_n hx hb dX6_fills_53 rfl (lv_at hl 0 rfl) ?_
            refine lv_aload_n hx hb dX6_fills_54 rfl (lv_at hl 1 rfl) ?_
            refine lv_iload_n hx hb dX6_fills_55 rfl (lv_at hl 2 rfl) ?_
            refine rm_calli (va_runV (As := [.int (jI ((h9 : Nat) : Int))]) (rest := [.int (jI (((i8 + 1) : Nat) : Int))]) ⟨hx, hb, hml, hown, hts⟩ (c_X6_size l D ty ad ctv_6 H.size th yc hc yn yM yu hy (ub hg h9 (gaf (yn (hy h9)) (yM (hy h9)) (tkn (yn (hy h9)) (ful2 (yn (hy h9)) (yM (hy h9))) (hg h9)) v)) (ub hf h9 v) mA pt ro ke kt (tkn (i8 + 1) (lft (yn (hy h9)) (yM (hy h9))) mu) sl tw bw de ⟨((hofv_6 1000 (by omega) (by omega) (by omega)).trans hMo.1), ((hofv_6 1001 (by omega) (by omega) (by omega)).trans hMo.2.1), ((hofv_6 1002 (by omega) (by omega) (by omega)).trans hMo.2.2.1), ((hofv_6 1003 (by omega) (by omega) (by omega)).trans hMo.2.2.2.1), ((hofv_6 1004 (by omega) (by omega) (by omega)).trans hMo.2.2.2.2.1), hv0_6, hv1_6, ((hofv_6 1007 (by omega) (by omega) (by omega)).trans hMo.2.2.2.2.2.2.2.1), ((hofv_6 1008 (by omega) (by omega) (by omega)).trans hMo.2.2.2.2.2.2.2.2.1), ((hofv_6 1009 (by omega) (by omega) (by omega)).trans hMo.2.2.2.2.2.2.2.2.2.1), ((hofv_6 1010 (by omega) (by omega) (by omega)).trans hMo.2.2.2.2.2.2.2.2.2.2.1), ((hofv_6 1011 (by omega) (by omega) (by omega)).trans hMo.2.2.2.2.2.2.2.2.2.2.2.1), hv2_6, ((hofv_6 1013 (by omega) (by omega) (by omega)).trans hMo.2.2.2.2.2.2.2.2.2.2.2.2.2.1), ((hofv_6 1014 (by omega) (by omega) (by omega)).trans hMo.2.2.2.2.2.2.2.2.2.2.2.2.2.2.1), ((hofv_6 1015 (by omega) (by omega) (by omega)).trans hMo.2.2.2.2.2.2.2.2.2.2.2.2.2.2.2.1), ((hofv_6 1016 (by omega) (by omega) (by omega)).trans hMo.2.2.2.2.2.2.2.2.2.2.2.2.2.2.2.2)⟩ h9 hh9 hyh) (cwV 1 hts gX6_fills_X6_size rfl rfl rfl (by decide +kernel) ⟨Nat.le_of_ble_eq_true rfl, Nat.le_of_ble_eq_true rfl⟩) (rm_preV hK hNw hW ((hofv_6 1000 (by omega) (by omega) (by omega)).trans hMo.1) rfl) rfl rfl hl.1 rfl (lv_room (Nat.le_of_ble_eq_true rfl)) dX6_fills_56 ⟨Nat.zero_le _, Nat.zero_le _⟩) hW hS hA (fun z_7 ct_7 H locs hq_7 hW hS => ?_)
            obtain ⟨hz, hcc_7⟩ := hq_7
            have hcc_7 := hcc_7.symm
            subst hcc_7
            subst hz
            refine rm_icmp_ge (tgt := 101) hx hb ⟨by omega, by omega⟩ ⟨by omega, by omega⟩ dX6_fills_59 (by decide) (fun hc_8 => ?_) (fun hc_8 => ?_)
            · skip
              have hie : i8 + 1 = (yn (hy h9)) := by omega
              exact W.vret hx hb hr (fun t ht hw => ⟨⟨ctv_6, rfl, ⟨(gaf (yn (hy h9)) (yM (hy h9)) (tkn (yn (hy h9)) (ful2 (yn (hy h9)) (yM (hy h9))) (hg h9)) v), v, _, hv0_6, hv1_6, hv2_6, fun q a b => tkn_in (n := i8 + 1) a (by omega), fun q hq => (if_neg (by omega)).trans (tkn_out (Or.inr hq)), fun q h0 h1 h2 => hofv_6 q h0 h1 h2⟩, by show rm_W D ad _ _ t.heap; rw [ht]; exact hW, Or.inl rfl⟩, hS.F ht⟩) hS.2.2 dX6_fills_101
            · skip
              refine lv_aload_n hx hb dX6_fills_62 rfl (lv_at hl 1 rfl) ?_
              refine rm_get (ci := 6) (v := .ref (ad 1012)) (C := RX6) (T := TX6) (N := 19) hx hb hts (by decide +kernel) hown hK hW ((hofv_6 1000 (by omega) (by omega) (by omega)).trans hMo.1) rfl 14 (by decide) (hts (.fieldLink RX6 45 "GrainYardModel" "much" "[J") (by decide +kernel)) (fun _ h9 => h9) rfl dX6_fills_63 ?_
              refine lv_iload_n hx hb dX6_fills_66 rfl (lv_at hl 0 rfl) ?_
              refine rm_ldc2 (z := 2) hx hb hown (hts (.constantLong RX6 159 (2)) (by decide +kernel)) (by decide) dX6_fills_67 ?_
              refine lv_aload_n hx hb dX6_fills_70 rfl (lv_at hl 1 rfl) ?_
              refine lv_iload_n hx hb dX6_fills_71 rfl (lv_at hl 3 rfl) ?_
              refine lv_iload_n hx hb dX6_fills_72 rfl (lv_at hl 0 rfl) ?_
              refine rm_calli (va_runV (As := [.int (jI (((hy h9) : Nat) : Int)), .int (jI (((i8 + 1) : Nat) : Int))]) (rest := [.long (jL 2), .int (jI (((i8 + 1) : Nat) : Int)), .ref (ad 1012)]) ⟨hx, hb, hml, hown, hts⟩ (c_X6_degreeOf l D ty ad ctv_6 H.size th yc hc yn yM yu hy (ub hg h9 (gaf (yn (hy h9)) (yM (hy h9)) (tkn (yn (hy h9)) (ful2 (yn (hy h9)) (yM (hy h9))) (hg h9)) v)) (ub hf h9 v) mA pt ro ke kt (tkn (i8 + 1) (lft (yn (hy h9)) (yM (hy h9))) mu) sl tw bw de ⟨((hofv_6 1000 (by omega) (by omega) (by omega)).trans hMo.1), ((hofv_6 1001 (by omega) (by omega) (by omega)).trans hMo.2.1), ((hofv_6 1002 (by omega) (by omega) (by omega)).trans hMo.2.2.1), ((hofv_6 1003 (by omega) (by omega) (by omega)).trans hMo.2.2.2.1), ((hofv_6 1004 (by omega) (by omega) (by omega)).trans hMo.2.2.2.2.1), hv0_6, hv1_6, ((hofv_6 1007 (by omega) (by omega) (by omega)).trans hMo.2.2.2.2.2.2.2.1), ((hofv_6 1008 (by omega) (by omega) (by omega)).trans hMo.2.2.2.2.2.2.2.2.1), ((hofv_6 1009 (by omega) (by omega) (by omega)).trans hMo.2.2.2.2.2.2.2.2.2.1), ((hofv_6 1010 (by omega) (by omega) (by omega)).trans hMo.2.2.2.2.2.2.2.2.2.2.1), ((hofv_6 1011 (by omega) (by omega) (by omega)).trans hMo.2.2.2.2.2.2.2.2.2.2.2.1), hv2_6, ((hofv_6 1013 (by omega) (by omega) (by omega)).trans hMo.2.2.2.2.2.2.2.2.2.2.2.2.2.1), ((hofv_6 1014 (by omega) (by omega) (by omega)).trans hMo.2.2.2.2.2.2.2.2.2.2.2.2.2.2.1), ((hofv_6 1015 (by omega) (by omega) (by omega)).trans hMo.2.2.2.2.2.2.2.2.2.2.2.2.2.2.2.1), ((hofv_6 1016 (by omega) (by omega) (by omega)).trans hMo.2.2.2.2.2.2.2.2.2.2.2.2.2.2.2.2)⟩ (hy h9) hyh hn9 hM9 (i8 + 1) (by omega)) (cwV 2 hts gX6_fills_X6_degreeOf rfl rfl rfl (by decide +kernel) ⟨Nat.le_of_ble_eq_true rfl, Nat.le_of_ble_eq_true rfl⟩) (rm_preV hK hNw hW ((hofv_6 1000 (by omega) (by omega) (by omega)).trans hMo.1) rfl) rfl rfl hl.1 rfl (lv_room (Nat.le_of_ble_eq_true rfl)) dX6_fills_73 ⟨Nat.zero_le _, Nat.zero_le _⟩) hW hS hA (fun z_9 ct_9 H locs hq_9 hW hS => ?_)
              obtain ⟨hz, hcc_9⟩ := hq_9
              have hcc_9 := hcc_9.symm
              subst hcc_9
              subst hz
              have hdq := hdr (i8 + 1)
              refine rm_i2l hx hb dX6_fills_76 ⟨by omega, by omega⟩ ?_
              refine rm_lmul hx hb dX6_fills_77 ?_
              refine rm_ldc2 (z := 2) hx hb hown (hts (.constantLong RX6 159 (2)) (by decide +kernel)) (by decide) dX6_fills_78 ?_
              refine rm_lsub hx hb dX6_fills_81 ?_
              refine lv_aload_n hx hb dX6_fills_82 rfl (lv_at hl 1 rfl) ?_
              refine rm_get (ci := 6) (v := .ref (ad 1005)) (C := RX6) (T := TX6) (N := 19) hx hb hts (by decide +kernel) hown hK hW ((hofv_6 1000 (by omega) (by omega) (by omega)).trans hMo.1) rfl 7 (by decide) (hts (.fieldLink RX6 23 "GrainYardModel" "grains" "[J") (by decide +kernel)) (fun _ h9 => h9) rfl dX6_fills_83 ?_
              refine lv_bipush (v := jI 8) hx hb dX6_fills_86 (by decide) ?_
              refine lv_iload_n hx hb dX6_fills_88 rfl (lv_at hl 2 rfl) ?_
              refine rm_imul hx hb dX6_fills_89 ?_
              refine lv_iload_n hx hb dX6_fills_90 rfl (lv_at hl 0 rfl) ?_
              refine rm_iadd hx hb dX6_fills_91 ?_
              refine rm_lald hx hb hK hW (f := (fl 8 (ub hg h9 (gaf (yn (hy h9)) (yM (hy h9)) (tkn (yn (hy h9)) (ful2 (yn (hy h9)) (yM (hy h9))) (hg h9)) v)))) hv0_6 (8 * h9 + (i8 + 1)) (by first | rfl | (push_cast; omega)) (by omega) (by omega) dX6_fills_92 ?_
              rw [fl_at (by omega), ub_s]
              refine rm_lsub hx hb dX6_fills_93 ?_
              refine rm_last hx hb hK hW hS (f := (tkn (i8 + 1) (lft (yn (hy h9)) (yM (hy h9))) mu)) hv2_6 (i8 + 1) rfl (by omega) (by omega) dX6_fills_94 (fun H locs ct_10 hs_10 ho_10 hW hS hz_10 => ?_)
              have hof_10 : ∀ q, q ≠ 1005 → q ≠ 1006 → q ≠ 1012 → ct_10 q = ct q := fun q h0_10 h1_10 h2_10 => (ho_10 q h2_10).trans (hofv_6 q h0_10 h1_10 h2_10)
              have hm0_10 : ct_10 1005 = some (rl ty 160 (fl 8 (ub hg h9 (gaf (yn (hy h9)) (yM (hy h9)) (tkn (yn (hy h9)) (ful2 (yn (hy h9)) (yM (hy h9))) (hg h9)) v)))) := (ho_10 1005 (by omega)).trans hv0_6
              have hm1_10 : ct_10 1006 = some (rl ty 160 (fl 8 (ub hf h9 v))) := (ho_10 1006 (by omega)).trans hv1_6
              have hk_11 : ct_10 1012 = some (rl ty 8 (tkn ((i8 + 1) + 1) (lft (yn (hy h9)) (yM (hy h9))) mu)) := hs_10.trans (congrArg (fun f => some (rl ty 8 f)) ((by rw [show 2 * dg (yn (hy h9)) (yM (hy h9)) (i8 + 1) - 2 - (gaf (yn (hy h9)) (yM (hy h9)) (tkn (yn (hy h9)) (ful2 (yn (hy h9)) (yM (hy h9))) (hg h9)) v) (i8 + 1) = lft (yn (hy h9)) (yM (hy h9)) (i8 + 1) from lft_of (g := hg h9) hGq hv1 (by omega) (by omega)]; exact tkn_s (by omega))))
              refine lv_iinc (v := jI ((((i8 + 1) : Nat) : Int) + 1)) (lv' := [(3, .int (jI ((((i8 + 1) : Nat) : Int) + 1))), (0, .ref (ad 1000)), (1, .int (jI ((h9 : Nat) : Int))), (2, .int (jI (((hy h9) : Nat) : Int)))]) hx hb dX6_fills_95 hl (k := 0) rfl (jI_add _ _) (by decide) rfl (fun ls hl => ?_)
              refine lv_goto (tgt := 53) hx hb dX6_fills_98 (by decide) ?_
              exact ih_LQ (i8 + 1) (by omega) (by omega) ct_10 _ _ hm0_10 trivial hm1_10 trivial hk_11 trivial hof_10 trivial hW hS ls (lv_sub hl [0, 1, 2, 3] rfl)
        exact LQ ((yn (hy h9)) + 1) (0) (by omega) (by omega) ct_5 _ _ hm0_5 trivial hm1_5 trivial (hm2_5.trans (congrArg (fun f => some (rl ty 8 f)) (tkn_0 _ _))) trivial hof_5 trivial hW hS ls (lv_sub hl [0, 1, 2, 3] rfl)
      · skip
        refine lv_aload_n hx hb dX6_fills_18 rfl (lv_at hl 1 rfl) ?_
        refine lv_iload_n hx hb dX6_fills_19 rfl (lv_at hl 2 rfl) ?_
        refine lv_iload_n hx hb dX6_fills_20 rfl (lv_at hl 0 rfl) ?_
        refine rm_ldc2 (z := 2) hx hb hown (hts (.constantLong RX6 159 (2)) (by decide +kernel)) (by decide) dX6_fills_21 ?_
        refine lv_aload_n hx hb dX6_fills_24 rfl (lv_at hl 1 rfl) ?_
        refine lv_iload_n hx hb dX6_fills_25 rfl (lv_at hl 3 rfl) ?_
        refine lv_iload_n hx hb dX6_fills_26 rfl (lv_at hl 0 rfl) ?_
        refine rm_calli (va_runV (As := [.int (jI (((hy h9) : Nat) : Int)), .int (jI (((i8 + 1) : Nat) : Int))]) (rest := [.long (jL 2), .int (jI (((i8 + 1) : Nat) : Int)), .int (jI ((h9 : Nat) : Int)), .ref (ad 1000)]) ⟨hx, hb, hml, hown, hts⟩ (c_X6_degreeOf l D ty ad ctv_1 H.size th yc hc yn yM yu hy (ub hg h9 (tkn (i8 + 1) (ful2 (yn (hy h9)) (yM (hy h9))) (hg h9))) hf mA pt ro ke kt mu sl tw bw de ⟨((hofv_1 1000 (by omega) (by omega) (by omega)).trans hMo.1), ((hofv_1 1001 (by omega) (by omega) (by omega)).trans hMo.2.1), ((hofv_1 1002 (by omega) (by omega) (by omega)).trans hMo.2.2.1), ((hofv_1 1003 (by omega) (by omega) (by omega)).trans hMo.2.2.2.1), ((hofv_1 1004 (by omega) (by omega) (by omega)).trans hMo.2.2.2.2.1), hv0_1, hv1_1, ((hofv_1 1007 (by omega) (by omega) (by omega)).trans hMo.2.2.2.2.2.2.2.1), ((hofv_1 1008 (by omega) (by omega) (by omega)).trans hMo.2.2.2.2.2.2.2.2.1), ((hofv_1 1009 (by omega) (by omega) (by omega)).trans hMo.2.2.2.2.2.2.2.2.2.1), ((hofv_1 1010 (by omega) (by omega) (by omega)).trans hMo.2.2.2.2.2.2.2.2.2.2.1), ((hofv_1 1011 (by omega) (by omega) (by omega)).trans hMo.2.2.2.2.2.2.2.2.2.2.2.1), hv2_1, ((hofv_1 1013 (by omega) (by omega) (by omega)).trans hMo.2.2.2.2.2.2.2.2.2.2.2.2.2.1), ((hofv_1 1014 (by omega) (by omega) (by omega)).trans hMo.2.2.2.2.2.2.2.2.2.2.2.2.2.2.1), ((hofv_1 1015 (by omega) (by omega) (by omega)).trans hMo.2.2.2.2.2.2.2.2.2.2.2.2.2.2.2.1), ((hofv_1 1016 (by omega) (by omega) (by omega)).trans hMo.2.2.2.2.2.2.2.2.2.2.2.2.2.2.2.2)⟩ (hy h9) hyh hn9 hM9 (i8 + 1) (by omega)) (cwV 2 hts gX6_fills_X6_degreeOf rfl rfl rfl (by decide +kernel) ⟨Nat.le_of_ble_eq_true rfl, Nat.le_of_ble_eq_true rfl⟩) (rm_preV hK hNw hW ((hofv_1 1000 (by omega) (by omega) (by omega)).trans hMo.1) rfl) rfl rfl hl.1 rfl (lv_room (Nat.le_of_ble_eq_true rfl)) dX6_fills_27 ⟨Nat.zero_le _, Nat.zero_le _⟩) hW hS hA (fun z_12 ct_12 H locs hq_12 hW hS => ?_)
        obtain ⟨hz, hcc_12⟩ := hq_12
        have hcc_12 := hcc_12.symm
        subst hcc_12
        subst hz
        have hdq := hdr (i8 + 1)
        refine rm_i2l hx hb dX6_fills_30 ⟨by omega, by omega⟩ ?_
        refine rm_lmul hx hb dX6_fills_31 ?_
        refine rm_ldc2 (z := 2) hx hb hown (hts (.constantLong RX6 159 (2)) (by decide +kernel)) (by decide) dX6_fills_32 ?_
        refine rm_lsub hx hb dX6_fills_35 ?_
        refine rm_callv (va_runV (As := [.int (jI ((h9 : Nat) : Int)), .int (jI (((i8 + 1) : Nat) : Int)), .long (jL ((2 * (dg (yn (hy h9)) (yM (hy h9)) (i8 + 1))) - 2))]) (rest := []) ⟨hx, hb, hml, hown, hts⟩ (c_X6_sets l D ty ad ctv_1 H.size th yc hc yn yM yu hy (ub hg h9 (tkn (i8 + 1) (ful2 (yn (hy h9)) (yM (hy h9))) (hg h9))) hf mA pt ro ke kt mu sl tw bw de ⟨((hofv_1 1000 (by omega) (by omega) (by omega)).trans hMo.1), ((hofv_1 1001 (by omega) (by omega) (by omega)).trans hMo.2.1), ((hofv_1 1002 (by omega) (by omega) (by omega)).trans hMo.2.2.1), ((hofv_1 1003 (by omega) (by omega) (by omega)).trans hMo.2.2.2.1), ((hofv_1 1004 (by omega) (by omega) (by omega)).trans hMo.2.2.2.2.1), hv0_1, hv1_1, ((hofv_1 1007 (by omega) (by omega) (by omega)).trans hMo.2.2.2.2.2.2.2.1), ((hofv_1 1008 (by omega) (by omega) (by omega)).trans hMo.2.2.2.2.2.2.2.2.1), ((hofv_1 1009 (by omega) (by omega) (by omega)).trans hMo.2.2.2.2.2.2.2.2.2.1), ((hofv_1 1010 (by omega) (by omega) (by omega)).trans hMo.2.2.2.2.2.2.2.2.2.2.1), ((hofv_1 1011 (by omega) (by omega) (by omega)).trans hMo.2.2.2.2.2.2.2.2.2.2.2.1), hv2_1, ((hofv_1 1013 (by omega) (by omega) (by omega)).trans hMo.2.2.2.2.2.2.2.2.2.2.2.2.2.1), ((hofv_1 1014 (by omega) (by omega) (by omega)).trans hMo.2.2.2.2.2.2.2.2.2.2.2.2.2.2.1), ((hofv_1 1015 (by omega) (by omega) (by omega)).trans hMo.2.2.2.2.2.2.2.2.2.2.2.2.2.2.2.1), ((hofv_1 1016 (by omega) (by omega) (by omega)).trans hMo.2.2.2.2.2.2.2.2.2.2.2.2.2.2.2.2)⟩ h9 (i8 + 1) _ hh9 (by omega)) (cwV 3 hts gX6_fills_X6_sets rfl rfl rfl (by decide +kernel) ⟨Nat.le_of_ble_eq_true rfl, Nat.le_of_ble_eq_true rfl⟩) (rm_preV hK hNw hW ((hofv_1 1000 (by omega) (by omega) (by omega)).trans hMo.1) rfl) rfl rfl hl.1 rfl (lv_room (Nat.le_of_ble_eq_true rfl)) dX6_fills_36 ⟨Nat.zero_le _, Nat.zero_le _⟩) hW hS hA (fun ct_13 H locs hq_13 hW hS hz_13 => ?_)
        have hqs := hq_13.1
        rw [ub_s, ub_ub, show 2 * dg (yn (hy h9)) (yM (hy h9)) (i8 + 1) - 2 = (ful2 (yn (hy h9)) (yM (hy h9))) (i8 + 1) from by unfold ful2; omega, tkn_s (by omega)] at hqs
        have ho_13 : ∀ q, q ≠ 1005 → ct_13 q = ctv_1 q := hq_13.2
        have hof_13 : ∀ q, q ≠ 1005 → q ≠ 1006 → q ≠ 1012 → ct_13 q = ct q := fun q h0_13 h1_13 h2_13 => (ho_13 q h0_13).trans (hofv_1 q h0_13 h1_13 h2_13)
        have hm0_13 : ct_13 1005 = some (rl ty 160 (fl 8 (ub hg h9 (tkn (i8 + 1 + 1) (ful2 (yn (hy h9)) (yM (hy h9))) (hg h9))))) := hqs
        have hm1_13 : ct_13 1006 = some (rl ty 160 (fl 8 hf)) := (ho_13 1006 (by omega)).trans hv1_1
        have hm2_13 : ct_13 1012 = some (rl ty 8 mu) := (ho_13 1012 (by omega)).trans hv2_1
        refine lv_iinc (v := jI ((((i8 + 1) : Nat) : Int) + 1)) (lv' := [(3, .int (jI ((((i8 + 1) : Nat) : Int) + 1))), (0, .ref (ad 1000)), (1, .int (jI ((h9 : Nat) : Int))), (2, .int (jI (((hy h9) : Nat) : Int)))]) hx hb dX6_fills_39 hl (k := 0) rfl (jI_add _ _) (by decide) rfl (fun ls hl => ?_)
        refine lv_goto (tgt := 9) hx hb dX6_fills_42 (by decide) ?_
        exact ih_LP (i8 + 1) (by omega) (by omega) ct_13 _ _ hm0_13 trivial hm1_13 trivial hm2_13 trivial hof_13 trivial hW hS ls (lv_sub hl [0, 1, 2, 3] rfl)
  exact LP ((yn (hy h9)) + 1) (0) (by omega) (by omega) ct _ _ h05 trivial hMo.2.2.2.2.2.2.1 trivial hMo.2.2.2.2.2.2.2.2.2.2.2.2.1 trivial (fun _ _ _ _ => rfl) trivial hW hS ls (lv_sub hl [0, 2, 3, 1] rfl)
set_option maxHeartbeats 4000000 in
set_option maxRecDepth 100000 in
theorem c_X6_kinds (l : Launch) (D : va_G) (ty : Nat → ClassId) (ad : Nat → Nat) (ct : rm_C) (sz : Nat) (th : Int) (yc hc : Nat) (yn : Nat → Nat) (yM : Nat → Nat → Nat → Int) (yu : Nat → Int) (hy : Nat → Nat) (hg hf mA : Nat → Nat → Int) (pt ro ke kt mu sl tw bw de : Nat → Int) (hMo : ModAt ty ad ct th yc hc yn yM yu hy hg hf mA pt ro ke kt mu sl tw bw de) (h9 : Nat) (hh9 : h9 < 20) (hyh : hy h9 < 6) (hn9 : 2 ≤ yn (hy h9) ∧ yn (hy h9) ≤ 8) (hM9 : ∀ i j, 0 ≤ yM (hy h9) i j ∧ yM (hy h9) i j ≤ 3) (hys : yst (yn (hy h9)) (yM (hy h9))) (hms : mst9 (yn (hy h9)) (yM (hy h9))) (w9 : Int) (hw9 : 2 ≤ w9 ∧ w9 ≤ 4) (hg0 : ∀ q, 1 ≤ q → q < (yn (hy h9)) → 0 ≤ hg h9 q) (hB : psum (yn (hy h9)) (hg h9) ≤ 900000000) : Met l yX6_kinds wsX6_kinds ({ frames := 6, cells := 0, slots := 0, locals := 141 }) (rm_P D ty ad ct sz [.ref (ad 1000), .int (jI ((h9 : Nat) : Int)), .int (jI w9)]) (rm_Qv D ad ct sz 0 (fun ct1 => ∃ X v mu1 sl1 : Nat → Int, ct1 1005 = some (rl ty 160 (fl 8 (ub hg h9 X))) ∧ ct1 1006 = some (rl ty 160 (fl 8 (ub hf h9 v))) ∧ ct1 1012 = some (rl ty 8 mu1) ∧ ct1 1013 = some (rl ty 8 sl1) ∧ (∀ q, 1 ≤ q → q < (yn (hy h9)) → X q = bcw (yn (hy h9)) (yM (hy h9)) (hg h9) w9 q) ∧ (∀ q, (yn (hy h9)) ≤ q → X q = hg h9 q) ∧ (∀ q, q ≠ 1005 → q ≠ 1006 → q ≠ 1012 → q ≠ 1013 → ct1 q = ct q))) 0 0 (rm_A ad ct sz) := by
  refine Met.ofW (cc := cX6_kinds) (maxL := 4) (ret := none) (by decide) rfl ?_
  intro p e s m args below meth c s₁ B hml hv
  obtain ⟨hargs, hsz, hW, hK, hNw⟩ := hv
  have hx := B.exec
  have hb := B.bytes
  have hr := B.returns
  have hts := atoms_spec (ws := wsX6_kinds) B.pre
  have hown : s.vm.findClass RX6 = some m.cls := findClass_of_methodNamed B.named
  have hlocks := B.notSynchronized
  subst hsz
  have hW := hW.own (sz := s.heap.size)
  have hA : ∀ q : Nat, s.heap.size ≤ q → rm_A ad ct s.heap.size q := fun q h => Or.inr h
  have hS : va_S (rm_A ad ct s.heap.size) s.heap s.heap [] := va_S.rf
  have hent : entryFrame m args 4 = entryFrame m ([.ref (ad 1000), .int (jI ((h9 : Nat) : Int)), .int (jI w9)] : List Value).toArray 4 := by rw [hargs]
  have hl := lv_entry ([.ref (ad 1000), .int (jI ((h9 : Nat) : Int)), .int (jI w9)]) (n := 4) (Nat.le_of_ble_eq_true rfl)
  rw [hent, lg_entry_eq]
  generalize (lg_sl ([.ref (ad 1000), .int (jI ((h9 : Nat) : Int)), .int (jI w9)]) ++ List.replicate (4 - (lg_sl ([.ref (ad 1000), .int (jI ((h9 : Nat) : Int)), .int (jI w9)])).length) Slot.unset).toArray = ls at hl ⊢
  have hl : lv_has ls 4 [(0, .ref (ad 1000)), (1, .int (jI ((h9 : Nat) : Int))), (2, .int (jI w9))] := hl
  refine lv_aload_n hx hb dX6_kinds_0 rfl (lv_at hl 0 rfl) ?_
  refine lv_iload_n hx hb dX6_kinds_1 rfl (lv_at hl 1 rfl) ?_
  refine rm_calll (va_runV (As := [.int (jI ((h9 : Nat) : Int))]) (rest := []) ⟨hx, hb, hml, hown, hts⟩ (c_X6_settles l D ty ad ct s.heap.size th yc hc yn yM yu hy hg hf mA pt ro ke kt mu sl tw bw de hMo h9 hh9 hyh hn9 hM9 hms hg0 (by omega)) (cwV 1 hts gX6_kinds_X6_settles rfl rfl rfl (by decide +kernel) ⟨Nat.le_of_ble_eq_true rfl, Nat.le_of_ble_eq_true rfl⟩) (rm_preV hK hNw hW hMo.1 rfl) rfl rfl hl.1 rfl (lv_room (Nat.le_of_ble_eq_true rfl)) dX6_kinds_2 ⟨Nat.zero_le _, Nat.zero_le _⟩) hW hS hA (fun z_1 ct_1 H locs hq_1 hW hS => ?_)
  obtain ⟨v, hv1, hv2, hq1, hq2, hq3⟩ := hq_1
  have ho_1 : ∀ q, q ≠ 1005 → q ≠ 1006 → ct_1 q = ct q := hq3
  have hof_1 : ∀ q, q ≠ 1005 → q ≠ 1006 → q ≠ 1012 → q ≠ 1013 → ct_1 q = ct q := fun q h0_1 h1_1 h2_1 h3_1 => (ho_1 q h0_1 h1_1).trans rfl
  have hm0_1 : ct_1 1005 = some (rl ty 160 (fl 8 (ub hg h9 (gaf (yn (hy h9)) (yM (hy h9)) (hg h9) v)))) := hq1
  have hm1_1 : ct_1 1006 = some (rl ty 160 (fl 8 (ub hf h9 v))) := hq2
  have hm2_1 : ct_1 1012 = some (rl ty 8 mu) := (ho_1 1012 (by omega) (by omega)).trans hMo.2.2.2.2.2.2.2.2.2.2.2.2.1
  have hm3_1 : ct_1 1013 = some (rl ty 8 sl) := (ho_1 1013 (by omega) (by omega)).trans hMo.2.2.2.2.2.2.2.2.2.2.2.2.2.1
  have hv9 := hv1
  refine lv_pop2_2 hx hb dX6_kinds_5 rfl ?_
  refine lv_iconst (v := jI 1) hx hb dX6_kinds_6 rfl ?_
  refine lv_istore_n (lv' := [(3, .int (jI 1)), (0, .ref (ad 1000)), (1, .int (jI ((h9 : Nat) : Int))), (2, .int (jI w9))]) hx hb dX6_kinds_7 rfl hl (by decide) rfl (fun ls hl => ?_)
  have LP : ∀ (k : Nat) (i8 : Nat) (hi8 : i8 + 1 ≤ (yn (hy h9))), (yn (hy h9)) - i8 < k → ∀ (ctv : rm_C) (H : Heap) (locs : List Loc), (ctv 1005 = some (rl ty 160 (fl 8 (ub hg h9 (gaf (yn (hy h9)) (yM (hy h9)) (hg h9) v))))) → ∀ (_ : True), (ctv 1006 = some (rl ty 160 (fl 8 (ub hf h9 v)))) → ∀ (_ : True), (ctv 1012 = some (rl ty 8 mu)) → ∀ (_ : True), (ctv 1013 = some (rl ty 8 (tkn (i8 + 1) (gaf (yn (hy h9)) (yM (hy h9)) (hg h9) v) sl))) → ∀ (_ : True), (∀ q, q ≠ 1005 → q ≠ 1006 → q ≠ 1012 → q ≠ 1013 → ctv q = ct q) → ∀ (_ : True), rm_W D ad ctv (rm_A ad ct s.heap.size) H → va_S (rm_A ad ct s.heap.size) s.heap H locs → ∀ ls : Array Slot, lv_has ls 4 [(3, .int (jI (((i8 + 1) : Nat) : Int))), (0, .ref (ad 1000)), (1, .int (jI ((h9 : Nat) : Int))), (2, .int (jI w9))] → W p l e (headSpec wsX6_kinds ({ frames := 6, cells := 0, slots := 0, locals := 141 })).room s m args below meth c H locs 0 0 (MQ below (rm_Qv D ad ct s.heap.size 0 (fun ct1 => ∃ X v mu1 sl1 : Nat → Int, ct1 1005 = some (rl ty 160 (fl 8 (ub hg h9 X))) ∧ ct1 1006 = some (rl ty 160 (fl 8 (ub hf h9 v))) ∧ ct1 1012 = some (rl ty 8 mu1) ∧ ct1 1013 = some (rl ty 8 sl1) ∧ (∀ q, 1 ≤ q → q < (yn (hy h9)) → X q = bcw (yn (hy h9)) (yM (hy h9)) (hg h9) w9 q) ∧ (∀ q, (yn (hy h9)) ≤ q → X q = hg h9 q) ∧ (∀ q, q ≠ 1005 → q ≠ 1006 → q ≠ 1012 → q ≠ 1013 → ct1 q = ct q))) args s 0 0 (rm_A ad ct s.heap.size)) (F0 m 8 ls []) := by
    intro k
    induction k with
    | zero => intro i8 hi8 hk; exact absurd hk (Nat.not_lt_zero _)
    | succ k ih_LP =>
      intro i8 hi8 hk ctv_2 H locs hv0_2 _ hv1_2 _ hv2_2 _ hv3_2 _ hofv_2 _ hW hS ls hl
      refine lv_iload_n hx hb dX6_kinds_8 rfl (lv_at hl 0 rfl) ?_
      refine lv_aload_n hx hb dX6_kinds_9 rfl (lv_at hl 1 rfl) ?_
      refine lv_iload_n hx hb dX6_kinds_10 rfl (lv_at hl 2 rfl) ?_
      refine rm_calli (va_runV (As := [.int (jI ((h9 : Nat) : Int))]) (rest := [.int (jI (((i8 + 1) : Nat) : Int))]) ⟨hx, hb, hml, hown, hts⟩ (c_X6_size l D ty ad ctv_2 H.size th yc hc yn yM yu hy (ub hg h9 (gaf (yn (hy h9)) (yM (hy h9)) (hg h9) v)) (ub hf h9 v) mA pt ro ke kt mu (tkn (i8 + 1) (gaf (yn (hy h9)) (yM (hy h9)) (hg h9) v) sl) tw bw de ⟨((hofv_2 1000 (by omega) (by omega) (by omega) (by omega)).trans hMo.1), ((hofv_2 1001 (by omega) (by omega) (by omega) (by omega)).trans hMo.2.1), ((hofv_2 1002 (by omega) (by omega) (by omega) (by omega)).trans hMo.2.2.1), ((hofv_2 1003 (by omega) (by omega) (by omega) (by omega)).trans hMo.2.2.2.1), ((hofv_2 1004 (by omega) (by omega) (by omega) (by omega)).trans hMo.2.2.2.2.1), hv0_2, hv1_2, ((hofv_2 1007 (by omega) (by omega) (by omega) (by omega)).trans hMo.2.2.2.2.2.2.2.1), ((hofv_2 1008 (by omega) (by omega) (by omega) (by omega)).trans hMo.2.2.2.2.2.2.2.2.1), ((hofv_2 1009 (by omega) (by omega) (by omega) (by omega)).trans hMo.2.2.2.2.2.2.2.2.2.1), ((hofv_2 1010 (by omega) (by omega) (by omega) (by omega)).trans hMo.2.2.2.2.2.2.2.2.2.2.1), ((hofv_2 1011 (by omega) (by omega) (by omega) (by omega)).trans hMo.2.2.2.2.2.2.2.2.2.2.2.1), hv2_2, hv3_2, ((hofv_2 1014 (by omega) (by omega) (by omega) (by omega)).trans hMo.2.2.2.2.2.2.2.2.2.2.2.2.2.2.1), ((hofv_2 1015 (by omega) (by omega) (by omega) (by omega)).trans hMo.2.2.2.2.2.2.2.2.2.2.2.2.2.2.2.1), ((hofv_2 1016 (by omega) (by omega) (by omega) (by omega)).trans hMo.2.2.2.2.2.2.2.2.2.2.2.2.2.2.2.2)⟩ h9 hh9 hyh) (cwV 1 hts gX6_kinds_X6_size rfl rfl rfl (by decide +kernel) ⟨Nat.le_of_ble_eq_true rfl, Nat.le_of_ble_eq_true rfl⟩) (rm_preV hK hNw hW ((hofv_2 1000 (by omega) (by omega) (by omega) (by omega)).trans hMo.1) rfl) rfl rfl hl.1 rfl (lv_room (Nat.le_of_ble_eq_true rfl)) dX6_kinds_11 ⟨Nat.zero_le _, Nat.zero_le _⟩) hW hS hA (fun z_3 ct_3 H locs hq_3 hW hS => ?_)
      obtain ⟨hz, hcc_3⟩ := hq_3
      have hcc_3 := hcc_3.symm
      subst hcc_3
      subst hz
      refine rm_icmp_ge (tgt := 40) hx hb ⟨by omega, by omega⟩ ⟨by omega, by omega⟩ dX6_kinds_14 (by decide) (fun hc_4 => ?_) (fun hc_4 => ?_)
      · skip
        have hie : i8 + 1 = (yn (hy h9)) := by omega
        have hk_5 : ctv_2 1013 = some (rl ty 8 (tkn (yn (hy h9)) (gaf (yn (hy h9)) (yM (hy h9)) (hg h9) v) sl)) := hv3_2.trans (congrArg (fun f => some (rl ty 8 f)) (by rw [hie]))
        refine lv_aload_n hx hb dX6_kinds_40 rfl (lv_at hl 1 rfl) ?_
        refine lv_iload_n hx hb dX6_kinds_41 rfl (lv_at hl 2 rfl) ?_
        refine rm_callv (va_runV (As := [.int (jI ((h9 : Nat) : Int))]) (rest := []) ⟨hx, hb, hml, hown, hts⟩ (c_X6_fills l D ty ad ctv_2 H.size th yc hc yn yM yu hy (ub hg h9 (gaf (yn (hy h9)) (yM (hy h9)) (hg h9) v)) (ub hf h9 v) mA pt ro ke kt mu (tkn (yn (hy h9)) (gaf (yn (hy h9)) (yM (hy h9)) (hg h9) v) sl) tw bw de ⟨((hofv_2 1000 (by omega) (by omega) (by omega) (by omega)).trans hMo.1), ((hofv_2 1001 (by omega) (by omega) (by omega) (by omega)).trans hMo.2.1), ((hofv_2 1002 (by omega) (by omega) (by omega) (by omega)).trans hMo.2.2.1), ((hofv_2 1003 (by omega) (by omega) (by omega) (by omega)).trans hMo.2.2.2.1), ((hofv_2 1004 (by omega) (by omega) (by omega) (by omega)).trans hMo.2.2.2.2.1), hv0_2, hv1_2, ((hofv_2 1007 (by omega) (by omega) (by omega) (by omega)).trans hMo.2.2.2.2.2.2.2.1), ((hofv_2 1008 (by omega) (by omega) (by omega) (by omega)).trans hMo.2.2.2.2.2.2.2.2.1), ((hofv_2 1009 (by omega) (by omega) (by omega) (by omega)).trans hMo.2.2.2.2.2.2.2.2.2.1), ((hofv_2 1010 (by omega) (by omega) (by omega) (by omega)).trans hMo.2.2.2.2.2.2.2.2.2.2.1), ((hofv_2 1011 (by omega) (by omega) (by omega) (by omega)).trans hMo.2.2.2.2.2.2.2.2.2.2.2.1), hv2_2, hk_5, ((hofv_2 1014 (by omega) (by omega) (by omega) (by omega)).trans hMo.2.2.2.2.2.2.2.2.2.2.2.2.2.2.1), ((hofv_2 1015 (by omega) (by omega) (by omega) (by omega)).trans hMo.2.2.2.2.2.2.2.2.2.2.2.2.2.2.2.1), ((hofv_2 1016 (by omega) (by omega) (by omega) (by omega)).trans hMo.2.2.2.2.2.2.2.2.2.2.2.2.2.2.2.2)⟩ h9 hh9 hyh hn9 hM9 hys hms) (cwV 1 hts gX6_kinds_X6_fills rfl rfl rfl (by decide +kernel) ⟨Nat.le_of_ble_eq_true rfl, Nat.le_of_ble_eq_true rfl⟩) (rm_preV hK hNw hW ((hofv_2 1000 (by omega) (by omega) (by omega) (by omega)).trans hMo.1) rfl) rfl rfl hl.1 rfl (lv_room (Nat.le_of_ble_eq_true rfl)) dX6_kinds_42 ⟨Nat.zero_le _, Nat.zero_le _⟩) hW hS hA (fun ct_6 H locs hq_6 hW hS hz_6 => ?_)
        obtain ⟨X1, v1, mu1, hq1, hq2, hq3, hmu, hXo, hq4⟩ := hq_6
        rw [ub_ub] at hq1 hq2
        have hXo : ∀ q, (yn (hy h9)) ≤ q → X1 q = hg h9 q := fun q hq => (hXo q hq).trans (by rw [ub_s]; exact if_neg (by omega))
        have ho_6 : ∀ q, q ≠ 1005 → q ≠ 1006 → q ≠ 1012 → ct_6 q = ctv_2 q := hq4
        have hof_6 : ∀ q, q ≠ 1005 → q ≠ 1006 → q ≠ 1012 → q ≠ 1013 → ct_6 q = ct q := fun q h0_6 h1_6 h2_6 h3_6 => (ho_6 q h0_6 h1_6 h2_6).trans (hofv_2 q h0_6 h1_6 h2_6 h3_6)
        have hm0_6 : ct_6 1005 = some (rl ty 160 (fl 8 (ub hg h9 X1))) := hq1
        have hm1_6 : ct_6 1006 = some (rl ty 160 (fl 8 (ub hf h9 v1))) := hq2
        have hm2_6 : ct_6 1012 = some (rl ty 8 mu1) := hq3
        have hm3_6 : ct_6 1013 = some (rl ty 8 (tkn (yn (hy h9)) (gaf (yn (hy h9)) (yM (hy h9)) (hg h9) v) sl)) := (ho_6 1013 (by omega) (by omega) (by omega)).trans hk_5
        refine lv_iconst (v := jI 1) hx hb dX6_kinds_45 rfl ?_
        refine lv_istore_n (lv' := [(3, .int (jI 1)), (0, .ref (ad 1000)), (1, .int (jI ((h9 : Nat) : Int))), (2, .int (jI w9))]) hx hb dX6_kinds_46 rfl hl (by decide) rfl (fun ls hl => ?_)
        have LQ : ∀ (k : Nat) (j8 : Nat) (hj8 : j8 + 1 ≤ (yn (hy h9))), (yn (hy h9)) - j8 < k → ∀ (ctv : rm_C) (H : Heap) (locs : List Loc), (ctv 1005 = some (rl ty 160 (fl 8 (ub hg h9 (tkn (j8 + 1) (rowk (yn (hy h9)) (yM (hy h9)) (hg h9) w9) X1))))) → ∀ (_ : True), (ctv 1006 = some (rl ty 160 (fl 8 (ub hf h9 v1)))) → ∀ (_ : True), (ctv 1012 = some (rl ty 8 mu1)) → ∀ (_ : True), (ctv 1013 = some (rl ty 8 (tkn (yn (hy h9)) (gaf (yn (hy h9)) (yM (hy h9)) (hg h9) v) sl))) → ∀ (_ : True), (∀ q, q ≠ 1005 → q ≠ 1006 → q ≠ 1012 → q ≠ 1013 → ctv q = ct q) → ∀ (_ : True), rm_W D ad ctv (rm_A ad ct s.heap.size) H → va_S (rm_A ad ct s.heap.size) s.heap H locs → ∀ ls : Array Slot, lv_has ls 4 [(3, .int (jI (((j8 + 1) : Nat) : Int))), (0, .ref (ad 1000)), (1, .int (jI ((h9 : Nat) : Int))), (2, .int (jI w9))] → W p l e (headSpec wsX6_kinds ({ frames := 6, cells := 0, slots := 0, locals := 141 })).room s m args below meth c H locs 0 0 (MQ below (rm_Qv D ad ct s.heap.size 0 (fun ct1 => ∃ X v mu1 sl1 : Nat → Int, ct1 1005 = some (rl ty 160 (fl 8 (ub hg h9 X))) ∧ ct1 1006 = some (rl ty 160 (fl 8 (ub hf h9 v))) ∧ ct1 1012 = some (rl ty 8 mu1) ∧ ct1 1013 = some (rl ty 8 sl1) ∧ (∀ q, 1 ≤ q → q < (yn (hy h9)) → X q = bcw (yn (hy h9)) (yM (hy h9)) (hg h9) w9 q) ∧ (∀ q, (yn (hy h9)) ≤ q → X q = hg h9 q) ∧ (∀ q, q ≠ 1005 → q ≠ 1006 → q ≠ 1012 → q ≠ 1013 → ct1 q = ct q))) args s 0 0 (rm_A ad ct s.heap.size)) (F0 m 47 ls []) := by
          intro k
          induction k with
          | zero => intro j8 hj8 hk; exact absurd hk (Nat.not_lt_zero _)
          | succ k ih_LQ =>
            intro j8 hj8 hk ctv_7 H locs hv0_7 _ hv1_7 _ hv2_7 _ hv3_7 _ hofv_7 _ hW hS ls hl
            refine lv_iload_n hx hb dX6_kinds_47 rfl (lv_at hl 0 rfl) ?_
            refine lv_aload_n hx hb dX6_kinds_48 rfl (lv_at hl 1 rfl) ?_
            refine lv_iload_n hx hb dX6_kinds_49 rfl (lv_at hl 2 rfl) ?_
            refine rm_calli (va_runV (As := [.int (jI ((h9 : Nat) : Int))]) (rest := [.int (jI (((j8 + 1) : Nat) : Int))]) ⟨hx, hb, hml, hown, hts⟩ (c_X6_size l D ty ad ctv_7 H.size th yc hc yn yM yu hy (ub hg h9 (tkn (j8 + 1) (rowk (yn (hy h9)) (yM (hy h9)) (hg h9) w9) X1)) (ub hf h9 v1) mA pt ro ke kt mu1 (tkn (yn (hy h9)) (gaf (yn (hy h9)) (yM (hy h9)) (hg h9) v) sl) tw bw de ⟨((hofv_7 1000 (by omega) (by omega) (by omega) (by omega)).trans hMo.1), ((hofv_7 1001 (by omega) (by omega) (by omega) (by omega)).trans hMo.2.1), ((hofv_7 1002 (by omega) (by omega) (by omega) (by omega)).trans hMo.2.2.1), ((hofv_7 1003 (by omega) (by omega) (by omega) (by omega)).trans hMo.2.2.2.1), ((hofv_7 1004 (by omega) (by omega) (by omega) (by omega)).trans hMo.2.2.2.2.1), hv0_7, hv1_7, ((hofv_7 1007 (by omega) (by omega) (by omega) (by omega)).trans hMo.2.2.2.2.2.2.2.1), ((hofv_7 1008 (by omega) (by omega) (by omega) (by omega)).trans hMo.2.2.2.2.2.2.2.2.1), ((hofv_7 1009 (by omega) (by omega) (by omega) (by omega)).trans hMo.2.2.2.2.2.2.2.2.2.1), ((hofv_7 1010 (by omega) (by omega) (by omega) (by omega)).trans hMo.2.2.2.2.2.2.2.2.2.2.1), ((hofv_7 1011 (by omega) (by omega) (by omega) (by omega)).trans hMo.2.2.2.2.2.2.2.2.2.2.2.1), hv2_7, hv3_7, ((hofv_7 1014 (by omega) (by omega) (by omega) (by omega)).trans hMo.2.2.2.2.2.2.2.2.2.2.2.2.2.2.1), ((hofv_7 1015 (by omega) (by omega) (by omega) (by omega)).trans hMo.2.2.2.2.2.2.2.2.2.2.2.2.2.2.2.1), ((hofv_7 1016 (by omega) (by omega) (by omega) (by omega)).trans hMo.2.2.2.2.2.2.2.2.2.2.2.2.2.2.2.2)⟩ h9 hh9 hyh) (cwV 1 hts gX6_kinds_X6_size rfl rfl rfl (by decide +kernel) ⟨Nat.le_of_ble_eq_true rfl, Nat.le_of_ble_eq_true rfl⟩) (rm_preV hK hNw hW ((hofv_7 1000 (by omega) (by omega) (by omega) (by omega)).trans hMo.1) rfl) rfl rfl hl.1 rfl (lv_room (Nat.le_of_ble_eq_true rfl)) dX6_kinds_50 ⟨Nat.zero_le _, Nat.zero_le _⟩) hW hS hA (fun z_8 ct_8 H locs hq_8 hW hS => ?_)
            obtain ⟨hz, hcc_8⟩ := hq_8
            have hcc_8 := hcc_8.symm
            subst hcc_8
            subst hz
            refine rm_icmp_ge (tgt := 120) hx hb ⟨by omega, by omega⟩ ⟨by omega, by omega⟩ dX6_kinds_53 (by decide) (fun hc_9 => ?_) (fun hc_9 => ?_)
            · skip
              have hie2 : j8 + 1 = (yn (hy h9)) := by omega
              have hk_10 : ctv_7 1005 = some (rl ty 160 (fl 8 (ub hg h9 (tkn (yn (hy h9)) (rowk (yn (hy h9)) (yM (hy h9)) (hg h9) w9) X1)))) := hv0_7.trans (congrArg (fun G => some (rl ty 160 (fl 8 G))) (by rw [hie2]))
              have hKq : ∀ q, 1 ≤ q → q < (yn (hy h9)) → (tkn (yn (hy h9)) (rowk (yn (hy h9)) (yM (hy h9)) (hg h9) w9) X1) q = (rowk (yn (hy h9)) (yM (hy h9)) (hg h9) w9) q := fun q a b => tkn_in a b
              have hKs : psum (yn (hy h9)) (tkn (yn (hy h9)) (rowk (yn (hy h9)) (yM (hy h9)) (hg h9) w9) X1) ≤ 800 := by
                have h5 := psum_le (n := (yn (hy h9))) (f := (tkn (yn (hy h9)) (rowk (yn (hy h9)) (yM (hy h9)) (hg h9) w9) X1)) (c := 100) (by omega) (fun q a b => by rw [hKq q a b]; exact (rowk_rng hys hg0 hB w9 a b).2)
                have h6 := hn9.2
                omega
              refine lv_aload_n hx hb dX6_kinds_120 rfl (lv_at hl 1 rfl) ?_
              refine lv_iload_n hx hb dX6_kinds_121 rfl (lv_at hl 2 rfl) ?_
              refine rm_calll (va_runV (As := [.int (jI ((h9 : Nat) : Int))]) (rest := []) ⟨hx, hb, hml, hown, hts⟩ (c_X6_settles l D ty ad ctv_7 H.size th yc hc yn yM yu hy (ub hg h9 (tkn (yn (hy h9)) (rowk (yn (hy h9)) (yM (hy h9)) (hg h9) w9) X1)) (ub hf h9 v1) mA pt ro ke kt mu1 (tkn (yn (hy h9)) (gaf (yn (hy h9)) (yM (hy h9)) (hg h9) v) sl) tw bw de ⟨((hofv_7 1000 (by omega) (by omega) (by omega) (by omega)).trans hMo.1), ((hofv_7 1001 (by omega) (by omega) (by omega) (by omega)).trans hMo.2.1), ((hofv_7 1002 (by omega) (by omega) (by omega) (by omega)).trans hMo.2.2.1), ((hofv_7 1003 (by omega) (by omega) (by omega) (by omega)).trans hMo.2.2.2.1), ((hofv_7 1004 (by omega) (by omega) (by omega) (by omega)).trans hMo.2.2.2.2.1), hk_10, hv1_7, ((hofv_7 1007 (by omega) (by omega) (by omega) (by omega)).trans hMo.2.2.2.2.2.2.2.1), ((hofv_7 1008 (by omega) (by omega) (by omega) (by omega)).trans hMo.2.2.2.2.2.2.2.2.1), ((hofv_7 1009 (by omega) (by omega) (by omega) (by omega)).trans hMo.2.2.2.2.2.2.2.2.2.1), ((hofv_7 1010 (by omega) (by omega) (by omega) (by omega)).trans hMo.2.2.2.2.2.2.2.2.2.2.1), ((hofv_7 1011 (by omega) (by omega) (by omega) (by omega)).trans hMo.2.2.2.2.2.2.2.2.2.2.2.1), hv2_7, hv3_7, ((hofv_7 1014 (by omega) (by omega) (by omega) (by omega)).trans hMo.2.2.2.2.2.2.2.2.2.2.2.2.2.2.1), ((hofv_7 1015 (by omega) (by omega) (by omega) (by omega)).trans hMo.2.2.2.2.2.2.2.2.2.2.2.2.2.2.2.1), ((hofv_7 1016 (by omega) (by omega) (by omega) (by omega)).trans hMo.2.2.2.2.2.2.2.2.2.2.2.2.2.2.2.2)⟩ h9 hh9 hyh hn9 hM9 hms (fun q a b => by rw [ub_s, hKq q a b]; exact (rowk_rng hys hg0 hB w9 a b).1) (by rw [ub_s]; omega)) (cwV 1 hts gX6_kinds_X6_settles rfl rfl rfl (by decide +kernel) ⟨Nat.le_of_ble_eq_true rfl, Nat.le_of_ble_eq_true rfl⟩) (rm_preV hK hNw hW ((hofv_7 1000 (by omega) (by omega) (by omega) (by omega)).trans hMo.1) rfl) rfl rfl hl.1 rfl (lv_room (Nat.le_of_ble_eq_true rfl)) dX6_kinds_122 ⟨Nat.zero_le _, Nat.zero_le _⟩) hW hS hA (fun z_11 ct_11 H locs hq_11 hW hS => ?_)
              obtain ⟨v2, hv3, hv4, hq5, hq6, hq7⟩ := hq_11
              rw [ub_s] at hv3
              rw [ub_s, ub_ub] at hq5
              rw [ub_ub] at hq6
              have ho_11 : ∀ q, q ≠ 1005 → q ≠ 1006 → ct_11 q = ctv_7 q := hq7
              have hof_11 : ∀ q, q ≠ 1005 → q ≠ 1006 → q ≠ 1012 → q ≠ 1013 → ct_11 q = ct q := fun q h0_11 h1_11 h2_11 h3_11 => (ho_11 q h0_11 h1_11).trans (hofv_7 q h0_11 h1_11 h2_11 h3_11)
              have hm0_11 : ct_11 1005 = some (rl ty 160 (fl 8 (ub hg h9 (gaf (yn (hy h9)) (yM (hy h9)) (tkn (yn (hy h9)) (rowk (yn (hy h9)) (yM (hy h9)) (hg h9) w9) X1) v2)))) := hq5
              have hm1_11 : ct_11 1006 = some (rl ty 160 (fl 8 (ub hf h9 v2))) := hq6
              have hm2_11 : ct_11 1012 = some (rl ty 8 mu1) := (ho_11 1012 (by omega) (by omega)).trans hv2_7
              have hm3_11 : ct_11 1013 = some (rl ty 8 (tkn (yn (hy h9)) (gaf (yn (hy h9)) (yM (hy h9)) (hg h9) v) sl)) := (ho_11 1013 (by omega) (by omega)).trans hv3_7
              refine lv_pop2_2 hx hb dX6_kinds_125 rfl ?_
              exact W.vret hx hb hr (fun t ht hw => ⟨⟨ct_11, rfl, ⟨(gaf (yn (hy h9)) (yM (hy h9)) (tkn (yn (hy h9)) (rowk (yn (hy h9)) (yM (hy h9)) (hg h9) w9) X1) v2), v2, mu1, (tkn (yn (hy h9)) (gaf (yn (hy h9)) (yM (hy h9)) (hg h9) v) sl), hm0_11, hm1_11, hm2_11, hm3_11, fun q a b => bcw_row hys hg0 hB hKq hv3 a b, fun q hq => (if_neg (by omega)).trans ((tkn_out (Or.inr hq)).trans (hXo q hq)), fun q h0 h1 h2 h3 => hof_11 q h0 h1 h2 h3⟩, by show rm_W D ad _ _ t.heap; rw [ht]; exact hW, Or.inl rfl⟩, hS.F ht⟩) hS.2.2 dX6_kinds_126
            · skip
              have hml9 := hmu (j8 + 1) (by omega) (by omega)
              have hsl9 : (tkn (yn (hy h9)) (gaf (yn (hy h9)) (yM (hy h9)) (hg h9) v) sl) (j8 + 1) = sti (yn (hy h9)) (yM (hy h9)) (hg h9) (j8 + 1) := (tkn_in (by omega) (by omega)).trans (gaf_sti hv9 (by omega))
              refine lv_aload_n hx hb dX6_kinds_56 rfl (lv_at hl 1 rfl) ?_
              refine lv_iload_n hx hb dX6_kinds_57 rfl (lv_at hl 2 rfl) ?_
              refine lv_iload_n hx hb dX6_kinds_58 rfl (lv_at hl 0 rfl) ?_
              refine lv_iload_n hx hb dX6_kinds_59 rfl (lv_at hl 3 rfl) ?_
              refine lv_iconst (v := jI 2) hx hb dX6_kinds_60 rfl ?_
              refine rm_icmp_ne (tgt := 73) hx hb ⟨by omega, by omega⟩ ⟨by omega, by omega⟩ dX6_kinds_61 (by decide) (fun hc_12 => ?_) (fun hc_12 => ?_)
              · skip
                refine lv_iload_n hx hb dX6_kinds_73 rfl (lv_at hl 3 rfl) ?_
                refine lv_iconst (v := jI 3) hx hb dX6_kinds_74 rfl ?_
                refine rm_icmp_ne (tgt := 98) hx hb ⟨by omega, by omega⟩ ⟨by omega, by omega⟩ dX6_kinds_75 (by decide) (fun hc_13 => ?_) (fun hc_13 => ?_)
                · skip
                  refine lv_aload_n hx hb dX6_kinds_98 rfl (lv_at hl 1 rfl) ?_
                  refine rm_get (ci := 6) (v := .ref (ad 1013)) (C := RX6) (T := TX6) (N := 19) hx hb hts (by decide +kernel) hown hK hW ((hofv_7 1000 (by omega) (by omega) (by omega) (by omega)).trans hMo.1) rfl 15 (by decide) (hts (.fieldLink RX6 48 "GrainYardModel" "still" "[J") (by decide +kernel)) (fun _ h9 => h9) rfl dX6_kinds_99 ?_
                  refine lv_iload_n hx hb dX6_kinds_102 rfl (lv_at hl 0 rfl) ?_
                  refine rm_lald hx hb hK hW (f := (tkn (yn (hy h9)) (gaf (yn (hy h9)) (yM (hy h9)) (hg h9) v) sl)) hv3_7 (j8 + 1) rfl (by omega) (by omega) dX6_kinds_103 ?_
                  refine lv_aload_n hx hb dX6_kinds_104 rfl (lv_at hl 1 rfl) ?_
                  refine rm_get (ci := 6) (v := .ref (ad 1012)) (C := RX6) (T := TX6) (N := 19) hx hb hts (by decide +kernel) hown hK hW ((hofv_7 1000 (by omega) (by omega) (by omega) (by omega)).trans hMo.1) rfl 14 (by decide) (hts (.fieldLink RX6 45 "GrainYardModel" "much" "[J") (by decide +kernel)) (fun _ h9 => h9) rfl dX6_kinds_105 ?_
                  refine lv_iload_n hx hb dX6_kinds_108 rfl (lv_at hl 0 rfl) ?_
                  refine rm_lald hx hb hK hW (f := mu1) hv2_7 (j8 + 1) rfl (by omega) (by omega) dX6_kinds_109 ?_
                  refine rm_ladd hx hb dX6_kinds_110 ?_
                  have hrk : (((tkn (yn (hy h9)) (gaf (yn (hy h9)) (yM (hy h9)) (hg h9) v) sl) (j8 + 1)) + (mu1 (j8 + 1))) = (rowk (yn (hy h9)) (yM (hy h9)) (hg h9) w9) (j8 + 1) := by unfold rowk; rw [if_neg (by omega), if_neg (by omega), hml9, hsl9]
                  refine rm_callv (va_runV (As := [.int (jI ((h9 : Nat) : Int)), .int (jI (((j8 + 1) : Nat) : Int)), .long (jL (((tkn (yn (hy h9)) (gaf (yn (hy h9)) (yM (hy h9)) (hg h9) v) sl) (j8 + 1)) + (mu1 (j8 + 1))))]) (rest := []) ⟨hx, hb, hml, hown, hts⟩ (c_X6_sets l D ty ad ctv_7 H.size th yc hc yn yM yu hy (ub hg h9 (tkn (j8 + 1) (rowk (yn (hy h9)) (yM (hy h9)) (hg h9) w9) X1)) (ub hf h9 v1) mA pt ro ke kt mu1 (tkn (yn (hy h9)) (gaf (yn (hy h9)) (yM (hy h9)) (hg h9) v) sl) tw bw de ⟨((hofv_7 1000 (by omega) (by omega) (by omega) (by omega)).trans hMo.1), ((hofv_7 1001 (by omega) (by omega) (by omega) (by omega)).trans hMo.2.1), ((hofv_7 1002 (by omega) (by omega) (by omega) (by omega)).trans hMo.2.2.1), ((hofv_7 1003 (by omega) (by omega) (by omega) (by omega)).trans hMo.2.2.2.1), ((hofv_7 1004 (by omega) (by omega) (by omega) (by omega)).trans hMo.2.2.2.2.1), hv0_7, hv1_7, ((hofv_7 1007 (by omega) (by omega) (by omega) (by omega)).trans hMo.2.2.2.2.2.2.2.1), ((hofv_7 1008 (by omega) (by omega) (by omega) (by omega)).trans hMo.2.2.2.2.2.2.2.2.1), ((hofv_7 1009 (by omega) (by omega) (by omega) (by omega)).trans hMo.2.2.2.2.2.2.2.2.2.1), ((hofv_7 1010 (by omega) (by omega) (by omega) (by omega)).trans hMo.2.2.2.2.2.2.2.2.2.2.1), ((hofv_7 1011 (by omega) (by omega) (by omega) (by omega)).trans hMo.2.2.2.2.2.2.2.2.2.2.2.1), hv2_7, hv3_7, ((hofv_7 1014 (by omega) (by omega) (by omega) (by omega)).trans hMo.2.2.2.2.2.2.2.2.2.2.2.2.2.2.1), ((hofv_7 1015 (by omega) (by omega) (by omega) (by omega)).trans hMo.2.2.2.2.2.2.2.2.2.2.2.2.2.2.2.1), ((hofv_7 1016 (by omega) (by omega) (by omega) (by omega)).trans hMo.2.2.2.2.2.2.2.2.2.2.2.2.2.2.2.2)⟩ h9 (j8 + 1) _ hh9 (by omega)) (cwV 3 hts gX6_kinds_X6_sets rfl rfl rfl (by decide +kernel) ⟨Nat.le_of_ble_eq_true rfl, Nat.le_of_ble_eq_true rfl⟩) (rm_preV hK hNw hW ((hofv_7 1000 (by omega) (by omega) (by omega) (by omega)).trans hMo.1) rfl) rfl rfl hl.1 rfl (lv_room (Nat.le_of_ble_eq_true rfl)) dX6_kinds_111 ⟨Nat.zero_le _, Nat.zero_le _⟩) hW hS hA (fun ct_14 H locs hq_14 hW hS hz_14 => ?_)
                  have hqs := hq_14.1
                  rw [ub_s, ub_ub, hrk, tkn_s (by omega)] at hqs
                  have ho_14 : ∀ q, q ≠ 1005 → ct_14 q = ctv_7 q := hq_14.2
                  have hof_14 : ∀ q, q ≠ 1005 → q ≠ 1006 → q ≠ 1012 → q ≠ 1013 → ct_14 q = ct q := fun q h0_14 h1_14 h2_14 h3_14 => (ho_14 q h0_14).trans (hofv_7 q h0_14 h1_14 h2_14 h3_14)
                  have hm0_14 : ct_14 1005 = some (rl ty 160 (fl 8 (ub hg h9 (tkn ((j8 + 1) + 1) (rowk (yn (hy h9)) (yM (hy h9)) (hg h9) w9) X1)))) := hqs
                  have hm1_14 : ct_14 1006 = some (rl ty 160 (fl 8 (ub hf h9 v1))) := (ho_14 1006 (by omega)).trans hv1_7
                  have hm2_14 : ct_14 1012 = some (rl ty 8 mu1) := (ho_14 1012 (by omega)).trans hv2_7
                  have hm3_14 : ct_14 1013 = some (rl ty 8 (tkn (yn (hy h9)) (gaf (yn (hy h9)) (yM (hy h9)) (hg h9) v) sl)) := (ho_14 1013 (by omega)).trans hv3_7
                  refine lv_iinc (v := jI ((((j8 + 1) : Nat) : Int) + 1)) (lv' := [(3, .int (jI ((((j8 + 1) : Nat) : Int) + 1))), (0, .ref (ad 1000)), (1, .int (jI ((h9 : Nat) : Int))), (2, .int (jI w9))]) hx hb dX6_kinds_114 hl (k := 0) rfl (jI_add _ _) (by decide) rfl (fun ls hl => ?_)
                  refine lv_goto (tgt := 47) hx hb dX6_kinds_117 (by decide) ?_
                  exact ih_LQ (j8 + 1) (by omega) (by omega) ct_14 _ _ hm0_14 trivial hm1_14 trivial hm2_14 trivial hm3_14 trivial hof_14 trivial hW hS ls (lv_sub hl [0, 1, 2, 3] rfl)
                · skip
                  refine rm_ldc2 (z := 2) hx hb hown (hts (.constantLong RX6 159 (2)) (by decide +kernel)) (by decide) dX6_kinds_78 ?_
                  refine lv_aload_n hx hb dX6_kinds_81 rfl (lv_at hl 1 rfl) ?_
                  refine rm_get (ci := 6) (v := .ref (ad 1012)) (C := RX6) (T := TX6) (N := 19) hx hb hts (by decide +kernel) hown hK hW ((hofv_7 1000 (by omega) (by omega) (by omega) (by omega)).trans hMo.1) rfl 14 (by decide) (hts (.fieldLink RX6 45 "GrainYardModel" "much" "[J") (by decide +kernel)) (fun _ h9 => h9) rfl dX6_kinds_82 ?_
                  refine lv_iload_n hx hb dX6_kinds_85 rfl (lv_at hl 0 rfl) ?_
                  refine rm_lald hx hb hK hW (f := mu1) hv2_7 (j8 + 1) rfl (by omega) (by omega) dX6_kinds_86 ?_
                  refine rm_lmul hx hb dX6_kinds_87 ?_
                  refine lv_aload_n hx hb dX6_kinds_88 rfl (lv_at hl 1 rfl) ?_
                  refine rm_get (ci := 6) (v := .ref (ad 1013)) (C := RX6) (T := TX6) (N := 19) hx hb hts (by decide +kernel) hown hK hW ((hofv_7 1000 (by omega) (by omega) (by omega) (by omega)).trans hMo.1) rfl 15 (by decide) (hts (.fieldLink RX6 48 "GrainYardModel" "still" "[J") (by decide +kernel)) (fun _ h9 => h9) rfl dX6_kinds_89 ?_
                  refine lv_iload_n hx hb dX6_kinds_92 rfl (lv_at hl 0 rfl) ?_
                  refine rm_lald hx hb hK hW (f := (tkn (yn (hy h9)) (gaf (yn (hy h9)) (yM (hy h9)) (hg h9) v) sl)) hv3_7 (j8 + 1) rfl (by omega) (by omega) dX6_kinds_93 ?_
                  refine rm_lsub hx hb dX6_kinds_94 ?_
                  refine lv_goto (tgt := 111) hx hb dX6_kinds_95 (by decide) ?_
                  have hrk : ((2 * (mu1 (j8 + 1))) - ((tkn (yn (hy h9)) (gaf (yn (hy h9)) (yM (hy h9)) (hg h9) v) sl) (j8 + 1))) = (rowk (yn (hy h9)) (yM (hy h9)) (hg h9) w9) (j8 + 1) := by unfold rowk; rw [if_neg (by omega), if_pos (by omega), hml9, hsl9]
                  refine rm_callv (va_runV (As := [.int (jI ((h9 : Nat) : Int)), .int (jI (((j8 + 1) : Nat) : Int)), .long (jL ((2 * (mu1 (j8 + 1))) - ((tkn (yn (hy h9)) (gaf (yn (hy h9)) (yM (hy h9)) (hg h9) v) sl) (j8 + 1))))]) (rest := []) ⟨hx, hb, hml, hown, hts⟩ (c_X6_sets l D ty ad ctv_7 H.size th yc hc yn yM yu hy (ub hg h9 (tkn (j8 + 1) (rowk (yn (hy h9)) (yM (hy h9)) (hg h9) w9) X1)) (ub hf h9 v1) mA pt ro ke kt mu1 (tkn (yn (hy h9)) (gaf (yn (hy h9)) (yM (hy h9)) (hg h9) v) sl) tw bw de ⟨((hofv_7 1000 (by omega) (by omega) (by omega) (by omega)).trans hMo.1), ((hofv_7 1001 (by omega) (by omega) (by omega) (by omega)).trans hMo.2.1), ((hofv_7 1002 (by omega) (by omega) (by omega) (by omega)).trans hMo.2.2.1), ((hofv_7 1003 (by omega) (by omega) (by omega) (by omega)).trans hMo.2.2.2.1), ((hofv_7 1004 (by omega) (by omega) (by omega) (by omega)).trans hMo.2.2.2.2.1), hv0_7, hv1_7, ((hofv_7 1007 (by omega) (by omega) (by omega) (by omega)).trans hMo.2.2.2.2.2.2.2.1), ((hofv_7 1008 (by omega) (by omega) (by omega) (by omega)).trans hMo.2.2.2.2.2.2.2.2.1), ((hofv_7 1009 (by omega) (by omega) (by omega) (by omega)).trans hMo.2.2.2.2.2.2.2.2.2.1), ((hofv_7 1010 (by omega) (by omega) (by omega) (by omega)).trans hMo.2.2.2.2.2.2.2.2.2.2.1), ((hofv_7 1011 (by omega) (by omega) (by omega) (by omega)).trans hMo.2.2.2.2.2.2.2.2.2.2.2.1), hv2_7, hv3_7, ((hofv_7 1014 (by omega) (by omega) (by omega) (by omega)).trans hMo.2.2.2.2.2.2.2.2.2.2.2.2.2.2.1), ((hofv_7 1015 (by omega) (by omega) (by omega) (by omega)).trans hMo.2.2.2.2.2.2.2.2.2.2.2.2.2.2.2.1), ((hofv_7 1016 (by omega) (by omega) (by omega) (by omega)).trans hMo.2.2.2.2.2.2.2.2.2.2.2.2.2.2.2.2)⟩ h9 (j8 + 1) _ hh9 (by omega)) (cwV 3 hts gX6_kinds_X6_sets rfl rfl rfl (by decide +kernel) ⟨Nat.le_of_ble_eq_true rfl, Nat.le_of_ble_eq_true rfl⟩) (rm_preV hK hNw hW ((hofv_7 1000 (by omega) (by omega) (by omega) (by omega)).trans hMo.1) rfl) rfl rfl hl.1 rfl (lv_room (Nat.le_of_ble_eq_true rfl)) dX6_kinds_111 ⟨Nat.zero_le _, Nat.zero_le _⟩) hW hS hA (fun ct_15 H locs hq_15 hW hS hz_15 => ?_)
                  have hqs := hq_15.1
                  rw [ub_s, ub_ub, hrk, tkn_s (by omega)] at hqs
                  have ho_15 : ∀ q, q ≠ 1005 → ct_15 q = ctv_7 q := hq_15.2
                  have hof_15 : ∀ q, q ≠ 1005 → q ≠ 1006 → q ≠ 1012 → q ≠ 1013 → ct_15 q = ct q := fun q h0_15 h1_15 h2_15 h3_15 => (ho_15 q h0_15).trans (hofv_7 q h0_15 h1_15 h2_15 h3_15)
                  have hm0_15 : ct_15 1005 = some (rl ty 160 (fl 8 (ub hg h9 (tkn ((j8 + 1) + 1) (rowk (yn (hy h9)) (yM (hy h9)) (hg h9) w9) X1)))) := hqs
                  have hm1_15 : ct_15 1006 = some (rl ty 160 (fl 8 (ub hf h9 v1))) := (ho_15 1006 (by omega)).trans hv1_7
                  have hm2_15 : ct_15 1012 = some (rl ty 8 mu1) := (ho_15 1012 (by omega)).trans hv2_7
                  have hm3_15 : ct_15 1013 = some (rl ty 8 (tkn (yn (hy h9)) (gaf (yn (hy h9)) (yM (hy h9)) (hg h9) v) sl)) := (ho_15 1013 (by omega)).trans hv3_7
                  refine lv_iinc (v := jI ((((j8 + 1) : Nat) : Int) + 1)) (lv' := [(3, .int (jI ((((j8 + 1) : Nat) : Int) + 1))), (0, .ref (ad 1000)), (1, .int (jI ((h9 : Nat) : Int))), (2, .int (jI w9))]) hx hb dX6_kinds_114 hl (k := 0) rfl (jI_add _ _) (by decide) rfl (fun ls hl => ?_)
                  refine lv_goto (tgt := 47) hx hb dX6_kinds_117 (by decide) ?_
                  exact ih_LQ (j8 + 1) (by omega) (by omega) ct_15 _ _ hm0_15 trivial hm1_15 trivial hm2_15 trivial hm3_15 trivial hof_15 trivial hW hS ls (lv_sub hl [0, 1, 2, 3] rfl)
              · skip
                refine lv_aload_n hx hb dX6_kinds_64 rfl (lv_at hl 1 rfl) ?_
                refine rm_get (ci := 6) (v := .ref (ad 1012)) (C := RX6) (T := TX6) (N := 19) hx hb hts (by decide +kernel) hown hK hW ((hofv_7 1000 (by omega) (by omega) (by omega) (by omega)).trans hMo.1) rfl 14 (by decide) (hts (.fieldLink RX6 45 "GrainYardModel" "much" "[J") (by decide +kernel)) (fun _ h9 => h9) rfl dX6_kinds_65 ?_
                refine lv_iload_n hx hb dX6_kinds_68 rfl (lv_at hl 0 rfl) ?_
                refine rm_lald hx hb hK hW (f := mu1) hv2_7 (j8 + 1) rfl (by omega) (by omega) dX6_kinds_69 ?_
                refine lv_goto (tgt := 111) hx hb dX6_kinds_70 (by decide) ?_
                have hrk : (mu1 (j8 + 1)) = (rowk (yn (hy h9)) (yM (hy h9)) (hg h9) w9) (j8 + 1) := by unfold rowk; rw [if_pos (by omega), hml9]
                refine rm_callv (va_runV (As := [.int (jI ((h9 : Nat) : Int)), .int (jI (((j8 + 1) : Nat) : Int)), .long (jL (mu1 (j8 + 1)))]) (rest := []) ⟨hx, hb, hml, hown, hts⟩ (c_X6_sets l D ty ad ctv_7 H.size th yc hc yn yM yu hy (ub hg h9 (tkn (j8 + 1) (rowk (yn (hy h9)) (yM (hy h9)) (hg h9) w9) X1)) (ub hf h9 v1) mA pt ro ke kt mu1 (tkn (yn (hy h9)) (gaf (yn (hy h9)) (yM (hy h9)) (hg h9) v) sl) tw bw de ⟨((hofv_7 1000 (by omega) (by omega) (by omega) (by omega)).trans hMo.1), ((hofv_7 1001 (by omega) (by omega) (by omega) (by omega)).trans hMo.2.1), ((hofv_7 1002 (by omega) (by omega) (by omega) (by omega)).trans hMo.2.2.1), ((hofv_7 1003 (by omega) (by omega) (by omega) (by omega)).trans hMo.2.2.2.1), ((hofv_7 1004 (by omega) (by omega) (by omega) (by omega)).trans hMo.2.2.2.2.1), hv0_7, hv1_7, ((hofv_7 1007 (by omega) (by omega) (by omega) (by omega)).trans hMo.2.2.2.2.2.2.2.1), ((hofv_7 1008 (by omega) (by omega) (by omega) (by omega)).trans hMo.2.2.2.2.2.2.2.2.1), ((hofv_7 1009 (by omega) (by omega) (by omega) (by omega)).trans hMo.2.2.2.2.2.2.2.2.2.1), ((hofv_7 1010 (by omega) (by omega) (by omega) (by omega)).trans hMo.2.2.2.2.2.2.2.2.2.2.1), ((hofv_7 1011 (by omega) (by omega) (by omega) (by omega)).trans hMo.2.2.2.2.2.2.2.2.2.2.2.1), hv2_7, hv3_7, ((hofv_7 1014 (by omega) (by omega) (by omega) (by omega)).trans hMo.2.2.2.2.2.2.2.2.2.2.2.2.2.2.1), ((hofv_7 1015 (by omega) (by omega) (by omega) (by omega)).trans hMo.2.2.2.2.2.2.2.2.2.2.2.2.2.2.2.1), ((hofv_7 1016 (by omega) (by omega) (by omega) (by omega)).trans hMo.2.2.2.2.2.2.2.2.2.2.2.2.2.2.2.2)⟩ h9 (j8 + 1) _ hh9 (by omega)) (cwV 3 hts gX6_kinds_X6_sets rfl rfl rfl (by decide +kernel) ⟨Nat.le_of_ble_eq_true rfl, Nat.le_of_ble_eq_true rfl⟩) (rm_preV hK hNw hW ((hofv_7 1000 (by omega) (by omega) (by omega) (by omega)).trans hMo.1) rfl) rfl rfl hl.1 rfl (lv_room (Nat.le_of_ble_eq_true rfl)) dX6_kinds_111 ⟨Nat.zero_le _, Nat.zero_le _⟩) hW hS hA (fun ct_16 H locs hq_16 hW hS hz_16 => ?_)
                have hqs := hq_16.1
                rw [ub_s, ub_ub, hrk, tkn_s (by omega)] at hqs
                have ho_16 : ∀ q, q ≠ 1005 → ct_16 q = ctv_7 q := hq_16.2
                have hof_16 : ∀ q, q ≠ 1005 → q ≠ 1006 → q ≠ 1012 → q ≠ 1013 → ct_16 q = ct q := fun q h0_16 h1_16 h2_16 h3_16 => (ho_16 q h0_16).trans (hofv_7 q h0_16 h1_16 h2_16 h3_16)
                have hm0_16 : ct_16 1005 = some (rl ty 160 (fl 8 (ub hg h9 (tkn ((j8 + 1) + 1) (rowk (yn (hy h9)) (yM (hy h9)) (hg h9) w9) X1)))) := hqs
                have hm1_16 : ct_16 1006 = some (rl ty 160 (fl 8 (ub hf h9 v1))) := (ho_16 1006 (by omega)).trans hv1_7
                have hm2_16 : ct_16 1012 = some (rl ty 8 mu1) := (ho_16 1012 (by omega)).trans hv2_7
                have hm3_16 : ct_16 1013 = some (rl ty 8 (tkn (yn (hy h9)) (gaf (yn (hy h9)) (yM (hy h9)) (hg h9) v) sl)) := (ho_16 1013 (by omega)).trans hv3_7
                refine lv_iinc (v := jI ((((j8 + 1) : Nat) : Int) + 1)) (lv' := [(3, .int (jI ((((j8 + 1) : Nat) : Int) + 1))), (0, .ref (ad 1000)), (1, .int (jI ((h9 : Nat) : Int))), (2, .int (jI w9))]) hx hb dX6_kinds_114 hl (k := 0) rfl (jI_add _ _) (by decide) rfl (fun ls hl => ?_)
                refine lv_goto (tgt := 47) hx hb dX6_kinds_117 (by decide) ?_
                exact ih_LQ (j8 + 1) (by omega) (by omega) ct_16 _ _ hm0_16 trivial hm1_16 trivial hm2_16 trivial hm3_16 trivial hof_16 trivial hW hS ls (lv_sub hl [0, 1, 2, 3] rfl)
        exact LQ ((yn (hy h9)) + 1) (0) (by omega) (by omega) ct_6 _ _ (hm0_6.trans (congrArg (fun f => some (rl ty 160 (fl 8 (ub hg h9 f)))) (tkn_0 _ _))) trivial hm1_6 trivial hm2_6 trivial hm3_6 trivial hof_6 trivial hW hS ls (lv_sub hl [0, 1, 2, 3] rfl)
      · skip
        refine lv_aload_n hx hb dX6_kinds_17 rfl (lv_at hl 1 rfl) ?_
        refine rm_get (ci := 6) (v := .ref (ad 1013)) (C := RX6) (T := TX6) (N := 19) hx hb hts (by decide +kernel) hown hK hW ((hofv_2 1000 (by omega) (by omega) (by omega) (by omega)).trans hMo.1) rfl 15 (by decide) (hts (.fieldLink RX6 48 "GrainYardModel" "still" "[J") (by decide +kernel)) (fun _ h9 => h9) rfl dX6_kinds_18 ?_
        refine lv_iload_n hx hb dX6_kinds_21 rfl (lv_at hl 0 rfl) ?_
        refine lv_aload_n hx hb dX6_kinds_22 rfl (lv_at hl 1 rfl) ?_
        refine rm_get (ci := 6) (v := .ref (ad 1005)) (C := RX6) (T := TX6) (N := 19) hx hb hts (by decide +kernel) hown hK hW ((hofv_2 1000 (by omega) (by omega) (by omega) (by omega)).trans hMo.1) rfl 7 (by decide) (hts (.fieldLink RX6 23 "GrainYardModel" "grains" "[J") (by decide +kernel)) (fun _ h9 => h9) rfl dX6_kinds_23 ?_
        refine lv_bipush (v := jI 8) hx hb dX6_kinds_26 (by decide) ?_
        refine lv_iload_n hx hb dX6_kinds_28 rfl (lv_at hl 2 rfl) ?_
        refine rm_imul hx hb dX6_kinds_29 ?_
        refine lv_iload_n hx hb dX6_kinds_30 rfl (lv_at hl 0 rfl) ?_
        refine rm_iadd hx hb dX6_kinds_31 ?_
        refine rm_lald hx hb hK hW (f := (fl 8 (ub hg h9 (gaf (yn (hy h9)) (yM (hy h9)) (hg h9) v)))) hv0_2 (8 * h9 + (i8 + 1)) (by first | rfl | (push_cast; omega)) (by omega) (by omega) dX6_kinds_32 ?_
        rw [fl_at (by omega), ub_s]
        refine rm_last hx hb hK hW hS (f := (tkn (i8 + 1) (gaf (yn (hy h9)) (yM (hy h9)) (hg h9) v) sl)) hv3_2 (i8 + 1) rfl (by omega) (by omega) dX6_kinds_33 (fun H locs ct_17 hs_17 ho_17 hW hS hz_17 => ?_)
        have hof_17 : ∀ q, q ≠ 1005 → q ≠ 1006 → q ≠ 1012 → q ≠ 1013 → ct_17 q = ct q := fun q h0_17 h1_17 h2_17 h3_17 => (ho_17 q h3_17).trans (hofv_2 q h0_17 h1_17 h2_17 h3_17)
        have hm0_17 : ct_17 1005 = some (rl ty 160 (fl 8 (ub hg h9 (gaf (yn (hy h9)) (yM (hy h9)) (hg h9) v)))) := (ho_17 1005 (by omega)).trans hv0_2
        have hm1_17 : ct_17 1006 = some (rl ty 160 (fl 8 (ub hf h9 v))) := (ho_17 1006 (by omega)).trans hv1_2
        have hm2_17 : ct_17 1012 = some (rl ty 8 mu) := (ho_17 1012 (by omega)).trans hv2_2
        have hk_18 : ct_17 1013 = some (rl ty 8 (tkn ((i8 + 1) + 1) (gaf (yn (hy h9)) (yM (hy h9)) (hg h9) v) sl)) := hs_17.trans (congrArg (fun f => some (rl ty 8 f)) (tkn_s (by omega)))
        refine lv_iinc (v := jI ((((i8 + 1) : Nat) : Int) + 1)) (lv' := [(3, .int (jI ((((i8 + 1) : Nat) : Int) + 1))), (0, .ref (ad 1000)), (1, .int (jI ((h9 : Nat) : Int))), (2, .int (jI w9))]) hx hb dX6_kinds_34 hl (k := 0) rfl (jI_add _ _) (by decide) rfl (fun ls hl => ?_)
        refine lv_goto (tgt := 8) hx hb dX6_kinds_37 (by decide) ?_
        exact ih_LP (i8 + 1) (by omega) (by omega) ct_17 _ _ hm0_17 trivial hm1_17 trivial hm2_17 trivial hk_18 trivial hof_17 trivial hW hS ls (lv_sub hl [0, 1, 2, 3] rfl)
  exact LP ((yn (hy h9)) + 1) (0) (by omega) (by omega) ct_1 _ _ hm0_1 trivial hm1_1 trivial hm2_1 trivial (hm3_1.trans (congrArg (fun f => some (rl ty 8 f)) (tkn_0 _ _))) trivial hof_1 trivial hW hS ls (lv_sub hl [0, 1, 2, 3] rfl)
