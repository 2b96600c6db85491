section ModPic9
def tgf (tr i : Nat) (f : Nat → Int) : Nat → Int := fun q => if 1 ≤ q ∧ q < i then ((tgt tr q : Nat) : Int) else f q
def ptf (tr i : Nat) (f : Nat → Int) : Nat → Int := fun q => if 1 ≤ q ∧ q < i then ((pth tr q : Nat) : Int) else f q
theorem tgf_1 (tr : Nat) (f : Nat → Int) : f = tgf tr 1 f := by funext q; unfold tgf; rw [if_neg (by omega)]
theorem ptf_1 (tr : Nat) (f : Nat → Int) : f = ptf tr 1 f := by funext q; unfold ptf; rw [if_neg (by omega)]
theorem tgf_s {tr i : Nat} {f : Nat → Int} (h : 1 ≤ i) : ub (tgf tr i f) i ((tgt tr i : Nat) : Int) = tgf tr (i + 1) f := by
  funext q
  by_cases e : q = i
  · subst e; rw [ub_s]; unfold tgf; rw [if_pos ⟨h, by omega⟩]
  · rw [ub_n _ _ e]; unfold tgf
    by_cases e2 : 1 ≤ q ∧ q < i
    · rw [if_pos e2, if_pos ⟨e2.1, by omega⟩]
    · rw [if_neg e2, if_neg (by omega)]
theorem ptf_s {tr i : Nat} {f : Nat → Int} (h : 1 ≤ i) : ub (ptf tr i f) i ((pth tr i : Nat) : Int) = ptf tr (i + 1) f := by
  funext q
  by_cases e : q = i
  · subst e; rw [ub_s]; unfold ptf; rw [if_pos ⟨h, by omega⟩]
  · rw [ub_n _ _ e]; unfold ptf
    by_cases e2 : 1 ≤ q ∧ q < i
    · rw [if_pos e2, if_pos ⟨e2.1, by omega⟩]
    · rw [if_neg e2, if_neg (by omega)]
theorem tgf_in {tr i q : Nat} {f : Nat → Int} (h1 : 1 ≤ q) (h2 : q < i) : tgf tr i f q = ((tgt tr q : Nat) : Int) := if_pos ⟨h1, h2⟩
theorem ptf_in {tr i q : Nat} {f : Nat → Int} (h1 : 1 ≤ q) (h2 : q < i) : ptf tr i f q = ((pth tr q : Nat) : Int) := if_pos ⟨h1, h2⟩
theorem v_tgt (tr p : Nat) : tr / 2 ^ (5 * (p - 1)) % 32 % 2 ^ 3 = tgt tr p := by unfold tgt; rw [show (2 : Nat) ^ 3 = 8 from rfl]; omega
theorem v_pth (tr p : Nat) : tr / 2 ^ (5 * (p - 1)) % 32 / 2 ^ 3 = pth tr p := by
  unfold pth
  rw [Nat.pow_add, ← Nat.div_div_eq_div_mul, show (2 : Nat) ^ 3 = 8 from rfl]; omega
/-- some place's path isn't there -/
def exb (n tr : Nat) (M : Nat → Nat → Int) : Prop := ∃ p, 1 ≤ p ∧ p < n ∧ M p (tgt tr p) ≤ (pth tr p : Int)
/-- the last loops' sum: paths to the places of the round ahead below a place -/
theorem pbk_cong {M : Nat → Nat → Int} {rd rd' : Nat → Int} {p : Nat} : ∀ {i : Nat}, (∀ o, o < i → rd o = rd' o) → rd p = rd' p → pbk M rd p i = pbk M rd' p i := by
  intro i h hp
  have e : gs (fun o => if rd o = rd p - 1 then M p o else 0) i = gs (fun o => if rd' o = rd' p - 1 then M p o else 0) i := gs_cong (fun o ho => by rw [h o ho, hp])
  exact e
end ModPic9
set_option maxHeartbeats 4000000 in
set_option maxRecDepth 100000 in
theorem c_X6_grow (l : Launch) (D : va_G) (ty : Nat → ClassId) (ad : Nat → Nat) (ct : rm_C) (sz : Nat) (th : Int) (yc hc : Nat) (yn : Nat → Nat) (yM : Nat → Nat → Nat → Int) (yu : Nat → Int) (hy : Nat → Nat) (hg hf mA : Nat → Nat → Int) (pt ro ke kt mu sl tw bw de : Nat → Int) (hMo : ModAt ty ad ct th yc hc yn yM yu hy hg hf mA pt ro ke kt mu sl tw bw de) (hb20 : yc ≤ 6 ∧ hc ≤ 20) (hyn : ∀ y, y < yc → 2 ≤ yn y ∧ yn y ≤ 8) (hyM : ∀ y, y < yc → ∀ i j, 0 ≤ yM y i j ∧ yM y i j ≤ 3) (hhy : ∀ h, h < hc → hy h < yc) (hyk : ∀ h, h < hc → yok (yn (hy h)) (yM (hy h))) (z9 : Int) (tr : Nat) (hz9 : r32 z9) (htr : tr < 18446744073709551616) : Met l yX6_grow wsX6_grow ({ frames := 2, cells := 0, slots := 0, locals := 47 }) (rm_P D ty ad ct sz [.ref (ad 1000), .int (jI z9), .long (jL ((tr : Nat) : Int))]) (rm_Qi D ad ct sz (fun z ct1 => (∀ q, (q < 1000 ∨ 1016 < q) → ct1 q = ct q) ∧ (((z9 < 0 ∨ ((hc : Nat) : Int) ≤ z9) ∧ ModX ty ad ct1 1 yc hc yn yM yu hy hg hf) ∨ ∃ h9 : Nat, z9 = (h9 : Int) ∧ h9 < hc ∧ ((z = 0 ∧ (exb (yn (hy h9)) tr (yM (hy h9)) ∨ ((∀ p, 1 ≤ p → p < (yn (hy h9)) → (pth tr p : Int) < (yM (hy h9)) p (tgt tr p)) ∧ ∃ q, q < (yn (hy h9)) ∧ (fit9 (yn (hy h9)) tr ((yn (hy h9)) - 1)) q = -1)) ∧ ModX ty ad ct1 0 yc hc yn yM yu hy hg hf) ∨ (z = 1 ∧ (∀ p, 1 ≤ p → p < (yn (hy h9)) → (pth tr p : Int) < (yM (hy h9)) p (tgt tr p)) ∧ (∀ q, q < (yn (hy h9)) → (fit9 (yn (hy h9)) tr ((yn (hy h9)) - 1)) q ≠ -1) ∧ ModX ty ad ct1 0 yc hc yn yM yu hy (us hg h9 (tkn (yn (hy h9)) (grw (yn (hy h9)) (yM (hy h9)) (dg (yn (hy h9)) (yM (hy h9))) tr) (hg h9))) hf))))) 0 0 (rm_A ad ct sz) := by
  refine Met.ofW (cc := cX6_grow) (maxL := 10) (ret := (some .boolean)) (by decide) rfl ?_
  intro p e s m args below meth c s₁ B hml hv
  obtain ⟨hargs, hsz, hW, hK, hNw⟩ := hv
  have hx := B.exec
  have hb := B.bytes
  have hr := B.returns
  have hts := atoms_spec (ws := wsX6_grow) B.pre
  have hown : s.vm.findClass RX6 = some m.cls := findClass_of_methodNamed B.named
  have hlocks := B.notSynchronized
  subst hsz
  have hW := hW.own (sz := s.heap.size)
  have hA : ∀ q : Nat, s.heap.size ≤ q → rm_A ad ct s.heap.size q := fun q h => Or.inr h
  have hS : va_S (rm_A ad ct s.heap.size) s.heap s.heap [] := va_S.rf
  have hent : entryFrame m args 10 = entryFrame m ([.ref (ad 1000), .int (jI z9), .long (jL ((tr : Nat) : Int))] : List Value).toArray 10 := by rw [hargs]
  have hl := lv_entry ([.ref (ad 1000), .int (jI z9), .long (jL ((tr : Nat) : Int))]) (n := 10) (Nat.le_of_ble_eq_true rfl)
  rw [hent, lg_entry_eq]
  generalize (lg_sl ([.ref (ad 1000), .int (jI z9), .long (jL ((tr : Nat) : Int))]) ++ List.replicate (10 - (lg_sl ([.ref (ad 1000), .int (jI z9), .long (jL ((tr : Nat) : Int))])).length) Slot.unset).toArray = ls at hl ⊢
  have hl : lv_has ls 10 [(0, .ref (ad 1000)), (1, .int (jI z9)), (2, .long (jL ((tr : Nat) : Int)))] := hl
  refine lv_aload_n hx hb dX6_grow_0 rfl (lv_at hl 0 rfl) ?_
  refine lv_iload_n hx hb dX6_grow_1 rfl (lv_at hl 1 rfl) ?_
  refine rm_calli (va_runV (As := [.int (jI z9)]) (rest := []) ⟨hx, hb, hml, hown, hts⟩ (c_X6_isHeap l D ty ad ct s.heap.size th yc hc yn yM yu hy hg hf mA pt ro ke kt mu sl tw bw de hMo z9 hz9 hb20) (cwV 1 hts gX6_grow_X6_isHeap rfl rfl rfl (by decide +kernel) ⟨Nat.le_of_ble_eq_true rfl, Nat.le_of_ble_eq_true rfl⟩) (rm_preV hK hNw hW hMo.1 rfl) rfl rfl hl.1 rfl (lv_room (Nat.le_of_ble_eq_true rfl)) dX6_grow_2 ⟨Nat.zero_le _, Nat.zero_le _⟩) hW hS hA (fun z_1 ct_1 H locs hq_1 hW hS => ?_)
  obtain ⟨hqo, hqc⟩ := hq_1
  rcases hqc with ⟨hbad, hz, hqs⟩ | ⟨hp1, hp2, hz, hqs⟩
  · skip
    subst hz
    have ho_1 : ∀ q, q ≠ 1000 → ct_1 q = ct q := hqo
    have hof_1 : ∀ q, q ≠ 1000 → q ≠ 1005 → q ≠ 1014 → q ≠ 1015 → q ≠ 1016 → ct_1 q = ct q := fun q h0_1 h1_1 h2_1 h3_1 h4_1 => (ho_1 q h0_1).trans rfl
    have hm0_1 : ct_1 1000 = some (.inr (6, [.int (jI 1), .int (jI ((yc : Nat) : Int)), .int (jI ((hc : Nat) : Int)), .ref (ad 1001), .ref (ad 1002), .ref (ad 1003), .ref (ad 1004), .ref (ad 1005), .ref (ad 1006), .ref (ad 1007), .ref (ad 1008), .ref (ad 1009), .ref (ad 1010), .ref (ad 1011), .ref (ad 1012), .ref (ad 1013), .ref (ad 1014), .ref (ad 1015), .ref (ad 1016)]) : va_E) := hqs
    have hm1_1 : ct_1 1005 = some (rl ty 160 (fl 8 hg)) := (ho_1 1005 (by omega)).trans hMo.2.2.2.2.2.1
    have hm2_1 : ct_1 1014 = some (ri ty 8 tw) := (ho_1 1014 (by omega)).trans hMo.2.2.2.2.2.2.2.2.2.2.2.2.2.2.1
    have hm3_1 : ct_1 1015 = some (ri ty 8 bw) := (ho_1 1015 (by omega)).trans hMo.2.2.2.2.2.2.2.2.2.2.2.2.2.2.2.1
    have hm4_1 : ct_1 1016 = some (ri ty 8 de) := (ho_1 1016 (by omega)).trans hMo.2.2.2.2.2.2.2.2.2.2.2.2.2.2.2.2
    refine rm_if_ne (tgt := 10) hx hb ⟨by omega, by omega⟩ dX6_grow_5 (by decide) (fun hq => absurd hq (by omega)) (fun _ => ?_)
    refine lv_iconst (v := jI 0) hx hb dX6_grow_8 rfl ?_
    exact W.zret hx hb hr (by decide) (fun t ht hw => ⟨⟨_, (0, ct_1), rfl, ⟨rfl, ⟨(fun q hq9 => hof_1 q (by omega) (by omega) (by omega) (by omega) (by omega)), Or.inl ⟨hbad, ⟨mA, pt, ro, ke, kt, mu, sl, tw, bw, de, ⟨hm0_1, ((hof_1 1001 (by omega) (by omega) (by omega) (by omega) (by omega)).trans hMo.2.1), ((hof_1 1002 (by omega) (by omega) (by omega) (by omega) (by omega)).trans hMo.2.2.1), ((hof_1 1003 (by omega) (by omega) (by omega) (by omega) (by omega)).trans hMo.2.2.2.1), ((hof_1 1004 (by omega) (by omega) (by omega) (by omega) (by omega)).trans hMo.2.2.2.2.1), hm1_1, ((hof_1 1006 (by omega) (by omega) (by omega) (by omega) (by omega)).trans hMo.2.2.2.2.2.2.1), ((hof_1 1007 (by omega) (by omega) (by omega) (by omega) (by omega)).trans hMo.2.2.2.2.2.2.2.1), ((hof_1 1008 (by omega) (by omega) (by omega) (by omega) (by omega)).trans hMo.2.2.2.2.2.2.2.2.1), ((hof_1 1009 (by omega) (by omega) (by omega) (by omega) (by omega)).trans hMo.2.2.2.2.2.2.2.2.2.1), ((hof_1 1010 (by omega) (by omega) (by omega) (by omega) (by omega)).trans hMo.2.2.2.2.2.2.2.2.2.2.1), ((hof_1 1011 (by omega) (by omega) (by omega) (by omega) (by omega)).trans hMo.2.2.2.2.2.2.2.2.2.2.2.1), ((hof_1 1012 (by omega) (by omega) (by omega) (by omega) (by omega)).trans hMo.2.2.2.2.2.2.2.2.2.2.2.2.1), ((hof_1 1013 (by omega) (by omega) (by omega) (by omega) (by omega)).trans hMo.2.2.2.2.2.2.2.2.2.2.2.2.2.1), hm2_1, hm3_1, hm4_1⟩⟩⟩⟩⟩, by show rm_W D ad _ _ t.heap; rw [ht]; exact hW⟩, hS.F ht⟩) hS.2.2 dX6_grow_9
  · skip
    subst hz
    have ho_1 : ∀ q, q ≠ 1000 → ct_1 q = ct q := hqo
    have hof_1 : ∀ q, q ≠ 1000 → q ≠ 1005 → q ≠ 1014 → q ≠ 1015 → q ≠ 1016 → ct_1 q = ct q := fun q h0_1 h1_1 h2_1 h3_1 h4_1 => (ho_1 q h0_1).trans rfl
    have hm0_1 : ct_1 1000 = some (.inr (6, [.int (jI 0), .int (jI ((yc : Nat) : Int)), .int (jI ((hc : Nat) : Int)), .ref (ad 1001), .ref (ad 1002), .ref (ad 1003), .ref (ad 1004), .ref (ad 1005), .ref (ad 1006), .ref (ad 1007), .ref (ad 1008), .ref (ad 1009), .ref (ad 1010), .ref (ad 1011), .ref (ad 1012), .ref (ad 1013), .ref (ad 1014), .ref (ad 1015), .ref (ad 1016)]) : va_E) := hqs
    have hm1_1 : ct_1 1005 = some (rl ty 160 (fl 8 hg)) := (ho_1 1005 (by omega)).trans hMo.2.2.2.2.2.1
    have hm2_1 : ct_1 1014 = some (ri ty 8 tw) := (ho_1 1014 (by omega)).trans hMo.2.2.2.2.2.2.2.2.2.2.2.2.2.2.1
    have hm3_1 : ct_1 1015 = some (ri ty 8 bw) := (ho_1 1015 (by omega)).trans hMo.2.2.2.2.2.2.2.2.2.2.2.2.2.2.2.1
    have hm4_1 : ct_1 1016 = some (ri ty 8 de) := (ho_1 1016 (by omega)).trans hMo.2.2.2.2.2.2.2.2.2.2.2.2.2.2.2.2
    obtain ⟨h9, hn_h9⟩ : ∃ h9 : Nat, z9 = (h9 : Int) := ⟨z9.toNat, by omega⟩
    subst hn_h9
    have hh9 : h9 < hc := by omega
    have hyh := hhy h9 hh9
    have hn8 := hyn (hy h9) hyh
    have hM8 := hyM (hy h9) hyh
    refine rm_if_ne (tgt := 10) hx hb ⟨by omega, by omega⟩ dX6_grow_5 (by decide) (fun _ => ?_) (fun hq => absurd hq (by omega))
    have hyk9 := hyk h9 hh9
    have hM0 : ∀ p q, (yn (hy h9)) ≤ q → (yM (hy h9)) p q = 0 := fun p q h => by rw [hyk9.2.2.2.1]; exact hyk9.2.2.2.2.2 q p h
    refine W_genQ (fun QQ hQQ => ?_)
    refine lv_aload_n hx hb dX6_grow_10 rfl (lv_at hl 0 rfl) ?_
    refine rm_get (ci := 6) (v := .ref (ad 1003)) (C := RX6) (T := TX6) (N := 19) hx hb hts (by decide +kernel) hown hK hW hm0_1 rfl 5 (by decide) (hts (.fieldLink RX6 16 "GrainYardModel" "yardOf" "[I") (by decide +kernel)) (fun _ h9 => h9) rfl dX6_grow_11 ?_
    refine lv_iload_n hx hb dX6_grow_14 rfl (lv_at hl 1 rfl) ?_
    refine rm_iald hx hb hK hW (f := (fun y => ((hy y : Nat) : Int))) ((hof_1 1003 (by omega) (by omega) (by omega) (by omega) (by omega)).trans hMo.2.2.2.1) h9 rfl (by omega) (by omega) dX6_grow_15 ?_
    refine lv_istore (lv' := [(4, .int (jI ((hy h9 : Nat) : Int))), (0, .ref (ad 1000)), (1, .int (jI ((h9 : Nat) : Int))), (2, .long (jL ((tr : Nat) : Int)))]) hx hb dX6_grow_16 hl (by decide) rfl (fun ls hl => ?_)
    refine lv_iconst (v := jI 1) hx hb dX6_grow_18 rfl ?_
    refine lv_istore (lv' := [(5, .int (jI 1)), (4, .int (jI ((hy h9 : Nat) : Int))), (0, .ref (ad 1000)), (1, .int (jI ((h9 : Nat) : Int))), (2, .long (jL ((tr : Nat) : Int)))]) hx hb dX6_grow_19 hl (by decide) rfl (fun ls hl => ?_)
    refine lv_iconst (v := jI 1) hx hb dX6_grow_21 rfl ?_
    refine lv_istore (lv' := [(6, .int (jI 1)), (5, .int (jI 1)), (4, .int (jI ((hy h9 : Nat) : Int))), (0, .ref (ad 1000)), (1, .int (jI ((h9 : Nat) : Int))), (2, .long (jL ((tr : Nat) : Int)))]) hx hb dX6_grow_22 hl (by decide) rfl (fun ls hl => ?_)
    have L1 : ∀ (k : Nat) (i8 : Nat) (z8 : Int) (hi8 : i8 + 1 ≤ (yn (hy h9))) (hz8 : (z8 = 1 ∧ ∀ p, 1 ≤ p → p < i8 + 1 → (pth tr p : Int) < (yM (hy h9)) p (tgt tr p)) ∨ (z8 = 0 ∧ exb (yn (hy h9)) tr (yM (hy h9)))), (yn (hy h9)) - i8 < k → ∀ (ctv : rm_C) (H : Heap) (locs : List Loc), (ctv 1000 = some (.inr (6, [.int (jI 0), .int (jI ((yc : Nat) : Int)), .int (jI ((hc : Nat) : Int)), .ref (ad 1001), .ref (ad 1002), .ref (ad 1003), .ref (ad 1004), .ref (ad 1005), .ref (ad 1006), .ref (ad 1007), .ref (ad 1008), .ref (ad 1009), .ref (ad 1010), .ref (ad 1011), .ref (ad 1012), .ref (ad 1013), .ref (ad 1014), .ref (ad 1015), .ref (ad 1016)]) : va_E)) → ∀ (_ : True), (ctv 1005 = some (rl ty 160 (fl 8 hg))) → ∀ (_ : True), (ctv 1014 = some (ri ty 8 (tgf tr (i8 + 1) tw))) → ∀ (_ : True), (ctv 1015 = some (ri ty 8 (ptf tr (i8 + 1) bw))) → ∀ (_ : True), (ctv 1016 = some (ri ty 8 de)) → ∀ (_ : True), (∀ q, q ≠ 1000 → q ≠ 1005 → q ≠ 1014 → q ≠ 1015 → q ≠ 1016 → ctv q = ct q) → ∀ (_ : True), rm_W D ad ctv (rm_A ad ct s.heap.size) H → va_S (rm_A ad ct s.heap.size) s.heap H locs → ∀ ls : Array Slot, lv_has ls 10 [(6, .int (jI (((i8 + 1) : Nat) : Int))), (5, .int (jI z8)), (4, .int (jI (((hy h9) : Nat) : Int))), (0, .ref (ad 1000)), (1, .int (jI ((h9 : Nat) : Int))), (2, .long (jL ((tr : Nat) : Int)))] → W p l e (headSpec wsX6_grow ({ frames := 2, cells := 0, slots := 0, locals := 47 })).room s m args below meth c H locs 0 0 QQ (F0 m 24 ls []) := by
      intro k
      induction k with
      | zero => intro i8 z8 hi8 hz8 hk; exact absurd hk (Nat.not_lt_zero _)
      | succ k ih_L1 =>
        intro i8 z8 hi8 hz8 hk ctv_2 H locs hv0_2 _ hv1_2 _ hv2_2 _ hv3_2 _ hv4_2 _ hofv_2 _ hW hS ls hl
        have hzr : z8 = 0 ∨ z8 = 1 := by rcases hz8 with h | h; exact Or.inr h.1; exact Or.inl h.1
        have htg := tgt_lt tr (i8 + 1)
        have hpt := pth_lt tr (i8 + 1)
        refine lv_iload hx hb dX6_grow_24 (lv_at hl 0 rfl) ?_
        refine lv_aload_n hx hb dX6_grow_26 rfl (lv_at hl 3 rfl) ?_
        refine lv_iload_n hx hb dX6_grow_27 rfl (lv_at hl 4 rfl) ?_
        refine rm_calli (va_runV (As := [.int (jI ((h9 : Nat) : Int))]) (rest := [.int (jI (((i8 + 1) : Nat) : Int))]) ⟨hx, hb, hml, hown, hts⟩ (c_X6_size l D ty ad ctv_2 H.size 0 yc hc yn yM yu hy hg hf mA pt ro ke kt mu sl (tgf tr (i8 + 1) tw) (ptf tr (i8 + 1) bw) de ⟨hv0_2, ((hofv_2 1001 (by omega) (by omega) (by omega) (by omega) (by omega)).trans hMo.2.1), ((hofv_2 1002 (by omega) (by omega) (by omega) (by omega) (by omega)).trans hMo.2.2.1), ((hofv_2 1003 (by omega) (by omega) (by omega) (by omega) (by omega)).trans hMo.2.2.2.1), ((hofv_2 1004 (by omega) (by omega) (by omega) (by omega) (by omega)).trans hMo.2.2.2.2.1), hv1_2, ((hofv_2 1006 (by omega) (by omega) (by omega) (by omega) (by omega)).trans hMo.2.2.2.2.2.2.1), ((hofv_2 1007 (by omega) (by omega) (by omega) (by omega) (by omega)).trans hMo.2.2.2.2.2.2.2.1), ((hofv_2 1008 (by omega) (by omega) (by omega) (by omega) (by omega)).trans hMo.2.2.2.2.2.2.2.2.1), ((hofv_2 1009 (by omega) (by omega) (by omega) (by omega) (by omega)).trans hMo.2.2.2.2.2.2.2.2.2.1), ((hofv_2 1010 (by omega) (by omega) (by omega) (by omega) (by omega)).trans hMo.2.2.2.2.2.2.2.2.2.2.1), ((hofv_2 1011 (by omega) (by omega) (by omega) (by omega) (by omega)).trans hMo.2.2.2.2.2.2.2.2.2.2.2.1), ((hofv_2 1012 (by omega) (by omega) (by omega) (by omega) (by omega)).trans hMo.2.2.2.2.2.2.2.2.2.2.2.2.1), ((hofv_2 1013 (by omega) (by omega) (by omega) (by omega) (by omega)).trans hMo.2.2.2.2.2.2.2.2.2.2.2.2.2.1), hv2_2, hv3_2, hv4_2⟩ h9 (by omega) (by omega)) (cwV 1 hts gX6_grow_X6_size rfl rfl rfl (by decide +kernel) ⟨Nat.le_of_ble_eq_true rfl, Nat.le_of_ble_eq_true rfl⟩) (rm_preV hK hNw hW hv0_2 rfl) rfl rfl hl.1 rfl (lv_room (Nat.le_of_ble_eq_true rfl)) dX6_grow_28 ⟨Nat.zero_le _, Nat.zero_le _⟩) hW hS hA (fun z_3 ct_3 H locs hq_3 hW hS => ?_)
        obtain ⟨hz, hcc_3⟩ := hq_3
        have hcc_3 := hcc_3.symm
        subst hcc_3
        subst hz
        refine rm_icmp_ge (tgt := 142) hx hb ⟨by omega, by omega⟩ ⟨by omega, by omega⟩ dX6_grow_31 (by decide) (fun hc_4 => ?_) (fun hc_4 => ?_)
        · skip
          have hie : i8 + 1 = (yn (hy h9)) := by omega
          rw [hie] at hz8
          have hk_5 : ctv_2 1014 = some (ri ty 8 (tgf tr (yn (hy h9)) tw)) := hv2_2.trans (congrArg (fun f => some (ri ty 8 f)) (by rw [hie]))
          have hk_6 : ctv_2 1015 = some (ri ty 8 (ptf tr (yn (hy h9)) bw)) := hv3_2.trans (congrArg (fun f => some (ri ty 8 f)) (by rw [hie]))
          have hl : lv_has ls 10 [(5, .int (jI z8)), (4, .int (jI (((hy h9) : Nat) : Int))), (0, .ref (ad 1000)), (1, .int (jI ((h9 : Nat) : Int))), (2, .long (jL ((tr : Nat) : Int)))] := lv_sub hl [1, 2, 3, 4, 5] rfl
          refine lv_iload hx hb dX6_grow_142 (lv_at hl 0 rfl) ?_
          refine rm_if_eq (tgt := 156) hx hb ⟨by omega, by omega⟩ dX6_grow_144 (by decide) (fun hc_7 => ?_) (fun hc_7 => ?_)
          · skip
            refine lv_iconst (v := jI 0) hx hb dX6_grow_156 rfl ?_
            rw [hQQ]
            exact W.zret hx hb hr (by decide) (fun t ht hw => ⟨⟨_, (0, ctv_2), rfl, ⟨rfl, ⟨(fun q hq9 => hofv_2 q (by omega) (by omega) (by omega) (by omega) (by omega)), Or.inr ⟨h9, rfl, hh9, Or.inl ⟨rfl, Or.inl (by rcases hz8 with h | h; exact absurd h.1 (by omega); exact h.2), ⟨mA, pt, ro, ke, kt, mu, sl, (tgf tr (yn (hy h9)) tw), (ptf tr (yn (hy h9)) bw), de, ⟨hv0_2, ((hofv_2 1001 (by omega) (by omega) (by omega) (by omega) (by omega)).trans hMo.2.1), ((hofv_2 1002 (by omega) (by omega) (by omega) (by omega) (by omega)).trans hMo.2.2.1), ((hofv_2 1003 (by omega) (by omega) (by omega) (by omega) (by omega)).trans hMo.2.2.2.1), ((hofv_2 1004 (by omega) (by omega) (by omega) (by omega) (by omega)).trans hMo.2.2.2.2.1), hv1_2, ((hofv_2 1006 (by omega) (by omega) (by omega) (by omega) (by omega)).trans hMo.2.2.2.2.2.2.1), ((hofv_2 1007 (by omega) (by omega) (by omega) (by omega) (by omega)).trans hMo.2.2.2.2.2.2.2.1), ((hofv_2 1008 (by omega) (by omega) (by omega) (by omega) (by omega)).trans hMo.2.2.2.2.2.2.2.2.1), ((hofv_2 1009 (by omega) (by omega) (by omega) (by omega) (by omega)).trans hMo.2.2.2.2.2.2.2.2.2.1), ((hofv_2 1010 (by omega) (by omega) (by omega) (by omega) (by omega)).trans hMo.2.2.2.2.2.2.2.2.2.2.1), ((hofv_2 1011 (by omega) (by omega) (by omega) (by omega) (by omega)).trans hMo.2.2.2.2.2.2.2.2.2.2.2.1), ((hofv_2 1012 (by omega) (by omega) (by omega) (by omega) (by omega)).trans hMo.2.2.2.2.2.2.2.2.2.2.2.2.1), ((hofv_2 1013 (by omega) (by omega) (by omega) (by omega) (by omega)).trans hMo.2.2.2.2.2.2.2.2.2.2.2.2.2.1), hk_5, hk_6, hv4_2⟩⟩⟩⟩⟩⟩, by show rm_W D ad _ _ t.heap; rw [ht]; exact hW⟩, hS.F ht⟩) hS.2.2 dX6_grow_157
          · skip
            have hgd : (∀ p, 1 ≤ p → p < (yn (hy h9)) → (pth tr p : Int) < (yM (hy h9)) p (tgt tr p)) := by rcases hz8 with h | h; exact h.2; exact absurd h.1 (by omega)
            have htl : ∀ q, 1 ≤ q → q < (yn (hy h9)) → tgt tr q < (yn (hy h9)) := fun q a b => by
              rcases Nat.lt_or_ge (tgt tr q) (yn (hy h9)) with h | h
              · exact h
              · exfalso; have h1 := hgd q a b; rw [hM0 q _ h] at h1; omega
            have hfd : ∀ q, q < (yn (hy h9)) → (fit9 (yn (hy h9)) tr ((yn (hy h9)) - 1)) q = dps tr 8 q := fun q hq => by
              rw [(fit_dps htl ((yn (hy h9)) - 1)).2 q hq, ← dps_end (by omega) htl hq (8 - ((yn (hy h9)) - 1)), show (yn (hy h9)) - 1 + (8 - ((yn (hy h9)) - 1)) = 8 by omega]
            refine lv_aload_n hx hb dX6_grow_147 rfl (lv_at hl 2 rfl) ?_
            refine lv_iload hx hb dX6_grow_148 (lv_at hl 1 rfl) ?_
            refine rm_calli (va_runV (As := [.int (jI (((hy h9) : Nat) : Int))]) (rest := []) ⟨hx, hb, hml, hown, hts⟩ (c_X6_leads l D ty ad ctv_2 H.size 0 yc hc yn yM yu hy hg hf mA pt ro ke kt mu sl (tgf tr (yn (hy h9)) tw) (ptf tr (yn (hy h9)) bw) de ⟨hv0_2, ((hofv_2 1001 (by omega) (by omega) (by omega) (by omega) (by omega)).trans hMo.2.1), ((hofv_2 1002 (by omega) (by omega) (by omega) (by omega) (by omega)).trans hMo.2.2.1), ((hofv_2 1003 (by omega) (by omega) (by omega) (by omega) (by omega)).trans hMo.2.2.2.1), ((hofv_2 1004 (by omega) (by omega) (by omega) (by omega) (by omega)).trans hMo.2.2.2.2.1), hv1_2, ((hofv_2 1006 (by omega) (by omega) (by omega) (by omega) (by omega)).trans hMo.2.2.2.2.2.2.1), ((hofv_2 1007 (by omega) (by omega) (by omega) (by omega) (by omega)).trans hMo.2.2.2.2.2.2.2.1), ((hofv_2 1008 (by omega) (by omega) (by omega) (by omega) (by omega)).trans hMo.2.2.2.2.2.2.2.2.1), ((hofv_2 1009 (by omega) (by omega) (by omega) (by omega) (by omega)).trans hMo.2.2.2.2.2.2.2.2.2.1), ((hofv_2 1010 (by omega) (by omega) (by omega) (by omega) (by omega)).trans hMo.2.2.2.2.2.2.2.2.2.2.1), ((hofv_2 1011 (by omega) (by omega) (by omega) (by omega) (by omega)).trans hMo.2.2.2.2.2.2.2.2.2.2.2.1), ((hofv_2 1012 (by omega) (by omega) (by omega) (by omega) (by omega)).trans hMo.2.2.2.2.2.2.2.2.2.2.2.2.1), ((hofv_2 1013 (by omega) (by omega) (by omega) (by omega) (by omega)).trans hMo.2.2.2.2.2.2.2.2.2.2.2.2.2.1), hk_5, hk_6, hv4_2⟩ (hy h9) (by omega) hn8 hM8 tr htl (fun q a b => tgf_in a b)) (cwV 1 hts gX6_grow_X6_leads rfl rfl rfl (by decide +kernel) ⟨Nat.le_of_ble_eq_true rfl, Nat.le_of_ble_eq_true rfl⟩) (rm_preV hK hNw hW hv0_2 rfl) rfl rfl hl.1 rfl (lv_room (Nat.le_of_ble_eq_true rfl)) dX6_grow_150 ⟨Nat.zero_le _, Nat.zero_le _⟩) hW hS hA (fun z_8 ct_8 H locs hq_8 hW hS => ?_)
            obtain ⟨de1, hq1, hq2, hq3⟩ := hq_8
            have ho_8 : ∀ q, q ≠ 1016 → ct_8 q = ctv_2 q := hq2
            have hof_8 : ∀ q, q ≠ 1000 → q ≠ 1005 → q ≠ 1014 → q ≠ 1015 → q ≠ 1016 → ct_8 q = ct q := fun q h0_8 h1_8 h2_8 h3_8 h4_8 => (ho_8 q h4_8).trans (hofv_2 q h0_8 h1_8 h2_8 h3_8 h4_8)
            have hm0_8 : ct_8 1000 = some (.inr (6, [.int (jI 0), .int (jI ((yc : Nat) : Int)), .int (jI ((hc : Nat) : Int)), .ref (ad 1001), .ref (ad 1002), .ref (ad 1003), .ref (ad 1004), .ref (ad 1005), .ref (ad 1006), .ref (ad 1007), .ref (ad 1008), .ref (ad 1009), .ref (ad 1010), .ref (ad 1011), .ref (ad 1012), .ref (ad 1013), .ref (ad 1014), .ref (ad 1015), .ref (ad 1016)]) : va_E) := (ho_8 1000 (by omega)).trans hv0_2
            have hm1_8 : ct_8 1005 = some (rl ty 160 (fl 8 hg)) := (ho_8 1005 (by omega)).trans hv1_2
            have hm2_8 : ct_8 1014 = some (ri ty 8 (tgf tr (yn (hy h9)) tw)) := (ho_8 1014 (by omega)).trans hk_5
            have hm3_8 : ct_8 1015 = some (ri ty 8 (ptf tr (yn (hy h9)) bw)) := (ho_8 1015 (by omega)).trans hk_6
            have hm4_8 : ct_8 1016 = some (ri ty 8 de1) := hq1
            rcases hq3 with ⟨hz, hde⟩ | ⟨hz, hdn⟩
            · skip
              subst hz
              have hfa : ∀ q, q < (yn (hy h9)) → (fit9 (yn (hy h9)) tr ((yn (hy h9)) - 1)) q ≠ -1 := fun q hq => by rw [hfd q hq]; exact (hde q hq).1
              have hdf : ∀ q, q < (yn (hy h9)) → de1 q = (fit9 (yn (hy h9)) tr ((yn (hy h9)) - 1)) q := fun q hq => by rw [hfd q hq]; exact (hde q hq).2
              have hfr := fit9_rng (n := (yn (hy h9))) (tr := tr) ((yn (hy h9)) - 1) (by omega)
              refine rm_if_ne (tgt := 158) hx hb ⟨by omega, by omega⟩ dX6_grow_153 (by decide) (fun _ => ?_) (fun hq => absurd hq (by omega))
              have hl : lv_has ls 10 [(4, .int (jI (((hy h9) : Nat) : Int))), (0, .ref (ad 1000)), (1, .int (jI ((h9 : Nat) : Int))), (2, .long (jL ((tr : Nat) : Int)))] := lv_sub hl [1, 2, 3, 4] rfl
              refine lv_iconst (v := jI 1) hx hb dX6_grow_158 rfl ?_
              refine lv_istore (lv' := [(6, .int (jI 1)), (4, .int (jI (((hy h9) : Nat) : Int))), (0, .ref (ad 1000)), (1, .int (jI ((h9 : Nat) : Int))), (2, .long (jL ((tr : Nat) : Int)))]) hx hb dX6_grow_159 hl (by decide) rfl (fun ls hl => ?_)
              have h05 : ct_8 1005 = some (rl ty 160 (fl 8 (ub hg h9 (tkn (0 + 1) (grw (yn (hy h9)) (yM (hy h9)) (dg (yn (hy h9)) (yM (hy h9))) tr) (hg h9))))) := hm1_8.trans (congrArg (fun G => some (rl ty 160 (fl 8 G))) (by rw [← tkn_0, ub_self]))
              have LP : ∀ (k : Nat) (p8 : Nat) (hp8 : p8 + 1 ≤ (yn (hy h9))), (yn (hy h9)) - p8 < k → ∀ (ctv : rm_C) (H : Heap) (locs : List Loc), (ctv 1000 = some (.inr (6, [.int (jI 0), .int (jI ((yc : Nat) : Int)), .int (jI ((hc : Nat) : Int)), .ref (ad 1001), .ref (ad 1002), .ref (ad 1003), .ref (ad 1004), .ref (ad 1005), .ref (ad 1006), .ref (ad 1007), .ref (ad 1008), .ref (ad 1009), .ref (ad 1010), .ref (ad 1011), .ref (ad 1012), .ref (ad 1013), .ref (ad 1014), .ref (ad 1015), .ref (ad 1016)]) : va_E)) → ∀ (_ : True), (ctv 1005 = some (rl ty 160 (fl 8 (ub hg h9 (tkn (p8 + 1) (grw (yn (hy h9)) (yM (hy h9)) (dg (yn (hy h9)) (yM (hy h9))) tr) (hg h9)))))) → ∀ (_ : True), (ctv 1014 = some (ri ty 8 (tgf tr (yn (hy h9)) tw))) → ∀ (_ : True), (ctv 1015 = some (ri ty 8 (ptf tr (yn (hy h9)) bw))) → ∀ (_ : True), (ctv 1016 = some (ri ty 8 de1)) → ∀ (_ : True), (∀ q, q ≠ 1000 → q ≠ 1005 → q ≠ 1014 → q ≠ 1015 → q ≠ 1016 → ctv q = ct q) → ∀ (_ : True), rm_W D ad ctv (rm_A ad ct s.heap.size) H → va_S (rm_A ad ct s.heap.size) s.heap H locs → ∀ ls : Array Slot, lv_has ls 10 [(6, .int (jI (((p8 + 1) : Nat) : Int))), (4, .int (jI (((hy h9) : Nat) : Int))), (0, .ref (ad 1000)), (1, .int (jI ((h9 : Nat) : Int))), (2, .long (jL ((tr : Nat) : Int)))] → W p l e (headSpec wsX6_grow ({ frames := 2, cells := 0, slots := 0, locals := 47 })).room s m args below meth c H locs 0 0 QQ (F0 m 161 ls []) := by
                intro k
                induction k with
                | zero => intro p8 hp8 hk; exact absurd hk (Nat.not_lt_zero _)
                | succ k ih_LP =>
                  intro p8 hp8 hk ctv_9 H locs hv0_9 _ hv1_9 _ hv2_9 _ hv3_9 _ hv4_9 _ hofv_9 _ hW hS ls hl
                  refine lv_iload hx hb dX6_grow_161 (lv_at hl 0 rfl) ?_
                  refine lv_aload_n hx hb dX6_grow_163 rfl (lv_at hl 2 rfl) ?_
                  refine lv_iload_n hx hb dX6_grow_164 rfl (lv_at hl 3 rfl) ?_
                  refine rm_calli (va_runV (As := [.int (jI ((h9 : Nat) : Int))]) (rest := [.int (jI (((p8 + 1) : Nat) : Int))]) ⟨hx, hb, hml, hown, hts⟩ (c_X6_size l D ty ad ctv_9 H.size 0 yc hc yn yM yu hy (ub hg h9 (tkn (p8 + 1) (grw (yn (hy h9)) (yM (hy h9)) (dg (yn (hy h9)) (yM (hy h9))) tr) (hg h9))) hf mA pt ro ke kt mu sl (tgf tr (yn (hy h9)) tw) (ptf tr (yn (hy h9)) bw) de1 ⟨hv0_9, ((hofv_9 1001 (by omega) (by omega) (by omega) (by omega) (by omega)).trans hMo.2.1), ((hofv_9 1002 (by omega) (by omega) (by omega) (by omega) (by omega)).trans hMo.2.2.1), ((hofv_9 1003 (by omega) (by omega) (by omega) (by omega) (by omega)).trans hMo.2.2.2.1), ((hofv_9 1004 (by omega) (by omega) (by omega) (by omega) (by omega)).trans hMo.2.2.2.2.1), hv1_9, ((hofv_9 1006 (by omega) (by omega) (by omega) (by omega) (by omega)).trans hMo.2.2.2.2.2.2.1), ((hofv_9 1007 (by omega) (by omega) (by omega) (by omega) (by omega)).trans hMo.2.2.2.2.2.2.2.1), ((hofv_9 1008 (by omega) (by omega) (by omega) (by omega) (by omega)).trans hMo.2.2.2.2.2.2.2.2.1), ((hofv_9 1009 (by omega) (by omega) (by omega) (by omega) (by omega)).trans hMo.2.2.2.2.2.2.2.2.2.1), ((hofv_9 1010 (by omega) (by omega) (by omega) (by omega) (by omega)).trans hMo.2.2.2.2.2.2.2.2.2.2.1), ((hofv_9 1011 (by omega) (by omega) (by omega) (by omega) (by omega)).trans hMo.2.2.2.2.2.2.2.2.2.2.2.1), ((hofv_9 1012 (by omega) (by omega) (by omega) (by omega) (by omega)).trans hMo.2.2.2.2.2.2.2.2.2.2.2.2.1), ((hofv_9 1013 (by omega) (by omega) (by omega) (by omega) (by omega)).trans hMo.2.2.2.2.2.2.2.2.2.2.2.2.2.1), hv2_9, hv3_9, hv4_9⟩ h9 (by omega) (by omega)) (cwV 1 hts gX6_grow_X6_size rfl rfl rfl (by decide +kernel) ⟨Nat.le_of_ble_eq_true rfl, Nat.le_of_ble_eq_true rfl⟩) (rm_preV hK hNw hW hv0_9 rfl) rfl rfl hl.1 rfl (lv_room (Nat.le_of_ble_eq_true rfl)) dX6_grow_165 ⟨Nat.zero_le _, Nat.zero_le _⟩) hW hS hA (fun z_10 ct_10 H locs hq_10 hW hS => ?_)
                  obtain ⟨hz, hcc_10⟩ := hq_10
                  have hcc_10 := hcc_10.symm
                  subst hcc_10
                  subst hz
                  refine rm_icmp_ge (tgt := 314) hx hb ⟨by omega, by omega⟩ ⟨by omega, by omega⟩ dX6_grow_168 (by decide) (fun hc_11 => ?_) (fun hc_11 => ?_)
                  · skip
                    have hpe : p8 + 1 = (yn (hy h9)) := by omega
                    have hk_12 : ctv_9 1005 = some (rl ty 160 (fl 8 (us hg h9 (tkn (yn (hy h9)) (grw (yn (hy h9)) (yM (hy h9)) (dg (yn (hy h9)) (yM (hy h9))) tr) (hg h9))))) := hv1_9.trans (congrArg (fun G => some (rl ty 160 (fl 8 G))) (by rw [hpe]; rfl))
                    refine lv_iconst (v := jI 1) hx hb dX6_grow_314 rfl ?_
                    rw [hQQ]
                    exact W.zret hx hb hr (by decide) (fun t ht hw => ⟨⟨_, (1, ctv_9), rfl, ⟨rfl, ⟨(fun q hq9 => hofv_9 q (by omega) (by omega) (by omega) (by omega) (by omega)), Or.inr ⟨h9, rfl, hh9, Or.inr ⟨rfl, hgd, hfa, ⟨mA, pt, ro, ke, kt, mu, sl, (tgf tr (yn (hy h9)) tw), (ptf tr (yn (hy h9)) bw), de1, ⟨hv0_9, ((hofv_9 1001 (by omega) (by omega) (by omega) (by omega) (by omega)).trans hMo.2.1), ((hofv_9 1002 (by omega) (by omega) (by omega) (by omega) (by omega)).trans hMo.2.2.1), ((hofv_9 1003 (by omega) (by omega) (by omega) (by omega) (by omega)).trans hMo.2.2.2.1), ((hofv_9 1004 (by omega) (by omega) (by omega) (by omega) (by omega)).trans hMo.2.2.2.2.1), hk_12, ((hofv_9 1006 (by omega) (by omega) (by omega) (by omega) (by omega)).trans hMo.2.2.2.2.2.2.1), ((hofv_9 1007 (by omega) (by omega) (by omega) (by omega) (by omega)).trans hMo.2.2.2.2.2.2.2.1), ((hofv_9 1008 (by omega) (by omega) (by omega) (by omega) (by omega)).trans hMo.2.2.2.2.2.2.2.2.1), ((hofv_9 1009 (by omega) (by omega) (by omega) (by omega) (by omega)).trans hMo.2.2.2.2.2.2.2.2.2.1), ((hofv_9 1010 (by omega) (by omega) (by omega) (by omega) (by omega)).trans hMo.2.2.2.2.2.2.2.2.2.2.1), ((hofv_9 1011 (by omega) (by omega) (by omega) (by omega) (by omega)).trans hMo.2.2.2.2.2.2.2.2.2.2.2.1), ((hofv_9 1012 (by omega) (by omega) (by omega) (by omega) (by omega)).trans hMo.2.2.2.2.2.2.2.2.2.2.2.2.1), ((hofv_9 1013 (by omega) (by omega) (by omega) (by omega) (by omega)).trans hMo.2.2.2.2.2.2.2.2.2.2.2.2.2.1), hv2_9, hv3_9, hv4_9⟩⟩⟩⟩⟩⟩, by show rm_W D ad _ _ t.heap; rw [ht]; exact hW⟩, hS.F ht⟩) hS.2.2 dX6_grow_315
                  · skip
                    have hdq := dg_rng8 hM8 hn8.2 (p8 + 1)
                    have hdfp := hdf (p8 + 1) (by omega)
                    have htlp := htl (p8 + 1) (by omega) (by omega)
                    have hfp := hfr (p8 + 1)
                    refine lv_aload_n hx hb dX6_grow_171 rfl (lv_at hl 2 rfl) ?_
                    refine lv_iload hx hb dX6_grow_172 (lv_at hl 1 rfl) ?_
                    refine lv_iload hx hb dX6_grow_174 (lv_at hl 0 rfl) ?_
                    refine rm_calli (va_runV (As := [.int (jI (((hy h9) : Nat) : Int)), .int (jI (((p8 + 1) : Nat) : Int))]) (rest := []) ⟨hx, hb, hml, hown, hts⟩ (c_X6_degreeOf l D ty ad ctv_9 H.size 0 yc hc yn yM yu hy (ub hg h9 (tkn (p8 + 1) (grw (yn (hy h9)) (yM (hy h9)) (dg (yn (hy h9)) (yM (hy h9))) tr) (hg h9))) hf mA pt ro ke kt mu sl (tgf tr (yn (hy h9)) tw) (ptf tr (yn (hy h9)) bw) de1 ⟨hv0_9, ((hofv_9 1001 (by omega) (by omega) (by omega) (by omega) (by omega)).trans hMo.2.1), ((hofv_9 1002 (by omega) (by omega) (by omega) (by omega) (by omega)).trans hMo.2.2.1), ((hofv_9 1003 (by omega) (by omega) (by omega) (by omega) (by omega)).trans hMo.2.2.2.1), ((hofv_9 1004 (by omega) (by omega) (by omega) (by omega) (by omega)).trans hMo.2.2.2.2.1), hv1_9, ((hofv_9 1006 (by omega) (by omega) (by omega) (by omega) (by omega)).trans hMo.2.2.2.2.2.2.1), ((hofv_9 1007 (by omega) (by omega) (by omega) (by omega) (by omega)).trans hMo.2.2.2.2.2.2.2.1), ((hofv_9 1008 (by omega) (by omega) (by omega) (by omega) (by omega)).trans hMo.2.2.2.2.2.2.2.2.1), ((hofv_9 1009 (by omega) (by omega) (by omega) (by omega) (by omega)).trans hMo.2.2.2.2.2.2.2.2.2.1), ((hofv_9 1010 (by omega) (by omega) (by omega) (by omega) (by omega)).trans hMo.2.2.2.2.2.2.2.2.2.2.1), ((hofv_9 1011 (by omega) (by omega) (by omega) (by omega) (by omega)).trans hMo.2.2.2.2.2.2.2.2.2.2.2.1), ((hofv_9 1012 (by omega) (by omega) (by omega) (by omega) (by omega)).trans hMo.2.2.2.2.2.2.2.2.2.2.2.2.1), ((hofv_9 1013 (by omega) (by omega) (by omega) (by omega) (by omega)).trans hMo.2.2.2.2.2.2.2.2.2.2.2.2.2.1), hv2_9, hv3_9, hv4_9⟩ (hy h9) (by omega) hn8 hM8 (p8 + 1) (by omega)) (cwV 2 hts gX6_grow_X6_degreeOf rfl rfl rfl (by decide +kernel) ⟨Nat.le_of_ble_eq_true rfl, Nat.le_of_ble_eq_true rfl⟩) (rm_preV hK hNw hW hv0_9 rfl) rfl rfl hl.1 rfl (lv_room (Nat.le_of_ble_eq_true rfl)) dX6_grow_176 ⟨Nat.zero_le _, Nat.zero_le _⟩) hW hS hA (fun z_13 ct_13 H locs hq_13 hW hS => ?_)
                    obtain ⟨hz, hcc_13⟩ := hq_13
                    have hcc_13 := hcc_13.symm
                    subst hcc_13
                    subst hz
                    refine rm_i2l hx hb dX6_grow_179 ⟨by omega, by omega⟩ ?_
                    refine lv_lstore (lv' := [(7, .long (jL (dg (yn (hy h9)) (yM (hy h9)) (p8 + 1)))), (6, .int (jI (((p8 + 1) : Nat) : Int))), (4, .int (jI (((hy h9) : Nat) : Int))), (0, .ref (ad 1000)), (1, .int (jI ((h9 : Nat) : Int))), (2, .long (jL ((tr : Nat) : Int)))]) hx hb dX6_grow_180 hl (by decide) rfl (fun ls hl => ?_)
                    refine lv_iconst (v := jI 0) hx hb dX6_grow_182 rfl ?_
                    refine lv_istore (lv' := [(9, .int (jI 0)), (7, .long (jL (dg (yn (hy h9)) (yM (hy h9)) (p8 + 1)))), (6, .int (jI (((p8 + 1) : Nat) : Int))), (4, .int (jI (((hy h9) : Nat) : Int))), (0, .ref (ad 1000)), (1, .int (jI ((h9 : Nat) : Int))), (2, .long (jL ((tr : Nat) : Int)))]) hx hb dX6_grow_183 hl (by decide) rfl (fun ls hl => ?_)
                    have hl : lv_has ls 10 [(9, .int (jI 0)), (7, .long (jL (ltb (yM (hy h9)) (dg (yn (hy h9)) (yM (hy h9))) (fit9 (yn (hy h9)) tr ((yn (hy h9)) - 1)) (p8 + 1) ((fit9 (yn (hy h9)) tr ((yn (hy h9)) - 1)) (p8 + 1)) 0))), (6, .int (jI (((p8 + 1) : Nat) : Int))), (4, .int (jI (((hy h9) : Nat) : Int))), (0, .ref (ad 1000)), (1, .int (jI ((h9 : Nat) : Int))), (2, .long (jL ((tr : Nat) : Int)))] := by rw [ltb_0]; exact hl
                    have LK : ∀ (k : Nat) (k8 : Nat) (hk8 : k8 ≤ (yn (hy h9))), (yn (hy h9)) - k8 < k → ∀ (ctv : rm_C) (H : Heap) (locs : List Loc), (ctv 1000 = some (.inr (6, [.int (jI 0), .int (jI ((yc : Nat) : Int)), .int (jI ((hc : Nat) : Int)), .ref (ad 1001), .ref (ad 1002), .ref (ad 1003), .ref (ad 1004), .ref (ad 1005), .ref (ad 1006), .ref (ad 1007), .ref (ad 1008), .ref (ad 1009), .ref (ad 1010), .ref (ad 1011), .ref (ad 1012), .ref (ad 1013), .ref (ad 1014), .ref (ad 1015), .ref (ad 1016)]) : va_E)) → ∀ (_ : True), (ctv 1005 = some (rl ty 160 (fl 8 (ub hg h9 (tkn (p8 + 1) (grw (yn (hy h9)) (yM (hy h9)) (dg (yn (hy h9)) (yM (hy h9))) tr) (hg h9)))))) → ∀ (_ : True), (ctv 1014 = some (ri ty 8 (tgf tr (yn (hy h9)) tw))) → ∀ (_ : True), (ctv 1015 = some (ri ty 8 (ptf tr (yn (hy h9)) bw))) → ∀ (_ : True), (ctv 1016 = some (ri ty 8 de1)) → ∀ (_ : True), (∀ q, q ≠ 1000 → q ≠ 1005 → q ≠ 1014 → q ≠ 1015 → q ≠ 1016 → ctv q = ct q) → ∀ (_ : True), rm_W D ad ctv (rm_A ad ct s.heap.size) H → va_S (rm_A ad ct s.heap.size) s.heap H locs → ∀ ls : Array Slot, lv_has ls 10 [(9, .int (jI ((k8 : Nat) : Int))), (7, .long (jL (ltb (yM (hy h9)) (dg (yn (hy h9)) (yM (hy h9))) (fit9 (yn (hy h9)) tr ((yn (hy h9)) - 1)) (p8 + 1) ((fit9 (yn (hy h9)) tr ((yn (hy h9)) - 1)) (p8 + 1)) k8))), (6, .int (jI (((p8 + 1) : Nat) : Int))), (4, .int (jI (((hy h9) : Nat) : Int))), (0, .ref (ad 1000)), (1, .int (jI ((h9 : Nat) : Int))), (2, .long (jL ((tr : Nat) : Int)))] → W p l e (headSpec wsX6_grow ({ frames := 2, cells := 0, slots := 0, locals := 47 })).room s m args below meth c H locs 0 0 QQ (F0 m 185 ls []) := by
                      intro k
                      induction k with
                      | zero => intro k8 hk8 hk; exact absurd hk (Nat.not_lt_zero _)
                      | succ k ih_LK =>
                        intro k8 hk8 hk ctv_14 H locs hv0_14 _ hv1_14 _ hv2_14 _ hv3_14 _ hv4_14 _ hofv_14 _ hW hS ls hl
                        have hls := ltb_s (yM (hy h9)) (dg (yn (hy h9)) (yM (hy h9))) (fit9 (yn (hy h9)) tr ((yn (hy h9)) - 1)) (p8 + 1) ((fit9 (yn (hy h9)) tr ((yn (hy h9)) - 1)) (p8 + 1)) k8
                        refine lv_iload hx hb dX6_grow_185 (lv_at hl 0 rfl) ?_
                        refine lv_aload_n hx hb dX6_grow_187 rfl (lv_at hl 4 rfl) ?_
                        refine lv_iload_n hx hb dX6_grow_188 rfl (lv_at hl 5 rfl) ?_
                        refine rm_calli (va_runV (As := [.int (jI ((h9 : Nat) : Int))]) (rest := [.int (jI ((k8 : Nat) : Int))]) ⟨hx, hb, hml, hown, hts⟩ (c_X6_size l D ty ad ctv_14 H.size 0 yc hc yn yM yu hy (ub hg h9 (tkn (p8 + 1) (grw (yn (hy h9)) (yM (hy h9)) (dg (yn (hy h9)) (yM (hy h9))) tr) (hg h9))) hf mA pt ro ke kt mu sl (tgf tr (yn (hy h9)) tw) (ptf tr (yn (hy h9)) bw) de1 ⟨hv0_14, ((hofv_14 1001 (by omega) (by omega) (by omega) (by omega) (by omega)).trans hMo.2.1), ((hofv_14 1002 (by omega) (by omega) (by omega) (by omega) (by omega)).trans hMo.2.2.1), ((hofv_14 1003 (by omega) (by omega) (by omega) (by omega) (by omega)).trans hMo.2.2.2.1), ((hofv_14 1004 (by omega) (by omega) (by omega) (by omega) (by omega)).trans hMo.2.2.2.2.1), hv1_14, ((hofv_14 1006 (by omega) (by omega) (by omega) (by omega) (by omega)).trans hMo.2.2.2.2.2.2.1), ((hofv_14 1007 (by omega) (by omega) (by omega) (by omega) (by omega)).trans hMo.2.2.2.2.2.2.2.1), ((hofv_14 1008 (by omega) (by omega) (by omega) (by omega) (by omega)).trans hMo.2.2.2.2.2.2.2.2.1), ((hofv_14 1009 (by omega) (by omega) (by omega) (by omega) (by omega)).trans hMo.2.2.2.2.2.2.2.2.2.1), ((hofv_14 1010 (by omega) (by omega) (by omega) (by omega) (by omega)).trans hMo.2.2.2.2.2.2.2.2.2.2.1), ((hofv_14 1011 (by omega) (by omega) (by omega) (by omega) (by omega)).trans hMo.2.2.2.2.2.2.2.2.2.2.2.1), ((hofv_14 1012 (by omega) (by omega) (by omega) (by omega) (by omega)).trans hMo.2.2.2.2.2.2.2.2.2.2.2.2.1), ((hofv_14 1013 (by omega) (by omega) (by omega) (by omega) (by omega)).trans hMo.2.2.2.2.2.2.2.2.2.2.2.2.2.1), hv2_14, hv3_14, hv4_14⟩ h9 (by omega) (by omega)) (cwV 1 hts gX6_grow_X6_size rfl rfl rfl (by decide +kernel) ⟨Nat.le_of_ble_eq_true rfl, Nat.le_of_ble_eq_true rfl⟩) (rm_preV hK hNw hW hv0_14 rfl) rfl rfl hl.1 rfl (lv_room (Nat.le_of_ble_eq_true rfl)) dX6_grow_189 ⟨Nat.zero_le _, Nat.zero_le _⟩) hW hS hA (fun z_15 ct_15 H locs hq_15 hW hS => ?_)
                        obtain ⟨hz, hcc_15⟩ := hq_15
                        have hcc_15 := hcc_15.symm
                        subst hcc_15
                        subst hz
                        refine rm_icmp_ge (tgt := 234) hx hb ⟨by omega, by omega⟩ ⟨by omega, by omega⟩ dX6_grow_192 (by decide) (fun hc_16 => ?_) (fun hc_16 => ?_)
                        · skip
                          have hke : k8 = (yn (hy h9)) := by omega
                          have hl : lv_has ls 10 [(7, .long (jL (ltb (yM (hy h9)) (dg (yn (hy h9)) (yM (hy h9))) (fit9 (yn (hy h9)) tr ((yn (hy h9)) - 1)) (p8 + 1) ((fit9 (yn (hy h9)) tr ((yn (hy h9)) - 1)) (p8 + 1)) k8))), (6, .int (jI (((p8 + 1) : Nat) : Int))), (4, .int (jI (((hy h9) : Nat) : Int))), (0, .ref (ad 1000)), (1, .int (jI ((h9 : Nat) : Int))), (2, .long (jL ((tr : Nat) : Int)))] := lv_sub hl [1, 2, 3, 4, 5, 6] rfl
                          have hl : lv_has ls 10 [(7, .long (jL (ltb (yM (hy h9)) (dg (yn (hy h9)) (yM (hy h9))) (fit9 (yn (hy h9)) tr ((yn (hy h9)) - 1)) (p8 + 1) ((fit9 (yn (hy h9)) tr ((yn (hy h9)) - 1)) (p8 + 1)) (yn (hy h9))))), (6, .int (jI (((p8 + 1) : Nat) : Int))), (4, .int (jI (((hy h9) : Nat) : Int))), (0, .ref (ad 1000)), (1, .int (jI ((h9 : Nat) : Int))), (2, .long (jL ((tr : Nat) : Int)))] := by rw [hke] at hl; exact hl
                          refine lv_iconst (v := jI 0) hx hb dX6_grow_234 rfl ?_
                          refine lv_istore (lv' := [(9, .int (jI 0)), (7, .long (jL (ltb (yM (hy h9)) (dg (yn (hy h9)) (yM (hy h9))) (fit9 (yn (hy h9)) tr ((yn (hy h9)) - 1)) (p8 + 1) ((fit9 (yn (hy h9)) tr ((yn (hy h9)) - 1)) (p8 + 1)) (yn (hy h9))))), (6, .int (jI (((p8 + 1) : Nat) : Int))), (4, .int (jI (((hy h9) : Nat) : Int))), (0, .ref (ad 1000)), (1, .int (jI ((h9 : Nat) : Int))), (2, .long (jL ((tr : Nat) : Int)))]) hx hb dX6_grow_235 hl (by decide) rfl (fun ls hl => ?_)
                          have hl : lv_has ls 10 [(9, .int (jI 0)), (7, .long (jL ((ltb (yM (hy h9)) (dg (yn (hy h9)) (yM (hy h9))) (fit9 (yn (hy h9)) tr ((yn (hy h9)) - 1)) (p8 + 1) ((fit9 (yn (hy h9)) tr ((yn (hy h9)) - 1)) (p8 + 1)) (yn (hy h9))) + (pbk (yM (hy h9)) (fit9 (yn (hy h9)) tr ((yn (hy h9)) - 1)) (p8 + 1) 0)))), (6, .int (jI (((p8 + 1) : Nat) : Int))), (4, .int (jI (((hy h9) : Nat) : Int))), (0, .ref (ad 1000)), (1, .int (jI ((h9 : Nat) : Int))), (2, .long (jL ((tr : Nat) : Int)))] := by rw [show (pbk (yM (hy h9)) (fit9 (yn (hy h9)) tr ((yn (hy h9)) - 1)) (p8 + 1) 0) = 0 from rfl, Int.add_zero]; exact hl
                          have LJ : ∀ (k : Nat) (j8 : Nat) (hj8 : j8 ≤ tgt tr (p8 + 1)), (yn (hy h9)) - j8 < k → ∀ (ctv : rm_C) (H : Heap) (locs : List Loc), (ctv 1000 = some (.inr (6, [.int (jI 0), .int (jI ((yc : Nat) : Int)), .int (jI ((hc : Nat) : Int)), .ref (ad 1001), .ref (ad 1002), .ref (ad 1003), .ref (ad 1004), .ref (ad 1005), .ref (ad 1006), .ref (ad 1007), .ref (ad 1008), .ref (ad 1009), .ref (ad 1010), .ref (ad 1011), .ref (ad 1012), .ref (ad 1013), .ref (ad 1014), .ref (ad 1015), .ref (ad 1016)]) : va_E)) → ∀ (_ : True), (ctv 1005 = some (rl ty 160 (fl 8 (ub hg h9 (tkn (p8 + 1) (grw (yn (hy h9)) (yM (hy h9)) (dg (yn (hy h9)) (yM (hy h9))) tr) (hg h9)))))) → ∀ (_ : True), (ctv 1014 = some (ri ty 8 (tgf tr (yn (hy h9)) tw))) → ∀ (_ : True), (ctv 1015 = some (ri ty 8 (ptf tr (yn (hy h9)) bw))) → ∀ (_ : True), (ctv 1016 = some (ri ty 8 de1)) → ∀ (_ : True), (∀ q, q ≠ 1000 → q ≠ 1005 → q ≠ 1014 → q ≠ 1015 → q ≠ 1016 → ctv q = ct q) → ∀ (_ : True), rm_W D ad ctv (rm_A ad ct s.heap.size) H → va_S (rm_A ad ct s.heap.size) s.heap H locs → ∀ ls : Array Slot, lv_has ls 10 [(9, .int (jI ((j8 : Nat) : Int))), (7, .long (jL ((ltb (yM (hy h9)) (dg (yn (hy h9)) (yM (hy h9))) (fit9 (yn (hy h9)) tr ((yn (hy h9)) - 1)) (p8 + 1) ((fit9 (yn (hy h9)) tr ((yn (hy h9)) - 1)) (p8 + 1)) (yn (hy h9))) + (pbk (yM (hy h9)) (fit9 (yn (hy h9)) tr ((yn (hy h9)) - 1)) (p8 + 1) j8)))), (6, .int (jI (((p8 + 1) : Nat) : Int))), (4, .int (jI (((hy h9) : Nat) : Int))), (0, .ref (ad 1000)), (1, .int (jI ((h9 : Nat) : Int))), (2, .long (jL ((tr : Nat) : Int)))] → W p l e (headSpec wsX6_grow ({ frames := 2, cells := 0, slots := 0, locals := 47 })).room s m args below meth c H locs 0 0 QQ (F0 m 237 ls []) := by
                            intro k
                            induction k with
                            | zero => intro j8 hj8 hk; exact absurd hk (Nat.not_lt_zero _)
                            | succ k ih_LJ =>
                              intro j8 hj8 hk ctv_17 H locs hv0_17 _ hv1_17 _ hv2_17 _ hv3_17 _ hv4_17 _ hofv_17 _ hW hS ls hl
                              have hps := pbk_s (yM (hy h9)) (fit9 (yn (hy h9)) tr ((yn (hy h9)) - 1)) (p8 + 1) j8
                              have htv : tgf tr (yn (hy h9)) tw (p8 + 1) = ((tgt tr (p8 + 1) : Nat) : Int) := tgf_in (by omega) (by omega)
                              have hpv : ptf tr (yn (hy h9)) bw (p8 + 1) = ((pth tr (p8 + 1) : Nat) : Int) := ptf_in (by omega) (by omega)
                              refine lv_iload hx hb dX6_grow_237 (lv_at hl 0 rfl) ?_
                              refine lv_aload_n hx hb dX6_grow_239 rfl (lv_at hl 4 rfl) ?_
                              refine rm_get (ci := 6) (v := .ref (ad 1014)) (C := RX6) (T := TX6) (N := 19) hx hb hts (by decide +kernel) hown hK hW hv0_17 rfl 16 (by decide) (hts (.fieldLink RX6 51 "GrainYardModel" "to" "[I") (by decide +kernel)) (fun _ h9 => h9) rfl dX6_grow_240 ?_
                              refine lv_iload hx hb dX6_grow_243 (lv_at hl 2 rfl) ?_
                              refine rm_iald hx hb hK hW (f := (tgf tr (yn (hy h9)) tw)) hv2_17 (p8 + 1) rfl (by omega) (by omega) dX6_grow_245 ?_
                              rw [htv]
                              refine rm_icmp_ge (tgt := 290) hx hb ⟨by omega, by omega⟩ ⟨by omega, by omega⟩ dX6_grow_246 (by decide) (fun hc_18 => ?_) (fun hc_18 => ?_)
                              · skip
                                have hje : j8 = tgt tr (p8 + 1) := by omega
                                have hl : lv_has ls 10 [(7, .long (jL ((ltb (yM (hy h9)) (dg (yn (hy h9)) (yM (hy h9))) (fit9 (yn (hy h9)) tr ((yn (hy h9)) - 1)) (p8 + 1) ((fit9 (yn (hy h9)) tr ((yn (hy h9)) - 1)) (p8 + 1)) (yn (hy h9))) + (pbk (yM (hy h9)) (fit9 (yn (hy h9)) tr ((yn (hy h9)) - 1)) (p8 + 1) j8)))), (6, .int (jI (((p8 + 1) : Nat) : Int))), (4, .int (jI (((hy h9) : Nat) : Int))), (0, .ref (ad 1000)), (1, .int (jI ((h9 : Nat) : Int))), (2, .long (jL ((tr : Nat) : Int)))] := lv_sub hl [1, 2, 3, 4, 5, 6] rfl
                                have hl : lv_has ls 10 [(7, .long (jL ((ltb (yM (hy h9)) (dg (yn (hy h9)) (yM (hy h9))) (fit9 (yn (hy h9)) tr ((yn (hy h9)) - 1)) (p8 + 1) ((fit9 (yn (hy h9)) tr ((yn (hy h9)) - 1)) (p8 + 1)) (yn (hy h9))) + (pbk (yM (hy h9)) (fit9 (yn (hy h9)) tr ((yn (hy h9)) - 1)) (p8 + 1) (tgt tr (p8 + 1)))))), (6, .int (jI (((p8 + 1) : Nat) : Int))), (4, .int (jI (((hy h9) : Nat) : Int))), (0, .ref (ad 1000)), (1, .int (jI ((h9 : Nat) : Int))), (2, .long (jL ((tr : Nat) : Int)))] := by rw [hje] at hl; exact hl
                                refine lv_aload_n hx hb dX6_grow_290 rfl (lv_at hl 3 rfl) ?_
                                refine lv_iload_n hx hb dX6_grow_291 rfl (lv_at hl 4 rfl) ?_
                                refine lv_iload hx hb dX6_grow_292 (lv_at hl 1 rfl) ?_
                                refine lv_lload hx hb dX6_grow_294 (lv_at hl 0 rfl) ?_
                                refine lv_aload_n hx hb dX6_grow_296 rfl (lv_at hl 3 rfl) ?_
                                refine rm_get (ci := 6) (v := .ref (ad 1015)) (C := RX6) (T := TX6) (N := 19) hx hb hts (by decide +kernel) hown hK hW hv0_17 rfl 17 (by decide) (hts (.fieldLink RX6 54 "GrainYardModel" "by" "[I") (by decide +kernel)) (fun _ h9 => h9) rfl dX6_grow_297 ?_
                                refine lv_iload hx hb dX6_grow_300 (lv_at hl 1 rfl) ?_
                                refine rm_iald hx hb hK hW (f := (ptf tr (yn (hy h9)) bw)) hv3_17 (p8 + 1) rfl (by omega) (by omega) dX6_grow_302 ?_
                                rw [hpv]
                                have hp4 := pth_lt tr (p8 + 1)
                                refine rm_i2l hx hb dX6_grow_303 ⟨by omega, by omega⟩ ?_
                                refine rm_ladd hx hb dX6_grow_304 ?_
                                refine rm_callv (va_runV (As := [.int (jI ((h9 : Nat) : Int)), .int (jI (((p8 + 1) : Nat) : Int)), .long (jL (((ltb (yM (hy h9)) (dg (yn (hy h9)) (yM (hy h9))) (fit9 (yn (hy h9)) tr ((yn (hy h9)) - 1)) (p8 + 1) ((fit9 (yn (hy h9)) tr ((yn (hy h9)) - 1)) (p8 + 1)) (yn (hy h9))) + (pbk (yM (hy h9)) (fit9 (yn (hy h9)) tr ((yn (hy h9)) - 1)) (p8 + 1) (tgt tr (p8 + 1)))) + (((pth tr (p8 + 1)) : Nat) : Int)))]) (rest := []) ⟨hx, hb, hml, hown, hts⟩ (c_X6_sets l D ty ad ctv_17 H.size 0 yc hc yn yM yu hy (ub hg h9 (tkn (p8 + 1) (grw (yn (hy h9)) (yM (hy h9)) (dg (yn (hy h9)) (yM (hy h9))) tr) (hg h9))) hf mA pt ro ke kt mu sl (tgf tr (yn (hy h9)) tw) (ptf tr (yn (hy h9)) bw) de1 ⟨hv0_17, ((hofv_17 1001 (by omega) (by omega) (by omega) (by omega) (by omega)).trans hMo.2.1), ((hofv_17 1002 (by omega) (by omega) (by omega) (by omega) (by omega)).trans hMo.2.2.1), ((hofv_17 1003 (by omega) (by omega) (by omega) (by omega) (by omega)).trans hMo.2.2.2.1), ((hofv_17 1004 (by omega) (by omega) (by omega) (by omega) (by omega)).trans hMo.2.2.2.2.1), hv1_17, ((hofv_17 1006 (by omega) (by omega) (by omega) (by omega) (by omega)).trans hMo.2.2.2.2.2.2.1), ((hofv_17 1007 (by omega) (by omega) (by omega) (by omega) (by omega)).trans hMo.2.2.2.2.2.2.2.1), ((hofv_17 1008 (by omega) (by omega) (by omega) (by omega) (by omega)).trans hMo.2.2.2.2.2.2.2.2.1), ((hofv_17 1009 (by omega) (by omega) (by omega) (by omega) (by omega)).trans hMo.2.2.2.2.2.2.2.2.2.1), ((hofv_17 1010 (by omega) (by omega) (by omega) (by omega) (by omega)).trans hMo.2.2.2.2.2.2.2.2.2.2.1), ((hofv_17 1011 (by omega) (by omega) (by omega) (by omega) (by omega)).trans hMo.2.2.2.2.2.2.2.2.2.2.2.1), ((hofv_17 1012 (by omega) (by omega) (by omega) (by omega) (by omega)).trans hMo.2.2.2.2.2.2.2.2.2.2.2.2.1), ((hofv_17 1013 (by omega) (by omega) (by omega) (by omega) (by omega)).trans hMo.2.2.2.2.2.2.2.2.2.2.2.2.2.1), hv2_17, hv3_17, hv4_17⟩ h9 (p8 + 1) _ (by omega) (by omega)) (cwV 3 hts gX6_grow_X6_sets rfl rfl rfl (by decide +kernel) ⟨Nat.le_of_ble_eq_true rfl, Nat.le_of_ble_eq_true rfl⟩) (rm_preV hK hNw hW hv0_17 rfl) rfl rfl hl.1 rfl (lv_room (Nat.le_of_ble_eq_true rfl)) dX6_grow_305 ⟨Nat.zero_le _, Nat.zero_le _⟩) hW hS hA (fun ct_19 H locs hq_19 hW hS hz_19 => ?_)
                                have hgv : (ltb (yM (hy h9)) (dg (yn (hy h9)) (yM (hy h9))) (fit9 (yn (hy h9)) tr ((yn (hy h9)) - 1)) (p8 + 1) ((fit9 (yn (hy h9)) tr ((yn (hy h9)) - 1)) (p8 + 1)) (yn (hy h9))) + (pbk (yM (hy h9)) (fit9 (yn (hy h9)) tr ((yn (hy h9)) - 1)) (p8 + 1) (tgt tr (p8 + 1))) + ((pth tr (p8 + 1) : Nat) : Int) = (grw (yn (hy h9)) (yM (hy h9)) (dg (yn (hy h9)) (yM (hy h9))) tr) (p8 + 1) := Int.add_assoc _ _ _
                                have hqs := hq_19.1
                                rw [ub_s, ub_ub, hgv, tkn_s (by omega)] at hqs
                                have ho_19 : ∀ q, q ≠ 1005 → ct_19 q = ctv_17 q := hq_19.2
                                have hof_19 : ∀ q, q ≠ 1000 → q ≠ 1005 → q ≠ 1014 → q ≠ 1015 → q ≠ 1016 → ct_19 q = ct q := fun q h0_19 h1_19 h2_19 h3_19 h4_19 => (ho_19 q h1_19).trans (hofv_17 q h0_19 h1_19 h2_19 h3_19 h4_19)
                                have hm0_19 : ct_19 1000 = some (.inr (6, [.int (jI 0), .int (jI ((yc : Nat) : Int)), .int (jI ((hc : Nat) : Int)), .ref (ad 1001), .ref (ad 1002), .ref (ad 1003), .ref (ad 1004), .ref (ad 1005), .ref (ad 1006), .ref (ad 1007), .ref (ad 1008), .ref (ad 1009), .ref (ad 1010), .ref (ad 1011), .ref (ad 1012), .ref (ad 1013), .ref (ad 1014), .ref (ad 1015), .ref (ad 1016)]) : va_E) := (ho_19 1000 (by omega)).trans hv0_17
                                have hm1_19 : ct_19 1005 = some (rl ty 160 (fl 8 (ub hg h9 (tkn ((p8 + 1) + 1) (grw (yn (hy h9)) (yM (hy h9)) (dg (yn (hy h9)) (yM (hy h9))) tr) (hg h9))))) := hqs
                                have hm2_19 : ct_19 1014 = some (ri ty 8 (tgf tr (yn (hy h9)) tw)) := (ho_19 1014 (by omega)).trans hv2_17
                                have hm3_19 : ct_19 1015 = some (ri ty 8 (ptf tr (yn (hy h9)) bw)) := (ho_19 1015 (by omega)).trans hv3_17
                                have hm4_19 : ct_19 1016 = some (ri ty 8 de1) := (ho_19 1016 (by omega)).trans hv4_17
                                have hl : lv_has ls 10 [(6, .int (jI (((p8 + 1) : Nat) : Int))), (4, .int (jI (((hy h9) : Nat) : Int))), (0, .ref (ad 1000)), (1, .int (jI ((h9 : Nat) : Int))), (2, .long (jL ((tr : Nat) : Int)))] := lv_sub hl [1, 2, 3, 4, 5] rfl
                                refine lv_iinc (v := jI ((((p8 + 1) : Nat) : Int) + 1)) (lv' := [(6, .int (jI ((((p8 + 1) : Nat) : Int) + 1))), (4, .int (jI (((hy h9) : Nat) : Int))), (0, .ref (ad 1000)), (1, .int (jI ((h9 : Nat) : Int))), (2, .long (jL ((tr : Nat) : Int)))]) hx hb dX6_grow_308 hl (k := 0) rfl (jI_add _ _) (by decide) rfl (fun ls hl => ?_)
                                refine lv_goto (tgt := 161) hx hb dX6_grow_311 (by decide) ?_
                                exact ih_LP (p8 + 1) (by omega) (by omega) ct_19 _ _ hm0_19 trivial hm1_19 trivial hm2_19 trivial hm3_19 trivial hm4_19 trivial hof_19 trivial hW hS ls (lv_sub hl [0, 1, 2, 3, 4] rfl)
                              · skip
                                have hdj := hdf j8 (by omega)
                                have hfj := hfr j8
                                refine lv_aload_n hx hb dX6_grow_249 rfl (lv_at hl 4 rfl) ?_
                                refine rm_get (ci := 6) (v := .ref (ad 1016)) (C := RX6) (T := TX6) (N := 19) hx hb hts (by decide +kernel) hown hK hW hv0_17 rfl 18 (by decide) (hts (.fieldLink RX6 57 "GrainYardModel" "deep" "[I") (by decide +kernel)) (fun _ h9 => h9) rfl dX6_grow_250 ?_
                                refine lv_iload hx hb dX6_grow_253 (lv_at hl 0 rfl) ?_
                                refine rm_iald hx hb hK hW (f := de1) hv4_17 j8 rfl (by omega) (by omega) dX6_grow_255 ?_
                                refine lv_aload_n hx hb dX6_grow_256 rfl (lv_at hl 4 rfl) ?_
                                refine rm_get (ci := 6) (v := .ref (ad 1016)) (C := RX6) (T := TX6) (N := 19) hx hb hts (by decide +kernel) hown hK hW hv0_17 rfl 18 (by decide) (hts (.fieldLink RX6 57 "GrainYardModel" "deep" "[I") (by decide +kernel)) (fun _ h9 => h9) rfl dX6_grow_257 ?_
                                refine lv_iload hx hb dX6_grow_260 (lv_at hl 2 rfl) ?_
                                refine rm_iald hx hb hK hW (f := de1) hv4_17 (p8 + 1) rfl (by omega) (by omega) dX6_grow_262 ?_
                                refine lv_iconst (v := jI 1) hx hb dX6_grow_263 rfl ?_
                                refine rm_isub hx hb dX6_grow_264 ?_
                                refine rm_icmp_ne (tgt := 284) hx hb ⟨by omega, by omega⟩ ⟨by omega, by omega⟩ dX6_grow_265 (by decide) (fun hc_20 => ?_) (fun hc_20 => ?_)
                                · skip
                                  rw [if_neg (by omega)] at hps
                                  have hl : lv_has ls 10 [(9, .int (jI ((j8 : Nat) : Int))), (7, .long (jL ((ltb (yM (hy h9)) (dg (yn (hy h9)) (yM (hy h9))) (fit9 (yn (hy h9)) tr ((yn (hy h9)) - 1)) (p8 + 1) ((fit9 (yn (hy h9)) tr ((yn (hy h9)) - 1)) (p8 + 1)) (yn (hy h9))) + (pbk (yM (hy h9)) (fit9 (yn (hy h9)) tr ((yn (hy h9)) - 1)) (p8 + 1) (j8 + 1))))), (6, .int (jI (((p8 + 1) : Nat) : Int))), (4, .int (jI (((hy h9) : Nat) : Int))), (0, .ref (ad 1000)), (1, .int (jI ((h9 : Nat) : Int))), (2, .long (jL ((tr : Nat) : Int)))] := by rw [show (pbk (yM (hy h9)) (fit9 (yn (hy h9)) tr ((yn (hy h9)) - 1)) (p8 + 1) (j8 + 1)) = (pbk (yM (hy h9)) (fit9 (yn (hy h9)) tr ((yn (hy h9)) - 1)) (p8 + 1) j8) by omega]; exact hl
                                  refine lv_iinc (v := jI (((j8 : Nat) : Int) + 1)) (lv' := [(9, .int (jI (((j8 : Nat) : Int) + 1))), (7, .long (jL ((ltb (yM (hy h9)) (dg (yn (hy h9)) (yM (hy h9))) (fit9 (yn (hy h9)) tr ((yn (hy h9)) - 1)) (p8 + 1) ((fit9 (yn (hy h9)) tr ((yn (hy h9)) - 1)) (p8 + 1)) (yn (hy h9))) + (pbk (yM (hy h9)) (fit9 (yn (hy h9)) tr ((yn (hy h9)) - 1)) (p8 + 1) (j8 + 1))))), (6, .int (jI (((p8 + 1) : Nat) : Int))), (4, .int (jI (((hy h9) : Nat) : Int))), (0, .ref (ad 1000)), (1, .int (jI ((h9 : Nat) : Int))), (2, .long (jL ((tr : Nat) : Int)))]) hx hb dX6_grow_284 hl (k := 0) rfl (jI_add _ _) (by decide) rfl (fun ls hl => ?_)
                                  refine lv_goto (tgt := 237) hx hb dX6_grow_287 (by decide) ?_
                                  exact ih_LJ (j8 + 1) (by omega) (by omega) ctv_17 _ _ hv0_17 trivial hv1_17 trivial hv2_17 trivial hv3_17 trivial hv4_17 trivial hofv_17 trivial hW hS ls (lv_sub hl [0, 1, 2, 3, 4, 5, 6] rfl)
                                · skip
                                  have hMk := hM8 (p8 + 1) j8
                                  refine lv_lload hx hb dX6_grow_268 (lv_at hl 1 rfl) ?_
                                  refine lv_aload_n hx hb dX6_grow_270 rfl (lv_at hl 4 rfl) ?_
                                  refine lv_iload hx hb dX6_grow_271 (lv_at hl 3 rfl) ?_
                                  refine lv_iload hx hb dX6_grow_273 (lv_at hl 2 rfl) ?_
                                  refine lv_iload hx hb dX6_grow_275 (lv_at hl 0 rfl) ?_
                                  refine rm_calli (va_runV (As := [.int (jI (((hy h9) : Nat) : Int)), .int (jI (((p8 + 1) : Nat) : Int)), .int (jI ((j8 : Nat) : Int))]) (rest := [.long (jL ((ltb (yM (hy h9)) (dg (yn (hy h9)) (yM (hy h9))) (fit9 (yn (hy h9)) tr ((yn (hy h9)) - 1)) (p8 + 1) ((fit9 (yn (hy h9)) tr ((yn (hy h9)) - 1)) (p8 + 1)) (yn (hy h9))) + (pbk (yM (hy h9)) (fit9 (yn (hy h9)) tr ((yn (hy h9)) - 1)) (p8 + 1) j8)))]) ⟨hx, hb, hml, hown, hts⟩ (c_X6_between l D ty ad ctv_17 H.size 0 yc hc yn yM yu hy (ub hg h9 (tkn (p8 + 1) (grw (yn (hy h9)) (yM (hy h9)) (dg (yn (hy h9)) (yM (hy h9))) tr) (hg h9))) hf mA pt ro ke kt mu sl (tgf tr (yn (hy h9)) tw) (ptf tr (yn (hy h9)) bw) de1 ⟨hv0_17, ((hofv_17 1001 (by omega) (by omega) (by omega) (by omega) (by omega)).trans hMo.2.1), ((hofv_17 1002 (by omega) (by omega) (by omega) (by omega) (by omega)).trans hMo.2.2.1), ((hofv_17 1003 (by omega) (by omega) (by omega) (by omega) (by omega)).trans hMo.2.2.2.1), ((hofv_17 1004 (by omega) (by omega) (by omega) (by omega) (by omega)).trans hMo.2.2.2.2.1), hv1_17, ((hofv_17 1006 (by omega) (by omega) (by omega) (by omega) (by omega)).trans hMo.2.2.2.2.2.2.1), ((hofv_17 1007 (by omega) (by omega) (by omega) (by omega) (by omega)).trans hMo.2.2.2.2.2.2.2.1), ((hofv_17 1008 (by omega) (by omega) (by omega) (by omega) (by omega)).trans hMo.2.2.2.2.2.2.2.2.1), ((hofv_17 1009 (by omega) (by omega) (by omega) (by omega) (by omega)).trans hMo.2.2.2.2.2.2.2.2.2.1), ((hofv_17 1010 (by omega) (by omega) (by omega) (by omega) (by omega)).trans hMo.2.2.2.2.2.2.2.2.2.2.1), ((hofv_17 1011 (by omega) (by omega) (by omega) (by omega) (by omega)).trans hMo.2.2.2.2.2.2.2.2.2.2.2.1), ((hofv_17 1012 (by omega) (by omega) (by omega) (by omega) (by omega)).trans hMo.2.2.2.2.2.2.2.2.2.2.2.2.1), ((hofv_17 1013 (by omega) (by omega) (by omega) (by omega) (by omega)).trans hMo.2.2.2.2.2.2.2.2.2.2.2.2.2.1), hv2_17, hv3_17, hv4_17⟩ (hy h9) (p8 + 1) j8 (by omega) (by omega) (by omega)) (cwV 3 hts gX6_grow_X6_between rfl rfl rfl (by decide +kernel) ⟨Nat.le_of_ble_eq_true rfl, Nat.le_of_ble_eq_true rfl⟩) (rm_preV hK hNw hW hv0_17 rfl) rfl rfl hl.1 rfl (lv_room (Nat.le_of_ble_eq_true rfl)) dX6_grow_277 ⟨Nat.zero_le _, Nat.zero_le _⟩) hW hS hA (fun z_21 ct_21 H locs hq_21 hW hS => ?_)
                                  obtain ⟨hz, hcc_21⟩ := hq_21
                                  have hcc_21 := hcc_21.symm
                                  subst hcc_21
                                  subst hz
                                  refine rm_i2l hx hb dX6_grow_280 ⟨by omega, by omega⟩ ?_
                                  refine rm_ladd hx hb dX6_grow_281 ?_
                                  refine lv_lstore (lv' := [(7, .long (jL (((ltb (yM (hy h9)) (dg (yn (hy h9)) (yM (hy h9))) (fit9 (yn (hy h9)) tr ((yn (hy h9)) - 1)) (p8 + 1) ((fit9 (yn (hy h9)) tr ((yn (hy h9)) - 1)) (p8 + 1)) (yn (hy h9))) + (pbk (yM (hy h9)) (fit9 (yn (hy h9)) tr ((yn (hy h9)) - 1)) (p8 + 1) j8)) + ((yM (hy h9)) (p8 + 1) j8)))), (9, .int (jI ((j8 : Nat) : Int))), (6, .int (jI (((p8 + 1) : Nat) : Int))), (4, .int (jI (((hy h9) : Nat) : Int))), (0, .ref (ad 1000)), (1, .int (jI ((h9 : Nat) : Int))), (2, .long (jL ((tr : Nat) : Int)))]) hx hb dX6_grow_282 hl (by decide) rfl (fun ls hl => ?_)
                                  rw [if_pos (by omega)] at hps
                                  have hl : lv_has ls 10 [(7, .long (jL ((ltb (yM (hy h9)) (dg (yn (hy h9)) (yM (hy h9))) (fit9 (yn (hy h9)) tr ((yn (hy h9)) - 1)) (p8 + 1) ((fit9 (yn (hy h9)) tr ((yn (hy h9)) - 1)) (p8 + 1)) (yn (hy h9))) + (pbk (yM (hy h9)) (fit9 (yn (hy h9)) tr ((yn (hy h9)) - 1)) (p8 + 1) (j8 + 1))))), (9, .int (jI ((j8 : Nat) : Int))), (6, .int (jI (((p8 + 1) : Nat) : Int))), (4, .int (jI (((hy h9) : Nat) : Int))), (0, .ref (ad 1000)), (1, .int (jI ((h9 : Nat) : Int))), (2, .long (jL ((tr : Nat) : Int)))] := by rw [hps, ← Int.add_assoc]; exact hl
                                  refine lv_iinc (v := jI (((j8 : Nat) : Int) + 1)) (lv' := [(9, .int (jI (((j8 : Nat) : Int) + 1))), (7, .long (jL ((ltb (yM (hy h9)) (dg (yn (hy h9)) (yM (hy h9))) (fit9 (yn (hy h9)) tr ((yn (hy h9)) - 1)) (p8 + 1) ((fit9 (yn (hy h9)) tr ((yn (hy h9)) - 1)) (p8 + 1)) (yn (hy h9))) + (pbk (yM (hy h9)) (fit9 (yn (hy h9)) tr ((yn (hy h9)) - 1)) (p8 + 1) (j8 + 1))))), (6, .int (jI (((p8 + 1) : Nat) : Int))), (4, .int (jI (((hy h9) : Nat) : Int))), (0, .ref (ad 1000)), (1, .int (jI ((h9 : Nat) : Int))), (2, .long (jL ((tr : Nat) : Int)))]) hx hb dX6_grow_284 hl (k := 1) rfl (jI_add _ _) (by decide) rfl (fun ls hl => ?_)
                                  refine lv_goto (tgt := 237) hx hb dX6_grow_287 (by decide) ?_
                                  exact ih_LJ (j8 + 1) (by omega) (by omega) ctv_17 _ _ hv0_17 trivial hv1_17 trivial hv2_17 trivial hv3_17 trivial hv4_17 trivial hofv_17 trivial hW hS ls (lv_sub hl [0, 1, 2, 3, 4, 5, 6] rfl)
                          exact LJ ((yn (hy h9)) + 1) (0) (by omega) (by omega) ctv_14 _ _ hv0_14 trivial hv1_14 trivial hv2_14 trivial hv3_14 trivial hv4_14 trivial hofv_14 trivial hW hS ls (lv_sub hl [0, 1, 2, 3, 4, 5, 6] rfl)
                        · skip
                          have hdk := hdf k8 (by omega)
                          have hfk := hfr k8
                          refine lv_aload_n hx hb dX6_grow_195 rfl (lv_at hl 4 rfl) ?_
                          refine rm_get (ci := 6) (v := .ref (ad 1016)) (C := RX6) (T := TX6) (N := 19) hx hb hts (by decide +kernel) hown hK hW hv0_14 rfl 18 (by decide) (hts (.fieldLink RX6 57 "GrainYardModel" "deep" "[I") (by decide +kernel)) (fun _ h9 => h9) rfl dX6_grow_196 ?_
                          refine lv_iload hx hb dX6_grow_199 (lv_at hl 0 rfl) ?_
                          refine rm_iald hx hb hK hW (f := de1) hv4_14 k8 rfl (by omega) (by omega) dX6_grow_201 ?_
                          refine lv_aload_n hx hb dX6_grow_202 rfl (lv_at hl 4 rfl) ?_
                          refine rm_get (ci := 6) (v := .ref (ad 1016)) (C := RX6) (T := TX6) (N := 19) hx hb hts (by decide +kernel) hown hK hW hv0_14 rfl 18 (by decide) (hts (.fieldLink RX6 57 "GrainYardModel" "deep" "[I") (by decide +kernel)) (fun _ h9 => h9) rfl dX6_grow_203 ?_
                          refine lv_iload hx hb dX6_grow_206 (lv_at hl 2 rfl) ?_
                          refine rm_iald hx hb hK hW (f := de1) hv4_14 (p8 + 1) rfl (by omega) (by omega) dX6_grow_208 ?_
                          refine rm_icmp_ge (tgt := 228) hx hb ⟨by omega, by omega⟩ ⟨by omega, by omega⟩ dX6_grow_209 (by decide) (fun hc_22 => ?_) (fun hc_22 => ?_)
                          · skip
                            rw [if_neg (by omega)] at hls
                            have hl : lv_has ls 10 [(9, .int (jI ((k8 : Nat) : Int))), (7, .long (jL (ltb (yM (hy h9)) (dg (yn (hy h9)) (yM (hy h9))) (fit9 (yn (hy h9)) tr ((yn (hy h9)) - 1)) (p8 + 1) ((fit9 (yn (hy h9)) tr ((yn (hy h9)) - 1)) (p8 + 1)) (k8 + 1)))), (6, .int (jI (((p8 + 1) : Nat) : Int))), (4, .int (jI (((hy h9) : Nat) : Int))), (0, .ref (ad 1000)), (1, .int (jI ((h9 : Nat) : Int))), (2, .long (jL ((tr : Nat) : Int)))] := by rw [show (ltb (yM (hy h9)) (dg (yn (hy h9)) (yM (hy h9))) (fit9 (yn (hy h9)) tr ((yn (hy h9)) - 1)) (p8 + 1) ((fit9 (yn (hy h9)) tr ((yn (hy h9)) - 1)) (p8 + 1)) (k8 + 1)) = (ltb (yM (hy h9)) (dg (yn (hy h9)) (yM (hy h9))) (fit9 (yn (hy h9)) tr ((yn (hy h9)) - 1)) (p8 + 1) ((fit9 (yn (hy h9)) tr ((yn (hy h9)) - 1)) (p8 + 1)) k8) by omega]; exact hl
                            refine lv_iinc (v := jI (((k8 : Nat) : Int) + 1)) (lv' := [(9, .int (jI (((k8 : Nat) : Int) + 1))), (7, .long (jL (ltb (yM (hy h9)) (dg (yn (hy h9)) (yM (hy h9))) (fit9 (yn (hy h9)) tr ((yn (hy h9)) - 1)) (p8 + 1) ((fit9 (yn (hy h9)) tr ((yn (hy h9)) - 1)) (p8 + 1)) (k8 + 1)))), (6, .int (jI (((p8 + 1) : Nat) : Int))), (4, .int (jI (((hy h9) : Nat) : Int))), (0, .ref (ad 1000)), (1, .int (jI ((h9 : Nat) : Int))), (2, .long (jL ((tr : Nat) : Int)))]) hx hb dX6_grow_228 hl (k := 0) rfl (jI_add _ _) (by decide) rfl (fun ls hl => ?_)
                            refine lv_goto (tgt := 185) hx hb dX6_grow_231 (by decide) ?_
                            exact ih_LK (k8 + 1) (by omega) (by omega) ctv_14 _ _ hv0_14 trivial hv1_14 trivial hv2_14 trivial hv3_14 trivial hv4_14 trivial hofv_14 trivial hW hS ls (lv_sub hl [0, 1, 2, 3, 4, 5, 6] rfl)
                          · skip
                            have hMk := hM8 (p8 + 1) k8
                            refine lv_lload hx hb dX6_grow_212 (lv_at hl 1 rfl) ?_
                            refine lv_aload_n hx hb dX6_grow_214 rfl (lv_at hl 4 rfl) ?_
                            refine lv_iload hx hb dX6_grow_215 (lv_at hl 3 rfl) ?_
                            refine lv_iload hx hb dX6_grow_217 (lv_at hl 2 rfl) ?_
                            refine lv_iload hx hb dX6_grow_219 (lv_at hl 0 rfl) ?_
                            refine rm_calli (va_runV (As := [.int (jI (((hy h9) : Nat) : Int)), .int (jI (((p8 + 1) : Nat) : Int)), .int (jI ((k8 : Nat) : Int))]) (rest := [.long (jL (ltb (yM (hy h9)) (dg (yn (hy h9)) (yM (hy h9))) (fit9 (yn (hy h9)) tr ((yn (hy h9)) - 1)) (p8 + 1) ((fit9 (yn (hy h9)) tr ((yn (hy h9)) - 1)) (p8 + 1)) k8))]) ⟨hx, hb, hml, hown, hts⟩ (c_X6_between l D ty ad ctv_14 H.size 0 yc hc yn yM yu hy (ub hg h9 (tkn (p8 + 1) (grw (yn (hy h9)) (yM (hy h9)) (dg (yn (hy h9)) (yM (hy h9))) tr) (hg h9))) hf mA pt ro ke kt mu sl (tgf tr (yn (hy h9)) tw) (ptf tr (yn (hy h9)) bw) de1 ⟨hv0_14, ((hofv_14 1001 (by omega) (by omega) (by omega) (by omega) (by omega)).trans hMo.2.1), ((hofv_14 1002 (by omega) (by omega) (by omega) (by omega) (by omega)).trans hMo.2.2.1), ((hofv_14 1003 (by omega) (by omega) (by omega) (by omega) (by omega)).trans hMo.2.2.2.1), ((hofv_14 1004 (by omega) (by omega) (by omega) (by omega) (by omega)).trans hMo.2.2.2.2.1), hv1_14, ((hofv_14 1006 (by omega) (by omega) (by omega) (by omega) (by omega)).trans hMo.2.2.2.2.2.2.1), ((hofv_14 1007 (by omega) (by omega) (by omega) (by omega) (by omega)).trans hMo.2.2.2.2.2.2.2.1), ((hofv_14 1008 (by omega) (by omega) (by omega) (by omega) (by omega)).trans hMo.2.2.2.2.2.2.2.2.1), ((hofv_14 1009 (by omega) (by omega) (by omega) (by omega) (by omega)).trans hMo.2.2.2.2.2.2.2.2.2.1), ((hofv_14 1010 (by omega) (by omega) (by omega) (by omega) (by omega)).trans hMo.2.2.2.2.2.2.2.2.2.2.1), ((hofv_14 1011 (by omega) (by omega) (by omega) (by omega) (by omega)).trans hMo.2.2.2.2.2.2.2.2.2.2.2.1), ((hofv_14 1012 (by omega) (by omega) (by omega) (by omega) (by omega)).trans hMo.2.2.2.2.2.2.2.2.2.2.2.2.1), ((hofv_14 1013 (by omega) (by omega) (by omega) (by omega) (by omega)).trans hMo.2.2.2.2.2.2.2.2.2.2.2.2.2.1), hv2_14, hv3_14, hv4_14⟩ (hy h9) (p8 + 1) k8 (by omega) (by omega) (by omega)) (cwV 3 hts gX6_grow_X6_between rfl rfl rfl (by decide +kernel) ⟨Nat.le_of_ble_eq_true rfl, Nat.le_of_ble_eq_true rfl⟩) (rm_preV hK hNw hW hv0_14 rfl) rfl rfl hl.1 rfl (lv_room (Nat.le_of_ble_eq_true rfl)) dX6_grow_221 ⟨Nat.zero_le _, Nat.zero_le _⟩) hW hS hA (fun z_23 ct_23 H locs hq_23 hW hS => ?_)
                            obtain ⟨hz, hcc_23⟩ := hq_23
                            have hcc_23 := hcc_23.symm
                            subst hcc_23
                            subst hz
                            refine rm_i2l hx hb dX6_grow_224 ⟨by omega, by omega⟩ ?_
                            refine rm_lsub hx hb dX6_grow_225 ?_
                            refine lv_lstore (lv' := [(7, .long (jL ((ltb (yM (hy h9)) (dg (yn (hy h9)) (yM (hy h9))) (fit9 (yn (hy h9)) tr ((yn (hy h9)) - 1)) (p8 + 1) ((fit9 (yn (hy h9)) tr ((yn (hy h9)) - 1)) (p8 + 1)) k8) - ((yM (hy h9)) (p8 + 1) k8)))), (9, .int (jI ((k8 : Nat) : Int))), (6, .int (jI (((p8 + 1) : Nat) : Int))), (4, .int (jI (((hy h9) : Nat) : Int))), (0, .ref (ad 1000)), (1, .int (jI ((h9 : Nat) : Int))), (2, .long (jL ((tr : Nat) : Int)))]) hx hb dX6_grow_226 hl (by decide) rfl (fun ls hl => ?_)
                            rw [if_pos ⟨hfa k8 (by omega), by omega⟩] at hls
                            have hl : lv_has ls 10 [(7, .long (jL (ltb (yM (hy h9)) (dg (yn (hy h9)) (yM (hy h9))) (fit9 (yn (hy h9)) tr ((yn (hy h9)) - 1)) (p8 + 1) ((fit9 (yn (hy h9)) tr ((yn (hy h9)) - 1)) (p8 + 1)) (k8 + 1)))), (9, .int (jI ((k8 : Nat) : Int))), (6, .int (jI (((p8 + 1) : Nat) : Int))), (4, .int (jI (((hy h9) : Nat) : Int))), (0, .ref (ad 1000)), (1, .int (jI ((h9 : Nat) : Int))), (2, .long (jL ((tr : Nat) : Int)))] := by rw [hls]; exact hl
                            refine lv_iinc (v := jI (((k8 : Nat) : Int) + 1)) (lv' := [(9, .int (jI (((k8 : Nat) : Int) + 1))), (7, .long (jL (ltb (yM (hy h9)) (dg (yn (hy h9)) (yM (hy h9))) (fit9 (yn (hy h9)) tr ((yn (hy h9)) - 1)) (p8 + 1) ((fit9 (yn (hy h9)) tr ((yn (hy h9)) - 1)) (p8 + 1)) (k8 + 1)))), (6, .int (jI (((p8 + 1) : Nat) : Int))), (4, .int (jI (((hy h9) : Nat) : Int))), (0, .ref (ad 1000)), (1, .int (jI ((h9 : Nat) : Int))), (2, .long (jL ((tr : Nat) : Int)))]) hx hb dX6_grow_228 hl (k := 1) rfl (jI_add _ _) (by decide) rfl (fun ls hl => ?_)
                            refine lv_goto (tgt := 185) hx hb dX6_grow_231 (by decide) ?_
                            exact ih_LK (k8 + 1) (by omega) (by omega) ctv_14 _ _ hv0_14 trivial hv1_14 trivial hv2_14 trivial hv3_14 trivial hv4_14 trivial hofv_14 trivial hW hS ls (lv_sub hl [0, 1, 2, 3, 4, 5, 6] rfl)
                    exact LK ((yn (hy h9)) + 1) (0) (by omega) (by omega) ctv_9 _ _ hv0_9 trivial hv1_9 trivial hv2_9 trivial hv3_9 trivial hv4_9 trivial hofv_9 trivial hW hS ls (lv_sub hl [0, 1, 2, 3, 4, 5, 6] rfl)
              exact LP ((yn (hy h9)) + 1) (0) (by omega) (by omega) ct_8 _ _ hm0_8 trivial h05 trivial hm2_8 trivial hm3_8 trivial hm4_8 trivial hof_8 trivial hW hS ls (lv_sub hl [0, 1, 2, 3, 4] rfl)
            · skip
              subst hz
              refine rm_if_ne (tgt := 158) hx hb ⟨by omega, by omega⟩ dX6_grow_153 (by decide) (fun hq => absurd hq (by omega)) (fun _ => ?_)
              refine lv_iconst (v := jI 0) hx hb dX6_grow_156 rfl ?_
              rw [hQQ]
              exact W.zret hx hb hr (by decide) (fun t ht hw => ⟨⟨_, (0, ct_8), rfl, ⟨rfl, ⟨(fun q hq9 => hof_8 q (by omega) (by omega) (by omega) (by omega) (by omega)), Or.inr ⟨h9, rfl, hh9, Or.inl ⟨rfl, Or.inr ⟨hgd, by obtain ⟨q, h1, h2, h3⟩ := hdn; exact ⟨q, h2, (hfd q h2).trans h3⟩⟩, ⟨mA, pt, ro, ke, kt, mu, sl, (tgf tr (yn (hy h9)) tw), (ptf tr (yn (hy h9)) bw), de1, ⟨hm0_8, ((hof_8 1001 (by omega) (by omega) (by omega) (by omega) (by omega)).trans hMo.2.1), ((hof_8 1002 (by omega) (by omega) (by omega) (by omega) (by omega)).trans hMo.2.2.1), ((hof_8 1003 (by omega) (by omega) (by omega) (by omega) (by omega)).trans hMo.2.2.2.1), ((hof_8 1004 (by omega) (by omega) (by omega) (by omega) (by omega)).trans hMo.2.2.2.2.1), hm1_8, ((hof_8 1006 (by omega) (by omega) (by omega) (by omega) (by omega)).trans hMo.2.2.2.2.2.2.1), ((hof_8 1007 (by omega) (by omega) (by omega) (by omega) (by omega)).trans hMo.2.2.2.2.2.2.2.1), ((hof_8 1008 (by omega) (by omega) (by omega) (by omega) (by omega)).trans hMo.2.2.2.2.2.2.2.2.1), ((hof_8 1009 (by omega) (by omega) (by omega) (by omega) (by omega)).trans hMo.2.2.2.2.2.2.2.2.2.1), ((hof_8 1010 (by omega) (by omega) (by omega) (by omega) (by omega)).trans hMo.2.2.2.2.2.2.2.2.2.2.1), ((hof_8 1011 (by omega) (by omega) (by omega) (by omega) (by omega)).trans hMo.2.2.2.2.2.2.2.2.2.2.2.1), ((hof_8 1012 (by omega) (by omega) (by omega) (by omega) (by omega)).trans hMo.2.2.2.2.2.2.2.2.2.2.2.2.1), ((hof_8 1013 (by omega) (by omega) (by omega) (by omega) (by omega)).trans hMo.2.2.2.2.2.2.2.2.2.2.2.2.2.1), hm2_8, hm3_8, hm4_8⟩⟩⟩⟩⟩⟩, by show rm_W D ad _ _ t.heap; rw [ht]; exact hW⟩, hS.F ht⟩) hS.2.2 dX6_grow_157
        · skip
          have hMt := hM8 (i8 + 1) (tgt tr (i8 + 1))
          have hM1 := hM0 (i8 + 1) (tgt tr (i8 + 1))
          have hM2 := hyk9.2.2.2.2.1 (i8 + 1)
          refine lv_lload_n hx hb dX6_grow_34 rfl (lv_at hl 5 rfl) ?_
          refine lv_iconst (v := jI 5) hx hb dX6_grow_35 rfl ?_
          refine lv_iload hx hb dX6_grow_36 (lv_at hl 0 rfl) ?_
          refine rm_imul hx hb dX6_grow_38 ?_
          refine lv_iconst (v := jI 5) hx hb dX6_grow_39 rfl ?_
          refine rm_isub hx hb dX6_grow_40 ?_
          rw [show (5 : Int) * (((i8 + 1) : Nat) : Int) - 5 = ((5 * ((i8 + 1) - 1) : Nat) : Int) by omega]
          refine rm_lshr (z := (((jL ((tr : Nat) : Int)) >>> ((jI (((5 * ((i8 + 1) - 1)) : Nat) : Int)).toInt64 &&& 63)).toInt)) hx hb dX6_grow_41 (jL_as _).symm ?_
          refine rm_ldc2 (z := 31) hx hb hown (hts (.constantLong RX6 178 (31)) (by decide +kernel)) (by decide) dX6_grow_42 ?_
          refine rm_land (z := (((tr / 2 ^ (5 * ((i8 + 1) - 1)) % 32) : Nat) : Int)) hx hb dX6_grow_45 (bt_sh31 htr (by omega)) ?_
          refine rm_l2i hx hb dX6_grow_46 ?_
          obtain ⟨v8, hv8⟩ : ∃ v8, v8 = (tr / 2 ^ (5 * ((i8 + 1) - 1)) % 32) := ⟨_, rfl⟩
          have hv32 : v8 < 32 := by rw [hv8]; exact Nat.mod_lt _ (by decide)
          rw [← hv8]
          have hvt : v8 % 2 ^ 3 = tgt tr (i8 + 1) := by rw [hv8]; exact v_tgt tr (i8 + 1)
          have hvp : v8 / 2 ^ 3 = pth tr (i8 + 1) := by rw [hv8]; exact v_pth tr (i8 + 1)
          refine lv_istore (lv' := [(7, .int (jI ((v8 : Nat) : Int))), (6, .int (jI (((i8 + 1) : Nat) : Int))), (5, .int (jI z8)), (4, .int (jI (((hy h9) : Nat) : Int))), (0, .ref (ad 1000)), (1, .int (jI ((h9 : Nat) : Int))), (2, .long (jL ((tr : Nat) : Int)))]) hx hb dX6_grow_47 hl (by decide) rfl (fun ls hl => ?_)
          refine lv_aload_n hx hb dX6_grow_49 rfl (lv_at hl 4 rfl) ?_
          refine rm_get (ci := 6) (v := .ref (ad 1014)) (C := RX6) (T := TX6) (N := 19) hx hb hts (by decide +kernel) hown hK hW hv0_2 rfl 16 (by decide) (hts (.fieldLink RX6 51 "GrainYardModel" "to" "[I") (by decide +kernel)) (fun _ h9 => h9) rfl dX6_grow_50 ?_
          refine lv_iload hx hb dX6_grow_53 (lv_at hl 1 rfl) ?_
          refine lv_iload hx hb dX6_grow_55 (lv_at hl 0 rfl) ?_
          refine lv_bipush (v := jI 7) hx hb dX6_grow_57 (by decide) ?_
          refine rm_iand (z := (((v8 % 2 ^ 3) : Nat) : Int)) hx hb dX6_grow_59 (bt_mask (by omega) 3 (by decide)) ?_
          rw [hvt]
          refine rm_iast hx hb hK hW hS (f := (tgf tr (i8 + 1) tw)) hv2_2 (i8 + 1) rfl (by omega) (by omega) dX6_grow_60 (fun H locs ct_24 hs_24 ho_24 hW hS hz_24 => ?_)
          have hof_24 : ∀ q, q ≠ 1000 → q ≠ 1005 → q ≠ 1014 → q ≠ 1015 → q ≠ 1016 → ct_24 q = ct q := fun q h0_24 h1_24 h2_24 h3_24 h4_24 => (ho_24 q h2_24).trans (hofv_2 q h0_24 h1_24 h2_24 h3_24 h4_24)
          have hm0_24 : ct_24 1000 = some (.inr (6, [.int (jI 0), .int (jI ((yc : Nat) : Int)), .int (jI ((hc : Nat) : Int)), .ref (ad 1001), .ref (ad 1002), .ref (ad 1003), .ref (ad 1004), .ref (ad 1005), .ref (ad 1006), .ref (ad 1007), .ref (ad 1008), .ref (ad 1009), .ref (ad 1010), .ref (ad 1011), .ref (ad 1012), .ref (ad 1013), .ref (ad 1014), .ref (ad 1015), .ref (ad 1016)]) : va_E) := (ho_24 1000 (by omega)).trans hv0_2
          have hm1_24 : ct_24 1005 = some (rl ty 160 (fl 8 hg)) := (ho_24 1005 (by omega)).trans hv1_2
          have hm3_24 : ct_24 1015 = some (ri ty 8 (ptf tr (i8 + 1) bw)) := (ho_24 1015 (by omega)).trans hv3_2
          have hm4_24 : ct_24 1016 = some (ri ty 8 de) := (ho_24 1016 (by omega)).trans hv4_2
          have hk_25 : ct_24 1014 = some (ri ty 8 (tgf tr ((i8 + 1) + 1) tw)) := hs_24.trans (congrArg (fun f => some (ri ty 8 f)) (tgf_s (by omega)))
          refine lv_aload_n hx hb dX6_grow_61 rfl (lv_at hl 4 rfl) ?_
          refine rm_get (ci := 6) (v := .ref (ad 1015)) (C := RX6) (T := TX6) (N := 19) hx hb hts (by decide +kernel) hown hK hW hm0_24 rfl 17 (by decide) (hts (.fieldLink RX6 54 "GrainYardModel" "by" "[I") (by decide +kernel)) (fun _ h9 => h9) rfl dX6_grow_62 ?_
          refine lv_iload hx hb dX6_grow_65 (lv_at hl 1 rfl) ?_
          refine lv_iload hx hb dX6_grow_67 (lv_at hl 0 rfl) ?_
          refine lv_iconst (v := jI 3) hx hb dX6_grow_69 rfl ?_
          refine rm_ishr (z := (((v8 / 2 ^ 3) : Nat) : Int)) hx hb dX6_grow_70 (bt_shr (by omega) (by first | omega | decide)) ?_
          rw [hvp]
          refine rm_iast hx hb hK hW hS (f := (ptf tr (i8 + 1) bw)) hm3_24 (i8 + 1) rfl (by omega) (by omega) dX6_grow_71 (fun H locs ct_26 hs_26 ho_26 hW hS hz_26 => ?_)
          have hof_26 : ∀ q, q ≠ 1000 → q ≠ 1005 → q ≠ 1014 → q ≠ 1015 → q ≠ 1016 → ct_26 q = ct q := fun q h0_26 h1_26 h2_26 h3_26 h4_26 => (ho_26 q h3_26).trans (hof_24 q h0_26 h1_26 h2_26 h3_26 h4_26)
          have hm0_26 : ct_26 1000 = some (.inr (6, [.int (jI 0), .int (jI ((yc : Nat) : Int)), .int (jI ((hc : Nat) : Int)), .ref (ad 1001), .ref (ad 1002), .ref (ad 1003), .ref (ad 1004), .ref (ad 1005), .ref (ad 1006), .ref (ad 1007), .ref (ad 1008), .ref (ad 1009), .ref (ad 1010), .ref (ad 1011), .ref (ad 1012), .ref (ad 1013), .ref (ad 1014), .ref (ad 1015), .ref (ad 1016)]) : va_E) := (ho_26 1000 (by omega)).trans hm0_24
          have hm1_26 : ct_26 1005 = some (rl ty 160 (fl 8 hg)) := (ho_26 1005 (by omega)).trans hm1_24
          have hm2_26 : ct_26 1014 = some (ri ty 8 (tgf tr ((i8 + 1) + 1) tw)) := (ho_26 1014 (by omega)).trans hk_25
          have hm4_26 : ct_26 1016 = some (ri ty 8 de) := (ho_26 1016 (by omega)).trans hm4_24
          have hk_27 : ct_26 1015 = some (ri ty 8 (ptf tr ((i8 + 1) + 1) bw)) := hs_26.trans (congrArg (fun f => some (ri ty 8 f)) (ptf_s (by omega)))
          have hl : lv_has ls 10 [(6, .int (jI (((i8 + 1) : Nat) : Int))), (5, .int (jI z8)), (4, .int (jI (((hy h9) : Nat) : Int))), (0, .ref (ad 1000)), (1, .int (jI ((h9 : Nat) : Int))), (2, .long (jL ((tr : Nat) : Int)))] := lv_sub hl [1, 2, 3, 4, 5, 6] rfl
          have htv : tgf tr (i8 + 1 + 1) tw (i8 + 1) = ((tgt tr (i8 + 1) : Nat) : Int) := tgf_in (by omega) (by omega)
          have hpv : ptf tr (i8 + 1 + 1) bw (i8 + 1) = ((pth tr (i8 + 1) : Nat) : Int) := ptf_in (by omega) (by omega)
          refine lv_iload hx hb dX6_grow_72 (lv_at hl 1 rfl) ?_
          refine rm_if_eq (tgt := 133) hx hb ⟨by omega, by omega⟩ dX6_grow_74 (by decide) (fun hc_28 => ?_) (fun hc_28 => ?_)
          · skip
            refine lv_iconst (v := jI 0) hx hb dX6_grow_133 rfl ?_
            refine lv_istore (lv' := [(5, .int (jI 0)), (6, .int (jI (((i8 + 1) : Nat) : Int))), (4, .int (jI (((hy h9) : Nat) : Int))), (0, .ref (ad 1000)), (1, .int (jI ((h9 : Nat) : Int))), (2, .long (jL ((tr : Nat) : Int)))]) hx hb dX6_grow_134 hl (by decide) rfl (fun ls hl => ?_)
            refine lv_iinc (v := jI ((((i8 + 1) : Nat) : Int) + 1)) (lv' := [(6, .int (jI ((((i8 + 1) : Nat) : Int) + 1))), (5, .int (jI 0)), (4, .int (jI (((hy h9) : Nat) : Int))), (0, .ref (ad 1000)), (1, .int (jI ((h9 : Nat) : Int))), (2, .long (jL ((tr : Nat) : Int)))]) hx hb dX6_grow_136 hl (k := 1) rfl (jI_add _ _) (by decide) rfl (fun ls hl => ?_)
            refine lv_goto (tgt := 24) hx hb dX6_grow_139 (by decide) ?_
            exact ih_L1 (i8 + 1) (0) (by omega) (by rcases hz8 with h | h; exact absurd h.1 (by omega); exact Or.inr ⟨rfl, h.2⟩) (by omega) ct_26 _ _ hm0_26 trivial hm1_26 trivial hm2_26 trivial hk_27 trivial hm4_26 trivial hof_26 trivial hW hS ls (lv_sub hl [0, 1, 2, 3, 4, 5] rfl)
          · skip
            have hz1 : z8 = 1 := by omega
            refine lv_aload_n hx hb dX6_grow_77 rfl (lv_at hl 3 rfl) ?_
            refine rm_get (ci := 6) (v := .ref (ad 1014)) (C := RX6) (T := TX6) (N := 19) hx hb hts (by decide +kernel) hown hK hW hm0_26 rfl 16 (by decide) (hts (.fieldLink RX6 51 "GrainYardModel" "to" "[I") (by decide +kernel)) (fun _ h9 => h9) rfl dX6_grow_78 ?_
            refine lv_iload hx hb dX6_grow_81 (lv_at hl 0 rfl) ?_
            refine rm_iald hx hb hK hW (f := (tgf tr ((i8 + 1) + 1) tw)) hm2_26 (i8 + 1) rfl (by omega) (by omega) dX6_grow_83 ?_
            rw [htv]
            refine lv_aload_n hx hb dX6_grow_84 rfl (lv_at hl 3 rfl) ?_
            refine lv_iload_n hx hb dX6_grow_85 rfl (lv_at hl 4 rfl) ?_
            refine rm_calli (va_runV (As := [.int (jI ((h9 : Nat) : Int))]) (rest := [.int (jI (((tgt tr (i8 + 1)) : Nat) : Int))]) ⟨hx, hb, hml, hown, hts⟩ (c_X6_size l D ty ad ct_26 H.size 0 yc hc yn yM yu hy hg hf mA pt ro ke kt mu sl (tgf tr ((i8 + 1) + 1) tw) (ptf tr ((i8 + 1) + 1) bw) de ⟨hm0_26, ((hof_26 1001 (by omega) (by omega) (by omega) (by omega) (by omega)).trans hMo.2.1), ((hof_26 1002 (by omega) (by omega) (by omega) (by omega) (by omega)).trans hMo.2.2.1), ((hof_26 1003 (by omega) (by omega) (by omega) (by omega) (by omega)).trans hMo.2.2.2.1), ((hof_26 1004 (by omega) (by omega) (by omega) (by omega) (by omega)).trans hMo.2.2.2.2.1), hm1_26, ((hof_26 1006 (by omega) (by omega) (by omega) (by omega) (by omega)).trans hMo.2.2.2.2.2.2.1), ((hof_26 1007 (by omega) (by omega) (by omega) (by omega) (by omega)).trans hMo.2.2.2.2.2.2.2.1), ((hof_26 1008 (by omega) (by omega) (by omega) (by omega) (by omega)).trans hMo.2.2.2.2.2.2.2.2.1), ((hof_26 1009 (by omega) (by omega) (by omega) (by omega) (by omega)).trans hMo.2.2.2.2.2.2.2.2.2.1), ((hof_26 1010 (by omega) (by omega) (by omega) (by omega) (by omega)).trans hMo.2.2.2.2.2.2.2.2.2.2.1), ((hof_26 1011 (by omega) (by omega) (by omega) (by omega) (by omega)).trans hMo.2.2.2.2.2.2.2.2.2.2.2.1), ((hof_26 1012 (by omega) (by omega) (by omega) (by omega) (by omega)).trans hMo.2.2.2.2.2.2.2.2.2.2.2.2.1), ((hof_26 1013 (by omega) (by omega) (by omega) (by omega) (by omega)).trans hMo.2.2.2.2.2.2.2.2.2.2.2.2.2.1), hm2_26, hk_27, hm4_26⟩ h9 (by omega) (by omega)) (cwV 1 hts gX6_grow_X6_size rfl rfl rfl (by decide +kernel) ⟨Nat.le_of_ble_eq_true rfl, Nat.le_of_ble_eq_true rfl⟩) (rm_preV hK hNw hW hm0_26 rfl) rfl rfl hl.1 rfl (lv_room (Nat.le_of_ble_eq_true rfl)) dX6_grow_86 ⟨Nat.zero_le _, Nat.zero_le _⟩) hW hS hA (fun z_29 ct_29 H locs hq_29 hW hS => ?_)
            obtain ⟨hz, hcc_29⟩ := hq_29
            have hcc_29 := hcc_29.symm
            subst hcc_29
            subst hz
            refine rm_icmp_ge (tgt := 133) hx hb ⟨by omega, by omega⟩ ⟨by omega, by omega⟩ dX6_grow_89 (by decide) (fun hc_30 => ?_) (fun hc_30 => ?_)
            · skip
              refine lv_iconst (v := jI 0) hx hb dX6_grow_133 rfl ?_
              refine lv_istore (lv' := [(5, .int (jI 0)), (6, .int (jI (((i8 + 1) : Nat) : Int))), (4, .int (jI (((hy h9) : Nat) : Int))), (0, .ref (ad 1000)), (1, .int (jI ((h9 : Nat) : Int))), (2, .long (jL ((tr : Nat) : Int)))]) hx hb dX6_grow_134 hl (by decide) rfl (fun ls hl => ?_)
              refine lv_iinc (v := jI ((((i8 + 1) : Nat) : Int) + 1)) (lv' := [(6, .int (jI ((((i8 + 1) : Nat) : Int) + 1))), (5, .int (jI 0)), (4, .int (jI (((hy h9) : Nat) : Int))), (0, .ref (ad 1000)), (1, .int (jI ((h9 : Nat) : Int))), (2, .long (jL ((tr : Nat) : Int)))]) hx hb dX6_grow_136 hl (k := 1) rfl (jI_add _ _) (by decide) rfl (fun ls hl => ?_)
              refine lv_goto (tgt := 24) hx hb dX6_grow_139 (by decide) ?_
              exact ih_L1 (i8 + 1) (0) (by omega) (Or.inr ⟨rfl, ⟨i8 + 1, by omega, by omega, by omega⟩⟩) (by omega) ct_26 _ _ hm0_26 trivial hm1_26 trivial hm2_26 trivial hk_27 trivial hm4_26 trivial hof_26 trivial hW hS ls (lv_sub hl [0, 1, 2, 3, 4, 5] rfl)
            · skip
              refine lv_aload_n hx hb dX6_grow_92 rfl (lv_at hl 3 rfl) ?_
              refine rm_get (ci := 6) (v := .ref (ad 1014)) (C := RX6) (T := TX6) (N := 19) hx hb hts (by decide +kernel) hown hK hW hm0_26 rfl 16 (by decide) (hts (.fieldLink RX6 51 "GrainYardModel" "to" "[I") (by decide +kernel)) (fun _ h9 => h9) rfl dX6_grow_93 ?_
              refine lv_iload hx hb dX6_grow_96 (lv_at hl 0 rfl) ?_
              refine rm_iald hx hb hK hW (f := (tgf tr ((i8 + 1) + 1) tw)) hm2_26 (i8 + 1) rfl (by omega) (by omega) dX6_grow_98 ?_
              rw [htv]
              refine lv_iload hx hb dX6_grow_99 (lv_at hl 0 rfl) ?_
              refine rm_icmp_eq (tgt := 133) hx hb ⟨by omega, by omega⟩ ⟨by omega, by omega⟩ dX6_grow_101 (by decide) (fun hc_31 => ?_) (fun hc_31 => ?_)
              · skip
                rw [show tgt tr (i8 + 1) = i8 + 1 by omega] at hMt hM1
                have hpb : (yM (hy h9)) (i8 + 1) (tgt tr (i8 + 1)) ≤ (pth tr (i8 + 1) : Int) := by rw [show tgt tr (i8 + 1) = i8 + 1 by omega, hM2]; omega
                refine lv_iconst (v := jI 0) hx hb dX6_grow_133 rfl ?_
                refine lv_istore (lv' := [(5, .int (jI 0)), (6, .int (jI (((i8 + 1) : Nat) : Int))), (4, .int (jI (((hy h9) : Nat) : Int))), (0, .ref (ad 1000)), (1, .int (jI ((h9 : Nat) : Int))), (2, .long (jL ((tr : Nat) : Int)))]) hx hb dX6_grow_134 hl (by decide) rfl (fun ls hl => ?_)
                refine lv_iinc (v := jI ((((i8 + 1) : Nat) : Int) + 1)) (lv' := [(6, .int (jI ((((i8 + 1) : Nat) : Int) + 1))), (5, .int (jI 0)), (4, .int (jI (((hy h9) : Nat) : Int))), (0, .ref (ad 1000)), (1, .int (jI ((h9 : Nat) : Int))), (2, .long (jL ((tr : Nat) : Int)))]) hx hb dX6_grow_136 hl (k := 1) rfl (jI_add _ _) (by decide) rfl (fun ls hl => ?_)
                refine lv_goto (tgt := 24) hx hb dX6_grow_139 (by decide) ?_
                exact ih_L1 (i8 + 1) (0) (by omega) (Or.inr ⟨rfl, ⟨i8 + 1, by omega, by omega, hpb⟩⟩) (by omega) ct_26 _ _ hm0_26 trivial hm1_26 trivial hm2_26 trivial hk_27 trivial hm4_26 trivial hof_26 trivial hW hS ls (lv_sub hl [0, 1, 2, 3, 4, 5] rfl)
              · skip
                refine lv_aload_n hx hb dX6_grow_104 rfl (lv_at hl 3 rfl) ?_
                refine rm_get (ci := 6) (v := .ref (ad 1015)) (C := RX6) (T := TX6) (N := 19) hx hb hts (by decide +kernel) hown hK hW hm0_26 rfl 17 (by decide) (hts (.fieldLink RX6 54 "GrainYardModel" "by" "[I") (by decide +kernel)) (fun _ h9 => h9) rfl dX6_grow_105 ?_
                refine lv_iload hx hb dX6_grow_108 (lv_at hl 0 rfl) ?_
                refine rm_iald hx hb hK hW (f := (ptf tr ((i8 + 1) + 1) bw)) hk_27 (i8 + 1) rfl (by omega) (by omega) dX6_grow_110 ?_
                rw [hpv]
                refine lv_aload_n hx hb dX6_grow_111 rfl (lv_at hl 3 rfl) ?_
                refine lv_iload hx hb dX6_grow_112 (lv_at hl 2 rfl) ?_
                refine lv_iload hx hb dX6_grow_114 (lv_at hl 0 rfl) ?_
                refine lv_aload_n hx hb dX6_grow_116 rfl (lv_at hl 3 rfl) ?_
                refine rm_get (ci := 6) (v := .ref (ad 1014)) (C := RX6) (T := TX6) (N := 19) hx hb hts (by decide +kernel) hown hK hW hm0_26 rfl 16 (by decide) (hts (.fieldLink RX6 51 "GrainYardModel" "to" "[I") (by decide +kernel)) (fun _ h9 => h9) rfl dX6_grow_117 ?_
                refine lv_iload hx hb dX6_grow_120 (lv_at hl 0 rfl) ?_
                refine rm_iald hx hb hK hW (f := (tgf tr ((i8 + 1) + 1) tw)) hm2_26 (i8 + 1) rfl (by omega) (by omega) dX6_grow_122 ?_
                rw [htv]
                refine rm_calli (va_runV (As := [.int (jI (((hy h9) : Nat) : Int)), .int (jI (((i8 + 1) : Nat) : Int)), .int (jI (((tgt tr (i8 + 1)) : Nat) : Int))]) (rest := [.int (jI (((pth tr (i8 + 1)) : Nat) : Int))]) ⟨hx, hb, hml, hown, hts⟩ (c_X6_between l D ty ad ct_26 H.size 0 yc hc yn yM yu hy hg hf mA pt ro ke kt mu sl (tgf tr ((i8 + 1) + 1) tw) (ptf tr ((i8 + 1) + 1) bw) de ⟨hm0_26, ((hof_26 1001 (by omega) (by omega) (by omega) (by omega) (by omega)).trans hMo.2.1), ((hof_26 1002 (by omega) (by omega) (by omega) (by omega) (by omega)).trans hMo.2.2.1), ((hof_26 1003 (by omega) (by omega) (by omega) (by omega) (by omega)).trans hMo.2.2.2.1), ((hof_26 1004 (by omega) (by omega) (by omega) (by omega) (by omega)).trans hMo.2.2.2.2.1), hm1_26, ((hof_26 1006 (by omega) (by omega) (by omega) (by omega) (by omega)).trans hMo.2.2.2.2.2.2.1), ((hof_26 1007 (by omega) (by omega) (by omega) (by omega) (by omega)).trans hMo.2.2.2.2.2.2.2.1), ((hof_26 1008 (by omega) (by omega) (by omega) (by omega) (by omega)).trans hMo.2.2.2.2.2.2.2.2.1), ((hof_26 1009 (by omega) (by omega) (by omega) (by omega) (by omega)).trans hMo.2.2.2.2.2.2.2.2.2.1), ((hof_26 1010 (by omega) (by omega) (by omega) (by omega) (by omega)).trans hMo.2.2.2.2.2.2.2.2.2.2.1), ((hof_26 1011 (by omega) (by omega) (by omega) (by omega) (by omega)).trans hMo.2.2.2.2.2.2.2.2.2.2.2.1), ((hof_26 1012 (by omega) (by omega) (by omega) (by omega) (by omega)).trans hMo.2.2.2.2.2.2.2.2.2.2.2.2.1), ((hof_26 1013 (by omega) (by omega) (by omega) (by omega) (by omega)).trans hMo.2.2.2.2.2.2.2.2.2.2.2.2.2.1), hm2_26, hk_27, hm4_26⟩ (hy h9) (i8 + 1) (tgt tr (i8 + 1)) (by omega) (by omega) (by omega)) (cwV 3 hts gX6_grow_X6_between rfl rfl rfl (by decide +kernel) ⟨Nat.le_of_ble_eq_true rfl, Nat.le_of_ble_eq_true rfl⟩) (rm_preV hK hNw hW hm0_26 rfl) rfl rfl hl.1 rfl (lv_room (Nat.le_of_ble_eq_true rfl)) dX6_grow_123 ⟨Nat.zero_le _, Nat.zero_le _⟩) hW hS hA (fun z_32 ct_32 H locs hq_32 hW hS => ?_)
                obtain ⟨hz, hcc_32⟩ := hq_32
                have hcc_32 := hcc_32.symm
                subst hcc_32
                subst hz
                refine rm_icmp_ge (tgt := 133) hx hb ⟨by omega, by omega⟩ ⟨by omega, by omega⟩ dX6_grow_126 (by decide) (fun hc_33 => ?_) (fun hc_33 => ?_)
                · skip
                  refine lv_iconst (v := jI 0) hx hb dX6_grow_133 rfl ?_
                  refine lv_istore (lv' := [(5, .int (jI 0)), (6, .int (jI (((i8 + 1) : Nat) : Int))), (4, .int (jI (((hy h9) : Nat) : Int))), (0, .ref (ad 1000)), (1, .int (jI ((h9 : Nat) : Int))), (2, .long (jL ((tr : Nat) : Int)))]) hx hb dX6_grow_134 hl (by decide) rfl (fun ls hl => ?_)
                  refine lv_iinc (v := jI ((((i8 + 1) : Nat) : Int) + 1)) (lv' := [(6, .int (jI ((((i8 + 1) : Nat) : Int) + 1))), (5, .int (jI 0)), (4, .int (jI (((hy h9) : Nat) : Int))), (0, .ref (ad 1000)), (1, .int (jI ((h9 : Nat) : Int))), (2, .long (jL ((tr : Nat) : Int)))]) hx hb dX6_grow_136 hl (k := 1) rfl (jI_add _ _) (by decide) rfl (fun ls hl => ?_)
                  refine lv_goto (tgt := 24) hx hb dX6_grow_139 (by decide) ?_
                  exact ih_L1 (i8 + 1) (0) (by omega) (Or.inr ⟨rfl, ⟨i8 + 1, by omega, by omega, by omega⟩⟩) (by omega) ct_26 _ _ hm0_26 trivial hm1_26 trivial hm2_26 trivial hk_27 trivial hm4_26 trivial hof_26 trivial hW hS ls (lv_sub hl [0, 1, 2, 3, 4, 5] rfl)
                · skip
                  refine lv_iconst (v := jI 1) hx hb dX6_grow_129 rfl ?_
                  refine lv_goto (tgt := 134) hx hb dX6_grow_130 (by decide) ?_
                  refine lv_istore (lv' := [(5, .int (jI 1)), (6, .int (jI (((i8 + 1) : Nat) : Int))), (4, .int (jI (((hy h9) : Nat) : Int))), (0, .ref (ad 1000)), (1, .int (jI ((h9 : Nat) : Int))), (2, .long (jL ((tr : Nat) : Int)))]) hx hb dX6_grow_134 hl (by decide) rfl (fun ls hl => ?_)
                  refine lv_iinc (v := jI ((((i8 + 1) : Nat) : Int) + 1)) (lv' := [(6, .int (jI ((((i8 + 1) : Nat) : Int) + 1))), (5, .int (jI 1)), (4, .int (jI (((hy h9) : Nat) : Int))), (0, .ref (ad 1000)), (1, .int (jI ((h9 : Nat) : Int))), (2, .long (jL ((tr : Nat) : Int)))]) hx hb dX6_grow_136 hl (k := 1) rfl (jI_add _ _) (by decide) rfl (fun ls hl => ?_)
                  refine lv_goto (tgt := 24) hx hb dX6_grow_139 (by decide) ?_
                  exact ih_L1 (i8 + 1) (1) (by omega) (Or.inl ⟨rfl, fun p h1 h2 => by
                      have h3 : ∀ p, 1 ≤ p → p < i8 + 1 → (pth tr p : Int) < (yM (hy h9)) p (tgt tr p) := by rcases hz8 with h | h; exact h.2; exact absurd h.1 (by omega)
                      by_cases e : p = i8 + 1
                      · subst e; omega
                      · exact h3 p h1 (by omega)⟩) (by omega) ct_26 _ _ hm0_26 trivial hm1_26 trivial hm2_26 trivial hk_27 trivial hm4_26 trivial hof_26 trivial hW hS ls (lv_sub hl [0, 1, 2, 3, 4, 5] rfl)
    exact L1 ((yn (hy h9)) + 1) (0) (1) (by omega) (Or.inl ⟨rfl, fun p h1 h2 => by omega⟩) (by omega) ct_1 _ _ hm0_1 trivial hm1_1 trivial (hm2_1.trans (congrArg (fun f => some (ri ty 8 f)) (tgf_1 _ _))) trivial (hm3_1.trans (congrArg (fun f => some (ri ty 8 f)) (ptf_1 _ _))) trivial hm4_1 trivial hof_1 trivial hW hS ls (lv_sub hl [0, 1, 2, 3, 4, 5] rfl)
