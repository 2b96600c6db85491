section ModPic13
theorem dvs_s {n : Nat} {M : Nat → Nat → Int} {q : Nat} (h : 1 ≤ q) : dvs n M q = dvg n M q := if_neg (by omega)
theorem dvs_0 (n : Nat) (M : Nat → Nat → Int) : dvs n M 0 = 1 := if_pos rfl
/-- rows of the parts, as far as q -/
def prt (f : Nat → Nat) (q : Nat) (pt : Nat → Int) : Prop := ∀ a, a < q → f (a + 1) ≠ f a → pt (cnd f a) = ((f (a + 1) / f a : Nat) : Int)
theorem prt_up {f : Nat → Nat} {q : Nat} {pt : Nat → Int} (h : prt f q pt) (he : f (q + 1) ≠ f q) : prt f (q + 1) (ub pt (cnd f q) ((f (q + 1) / f q : Nat) : Int)) := fun a ha hne => by
  by_cases e : a = q
  · subst e; rw [ub_s]
  · have := cnd_lt hne (show a < q by omega)
    rw [ub_n _ _ (by omega)]; exact h a (by omega) hne
theorem prt_eq {f : Nat → Nat} {q : Nat} {pt : Nat → Int} (h : prt f q pt) (he : f (q + 1) = f q) : prt f (q + 1) pt := fun a ha hne => by
  by_cases e : a = q
  · subst e; exact absurd he hne
  · exact h a (by omega) hne
theorem prt_at {f : Nat → Nat} {q i : Nat} {pt : Nat → Int} (h : prt f q pt) (hi : i < cnd f q) : ∃ a, a < q ∧ f (a + 1) ≠ f a ∧ cnd f a = i ∧ pt i = ((f (a + 1) / f a : Nat) : Int) := by
  obtain ⟨a, h1, h2, h3⟩ := cnd_ex hi
  exact ⟨a, h1, h2, h3, by rw [← h3]; exact h a h1 h2⟩
theorem mk_row : ∀ w, w < 8 → ∀ q, q < w → jI ((2 ^ w - 1 : Nat) : Int) &&& (jI ((1 * 2 ^ q : Nat) : Int) ^^^ jI (-1)) = jI ((2 ^ w - 1 - 2 ^ q : Nat) : Int) := by decide +kernel
theorem mk_xor : ∀ q, q < 8 → jI ((1 * 2 ^ q : Nat) : Int) ^^^ jI (-1) = jI (-1 - (2 ^ q : Nat)) := by decide +kernel
theorem mk_and : ∀ w, w < 8 → ∀ q, q < w → jI ((2 ^ w - 1 : Nat) : Int) &&& jI (-1 - (2 ^ q : Nat)) = jI ((2 ^ w - 1 - 2 ^ q : Nat) : Int) := by decide +kernel
theorem mnr_one {n : Nat} {M : Nat → Nat → Int} (hn : n ≤ 8) {a b : Nat} (ha : a < n - 1) (hb : b < n - 1) : mnr n M (2 ^ (n - 1) - 1 - 2 ^ a) (2 ^ (n - 1) - 1 - 2 ^ b) = dt (n - 1 - 1) (fun r c => lpm n M (sk a r) (sk b c)) := by
  obtain ⟨e1, e2⟩ := mk_one (n - 1) (by omega) a ha
  obtain ⟨-, e4⟩ := mk_one (n - 1) (by omega) b hb
  unfold mnr lpm
  rw [e1]
  exact dt_cong (fun r c hr hc => by rw [e2 r hr, e4 c hc])
/-- what of a place would topple, times all trees: as the model sums it -/
def trn (n : Nat) (M : Nat → Nat → Int) (d : Nat → Int) (a : Nat) (i : Nat) : Int := gs (fun q => d (q + 1) * sg (a + (q + 1)) * dt (n - 1 - 1) (fun r c => lpm n M (sk q r) (sk (a - 1) c))) i
theorem trn_cr {n : Nat} {M : Nat → Nat → Int} {d : Nat → Int} {a : Nat} (h1 : 1 ≤ a) (ha : a < n) : trn n M d a (n - 1) = cr (n - 1) (lpm n M) (fun q => d (q + 1)) (a - 1) := by
  rw [cr_aj _ _ (show a - 1 < n - 1 by omega)]
  unfold trn
  exact gs_cong (fun q hq => by
    have e : aj (n - 1) (lpm n M) (a - 1) q = sg (a - 1 + q) * dt (n - 1 - 1) (fun r c => lpm n M (sk q r) (sk (a - 1) c)) := by
      have h := dt_cof (n := n - 1 - 1) (lpm n M) (i := a - 1) (j := q) (by omega) (by omega)
      rw [show n - 1 - 1 + 1 = n - 1 by omega] at h
      exact h
    rw [e, sg_eq (show (a + (q + 1)) % 2 = (a - 1 + q) % 2 by omega), Int.mul_assoc, Int.mul_comm])
end ModPic13
set_option maxHeartbeats 4000000 in
set_option maxRecDepth 100000 in
theorem c_X6_finds (l : Launch) (D : va_G) (ty : Nat → ClassId) (ad : Nat → Nat) (ct : rm_C) (sz : Nat) (th : Int) (yc hc : Nat) (yn : Nat → Nat) (yM : Nat → Nat → Nat → Int) (yu : Nat → Int) (hy : Nat → Nat) (hg hf mA : Nat → Nat → Int) (pt ro ke kt mu sl tw bw de : Nat → Int) (hMo : ModAt ty ad ct th yc hc yn yM yu hy hg hf mA pt ro ke kt mu sl tw bw de) (y9 : Nat) (hy9 : y9 < 6) (hn9 : 2 ≤ yn y9 ∧ yn y9 ≤ 8) (hM9 : ∀ i j, 0 ≤ yM y9 i j ∧ yM y9 i j ≤ 3) (hyk : yok (yn y9) (yM y9)) (hpz : ∀ q, 1 ≤ q → q < (yn y9) → ∃ r c, r < 2 ^ ((yn y9) - 1) ∧ c < 2 ^ ((yn y9) - 1) ∧ cb r 7 = q ∧ cb c 7 = q ∧ mnr (yn y9) (yM y9) r c ≠ 0) : Met l yX6_finds wsX6_finds ({ frames := 5, cells := 0, slots := 0, locals := 123 }) (rm_P D ty ad ct sz [.ref (ad 1000), .int (jI ((y9 : Nat) : Int))]) (rm_Qi D ad ct sz (fun z ct1 => ∃ (A1 : Nat → Nat → Int) (pt1 : Nat → Int), z = ((cnd (dvs (yn y9) (yM y9)) ((yn y9) - 1) : Nat) : Int) ∧ prt (dvs (yn y9) (yM y9)) ((yn y9) - 1) pt1 ∧ ct1 1007 = some (rl ty 49 (fl 7 A1)) ∧ ct1 1008 = some (rl ty 7 pt1) ∧ (∀ q, q ≠ 1007 → q ≠ 1008 → ct1 q = ct q))) 0 0 (rm_A ad ct sz) := by
  refine Met.ofW (cc := cX6_finds) (maxL := 8) (ret := (some .int)) (by decide) rfl ?_
  intro p e s m args below meth c s₁ B hml hv
  obtain ⟨hargs, hsz, hW, hK, hNw⟩ := hv
  have hx := B.exec
  have hb := B.bytes
  have hr := B.returns
  have hts := atoms_spec (ws := wsX6_finds) B.pre
  have hown : s.vm.findClass RX6 = some m.cls := findClass_of_methodNamed B.named
  have hlocks := B.notSynchronized
  subst hsz
  have hW := hW.own (sz := s.heap.size)
  have hA : ∀ q : Nat, s.heap.size ≤ q → rm_A ad ct s.heap.size q := fun q h => Or.inr h
  have hS : va_S (rm_A ad ct s.heap.size) s.heap s.heap [] := va_S.rf
  have hent : entryFrame m args 8 = entryFrame m ([.ref (ad 1000), .int (jI ((y9 : Nat) : Int))] : List Value).toArray 8 := by rw [hargs]
  have hl := lv_entry ([.ref (ad 1000), .int (jI ((y9 : Nat) : Int))]) (n := 8) (Nat.le_of_ble_eq_true rfl)
  rw [hent, lg_entry_eq]
  generalize (lg_sl ([.ref (ad 1000), .int (jI ((y9 : Nat) : Int))]) ++ List.replicate (8 - (lg_sl ([.ref (ad 1000), .int (jI ((y9 : Nat) : Int))])).length) Slot.unset).toArray = ls at hl ⊢
  have hl : lv_has ls 8 [(0, .ref (ad 1000)), (1, .int (jI ((y9 : Nat) : Int)))] := hl
  refine lv_iconst (v := jI 0) hx hb dX6_finds_0 rfl ?_
  refine lv_istore_n (lv' := [(2, .int (jI 0)), (0, .ref (ad 1000)), (1, .int (jI ((y9 : Nat) : Int)))]) hx hb dX6_finds_1 rfl hl (by decide) rfl (fun ls hl => ?_)
  refine lv_lconst (v := jL 1) hx hb dX6_finds_2 rfl ?_
  refine lv_lstore_n (lv' := [(3, .long (jL 1)), (2, .int (jI 0)), (0, .ref (ad 1000)), (1, .int (jI ((y9 : Nat) : Int)))]) hx hb dX6_finds_3 rfl hl (by decide) rfl (fun ls hl => ?_)
  refine lv_iconst (v := jI 1) hx hb dX6_finds_4 rfl ?_
  refine lv_istore (lv' := [(5, .int (jI 1)), (3, .long (jL 1)), (2, .int (jI 0)), (0, .ref (ad 1000)), (1, .int (jI ((y9 : Nat) : Int)))]) hx hb dX6_finds_5 hl (by decide) rfl (fun ls hl => ?_)
  have hl : lv_has ls 8 [(5, .int (jI 1)), (3, .long (jL (((dvs (yn y9) (yM y9)) 0 : Nat) : Int))), (2, .int (jI (((cnd (dvs (yn y9) (yM y9)) 0) : Nat) : Int))), (0, .ref (ad 1000)), (1, .int (jI ((y9 : Nat) : Int)))] := by rw [dvs_0]; exact hl
  have hrg : ∀ q, q < (yn y9) → 0 < (dvs (yn y9) (yM y9)) q ∧ (dvs (yn y9) (yM y9)) q < 2147483648 := fun q hq => by
    by_cases e : q = 0
    · rw [e, dvs_0]; omega
    · rw [dvs_s (by omega)]; exact dvg_rng hyk (hpz q (by omega) hq)
  have LP : ∀ (k : Nat) (k8 : Nat) (A1 : Nat → Nat → Int) (pt1 : Nat → Int) (hk8 : k8 + 1 ≤ (yn y9)) (hpt : prt (dvs (yn y9) (yM y9)) k8 pt1), (yn y9) - k8 < k → ∀ (ctv : rm_C) (H : Heap) (locs : List Loc), (ctv 1007 = some (rl ty 49 (fl 7 A1))) → ∀ (_ : True), (ctv 1008 = some (rl ty 7 pt1)) → ∀ (_ : True), (∀ q, q ≠ 1007 → q ≠ 1008 → ctv q = ct q) → ∀ (_ : True), rm_W D ad ctv (rm_A ad ct s.heap.size) H → va_S (rm_A ad ct s.heap.size) s.heap H locs → ∀ ls : Array Slot, lv_has ls 8 [(5, .int (jI (((k8 + 1) : Nat) : Int))), (2, .int (jI (((cnd (dvs (yn y9) (yM y9)) k8) : Nat) : Int))), (3, .long (jL (((dvs (yn y9) (yM y9)) k8 : Nat) : Int))), (0, .ref (ad 1000)), (1, .int (jI ((y9 : Nat) : Int)))] → W p l e (headSpec wsX6_finds ({ frames := 5, cells := 0, slots := 0, locals := 123 })).room s m args below meth c H locs 0 0 (MQ below (rm_Qi D ad ct s.heap.size (fun z ct1 => ∃ (A1 : Nat → Nat → Int) (pt1 : Nat → Int), z = ((cnd (dvs (yn y9) (yM y9)) ((yn y9) - 1) : Nat) : Int) ∧ prt (dvs (yn y9) (yM y9)) ((yn y9) - 1) pt1 ∧ ct1 1007 = some (rl ty 49 (fl 7 A1)) ∧ ct1 1008 = some (rl ty 7 pt1) ∧ (∀ q, q ≠ 1007 → q ≠ 1008 → ct1 q = ct q))) args s 0 0 (rm_A ad ct s.heap.size)) (F0 m 7 ls []) := by
    intro k
    induction k with
    | zero => intro k8 A1 pt1 hk8 hpt hk; exact absurd hk (Nat.not_lt_zero _)
    | succ k ih_LP =>
      intro k8 A1 pt1 hk8 hpt hk ctv_1 H locs hv0_1 _ hv1_1 _ hofv_1 _ hW hS ls hl
      have hcl := cnd_le (dvs (yn y9) (yM y9)) k8
      have hcs : cnd (dvs (yn y9) (yM y9)) (k8 + 1) = cnd (dvs (yn y9) (yM y9)) k8 + if (dvs (yn y9) (yM y9)) (k8 + 1) = (dvs (yn y9) (yM y9)) k8 then 0 else 1 := rfl
      refine lv_iload hx hb dX6_finds_7 (lv_at hl 0 rfl) ?_
      refine lv_aload_n hx hb dX6_finds_9 rfl (lv_at hl 3 rfl) ?_
      refine rm_get (ci := 6) (v := .ref (ad 1001)) (C := RX6) (T := TX6) (N := 19) hx hb hts (by decide +kernel) hown hK hW ((hofv_1 1000 (by omega) (by omega)).trans hMo.1) rfl 3 (by decide) (hts (.fieldLink RX6 7 "GrainYardModel" "places" "[I") (by decide +kernel)) (fun _ h9 => h9) rfl dX6_finds_10 ?_
      refine lv_iload_n hx hb dX6_finds_13 rfl (lv_at hl 4 rfl) ?_
      refine rm_iald hx hb hK hW (f := (fun y => ((yn y : Nat) : Int))) ((hofv_1 1001 (by omega) (by omega)).trans hMo.2.1) y9 rfl (by omega) (by omega) dX6_finds_14 ?_
      refine rm_icmp_ge (tgt := 56) hx hb ⟨by omega, by omega⟩ ⟨by omega, by omega⟩ dX6_finds_15 (by decide) (fun hc_2 => ?_) (fun hc_2 => ?_)
      · skip
        have hke : k8 = (yn y9) - 1 := by omega
        rw [hke] at hpt
        have hl : lv_has ls 8 [(2, .int (jI (((cnd (dvs (yn y9) (yM y9)) k8) : Nat) : Int))), (0, .ref (ad 1000)), (1, .int (jI ((y9 : Nat) : Int)))] := lv_sub hl [1, 3, 4] rfl
        have hl : lv_has ls 8 [(2, .int (jI (((cnd (dvs (yn y9) (yM y9)) ((yn y9) - 1)) : Nat) : Int))), (0, .ref (ad 1000)), (1, .int (jI ((y9 : Nat) : Int)))] := by rw [hke] at hl; exact hl
        refine lv_iload_n hx hb dX6_finds_56 rfl (lv_at hl 0 rfl) ?_
        exact W.iret hx hb hr (fun t ht hw => ⟨⟨_, ((((cnd (dvs (yn y9) (yM y9)) ((yn y9) - 1)) : Nat) : Int), ctv_1), rfl, ⟨rfl, ⟨A1, pt1, rfl, hpt, hv0_1, hv1_1, fun q h0 h1 => hofv_1 q h0 h1⟩⟩, by show rm_W D ad _ _ t.heap; rw [ht]; exact hW⟩, hS.F ht⟩) hS.2.2 dX6_finds_57
      · skip
        have hr0 := hrg k8 (by omega)
        have hr1 := hrg (k8 + 1) (by omega)
        refine lv_aload_n hx hb dX6_finds_18 rfl (lv_at hl 3 rfl) ?_
        refine lv_iload_n hx hb dX6_finds_19 rfl (lv_at hl 4 rfl) ?_
        refine lv_iload hx hb dX6_finds_20 (lv_at hl 0 rfl) ?_
        refine rm_calll (va_runV (As := [.int (jI ((y9 : Nat) : Int)), .int (jI (((k8 + 1) : Nat) : Int))]) (rest := []) ⟨hx, hb, hml, hown, hts⟩ (c_X6_divisor l D ty ad ctv_1 H.size th yc hc yn yM yu hy hg hf A1 pt1 ro ke kt mu sl tw bw de ⟨((hofv_1 1000 (by omega) (by omega)).trans hMo.1), ((hofv_1 1001 (by omega) (by omega)).trans hMo.2.1), ((hofv_1 1002 (by omega) (by omega)).trans hMo.2.2.1), ((hofv_1 1003 (by omega) (by omega)).trans hMo.2.2.2.1), ((hofv_1 1004 (by omega) (by omega)).trans hMo.2.2.2.2.1), ((hofv_1 1005 (by omega) (by omega)).trans hMo.2.2.2.2.2.1), ((hofv_1 1006 (by omega) (by omega)).trans hMo.2.2.2.2.2.2.1), hv0_1, hv1_1, ((hofv_1 1009 (by omega) (by omega)).trans hMo.2.2.2.2.2.2.2.2.2.1), ((hofv_1 1010 (by omega) (by omega)).trans hMo.2.2.2.2.2.2.2.2.2.2.1), ((hofv_1 1011 (by omega) (by omega)).trans hMo.2.2.2.2.2.2.2.2.2.2.2.1), ((hofv_1 1012 (by omega) (by omega)).trans hMo.2.2.2.2.2.2.2.2.2.2.2.2.1), ((hofv_1 1013 (by omega) (by omega)).trans hMo.2.2.2.2.2.2.2.2.2.2.2.2.2.1), ((hofv_1 1014 (by omega) (by omega)).trans hMo.2.2.2.2.2.2.2.2.2.2.2.2.2.2.1), ((hofv_1 1015 (by omega) (by omega)).trans hMo.2.2.2.2.2.2.2.2.2.2.2.2.2.2.2.1), ((hofv_1 1016 (by omega) (by omega)).trans hMo.2.2.2.2.2.2.2.2.2.2.2.2.2.2.2.2)⟩ y9 hy9 hn9 hM9 hyk (k8 + 1) (by omega)) (cwV 2 hts gX6_finds_X6_divisor rfl rfl rfl (by decide +kernel) ⟨Nat.le_of_ble_eq_true rfl, Nat.le_of_ble_eq_true rfl⟩) (rm_preV hK hNw hW ((hofv_1 1000 (by omega) (by omega)).trans hMo.1) rfl) rfl rfl hl.1 rfl (lv_room (Nat.le_of_ble_eq_true rfl)) dX6_finds_22 ⟨Nat.zero_le _, Nat.zero_le _⟩) hW hS hA (fun z_3 ct_3 H locs hq_3 hW hS => ?_)
        obtain ⟨A3, hz, hq1, hq2⟩ := hq_3
        rw [← dvs_s (by omega)] at hz
        subst hz
        have ho_3 : ∀ q, q ≠ 1007 → ct_3 q = ctv_1 q := hq2
        have hof_3 : ∀ q, q ≠ 1007 → q ≠ 1008 → ct_3 q = ct q := fun q h0_3 h1_3 => (ho_3 q h0_3).trans (hofv_1 q h0_3 h1_3)
        have hm0_3 : ct_3 1007 = some (rl ty 49 (fl 7 A3)) := hq1
        have hm1_3 : ct_3 1008 = some (rl ty 7 pt1) := (ho_3 1008 (by omega)).trans hv1_1
        refine lv_lstore (lv' := [(6, .long (jL (((dvs (yn y9) (yM y9)) (k8 + 1) : Nat) : Int))), (5, .int (jI (((k8 + 1) : Nat) : Int))), (2, .int (jI (((cnd (dvs (yn y9) (yM y9)) k8) : Nat) : Int))), (3, .long (jL (((dvs (yn y9) (yM y9)) k8 : Nat) : Int))), (0, .ref (ad 1000)), (1, .int (jI ((y9 : Nat) : Int)))]) hx hb dX6_finds_25 hl (by decide) rfl (fun ls hl => ?_)
        refine lv_lload hx hb dX6_finds_27 (lv_at hl 0 rfl) ?_
        refine lv_lload_n hx hb dX6_finds_29 rfl (lv_at hl 3 rfl) ?_
        refine rm_lcmp hx hb ⟨by omega, by omega⟩ ⟨by omega, by omega⟩ dX6_finds_30 ?_
        refine rm_if_eq (tgt := 47) hx hb (lcv_rng _ _) dX6_finds_31 (by decide) (fun hc_4 => ?_) (fun hc_4 => ?_)
        · skip
          have hc_4 := lcv_eq.mp hc_4
          have hse : (dvs (yn y9) (yM y9)) (k8 + 1) = (dvs (yn y9) (yM y9)) k8 := by omega
          rw [if_pos hse] at hcs
          have hl : lv_has ls 8 [(6, .long (jL (((dvs (yn y9) (yM y9)) (k8 + 1) : Nat) : Int))), (5, .int (jI (((k8 + 1) : Nat) : Int))), (2, .int (jI (((cnd (dvs (yn y9) (yM y9)) (k8 + 1)) : Nat) : Int))), (3, .long (jL (((dvs (yn y9) (yM y9)) k8 : Nat) : Int))), (0, .ref (ad 1000)), (1, .int (jI ((y9 : Nat) : Int)))] := by rw [hcs]; exact hl
          refine lv_lload hx hb dX6_finds_47 (lv_at hl 0 rfl) ?_
          refine lv_lstore_n (lv' := [(3, .long (jL (((dvs (yn y9) (yM y9)) (k8 + 1) : Nat) : Int))), (6, .long (jL (((dvs (yn y9) (yM y9)) (k8 + 1) : Nat) : Int))), (5, .int (jI (((k8 + 1) : Nat) : Int))), (2, .int (jI (((cnd (dvs (yn y9) (yM y9)) (k8 + 1)) : Nat) : Int))), (0, .ref (ad 1000)), (1, .int (jI ((y9 : Nat) : Int)))]) hx hb dX6_finds_49 rfl hl (by decide) rfl (fun ls hl => ?_)
          have hl : lv_has ls 8 [(3, .long (jL (((dvs (yn y9) (yM y9)) (k8 + 1) : Nat) : Int))), (5, .int (jI (((k8 + 1) : Nat) : Int))), (2, .int (jI (((cnd (dvs (yn y9) (yM y9)) (k8 + 1)) : Nat) : Int))), (0, .ref (ad 1000)), (1, .int (jI ((y9 : Nat) : Int)))] := lv_sub hl [0, 2, 3, 4, 5] rfl
          refine lv_iinc (v := jI ((((k8 + 1) : Nat) : Int) + 1)) (lv' := [(5, .int (jI ((((k8 + 1) : Nat) : Int) + 1))), (3, .long (jL (((dvs (yn y9) (yM y9)) (k8 + 1) : Nat) : Int))), (2, .int (jI (((cnd (dvs (yn y9) (yM y9)) (k8 + 1)) : Nat) : Int))), (0, .ref (ad 1000)), (1, .int (jI ((y9 : Nat) : Int)))]) hx hb dX6_finds_50 hl (k := 1) rfl (jI_add _ _) (by decide) rfl (fun ls hl => ?_)
          refine lv_goto (tgt := 7) hx hb dX6_finds_53 (by decide) ?_
          exact ih_LP (k8 + 1) (A3) (pt1) (by omega) (prt_eq hpt hse) (by omega) ct_3 _ _ hm0_3 trivial hm1_3 trivial hof_3 trivial hW hS ls (lv_sub hl [0, 2, 1, 3, 4] rfl)
        · skip
          have hc_4 : (((dvs (yn y9) (yM y9)) (k8 + 1) : Nat) : Int) ≠ (((dvs (yn y9) (yM y9)) k8 : Nat) : Int) := fun hq => hc_4 (lcv_eq.mpr hq)
          have hse : (dvs (yn y9) (yM y9)) (k8 + 1) ≠ (dvs (yn y9) (yM y9)) k8 := by omega
          rw [if_neg hse] at hcs
          refine lv_aload_n hx hb dX6_finds_34 rfl (lv_at hl 4 rfl) ?_
          refine rm_get (ci := 6) (v := .ref (ad 1008)) (C := RX6) (T := TX6) (N := 19) hx hb hts (by decide +kernel) hown hK hW ((hof_3 1000 (by omega) (by omega)).trans hMo.1) rfl 10 (by decide) (hts (.fieldLink RX6 33 "GrainYardModel" "parts" "[J") (by decide +kernel)) (fun _ h9 => h9) rfl dX6_finds_35 ?_
          refine lv_iload_n hx hb dX6_finds_38 rfl (lv_at hl 2 rfl) ?_
          refine lv_lload hx hb dX6_finds_39 (lv_at hl 0 rfl) ?_
          refine lv_lload_n hx hb dX6_finds_41 rfl (lv_at hl 3 rfl) ?_
          refine rm_ldiv hx hb dX6_finds_42 ⟨by omega, by omega⟩ ⟨by omega, by omega⟩ (by omega) ?_
          rw [show Int.tdiv (((dvs (yn y9) (yM y9)) (k8 + 1) : Nat) : Int) (((dvs (yn y9) (yM y9)) k8 : Nat) : Int) = (((dvs (yn y9) (yM y9)) (k8 + 1) / (dvs (yn y9) (yM y9)) k8 : Nat) : Int) from (Int.ofNat_tdiv _ _).symm]
          refine rm_last hx hb hK hW hS (f := pt1) hm1_3 (cnd (dvs (yn y9) (yM y9)) k8) rfl (by omega) (by omega) dX6_finds_43 (fun H locs ct_5 hs_5 ho_5 hW hS hz_5 => ?_)
          have hof_5 : ∀ q, q ≠ 1007 → q ≠ 1008 → ct_5 q = ct q := fun q h0_5 h1_5 => (ho_5 q h1_5).trans (hof_3 q h0_5 h1_5)
          have hm0_5 : ct_5 1007 = some (rl ty 49 (fl 7 A3)) := (ho_5 1007 (by omega)).trans hm0_3
          refine lv_iinc (v := jI ((((cnd (dvs (yn y9) (yM y9)) k8) : Nat) : Int) + 1)) (lv' := [(2, .int (jI ((((cnd (dvs (yn y9) (yM y9)) k8) : Nat) : Int) + 1))), (6, .long (jL (((dvs (yn y9) (yM y9)) (k8 + 1) : Nat) : Int))), (5, .int (jI (((k8 + 1) : Nat) : Int))), (3, .long (jL (((dvs (yn y9) (yM y9)) k8 : Nat) : Int))), (0, .ref (ad 1000)), (1, .int (jI ((y9 : Nat) : Int)))]) hx hb dX6_finds_44 hl (k := 2) rfl (jI_add _ _) (by decide) rfl (fun ls hl => ?_)
          have hl : lv_has ls 8 [(2, .int (jI (((cnd (dvs (yn y9) (yM y9)) (k8 + 1)) : Nat) : Int))), (6, .long (jL (((dvs (yn y9) (yM y9)) (k8 + 1) : Nat) : Int))), (5, .int (jI (((k8 + 1) : Nat) : Int))), (3, .long (jL (((dvs (yn y9) (yM y9)) k8 : Nat) : Int))), (0, .ref (ad 1000)), (1, .int (jI ((y9 : Nat) : Int)))] := by rw [hcs]; exact hl
          refine lv_lload hx hb dX6_finds_47 (lv_at hl 1 rfl) ?_
          refine lv_lstore_n (lv' := [(3, .long (jL (((dvs (yn y9) (yM y9)) (k8 + 1) : Nat) : Int))), (2, .int (jI (((cnd (dvs (yn y9) (yM y9)) (k8 + 1)) : Nat) : Int))), (6, .long (jL (((dvs (yn y9) (yM y9)) (k8 + 1) : Nat) : Int))), (5, .int (jI (((k8 + 1) : Nat) : Int))), (0, .ref (ad 1000)), (1, .int (jI ((y9 : Nat) : Int)))]) hx hb dX6_finds_49 rfl hl (by decide) rfl (fun ls hl => ?_)
          have hl : lv_has ls 8 [(3, .long (jL (((dvs (yn y9) (yM y9)) (k8 + 1) : Nat) : Int))), (2, .int (jI (((cnd (dvs (yn y9) (yM y9)) (k8 + 1)) : Nat) : Int))), (5, .int (jI (((k8 + 1) : Nat) : Int))), (0, .ref (ad 1000)), (1, .int (jI ((y9 : Nat) : Int)))] := lv_sub hl [0, 1, 3, 4, 5] rfl
          refine lv_iinc (v := jI ((((k8 + 1) : Nat) : Int) + 1)) (lv' := [(5, .int (jI ((((k8 + 1) : Nat) : Int) + 1))), (3, .long (jL (((dvs (yn y9) (yM y9)) (k8 + 1) : Nat) : Int))), (2, .int (jI (((cnd (dvs (yn y9) (yM y9)) (k8 + 1)) : Nat) : Int))), (0, .ref (ad 1000)), (1, .int (jI ((y9 : Nat) : Int)))]) hx hb dX6_finds_50 hl (k := 2) rfl (jI_add _ _) (by decide) rfl (fun ls hl => ?_)
          refine lv_goto (tgt := 7) hx hb dX6_finds_53 (by decide) ?_
          exact ih_LP (k8 + 1) (A3) ((ub pt1 (cnd (dvs (yn y9) (yM y9)) k8) (((dvs (yn y9) (yM y9)) (k8 + 1) / (dvs (yn y9) (yM y9)) k8 : Nat) : Int))) (by omega) (prt_up hpt hse) (by omega) ct_5 _ _ hm0_5 trivial hs_5 trivial hof_5 trivial hW hS ls (lv_sub hl [0, 2, 1, 3, 4] rfl)
  exact LP ((yn y9) + 1) (0) (mA) (pt) (by omega) (fun a ha => absurd ha (Nat.not_lt_zero _)) (by omega) ct _ _ hMo.2.2.2.2.2.2.2.1 trivial hMo.2.2.2.2.2.2.2.2.1 trivial (fun _ _ _ => rfl) trivial hW hS ls (lv_sub hl [0, 2, 1, 3, 4] rfl)
set_option maxHeartbeats 4000000 in
set_option maxRecDepth 100000 in
theorem c_X6_part (l : Launch) (D : va_G) (ty : Nat → ClassId) (ad : Nat → Nat) (ct : rm_C) (sz : Nat) (th : Int) (yc hc : Nat) (yn : Nat → Nat) (yM : Nat → Nat → Nat → Int) (yu : Nat → Int) (hy : Nat → Nat) (hg hf mA : Nat → Nat → Int) (pt ro ke kt mu sl tw bw de : Nat → Int) (hMo : ModAt ty ad ct th yc hc yn yM yu hy hg hf mA pt ro ke kt mu sl tw bw de) (hb20 : yc ≤ 6 ∧ hc ≤ 20) (hyn : ∀ y, y < yc → 2 ≤ yn y ∧ yn y ≤ 8) (hyM : ∀ y, y < yc → ∀ i j, 0 ≤ yM y i j ∧ yM y i j ≤ 3) (hyk : ∀ y, y < yc → yok (yn y) (yM y)) (hpz : ∀ y, y < yc → isz (yn y) (yM y) 8 = 2 ^ yn y - 1 → ∀ q, 1 ≤ q → q < yn y → ∃ r c, r < 2 ^ (yn y - 1) ∧ c < 2 ^ (yn y - 1) ∧ cb r 7 = q ∧ cb c 7 = q ∧ mnr (yn y) (yM y) r c ≠ 0) (z9 w9 : Int) (hz9 : r32 z9) (hw9 : r32 w9) : Met l yX6_part wsX6_part ({ frames := 6, cells := 0, slots := 0, locals := 150 }) (rm_P D ty ad ct sz [.ref (ad 1000), .int (jI z9), .int (jI w9)]) (rm_Ql D ad ct sz (fun z ct1 => (∀ q, (q < 1000 ∨ 1016 < q) → ct1 q = ct q) ∧ ((((z9 < 0 ∨ ((yc : Nat) : Int) ≤ z9) ∨ ∃ y9 : Nat, z9 = (y9 : Int) ∧ y9 < yc ∧ isz (yn y9) (yM y9) 8 = 2 ^ yn y9 - 1 ∧ (w9 < -1 ∨ ((cnd (dvs (yn y9) (yM y9)) ((yn y9) - 1) : Nat) : Int) ≤ w9)) ∧ ModX ty ad ct1 1 yc hc yn yM yu hy hg hf) ∨ ((∃ y9 : Nat, z9 = (y9 : Int) ∧ y9 < yc ∧ ¬ isz (yn y9) (yM y9) 8 = 2 ^ yn y9 - 1) ∧ ModX ty ad ct1 2 yc hc yn yM yu hy hg hf) ∨ ∃ y9 : Nat, z9 = (y9 : Int) ∧ y9 < yc ∧ isz (yn y9) (yM y9) 8 = 2 ^ yn y9 - 1 ∧ ((w9 = -1 ∧ z = ((cnd (dvs (yn y9) (yM y9)) ((yn y9) - 1) : Nat) : Int)) ∨ ∃ i9 a9 : Nat, w9 = (i9 : Int) ∧ a9 < (yn y9) - 1 ∧ (dvs (yn y9) (yM y9)) (a9 + 1) ≠ (dvs (yn y9) (yM y9)) a9 ∧ cnd (dvs (yn y9) (yM y9)) a9 = i9 ∧ z = (((dvs (yn y9) (yM y9)) (a9 + 1) / (dvs (yn y9) (yM y9)) a9 : Nat) : Int)) ∧ ModX ty ad ct1 0 yc hc yn yM yu hy hg hf))) 0 0 (rm_A ad ct sz) := by
  refine Met.ofW (cc := cX6_part) (maxL := 4) (ret := (some .long)) (by decide) rfl ?_
  intro p e s m args below meth c s₁ B hml hv
  obtain ⟨hargs, hsz, hW, hK, hNw⟩ := hv
  have hx := B.exec
  have hb := B.bytes
  have hr := B.returns
  have hts := atoms_spec (ws := wsX6_part) B.pre
  have hown : s.vm.findClass RX6 = some m.cls := findClass_of_methodNamed B.named
  have hlocks := B.notSynchronized
  subst hsz
  have hW := hW.own (sz := s.heap.size)
  have hA : ∀ q : Nat, s.heap.size ≤ q → rm_A ad ct s.heap.size q := fun q h => Or.inr h
  have hS : va_S (rm_A ad ct s.heap.size) s.heap s.heap [] := va_S.rf
  have hent : entryFrame m args 4 = entryFrame m ([.ref (ad 1000), .int (jI z9), .int (jI w9)] : List Value).toArray 4 := by rw [hargs]
  have hl := lv_entry ([.ref (ad 1000), .int (jI z9), .int (jI w9)]) (n := 4) (Nat.le_of_ble_eq_true rfl)
  rw [hent, lg_entry_eq]
  generalize (lg_sl ([.ref (ad 1000), .int (jI z9), .int (jI w9)]) ++ List.replicate (4 - (lg_sl ([.ref (ad 1000), .int (jI z9), .int (jI w9)])).length) Slot.unset).toArray = ls at hl ⊢
  have hl : lv_has ls 4 [(0, .ref (ad 1000)), (1, .int (jI z9)), (2, .int (jI w9))] := hl
  refine lv_aload_n hx hb dX6_part_0 rfl (lv_at hl 0 rfl) ?_
  refine lv_iload_n hx hb dX6_part_1 rfl (lv_at hl 1 rfl) ?_
  refine rm_calli (va_runV (As := [.int (jI z9)]) (rest := []) ⟨hx, hb, hml, hown, hts⟩ (c_X6_isYard l D ty ad ct s.heap.size th yc hc yn yM yu hy hg hf mA pt ro ke kt mu sl tw bw de hMo z9 hz9 hb20) (cwV 1 hts gX6_part_X6_isYard rfl rfl rfl (by decide +kernel) ⟨Nat.le_of_ble_eq_true rfl, Nat.le_of_ble_eq_true rfl⟩) (rm_preV hK hNw hW hMo.1 rfl) rfl rfl hl.1 rfl (lv_room (Nat.le_of_ble_eq_true rfl)) dX6_part_2 ⟨Nat.zero_le _, Nat.zero_le _⟩) hW hS hA (fun z_1 ct_1 H locs hq_1 hW hS => ?_)
  obtain ⟨hqo, hqc⟩ := hq_1
  rcases hqc with ⟨hbad, hz, hqs⟩ | ⟨hp1, hp2, hz, hqs⟩
  · skip
    subst hz
    have ho_1 : ∀ q, q ≠ 1000 → ct_1 q = ct q := hqo
    have hof_1 : ∀ q, q ≠ 1000 → q ≠ 1007 → q ≠ 1008 → ct_1 q = ct q := fun q h0_1 h1_1 h2_1 => (ho_1 q h0_1).trans rfl
    have hm0_1 : ct_1 1000 = some (.inr (6, [.int (jI 1), .int (jI ((yc : Nat) : Int)), .int (jI ((hc : Nat) : Int)), .ref (ad 1001), .ref (ad 1002), .ref (ad 1003), .ref (ad 1004), .ref (ad 1005), .ref (ad 1006), .ref (ad 1007), .ref (ad 1008), .ref (ad 1009), .ref (ad 1010), .ref (ad 1011), .ref (ad 1012), .ref (ad 1013), .ref (ad 1014), .ref (ad 1015), .ref (ad 1016)]) : va_E) := hqs
    have hm1_1 : ct_1 1007 = some (rl ty 49 (fl 7 mA)) := (ho_1 1007 (by omega)).trans hMo.2.2.2.2.2.2.2.1
    have hm2_1 : ct_1 1008 = some (rl ty 7 pt) := (ho_1 1008 (by omega)).trans hMo.2.2.2.2.2.2.2.2.1
    refine rm_if_eq (tgt := 21) hx hb ⟨by omega, by omega⟩ dX6_part_5 (by decide) (fun _ => ?_) (fun hq => absurd hq (by omega))
    refine lv_lconst (v := jL 0) hx hb dX6_part_21 rfl ?_
    exact W.lret hx hb hr (fun t ht hw => ⟨⟨_, (0, ct_1), rfl, ⟨rfl, ⟨(fun q hq9 => hof_1 q (by omega) (by omega) (by omega)), Or.inl ⟨Or.inl hbad, ⟨mA, pt, ro, ke, kt, mu, sl, tw, bw, de, ⟨hm0_1, ((hof_1 1001 (by omega) (by omega) (by omega)).trans hMo.2.1), ((hof_1 1002 (by omega) (by omega) (by omega)).trans hMo.2.2.1), ((hof_1 1003 (by omega) (by omega) (by omega)).trans hMo.2.2.2.1), ((hof_1 1004 (by omega) (by omega) (by omega)).trans hMo.2.2.2.2.1), ((hof_1 1005 (by omega) (by omega) (by omega)).trans hMo.2.2.2.2.2.1), ((hof_1 1006 (by omega) (by omega) (by omega)).trans hMo.2.2.2.2.2.2.1), hm1_1, hm2_1, ((hof_1 1009 (by omega) (by omega) (by omega)).trans hMo.2.2.2.2.2.2.2.2.2.1), ((hof_1 1010 (by omega) (by omega) (by omega)).trans hMo.2.2.2.2.2.2.2.2.2.2.1), ((hof_1 1011 (by omega) (by omega) (by omega)).trans hMo.2.2.2.2.2.2.2.2.2.2.2.1), ((hof_1 1012 (by omega) (by omega) (by omega)).trans hMo.2.2.2.2.2.2.2.2.2.2.2.2.1), ((hof_1 1013 (by omega) (by omega) (by omega)).trans hMo.2.2.2.2.2.2.2.2.2.2.2.2.2.1), ((hof_1 1014 (by omega) (by omega) (by omega)).trans hMo.2.2.2.2.2.2.2.2.2.2.2.2.2.2.1), ((hof_1 1015 (by omega) (by omega) (by omega)).trans hMo.2.2.2.2.2.2.2.2.2.2.2.2.2.2.2.1), ((hof_1 1016 (by omega) (by omega) (by omega)).trans hMo.2.2.2.2.2.2.2.2.2.2.2.2.2.2.2.2)⟩⟩⟩⟩⟩, by show rm_W D ad _ _ t.heap; rw [ht]; exact hW⟩, hS.F ht⟩) hS.2.2 dX6_part_22
  · skip
    subst hz
    have ho_1 : ∀ q, q ≠ 1000 → ct_1 q = ct q := hqo
    have hof_1 : ∀ q, q ≠ 1000 → q ≠ 1007 → q ≠ 1008 → ct_1 q = ct q := fun q h0_1 h1_1 h2_1 => (ho_1 q h0_1).trans rfl
    have hm0_1 : ct_1 1000 = some (.inr (6, [.int (jI 0), .int (jI ((yc : Nat) : Int)), .int (jI ((hc : Nat) : Int)), .ref (ad 1001), .ref (ad 1002), .ref (ad 1003), .ref (ad 1004), .ref (ad 1005), .ref (ad 1006), .ref (ad 1007), .ref (ad 1008), .ref (ad 1009), .ref (ad 1010), .ref (ad 1011), .ref (ad 1012), .ref (ad 1013), .ref (ad 1014), .ref (ad 1015), .ref (ad 1016)]) : va_E) := hqs
    have hm1_1 : ct_1 1007 = some (rl ty 49 (fl 7 mA)) := (ho_1 1007 (by omega)).trans hMo.2.2.2.2.2.2.2.1
    have hm2_1 : ct_1 1008 = some (rl ty 7 pt) := (ho_1 1008 (by omega)).trans hMo.2.2.2.2.2.2.2.2.1
    obtain ⟨y9, hn_y9⟩ : ∃ y9 : Nat, z9 = (y9 : Int) := ⟨z9.toNat, by omega⟩
    subst hn_y9
    have hy9 : y9 < yc := by omega
    have hn8 := hyn y9 hy9
    have hM8 := hyM y9 hy9
    refine rm_if_eq (tgt := 21) hx hb ⟨by omega, by omega⟩ dX6_part_5 (by decide) (fun hq => absurd hq (by omega)) (fun _ => ?_)
    refine lv_aload_n hx hb dX6_part_8 rfl (lv_at hl 0 rfl) ?_
    refine lv_aload_n hx hb dX6_part_9 rfl (lv_at hl 0 rfl) ?_
    refine lv_iload_n hx hb dX6_part_10 rfl (lv_at hl 1 rfl) ?_
    refine rm_calli (va_runV (As := [.int (jI ((y9 : Nat) : Int))]) (rest := [.ref (ad 1000)]) ⟨hx, hb, hml, hown, hts⟩ (c_X6_isWhole l D ty ad ct_1 H.size 0 yc hc yn yM yu hy hg hf mA pt ro ke kt mu sl tw bw de ⟨hm0_1, ((hof_1 1001 (by omega) (by omega) (by omega)).trans hMo.2.1), ((hof_1 1002 (by omega) (by omega) (by omega)).trans hMo.2.2.1), ((hof_1 1003 (by omega) (by omega) (by omega)).trans hMo.2.2.2.1), ((hof_1 1004 (by omega) (by omega) (by omega)).trans hMo.2.2.2.2.1), ((hof_1 1005 (by omega) (by omega) (by omega)).trans hMo.2.2.2.2.2.1), ((hof_1 1006 (by omega) (by omega) (by omega)).trans hMo.2.2.2.2.2.2.1), hm1_1, hm2_1, ((hof_1 1009 (by omega) (by omega) (by omega)).trans hMo.2.2.2.2.2.2.2.2.2.1), ((hof_1 1010 (by omega) (by omega) (by omega)).trans hMo.2.2.2.2.2.2.2.2.2.2.1), ((hof_1 1011 (by omega) (by omega) (by omega)).trans hMo.2.2.2.2.2.2.2.2.2.2.2.1), ((hof_1 1012 (by omega) (by omega) (by omega)).trans hMo.2.2.2.2.2.2.2.2.2.2.2.2.1), ((hof_1 1013 (by omega) (by omega) (by omega)).trans hMo.2.2.2.2.2.2.2.2.2.2.2.2.2.1), ((hof_1 1014 (by omega) (by omega) (by omega)).trans hMo.2.2.2.2.2.2.2.2.2.2.2.2.2.2.1), ((hof_1 1015 (by omega) (by omega) (by omega)).trans hMo.2.2.2.2.2.2.2.2.2.2.2.2.2.2.2.1), ((hof_1 1016 (by omega) (by omega) (by omega)).trans hMo.2.2.2.2.2.2.2.2.2.2.2.2.2.2.2.2)⟩ y9 (by omega) hn8 hM8) (cwV 1 hts gX6_part_X6_isWhole rfl rfl rfl (by decide +kernel) ⟨Nat.le_of_ble_eq_true rfl, Nat.le_of_ble_eq_true rfl⟩) (rm_preV hK hNw hW hm0_1 rfl) rfl rfl hl.1 rfl (lv_room (Nat.le_of_ble_eq_true rfl)) dX6_part_11 ⟨Nat.zero_le _, Nat.zero_le _⟩) hW hS hA (fun z_2 ct_2 H locs hq_2 hW hS => ?_)
    obtain ⟨hz, hcc_2⟩ := hq_2
    have hcc_2 := hcc_2.symm
    subst hcc_2
    by_cases hww : isz (yn y9) (yM y9) 8 = 2 ^ yn y9 - 1
    · skip
      rw [if_pos hww] at hz
      subst hz
      refine lv_iconst (v := jI 2) hx hb dX6_part_14 rfl ?_
      refine rm_calli (va_runV (As := [.int (jI 1), .int (jI 2)]) (rest := []) ⟨hx, hb, hml, hown, hts⟩ (c_X6_right l D ty ad ct_1 H.size 0 yc hc yn yM yu hy hg hf mA pt ro ke kt mu sl tw bw de ⟨hm0_1, ((hof_1 1001 (by omega) (by omega) (by omega)).trans hMo.2.1), ((hof_1 1002 (by omega) (by omega) (by omega)).trans hMo.2.2.1), ((hof_1 1003 (by omega) (by omega) (by omega)).trans hMo.2.2.2.1), ((hof_1 1004 (by omega) (by omega) (by omega)).trans hMo.2.2.2.2.1), ((hof_1 1005 (by omega) (by omega) (by omega)).trans hMo.2.2.2.2.2.1), ((hof_1 1006 (by omega) (by omega) (by omega)).trans hMo.2.2.2.2.2.2.1), hm1_1, hm2_1, ((hof_1 1009 (by omega) (by omega) (by omega)).trans hMo.2.2.2.2.2.2.2.2.2.1), ((hof_1 1010 (by omega) (by omega) (by omega)).trans hMo.2.2.2.2.2.2.2.2.2.2.1), ((hof_1 1011 (by omega) (by omega) (by omega)).trans hMo.2.2.2.2.2.2.2.2.2.2.2.1), ((hof_1 1012 (by omega) (by omega) (by omega)).trans hMo.2.2.2.2.2.2.2.2.2.2.2.2.1), ((hof_1 1013 (by omega) (by omega) (by omega)).trans hMo.2.2.2.2.2.2.2.2.2.2.2.2.2.1), ((hof_1 1014 (by omega) (by omega) (by omega)).trans hMo.2.2.2.2.2.2.2.2.2.2.2.2.2.2.1), ((hof_1 1015 (by omega) (by omega) (by omega)).trans hMo.2.2.2.2.2.2.2.2.2.2.2.2.2.2.2.1), ((hof_1 1016 (by omega) (by omega) (by omega)).trans hMo.2.2.2.2.2.2.2.2.2.2.2.2.2.2.2.2)⟩ 1 2 r32_0 (by omega) (by omega)) (cwV 2 hts gX6_part_X6_right rfl rfl rfl (by decide +kernel) ⟨Nat.le_of_ble_eq_true rfl, Nat.le_of_ble_eq_true rfl⟩) (rm_preV hK hNw hW hm0_1 rfl) rfl rfl hl.1 rfl (lv_room (Nat.le_of_ble_eq_true rfl)) dX6_part_15 ⟨Nat.zero_le _, Nat.zero_le _⟩) hW hS hA (fun z_3 ct_3 H locs hq_3 hW hS => ?_)
      obtain ⟨t9, ht9, hz, hq1, hq2⟩ := hq_3
      rw [if_neg (by omega)] at ht9
      subst ht9
      rw [if_pos rfl] at hz
      subst hz
      have ho_3 : ∀ q, q ≠ 1000 → ct_3 q = ct_1 q := hq2
      have hof_3 : ∀ q, q ≠ 1000 → q ≠ 1007 → q ≠ 1008 → ct_3 q = ct q := fun q h0_3 h1_3 h2_3 => (ho_3 q h0_3).trans (hof_1 q h0_3 h1_3 h2_3)
      have hm0_3 : ct_3 1000 = some (.inr (6, [.int (jI 0), .int (jI ((yc : Nat) : Int)), .int (jI ((hc : Nat) : Int)), .ref (ad 1001), .ref (ad 1002), .ref (ad 1003), .ref (ad 1004), .ref (ad 1005), .ref (ad 1006), .ref (ad 1007), .ref (ad 1008), .ref (ad 1009), .ref (ad 1010), .ref (ad 1011), .ref (ad 1012), .ref (ad 1013), .ref (ad 1014), .ref (ad 1015), .ref (ad 1016)]) : va_E) := hq1
      have hm1_3 : ct_3 1007 = some (rl ty 49 (fl 7 mA)) := (ho_3 1007 (by omega)).trans hm1_1
      have hm2_3 : ct_3 1008 = some (rl ty 7 pt) := (ho_3 1008 (by omega)).trans hm2_1
      refine rm_if_ne (tgt := 23) hx hb ⟨by omega, by omega⟩ dX6_part_18 (by decide) (fun _ => ?_) (fun hq => absurd hq (by omega))
      refine lv_aload_n hx hb dX6_part_23 rfl (lv_at hl 0 rfl) ?_
      refine lv_iload_n hx hb dX6_part_24 rfl (lv_at hl 1 rfl) ?_
      refine rm_calli (va_runV (As := [.int (jI ((y9 : Nat) : Int))]) (rest := []) ⟨hx, hb, hml, hown, hts⟩ (c_X6_finds l D ty ad ct_3 H.size 0 yc hc yn yM yu hy hg hf mA pt ro ke kt mu sl tw bw de ⟨hm0_3, ((hof_3 1001 (by omega) (by omega) (by omega)).trans hMo.2.1), ((hof_3 1002 (by omega) (by omega) (by omega)).trans hMo.2.2.1), ((hof_3 1003 (by omega) (by omega) (by omega)).trans hMo.2.2.2.1), ((hof_3 1004 (by omega) (by omega) (by omega)).trans hMo.2.2.2.2.1), ((hof_3 1005 (by omega) (by omega) (by omega)).trans hMo.2.2.2.2.2.1), ((hof_3 1006 (by omega) (by omega) (by omega)).trans hMo.2.2.2.2.2.2.1), hm1_3, hm2_3, ((hof_3 1009 (by omega) (by omega) (by omega)).trans hMo.2.2.2.2.2.2.2.2.2.1), ((hof_3 1010 (by omega) (by omega) (by omega)).trans hMo.2.2.2.2.2.2.2.2.2.2.1), ((hof_3 1011 (by omega) (by omega) (by omega)).trans hMo.2.2.2.2.2.2.2.2.2.2.2.1), ((hof_3 1012 (by omega) (by omega) (by omega)).trans hMo.2.2.2.2.2.2.2.2.2.2.2.2.1), ((hof_3 1013 (by omega) (by omega) (by omega)).trans hMo.2.2.2.2.2.2.2.2.2.2.2.2.2.1), ((hof_3 1014 (by omega) (by omega) (by omega)).trans hMo.2.2.2.2.2.2.2.2.2.2.2.2.2.2.1), ((hof_3 1015 (by omega) (by omega) (by omega)).trans hMo.2.2.2.2.2.2.2.2.2.2.2.2.2.2.2.1), ((hof_3 1016 (by omega) (by omega) (by omega)).trans hMo.2.2.2.2.2.2.2.2.2.2.2.2.2.2.2.2)⟩ y9 (by omega) hn8 hM8 (hyk y9 hy9) (hpz y9 hy9 hww)) (cwV 1 hts gX6_part_X6_finds rfl rfl rfl (by decide +kernel) ⟨Nat.le_of_ble_eq_true rfl, Nat.le_of_ble_eq_true rfl⟩) (rm_preV hK hNw hW hm0_3 rfl) rfl rfl hl.1 rfl (lv_room (Nat.le_of_ble_eq_true rfl)) dX6_part_25 ⟨Nat.zero_le _, Nat.zero_le _⟩) hW hS hA (fun z_4 ct_4 H locs hq_4 hW hS => ?_)
      obtain ⟨A3, pt3, hz, hpt, hq1, hq2, hq3⟩ := hq_4
      subst hz
      have hcl := cnd_le (dvs (yn y9) (yM y9)) ((yn y9) - 1)
      have ho_4 : ∀ q, q ≠ 1007 → q ≠ 1008 → ct_4 q = ct_3 q := hq3
      have hof_4 : ∀ q, q ≠ 1000 → q ≠ 1007 → q ≠ 1008 → ct_4 q = ct q := fun q h0_4 h1_4 h2_4 => (ho_4 q h1_4 h2_4).trans (hof_3 q h0_4 h1_4 h2_4)
      have hm0_4 : ct_4 1000 = some (.inr (6, [.int (jI 0), .int (jI ((yc : Nat) : Int)), .int (jI ((hc : Nat) : Int)), .ref (ad 1001), .ref (ad 1002), .ref (ad 1003), .ref (ad 1004), .ref (ad 1005), .ref (ad 1006), .ref (ad 1007), .ref (ad 1008), .ref (ad 1009), .ref (ad 1010), .ref (ad 1011), .ref (ad 1012), .ref (ad 1013), .ref (ad 1014), .ref (ad 1015), .ref (ad 1016)]) : va_E) := (ho_4 1000 (by omega) (by omega)).trans hm0_3
      have hm1_4 : ct_4 1007 = some (rl ty 49 (fl 7 A3)) := hq1
      have hm2_4 : ct_4 1008 = some (rl ty 7 pt3) := hq2
      refine lv_istore_n (lv' := [(3, .int (jI (((cnd (dvs (yn y9) (yM y9)) ((yn y9) - 1)) : Nat) : Int))), (0, .ref (ad 1000)), (1, .int (jI ((y9 : Nat) : Int))), (2, .int (jI w9))]) hx hb dX6_part_28 rfl hl (by decide) rfl (fun ls hl => ?_)
      refine lv_aload_n hx hb dX6_part_29 rfl (lv_at hl 1 rfl) ?_
      refine lv_iload_n hx hb dX6_part_30 rfl (lv_at hl 3 rfl) ?_
      refine lv_iconst (v := jI (-1)) hx hb dX6_part_31 rfl ?_
      refine rm_icmp_lt (tgt := 44) hx hb ⟨by omega, by omega⟩ ⟨by omega, by omega⟩ dX6_part_32 (by decide) (fun hc_5 => ?_) (fun hc_5 => ?_)
      · skip
        refine lv_iconst (v := jI 0) hx hb dX6_part_44 rfl ?_
        refine lv_iconst (v := jI 1) hx hb dX6_part_45 rfl ?_
        refine rm_calli (va_runV (As := [.int (jI 0), .int (jI 1)]) (rest := []) ⟨hx, hb, hml, hown, hts⟩ (c_X6_right l D ty ad ct_4 H.size 0 yc hc yn yM yu hy hg hf A3 pt3 ro ke kt mu sl tw bw de ⟨hm0_4, ((hof_4 1001 (by omega) (by omega) (by omega)).trans hMo.2.1), ((hof_4 1002 (by omega) (by omega) (by omega)).trans hMo.2.2.1), ((hof_4 1003 (by omega) (by omega) (by omega)).trans hMo.2.2.2.1), ((hof_4 1004 (by omega) (by omega) (by omega)).trans hMo.2.2.2.2.1), ((hof_4 1005 (by omega) (by omega) (by omega)).trans hMo.2.2.2.2.2.1), ((hof_4 1006 (by omega) (by omega) (by omega)).trans hMo.2.2.2.2.2.2.1), hm1_4, hm2_4, ((hof_4 1009 (by omega) (by omega) (by omega)).trans hMo.2.2.2.2.2.2.2.2.2.1), ((hof_4 1010 (by omega) (by omega) (by omega)).trans hMo.2.2.2.2.2.2.2.2.2.2.1), ((hof_4 1011 (by omega) (by omega) (by omega)).trans hMo.2.2.2.2.2.2.2.2.2.2.2.1), ((hof_4 1012 (by omega) (by omega) (by omega)).trans hMo.2.2.2.2.2.2.2.2.2.2.2.2.1), ((hof_4 1013 (by omega) (by omega) (by omega)).trans hMo.2.2.2.2.2.2.2.2.2.2.2.2.2.1), ((hof_4 1014 (by omega) (by omega) (by omega)).trans hMo.2.2.2.2.2.2.2.2.2.2.2.2.2.2.1), ((hof_4 1015 (by omega) (by omega) (by omega)).trans hMo.2.2.2.2.2.2.2.2.2.2.2.2.2.2.2.1), ((hof_4 1016 (by omega) (by omega) (by omega)).trans hMo.2.2.2.2.2.2.2.2.2.2.2.2.2.2.2.2)⟩ 0 1 r32_0 (by omega) (by omega)) (cwV 2 hts gX6_part_X6_right rfl rfl rfl (by decide +kernel) ⟨Nat.le_of_ble_eq_true rfl, Nat.le_of_ble_eq_true rfl⟩) (rm_preV hK hNw hW hm0_4 rfl) rfl rfl hl.1 rfl (lv_room (Nat.le_of_ble_eq_true rfl)) dX6_part_46 ⟨Nat.zero_le _, Nat.zero_le _⟩) hW hS hA (fun z_6 ct_6 H locs hq_6 hW hS => ?_)
        obtain ⟨t9, ht9, hz, hq1, hq2⟩ := hq_6
        rw [if_pos (by decide)] at ht9
        subst ht9
        rw [if_neg (by omega)] at hz
        subst hz
        have ho_6 : ∀ q, q ≠ 1000 → ct_6 q = ct_4 q := hq2
        have hof_6 : ∀ q, q ≠ 1000 → q ≠ 1007 → q ≠ 1008 → ct_6 q = ct q := fun q h0_6 h1_6 h2_6 => (ho_6 q h0_6).trans (hof_4 q h0_6 h1_6 h2_6)
        have hm0_6 : ct_6 1000 = some (.inr (6, [.int (jI 1), .int (jI ((yc : Nat) : Int)), .int (jI ((hc : Nat) : Int)), .ref (ad 1001), .ref (ad 1002), .ref (ad 1003), .ref (ad 1004), .ref (ad 1005), .ref (ad 1006), .ref (ad 1007), .ref (ad 1008), .ref (ad 1009), .ref (ad 1010), .ref (ad 1011), .ref (ad 1012), .ref (ad 1013), .ref (ad 1014), .ref (ad 1015), .ref (ad 1016)]) : va_E) := hq1
        have hm1_6 : ct_6 1007 = some (rl ty 49 (fl 7 A3)) := (ho_6 1007 (by omega)).trans hm1_4
        have hm2_6 : ct_6 1008 = some (rl ty 7 pt3) := (ho_6 1008 (by omega)).trans hm2_4
        refine rm_if_ne (tgt := 54) hx hb ⟨by omega, by omega⟩ dX6_part_49 (by decide) (fun hq => absurd hq (by omega)) (fun _ => ?_)
        refine lv_lconst (v := jL 0) hx hb dX6_part_52 rfl ?_
        exact W.lret hx hb hr (fun t ht hw => ⟨⟨_, (0, ct_6), rfl, ⟨rfl, ⟨(fun q hq9 => hof_6 q (by omega) (by omega) (by omega)), Or.inl ⟨Or.inr ⟨y9, rfl, hy9, hww, by omega⟩, ⟨A3, pt3, ro, ke, kt, mu, sl, tw, bw, de, ⟨hm0_6, ((hof_6 1001 (by omega) (by omega) (by omega)).trans hMo.2.1), ((hof_6 1002 (by omega) (by omega) (by omega)).trans hMo.2.2.1), ((hof_6 1003 (by omega) (by omega) (by omega)).trans hMo.2.2.2.1), ((hof_6 1004 (by omega) (by omega) (by omega)).trans hMo.2.2.2.2.1), ((hof_6 1005 (by omega) (by omega) (by omega)).trans hMo.2.2.2.2.2.1), ((hof_6 1006 (by omega) (by omega) (by omega)).trans hMo.2.2.2.2.2.2.1), hm1_6, hm2_6, ((hof_6 1009 (by omega) (by omega) (by omega)).trans hMo.2.2.2.2.2.2.2.2.2.1), ((hof_6 1010 (by omega) (by omega) (by omega)).trans hMo.2.2.2.2.2.2.2.2.2.2.1), ((hof_6 1011 (by omega) (by omega) (by omega)).trans hMo.2.2.2.2.2.2.2.2.2.2.2.1), ((hof_6 1012 (by omega) (by omega) (by omega)).trans hMo.2.2.2.2.2.2.2.2.2.2.2.2.1), ((hof_6 1013 (by omega) (by omega) (by omega)).trans hMo.2.2.2.2.2.2.2.2.2.2.2.2.2.1), ((hof_6 1014 (by omega) (by omega) (by omega)).trans hMo.2.2.2.2.2.2.2.2.2.2.2.2.2.2.1), ((hof_6 1015 (by omega) (by omega) (by omega)).trans hMo.2.2.2.2.2.2.2.2.2.2.2.2.2.2.2.1), ((hof_6 1016 (by omega) (by omega) (by omega)).trans hMo.2.2.2.2.2.2.2.2.2.2.2.2.2.2.2.2)⟩⟩⟩⟩⟩, by show rm_W D ad _ _ t.heap; rw [ht]; exact hW⟩, hS.F ht⟩) hS.2.2 dX6_part_53
      · skip
        refine lv_iload_n hx hb dX6_part_35 rfl (lv_at hl 3 rfl) ?_
        refine lv_iload_n hx hb dX6_part_36 rfl (lv_at hl 0 rfl) ?_
        refine rm_icmp_ge (tgt := 44) hx hb ⟨by omega, by omega⟩ ⟨by omega, by omega⟩ dX6_part_37 (by decide) (fun hc_7 => ?_) (fun hc_7 => ?_)
        · skip
          refine lv_iconst (v := jI 0) hx hb dX6_part_44 rfl ?_
          refine lv_iconst (v := jI 1) hx hb dX6_part_45 rfl ?_
          refine rm_calli (va_runV (As := [.int (jI 0), .int (jI 1)]) (rest := []) ⟨hx, hb, hml, hown, hts⟩ (c_X6_right l D ty ad ct_4 H.size 0 yc hc yn yM yu hy hg hf A3 pt3 ro ke kt mu sl tw bw de ⟨hm0_4, ((hof_4 1001 (by omega) (by omega) (by omega)).trans hMo.2.1), ((hof_4 1002 (by omega) (by omega) (by omega)).trans hMo.2.2.1), ((hof_4 1003 (by omega) (by omega) (by omega)).trans hMo.2.2.2.1), ((hof_4 1004 (by omega) (by omega) (by omega)).trans hMo.2.2.2.2.1), ((hof_4 1005 (by omega) (by omega) (by omega)).trans hMo.2.2.2.2.2.1), ((hof_4 1006 (by omega) (by omega) (by omega)).trans hMo.2.2.2.2.2.2.1), hm1_4, hm2_4, ((hof_4 1009 (by omega) (by omega) (by omega)).trans hMo.2.2.2.2.2.2.2.2.2.1), ((hof_4 1010 (by omega) (by omega) (by omega)).trans hMo.2.2.2.2.2.2.2.2.2.2.1), ((hof_4 1011 (by omega) (by omega) (by omega)).trans hMo.2.2.2.2.2.2.2.2.2.2.2.1), ((hof_4 1012 (by omega) (by omega) (by omega)).trans hMo.2.2.2.2.2.2.2.2.2.2.2.2.1), ((hof_4 1013 (by omega) (by omega) (by omega)).trans hMo.2.2.2.2.2.2.2.2.2.2.2.2.2.1), ((hof_4 1014 (by omega) (by omega) (by omega)).trans hMo.2.2.2.2.2.2.2.2.2.2.2.2.2.2.1), ((hof_4 1015 (by omega) (by omega) (by omega)).trans hMo.2.2.2.2.2.2.2.2.2.2.2.2.2.2.2.1), ((hof_4 1016 (by omega) (by omega) (by omega)).trans hMo.2.2.2.2.2.2.2.2.2.2.2.2.2.2.2.2)⟩ 0 1 r32_0 (by omega) (by omega)) (cwV 2 hts gX6_part_X6_right rfl rfl rfl (by decide +kernel) ⟨Nat.le_of_ble_eq_true rfl, Nat.le_of_ble_eq_true rfl⟩) (rm_preV hK hNw hW hm0_4 rfl) rfl rfl hl.1 rfl (lv_room (Nat.le_of_ble_eq_true rfl)) dX6_part_46 ⟨Nat.zero_le _, Nat.zero_le _⟩) hW hS hA (fun z_8 ct_8 H locs hq_8 hW hS => ?_)
          obtain ⟨t9, ht9, hz, hq1, hq2⟩ := hq_8
          rw [if_pos (by decide)] at ht9
          subst ht9
          rw [if_neg (by omega)] at hz
          subst hz
          have ho_8 : ∀ q, q ≠ 1000 → ct_8 q = ct_4 q := hq2
          have hof_8 : ∀ q, q ≠ 1000 → q ≠ 1007 → q ≠ 1008 → ct_8 q = ct q := fun q h0_8 h1_8 h2_8 => (ho_8 q h0_8).trans (hof_4 q h0_8 h1_8 h2_8)
          have hm0_8 : ct_8 1000 = some (.inr (6, [.int (jI 1), .int (jI ((yc : Nat) : Int)), .int (jI ((hc : Nat) : Int)), .ref (ad 1001), .ref (ad 1002), .ref (ad 1003), .ref (ad 1004), .ref (ad 1005), .ref (ad 1006), .ref (ad 1007), .ref (ad 1008), .ref (ad 1009), .ref (ad 1010), .ref (ad 1011), .ref (ad 1012), .ref (ad 1013), .ref (ad 1014), .ref (ad 1015), .ref (ad 1016)]) : va_E) := hq1
          have hm1_8 : ct_8 1007 = some (rl ty 49 (fl 7 A3)) := (ho_8 1007 (by omega)).trans hm1_4
          have hm2_8 : ct_8 1008 = some (rl ty 7 pt3) := (ho_8 1008 (by omega)).trans hm2_4
          refine rm_if_ne (tgt := 54) hx hb ⟨by omega, by omega⟩ dX6_part_49 (by decide) (fun hq => absurd hq (by omega)) (fun _ => ?_)
          refine lv_lconst (v := jL 0) hx hb dX6_part_52 rfl ?_
          exact W.lret hx hb hr (fun t ht hw => ⟨⟨_, (0, ct_8), rfl, ⟨rfl, ⟨(fun q hq9 => hof_8 q (by omega) (by omega) (by omega)), Or.inl ⟨Or.inr ⟨y9, rfl, hy9, hww, by omega⟩, ⟨A3, pt3, ro, ke, kt, mu, sl, tw, bw, de, ⟨hm0_8, ((hof_8 1001 (by omega) (by omega) (by omega)).trans hMo.2.1), ((hof_8 1002 (by omega) (by omega) (by omega)).trans hMo.2.2.1), ((hof_8 1003 (by omega) (by omega) (by omega)).trans hMo.2.2.2.1), ((hof_8 1004 (by omega) (by omega) (by omega)).trans hMo.2.2.2.2.1), ((hof_8 1005 (by omega) (by omega) (by omega)).trans hMo.2.2.2.2.2.1), ((hof_8 1006 (by omega) (by omega) (by omega)).trans hMo.2.2.2.2.2.2.1), hm1_8, hm2_8, ((hof_8 1009 (by omega) (by omega) (by omega)).trans hMo.2.2.2.2.2.2.2.2.2.1), ((hof_8 1010 (by omega) (by omega) (by omega)).trans hMo.2.2.2.2.2.2.2.2.2.2.1), ((hof_8 1011 (by omega) (by omega) (by omega)).trans hMo.2.2.2.2.2.2.2.2.2.2.2.1), ((hof_8 1012 (by omega) (by omega) (by omega)).trans hMo.2.2.2.2.2.2.2.2.2.2.2.2.1), ((hof_8 1013 (by omega) (by omega) (by omega)).trans hMo.2.2.2.2.2.2.2.2.2.2.2.2.2.1), ((hof_8 1014 (by omega) (by omega) (by omega)).trans hMo.2.2.2.2.2.2.2.2.2.2.2.2.2.2.1), ((hof_8 1015 (by omega) (by omega) (by omega)).trans hMo.2.2.2.2.2.2.2.2.2.2.2.2.2.2.2.1), ((hof_8 1016 (by omega) (by omega) (by omega)).trans hMo.2.2.2.2.2.2.2.2.2.2.2.2.2.2.2.2)⟩⟩⟩⟩⟩, by show rm_W D ad _ _ t.heap; rw [ht]; exact hW⟩, hS.F ht⟩) hS.2.2 dX6_part_53
        · skip
          refine lv_iconst (v := jI 1) hx hb dX6_part_40 rfl ?_
          refine lv_goto (tgt := 45) hx hb dX6_part_41 (by decide) ?_
          refine lv_iconst (v := jI 1) hx hb dX6_part_45 rfl ?_
          refine rm_calli (va_runV (As := [.int (jI 1), .int (jI 1)]) (rest := []) ⟨hx, hb, hml, hown, hts⟩ (c_X6_right l D ty ad ct_4 H.size 0 yc hc yn yM yu hy hg hf A3 pt3 ro ke kt mu sl tw bw de ⟨hm0_4, ((hof_4 1001 (by omega) (by omega) (by omega)).trans hMo.2.1), ((hof_4 1002 (by omega) (by omega) (by omega)).trans hMo.2.2.1), ((hof_4 1003 (by omega) (by omega) (by omega)).trans hMo.2.2.2.1), ((hof_4 1004 (by omega) (by omega) (by omega)).trans hMo.2.2.2.2.1), ((hof_4 1005 (by omega) (by omega) (by omega)).trans hMo.2.2.2.2.2.1), ((hof_4 1006 (by omega) (by omega) (by omega)).trans hMo.2.2.2.2.2.2.1), hm1_4, hm2_4, ((hof_4 1009 (by omega) (by omega) (by omega)).trans hMo.2.2.2.2.2.2.2.2.2.1), ((hof_4 1010 (by omega) (by omega) (by omega)).trans hMo.2.2.2.2.2.2.2.2.2.2.1), ((hof_4 1011 (by omega) (by omega) (by omega)).trans hMo.2.2.2.2.2.2.2.2.2.2.2.1), ((hof_4 1012 (by omega) (by omega) (by omega)).trans hMo.2.2.2.2.2.2.2.2.2.2.2.2.1), ((hof_4 1013 (by omega) (by omega) (by omega)).trans hMo.2.2.2.2.2.2.2.2.2.2.2.2.2.1), ((hof_4 1014 (by omega) (by omega) (by omega)).trans hMo.2.2.2.2.2.2.2.2.2.2.2.2.2.2.1), ((hof_4 1015 (by omega) (by omega) (by omega)).trans hMo.2.2.2.2.2.2.2.2.2.2.2.2.2.2.2.1), ((hof_4 1016 (by omega) (by omega) (by omega)).trans hMo.2.2.2.2.2.2.2.2.2.2.2.2.2.2.2.2)⟩ 1 1 r32_0 (by omega) (by omega)) (cwV 2 hts gX6_part_X6_right rfl rfl rfl (by decide +kernel) ⟨Nat.le_of_ble_eq_true rfl, Nat.le_of_ble_eq_true rfl⟩) (rm_preV hK hNw hW hm0_4 rfl) rfl rfl hl.1 rfl (lv_room (Nat.le_of_ble_eq_true rfl)) dX6_part_46 ⟨Nat.zero_le _, Nat.zero_le _⟩) hW hS hA (fun z_9 ct_9 H locs hq_9 hW hS => ?_)
          obtain ⟨t9, ht9, hz, hq1, hq2⟩ := hq_9
          rw [if_neg (by omega)] at ht9
          subst ht9
          rw [if_pos rfl] at hz
          subst hz
          have ho_9 : ∀ q, q ≠ 1000 → ct_9 q = ct_4 q := hq2
          have hof_9 : ∀ q, q ≠ 1000 → q ≠ 1007 → q ≠ 1008 → ct_9 q = ct q := fun q h0_9 h1_9 h2_9 => (ho_9 q h0_9).trans (hof_4 q h0_9 h1_9 h2_9)
          have hm0_9 : ct_9 1000 = some (.inr (6, [.int (jI 0), .int (jI ((yc : Nat) : Int)), .int (jI ((hc : Nat) : Int)), .ref (ad 1001), .ref (ad 1002), .ref (ad 1003), .ref (ad 1004), .ref (ad 1005), .ref (ad 1006), .ref (ad 1007), .ref (ad 1008), .ref (ad 1009), .ref (ad 1010), .ref (ad 1011), .ref (ad 1012), .ref (ad 1013), .ref (ad 1014), .ref (ad 1015), .ref (ad 1016)]) : va_E) := hq1
          have hm1_9 : ct_9 1007 = some (rl ty 49 (fl 7 A3)) := (ho_9 1007 (by omega)).trans hm1_4
          have hm2_9 : ct_9 1008 = some (rl ty 7 pt3) := (ho_9 1008 (by omega)).trans hm2_4
          refine rm_if_ne (tgt := 54) hx hb ⟨by omega, by omega⟩ dX6_part_49 (by decide) (fun _ => ?_) (fun hq => absurd hq (by omega))
          refine lv_iload_n hx hb dX6_part_54 rfl (lv_at hl 3 rfl) ?_
          refine lv_iconst (v := jI (-1)) hx hb dX6_part_55 rfl ?_
          refine rm_icmp_ne (tgt := 64) hx hb ⟨by omega, by omega⟩ ⟨by omega, by omega⟩ dX6_part_56 (by decide) (fun hc_10 => ?_) (fun hc_10 => ?_)
          · skip
            obtain ⟨i9, hi9⟩ : ∃ i9 : Nat, w9 = (i9 : Int) := ⟨w9.toNat, by omega⟩
            subst hi9
            obtain ⟨a9, ha1, ha2, ha3, ha4⟩ := prt_at hpt (show i9 < cnd (dvs (yn y9) (yM y9)) ((yn y9) - 1) by omega)
            refine lv_aload_n hx hb dX6_part_64 rfl (lv_at hl 1 rfl) ?_
            refine rm_get (ci := 6) (v := .ref (ad 1008)) (C := RX6) (T := TX6) (N := 19) hx hb hts (by decide +kernel) hown hK hW hm0_9 rfl 10 (by decide) (hts (.fieldLink RX6 33 "GrainYardModel" "parts" "[J") (by decide +kernel)) (fun _ h9 => h9) rfl dX6_part_65 ?_
            refine lv_iload_n hx hb dX6_part_68 rfl (lv_at hl 3 rfl) ?_
            refine rm_lald hx hb hK hW (f := pt3) hm2_9 i9 rfl (by omega) (by omega) dX6_part_69 ?_
            exact W.lret hx hb hr (fun t ht hw => ⟨⟨_, ((pt3 i9), ct_9), rfl, ⟨rfl, ⟨(fun q hq9 => hof_9 q (by omega) (by omega) (by omega)), Or.inr (Or.inr ⟨y9, rfl, hy9, hww, Or.inr ⟨i9, a9, rfl, ha1, ha2, ha3, ha4⟩, ⟨A3, pt3, ro, ke, kt, mu, sl, tw, bw, de, ⟨hm0_9, ((hof_9 1001 (by omega) (by omega) (by omega)).trans hMo.2.1), ((hof_9 1002 (by omega) (by omega) (by omega)).trans hMo.2.2.1), ((hof_9 1003 (by omega) (by omega) (by omega)).trans hMo.2.2.2.1), ((hof_9 1004 (by omega) (by omega) (by omega)).trans hMo.2.2.2.2.1), ((hof_9 1005 (by omega) (by omega) (by omega)).trans hMo.2.2.2.2.2.1), ((hof_9 1006 (by omega) (by omega) (by omega)).trans hMo.2.2.2.2.2.2.1), hm1_9, hm2_9, ((hof_9 1009 (by omega) (by omega) (by omega)).trans hMo.2.2.2.2.2.2.2.2.2.1), ((hof_9 1010 (by omega) (by omega) (by omega)).trans hMo.2.2.2.2.2.2.2.2.2.2.1), ((hof_9 1011 (by omega) (by omega) (by omega)).trans hMo.2.2.2.2.2.2.2.2.2.2.2.1), ((hof_9 1012 (by omega) (by omega) (by omega)).trans hMo.2.2.2.2.2.2.2.2.2.2.2.2.1), ((hof_9 1013 (by omega) (by omega) (by omega)).trans hMo.2.2.2.2.2.2.2.2.2.2.2.2.2.1), ((hof_9 1014 (by omega) (by omega) (by omega)).trans hMo.2.2.2.2.2.2.2.2.2.2.2.2.2.2.1), ((hof_9 1015 (by omega) (by omega) (by omega)).trans hMo.2.2.2.2.2.2.2.2.2.2.2.2.2.2.2.1), ((hof_9 1016 (by omega) (by omega) (by omega)).trans hMo.2.2.2.2.2.2.2.2.2.2.2.2.2.2.2.2)⟩⟩⟩)⟩⟩, by show rm_W D ad _ _ t.heap; rw [ht]; exact hW⟩, hS.F ht⟩) hS.2.2 dX6_part_70
          · skip
            refine lv_iload_n hx hb dX6_part_59 rfl (lv_at hl 0 rfl) ?_
            refine rm_i2l hx hb dX6_part_60 ⟨by omega, by omega⟩ ?_
            refine lv_goto (tgt := 70) hx hb dX6_part_61 (by decide) ?_
            exact W.lret hx hb hr (fun t ht hw => ⟨⟨_, ((((cnd (dvs (yn y9) (yM y9)) ((yn y9) - 1)) : Nat) : Int), ct_9), rfl, ⟨rfl, ⟨(fun q hq9 => hof_9 q (by omega) (by omega) (by omega)), Or.inr (Or.inr ⟨y9, rfl, hy9, hww, Or.inl ⟨by omega, rfl⟩, ⟨A3, pt3, ro, ke, kt, mu, sl, tw, bw, de, ⟨hm0_9, ((hof_9 1001 (by omega) (by omega) (by omega)).trans hMo.2.1), ((hof_9 1002 (by omega) (by omega) (by omega)).trans hMo.2.2.1), ((hof_9 1003 (by omega) (by omega) (by omega)).trans hMo.2.2.2.1), ((hof_9 1004 (by omega) (by omega) (by omega)).trans hMo.2.2.2.2.1), ((hof_9 1005 (by omega) (by omega) (by omega)).trans hMo.2.2.2.2.2.1), ((hof_9 1006 (by omega) (by omega) (by omega)).trans hMo.2.2.2.2.2.2.1), hm1_9, hm2_9, ((hof_9 1009 (by omega) (by omega) (by omega)).trans hMo.2.2.2.2.2.2.2.2.2.1), ((hof_9 1010 (by omega) (by omega) (by omega)).trans hMo.2.2.2.2.2.2.2.2.2.2.1), ((hof_9 1011 (by omega) (by omega) (by omega)).trans hMo.2.2.2.2.2.2.2.2.2.2.2.1), ((hof_9 1012 (by omega) (by omega) (by omega)).trans hMo.2.2.2.2.2.2.2.2.2.2.2.2.1), ((hof_9 1013 (by omega) (by omega) (by omega)).trans hMo.2.2.2.2.2.2.2.2.2.2.2.2.2.1), ((hof_9 1014 (by omega) (by omega) (by omega)).trans hMo.2.2.2.2.2.2.2.2.2.2.2.2.2.2.1), ((hof_9 1015 (by omega) (by omega) (by omega)).trans hMo.2.2.2.2.2.2.2.2.2.2.2.2.2.2.2.1), ((hof_9 1016 (by omega) (by omega) (by omega)).trans hMo.2.2.2.2.2.2.2.2.2.2.2.2.2.2.2.2)⟩⟩⟩)⟩⟩, by show rm_W D ad _ _ t.heap; rw [ht]; exact hW⟩, hS.F ht⟩) hS.2.2 dX6_part_70
    · skip
      rw [if_neg hww] at hz
      subst hz
      refine lv_iconst (v := jI 2) hx hb dX6_part_14 rfl ?_
      refine rm_calli (va_runV (As := [.int (jI 0), .int (jI 2)]) (rest := []) ⟨hx, hb, hml, hown, hts⟩ (c_X6_right l D ty ad ct_1 H.size 0 yc hc yn yM yu hy hg hf mA pt ro ke kt mu sl tw bw de ⟨hm0_1, ((hof_1 1001 (by omega) (by omega) (by omega)).trans hMo.2.1), ((hof_1 1002 (by omega) (by omega) (by omega)).trans hMo.2.2.1), ((hof_1 1003 (by omega) (by omega) (by omega)).trans hMo.2.2.2.1), ((hof_1 1004 (by omega) (by omega) (by omega)).trans hMo.2.2.2.2.1), ((hof_1 1005 (by omega) (by omega) (by omega)).trans hMo.2.2.2.2.2.1), ((hof_1 1006 (by omega) (by omega) (by omega)).trans hMo.2.2.2.2.2.2.1), hm1_1, hm2_1, ((hof_1 1009 (by omega) (by omega) (by omega)).trans hMo.2.2.2.2.2.2.2.2.2.1), ((hof_1 1010 (by omega) (by omega) (by omega)).trans hMo.2.2.2.2.2.2.2.2.2.2.1), ((hof_1 1011 (by omega) (by omega) (by omega)).trans hMo.2.2.2.2.2.2.2.2.2.2.2.1), ((hof_1 1012 (by omega) (by omega) (by omega)).trans hMo.2.2.2.2.2.2.2.2.2.2.2.2.1), ((hof_1 1013 (by omega) (by omega) (by omega)).trans hMo.2.2.2.2.2.2.2.2.2.2.2.2.2.1), ((hof_1 1014 (by omega) (by omega) (by omega)).trans hMo.2.2.2.2.2.2.2.2.2.2.2.2.2.2.1), ((hof_1 1015 (by omega) (by omega) (by omega)).trans hMo.2.2.2.2.2.2.2.2.2.2.2.2.2.2.2.1), ((hof_1 1016 (by omega) (by omega) (by omega)).trans hMo.2.2.2.2.2.2.2.2.2.2.2.2.2.2.2.2)⟩ 0 2 r32_0 (by omega) (by omega)) (cwV 2 hts gX6_part_X6_right rfl rfl rfl (by decide +kernel) ⟨Nat.le_of_ble_eq_true rfl, Nat.le_of_ble_eq_true rfl⟩) (rm_preV hK hNw hW hm0_1 rfl) rfl rfl hl.1 rfl (lv_room (Nat.le_of_ble_eq_true rfl)) dX6_part_15 ⟨Nat.zero_le _, Nat.zero_le _⟩) hW hS hA (fun z_11 ct_11 H locs hq_11 hW hS => ?_)
      obtain ⟨t9, ht9, hz, hq1, hq2⟩ := hq_11
      rw [if_pos (by decide)] at ht9
      subst ht9
      rw [if_neg (by omega)] at hz
      subst hz
      have ho_11 : ∀ q, q ≠ 1000 → ct_11 q = ct_1 q := hq2
      have hof_11 : ∀ q, q ≠ 1000 → q ≠ 1007 → q ≠ 1008 → ct_11 q = ct q := fun q h0_11 h1_11 h2_11 => (ho_11 q h0_11).trans (hof_1 q h0_11 h1_11 h2_11)
      have hm0_11 : ct_11 1000 = some (.inr (6, [.int (jI 2), .int (jI ((yc : Nat) : Int)), .int (jI ((hc : Nat) : Int)), .ref (ad 1001), .ref (ad 1002), .ref (ad 1003), .ref (ad 1004), .ref (ad 1005), .ref (ad 1006), .ref (ad 1007), .ref (ad 1008), .ref (ad 1009), .ref (ad 1010), .ref (ad 1011), .ref (ad 1012), .ref (ad 1013), .ref (ad 1014), .ref (ad 1015), .ref (ad 1016)]) : va_E) := hq1
      have hm1_11 : ct_11 1007 = some (rl ty 49 (fl 7 mA)) := (ho_11 1007 (by omega)).trans hm1_1
      have hm2_11 : ct_11 1008 = some (rl ty 7 pt) := (ho_11 1008 (by omega)).trans hm2_1
      refine rm_if_ne (tgt := 23) hx hb ⟨by omega, by omega⟩ dX6_part_18 (by decide) (fun hq => absurd hq (by omega)) (fun _ => ?_)
      refine lv_lconst (v := jL 0) hx hb dX6_part_21 rfl ?_
      exact W.lret hx hb hr (fun t ht hw => ⟨⟨_, (0, ct_11), rfl, ⟨rfl, ⟨(fun q hq9 => hof_11 q (by omega) (by omega) (by omega)), Or.inr (Or.inl ⟨⟨y9, rfl, hy9, hww⟩, ⟨mA, pt, ro, ke, kt, mu, sl, tw, bw, de, ⟨hm0_11, ((hof_11 1001 (by omega) (by omega) (by omega)).trans hMo.2.1), ((hof_11 1002 (by omega) (by omega) (by omega)).trans hMo.2.2.1), ((hof_11 1003 (by omega) (by omega) (by omega)).trans hMo.2.2.2.1), ((hof_11 1004 (by omega) (by omega) (by omega)).trans hMo.2.2.2.2.1), ((hof_11 1005 (by omega) (by omega) (by omega)).trans hMo.2.2.2.2.2.1), ((hof_11 1006 (by omega) (by omega) (by omega)).trans hMo.2.2.2.2.2.2.1), hm1_11, hm2_11, ((hof_11 1009 (by omega) (by omega) (by omega)).trans hMo.2.2.2.2.2.2.2.2.2.1), ((hof_11 1010 (by omega) (by omega) (by omega)).trans hMo.2.2.2.2.2.2.2.2.2.2.1), ((hof_11 1011 (by omega) (by omega) (by omega)).trans hMo.2.2.2.2.2.2.2.2.2.2.2.1), ((hof_11 1012 (by omega) (by omega) (by omega)).trans hMo.2.2.2.2.2.2.2.2.2.2.2.2.1), ((hof_11 1013 (by omega) (by omega) (by omega)).trans hMo.2.2.2.2.2.2.2.2.2.2.2.2.2.1), ((hof_11 1014 (by omega) (by omega) (by omega)).trans hMo.2.2.2.2.2.2.2.2.2.2.2.2.2.2.1), ((hof_11 1015 (by omega) (by omega) (by omega)).trans hMo.2.2.2.2.2.2.2.2.2.2.2.2.2.2.2.1), ((hof_11 1016 (by omega) (by omega) (by omega)).trans hMo.2.2.2.2.2.2.2.2.2.2.2.2.2.2.2.2)⟩⟩⟩)⟩⟩, by show rm_W D ad _ _ t.heap; rw [ht]; exact hW⟩, hS.F ht⟩) hS.2.2 dX6_part_22
