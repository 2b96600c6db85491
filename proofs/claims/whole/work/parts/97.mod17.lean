section ModPic14
theorem trn_rng {n : Nat} {M : Nat → Nat → Int} (hy : yok n M) {d : Nat → Int} (hd : ∀ q, 1 ≤ q → q < n → -1000000000 ≤ d q ∧ d q ≤ 1000000000) {a : Nat} (h1 : 1 ≤ a) (ha : a < n) : ∀ i, i ≤ n - 1 → -((i : Int) * 86000000000000000) ≤ trn n M d a i ∧ trn n M d a i ≤ (i : Int) * 86000000000000000
  | 0, _ => by show _ ≤ (0 : Int) ∧ (0 : Int) ≤ _; omega
  | i + 1, hi => by
    have ih := trn_rng hy hd h1 ha i (by omega)
    have hn8 := hy.2.1
    have e : trn n M d a (i + 1) = trn n M d a i + d (i + 1) * sg (a + (i + 1)) * dt (n - 1 - 1) (fun r c => lpm n M (sk i r) (sk (a - 1) c)) := rfl
    have hs := tub_any hy (k := n - 1 - 1) (fun c => sk (a - 1) c + 1) (fun r => sk i r + 1) (fun c hc => by have := sk_le (j := a - 1) hc; omega) (fun r hr => by have := sk_le (j := i) hr; omega)
    have h6 : (21 : Int) ^ (n - 1 - 1) ≤ 85766121 := by
      have hk : n - 1 - 1 ≤ 6 := by omega
      have h7 : ∀ q, q ≤ 6 → (21 : Int) ^ q ≤ 85766121 := by decide
      exact h7 _ hk
    have hs2 : -(85766121 : Int) ≤ dt (n - 1 - 1) (fun r c => lpm n M (sk i r) (sk (a - 1) c)) ∧ dt (n - 1 - 1) (fun r c => lpm n M (sk i r) (sk (a - 1) c)) ≤ 85766121 := by
      unfold lpm; omega
    have hdi := hd (i + 1) (by omega) (by omega)
    rw [e]
    generalize dt (n - 1 - 1) (fun r c => lpm n M (sk i r) (sk (a - 1) c)) = x at hs2 ⊢
    have hx : (d (i + 1) * sg (a + (i + 1))).natAbs * x.natAbs ≤ 1000000000 * 85766121 := by
      refine Nat.mul_le_mul ?_ (by omega)
      rcases sg_one (a + (i + 1)) with h | h <;> rw [h] <;> omega
    rw [← Int.natAbs_mul] at hx
    push_cast
    omega
def odg (n : Nat) (M : Nat → Nat → Int) (d : Nat → Int) : Nat → Nat
  | 0 => (trd n M).natAbs
  | q + 1 => Nat.gcd (odg n M d q) (trn n M d (q + 1) (n - 1)).natAbs
theorem odg_le {n : Nat} {M : Nat → Nat → Int} {d : Nat → Int} (h : 0 < (trd n M).natAbs) : ∀ q, 0 < odg n M d q ∧ odg n M d q ≤ (trd n M).natAbs
  | 0 => ⟨h, Nat.le_refl _⟩
  | q + 1 => by
    have ih := odg_le (d := d) h q
    have h2 := Nat.gcd_le_left (trn n M d (q + 1) (n - 1)).natAbs ih.1
    exact ⟨Nat.gcd_pos_of_pos_left _ ih.1, Nat.le_trans h2 ih.2⟩
/-- some place's count isn't whole -/
def exm (n : Nat) (M : Nat → Nat → Int) (d : Nat → Int) : Prop := ∃ p, 1 ≤ p ∧ p < n ∧ ¬ trd n M ∣ trn n M d p (n - 1)
end ModPic14
set_option maxHeartbeats 4000000 in
set_option maxRecDepth 100000 in
theorem c_X6_turned (l : Launch) (D : va_G) (ty : Nat → ClassId) (ad : Nat → Nat) (ct : rm_C) (sz : Nat) (th : Int) (yc hc : Nat) (yn : Nat → Nat) (yM : Nat → Nat → Nat → Int) (yu : Nat → Int) (hy : Nat → Nat) (hg hf mA : Nat → Nat → Int) (pt ro ke kt mu sl tw bw de : Nat → Int) (hMo : ModAt ty ad ct th yc hc yn yM yu hy hg hf mA pt ro ke kt mu sl tw bw de) (y9 : Nat) (hy9 : y9 < 6) (hn9 : 2 ≤ yn y9 ∧ yn y9 ≤ 8) (hM9 : ∀ i j, 0 ≤ yM y9 i j ∧ yM y9 i j ≤ 3) (hyk : yok (yn y9) (yM y9)) (a9 : Nat) (ha9 : 1 ≤ a9 ∧ a9 < (yn y9)) (h9 : Nat) (hh9 : h9 < 20) (g9 : Int) (hg9 : r32 g9) (dv : Nat → Int) (hdv : (g9 = -1 ∧ ∀ q, 1 ≤ q → q < (yn y9) → dv q = hg h9 q) ∨ ∃ o9 : Nat, g9 = (o9 : Int) ∧ o9 < 20 ∧ ∀ q, 1 ≤ q → q < (yn y9) → dv q = hg h9 q - hg o9 q) : Met l yX6_turned wsX6_turned ({ frames := 4, cells := 0, slots := 0, locals := 97 }) (rm_P D ty ad ct sz [.ref (ad 1000), .int (jI ((y9 : Nat) : Int)), .int (jI ((a9 : Nat) : Int)), .int (jI ((h9 : Nat) : Int)), .int (jI g9)]) (rm_Ql D ad ct sz (fun z ct1 => ∃ A1 : Nat → Nat → Int, z = trn (yn y9) (yM y9) dv a9 ((yn y9) - 1) ∧ ct1 1007 = some (rl ty 49 (fl 7 A1)) ∧ (∀ q, q ≠ 1007 → ct1 q = ct q))) 0 0 (rm_A ad ct sz) := by
  refine Met.ofW (cc := cX6_turned) (maxL := 12) (ret := (some .long)) (by decide) rfl ?_
  intro p e s m args below meth c s₁ B hml hv
  obtain ⟨hargs, hsz, hW, hK, hNw⟩ := hv
  have hx := B.exec
  have hb := B.bytes
  have hr := B.returns
  have hts := atoms_spec (ws := wsX6_turned) B.pre
  have hown : s.vm.findClass RX6 = some m.cls := findClass_of_methodNamed B.named
  have hlocks := B.notSynchronized
  subst hsz
  have hW := hW.own (sz := s.heap.size)
  have hA : ∀ q : Nat, s.heap.size ≤ q → rm_A ad ct s.heap.size q := fun q h => Or.inr h
  have hS : va_S (rm_A ad ct s.heap.size) s.heap s.heap [] := va_S.rf
  have hent : entryFrame m args 12 = entryFrame m ([.ref (ad 1000), .int (jI ((y9 : Nat) : Int)), .int (jI ((a9 : Nat) : Int)), .int (jI ((h9 : Nat) : Int)), .int (jI g9)] : List Value).toArray 12 := by rw [hargs]
  have hl := lv_entry ([.ref (ad 1000), .int (jI ((y9 : Nat) : Int)), .int (jI ((a9 : Nat) : Int)), .int (jI ((h9 : Nat) : Int)), .int (jI g9)]) (n := 12) (Nat.le_of_ble_eq_true rfl)
  rw [hent, lg_entry_eq]
  generalize (lg_sl ([.ref (ad 1000), .int (jI ((y9 : Nat) : Int)), .int (jI ((a9 : Nat) : Int)), .int (jI ((h9 : Nat) : Int)), .int (jI g9)]) ++ List.replicate (12 - (lg_sl ([.ref (ad 1000), .int (jI ((y9 : Nat) : Int)), .int (jI ((a9 : Nat) : Int)), .int (jI ((h9 : Nat) : Int)), .int (jI g9)])).length) Slot.unset).toArray = ls at hl ⊢
  have hl : lv_has ls 12 [(0, .ref (ad 1000)), (1, .int (jI ((y9 : Nat) : Int))), (2, .int (jI ((a9 : Nat) : Int))), (3, .int (jI ((h9 : Nat) : Int))), (4, .int (jI g9))] := hl
  have hp2 : 2 ^ ((yn y9) - 1) ≤ 2 ^ 7 := Nat.pow_le_pow_right (by omega) (by omega)
  have hp1 := Nat.one_le_two_pow (n := (yn y9) - 1)
  refine lv_lconst (v := jL 0) hx hb dX6_turned_0 rfl ?_
  refine lv_lstore (lv' := [(5, .long (jL 0)), (0, .ref (ad 1000)), (1, .int (jI ((y9 : Nat) : Int))), (2, .int (jI ((a9 : Nat) : Int))), (3, .int (jI ((h9 : Nat) : Int))), (4, .int (jI g9))]) hx hb dX6_turned_1 hl (by decide) rfl (fun ls hl => ?_)
  refine lv_iconst (v := jI 1) hx hb dX6_turned_3 rfl ?_
  refine lv_istore (lv' := [(7, .int (jI 1)), (5, .long (jL 0)), (0, .ref (ad 1000)), (1, .int (jI ((y9 : Nat) : Int))), (2, .int (jI ((a9 : Nat) : Int))), (3, .int (jI ((h9 : Nat) : Int))), (4, .int (jI g9))]) hx hb dX6_turned_4 hl (by decide) rfl (fun ls hl => ?_)
  have hl : lv_has ls 12 [(7, .int (jI 1)), (5, .long (jL (trn (yn y9) (yM y9) dv a9 0))), (0, .ref (ad 1000)), (1, .int (jI ((y9 : Nat) : Int))), (2, .int (jI ((a9 : Nat) : Int))), (3, .int (jI ((h9 : Nat) : Int))), (4, .int (jI g9))] := by exact hl
  have LP : ∀ (k : Nat) (i8 : Nat) (A1 : Nat → Nat → Int) (hi8 : i8 + 1 ≤ (yn y9)), (yn y9) - i8 < k → ∀ (ctv : rm_C) (H : Heap) (locs : List Loc), (ctv 1007 = some (rl ty 49 (fl 7 A1))) → ∀ (_ : True), (∀ q, q ≠ 1007 → ctv q = ct q) → ∀ (_ : True), rm_W D ad ctv (rm_A ad ct s.heap.size) H → va_S (rm_A ad ct s.heap.size) s.heap H locs → ∀ ls : Array Slot, lv_has ls 12 [(7, .int (jI (((i8 + 1) : Nat) : Int))), (5, .long (jL (trn (yn y9) (yM y9) dv a9 i8))), (0, .ref (ad 1000)), (1, .int (jI ((y9 : Nat) : Int))), (2, .int (jI ((a9 : Nat) : Int))), (3, .int (jI ((h9 : Nat) : Int))), (4, .int (jI g9))] → W p l e (headSpec wsX6_turned ({ frames := 4, cells := 0, slots := 0, locals := 97 })).room s m args below meth c H locs 0 0 (MQ below (rm_Ql D ad ct s.heap.size (fun z ct1 => ∃ A1 : Nat → Nat → Int, z = trn (yn y9) (yM y9) dv a9 ((yn y9) - 1) ∧ ct1 1007 = some (rl ty 49 (fl 7 A1)) ∧ (∀ q, q ≠ 1007 → ct1 q = ct q))) args s 0 0 (rm_A ad ct s.heap.size)) (F0 m 6 ls []) := by
    intro k
    induction k with
    | zero => intro i8 A1 hi8 hk; exact absurd hk (Nat.not_lt_zero _)
    | succ k ih_LP =>
      intro i8 A1 hi8 hk ctv_1 H locs hv0_1 _ hofv_1 _ hW hS ls hl
      refine lv_iload hx hb dX6_turned_6 (lv_at hl 0 rfl) ?_
      refine lv_aload_n hx hb dX6_turned_8 rfl (lv_at hl 2 rfl) ?_
      refine rm_get (ci := 6) (v := .ref (ad 1001)) (C := RX6) (T := TX6) (N := 19) hx hb hts (by decide +kernel) hown hK hW ((hofv_1 1000 (by omega)).trans hMo.1) rfl 3 (by decide) (hts (.fieldLink RX6 7 "GrainYardModel" "places" "[I") (by decide +kernel)) (fun _ h9 => h9) rfl dX6_turned_9 ?_
      refine lv_iload_n hx hb dX6_turned_12 rfl (lv_at hl 3 rfl) ?_
      refine rm_iald hx hb hK hW (f := (fun y => ((yn y : Nat) : Int))) ((hofv_1 1001 (by omega)).trans hMo.2.1) y9 rfl (by omega) (by omega) dX6_turned_13 ?_
      refine rm_icmp_ge (tgt := 122) hx hb ⟨by omega, by omega⟩ ⟨by omega, by omega⟩ dX6_turned_14 (by decide) (fun hc_2 => ?_) (fun hc_2 => ?_)
      · skip
        have hke : i8 = (yn y9) - 1 := by omega
        have hl : lv_has ls 12 [(5, .long (jL (trn (yn y9) (yM y9) dv a9 i8))), (0, .ref (ad 1000)), (1, .int (jI ((y9 : Nat) : Int))), (2, .int (jI ((a9 : Nat) : Int))), (3, .int (jI ((h9 : Nat) : Int))), (4, .int (jI g9))] := lv_sub hl [1, 2, 3, 4, 5, 6] rfl
        have hl : lv_has ls 12 [(5, .long (jL (trn (yn y9) (yM y9) dv a9 ((yn y9) - 1)))), (0, .ref (ad 1000)), (1, .int (jI ((y9 : Nat) : Int))), (2, .int (jI ((a9 : Nat) : Int))), (3, .int (jI ((h9 : Nat) : Int))), (4, .int (jI g9))] := by rw [hke] at hl; exact hl
        refine lv_lload hx hb dX6_turned_122 (lv_at hl 0 rfl) ?_
        exact W.lret hx hb hr (fun t ht hw => ⟨⟨_, ((trn (yn y9) (yM y9) dv a9 ((yn y9) - 1)), ctv_1), rfl, ⟨rfl, ⟨A1, rfl, hv0_1, fun q h0 => hofv_1 q h0⟩⟩, by show rm_W D ad _ _ t.heap; rw [ht]; exact hW⟩, hS.F ht⟩) hS.2.2 dX6_turned_124
      · skip
        refine lv_aload_n hx hb dX6_turned_17 rfl (lv_at hl 2 rfl) ?_
        refine rm_get (ci := 6) (v := .ref (ad 1005)) (C := RX6) (T := TX6) (N := 19) hx hb hts (by decide +kernel) hown hK hW ((hofv_1 1000 (by omega)).trans hMo.1) rfl 7 (by decide) (hts (.fieldLink RX6 23 "GrainYardModel" "grains" "[J") (by decide +kernel)) (fun _ h9 => h9) rfl dX6_turned_18 ?_
        refine lv_bipush (v := jI 8) hx hb dX6_turned_21 (by decide) ?_
        refine lv_iload_n hx hb dX6_turned_23 rfl (lv_at hl 5 rfl) ?_
        refine rm_imul hx hb dX6_turned_24 ?_
        refine lv_iload hx hb dX6_turned_25 (lv_at hl 0 rfl) ?_
        refine rm_iadd hx hb dX6_turned_27 ?_
        refine rm_lald hx hb hK hW (f := (fl 8 hg)) ((hofv_1 1005 (by omega)).trans hMo.2.2.2.2.2.1) (8 * h9 + (i8 + 1)) (by first | rfl | (push_cast; omega)) (by omega) (by omega) dX6_turned_28 ?_
        rw [fl_at (by omega)]
        refine lv_iload hx hb dX6_turned_29 (lv_at hl 6 rfl) ?_
        refine lv_iconst (v := jI (-1)) hx hb dX6_turned_31 rfl ?_
        refine rm_icmp_ne (tgt := 39) hx hb ⟨by omega, by omega⟩ ⟨by omega, by omega⟩ dX6_turned_32 (by decide) (fun hc_3 => ?_) (fun hc_3 => ?_)
        · skip
          obtain ⟨o9, ho1, ho2, ho3⟩ : ∃ o9 : Nat, g9 = (o9 : Int) ∧ o9 < 20 ∧ ∀ q, 1 ≤ q → q < (yn y9) → dv q = hg h9 q - hg o9 q := by rcases hdv with h | h; exact absurd h.1 (by omega); exact h
          have hdq := ho3 (i8 + 1) (by omega) (by omega)
          have hl : lv_has ls 12 [(7, .int (jI (((i8 + 1) : Nat) : Int))), (5, .long (jL (trn (yn y9) (yM y9) dv a9 i8))), (0, .ref (ad 1000)), (1, .int (jI ((y9 : Nat) : Int))), (2, .int (jI ((a9 : Nat) : Int))), (3, .int (jI ((h9 : Nat) : Int))), (4, .int (jI ((o9 : Nat) : Int)))] := by rw [← ho1]; exact hl
          refine lv_aload_n hx hb dX6_turned_39 rfl (lv_at hl 2 rfl) ?_
          refine rm_get (ci := 6) (v := .ref (ad 1005)) (C := RX6) (T := TX6) (N := 19) hx hb hts (by decide +kernel) hown hK hW ((hofv_1 1000 (by omega)).trans hMo.1) rfl 7 (by decide) (hts (.fieldLink RX6 23 "GrainYardModel" "grains" "[J") (by decide +kernel)) (fun _ h9 => h9) rfl dX6_turned_40 ?_
          refine lv_bipush (v := jI 8) hx hb dX6_turned_43 (by decide) ?_
          refine lv_iload hx hb dX6_turned_45 (lv_at hl 6 rfl) ?_
          refine rm_imul hx hb dX6_turned_47 ?_
          refine lv_iload hx hb dX6_turned_48 (lv_at hl 0 rfl) ?_
          refine rm_iadd hx hb dX6_turned_50 ?_
          refine rm_lald hx hb hK hW (f := (fl 8 hg)) ((hofv_1 1005 (by omega)).trans hMo.2.2.2.2.2.1) (8 * o9 + (i8 + 1)) (by first | rfl | (push_cast; omega)) (by omega) (by omega) dX6_turned_51 ?_
          rw [fl_at (by omega)]
          refine rm_lsub hx hb dX6_turned_52 ?_
          refine lv_lstore (lv' := [(8, .long (jL ((hg h9 (i8 + 1)) - (hg o9 (i8 + 1))))), (7, .int (jI (((i8 + 1) : Nat) : Int))), (5, .long (jL (trn (yn y9) (yM y9) dv a9 i8))), (0, .ref (ad 1000)), (1, .int (jI ((y9 : Nat) : Int))), (2, .int (jI ((a9 : Nat) : Int))), (3, .int (jI ((h9 : Nat) : Int))), (4, .int (jI ((o9 : Nat) : Int)))]) hx hb dX6_turned_53 hl (by decide) rfl (fun ls hl => ?_)
          have hl : lv_has ls 12 [(8, .long (jL ((hg h9 (i8 + 1)) - (hg o9 (i8 + 1))))), (7, .int (jI (((i8 + 1) : Nat) : Int))), (5, .long (jL (trn (yn y9) (yM y9) dv a9 i8))), (0, .ref (ad 1000)), (1, .int (jI ((y9 : Nat) : Int))), (2, .int (jI ((a9 : Nat) : Int))), (3, .int (jI ((h9 : Nat) : Int))), (4, .int (jI g9))] := by rw [ho1]; exact hl
          have hl : lv_has ls 12 [(8, .long (jL (dv (i8 + 1)))), (7, .int (jI (((i8 + 1) : Nat) : Int))), (5, .long (jL (trn (yn y9) (yM y9) dv a9 i8))), (0, .ref (ad 1000)), (1, .int (jI ((y9 : Nat) : Int))), (2, .int (jI ((a9 : Nat) : Int))), (3, .int (jI ((h9 : Nat) : Int))), (4, .int (jI g9))] := by rw [hdq]; exact hl
          refine lv_iload_n hx hb dX6_turned_55 rfl (lv_at hl 5 rfl) ?_
          refine lv_iload hx hb dX6_turned_56 (lv_at hl 1 rfl) ?_
          refine rm_iadd hx hb dX6_turned_58 ?_
          refine lv_iconst (v := jI 2) hx hb dX6_turned_59 rfl ?_
          refine rm_irem hx hb dX6_turned_60 ⟨by omega, by omega⟩ ⟨by omega, by omega⟩ (by omega) ?_
          rw [show Int.tmod (((a9 : Nat) : Int) + (((i8 + 1) : Nat) : Int)) 2 = (((a9 + (i8 + 1)) % 2 : Nat) : Int) by rw [← Int.natCast_add]; exact (Int.ofNat_tmod _ 2).symm]
          refine rm_if_ne (tgt := 68) hx hb ⟨by omega, by omega⟩ dX6_turned_61 (by decide) (fun hc_4 => ?_) (fun hc_4 => ?_)
          · skip
            have hsg : sg (a9 + (i8 + 1)) = (-1) := if_neg (by omega)
            refine rm_ldc2 (z := (-1)) hx hb hown (hts (.constantLong RX6 172 (-1)) (by decide +kernel)) (by decide) dX6_turned_68 ?_
            refine lv_lstore (lv' := [(10, .long (jL (-1))), (8, .long (jL (dv (i8 + 1)))), (7, .int (jI (((i8 + 1) : Nat) : Int))), (5, .long (jL (trn (yn y9) (yM y9) dv a9 i8))), (0, .ref (ad 1000)), (1, .int (jI ((y9 : Nat) : Int))), (2, .int (jI ((a9 : Nat) : Int))), (3, .int (jI ((h9 : Nat) : Int))), (4, .int (jI g9))]) hx hb dX6_turned_71 hl (by decide) rfl (fun ls hl => ?_)
            have hl : lv_has ls 12 [(10, .long (jL (sg (a9 + (i8 + 1))))), (8, .long (jL (dv (i8 + 1)))), (7, .int (jI (((i8 + 1) : Nat) : Int))), (5, .long (jL (trn (yn y9) (yM y9) dv a9 i8))), (0, .ref (ad 1000)), (1, .int (jI ((y9 : Nat) : Int))), (2, .int (jI ((a9 : Nat) : Int))), (3, .int (jI ((h9 : Nat) : Int))), (4, .int (jI g9))] := by rw [hsg]; exact hl
            have hpi : 1 ≤ 2 ^ i8 ∧ 2 ^ i8 < 2 ^ 7 := ⟨Nat.one_le_two_pow, Nat.pow_lt_pow_right (by omega) (show i8 < 7 by omega)⟩
            have hpa : 1 ≤ 2 ^ (a9 - 1) ∧ 2 ^ (a9 - 1) < 2 ^ 7 := ⟨Nat.one_le_two_pow, Nat.pow_lt_pow_right (by omega) (show a9 - 1 < 7 by omega)⟩
            refine lv_lload hx hb dX6_turned_73 (lv_at hl 3 rfl) ?_
            refine lv_lload hx hb dX6_turned_75 (lv_at hl 1 rfl) ?_
            refine lv_lload hx hb dX6_turned_77 (lv_at hl 0 rfl) ?_
            refine rm_lmul hx hb dX6_turned_79 ?_
            refine lv_aload_n hx hb dX6_turned_80 rfl (lv_at hl 4 rfl) ?_
            refine lv_iload_n hx hb dX6_turned_81 rfl (lv_at hl 5 rfl) ?_
            refine lv_aload_n hx hb dX6_turned_82 rfl (lv_at hl 4 rfl) ?_
            refine lv_iload_n hx hb dX6_turned_83 rfl (lv_at hl 5 rfl) ?_
            refine rm_calli (va_runV (As := [.int (jI ((y9 : Nat) : Int))]) (rest := [.int (jI ((y9 : Nat) : Int)), .ref (ad 1000), .long (jL ((dv (i8 + 1)) * (sg (a9 + (i8 + 1))))), .long (jL (trn (yn y9) (yM y9) dv a9 i8))]) ⟨hx, hb, hml, hown, hts⟩ (c_X6_all l D ty ad ctv_1 H.size th yc hc yn yM yu hy hg hf A1 pt ro ke kt mu sl tw bw de ⟨((hofv_1 1000 (by omega)).trans hMo.1), ((hofv_1 1001 (by omega)).trans hMo.2.1), ((hofv_1 1002 (by omega)).trans hMo.2.2.1), ((hofv_1 1003 (by omega)).trans hMo.2.2.2.1), ((hofv_1 1004 (by omega)).trans hMo.2.2.2.2.1), ((hofv_1 1005 (by omega)).trans hMo.2.2.2.2.2.1), ((hofv_1 1006 (by omega)).trans hMo.2.2.2.2.2.2.1), hv0_1, ((hofv_1 1008 (by omega)).trans hMo.2.2.2.2.2.2.2.2.1), ((hofv_1 1009 (by omega)).trans hMo.2.2.2.2.2.2.2.2.2.1), ((hofv_1 1010 (by omega)).trans hMo.2.2.2.2.2.2.2.2.2.2.1), ((hofv_1 1011 (by omega)).trans hMo.2.2.2.2.2.2.2.2.2.2.2.1), ((hofv_1 1012 (by omega)).trans hMo.2.2.2.2.2.2.2.2.2.2.2.2.1), ((hofv_1 1013 (by omega)).trans hMo.2.2.2.2.2.2.2.2.2.2.2.2.2.1), ((hofv_1 1014 (by omega)).trans hMo.2.2.2.2.2.2.2.2.2.2.2.2.2.2.1), ((hofv_1 1015 (by omega)).trans hMo.2.2.2.2.2.2.2.2.2.2.2.2.2.2.2.1), ((hofv_1 1016 (by omega)).trans hMo.2.2.2.2.2.2.2.2.2.2.2.2.2.2.2.2)⟩ y9 hy9 hn9) (cwV 1 hts gX6_turned_X6_all rfl rfl rfl (by decide +kernel) ⟨Nat.le_of_ble_eq_true rfl, Nat.le_of_ble_eq_true rfl⟩) (rm_preV hK hNw hW ((hofv_1 1000 (by omega)).trans hMo.1) rfl) rfl rfl hl.1 rfl (lv_room (Nat.le_of_ble_eq_true rfl)) dX6_turned_84 ⟨Nat.zero_le _, Nat.zero_le _⟩) hW hS hA (fun z_5 ct_5 H locs hq_5 hW hS => ?_)
            obtain ⟨hz, hcc_5⟩ := hq_5
            have hcc_5 := hcc_5.symm
            subst hcc_5
            subst hz
            refine lv_iconst (v := jI 1) hx hb dX6_turned_87 rfl ?_
            refine lv_iload hx hb dX6_turned_88 (lv_at hl 2 rfl) ?_
            refine lv_iconst (v := jI 1) hx hb dX6_turned_90 rfl ?_
            refine rm_isub hx hb dX6_turned_91 ?_
            rw [show ((((i8 + 1) : Nat) : Int) - 1) = ((i8 : Nat) : Int) by omega]
            refine rm_ishl (z := (((1 * 2 ^ i8) : Nat) : Int)) hx hb dX6_turned_92 (bt_shl (by omega) (by first | omega | (rw [Nat.one_mul]; omega))) ?_
            refine lv_iconst (v := jI (-1)) hx hb dX6_turned_93 rfl ?_
            refine rm_ixor (z := (-1 - ((2 ^ i8 : Nat) : Int))) hx hb dX6_turned_94 (mk_xor i8 (by omega)) ?_
            refine rm_iand (z := ((2 ^ ((yn y9) - 1) - 1 - 2 ^ i8 : Nat) : Int)) hx hb dX6_turned_95 (mk_and ((yn y9) - 1) (by omega) i8 (by omega)) ?_
            refine lv_aload_n hx hb dX6_turned_96 rfl (lv_at hl 4 rfl) ?_
            refine lv_iload_n hx hb dX6_turned_97 rfl (lv_at hl 5 rfl) ?_
            refine rm_calli (va_runV (As := [.int (jI ((y9 : Nat) : Int))]) (rest := [.int (jI ((2 ^ ((yn y9) - 1) - 1 - 2 ^ i8 : Nat) : Int)), .int (jI ((y9 : Nat) : Int)), .ref (ad 1000), .long (jL ((dv (i8 + 1)) * (sg (a9 + (i8 + 1))))), .long (jL (trn (yn y9) (yM y9) dv a9 i8))]) ⟨hx, hb, hml, hown, hts⟩ (c_X6_all l D ty ad ctv_1 H.size th yc hc yn yM yu hy hg hf A1 pt ro ke kt mu sl tw bw de ⟨((hofv_1 1000 (by omega)).trans hMo.1), ((hofv_1 1001 (by omega)).trans hMo.2.1), ((hofv_1 1002 (by omega)).trans hMo.2.2.1), ((hofv_1 1003 (by omega)).trans hMo.2.2.2.1), ((hofv_1 1004 (by omega)).trans hMo.2.2.2.2.1), ((hofv_1 1005 (by omega)).trans hMo.2.2.2.2.2.1), ((hofv_1 1006 (by omega)).trans hMo.2.2.2.2.2.2.1), hv0_1, ((hofv_1 1008 (by omega)).trans hMo.2.2.2.2.2.2.2.2.1), ((hofv_1 1009 (by omega)).trans hMo.2.2.2.2.2.2.2.2.2.1), ((hofv_1 1010 (by omega)).trans hMo.2.2.2.2.2.2.2.2.2.2.1), ((hofv_1 1011 (by omega)).trans hMo.2.2.2.2.2.2.2.2.2.2.2.1), ((hofv_1 1012 (by omega)).trans hMo.2.2.2.2.2.2.2.2.2.2.2.2.1), ((hofv_1 1013 (by omega)).trans hMo.2.2.2.2.2.2.2.2.2.2.2.2.2.1), ((hofv_1 1014 (by omega)).trans hMo.2.2.2.2.2.2.2.2.2.2.2.2.2.2.1), ((hofv_1 1015 (by omega)).trans hMo.2.2.2.2.2.2.2.2.2.2.2.2.2.2.2.1), ((hofv_1 1016 (by omega)).trans hMo.2.2.2.2.2.2.2.2.2.2.2.2.2.2.2.2)⟩ y9 hy9 hn9) (cwV 1 hts gX6_turned_X6_all rfl rfl rfl (by decide +kernel) ⟨Nat.le_of_ble_eq_true rfl, Nat.le_of_ble_eq_true rfl⟩) (rm_preV hK hNw hW ((hofv_1 1000 (by omega)).trans hMo.1) rfl) rfl rfl hl.1 rfl (lv_room (Nat.le_of_ble_eq_true rfl)) dX6_turned_98 ⟨Nat.zero_le _, Nat.zero_le _⟩) hW hS hA (fun z_6 ct_6 H locs hq_6 hW hS => ?_)
            obtain ⟨hz, hcc_6⟩ := hq_6
            have hcc_6 := hcc_6.symm
            subst hcc_6
            subst hz
            refine lv_iconst (v := jI 1) hx hb dX6_turned_101 rfl ?_
            refine lv_iload_n hx hb dX6_turned_102 rfl (lv_at hl 6 rfl) ?_
            refine lv_iconst (v := jI 1) hx hb dX6_turned_103 rfl ?_
            refine rm_isub hx hb dX6_turned_104 ?_
            rw [show (((a9 : Nat) : Int) - 1) = (((a9 - 1) : Nat) : Int) by omega]
            refine rm_ishl (z := (((1 * 2 ^ (a9 - 1)) : Nat) : Int)) hx hb dX6_turned_105 (bt_shl (by omega) (by first | omega | (rw [Nat.one_mul]; omega))) ?_
            refine lv_iconst (v := jI (-1)) hx hb dX6_turned_106 rfl ?_
            refine rm_ixor (z := (-1 - ((2 ^ (a9 - 1) : Nat) : Int))) hx hb dX6_turned_107 (mk_xor (a9 - 1) (by omega)) ?_
            refine rm_iand (z := ((2 ^ ((yn y9) - 1) - 1 - 2 ^ (a9 - 1) : Nat) : Int)) hx hb dX6_turned_108 (mk_and ((yn y9) - 1) (by omega) (a9 - 1) (by omega)) ?_
            have hk1 := (mk_one ((yn y9) - 1) (by omega) i8 (by omega)).1
            have hk2 := (mk_one ((yn y9) - 1) (by omega) (a9 - 1) (by omega)).1
            have hmo := mnr_one (M := (yM y9)) hn9.2 (a := i8) (b := a9 - 1) (by omega) (by omega)
            refine rm_calll (va_runV (As := [.int (jI ((y9 : Nat) : Int)), .int (jI ((2 ^ ((yn y9) - 1) - 1 - 2 ^ i8 : Nat) : Int)), .int (jI ((2 ^ ((yn y9) - 1) - 1 - 2 ^ (a9 - 1) : Nat) : Int))]) (rest := [.long (jL ((dv (i8 + 1)) * (sg (a9 + (i8 + 1))))), .long (jL (trn (yn y9) (yM y9) dv a9 i8))]) ⟨hx, hb, hml, hown, hts⟩ (c_X6_minor l D ty ad ctv_1 H.size th yc hc yn yM yu hy hg hf A1 pt ro ke kt mu sl tw bw de ⟨((hofv_1 1000 (by omega)).trans hMo.1), ((hofv_1 1001 (by omega)).trans hMo.2.1), ((hofv_1 1002 (by omega)).trans hMo.2.2.1), ((hofv_1 1003 (by omega)).trans hMo.2.2.2.1), ((hofv_1 1004 (by omega)).trans hMo.2.2.2.2.1), ((hofv_1 1005 (by omega)).trans hMo.2.2.2.2.2.1), ((hofv_1 1006 (by omega)).trans hMo.2.2.2.2.2.2.1), hv0_1, ((hofv_1 1008 (by omega)).trans hMo.2.2.2.2.2.2.2.2.1), ((hofv_1 1009 (by omega)).trans hMo.2.2.2.2.2.2.2.2.2.1), ((hofv_1 1010 (by omega)).trans hMo.2.2.2.2.2.2.2.2.2.2.1), ((hofv_1 1011 (by omega)).trans hMo.2.2.2.2.2.2.2.2.2.2.2.1), ((hofv_1 1012 (by omega)).trans hMo.2.2.2.2.2.2.2.2.2.2.2.2.1), ((hofv_1 1013 (by omega)).trans hMo.2.2.2.2.2.2.2.2.2.2.2.2.2.1), ((hofv_1 1014 (by omega)).trans hMo.2.2.2.2.2.2.2.2.2.2.2.2.2.2.1), ((hofv_1 1015 (by omega)).trans hMo.2.2.2.2.2.2.2.2.2.2.2.2.2.2.2.1), ((hofv_1 1016 (by omega)).trans hMo.2.2.2.2.2.2.2.2.2.2.2.2.2.2.2.2)⟩ y9 hy9 hn9 hM9 hyk _ _ (by omega) (by omega) (hk1.trans hk2.symm)) (cwV 3 hts gX6_turned_X6_minor rfl rfl rfl (by decide +kernel) ⟨Nat.le_of_ble_eq_true rfl, Nat.le_of_ble_eq_true rfl⟩) (rm_preV hK hNw hW ((hofv_1 1000 (by omega)).trans hMo.1) rfl) rfl rfl hl.1 rfl (lv_room (Nat.le_of_ble_eq_true rfl)) dX6_turned_109 ⟨Nat.zero_le _, Nat.zero_le _⟩) hW hS hA (fun z_7 ct_7 H locs hq_7 hW hS => ?_)
            obtain ⟨A3, hz, hq1, hq2⟩ := hq_7
            rw [hmo] at hz
            subst hz
            have ho_7 : ∀ q, q ≠ 1007 → ct_7 q = ctv_1 q := hq2
            have hof_7 : ∀ q, q ≠ 1007 → ct_7 q = ct q := fun q h0_7 => (ho_7 q h0_7).trans (hofv_1 q h0_7)
            have hm0_7 : ct_7 1007 = some (rl ty 49 (fl 7 A3)) := hq1
            refine rm_lmul hx hb dX6_turned_112 ?_
            refine rm_ladd hx hb dX6_turned_113 ?_
            refine lv_lstore (lv' := [(5, .long (jL ((trn (yn y9) (yM y9) dv a9 i8) + (((dv (i8 + 1)) * (sg (a9 + (i8 + 1)))) * (dt ((yn y9) - 1 - 1) (fun r c => lpm (yn y9) (yM y9) (sk i8 r) (sk (a9 - 1) c))))))), (10, .long (jL (sg (a9 + (i8 + 1))))), (8, .long (jL (dv (i8 + 1)))), (7, .int (jI (((i8 + 1) : Nat) : Int))), (0, .ref (ad 1000)), (1, .int (jI ((y9 : Nat) : Int))), (2, .int (jI ((a9 : Nat) : Int))), (3, .int (jI ((h9 : Nat) : Int))), (4, .int (jI g9))]) hx hb dX6_turned_114 hl (by decide) rfl (fun ls hl => ?_)
            have hl : lv_has ls 12 [(5, .long (jL (trn (yn y9) (yM y9) dv a9 (i8 + 1)))), (10, .long (jL (sg (a9 + (i8 + 1))))), (8, .long (jL (dv (i8 + 1)))), (7, .int (jI (((i8 + 1) : Nat) : Int))), (0, .ref (ad 1000)), (1, .int (jI ((y9 : Nat) : Int))), (2, .int (jI ((a9 : Nat) : Int))), (3, .int (jI ((h9 : Nat) : Int))), (4, .int (jI g9))] := by exact hl
            have hl : lv_has ls 12 [(5, .long (jL (trn (yn y9) (yM y9) dv a9 (i8 + 1)))), (7, .int (jI (((i8 + 1) : Nat) : Int))), (0, .ref (ad 1000)), (1, .int (jI ((y9 : Nat) : Int))), (2, .int (jI ((a9 : Nat) : Int))), (3, .int (jI ((h9 : Nat) : Int))), (4, .int (jI g9))] := lv_sub hl [0, 3, 4, 5, 6, 7, 8] rfl
            refine lv_iinc (v := jI ((((i8 + 1) : Nat) : Int) + 1)) (lv' := [(7, .int (jI ((((i8 + 1) : Nat) : Int) + 1))), (5, .long (jL (trn (yn y9) (yM y9) dv a9 (i8 + 1)))), (0, .ref (ad 1000)), (1, .int (jI ((y9 : Nat) : Int))), (2, .int (jI ((a9 : Nat) : Int))), (3, .int (jI ((h9 : Nat) : Int))), (4, .int (jI g9))]) hx hb dX6_turned_116 hl (k := 1) rfl (jI_add _ _) (by decide) rfl (fun ls hl => ?_)
            refine lv_goto (tgt := 6) hx hb dX6_turned_119 (by decide) ?_
            exact ih_LP (i8 + 1) (A3) (by omega) (by omega) ct_7 _ _ hm0_7 trivial hof_7 trivial hW hS ls (lv_sub hl [0, 1, 2, 3, 4, 5, 6] rfl)
          · skip
            have hsg : sg (a9 + (i8 + 1)) = 1 := if_pos (by omega)
            refine lv_lconst (v := jL 1) hx hb dX6_turned_64 rfl ?_
            refine lv_goto (tgt := 71) hx hb dX6_turned_65 (by decide) ?_
            refine lv_lstore (lv' := [(10, .long (jL 1)), (8, .long (jL (dv (i8 + 1)))), (7, .int (jI (((i8 + 1) : Nat) : Int))), (5, .long (jL (trn (yn y9) (yM y9) dv a9 i8))), (0, .ref (ad 1000)), (1, .int (jI ((y9 : Nat) : Int))), (2, .int (jI ((a9 : Nat) : Int))), (3, .int (jI ((h9 : Nat) : Int))), (4, .int (jI g9))]) hx hb dX6_turned_71 hl (by decide) rfl (fun ls hl => ?_)
            have hl : lv_has ls 12 [(10, .long (jL (sg (a9 + (i8 + 1))))), (8, .long (jL (dv (i8 + 1)))), (7, .int (jI (((i8 + 1) : Nat) : Int))), (5, .long (jL (trn (yn y9) (yM y9) dv a9 i8))), (0, .ref (ad 1000)), (1, .int (jI ((y9 : Nat) : Int))), (2, .int (jI ((a9 : Nat) : Int))), (3, .int (jI ((h9 : Nat) : Int))), (4, .int (jI g9))] := by rw [hsg]; exact hl
            have hpi : 1 ≤ 2 ^ i8 ∧ 2 ^ i8 < 2 ^ 7 := ⟨Nat.one_le_two_pow, Nat.pow_lt_pow_right (by omega) (show i8 < 7 by omega)⟩
            have hpa : 1 ≤ 2 ^ (a9 - 1) ∧ 2 ^ (a9 - 1) < 2 ^ 7 := ⟨Nat.one_le_two_pow, Nat.pow_lt_pow_right (by omega) (show a9 - 1 < 7 by omega)⟩
            refine lv_lload hx hb dX6_turned_73 (lv_at hl 3 rfl) ?_
            refine lv_lload hx hb dX6_turned_75 (lv_at hl 1 rfl) ?_
            refine lv_lload hx hb dX6_turned_77 (lv_at hl 0 rfl) ?_
            refine rm_lmul hx hb dX6_turned_79 ?_
            refine lv_aload_n hx hb dX6_turned_80 rfl (lv_at hl 4 rfl) ?_
            refine lv_iload_n hx hb dX6_turned_81 rfl (lv_at hl 5 rfl) ?_
            refine lv_aload_n hx hb dX6_turned_82 rfl (lv_at hl 4 rfl) ?_
            refine lv_iload_n hx hb dX6_turned_83 rfl (lv_at hl 5 rfl) ?_
            refine rm_calli (va_runV (As := [.int (jI ((y9 : Nat) : Int))]) (rest := [.int (jI ((y9 : Nat) : Int)), .ref (ad 1000), .long (jL ((dv (i8 + 1)) * (sg (a9 + (i8 + 1))))), .long (jL (trn (yn y9) (yM y9) dv a9 i8))]) ⟨hx, hb, hml, hown, hts⟩ (c_X6_all l D ty ad ctv_1 H.size th yc hc yn yM yu hy hg hf A1 pt ro ke kt mu sl tw bw de ⟨((hofv_1 1000 (by omega)).trans hMo.1), ((hofv_1 1001 (by omega)).trans hMo.2.1), ((hofv_1 1002 (by omega)).trans hMo.2.2.1), ((hofv_1 1003 (by omega)).trans hMo.2.2.2.1), ((hofv_1 1004 (by omega)).trans hMo.2.2.2.2.1), ((hofv_1 1005 (by omega)).trans hMo.2.2.2.2.2.1), ((hofv_1 1006 (by omega)).trans hMo.2.2.2.2.2.2.1), hv0_1, ((hofv_1 1008 (by omega)).trans hMo.2.2.2.2.2.2.2.2.1), ((hofv_1 1009 (by omega)).trans hMo.2.2.2.2.2.2.2.2.2.1), ((hofv_1 1010 (by omega)).trans hMo.2.2.2.2.2.2.2.2.2.2.1), ((hofv_1 1011 (by omega)).trans hMo.2.2.2.2.2.2.2.2.2.2.2.1), ((hofv_1 1012 (by omega)).trans hMo.2.2.2.2.2.2.2.2.2.2.2.2.1), ((hofv_1 1013 (by omega)).trans hMo.2.2.2.2.2.2.2.2.2.2.2.2.2.1), ((hofv_1 1014 (by omega)).trans hMo.2.2.2.2.2.2.2.2.2.2.2.2.2.2.1), ((hofv_1 1015 (by omega)).trans hMo.2.2.2.2.2.2.2.2.2.2.2.2.2.2.2.1), ((hofv_1 1016 (by omega)).trans hMo.2.2.2.2.2.2.2.2.2.2.2.2.2.2.2.2)⟩ y9 hy9 hn9) (cwV 1 hts gX6_turned_X6_all rfl rfl rfl (by decide +kernel) ⟨Nat.le_of_ble_eq_true rfl, Nat.le_of_ble_eq_true rfl⟩) (rm_preV hK hNw hW ((hofv_1 1000 (by omega)).trans hMo.1) rfl) rfl rfl hl.1 rfl (lv_room (Nat.le_of_ble_eq_true rfl)) dX6_turned_84 ⟨Nat.zero_le _, Nat.zero_le _⟩) hW hS hA (fun z_8 ct_8 H locs hq_8 hW hS => ?_)
            obtain ⟨hz, hcc_8⟩ := hq_8
            have hcc_8 := hcc_8.symm
            subst hcc_8
            subst hz
            refine lv_iconst (v := jI 1) hx hb dX6_turned_87 rfl ?_
            refine lv_iload hx hb dX6_turned_88 (lv_at hl 2 rfl) ?_
            refine lv_iconst (v := jI 1) hx hb dX6_turned_90 rfl ?_
            refine rm_isub hx hb dX6_turned_91 ?_
            rw [show ((((i8 + 1) : Nat) : Int) - 1) = ((i8 : Nat) : Int) by omega]
            refine rm_ishl (z := (((1 * 2 ^ i8) : Nat) : Int)) hx hb dX6_turned_92 (bt_shl (by omega) (by first | omega | (rw [Nat.one_mul]; omega))) ?_
            refine lv_iconst (v := jI (-1)) hx hb dX6_turned_93 rfl ?_
            refine rm_ixor (z := (-1 - ((2 ^ i8 : Nat) : Int))) hx hb dX6_turned_94 (mk_xor i8 (by omega)) ?_
            refine rm_iand (z := ((2 ^ ((yn y9) - 1) - 1 - 2 ^ i8 : Nat) : Int)) hx hb dX6_turned_95 (mk_and ((yn y9) - 1) (by omega) i8 (by omega)) ?_
            refine lv_aload_n hx hb dX6_turned_96 rfl (lv_at hl 4 rfl) ?_
            refine lv_iload_n hx hb dX6_turned_97 rfl (lv_at hl 5 rfl) ?_
            refine rm_calli (va_runV (As := [.int (jI ((y9 : Nat) : Int))]) (rest := [.int (jI ((2 ^ ((yn y9) - 1) - 1 - 2 ^ i8 : Nat) : Int)), .int (jI ((y9 : Nat) : Int)), .ref (ad 1000), .long (jL ((dv (i8 + 1)) * (sg (a9 + (i8 + 1))))), .long (jL (trn (yn y9) (yM y9) dv a9 i8))]) ⟨hx, hb, hml, hown, hts⟩ (c_X6_all l D ty ad ctv_1 H.size th yc hc yn yM yu hy hg hf A1 pt ro ke kt mu sl tw bw de ⟨((hofv_1 1000 (by omega)).trans hMo.1), ((hofv_1 1001 (by omega)).trans hMo.2.1), ((hofv_1 1002 (by omega)).trans hMo.2.2.1), ((hofv_1 1003 (by omega)).trans hMo.2.2.2.1), ((hofv_1 1004 (by omega)).trans hMo.2.2.2.2.1), ((hofv_1 1005 (by omega)).trans hMo.2.2.2.2.2.1), ((hofv_1 1006 (by omega)).trans hMo.2.2.2.2.2.2.1), hv0_1, ((hofv_1 1008 (by omega)).trans hMo.2.2.2.2.2.2.2.2.1), ((hofv_1 1009 (by omega)).trans hMo.2.2.2.2.2.2.2.2.2.1), ((hofv_1 1010 (by omega)).trans hMo.2.2.2.2.2.2.2.2.2.2.1), ((hofv_1 1011 (by omega)).trans hMo.2.2.2.2.2.2.2.2.2.2.2.1), ((hofv_1 1012 (by omega)).trans hMo.2.2.2.2.2.2.2.2.2.2.2.2.1), ((hofv_1 1013 (by omega)).trans hMo.2.2.2.2.2.2.2.2.2.2.2.2.2.1), ((hofv_1 1014 (by omega)).trans hMo.2.2.2.2.2.2.2.2.2.2.2.2.2.2.1), ((hofv_1 1015 (by omega)).trans hMo.2.2.2.2.2.2.2.2.2.2.2.2.2.2.2.1), ((hofv_1 1016 (by omega)).trans hMo.2.2.2.2.2.2.2.2.2.2.2.2.2.2.2.2)⟩ y9 hy9 hn9) (cwV 1 hts gX6_turned_X6_all rfl rfl rfl (by decide +kernel) ⟨Nat.le_of_ble_eq_true rfl, Nat.le_of_ble_eq_true rfl⟩) (rm_preV hK hNw hW ((hofv_1 1000 (by omega)).trans hMo.1) rfl) rfl rfl hl.1 rfl (lv_room (Nat.le_of_ble_eq_true rfl)) dX6_turned_98 ⟨Nat.zero_le _, Nat.zero_le _⟩) hW hS hA (fun z_9 ct_9 H locs hq_9 hW hS => ?_)
            obtain ⟨hz, hcc_9⟩ := hq_9
            have hcc_9 := hcc_9.symm
            subst hcc_9
            subst hz
            refine lv_iconst (v := jI 1) hx hb dX6_turned_101 rfl ?_
            refine lv_iload_n hx hb dX6_turned_102 rfl (lv_at hl 6 rfl) ?_
            refine lv_iconst (v := jI 1) hx hb dX6_turned_103 rfl ?_
            refine rm_isub hx hb dX6_turned_104 ?_
            rw [show (((a9 : Nat) : Int) - 1) = (((a9 - 1) : Nat) : Int) by omega]
            refine rm_ishl (z := (((1 * 2 ^ (a9 - 1)) : Nat) : Int)) hx hb dX6_turned_105 (bt_shl (by omega) (by first | omega | (rw [Nat.one_mul]; omega))) ?_
            refine lv_iconst (v := jI (-1)) hx hb dX6_turned_106 rfl ?_
            refine rm_ixor (z := (-1 - ((2 ^ (a9 - 1) : Nat) : Int))) hx hb dX6_turned_107 (mk_xor (a9 - 1) (by omega)) ?_
            refine rm_iand (z := ((2 ^ ((yn y9) - 1) - 1 - 2 ^ (a9 - 1) : Nat) : Int)) hx hb dX6_turned_108 (mk_and ((yn y9) - 1) (by omega) (a9 - 1) (by omega)) ?_
            have hk1 := (mk_one ((yn y9) - 1) (by omega) i8 (by omega)).1
            have hk2 := (mk_one ((yn y9) - 1) (by omega) (a9 - 1) (by omega)).1
            have hmo := mnr_one (M := (yM y9)) hn9.2 (a := i8) (b := a9 - 1) (by omega) (by omega)
            refine rm_calll (va_runV (As := [.int (jI ((y9 : Nat) : Int)), .int (jI ((2 ^ ((yn y9) - 1) - 1 - 2 ^ i8 : Nat) : Int)), .int (jI ((2 ^ ((yn y9) - 1) - 1 - 2 ^ (a9 - 1) : Nat) : Int))]) (rest := [.long (jL ((dv (i8 + 1)) * (sg (a9 + (i8 + 1))))), .long (jL (trn (yn y9) (yM y9) dv a9 i8))]) ⟨hx, hb, hml, hown, hts⟩ (c_X6_minor l D ty ad ctv_1 H.size th yc hc yn yM yu hy hg hf A1 pt ro ke kt mu sl tw bw de ⟨((hofv_1 1000 (by omega)).trans hMo.1), ((hofv_1 1001 (by omega)).trans hMo.2.1), ((hofv_1 1002 (by omega)).trans hMo.2.2.1), ((hofv_1 1003 (by omega)).trans hMo.2.2.2.1), ((hofv_1 1004 (by omega)).trans hMo.2.2.2.2.1), ((hofv_1 1005 (by omega)).trans hMo.2.2.2.2.2.1), ((hofv_1 1006 (by omega)).trans hMo.2.2.2.2.2.2.1), hv0_1, ((hofv_1 1008 (by omega)).trans hMo.2.2.2.2.2.2.2.2.1), ((hofv_1 1009 (by omega)).trans hMo.2.2.2.2.2.2.2.2.2.1), ((hofv_1 1010 (by omega)).trans hMo.2.2.2.2.2.2.2.2.2.2.1), ((hofv_1 1011 (by omega)).trans hMo.2.2.2.2.2.2.2.2.2.2.2.1), ((hofv_1 1012 (by omega)).trans hMo.2.2.2.2.2.2.2.2.2.2.2.2.1), ((hofv_1 1013 (by omega)).trans hMo.2.2.2.2.2.2.2.2.2.2.2.2.2.1), ((hofv_1 1014 (by omega)).trans hMo.2.2.2.2.2.2.2.2.2.2.2.2.2.2.1), ((hofv_1 1015 (by omega)).trans hMo.2.2.2.2.2.2.2.2.2.2.2.2.2.2.2.1), ((hofv_1 1016 (by omega)).trans hMo.2.2.2.2.2.2.2.2.2.2.2.2.2.2.2.2)⟩ y9 hy9 hn9 hM9 hyk _ _ (by omega) (by omega) (hk1.trans hk2.symm)) (cwV 3 hts gX6_turned_X6_minor rfl rfl rfl (by decide +kernel) ⟨Nat.le_of_ble_eq_true rfl, Nat.le_of_ble_eq_true rfl⟩) (rm_preV hK hNw hW ((hofv_1 1000 (by omega)).trans hMo.1) rfl) rfl rfl hl.1 rfl (lv_room (Nat.le_of_ble_eq_true rfl)) dX6_turned_109 ⟨Nat.zero_le _, Nat.zero_le _⟩) hW hS hA (fun z_10 ct_10 H locs hq_10 hW hS => ?_)
            obtain ⟨A3, hz, hq1, hq2⟩ := hq_10
            rw [hmo] at hz
            subst hz
            have ho_10 : ∀ q, q ≠ 1007 → ct_10 q = ctv_1 q := hq2
            have hof_10 : ∀ q, q ≠ 1007 → ct_10 q = ct q := fun q h0_10 => (ho_10 q h0_10).trans (hofv_1 q h0_10)
            have hm0_10 : ct_10 1007 = some (rl ty 49 (fl 7 A3)) := hq1
            refine rm_lmul hx hb dX6_turned_112 ?_
            refine rm_ladd hx hb dX6_turned_113 ?_
            refine lv_lstore (lv' := [(5, .long (jL ((trn (yn y9) (yM y9) dv a9 i8) + (((dv (i8 + 1)) * (sg (a9 + (i8 + 1)))) * (dt ((yn y9) - 1 - 1) (fun r c => lpm (yn y9) (yM y9) (sk i8 r) (sk (a9 - 1) c))))))), (10, .long (jL (sg (a9 + (i8 + 1))))), (8, .long (jL (dv (i8 + 1)))), (7, .int (jI (((i8 + 1) : Nat) : Int))), (0, .ref (ad 1000)), (1, .int (jI ((y9 : Nat) : Int))), (2, .int (jI ((a9 : Nat) : Int))), (3, .int (jI ((h9 : Nat) : Int))), (4, .int (jI g9))]) hx hb dX6_turned_114 hl (by decide) rfl (fun ls hl => ?_)
            have hl : lv_has ls 12 [(5, .long (jL (trn (yn y9) (yM y9) dv a9 (i8 + 1)))), (10, .long (jL (sg (a9 + (i8 + 1))))), (8, .long (jL (dv (i8 + 1)))), (7, .int (jI (((i8 + 1) : Nat) : Int))), (0, .ref (ad 1000)), (1, .int (jI ((y9 : Nat) : Int))), (2, .int (jI ((a9 : Nat) : Int))), (3, .int (jI ((h9 : Nat) : Int))), (4, .int (jI g9))] := by exact hl
            have hl : lv_has ls 12 [(5, .long (jL (trn (yn y9) (yM y9) dv a9 (i8 + 1)))), (7, .int (jI (((i8 + 1) : Nat) : Int))), (0, .ref (ad 1000)), (1, .int (jI ((y9 : Nat) : Int))), (2, .int (jI ((a9 : Nat) : Int))), (3, .int (jI ((h9 : Nat) : Int))), (4, .int (jI g9))] := lv_sub hl [0, 3, 4, 5, 6, 7, 8] rfl
            refine lv_iinc (v := jI ((((i8 + 1) : Nat) : Int) + 1)) (lv' := [(7, .int (jI ((((i8 + 1) : Nat) : Int) + 1))), (5, .long (jL (trn (yn y9) (yM y9) dv a9 (i8 + 1)))), (0, .ref (ad 1000)), (1, .int (jI ((y9 : Nat) : Int))), (2, .int (jI ((a9 : Nat) : Int))), (3, .int (jI ((h9 : Nat) : Int))), (4, .int (jI g9))]) hx hb dX6_turned_116 hl (k := 1) rfl (jI_add _ _) (by decide) rfl (fun ls hl => ?_)
            refine lv_goto (tgt := 6) hx hb dX6_turned_119 (by decide) ?_
            exact ih_LP (i8 + 1) (A3) (by omega) (by omega) ct_10 _ _ hm0_10 trivial hof_10 trivial hW hS ls (lv_sub hl [0, 1, 2, 3, 4, 5, 6] rfl)
        · skip
          have hdq : dv (i8 + 1) = hg h9 (i8 + 1) := by rcases hdv with h | ⟨o9, h, -⟩; exact h.2 _ (by omega) (by omega); omega
          refine lv_lconst (v := jL 0) hx hb dX6_turned_35 rfl ?_
          refine lv_goto (tgt := 52) hx hb dX6_turned_36 (by decide) ?_
          refine rm_lsub hx hb dX6_turned_52 ?_
          refine lv_lstore (lv' := [(8, .long (jL ((hg h9 (i8 + 1)) - 0))), (7, .int (jI (((i8 + 1) : Nat) : Int))), (5, .long (jL (trn (yn y9) (yM y9) dv a9 i8))), (0, .ref (ad 1000)), (1, .int (jI ((y9 : Nat) : Int))), (2, .int (jI ((a9 : Nat) : Int))), (3, .int (jI ((h9 : Nat) : Int))), (4, .int (jI g9))]) hx hb dX6_turned_53 hl (by decide) rfl (fun ls hl => ?_)
          have hl : lv_has ls 12 [(8, .long (jL (dv (i8 + 1)))), (7, .int (jI (((i8 + 1) : Nat) : Int))), (5, .long (jL (trn (yn y9) (yM y9) dv a9 i8))), (0, .ref (ad 1000)), (1, .int (jI ((y9 : Nat) : Int))), (2, .int (jI ((a9 : Nat) : Int))), (3, .int (jI ((h9 : Nat) : Int))), (4, .int (jI g9))] := by rw [hdq]; rw [Int.sub_zero] at hl; exact hl
          refine lv_iload_n hx hb dX6_turned_55 rfl (lv_at hl 5 rfl) ?_
          refine lv_iload hx hb dX6_turned_56 (lv_at hl 1 rfl) ?_
          refine rm_iadd hx hb dX6_turned_58 ?_
          refine lv_iconst (v := jI 2) hx hb dX6_turned_59 rfl ?_
          refine rm_irem hx hb dX6_turned_60 ⟨by omega, by omega⟩ ⟨by omega, by omega⟩ (by omega) ?_
          rw [show Int.tmod (((a9 : Nat) : Int) + (((i8 + 1) : Nat) : Int)) 2 = (((a9 + (i8 + 1)) % 2 : Nat) : Int) by rw [← Int.natCast_add]; exact (Int.ofNat_tmod _ 2).symm]
          refine rm_if_ne (tgt := 68) hx hb ⟨by omega, by omega⟩ dX6_turned_61 (by decide) (fun hc_11 => ?_) (fun hc_11 => ?_)
          · skip
            have hsg : sg (a9 + (i8 + 1)) = (-1) := if_neg (by omega)
            refine rm_ldc2 (z := (-1)) hx hb hown (hts (.constantLong RX6 172 (-1)) (by decide +kernel)) (by decide) dX6_turned_68 ?_
            refine lv_lstore (lv' := [(10, .long (jL (-1))), (8, .long (jL (dv (i8 + 1)))), (7, .int (jI (((i8 + 1) : Nat) : Int))), (5, .long (jL (trn (yn y9) (yM y9) dv a9 i8))), (0, .ref (ad 1000)), (1, .int (jI ((y9 : Nat) : Int))), (2, .int (jI ((a9 : Nat) : Int))), (3, .int (jI ((h9 : Nat) : Int))), (4, .int (jI g9))]) hx hb dX6_turned_71 hl (by decide) rfl (fun ls hl => ?_)
            have hl : lv_has ls 12 [(10, .long (jL (sg (a9 + (i8 + 1))))), (8, .long (jL (dv (i8 + 1)))), (7, .int (jI (((i8 + 1) : Nat) : Int))), (5, .long (jL (trn (yn y9) (yM y9) dv a9 i8))), (0, .ref (ad 1000)), (1, .int (jI ((y9 : Nat) : Int))), (2, .int (jI ((a9 : Nat) : Int))), (3, .int (jI ((h9 : Nat) : Int))), (4, .int (jI g9))] := by rw [hsg]; exact hl
            have hpi : 1 ≤ 2 ^ i8 ∧ 2 ^ i8 < 2 ^ 7 := ⟨Nat.one_le_two_pow, Nat.pow_lt_pow_right (by omega) (show i8 < 7 by omega)⟩
            have hpa : 1 ≤ 2 ^ (a9 - 1) ∧ 2 ^ (a9 - 1) < 2 ^ 7 := ⟨Nat.one_le_two_pow, Nat.pow_lt_pow_right (by omega) (show a9 - 1 < 7 by omega)⟩
            refine lv_lload hx hb dX6_turned_73 (lv_at hl 3 rfl) ?_
            refine lv_lload hx hb dX6_turned_75 (lv_at hl 1 rfl) ?_
            refine lv_lload hx hb dX6_turned_77 (lv_at hl 0 rfl) ?_
            refine rm_lmul hx hb dX6_turned_79 ?_
            refine lv_aload_n hx hb dX6_turned_80 rfl (lv_at hl 4 rfl) ?_
            refine lv_iload_n hx hb dX6_turned_81 rfl (lv_at hl 5 rfl) ?_
            refine lv_aload_n hx hb dX6_turned_82 rfl (lv_at hl 4 rfl) ?_
            refine lv_iload_n hx hb dX6_turned_83 rfl (lv_at hl 5 rfl) ?_
            refine rm_calli (va_runV (As := [.int (jI ((y9 : Nat) : Int))]) (rest := [.int (jI ((y9 : Nat) : Int)), .ref (ad 1000), .long (jL ((dv (i8 + 1)) * (sg (a9 + (i8 + 1))))), .long (jL (trn (yn y9) (yM y9) dv a9 i8))]) ⟨hx, hb, hml, hown, hts⟩ (c_X6_all l D ty ad ctv_1 H.size th yc hc yn yM yu hy hg hf A1 pt ro ke kt mu sl tw bw de ⟨((hofv_1 1000 (by omega)).trans hMo.1), ((hofv_1 1001 (by omega)).trans hMo.2.1), ((hofv_1 1002 (by omega)).trans hMo.2.2.1), ((hofv_1 1003 (by omega)).trans hMo.2.2.2.1), ((hofv_1 1004 (by omega)).trans hMo.2.2.2.2.1), ((hofv_1 1005 (by omega)).trans hMo.2.2.2.2.2.1), ((hofv_1 1006 (by omega)).trans hMo.2.2.2.2.2.2.1), hv0_1, ((hofv_1 1008 (by omega)).trans hMo.2.2.2.2.2.2.2.2.1), ((hofv_1 1009 (by omega)).trans hMo.2.2.2.2.2.2.2.2.2.1), ((hofv_1 1010 (by omega)).trans hMo.2.2.2.2.2.2.2.2.2.2.1), ((hofv_1 1011 (by omega)).trans hMo.2.2.2.2.2.2.2.2.2.2.2.1), ((hofv_1 1012 (by omega)).trans hMo.2.2.2.2.2.2.2.2.2.2.2.2.1), ((hofv_1 1013 (by omega)).trans hMo.2.2.2.2.2.2.2.2.2.2.2.2.2.1), ((hofv_1 1014 (by omega)).trans hMo.2.2.2.2.2.2.2.2.2.2.2.2.2.2.1), ((hofv_1 1015 (by omega)).trans hMo.2.2.2.2.2.2.2.2.2.2.2.2.2.2.2.1), ((hofv_1 1016 (by omega)).trans hMo.2.2.2.2.2.2.2.2.2.2.2.2.2.2.2.2)⟩ y9 hy9 hn9) (cwV 1 hts gX6_turned_X6_all rfl rfl rfl (by decide +kernel) ⟨Nat.le_of_ble_eq_true rfl, Nat.le_of_ble_eq_true rfl⟩) (rm_preV hK hNw hW ((hofv_1 1000 (by omega)).trans hMo.1) rfl) rfl rfl hl.1 rfl (lv_room (Nat.le_of_ble_eq_true rfl)) dX6_turned_84 ⟨Nat.zero_le _, Nat.zero_le _⟩) hW hS hA (fun z_12 ct_12 H locs hq_12 hW hS => ?_)
            obtain ⟨hz, hcc_12⟩ := hq_12
            have hcc_12 := hcc_12.symm
            subst hcc_12
            subst hz
            refine lv_iconst (v := jI 1) hx hb dX6_turned_87 rfl ?_
            refine lv_iload hx hb dX6_turned_88 (lv_at hl 2 rfl) ?_
            refine lv_iconst (v := jI 1) hx hb dX6_turned_90 rfl ?_
            refine rm_isub hx hb dX6_turned_91 ?_
            rw [show ((((i8 + 1) : Nat) : Int) - 1) = ((i8 : Nat) : Int) by omega]
            refine rm_ishl (z := (((1 * 2 ^ i8) : Nat) : Int)) hx hb dX6_turned_92 (bt_shl (by omega) (by first | omega | (rw [Nat.one_mul]; omega))) ?_
            refine lv_iconst (v := jI (-1)) hx hb dX6_turned_93 rfl ?_
            refine rm_ixor (z := (-1 - ((2 ^ i8 : Nat) : Int))) hx hb dX6_turned_94 (mk_xor i8 (by omega)) ?_
            refine rm_iand (z := ((2 ^ ((yn y9) - 1) - 1 - 2 ^ i8 : Nat) : Int)) hx hb dX6_turned_95 (mk_and ((yn y9) - 1) (by omega) i8 (by omega)) ?_
            refine lv_aload_n hx hb dX6_turned_96 rfl (lv_at hl 4 rfl) ?_
            refine lv_iload_n hx hb dX6_turned_97 rfl (lv_at hl 5 rfl) ?_
            refine rm_calli (va_runV (As := [.int (jI ((y9 : Nat) : Int))]) (rest := [.int (jI ((2 ^ ((yn y9) - 1) - 1 - 2 ^ i8 : Nat) : Int)), .int (jI ((y9 : Nat) : Int)), .ref (ad 1000), .long (jL ((dv (i8 + 1)) * (sg (a9 + (i8 + 1))))), .long (jL (trn (yn y9) (yM y9) dv a9 i8))]) ⟨hx, hb, hml, hown, hts⟩ (c_X6_all l D ty ad ctv_1 H.size th yc hc yn yM yu hy hg hf A1 pt ro ke kt mu sl tw bw de ⟨((hofv_1 1000 (by omega)).trans hMo.1), ((hofv_1 1001 (by omega)).trans hMo.2.1), ((hofv_1 1002 (by omega)).trans hMo.2.2.1), ((hofv_1 1003 (by omega)).trans hMo.2.2.2.1), ((hofv_1 1004 (by omega)).trans hMo.2.2.2.2.1), ((hofv_1 1005 (by omega)).trans hMo.2.2.2.2.2.1), ((hofv_1 1006 (by omega)).trans hMo.2.2.2.2.2.2.1), hv0_1, ((hofv_1 1008 (by omega)).trans hMo.2.2.2.2.2.2.2.2.1), ((hofv_1 1009 (by omega)).trans hMo.2.2.2.2.2.2.2.2.2.1), ((hofv_1 1010 (by omega)).trans hMo.2.2.2.2.2.2.2.2.2.2.1), ((hofv_1 1011 (by omega)).trans hMo.2.2.2.2.2.2.2.2.2.2.2.1), ((hofv_1 1012 (by omega)).trans hMo.2.2.2.2.2.2.2.2.2.2.2.2.1), ((hofv_1 1013 (by omega)).trans hMo.2.2.2.2.2.2.2.2.2.2.2.2.2.1), ((hofv_1 1014 (by omega)).trans hMo.2.2.2.2.2.2.2.2.2.2.2.2.2.2.1), ((hofv_1 1015 (by omega)).trans hMo.2.2.2.2.2.2.2.2.2.2.2.2.2.2.2.1), ((hofv_1 1016 (by omega)).trans hMo.2.2.2.2.2.2.2.2.2.2.2.2.2.2.2.2)⟩ y9 hy9 hn9) (cwV 1 hts gX6_turned_X6_all rfl rfl rfl (by decide +kernel) ⟨Nat.le_of_ble_eq_true rfl, Nat.le_of_ble_eq_true rfl⟩) (rm_preV hK hNw hW ((hofv_1 1000 (by omega)).trans hMo.1) rfl) rfl rfl hl.1 rfl (lv_room (Nat.le_of_ble_eq_true rfl)) dX6_turned_98 ⟨Nat.zero_le _, Nat.zero_le _⟩) hW hS hA (fun z_13 ct_13 H locs hq_13 hW hS => ?_)
            obtain ⟨hz, hcc_13⟩ := hq_13
            have hcc_13 := hcc_13.symm
            subst hcc_13
            subst hz
            refine lv_iconst (v := jI 1) hx hb dX6_turned_101 rfl ?_
            refine lv_iload_n hx hb dX6_turned_102 rfl (lv_at hl 6 rfl) ?_
            refine lv_iconst (v := jI 1) hx hb dX6_turned_103 rfl ?_
            refine rm_isub hx hb dX6_turned_104 ?_
            rw [show (((a9 : Nat) : Int) - 1) = (((a9 - 1) : Nat) : Int) by omega]
            refine rm_ishl (z := (((1 * 2 ^ (a9 - 1)) : Nat) : Int)) hx hb dX6_turned_105 (bt_shl (by omega) (by first | omega | (rw [Nat.one_mul]; omega))) ?_
            refine lv_iconst (v := jI (-1)) hx hb dX6_turned_106 rfl ?_
            refine rm_ixor (z := (-1 - ((2 ^ (a9 - 1) : Nat) : Int))) hx hb dX6_turned_107 (mk_xor (a9 - 1) (by omega)) ?_
            refine rm_iand (z := ((2 ^ ((yn y9) - 1) - 1 - 2 ^ (a9 - 1) : Nat) : Int)) hx hb dX6_turned_108 (mk_and ((yn y9) - 1) (by omega) (a9 - 1) (by omega)) ?_
            have hk1 := (mk_one ((yn y9) - 1) (by omega) i8 (by omega)).1
            have hk2 := (mk_one ((yn y9) - 1) (by omega) (a9 - 1) (by omega)).1
            have hmo := mnr_one (M := (yM y9)) hn9.2 (a := i8) (b := a9 - 1) (by omega) (by omega)
            refine rm_calll (va_runV (As := [.int (jI ((y9 : Nat) : Int)), .int (jI ((2 ^ ((yn y9) - 1) - 1 - 2 ^ i8 : Nat) : Int)), .int (jI ((2 ^ ((yn y9) - 1) - 1 - 2 ^ (a9 - 1) : Nat) : Int))]) (rest := [.long (jL ((dv (i8 + 1)) * (sg (a9 + (i8 + 1))))), .long (jL (trn (yn y9) (yM y9) dv a9 i8))]) ⟨hx, hb, hml, hown, hts⟩ (c_X6_minor l D ty ad ctv_1 H.size th yc hc yn yM yu hy hg hf A1 pt ro ke kt mu sl tw bw de ⟨((hofv_1 1000 (by omega)).trans hMo.1), ((hofv_1 1001 (by omega)).trans hMo.2.1), ((hofv_1 1002 (by omega)).trans hMo.2.2.1), ((hofv_1 1003 (by omega)).trans hMo.2.2.2.1), ((hofv_1 1004 (by omega)).trans hMo.2.2.2.2.1), ((hofv_1 1005 (by omega)).trans hMo.2.2.2.2.2.1), ((hofv_1 1006 (by omega)).trans hMo.2.2.2.2.2.2.1), hv0_1, ((hofv_1 1008 (by omega)).trans hMo.2.2.2.2.2.2.2.2.1), ((hofv_1 1009 (by omega)).trans hMo.2.2.2.2.2.2.2.2.2.1), ((hofv_1 1010 (by omega)).trans hMo.2.2.2.2.2.2.2.2.2.2.1), ((hofv_1 1011 (by omega)).trans hMo.2.2.2.2.2.2.2.2.2.2.2.1), ((hofv_1 1012 (by omega)).trans hMo.2.2.2.2.2.2.2.2.2.2.2.2.1), ((hofv_1 1013 (by omega)).trans hMo.2.2.2.2.2.2.2.2.2.2.2.2.2.1), ((hofv_1 1014 (by omega)).trans hMo.2.2.2.2.2.2.2.2.2.2.2.2.2.2.1), ((hofv_1 1015 (by omega)).trans hMo.2.2.2.2.2.2.2.2.2.2.2.2.2.2.2.1), ((hofv_1 1016 (by omega)).trans hMo.2.2.2.2.2.2.2.2.2.2.2.2.2.2.2.2)⟩ y9 hy9 hn9 hM9 hyk _ _ (by omega) (by omega) (hk1.trans hk2.symm)) (cwV 3 hts gX6_turned_X6_minor rfl rfl rfl (by decide +kernel) ⟨Nat.le_of_ble_eq_true rfl, Nat.le_of_ble_eq_true rfl⟩) (rm_preV hK hNw hW ((hofv_1 1000 (by omega)).trans hMo.1) rfl) rfl rfl hl.1 rfl (lv_room (Nat.le_of_ble_eq_true rfl)) dX6_turned_109 ⟨Nat.zero_le _, Nat.zero_le _⟩) hW hS hA (fun z_14 ct_14 H locs hq_14 hW hS => ?_)
            obtain ⟨A3, hz, hq1, hq2⟩ := hq_14
            rw [hmo] at hz
            subst hz
            have ho_14 : ∀ q, q ≠ 1007 → ct_14 q = ctv_1 q := hq2
            have hof_14 : ∀ q, q ≠ 1007 → ct_14 q = ct q := fun q h0_14 => (ho_14 q h0_14).trans (hofv_1 q h0_14)
            have hm0_14 : ct_14 1007 = some (rl ty 49 (fl 7 A3)) := hq1
            refine rm_lmul hx hb dX6_turned_112 ?_
            refine rm_ladd hx hb dX6_turned_113 ?_
            refine lv_lstore (lv' := [(5, .long (jL ((trn (yn y9) (yM y9) dv a9 i8) + (((dv (i8 + 1)) * (sg (a9 + (i8 + 1)))) * (dt ((yn y9) - 1 - 1) (fun r c => lpm (yn y9) (yM y9) (sk i8 r) (sk (a9 - 1) c))))))), (10, .long (jL (sg (a9 + (i8 + 1))))), (8, .long (jL (dv (i8 + 1)))), (7, .int (jI (((i8 + 1) : Nat) : Int))), (0, .ref (ad 1000)), (1, .int (jI ((y9 : Nat) : Int))), (2, .int (jI ((a9 : Nat) : Int))), (3, .int (jI ((h9 : Nat) : Int))), (4, .int (jI g9))]) hx hb dX6_turned_114 hl (by decide) rfl (fun ls hl => ?_)
            have hl : lv_has ls 12 [(5, .long (jL (trn (yn y9) (yM y9) dv a9 (i8 + 1)))), (10, .long (jL (sg (a9 + (i8 + 1))))), (8, .long (jL (dv (i8 + 1)))), (7, .int (jI (((i8 + 1) : Nat) : Int))), (0, .ref (ad 1000)), (1, .int (jI ((y9 : Nat) : Int))), (2, .int (jI ((a9 : Nat) : Int))), (3, .int (jI ((h9 : Nat) : Int))), (4, .int (jI g9))] := by exact hl
            have hl : lv_has ls 12 [(5, .long (jL (trn (yn y9) (yM y9) dv a9 (i8 + 1)))), (7, .int (jI (((i8 + 1) : Nat) : Int))), (0, .ref (ad 1000)), (1, .int (jI ((y9 : Nat) : Int))), (2, .int (jI ((a9 : Nat) : Int))), (3, .int (jI ((h9 : Nat) : Int))), (4, .int (jI g9))] := lv_sub hl [0, 3, 4, 5, 6, 7, 8] rfl
            refine lv_iinc (v := jI ((((i8 + 1) : Nat) : Int) + 1)) (lv' := [(7, .int (jI ((((i8 + 1) : Nat) : Int) + 1))), (5, .long (jL (trn (yn y9) (yM y9) dv a9 (i8 + 1)))), (0, .ref (ad 1000)), (1, .int (jI ((y9 : Nat) : Int))), (2, .int (jI ((a9 : Nat) : Int))), (3, .int (jI ((h9 : Nat) : Int))), (4, .int (jI g9))]) hx hb dX6_turned_116 hl (k := 1) rfl (jI_add _ _) (by decide) rfl (fun ls hl => ?_)
            refine lv_goto (tgt := 6) hx hb dX6_turned_119 (by decide) ?_
            exact ih_LP (i8 + 1) (A3) (by omega) (by omega) ct_14 _ _ hm0_14 trivial hof_14 trivial hW hS ls (lv_sub hl [0, 1, 2, 3, 4, 5, 6] rfl)
          · skip
            have hsg : sg (a9 + (i8 + 1)) = 1 := if_pos (by omega)
            refine lv_lconst (v := jL 1) hx hb dX6_turned_64 rfl ?_
            refine lv_goto (tgt := 71) hx hb dX6_turned_65 (by decide) ?_
            refine lv_lstore (lv' := [(10, .long (jL 1)), (8, .long (jL (dv (i8 + 1)))), (7, .int (jI (((i8 + 1) : Nat) : Int))), (5, .long (jL (trn (yn y9) (yM y9) dv a9 i8))), (0, .ref (ad 1000)), (1, .int (jI ((y9 : Nat) : Int))), (2, .int (jI ((a9 : Nat) : Int))), (3, .int (jI ((h9 : Nat) : Int))), (4, .int (jI g9))]) hx hb dX6_turned_71 hl (by decide) rfl (fun ls hl => ?_)
            have hl : lv_has ls 12 [(10, .long (jL (sg (a9 + (i8 + 1))))), (8, .long (jL (dv (i8 + 1)))), (7, .int (jI (((i8 + 1) : Nat) : Int))), (5, .long (jL (trn (yn y9) (yM y9) dv a9 i8))), (0, .ref (ad 1000)), (1, .int (jI ((y9 : Nat) : Int))), (2, .int (jI ((a9 : Nat) : Int))), (3, .int (jI ((h9 : Nat) : Int))), (4, .int (jI g9))] := by rw [hsg]; exact hl
            have hpi : 1 ≤ 2 ^ i8 ∧ 2 ^ i8 < 2 ^ 7 := ⟨Nat.one_le_two_pow, Nat.pow_lt_pow_right (by omega) (show i8 < 7 by omega)⟩
            have hpa : 1 ≤ 2 ^ (a9 - 1) ∧ 2 ^ (a9 - 1) < 2 ^ 7 := ⟨Nat.one_le_two_pow, Nat.pow_lt_pow_right (by omega) (show a9 - 1 < 7 by omega)⟩
            refine lv_lload hx hb dX6_turned_73 (lv_at hl 3 rfl) ?_
            refine lv_lload hx hb dX6_turned_75 (lv_at hl 1 rfl) ?_
            refine lv_lload hx hb dX6_turned_77 (lv_at hl 0 rfl) ?_
            refine rm_lmul hx hb dX6_turned_79 ?_
            refine lv_aload_n hx hb dX6_turned_80 rfl (lv_at hl 4 rfl) ?_
            refine lv_iload_n hx hb dX6_turned_81 rfl (lv_at hl 5 rfl) ?_
            refine lv_aload_n hx hb dX6_turned_82 rfl (lv_at hl 4 rfl) ?_
            refine lv_iload_n hx hb dX6_turned_83 rfl (lv_at hl 5 rfl) ?_
            refine rm_calli (va_runV (As := [.int (jI ((y9 : Nat) : Int))]) (rest := [.int (jI ((y9 : Nat) : Int)), .ref (ad 1000), .long (jL ((dv (i8 + 1)) * (sg (a9 + (i8 + 1))))), .long (jL (trn (yn y9) (yM y9) dv a9 i8))]) ⟨hx, hb, hml, hown, hts⟩ (c_X6_all l D ty ad ctv_1 H.size th yc hc yn yM yu hy hg hf A1 pt ro ke kt mu sl tw bw de ⟨((hofv_1 1000 (by omega)).trans hMo.1), ((hofv_1 1001 (by omega)).trans hMo.2.1), ((hofv_1 1002 (by omega)).trans hMo.2.2.1), ((hofv_1 1003 (by omega)).trans hMo.2.2.2.1), ((hofv_1 1004 (by omega)).trans hMo.2.2.2.2.1), ((hofv_1 1005 (by omega)).trans hMo.2.2.2.2.2.1), ((hofv_1 1006 (by omega)).trans hMo.2.2.2.2.2.2.1), hv0_1, ((hofv_1 1008 (by omega)).trans hMo.2.2.2.2.2.2.2.2.1), ((hofv_1 1009 (by omega)).trans hMo.2.2.2.2.2.2.2.2.2.1), ((hofv_1 1010 (by omega)).trans hMo.2.2.2.2.2.2.2.2.2.2.1), ((hofv_1 1011 (by omega)).trans hMo.2.2.2.2.2.2.2.2.2.2.2.1), ((hofv_1 1012 (by omega)).trans hMo.2.2.2.2.2.2.2.2.2.2.2.2.1), ((hofv_1 1013 (by omega)).trans hMo.2.2.2.2.2.2.2.2.2.2.2.2.2.1), ((hofv_1 1014 (by omega)).trans hMo.2.2.2.2.2.2.2.2.2.2.2.2.2.2.1), ((hofv_1 1015 (by omega)).trans hMo.2.2.2.2.2.2.2.2.2.2.2.2.2.2.2.1), ((hofv_1 1016 (by omega)).trans hMo.2.2.2.2.2.2.2.2.2.2.2.2.2.2.2.2)⟩ y9 hy9 hn9) (cwV 1 hts gX6_turned_X6_all rfl rfl rfl (by decide +kernel) ⟨Nat.le_of_ble_eq_true rfl, Nat.le_of_ble_eq_true rfl⟩) (rm_preV hK hNw hW ((hofv_1 1000 (by omega)).trans hMo.1) rfl) rfl rfl hl.1 rfl (lv_room (Nat.le_of_ble_eq_true rfl)) dX6_turned_84 ⟨Nat.zero_le _, Nat.zero_le _⟩) hW hS hA (fun z_15 ct_15 H locs hq_15 hW hS => ?_)
            obtain ⟨hz, hcc_15⟩ := hq_15
            have hcc_15 := hcc_15.symm
            subst hcc_15
            subst hz
            refine lv_iconst (v := jI 1) hx hb dX6_turned_87 rfl ?_
            refine lv_iload hx hb dX6_turned_88 (lv_at hl 2 rfl) ?_
            refine lv_iconst (v := jI 1) hx hb dX6_turned_90 rfl ?_
            refine rm_isub hx hb dX6_turned_91 ?_
            rw [show ((((i8 + 1) : Nat) : Int) - 1) = ((i8 : Nat) : Int) by omega]
            refine rm_ishl (z := (((1 * 2 ^ i8) : Nat) : Int)) hx hb dX6_turned_92 (bt_shl (by omega) (by first | omega | (rw [Nat.one_mul]; omega))) ?_
            refine lv_iconst (v := jI (-1)) hx hb dX6_turned_93 rfl ?_
            refine rm_ixor (z := (-1 - ((2 ^ i8 : Nat) : Int))) hx hb dX6_turned_94 (mk_xor i8 (by omega)) ?_
            refine rm_iand (z := ((2 ^ ((yn y9) - 1) - 1 - 2 ^ i8 : Nat) : Int)) hx hb dX6_turned_95 (mk_and ((yn y9) - 1) (by omega) i8 (by omega)) ?_
            refine lv_aload_n hx hb dX6_turned_96 rfl (lv_at hl 4 rfl) ?_
            refine lv_iload_n hx hb dX6_turned_97 rfl (lv_at hl 5 rfl) ?_
            refine rm_calli (va_runV (As := [.int (jI ((y9 : Nat) : Int))]) (rest := [.int (jI ((2 ^ ((yn y9) - 1) - 1 - 2 ^ i8 : Nat) : Int)), .int (jI ((y9 : Nat) : Int)), .ref (ad 1000), .long (jL ((dv (i8 + 1)) * (sg (a9 + (i8 + 1))))), .long (jL (trn (yn y9) (yM y9) dv a9 i8))]) ⟨hx, hb, hml, hown, hts⟩ (c_X6_all l D ty ad ctv_1 H.size th yc hc yn yM yu hy hg hf A1 pt ro ke kt mu sl tw bw de ⟨((hofv_1 1000 (by omega)).trans hMo.1), ((hofv_1 1001 (by omega)).trans hMo.2.1), ((hofv_1 1002 (by omega)).trans hMo.2.2.1), ((hofv_1 1003 (by omega)).trans hMo.2.2.2.1), ((hofv_1 1004 (by omega)).trans hMo.2.2.2.2.1), ((hofv_1 1005 (by omega)).trans hMo.2.2.2.2.2.1), ((hofv_1 1006 (by omega)).trans hMo.2.2.2.2.2.2.1), hv0_1, ((hofv_1 1008 (by omega)).trans hMo.2.2.2.2.2.2.2.2.1), ((hofv_1 1009 (by omega)).trans hMo.2.2.2.2.2.2.2.2.2.1), ((hofv_1 1010 (by omega)).trans hMo.2.2.2.2.2.2.2.2.2.2.1), ((hofv_1 1011 (by omega)).trans hMo.2.2.2.2.2.2.2.2.2.2.2.1), ((hofv_1 1012 (by omega)).trans hMo.2.2.2.2.2.2.2.2.2.2.2.2.1), ((hofv_1 1013 (by omega)).trans hMo.2.2.2.2.2.2.2.2.2.2.2.2.2.1), ((hofv_1 1014 (by omega)).trans hMo.2.2.2.2.2.2.2.2.2.2.2.2.2.2.1), ((hofv_1 1015 (by omega)).trans hMo.2.2.2.2.2.2.2.2.2.2.2.2.2.2.2.1), ((hofv_1 1016 (by omega)).trans hMo.2.2.2.2.2.2.2.2.2.2.2.2.2.2.2.2)⟩ y9 hy9 hn9) (cwV 1 hts gX6_turned_X6_all rfl rfl rfl (by decide +kernel) ⟨Nat.le_of_ble_eq_true rfl, Nat.le_of_ble_eq_true rfl⟩) (rm_preV hK hNw hW ((hofv_1 1000 (by omega)).trans hMo.1) rfl) rfl rfl hl.1 rfl (lv_room (Nat.le_of_ble_eq_true rfl)) dX6_turned_98 ⟨Nat.zero_le _, Nat.zero_le _⟩) hW hS hA (fun z_16 ct_16 H locs hq_16 hW hS => ?_)
            obtain ⟨hz, hcc_16⟩ := hq_16
            have hcc_16 := hcc_16.symm
            subst hcc_16
            subst hz
            refine lv_iconst (v := jI 1) hx hb dX6_turned_101 rfl ?_
            refine lv_iload_n hx hb dX6_turned_102 rfl (lv_at hl 6 rfl) ?_
            refine lv_iconst (v := jI 1) hx hb dX6_turned_103 rfl ?_
            refine rm_isub hx hb dX6_turned_104 ?_
            rw [show (((a9 : Nat) : Int) - 1) = (((a9 - 1) : Nat) : Int) by omega]
            refine rm_ishl (z := (((1 * 2 ^ (a9 - 1)) : Nat) : Int)) hx hb dX6_turned_105 (bt_shl (by omega) (by first | omega | (rw [Nat.one_mul]; omega))) ?_
            refine lv_iconst (v := jI (-1)) hx hb dX6_turned_106 rfl ?_
            refine rm_ixor (z := (-1 - ((2 ^ (a9 - 1) : Nat) : Int))) hx hb dX6_turned_107 (mk_xor (a9 - 1) (by omega)) ?_
            refine rm_iand (z := ((2 ^ ((yn y9) - 1) - 1 - 2 ^ (a9 - 1) : Nat) : Int)) hx hb dX6_turned_108 (mk_and ((yn y9) - 1) (by omega) (a9 - 1) (by omega)) ?_
            have hk1 := (mk_one ((yn y9) - 1) (by omega) i8 (by omega)).1
            have hk2 := (mk_one ((yn y9) - 1) (by omega) (a9 - 1) (by omega)).1
            have hmo := mnr_one (M := (yM y9)) hn9.2 (a := i8) (b := a9 - 1) (by omega) (by omega)
            refine rm_calll (va_runV (As := [.int (jI ((y9 : Nat) : Int)), .int (jI ((2 ^ ((yn y9) - 1) - 1 - 2 ^ i8 : Nat) : Int)), .int (jI ((2 ^ ((yn y9) - 1) - 1 - 2 ^ (a9 - 1) : Nat) : Int))]) (rest := [.long (jL ((dv (i8 + 1)) * (sg (a9 + (i8 + 1))))), .long (jL (trn (yn y9) (yM y9) dv a9 i8))]) ⟨hx, hb, hml, hown, hts⟩ (c_X6_minor l D ty ad ctv_1 H.size th yc hc yn yM yu hy hg hf A1 pt ro ke kt mu sl tw bw de ⟨((hofv_1 1000 (by omega)).trans hMo.1), ((hofv_1 1001 (by omega)).trans hMo.2.1), ((hofv_1 1002 (by omega)).trans hMo.2.2.1), ((hofv_1 1003 (by omega)).trans hMo.2.2.2.1), ((hofv_1 1004 (by omega)).trans hMo.2.2.2.2.1), ((hofv_1 1005 (by omega)).trans hMo.2.2.2.2.2.1), ((hofv_1 1006 (by omega)).trans hMo.2.2.2.2.2.2.1), hv0_1, ((hofv_1 1008 (by omega)).trans hMo.2.2.2.2.2.2.2.2.1), ((hofv_1 1009 (by omega)).trans hMo.2.2.2.2.2.2.2.2.2.1), ((hofv_1 1010 (by omega)).trans hMo.2.2.2.2.2.2.2.2.2.2.1), ((hofv_1 1011 (by omega)).trans hMo.2.2.2.2.2.2.2.2.2.2.2.1), ((hofv_1 1012 (by omega)).trans hMo.2.2.2.2.2.2.2.2.2.2.2.2.1), ((hofv_1 1013 (by omega)).trans hMo.2.2.2.2.2.2.2.2.2.2.2.2.2.1), ((hofv_1 1014 (by omega)).trans hMo.2.2.2.2.2.2.2.2.2.2.2.2.2.2.1), ((hofv_1 1015 (by omega)).trans hMo.2.2.2.2.2.2.2.2.2.2.2.2.2.2.2.1), ((hofv_1 1016 (by omega)).trans hMo.2.2.2.2.2.2.2.2.2.2.2.2.2.2.2.2)⟩ y9 hy9 hn9 hM9 hyk _ _ (by omega) (by omega) (hk1.trans hk2.symm)) (cwV 3 hts gX6_turned_X6_minor rfl rfl rfl (by decide +kernel) ⟨Nat.le_of_ble_eq_true rfl, Nat.le_of_ble_eq_true rfl⟩) (rm_preV hK hNw hW ((hofv_1 1000 (by omega)).trans hMo.1) rfl) rfl rfl hl.1 rfl (lv_room (Nat.le_of_ble_eq_true rfl)) dX6_turned_109 ⟨Nat.zero_le _, Nat.zero_le _⟩) hW hS hA (fun z_17 ct_17 H locs hq_17 hW hS => ?_)
            obtain ⟨A3, hz, hq1, hq2⟩ := hq_17
            rw [hmo] at hz
            subst hz
            have ho_17 : ∀ q, q ≠ 1007 → ct_17 q = ctv_1 q := hq2
            have hof_17 : ∀ q, q ≠ 1007 → ct_17 q = ct q := fun q h0_17 => (ho_17 q h0_17).trans (hofv_1 q h0_17)
            have hm0_17 : ct_17 1007 = some (rl ty 49 (fl 7 A3)) := hq1
            refine rm_lmul hx hb dX6_turned_112 ?_
            refine rm_ladd hx hb dX6_turned_113 ?_
            refine lv_lstore (lv' := [(5, .long (jL ((trn (yn y9) (yM y9) dv a9 i8) + (((dv (i8 + 1)) * (sg (a9 + (i8 + 1)))) * (dt ((yn y9) - 1 - 1) (fun r c => lpm (yn y9) (yM y9) (sk i8 r) (sk (a9 - 1) c))))))), (10, .long (jL (sg (a9 + (i8 + 1))))), (8, .long (jL (dv (i8 + 1)))), (7, .int (jI (((i8 + 1) : Nat) : Int))), (0, .ref (ad 1000)), (1, .int (jI ((y9 : Nat) : Int))), (2, .int (jI ((a9 : Nat) : Int))), (3, .int (jI ((h9 : Nat) : Int))), (4, .int (jI g9))]) hx hb dX6_turned_114 hl (by decide) rfl (fun ls hl => ?_)
            have hl : lv_has ls 12 [(5, .long (jL (trn (yn y9) (yM y9) dv a9 (i8 + 1)))), (10, .long (jL (sg (a9 + (i8 + 1))))), (8, .long (jL (dv (i8 + 1)))), (7, .int (jI (((i8 + 1) : Nat) : Int))), (0, .ref (ad 1000)), (1, .int (jI ((y9 : Nat) : Int))), (2, .int (jI ((a9 : Nat) : Int))), (3, .int (jI ((h9 : Nat) : Int))), (4, .int (jI g9))] := by exact hl
            have hl : lv_has ls 12 [(5, .long (jL (trn (yn y9) (yM y9) dv a9 (i8 + 1)))), (7, .int (jI (((i8 + 1) : Nat) : Int))), (0, .ref (ad 1000)), (1, .int (jI ((y9 : Nat) : Int))), (2, .int (jI ((a9 : Nat) : Int))), (3, .int (jI ((h9 : Nat) : Int))), (4, .int (jI g9))] := lv_sub hl [0, 3, 4, 5, 6, 7, 8] rfl
            refine lv_iinc (v := jI ((((i8 + 1) : Nat) : Int) + 1)) (lv' := [(7, .int (jI ((((i8 + 1) : Nat) : Int) + 1))), (5, .long (jL (trn (yn y9) (yM y9) dv a9 (i8 + 1)))), (0, .ref (ad 1000)), (1, .int (jI ((y9 : Nat) : Int))), (2, .int (jI ((a9 : Nat) : Int))), (3, .int (jI ((h9 : Nat) : Int))), (4, .int (jI g9))]) hx hb dX6_turned_116 hl (k := 1) rfl (jI_add _ _) (by decide) rfl (fun ls hl => ?_)
            refine lv_goto (tgt := 6) hx hb dX6_turned_119 (by decide) ?_
            exact ih_LP (i8 + 1) (A3) (by omega) (by omega) ct_17 _ _ hm0_17 trivial hof_17 trivial hW hS ls (lv_sub hl [0, 1, 2, 3, 4, 5, 6] rfl)
  exact LP ((yn y9) + 1) (0) (mA) (by omega) (by omega) ct _ _ hMo.2.2.2.2.2.2.2.1 trivial (fun _ _ => rfl) trivial hW hS ls (lv_sub hl [0, 1, 2, 3, 4, 5, 6] rfl)
