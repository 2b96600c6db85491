section ModPic8
theorem dps_step {tr k p : Nat} (hp : p ≠ 0) {i : Nat} {v : Int} (h : v = if dps tr (k + 1) p = -1 then -1 else dps tr (k + 1) p + (i : Int)) : v = if dps tr k (tgt tr p) = -1 then -1 else dps tr k (tgt tr p) + ((i + 1 : Nat) : Int) := by
  rw [h, dps_s hp]
  have hv := dps_val tr k (tgt tr p)
  by_cases e : dps tr k (tgt tr p) = -1
  · rw [if_pos e, if_pos rfl, if_pos e]
  · rw [if_neg e, if_neg (by omega), if_neg e]; omega
end ModPic8
def exd (tr n : Nat) : Prop := ∃ q, 1 ≤ q ∧ q < n ∧ dps tr 8 q = -1
set_option maxHeartbeats 4000000 in
set_option maxRecDepth 100000 in
theorem c_X6_leads (l : Launch) (D : va_G) (ty : Nat → ClassId) (ad : Nat → Nat) (ct : rm_C) (sz : Nat) (th : Int) (yc hc : Nat) (yn : Nat → Nat) (yM : Nat → Nat → Nat → Int) (yu : Nat → Int) (hy : Nat → Nat) (hg hf mA : Nat → Nat → Int) (pt ro ke kt mu sl tw bw de : Nat → Int) (hMo : ModAt ty ad ct th yc hc yn yM yu hy hg hf mA pt ro ke kt mu sl tw bw de) (y9 : Nat) (hy9 : y9 < 6) (hn9 : 2 ≤ yn y9 ∧ yn y9 ≤ 8) (hM9 : ∀ i j, 0 ≤ yM y9 i j ∧ yM y9 i j ≤ 3) (tr : Nat) (ht : ∀ q, 1 ≤ q → q < (yn y9) → tgt tr q < (yn y9)) (htw : ∀ q, 1 ≤ q → q < (yn y9) → tw q = ((tgt tr q : Nat) : Int)) : Met l yX6_leads wsX6_leads ({ frames := 0, cells := 0, slots := 0, locals := 0 }) (rm_P D ty ad ct sz [.ref (ad 1000), .int (jI ((y9 : Nat) : Int))]) (rm_Qi D ad ct sz (fun z ct1 => ∃ de1 : Nat → Int, ct1 1016 = some (ri ty 8 de1) ∧ (∀ q, q ≠ 1016 → ct1 q = ct q) ∧ ((z = 1 ∧ ∀ q, q < (yn y9) → dps tr 8 q ≠ -1 ∧ de1 q = dps tr 8 q) ∨ (z = 0 ∧ ∃ q, 1 ≤ q ∧ q < (yn y9) ∧ dps tr 8 q = -1)))) 0 0 (rm_A ad ct sz) := by
  refine Met.ofW (cc := cX6_leads) (maxL := 6) (ret := (some .boolean)) (by decide) rfl ?_
  intro p e s m args below meth c s₁ B hml hv
  obtain ⟨hargs, hsz, hW, hK, hNw⟩ := hv
  have hx := B.exec
  have hb := B.bytes
  have hr := B.returns
  have hts := atoms_spec (ws := wsX6_leads) B.pre
  have hown : s.vm.findClass RX6 = some m.cls := findClass_of_methodNamed B.named
  have hlocks := B.notSynchronized
  subst hsz
  have hW := hW.own (sz := s.heap.size)
  have hA : ∀ q : Nat, s.heap.size ≤ q → rm_A ad ct s.heap.size q := fun q h => Or.inr h
  have hS : va_S (rm_A ad ct s.heap.size) s.heap s.heap [] := va_S.rf
  have hent : entryFrame m args 6 = entryFrame m ([.ref (ad 1000), .int (jI ((y9 : Nat) : Int))] : List Value).toArray 6 := by rw [hargs]
  have hl := lv_entry ([.ref (ad 1000), .int (jI ((y9 : Nat) : Int))]) (n := 6) (Nat.le_of_ble_eq_true rfl)
  rw [hent, lg_entry_eq]
  generalize (lg_sl ([.ref (ad 1000), .int (jI ((y9 : Nat) : Int))]) ++ List.replicate (6 - (lg_sl ([.ref (ad 1000), .int (jI ((y9 : Nat) : Int))])).length) Slot.unset).toArray = ls at hl ⊢
  have hl : lv_has ls 6 [(0, .ref (ad 1000)), (1, .int (jI ((y9 : Nat) : Int)))] := hl
  refine lv_iconst (v := jI 1) hx hb dX6_leads_0 rfl ?_
  refine lv_istore_n (lv' := [(2, .int (jI 1)), (0, .ref (ad 1000)), (1, .int (jI ((y9 : Nat) : Int)))]) hx hb dX6_leads_1 rfl hl (by decide) rfl (fun ls hl => ?_)
  refine lv_iconst (v := jI 1) hx hb dX6_leads_2 rfl ?_
  refine lv_istore_n (lv' := [(3, .int (jI 1)), (2, .int (jI 1)), (0, .ref (ad 1000)), (1, .int (jI ((y9 : Nat) : Int)))]) hx hb dX6_leads_3 rfl hl (by decide) rfl (fun ls hl => ?_)
  have LP : ∀ (k : Nat) (p8 : Nat) (z8 : Int) (de2 : Nat → Int) (hp8 : p8 + 1 ≤ (yn y9)) (hz8 : (z8 = 1 ∧ (∀ q, 1 ≤ q → q < p8 + 1 → dps tr 8 q ≠ -1 ∧ de2 q = dps tr 8 q) ∧ True) ∨ (z8 = 0 ∧ exd tr (yn y9))), (yn y9) - p8 < k → ∀ (ctv : rm_C) (H : Heap) (locs : List Loc), (ctv 1016 = some (ri ty 8 de2)) → ∀ (_ : True), (∀ q, q ≠ 1016 → ctv q = ct q) → ∀ (_ : True), rm_W D ad ctv (rm_A ad ct s.heap.size) H → va_S (rm_A ad ct s.heap.size) s.heap H locs → ∀ ls : Array Slot, lv_has ls 6 [(3, .int (jI (((p8 + 1) : Nat) : Int))), (2, .int (jI z8)), (0, .ref (ad 1000)), (1, .int (jI ((y9 : Nat) : Int)))] → W p l e (headSpec wsX6_leads ({ frames := 0, cells := 0, slots := 0, locals := 0 })).room s m args below meth c H locs 0 0 (MQ below (rm_Qi D ad ct s.heap.size (fun z ct1 => ∃ de1 : Nat → Int, ct1 1016 = some (ri ty 8 de1) ∧ (∀ q, q ≠ 1016 → ct1 q = ct q) ∧ ((z = 1 ∧ ∀ q, q < (yn y9) → dps tr 8 q ≠ -1 ∧ de1 q = dps tr 8 q) ∨ (z = 0 ∧ ∃ q, 1 ≤ q ∧ q < (yn y9) ∧ dps tr 8 q = -1)))) args s 0 0 (rm_A ad ct s.heap.size)) (F0 m 4 ls []) := by
    intro k
    induction k with
    | zero => intro p8 z8 de2 hp8 hz8 hk; exact absurd hk (Nat.not_lt_zero _)
    | succ k ih_LP =>
      intro p8 z8 de2 hp8 hz8 hk ctv_1 H locs hv0_1 _ hofv_1 _ hW hS ls hl
      have hzr : z8 = 0 ∨ z8 = 1 := by rcases hz8 with h | h; exact Or.inr h.1; exact Or.inl h.1
      refine lv_iload_n hx hb dX6_leads_4 rfl (lv_at hl 0 rfl) ?_
      refine lv_aload_n hx hb dX6_leads_5 rfl (lv_at hl 2 rfl) ?_
      refine rm_get (ci := 6) (v := .ref (ad 1001)) (C := RX6) (T := TX6) (N := 19) hx hb hts (by decide +kernel) hown hK hW ((hofv_1 1000 (by omega)).trans hMo.1) rfl 3 (by decide) (hts (.fieldLink RX6 7 "GrainYardModel" "places" "[I") (by decide +kernel)) (fun _ h9 => h9) rfl dX6_leads_6 ?_
      refine lv_iload_n hx hb dX6_leads_9 rfl (lv_at hl 3 rfl) ?_
      refine rm_iald hx hb hK hW (f := (fun y => ((yn y : Nat) : Int))) ((hofv_1 1001 (by omega)).trans hMo.2.1) y9 rfl (by omega) (by omega) dX6_leads_10 ?_
      refine rm_icmp_ge (tgt := 76) hx hb ⟨by omega, by omega⟩ ⟨by omega, by omega⟩ dX6_leads_11 (by decide) (fun hc_2 => ?_) (fun hc_2 => ?_)
      · skip
        have hpe : p8 + 1 = (yn y9) := by omega
        rw [hpe] at hz8
        refine lv_aload_n hx hb dX6_leads_76 rfl (lv_at hl 2 rfl) ?_
        refine rm_get (ci := 6) (v := .ref (ad 1016)) (C := RX6) (T := TX6) (N := 19) hx hb hts (by decide +kernel) hown hK hW ((hofv_1 1000 (by omega)).trans hMo.1) rfl 18 (by decide) (hts (.fieldLink RX6 57 "GrainYardModel" "deep" "[I") (by decide +kernel)) (fun _ h9 => h9) rfl dX6_leads_77 ?_
        refine lv_iconst (v := jI 0) hx hb dX6_leads_80 rfl ?_
        refine lv_iconst (v := jI 0) hx hb dX6_leads_81 rfl ?_
        refine rm_iast hx hb hK hW hS (f := de2) hv0_1 0 rfl (by omega) (by omega) dX6_leads_82 (fun H locs ct_3 hs_3 ho_3 hW hS hz_3 => ?_)
        have hof_3 : ∀ q, q ≠ 1016 → ct_3 q = ct q := fun q h0_3 => (ho_3 q h0_3).trans (hofv_1 q h0_3)
        refine lv_iload_n hx hb dX6_leads_83 rfl (lv_at hl 1 rfl) ?_
        exact W.zret hx hb hr (by rcases hzr with h | h <;> rw [h] <;> decide) (fun t ht hw => ⟨⟨_, (z8, ct_3), rfl, ⟨rfl, ⟨_, hs_3, fun q h0 => hof_3 q h0, by
            rcases hz8 with ⟨h1, h2, h3⟩ | ⟨h1, h2⟩
            · refine Or.inl ⟨h1, fun q hq => ?_⟩
              by_cases e : q = 0
              · subst e; rw [ub_s, dps_z]; omega
              · rw [ub_n _ _ e]; exact h2 q (by omega) (by omega)
            · exact Or.inr ⟨h1, h2⟩⟩⟩, by show rm_W D ad _ _ t.heap; rw [ht]; exact hW⟩, hS.F ht⟩) hS.2.2 dX6_leads_84
      · skip
        refine lv_iload_n hx hb dX6_leads_14 rfl (lv_at hl 1 rfl) ?_
        refine rm_if_eq (tgt := 76) hx hb ⟨by omega, by omega⟩ dX6_leads_15 (by decide) (fun hc_4 => ?_) (fun hc_4 => ?_)
        · skip
          have hz8 : (z8 = 1 ∧ (∀ q, 1 ≤ q → q < (yn y9) → dps tr 8 q ≠ -1 ∧ de2 q = dps tr 8 q) ∧ True) ∨ (z8 = 0 ∧ exd tr (yn y9)) := by rcases hz8 with h | h; exact absurd h.1 (by omega); exact Or.inr h
          refine lv_aload_n hx hb dX6_leads_76 rfl (lv_at hl 2 rfl) ?_
          refine rm_get (ci := 6) (v := .ref (ad 1016)) (C := RX6) (T := TX6) (N := 19) hx hb hts (by decide +kernel) hown hK hW ((hofv_1 1000 (by omega)).trans hMo.1) rfl 18 (by decide) (hts (.fieldLink RX6 57 "GrainYardModel" "deep" "[I") (by decide +kernel)) (fun _ h9 => h9) rfl dX6_leads_77 ?_
          refine lv_iconst (v := jI 0) hx hb dX6_leads_80 rfl ?_
          refine lv_iconst (v := jI 0) hx hb dX6_leads_81 rfl ?_
          refine rm_iast hx hb hK hW hS (f := de2) hv0_1 0 rfl (by omega) (by omega) dX6_leads_82 (fun H locs ct_5 hs_5 ho_5 hW hS hz_5 => ?_)
          have hof_5 : ∀ q, q ≠ 1016 → ct_5 q = ct q := fun q h0_5 => (ho_5 q h0_5).trans (hofv_1 q h0_5)
          refine lv_iload_n hx hb dX6_leads_83 rfl (lv_at hl 1 rfl) ?_
          exact W.zret hx hb hr (by rcases hzr with h | h <;> rw [h] <;> decide) (fun t ht hw => ⟨⟨_, (z8, ct_5), rfl, ⟨rfl, ⟨_, hs_5, fun q h0 => hof_5 q h0, by
              rcases hz8 with ⟨h1, h2, h3⟩ | ⟨h1, h2⟩
              · refine Or.inl ⟨h1, fun q hq => ?_⟩
                by_cases e : q = 0
                · subst e; rw [ub_s, dps_z]; omega
                · rw [ub_n _ _ e]; exact h2 q (by omega) (by omega)
              · exact Or.inr ⟨h1, h2⟩⟩⟩, by show rm_W D ad _ _ t.heap; rw [ht]; exact hW⟩, hS.F ht⟩) hS.2.2 dX6_leads_84
        · skip
          have hz1 : z8 = 1 := by omega
          have hz9 : ∀ q, 1 ≤ q → q < p8 + 1 → dps tr 8 q ≠ -1 ∧ de2 q = dps tr 8 q := by rcases hz8 with h | h; exact h.2.1; exact absurd h.1 (by omega)
          refine lv_iconst (v := jI 0) hx hb dX6_leads_18 rfl ?_
          refine lv_istore (lv' := [(4, .int (jI 0)), (3, .int (jI (((p8 + 1) : Nat) : Int))), (2, .int (jI z8)), (0, .ref (ad 1000)), (1, .int (jI ((y9 : Nat) : Int)))]) hx hb dX6_leads_19 hl (by decide) rfl (fun ls hl => ?_)
          refine lv_iload_n hx hb dX6_leads_21 rfl (lv_at hl 1 rfl) ?_
          refine lv_istore (lv' := [(5, .int (jI (((p8 + 1) : Nat) : Int))), (4, .int (jI 0)), (3, .int (jI (((p8 + 1) : Nat) : Int))), (2, .int (jI z8)), (0, .ref (ad 1000)), (1, .int (jI ((y9 : Nat) : Int)))]) hx hb dX6_leads_22 hl (by decide) rfl (fun ls hl => ?_)
          have hl : lv_has ls 6 [(5, .int (jI (((p8 + 1) : Nat) : Int))), (4, .int (jI 0)), (3, .int (jI (((p8 + 1) : Nat) : Int))), (0, .ref (ad 1000)), (1, .int (jI ((y9 : Nat) : Int)))] := lv_sub hl [0, 1, 2, 4, 5] rfl
          have LI : ∀ (k : Nat) (n8 : Nat) (kk : Nat) (hn8 : n8 ≤ 8) (hkb : kk < (yn y9)) (hdv : dps tr 8 (p8 + 1) = if dps tr (8 - n8) kk = -1 then -1 else dps tr (8 - n8) kk + (n8 : Int)), 8 - n8 < k → ∀ (ctv : rm_C) (H : Heap) (locs : List Loc), (ctv 1016 = some (ri ty 8 de2)) → ∀ (_ : True), (∀ q, q ≠ 1016 → ctv q = ct q) → ∀ (_ : True), rm_W D ad ctv (rm_A ad ct s.heap.size) H → va_S (rm_A ad ct s.heap.size) s.heap H locs → ∀ ls : Array Slot, lv_has ls 6 [(5, .int (jI ((kk : Nat) : Int))), (4, .int (jI ((n8 : Nat) : Int))), (3, .int (jI (((p8 + 1) : Nat) : Int))), (0, .ref (ad 1000)), (1, .int (jI ((y9 : Nat) : Int)))] → W p l e (headSpec wsX6_leads ({ frames := 0, cells := 0, slots := 0, locals := 0 })).room s m args below meth c H locs 0 0 (MQ below (rm_Qi D ad ct s.heap.size (fun z ct1 => ∃ de1 : Nat → Int, ct1 1016 = some (ri ty 8 de1) ∧ (∀ q, q ≠ 1016 → ct1 q = ct q) ∧ ((z = 1 ∧ ∀ q, q < (yn y9) → dps tr 8 q ≠ -1 ∧ de1 q = dps tr 8 q) ∨ (z = 0 ∧ ∃ q, 1 ≤ q ∧ q < (yn y9) ∧ dps tr 8 q = -1)))) args s 0 0 (rm_A ad ct s.heap.size)) (F0 m 24 ls []) := by
            intro k
            induction k with
            | zero => intro n8 kk hn8 hkb hdv hk; exact absurd hk (Nat.not_lt_zero _)
            | succ k ih_LI =>
              intro n8 kk hn8 hkb hdv hk ctv_6 H locs hv0_6 _ hofv_6 _ hW hS ls hl
              have hkn : kk < 8 := by omega
              refine lv_iload hx hb dX6_leads_24 (lv_at hl 0 rfl) ?_
              refine rm_if_eq (tgt := 51) hx hb ⟨by omega, by omega⟩ dX6_leads_26 (by decide) (fun hc_7 => ?_) (fun hc_7 => ?_)
              · skip
                have hk0 : kk = 0 := by omega
                have hdp : dps tr 8 (p8 + 1) = (n8 : Int) ∧ 0 ≤ (n8 : Int) := by
                  rw [hk0, dps_z, if_neg (by omega)] at hdv; exact ⟨by omega, by omega⟩
                refine lv_iload hx hb dX6_leads_51 (lv_at hl 0 rfl) ?_
                refine rm_if_ne (tgt := 60) hx hb ⟨by omega, by omega⟩ dX6_leads_53 (by decide) (fun hq => absurd hq (by omega)) (fun _ => ?_)
                refine lv_iconst (v := jI 1) hx hb dX6_leads_56 rfl ?_
                refine lv_goto (tgt := 61) hx hb dX6_leads_57 (by decide) ?_
                refine lv_istore_n (lv' := [(2, .int (jI 1)), (5, .int (jI ((kk : Nat) : Int))), (4, .int (jI ((n8 : Nat) : Int))), (3, .int (jI (((p8 + 1) : Nat) : Int))), (0, .ref (ad 1000)), (1, .int (jI ((y9 : Nat) : Int)))]) hx hb dX6_leads_61 rfl hl (by decide) rfl (fun ls hl => ?_)
                refine lv_aload_n hx hb dX6_leads_62 rfl (lv_at hl 4 rfl) ?_
                refine rm_get (ci := 6) (v := .ref (ad 1016)) (C := RX6) (T := TX6) (N := 19) hx hb hts (by decide +kernel) hown hK hW ((hofv_6 1000 (by omega)).trans hMo.1) rfl 18 (by decide) (hts (.fieldLink RX6 57 "GrainYardModel" "deep" "[I") (by decide +kernel)) (fun _ h9 => h9) rfl dX6_leads_63 ?_
                refine lv_iload_n hx hb dX6_leads_66 rfl (lv_at hl 3 rfl) ?_
                refine lv_iload hx hb dX6_leads_67 (lv_at hl 2 rfl) ?_
                refine rm_iast hx hb hK hW hS (f := de2) hv0_6 (p8 + 1) rfl (by omega) (by omega) dX6_leads_69 (fun H locs ct_8 hs_8 ho_8 hW hS hz_8 => ?_)
                have hof_8 : ∀ q, q ≠ 1016 → ct_8 q = ct q := fun q h0_8 => (ho_8 q h0_8).trans (hofv_6 q h0_8)
                have hl : lv_has ls 6 [(2, .int (jI 1)), (3, .int (jI (((p8 + 1) : Nat) : Int))), (0, .ref (ad 1000)), (1, .int (jI ((y9 : Nat) : Int)))] := lv_sub hl [0, 3, 4, 5] rfl
                refine lv_iinc (v := jI ((((p8 + 1) : Nat) : Int) + 1)) (lv' := [(3, .int (jI ((((p8 + 1) : Nat) : Int) + 1))), (2, .int (jI 1)), (0, .ref (ad 1000)), (1, .int (jI ((y9 : Nat) : Int)))]) hx hb dX6_leads_70 hl (k := 1) rfl (jI_add _ _) (by decide) rfl (fun ls hl => ?_)
                refine lv_goto (tgt := 4) hx hb dX6_leads_73 (by decide) ?_
                exact ih_LP (p8 + 1) (1) ((ub de2 (p8 + 1) ((n8 : Nat) : Int))) (by omega) (Or.inl ⟨rfl, fun q h1 h2 => by
                    by_cases e : q = p8 + 1
                    · subst e; rw [ub_s]; exact ⟨by omega, by omega⟩
                    · rw [ub_n _ _ e]; exact hz9 q h1 (by omega), trivial⟩) (by omega) ct_8 _ _ hs_8 trivial hof_8 trivial hW hS ls (lv_sub hl [0, 1, 2, 3] rfl)
              · skip
                refine lv_iload hx hb dX6_leads_29 (lv_at hl 1 rfl) ?_
                refine lv_bipush (v := jI 8) hx hb dX6_leads_31 (by decide) ?_
                refine rm_icmp_ge (tgt := 51) hx hb ⟨by omega, by omega⟩ ⟨by omega, by omega⟩ dX6_leads_33 (by decide) (fun hc_9 => ?_) (fun hc_9 => ?_)
                · skip
                  have hn8 : n8 = 8 := by omega
                  have hdn : dps tr 8 (p8 + 1) = -1 := by
                    rw [hn8, show 8 - 8 = 0 from rfl, dps_0 (by omega), if_pos rfl] at hdv; exact hdv
                  refine lv_iload hx hb dX6_leads_51 (lv_at hl 0 rfl) ?_
                  refine rm_if_ne (tgt := 60) hx hb ⟨by omega, by omega⟩ dX6_leads_53 (by decide) (fun _ => ?_) (fun hq => absurd hq (by omega))
                  refine lv_iconst (v := jI 0) hx hb dX6_leads_60 rfl ?_
                  refine lv_istore_n (lv' := [(2, .int (jI 0)), (5, .int (jI ((kk : Nat) : Int))), (4, .int (jI ((n8 : Nat) : Int))), (3, .int (jI (((p8 + 1) : Nat) : Int))), (0, .ref (ad 1000)), (1, .int (jI ((y9 : Nat) : Int)))]) hx hb dX6_leads_61 rfl hl (by decide) rfl (fun ls hl => ?_)
                  refine lv_aload_n hx hb dX6_leads_62 rfl (lv_at hl 4 rfl) ?_
                  refine rm_get (ci := 6) (v := .ref (ad 1016)) (C := RX6) (T := TX6) (N := 19) hx hb hts (by decide +kernel) hown hK hW ((hofv_6 1000 (by omega)).trans hMo.1) rfl 18 (by decide) (hts (.fieldLink RX6 57 "GrainYardModel" "deep" "[I") (by decide +kernel)) (fun _ h9 => h9) rfl dX6_leads_63 ?_
                  refine lv_iload_n hx hb dX6_leads_66 rfl (lv_at hl 3 rfl) ?_
                  refine lv_iload hx hb dX6_leads_67 (lv_at hl 2 rfl) ?_
                  refine rm_iast hx hb hK hW hS (f := de2) hv0_6 (p8 + 1) rfl (by omega) (by omega) dX6_leads_69 (fun H locs ct_10 hs_10 ho_10 hW hS hz_10 => ?_)
                  have hof_10 : ∀ q, q ≠ 1016 → ct_10 q = ct q := fun q h0_10 => (ho_10 q h0_10).trans (hofv_6 q h0_10)
                  have hl : lv_has ls 6 [(2, .int (jI 0)), (3, .int (jI (((p8 + 1) : Nat) : Int))), (0, .ref (ad 1000)), (1, .int (jI ((y9 : Nat) : Int)))] := lv_sub hl [0, 3, 4, 5] rfl
                  refine lv_iinc (v := jI ((((p8 + 1) : Nat) : Int) + 1)) (lv' := [(3, .int (jI ((((p8 + 1) : Nat) : Int) + 1))), (2, .int (jI 0)), (0, .ref (ad 1000)), (1, .int (jI ((y9 : Nat) : Int)))]) hx hb dX6_leads_70 hl (k := 1) rfl (jI_add _ _) (by decide) rfl (fun ls hl => ?_)
                  refine lv_goto (tgt := 4) hx hb dX6_leads_73 (by decide) ?_
                  exact ih_LP (p8 + 1) (0) ((ub de2 (p8 + 1) ((n8 : Nat) : Int))) (by omega) (Or.inr ⟨rfl, ⟨p8 + 1, by omega, by omega, hdn⟩⟩) (by omega) ct_10 _ _ hs_10 trivial hof_10 trivial hW hS ls (lv_sub hl [0, 1, 2, 3] rfl)
                · skip
                  have htk := htw kk (by omega) hkb
                  have htl := ht kk (by omega) hkb
                  refine lv_aload_n hx hb dX6_leads_36 rfl (lv_at hl 3 rfl) ?_
                  refine rm_get (ci := 6) (v := .ref (ad 1014)) (C := RX6) (T := TX6) (N := 19) hx hb hts (by decide +kernel) hown hK hW ((hofv_6 1000 (by omega)).trans hMo.1) rfl 16 (by decide) (hts (.fieldLink RX6 51 "GrainYardModel" "to" "[I") (by decide +kernel)) (fun _ h9 => h9) rfl dX6_leads_37 ?_
                  refine lv_iload hx hb dX6_leads_40 (lv_at hl 0 rfl) ?_
                  refine rm_iald hx hb hK hW (f := tw) ((hofv_6 1014 (by omega)).trans hMo.2.2.2.2.2.2.2.2.2.2.2.2.2.2.1) kk rfl (by omega) (by omega) dX6_leads_42 ?_
                  rw [htk]
                  refine lv_istore (lv' := [(5, .int (jI (((tgt tr kk) : Nat) : Int))), (4, .int (jI ((n8 : Nat) : Int))), (3, .int (jI (((p8 + 1) : Nat) : Int))), (0, .ref (ad 1000)), (1, .int (jI ((y9 : Nat) : Int)))]) hx hb dX6_leads_43 hl (by decide) rfl (fun ls hl => ?_)
                  refine lv_iinc (v := jI (((n8 : Nat) : Int) + 1)) (lv' := [(4, .int (jI (((n8 : Nat) : Int) + 1))), (5, .int (jI (((tgt tr kk) : Nat) : Int))), (3, .int (jI (((p8 + 1) : Nat) : Int))), (0, .ref (ad 1000)), (1, .int (jI ((y9 : Nat) : Int)))]) hx hb dX6_leads_45 hl (k := 1) rfl (jI_add _ _) (by decide) rfl (fun ls hl => ?_)
                  refine lv_goto (tgt := 24) hx hb dX6_leads_48 (by decide) ?_
                  exact ih_LI (n8 + 1) (tgt tr kk) (by omega) (htl) (by
                      have h9 := dps_step (v := dps tr 8 (p8 + 1)) (tr := tr) (k := 8 - (n8 + 1)) (p := kk) (i := n8) (by omega) (by rw [show 8 - (n8 + 1) + 1 = 8 - n8 by omega]; exact hdv)
                      exact h9) (by omega) ctv_6 _ _ hv0_6 trivial hofv_6 trivial hW hS ls (lv_sub hl [1, 0, 2, 3, 4] rfl)
          exact LI (9) (0) (p8 + 1) (by omega) (by omega) (by
              rw [show 8 - 0 = 8 from rfl]
              by_cases e : dps tr 8 (p8 + 1) = -1
              · rw [if_pos e]; exact e
              · rw [if_neg e]; omega) (by omega) ctv_1 _ _ hv0_1 trivial hofv_1 trivial hW hS ls (lv_sub hl [0, 1, 2, 3, 4] rfl)
  exact LP ((yn y9) + 1) (0) (1) (de) (by omega) (Or.inl ⟨rfl, fun q h1 h2 => by omega, trivial⟩) (by omega) ct _ _ hMo.2.2.2.2.2.2.2.2.2.2.2.2.2.2.2.2 trivial (fun _ _ => rfl) trivial hW hS ls (lv_sub hl [0, 1, 2, 3] rfl)
