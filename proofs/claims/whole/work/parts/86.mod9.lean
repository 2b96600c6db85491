section ModPic6
def ini (i : Nat) (f : Nat → Int) : Nat → Int := fun q => if q < i then (if q = 0 then 0 else -1) else f q
theorem ini_0 (f : Nat → Int) : ini 0 f = f := by funext q; unfold ini; rw [if_neg (by omega)]
theorem ini_s0 (f : Nat → Int) : ub (ini 0 f) 0 0 = ini 1 f := by
  funext q
  by_cases e : q = 0
  · subst e; rw [ub_s]; rfl
  · rw [ub_n _ _ e]; unfold ini; rw [if_neg (by omega), if_neg (by omega)]
theorem ini_s (f : Nat → Int) {i : Nat} (h : i ≠ 0) : ub (ini i f) i (-1) = ini (i + 1) f := by
  funext q
  by_cases e : q = i
  · subst e; rw [ub_s]; unfold ini; rw [if_pos (by omega), if_neg h]
  · rw [ub_n _ _ e]; unfold ini
    by_cases e2 : q < i
    · rw [if_pos e2, if_pos (show q < i + 1 by omega)]
    · rw [if_neg e2, if_neg (show ¬ q < i + 1 by omega)]
/-- some place from a to b isn't burned (a name, so that arithmetic doesn't open it) -/
def exu (a b : Nat) (f : Nat → Int) : Prop := ∃ q, a ≤ q ∧ q < b ∧ f q = -1
theorem bit_n8 {n : Nat} {M : Nat → Nat → Int} {d g : Nat → Int} : ∀ s, ∀ q, n ≤ q → 1 ≤ q → bit n M d g s q = -1
  | 0, q, _, h => if_neg (by omega)
  | s + 1, q, hn, h => by rw [bit_f, if_neg (by omega)]; exact bit_n8 s q hn h
end ModPic6
set_option maxHeartbeats 4000000 in
set_option maxRecDepth 100000 in
theorem c_X6_allBurn (l : Launch) (D : va_G) (ty : Nat → ClassId) (ad : Nat → Nat) (ct : rm_C) (sz : Nat) (th : Int) (yc hc : Nat) (yn : Nat → Nat) (yM : Nat → Nat → Nat → Int) (yu : Nat → Int) (hy : Nat → Nat) (hg hf mA : Nat → Nat → Int) (pt ro ke kt mu sl tw bw de : Nat → Int) (hMo : ModAt ty ad ct th yc hc yn yM yu hy hg hf mA pt ro ke kt mu sl tw bw de) (h9 : Nat) (hh9 : h9 < 20) (hyh : hy h9 < 6) (hn9 : 2 ≤ yn (hy h9) ∧ yn (hy h9) ≤ 8) (hM9 : ∀ i j, 0 ≤ yM (hy h9) i j ∧ yM (hy h9) i j ≤ 3) (hg64 : ∀ q, 1 ≤ q → q < (yn (hy h9)) → r64 (hg h9 q)) : Met l yX6_allBurn wsX6_allBurn ({ frames := 2, cells := 0, slots := 0, locals := 47 }) (rm_P D ty ad ct sz [.ref (ad 1000), .int (jI ((h9 : Nat) : Int))]) (rm_Qi D ad ct sz (fun z ct1 => ct1 1009 = some (ri ty 8 (bit (yn (hy h9)) (yM (hy h9)) (dg (yn (hy h9)) (yM (hy h9))) (hg h9) ((yn (hy h9)) - 1))) ∧ (∀ q, q ≠ 1009 → ct1 q = ct q) ∧ ((z = 1 ∧ ∀ q, q < (yn (hy h9)) → (bit (yn (hy h9)) (yM (hy h9)) (dg (yn (hy h9)) (yM (hy h9))) (hg h9) ((yn (hy h9)) - 1)) q ≠ -1) ∨ (z = 0 ∧ ∃ q, q < (yn (hy h9)) ∧ (bit (yn (hy h9)) (yM (hy h9)) (dg (yn (hy h9)) (yM (hy h9))) (hg h9) ((yn (hy h9)) - 1)) q = -1)))) 0 0 (rm_A ad ct sz) := by
  refine Met.ofW (cc := cX6_allBurn) (maxL := 9) (ret := (some .boolean)) (by decide) rfl ?_
  intro p e s m args below meth c s₁ B hml hv
  obtain ⟨hargs, hsz, hW, hK, hNw⟩ := hv
  have hx := B.exec
  have hb := B.bytes
  have hr := B.returns
  have hts := atoms_spec (ws := wsX6_allBurn) B.pre
  have hown : s.vm.findClass RX6 = some m.cls := findClass_of_methodNamed B.named
  have hlocks := B.notSynchronized
  subst hsz
  have hW := hW.own (sz := s.heap.size)
  have hA : ∀ q : Nat, s.heap.size ≤ q → rm_A ad ct s.heap.size q := fun q h => Or.inr h
  have hS : va_S (rm_A ad ct s.heap.size) s.heap s.heap [] := va_S.rf
  have hent : entryFrame m args 9 = entryFrame m ([.ref (ad 1000), .int (jI ((h9 : Nat) : Int))] : List Value).toArray 9 := by rw [hargs]
  have hl := lv_entry ([.ref (ad 1000), .int (jI ((h9 : Nat) : Int))]) (n := 9) (Nat.le_of_ble_eq_true rfl)
  rw [hent, lg_entry_eq]
  generalize (lg_sl ([.ref (ad 1000), .int (jI ((h9 : Nat) : Int))]) ++ List.replicate (9 - (lg_sl ([.ref (ad 1000), .int (jI ((h9 : Nat) : Int))])).length) Slot.unset).toArray = ls at hl ⊢
  have hl : lv_has ls 9 [(0, .ref (ad 1000)), (1, .int (jI ((h9 : Nat) : Int)))] := hl
  have hdr := fun q => dg_rng8 hM9 hn9.2 q
  refine lv_aload_n hx hb dX6_allBurn_0 rfl (lv_at hl 0 rfl) ?_
  refine rm_get (ci := 6) (v := .ref (ad 1003)) (C := RX6) (T := TX6) (N := 19) hx hb hts (by decide +kernel) hown hK hW hMo.1 rfl 5 (by decide) (hts (.fieldLink RX6 16 "GrainYardModel" "yardOf" "[I") (by decide +kernel)) (fun _ h9 => h9) rfl dX6_allBurn_1 ?_
  refine lv_iload_n hx hb dX6_allBurn_4 rfl (lv_at hl 1 rfl) ?_
  refine rm_iald hx hb hK hW (f := (fun y => ((hy y : Nat) : Int))) hMo.2.2.2.1 h9 rfl (by omega) (by omega) dX6_allBurn_5 ?_
  refine lv_istore_n (lv' := [(2, .int (jI ((hy h9 : Nat) : Int))), (0, .ref (ad 1000)), (1, .int (jI ((h9 : Nat) : Int)))]) hx hb dX6_allBurn_6 rfl hl (by decide) rfl (fun ls hl => ?_)
  refine lv_iconst (v := jI 0) hx hb dX6_allBurn_7 rfl ?_
  refine lv_istore_n (lv' := [(3, .int (jI 0)), (2, .int (jI ((hy h9 : Nat) : Int))), (0, .ref (ad 1000)), (1, .int (jI ((h9 : Nat) : Int)))]) hx hb dX6_allBurn_8 rfl hl (by decide) rfl (fun ls hl => ?_)
  have LZ : ∀ (k : Nat) (i8 : Nat) (hi8 : i8 ≤ 8), 8 - i8 < k → ∀ (ctv : rm_C) (H : Heap) (locs : List Loc), (ctv 1009 = some (ri ty 8 (ini i8 ro))) → ∀ (_ : True), (∀ q, q ≠ 1009 → ctv q = ct q) → ∀ (_ : True), rm_W D ad ctv (rm_A ad ct s.heap.size) H → va_S (rm_A ad ct s.heap.size) s.heap H locs → ∀ ls : Array Slot, lv_has ls 9 [(3, .int (jI ((i8 : Nat) : Int))), (0, .ref (ad 1000)), (1, .int (jI ((h9 : Nat) : Int))), (2, .int (jI (((hy h9) : Nat) : Int)))] → W p l e (headSpec wsX6_allBurn ({ frames := 2, cells := 0, slots := 0, locals := 47 })).room s m args below meth c H locs 0 0 (MQ below (rm_Qi D ad ct s.heap.size (fun z ct1 => ct1 1009 = some (ri ty 8 (bit (yn (hy h9)) (yM (hy h9)) (dg (yn (hy h9)) (yM (hy h9))) (hg h9) ((yn (hy h9)) - 1))) ∧ (∀ q, q ≠ 1009 → ct1 q = ct q) ∧ ((z = 1 ∧ ∀ q, q < (yn (hy h9)) → (bit (yn (hy h9)) (yM (hy h9)) (dg (yn (hy h9)) (yM (hy h9))) (hg h9) ((yn (hy h9)) - 1)) q ≠ -1) ∨ (z = 0 ∧ ∃ q, q < (yn (hy h9)) ∧ (bit (yn (hy h9)) (yM (hy h9)) (dg (yn (hy h9)) (yM (hy h9))) (hg h9) ((yn (hy h9)) - 1)) q = -1)))) args s 0 0 (rm_A ad ct s.heap.size)) (F0 m 9 ls []) := by
    intro k
    induction k with
    | zero => intro i8 hi8 hk; exact absurd hk (Nat.not_lt_zero _)
    | succ k ih_LZ =>
      intro i8 hi8 hk ctv_1 H locs hv0_1 _ hofv_1 _ hW hS ls hl
      refine lv_iload_n hx hb dX6_allBurn_9 rfl (lv_at hl 0 rfl) ?_
      refine lv_bipush (v := jI 8) hx hb dX6_allBurn_10 (by decide) ?_
      refine rm_icmp_ge (tgt := 36) hx hb ⟨by omega, by omega⟩ ⟨by omega, by omega⟩ dX6_allBurn_12 (by decide) (fun hc_2 => ?_) (fun hc_2 => ?_)
      · skip
        have hi : i8 = 8 := by omega
        have hk_3 : ctv_1 1009 = some (ri ty 8 (ini 8 ro)) := hv0_1.trans (congrArg (fun f => some (ri ty 8 f)) (by rw [hi]))
        have hl : lv_has ls 9 [(0, .ref (ad 1000)), (1, .int (jI ((h9 : Nat) : Int))), (2, .int (jI (((hy h9) : Nat) : Int)))] := lv_sub hl [1, 2, 3] rfl
        obtain ⟨ct_4, hs_4, ho_4, hW⟩ := rm_canon_i hW (g := (bit (yn (hy h9)) (yM (hy h9)) (dg (yn (hy h9)) (yM (hy h9))) (hg h9) 0)) hk_3 (fun j hj => by show ini 8 ro j = rd0 j; unfold ini rd0; rw [if_pos hj])
        have hof_4 : ∀ q, q ≠ 1009 → ct_4 q = ct q := fun q h0_4 => (ho_4 q h0_4).trans (hofv_1 q h0_4)
        refine lv_iconst (v := jI 0) hx hb dX6_allBurn_36 rfl ?_
        refine lv_istore_n (lv' := [(3, .int (jI 0)), (0, .ref (ad 1000)), (1, .int (jI ((h9 : Nat) : Int))), (2, .int (jI (((hy h9) : Nat) : Int)))]) hx hb dX6_allBurn_37 rfl hl (by decide) rfl (fun ls hl => ?_)
        refine lv_iconst (v := jI 1) hx hb dX6_allBurn_38 rfl ?_
        refine lv_istore (lv' := [(4, .int (jI 1)), (3, .int (jI 0)), (0, .ref (ad 1000)), (1, .int (jI ((h9 : Nat) : Int))), (2, .int (jI (((hy h9) : Nat) : Int)))]) hx hb dX6_allBurn_39 hl (by decide) rfl (fun ls hl => ?_)
        refine lv_iconst (v := jI 1) hx hb dX6_allBurn_41 rfl ?_
        refine lv_istore (lv' := [(5, .int (jI 1)), (4, .int (jI 1)), (3, .int (jI 0)), (0, .ref (ad 1000)), (1, .int (jI ((h9 : Nat) : Int))), (2, .int (jI (((hy h9) : Nat) : Int)))]) hx hb dX6_allBurn_42 hl (by decide) rfl (fun ls hl => ?_)
        have OUT : ∀ (k : Nat) (s9 : Nat) (mv : Int) (av : Int) (hs9 : s9 ≤ (yn (hy h9))) (hmv : (mv = 1 ∧ ((s9 + 1 : Nat) : Int) ≤ cntb (yn (hy h9)) (bit (yn (hy h9)) (yM (hy h9)) (dg (yn (hy h9)) (yM (hy h9))) (hg h9) s9)) ∨ (mv = 0 ∧ 1 ≤ s9 ∧ s9 - 1 ≤ (yn (hy h9)) - 1 ∧ (bit (yn (hy h9)) (yM (hy h9)) (dg (yn (hy h9)) (yM (hy h9))) (hg h9) s9) = (bit (yn (hy h9)) (yM (hy h9)) (dg (yn (hy h9)) (yM (hy h9))) (hg h9) (s9 - 1)) ∧ ((av = 1 ∧ ∀ q, q < (yn (hy h9)) → (bit (yn (hy h9)) (yM (hy h9)) (dg (yn (hy h9)) (yM (hy h9))) (hg h9) s9) q ≠ -1) ∨ (av = 0 ∧ exu 0 (yn (hy h9)) (bit (yn (hy h9)) (yM (hy h9)) (dg (yn (hy h9)) (yM (hy h9))) (hg h9) s9))))), (yn (hy h9)) - s9 < k → ∀ (ctv : rm_C) (H : Heap) (locs : List Loc), (ctv 1009 = some (ri ty 8 (bit (yn (hy h9)) (yM (hy h9)) (dg (yn (hy h9)) (yM (hy h9))) (hg h9) s9))) → ∀ (_ : True), (∀ q, q ≠ 1009 → ctv q = ct q) → ∀ (_ : True), rm_W D ad ctv (rm_A ad ct s.heap.size) H → va_S (rm_A ad ct s.heap.size) s.heap H locs → ∀ ls : Array Slot, lv_has ls 9 [(5, .int (jI (((s9 : Nat) : Int) + 1))), (3, .int (jI av)), (4, .int (jI mv)), (0, .ref (ad 1000)), (1, .int (jI ((h9 : Nat) : Int))), (2, .int (jI (((hy h9) : Nat) : Int)))] → W p l e (headSpec wsX6_allBurn ({ frames := 2, cells := 0, slots := 0, locals := 47 })).room s m args below meth c H locs 0 0 (MQ below (rm_Qi D ad ct s.heap.size (fun z ct1 => ct1 1009 = some (ri ty 8 (bit (yn (hy h9)) (yM (hy h9)) (dg (yn (hy h9)) (yM (hy h9))) (hg h9) ((yn (hy h9)) - 1))) ∧ (∀ q, q ≠ 1009 → ct1 q = ct q) ∧ ((z = 1 ∧ ∀ q, q < (yn (hy h9)) → (bit (yn (hy h9)) (yM (hy h9)) (dg (yn (hy h9)) (yM (hy h9))) (hg h9) ((yn (hy h9)) - 1)) q ≠ -1) ∨ (z = 0 ∧ ∃ q, q < (yn (hy h9)) ∧ (bit (yn (hy h9)) (yM (hy h9)) (dg (yn (hy h9)) (yM (hy h9))) (hg h9) ((yn (hy h9)) - 1)) q = -1)))) args s 0 0 (rm_A ad ct s.heap.size)) (F0 m 44 ls []) := by
          intro k
          induction k with
          | zero => intro s9 mv av hs9 hmv hk; exact absurd hk (Nat.not_lt_zero _)
          | succ k ih_OUT =>
            intro s9 mv av hs9 hmv hk ctv_5 H locs hv0_5 _ hofv_5 _ hW hS ls hl
            have hmr : mv = 0 ∨ mv = 1 := by rcases hmv with h | h; exact Or.inr h.1; exact Or.inl h.1
            have hsn : s9 ≤ (yn (hy h9)) := by
              rcases hmv with h | h
              · have h1 := cntb_le (bit (yn (hy h9)) (yM (hy h9)) (dg (yn (hy h9)) (yM (hy h9))) (hg h9) s9) (yn (hy h9)); omega
              · omega
            refine lv_iload hx hb dX6_allBurn_44 (lv_at hl 2 rfl) ?_
            refine rm_if_eq (tgt := 194) hx hb ⟨by omega, by omega⟩ dX6_allBurn_46 (by decide) (fun hc_6 => ?_) (fun hc_6 => ?_)
            · skip
              obtain ⟨hs1, hs2, hs3, hs4⟩ : 1 ≤ s9 ∧ s9 - 1 ≤ (yn (hy h9)) - 1 ∧ (bit (yn (hy h9)) (yM (hy h9)) (dg (yn (hy h9)) (yM (hy h9))) (hg h9) s9) = (bit (yn (hy h9)) (yM (hy h9)) (dg (yn (hy h9)) (yM (hy h9))) (hg h9) (s9 - 1)) ∧ _ := by rcases hmv with h | h; exact absurd h.1 (by omega); exact ⟨h.2.1, h.2.2.1, h.2.2.2.1, h.2.2.2.2⟩
              have hfx : (bit (yn (hy h9)) (yM (hy h9)) (dg (yn (hy h9)) (yM (hy h9))) (hg h9) ((yn (hy h9)) - 1)) = (bit (yn (hy h9)) (yM (hy h9)) (dg (yn (hy h9)) (yM (hy h9))) (hg h9) s9) := by
                have h1 := bit_stop (n := (yn (hy h9))) (M := (yM (hy h9))) (d := (dg (yn (hy h9)) (yM (hy h9)))) (g := hg h9) (s := s9 - 1) (by rw [show s9 - 1 + 1 = s9 by omega]; exact hs3) ((yn (hy h9)) - 1 - (s9 - 1))
                rw [show s9 - 1 + ((yn (hy h9)) - 1 - (s9 - 1)) = (yn (hy h9)) - 1 by omega] at h1
                rw [h1, hs3]
              refine lv_iload_n hx hb dX6_allBurn_194 rfl (lv_at hl 1 rfl) ?_
              exact W.zret hx hb hr (by rcases hs4 with h | h <;> rw [h.1] <;> decide) (fun t ht hw => ⟨⟨_, (av, ctv_5), rfl, ⟨rfl, ⟨by rw [hfx]; exact hv0_5, fun q h0 => hofv_5 q h0, by rw [hfx]; rcases hs4 with h | ⟨h, ⟨q2, q3, q4, q5⟩⟩; exact Or.inl h; exact Or.inr ⟨h, q2, q4, q5⟩⟩⟩, by show rm_W D ad _ _ t.heap; rw [ht]; exact hW⟩, hS.F ht⟩) hS.2.2 dX6_allBurn_195
            · skip
              have hcn : ((s9 + 1 : Nat) : Int) ≤ cntb (yn (hy h9)) (bit (yn (hy h9)) (yM (hy h9)) (dg (yn (hy h9)) (yM (hy h9))) (hg h9) s9) := by rcases hmv with h | h; exact h.2; exact absurd h.1 (by omega)
              have hcl := cntb_le (bit (yn (hy h9)) (yM (hy h9)) (dg (yn (hy h9)) (yM (hy h9))) (hg h9) s9) (yn (hy h9))
              refine lv_iconst (v := jI 0) hx hb dX6_allBurn_49 rfl ?_
              refine lv_istore (lv' := [(4, .int (jI 0)), (5, .int (jI (((s9 : Nat) : Int) + 1))), (3, .int (jI av)), (0, .ref (ad 1000)), (1, .int (jI ((h9 : Nat) : Int))), (2, .int (jI (((hy h9) : Nat) : Int)))]) hx hb dX6_allBurn_50 hl (by decide) rfl (fun ls hl => ?_)
              refine lv_iconst (v := jI 1) hx hb dX6_allBurn_52 rfl ?_
              refine lv_istore_n (lv' := [(3, .int (jI 1)), (4, .int (jI 0)), (5, .int (jI (((s9 : Nat) : Int) + 1))), (0, .ref (ad 1000)), (1, .int (jI ((h9 : Nat) : Int))), (2, .int (jI (((hy h9) : Nat) : Int)))]) hx hb dX6_allBurn_53 rfl hl (by decide) rfl (fun ls hl => ?_)
              refine lv_iconst (v := jI 1) hx hb dX6_allBurn_54 rfl ?_
              refine lv_istore (lv' := [(6, .int (jI 1)), (3, .int (jI 1)), (4, .int (jI 0)), (5, .int (jI (((s9 : Nat) : Int) + 1))), (0, .ref (ad 1000)), (1, .int (jI ((h9 : Nat) : Int))), (2, .int (jI (((hy h9) : Nat) : Int)))]) hx hb dX6_allBurn_55 hl (by decide) rfl (fun ls hl => ?_)
              have hk_7 : ctv_5 1009 = some (ri ty 8 (brd (yn (hy h9)) (yM (hy h9)) (dg (yn (hy h9)) (yM (hy h9))) (hg h9) ((s9 + 1 : Nat) : Int) 0 (bit (yn (hy h9)) (yM (hy h9)) (dg (yn (hy h9)) (yM (hy h9))) (hg h9) s9))) := hv0_5.trans (congrArg (fun f => some (ri ty 8 f)) (rfl))
              have LQ : ∀ (k : Nat) (p8 : Nat) (mv2 : Int) (av2 : Int) (hp8 : p8 ≤ (yn (hy h9)) - 1) (hmv2 : (mv2 = 0 ∧ (brd (yn (hy h9)) (yM (hy h9)) (dg (yn (hy h9)) (yM (hy h9))) (hg h9) ((s9 + 1 : Nat) : Int) p8 (bit (yn (hy h9)) (yM (hy h9)) (dg (yn (hy h9)) (yM (hy h9))) (hg h9) s9)) = (bit (yn (hy h9)) (yM (hy h9)) (dg (yn (hy h9)) (yM (hy h9))) (hg h9) s9)) ∨ (mv2 = 1 ∧ cntb (yn (hy h9)) (bit (yn (hy h9)) (yM (hy h9)) (dg (yn (hy h9)) (yM (hy h9))) (hg h9) s9) + 1 ≤ cntb (yn (hy h9)) (brd (yn (hy h9)) (yM (hy h9)) (dg (yn (hy h9)) (yM (hy h9))) (hg h9) ((s9 + 1 : Nat) : Int) p8 (bit (yn (hy h9)) (yM (hy h9)) (dg (yn (hy h9)) (yM (hy h9))) (hg h9) s9)))) (hav : (av2 = 1 ∧ ∀ q, 1 ≤ q → q < p8 + 1 → (brd (yn (hy h9)) (yM (hy h9)) (dg (yn (hy h9)) (yM (hy h9))) (hg h9) ((s9 + 1 : Nat) : Int) p8 (bit (yn (hy h9)) (yM (hy h9)) (dg (yn (hy h9)) (yM (hy h9))) (hg h9) s9)) q ≠ -1) ∨ (av2 = 0 ∧ exu 1 (p8 + 1) (brd (yn (hy h9)) (yM (hy h9)) (dg (yn (hy h9)) (yM (hy h9))) (hg h9) ((s9 + 1 : Nat) : Int) p8 (bit (yn (hy h9)) (yM (hy h9)) (dg (yn (hy h9)) (yM (hy h9))) (hg h9) s9)))), (yn (hy h9)) - p8 < k → ∀ (ctv : rm_C) (H : Heap) (locs : List Loc), (ctv 1009 = some (ri ty 8 (brd (yn (hy h9)) (yM (hy h9)) (dg (yn (hy h9)) (yM (hy h9))) (hg h9) ((s9 + 1 : Nat) : Int) p8 (bit (yn (hy h9)) (yM (hy h9)) (dg (yn (hy h9)) (yM (hy h9))) (hg h9) s9)))) → ∀ (_ : True), (∀ q, q ≠ 1009 → ctv q = ct q) → ∀ (_ : True), rm_W D ad ctv (rm_A ad ct s.heap.size) H → va_S (rm_A ad ct s.heap.size) s.heap H locs → ∀ ls : Array Slot, lv_has ls 9 [(6, .int (jI (((p8 + 1) : Nat) : Int))), (3, .int (jI av2)), (4, .int (jI mv2)), (5, .int (jI (((s9 : Nat) : Int) + 1))), (0, .ref (ad 1000)), (1, .int (jI ((h9 : Nat) : Int))), (2, .int (jI (((hy h9) : Nat) : Int)))] → W p l e (headSpec wsX6_allBurn ({ frames := 2, cells := 0, slots := 0, locals := 47 })).room s m args below meth c H locs 0 0 (MQ below (rm_Qi D ad ct s.heap.size (fun z ct1 => ct1 1009 = some (ri ty 8 (bit (yn (hy h9)) (yM (hy h9)) (dg (yn (hy h9)) (yM (hy h9))) (hg h9) ((yn (hy h9)) - 1))) ∧ (∀ q, q ≠ 1009 → ct1 q = ct q) ∧ ((z = 1 ∧ ∀ q, q < (yn (hy h9)) → (bit (yn (hy h9)) (yM (hy h9)) (dg (yn (hy h9)) (yM (hy h9))) (hg h9) ((yn (hy h9)) - 1)) q ≠ -1) ∨ (z = 0 ∧ ∃ q, q < (yn (hy h9)) ∧ (bit (yn (hy h9)) (yM (hy h9)) (dg (yn (hy h9)) (yM (hy h9))) (hg h9) ((yn (hy h9)) - 1)) q = -1)))) args s 0 0 (rm_A ad ct s.heap.size)) (F0 m 57 ls []) := by
                intro k
                induction k with
                | zero => intro p8 mv2 av2 hp8 hmv2 hav hk; exact absurd hk (Nat.not_lt_zero _)
                | succ k ih_LQ =>
                  intro p8 mv2 av2 hp8 hmv2 hav hk ctv_8 H locs hv0_8 _ hofv_8 _ hW hS ls hl
                  have hvr := brd_rng (n := (yn (hy h9))) (M := (yM (hy h9))) (d := (dg (yn (hy h9)) (yM (hy h9)))) (g := hg h9) (r := ((s9 + 1 : Nat) : Int)) (rd := (bit (yn (hy h9)) (yM (hy h9)) (dg (yn (hy h9)) (yM (hy h9))) (hg h9) s9)) ⟨by omega, by omega⟩ (bit_rng s9 (by omega)) p8
                  have hbs := brd_s (yn (hy h9)) (yM (hy h9)) (dg (yn (hy h9)) (yM (hy h9))) (hg h9) ((s9 + 1 : Nat) : Int) p8 (bit (yn (hy h9)) (yM (hy h9)) (dg (yn (hy h9)) (yM (hy h9))) (hg h9) s9)
                  unfold bst at hbs
                  have hvp := hvr (p8 + 1)
                  refine lv_iload hx hb dX6_allBurn_57 (lv_at hl 0 rfl) ?_
                  refine lv_aload_n hx hb dX6_allBurn_59 rfl (lv_at hl 4 rfl) ?_
                  refine lv_iload_n hx hb dX6_allBurn_60 rfl (lv_at hl 5 rfl) ?_
                  refine rm_calli (va_runV (As := [.int (jI ((h9 : Nat) : Int))]) (rest := [.int (jI (((p8 + 1) : Nat) : Int))]) ⟨hx, hb, hml, hown, hts⟩ (c_X6_size l D ty ad ctv_8 H.size th yc hc yn yM yu hy hg hf mA pt (brd (yn (hy h9)) (yM (hy h9)) (dg (yn (hy h9)) (yM (hy h9))) (hg h9) ((s9 + 1 : Nat) : Int) p8 (bit (yn (hy h9)) (yM (hy h9)) (dg (yn (hy h9)) (yM (hy h9))) (hg h9) s9)) ke kt mu sl tw bw de ⟨((hofv_8 1000 (by omega)).trans hMo.1), ((hofv_8 1001 (by omega)).trans hMo.2.1), ((hofv_8 1002 (by omega)).trans hMo.2.2.1), ((hofv_8 1003 (by omega)).trans hMo.2.2.2.1), ((hofv_8 1004 (by omega)).trans hMo.2.2.2.2.1), ((hofv_8 1005 (by omega)).trans hMo.2.2.2.2.2.1), ((hofv_8 1006 (by omega)).trans hMo.2.2.2.2.2.2.1), ((hofv_8 1007 (by omega)).trans hMo.2.2.2.2.2.2.2.1), ((hofv_8 1008 (by omega)).trans hMo.2.2.2.2.2.2.2.2.1), hv0_8, ((hofv_8 1010 (by omega)).trans hMo.2.2.2.2.2.2.2.2.2.2.1), ((hofv_8 1011 (by omega)).trans hMo.2.2.2.2.2.2.2.2.2.2.2.1), ((hofv_8 1012 (by omega)).trans hMo.2.2.2.2.2.2.2.2.2.2.2.2.1), ((hofv_8 1013 (by omega)).trans hMo.2.2.2.2.2.2.2.2.2.2.2.2.2.1), ((hofv_8 1014 (by omega)).trans hMo.2.2.2.2.2.2.2.2.2.2.2.2.2.2.1), ((hofv_8 1015 (by omega)).trans hMo.2.2.2.2.2.2.2.2.2.2.2.2.2.2.2.1), ((hofv_8 1016 (by omega)).trans hMo.2.2.2.2.2.2.2.2.2.2.2.2.2.2.2.2)⟩ h9 hh9 hyh) (cwV 1 hts gX6_allBurn_X6_size rfl rfl rfl (by decide +kernel) ⟨Nat.le_of_ble_eq_true rfl, Nat.le_of_ble_eq_true rfl⟩) (rm_preV hK hNw hW ((hofv_8 1000 (by omega)).trans hMo.1) rfl) rfl rfl hl.1 rfl (lv_room (Nat.le_of_ble_eq_true rfl)) dX6_allBurn_61 ⟨Nat.zero_le _, Nat.zero_le _⟩) hW hS hA (fun z_9 ct_9 H locs hq_9 hW hS => ?_)
                  obtain ⟨hz, hcc_9⟩ := hq_9
                  have hcc_9 := hcc_9.symm
                  subst hcc_9
                  subst hz
                  refine rm_icmp_ge (tgt := 188) hx hb ⟨by omega, by omega⟩ ⟨by omega, by omega⟩ dX6_allBurn_64 (by decide) (fun hc_10 => ?_) (fun hc_10 => ?_)
                  · skip
                    have hpe : p8 = (yn (hy h9)) - 1 := by omega
                    rw [hpe] at hav hmv2
                    have hk_11 : ctv_8 1009 = some (ri ty 8 (bit (yn (hy h9)) (yM (hy h9)) (dg (yn (hy h9)) (yM (hy h9))) (hg h9) (s9 + 1))) := hv0_8.trans (congrArg (fun f => some (ri ty 8 f)) (by rw [hpe]; rfl))
                    have hl : lv_has ls 9 [(3, .int (jI av2)), (4, .int (jI mv2)), (5, .int (jI (((s9 : Nat) : Int) + 1))), (0, .ref (ad 1000)), (1, .int (jI ((h9 : Nat) : Int))), (2, .int (jI (((hy h9) : Nat) : Int)))] := lv_sub hl [1, 2, 3, 4, 5, 6] rfl
                    refine lv_iinc (v := jI ((((s9 : Nat) : Int) + 1) + 1)) (lv' := [(5, .int (jI ((((s9 : Nat) : Int) + 1) + 1))), (3, .int (jI av2)), (4, .int (jI mv2)), (0, .ref (ad 1000)), (1, .int (jI ((h9 : Nat) : Int))), (2, .int (jI (((hy h9) : Nat) : Int)))]) hx hb dX6_allBurn_188 hl (k := 2) rfl (jI_add _ _) (by decide) rfl (fun ls hl => ?_)
                    refine lv_goto (tgt := 44) hx hb dX6_allBurn_191 (by decide) ?_
                    exact ih_OUT (s9 + 1) (mv2) (av2) (by omega) (by
                        have hbe : (bit (yn (hy h9)) (yM (hy h9)) (dg (yn (hy h9)) (yM (hy h9))) (hg h9) (s9 + 1)) = (brd (yn (hy h9)) (yM (hy h9)) (dg (yn (hy h9)) (yM (hy h9))) (hg h9) ((s9 + 1 : Nat) : Int) ((yn (hy h9)) - 1) (bit (yn (hy h9)) (yM (hy h9)) (dg (yn (hy h9)) (yM (hy h9))) (hg h9) s9)) := rfl
                        rw [← hbe] at hmv2 hav
                        rcases hmv2 with h | h
                        · refine Or.inr ⟨h.1, by omega, by omega, h.2, ?_⟩
                          rcases hav with q | ⟨q1, q2⟩
                          · refine Or.inl ⟨q.1, fun q9 hq9 => ?_⟩
                            by_cases e0 : q9 = 0
                            · rw [e0, bit_zero]; omega
                            · exact q.2 q9 (by omega) (by omega)
                          · exact Or.inr ⟨q1, by obtain ⟨q2, q3, q4, q5⟩ := q2; exact ⟨q2, by omega, by omega, q5⟩⟩
                        · exact Or.inl ⟨h.1, by omega⟩) (by omega) ctv_8 _ _ hk_11 trivial hofv_8 trivial hW hS ls (lv_sub hl [0, 1, 2, 3, 4, 5] rfl)
                  · skip
                    refine lv_aload_n hx hb dX6_allBurn_67 rfl (lv_at hl 4 rfl) ?_
                    refine rm_get (ci := 6) (v := .ref (ad 1009)) (C := RX6) (T := TX6) (N := 19) hx hb hts (by decide +kernel) hown hK hW ((hofv_8 1000 (by omega)).trans hMo.1) rfl 11 (by decide) (hts (.fieldLink RX6 36 "GrainYardModel" "round" "[I") (by decide +kernel)) (fun _ h9 => h9) rfl dX6_allBurn_68 ?_
                    refine lv_iload hx hb dX6_allBurn_71 (lv_at hl 0 rfl) ?_
                    refine rm_iald hx hb hK hW (f := (brd (yn (hy h9)) (yM (hy h9)) (dg (yn (hy h9)) (yM (hy h9))) (hg h9) ((s9 + 1 : Nat) : Int) p8 (bit (yn (hy h9)) (yM (hy h9)) (dg (yn (hy h9)) (yM (hy h9))) (hg h9) s9))) hv0_8 (p8 + 1) rfl (by omega) (by omega) dX6_allBurn_73 ?_
                    refine lv_iconst (v := jI (-1)) hx hb dX6_allBurn_74 rfl ?_
                    refine rm_icmp_eq (tgt := 81) hx hb ⟨by omega, by omega⟩ ⟨by omega, by omega⟩ dX6_allBurn_75 (by decide) (fun hc_12 => ?_) (fun hc_12 => ?_)
                    · skip
                      have hun : (brd (yn (hy h9)) (yM (hy h9)) (dg (yn (hy h9)) (yM (hy h9))) (hg h9) ((s9 + 1 : Nat) : Int) p8 (bit (yn (hy h9)) (yM (hy h9)) (dg (yn (hy h9)) (yM (hy h9))) (hg h9) s9)) (p8 + 1) = -1 := by omega
                      refine lv_aload_n hx hb dX6_allBurn_81 rfl (lv_at hl 4 rfl) ?_
                      refine lv_iload_n hx hb dX6_allBurn_82 rfl (lv_at hl 6 rfl) ?_
                      refine lv_iload hx hb dX6_allBurn_83 (lv_at hl 0 rfl) ?_
                      refine rm_calli (va_runV (As := [.int (jI (((hy h9) : Nat) : Int)), .int (jI (((p8 + 1) : Nat) : Int))]) (rest := []) ⟨hx, hb, hml, hown, hts⟩ (c_X6_degreeOf l D ty ad ctv_8 H.size th yc hc yn yM yu hy hg hf mA pt (brd (yn (hy h9)) (yM (hy h9)) (dg (yn (hy h9)) (yM (hy h9))) (hg h9) ((s9 + 1 : Nat) : Int) p8 (bit (yn (hy h9)) (yM (hy h9)) (dg (yn (hy h9)) (yM (hy h9))) (hg h9) s9)) ke kt mu sl tw bw de ⟨((hofv_8 1000 (by omega)).trans hMo.1), ((hofv_8 1001 (by omega)).trans hMo.2.1), ((hofv_8 1002 (by omega)).trans hMo.2.2.1), ((hofv_8 1003 (by omega)).trans hMo.2.2.2.1), ((hofv_8 1004 (by omega)).trans hMo.2.2.2.2.1), ((hofv_8 1005 (by omega)).trans hMo.2.2.2.2.2.1), ((hofv_8 1006 (by omega)).trans hMo.2.2.2.2.2.2.1), ((hofv_8 1007 (by omega)).trans hMo.2.2.2.2.2.2.2.1), ((hofv_8 1008 (by omega)).trans hMo.2.2.2.2.2.2.2.2.1), hv0_8, ((hofv_8 1010 (by omega)).trans hMo.2.2.2.2.2.2.2.2.2.2.1), ((hofv_8 1011 (by omega)).trans hMo.2.2.2.2.2.2.2.2.2.2.2.1), ((hofv_8 1012 (by omega)).trans hMo.2.2.2.2.2.2.2.2.2.2.2.2.1), ((hofv_8 1013 (by omega)).trans hMo.2.2.2.2.2.2.2.2.2.2.2.2.2.1), ((hofv_8 1014 (by omega)).trans hMo.2.2.2.2.2.2.2.2.2.2.2.2.2.2.1), ((hofv_8 1015 (by omega)).trans hMo.2.2.2.2.2.2.2.2.2.2.2.2.2.2.2.1), ((hofv_8 1016 (by omega)).trans hMo.2.2.2.2.2.2.2.2.2.2.2.2.2.2.2.2)⟩ (hy h9) hyh hn9 hM9 (p8 + 1) (by omega)) (cwV 2 hts gX6_allBurn_X6_degreeOf rfl rfl rfl (by decide +kernel) ⟨Nat.le_of_ble_eq_true rfl, Nat.le_of_ble_eq_true rfl⟩) (rm_preV hK hNw hW ((hofv_8 1000 (by omega)).trans hMo.1) rfl) rfl rfl hl.1 rfl (lv_room (Nat.le_of_ble_eq_true rfl)) dX6_allBurn_85 ⟨Nat.zero_le _, Nat.zero_le _⟩) hW hS hA (fun z_13 ct_13 H locs hq_13 hW hS => ?_)
                      obtain ⟨hz, hcc_13⟩ := hq_13
                      have hcc_13 := hcc_13.symm
                      subst hcc_13
                      subst hz
                      have hdq := hdr (p8 + 1)
                      refine lv_istore (lv' := [(7, .int (jI (dg (yn (hy h9)) (yM (hy h9)) (p8 + 1)))), (6, .int (jI (((p8 + 1) : Nat) : Int))), (3, .int (jI av2)), (4, .int (jI mv2)), (5, .int (jI (((s9 : Nat) : Int) + 1))), (0, .ref (ad 1000)), (1, .int (jI ((h9 : Nat) : Int))), (2, .int (jI (((hy h9) : Nat) : Int)))]) hx hb dX6_allBurn_88 hl (by decide) rfl (fun ls hl => ?_)
                      refine lv_iconst (v := jI 0) hx hb dX6_allBurn_90 rfl ?_
                      refine lv_istore (lv' := [(8, .int (jI 0)), (7, .int (jI (dg (yn (hy h9)) (yM (hy h9)) (p8 + 1)))), (6, .int (jI (((p8 + 1) : Nat) : Int))), (3, .int (jI av2)), (4, .int (jI mv2)), (5, .int (jI (((s9 : Nat) : Int) + 1))), (0, .ref (ad 1000)), (1, .int (jI ((h9 : Nat) : Int))), (2, .int (jI (((hy h9) : Nat) : Int)))]) hx hb dX6_allBurn_91 hl (by decide) rfl (fun ls hl => ?_)
                      have hl : lv_has ls 9 [(8, .int (jI 0)), (7, .int (jI (ltb (yM (hy h9)) (dg (yn (hy h9)) (yM (hy h9))) (brd (yn (hy h9)) (yM (hy h9)) (dg (yn (hy h9)) (yM (hy h9))) (hg h9) ((s9 + 1 : Nat) : Int) p8 (bit (yn (hy h9)) (yM (hy h9)) (dg (yn (hy h9)) (yM (hy h9))) (hg h9) s9)) (p8 + 1) ((s9 + 1 : Nat) : Int) 0))), (6, .int (jI (((p8 + 1) : Nat) : Int))), (3, .int (jI av2)), (4, .int (jI mv2)), (5, .int (jI (((s9 : Nat) : Int) + 1))), (0, .ref (ad 1000)), (1, .int (jI ((h9 : Nat) : Int))), (2, .int (jI (((hy h9) : Nat) : Int)))] := by rw [ltb_0]; exact hl
                      have LK : ∀ (k : Nat) (k8 : Nat) (hk8 : k8 ≤ (yn (hy h9))), (yn (hy h9)) - k8 < k → ∀ (ctv : rm_C) (H : Heap) (locs : List Loc), (ctv 1009 = some (ri ty 8 (brd (yn (hy h9)) (yM (hy h9)) (dg (yn (hy h9)) (yM (hy h9))) (hg h9) ((s9 + 1 : Nat) : Int) p8 (bit (yn (hy h9)) (yM (hy h9)) (dg (yn (hy h9)) (yM (hy h9))) (hg h9) s9)))) → ∀ (_ : True), (∀ q, q ≠ 1009 → ctv q = ct q) → ∀ (_ : True), rm_W D ad ctv (rm_A ad ct s.heap.size) H → va_S (rm_A ad ct s.heap.size) s.heap H locs → ∀ ls : Array Slot, lv_has ls 9 [(8, .int (jI ((k8 : Nat) : Int))), (7, .int (jI (ltb (yM (hy h9)) (dg (yn (hy h9)) (yM (hy h9))) (brd (yn (hy h9)) (yM (hy h9)) (dg (yn (hy h9)) (yM (hy h9))) (hg h9) ((s9 + 1 : Nat) : Int) p8 (bit (yn (hy h9)) (yM (hy h9)) (dg (yn (hy h9)) (yM (hy h9))) (hg h9) s9)) (p8 + 1) ((s9 + 1 : Nat) : Int) k8))), (3, .int (jI av2)), (4, .int (jI mv2)), (5, .int (jI (((s9 : Nat) : Int) + 1))), (6, .int (jI (((p8 + 1) : Nat) : Int))), (0, .ref (ad 1000)), (1, .int (jI ((h9 : Nat) : Int))), (2, .int (jI (((hy h9) : Nat) : Int)))] → W p l e (headSpec wsX6_allBurn ({ frames := 2, cells := 0, slots := 0, locals := 47 })).room s m args below meth c H locs 0 0 (MQ below (rm_Qi D ad ct s.heap.size (fun z ct1 => ct1 1009 = some (ri ty 8 (bit (yn (hy h9)) (yM (hy h9)) (dg (yn (hy h9)) (yM (hy h9))) (hg h9) ((yn (hy h9)) - 1))) ∧ (∀ q, q ≠ 1009 → ct1 q = ct q) ∧ ((z = 1 ∧ ∀ q, q < (yn (hy h9)) → (bit (yn (hy h9)) (yM (hy h9)) (dg (yn (hy h9)) (yM (hy h9))) (hg h9) ((yn (hy h9)) - 1)) q ≠ -1) ∨ (z = 0 ∧ ∃ q, q < (yn (hy h9)) ∧ (bit (yn (hy h9)) (yM (hy h9)) (dg (yn (hy h9)) (yM (hy h9))) (hg h9) ((yn (hy h9)) - 1)) q = -1)))) args s 0 0 (rm_A ad ct s.heap.size)) (F0 m 93 ls []) := by
                        intro k
                        induction k with
                        | zero => intro k8 hk8 hk; exact absurd hk (Nat.not_lt_zero _)
                        | succ k ih_LK =>
                          intro k8 hk8 hk ctv_14 H locs hv0_14 _ hofv_14 _ hW hS ls hl
                          have hkr := hvr k8
                          have hls := ltb_s (yM (hy h9)) (dg (yn (hy h9)) (yM (hy h9))) (brd (yn (hy h9)) (yM (hy h9)) (dg (yn (hy h9)) (yM (hy h9))) (hg h9) ((s9 + 1 : Nat) : Int) p8 (bit (yn (hy h9)) (yM (hy h9)) (dg (yn (hy h9)) (yM (hy h9))) (hg h9) s9)) (p8 + 1) ((s9 + 1 : Nat) : Int) k8
                          refine lv_iload hx hb dX6_allBurn_93 (lv_at hl 0 rfl) ?_
                          refine lv_aload_n hx hb dX6_allBurn_95 rfl (lv_at hl 6 rfl) ?_
                          refine lv_iload_n hx hb dX6_allBurn_96 rfl (lv_at hl 7 rfl) ?_
                          refine rm_calli (va_runV (As := [.int (jI ((h9 : Nat) : Int))]) (rest := [.int (jI ((k8 : Nat) : Int))]) ⟨hx, hb, hml, hown, hts⟩ (c_X6_size l D ty ad ctv_14 H.size th yc hc yn yM yu hy hg hf mA pt (brd (yn (hy h9)) (yM (hy h9)) (dg (yn (hy h9)) (yM (hy h9))) (hg h9) ((s9 + 1 : Nat) : Int) p8 (bit (yn (hy h9)) (yM (hy h9)) (dg (yn (hy h9)) (yM (hy h9))) (hg h9) s9)) ke kt mu sl tw bw de ⟨((hofv_14 1000 (by omega)).trans hMo.1), ((hofv_14 1001 (by omega)).trans hMo.2.1), ((hofv_14 1002 (by omega)).trans hMo.2.2.1), ((hofv_14 1003 (by omega)).trans hMo.2.2.2.1), ((hofv_14 1004 (by omega)).trans hMo.2.2.2.2.1), ((hofv_14 1005 (by omega)).trans hMo.2.2.2.2.2.1), ((hofv_14 1006 (by omega)).trans hMo.2.2.2.2.2.2.1), ((hofv_14 1007 (by omega)).trans hMo.2.2.2.2.2.2.2.1), ((hofv_14 1008 (by omega)).trans hMo.2.2.2.2.2.2.2.2.1), hv0_14, ((hofv_14 1010 (by omega)).trans hMo.2.2.2.2.2.2.2.2.2.2.1), ((hofv_14 1011 (by omega)).trans hMo.2.2.2.2.2.2.2.2.2.2.2.1), ((hofv_14 1012 (by omega)).trans hMo.2.2.2.2.2.2.2.2.2.2.2.2.1), ((hofv_14 1013 (by omega)).trans hMo.2.2.2.2.2.2.2.2.2.2.2.2.2.1), ((hofv_14 1014 (by omega)).trans hMo.2.2.2.2.2.2.2.2.2.2.2.2.2.2.1), ((hofv_14 1015 (by omega)).trans hMo.2.2.2.2.2.2.2.2.2.2.2.2.2.2.2.1), ((hofv_14 1016 (by omega)).trans hMo.2.2.2.2.2.2.2.2.2.2.2.2.2.2.2.2)⟩ h9 hh9 hyh) (cwV 1 hts gX6_allBurn_X6_size rfl rfl rfl (by decide +kernel) ⟨Nat.le_of_ble_eq_true rfl, Nat.le_of_ble_eq_true rfl⟩) (rm_preV hK hNw hW ((hofv_14 1000 (by omega)).trans hMo.1) rfl) rfl rfl hl.1 rfl (lv_room (Nat.le_of_ble_eq_true rfl)) dX6_allBurn_97 ⟨Nat.zero_le _, Nat.zero_le _⟩) hW hS hA (fun z_15 ct_15 H locs hq_15 hW hS => ?_)
                          obtain ⟨hz, hcc_15⟩ := hq_15
                          have hcc_15 := hcc_15.symm
                          subst hcc_15
                          subst hz
                          refine rm_icmp_ge (tgt := 146) hx hb ⟨by omega, by omega⟩ ⟨by omega, by omega⟩ dX6_allBurn_100 (by decide) (fun hc_16 => ?_) (fun hc_16 => ?_)
                          · skip
                            have hke : k8 = (yn (hy h9)) := by omega
                            have hl : lv_has ls 9 [(7, .int (jI (ltb (yM (hy h9)) (dg (yn (hy h9)) (yM (hy h9))) (brd (yn (hy h9)) (yM (hy h9)) (dg (yn (hy h9)) (yM (hy h9))) (hg h9) ((s9 + 1 : Nat) : Int) p8 (bit (yn (hy h9)) (yM (hy h9)) (dg (yn (hy h9)) (yM (hy h9))) (hg h9) s9)) (p8 + 1) ((s9 + 1 : Nat) : Int) k8))), (3, .int (jI av2)), (4, .int (jI mv2)), (5, .int (jI (((s9 : Nat) : Int) + 1))), (6, .int (jI (((p8 + 1) : Nat) : Int))), (0, .ref (ad 1000)), (1, .int (jI ((h9 : Nat) : Int))), (2, .int (jI (((hy h9) : Nat) : Int)))] := lv_sub hl [1, 2, 3, 4, 5, 6, 7, 8] rfl
                            have hl : lv_has ls 9 [(7, .int (jI (ltb (yM (hy h9)) (dg (yn (hy h9)) (yM (hy h9))) (brd (yn (hy h9)) (yM (hy h9)) (dg (yn (hy h9)) (yM (hy h9))) (hg h9) ((s9 + 1 : Nat) : Int) p8 (bit (yn (hy h9)) (yM (hy h9)) (dg (yn (hy h9)) (yM (hy h9))) (hg h9) s9)) (p8 + 1) ((s9 + 1 : Nat) : Int) (yn (hy h9))))), (3, .int (jI av2)), (4, .int (jI mv2)), (5, .int (jI (((s9 : Nat) : Int) + 1))), (6, .int (jI (((p8 + 1) : Nat) : Int))), (0, .ref (ad 1000)), (1, .int (jI ((h9 : Nat) : Int))), (2, .int (jI (((hy h9) : Nat) : Int)))] := by rw [hke] at hl; exact hl
                            have hlr := ltb_rng hM9 (dg (yn (hy h9)) (yM (hy h9))) (brd (yn (hy h9)) (yM (hy h9)) (dg (yn (hy h9)) (yM (hy h9))) (hg h9) ((s9 + 1 : Nat) : Int) p8 (bit (yn (hy h9)) (yM (hy h9)) (dg (yn (hy h9)) (yM (hy h9))) (hg h9) s9)) (p8 + 1) ((s9 + 1 : Nat) : Int) (yn (hy h9))
                            refine lv_aload_n hx hb dX6_allBurn_146 rfl (lv_at hl 5 rfl) ?_
                            refine rm_get (ci := 6) (v := .ref (ad 1005)) (C := RX6) (T := TX6) (N := 19) hx hb hts (by decide +kernel) hown hK hW ((hofv_14 1000 (by omega)).trans hMo.1) rfl 7 (by decide) (hts (.fieldLink RX6 23 "GrainYardModel" "grains" "[J") (by decide +kernel)) (fun _ h9 => h9) rfl dX6_allBurn_147 ?_
                            refine lv_bipush (v := jI 8) hx hb dX6_allBurn_150 (by decide) ?_
                            refine lv_iload_n hx hb dX6_allBurn_152 rfl (lv_at hl 6 rfl) ?_
                            refine rm_imul hx hb dX6_allBurn_153 ?_
                            refine lv_iload hx hb dX6_allBurn_154 (lv_at hl 4 rfl) ?_
                            refine rm_iadd hx hb dX6_allBurn_156 ?_
                            refine rm_lald hx hb hK hW (f := (fl 8 hg)) ((hofv_14 1005 (by omega)).trans hMo.2.2.2.2.2.1) (8 * h9 + (p8 + 1)) (by first | rfl | (push_cast; omega)) (by omega) (by omega) dX6_allBurn_157 ?_
                            rw [fl_at (by omega)]
                            refine lv_iload hx hb dX6_allBurn_158 (lv_at hl 0 rfl) ?_
                            refine rm_i2l hx hb dX6_allBurn_160 ⟨by omega, by omega⟩ ?_
                            refine rm_lcmp hx hb (hg64 (p8 + 1) (by omega) (by omega)) ⟨by omega, by omega⟩ dX6_allBurn_161 ?_
                            refine rm_if_lt (tgt := 180) hx hb (lcv_rng _ _) dX6_allBurn_162 (by decide) (fun hc_17 => ?_) (fun hc_17 => ?_)
                            · skip
                              have hc_17 := lcv_lt.mp hc_17
                              rw [if_neg (fun hq => by have h2 := hq.2; omega)] at hbs
                              have hk_18 : ctv_14 1009 = some (ri ty 8 (brd (yn (hy h9)) (yM (hy h9)) (dg (yn (hy h9)) (yM (hy h9))) (hg h9) ((s9 + 1 : Nat) : Int) (p8 + 1) (bit (yn (hy h9)) (yM (hy h9)) (dg (yn (hy h9)) (yM (hy h9))) (hg h9) s9))) := hv0_14.trans (congrArg (fun f => some (ri ty 8 f)) (hbs.symm))
                              have hl : lv_has ls 9 [(3, .int (jI av2)), (4, .int (jI mv2)), (5, .int (jI (((s9 : Nat) : Int) + 1))), (6, .int (jI (((p8 + 1) : Nat) : Int))), (0, .ref (ad 1000)), (1, .int (jI ((h9 : Nat) : Int))), (2, .int (jI (((hy h9) : Nat) : Int)))] := lv_sub hl [1, 2, 3, 4, 5, 6, 7] rfl
                              refine lv_iconst (v := jI 0) hx hb dX6_allBurn_180 rfl ?_
                              refine lv_istore_n (lv' := [(3, .int (jI 0)), (4, .int (jI mv2)), (5, .int (jI (((s9 : Nat) : Int) + 1))), (6, .int (jI (((p8 + 1) : Nat) : Int))), (0, .ref (ad 1000)), (1, .int (jI ((h9 : Nat) : Int))), (2, .int (jI (((hy h9) : Nat) : Int)))]) hx hb dX6_allBurn_181 rfl hl (by decide) rfl (fun ls hl => ?_)
                              refine lv_iinc (v := jI ((((p8 + 1) : Nat) : Int) + 1)) (lv' := [(6, .int (jI ((((p8 + 1) : Nat) : Int) + 1))), (3, .int (jI 0)), (4, .int (jI mv2)), (5, .int (jI (((s9 : Nat) : Int) + 1))), (0, .ref (ad 1000)), (1, .int (jI ((h9 : Nat) : Int))), (2, .int (jI (((hy h9) : Nat) : Int)))]) hx hb dX6_allBurn_182 hl (k := 3) rfl (jI_add _ _) (by decide) rfl (fun ls hl => ?_)
                              refine lv_goto (tgt := 57) hx hb dX6_allBurn_185 (by decide) ?_
                              exact ih_LQ (p8 + 1) (mv2) (0) (by omega) (by rw [hbs]; exact hmv2) (Or.inr ⟨rfl, ⟨p8 + 1, by omega, by omega, by rw [hbs]; exact hun⟩⟩) (by omega) ctv_14 _ _ hk_18 trivial hofv_14 trivial hW hS ls (lv_sub hl [0, 1, 2, 3, 4, 5, 6] rfl)
                            · skip
                              have hc_17 := lcv_ge.mp hc_17
                              rw [if_pos ⟨hun, by omega⟩] at hbs
                              refine lv_aload_n hx hb dX6_allBurn_165 rfl (lv_at hl 5 rfl) ?_
                              refine rm_get (ci := 6) (v := .ref (ad 1009)) (C := RX6) (T := TX6) (N := 19) hx hb hts (by decide +kernel) hown hK hW ((hofv_14 1000 (by omega)).trans hMo.1) rfl 11 (by decide) (hts (.fieldLink RX6 36 "GrainYardModel" "round" "[I") (by decide +kernel)) (fun _ h9 => h9) rfl dX6_allBurn_166 ?_
                              refine lv_iload hx hb dX6_allBurn_169 (lv_at hl 4 rfl) ?_
                              refine lv_iload hx hb dX6_allBurn_171 (lv_at hl 3 rfl) ?_
                              refine rm_iast hx hb hK hW hS (f := (brd (yn (hy h9)) (yM (hy h9)) (dg (yn (hy h9)) (yM (hy h9))) (hg h9) ((s9 + 1 : Nat) : Int) p8 (bit (yn (hy h9)) (yM (hy h9)) (dg (yn (hy h9)) (yM (hy h9))) (hg h9) s9))) hv0_14 (p8 + 1) rfl (by omega) (by omega) dX6_allBurn_173 (fun H locs ct_19 hs_19 ho_19 hW hS hz_19 => ?_)
                              have hof_19 : ∀ q, q ≠ 1009 → ct_19 q = ct q := fun q h0_19 => (ho_19 q h0_19).trans (hofv_14 q h0_19)
                              have hk_20 : ct_19 1009 = some (ri ty 8 (brd (yn (hy h9)) (yM (hy h9)) (dg (yn (hy h9)) (yM (hy h9))) (hg h9) ((s9 + 1 : Nat) : Int) (p8 + 1) (bit (yn (hy h9)) (yM (hy h9)) (dg (yn (hy h9)) (yM (hy h9))) (hg h9) s9))) := hs_19.trans (congrArg (fun f => some (ri ty 8 f)) (hbs.symm))
                              have hl : lv_has ls 9 [(3, .int (jI av2)), (4, .int (jI mv2)), (5, .int (jI (((s9 : Nat) : Int) + 1))), (6, .int (jI (((p8 + 1) : Nat) : Int))), (0, .ref (ad 1000)), (1, .int (jI ((h9 : Nat) : Int))), (2, .int (jI (((hy h9) : Nat) : Int)))] := lv_sub hl [1, 2, 3, 4, 5, 6, 7] rfl
                              refine lv_iconst (v := jI 1) hx hb dX6_allBurn_174 rfl ?_
                              refine lv_istore (lv' := [(4, .int (jI 1)), (3, .int (jI av2)), (5, .int (jI (((s9 : Nat) : Int) + 1))), (6, .int (jI (((p8 + 1) : Nat) : Int))), (0, .ref (ad 1000)), (1, .int (jI ((h9 : Nat) : Int))), (2, .int (jI (((hy h9) : Nat) : Int)))]) hx hb dX6_allBurn_175 hl (by decide) rfl (fun ls hl => ?_)
                              refine lv_goto (tgt := 182) hx hb dX6_allBurn_177 (by decide) ?_
                              have hup := cntb_up (n := (yn (hy h9))) (p := p8 + 1) (r := ((s9 + 1 : Nat) : Int)) (by omega) hun (by omega)
                              refine lv_iinc (v := jI ((((p8 + 1) : Nat) : Int) + 1)) (lv' := [(6, .int (jI ((((p8 + 1) : Nat) : Int) + 1))), (4, .int (jI 1)), (3, .int (jI av2)), (5, .int (jI (((s9 : Nat) : Int) + 1))), (0, .ref (ad 1000)), (1, .int (jI ((h9 : Nat) : Int))), (2, .int (jI (((hy h9) : Nat) : Int)))]) hx hb dX6_allBurn_182 hl (k := 3) rfl (jI_add _ _) (by decide) rfl (fun ls hl => ?_)
                              refine lv_goto (tgt := 57) hx hb dX6_allBurn_185 (by decide) ?_
                              exact ih_LQ (p8 + 1) (1) (av2) (by omega) (Or.inr ⟨rfl, by rw [hbs, hup]; rcases hmv2 with h | h; rw [h.2]; omega; omega⟩) (by
                                  rw [hbs]
                                  rcases hav with q | ⟨q1, ⟨q2, q3, q4, q5⟩⟩
                                  · refine Or.inl ⟨q.1, fun q9 h1 h2 => ?_⟩
                                    by_cases e0 : q9 = p8 + 1
                                    · rw [e0, ub_s]; omega
                                    · rw [ub_n _ _ e0]; exact q.2 q9 h1 (by omega)
                                  · exact Or.inr ⟨q1, ⟨q2, q3, by omega, by rw [ub_n _ _ (by omega)]; exact q5⟩⟩) (by omega) ct_19 _ _ hk_20 trivial hof_19 trivial hW hS ls (lv_sub hl [0, 2, 1, 3, 4, 5, 6] rfl)
                          · skip
                            refine lv_aload_n hx hb dX6_allBurn_103 rfl (lv_at hl 6 rfl) ?_
                            refine rm_get (ci := 6) (v := .ref (ad 1009)) (C := RX6) (T := TX6) (N := 19) hx hb hts (by decide +kernel) hown hK hW ((hofv_14 1000 (by omega)).trans hMo.1) rfl 11 (by decide) (hts (.fieldLink RX6 36 "GrainYardModel" "round" "[I") (by decide +kernel)) (fun _ h9 => h9) rfl dX6_allBurn_104 ?_
                            refine lv_iload hx hb dX6_allBurn_107 (lv_at hl 0 rfl) ?_
                            refine rm_iald hx hb hK hW (f := (brd (yn (hy h9)) (yM (hy h9)) (dg (yn (hy h9)) (yM (hy h9))) (hg h9) ((s9 + 1 : Nat) : Int) p8 (bit (yn (hy h9)) (yM (hy h9)) (dg (yn (hy h9)) (yM (hy h9))) (hg h9) s9))) hv0_14 k8 rfl (by omega) (by omega) dX6_allBurn_109 ?_
                            refine lv_iconst (v := jI (-1)) hx hb dX6_allBurn_110 rfl ?_
                            refine rm_icmp_eq (tgt := 140) hx hb ⟨by omega, by omega⟩ ⟨by omega, by omega⟩ dX6_allBurn_111 (by decide) (fun hc_21 => ?_) (fun hc_21 => ?_)
                            · skip
                              rw [if_neg (by omega)] at hls
                              have hl : lv_has ls 9 [(8, .int (jI ((k8 : Nat) : Int))), (7, .int (jI (ltb (yM (hy h9)) (dg (yn (hy h9)) (yM (hy h9))) (brd (yn (hy h9)) (yM (hy h9)) (dg (yn (hy h9)) (yM (hy h9))) (hg h9) ((s9 + 1 : Nat) : Int) p8 (bit (yn (hy h9)) (yM (hy h9)) (dg (yn (hy h9)) (yM (hy h9))) (hg h9) s9)) (p8 + 1) ((s9 + 1 : Nat) : Int) (k8 + 1)))), (3, .int (jI av2)), (4, .int (jI mv2)), (5, .int (jI (((s9 : Nat) : Int) + 1))), (6, .int (jI (((p8 + 1) : Nat) : Int))), (0, .ref (ad 1000)), (1, .int (jI ((h9 : Nat) : Int))), (2, .int (jI (((hy h9) : Nat) : Int)))] := by rw [show (ltb (yM (hy h9)) (dg (yn (hy h9)) (yM (hy h9))) (brd (yn (hy h9)) (yM (hy h9)) (dg (yn (hy h9)) (yM (hy h9))) (hg h9) ((s9 + 1 : Nat) : Int) p8 (bit (yn (hy h9)) (yM (hy h9)) (dg (yn (hy h9)) (yM (hy h9))) (hg h9) s9)) (p8 + 1) ((s9 + 1 : Nat) : Int) (k8 + 1)) = (ltb (yM (hy h9)) (dg (yn (hy h9)) (yM (hy h9))) (brd (yn (hy h9)) (yM (hy h9)) (dg (yn (hy h9)) (yM (hy h9))) (hg h9) ((s9 + 1 : Nat) : Int) p8 (bit (yn (hy h9)) (yM (hy h9)) (dg (yn (hy h9)) (yM (hy h9))) (hg h9) s9)) (p8 + 1) ((s9 + 1 : Nat) : Int) k8) by omega]; exact hl
                              refine lv_iinc (v := jI (((k8 : Nat) : Int) + 1)) (lv' := [(8, .int (jI (((k8 : Nat) : Int) + 1))), (7, .int (jI (ltb (yM (hy h9)) (dg (yn (hy h9)) (yM (hy h9))) (brd (yn (hy h9)) (yM (hy h9)) (dg (yn (hy h9)) (yM (hy h9))) (hg h9) ((s9 + 1 : Nat) : Int) p8 (bit (yn (hy h9)) (yM (hy h9)) (dg (yn (hy h9)) (yM (hy h9))) (hg h9) s9)) (p8 + 1) ((s9 + 1 : Nat) : Int) (k8 + 1)))), (3, .int (jI av2)), (4, .int (jI mv2)), (5, .int (jI (((s9 : Nat) : Int) + 1))), (6, .int (jI (((p8 + 1) : Nat) : Int))), (0, .ref (ad 1000)), (1, .int (jI ((h9 : Nat) : Int))), (2, .int (jI (((hy h9) : Nat) : Int)))]) hx hb dX6_allBurn_140 hl (k := 0) rfl (jI_add _ _) (by decide) rfl (fun ls hl => ?_)
                              refine lv_goto (tgt := 93) hx hb dX6_allBurn_143 (by decide) ?_
                              exact ih_LK (k8 + 1) (by omega) (by omega) ctv_14 _ _ hv0_14 trivial hofv_14 trivial hW hS ls (lv_sub hl [0, 1, 2, 3, 4, 5, 6, 7, 8] rfl)
                            · skip
                              refine lv_aload_n hx hb dX6_allBurn_114 rfl (lv_at hl 6 rfl) ?_
                              refine rm_get (ci := 6) (v := .ref (ad 1009)) (C := RX6) (T := TX6) (N := 19) hx hb hts (by decide +kernel) hown hK hW ((hofv_14 1000 (by omega)).trans hMo.1) rfl 11 (by decide) (hts (.fieldLink RX6 36 "GrainYardModel" "round" "[I") (by decide +kernel)) (fun _ h9 => h9) rfl dX6_allBurn_115 ?_
                              refine lv_iload hx hb dX6_allBurn_118 (lv_at hl 0 rfl) ?_
                              refine rm_iald hx hb hK hW (f := (brd (yn (hy h9)) (yM (hy h9)) (dg (yn (hy h9)) (yM (hy h9))) (hg h9) ((s9 + 1 : Nat) : Int) p8 (bit (yn (hy h9)) (yM (hy h9)) (dg (yn (hy h9)) (yM (hy h9))) (hg h9) s9))) hv0_14 k8 rfl (by omega) (by omega) dX6_allBurn_120 ?_
                              refine lv_iload hx hb dX6_allBurn_121 (lv_at hl 4 rfl) ?_
                              refine rm_icmp_ge (tgt := 140) hx hb ⟨by omega, by omega⟩ ⟨by omega, by omega⟩ dX6_allBurn_123 (by decide) (fun hc_22 => ?_) (fun hc_22 => ?_)
                              · skip
                                rw [if_neg (by omega)] at hls
                                have hl : lv_has ls 9 [(8, .int (jI ((k8 : Nat) : Int))), (7, .int (jI (ltb (yM (hy h9)) (dg (yn (hy h9)) (yM (hy h9))) (brd (yn (hy h9)) (yM (hy h9)) (dg (yn (hy h9)) (yM (hy h9))) (hg h9) ((s9 + 1 : Nat) : Int) p8 (bit (yn (hy h9)) (yM (hy h9)) (dg (yn (hy h9)) (yM (hy h9))) (hg h9) s9)) (p8 + 1) ((s9 + 1 : Nat) : Int) (k8 + 1)))), (3, .int (jI av2)), (4, .int (jI mv2)), (5, .int (jI (((s9 : Nat) : Int) + 1))), (6, .int (jI (((p8 + 1) : Nat) : Int))), (0, .ref (ad 1000)), (1, .int (jI ((h9 : Nat) : Int))), (2, .int (jI (((hy h9) : Nat) : Int)))] := by rw [show (ltb (yM (hy h9)) (dg (yn (hy h9)) (yM (hy h9))) (brd (yn (hy h9)) (yM (hy h9)) (dg (yn (hy h9)) (yM (hy h9))) (hg h9) ((s9 + 1 : Nat) : Int) p8 (bit (yn (hy h9)) (yM (hy h9)) (dg (yn (hy h9)) (yM (hy h9))) (hg h9) s9)) (p8 + 1) ((s9 + 1 : Nat) : Int) (k8 + 1)) = (ltb (yM (hy h9)) (dg (yn (hy h9)) (yM (hy h9))) (brd (yn (hy h9)) (yM (hy h9)) (dg (yn (hy h9)) (yM (hy h9))) (hg h9) ((s9 + 1 : Nat) : Int) p8 (bit (yn (hy h9)) (yM (hy h9)) (dg (yn (hy h9)) (yM (hy h9))) (hg h9) s9)) (p8 + 1) ((s9 + 1 : Nat) : Int) k8) by omega]; exact hl
                                refine lv_iinc (v := jI (((k8 : Nat) : Int) + 1)) (lv' := [(8, .int (jI (((k8 : Nat) : Int) + 1))), (7, .int (jI (ltb (yM (hy h9)) (dg (yn (hy h9)) (yM (hy h9))) (brd (yn (hy h9)) (yM (hy h9)) (dg (yn (hy h9)) (yM (hy h9))) (hg h9) ((s9 + 1 : Nat) : Int) p8 (bit (yn (hy h9)) (yM (hy h9)) (dg (yn (hy h9)) (yM (hy h9))) (hg h9) s9)) (p8 + 1) ((s9 + 1 : Nat) : Int) (k8 + 1)))), (3, .int (jI av2)), (4, .int (jI mv2)), (5, .int (jI (((s9 : Nat) : Int) + 1))), (6, .int (jI (((p8 + 1) : Nat) : Int))), (0, .ref (ad 1000)), (1, .int (jI ((h9 : Nat) : Int))), (2, .int (jI (((hy h9) : Nat) : Int)))]) hx hb dX6_allBurn_140 hl (k := 0) rfl (jI_add _ _) (by decide) rfl (fun ls hl => ?_)
                                refine lv_goto (tgt := 93) hx hb dX6_allBurn_143 (by decide) ?_
                                exact ih_LK (k8 + 1) (by omega) (by omega) ctv_14 _ _ hv0_14 trivial hofv_14 trivial hW hS ls (lv_sub hl [0, 1, 2, 3, 4, 5, 6, 7, 8] rfl)
                              · skip
                                refine lv_iload hx hb dX6_allBurn_126 (lv_at hl 1 rfl) ?_
                                refine lv_aload_n hx hb dX6_allBurn_128 rfl (lv_at hl 6 rfl) ?_
                                refine lv_iload_n hx hb dX6_allBurn_129 rfl (lv_at hl 8 rfl) ?_
                                refine lv_iload hx hb dX6_allBurn_130 (lv_at hl 5 rfl) ?_
                                refine lv_iload hx hb dX6_allBurn_132 (lv_at hl 0 rfl) ?_
                                refine rm_calli (va_runV (As := [.int (jI (((hy h9) : Nat) : Int)), .int (jI (((p8 + 1) : Nat) : Int)), .int (jI ((k8 : Nat) : Int))]) (rest := [.int (jI (ltb (yM (hy h9)) (dg (yn (hy h9)) (yM (hy h9))) (brd (yn (hy h9)) (yM (hy h9)) (dg (yn (hy h9)) (yM (hy h9))) (hg h9) ((s9 + 1 : Nat) : Int) p8 (bit (yn (hy h9)) (yM (hy h9)) (dg (yn (hy h9)) (yM (hy h9))) (hg h9) s9)) (p8 + 1) ((s9 + 1 : Nat) : Int) k8))]) ⟨hx, hb, hml, hown, hts⟩ (c_X6_between l D ty ad ctv_14 H.size th yc hc yn yM yu hy hg hf mA pt (brd (yn (hy h9)) (yM (hy h9)) (dg (yn (hy h9)) (yM (hy h9))) (hg h9) ((s9 + 1 : Nat) : Int) p8 (bit (yn (hy h9)) (yM (hy h9)) (dg (yn (hy h9)) (yM (hy h9))) (hg h9) s9)) ke kt mu sl tw bw de ⟨((hofv_14 1000 (by omega)).trans hMo.1), ((hofv_14 1001 (by omega)).trans hMo.2.1), ((hofv_14 1002 (by omega)).trans hMo.2.2.1), ((hofv_14 1003 (by omega)).trans hMo.2.2.2.1), ((hofv_14 1004 (by omega)).trans hMo.2.2.2.2.1), ((hofv_14 1005 (by omega)).trans hMo.2.2.2.2.2.1), ((hofv_14 1006 (by omega)).trans hMo.2.2.2.2.2.2.1), ((hofv_14 1007 (by omega)).trans hMo.2.2.2.2.2.2.2.1), ((hofv_14 1008 (by omega)).trans hMo.2.2.2.2.2.2.2.2.1), hv0_14, ((hofv_14 1010 (by omega)).trans hMo.2.2.2.2.2.2.2.2.2.2.1), ((hofv_14 1011 (by omega)).trans hMo.2.2.2.2.2.2.2.2.2.2.2.1), ((hofv_14 1012 (by omega)).trans hMo.2.2.2.2.2.2.2.2.2.2.2.2.1), ((hofv_14 1013 (by omega)).trans hMo.2.2.2.2.2.2.2.2.2.2.2.2.2.1), ((hofv_14 1014 (by omega)).trans hMo.2.2.2.2.2.2.2.2.2.2.2.2.2.2.1), ((hofv_14 1015 (by omega)).trans hMo.2.2.2.2.2.2.2.2.2.2.2.2.2.2.2.1), ((hofv_14 1016 (by omega)).trans hMo.2.2.2.2.2.2.2.2.2.2.2.2.2.2.2.2)⟩ (hy h9) (p8 + 1) k8 hyh (by omega) (by omega)) (cwV 3 hts gX6_allBurn_X6_between rfl rfl rfl (by decide +kernel) ⟨Nat.le_of_ble_eq_true rfl, Nat.le_of_ble_eq_true rfl⟩) (rm_preV hK hNw hW ((hofv_14 1000 (by omega)).trans hMo.1) rfl) rfl rfl hl.1 rfl (lv_room (Nat.le_of_ble_eq_true rfl)) dX6_allBurn_134 ⟨Nat.zero_le _, Nat.zero_le _⟩) hW hS hA (fun z_23 ct_23 H locs hq_23 hW hS => ?_)
                                obtain ⟨hz, hcc_23⟩ := hq_23
                                have hcc_23 := hcc_23.symm
                                subst hcc_23
                                subst hz
                                refine rm_isub hx hb dX6_allBurn_137 ?_
                                refine lv_istore (lv' := [(7, .int (jI ((ltb (yM (hy h9)) (dg (yn (hy h9)) (yM (hy h9))) (brd (yn (hy h9)) (yM (hy h9)) (dg (yn (hy h9)) (yM (hy h9))) (hg h9) ((s9 + 1 : Nat) : Int) p8 (bit (yn (hy h9)) (yM (hy h9)) (dg (yn (hy h9)) (yM (hy h9))) (hg h9) s9)) (p8 + 1) ((s9 + 1 : Nat) : Int) k8) - ((yM (hy h9)) (p8 + 1) k8)))), (8, .int (jI ((k8 : Nat) : Int))), (3, .int (jI av2)), (4, .int (jI mv2)), (5, .int (jI (((s9 : Nat) : Int) + 1))), (6, .int (jI (((p8 + 1) : Nat) : Int))), (0, .ref (ad 1000)), (1, .int (jI ((h9 : Nat) : Int))), (2, .int (jI (((hy h9) : Nat) : Int)))]) hx hb dX6_allBurn_138 hl (by decide) rfl (fun ls hl => ?_)
                                rw [if_pos (by omega)] at hls
                                have hl : lv_has ls 9 [(7, .int (jI (ltb (yM (hy h9)) (dg (yn (hy h9)) (yM (hy h9))) (brd (yn (hy h9)) (yM (hy h9)) (dg (yn (hy h9)) (yM (hy h9))) (hg h9) ((s9 + 1 : Nat) : Int) p8 (bit (yn (hy h9)) (yM (hy h9)) (dg (yn (hy h9)) (yM (hy h9))) (hg h9) s9)) (p8 + 1) ((s9 + 1 : Nat) : Int) (k8 + 1)))), (8, .int (jI ((k8 : Nat) : Int))), (3, .int (jI av2)), (4, .int (jI mv2)), (5, .int (jI (((s9 : Nat) : Int) + 1))), (6, .int (jI (((p8 + 1) : Nat) : Int))), (0, .ref (ad 1000)), (1, .int (jI ((h9 : Nat) : Int))), (2, .int (jI (((hy h9) : Nat) : Int)))] := by rw [hls]; exact hl
                                refine lv_iinc (v := jI (((k8 : Nat) : Int) + 1)) (lv' := [(8, .int (jI (((k8 : Nat) : Int) + 1))), (7, .int (jI (ltb (yM (hy h9)) (dg (yn (hy h9)) (yM (hy h9))) (brd (yn (hy h9)) (yM (hy h9)) (dg (yn (hy h9)) (yM (hy h9))) (hg h9) ((s9 + 1 : Nat) : Int) p8 (bit (yn (hy h9)) (yM (hy h9)) (dg (yn (hy h9)) (yM (hy h9))) (hg h9) s9)) (p8 + 1) ((s9 + 1 : Nat) : Int) (k8 + 1)))), (3, .int (jI av2)), (4, .int (jI mv2)), (5, .int (jI (((s9 : Nat) : Int) + 1))), (6, .int (jI (((p8 + 1) : Nat) : Int))), (0, .ref (ad 1000)), (1, .int (jI ((h9 : Nat) : Int))), (2, .int (jI (((hy h9) : Nat) : Int)))]) hx hb dX6_allBurn_140 hl (k := 1) rfl (jI_add _ _) (by decide) rfl (fun ls hl => ?_)
                                refine lv_goto (tgt := 93) hx hb dX6_allBurn_143 (by decide) ?_
                                exact ih_LK (k8 + 1) (by omega) (by omega) ctv_14 _ _ hv0_14 trivial hofv_14 trivial hW hS ls (lv_sub hl [0, 1, 2, 3, 4, 5, 6, 7, 8] rfl)
                      exact LK ((yn (hy h9)) + 1) (0) (by omega) (by omega) ctv_8 _ _ hv0_8 trivial hofv_8 trivial hW hS ls (lv_sub hl [0, 1, 3, 4, 5, 2, 6, 7, 8] rfl)
                    · skip
                      rw [if_neg (fun hq => by have h1 := hq.1; omega)] at hbs
                      have hk_24 : ctv_8 1009 = some (ri ty 8 (brd (yn (hy h9)) (yM (hy h9)) (dg (yn (hy h9)) (yM (hy h9))) (hg h9) ((s9 + 1 : Nat) : Int) (p8 + 1) (bit (yn (hy h9)) (yM (hy h9)) (dg (yn (hy h9)) (yM (hy h9))) (hg h9) s9))) := hv0_8.trans (congrArg (fun f => some (ri ty 8 f)) (hbs.symm))
                      refine lv_goto (tgt := 182) hx hb dX6_allBurn_78 (by decide) ?_
                      refine lv_iinc (v := jI ((((p8 + 1) : Nat) : Int) + 1)) (lv' := [(6, .int (jI ((((p8 + 1) : Nat) : Int) + 1))), (3, .int (jI av2)), (4, .int (jI mv2)), (5, .int (jI (((s9 : Nat) : Int) + 1))), (0, .ref (ad 1000)), (1, .int (jI ((h9 : Nat) : Int))), (2, .int (jI (((hy h9) : Nat) : Int)))]) hx hb dX6_allBurn_182 hl (k := 0) rfl (jI_add _ _) (by decide) rfl (fun ls hl => ?_)
                      refine lv_goto (tgt := 57) hx hb dX6_allBurn_185 (by decide) ?_
                      exact ih_LQ (p8 + 1) (mv2) (av2) (by omega) (by rw [hbs]; exact hmv2) (by
                          rw [hbs]
                          rcases hav with q | ⟨q1, ⟨q2, q3, q4, q5⟩⟩
                          · refine Or.inl ⟨q.1, fun q9 h1 h2 => ?_⟩
                            by_cases e0 : q9 = p8 + 1
                            · rw [e0]; omega
                            · exact q.2 q9 h1 (by omega)
                          · exact Or.inr ⟨q1, ⟨q2, q3, by omega, q5⟩⟩) (by omega) ctv_8 _ _ hk_24 trivial hofv_8 trivial hW hS ls (lv_sub hl [0, 1, 2, 3, 4, 5, 6] rfl)
              exact LQ ((yn (hy h9)) + 1) (0) (0) (1) (by omega) (Or.inl ⟨rfl, rfl⟩) (Or.inl ⟨rfl, fun q h1 h2 => by omega⟩) (by omega) ctv_5 _ _ hk_7 trivial hofv_5 trivial hW hS ls (lv_sub hl [0, 1, 2, 3, 4, 5, 6] rfl)
        exact OUT ((yn (hy h9)) + 1) (0) (1) (0) (by omega) (Or.inl ⟨rfl, by
            have h1 : cntb (yn (hy h9)) (bit (yn (hy h9)) (yM (hy h9)) (dg (yn (hy h9)) (yM (hy h9))) (hg h9) 0) = cntb (yn (hy h9)) rd0 := rfl
            have h2 : 1 ≤ cntb (yn (hy h9)) rd0 := gs_ge (f := fun q => if rd0 q = -1 then (0 : Int) else 1) (p := 0) (fun k _ => by split <;> omega) (by omega)
            omega⟩) (by omega) ct_4 _ _ hs_4 trivial hof_4 trivial hW hS ls (lv_sub hl [0, 2, 1, 3, 4, 5] rfl)
      · skip
        refine lv_aload_n hx hb dX6_allBurn_15 rfl (lv_at hl 1 rfl) ?_
        refine rm_get (ci := 6) (v := .ref (ad 1009)) (C := RX6) (T := TX6) (N := 19) hx hb hts (by decide +kernel) hown hK hW ((hofv_1 1000 (by omega)).trans hMo.1) rfl 11 (by decide) (hts (.fieldLink RX6 36 "GrainYardModel" "round" "[I") (by decide +kernel)) (fun _ h9 => h9) rfl dX6_allBurn_16 ?_
        refine lv_iload_n hx hb dX6_allBurn_19 rfl (lv_at hl 0 rfl) ?_
        refine lv_iload_n hx hb dX6_allBurn_20 rfl (lv_at hl 0 rfl) ?_
        refine rm_if_ne (tgt := 28) hx hb ⟨by omega, by omega⟩ dX6_allBurn_21 (by decide) (fun hc_25 => ?_) (fun hc_25 => ?_)
        · skip
          refine lv_iconst (v := jI (-1)) hx hb dX6_allBurn_28 rfl ?_
          refine rm_iast hx hb hK hW hS (f := (ini i8 ro)) hv0_1 i8 rfl (by omega) (by omega) dX6_allBurn_29 (fun H locs ct_26 hs_26 ho_26 hW hS hz_26 => ?_)
          have hof_26 : ∀ q, q ≠ 1009 → ct_26 q = ct q := fun q h0_26 => (ho_26 q h0_26).trans (hofv_1 q h0_26)
          have hk_27 : ct_26 1009 = some (ri ty 8 (ini (i8 + 1) ro)) := hs_26.trans (congrArg (fun f => some (ri ty 8 f)) (ini_s _ (by omega)))
          refine lv_iinc (v := jI (((i8 : Nat) : Int) + 1)) (lv' := [(3, .int (jI (((i8 : Nat) : Int) + 1))), (0, .ref (ad 1000)), (1, .int (jI ((h9 : Nat) : Int))), (2, .int (jI (((hy h9) : Nat) : Int)))]) hx hb dX6_allBurn_30 hl (k := 0) rfl (jI_add _ _) (by decide) rfl (fun ls hl => ?_)
          refine lv_goto (tgt := 9) hx hb dX6_allBurn_33 (by decide) ?_
          exact ih_LZ (i8 + 1) (by omega) (by omega) ct_26 _ _ hk_27 trivial hof_26 trivial hW hS ls (lv_sub hl [0, 1, 2, 3] rfl)
        · skip
          have hi0 : i8 = 0 := by omega
          subst hi0
          refine lv_iconst (v := jI 0) hx hb dX6_allBurn_24 rfl ?_
          refine lv_goto (tgt := 29) hx hb dX6_allBurn_25 (by decide) ?_
          refine rm_iast hx hb hK hW hS (f := (ini 0 ro)) hv0_1 0 rfl (by omega) (by omega) dX6_allBurn_29 (fun H locs ct_28 hs_28 ho_28 hW hS hz_28 => ?_)
          have hof_28 : ∀ q, q ≠ 1009 → ct_28 q = ct q := fun q h0_28 => (ho_28 q h0_28).trans (hofv_1 q h0_28)
          have hk_29 : ct_28 1009 = some (ri ty 8 (ini (0 + 1) ro)) := hs_28.trans (congrArg (fun f => some (ri ty 8 f)) (ini_s0 _))
          refine lv_iinc (v := jI (0 + 1)) (lv' := [(3, .int (jI (0 + 1))), (0, .ref (ad 1000)), (1, .int (jI ((h9 : Nat) : Int))), (2, .int (jI (((hy h9) : Nat) : Int)))]) hx hb dX6_allBurn_30 hl (k := 0) rfl (jI_add _ _) (by decide) rfl (fun ls hl => ?_)
          refine lv_goto (tgt := 9) hx hb dX6_allBurn_33 (by decide) ?_
          exact ih_LZ (0 + 1) (by omega) (by omega) ct_28 _ _ hk_29 trivial hof_28 trivial hW hS ls (lv_sub hl [0, 1, 2, 3] rfl)
  exact LZ (9) (0) (by omega) (by omega) ct _ _ (hMo.2.2.2.2.2.2.2.2.2.1.trans (congrArg (fun f => some (ri ty 8 f)) (ini_0 _).symm)) trivial (fun _ _ => rfl) trivial hW hS ls (lv_sub hl [0, 2, 3, 1] rfl)
