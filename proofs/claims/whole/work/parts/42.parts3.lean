set_option maxHeartbeats 4000000 in
set_option maxRecDepth 100000 in
theorem c_X3_bringLeast (l : Launch) (D : va_G) (ty : Nat → ClassId) (ad : Nat → Nat) (ct : rm_C) (sz : Nat) (po kz on : Nat) (tr : Int) (r : Nat → Int) (T : Nat → Nat → Int) (co : Nat) (hc : co < kz) (hT : ∀ i j, i < kz → j < kz → r64 (T i j)) (hkz : kz ≤ 8) (hP : PartsAt ty ad ct po kz on tr r T) : Met l yX3_bringLeast wsX3_bringLeast ({ frames := 1, cells := 0, slots := 0, locals := 23 }) (rm_P D ty ad ct sz [.ref (ad po), .int (jI ((co : Nat) : Int))]) (rm_Qv D ad ct sz 0 (fun ct1 => (∀ i9, i9 < 8 → ct1 (po + 1 + 1 + i9) = some (rl ty 8 ((brg kz co T) i9))) ∧ ∀ q, (q < po + 1 + 1 ∨ po + 1 + 1 + 7 < q) → ct1 q = ct q)) 0 0 (rm_A ad ct sz) := by
  refine Met.ofW (cc := cX3_bringLeast) (maxL := 7) (ret := none) (by decide) rfl ?_
  intro p e s m args below meth c s₁ B hml hv
  obtain ⟨hargs, hsz, hW, hK, hNw⟩ := hv
  have hx := B.exec
  have hb := B.bytes
  have hr := B.returns
  have hts := atoms_spec (ws := wsX3_bringLeast) B.pre
  have hown : s.vm.findClass RX3 = some m.cls := findClass_of_methodNamed B.named
  have hlocks := B.notSynchronized
  subst hsz
  have hW := hW.own (sz := s.heap.size)
  have hA : ∀ q : Nat, s.heap.size ≤ q → rm_A ad ct s.heap.size q := fun q h => Or.inr h
  have hS : va_S (rm_A ad ct s.heap.size) s.heap s.heap [] := va_S.rf
  have hent : entryFrame m args 7 = entryFrame m ([.ref (ad po), .int (jI ((co : Nat) : Int))] : List Value).toArray 7 := by rw [hargs]
  have hl := lv_entry ([.ref (ad po), .int (jI ((co : Nat) : Int))]) (n := 7) (Nat.le_of_ble_eq_true rfl)
  rw [hent, lg_entry_eq]
  generalize (lg_sl ([.ref (ad po), .int (jI ((co : Nat) : Int))]) ++ List.replicate (7 - (lg_sl ([.ref (ad po), .int (jI ((co : Nat) : Int))])).length) Slot.unset).toArray = ls at hl ⊢
  have hl : lv_has ls 7 [(0, .ref (ad po)), (1, .int (jI ((co : Nat) : Int)))] := hl
  have hTb : ∀ i9, i9 < 8 → ct (po + 1 + 1 + i9) = some (rl ty 8 (T i9)) := fun i9 hi9 => hP.2.2.2 i9 hi9
  refine lv_iload_n hx hb dX3_bringLeast_0 rfl (lv_at hl 1 rfl) ?_
  refine lv_istore_n (lv' := [(2, .int (jI ((co : Nat) : Int))), (0, .ref (ad po)), (1, .int (jI ((co : Nat) : Int)))]) hx hb dX3_bringLeast_1 rfl hl (by decide) rfl (fun ls hl => ?_)
  refine lv_iload_n hx hb dX3_bringLeast_2 rfl (lv_at hl 2 rfl) ?_
  refine lv_istore_n (lv' := [(3, .int (jI ((co : Nat) : Int))), (2, .int (jI ((co : Nat) : Int))), (0, .ref (ad po)), (1, .int (jI ((co : Nat) : Int)))]) hx hb dX3_bringLeast_3 rfl hl (by decide) rfl (fun ls hl => ?_)
  refine lv_iload_n hx hb dX3_bringLeast_4 rfl (lv_at hl 3 rfl) ?_
  refine lv_iconst (v := jI 1) hx hb dX3_bringLeast_5 rfl ?_
  refine rm_iadd hx hb dX3_bringLeast_6 ?_
  refine lv_istore (lv' := [(4, .int (jI (((co : Nat) : Int) + 1))), (3, .int (jI ((co : Nat) : Int))), (2, .int (jI ((co : Nat) : Int))), (0, .ref (ad po)), (1, .int (jI ((co : Nat) : Int)))]) hx hb dX3_bringLeast_7 hl (by decide) rfl (fun ls hl => ?_)
  have hl : lv_has ls 7 [(4, .int (jI (((co : Nat) : Int) + 1))), (3, .int (jI (((bls co T 0).2 : Nat) : Int))), (2, .int (jI (((bls co T 0).1 : Nat) : Int))), (0, .ref (ad po)), (1, .int (jI ((co : Nat) : Int)))] := by exact hl
  have LP : ∀ (k : Nat) (q9 : Nat) (hq9 : q9 ≤ kz - 1 - co), kz - q9 < k → ∀ (ctv : rm_C) (H : Heap) (locs : List Loc), (∀ i9, i9 < 8 → ctv (po + 1 + 1 + i9) = some (rl ty 8 (T i9))) → ∀ (_ : True), (∀ q, (q < po + 1 + 1 ∨ po + 1 + 1 + 7 < q) → ctv q = ct q) → ∀ (_ : True), rm_W D ad ctv (rm_A ad ct s.heap.size) H → va_S (rm_A ad ct s.heap.size) s.heap H locs → ∀ ls : Array Slot, lv_has ls 7 [(4, .int (jI (((co + 1 + q9) : Nat) : Int))), (3, .int (jI (((bls co T q9).2 : Nat) : Int))), (2, .int (jI (((bls co T q9).1 : Nat) : Int))), (0, .ref (ad po)), (1, .int (jI ((co : Nat) : Int)))] → W p l e (headSpec wsX3_bringLeast ({ frames := 1, cells := 0, slots := 0, locals := 23 })).room s m args below meth c H locs 0 0 (MQ below (rm_Qv D ad ct s.heap.size 0 (fun ct1 => (∀ i9, i9 < 8 → ct1 (po + 1 + 1 + i9) = some (rl ty 8 ((brg kz co T) i9))) ∧ ∀ q, (q < po + 1 + 1 ∨ po + 1 + 1 + 7 < q) → ct1 q = ct q)) args s 0 0 (rm_A ad ct s.heap.size)) (F0 m 9 ls []) := by
    intro k
    induction k with
    | zero => intro q9 hq9 hk; exact absurd hk (Nat.not_lt_zero _)
    | succ k ih_LP =>
      intro q9 hq9 hk ctv_1 H locs hv0_1 _ hofv_1 _ hW hS ls hl
      refine lv_iload hx hb dX3_bringLeast_9 (lv_at hl 0 rfl) ?_
      refine lv_aload_n hx hb dX3_bringLeast_11 rfl (lv_at hl 3 rfl) ?_
      refine rm_get (ci := 3) (v := .int (jI ((kz : Nat) : Int))) (C := RX3) (T := TX3) (N := 5) hx hb hts (by decide +kernel) hown hK hW ((hofv_1 po (by omega)).trans hP.1) rfl 2 (by decide) (hts (.fieldLink RX3 20 "GrainYard$Parts" "size" "I") (by decide +kernel)) (fun _ h9 => h9) rfl dX3_bringLeast_12 ?_
      refine rm_icmp_ge (tgt := 80) hx hb ⟨by omega, by omega⟩ ⟨by omega, by omega⟩ dX3_bringLeast_15 (by decide) (fun hc_2 => ?_) (fun hc_2 => ?_)
      · skip
        have hq9e : q9 = kz - 1 - co := by omega
        have hbl := bls_lt (T := T) hc (kz - 1 - co) (by omega)
        rw [hq9e] at hl
        obtain ⟨w9, hw9⟩ : ∃ w9, w9 = (bls co T (kz - 1 - co)).1 := ⟨_, rfl⟩
        obtain ⟨v9, hv9⟩ : ∃ v9, v9 = (bls co T (kz - 1 - co)).2 := ⟨_, rfl⟩
        rw [← hw9, ← hv9] at hl hbl
        have hbw := hbl.1
        have hbv := hbl.2
        refine lv_iload_n hx hb dX3_bringLeast_80 rfl (lv_at hl 4 rfl) ?_
        refine lv_istore (lv' := [(4, .int (jI ((co : Nat) : Int))), (3, .int (jI ((v9 : Nat) : Int))), (2, .int (jI ((w9 : Nat) : Int))), (0, .ref (ad po)), (1, .int (jI ((co : Nat) : Int)))]) hx hb dX3_bringLeast_81 hl (by decide) rfl (fun ls hl => ?_)
        have hk_3 : ∀ i9, i9 < 8 → ctv_1 (po + 1 + 1 + i9) = some (rl ty 8 ((swr co w9 T co) i9)) := by rw [← (show T = (swr co w9 T co) from swr_0 co w9 T)]; exact hv0_1
        have ROWS : ∀ (k : Nat) (x9 : Nat) (hx9 : x9 ≤ kz) (hx1 : co ≤ x9), kz - x9 < k → ∀ (ctv : rm_C) (H : Heap) (locs : List Loc), (∀ i9, i9 < 8 → ctv (po + 1 + 1 + i9) = some (rl ty 8 ((swr co w9 T x9) i9))) → ∀ (_ : True), (∀ q, (q < po + 1 + 1 ∨ po + 1 + 1 + 7 < q) → ctv q = ct q) → ∀ (_ : True), rm_W D ad ctv (rm_A ad ct s.heap.size) H → va_S (rm_A ad ct s.heap.size) s.heap H locs → ∀ ls : Array Slot, lv_has ls 7 [(4, .int (jI ((x9 : Nat) : Int))), (2, .int (jI ((w9 : Nat) : Int))), (3, .int (jI ((v9 : Nat) : Int))), (0, .ref (ad po)), (1, .int (jI ((co : Nat) : Int)))] → W p l e (headSpec wsX3_bringLeast ({ frames := 1, cells := 0, slots := 0, locals := 23 })).room s m args below meth c H locs 0 0 (MQ below (rm_Qv D ad ct s.heap.size 0 (fun ct1 => (∀ i9, i9 < 8 → ct1 (po + 1 + 1 + i9) = some (rl ty 8 ((brg kz co T) i9))) ∧ ∀ q, (q < po + 1 + 1 ∨ po + 1 + 1 + 7 < q) → ct1 q = ct q)) args s 0 0 (rm_A ad ct s.heap.size)) (F0 m 83 ls []) := by
          intro k
          induction k with
          | zero => intro x9 hx9 hx1 hk; exact absurd hk (Nat.not_lt_zero _)
          | succ k ih_ROWS =>
            intro x9 hx9 hx1 hk ctv_4 H locs hv0_4 _ hofv_4 _ hW hS ls hl
            refine lv_iload hx hb dX3_bringLeast_83 (lv_at hl 0 rfl) ?_
            refine lv_aload_n hx hb dX3_bringLeast_85 rfl (lv_at hl 3 rfl) ?_
            refine rm_get (ci := 3) (v := .int (jI ((kz : Nat) : Int))) (C := RX3) (T := TX3) (N := 5) hx hb hts (by decide +kernel) hown hK hW ((hofv_4 po (by omega)).trans hP.1) rfl 2 (by decide) (hts (.fieldLink RX3 20 "GrainYard$Parts" "size" "I") (by decide +kernel)) (fun _ h9 => h9) rfl dX3_bringLeast_86 ?_
            refine rm_icmp_ge (tgt := 138) hx hb ⟨by omega, by omega⟩ ⟨by omega, by omega⟩ dX3_bringLeast_89 (by decide) (fun hc_5 => ?_) (fun hc_5 => ?_)
            · skip
              have hxk : x9 = kz := by omega
              have hk_6 : ∀ i9, i9 < 8 → ctv_4 (po + 1 + 1 + i9) = some (rl ty 8 ((swr co w9 T kz) i9)) := by rw [← (show (swr co w9 T x9) = (swr co w9 T kz) from by rw [hxk])]; exact hv0_4
              obtain ⟨T9, hT9⟩ : ∃ T9, T9 = swr co w9 T kz := ⟨_, rfl⟩
              have hk_7 : ∀ i9, i9 < 8 → ctv_4 (po + 1 + 1 + i9) = some (rl ty 8 (T9 i9)) := by rw [← (show (swr co w9 T kz) = T9 from hT9.symm)]; exact hk_6
              refine lv_iload_n hx hb dX3_bringLeast_138 rfl (lv_at hl 4 rfl) ?_
              refine lv_istore (lv' := [(4, .int (jI ((co : Nat) : Int))), (2, .int (jI ((w9 : Nat) : Int))), (3, .int (jI ((v9 : Nat) : Int))), (0, .ref (ad po)), (1, .int (jI ((co : Nat) : Int)))]) hx hb dX3_bringLeast_139 hl (by decide) rfl (fun ls hl => ?_)
              have hk_8 : ∀ i9, i9 < 8 → ctv_4 (po + 1 + 1 + i9) = some (rl ty 8 ((swc co v9 T9 co) i9)) := by rw [← (show T9 = (swc co v9 T9 co) from swc_0 co v9 T9)]; exact hk_7
              have COLS : ∀ (k : Nat) (y9 : Nat) (hy9 : y9 ≤ kz) (hy1 : co ≤ y9), kz - y9 < k → ∀ (ctv : rm_C) (H : Heap) (locs : List Loc), (∀ i9, i9 < 8 → ctv (po + 1 + 1 + i9) = some (rl ty 8 ((swc co v9 T9 y9) i9))) → ∀ (_ : True), (∀ q, (q < po + 1 + 1 ∨ po + 1 + 1 + 7 < q) → ctv q = ct q) → ∀ (_ : True), rm_W D ad ctv (rm_A ad ct s.heap.size) H → va_S (rm_A ad ct s.heap.size) s.heap H locs → ∀ ls : Array Slot, lv_has ls 7 [(4, .int (jI ((y9 : Nat) : Int))), (2, .int (jI ((w9 : Nat) : Int))), (3, .int (jI ((v9 : Nat) : Int))), (0, .ref (ad po)), (1, .int (jI ((co : Nat) : Int)))] → W p l e (headSpec wsX3_bringLeast ({ frames := 1, cells := 0, slots := 0, locals := 23 })).room s m args below meth c H locs 0 0 (MQ below (rm_Qv D ad ct s.heap.size 0 (fun ct1 => (∀ i9, i9 < 8 → ct1 (po + 1 + 1 + i9) = some (rl ty 8 ((brg kz co T) i9))) ∧ ∀ q, (q < po + 1 + 1 ∨ po + 1 + 1 + 7 < q) → ct1 q = ct q)) args s 0 0 (rm_A ad ct s.heap.size)) (F0 m 141 ls []) := by
                intro k
                induction k with
                | zero => intro y9 hy9 hy1 hk; exact absurd hk (Nat.not_lt_zero _)
                | succ k ih_COLS =>
                  intro y9 hy9 hy1 hk ctv_9 H locs hv0_9 _ hofv_9 _ hW hS ls hl
                  refine lv_iload hx hb dX3_bringLeast_141 (lv_at hl 0 rfl) ?_
                  refine lv_aload_n hx hb dX3_bringLeast_143 rfl (lv_at hl 3 rfl) ?_
                  refine rm_get (ci := 3) (v := .int (jI ((kz : Nat) : Int))) (C := RX3) (T := TX3) (N := 5) hx hb hts (by decide +kernel) hown hK hW ((hofv_9 po (by omega)).trans hP.1) rfl 2 (by decide) (hts (.fieldLink RX3 20 "GrainYard$Parts" "size" "I") (by decide +kernel)) (fun _ h9 => h9) rfl dX3_bringLeast_144 ?_
                  refine rm_icmp_ge (tgt := 196) hx hb ⟨by omega, by omega⟩ ⟨by omega, by omega⟩ dX3_bringLeast_147 (by decide) (fun hc_10 => ?_) (fun hc_10 => ?_)
                  · skip
                    have hyk : y9 = kz := by omega
                    have hk_11 : ∀ i9, i9 < 8 → ctv_9 (po + 1 + 1 + i9) = some (rl ty 8 ((brg kz co T) i9)) := by rw [← (show (swc co v9 T9 y9) = (brg kz co T) from by rw [hyk, hT9, hw9, hv9]; rfl)]; exact hv0_9
                    exact W.vret hx hb hr (fun t ht hw => ⟨⟨ctv_9, rfl, ⟨hk_11, fun q hq => hofv_9 q hq⟩, by show rm_W D ad _ _ t.heap; rw [ht]; exact hW, Or.inl rfl⟩, hS.F ht⟩) hS.2.2 dX3_bringLeast_196
                  · skip
                    have e0 : (swc co v9 T9 y9) y9 = T9 y9 := swc_at (Nat.le_refl _)
                    refine lv_aload_n hx hb dX3_bringLeast_150 rfl (lv_at hl 3 rfl) ?_
                    refine rm_get (ci := 3) (v := .ref (ad (po + 1))) (C := RX3) (T := TX3) (N := 5) hx hb hts (by decide +kernel) hown hK hW ((hofv_9 po (by omega)).trans hP.1) rfl 0 (by decide) (hts (.fieldLink RX3 11 "GrainYard$Parts" "table" "[[J") (by decide +kernel)) (fun _ h9 => h9) rfl dX3_bringLeast_151 ?_
                    refine lv_iload hx hb dX3_bringLeast_154 (lv_at hl 0 rfl) ?_
                    refine rm_aald hx hb hK hW (f := (fun i => if i < 8 then some (ad (po + 1 + 1 + i)) else none)) ((hofv_9 (po + 1) (by omega)).trans hP.2.1) rfl rfl y9 rfl (by omega) (by omega) dX3_bringLeast_156 (congrArg va_rf (if_pos (by omega))) ?_
                    refine lv_iload_n hx hb dX3_bringLeast_157 rfl (lv_at hl 4 rfl) ?_
                    refine rm_lald hx hb hK hW (f := ((swc co v9 T9 y9) y9)) (hv0_9 y9 (by omega)) co rfl (by omega) (by omega) dX3_bringLeast_158 ?_
                    rw [e0]
                    refine lv_lstore (lv' := [(5, .long (jL (T9 y9 co))), (4, .int (jI ((y9 : Nat) : Int))), (2, .int (jI ((w9 : Nat) : Int))), (3, .int (jI ((v9 : Nat) : Int))), (0, .ref (ad po)), (1, .int (jI ((co : Nat) : Int)))]) hx hb dX3_bringLeast_159 hl (by decide) rfl (fun ls hl => ?_)
                    refine lv_aload_n hx hb dX3_bringLeast_161 rfl (lv_at hl 4 rfl) ?_
                    refine rm_get (ci := 3) (v := .ref (ad (po + 1))) (C := RX3) (T := TX3) (N := 5) hx hb hts (by decide +kernel) hown hK hW ((hofv_9 po (by omega)).trans hP.1) rfl 0 (by decide) (hts (.fieldLink RX3 11 "GrainYard$Parts" "table" "[[J") (by decide +kernel)) (fun _ h9 => h9) rfl dX3_bringLeast_162 ?_
                    refine lv_iload hx hb dX3_bringLeast_165 (lv_at hl 1 rfl) ?_
                    refine rm_aald hx hb hK hW (f := (fun i => if i < 8 then some (ad (po + 1 + 1 + i)) else none)) ((hofv_9 (po + 1) (by omega)).trans hP.2.1) rfl rfl y9 rfl (by omega) (by omega) dX3_bringLeast_167 (congrArg va_rf (if_pos (by omega))) ?_
                    refine lv_iload_n hx hb dX3_bringLeast_168 rfl (lv_at hl 5 rfl) ?_
                    refine lv_aload_n hx hb dX3_bringLeast_169 rfl (lv_at hl 4 rfl) ?_
                    refine rm_get (ci := 3) (v := .ref (ad (po + 1))) (C := RX3) (T := TX3) (N := 5) hx hb hts (by decide +kernel) hown hK hW ((hofv_9 po (by omega)).trans hP.1) rfl 0 (by decide) (hts (.fieldLink RX3 11 "GrainYard$Parts" "table" "[[J") (by decide +kernel)) (fun _ h9 => h9) rfl dX3_bringLeast_170 ?_
                    refine lv_iload hx hb dX3_bringLeast_173 (lv_at hl 1 rfl) ?_
                    refine rm_aald hx hb hK hW (f := (fun i => if i < 8 then some (ad (po + 1 + 1 + i)) else none)) ((hofv_9 (po + 1) (by omega)).trans hP.2.1) rfl rfl y9 rfl (by omega) (by omega) dX3_bringLeast_175 (congrArg va_rf (if_pos (by omega))) ?_
                    refine lv_iload_n hx hb dX3_bringLeast_176 rfl (lv_at hl 3 rfl) ?_
                    refine rm_lald hx hb hK hW (f := ((swc co v9 T9 y9) y9)) (hv0_9 y9 (by omega)) v9 rfl (by omega) (by omega) dX3_bringLeast_177 ?_
                    rw [e0]
                    refine rm_last hx hb hK hW hS (f := ((swc co v9 T9 y9) y9)) (hv0_9 y9 (by omega)) co rfl (by omega) (by omega) dX3_bringLeast_178 (fun H locs ct_12 hs_12 ho_12 hW hS hz_12 => ?_)
                    have hof_12 : ∀ q, (q < po + 1 + 1 ∨ po + 1 + 1 + 7 < q) → ct_12 q = ct q := fun q h0_12 => (ho_12 q (by omega)).trans (hofv_9 q h0_12)
                    have hm0_12 : ∀ i9, i9 < 8 → ct_12 (po + 1 + 1 + i9) = some (rl ty 8 ((ub (swc co v9 T9 y9) y9 (ub ((swc co v9 T9 y9) y9) co (T9 y9 v9))) i9)) := fun i9 hi9 => by
                      by_cases e9 : i9 = y9
                      · rw [e9, ub_s]; exact hs_12
                      · rw [ub_n _ _ e9]; exact (ho_12 _ (by omega)).trans (hv0_9 i9 hi9)
                    refine lv_aload_n hx hb dX3_bringLeast_179 rfl (lv_at hl 4 rfl) ?_
                    refine rm_get (ci := 3) (v := .ref (ad (po + 1))) (C := RX3) (T := TX3) (N := 5) hx hb hts (by decide +kernel) hown hK hW ((hof_12 po (by omega)).trans hP.1) rfl 0 (by decide) (hts (.fieldLink RX3 11 "GrainYard$Parts" "table" "[[J") (by decide +kernel)) (fun _ h9 => h9) rfl dX3_bringLeast_180 ?_
                    refine lv_iload hx hb dX3_bringLeast_183 (lv_at hl 1 rfl) ?_
                    refine rm_aald hx hb hK hW (f := (fun i => if i < 8 then some (ad (po + 1 + 1 + i)) else none)) ((hof_12 (po + 1) (by omega)).trans hP.2.1) rfl rfl y9 rfl (by omega) (by omega) dX3_bringLeast_185 (congrArg va_rf (if_pos (by omega))) ?_
                    refine lv_iload_n hx hb dX3_bringLeast_186 rfl (lv_at hl 3 rfl) ?_
                    refine lv_lload hx hb dX3_bringLeast_187 (lv_at hl 0 rfl) ?_
                    refine rm_last hx hb hK hW hS (f := ((ub (swc co v9 T9 y9) y9 (ub ((swc co v9 T9 y9) y9) co (T9 y9 v9))) y9)) (hm0_12 y9 (by omega)) v9 rfl (by omega) (by omega) dX3_bringLeast_189 (fun H locs ct_13 hs_13 ho_13 hW hS hz_13 => ?_)
                    have hof_13 : ∀ q, (q < po + 1 + 1 ∨ po + 1 + 1 + 7 < q) → ct_13 q = ct q := fun q h0_13 => (ho_13 q (by omega)).trans (hof_12 q h0_13)
                    have hm0_13 : ∀ i9, i9 < 8 → ct_13 (po + 1 + 1 + i9) = some (rl ty 8 ((ub (ub (swc co v9 T9 y9) y9 (ub ((swc co v9 T9 y9) y9) co (T9 y9 v9))) y9 (ub ((ub (swc co v9 T9 y9) y9 (ub ((swc co v9 T9 y9) y9) co (T9 y9 v9))) y9) v9 (T9 y9 co))) i9)) := fun i9 hi9 => by
                      by_cases e9 : i9 = y9
                      · rw [e9, ub_s]; exact hs_13
                      · rw [ub_n _ _ e9]; exact (ho_13 _ (by omega)).trans (hm0_12 i9 hi9)
                    have hk_14 : ∀ i9, i9 < 8 → ct_13 (po + 1 + 1 + i9) = some (rl ty 8 ((swc co v9 T9 (y9 + 1)) i9)) := by rw [← (show (ub (ub (swc co v9 T9 y9) y9 (ub ((swc co v9 T9 y9) y9) co (T9 y9 v9))) y9 (ub ((ub (swc co v9 T9 y9) y9 (ub ((swc co v9 T9 y9) y9) co (T9 y9 v9))) y9) v9 (T9 y9 co))) = (swc co v9 T9 (y9 + 1)) from by rw [← swc_s (by omega)])]; exact hm0_13
                    refine lv_iinc (v := jI (((y9 : Nat) : Int) + 1)) (lv' := [(4, .int (jI (((y9 : Nat) : Int) + 1))), (5, .long (jL (T9 y9 co))), (2, .int (jI ((w9 : Nat) : Int))), (3, .int (jI ((v9 : Nat) : Int))), (0, .ref (ad po)), (1, .int (jI ((co : Nat) : Int)))]) hx hb dX3_bringLeast_190 hl (k := 1) rfl (jI_add _ _) (by decide) rfl (fun ls hl => ?_)
                    refine lv_goto (tgt := 141) hx hb dX3_bringLeast_193 (by decide) ?_
                    exact ih_COLS (y9 + 1) (by omega) (by omega) (by omega) ct_13 _ _ hk_14 trivial hof_13 trivial hW hS ls (lv_sub hl [0, 2, 3, 4, 5] rfl)
              exact COLS (kz + 1) (co) (by omega) (by omega) (by omega) ctv_4 _ _ hk_8 trivial hofv_4 trivial hW hS ls (lv_sub hl [0, 1, 2, 3, 4] rfl)
            · skip
              have e1 : (swr co w9 T x9) co x9 = T co x9 := swr_at (Nat.le_refl _) _
              have e2 : (swr co w9 T x9) w9 x9 = T w9 x9 := swr_at (Nat.le_refl _) _
              refine lv_aload_n hx hb dX3_bringLeast_92 rfl (lv_at hl 3 rfl) ?_
              refine rm_get (ci := 3) (v := .ref (ad (po + 1))) (C := RX3) (T := TX3) (N := 5) hx hb hts (by decide +kernel) hown hK hW ((hofv_4 po (by omega)).trans hP.1) rfl 0 (by decide) (hts (.fieldLink RX3 11 "GrainYard$Parts" "table" "[[J") (by decide +kernel)) (fun _ h9 => h9) rfl dX3_bringLeast_93 ?_
              refine lv_iload_n hx hb dX3_bringLeast_96 rfl (lv_at hl 4 rfl) ?_
              refine rm_aald hx hb hK hW (f := (fun i => if i < 8 then some (ad (po + 1 + 1 + i)) else none)) ((hofv_4 (po + 1) (by omega)).trans hP.2.1) rfl rfl co rfl (by omega) (by omega) dX3_bringLeast_97 (congrArg va_rf (if_pos (by omega))) ?_
              refine lv_iload hx hb dX3_bringLeast_98 (lv_at hl 0 rfl) ?_
              refine rm_lald hx hb hK hW (f := ((swr co w9 T x9) co)) (hv0_4 co (by omega)) x9 rfl (by omega) (by omega) dX3_bringLeast_100 ?_
              rw [e1]
              refine lv_lstore (lv' := [(5, .long (jL (T co x9))), (4, .int (jI ((x9 : Nat) : Int))), (2, .int (jI ((w9 : Nat) : Int))), (3, .int (jI ((v9 : Nat) : Int))), (0, .ref (ad po)), (1, .int (jI ((co : Nat) : Int)))]) hx hb dX3_bringLeast_101 hl (by decide) rfl (fun ls hl => ?_)
              refine lv_aload_n hx hb dX3_bringLeast_103 rfl (lv_at hl 4 rfl) ?_
              refine rm_get (ci := 3) (v := .ref (ad (po + 1))) (C := RX3) (T := TX3) (N := 5) hx hb hts (by decide +kernel) hown hK hW ((hofv_4 po (by omega)).trans hP.1) rfl 0 (by decide) (hts (.fieldLink RX3 11 "GrainYard$Parts" "table" "[[J") (by decide +kernel)) (fun _ h9 => h9) rfl dX3_bringLeast_104 ?_
              refine lv_iload_n hx hb dX3_bringLeast_107 rfl (lv_at hl 5 rfl) ?_
              refine rm_aald hx hb hK hW (f := (fun i => if i < 8 then some (ad (po + 1 + 1 + i)) else none)) ((hofv_4 (po + 1) (by omega)).trans hP.2.1) rfl rfl co rfl (by omega) (by omega) dX3_bringLeast_108 (congrArg va_rf (if_pos (by omega))) ?_
              refine lv_iload hx hb dX3_bringLeast_109 (lv_at hl 1 rfl) ?_
              refine lv_aload_n hx hb dX3_bringLeast_111 rfl (lv_at hl 4 rfl) ?_
              refine rm_get (ci := 3) (v := .ref (ad (po + 1))) (C := RX3) (T := TX3) (N := 5) hx hb hts (by decide +kernel) hown hK hW ((hofv_4 po (by omega)).trans hP.1) rfl 0 (by decide) (hts (.fieldLink RX3 11 "GrainYard$Parts" "table" "[[J") (by decide +kernel)) (fun _ h9 => h9) rfl dX3_bringLeast_112 ?_
              refine lv_iload_n hx hb dX3_bringLeast_115 rfl (lv_at hl 2 rfl) ?_
              refine rm_aald hx hb hK hW (f := (fun i => if i < 8 then some (ad (po + 1 + 1 + i)) else none)) ((hofv_4 (po + 1) (by omega)).trans hP.2.1) rfl rfl w9 rfl (by omega) (by omega) dX3_bringLeast_116 (congrArg va_rf (if_pos (by omega))) ?_
              refine lv_iload hx hb dX3_bringLeast_117 (lv_at hl 1 rfl) ?_
              refine rm_lald hx hb hK hW (f := ((swr co w9 T x9) w9)) (hv0_4 w9 (by omega)) x9 rfl (by omega) (by omega) dX3_bringLeast_119 ?_
              rw [e2]
              refine rm_last hx hb hK hW hS (f := ((swr co w9 T x9) co)) (hv0_4 co (by omega)) x9 rfl (by omega) (by omega) dX3_bringLeast_120 (fun H locs ct_15 hs_15 ho_15 hW hS hz_15 => ?_)
              have hof_15 : ∀ q, (q < po + 1 + 1 ∨ po + 1 + 1 + 7 < q) → ct_15 q = ct q := fun q h0_15 => (ho_15 q (by omega)).trans (hofv_4 q h0_15)
              have hm0_15 : ∀ i9, i9 < 8 → ct_15 (po + 1 + 1 + i9) = some (rl ty 8 ((ub (swr co w9 T x9) co (ub ((swr co w9 T x9) co) x9 (T w9 x9))) i9)) := fun i9 hi9 => by
                by_cases e9 : i9 = co
                · rw [e9, ub_s]; exact hs_15
                · rw [ub_n _ _ e9]; exact (ho_15 _ (by omega)).trans (hv0_4 i9 hi9)
              refine lv_aload_n hx hb dX3_bringLeast_121 rfl (lv_at hl 4 rfl) ?_
              refine rm_get (ci := 3) (v := .ref (ad (po + 1))) (C := RX3) (T := TX3) (N := 5) hx hb hts (by decide +kernel) hown hK hW ((hof_15 po (by omega)).trans hP.1) rfl 0 (by decide) (hts (.fieldLink RX3 11 "GrainYard$Parts" "table" "[[J") (by decide +kernel)) (fun _ h9 => h9) rfl dX3_bringLeast_122 ?_
              refine lv_iload_n hx hb dX3_bringLeast_125 rfl (lv_at hl 2 rfl) ?_
              refine rm_aald hx hb hK hW (f := (fun i => if i < 8 then some (ad (po + 1 + 1 + i)) else none)) ((hof_15 (po + 1) (by omega)).trans hP.2.1) rfl rfl w9 rfl (by omega) (by omega) dX3_bringLeast_126 (congrArg va_rf (if_pos (by omega))) ?_
              refine lv_iload hx hb dX3_bringLeast_127 (lv_at hl 1 rfl) ?_
              refine lv_lload hx hb dX3_bringLeast_129 (lv_at hl 0 rfl) ?_
              refine rm_last hx hb hK hW hS (f := ((ub (swr co w9 T x9) co (ub ((swr co w9 T x9) co) x9 (T w9 x9))) w9)) (hm0_15 w9 (by omega)) x9 rfl (by omega) (by omega) dX3_bringLeast_131 (fun H locs ct_16 hs_16 ho_16 hW hS hz_16 => ?_)
              have hof_16 : ∀ q, (q < po + 1 + 1 ∨ po + 1 + 1 + 7 < q) → ct_16 q = ct q := fun q h0_16 => (ho_16 q (by omega)).trans (hof_15 q h0_16)
              have hm0_16 : ∀ i9, i9 < 8 → ct_16 (po + 1 + 1 + i9) = some (rl ty 8 ((ub (ub (swr co w9 T x9) co (ub ((swr co w9 T x9) co) x9 (T w9 x9))) w9 (ub ((ub (swr co w9 T x9) co (ub ((swr co w9 T x9) co) x9 (T w9 x9))) w9) x9 (T co x9))) i9)) := fun i9 hi9 => by
                by_cases e9 : i9 = w9
                · rw [e9, ub_s]; exact hs_16
                · rw [ub_n _ _ e9]; exact (ho_16 _ (by omega)).trans (hm0_15 i9 hi9)
              have hk_17 : ∀ i9, i9 < 8 → ct_16 (po + 1 + 1 + i9) = some (rl ty 8 ((swr co w9 T (x9 + 1)) i9)) := by rw [← (show (ub (ub (swr co w9 T x9) co (ub ((swr co w9 T x9) co) x9 (T w9 x9))) w9 (ub ((ub (swr co w9 T x9) co (ub ((swr co w9 T x9) co) x9 (T w9 x9))) w9) x9 (T co x9))) = (swr co w9 T (x9 + 1)) from by rw [← swr_s (by omega)])]; exact hm0_16
              refine lv_iinc (v := jI (((x9 : Nat) : Int) + 1)) (lv' := [(4, .int (jI (((x9 : Nat) : Int) + 1))), (5, .long (jL (T co x9))), (2, .int (jI ((w9 : Nat) : Int))), (3, .int (jI ((v9 : Nat) : Int))), (0, .ref (ad po)), (1, .int (jI ((co : Nat) : Int)))]) hx hb dX3_bringLeast_132 hl (k := 1) rfl (jI_add _ _) (by decide) rfl (fun ls hl => ?_)
              refine lv_goto (tgt := 83) hx hb dX3_bringLeast_135 (by decide) ?_
              exact ih_ROWS (x9 + 1) (by omega) (by omega) (by omega) ct_16 _ _ hk_17 trivial hof_16 trivial hW hS ls (lv_sub hl [0, 2, 3, 4, 5] rfl)
        exact ROWS (kz + 1) (co) (by omega) (by omega) (by omega) ctv_1 _ _ hk_3 trivial hofv_1 trivial hW hS ls (lv_sub hl [0, 2, 1, 3, 4] rfl)
      · skip
        have hbl := bls_lt (T := T) hc q9 (by omega)
        have hb1 := bl1_lt (T := T) hc (show (co + 1 + q9) < kz by omega) hbl
        have hu1 := hbl.1
        have hu2 := hbl.2
        have hv1 := hb1.1
        have hv2 := hb1.2
        refine lv_aload_n hx hb dX3_bringLeast_18 rfl (lv_at hl 3 rfl) ?_
        refine rm_get (ci := 3) (v := .ref (ad (po + 1))) (C := RX3) (T := TX3) (N := 5) hx hb hts (by decide +kernel) hown hK hW ((hofv_1 po (by omega)).trans hP.1) rfl 0 (by decide) (hts (.fieldLink RX3 11 "GrainYard$Parts" "table" "[[J") (by decide +kernel)) (fun _ h9 => h9) rfl dX3_bringLeast_19 ?_
        refine lv_iload hx hb dX3_bringLeast_22 (lv_at hl 0 rfl) ?_
        refine rm_aald hx hb hK hW (f := (fun i => if i < 8 then some (ad (po + 1 + 1 + i)) else none)) ((hofv_1 (po + 1) (by omega)).trans hP.2.1) rfl rfl (co + 1 + q9) rfl (by omega) (by omega) dX3_bringLeast_24 (congrArg va_rf (if_pos (by omega))) ?_
        refine lv_iload_n hx hb dX3_bringLeast_25 rfl (lv_at hl 4 rfl) ?_
        refine rm_lald hx hb hK hW (f := (T (co + 1 + q9))) (hv0_1 (co + 1 + q9) (by omega)) co rfl (by omega) (by omega) dX3_bringLeast_26 ?_
        refine lv_aload_n hx hb dX3_bringLeast_27 rfl (lv_at hl 3 rfl) ?_
        refine rm_get (ci := 3) (v := .ref (ad (po + 1))) (C := RX3) (T := TX3) (N := 5) hx hb hts (by decide +kernel) hown hK hW ((hofv_1 po (by omega)).trans hP.1) rfl 0 (by decide) (hts (.fieldLink RX3 11 "GrainYard$Parts" "table" "[[J") (by decide +kernel)) (fun _ h9 => h9) rfl dX3_bringLeast_28 ?_
        refine lv_iload_n hx hb dX3_bringLeast_31 rfl (lv_at hl 2 rfl) ?_
        refine rm_aald hx hb hK hW (f := (fun i => if i < 8 then some (ad (po + 1 + 1 + i)) else none)) ((hofv_1 (po + 1) (by omega)).trans hP.2.1) rfl rfl ((bls co T q9).1) rfl (by omega) (by omega) dX3_bringLeast_32 (congrArg va_rf (if_pos (by omega))) ?_
        refine lv_iload_n hx hb dX3_bringLeast_33 rfl (lv_at hl 1 rfl) ?_
        refine rm_lald hx hb hK hW (f := (T (bls co T q9).1)) (hv0_1 ((bls co T q9).1) (by omega)) ((bls co T q9).2) rfl (by omega) (by omega) dX3_bringLeast_34 ?_
        refine rm_calli (va_runS (As := [.long (jL ((T (co + 1 + q9)) co)), .long (jL ((T (bls co T q9).1) (bls co T q9).2))]) (rest := []) ⟨hx, hb, hml, hown, hts⟩ (c_X3_isLess l D ty ad ctv_1 H.size (T (co + 1 + q9) co) (T (bls co T q9).1 (bls co T q9).2) (hT _ co (by omega) hc) (hT _ _ hu1 hu2)) (va_cwS 2 hts gX3_bringLeast_X3_isLess rfl rfl rfl (by decide +kernel) ⟨Nat.le_of_ble_eq_true rfl, Nat.le_of_ble_eq_true rfl⟩) (rm_preS hK hNw hW) rfl rfl hl.1 rfl (lv_room (Nat.le_of_ble_eq_true rfl)) dX3_bringLeast_35 ⟨Nat.zero_le _, Nat.zero_le _⟩) hW hS hA (fun z_18 ct_18 H locs hq_18 hW hS => ?_)
        obtain ⟨hz, hcc_18⟩ := hq_18
        have hcc_18 := hcc_18.symm
        subst hcc_18
        have hzr : z_18 = 0 ∨ z_18 = 1 := by rw [hz]; by_cases h : lsn (T (co + 1 + q9) co) (T (bls co T q9).1 (bls co T q9).2) = true <;> simp [h]
        refine rm_if_eq (tgt := 46) hx hb ⟨by omega, by omega⟩ dX3_bringLeast_38 (by decide) (fun hc_19 => ?_) (fun hc_19 => ?_)
        · skip
          have hls : lsn (T (co + 1 + q9) co) (T (bls co T q9).1 (bls co T q9).2) ≠ true := fun h => by rw [if_pos h] at hz; omega
          have hQ : (bl1 co T (co + 1 + q9) (bls co T q9)) = (bls co T q9) := if_neg hls
          have hl : lv_has ls 7 [(4, .int (jI (((co + 1 + q9) : Nat) : Int))), (3, .int (jI (((bl1 co T (co + 1 + q9) (bls co T q9)).2 : Nat) : Int))), (2, .int (jI (((bl1 co T (co + 1 + q9) (bls co T q9)).1 : Nat) : Int))), (0, .ref (ad po)), (1, .int (jI ((co : Nat) : Int)))] := by rw [hQ]; exact hl
          refine lv_aload_n hx hb dX3_bringLeast_46 rfl (lv_at hl 3 rfl) ?_
          refine rm_get (ci := 3) (v := .ref (ad (po + 1))) (C := RX3) (T := TX3) (N := 5) hx hb hts (by decide +kernel) hown hK hW ((hofv_1 po (by omega)).trans hP.1) rfl 0 (by decide) (hts (.fieldLink RX3 11 "GrainYard$Parts" "table" "[[J") (by decide +kernel)) (fun _ h9 => h9) rfl dX3_bringLeast_47 ?_
          refine lv_iload_n hx hb dX3_bringLeast_50 rfl (lv_at hl 4 rfl) ?_
          refine rm_aald hx hb hK hW (f := (fun i => if i < 8 then some (ad (po + 1 + 1 + i)) else none)) ((hofv_1 (po + 1) (by omega)).trans hP.2.1) rfl rfl co rfl (by omega) (by omega) dX3_bringLeast_51 (congrArg va_rf (if_pos (by omega))) ?_
          refine lv_iload hx hb dX3_bringLeast_52 (lv_at hl 0 rfl) ?_
          refine rm_lald hx hb hK hW (f := (T co)) (hv0_1 co (by omega)) (co + 1 + q9) rfl (by omega) (by omega) dX3_bringLeast_54 ?_
          refine lv_aload_n hx hb dX3_bringLeast_55 rfl (lv_at hl 3 rfl) ?_
          refine rm_get (ci := 3) (v := .ref (ad (po + 1))) (C := RX3) (T := TX3) (N := 5) hx hb hts (by decide +kernel) hown hK hW ((hofv_1 po (by omega)).trans hP.1) rfl 0 (by decide) (hts (.fieldLink RX3 11 "GrainYard$Parts" "table" "[[J") (by decide +kernel)) (fun _ h9 => h9) rfl dX3_bringLeast_56 ?_
          refine lv_iload_n hx hb dX3_bringLeast_59 rfl (lv_at hl 2 rfl) ?_
          refine rm_aald hx hb hK hW (f := (fun i => if i < 8 then some (ad (po + 1 + 1 + i)) else none)) ((hofv_1 (po + 1) (by omega)).trans hP.2.1) rfl rfl ((bl1 co T (co + 1 + q9) (bls co T q9)).1) rfl (by omega) (by omega) dX3_bringLeast_60 (congrArg va_rf (if_pos (by omega))) ?_
          refine lv_iload_n hx hb dX3_bringLeast_61 rfl (lv_at hl 1 rfl) ?_
          refine rm_lald hx hb hK hW (f := (T (bl1 co T (co + 1 + q9) (bls co T q9)).1)) (hv0_1 ((bl1 co T (co + 1 + q9) (bls co T q9)).1) (by omega)) ((bl1 co T (co + 1 + q9) (bls co T q9)).2) rfl (by omega) (by omega) dX3_bringLeast_62 ?_
          refine rm_calli (va_runS (As := [.long (jL ((T co) (co + 1 + q9))), .long (jL ((T (bl1 co T (co + 1 + q9) (bls co T q9)).1) (bl1 co T (co + 1 + q9) (bls co T q9)).2))]) (rest := []) ⟨hx, hb, hml, hown, hts⟩ (c_X3_isLess l D ty ad ctv_1 H.size (T co (co + 1 + q9)) (T (bl1 co T (co + 1 + q9) (bls co T q9)).1 (bl1 co T (co + 1 + q9) (bls co T q9)).2) (hT co _ hc (by omega)) (hT _ _ hv1 hv2)) (va_cwS 2 hts gX3_bringLeast_X3_isLess rfl rfl rfl (by decide +kernel) ⟨Nat.le_of_ble_eq_true rfl, Nat.le_of_ble_eq_true rfl⟩) (rm_preS hK hNw hW) rfl rfl hl.1 rfl (lv_room (Nat.le_of_ble_eq_true rfl)) dX3_bringLeast_63 ⟨Nat.zero_le _, Nat.zero_le _⟩) hW hS hA (fun z_20 ct_20 H locs hq_20 hW hS => ?_)
          obtain ⟨hz, hcc_20⟩ := hq_20
          have hcc_20 := hcc_20.symm
          subst hcc_20
          have hzr : z_20 = 0 ∨ z_20 = 1 := by rw [hz]; by_cases h : lsn (T co (co + 1 + q9)) (T (bl1 co T (co + 1 + q9) (bls co T q9)).1 (bl1 co T (co + 1 + q9) (bls co T q9)).2) = true <;> simp [h]
          refine rm_if_eq (tgt := 74) hx hb ⟨by omega, by omega⟩ dX3_bringLeast_66 (by decide) (fun hc_21 => ?_) (fun hc_21 => ?_)
          · skip
            have hls : lsn (T co (co + 1 + q9)) (T (bl1 co T (co + 1 + q9) (bls co T q9)).1 (bl1 co T (co + 1 + q9) (bls co T q9)).2) ≠ true := fun h => by rw [if_pos h] at hz; omega
            have hQ : (bl2 co T (co + 1 + q9) (bl1 co T (co + 1 + q9) (bls co T q9))) = (bl1 co T (co + 1 + q9) (bls co T q9)) := if_neg hls
            have hl : lv_has ls 7 [(4, .int (jI (((co + 1 + q9) : Nat) : Int))), (3, .int (jI (((bl2 co T (co + 1 + q9) (bl1 co T (co + 1 + q9) (bls co T q9))).2 : Nat) : Int))), (2, .int (jI (((bl2 co T (co + 1 + q9) (bl1 co T (co + 1 + q9) (bls co T q9))).1 : Nat) : Int))), (0, .ref (ad po)), (1, .int (jI ((co : Nat) : Int)))] := by rw [hQ]; exact hl
            refine lv_iinc (v := jI ((((co + 1 + q9) : Nat) : Int) + 1)) (lv' := [(4, .int (jI ((((co + 1 + q9) : Nat) : Int) + 1))), (3, .int (jI (((bl2 co T (co + 1 + q9) (bl1 co T (co + 1 + q9) (bls co T q9))).2 : Nat) : Int))), (2, .int (jI (((bl2 co T (co + 1 + q9) (bl1 co T (co + 1 + q9) (bls co T q9))).1 : Nat) : Int))), (0, .ref (ad po)), (1, .int (jI ((co : Nat) : Int)))]) hx hb dX3_bringLeast_74 hl (k := 0) rfl (jI_add _ _) (by decide) rfl (fun ls hl => ?_)
            refine lv_goto (tgt := 9) hx hb dX3_bringLeast_77 (by decide) ?_
            exact ih_LP (q9 + 1) (by omega) (by omega) ctv_1 _ _ hv0_1 trivial hofv_1 trivial hW hS ls (lv_sub hl [0, 1, 2, 3, 4] rfl)
          · skip
            have hls : lsn (T co (co + 1 + q9)) (T (bl1 co T (co + 1 + q9) (bls co T q9)).1 (bl1 co T (co + 1 + q9) (bls co T q9)).2) = true := Classical.byContradiction fun h => by rw [if_neg h] at hz; omega
            have hQ : (bl2 co T (co + 1 + q9) (bl1 co T (co + 1 + q9) (bls co T q9))) = (co, (co + 1 + q9)) := if_pos hls
            refine lv_iload_n hx hb dX3_bringLeast_69 rfl (lv_at hl 4 rfl) ?_
            refine lv_istore_n (lv' := [(2, .int (jI ((co : Nat) : Int))), (4, .int (jI (((co + 1 + q9) : Nat) : Int))), (3, .int (jI (((bl1 co T (co + 1 + q9) (bls co T q9)).2 : Nat) : Int))), (0, .ref (ad po)), (1, .int (jI ((co : Nat) : Int)))]) hx hb dX3_bringLeast_70 rfl hl (by decide) rfl (fun ls hl => ?_)
            refine lv_iload hx hb dX3_bringLeast_71 (lv_at hl 1 rfl) ?_
            refine lv_istore_n (lv' := [(3, .int (jI (((co + 1 + q9) : Nat) : Int))), (2, .int (jI ((co : Nat) : Int))), (4, .int (jI (((co + 1 + q9) : Nat) : Int))), (0, .ref (ad po)), (1, .int (jI ((co : Nat) : Int)))]) hx hb dX3_bringLeast_73 rfl hl (by decide) rfl (fun ls hl => ?_)
            have hl : lv_has ls 7 [(3, .int (jI (((bl2 co T (co + 1 + q9) (bl1 co T (co + 1 + q9) (bls co T q9))).2 : Nat) : Int))), (2, .int (jI (((bl2 co T (co + 1 + q9) (bl1 co T (co + 1 + q9) (bls co T q9))).1 : Nat) : Int))), (4, .int (jI (((co + 1 + q9) : Nat) : Int))), (0, .ref (ad po)), (1, .int (jI ((co : Nat) : Int)))] := by rw [hQ]; exact hl
            refine lv_iinc (v := jI ((((co + 1 + q9) : Nat) : Int) + 1)) (lv' := [(4, .int (jI ((((co + 1 + q9) : Nat) : Int) + 1))), (3, .int (jI (((bl2 co T (co + 1 + q9) (bl1 co T (co + 1 + q9) (bls co T q9))).2 : Nat) : Int))), (2, .int (jI (((bl2 co T (co + 1 + q9) (bl1 co T (co + 1 + q9) (bls co T q9))).1 : Nat) : Int))), (0, .ref (ad po)), (1, .int (jI ((co : Nat) : Int)))]) hx hb dX3_bringLeast_74 hl (k := 2) rfl (jI_add _ _) (by decide) rfl (fun ls hl => ?_)
            refine lv_goto (tgt := 9) hx hb dX3_bringLeast_77 (by decide) ?_
            exact ih_LP (q9 + 1) (by omega) (by omega) ctv_1 _ _ hv0_1 trivial hofv_1 trivial hW hS ls (lv_sub hl [0, 1, 2, 3, 4] rfl)
        · skip
          have hls : lsn (T (co + 1 + q9) co) (T (bls co T q9).1 (bls co T q9).2) = true := Classical.byContradiction fun h => by rw [if_neg h] at hz; omega
          have hQ : (bl1 co T (co + 1 + q9) (bls co T q9)) = ((co + 1 + q9), co) := if_pos hls
          refine lv_iload hx hb dX3_bringLeast_41 (lv_at hl 0 rfl) ?_
          refine lv_istore_n (lv' := [(2, .int (jI (((co + 1 + q9) : Nat) : Int))), (4, .int (jI (((co + 1 + q9) : Nat) : Int))), (3, .int (jI (((bls co T q9).2 : Nat) : Int))), (0, .ref (ad po)), (1, .int (jI ((co : Nat) : Int)))]) hx hb dX3_bringLeast_43 rfl hl (by decide) rfl (fun ls hl => ?_)
          refine lv_iload_n hx hb dX3_bringLeast_44 rfl (lv_at hl 4 rfl) ?_
          refine lv_istore_n (lv' := [(3, .int (jI ((co : Nat) : Int))), (2, .int (jI (((co + 1 + q9) : Nat) : Int))), (4, .int (jI (((co + 1 + q9) : Nat) : Int))), (0, .ref (ad po)), (1, .int (jI ((co : Nat) : Int)))]) hx hb dX3_bringLeast_45 rfl hl (by decide) rfl (fun ls hl => ?_)
          have hl : lv_has ls 7 [(3, .int (jI (((bl1 co T (co + 1 + q9) (bls co T q9)).2 : Nat) : Int))), (2, .int (jI (((bl1 co T (co + 1 + q9) (bls co T q9)).1 : Nat) : Int))), (4, .int (jI (((co + 1 + q9) : Nat) : Int))), (0, .ref (ad po)), (1, .int (jI ((co : Nat) : Int)))] := by rw [hQ]; exact hl
          refine lv_aload_n hx hb dX3_bringLeast_46 rfl (lv_at hl 3 rfl) ?_
          refine rm_get (ci := 3) (v := .ref (ad (po + 1))) (C := RX3) (T := TX3) (N := 5) hx hb hts (by decide +kernel) hown hK hW ((hofv_1 po (by omega)).trans hP.1) rfl 0 (by decide) (hts (.fieldLink RX3 11 "GrainYard$Parts" "table" "[[J") (by decide +kernel)) (fun _ h9 => h9) rfl dX3_bringLeast_47 ?_
          refine lv_iload_n hx hb dX3_bringLeast_50 rfl (lv_at hl 4 rfl) ?_
          refine rm_aald hx hb hK hW (f := (fun i => if i < 8 then some (ad (po + 1 + 1 + i)) else none)) ((hofv_1 (po + 1) (by omega)).trans hP.2.1) rfl rfl co rfl (by omega) (by omega) dX3_bringLeast_51 (congrArg va_rf (if_pos (by omega))) ?_
          refine lv_iload hx hb dX3_bringLeast_52 (lv_at hl 2 rfl) ?_
          refine rm_lald hx hb hK hW (f := (T co)) (hv0_1 co (by omega)) (co + 1 + q9) rfl (by omega) (by omega) dX3_bringLeast_54 ?_
          refine lv_aload_n hx hb dX3_bringLeast_55 rfl (lv_at hl 3 rfl) ?_
          refine rm_get (ci := 3) (v := .ref (ad (po + 1))) (C := RX3) (T := TX3) (N := 5) hx hb hts (by decide +kernel) hown hK hW ((hofv_1 po (by omega)).trans hP.1) rfl 0 (by decide) (hts (.fieldLink RX3 11 "GrainYard$Parts" "table" "[[J") (by decide +kernel)) (fun _ h9 => h9) rfl dX3_bringLeast_56 ?_
          refine lv_iload_n hx hb dX3_bringLeast_59 rfl (lv_at hl 1 rfl) ?_
          refine rm_aald hx hb hK hW (f := (fun i => if i < 8 then some (ad (po + 1 + 1 + i)) else none)) ((hofv_1 (po + 1) (by omega)).trans hP.2.1) rfl rfl ((bl1 co T (co + 1 + q9) (bls co T q9)).1) rfl (by omega) (by omega) dX3_bringLeast_60 (congrArg va_rf (if_pos (by omega))) ?_
          refine lv_iload_n hx hb dX3_bringLeast_61 rfl (lv_at hl 0 rfl) ?_
          refine rm_lald hx hb hK hW (f := (T (bl1 co T (co + 1 + q9) (bls co T q9)).1)) (hv0_1 ((bl1 co T (co + 1 + q9) (bls co T q9)).1) (by omega)) ((bl1 co T (co + 1 + q9) (bls co T q9)).2) rfl (by omega) (by omega) dX3_bringLeast_62 ?_
          refine rm_calli (va_runS (As := [.long (jL ((T co) (co + 1 + q9))), .long (jL ((T (bl1 co T (co + 1 + q9) (bls co T q9)).1) (bl1 co T (co + 1 + q9) (bls co T q9)).2))]) (rest := []) ⟨hx, hb, hml, hown, hts⟩ (c_X3_isLess l D ty ad ctv_1 H.size (T co (co + 1 + q9)) (T (bl1 co T (co + 1 + q9) (bls co T q9)).1 (bl1 co T (co + 1 + q9) (bls co T q9)).2) (hT co _ hc (by omega)) (hT _ _ hv1 hv2)) (va_cwS 2 hts gX3_bringLeast_X3_isLess rfl rfl rfl (by decide +kernel) ⟨Nat.le_of_ble_eq_true rfl, Nat.le_of_ble_eq_true rfl⟩) (rm_preS hK hNw hW) rfl rfl hl.1 rfl (lv_room (Nat.le_of_ble_eq_true rfl)) dX3_bringLeast_63 ⟨Nat.zero_le _, Nat.zero_le _⟩) hW hS hA (fun z_22 ct_22 H locs hq_22 hW hS => ?_)
          obtain ⟨hz, hcc_22⟩ := hq_22
          have hcc_22 := hcc_22.symm
          subst hcc_22
          have hzr : z_22 = 0 ∨ z_22 = 1 := by rw [hz]; by_cases h : lsn (T co (co + 1 + q9)) (T (bl1 co T (co + 1 + q9) (bls co T q9)).1 (bl1 co T (co + 1 + q9) (bls co T q9)).2) = true <;> simp [h]
          refine rm_if_eq (tgt := 74) hx hb ⟨by omega, by omega⟩ dX3_bringLeast_66 (by decide) (fun hc_23 => ?_) (fun hc_23 => ?_)
          · skip
            have hls : lsn (T co (co + 1 + q9)) (T (bl1 co T (co + 1 + q9) (bls co T q9)).1 (bl1 co T (co + 1 + q9) (bls co T q9)).2) ≠ true := fun h => by rw [if_pos h] at hz; omega
            have hQ : (bl2 co T (co + 1 + q9) (bl1 co T (co + 1 + q9) (bls co T q9))) = (bl1 co T (co + 1 + q9) (bls co T q9)) := if_neg hls
            have hl : lv_has ls 7 [(3, .int (jI (((bl2 co T (co + 1 + q9) (bl1 co T (co + 1 + q9) (bls co T q9))).2 : Nat) : Int))), (2, .int (jI (((bl2 co T (co + 1 + q9) (bl1 co T (co + 1 + q9) (bls co T q9))).1 : Nat) : Int))), (4, .int (jI (((co + 1 + q9) : Nat) : Int))), (0, .ref (ad po)), (1, .int (jI ((co : Nat) : Int)))] := by rw [hQ]; exact hl
            refine lv_iinc (v := jI ((((co + 1 + q9) : Nat) : Int) + 1)) (lv' := [(4, .int (jI ((((co + 1 + q9) : Nat) : Int) + 1))), (3, .int (jI (((bl2 co T (co + 1 + q9) (bl1 co T (co + 1 + q9) (bls co T q9))).2 : Nat) : Int))), (2, .int (jI (((bl2 co T (co + 1 + q9) (bl1 co T (co + 1 + q9) (bls co T q9))).1 : Nat) : Int))), (0, .ref (ad po)), (1, .int (jI ((co : Nat) : Int)))]) hx hb dX3_bringLeast_74 hl (k := 2) rfl (jI_add _ _) (by decide) rfl (fun ls hl => ?_)
            refine lv_goto (tgt := 9) hx hb dX3_bringLeast_77 (by decide) ?_
            exact ih_LP (q9 + 1) (by omega) (by omega) ctv_1 _ _ hv0_1 trivial hofv_1 trivial hW hS ls (lv_sub hl [0, 1, 2, 3, 4] rfl)
          · skip
            have hls : lsn (T co (co + 1 + q9)) (T (bl1 co T (co + 1 + q9) (bls co T q9)).1 (bl1 co T (co + 1 + q9) (bls co T q9)).2) = true := Classical.byContradiction fun h => by rw [if_neg h] at hz; omega
            have hQ : (bl2 co T (co + 1 + q9) (bl1 co T (co + 1 + q9) (bls co T q9))) = (co, (co + 1 + q9)) := if_pos hls
            refine lv_iload_n hx hb dX3_bringLeast_69 rfl (lv_at hl 4 rfl) ?_
            refine lv_istore_n (lv' := [(2, .int (jI ((co : Nat) : Int))), (3, .int (jI (((bl1 co T (co + 1 + q9) (bls co T q9)).2 : Nat) : Int))), (4, .int (jI (((co + 1 + q9) : Nat) : Int))), (0, .ref (ad po)), (1, .int (jI ((co : Nat) : Int)))]) hx hb dX3_bringLeast_70 rfl hl (by decide) rfl (fun ls hl => ?_)
            refine lv_iload hx hb dX3_bringLeast_71 (lv_at hl 2 rfl) ?_
            refine lv_istore_n (lv' := [(3, .int (jI (((co + 1 + q9) : Nat) : Int))), (2, .int (jI ((co : Nat) : Int))), (4, .int (jI (((co + 1 + q9) : Nat) : Int))), (0, .ref (ad po)), (1, .int (jI ((co : Nat) : Int)))]) hx hb dX3_bringLeast_73 rfl hl (by decide) rfl (fun ls hl => ?_)
            have hl : lv_has ls 7 [(3, .int (jI (((bl2 co T (co + 1 + q9) (bl1 co T (co + 1 + q9) (bls co T q9))).2 : Nat) : Int))), (2, .int (jI (((bl2 co T (co + 1 + q9) (bl1 co T (co + 1 + q9) (bls co T q9))).1 : Nat) : Int))), (4, .int (jI (((co + 1 + q9) : Nat) : Int))), (0, .ref (ad po)), (1, .int (jI ((co : Nat) : Int)))] := by rw [hQ]; exact hl
            refine lv_iinc (v := jI ((((co + 1 + q9) : Nat) : Int) + 1)) (lv' := [(4, .int (jI ((((co + 1 + q9) : Nat) : Int) + 1))), (3, .int (jI (((bl2 co T (co + 1 + q9) (bl1 co T (co + 1 + q9) (bls co T q9))).2 : Nat) : Int))), (2, .int (jI (((bl2 co T (co + 1 + q9) (bl1 co T (co + 1 + q9) (bls co T q9))).1 : Nat) : Int))), (0, .ref (ad po)), (1, .int (jI ((co : Nat) : Int)))]) hx hb dX3_bringLeast_74 hl (k := 2) rfl (jI_add _ _) (by decide) rfl (fun ls hl => ?_)
            refine lv_goto (tgt := 9) hx hb dX3_bringLeast_77 (by decide) ?_
            exact ih_LP (q9 + 1) (by omega) (by omega) ctv_1 _ _ hv0_1 trivial hofv_1 trivial hW hS ls (lv_sub hl [0, 1, 2, 3, 4] rfl)
  exact LP (kz + 1) (0) (by omega) (by omega) ct _ _ hTb trivial (fun _ _ => rfl) trivial hW hS ls (lv_sub hl [0, 1, 2, 3, 4] rfl)
