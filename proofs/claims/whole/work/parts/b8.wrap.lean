/-! The law's wrappers: what is thrown becomes a number -/
section Wrappers
set_option maxHeartbeats 4000000 in
set_option maxRecDepth 100000 in
theorem c_L_path (l : Launch) (D : va_G) (ty : Nat → ClassId) (ad : Nat → Nat) (ct : rm_C) (sz : Nat) (fs : List Value) (o : Nat → Int) (a9 : Int) (b9 : Int) (c9 : Int) (d9 : Int) {post : Int → rm_C → Prop} {px : String → rm_C → Prop} (h0 : ct 0 = some (.inr (5, fs))) (ho : ct 2000 = some (rl ty 1 o)) (hM : vx_Met l yX5_path wsX5_path ({ frames := 7, cells := 3, slots := 18, locals := 104 }) (rm_PX D ty ad (cutC ct) sz [.ref (ad 0), .int (jI a9), .int (jI b9), .int (jI c9), .int (jI d9)]) (rm_Qi D ad (cutC ct) sz post) (rm_XC D ad (cutC ct) sz px) 3 18 (rm_A ad (cutC ct) sz)) (hpz : ∀ z c1, post z c1 → r32 z) (hpx : ∀ E c1, px E c1 → E = xNSE) : vx_Met l yL_path wsL_path ({ frames := 8, cells := 3, slots := 18, locals := 129 }) (rm_PY D ty ad ct sz [.ref (ad 0), .int (jI a9), .int (jI b9), .int (jI c9), .int (jI d9), .ref (ad 2000)]) (rm_Qi D ad ct sz (fun k ct1 => (k = 0 ∧ ∃ z c1, post z c1 ∧ ct1 2000 = some (rl ty 1 (ub o 0 z)) ∧ ∀ q, q ≠ 2000 → ct1 q = glue c1 ct q) ∨ (k = 1 ∧ ∃ c1, px xNSE c1 ∧ ∀ q, ct1 q = glue c1 ct q))) (rm_XC D ad ct sz (fun _ _ => False)) 3 18 (rm_A ad ct sz) := by
  refine vx_ofWH (cc := cL_path) (maxL := 7) (ret := (some .int)) (hh := [(0, 14, 17, 13)]) (by decide) rfl ?_
  intro p e s m args below meth c s₁ B hml hv
  obtain ⟨hargs, ⟨⟨hsz, hW, hK, hNw⟩, hE, hU⟩, hX2⟩ := hv
  have hx := B.exec
  have hb := B.bytes
  have hr := B.returns
  have hts := atoms_spec (ws := wsL_path) B.pre
  have hown : s.vm.findClass RL = some m.cls := findClass_of_methodNamed B.named
  have hlocks := B.notSynchronized
  have htab := vx_table (x := yL_path) B (hts (.codeWith yL_path cL_path 7 (some .int) [(0, 14, 17, 13)]) List.mem_cons_self)
  subst hsz
  have hW := hW.own (sz := s.heap.size)
  have hA : ∀ q : Nat, s.heap.size ≤ q → rm_A ad ct s.heap.size q := fun q h => Or.inr h
  have hS : va_S (rm_A ad ct s.heap.size) s.heap s.heap [] := va_S.rf
  have hent : entryFrame m args 7 = entryFrame m ([.ref (ad 0), .int (jI a9), .int (jI b9), .int (jI c9), .int (jI d9), .ref (ad 2000)] : List Value).toArray 7 := by rw [hargs]
  have hl := lv_entry ([.ref (ad 0), .int (jI a9), .int (jI b9), .int (jI c9), .int (jI d9), .ref (ad 2000)]) (n := 7) (Nat.le_of_ble_eq_true rfl)
  rw [hent, lg_entry_eq]
  generalize (lg_sl ([.ref (ad 0), .int (jI a9), .int (jI b9), .int (jI c9), .int (jI d9), .ref (ad 2000)]) ++ List.replicate (7 - (lg_sl ([.ref (ad 0), .int (jI a9), .int (jI b9), .int (jI c9), .int (jI d9), .ref (ad 2000)])).length) Slot.unset).toArray = ls at hl ⊢
  have hl : lv_has ls 7 [(0, .ref (ad 0)), (1, .int (jI a9)), (2, .int (jI b9)), (3, .int (jI c9)), (4, .int (jI d9)), (5, .ref (ad 2000))] := hl
  refine lv_aload hx hb dL_path_0 (lv_at hl 5 rfl) ?_
  refine lv_iconst (v := jI 0) hx hb dL_path_2 rfl ?_
  refine lv_aload_n hx hb dL_path_3 rfl (lv_at hl 0 rfl) ?_
  refine lv_iload_n hx hb dL_path_4 rfl (lv_at hl 1 rfl) ?_
  refine lv_iload_n hx hb dL_path_5 rfl (lv_at hl 2 rfl) ?_
  refine lv_iload_n hx hb dL_path_6 rfl (lv_at hl 3 rfl) ?_
  refine lv_iload hx hb dL_path_7 (lv_at hl 4 rfl) ?_
  refine xc_i (vx_runV (As := [.int (jI a9), .int (jI b9), .int (jI c9), .int (jI d9)]) (rest := [.int (jI 0), .ref (ad 2000)]) ⟨hx, hb, hml, hown, hts⟩ hM (cwV 4 hts gL_path_X5_path rfl rfl rfl (by decide +kernel) ⟨Nat.le_of_ble_eq_true rfl, Nat.le_of_ble_eq_true rfl⟩) (preVY hK hNw hE hU hW hS hA h0) rfl rfl hl.1 rfl (lv_room (Nat.le_of_ble_eq_true rfl)) dL_path_9 ⟨Nat.le_of_ble_eq_true rfl, Nat.le_of_ble_eq_true rfl⟩) hW hS hA (fun E c1 ce q9 H locs hp hW hS hce hcv hcl => ?_) (fun z c1 H locs hp hW hS => ?_)
  · obtain rfl := hpx E c1 hp
    refine vx_catch (own := RL) (name := xNSE) hown [] ⟨0, 14, 17, 13⟩ [] (by rw [htab]; rfl) (fun z hz => absurd hz List.not_mem_nil) rfl (by decide) (hts (.classLink RL 13 "java/util/NoSuchElementException") (by decide +kernel)) (cast_of hE (by decide +kernel)) hce hcv hcl ?_
    refine lv_astore (lv' := [(6, .ref q9), (0, .ref (ad 0)), (1, .int (jI a9)), (2, .int (jI b9)), (3, .int (jI c9)), (4, .int (jI d9)), (5, .ref (ad 2000))]) hx hb dL_path_17 hl (by decide) rfl (fun ls hl => ?_)
    refine lv_iconst (v := jI 1) hx hb dL_path_19 rfl ?_
    refine vx_ret ?_
    refine W.widen (k := 3) (n := 18) (by omega) (by omega) ?_
    exact W.iret hx hb hr (fun t ht hw => ⟨⟨_, (1, (glue c1 ct)), rfl, ⟨rfl, Or.inr (⟨rfl, c1, hp, fun q => rfl⟩)⟩, by show rm_W D ad _ _ t.heap; rw [ht]; exact hW⟩, hS.F ht⟩) hS.2.2 dL_path_20
  · have hz := hpz z c1 hp
    refine rm_i2l hx hb dL_path_12 hz ?_
    refine rm_last hx hb hK hW hS (f := o) ((glue_hi (by omega)).trans ho) 0 rfl (by omega) (by omega) dL_path_13 (fun H locs ct2 hs2 ho2 hW hS hz2 => ?_)
    refine lv_goto (tgt := 21) hx hb dL_path_14 (by decide) ?_
    refine lv_iconst (v := jI 0) hx hb dL_path_21 rfl ?_
    refine vx_ret ?_
    refine W.widen (k := 3) (n := 18) (by omega) (by omega) ?_
    exact W.iret hx hb hr (fun t ht hw => ⟨⟨_, (0, ct2), rfl, ⟨rfl, Or.inl (⟨rfl, z, c1, hp, hs2, fun q h => ho2 q h⟩)⟩, by show rm_W D ad _ _ t.heap; rw [ht]; exact hW⟩, hS.F ht⟩) hS.2.2 dL_path_22
set_option maxHeartbeats 4000000 in
set_option maxRecDepth 100000 in
theorem c_L_degree (l : Launch) (D : va_G) (ty : Nat → ClassId) (ad : Nat → Nat) (ct : rm_C) (sz : Nat) (fs : List Value) (o : Nat → Int) (a9 : Int) (b9 : Int) {post : Int → rm_C → Prop} {px : String → rm_C → Prop} (h0 : ct 0 = some (.inr (5, fs))) (ho : ct 2000 = some (rl ty 1 o)) (hM : vx_Met l yX5_degree wsX5_degree ({ frames := 7, cells := 2, slots := 12, locals := 104 }) (rm_PX D ty ad (cutC ct) sz [.ref (ad 0), .int (jI a9), .int (jI b9)]) (rm_Qi D ad (cutC ct) sz post) (rm_XC D ad (cutC ct) sz px) 2 12 (rm_A ad (cutC ct) sz)) (hpz : ∀ z c1, post z c1 → r32 z) (hpx : ∀ E c1, px E c1 → E = xNSE) : vx_Met l yL_degree wsL_degree ({ frames := 8, cells := 2, slots := 12, locals := 127 }) (rm_PY D ty ad ct sz [.ref (ad 0), .int (jI a9), .int (jI b9), .ref (ad 2000)]) (rm_Qi D ad ct sz (fun k ct1 => (k = 0 ∧ ∃ z c1, post z c1 ∧ ct1 2000 = some (rl ty 1 (ub o 0 z)) ∧ ∀ q, q ≠ 2000 → ct1 q = glue c1 ct q) ∨ (k = 1 ∧ ∃ c1, px xNSE c1 ∧ ∀ q, ct1 q = glue c1 ct q))) (rm_XC D ad ct sz (fun _ _ => False)) 2 12 (rm_A ad ct sz) := by
  refine vx_ofWH (cc := cL_degree) (maxL := 5) (ret := (some .int)) (hh := [(0, 10, 13, 13)]) (by decide) rfl ?_
  intro p e s m args below meth c s₁ B hml hv
  obtain ⟨hargs, ⟨⟨hsz, hW, hK, hNw⟩, hE, hU⟩, hX2⟩ := hv
  have hx := B.exec
  have hb := B.bytes
  have hr := B.returns
  have hts := atoms_spec (ws := wsL_degree) B.pre
  have hown : s.vm.findClass RL = some m.cls := findClass_of_methodNamed B.named
  have hlocks := B.notSynchronized
  have htab := vx_table (x := yL_degree) B (hts (.codeWith yL_degree cL_degree 5 (some .int) [(0, 10, 13, 13)]) List.mem_cons_self)
  subst hsz
  have hW := hW.own (sz := s.heap.size)
  have hA : ∀ q : Nat, s.heap.size ≤ q → rm_A ad ct s.heap.size q := fun q h => Or.inr h
  have hS : va_S (rm_A ad ct s.heap.size) s.heap s.heap [] := va_S.rf
  have hent : entryFrame m args 5 = entryFrame m ([.ref (ad 0), .int (jI a9), .int (jI b9), .ref (ad 2000)] : List Value).toArray 5 := by rw [hargs]
  have hl := lv_entry ([.ref (ad 0), .int (jI a9), .int (jI b9), .ref (ad 2000)]) (n := 5) (Nat.le_of_ble_eq_true rfl)
  rw [hent, lg_entry_eq]
  generalize (lg_sl ([.ref (ad 0), .int (jI a9), .int (jI b9), .ref (ad 2000)]) ++ List.replicate (5 - (lg_sl ([.ref (ad 0), .int (jI a9), .int (jI b9), .ref (ad 2000)])).length) Slot.unset).toArray = ls at hl ⊢
  have hl : lv_has ls 5 [(0, .ref (ad 0)), (1, .int (jI a9)), (2, .int (jI b9)), (3, .ref (ad 2000))] := hl
  refine lv_aload_n hx hb dL_degree_0 rfl (lv_at hl 3 rfl) ?_
  refine lv_iconst (v := jI 0) hx hb dL_degree_1 rfl ?_
  refine lv_aload_n hx hb dL_degree_2 rfl (lv_at hl 0 rfl) ?_
  refine lv_iload_n hx hb dL_degree_3 rfl (lv_at hl 1 rfl) ?_
  refine lv_iload_n hx hb dL_degree_4 rfl (lv_at hl 2 rfl) ?_
  refine xc_i (vx_runV (As := [.int (jI a9), .int (jI b9)]) (rest := [.int (jI 0), .ref (ad 2000)]) ⟨hx, hb, hml, hown, hts⟩ hM (cwV 2 hts gL_degree_X5_degree rfl rfl rfl (by decide +kernel) ⟨Nat.le_of_ble_eq_true rfl, Nat.le_of_ble_eq_true rfl⟩) (preVY hK hNw hE hU hW hS hA h0) rfl rfl hl.1 rfl (lv_room (Nat.le_of_ble_eq_true rfl)) dL_degree_5 ⟨Nat.le_of_ble_eq_true rfl, Nat.le_of_ble_eq_true rfl⟩) hW hS hA (fun E c1 ce q9 H locs hp hW hS hce hcv hcl => ?_) (fun z c1 H locs hp hW hS => ?_)
  · obtain rfl := hpx E c1 hp
    refine vx_catch (own := RL) (name := xNSE) hown [] ⟨0, 10, 13, 13⟩ [] (by rw [htab]; rfl) (fun z hz => absurd hz List.not_mem_nil) rfl (by decide) (hts (.classLink RL 13 "java/util/NoSuchElementException") (by decide +kernel)) (cast_of hE (by decide +kernel)) hce hcv hcl ?_
    refine lv_astore (lv' := [(4, .ref q9), (0, .ref (ad 0)), (1, .int (jI a9)), (2, .int (jI b9)), (3, .ref (ad 2000))]) hx hb dL_degree_13 hl (by decide) rfl (fun ls hl => ?_)
    refine lv_iconst (v := jI 1) hx hb dL_degree_15 rfl ?_
    refine vx_ret ?_
    refine W.widen (k := 2) (n := 12) (by omega) (by omega) ?_
    exact W.iret hx hb hr (fun t ht hw => ⟨⟨_, (1, (glue c1 ct)), rfl, ⟨rfl, Or.inr (⟨rfl, c1, hp, fun q => rfl⟩)⟩, by show rm_W D ad _ _ t.heap; rw [ht]; exact hW⟩, hS.F ht⟩) hS.2.2 dL_degree_16
  · have hz := hpz z c1 hp
    refine rm_i2l hx hb dL_degree_8 hz ?_
    refine rm_last hx hb hK hW hS (f := o) ((glue_hi (by omega)).trans ho) 0 rfl (by omega) (by omega) dL_degree_9 (fun H locs ct2 hs2 ho2 hW hS hz2 => ?_)
    refine lv_goto (tgt := 17) hx hb dL_degree_10 (by decide) ?_
    refine lv_iconst (v := jI 0) hx hb dL_degree_17 rfl ?_
    refine vx_ret ?_
    refine W.widen (k := 2) (n := 12) (by omega) (by omega) ?_
    exact W.iret hx hb hr (fun t ht hw => ⟨⟨_, (0, ct2), rfl, ⟨rfl, Or.inl (⟨rfl, z, c1, hp, hs2, fun q h => ho2 q h⟩)⟩, by show rm_W D ad _ _ t.heap; rw [ht]; exact hW⟩, hS.F ht⟩) hS.2.2 dL_degree_18
set_option maxHeartbeats 4000000 in
set_option maxRecDepth 100000 in
theorem c_L_whole (l : Launch) (D : va_G) (ty : Nat → ClassId) (ad : Nat → Nat) (ct : rm_C) (sz : Nat) (fs : List Value) (o : Nat → Int) (a9 : Int) {post : Int → rm_C → Prop} {px : String → rm_C → Prop} (h0 : ct 0 = some (.inr (5, fs))) (ho : ct 2000 = some (rl ty 1 o)) (hM : vx_Met l yX5_whole wsX5_whole ({ frames := 7, cells := 1, slots := 6, locals := 104 }) (rm_PX D ty ad (cutC ct) sz [.ref (ad 0), .int (jI a9)]) (rm_Qi D ad (cutC ct) sz post) (rm_XC D ad (cutC ct) sz px) 1 6 (rm_A ad (cutC ct) sz)) (hpz : ∀ z c1, post z c1 → z = 0 ∨ z = 1) (hpx : ∀ E c1, px E c1 → E = xNSE) : vx_Met l yL_whole wsL_whole ({ frames := 8, cells := 1, slots := 6, locals := 125 }) (rm_PY D ty ad ct sz [.ref (ad 0), .int (jI a9), .ref (ad 2000)]) (rm_Qi D ad ct sz (fun k ct1 => (k = 0 ∧ ∃ z c1, post z c1 ∧ ct1 2000 = some (rl ty 1 (ub o 0 z)) ∧ ∀ q, q ≠ 2000 → ct1 q = glue c1 ct q) ∨ (k = 1 ∧ ∃ c1, px xNSE c1 ∧ ∀ q, ct1 q = glue c1 ct q))) (rm_XC D ad ct sz (fun _ _ => False)) 1 6 (rm_A ad ct sz) := by
  refine vx_ofWH (cc := cL_whole) (maxL := 4) (ret := (some .int)) (hh := [(0, 16, 19, 13)]) (by decide) rfl ?_
  intro p e s m args below meth c s₁ B hml hv
  obtain ⟨hargs, ⟨⟨hsz, hW, hK, hNw⟩, hE, hU⟩, hX2⟩ := hv
  have hx := B.exec
  have hb := B.bytes
  have hr := B.returns
  have hts := atoms_spec (ws := wsL_whole) B.pre
  have hown : s.vm.findClass RL = some m.cls := findClass_of_methodNamed B.named
  have hlocks := B.notSynchronized
  have htab := vx_table (x := yL_whole) B (hts (.codeWith yL_whole cL_whole 4 (some .int) [(0, 16, 19, 13)]) List.mem_cons_self)
  subst hsz
  have hW := hW.own (sz := s.heap.size)
  have hA : ∀ q : Nat, s.heap.size ≤ q → rm_A ad ct s.heap.size q := fun q h => Or.inr h
  have hS : va_S (rm_A ad ct s.heap.size) s.heap s.heap [] := va_S.rf
  have hent : entryFrame m args 4 = entryFrame m ([.ref (ad 0), .int (jI a9), .ref (ad 2000)] : List Value).toArray 4 := by rw [hargs]
  have hl := lv_entry ([.ref (ad 0), .int (jI a9), .ref (ad 2000)]) (n := 4) (Nat.le_of_ble_eq_true rfl)
  rw [hent, lg_entry_eq]
  generalize (lg_sl ([.ref (ad 0), .int (jI a9), .ref (ad 2000)]) ++ List.replicate (4 - (lg_sl ([.ref (ad 0), .int (jI a9), .ref (ad 2000)])).length) Slot.unset).toArray = ls at hl ⊢
  have hl : lv_has ls 4 [(0, .ref (ad 0)), (1, .int (jI a9)), (2, .ref (ad 2000))] := hl
  refine lv_aload_n hx hb dL_whole_0 rfl (lv_at hl 2 rfl) ?_
  refine lv_iconst (v := jI 0) hx hb dL_whole_1 rfl ?_
  refine lv_aload_n hx hb dL_whole_2 rfl (lv_at hl 0 rfl) ?_
  refine lv_iload_n hx hb dL_whole_3 rfl (lv_at hl 1 rfl) ?_
  refine xc_i (vx_runV (As := [.int (jI a9)]) (rest := [.int (jI 0), .ref (ad 2000)]) ⟨hx, hb, hml, hown, hts⟩ hM (cwV 1 hts gL_whole_X5_whole rfl rfl rfl (by decide +kernel) ⟨Nat.le_of_ble_eq_true rfl, Nat.le_of_ble_eq_true rfl⟩) (preVY hK hNw hE hU hW hS hA h0) rfl rfl hl.1 rfl (lv_room (Nat.le_of_ble_eq_true rfl)) dL_whole_4 ⟨Nat.le_of_ble_eq_true rfl, Nat.le_of_ble_eq_true rfl⟩) hW hS hA (fun E c1 ce q9 H locs hp hW hS hce hcv hcl => ?_) (fun z c1 H locs hp hW hS => ?_)
  · obtain rfl := hpx E c1 hp
    refine vx_catch (own := RL) (name := xNSE) hown [] ⟨0, 16, 19, 13⟩ [] (by rw [htab]; rfl) (fun z hz => absurd hz List.not_mem_nil) rfl (by decide) (hts (.classLink RL 13 "java/util/NoSuchElementException") (by decide +kernel)) (cast_of hE (by decide +kernel)) hce hcv hcl ?_
    refine lv_astore_n (lv' := [(3, .ref q9), (0, .ref (ad 0)), (1, .int (jI a9)), (2, .ref (ad 2000))]) hx hb dL_whole_19 rfl hl (by decide) rfl (fun ls hl => ?_)
    refine lv_iconst (v := jI 1) hx hb dL_whole_20 rfl ?_
    refine vx_ret ?_
    refine W.widen (k := 1) (n := 6) (by omega) (by omega) ?_
    exact W.iret hx hb hr (fun t ht hw => ⟨⟨_, (1, (glue c1 ct)), rfl, ⟨rfl, Or.inr (⟨rfl, c1, hp, fun q => rfl⟩)⟩, by show rm_W D ad _ _ t.heap; rw [ht]; exact hW⟩, hS.F ht⟩) hS.2.2 dL_whole_21
  · rcases hpz z c1 hp with hz | hz
    · subst hz
      refine rm_if_eq (tgt := 14) hx hb r32_0 dL_whole_7 (by decide) (fun _ => ?_) (fun hq => absurd rfl hq)
      refine lv_lconst (v := jL 0) hx hb dL_whole_14 rfl ?_
      refine rm_last hx hb hK hW hS (f := o) ((glue_hi (by omega)).trans ho) 0 rfl (by omega) (by omega) dL_whole_15 (fun H locs ct2 hs2 ho2 hW hS hz2 => ?_)
      refine lv_goto (tgt := 22) hx hb dL_whole_16 (by decide) ?_
      refine lv_iconst (v := jI 0) hx hb dL_whole_22 rfl ?_
      refine vx_ret ?_
      refine W.widen (k := 1) (n := 6) (by omega) (by omega) ?_
      exact W.iret hx hb hr (fun t ht hw => ⟨⟨_, (0, ct2), rfl, ⟨rfl, Or.inl (⟨rfl, 0, c1, hp, hs2, fun q h => ho2 q h⟩)⟩, by show rm_W D ad _ _ t.heap; rw [ht]; exact hW⟩, hS.F ht⟩) hS.2.2 dL_whole_23
    · subst hz
      refine rm_if_eq (tgt := 14) hx hb ⟨by omega, by omega⟩ dL_whole_7 (by decide) (fun hq => absurd hq (by decide)) (fun _ => ?_)
      refine lv_lconst (v := jL 1) hx hb dL_whole_10 rfl ?_
      refine lv_goto (tgt := 15) hx hb dL_whole_11 (by decide) ?_
      refine rm_last hx hb hK hW hS (f := o) ((glue_hi (by omega)).trans ho) 0 rfl (by omega) (by omega) dL_whole_15 (fun H locs ct2 hs2 ho2 hW hS hz2 => ?_)
      refine lv_goto (tgt := 22) hx hb dL_whole_16 (by decide) ?_
      refine lv_iconst (v := jI 0) hx hb dL_whole_22 rfl ?_
      refine vx_ret ?_
      refine W.widen (k := 1) (n := 6) (by omega) (by omega) ?_
      exact W.iret hx hb hr (fun t ht hw => ⟨⟨_, (0, ct2), rfl, ⟨rfl, Or.inl (⟨rfl, 1, c1, hp, hs2, fun q h => ho2 q h⟩)⟩, by show rm_W D ad _ _ t.heap; rw [ht]; exact hW⟩, hS.F ht⟩) hS.2.2 dL_whole_23
set_option maxHeartbeats 4000000 in
set_option maxRecDepth 100000 in
theorem c_L_trees (l : Launch) (D : va_G) (ty : Nat → ClassId) (ad : Nat → Nat) (ct : rm_C) (sz : Nat) (fs : List Value) (o : Nat → Int) (a9 : Int) {post : Int → rm_C → Prop} {px : String → rm_C → Prop} (h0 : ct 0 = some (.inr (5, fs))) (ho : ct 2000 = some (rl ty 1 o)) (hM : vx_Met l yX5_trees wsX5_trees ({ frames := 7, cells := 1, slots := 6, locals := 104 }) (rm_PX D ty ad (cutC ct) sz [.ref (ad 0), .int (jI a9)]) (rm_Ql D ad (cutC ct) sz post) (rm_XC D ad (cutC ct) sz px) 1 6 (rm_A ad (cutC ct) sz)) (hpx : ∀ E c1, px E c1 → E = xNSE) : vx_Met l yL_trees wsL_trees ({ frames := 8, cells := 1, slots := 6, locals := 125 }) (rm_PY D ty ad ct sz [.ref (ad 0), .int (jI a9), .ref (ad 2000)]) (rm_Qi D ad ct sz (fun k ct1 => (k = 0 ∧ ∃ z c1, post z c1 ∧ ct1 2000 = some (rl ty 1 (ub o 0 z)) ∧ ∀ q, q ≠ 2000 → ct1 q = glue c1 ct q) ∨ (k = 1 ∧ ∃ c1, px xNSE c1 ∧ ∀ q, ct1 q = glue c1 ct q))) (rm_XC D ad ct sz (fun _ _ => False)) 1 6 (rm_A ad ct sz) := by
  refine vx_ofWH (cc := cL_trees) (maxL := 4) (ret := (some .int)) (hh := [(0, 8, 11, 13)]) (by decide) rfl ?_
  intro p e s m args below meth c s₁ B hml hv
  obtain ⟨hargs, ⟨⟨hsz, hW, hK, hNw⟩, hE, hU⟩, hX2⟩ := hv
  have hx := B.exec
  have hb := B.bytes
  have hr := B.returns
  have hts := atoms_spec (ws := wsL_trees) B.pre
  have hown : s.vm.findClass RL = some m.cls := findClass_of_methodNamed B.named
  have hlocks := B.notSynchronized
  have htab := vx_table (x := yL_trees) B (hts (.codeWith yL_trees cL_trees 4 (some .int) [(0, 8, 11, 13)]) List.mem_cons_self)
  subst hsz
  have hW := hW.own (sz := s.heap.size)
  have hA : ∀ q : Nat, s.heap.size ≤ q → rm_A ad ct s.heap.size q := fun q h => Or.inr h
  have hS : va_S (rm_A ad ct s.heap.size) s.heap s.heap [] := va_S.rf
  have hent : entryFrame m args 4 = entryFrame m ([.ref (ad 0), .int (jI a9), .ref (ad 2000)] : List Value).toArray 4 := by rw [hargs]
  have hl := lv_entry ([.ref (ad 0), .int (jI a9), .ref (ad 2000)]) (n := 4) (Nat.le_of_ble_eq_true rfl)
  rw [hent, lg_entry_eq]
  generalize (lg_sl ([.ref (ad 0), .int (jI a9), .ref (ad 2000)]) ++ List.replicate (4 - (lg_sl ([.ref (ad 0), .int (jI a9), .ref (ad 2000)])).length) Slot.unset).toArray = ls at hl ⊢
  have hl : lv_has ls 4 [(0, .ref (ad 0)), (1, .int (jI a9)), (2, .ref (ad 2000))] := hl
  refine lv_aload_n hx hb dL_trees_0 rfl (lv_at hl 2 rfl) ?_
  refine lv_iconst (v := jI 0) hx hb dL_trees_1 rfl ?_
  refine lv_aload_n hx hb dL_trees_2 rfl (lv_at hl 0 rfl) ?_
  refine lv_iload_n hx hb dL_trees_3 rfl (lv_at hl 1 rfl) ?_
  refine xc_l (vx_runV (As := [.int (jI a9)]) (rest := [.int (jI 0), .ref (ad 2000)]) ⟨hx, hb, hml, hown, hts⟩ hM (cwV 1 hts gL_trees_X5_trees rfl rfl rfl (by decide +kernel) ⟨Nat.le_of_ble_eq_true rfl, Nat.le_of_ble_eq_true rfl⟩) (preVY hK hNw hE hU hW hS hA h0) rfl rfl hl.1 rfl (lv_room (Nat.le_of_ble_eq_true rfl)) dL_trees_4 ⟨Nat.le_of_ble_eq_true rfl, Nat.le_of_ble_eq_true rfl⟩) hW hS hA (fun E c1 ce q9 H locs hp hW hS hce hcv hcl => ?_) (fun z c1 H locs hp hW hS => ?_)
  · obtain rfl := hpx E c1 hp
    refine vx_catch (own := RL) (name := xNSE) hown [] ⟨0, 8, 11, 13⟩ [] (by rw [htab]; rfl) (fun z hz => absurd hz List.not_mem_nil) rfl (by decide) (hts (.classLink RL 13 "java/util/NoSuchElementException") (by decide +kernel)) (cast_of hE (by decide +kernel)) hce hcv hcl ?_
    refine lv_astore_n (lv' := [(3, .ref q9), (0, .ref (ad 0)), (1, .int (jI a9)), (2, .ref (ad 2000))]) hx hb dL_trees_11 rfl hl (by decide) rfl (fun ls hl => ?_)
    refine lv_iconst (v := jI 1) hx hb dL_trees_12 rfl ?_
    refine vx_ret ?_
    refine W.widen (k := 1) (n := 6) (by omega) (by omega) ?_
    exact W.iret hx hb hr (fun t ht hw => ⟨⟨_, (1, (glue c1 ct)), rfl, ⟨rfl, Or.inr (⟨rfl, c1, hp, fun q => rfl⟩)⟩, by show rm_W D ad _ _ t.heap; rw [ht]; exact hW⟩, hS.F ht⟩) hS.2.2 dL_trees_13
  · skip
    refine rm_last hx hb hK hW hS (f := o) ((glue_hi (by omega)).trans ho) 0 rfl (by omega) (by omega) dL_trees_7 (fun H locs ct2 hs2 ho2 hW hS hz2 => ?_)
    refine lv_goto (tgt := 14) hx hb dL_trees_8 (by decide) ?_
    refine lv_iconst (v := jI 0) hx hb dL_trees_14 rfl ?_
    refine vx_ret ?_
    refine W.widen (k := 1) (n := 6) (by omega) (by omega) ?_
    exact W.iret hx hb hr (fun t ht hw => ⟨⟨_, (0, ct2), rfl, ⟨rfl, Or.inl (⟨rfl, z, c1, hp, hs2, fun q h => ho2 q h⟩)⟩, by show rm_W D ad _ _ t.heap; rw [ht]; exact hW⟩, hS.F ht⟩) hS.2.2 dL_trees_15
set_option maxHeartbeats 4000000 in
set_option maxRecDepth 100000 in
theorem c_L_part (l : Launch) (D : va_G) (ty : Nat → ClassId) (ad : Nat → Nat) (ct : rm_C) (sz : Nat) (fs : List Value) (o : Nat → Int) (a9 : Int) (b9 : Int) {post : Int → rm_C → Prop} {px : String → rm_C → Prop} (h0 : ct 0 = some (.inr (5, fs))) (ho : ct 2000 = some (rl ty 1 o)) (hM : vx_Met l yX5_part wsX5_part ({ frames := 7, cells := 2, slots := 12, locals := 140 }) (rm_PX D ty ad (cutC ct) sz [.ref (ad 0), .int (jI a9), .int (jI b9)]) (rm_Ql D ad (cutC ct) sz post) (rm_XC D ad (cutC ct) sz px) 2 12 (rm_A ad (cutC ct) sz)) (hpx : ∀ E c1, px E c1 → E = xNSE ∨ E = xISE) : vx_Met l yL_part wsL_part ({ frames := 8, cells := 2, slots := 12, locals := 164 }) (rm_PY D ty ad ct sz [.ref (ad 0), .int (jI a9), .int (jI b9), .ref (ad 2000)]) (rm_Qi D ad ct sz (fun k ct1 => (k = 0 ∧ ∃ z c1, post z c1 ∧ ct1 2000 = some (rl ty 1 (ub o 0 z)) ∧ ∀ q, q ≠ 2000 → ct1 q = glue c1 ct q) ∨ (k = 1 ∧ ∃ c1, px xNSE c1 ∧ ∀ q, ct1 q = glue c1 ct q) ∨ (k = 2 ∧ ∃ c1, px xISE c1 ∧ ∀ q, ct1 q = glue c1 ct q))) (rm_XC D ad ct sz (fun _ _ => False)) 2 12 (rm_A ad ct sz) := by
  refine vx_ofWH (cc := cL_part) (maxL := 5) (ret := (some .int)) (hh := [(0, 9, 12, 13), (0, 9, 16, 31)]) (by decide) rfl ?_
  intro p e s m args below meth c s₁ B hml hv
  obtain ⟨hargs, ⟨⟨hsz, hW, hK, hNw⟩, hE, hU⟩, hX2⟩ := hv
  have hx := B.exec
  have hb := B.bytes
  have hr := B.returns
  have hts := atoms_spec (ws := wsL_part) B.pre
  have hown : s.vm.findClass RL = some m.cls := findClass_of_methodNamed B.named
  have hlocks := B.notSynchronized
  have htab := vx_table (x := yL_part) B (hts (.codeWith yL_part cL_part 5 (some .int) [(0, 9, 12, 13), (0, 9, 16, 31)]) List.mem_cons_self)
  subst hsz
  have hW := hW.own (sz := s.heap.size)
  have hA : ∀ q : Nat, s.heap.size ≤ q → rm_A ad ct s.heap.size q := fun q h => Or.inr h
  have hS : va_S (rm_A ad ct s.heap.size) s.heap s.heap [] := va_S.rf
  have hent : entryFrame m args 5 = entryFrame m ([.ref (ad 0), .int (jI a9), .int (jI b9), .ref (ad 2000)] : List Value).toArray 5 := by rw [hargs]
  have hl := lv_entry ([.ref (ad 0), .int (jI a9), .int (jI b9), .ref (ad 2000)]) (n := 5) (Nat.le_of_ble_eq_true rfl)
  rw [hent, lg_entry_eq]
  generalize (lg_sl ([.ref (ad 0), .int (jI a9), .int (jI b9), .ref (ad 2000)]) ++ List.replicate (5 - (lg_sl ([.ref (ad 0), .int (jI a9), .int (jI b9), .ref (ad 2000)])).length) Slot.unset).toArray = ls at hl ⊢
  have hl : lv_has ls 5 [(0, .ref (ad 0)), (1, .int (jI a9)), (2, .int (jI b9)), (3, .ref (ad 2000))] := hl
  refine lv_aload_n hx hb dL_part_0 rfl (lv_at hl 3 rfl) ?_
  refine lv_iconst (v := jI 0) hx hb dL_part_1 rfl ?_
  refine lv_aload_n hx hb dL_part_2 rfl (lv_at hl 0 rfl) ?_
  refine lv_iload_n hx hb dL_part_3 rfl (lv_at hl 1 rfl) ?_
  refine lv_iload_n hx hb dL_part_4 rfl (lv_at hl 2 rfl) ?_
  refine xc_l (vx_runV (As := [.int (jI a9), .int (jI b9)]) (rest := [.int (jI 0), .ref (ad 2000)]) ⟨hx, hb, hml, hown, hts⟩ hM (cwV 2 hts gL_part_X5_part rfl rfl rfl (by decide +kernel) ⟨Nat.le_of_ble_eq_true rfl, Nat.le_of_ble_eq_true rfl⟩) (preVY hK hNw hE hU hW hS hA h0) rfl rfl hl.1 rfl (lv_room (Nat.le_of_ble_eq_true rfl)) dL_part_5 ⟨Nat.le_of_ble_eq_true rfl, Nat.le_of_ble_eq_true rfl⟩) hW hS hA (fun E c1 ce q9 H locs hp hW hS hce hcv hcl => ?_) (fun z c1 H locs hp hW hS => ?_)
  · rcases hpx E c1 hp with rfl | rfl
    · skip
      refine vx_catch (own := RL) (name := xNSE) hown [] ⟨0, 9, 12, 13⟩ [⟨0, 9, 16, 31⟩] (by rw [htab]; rfl) (fun z hz => absurd hz List.not_mem_nil) rfl (by decide) (hts (.classLink RL 13 "java/util/NoSuchElementException") (by decide +kernel)) (cast_of hE (by decide +kernel)) hce hcv hcl ?_
      refine lv_astore (lv' := [(4, .ref q9), (0, .ref (ad 0)), (1, .int (jI a9)), (2, .int (jI b9)), (3, .ref (ad 2000))]) hx hb dL_part_12 hl (by decide) rfl (fun ls hl => ?_)
      refine lv_iconst (v := jI 1) hx hb dL_part_14 rfl ?_
      refine vx_ret ?_
      refine W.widen (k := 2) (n := 12) (by omega) (by omega) ?_
      exact W.iret hx hb hr (fun t ht hw => ⟨⟨_, (1, (glue c1 ct)), rfl, ⟨rfl, Or.inr (Or.inl (⟨rfl, c1, hp, fun q => rfl⟩))⟩, by show rm_W D ad _ _ t.heap; rw [ht]; exact hW⟩, hS.F ht⟩) hS.2.2 dL_part_15
    · skip
      refine vx_catch (own := RL) (name := xISE) hown [⟨0, 9, 12, 13⟩] ⟨0, 9, 16, 31⟩ [] (by rw [htab]; rfl) (fun z hz => by
        obtain rfl := List.mem_singleton.mp hz
        exact Or.inr ⟨by decide, xNSE, hts (.classLink RL 13 "java/util/NoSuchElementException") (by decide +kernel), hX2.1⟩) rfl (by decide) (hts (.classLink RL 31 "java/lang/IllegalStateException") (by decide +kernel)) (cast_of hE (by decide +kernel)) hce hcv hcl ?_
      refine lv_astore (lv' := [(4, .ref q9), (0, .ref (ad 0)), (1, .int (jI a9)), (2, .int (jI b9)), (3, .ref (ad 2000))]) hx hb dL_part_16 hl (by decide) rfl (fun ls hl => ?_)
      refine lv_iconst (v := jI 2) hx hb dL_part_18 rfl ?_
      refine vx_ret ?_
      refine W.widen (k := 2) (n := 12) (by omega) (by omega) ?_
      exact W.iret hx hb hr (fun t ht hw => ⟨⟨_, (2, (glue c1 ct)), rfl, ⟨rfl, Or.inr (Or.inr (⟨rfl, c1, hp, fun q => rfl⟩))⟩, by show rm_W D ad _ _ t.heap; rw [ht]; exact hW⟩, hS.F ht⟩) hS.2.2 dL_part_19
  · skip
    refine rm_last hx hb hK hW hS (f := o) ((glue_hi (by omega)).trans ho) 0 rfl (by omega) (by omega) dL_part_8 (fun H locs ct2 hs2 ho2 hW hS hz2 => ?_)
    refine lv_goto (tgt := 20) hx hb dL_part_9 (by decide) ?_
    refine lv_iconst (v := jI 0) hx hb dL_part_20 rfl ?_
    refine vx_ret ?_
    refine W.widen (k := 2) (n := 12) (by omega) (by omega) ?_
    exact W.iret hx hb hr (fun t ht hw => ⟨⟨_, (0, ct2), rfl, ⟨rfl, Or.inl (⟨rfl, z, c1, hp, hs2, fun q h => ho2 q h⟩)⟩, by show rm_W D ad _ _ t.heap; rw [ht]; exact hW⟩, hS.F ht⟩) hS.2.2 dL_part_21
set_option maxHeartbeats 4000000 in
set_option maxRecDepth 100000 in
theorem c_L_heap (l : Launch) (D : va_G) (ty : Nat → ClassId) (ad : Nat → Nat) (ct : rm_C) (sz : Nat) (fs : List Value) (o : Nat → Int) (a9 : Int) {post : Int → rm_C → (Nat → Nat) → Prop} {px : String → rm_C → Prop} (h0 : ct 0 = some (.inr (5, fs))) (ho : ct 2000 = some (rl ty 1 o)) (hM : vx_Met l yX5_heap wsX5_heap ({ frames := 7, cells := 4, slots := 25, locals := 104 }) (rm_PX D ty ad (cutC ct) sz [.ref (ad 0), .int (jI a9)]) (rm_Qia D ad (cutC ct) sz post) (rm_XC D ad (cutC ct) sz px) 4 25 (rm_A ad (cutC ct) sz)) (hpz : ∀ z c1 ad1, post z c1 ad1 → r32 z) (hpa : ∀ z c1 ad1, post z c1 ad1 → ∀ r, 1000 ≤ r → ad1 r = ad r) (hpx : ∀ E c1, px E c1 → E = xNSE) : vx_Met l yL_heap wsL_heap ({ frames := 8, cells := 4, slots := 25, locals := 126 }) (rm_PY D ty ad ct sz [.ref (ad 0), .int (jI a9), .ref (ad 2000)]) (rm_Qia D ad ct sz (fun k ct1 ad1 => (k = 0 ∧ ∃ z c1, post z c1 ad1 ∧ ct1 2000 = some (rl ty 1 (ub o 0 z)) ∧ ∀ q, q ≠ 2000 → ct1 q = glue c1 ct q) ∨ (k = 1 ∧ ∃ c1, px xNSE c1 ∧ ad1 = ad ∧ ∀ q, ct1 q = glue c1 ct q))) (rm_XC D ad ct sz (fun _ _ => False)) 4 25 (rm_A ad ct sz) := by
  refine vx_ofWH (cc := cL_heap) (maxL := 4) (ret := (some .int)) (hh := [(0, 9, 12, 13)]) (by decide) rfl ?_
  intro p e s m args below meth c s₁ B hml hv
  obtain ⟨hargs, ⟨⟨hsz, hW, hK, hNw⟩, hE, hU⟩, hX2⟩ := hv
  have hx := B.exec
  have hb := B.bytes
  have hr := B.returns
  have hts := atoms_spec (ws := wsL_heap) B.pre
  have hown : s.vm.findClass RL = some m.cls := findClass_of_methodNamed B.named
  have hlocks := B.notSynchronized
  have htab := vx_table (x := yL_heap) B (hts (.codeWith yL_heap cL_heap 4 (some .int) [(0, 9, 12, 13)]) List.mem_cons_self)
  subst hsz
  have hW := hW.own (sz := s.heap.size)
  have hA : ∀ q : Nat, s.heap.size ≤ q → rm_A ad ct s.heap.size q := fun q h => Or.inr h
  have hS : va_S (rm_A ad ct s.heap.size) s.heap s.heap [] := va_S.rf
  have hent : entryFrame m args 4 = entryFrame m ([.ref (ad 0), .int (jI a9), .ref (ad 2000)] : List Value).toArray 4 := by rw [hargs]
  have hl := lv_entry ([.ref (ad 0), .int (jI a9), .ref (ad 2000)]) (n := 4) (Nat.le_of_ble_eq_true rfl)
  rw [hent, lg_entry_eq]
  generalize (lg_sl ([.ref (ad 0), .int (jI a9), .ref (ad 2000)]) ++ List.replicate (4 - (lg_sl ([.ref (ad 0), .int (jI a9), .ref (ad 2000)])).length) Slot.unset).toArray = ls at hl ⊢
  have hl : lv_has ls 4 [(0, .ref (ad 0)), (1, .int (jI a9)), (2, .ref (ad 2000))] := hl
  refine lv_aload_n hx hb dL_heap_0 rfl (lv_at hl 2 rfl) ?_
  refine lv_iconst (v := jI 0) hx hb dL_heap_1 rfl ?_
  refine lv_aload_n hx hb dL_heap_2 rfl (lv_at hl 0 rfl) ?_
  refine lv_iload_n hx hb dL_heap_3 rfl (lv_at hl 1 rfl) ?_
  refine xc_a (vx_runV (As := [.int (jI a9)]) (rest := [.int (jI 0), .ref (ad 2000)]) ⟨hx, hb, hml, hown, hts⟩ hM (cwV 1 hts gL_heap_X5_heap rfl rfl rfl (by decide +kernel) ⟨Nat.le_of_ble_eq_true rfl, Nat.le_of_ble_eq_true rfl⟩) (preVY hK hNw hE hU hW hS hA h0) rfl rfl hl.1 rfl (lv_room (Nat.le_of_ble_eq_true rfl)) dL_heap_4 ⟨Nat.le_of_ble_eq_true rfl, Nat.le_of_ble_eq_true rfl⟩) hW hS hA hpa (fun E c1 ce q9 H locs hp hW hS hce hcv hcl => ?_) (fun z c1 ad1 H locs hp hW hS => ?_)
  · obtain rfl := hpx E c1 hp
    refine vx_catch (own := RL) (name := xNSE) hown [] ⟨0, 9, 12, 13⟩ [] (by rw [htab]; rfl) (fun z hz => absurd hz List.not_mem_nil) rfl (by decide) (hts (.classLink RL 13 "java/util/NoSuchElementException") (by decide +kernel)) (cast_of hE (by decide +kernel)) hce hcv hcl ?_
    refine lv_astore_n (lv' := [(3, .ref q9), (0, .ref (ad 0)), (1, .int (jI a9)), (2, .ref (ad 2000))]) hx hb dL_heap_12 rfl hl (by decide) rfl (fun ls hl => ?_)
    refine lv_iconst (v := jI 1) hx hb dL_heap_13 rfl ?_
    refine vx_ret ?_
    refine W.widen (k := 4) (n := 25) (by omega) (by omega) ?_
    exact W.iret hx hb hr (fun t ht hw => ⟨⟨_, (1, (glue c1 ct), ad), rfl, ⟨rfl, Or.inr (⟨rfl, c1, hp, rfl, fun q => rfl⟩)⟩, by show rm_W D ad _ _ t.heap; rw [ht]; exact hW⟩, hS.F ht⟩) hS.2.2 dL_heap_14
  · have hz := hpz z c1 ad1 hp
    have ha2 := hpa z c1 ad1 hp 2000 (by omega)
    rw [← ha2]
    refine rm_i2l hx hb dL_heap_7 hz ?_
    refine rm_last hx hb hK hW hS (f := o) ((glue_hi (by omega)).trans ho) 0 rfl (by omega) (by omega) dL_heap_8 (fun H locs ct2 hs2 ho2 hW hS hz2 => ?_)
    refine lv_goto (tgt := 15) hx hb dL_heap_9 (by decide) ?_
    refine lv_iconst (v := jI 0) hx hb dL_heap_15 rfl ?_
    refine vx_ret ?_
    refine W.widen (k := 4) (n := 25) (by omega) (by omega) ?_
    exact W.iret hx hb hr (fun t ht hw => ⟨⟨_, (0, ct2, ad1), rfl, ⟨rfl, Or.inl (⟨rfl, z, c1, hp, hs2, fun q h => ho2 q h⟩)⟩, by show rm_W D ad1 _ _ t.heap; rw [ht]; exact hW⟩, hS.F ht⟩) hS.2.2 dL_heap_16
set_option maxHeartbeats 4000000 in
set_option maxRecDepth 100000 in
theorem c_L_set (l : Launch) (D : va_G) (ty : Nat → ClassId) (ad : Nat → Nat) (ct : rm_C) (sz : Nat) (fs : List Value) (o : Nat → Int) (a9 : Int) (b9 : Int) (c9 : Int) {post : Int → rm_C → Prop} {px : String → rm_C → Prop} (h0 : ct 0 = some (.inr (5, fs))) (ho : ct 2000 = some (rl ty 1 o)) (hM : vx_Met l yX5_set wsX5_set ({ frames := 7, cells := 3, slots := 18, locals := 104 }) (rm_PX D ty ad (cutC ct) sz [.ref (ad 0), .int (jI a9), .int (jI b9), .int (jI c9)]) (rm_Qi D ad (cutC ct) sz post) (rm_XC D ad (cutC ct) sz px) 3 18 (rm_A ad (cutC ct) sz)) (hpz : ∀ z c1, post z c1 → r32 z) (hpx : ∀ E c1, px E c1 → E = xNSE ∨ E = xIAE) : vx_Met l yL_set wsL_set ({ frames := 8, cells := 3, slots := 18, locals := 129 }) (rm_PY D ty ad ct sz [.ref (ad 0), .int (jI a9), .int (jI b9), .int (jI c9), .ref (ad 2000)]) (rm_Qi D ad ct sz (fun k ct1 => (k = 0 ∧ ∃ z c1, post z c1 ∧ ct1 2000 = some (rl ty 1 (ub o 0 z)) ∧ ∀ q, q ≠ 2000 → ct1 q = glue c1 ct q) ∨ (k = 1 ∧ ∃ c1, px xNSE c1 ∧ ∀ q, ct1 q = glue c1 ct q) ∨ (k = 2 ∧ ∃ c1, px xIAE c1 ∧ ∀ q, ct1 q = glue c1 ct q))) (rm_XC D ad ct sz (fun _ _ => False)) 3 18 (rm_A ad ct sz) := by
  refine vx_ofWH (cc := cL_set) (maxL := 6) (ret := (some .int)) (hh := [(0, 12, 15, 13), (0, 12, 19, 41)]) (by decide) rfl ?_
  intro p e s m args below meth c s₁ B hml hv
  obtain ⟨hargs, ⟨⟨hsz, hW, hK, hNw⟩, hE, hU⟩, hX2⟩ := hv
  have hx := B.exec
  have hb := B.bytes
  have hr := B.returns
  have hts := atoms_spec (ws := wsL_set) B.pre
  have hown : s.vm.findClass RL = some m.cls := findClass_of_methodNamed B.named
  have hlocks := B.notSynchronized
  have htab := vx_table (x := yL_set) B (hts (.codeWith yL_set cL_set 6 (some .int) [(0, 12, 15, 13), (0, 12, 19, 41)]) List.mem_cons_self)
  subst hsz
  have hW := hW.own (sz := s.heap.size)
  have hA : ∀ q : Nat, s.heap.size ≤ q → rm_A ad ct s.heap.size q := fun q h => Or.inr h
  have hS : va_S (rm_A ad ct s.heap.size) s.heap s.heap [] := va_S.rf
  have hent : entryFrame m args 6 = entryFrame m ([.ref (ad 0), .int (jI a9), .int (jI b9), .int (jI c9), .ref (ad 2000)] : List Value).toArray 6 := by rw [hargs]
  have hl := lv_entry ([.ref (ad 0), .int (jI a9), .int (jI b9), .int (jI c9), .ref (ad 2000)]) (n := 6) (Nat.le_of_ble_eq_true rfl)
  rw [hent, lg_entry_eq]
  generalize (lg_sl ([.ref (ad 0), .int (jI a9), .int (jI b9), .int (jI c9), .ref (ad 2000)]) ++ List.replicate (6 - (lg_sl ([.ref (ad 0), .int (jI a9), .int (jI b9), .int (jI c9), .ref (ad 2000)])).length) Slot.unset).toArray = ls at hl ⊢
  have hl : lv_has ls 6 [(0, .ref (ad 0)), (1, .int (jI a9)), (2, .int (jI b9)), (3, .int (jI c9)), (4, .ref (ad 2000))] := hl
  refine lv_aload hx hb dL_set_0 (lv_at hl 4 rfl) ?_
  refine lv_iconst (v := jI 0) hx hb dL_set_2 rfl ?_
  refine lv_aload_n hx hb dL_set_3 rfl (lv_at hl 0 rfl) ?_
  refine lv_iload_n hx hb dL_set_4 rfl (lv_at hl 1 rfl) ?_
  refine lv_iload_n hx hb dL_set_5 rfl (lv_at hl 2 rfl) ?_
  refine lv_iload_n hx hb dL_set_6 rfl (lv_at hl 3 rfl) ?_
  refine xc_i (vx_runV (As := [.int (jI a9), .int (jI b9), .int (jI c9)]) (rest := [.int (jI 0), .ref (ad 2000)]) ⟨hx, hb, hml, hown, hts⟩ hM (cwV 3 hts gL_set_X5_set rfl rfl rfl (by decide +kernel) ⟨Nat.le_of_ble_eq_true rfl, Nat.le_of_ble_eq_true rfl⟩) (preVY hK hNw hE hU hW hS hA h0) rfl rfl hl.1 rfl (lv_room (Nat.le_of_ble_eq_true rfl)) dL_set_7 ⟨Nat.le_of_ble_eq_true rfl, Nat.le_of_ble_eq_true rfl⟩) hW hS hA (fun E c1 ce q9 H locs hp hW hS hce hcv hcl => ?_) (fun z c1 H locs hp hW hS => ?_)
  · rcases hpx E c1 hp with rfl | rfl
    · skip
      refine vx_catch (own := RL) (name := xNSE) hown [] ⟨0, 12, 15, 13⟩ [⟨0, 12, 19, 41⟩] (by rw [htab]; rfl) (fun z hz => absurd hz List.not_mem_nil) rfl (by decide) (hts (.classLink RL 13 "java/util/NoSuchElementException") (by decide +kernel)) (cast_of hE (by decide +kernel)) hce hcv hcl ?_
      refine lv_astore (lv' := [(5, .ref q9), (0, .ref (ad 0)), (1, .int (jI a9)), (2, .int (jI b9)), (3, .int (jI c9)), (4, .ref (ad 2000))]) hx hb dL_set_15 hl (by decide) rfl (fun ls hl => ?_)
      refine lv_iconst (v := jI 1) hx hb dL_set_17 rfl ?_
      refine vx_ret ?_
      refine W.widen (k := 3) (n := 18) (by omega) (by omega) ?_
      exact W.iret hx hb hr (fun t ht hw => ⟨⟨_, (1, (glue c1 ct)), rfl, ⟨rfl, Or.inr (Or.inl (⟨rfl, c1, hp, fun q => rfl⟩))⟩, by show rm_W D ad _ _ t.heap; rw [ht]; exact hW⟩, hS.F ht⟩) hS.2.2 dL_set_18
    · skip
      refine vx_catch (own := RL) (name := xIAE) hown [⟨0, 12, 15, 13⟩] ⟨0, 12, 19, 41⟩ [] (by rw [htab]; rfl) (fun z hz => by
        obtain rfl := List.mem_singleton.mp hz
        exact Or.inr ⟨by decide, xNSE, hts (.classLink RL 13 "java/util/NoSuchElementException") (by decide +kernel), hX2.2⟩) rfl (by decide) (hts (.classLink RL 41 "java/lang/IllegalArgumentException") (by decide +kernel)) (cast_of hE (by decide +kernel)) hce hcv hcl ?_
      refine lv_astore (lv' := [(5, .ref q9), (0, .ref (ad 0)), (1, .int (jI a9)), (2, .int (jI b9)), (3, .int (jI c9)), (4, .ref (ad 2000))]) hx hb dL_set_19 hl (by decide) rfl (fun ls hl => ?_)
      refine lv_iconst (v := jI 2) hx hb dL_set_21 rfl ?_
      refine vx_ret ?_
      refine W.widen (k := 3) (n := 18) (by omega) (by omega) ?_
      exact W.iret hx hb hr (fun t ht hw => ⟨⟨_, (2, (glue c1 ct)), rfl, ⟨rfl, Or.inr (Or.inr (⟨rfl, c1, hp, fun q => rfl⟩))⟩, by show rm_W D ad _ _ t.heap; rw [ht]; exact hW⟩, hS.F ht⟩) hS.2.2 dL_set_22
  · have hz := hpz z c1 hp
    refine rm_i2l hx hb dL_set_10 hz ?_
    refine rm_last hx hb hK hW hS (f := o) ((glue_hi (by omega)).trans ho) 0 rfl (by omega) (by omega) dL_set_11 (fun H locs ct2 hs2 ho2 hW hS hz2 => ?_)
    refine lv_goto (tgt := 23) hx hb dL_set_12 (by decide) ?_
    refine lv_iconst (v := jI 0) hx hb dL_set_23 rfl ?_
    refine vx_ret ?_
    refine W.widen (k := 3) (n := 18) (by omega) (by omega) ?_
    exact W.iret hx hb hr (fun t ht hw => ⟨⟨_, (0, ct2), rfl, ⟨rfl, Or.inl (⟨rfl, z, c1, hp, hs2, fun q h => ho2 q h⟩)⟩, by show rm_W D ad _ _ t.heap; rw [ht]; exact hW⟩, hS.F ht⟩) hS.2.2 dL_set_24
set_option maxHeartbeats 4000000 in
set_option maxRecDepth 100000 in
theorem c_L_grains (l : Launch) (D : va_G) (ty : Nat → ClassId) (ad : Nat → Nat) (ct : rm_C) (sz : Nat) (fs : List Value) (o : Nat → Int) (a9 : Int) (b9 : Int) {post : Int → rm_C → Prop} {px : String → rm_C → Prop} (h0 : ct 0 = some (.inr (5, fs))) (ho : ct 2000 = some (rl ty 1 o)) (hM : vx_Met l yX5_grains wsX5_grains ({ frames := 7, cells := 2, slots := 12, locals := 104 }) (rm_PX D ty ad (cutC ct) sz [.ref (ad 0), .int (jI a9), .int (jI b9)]) (rm_Ql D ad (cutC ct) sz post) (rm_XC D ad (cutC ct) sz px) 2 12 (rm_A ad (cutC ct) sz)) (hpx : ∀ E c1, px E c1 → E = xNSE) : vx_Met l yL_grains wsL_grains ({ frames := 8, cells := 2, slots := 12, locals := 127 }) (rm_PY D ty ad ct sz [.ref (ad 0), .int (jI a9), .int (jI b9), .ref (ad 2000)]) (rm_Qi D ad ct sz (fun k ct1 => (k = 0 ∧ ∃ z c1, post z c1 ∧ ct1 2000 = some (rl ty 1 (ub o 0 z)) ∧ ∀ q, q ≠ 2000 → ct1 q = glue c1 ct q) ∨ (k = 1 ∧ ∃ c1, px xNSE c1 ∧ ∀ q, ct1 q = glue c1 ct q))) (rm_XC D ad ct sz (fun _ _ => False)) 2 12 (rm_A ad ct sz) := by
  refine vx_ofWH (cc := cL_grains) (maxL := 5) (ret := (some .int)) (hh := [(0, 9, 12, 13)]) (by decide) rfl ?_
  intro p e s m args below meth c s₁ B hml hv
  obtain ⟨hargs, ⟨⟨hsz, hW, hK, hNw⟩, hE, hU⟩, hX2⟩ := hv
  have hx := B.exec
  have hb := B.bytes
  have hr := B.returns
  have hts := atoms_spec (ws := wsL_grains) B.pre
  have hown : s.vm.findClass RL = some m.cls := findClass_of_methodNamed B.named
  have hlocks := B.notSynchronized
  have htab := vx_table (x := yL_grains) B (hts (.codeWith yL_grains cL_grains 5 (some .int) [(0, 9, 12, 13)]) List.mem_cons_self)
  subst hsz
  have hW := hW.own (sz := s.heap.size)
  have hA : ∀ q : Nat, s.heap.size ≤ q → rm_A ad ct s.heap.size q := fun q h => Or.inr h
  have hS : va_S (rm_A ad ct s.heap.size) s.heap s.heap [] := va_S.rf
  have hent : entryFrame m args 5 = entryFrame m ([.ref (ad 0), .int (jI a9), .int (jI b9), .ref (ad 2000)] : List Value).toArray 5 := by rw [hargs]
  have hl := lv_entry ([.ref (ad 0), .int (jI a9), .int (jI b9), .ref (ad 2000)]) (n := 5) (Nat.le_of_ble_eq_true rfl)
  rw [hent, lg_entry_eq]
  generalize (lg_sl ([.ref (ad 0), .int (jI a9), .int (jI b9), .ref (ad 2000)]) ++ List.replicate (5 - (lg_sl ([.ref (ad 0), .int (jI a9), .int (jI b9), .ref (ad 2000)])).length) Slot.unset).toArray = ls at hl ⊢
  have hl : lv_has ls 5 [(0, .ref (ad 0)), (1, .int (jI a9)), (2, .int (jI b9)), (3, .ref (ad 2000))] := hl
  refine lv_aload_n hx hb dL_grains_0 rfl (lv_at hl 3 rfl) ?_
  refine lv_iconst (v := jI 0) hx hb dL_grains_1 rfl ?_
  refine lv_aload_n hx hb dL_grains_2 rfl (lv_at hl 0 rfl) ?_
  refine lv_iload_n hx hb dL_grains_3 rfl (lv_at hl 1 rfl) ?_
  refine lv_iload_n hx hb dL_grains_4 rfl (lv_at hl 2 rfl) ?_
  refine xc_l (vx_runV (As := [.int (jI a9), .int (jI b9)]) (rest := [.int (jI 0), .ref (ad 2000)]) ⟨hx, hb, hml, hown, hts⟩ hM (cwV 2 hts gL_grains_X5_grains rfl rfl rfl (by decide +kernel) ⟨Nat.le_of_ble_eq_true rfl, Nat.le_of_ble_eq_true rfl⟩) (preVY hK hNw hE hU hW hS hA h0) rfl rfl hl.1 rfl (lv_room (Nat.le_of_ble_eq_true rfl)) dL_grains_5 ⟨Nat.le_of_ble_eq_true rfl, Nat.le_of_ble_eq_true rfl⟩) hW hS hA (fun E c1 ce q9 H locs hp hW hS hce hcv hcl => ?_) (fun z c1 H locs hp hW hS => ?_)
  · obtain rfl := hpx E c1 hp
    refine vx_catch (own := RL) (name := xNSE) hown [] ⟨0, 9, 12, 13⟩ [] (by rw [htab]; rfl) (fun z hz => absurd hz List.not_mem_nil) rfl (by decide) (hts (.classLink RL 13 "java/util/NoSuchElementException") (by decide +kernel)) (cast_of hE (by decide +kernel)) hce hcv hcl ?_
    refine lv_astore (lv' := [(4, .ref q9), (0, .ref (ad 0)), (1, .int (jI a9)), (2, .int (jI b9)), (3, .ref (ad 2000))]) hx hb dL_grains_12 hl (by decide) rfl (fun ls hl => ?_)
    refine lv_iconst (v := jI 1) hx hb dL_grains_14 rfl ?_
    refine vx_ret ?_
    refine W.widen (k := 2) (n := 12) (by omega) (by omega) ?_
    exact W.iret hx hb hr (fun t ht hw => ⟨⟨_, (1, (glue c1 ct)), rfl, ⟨rfl, Or.inr (⟨rfl, c1, hp, fun q => rfl⟩)⟩, by show rm_W D ad _ _ t.heap; rw [ht]; exact hW⟩, hS.F ht⟩) hS.2.2 dL_grains_15
  · skip
    refine rm_last hx hb hK hW hS (f := o) ((glue_hi (by omega)).trans ho) 0 rfl (by omega) (by omega) dL_grains_8 (fun H locs ct2 hs2 ho2 hW hS hz2 => ?_)
    refine lv_goto (tgt := 16) hx hb dL_grains_9 (by decide) ?_
    refine lv_iconst (v := jI 0) hx hb dL_grains_16 rfl ?_
    refine vx_ret ?_
    refine W.widen (k := 2) (n := 12) (by omega) (by omega) ?_
    exact W.iret hx hb hr (fun t ht hw => ⟨⟨_, (0, ct2), rfl, ⟨rfl, Or.inl (⟨rfl, z, c1, hp, hs2, fun q h => ho2 q h⟩)⟩, by show rm_W D ad _ _ t.heap; rw [ht]; exact hW⟩, hS.F ht⟩) hS.2.2 dL_grains_17
set_option maxHeartbeats 4000000 in
set_option maxRecDepth 100000 in
theorem c_L_topple (l : Launch) (D : va_G) (ty : Nat → ClassId) (ad : Nat → Nat) (ct : rm_C) (sz : Nat) (fs : List Value) (o : Nat → Int) (a9 : Int) (b9 : Int) {post : Int → rm_C → Prop} {px : String → rm_C → Prop} (h0 : ct 0 = some (.inr (5, fs))) (ho : ct 2000 = some (rl ty 1 o)) (hM : vx_Met l yX5_topple wsX5_topple ({ frames := 7, cells := 2, slots := 12, locals := 104 }) (rm_PX D ty ad (cutC ct) sz [.ref (ad 0), .int (jI a9), .int (jI b9)]) (rm_Qi D ad (cutC ct) sz post) (rm_XC D ad (cutC ct) sz px) 2 12 (rm_A ad (cutC ct) sz)) (hpz : ∀ z c1, post z c1 → z = 0 ∨ z = 1) (hpx : ∀ E c1, px E c1 → E = xNSE) : vx_Met l yL_topple wsL_topple ({ frames := 8, cells := 2, slots := 12, locals := 127 }) (rm_PY D ty ad ct sz [.ref (ad 0), .int (jI a9), .int (jI b9), .ref (ad 2000)]) (rm_Qi D ad ct sz (fun k ct1 => (k = 0 ∧ ∃ z c1, post z c1 ∧ ct1 2000 = some (rl ty 1 (ub o 0 z)) ∧ ∀ q, q ≠ 2000 → ct1 q = glue c1 ct q) ∨ (k = 1 ∧ ∃ c1, px xNSE c1 ∧ ∀ q, ct1 q = glue c1 ct q))) (rm_XC D ad ct sz (fun _ _ => False)) 2 12 (rm_A ad ct sz) := by
  refine vx_ofWH (cc := cL_topple) (maxL := 5) (ret := (some .int)) (hh := [(0, 17, 20, 13)]) (by decide) rfl ?_
  intro p e s m args below meth c s₁ B hml hv
  obtain ⟨hargs, ⟨⟨hsz, hW, hK, hNw⟩, hE, hU⟩, hX2⟩ := hv
  have hx := B.exec
  have hb := B.bytes
  have hr := B.returns
  have hts := atoms_spec (ws := wsL_topple) B.pre
  have hown : s.vm.findClass RL = some m.cls := findClass_of_methodNamed B.named
  have hlocks := B.notSynchronized
  have htab := vx_table (x := yL_topple) B (hts (.codeWith yL_topple cL_topple 5 (some .int) [(0, 17, 20, 13)]) List.mem_cons_self)
  subst hsz
  have hW := hW.own (sz := s.heap.size)
  have hA : ∀ q : Nat, s.heap.size ≤ q → rm_A ad ct s.heap.size q := fun q h => Or.inr h
  have hS : va_S (rm_A ad ct s.heap.size) s.heap s.heap [] := va_S.rf
  have hent : entryFrame m args 5 = entryFrame m ([.ref (ad 0), .int (jI a9), .int (jI b9), .ref (ad 2000)] : List Value).toArray 5 := by rw [hargs]
  have hl := lv_entry ([.ref (ad 0), .int (jI a9), .int (jI b9), .ref (ad 2000)]) (n := 5) (Nat.le_of_ble_eq_true rfl)
  rw [hent, lg_entry_eq]
  generalize (lg_sl ([.ref (ad 0), .int (jI a9), .int (jI b9), .ref (ad 2000)]) ++ List.replicate (5 - (lg_sl ([.ref (ad 0), .int (jI a9), .int (jI b9), .ref (ad 2000)])).length) Slot.unset).toArray = ls at hl ⊢
  have hl : lv_has ls 5 [(0, .ref (ad 0)), (1, .int (jI a9)), (2, .int (jI b9)), (3, .ref (ad 2000))] := hl
  refine lv_aload_n hx hb dL_topple_0 rfl (lv_at hl 3 rfl) ?_
  refine lv_iconst (v := jI 0) hx hb dL_topple_1 rfl ?_
  refine lv_aload_n hx hb dL_topple_2 rfl (lv_at hl 0 rfl) ?_
  refine lv_iload_n hx hb dL_topple_3 rfl (lv_at hl 1 rfl) ?_
  refine lv_iload_n hx hb dL_topple_4 rfl (lv_at hl 2 rfl) ?_
  refine xc_i (vx_runV (As := [.int (jI a9), .int (jI b9)]) (rest := [.int (jI 0), .ref (ad 2000)]) ⟨hx, hb, hml, hown, hts⟩ hM (cwV 2 hts gL_topple_X5_topple rfl rfl rfl (by decide +kernel) ⟨Nat.le_of_ble_eq_true rfl, Nat.le_of_ble_eq_true rfl⟩) (preVY hK hNw hE hU hW hS hA h0) rfl rfl hl.1 rfl (lv_room (Nat.le_of_ble_eq_true rfl)) dL_topple_5 ⟨Nat.le_of_ble_eq_true rfl, Nat.le_of_ble_eq_true rfl⟩) hW hS hA (fun E c1 ce q9 H locs hp hW hS hce hcv hcl => ?_) (fun z c1 H locs hp hW hS => ?_)
  · obtain rfl := hpx E c1 hp
    refine vx_catch (own := RL) (name := xNSE) hown [] ⟨0, 17, 20, 13⟩ [] (by rw [htab]; rfl) (fun z hz => absurd hz List.not_mem_nil) rfl (by decide) (hts (.classLink RL 13 "java/util/NoSuchElementException") (by decide +kernel)) (cast_of hE (by decide +kernel)) hce hcv hcl ?_
    refine lv_astore (lv' := [(4, .ref q9), (0, .ref (ad 0)), (1, .int (jI a9)), (2, .int (jI b9)), (3, .ref (ad 2000))]) hx hb dL_topple_20 hl (by decide) rfl (fun ls hl => ?_)
    refine lv_iconst (v := jI 1) hx hb dL_topple_22 rfl ?_
    refine vx_ret ?_
    refine W.widen (k := 2) (n := 12) (by omega) (by omega) ?_
    exact W.iret hx hb hr (fun t ht hw => ⟨⟨_, (1, (glue c1 ct)), rfl, ⟨rfl, Or.inr (⟨rfl, c1, hp, fun q => rfl⟩)⟩, by show rm_W D ad _ _ t.heap; rw [ht]; exact hW⟩, hS.F ht⟩) hS.2.2 dL_topple_23
  · rcases hpz z c1 hp with hz | hz
    · subst hz
      refine rm_if_eq (tgt := 15) hx hb r32_0 dL_topple_8 (by decide) (fun _ => ?_) (fun hq => absurd rfl hq)
      refine lv_lconst (v := jL 0) hx hb dL_topple_15 rfl ?_
      refine rm_last hx hb hK hW hS (f := o) ((glue_hi (by omega)).trans ho) 0 rfl (by omega) (by omega) dL_topple_16 (fun H locs ct2 hs2 ho2 hW hS hz2 => ?_)
      refine lv_goto (tgt := 24) hx hb dL_topple_17 (by decide) ?_
      refine lv_iconst (v := jI 0) hx hb dL_topple_24 rfl ?_
      refine vx_ret ?_
      refine W.widen (k := 2) (n := 12) (by omega) (by omega) ?_
      exact W.iret hx hb hr (fun t ht hw => ⟨⟨_, (0, ct2), rfl, ⟨rfl, Or.inl (⟨rfl, 0, c1, hp, hs2, fun q h => ho2 q h⟩)⟩, by show rm_W D ad _ _ t.heap; rw [ht]; exact hW⟩, hS.F ht⟩) hS.2.2 dL_topple_25
    · subst hz
      refine rm_if_eq (tgt := 15) hx hb ⟨by omega, by omega⟩ dL_topple_8 (by decide) (fun hq => absurd hq (by decide)) (fun _ => ?_)
      refine lv_lconst (v := jL 1) hx hb dL_topple_11 rfl ?_
      refine lv_goto (tgt := 16) hx hb dL_topple_12 (by decide) ?_
      refine rm_last hx hb hK hW hS (f := o) ((glue_hi (by omega)).trans ho) 0 rfl (by omega) (by omega) dL_topple_16 (fun H locs ct2 hs2 ho2 hW hS hz2 => ?_)
      refine lv_goto (tgt := 24) hx hb dL_topple_17 (by decide) ?_
      refine lv_iconst (v := jI 0) hx hb dL_topple_24 rfl ?_
      refine vx_ret ?_
      refine W.widen (k := 2) (n := 12) (by omega) (by omega) ?_
      exact W.iret hx hb hr (fun t ht hw => ⟨⟨_, (0, ct2), rfl, ⟨rfl, Or.inl (⟨rfl, 1, c1, hp, hs2, fun q h => ho2 q h⟩)⟩, by show rm_W D ad _ _ t.heap; rw [ht]; exact hW⟩, hS.F ht⟩) hS.2.2 dL_topple_25
set_option maxHeartbeats 4000000 in
set_option maxRecDepth 100000 in
theorem c_L_settle (l : Launch) (D : va_G) (ty : Nat → ClassId) (ad : Nat → Nat) (ct : rm_C) (sz : Nat) (fs : List Value) (o : Nat → Int) (a9 : Int) {post : Int → rm_C → Prop} {px : String → rm_C → Prop} (h0 : ct 0 = some (.inr (5, fs))) (ho : ct 2000 = some (rl ty 1 o)) (hM : vx_Met l yX5_settle wsX5_settle ({ frames := 7, cells := 1, slots := 6, locals := 104 }) (rm_PX D ty ad (cutC ct) sz [.ref (ad 0), .int (jI a9)]) (rm_Ql D ad (cutC ct) sz post) (rm_XC D ad (cutC ct) sz px) 1 6 (rm_A ad (cutC ct) sz)) (hpx : ∀ E c1, px E c1 → E = xNSE) : vx_Met l yL_settle wsL_settle ({ frames := 8, cells := 1, slots := 6, locals := 125 }) (rm_PY D ty ad ct sz [.ref (ad 0), .int (jI a9), .ref (ad 2000)]) (rm_Qi D ad ct sz (fun k ct1 => (k = 0 ∧ ∃ z c1, post z c1 ∧ ct1 2000 = some (rl ty 1 (ub o 0 z)) ∧ ∀ q, q ≠ 2000 → ct1 q = glue c1 ct q) ∨ (k = 1 ∧ ∃ c1, px xNSE c1 ∧ ∀ q, ct1 q = glue c1 ct q))) (rm_XC D ad ct sz (fun _ _ => False)) 1 6 (rm_A ad ct sz) := by
  refine vx_ofWH (cc := cL_settle) (maxL := 4) (ret := (some .int)) (hh := [(0, 8, 11, 13)]) (by decide) rfl ?_
  intro p e s m args below meth c s₁ B hml hv
  obtain ⟨hargs, ⟨⟨hsz, hW, hK, hNw⟩, hE, hU⟩, hX2⟩ := hv
  have hx := B.exec
  have hb := B.bytes
  have hr := B.returns
  have hts := atoms_spec (ws := wsL_settle) B.pre
  have hown : s.vm.findClass RL = some m.cls := findClass_of_methodNamed B.named
  have hlocks := B.notSynchronized
  have htab := vx_table (x := yL_settle) B (hts (.codeWith yL_settle cL_settle 4 (some .int) [(0, 8, 11, 13)]) List.mem_cons_self)
  subst hsz
  have hW := hW.own (sz := s.heap.size)
  have hA : ∀ q : Nat, s.heap.size ≤ q → rm_A ad ct s.heap.size q := fun q h => Or.inr h
  have hS : va_S (rm_A ad ct s.heap.size) s.heap s.heap [] := va_S.rf
  have hent : entryFrame m args 4 = entryFrame m ([.ref (ad 0), .int (jI a9), .ref (ad 2000)] : List Value).toArray 4 := by rw [hargs]
  have hl := lv_entry ([.ref (ad 0), .int (jI a9), .ref (ad 2000)]) (n := 4) (Nat.le_of_ble_eq_true rfl)
  rw [hent, lg_entry_eq]
  generalize (lg_sl ([.ref (ad 0), .int (jI a9), .ref (ad 2000)]) ++ List.replicate (4 - (lg_sl ([.ref (ad 0), .int (jI a9), .ref (ad 2000)])).length) Slot.unset).toArray = ls at hl ⊢
  have hl : lv_has ls 4 [(0, .ref (ad 0)), (1, .int (jI a9)), (2, .ref (ad 2000))] := hl
  refine lv_aload_n hx hb dL_settle_0 rfl (lv_at hl 2 rfl) ?_
  refine lv_iconst (v := jI 0) hx hb dL_settle_1 rfl ?_
  refine lv_aload_n hx hb dL_settle_2 rfl (lv_at hl 0 rfl) ?_
  refine lv_iload_n hx hb dL_settle_3 rfl (lv_at hl 1 rfl) ?_
  refine xc_l (vx_runV (As := [.int (jI a9)]) (rest := [.int (jI 0), .ref (ad 2000)]) ⟨hx, hb, hml, hown, hts⟩ hM (cwV 1 hts gL_settle_X5_settle rfl rfl rfl (by decide +kernel) ⟨Nat.le_of_ble_eq_true rfl, Nat.le_of_ble_eq_true rfl⟩) (preVY hK hNw hE hU hW hS hA h0) rfl rfl hl.1 rfl (lv_room (Nat.le_of_ble_eq_true rfl)) dL_settle_4 ⟨Nat.le_of_ble_eq_true rfl, Nat.le_of_ble_eq_true rfl⟩) hW hS hA (fun E c1 ce q9 H locs hp hW hS hce hcv hcl => ?_) (fun z c1 H locs hp hW hS => ?_)
  · obtain rfl := hpx E c1 hp
    refine vx_catch (own := RL) (name := xNSE) hown [] ⟨0, 8, 11, 13⟩ [] (by rw [htab]; rfl) (fun z hz => absurd hz List.not_mem_nil) rfl (by decide) (hts (.classLink RL 13 "java/util/NoSuchElementException") (by decide +kernel)) (cast_of hE (by decide +kernel)) hce hcv hcl ?_
    refine lv_astore_n (lv' := [(3, .ref q9), (0, .ref (ad 0)), (1, .int (jI a9)), (2, .ref (ad 2000))]) hx hb dL_settle_11 rfl hl (by decide) rfl (fun ls hl => ?_)
    refine lv_iconst (v := jI 1) hx hb dL_settle_12 rfl ?_
    refine vx_ret ?_
    refine W.widen (k := 1) (n := 6) (by omega) (by omega) ?_
    exact W.iret hx hb hr (fun t ht hw => ⟨⟨_, (1, (glue c1 ct)), rfl, ⟨rfl, Or.inr (⟨rfl, c1, hp, fun q => rfl⟩)⟩, by show rm_W D ad _ _ t.heap; rw [ht]; exact hW⟩, hS.F ht⟩) hS.2.2 dL_settle_13
  · skip
    refine rm_last hx hb hK hW hS (f := o) ((glue_hi (by omega)).trans ho) 0 rfl (by omega) (by omega) dL_settle_7 (fun H locs ct2 hs2 ho2 hW hS hz2 => ?_)
    refine lv_goto (tgt := 14) hx hb dL_settle_8 (by decide) ?_
    refine lv_iconst (v := jI 0) hx hb dL_settle_14 rfl ?_
    refine vx_ret ?_
    refine W.widen (k := 1) (n := 6) (by omega) (by omega) ?_
    exact W.iret hx hb hr (fun t ht hw => ⟨⟨_, (0, ct2), rfl, ⟨rfl, Or.inl (⟨rfl, z, c1, hp, hs2, fun q h => ho2 q h⟩)⟩, by show rm_W D ad _ _ t.heap; rw [ht]; exact hW⟩, hS.F ht⟩) hS.2.2 dL_settle_15
set_option maxHeartbeats 4000000 in
set_option maxRecDepth 100000 in
theorem c_L_drop (l : Launch) (D : va_G) (ty : Nat → ClassId) (ad : Nat → Nat) (ct : rm_C) (sz : Nat) (fs : List Value) (o : Nat → Int) (a9 : Int) (b9 : Int) {post : Int → rm_C → Prop} {px : String → rm_C → Prop} (h0 : ct 0 = some (.inr (5, fs))) (ho : ct 2000 = some (rl ty 1 o)) (hM : vx_Met l yX5_drop wsX5_drop ({ frames := 7, cells := 2, slots := 12, locals := 104 }) (rm_PX D ty ad (cutC ct) sz [.ref (ad 0), .int (jI a9), .int (jI b9)]) (rm_Ql D ad (cutC ct) sz post) (rm_XC D ad (cutC ct) sz px) 2 12 (rm_A ad (cutC ct) sz)) (hpx : ∀ E c1, px E c1 → E = xNSE) : vx_Met l yL_drop wsL_drop ({ frames := 8, cells := 2, slots := 12, locals := 127 }) (rm_PY D ty ad ct sz [.ref (ad 0), .int (jI a9), .int (jI b9), .ref (ad 2000)]) (rm_Qi D ad ct sz (fun k ct1 => (k = 0 ∧ ∃ z c1, post z c1 ∧ ct1 2000 = some (rl ty 1 (ub o 0 z)) ∧ ∀ q, q ≠ 2000 → ct1 q = glue c1 ct q) ∨ (k = 1 ∧ ∃ c1, px xNSE c1 ∧ ∀ q, ct1 q = glue c1 ct q))) (rm_XC D ad ct sz (fun _ _ => False)) 2 12 (rm_A ad ct sz) := by
  refine vx_ofWH (cc := cL_drop) (maxL := 5) (ret := (some .int)) (hh := [(0, 9, 12, 13)]) (by decide) rfl ?_
  intro p e s m args below meth c s₁ B hml hv
  obtain ⟨hargs, ⟨⟨hsz, hW, hK, hNw⟩, hE, hU⟩, hX2⟩ := hv
  have hx := B.exec
  have hb := B.bytes
  have hr := B.returns
  have hts := atoms_spec (ws := wsL_drop) B.pre
  have hown : s.vm.findClass RL = some m.cls := findClass_of_methodNamed B.named
  have hlocks := B.notSynchronized
  have htab := vx_table (x := yL_drop) B (hts (.codeWith yL_drop cL_drop 5 (some .int) [(0, 9, 12, 13)]) List.mem_cons_self)
  subst hsz
  have hW := hW.own (sz := s.heap.size)
  have hA : ∀ q : Nat, s.heap.size ≤ q → rm_A ad ct s.heap.size q := fun q h => Or.inr h
  have hS : va_S (rm_A ad ct s.heap.size) s.heap s.heap [] := va_S.rf
  have hent : entryFrame m args 5 = entryFrame m ([.ref (ad 0), .int (jI a9), .int (jI b9), .ref (ad 2000)] : List Value).toArray 5 := by rw [hargs]
  have hl := lv_entry ([.ref (ad 0), .int (jI a9), .int (jI b9), .ref (ad 2000)]) (n := 5) (Nat.le_of_ble_eq_true rfl)
  rw [hent, lg_entry_eq]
  generalize (lg_sl ([.ref (ad 0), .int (jI a9), .int (jI b9), .ref (ad 2000)]) ++ List.replicate (5 - (lg_sl ([.ref (ad 0), .int (jI a9), .int (jI b9), .ref (ad 2000)])).length) Slot.unset).toArray = ls at hl ⊢
  have hl : lv_has ls 5 [(0, .ref (ad 0)), (1, .int (jI a9)), (2, .int (jI b9)), (3, .ref (ad 2000))] := hl
  refine lv_aload_n hx hb dL_drop_0 rfl (lv_at hl 3 rfl) ?_
  refine lv_iconst (v := jI 0) hx hb dL_drop_1 rfl ?_
  refine lv_aload_n hx hb dL_drop_2 rfl (lv_at hl 0 rfl) ?_
  refine lv_iload_n hx hb dL_drop_3 rfl (lv_at hl 1 rfl) ?_
  refine lv_iload_n hx hb dL_drop_4 rfl (lv_at hl 2 rfl) ?_
  refine xc_l (vx_runV (As := [.int (jI a9), .int (jI b9)]) (rest := [.int (jI 0), .ref (ad 2000)]) ⟨hx, hb, hml, hown, hts⟩ hM (cwV 2 hts gL_drop_X5_drop rfl rfl rfl (by decide +kernel) ⟨Nat.le_of_ble_eq_true rfl, Nat.le_of_ble_eq_true rfl⟩) (preVY hK hNw hE hU hW hS hA h0) rfl rfl hl.1 rfl (lv_room (Nat.le_of_ble_eq_true rfl)) dL_drop_5 ⟨Nat.le_of_ble_eq_true rfl, Nat.le_of_ble_eq_true rfl⟩) hW hS hA (fun E c1 ce q9 H locs hp hW hS hce hcv hcl => ?_) (fun z c1 H locs hp hW hS => ?_)
  · obtain rfl := hpx E c1 hp
    refine vx_catch (own := RL) (name := xNSE) hown [] ⟨0, 9, 12, 13⟩ [] (by rw [htab]; rfl) (fun z hz => absurd hz List.not_mem_nil) rfl (by decide) (hts (.classLink RL 13 "java/util/NoSuchElementException") (by decide +kernel)) (cast_of hE (by decide +kernel)) hce hcv hcl ?_
    refine lv_astore (lv' := [(4, .ref q9), (0, .ref (ad 0)), (1, .int (jI a9)), (2, .int (jI b9)), (3, .ref (ad 2000))]) hx hb dL_drop_12 hl (by decide) rfl (fun ls hl => ?_)
    refine lv_iconst (v := jI 1) hx hb dL_drop_14 rfl ?_
    refine vx_ret ?_
    refine W.widen (k := 2) (n := 12) (by omega) (by omega) ?_
    exact W.iret hx hb hr (fun t ht hw => ⟨⟨_, (1, (glue c1 ct)), rfl, ⟨rfl, Or.inr (⟨rfl, c1, hp, fun q => rfl⟩)⟩, by show rm_W D ad _ _ t.heap; rw [ht]; exact hW⟩, hS.F ht⟩) hS.2.2 dL_drop_15
  · skip
    refine rm_last hx hb hK hW hS (f := o) ((glue_hi (by omega)).trans ho) 0 rfl (by omega) (by omega) dL_drop_8 (fun H locs ct2 hs2 ho2 hW hS hz2 => ?_)
    refine lv_goto (tgt := 16) hx hb dL_drop_9 (by decide) ?_
    refine lv_iconst (v := jI 0) hx hb dL_drop_16 rfl ?_
    refine vx_ret ?_
    refine W.widen (k := 2) (n := 12) (by omega) (by omega) ?_
    exact W.iret hx hb hr (fun t ht hw => ⟨⟨_, (0, ct2), rfl, ⟨rfl, Or.inl (⟨rfl, z, c1, hp, hs2, fun q h => ho2 q h⟩)⟩, by show rm_W D ad _ _ t.heap; rw [ht]; exact hW⟩, hS.F ht⟩) hS.2.2 dL_drop_17
set_option maxHeartbeats 4000000 in
set_option maxRecDepth 100000 in
theorem c_L_toppled (l : Launch) (D : va_G) (ty : Nat → ClassId) (ad : Nat → Nat) (ct : rm_C) (sz : Nat) (fs : List Value) (o : Nat → Int) (a9 : Int) (b9 : Int) {post : Int → rm_C → Prop} {px : String → rm_C → Prop} (h0 : ct 0 = some (.inr (5, fs))) (ho : ct 2000 = some (rl ty 1 o)) (hM : vx_Met l yX5_toppled wsX5_toppled ({ frames := 7, cells := 2, slots := 12, locals := 104 }) (rm_PX D ty ad (cutC ct) sz [.ref (ad 0), .int (jI a9), .int (jI b9)]) (rm_Ql D ad (cutC ct) sz post) (rm_XC D ad (cutC ct) sz px) 2 12 (rm_A ad (cutC ct) sz)) (hpx : ∀ E c1, px E c1 → E = xNSE) : vx_Met l yL_toppled wsL_toppled ({ frames := 8, cells := 2, slots := 12, locals := 127 }) (rm_PY D ty ad ct sz [.ref (ad 0), .int (jI a9), .int (jI b9), .ref (ad 2000)]) (rm_Qi D ad ct sz (fun k ct1 => (k = 0 ∧ ∃ z c1, post z c1 ∧ ct1 2000 = some (rl ty 1 (ub o 0 z)) ∧ ∀ q, q ≠ 2000 → ct1 q = glue c1 ct q) ∨ (k = 1 ∧ ∃ c1, px xNSE c1 ∧ ∀ q, ct1 q = glue c1 ct q))) (rm_XC D ad ct sz (fun _ _ => False)) 2 12 (rm_A ad ct sz) := by
  refine vx_ofWH (cc := cL_toppled) (maxL := 5) (ret := (some .int)) (hh := [(0, 9, 12, 13)]) (by decide) rfl ?_
  intro p e s m args below meth c s₁ B hml hv
  obtain ⟨hargs, ⟨⟨hsz, hW, hK, hNw⟩, hE, hU⟩, hX2⟩ := hv
  have hx := B.exec
  have hb := B.bytes
  have hr := B.returns
  have hts := atoms_spec (ws := wsL_toppled) B.pre
  have hown : s.vm.findClass RL = some m.cls := findClass_of_methodNamed B.named
  have hlocks := B.notSynchronized
  have htab := vx_table (x := yL_toppled) B (hts (.codeWith yL_toppled cL_toppled 5 (some .int) [(0, 9, 12, 13)]) List.mem_cons_self)
  subst hsz
  have hW := hW.own (sz := s.heap.size)
  have hA : ∀ q : Nat, s.heap.size ≤ q → rm_A ad ct s.heap.size q := fun q h => Or.inr h
  have hS : va_S (rm_A ad ct s.heap.size) s.heap s.heap [] := va_S.rf
  have hent : entryFrame m args 5 = entryFrame m ([.ref (ad 0), .int (jI a9), .int (jI b9), .ref (ad 2000)] : List Value).toArray 5 := by rw [hargs]
  have hl := lv_entry ([.ref (ad 0), .int (jI a9), .int (jI b9), .ref (ad 2000)]) (n := 5) (Nat.le_of_ble_eq_true rfl)
  rw [hent, lg_entry_eq]
  generalize (lg_sl ([.ref (ad 0), .int (jI a9), .int (jI b9), .ref (ad 2000)]) ++ List.replicate (5 - (lg_sl ([.ref (ad 0), .int (jI a9), .int (jI b9), .ref (ad 2000)])).length) Slot.unset).toArray = ls at hl ⊢
  have hl : lv_has ls 5 [(0, .ref (ad 0)), (1, .int (jI a9)), (2, .int (jI b9)), (3, .ref (ad 2000))] := hl
  refine lv_aload_n hx hb dL_toppled_0 rfl (lv_at hl 3 rfl) ?_
  refine lv_iconst (v := jI 0) hx hb dL_toppled_1 rfl ?_
  refine lv_aload_n hx hb dL_toppled_2 rfl (lv_at hl 0 rfl) ?_
  refine lv_iload_n hx hb dL_toppled_3 rfl (lv_at hl 1 rfl) ?_
  refine lv_iload_n hx hb dL_toppled_4 rfl (lv_at hl 2 rfl) ?_
  refine xc_l (vx_runV (As := [.int (jI a9), .int (jI b9)]) (rest := [.int (jI 0), .ref (ad 2000)]) ⟨hx, hb, hml, hown, hts⟩ hM (cwV 2 hts gL_toppled_X5_toppled rfl rfl rfl (by decide +kernel) ⟨Nat.le_of_ble_eq_true rfl, Nat.le_of_ble_eq_true rfl⟩) (preVY hK hNw hE hU hW hS hA h0) rfl rfl hl.1 rfl (lv_room (Nat.le_of_ble_eq_true rfl)) dL_toppled_5 ⟨Nat.le_of_ble_eq_true rfl, Nat.le_of_ble_eq_true rfl⟩) hW hS hA (fun E c1 ce q9 H locs hp hW hS hce hcv hcl => ?_) (fun z c1 H locs hp hW hS => ?_)
  · obtain rfl := hpx E c1 hp
    refine vx_catch (own := RL) (name := xNSE) hown [] ⟨0, 9, 12, 13⟩ [] (by rw [htab]; rfl) (fun z hz => absurd hz List.not_mem_nil) rfl (by decide) (hts (.classLink RL 13 "java/util/NoSuchElementException") (by decide +kernel)) (cast_of hE (by decide +kernel)) hce hcv hcl ?_
    refine lv_astore (lv' := [(4, .ref q9), (0, .ref (ad 0)), (1, .int (jI a9)), (2, .int (jI b9)), (3, .ref (ad 2000))]) hx hb dL_toppled_12 hl (by decide) rfl (fun ls hl => ?_)
    refine lv_iconst (v := jI 1) hx hb dL_toppled_14 rfl ?_
    refine vx_ret ?_
    refine W.widen (k := 2) (n := 12) (by omega) (by omega) ?_
    exact W.iret hx hb hr (fun t ht hw => ⟨⟨_, (1, (glue c1 ct)), rfl, ⟨rfl, Or.inr (⟨rfl, c1, hp, fun q => rfl⟩)⟩, by show rm_W D ad _ _ t.heap; rw [ht]; exact hW⟩, hS.F ht⟩) hS.2.2 dL_toppled_15
  · skip
    refine rm_last hx hb hK hW hS (f := o) ((glue_hi (by omega)).trans ho) 0 rfl (by omega) (by omega) dL_toppled_8 (fun H locs ct2 hs2 ho2 hW hS hz2 => ?_)
    refine lv_goto (tgt := 16) hx hb dL_toppled_9 (by decide) ?_
    refine lv_iconst (v := jI 0) hx hb dL_toppled_16 rfl ?_
    refine vx_ret ?_
    refine W.widen (k := 2) (n := 12) (by omega) (by omega) ?_
    exact W.iret hx hb hr (fun t ht hw => ⟨⟨_, (0, ct2), rfl, ⟨rfl, Or.inl (⟨rfl, z, c1, hp, hs2, fun q h => ho2 q h⟩)⟩, by show rm_W D ad _ _ t.heap; rw [ht]; exact hW⟩, hS.F ht⟩) hS.2.2 dL_toppled_17
set_option maxHeartbeats 4000000 in
set_option maxRecDepth 100000 in
theorem c_L_is (l : Launch) (D : va_G) (ty : Nat → ClassId) (ad : Nat → Nat) (ct : rm_C) (sz : Nat) (fs : List Value) (o : Nat → Int) (a9 : Int) (b9 : Int) {post : Int → rm_C → Prop} {px : String → rm_C → Prop} (h0 : ct 0 = some (.inr (5, fs))) (ho : ct 2000 = some (rl ty 1 o)) (hM : vx_Met l yX5_is wsX5_is ({ frames := 7, cells := 2, slots := 12, locals := 104 }) (rm_PX D ty ad (cutC ct) sz [.ref (ad 0), .int (jI a9), .int (jI b9)]) (rm_Qi D ad (cutC ct) sz post) (rm_XC D ad (cutC ct) sz px) 2 12 (rm_A ad (cutC ct) sz)) (hpz : ∀ z c1, post z c1 → z = 0 ∨ z = 1) (hpx : ∀ E c1, px E c1 → E = xNSE) : vx_Met l yL_is wsL_is ({ frames := 8, cells := 2, slots := 12, locals := 127 }) (rm_PY D ty ad ct sz [.ref (ad 0), .int (jI a9), .int (jI b9), .ref (ad 2000)]) (rm_Qi D ad ct sz (fun k ct1 => (k = 0 ∧ ∃ z c1, post z c1 ∧ ct1 2000 = some (rl ty 1 (ub o 0 z)) ∧ ∀ q, q ≠ 2000 → ct1 q = glue c1 ct q) ∨ (k = 1 ∧ ∃ c1, px xNSE c1 ∧ ∀ q, ct1 q = glue c1 ct q))) (rm_XC D ad ct sz (fun _ _ => False)) 2 12 (rm_A ad ct sz) := by
  refine vx_ofWH (cc := cL_is) (maxL := 5) (ret := (some .int)) (hh := [(0, 17, 20, 13)]) (by decide) rfl ?_
  intro p e s m args below meth c s₁ B hml hv
  obtain ⟨hargs, ⟨⟨hsz, hW, hK, hNw⟩, hE, hU⟩, hX2⟩ := hv
  have hx := B.exec
  have hb := B.bytes
  have hr := B.returns
  have hts := atoms_spec (ws := wsL_is) B.pre
  have hown : s.vm.findClass RL = some m.cls := findClass_of_methodNamed B.named
  have hlocks := B.notSynchronized
  have htab := vx_table (x := yL_is) B (hts (.codeWith yL_is cL_is 5 (some .int) [(0, 17, 20, 13)]) List.mem_cons_self)
  subst hsz
  have hW := hW.own (sz := s.heap.size)
  have hA : ∀ q : Nat, s.heap.size ≤ q → rm_A ad ct s.heap.size q := fun q h => Or.inr h
  have hS : va_S (rm_A ad ct s.heap.size) s.heap s.heap [] := va_S.rf
  have hent : entryFrame m args 5 = entryFrame m ([.ref (ad 0), .int (jI a9), .int (jI b9), .ref (ad 2000)] : List Value).toArray 5 := by rw [hargs]
  have hl := lv_entry ([.ref (ad 0), .int (jI a9), .int (jI b9), .ref (ad 2000)]) (n := 5) (Nat.le_of_ble_eq_true rfl)
  rw [hent, lg_entry_eq]
  generalize (lg_sl ([.ref (ad 0), .int (jI a9), .int (jI b9), .ref (ad 2000)]) ++ List.replicate (5 - (lg_sl ([.ref (ad 0), .int (jI a9), .int (jI b9), .ref (ad 2000)])).length) Slot.unset).toArray = ls at hl ⊢
  have hl : lv_has ls 5 [(0, .ref (ad 0)), (1, .int (jI a9)), (2, .int (jI b9)), (3, .ref (ad 2000))] := hl
  refine lv_aload_n hx hb dL_is_0 rfl (lv_at hl 3 rfl) ?_
  refine lv_iconst (v := jI 0) hx hb dL_is_1 rfl ?_
  refine lv_aload_n hx hb dL_is_2 rfl (lv_at hl 0 rfl) ?_
  refine lv_iload_n hx hb dL_is_3 rfl (lv_at hl 1 rfl) ?_
  refine lv_iload_n hx hb dL_is_4 rfl (lv_at hl 2 rfl) ?_
  refine xc_i (vx_runV (As := [.int (jI a9), .int (jI b9)]) (rest := [.int (jI 0), .ref (ad 2000)]) ⟨hx, hb, hml, hown, hts⟩ hM (cwV 2 hts gL_is_X5_is rfl rfl rfl (by decide +kernel) ⟨Nat.le_of_ble_eq_true rfl, Nat.le_of_ble_eq_true rfl⟩) (preVY hK hNw hE hU hW hS hA h0) rfl rfl hl.1 rfl (lv_room (Nat.le_of_ble_eq_true rfl)) dL_is_5 ⟨Nat.le_of_ble_eq_true rfl, Nat.le_of_ble_eq_true rfl⟩) hW hS hA (fun E c1 ce q9 H locs hp hW hS hce hcv hcl => ?_) (fun z c1 H locs hp hW hS => ?_)
  · obtain rfl := hpx E c1 hp
    refine vx_catch (own := RL) (name := xNSE) hown [] ⟨0, 17, 20, 13⟩ [] (by rw [htab]; rfl) (fun z hz => absurd hz List.not_mem_nil) rfl (by decide) (hts (.classLink RL 13 "java/util/NoSuchElementException") (by decide +kernel)) (cast_of hE (by decide +kernel)) hce hcv hcl ?_
    refine lv_astore (lv' := [(4, .ref q9), (0, .ref (ad 0)), (1, .int (jI a9)), (2, .int (jI b9)), (3, .ref (ad 2000))]) hx hb dL_is_20 hl (by decide) rfl (fun ls hl => ?_)
    refine lv_iconst (v := jI 1) hx hb dL_is_22 rfl ?_
    refine vx_ret ?_
    refine W.widen (k := 2) (n := 12) (by omega) (by omega) ?_
    exact W.iret hx hb hr (fun t ht hw => ⟨⟨_, (1, (glue c1 ct)), rfl, ⟨rfl, Or.inr (⟨rfl, c1, hp, fun q => rfl⟩)⟩, by show rm_W D ad _ _ t.heap; rw [ht]; exact hW⟩, hS.F ht⟩) hS.2.2 dL_is_23
  · rcases hpz z c1 hp with hz | hz
    · subst hz
      refine rm_if_eq (tgt := 15) hx hb r32_0 dL_is_8 (by decide) (fun _ => ?_) (fun hq => absurd rfl hq)
      refine lv_lconst (v := jL 0) hx hb dL_is_15 rfl ?_
      refine rm_last hx hb hK hW hS (f := o) ((glue_hi (by omega)).trans ho) 0 rfl (by omega) (by omega) dL_is_16 (fun H locs ct2 hs2 ho2 hW hS hz2 => ?_)
      refine lv_goto (tgt := 24) hx hb dL_is_17 (by decide) ?_
      refine lv_iconst (v := jI 0) hx hb dL_is_24 rfl ?_
      refine vx_ret ?_
      refine W.widen (k := 2) (n := 12) (by omega) (by omega) ?_
      exact W.iret hx hb hr (fun t ht hw => ⟨⟨_, (0, ct2), rfl, ⟨rfl, Or.inl (⟨rfl, 0, c1, hp, hs2, fun q h => ho2 q h⟩)⟩, by show rm_W D ad _ _ t.heap; rw [ht]; exact hW⟩, hS.F ht⟩) hS.2.2 dL_is_25
    · subst hz
      refine rm_if_eq (tgt := 15) hx hb ⟨by omega, by omega⟩ dL_is_8 (by decide) (fun hq => absurd hq (by decide)) (fun _ => ?_)
      refine lv_lconst (v := jL 1) hx hb dL_is_11 rfl ?_
      refine lv_goto (tgt := 16) hx hb dL_is_12 (by decide) ?_
      refine rm_last hx hb hK hW hS (f := o) ((glue_hi (by omega)).trans ho) 0 rfl (by omega) (by omega) dL_is_16 (fun H locs ct2 hs2 ho2 hW hS hz2 => ?_)
      refine lv_goto (tgt := 24) hx hb dL_is_17 (by decide) ?_
      refine lv_iconst (v := jI 0) hx hb dL_is_24 rfl ?_
      refine vx_ret ?_
      refine W.widen (k := 2) (n := 12) (by omega) (by omega) ?_
      exact W.iret hx hb hr (fun t ht hw => ⟨⟨_, (0, ct2), rfl, ⟨rfl, Or.inl (⟨rfl, 1, c1, hp, hs2, fun q h => ho2 q h⟩)⟩, by show rm_W D ad _ _ t.heap; rw [ht]; exact hW⟩, hS.F ht⟩) hS.2.2 dL_is_25
set_option maxHeartbeats 4000000 in
set_option maxRecDepth 100000 in
theorem c_L_burns (l : Launch) (D : va_G) (ty : Nat → ClassId) (ad : Nat → Nat) (ct : rm_C) (sz : Nat) (fs : List Value) (o : Nat → Int) (a9 : Int) (b9 : Int) {post : Int → rm_C → Prop} {px : String → rm_C → Prop} (h0 : ct 0 = some (.inr (5, fs))) (ho : ct 2000 = some (rl ty 1 o)) (hM : vx_Met l yX5_burns wsX5_burns ({ frames := 7, cells := 2, slots := 12, locals := 104 }) (rm_PX D ty ad (cutC ct) sz [.ref (ad 0), .int (jI a9), .int (jI b9)]) (rm_Qi D ad (cutC ct) sz post) (rm_XC D ad (cutC ct) sz px) 2 12 (rm_A ad (cutC ct) sz)) (hpz : ∀ z c1, post z c1 → r32 z) (hpx : ∀ E c1, px E c1 → E = xNSE) : vx_Met l yL_burns wsL_burns ({ frames := 8, cells := 2, slots := 12, locals := 127 }) (rm_PY D ty ad ct sz [.ref (ad 0), .int (jI a9), .int (jI b9), .ref (ad 2000)]) (rm_Qi D ad ct sz (fun k ct1 => (k = 0 ∧ ∃ z c1, post z c1 ∧ ct1 2000 = some (rl ty 1 (ub o 0 z)) ∧ ∀ q, q ≠ 2000 → ct1 q = glue c1 ct q) ∨ (k = 1 ∧ ∃ c1, px xNSE c1 ∧ ∀ q, ct1 q = glue c1 ct q))) (rm_XC D ad ct sz (fun _ _ => False)) 2 12 (rm_A ad ct sz) := by
  refine vx_ofWH (cc := cL_burns) (maxL := 5) (ret := (some .int)) (hh := [(0, 10, 13, 13)]) (by decide) rfl ?_
  intro p e s m args below meth c s₁ B hml hv
  obtain ⟨hargs, ⟨⟨hsz, hW, hK, hNw⟩, hE, hU⟩, hX2⟩ := hv
  have hx := B.exec
  have hb := B.bytes
  have hr := B.returns
  have hts := atoms_spec (ws := wsL_burns) B.pre
  have hown : s.vm.findClass RL = some m.cls := findClass_of_methodNamed B.named
  have hlocks := B.notSynchronized
  have htab := vx_table (x := yL_burns) B (hts (.codeWith yL_burns cL_burns 5 (some .int) [(0, 10, 13, 13)]) List.mem_cons_self)
  subst hsz
  have hW := hW.own (sz := s.heap.size)
  have hA : ∀ q : Nat, s.heap.size ≤ q → rm_A ad ct s.heap.size q := fun q h => Or.inr h
  have hS : va_S (rm_A ad ct s.heap.size) s.heap s.heap [] := va_S.rf
  have hent : entryFrame m args 5 = entryFrame m ([.ref (ad 0), .int (jI a9), .int (jI b9), .ref (ad 2000)] : List Value).toArray 5 := by rw [hargs]
  have hl := lv_entry ([.ref (ad 0), .int (jI a9), .int (jI b9), .ref (ad 2000)]) (n := 5) (Nat.le_of_ble_eq_true rfl)
  rw [hent, lg_entry_eq]
  generalize (lg_sl ([.ref (ad 0), .int (jI a9), .int (jI b9), .ref (ad 2000)]) ++ List.replicate (5 - (lg_sl ([.ref (ad 0), .int (jI a9), .int (jI b9), .ref (ad 2000)])).length) Slot.unset).toArray = ls at hl ⊢
  have hl : lv_has ls 5 [(0, .ref (ad 0)), (1, .int (jI a9)), (2, .int (jI b9)), (3, .ref (ad 2000))] := hl
  refine lv_aload_n hx hb dL_burns_0 rfl (lv_at hl 3 rfl) ?_
  refine lv_iconst (v := jI 0) hx hb dL_burns_1 rfl ?_
  refine lv_aload_n hx hb dL_burns_2 rfl (lv_at hl 0 rfl) ?_
  refine lv_iload_n hx hb dL_burns_3 rfl (lv_at hl 1 rfl) ?_
  refine lv_iload_n hx hb dL_burns_4 rfl (lv_at hl 2 rfl) ?_
  refine xc_i (vx_runV (As := [.int (jI a9), .int (jI b9)]) (rest := [.int (jI 0), .ref (ad 2000)]) ⟨hx, hb, hml, hown, hts⟩ hM (cwV 2 hts gL_burns_X5_burns rfl rfl rfl (by decide +kernel) ⟨Nat.le_of_ble_eq_true rfl, Nat.le_of_ble_eq_true rfl⟩) (preVY hK hNw hE hU hW hS hA h0) rfl rfl hl.1 rfl (lv_room (Nat.le_of_ble_eq_true rfl)) dL_burns_5 ⟨Nat.le_of_ble_eq_true rfl, Nat.le_of_ble_eq_true rfl⟩) hW hS hA (fun E c1 ce q9 H locs hp hW hS hce hcv hcl => ?_) (fun z c1 H locs hp hW hS => ?_)
  · obtain rfl := hpx E c1 hp
    refine vx_catch (own := RL) (name := xNSE) hown [] ⟨0, 10, 13, 13⟩ [] (by rw [htab]; rfl) (fun z hz => absurd hz List.not_mem_nil) rfl (by decide) (hts (.classLink RL 13 "java/util/NoSuchElementException") (by decide +kernel)) (cast_of hE (by decide +kernel)) hce hcv hcl ?_
    refine lv_astore (lv' := [(4, .ref q9), (0, .ref (ad 0)), (1, .int (jI a9)), (2, .int (jI b9)), (3, .ref (ad 2000))]) hx hb dL_burns_13 hl (by decide) rfl (fun ls hl => ?_)
    refine lv_iconst (v := jI 1) hx hb dL_burns_15 rfl ?_
    refine vx_ret ?_
    refine W.widen (k := 2) (n := 12) (by omega) (by omega) ?_
    exact W.iret hx hb hr (fun t ht hw => ⟨⟨_, (1, (glue c1 ct)), rfl, ⟨rfl, Or.inr (⟨rfl, c1, hp, fun q => rfl⟩)⟩, by show rm_W D ad _ _ t.heap; rw [ht]; exact hW⟩, hS.F ht⟩) hS.2.2 dL_burns_16
  · have hz := hpz z c1 hp
    refine rm_i2l hx hb dL_burns_8 hz ?_
    refine rm_last hx hb hK hW hS (f := o) ((glue_hi (by omega)).trans ho) 0 rfl (by omega) (by omega) dL_burns_9 (fun H locs ct2 hs2 ho2 hW hS hz2 => ?_)
    refine lv_goto (tgt := 17) hx hb dL_burns_10 (by decide) ?_
    refine lv_iconst (v := jI 0) hx hb dL_burns_17 rfl ?_
    refine vx_ret ?_
    refine W.widen (k := 2) (n := 12) (by omega) (by omega) ?_
    exact W.iret hx hb hr (fun t ht hw => ⟨⟨_, (0, ct2), rfl, ⟨rfl, Or.inl (⟨rfl, z, c1, hp, hs2, fun q h => ho2 q h⟩)⟩, by show rm_W D ad _ _ t.heap; rw [ht]; exact hW⟩, hS.F ht⟩) hS.2.2 dL_burns_18
set_option maxHeartbeats 4000000 in
set_option maxRecDepth 100000 in
theorem c_L_add (l : Launch) (D : va_G) (ty : Nat → ClassId) (ad : Nat → Nat) (ct : rm_C) (sz : Nat) (fs : List Value) (o : Nat → Int) (a9 : Int) (b9 : Int) {post : Int → rm_C → Prop} {px : String → rm_C → Prop} (h0 : ct 0 = some (.inr (5, fs))) (ho : ct 2000 = some (rl ty 1 o)) (hM : vx_Met l yX5_add wsX5_add ({ frames := 7, cells := 3, slots := 18, locals := 104 }) (rm_PX D ty ad (cutC ct) sz [.ref (ad 0), .int (jI a9), .int (jI b9)]) (rm_Ql D ad (cutC ct) sz post) (rm_XC D ad (cutC ct) sz px) 3 18 (rm_A ad (cutC ct) sz)) (hpx : ∀ E c1, px E c1 → E = xNSE ∨ E = xIAE) : vx_Met l yL_add wsL_add ({ frames := 8, cells := 3, slots := 18, locals := 129 }) (rm_PY D ty ad ct sz [.ref (ad 0), .int (jI a9), .int (jI b9), .ref (ad 2000)]) (rm_Qi D ad ct sz (fun k ct1 => (k = 0 ∧ ∃ z c1, post z c1 ∧ ct1 2000 = some (rl ty 1 (ub o 0 z)) ∧ ∀ q, q ≠ 2000 → ct1 q = glue c1 ct q) ∨ (k = 1 ∧ ∃ c1, px xNSE c1 ∧ ∀ q, ct1 q = glue c1 ct q) ∨ (k = 2 ∧ ∃ c1, px xIAE c1 ∧ ∀ q, ct1 q = glue c1 ct q))) (rm_XC D ad ct sz (fun _ _ => False)) 3 18 (rm_A ad ct sz) := by
  refine vx_ofWH (cc := cL_add) (maxL := 5) (ret := (some .int)) (hh := [(0, 9, 12, 13), (0, 9, 16, 41)]) (by decide) rfl ?_
  intro p e s m args below meth c s₁ B hml hv
  obtain ⟨hargs, ⟨⟨hsz, hW, hK, hNw⟩, hE, hU⟩, hX2⟩ := hv
  have hx := B.exec
  have hb := B.bytes
  have hr := B.returns
  have hts := atoms_spec (ws := wsL_add) B.pre
  have hown : s.vm.findClass RL = some m.cls := findClass_of_methodNamed B.named
  have hlocks := B.notSynchronized
  have htab := vx_table (x := yL_add) B (hts (.codeWith yL_add cL_add 5 (some .int) [(0, 9, 12, 13), (0, 9, 16, 41)]) List.mem_cons_self)
  subst hsz
  have hW := hW.own (sz := s.heap.size)
  have hA : ∀ q : Nat, s.heap.size ≤ q → rm_A ad ct s.heap.size q := fun q h => Or.inr h
  have hS : va_S (rm_A ad ct s.heap.size) s.heap s.heap [] := va_S.rf
  have hent : entryFrame m args 5 = entryFrame m ([.ref (ad 0), .int (jI a9), .int (jI b9), .ref (ad 2000)] : List Value).toArray 5 := by rw [hargs]
  have hl := lv_entry ([.ref (ad 0), .int (jI a9), .int (jI b9), .ref (ad 2000)]) (n := 5) (Nat.le_of_ble_eq_true rfl)
  rw [hent, lg_entry_eq]
  generalize (lg_sl ([.ref (ad 0), .int (jI a9), .int (jI b9), .ref (ad 2000)]) ++ List.replicate (5 - (lg_sl ([.ref (ad 0), .int (jI a9), .int (jI b9), .ref (ad 2000)])).length) Slot.unset).toArray = ls at hl ⊢
  have hl : lv_has ls 5 [(0, .ref (ad 0)), (1, .int (jI a9)), (2, .int (jI b9)), (3, .ref (ad 2000))] := hl
  refine lv_aload_n hx hb dL_add_0 rfl (lv_at hl 3 rfl) ?_
  refine lv_iconst (v := jI 0) hx hb dL_add_1 rfl ?_
  refine lv_aload_n hx hb dL_add_2 rfl (lv_at hl 0 rfl) ?_
  refine lv_iload_n hx hb dL_add_3 rfl (lv_at hl 1 rfl) ?_
  refine lv_iload_n hx hb dL_add_4 rfl (lv_at hl 2 rfl) ?_
  refine xc_l (vx_runV (As := [.int (jI a9), .int (jI b9)]) (rest := [.int (jI 0), .ref (ad 2000)]) ⟨hx, hb, hml, hown, hts⟩ hM (cwV 2 hts gL_add_X5_add rfl rfl rfl (by decide +kernel) ⟨Nat.le_of_ble_eq_true rfl, Nat.le_of_ble_eq_true rfl⟩) (preVY hK hNw hE hU hW hS hA h0) rfl rfl hl.1 rfl (lv_room (Nat.le_of_ble_eq_true rfl)) dL_add_5 ⟨Nat.le_of_ble_eq_true rfl, Nat.le_of_ble_eq_true rfl⟩) hW hS hA (fun E c1 ce q9 H locs hp hW hS hce hcv hcl => ?_) (fun z c1 H locs hp hW hS => ?_)
  · rcases hpx E c1 hp with rfl | rfl
    · skip
      refine vx_catch (own := RL) (name := xNSE) hown [] ⟨0, 9, 12, 13⟩ [⟨0, 9, 16, 41⟩] (by rw [htab]; rfl) (fun z hz => absurd hz List.not_mem_nil) rfl (by decide) (hts (.classLink RL 13 "java/util/NoSuchElementException") (by decide +kernel)) (cast_of hE (by decide +kernel)) hce hcv hcl ?_
      refine lv_astore (lv' := [(4, .ref q9), (0, .ref (ad 0)), (1, .int (jI a9)), (2, .int (jI b9)), (3, .ref (ad 2000))]) hx hb dL_add_12 hl (by decide) rfl (fun ls hl => ?_)
      refine lv_iconst (v := jI 1) hx hb dL_add_14 rfl ?_
      refine vx_ret ?_
      refine W.widen (k := 3) (n := 18) (by omega) (by omega) ?_
      exact W.iret hx hb hr (fun t ht hw => ⟨⟨_, (1, (glue c1 ct)), rfl, ⟨rfl, Or.inr (Or.inl (⟨rfl, c1, hp, fun q => rfl⟩))⟩, by show rm_W D ad _ _ t.heap; rw [ht]; exact hW⟩, hS.F ht⟩) hS.2.2 dL_add_15
    · skip
      refine vx_catch (own := RL) (name := xIAE) hown [⟨0, 9, 12, 13⟩] ⟨0, 9, 16, 41⟩ [] (by rw [htab]; rfl) (fun z hz => by
        obtain rfl := List.mem_singleton.mp hz
        exact Or.inr ⟨by decide, xNSE, hts (.classLink RL 13 "java/util/NoSuchElementException") (by decide +kernel), hX2.2⟩) rfl (by decide) (hts (.classLink RL 41 "java/lang/IllegalArgumentException") (by decide +kernel)) (cast_of hE (by decide +kernel)) hce hcv hcl ?_
      refine lv_astore (lv' := [(4, .ref q9), (0, .ref (ad 0)), (1, .int (jI a9)), (2, .int (jI b9)), (3, .ref (ad 2000))]) hx hb dL_add_16 hl (by decide) rfl (fun ls hl => ?_)
      refine lv_iconst (v := jI 2) hx hb dL_add_18 rfl ?_
      refine vx_ret ?_
      refine W.widen (k := 3) (n := 18) (by omega) (by omega) ?_
      exact W.iret hx hb hr (fun t ht hw => ⟨⟨_, (2, (glue c1 ct)), rfl, ⟨rfl, Or.inr (Or.inr (⟨rfl, c1, hp, fun q => rfl⟩))⟩, by show rm_W D ad _ _ t.heap; rw [ht]; exact hW⟩, hS.F ht⟩) hS.2.2 dL_add_19
  · skip
    refine rm_last hx hb hK hW hS (f := o) ((glue_hi (by omega)).trans ho) 0 rfl (by omega) (by omega) dL_add_8 (fun H locs ct2 hs2 ho2 hW hS hz2 => ?_)
    refine lv_goto (tgt := 20) hx hb dL_add_9 (by decide) ?_
    refine lv_iconst (v := jI 0) hx hb dL_add_20 rfl ?_
    refine vx_ret ?_
    refine W.widen (k := 3) (n := 18) (by omega) (by omega) ?_
    exact W.iret hx hb hr (fun t ht hw => ⟨⟨_, (0, ct2), rfl, ⟨rfl, Or.inl (⟨rfl, z, c1, hp, hs2, fun q h => ho2 q h⟩)⟩, by show rm_W D ad _ _ t.heap; rw [ht]; exact hW⟩, hS.F ht⟩) hS.2.2 dL_add_21
set_option maxHeartbeats 4000000 in
set_option maxRecDepth 100000 in
theorem c_L_become (l : Launch) (D : va_G) (ty : Nat → ClassId) (ad : Nat → Nat) (ct : rm_C) (sz : Nat) (fs : List Value) (o : Nat → Int) (a9 : Int) (b9 : Int) {post : rm_C → Prop} {px : String → rm_C → Prop} (h0 : ct 0 = some (.inr (5, fs))) (hM : vx_Met l yX5_become wsX5_become ({ frames := 7, cells := 2, slots := 12, locals := 104 }) (rm_PX D ty ad (cutC ct) sz [.ref (ad 0), .int (jI a9), .int (jI b9)]) (rm_Qv D ad (cutC ct) sz 0 post) (rm_XC D ad (cutC ct) sz px) 2 12 (rm_A ad (cutC ct) sz)) (hpx : ∀ E c1, px E c1 → E = xNSE) : vx_Met l yL_become wsL_become ({ frames := 8, cells := 2, slots := 12, locals := 127 }) (rm_PY D ty ad ct sz [.ref (ad 0), .int (jI a9), .int (jI b9)]) (rm_Qi D ad ct sz (fun k ct1 => (k = 0 ∧ ∃ c1, post c1 ∧ ∀ q, ct1 q = glue c1 ct q) ∨ (k = 1 ∧ ∃ c1, px xNSE c1 ∧ ∀ q, ct1 q = glue c1 ct q))) (rm_XC D ad ct sz (fun _ _ => False)) 2 12 (rm_A ad ct sz) := by
  refine vx_ofWH (cc := cL_become) (maxL := 4) (ret := (some .int)) (hh := [(0, 6, 9, 13)]) (by decide) rfl ?_
  intro p e s m args below meth c s₁ B hml hv
  obtain ⟨hargs, ⟨⟨hsz, hW, hK, hNw⟩, hE, hU⟩, hX2⟩ := hv
  have hx := B.exec
  have hb := B.bytes
  have hr := B.returns
  have hts := atoms_spec (ws := wsL_become) B.pre
  have hown : s.vm.findClass RL = some m.cls := findClass_of_methodNamed B.named
  have hlocks := B.notSynchronized
  have htab := vx_table (x := yL_become) B (hts (.codeWith yL_become cL_become 4 (some .int) [(0, 6, 9, 13)]) List.mem_cons_self)
  subst hsz
  have hW := hW.own (sz := s.heap.size)
  have hA : ∀ q : Nat, s.heap.size ≤ q → rm_A ad ct s.heap.size q := fun q h => Or.inr h
  have hS : va_S (rm_A ad ct s.heap.size) s.heap s.heap [] := va_S.rf
  have hent : entryFrame m args 4 = entryFrame m ([.ref (ad 0), .int (jI a9), .int (jI b9)] : List Value).toArray 4 := by rw [hargs]
  have hl := lv_entry ([.ref (ad 0), .int (jI a9), .int (jI b9)]) (n := 4) (Nat.le_of_ble_eq_true rfl)
  rw [hent, lg_entry_eq]
  generalize (lg_sl ([.ref (ad 0), .int (jI a9), .int (jI b9)]) ++ List.replicate (4 - (lg_sl ([.ref (ad 0), .int (jI a9), .int (jI b9)])).length) Slot.unset).toArray = ls at hl ⊢
  have hl : lv_has ls 4 [(0, .ref (ad 0)), (1, .int (jI a9)), (2, .int (jI b9))] := hl
  refine lv_aload_n hx hb dL_become_0 rfl (lv_at hl 0 rfl) ?_
  refine lv_iload_n hx hb dL_become_1 rfl (lv_at hl 1 rfl) ?_
  refine lv_iload_n hx hb dL_become_2 rfl (lv_at hl 2 rfl) ?_
  refine xc_v (vx_runV (As := [.int (jI a9), .int (jI b9)]) (rest := []) ⟨hx, hb, hml, hown, hts⟩ hM (cwV 2 hts gL_become_X5_become rfl rfl rfl (by decide +kernel) ⟨Nat.le_of_ble_eq_true rfl, Nat.le_of_ble_eq_true rfl⟩) (preVY hK hNw hE hU hW hS hA h0) rfl rfl hl.1 rfl (lv_room (Nat.le_of_ble_eq_true rfl)) dL_become_3 ⟨Nat.le_of_ble_eq_true rfl, Nat.le_of_ble_eq_true rfl⟩) hW hS hA (fun E c1 ce q9 H locs hp hW hS hce hcv hcl => ?_) (fun c1 H locs hp hW hS => ?_)
  · obtain rfl := hpx E c1 hp
    refine vx_catch (own := RL) (name := xNSE) hown [] ⟨0, 6, 9, 13⟩ [] (by rw [htab]; rfl) (fun z hz => absurd hz List.not_mem_nil) rfl (by decide) (hts (.classLink RL 13 "java/util/NoSuchElementException") (by decide +kernel)) (cast_of hE (by decide +kernel)) hce hcv hcl ?_
    refine lv_astore_n (lv' := [(3, .ref q9), (0, .ref (ad 0)), (1, .int (jI a9)), (2, .int (jI b9))]) hx hb dL_become_9 rfl hl (by decide) rfl (fun ls hl => ?_)
    refine lv_iconst (v := jI 1) hx hb dL_become_10 rfl ?_
    refine vx_ret ?_
    refine W.widen (k := 2) (n := 12) (by omega) (by omega) ?_
    exact W.iret hx hb hr (fun t ht hw => ⟨⟨_, (1, (glue c1 ct)), rfl, ⟨rfl, Or.inr (⟨rfl, c1, hp, fun q => rfl⟩)⟩, by show rm_W D ad _ _ t.heap; rw [ht]; exact hW⟩, hS.F ht⟩) hS.2.2 dL_become_11
  · refine lv_goto (tgt := 12) hx hb dL_become_6 (by decide) ?_
    refine lv_iconst (v := jI 0) hx hb dL_become_12 rfl ?_
    refine vx_ret ?_
    refine W.widen (k := 2) (n := 12) (by omega) (by omega) ?_
    exact W.iret hx hb hr (fun t ht hw => ⟨⟨_, (0, (glue c1 ct)), rfl, ⟨rfl, Or.inl (⟨rfl, c1, hp, fun q => rfl⟩)⟩, by show rm_W D ad _ _ t.heap; rw [ht]; exact hW⟩, hS.F ht⟩) hS.2.2 dL_become_13
set_option maxHeartbeats 4000000 in
set_option maxRecDepth 100000 in
theorem c_L_alike (l : Launch) (D : va_G) (ty : Nat → ClassId) (ad : Nat → Nat) (ct : rm_C) (sz : Nat) (fs : List Value) (o : Nat → Int) (a9 : Int) (b9 : Int) {post : Int → rm_C → Prop} {px : String → rm_C → Prop} (h0 : ct 0 = some (.inr (5, fs))) (ho : ct 2000 = some (rl ty 1 o)) (hM : vx_Met l yX5_alike wsX5_alike ({ frames := 7, cells := 3, slots := 18, locals := 104 }) (rm_PX D ty ad (cutC ct) sz [.ref (ad 0), .int (jI a9), .int (jI b9)]) (rm_Qi D ad (cutC ct) sz post) (rm_XC D ad (cutC ct) sz px) 3 18 (rm_A ad (cutC ct) sz)) (hpz : ∀ z c1, post z c1 → z = 0 ∨ z = 1) (hpx : ∀ E c1, px E c1 → E = xNSE ∨ E = xIAE) : vx_Met l yL_alike wsL_alike ({ frames := 8, cells := 3, slots := 18, locals := 128 }) (rm_PY D ty ad ct sz [.ref (ad 0), .int (jI a9), .int (jI b9), .ref (ad 2000)]) (rm_Qi D ad ct sz (fun k ct1 => (k = 0 ∧ ∃ z c1, post z c1 ∧ ct1 2000 = some (rl ty 1 (ub o 0 z)) ∧ ∀ q, q ≠ 2000 → ct1 q = glue c1 ct q) ∨ (k = 1 ∧ ∃ c1, px xNSE c1 ∧ ∀ q, ct1 q = glue c1 ct q) ∨ (k = 2 ∧ ∃ c1, px xIAE c1 ∧ ∀ q, ct1 q = glue c1 ct q))) (rm_XC D ad ct sz (fun _ _ => False)) 3 18 (rm_A ad ct sz) := by
  refine vx_ofWH (cc := cL_alike) (maxL := 5) (ret := (some .int)) (hh := [(0, 17, 20, 13), (0, 17, 24, 41)]) (by decide) rfl ?_
  intro p e s m args below meth c s₁ B hml hv
  obtain ⟨hargs, ⟨⟨hsz, hW, hK, hNw⟩, hE, hU⟩, hX2⟩ := hv
  have hx := B.exec
  have hb := B.bytes
  have hr := B.returns
  have hts := atoms_spec (ws := wsL_alike) B.pre
  have hown : s.vm.findClass RL = some m.cls := findClass_of_methodNamed B.named
  have hlocks := B.notSynchronized
  have htab := vx_table (x := yL_alike) B (hts (.codeWith yL_alike cL_alike 5 (some .int) [(0, 17, 20, 13), (0, 17, 24, 41)]) List.mem_cons_self)
  subst hsz
  have hW := hW.own (sz := s.heap.size)
  have hA : ∀ q : Nat, s.heap.size ≤ q → rm_A ad ct s.heap.size q := fun q h => Or.inr h
  have hS : va_S (rm_A ad ct s.heap.size) s.heap s.heap [] := va_S.rf
  have hent : entryFrame m args 5 = entryFrame m ([.ref (ad 0), .int (jI a9), .int (jI b9), .ref (ad 2000)] : List Value).toArray 5 := by rw [hargs]
  have hl := lv_entry ([.ref (ad 0), .int (jI a9), .int (jI b9), .ref (ad 2000)]) (n := 5) (Nat.le_of_ble_eq_true rfl)
  rw [hent, lg_entry_eq]
  generalize (lg_sl ([.ref (ad 0), .int (jI a9), .int (jI b9), .ref (ad 2000)]) ++ List.replicate (5 - (lg_sl ([.ref (ad 0), .int (jI a9), .int (jI b9), .ref (ad 2000)])).length) Slot.unset).toArray = ls at hl ⊢
  have hl : lv_has ls 5 [(0, .ref (ad 0)), (1, .int (jI a9)), (2, .int (jI b9)), (3, .ref (ad 2000))] := hl
  refine lv_aload_n hx hb dL_alike_0 rfl (lv_at hl 3 rfl) ?_
  refine lv_iconst (v := jI 0) hx hb dL_alike_1 rfl ?_
  refine lv_aload_n hx hb dL_alike_2 rfl (lv_at hl 0 rfl) ?_
  refine lv_iload_n hx hb dL_alike_3 rfl (lv_at hl 1 rfl) ?_
  refine lv_iload_n hx hb dL_alike_4 rfl (lv_at hl 2 rfl) ?_
  refine xc_i (vx_runV (As := [.int (jI a9), .int (jI b9)]) (rest := [.int (jI 0), .ref (ad 2000)]) ⟨hx, hb, hml, hown, hts⟩ hM (cwV 2 hts gL_alike_X5_alike rfl rfl rfl (by decide +kernel) ⟨Nat.le_of_ble_eq_true rfl, Nat.le_of_ble_eq_true rfl⟩) (preVY hK hNw hE hU hW hS hA h0) rfl rfl hl.1 rfl (lv_room (Nat.le_of_ble_eq_true rfl)) dL_alike_5 ⟨Nat.le_of_ble_eq_true rfl, Nat.le_of_ble_eq_true rfl⟩) hW hS hA (fun E c1 ce q9 H locs hp hW hS hce hcv hcl => ?_) (fun z c1 H locs hp hW hS => ?_)
  · rcases hpx E c1 hp with rfl | rfl
    · skip
      refine vx_catch (own := RL) (name := xNSE) hown [] ⟨0, 17, 20, 13⟩ [⟨0, 17, 24, 41⟩] (by rw [htab]; rfl) (fun z hz => absurd hz List.not_mem_nil) rfl (by decide) (hts (.classLink RL 13 "java/util/NoSuchElementException") (by decide +kernel)) (cast_of hE (by decide +kernel)) hce hcv hcl ?_
      refine lv_astore (lv' := [(4, .ref q9), (0, .ref (ad 0)), (1, .int (jI a9)), (2, .int (jI b9)), (3, .ref (ad 2000))]) hx hb dL_alike_20 hl (by decide) rfl (fun ls hl => ?_)
      refine lv_iconst (v := jI 1) hx hb dL_alike_22 rfl ?_
      refine vx_ret ?_
      refine W.widen (k := 3) (n := 18) (by omega) (by omega) ?_
      exact W.iret hx hb hr (fun t ht hw => ⟨⟨_, (1, (glue c1 ct)), rfl, ⟨rfl, Or.inr (Or.inl (⟨rfl, c1, hp, fun q => rfl⟩))⟩, by show rm_W D ad _ _ t.heap; rw [ht]; exact hW⟩, hS.F ht⟩) hS.2.2 dL_alike_23
    · skip
      refine vx_catch (own := RL) (name := xIAE) hown [⟨0, 17, 20, 13⟩] ⟨0, 17, 24, 41⟩ [] (by rw [htab]; rfl) (fun z hz => by
        obtain rfl := List.mem_singleton.mp hz
        exact Or.inr ⟨by decide, xNSE, hts (.classLink RL 13 "java/util/NoSuchElementException") (by decide +kernel), hX2.2⟩) rfl (by decide) (hts (.classLink RL 41 "java/lang/IllegalArgumentException") (by decide +kernel)) (cast_of hE (by decide +kernel)) hce hcv hcl ?_
      refine lv_astore (lv' := [(4, .ref q9), (0, .ref (ad 0)), (1, .int (jI a9)), (2, .int (jI b9)), (3, .ref (ad 2000))]) hx hb dL_alike_24 hl (by decide) rfl (fun ls hl => ?_)
      refine lv_iconst (v := jI 2) hx hb dL_alike_26 rfl ?_
      refine vx_ret ?_
      refine W.widen (k := 3) (n := 18) (by omega) (by omega) ?_
      exact W.iret hx hb hr (fun t ht hw => ⟨⟨_, (2, (glue c1 ct)), rfl, ⟨rfl, Or.inr (Or.inr (⟨rfl, c1, hp, fun q => rfl⟩))⟩, by show rm_W D ad _ _ t.heap; rw [ht]; exact hW⟩, hS.F ht⟩) hS.2.2 dL_alike_27
  · rcases hpz z c1 hp with hz | hz
    · subst hz
      refine rm_if_eq (tgt := 15) hx hb r32_0 dL_alike_8 (by decide) (fun _ => ?_) (fun hq => absurd rfl hq)
      refine lv_lconst (v := jL 0) hx hb dL_alike_15 rfl ?_
      refine rm_last hx hb hK hW hS (f := o) ((glue_hi (by omega)).trans ho) 0 rfl (by omega) (by omega) dL_alike_16 (fun H locs ct2 hs2 ho2 hW hS hz2 => ?_)
      refine lv_goto (tgt := 28) hx hb dL_alike_17 (by decide) ?_
      refine lv_iconst (v := jI 0) hx hb dL_alike_28 rfl ?_
      refine vx_ret ?_
      refine W.widen (k := 3) (n := 18) (by omega) (by omega) ?_
      exact W.iret hx hb hr (fun t ht hw => ⟨⟨_, (0, ct2), rfl, ⟨rfl, Or.inl (⟨rfl, 0, c1, hp, hs2, fun q h => ho2 q h⟩)⟩, by show rm_W D ad _ _ t.heap; rw [ht]; exact hW⟩, hS.F ht⟩) hS.2.2 dL_alike_29
    · subst hz
      refine rm_if_eq (tgt := 15) hx hb ⟨by omega, by omega⟩ dL_alike_8 (by decide) (fun hq => absurd hq (by decide)) (fun _ => ?_)
      refine lv_lconst (v := jL 1) hx hb dL_alike_11 rfl ?_
      refine lv_goto (tgt := 16) hx hb dL_alike_12 (by decide) ?_
      refine rm_last hx hb hK hW hS (f := o) ((glue_hi (by omega)).trans ho) 0 rfl (by omega) (by omega) dL_alike_16 (fun H locs ct2 hs2 ho2 hW hS hz2 => ?_)
      refine lv_goto (tgt := 28) hx hb dL_alike_17 (by decide) ?_
      refine lv_iconst (v := jI 0) hx hb dL_alike_28 rfl ?_
      refine vx_ret ?_
      refine W.widen (k := 3) (n := 18) (by omega) (by omega) ?_
      exact W.iret hx hb hr (fun t ht hw => ⟨⟨_, (0, ct2), rfl, ⟨rfl, Or.inl (⟨rfl, 1, c1, hp, hs2, fun q h => ho2 q h⟩)⟩, by show rm_W D ad _ _ t.heap; rw [ht]; exact hW⟩, hS.F ht⟩) hS.2.2 dL_alike_29
set_option maxHeartbeats 4000000 in
set_option maxRecDepth 100000 in
theorem c_L_order (l : Launch) (D : va_G) (ty : Nat → ClassId) (ad : Nat → Nat) (ct : rm_C) (sz : Nat) (fs : List Value) (o : Nat → Int) (a9 : Int) {post : Int → rm_C → Prop} {px : String → rm_C → Prop} (h0 : ct 0 = some (.inr (5, fs))) (ho : ct 2000 = some (rl ty 1 o)) (hM : vx_Met l yX5_order wsX5_order ({ frames := 7, cells := 1, slots := 6, locals := 104 }) (rm_PX D ty ad (cutC ct) sz [.ref (ad 0), .int (jI a9)]) (rm_Ql D ad (cutC ct) sz post) (rm_XC D ad (cutC ct) sz px) 1 6 (rm_A ad (cutC ct) sz)) (hpx : ∀ E c1, px E c1 → E = xNSE) : vx_Met l yL_order wsL_order ({ frames := 8, cells := 1, slots := 6, locals := 126 }) (rm_PY D ty ad ct sz [.ref (ad 0), .int (jI a9), .ref (ad 2000)]) (rm_Qi D ad ct sz (fun k ct1 => (k = 0 ∧ ∃ z c1, post z c1 ∧ ct1 2000 = some (rl ty 1 (ub o 0 z)) ∧ ∀ q, q ≠ 2000 → ct1 q = glue c1 ct q) ∨ (k = 1 ∧ ∃ c1, px xNSE c1 ∧ ∀ q, ct1 q = glue c1 ct q))) (rm_XC D ad ct sz (fun _ _ => False)) 1 6 (rm_A ad ct sz) := by
  refine vx_ofWH (cc := cL_order) (maxL := 4) (ret := (some .int)) (hh := [(0, 8, 11, 13)]) (by decide) rfl ?_
  intro p e s m args below meth c s₁ B hml hv
  obtain ⟨hargs, ⟨⟨hsz, hW, hK, hNw⟩, hE, hU⟩, hX2⟩ := hv
  have hx := B.exec
  have hb := B.bytes
  have hr := B.returns
  have hts := atoms_spec (ws := wsL_order) B.pre
  have hown : s.vm.findClass RL = some m.cls := findClass_of_methodNamed B.named
  have hlocks := B.notSynchronized
  have htab := vx_table (x := yL_order) B (hts (.codeWith yL_order cL_order 4 (some .int) [(0, 8, 11, 13)]) List.mem_cons_self)
  subst hsz
  have hW := hW.own (sz := s.heap.size)
  have hA : ∀ q : Nat, s.heap.size ≤ q → rm_A ad ct s.heap.size q := fun q h => Or.inr h
  have hS : va_S (rm_A ad ct s.heap.size) s.heap s.heap [] := va_S.rf
  have hent : entryFrame m args 4 = entryFrame m ([.ref (ad 0), .int (jI a9), .ref (ad 2000)] : List Value).toArray 4 := by rw [hargs]
  have hl := lv_entry ([.ref (ad 0), .int (jI a9), .ref (ad 2000)]) (n := 4) (Nat.le_of_ble_eq_true rfl)
  rw [hent, lg_entry_eq]
  generalize (lg_sl ([.ref (ad 0), .int (jI a9), .ref (ad 2000)]) ++ List.replicate (4 - (lg_sl ([.ref (ad 0), .int (jI a9), .ref (ad 2000)])).length) Slot.unset).toArray = ls at hl ⊢
  have hl : lv_has ls 4 [(0, .ref (ad 0)), (1, .int (jI a9)), (2, .ref (ad 2000))] := hl
  refine lv_aload_n hx hb dL_order_0 rfl (lv_at hl 2 rfl) ?_
  refine lv_iconst (v := jI 0) hx hb dL_order_1 rfl ?_
  refine lv_aload_n hx hb dL_order_2 rfl (lv_at hl 0 rfl) ?_
  refine lv_iload_n hx hb dL_order_3 rfl (lv_at hl 1 rfl) ?_
  refine xc_l (vx_runV (As := [.int (jI a9)]) (rest := [.int (jI 0), .ref (ad 2000)]) ⟨hx, hb, hml, hown, hts⟩ hM (cwV 1 hts gL_order_X5_order rfl rfl rfl (by decide +kernel) ⟨Nat.le_of_ble_eq_true rfl, Nat.le_of_ble_eq_true rfl⟩) (preVY hK hNw hE hU hW hS hA h0) rfl rfl hl.1 rfl (lv_room (Nat.le_of_ble_eq_true rfl)) dL_order_4 ⟨Nat.le_of_ble_eq_true rfl, Nat.le_of_ble_eq_true rfl⟩) hW hS hA (fun E c1 ce q9 H locs hp hW hS hce hcv hcl => ?_) (fun z c1 H locs hp hW hS => ?_)
  · obtain rfl := hpx E c1 hp
    refine vx_catch (own := RL) (name := xNSE) hown [] ⟨0, 8, 11, 13⟩ [] (by rw [htab]; rfl) (fun z hz => absurd hz List.not_mem_nil) rfl (by decide) (hts (.classLink RL 13 "java/util/NoSuchElementException") (by decide +kernel)) (cast_of hE (by decide +kernel)) hce hcv hcl ?_
    refine lv_astore_n (lv' := [(3, .ref q9), (0, .ref (ad 0)), (1, .int (jI a9)), (2, .ref (ad 2000))]) hx hb dL_order_11 rfl hl (by decide) rfl (fun ls hl => ?_)
    refine lv_iconst (v := jI 1) hx hb dL_order_12 rfl ?_
    refine vx_ret ?_
    refine W.widen (k := 1) (n := 6) (by omega) (by omega) ?_
    exact W.iret hx hb hr (fun t ht hw => ⟨⟨_, (1, (glue c1 ct)), rfl, ⟨rfl, Or.inr (⟨rfl, c1, hp, fun q => rfl⟩)⟩, by show rm_W D ad _ _ t.heap; rw [ht]; exact hW⟩, hS.F ht⟩) hS.2.2 dL_order_13
  · skip
    refine rm_last hx hb hK hW hS (f := o) ((glue_hi (by omega)).trans ho) 0 rfl (by omega) (by omega) dL_order_7 (fun H locs ct2 hs2 ho2 hW hS hz2 => ?_)
    refine lv_goto (tgt := 14) hx hb dL_order_8 (by decide) ?_
    refine lv_iconst (v := jI 0) hx hb dL_order_14 rfl ?_
    refine vx_ret ?_
    refine W.widen (k := 1) (n := 6) (by omega) (by omega) ?_
    exact W.iret hx hb hr (fun t ht hw => ⟨⟨_, (0, ct2), rfl, ⟨rfl, Or.inl (⟨rfl, z, c1, hp, hs2, fun q h => ho2 q h⟩)⟩, by show rm_W D ad _ _ t.heap; rw [ht]; exact hW⟩, hS.F ht⟩) hS.2.2 dL_order_15
set_option maxHeartbeats 4000000 in
set_option maxRecDepth 100000 in
theorem c_L_tree (l : Launch) (D : va_G) (ty : Nat → ClassId) (ad : Nat → Nat) (ct : rm_C) (sz : Nat) (fs : List Value) (o : Nat → Int) (a9 : Int) (b9 : Int) (c9 : Int) {post : Int → rm_C → Prop} {px : String → rm_C → Prop} (h0 : ct 0 = some (.inr (5, fs))) (ho : ct 2000 = some (rl ty 1 o)) (hM : vx_Met l yX5_tree wsX5_tree ({ frames := 7, cells := 3, slots := 18, locals := 104 }) (rm_PX D ty ad (cutC ct) sz [.ref (ad 0), .int (jI a9), .int (jI b9), .int (jI c9)]) (rm_Qi D ad (cutC ct) sz post) (rm_XC D ad (cutC ct) sz px) 3 18 (rm_A ad (cutC ct) sz)) (hpz : ∀ z c1, post z c1 → r32 z) (hpx : ∀ E c1, px E c1 → E = xNSE ∨ E = xISE) : vx_Met l yL_tree wsL_tree ({ frames := 8, cells := 3, slots := 18, locals := 128 }) (rm_PY D ty ad ct sz [.ref (ad 0), .int (jI a9), .int (jI b9), .int (jI c9), .ref (ad 2000)]) (rm_Qi D ad ct sz (fun k ct1 => (k = 0 ∧ ∃ z c1, post z c1 ∧ ct1 2000 = some (rl ty 1 (ub o 0 z)) ∧ ∀ q, q ≠ 2000 → ct1 q = glue c1 ct q) ∨ (k = 1 ∧ ∃ c1, px xNSE c1 ∧ ∀ q, ct1 q = glue c1 ct q) ∨ (k = 2 ∧ ∃ c1, px xISE c1 ∧ ∀ q, ct1 q = glue c1 ct q))) (rm_XC D ad ct sz (fun _ _ => False)) 3 18 (rm_A ad ct sz) := by
  refine vx_ofWH (cc := cL_tree) (maxL := 6) (ret := (some .int)) (hh := [(0, 12, 15, 13), (0, 12, 19, 31)]) (by decide) rfl ?_
  intro p e s m args below meth c s₁ B hml hv
  obtain ⟨hargs, ⟨⟨hsz, hW, hK, hNw⟩, hE, hU⟩, hX2⟩ := hv
  have hx := B.exec
  have hb := B.bytes
  have hr := B.returns
  have hts := atoms_spec (ws := wsL_tree) B.pre
  have hown : s.vm.findClass RL = some m.cls := findClass_of_methodNamed B.named
  have hlocks := B.notSynchronized
  have htab := vx_table (x := yL_tree) B (hts (.codeWith yL_tree cL_tree 6 (some .int) [(0, 12, 15, 13), (0, 12, 19, 31)]) List.mem_cons_self)
  subst hsz
  have hW := hW.own (sz := s.heap.size)
  have hA : ∀ q : Nat, s.heap.size ≤ q → rm_A ad ct s.heap.size q := fun q h => Or.inr h
  have hS : va_S (rm_A ad ct s.heap.size) s.heap s.heap [] := va_S.rf
  have hent : entryFrame m args 6 = entryFrame m ([.ref (ad 0), .int (jI a9), .int (jI b9), .int (jI c9), .ref (ad 2000)] : List Value).toArray 6 := by rw [hargs]
  have hl := lv_entry ([.ref (ad 0), .int (jI a9), .int (jI b9), .int (jI c9), .ref (ad 2000)]) (n := 6) (Nat.le_of_ble_eq_true rfl)
  rw [hent, lg_entry_eq]
  generalize (lg_sl ([.ref (ad 0), .int (jI a9), .int (jI b9), .int (jI c9), .ref (ad 2000)]) ++ List.replicate (6 - (lg_sl ([.ref (ad 0), .int (jI a9), .int (jI b9), .int (jI c9), .ref (ad 2000)])).length) Slot.unset).toArray = ls at hl ⊢
  have hl : lv_has ls 6 [(0, .ref (ad 0)), (1, .int (jI a9)), (2, .int (jI b9)), (3, .int (jI c9)), (4, .ref (ad 2000))] := hl
  refine lv_aload hx hb dL_tree_0 (lv_at hl 4 rfl) ?_
  refine lv_iconst (v := jI 0) hx hb dL_tree_2 rfl ?_
  refine lv_aload_n hx hb dL_tree_3 rfl (lv_at hl 0 rfl) ?_
  refine lv_iload_n hx hb dL_tree_4 rfl (lv_at hl 1 rfl) ?_
  refine lv_iload_n hx hb dL_tree_5 rfl (lv_at hl 2 rfl) ?_
  refine lv_iload_n hx hb dL_tree_6 rfl (lv_at hl 3 rfl) ?_
  refine xc_i (vx_runV (As := [.int (jI a9), .int (jI b9), .int (jI c9)]) (rest := [.int (jI 0), .ref (ad 2000)]) ⟨hx, hb, hml, hown, hts⟩ hM (cwV 3 hts gL_tree_X5_tree rfl rfl rfl (by decide +kernel) ⟨Nat.le_of_ble_eq_true rfl, Nat.le_of_ble_eq_true rfl⟩) (preVY hK hNw hE hU hW hS hA h0) rfl rfl hl.1 rfl (lv_room (Nat.le_of_ble_eq_true rfl)) dL_tree_7 ⟨Nat.le_of_ble_eq_true rfl, Nat.le_of_ble_eq_true rfl⟩) hW hS hA (fun E c1 ce q9 H locs hp hW hS hce hcv hcl => ?_) (fun z c1 H locs hp hW hS => ?_)
  · rcases hpx E c1 hp with rfl | rfl
    · skip
      refine vx_catch (own := RL) (name := xNSE) hown [] ⟨0, 12, 15, 13⟩ [⟨0, 12, 19, 31⟩] (by rw [htab]; rfl) (fun z hz => absurd hz List.not_mem_nil) rfl (by decide) (hts (.classLink RL 13 "java/util/NoSuchElementException") (by decide +kernel)) (cast_of hE (by decide +kernel)) hce hcv hcl ?_
      refine lv_astore (lv' := [(5, .ref q9), (0, .ref (ad 0)), (1, .int (jI a9)), (2, .int (jI b9)), (3, .int (jI c9)), (4, .ref (ad 2000))]) hx hb dL_tree_15 hl (by decide) rfl (fun ls hl => ?_)
      refine lv_iconst (v := jI 1) hx hb dL_tree_17 rfl ?_
      refine vx_ret ?_
      refine W.widen (k := 3) (n := 18) (by omega) (by omega) ?_
      exact W.iret hx hb hr (fun t ht hw => ⟨⟨_, (1, (glue c1 ct)), rfl, ⟨rfl, Or.inr (Or.inl (⟨rfl, c1, hp, fun q => rfl⟩))⟩, by show rm_W D ad _ _ t.heap; rw [ht]; exact hW⟩, hS.F ht⟩) hS.2.2 dL_tree_18
    · skip
      refine vx_catch (own := RL) (name := xISE) hown [⟨0, 12, 15, 13⟩] ⟨0, 12, 19, 31⟩ [] (by rw [htab]; rfl) (fun z hz => by
        obtain rfl := List.mem_singleton.mp hz
        exact Or.inr ⟨by decide, xNSE, hts (.classLink RL 13 "java/util/NoSuchElementException") (by decide +kernel), hX2.1⟩) rfl (by decide) (hts (.classLink RL 31 "java/lang/IllegalStateException") (by decide +kernel)) (cast_of hE (by decide +kernel)) hce hcv hcl ?_
      refine lv_astore (lv' := [(5, .ref q9), (0, .ref (ad 0)), (1, .int (jI a9)), (2, .int (jI b9)), (3, .int (jI c9)), (4, .ref (ad 2000))]) hx hb dL_tree_19 hl (by decide) rfl (fun ls hl => ?_)
      refine lv_iconst (v := jI 2) hx hb dL_tree_21 rfl ?_
      refine vx_ret ?_
      refine W.widen (k := 3) (n := 18) (by omega) (by omega) ?_
      exact W.iret hx hb hr (fun t ht hw => ⟨⟨_, (2, (glue c1 ct)), rfl, ⟨rfl, Or.inr (Or.inr (⟨rfl, c1, hp, fun q => rfl⟩))⟩, by show rm_W D ad _ _ t.heap; rw [ht]; exact hW⟩, hS.F ht⟩) hS.2.2 dL_tree_22
  · have hz := hpz z c1 hp
    refine rm_i2l hx hb dL_tree_10 hz ?_
    refine rm_last hx hb hK hW hS (f := o) ((glue_hi (by omega)).trans ho) 0 rfl (by omega) (by omega) dL_tree_11 (fun H locs ct2 hs2 ho2 hW hS hz2 => ?_)
    refine lv_goto (tgt := 23) hx hb dL_tree_12 (by decide) ?_
    refine lv_iconst (v := jI 0) hx hb dL_tree_23 rfl ?_
    refine vx_ret ?_
    refine W.widen (k := 3) (n := 18) (by omega) (by omega) ?_
    exact W.iret hx hb hr (fun t ht hw => ⟨⟨_, (0, ct2), rfl, ⟨rfl, Or.inl (⟨rfl, z, c1, hp, hs2, fun q h => ho2 q h⟩)⟩, by show rm_W D ad _ _ t.heap; rw [ht]; exact hW⟩, hS.F ht⟩) hS.2.2 dL_tree_24
set_option maxHeartbeats 4000000 in
set_option maxRecDepth 100000 in
theorem c_L_grow (l : Launch) (D : va_G) (ty : Nat → ClassId) (ad : Nat → Nat) (ct : rm_C) (sz : Nat) (fs : List Value) (o : Nat → Int) (a9 : Int) (b9 : Int) {post : Int → rm_C → Prop} {px : String → rm_C → Prop} (h0 : ct 0 = some (.inr (5, fs))) (ho : ct 2000 = some (rl ty 1 o)) (hM : vx_Met l yX5_grow wsX5_grow ({ frames := 7, cells := 1, slots := 6, locals := 104 }) (rm_PX D ty ad (cutC ct) sz [.ref (ad 0), .int (jI a9), .long (jL b9)]) (rm_Qi D ad (cutC ct) sz post) (rm_XC D ad (cutC ct) sz px) 1 6 (rm_A ad (cutC ct) sz)) (hpz : ∀ z c1, post z c1 → z = 0 ∨ z = 1) (hpx : ∀ E c1, px E c1 → E = xNSE) : vx_Met l yL_grow wsL_grow ({ frames := 8, cells := 1, slots := 6, locals := 129 }) (rm_PY D ty ad ct sz [.ref (ad 0), .int (jI a9), .long (jL b9), .ref (ad 2000)]) (rm_Qi D ad ct sz (fun k ct1 => (k = 0 ∧ ∃ z c1, post z c1 ∧ ct1 2000 = some (rl ty 1 (ub o 0 z)) ∧ ∀ q, q ≠ 2000 → ct1 q = glue c1 ct q) ∨ (k = 1 ∧ ∃ c1, px xNSE c1 ∧ ∀ q, ct1 q = glue c1 ct q))) (rm_XC D ad ct sz (fun _ _ => False)) 1 6 (rm_A ad ct sz) := by
  refine vx_ofWH (cc := cL_grow) (maxL := 6) (ret := (some .int)) (hh := [(0, 18, 21, 13)]) (by decide) rfl ?_
  intro p e s m args below meth c s₁ B hml hv
  obtain ⟨hargs, ⟨⟨hsz, hW, hK, hNw⟩, hE, hU⟩, hX2⟩ := hv
  have hx := B.exec
  have hb := B.bytes
  have hr := B.returns
  have hts := atoms_spec (ws := wsL_grow) B.pre
  have hown : s.vm.findClass RL = some m.cls := findClass_of_methodNamed B.named
  have hlocks := B.notSynchronized
  have htab := vx_table (x := yL_grow) B (hts (.codeWith yL_grow cL_grow 6 (some .int) [(0, 18, 21, 13)]) List.mem_cons_self)
  subst hsz
  have hW := hW.own (sz := s.heap.size)
  have hA : ∀ q : Nat, s.heap.size ≤ q → rm_A ad ct s.heap.size q := fun q h => Or.inr h
  have hS : va_S (rm_A ad ct s.heap.size) s.heap s.heap [] := va_S.rf
  have hent : entryFrame m args 6 = entryFrame m ([.ref (ad 0), .int (jI a9), .long (jL b9), .ref (ad 2000)] : List Value).toArray 6 := by rw [hargs]
  have hl := lv_entry ([.ref (ad 0), .int (jI a9), .long (jL b9), .ref (ad 2000)]) (n := 6) (Nat.le_of_ble_eq_true rfl)
  rw [hent, lg_entry_eq]
  generalize (lg_sl ([.ref (ad 0), .int (jI a9), .long (jL b9), .ref (ad 2000)]) ++ List.replicate (6 - (lg_sl ([.ref (ad 0), .int (jI a9), .long (jL b9), .ref (ad 2000)])).length) Slot.unset).toArray = ls at hl ⊢
  have hl : lv_has ls 6 [(0, .ref (ad 0)), (1, .int (jI a9)), (2, .long (jL b9)), (4, .ref (ad 2000))] := hl
  refine lv_aload hx hb dL_grow_0 (lv_at hl 3 rfl) ?_
  refine lv_iconst (v := jI 0) hx hb dL_grow_2 rfl ?_
  refine lv_aload_n hx hb dL_grow_3 rfl (lv_at hl 0 rfl) ?_
  refine lv_iload_n hx hb dL_grow_4 rfl (lv_at hl 1 rfl) ?_
  refine lv_lload_n hx hb dL_grow_5 rfl (lv_at hl 2 rfl) ?_
  refine xc_i (vx_runV (As := [.int (jI a9), .long (jL b9)]) (rest := [.int (jI 0), .ref (ad 2000)]) ⟨hx, hb, hml, hown, hts⟩ hM (cwV 2 hts gL_grow_X5_grow rfl rfl rfl (by decide +kernel) ⟨Nat.le_of_ble_eq_true rfl, Nat.le_of_ble_eq_true rfl⟩) (preVY hK hNw hE hU hW hS hA h0) rfl rfl hl.1 rfl (lv_room (Nat.le_of_ble_eq_true rfl)) dL_grow_6 ⟨Nat.le_of_ble_eq_true rfl, Nat.le_of_ble_eq_true rfl⟩) hW hS hA (fun E c1 ce q9 H locs hp hW hS hce hcv hcl => ?_) (fun z c1 H locs hp hW hS => ?_)
  · obtain rfl := hpx E c1 hp
    refine vx_catch (own := RL) (name := xNSE) hown [] ⟨0, 18, 21, 13⟩ [] (by rw [htab]; rfl) (fun z hz => absurd hz List.not_mem_nil) rfl (by decide) (hts (.classLink RL 13 "java/util/NoSuchElementException") (by decide +kernel)) (cast_of hE (by decide +kernel)) hce hcv hcl ?_
    refine lv_astore (lv' := [(5, .ref q9), (0, .ref (ad 0)), (1, .int (jI a9)), (2, .long (jL b9)), (4, .ref (ad 2000))]) hx hb dL_grow_21 hl (by decide) rfl (fun ls hl => ?_)
    refine lv_iconst (v := jI 1) hx hb dL_grow_23 rfl ?_
    refine vx_ret ?_
    refine W.widen (k := 1) (n := 6) (by omega) (by omega) ?_
    exact W.iret hx hb hr (fun t ht hw => ⟨⟨_, (1, (glue c1 ct)), rfl, ⟨rfl, Or.inr (⟨rfl, c1, hp, fun q => rfl⟩)⟩, by show rm_W D ad _ _ t.heap; rw [ht]; exact hW⟩, hS.F ht⟩) hS.2.2 dL_grow_24
  · rcases hpz z c1 hp with hz | hz
    · subst hz
      refine rm_if_eq (tgt := 16) hx hb r32_0 dL_grow_9 (by decide) (fun _ => ?_) (fun hq => absurd rfl hq)
      refine lv_lconst (v := jL 0) hx hb dL_grow_16 rfl ?_
      refine rm_last hx hb hK hW hS (f := o) ((glue_hi (by omega)).trans ho) 0 rfl (by omega) (by omega) dL_grow_17 (fun H locs ct2 hs2 ho2 hW hS hz2 => ?_)
      refine lv_goto (tgt := 25) hx hb dL_grow_18 (by decide) ?_
      refine lv_iconst (v := jI 0) hx hb dL_grow_25 rfl ?_
      refine vx_ret ?_
      refine W.widen (k := 1) (n := 6) (by omega) (by omega) ?_
      exact W.iret hx hb hr (fun t ht hw => ⟨⟨_, (0, ct2), rfl, ⟨rfl, Or.inl (⟨rfl, 0, c1, hp, hs2, fun q h => ho2 q h⟩)⟩, by show rm_W D ad _ _ t.heap; rw [ht]; exact hW⟩, hS.F ht⟩) hS.2.2 dL_grow_26
    · subst hz
      refine rm_if_eq (tgt := 16) hx hb ⟨by omega, by omega⟩ dL_grow_9 (by decide) (fun hq => absurd hq (by decide)) (fun _ => ?_)
      refine lv_lconst (v := jL 1) hx hb dL_grow_12 rfl ?_
      refine lv_goto (tgt := 17) hx hb dL_grow_13 (by decide) ?_
      refine rm_last hx hb hK hW hS (f := o) ((glue_hi (by omega)).trans ho) 0 rfl (by omega) (by omega) dL_grow_17 (fun H locs ct2 hs2 ho2 hW hS hz2 => ?_)
      refine lv_goto (tgt := 25) hx hb dL_grow_18 (by decide) ?_
      refine lv_iconst (v := jI 0) hx hb dL_grow_25 rfl ?_
      refine vx_ret ?_
      refine W.widen (k := 1) (n := 6) (by omega) (by omega) ?_
      exact W.iret hx hb hr (fun t ht hw => ⟨⟨_, (0, ct2), rfl, ⟨rfl, Or.inl (⟨rfl, 1, c1, hp, hs2, fun q h => ho2 q h⟩)⟩, by show rm_W D ad _ _ t.heap; rw [ht]; exact hW⟩, hS.F ht⟩) hS.2.2 dL_grow_26
set_option maxHeartbeats 4000000 in
set_option maxRecDepth 100000 in
theorem c_L_count (l : Launch) (D : va_G) (ty : Nat → ClassId) (ad : Nat → Nat) (ct : rm_C) (sz : Nat) (fs : List Value) (o : Nat → Int) (a9 : Int) {post : Int → rm_C → Prop} {px : String → rm_C → Prop} (h0 : ct 0 = some (.inr (5, fs))) (ho : ct 2000 = some (rl ty 1 o)) (hM : vx_Met l yX5_count wsX5_count ({ frames := 6, cells := 1, slots := 6, locals := 82 }) (rm_PX D ty ad (cutC ct) sz [.ref (ad 0), .int (jI a9)]) (rm_Qi D ad (cutC ct) sz post) (rm_XC D ad (cutC ct) sz px) 1 6 (rm_A ad (cutC ct) sz)) (hpz : ∀ z c1, post z c1 → r32 z) (hpx : ∀ E c1, px E c1 → E = xNSE) : vx_Met l yL_count wsL_count ({ frames := 7, cells := 1, slots := 6, locals := 103 }) (rm_PY D ty ad ct sz [.ref (ad 0), .int (jI a9), .ref (ad 2000)]) (rm_Qi D ad ct sz (fun k ct1 => (k = 0 ∧ ∃ z c1, post z c1 ∧ ct1 2000 = some (rl ty 1 (ub o 0 z)) ∧ ∀ q, q ≠ 2000 → ct1 q = glue c1 ct q) ∨ (k = 1 ∧ ∃ c1, px xNSE c1 ∧ ∀ q, ct1 q = glue c1 ct q))) (rm_XC D ad ct sz (fun _ _ => False)) 1 6 (rm_A ad ct sz) := by
  refine vx_ofWH (cc := cL_count) (maxL := 4) (ret := (some .int)) (hh := [(0, 9, 12, 13)]) (by decide) rfl ?_
  intro p e s m args below meth c s₁ B hml hv
  obtain ⟨hargs, ⟨⟨hsz, hW, hK, hNw⟩, hE, hU⟩, hX2⟩ := hv
  have hx := B.exec
  have hb := B.bytes
  have hr := B.returns
  have hts := atoms_spec (ws := wsL_count) B.pre
  have hown : s.vm.findClass RL = some m.cls := findClass_of_methodNamed B.named
  have hlocks := B.notSynchronized
  have htab := vx_table (x := yL_count) B (hts (.codeWith yL_count cL_count 4 (some .int) [(0, 9, 12, 13)]) List.mem_cons_self)
  subst hsz
  have hW := hW.own (sz := s.heap.size)
  have hA : ∀ q : Nat, s.heap.size ≤ q → rm_A ad ct s.heap.size q := fun q h => Or.inr h
  have hS : va_S (rm_A ad ct s.heap.size) s.heap s.heap [] := va_S.rf
  have hent : entryFrame m args 4 = entryFrame m ([.ref (ad 0), .int (jI a9), .ref (ad 2000)] : List Value).toArray 4 := by rw [hargs]
  have hl := lv_entry ([.ref (ad 0), .int (jI a9), .ref (ad 2000)]) (n := 4) (Nat.le_of_ble_eq_true rfl)
  rw [hent, lg_entry_eq]
  generalize (lg_sl ([.ref (ad 0), .int (jI a9), .ref (ad 2000)]) ++ List.replicate (4 - (lg_sl ([.ref (ad 0), .int (jI a9), .ref (ad 2000)])).length) Slot.unset).toArray = ls at hl ⊢
  have hl : lv_has ls 4 [(0, .ref (ad 0)), (1, .int (jI a9)), (2, .ref (ad 2000))] := hl
  refine lv_aload_n hx hb dL_count_0 rfl (lv_at hl 2 rfl) ?_
  refine lv_iconst (v := jI 0) hx hb dL_count_1 rfl ?_
  refine lv_aload_n hx hb dL_count_2 rfl (lv_at hl 0 rfl) ?_
  refine lv_iload_n hx hb dL_count_3 rfl (lv_at hl 1 rfl) ?_
  refine xc_i (vx_runV (As := [.int (jI a9)]) (rest := [.int (jI 0), .ref (ad 2000)]) ⟨hx, hb, hml, hown, hts⟩ hM (cwV 1 hts gL_count_X5_count rfl rfl rfl (by decide +kernel) ⟨Nat.le_of_ble_eq_true rfl, Nat.le_of_ble_eq_true rfl⟩) (preVY hK hNw hE hU hW hS hA h0) rfl rfl hl.1 rfl (lv_room (Nat.le_of_ble_eq_true rfl)) dL_count_4 ⟨Nat.le_of_ble_eq_true rfl, Nat.le_of_ble_eq_true rfl⟩) hW hS hA (fun E c1 ce q9 H locs hp hW hS hce hcv hcl => ?_) (fun z c1 H locs hp hW hS => ?_)
  · obtain rfl := hpx E c1 hp
    refine vx_catch (own := RL) (name := xNSE) hown [] ⟨0, 9, 12, 13⟩ [] (by rw [htab]; rfl) (fun z hz => absurd hz List.not_mem_nil) rfl (by decide) (hts (.classLink RL 13 "java/util/NoSuchElementException") (by decide +kernel)) (cast_of hE (by decide +kernel)) hce hcv hcl ?_
    refine lv_astore_n (lv' := [(3, .ref q9), (0, .ref (ad 0)), (1, .int (jI a9)), (2, .ref (ad 2000))]) hx hb dL_count_12 rfl hl (by decide) rfl (fun ls hl => ?_)
    refine lv_iconst (v := jI 1) hx hb dL_count_13 rfl ?_
    refine vx_ret ?_
    refine W.widen (k := 1) (n := 6) (by omega) (by omega) ?_
    exact W.iret hx hb hr (fun t ht hw => ⟨⟨_, (1, (glue c1 ct)), rfl, ⟨rfl, Or.inr (⟨rfl, c1, hp, fun q => rfl⟩)⟩, by show rm_W D ad _ _ t.heap; rw [ht]; exact hW⟩, hS.F ht⟩) hS.2.2 dL_count_14
  · have hz := hpz z c1 hp
    refine rm_i2l hx hb dL_count_7 hz ?_
    refine rm_last hx hb hK hW hS (f := o) ((glue_hi (by omega)).trans ho) 0 rfl (by omega) (by omega) dL_count_8 (fun H locs ct2 hs2 ho2 hW hS hz2 => ?_)
    refine lv_goto (tgt := 15) hx hb dL_count_9 (by decide) ?_
    refine lv_iconst (v := jI 0) hx hb dL_count_15 rfl ?_
    refine vx_ret ?_
    refine W.widen (k := 1) (n := 6) (by omega) (by omega) ?_
    exact W.iret hx hb hr (fun t ht hw => ⟨⟨_, (0, ct2), rfl, ⟨rfl, Or.inl (⟨rfl, z, c1, hp, hs2, fun q h => ho2 q h⟩)⟩, by show rm_W D ad _ _ t.heap; rw [ht]; exact hW⟩, hS.F ht⟩) hS.2.2 dL_count_16
end Wrappers
