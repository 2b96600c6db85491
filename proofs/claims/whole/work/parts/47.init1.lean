set_option maxHeartbeats 4000000 in
set_option maxRecDepth 100000 in
theorem c_X0_init (l : Launch) (D : va_G) (ty : Nat → ClassId) (ad : Nat → Nat) (ct : rm_C) (sz : Nat) (fo : Nat) (hno0 : ∀ j, fo < j → j ≤ fo + 1 → ct j = none) (had0 : ad (fo + 1) = sz) (hO : ct fo = some (.inr (0, [.null]))) : Met l yX0_init wsX0_init ({ frames := 1, cells := 1, slots := 8, locals := 30 }) (rm_P D ty ad ct sz [.ref (ad fo)]) (rm_Qv D ad ct sz 1 (fun ct1 => ct1 fo = some (.inr (0, [.ref (ad (fo + 1))])) ∧ ct1 (fo + 1) = some (ri ty 8 (fun _ => 0)) ∧ ∀ q, (q < fo ∨ fo + 1 < q) → ct1 q = ct q)) 1 8 (rm_A ad ct sz) := by
  refine Met.ofW (cc := cX0_init) (maxL := 1) (ret := none) (by decide) rfl ?_
  intro p e s m args below meth c s₁ B hml hv
  obtain ⟨hargs, hsz, hW, hK, hNw⟩ := hv
  have hx := B.exec
  have hb := B.bytes
  have hr := B.returns
  have hts := atoms_spec (ws := wsX0_init) B.pre
  have hown : s.vm.findClass RX0 = some m.cls := findClass_of_methodNamed B.named
  have hlocks := B.notSynchronized
  have hin : meth.name = "<init>" := (name_of_methodNamed B.named B.method).1
  subst hsz
  have hW := hW.own (sz := s.heap.size)
  have hA : ∀ q : Nat, s.heap.size ≤ q → rm_A ad ct s.heap.size q := fun q h => Or.inr h
  have hS : va_S (rm_A ad ct s.heap.size) s.heap s.heap [] := va_S.rf
  have hent : entryFrame m args 1 = entryFrame m ([.ref (ad fo)] : List Value).toArray 1 := by rw [hargs]
  have hl := lv_entry ([.ref (ad fo)]) (n := 1) (Nat.le_of_ble_eq_true rfl)
  rw [hent, lg_entry_eq]
  generalize (lg_sl ([.ref (ad fo)]) ++ List.replicate (1 - (lg_sl ([.ref (ad fo)])).length) Slot.unset).toArray = ls at hl ⊢
  have hl : lv_has ls 1 [(0, .ref (ad fo))] := hl
  have hab1_0 : ct (fo + 1) = none := hno0 _ (by omega) (by omega)
  refine lv_aload_n hx hb dX0_init_0 rfl (lv_at hl 0 rfl) ?_
  refine W.objInit (g := F0 m 1 ls [.ref (ad fo)]) hx hb hown (hts (.methodLink RX0 3 Lib.objectInit) (by decide +kernel)) (hts (.instanceMethod Lib.objectInit) (by decide +kernel)) (hts (.code Lib.objectInit ⟨#[0xb1]⟩ 1 none) (by decide +kernel)) rfl (hl.1.trans hml.symm) rfl dX0_init_1 (Nat.le_of_ble_eq_true rfl) (Nat.le_of_ble_eq_true rfl) ?_
  show W p l e _ s m args below meth c _ _ _ _ _ (F0 m 4 ls [])
  refine lv_aload_n hx hb dX0_init_4 rfl (lv_at hl 0 rfl) ?_
  refine lv_bipush (v := jI 8) hx hb dX0_init_5 (by decide) ?_
  have hno_1 : ct (fo + 1) = none := hab1_0
  refine rm_newA (atype := .int) (fty := .int) (k := 0) (N' := 8) (a0 := (8, .inl (fun _ => jI 0))) hx hb (hts (.arrayClass .int) (by decide +kernel)) rfl hK hW hS hA rfl (fun _ h9 => by cases h9) (fun _ => rfl) rfl (by decide) (by decide) (fo + 1) hno_1 (had0) (Nat.le_of_ble_eq_true rfl) (Nat.le_of_ble_eq_true rfl) dX0_init_7 (fun H ct_1 hs_1 ho_1 hW hS hz_1 => ?_)
  have hs_1 : ct_1 (fo + 1) = some (ri ty 8 (fun _ => (0 : Int))) := hs_1
  have hof_1 : ∀ q, q ≠ fo → q ≠ (fo + 1) → ct_1 q = ct q := fun q h0_1 h1_1 => (ho_1 q h1_1).trans rfl
  have hm0_1 : ct_1 fo = some (.inr (0, [.null]) : va_E) := (ho_1 fo (by omega)).trans hO
  refine rm_putF (ci := 0) (v := .ref (ad (fo + 1))) (fty := .array .int) (C := RX0) (T := TX0) (N := 1) hx hb hts (by decide +kernel) tyX0 tyX0_ok nmX0 hown hK hW hS hm0_1 rfl 0 (by decide) (hts (.fieldLink RX0 9 "GrainYard$Fire" "rounds" "[I") (by decide +kernel)) (fun _ h9 => h9) rfl hin rfl (by decide +kernel) rfl rfl (Nat.le_of_ble_eq_true rfl) dX0_init_9 (fun H locs ct_2 hs_2 ho_2 hW hS hz_2 => ?_)
  have hs_2 : ct_2 fo = some (.inr (0, [.ref (ad (fo + 1))]) : va_E) := hs_2
  have hof_2 : ∀ q, q ≠ fo → q ≠ (fo + 1) → ct_2 q = ct q := fun q h0_2 h1_2 => (ho_2 q h0_2).trans (hof_1 q h0_2 h1_2)
  have hm1_2 : ct_2 (fo + 1) = some (ri ty 8 (fun _ => (0 : Int))) := (ho_2 (fo + 1) (by omega)).trans hs_1
  refine W.widen (k := 1) (n := 8) (by omega) (by omega) ?_
  exact W.vret hx hb hr (fun t ht hw => ⟨⟨ct_2, rfl, ⟨hs_2, hm1_2, fun q hq => hof_2 q (by omega) (by omega)⟩, by show rm_W D ad _ _ t.heap; rw [ht]; exact hW, Or.inr (by rw [ht]; omega)⟩, hS.F ht⟩) hS.2.2 dX0_init_12
set_option maxHeartbeats 4000000 in
set_option maxRecDepth 100000 in
theorem c_X1_init (l : Launch) (D : va_G) (ty : Nat → ClassId) (ad : Nat → Nat) (ct : rm_C) (sz : Nat) (hp yr : Nat) (hno0 : ∀ j, hp < j → j ≤ hp + 2 → ct j = none) (had0 : ad (hp + 1) = sz) (had1 : ad (hp + 2) = sz + 1) (hO : ct hp = some (.inr (1, [.null, .null, .null]))) : Met l yX1_init wsX1_init ({ frames := 1, cells := 2, slots := 16, locals := 30 }) (rm_P D ty ad ct sz [.ref (ad hp), .ref (ad yr)]) (rm_Qv D ad ct sz 2 (fun ct1 => HeapAt ty ad ct1 hp yr (fun _ => 0) (fun _ => 0) ∧ ∀ q, (q < hp ∨ hp + 2 < q) → ct1 q = ct q)) 2 16 (rm_A ad ct sz) := by
  refine Met.ofW (cc := cX1_init) (maxL := 2) (ret := none) (by decide) rfl ?_
  intro p e s m args below meth c s₁ B hml hv
  obtain ⟨hargs, hsz, hW, hK, hNw⟩ := hv
  have hx := B.exec
  have hb := B.bytes
  have hr := B.returns
  have hts := atoms_spec (ws := wsX1_init) B.pre
  have hown : s.vm.findClass RX1 = some m.cls := findClass_of_methodNamed B.named
  have hlocks := B.notSynchronized
  have hin : meth.name = "<init>" := (name_of_methodNamed B.named B.method).1
  subst hsz
  have hW := hW.own (sz := s.heap.size)
  have hA : ∀ q : Nat, s.heap.size ≤ q → rm_A ad ct s.heap.size q := fun q h => Or.inr h
  have hS : va_S (rm_A ad ct s.heap.size) s.heap s.heap [] := va_S.rf
  have hent : entryFrame m args 2 = entryFrame m ([.ref (ad hp), .ref (ad yr)] : List Value).toArray 2 := by rw [hargs]
  have hl := lv_entry ([.ref (ad hp), .ref (ad yr)]) (n := 2) (Nat.le_of_ble_eq_true rfl)
  rw [hent, lg_entry_eq]
  generalize (lg_sl ([.ref (ad hp), .ref (ad yr)]) ++ List.replicate (2 - (lg_sl ([.ref (ad hp), .ref (ad yr)])).length) Slot.unset).toArray = ls at hl ⊢
  have hl : lv_has ls 2 [(0, .ref (ad hp)), (1, .ref (ad yr))] := hl
  have hab1_0 : ct (hp + 1) = none := hno0 _ (by omega) (by omega)
  have hab2_0 : ct (hp + 2) = none := hno0 _ (by omega) (by omega)
  refine lv_aload_n hx hb dX1_init_0 rfl (lv_at hl 0 rfl) ?_
  refine W.objInit (g := F0 m 1 ls [.ref (ad hp)]) hx hb hown (hts (.methodLink RX1 3 Lib.objectInit) (by decide +kernel)) (hts (.instanceMethod Lib.objectInit) (by decide +kernel)) (hts (.code Lib.objectInit ⟨#[0xb1]⟩ 1 none) (by decide +kernel)) rfl (hl.1.trans hml.symm) rfl dX1_init_1 (Nat.le_of_ble_eq_true rfl) (Nat.le_of_ble_eq_true rfl) ?_
  show W p l e _ s m args below meth c _ _ _ _ _ (F0 m 4 ls [])
  refine lv_aload_n hx hb dX1_init_4 rfl (lv_at hl 0 rfl) ?_
  refine lv_aload_n hx hb dX1_init_5 rfl (lv_at hl 1 rfl) ?_
  refine rm_putF (ci := 1) (v := .ref (ad yr)) (fty := .object "GrainYard$Yard") (C := RX1) (T := TX1) (N := 3) hx hb hts (by decide +kernel) tyX1 tyX1_ok nmX1 hown hK hW hS hO rfl 0 (by decide) (hts (.fieldLink RX1 9 "GrainYard$Heap" "yard" "LGrainYard$Yard;") (by decide +kernel)) (fun _ h9 => h9) rfl hin rfl (by decide +kernel) rfl rfl (Nat.le_of_ble_eq_true rfl) dX1_init_6 (fun H locs ct_1 hs_1 ho_1 hW hS hz_1 => ?_)
  have hs_1 : ct_1 hp = some (.inr (1, [.ref (ad yr), .null, .null]) : va_E) := hs_1
  have hof_1 : ∀ q, q ≠ hp → q ≠ (hp + 1) → q ≠ (hp + 2) → ct_1 q = ct q := fun q h0_1 h1_1 h2_1 => (ho_1 q h0_1).trans rfl
  have hab0_1 : ct_1 (hp + 1) = none := (ho_1 (hp + 1)  (by omega)).trans hab1_0
  have hab1_1 : ct_1 (hp + 2) = none := (ho_1 (hp + 2)  (by omega)).trans hab2_0
  refine lv_aload_n hx hb dX1_init_9 rfl (lv_at hl 0 rfl) ?_
  refine lv_bipush (v := jI 8) hx hb dX1_init_10 (by decide) ?_
  have hno_2 : ct_1 (hp + 1) = none := hab0_1
  refine rm_newA (atype := .long) (fty := .long) (k := 1) (N' := 8) (a0 := (8, .inr (.inl (fun _ => jL 0)))) hx hb (hts (.arrayClass .long) (by decide +kernel)) rfl hK hW hS hA rfl (fun _ h9 => by cases h9) (fun _ => rfl) rfl (by decide) (by decide) (hp + 1) hno_2 (had0.trans (by omega)) (Nat.le_of_ble_eq_true rfl) (Nat.le_of_ble_eq_true rfl) dX1_init_12 (fun H ct_2 hs_2 ho_2 hW hS hz_2 => ?_)
  have hs_2 : ct_2 (hp + 1) = some (rl ty 8 (fun _ => (0 : Int))) := hs_2
  have hof_2 : ∀ q, q ≠ hp → q ≠ (hp + 1) → q ≠ (hp + 2) → ct_2 q = ct q := fun q h0_2 h1_2 h2_2 => (ho_2 q h1_2).trans (hof_1 q h0_2 h1_2 h2_2)
  have hm0_2 : ct_2 hp = some (.inr (1, [.ref (ad yr), .null, .null]) : va_E) := (ho_2 hp (by omega)).trans hs_1
  have hab0_2 : ct_2 (hp + 2) = none := (ho_2 (hp + 2)  (by omega)).trans hab1_1
  refine rm_putF (ci := 1) (v := .ref (ad (hp + 1))) (fty := .array .long) (C := RX1) (T := TX1) (N := 3) hx hb hts (by decide +kernel) tyX1 tyX1_ok nmX1 hown hK hW hS hm0_2 rfl 1 (by decide) (hts (.fieldLink RX1 15 "GrainYard$Heap" "grains" "[J") (by decide +kernel)) (fun _ h9 => h9) rfl hin rfl (by decide +kernel) rfl rfl (Nat.le_of_ble_eq_true rfl) dX1_init_14 (fun H locs ct_3 hs_3 ho_3 hW hS hz_3 => ?_)
  have hs_3 : ct_3 hp = some (.inr (1, [.ref (ad yr), .ref (ad (hp + 1)), .null]) : va_E) := hs_3
  have hof_3 : ∀ q, q ≠ hp → q ≠ (hp + 1) → q ≠ (hp + 2) → ct_3 q = ct q := fun q h0_3 h1_3 h2_3 => (ho_3 q h0_3).trans (hof_2 q h0_3 h1_3 h2_3)
  have hm1_3 : ct_3 (hp + 1) = some (rl ty 8 (fun _ => (0 : Int))) := (ho_3 (hp + 1) (by omega)).trans hs_2
  have hab0_3 : ct_3 (hp + 2) = none := (ho_3 (hp + 2)  (by omega)).trans hab0_2
  refine lv_aload_n hx hb dX1_init_17 rfl (lv_at hl 0 rfl) ?_
  refine lv_bipush (v := jI 8) hx hb dX1_init_18 (by decide) ?_
  have hno_4 : ct_3 (hp + 2) = none := hab0_3
  refine rm_newA (atype := .long) (fty := .long) (k := 1) (N' := 8) (a0 := (8, .inr (.inl (fun _ => jL 0)))) hx hb (hts (.arrayClass .long) (by decide +kernel)) rfl hK hW hS hA rfl (fun _ h9 => by cases h9) (fun _ => rfl) rfl (by decide) (by decide) (hp + 2) hno_4 (had1.trans (by omega)) (Nat.le_of_ble_eq_true rfl) (Nat.le_of_ble_eq_true rfl) dX1_init_20 (fun H ct_4 hs_4 ho_4 hW hS hz_4 => ?_)
  have hs_4 : ct_4 (hp + 2) = some (rl ty 8 (fun _ => (0 : Int))) := hs_4
  have hof_4 : ∀ q, q ≠ hp → q ≠ (hp + 1) → q ≠ (hp + 2) → ct_4 q = ct q := fun q h0_4 h1_4 h2_4 => (ho_4 q h2_4).trans (hof_3 q h0_4 h1_4 h2_4)
  have hm0_4 : ct_4 hp = some (.inr (1, [.ref (ad yr), .ref (ad (hp + 1)), .null]) : va_E) := (ho_4 hp (by omega)).trans hs_3
  have hm1_4 : ct_4 (hp + 1) = some (rl ty 8 (fun _ => (0 : Int))) := (ho_4 (hp + 1) (by omega)).trans hm1_3
  refine rm_putF (ci := 1) (v := .ref (ad (hp + 2))) (fty := .array .long) (C := RX1) (T := TX1) (N := 3) hx hb hts (by decide +kernel) tyX1 tyX1_ok nmX1 hown hK hW hS hm0_4 rfl 2 (by decide) (hts (.fieldLink RX1 19 "GrainYard$Heap" "falls" "[J") (by decide +kernel)) (fun _ h9 => h9) rfl hin rfl (by decide +kernel) rfl rfl (Nat.le_of_ble_eq_true rfl) dX1_init_22 (fun H locs ct_5 hs_5 ho_5 hW hS hz_5 => ?_)
  have hs_5 : ct_5 hp = some (.inr (1, [.ref (ad yr), .ref (ad (hp + 1)), .ref (ad (hp + 2))]) : va_E) := hs_5
  have hof_5 : ∀ q, q ≠ hp → q ≠ (hp + 1) → q ≠ (hp + 2) → ct_5 q = ct q := fun q h0_5 h1_5 h2_5 => (ho_5 q h0_5).trans (hof_4 q h0_5 h1_5 h2_5)
  have hm1_5 : ct_5 (hp + 1) = some (rl ty 8 (fun _ => (0 : Int))) := (ho_5 (hp + 1) (by omega)).trans hm1_4
  have hm2_5 : ct_5 (hp + 2) = some (rl ty 8 (fun _ => (0 : Int))) := (ho_5 (hp + 2) (by omega)).trans hs_4
  refine W.widen (k := 2) (n := 16) (by omega) (by omega) ?_
  exact W.vret hx hb hr (fun t ht hw => ⟨⟨ct_5, rfl, ⟨⟨hs_5, hm1_5, hm2_5⟩, fun q hq => hof_5 q (by omega) (by omega) (by omega)⟩, by show rm_W D ad _ _ t.heap; rw [ht]; exact hW, Or.inr (by rw [ht]; omega)⟩, hS.F ht⟩) hS.2.2 dX1_init_25
set_option maxHeartbeats 4000000 in
set_option maxRecDepth 100000 in
theorem c_X4_init (l : Launch) (D : va_G) (ty : Nat → ClassId) (ad : Nat → Nat) (ct : rm_C) (sz : Nat) (yr n : Nat) (hno0 : ∀ j, yr < j → j ≤ yr + 10 → ct j = none) (had0 : ∀ j, 1 ≤ j → j ≤ 10 → ad (yr + j) = sz + (j - 1)) (hO : ct yr = some (.inr (4, [.int (jI 0), .null, .null, .int (jI 0)]))) : Met l yX4_init wsX4_init ({ frames := 1, cells := 10, slots := 80, locals := 30 }) (rm_P D ty ad ct sz [.ref (ad yr), .int (jI ((n : Nat) : Int))]) (rm_Qv D ad ct sz 10 (fun ct1 => YardAt ty ad ct1 yr n (fun _ _ => 0) (fun _ => 0) 0 ∧ ∀ q, (q < yr ∨ yr + 10 < q) → ct1 q = ct q)) 10 80 (rm_A ad ct sz) := by
  refine Met.ofW (cc := cX4_init) (maxL := 2) (ret := none) (by decide) rfl ?_
  intro p e s m args below meth c s₁ B hml hv
  obtain ⟨hargs, hsz, hW, hK, hNw⟩ := hv
  have hx := B.exec
  have hb := B.bytes
  have hr := B.returns
  have hts := atoms_spec (ws := wsX4_init) B.pre
  have hown : s.vm.findClass RX4 = some m.cls := findClass_of_methodNamed B.named
  have hlocks := B.notSynchronized
  have hin : meth.name = "<init>" := (name_of_methodNamed B.named B.method).1
  subst hsz
  have hW := hW.own (sz := s.heap.size)
  have hA : ∀ q : Nat, s.heap.size ≤ q → rm_A ad ct s.heap.size q := fun q h => Or.inr h
  have hS : va_S (rm_A ad ct s.heap.size) s.heap s.heap [] := va_S.rf
  have hent : entryFrame m args 2 = entryFrame m ([.ref (ad yr), .int (jI ((n : Nat) : Int))] : List Value).toArray 2 := by rw [hargs]
  have hl := lv_entry ([.ref (ad yr), .int (jI ((n : Nat) : Int))]) (n := 2) (Nat.le_of_ble_eq_true rfl)
  rw [hent, lg_entry_eq]
  generalize (lg_sl ([.ref (ad yr), .int (jI ((n : Nat) : Int))]) ++ List.replicate (2 - (lg_sl ([.ref (ad yr), .int (jI ((n : Nat) : Int))])).length) Slot.unset).toArray = ls at hl ⊢
  have hl : lv_has ls 2 [(0, .ref (ad yr)), (1, .int (jI ((n : Nat) : Int)))] := hl
  have hab1_0 : ct (yr + 1) = none := hno0 _ (by omega) (by omega)
  have hab2_0 : ∀ i9, i9 < 8 → ct (yr + 1 + 1 + i9) = none := fun i9 hi9 => hno0 _ (by omega) (by omega)
  have hab3_0 : ct (yr + 10) = none := hno0 _ (by omega) (by omega)
  refine lv_aload_n hx hb dX4_init_0 rfl (lv_at hl 0 rfl) ?_
  refine W.objInit (g := F0 m 1 ls [.ref (ad yr)]) hx hb hown (hts (.methodLink RX4 3 Lib.objectInit) (by decide +kernel)) (hts (.instanceMethod Lib.objectInit) (by decide +kernel)) (hts (.code Lib.objectInit ⟨#[0xb1]⟩ 1 none) (by decide +kernel)) rfl (hl.1.trans hml.symm) rfl dX4_init_1 (Nat.le_of_ble_eq_true rfl) (Nat.le_of_ble_eq_true rfl) ?_
  show W p l e _ s m args below meth c _ _ _ _ _ (F0 m 4 ls [])
  refine lv_aload_n hx hb dX4_init_4 rfl (lv_at hl 0 rfl) ?_
  refine lv_iload_n hx hb dX4_init_5 rfl (lv_at hl 1 rfl) ?_
  refine rm_putF (ci := 4) (v := .int (jI ((n : Nat) : Int))) (fty := .int) (C := RX4) (T := TX4) (N := 4) hx hb hts (by decide +kernel) tyX4 tyX4_ok nmX4 hown hK hW hS hO rfl 0 (by decide) (hts (.fieldLink RX4 9 "GrainYard$Yard" "places" "I") (by decide +kernel)) (fun _ h9 => h9) rfl hin rfl (by decide +kernel) rfl rfl (Nat.le_of_ble_eq_true rfl) dX4_init_6 (fun H locs ct_1 hs_1 ho_1 hW hS hz_1 => ?_)
  have hs_1 : ct_1 yr = some (.inr (4, [.int (jI ((n : Nat) : Int)), .null, .null, .int (jI 0)]) : va_E) := hs_1
  have hof_1 : ∀ q, q ≠ yr → q ≠ (yr + 1) → (q < yr + 1 + 1 ∨ yr + 1 + 1 + 7 < q) → q ≠ (yr + 10) → ct_1 q = ct q := fun q h0_1 h1_1 h2_1 h3_1 => (ho_1 q h0_1).trans rfl
  have hab0_1 : ct_1 (yr + 1) = none := (ho_1 (yr + 1)  (by omega)).trans hab1_0
  have hab1_1 : ∀ i9, i9 < 8 → ct_1 (yr + 1 + 1 + i9) = none := fun i9 hi9 => (ho_1 _  (by omega)).trans (hab2_0 i9 hi9)
  have hab2_1 : ct_1 (yr + 10) = none := (ho_1 (yr + 10)  (by omega)).trans hab3_0
  refine lv_aload_n hx hb dX4_init_9 rfl (lv_at hl 0 rfl) ?_
  refine lv_bipush (v := jI 8) hx hb dX4_init_10 (by decide) ?_
  refine lv_bipush (v := jI 8) hx hb dX4_init_12 (by decide) ?_
  have hno_2 : ∀ k, k ≤ 8 → ct_1 ((yr + 1) + k) = none := fun k h9 => by
    by_cases e9 : k = 0
    · rw [e9]; exact hab0_1
    · rw [show (yr + 1) + k = yr + 1 + 1 + (k - 1) by omega]; exact hab1_1 (k - 1) (by omega)
  refine rm_mna (fty := .int) (ko := 5) (ki := 0) (N' := 8) (K' := 8) (a0 := (8, .inl (fun _ => jI 0))) hx hb hown (hts (.classLink RX4 15 "[[I") (by decide +kernel)) (va_AOA.use hNw.2.2.2.2.1) (hts (.arrayClass .int) (by decide +kernel)) hK hW hS hA rfl rfl (fun _ h9 => by cases h9) rfl rfl (by decide) (by decide) (by decide) (by decide) (by decide) (by decide) (by decide) (yr + 1) hno_2 (fun k h9 => by have h8 := had0 (1 + k) (by omega) (by omega); rw [show yr + 1 + k = yr + (1 + k) by omega, h8]; omega) (Nat.le_of_ble_eq_true rfl) (Nat.le_of_ble_eq_true rfl) (fun _ => rfl) dX4_init_14 (fun H ct_2 hs_2 hi_2 ho_2 hW hS hz_2 => ?_)
  have ho_2 : ∀ q, q ≠ (yr + 1) → (q < yr + 1 + 1 ∨ yr + 1 + 1 + 7 < q) → ct_2 q = ct_1 q := fun q h1 h2 => ho_2 q (by omega)
  have hof_2 : ∀ q, q ≠ yr → q ≠ (yr + 1) → (q < yr + 1 + 1 ∨ yr + 1 + 1 + 7 < q) → q ≠ (yr + 10) → ct_2 q = ct q := fun q h0_2 h1_2 h2_2 h3_2 => (ho_2 q h1_2 h2_2).trans (hof_1 q h0_2 h1_2 h2_2 h3_2)
  have hm0_2 : ct_2 yr = some (.inr (4, [.int (jI ((n : Nat) : Int)), .null, .null, .int (jI 0)]) : va_E) := (ho_2 yr (by omega) (by omega)).trans hs_1
  have hm1_2 : ct_2 (yr + 1) = some (rq ty 5 8 (fun i => if i < 8 then some (ad (yr + 1 + 1 + i)) else none)) := hs_2
  have hm2_2 : ∀ i9, i9 < 8 → ct_2 (yr + 1 + 1 + i9) = some (ri ty 8 ((fun _ _ => (0 : Int)) i9)) := hi_2
  have hab0_2 : ct_2 (yr + 10) = none := (ho_2 (yr + 10) (by omega) (by omega)).trans hab2_1
  refine rm_putF (ci := 4) (v := .ref (ad (yr + 1))) (fty := .array (.array .int)) (C := RX4) (T := TX4) (N := 4) hx hb hts (by decide +kernel) tyX4 tyX4_ok nmX4 hown hK hW hS hm0_2 rfl 1 (by decide) (hts (.fieldLink RX4 17 "GrainYard$Yard" "paths" "[[I") (by decide +kernel)) (fun _ h9 => h9) rfl hin rfl (by decide +kernel) rfl rfl (Nat.le_of_ble_eq_true rfl) dX4_init_18 (fun H locs ct_3 hs_3 ho_3 hW hS hz_3 => ?_)
  have hs_3 : ct_3 yr = some (.inr (4, [.int (jI ((n : Nat) : Int)), .ref (ad (yr + 1)), .null, .int (jI 0)]) : va_E) := hs_3
  have hof_3 : ∀ q, q ≠ yr → q ≠ (yr + 1) → (q < yr + 1 + 1 ∨ yr + 1 + 1 + 7 < q) → q ≠ (yr + 10) → ct_3 q = ct q := fun q h0_3 h1_3 h2_3 h3_3 => (ho_3 q h0_3).trans (hof_2 q h0_3 h1_3 h2_3 h3_3)
  have hm1_3 : ct_3 (yr + 1) = some (rq ty 5 8 (fun i => if i < 8 then some (ad (yr + 1 + 1 + i)) else none)) := (ho_3 (yr + 1) (by omega)).trans hm1_2
  have hm2_3 : ∀ i9, i9 < 8 → ct_3 (yr + 1 + 1 + i9) = some (ri ty 8 ((fun _ _ => (0 : Int)) i9)) := fun i9 hi9 => (ho_3 _ (by omega)).trans (hm2_2 i9 hi9)
  have hab0_3 : ct_3 (yr + 10) = none := (ho_3 (yr + 10)  (by omega)).trans hab0_2
  refine lv_aload_n hx hb dX4_init_21 rfl (lv_at hl 0 rfl) ?_
  refine lv_bipush (v := jI 8) hx hb dX4_init_22 (by decide) ?_
  have hno_4 : ct_3 (yr + 10) = none := hab0_3
  refine rm_newA (atype := .int) (fty := .int) (k := 0) (N' := 8) (a0 := (8, .inl (fun _ => jI 0))) hx hb (hts (.arrayClass .int) (by decide +kernel)) rfl hK hW hS hA rfl (fun _ h9 => by cases h9) (fun _ => rfl) rfl (by decide) (by decide) (yr + 10) hno_4 (by rw [had0 10 (by omega) (by omega)]; omega) (Nat.le_of_ble_eq_true rfl) (Nat.le_of_ble_eq_true rfl) dX4_init_24 (fun H ct_4 hs_4 ho_4 hW hS hz_4 => ?_)
  have hs_4 : ct_4 (yr + 10) = some (ri ty 8 (fun _ => (0 : Int))) := hs_4
  have hof_4 : ∀ q, q ≠ yr → q ≠ (yr + 1) → (q < yr + 1 + 1 ∨ yr + 1 + 1 + 7 < q) → q ≠ (yr + 10) → ct_4 q = ct q := fun q h0_4 h1_4 h2_4 h3_4 => (ho_4 q h3_4).trans (hof_3 q h0_4 h1_4 h2_4 h3_4)
  have hm0_4 : ct_4 yr = some (.inr (4, [.int (jI ((n : Nat) : Int)), .ref (ad (yr + 1)), .null, .int (jI 0)]) : va_E) := (ho_4 yr (by omega)).trans hs_3
  have hm1_4 : ct_4 (yr + 1) = some (rq ty 5 8 (fun i => if i < 8 then some (ad (yr + 1 + 1 + i)) else none)) := (ho_4 (yr + 1) (by omega)).trans hm1_3
  have hm2_4 : ∀ i9, i9 < 8 → ct_4 (yr + 1 + 1 + i9) = some (ri ty 8 ((fun _ _ => (0 : Int)) i9)) := fun i9 hi9 => (ho_4 _ (by omega)).trans (hm2_3 i9 hi9)
  refine rm_putF (ci := 4) (v := .ref (ad (yr + 10))) (fty := .array .int) (C := RX4) (T := TX4) (N := 4) hx hb hts (by decide +kernel) tyX4 tyX4_ok nmX4 hown hK hW hS hm0_4 rfl 2 (by decide) (hts (.fieldLink RX4 20 "GrainYard$Yard" "degrees" "[I") (by decide +kernel)) (fun _ h9 => h9) rfl hin rfl (by decide +kernel) rfl rfl (Nat.le_of_ble_eq_true rfl) dX4_init_26 (fun H locs ct_5 hs_5 ho_5 hW hS hz_5 => ?_)
  have hs_5 : ct_5 yr = some (.inr (4, [.int (jI ((n : Nat) : Int)), .ref (ad (yr + 1)), .ref (ad (yr + 10)), .int (jI 0)]) : va_E) := hs_5
  have hof_5 : ∀ q, q ≠ yr → q ≠ (yr + 1) → (q < yr + 1 + 1 ∨ yr + 1 + 1 + 7 < q) → q ≠ (yr + 10) → ct_5 q = ct q := fun q h0_5 h1_5 h2_5 h3_5 => (ho_5 q h0_5).trans (hof_4 q h0_5 h1_5 h2_5 h3_5)
  have hm1_5 : ct_5 (yr + 1) = some (rq ty 5 8 (fun i => if i < 8 then some (ad (yr + 1 + 1 + i)) else none)) := (ho_5 (yr + 1) (by omega)).trans hm1_4
  have hm2_5 : ∀ i9, i9 < 8 → ct_5 (yr + 1 + 1 + i9) = some (ri ty 8 ((fun _ _ => (0 : Int)) i9)) := fun i9 hi9 => (ho_5 _ (by omega)).trans (hm2_4 i9 hi9)
  have hm3_5 : ct_5 (yr + 10) = some (ri ty 8 (fun _ => (0 : Int))) := (ho_5 (yr + 10) (by omega)).trans hs_4
  refine lv_aload_n hx hb dX4_init_29 rfl (lv_at hl 0 rfl) ?_
  refine lv_iconst (v := jI 0) hx hb dX4_init_30 rfl ?_
  refine rm_put (ci := 4) (v := .int (jI 0)) (fty := .boolean) (C := RX4) (T := TX4) (N := 4) hx hb hts (by decide +kernel) tyX4 tyX4_ok nmX4 hown hK hW hS hs_5 rfl 3 (by decide) (hts (.fieldLink RX4 24 "GrainYard$Yard" "fixed" "Z") (by decide +kernel)) (fun _ h9 => h9) rfl (by decide +kernel) (by decide) (by decide) (Nat.le_of_ble_eq_true rfl) dX4_init_31 (fun H locs ct_6 hs_6 ho_6 hW hS hz_6 => ?_)
  have hs_6 : ct_6 yr = some (.inr (4, [.int (jI ((n : Nat) : Int)), .ref (ad (yr + 1)), .ref (ad (yr + 10)), .int (jI 0)]) : va_E) := hs_6
  have hof_6 : ∀ q, q ≠ yr → q ≠ (yr + 1) → (q < yr + 1 + 1 ∨ yr + 1 + 1 + 7 < q) → q ≠ (yr + 10) → ct_6 q = ct q := fun q h0_6 h1_6 h2_6 h3_6 => (ho_6 q h0_6).trans (hof_5 q h0_6 h1_6 h2_6 h3_6)
  have hm1_6 : ct_6 (yr + 1) = some (rq ty 5 8 (fun i => if i < 8 then some (ad (yr + 1 + 1 + i)) else none)) := (ho_6 (yr + 1) (by omega)).trans hm1_5
  have hm2_6 : ∀ i9, i9 < 8 → ct_6 (yr + 1 + 1 + i9) = some (ri ty 8 ((fun _ _ => (0 : Int)) i9)) := fun i9 hi9 => (ho_6 _ (by omega)).trans (hm2_5 i9 hi9)
  have hm3_6 : ct_6 (yr + 10) = some (ri ty 8 (fun _ => (0 : Int))) := (ho_6 (yr + 10) (by omega)).trans hm3_5
  refine W.widen (k := 10) (n := 80) (by omega) (by omega) ?_
  exact W.vret hx hb hr (fun t ht hw => ⟨⟨ct_6, rfl, ⟨⟨hs_6, hm1_6, hm2_6, hm3_6⟩, fun q hq => hof_6 q (by omega) (by omega) (by omega) (by omega)⟩, by show rm_W D ad _ _ t.heap; rw [ht]; exact hW, Or.inr (by rw [ht]; omega)⟩, hS.F ht⟩) hS.2.2 dX4_init_34
