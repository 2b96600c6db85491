set_option maxHeartbeats 4000000 in
set_option maxRecDepth 100000 in
theorem c_X5_init (l : Launch) (D : va_G) (ty : Nat → ClassId) (ad : Nat → Nat) (ct : rm_C) (sz : Nat) (hno0 : ∀ j, 0 < j → j ≤ 30 → ct j = none) (had0 : ∀ j, 1 ≤ j → j ≤ 30 → ad j = sz + (j - 1)) (hO : ct 0 = some (.inr (5, [.null, .null, .int (jI 0), .int (jI 0), .null, .null, .null]))) : Met l yX5_init wsX5_init ({ frames := 2, cells := 30, slots := 238, locals := 50 }) (rm_P D ty ad ct sz [.ref (ad 0)]) (rm_Qv D ad ct sz 30 (fun ct1 => TopAt ty ad ct1 0 0 ∧ HelpAt ty ad ct1 ∧ ∀ q, 30 < q → ct1 q = ct q)) 30 238 (rm_A ad ct sz) := by
  refine Met.ofW (cc := cX5_init) (maxL := 1) (ret := none) (by decide) rfl ?_
  intro p e s m args below meth c s₁ B hml hv
  obtain ⟨hargs, hsz, hW, hK, hNw⟩ := hv
  have hx := B.exec
  have hb := B.bytes
  have hr := B.returns
  have hts := atoms_spec (ws := wsX5_init) B.pre
  have hown : s.vm.findClass RX5 = some m.cls := findClass_of_methodNamed B.named
  have hlocks := B.notSynchronized
  have hin : meth.name = "<init>" := (name_of_methodNamed B.named B.method).1
  subst hsz
  have hW := hW.own (sz := s.heap.size)
  have hA : ∀ q : Nat, s.heap.size ≤ q → rm_A ad ct s.heap.size q := fun q h => Or.inr h
  have hS : va_S (rm_A ad ct s.heap.size) s.heap s.heap [] := va_S.rf
  have hent : entryFrame m args 1 = entryFrame m ([.ref (ad 0)] : List Value).toArray 1 := by rw [hargs]
  have hl := lv_entry ([.ref (ad 0)]) (n := 1) (Nat.le_of_ble_eq_true rfl)
  rw [hent, lg_entry_eq]
  generalize (lg_sl ([.ref (ad 0)]) ++ List.replicate (1 - (lg_sl ([.ref (ad 0)])).length) Slot.unset).toArray = ls at hl ⊢
  have hl : lv_has ls 1 [(0, .ref (ad 0))] := hl
  have hab1_0 : ct 1 = none := hno0 _ (by omega) (by omega)
  have hab2_0 : ct 2 = none := hno0 _ (by omega) (by omega)
  have hab3_0 : ∀ i9, i9 < 2 → ct (3 + i9) = none := fun i9 hi9 => hno0 _ (by omega) (by omega)
  have hab4_0 : ∀ i9, i9 < 15 → ct (5 + i9) = none := fun i9 hi9 => hno0 _ (by omega) (by omega)
  have hab5_0 : ∀ i9, i9 < 11 → ct (20 + i9) = none := fun i9 hi9 => hno0 _ (by omega) (by omega)
  refine lv_aload_n hx hb dX5_init_0 rfl (lv_at hl 0 rfl) ?_
  refine W.objInit (g := F0 m 1 ls [.ref (ad 0)]) hx hb hown (hts (.methodLink RX5 1 Lib.objectInit) (by decide +kernel)) (hts (.instanceMethod Lib.objectInit) (by decide +kernel)) (hts (.code Lib.objectInit ⟨#[0xb1]⟩ 1 none) (by decide +kernel)) rfl (hl.1.trans hml.symm) rfl dX5_init_1 (Nat.le_of_ble_eq_true rfl) (Nat.le_of_ble_eq_true rfl) ?_
  show W p l e _ s m args below meth c _ _ _ _ _ (F0 m 4 ls [])
  refine lv_aload_n hx hb dX5_init_4 rfl (lv_at hl 0 rfl) ?_
  refine lv_bipush (v := jI 6) hx hb dX5_init_5 (by decide) ?_
  refine rm_newQ (C := RX4) (k := 3) (N' := 6) hx hb hown (hts (.classLink RX5 9 RX4) (by decide +kernel)) (va_AO.use hNw.2.2.1) hK hW hS hA rfl rfl (by decide) (by decide) 1 hab1_0 (by rw [had0 1 (by omega) (by omega)]; omega) (Nat.le_of_ble_eq_true rfl) (Nat.le_of_ble_eq_true rfl) dX5_init_7 (fun H ct_1 hs_1 ho_1 hW hS hz_1 => ?_)
  have hof_1 : ∀ q, q ≠ 0 → q ≠ 1 → q ≠ 2 → (q < 3 ∨ 3 + 1 < q) → (q < 5 ∨ 5 + 14 < q) → (q < 20 ∨ 20 + 10 < q) → ct_1 q = ct q := fun q h0_1 h1_1 h2_1 h3_1 h4_1 h5_1 => (ho_1 q h1_1).trans rfl
  have hm0_1 : ct_1 0 = some (.inr (5, [.null, .null, .int (jI 0), .int (jI 0), .null, .null, .null]) : va_E) := (ho_1 0 (by omega)).trans hO
  have hab0_1 : ct_1 2 = none := (ho_1 2  (by omega)).trans hab2_0
  have hab1_1 : ∀ i9, i9 < 2 → ct_1 (3 + i9) = none := fun i9 hi9 => (ho_1 _  (by omega)).trans (hab3_0 i9 hi9)
  have hab2_1 : ∀ i9, i9 < 15 → ct_1 (5 + i9) = none := fun i9 hi9 => (ho_1 _  (by omega)).trans (hab4_0 i9 hi9)
  have hab3_1 : ∀ i9, i9 < 11 → ct_1 (20 + i9) = none := fun i9 hi9 => (ho_1 _  (by omega)).trans (hab5_0 i9 hi9)
  refine rm_putF (ci := 5) (v := .ref (ad 1)) (fty := .array (.object "GrainYard$Yard")) (C := RX5) (T := TX5) (N := 7) hx hb hts (by decide +kernel) tyX5 tyX5_ok nmX5 hown hK hW hS hm0_1 rfl 0 (by decide) (hts (.fieldLink RX5 11 "GrainYard" "yards" "[LGrainYard$Yard;") (by decide +kernel)) (fun _ h9 => h9) rfl hin rfl (by decide +kernel) rfl rfl (Nat.le_of_ble_eq_true rfl) dX5_init_10 (fun H locs ct_2 hs_2 ho_2 hW hS hz_2 => ?_)
  have hs_2 : ct_2 0 = some (.inr (5, [.ref (ad 1), .null, .int (jI 0), .int (jI 0), .null, .null, .null]) : va_E) := hs_2
  have hof_2 : ∀ q, q ≠ 0 → q ≠ 1 → q ≠ 2 → (q < 3 ∨ 3 + 1 < q) → (q < 5 ∨ 5 + 14 < q) → (q < 20 ∨ 20 + 10 < q) → ct_2 q = ct q := fun q h0_2 h1_2 h2_2 h3_2 h4_2 h5_2 => (ho_2 q h0_2).trans (hof_1 q h0_2 h1_2 h2_2 h3_2 h4_2 h5_2)
  have hm1_2 : ct_2 1 = some (rq ty 3 6 (fun _ => none)) := (ho_2 1 (by omega)).trans hs_1
  have hab0_2 : ct_2 2 = none := (ho_2 2  (by omega)).trans hab0_1
  have hab1_2 : ∀ i9, i9 < 2 → ct_2 (3 + i9) = none := fun i9 hi9 => (ho_2 _  (by omega)).trans (hab1_1 i9 hi9)
  have hab2_2 : ∀ i9, i9 < 15 → ct_2 (5 + i9) = none := fun i9 hi9 => (ho_2 _  (by omega)).trans (hab2_1 i9 hi9)
  have hab3_2 : ∀ i9, i9 < 11 → ct_2 (20 + i9) = none := fun i9 hi9 => (ho_2 _  (by omega)).trans (hab3_1 i9 hi9)
  refine lv_aload_n hx hb dX5_init_13 rfl (lv_at hl 0 rfl) ?_
  refine lv_bipush (v := jI 20) hx hb dX5_init_14 (by decide) ?_
  refine rm_newQ (C := RX1) (k := 4) (N' := 20) hx hb hown (hts (.classLink RX5 15 RX1) (by decide +kernel)) (va_AO.use hNw.2.2.2.1) hK hW hS hA rfl rfl (by decide) (by decide) 2 hab0_2 (by rw [had0 2 (by omega) (by omega)]; omega) (Nat.le_of_ble_eq_true rfl) (Nat.le_of_ble_eq_true rfl) dX5_init_16 (fun H ct_3 hs_3 ho_3 hW hS hz_3 => ?_)
  have hof_3 : ∀ q, q ≠ 0 → q ≠ 1 → q ≠ 2 → (q < 3 ∨ 3 + 1 < q) → (q < 5 ∨ 5 + 14 < q) → (q < 20 ∨ 20 + 10 < q) → ct_3 q = ct q := fun q h0_3 h1_3 h2_3 h3_3 h4_3 h5_3 => (ho_3 q h2_3).trans (hof_2 q h0_3 h1_3 h2_3 h3_3 h4_3 h5_3)
  have hm0_3 : ct_3 0 = some (.inr (5, [.ref (ad 1), .null, .int (jI 0), .int (jI 0), .null, .null, .null]) : va_E) := (ho_3 0 (by omega)).trans hs_2
  have hm1_3 : ct_3 1 = some (rq ty 3 6 (fun _ => none)) := (ho_3 1 (by omega)).trans hm1_2
  have hab0_3 : ∀ i9, i9 < 2 → ct_3 (3 + i9) = none := fun i9 hi9 => (ho_3 _  (by omega)).trans (hab1_2 i9 hi9)
  have hab1_3 : ∀ i9, i9 < 15 → ct_3 (5 + i9) = none := fun i9 hi9 => (ho_3 _  (by omega)).trans (hab2_2 i9 hi9)
  have hab2_3 : ∀ i9, i9 < 11 → ct_3 (20 + i9) = none := fun i9 hi9 => (ho_3 _  (by omega)).trans (hab3_2 i9 hi9)
  refine rm_putF (ci := 5) (v := .ref (ad 2)) (fty := .array (.object "GrainYard$Heap")) (C := RX5) (T := TX5) (N := 7) hx hb hts (by decide +kernel) tyX5 tyX5_ok nmX5 hown hK hW hS hm0_3 rfl 1 (by decide) (hts (.fieldLink RX5 17 "GrainYard" "heaps" "[LGrainYard$Heap;") (by decide +kernel)) (fun _ h9 => h9) rfl hin rfl (by decide +kernel) rfl rfl (Nat.le_of_ble_eq_true rfl) dX5_init_19 (fun H locs ct_4 hs_4 ho_4 hW hS hz_4 => ?_)
  have hs_4 : ct_4 0 = some (.inr (5, [.ref (ad 1), .ref (ad 2), .int (jI 0), .int (jI 0), .null, .null, .null]) : va_E) := hs_4
  have hof_4 : ∀ q, q ≠ 0 → q ≠ 1 → q ≠ 2 → (q < 3 ∨ 3 + 1 < q) → (q < 5 ∨ 5 + 14 < q) → (q < 20 ∨ 20 + 10 < q) → ct_4 q = ct q := fun q h0_4 h1_4 h2_4 h3_4 h4_4 h5_4 => (ho_4 q h0_4).trans (hof_3 q h0_4 h1_4 h2_4 h3_4 h4_4 h5_4)
  have hm1_4 : ct_4 1 = some (rq ty 3 6 (fun _ => none)) := (ho_4 1 (by omega)).trans hm1_3
  have hm2_4 : ct_4 2 = some (rq ty 4 20 (fun _ => none)) := (ho_4 2 (by omega)).trans hs_3
  have hab0_4 : ∀ i9, i9 < 2 → ct_4 (3 + i9) = none := fun i9 hi9 => (ho_4 _  (by omega)).trans (hab0_3 i9 hi9)
  have hab1_4 : ∀ i9, i9 < 15 → ct_4 (5 + i9) = none := fun i9 hi9 => (ho_4 _  (by omega)).trans (hab1_3 i9 hi9)
  have hab2_4 : ∀ i9, i9 < 11 → ct_4 (20 + i9) = none := fun i9 hi9 => (ho_4 _  (by omega)).trans (hab2_3 i9 hi9)
  refine lv_aload_n hx hb dX5_init_22 rfl (lv_at hl 0 rfl) ?_
  refine lv_iconst (v := jI 0) hx hb dX5_init_23 rfl ?_
  refine rm_put (ci := 5) (v := .int (jI 0)) (fty := .int) (C := RX5) (T := TX5) (N := 7) hx hb hts (by decide +kernel) tyX5 tyX5_ok nmX5 hown hK hW hS hs_4 rfl 2 (by decide) (hts (.fieldLink RX5 21 "GrainYard" "yardCount" "I") (by decide +kernel)) (fun _ h9 => h9) rfl (by decide +kernel) rfl rfl (Nat.le_of_ble_eq_true rfl) dX5_init_24 (fun H locs ct_5 hs_5 ho_5 hW hS hz_5 => ?_)
  have hs_5 : ct_5 0 = some (.inr (5, [.ref (ad 1), .ref (ad 2), .int (jI 0), .int (jI 0), .null, .null, .null]) : va_E) := hs_5
  have hof_5 : ∀ q, q ≠ 0 → q ≠ 1 → q ≠ 2 → (q < 3 ∨ 3 + 1 < q) → (q < 5 ∨ 5 + 14 < q) → (q < 20 ∨ 20 + 10 < q) → ct_5 q = ct q := fun q h0_5 h1_5 h2_5 h3_5 h4_5 h5_5 => (ho_5 q h0_5).trans (hof_4 q h0_5 h1_5 h2_5 h3_5 h4_5 h5_5)
  have hm1_5 : ct_5 1 = some (rq ty 3 6 (fun _ => none)) := (ho_5 1 (by omega)).trans hm1_4
  have hm2_5 : ct_5 2 = some (rq ty 4 20 (fun _ => none)) := (ho_5 2 (by omega)).trans hm2_4
  have hab0_5 : ∀ i9, i9 < 2 → ct_5 (3 + i9) = none := fun i9 hi9 => (ho_5 _  (by omega)).trans (hab0_4 i9 hi9)
  have hab1_5 : ∀ i9, i9 < 15 → ct_5 (5 + i9) = none := fun i9 hi9 => (ho_5 _  (by omega)).trans (hab1_4 i9 hi9)
  have hab2_5 : ∀ i9, i9 < 11 → ct_5 (20 + i9) = none := fun i9 hi9 => (ho_5 _  (by omega)).trans (hab2_4 i9 hi9)
  refine lv_aload_n hx hb dX5_init_27 rfl (lv_at hl 0 rfl) ?_
  refine lv_iconst (v := jI 0) hx hb dX5_init_28 rfl ?_
  refine rm_put (ci := 5) (v := .int (jI 0)) (fty := .int) (C := RX5) (T := TX5) (N := 7) hx hb hts (by decide +kernel) tyX5 tyX5_ok nmX5 hown hK hW hS hs_5 rfl 3 (by decide) (hts (.fieldLink RX5 25 "GrainYard" "heapCount" "I") (by decide +kernel)) (fun _ h9 => h9) rfl (by decide +kernel) rfl rfl (Nat.le_of_ble_eq_true rfl) dX5_init_29 (fun H locs ct_6 hs_6 ho_6 hW hS hz_6 => ?_)
  have hs_6 : ct_6 0 = some (.inr (5, [.ref (ad 1), .ref (ad 2), .int (jI 0), .int (jI 0), .null, .null, .null]) : va_E) := hs_6
  have hof_6 : ∀ q, q ≠ 0 → q ≠ 1 → q ≠ 2 → (q < 3 ∨ 3 + 1 < q) → (q < 5 ∨ 5 + 14 < q) → (q < 20 ∨ 20 + 10 < q) → ct_6 q = ct q := fun q h0_6 h1_6 h2_6 h3_6 h4_6 h5_6 => (ho_6 q h0_6).trans (hof_5 q h0_6 h1_6 h2_6 h3_6 h4_6 h5_6)
  have hm1_6 : ct_6 1 = some (rq ty 3 6 (fun _ => none)) := (ho_6 1 (by omega)).trans hm1_5
  have hm2_6 : ct_6 2 = some (rq ty 4 20 (fun _ => none)) := (ho_6 2 (by omega)).trans hm2_5
  have hab0_6 : ∀ i9, i9 < 2 → ct_6 (3 + i9) = none := fun i9 hi9 => (ho_6 _  (by omega)).trans (hab0_5 i9 hi9)
  have hab1_6 : ∀ i9, i9 < 15 → ct_6 (5 + i9) = none := fun i9 hi9 => (ho_6 _  (by omega)).trans (hab1_5 i9 hi9)
  have hab2_6 : ∀ i9, i9 < 11 → ct_6 (20 + i9) = none := fun i9 hi9 => (ho_6 _  (by omega)).trans (hab2_5 i9 hi9)
  refine lv_aload_n hx hb dX5_init_32 rfl (lv_at hl 0 rfl) ?_
  have hfs_7 : ∀ j, j < 1 → defaultValue (tyX0 j) = vp_V [.null] j := fun j h9 => by
    obtain rfl : j = 0 := by omega
    rfl
  refine rm_new (ci := 0) (C := RX0) (T := TX0) (N := 1) (fs := [.null]) hx hb hts (by decide +kernel) tyX0 tyX0_ok hown (hts (.classLink RX5 28 RX0) (by decide +kernel)) (hts (.instantiable RX0 1) (by decide +kernel)) (hts (.initialized RX0) (by decide +kernel)) hK hW hS hA rfl hfs_7 3 (hab0_6 0 (by omega)) (by rw [had0 3 (by omega) (by omega)]; omega) (Nat.le_of_ble_eq_true rfl) (Nat.le_of_ble_eq_true rfl) dX5_init_33 (fun H ct_7 hs_7 ho_7 hW hS hz_7 => ?_)
  have ho2_7 : ∀ i9, 3 < i9 → i9 < 3 + 2 → ct_7 i9 = none := fun i9 h1 h2 => (ho_7 i9 (by omega)).trans (by rw [show i9 = 3 + (i9 - 3) by omega]; exact hab0_6 (i9 - 3) (by omega))
  have ho_7 : ∀ q, (q < 3 ∨ 3 + 1 < q) → ct_7 q = ct_6 q := fun q h1 => ho_7 q (by omega)
  have hof_7 : ∀ q, q ≠ 0 → q ≠ 1 → q ≠ 2 → (q < 3 ∨ 3 + 1 < q) → (q < 5 ∨ 5 + 14 < q) → (q < 20 ∨ 20 + 10 < q) → ct_7 q = ct q := fun q h0_7 h1_7 h2_7 h3_7 h4_7 h5_7 => (ho_7 q h3_7).trans (hof_6 q h0_7 h1_7 h2_7 h3_7 h4_7 h5_7)
  have hm0_7 : ct_7 0 = some (.inr (5, [.ref (ad 1), .ref (ad 2), .int (jI 0), .int (jI 0), .null, .null, .null]) : va_E) := (ho_7 0 (by omega)).trans hs_6
  have hm1_7 : ct_7 1 = some (rq ty 3 6 (fun _ => none)) := (ho_7 1 (by omega)).trans hm1_6
  have hm2_7 : ct_7 2 = some (rq ty 4 20 (fun _ => none)) := (ho_7 2 (by omega)).trans hm2_6
  have hm3_7 : ct_7 3 = some (.inr (0, [.null]) : va_E) := hs_7
  have hab0_7 : ∀ i9, i9 < 15 → ct_7 (5 + i9) = none := fun i9 hi9 => (ho_7 _ (by omega)).trans (hab1_6 i9 hi9)
  have hab1_7 : ∀ i9, i9 < 11 → ct_7 (20 + i9) = none := fun i9 hi9 => (ho_7 _ (by omega)).trans (hab2_6 i9 hi9)
  refine lv_dup hx hb dX5_init_36 rfl ?_
  refine rm_callv (va_runI (As := []) (rest := [.ref (ad 3), .ref (ad 0)]) ⟨hx, hb, hml, hown, hts⟩ (c_X0_init l D ty ad ct_7 H.size 3 (fun j h1 h2 => ho2_7 j (by omega) (by omega)) (by rw [had0 4 (by omega) (by omega)]; omega) hm3_7) (cwI 0 hts gX5_init_X0_init rfl rfl rfl (hts (.initialized RX0) (by decide +kernel)) (hts (.methodLink RX5 30 yX0_init) (by decide +kernel)) (hts (.instanceMethod yX0_init) (by decide +kernel)) rfl (by decide +kernel) ⟨Nat.le_of_ble_eq_true rfl, Nat.le_of_ble_eq_true rfl⟩) (rm_preI hK hNw hW) rfl rfl hl.1 rfl (lv_room (Nat.le_of_ble_eq_true rfl)) dX5_init_37 ⟨Nat.le_of_ble_eq_true rfl, Nat.le_of_ble_eq_true rfl⟩) hW hS hA (fun ct_8 H locs hq_8 hW hS hz_8 => ?_)
  replace hz_8 := hz_8.resolve_left (by decide)
  have ho_8 : ∀ q, (q < 3 ∨ 3 + 1 < q) → ct_8 q = ct_7 q := fun q h1 => hq_8.2.2 q (by omega)
  have hof_8 : ∀ q, q ≠ 0 → q ≠ 1 → q ≠ 2 → (q < 3 ∨ 3 + 1 < q) → (q < 5 ∨ 5 + 14 < q) → (q < 20 ∨ 20 + 10 < q) → ct_8 q = ct q := fun q h0_8 h1_8 h2_8 h3_8 h4_8 h5_8 => (ho_8 q h3_8).trans (hof_7 q h0_8 h1_8 h2_8 h3_8 h4_8 h5_8)
  have hm0_8 : ct_8 0 = some (.inr (5, [.ref (ad 1), .ref (ad 2), .int (jI 0), .int (jI 0), .null, .null, .null]) : va_E) := (ho_8 0 (by omega)).trans hm0_7
  have hm1_8 : ct_8 1 = some (rq ty 3 6 (fun _ => none)) := (ho_8 1 (by omega)).trans hm1_7
  have hm2_8 : ct_8 2 = some (rq ty 4 20 (fun _ => none)) := (ho_8 2 (by omega)).trans hm2_7
  have hm3_8 : FireAt ty ad ct_8 3 4 (fun _ => 0) := ⟨hq_8.1, hq_8.2.1⟩
  have hab0_8 : ∀ i9, i9 < 15 → ct_8 (5 + i9) = none := fun i9 hi9 => (ho_8 _ (by omega)).trans (hab0_7 i9 hi9)
  have hab1_8 : ∀ i9, i9 < 11 → ct_8 (20 + i9) = none := fun i9 hi9 => (ho_8 _ (by omega)).trans (hab1_7 i9 hi9)
  refine rm_putF (ci := 5) (v := .ref (ad 3)) (fty := .object "GrainYard$Fire") (C := RX5) (T := TX5) (N := 7) hx hb hts (by decide +kernel) tyX5 tyX5_ok nmX5 hown hK hW hS hm0_8 rfl 4 (by decide) (hts (.fieldLink RX5 31 "GrainYard" "fire" "LGrainYard$Fire;") (by decide +kernel)) (fun _ h9 => h9) rfl hin rfl (by decide +kernel) rfl rfl (Nat.le_of_ble_eq_true rfl) dX5_init_40 (fun H locs ct_9 hs_9 ho_9 hW hS hz_9 => ?_)
  have hs_9 : ct_9 0 = some (.inr (5, [.ref (ad 1), .ref (ad 2), .int (jI 0), .int (jI 0), .ref (ad 3), .null, .null]) : va_E) := hs_9
  have hof_9 : ∀ q, q ≠ 0 → q ≠ 1 → q ≠ 2 → (q < 3 ∨ 3 + 1 < q) → (q < 5 ∨ 5 + 14 < q) → (q < 20 ∨ 20 + 10 < q) → ct_9 q = ct q := fun q h0_9 h1_9 h2_9 h3_9 h4_9 h5_9 => (ho_9 q h0_9).trans (hof_8 q h0_9 h1_9 h2_9 h3_9 h4_9 h5_9)
  have hm1_9 : ct_9 1 = some (rq ty 3 6 (fun _ => none)) := (ho_9 1 (by omega)).trans hm1_8
  have hm2_9 : ct_9 2 = some (rq ty 4 20 (fun _ => none)) := (ho_9 2 (by omega)).trans hm2_8
  have hm3_9 : FireAt ty ad ct_9 3 4 (fun _ => 0) := FireAt.kept hm3_8 (fun q h1 h2 => ho_9 q (by omega))
  have hab0_9 : ∀ i9, i9 < 15 → ct_9 (5 + i9) = none := fun i9 hi9 => (ho_9 _  (by omega)).trans (hab0_8 i9 hi9)
  have hab1_9 : ∀ i9, i9 < 11 → ct_9 (20 + i9) = none := fun i9 hi9 => (ho_9 _  (by omega)).trans (hab1_8 i9 hi9)
  refine lv_aload_n hx hb dX5_init_43 rfl (lv_at hl 0 rfl) ?_
  have hfs_10 : ∀ j, j < 6 → defaultValue (tyX2 j) = vp_V [.null, .null, .null, .null, .null, .null] j := fun j h9 => by
    rcases (show j = 0 ∨ j = 1 ∨ j = 2 ∨ j = 3 ∨ j = 4 ∨ j = 5 by omega) with rfl | rfl | rfl | rfl | rfl | rfl <;> rfl
  refine rm_new (ci := 2) (C := RX2) (T := TX2) (N := 6) (fs := [.null, .null, .null, .null, .null, .null]) hx hb hts (by decide +kernel) tyX2 tyX2_ok hown (hts (.classLink RX5 35 RX2) (by decide +kernel)) (hts (.instantiable RX2 6) (by decide +kernel)) (hts (.initialized RX2) (by decide +kernel)) hK hW hS hA rfl hfs_10 5 (hab0_9 0 (by omega)) (by rw [had0 5 (by omega) (by omega)]; omega) (Nat.le_of_ble_eq_true rfl) (Nat.le_of_ble_eq_true rfl) dX5_init_44 (fun H ct_10 hs_10 ho_10 hW hS hz_10 => ?_)
  have ho2_10 : ∀ i9, 5 < i9 → i9 < 5 + 15 → ct_10 i9 = none := fun i9 h1 h2 => (ho_10 i9 (by omega)).trans (by rw [show i9 = 5 + (i9 - 5) by omega]; exact hab0_9 (i9 - 5) (by omega))
  have ho_10 : ∀ q, (q < 5 ∨ 5 + 14 < q) → ct_10 q = ct_9 q := fun q h1 => ho_10 q (by omega)
  have hof_10 : ∀ q, q ≠ 0 → q ≠ 1 → q ≠ 2 → (q < 3 ∨ 3 + 1 < q) → (q < 5 ∨ 5 + 14 < q) → (q < 20 ∨ 20 + 10 < q) → ct_10 q = ct q := fun q h0_10 h1_10 h2_10 h3_10 h4_10 h5_10 => (ho_10 q h4_10).trans (hof_9 q h0_10 h1_10 h2_10 h3_10 h4_10 h5_10)
  have hm0_10 : ct_10 0 = some (.inr (5, [.ref (ad 1), .ref (ad 2), .int (jI 0), .int (jI 0), .ref (ad 3), .null, .null]) : va_E) := (ho_10 0 (by omega)).trans hs_9
  have hm1_10 : ct_10 1 = some (rq ty 3 6 (fun _ => none)) := (ho_10 1 (by omega)).trans hm1_9
  have hm2_10 : ct_10 2 = some (rq ty 4 20 (fun _ => none)) := (ho_10 2 (by omega)).trans hm2_9
  have hm3_10 : FireAt ty ad ct_10 3 4 (fun _ => 0) := FireAt.kept hm3_9 (fun q h1 h2 => ho_10 q (by omega))
  have hm4_10 : ct_10 5 = some (.inr (2, [.null, .null, .null, .null, .null, .null]) : va_E) := hs_10
  have hab0_10 : ∀ i9, i9 < 11 → ct_10 (20 + i9) = none := fun i9 hi9 => (ho_10 _ (by omega)).trans (hab1_9 i9 hi9)
  refine lv_dup hx hb dX5_init_47 rfl ?_
  refine rm_callv (va_runI (As := []) (rest := [.ref (ad 5), .ref (ad 0)]) ⟨hx, hb, hml, hown, hts⟩ (c_X2_init l D ty ad ct_10 H.size 5 (fun j h1 h2 => ho2_10 j (by omega) (by omega)) (fun j h1 h2 => by rw [had0 (5 + j) (by omega) (by omega)]; omega) hm4_10) (cwI 0 hts gX5_init_X2_init rfl rfl rfl (hts (.initialized RX2) (by decide +kernel)) (hts (.methodLink RX5 37 yX2_init) (by decide +kernel)) (hts (.instanceMethod yX2_init) (by decide +kernel)) rfl (by decide +kernel) ⟨Nat.le_of_ble_eq_true rfl, Nat.le_of_ble_eq_true rfl⟩) (rm_preI hK hNw hW) rfl rfl hl.1 rfl (lv_room (Nat.le_of_ble_eq_true rfl)) dX5_init_48 ⟨Nat.le_of_ble_eq_true rfl, Nat.le_of_ble_eq_true rfl⟩) hW hS hA (fun ct_11 H locs hq_11 hW hS hz_11 => ?_)
  replace hz_11 := hz_11.resolve_left (by decide)
  have ho_11 : ∀ q, (q < 5 ∨ 5 + 14 < q) → ct_11 q = ct_10 q := fun q h1 => hq_11.2 q (by omega)
  have hof_11 : ∀ q, q ≠ 0 → q ≠ 1 → q ≠ 2 → (q < 3 ∨ 3 + 1 < q) → (q < 5 ∨ 5 + 14 < q) → (q < 20 ∨ 20 + 10 < q) → ct_11 q = ct q := fun q h0_11 h1_11 h2_11 h3_11 h4_11 h5_11 => (ho_11 q h4_11).trans (hof_10 q h0_11 h1_11 h2_11 h3_11 h4_11 h5_11)
  have hm0_11 : ct_11 0 = some (.inr (5, [.ref (ad 1), .ref (ad 2), .int (jI 0), .int (jI 0), .ref (ad 3), .null, .null]) : va_E) := (ho_11 0 (by omega)).trans hm0_10
  have hm1_11 : ct_11 1 = some (rq ty 3 6 (fun _ => none)) := (ho_11 1 (by omega)).trans hm1_10
  have hm2_11 : ct_11 2 = some (rq ty 4 20 (fun _ => none)) := (ho_11 2 (by omega)).trans hm2_10
  have hm3_11 : FireAt ty ad ct_11 3 4 (fun _ => 0) := FireAt.kept hm3_10 (fun q h1 h2 => ho_11 q (by omega))
  have hm4_11 : KindsAt ty ad ct_11 5 (fun _ => 0) (fun _ => 0) (fun _ => 0) (fun _ => 0) (fun _ _ => 0) := hq_11.1
  have hab0_11 : ∀ i9, i9 < 11 → ct_11 (20 + i9) = none := fun i9 hi9 => (ho_11 _ (by omega)).trans (hab0_10 i9 hi9)
  refine rm_putF (ci := 5) (v := .ref (ad 5)) (fty := .object "GrainYard$Kinds") (C := RX5) (T := TX5) (N := 7) hx hb hts (by decide +kernel) tyX5 tyX5_ok nmX5 hown hK hW hS hm0_11 rfl 5 (by decide) (hts (.fieldLink RX5 38 "GrainYard" "kinds" "LGrainYard$Kinds;") (by decide +kernel)) (fun _ h9 => h9) rfl hin rfl (by decide +kernel) rfl rfl (Nat.le_of_ble_eq_true rfl) dX5_init_51 (fun H locs ct_12 hs_12 ho_12 hW hS hz_12 => ?_)
  have hs_12 : ct_12 0 = some (.inr (5, [.ref (ad 1), .ref (ad 2), .int (jI 0), .int (jI 0), .ref (ad 3), .ref (ad 5), .null]) : va_E) := hs_12
  have hof_12 : ∀ q, q ≠ 0 → q ≠ 1 → q ≠ 2 → (q < 3 ∨ 3 + 1 < q) → (q < 5 ∨ 5 + 14 < q) → (q < 20 ∨ 20 + 10 < q) → ct_12 q = ct q := fun q h0_12 h1_12 h2_12 h3_12 h4_12 h5_12 => (ho_12 q h0_12).trans (hof_11 q h0_12 h1_12 h2_12 h3_12 h4_12 h5_12)
  have hm1_12 : ct_12 1 = some (rq ty 3 6 (fun _ => none)) := (ho_12 1 (by omega)).trans hm1_11
  have hm2_12 : ct_12 2 = some (rq ty 4 20 (fun _ => none)) := (ho_12 2 (by omega)).trans hm2_11
  have hm3_12 : FireAt ty ad ct_12 3 4 (fun _ => 0) := FireAt.kept hm3_11 (fun q h1 h2 => ho_12 q (by omega))
  have hm4_12 : KindsAt ty ad ct_12 5 (fun _ => 0) (fun _ => 0) (fun _ => 0) (fun _ => 0) (fun _ _ => 0) := KindsAt.kept hm4_11 (fun q h1 h2 => ho_12 q (by omega))
  have hab0_12 : ∀ i9, i9 < 11 → ct_12 (20 + i9) = none := fun i9 hi9 => (ho_12 _  (by omega)).trans (hab0_11 i9 hi9)
  refine lv_aload_n hx hb dX5_init_54 rfl (lv_at hl 0 rfl) ?_
  have hfs_13 : ∀ j, j < 5 → defaultValue (tyX3 j) = vp_V [.null, .null, .int (jI 0), .int (jI 0), .long (jL 0)] j := fun j h9 => by
    rcases (show j = 0 ∨ j = 1 ∨ j = 2 ∨ j = 3 ∨ j = 4 by omega) with rfl | rfl | rfl | rfl | rfl <;> rfl
  refine rm_new (ci := 3) (C := RX3) (T := TX3) (N := 5) (fs := [.null, .null, .int (jI 0), .int (jI 0), .long (jL 0)]) hx hb hts (by decide +kernel) tyX3 tyX3_ok hown (hts (.classLink RX5 42 RX3) (by decide +kernel)) (hts (.instantiable RX3 5) (by decide +kernel)) (hts (.initialized RX3) (by decide +kernel)) hK hW hS hA rfl hfs_13 20 (hab0_12 0 (by omega)) (by rw [had0 20 (by omega) (by omega)]; omega) (Nat.le_of_ble_eq_true rfl) (Nat.le_of_ble_eq_true rfl) dX5_init_55 (fun H ct_13 hs_13 ho_13 hW hS hz_13 => ?_)
  have ho2_13 : ∀ i9, 20 < i9 → i9 < 20 + 11 → ct_13 i9 = none := fun i9 h1 h2 => (ho_13 i9 (by omega)).trans (by rw [show i9 = 20 + (i9 - 20) by omega]; exact hab0_12 (i9 - 20) (by omega))
  have ho_13 : ∀ q, (q < 20 ∨ 20 + 10 < q) → ct_13 q = ct_12 q := fun q h1 => ho_13 q (by omega)
  have hof_13 : ∀ q, q ≠ 0 → q ≠ 1 → q ≠ 2 → (q < 3 ∨ 3 + 1 < q) → (q < 5 ∨ 5 + 14 < q) → (q < 20 ∨ 20 + 10 < q) → ct_13 q = ct q := fun q h0_13 h1_13 h2_13 h3_13 h4_13 h5_13 => (ho_13 q h5_13).trans (hof_12 q h0_13 h1_13 h2_13 h3_13 h4_13 h5_13)
  have hm0_13 : ct_13 0 = some (.inr (5, [.ref (ad 1), .ref (ad 2), .int (jI 0), .int (jI 0), .ref (ad 3), .ref (ad 5), .null]) : va_E) := (ho_13 0 (by omega)).trans hs_12
  have hm1_13 : ct_13 1 = some (rq ty 3 6 (fun _ => none)) := (ho_13 1 (by omega)).trans hm1_12
  have hm2_13 : ct_13 2 = some (rq ty 4 20 (fun _ => none)) := (ho_13 2 (by omega)).trans hm2_12
  have hm3_13 : FireAt ty ad ct_13 3 4 (fun _ => 0) := FireAt.kept hm3_12 (fun q h1 h2 => ho_13 q (by omega))
  have hm4_13 : KindsAt ty ad ct_13 5 (fun _ => 0) (fun _ => 0) (fun _ => 0) (fun _ => 0) (fun _ _ => 0) := KindsAt.kept hm4_12 (fun q h1 h2 => ho_13 q (by omega))
  have hm5_13 : ct_13 20 = some (.inr (3, [.null, .null, .int (jI 0), .int (jI 0), .long (jL 0)]) : va_E) := hs_13
  refine lv_dup hx hb dX5_init_58 rfl ?_
  refine rm_callv (va_runI (As := []) (rest := [.ref (ad 20), .ref (ad 0)]) ⟨hx, hb, hml, hown, hts⟩ (c_X3_init l D ty ad ct_13 H.size 20 (fun j h1 h2 => ho2_13 j (by omega) (by omega)) (fun j h1 h2 => by rw [had0 (20 + j) (by omega) (by omega)]; omega) hm5_13) (cwI 0 hts gX5_init_X3_init rfl rfl rfl (hts (.initialized RX3) (by decide +kernel)) (hts (.methodLink RX5 44 yX3_init) (by decide +kernel)) (hts (.instanceMethod yX3_init) (by decide +kernel)) rfl (by decide +kernel) ⟨Nat.le_of_ble_eq_true rfl, Nat.le_of_ble_eq_true rfl⟩) (rm_preI hK hNw hW) rfl rfl hl.1 rfl (lv_room (Nat.le_of_ble_eq_true rfl)) dX5_init_59 ⟨Nat.le_of_ble_eq_true rfl, Nat.le_of_ble_eq_true rfl⟩) hW hS hA (fun ct_14 H locs hq_14 hW hS hz_14 => ?_)
  replace hz_14 := hz_14.resolve_left (by decide)
  have ho_14 : ∀ q, (q < 20 ∨ 20 + 10 < q) → ct_14 q = ct_13 q := fun q h1 => hq_14.2 q (by omega)
  have hof_14 : ∀ q, q ≠ 0 → q ≠ 1 → q ≠ 2 → (q < 3 ∨ 3 + 1 < q) → (q < 5 ∨ 5 + 14 < q) → (q < 20 ∨ 20 + 10 < q) → ct_14 q = ct q := fun q h0_14 h1_14 h2_14 h3_14 h4_14 h5_14 => (ho_14 q h5_14).trans (hof_13 q h0_14 h1_14 h2_14 h3_14 h4_14 h5_14)
  have hm0_14 : ct_14 0 = some (.inr (5, [.ref (ad 1), .ref (ad 2), .int (jI 0), .int (jI 0), .ref (ad 3), .ref (ad 5), .null]) : va_E) := (ho_14 0 (by omega)).trans hm0_13
  have hm1_14 : ct_14 1 = some (rq ty 3 6 (fun _ => none)) := (ho_14 1 (by omega)).trans hm1_13
  have hm2_14 : ct_14 2 = some (rq ty 4 20 (fun _ => none)) := (ho_14 2 (by omega)).trans hm2_13
  have hm3_14 : FireAt ty ad ct_14 3 4 (fun _ => 0) := FireAt.kept hm3_13 (fun q h1 h2 => ho_14 q (by omega))
  have hm4_14 : KindsAt ty ad ct_14 5 (fun _ => 0) (fun _ => 0) (fun _ => 0) (fun _ => 0) (fun _ _ => 0) := KindsAt.kept hm4_13 (fun q h1 h2 => ho_14 q (by omega))
  have hm5_14 : PartsAt ty ad ct_14 20 0 0 1 (fun _ => 0) (fun _ _ => 0) := hq_14.1
  refine rm_putF (ci := 5) (v := .ref (ad 20)) (fty := .object "GrainYard$Parts") (C := RX5) (T := TX5) (N := 7) hx hb hts (by decide +kernel) tyX5 tyX5_ok nmX5 hown hK hW hS hm0_14 rfl 6 (by decide) (hts (.fieldLink RX5 45 "GrainYard" "parts" "LGrainYard$Parts;") (by decide +kernel)) (fun _ h9 => h9) rfl hin rfl (by decide +kernel) rfl rfl (Nat.le_of_ble_eq_true rfl) dX5_init_62 (fun H locs ct_15 hs_15 ho_15 hW hS hz_15 => ?_)
  have hs_15 : ct_15 0 = some (.inr (5, [.ref (ad 1), .ref (ad 2), .int (jI 0), .int (jI 0), .ref (ad 3), .ref (ad 5), .ref (ad 20)]) : va_E) := hs_15
  have hof_15 : ∀ q, q ≠ 0 → q ≠ 1 → q ≠ 2 → (q < 3 ∨ 3 + 1 < q) → (q < 5 ∨ 5 + 14 < q) → (q < 20 ∨ 20 + 10 < q) → ct_15 q = ct q := fun q h0_15 h1_15 h2_15 h3_15 h4_15 h5_15 => (ho_15 q h0_15).trans (hof_14 q h0_15 h1_15 h2_15 h3_15 h4_15 h5_15)
  have hm1_15 : ct_15 1 = some (rq ty 3 6 (fun _ => none)) := (ho_15 1 (by omega)).trans hm1_14
  have hm2_15 : ct_15 2 = some (rq ty 4 20 (fun _ => none)) := (ho_15 2 (by omega)).trans hm2_14
  have hm3_15 : FireAt ty ad ct_15 3 4 (fun _ => 0) := FireAt.kept hm3_14 (fun q h1 h2 => ho_15 q (by omega))
  have hm4_15 : KindsAt ty ad ct_15 5 (fun _ => 0) (fun _ => 0) (fun _ => 0) (fun _ => 0) (fun _ _ => 0) := KindsAt.kept hm4_14 (fun q h1 h2 => ho_15 q (by omega))
  have hm5_15 : PartsAt ty ad ct_15 20 0 0 1 (fun _ => 0) (fun _ _ => 0) := PartsAt.kept hm5_14 (fun q h1 h2 => ho_15 q (by omega))
  have hrow1 : ct_15 1 = some (rq ty 3 6 (fun i => if i < 0 then some (ad (40 + 16 * i)) else none)) := hm1_15.trans (congrArg (fun f => some (rq ty 3 6 f)) (funext fun i => (if_neg (Nat.not_lt_zero i)).symm))
  have hrow2 : ct_15 2 = some (rq ty 4 20 (fun i => if i < 0 then some (ad (200 + 4 * i)) else none)) := hm2_15.trans (congrArg (fun f => some (rq ty 4 20 f)) (funext fun i => (if_neg (Nat.not_lt_zero i)).symm))
  refine W.widen (k := 30) (n := 238) (by omega) (by omega) ?_
  exact W.vret hx hb hr (fun t ht hw => ⟨⟨ct_15, rfl, ⟨⟨hs_15, hrow1, hrow2⟩, ⟨⟨_, hm3_15⟩, ⟨_, _, _, _, _, hm4_15⟩, ⟨_, _, _, _, _, hm5_15⟩⟩, fun q hq => hof_15 q (by omega) (by omega) (by omega) (by omega) (by omega) (by omega)⟩, by show rm_W D ad _ _ t.heap; rw [ht]; exact hW, Or.inr (by rw [ht]; omega)⟩, hS.F ht⟩) hS.2.2 dX5_init_65
