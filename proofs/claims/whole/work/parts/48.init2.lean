set_option maxHeartbeats 4000000 in
set_option maxRecDepth 100000 in
theorem c_X2_init (l : Launch) (D : va_G) (ty : Nat → ClassId) (ad : Nat → Nat) (ct : rm_C) (sz : Nat) (ko : Nat) (hno0 : ∀ j, ko < j → j ≤ ko + 14 → ct j = none) (had0 : ∀ j, 1 ≤ j → j ≤ 14 → ad (ko + j) = sz + (j - 1)) (hO : ct ko = some (.inr (2, [.null, .null, .null, .null, .null, .null]))) : Met l yX2_init wsX2_init ({ frames := 1, cells := 14, slots := 112, locals := 30 }) (rm_P D ty ad ct sz [.ref (ad ko)]) (rm_Qv D ad ct sz 14 (fun ct1 => KindsAt ty ad ct1 ko (fun _ => 0) (fun _ => 0) (fun _ => 0) (fun _ => 0) (fun _ _ => 0) ∧ ∀ q, (q < ko ∨ ko + 14 < q) → ct1 q = ct q)) 14 112 (rm_A ad ct sz) := by
  refine Met.ofW (cc := cX2_init) (maxL := 1) (ret := none) (by decide) rfl ?_
  intro p e s m args below meth c s₁ B hml hv
  obtain ⟨hargs, hsz, hW, hK, hNw⟩ := hv
  have hx := B.exec
  have hb := B.bytes
  have hr := B.returns
  have hts := atoms_spec (ws := wsX2_init) B.pre
  have hown : s.vm.findClass RX2 = some m.cls := findClass_of_methodNamed B.named
  have hlocks := B.notSynchronized
  have hin : meth.name = "<init>" := (name_of_methodNamed B.named B.method).1
  subst hsz
  have hW := hW.own (sz := s.heap.size)
  have hA : ∀ q : Nat, s.heap.size ≤ q → rm_A ad ct s.heap.size q := fun q h => Or.inr h
  have hS : va_S (rm_A ad ct s.heap.size) s.heap s.heap [] := va_S.rf
  have hent : entryFrame m args 1 = entryFrame m ([.ref (ad ko)] : List Value).toArray 1 := by rw [hargs]
  have hl := lv_entry ([.ref (ad ko)]) (n := 1) (Nat.le_of_ble_eq_true rfl)
  rw [hent, lg_entry_eq]
  generalize (lg_sl ([.ref (ad ko)]) ++ List.replicate (1 - (lg_sl ([.ref (ad ko)])).length) Slot.unset).toArray = ls at hl ⊢
  have hl : lv_has ls 1 [(0, .ref (ad ko))] := hl
  have hab1_0 : ct (ko + 1) = none := hno0 _ (by omega) (by omega)
  have hab2_0 : ct (ko + 2) = none := hno0 _ (by omega) (by omega)
  have hab3_0 : ct (ko + 3) = none := hno0 _ (by omega) (by omega)
  have hab4_0 : ct (ko + 4) = none := hno0 _ (by omega) (by omega)
  have hab5_0 : ct (ko + 5) = none := hno0 _ (by omega) (by omega)
  have hab6_0 : ct (ko + 6) = none := hno0 _ (by omega) (by omega)
  have hab7_0 : ∀ i9, i9 < 8 → ct (ko + 6 + 1 + i9) = none := fun i9 hi9 => hno0 _ (by omega) (by omega)
  refine lv_aload_n hx hb dX2_init_0 rfl (lv_at hl 0 rfl) ?_
  refine W.objInit (g := F0 m 1 ls [.ref (ad ko)]) hx hb hown (hts (.methodLink RX2 3 Lib.objectInit) (by decide +kernel)) (hts (.instanceMethod Lib.objectInit) (by decide +kernel)) (hts (.code Lib.objectInit ⟨#[0xb1]⟩ 1 none) (by decide +kernel)) rfl (hl.1.trans hml.symm) rfl dX2_init_1 (Nat.le_of_ble_eq_true rfl) (Nat.le_of_ble_eq_true rfl) ?_
  show W p l e _ s m args below meth c _ _ _ _ _ (F0 m 4 ls [])
  refine lv_aload_n hx hb dX2_init_4 rfl (lv_at hl 0 rfl) ?_
  refine lv_bipush (v := jI 8) hx hb dX2_init_5 (by decide) ?_
  have hno_1 : ct (ko + 1) = none := hab1_0
  refine rm_newA (atype := .long) (fty := .long) (k := 1) (N' := 8) (a0 := (8, .inr (.inl (fun _ => jL 0)))) hx hb (hts (.arrayClass .long) (by decide +kernel)) rfl hK hW hS hA rfl (fun _ h9 => by cases h9) (fun _ => rfl) rfl (by decide) (by decide) (ko + 1) hno_1 (by rw [had0 1 (by omega) (by omega)]; omega) (Nat.le_of_ble_eq_true rfl) (Nat.le_of_ble_eq_true rfl) dX2_init_7 (fun H ct_1 hs_1 ho_1 hW hS hz_1 => ?_)
  have hs_1 : ct_1 (ko + 1) = some (rl ty 8 (fun _ => (0 : Int))) := hs_1
  have hof_1 : ∀ q, q ≠ ko → q ≠ (ko + 1) → q ≠ (ko + 2) → q ≠ (ko + 3) → q ≠ (ko + 4) → q ≠ (ko + 5) → q ≠ (ko + 6) → (q < ko + 6 + 1 ∨ ko + 6 + 1 + 7 < q) → ct_1 q = ct q := fun q h0_1 h1_1 h2_1 h3_1 h4_1 h5_1 h6_1 h7_1 => (ho_1 q h1_1).trans rfl
  have hm0_1 : ct_1 ko = some (.inr (2, [.null, .null, .null, .null, .null, .null]) : va_E) := (ho_1 ko (by omega)).trans hO
  have hab0_1 : ct_1 (ko + 2) = none := (ho_1 (ko + 2)  (by omega)).trans hab2_0
  have hab1_1 : ct_1 (ko + 3) = none := (ho_1 (ko + 3)  (by omega)).trans hab3_0
  have hab2_1 : ct_1 (ko + 4) = none := (ho_1 (ko + 4)  (by omega)).trans hab4_0
  have hab3_1 : ct_1 (ko + 5) = none := (ho_1 (ko + 5)  (by omega)).trans hab5_0
  have hab4_1 : ct_1 (ko + 6) = none := (ho_1 (ko + 6)  (by omega)).trans hab6_0
  have hab5_1 : ∀ i9, i9 < 8 → ct_1 (ko + 6 + 1 + i9) = none := fun i9 hi9 => (ho_1 _  (by omega)).trans (hab7_0 i9 hi9)
  refine rm_putF (ci := 2) (v := .ref (ad (ko + 1))) (fty := .array .long) (C := RX2) (T := TX2) (N := 6) hx hb hts (by decide +kernel) tyX2 tyX2_ok nmX2 hown hK hW hS hm0_1 rfl 0 (by decide) (hts (.fieldLink RX2 9 "GrainYard$Kinds" "zeros" "[J") (by decide +kernel)) (fun _ h9 => h9) rfl hin rfl (by decide +kernel) rfl rfl (Nat.le_of_ble_eq_true rfl) dX2_init_9 (fun H locs ct_2 hs_2 ho_2 hW hS hz_2 => ?_)
  have hs_2 : ct_2 ko = some (.inr (2, [.ref (ad (ko + 1)), .null, .null, .null, .null, .null]) : va_E) := hs_2
  have hof_2 : ∀ q, q ≠ ko → q ≠ (ko + 1) → q ≠ (ko + 2) → q ≠ (ko + 3) → q ≠ (ko + 4) → q ≠ (ko + 5) → q ≠ (ko + 6) → (q < ko + 6 + 1 ∨ ko + 6 + 1 + 7 < q) → ct_2 q = ct q := fun q h0_2 h1_2 h2_2 h3_2 h4_2 h5_2 h6_2 h7_2 => (ho_2 q h0_2).trans (hof_1 q h0_2 h1_2 h2_2 h3_2 h4_2 h5_2 h6_2 h7_2)
  have hm1_2 : ct_2 (ko + 1) = some (rl ty 8 (fun _ => (0 : Int))) := (ho_2 (ko + 1) (by omega)).trans hs_1
  have hab0_2 : ct_2 (ko + 2) = none := (ho_2 (ko + 2)  (by omega)).trans hab0_1
  have hab1_2 : ct_2 (ko + 3) = none := (ho_2 (ko + 3)  (by omega)).trans hab1_1
  have hab2_2 : ct_2 (ko + 4) = none := (ho_2 (ko + 4)  (by omega)).trans hab2_1
  have hab3_2 : ct_2 (ko + 5) = none := (ho_2 (ko + 5)  (by omega)).trans hab3_1
  have hab4_2 : ct_2 (ko + 6) = none := (ho_2 (ko + 6)  (by omega)).trans hab4_1
  have hab5_2 : ∀ i9, i9 < 8 → ct_2 (ko + 6 + 1 + i9) = none := fun i9 hi9 => (ho_2 _  (by omega)).trans (hab5_1 i9 hi9)
  refine lv_aload_n hx hb dX2_init_12 rfl (lv_at hl 0 rfl) ?_
  refine lv_bipush (v := jI 8) hx hb dX2_init_13 (by decide) ?_
  have hno_3 : ct_2 (ko + 2) = none := hab0_2
  refine rm_newA (atype := .long) (fty := .long) (k := 1) (N' := 8) (a0 := (8, .inr (.inl (fun _ => jL 0)))) hx hb (hts (.arrayClass .long) (by decide +kernel)) rfl hK hW hS hA rfl (fun _ h9 => by cases h9) (fun _ => rfl) rfl (by decide) (by decide) (ko + 2) hno_3 (by rw [had0 2 (by omega) (by omega)]; omega) (Nat.le_of_ble_eq_true rfl) (Nat.le_of_ble_eq_true rfl) dX2_init_15 (fun H ct_3 hs_3 ho_3 hW hS hz_3 => ?_)
  have hs_3 : ct_3 (ko + 2) = some (rl ty 8 (fun _ => (0 : Int))) := hs_3
  have hof_3 : ∀ q, q ≠ ko → q ≠ (ko + 1) → q ≠ (ko + 2) → q ≠ (ko + 3) → q ≠ (ko + 4) → q ≠ (ko + 5) → q ≠ (ko + 6) → (q < ko + 6 + 1 ∨ ko + 6 + 1 + 7 < q) → ct_3 q = ct q := fun q h0_3 h1_3 h2_3 h3_3 h4_3 h5_3 h6_3 h7_3 => (ho_3 q h2_3).trans (hof_2 q h0_3 h1_3 h2_3 h3_3 h4_3 h5_3 h6_3 h7_3)
  have hm0_3 : ct_3 ko = some (.inr (2, [.ref (ad (ko + 1)), .null, .null, .null, .null, .null]) : va_E) := (ho_3 ko (by omega)).trans hs_2
  have hm1_3 : ct_3 (ko + 1) = some (rl ty 8 (fun _ => (0 : Int))) := (ho_3 (ko + 1) (by omega)).trans hm1_2
  have hab0_3 : ct_3 (ko + 3) = none := (ho_3 (ko + 3)  (by omega)).trans hab1_2
  have hab1_3 : ct_3 (ko + 4) = none := (ho_3 (ko + 4)  (by omega)).trans hab2_2
  have hab2_3 : ct_3 (ko + 5) = none := (ho_3 (ko + 5)  (by omega)).trans hab3_2
  have hab3_3 : ct_3 (ko + 6) = none := (ho_3 (ko + 6)  (by omega)).trans hab4_2
  have hab4_3 : ∀ i9, i9 < 8 → ct_3 (ko + 6 + 1 + i9) = none := fun i9 hi9 => (ho_3 _  (by omega)).trans (hab5_2 i9 hi9)
  refine rm_putF (ci := 2) (v := .ref (ad (ko + 2))) (fty := .array .long) (C := RX2) (T := TX2) (N := 6) hx hb hts (by decide +kernel) tyX2 tyX2_ok nmX2 hown hK hW hS hm0_3 rfl 1 (by decide) (hts (.fieldLink RX2 15 "GrainYard$Kinds" "full" "[J") (by decide +kernel)) (fun _ h9 => h9) rfl hin rfl (by decide +kernel) rfl rfl (Nat.le_of_ble_eq_true rfl) dX2_init_17 (fun H locs ct_4 hs_4 ho_4 hW hS hz_4 => ?_)
  have hs_4 : ct_4 ko = some (.inr (2, [.ref (ad (ko + 1)), .ref (ad (ko + 2)), .null, .null, .null, .null]) : va_E) := hs_4
  have hof_4 : ∀ q, q ≠ ko → q ≠ (ko + 1) → q ≠ (ko + 2) → q ≠ (ko + 3) → q ≠ (ko + 4) → q ≠ (ko + 5) → q ≠ (ko + 6) → (q < ko + 6 + 1 ∨ ko + 6 + 1 + 7 < q) → ct_4 q = ct q := fun q h0_4 h1_4 h2_4 h3_4 h4_4 h5_4 h6_4 h7_4 => (ho_4 q h0_4).trans (hof_3 q h0_4 h1_4 h2_4 h3_4 h4_4 h5_4 h6_4 h7_4)
  have hm1_4 : ct_4 (ko + 1) = some (rl ty 8 (fun _ => (0 : Int))) := (ho_4 (ko + 1) (by omega)).trans hm1_3
  have hm2_4 : ct_4 (ko + 2) = some (rl ty 8 (fun _ => (0 : Int))) := (ho_4 (ko + 2) (by omega)).trans hs_3
  have hab0_4 : ct_4 (ko + 3) = none := (ho_4 (ko + 3)  (by omega)).trans hab0_3
  have hab1_4 : ct_4 (ko + 4) = none := (ho_4 (ko + 4)  (by omega)).trans hab1_3
  have hab2_4 : ct_4 (ko + 5) = none := (ho_4 (ko + 5)  (by omega)).trans hab2_3
  have hab3_4 : ct_4 (ko + 6) = none := (ho_4 (ko + 6)  (by omega)).trans hab3_3
  have hab4_4 : ∀ i9, i9 < 8 → ct_4 (ko + 6 + 1 + i9) = none := fun i9 hi9 => (ho_4 _  (by omega)).trans (hab4_3 i9 hi9)
  refine lv_aload_n hx hb dX2_init_20 rfl (lv_at hl 0 rfl) ?_
  refine lv_bipush (v := jI 8) hx hb dX2_init_21 (by decide) ?_
  have hno_5 : ct_4 (ko + 3) = none := hab0_4
  refine rm_newA (atype := .long) (fty := .long) (k := 1) (N' := 8) (a0 := (8, .inr (.inl (fun _ => jL 0)))) hx hb (hts (.arrayClass .long) (by decide +kernel)) rfl hK hW hS hA rfl (fun _ h9 => by cases h9) (fun _ => rfl) rfl (by decide) (by decide) (ko + 3) hno_5 (by rw [had0 3 (by omega) (by omega)]; omega) (Nat.le_of_ble_eq_true rfl) (Nat.le_of_ble_eq_true rfl) dX2_init_23 (fun H ct_5 hs_5 ho_5 hW hS hz_5 => ?_)
  have hs_5 : ct_5 (ko + 3) = some (rl ty 8 (fun _ => (0 : Int))) := hs_5
  have hof_5 : ∀ q, q ≠ ko → q ≠ (ko + 1) → q ≠ (ko + 2) → q ≠ (ko + 3) → q ≠ (ko + 4) → q ≠ (ko + 5) → q ≠ (ko + 6) → (q < ko + 6 + 1 ∨ ko + 6 + 1 + 7 < q) → ct_5 q = ct q := fun q h0_5 h1_5 h2_5 h3_5 h4_5 h5_5 h6_5 h7_5 => (ho_5 q h3_5).trans (hof_4 q h0_5 h1_5 h2_5 h3_5 h4_5 h5_5 h6_5 h7_5)
  have hm0_5 : ct_5 ko = some (.inr (2, [.ref (ad (ko + 1)), .ref (ad (ko + 2)), .null, .null, .null, .null]) : va_E) := (ho_5 ko (by omega)).trans hs_4
  have hm1_5 : ct_5 (ko + 1) = some (rl ty 8 (fun _ => (0 : Int))) := (ho_5 (ko + 1) (by omega)).trans hm1_4
  have hm2_5 : ct_5 (ko + 2) = some (rl ty 8 (fun _ => (0 : Int))) := (ho_5 (ko + 2) (by omega)).trans hm2_4
  have hab0_5 : ct_5 (ko + 4) = none := (ho_5 (ko + 4)  (by omega)).trans hab1_4
  have hab1_5 : ct_5 (ko + 5) = none := (ho_5 (ko + 5)  (by omega)).trans hab2_4
  have hab2_5 : ct_5 (ko + 6) = none := (ho_5 (ko + 6)  (by omega)).trans hab3_4
  have hab3_5 : ∀ i9, i9 < 8 → ct_5 (ko + 6 + 1 + i9) = none := fun i9 hi9 => (ho_5 _  (by omega)).trans (hab4_4 i9 hi9)
  refine rm_putF (ci := 2) (v := .ref (ad (ko + 3))) (fty := .array .long) (C := RX2) (T := TX2) (N := 6) hx hb hts (by decide +kernel) tyX2 tyX2_ok nmX2 hown hK hW hS hm0_5 rfl 2 (by decide) (hts (.fieldLink RX2 18 "GrainYard$Kinds" "lift" "[J") (by decide +kernel)) (fun _ h9 => h9) rfl hin rfl (by decide +kernel) rfl rfl (Nat.le_of_ble_eq_true rfl) dX2_init_25 (fun H locs ct_6 hs_6 ho_6 hW hS hz_6 => ?_)
  have hs_6 : ct_6 ko = some (.inr (2, [.ref (ad (ko + 1)), .ref (ad (ko + 2)), .ref (ad (ko + 3)), .null, .null, .null]) : va_E) := hs_6
  have hof_6 : ∀ q, q ≠ ko → q ≠ (ko + 1) → q ≠ (ko + 2) → q ≠ (ko + 3) → q ≠ (ko + 4) → q ≠ (ko + 5) → q ≠ (ko + 6) → (q < ko + 6 + 1 ∨ ko + 6 + 1 + 7 < q) → ct_6 q = ct q := fun q h0_6 h1_6 h2_6 h3_6 h4_6 h5_6 h6_6 h7_6 => (ho_6 q h0_6).trans (hof_5 q h0_6 h1_6 h2_6 h3_6 h4_6 h5_6 h6_6 h7_6)
  have hm1_6 : ct_6 (ko + 1) = some (rl ty 8 (fun _ => (0 : Int))) := (ho_6 (ko + 1) (by omega)).trans hm1_5
  have hm2_6 : ct_6 (ko + 2) = some (rl ty 8 (fun _ => (0 : Int))) := (ho_6 (ko + 2) (by omega)).trans hm2_5
  have hm3_6 : ct_6 (ko + 3) = some (rl ty 8 (fun _ => (0 : Int))) := (ho_6 (ko + 3) (by omega)).trans hs_5
  have hab0_6 : ct_6 (ko + 4) = none := (ho_6 (ko + 4)  (by omega)).trans hab0_5
  have hab1_6 : ct_6 (ko + 5) = none := (ho_6 (ko + 5)  (by omega)).trans hab1_5
  have hab2_6 : ct_6 (ko + 6) = none := (ho_6 (ko + 6)  (by omega)).trans hab2_5
  have hab3_6 : ∀ i9, i9 < 8 → ct_6 (ko + 6 + 1 + i9) = none := fun i9 hi9 => (ho_6 _  (by omega)).trans (hab3_5 i9 hi9)
  refine lv_aload_n hx hb dX2_init_28 rfl (lv_at hl 0 rfl) ?_
  refine lv_bipush (v := jI 8) hx hb dX2_init_29 (by decide) ?_
  have hno_7 : ct_6 (ko + 4) = none := hab0_6
  refine rm_newA (atype := .long) (fty := .long) (k := 1) (N' := 8) (a0 := (8, .inr (.inl (fun _ => jL 0)))) hx hb (hts (.arrayClass .long) (by decide +kernel)) rfl hK hW hS hA rfl (fun _ h9 => by cases h9) (fun _ => rfl) rfl (by decide) (by decide) (ko + 4) hno_7 (by rw [had0 4 (by omega) (by omega)]; omega) (Nat.le_of_ble_eq_true rfl) (Nat.le_of_ble_eq_true rfl) dX2_init_31 (fun H ct_7 hs_7 ho_7 hW hS hz_7 => ?_)
  have hs_7 : ct_7 (ko + 4) = some (rl ty 8 (fun _ => (0 : Int))) := hs_7
  have hof_7 : ∀ q, q ≠ ko → q ≠ (ko + 1) → q ≠ (ko + 2) → q ≠ (ko + 3) → q ≠ (ko + 4) → q ≠ (ko + 5) → q ≠ (ko + 6) → (q < ko + 6 + 1 ∨ ko + 6 + 1 + 7 < q) → ct_7 q = ct q := fun q h0_7 h1_7 h2_7 h3_7 h4_7 h5_7 h6_7 h7_7 => (ho_7 q h4_7).trans (hof_6 q h0_7 h1_7 h2_7 h3_7 h4_7 h5_7 h6_7 h7_7)
  have hm0_7 : ct_7 ko = some (.inr (2, [.ref (ad (ko + 1)), .ref (ad (ko + 2)), .ref (ad (ko + 3)), .null, .null, .null]) : va_E) := (ho_7 ko (by omega)).trans hs_6
  have hm1_7 : ct_7 (ko + 1) = some (rl ty 8 (fun _ => (0 : Int))) := (ho_7 (ko + 1) (by omega)).trans hm1_6
  have hm2_7 : ct_7 (ko + 2) = some (rl ty 8 (fun _ => (0 : Int))) := (ho_7 (ko + 2) (by omega)).trans hm2_6
  have hm3_7 : ct_7 (ko + 3) = some (rl ty 8 (fun _ => (0 : Int))) := (ho_7 (ko + 3) (by omega)).trans hm3_6
  have hab0_7 : ct_7 (ko + 5) = none := (ho_7 (ko + 5)  (by omega)).trans hab1_6
  have hab1_7 : ct_7 (ko + 6) = none := (ho_7 (ko + 6)  (by omega)).trans hab2_6
  have hab2_7 : ∀ i9, i9 < 8 → ct_7 (ko + 6 + 1 + i9) = none := fun i9 hi9 => (ho_7 _  (by omega)).trans (hab3_6 i9 hi9)
  refine rm_putF (ci := 2) (v := .ref (ad (ko + 4))) (fty := .array .long) (C := RX2) (T := TX2) (N := 6) hx hb hts (by decide +kernel) tyX2 tyX2_ok nmX2 hown hK hW hS hm0_7 rfl 3 (by decide) (hts (.fieldLink RX2 21 "GrainYard$Kinds" "source" "[J") (by decide +kernel)) (fun _ h9 => h9) rfl hin rfl (by decide +kernel) rfl rfl (Nat.le_of_ble_eq_true rfl) dX2_init_33 (fun H locs ct_8 hs_8 ho_8 hW hS hz_8 => ?_)
  have hs_8 : ct_8 ko = some (.inr (2, [.ref (ad (ko + 1)), .ref (ad (ko + 2)), .ref (ad (ko + 3)), .ref (ad (ko + 4)), .null, .null]) : va_E) := hs_8
  have hof_8 : ∀ q, q ≠ ko → q ≠ (ko + 1) → q ≠ (ko + 2) → q ≠ (ko + 3) → q ≠ (ko + 4) → q ≠ (ko + 5) → q ≠ (ko + 6) → (q < ko + 6 + 1 ∨ ko + 6 + 1 + 7 < q) → ct_8 q = ct q := fun q h0_8 h1_8 h2_8 h3_8 h4_8 h5_8 h6_8 h7_8 => (ho_8 q h0_8).trans (hof_7 q h0_8 h1_8 h2_8 h3_8 h4_8 h5_8 h6_8 h7_8)
  have hm1_8 : ct_8 (ko + 1) = some (rl ty 8 (fun _ => (0 : Int))) := (ho_8 (ko + 1) (by omega)).trans hm1_7
  have hm2_8 : ct_8 (ko + 2) = some (rl ty 8 (fun _ => (0 : Int))) := (ho_8 (ko + 2) (by omega)).trans hm2_7
  have hm3_8 : ct_8 (ko + 3) = some (rl ty 8 (fun _ => (0 : Int))) := (ho_8 (ko + 3) (by omega)).trans hm3_7
  have hm4_8 : ct_8 (ko + 4) = some (rl ty 8 (fun _ => (0 : Int))) := (ho_8 (ko + 4) (by omega)).trans hs_7
  have hab0_8 : ct_8 (ko + 5) = none := (ho_8 (ko + 5)  (by omega)).trans hab0_7
  have hab1_8 : ct_8 (ko + 6) = none := (ho_8 (ko + 6)  (by omega)).trans hab1_7
  have hab2_8 : ∀ i9, i9 < 8 → ct_8 (ko + 6 + 1 + i9) = none := fun i9 hi9 => (ho_8 _  (by omega)).trans (hab2_7 i9 hi9)
  refine lv_aload_n hx hb dX2_init_36 rfl (lv_at hl 0 rfl) ?_
  refine lv_bipush (v := jI 8) hx hb dX2_init_37 (by decide) ?_
  have hno_9 : ct_8 (ko + 5) = none := hab0_8
  refine rm_newA (atype := .long) (fty := .long) (k := 1) (N' := 8) (a0 := (8, .inr (.inl (fun _ => jL 0)))) hx hb (hts (.arrayClass .long) (by decide +kernel)) rfl hK hW hS hA rfl (fun _ h9 => by cases h9) (fun _ => rfl) rfl (by decide) (by decide) (ko + 5) hno_9 (by rw [had0 5 (by omega) (by omega)]; omega) (Nat.le_of_ble_eq_true rfl) (Nat.le_of_ble_eq_true rfl) dX2_init_39 (fun H ct_9 hs_9 ho_9 hW hS hz_9 => ?_)
  have hs_9 : ct_9 (ko + 5) = some (rl ty 8 (fun _ => (0 : Int))) := hs_9
  have hof_9 : ∀ q, q ≠ ko → q ≠ (ko + 1) → q ≠ (ko + 2) → q ≠ (ko + 3) → q ≠ (ko + 4) → q ≠ (ko + 5) → q ≠ (ko + 6) → (q < ko + 6 + 1 ∨ ko + 6 + 1 + 7 < q) → ct_9 q = ct q := fun q h0_9 h1_9 h2_9 h3_9 h4_9 h5_9 h6_9 h7_9 => (ho_9 q h5_9).trans (hof_8 q h0_9 h1_9 h2_9 h3_9 h4_9 h5_9 h6_9 h7_9)
  have hm0_9 : ct_9 ko = some (.inr (2, [.ref (ad (ko + 1)), .ref (ad (ko + 2)), .ref (ad (ko + 3)), .ref (ad (ko + 4)), .null, .null]) : va_E) := (ho_9 ko (by omega)).trans hs_8
  have hm1_9 : ct_9 (ko + 1) = some (rl ty 8 (fun _ => (0 : Int))) := (ho_9 (ko + 1) (by omega)).trans hm1_8
  have hm2_9 : ct_9 (ko + 2) = some (rl ty 8 (fun _ => (0 : Int))) := (ho_9 (ko + 2) (by omega)).trans hm2_8
  have hm3_9 : ct_9 (ko + 3) = some (rl ty 8 (fun _ => (0 : Int))) := (ho_9 (ko + 3) (by omega)).trans hm3_8
  have hm4_9 : ct_9 (ko + 4) = some (rl ty 8 (fun _ => (0 : Int))) := (ho_9 (ko + 4) (by omega)).trans hm4_8
  have hab0_9 : ct_9 (ko + 6) = none := (ho_9 (ko + 6)  (by omega)).trans hab1_8
  have hab1_9 : ∀ i9, i9 < 8 → ct_9 (ko + 6 + 1 + i9) = none := fun i9 hi9 => (ho_9 _  (by omega)).trans (hab2_8 i9 hi9)
  refine rm_putF (ci := 2) (v := .ref (ad (ko + 5))) (fty := .array .long) (C := RX2) (T := TX2) (N := 6) hx hb hts (by decide +kernel) tyX2 tyX2_ok nmX2 hown hK hW hS hm0_9 rfl 4 (by decide) (hts (.fieldLink RX2 24 "GrainYard$Kinds" "falls" "[J") (by decide +kernel)) (fun _ h9 => h9) rfl hin rfl (by decide +kernel) rfl rfl (Nat.le_of_ble_eq_true rfl) dX2_init_41 (fun H locs ct_10 hs_10 ho_10 hW hS hz_10 => ?_)
  have hs_10 : ct_10 ko = some (.inr (2, [.ref (ad (ko + 1)), .ref (ad (ko + 2)), .ref (ad (ko + 3)), .ref (ad (ko + 4)), .ref (ad (ko + 5)), .null]) : va_E) := hs_10
  have hof_10 : ∀ q, q ≠ ko → q ≠ (ko + 1) → q ≠ (ko + 2) → q ≠ (ko + 3) → q ≠ (ko + 4) → q ≠ (ko + 5) → q ≠ (ko + 6) → (q < ko + 6 + 1 ∨ ko + 6 + 1 + 7 < q) → ct_10 q = ct q := fun q h0_10 h1_10 h2_10 h3_10 h4_10 h5_10 h6_10 h7_10 => (ho_10 q h0_10).trans (hof_9 q h0_10 h1_10 h2_10 h3_10 h4_10 h5_10 h6_10 h7_10)
  have hm1_10 : ct_10 (ko + 1) = some (rl ty 8 (fun _ => (0 : Int))) := (ho_10 (ko + 1) (by omega)).trans hm1_9
  have hm2_10 : ct_10 (ko + 2) = some (rl ty 8 (fun _ => (0 : Int))) := (ho_10 (ko + 2) (by omega)).trans hm2_9
  have hm3_10 : ct_10 (ko + 3) = some (rl ty 8 (fun _ => (0 : Int))) := (ho_10 (ko + 3) (by omega)).trans hm3_9
  have hm4_10 : ct_10 (ko + 4) = some (rl ty 8 (fun _ => (0 : Int))) := (ho_10 (ko + 4) (by omega)).trans hm4_9
  have hm5_10 : ct_10 (ko + 5) = some (rl ty 8 (fun _ => (0 : Int))) := (ho_10 (ko + 5) (by omega)).trans hs_9
  have hab0_10 : ct_10 (ko + 6) = none := (ho_10 (ko + 6)  (by omega)).trans hab0_9
  have hab1_10 : ∀ i9, i9 < 8 → ct_10 (ko + 6 + 1 + i9) = none := fun i9 hi9 => (ho_10 _  (by omega)).trans (hab1_9 i9 hi9)
  refine lv_aload_n hx hb dX2_init_44 rfl (lv_at hl 0 rfl) ?_
  refine lv_bipush (v := jI 8) hx hb dX2_init_45 (by decide) ?_
  refine lv_bipush (v := jI 8) hx hb dX2_init_47 (by decide) ?_
  have hno_11 : ∀ k, k ≤ 8 → ct_10 ((ko + 6) + k) = none := fun k h9 => by
    by_cases e9 : k = 0
    · rw [e9]; exact hab0_10
    · rw [show (ko + 6) + k = ko + 6 + 1 + (k - 1) by omega]; exact hab1_10 (k - 1) (by omega)
  refine rm_mna (fty := .long) (ko := 6) (ki := 1) (N' := 8) (K' := 8) (a0 := (8, .inr (.inl (fun _ => jL 0)))) hx hb hown (hts (.classLink RX2 27 "[[J") (by decide +kernel)) (va_AOA.use hNw.2.2.2.2.2) (hts (.arrayClass .long) (by decide +kernel)) hK hW hS hA rfl rfl (fun _ h9 => by cases h9) rfl rfl (by decide) (by decide) (by decide) (by decide) (by decide) (by decide) (by decide) (ko + 6) hno_11 (fun k h9 => by have h8 := had0 (6 + k) (by omega) (by omega); rw [show ko + 6 + k = ko + (6 + k) by omega, h8]; omega) (Nat.le_of_ble_eq_true rfl) (Nat.le_of_ble_eq_true rfl) (fun _ => rfl) dX2_init_49 (fun H ct_11 hs_11 hi_11 ho_11 hW hS hz_11 => ?_)
  have ho_11 : ∀ q, q ≠ (ko + 6) → (q < ko + 6 + 1 ∨ ko + 6 + 1 + 7 < q) → ct_11 q = ct_10 q := fun q h1 h2 => ho_11 q (by omega)
  have hof_11 : ∀ q, q ≠ ko → q ≠ (ko + 1) → q ≠ (ko + 2) → q ≠ (ko + 3) → q ≠ (ko + 4) → q ≠ (ko + 5) → q ≠ (ko + 6) → (q < ko + 6 + 1 ∨ ko + 6 + 1 + 7 < q) → ct_11 q = ct q := fun q h0_11 h1_11 h2_11 h3_11 h4_11 h5_11 h6_11 h7_11 => (ho_11 q h6_11 h7_11).trans (hof_10 q h0_11 h1_11 h2_11 h3_11 h4_11 h5_11 h6_11 h7_11)
  have hm0_11 : ct_11 ko = some (.inr (2, [.ref (ad (ko + 1)), .ref (ad (ko + 2)), .ref (ad (ko + 3)), .ref (ad (ko + 4)), .ref (ad (ko + 5)), .null]) : va_E) := (ho_11 ko (by omega) (by omega)).trans hs_10
  have hm1_11 : ct_11 (ko + 1) = some (rl ty 8 (fun _ => (0 : Int))) := (ho_11 (ko + 1) (by omega) (by omega)).trans hm1_10
  have hm2_11 : ct_11 (ko + 2) = some (rl ty 8 (fun _ => (0 : Int))) := (ho_11 (ko + 2) (by omega) (by omega)).trans hm2_10
  have hm3_11 : ct_11 (ko + 3) = some (rl ty 8 (fun _ => (0 : Int))) := (ho_11 (ko + 3) (by omega) (by omega)).trans hm3_10
  have hm4_11 : ct_11 (ko + 4) = some (rl ty 8 (fun _ => (0 : Int))) := (ho_11 (ko + 4) (by omega) (by omega)).trans hm4_10
  have hm5_11 : ct_11 (ko + 5) = some (rl ty 8 (fun _ => (0 : Int))) := (ho_11 (ko + 5) (by omega) (by omega)).trans hm5_10
  have hm6_11 : ct_11 (ko + 6) = some (rq ty 6 8 (fun i => if i < 8 then some (ad (ko + 6 + 1 + i)) else none)) := hs_11
  have hm7_11 : ∀ i9, i9 < 8 → ct_11 (ko + 6 + 1 + i9) = some (rl ty 8 ((fun _ _ => (0 : Int)) i9)) := hi_11
  refine rm_putF (ci := 2) (v := .ref (ad (ko + 6))) (fty := .array (.array .long)) (C := RX2) (T := TX2) (N := 6) hx hb hts (by decide +kernel) tyX2 tyX2_ok nmX2 hown hK hW hS hm0_11 rfl 5 (by decide) (hts (.fieldLink RX2 29 "GrainYard$Kinds" "table" "[[J") (by decide +kernel)) (fun _ h9 => h9) rfl hin rfl (by decide +kernel) rfl rfl (Nat.le_of_ble_eq_true rfl) dX2_init_53 (fun H locs ct_12 hs_12 ho_12 hW hS hz_12 => ?_)
  have hs_12 : ct_12 ko = some (.inr (2, [.ref (ad (ko + 1)), .ref (ad (ko + 2)), .ref (ad (ko + 3)), .ref (ad (ko + 4)), .ref (ad (ko + 5)), .ref (ad (ko + 6))]) : va_E) := hs_12
  have hof_12 : ∀ q, q ≠ ko → q ≠ (ko + 1) → q ≠ (ko + 2) → q ≠ (ko + 3) → q ≠ (ko + 4) → q ≠ (ko + 5) → q ≠ (ko + 6) → (q < ko + 6 + 1 ∨ ko + 6 + 1 + 7 < q) → ct_12 q = ct q := fun q h0_12 h1_12 h2_12 h3_12 h4_12 h5_12 h6_12 h7_12 => (ho_12 q h0_12).trans (hof_11 q h0_12 h1_12 h2_12 h3_12 h4_12 h5_12 h6_12 h7_12)
  have hm1_12 : ct_12 (ko + 1) = some (rl ty 8 (fun _ => (0 : Int))) := (ho_12 (ko + 1) (by omega)).trans hm1_11
  have hm2_12 : ct_12 (ko + 2) = some (rl ty 8 (fun _ => (0 : Int))) := (ho_12 (ko + 2) (by omega)).trans hm2_11
  have hm3_12 : ct_12 (ko + 3) = some (rl ty 8 (fun _ => (0 : Int))) := (ho_12 (ko + 3) (by omega)).trans hm3_11
  have hm4_12 : ct_12 (ko + 4) = some (rl ty 8 (fun _ => (0 : Int))) := (ho_12 (ko + 4) (by omega)).trans hm4_11
  have hm5_12 : ct_12 (ko + 5) = some (rl ty 8 (fun _ => (0 : Int))) := (ho_12 (ko + 5) (by omega)).trans hm5_11
  have hm6_12 : ct_12 (ko + 6) = some (rq ty 6 8 (fun i => if i < 8 then some (ad (ko + 6 + 1 + i)) else none)) := (ho_12 (ko + 6) (by omega)).trans hm6_11
  have hm7_12 : ∀ i9, i9 < 8 → ct_12 (ko + 6 + 1 + i9) = some (rl ty 8 ((fun _ _ => (0 : Int)) i9)) := fun i9 hi9 => (ho_12 _ (by omega)).trans (hm7_11 i9 hi9)
  refine W.widen (k := 14) (n := 112) (by omega) (by omega) ?_
  exact W.vret hx hb hr (fun t ht hw => ⟨⟨ct_12, rfl, ⟨⟨hs_12, hm1_12, hm2_12, hm3_12, hm4_12, hm5_12, hm6_12, hm7_12⟩, fun q hq => hof_12 q (by omega) (by omega) (by omega) (by omega) (by omega) (by omega) (by omega) (by omega)⟩, by show rm_W D ad _ _ t.heap; rw [ht]; exact hW, Or.inr (by rw [ht]; omega)⟩, hS.F ht⟩) hS.2.2 dX2_init_56
set_option maxHeartbeats 4000000 in
set_option maxRecDepth 100000 in
theorem c_X3_init (l : Launch) (D : va_G) (ty : Nat → ClassId) (ad : Nat → Nat) (ct : rm_C) (sz : Nat) (po : Nat) (hno0 : ∀ j, po < j → j ≤ po + 10 → ct j = none) (had0 : ∀ j, 1 ≤ j → j ≤ 10 → ad (po + j) = sz + (j - 1)) (hO : ct po = some (.inr (3, [.null, .null, .int (jI 0), .int (jI 0), .long (jL 0)]))) : Met l yX3_init wsX3_init ({ frames := 1, cells := 10, slots := 80, locals := 30 }) (rm_P D ty ad ct sz [.ref (ad po)]) (rm_Qv D ad ct sz 10 (fun ct1 => PartsAt ty ad ct1 po 0 0 1 (fun _ => 0) (fun _ _ => 0) ∧ ∀ q, (q < po ∨ po + 10 < q) → ct1 q = ct q)) 10 80 (rm_A ad ct sz) := by
  refine Met.ofW (cc := cX3_init) (maxL := 1) (ret := none) (by decide) rfl ?_
  intro p e s m args below meth c s₁ B hml hv
  obtain ⟨hargs, hsz, hW, hK, hNw⟩ := hv
  have hx := B.exec
  have hb := B.bytes
  have hr := B.returns
  have hts := atoms_spec (ws := wsX3_init) B.pre
  have hown : s.vm.findClass RX3 = some m.cls := findClass_of_methodNamed B.named
  have hlocks := B.notSynchronized
  have hin : meth.name = "<init>" := (name_of_methodNamed B.named B.method).1
  subst hsz
  have hW := hW.own (sz := s.heap.size)
  have hA : ∀ q : Nat, s.heap.size ≤ q → rm_A ad ct s.heap.size q := fun q h => Or.inr h
  have hS : va_S (rm_A ad ct s.heap.size) s.heap s.heap [] := va_S.rf
  have hent : entryFrame m args 1 = entryFrame m ([.ref (ad po)] : List Value).toArray 1 := by rw [hargs]
  have hl := lv_entry ([.ref (ad po)]) (n := 1) (Nat.le_of_ble_eq_true rfl)
  rw [hent, lg_entry_eq]
  generalize (lg_sl ([.ref (ad po)]) ++ List.replicate (1 - (lg_sl ([.ref (ad po)])).length) Slot.unset).toArray = ls at hl ⊢
  have hl : lv_has ls 1 [(0, .ref (ad po))] := hl
  have hab1_0 : ct (po + 1) = none := hno0 _ (by omega) (by omega)
  have hab2_0 : ∀ i9, i9 < 8 → ct (po + 1 + 1 + i9) = none := fun i9 hi9 => hno0 _ (by omega) (by omega)
  have hab3_0 : ct (po + 10) = none := hno0 _ (by omega) (by omega)
  refine lv_aload_n hx hb dX3_init_0 rfl (lv_at hl 0 rfl) ?_
  refine W.objInit (g := F0 m 1 ls [.ref (ad po)]) hx hb hown (hts (.methodLink RX3 3 Lib.objectInit) (by decide +kernel)) (hts (.instanceMethod Lib.objectInit) (by decide +kernel)) (hts (.code Lib.objectInit ⟨#[0xb1]⟩ 1 none) (by decide +kernel)) rfl (hl.1.trans hml.symm) rfl dX3_init_1 (Nat.le_of_ble_eq_true rfl) (Nat.le_of_ble_eq_true rfl) ?_
  show W p l e _ s m args below meth c _ _ _ _ _ (F0 m 4 ls [])
  refine lv_aload_n hx hb dX3_init_4 rfl (lv_at hl 0 rfl) ?_
  refine lv_bipush (v := jI 8) hx hb dX3_init_5 (by decide) ?_
  refine lv_bipush (v := jI 8) hx hb dX3_init_7 (by decide) ?_
  have hno_1 : ∀ k, k ≤ 8 → ct ((po + 1) + k) = none := fun k h9 => by
    by_cases e9 : k = 0
    · rw [e9]; exact hab1_0
    · rw [show (po + 1) + k = po + 1 + 1 + (k - 1) by omega]; exact hab2_0 (k - 1) (by omega)
  refine rm_mna (fty := .long) (ko := 6) (ki := 1) (N' := 8) (K' := 8) (a0 := (8, .inr (.inl (fun _ => jL 0)))) hx hb hown (hts (.classLink RX3 9 "[[J") (by decide +kernel)) (va_AOA.use hNw.2.2.2.2.2) (hts (.arrayClass .long) (by decide +kernel)) hK hW hS hA rfl rfl (fun _ h9 => by cases h9) rfl rfl (by decide) (by decide) (by decide) (by decide) (by decide) (by decide) (by decide) (po + 1) hno_1 (fun k h9 => by have h8 := had0 (1 + k) (by omega) (by omega); rw [show po + 1 + k = po + (1 + k) by omega, h8]; omega) (Nat.le_of_ble_eq_true rfl) (Nat.le_of_ble_eq_true rfl) (fun _ => rfl) dX3_init_9 (fun H ct_1 hs_1 hi_1 ho_1 hW hS hz_1 => ?_)
  have ho_1 : ∀ q, q ≠ (po + 1) → (q < po + 1 + 1 ∨ po + 1 + 1 + 7 < q) → ct_1 q = ct q := fun q h1 h2 => ho_1 q (by omega)
  have hof_1 : ∀ q, q ≠ po → q ≠ (po + 1) → (q < po + 1 + 1 ∨ po + 1 + 1 + 7 < q) → q ≠ (po + 10) → ct_1 q = ct q := fun q h0_1 h1_1 h2_1 h3_1 => (ho_1 q h1_1 h2_1).trans rfl
  have hm0_1 : ct_1 po = some (.inr (3, [.null, .null, .int (jI 0), .int (jI 0), .long (jL 0)]) : va_E) := (ho_1 po (by omega) (by omega)).trans hO
  have hm1_1 : ct_1 (po + 1) = some (rq ty 6 8 (fun i => if i < 8 then some (ad (po + 1 + 1 + i)) else none)) := hs_1
  have hm2_1 : ∀ i9, i9 < 8 → ct_1 (po + 1 + 1 + i9) = some (rl ty 8 ((fun _ _ => (0 : Int)) i9)) := hi_1
  have hab0_1 : ct_1 (po + 10) = none := (ho_1 (po + 10) (by omega) (by omega)).trans hab3_0
  refine rm_putF (ci := 3) (v := .ref (ad (po + 1))) (fty := .array (.array .long)) (C := RX3) (T := TX3) (N := 5) hx hb hts (by decide +kernel) tyX3 tyX3_ok nmX3 hown hK hW hS hm0_1 rfl 0 (by decide) (hts (.fieldLink RX3 11 "GrainYard$Parts" "table" "[[J") (by decide +kernel)) (fun _ h9 => h9) rfl hin rfl (by decide +kernel) rfl rfl (Nat.le_of_ble_eq_true rfl) dX3_init_13 (fun H locs ct_2 hs_2 ho_2 hW hS hz_2 => ?_)
  have hs_2 : ct_2 po = some (.inr (3, [.ref (ad (po + 1)), .null, .int (jI 0), .int (jI 0), .long (jL 0)]) : va_E) := hs_2
  have hof_2 : ∀ q, q ≠ po → q ≠ (po + 1) → (q < po + 1 + 1 ∨ po + 1 + 1 + 7 < q) → q ≠ (po + 10) → ct_2 q = ct q := fun q h0_2 h1_2 h2_2 h3_2 => (ho_2 q h0_2).trans (hof_1 q h0_2 h1_2 h2_2 h3_2)
  have hm1_2 : ct_2 (po + 1) = some (rq ty 6 8 (fun i => if i < 8 then some (ad (po + 1 + 1 + i)) else none)) := (ho_2 (po + 1) (by omega)).trans hm1_1
  have hm2_2 : ∀ i9, i9 < 8 → ct_2 (po + 1 + 1 + i9) = some (rl ty 8 ((fun _ _ => (0 : Int)) i9)) := fun i9 hi9 => (ho_2 _ (by omega)).trans (hm2_1 i9 hi9)
  have hab0_2 : ct_2 (po + 10) = none := (ho_2 (po + 10)  (by omega)).trans hab0_1
  refine lv_aload_n hx hb dX3_init_16 rfl (lv_at hl 0 rfl) ?_
  refine lv_bipush (v := jI 8) hx hb dX3_init_17 (by decide) ?_
  have hno_3 : ct_2 (po + 10) = none := hab0_2
  refine rm_newA (atype := .long) (fty := .long) (k := 1) (N' := 8) (a0 := (8, .inr (.inl (fun _ => jL 0)))) hx hb (hts (.arrayClass .long) (by decide +kernel)) rfl hK hW hS hA rfl (fun _ h9 => by cases h9) (fun _ => rfl) rfl (by decide) (by decide) (po + 10) hno_3 (by rw [had0 10 (by omega) (by omega)]; omega) (Nat.le_of_ble_eq_true rfl) (Nat.le_of_ble_eq_true rfl) dX3_init_19 (fun H ct_3 hs_3 ho_3 hW hS hz_3 => ?_)
  have hs_3 : ct_3 (po + 10) = some (rl ty 8 (fun _ => (0 : Int))) := hs_3
  have hof_3 : ∀ q, q ≠ po → q ≠ (po + 1) → (q < po + 1 + 1 ∨ po + 1 + 1 + 7 < q) → q ≠ (po + 10) → ct_3 q = ct q := fun q h0_3 h1_3 h2_3 h3_3 => (ho_3 q h3_3).trans (hof_2 q h0_3 h1_3 h2_3 h3_3)
  have hm0_3 : ct_3 po = some (.inr (3, [.ref (ad (po + 1)), .null, .int (jI 0), .int (jI 0), .long (jL 0)]) : va_E) := (ho_3 po (by omega)).trans hs_2
  have hm1_3 : ct_3 (po + 1) = some (rq ty 6 8 (fun i => if i < 8 then some (ad (po + 1 + 1 + i)) else none)) := (ho_3 (po + 1) (by omega)).trans hm1_2
  have hm2_3 : ∀ i9, i9 < 8 → ct_3 (po + 1 + 1 + i9) = some (rl ty 8 ((fun _ _ => (0 : Int)) i9)) := fun i9 hi9 => (ho_3 _ (by omega)).trans (hm2_2 i9 hi9)
  refine rm_putF (ci := 3) (v := .ref (ad (po + 10))) (fty := .array .long) (C := RX3) (T := TX3) (N := 5) hx hb hts (by decide +kernel) tyX3 tyX3_ok nmX3 hown hK hW hS hm0_3 rfl 1 (by decide) (hts (.fieldLink RX3 16 "GrainYard$Parts" "rounds" "[J") (by decide +kernel)) (fun _ h9 => h9) rfl hin rfl (by decide +kernel) rfl rfl (Nat.le_of_ble_eq_true rfl) dX3_init_21 (fun H locs ct_4 hs_4 ho_4 hW hS hz_4 => ?_)
  have hs_4 : ct_4 po = some (.inr (3, [.ref (ad (po + 1)), .ref (ad (po + 10)), .int (jI 0), .int (jI 0), .long (jL 0)]) : va_E) := hs_4
  have hof_4 : ∀ q, q ≠ po → q ≠ (po + 1) → (q < po + 1 + 1 ∨ po + 1 + 1 + 7 < q) → q ≠ (po + 10) → ct_4 q = ct q := fun q h0_4 h1_4 h2_4 h3_4 => (ho_4 q h0_4).trans (hof_3 q h0_4 h1_4 h2_4 h3_4)
  have hm1_4 : ct_4 (po + 1) = some (rq ty 6 8 (fun i => if i < 8 then some (ad (po + 1 + 1 + i)) else none)) := (ho_4 (po + 1) (by omega)).trans hm1_3
  have hm2_4 : ∀ i9, i9 < 8 → ct_4 (po + 1 + 1 + i9) = some (rl ty 8 ((fun _ _ => (0 : Int)) i9)) := fun i9 hi9 => (ho_4 _ (by omega)).trans (hm2_3 i9 hi9)
  have hm3_4 : ct_4 (po + 10) = some (rl ty 8 (fun _ => (0 : Int))) := (ho_4 (po + 10) (by omega)).trans hs_3
  refine lv_aload_n hx hb dX3_init_24 rfl (lv_at hl 0 rfl) ?_
  refine lv_iconst (v := jI 0) hx hb dX3_init_25 rfl ?_
  refine rm_put (ci := 3) (v := .int (jI 0)) (fty := .int) (C := RX3) (T := TX3) (N := 5) hx hb hts (by decide +kernel) tyX3 tyX3_ok nmX3 hown hK hW hS hs_4 rfl 2 (by decide) (hts (.fieldLink RX3 20 "GrainYard$Parts" "size" "I") (by decide +kernel)) (fun _ h9 => h9) rfl (by decide +kernel) rfl rfl (Nat.le_of_ble_eq_true rfl) dX3_init_26 (fun H locs ct_5 hs_5 ho_5 hW hS hz_5 => ?_)
  have hs_5 : ct_5 po = some (.inr (3, [.ref (ad (po + 1)), .ref (ad (po + 10)), .int (jI 0), .int (jI 0), .long (jL 0)]) : va_E) := hs_5
  have hof_5 : ∀ q, q ≠ po → q ≠ (po + 1) → (q < po + 1 + 1 ∨ po + 1 + 1 + 7 < q) → q ≠ (po + 10) → ct_5 q = ct q := fun q h0_5 h1_5 h2_5 h3_5 => (ho_5 q h0_5).trans (hof_4 q h0_5 h1_5 h2_5 h3_5)
  have hm1_5 : ct_5 (po + 1) = some (rq ty 6 8 (fun i => if i < 8 then some (ad (po + 1 + 1 + i)) else none)) := (ho_5 (po + 1) (by omega)).trans hm1_4
  have hm2_5 : ∀ i9, i9 < 8 → ct_5 (po + 1 + 1 + i9) = some (rl ty 8 ((fun _ _ => (0 : Int)) i9)) := fun i9 hi9 => (ho_5 _ (by omega)).trans (hm2_4 i9 hi9)
  have hm3_5 : ct_5 (po + 10) = some (rl ty 8 (fun _ => (0 : Int))) := (ho_5 (po + 10) (by omega)).trans hm3_4
  refine lv_aload_n hx hb dX3_init_29 rfl (lv_at hl 0 rfl) ?_
  refine lv_iconst (v := jI 0) hx hb dX3_init_30 rfl ?_
  refine rm_put (ci := 3) (v := .int (jI 0)) (fty := .int) (C := RX3) (T := TX3) (N := 5) hx hb hts (by decide +kernel) tyX3 tyX3_ok nmX3 hown hK hW hS hs_5 rfl 3 (by decide) (hts (.fieldLink RX3 24 "GrainYard$Parts" "ones" "I") (by decide +kernel)) (fun _ h9 => h9) rfl (by decide +kernel) rfl rfl (Nat.le_of_ble_eq_true rfl) dX3_init_31 (fun H locs ct_6 hs_6 ho_6 hW hS hz_6 => ?_)
  have hs_6 : ct_6 po = some (.inr (3, [.ref (ad (po + 1)), .ref (ad (po + 10)), .int (jI 0), .int (jI 0), .long (jL 0)]) : va_E) := hs_6
  have hof_6 : ∀ q, q ≠ po → q ≠ (po + 1) → (q < po + 1 + 1 ∨ po + 1 + 1 + 7 < q) → q ≠ (po + 10) → ct_6 q = ct q := fun q h0_6 h1_6 h2_6 h3_6 => (ho_6 q h0_6).trans (hof_5 q h0_6 h1_6 h2_6 h3_6)
  have hm1_6 : ct_6 (po + 1) = some (rq ty 6 8 (fun i => if i < 8 then some (ad (po + 1 + 1 + i)) else none)) := (ho_6 (po + 1) (by omega)).trans hm1_5
  have hm2_6 : ∀ i9, i9 < 8 → ct_6 (po + 1 + 1 + i9) = some (rl ty 8 ((fun _ _ => (0 : Int)) i9)) := fun i9 hi9 => (ho_6 _ (by omega)).trans (hm2_5 i9 hi9)
  have hm3_6 : ct_6 (po + 10) = some (rl ty 8 (fun _ => (0 : Int))) := (ho_6 (po + 10) (by omega)).trans hm3_5
  refine lv_aload_n hx hb dX3_init_34 rfl (lv_at hl 0 rfl) ?_
  refine lv_lconst (v := jL 1) hx hb dX3_init_35 rfl ?_
  refine rm_put (ci := 3) (v := .long (jL 1)) (fty := .long) (C := RX3) (T := TX3) (N := 5) hx hb hts (by decide +kernel) tyX3 tyX3_ok nmX3 hown hK hW hS hs_6 rfl 4 (by decide) (hts (.fieldLink RX3 27 "GrainYard$Parts" "trees" "J") (by decide +kernel)) (fun _ h9 => h9) rfl (by decide +kernel) rfl rfl (Nat.le_of_ble_eq_true rfl) dX3_init_36 (fun H locs ct_7 hs_7 ho_7 hW hS hz_7 => ?_)
  have hs_7 : ct_7 po = some (.inr (3, [.ref (ad (po + 1)), .ref (ad (po + 10)), .int (jI 0), .int (jI 0), .long (jL 1)]) : va_E) := hs_7
  have hof_7 : ∀ q, q ≠ po → q ≠ (po + 1) → (q < po + 1 + 1 ∨ po + 1 + 1 + 7 < q) → q ≠ (po + 10) → ct_7 q = ct q := fun q h0_7 h1_7 h2_7 h3_7 => (ho_7 q h0_7).trans (hof_6 q h0_7 h1_7 h2_7 h3_7)
  have hm1_7 : ct_7 (po + 1) = some (rq ty 6 8 (fun i => if i < 8 then some (ad (po + 1 + 1 + i)) else none)) := (ho_7 (po + 1) (by omega)).trans hm1_6
  have hm2_7 : ∀ i9, i9 < 8 → ct_7 (po + 1 + 1 + i9) = some (rl ty 8 ((fun _ _ => (0 : Int)) i9)) := fun i9 hi9 => (ho_7 _ (by omega)).trans (hm2_6 i9 hi9)
  have hm3_7 : ct_7 (po + 10) = some (rl ty 8 (fun _ => (0 : Int))) := (ho_7 (po + 10) (by omega)).trans hm3_6
  refine W.widen (k := 10) (n := 80) (by omega) (by omega) ?_
  exact W.vret hx hb hr (fun t ht hw => ⟨⟨ct_7, rfl, ⟨⟨hs_7, hm1_7, hm3_7, hm2_7⟩, fun q hq => hof_7 q (by omega) (by omega) (by omega) (by omega)⟩, by show rm_W D ad _ _ t.heap; rw [ht]; exact hW, Or.inr (by rw [ht]; omega)⟩, hS.F ht⟩) hS.2.2 dX3_init_39
