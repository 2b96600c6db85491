section ModPic10
def rsw (A : Nat → Nat → Int) (a b k : Nat) : Nat → Nat → Int := fun r c => if c < k then A (swp a b r) c else A r c
theorem rsw_0 (A : Nat → Nat → Int) (a b : Nat) : A = rsw A a b 0 := by funext r c; unfold rsw; rw [if_neg (by omega)]
theorem rsw_at {A : Nat → Nat → Int} {a b k r c : Nat} (h : k ≤ c) : rsw A a b k r c = A r c := if_neg (by omega)
theorem rsw_s {A : Nat → Nat → Int} {a b k : Nat} (h : a ≠ b) : ub (ub (rsw A a b k) a (ub (rsw A a b k a) k (A b k))) b (ub ((ub (rsw A a b k) a (ub (rsw A a b k a) k (A b k))) b) k (A a k)) = rsw A a b (k + 1) := by
  funext r c
  by_cases e1 : r = b
  · subst e1; rw [ub_s]
    by_cases e2 : c = k
    · subst e2; rw [ub_s]; unfold rsw swp; rw [if_pos (by omega), if_neg (fun q => h q.symm), if_pos rfl]
    · rw [ub_n _ _ e2, ub_n _ _ (fun q => h q.symm)]; unfold rsw
      by_cases e3 : c < k
      · rw [if_pos e3, if_pos (by omega)]
      · rw [if_neg e3, if_neg (by omega)]
  · rw [ub_n _ _ e1]
    by_cases e4 : r = a
    · subst e4; rw [ub_s]
      by_cases e2 : c = k
      · subst e2; rw [ub_s]; unfold rsw swp; rw [if_pos (by omega), if_pos rfl]
      · rw [ub_n _ _ e2]; unfold rsw
        by_cases e3 : c < k
        · rw [if_pos e3, if_pos (by omega)]
        · rw [if_neg e3, if_neg (by omega)]
    · rw [ub_n _ _ e4]; unfold rsw swp
      by_cases e3 : c < k
      · rw [if_pos e3, if_pos (show c < k + 1 by omega)]
      · rw [if_neg e3]
        by_cases e5 : c < k + 1
        · rw [if_pos e5, if_neg e4, if_neg e1]
        · rw [if_neg e5]
def elm (k n : Nat) (b : Int) (A : Nat → Nat → Int) (i j : Nat) : Nat → Nat → Int := fun r c => if (k < r ∧ r < i ∧ k < c ∧ c < n) ∨ (r = i ∧ k < c ∧ c < j) then (A r c * A k k - A r k * A k c).tdiv b else A r c
theorem elm_0 (k n : Nat) (b : Int) (A : Nat → Nat → Int) : A = elm k n b A (k + 1) (k + 1) := by funext r c; unfold elm; rw [if_neg (by omega)]
theorem elm_o {k n : Nat} {b : Int} {A : Nat → Nat → Int} {i j r c : Nat} (h : ¬ ((k < r ∧ r < i ∧ k < c ∧ c < n) ∨ (r = i ∧ k < c ∧ c < j))) : elm k n b A i j r c = A r c := if_neg h
theorem elm_s {k n : Nat} {b : Int} {A : Nat → Nat → Int} {i j : Nat} (hi : k < i) (hj : k < j) : ub (elm k n b A i j) i (ub (elm k n b A i j i) j ((A i j * A k k - A i k * A k j).tdiv b)) = elm k n b A i (j + 1) := by
  funext r c
  by_cases e1 : r = i
  · subst e1; rw [ub_s]
    by_cases e2 : c = j
    · subst e2; rw [ub_s]; unfold elm; rw [if_pos (by omega)]
    · rw [ub_n _ _ e2]; unfold elm
      by_cases e3 : (k < r ∧ r < r ∧ k < c ∧ c < n) ∨ (r = r ∧ k < c ∧ c < j)
      · rw [if_pos e3, if_pos (by omega)]
      · rw [if_neg e3, if_neg (by omega)]
  · rw [ub_n _ _ e1]; unfold elm
    by_cases e3 : (k < r ∧ r < i ∧ k < c ∧ c < n) ∨ (r = i ∧ k < c ∧ c < j)
    · rw [if_pos e3, if_pos (by omega)]
    · rw [if_neg e3, if_neg (by omega)]
theorem elm_n {k n : Nat} {b : Int} {A : Nat → Nat → Int} {i : Nat} (hi : k < i) : elm k n b A i n = elm k n b A (i + 1) (k + 1) := by
  funext r c; unfold elm
  by_cases e3 : (k < r ∧ r < i ∧ k < c ∧ c < n) ∨ (r = i ∧ k < c ∧ c < n)
  · rw [if_pos e3, if_pos (by omega)]
  · rw [if_neg e3, if_neg (by omega)]
theorem mul_bd {a b : Int} (ha : -2147483648 < a ∧ a < 2147483648) (hb : -2147483648 < b ∧ b < 2147483648) : -4611686014132420609 ≤ a * b ∧ a * b ≤ 4611686014132420609 := by
  have h1 : a.natAbs * b.natAbs ≤ 2147483647 * 2147483647 := Nat.mul_le_mul (by omega) (by omega)
  rw [← Int.natAbs_mul] at h1
  omega
def bdA (n : Nat) (A : Nat → Nat → Int) : Prop := ∀ q, q ≤ n → ∀ σ τ : Nat → Nat, (∀ r, r < q → σ r < n) → (∀ y, y < q → τ y < n) → -2147483648 < dt q (fun r y => A (σ r) (τ y)) ∧ dt q (fun r y => A (σ r) (τ y)) < 2147483648
theorem bdA_mi {n : Nat} {A : Nat → Nat → Int} (h : bdA n A) {σ : Nat → Nat} (hσ : ∀ r, r < n → σ r < n) {q i j : Nat} (hq : q < n) (hi : i < n) (hj : j < n) : -2147483648 < mi (fun r y => A (σ r) y) q i j ∧ mi (fun r y => A (σ r) y) q i j < 2147483648 :=
  h (q + 1) (by omega) (fun r => σ (if r < q then r else i)) (fun y => if y < q then y else j) (fun r hr => hσ _ (by split <;> omega)) (fun y hy => by split <;> omega)
theorem bdA_dt {n : Nat} {A : Nat → Nat → Int} (h : bdA n A) {σ : Nat → Nat} (hσ : ∀ r, r < n → σ r < n) {q : Nat} (hq : q ≤ n) : -2147483648 < dt q (fun r y => A (σ r) y) ∧ dt q (fun r y => A (σ r) y) < 2147483648 :=
  h q hq σ (fun y => y) (fun r hr => hσ r (by omega)) (fun y hy => by omega)
theorem mi_swp {A : Nat → Nat → Int} {σ : Nat → Nat} {a k i j : Nat} (ha : k ≤ a) (hi : k ≤ i) : mi (fun r y => A (σ (swp a k r)) y) k i j = mi (fun r y => A (σ r) y) k (swp a k i) j := by
  unfold mi
  exact dt_cong (fun r y hr hy => by
    by_cases e : r < k
    · rw [if_pos e, if_pos e]
      have h9 : swp a k r = r := by unfold swp; rw [if_neg (show ¬ r = a by omega), if_neg (show ¬ r = k by omega)]
      dsimp only; rw [h9]
    · rw [if_neg e, if_neg e])
theorem dt_swp {A : Nat → Nat → Int} {σ : Nat → Nat} {a k : Nat} (ha : k ≤ a) : dt k (fun r y => A (σ (swp a k r)) y) = dt k (fun r y => A (σ r) y) := dt_cong (fun r y hr hy => by
  have h9 : swp a k r = r := by unfold swp; rw [if_neg (show ¬ r = a by omega), if_neg (show ¬ r = k by omega)]
  rw [h9])
theorem mi_0 (B : Nat → Nat → Int) (i j : Nat) : mi B 0 i j = B i j := by
  rw [mi_eq, dt_0, Int.one_mul, gs_z, Int.sub_zero]
/-- the steps' state: rows told by σ, the entries from k on are minors -/
def dst (n : Nat) (A : Nat → Nat → Int) (q : Nat) (σ : Nat → Nat) (Ak : Nat → Nat → Int) (sgn : Int) : Prop :=
  (∀ r, r < n → σ r < n) ∧ (∀ i j, q ≤ i → i < n → q ≤ j → j < n → Ak i j = mi (fun r y => A (σ r) y) q i j) ∧ dt q (fun r y => A (σ r) y) ≠ 0 ∧ sgn * dt n (fun r y => A (σ r) y) = dt n A ∧ (sgn = 1 ∨ sgn = -1)
theorem dst_0 (n : Nat) (A : Nat → Nat → Int) : dst n A 0 (fun r => r) A 1 := ⟨fun _ h => h, fun i j _ _ _ _ => (mi_0 _ i j).symm, by rw [dt_0]; omega, Int.one_mul _, Or.inl rfl⟩
theorem dst_swp {n : Nat} {A : Nat → Nat → Int} {q : Nat} {σ : Nat → Nat} {Ak : Nat → Nat → Int} {sgn : Int} (h : dst n A q σ Ak sgn) {a : Nat} (ha : q < a) (han : a < n) : dst n A q (fun r => σ (swp a q r)) (rsw Ak a q n) (-sgn) := by
  obtain ⟨h1, h2, h3, h4, h5⟩ := h
  have hsw : ∀ r, r < n → swp a q r < n := fun r hr => by unfold swp; split; omega; split <;> omega
  refine ⟨fun r hr => h1 _ (hsw r hr), fun i j hi hin hj hjn => ?_, ?_, ?_, by omega⟩
  · rw [mi_swp (by omega) hi]
    unfold rsw; rw [if_pos hjn]
    exact h2 _ _ (by unfold swp; split; omega; split <;> omega) (hsw i hin) hj hjn
  · rw [dt_swp (by omega)]; exact h3
  · have h6 := dt_rsw (fun r y => A (σ r) y) (show a ≠ q by omega) han (show q < n by omega)
    rw [h6, Int.neg_mul_neg]; exact h4
theorem dst_next {n : Nat} {A : Nat → Nat → Int} {q : Nat} {σ : Nat → Nat} {Ak : Nat → Nat → Int} {sgn : Int} (h : dst n A q σ Ak sgn) (hq : q < n) (hp : Ak q q ≠ 0) : dst n A (q + 1) σ (elm q n (dt q (fun r y => A (σ r) y)) Ak n (q + 1)) sgn := by
  obtain ⟨h1, h2, h3, h4, h5⟩ := h
  refine ⟨h1, fun i j hi hin hj hjn => ?_, ?_, h4, h5⟩
  · have h6 := mi_step (fun r y => A (σ r) y) q i j
    unfold elm; rw [if_pos (by omega), h2 i j (by omega) hin (by omega) hjn, h2 q q (by omega) hq (by omega) hq, h2 i q (by omega) hin (by omega) hq, h2 q j (by omega) hq (by omega) hjn, ← h6]
    exact Int.mul_tdiv_cancel_left _ h3
  · rw [mi_lead, ← h2 q q (by omega) hq (by omega) hq]; exact hp
theorem dst_none {n : Nat} {A : Nat → Nat → Int} {q : Nat} {σ : Nat → Nat} {Ak : Nat → Nat → Int} {sgn : Int} (h : dst n A q σ Ak sgn) (hq : q < n) (hz : ∀ i, q ≤ i → i < n → Ak i q = 0) : dt n A = 0 := by
  obtain ⟨h1, h2, h3, h4, h5⟩ := h
  have h6 := mi_zero h3 hq (fun i hi hin => by rw [← h2 i q hi hin (by omega) hq]; exact hz i hi hin)
  rw [← h4, h6, Int.mul_zero]
theorem dst_rng {n : Nat} {A : Nat → Nat → Int} (hb : bdA n A) {q : Nat} {σ : Nat → Nat} {Ak : Nat → Nat → Int} {sgn : Int} (h : dst n A q σ Ak sgn) (hq : q < n) {i j : Nat} (hi : q ≤ i) (hin : i < n) (hj : q ≤ j) (hjn : j < n) : -2147483648 < Ak i j ∧ Ak i j < 2147483648 := by
  rw [h.2.1 i j hi hin hj hjn]; exact bdA_mi hb h.1 hq hin hjn
end ModPic10
set_option maxHeartbeats 4000000 in
set_option maxRecDepth 100000 in
theorem c_X6_entry (l : Launch) (D : va_G) (ty : Nat → ClassId) (ad : Nat → Nat) (ct : rm_C) (sz : Nat) (th : Int) (yc hc : Nat) (yn : Nat → Nat) (yM : Nat → Nat → Nat → Int) (yu : Nat → Int) (hy : Nat → Nat) (hg hf mA : Nat → Nat → Int) (pt ro ke kt mu sl tw bw de : Nat → Int) (hMo : ModAt ty ad ct th yc hc yn yM yu hy hg hf mA pt ro ke kt mu sl tw bw de) (y9 : Nat) (hy9 : y9 < 6) (hn9 : 2 ≤ yn y9 ∧ yn y9 ≤ 8) (hM9 : ∀ i j, 0 ≤ yM y9 i j ∧ yM y9 i j ≤ 3) (a9 b9 : Nat) (ha9 : a9 < 8) (hb9 : b9 < 8) : Met l yX6_entry wsX6_entry ({ frames := 2, cells := 0, slots := 0, locals := 47 }) (rm_P D ty ad ct sz [.ref (ad 1000), .int (jI ((y9 : Nat) : Int)), .int (jI ((a9 : Nat) : Int)), .int (jI ((b9 : Nat) : Int))]) (rm_Ql D ad ct sz (fun z ct1 => z = lap (yn y9) (yM y9) a9 b9 ∧ ct1 = ct)) 0 0 (rm_A ad ct sz) := by
  refine Met.ofW (cc := cX6_entry) (maxL := 4) (ret := (some .long)) (by decide) rfl ?_
  intro p e s m args below meth c s₁ B hml hv
  obtain ⟨hargs, hsz, hW, hK, hNw⟩ := hv
  have hx := B.exec
  have hb := B.bytes
  have hr := B.returns
  have hts := atoms_spec (ws := wsX6_entry) B.pre
  have hown : s.vm.findClass RX6 = some m.cls := findClass_of_methodNamed B.named
  have hlocks := B.notSynchronized
  subst hsz
  have hW := hW.own (sz := s.heap.size)
  have hA : ∀ q : Nat, s.heap.size ≤ q → rm_A ad ct s.heap.size q := fun q h => Or.inr h
  have hS : va_S (rm_A ad ct s.heap.size) s.heap s.heap [] := va_S.rf
  have hent : entryFrame m args 4 = entryFrame m ([.ref (ad 1000), .int (jI ((y9 : Nat) : Int)), .int (jI ((a9 : Nat) : Int)), .int (jI ((b9 : Nat) : Int))] : List Value).toArray 4 := by rw [hargs]
  have hl := lv_entry ([.ref (ad 1000), .int (jI ((y9 : Nat) : Int)), .int (jI ((a9 : Nat) : Int)), .int (jI ((b9 : Nat) : Int))]) (n := 4) (Nat.le_of_ble_eq_true rfl)
  rw [hent, lg_entry_eq]
  generalize (lg_sl ([.ref (ad 1000), .int (jI ((y9 : Nat) : Int)), .int (jI ((a9 : Nat) : Int)), .int (jI ((b9 : Nat) : Int))]) ++ List.replicate (4 - (lg_sl ([.ref (ad 1000), .int (jI ((y9 : Nat) : Int)), .int (jI ((a9 : Nat) : Int)), .int (jI ((b9 : Nat) : Int))])).length) Slot.unset).toArray = ls at hl ⊢
  have hl : lv_has ls 4 [(0, .ref (ad 1000)), (1, .int (jI ((y9 : Nat) : Int))), (2, .int (jI ((a9 : Nat) : Int))), (3, .int (jI ((b9 : Nat) : Int)))] := hl
  have hdq := dg_rng8 hM9 hn9.2 a9
  have hMb := hM9 a9 b9
  refine lv_iload_n hx hb dX6_entry_0 rfl (lv_at hl 2 rfl) ?_
  refine lv_iload_n hx hb dX6_entry_1 rfl (lv_at hl 3 rfl) ?_
  refine rm_icmp_ne (tgt := 15) hx hb ⟨by omega, by omega⟩ ⟨by omega, by omega⟩ dX6_entry_2 (by decide) (fun hc_1 => ?_) (fun hc_1 => ?_)
  · skip
    refine lv_aload_n hx hb dX6_entry_15 rfl (lv_at hl 0 rfl) ?_
    refine lv_iload_n hx hb dX6_entry_16 rfl (lv_at hl 1 rfl) ?_
    refine lv_iload_n hx hb dX6_entry_17 rfl (lv_at hl 2 rfl) ?_
    refine lv_iload_n hx hb dX6_entry_18 rfl (lv_at hl 3 rfl) ?_
    refine rm_calli (va_runV (As := [.int (jI ((y9 : Nat) : Int)), .int (jI ((a9 : Nat) : Int)), .int (jI ((b9 : Nat) : Int))]) (rest := []) ⟨hx, hb, hml, hown, hts⟩ (c_X6_between l D ty ad ct s.heap.size th yc hc yn yM yu hy hg hf mA pt ro ke kt mu sl tw bw de hMo y9 a9 b9 hy9 ha9 hb9) (cwV 3 hts gX6_entry_X6_between rfl rfl rfl (by decide +kernel) ⟨Nat.le_of_ble_eq_true rfl, Nat.le_of_ble_eq_true rfl⟩) (rm_preV hK hNw hW hMo.1 rfl) rfl rfl hl.1 rfl (lv_room (Nat.le_of_ble_eq_true rfl)) dX6_entry_19 ⟨Nat.zero_le _, Nat.zero_le _⟩) hW hS hA (fun z_2 ct_2 H locs hq_2 hW hS => ?_)
    obtain ⟨hz, hcc_2⟩ := hq_2
    have hcc_2 := hcc_2.symm
    subst hcc_2
    subst hz
    refine rm_ineg hx hb dX6_entry_22 ?_
    refine rm_i2l hx hb dX6_entry_23 ⟨by omega, by omega⟩ ?_
    exact W.lret hx hb hr (fun t ht hw => ⟨⟨_, ((-((yM y9) a9 b9)), ct), rfl, ⟨rfl, ⟨(if_neg (by omega)).symm, rfl⟩⟩, by show rm_W D ad _ _ t.heap; rw [ht]; exact hW⟩, hS.F ht⟩) hS.2.2 dX6_entry_24
  · skip
    refine lv_aload_n hx hb dX6_entry_5 rfl (lv_at hl 0 rfl) ?_
    refine lv_iload_n hx hb dX6_entry_6 rfl (lv_at hl 1 rfl) ?_
    refine lv_iload_n hx hb dX6_entry_7 rfl (lv_at hl 2 rfl) ?_
    refine rm_calli (va_runV (As := [.int (jI ((y9 : Nat) : Int)), .int (jI ((a9 : Nat) : Int))]) (rest := []) ⟨hx, hb, hml, hown, hts⟩ (c_X6_degreeOf l D ty ad ct s.heap.size th yc hc yn yM yu hy hg hf mA pt ro ke kt mu sl tw bw de hMo y9 hy9 hn9 hM9 a9 ha9) (cwV 2 hts gX6_entry_X6_degreeOf rfl rfl rfl (by decide +kernel) ⟨Nat.le_of_ble_eq_true rfl, Nat.le_of_ble_eq_true rfl⟩) (rm_preV hK hNw hW hMo.1 rfl) rfl rfl hl.1 rfl (lv_room (Nat.le_of_ble_eq_true rfl)) dX6_entry_8 ⟨Nat.zero_le _, Nat.zero_le _⟩) hW hS hA (fun z_3 ct_3 H locs hq_3 hW hS => ?_)
    obtain ⟨hz, hcc_3⟩ := hq_3
    have hcc_3 := hcc_3.symm
    subst hcc_3
    subst hz
    refine rm_i2l hx hb dX6_entry_11 ⟨by omega, by omega⟩ ?_
    refine lv_goto (tgt := 24) hx hb dX6_entry_12 (by decide) ?_
    exact W.lret hx hb hr (fun t ht hw => ⟨⟨_, ((dg (yn y9) (yM y9) a9), ct), rfl, ⟨rfl, ⟨(if_pos (by omega)).symm, rfl⟩⟩, by show rm_W D ad _ _ t.heap; rw [ht]; exact hW⟩, hS.F ht⟩) hS.2.2 dX6_entry_24
set_option maxHeartbeats 4000000 in
set_option maxRecDepth 100000 in
theorem c_X6_swap (l : Launch) (D : va_G) (ty : Nat → ClassId) (ad : Nat → Nat) (ct : rm_C) (sz : Nat) (th : Int) (yc hc : Nat) (yn : Nat → Nat) (yM : Nat → Nat → Nat → Int) (yu : Nat → Int) (hy : Nat → Nat) (hg hf mA : Nat → Nat → Int) (pt ro ke kt mu sl tw bw de : Nat → Int) (hMo : ModAt ty ad ct th yc hc yn yM yu hy hg hf mA pt ro ke kt mu sl tw bw de) (a9 b9 n9 : Nat) (ha9 : a9 < 7) (hb9 : b9 < 7) (hab : a9 ≠ b9) (hn9 : n9 ≤ 7) : Met l yX6_swap wsX6_swap ({ frames := 0, cells := 0, slots := 0, locals := 0 }) (rm_P D ty ad ct sz [.ref (ad 1000), .int (jI ((a9 : Nat) : Int)), .int (jI ((b9 : Nat) : Int)), .int (jI ((n9 : Nat) : Int))]) (rm_Qv D ad ct sz 0 (fun ct1 => ct1 1007 = some (rl ty 49 (fl 7 (rsw mA a9 b9 n9))) ∧ (∀ q, q ≠ 1007 → ct1 q = ct q))) 0 0 (rm_A ad ct sz) := by
  refine Met.ofW (cc := cX6_swap) (maxL := 7) (ret := none) (by decide) rfl ?_
  intro p e s m args below meth c s₁ B hml hv
  obtain ⟨hargs, hsz, hW, hK, hNw⟩ := hv
  have hx := B.exec
  have hb := B.bytes
  have hr := B.returns
  have hts := atoms_spec (ws := wsX6_swap) B.pre
  have hown : s.vm.findClass RX6 = some m.cls := findClass_of_methodNamed B.named
  have hlocks := B.notSynchronized
  subst hsz
  have hW := hW.own (sz := s.heap.size)
  have hA : ∀ q : Nat, s.heap.size ≤ q → rm_A ad ct s.heap.size q := fun q h => Or.inr h
  have hS : va_S (rm_A ad ct s.heap.size) s.heap s.heap [] := va_S.rf
  have hent : entryFrame m args 7 = entryFrame m ([.ref (ad 1000), .int (jI ((a9 : Nat) : Int)), .int (jI ((b9 : Nat) : Int)), .int (jI ((n9 : Nat) : Int))] : List Value).toArray 7 := by rw [hargs]
  have hl := lv_entry ([.ref (ad 1000), .int (jI ((a9 : Nat) : Int)), .int (jI ((b9 : Nat) : Int)), .int (jI ((n9 : Nat) : Int))]) (n := 7) (Nat.le_of_ble_eq_true rfl)
  rw [hent, lg_entry_eq]
  generalize (lg_sl ([.ref (ad 1000), .int (jI ((a9 : Nat) : Int)), .int (jI ((b9 : Nat) : Int)), .int (jI ((n9 : Nat) : Int))]) ++ List.replicate (7 - (lg_sl ([.ref (ad 1000), .int (jI ((a9 : Nat) : Int)), .int (jI ((b9 : Nat) : Int)), .int (jI ((n9 : Nat) : Int))])).length) Slot.unset).toArray = ls at hl ⊢
  have hl : lv_has ls 7 [(0, .ref (ad 1000)), (1, .int (jI ((a9 : Nat) : Int))), (2, .int (jI ((b9 : Nat) : Int))), (3, .int (jI ((n9 : Nat) : Int)))] := hl
  refine lv_iconst (v := jI 0) hx hb dX6_swap_0 rfl ?_
  refine lv_istore (lv' := [(4, .int (jI 0)), (0, .ref (ad 1000)), (1, .int (jI ((a9 : Nat) : Int))), (2, .int (jI ((b9 : Nat) : Int))), (3, .int (jI ((n9 : Nat) : Int)))]) hx hb dX6_swap_1 hl (by decide) rfl (fun ls hl => ?_)
  have LP : ∀ (k : Nat) (i8 : Nat) (hi8 : i8 ≤ n9), n9 - i8 < k → ∀ (ctv : rm_C) (H : Heap) (locs : List Loc), (ctv 1007 = some (rl ty 49 (fl 7 (rsw mA a9 b9 i8)))) → ∀ (_ : True), (∀ q, q ≠ 1007 → ctv q = ct q) → ∀ (_ : True), rm_W D ad ctv (rm_A ad ct s.heap.size) H → va_S (rm_A ad ct s.heap.size) s.heap H locs → ∀ ls : Array Slot, lv_has ls 7 [(4, .int (jI ((i8 : Nat) : Int))), (0, .ref (ad 1000)), (1, .int (jI ((a9 : Nat) : Int))), (2, .int (jI ((b9 : Nat) : Int))), (3, .int (jI ((n9 : Nat) : Int)))] → W p l e (headSpec wsX6_swap ({ frames := 0, cells := 0, slots := 0, locals := 0 })).room s m args below meth c H locs 0 0 (MQ below (rm_Qv D ad ct s.heap.size 0 (fun ct1 => ct1 1007 = some (rl ty 49 (fl 7 (rsw mA a9 b9 n9))) ∧ (∀ q, q ≠ 1007 → ct1 q = ct q))) args s 0 0 (rm_A ad ct s.heap.size)) (F0 m 3 ls []) := by
    intro k
    induction k with
    | zero => intro i8 hi8 hk; exact absurd hk (Nat.not_lt_zero _)
    | succ k ih_LP =>
      intro i8 hi8 hk ctv_1 H locs hv0_1 _ hofv_1 _ hW hS ls hl
      refine lv_iload hx hb dX6_swap_3 (lv_at hl 0 rfl) ?_
      refine lv_iload_n hx hb dX6_swap_5 rfl (lv_at hl 4 rfl) ?_
      refine rm_icmp_ge (tgt := 67) hx hb ⟨by omega, by omega⟩ ⟨by omega, by omega⟩ dX6_swap_6 (by decide) (fun hc_2 => ?_) (fun hc_2 => ?_)
      · skip
        have hie : i8 = n9 := by omega
        have hk_3 : ctv_1 1007 = some (rl ty 49 (fl 7 (rsw mA a9 b9 n9))) := hv0_1.trans (congrArg (fun G => some (rl ty 49 (fl 7 G))) (by rw [hie]))
        exact W.vret hx hb hr (fun t ht hw => ⟨⟨ctv_1, rfl, ⟨hk_3, fun q h0 => hofv_1 q h0⟩, by show rm_W D ad _ _ t.heap; rw [ht]; exact hW, Or.inl rfl⟩, hS.F ht⟩) hS.2.2 dX6_swap_67
      · skip
        refine lv_aload_n hx hb dX6_swap_9 rfl (lv_at hl 1 rfl) ?_
        refine rm_get (ci := 6) (v := .ref (ad 1007)) (C := RX6) (T := TX6) (N := 19) hx hb hts (by decide +kernel) hown hK hW ((hofv_1 1000 (by omega)).trans hMo.1) rfl 9 (by decide) (hts (.fieldLink RX6 30 "GrainYardModel" "m" "[J") (by decide +kernel)) (fun _ h9 => h9) rfl dX6_swap_10 ?_
        refine lv_bipush (v := jI 7) hx hb dX6_swap_13 (by decide) ?_
        refine lv_iload_n hx hb dX6_swap_15 rfl (lv_at hl 2 rfl) ?_
        refine rm_imul hx hb dX6_swap_16 ?_
        refine lv_iload hx hb dX6_swap_17 (lv_at hl 0 rfl) ?_
        refine rm_iadd hx hb dX6_swap_19 ?_
        refine rm_lald hx hb hK hW (f := (fl 7 (rsw mA a9 b9 i8))) hv0_1 (7 * a9 + i8) (by first | rfl | (push_cast; omega)) (by omega) (by omega) dX6_swap_20 ?_
        rw [fl_at (by omega)]
        rw [rsw_at (by omega)]
        refine lv_lstore (lv' := [(5, .long (jL (mA a9 i8))), (4, .int (jI ((i8 : Nat) : Int))), (0, .ref (ad 1000)), (1, .int (jI ((a9 : Nat) : Int))), (2, .int (jI ((b9 : Nat) : Int))), (3, .int (jI ((n9 : Nat) : Int)))]) hx hb dX6_swap_21 hl (by decide) rfl (fun ls hl => ?_)
        refine lv_aload_n hx hb dX6_swap_23 rfl (lv_at hl 2 rfl) ?_
        refine rm_get (ci := 6) (v := .ref (ad 1007)) (C := RX6) (T := TX6) (N := 19) hx hb hts (by decide +kernel) hown hK hW ((hofv_1 1000 (by omega)).trans hMo.1) rfl 9 (by decide) (hts (.fieldLink RX6 30 "GrainYardModel" "m" "[J") (by decide +kernel)) (fun _ h9 => h9) rfl dX6_swap_24 ?_
        refine lv_bipush (v := jI 7) hx hb dX6_swap_27 (by decide) ?_
        refine lv_iload_n hx hb dX6_swap_29 rfl (lv_at hl 3 rfl) ?_
        refine rm_imul hx hb dX6_swap_30 ?_
        refine lv_iload hx hb dX6_swap_31 (lv_at hl 1 rfl) ?_
        refine rm_iadd hx hb dX6_swap_33 ?_
        refine lv_aload_n hx hb dX6_swap_34 rfl (lv_at hl 2 rfl) ?_
        refine rm_get (ci := 6) (v := .ref (ad 1007)) (C := RX6) (T := TX6) (N := 19) hx hb hts (by decide +kernel) hown hK hW ((hofv_1 1000 (by omega)).trans hMo.1) rfl 9 (by decide) (hts (.fieldLink RX6 30 "GrainYardModel" "m" "[J") (by decide +kernel)) (fun _ h9 => h9) rfl dX6_swap_35 ?_
        refine lv_bipush (v := jI 7) hx hb dX6_swap_38 (by decide) ?_
        refine lv_iload_n hx hb dX6_swap_40 rfl (lv_at hl 4 rfl) ?_
        refine rm_imul hx hb dX6_swap_41 ?_
        refine lv_iload hx hb dX6_swap_42 (lv_at hl 1 rfl) ?_
        refine rm_iadd hx hb dX6_swap_44 ?_
        refine rm_lald hx hb hK hW (f := (fl 7 (rsw mA a9 b9 i8))) hv0_1 (7 * b9 + i8) (by first | rfl | (push_cast; omega)) (by omega) (by omega) dX6_swap_45 ?_
        rw [fl_at (by omega)]
        rw [rsw_at (by omega)]
        refine rm_last hx hb hK hW hS (f := (fl 7 (rsw mA a9 b9 i8))) hv0_1 (7 * a9 + i8) (by first | rfl | (push_cast; omega)) (by omega) (by omega) dX6_swap_46 (fun H locs ct_4 hs_4 ho_4 hW hS hz_4 => ?_)
        have hof_4 : ∀ q, q ≠ 1007 → ct_4 q = ct q := fun q h0_4 => (ho_4 q h0_4).trans (hofv_1 q h0_4)
        have hk_5 : ct_4 1007 = some (rl ty 49 (fl 7 (ub (rsw mA a9 b9 i8) a9 (ub ((rsw mA a9 b9 i8) a9) i8 (mA b9 i8))))) := hs_4.trans (congrArg (fun f => some (rl ty 49 f)) (fl_ub (by omega) _ _))
        refine lv_aload_n hx hb dX6_swap_47 rfl (lv_at hl 2 rfl) ?_
        refine rm_get (ci := 6) (v := .ref (ad 1007)) (C := RX6) (T := TX6) (N := 19) hx hb hts (by decide +kernel) hown hK hW ((hof_4 1000 (by omega)).trans hMo.1) rfl 9 (by decide) (hts (.fieldLink RX6 30 "GrainYardModel" "m" "[J") (by decide +kernel)) (fun _ h9 => h9) rfl dX6_swap_48 ?_
        refine lv_bipush (v := jI 7) hx hb dX6_swap_51 (by decide) ?_
        refine lv_iload_n hx hb dX6_swap_53 rfl (lv_at hl 4 rfl) ?_
        refine rm_imul hx hb dX6_swap_54 ?_
        refine lv_iload hx hb dX6_swap_55 (lv_at hl 1 rfl) ?_
        refine rm_iadd hx hb dX6_swap_57 ?_
        refine lv_lload hx hb dX6_swap_58 (lv_at hl 0 rfl) ?_
        refine rm_last hx hb hK hW hS (f := (fl 7 (ub (rsw mA a9 b9 i8) a9 (ub ((rsw mA a9 b9 i8) a9) i8 (mA b9 i8))))) hk_5 (7 * b9 + i8) (by first | rfl | (push_cast; omega)) (by omega) (by omega) dX6_swap_60 (fun H locs ct_6 hs_6 ho_6 hW hS hz_6 => ?_)
        have hof_6 : ∀ q, q ≠ 1007 → ct_6 q = ct q := fun q h0_6 => (ho_6 q h0_6).trans (hof_4 q h0_6)
        have hk_7 : ct_6 1007 = some (rl ty 49 (fl 7 (ub (ub (rsw mA a9 b9 i8) a9 (ub ((rsw mA a9 b9 i8) a9) i8 (mA b9 i8))) b9 (ub ((ub (rsw mA a9 b9 i8) a9 (ub ((rsw mA a9 b9 i8) a9) i8 (mA b9 i8))) b9) i8 (mA a9 i8))))) := hs_6.trans (congrArg (fun f => some (rl ty 49 f)) (fl_ub (by omega) _ _))
        have hk_8 : ct_6 1007 = some (rl ty 49 (fl 7 (rsw mA a9 b9 (i8 + 1)))) := hk_7.trans (congrArg (fun G => some (rl ty 49 (fl 7 G))) (rsw_s hab))
        have hl : lv_has ls 7 [(4, .int (jI ((i8 : Nat) : Int))), (0, .ref (ad 1000)), (1, .int (jI ((a9 : Nat) : Int))), (2, .int (jI ((b9 : Nat) : Int))), (3, .int (jI ((n9 : Nat) : Int)))] := lv_sub hl [1, 2, 3, 4, 5] rfl
        refine lv_iinc (v := jI (((i8 : Nat) : Int) + 1)) (lv' := [(4, .int (jI (((i8 : Nat) : Int) + 1))), (0, .ref (ad 1000)), (1, .int (jI ((a9 : Nat) : Int))), (2, .int (jI ((b9 : Nat) : Int))), (3, .int (jI ((n9 : Nat) : Int)))]) hx hb dX6_swap_61 hl (k := 0) rfl (jI_add _ _) (by decide) rfl (fun ls hl => ?_)
        refine lv_goto (tgt := 3) hx hb dX6_swap_64 (by decide) ?_
        exact ih_LP (i8 + 1) (by omega) (by omega) ct_6 _ _ hk_8 trivial hof_6 trivial hW hS ls (lv_sub hl [0, 1, 2, 3, 4] rfl)
  exact LP (n9 + 1) (0) (by omega) (by omega) ct _ _ (hMo.2.2.2.2.2.2.2.1.trans (congrArg (fun G => some (rl ty 49 (fl 7 G))) (rsw_0 _ _ _))) trivial (fun _ _ => rfl) trivial hW hS ls (lv_sub hl [0, 1, 2, 3, 4] rfl)
set_option maxHeartbeats 4000000 in
set_option maxRecDepth 100000 in
theorem c_X6_determinant (l : Launch) (D : va_G) (ty : Nat → ClassId) (ad : Nat → Nat) (ct : rm_C) (sz : Nat) (th : Int) (yc hc : Nat) (yn : Nat → Nat) (yM : Nat → Nat → Nat → Int) (yu : Nat → Int) (hy : Nat → Nat) (hg hf mA : Nat → Nat → Int) (pt ro ke kt mu sl tw bw de : Nat → Int) (hMo : ModAt ty ad ct th yc hc yn yM yu hy hg hf mA pt ro ke kt mu sl tw bw de) (n9 : Nat) (hn9 : n9 ≤ 7) (hbd : bdA n9 mA) : Met l yX6_determinant wsX6_determinant ({ frames := 1, cells := 0, slots := 0, locals := 26 }) (rm_P D ty ad ct sz [.ref (ad 1000), .int (jI ((n9 : Nat) : Int))]) (rm_Ql D ad ct sz (fun z ct1 => ∃ A1 : Nat → Nat → Int, z = dt n9 mA ∧ ct1 1007 = some (rl ty 49 (fl 7 A1)) ∧ (∀ q, q ≠ 1007 → ct1 q = ct q))) 0 0 (rm_A ad ct sz) := by
  refine Met.ofW (cc := cX6_determinant) (maxL := 10) (ret := (some .long)) (by decide) rfl ?_
  intro p e s m args below meth c s₁ B hml hv
  obtain ⟨hargs, hsz, hW, hK, hNw⟩ := hv
  have hx := B.exec
  have hb := B.bytes
  have hr := B.returns
  have hts := atoms_spec (ws := wsX6_determinant) B.pre
  have hown : s.vm.findClass RX6 = some m.cls := findClass_of_methodNamed B.named
  have hlocks := B.notSynchronized
  subst hsz
  have hW := hW.own (sz := s.heap.size)
  have hA : ∀ q : Nat, s.heap.size ≤ q → rm_A ad ct s.heap.size q := fun q h => Or.inr h
  have hS : va_S (rm_A ad ct s.heap.size) s.heap s.heap [] := va_S.rf
  have hent : entryFrame m args 10 = entryFrame m ([.ref (ad 1000), .int (jI ((n9 : Nat) : Int))] : List Value).toArray 10 := by rw [hargs]
  have hl := lv_entry ([.ref (ad 1000), .int (jI ((n9 : Nat) : Int))]) (n := 10) (Nat.le_of_ble_eq_true rfl)
  rw [hent, lg_entry_eq]
  generalize (lg_sl ([.ref (ad 1000), .int (jI ((n9 : Nat) : Int))]) ++ List.replicate (10 - (lg_sl ([.ref (ad 1000), .int (jI ((n9 : Nat) : Int))])).length) Slot.unset).toArray = ls at hl ⊢
  have hl : lv_has ls 10 [(0, .ref (ad 1000)), (1, .int (jI ((n9 : Nat) : Int)))] := hl
  refine lv_lconst (v := jL 1) hx hb dX6_determinant_0 rfl ?_
  refine lv_lstore_n (lv' := [(2, .long (jL 1)), (0, .ref (ad 1000)), (1, .int (jI ((n9 : Nat) : Int)))]) hx hb dX6_determinant_1 rfl hl (by decide) rfl (fun ls hl => ?_)
  refine lv_lconst (v := jL 1) hx hb dX6_determinant_2 rfl ?_
  refine lv_lstore (lv' := [(4, .long (jL 1)), (2, .long (jL 1)), (0, .ref (ad 1000)), (1, .int (jI ((n9 : Nat) : Int)))]) hx hb dX6_determinant_3 hl (by decide) rfl (fun ls hl => ?_)
  refine lv_iconst (v := jI 0) hx hb dX6_determinant_5 rfl ?_
  refine lv_istore (lv' := [(6, .int (jI 0)), (4, .long (jL 1)), (2, .long (jL 1)), (0, .ref (ad 1000)), (1, .int (jI ((n9 : Nat) : Int)))]) hx hb dX6_determinant_6 hl (by decide) rfl (fun ls hl => ?_)
  have hl : lv_has ls 10 [(6, .int (jI 0)), (4, .long (jL 1)), (2, .long (jL (dt 0 (fun r y => mA r y)))), (0, .ref (ad 1000)), (1, .int (jI ((n9 : Nat) : Int)))] := by exact hl
  have OUT : ∀ (k : Nat) (q8 : Nat) (σ : Nat → Nat) (Ak : Nat → Nat → Int) (sgn : Int) (hq8 : q8 ≤ n9) (hdst : dst n9 mA q8 σ Ak sgn), n9 - q8 < k → ∀ (ctv : rm_C) (H : Heap) (locs : List Loc), (ctv 1007 = some (rl ty 49 (fl 7 Ak))) → ∀ (_ : True), (∀ q, q ≠ 1007 → ctv q = ct q) → ∀ (_ : True), rm_W D ad ctv (rm_A ad ct s.heap.size) H → va_S (rm_A ad ct s.heap.size) s.heap H locs → ∀ ls : Array Slot, lv_has ls 10 [(6, .int (jI ((q8 : Nat) : Int))), (4, .long (jL sgn)), (2, .long (jL (dt q8 (fun r y => mA (σ r) y)))), (0, .ref (ad 1000)), (1, .int (jI ((n9 : Nat) : Int)))] → W p l e (headSpec wsX6_determinant ({ frames := 1, cells := 0, slots := 0, locals := 26 })).room s m args below meth c H locs 0 0 (MQ below (rm_Ql D ad ct s.heap.size (fun z ct1 => ∃ A1 : Nat → Nat → Int, z = dt n9 mA ∧ ct1 1007 = some (rl ty 49 (fl 7 A1)) ∧ (∀ q, q ≠ 1007 → ct1 q = ct q))) args s 0 0 (rm_A ad ct s.heap.size)) (F0 m 8 ls []) := by
    intro k
    induction k with
    | zero => intro q8 σ Ak sgn hq8 hdst hk; exact absurd hk (Nat.not_lt_zero _)
    | succ k ih_OUT =>
      intro q8 σ Ak sgn hq8 hdst hk ctv_1 H locs hv0_1 _ hofv_1 _ hW hS ls hl
      refine lv_iload hx hb dX6_determinant_8 (lv_at hl 0 rfl) ?_
      refine lv_iload_n hx hb dX6_determinant_10 rfl (lv_at hl 4 rfl) ?_
      refine rm_icmp_ge (tgt := 203) hx hb ⟨by omega, by omega⟩ ⟨by omega, by omega⟩ dX6_determinant_11 (by decide) (fun hc_2 => ?_) (fun hc_2 => ?_)
      · skip
        have hqe : q8 = n9 := by omega
        have hzz : sgn * (dt q8 (fun r y => mA (σ r) y)) = dt n9 mA := by rw [hqe]; exact hdst.2.2.2.1
        refine lv_lload hx hb dX6_determinant_203 (lv_at hl 1 rfl) ?_
        refine lv_lload_n hx hb dX6_determinant_205 rfl (lv_at hl 2 rfl) ?_
        refine rm_lmul hx hb dX6_determinant_206 ?_
        exact W.lret hx hb hr (fun t ht hw => ⟨⟨_, ((sgn * (dt q8 (fun r y => mA (σ r) y))), ctv_1), rfl, ⟨rfl, ⟨_, hzz, hv0_1, fun q h0 => hofv_1 q h0⟩⟩, by show rm_W D ad _ _ t.heap; rw [ht]; exact hW⟩, hS.F ht⟩) hS.2.2 dX6_determinant_207
      · skip
        have hq9 : q8 < n9 := by omega
        have hb1 := bdA_dt hbd hdst.1 (q := q8) (by omega)
        refine lv_iload hx hb dX6_determinant_14 (lv_at hl 0 rfl) ?_
        refine lv_istore (lv' := [(7, .int (jI ((q8 : Nat) : Int))), (6, .int (jI ((q8 : Nat) : Int))), (4, .long (jL sgn)), (2, .long (jL (dt q8 (fun r y => mA (σ r) y)))), (0, .ref (ad 1000)), (1, .int (jI ((n9 : Nat) : Int)))]) hx hb dX6_determinant_16 hl (by decide) rfl (fun ls hl => ?_)
        have LP : ∀ (k : Nat) (p8 : Nat) (hp8 : p8 ≤ n9) (hp9 : q8 ≤ p8) (hpz : ∀ i, q8 ≤ i → i < p8 → Ak i q8 = 0), n9 - p8 < k → ∀ (ctv : rm_C) (H : Heap) (locs : List Loc), (ctv 1007 = some (rl ty 49 (fl 7 Ak))) → ∀ (_ : True), (∀ q, q ≠ 1007 → ctv q = ct q) → ∀ (_ : True), rm_W D ad ctv (rm_A ad ct s.heap.size) H → va_S (rm_A ad ct s.heap.size) s.heap H locs → ∀ ls : Array Slot, lv_has ls 10 [(7, .int (jI ((p8 : Nat) : Int))), (6, .int (jI ((q8 : Nat) : Int))), (4, .long (jL sgn)), (2, .long (jL (dt q8 (fun r y => mA (σ r) y)))), (0, .ref (ad 1000)), (1, .int (jI ((n9 : Nat) : Int)))] → W p l e (headSpec wsX6_determinant ({ frames := 1, cells := 0, slots := 0, locals := 26 })).room s m args below meth c H locs 0 0 (MQ below (rm_Ql D ad ct s.heap.size (fun z ct1 => ∃ A1 : Nat → Nat → Int, z = dt n9 mA ∧ ct1 1007 = some (rl ty 49 (fl 7 A1)) ∧ (∀ q, q ≠ 1007 → ct1 q = ct q))) args s 0 0 (rm_A ad ct s.heap.size)) (F0 m 18 ls []) := by
          intro k
          induction k with
          | zero => intro p8 hp8 hp9 hpz hk; exact absurd hk (Nat.not_lt_zero _)
          | succ k ih_LP =>
            intro p8 hp8 hp9 hpz hk ctv_3 H locs hv0_3 _ hofv_3 _ hW hS ls hl
            refine lv_iload hx hb dX6_determinant_18 (lv_at hl 0 rfl) ?_
            refine lv_iload_n hx hb dX6_determinant_20 rfl (lv_at hl 5 rfl) ?_
            refine rm_icmp_ge (tgt := 48) hx hb ⟨by omega, by omega⟩ ⟨by omega, by omega⟩ dX6_determinant_21 (by decide) (fun hc_4 => ?_) (fun hc_4 => ?_)
            · skip
              have hpe : p8 = n9 := by omega
              have hd0 := dst_none hdst hq9 (fun i h1 h2 => hpz i h1 (by omega))
              refine lv_iload hx hb dX6_determinant_48 (lv_at hl 0 rfl) ?_
              refine lv_iload_n hx hb dX6_determinant_50 rfl (lv_at hl 5 rfl) ?_
              refine rm_icmp_ne (tgt := 56) hx hb ⟨by omega, by omega⟩ ⟨by omega, by omega⟩ dX6_determinant_51 (by decide) (fun hq => absurd hq (by omega)) (fun _ => ?_)
              refine lv_lconst (v := jL 0) hx hb dX6_determinant_54 rfl ?_
              exact W.lret hx hb hr (fun t ht hw => ⟨⟨_, (0, ctv_3), rfl, ⟨rfl, ⟨_, hd0.symm, hv0_3, fun q h0 => hofv_3 q h0⟩⟩, by show rm_W D ad _ _ t.heap; rw [ht]; exact hW⟩, hS.F ht⟩) hS.2.2 dX6_determinant_55
            · skip
              have hpr := dst_rng hbd hdst hq9 (i := p8) (j := q8) (by omega) (by omega) (by omega) hq9
              refine lv_aload_n hx hb dX6_determinant_24 rfl (lv_at hl 4 rfl) ?_
              refine rm_get (ci := 6) (v := .ref (ad 1007)) (C := RX6) (T := TX6) (N := 19) hx hb hts (by decide +kernel) hown hK hW ((hofv_3 1000 (by omega)).trans hMo.1) rfl 9 (by decide) (hts (.fieldLink RX6 30 "GrainYardModel" "m" "[J") (by decide +kernel)) (fun _ h9 => h9) rfl dX6_determinant_25 ?_
              refine lv_bipush (v := jI 7) hx hb dX6_determinant_28 (by decide) ?_
              refine lv_iload hx hb dX6_determinant_30 (lv_at hl 0 rfl) ?_
              refine rm_imul hx hb dX6_determinant_32 ?_
              refine lv_iload hx hb dX6_determinant_33 (lv_at hl 1 rfl) ?_
              refine rm_iadd hx hb dX6_determinant_35 ?_
              refine rm_lald hx hb hK hW (f := (fl 7 Ak)) hv0_3 (7 * p8 + q8) (by first | rfl | (push_cast; omega)) (by omega) (by omega) dX6_determinant_36 ?_
              rw [fl_at (by omega)]
              refine lv_lconst (v := jL 0) hx hb dX6_determinant_37 rfl ?_
              refine rm_lcmp hx hb ⟨by omega, by omega⟩ ⟨by omega, by omega⟩ dX6_determinant_38 ?_
              refine rm_if_ne (tgt := 48) hx hb (lcv_rng _ _) dX6_determinant_39 (by decide) (fun hc_5 => ?_) (fun hc_5 => ?_)
              · skip
                have hc_5 : (Ak p8 q8) ≠ 0 := fun hq => hc_5 (lcv_eq.mpr hq)
                have hnp : Ak p8 q8 ≠ 0 := by omega
                refine lv_iload hx hb dX6_determinant_48 (lv_at hl 0 rfl) ?_
                refine lv_iload_n hx hb dX6_determinant_50 rfl (lv_at hl 5 rfl) ?_
                refine rm_icmp_ne (tgt := 56) hx hb ⟨by omega, by omega⟩ ⟨by omega, by omega⟩ dX6_determinant_51 (by decide) (fun _ => ?_) (fun hq => absurd hq (by omega))
                refine lv_iload hx hb dX6_determinant_56 (lv_at hl 0 rfl) ?_
                refine lv_iload hx hb dX6_determinant_58 (lv_at hl 1 rfl) ?_
                refine rm_icmp_eq (tgt := 77) hx hb ⟨by omega, by omega⟩ ⟨by omega, by omega⟩ dX6_determinant_60 (by decide) (fun hc_6 => ?_) (fun hc_6 => ?_)
                · skip
                  have hpq : p8 = q8 := by omega
                  have hdt : dst n9 mA q8 σ Ak sgn := hdst
                  have hnz : Ak q8 q8 ≠ 0 := by rw [hpq] at hnp; exact hnp
                  have hb0 : (dt q8 (fun r y => mA (σ r) y)) ≠ 0 := hdt.2.2.1
                  have hb2 : -2147483648 < (dt q8 (fun r y => mA (σ r) y)) ∧ (dt q8 (fun r y => mA (σ r) y)) < 2147483648 := bdA_dt hbd hdt.1 (q := q8) (by omega)
                  have hl : lv_has ls 10 [(6, .int (jI ((q8 : Nat) : Int))), (4, .long (jL sgn)), (2, .long (jL (dt q8 (fun r y => mA (σ r) y)))), (0, .ref (ad 1000)), (1, .int (jI ((n9 : Nat) : Int)))] := lv_sub hl [1, 2, 3, 4, 5] rfl
                  refine lv_iload hx hb dX6_determinant_77 (lv_at hl 0 rfl) ?_
                  refine lv_iconst (v := jI 1) hx hb dX6_determinant_79 rfl ?_
                  refine rm_iadd hx hb dX6_determinant_80 ?_
                  refine lv_istore (lv' := [(8, .int (jI (((q8 : Nat) : Int) + 1))), (6, .int (jI ((q8 : Nat) : Int))), (4, .long (jL sgn)), (2, .long (jL (dt q8 (fun r y => mA (σ r) y)))), (0, .ref (ad 1000)), (1, .int (jI ((n9 : Nat) : Int)))]) hx hb dX6_determinant_81 hl (by decide) rfl (fun ls hl => ?_)
                  have hk_7 : ctv_3 1007 = some (rl ty 49 (fl 7 (elm q8 n9 (dt q8 (fun r y => mA (σ r) y)) Ak (q8 + 1) (q8 + 1)))) := hv0_3.trans (congrArg (fun G => some (rl ty 49 (fl 7 G))) (elm_0 _ _ _ _))
                  have LI : ∀ (k : Nat) (i8 : Nat) (hi8 : i8 ≤ n9) (hi9 : q8 < i8), n9 - i8 < k → ∀ (ctv : rm_C) (H : Heap) (locs : List Loc), (ctv 1007 = some (rl ty 49 (fl 7 (elm q8 n9 (dt q8 (fun r y => mA (σ r) y)) Ak i8 (q8 + 1))))) → ∀ (_ : True), (∀ q, q ≠ 1007 → ctv q = ct q) → ∀ (_ : True), rm_W D ad ctv (rm_A ad ct s.heap.size) H → va_S (rm_A ad ct s.heap.size) s.heap H locs → ∀ ls : Array Slot, lv_has ls 10 [(8, .int (jI ((i8 : Nat) : Int))), (6, .int (jI ((q8 : Nat) : Int))), (4, .long (jL sgn)), (2, .long (jL (dt q8 (fun r y => mA (σ r) y)))), (0, .ref (ad 1000)), (1, .int (jI ((n9 : Nat) : Int)))] → W p l e (headSpec wsX6_determinant ({ frames := 1, cells := 0, slots := 0, locals := 26 })).room s m args below meth c H locs 0 0 (MQ below (rm_Ql D ad ct s.heap.size (fun z ct1 => ∃ A1 : Nat → Nat → Int, z = dt n9 mA ∧ ct1 1007 = some (rl ty 49 (fl 7 A1)) ∧ (∀ q, q ≠ 1007 → ct1 q = ct q))) args s 0 0 (rm_A ad ct s.heap.size)) (F0 m 83 ls []) := by
                    intro k
                    induction k with
                    | zero => intro i8 hi8 hi9 hk; exact absurd hk (Nat.not_lt_zero _)
                    | succ k ih_LI =>
                      intro i8 hi8 hi9 hk ctv_8 H locs hv0_8 _ hofv_8 _ hW hS ls hl
                      refine lv_iload hx hb dX6_determinant_83 (lv_at hl 0 rfl) ?_
                      refine lv_iload_n hx hb dX6_determinant_85 rfl (lv_at hl 5 rfl) ?_
                      refine rm_icmp_ge (tgt := 183) hx hb ⟨by omega, by omega⟩ ⟨by omega, by omega⟩ dX6_determinant_86 (by decide) (fun hc_9 => ?_) (fun hc_9 => ?_)
                      · skip
                        have hie : i8 = n9 := by omega
                        have hk_10 : ctv_8 1007 = some (rl ty 49 (fl 7 (elm q8 n9 (dt q8 (fun r y => mA (σ r) y)) Ak n9 (q8 + 1)))) := hv0_8.trans (congrArg (fun G => some (rl ty 49 (fl 7 G))) (by rw [hie]))
                        refine lv_aload_n hx hb dX6_determinant_183 rfl (lv_at hl 4 rfl) ?_
                        refine rm_get (ci := 6) (v := .ref (ad 1007)) (C := RX6) (T := TX6) (N := 19) hx hb hts (by decide +kernel) hown hK hW ((hofv_8 1000 (by omega)).trans hMo.1) rfl 9 (by decide) (hts (.fieldLink RX6 30 "GrainYardModel" "m" "[J") (by decide +kernel)) (fun _ h9 => h9) rfl dX6_determinant_184 ?_
                        refine lv_bipush (v := jI 7) hx hb dX6_determinant_187 (by decide) ?_
                        refine lv_iload hx hb dX6_determinant_189 (lv_at hl 1 rfl) ?_
                        refine rm_imul hx hb dX6_determinant_191 ?_
                        refine lv_iload hx hb dX6_determinant_192 (lv_at hl 1 rfl) ?_
                        refine rm_iadd hx hb dX6_determinant_194 ?_
                        refine rm_lald hx hb hK hW (f := (fl 7 (elm q8 n9 (dt q8 (fun r y => mA (σ r) y)) Ak n9 (q8 + 1)))) hk_10 (7 * q8 + q8) (by first | rfl | (push_cast; omega)) (by omega) (by omega) dX6_determinant_195 ?_
                        rw [fl_at (by omega)]
                        rw [elm_o (by omega)]
                        have hld : Ak q8 q8 = (dt (q8 + 1) (fun r y => mA (σ r) y)) := by rw [hdt.2.1 q8 q8 (by omega) hq9 (by omega) hq9, ← mi_lead]
                        refine lv_lstore_n (lv' := [(2, .long (jL (Ak q8 q8))), (8, .int (jI ((i8 : Nat) : Int))), (6, .int (jI ((q8 : Nat) : Int))), (4, .long (jL sgn)), (0, .ref (ad 1000)), (1, .int (jI ((n9 : Nat) : Int)))]) hx hb dX6_determinant_196 rfl hl (by decide) rfl (fun ls hl => ?_)
                        have hl : lv_has ls 10 [(2, .long (jL (dt (q8 + 1) (fun r y => mA (σ r) y)))), (8, .int (jI ((i8 : Nat) : Int))), (6, .int (jI ((q8 : Nat) : Int))), (4, .long (jL sgn)), (0, .ref (ad 1000)), (1, .int (jI ((n9 : Nat) : Int)))] := by rw [← hld]; exact hl
                        have hl : lv_has ls 10 [(2, .long (jL (dt (q8 + 1) (fun r y => mA (σ r) y)))), (6, .int (jI ((q8 : Nat) : Int))), (4, .long (jL sgn)), (0, .ref (ad 1000)), (1, .int (jI ((n9 : Nat) : Int)))] := lv_sub hl [0, 2, 3, 4, 5] rfl
                        refine lv_iinc (v := jI (((q8 : Nat) : Int) + 1)) (lv' := [(6, .int (jI (((q8 : Nat) : Int) + 1))), (2, .long (jL (dt (q8 + 1) (fun r y => mA (σ r) y)))), (4, .long (jL sgn)), (0, .ref (ad 1000)), (1, .int (jI ((n9 : Nat) : Int)))]) hx hb dX6_determinant_197 hl (k := 1) rfl (jI_add _ _) (by decide) rfl (fun ls hl => ?_)
                        refine lv_goto (tgt := 8) hx hb dX6_determinant_200 (by decide) ?_
                        exact ih_OUT (q8 + 1) (σ) ((elm q8 n9 (dt q8 (fun r y => mA (σ r) y)) Ak n9 (q8 + 1))) (sgn) (by omega) (dst_next hdt hq9 hnz) (by omega) ctv_8 _ _ hk_10 trivial hofv_8 trivial hW hS ls (lv_sub hl [0, 2, 1, 3, 4] rfl)
                      · skip
                        refine lv_iload hx hb dX6_determinant_89 (lv_at hl 1 rfl) ?_
                        refine lv_iconst (v := jI 1) hx hb dX6_determinant_91 rfl ?_
                        refine rm_iadd hx hb dX6_determinant_92 ?_
                        refine lv_istore (lv' := [(9, .int (jI (((q8 : Nat) : Int) + 1))), (8, .int (jI ((i8 : Nat) : Int))), (6, .int (jI ((q8 : Nat) : Int))), (4, .long (jL sgn)), (2, .long (jL (dt q8 (fun r y => mA (σ r) y)))), (0, .ref (ad 1000)), (1, .int (jI ((n9 : Nat) : Int)))]) hx hb dX6_determinant_93 hl (by decide) rfl (fun ls hl => ?_)
                        have LJ : ∀ (k : Nat) (j8 : Nat) (hj8 : j8 ≤ n9) (hj9 : q8 < j8), n9 - j8 < k → ∀ (ctv : rm_C) (H : Heap) (locs : List Loc), (ctv 1007 = some (rl ty 49 (fl 7 (elm q8 n9 (dt q8 (fun r y => mA (σ r) y)) Ak i8 j8)))) → ∀ (_ : True), (∀ q, q ≠ 1007 → ctv q = ct q) → ∀ (_ : True), rm_W D ad ctv (rm_A ad ct s.heap.size) H → va_S (rm_A ad ct s.heap.size) s.heap H locs → ∀ ls : Array Slot, lv_has ls 10 [(9, .int (jI ((j8 : Nat) : Int))), (8, .int (jI ((i8 : Nat) : Int))), (6, .int (jI ((q8 : Nat) : Int))), (4, .long (jL sgn)), (2, .long (jL (dt q8 (fun r y => mA (σ r) y)))), (0, .ref (ad 1000)), (1, .int (jI ((n9 : Nat) : Int)))] → W p l e (headSpec wsX6_determinant ({ frames := 1, cells := 0, slots := 0, locals := 26 })).room s m args below meth c H locs 0 0 (MQ below (rm_Ql D ad ct s.heap.size (fun z ct1 => ∃ A1 : Nat → Nat → Int, z = dt n9 mA ∧ ct1 1007 = some (rl ty 49 (fl 7 A1)) ∧ (∀ q, q ≠ 1007 → ct1 q = ct q))) args s 0 0 (rm_A ad ct s.heap.size)) (F0 m 95 ls []) := by
                          intro k
                          induction k with
                          | zero => intro j8 hj8 hj9 hk; exact absurd hk (Nat.not_lt_zero _)
                          | succ k ih_LJ =>
                            intro j8 hj8 hj9 hk ctv_11 H locs hv0_11 _ hofv_11 _ hW hS ls hl
                            refine lv_iload hx hb dX6_determinant_95 (lv_at hl 0 rfl) ?_
                            refine lv_iload_n hx hb dX6_determinant_97 rfl (lv_at hl 6 rfl) ?_
                            refine rm_icmp_ge (tgt := 177) hx hb ⟨by omega, by omega⟩ ⟨by omega, by omega⟩ dX6_determinant_98 (by decide) (fun hc_12 => ?_) (fun hc_12 => ?_)
                            · skip
                              have hje : j8 = n9 := by omega
                              have hk_13 : ctv_11 1007 = some (rl ty 49 (fl 7 (elm q8 n9 (dt q8 (fun r y => mA (σ r) y)) Ak (i8 + 1) (q8 + 1)))) := hv0_11.trans (congrArg (fun G => some (rl ty 49 (fl 7 G))) (by rw [hje]; exact elm_n (by omega)))
                              have hl : lv_has ls 10 [(8, .int (jI ((i8 : Nat) : Int))), (6, .int (jI ((q8 : Nat) : Int))), (4, .long (jL sgn)), (2, .long (jL (dt q8 (fun r y => mA (σ r) y)))), (0, .ref (ad 1000)), (1, .int (jI ((n9 : Nat) : Int)))] := lv_sub hl [1, 2, 3, 4, 5, 6] rfl
                              refine lv_iinc (v := jI (((i8 : Nat) : Int) + 1)) (lv' := [(8, .int (jI (((i8 : Nat) : Int) + 1))), (6, .int (jI ((q8 : Nat) : Int))), (4, .long (jL sgn)), (2, .long (jL (dt q8 (fun r y => mA (σ r) y)))), (0, .ref (ad 1000)), (1, .int (jI ((n9 : Nat) : Int)))]) hx hb dX6_determinant_177 hl (k := 0) rfl (jI_add _ _) (by decide) rfl (fun ls hl => ?_)
                              refine lv_goto (tgt := 83) hx hb dX6_determinant_180 (by decide) ?_
                              exact ih_LI (i8 + 1) (by omega) (by omega) (by omega) ctv_11 _ _ hk_13 trivial hofv_11 trivial hW hS ls (lv_sub hl [0, 1, 2, 3, 4, 5] rfl)
                            · skip
                              have r1 := dst_rng hbd hdt hq9 (i := i8) (j := j8) (by omega) (by omega) (by omega) (by omega)
                              have r2 := dst_rng hbd hdt hq9 (i := q8) (j := q8) (by omega) hq9 (by omega) hq9
                              have r3 := dst_rng hbd hdt hq9 (i := i8) (j := q8) (by omega) (by omega) (by omega) hq9
                              have r4 := dst_rng hbd hdt hq9 (i := q8) (j := j8) (by omega) hq9 (by omega) (by omega)
                              have m1 := mul_bd r1 r2
                              have m2 := mul_bd r3 r4
                              refine lv_aload_n hx hb dX6_determinant_101 rfl (lv_at hl 5 rfl) ?_
                              refine rm_get (ci := 6) (v := .ref (ad 1007)) (C := RX6) (T := TX6) (N := 19) hx hb hts (by decide +kernel) hown hK hW ((hofv_11 1000 (by omega)).trans hMo.1) rfl 9 (by decide) (hts (.fieldLink RX6 30 "GrainYardModel" "m" "[J") (by decide +kernel)) (fun _ h9 => h9) rfl dX6_determinant_102 ?_
                              refine lv_bipush (v := jI 7) hx hb dX6_determinant_105 (by decide) ?_
                              refine lv_iload hx hb dX6_determinant_107 (lv_at hl 1 rfl) ?_
                              refine rm_imul hx hb dX6_determinant_109 ?_
                              refine lv_iload hx hb dX6_determinant_110 (lv_at hl 0 rfl) ?_
                              refine rm_iadd hx hb dX6_determinant_112 ?_
                              refine lv_aload_n hx hb dX6_determinant_113 rfl (lv_at hl 5 rfl) ?_
                              refine rm_get (ci := 6) (v := .ref (ad 1007)) (C := RX6) (T := TX6) (N := 19) hx hb hts (by decide +kernel) hown hK hW ((hofv_11 1000 (by omega)).trans hMo.1) rfl 9 (by decide) (hts (.fieldLink RX6 30 "GrainYardModel" "m" "[J") (by decide +kernel)) (fun _ h9 => h9) rfl dX6_determinant_114 ?_
                              refine lv_bipush (v := jI 7) hx hb dX6_determinant_117 (by decide) ?_
                              refine lv_iload hx hb dX6_determinant_119 (lv_at hl 1 rfl) ?_
                              refine rm_imul hx hb dX6_determinant_121 ?_
                              refine lv_iload hx hb dX6_determinant_122 (lv_at hl 0 rfl) ?_
                              refine rm_iadd hx hb dX6_determinant_124 ?_
                              refine rm_lald hx hb hK hW (f := (fl 7 (elm q8 n9 (dt q8 (fun r y => mA (σ r) y)) Ak i8 j8))) hv0_11 (7 * i8 + j8) (by first | rfl | (push_cast; omega)) (by omega) (by omega) dX6_determinant_125 ?_
                              rw [fl_at (by omega)]
                              rw [elm_o (by omega)]
                              refine lv_aload_n hx hb dX6_determinant_126 rfl (lv_at hl 5 rfl) ?_
                              refine rm_get (ci := 6) (v := .ref (ad 1007)) (C := RX6) (T := TX6) (N := 19) hx hb hts (by decide +kernel) hown hK hW ((hofv_11 1000 (by omega)).trans hMo.1) rfl 9 (by decide) (hts (.fieldLink RX6 30 "GrainYardModel" "m" "[J") (by decide +kernel)) (fun _ h9 => h9) rfl dX6_determinant_127 ?_
                              refine lv_bipush (v := jI 7) hx hb dX6_determinant_130 (by decide) ?_
                              refine lv_iload hx hb dX6_determinant_132 (lv_at hl 2 rfl) ?_
                              refine rm_imul hx hb dX6_determinant_134 ?_
                              refine lv_iload hx hb dX6_determinant_135 (lv_at hl 2 rfl) ?_
                              refine rm_iadd hx hb dX6_determinant_137 ?_
                              refine rm_lald hx hb hK hW (f := (fl 7 (elm q8 n9 (dt q8 (fun r y => mA (σ r) y)) Ak i8 j8))) hv0_11 (7 * q8 + q8) (by first | rfl | (push_cast; omega)) (by omega) (by omega) dX6_determinant_138 ?_
                              rw [fl_at (by omega)]
                              rw [elm_o (by omega)]
                              refine rm_lmul hx hb dX6_determinant_139 ?_
                              refine lv_aload_n hx hb dX6_determinant_140 rfl (lv_at hl 5 rfl) ?_
                              refine rm_get (ci := 6) (v := .ref (ad 1007)) (C := RX6) (T := TX6) (N := 19) hx hb hts (by decide +kernel) hown hK hW ((hofv_11 1000 (by omega)).trans hMo.1) rfl 9 (by decide) (hts (.fieldLink RX6 30 "GrainYardModel" "m" "[J") (by decide +kernel)) (fun _ h9 => h9) rfl dX6_determinant_141 ?_
                              refine lv_bipush (v := jI 7) hx hb dX6_determinant_144 (by decide) ?_
                              refine lv_iload hx hb dX6_determinant_146 (lv_at hl 1 rfl) ?_
                              refine rm_imul hx hb dX6_determinant_148 ?_
                              refine lv_iload hx hb dX6_determinant_149 (lv_at hl 2 rfl) ?_
                              refine rm_iadd hx hb dX6_determinant_151 ?_
                              refine rm_lald hx hb hK hW (f := (fl 7 (elm q8 n9 (dt q8 (fun r y => mA (σ r) y)) Ak i8 j8))) hv0_11 (7 * i8 + q8) (by first | rfl | (push_cast; omega)) (by omega) (by omega) dX6_determinant_152 ?_
                              rw [fl_at (by omega)]
                              rw [elm_o (by omega)]
                              refine lv_aload_n hx hb dX6_determinant_153 rfl (lv_at hl 5 rfl) ?_
                              refine rm_get (ci := 6) (v := .ref (ad 1007)) (C := RX6) (T := TX6) (N := 19) hx hb hts (by decide +kernel) hown hK hW ((hofv_11 1000 (by omega)).trans hMo.1) rfl 9 (by decide) (hts (.fieldLink RX6 30 "GrainYardModel" "m" "[J") (by decide +kernel)) (fun _ h9 => h9) rfl dX6_determinant_154 ?_
                              refine lv_bipush (v := jI 7) hx hb dX6_determinant_157 (by decide) ?_
                              refine lv_iload hx hb dX6_determinant_159 (lv_at hl 2 rfl) ?_
                              refine rm_imul hx hb dX6_determinant_161 ?_
                              refine lv_iload hx hb dX6_determinant_162 (lv_at hl 0 rfl) ?_
                              refine rm_iadd hx hb dX6_determinant_164 ?_
                              refine rm_lald hx hb hK hW (f := (fl 7 (elm q8 n9 (dt q8 (fun r y => mA (σ r) y)) Ak i8 j8))) hv0_11 (7 * q8 + j8) (by first | rfl | (push_cast; omega)) (by omega) (by omega) dX6_determinant_165 ?_
                              rw [fl_at (by omega)]
                              rw [elm_o (by omega)]
                              refine rm_lmul hx hb dX6_determinant_166 ?_
                              refine rm_lsub hx hb dX6_determinant_167 ?_
                              refine lv_lload_n hx hb dX6_determinant_168 rfl (lv_at hl 4 rfl) ?_
                              refine rm_ldiv hx hb dX6_determinant_169 ⟨by omega, by omega⟩ ⟨by omega, by omega⟩ hb0 ?_
                              refine rm_last hx hb hK hW hS (f := (fl 7 (elm q8 n9 (dt q8 (fun r y => mA (σ r) y)) Ak i8 j8))) hv0_11 (7 * i8 + j8) (by first | rfl | (push_cast; omega)) (by omega) (by omega) dX6_determinant_170 (fun H locs ct_14 hs_14 ho_14 hW hS hz_14 => ?_)
                              have hof_14 : ∀ q, q ≠ 1007 → ct_14 q = ct q := fun q h0_14 => (ho_14 q h0_14).trans (hofv_11 q h0_14)
                              have hk_15 : ct_14 1007 = some (rl ty 49 (fl 7 (ub (elm q8 n9 (dt q8 (fun r y => mA (σ r) y)) Ak i8 j8) i8 (ub ((elm q8 n9 (dt q8 (fun r y => mA (σ r) y)) Ak i8 j8) i8) j8 (Int.tdiv (((Ak i8 j8) * (Ak q8 q8)) - ((Ak i8 q8) * (Ak q8 j8))) (dt q8 (fun r y => mA (σ r) y))))))) := hs_14.trans (congrArg (fun f => some (rl ty 49 f)) (fl_ub (by omega) _ _))
                              have hk_16 : ct_14 1007 = some (rl ty 49 (fl 7 (elm q8 n9 (dt q8 (fun r y => mA (σ r) y)) Ak i8 (j8 + 1)))) := hk_15.trans (congrArg (fun G => some (rl ty 49 (fl 7 G))) (elm_s (by omega) (by omega)))
                              refine lv_iinc (v := jI (((j8 : Nat) : Int) + 1)) (lv' := [(9, .int (jI (((j8 : Nat) : Int) + 1))), (8, .int (jI ((i8 : Nat) : Int))), (6, .int (jI ((q8 : Nat) : Int))), (4, .long (jL sgn)), (2, .long (jL (dt q8 (fun r y => mA (σ r) y)))), (0, .ref (ad 1000)), (1, .int (jI ((n9 : Nat) : Int)))]) hx hb dX6_determinant_171 hl (k := 0) rfl (jI_add _ _) (by decide) rfl (fun ls hl => ?_)
                              refine lv_goto (tgt := 95) hx hb dX6_determinant_174 (by decide) ?_
                              exact ih_LJ (j8 + 1) (by omega) (by omega) (by omega) ct_14 _ _ hk_16 trivial hof_14 trivial hW hS ls (lv_sub hl [0, 1, 2, 3, 4, 5, 6] rfl)
                        exact LJ (n9 + 1) (q8 + 1) (by omega) (by omega) (by omega) ctv_8 _ _ hv0_8 trivial hofv_8 trivial hW hS ls (lv_sub hl [0, 1, 2, 3, 4, 5, 6] rfl)
                  exact LI (n9 + 1) (q8 + 1) (by omega) (by omega) (by omega) ctv_3 _ _ hk_7 trivial hofv_3 trivial hW hS ls (lv_sub hl [0, 1, 2, 3, 4, 5] rfl)
                · skip
                  refine lv_aload_n hx hb dX6_determinant_63 rfl (lv_at hl 4 rfl) ?_
                  refine lv_iload hx hb dX6_determinant_64 (lv_at hl 0 rfl) ?_
                  refine lv_iload hx hb dX6_determinant_66 (lv_at hl 1 rfl) ?_
                  refine lv_iload_n hx hb dX6_determinant_68 rfl (lv_at hl 5 rfl) ?_
                  refine rm_callv (va_runV (As := [.int (jI ((p8 : Nat) : Int)), .int (jI ((q8 : Nat) : Int)), .int (jI ((n9 : Nat) : Int))]) (rest := []) ⟨hx, hb, hml, hown, hts⟩ (c_X6_swap l D ty ad ctv_3 H.size th yc hc yn yM yu hy hg hf Ak pt ro ke kt mu sl tw bw de ⟨((hofv_3 1000 (by omega)).trans hMo.1), ((hofv_3 1001 (by omega)).trans hMo.2.1), ((hofv_3 1002 (by omega)).trans hMo.2.2.1), ((hofv_3 1003 (by omega)).trans hMo.2.2.2.1), ((hofv_3 1004 (by omega)).trans hMo.2.2.2.2.1), ((hofv_3 1005 (by omega)).trans hMo.2.2.2.2.2.1), ((hofv_3 1006 (by omega)).trans hMo.2.2.2.2.2.2.1), hv0_3, ((hofv_3 1008 (by omega)).trans hMo.2.2.2.2.2.2.2.2.1), ((hofv_3 1009 (by omega)).trans hMo.2.2.2.2.2.2.2.2.2.1), ((hofv_3 1010 (by omega)).trans hMo.2.2.2.2.2.2.2.2.2.2.1), ((hofv_3 1011 (by omega)).trans hMo.2.2.2.2.2.2.2.2.2.2.2.1), ((hofv_3 1012 (by omega)).trans hMo.2.2.2.2.2.2.2.2.2.2.2.2.1), ((hofv_3 1013 (by omega)).trans hMo.2.2.2.2.2.2.2.2.2.2.2.2.2.1), ((hofv_3 1014 (by omega)).trans hMo.2.2.2.2.2.2.2.2.2.2.2.2.2.2.1), ((hofv_3 1015 (by omega)).trans hMo.2.2.2.2.2.2.2.2.2.2.2.2.2.2.2.1), ((hofv_3 1016 (by omega)).trans hMo.2.2.2.2.2.2.2.2.2.2.2.2.2.2.2.2)⟩ p8 q8 n9 (by omega) (by omega) (by omega) hn9) (cwV 3 hts gX6_determinant_X6_swap rfl rfl rfl (by decide +kernel) ⟨Nat.le_of_ble_eq_true rfl, Nat.le_of_ble_eq_true rfl⟩) (rm_preV hK hNw hW ((hofv_3 1000 (by omega)).trans hMo.1) rfl) rfl rfl hl.1 rfl (lv_room (Nat.le_of_ble_eq_true rfl)) dX6_determinant_69 ⟨Nat.zero_le _, Nat.zero_le _⟩) hW hS hA (fun ct_17 H locs hq_17 hW hS hz_17 => ?_)
                  have ho_17 : ∀ q, q ≠ 1007 → ct_17 q = ctv_3 q := hq_17.2
                  have hof_17 : ∀ q, q ≠ 1007 → ct_17 q = ct q := fun q h0_17 => (ho_17 q h0_17).trans (hofv_3 q h0_17)
                  have hm0_17 : ct_17 1007 = some (rl ty 49 (fl 7 (rsw Ak p8 q8 n9))) := hq_17.1
                  refine lv_lload hx hb dX6_determinant_72 (lv_at hl 2 rfl) ?_
                  refine rm_lneg hx hb dX6_determinant_74 ?_
                  refine lv_lstore (lv' := [(4, .long (jL (-sgn))), (7, .int (jI ((p8 : Nat) : Int))), (6, .int (jI ((q8 : Nat) : Int))), (2, .long (jL (dt q8 (fun r y => mA (σ r) y)))), (0, .ref (ad 1000)), (1, .int (jI ((n9 : Nat) : Int)))]) hx hb dX6_determinant_75 hl (by decide) rfl (fun ls hl => ?_)
                  have hl : lv_has ls 10 [(4, .long (jL (-sgn))), (7, .int (jI ((p8 : Nat) : Int))), (6, .int (jI ((q8 : Nat) : Int))), (2, .long (jL (dt q8 (fun r y => mA ((fun r => σ (swp p8 q8 r)) r) y)))), (0, .ref (ad 1000)), (1, .int (jI ((n9 : Nat) : Int)))] := by rw [show (dt q8 (fun r y => mA ((fun r => σ (swp p8 q8 r)) r) y)) = (dt q8 (fun r y => mA (σ r) y)) from dt_swp (by omega)]; exact hl
                  have hdt : dst n9 mA q8 (fun r => σ (swp p8 q8 r)) (rsw Ak p8 q8 n9) (-sgn) := dst_swp hdst (by omega) (by omega)
                  have hnz : (rsw Ak p8 q8 n9) q8 q8 ≠ 0 := by
                      have h9 : rsw Ak p8 q8 n9 q8 q8 = Ak p8 q8 := by
                        unfold rsw swp; rw [if_pos hq9, if_neg (by omega), if_pos rfl]
                      rw [h9]; exact hnp
                  have hb0 : (dt q8 (fun r y => mA ((fun r => σ (swp p8 q8 r)) r) y)) ≠ 0 := hdt.2.2.1
                  have hb2 : -2147483648 < (dt q8 (fun r y => mA ((fun r => σ (swp p8 q8 r)) r) y)) ∧ (dt q8 (fun r y => mA ((fun r => σ (swp p8 q8 r)) r) y)) < 2147483648 := bdA_dt hbd hdt.1 (q := q8) (by omega)
                  have hl : lv_has ls 10 [(4, .long (jL (-sgn))), (6, .int (jI ((q8 : Nat) : Int))), (2, .long (jL (dt q8 (fun r y => mA ((fun r => σ (swp p8 q8 r)) r) y)))), (0, .ref (ad 1000)), (1, .int (jI ((n9 : Nat) : Int)))] := lv_sub hl [0, 2, 3, 4, 5] rfl
                  refine lv_iload hx hb dX6_determinant_77 (lv_at hl 1 rfl) ?_
                  refine lv_iconst (v := jI 1) hx hb dX6_determinant_79 rfl ?_
                  refine rm_iadd hx hb dX6_determinant_80 ?_
                  refine lv_istore (lv' := [(8, .int (jI (((q8 : Nat) : Int) + 1))), (4, .long (jL (-sgn))), (6, .int (jI ((q8 : Nat) : Int))), (2, .long (jL (dt q8 (fun r y => mA ((fun r => σ (swp p8 q8 r)) r) y)))), (0, .ref (ad 1000)), (1, .int (jI ((n9 : Nat) : Int)))]) hx hb dX6_determinant_81 hl (by decide) rfl (fun ls hl => ?_)
                  have hk_18 : ct_17 1007 = some (rl ty 49 (fl 7 (elm q8 n9 (dt q8 (fun r y => mA ((fun r => σ (swp p8 q8 r)) r) y)) (rsw Ak p8 q8 n9) (q8 + 1) (q8 + 1)))) := hm0_17.trans (congrArg (fun G => some (rl ty 49 (fl 7 G))) (elm_0 _ _ _ _))
                  have LI : ∀ (k : Nat) (i8 : Nat) (hi8 : i8 ≤ n9) (hi9 : q8 < i8), n9 - i8 < k → ∀ (ctv : rm_C) (H : Heap) (locs : List Loc), (ctv 1007 = some (rl ty 49 (fl 7 (elm q8 n9 (dt q8 (fun r y => mA ((fun r => σ (swp p8 q8 r)) r) y)) (rsw Ak p8 q8 n9) i8 (q8 + 1))))) → ∀ (_ : True), (∀ q, q ≠ 1007 → ctv q = ct q) → ∀ (_ : True), rm_W D ad ctv (rm_A ad ct s.heap.size) H → va_S (rm_A ad ct s.heap.size) s.heap H locs → ∀ ls : Array Slot, lv_has ls 10 [(8, .int (jI ((i8 : Nat) : Int))), (6, .int (jI ((q8 : Nat) : Int))), (4, .long (jL (-sgn))), (2, .long (jL (dt q8 (fun r y => mA ((fun r => σ (swp p8 q8 r)) r) y)))), (0, .ref (ad 1000)), (1, .int (jI ((n9 : Nat) : Int)))] → W p l e (headSpec wsX6_determinant ({ frames := 1, cells := 0, slots := 0, locals := 26 })).room s m args below meth c H locs 0 0 (MQ below (rm_Ql D ad ct s.heap.size (fun z ct1 => ∃ A1 : Nat → Nat → Int, z = dt n9 mA ∧ ct1 1007 = some (rl ty 49 (fl 7 A1)) ∧ (∀ q, q ≠ 1007 → ct1 q = ct q))) args s 0 0 (rm_A ad ct s.heap.size)) (F0 m 83 ls []) := by
                    intro k
                    induction k with
                    | zero => intro i8 hi8 hi9 hk; exact absurd hk (Nat.not_lt_zero _)
                    | succ k ih_LI =>
                      intro i8 hi8 hi9 hk ctv_19 H locs hv0_19 _ hofv_19 _ hW hS ls hl
                      refine lv_iload hx hb dX6_determinant_83 (lv_at hl 0 rfl) ?_
                      refine lv_iload_n hx hb dX6_determinant_85 rfl (lv_at hl 5 rfl) ?_
                      refine rm_icmp_ge (tgt := 183) hx hb ⟨by omega, by omega⟩ ⟨by omega, by omega⟩ dX6_determinant_86 (by decide) (fun hc_20 => ?_) (fun hc_20 => ?_)
                      · skip
                        have hie : i8 = n9 := by omega
                        have hk_21 : ctv_19 1007 = some (rl ty 49 (fl 7 (elm q8 n9 (dt q8 (fun r y => mA ((fun r => σ (swp p8 q8 r)) r) y)) (rsw Ak p8 q8 n9) n9 (q8 + 1)))) := hv0_19.trans (congrArg (fun G => some (rl ty 49 (fl 7 G))) (by rw [hie]))
                        refine lv_aload_n hx hb dX6_determinant_183 rfl (lv_at hl 4 rfl) ?_
                        refine rm_get (ci := 6) (v := .ref (ad 1007)) (C := RX6) (T := TX6) (N := 19) hx hb hts (by decide +kernel) hown hK hW ((hofv_19 1000 (by omega)).trans hMo.1) rfl 9 (by decide) (hts (.fieldLink RX6 30 "GrainYardModel" "m" "[J") (by decide +kernel)) (fun _ h9 => h9) rfl dX6_determinant_184 ?_
                        refine lv_bipush (v := jI 7) hx hb dX6_determinant_187 (by decide) ?_
                        refine lv_iload hx hb dX6_determinant_189 (lv_at hl 1 rfl) ?_
                        refine rm_imul hx hb dX6_determinant_191 ?_
                        refine lv_iload hx hb dX6_determinant_192 (lv_at hl 1 rfl) ?_
                        refine rm_iadd hx hb dX6_determinant_194 ?_
                        refine rm_lald hx hb hK hW (f := (fl 7 (elm q8 n9 (dt q8 (fun r y => mA ((fun r => σ (swp p8 q8 r)) r) y)) (rsw Ak p8 q8 n9) n9 (q8 + 1)))) hk_21 (7 * q8 + q8) (by first | rfl | (push_cast; omega)) (by omega) (by omega) dX6_determinant_195 ?_
                        rw [fl_at (by omega)]
                        rw [elm_o (by omega)]
                        have hld : (rsw Ak p8 q8 n9) q8 q8 = (dt (q8 + 1) (fun r y => mA ((fun r => σ (swp p8 q8 r)) r) y)) := by rw [hdt.2.1 q8 q8 (by omega) hq9 (by omega) hq9, ← mi_lead]
                        refine lv_lstore_n (lv' := [(2, .long (jL ((rsw Ak p8 q8 n9) q8 q8))), (8, .int (jI ((i8 : Nat) : Int))), (6, .int (jI ((q8 : Nat) : Int))), (4, .long (jL (-sgn))), (0, .ref (ad 1000)), (1, .int (jI ((n9 : Nat) : Int)))]) hx hb dX6_determinant_196 rfl hl (by decide) rfl (fun ls hl => ?_)
                        have hl : lv_has ls 10 [(2, .long (jL (dt (q8 + 1) (fun r y => mA ((fun r => σ (swp p8 q8 r)) r) y)))), (8, .int (jI ((i8 : Nat) : Int))), (6, .int (jI ((q8 : Nat) : Int))), (4, .long (jL (-sgn))), (0, .ref (ad 1000)), (1, .int (jI ((n9 : Nat) : Int)))] := by rw [← hld]; exact hl
                        have hl : lv_has ls 10 [(2, .long (jL (dt (q8 + 1) (fun r y => mA ((fun r => σ (swp p8 q8 r)) r) y)))), (6, .int (jI ((q8 : Nat) : Int))), (4, .long (jL (-sgn))), (0, .ref (ad 1000)), (1, .int (jI ((n9 : Nat) : Int)))] := lv_sub hl [0, 2, 3, 4, 5] rfl
                        refine lv_iinc (v := jI (((q8 : Nat) : Int) + 1)) (lv' := [(6, .int (jI (((q8 : Nat) : Int) + 1))), (2, .long (jL (dt (q8 + 1) (fun r y => mA ((fun r => σ (swp p8 q8 r)) r) y)))), (4, .long (jL (-sgn))), (0, .ref (ad 1000)), (1, .int (jI ((n9 : Nat) : Int)))]) hx hb dX6_determinant_197 hl (k := 1) rfl (jI_add _ _) (by decide) rfl (fun ls hl => ?_)
                        refine lv_goto (tgt := 8) hx hb dX6_determinant_200 (by decide) ?_
                        exact ih_OUT (q8 + 1) ((fun r => σ (swp p8 q8 r))) ((elm q8 n9 (dt q8 (fun r y => mA ((fun r => σ (swp p8 q8 r)) r) y)) (rsw Ak p8 q8 n9) n9 (q8 + 1))) ((-sgn)) (by omega) (dst_next hdt hq9 hnz) (by omega) ctv_19 _ _ hk_21 trivial hofv_19 trivial hW hS ls (lv_sub hl [0, 2, 1, 3, 4] rfl)
                      · skip
                        refine lv_iload hx hb dX6_determinant_89 (lv_at hl 1 rfl) ?_
                        refine lv_iconst (v := jI 1) hx hb dX6_determinant_91 rfl ?_
                        refine rm_iadd hx hb dX6_determinant_92 ?_
                        refine lv_istore (lv' := [(9, .int (jI (((q8 : Nat) : Int) + 1))), (8, .int (jI ((i8 : Nat) : Int))), (6, .int (jI ((q8 : Nat) : Int))), (4, .long (jL (-sgn))), (2, .long (jL (dt q8 (fun r y => mA ((fun r => σ (swp p8 q8 r)) r) y)))), (0, .ref (ad 1000)), (1, .int (jI ((n9 : Nat) : Int)))]) hx hb dX6_determinant_93 hl (by decide) rfl (fun ls hl => ?_)
                        have LJ : ∀ (k : Nat) (j8 : Nat) (hj8 : j8 ≤ n9) (hj9 : q8 < j8), n9 - j8 < k → ∀ (ctv : rm_C) (H : Heap) (locs : List Loc), (ctv 1007 = some (rl ty 49 (fl 7 (elm q8 n9 (dt q8 (fun r y => mA ((fun r => σ (swp p8 q8 r)) r) y)) (rsw Ak p8 q8 n9) i8 j8)))) → ∀ (_ : True), (∀ q, q ≠ 1007 → ctv q = ct q) → ∀ (_ : True), rm_W D ad ctv (rm_A ad ct s.heap.size) H → va_S (rm_A ad ct s.heap.size) s.heap H locs → ∀ ls : Array Slot, lv_has ls 10 [(9, .int (jI ((j8 : Nat) : Int))), (8, .int (jI ((i8 : Nat) : Int))), (6, .int (jI ((q8 : Nat) : Int))), (4, .long (jL (-sgn))), (2, .long (jL (dt q8 (fun r y => mA ((fun r => σ (swp p8 q8 r)) r) y)))), (0, .ref (ad 1000)), (1, .int (jI ((n9 : Nat) : Int)))] → W p l e (headSpec wsX6_determinant ({ frames := 1, cells := 0, slots := 0, locals := 26 })).room s m args below meth c H locs 0 0 (MQ below (rm_Ql D ad ct s.heap.size (fun z ct1 => ∃ A1 : Nat → Nat → Int, z = dt n9 mA ∧ ct1 1007 = some (rl ty 49 (fl 7 A1)) ∧ (∀ q, q ≠ 1007 → ct1 q = ct q))) args s 0 0 (rm_A ad ct s.heap.size)) (F0 m 95 ls []) := by
                          intro k
                          induction k with
                          | zero => intro j8 hj8 hj9 hk; exact absurd hk (Nat.not_lt_zero _)
                          | succ k ih_LJ =>
                            intro j8 hj8 hj9 hk ctv_22 H locs hv0_22 _ hofv_22 _ hW hS ls hl
                            refine lv_iload hx hb dX6_determinant_95 (lv_at hl 0 rfl) ?_
                            refine lv_iload_n hx hb dX6_determinant_97 rfl (lv_at hl 6 rfl) ?_
                            refine rm_icmp_ge (tgt := 177) hx hb ⟨by omega, by omega⟩ ⟨by omega, by omega⟩ dX6_determinant_98 (by decide) (fun hc_23 => ?_) (fun hc_23 => ?_)
                            · skip
                              have hje : j8 = n9 := by omega
                              have hk_24 : ctv_22 1007 = some (rl ty 49 (fl 7 (elm q8 n9 (dt q8 (fun r y => mA ((fun r => σ (swp p8 q8 r)) r) y)) (rsw Ak p8 q8 n9) (i8 + 1) (q8 + 1)))) := hv0_22.trans (congrArg (fun G => some (rl ty 49 (fl 7 G))) (by rw [hje]; exact elm_n (by omega)))
                              have hl : lv_has ls 10 [(8, .int (jI ((i8 : Nat) : Int))), (6, .int (jI ((q8 : Nat) : Int))), (4, .long (jL (-sgn))), (2, .long (jL (dt q8 (fun r y => mA ((fun r => σ (swp p8 q8 r)) r) y)))), (0, .ref (ad 1000)), (1, .int (jI ((n9 : Nat) : Int)))] := lv_sub hl [1, 2, 3, 4, 5, 6] rfl
                              refine lv_iinc (v := jI (((i8 : Nat) : Int) + 1)) (lv' := [(8, .int (jI (((i8 : Nat) : Int) + 1))), (6, .int (jI ((q8 : Nat) : Int))), (4, .long (jL (-sgn))), (2, .long (jL (dt q8 (fun r y => mA ((fun r => σ (swp p8 q8 r)) r) y)))), (0, .ref (ad 1000)), (1, .int (jI ((n9 : Nat) : Int)))]) hx hb dX6_determinant_177 hl (k := 0) rfl (jI_add _ _) (by decide) rfl (fun ls hl => ?_)
                              refine lv_goto (tgt := 83) hx hb dX6_determinant_180 (by decide) ?_
                              exact ih_LI (i8 + 1) (by omega) (by omega) (by omega) ctv_22 _ _ hk_24 trivial hofv_22 trivial hW hS ls (lv_sub hl [0, 1, 2, 3, 4, 5] rfl)
                            · skip
                              have r1 := dst_rng hbd hdt hq9 (i := i8) (j := j8) (by omega) (by omega) (by omega) (by omega)
                              have r2 := dst_rng hbd hdt hq9 (i := q8) (j := q8) (by omega) hq9 (by omega) hq9
                              have r3 := dst_rng hbd hdt hq9 (i := i8) (j := q8) (by omega) (by omega) (by omega) hq9
                              have r4 := dst_rng hbd hdt hq9 (i := q8) (j := j8) (by omega) hq9 (by omega) (by omega)
                              have m1 := mul_bd r1 r2
                              have m2 := mul_bd r3 r4
                              refine lv_aload_n hx hb dX6_determinant_101 rfl (lv_at hl 5 rfl) ?_
                              refine rm_get (ci := 6) (v := .ref (ad 1007)) (C := RX6) (T := TX6) (N := 19) hx hb hts (by decide +kernel) hown hK hW ((hofv_22 1000 (by omega)).trans hMo.1) rfl 9 (by decide) (hts (.fieldLink RX6 30 "GrainYardModel" "m" "[J") (by decide +kernel)) (fun _ h9 => h9) rfl dX6_determinant_102 ?_
                              refine lv_bipush (v := jI 7) hx hb dX6_determinant_105 (by decide) ?_
                              refine lv_iload hx hb dX6_determinant_107 (lv_at hl 1 rfl) ?_
                              refine rm_imul hx hb dX6_determinant_109 ?_
                              refine lv_iload hx hb dX6_determinant_110 (lv_at hl 0 rfl) ?_
                              refine rm_iadd hx hb dX6_determinant_112 ?_
                              refine lv_aload_n hx hb dX6_determinant_113 rfl (lv_at hl 5 rfl) ?_
                              refine rm_get (ci := 6) (v := .ref (ad 1007)) (C := RX6) (T := TX6) (N := 19) hx hb hts (by decide +kernel) hown hK hW ((hofv_22 1000 (by omega)).trans hMo.1) rfl 9 (by decide) (hts (.fieldLink RX6 30 "GrainYardModel" "m" "[J") (by decide +kernel)) (fun _ h9 => h9) rfl dX6_determinant_114 ?_
                              refine lv_bipush (v := jI 7) hx hb dX6_determinant_117 (by decide) ?_
                              refine lv_iload hx hb dX6_determinant_119 (lv_at hl 1 rfl) ?_
                              refine rm_imul hx hb dX6_determinant_121 ?_
                              refine lv_iload hx hb dX6_determinant_122 (lv_at hl 0 rfl) ?_
                              refine rm_iadd hx hb dX6_determinant_124 ?_
                              refine rm_lald hx hb hK hW (f := (fl 7 (elm q8 n9 (dt q8 (fun r y => mA ((fun r => σ (swp p8 q8 r)) r) y)) (rsw Ak p8 q8 n9) i8 j8))) hv0_22 (7 * i8 + j8) (by first | rfl | (push_cast; omega)) (by omega) (by omega) dX6_determinant_125 ?_
                              rw [fl_at (by omega)]
                              rw [elm_o (by omega)]
                              refine lv_aload_n hx hb dX6_determinant_126 rfl (lv_at hl 5 rfl) ?_
                              refine rm_get (ci := 6) (v := .ref (ad 1007)) (C := RX6) (T := TX6) (N := 19) hx hb hts (by decide +kernel) hown hK hW ((hofv_22 1000 (by omega)).trans hMo.1) rfl 9 (by decide) (hts (.fieldLink RX6 30 "GrainYardModel" "m" "[J") (by decide +kernel)) (fun _ h9 => h9) rfl dX6_determinant_127 ?_
                              refine lv_bipush (v := jI 7) hx hb dX6_determinant_130 (by decide) ?_
                              refine lv_iload hx hb dX6_determinant_132 (lv_at hl 2 rfl) ?_
                              refine rm_imul hx hb dX6_determinant_134 ?_
                              refine lv_iload hx hb dX6_determinant_135 (lv_at hl 2 rfl) ?_
                              refine rm_iadd hx hb dX6_determinant_137 ?_
                              refine rm_lald hx hb hK hW (f := (fl 7 (elm q8 n9 (dt q8 (fun r y => mA ((fun r => σ (swp p8 q8 r)) r) y)) (rsw Ak p8 q8 n9) i8 j8))) hv0_22 (7 * q8 + q8) (by first | rfl | (push_cast; omega)) (by omega) (by omega) dX6_determinant_138 ?_
                              rw [fl_at (by omega)]
                              rw [elm_o (by omega)]
                              refine rm_lmul hx hb dX6_determinant_139 ?_
                              refine lv_aload_n hx hb dX6_determinant_140 rfl (lv_at hl 5 rfl) ?_
                              refine rm_get (ci := 6) (v := .ref (ad 1007)) (C := RX6) (T := TX6) (N := 19) hx hb hts (by decide +kernel) hown hK hW ((hofv_22 1000 (by omega)).trans hMo.1) rfl 9 (by decide) (hts (.fieldLink RX6 30 "GrainYardModel" "m" "[J") (by decide +kernel)) (fun _ h9 => h9) rfl dX6_determinant_141 ?_
                              refine lv_bipush (v := jI 7) hx hb dX6_determinant_144 (by decide) ?_
                              refine lv_iload hx hb dX6_determinant_146 (lv_at hl 1 rfl) ?_
                              refine rm_imul hx hb dX6_determinant_148 ?_
                              refine lv_iload hx hb dX6_determinant_149 (lv_at hl 2 rfl) ?_
                              refine rm_iadd hx hb dX6_determinant_151 ?_
                              refine rm_lald hx hb hK hW (f := (fl 7 (elm q8 n9 (dt q8 (fun r y => mA ((fun r => σ (swp p8 q8 r)) r) y)) (rsw Ak p8 q8 n9) i8 j8))) hv0_22 (7 * i8 + q8) (by first | rfl | (push_cast; omega)) (by omega) (by omega) dX6_determinant_152 ?_
                              rw [fl_at (by omega)]
                              rw [elm_o (by omega)]
                              refine lv_aload_n hx hb dX6_determinant_153 rfl (lv_at hl 5 rfl) ?_
                              refine rm_get (ci := 6) (v := .ref (ad 1007)) (C := RX6) (T := TX6) (N := 19) hx hb hts (by decide +kernel) hown hK hW ((hofv_22 1000 (by omega)).trans hMo.1) rfl 9 (by decide) (hts (.fieldLink RX6 30 "GrainYardModel" "m" "[J") (by decide +kernel)) (fun _ h9 => h9) rfl dX6_determinant_154 ?_
                              refine lv_bipush (v := jI 7) hx hb dX6_determinant_157 (by decide) ?_
                              refine lv_iload hx hb dX6_determinant_159 (lv_at hl 2 rfl) ?_
                              refine rm_imul hx hb dX6_determinant_161 ?_
                              refine lv_iload hx hb dX6_determinant_162 (lv_at hl 0 rfl) ?_
                              refine rm_iadd hx hb dX6_determinant_164 ?_
                              refine rm_lald hx hb hK hW (f := (fl 7 (elm q8 n9 (dt q8 (fun r y => mA ((fun r => σ (swp p8 q8 r)) r) y)) (rsw Ak p8 q8 n9) i8 j8))) hv0_22 (7 * q8 + j8) (by first | rfl | (push_cast; omega)) (by omega) (by omega) dX6_determinant_165 ?_
                              rw [fl_at (by omega)]
                              rw [elm_o (by omega)]
                              refine rm_lmul hx hb dX6_determinant_166 ?_
                              refine rm_lsub hx hb dX6_determinant_167 ?_
                              refine lv_lload_n hx hb dX6_determinant_168 rfl (lv_at hl 4 rfl) ?_
                              refine rm_ldiv hx hb dX6_determinant_169 ⟨by omega, by omega⟩ ⟨by omega, by omega⟩ hb0 ?_
                              refine rm_last hx hb hK hW hS (f := (fl 7 (elm q8 n9 (dt q8 (fun r y => mA ((fun r => σ (swp p8 q8 r)) r) y)) (rsw Ak p8 q8 n9) i8 j8))) hv0_22 (7 * i8 + j8) (by first | rfl | (push_cast; omega)) (by omega) (by omega) dX6_determinant_170 (fun H locs ct_25 hs_25 ho_25 hW hS hz_25 => ?_)
                              have hof_25 : ∀ q, q ≠ 1007 → ct_25 q = ct q := fun q h0_25 => (ho_25 q h0_25).trans (hofv_22 q h0_25)
                              have hk_26 : ct_25 1007 = some (rl ty 49 (fl 7 (ub (elm q8 n9 (dt q8 (fun r y => mA ((fun r => σ (swp p8 q8 r)) r) y)) (rsw Ak p8 q8 n9) i8 j8) i8 (ub ((elm q8 n9 (dt q8 (fun r y => mA ((fun r => σ (swp p8 q8 r)) r) y)) (rsw Ak p8 q8 n9) i8 j8) i8) j8 (Int.tdiv ((((rsw Ak p8 q8 n9) i8 j8) * ((rsw Ak p8 q8 n9) q8 q8)) - (((rsw Ak p8 q8 n9) i8 q8) * ((rsw Ak p8 q8 n9) q8 j8))) (dt q8 (fun r y => mA ((fun r => σ (swp p8 q8 r)) r) y))))))) := hs_25.trans (congrArg (fun f => some (rl ty 49 f)) (fl_ub (by omega) _ _))
                              have hk_27 : ct_25 1007 = some (rl ty 49 (fl 7 (elm q8 n9 (dt q8 (fun r y => mA ((fun r => σ (swp p8 q8 r)) r) y)) (rsw Ak p8 q8 n9) i8 (j8 + 1)))) := hk_26.trans (congrArg (fun G => some (rl ty 49 (fl 7 G))) (elm_s (by omega) (by omega)))
                              refine lv_iinc (v := jI (((j8 : Nat) : Int) + 1)) (lv' := [(9, .int (jI (((j8 : Nat) : Int) + 1))), (8, .int (jI ((i8 : Nat) : Int))), (6, .int (jI ((q8 : Nat) : Int))), (4, .long (jL (-sgn))), (2, .long (jL (dt q8 (fun r y => mA ((fun r => σ (swp p8 q8 r)) r) y)))), (0, .ref (ad 1000)), (1, .int (jI ((n9 : Nat) : Int)))]) hx hb dX6_determinant_171 hl (k := 0) rfl (jI_add _ _) (by decide) rfl (fun ls hl => ?_)
                              refine lv_goto (tgt := 95) hx hb dX6_determinant_174 (by decide) ?_
                              exact ih_LJ (j8 + 1) (by omega) (by omega) (by omega) ct_25 _ _ hk_27 trivial hof_25 trivial hW hS ls (lv_sub hl [0, 1, 2, 3, 4, 5, 6] rfl)
                        exact LJ (n9 + 1) (q8 + 1) (by omega) (by omega) (by omega) ctv_19 _ _ hv0_19 trivial hofv_19 trivial hW hS ls (lv_sub hl [0, 1, 2, 3, 4, 5, 6] rfl)
                  exact LI (n9 + 1) (q8 + 1) (by omega) (by omega) (by omega) ct_17 _ _ hk_18 trivial hof_17 trivial hW hS ls (lv_sub hl [0, 2, 1, 3, 4, 5] rfl)
              · skip
                have hc_5 := lcv_eq.mp hc_5
                have hzp : Ak p8 q8 = 0 := by omega
                refine lv_iinc (v := jI (((p8 : Nat) : Int) + 1)) (lv' := [(7, .int (jI (((p8 : Nat) : Int) + 1))), (6, .int (jI ((q8 : Nat) : Int))), (4, .long (jL sgn)), (2, .long (jL (dt q8 (fun r y => mA (σ r) y)))), (0, .ref (ad 1000)), (1, .int (jI ((n9 : Nat) : Int)))]) hx hb dX6_determinant_42 hl (k := 0) rfl (jI_add _ _) (by decide) rfl (fun ls hl => ?_)
                refine lv_goto (tgt := 18) hx hb dX6_determinant_45 (by decide) ?_
                exact ih_LP (p8 + 1) (by omega) (by omega) (fun i h1 h2 => by
                    rcases Nat.lt_or_ge i p8 with h | h
                    · exact hpz i h1 h
                    · rw [show i = p8 by omega]; exact hzp) (by omega) ctv_3 _ _ hv0_3 trivial hofv_3 trivial hW hS ls (lv_sub hl [0, 1, 2, 3, 4, 5] rfl)
        exact LP (n9 + 1) (q8) (by omega) (by omega) (fun i h1 h2 => by omega) (by omega) ctv_1 _ _ hv0_1 trivial hofv_1 trivial hW hS ls (lv_sub hl [0, 1, 2, 3, 4, 5] rfl)
  exact OUT (n9 + 1) (0) (fun r => r) (mA) (1) (by omega) (dst_0 n9 mA) (by omega) ct _ _ hMo.2.2.2.2.2.2.2.1 trivial (fun _ _ => rfl) trivial hW hS ls (lv_sub hl [0, 1, 2, 3, 4] rfl)
