section ModPic12
theorem mk_all : ∀ w, w < 8 → cb (2 ^ w - 1) 7 = w ∧ ∀ i, i < w → nb (2 ^ w - 1) i = i := by decide +kernel
theorem mk_one : ∀ w, w < 8 → ∀ q, q < w → cb (2 ^ w - 1 - 2 ^ q) 7 = w - 1 ∧ ∀ i, i < w - 1 → nb (2 ^ w - 1 - 2 ^ q) i = sk q i := by decide +kernel
/-- how many trees: the determinant of the yard's matrix without the hole -/
def lpm (n : Nat) (M : Nat → Nat → Int) : Nat → Nat → Int := fun i j => lap n M (i + 1) (j + 1)
def trd (n : Nat) (M : Nat → Nat → Int) : Int := dt (n - 1) (lpm n M)
theorem mnr_all {n : Nat} {M : Nat → Nat → Int} (hn : n ≤ 8) (h1 : 1 ≤ n) : mnr n M (2 ^ (n - 1) - 1) (2 ^ (n - 1) - 1) = trd n M := by
  obtain ⟨e1, e2⟩ := mk_all (n - 1) (by omega)
  unfold mnr trd lpm
  rw [e1]
  exact dt_cong (fun r c hr hc => by rw [e2 r hr, e2 c hc])
def lgc (f : Nat → Nat) : List Nat → Nat
  | [] => 0
  | a :: L => Nat.gcd (f a) (lgc f L)
theorem lgc_dvd {f : Nat → Nat} {d : Nat} : ∀ {L : List Nat}, d ∣ lgc f L ↔ ∀ a, a ∈ L → d ∣ f a
  | [] => ⟨fun _ a h => (List.not_mem_nil h).elim, fun _ => Nat.dvd_zero d⟩
  | a :: L => by
    show d ∣ Nat.gcd (f a) (lgc f L) ↔ _
    rw [Nat.dvd_gcd_iff, lgc_dvd]
    exact ⟨fun h b hb => by rcases List.mem_cons.mp hb with e | e; rw [e]; exact h.1; exact h.2 b e, fun h => ⟨h a (List.mem_cons_self ..), fun b hb => h b (List.mem_cons_of_mem _ hb)⟩⟩
/-- what all minors of a size have in common -/
def dvg (n : Nat) (M : Nat → Nat → Int) (w : Nat) : Nat := lgc (fun r => lgc (fun c => if cb r 7 = w ∧ cb c 7 = w then (mnr n M r c).natAbs else 0) (List.range (2 ^ (n - 1)))) (List.range (2 ^ (n - 1)))
theorem dvg_dvd {n : Nat} {M : Nat → Nat → Int} {w d : Nat} : d ∣ dvg n M w ↔ ∀ r c, r < 2 ^ (n - 1) → c < 2 ^ (n - 1) → cb r 7 = w → cb c 7 = w → d ∣ (mnr n M r c).natAbs := by
  unfold dvg
  rw [lgc_dvd]
  constructor
  · intro h r c hr hc h1 h2
    have h3 := lgc_dvd.mp (h r (List.mem_range.mpr hr)) c (List.mem_range.mpr hc)
    rw [if_pos ⟨h1, h2⟩] at h3; exact h3
  · intro h r hr
    refine lgc_dvd.mpr (fun c hc => ?_)
    by_cases e : cb r 7 = w ∧ cb c 7 = w
    · rw [if_pos e]; exact h r c (List.mem_range.mp hr) (List.mem_range.mp hc) e.1 e.2
    · rw [if_neg e]; exact Nat.dvd_zero d
theorem dvg_eq {n : Nat} {M : Nat → Nat → Int} {w g : Nat} (h : ∀ d, d ∣ g ↔ ∀ r c, r < 2 ^ (n - 1) → c < 2 ^ (n - 1) → cb r 7 = w → cb c 7 = w → d ∣ (mnr n M r c).natAbs) : g = dvg n M w :=
  Nat.dvd_antisymm (dvg_dvd.mpr ((h g).mp (Nat.dvd_refl g))) ((h _).mpr (dvg_dvd.mp (Nat.dvd_refl _)))
theorem dvg_rng {n : Nat} {M : Nat → Nat → Int} (hy : yok n M) {w : Nat} (h : ∃ r c, r < 2 ^ (n - 1) ∧ c < 2 ^ (n - 1) ∧ cb r 7 = w ∧ cb c 7 = w ∧ mnr n M r c ≠ 0) : 0 < dvg n M w ∧ dvg n M w < 2147483648 := by
  obtain ⟨r, c, h1, h2, h3, h4, h5⟩ := h
  have h6 := dvg_dvd.mp (Nat.dvd_refl (dvg n M w)) r c h1 h2 h3 h4
  have h7 := mnr_rng hy h1 h2 (h3.trans h4.symm)
  have h8 : 0 < (mnr n M r c).natAbs := by omega
  have h9 := Nat.le_of_dvd h8 h6
  exact ⟨Nat.pos_of_dvd_of_pos h6 h8, by omega⟩
/-- the divisors one after the other, 1 ahead; how often they change -/
def dvs (n : Nat) (M : Nat → Nat → Int) (q : Nat) : Nat := if q = 0 then 1 else dvg n M q
def cnd (f : Nat → Nat) : Nat → Nat
  | 0 => 0
  | q + 1 => cnd f q + if f (q + 1) = f q then 0 else 1
theorem cnd_le (f : Nat → Nat) : ∀ q, cnd f q ≤ q
  | 0 => Nat.le_refl _
  | q + 1 => by
    have h := cnd_le f q
    show cnd f q + (if f (q + 1) = f q then 0 else 1) ≤ _
    split <;> omega
theorem cnd_ex {f : Nat → Nat} : ∀ {b i : Nat}, i < cnd f b → ∃ q, q < b ∧ f (q + 1) ≠ f q ∧ cnd f q = i
  | 0, i, h => absurd h (Nat.not_lt_zero _)
  | b + 1, i, h => by
    rcases Nat.lt_or_ge i (cnd f b) with e | e
    · obtain ⟨q, h1, h2, h3⟩ := cnd_ex e; exact ⟨q, by omega, h2, h3⟩
    · have h4 : cnd f (b + 1) = cnd f b + if f (b + 1) = f b then 0 else 1 := rfl
      rw [h4] at h
      by_cases e2 : f (b + 1) = f b
      · rw [if_pos e2] at h; omega
      · exact ⟨b, by omega, e2, by rw [if_neg e2] at h; omega⟩
theorem cnd_mono (f : Nat → Nat) {a : Nat} : ∀ {b : Nat}, a ≤ b → cnd f a ≤ cnd f b
  | 0, h => by rw [show a = 0 by omega]; exact Nat.le_refl _
  | b + 1, h => by
    rcases Nat.lt_or_ge b a with e | e
    · rw [show a = b + 1 by omega]; exact Nat.le_refl _
    · have := cnd_mono f (b := b) e
      show _ ≤ cnd f b + _
      omega
theorem cnd_lt {f : Nat → Nat} {a b : Nat} (h : f (a + 1) ≠ f a) (hab : a < b) : cnd f a < cnd f b := by
  have h1 := cnd_mono f (show a + 1 ≤ b by omega)
  have h2 : cnd f (a + 1) = cnd f a + if f (a + 1) = f a then 0 else 1 := rfl
  rw [if_neg h] at h2; omega
end ModPic12
set_option maxHeartbeats 4000000 in
set_option maxRecDepth 100000 in
theorem c_X6_treesOf (l : Launch) (D : va_G) (ty : Nat → ClassId) (ad : Nat → Nat) (ct : rm_C) (sz : Nat) (th : Int) (yc hc : Nat) (yn : Nat → Nat) (yM : Nat → Nat → Nat → Int) (yu : Nat → Int) (hy : Nat → Nat) (hg hf mA : Nat → Nat → Int) (pt ro ke kt mu sl tw bw de : Nat → Int) (hMo : ModAt ty ad ct th yc hc yn yM yu hy hg hf mA pt ro ke kt mu sl tw bw de) (y9 : Nat) (hy9 : y9 < 6) (hn9 : 2 ≤ yn y9 ∧ yn y9 ≤ 8) (hM9 : ∀ i j, 0 ≤ yM y9 i j ∧ yM y9 i j ≤ 3) (hyk : yok (yn y9) (yM y9)) : Met l yX6_treesOf wsX6_treesOf ({ frames := 4, cells := 0, slots := 0, locals := 97 }) (rm_P D ty ad ct sz [.ref (ad 1000), .int (jI ((y9 : Nat) : Int))]) (rm_Ql D ad ct sz (fun z ct1 => ∃ A1 : Nat → Nat → Int, z = trd (yn y9) (yM y9) ∧ ct1 1007 = some (rl ty 49 (fl 7 A1)) ∧ (∀ q, q ≠ 1007 → ct1 q = ct q))) 0 0 (rm_A ad ct sz) := by
  refine Met.ofW (cc := cX6_treesOf) (maxL := 2) (ret := (some .long)) (by decide) rfl ?_
  intro p e s m args below meth c s₁ B hml hv
  obtain ⟨hargs, hsz, hW, hK, hNw⟩ := hv
  have hx := B.exec
  have hb := B.bytes
  have hr := B.returns
  have hts := atoms_spec (ws := wsX6_treesOf) B.pre
  have hown : s.vm.findClass RX6 = some m.cls := findClass_of_methodNamed B.named
  have hlocks := B.notSynchronized
  subst hsz
  have hW := hW.own (sz := s.heap.size)
  have hA : ∀ q : Nat, s.heap.size ≤ q → rm_A ad ct s.heap.size q := fun q h => Or.inr h
  have hS : va_S (rm_A ad ct s.heap.size) s.heap s.heap [] := va_S.rf
  have hent : entryFrame m args 2 = entryFrame m ([.ref (ad 1000), .int (jI ((y9 : Nat) : Int))] : List Value).toArray 2 := by rw [hargs]
  have hl := lv_entry ([.ref (ad 1000), .int (jI ((y9 : Nat) : Int))]) (n := 2) (Nat.le_of_ble_eq_true rfl)
  rw [hent, lg_entry_eq]
  generalize (lg_sl ([.ref (ad 1000), .int (jI ((y9 : Nat) : Int))]) ++ List.replicate (2 - (lg_sl ([.ref (ad 1000), .int (jI ((y9 : Nat) : Int))])).length) Slot.unset).toArray = ls at hl ⊢
  have hl : lv_has ls 2 [(0, .ref (ad 1000)), (1, .int (jI ((y9 : Nat) : Int)))] := hl
  have hp2 : 2 ^ ((yn y9) - 1) ≤ 2 ^ 7 := Nat.pow_le_pow_right (by omega) (by omega)
  have hp1 := Nat.one_le_two_pow (n := (yn y9) - 1)
  refine lv_aload_n hx hb dX6_treesOf_0 rfl (lv_at hl 0 rfl) ?_
  refine lv_iload_n hx hb dX6_treesOf_1 rfl (lv_at hl 1 rfl) ?_
  refine lv_aload_n hx hb dX6_treesOf_2 rfl (lv_at hl 0 rfl) ?_
  refine lv_iload_n hx hb dX6_treesOf_3 rfl (lv_at hl 1 rfl) ?_
  refine rm_calli (va_runV (As := [.int (jI ((y9 : Nat) : Int))]) (rest := [.int (jI ((y9 : Nat) : Int)), .ref (ad 1000)]) ⟨hx, hb, hml, hown, hts⟩ (c_X6_all l D ty ad ct s.heap.size th yc hc yn yM yu hy hg hf mA pt ro ke kt mu sl tw bw de hMo y9 hy9 hn9) (cwV 1 hts gX6_treesOf_X6_all rfl rfl rfl (by decide +kernel) ⟨Nat.le_of_ble_eq_true rfl, Nat.le_of_ble_eq_true rfl⟩) (rm_preV hK hNw hW hMo.1 rfl) rfl rfl hl.1 rfl (lv_room (Nat.le_of_ble_eq_true rfl)) dX6_treesOf_4 ⟨Nat.zero_le _, Nat.zero_le _⟩) hW hS hA (fun z_1 ct_1 H locs hq_1 hW hS => ?_)
  obtain ⟨hz, hcc_1⟩ := hq_1
  have hcc_1 := hcc_1.symm
  subst hcc_1
  subst hz
  refine lv_aload_n hx hb dX6_treesOf_7 rfl (lv_at hl 0 rfl) ?_
  refine lv_iload_n hx hb dX6_treesOf_8 rfl (lv_at hl 1 rfl) ?_
  refine rm_calli (va_runV (As := [.int (jI ((y9 : Nat) : Int))]) (rest := [.int (jI (((2 ^ ((yn y9) - 1) - 1) : Nat) : Int)), .int (jI ((y9 : Nat) : Int)), .ref (ad 1000)]) ⟨hx, hb, hml, hown, hts⟩ (c_X6_all l D ty ad ct H.size th yc hc yn yM yu hy hg hf mA pt ro ke kt mu sl tw bw de hMo y9 hy9 hn9) (cwV 1 hts gX6_treesOf_X6_all rfl rfl rfl (by decide +kernel) ⟨Nat.le_of_ble_eq_true rfl, Nat.le_of_ble_eq_true rfl⟩) (rm_preV hK hNw hW hMo.1 rfl) rfl rfl hl.1 rfl (lv_room (Nat.le_of_ble_eq_true rfl)) dX6_treesOf_9 ⟨Nat.zero_le _, Nat.zero_le _⟩) hW hS hA (fun z_2 ct_2 H locs hq_2 hW hS => ?_)
  obtain ⟨hz, hcc_2⟩ := hq_2
  have hcc_2 := hcc_2.symm
  subst hcc_2
  subst hz
  refine rm_calll (va_runV (As := [.int (jI ((y9 : Nat) : Int)), .int (jI (((2 ^ ((yn y9) - 1) - 1) : Nat) : Int)), .int (jI (((2 ^ ((yn y9) - 1) - 1) : Nat) : Int))]) (rest := []) ⟨hx, hb, hml, hown, hts⟩ (c_X6_minor l D ty ad ct H.size th yc hc yn yM yu hy hg hf mA pt ro ke kt mu sl tw bw de hMo y9 hy9 hn9 hM9 hyk (2 ^ ((yn y9) - 1) - 1) (2 ^ ((yn y9) - 1) - 1) (by omega) (by omega) rfl) (cwV 3 hts gX6_treesOf_X6_minor rfl rfl rfl (by decide +kernel) ⟨Nat.le_of_ble_eq_true rfl, Nat.le_of_ble_eq_true rfl⟩) (rm_preV hK hNw hW hMo.1 rfl) rfl rfl hl.1 rfl (lv_room (Nat.le_of_ble_eq_true rfl)) dX6_treesOf_12 ⟨Nat.zero_le _, Nat.zero_le _⟩) hW hS hA (fun z_3 ct_3 H locs hq_3 hW hS => ?_)
  obtain ⟨A3, hz, hq1, hq2⟩ := hq_3
  rw [mnr_all hn9.2 (by omega)] at hz
  have ho_3 : ∀ q, q ≠ 1007 → ct_3 q = ct q := hq2
  have hof_3 : ∀ q, q ≠ 1007 → ct_3 q = ct q := fun q h0_3 => (ho_3 q h0_3).trans rfl
  have hm0_3 : ct_3 1007 = some (rl ty 49 (fl 7 A3)) := hq1
  exact W.lret hx hb hr (fun t ht hw => ⟨⟨_, (z_3, ct_3), rfl, ⟨rfl, ⟨A3, hz, hm0_3, fun q h0 => hof_3 q h0⟩⟩, by show rm_W D ad _ _ t.heap; rw [ht]; exact hW⟩, hS.F ht⟩) hS.2.2 dX6_treesOf_15
set_option maxHeartbeats 4000000 in
set_option maxRecDepth 100000 in
theorem c_X6_trees (l : Launch) (D : va_G) (ty : Nat → ClassId) (ad : Nat → Nat) (ct : rm_C) (sz : Nat) (th : Int) (yc hc : Nat) (yn : Nat → Nat) (yM : Nat → Nat → Nat → Int) (yu : Nat → Int) (hy : Nat → Nat) (hg hf mA : Nat → Nat → Int) (pt ro ke kt mu sl tw bw de : Nat → Int) (hMo : ModAt ty ad ct th yc hc yn yM yu hy hg hf mA pt ro ke kt mu sl tw bw de) (hb20 : yc ≤ 6 ∧ hc ≤ 20) (hyn : ∀ y, y < yc → 2 ≤ yn y ∧ yn y ≤ 8) (hyM : ∀ y, y < yc → ∀ i j, 0 ≤ yM y i j ∧ yM y i j ≤ 3) (hyk : ∀ y, y < yc → yok (yn y) (yM y)) (z9 : Int) (hz9 : r32 z9) : Met l yX6_trees wsX6_trees ({ frames := 5, cells := 0, slots := 0, locals := 118 }) (rm_P D ty ad ct sz [.ref (ad 1000), .int (jI z9)]) (rm_Ql D ad ct sz (fun z ct1 => (∀ q, (q < 1000 ∨ 1016 < q) → ct1 q = ct q) ∧ (((z9 < 0 ∨ ((yc : Nat) : Int) ≤ z9) ∧ ModX ty ad ct1 1 yc hc yn yM yu hy hg hf) ∨ ∃ y9 : Nat, z9 = (y9 : Int) ∧ y9 < yc ∧ ((isz (yn y9) (yM y9) 8 = 2 ^ yn y9 - 1 ∧ z = trd (yn y9) (yM y9)) ∨ (isz (yn y9) (yM y9) 8 ≠ 2 ^ yn y9 - 1 ∧ z = 0)) ∧ ModX ty ad ct1 0 yc hc yn yM yu hy hg hf))) 0 0 (rm_A ad ct sz) := by
  refine Met.ofW (cc := cX6_trees) (maxL := 2) (ret := (some .long)) (by decide) rfl ?_
  intro p e s m args below meth c s₁ B hml hv
  obtain ⟨hargs, hsz, hW, hK, hNw⟩ := hv
  have hx := B.exec
  have hb := B.bytes
  have hr := B.returns
  have hts := atoms_spec (ws := wsX6_trees) B.pre
  have hown : s.vm.findClass RX6 = some m.cls := findClass_of_methodNamed B.named
  have hlocks := B.notSynchronized
  subst hsz
  have hW := hW.own (sz := s.heap.size)
  have hA : ∀ q : Nat, s.heap.size ≤ q → rm_A ad ct s.heap.size q := fun q h => Or.inr h
  have hS : va_S (rm_A ad ct s.heap.size) s.heap s.heap [] := va_S.rf
  have hent : entryFrame m args 2 = entryFrame m ([.ref (ad 1000), .int (jI z9)] : List Value).toArray 2 := by rw [hargs]
  have hl := lv_entry ([.ref (ad 1000), .int (jI z9)]) (n := 2) (Nat.le_of_ble_eq_true rfl)
  rw [hent, lg_entry_eq]
  generalize (lg_sl ([.ref (ad 1000), .int (jI z9)]) ++ List.replicate (2 - (lg_sl ([.ref (ad 1000), .int (jI z9)])).length) Slot.unset).toArray = ls at hl ⊢
  have hl : lv_has ls 2 [(0, .ref (ad 1000)), (1, .int (jI z9))] := hl
  refine lv_aload_n hx hb dX6_trees_0 rfl (lv_at hl 0 rfl) ?_
  refine lv_iload_n hx hb dX6_trees_1 rfl (lv_at hl 1 rfl) ?_
  refine rm_calli (va_runV (As := [.int (jI z9)]) (rest := []) ⟨hx, hb, hml, hown, hts⟩ (c_X6_isYard l D ty ad ct s.heap.size th yc hc yn yM yu hy hg hf mA pt ro ke kt mu sl tw bw de hMo z9 hz9 hb20) (cwV 1 hts gX6_trees_X6_isYard rfl rfl rfl (by decide +kernel) ⟨Nat.le_of_ble_eq_true rfl, Nat.le_of_ble_eq_true rfl⟩) (rm_preV hK hNw hW hMo.1 rfl) rfl rfl hl.1 rfl (lv_room (Nat.le_of_ble_eq_true rfl)) dX6_trees_2 ⟨Nat.zero_le _, Nat.zero_le _⟩) hW hS hA (fun z_1 ct_1 H locs hq_1 hW hS => ?_)
  obtain ⟨hqo, hqc⟩ := hq_1
  rcases hqc with ⟨hbad, hz, hqs⟩ | ⟨hp1, hp2, hz, hqs⟩
  · skip
    subst hz
    have ho_1 : ∀ q, q ≠ 1000 → ct_1 q = ct q := hqo
    have hof_1 : ∀ q, q ≠ 1000 → q ≠ 1007 → ct_1 q = ct q := fun q h0_1 h1_1 => (ho_1 q h0_1).trans rfl
    have hm0_1 : ct_1 1000 = some (.inr (6, [.int (jI 1), .int (jI ((yc : Nat) : Int)), .int (jI ((hc : Nat) : Int)), .ref (ad 1001), .ref (ad 1002), .ref (ad 1003), .ref (ad 1004), .ref (ad 1005), .ref (ad 1006), .ref (ad 1007), .ref (ad 1008), .ref (ad 1009), .ref (ad 1010), .ref (ad 1011), .ref (ad 1012), .ref (ad 1013), .ref (ad 1014), .ref (ad 1015), .ref (ad 1016)]) : va_E) := hqs
    have hm1_1 : ct_1 1007 = some (rl ty 49 (fl 7 mA)) := (ho_1 1007 (by omega)).trans hMo.2.2.2.2.2.2.2.1
    refine rm_if_eq (tgt := 24) hx hb ⟨by omega, by omega⟩ dX6_trees_5 (by decide) (fun _ => ?_) (fun hq => absurd hq (by omega))
    refine lv_lconst (v := jL 0) hx hb dX6_trees_24 rfl ?_
    exact W.lret hx hb hr (fun t ht hw => ⟨⟨_, (0, ct_1), rfl, ⟨rfl, ⟨(fun q hq9 => hof_1 q (by omega) (by omega)), Or.inl ⟨hbad, ⟨mA, pt, ro, ke, kt, mu, sl, tw, bw, de, ⟨hm0_1, ((hof_1 1001 (by omega) (by omega)).trans hMo.2.1), ((hof_1 1002 (by omega) (by omega)).trans hMo.2.2.1), ((hof_1 1003 (by omega) (by omega)).trans hMo.2.2.2.1), ((hof_1 1004 (by omega) (by omega)).trans hMo.2.2.2.2.1), ((hof_1 1005 (by omega) (by omega)).trans hMo.2.2.2.2.2.1), ((hof_1 1006 (by omega) (by omega)).trans hMo.2.2.2.2.2.2.1), hm1_1, ((hof_1 1008 (by omega) (by omega)).trans hMo.2.2.2.2.2.2.2.2.1), ((hof_1 1009 (by omega) (by omega)).trans hMo.2.2.2.2.2.2.2.2.2.1), ((hof_1 1010 (by omega) (by omega)).trans hMo.2.2.2.2.2.2.2.2.2.2.1), ((hof_1 1011 (by omega) (by omega)).trans hMo.2.2.2.2.2.2.2.2.2.2.2.1), ((hof_1 1012 (by omega) (by omega)).trans hMo.2.2.2.2.2.2.2.2.2.2.2.2.1), ((hof_1 1013 (by omega) (by omega)).trans hMo.2.2.2.2.2.2.2.2.2.2.2.2.2.1), ((hof_1 1014 (by omega) (by omega)).trans hMo.2.2.2.2.2.2.2.2.2.2.2.2.2.2.1), ((hof_1 1015 (by omega) (by omega)).trans hMo.2.2.2.2.2.2.2.2.2.2.2.2.2.2.2.1), ((hof_1 1016 (by omega) (by omega)).trans hMo.2.2.2.2.2.2.2.2.2.2.2.2.2.2.2.2)⟩⟩⟩⟩⟩, by show rm_W D ad _ _ t.heap; rw [ht]; exact hW⟩, hS.F ht⟩) hS.2.2 dX6_trees_25
  · skip
    subst hz
    have ho_1 : ∀ q, q ≠ 1000 → ct_1 q = ct q := hqo
    have hof_1 : ∀ q, q ≠ 1000 → q ≠ 1007 → ct_1 q = ct q := fun q h0_1 h1_1 => (ho_1 q h0_1).trans rfl
    have hm0_1 : ct_1 1000 = some (.inr (6, [.int (jI 0), .int (jI ((yc : Nat) : Int)), .int (jI ((hc : Nat) : Int)), .ref (ad 1001), .ref (ad 1002), .ref (ad 1003), .ref (ad 1004), .ref (ad 1005), .ref (ad 1006), .ref (ad 1007), .ref (ad 1008), .ref (ad 1009), .ref (ad 1010), .ref (ad 1011), .ref (ad 1012), .ref (ad 1013), .ref (ad 1014), .ref (ad 1015), .ref (ad 1016)]) : va_E) := hqs
    have hm1_1 : ct_1 1007 = some (rl ty 49 (fl 7 mA)) := (ho_1 1007 (by omega)).trans hMo.2.2.2.2.2.2.2.1
    obtain ⟨y9, hn_y9⟩ : ∃ y9 : Nat, z9 = (y9 : Int) := ⟨z9.toNat, by omega⟩
    subst hn_y9
    have hy9 : y9 < yc := by omega
    have hn8 := hyn y9 hy9
    have hM8 := hyM y9 hy9
    refine rm_if_eq (tgt := 24) hx hb ⟨by omega, by omega⟩ dX6_trees_5 (by decide) (fun hq => absurd hq (by omega)) (fun _ => ?_)
    refine lv_aload_n hx hb dX6_trees_8 rfl (lv_at hl 0 rfl) ?_
    refine lv_iload_n hx hb dX6_trees_9 rfl (lv_at hl 1 rfl) ?_
    refine rm_calli (va_runV (As := [.int (jI ((y9 : Nat) : Int))]) (rest := []) ⟨hx, hb, hml, hown, hts⟩ (c_X6_isWhole l D ty ad ct_1 H.size 0 yc hc yn yM yu hy hg hf mA pt ro ke kt mu sl tw bw de ⟨hm0_1, ((hof_1 1001 (by omega) (by omega)).trans hMo.2.1), ((hof_1 1002 (by omega) (by omega)).trans hMo.2.2.1), ((hof_1 1003 (by omega) (by omega)).trans hMo.2.2.2.1), ((hof_1 1004 (by omega) (by omega)).trans hMo.2.2.2.2.1), ((hof_1 1005 (by omega) (by omega)).trans hMo.2.2.2.2.2.1), ((hof_1 1006 (by omega) (by omega)).trans hMo.2.2.2.2.2.2.1), hm1_1, ((hof_1 1008 (by omega) (by omega)).trans hMo.2.2.2.2.2.2.2.2.1), ((hof_1 1009 (by omega) (by omega)).trans hMo.2.2.2.2.2.2.2.2.2.1), ((hof_1 1010 (by omega) (by omega)).trans hMo.2.2.2.2.2.2.2.2.2.2.1), ((hof_1 1011 (by omega) (by omega)).trans hMo.2.2.2.2.2.2.2.2.2.2.2.1), ((hof_1 1012 (by omega) (by omega)).trans hMo.2.2.2.2.2.2.2.2.2.2.2.2.1), ((hof_1 1013 (by omega) (by omega)).trans hMo.2.2.2.2.2.2.2.2.2.2.2.2.2.1), ((hof_1 1014 (by omega) (by omega)).trans hMo.2.2.2.2.2.2.2.2.2.2.2.2.2.2.1), ((hof_1 1015 (by omega) (by omega)).trans hMo.2.2.2.2.2.2.2.2.2.2.2.2.2.2.2.1), ((hof_1 1016 (by omega) (by omega)).trans hMo.2.2.2.2.2.2.2.2.2.2.2.2.2.2.2.2)⟩ y9 (by omega) hn8 hM8) (cwV 1 hts gX6_trees_X6_isWhole rfl rfl rfl (by decide +kernel) ⟨Nat.le_of_ble_eq_true rfl, Nat.le_of_ble_eq_true rfl⟩) (rm_preV hK hNw hW hm0_1 rfl) rfl rfl hl.1 rfl (lv_room (Nat.le_of_ble_eq_true rfl)) dX6_trees_10 ⟨Nat.zero_le _, Nat.zero_le _⟩) hW hS hA (fun z_2 ct_2 H locs hq_2 hW hS => ?_)
    obtain ⟨hz, hcc_2⟩ := hq_2
    have hcc_2 := hcc_2.symm
    subst hcc_2
    by_cases hww : isz (yn y9) (yM y9) 8 = 2 ^ yn y9 - 1
    · skip
      rw [if_pos hww] at hz
      subst hz
      refine rm_if_eq (tgt := 24) hx hb ⟨by omega, by omega⟩ dX6_trees_13 (by decide) (fun hq => absurd hq (by omega)) (fun _ => ?_)
      refine lv_aload_n hx hb dX6_trees_16 rfl (lv_at hl 0 rfl) ?_
      refine lv_iload_n hx hb dX6_trees_17 rfl (lv_at hl 1 rfl) ?_
      refine rm_calll (va_runV (As := [.int (jI ((y9 : Nat) : Int))]) (rest := []) ⟨hx, hb, hml, hown, hts⟩ (c_X6_treesOf l D ty ad ct_1 H.size 0 yc hc yn yM yu hy hg hf mA pt ro ke kt mu sl tw bw de ⟨hm0_1, ((hof_1 1001 (by omega) (by omega)).trans hMo.2.1), ((hof_1 1002 (by omega) (by omega)).trans hMo.2.2.1), ((hof_1 1003 (by omega) (by omega)).trans hMo.2.2.2.1), ((hof_1 1004 (by omega) (by omega)).trans hMo.2.2.2.2.1), ((hof_1 1005 (by omega) (by omega)).trans hMo.2.2.2.2.2.1), ((hof_1 1006 (by omega) (by omega)).trans hMo.2.2.2.2.2.2.1), hm1_1, ((hof_1 1008 (by omega) (by omega)).trans hMo.2.2.2.2.2.2.2.2.1), ((hof_1 1009 (by omega) (by omega)).trans hMo.2.2.2.2.2.2.2.2.2.1), ((hof_1 1010 (by omega) (by omega)).trans hMo.2.2.2.2.2.2.2.2.2.2.1), ((hof_1 1011 (by omega) (by omega)).trans hMo.2.2.2.2.2.2.2.2.2.2.2.1), ((hof_1 1012 (by omega) (by omega)).trans hMo.2.2.2.2.2.2.2.2.2.2.2.2.1), ((hof_1 1013 (by omega) (by omega)).trans hMo.2.2.2.2.2.2.2.2.2.2.2.2.2.1), ((hof_1 1014 (by omega) (by omega)).trans hMo.2.2.2.2.2.2.2.2.2.2.2.2.2.2.1), ((hof_1 1015 (by omega) (by omega)).trans hMo.2.2.2.2.2.2.2.2.2.2.2.2.2.2.2.1), ((hof_1 1016 (by omega) (by omega)).trans hMo.2.2.2.2.2.2.2.2.2.2.2.2.2.2.2.2)⟩ y9 (by omega) hn8 hM8 (hyk y9 hy9)) (cwV 1 hts gX6_trees_X6_treesOf rfl rfl rfl (by decide +kernel) ⟨Nat.le_of_ble_eq_true rfl, Nat.le_of_ble_eq_true rfl⟩) (rm_preV hK hNw hW hm0_1 rfl) rfl rfl hl.1 rfl (lv_room (Nat.le_of_ble_eq_true rfl)) dX6_trees_18 ⟨Nat.zero_le _, Nat.zero_le _⟩) hW hS hA (fun z_3 ct_3 H locs hq_3 hW hS => ?_)
      obtain ⟨A3, hz, hq1, hq2⟩ := hq_3
      have ho_3 : ∀ q, q ≠ 1007 → ct_3 q = ct_1 q := hq2
      have hof_3 : ∀ q, q ≠ 1000 → q ≠ 1007 → ct_3 q = ct q := fun q h0_3 h1_3 => (ho_3 q h1_3).trans (hof_1 q h0_3 h1_3)
      have hm0_3 : ct_3 1000 = some (.inr (6, [.int (jI 0), .int (jI ((yc : Nat) : Int)), .int (jI ((hc : Nat) : Int)), .ref (ad 1001), .ref (ad 1002), .ref (ad 1003), .ref (ad 1004), .ref (ad 1005), .ref (ad 1006), .ref (ad 1007), .ref (ad 1008), .ref (ad 1009), .ref (ad 1010), .ref (ad 1011), .ref (ad 1012), .ref (ad 1013), .ref (ad 1014), .ref (ad 1015), .ref (ad 1016)]) : va_E) := (ho_3 1000 (by omega)).trans hm0_1
      have hm1_3 : ct_3 1007 = some (rl ty 49 (fl 7 A3)) := hq1
      refine lv_goto (tgt := 25) hx hb dX6_trees_21 (by decide) ?_
      exact W.lret hx hb hr (fun t ht hw => ⟨⟨_, (z_3, ct_3), rfl, ⟨rfl, ⟨(fun q hq9 => hof_3 q (by omega) (by omega)), Or.inr ⟨y9, rfl, hy9, Or.inl ⟨hww, hz⟩, ⟨A3, pt, ro, ke, kt, mu, sl, tw, bw, de, ⟨hm0_3, ((hof_3 1001 (by omega) (by omega)).trans hMo.2.1), ((hof_3 1002 (by omega) (by omega)).trans hMo.2.2.1), ((hof_3 1003 (by omega) (by omega)).trans hMo.2.2.2.1), ((hof_3 1004 (by omega) (by omega)).trans hMo.2.2.2.2.1), ((hof_3 1005 (by omega) (by omega)).trans hMo.2.2.2.2.2.1), ((hof_3 1006 (by omega) (by omega)).trans hMo.2.2.2.2.2.2.1), hm1_3, ((hof_3 1008 (by omega) (by omega)).trans hMo.2.2.2.2.2.2.2.2.1), ((hof_3 1009 (by omega) (by omega)).trans hMo.2.2.2.2.2.2.2.2.2.1), ((hof_3 1010 (by omega) (by omega)).trans hMo.2.2.2.2.2.2.2.2.2.2.1), ((hof_3 1011 (by omega) (by omega)).trans hMo.2.2.2.2.2.2.2.2.2.2.2.1), ((hof_3 1012 (by omega) (by omega)).trans hMo.2.2.2.2.2.2.2.2.2.2.2.2.1), ((hof_3 1013 (by omega) (by omega)).trans hMo.2.2.2.2.2.2.2.2.2.2.2.2.2.1), ((hof_3 1014 (by omega) (by omega)).trans hMo.2.2.2.2.2.2.2.2.2.2.2.2.2.2.1), ((hof_3 1015 (by omega) (by omega)).trans hMo.2.2.2.2.2.2.2.2.2.2.2.2.2.2.2.1), ((hof_3 1016 (by omega) (by omega)).trans hMo.2.2.2.2.2.2.2.2.2.2.2.2.2.2.2.2)⟩⟩⟩⟩⟩, by show rm_W D ad _ _ t.heap; rw [ht]; exact hW⟩, hS.F ht⟩) hS.2.2 dX6_trees_25
    · skip
      rw [if_neg hww] at hz
      subst hz
      refine rm_if_eq (tgt := 24) hx hb ⟨by omega, by omega⟩ dX6_trees_13 (by decide) (fun _ => ?_) (fun hq => absurd hq (by omega))
      refine lv_lconst (v := jL 0) hx hb dX6_trees_24 rfl ?_
      exact W.lret hx hb hr (fun t ht hw => ⟨⟨_, (0, ct_1), rfl, ⟨rfl, ⟨(fun q hq9 => hof_1 q (by omega) (by omega)), Or.inr ⟨y9, rfl, hy9, Or.inr ⟨hww, rfl⟩, ⟨mA, pt, ro, ke, kt, mu, sl, tw, bw, de, ⟨hm0_1, ((hof_1 1001 (by omega) (by omega)).trans hMo.2.1), ((hof_1 1002 (by omega) (by omega)).trans hMo.2.2.1), ((hof_1 1003 (by omega) (by omega)).trans hMo.2.2.2.1), ((hof_1 1004 (by omega) (by omega)).trans hMo.2.2.2.2.1), ((hof_1 1005 (by omega) (by omega)).trans hMo.2.2.2.2.2.1), ((hof_1 1006 (by omega) (by omega)).trans hMo.2.2.2.2.2.2.1), hm1_1, ((hof_1 1008 (by omega) (by omega)).trans hMo.2.2.2.2.2.2.2.2.1), ((hof_1 1009 (by omega) (by omega)).trans hMo.2.2.2.2.2.2.2.2.2.1), ((hof_1 1010 (by omega) (by omega)).trans hMo.2.2.2.2.2.2.2.2.2.2.1), ((hof_1 1011 (by omega) (by omega)).trans hMo.2.2.2.2.2.2.2.2.2.2.2.1), ((hof_1 1012 (by omega) (by omega)).trans hMo.2.2.2.2.2.2.2.2.2.2.2.2.1), ((hof_1 1013 (by omega) (by omega)).trans hMo.2.2.2.2.2.2.2.2.2.2.2.2.2.1), ((hof_1 1014 (by omega) (by omega)).trans hMo.2.2.2.2.2.2.2.2.2.2.2.2.2.2.1), ((hof_1 1015 (by omega) (by omega)).trans hMo.2.2.2.2.2.2.2.2.2.2.2.2.2.2.2.1), ((hof_1 1016 (by omega) (by omega)).trans hMo.2.2.2.2.2.2.2.2.2.2.2.2.2.2.2.2)⟩⟩⟩⟩⟩, by show rm_W D ad _ _ t.heap; rw [ht]; exact hW⟩, hS.F ht⟩) hS.2.2 dX6_trees_25
set_option maxHeartbeats 4000000 in
set_option maxRecDepth 100000 in
theorem c_X6_divisor (l : Launch) (D : va_G) (ty : Nat → ClassId) (ad : Nat → Nat) (ct : rm_C) (sz : Nat) (th : Int) (yc hc : Nat) (yn : Nat → Nat) (yM : Nat → Nat → Nat → Int) (yu : Nat → Int) (hy : Nat → Nat) (hg hf mA : Nat → Nat → Int) (pt ro ke kt mu sl tw bw de : Nat → Int) (hMo : ModAt ty ad ct th yc hc yn yM yu hy hg hf mA pt ro ke kt mu sl tw bw de) (y9 : Nat) (hy9 : y9 < 6) (hn9 : 2 ≤ yn y9 ∧ yn y9 ≤ 8) (hM9 : ∀ i j, 0 ≤ yM y9 i j ∧ yM y9 i j ≤ 3) (hyk : yok (yn y9) (yM y9)) (w9 : Nat) (hw9 : w9 < 8) : Met l yX6_divisor wsX6_divisor ({ frames := 4, cells := 0, slots := 0, locals := 97 }) (rm_P D ty ad ct sz [.ref (ad 1000), .int (jI ((y9 : Nat) : Int)), .int (jI ((w9 : Nat) : Int))]) (rm_Ql D ad ct sz (fun z ct1 => ∃ A1 : Nat → Nat → Int, z = ((dvg (yn y9) (yM y9) w9 : Nat) : Int) ∧ ct1 1007 = some (rl ty 49 (fl 7 A1)) ∧ (∀ q, q ≠ 1007 → ct1 q = ct q))) 0 0 (rm_A ad ct sz) := by
  refine Met.ofW (cc := cX6_divisor) (maxL := 7) (ret := (some .long)) (by decide) rfl ?_
  intro p e s m args below meth c s₁ B hml hv
  obtain ⟨hargs, hsz, hW, hK, hNw⟩ := hv
  have hx := B.exec
  have hb := B.bytes
  have hr := B.returns
  have hts := atoms_spec (ws := wsX6_divisor) B.pre
  have hown : s.vm.findClass RX6 = some m.cls := findClass_of_methodNamed B.named
  have hlocks := B.notSynchronized
  subst hsz
  have hW := hW.own (sz := s.heap.size)
  have hA : ∀ q : Nat, s.heap.size ≤ q → rm_A ad ct s.heap.size q := fun q h => Or.inr h
  have hS : va_S (rm_A ad ct s.heap.size) s.heap s.heap [] := va_S.rf
  have hent : entryFrame m args 7 = entryFrame m ([.ref (ad 1000), .int (jI ((y9 : Nat) : Int)), .int (jI ((w9 : Nat) : Int))] : List Value).toArray 7 := by rw [hargs]
  have hl := lv_entry ([.ref (ad 1000), .int (jI ((y9 : Nat) : Int)), .int (jI ((w9 : Nat) : Int))]) (n := 7) (Nat.le_of_ble_eq_true rfl)
  rw [hent, lg_entry_eq]
  generalize (lg_sl ([.ref (ad 1000), .int (jI ((y9 : Nat) : Int)), .int (jI ((w9 : Nat) : Int))]) ++ List.replicate (7 - (lg_sl ([.ref (ad 1000), .int (jI ((y9 : Nat) : Int)), .int (jI ((w9 : Nat) : Int))])).length) Slot.unset).toArray = ls at hl ⊢
  have hl : lv_has ls 7 [(0, .ref (ad 1000)), (1, .int (jI ((y9 : Nat) : Int))), (2, .int (jI ((w9 : Nat) : Int)))] := hl
  have hp2 : 2 ^ ((yn y9) - 1) ≤ 2 ^ 7 := Nat.pow_le_pow_right (by omega) (by omega)
  have hp1 := Nat.one_le_two_pow (n := (yn y9) - 1)
  refine lv_lconst (v := jL 0) hx hb dX6_divisor_0 rfl ?_
  refine lv_lstore_n (lv' := [(3, .long (jL 0)), (0, .ref (ad 1000)), (1, .int (jI ((y9 : Nat) : Int))), (2, .int (jI ((w9 : Nat) : Int)))]) hx hb dX6_divisor_1 rfl hl (by decide) rfl (fun ls hl => ?_)
  refine lv_iconst (v := jI 0) hx hb dX6_divisor_2 rfl ?_
  refine lv_istore (lv' := [(5, .int (jI 0)), (3, .long (jL 0)), (0, .ref (ad 1000)), (1, .int (jI ((y9 : Nat) : Int))), (2, .int (jI ((w9 : Nat) : Int)))]) hx hb dX6_divisor_3 hl (by decide) rfl (fun ls hl => ?_)
  have hl : lv_has ls 7 [(5, .int (jI 0)), (3, .long (jL ((0 : Nat) : Int))), (0, .ref (ad 1000)), (1, .int (jI ((y9 : Nat) : Int))), (2, .int (jI ((w9 : Nat) : Int)))] := by exact hl
  have OUT : ∀ (k : Nat) (r8 : Nat) (g8 : Nat) (A1 : Nat → Nat → Int) (hr8 : r8 ≤ 2 ^ ((yn y9) - 1)) (hg8 : g8 < 2147483648) (hgd : ∀ d, d ∣ g8 ↔ ∀ r c, r < r8 → c < 2 ^ ((yn y9) - 1) → cb r 7 = w9 → cb c 7 = w9 → d ∣ (mnr (yn y9) (yM y9) r c).natAbs), 2 ^ ((yn y9) - 1) - r8 < k → ∀ (ctv : rm_C) (H : Heap) (locs : List Loc), (ctv 1007 = some (rl ty 49 (fl 7 A1))) → ∀ (_ : True), (∀ q, q ≠ 1007 → ctv q = ct q) → ∀ (_ : True), rm_W D ad ctv (rm_A ad ct s.heap.size) H → va_S (rm_A ad ct s.heap.size) s.heap H locs → ∀ ls : Array Slot, lv_has ls 7 [(5, .int (jI ((r8 : Nat) : Int))), (3, .long (jL ((g8 : Nat) : Int))), (0, .ref (ad 1000)), (1, .int (jI ((y9 : Nat) : Int))), (2, .int (jI ((w9 : Nat) : Int)))] → W p l e (headSpec wsX6_divisor ({ frames := 4, cells := 0, slots := 0, locals := 97 })).room s m args below meth c H locs 0 0 (MQ below (rm_Ql D ad ct s.heap.size (fun z ct1 => ∃ A1 : Nat → Nat → Int, z = ((dvg (yn y9) (yM y9) w9 : Nat) : Int) ∧ ct1 1007 = some (rl ty 49 (fl 7 A1)) ∧ (∀ q, q ≠ 1007 → ct1 q = ct q))) args s 0 0 (rm_A ad ct s.heap.size)) (F0 m 5 ls []) := by
    intro k
    induction k with
    | zero => intro r8 g8 A1 hr8 hg8 hgd hk; exact absurd hk (Nat.not_lt_zero _)
    | succ k ih_OUT =>
      intro r8 g8 A1 hr8 hg8 hgd hk ctv_1 H locs hv0_1 _ hofv_1 _ hW hS ls hl
      refine lv_iload hx hb dX6_divisor_5 (lv_at hl 0 rfl) ?_
      refine lv_aload_n hx hb dX6_divisor_7 rfl (lv_at hl 2 rfl) ?_
      refine lv_iload_n hx hb dX6_divisor_8 rfl (lv_at hl 3 rfl) ?_
      refine rm_calli (va_runV (As := [.int (jI ((y9 : Nat) : Int))]) (rest := [.int (jI ((r8 : Nat) : Int))]) ⟨hx, hb, hml, hown, hts⟩ (c_X6_all l D ty ad ctv_1 H.size th yc hc yn yM yu hy hg hf A1 pt ro ke kt mu sl tw bw de ⟨((hofv_1 1000 (by omega)).trans hMo.1), ((hofv_1 1001 (by omega)).trans hMo.2.1), ((hofv_1 1002 (by omega)).trans hMo.2.2.1), ((hofv_1 1003 (by omega)).trans hMo.2.2.2.1), ((hofv_1 1004 (by omega)).trans hMo.2.2.2.2.1), ((hofv_1 1005 (by omega)).trans hMo.2.2.2.2.2.1), ((hofv_1 1006 (by omega)).trans hMo.2.2.2.2.2.2.1), hv0_1, ((hofv_1 1008 (by omega)).trans hMo.2.2.2.2.2.2.2.2.1), ((hofv_1 1009 (by omega)).trans hMo.2.2.2.2.2.2.2.2.2.1), ((hofv_1 1010 (by omega)).trans hMo.2.2.2.2.2.2.2.2.2.2.1), ((hofv_1 1011 (by omega)).trans hMo.2.2.2.2.2.2.2.2.2.2.2.1), ((hofv_1 1012 (by omega)).trans hMo.2.2.2.2.2.2.2.2.2.2.2.2.1), ((hofv_1 1013 (by omega)).trans hMo.2.2.2.2.2.2.2.2.2.2.2.2.2.1), ((hofv_1 1014 (by omega)).trans hMo.2.2.2.2.2.2.2.2.2.2.2.2.2.2.1), ((hofv_1 1015 (by omega)).trans hMo.2.2.2.2.2.2.2.2.2.2.2.2.2.2.2.1), ((hofv_1 1016 (by omega)).trans hMo.2.2.2.2.2.2.2.2.2.2.2.2.2.2.2.2)⟩ y9 hy9 hn9) (cwV 1 hts gX6_divisor_X6_all rfl rfl rfl (by decide +kernel) ⟨Nat.le_of_ble_eq_true rfl, Nat.le_of_ble_eq_true rfl⟩) (rm_preV hK hNw hW ((hofv_1 1000 (by omega)).trans hMo.1) rfl) rfl rfl hl.1 rfl (lv_room (Nat.le_of_ble_eq_true rfl)) dX6_divisor_9 ⟨Nat.zero_le _, Nat.zero_le _⟩) hW hS hA (fun z_2 ct_2 H locs hq_2 hW hS => ?_)
      obtain ⟨hz, hcc_2⟩ := hq_2
      have hcc_2 := hcc_2.symm
      subst hcc_2
      subst hz
      refine rm_icmp_gt (tgt := 81) hx hb ⟨by omega, by omega⟩ ⟨by omega, by omega⟩ dX6_divisor_12 (by decide) (fun hc_3 => ?_) (fun hc_3 => ?_)
      · skip
        have hge : g8 = dvg (yn y9) (yM y9) w9 := dvg_eq (fun d => (hgd d).trans ⟨fun h r c hr hc => h r c (by omega) hc, fun h r c hr hc => h r c (by omega) hc⟩)
        refine lv_lload_n hx hb dX6_divisor_81 rfl (lv_at hl 1 rfl) ?_
        exact W.lret hx hb hr (fun t ht hw => ⟨⟨_, (((g8 : Nat) : Int), ctv_1), rfl, ⟨rfl, ⟨A1, by rw [hge], hv0_1, fun q h0 => hofv_1 q h0⟩⟩, by show rm_W D ad _ _ t.heap; rw [ht]; exact hW⟩, hS.F ht⟩) hS.2.2 dX6_divisor_82
      · skip
        have hc7 := cb_le r8 7
        refine lv_iload hx hb dX6_divisor_15 (lv_at hl 0 rfl) ?_
        refine rm_calli (va_runS (As := [.int (jI ((r8 : Nat) : Int))]) (rest := []) ⟨hx, hb, hml, hown, hts⟩ (c_X6_many l D ty ad ctv_1 H.size r8 (by omega)) (va_cwS 1 hts gX6_divisor_X6_many rfl rfl rfl (by decide +kernel) ⟨Nat.le_of_ble_eq_true rfl, Nat.le_of_ble_eq_true rfl⟩) (rm_preS hK hNw hW) rfl rfl hl.1 rfl (lv_room (Nat.le_of_ble_eq_true rfl)) dX6_divisor_17 ⟨Nat.zero_le _, Nat.zero_le _⟩) hW hS hA (fun z_4 ct_4 H locs hq_4 hW hS => ?_)
        obtain ⟨hz, hcc_4⟩ := hq_4
        have hcc_4 := hcc_4.symm
        subst hcc_4
        subst hz
        refine lv_iload_n hx hb dX6_divisor_20 rfl (lv_at hl 4 rfl) ?_
        refine rm_icmp_eq (tgt := 27) hx hb ⟨by omega, by omega⟩ ⟨by omega, by omega⟩ dX6_divisor_21 (by decide) (fun hc_5 => ?_) (fun hc_5 => ?_)
        · skip
          have hrw : cb r8 7 = w9 := by omega
          refine lv_iconst (v := jI 0) hx hb dX6_divisor_27 rfl ?_
          refine lv_istore (lv' := [(6, .int (jI 0)), (5, .int (jI ((r8 : Nat) : Int))), (3, .long (jL ((g8 : Nat) : Int))), (0, .ref (ad 1000)), (1, .int (jI ((y9 : Nat) : Int))), (2, .int (jI ((w9 : Nat) : Int)))]) hx hb dX6_divisor_28 hl (by decide) rfl (fun ls hl => ?_)
          have IN : ∀ (k : Nat) (c8 : Nat) (g2 : Nat) (A2 : Nat → Nat → Int) (hc8 : c8 ≤ 2 ^ ((yn y9) - 1)) (hg2b : g2 < 2147483648) (hg2 : ∀ d, d ∣ g2 ↔ ((∀ r c, r < r8 → c < 2 ^ ((yn y9) - 1) → cb r 7 = w9 → cb c 7 = w9 → d ∣ (mnr (yn y9) (yM y9) r c).natAbs) ∧ ∀ c, c < c8 → cb c 7 = w9 → d ∣ (mnr (yn y9) (yM y9) r8 c).natAbs)), 2 ^ ((yn y9) - 1) - c8 < k → ∀ (ctv : rm_C) (H : Heap) (locs : List Loc), (ctv 1007 = some (rl ty 49 (fl 7 A2))) → ∀ (_ : True), (∀ q, q ≠ 1007 → ctv q = ct q) → ∀ (_ : True), rm_W D ad ctv (rm_A ad ct s.heap.size) H → va_S (rm_A ad ct s.heap.size) s.heap H locs → ∀ ls : Array Slot, lv_has ls 7 [(6, .int (jI ((c8 : Nat) : Int))), (5, .int (jI ((r8 : Nat) : Int))), (3, .long (jL ((g2 : Nat) : Int))), (0, .ref (ad 1000)), (1, .int (jI ((y9 : Nat) : Int))), (2, .int (jI ((w9 : Nat) : Int)))] → W p l e (headSpec wsX6_divisor ({ frames := 4, cells := 0, slots := 0, locals := 97 })).room s m args below meth c H locs 0 0 (MQ below (rm_Ql D ad ct s.heap.size (fun z ct1 => ∃ A1 : Nat → Nat → Int, z = ((dvg (yn y9) (yM y9) w9 : Nat) : Int) ∧ ct1 1007 = some (rl ty 49 (fl 7 A1)) ∧ (∀ q, q ≠ 1007 → ct1 q = ct q))) args s 0 0 (rm_A ad ct s.heap.size)) (F0 m 30 ls []) := by
            intro k
            induction k with
            | zero => intro c8 g2 A2 hc8 hg2b hg2 hk; exact absurd hk (Nat.not_lt_zero _)
            | succ k ih_IN =>
              intro c8 g2 A2 hc8 hg2b hg2 hk ctv_6 H locs hv0_6 _ hofv_6 _ hW hS ls hl
              refine lv_iload hx hb dX6_divisor_30 (lv_at hl 0 rfl) ?_
              refine lv_aload_n hx hb dX6_divisor_32 rfl (lv_at hl 3 rfl) ?_
              refine lv_iload_n hx hb dX6_divisor_33 rfl (lv_at hl 4 rfl) ?_
              refine rm_calli (va_runV (As := [.int (jI ((y9 : Nat) : Int))]) (rest := [.int (jI ((c8 : Nat) : Int))]) ⟨hx, hb, hml, hown, hts⟩ (c_X6_all l D ty ad ctv_6 H.size th yc hc yn yM yu hy hg hf A2 pt ro ke kt mu sl tw bw de ⟨((hofv_6 1000 (by omega)).trans hMo.1), ((hofv_6 1001 (by omega)).trans hMo.2.1), ((hofv_6 1002 (by omega)).trans hMo.2.2.1), ((hofv_6 1003 (by omega)).trans hMo.2.2.2.1), ((hofv_6 1004 (by omega)).trans hMo.2.2.2.2.1), ((hofv_6 1005 (by omega)).trans hMo.2.2.2.2.2.1), ((hofv_6 1006 (by omega)).trans hMo.2.2.2.2.2.2.1), hv0_6, ((hofv_6 1008 (by omega)).trans hMo.2.2.2.2.2.2.2.2.1), ((hofv_6 1009 (by omega)).trans hMo.2.2.2.2.2.2.2.2.2.1), ((hofv_6 1010 (by omega)).trans hMo.2.2.2.2.2.2.2.2.2.2.1), ((hofv_6 1011 (by omega)).trans hMo.2.2.2.2.2.2.2.2.2.2.2.1), ((hofv_6 1012 (by omega)).trans hMo.2.2.2.2.2.2.2.2.2.2.2.2.1), ((hofv_6 1013 (by omega)).trans hMo.2.2.2.2.2.2.2.2.2.2.2.2.2.1), ((hofv_6 1014 (by omega)).trans hMo.2.2.2.2.2.2.2.2.2.2.2.2.2.2.1), ((hofv_6 1015 (by omega)).trans hMo.2.2.2.2.2.2.2.2.2.2.2.2.2.2.2.1), ((hofv_6 1016 (by omega)).trans hMo.2.2.2.2.2.2.2.2.2.2.2.2.2.2.2.2)⟩ y9 hy9 hn9) (cwV 1 hts gX6_divisor_X6_all rfl rfl rfl (by decide +kernel) ⟨Nat.le_of_ble_eq_true rfl, Nat.le_of_ble_eq_true rfl⟩) (rm_preV hK hNw hW ((hofv_6 1000 (by omega)).trans hMo.1) rfl) rfl rfl hl.1 rfl (lv_room (Nat.le_of_ble_eq_true rfl)) dX6_divisor_34 ⟨Nat.zero_le _, Nat.zero_le _⟩) hW hS hA (fun z_7 ct_7 H locs hq_7 hW hS => ?_)
              obtain ⟨hz, hcc_7⟩ := hq_7
              have hcc_7 := hcc_7.symm
              subst hcc_7
              subst hz
              refine rm_icmp_gt (tgt := 75) hx hb ⟨by omega, by omega⟩ ⟨by omega, by omega⟩ dX6_divisor_37 (by decide) (fun hc_8 => ?_) (fun hc_8 => ?_)
              · skip
                have hl : lv_has ls 7 [(5, .int (jI ((r8 : Nat) : Int))), (3, .long (jL ((g2 : Nat) : Int))), (0, .ref (ad 1000)), (1, .int (jI ((y9 : Nat) : Int))), (2, .int (jI ((w9 : Nat) : Int)))] := lv_sub hl [1, 2, 3, 4, 5] rfl
                refine lv_iinc (v := jI (((r8 : Nat) : Int) + 1)) (lv' := [(5, .int (jI (((r8 : Nat) : Int) + 1))), (3, .long (jL ((g2 : Nat) : Int))), (0, .ref (ad 1000)), (1, .int (jI ((y9 : Nat) : Int))), (2, .int (jI ((w9 : Nat) : Int)))]) hx hb dX6_divisor_75 hl (k := 0) rfl (jI_add _ _) (by decide) rfl (fun ls hl => ?_)
                refine lv_goto (tgt := 5) hx hb dX6_divisor_78 (by decide) ?_
                exact ih_OUT (r8 + 1) (g2) (A2) (by omega) (by omega) (fun d => (hg2 d).trans ⟨fun h r c hr hc h1 h2 => by
                    rcases Nat.lt_or_ge r r8 with e | e
                    · exact h.1 r c e hc h1 h2
                    · rw [show r = r8 by omega]; exact h.2 c (by omega) h2, fun h => ⟨fun r c hr hc => h r c (by omega) hc, fun c hc h2 => h r8 c (by omega) (by omega) hrw h2⟩⟩) (by omega) ctv_6 _ _ hv0_6 trivial hofv_6 trivial hW hS ls (lv_sub hl [0, 1, 2, 3, 4] rfl)
              · skip
                have hc7 := cb_le c8 7
                refine lv_lload_n hx hb dX6_divisor_40 rfl (lv_at hl 2 rfl) ?_
                refine lv_lconst (v := jL 1) hx hb dX6_divisor_41 rfl ?_
                refine rm_lcmp hx hb ⟨by omega, by omega⟩ ⟨by omega, by omega⟩ dX6_divisor_42 ?_
                refine rm_if_eq (tgt := 75) hx hb (lcv_rng _ _) dX6_divisor_43 (by decide) (fun hc_9 => ?_) (fun hc_9 => ?_)
                · skip
                  have hc_9 := lcv_eq.mp hc_9
                  have hl : lv_has ls 7 [(5, .int (jI ((r8 : Nat) : Int))), (3, .long (jL ((g2 : Nat) : Int))), (0, .ref (ad 1000)), (1, .int (jI ((y9 : Nat) : Int))), (2, .int (jI ((w9 : Nat) : Int)))] := lv_sub hl [1, 2, 3, 4, 5] rfl
                  refine lv_iinc (v := jI (((r8 : Nat) : Int) + 1)) (lv' := [(5, .int (jI (((r8 : Nat) : Int) + 1))), (3, .long (jL ((g2 : Nat) : Int))), (0, .ref (ad 1000)), (1, .int (jI ((y9 : Nat) : Int))), (2, .int (jI ((w9 : Nat) : Int)))]) hx hb dX6_divisor_75 hl (k := 0) rfl (jI_add _ _) (by decide) rfl (fun ls hl => ?_)
                  refine lv_goto (tgt := 5) hx hb dX6_divisor_78 (by decide) ?_
                  exact ih_OUT (r8 + 1) (g2) (A2) (by omega) (by omega) (fun d => ⟨fun h r c hr hc h1 h2 => by
                      have hd1 : d = 1 := by rw [show g2 = 1 by omega] at h; exact Nat.dvd_one.mp h
                      rw [hd1]; exact Nat.one_dvd _, fun h => (hg2 d).mpr ⟨fun r c hr hc => h r c (by omega) hc, fun c hc h2 => h r8 c (by omega) (by omega) hrw h2⟩⟩) (by omega) ctv_6 _ _ hv0_6 trivial hofv_6 trivial hW hS ls (lv_sub hl [0, 1, 2, 3, 4] rfl)
                · skip
                  have hc_9 : ((g2 : Nat) : Int) ≠ 1 := fun hq => hc_9 (lcv_eq.mpr hq)
                  refine lv_iload hx hb dX6_divisor_46 (lv_at hl 0 rfl) ?_
                  refine rm_calli (va_runS (As := [.int (jI ((c8 : Nat) : Int))]) (rest := []) ⟨hx, hb, hml, hown, hts⟩ (c_X6_many l D ty ad ctv_6 H.size c8 (by omega)) (va_cwS 1 hts gX6_divisor_X6_many rfl rfl rfl (by decide +kernel) ⟨Nat.le_of_ble_eq_true rfl, Nat.le_of_ble_eq_true rfl⟩) (rm_preS hK hNw hW) rfl rfl hl.1 rfl (lv_room (Nat.le_of_ble_eq_true rfl)) dX6_divisor_48 ⟨Nat.zero_le _, Nat.zero_le _⟩) hW hS hA (fun z_10 ct_10 H locs hq_10 hW hS => ?_)
                  obtain ⟨hz, hcc_10⟩ := hq_10
                  have hcc_10 := hcc_10.symm
                  subst hcc_10
                  subst hz
                  refine lv_iload_n hx hb dX6_divisor_51 rfl (lv_at hl 5 rfl) ?_
                  refine rm_icmp_ne (tgt := 69) hx hb ⟨by omega, by omega⟩ ⟨by omega, by omega⟩ dX6_divisor_52 (by decide) (fun hc_11 => ?_) (fun hc_11 => ?_)
                  · skip
                    refine lv_iinc (v := jI (((c8 : Nat) : Int) + 1)) (lv' := [(6, .int (jI (((c8 : Nat) : Int) + 1))), (5, .int (jI ((r8 : Nat) : Int))), (3, .long (jL ((g2 : Nat) : Int))), (0, .ref (ad 1000)), (1, .int (jI ((y9 : Nat) : Int))), (2, .int (jI ((w9 : Nat) : Int)))]) hx hb dX6_divisor_69 hl (k := 0) rfl (jI_add _ _) (by decide) rfl (fun ls hl => ?_)
                    refine lv_goto (tgt := 30) hx hb dX6_divisor_72 (by decide) ?_
                    exact ih_IN (c8 + 1) (g2) (A2) (by omega) (by omega) (fun d => (hg2 d).trans ⟨fun h => ⟨h.1, fun c hc h2 => by
                        rcases Nat.lt_or_ge c c8 with e | e
                        · exact h.2 c e h2
                        · rw [show c = c8 by omega] at h2; omega⟩, fun h => ⟨h.1, fun c hc h2 => h.2 c (by omega) h2⟩⟩) (by omega) ctv_6 _ _ hv0_6 trivial hofv_6 trivial hW hS ls (lv_sub hl [0, 1, 2, 3, 4, 5] rfl)
                  · skip
                    have hcw : cb c8 7 = w9 := by omega
                    have hmr := mnr_rng hyk (r := r8) (c := c8) (by omega) (by omega) (by omega)
                    refine lv_lload_n hx hb dX6_divisor_55 rfl (lv_at hl 2 rfl) ?_
                    refine lv_aload_n hx hb dX6_divisor_56 rfl (lv_at hl 3 rfl) ?_
                    refine lv_iload_n hx hb dX6_divisor_57 rfl (lv_at hl 4 rfl) ?_
                    refine lv_iload hx hb dX6_divisor_58 (lv_at hl 1 rfl) ?_
                    refine lv_iload hx hb dX6_divisor_60 (lv_at hl 0 rfl) ?_
                    refine rm_calll (va_runV (As := [.int (jI ((y9 : Nat) : Int)), .int (jI ((r8 : Nat) : Int)), .int (jI ((c8 : Nat) : Int))]) (rest := [.long (jL ((g2 : Nat) : Int))]) ⟨hx, hb, hml, hown, hts⟩ (c_X6_minor l D ty ad ctv_6 H.size th yc hc yn yM yu hy hg hf A2 pt ro ke kt mu sl tw bw de ⟨((hofv_6 1000 (by omega)).trans hMo.1), ((hofv_6 1001 (by omega)).trans hMo.2.1), ((hofv_6 1002 (by omega)).trans hMo.2.2.1), ((hofv_6 1003 (by omega)).trans hMo.2.2.2.1), ((hofv_6 1004 (by omega)).trans hMo.2.2.2.2.1), ((hofv_6 1005 (by omega)).trans hMo.2.2.2.2.2.1), ((hofv_6 1006 (by omega)).trans hMo.2.2.2.2.2.2.1), hv0_6, ((hofv_6 1008 (by omega)).trans hMo.2.2.2.2.2.2.2.2.1), ((hofv_6 1009 (by omega)).trans hMo.2.2.2.2.2.2.2.2.2.1), ((hofv_6 1010 (by omega)).trans hMo.2.2.2.2.2.2.2.2.2.2.1), ((hofv_6 1011 (by omega)).trans hMo.2.2.2.2.2.2.2.2.2.2.2.1), ((hofv_6 1012 (by omega)).trans hMo.2.2.2.2.2.2.2.2.2.2.2.2.1), ((hofv_6 1013 (by omega)).trans hMo.2.2.2.2.2.2.2.2.2.2.2.2.2.1), ((hofv_6 1014 (by omega)).trans hMo.2.2.2.2.2.2.2.2.2.2.2.2.2.2.1), ((hofv_6 1015 (by omega)).trans hMo.2.2.2.2.2.2.2.2.2.2.2.2.2.2.2.1), ((hofv_6 1016 (by omega)).trans hMo.2.2.2.2.2.2.2.2.2.2.2.2.2.2.2.2)⟩ y9 hy9 hn9 hM9 hyk r8 c8 (by omega) (by omega) (by omega)) (cwV 3 hts gX6_divisor_X6_minor rfl rfl rfl (by decide +kernel) ⟨Nat.le_of_ble_eq_true rfl, Nat.le_of_ble_eq_true rfl⟩) (rm_preV hK hNw hW ((hofv_6 1000 (by omega)).trans hMo.1) rfl) rfl rfl hl.1 rfl (lv_room (Nat.le_of_ble_eq_true rfl)) dX6_divisor_62 ⟨Nat.zero_le _, Nat.zero_le _⟩) hW hS hA (fun z_12 ct_12 H locs hq_12 hW hS => ?_)
                    obtain ⟨A3, hz, hq1, hq2⟩ := hq_12
                    subst hz
                    have ho_12 : ∀ q, q ≠ 1007 → ct_12 q = ctv_6 q := hq2
                    have hof_12 : ∀ q, q ≠ 1007 → ct_12 q = ct q := fun q h0_12 => (ho_12 q h0_12).trans (hofv_6 q h0_12)
                    have hm0_12 : ct_12 1007 = some (rl ty 49 (fl 7 A3)) := hq1
                    refine rm_calll (va_runS (As := [.long (jL ((g2 : Nat) : Int)), .long (jL (mnr (yn y9) (yM y9) r8 c8))]) (rest := []) ⟨hx, hb, hml, hown, hts⟩ (c_X6_common l D ty ad ct_12 H.size ((g2 : Nat) : Int) (mnr (yn y9) (yM y9) r8 c8) (by omega) (by omega)) (va_cwS 2 hts gX6_divisor_X6_common rfl rfl rfl (by decide +kernel) ⟨Nat.le_of_ble_eq_true rfl, Nat.le_of_ble_eq_true rfl⟩) (rm_preS hK hNw hW) rfl rfl hl.1 rfl (lv_room (Nat.le_of_ble_eq_true rfl)) dX6_divisor_65 ⟨Nat.zero_le _, Nat.zero_le _⟩) hW hS hA (fun z_13 ct_13 H locs hq_13 hW hS => ?_)
                    obtain ⟨hz, hcc_13⟩ := hq_13
                    have hcc_13 := hcc_13.symm
                    subst hcc_13
                    rw [Int.natAbs_natCast] at hz
                    subst hz
                    refine lv_lstore_n (lv' := [(3, .long (jL (((Nat.gcd g2 (mnr (yn y9) (yM y9) r8 c8).natAbs) : Nat) : Int))), (6, .int (jI ((c8 : Nat) : Int))), (5, .int (jI ((r8 : Nat) : Int))), (0, .ref (ad 1000)), (1, .int (jI ((y9 : Nat) : Int))), (2, .int (jI ((w9 : Nat) : Int)))]) hx hb dX6_divisor_68 rfl hl (by decide) rfl (fun ls hl => ?_)
                    refine lv_iinc (v := jI (((c8 : Nat) : Int) + 1)) (lv' := [(6, .int (jI (((c8 : Nat) : Int) + 1))), (3, .long (jL (((Nat.gcd g2 (mnr (yn y9) (yM y9) r8 c8).natAbs) : Nat) : Int))), (5, .int (jI ((r8 : Nat) : Int))), (0, .ref (ad 1000)), (1, .int (jI ((y9 : Nat) : Int))), (2, .int (jI ((w9 : Nat) : Int)))]) hx hb dX6_divisor_69 hl (k := 1) rfl (jI_add _ _) (by decide) rfl (fun ls hl => ?_)
                    refine lv_goto (tgt := 30) hx hb dX6_divisor_72 (by decide) ?_
                    exact ih_IN (c8 + 1) ((Nat.gcd g2 (mnr (yn y9) (yM y9) r8 c8).natAbs)) (A3) (by omega) (by
                        rcases Nat.eq_zero_or_pos g2 with e | e
                        · rw [e, Nat.gcd_zero_left]; omega
                        · have := Nat.gcd_le_left (mnr (yn y9) (yM y9) r8 c8).natAbs e; omega) (fun d => (Nat.dvd_gcd_iff.trans (and_congr (hg2 d) Iff.rfl)).trans ⟨fun h => ⟨h.1.1, fun c hc h2 => by
                        rcases Nat.lt_or_ge c c8 with e | e
                        · exact h.1.2 c e h2
                        · rw [show c = c8 by omega]; exact h.2⟩, fun h => ⟨⟨h.1, fun c hc h2 => h.2 c (by omega) h2⟩, h.2 c8 (by omega) hcw⟩⟩) (by omega) ct_12 _ _ hm0_12 trivial hof_12 trivial hW hS ls (lv_sub hl [0, 2, 1, 3, 4, 5] rfl)
          exact IN (2 ^ ((yn y9) - 1) + 1) (0) (g8) (A1) (by omega) (by omega) (fun d => (hgd d).trans ⟨fun h => ⟨h, fun c hc => absurd hc (Nat.not_lt_zero _)⟩, fun h => h.1⟩) (by omega) ctv_1 _ _ hv0_1 trivial hofv_1 trivial hW hS ls (lv_sub hl [0, 1, 2, 3, 4, 5] rfl)
        · skip
          refine lv_goto (tgt := 75) hx hb dX6_divisor_24 (by decide) ?_
          refine lv_iinc (v := jI (((r8 : Nat) : Int) + 1)) (lv' := [(5, .int (jI (((r8 : Nat) : Int) + 1))), (3, .long (jL ((g8 : Nat) : Int))), (0, .ref (ad 1000)), (1, .int (jI ((y9 : Nat) : Int))), (2, .int (jI ((w9 : Nat) : Int)))]) hx hb dX6_divisor_75 hl (k := 0) rfl (jI_add _ _) (by decide) rfl (fun ls hl => ?_)
          refine lv_goto (tgt := 5) hx hb dX6_divisor_78 (by decide) ?_
          exact ih_OUT (r8 + 1) (g8) (A1) (by omega) (by omega) (fun d => (hgd d).trans ⟨fun h r c hr hc h1 h2 => by
              rcases Nat.lt_or_ge r r8 with e | e
              · exact h r c e hc h1 h2
              · rw [show r = r8 by omega] at h1; omega, fun h r c hr hc => h r c (by omega) hc⟩) (by omega) ctv_1 _ _ hv0_1 trivial hofv_1 trivial hW hS ls (lv_sub hl [0, 1, 2, 3, 4] rfl)
  exact OUT (2 ^ ((yn y9) - 1) + 1) (0) (0) (mA) (by omega) (by omega) (fun d => ⟨fun _ r c hr => absurd hr (Nat.not_lt_zero _), fun _ => Nat.dvd_zero d⟩) (by omega) ct _ _ hMo.2.2.2.2.2.2.2.1 trivial (fun _ _ => rfl) trivial hW hS ls (lv_sub hl [0, 1, 2, 3, 4] rfl)
