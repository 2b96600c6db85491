/-! What holds between the law's calls -/
section LawInv
def lwInv (k : Nat) (yc hc : Nat) (yn : Nat → Nat) (yM : Nat → Nat → Nat → Int) (yu : Nat → Int) (hy : Nat → Nat) (hg hf : Nat → Nat → Int) : Prop :=
  (yc ≤ 6 ∧ hc ≤ 20) ∧ (∀ y, y < yc → yok (yn y) (yM y)) ∧ (∀ y, yu y = 0 ∨ yu y = 1) ∧ (∀ y, yc ≤ y → yM y = (fun _ _ => 0) ∧ yu y = 0) ∧ (∀ h, hc ≤ h → hg h = (fun _ => 0) ∧ hf h = (fun _ => 0)) ∧
  (∀ h, h < hc → hy h < yc ∧ yu (hy h) = 1 ∧ jit (yn (hy h)) (yM (hy h)) (yn (hy h) - 1) = 2 ^ yn (hy h) - 1) ∧ ∀ h, h < hc → (∀ q, 1 ≤ q → q < yn (hy h) → 0 ≤ hg h q) ∧ psum (yn (hy h)) (hg h) ≤ 1000 + 100001 * (k : Int)
/-- the degrees by the paths -/
def ydg (yn : Nat → Nat) (yM : Nat → Nat → Nat → Int) : Nat → Nat → Int := fun y => dg (yn y) (yM y)
theorem dg_rng21 {n : Nat} {M : Nat → Nat → Int} (hy : yok n M) (i : Nat) : 0 ≤ dg n M i ∧ dg n M i ≤ 21 := by
  refine ⟨dg_nn (fun i j => (hy.2.2.1 i j).1) i, ?_⟩
  rcases Nat.lt_or_ge i n with h | h
  · exact dg_le hy h
  · have : dg n M i = 0 := gs_zero (fun q _ => hy.2.2.2.2.2 i q h)
    omega
theorem cn_dg {n : Nat} {M : Nat → Nat → Int} (hy : yok n M) (hc : cn n M) (p : Nat) (h1 : 1 ≤ p) (h2 : p < n) : 1 ≤ dg n M p := by
  refine Classical.byContradiction fun hn => ?_
  have h0 : dg n M p = 0 := by have := (dg_rng21 hy p).1; omega
  have hz : ∀ q, q < n → M p q = 0 := fun q hq => by
    have h3 := gs_ge (f := fun q => M p q) (p := q) (n := n) (fun k _ => (hy.2.2.1 p k).1) hq
    have h4 : gs (fun q => M p q) n = 0 := h0
    have := (hy.2.2.1 p q).1
    omega
  exact hc (fun q => q ≠ p) (by omega) (fun a b ha hb hA hM => fun e => by
    rw [e, hy.2.2.2.1 a p, hz a ha] at hM
    omega) p h2 rfl
theorem psum_set {n : Nat} (g : Nat → Int) (v : Int) {q : Nat} (h1 : 1 ≤ q) (h2 : q < n) : psum n (ub g q v) = psum n g + (v - g q) := by
  unfold psum
  have e1 : gs (fun k => if k = 0 then 0 else ub g q v k) n = gs (fun k => if k = q then v else (fun k => if k = 0 then 0 else g k) k) n := gs_cong (fun k _ => by
    unfold ub
    by_cases e : k = q
    · rw [if_neg (by omega), if_pos e, if_pos e]
    · rw [if_neg e, if_neg e])
  rw [e1, gs_upd _ _ h2, if_neg (by omega)]
theorem fel_ok {n : Nat} {M : Nat → Nat → Int} {g : Nat → Int} (hy : yok n M) (hg : ∀ q, 1 ≤ q → q < n → 0 ≤ g q) {p : Nat} (h1 : 1 ≤ p) (h2 : p < n) (hd : dg n M p ≤ g p) : (∀ q, 1 ≤ q → q < n → 0 ≤ fel n M (dg n M) g p 1 q) ∧ psum n (fel n M (dg n M) g p 1) ≤ psum n g := by
  have hM := hy.2.2.1
  refine ⟨fun q q1 q2 => ?_, ?_⟩
  · unfold fel
    rw [if_pos q2, Int.one_mul, Int.one_mul]
    have := hM p q
    have := hg q q1 q2
    by_cases e : q = p
    · subst e; rw [if_pos rfl]; omega
    · rw [if_neg e]; omega
  · have e1 : psum n (fel n M (dg n M) g p 1) = gs (fun q => (if q = 0 then 0 else g q) + ((if q = 0 then 0 else M p q) - (if q = p then dg n M p else 0))) n := gs_cong (fun q hq => by
      unfold fel
      by_cases e0 : q = 0
      · rw [if_pos e0, if_pos e0, if_pos e0, if_neg (by omega)]; omega
      · rw [if_neg e0, if_neg e0, if_neg e0, if_pos hq, Int.one_mul, Int.one_mul]
        by_cases e : q = p
        · rw [if_pos e, if_pos e]; omega
        · rw [if_neg e, if_neg e]; omega)
    rw [e1, gs_add, gs_sub, gs_one (fun _ => dg n M p) h2]
    have h3 : gs (fun q => if q = 0 then 0 else M p q) n ≤ dg n M p := gs_le (fun q _ => by
      by_cases e : q = 0
      · rw [if_pos e]; exact (hM p q).1
      · rw [if_neg e]; exact Int.le_refl _)
    have h4 : psum n g = gs (fun q => if q = 0 then 0 else g q) n := rfl
    omega
theorem gaf_ok {n : Nat} {M : Nat → Nat → Int} {g v : Nat → Int} (h : yst n M) (hg : ∀ q, 1 ≤ q → q < n → 0 ≤ g q) (hB : psum n g ≤ 1000000000) (hv : stl n M g v) : (∀ q, 1 ≤ q → q < n → 0 ≤ gaf n M g v q) ∧ psum n (gaf n M g v) ≤ 160 := by
  have h1 : ∀ q, 1 ≤ q → q < n → 0 ≤ gaf n M g v q ∧ gaf n M g v q ≤ 20 := fun q q1 q2 => by rw [gaf_sti hv q2]; exact sti_rng h hg hB q1 q2
  have h2 := psum_le (n := n) (c := 20) (by omega) (fun q q1 q2 => (h1 q q1 q2).2)
  have h3 := h.1.2.1
  exact ⟨fun q q1 q2 => (h1 q q1 q2).1, by omega⟩
theorem tkn_psum {n : Nat} {w g : Nat → Int} : psum n (tkn n w g) = psum n w := psum_cong (fun q h1 h2 => by unfold tkn; rw [if_pos ⟨h1, h2⟩])
theorem bcm_ok {n : Nat} {M : Nat → Nat → Int} {g w : Nat → Int} {w9 : Int} (h : yst n M) (hg : ∀ q, 1 ≤ q → q < n → 0 ≤ g q) (hB : psum n g ≤ 900000000) (hb : bcm n M (dg n M) g w9 w) : (∀ q, 1 ≤ q → q < n → 0 ≤ w q) ∧ psum n w ≤ 160 := by
  have hsum : ∀ f : Nat → Int, (∀ q, 1 ≤ q → q < n → 0 ≤ f q ∧ f q ≤ 20) → (∀ q, 1 ≤ q → q < n → 0 ≤ f q) ∧ psum n f ≤ 160 := fun f hf => by
    have h2 := psum_le (n := n) (c := 20) (by omega) (fun q q1 q2 => (hf q q1 q2).2)
    have h3 := h.1.2.1
    exact ⟨fun q q1 q2 => (hf q q1 q2).1, by omega⟩
  have hcag : ∀ f : Nat → Int, (∀ q, 1 ≤ q → q < n → 0 ≤ f q) → psum n f ≤ 900000000 → (∀ q, 1 ≤ q → q < n → 0 ≤ cag n M f q) ∧ psum n (cag n M f) ≤ 160 := fun f hf hfB => by
    refine hsum _ (fun q q1 q2 => ?_)
    have h3 := lft_sum h
    refine sti_rng (g := fun q => lft n M q + f q) h (fun q q1 q2 => ?_) (by rw [psum_add]; omega) q1 q2
    have := (lft_rng h q1 q2).1
    have := h.2.1 q q1 q2
    have := hf q q1 q2
    omega
  rcases hb with ⟨-, rfl⟩ | ⟨-, rfl⟩ | ⟨-, rfl⟩ | ⟨-, rfl⟩ | ⟨-, rfl⟩
  · exact hsum _ (fun q _ _ => ⟨Int.le_refl _, by omega⟩)
  · exact hsum _ (fun q q1 q2 => by
      have := h.2.1 q q1 q2
      have := (dg_rng21 h.1 q).2
      exact ⟨by omega, by omega⟩)
  · exact hcag _ (fun q _ _ => Int.le_refl _) (by
      have : psum n (fun _ => (0 : Int)) = 0 := gs_zero (fun k _ => by split <;> rfl)
      omega)
  · refine hcag _ (fun q q1 q2 => (opp_rng h hg hB q1 q2).1) ?_
    have h2 := psum_le (n := n) (f := opp n M g) (c := 40) (by omega) (fun q q1 q2 => (opp_rng h hg hB q1 q2).2)
    have h3 := h.1.2.1
    omega
  · exact hcag _ hg hB
theorem grw_ok {n : Nat} {M : Nat → Nat → Int} (hy : yok n M) (tr : Nat) : (∀ q, 1 ≤ q → q < n → 0 ≤ grw n M (dg n M) tr q) ∧ psum n (grw n M (dg n M) tr) ≤ 800 := by
  have hM := hy.2.2.1
  have hn := hy.2.1
  have h2 := psum_le (n := n) (f := grw n M (dg n M) tr) (c := 100) (by omega) (fun q q1 q2 => (grw_rng (d := dg n M) hM (fun i _ => dg_rng21 hy i) hn (by omega) (fun q => fit9_rng (n - 1) (by omega) q)).2)
  refine ⟨fun q q1 q2 => ?_, by omega⟩
  unfold grw
  have h3 := pbk_rng hM (fit9 n tr (n - 1)) q (tgt tr q)
  have h4 : 0 ≤ ltb M (dg n M) (fit9 n tr (n - 1)) q (fit9 n tr (n - 1) q) n := by
    unfold ltb
    have : gs (fun o => if fit9 n tr (n - 1) o ≠ -1 ∧ fit9 n tr (n - 1) o < fit9 n tr (n - 1) q then M q o else 0) n ≤ dg n M q := gs_le (fun o _ => by
      split
      · exact Int.le_refl _
      · exact (hM q o).1)
    omega
  omega
theorem lyd_dg {n : Nat} {M : Nat → Nat → Int} {a b : Nat} (hy : yok n M) (ha : a < n) (hb : b < n) (hab : a ≠ b) (v : Int) : lyd (dg n M) a b (v - M a b) = dg n (lyM M a b v) := by
  funext i
  unfold lyd dg
  by_cases e : i = a
  · rw [if_pos (Or.inl e), e]
    have e1 : gs (fun q => lyM M a b v a q) n = gs (fun q => if q = b then v else M a q) n := gs_cong (fun q _ => by
      unfold lyM
      by_cases e2 : q = b
      · rw [if_pos (Or.inl ⟨rfl, e2⟩), if_pos e2]
      · rw [if_neg (fun h => by rcases h with h | h; exact e2 h.2; exact hab h.1), if_neg e2])
    rw [e1, gs_upd _ _ hb]
  · by_cases e' : i = b
    · rw [if_pos (Or.inr e'), e']
      have e1 : gs (fun q => lyM M a b v b q) n = gs (fun q => if q = a then v else M b q) n := gs_cong (fun q _ => by
        unfold lyM
        by_cases e2 : q = a
        · rw [if_pos (Or.inr ⟨rfl, e2⟩), if_pos e2]
        · rw [if_neg (fun h => by rcases h with h | h; exact hab h.1.symm; exact e2 h.2), if_neg e2])
      rw [e1, gs_upd _ _ ha, hy.2.2.2.1 b a]
    · rw [if_neg (fun h => by rcases h with h | h; exact e h; exact e' h)]
      exact gs_cong (fun q _ => by
        unfold lyM
        rw [if_neg (fun h => by rcases h with h | h; exact e h.1; exact e' h.1)])
theorem yok_ly {n : Nat} {M : Nat → Nat → Int} {a b : Nat} (hy : yok n M) (ha : a < n) (hb : b < n) (hab : a ≠ b) {v : Int} (h0 : 0 ≤ v) (h3 : v ≤ 3) : yok n (lyM M a b v) := by
  refine ⟨hy.1, hy.2.1, fun i j => ?_, fun i j => ?_, fun i => ?_, fun i j hi => ?_⟩
  · unfold lyM; split
    · exact ⟨h0, h3⟩
    · exact hy.2.2.1 i j
  · unfold lyM
    by_cases e : (i = a ∧ j = b) ∨ (i = b ∧ j = a)
    · rw [if_pos e, if_pos (by rcases e with e | e; exact Or.inr ⟨e.2, e.1⟩; exact Or.inl ⟨e.2, e.1⟩)]
    · rw [if_neg e, if_neg (fun h => e (by rcases h with h | h; exact Or.inr ⟨h.2, h.1⟩; exact Or.inl ⟨h.2, h.1⟩))]
      exact hy.2.2.2.1 i j
  · unfold lyM
    rw [if_neg (fun h => by rcases h with h | h <;> omega)]
    exact hy.2.2.2.2.1 i
  · unfold lyM
    rw [if_neg (fun h => by rcases h with h | h <;> omega)]
    exact hy.2.2.2.2.2 i j hi
theorem yok_z {p : Nat} (h1 : 2 ≤ p) (h2 : p ≤ 8) : yok p (fun _ _ => 0) := ⟨h1, h2, fun _ _ => ⟨Int.le_refl _, by show (0 : Int) ≤ 3; omega⟩, fun _ _ => rfl, fun _ => rfl, fun _ _ _ => rfl⟩
theorem dg_z (p : Nat) : dg p (fun _ _ => 0) = fun _ => 0 := by
  funext i; exact gs_zero (fun _ _ => rfl)
theorem us_same {α : Type} {f : Nat → α} {a : Nat} {v : α} (h : f a = v) : us f a v = f := by
  funext q
  by_cases e : q = a
  · rw [e, us_s, h]
  · rw [us_n _ _ e]
section Facts
variable {k yc hc : Nat} {yn : Nat → Nat} {yM : Nat → Nat → Nat → Int} {yu : Nat → Int} {hy : Nat → Nat} {hg hf : Nat → Nat → Int}
theorem iv_n (hI : lwInv k yc hc yn yM yu hy hg hf) : ∀ y, y < yc → 2 ≤ yn y ∧ yn y ≤ 8 := fun y h => ⟨(hI.2.1 y h).1, (hI.2.1 y h).2.1⟩
theorem iv_M (hI : lwInv k yc hc yn yM yu hy hg hf) : ∀ y, y < yc → ∀ i j, 0 ≤ yM y i j ∧ yM y i j ≤ 3 := fun y h => (hI.2.1 y h).2.2.1
theorem iv_d (hI : lwInv k yc hc yn yM yu hy hg hf) : ∀ y, y < yc → ∀ i, i < 8 → 0 ≤ ydg yn yM y i ∧ ydg yn yM y i ≤ 21 := fun y h i _ => dg_rng21 (hI.2.1 y h) i
theorem iv_hy (hI : lwInv k yc hc yn yM yu hy hg hf) : ∀ h, h < hc → hy h < yc := fun h hh => (hI.2.2.2.2.2.1 h hh).1
theorem iv_c (hI : lwInv k yc hc yn yM yu hy hg hf) : ∀ h, h < hc → cn (yn (hy h)) (yM (hy h)) := fun h hh => by
  obtain ⟨h1, -, h2⟩ := hI.2.2.2.2.2.1 h hh
  have h3 := hI.2.1 _ h1
  exact (jit_cn (by have := h3.1; omega) h3.2.2.2.1).mp h2
theorem iv_cy (hI : lwInv k yc hc yn yM yu hy hg hf) {y : Nat} (h : y < yc) (hj : jit (yn y) (yM y) (yn y - 1) = 2 ^ yn y - 1) : cn (yn y) (yM y) := (jit_cn (by have := (hI.2.1 y h).1; omega) (hI.2.1 y h).2.2.2.1).mp hj
theorem iv_w (hI : lwInv k yc hc yn yM yu hy hg hf) {y : Nat} (h : y < yc) : jit (yn y) (yM y) (yn y - 1) = 2 ^ yn y - 1 ↔ isz (yn y) (yM y) 8 = 2 ^ yn y - 1 := whole_iff (hI.2.1 y h)
theorem iv_st (hI : lwInv k yc hc yn yM yu hy hg hf) : ∀ h, h < hc → yst (yn (hy h)) (yM (hy h)) := fun h hh => yst_ok (hI.2.1 _ (iv_hy hI h hh)) (iv_c hI h hh) (cn_dg (hI.2.1 _ (iv_hy hI h hh)) (iv_c hI h hh))
theorem iv_ms (hI : lwInv k yc hc yn yM yu hy hg hf) : ∀ h, h < hc → mst9 (yn (hy h)) (yM (hy h)) := fun h hh => mst_ok (hI.2.1 _ (iv_hy hI h hh)) (iv_c hI h hh) (cn_dg (hI.2.1 _ (iv_hy hI h hh)) (iv_c hI h hh))
theorem iv_s (hk : k ≤ 512) (hI : lwInv k yc hc yn yM yu hy hg hf) : ∀ h, h < hc → psum (yn (hy h)) (hg h) ≤ 60000000 := fun h hh => by
  have := (hI.2.2.2.2.2.2 h hh).2
  omega
theorem iv_g (hk : k ≤ 512) (hI : lwInv k yc hc yn yM yu hy hg hf) : ∀ h, h < hc → ∀ q, 1 ≤ q → q < yn (hy h) → 0 ≤ hg h q ∧ hg h q ≤ 60000000 := fun h hh q h1 h2 => by
  have h3 := (hI.2.2.2.2.2.2 h hh).1
  have h4 := psum_ge h3 h1 h2
  have h5 := iv_s hk hI h hh
  exact ⟨h3 q h1 h2, by omega⟩
theorem iv_hgr (hk : k ≤ 512) (hI : lwInv k yc hc yn yM yu hy hg hf) : ∀ h, h < hc → ∀ q, 1 ≤ q → q < yn (hy h) → 0 ≤ hg h q ∧ hg h q ≤ 1000000000 := fun h hh q h1 h2 => by
  have := iv_g hk hI h hh q h1 h2; omega
theorem iv_hga (hk : k ≤ 512) (hI : lwInv k yc hc yn yM yu hy hg hf) : ∀ h, h < hc → ∀ q, 1 ≤ q → q < yn (hy h) → 0 ≤ hg h q ∧ hg h q ≤ 900000000 := fun h hh q h1 h2 => by
  have := iv_g hk hI h hh q h1 h2; omega
theorem iv_had (hk : k ≤ 512) (hI : lwInv k yc hc yn yM yu hy hg hf) : ∀ h, h < hc → psum (yn (hy h)) (hg h) ≤ 400000000 := fun h hh => by
  have := iv_s hk hI h hh; omega
theorem iv_hst (hk : k ≤ 512) (hI : lwInv k yc hc yn yM yu hy hg hf) : ∀ h, h < hc → yst (yn (hy h)) (yM (hy h)) ∧ (∀ i, i < 8 → ydg yn yM (hy h) i = dg (yn (hy h)) (yM (hy h)) i) ∧ psum (yn (hy h)) (hg h) ≤ 900000000 := fun h hh => ⟨iv_st hI h hh, fun _ _ => rfl, by have := iv_s hk hI h hh; omega⟩
theorem iv_hsm (hk : k ≤ 512) (hI : lwInv k yc hc yn yM yu hy hg hf) : ∀ h, h < hc → mst9 (yn (hy h)) (yM (hy h)) ∧ psum (yn (hy h)) (hg h) ≤ 900000000 := fun h hh => ⟨iv_ms hI h hh, by have := iv_s hk hI h hh; omega⟩
theorem iv_sv (hI : lwInv k yc hc yn yM yu hy hg hf) : ∀ h, h < hc → ysv (yn (hy h)) (yM (hy h)) (ydg yn yM (hy h)) := fun h hh => ysv_ok (hI.2.1 _ (iv_hy hI h hh)) (iv_c hI h hh)
theorem iv_sl (hI : lwInv k yc hc yn yM yu hy hg hf) : ∀ y, y < yc → jit (yn y) (yM y) (yn y - 1) = 2 ^ yn y - 1 → ∀ T, slr (yn y) (tfp (yn y) (yM y) (ydg yn yM y) (fun _ => (0 : Int)) T (yn y) 0) := fun y h hj T => slr_ok (hI.2.1 y h) (iv_cy hI h hj) T
theorem iv_tr (hI : lwInv k yc hc yn yM yu hy hg hf) : ∀ y, y < yc → jit (yn y) (yM y) (yn y - 1) = 2 ^ yn y - 1 → ∀ T, 1 ≤ trs (yn y) (yM y) (ydg yn yM y) T ∧ trs (yn y) (yM y) (ydg yn yM y) T ≤ 2147483648 := fun y h hj T => by
  have h1 := trd_pos (hI.2.1 y h) (iv_cy hI h hj)
  have h2 : trs (yn y) (yM y) (ydg yn yM y) T = trd (yn y) (yM y) := trs_trd (hI.2.1 y h) (iv_cy hI h hj) T
  rw [h2]; omega
theorem iv_pz (hI : lwInv k yc hc yn yM yu hy hg hf) : ∀ y, y < yc → isz (yn y) (yM y) 8 = 2 ^ yn y - 1 → ∀ q, 1 ≤ q → q < yn y → ∃ r c, r < 2 ^ (yn y - 1) ∧ c < 2 ^ (yn y - 1) ∧ cb r 7 = q ∧ cb c 7 = q ∧ mnr (yn y) (yM y) r c ≠ 0 := fun y h hj q h1 h2 => hpz_ok (hI.2.1 y h) (iv_cy hI h ((iv_w hI h).mpr hj)) h1 h2
theorem iv_td (hI : lwInv k yc hc yn yM yu hy hg hf) : ∀ h, h < hc → trd (yn (hy h)) (yM (hy h)) ≠ 0 := fun h hh => by
  have := (trd_pos (hI.2.1 _ (iv_hy hI h hh)) (iv_c hI h hh)).1; omega
theorem iv_kh (hI : lwInv k yc hc yn yM yu hy hg hf) : ∀ h, h < hc → yok (yn (hy h)) (yM (hy h)) := fun h hh => hI.2.1 _ (iv_hy hI h hh)
/-- one call later -/
theorem iv_up (hI : lwInv k yc hc yn yM yu hy hg hf) : lwInv (k + 1) yc hc yn yM yu hy hg hf := by
  obtain ⟨a1, a2, a3, a4, a5, a6, a7⟩ := hI
  refine ⟨a1, a2, a3, a4, a5, a6, fun h hh => ⟨(a7 h hh).1, ?_⟩⟩
  have := (a7 h hh).2
  push_cast
  omega
/-- a heap's grains and falls anew -/
theorem iv_heap (hI : lwInv k yc hc yn yM yu hy hg hf) {h9 : Nat} (hh : h9 < hc) {g1 f1 : Nat → Int} (h0 : ∀ q, 1 ≤ q → q < yn (hy h9) → 0 ≤ g1 q) (h1 : psum (yn (hy h9)) g1 ≤ 1000 + 100001 * ((k + 1 : Nat) : Int)) : lwInv (k + 1) yc hc yn yM yu hy (us hg h9 g1) (us hf h9 f1) := by
  obtain ⟨a1, a2, a3, a4, a5, a6, a7⟩ := hI
  refine ⟨a1, a2, a3, a4, fun h hh2 => ?_, a6, fun h hh2 => ?_⟩
  · rw [us_n _ _ (show h ≠ h9 by omega), us_n _ _ (show h ≠ h9 by omega)]; exact a5 h hh2
  · by_cases e : h = h9
    · rw [e, us_s]; exact ⟨h0, h1⟩
    · rw [us_n _ _ e]
      have := (a7 h hh2).2
      exact ⟨(a7 h hh2).1, by push_cast; omega⟩
theorem iv_heapg (hI : lwInv k yc hc yn yM yu hy hg hf) {h9 : Nat} (hh : h9 < hc) {g1 : Nat → Int} (h0 : ∀ q, 1 ≤ q → q < yn (hy h9) → 0 ≤ g1 q) (h1 : psum (yn (hy h9)) g1 ≤ 1000 + 100001 * ((k + 1 : Nat) : Int)) : lwInv (k + 1) yc hc yn yM yu hy (us hg h9 g1) hf := by
  have h2 := iv_heap (f1 := hf h9) hI hh h0 h1
  rw [us_same (f := hf) rfl] at h2
  exact h2
theorem iv_yard (hI : lwInv k yc hc yn yM yu hy hg hf) (hc6 : yc < 6) {p : Nat} (h1 : 2 ≤ p) (h2 : p ≤ 8) : lwInv (k + 1) (yc + 1) hc (us yn yc p) yM yu hy hg hf := by
  obtain ⟨a1, a2, a3, a4, a5, a6, a7⟩ := iv_up hI
  have hn : ∀ h, h < hc → us yn yc p (hy h) = yn (hy h) := fun h hh => us_n _ _ (by have := (a6 h hh).1; omega)
  refine ⟨⟨by omega, a1.2⟩, fun y hy2 => ?_, a3, fun y hy2 => a4 y (by omega), a5, fun h hh => ?_, fun h hh => ?_⟩
  · by_cases e : y = yc
    · rw [e, us_s, (a4 yc (Nat.le_refl _)).1]; exact yok_z h1 h2
    · rw [us_n _ _ e]; exact a2 y (by omega)
  · rw [hn h hh]; exact ⟨by have := (a6 h hh).1; omega, (a6 h hh).2⟩
  · rw [hn h hh]; exact a7 h hh
theorem iv_path (hI : lwInv k yc hc yn yM yu hy hg hf) {y9 a9 b9 : Nat} (h : y9 < yc) (hu : yu y9 = 0) (ha : a9 < yn y9) (hb : b9 < yn y9) (hab : a9 ≠ b9) {v : Int} (h0 : 0 ≤ v) (h3 : v ≤ 3) : lwInv (k + 1) yc hc yn (us yM y9 (lyM (yM y9) a9 b9 v)) yu hy hg hf := by
  obtain ⟨a1, a2, a3, a4, a5, a6, a7⟩ := iv_up hI
  have hn : ∀ h, h < hc → us yM y9 (lyM (yM y9) a9 b9 v) (hy h) = yM (hy h) := fun h hh => us_n _ _ (fun e => by have := (a6 h hh).2.1; rw [e, hu] at this; omega)
  refine ⟨a1, fun y hy2 => ?_, a3, fun y hy2 => ?_, a5, fun h hh => ?_, a7⟩
  · by_cases e : y = y9
    · rw [e, us_s]; exact yok_ly (a2 y9 h) ha hb hab h0 h3
    · rw [us_n _ _ e]; exact a2 y hy2
  · rw [us_n _ _ (by omega)]; exact a4 y hy2
  · rw [hn h hh]; exact a6 h hh
theorem iv_new (hI : lwInv k yc hc yn yM yu hy hg hf) {y9 : Nat} (h : y9 < yc) (hc20 : hc < 20) (hj : jit (yn y9) (yM y9) (yn y9 - 1) = 2 ^ yn y9 - 1) : lwInv (k + 1) yc (hc + 1) yn yM (us yu y9 1) (us hy hc y9) hg hf := by
  obtain ⟨a1, a2, a3, a4, a5, a6, a7⟩ := iv_up hI
  refine ⟨⟨a1.1, by omega⟩, a2, fun y => ?_, fun y hy2 => ?_, fun h hh => a5 h (by omega), fun h2 hh => ?_, fun h2 hh => ?_⟩
  · by_cases e : y = y9
    · rw [e, us_s]; exact Or.inr rfl
    · rw [us_n _ _ e]; exact a3 y
  · rw [us_n _ _ (by omega)]; exact a4 y hy2
  · by_cases e : h2 = hc
    · rw [e, us_s, us_s]; exact ⟨h, rfl, hj⟩
    · rw [us_n _ _ e]
      have h3 := a6 h2 (by omega)
      refine ⟨h3.1, ?_, h3.2.2⟩
      by_cases e2 : hy h2 = y9
      · rw [e2, us_s]
      · rw [us_n _ _ e2]; exact h3.2.1
  · by_cases e : h2 = hc
    · rw [e, us_s, (a5 hc (Nat.le_refl _)).1]
      have h4 : psum (yn y9) (fun _ => (0 : Int)) = 0 := gs_zero (fun k _ => by split <;> rfl)
      exact ⟨fun _ _ _ => Int.le_refl _, by rw [h4]; omega⟩
    · rw [us_n _ _ e]; exact a7 h2 (by omega)
end Facts
end LawInv
