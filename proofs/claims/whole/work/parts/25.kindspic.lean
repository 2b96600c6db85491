/-! System.arraycopy of a whole row; pictures of the kinds' rows -/
section RmCopy
variable {p : Program} {l : Launch} {e : Env} {R : Room} {s : State} {m : MethodId} {args : Array Value} {below : List Frame} {meth : Method} {c : Code} {H : Heap} {locs : List Loc} {cells slots : Nat} {Q : State → Prop}
variable {cc : ByteArray} {pc : Nat} {ls : Array Slot} {rest : List Value} {D : va_G} {A : Nat → Prop} {ty : Nat → ClassId} {ad : Nat → Nat} {ct : rm_C} {H0 : Heap}
theorem rm_copyl (hexec : p.tables.exec = Jvm.exec) (hb : c.code = cc) (hml : c.maxLocals = ls.size) {own : String} {index : Nat} (hown : s.vm.findClass own = some m.cls) (hlink : (Cond.methodLink own index arraycopyName).before args s = true) (hnat : (Cond.native arraycopyName).before args s = true) (hstat : (Cond.static arraycopyName).before args s = true) (hini : (Cond.initialized "java/lang/System").before args s = true)
    (hK : va_K D vwCl (rm_tys ty) s) (hW : rm_W D ad ct A H) (hS : va_S A H0 H locs) {r0 r1 : Nat} {f g : Nat → Int} (hr0 : ct r0 = some (rl ty 8 f)) (hr1 : ct r1 = some (rl ty 8 g))
    (hframes : 1 ≤ R.frames) (hlocals : (rest.map fun v => v.category).sum + (nativeFrameWords "java/lang/System" "arraycopy" 5 + 11) ≤ R.locals) (hdg : decode cc pc = .ok (.invokestatic index, 3))
    (kk : ∀ (H1 : Heap) (locs1 : List Loc) (ct1 : rm_C), ct1 r1 = some (rl ty 8 f) → (∀ q, q ≠ r1 → ct1 q = ct q) → rm_W D ad ct1 A H1 → va_S A H0 H1 locs1 → H1.size = H.size → W p l e R s m args below meth c H1 locs1 cells slots Q (F0 m (pc + 3) ls rest)) : W p l e R s m args below meth c H locs cells slots Q (F0 m pc ls (.int (jI 8) :: .int (jI 0) :: .ref (ad r1) :: .int (jI 0) :: .ref (ad r0) :: rest)) := by
  have c8 : (jI 8).toNatClampNeg = 8 := by decide
  have c0 : (jI 0).toNatClampNeg = 0 := by decide
  intro T hT X
  have hc0 : H[ad r0]? = some (vp_cell (ty 1) (8, .inr (.inl (fun j => jL (f j))))) := (hW.1 r0 _ hr0).1
  have hc1 : H[ad r1]? = some (vp_cell (ty 1) (8, .inr (.inl (fun j => jL (g j))))) := (hW.1 r1 _ hr1).1
  obtain ⟨-, k0, hk0, cm0, hkk0⟩ := (hK.2 1 _ rfl).1 8 (fun j => .long (jL (f j)))
  obtain ⟨-, k1, hk1, cm1, hkk1⟩ := (hK.2 1 _ rfl).1 8 (fun j => .long (jL (g j)))
  obtain ⟨vm', X', step⟩ := X.arraycopy hexec hown hlink hnat hstat hini (src := ad r0) (dst := ad r1) (cs := vp_cell (ty 1) (8, .inr (.inl (fun j => jL (f j))))) (cd := vp_cell (ty 1) (8, .inr (.inl (fun j => jL (g j))))) (srcPos := jI 0) (destPos := jI 0) (n := jI 8) (by rw [hT]; exact hc0) (by rw [hT]; exact hc1)
    (fun _ h => by cases h) (fun _ h => by cases h) (fun h => by cases h) (fun h => by cases h) hk0 hk1 hkk0 hkk1 (by simp [refKind]) (by decide) (by decide) (by decide)
    (by show ¬ _ > ((arrV (ty 1) 8 (fun j => .long (jL (f j)))).slots.size : Int); rw [arrV_size]; decide)
    (by show ¬ _ > ((arrV (ty 1) 8 (fun j => .long (jL (g j)))).slots.size : Int); rw [arrV_size]; decide)
    (fun vm₁ _ i hi => by
      rw [c8] at hi
      have e : (vp_cell (ty 1) (8, .inr (.inl (fun j => jL (f j))))).slots.getD ((jI 0).toNatClampNeg + i) .null = .long (jL (f (0 + i))) := by
        rw [c0]
        show (arrV (ty 1) 8 (fun j => .long (jL (f j)))).slots.getD _ _ = _
        rw [Array.getD_eq_getD_getElem?, arrV_read _ _ (by omega)]
        rfl
      refine ⟨?_, ?_⟩
      · rw [e]
        rfl
      · rw [e]
        exact trivial)
    (g := F0 m pc ls (.int (jI 8) :: .int (jI 0) :: .ref (ad r1) :: .int (jI 0) :: .ref (ad r0) :: rest)) rfl (by rw [hml]) (rest := rest) rfl (by rw [hb]; exact hdg) hframes (by show 2 * 0 + _ + _ ≤ _; omega)
  have e1 : copied (vp_cell (ty 1) (8, .inr (.inl (fun j => jL (f j))))) (vp_cell (ty 1) (8, .inr (.inl (fun j => jL (g j))))) (jI 0) (jI 0) (jI 8) = vp_cell (ty 1) (8, .inr (.inl (va_cpy (fun j => jL (f j)) (fun j => jL (g j)) (jI 0).toNatClampNeg (jI 0).toNatClampNeg (jI 8).toNatClampNeg))) := va_copied (fun z => .long z) (ty 1) (ty 1) (fun j => jL (f j)) (fun j => jL (g j)) (by rw [c0, c8]; exact Nat.le_refl 8)
  rw [c0, c8] at e1
  have e2 : vp_cell (ty 1) (8, .inr (.inl (va_cpy (fun j => jL (f j)) (fun j => jL (g j)) 0 0 8))) = vp_cell (ty 1) (8, .inr (.inl (fun j => jL (f j)))) := by
    rw [vp_cell_l, vp_cell_l]
    exact arrV_cong (fun j hj => by simp [va_cpy, hj])
  rw [e1, e2] at X' step
  have hl : ad r1 < H.size := (Array.getElem?_eq_some_iff.mp hc1).1
  have hheap : ((T.setVm vm').setCell (ad r1) (vp_cell (ty 1) (8, .inr (.inl (fun j => jL (f j)))))).heap = H.setIfInBounds (ad r1) (vp_cell (ty 1) (8, .inr (.inl (fun j => jL (f j))))) := by rw [← hT]; rfl
  have oq : ∀ q : Nat, q ≠ ad r1 → (H.setIfInBounds (ad r1) (vp_cell (ty 1) (8, .inr (.inl (fun j => jL (f j))))))[q]? = H[q]? := fun q hq => by simp [Array.getElem?_setIfInBounds, Ne.symm hq]
  obtain ⟨t, a1, b1⟩ := kk _ _ _ (rm_up_s ct r1 _) (fun q hq => rm_up_n ct _ hq) (hW.set hr1 (show (H.setIfInBounds (ad r1) (vp_cell (ty 1) (8, .inr (.inl (fun j => jL (f j))))))[ad r1]? = some _ by simp [Array.getElem?_setIfInBounds, hl]) oq) ⟨by simp; exact hS.1, fun q g1 g2 => by
      rw [oq q (fun e => g2 (by rw [e]; exact (hW.1 r1 _ hr1).2))]
      exact hS.2.1 q g1 g2, fun q hq => by
      rcases List.mem_append.mp hq with h | h
      · exact hS.2.2 q h
      · obtain ⟨z, -, hz⟩ := List.mem_map.mp h
        rw [← hz]
        exact (hW.1 r1 _ hr1).2⟩ (by simp) _ hheap X'
  exact ⟨t, step t a1, b1⟩
end RmCopy
section KindsPic
theorem stl_cong {n : Nat} {M : Nat → Nat → Int} {g g' v : Nat → Int} (h : ∀ q, 1 ≤ q → q < n → g q = g' q) (hv : stl n M g v) : stl n M g' v := by
  have ha : ∀ w q, 1 ≤ q → q < n → af n M g w q = af n M g' w q := fun w q h1 h2 => by unfold af; rw [h q h1 h2]
  refine ⟨hv.1, hv.2.1, hv.2.2.1, fun q h1 h2 => by rw [← ha v q h1 h2]; exact hv.2.2.2.1 q h1 h2, fun w h0 hz hs => hv.2.2.2.2 w h0 hz (fun q h1 h2 => by rw [ha w q h1 h2]; exact hs q h1 h2)⟩
/-- how often each place topples until all is still: that one, where there is one -/
noncomputable def stv (n : Nat) (M : Nat → Nat → Int) (g : Nat → Int) : Nat → Int := Classical.epsilon (fun v => stl n M g v)
theorem stv_eq {n : Nat} {M : Nat → Nat → Int} {g v : Nat → Int} (h : stl n M g v) : stv n M g = v := stl_one (Classical.epsilon_spec (p := fun v => stl n M g v) ⟨v, h⟩) h
theorem stv_ok {n : Nat} {M : Nat → Nat → Int} {g v : Nat → Int} (h : stl n M g v) : stl n M g (stv n M g) := by rw [stv_eq h]; exact h
theorem stv_cong {n : Nat} {M : Nat → Nat → Int} {g g' v : Nat → Int} (h : ∀ q, 1 ≤ q → q < n → g q = g' q) (hv : stl n M g v) : stv n M g' = v := stv_eq (stl_cong h hv)
/-- twice the fullest; what is of no grains' kind and nowhere less than the fullest; the one that comes again -/
def ful2 (n : Nat) (M : Nat → Nat → Int) : Nat → Int := fun q => 2 * (dg n M q - 1)
noncomputable def lft (n : Nat) (M : Nat → Nat → Int) : Nat → Int := fun q => ful2 n M q - af n M (ful2 n M) (stv n M (ful2 n M)) q
noncomputable def cag (n : Nat) (M : Nat → Nat → Int) (g : Nat → Int) : Nat → Int := af n M (fun q => lft n M q + g q) (stv n M (fun q => lft n M q + g q))
noncomputable def opp (n : Nat) (M : Nat → Nat → Int) (g : Nat → Int) : Nat → Int := fun q => lft n M q - af n M g (stv n M g) q
/-- a yard that settles in time: what the whole ones do -/
def yst (n : Nat) (M : Nat → Nat → Int) : Prop := yok n M ∧ (∀ i, 1 ≤ i → i < n → 1 ≤ dg n M i) ∧ ∀ g : Nat → Int, (∀ q, 1 ≤ q → q < n → 0 ≤ g q) → psum n g ≤ 1000000000 → ∃ s0, s0 < 1000000 ∧ its n M g up1 (s0 + 1) = its n M g up1 s0
theorem yst_first {n : Nat} {M : Nat → Nat → Int} {g : Nat → Int} (h : yst n M) (hg : ∀ q, 1 ≤ q → q < n → 0 ≤ g q) (hB : psum n g ≤ 1000000000) : ∃ v, stl n M g v := by
  obtain ⟨s0, -, h0⟩ := h.2.2 g hg hB
  exact ⟨_, sw_still h.1 up1_in up1_all h.2.1 (onw_its h.1 up1_in hg s0) h0⟩
theorem psum_le {n : Nat} {f : Nat → Int} {c : Int} (hc : 0 ≤ c) (h : ∀ q, 1 ≤ q → q < n → f q ≤ c) : psum n f ≤ n * c := by
  unfold psum
  rw [← gs_const]
  exact gs_le (fun k hk => by
    by_cases e : k = 0
    · rw [if_pos e]; exact hc
    · rw [if_neg e]; exact h k (by omega) hk)
theorem psum_cong {n : Nat} {f g : Nat → Int} (h : ∀ q, 1 ≤ q → q < n → f q = g q) : psum n f = psum n g := gs_cong (fun k hk => by
  by_cases e : k = 0
  · rw [if_pos e, if_pos e]
  · rw [if_neg e, if_neg e]; exact h k (by omega) hk)
theorem psum_add (n : Nat) (f g : Nat → Int) : psum n (fun q => f q + g q) = psum n f + psum n g := by
  unfold psum
  rw [← gs_add]
  exact gs_cong (fun k _ => by by_cases e : k = 0 <;> simp [e])
theorem ful2_rng {n : Nat} {M : Nat → Nat → Int} (h : yst n M) {q : Nat} (h1 : 1 ≤ q) (h2 : q < n) : 0 ≤ ful2 n M q ∧ ful2 n M q ≤ 40 := by
  have a := h.2.1 q h1 h2
  have b := dg_le h.1 h2
  unfold ful2
  omega
theorem ful2_sum {n : Nat} {M : Nat → Nat → Int} (h : yst n M) : psum n (ful2 n M) ≤ 320 := by
  have a := psum_le (n := n) (f := ful2 n M) (c := 40) (by omega) (fun q h1 h2 => (ful2_rng h h1 h2).2)
  have b := h.1.2.1
  omega
theorem ful2_stl {n : Nat} {M : Nat → Nat → Int} (h : yst n M) : stl n M (ful2 n M) (stv n M (ful2 n M)) := by
  obtain ⟨v, hv⟩ := yst_first h (fun q h1 h2 => (ful2_rng h h1 h2).1) (by have := ful2_sum h; omega)
  exact stv_ok hv
theorem stl_nn {n : Nat} {M : Nat → Nat → Int} {g v : Nat → Int} (h : yst n M) (hg : ∀ q, 1 ≤ q → q < n → 0 ≤ g q) (hB : psum n g ≤ 1000000000) (hv : stl n M g v) {q : Nat} (h1 : 1 ≤ q) (h2 : q < n) : 0 ≤ af n M g v q ∧ af n M g v q ≤ dg n M q - 1 := by
  obtain ⟨s0, -, h0⟩ := h.2.2 g hg hB
  have ho := onw_its h.1 up1_in hg s0
  have e := stl_one hv (sw_still h.1 up1_in up1_all h.2.1 ho h0)
  have a := ho.2.2.2.2.1 q h1 h2
  rw [← e] at a
  have b := hv.2.2.2.1 q h1 h2
  omega
theorem lft_rng {n : Nat} {M : Nat → Nat → Int} (h : yst n M) {q : Nat} (h1 : 1 ≤ q) (h2 : q < n) : dg n M q - 1 ≤ lft n M q ∧ lft n M q ≤ 40 := by
  have a := stl_nn h (fun q h1 h2 => (ful2_rng h h1 h2).1) (by have := ful2_sum h; omega) (ful2_stl h) h1 h2
  have b := ful2_rng h h1 h2
  have c := dg_le h.1 h2
  unfold lft
  have : ful2 n M q = 2 * (dg n M q - 1) := rfl
  omega
theorem lft_sum {n : Nat} {M : Nat → Nat → Int} (h : yst n M) : psum n (lft n M) ≤ 320 := by
  have a := psum_le (n := n) (f := lft n M) (c := 40) (by omega) (fun q h1 h2 => (lft_rng h h1 h2).2)
  have b := h.1.2.1
  omega
def KindsAt (ty : Nat → ClassId) (ad : Nat → Nat) (ct : rm_C) (ko : Nat) (fu li so fa : Nat → Int) (T : Nat → Nat → Int) : Prop :=
  ct ko = some (.inr (2, [.ref (ad (ko + 1)), .ref (ad (ko + 2)), .ref (ad (ko + 3)), .ref (ad (ko + 4)), .ref (ad (ko + 5)), .ref (ad (ko + 6))])) ∧
  ct (ko + 1) = some (rl ty 8 (fun _ => 0)) ∧ ct (ko + 2) = some (rl ty 8 fu) ∧ ct (ko + 3) = some (rl ty 8 li) ∧ ct (ko + 4) = some (rl ty 8 so) ∧ ct (ko + 5) = some (rl ty 8 fa) ∧
  ct (ko + 6) = some (rq ty 6 8 (fun i => if i < 8 then some (ad (ko + 6 + 1 + i)) else none)) ∧ ∀ i, i < 8 → ct (ko + 6 + 1 + i) = some (rl ty 8 (T i))
def fulr (i : Nat) (d fu : Nat → Int) : Nat → Int := fun q => if 1 ≤ q ∧ q < i then d q - 1 else fu q
end KindsPic
