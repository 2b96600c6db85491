/-! The law's kit: a call with a part of the world, the rest kept; calls of what may throw, with handlers; wrappers -/
section LawKit
def cutC (ct : rm_C) : rm_C := fun q => if q < 1000 then ct q else none
def glue (c1 ct : rm_C) : rm_C := fun q => if q < 1000 then c1 q else ct q
theorem cutC_lo {ct : rm_C} {q : Nat} (h : q < 1000) : cutC ct q = ct q := if_pos h
theorem glue_lo {c1 ct : rm_C} {q : Nat} (h : q < 1000) : glue c1 ct q = c1 q := if_pos h
theorem glue_hi {c1 ct : rm_C} {q : Nat} (h : 1000 ≤ q) : glue c1 ct q = ct q := if_neg (by omega)
theorem cutC_some {ct : rm_C} {q : Nat} {e : va_E} (h : cutC ct q = some e) : q < 1000 ∧ ct q = some e := by
  unfold cutC at h
  by_cases k : q < 1000
  · rw [if_pos k] at h; exact ⟨k, h⟩
  · rw [if_neg k] at h; cases h
theorem cutW {D : va_G} {ad : Nat → Nat} {ct : rm_C} {A : Nat → Prop} {H : Heap} (h : rm_W D ad ct A H) : rm_W D ad (cutC ct) A H :=
  ⟨fun r e hr => h.1 r e (cutC_some hr).2, fun r r' e e' h1 h2 => h.2 r r' e e' (cutC_some h1).2 (cutC_some h2).2⟩
theorem cutA {ad : Nat → Nat} {ct : rm_C} {n : Nat} {q : Nat} (h : rm_A ad (cutC ct) n q) : rm_A ad ct n q := by
  rcases h with ⟨r, e, h1, h2⟩ | h1
  · exact Or.inl ⟨r, e, (cutC_some h1).2, h2⟩
  · exact Or.inr h1
theorem glueW {D : va_G} {ad ad1 : Nat → Nat} {ct c1 : rm_C} {A : Nat → Prop} {H H1 : Heap} (hW : rm_W D ad ct A H) (h1 : rm_W D ad1 c1 (rm_A ad (cutC ct) H.size) H1) (hk : ∀ q : Nat, q < H.size → ¬ rm_A ad (cutC ct) H.size q → H1[q]? = H[q]?) (hA : ∀ q, rm_A ad (cutC ct) H.size q → A q) (ha : ∀ r, 1000 ≤ r → ad1 r = ad r) : rm_W D ad1 (glue c1 ct) A H1 := by
  have hno : ∀ r e, 1000 ≤ r → ct r = some e → ad r < H.size ∧ ¬ rm_A ad (cutC ct) H.size (ad r) := fun r e hr he => by
    refine ⟨hW.lt he, fun h => ?_⟩
    rcases h with ⟨r2, e2, g1, g2⟩ | g1
    · obtain ⟨k1, k2⟩ := cutC_some g1
      have := hW.2 r r2 e e2 he k2 g2
      omega
    · have := hW.lt he; omega
  refine ⟨fun r e hr => ?_, fun r r' e e' g1 g2 hh => ?_⟩
  · by_cases k : r < 1000
    · rw [glue_lo k] at hr
      obtain ⟨f1, f2⟩ := h1.1 r e hr
      exact ⟨f1, hA _ f2⟩
    · rw [glue_hi (by omega)] at hr
      obtain ⟨f1, f2⟩ := hW.1 r e hr
      obtain ⟨n1, n2⟩ := hno r e (by omega) hr
      rw [ha r (by omega)]
      exact ⟨f1.kept (hk _ n1 n2), f2⟩
  · by_cases k : r < 1000
    · rw [glue_lo k] at g1
      by_cases k' : r' < 1000
      · rw [glue_lo k'] at g2; exact h1.2 r r' e e' g1 g2 hh
      · rw [glue_hi (by omega)] at g2
        have f2 := (h1.1 r e g1).2
        rw [hh, ha r' (by omega)] at f2
        exact absurd f2 (hno r' e' (by omega) g2).2
    · rw [glue_hi (by omega)] at g1
      by_cases k' : r' < 1000
      · rw [glue_lo k'] at g2
        have f2 := (h1.1 r' e' g2).2
        rw [← hh, ha r (by omega)] at f2
        exact absurd f2 (hno r e (by omega) g1).2
      · rw [glue_hi (by omega)] at g2
        rw [ha r (by omega), ha r' (by omega)] at hh
        exact hW.2 r r' e e' g1 g2 hh
variable {p : Program} {l : Launch} {e : Env} {R : Room} {s : State} {m : MethodId} {args : Array Value} {below : List Frame} {meth : Method} {c : Code} {H : Heap} {locs : List Loc} {cells slots : Nat} {Q : State → Prop}
variable {cc : ByteArray} {pc : Nat} {ls : Array Slot} {rest st0 : List Value} {D : va_G} {A : Nat → Prop} {ty : Nat → ClassId} {ad : Nat → Nat} {ct : rm_C} {H0 : Heap} {a : Array Value} {mc ms : Nat} {px : String → rm_C → Prop}
theorem xc_i {post : Int → rm_C → Prop} (hr : vx_Run p l e R s m args below meth c H locs cells slots mc ms (F0 m pc ls st0) rest (rm_Qi D ad (cutC ct) H.size post a) (rm_XC D ad (cutC ct) H.size px) (rm_A ad (cutC ct) H.size)) (hW : rm_W D ad ct A H) (hS : va_S A H0 H locs) (hA : ∀ q, H0.size ≤ q → A q)
    (kx : ∀ (E : String) (c1 : rm_C) (ce : Cell) (q9 : Addr) (H1 : Heap) (locs1 : List Loc), px E c1 → rm_W D ad (glue c1 ct) A H1 → va_S A H0 H1 locs1 → H1[q9]? = some ce → ce.vm = .none → s.vm.findClass E = some ce.cls → vx_W p l e R s m args below meth c H1 locs1 (cells + mc) (slots + ms) Q (F0 m pc ls rest) q9)
    (kk : ∀ (z : Int) (c1 : rm_C) (H1 : Heap) (locs1 : List Loc), post z c1 → rm_W D ad (glue c1 ct) A H1 → va_S A H0 H1 locs1 → W p l e R s m args below meth c H1 locs1 (cells + mc) (slots + ms) Q (F0 m (pc + 3) ls (.int (jI z) :: rest))) : W p l e R s m args below meth c H locs cells slots Q (F0 m pc ls st0) :=
  vx_calli hr hS (fun q _ h => hW.sub hS hA q (cutA h)) (fun q h => hW.sub hS hA q (cutA h)) (fun q _ h => hW.sub hS hA q (cutA h)) (fun E ce q9 u t H1 locs1 ht hvm hp hB hz hk hS1 hce hcv hcl => by
    rw [ht] at hB
    obtain ⟨hB1, hB2⟩ := hB
    subst hB1
    exact kx u.1 u.2 ce q9 H1 locs1 hp (glueW hW hB2 hk (fun q h => hW.sub hS hA q (cutA h)) (fun _ _ => rfl)) hS1 hce hcv hcl) (fun r u t H1 locs1 ht hvm hp hB hz hk hS1 => by
    rw [ht] at hB
    rw [hp.1]
    exact kk u.1 u.2 H1 locs1 hp.2 (glueW hW hB hk (fun q h => hW.sub hS hA q (cutA h)) (fun _ _ => rfl)) hS1)
theorem xc_l {post : Int → rm_C → Prop} (hr : vx_Run p l e R s m args below meth c H locs cells slots mc ms (F0 m pc ls st0) rest (rm_Ql D ad (cutC ct) H.size post a) (rm_XC D ad (cutC ct) H.size px) (rm_A ad (cutC ct) H.size)) (hW : rm_W D ad ct A H) (hS : va_S A H0 H locs) (hA : ∀ q, H0.size ≤ q → A q)
    (kx : ∀ (E : String) (c1 : rm_C) (ce : Cell) (q9 : Addr) (H1 : Heap) (locs1 : List Loc), px E c1 → rm_W D ad (glue c1 ct) A H1 → va_S A H0 H1 locs1 → H1[q9]? = some ce → ce.vm = .none → s.vm.findClass E = some ce.cls → vx_W p l e R s m args below meth c H1 locs1 (cells + mc) (slots + ms) Q (F0 m pc ls rest) q9)
    (kk : ∀ (z : Int) (c1 : rm_C) (H1 : Heap) (locs1 : List Loc), post z c1 → rm_W D ad (glue c1 ct) A H1 → va_S A H0 H1 locs1 → W p l e R s m args below meth c H1 locs1 (cells + mc) (slots + ms) Q (F0 m (pc + 3) ls (.long (jL z) :: rest))) : W p l e R s m args below meth c H locs cells slots Q (F0 m pc ls st0) :=
  vx_calll hr hS (fun q _ h => hW.sub hS hA q (cutA h)) (fun q h => hW.sub hS hA q (cutA h)) (fun q _ h => hW.sub hS hA q (cutA h)) (fun E ce q9 u t H1 locs1 ht hvm hp hB hz hk hS1 hce hcv hcl => by
    rw [ht] at hB
    obtain ⟨hB1, hB2⟩ := hB
    subst hB1
    exact kx u.1 u.2 ce q9 H1 locs1 hp (glueW hW hB2 hk (fun q h => hW.sub hS hA q (cutA h)) (fun _ _ => rfl)) hS1 hce hcv hcl) (fun r u t H1 locs1 ht hvm hp hB hz hk hS1 => by
    rw [ht] at hB
    rw [hp.1]
    exact kk u.1 u.2 H1 locs1 hp.2 (glueW hW hB hk (fun q h => hW.sub hS hA q (cutA h)) (fun _ _ => rfl)) hS1)
theorem xc_v {post : rm_C → Prop} (hr : vx_Run p l e R s m args below meth c H locs cells slots mc ms (F0 m pc ls st0) rest (rm_Qv D ad (cutC ct) H.size 0 post a) (rm_XC D ad (cutC ct) H.size px) (rm_A ad (cutC ct) H.size)) (hW : rm_W D ad ct A H) (hS : va_S A H0 H locs) (hA : ∀ q, H0.size ≤ q → A q)
    (kx : ∀ (E : String) (c1 : rm_C) (ce : Cell) (q9 : Addr) (H1 : Heap) (locs1 : List Loc), px E c1 → rm_W D ad (glue c1 ct) A H1 → va_S A H0 H1 locs1 → H1[q9]? = some ce → ce.vm = .none → s.vm.findClass E = some ce.cls → vx_W p l e R s m args below meth c H1 locs1 (cells + mc) (slots + ms) Q (F0 m pc ls rest) q9)
    (kk : ∀ (c1 : rm_C) (H1 : Heap) (locs1 : List Loc), post c1 → rm_W D ad (glue c1 ct) A H1 → va_S A H0 H1 locs1 → W p l e R s m args below meth c H1 locs1 (cells + mc) (slots + ms) Q (F0 m (pc + 3) ls rest)) : W p l e R s m args below meth c H locs cells slots Q (F0 m pc ls st0) :=
  vx_callv hr hS (fun q _ h => hW.sub hS hA q (cutA h)) (fun q h => hW.sub hS hA q (cutA h)) (fun q _ h => hW.sub hS hA q (cutA h)) (fun E ce q9 u t H1 locs1 ht hvm hp hB hz hk hS1 hce hcv hcl => by
    rw [ht] at hB
    obtain ⟨hB1, hB2⟩ := hB
    subst hB1
    exact kx u.1 u.2 ce q9 H1 locs1 hp (glueW hW hB2 hk (fun q h => hW.sub hS hA q (cutA h)) (fun _ _ => rfl)) hS1 hce hcv hcl) (fun u t H1 locs1 ht hvm hp hB hz hk hS1 => by
    rw [ht] at hB
    exact kk u H1 locs1 hp (glueW hW hB.1 hk (fun q h => hW.sub hS hA q (cutA h)) (fun _ _ => rfl)) hS1)
theorem xc_a {post : Int → rm_C → (Nat → Nat) → Prop} (hr : vx_Run p l e R s m args below meth c H locs cells slots mc ms (F0 m pc ls st0) rest (rm_Qia D ad (cutC ct) H.size post a) (rm_XC D ad (cutC ct) H.size px) (rm_A ad (cutC ct) H.size)) (hW : rm_W D ad ct A H) (hS : va_S A H0 H locs) (hA : ∀ q, H0.size ≤ q → A q) (hpa : ∀ z c1 ad1, post z c1 ad1 → ∀ r, 1000 ≤ r → ad1 r = ad r)
    (kx : ∀ (E : String) (c1 : rm_C) (ce : Cell) (q9 : Addr) (H1 : Heap) (locs1 : List Loc), px E c1 → rm_W D ad (glue c1 ct) A H1 → va_S A H0 H1 locs1 → H1[q9]? = some ce → ce.vm = .none → s.vm.findClass E = some ce.cls → vx_W p l e R s m args below meth c H1 locs1 (cells + mc) (slots + ms) Q (F0 m pc ls rest) q9)
    (kk : ∀ (z : Int) (c1 : rm_C) (ad1 : Nat → Nat) (H1 : Heap) (locs1 : List Loc), post z c1 ad1 → rm_W D ad1 (glue c1 ct) A H1 → va_S A H0 H1 locs1 → W p l e R s m args below meth c H1 locs1 (cells + mc) (slots + ms) Q (F0 m (pc + 3) ls (.int (jI z) :: rest))) : W p l e R s m args below meth c H locs cells slots Q (F0 m pc ls st0) :=
  vx_calli hr hS (fun q _ h => hW.sub hS hA q (cutA h)) (fun q h => hW.sub hS hA q (cutA h)) (fun q _ h => hW.sub hS hA q (cutA h)) (fun E ce q9 u t H1 locs1 ht hvm hp hB hz hk hS1 hce hcv hcl => by
    rw [ht] at hB
    obtain ⟨hB1, hB2⟩ := hB
    subst hB1
    exact kx u.1 u.2 ce q9 H1 locs1 hp (glueW hW hB2 hk (fun q h => hW.sub hS hA q (cutA h)) (fun _ _ => rfl)) hS1 hce hcv hcl) (fun r u t H1 locs1 ht hvm hp hB hz hk hS1 => by
    rw [ht] at hB
    rw [hp.1]
    exact kk u.1 u.2.1 u.2.2 H1 locs1 hp.2 (glueW hW hB hk (fun q h => hW.sub hS hA q (cutA h)) (hpa _ _ _ hp.2)) hS1)
/-- what the wrappers' starts add: what isn't caught as another thing -/
def rm_X2 (U : State) : Prop := va_Nc xISE xNSE U ∧ va_Nc xIAE xNSE U
theorem rm_X2.moved {u U : State} (hvm : u.vm.Alike U.vm) (h : rm_X2 u) : rm_X2 U := ⟨va_Nc.moved hvm h.1, va_Nc.moved hvm h.2⟩
def rm_PY (D : va_G) (ty : Nat → ClassId) (ad : Nat → Nat) (ct : rm_C) (sz : Nat) (av : List Value) : Array Value → State → Prop := va_Pc av (fun U => ((U.heap.size = sz ∧ rm_W D ad ct (fun _ => True) U.heap ∧ va_K D vwCl (rm_tys ty) U ∧ rm_N U) ∧ rm_E U ∧ rm_U (rm_A ad ct sz) U U.heap) ∧ rm_X2 U)
theorem rm_blindY (D : va_G) (ty : Nat → ClassId) (ad : Nat → Nat) (ct : rm_C) (sz : Nat) (av : List Value) : FrameBlind (rm_PY D ty ad ct sz av) := fun a U g mk q => by
  obtain ⟨q0, ⟨⟨q1, qW, qK, qN⟩, qE, qU⟩, q2⟩ := q
  exact ⟨q0, ⟨⟨q1, qW, va_K.moved (u := U) (U := U.calling g mk a) (Vm.Alike.refl U.vm) qK, qN.same rfl⟩, rm_E.same (u := U) (U := U.calling g mk a) rfl qE, rm_U.moved (u := U) (U := U.calling g mk a) (Vm.Alike.refl U.vm) qU⟩, rm_X2.moved (u := U) (U := U.calling g mk a) (Vm.Alike.refl U.vm) q2⟩
theorem rm_preSY (hK : va_K D vwCl (rm_tys ty) s) (hN : rm_N s) (hE : rm_E s) (hX : rm_X2 s) {A : Nat → Prop} (hU : rm_U A s s.heap) (hW : rm_W D ad ct A H) {locs : List Loc} (hS : va_S A s.heap H locs) (hA : ∀ q, s.heap.size ≤ q → A q) {As : List Value} : PreS s H (rm_PY D ty ad ct H.size As) As :=
  ⟨rm_blindY D ty ad ct H.size _, fun U hU2 hw => ⟨rfl, ⟨⟨by rw [hU2], by rw [hU2]; exact hW.any, va_K.moved hw.alike hK, hN.warm hw⟩, hE.warm hw, by rw [hU2]; exact ((hU.moved hw.alike).kept hS.2.1).narrow (hW.sub hS hA)⟩, hX.moved hw.alike⟩⟩
/-- a wrapper's receiver: the class's own part of the world -/
theorem preVY (hK : va_K D vwCl (rm_tys ty) s) (hN : rm_N s) (hE : rm_E s) {A : Nat → Prop} (hU : rm_U A s s.heap) (hW : rm_W D ad ct A H) {locs : List Loc} (hS : va_S A s.heap H locs) (hA : ∀ q, s.heap.size ≤ q → A q) {fs : List Value} (h0 : ct 0 = some (.inr (5, fs))) {As : List Value} : PreV s H RX5 (ad 0) (rm_PX D ty ad (cutC ct) H.size (.ref (ad 0) :: As)) As :=
  rm_preVX hK hN hE hU (cutW hW) hS hA (r := 0) (ci := 5) (fs := fs) (q := (RX5, TX5, 7)) ((cutC_lo (by omega)).trans h0) rfl
theorem cast_of {E : String} (hE : rm_E s) (hw : Cond.castable E E ∈ rm_B) : (Cond.castable E E).before args s = true := by
  refine va_tabs (u := s) (U := s) ?_ rfl (hE.1 _ hw)
  rfl
/-- the wrapper's call of the law: it gives 0 with the answer, or the number of the clause -/
theorem yc_i {post : Int → rm_C → Prop} (hr : vx_Run p l e R s m args below meth c H locs cells slots mc ms (F0 m pc ls st0) rest (rm_Qi D ad ct H.size post a) (rm_XC D ad ct H.size (fun _ _ => False)) (rm_A ad ct H.size)) (hW : rm_W D ad ct A H) (hS : va_S A H0 H locs) (hA : ∀ q, H0.size ≤ q → A q)
    (kk : ∀ (z : Int) (ct1 : rm_C) (H1 : Heap) (locs1 : List Loc), post z ct1 → rm_W D ad ct1 A H1 → va_S A H0 H1 locs1 → W p l e R s m args below meth c H1 locs1 (cells + mc) (slots + ms) Q (F0 m (pc + 3) ls (.int (jI z) :: rest))) : W p l e R s m args below meth c H locs cells slots Q (F0 m pc ls st0) :=
  vx_calli hr hS (fun q _ h => hW.sub hS hA q h) (hW.sub hS hA) (fun q _ h => hW.sub hS hA q h) (fun E ce q9 u t H1 locs1 ht hvm hp hB hz hk hS1 hce hcv hcl => hp.elim) (fun r u t H1 locs1 ht hvm hp hB hz hk hS1 => by
    rw [ht] at hB
    rw [hp.1]
    exact kk u.1 u.2 H1 locs1 hp.2 (hB.to (hW.sub hS hA)) hS1)
theorem yc_a {post : Int → rm_C → (Nat → Nat) → Prop} (hr : vx_Run p l e R s m args below meth c H locs cells slots mc ms (F0 m pc ls st0) rest (rm_Qia D ad ct H.size post a) (rm_XC D ad ct H.size (fun _ _ => False)) (rm_A ad ct H.size)) (hW : rm_W D ad ct A H) (hS : va_S A H0 H locs) (hA : ∀ q, H0.size ≤ q → A q)
    (kk : ∀ (z : Int) (ct1 : rm_C) (ad1 : Nat → Nat) (H1 : Heap) (locs1 : List Loc), post z ct1 ad1 → rm_W D ad1 ct1 A H1 → va_S A H0 H1 locs1 → W p l e R s m args below meth c H1 locs1 (cells + mc) (slots + ms) Q (F0 m (pc + 3) ls (.int (jI z) :: rest))) : W p l e R s m args below meth c H locs cells slots Q (F0 m pc ls st0) :=
  vx_calli hr hS (fun q _ h => hW.sub hS hA q h) (hW.sub hS hA) (fun q _ h => hW.sub hS hA q h) (fun E ce q9 u t H1 locs1 ht hvm hp hB hz hk hS1 hce hcv hcl => hp.elim) (fun r u t H1 locs1 ht hvm hp hB hz hk hS1 => by
    rw [ht] at hB
    rw [hp.1]
    exact kk u.1 u.2.1 u.2.2 H1 locs1 hp.2 (hB.to (hW.sub hS hA)) hS1)
end LawKit
