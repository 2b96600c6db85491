/-! Calls of what may throw, in a method without handlers: what is thrown goes on -/
section RmThrowCalls
variable {p : Program} {l : Launch} {e : Env} {R : Room} {s : State} {m : MethodId} {args : Array Value} {below : List Frame} {meth : Method} {c : Code} {H : Heap} {locs : List Loc} {cells slots : Nat}
variable {cc : ByteArray} {pc : Nat} {ls : Array Slot} {rest st0 : List Value} {D : va_G} {ty : Nat → ClassId} {ad : Nat → Nat} {ct ct0 : rm_C} {a : Array Value} {mc ms mc0 ms0 : Nat} {px px0 : String → rm_C → Prop} {Qc : Array Value → State → Outcome → State → Prop}
theorem rm_preVX (hK : va_K D vwCl (rm_tys ty) s) (hN : rm_N s) (hE : rm_E s) {A : Nat → Prop} (hU : rm_U A s s.heap) (hW : rm_W D ad ct A H) {locs : List Loc} (hS : va_S A s.heap H locs) (hA : ∀ q, s.heap.size ≤ q → A q) {r ci : Nat} {fs : List Value} {q : vw_C} (hr : ct r = some (.inr (ci, fs))) (hc : vwCl[ci]? = some q) {As : List Value} : PreV s H q.1 (ad r) (rm_PX D ty ad ct H.size (.ref (ad r) :: As)) As :=
  ⟨rm_blindX D ty ad ct H.size _, va_recv hK (hW.P hr) hc (q0 := 0) rfl, fun U hU2 hw => ⟨rfl, ⟨by rw [hU2], by rw [hU2]; exact hW.any, va_K.moved hw.alike hK, hN.warm hw⟩, hE.warm hw, by rw [hU2]; exact ((hU.moved hw.alike).kept hS.2.1).narrow (hW.sub hS hA)⟩⟩
theorem rm_preSX (hK : va_K D vwCl (rm_tys ty) s) (hN : rm_N s) (hE : rm_E s) {A : Nat → Prop} (hU : rm_U A s s.heap) (hW : rm_W D ad ct A H) {locs : List Loc} (hS : va_S A s.heap H locs) (hA : ∀ q, s.heap.size ≤ q → A q) {As : List Value} : PreS s H (rm_PX D ty ad ct H.size As) As :=
  ⟨rm_blindX D ty ad ct H.size _, fun U hU2 hw => ⟨rfl, ⟨by rw [hU2], by rw [hU2]; exact hW.any, va_K.moved hw.alike hK, hN.warm hw⟩, hE.warm hw, by rw [hU2]; exact ((hU.moved hw.alike).kept hS.2.1).narrow (hW.sub hS hA)⟩⟩
theorem rm_xout {H0 : Heap} (hW : rm_W D ad ct (rm_A ad ct0 s.heap.size) H0) (hS : va_S (rm_A ad ct0 s.heap.size) s.heap H0 locs) (hA : ∀ q, s.heap.size ≤ q → rm_A ad ct0 s.heap.size q) (hout : ∀ x ∈ c.exceptionTable.toList, False) (hlocks : meth.locks = false) (hpx : ∀ E ct1, px E ct1 → px0 E ct1) (hc : cells ≤ mc0) (hs : slots ≤ ms0)
    {E : String} {ce : Cell} {q9 : Addr} {u : String × rm_C} {t : State} {H1 : Heap} {locs1 : List Loc} (ht : t.heap = H1) (hp : px u.1 u.2) (hB : E = u.1 ∧ rm_W D ad u.2 (rm_A ad ct H0.size) t.heap) (hS1 : va_S (rm_A ad ct0 s.heap.size) s.heap H1 locs1) (hce : H1[q9]? = some ce) (hcv : ce.vm = .none) (hcl : s.vm.findClass E = some ce.cls) :
    vx_W p l e R s m args below meth c H1 locs1 cells slots (vx_MQ below Qc (rm_XC D ad ct0 s.heap.size px0) args s mc0 ms0 (rm_A ad ct0 s.heap.size)) (F0 m pc ls rest) q9 := by
  refine vx_out (fun x hx => (hout x hx).elim) hlocks hce hcv hcl (fun t' ht' hvm => ?_) hS1.2.2 hc hs
  rw [ht] at hB
  exact ⟨(u.1, u.2), hpx _ _ hp, ⟨hB.1, by rw [ht']; exact hB.2.to (hW.sub hS hA)⟩, hS1.F ht'⟩
theorem rm_xcallv {N : Nat} {post : rm_C → Prop} (hr : vx_Run p l e R s m args below meth c H locs cells slots mc ms (F0 m pc ls st0) rest (rm_Qv D ad ct H.size N post a) (rm_XC D ad ct H.size px) (rm_A ad ct H.size)) (hW : rm_W D ad ct (rm_A ad ct0 s.heap.size) H) (hS : va_S (rm_A ad ct0 s.heap.size) s.heap H locs) (hA : ∀ q, s.heap.size ≤ q → rm_A ad ct0 s.heap.size q) (hout : ∀ x ∈ c.exceptionTable.toList, False) (hlocks : meth.locks = false) (hpx : ∀ E ct1, px E ct1 → px0 E ct1) (hc : cells + mc ≤ mc0) (hs : slots + ms ≤ ms0)
    (kk : ∀ (ct1 : rm_C) (H1 : Heap) (locs1 : List Loc), post ct1 → rm_W D ad ct1 (rm_A ad ct0 s.heap.size) H1 → va_S (rm_A ad ct0 s.heap.size) s.heap H1 locs1 → (N = 0 ∨ H1.size = H.size + N) → W p l e R s m args below meth c H1 locs1 (cells + mc) (slots + ms) (vx_MQ below Qc (rm_XC D ad ct0 s.heap.size px0) args s mc0 ms0 (rm_A ad ct0 s.heap.size)) (F0 m (pc + 3) ls rest)) : W p l e R s m args below meth c H locs cells slots (vx_MQ below Qc (rm_XC D ad ct0 s.heap.size px0) args s mc0 ms0 (rm_A ad ct0 s.heap.size)) (F0 m pc ls st0) :=
  vx_callv hr hS (fun q _ h => hW.sub hS hA q h) (hW.sub hS hA) (fun q _ h => hW.sub hS hA q h) (fun E ce q9 u t H1 locs1 ht hvm hp hB _ _ hS1 hce hcv hcl => rm_xout hW hS hA hout hlocks hpx hc hs ht hp hB hS1 hce hcv hcl) (fun u t H1 locs1 ht hvm hp hB _ _ hS1 => by
    rw [ht] at hB
    exact kk u H1 locs1 hp (hB.1.to (hW.sub hS hA)) hS1 hB.2)
theorem rm_xcalli {post : Int → rm_C → Prop} (hr : vx_Run p l e R s m args below meth c H locs cells slots mc ms (F0 m pc ls st0) rest (rm_Qi D ad ct H.size post a) (rm_XC D ad ct H.size px) (rm_A ad ct H.size)) (hW : rm_W D ad ct (rm_A ad ct0 s.heap.size) H) (hS : va_S (rm_A ad ct0 s.heap.size) s.heap H locs) (hA : ∀ q, s.heap.size ≤ q → rm_A ad ct0 s.heap.size q) (hout : ∀ x ∈ c.exceptionTable.toList, False) (hlocks : meth.locks = false) (hpx : ∀ E ct1, px E ct1 → px0 E ct1) (hc : cells + mc ≤ mc0) (hs : slots + ms ≤ ms0)
    (kk : ∀ (z : Int) (ct1 : rm_C) (H1 : Heap) (locs1 : List Loc), post z ct1 → rm_W D ad ct1 (rm_A ad ct0 s.heap.size) H1 → va_S (rm_A ad ct0 s.heap.size) s.heap H1 locs1 → W p l e R s m args below meth c H1 locs1 (cells + mc) (slots + ms) (vx_MQ below Qc (rm_XC D ad ct0 s.heap.size px0) args s mc0 ms0 (rm_A ad ct0 s.heap.size)) (F0 m (pc + 3) ls (.int (jI z) :: rest))) : W p l e R s m args below meth c H locs cells slots (vx_MQ below Qc (rm_XC D ad ct0 s.heap.size px0) args s mc0 ms0 (rm_A ad ct0 s.heap.size)) (F0 m pc ls st0) :=
  vx_calli hr hS (fun q _ h => hW.sub hS hA q h) (hW.sub hS hA) (fun q _ h => hW.sub hS hA q h) (fun E ce q9 u t H1 locs1 ht hvm hp hB _ _ hS1 hce hcv hcl => rm_xout hW hS hA hout hlocks hpx hc hs ht hp hB hS1 hce hcv hcl) (fun r u t H1 locs1 ht hvm hp hB _ _ hS1 => by
    rw [ht] at hB
    rw [hp.1]
    exact kk u.1 u.2 H1 locs1 hp.2 (hB.to (hW.sub hS hA)) hS1)
theorem rm_xcallr {post : Nat → rm_C → Prop} (hr : vx_Run p l e R s m args below meth c H locs cells slots mc ms (F0 m pc ls st0) rest (rm_Qr D ad ct H.size post a) (rm_XC D ad ct H.size px) (rm_A ad ct H.size)) (hW : rm_W D ad ct (rm_A ad ct0 s.heap.size) H) (hS : va_S (rm_A ad ct0 s.heap.size) s.heap H locs) (hA : ∀ q, s.heap.size ≤ q → rm_A ad ct0 s.heap.size q) (hout : ∀ x ∈ c.exceptionTable.toList, False) (hlocks : meth.locks = false) (hpx : ∀ E ct1, px E ct1 → px0 E ct1) (hc : cells + mc ≤ mc0) (hs : slots + ms ≤ ms0)
    (kk : ∀ (r : Nat) (ct1 : rm_C) (H1 : Heap) (locs1 : List Loc), post r ct1 → rm_W D ad ct1 (rm_A ad ct0 s.heap.size) H1 → va_S (rm_A ad ct0 s.heap.size) s.heap H1 locs1 → W p l e R s m args below meth c H1 locs1 (cells + mc) (slots + ms) (vx_MQ below Qc (rm_XC D ad ct0 s.heap.size px0) args s mc0 ms0 (rm_A ad ct0 s.heap.size)) (F0 m (pc + 3) ls (.ref (ad r) :: rest))) : W p l e R s m args below meth c H locs cells slots (vx_MQ below Qc (rm_XC D ad ct0 s.heap.size px0) args s mc0 ms0 (rm_A ad ct0 s.heap.size)) (F0 m pc ls st0) := by
  intro T hT X
  rcases hr T hT X with ⟨v, st₀, t, T', L, h0, X', hL, e1, e2, ⟨⟨u, a9, hv, hp, hB⟩, hF⟩, st⟩ | ⟨q, st₀, t, T', L, E, ce, h0, X', hL, e1, e2, ⟨u, hp, hB, hF⟩, hce, hcv, hcl, st⟩
  · cases hv
    obtain ⟨k1, k2, k3⟩ := vx_keep h0 e1 hS (fun q _ h => hW.sub hS hA q h) (hW.sub hS hA) hL hF
    have hB2 := hB.2
    rw [← e1] at hB2
    have h := kk u.1 u.2 T'.heap (locs ++ L) hp (hB2.to (hW.sub hS hA)) k3
    rw [← hB.1] at h
    obtain ⟨t2, a1, b1⟩ := h T' rfl X'
    exact ⟨t2, st t2 a1, b1⟩
  · obtain ⟨k1, k2, k3⟩ := vx_keep h0 e1 hS (fun q _ h => hW.sub hS hA q h) (hW.sub hS hA) hL hF
    obtain ⟨t2, a1, b1⟩ := rm_xout (pc := pc) (ls := ls) (rest := rest) (p := p) (l := l) (e := e) (R := R) (m := m) (args := args) (below := below) (Qc := Qc) hW hS hA hout hlocks hpx hc hs e1.symm hp hB k3 (by rw [e1]; exact hce) hcv hcl T' rfl X'
    exact ⟨t2, st.trans a1, b1⟩
end RmThrowCalls
