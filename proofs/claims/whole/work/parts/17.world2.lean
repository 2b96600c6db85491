/-! the world by roles: what is made, references stored, calls -/
section RmMake
variable {p : Program} {l : Launch} {e : Env} {R : Room} {s : State} {m : MethodId} {args : Array Value} {below : List Frame} {meth : Method} {c : Code} {H : Heap} {locs : List Loc} {cells slots : Nat} {Q : State → Prop}
variable {cc : ByteArray} {pc : Nat} {ls : Array Slot} {rest : List Value} {D : va_G} {A : Nat → Prop} {ty : Nat → ClassId} {ad : Nat → Nat} {ct : rm_C} {H0 : Heap}
theorem rm_zast (hexec : p.tables.exec = Jvm.exec) (hb : c.code = cc) (hK : va_K D vwCl (rm_tys ty) s) (hW : rm_W D ad ct A H) (hS : va_S A H0 H locs) {r n : Nat} {f : Nat → Int} (hr : ct r = some (rz ty n f)) {z x : Int} (hx1 : jI x &&& 1 = jI x) (j : Nat) (hz : z = (j : Int)) (hj : j < n) (hn : n < 2147483648) (hdg : decode cc pc = .ok (.bastore, 1))
    (kk : ∀ (H1 : Heap) (locs1 : List Loc) (ct1 : rm_C), ct1 r = some (rz ty n (ub f j x)) → (∀ q, q ≠ r → ct1 q = ct q) → rm_W D ad ct1 A H1 → va_S A H0 H1 locs1 → H1.size = H.size → W p l e R s m args below meth c H1 locs1 cells slots Q (F0 m (pc + 1) ls rest)) : W p l e R s m args below meth c H locs cells slots Q (F0 m pc ls (.int (jI x) :: .int (jI z) :: .ref (ad r) :: rest)) := by
  have hcl := jI_cl hz (show j < 2147483648 by omega)
  have hin := jI_in hz hj hn
  refine W.zast hexec hb (hW.1 r _ hr).1 ((hK.2 2 _ rfl).1 n (fun j => .int (jI (f j)))) (fun q => by cases q) (by show ¬ (jI z < 0 ∨ (arrV _ _ _).slots.size ≤ _); rw [arrV_size]; exact hin) rfl rfl hdg fun H1 e z2 oq => ?_
  refine kk H1 _ _ (rm_up_s ct r _) (fun q hq => rm_up_n ct _ hq) (hW.set hr ?_ oq) (hS.put z2 oq (hW.1 r _ hr).2) z2
  show H1[ad r]? = some (vp_cell _ _)
  rw [e]
  show some ((vp_cell (ty 2) (n, .inl (fun k => jI (f k)))).setSlot (jI z).toNatClampNeg (narrow .boolean (Value.int (jI x)))) = some (vp_cell (ty 2) (n, .inl (fun k => jI (ub f j x k))))
  rw [vp_cell_i, vp_cell_i, arrV_store, hcl]
  congr 2
  funext q
  by_cases hq : q = j
  · subst hq
    simp [updV, ub, vp_nar, narrow, hx1]
  · simp [updV, ub, hq]
theorem rm_aast (hexec : p.tables.exec = Jvm.exec) (hb : c.code = cc) (hK : va_K D vwCl (rm_tys ty) s) (hW : rm_W D ad ct A H) (hS : va_S A H0 H locs) {r n k ci q1 : Nat} {rc : vw_C} {vs : List Value} {f : Nat → Option Nat} (hr : ct r = some (rq ty k n f)) (hk : (rm_tys ty)[k]? = some (ty k, .object rc.1)) (hv : ct q1 = some (.inr (ci, vs))) (hc : vwCl[ci]? = some rc) {z : Int} (j : Nat) (hz : z = (j : Int)) (hj : j < n) (hn : n < 2147483648) (hdg : decode cc pc = .ok (.aastore, 1))
    (kk : ∀ (H1 : Heap) (locs1 : List Loc) (ct1 : rm_C), ct1 r = some (rq ty k n (ub f j (some (ad q1)))) → (∀ q, q ≠ r → ct1 q = ct q) → rm_W D ad ct1 A H1 → va_S A H0 H1 locs1 → H1.size = H.size → W p l e R s m args below meth c H1 locs1 cells slots Q (F0 m (pc + 1) ls rest)) : W p l e R s m args below meth c H locs cells slots Q (F0 m pc ls (.ref (ad q1) :: .int (jI z) :: .ref (ad r) :: rest)) := by
  have hcl := jI_cl hz (show j < 2147483648 by omega)
  have h0 : ¬ jI z < 0 := by rw [hz]; exact jI_n0 (by omega)
  obtain ⟨r', hr', cellV, g1, g2, g3, -⟩ := (hW.1 q1 _ hv).1
  have hcls := (hK.1 ci rc hc).2
  obtain ⟨kA, comp, k1, k2, k3, -⟩ := (hK.2 k _ hk).2
  have hcomp : comp = D.1 ci := Option.some.inj (k3.symm.trans hcls.1)
  subst hcomp
  obtain ⟨kC, hkC, -⟩ := hcls.2
  refine W.aast hexec hb (hW.1 r _ hr).1 (fun q h => by cases h) (fun h => by cases h) k1 k2 rfl hkC ⟨h0, by show _ < (arrV _ _ _).slots.size; rw [arrV_size, hcl]; exact hj⟩ g1 (fun q h => by rw [g3] at h; cases h) (by rw [g2]; exact hkC) (by rw [g2]; exact va_assign hcls) rfl rfl hdg fun H1 e z2 oq => ?_
  refine kk H1 _ _ (rm_up_s ct r _) (fun q hq => rm_up_n ct _ hq) (hW.set hr ?_ oq) (hS.put z2 oq (hW.1 r _ hr).2) z2
  show H1[ad r]? = some (vp_cell _ _)
  rw [e]
  show some ((vp_cell (ty k) (n, .inr (.inr (.inr (.inr f))))).setSlot (jI z).toNatClampNeg (Value.ref (ad q1))) = some (vp_cell (ty k) (n, .inr (.inr (.inr (.inr (ub f j (some (ad q1))))))))
  rw [vp_cell_q, vp_cell_q, arrV_store, hcl]
  congr 2
  funext q
  by_cases hq : q = j
  · subst hq
    simp [updV, ub, va_rf]
  · simp [updV, ub, hq]
theorem rm_S_new {A : Nat → Prop} {H0 H H1 : Heap} {locs : List Loc} {k : Nat} (hS : va_S A H0 H locs) (z1 : H1.size = H.size + k) (o1 : ∀ q : Nat, q < H.size → H1[q]? = H[q]?) : va_S A H0 H1 locs := ⟨Nat.le_trans hS.1 (by omega), fun x h1 h2 => (o1 x (Nat.lt_of_lt_of_le h1 hS.1)).trans (hS.2.1 x h1 h2), hS.2.2⟩
theorem rm_new {c0 : Code} (hexec : p.tables.exec = Jvm.exec) (hb : c0.code = cc) {own C : String} {T : u_T} {N ci index : Nat} {Ts : List Cond} (hts : ∀ w ∈ Ts, w.before args s = true) (hin : ∀ w ∈ u_ws C T N, w ∈ Ts) (fty : Nat → FieldType) (hty : ∀ k, k < N → parseFieldDescriptor (T k).2.2.1 = some (fty k)) (hown : s.vm.findClass own = some m.cls) (hcl : (Cond.classLink own index C).before args s = true) (hinst : (Cond.instantiable C N).before args s = true) (hini : (Cond.initialized C).before args s = true)
    (hK : va_K D vwCl (rm_tys ty) s) (hW : rm_W D ad ct A H) (hS : va_S A H0 H locs) (hA : ∀ q, H0.size ≤ q → A q) (hc : vwCl[ci]? = some (C, T, N)) {fs : List Value} (hfs : ∀ j, j < N → defaultValue (fty j) = vp_V fs j) (r : Nat) (hr : ct r = none) (had : ad r = H.size) (hcells : cells + 1 ≤ R.cells) (hslots : slots + N ≤ R.slots) (hdg : decode cc pc = .ok (.new index, 3))
    (kk : ∀ (H1 : Heap) (ct1 : rm_C), ct1 r = some (.inr (ci, fs)) → (∀ q, q ≠ r → ct1 q = ct q) → rm_W D ad ct1 A H1 → va_S A H0 H1 locs → H1.size = H.size + 1 →
      W p l e R s m args below meth c0 H1 locs (cells + 1) (slots + N) Q (F0 m (pc + 3) ls (.ref (ad r) :: rest))) : W p l e R s m args below meth c0 H locs cells slots Q (F0 m pc ls rest) := by
  have hKn := hK.1 ci _ hc
  refine W.newcK hexec hb hown hcl hinst hini rfl hdg hcells hslots hKn.2.1 rfl fun H1 kC hkC e1 z1 o1 => ?_
  have h := kk H1 _ (rm_up_s ct r _) (fun q hq => rm_up_n ct _ hq) (hW.new hr had (by rw [had]; exact hA _ hS.1) ⟨_, hc, by rw [had]; exact (u_born fty hts hin hKn hkC e1 hty).to hfs⟩ o1) (rm_S_new hS z1 o1) z1
  rw [had] at h
  exact h
theorem rm_newA (hexec : p.tables.exec = Jvm.exec) (hb : c.code = cc) {atype : ArrayType} (harr : (Cond.arrayClass (newarray.typeOf atype)).before args s = true) {fty : FieldType} (hty : newarray.typeOf atype = fty) (hK : va_K D vwCl (rm_tys ty) s) (hW : rm_W D ad ct A H) (hS : va_S A H0 H locs) (hA : ∀ q, H0.size ≤ q → A q) {k : Nat} (hk : (rm_tys ty)[k]? = some (ty k, fty)) (hno : ∀ C, fty ≠ .object C)
    {z : Int} {N' : Nat} {a0 : vp_A} (ha : ∀ cA : ClassId, vp_cell cA a0 = arrV cA N' (fun _ => defaultValue fty)) (hz : z = (N' : Int)) (hN : N' < 2147483648) (hbytes : N' * componentBytes fty ≤ 536870912) (r : Nat) (hr : ct r = none) (had : ad r = H.size) (hcells : cells + 1 ≤ R.cells) (hslots : slots + N' ≤ R.slots) (hdg : decode cc pc = .ok (.newarray atype, 2))
    (kk : ∀ (H1 : Heap) (ct1 : rm_C), ct1 r = some (.inl (ty k, a0)) → (∀ q, q ≠ r → ct1 q = ct q) → rm_W D ad ct1 A H1 → va_S A H0 H1 locs → H1.size = H.size + 1 →
      W p l e R s m args below meth c H1 locs (cells + 1) (slots + N') Q (F0 m (pc + 2) ls (.ref (ad r) :: rest))) : W p l e R s m args below meth c H locs cells slots Q (F0 m pc ls (.int (jI z) :: rest)) := by
  subst hty
  refine va_newaK hexec hb harr rfl hdg rfl (by rw [hz]; exact jI_n0 hN) (jI_cl hz hN) hbytes hcells hslots rfl fun H1 cA e1 z1 o1 hAr hNm => ?_
  have hcA : cA = ty k := by
    have h2 := (hK.2 k _ hk).2
    have h3 : s.vm.findClass ("[" ++ (newarray.typeOf atype).toString) = some (ty k) := by cases atype <;> exact h2
    exact Option.some.inj (hNm.symm.trans h3)
  subst hcA
  have h := kk H1 _ (rm_up_s ct r _) (fun q hq => rm_up_n ct _ hq) (hW.new hr had (by rw [had]; exact hA _ hS.1) (by
    show H1[ad r]? = some (vp_cell _ _)
    rw [ha, had]
    exact e1) o1) (rm_S_new hS z1 o1) z1
  rw [had] at h
  exact h
theorem rm_newQ (hexec : p.tables.exec = Jvm.exec) (hb : c.code = cc) {own C : String} {index : Nat} (hown : s.vm.findClass own = some m.cls) (hclink : (Cond.classLink own index C).before args s = true) (hover : (Cond.arrayOver (.object C)).before args s = true) (hK : va_K D vwCl (rm_tys ty) s) (hW : rm_W D ad ct A H) (hS : va_S A H0 H locs) (hA : ∀ q, H0.size ≤ q → A q) {k : Nat} (hk : (rm_tys ty)[k]? = some (ty k, .object C))
    {z : Int} {N' : Nat} (hz : z = (N' : Int)) (hN : N' < 2147483648) (hbytes : N' * 4 ≤ 536870912) (r : Nat) (hr : ct r = none) (had : ad r = H.size) (hcells : cells + 1 ≤ R.cells) (hslots : slots + N' ≤ R.slots) (hdg : decode cc pc = .ok (.anewarray index, 3))
    (kk : ∀ (H1 : Heap) (ct1 : rm_C), ct1 r = some (rq ty k N' (fun _ => none)) → (∀ q, q ≠ r → ct1 q = ct q) → rm_W D ad ct1 A H1 → va_S A H0 H1 locs → H1.size = H.size + 1 →
      W p l e R s m args below meth c H1 locs (cells + 1) (slots + N') Q (F0 m (pc + 3) ls (.ref (ad r) :: rest))) : W p l e R s m args below meth c H locs cells slots Q (F0 m pc ls (.int (jI z) :: rest)) := by
  have hcl := jI_cl hz hN
  refine W.anew hexec hb hown hclink hover rfl hdg rfl (by rw [hz]; exact jI_n0 hN) (by rw [hcl]; exact hbytes) hcells (by rw [hcl]; exact hslots) fun cA kA comp f1 f2 f3 f4 => ?_
  rw [hcl]
  generalize hH1 : H.push ({ cls := cA, slots := Array.replicate N' .null, vm := .none } : Cell) = H1
  have z1 : H1.size = H.size + 1 := by rw [← hH1, Array.size_push]
  have e1 : H1[H.size]? = some (arrV cA N' (fun _ => .null)) := by rw [← hH1, Array.getElem?_push_size, ← arrV_new]
  have o1 : ∀ q : Nat, q < H.size → H1[q]? = H[q]? := fun q hq => by rw [← hH1, Array.getElem?_push, if_neg (Nat.ne_of_lt hq)]
  have hcA : cA = ty k := by
    obtain ⟨kA', comp', k1, k2, k3, k4⟩ := (hK.2 k _ hk).2
    exact Option.some.inj (f1.symm.trans k4)
  subst hcA
  have h := kk H1 _ (rm_up_s ct r _) (fun q hq => rm_up_n ct _ hq) (hW.new hr had (by rw [had]; exact hA _ hS.1) (by
    show H1[ad r]? = some (vp_cell _ _)
    show H1[ad r]? = some (vp_cell (ty k) (N', .inr (.inr (.inr (.inr (fun _ => none))))))
    rw [vp_cell_q, had]
    exact e1) o1) (rm_S_new hS z1 o1) z1
  rw [had] at h
  exact h
end RmMake
section RmMna
variable {p : Program} {l : Launch} {e : Env} {R : Room} {s : State} {m : MethodId} {args : Array Value} {below : List Frame} {meth : Method} {c : Code} {H : Heap} {locs : List Loc} {cells slots : Nat} {Q : State → Prop}
variable {cc : ByteArray} {pc : Nat} {ls : Array Slot} {rest : List Value} {D : va_G} {A : Nat → Prop} {ty : Nat → ClassId} {ad : Nat → Nat} {ct : rm_C} {H0 : Heap}
/-- an outer row at role r, its N' inner rows at the N' roles behind it -/
def rm_grid (ct : rm_C) (r : Nat) (o : va_E) (N' : Nat) (e : va_E) : rm_C := fun q => if q = r then some o else if r < q ∧ q ≤ r + N' then some e else ct q
theorem rm_mna (hexec : p.tables.exec = Jvm.exec) (hb : c.code = cc) {own : String} {index : Nat} {fty : FieldType} (hown : s.vm.findClass own = some m.cls) (hclink : (Cond.classLink own index ("[" ++ (FieldType.array fty).toString)).before args s = true) (hover : (Cond.arrayOver (.array fty)).before args s = true) (harr : (Cond.arrayClass fty).before args s = true)
    (hK : va_K D vwCl (rm_tys ty) s) (hW : rm_W D ad ct A H) (hS : va_S A H0 H locs) (hA : ∀ q, H0.size ≤ q → A q) {ko ki : Nat} (hko : (rm_tys ty)[ko]? = some (ty ko, .array fty)) (hki : (rm_tys ty)[ki]? = some (ty ki, fty)) (hno : ∀ C, fty ≠ .object C) {z1 z2 : Int} {N' K' : Nat} {a0 : vp_A} (hz1 : z1 = (N' : Int)) (hz2 : z2 = (K' : Int)) (hN : N' < 2147483648) (hM : K' < 2147483648)
    (hb1 : N' * 4 ≤ 536870912) (hb2 : K' * componentBytes fty ≤ 536870912) (hb3 : K' ≤ 536870912) (hdf : fits fty (defaultValue fty) = true) (hdd : (defaultValue fty).isDefault = true) (r : Nat) (hr : ∀ k, k ≤ N' → ct (r + k) = none) (had : ∀ k, k ≤ N' → ad (r + k) = H.size + k) (hcells : cells + (1 + N') ≤ R.cells) (hslots : slots + (N' + N' * K') ≤ R.slots) (ha0 : ∀ c : ClassId, Jvm.Free.Multi.innerC c K' (defaultValue fty) = vp_cell c a0) (hdg : decode cc pc = .ok (.multianewarray index 2, 4))
    (kk : ∀ (H1 : Heap) (ct1 : rm_C), ct1 r = some (rq ty ko N' (fun i => if i < N' then some (ad (r + 1 + i)) else none)) → (∀ i, i < N' → ct1 (r + 1 + i) = some (.inl (ty ki, a0))) → (∀ q, q < r ∨ r + N' < q → ct1 q = ct q) → rm_W D ad ct1 A H1 → va_S A H0 H1 locs → H1.size = H.size + (1 + N') →
      W p l e R s m args below meth c H1 locs (cells + 1 + N') (slots + N' + N' * K') Q (F0 m (pc + 4) ls (.ref (ad r) :: rest))) : W p l e R s m args below meth c H locs cells slots Q (F0 m pc ls (.int (jI z2) :: .int (jI z1) :: rest)) := by
  have c1 := jI_cl hz1 hN
  have c2 := jI_cl hz2 hM
  intro T hT Xs
  obtain ⟨vm₁, cA, comp, -, fA, fC, hO, -, X', step⟩ := Xs.multianewarray2F hexec hown hclink hover harr (g := F0 m pc ls (.int (jI z2) :: .int (jI z1) :: rest)) rfl (by rw [hb]; exact hdg) rfl (by rw [hz1]; exact jI_n0 hN) (by rw [hz2]; exact jI_n0 hM) (by rw [c1]; exact hb1) (by rw [c2]; exact hb2) (by rw [c2]; exact hb3) hdf hdd (by rw [c1]; exact hcells) (by rw [c1, c2]; exact hslots)
  rw [c1, c2] at X' step
  have eA : cA = ty ko := by
    have h2 := (hK.2 ko _ hko).2
    exact Option.some.inj (fA.symm.trans h2)
  have eC : comp = ty ki := by
    have h2 := (hK.2 ki _ hki).2
    have h3 : s.vm.findClass ("[" ++ fty.toString) = some (ty ki) := by
      cases fty with
      | object C => exact absurd rfl (hno C)
      | _ => exact h2
    exact Option.some.inj (fC.symm.trans h3)
  subst eA
  subst eC
  generalize hF : Jvm.Free.Multi.fill (T.setVm vm₁) (ty ko) (ty ki) N' K' (defaultValue fty) N' = F at X' step
  have hTh : (T.setVm vm₁).heap = H := hT
  obtain ⟨f1, f2, -, -⟩ := Jvm.Free.Multi.fill_facts (T.setVm vm₁) (ty ko) (ty ki) N' K' (defaultValue fty) N'
  rw [hF, hTh] at f1 f2
  have hold : ∀ x : Nat, x < H.size → F.heap[x]? = H[x]? := fun x hx => by
    have := Jvm.Free.Multi.fill_old (T.setVm vm₁) (ty ko) (ty ki) N' K' (defaultValue fty) (a := x) (by rw [hTh]; exact hx) N'
    rw [hF, hTh] at this
    exact this
  have hrow : ∀ j : Nat, j < N' → F.heap[H.size + 1 + j]? = some (vp_cell (ty ki) a0) := fun j hj => by
    have := Jvm.Free.Multi.fill_inner (T.setVm vm₁) (ty ko) (ty ki) N' K' (defaultValue fty) N' j hj
    rw [hF, hTh, ha0] at this
    exact this
  have hout : Jvm.Free.Multi.outerC (ty ko) N' H.size N' = vp_cell (ty ko) (N', .inr (.inr (.inr (.inr (fun i => if i < N' then some (H.size + 1 + i) else none))))) := by
    rw [vp_cell_q]
    exact vr_outer (ty ko) N' H.size N'
  rw [hout] at f2
  have hfun : (fun i => if i < N' then some (ad (r + 1 + i)) else none) = (fun i => if i < N' then some (H.size + 1 + i) else (none : Option Nat)) := funext fun i => by
    by_cases h : i < N'
    · rw [if_pos h, if_pos h, show r + 1 + i = r + (1 + i) by omega, had (1 + i) (by omega), Nat.add_assoc]
    · rw [if_neg h, if_neg h]
  have hsz : F.heap.size = H.size + (1 + N') := by rw [f1]; omega
  have hg : ∀ q e', rm_grid ct r (rq ty ko N' (fun i => if i < N' then some (ad (r + 1 + i)) else none)) N' (.inl (ty ki, a0)) q = some e' → (∃ k, k ≤ N' ∧ q = r + k ∧ ad q = H.size + k) ∨ (ct q = some e' ∧ ad q < H.size ∧ (q < r ∨ r + N' < q)) := fun q e' hq => by
    unfold rm_grid at hq
    by_cases h1 : q = r
    · exact Or.inl ⟨0, by omega, by omega, by rw [h1]; exact had 0 (by omega)⟩
    · rw [if_neg h1] at hq
      by_cases h2 : r < q ∧ q ≤ r + N'
      · exact Or.inl ⟨q - r, by omega, by omega, by rw [show q = r + (q - r) by omega, had (q - r) (by omega)]; congr 1; omega⟩
      · rw [if_neg h2] at hq
        exact Or.inr ⟨hq, hW.lt hq, by omega⟩
  have hWn : rm_W D ad (rm_grid ct r (rq ty ko N' (fun i => if i < N' then some (ad (r + 1 + i)) else none)) N' (.inl (ty ki, a0))) A F.heap := by
    refine ⟨fun q e' hq => ?_, fun q q' e1 e2 h1 h2 hh => ?_⟩
    · rcases hg q e' hq with ⟨k, k1, k2, k3⟩ | ⟨k1, k2, k3⟩
      · refine ⟨?_, by rw [k3]; exact hA _ (Nat.le_trans hS.1 (by omega))⟩
        unfold rm_grid at hq
        by_cases h1 : q = r
        · rw [if_pos h1] at hq
          cases hq
          show F.heap[ad q]? = some (vp_cell _ _)
          rw [k3, show k = 0 by omega]
          show F.heap[H.size + 0]? = some (vp_cell (ty ko) (N', .inr (.inr (.inr (.inr (fun i => if i < N' then some (ad (r + 1 + i)) else none))))))
          rw [hfun]
          exact f2
        · rw [if_neg h1, if_pos (by omega)] at hq
          cases hq
          show F.heap[ad q]? = some (vp_cell _ _)
          rw [k3, show H.size + k = H.size + 1 + (k - 1) by omega]
          exact hrow (k - 1) (by omega)
      · exact ⟨(hW.1 q e' k1).1.kept (hold _ k2), (hW.1 q e' k1).2⟩
    · rcases hg q e1 h1 with ⟨k, k1, k2, k3⟩ | ⟨k1, k2, k3⟩
      · rcases hg q' e2 h2 with ⟨k', k1', k2', k3'⟩ | ⟨k1', k2', k3'⟩
        · omega
        · omega
      · rcases hg q' e2 h2 with ⟨k', k1', k2', k3'⟩ | ⟨k1', k2', k3'⟩
        · omega
        · exact hW.2 q q' e1 e2 k1 k1' hh
  obtain ⟨t, a1, b1⟩ := kk F.heap (rm_grid ct r (rq ty ko N' (fun i => if i < N' then some (ad (r + 1 + i)) else none)) N' (.inl (ty ki, a0))) (if_pos rfl) (fun i hi => by
    unfold rm_grid
    rw [if_neg (by omega), if_pos (by omega)]) (fun q hq => by
    unfold rm_grid
    rw [if_neg (by omega), if_neg (by omega)]) hWn (rm_S_new hS hsz hold) hsz F rfl X'
  refine ⟨t, step t ?_, b1⟩
  have e0 : T.heap.size = ad r := by rw [hT]; exact (had 0 (by omega)).symm
  rw [e0]
  exact a1
end RmMna
section RmCalls
theorem va_AOA.moved {t : FieldType} {u U : State} (hvm : u.vm.Alike U.vm) (h : va_AOA t u) : va_AOA t U := by
  unfold va_AOA Cond.before Cond.holds at h ⊢
  simp only [Cond.value, beq_iff_eq] at h ⊢
  rw [hvm.findClass]
  cases hc : u.vm.findClass (FieldType.array t).toString with
  | none => simp [hc] at h
  | some comp =>
    simp only [hc, Option.bind_some, Option.bind_eq_some_iff, Option.map_eq_some_iff] at h ⊢
    obtain ⟨c, hi, k, hk, hb⟩ := h
    obtain ⟨k', hk', he⟩ := hvm.2.2 _ _ hk
    refine ⟨c, ?_, k', hk', ?_⟩
    · have hbe : U.vm.bare = u.vm.bare := by first | exact hvm.bare_eq | exact hvm.bare_eq.symm
      refine (va_idx_bare U.vm comp).symm.trans ?_
      rw [hbe]
      exact (va_idx_bare u.vm comp).trans hi
    · rw [he, hvm.findClass]; exact hb
/-- the two links to the class's own hidden divisor stand, and the arrays of references -/
def rm_N (U : State) : Prop := va_Nw (.methodLinkNest RX2 70 yX5_commonDivisor RX5) U ∧ va_Nw (.methodLinkNest RX3 50 yX5_commonDivisor RX5) U ∧ va_AO RX4 U ∧ va_AO RX1 U ∧ va_AOA .int U ∧ va_AOA .long U
theorem rm_N.warm {s U : State} (hW : s.WarmedH U.vm) (h : rm_N s) : rm_N U := ⟨va_Nw.warmM hW h.1, va_Nw.warmM hW h.2.1, va_AO.moved hW.alike h.2.2.1, va_AO.moved hW.alike h.2.2.2.1, va_AOA.moved hW.alike h.2.2.2.2.1, va_AOA.moved hW.alike h.2.2.2.2.2⟩
theorem rm_N.same {u U : State} (hvm : u.vm = U.vm) (h : rm_N u) : rm_N U := ⟨va_Nw.same rfl hvm h.1, va_Nw.same rfl hvm h.2.1, va_AO.moved (hvm ▸ Vm.Alike.refl u.vm) h.2.2.1, va_AO.moved (hvm ▸ Vm.Alike.refl u.vm) h.2.2.2.1, va_AOA.moved (hvm ▸ Vm.Alike.refl u.vm) h.2.2.2.2.1, va_AOA.moved (hvm ▸ Vm.Alike.refl u.vm) h.2.2.2.2.2⟩
/-- a contract's start: its arguments, its world -/
def rm_P (D : va_G) (ty : Nat → ClassId) (ad : Nat → Nat) (ct : rm_C) (sz : Nat) (av : List Value) : Array Value → State → Prop := va_Pc av (fun U => U.heap.size = sz ∧ rm_W D ad ct (fun _ => True) U.heap ∧ va_K D vwCl (rm_tys ty) U ∧ rm_N U)
/-- its ends -/
def rm_Qi (D : va_G) (ad : Nat → Nat) (ct : rm_C) (sz : Nat) (post : Int → rm_C → Prop) : Array Value → State → Outcome → State → Prop := va_Qi (fun (r : Int32) (u : Int × rm_C) => r = jI u.1 ∧ post u.1 u.2) (fun u t => rm_W D ad u.2 (rm_A ad ct sz) t.heap) (rm_A ad ct sz)
def rm_Ql (D : va_G) (ad : Nat → Nat) (ct : rm_C) (sz : Nat) (post : Int → rm_C → Prop) : Array Value → State → Outcome → State → Prop := va_Ql (fun (r : Int64) (u : Int × rm_C) => r = jL u.1 ∧ post u.1 u.2) (fun u t => rm_W D ad u.2 (rm_A ad ct sz) t.heap) (rm_A ad ct sz)
def rm_Qv (D : va_G) (ad : Nat → Nat) (ct : rm_C) (sz N : Nat) (post : rm_C → Prop) : Array Value → State → Outcome → State → Prop := va_Qv (fun (u : rm_C) => post u) (fun u t => rm_W D ad u (rm_A ad ct sz) t.heap ∧ (N = 0 ∨ t.heap.size = sz + N)) (rm_A ad ct sz)
def rm_Qr (D : va_G) (ad : Nat → Nat) (ct : rm_C) (sz : Nat) (post : Nat → rm_C → Prop) : Array Value → State → Outcome → State → Prop := va_Qr (fun (u : Nat × rm_C) => post u.1 u.2) (fun u a t => a = ad u.1 ∧ rm_W D ad u.2 (rm_A ad ct sz) t.heap) (rm_A ad ct sz)
theorem rm_blind (D : va_G) (ty : Nat → ClassId) (ad : Nat → Nat) (ct : rm_C) (sz : Nat) (av : List Value) : FrameBlind (rm_P D ty ad ct sz av) := fun a U g mk q => by
  obtain ⟨q0, q1, qW, qK, qN⟩ := q
  exact ⟨q0, q1, qW, va_K.moved (u := U) (U := U.calling g mk a) (Vm.Alike.refl U.vm) qK, qN.same rfl⟩
variable {p : Program} {l : Launch} {e : Env} {R : Room} {s : State} {m : MethodId} {args : Array Value} {below : List Frame} {meth : Method} {c : Code} {H : Heap} {locs : List Loc} {cells slots : Nat} {Q : State → Prop}
variable {cc : ByteArray} {pc : Nat} {ls : Array Slot} {rest st0 : List Value} {D : va_G} {A : Nat → Prop} {ty : Nat → ClassId} {ad : Nat → Nat} {ct : rm_C} {H0 : Heap} {a : Array Value} {mc ms : Nat}
theorem rm_preV (hK : va_K D vwCl (rm_tys ty) s) (hN : rm_N s) (hW : rm_W D ad ct A H) {r ci : Nat} {fs : List Value} {q : vw_C} (hr : ct r = some (.inr (ci, fs))) (hc : vwCl[ci]? = some q) {As : List Value} : PreV s H q.1 (ad r) (rm_P D ty ad ct H.size (.ref (ad r) :: As)) As :=
  ⟨rm_blind D ty ad ct H.size _, va_recv hK (hW.P hr) hc (q0 := 0) rfl, fun U hU hw => ⟨rfl, by rw [hU], by rw [hU]; exact hW.any, va_K.moved hw.alike hK, hN.warm hw⟩⟩
theorem rm_preS (hK : va_K D vwCl (rm_tys ty) s) (hN : rm_N s) (hW : rm_W D ad ct A H) {As : List Value} : PreS s H (rm_P D ty ad ct H.size As) As :=
  ⟨rm_blind D ty ad ct H.size _, fun U hU hw => ⟨rfl, by rw [hU], by rw [hU]; exact hW.any, va_K.moved hw.alike hK, hN.warm hw⟩⟩
theorem rm_calli {post : Int → rm_C → Prop} (hr : va_Run p l e R s m args below meth c H locs cells slots mc ms (F0 m pc ls st0) rest (rm_Qi D ad ct H.size post a) (rm_A ad ct H.size)) (hW : rm_W D ad ct A H) (hS : va_S A H0 H locs) (hA : ∀ q, H0.size ≤ q → A q)
    (kk : ∀ (z : Int) (ct1 : rm_C) (H1 : Heap) (locs1 : List Loc), post z ct1 → rm_W D ad ct1 A H1 → va_S A H0 H1 locs1 → W p l e R s m args below meth c H1 locs1 (cells + mc) (slots + ms) Q (F0 m (pc + 3) ls (.int (jI z) :: rest))) : W p l e R s m args below meth c H locs cells slots Q (F0 m pc ls st0) :=
  va_calli hr hS (fun q _ h => hW.sub hS hA q h) (hW.sub hS hA) (fun r u t H1 locs1 ht hvm hp hB hz1 hk1 hS1 => by
    rw [hp.1]
    rw [ht] at hB
    exact kk u.1 u.2 H1 locs1 hp.2 (hB.to (hW.sub hS hA)) hS1)
theorem rm_calll {post : Int → rm_C → Prop} (hr : va_Run p l e R s m args below meth c H locs cells slots mc ms (F0 m pc ls st0) rest (rm_Ql D ad ct H.size post a) (rm_A ad ct H.size)) (hW : rm_W D ad ct A H) (hS : va_S A H0 H locs) (hA : ∀ q, H0.size ≤ q → A q)
    (kk : ∀ (z : Int) (ct1 : rm_C) (H1 : Heap) (locs1 : List Loc), post z ct1 → rm_W D ad ct1 A H1 → va_S A H0 H1 locs1 → W p l e R s m args below meth c H1 locs1 (cells + mc) (slots + ms) Q (F0 m (pc + 3) ls (.long (jL z) :: rest))) : W p l e R s m args below meth c H locs cells slots Q (F0 m pc ls st0) :=
  va_calll hr hS (fun q _ h => hW.sub hS hA q h) (hW.sub hS hA) (fun r u t H1 locs1 ht hvm hp hB hz1 hk1 hS1 => by
    rw [hp.1]
    rw [ht] at hB
    exact kk u.1 u.2 H1 locs1 hp.2 (hB.to (hW.sub hS hA)) hS1)
theorem rm_callv {N : Nat} {post : rm_C → Prop} (hr : va_Run p l e R s m args below meth c H locs cells slots mc ms (F0 m pc ls st0) rest (rm_Qv D ad ct H.size N post a) (rm_A ad ct H.size)) (hW : rm_W D ad ct A H) (hS : va_S A H0 H locs) (hA : ∀ q, H0.size ≤ q → A q)
    (kk : ∀ (ct1 : rm_C) (H1 : Heap) (locs1 : List Loc), post ct1 → rm_W D ad ct1 A H1 → va_S A H0 H1 locs1 → (N = 0 ∨ H1.size = H.size + N) → W p l e R s m args below meth c H1 locs1 (cells + mc) (slots + ms) Q (F0 m (pc + 3) ls rest)) : W p l e R s m args below meth c H locs cells slots Q (F0 m pc ls st0) :=
  va_callv hr hS (fun q _ h => hW.sub hS hA q h) (hW.sub hS hA) (fun u t H1 locs1 ht hvm hp hB hz1 hk1 hS1 => by
    rw [ht] at hB
    exact kk u H1 locs1 hp (hB.1.to (hW.sub hS hA)) hS1 hB.2)
theorem rm_callr {post : Nat → rm_C → Prop} (hr : va_Run p l e R s m args below meth c H locs cells slots mc ms (F0 m pc ls st0) rest (rm_Qr D ad ct H.size post a) (rm_A ad ct H.size)) (hW : rm_W D ad ct A H) (hS : va_S A H0 H locs) (hA : ∀ q, H0.size ≤ q → A q)
    (kk : ∀ (r : Nat) (ct1 : rm_C) (H1 : Heap) (locs1 : List Loc), post r ct1 → rm_W D ad ct1 A H1 → va_S A H0 H1 locs1 → W p l e R s m args below meth c H1 locs1 (cells + mc) (slots + ms) Q (F0 m (pc + 3) ls (.ref (ad r) :: rest))) : W p l e R s m args below meth c H locs cells slots Q (F0 m pc ls st0) :=
  va_callr hr hS (fun q _ h => hW.sub hS hA q h) (hW.sub hS hA) (fun u x t H1 locs1 ht hvm hp hB hz1 hk1 hS1 => by
    rw [ht] at hB
    rw [hB.1]
    exact kk u.1 u.2 H1 locs1 hp (hB.2.to (hW.sub hS hA)) hS1)
end RmCalls
