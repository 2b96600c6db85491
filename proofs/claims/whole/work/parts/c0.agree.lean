/-! Class and model agree, call by call -/
section Agree
def p5_yard (ty : Nat → ClassId) (ad : Nat → Nat) (ct : rm_C) (yc hc : Nat) (yn : Nat → Nat) (yM : Nat → Nat → Nat → Int) (yu : Nat → Int) (hy : Nat → Nat) (hg hf : Nat → Nat → Int) (z9 : Int) (z : Int) (ct1 : rm_C) : Prop := ((6 ≤ yc ∨ z9 < 2 ∨ 8 < z9) ∧ z = -1 ∧ ct1 = ct) ∨ (yc < 6 ∧ ∃ p : Nat, z9 = p ∧ 2 ≤ p ∧ p ≤ 8 ∧ z = yc ∧ ClsAt ty ad ct1 (yc + 1) hc (us yn yc p) (us yM yc (fun _ _ => 0)) (us (ydg yn yM) yc (fun _ => 0)) (us yu yc 0) hy hg hf)
def p6_yard (ty : Nat → ClassId) (ad : Nat → Nat) (ct : rm_C) (yc hc : Nat) (yn : Nat → Nat) (yM : Nat → Nat → Nat → Int) (yu : Nat → Int) (hy : Nat → Nat) (hg hf : Nat → Nat → Int) (z9 : Int) (z : Int) (ct1 : rm_C) : Prop := (∀ q, (q < 1000 ∨ 1016 < q) → ct1 q = ct q) ∧ (((6 ≤ yc ∨ z9 < 2 ∨ 8 < z9) ∧ z = -1 ∧ ModX ty ad ct1 0 yc hc yn yM yu hy hg hf) ∨ (yc < 6 ∧ ∃ p : Nat, z9 = p ∧ 2 ≤ p ∧ p ≤ 8 ∧ z = yc ∧ ModX ty ad ct1 0 (yc + 1) hc (us yn yc p) yM yu hy hg hf))
def p5_path (ty : Nat → ClassId) (ad : Nat → Nat) (ct : rm_C) (yc hc : Nat) (yn : Nat → Nat) (yM : Nat → Nat → Nat → Int) (yu : Nat → Int) (hy : Nat → Nat) (hg hf : Nat → Nat → Int) (z9 : Int) (p9 : Int) (r9 : Int) (n9 : Int) (z : Int) (ct1 : rm_C) : Prop := ∃ y9 a9 b9 : Nat, z9 = (y9 : Int) ∧ p9 = (a9 : Int) ∧ r9 = (b9 : Int) ∧ y9 < yc ∧ a9 < yn y9 ∧ b9 < yn y9 ∧ (((n9 < 0 ∨ 3 < n9 ∨ a9 = b9 ∨ yu y9 = 1) ∧ z = -1 ∧ ct1 = ct) ∨ (0 ≤ n9 ∧ n9 ≤ 3 ∧ a9 ≠ b9 ∧ yu y9 = 0 ∧ z = yM y9 a9 b9 ∧ ClsAt ty ad ct1 yc hc yn (us yM y9 (lyM (yM y9) a9 b9 n9)) (us (ydg yn yM) y9 (lyd ((ydg yn yM) y9) a9 b9 (n9 - yM y9 a9 b9))) yu hy hg hf))
def x5_path (ty : Nat → ClassId) (ad : Nat → Nat) (ct : rm_C) (yc hc : Nat) (yn : Nat → Nat) (yM : Nat → Nat → Nat → Int) (yu : Nat → Int) (hy : Nat → Nat) (hg hf : Nat → Nat → Int) (z9 : Int) (p9 : Int) (r9 : Int) (n9 : Int) (E : String) (ct1 : rm_C) : Prop := E = xNSE ∧ ((z9 < 0 ∨ (yc : Int) ≤ z9) ∨ ∃ y9 : Nat, z9 = (y9 : Int) ∧ y9 < yc ∧ ((p9 < 0 ∨ (yn y9 : Int) ≤ p9) ∨ (r9 < 0 ∨ (yn y9 : Int) ≤ r9))) ∧ ct1 = ct
def p6_path (ty : Nat → ClassId) (ad : Nat → Nat) (ct : rm_C) (yc hc : Nat) (yn : Nat → Nat) (yM : Nat → Nat → Nat → Int) (yu : Nat → Int) (hy : Nat → Nat) (hg hf : Nat → Nat → Int) (z9 : Int) (p9 : Int) (r9 : Int) (n9 : Int) (z : Int) (ct1 : rm_C) : Prop := (∀ q, (q < 1000 ∨ 1016 < q) → ct1 q = ct q) ∧ ((((z9 < 0 ∨ ((yc : Nat) : Int) ≤ z9) ∨ ∃ y9 : Nat, z9 = (y9 : Int) ∧ y9 < yc ∧ ((p9 < 0 ∨ (yn y9 : Int) ≤ p9) ∨ (r9 < 0 ∨ (yn y9 : Int) ≤ r9))) ∧ ModX ty ad ct1 1 yc hc yn yM yu hy hg hf) ∨ ∃ y9 a9 b9 : Nat, z9 = (y9 : Int) ∧ p9 = (a9 : Int) ∧ r9 = (b9 : Int) ∧ y9 < yc ∧ a9 < yn y9 ∧ b9 < yn y9 ∧ (((n9 < 0 ∨ 3 < n9 ∨ a9 = b9 ∨ yu y9 = 1) ∧ z = -1 ∧ ModX ty ad ct1 0 yc hc yn yM yu hy hg hf) ∨ (0 ≤ n9 ∧ n9 ≤ 3 ∧ a9 ≠ b9 ∧ yu y9 = 0 ∧ z = yM y9 a9 b9 ∧ ModX ty ad ct1 0 yc hc yn (us yM y9 (lyM (yM y9) a9 b9 n9)) yu hy hg hf)))
def p5_degree (ty : Nat → ClassId) (ad : Nat → Nat) (ct : rm_C) (yc hc : Nat) (yn : Nat → Nat) (yM : Nat → Nat → Nat → Int) (yu : Nat → Int) (hy : Nat → Nat) (hg hf : Nat → Nat → Int) (z9 : Int) (p9 : Int) (z : Int) (ct1 : rm_C) : Prop := ∃ y9 q9 : Nat, z9 = (y9 : Int) ∧ p9 = (q9 : Int) ∧ y9 < yc ∧ q9 < yn y9 ∧ z = (ydg yn yM) y9 q9 ∧ ct1 = ct
def x5_degree (ty : Nat → ClassId) (ad : Nat → Nat) (ct : rm_C) (yc hc : Nat) (yn : Nat → Nat) (yM : Nat → Nat → Nat → Int) (yu : Nat → Int) (hy : Nat → Nat) (hg hf : Nat → Nat → Int) (z9 : Int) (p9 : Int) (E : String) (ct1 : rm_C) : Prop := E = xNSE ∧ ((z9 < 0 ∨ (yc : Int) ≤ z9) ∨ ∃ y9 : Nat, z9 = (y9 : Int) ∧ y9 < yc ∧ (p9 < 0 ∨ (yn y9 : Int) ≤ p9)) ∧ ct1 = ct
def p6_degree (ty : Nat → ClassId) (ad : Nat → Nat) (ct : rm_C) (yc hc : Nat) (yn : Nat → Nat) (yM : Nat → Nat → Nat → Int) (yu : Nat → Int) (hy : Nat → Nat) (hg hf : Nat → Nat → Int) (z9 : Int) (p9 : Int) (z : Int) (ct1 : rm_C) : Prop := (∀ q, (q < 1000 ∨ 1016 < q) → ct1 q = ct q) ∧ ((((z9 < 0 ∨ ((yc : Nat) : Int) ≤ z9) ∨ ∃ y9 : Nat, z9 = (y9 : Int) ∧ y9 < yc ∧ (p9 < 0 ∨ (yn y9 : Int) ≤ p9)) ∧ ModX ty ad ct1 1 yc hc yn yM yu hy hg hf) ∨ ∃ y9 q9 : Nat, z9 = (y9 : Int) ∧ p9 = (q9 : Int) ∧ y9 < yc ∧ q9 < yn y9 ∧ z = dg (yn y9) (yM y9) q9 ∧ ModX ty ad ct1 0 yc hc yn yM yu hy hg hf)
def p5_whole (ty : Nat → ClassId) (ad : Nat → Nat) (ct : rm_C) (yc hc : Nat) (yn : Nat → Nat) (yM : Nat → Nat → Nat → Int) (yu : Nat → Int) (hy : Nat → Nat) (hg hf : Nat → Nat → Int) (z9 : Int) (z : Int) (ct1 : rm_C) : Prop := ∃ y9 : Nat, z9 = (y9 : Int) ∧ y9 < yc ∧ z = (if jit (yn y9) (yM y9) (yn y9 - 1) = 2 ^ yn y9 - 1 then 1 else 0) ∧ ct1 = ct
def x5_whole (ty : Nat → ClassId) (ad : Nat → Nat) (ct : rm_C) (yc hc : Nat) (yn : Nat → Nat) (yM : Nat → Nat → Nat → Int) (yu : Nat → Int) (hy : Nat → Nat) (hg hf : Nat → Nat → Int) (z9 : Int) (E : String) (ct1 : rm_C) : Prop := E = xNSE ∧ (z9 < 0 ∨ (yc : Int) ≤ z9) ∧ ct1 = ct
def p6_whole (ty : Nat → ClassId) (ad : Nat → Nat) (ct : rm_C) (yc hc : Nat) (yn : Nat → Nat) (yM : Nat → Nat → Nat → Int) (yu : Nat → Int) (hy : Nat → Nat) (hg hf : Nat → Nat → Int) (z9 : Int) (z : Int) (ct1 : rm_C) : Prop := (∀ q, (q < 1000 ∨ 1016 < q) → ct1 q = ct q) ∧ (((z9 < 0 ∨ ((yc : Nat) : Int) ≤ z9) ∧ ModX ty ad ct1 1 yc hc yn yM yu hy hg hf) ∨ ∃ y9 : Nat, z9 = (y9 : Int) ∧ y9 < yc ∧ z = (if isz (yn y9) (yM y9) 8 = 2 ^ yn y9 - 1 then 1 else 0) ∧ ModX ty ad ct1 0 yc hc yn yM yu hy hg hf)
def p5_trees (ty : Nat → ClassId) (ad : Nat → Nat) (ct : rm_C) (yc hc : Nat) (yn : Nat → Nat) (yM : Nat → Nat → Nat → Int) (yu : Nat → Int) (hy : Nat → Nat) (hg hf : Nat → Nat → Int) (z9 : Int) (z : Int) (ct1 : rm_C) : Prop := ∃ (y9 : Nat) (T : Nat → Nat → Int), z9 = (y9 : Int) ∧ y9 < yc ∧ ((jit (yn y9) (yM y9) (yn y9 - 1) = 2 ^ yn y9 - 1 ∧ z = (slv (yn y9) (tfp (yn y9) (yM y9) ((ydg yn yM) y9) (fun _ => (0 : Int)) T (yn y9) 0) (yn y9 - 1)).2) ∨ (jit (yn y9) (yM y9) (yn y9 - 1) ≠ 2 ^ yn y9 - 1 ∧ z = 0)) ∧ ClsAt ty ad ct1 yc hc yn yM (ydg yn yM) yu hy hg hf
def x5_trees (ty : Nat → ClassId) (ad : Nat → Nat) (ct : rm_C) (yc hc : Nat) (yn : Nat → Nat) (yM : Nat → Nat → Nat → Int) (yu : Nat → Int) (hy : Nat → Nat) (hg hf : Nat → Nat → Int) (z9 : Int) (E : String) (ct1 : rm_C) : Prop := E = xNSE ∧ (z9 < 0 ∨ (yc : Int) ≤ z9) ∧ ct1 = ct
def p6_trees (ty : Nat → ClassId) (ad : Nat → Nat) (ct : rm_C) (yc hc : Nat) (yn : Nat → Nat) (yM : Nat → Nat → Nat → Int) (yu : Nat → Int) (hy : Nat → Nat) (hg hf : Nat → Nat → Int) (z9 : Int) (z : Int) (ct1 : rm_C) : Prop := (∀ q, (q < 1000 ∨ 1016 < q) → ct1 q = ct q) ∧ (((z9 < 0 ∨ ((yc : Nat) : Int) ≤ z9) ∧ ModX ty ad ct1 1 yc hc yn yM yu hy hg hf) ∨ ∃ y9 : Nat, z9 = (y9 : Int) ∧ y9 < yc ∧ ((isz (yn y9) (yM y9) 8 = 2 ^ yn y9 - 1 ∧ z = trd (yn y9) (yM y9)) ∨ (isz (yn y9) (yM y9) 8 ≠ 2 ^ yn y9 - 1 ∧ z = 0)) ∧ ModX ty ad ct1 0 yc hc yn yM yu hy hg hf)
def p5_part (ty : Nat → ClassId) (ad : Nat → Nat) (ct : rm_C) (yc hc : Nat) (yn : Nat → Nat) (yM : Nat → Nat → Nat → Int) (yu : Nat → Int) (hy : Nat → Nat) (hg hf : Nat → Nat → Int) (z9 : Int) (w9 : Int) (z : Int) (ct1 : rm_C) : Prop := ∃ (y9 : Nat) (T T2 : Nat → Nat → Int) (r R9 : Nat → Int), z9 = (y9 : Int) ∧ y9 < yc ∧ jit (yn y9) (yM y9) (yn y9 - 1) = 2 ^ yn y9 - 1 ∧ R9 = rdp (yn y9) (yM y9) ((ydg yn yM) y9) (trs (yn y9) (yM y9) ((ydg yn yM) y9) T) r T2 ∧ ((w9 = -1 ∧ z = ((yn y9 - 1 : Nat) : Int) - ((ons R9 (yn y9 - 1) : Nat) : Int)) ∨ ∃ i9 : Nat, w9 = (i9 : Int) ∧ ons R9 (yn y9 - 1) + i9 < yn y9 - 1 ∧ z = R9 (ons R9 (yn y9 - 1) + i9)) ∧ ClsAt ty ad ct1 yc hc yn yM (ydg yn yM) yu hy hg hf
def x5_part (ty : Nat → ClassId) (ad : Nat → Nat) (ct : rm_C) (yc hc : Nat) (yn : Nat → Nat) (yM : Nat → Nat → Nat → Int) (yu : Nat → Int) (hy : Nat → Nat) (hg hf : Nat → Nat → Int) (z9 : Int) (w9 : Int) (E : String) (ct1 : rm_C) : Prop := (E = xNSE ∧ (z9 < 0 ∨ (yc : Int) ≤ z9) ∧ ct1 = ct) ∨ (E = xISE ∧ (∃ y9 : Nat, z9 = (y9 : Int) ∧ y9 < yc ∧ jit (yn y9) (yM y9) (yn y9 - 1) ≠ 2 ^ yn y9 - 1) ∧ ct1 = ct) ∨ (E = xNSE ∧ (∃ (y9 : Nat) (T T2 : Nat → Nat → Int) (r R9 : Nat → Int), z9 = (y9 : Int) ∧ y9 < yc ∧ jit (yn y9) (yM y9) (yn y9 - 1) = 2 ^ yn y9 - 1 ∧ R9 = rdp (yn y9) (yM y9) ((ydg yn yM) y9) (trs (yn y9) (yM y9) ((ydg yn yM) y9) T) r T2 ∧ (w9 ≠ -1 ∧ (w9 < 0 ∨ ((yn y9 - 1 : Nat) : Int) - ((ons R9 (yn y9 - 1) : Nat) : Int) ≤ w9))) ∧ ClsAt ty ad ct1 yc hc yn yM (ydg yn yM) yu hy hg hf)
def p6_part (ty : Nat → ClassId) (ad : Nat → Nat) (ct : rm_C) (yc hc : Nat) (yn : Nat → Nat) (yM : Nat → Nat → Nat → Int) (yu : Nat → Int) (hy : Nat → Nat) (hg hf : Nat → Nat → Int) (z9 : Int) (w9 : Int) (z : Int) (ct1 : rm_C) : Prop := (∀ q, (q < 1000 ∨ 1016 < q) → ct1 q = ct q) ∧ ((((z9 < 0 ∨ ((yc : Nat) : Int) ≤ z9) ∨ ∃ y9 : Nat, z9 = (y9 : Int) ∧ y9 < yc ∧ isz (yn y9) (yM y9) 8 = 2 ^ yn y9 - 1 ∧ (w9 < -1 ∨ ((cnd (dvs (yn y9) (yM y9)) ((yn y9) - 1) : Nat) : Int) ≤ w9)) ∧ ModX ty ad ct1 1 yc hc yn yM yu hy hg hf) ∨ ((∃ y9 : Nat, z9 = (y9 : Int) ∧ y9 < yc ∧ ¬ isz (yn y9) (yM y9) 8 = 2 ^ yn y9 - 1) ∧ ModX ty ad ct1 2 yc hc yn yM yu hy hg hf) ∨ ∃ y9 : Nat, z9 = (y9 : Int) ∧ y9 < yc ∧ isz (yn y9) (yM y9) 8 = 2 ^ yn y9 - 1 ∧ ((w9 = -1 ∧ z = ((cnd (dvs (yn y9) (yM y9)) ((yn y9) - 1) : Nat) : Int)) ∨ ∃ i9 a9 : Nat, w9 = (i9 : Int) ∧ a9 < (yn y9) - 1 ∧ (dvs (yn y9) (yM y9)) (a9 + 1) ≠ (dvs (yn y9) (yM y9)) a9 ∧ cnd (dvs (yn y9) (yM y9)) a9 = i9 ∧ z = (((dvs (yn y9) (yM y9)) (a9 + 1) / (dvs (yn y9) (yM y9)) a9 : Nat) : Int)) ∧ ModX ty ad ct1 0 yc hc yn yM yu hy hg hf)
def p5_heap (ty : Nat → ClassId) (ad : Nat → Nat) (ct : rm_C) (yc hc : Nat) (yn : Nat → Nat) (yM : Nat → Nat → Nat → Int) (yu : Nat → Int) (hy : Nat → Nat) (hg hf : Nat → Nat → Int) (z9 : Int) (z : Int) (ct1 : rm_C) (ad1 : Nat → Nat) : Prop := ∃ y9 : Nat, z9 = (y9 : Int) ∧ y9 < yc ∧ (((20 ≤ hc ∨ jit (yn y9) (yM y9) (yn y9 - 1) ≠ 2 ^ yn y9 - 1) ∧ z = -1 ∧ ct1 = ct ∧ ad1 = ad) ∨ (hc < 20 ∧ jit (yn y9) (yM y9) (yn y9 - 1) = 2 ^ yn y9 - 1 ∧ z = (hc : Int) ∧ (∀ r, (r < 200 + 4 * hc ∨ 200 + 4 * hc + 2 < r) → ad1 r = ad r) ∧ ClsAt ty ad1 ct1 yc (hc + 1) yn yM (ydg yn yM) (us yu y9 1) (us hy hc y9) (us hg hc (fun _ => 0)) (us hf hc (fun _ => 0))))
def x5_heap (ty : Nat → ClassId) (ad : Nat → Nat) (ct : rm_C) (yc hc : Nat) (yn : Nat → Nat) (yM : Nat → Nat → Nat → Int) (yu : Nat → Int) (hy : Nat → Nat) (hg hf : Nat → Nat → Int) (z9 : Int) (E : String) (ct1 : rm_C) : Prop := E = xNSE ∧ (z9 < 0 ∨ (yc : Int) ≤ z9) ∧ ct1 = ct
def p6_heap (ty : Nat → ClassId) (ad : Nat → Nat) (ct : rm_C) (yc hc : Nat) (yn : Nat → Nat) (yM : Nat → Nat → Nat → Int) (yu : Nat → Int) (hy : Nat → Nat) (hg hf : Nat → Nat → Int) (z9 : Int) (z : Int) (ct1 : rm_C) : Prop := (∀ q, (q < 1000 ∨ 1016 < q) → ct1 q = ct q) ∧ (((z9 < 0 ∨ ((yc : Nat) : Int) ≤ z9) ∧ ModX ty ad ct1 1 yc hc yn yM yu hy hg hf) ∨ ∃ y9 : Nat, z9 = (y9 : Int) ∧ y9 < yc ∧ (((20 ≤ hc ∨ isz (yn y9) (yM y9) 8 ≠ 2 ^ yn y9 - 1) ∧ z = -1 ∧ ModX ty ad ct1 0 yc hc yn yM yu hy hg hf) ∨ (hc < 20 ∧ isz (yn y9) (yM y9) 8 = 2 ^ yn y9 - 1 ∧ z = (hc : Int) ∧ ModX ty ad ct1 0 yc (hc + 1) yn yM (us yu y9 1) (us hy hc y9) hg hf)))
def p5_set (ty : Nat → ClassId) (ad : Nat → Nat) (ct : rm_C) (yc hc : Nat) (yn : Nat → Nat) (yM : Nat → Nat → Nat → Int) (yu : Nat → Int) (hy : Nat → Nat) (hg hf : Nat → Nat → Int) (z9 : Int) (p9 : Int) (n9 : Int) (z : Int) (ct1 : rm_C) : Prop := ∃ h9 q9 : Nat, z9 = (h9 : Int) ∧ p9 = (q9 : Int) ∧ h9 < hc ∧ 1 ≤ q9 ∧ q9 < yn (hy h9) ∧ 0 ≤ n9 ∧ n9 ≤ 100000 ∧ z = hg h9 q9 ∧ ClsAt ty ad ct1 yc hc yn yM (ydg yn yM) yu hy (us hg h9 (ub (hg h9) q9 n9)) hf
def x5_set (ty : Nat → ClassId) (ad : Nat → Nat) (ct : rm_C) (yc hc : Nat) (yn : Nat → Nat) (yM : Nat → Nat → Nat → Int) (yu : Nat → Int) (hy : Nat → Nat) (hg hf : Nat → Nat → Int) (z9 : Int) (p9 : Int) (n9 : Int) (E : String) (ct1 : rm_C) : Prop := (E = xNSE ∧ ((z9 < 0 ∨ (hc : Int) ≤ z9) ∨ ∃ h9 : Nat, z9 = (h9 : Int) ∧ h9 < hc ∧ (p9 < 1 ∨ (yn (hy h9) : Int) ≤ p9)) ∧ ct1 = ct) ∨ (E = xIAE ∧ (∃ h9 q9 : Nat, z9 = (h9 : Int) ∧ p9 = (q9 : Int) ∧ h9 < hc ∧ 1 ≤ q9 ∧ q9 < yn (hy h9)) ∧ (n9 < 0 ∨ 100000 < n9) ∧ ct1 = ct)
def p6_set (ty : Nat → ClassId) (ad : Nat → Nat) (ct : rm_C) (yc hc : Nat) (yn : Nat → Nat) (yM : Nat → Nat → Nat → Int) (yu : Nat → Int) (hy : Nat → Nat) (hg hf : Nat → Nat → Int) (z9 : Int) (p9 : Int) (n9 : Int) (z : Int) (ct1 : rm_C) : Prop := (∀ q, (q < 1000 ∨ 1016 < q) → ct1 q = ct q) ∧ ((((z9 < 0 ∨ ((hc : Nat) : Int) ≤ z9) ∨ ∃ h9 : Nat, z9 = (h9 : Int) ∧ h9 < hc ∧ (p9 < 1 ∨ (yn (hy h9) : Int) ≤ p9)) ∧ ModX ty ad ct1 1 yc hc yn yM yu hy hg hf) ∨ ∃ h9 q9 : Nat, z9 = (h9 : Int) ∧ p9 = (q9 : Int) ∧ h9 < hc ∧ 1 ≤ q9 ∧ q9 < yn (hy h9) ∧ (((n9 < 0 ∨ 100000 < n9) ∧ ModX ty ad ct1 2 yc hc yn yM yu hy hg hf) ∨ (0 ≤ n9 ∧ n9 ≤ 100000 ∧ z = hg h9 q9 ∧ ModX ty ad ct1 0 yc hc yn yM yu hy (us hg h9 (ub (hg h9) q9 n9)) hf)))
def p5_grains (ty : Nat → ClassId) (ad : Nat → Nat) (ct : rm_C) (yc hc : Nat) (yn : Nat → Nat) (yM : Nat → Nat → Nat → Int) (yu : Nat → Int) (hy : Nat → Nat) (hg hf : Nat → Nat → Int) (z9 : Int) (p9 : Int) (z : Int) (ct1 : rm_C) : Prop := ∃ h9 q9 : Nat, z9 = (h9 : Int) ∧ p9 = (q9 : Int) ∧ h9 < hc ∧ q9 < yn (hy h9) ∧ z = hg h9 q9 ∧ ct1 = ct
def x5_grains (ty : Nat → ClassId) (ad : Nat → Nat) (ct : rm_C) (yc hc : Nat) (yn : Nat → Nat) (yM : Nat → Nat → Nat → Int) (yu : Nat → Int) (hy : Nat → Nat) (hg hf : Nat → Nat → Int) (z9 : Int) (p9 : Int) (E : String) (ct1 : rm_C) : Prop := E = xNSE ∧ ((z9 < 0 ∨ (hc : Int) ≤ z9) ∨ ∃ h9 : Nat, z9 = (h9 : Int) ∧ h9 < hc ∧ (p9 < 0 ∨ (yn (hy h9) : Int) ≤ p9)) ∧ ct1 = ct
def p6_grains (ty : Nat → ClassId) (ad : Nat → Nat) (ct : rm_C) (yc hc : Nat) (yn : Nat → Nat) (yM : Nat → Nat → Nat → Int) (yu : Nat → Int) (hy : Nat → Nat) (hg hf : Nat → Nat → Int) (z9 : Int) (p9 : Int) (z : Int) (ct1 : rm_C) : Prop := (∀ q, (q < 1000 ∨ 1016 < q) → ct1 q = ct q) ∧ ((((z9 < 0 ∨ ((hc : Nat) : Int) ≤ z9) ∨ ∃ h9 : Nat, z9 = (h9 : Int) ∧ h9 < hc ∧ (p9 < 0 ∨ (yn (hy h9) : Int) ≤ p9)) ∧ ModX ty ad ct1 1 yc hc yn yM yu hy hg hf) ∨ ∃ h9 q9 : Nat, z9 = (h9 : Int) ∧ p9 = (q9 : Int) ∧ h9 < hc ∧ q9 < yn (hy h9) ∧ z = hg h9 q9 ∧ ModX ty ad ct1 0 yc hc yn yM yu hy hg hf)
def p5_topple (ty : Nat → ClassId) (ad : Nat → Nat) (ct : rm_C) (yc hc : Nat) (yn : Nat → Nat) (yM : Nat → Nat → Nat → Int) (yu : Nat → Int) (hy : Nat → Nat) (hg hf : Nat → Nat → Int) (z9 : Int) (p9 : Int) (z : Int) (ct1 : rm_C) : Prop := ∃ h9 q9 : Nat, z9 = (h9 : Int) ∧ p9 = (q9 : Int) ∧ h9 < hc ∧ 1 ≤ q9 ∧ q9 < yn (hy h9) ∧ ((hg h9 q9 < (ydg yn yM) (hy h9) q9 ∧ z = 0 ∧ ct1 = ct) ∨ ((ydg yn yM) (hy h9) q9 ≤ hg h9 q9 ∧ z = 1 ∧ ClsAt ty ad ct1 yc hc yn yM (ydg yn yM) yu hy (us hg h9 (fel (yn (hy h9)) (yM (hy h9)) ((ydg yn yM) (hy h9)) (hg h9) q9 1)) hf))
def x5_topple (ty : Nat → ClassId) (ad : Nat → Nat) (ct : rm_C) (yc hc : Nat) (yn : Nat → Nat) (yM : Nat → Nat → Nat → Int) (yu : Nat → Int) (hy : Nat → Nat) (hg hf : Nat → Nat → Int) (z9 : Int) (p9 : Int) (E : String) (ct1 : rm_C) : Prop := E = xNSE ∧ ((z9 < 0 ∨ (hc : Int) ≤ z9) ∨ ∃ h9 : Nat, z9 = (h9 : Int) ∧ h9 < hc ∧ (p9 < 1 ∨ (yn (hy h9) : Int) ≤ p9)) ∧ ct1 = ct
def p6_topple (ty : Nat → ClassId) (ad : Nat → Nat) (ct : rm_C) (yc hc : Nat) (yn : Nat → Nat) (yM : Nat → Nat → Nat → Int) (yu : Nat → Int) (hy : Nat → Nat) (hg hf : Nat → Nat → Int) (z9 : Int) (p9 : Int) (z : Int) (ct1 : rm_C) : Prop := (∀ q, (q < 1000 ∨ 1016 < q) → ct1 q = ct q) ∧ ((((z9 < 0 ∨ ((hc : Nat) : Int) ≤ z9) ∨ ∃ h9 : Nat, z9 = (h9 : Int) ∧ h9 < hc ∧ (p9 < 1 ∨ (yn (hy h9) : Int) ≤ p9)) ∧ ModX ty ad ct1 1 yc hc yn yM yu hy hg hf) ∨ ∃ h9 q9 : Nat, z9 = (h9 : Int) ∧ p9 = (q9 : Int) ∧ h9 < hc ∧ 1 ≤ q9 ∧ q9 < yn (hy h9) ∧ ((hg h9 q9 < dg (yn (hy h9)) (yM (hy h9)) q9 ∧ z = 0 ∧ ModX ty ad ct1 0 yc hc yn yM yu hy hg hf) ∨ (dg (yn (hy h9)) (yM (hy h9)) q9 ≤ hg h9 q9 ∧ z = 1 ∧ ModX ty ad ct1 0 yc hc yn yM yu hy (us hg h9 (fel (yn (hy h9)) (yM (hy h9)) (dg (yn (hy h9)) (yM (hy h9))) (hg h9) q9 1)) hf)))
def p5_settle (ty : Nat → ClassId) (ad : Nat → Nat) (ct : rm_C) (yc hc : Nat) (yn : Nat → Nat) (yM : Nat → Nat → Nat → Int) (yu : Nat → Int) (hy : Nat → Nat) (hg hf : Nat → Nat → Int) (z9 : Int) (z : Int) (ct1 : rm_C) : Prop := ∃ h9 : Nat, z9 = (h9 : Int) ∧ h9 < hc ∧ ∃ v, stl (yn (hy h9)) (yM (hy h9)) (hg h9) v ∧ z = gs v (yn (hy h9)) ∧ ClsAt ty ad ct1 yc hc yn yM (ydg yn yM) yu hy (us hg h9 (gaf (yn (hy h9)) (yM (hy h9)) (hg h9) v)) (us hf h9 v)
def x5_settle (ty : Nat → ClassId) (ad : Nat → Nat) (ct : rm_C) (yc hc : Nat) (yn : Nat → Nat) (yM : Nat → Nat → Nat → Int) (yu : Nat → Int) (hy : Nat → Nat) (hg hf : Nat → Nat → Int) (z9 : Int) (E : String) (ct1 : rm_C) : Prop := E = xNSE ∧ (z9 < 0 ∨ (hc : Int) ≤ z9) ∧ ct1 = ct
def p6_settle (ty : Nat → ClassId) (ad : Nat → Nat) (ct : rm_C) (yc hc : Nat) (yn : Nat → Nat) (yM : Nat → Nat → Nat → Int) (yu : Nat → Int) (hy : Nat → Nat) (hg hf : Nat → Nat → Int) (z9 : Int) (z : Int) (ct1 : rm_C) : Prop := (∀ q, (q < 1000 ∨ 1016 < q) → ct1 q = ct q) ∧ (((z9 < 0 ∨ ((hc : Nat) : Int) ≤ z9) ∧ ModX ty ad ct1 1 yc hc yn yM yu hy hg hf) ∨ ∃ h9 : Nat, z9 = (h9 : Int) ∧ h9 < hc ∧ ∃ v, stl (yn (hy h9)) (yM (hy h9)) (hg h9) v ∧ z = gs v (yn (hy h9)) ∧ ModX ty ad ct1 0 yc hc yn yM yu hy (us hg h9 (gaf (yn (hy h9)) (yM (hy h9)) (hg h9) v)) (us hf h9 v))
def p5_drop (ty : Nat → ClassId) (ad : Nat → Nat) (ct : rm_C) (yc hc : Nat) (yn : Nat → Nat) (yM : Nat → Nat → Nat → Int) (yu : Nat → Int) (hy : Nat → Nat) (hg hf : Nat → Nat → Int) (z9 : Int) (p9 : Int) (z : Int) (ct1 : rm_C) : Prop := ∃ h9 q9 : Nat, z9 = (h9 : Int) ∧ p9 = (q9 : Int) ∧ h9 < hc ∧ 1 ≤ q9 ∧ q9 < yn (hy h9) ∧ ∃ v, stl (yn (hy h9)) (yM (hy h9)) (ub (hg h9) q9 (hg h9 q9 + 1)) v ∧ z = gs v (yn (hy h9)) ∧ ClsAt ty ad ct1 yc hc yn yM (ydg yn yM) yu hy (us hg h9 (gaf (yn (hy h9)) (yM (hy h9)) (ub (hg h9) q9 (hg h9 q9 + 1)) v)) (us hf h9 v)
def x5_drop (ty : Nat → ClassId) (ad : Nat → Nat) (ct : rm_C) (yc hc : Nat) (yn : Nat → Nat) (yM : Nat → Nat → Nat → Int) (yu : Nat → Int) (hy : Nat → Nat) (hg hf : Nat → Nat → Int) (z9 : Int) (p9 : Int) (E : String) (ct1 : rm_C) : Prop := E = xNSE ∧ ((z9 < 0 ∨ (hc : Int) ≤ z9) ∨ ∃ h9 : Nat, z9 = (h9 : Int) ∧ h9 < hc ∧ (p9 < 1 ∨ (yn (hy h9) : Int) ≤ p9)) ∧ ct1 = ct
def p6_drop (ty : Nat → ClassId) (ad : Nat → Nat) (ct : rm_C) (yc hc : Nat) (yn : Nat → Nat) (yM : Nat → Nat → Nat → Int) (yu : Nat → Int) (hy : Nat → Nat) (hg hf : Nat → Nat → Int) (z9 : Int) (p9 : Int) (z : Int) (ct1 : rm_C) : Prop := (∀ q, (q < 1000 ∨ 1016 < q) → ct1 q = ct q) ∧ ((((z9 < 0 ∨ ((hc : Nat) : Int) ≤ z9) ∨ ∃ h9 : Nat, z9 = (h9 : Int) ∧ h9 < hc ∧ (p9 < 1 ∨ (yn (hy h9) : Int) ≤ p9)) ∧ ModX ty ad ct1 1 yc hc yn yM yu hy hg hf) ∨ ∃ h9 q9 : Nat, z9 = (h9 : Int) ∧ p9 = (q9 : Int) ∧ h9 < hc ∧ 1 ≤ q9 ∧ q9 < (yn (hy h9)) ∧ ∃ v, stl (yn (hy h9)) (yM (hy h9)) (ub (hg h9) q9 (hg h9 q9 + 1)) v ∧ z = gs v (yn (hy h9)) ∧ ModX ty ad ct1 0 yc hc yn yM yu hy (us hg h9 (gaf (yn (hy h9)) (yM (hy h9)) (ub (hg h9) q9 (hg h9 q9 + 1)) v)) (us hf h9 v))
def p5_toppled (ty : Nat → ClassId) (ad : Nat → Nat) (ct : rm_C) (yc hc : Nat) (yn : Nat → Nat) (yM : Nat → Nat → Nat → Int) (yu : Nat → Int) (hy : Nat → Nat) (hg hf : Nat → Nat → Int) (z9 : Int) (p9 : Int) (z : Int) (ct1 : rm_C) : Prop := ∃ h9 q9 : Nat, z9 = (h9 : Int) ∧ p9 = (q9 : Int) ∧ h9 < hc ∧ q9 < yn (hy h9) ∧ z = hf h9 q9 ∧ ct1 = ct
def x5_toppled (ty : Nat → ClassId) (ad : Nat → Nat) (ct : rm_C) (yc hc : Nat) (yn : Nat → Nat) (yM : Nat → Nat → Nat → Int) (yu : Nat → Int) (hy : Nat → Nat) (hg hf : Nat → Nat → Int) (z9 : Int) (p9 : Int) (E : String) (ct1 : rm_C) : Prop := E = xNSE ∧ ((z9 < 0 ∨ (hc : Int) ≤ z9) ∨ ∃ h9 : Nat, z9 = (h9 : Int) ∧ h9 < hc ∧ (p9 < 0 ∨ (yn (hy h9) : Int) ≤ p9)) ∧ ct1 = ct
def p6_toppled (ty : Nat → ClassId) (ad : Nat → Nat) (ct : rm_C) (yc hc : Nat) (yn : Nat → Nat) (yM : Nat → Nat → Nat → Int) (yu : Nat → Int) (hy : Nat → Nat) (hg hf : Nat → Nat → Int) (z9 : Int) (p9 : Int) (z : Int) (ct1 : rm_C) : Prop := (∀ q, (q < 1000 ∨ 1016 < q) → ct1 q = ct q) ∧ ((((z9 < 0 ∨ ((hc : Nat) : Int) ≤ z9) ∨ ∃ h9 : Nat, z9 = (h9 : Int) ∧ h9 < hc ∧ (p9 < 0 ∨ (yn (hy h9) : Int) ≤ p9)) ∧ ModX ty ad ct1 1 yc hc yn yM yu hy hg hf) ∨ ∃ h9 q9 : Nat, z9 = (h9 : Int) ∧ p9 = (q9 : Int) ∧ h9 < hc ∧ q9 < yn (hy h9) ∧ z = hf h9 q9 ∧ ModX ty ad ct1 0 yc hc yn yM yu hy hg hf)
def p5_is (ty : Nat → ClassId) (ad : Nat → Nat) (ct : rm_C) (yc hc : Nat) (yn : Nat → Nat) (yM : Nat → Nat → Nat → Int) (yu : Nat → Int) (hy : Nat → Nat) (hg hf : Nat → Nat → Int) (z9 : Int) (w9 : Int) (z : Int) (ct1 : rm_C) : Prop := ∃ h9 : Nat, z9 = (h9 : Int) ∧ h9 < hc ∧ ClsAt ty ad ct1 yc hc yn yM (ydg yn yM) yu hy hg hf ∧ ((w9 = 0 ∧ ((z = 1 ∧ ∀ q, 1 ≤ q → q < yn (hy h9) → hg h9 q < (ydg yn yM) (hy h9) q) ∨ (z = 0 ∧ ∃ q, 1 ≤ q ∧ q < yn (hy h9) ∧ (ydg yn yM) (hy h9) q ≤ hg h9 q))) ∨ (w9 = 1 ∧ brn (yn (hy h9)) (yM (hy h9)) ((ydg yn yM) (hy h9)) (hg h9) z))
def x5_is (ty : Nat → ClassId) (ad : Nat → Nat) (ct : rm_C) (yc hc : Nat) (yn : Nat → Nat) (yM : Nat → Nat → Nat → Int) (yu : Nat → Int) (hy : Nat → Nat) (hg hf : Nat → Nat → Int) (z9 : Int) (w9 : Int) (E : String) (ct1 : rm_C) : Prop := E = xNSE ∧ ((z9 < 0 ∨ (hc : Int) ≤ z9) ∨ (∃ h9 : Nat, z9 = (h9 : Int) ∧ h9 < hc) ∧ (w9 ≠ 0 ∧ w9 ≠ 1)) ∧ ct1 = ct
def p6_is (ty : Nat → ClassId) (ad : Nat → Nat) (ct : rm_C) (yc hc : Nat) (yn : Nat → Nat) (yM : Nat → Nat → Nat → Int) (yu : Nat → Int) (hy : Nat → Nat) (hg hf : Nat → Nat → Int) (z9 : Int) (w9 : Int) (z : Int) (ct1 : rm_C) : Prop := (∀ q, (q < 1000 ∨ 1016 < q) → ct1 q = ct q) ∧ ((((z9 < 0 ∨ ((hc : Nat) : Int) ≤ z9) ∨ (w9 ≠ 0 ∧ w9 ≠ 1)) ∧ ModX ty ad ct1 1 yc hc yn yM yu hy hg hf) ∨ ∃ h9 : Nat, z9 = (h9 : Int) ∧ h9 < hc ∧ ((w9 = 0 ∧ ((z = 1 ∧ ∀ q, 1 ≤ q → q < (yn (hy h9)) → hg h9 q < (dg (yn (hy h9)) (yM (hy h9))) q) ∨ (z = 0 ∧ ∃ q, 1 ≤ q ∧ q < (yn (hy h9)) ∧ (dg (yn (hy h9)) (yM (hy h9))) q ≤ hg h9 q))) ∨ (w9 = 1 ∧ brn (yn (hy h9)) (yM (hy h9)) (dg (yn (hy h9)) (yM (hy h9))) (hg h9) z)) ∧ ModX ty ad ct1 0 yc hc yn yM yu hy hg hf)
def p5_burns (ty : Nat → ClassId) (ad : Nat → Nat) (ct : rm_C) (yc hc : Nat) (yn : Nat → Nat) (yM : Nat → Nat → Nat → Int) (yu : Nat → Int) (hy : Nat → Nat) (hg hf : Nat → Nat → Int) (z9 : Int) (p9 : Int) (z : Int) (ct1 : rm_C) : Prop := ∃ h9 q9 : Nat, z9 = (h9 : Int) ∧ p9 = (q9 : Int) ∧ h9 < hc ∧ q9 < yn (hy h9) ∧ ClsAt ty ad ct1 yc hc yn yM (ydg yn yM) yu hy hg hf ∧ (((∃ q, 1 ≤ q ∧ q < yn (hy h9) ∧ (ydg yn yM) (hy h9) q ≤ hg h9 q) ∧ z = -1) ∨ ((∀ q, 1 ≤ q → q < yn (hy h9) → hg h9 q < (ydg yn yM) (hy h9) q) ∧ z = bit (yn (hy h9)) (yM (hy h9)) ((ydg yn yM) (hy h9)) (hg h9) (yn (hy h9) - 1) q9))
def x5_burns (ty : Nat → ClassId) (ad : Nat → Nat) (ct : rm_C) (yc hc : Nat) (yn : Nat → Nat) (yM : Nat → Nat → Nat → Int) (yu : Nat → Int) (hy : Nat → Nat) (hg hf : Nat → Nat → Int) (z9 : Int) (p9 : Int) (E : String) (ct1 : rm_C) : Prop := E = xNSE ∧ ((z9 < 0 ∨ (hc : Int) ≤ z9) ∨ ∃ h9 : Nat, z9 = (h9 : Int) ∧ h9 < hc ∧ (p9 < 0 ∨ (yn (hy h9) : Int) ≤ p9)) ∧ ct1 = ct
def p6_burns (ty : Nat → ClassId) (ad : Nat → Nat) (ct : rm_C) (yc hc : Nat) (yn : Nat → Nat) (yM : Nat → Nat → Nat → Int) (yu : Nat → Int) (hy : Nat → Nat) (hg hf : Nat → Nat → Int) (z9 : Int) (p9 : Int) (z : Int) (ct1 : rm_C) : Prop := (∀ q, (q < 1000 ∨ 1016 < q) → ct1 q = ct q) ∧ ((((z9 < 0 ∨ ((hc : Nat) : Int) ≤ z9) ∨ ∃ h9 : Nat, z9 = (h9 : Int) ∧ h9 < hc ∧ (p9 < 0 ∨ (yn (hy h9) : Int) ≤ p9)) ∧ ModX ty ad ct1 1 yc hc yn yM yu hy hg hf) ∨ ∃ h9 q9 : Nat, z9 = (h9 : Int) ∧ p9 = (q9 : Int) ∧ h9 < hc ∧ q9 < (yn (hy h9)) ∧ (((∃ q, 1 ≤ q ∧ q < (yn (hy h9)) ∧ (dg (yn (hy h9)) (yM (hy h9))) q ≤ hg h9 q) ∧ z = -1) ∨ ((∀ q, 1 ≤ q → q < (yn (hy h9)) → hg h9 q < (dg (yn (hy h9)) (yM (hy h9))) q) ∧ z = (bit (yn (hy h9)) (yM (hy h9)) (dg (yn (hy h9)) (yM (hy h9))) (hg h9) ((yn (hy h9)) - 1)) q9)) ∧ ModX ty ad ct1 0 yc hc yn yM yu hy hg hf)
def p5_add (ty : Nat → ClassId) (ad : Nat → Nat) (ct : rm_C) (yc hc : Nat) (yn : Nat → Nat) (yM : Nat → Nat → Nat → Int) (yu : Nat → Int) (hy : Nat → Nat) (hg hf : Nat → Nat → Int) (z9 : Int) (w9 : Int) (z : Int) (ct1 : rm_C) : Prop := ∃ h9 o9 : Nat, z9 = (h9 : Int) ∧ w9 = (o9 : Int) ∧ h9 < hc ∧ o9 < hc ∧ hy o9 = hy h9 ∧ ∃ v, stl (yn (hy h9)) (yM (hy h9)) (tkn (yn (hy h9)) (fun q => hg h9 q + hg o9 q) (hg h9)) v ∧ z = gs v (yn (hy h9)) ∧ ClsAt ty ad ct1 yc hc yn yM (ydg yn yM) yu hy (us hg h9 (gaf (yn (hy h9)) (yM (hy h9)) (tkn (yn (hy h9)) (fun q => hg h9 q + hg o9 q) (hg h9)) v)) (us hf h9 v)
def x5_add (ty : Nat → ClassId) (ad : Nat → Nat) (ct : rm_C) (yc hc : Nat) (yn : Nat → Nat) (yM : Nat → Nat → Nat → Int) (yu : Nat → Int) (hy : Nat → Nat) (hg hf : Nat → Nat → Int) (z9 : Int) (w9 : Int) (E : String) (ct1 : rm_C) : Prop := ((E = xNSE ∧ ((z9 < 0 ∨ (hc : Int) ≤ z9) ∨ (w9 < 0 ∨ (hc : Int) ≤ w9))) ∨ (E = xIAE ∧ ∃ h9 o9 : Nat, z9 = (h9 : Int) ∧ w9 = (o9 : Int) ∧ h9 < hc ∧ o9 < hc ∧ hy h9 ≠ hy o9)) ∧ ct1 = ct
def p6_add (ty : Nat → ClassId) (ad : Nat → Nat) (ct : rm_C) (yc hc : Nat) (yn : Nat → Nat) (yM : Nat → Nat → Nat → Int) (yu : Nat → Int) (hy : Nat → Nat) (hg hf : Nat → Nat → Int) (z9 : Int) (w9 : Int) (z : Int) (ct1 : rm_C) : Prop := (∀ q, (q < 1000 ∨ 1016 < q) → ct1 q = ct q) ∧ ((((z9 < 0 ∨ ((hc : Nat) : Int) ≤ z9) ∨ (w9 < 0 ∨ ((hc : Nat) : Int) ≤ w9)) ∧ ModX ty ad ct1 1 yc hc yn yM yu hy hg hf) ∨ ∃ h9 o9 : Nat, z9 = (h9 : Int) ∧ w9 = (o9 : Int) ∧ h9 < hc ∧ o9 < hc ∧ ((hy h9 ≠ hy o9 ∧ ModX ty ad ct1 2 yc hc yn yM yu hy hg hf) ∨ (hy o9 = hy h9 ∧ ∃ v, stl (yn (hy h9)) (yM (hy h9)) (tkn (yn (hy h9)) (fun q => hg h9 q + hg o9 q) (hg h9)) v ∧ z = gs v (yn (hy h9)) ∧ ModX ty ad ct1 0 yc hc yn yM yu hy (us hg h9 (gaf (yn (hy h9)) (yM (hy h9)) (tkn (yn (hy h9)) (fun q => hg h9 q + hg o9 q) (hg h9)) v)) (us hf h9 v))))
def p5_become (ty : Nat → ClassId) (ad : Nat → Nat) (ct : rm_C) (yc hc : Nat) (yn : Nat → Nat) (yM : Nat → Nat → Nat → Int) (yu : Nat → Int) (hy : Nat → Nat) (hg hf : Nat → Nat → Int) (z9 : Int) (w9 : Int) (ct1 : rm_C) : Prop := ∃ h9 : Nat, z9 = (h9 : Int) ∧ h9 < hc ∧ ∃ w, bcm (yn (hy h9)) (yM (hy h9)) ((ydg yn yM) (hy h9)) (hg h9) w9 w ∧ ClsAt ty ad ct1 yc hc yn yM (ydg yn yM) yu hy (us hg h9 (tkn (yn (hy h9)) w (hg h9))) hf
def x5_become (ty : Nat → ClassId) (ad : Nat → Nat) (ct : rm_C) (yc hc : Nat) (yn : Nat → Nat) (yM : Nat → Nat → Nat → Int) (yu : Nat → Int) (hy : Nat → Nat) (hg hf : Nat → Nat → Int) (z9 : Int) (w9 : Int) (E : String) (ct1 : rm_C) : Prop := E = xNSE ∧ ((z9 < 0 ∨ (hc : Int) ≤ z9) ∨ (∃ h9 : Nat, z9 = (h9 : Int) ∧ h9 < hc) ∧ (w9 < 0 ∨ 4 < w9)) ∧ ct1 = ct
def p6_become (ty : Nat → ClassId) (ad : Nat → Nat) (ct : rm_C) (yc hc : Nat) (yn : Nat → Nat) (yM : Nat → Nat → Nat → Int) (yu : Nat → Int) (hy : Nat → Nat) (hg hf : Nat → Nat → Int) (z9 : Int) (w9 : Int) (ct1 : rm_C) : Prop := (∀ q, (q < 1000 ∨ 1016 < q) → ct1 q = ct q) ∧ ((((z9 < 0 ∨ ((hc : Nat) : Int) ≤ z9) ∨ (w9 < 0 ∨ 4 < w9)) ∧ ModX ty ad ct1 1 yc hc yn yM yu hy hg hf) ∨ ∃ h9 : Nat, z9 = (h9 : Int) ∧ h9 < hc ∧ ∃ w, bcm (yn (hy h9)) (yM (hy h9)) (dg (yn (hy h9)) (yM (hy h9))) (hg h9) w9 w ∧ ModX ty ad ct1 0 yc hc yn yM yu hy (us hg h9 (tkn (yn (hy h9)) w (hg h9))) hf)
def p5_alike (ty : Nat → ClassId) (ad : Nat → Nat) (ct : rm_C) (yc hc : Nat) (yn : Nat → Nat) (yM : Nat → Nat → Nat → Int) (yu : Nat → Int) (hy : Nat → Nat) (hg hf : Nat → Nat → Int) (z9 : Int) (w9 : Int) (z : Int) (ct1 : rm_C) : Prop := ∃ h9 o9 : Nat, z9 = (h9 : Int) ∧ w9 = (o9 : Int) ∧ h9 < hc ∧ o9 < hc ∧ hy o9 = hy h9 ∧ ClsAt ty ad ct1 yc hc yn yM (ydg yn yM) yu hy hg hf ∧ ∃ so1 T, (∀ q, 1 ≤ q → q < yn (hy h9) → so1 q = sti (yn (hy h9)) (yM (hy h9)) (hg h9) q - sti (yn (hy h9)) (yM (hy h9)) (hg o9) q) ∧ ((tms (yn (hy h9)) (yM (hy h9)) ((ydg yn yM) (hy h9)) so1 T = 1 ∧ z = 1) ∨ (tms (yn (hy h9)) (yM (hy h9)) ((ydg yn yM) (hy h9)) so1 T ≠ 1 ∧ z = 0))
def x5_alike (ty : Nat → ClassId) (ad : Nat → Nat) (ct : rm_C) (yc hc : Nat) (yn : Nat → Nat) (yM : Nat → Nat → Nat → Int) (yu : Nat → Int) (hy : Nat → Nat) (hg hf : Nat → Nat → Int) (z9 : Int) (w9 : Int) (E : String) (ct1 : rm_C) : Prop := ((E = xNSE ∧ ((z9 < 0 ∨ (hc : Int) ≤ z9) ∨ (w9 < 0 ∨ (hc : Int) ≤ w9))) ∨ (E = xIAE ∧ ∃ h9 o9 : Nat, z9 = (h9 : Int) ∧ w9 = (o9 : Int) ∧ h9 < hc ∧ o9 < hc ∧ hy h9 ≠ hy o9)) ∧ ct1 = ct
def p6_alike (ty : Nat → ClassId) (ad : Nat → Nat) (ct : rm_C) (yc hc : Nat) (yn : Nat → Nat) (yM : Nat → Nat → Nat → Int) (yu : Nat → Int) (hy : Nat → Nat) (hg hf : Nat → Nat → Int) (z9 : Int) (w9 : Int) (z : Int) (ct1 : rm_C) : Prop := (∀ q, (q < 1000 ∨ 1016 < q) → ct1 q = ct q) ∧ ((((z9 < 0 ∨ ((hc : Nat) : Int) ≤ z9) ∨ (w9 < 0 ∨ ((hc : Nat) : Int) ≤ w9)) ∧ ModX ty ad ct1 1 yc hc yn yM yu hy hg hf) ∨ ∃ h9 o9 : Nat, z9 = (h9 : Int) ∧ w9 = (o9 : Int) ∧ h9 < hc ∧ o9 < hc ∧ ((hy h9 ≠ hy o9 ∧ ModX ty ad ct1 2 yc hc yn yM yu hy hg hf) ∨ (hy o9 = hy h9 ∧ ((z = 1 ∧ ∀ p, 1 ≤ p → p < (yn (hy h9)) → trd (yn (hy h9)) (yM (hy h9)) ∣ trn (yn (hy h9)) (yM (hy h9)) (fun q => hg h9 q - hg o9 q) p ((yn (hy h9)) - 1)) ∨ (z = 0 ∧ exm (yn (hy h9)) (yM (hy h9)) (fun q => hg h9 q - hg o9 q))) ∧ ModX ty ad ct1 0 yc hc yn yM yu hy hg hf)))
def p5_order (ty : Nat → ClassId) (ad : Nat → Nat) (ct : rm_C) (yc hc : Nat) (yn : Nat → Nat) (yM : Nat → Nat → Nat → Int) (yu : Nat → Int) (hy : Nat → Nat) (hg hf : Nat → Nat → Int) (z9 : Int) (z : Int) (ct1 : rm_C) : Prop := ∃ h9 : Nat, z9 = (h9 : Int) ∧ h9 < hc ∧ ClsAt ty ad ct1 yc hc yn yM (ydg yn yM) yu hy hg hf ∧ ∃ so1 T, (∀ q, 1 ≤ q → q < yn (hy h9) → so1 q = sti (yn (hy h9)) (yM (hy h9)) (hg h9) q - sti (yn (hy h9)) (yM (hy h9)) (fun _ => 0) q) ∧ z = tms (yn (hy h9)) (yM (hy h9)) ((ydg yn yM) (hy h9)) so1 T
def x5_order (ty : Nat → ClassId) (ad : Nat → Nat) (ct : rm_C) (yc hc : Nat) (yn : Nat → Nat) (yM : Nat → Nat → Nat → Int) (yu : Nat → Int) (hy : Nat → Nat) (hg hf : Nat → Nat → Int) (z9 : Int) (E : String) (ct1 : rm_C) : Prop := E = xNSE ∧ (z9 < 0 ∨ (hc : Int) ≤ z9) ∧ ct1 = ct
def p6_order (ty : Nat → ClassId) (ad : Nat → Nat) (ct : rm_C) (yc hc : Nat) (yn : Nat → Nat) (yM : Nat → Nat → Nat → Int) (yu : Nat → Int) (hy : Nat → Nat) (hg hf : Nat → Nat → Int) (z9 : Int) (z : Int) (ct1 : rm_C) : Prop := (∀ q, (q < 1000 ∨ 1016 < q) → ct1 q = ct q) ∧ (((z9 < 0 ∨ ((hc : Nat) : Int) ≤ z9) ∧ ModX ty ad ct1 1 yc hc yn yM yu hy hg hf) ∨ ∃ h9 : Nat, z9 = (h9 : Int) ∧ h9 < hc ∧ z = Int.tdiv (trd (yn (hy h9)) (yM (hy h9))) ((odg (yn (hy h9)) (yM (hy h9)) (hg h9) ((yn (hy h9)) - 1) : Nat) : Int) ∧ ModX ty ad ct1 0 yc hc yn yM yu hy hg hf)
def p5_tree (ty : Nat → ClassId) (ad : Nat → Nat) (ct : rm_C) (yc hc : Nat) (yn : Nat → Nat) (yM : Nat → Nat → Nat → Int) (yu : Nat → Int) (hy : Nat → Nat) (hg hf : Nat → Nat → Int) (z9 : Int) (p9 : Int) (w9 : Int) (z : Int) (ct1 : rm_C) : Prop := ∃ h9 q9 : Nat, z9 = (h9 : Int) ∧ p9 = (q9 : Int) ∧ h9 < hc ∧ 1 ≤ q9 ∧ q9 < yn (hy h9) ∧ (w9 = 0 ∨ w9 = 1) ∧ brn (yn (hy h9)) (yM (hy h9)) ((ydg yn yM) (hy h9)) (hg h9) 1 ∧ z = trq (yn (hy h9)) (yM (hy h9)) ((ydg yn yM) (hy h9)) (hg h9) (bit (yn (hy h9)) (yM (hy h9)) ((ydg yn yM) (hy h9)) (hg h9) (yn (hy h9) - 1)) q9 w9 ∧ ClsAt ty ad ct1 yc hc yn yM (ydg yn yM) yu hy hg hf
def x5_tree (ty : Nat → ClassId) (ad : Nat → Nat) (ct : rm_C) (yc hc : Nat) (yn : Nat → Nat) (yM : Nat → Nat → Nat → Int) (yu : Nat → Int) (hy : Nat → Nat) (hg hf : Nat → Nat → Int) (z9 : Int) (p9 : Int) (w9 : Int) (E : String) (ct1 : rm_C) : Prop := (E = xNSE ∧ ((z9 < 0 ∨ (hc : Int) ≤ z9) ∨ (∃ h9 : Nat, z9 = (h9 : Int) ∧ h9 < hc ∧ ((p9 < 1 ∨ (yn (hy h9) : Int) ≤ p9) ∨ (w9 ≠ 0 ∧ w9 ≠ 1)))) ∧ ct1 = ct) ∨ (E = xISE ∧ (∃ h9 q9 : Nat, z9 = (h9 : Int) ∧ p9 = (q9 : Int) ∧ h9 < hc ∧ 1 ≤ q9 ∧ q9 < yn (hy h9) ∧ brn (yn (hy h9)) (yM (hy h9)) ((ydg yn yM) (hy h9)) (hg h9) 0) ∧ (w9 = 0 ∨ w9 = 1) ∧ ClsAt ty ad ct1 yc hc yn yM (ydg yn yM) yu hy hg hf)
def p6_tree (ty : Nat → ClassId) (ad : Nat → Nat) (ct : rm_C) (yc hc : Nat) (yn : Nat → Nat) (yM : Nat → Nat → Nat → Int) (yu : Nat → Int) (hy : Nat → Nat) (hg hf : Nat → Nat → Int) (z9 : Int) (p9 : Int) (w9 : Int) (z : Int) (ct1 : rm_C) : Prop := (∀ q, (q < 1000 ∨ 1016 < q) → ct1 q = ct q) ∧ ((((z9 < 0 ∨ ((hc : Nat) : Int) ≤ z9) ∨ ∃ h9 : Nat, z9 = (h9 : Int) ∧ h9 < hc ∧ ((p9 < 1 ∨ (yn (hy h9) : Int) ≤ p9) ∨ (w9 ≠ 0 ∧ w9 ≠ 1))) ∧ ModX ty ad ct1 1 yc hc yn yM yu hy hg hf) ∨ ∃ h9 q9 : Nat, z9 = (h9 : Int) ∧ p9 = (q9 : Int) ∧ h9 < hc ∧ 1 ≤ q9 ∧ q9 < (yn (hy h9)) ∧ (w9 = 0 ∨ w9 = 1) ∧ ((brn (yn (hy h9)) (yM (hy h9)) (dg (yn (hy h9)) (yM (hy h9))) (hg h9) 0 ∧ ModX ty ad ct1 2 yc hc yn yM yu hy hg hf) ∨ (brn (yn (hy h9)) (yM (hy h9)) (dg (yn (hy h9)) (yM (hy h9))) (hg h9) 1 ∧ z = trq (yn (hy h9)) (yM (hy h9)) (dg (yn (hy h9)) (yM (hy h9))) (hg h9) (bit (yn (hy h9)) (yM (hy h9)) (dg (yn (hy h9)) (yM (hy h9))) (hg h9) ((yn (hy h9)) - 1)) q9 w9 ∧ ModX ty ad ct1 0 yc hc yn yM yu hy hg hf)))
def p5_grow (ty : Nat → ClassId) (ad : Nat → Nat) (ct : rm_C) (yc hc : Nat) (yn : Nat → Nat) (yM : Nat → Nat → Nat → Int) (yu : Nat → Int) (hy : Nat → Nat) (hg hf : Nat → Nat → Int) (z9 : Int) (tr : Nat) (z : Int) (ct1 : rm_C) : Prop := ∃ h9 : Nat, z9 = (h9 : Int) ∧ h9 < hc ∧ ((z = 0 ∧ ((∃ p, 1 ≤ p ∧ p < (yn (hy h9)) ∧ (yM (hy h9)) p (tgt tr p) ≤ (pth tr p : Int)) ∨ ((∀ p, 1 ≤ p → p < (yn (hy h9)) → (pth tr p : Int) < (yM (hy h9)) p (tgt tr p)) ∧ ∃ q, q < (yn (hy h9)) ∧ fit9 (yn (hy h9)) tr ((yn (hy h9)) - 1) q = -1)) ∧ ClsAt ty ad ct1 yc hc yn yM (ydg yn yM) yu hy hg hf) ∨ (z = 1 ∧ (∀ p, 1 ≤ p → p < (yn (hy h9)) → (pth tr p : Int) < (yM (hy h9)) p (tgt tr p)) ∧ (∀ q, q < (yn (hy h9)) → fit9 (yn (hy h9)) tr ((yn (hy h9)) - 1) q ≠ -1) ∧ ClsAt ty ad ct1 yc hc yn yM (ydg yn yM) yu hy (us hg h9 (tkn (yn (hy h9)) (grw (yn (hy h9)) (yM (hy h9)) ((ydg yn yM) (hy h9)) tr) (hg h9))) hf))
def x5_grow (ty : Nat → ClassId) (ad : Nat → Nat) (ct : rm_C) (yc hc : Nat) (yn : Nat → Nat) (yM : Nat → Nat → Nat → Int) (yu : Nat → Int) (hy : Nat → Nat) (hg hf : Nat → Nat → Int) (z9 : Int) (tr : Nat) (E : String) (ct1 : rm_C) : Prop := E = xNSE ∧ (z9 < 0 ∨ (hc : Int) ≤ z9) ∧ ct1 = ct
def p6_grow (ty : Nat → ClassId) (ad : Nat → Nat) (ct : rm_C) (yc hc : Nat) (yn : Nat → Nat) (yM : Nat → Nat → Nat → Int) (yu : Nat → Int) (hy : Nat → Nat) (hg hf : Nat → Nat → Int) (z9 : Int) (tr : Nat) (z : Int) (ct1 : rm_C) : Prop := (∀ q, (q < 1000 ∨ 1016 < q) → ct1 q = ct q) ∧ (((z9 < 0 ∨ ((hc : Nat) : Int) ≤ z9) ∧ ModX ty ad ct1 1 yc hc yn yM yu hy hg hf) ∨ ∃ h9 : Nat, z9 = (h9 : Int) ∧ h9 < hc ∧ ((z = 0 ∧ (exb (yn (hy h9)) tr (yM (hy h9)) ∨ ((∀ p, 1 ≤ p → p < (yn (hy h9)) → (pth tr p : Int) < (yM (hy h9)) p (tgt tr p)) ∧ ∃ q, q < (yn (hy h9)) ∧ (fit9 (yn (hy h9)) tr ((yn (hy h9)) - 1)) q = -1)) ∧ ModX ty ad ct1 0 yc hc yn yM yu hy hg hf) ∨ (z = 1 ∧ (∀ p, 1 ≤ p → p < (yn (hy h9)) → (pth tr p : Int) < (yM (hy h9)) p (tgt tr p)) ∧ (∀ q, q < (yn (hy h9)) → (fit9 (yn (hy h9)) tr ((yn (hy h9)) - 1)) q ≠ -1) ∧ ModX ty ad ct1 0 yc hc yn yM yu hy (us hg h9 (tkn (yn (hy h9)) (grw (yn (hy h9)) (yM (hy h9)) (dg (yn (hy h9)) (yM (hy h9))) tr) (hg h9))) hf)))
def p5_count (ty : Nat → ClassId) (ad : Nat → Nat) (ct : rm_C) (yc hc : Nat) (yn : Nat → Nat) (yM : Nat → Nat → Nat → Int) (yu : Nat → Int) (hy : Nat → Nat) (hg hf : Nat → Nat → Int) (w9 : Int) (z : Int) (ct1 : rm_C) : Prop := ((w9 = 0 ∧ z = (yc : Int)) ∨ (w9 = 1 ∧ z = (hc : Int))) ∧ ct1 = ct
def x5_count (ty : Nat → ClassId) (ad : Nat → Nat) (ct : rm_C) (yc hc : Nat) (yn : Nat → Nat) (yM : Nat → Nat → Nat → Int) (yu : Nat → Int) (hy : Nat → Nat) (hg hf : Nat → Nat → Int) (w9 : Int) (E : String) (ct1 : rm_C) : Prop := E = xNSE ∧ (w9 ≠ 0 ∧ w9 ≠ 1) ∧ ct1 = ct
def p6_count (ty : Nat → ClassId) (ad : Nat → Nat) (ct : rm_C) (yc hc : Nat) (yn : Nat → Nat) (yM : Nat → Nat → Nat → Int) (yu : Nat → Int) (hy : Nat → Nat) (hg hf : Nat → Nat → Int) (w9 : Int) (z : Int) (ct1 : rm_C) : Prop := (∀ q, (q < 1000 ∨ 1016 < q) → ct1 q = ct q) ∧ (((w9 ≠ 0 ∧ w9 ≠ 1) ∧ ModX ty ad ct1 1 yc hc yn yM yu hy hg hf) ∨ (((w9 = 0 ∧ z = (yc : Int)) ∨ (w9 = 1 ∧ z = (hc : Int))) ∧ ModX ty ad ct1 0 yc hc yn yM yu hy hg hf))
theorem ClsAt.lo {ty : Nat → ClassId} {ad : Nat → Nat} {ct ct2 : rm_C} {yc hc : Nat} {yn : Nat → Nat} {yM : Nat → Nat → Nat → Int} {yd : Nat → Nat → Int} {yu : Nat → Int} {hy : Nat → Nat} {hg hf : Nat → Nat → Int} (h : ClsAt ty ad ct yc hc yn yM yd yu hy hg hf) (ho : ∀ q, q < 1000 → ct2 q = ct q) : ClsAt ty ad ct2 yc hc yn yM yd yu hy hg hf := by
  obtain ⟨h1, ⟨t0, t1, t2⟩, hH, hY, hP, ny, nh⟩ := h
  refine ⟨h1, ⟨(ho 0 (by omega)).trans t0, (ho 1 (by omega)).trans t1, (ho 2 (by omega)).trans t2⟩, hH.kept (fun q a b => ho q (by omega)), fun y hy2 => (hY y hy2).kept (fun q a b => ho q (by omega)), fun h2 hh => ⟨(hP h2 hh).1, (hP h2 hh).2.kept (fun q a b => ho q (by omega))⟩, fun y a b j hj => (ho _ (by omega)).trans (ny y a b j hj), fun h2 a b j hj => (ho _ (by omega)).trans (nh h2 a b j hj)⟩
theorem ModX.hi {ty : Nat → ClassId} {ad ad2 : Nat → Nat} {ct ct2 : rm_C} {th : Int} {yc hc : Nat} {yn : Nat → Nat} {yM : Nat → Nat → Nat → Int} {yu : Nat → Int} {hy : Nat → Nat} {hg hf : Nat → Nat → Int} (h : ModX ty ad ct th yc hc yn yM yu hy hg hf) (ho : ∀ q, 1000 ≤ q → q ≤ 1016 → ct2 q = ct q) (ha : ∀ q, 1000 ≤ q → ad2 q = ad q) : ModX ty ad2 ct2 th yc hc yn yM yu hy hg hf := by
  obtain ⟨mA, pt, ro, ke, kt, mu, sl, tw, bw, de, h0, h1, h2, h3, h4, h5, h6, h7, h8, h9, h10, h11, h12, h13, h14, h15, h16⟩ := h
  refine ⟨mA, pt, ro, ke, kt, mu, sl, tw, bw, de, (ho 1000 (by omega) (by omega)).trans (h0.trans ?_), (ho _ (by omega) (by omega)).trans h1, (ho _ (by omega) (by omega)).trans h2, (ho _ (by omega) (by omega)).trans h3, (ho _ (by omega) (by omega)).trans h4, (ho _ (by omega) (by omega)).trans h5, (ho _ (by omega) (by omega)).trans h6, (ho _ (by omega) (by omega)).trans h7, (ho _ (by omega) (by omega)).trans h8, (ho _ (by omega) (by omega)).trans h9, (ho _ (by omega) (by omega)).trans h10, (ho _ (by omega) (by omega)).trans h11, (ho _ (by omega) (by omega)).trans h12, (ho _ (by omega) (by omega)).trans h13, (ho _ (by omega) (by omega)).trans h14, (ho _ (by omega) (by omega)).trans h15, (ho _ (by omega) (by omega)).trans h16⟩
  rw [ha 1001 (by omega), ha 1002 (by omega), ha 1003 (by omega), ha 1004 (by omega), ha 1005 (by omega), ha 1006 (by omega), ha 1007 (by omega), ha 1008 (by omega), ha 1009 (by omega), ha 1010 (by omega), ha 1011 (by omega), ha 1012 (by omega), ha 1013 (by omega), ha 1014 (by omega), ha 1015 (by omega), ha 1016 (by omega)]
/-- what stands between the calls -/
def lwSt (ty : Nat → ClassId) (ad : Nat → Nat) (ct : rm_C) (j : Nat) (th : Int) (yc hc : Nat) (yn : Nat → Nat) (yM : Nat → Nat → Nat → Int) (yu : Nat → Int) (hy : Nat → Nat) (hg hf : Nat → Nat → Int) : Prop :=
  ClsAt ty ad ct yc hc yn yM (ydg yn yM) yu hy hg hf ∧ ModX ty ad ct th yc hc yn yM yu hy hg hf ∧ lwInv j yc hc yn yM yu hy hg hf
def lwGo (ty : Nat → ClassId) (ad : Nat → Nat) (ct : rm_C) (j : Nat) (th : Int) (o : Nat → Int) : Prop := (∃ yc hc yn yM yu hy hg hf, lwSt ty ad ct j th yc hc yn yM yu hy hg hf) ∧ ct 2000 = some (rl ty 1 o)
def lwEnd (ty : Nat → ClassId) (ad : Nat → Nat) (ct : rm_C) (j : Nat) (k b : Int) (R : Int → Prop) : Prop := ∃ o, lwGo ty ad ct j k o ∧ (k = 0 ∨ k = 1 ∨ k = 2) ∧ (k = 0 → o 0 = b ∧ R b)
section EndRows
variable {ty : Nat → ClassId} {ad : Nat → Nat} {ct c1 ct1 ct2 : rm_C} {yc hc : Nat} {yn : Nat → Nat} {yM : Nat → Nat → Nat → Int} {yu : Nat → Int} {hy : Nat → Nat} {hg hf : Nat → Nat → Int} {o : Nat → Int} {j : Nat} {z b th : Int} {R : Int → Prop}
theorem end_ok (hR : R z) (hC : ClsAt ty ad c1 yc hc yn yM (ydg yn yM) yu hy hg hf) (hs : ct1 2000 = some (rl ty 1 (ub o 0 z))) (hg1 : ∀ q, q ≠ 2000 → ct1 q = glue c1 ct q) (hof : ∀ q, (q < 1000 ∨ 1016 < q) → ct2 q = ct1 q) (hM : ModX ty ad ct2 0 yc hc yn yM yu hy hg hf) (hI : lwInv j yc hc yn yM yu hy hg hf) (hz : z = b) : lwEnd ty ad ct2 j 0 b R :=
  ⟨ub o 0 z, ⟨⟨yc, hc, yn, yM, yu, hy, hg, hf, hC.lo (fun q hq => (hof q (Or.inl hq)).trans ((hg1 q (by omega)).trans (glue_lo hq))), hM, hI⟩, (hof 2000 (Or.inr (by omega))).trans hs⟩, Or.inl rfl, fun _ => ⟨by rw [ub_s]; exact hz, by rw [← hz]; exact hR⟩⟩
theorem end_no (hC : ClsAt ty ad c1 yc hc yn yM (ydg yn yM) yu hy hg hf) (ho : ct 2000 = some (rl ty 1 o)) (hg1 : ∀ q, ct1 q = glue c1 ct q) (hof : ∀ q, (q < 1000 ∨ 1016 < q) → ct2 q = ct1 q) (hM : ModX ty ad ct2 th yc hc yn yM yu hy hg hf) (hI : lwInv j yc hc yn yM yu hy hg hf) (hth : th = 1 ∨ th = 2) : lwEnd ty ad ct2 j th b R :=
  ⟨o, ⟨⟨yc, hc, yn, yM, yu, hy, hg, hf, hC.lo (fun q hq => (hof q (Or.inl hq)).trans ((hg1 q).trans (glue_lo hq))), hM, hI⟩, (hof 2000 (Or.inr (by omega))).trans ((hg1 2000).trans ((glue_hi (by omega)).trans ho))⟩, Or.inr hth, fun h => by omega⟩
theorem end_v (hC : ClsAt ty ad c1 yc hc yn yM (ydg yn yM) yu hy hg hf) (ho : ct 2000 = some (rl ty 1 o)) (hg1 : ∀ q, ct1 q = glue c1 ct q) (hof : ∀ q, (q < 1000 ∨ 1016 < q) → ct2 q = ct1 q) (hM : ModX ty ad ct2 0 yc hc yn yM yu hy hg hf) (hI : lwInv j yc hc yn yM yu hy hg hf) : lwEnd ty ad ct2 j 0 (o 0) (fun _ => True) :=
  ⟨o, ⟨⟨yc, hc, yn, yM, yu, hy, hg, hf, hC.lo (fun q hq => (hof q (Or.inl hq)).trans ((hg1 q).trans (glue_lo hq))), hM, hI⟩, (hof 2000 (Or.inr (by omega))).trans ((hg1 2000).trans ((glue_hi (by omega)).trans ho))⟩, Or.inl rfl, fun _ => ⟨rfl, trivial⟩⟩
end EndRows
theorem brn_one {n : Nat} {M : Nat → Nat → Int} {d g : Nat → Int} {z b : Int} (h1 : brn n M d g z) (h2 : brn n M d g b) : z = b := by
  rcases h1 with ⟨a1, q, a2, a3, a4⟩ | ⟨a1, a2⟩
  · rcases h2 with ⟨c1, -⟩ | ⟨c1, -⟩
    · omega
    · have := c1 q a2 a3; omega
  · rcases h2 with ⟨c1, q, c2, c3, c4⟩ | ⟨c1, c2⟩
    · have := a1 q c2 c3; omega
    · rcases a2 with ⟨a2, a3⟩ | ⟨a2, q, a3, a4⟩
      · rcases c2 with ⟨c2, c3⟩ | ⟨c2, q, c3, c4⟩
        · omega
        · exact absurd c4 (a3 q c3)
      · rcases c2 with ⟨c2, c3⟩ | ⟨c2, -⟩
        · exact absurd a4 (c3 q a3)
        · omega
theorem bcm_one {n : Nat} {M : Nat → Nat → Int} {d g : Nat → Int} {w9 : Int} {w w' : Nat → Int} (h1 : bcm n M d g w9 w) (h2 : bcm n M d g w9 w') : w = w' ∧ 0 ≤ w9 ∧ w9 ≤ 4 := by
  rcases h1 with ⟨a, rfl⟩ | ⟨a, rfl⟩ | ⟨a, rfl⟩ | ⟨a, rfl⟩ | ⟨a, rfl⟩ <;> rcases h2 with ⟨c, rfl⟩ | ⟨c, rfl⟩ | ⟨c, rfl⟩ | ⟨c, rfl⟩ | ⟨c, rfl⟩ <;> first | exact ⟨rfl, by omega⟩ | (exfalso; omega)

theorem ag_yard {ty : Nat → ClassId} {ad : Nat → Nat} {ct ct1 ct2 : rm_C} {yc hc : Nat} {yn : Nat → Nat} {yM : Nat → Nat → Nat → Int} {yu : Nat → Int} {hy : Nat → Nat} {hg hf : Nat → Nat → Int} {o : Nat → Int} {j : Nat} {k b : Int} {z9 : Int} {c1 : rm_C} {z : Int} (hj : j ≤ 512) (hI : lwInv j yc hc yn yM yu hy hg hf) (hC : ClsAt ty ad ct yc hc yn yM (ydg yn yM) yu hy hg hf) (ho : ct 2000 = some (rl ty 1 o)) (h1 : p5_yard ty ad (cutC ct) yc hc yn yM yu hy hg hf z9 z c1) (hgl : ∀ q, ct1 q = glue c1 ct q) (h2 : p6_yard ty ad ct1 yc hc yn yM yu hy hg hf z9 b ct2) : (z = b ∧ r32 b) ∧ lwEnd ty ad ct2 (j + 1) 0 (o 0) (fun _ => True) := by
  obtain ⟨hof, h2⟩ := h2
  have hCc : ClsAt ty ad (cutC ct) yc hc yn yM (ydg yn yM) yu hy hg hf := hC.lo (fun q hq => cutC_lo hq)
  have hyc := hI.1.1
  rcases h1 with ⟨c5, z5, rfl⟩ | ⟨u1, p, e1, l1, l2, z5, hC1⟩
  · rcases h2 with ⟨c6, z6, hM⟩ | ⟨v1, p2, f1, m1, m2, z6, hM⟩
    · exact ⟨⟨z5.trans z6.symm, by omega, by omega⟩, end_v hCc ho hgl hof hM (iv_up hI)⟩
    · exfalso; omega
  · rcases h2 with ⟨c6, z6, hM⟩ | ⟨v1, p2, f1, m1, m2, z6, hM⟩
    · exfalso; omega
    · obtain rfl : p2 = p := by omega
      have h4 := hI.2.2.2.1 yc (Nat.le_refl _)
      have hd : us (ydg yn yM) yc (fun _ => 0) = ydg (us yn yc p2) yM := by
        funext y
        by_cases e : y = yc
        · rw [e, us_s]
          unfold ydg
          rw [us_s, h4.1, dg_z]
        · rw [us_n _ _ e]
          unfold ydg
          rw [us_n _ _ e]
      rw [us_same h4.1, us_same h4.2, hd] at hC1
      exact ⟨⟨z5.trans z6.symm, by omega, by omega⟩, end_v hC1 ho hgl hof hM (iv_yard hI u1 l1 l2)⟩
theorem ag_path {ty : Nat → ClassId} {ad : Nat → Nat} {ct ct1 ct2 : rm_C} {yc hc : Nat} {yn : Nat → Nat} {yM : Nat → Nat → Nat → Int} {yu : Nat → Int} {hy : Nat → Nat} {hg hf : Nat → Nat → Int} {o : Nat → Int} {j : Nat} {k b : Int} {z9 : Int} {p9 : Int} {r9 : Int} {n9 : Int} (hj : j ≤ 512) (hI : lwInv j yc hc yn yM yu hy hg hf) (hC : ClsAt ty ad ct yc hc yn yM (ydg yn yM) yu hy hg hf) (ho : ct 2000 = some (rl ty 1 o)) {R : Int → Prop} (hrz : ∀ z c1, p5_path ty ad (cutC ct) yc hc yn yM yu hy hg hf z9 p9 r9 n9 z c1 → R z) (h1 : (k = 0 ∧ ∃ z c1, p5_path ty ad (cutC ct) yc hc yn yM yu hy hg hf z9 p9 r9 n9 z c1 ∧ ct1 2000 = some (rl ty 1 (ub o 0 z)) ∧ ∀ q, q ≠ 2000 → ct1 q = glue c1 ct q) ∨ (k = 1 ∧ ∃ c1, x5_path ty ad (cutC ct) yc hc yn yM yu hy hg hf z9 p9 r9 n9 xNSE c1 ∧ ∀ q, ct1 q = glue c1 ct q)) (h2 : p6_path ty ad ct1 yc hc yn yM yu hy hg hf z9 p9 r9 n9 b ct2) : lwEnd ty ad ct2 (j + 1) k b R := by
  have hCc : ClsAt ty ad (cutC ct) yc hc yn yM (ydg yn yM) yu hy hg hf := hC.lo (fun q hq => cutC_lo hq)
  obtain ⟨hof, h2⟩ := h2
  rcases h1 with ⟨rfl, z, c1, hp, hs, hgl⟩ | ⟨rfl, c1, hp, hgl⟩
  · have hRz := hrz z c1 hp
    obtain ⟨y9, a9, b9, e1, e2, e3, l1, l2, l3, hp⟩ := hp
    rcases h2 with ⟨hx, hM⟩ | ⟨y8, a8, b8, f1, f2, f3, m1, m2, m3, h2⟩
    · exfalso
      rcases hx with hx | ⟨y8, f1, m1, hx⟩
      · omega
      · obtain rfl : y8 = y9 := by omega
        omega
    · obtain rfl : y8 = y9 := by omega
      obtain rfl : a8 = a9 := by omega
      obtain rfl : b8 = b9 := by omega
      rcases hp with ⟨c5, z5, rfl⟩ | ⟨u1, u2, u3, u4, z5, hC1⟩
      · rcases h2 with ⟨c6, z6, hM⟩ | ⟨w1, w2, w3, w4, z6, hM⟩
        · exact end_ok hRz hCc hs hgl hof hM (iv_up hI) (z5.trans z6.symm)
        · exfalso; omega
      · rcases h2 with ⟨c6, z6, hM⟩ | ⟨w1, w2, w3, w4, z6, hM⟩
        · exfalso; omega
        · have hk := hI.2.1 y8 l1
          have hd : us (ydg yn yM) y8 (lyd (ydg yn yM y8) a8 b8 (n9 - yM y8 a8 b8)) = ydg yn (us yM y8 (lyM (yM y8) a8 b8 n9)) := by
            funext y
            by_cases e : y = y8
            · rw [e, us_s]
              unfold ydg
              rw [us_s]
              exact lyd_dg hk l2 l3 u3 n9
            · rw [us_n _ _ e]
              unfold ydg
              rw [us_n _ _ e]
          rw [hd] at hC1
          exact end_ok hRz hC1 hs hgl hof hM (iv_path hI l1 u4 l2 l3 u3 u1 u2) (z5.trans z6.symm)
  · obtain ⟨-, hx5, rfl⟩ := hp
    rcases h2 with ⟨hx, hM⟩ | ⟨y8, a8, b8, f1, f2, f3, m1, m2, m3, h2⟩
    · exact end_no hCc ho hgl hof hM (iv_up hI) (Or.inl rfl)
    · exfalso
      rcases hx5 with hx | ⟨y9, e1, l1, hx⟩
      · omega
      · obtain rfl : y8 = y9 := by omega
        omega
theorem ag_degree {ty : Nat → ClassId} {ad : Nat → Nat} {ct ct1 ct2 : rm_C} {yc hc : Nat} {yn : Nat → Nat} {yM : Nat → Nat → Nat → Int} {yu : Nat → Int} {hy : Nat → Nat} {hg hf : Nat → Nat → Int} {o : Nat → Int} {j : Nat} {k b : Int} {z9 : Int} {p9 : Int} (hj : j ≤ 512) (hI : lwInv j yc hc yn yM yu hy hg hf) (hC : ClsAt ty ad ct yc hc yn yM (ydg yn yM) yu hy hg hf) (ho : ct 2000 = some (rl ty 1 o)) {R : Int → Prop} (hrz : ∀ z c1, p5_degree ty ad (cutC ct) yc hc yn yM yu hy hg hf z9 p9 z c1 → R z) (h1 : (k = 0 ∧ ∃ z c1, p5_degree ty ad (cutC ct) yc hc yn yM yu hy hg hf z9 p9 z c1 ∧ ct1 2000 = some (rl ty 1 (ub o 0 z)) ∧ ∀ q, q ≠ 2000 → ct1 q = glue c1 ct q) ∨ (k = 1 ∧ ∃ c1, x5_degree ty ad (cutC ct) yc hc yn yM yu hy hg hf z9 p9 xNSE c1 ∧ ∀ q, ct1 q = glue c1 ct q)) (h2 : p6_degree ty ad ct1 yc hc yn yM yu hy hg hf z9 p9 b ct2) : lwEnd ty ad ct2 (j + 1) k b R := by
  have hCc : ClsAt ty ad (cutC ct) yc hc yn yM (ydg yn yM) yu hy hg hf := hC.lo (fun q hq => cutC_lo hq)
  obtain ⟨hof, h2⟩ := h2
  rcases h1 with ⟨rfl, z, c1, hp, hs, hgl⟩ | ⟨rfl, c1, hp, hgl⟩
  · have hRz := hrz z c1 hp
    obtain ⟨y9, q9, e1, e2, l1, l2, e3, rfl⟩ := hp
    rcases h2 with ⟨hx, hM⟩ | ⟨y8, q8, f1, f2, m1, m2, f3, hM⟩
    · exfalso
      rcases hx with hx | ⟨y8, f1, m1, hx⟩
      · omega
      · obtain rfl : y8 = y9 := by omega
        omega
    · obtain rfl : y8 = y9 := by omega
      obtain rfl : q8 = q9 := by omega
      exact end_ok hRz hCc hs hgl hof hM (iv_up hI) (e3.trans f3.symm)
  · obtain ⟨-, hx5, rfl⟩ := hp
    rcases h2 with ⟨hx, hM⟩ | ⟨y8, q8, f1, f2, m1, m2, f3, hM⟩
    · exact end_no hCc ho hgl hof hM (iv_up hI) (Or.inl rfl)
    · exfalso
      rcases hx5 with hx | ⟨y9, e1, l1, hx⟩
      · omega
      · obtain rfl : y8 = y9 := by omega
        omega
theorem ag_whole {ty : Nat → ClassId} {ad : Nat → Nat} {ct ct1 ct2 : rm_C} {yc hc : Nat} {yn : Nat → Nat} {yM : Nat → Nat → Nat → Int} {yu : Nat → Int} {hy : Nat → Nat} {hg hf : Nat → Nat → Int} {o : Nat → Int} {j : Nat} {k b : Int} {z9 : Int} (hj : j ≤ 512) (hI : lwInv j yc hc yn yM yu hy hg hf) (hC : ClsAt ty ad ct yc hc yn yM (ydg yn yM) yu hy hg hf) (ho : ct 2000 = some (rl ty 1 o)) {R : Int → Prop} (hrz : ∀ z c1, p5_whole ty ad (cutC ct) yc hc yn yM yu hy hg hf z9 z c1 → R z) (h1 : (k = 0 ∧ ∃ z c1, p5_whole ty ad (cutC ct) yc hc yn yM yu hy hg hf z9 z c1 ∧ ct1 2000 = some (rl ty 1 (ub o 0 z)) ∧ ∀ q, q ≠ 2000 → ct1 q = glue c1 ct q) ∨ (k = 1 ∧ ∃ c1, x5_whole ty ad (cutC ct) yc hc yn yM yu hy hg hf z9 xNSE c1 ∧ ∀ q, ct1 q = glue c1 ct q)) (h2 : p6_whole ty ad ct1 yc hc yn yM yu hy hg hf z9 b ct2) : lwEnd ty ad ct2 (j + 1) k b R := by
  have hCc : ClsAt ty ad (cutC ct) yc hc yn yM (ydg yn yM) yu hy hg hf := hC.lo (fun q hq => cutC_lo hq)
  obtain ⟨hof, h2⟩ := h2
  rcases h1 with ⟨rfl, z, c1, hp, hs, hgl⟩ | ⟨rfl, c1, hp, hgl⟩
  · have hRz := hrz z c1 hp
    obtain ⟨y9, e1, l1, e3, rfl⟩ := hp
    rcases h2 with ⟨hx, hM⟩ | ⟨y8, f1, m1, f3, hM⟩
    · exfalso; omega
    · obtain rfl : y8 = y9 := by omega
      refine end_ok hRz hCc hs hgl hof hM (iv_up hI) ?_
      rw [e3, f3]
      by_cases h : jit (yn y8) (yM y8) (yn y8 - 1) = 2 ^ yn y8 - 1
      · rw [if_pos h, if_pos ((iv_w hI l1).mp h)]
      · rw [if_neg h, if_neg (fun h2 => h ((iv_w hI l1).mpr h2))]
  · obtain ⟨-, hx5, rfl⟩ := hp
    rcases h2 with ⟨hx, hM⟩ | ⟨y8, f1, m1, f3, hM⟩
    · exact end_no hCc ho hgl hof hM (iv_up hI) (Or.inl rfl)
    · exfalso; omega
theorem ag_trees {ty : Nat → ClassId} {ad : Nat → Nat} {ct ct1 ct2 : rm_C} {yc hc : Nat} {yn : Nat → Nat} {yM : Nat → Nat → Nat → Int} {yu : Nat → Int} {hy : Nat → Nat} {hg hf : Nat → Nat → Int} {o : Nat → Int} {j : Nat} {k b : Int} {z9 : Int} (hj : j ≤ 512) (hI : lwInv j yc hc yn yM yu hy hg hf) (hC : ClsAt ty ad ct yc hc yn yM (ydg yn yM) yu hy hg hf) (ho : ct 2000 = some (rl ty 1 o)) {R : Int → Prop} (hrz : ∀ z c1, p5_trees ty ad (cutC ct) yc hc yn yM yu hy hg hf z9 z c1 → R z) (h1 : (k = 0 ∧ ∃ z c1, p5_trees ty ad (cutC ct) yc hc yn yM yu hy hg hf z9 z c1 ∧ ct1 2000 = some (rl ty 1 (ub o 0 z)) ∧ ∀ q, q ≠ 2000 → ct1 q = glue c1 ct q) ∨ (k = 1 ∧ ∃ c1, x5_trees ty ad (cutC ct) yc hc yn yM yu hy hg hf z9 xNSE c1 ∧ ∀ q, ct1 q = glue c1 ct q)) (h2 : p6_trees ty ad ct1 yc hc yn yM yu hy hg hf z9 b ct2) : lwEnd ty ad ct2 (j + 1) k b R := by
  have hCc : ClsAt ty ad (cutC ct) yc hc yn yM (ydg yn yM) yu hy hg hf := hC.lo (fun q hq => cutC_lo hq)
  obtain ⟨hof, h2⟩ := h2
  rcases h1 with ⟨rfl, z, c1, hp, hs, hgl⟩ | ⟨rfl, c1, hp, hgl⟩
  · have hRz := hrz z c1 hp
    obtain ⟨y9, T, e1, l1, hp, hC1⟩ := hp
    rcases h2 with ⟨hx, hM⟩ | ⟨y8, f1, m1, h2, hM⟩
    · exfalso; omega
    · obtain rfl : y8 = y9 := by omega
      refine end_ok hRz hC1 hs hgl hof hM (iv_up hI) ?_
      rcases hp with ⟨hj5, hz⟩ | ⟨hj5, hz⟩
      · rcases h2 with ⟨hj6, hb⟩ | ⟨hj6, hb⟩
        · rw [hz, hb]; exact trs_trd (hI.2.1 y8 l1) (iv_cy hI l1 hj5) T
        · exact absurd ((iv_w hI l1).mp hj5) hj6
      · rcases h2 with ⟨hj6, hb⟩ | ⟨hj6, hb⟩
        · exact absurd ((iv_w hI l1).mpr hj6) hj5
        · exact hz.trans hb.symm
  · obtain ⟨-, hx5, rfl⟩ := hp
    rcases h2 with ⟨hx, hM⟩ | ⟨y8, f1, m1, f3, hM⟩
    · exact end_no hCc ho hgl hof hM (iv_up hI) (Or.inl rfl)
    · exfalso; omega
theorem ag_part {ty : Nat → ClassId} {ad : Nat → Nat} {ct ct1 ct2 : rm_C} {yc hc : Nat} {yn : Nat → Nat} {yM : Nat → Nat → Nat → Int} {yu : Nat → Int} {hy : Nat → Nat} {hg hf : Nat → Nat → Int} {o : Nat → Int} {j : Nat} {k b : Int} {z9 : Int} {w9 : Int} (hj : j ≤ 512) (hI : lwInv j yc hc yn yM yu hy hg hf) (hC : ClsAt ty ad ct yc hc yn yM (ydg yn yM) yu hy hg hf) (ho : ct 2000 = some (rl ty 1 o)) {R : Int → Prop} (hrz : ∀ z c1, p5_part ty ad (cutC ct) yc hc yn yM yu hy hg hf z9 w9 z c1 → R z) (h1 : (k = 0 ∧ ∃ z c1, p5_part ty ad (cutC ct) yc hc yn yM yu hy hg hf z9 w9 z c1 ∧ ct1 2000 = some (rl ty 1 (ub o 0 z)) ∧ ∀ q, q ≠ 2000 → ct1 q = glue c1 ct q) ∨ (k = 1 ∧ ∃ c1, x5_part ty ad (cutC ct) yc hc yn yM yu hy hg hf z9 w9 xNSE c1 ∧ ∀ q, ct1 q = glue c1 ct q) ∨ (k = 2 ∧ ∃ c1, x5_part ty ad (cutC ct) yc hc yn yM yu hy hg hf z9 w9 xISE c1 ∧ ∀ q, ct1 q = glue c1 ct q)) (h2 : p6_part ty ad ct1 yc hc yn yM yu hy hg hf z9 w9 b ct2) : lwEnd ty ad ct2 (j + 1) k b R := by
  have hCc : ClsAt ty ad (cutC ct) yc hc yn yM (ydg yn yM) yu hy hg hf := hC.lo (fun q hq => cutC_lo hq)
  obtain ⟨hof, h2⟩ := h2
  have hR : ∀ {y9 : Nat} {T T2 : Nat → Nat → Int} {r R9 : Nat → Int}, y9 < yc → jit (yn y9) (yM y9) (yn y9 - 1) = 2 ^ yn y9 - 1 → R9 = rdp (yn y9) (yM y9) (ydg yn yM y9) (trs (yn y9) (yM y9) (ydg yn yM y9) T) r T2 → cnd (dvs (yn y9) (yM y9)) (yn y9 - 1) + ons R9 (yn y9 - 1) = yn y9 - 1 ∧ ∀ a, a < yn y9 - 1 → dvs (yn y9) (yM y9) (a + 1) ≠ dvs (yn y9) (yM y9) a → a = ons R9 (yn y9 - 1) + cnd (dvs (yn y9) (yM y9)) a ∧ ((dvs (yn y9) (yM y9) (a + 1) / dvs (yn y9) (yM y9) a : Nat) : Int) = R9 a := fun {y9 T T2 r R9} hy9 hj9 hR9 => by
    have hk := hI.2.1 y9 hy9
    have hc9 := iv_cy hI hy9 hj9
    have ht := trd_pos hk hc9
    have hT : trs (yn y9) (yM y9) (ydg yn yM y9) T = trd (yn y9) (yM y9) := trs_trd hk hc9 T
    rw [hT] at hR9
    exact parts_eq hk hk.1 hk.2.1 ht.1 (by omega) r T2 hR9
  rcases h1 with ⟨rfl, z, c1, hp, hs, hgl⟩ | ⟨rfl, c1, hp, hgl⟩ | ⟨rfl, c1, hp, hgl⟩
  · have hRz := hrz z c1 hp
    obtain ⟨y9, T, T2, r, R9, e1, l1, hj5, hR9, hp, hC1⟩ := hp
    obtain ⟨g1, g2⟩ := hR l1 hj5 hR9
    rcases h2 with ⟨hx, hM⟩ | ⟨⟨y8, f1, m1, hj6⟩, hM⟩ | ⟨y8, f1, m1, hj6, h2, hM⟩
    · exfalso
      rcases hx with hx | ⟨y8, f1, m1, hj6, hx⟩
      · omega
      · obtain rfl : y8 = y9 := by omega
        rcases hp with ⟨w1, -⟩ | ⟨i9, w1, w2, -⟩ <;> omega
    · obtain rfl : y8 = y9 := by omega
      exact absurd ((iv_w hI l1).mp hj5) hj6
    · obtain rfl : y8 = y9 := by omega
      refine end_ok hRz hC1 hs hgl hof hM (iv_up hI) ?_
      rcases hp with ⟨w1, hz⟩ | ⟨i9, w1, w2, hz⟩
      · rcases h2 with ⟨v1, hb⟩ | ⟨i8, a8, v1, v2, v3, v4, hb⟩
        · omega
        · exfalso; omega
      · rcases h2 with ⟨v1, hb⟩ | ⟨i8, a8, v1, v2, v3, v4, hb⟩
        · exfalso; omega
        · obtain ⟨g3, g4⟩ := g2 a8 v2 v3
          have g5 : ons R9 (yn y8 - 1) + i9 = a8 := by omega
          rw [hz, hb, g5]; exact g4.symm
  · rcases hp with ⟨-, hx5, rfl⟩ | ⟨h, -⟩ | ⟨-, ⟨y9, T, T2, r, R9, e1, l1, hj5, hR9, w1, w2⟩, hC1⟩
    · rcases h2 with ⟨hx, hM⟩ | ⟨⟨y8, f1, m1, hj6⟩, hM⟩ | ⟨y8, f1, m1, hj6, h2, hM⟩
      · exact end_no hCc ho hgl hof hM (iv_up hI) (Or.inl rfl)
      · exfalso; omega
      · exfalso; omega
    · exact absurd h (by decide)
    · obtain ⟨g1, g2⟩ := hR l1 hj5 hR9
      rcases h2 with ⟨hx, hM⟩ | ⟨⟨y8, f1, m1, hj6⟩, hM⟩ | ⟨y8, f1, m1, hj6, h2, hM⟩
      · exact end_no hC1 ho hgl hof hM (iv_up hI) (Or.inl rfl)
      · obtain rfl : y8 = y9 := by omega
        exact absurd ((iv_w hI l1).mp hj5) hj6
      · exfalso
        obtain rfl : y8 = y9 := by omega
        rcases h2 with ⟨v1, hb⟩ | ⟨i8, a8, v1, v2, v3, v4, hb⟩
        · omega
        · obtain ⟨g3, g4⟩ := g2 a8 v2 v3
          omega
  · rcases hp with ⟨h, -⟩ | ⟨-, ⟨y9, e1, l1, hj5⟩, rfl⟩ | ⟨h, -⟩
    · exact absurd h (by decide)
    · rcases h2 with ⟨hx, hM⟩ | ⟨⟨y8, f1, m1, hj6⟩, hM⟩ | ⟨y8, f1, m1, hj6, h2, hM⟩
      · exfalso
        rcases hx with hx | ⟨y8, f1, m1, hj6, hx⟩
        · omega
        · obtain rfl : y8 = y9 := by omega
          exact hj5 ((iv_w hI l1).mpr hj6)
      · exact end_no hCc ho hgl hof hM (iv_up hI) (Or.inr rfl)
      · exfalso
        obtain rfl : y8 = y9 := by omega
        exact hj5 ((iv_w hI l1).mpr hj6)
    · exact absurd h (by decide)
theorem ag_heap {ty : Nat → ClassId} {ad : Nat → Nat} {ct ct1 ct2 : rm_C} {yc hc : Nat} {yn : Nat → Nat} {yM : Nat → Nat → Nat → Int} {yu : Nat → Int} {hy : Nat → Nat} {hg hf : Nat → Nat → Int} {o : Nat → Int} {j : Nat} {k b : Int} {ad1 : Nat → Nat} {z9 : Int} (hj : j ≤ 512) (hI : lwInv j yc hc yn yM yu hy hg hf) (hC : ClsAt ty ad ct yc hc yn yM (ydg yn yM) yu hy hg hf) (ho : ct 2000 = some (rl ty 1 o)) {R : Int → Prop} (hrz : ∀ z c1 ad1, p5_heap ty ad (cutC ct) yc hc yn yM yu hy hg hf z9 z c1 ad1 → R z) (h1 : (k = 0 ∧ ∃ z c1, p5_heap ty ad (cutC ct) yc hc yn yM yu hy hg hf z9 z c1 ad1 ∧ ct1 2000 = some (rl ty 1 (ub o 0 z)) ∧ ∀ q, q ≠ 2000 → ct1 q = glue c1 ct q) ∨ (k = 1 ∧ ∃ c1, x5_heap ty ad (cutC ct) yc hc yn yM yu hy hg hf z9 xNSE c1 ∧ ad1 = ad ∧ ∀ q, ct1 q = glue c1 ct q)) (h2 : p6_heap ty ad1 ct1 yc hc yn yM yu hy hg hf z9 b ct2) : lwEnd ty ad1 ct2 (j + 1) k b R := by
  have hCc : ClsAt ty ad (cutC ct) yc hc yn yM (ydg yn yM) yu hy hg hf := hC.lo (fun q hq => cutC_lo hq)
  obtain ⟨hof, h2⟩ := h2
  rcases h1 with ⟨rfl, z, c1, hp, hs, hgl⟩ | ⟨rfl, c1, hp, rfl, hgl⟩
  · have hRz := hrz z c1 ad1 hp
    obtain ⟨y9, e1, l1, hp⟩ := hp
    rcases h2 with ⟨hx, hM⟩ | ⟨y8, f1, m1, h2⟩
    · exfalso; omega
    · obtain rfl : y8 = y9 := by omega
      rcases hp with ⟨c5, z5, rfl, rfl⟩ | ⟨u1, u2, z5, -, hC1⟩
      · rcases h2 with ⟨c6, z6, hM⟩ | ⟨w1, w2, z6, hM⟩
        · exact end_ok hRz hCc hs hgl hof hM (iv_up hI) (z5.trans z6.symm)
        · exfalso
          rcases c5 with c5 | c5
          · omega
          · exact c5 ((iv_w hI l1).mpr w2)
      · rcases h2 with ⟨c6, z6, hM⟩ | ⟨w1, w2, z6, hM⟩
        · exfalso
          rcases c6 with c6 | c6
          · omega
          · exact c6 ((iv_w hI l1).mp u2)
        · have h5 := hI.2.2.2.2.1 hc (Nat.le_refl _)
          rw [us_same h5.1, us_same h5.2] at hC1
          exact end_ok hRz hC1 hs hgl hof hM (iv_new hI l1 u1 u2) (z5.trans z6.symm)
  · obtain ⟨-, hx5, rfl⟩ := hp
    rcases h2 with ⟨hx, hM⟩ | ⟨y8, f1, m1, h2⟩
    · exact end_no hCc ho hgl hof hM (iv_up hI) (Or.inl rfl)
    · exfalso; omega
theorem ag_set {ty : Nat → ClassId} {ad : Nat → Nat} {ct ct1 ct2 : rm_C} {yc hc : Nat} {yn : Nat → Nat} {yM : Nat → Nat → Nat → Int} {yu : Nat → Int} {hy : Nat → Nat} {hg hf : Nat → Nat → Int} {o : Nat → Int} {j : Nat} {k b : Int} {z9 : Int} {p9 : Int} {n9 : Int} (hj : j ≤ 512) (hI : lwInv j yc hc yn yM yu hy hg hf) (hC : ClsAt ty ad ct yc hc yn yM (ydg yn yM) yu hy hg hf) (ho : ct 2000 = some (rl ty 1 o)) {R : Int → Prop} (hrz : ∀ z c1, p5_set ty ad (cutC ct) yc hc yn yM yu hy hg hf z9 p9 n9 z c1 → R z) (h1 : (k = 0 ∧ ∃ z c1, p5_set ty ad (cutC ct) yc hc yn yM yu hy hg hf z9 p9 n9 z c1 ∧ ct1 2000 = some (rl ty 1 (ub o 0 z)) ∧ ∀ q, q ≠ 2000 → ct1 q = glue c1 ct q) ∨ (k = 1 ∧ ∃ c1, x5_set ty ad (cutC ct) yc hc yn yM yu hy hg hf z9 p9 n9 xNSE c1 ∧ ∀ q, ct1 q = glue c1 ct q) ∨ (k = 2 ∧ ∃ c1, x5_set ty ad (cutC ct) yc hc yn yM yu hy hg hf z9 p9 n9 xIAE c1 ∧ ∀ q, ct1 q = glue c1 ct q)) (h2 : p6_set ty ad ct1 yc hc yn yM yu hy hg hf z9 p9 n9 b ct2) : lwEnd ty ad ct2 (j + 1) k b R := by
  have hCc : ClsAt ty ad (cutC ct) yc hc yn yM (ydg yn yM) yu hy hg hf := hC.lo (fun q hq => cutC_lo hq)
  obtain ⟨hof, h2⟩ := h2
  rcases h1 with ⟨rfl, z, c1, hp, hs, hgl⟩ | ⟨rfl, c1, hp, hgl⟩ | ⟨rfl, c1, hp, hgl⟩
  · have hRz := hrz z c1 hp
    obtain ⟨h9, q9, e1, e2, l1, l2, l3, l4, l5, z5, hC1⟩ := hp
    rcases h2 with ⟨hx, hM⟩ | ⟨h8, q8, f1, f2, m1, m2, m3, h2⟩
    · exfalso
      rcases hx with hx | ⟨h8, f1, m1, hx⟩
      · omega
      · obtain rfl : h8 = h9 := by omega
        omega
    · obtain rfl : h8 = h9 := by omega
      obtain rfl : q8 = q9 := by omega
      rcases h2 with ⟨hx, hM⟩ | ⟨w1, w2, z6, hM⟩
      · exfalso; omega
      · have h7 := hI.2.2.2.2.2.2 h8 l1
        refine end_ok hRz hC1 hs hgl hof hM (iv_heapg hI l1 (fun q a c => ?_) ?_) (z5.trans z6.symm)
        · by_cases e : q = q8
          · rw [e, ub_s]; exact l4
          · rw [ub_n _ _ e]; exact h7.1 q a c
        · rw [psum_set _ _ l2 l3]
          have := h7.1 q8 l2 l3
          have := h7.2
          push_cast
          omega
  · rcases hp with ⟨-, hx5, rfl⟩ | ⟨h, -⟩
    · rcases h2 with ⟨hx, hM⟩ | ⟨h8, q8, f1, f2, m1, m2, m3, h2⟩
      · exact end_no hCc ho hgl hof hM (iv_up hI) (Or.inl rfl)
      · exfalso
        rcases hx5 with hx | ⟨h9, e1, l1, hx⟩
        · omega
        · obtain rfl : h8 = h9 := by omega
          omega
    · exact absurd h (by decide)
  · rcases hp with ⟨h, -⟩ | ⟨-, ⟨h9, q9, e1, e2, l1, l2, l3⟩, hx5, rfl⟩
    · exact absurd h (by decide)
    · rcases h2 with ⟨hx, hM⟩ | ⟨h8, q8, f1, f2, m1, m2, m3, h2⟩
      · exfalso
        rcases hx with hx | ⟨h8, f1, m1, hx⟩
        · omega
        · obtain rfl : h8 = h9 := by omega
          omega
      · rcases h2 with ⟨hx, hM⟩ | ⟨w1, w2, z6, hM⟩
        · exact end_no hCc ho hgl hof hM (iv_up hI) (Or.inr rfl)
        · exfalso; omega
theorem ag_grains {ty : Nat → ClassId} {ad : Nat → Nat} {ct ct1 ct2 : rm_C} {yc hc : Nat} {yn : Nat → Nat} {yM : Nat → Nat → Nat → Int} {yu : Nat → Int} {hy : Nat → Nat} {hg hf : Nat → Nat → Int} {o : Nat → Int} {j : Nat} {k b : Int} {z9 : Int} {p9 : Int} (hj : j ≤ 512) (hI : lwInv j yc hc yn yM yu hy hg hf) (hC : ClsAt ty ad ct yc hc yn yM (ydg yn yM) yu hy hg hf) (ho : ct 2000 = some (rl ty 1 o)) {R : Int → Prop} (hrz : ∀ z c1, p5_grains ty ad (cutC ct) yc hc yn yM yu hy hg hf z9 p9 z c1 → R z) (h1 : (k = 0 ∧ ∃ z c1, p5_grains ty ad (cutC ct) yc hc yn yM yu hy hg hf z9 p9 z c1 ∧ ct1 2000 = some (rl ty 1 (ub o 0 z)) ∧ ∀ q, q ≠ 2000 → ct1 q = glue c1 ct q) ∨ (k = 1 ∧ ∃ c1, x5_grains ty ad (cutC ct) yc hc yn yM yu hy hg hf z9 p9 xNSE c1 ∧ ∀ q, ct1 q = glue c1 ct q)) (h2 : p6_grains ty ad ct1 yc hc yn yM yu hy hg hf z9 p9 b ct2) : lwEnd ty ad ct2 (j + 1) k b R := by
  have hCc : ClsAt ty ad (cutC ct) yc hc yn yM (ydg yn yM) yu hy hg hf := hC.lo (fun q hq => cutC_lo hq)
  obtain ⟨hof, h2⟩ := h2
  rcases h1 with ⟨rfl, z, c1, hp, hs, hgl⟩ | ⟨rfl, c1, hp, hgl⟩
  · have hRz := hrz z c1 hp
    obtain ⟨y9, q9, e1, e2, l1, l2, e3, rfl⟩ := hp
    rcases h2 with ⟨hx, hM⟩ | ⟨y8, q8, f1, f2, m1, m2, f3, hM⟩
    · exfalso
      rcases hx with hx | ⟨y8, f1, m1, hx⟩
      · omega
      · obtain rfl : y8 = y9 := by omega
        omega
    · obtain rfl : y8 = y9 := by omega
      obtain rfl : q8 = q9 := by omega
      exact end_ok hRz hCc hs hgl hof hM (iv_up hI) (e3.trans f3.symm)
  · obtain ⟨-, hx5, rfl⟩ := hp
    rcases h2 with ⟨hx, hM⟩ | ⟨y8, q8, f1, f2, m1, m2, f3, hM⟩
    · exact end_no hCc ho hgl hof hM (iv_up hI) (Or.inl rfl)
    · exfalso
      rcases hx5 with hx | ⟨y9, e1, l1, hx⟩
      · omega
      · obtain rfl : y8 = y9 := by omega
        omega
theorem ag_topple {ty : Nat → ClassId} {ad : Nat → Nat} {ct ct1 ct2 : rm_C} {yc hc : Nat} {yn : Nat → Nat} {yM : Nat → Nat → Nat → Int} {yu : Nat → Int} {hy : Nat → Nat} {hg hf : Nat → Nat → Int} {o : Nat → Int} {j : Nat} {k b : Int} {z9 : Int} {p9 : Int} (hj : j ≤ 512) (hI : lwInv j yc hc yn yM yu hy hg hf) (hC : ClsAt ty ad ct yc hc yn yM (ydg yn yM) yu hy hg hf) (ho : ct 2000 = some (rl ty 1 o)) {R : Int → Prop} (hrz : ∀ z c1, p5_topple ty ad (cutC ct) yc hc yn yM yu hy hg hf z9 p9 z c1 → R z) (h1 : (k = 0 ∧ ∃ z c1, p5_topple ty ad (cutC ct) yc hc yn yM yu hy hg hf z9 p9 z c1 ∧ ct1 2000 = some (rl ty 1 (ub o 0 z)) ∧ ∀ q, q ≠ 2000 → ct1 q = glue c1 ct q) ∨ (k = 1 ∧ ∃ c1, x5_topple ty ad (cutC ct) yc hc yn yM yu hy hg hf z9 p9 xNSE c1 ∧ ∀ q, ct1 q = glue c1 ct q)) (h2 : p6_topple ty ad ct1 yc hc yn yM yu hy hg hf z9 p9 b ct2) : lwEnd ty ad ct2 (j + 1) k b R := by
  have hCc : ClsAt ty ad (cutC ct) yc hc yn yM (ydg yn yM) yu hy hg hf := hC.lo (fun q hq => cutC_lo hq)
  obtain ⟨hof, h2⟩ := h2
  rcases h1 with ⟨rfl, z, c1, hp, hs, hgl⟩ | ⟨rfl, c1, hp, hgl⟩
  · have hRz := hrz z c1 hp
    obtain ⟨y9, q9, e1, e2, l1, l0, l2, hp⟩ := hp
    rcases h2 with ⟨hx, hM⟩ | ⟨y8, q8, f1, f2, m1, m0, m2, h2⟩
    · exfalso
      rcases hx with hx | ⟨y8, f1, m1, hx⟩
      · omega
      · obtain rfl : y8 = y9 := by omega
        omega
    · obtain rfl : y8 = y9 := by omega
      obtain rfl : q8 = q9 := by omega
      simp only [ydg] at hp
      rcases hp with ⟨c5, z5, rfl⟩ | ⟨c5, z5, hC1⟩
      · rcases h2 with ⟨c6, z6, hM⟩ | ⟨c6, z6, hM⟩
        · exact end_ok hRz hCc hs hgl hof hM (iv_up hI) (z5.trans z6.symm)
        · exfalso; omega
      · rcases h2 with ⟨c6, z6, hM⟩ | ⟨c6, z6, hM⟩
        · exfalso; omega
        · have h7 := hI.2.2.2.2.2.2 y8 l1
          have h8 := fel_ok (iv_kh hI y8 l1) h7.1 l0 l2 c5
          refine end_ok hRz hC1 hs hgl hof hM (iv_heapg hI l1 h8.1 ?_) (z5.trans z6.symm)
          have := h8.2
          have := h7.2
          push_cast
          omega
  · obtain ⟨-, hx5, rfl⟩ := hp
    rcases h2 with ⟨hx, hM⟩ | ⟨y8, q8, f1, f2, m1, m0, m2, h2⟩
    · exact end_no hCc ho hgl hof hM (iv_up hI) (Or.inl rfl)
    · exfalso
      rcases hx5 with hx | ⟨y9, e1, l1, hx⟩
      · omega
      · obtain rfl : y8 = y9 := by omega
        omega
theorem ag_settle {ty : Nat → ClassId} {ad : Nat → Nat} {ct ct1 ct2 : rm_C} {yc hc : Nat} {yn : Nat → Nat} {yM : Nat → Nat → Nat → Int} {yu : Nat → Int} {hy : Nat → Nat} {hg hf : Nat → Nat → Int} {o : Nat → Int} {j : Nat} {k b : Int} {z9 : Int} (hj : j ≤ 512) (hI : lwInv j yc hc yn yM yu hy hg hf) (hC : ClsAt ty ad ct yc hc yn yM (ydg yn yM) yu hy hg hf) (ho : ct 2000 = some (rl ty 1 o)) {R : Int → Prop} (hrz : ∀ z c1, p5_settle ty ad (cutC ct) yc hc yn yM yu hy hg hf z9 z c1 → R z) (h1 : (k = 0 ∧ ∃ z c1, p5_settle ty ad (cutC ct) yc hc yn yM yu hy hg hf z9 z c1 ∧ ct1 2000 = some (rl ty 1 (ub o 0 z)) ∧ ∀ q, q ≠ 2000 → ct1 q = glue c1 ct q) ∨ (k = 1 ∧ ∃ c1, x5_settle ty ad (cutC ct) yc hc yn yM yu hy hg hf z9 xNSE c1 ∧ ∀ q, ct1 q = glue c1 ct q)) (h2 : p6_settle ty ad ct1 yc hc yn yM yu hy hg hf z9 b ct2) : lwEnd ty ad ct2 (j + 1) k b R := by
  have hCc : ClsAt ty ad (cutC ct) yc hc yn yM (ydg yn yM) yu hy hg hf := hC.lo (fun q hq => cutC_lo hq)
  obtain ⟨hof, h2⟩ := h2
  rcases h1 with ⟨rfl, z, c1, hp, hs, hgl⟩ | ⟨rfl, c1, hp, hgl⟩
  · have hRz := hrz z c1 hp
    obtain ⟨y9, e1, l1, v, hv, z5, hC1⟩ := hp
    rcases h2 with ⟨hx, hM⟩ | ⟨y8, f1, m1, v2, hv2, z6, hM⟩
    · exfalso; omega
    · obtain rfl : y8 = y9 := by omega
      obtain rfl := stl_one hv hv2
      have h7 := hI.2.2.2.2.2.2 y8 l1
      have h6 := iv_s hj hI y8 l1
      have h8 := gaf_ok (iv_st hI y8 l1) h7.1 (by omega) hv
      refine end_ok hRz hC1 hs hgl hof hM (iv_heap hI l1 h8.1 ?_) (z5.trans z6.symm)
      have := h8.2
      push_cast
      omega
  · obtain ⟨-, hx5, rfl⟩ := hp
    rcases h2 with ⟨hx, hM⟩ | ⟨y8, f1, m1, v2, hv2, z6, hM⟩
    · exact end_no hCc ho hgl hof hM (iv_up hI) (Or.inl rfl)
    · exfalso; omega
theorem ag_drop {ty : Nat → ClassId} {ad : Nat → Nat} {ct ct1 ct2 : rm_C} {yc hc : Nat} {yn : Nat → Nat} {yM : Nat → Nat → Nat → Int} {yu : Nat → Int} {hy : Nat → Nat} {hg hf : Nat → Nat → Int} {o : Nat → Int} {j : Nat} {k b : Int} {z9 : Int} {p9 : Int} (hj : j ≤ 512) (hI : lwInv j yc hc yn yM yu hy hg hf) (hC : ClsAt ty ad ct yc hc yn yM (ydg yn yM) yu hy hg hf) (ho : ct 2000 = some (rl ty 1 o)) {R : Int → Prop} (hrz : ∀ z c1, p5_drop ty ad (cutC ct) yc hc yn yM yu hy hg hf z9 p9 z c1 → R z) (h1 : (k = 0 ∧ ∃ z c1, p5_drop ty ad (cutC ct) yc hc yn yM yu hy hg hf z9 p9 z c1 ∧ ct1 2000 = some (rl ty 1 (ub o 0 z)) ∧ ∀ q, q ≠ 2000 → ct1 q = glue c1 ct q) ∨ (k = 1 ∧ ∃ c1, x5_drop ty ad (cutC ct) yc hc yn yM yu hy hg hf z9 p9 xNSE c1 ∧ ∀ q, ct1 q = glue c1 ct q)) (h2 : p6_drop ty ad ct1 yc hc yn yM yu hy hg hf z9 p9 b ct2) : lwEnd ty ad ct2 (j + 1) k b R := by
  have hCc : ClsAt ty ad (cutC ct) yc hc yn yM (ydg yn yM) yu hy hg hf := hC.lo (fun q hq => cutC_lo hq)
  obtain ⟨hof, h2⟩ := h2
  rcases h1 with ⟨rfl, z, c1, hp, hs, hgl⟩ | ⟨rfl, c1, hp, hgl⟩
  · have hRz := hrz z c1 hp
    obtain ⟨y9, q9, e1, e2, l1, l0, l2, v, hv, z5, hC1⟩ := hp
    rcases h2 with ⟨hx, hM⟩ | ⟨y8, q8, f1, f2, m1, m0, m2, v2, hv2, z6, hM⟩
    · exfalso
      rcases hx with hx | ⟨y8, f1, m1, hx⟩
      · omega
      · obtain rfl : y8 = y9 := by omega
        omega
    · obtain rfl : y8 = y9 := by omega
      obtain rfl : q8 = q9 := by omega
      obtain rfl := stl_one hv hv2
      have h7 := hI.2.2.2.2.2.2 y8 l1
      have h6 := iv_s hj hI y8 l1
      have h8 := gaf_ok (iv_st hI y8 l1) (fun q a c => by
        by_cases e : q = q8
        · rw [e, ub_s]; have := h7.1 q8 l0 l2; omega
        · rw [ub_n _ _ e]; exact h7.1 q a c) (by rw [psum_set _ _ l0 l2]; omega) hv
      refine end_ok hRz hC1 hs hgl hof hM (iv_heap hI l1 h8.1 ?_) (z5.trans z6.symm)
      have := h8.2
      push_cast
      omega
  · obtain ⟨-, hx5, rfl⟩ := hp
    rcases h2 with ⟨hx, hM⟩ | ⟨y8, q8, f1, f2, m1, m0, m2, v2, hv2, z6, hM⟩
    · exact end_no hCc ho hgl hof hM (iv_up hI) (Or.inl rfl)
    · exfalso
      rcases hx5 with hx | ⟨y9, e1, l1, hx⟩
      · omega
      · obtain rfl : y8 = y9 := by omega
        omega
theorem ag_toppled {ty : Nat → ClassId} {ad : Nat → Nat} {ct ct1 ct2 : rm_C} {yc hc : Nat} {yn : Nat → Nat} {yM : Nat → Nat → Nat → Int} {yu : Nat → Int} {hy : Nat → Nat} {hg hf : Nat → Nat → Int} {o : Nat → Int} {j : Nat} {k b : Int} {z9 : Int} {p9 : Int} (hj : j ≤ 512) (hI : lwInv j yc hc yn yM yu hy hg hf) (hC : ClsAt ty ad ct yc hc yn yM (ydg yn yM) yu hy hg hf) (ho : ct 2000 = some (rl ty 1 o)) {R : Int → Prop} (hrz : ∀ z c1, p5_toppled ty ad (cutC ct) yc hc yn yM yu hy hg hf z9 p9 z c1 → R z) (h1 : (k = 0 ∧ ∃ z c1, p5_toppled ty ad (cutC ct) yc hc yn yM yu hy hg hf z9 p9 z c1 ∧ ct1 2000 = some (rl ty 1 (ub o 0 z)) ∧ ∀ q, q ≠ 2000 → ct1 q = glue c1 ct q) ∨ (k = 1 ∧ ∃ c1, x5_toppled ty ad (cutC ct) yc hc yn yM yu hy hg hf z9 p9 xNSE c1 ∧ ∀ q, ct1 q = glue c1 ct q)) (h2 : p6_toppled ty ad ct1 yc hc yn yM yu hy hg hf z9 p9 b ct2) : lwEnd ty ad ct2 (j + 1) k b R := by
  have hCc : ClsAt ty ad (cutC ct) yc hc yn yM (ydg yn yM) yu hy hg hf := hC.lo (fun q hq => cutC_lo hq)
  obtain ⟨hof, h2⟩ := h2
  rcases h1 with ⟨rfl, z, c1, hp, hs, hgl⟩ | ⟨rfl, c1, hp, hgl⟩
  · have hRz := hrz z c1 hp
    obtain ⟨y9, q9, e1, e2, l1, l2, e3, rfl⟩ := hp
    rcases h2 with ⟨hx, hM⟩ | ⟨y8, q8, f1, f2, m1, m2, f3, hM⟩
    · exfalso
      rcases hx with hx | ⟨y8, f1, m1, hx⟩
      · omega
      · obtain rfl : y8 = y9 := by omega
        omega
    · obtain rfl : y8 = y9 := by omega
      obtain rfl : q8 = q9 := by omega
      exact end_ok hRz hCc hs hgl hof hM (iv_up hI) (e3.trans f3.symm)
  · obtain ⟨-, hx5, rfl⟩ := hp
    rcases h2 with ⟨hx, hM⟩ | ⟨y8, q8, f1, f2, m1, m2, f3, hM⟩
    · exact end_no hCc ho hgl hof hM (iv_up hI) (Or.inl rfl)
    · exfalso
      rcases hx5 with hx | ⟨y9, e1, l1, hx⟩
      · omega
      · obtain rfl : y8 = y9 := by omega
        omega
theorem ag_is {ty : Nat → ClassId} {ad : Nat → Nat} {ct ct1 ct2 : rm_C} {yc hc : Nat} {yn : Nat → Nat} {yM : Nat → Nat → Nat → Int} {yu : Nat → Int} {hy : Nat → Nat} {hg hf : Nat → Nat → Int} {o : Nat → Int} {j : Nat} {k b : Int} {z9 : Int} {w9 : Int} (hj : j ≤ 512) (hI : lwInv j yc hc yn yM yu hy hg hf) (hC : ClsAt ty ad ct yc hc yn yM (ydg yn yM) yu hy hg hf) (ho : ct 2000 = some (rl ty 1 o)) {R : Int → Prop} (hrz : ∀ z c1, p5_is ty ad (cutC ct) yc hc yn yM yu hy hg hf z9 w9 z c1 → R z) (h1 : (k = 0 ∧ ∃ z c1, p5_is ty ad (cutC ct) yc hc yn yM yu hy hg hf z9 w9 z c1 ∧ ct1 2000 = some (rl ty 1 (ub o 0 z)) ∧ ∀ q, q ≠ 2000 → ct1 q = glue c1 ct q) ∨ (k = 1 ∧ ∃ c1, x5_is ty ad (cutC ct) yc hc yn yM yu hy hg hf z9 w9 xNSE c1 ∧ ∀ q, ct1 q = glue c1 ct q)) (h2 : p6_is ty ad ct1 yc hc yn yM yu hy hg hf z9 w9 b ct2) : lwEnd ty ad ct2 (j + 1) k b R := by
  have hCc : ClsAt ty ad (cutC ct) yc hc yn yM (ydg yn yM) yu hy hg hf := hC.lo (fun q hq => cutC_lo hq)
  obtain ⟨hof, h2⟩ := h2
  rcases h1 with ⟨rfl, z, c1, hp, hs, hgl⟩ | ⟨rfl, c1, hp, hgl⟩
  · have hRz := hrz z c1 hp
    obtain ⟨y9, e1, l1, hC1, hp⟩ := hp
    simp only [ydg] at hp
    rcases h2 with ⟨hx, hM⟩ | ⟨y8, f1, m1, h2, hM⟩
    · exfalso
      rcases hp with ⟨w1, -⟩ | ⟨w1, -⟩ <;> omega
    · obtain rfl : y8 = y9 := by omega
      refine end_ok hRz hC1 hs hgl hof hM (iv_up hI) ?_
      rcases hp with ⟨w1, hp⟩ | ⟨w1, hp⟩
      · rcases h2 with ⟨v1, h2⟩ | ⟨v1, h2⟩
        · rcases hp with ⟨z5, hp⟩ | ⟨z5, q, a1, a2, a3⟩
          · rcases h2 with ⟨z6, h2⟩ | ⟨z6, q, c1, c2, c3⟩
            · omega
            · have := hp q c1 c2; omega
          · rcases h2 with ⟨z6, h2⟩ | ⟨z6, -⟩
            · have := h2 q a1 a2; omega
            · omega
        · exfalso; omega
      · rcases h2 with ⟨v1, h2⟩ | ⟨v1, h2⟩
        · exfalso; omega
        · exact brn_one hp h2
  · obtain ⟨-, hx5, rfl⟩ := hp
    rcases h2 with ⟨hx, hM⟩ | ⟨y8, f1, m1, h2, hM⟩
    · exact end_no hCc ho hgl hof hM (iv_up hI) (Or.inl rfl)
    · exfalso
      rcases h2 with ⟨v1, -⟩ | ⟨v1, -⟩ <;> omega
theorem ag_burns {ty : Nat → ClassId} {ad : Nat → Nat} {ct ct1 ct2 : rm_C} {yc hc : Nat} {yn : Nat → Nat} {yM : Nat → Nat → Nat → Int} {yu : Nat → Int} {hy : Nat → Nat} {hg hf : Nat → Nat → Int} {o : Nat → Int} {j : Nat} {k b : Int} {z9 : Int} {p9 : Int} (hj : j ≤ 512) (hI : lwInv j yc hc yn yM yu hy hg hf) (hC : ClsAt ty ad ct yc hc yn yM (ydg yn yM) yu hy hg hf) (ho : ct 2000 = some (rl ty 1 o)) {R : Int → Prop} (hrz : ∀ z c1, p5_burns ty ad (cutC ct) yc hc yn yM yu hy hg hf z9 p9 z c1 → R z) (h1 : (k = 0 ∧ ∃ z c1, p5_burns ty ad (cutC ct) yc hc yn yM yu hy hg hf z9 p9 z c1 ∧ ct1 2000 = some (rl ty 1 (ub o 0 z)) ∧ ∀ q, q ≠ 2000 → ct1 q = glue c1 ct q) ∨ (k = 1 ∧ ∃ c1, x5_burns ty ad (cutC ct) yc hc yn yM yu hy hg hf z9 p9 xNSE c1 ∧ ∀ q, ct1 q = glue c1 ct q)) (h2 : p6_burns ty ad ct1 yc hc yn yM yu hy hg hf z9 p9 b ct2) : lwEnd ty ad ct2 (j + 1) k b R := by
  have hCc : ClsAt ty ad (cutC ct) yc hc yn yM (ydg yn yM) yu hy hg hf := hC.lo (fun q hq => cutC_lo hq)
  obtain ⟨hof, h2⟩ := h2
  rcases h1 with ⟨rfl, z, c1, hp, hs, hgl⟩ | ⟨rfl, c1, hp, hgl⟩
  · have hRz := hrz z c1 hp
    obtain ⟨y9, q9, e1, e2, l1, l2, hC1, hp⟩ := hp
    simp only [ydg] at hp
    rcases h2 with ⟨hx, hM⟩ | ⟨y8, q8, f1, f2, m1, m2, h2, hM⟩
    · exfalso
      rcases hx with hx | ⟨y8, f1, m1, hx⟩
      · omega
      · obtain rfl : y8 = y9 := by omega
        omega
    · obtain rfl : y8 = y9 := by omega
      obtain rfl : q8 = q9 := by omega
      refine end_ok hRz hC1 hs hgl hof hM (iv_up hI) ?_
      rcases hp with ⟨⟨q, a1, a2, a3⟩, z5⟩ | ⟨hp, z5⟩
      · rcases h2 with ⟨-, z6⟩ | ⟨h2, z6⟩
        · omega
        · have := h2 q a1 a2; omega
      · rcases h2 with ⟨⟨q, a1, a2, a3⟩, z6⟩ | ⟨h2, z6⟩
        · have := hp q a1 a2; omega
        · exact z5.trans z6.symm
  · obtain ⟨-, hx5, rfl⟩ := hp
    rcases h2 with ⟨hx, hM⟩ | ⟨y8, q8, f1, f2, m1, m2, h2, hM⟩
    · exact end_no hCc ho hgl hof hM (iv_up hI) (Or.inl rfl)
    · exfalso
      rcases hx5 with hx | ⟨y9, e1, l1, hx⟩
      · omega
      · obtain rfl : y8 = y9 := by omega
        omega
theorem ag_add {ty : Nat → ClassId} {ad : Nat → Nat} {ct ct1 ct2 : rm_C} {yc hc : Nat} {yn : Nat → Nat} {yM : Nat → Nat → Nat → Int} {yu : Nat → Int} {hy : Nat → Nat} {hg hf : Nat → Nat → Int} {o : Nat → Int} {j : Nat} {k b : Int} {z9 : Int} {w9 : Int} (hj : j ≤ 512) (hI : lwInv j yc hc yn yM yu hy hg hf) (hC : ClsAt ty ad ct yc hc yn yM (ydg yn yM) yu hy hg hf) (ho : ct 2000 = some (rl ty 1 o)) {R : Int → Prop} (hrz : ∀ z c1, p5_add ty ad (cutC ct) yc hc yn yM yu hy hg hf z9 w9 z c1 → R z) (h1 : (k = 0 ∧ ∃ z c1, p5_add ty ad (cutC ct) yc hc yn yM yu hy hg hf z9 w9 z c1 ∧ ct1 2000 = some (rl ty 1 (ub o 0 z)) ∧ ∀ q, q ≠ 2000 → ct1 q = glue c1 ct q) ∨ (k = 1 ∧ ∃ c1, x5_add ty ad (cutC ct) yc hc yn yM yu hy hg hf z9 w9 xNSE c1 ∧ ∀ q, ct1 q = glue c1 ct q) ∨ (k = 2 ∧ ∃ c1, x5_add ty ad (cutC ct) yc hc yn yM yu hy hg hf z9 w9 xIAE c1 ∧ ∀ q, ct1 q = glue c1 ct q)) (h2 : p6_add ty ad ct1 yc hc yn yM yu hy hg hf z9 w9 b ct2) : lwEnd ty ad ct2 (j + 1) k b R := by
  have hCc : ClsAt ty ad (cutC ct) yc hc yn yM (ydg yn yM) yu hy hg hf := hC.lo (fun q hq => cutC_lo hq)
  obtain ⟨hof, h2⟩ := h2
  rcases h1 with ⟨rfl, z, c1, hp, hs, hgl⟩ | ⟨rfl, c1, hp, hgl⟩ | ⟨rfl, c1, hp, hgl⟩
  · have hRz := hrz z c1 hp
    obtain ⟨h9, o9, e1, e2, l1, l2, e3, v, hv, z5, hC1⟩ := hp
    rcases h2 with ⟨hx, hM⟩ | ⟨h8, o8, f1, f2, m1, m2, h2⟩
    · exfalso; omega
    · obtain rfl : h8 = h9 := by omega
      obtain rfl : o8 = o9 := by omega
      rcases h2 with ⟨hx, hM⟩ | ⟨-, v2, hv2, z6, hM⟩
      · exact absurd e3.symm hx
      · obtain rfl := stl_one hv hv2
        have h7 := hI.2.2.2.2.2.2 h8 l1
        have h7o := hI.2.2.2.2.2.2 o8 l2
        have h6 := iv_s hj hI h8 l1
        have h6o := iv_s hj hI o8 l2
        rw [e3] at h7o h6o
        have h8 := gaf_ok (iv_st hI h8 l1) (fun q a c => by
          unfold tkn
          rw [if_pos ⟨a, c⟩]
          have := h7.1 q a c
          have := h7o.1 q a c
          show 0 ≤ hg h8 q + hg o8 q
          omega) (by rw [tkn_psum, psum_add]; omega) hv
        refine end_ok hRz hC1 hs hgl hof hM (iv_heap hI l1 h8.1 ?_) (z5.trans z6.symm)
        have := h8.2
        push_cast
        omega
  · obtain ⟨⟨-, hx5⟩ | ⟨h, -⟩, rfl⟩ := hp
    · rcases h2 with ⟨hx, hM⟩ | ⟨h8, o8, f1, f2, m1, m2, h2⟩
      · exact end_no hCc ho hgl hof hM (iv_up hI) (Or.inl rfl)
      · exfalso; omega
    · exact absurd h (by decide)
  · obtain ⟨⟨h, -⟩ | ⟨-, h9, o9, e1, e2, l1, l2, hx5⟩, rfl⟩ := hp
    · exact absurd h (by decide)
    · rcases h2 with ⟨hx, hM⟩ | ⟨h8, o8, f1, f2, m1, m2, h2⟩
      · exfalso; omega
      · obtain rfl : h8 = h9 := by omega
        obtain rfl : o8 = o9 := by omega
        rcases h2 with ⟨hx, hM⟩ | ⟨e3, h2⟩
        · exact end_no hCc ho hgl hof hM (iv_up hI) (Or.inr rfl)
        · exact absurd e3.symm hx5
theorem ag_become {ty : Nat → ClassId} {ad : Nat → Nat} {ct ct1 ct2 : rm_C} {yc hc : Nat} {yn : Nat → Nat} {yM : Nat → Nat → Nat → Int} {yu : Nat → Int} {hy : Nat → Nat} {hg hf : Nat → Nat → Int} {o : Nat → Int} {j : Nat} {k b : Int} {z9 : Int} {w9 : Int} (hj : j ≤ 512) (hI : lwInv j yc hc yn yM yu hy hg hf) (hC : ClsAt ty ad ct yc hc yn yM (ydg yn yM) yu hy hg hf) (ho : ct 2000 = some (rl ty 1 o)) (h1 : (k = 0 ∧ ∃ c1, p5_become ty ad (cutC ct) yc hc yn yM yu hy hg hf z9 w9 c1 ∧ ∀ q, ct1 q = glue c1 ct q) ∨ (k = 1 ∧ ∃ c1, x5_become ty ad (cutC ct) yc hc yn yM yu hy hg hf z9 w9 xNSE c1 ∧ ∀ q, ct1 q = glue c1 ct q)) (h2 : p6_become ty ad ct1 yc hc yn yM yu hy hg hf z9 w9 ct2) : lwEnd ty ad ct2 (j + 1) k (o 0) (fun _ => True) := by
  have hCc : ClsAt ty ad (cutC ct) yc hc yn yM (ydg yn yM) yu hy hg hf := hC.lo (fun q hq => cutC_lo hq)
  obtain ⟨hof, h2⟩ := h2
  rcases h1 with ⟨rfl, c1, hp, hgl⟩ | ⟨rfl, c1, hp, hgl⟩
  · obtain ⟨y9, e1, l1, w, hw, hC1⟩ := hp
    rcases h2 with ⟨hx, hM⟩ | ⟨y8, f1, m1, w2, hw2, hM⟩
    · exfalso
      have h3 := bcm_one hw hw
      omega
    · obtain rfl : y8 = y9 := by omega
      obtain ⟨rfl, -, -⟩ := bcm_one hw hw2
      have h7 := hI.2.2.2.2.2.2 y8 l1
      have h6 := iv_s hj hI y8 l1
      have h8 := bcm_ok (iv_st hI y8 l1) h7.1 (by omega) hw
      refine end_v hC1 ho hgl hof hM (iv_heapg hI l1 (fun q a c => ?_) ?_)
      · unfold tkn; rw [if_pos ⟨a, c⟩]; exact h8.1 q a c
      · rw [tkn_psum]
        have := h8.2
        push_cast
        omega
  · obtain ⟨-, hx5, rfl⟩ := hp
    rcases h2 with ⟨hx, hM⟩ | ⟨y8, f1, m1, w2, hw2, hM⟩
    · exact end_no hCc ho hgl hof hM (iv_up hI) (Or.inl rfl)
    · exfalso
      have h3 := bcm_one hw2 hw2
      omega
theorem ag_alike {ty : Nat → ClassId} {ad : Nat → Nat} {ct ct1 ct2 : rm_C} {yc hc : Nat} {yn : Nat → Nat} {yM : Nat → Nat → Nat → Int} {yu : Nat → Int} {hy : Nat → Nat} {hg hf : Nat → Nat → Int} {o : Nat → Int} {j : Nat} {k b : Int} {z9 : Int} {w9 : Int} (hj : j ≤ 512) (hI : lwInv j yc hc yn yM yu hy hg hf) (hC : ClsAt ty ad ct yc hc yn yM (ydg yn yM) yu hy hg hf) (ho : ct 2000 = some (rl ty 1 o)) {R : Int → Prop} (hrz : ∀ z c1, p5_alike ty ad (cutC ct) yc hc yn yM yu hy hg hf z9 w9 z c1 → R z) (h1 : (k = 0 ∧ ∃ z c1, p5_alike ty ad (cutC ct) yc hc yn yM yu hy hg hf z9 w9 z c1 ∧ ct1 2000 = some (rl ty 1 (ub o 0 z)) ∧ ∀ q, q ≠ 2000 → ct1 q = glue c1 ct q) ∨ (k = 1 ∧ ∃ c1, x5_alike ty ad (cutC ct) yc hc yn yM yu hy hg hf z9 w9 xNSE c1 ∧ ∀ q, ct1 q = glue c1 ct q) ∨ (k = 2 ∧ ∃ c1, x5_alike ty ad (cutC ct) yc hc yn yM yu hy hg hf z9 w9 xIAE c1 ∧ ∀ q, ct1 q = glue c1 ct q)) (h2 : p6_alike ty ad ct1 yc hc yn yM yu hy hg hf z9 w9 b ct2) : lwEnd ty ad ct2 (j + 1) k b R := by
  have hCc : ClsAt ty ad (cutC ct) yc hc yn yM (ydg yn yM) yu hy hg hf := hC.lo (fun q hq => cutC_lo hq)
  obtain ⟨hof, h2⟩ := h2
  rcases h1 with ⟨rfl, z, c1, hp, hs, hgl⟩ | ⟨rfl, c1, hp, hgl⟩ | ⟨rfl, c1, hp, hgl⟩
  · have hRz := hrz z c1 hp
    obtain ⟨h9, o9, e1, e2, l1, l2, e3, hC1, so1, T, hso, hp⟩ := hp
    rcases h2 with ⟨hx, hM⟩ | ⟨h8, o8, f1, f2, m1, m2, h2⟩
    · exfalso; omega
    · obtain rfl : h8 = h9 := by omega
      obtain rfl : o8 = o9 := by omega
      rcases h2 with ⟨hx, hM⟩ | ⟨-, h2, hM⟩
      · exact absurd e3.symm hx
      · refine end_ok hRz hC1 hs hgl hof hM (iv_up hI) ?_
        have h7 := hI.2.2.2.2.2.2 h8 l1
        have h7o := hI.2.2.2.2.2.2 o8 l2
        have h6 := iv_s hj hI h8 l1
        have h6o := iv_s hj hI o8 l2
        rw [e3] at h7o h6o
        obtain ⟨u, hu⟩ := yst_first (iv_st hI h8 l1) h7.1 (by omega)
        obtain ⟨v, hv⟩ := yst_first (iv_st hI h8 l1) h7o.1 (by omega)
        have ha := alike_eq (T := T) (iv_kh hI h8 l1) (iv_c hI h8 l1) hu hv hso
        rcases hp with ⟨t1, z5⟩ | ⟨t1, z5⟩
        · rcases h2 with ⟨z6, -⟩ | ⟨z6, p, p1, p2, p3⟩
          · omega
          · exact absurd (ha.mp t1 p p1 p2) p3
        · rcases h2 with ⟨z6, h2⟩ | ⟨z6, -⟩
          · exact absurd (ha.mpr h2) t1
          · omega
  · obtain ⟨⟨-, hx5⟩ | ⟨h, -⟩, rfl⟩ := hp
    · rcases h2 with ⟨hx, hM⟩ | ⟨h8, o8, f1, f2, m1, m2, h2⟩
      · exact end_no hCc ho hgl hof hM (iv_up hI) (Or.inl rfl)
      · exfalso; omega
    · exact absurd h (by decide)
  · obtain ⟨⟨h, -⟩ | ⟨-, h9, o9, e1, e2, l1, l2, hx5⟩, rfl⟩ := hp
    · exact absurd h (by decide)
    · rcases h2 with ⟨hx, hM⟩ | ⟨h8, o8, f1, f2, m1, m2, h2⟩
      · exfalso; omega
      · obtain rfl : h8 = h9 := by omega
        obtain rfl : o8 = o9 := by omega
        rcases h2 with ⟨hx, hM⟩ | ⟨e3, h2⟩
        · exact end_no hCc ho hgl hof hM (iv_up hI) (Or.inr rfl)
        · exact absurd e3.symm hx5
theorem ag_order {ty : Nat → ClassId} {ad : Nat → Nat} {ct ct1 ct2 : rm_C} {yc hc : Nat} {yn : Nat → Nat} {yM : Nat → Nat → Nat → Int} {yu : Nat → Int} {hy : Nat → Nat} {hg hf : Nat → Nat → Int} {o : Nat → Int} {j : Nat} {k b : Int} {z9 : Int} (hj : j ≤ 512) (hI : lwInv j yc hc yn yM yu hy hg hf) (hC : ClsAt ty ad ct yc hc yn yM (ydg yn yM) yu hy hg hf) (ho : ct 2000 = some (rl ty 1 o)) {R : Int → Prop} (hrz : ∀ z c1, p5_order ty ad (cutC ct) yc hc yn yM yu hy hg hf z9 z c1 → R z) (h1 : (k = 0 ∧ ∃ z c1, p5_order ty ad (cutC ct) yc hc yn yM yu hy hg hf z9 z c1 ∧ ct1 2000 = some (rl ty 1 (ub o 0 z)) ∧ ∀ q, q ≠ 2000 → ct1 q = glue c1 ct q) ∨ (k = 1 ∧ ∃ c1, x5_order ty ad (cutC ct) yc hc yn yM yu hy hg hf z9 xNSE c1 ∧ ∀ q, ct1 q = glue c1 ct q)) (h2 : p6_order ty ad ct1 yc hc yn yM yu hy hg hf z9 b ct2) : lwEnd ty ad ct2 (j + 1) k b R := by
  have hCc : ClsAt ty ad (cutC ct) yc hc yn yM (ydg yn yM) yu hy hg hf := hC.lo (fun q hq => cutC_lo hq)
  obtain ⟨hof, h2⟩ := h2
  rcases h1 with ⟨rfl, z, c1, hp, hs, hgl⟩ | ⟨rfl, c1, hp, hgl⟩
  · have hRz := hrz z c1 hp
    obtain ⟨y9, e1, l1, hC1, so1, T, hso, z5⟩ := hp
    rcases h2 with ⟨hx, hM⟩ | ⟨y8, f1, m1, z6, hM⟩
    · exfalso; omega
    · obtain rfl : y8 = y9 := by omega
      refine end_ok hRz hC1 hs hgl hof hM (iv_up hI) ?_
      have h7 := hI.2.2.2.2.2.2 y8 l1
      have h6 := iv_s hj hI y8 l1
      obtain ⟨u, hu⟩ := yst_first (iv_st hI y8 l1) h7.1 (by omega)
      have ht := tms_odg (T := T) (iv_kh hI y8 l1) (iv_c hI y8 l1) hu (stl_zero (iv_st hI y8 l1).2.1) hso
      have he : (fun q => hg y8 q - (fun _ => (0 : Int)) q) = hg y8 := by
        funext q
        exact Int.sub_zero _
      rw [he] at ht
      rw [z5, z6]
      exact ht
  · obtain ⟨-, hx5, rfl⟩ := hp
    rcases h2 with ⟨hx, hM⟩ | ⟨y8, f1, m1, z6, hM⟩
    · exact end_no hCc ho hgl hof hM (iv_up hI) (Or.inl rfl)
    · exfalso; omega
theorem ag_tree {ty : Nat → ClassId} {ad : Nat → Nat} {ct ct1 ct2 : rm_C} {yc hc : Nat} {yn : Nat → Nat} {yM : Nat → Nat → Nat → Int} {yu : Nat → Int} {hy : Nat → Nat} {hg hf : Nat → Nat → Int} {o : Nat → Int} {j : Nat} {k b : Int} {z9 : Int} {p9 : Int} {w9 : Int} (hj : j ≤ 512) (hI : lwInv j yc hc yn yM yu hy hg hf) (hC : ClsAt ty ad ct yc hc yn yM (ydg yn yM) yu hy hg hf) (ho : ct 2000 = some (rl ty 1 o)) {R : Int → Prop} (hrz : ∀ z c1, p5_tree ty ad (cutC ct) yc hc yn yM yu hy hg hf z9 p9 w9 z c1 → R z) (h1 : (k = 0 ∧ ∃ z c1, p5_tree ty ad (cutC ct) yc hc yn yM yu hy hg hf z9 p9 w9 z c1 ∧ ct1 2000 = some (rl ty 1 (ub o 0 z)) ∧ ∀ q, q ≠ 2000 → ct1 q = glue c1 ct q) ∨ (k = 1 ∧ ∃ c1, x5_tree ty ad (cutC ct) yc hc yn yM yu hy hg hf z9 p9 w9 xNSE c1 ∧ ∀ q, ct1 q = glue c1 ct q) ∨ (k = 2 ∧ ∃ c1, x5_tree ty ad (cutC ct) yc hc yn yM yu hy hg hf z9 p9 w9 xISE c1 ∧ ∀ q, ct1 q = glue c1 ct q)) (h2 : p6_tree ty ad ct1 yc hc yn yM yu hy hg hf z9 p9 w9 b ct2) : lwEnd ty ad ct2 (j + 1) k b R := by
  have hCc : ClsAt ty ad (cutC ct) yc hc yn yM (ydg yn yM) yu hy hg hf := hC.lo (fun q hq => cutC_lo hq)
  obtain ⟨hof, h2⟩ := h2
  rcases h1 with ⟨rfl, z, c1, hp, hs, hgl⟩ | ⟨rfl, c1, hp, hgl⟩ | ⟨rfl, c1, hp, hgl⟩
  · have hRz := hrz z c1 hp
    obtain ⟨y9, q9, e1, e2, l1, l0, l2, w1, hb5, z5, hC1⟩ := hp
    rcases h2 with ⟨hx, hM⟩ | ⟨y8, q8, f1, f2, m1, m0, m2, v1, h2⟩
    · exfalso
      rcases hx with hx | ⟨y8, f1, m1, hx⟩
      · omega
      · obtain rfl : y8 = y9 := by omega
        omega
    · obtain rfl : y8 = y9 := by omega
      obtain rfl : q8 = q9 := by omega
      rcases h2 with ⟨hb6, hM⟩ | ⟨hb6, z6, hM⟩
      · have := brn_one hb5 hb6; omega
      · exact end_ok hRz hC1 hs hgl hof hM (iv_up hI) (z5.trans z6.symm)
  · rcases hp with ⟨-, hx5, rfl⟩ | ⟨h, -⟩
    · rcases h2 with ⟨hx, hM⟩ | ⟨y8, q8, f1, f2, m1, m0, m2, v1, h2⟩
      · exact end_no hCc ho hgl hof hM (iv_up hI) (Or.inl rfl)
      · exfalso
        rcases hx5 with hx | ⟨y9, e1, l1, hx⟩
        · omega
        · obtain rfl : y8 = y9 := by omega
          omega
    · exact absurd h (by decide)
  · rcases hp with ⟨h, -⟩ | ⟨-, ⟨y9, q9, e1, e2, l1, l0, l2, hb5⟩, w1, hC1⟩
    · exact absurd h (by decide)
    · rcases h2 with ⟨hx, hM⟩ | ⟨y8, q8, f1, f2, m1, m0, m2, v1, h2⟩
      · exfalso
        rcases hx with hx | ⟨y8, f1, m1, hx⟩
        · omega
        · obtain rfl : y8 = y9 := by omega
          omega
      · obtain rfl : y8 = y9 := by omega
        obtain rfl : q8 = q9 := by omega
        rcases h2 with ⟨hb6, hM⟩ | ⟨hb6, z6, hM⟩
        · exact end_no hC1 ho hgl hof hM (iv_up hI) (Or.inr rfl)
        · have := brn_one hb5 hb6; omega
theorem ag_grow {ty : Nat → ClassId} {ad : Nat → Nat} {ct ct1 ct2 : rm_C} {yc hc : Nat} {yn : Nat → Nat} {yM : Nat → Nat → Nat → Int} {yu : Nat → Int} {hy : Nat → Nat} {hg hf : Nat → Nat → Int} {o : Nat → Int} {j : Nat} {k b : Int} {z9 : Int} {tr : Nat} (hj : j ≤ 512) (hI : lwInv j yc hc yn yM yu hy hg hf) (hC : ClsAt ty ad ct yc hc yn yM (ydg yn yM) yu hy hg hf) (ho : ct 2000 = some (rl ty 1 o)) {R : Int → Prop} (hrz : ∀ z c1, p5_grow ty ad (cutC ct) yc hc yn yM yu hy hg hf z9 tr z c1 → R z) (h1 : (k = 0 ∧ ∃ z c1, p5_grow ty ad (cutC ct) yc hc yn yM yu hy hg hf z9 tr z c1 ∧ ct1 2000 = some (rl ty 1 (ub o 0 z)) ∧ ∀ q, q ≠ 2000 → ct1 q = glue c1 ct q) ∨ (k = 1 ∧ ∃ c1, x5_grow ty ad (cutC ct) yc hc yn yM yu hy hg hf z9 tr xNSE c1 ∧ ∀ q, ct1 q = glue c1 ct q)) (h2 : p6_grow ty ad ct1 yc hc yn yM yu hy hg hf z9 tr b ct2) : lwEnd ty ad ct2 (j + 1) k b R := by
  have hCc : ClsAt ty ad (cutC ct) yc hc yn yM (ydg yn yM) yu hy hg hf := hC.lo (fun q hq => cutC_lo hq)
  obtain ⟨hof, h2⟩ := h2
  rcases h1 with ⟨rfl, z, c1, hp, hs, hgl⟩ | ⟨rfl, c1, hp, hgl⟩
  · have hRz := hrz z c1 hp
    obtain ⟨y9, e1, l1, hp⟩ := hp
    rcases h2 with ⟨hx, hM⟩ | ⟨y8, f1, m1, h2⟩
    · exfalso; omega
    · obtain rfl : y8 = y9 := by omega
      rcases hp with ⟨z5, hp, hC1⟩ | ⟨z5, hp1, hp2, hC1⟩
      · rcases h2 with ⟨z6, -, hM⟩ | ⟨z6, hq1, hq2, hM⟩
        · exact end_ok hRz hC1 hs hgl hof hM (iv_up hI) (z5.trans z6.symm)
        · exfalso
          rcases hp with ⟨p, p1, p2, p3⟩ | ⟨-, q, p1, p2⟩
          · have := hq1 p p1 p2; omega
          · exact hq2 q p1 p2
      · rcases h2 with ⟨z6, h2, hM⟩ | ⟨z6, hq1, hq2, hM⟩
        · exfalso
          rcases h2 with ⟨p, p1, p2, p3⟩ | ⟨-, q, p1, p2⟩
          · have := hp1 p p1 p2; omega
          · exact hp2 q p1 p2
        · have h8 := grw_ok (iv_kh hI y8 l1) tr
          refine end_ok hRz hC1 hs hgl hof hM (iv_heapg hI l1 (fun q a c => ?_) ?_) (z5.trans z6.symm)
          · unfold tkn; rw [if_pos ⟨a, c⟩]; exact h8.1 q a c
          · rw [tkn_psum]
            refine Int.le_trans h8.2 ?_
            push_cast
            omega
  · obtain ⟨-, hx5, rfl⟩ := hp
    rcases h2 with ⟨hx, hM⟩ | ⟨y8, f1, m1, h2⟩
    · exact end_no hCc ho hgl hof hM (iv_up hI) (Or.inl rfl)
    · exfalso; omega
theorem ag_count {ty : Nat → ClassId} {ad : Nat → Nat} {ct ct1 ct2 : rm_C} {yc hc : Nat} {yn : Nat → Nat} {yM : Nat → Nat → Nat → Int} {yu : Nat → Int} {hy : Nat → Nat} {hg hf : Nat → Nat → Int} {o : Nat → Int} {j : Nat} {k b : Int} {w9 : Int} (hj : j ≤ 512) (hI : lwInv j yc hc yn yM yu hy hg hf) (hC : ClsAt ty ad ct yc hc yn yM (ydg yn yM) yu hy hg hf) (ho : ct 2000 = some (rl ty 1 o)) {R : Int → Prop} (hrz : ∀ z c1, p5_count ty ad (cutC ct) yc hc yn yM yu hy hg hf w9 z c1 → R z) (h1 : (k = 0 ∧ ∃ z c1, p5_count ty ad (cutC ct) yc hc yn yM yu hy hg hf w9 z c1 ∧ ct1 2000 = some (rl ty 1 (ub o 0 z)) ∧ ∀ q, q ≠ 2000 → ct1 q = glue c1 ct q) ∨ (k = 1 ∧ ∃ c1, x5_count ty ad (cutC ct) yc hc yn yM yu hy hg hf w9 xNSE c1 ∧ ∀ q, ct1 q = glue c1 ct q)) (h2 : p6_count ty ad ct1 yc hc yn yM yu hy hg hf w9 b ct2) : lwEnd ty ad ct2 (j + 1) k b R := by
  have hCc : ClsAt ty ad (cutC ct) yc hc yn yM (ydg yn yM) yu hy hg hf := hC.lo (fun q hq => cutC_lo hq)
  obtain ⟨hof, h2⟩ := h2
  rcases h1 with ⟨rfl, z, c1, hp, hs, hgl⟩ | ⟨rfl, c1, hp, hgl⟩
  · have hRz := hrz z c1 hp
    obtain ⟨hp, rfl⟩ := hp
    rcases h2 with ⟨hx, hM⟩ | ⟨h2, hM⟩
    · exfalso; omega
    · exact end_ok hRz hCc hs hgl hof hM (iv_up hI) (by omega)
  · obtain ⟨-, hx5, rfl⟩ := hp
    rcases h2 with ⟨hx, hM⟩ | ⟨h2, hM⟩
    · exact end_no hCc ho hgl hof hM (iv_up hI) (Or.inl rfl)
    · exfalso; omega
section Ranges
variable {ty : Nat → ClassId} {ad : Nat → Nat} {ct : rm_C} {yc hc : Nat} {yn : Nat → Nat} {yM : Nat → Nat → Nat → Int} {yu : Nat → Int} {hy : Nat → Nat} {hg hf : Nat → Nat → Int} {j : Nat}
theorem rz_path {z9 p9 r9 n9 : Int} (hj : j ≤ 512) (hI : lwInv j yc hc yn yM yu hy hg hf) : ∀ z c1, p5_path ty ad (cutC ct) yc hc yn yM yu hy hg hf z9 p9 r9 n9 z c1 → r32 z := fun z c1 h => by
  obtain ⟨y9, a9, b9, -, -, -, l1, -, -, ⟨-, h, -⟩ | ⟨-, -, -, -, h, -⟩⟩ := h
  · rw [h]; exact ⟨by omega, by omega⟩
  · have := iv_M hI y9 l1 a9 b9
    rw [h]; exact ⟨by omega, by omega⟩
theorem rz_degree {z9 p9 : Int} (hj : j ≤ 512) (hI : lwInv j yc hc yn yM yu hy hg hf) : ∀ z c1, p5_degree ty ad (cutC ct) yc hc yn yM yu hy hg hf z9 p9 z c1 → r32 z := fun z c1 h => by
  obtain ⟨y9, q9, -, -, l1, -, h, -⟩ := h
  have := dg_rng21 (hI.2.1 y9 l1) q9
  rw [h]
  unfold ydg
  exact ⟨by omega, by omega⟩
theorem rz_whole {z9 : Int} (hj : j ≤ 512) (hI : lwInv j yc hc yn yM yu hy hg hf) : ∀ z c1, p5_whole ty ad (cutC ct) yc hc yn yM yu hy hg hf z9 z c1 → (fun z => z = 0 ∨ z = 1) z := fun z c1 h => by
  obtain ⟨y9, -, -, h, -⟩ := h
  rw [h]; split
  · exact Or.inr rfl
  · exact Or.inl rfl
theorem rz_heap {z9 : Int} (hj : j ≤ 512) (hI : lwInv j yc hc yn yM yu hy hg hf) : ∀ z c1 ad1, p5_heap ty ad (cutC ct) yc hc yn yM yu hy hg hf z9 z c1 ad1 → r32 z := fun z c1 ad1 h => by
  obtain ⟨y9, -, -, ⟨-, h, -⟩ | ⟨h20, -, h, -⟩⟩ := h <;> exact ⟨by omega, by omega⟩
theorem rz_set {z9 p9 n9 : Int} (hj : j ≤ 512) (hI : lwInv j yc hc yn yM yu hy hg hf) : ∀ z c1, p5_set ty ad (cutC ct) yc hc yn yM yu hy hg hf z9 p9 n9 z c1 → r32 z := fun z c1 h => by
  obtain ⟨h9, q9, -, -, l1, l2, l3, -, -, h, -⟩ := h
  have := iv_g hj hI h9 l1 q9 l2 l3
  rw [h]; exact ⟨by omega, by omega⟩
theorem rz_topple {z9 p9 : Int} (hj : j ≤ 512) (hI : lwInv j yc hc yn yM yu hy hg hf) : ∀ z c1, p5_topple ty ad (cutC ct) yc hc yn yM yu hy hg hf z9 p9 z c1 → (fun z => z = 0 ∨ z = 1) z := fun z c1 h => by
  obtain ⟨h9, q9, -, -, -, -, -, ⟨-, h, -⟩ | ⟨-, h, -⟩⟩ := h
  · exact Or.inl h
  · exact Or.inr h
theorem rz_is {z9 w9 : Int} (hj : j ≤ 512) (hI : lwInv j yc hc yn yM yu hy hg hf) : ∀ z c1, p5_is ty ad (cutC ct) yc hc yn yM yu hy hg hf z9 w9 z c1 → (fun z => z = 0 ∨ z = 1) z := fun z c1 h => by
  obtain ⟨h9, -, -, -, ⟨-, ⟨h, -⟩ | ⟨h, -⟩⟩ | ⟨-, h⟩⟩ := h
  · exact Or.inr h
  · exact Or.inl h
  · exact brn_01 h
theorem rz_burns {z9 p9 : Int} (hj : j ≤ 512) (hI : lwInv j yc hc yn yM yu hy hg hf) : ∀ z c1, p5_burns ty ad (cutC ct) yc hc yn yM yu hy hg hf z9 p9 z c1 → r32 z := fun z c1 h => by
  obtain ⟨h9, q9, -, -, l1, -, -, ⟨-, h⟩ | ⟨-, h⟩⟩ := h
  · rw [h]; exact ⟨by omega, by omega⟩
  · have h2 := iv_n hI (hy h9) (iv_hy hI h9 l1)
    have h3 := bit_rng (n := yn (hy h9)) (M := yM (hy h9)) (d := ydg yn yM (hy h9)) (g := hg h9) (yn (hy h9) - 1) (by omega) q9
    rw [h]; exact ⟨by omega, by omega⟩
theorem rz_alike {z9 w9 : Int} (hj : j ≤ 512) (hI : lwInv j yc hc yn yM yu hy hg hf) : ∀ z c1, p5_alike ty ad (cutC ct) yc hc yn yM yu hy hg hf z9 w9 z c1 → (fun z => z = 0 ∨ z = 1) z := fun z c1 h => by
  obtain ⟨h9, o9, -, -, -, -, -, -, so1, T, -, ⟨-, h⟩ | ⟨-, h⟩⟩ := h
  · exact Or.inr h
  · exact Or.inl h
theorem rz_tree {z9 p9 w9 : Int} (hj : j ≤ 512) (hI : lwInv j yc hc yn yM yu hy hg hf) : ∀ z c1, p5_tree ty ad (cutC ct) yc hc yn yM yu hy hg hf z9 p9 w9 z c1 → r32 z := fun z c1 h => by
  obtain ⟨h9, q9, -, -, l1, l2, l3, -, -, h, -⟩ := h
  have hk := iv_kh hI h9 l1
  have hM := hk.2.2.1
  have hn := hk.2.1
  have hg9 := iv_g hj hI h9 l1 q9 l2 l3
  have hd := dg_rng21 hk q9
  obtain ⟨rd, hrd⟩ : ∃ rd, rd = bit (yn (hy h9)) (yM (hy h9)) (ydg yn yM (hy h9)) (hg h9) (yn (hy h9) - 1) := ⟨_, rfl⟩
  rw [h, ← hrd]
  unfold trq
  have h1 := ltb_rng hM (ydg yn yM (hy h9)) rd q9 (rd q9) (yn (hy h9))
  have h2 := ldf_rng (yM (hy h9)) rd q9 (hg h9 q9 - ltb (yM (hy h9)) (ydg yn yM (hy h9)) rd q9 (rd q9) (yn (hy h9))) (yn (hy h9)) 0
  have h4 : ydg yn yM (hy h9) q9 = dg (yn (hy h9)) (yM (hy h9)) q9 := rfl
  split
  · exact ⟨by omega, by omega⟩
  · have h3 := pbk_rng hM rd q9 (ldf (yM (hy h9)) rd q9 (hg h9 q9 - ltb (yM (hy h9)) (ydg yn yM (hy h9)) rd q9 (rd q9) (yn (hy h9))) (yn (hy h9)) 0).toNat
    exact ⟨by omega, by omega⟩
theorem rz_grow {z9 : Int} {tr : Nat} (hj : j ≤ 512) (hI : lwInv j yc hc yn yM yu hy hg hf) : ∀ z c1, p5_grow ty ad (cutC ct) yc hc yn yM yu hy hg hf z9 tr z c1 → (fun z => z = 0 ∨ z = 1) z := fun z c1 h => by
  obtain ⟨h9, -, -, ⟨h, -⟩ | ⟨h, -⟩⟩ := h
  · exact Or.inl h
  · exact Or.inr h
theorem rz_count {w9 : Int} (hj : j ≤ 512) (hI : lwInv j yc hc yn yM yu hy hg hf) : ∀ z c1, p5_count ty ad (cutC ct) yc hc yn yM yu hy hg hf w9 z c1 → r32 z := fun z c1 h => by
  have := hI.1
  obtain ⟨⟨-, h⟩ | ⟨-, h⟩, -⟩ := h <;> exact ⟨by omega, by omega⟩
theorem xp_part {z9 w9 : Int} : ∀ E c1, x5_part ty ad (cutC ct) yc hc yn yM yu hy hg hf z9 w9 E c1 → E = xNSE ∨ E = xISE := fun E c1 h => by
  rcases h with h | h | h
  · exact Or.inl h.1
  · exact Or.inr h.1
  · exact Or.inl h.1
theorem xp_tree {z9 p9 w9 : Int} : ∀ E c1, x5_tree ty ad (cutC ct) yc hc yn yM yu hy hg hf z9 p9 w9 E c1 → E = xNSE ∨ E = xISE := fun E c1 h => by
  rcases h with h | h
  · exact Or.inl h.1
  · exact Or.inr h.1
theorem xp_set {z9 p9 n9 : Int} : ∀ E c1, x5_set ty ad (cutC ct) yc hc yn yM yu hy hg hf z9 p9 n9 E c1 → E = xNSE ∨ E = xIAE := fun E c1 h => by
  rcases h with h | h
  · exact Or.inl h.1
  · exact Or.inr h.1
theorem xp_add {z9 w9 : Int} : ∀ E c1, x5_add ty ad (cutC ct) yc hc yn yM yu hy hg hf z9 w9 E c1 → E = xNSE ∨ E = xIAE := fun E c1 h => by
  rcases h.1 with h | h
  · exact Or.inl h.1
  · exact Or.inr h.1
theorem xp_alike {z9 w9 : Int} : ∀ E c1, x5_alike ty ad (cutC ct) yc hc yn yM yu hy hg hf z9 w9 E c1 → E = xNSE ∨ E = xIAE := fun E c1 h => by
  rcases h.1 with h | h
  · exact Or.inl h.1
  · exact Or.inr h.1
end Ranges

end Agree
