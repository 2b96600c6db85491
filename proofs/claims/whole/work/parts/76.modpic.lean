/-! The model: its rows told by two and three indices; its picture -/
section ModPic
def fl (w : Nat) (A : Nat → Nat → Int) : Nat → Int := fun j => A (j / w) (j % w)
theorem fl_at {w i j : Nat} {A : Nat → Nat → Int} (h : j < w) : fl w A (w * i + j) = A i j := by
  unfold fl
  rw [Nat.mul_add_mod, Nat.mod_eq_of_lt h, Nat.mul_add_div (by omega), Nat.div_eq_of_lt h, Nat.add_zero]
theorem fl_ub {w i j : Nat} (h : j < w) (A : Nat → Nat → Int) (v : Int) : ub (fl w A) (w * i + j) v = fl w (ub A i (ub (A i) j v)) := by
  funext q
  have hw : 0 < w := by omega
  have hq := Nat.div_add_mod q w
  by_cases e : q = w * i + j
  · subst e; rw [ub_s, fl_at h, ub_s, ub_s]
  · rw [ub_n _ _ e]; unfold fl
    by_cases e1 : q / w = i
    · rw [e1, ub_s, ub_n _ _ (fun e2 => e (by rw [← hq, e1, e2]))]
    · rw [ub_n _ _ e1]
def fl64 (A : Nat → Nat → Nat → Int) : Nat → Int := fun j => A (j / 64) (j / 8 % 8) (j % 8)
theorem fl64_at {y i j : Nat} {A : Nat → Nat → Nat → Int} (hi : i < 8) (hj : j < 8) : fl64 A (64 * y + 8 * i + j) = A y i j := by
  unfold fl64
  rw [show (64 * y + 8 * i + j) / 64 = y by omega, show (64 * y + 8 * i + j) / 8 % 8 = i by omega, show (64 * y + 8 * i + j) % 8 = j by omega]
theorem fl64_ub {y i j : Nat} (hi : i < 8) (hj : j < 8) (A : Nat → Nat → Nat → Int) (v : Int) : ub (fl64 A) (64 * y + 8 * i + j) v = fl64 (ub A y (ub (A y) i (ub (A y i) j v))) := by
  funext q
  by_cases e : q = 64 * y + 8 * i + j
  · subst e; rw [ub_s, fl64_at hi hj, ub_s, ub_s, ub_s]
  · rw [ub_n _ _ e]; unfold fl64
    by_cases e1 : q / 64 = y
    · rw [e1, ub_s]
      by_cases e2 : q / 8 % 8 = i
      · rw [e2, ub_s, ub_n _ _ (by omega)]
      · rw [ub_n _ _ e2]
    · rw [ub_n _ _ e1]
theorem nub_eq (g : Nat → Nat) (j v : Nat) : ub (fun y => ((g y : Nat) : Int)) j ((v : Nat) : Int) = fun y => ((ub g j v y : Nat) : Int) := by
  funext q
  by_cases e : q = j
  · subst e; rw [ub_s, ub_s]
  · rw [ub_n _ _ e, ub_n _ _ e]
def ModAt (ty : Nat → ClassId) (ad : Nat → Nat) (ct : rm_C) (th : Int) (yc hc : Nat) (yn : Nat → Nat) (yM : Nat → Nat → Nat → Int) (yu : Nat → Int) (hy : Nat → Nat) (hg hf mA : Nat → Nat → Int) (pt ro ke kt mu sl tw bw de : Nat → Int) : Prop :=
  ct 1000 = some (.inr (6, [.int (jI th), .int (jI ((yc : Nat) : Int)), .int (jI ((hc : Nat) : Int)), .ref (ad 1001), .ref (ad 1002), .ref (ad 1003), .ref (ad 1004), .ref (ad 1005), .ref (ad 1006), .ref (ad 1007), .ref (ad 1008), .ref (ad 1009), .ref (ad 1010), .ref (ad 1011), .ref (ad 1012), .ref (ad 1013), .ref (ad 1014), .ref (ad 1015), .ref (ad 1016)])) ∧
  ct 1001 = some (ri ty 6 (fun y => ((yn y : Nat) : Int))) ∧ ct 1002 = some (ri ty 384 (fl64 yM)) ∧ ct 1003 = some (ri ty 20 (fun y => ((hy y : Nat) : Int))) ∧ ct 1004 = some (rz ty 6 yu) ∧
  ct 1005 = some (rl ty 160 (fl 8 hg)) ∧ ct 1006 = some (rl ty 160 (fl 8 hf)) ∧ ct 1007 = some (rl ty 49 (fl 7 mA)) ∧ ct 1008 = some (rl ty 7 pt) ∧ ct 1009 = some (ri ty 8 ro) ∧
  ct 1010 = some (rl ty 8 ke) ∧ ct 1011 = some (rl ty 8 kt) ∧ ct 1012 = some (rl ty 8 mu) ∧ ct 1013 = some (rl ty 8 sl) ∧ ct 1014 = some (ri ty 8 tw) ∧ ct 1015 = some (ri ty 8 bw) ∧ ct 1016 = some (ri ty 8 de)
end ModPic
section ModPic2
def ModX (ty : Nat → ClassId) (ad : Nat → Nat) (ct : rm_C) (th : Int) (yc hc : Nat) (yn : Nat → Nat) (yM : Nat → Nat → Nat → Int) (yu : Nat → Int) (hy : Nat → Nat) (hg hf : Nat → Nat → Int) : Prop :=
  ∃ (mA : Nat → Nat → Int) (pt ro ke kt mu sl tw bw de : Nat → Int), ModAt ty ad ct th yc hc yn yM yu hy hg hf mA pt ro ke kt mu sl tw bw de
/-- places reached, by bits: one path; one place's paths; all places'; so often -/
def ist (M : Nat → Nat → Int) (a b r : Nat) : Nat := if r / 2 ^ a % 2 = 1 ∧ 0 < M a b then r ||| 2 ^ b else r
def isb (M : Nat → Nat → Int) (a : Nat) : Nat → Nat → Nat
  | 0, r => r
  | k + 1, r => ist M a k (isb M a k r)
def isa (n : Nat) (M : Nat → Nat → Int) : Nat → Nat → Nat
  | 0, r => r
  | k + 1, r => isb M k n (isa n M k r)
def isz (n : Nat) (M : Nat → Nat → Int) : Nat → Nat
  | 0 => 1
  | k + 1 => isa n M n (isz n M k)
theorem ist_lt {n : Nat} {M : Nat → Nat → Int} {a b r : Nat} (hb : b < n) (hr : r < 2 ^ n) : ist M a b r < 2 ^ n := by
  unfold ist; split
  · exact bt_lt hr hb
  · exact hr
theorem isb_lt {n : Nat} {M : Nat → Nat → Int} {a r : Nat} (hr : r < 2 ^ n) : ∀ {k : Nat}, k ≤ n → isb M a k r < 2 ^ n
  | 0, _ => hr
  | _ + 1, h => ist_lt (by omega) (isb_lt hr (by omega))
theorem isa_lt {n : Nat} {M : Nat → Nat → Int} {r : Nat} (hr : r < 2 ^ n) : ∀ k : Nat, isa n M k r < 2 ^ n
  | 0 => hr
  | k + 1 => isb_lt (isa_lt hr k) (Nat.le_refl _)
theorem isz_lt {n : Nat} {M : Nat → Nat → Int} (hn : 1 ≤ n) : ∀ k : Nat, isz n M k < 2 ^ n
  | 0 => Nat.one_lt_two_pow (by omega)
  | k + 1 => isa_lt (isz_lt hn k) n
end ModPic2
section ModPic3
theorem fl_cong {w : Nat} (hw : 0 < w) {A B : Nat → Nat → Int} (h : ∀ i j, j < w → A i j = B i j) : fl w A = fl w B := by
  funext q; unfold fl; exact h _ _ (Nat.mod_lt _ hw)
def adp (i : Nat) (M : Nat → Nat → Int) (g : Nat → Int) (p : Nat) (t : Int) : Nat → Int := fun q => g q + (if q < i then t * M p q else 0)
theorem adp_0 (M : Nat → Nat → Int) (g : Nat → Int) (p : Nat) (t : Int) : adp 0 M g p t = g := by
  funext q; unfold adp; rw [if_neg (by omega)]; omega
theorem adp_s (M : Nat → Nat → Int) (g : Nat → Int) (p : Nat) (t : Int) (i : Nat) : ub (adp i M g p t) i (adp i M g p t i + t * M p i) = adp (i + 1) M g p t := by
  funext q
  by_cases e : q = i
  · subst e; rw [ub_s]; unfold adp; rw [if_neg (by omega), if_pos (by omega)]; omega
  · rw [ub_n _ _ e]; unfold adp
    by_cases e2 : q < i
    · rw [if_pos e2, if_pos (by omega)]
    · rw [if_neg e2, if_neg (by omega)]
theorem adp_fel (n : Nat) (M : Nat → Nat → Int) (g : Nat → Int) (p : Nat) (t : Int) : ub (adp n M g p t) p (adp n M g p t p - t * dg n M p) = fel n M (dg n M) g p t := by
  funext q
  by_cases e : q = p
  · subst e; rw [ub_s]; unfold adp fel; rw [if_pos rfl]; omega
  · rw [ub_n _ _ e]; unfold adp fel; rw [if_neg e]
def zer (i : Nat) (f : Nat → Int) : Nat → Int := fun q => if q < i then 0 else f q
theorem zer_0 (f : Nat → Int) : zer 0 f = f := by funext q; unfold zer; rw [if_neg (by omega)]
theorem zer_s (f : Nat → Int) (i : Nat) : ub (zer i f) i 0 = zer (i + 1) f := by
  funext q
  by_cases e : q = i
  · subst e; rw [ub_s]; unfold zer; rw [if_pos (by omega)]
  · rw [ub_n _ _ e]; unfold zer
    by_cases e2 : q < i
    · rw [if_pos e2, if_pos (by omega)]
    · rw [if_neg e2, if_neg (by omega)]
theorem zer_8 (hf : Nat → Nat → Int) (h9 : Nat) (f : Nat → Int) : fl 8 (ub hf h9 (zer 8 f)) = fl 8 (ub hf h9 (fun _ => 0)) := fl_cong (by omega) (fun i j hj => by
  by_cases e : i = h9
  · subst e; rw [ub_s, ub_s]; exact if_pos hj
  · rw [ub_n _ _ e, ub_n _ _ e])
def dwn (n : Nat) : Nat → Nat := fun k => n - 1 - k
theorem dwn_in {n : Nat} : ∀ k, k < n - 1 → 1 ≤ dwn n k ∧ dwn n k < n := fun k hk => by unfold dwn; omega
theorem dwn_all {n : Nat} : ∀ p, 1 ≤ p → p < n → ∃ k, k < n - 1 ∧ dwn n k = p := fun p h1 h2 => ⟨n - 1 - p, by omega, by unfold dwn; omega⟩
theorem sw_dwn {n : Nat} {M : Nat → Nat → Int} {g u : Nat → Int} {p : Nat} (h1 : 1 ≤ p) (h2 : p < n) : sw n M g (dwn n) (n - 1 - (p - 1)) u = tp n M g p (sw n M g (dwn n) (n - 1 - p) u) := by
  rw [show n - 1 - (p - 1) = n - 1 - p + 1 by omega, sw_s]
  rw [show dwn n (n - 1 - p) = p by unfold dwn; omega]
def mst9 (n : Nat) (M : Nat → Nat → Int) : Prop := yok n M ∧ (∀ i, 1 ≤ i → i < n → 1 ≤ dg n M i) ∧ ∀ g : Nat → Int, (∀ q, 1 ≤ q → q < n → 0 ≤ g q) → psum n g ≤ 1000000000 → ∃ s0, its n M g (dwn n) (s0 + 1) = its n M g (dwn n) s0
end ModPic3
