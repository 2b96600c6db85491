/-! The whole object -/
section ClsPic
theorem KindsAt.kept {ty : Nat → ClassId} {ad : Nat → Nat} {ct ct1 : rm_C} {ko : Nat} {fu li so fa : Nat → Int} {T : Nat → Nat → Int} (h : KindsAt ty ad ct ko fu li so fa T) (ho : ∀ q, ko ≤ q → q ≤ ko + 14 → ct1 q = ct q) : KindsAt ty ad ct1 ko fu li so fa T :=
  ⟨(ho _ (by omega) (by omega)).trans h.1, (ho _ (by omega) (by omega)).trans h.2.1, (ho _ (by omega) (by omega)).trans h.2.2.1, (ho _ (by omega) (by omega)).trans h.2.2.2.1, (ho _ (by omega) (by omega)).trans h.2.2.2.2.1, (ho _ (by omega) (by omega)).trans h.2.2.2.2.2.1, (ho _ (by omega) (by omega)).trans h.2.2.2.2.2.2.1, fun i hi => (ho _ (by omega) (by omega)).trans (h.2.2.2.2.2.2.2 i hi)⟩
theorem PartsAt.kept {ty : Nat → ClassId} {ad : Nat → Nat} {ct ct1 : rm_C} {po k on : Nat} {tr : Int} {r : Nat → Int} {T : Nat → Nat → Int} (h : PartsAt ty ad ct po k on tr r T) (ho : ∀ q, po ≤ q → q ≤ po + 10 → ct1 q = ct q) : PartsAt ty ad ct1 po k on tr r T :=
  ⟨(ho _ (by omega) (by omega)).trans h.1, (ho _ (by omega) (by omega)).trans h.2.1, (ho _ (by omega) (by omega)).trans h.2.2.1, fun i hi => (ho _ (by omega) (by omega)).trans (h.2.2.2 i hi)⟩
theorem FireAt.kept {ty : Nat → ClassId} {ad : Nat → Nat} {ct ct1 : rm_C} {rd : Nat → Int} (h : FireAt ty ad ct 3 4 rd) (ho : ∀ q, 3 ≤ q → q ≤ 4 → ct1 q = ct q) : FireAt ty ad ct1 3 4 rd :=
  ⟨(ho _ (by omega) (by omega)).trans h.1, (ho _ (by omega) (by omega)).trans h.2⟩
/-- the object itself and its two rows -/
def TopAt (ty : Nat → ClassId) (ad : Nat → Nat) (ct : rm_C) (yc hc : Nat) : Prop :=
  ct 0 = some (.inr (5, [.ref (ad 1), .ref (ad 2), .int (jI ((yc : Nat) : Int)), .int (jI ((hc : Nat) : Int)), .ref (ad 3), .ref (ad 5), .ref (ad 20)])) ∧
  ct 1 = some (rq ty 3 6 (fun i => if i < yc then some (ad (40 + 16 * i)) else none)) ∧ ct 2 = some (rq ty 4 20 (fun i => if i < hc then some (ad (200 + 4 * i)) else none))
/-- the helpers, whatever they hold -/
def HelpAt (ty : Nat → ClassId) (ad : Nat → Nat) (ct : rm_C) : Prop :=
  (∃ rd, FireAt ty ad ct 3 4 rd) ∧ (∃ fu li so fa T, KindsAt ty ad ct 5 fu li so fa T) ∧ ∃ k on tr r T, PartsAt ty ad ct 20 k on tr r T
def ClsAt (ty : Nat → ClassId) (ad : Nat → Nat) (ct : rm_C) (yc hc : Nat) (yn : Nat → Nat) (yM : Nat → Nat → Nat → Int) (yd : Nat → Nat → Int) (yu : Nat → Int) (hy : Nat → Nat) (hg hf : Nat → Nat → Int) : Prop :=
  (yc ≤ 6 ∧ hc ≤ 20) ∧ TopAt ty ad ct yc hc ∧ HelpAt ty ad ct ∧
  (∀ y, y < yc → YardAt ty ad ct (40 + 16 * y) (yn y) (yM y) (yd y) (yu y)) ∧ (∀ h, h < hc → hy h < yc ∧ HeapAt ty ad ct (200 + 4 * h) (40 + 16 * hy h) (hg h) (hf h)) ∧
  (∀ y, yc ≤ y → y < 6 → ∀ j, j ≤ 10 → ct (40 + 16 * y + j) = none) ∧ ∀ h, hc ≤ h → h < 20 → ∀ j, j ≤ 2 → ct (200 + 4 * h + j) = none
end ClsPic
