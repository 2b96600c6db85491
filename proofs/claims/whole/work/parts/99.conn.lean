/-! Joined: what both sides' bits tell -/
section Conn
def cn (n : Nat) (M : Nat → Nat → Int) : Prop := ∀ S : Nat → Prop, S 0 → (∀ a b, a < n → b < n → S a → 0 < M a b → S b) → ∀ p, p < n → S p
def itf (F : Nat → Nat) : Nat → Nat
  | 0 => 1
  | k + 1 => F (itf F k)
def cnt9 (n r : Nat) : Int := gs (fun i => if r.testBit i = true then 1 else 0) n
theorem full_of {n r : Nat} (hr : r < 2 ^ n) (h : ∀ p, p < n → r.testBit p = true) : r = 2 ^ n - 1 := by
  apply Nat.eq_of_testBit_eq
  intro i
  rw [Nat.testBit_two_pow_sub_one]
  rcases Nat.lt_or_ge i n with e | e
  · rw [h i e]; simp [e]
  · rw [Nat.testBit_lt_two_pow (Nat.lt_of_lt_of_le hr (Nat.pow_le_pow_right (by omega) e))]
    simp [show ¬ i < n by omega]
theorem reach {n : Nat} {M : Nat → Nat → Int} (hn : 1 ≤ n) (F : Nat → Nat)
    (h1 : ∀ r, r < 2 ^ n → r.testBit 0 = true → F r < 2 ^ n ∧ ∀ i, r.testBit i = true → (F r).testBit i = true)
    (h2 : ∀ r, r < 2 ^ n → r.testBit 0 = true → F r = r → ∀ a b, a < n → b < n → r.testBit a = true → 0 < M a b → r.testBit b = true)
    (h3 : ∀ S : Nat → Prop, S 0 → (∀ a b, a < n → b < n → S a → 0 < M a b → S b) → ∀ r, r < 2 ^ n → (∀ i, r.testBit i = true → S i) → ∀ i, (F r).testBit i = true → S i) {k : Nat} (hk : n - 1 ≤ k) : itf F k = 2 ^ n - 1 ↔ cn n M := by
  have hb : ∀ s, itf F s < 2 ^ n ∧ (itf F s).testBit 0 = true := by
    intro s
    induction s with
    | zero => exact ⟨Nat.one_lt_two_pow (by omega), (by show (1 : Nat).testBit 0 = true; decide)⟩
    | succ s ih => obtain ⟨a, b⟩ := h1 _ ih.1 ih.2; exact ⟨a, b 0 ih.2⟩
  constructor
  · intro hf S h0 hS p hp
    have hs : ∀ s i, (itf F s).testBit i = true → S i := by
      intro s
      induction s with
      | zero =>
        intro i hi
        have : i = 0 := by
          have h5 : (2 ^ 0).testBit i = true := hi
          rw [Nat.testBit_two_pow] at h5
          exact (of_decide_eq_true h5).symm
        rw [this]; exact h0
      | succ s ih => exact fun i hi => h3 S h0 hS _ (hb s).1 ih i hi
    refine hs k p ?_
    rw [hf, Nat.testBit_two_pow_sub_one]; simp [hp]
  · intro hc
    have hq : ∀ s : Nat, (s : Int) + 1 ≤ cnt9 n (itf F s) ∨ itf F s = 2 ^ n - 1 := by
      intro s
      induction s with
      | zero =>
        left
        have h5 := gs_ge (f := fun i => if (itf F 0).testBit i = true then (1 : Int) else 0) (p := 0) (n := n) (fun k _ => by split <;> omega) (by omega)
        rw [if_pos (hb 0).2] at h5
        unfold cnt9; omega
      | succ s ih =>
        obtain ⟨h4, h5⟩ := h1 _ (hb s).1 (hb s).2
        by_cases hne : itf F s = 2 ^ n - 1
        · right
          refine full_of h4 (fun p hp => h5 p ?_)
          rw [hne, Nat.testBit_two_pow_sub_one]; simp [hp]
        · left
          have h6 : (s : Int) + 1 ≤ cnt9 n (itf F s) := by rcases ih with h | h; exact h; exact absurd h hne
          have h7 : ∃ i, (F (itf F s)).testBit i = true ∧ ¬ (itf F s).testBit i = true := Classical.byContradiction fun hx => by
            have h8 : F (itf F s) = itf F s := Nat.eq_of_testBit_eq (fun i => by
              cases e : (itf F s).testBit i with
              | true => exact h5 i e
              | false =>
                cases e2 : (F (itf F s)).testBit i with
                | false => rfl
                | true => exact absurd ⟨i, e2, by rw [e]; decide⟩ hx)
            exact hne (full_of (hb s).1 (fun p hp => hc (fun a => (itf F s).testBit a = true) (hb s).2 (h2 _ (hb s).1 (hb s).2 h8) p hp))
          obtain ⟨i, hi1, hi2⟩ := h7
          have hin : i < n := by
            rcases Nat.lt_or_ge i n with e | e
            · exact e
            · rw [Nat.testBit_lt_two_pow (Nat.lt_of_lt_of_le h4 (Nat.pow_le_pow_right (by omega) e))] at hi1; cases hi1
          have h9 : cnt9 n (itf F s) + 1 ≤ cnt9 n (itf F (s + 1)) := gs_more (p := i) (fun k _ => by
            by_cases e : (itf F s).testBit k = true
            · rw [if_pos e, if_pos (show (itf F (s + 1)).testBit k = true from h5 k e)]; omega
            · rw [if_neg e]; split <;> omega) hin (by rw [if_neg hi2, if_pos (show (itf F (s + 1)).testBit i = true from hi1)]; omega)
          push_cast; omega
    rcases hq k with h | h
    · refine full_of (hb k).1 (fun p hp => Classical.byContradiction fun hx => ?_)
      have h4 := gs_more (f := fun i => if (itf F k).testBit i = true then (1 : Int) else 0) (g := fun _ => 1) (p := p) (n := n) (fun k _ => by split <;> omega) hp (by rw [if_neg hx]; omega)
      rw [gs_const] at h4
      unfold cnt9 at h; omega
    · exact h
/-- the model's rounds -/
theorem ist_bit {M : Nat → Nat → Int} {a b r i : Nat} : (ist M a b r).testBit i = true ↔ r.testBit i = true ∨ (r.testBit a = true ∧ 0 < M a b ∧ i = b) := by
  unfold ist
  by_cases e : r.testBit a = true ∧ 0 < M a b
  · rw [if_pos ⟨bt_test.mpr e.1, e.2⟩, Nat.testBit_or, Nat.testBit_two_pow]
    simp only [Bool.or_eq_true, decide_eq_true_eq]
    constructor
    · rintro (h | h)
      · exact Or.inl h
      · exact Or.inr ⟨e.1, e.2, h.symm⟩
    · rintro (h | h)
      · exact Or.inl h
      · exact Or.inr h.2.2.symm
  · rw [if_neg (fun h => e ⟨bt_test.mp h.1, h.2⟩)]
    exact ⟨Or.inl, fun h => by rcases h with h | h; exact h; exact absurd ⟨h.1, h.2.1⟩ e⟩
theorem isb_up {M : Nat → Nat → Int} {a r i : Nat} (h : r.testBit i = true) : ∀ k, (isb M a k r).testBit i = true
  | 0 => h
  | k + 1 => ist_bit.mpr (Or.inl (isb_up h k))
theorem isb_upk {M : Nat → Nat → Int} {a r i j : Nat} (h : (isb M a j r).testBit i = true) : ∀ k, (isb M a (j + k) r).testBit i = true
  | 0 => h
  | k + 1 => ist_bit.mpr (Or.inl (isb_upk h k))
theorem isa_up {n : Nat} {M : Nat → Nat → Int} {r i j : Nat} (h : (isa n M j r).testBit i = true) : ∀ k, (isa n M (j + k) r).testBit i = true
  | 0 => h
  | k + 1 => isb_up (isa_up h k) n
theorem isa_sound {n : Nat} {M : Nat → Nat → Int} {S : Nat → Prop} (hS : ∀ a b, a < n → b < n → S a → 0 < M a b → S b) {r : Nat} (h : ∀ i, r.testBit i = true → S i) : ∀ k, k ≤ n → ∀ i, (isa n M k r).testBit i = true → S i
  | 0, _, i, hi => h i hi
  | k + 1, hk, i, hi => by
    have hb : ∀ b, b ≤ n → ∀ i, (isb M k b (isa n M k r)).testBit i = true → S i := by
      intro b
      induction b with
      | zero => exact fun _ i hi => isa_sound hS h k (by omega) i hi
      | succ b ih =>
        intro hb i hi
        rcases ist_bit.mp hi with h1 | ⟨h1, h2, h3⟩
        · exact ih (by omega) i h1
        · rw [h3]; exact hS k b (by omega) (by omega) (ih (by omega) k h1) h2
    exact hb n (Nat.le_refl n) i hi
theorem isz_itf (n : Nat) (M : Nat → Nat → Int) : ∀ k, isz n M k = itf (isa n M n) k
  | 0 => rfl
  | k + 1 => by show isa n M n (isz n M k) = _; rw [isz_itf n M k]; rfl
theorem isz_cn {n : Nat} {M : Nat → Nat → Int} (hn : 1 ≤ n) (hn8 : n ≤ 8) : isz n M 8 = 2 ^ n - 1 ↔ cn n M := by
  rw [isz_itf]
  refine reach hn _ (fun r hr _ => ⟨isa_lt hr n, fun i hi => ?_⟩) (fun r hr _ he a b ha hb h1 h2 => ?_) (fun S _ hS r _ h => isa_sound hS h n (Nat.le_refl n)) (by omega)
  · have := isa_up (n := n) (M := M) (j := 0) (r := r) hi n
    rw [Nat.zero_add] at this; exact this
  · have h3 : (isa n M a r).testBit a = true := by
      have := isa_up (n := n) (M := M) (j := 0) (r := r) h1 a
      rw [Nat.zero_add] at this; exact this
    have h4 : (isb M a b (isa n M a r)).testBit a = true := isb_up h3 b
    have h5 : (isb M a (b + 1) (isa n M a r)).testBit b = true := ist_bit.mpr (Or.inr ⟨h4, h2, rfl⟩)
    have h6 := isb_upk h5 (n - (b + 1))
    rw [show b + 1 + (n - (b + 1)) = n by omega] at h6
    have h7 := isa_up (n := n) (M := M) (j := a + 1) (r := r) h6 (n - (a + 1))
    rw [show a + 1 + (n - (a + 1)) = n by omega, he] at h7
    exact h7
/-- the class's rounds -/
theorem tch_iff {M : Nat → Nat → Int} {p r : Nat} : ∀ {n : Nat}, tch M p r n = true ↔ ∃ i, i < n ∧ r.testBit i = true ∧ 0 < M p i
  | 0 => ⟨fun h => absurd (show false = true from h) (by decide), fun ⟨i, h, _⟩ => absurd h (Nat.not_lt_zero _)⟩
  | n + 1 => by
    constructor
    · intro h
      by_cases e : tch M p r n = true
      · obtain ⟨i, h1, h2⟩ := tch_iff.mp e; exact ⟨i, by omega, h2⟩
      · refine ⟨n, by omega, ?_⟩
        unfold tch at h
        simp only [Bool.or_eq_true, Bool.and_eq_true, decide_eq_true_eq] at h
        rcases h with h | h
        · exact absurd h e
        · exact h
    · rintro ⟨i, h1, h2, h3⟩
      by_cases e : i = n
      · subst e; unfold tch; simp only [Bool.or_eq_true, Bool.and_eq_true, decide_eq_true_eq]; exact Or.inr ⟨h2, h3⟩
      · exact tch_up (tch_iff.mpr ⟨i, show i < n by omega, h2, h3⟩) (Nat.le_succ n)
theorem jst_bit {n : Nat} {M : Nat → Nat → Int} {p r i : Nat} : (jst n M p r).testBit i = true ↔ r.testBit i = true ∨ (tch M p r n = true ∧ i = p) := by
  unfold jst
  by_cases e : tch M p r n = true
  · rw [if_pos e, Nat.testBit_or, Nat.testBit_two_pow]
    simp only [Bool.or_eq_true, decide_eq_true_eq]
    exact ⟨fun h => by rcases h with h | h; exact Or.inl h; exact Or.inr ⟨e, h.symm⟩, fun h => by rcases h with h | h; exact Or.inl h; exact Or.inr h.2.symm⟩
  · rw [if_neg e]
    exact ⟨Or.inl, fun h => by rcases h with h | h; exact h; exact absurd h.1 e⟩
theorem jrd_up {n : Nat} {M : Nat → Nat → Int} {r i j : Nat} (h : (jrd n M j r).testBit i = true) : ∀ k, (jrd n M (j + k) r).testBit i = true
  | 0 => h
  | k + 1 => jst_bit.mpr (Or.inl (jrd_up h k))
theorem jrd_sound {n : Nat} {M : Nat → Nat → Int} (hsy : ∀ i j, M i j = M j i) {S : Nat → Prop} (hS : ∀ a b, a < n → b < n → S a → 0 < M a b → S b) {r : Nat} (h : ∀ i, r.testBit i = true → S i) : ∀ k, k ≤ n - 1 → ∀ i, (jrd n M k r).testBit i = true → S i
  | 0, _, i, hi => h i hi
  | k + 1, hk, i, hi => by
    rcases jst_bit.mp hi with h1 | ⟨h1, h2⟩
    · exact jrd_sound hsy hS h k (by omega) i h1
    · obtain ⟨o, h3, h4, h5⟩ := tch_iff.mp h1
      rw [h2]; exact hS o (k + 1) h3 (by omega) (jrd_sound hsy hS h k (by omega) o h4) (by rw [hsy]; exact h5)
theorem jit_itf (n : Nat) (M : Nat → Nat → Int) : ∀ k, jit n M k = itf (jrd n M (n - 1)) k
  | 0 => rfl
  | k + 1 => by show jrd n M (n - 1) (jit n M k) = _; rw [jit_itf n M k]; rfl
theorem jit_cn {n : Nat} {M : Nat → Nat → Int} (hn : 1 ≤ n) (hsy : ∀ i j, M i j = M j i) : jit n M (n - 1) = 2 ^ n - 1 ↔ cn n M := by
  rw [jit_itf]
  refine reach hn _ (fun r hr _ => ⟨jrd_lt hr (Nat.le_refl _), fun i hi => ?_⟩) (fun r hr h0 he a b ha hb h1 h2 => ?_) (fun S _ hS r _ h => jrd_sound hsy hS h _ (Nat.le_refl _)) (Nat.le_refl _)
  · have := jrd_up (n := n) (M := M) (j := 0) (r := r) hi (n - 1)
    rw [Nat.zero_add] at this; exact this
  · by_cases e : b = 0
    · rw [e]; exact h0
    · have h3 : (jrd n M (b - 1) r).testBit a = true := by
        have := jrd_up (n := n) (M := M) (j := 0) (r := r) h1 (b - 1)
        rw [Nat.zero_add] at this; exact this
      have h4 : (jrd n M (b - 1 + 1) r).testBit b = true := jst_bit.mpr (Or.inr ⟨tch_iff.mpr ⟨a, ha, h3, by rw [hsy]; rw [show b - 1 + 1 = b by omega]; exact h2⟩, by omega⟩)
      have h5 := jrd_up h4 (n - 1 - (b - 1 + 1))
      rw [show b - 1 + 1 + (n - 1 - (b - 1 + 1)) = n - 1 by omega, he] at h5
      exact h5
/-- both sides say the same of a yard -/
theorem whole_iff {n : Nat} {M : Nat → Nat → Int} (hy : yok n M) : jit n M (n - 1) = 2 ^ n - 1 ↔ isz n M 8 = 2 ^ n - 1 := (jit_cn (by have := hy.1; omega) hy.2.2.2.1).trans (isz_cn (by have := hy.1; omega) hy.2.1).symm
end Conn
