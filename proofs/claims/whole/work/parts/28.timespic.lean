/-! pictures of counting kinds and of orders -/
section TimesPic
/-- what all numbers of column 0, down to row k, have in common with a -/
def cmg (T : Nat → Nat → Int) (a : Nat) : Nat → Nat
  | 0 => a
  | k + 1 => Nat.gcd (cmg T a k) (T (k + 1) 0).natAbs
theorem cmg_le {T : Nat → Nat → Int} {a : Nat} (ha : 0 < a) : ∀ k, 0 < cmg T a k ∧ cmg T a k ≤ a
  | 0 => ⟨ha, Nat.le_refl _⟩
  | k + 1 => by
    have h := cmg_le (T := T) ha k
    exact ⟨Nat.gcd_pos_of_pos_left _ h.1, Nat.le_trans (Nat.le_of_dvd h.1 (Nat.gcd_dvd_left _ _)) h.2⟩
/-- a yard whose table is solved within 64 bits: what the whole ones do -/
def ysv (n : Nat) (M : Nat → Nat → Int) (d : Nat → Int) : Prop := ∀ (S : Nat → Int) (T : Nat → Nat → Int), (∀ q, 1 ≤ q → q < n → -20 ≤ S q ∧ S q ≤ 20) → slr n (tfp n M d S T n 0) ∧ 0 < (slv n (tfp n M d S T n 0) (n - 1)).2 ∧ (slv n (tfp n M d S T n 0) (n - 1)).2 < 281474976710656 ∧ ∀ r, 1 ≤ r → r < n → ((slv n (tfp n M d S T n 0) (n - 1)).1 r 0).natAbs < 281474976710656
noncomputable def sti (n : Nat) (M : Nat → Nat → Int) (g : Nat → Int) : Nat → Int := af n M g (stv n M g)
theorem sti_rng {n : Nat} {M : Nat → Nat → Int} {g : Nat → Int} (h : yst n M) (hg : ∀ q, 1 ≤ q → q < n → 0 ≤ g q) (hB : psum n g ≤ 1000000000) {q : Nat} (h1 : 1 ≤ q) (h2 : q < n) : 0 ≤ sti n M g q ∧ sti n M g q ≤ 20 := by
  obtain ⟨v, hv⟩ := yst_first h hg hB
  have a := stl_nn h hg hB (stv_ok hv) h1 h2
  have b := dg_le h.1 h2
  unfold sti
  omega
end TimesPic
