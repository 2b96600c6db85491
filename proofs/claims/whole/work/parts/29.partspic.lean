/-! The parts: a table counted round by the trees, cleared corner by corner -/
section PartsPic
def PartsAt (ty : Nat → ClassId) (ad : Nat → Nat) (ct : rm_C) (po k on : Nat) (tr : Int) (r : Nat → Int) (T : Nat → Nat → Int) : Prop :=
  ct po = some (.inr (3, [.ref (ad (po + 1)), .ref (ad (po + 10)), .int (jI ((k : Nat) : Int)), .int (jI ((on : Nat) : Int)), .long (jL tr)])) ∧
  ct (po + 1) = some (rq ty 6 8 (fun i => if i < 8 then some (ad (po + 1 + 1 + i)) else none)) ∧ ct (po + 10) = some (rl ty 8 r) ∧ ∀ i, i < 8 → ct (po + 1 + 1 + i) = some (rl ty 8 (T i))
def inr_ (k : Nat) (tr : Int) (T : Nat → Nat → Int) : Prop := ∀ i j, i < k → j < k → 0 ≤ T i j ∧ T i j < tr
/-- the table as it is filled -/
def pen (M : Nat → Nat → Int) (d : Nat → Int) (i j : Nat) : Int := if i = j then d (i + 1) else - M (i + 1) (j + 1)
def pfp (k : Nat) (M : Nat → Nat → Int) (d : Nat → Int) (tr : Int) (T : Nat → Nat → Int) (r c : Nat) : Nat → Nat → Int := fun i j => if i < k ∧ j < k ∧ (i < r ∨ (i = r ∧ j < c)) then pen M d i j % tr else T i j
theorem pfp_0 (k M d tr T) : T = pfp k M d tr T 0 0 := by
  funext i j; unfold pfp; rw [if_neg (by omega)]
theorem pfp_n {k : Nat} {M d tr T} {r : Nat} : pfp k M d tr T r k = pfp k M d tr T (r + 1) 0 := by
  funext i j; unfold pfp
  by_cases h : i < k ∧ j < k ∧ (i < r ∨ (i = r ∧ j < k))
  · rw [if_pos h, if_pos ⟨h.1, h.2.1, by omega⟩]
  · rw [if_neg h, if_neg (by omega)]
theorem pfp_s {k : Nat} {M d tr T} {r c : Nat} {v : Int} (hr : r < k) (hc : c < k) (hv : v = pen M d r c % tr) : ub (pfp k M d tr T r c) r (ub (pfp k M d tr T r c r) c v) = pfp k M d tr T r (c + 1) := by
  funext i j
  by_cases e : i = r
  · subst e; rw [ub_s]
    by_cases e2 : j = c
    · subst e2; rw [ub_s]; unfold pfp; rw [if_pos ⟨hr, hc, by omega⟩, hv]
    · rw [ub_n _ _ e2]; unfold pfp
      by_cases h : i < k ∧ j < k ∧ (i < i ∨ (i = i ∧ j < c))
      · rw [if_pos h, if_pos ⟨h.1, h.2.1, by omega⟩]
      · rw [if_neg h, if_neg (by omega)]
  · rw [ub_n _ _ e]; unfold pfp
    by_cases h : i < k ∧ j < k ∧ (i < r ∨ (i = r ∧ j < c))
    · rw [if_pos h, if_pos ⟨h.1, h.2.1, by omega⟩]
    · rw [if_neg h, if_neg (by omega)]
/-- a row lessened by another, below column x -/
def rwf (tr : Int) (c : Nat) (t : Int) (w : Nat) (T : Nat → Nat → Int) (x : Nat) : Nat → Nat → Int := fun i j => if i = w ∧ c ≤ j ∧ j < x then (T w j - t * T c j) % tr else T i j
theorem rwf_0 (tr : Int) (c t w T) : T = rwf tr c t w T c := by
  funext i j; unfold rwf; rw [if_neg (by omega)]
theorem rwf_s {tr : Int} {c w x : Nat} {t : Int} {T : Nat → Nat → Int} (hx : c ≤ x) : ub (rwf tr c t w T x) w (ub (rwf tr c t w T x w) x ((T w x - t * T c x) % tr)) = rwf tr c t w T (x + 1) := by
  funext i j
  by_cases e : i = w
  · subst e; rw [ub_s]
    by_cases e2 : j = x
    · subst e2; rw [ub_s]; unfold rwf; rw [if_pos ⟨rfl, hx, by omega⟩]
    · rw [ub_n _ _ e2]; unfold rwf
      by_cases h : i = i ∧ c ≤ j ∧ j < x
      · rw [if_pos h, if_pos ⟨rfl, h.2.1, by omega⟩]
      · rw [if_neg h, if_neg (by omega)]
  · rw [ub_n _ _ e]; unfold rwf; rw [if_neg (by omega), if_neg (by omega)]
theorem rwf_at {tr : Int} {c w x j : Nat} {t : Int} {T : Nat → Nat → Int} (h : x ≤ j) : rwf tr c t w T x w j = T w j := by unfold rwf; rw [if_neg (by omega)]
theorem rwf_o {tr : Int} {c w x i : Nat} {t : Int} {T : Nat → Nat → Int} (h : i ≠ w) : rwf tr c t w T x i = T i := by funext j; unfold rwf; rw [if_neg (by omega)]
theorem rwf_rng {k : Nat} {tr : Int} (h0 : 0 < tr) {c w x : Nat} {t : Int} {T : Nat → Nat → Int} (h : inr_ k tr T) : inr_ k tr (rwf tr c t w T x) := fun i j hi hj => by
  unfold rwf
  by_cases e : i = w ∧ c ≤ j ∧ j < x
  · rw [if_pos e]; exact ⟨Int.emod_nonneg _ (by omega), Int.emod_lt_of_pos _ h0⟩
  · rw [if_neg e]; exact h i j hi hj
def lrs (k : Nat) (tr : Int) (c : Nat) (least : Int) (T : Nat → Nat → Int) : Nat → Nat → Nat → Int
  | 0 => T
  | q + 1 => rwf tr c (Int.tdiv (lrs k tr c least T q (c + 1 + q) c) least) (c + 1 + q) (lrs k tr c least T q) k
theorem lrs_c {k : Nat} {tr : Int} {c : Nat} {least : Int} {T : Nat → Nat → Int} : ∀ q, lrs k tr c least T q c = T c
  | 0 => rfl
  | q + 1 => by
    show rwf tr c _ (c + 1 + q) (lrs k tr c least T q) k c = _
    rw [rwf_o (by omega)]; exact lrs_c q
theorem lrs_rng {k : Nat} {tr : Int} (h0 : 0 < tr) {c : Nat} {least : Int} {T : Nat → Nat → Int} (h : inr_ k tr T) : ∀ q, inr_ k tr (lrs k tr c least T q)
  | 0 => h
  | q + 1 => rwf_rng h0 (lrs_rng h0 h q)
/-- a column lessened by another, above row x -/
def cwf (tr : Int) (c : Nat) (t : Int) (w : Nat) (T : Nat → Nat → Int) (x : Nat) : Nat → Nat → Int := fun i j => if j = w ∧ c ≤ i ∧ i < x then (T i w - t * T i c) % tr else T i j
theorem cwf_0 (tr : Int) (c t w T) : T = cwf tr c t w T c := by
  funext i j; unfold cwf; rw [if_neg (by omega)]
theorem cwf_s {tr : Int} {c w x : Nat} {t : Int} {T : Nat → Nat → Int} (hx : c ≤ x) : ub (cwf tr c t w T x) x (ub (cwf tr c t w T x x) w ((T x w - t * T x c) % tr)) = cwf tr c t w T (x + 1) := by
  funext i j
  by_cases e : i = x
  · subst e; rw [ub_s]
    by_cases e2 : j = w
    · subst e2; rw [ub_s]; unfold cwf; rw [if_pos ⟨rfl, hx, by omega⟩]
    · rw [ub_n _ _ e2]; unfold cwf; rw [if_neg (by omega), if_neg (by omega)]
  · rw [ub_n _ _ e]; unfold cwf
    by_cases h : j = w ∧ c ≤ i ∧ i < x
    · rw [if_pos h, if_pos ⟨h.1, h.2.1, by omega⟩]
    · rw [if_neg h, if_neg (by omega)]
theorem cwf_at {tr : Int} {c w x i : Nat} {t : Int} {T : Nat → Nat → Int} (h : x ≤ i) : cwf tr c t w T x i = T i := by funext j; unfold cwf; rw [if_neg (by omega)]
theorem cwf_o {tr : Int} {c w x i j : Nat} {t : Int} {T : Nat → Nat → Int} (h : j ≠ w) : cwf tr c t w T x i j = T i j := by unfold cwf; rw [if_neg (by omega)]
theorem cwf_rng {k : Nat} {tr : Int} (h0 : 0 < tr) {c w x : Nat} {t : Int} {T : Nat → Nat → Int} (h : inr_ k tr T) : inr_ k tr (cwf tr c t w T x) := fun i j hi hj => by
  unfold cwf
  by_cases e : j = w ∧ c ≤ i ∧ i < x
  · rw [if_pos e]; exact ⟨Int.emod_nonneg _ (by omega), Int.emod_lt_of_pos _ h0⟩
  · rw [if_neg e]; exact h i j hi hj
def lcs (k : Nat) (tr : Int) (c : Nat) (least : Int) (T : Nat → Nat → Int) : Nat → Nat → Nat → Int
  | 0 => T
  | q + 1 => cwf tr c (Int.tdiv (lcs k tr c least T q c (c + 1 + q)) least) (c + 1 + q) (lcs k tr c least T q) k
theorem lcs_rng {k : Nat} {tr : Int} (h0 : 0 < tr) {c : Nat} {least : Int} {T : Nat → Nat → Int} (h : inr_ k tr T) : ∀ q, inr_ k tr (lcs k tr c least T q)
  | 0 => h
  | q + 1 => cwf_rng h0 (lcs_rng h0 h q)
/-- where the least number of the cross lies -/
def lsn (a b : Int) : Bool := decide (a ≠ 0 ∧ (b = 0 ∨ a < b))
def bl1 (c : Nat) (T : Nat → Nat → Int) (i : Nat) (u : Nat × Nat) : Nat × Nat := if lsn (T i c) (T u.1 u.2) = true then (i, c) else u
def bl2 (c : Nat) (T : Nat → Nat → Int) (i : Nat) (u : Nat × Nat) : Nat × Nat := if lsn (T c i) (T u.1 u.2) = true then (c, i) else u
def bls (c : Nat) (T : Nat → Nat → Int) : Nat → Nat × Nat
  | 0 => (c, c)
  | q + 1 => bl2 c T (c + 1 + q) (bl1 c T (c + 1 + q) (bls c T q))
theorem bl1_lt {c k i : Nat} {T : Nat → Nat → Int} {u : Nat × Nat} (hc : c < k) (hi : i < k) (h : u.1 < k ∧ u.2 < k) : (bl1 c T i u).1 < k ∧ (bl1 c T i u).2 < k := by
  unfold bl1; split
  · exact ⟨hi, hc⟩
  · exact h
theorem bl2_lt {c k i : Nat} {T : Nat → Nat → Int} {u : Nat × Nat} (hc : c < k) (hi : i < k) (h : u.1 < k ∧ u.2 < k) : (bl2 c T i u).1 < k ∧ (bl2 c T i u).2 < k := by
  unfold bl2; split
  · exact ⟨hc, hi⟩
  · exact h
theorem bls_lt {c k : Nat} {T : Nat → Nat → Int} (hc : c < k) : ∀ q, c + q < k → (bls c T q).1 < k ∧ (bls c T q).2 < k
  | 0, _ => ⟨hc, hc⟩
  | q + 1, h => bl2_lt hc (by omega) (bl1_lt hc (by omega) (bls_lt hc q (by omega)))
/-- two rows changed about, in the columns from c below x; two columns likewise -/
def swr (c w : Nat) (T : Nat → Nat → Int) (x : Nat) : Nat → Nat → Int := fun i j => if c ≤ j ∧ j < x then (if i = w then T c j else if i = c then T w j else T i j) else T i j
def swc (c w : Nat) (T : Nat → Nat → Int) (x : Nat) : Nat → Nat → Int := fun i j => if c ≤ i ∧ i < x then (if j = w then T i c else if j = c then T i w else T i j) else T i j
theorem swr_0 (c w T) : T = swr c w T c := by funext i j; unfold swr; rw [if_neg (by omega)]
theorem swc_0 (c w T) : T = swc c w T c := by funext i j; unfold swc; rw [if_neg (by omega)]
theorem swr_at {c w x j : Nat} {T : Nat → Nat → Int} (h : x ≤ j) (i : Nat) : swr c w T x i j = T i j := by unfold swr; rw [if_neg (by omega)]
theorem swc_at {c w x i : Nat} {T : Nat → Nat → Int} (h : x ≤ i) : swc c w T x i = T i := by funext j; unfold swc; rw [if_neg (by omega)]
theorem swr_s {c w x : Nat} {T : Nat → Nat → Int} (hx : c ≤ x) : ub (ub (swr c w T x) c (ub (swr c w T x c) x (T w x))) w (ub (ub (swr c w T x) c (ub (swr c w T x c) x (T w x)) w) x (T c x)) = swr c w T (x + 1) := by
  have hs : ∀ i j, j ≠ x → swr c w T (x + 1) i j = swr c w T x i j := fun i j hj => by
    unfold swr
    by_cases h : c ≤ j ∧ j < x
    · rw [if_pos h, if_pos ⟨h.1, by omega⟩]
    · rw [if_neg h, if_neg (by omega)]
  have hq : ∀ i, swr c w T (x + 1) i x = if i = w then T c x else if i = c then T w x else T i x := fun i => by unfold swr; rw [if_pos ⟨hx, by omega⟩]
  funext i j
  by_cases e2 : j = x
  · subst e2; rw [hq i]
    by_cases e : i = w
    · subst e; rw [ub_s, ub_s, if_pos rfl]
    · rw [ub_n _ _ e, if_neg e]
      by_cases e3 : i = c
      · subst e3; rw [ub_s, ub_s, if_pos rfl]
      · rw [ub_n _ _ e3, if_neg e3]; exact swr_at (Nat.le_refl _) i
  · rw [hs i j e2]
    by_cases e : i = w
    · subst e; rw [ub_s, ub_n _ _ e2]
      by_cases e3 : i = c
      · subst e3; rw [ub_s, ub_n _ _ e2]
      · rw [ub_n _ _ e3]
    · rw [ub_n _ _ e]
      by_cases e3 : i = c
      · subst e3; rw [ub_s, ub_n _ _ e2]
      · rw [ub_n _ _ e3]
theorem swc_s {c w x : Nat} {T : Nat → Nat → Int} (hx : c ≤ x) : ub (ub (swc c w T x) x (ub (swc c w T x x) c (T x w))) x (ub (ub (swc c w T x) x (ub (swc c w T x x) c (T x w)) x) w (T x c)) = swc c w T (x + 1) := by
  funext i j
  by_cases e : i = x
  · subst e; rw [ub_s, ub_s]
    unfold swc
    rw [if_pos ⟨hx, by omega⟩]
    by_cases e2 : j = w
    · subst e2; rw [ub_s, if_pos rfl]
    · rw [ub_n _ _ e2, if_neg e2]
      by_cases e3 : j = c
      · subst e3; rw [ub_s, if_pos rfl]
      · rw [ub_n _ _ e3, if_neg e3, if_neg (by omega)]
  · rw [ub_n _ _ e, ub_n _ _ e]; unfold swc
    by_cases h : c ≤ i ∧ i < x
    · rw [if_pos h, if_pos (show c ≤ i ∧ i < x + 1 from ⟨h.1, by omega⟩)]
    · rw [if_neg h, if_neg (by omega)]
theorem swr_rng {k : Nat} {tr : Int} {c w x : Nat} {T : Nat → Nat → Int} (hc : c < k) (hw : w < k) (h : inr_ k tr T) : inr_ k tr (swr c w T x) := fun i j hi hj => by
  unfold swr
  split
  · split
    · exact h _ _ hc hj
    · split
      · exact h _ _ hw hj
      · exact h _ _ hi hj
  · exact h _ _ hi hj
theorem swc_rng {k : Nat} {tr : Int} {c w x : Nat} {T : Nat → Nat → Int} (hc : c < k) (hw : w < k) (h : inr_ k tr T) : inr_ k tr (swc c w T x) := fun i j hi hj => by
  unfold swc
  split
  · split
    · exact h _ _ hi hc
    · split
      · exact h _ _ hi hw
      · exact h _ _ hi hj
  · exact h _ _ hi hj
def brg (k c : Nat) (T : Nat → Nat → Int) : Nat → Nat → Int := swc c (bls c T (k - 1 - c)).2 (swr c (bls c T (k - 1 - c)).1 T k) k
theorem brg_rng {k c : Nat} {tr : Int} {T : Nat → Nat → Int} (hc : c < k) (h : inr_ k tr T) : inr_ k tr (brg k c T) :=
  swc_rng hc (bls_lt hc _ (by omega)).2 (swr_rng hc (bls_lt hc _ (by omega)).1 h)
/-- is the cross clear? -/
def ccl (k c : Nat) (T : Nat → Nat → Int) : Bool := (List.range k).all fun i => decide (i ≤ c ∨ (T i c = 0 ∧ T c i = 0))
theorem ccl_iff {k c : Nat} {T : Nat → Nat → Int} : ccl k c T = true ↔ ∀ i, c < i → i < k → T i c = 0 ∧ T c i = 0 := by
  unfold ccl; rw [List.all_eq_true]
  constructor
  · intro h i h1 h2
    have h3 := of_decide_eq_true (h i (List.mem_range.mpr h2))
    rcases h3 with h3 | h3
    · omega
    · exact h3
  · intro h i hi
    refine decide_eq_true ?_
    by_cases e : i ≤ c
    · exact Or.inl e
    · exact Or.inr (h i (by omega) (List.mem_range.mp hi))
def cc1 (k : Nat) (tr : Int) (c : Nat) (T : Nat → Nat → Int) : Nat → Nat → Int :=
  if 0 < brg k c T c c then lcs k tr c (brg k c T c c) (lrs k tr c (brg k c T c c) (brg k c T) (k - 1 - c)) (k - 1 - c) else brg k c T
def ccs (k : Nat) (tr : Int) (c : Nat) (T : Nat → Nat → Int) : Nat → Nat → Nat → Int
  | 0 => T
  | q + 1 => if ccl k c (ccs k tr c T q) = true then ccs k tr c T q else cc1 k tr c (ccs k tr c T q)
theorem ccs_stop {k : Nat} {tr : Int} {c : Nat} {T : Nat → Nat → Int} {q : Nat} (h : ccl k c (ccs k tr c T q) = true) : ∀ e, ccs k tr c T (q + e) = ccs k tr c T q
  | 0 => rfl
  | e + 1 => by
    show (if ccl k c (ccs k tr c T (q + e)) = true then ccs k tr c T (q + e) else cc1 k tr c (ccs k tr c T (q + e))) = _
    rw [ccs_stop h e, if_pos h]
theorem cc1_rng {k : Nat} {tr : Int} (h0 : 0 < tr) {c : Nat} {T : Nat → Nat → Int} (hc : c < k) (h : inr_ k tr T) : inr_ k tr (cc1 k tr c T) := by
  unfold cc1; split
  · exact lcs_rng h0 (lrs_rng h0 (brg_rng hc h) _) _
  · exact brg_rng hc h
theorem ccs_rng {k : Nat} {tr : Int} (h0 : 0 < tr) {c : Nat} {T : Nat → Nat → Int} (hc : c < k) (h : inr_ k tr T) : ∀ q, inr_ k tr (ccs k tr c T q)
  | 0 => h
  | q + 1 => by
    show inr_ k tr (if ccl k c (ccs k tr c T q) = true then ccs k tr c T q else cc1 k tr c (ccs k tr c T q))
    split
    · exact ccs_rng h0 hc h q
    · exact cc1_rng h0 hc (ccs_rng h0 hc h q)
/-- corner by corner -/
def spl (k : Nat) (tr : Int) (T : Nat → Nat → Int) : Nat → Nat → Nat → Int
  | 0 => T
  | c + 1 => ccs k tr c (spl k tr T c) 1000
theorem spl_rng {k : Nat} {tr : Int} (h0 : 0 < tr) {T : Nat → Nat → Int} (h : inr_ k tr T) : ∀ c, c ≤ k → inr_ k tr (spl k tr T c)
  | 0, _ => h
  | c + 1, hc => ccs_rng h0 (by omega) (spl_rng h0 h c (by omega)) 1000
/-- the rounds made into a chain -/
def mc1 (r : Nat → Int) (i j : Nat) : Nat → Int := ub (ub r j (Int.tdiv (r i) ((Nat.gcd (r i).natAbs (r j).natAbs : Nat) : Int) * r j)) i ((Nat.gcd (r i).natAbs (r j).natAbs : Nat) : Int)
def mcj (r : Nat → Int) (i : Nat) : Nat → Nat → Int
  | 0 => r
  | q + 1 => mc1 (mcj r i q) i (i + 1 + q)
def mci (k : Nat) (r : Nat → Int) : Nat → Nat → Int
  | 0 => r
  | i + 1 => mcj (mci k r i) i (k - 1 - i)
def rdv (k : Nat) (tr : Int) (r : Nat → Int) : Prop := ∀ i, i < k → 1 ≤ r i ∧ r i ∣ tr
theorem rdv_le {k : Nat} {tr : Int} (h0 : 0 < tr) {r : Nat → Int} (h : rdv k tr r) {i : Nat} (hi : i < k) : 1 ≤ r i ∧ r i ≤ tr := ⟨(h i hi).1, Int.le_of_dvd h0 (h i hi).2⟩
theorem lcm_dvd_int {a b t : Int} (ha : 1 ≤ a) (hb : 1 ≤ b) (h1 : a ∣ t) (h2 : b ∣ t) :
    1 ≤ ((Nat.gcd a.natAbs b.natAbs : Nat) : Int) ∧ ((Nat.gcd a.natAbs b.natAbs : Nat) : Int) ∣ t ∧ 1 ≤ Int.tdiv a ((Nat.gcd a.natAbs b.natAbs : Nat) : Int) * b ∧ Int.tdiv a ((Nat.gcd a.natAbs b.natAbs : Nat) : Int) * b ∣ t := by
  obtain ⟨x, rfl⟩ : ∃ x : Nat, a = x := ⟨a.natAbs, by omega⟩
  obtain ⟨y, rfl⟩ : ∃ y : Nat, b = y := ⟨b.natAbs, by omega⟩
  simp only [Int.natAbs_natCast]
  have hx : 0 < x := by omega
  have hy : 0 < y := by omega
  have hg : 0 < Nat.gcd x y := Nat.gcd_pos_of_pos_left _ hx
  have hgx : Nat.gcd x y ∣ x := Nat.gcd_dvd_left x y
  have e1 : Int.tdiv (x : Int) ((Nat.gcd x y : Nat) : Int) * (y : Int) = ((x / Nat.gcd x y * y : Nat) : Int) := by
    rw [Int.tdiv_eq_ediv_of_nonneg (by omega)]; push_cast; rfl
  have h1' : x ∣ t.natAbs := Int.natAbs_dvd_natAbs.mpr h1
  have h2' : y ∣ t.natAbs := Int.natAbs_dvd_natAbs.mpr h2
  have e2 : x / Nat.gcd x y * y = Nat.lcm x y := by
    unfold Nat.lcm
    rw [Nat.mul_comm, ← Nat.mul_div_assoc _ hgx, Nat.mul_comm y x]
  have h3 : Nat.lcm x y ∣ t.natAbs := Nat.lcm_dvd h1' h2'
  have h4 : 0 < Nat.lcm x y := Nat.lcm_pos hx hy
  rw [e1, e2]
  exact ⟨by omega, Int.dvd_trans (Int.ofNat_dvd.mpr hgx) h1, by omega, Int.natAbs_dvd_natAbs.mp (by rw [Int.natAbs_natCast]; exact h3)⟩
theorem mc1_dv {k : Nat} {tr : Int} {r : Nat → Int} (h : rdv k tr r) {i j : Nat} (hi : i < k) (hj : j < k) : rdv k tr (mc1 r i j) := fun q hq => by
  have hh := lcm_dvd_int (h i hi).1 (h j hj).1 (h i hi).2 (h j hj).2
  unfold mc1
  by_cases e : q = i
  · subst e; rw [ub_s]; exact ⟨hh.1, hh.2.1⟩
  · rw [ub_n _ _ e]
    by_cases e2 : q = j
    · subst e2; rw [ub_s]; exact ⟨hh.2.2.1, hh.2.2.2⟩
    · rw [ub_n _ _ e2]; exact h q hq
theorem mcj_dv {k : Nat} {tr : Int} {r : Nat → Int} (h : rdv k tr r) {i : Nat} (hi : i < k) : ∀ q, i + q < k → rdv k tr (mcj r i q)
  | 0, _ => h
  | q + 1, hq => mc1_dv (mcj_dv h hi q (by omega)) hi (by omega)
theorem mci_dv {k : Nat} {tr : Int} {r : Nat → Int} (h : rdv k tr r) : ∀ i, i ≤ k → rdv k tr (mci k r i)
  | 0, _ => h
  | i + 1, hi => mcj_dv (mci_dv h i (by omega)) (by omega) _ (by omega)
/-- how many are 1 -/
def ons (r : Nat → Int) : Nat → Nat
  | 0 => 0
  | i + 1 => ons r i + if r i = 1 then 1 else 0
theorem ons_le (r : Nat → Int) : ∀ k, ons r k ≤ k
  | 0 => Nat.le_refl _
  | k + 1 => by have := ons_le r k; show ons r k + (if r k = 1 then 1 else 0) ≤ _; split <;> omega
def rdd (k : Nat) (tr : Int) (T : Nat → Nat → Int) (r : Nat → Int) (c : Nat) : Nat → Int := fun q => if q < c then ((Nat.gcd (spl k tr T (q + 1) q q).natAbs tr.natAbs : Nat) : Int) else r q
theorem rdd_0 (k tr T r) : r = rdd k tr T r 0 := by funext q; unfold rdd; rw [if_neg (by omega)]
theorem rdd_s {k : Nat} {tr : Int} {T r} {c : Nat} : ub (rdd k tr T r c) c ((Nat.gcd (spl k tr T (c + 1) c c).natAbs tr.natAbs : Nat) : Int) = rdd k tr T r (c + 1) := by
  funext q
  by_cases e : q = c
  · subst e; rw [ub_s]; unfold rdd; rw [if_pos (by omega)]
  · rw [ub_n _ _ e]; unfold rdd
    by_cases h : q < c
    · rw [if_pos h, if_pos (by omega)]
    · rw [if_neg h, if_neg (by omega)]
theorem rdd_dv {k : Nat} {tr : Int} (h0 : 0 < tr) {T r} : rdv k tr (rdd k tr T r k) := fun q hq => by
  unfold rdd; rw [if_pos hq]
  obtain ⟨x, rfl⟩ : ∃ x : Nat, tr = x := ⟨tr.natAbs, by omega⟩
  have h1 : 0 < Nat.gcd (spl k (x : Int) T (q + 1) q q).natAbs x := Nat.gcd_pos_of_pos_right _ (by omega)
  rw [Int.natAbs_natCast]
  exact ⟨by omega, Int.ofNat_dvd.mpr (Nat.gcd_dvd_right _ _)⟩
end PartsPic
