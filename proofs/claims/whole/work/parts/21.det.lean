/-! determinants of the first n rows and columns, from nothing -/
section MathDet
def sg (k : Nat) : Int := if k % 2 = 0 then 1 else -1
theorem sg_s (k : Nat) : sg (k + 1) = - sg k := by unfold sg; split <;> split <;> omega
theorem sg_0 : sg 0 = 1 := rfl
theorem sg_sq (k : Nat) : sg k * sg k = 1 := by unfold sg; split <;> rfl
theorem sg_add (a b : Nat) : sg (a + b) = sg a * sg b := by
  induction b with
  | zero => rw [Nat.add_zero, sg_0, Int.mul_one]
  | succ b ih => rw [← Nat.add_assoc, sg_s, sg_s, ih, Int.mul_neg]
theorem sg_even (k : Nat) : sg (k + k) = 1 := by rw [sg_add, sg_sq]
theorem sg_eq {a b : Nat} (h : a % 2 = b % 2) : sg a = sg b := by unfold sg; rw [h]
theorem sg_one (k : Nat) : sg k = 1 ∨ sg k = -1 := by unfold sg; split <;> simp
/-- the columns but j -/
def sk (j c : Nat) : Nat := if c < j then c else c + 1
theorem sk_lt {j c : Nat} (h : c < j) : sk j c = c := if_pos h
theorem sk_ge {j c : Nat} (h : j ≤ c) : sk j c = c + 1 := if_neg (by omega)
theorem sk_ne (j c : Nat) : sk j c ≠ j := by unfold sk; split <;> omega
theorem sk_le {j c n : Nat} (h : c < n) : sk j c < n + 1 := by unfold sk; split <;> omega
theorem sk_inj {j a b : Nat} (h : sk j a = sk j b) : a = b := by unfold sk at h; split at h <;> split at h <;> omega
def dt : Nat → (Nat → Nat → Int) → Int
  | 0, _ => 1
  | n + 1, A => gs (fun j => sg (n + j) * A n j * dt n (fun r c => A r (sk j c))) (n + 1)
theorem dt_0 (A : Nat → Nat → Int) : dt 0 A = 1 := rfl
theorem dt_s (n : Nat) (A : Nat → Nat → Int) : dt (n + 1) A = gs (fun j => sg (n + j) * A n j * dt n (fun r c => A r (sk j c))) (n + 1) := rfl
theorem dt_cong : ∀ {n : Nat} {A B : Nat → Nat → Int}, (∀ r c, r < n → c < n → A r c = B r c) → dt n A = dt n B
  | 0, _, _, _ => rfl
  | n + 1, A, B, h => by
    rw [dt_s, dt_s]
    refine gs_cong (fun j hj => ?_)
    rw [h n j (by omega) hj, dt_cong (fun r c hr hc => h r (sk j c) (by omega) (sk_le hc))]
/-- A, but v in column k -/
def cu (A : Nat → Nat → Int) (k : Nat) (v : Nat → Int) : Nat → Nat → Int := fun r c => if c = k then v r else A r c
theorem cu_s (A : Nat → Nat → Int) (k : Nat) (v : Nat → Int) (r : Nat) : cu A k v r k = v r := if_pos rfl
theorem cu_n (A : Nat → Nat → Int) {k c : Nat} (v : Nat → Int) (r : Nat) (h : c ≠ k) : cu A k v r c = A r c := if_neg h
theorem cu_self (A : Nat → Nat → Int) (k : Nat) : cu A k (fun r => A r k) = A := by
  funext r c
  by_cases e : c = k
  · subst e; exact cu_s _ _ _ _
  · exact cu_n _ _ _ e
theorem cu_cu (A : Nat → Nat → Int) (k : Nat) (v w : Nat → Int) : cu (cu A k v) k w = cu A k w := by
  funext r c
  by_cases e : c = k
  · subst e; rw [cu_s, cu_s]
  · rw [cu_n _ _ _ e, cu_n _ _ _ e, cu_n _ _ _ e]
theorem cu_comm (A : Nat → Nat → Int) {k l : Nat} (h : k ≠ l) (v w : Nat → Int) : cu (cu A k v) l w = cu (cu A l w) k v := by
  funext r c
  unfold cu
  by_cases e : c = k
  · subst e; rw [if_neg h, if_pos rfl, if_pos rfl]
  · rw [if_neg e, if_neg e]
/-- the minor without column j, of A with v in column k -/
theorem cu_sk_lt (A : Nat → Nat → Int) {j k : Nat} (v : Nat → Int) (h : k < j) : (fun r c => cu A k v r (sk j c)) = cu (fun r c => A r (sk j c)) k v := by
  funext r c
  unfold cu
  by_cases e : c = k
  · subst e; rw [if_pos (sk_lt h), if_pos rfl]
  · rw [if_neg (by unfold sk; split <;> omega), if_neg e]
theorem cu_sk_gt (A : Nat → Nat → Int) {j k : Nat} (v : Nat → Int) (h : j < k) : (fun r c => cu A k v r (sk j c)) = cu (fun r c => A r (sk j c)) (k - 1) v := by
  funext r c
  unfold cu
  by_cases e : c = k - 1
  · subst e; rw [if_pos (by unfold sk; split <;> omega), if_pos rfl]
  · rw [if_neg (by unfold sk; split <;> omega), if_neg e]
theorem cu_sk_eq (A : Nat → Nat → Int) (j : Nat) (v : Nat → Int) : (fun r c => cu A j v r (sk j c)) = (fun r c => A r (sk j c)) := by
  funext r c
  exact cu_n _ _ _ (sk_ne _ _)
theorem dt_lin : ∀ {n : Nat} (A : Nat → Nat → Int) {k : Nat} (x y : Int) (v w : Nat → Int), k < n → dt n (cu A k (fun r => x * v r + y * w r)) = x * dt n (cu A k v) + y * dt n (cu A k w)
  | 0, _, _, _, _, _, _, h => absurd h (Nat.not_lt_zero _)
  | n + 1, A, k, x, y, v, w, h => by
    rw [dt_s, dt_s, dt_s, ← gs_mul, ← gs_mul, ← gs_add]
    refine gs_cong (fun j hj => ?_)
    rcases Nat.lt_trichotomy j k with q | q | q
    · rw [cu_sk_gt A _ q, cu_sk_gt A _ q, cu_sk_gt A _ q, dt_lin _ x y v w (by omega), cu_n _ _ _ (by omega), cu_n _ _ _ (by omega), cu_n _ _ _ (by omega)]
      grind
    · subst q
      rw [cu_sk_eq, cu_sk_eq, cu_sk_eq, cu_s, cu_s, cu_s]
      grind
    · rw [cu_sk_lt A _ q, cu_sk_lt A _ q, cu_sk_lt A _ q, dt_lin _ x y v w (by omega), cu_n _ _ _ (by omega), cu_n _ _ _ (by omega), cu_n _ _ _ (by omega)]
      grind
theorem dt_smul {n : Nat} (A : Nat → Nat → Int) {k : Nat} (x : Int) (v : Nat → Int) (h : k < n) : dt n (cu A k (fun r => x * v r)) = x * dt n (cu A k v) := by
  have h1 := dt_lin A x 0 v v h
  rw [show (fun r => x * v r + 0 * v r) = (fun r => x * v r) from funext (fun r => by omega)] at h1
  rw [h1]; omega
theorem dt_plus {n : Nat} (A : Nat → Nat → Int) {k : Nat} (v w : Nat → Int) (h : k < n) : dt n (cu A k (fun r => v r + w r)) = dt n (cu A k v) + dt n (cu A k w) := by
  have h1 := dt_lin A 1 1 v w h
  rw [show (fun r => 1 * v r + 1 * w r) = (fun r => v r + w r) from funext (fun r => by omega)] at h1
  rw [h1]; omega
theorem dt_zcol {n : Nat} (A : Nat → Nat → Int) {k : Nat} (h : k < n) : dt n (cu A k (fun _ => 0)) = 0 := by
  have h1 := dt_smul A 0 (fun _ => 0) h
  rw [show (fun r : Nat => (0 : Int) * (fun _ => (0 : Int)) r) = (fun _ => 0) from funext (fun r => by simp)] at h1
  rw [h1]; omega
theorem dt_sum {n : Nat} (A : Nat → Nat → Int) {k : Nat} (x : Nat → Int) (v : Nat → Nat → Int) (h : k < n) : ∀ m, dt n (cu A k (fun r => gs (fun l => x l * v l r) m)) = gs (fun l => x l * dt n (cu A k (v l))) m
  | 0 => dt_zcol A h
  | m + 1 => by
    rw [gs_s, ← dt_sum A x v h m, ← dt_smul A (x m) (v m) h, ← dt_plus A _ _ h]
    rfl
theorem gs_two {F : Nat → Int} {c : Nat} : ∀ {n : Nat}, c + 1 < n → (∀ j, j < n → j ≠ c → j ≠ c + 1 → F j = 0) → gs F n = F c + F (c + 1)
  | 0, h, _ => absurd h (Nat.not_lt_zero _)
  | n + 1, h, h0 => by
    rw [gs_s]
    rcases Nat.lt_or_ge (c + 1) n with q | q
    · rw [gs_two q (fun j hj => h0 j (by omega)), h0 n (by omega) (by omega) (by omega)]; omega
    · have e : c + 1 = n := by omega
      subst e
      rw [gs_s, gs_zero (fun j hj => h0 j (by omega) (by omega) (by omega))]; omega
theorem dt_adj0 : ∀ {n : Nat} {A : Nat → Nat → Int} {c : Nat}, c + 1 < n → (∀ r, r < n → A r c = A r (c + 1)) → dt n A = 0
  | 0, _, _, h, _ => absurd h (Nat.not_lt_zero _)
  | n + 1, A, c, h, he => by
    rw [dt_s, gs_two h (fun j hj h1 h2 => ?_)]
    · have e : dt n (fun r k => A r (sk (c + 1) k)) = dt n (fun r k => A r (sk c k)) := dt_cong (fun r k hr hk => by
        rcases Nat.lt_trichotomy k c with q | q | q
        · rw [sk_lt (by omega), sk_lt q]
        · subst q
          rw [sk_lt (by omega), sk_ge (by omega)]
          exact he r (by omega)
        · rw [sk_ge (by omega), sk_ge (by omega)])
      rw [e, he n (by omega), ← Nat.add_assoc, sg_s]
      grind
    · rcases Nat.lt_or_ge j c with q | q
      · rw [dt_adj0 (c := c - 1) (by omega) (fun r hr => by
          rw [sk_ge (by omega), sk_ge (by omega), show c - 1 + 1 = c by omega]
          exact he r (by omega))]
        omega
      · rw [dt_adj0 (c := c) (by omega) (fun r hr => by
          rw [sk_lt (by omega), sk_lt (by omega)]
          exact he r (by omega))]
        omega
/-- columns k and k + 1 change places -/
def cx (k c : Nat) : Nat := if c = k then k + 1 else if c = k + 1 then k else c
theorem cx_l (k : Nat) : cx k k = k + 1 := if_pos rfl
theorem cx_r (k : Nat) : cx k (k + 1) = k := by unfold cx; rw [if_neg (by omega), if_pos rfl]
theorem cx_n {k c : Nat} (h1 : c ≠ k) (h2 : c ≠ k + 1) : cx k c = c := by unfold cx; rw [if_neg h1, if_neg h2]
theorem dt_swap {n : Nat} (A : Nat → Nat → Int) {k : Nat} (h : k + 1 < n) : dt n (fun r c => A r (cx k c)) = - dt n A := by
  have key : ∀ v w : Nat → Int, dt n (cu (cu A k v) (k + 1) w) + dt n (cu (cu A k w) (k + 1) v) = 0 := fun v w => by
    have z : ∀ x : Nat → Int, dt n (cu (cu A k x) (k + 1) x) = 0 := fun x => dt_adj0 h (fun r _ => by rw [cu_n _ _ _ (by omega), cu_s, cu_s])
    have hk : k ≠ k + 1 := by omega
    have e : ∀ x : Nat → Int, dt n (cu (cu A k (fun r => v r + w r)) (k + 1) x) = dt n (cu (cu A k v) (k + 1) x) + dt n (cu (cu A k w) (k + 1) x) := fun x => by
      rw [cu_comm _ hk, dt_plus _ _ _ (by omega), ← cu_comm _ hk, ← cu_comm _ hk]
    have h0 := z (fun r => v r + w r)
    rw [dt_plus _ _ _ h, e, e, z v, z w] at h0
    omega
  have h1 := key (fun r => A r k) (fun r => A r (k + 1))
  rw [cu_self, cu_self] at h1
  rw [← show cu (cu A k (fun r => A r (k + 1))) (k + 1) (fun r => A r k) = (fun r c => A r (cx k c)) from funext (fun r => funext (fun c => by
    unfold cu cx
    by_cases e1 : c = k + 1
    · subst e1; rw [if_pos rfl, if_neg (by omega), if_pos rfl]
    · rw [if_neg e1]
      by_cases e2 : c = k
      · rw [if_pos e2, if_pos e2]
      · rw [if_neg e2, if_neg e2, if_neg e1]))]
  omega
theorem dt_eq0 {n : Nat} : ∀ (d : Nat) {A : Nat → Nat → Int} {i j : Nat}, j = i + d + 1 → j < n → (∀ r, r < n → A r i = A r j) → dt n A = 0
  | 0, A, i, j, hj, hn, he => dt_adj0 (c := i) (by omega) (fun r hr => by rw [he r hr, hj])
  | d + 1, A, i, j, hj, hn, he => by
    have h1 := dt_swap A (k := j - 1) (n := n) (by omega)
    have h2 := dt_eq0 (n := n) d (A := fun r c => A r (cx (j - 1) c)) (i := i) (j := j - 1) (by omega) (by omega) (fun r hr => by
      rw [cx_l, cx_n (by omega) (by omega), show j - 1 + 1 = j by omega]
      exact he r hr)
    omega
theorem dt_same {n : Nat} {A : Nat → Nat → Int} {i j : Nat} (hij : i ≠ j) (hi : i < n) (hj : j < n) (he : ∀ r, r < n → A r i = A r j) : dt n A = 0 := by
  rcases Nat.lt_or_ge i j with q | q
  · exact dt_eq0 (j - i - 1) (by omega) hj he
  · exact dt_eq0 (i - j - 1) (by omega) hi (fun r hr => (he r hr).symm)
/-- column i goes behind all, the others keep their order -/
def cm (n i c : Nat) : Nat := if c < i then c else if c + 1 < n then c + 1 else i
theorem dt_move {n : Nat} : ∀ (d : Nat) (A : Nat → Nat → Int) {i : Nat}, n = i + d + 1 → dt n (fun r c => A r (cm n i c)) = sg d * dt n A
  | 0, A, i, hn => by
    rw [sg_0, Int.one_mul]
    exact dt_cong (fun r c hr hc => by
      unfold cm
      by_cases e : c < i
      · rw [if_pos e]
      · rw [if_neg e, if_neg (by omega), show i = c by omega])
  | d + 1, A, i, hn => by
    have h1 := dt_move (n := n) d (fun r c => A r (cx i c)) (i := i + 1) (by omega)
    have h2 := dt_swap A (k := i) (n := n) (by omega)
    rw [h2] at h1
    rw [sg_s, ← show dt n (fun r c => A r (cx i (cm n (i + 1) c))) = dt n (fun r c => A r (cm n i c)) from dt_cong (fun r c hr hc => by
      congr 1
      unfold cm
      by_cases e : c < i
      · rw [if_pos (by omega), if_pos e, cx_n (by omega) (by omega)]
      · rw [if_neg e]
        by_cases e2 : c = i
        · subst e2
          rw [if_pos (by omega), if_pos (by omega), cx_l]
        · rw [if_neg (by omega)]
          by_cases e3 : c + 1 < n
          · rw [if_pos e3, cx_n (by omega) (by omega), if_pos e3]
          · rw [if_neg e3, cx_r, if_neg e3]), h1]
    grind
theorem dt_col : ∀ (n : Nat) (A : Nat → Nat → Int), dt (n + 1) A = gs (fun i => sg (n + i) * A i n * dt n (fun r c => A (sk i r) c)) (n + 1)
  | 0, A => by
    rw [dt_s, gs_s, gs_s, gs_z]
    rfl
  | m + 1, A => by
    rw [dt_s, gs_s, gs_s (fun i => sg (m + 1 + i) * A i (m + 1) * dt (m + 1) (fun r c => A (sk i r) c))]
    have e1 : dt (m + 1) (fun r c => A r (sk (m + 1) c)) = dt (m + 1) A := dt_cong (fun r c hr hc => by rw [sk_lt hc])
    have e2 : dt (m + 1) (fun r c => A (sk (m + 1) r) c) = dt (m + 1) A := dt_cong (fun r c hr hc => by rw [sk_lt hr])
    rw [e1, e2]
    congr 1
    have h1 : gs (fun j => sg (m + 1 + j) * A (m + 1) j * dt (m + 1) (fun r c => A r (sk j c))) (m + 1) =
        gs (fun j => gs (fun i => sg (m + 1 + j) * A (m + 1) j * (sg (m + i) * A i (m + 1) * dt m (fun r c => A (sk i r) (sk j c)))) (m + 1)) (m + 1) := gs_cong (fun j hj => by
      rw [gs_mul, dt_col m]
      congr 1
      exact gs_cong (fun i hi => by rw [sk_ge (j := j) (c := m) (by omega)]))
    have h2 : gs (fun i => sg (m + 1 + i) * A i (m + 1) * dt (m + 1) (fun r c => A (sk i r) c)) (m + 1) =
        gs (fun i => gs (fun j => sg (m + 1 + i) * A i (m + 1) * (sg (m + j) * A (m + 1) j * dt m (fun r c => A (sk i r) (sk j c)))) (m + 1)) (m + 1) := gs_cong (fun i hi => by
      rw [gs_mul, dt_s m]
      congr 1
      exact gs_cong (fun j hj => by rw [sk_ge (j := i) (c := m) (by omega)]))
    rw [h1, h2, gs_swap]
    exact gs_cong (fun i hi => gs_cong (fun j hj => by
      have a1 : sg (m + 1 + j) = - sg (m + j) := by rw [show m + 1 + j = m + j + 1 by omega, sg_s]
      have a2 : sg (m + 1 + i) = - sg (m + i) := by rw [show m + 1 + i = m + i + 1 by omega, sg_s]
      rw [a1, a2]
      grind))
theorem dt_tr : ∀ (n : Nat) (A : Nat → Nat → Int), dt n (fun r c => A c r) = dt n A
  | 0, _ => rfl
  | n + 1, A => by
    rw [dt_s, dt_col]
    exact gs_cong (fun j hj => by rw [← dt_tr n (fun r c => A (sk j r) c)])
/-- the unit column -/
def eu (j r : Nat) : Int := if r = j then 1 else 0
theorem dt_cof {n : Nat} (A : Nat → Nat → Int) {i j : Nat} (hi : i < n + 1) (hj : j < n + 1) : dt (n + 1) (cu A i (eu j)) = sg (i + j) * dt n (fun r c => A (sk j r) (sk i c)) := by
  have h1 := dt_move (n := n + 1) (n - i) (cu A i (eu j)) (i := i) (by omega)
  rw [dt_col, gs_cong (g := fun k => if k = j then sg (n + j) * dt n (fun r c => A (sk j r) (sk i c)) else 0) (fun k hk => by
    have e0 : cm (n + 1) i n = i := by unfold cm; rw [if_neg (by omega), if_neg (by omega)]
    rw [e0, cu_s]
    unfold eu
    by_cases e : k = j
    · subst e
      rw [if_pos rfl, if_pos rfl, Int.mul_one]
      congr 1
      exact dt_cong (fun r c hr hc => by
        have e1 : cm (n + 1) i c = sk i c := by
          unfold cm sk
          by_cases e2 : c < i
          · rw [if_pos e2, if_pos e2]
          · rw [if_neg e2, if_neg e2, if_pos (by omega)]
        rw [e1, cu_n _ _ _ (sk_ne _ _)])
    · rw [if_neg e, if_neg e]; omega), gs_one (fun _ => sg (n + j) * dt n (fun r c => A (sk j r) (sk i c))) hj] at h1
  have h2 : sg (n - i) * sg (n + j) = sg (i + j) := by rw [← sg_add]; exact sg_eq (by omega)
  have h3 := sg_sq (n - i)
  rw [← h2, Int.mul_assoc, h1, ← Int.mul_assoc, h3, Int.one_mul]
/-- Cramer: what of place i would make up b, times the determinant -/
def cr (n : Nat) (A : Nat → Nat → Int) (b : Nat → Int) (i : Nat) : Int := dt n (cu A i b)
def aj (n : Nat) (A : Nat → Nat → Int) (i j : Nat) : Int := dt n (cu A i (eu j))
theorem cr_aj {n : Nat} (A : Nat → Nat → Int) (b : Nat → Int) {i : Nat} (hi : i < n) : cr n A b i = gs (fun j => aj n A i j * b j) n := by
  unfold cr aj
  rw [show gs (fun j => dt n (cu A i (eu j)) * b j) n = gs (fun j => b j * dt n (cu A i (eu j))) n from gs_cong (fun j _ => Int.mul_comm _ _), ← dt_sum A b eu hi]
  refine dt_cong (fun r c hr hc => ?_)
  unfold cu
  by_cases e : c = i
  · rw [if_pos e, if_pos e]
    show b r = gs (fun l => b l * eu l r) n
    rw [gs_cong (f := fun l => b l * eu l r) (g := fun l => if l = r then b l else 0) (fun l _ => by
      show b l * eu l r = if l = r then b l else 0
      unfold eu
      by_cases e2 : l = r
      · rw [if_pos e2, if_pos e2.symm, Int.mul_one]
      · rw [if_neg e2, if_neg (fun h => e2 h.symm), Int.mul_zero]), gs_one b hr]
  · rw [if_neg e, if_neg e]
theorem cr_col {n : Nat} (A : Nat → Nat → Int) {i k : Nat} (hi : i < n) (hk : k < n) : cr n A (fun r => A r k) i = if i = k then dt n A else 0 := by
  unfold cr
  by_cases e : i = k
  · subst e; rw [if_pos rfl, cu_self]
  · rw [if_neg e]
    exact dt_same e hi hk (fun r _ => by rw [cu_s, cu_n _ _ _ (fun h => e h.symm)])
/-- adj A = det -/
theorem aj_l {n : Nat} (A : Nat → Nat → Int) {i k : Nat} (hi : i < n) (hk : k < n) : gs (fun j => aj n A i j * A j k) n = if i = k then dt n A else 0 := by
  rw [← cr_aj A (fun r => A r k) hi, cr_col A hi hk]
/-- A x = b gives det x = adj b -/
theorem cr_sol {n : Nat} {A : Nat → Nat → Int} {x b : Nat → Int} (h : ∀ r, r < n → gs (fun c => A r c * x c) n = b r) {i : Nat} (hi : i < n) : cr n A b i = dt n A * x i := by
  rw [cr_aj A b hi, gs_cong (g := fun j => gs (fun c => aj n A i j * A j c * x c) n) (fun j hj => by
    rw [← h j hj, ← gs_mul]
    exact gs_cong (fun c _ => by rw [Int.mul_assoc])), gs_swap, gs_cong (g := fun c => if c = i then dt n A * x c else 0) (fun c hc => by
    rw [gs_mulr, aj_l A hi hc]
    by_cases e : i = c
    · rw [if_pos e, if_pos e.symm]
    · rw [if_neg e, if_neg (fun h => e h.symm), Int.zero_mul]), gs_one (fun c => dt n A * x c) hi]
theorem aj_tr {n : Nat} (A : Nat → Nat → Int) {i j : Nat} (hi : i < n) (hj : j < n) : aj n (fun r c => A c r) i j = aj n A j i := by
  cases n with
  | zero => exact absurd hi (Nat.not_lt_zero _)
  | succ n =>
    unfold aj
    rw [dt_cof _ hi hj, dt_cof _ hj hi, Nat.add_comm j i, ← dt_tr n (fun r c => A (sk i r) (sk j c))]
/-- A adj = det -/
theorem aj_r {n : Nat} (A : Nat → Nat → Int) {i k : Nat} (hi : i < n) (hk : k < n) : gs (fun j => A i j * aj n A j k) n = if i = k then dt n A else 0 := by
  have h := aj_l (fun r c => A c r) hk hi
  rw [dt_tr] at h
  rw [gs_cong (g := fun j => aj n (fun r c => A c r) k j * A i j) (fun j hj => by rw [aj_tr A hk hj, Int.mul_comm]), h]
  by_cases e : i = k
  · rw [if_pos e, if_pos e.symm]
  · rw [if_neg e, if_neg (fun h => e h.symm)]
/-- A times what Cramer tells is det b -/
theorem cr_r {n : Nat} (A : Nat → Nat → Int) (b : Nat → Int) {i : Nat} (hi : i < n) : gs (fun j => A i j * cr n A b j) n = dt n A * b i := by
  rw [gs_cong (g := fun j => gs (fun k => A i j * aj n A j k * b k) n) (fun j hj => by
    rw [cr_aj A b hj, ← gs_mul]
    exact gs_cong (fun k _ => by rw [Int.mul_assoc])), gs_swap, gs_cong (g := fun k => if k = i then dt n A * b k else 0) (fun k hk => by
    rw [gs_mulr, aj_r A hi hk]
    by_cases e : i = k
    · rw [if_pos e, if_pos e.symm]
    · rw [if_neg e, if_neg (fun h => e h.symm), Int.zero_mul]), gs_one (fun k => dt n A * b k) hi]
/-- a determinant with one row and one column more -/
theorem dt_bord {n : Nat} (A : Nat → Nat → Int) : dt (n + 1) A = A n n * dt n A - gs (fun j => A n j * cr n A (fun r => A r n) j) n := by
  rw [dt_s, gs_s, dt_cong (A := fun r c => A r (sk n c)) (B := A) (fun r c hr hc => by rw [sk_lt hc]), sg_even, Int.one_mul, gs_cong (g := fun j => - (A n j * cr n A (fun r => A r n) j)) (fun j hj => ?_), gs_neg]
  · omega
  · unfold cr
    have h1 := dt_move (n := n) (n - 1 - j) (cu A j (fun r => A r n)) (i := j) (by omega)
    have e : dt n (fun r c => A r (sk j c)) = dt n (fun r c => cu A j (fun r => A r n) r (cm n j c)) := dt_cong (fun r c hr hc => by
      unfold cm
      by_cases e1 : c < j
      · rw [if_pos e1, sk_lt e1, cu_n _ _ _ (by omega)]
      · rw [if_neg e1, sk_ge (by omega)]
        by_cases e2 : c + 1 < n
        · rw [if_pos e2, cu_n _ _ _ (by omega)]
        · rw [if_neg e2, cu_s, show c + 1 = n by omega])
    rw [e, h1]
    have h2 : sg (n + j) * sg (n - 1 - j) = -1 := by
      rw [← sg_add, show n + j + (n - 1 - j) = (n - 1) + (n - 1) + 1 by omega, sg_s, sg_even]
    have h3 : sg (n + j) * A n j * (sg (n - 1 - j) * dt n (cu A j fun r => A r n)) = (sg (n + j) * sg (n - 1 - j)) * (A n j * dt n (cu A j fun r => A r n)) := by grind
    rw [h3, h2]; omega
end MathDet
