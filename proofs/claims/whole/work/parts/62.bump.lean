/-! One grain more -/
section Bump
theorem psum_bump (g : Nat → Int) {q : Nat} (hq : 1 ≤ q) : ∀ n, psum n (ub g q (g q + 1)) = psum n g + if q < n then 1 else 0
  | 0 => by rw [if_neg (by omega)]; rfl
  | n + 1 => by
    have h := psum_bump g hq n
    show psum n (ub g q (g q + 1)) + (if n = 0 then 0 else ub g q (g q + 1) n) = psum n g + (if n = 0 then 0 else g n) + _
    by_cases e0 : n = 0
    · subst e0
      rw [if_pos rfl, if_pos rfl, if_neg (by omega)]
      rw [if_neg (by omega)] at h
      omega
    · rw [if_neg e0, if_neg e0]
      by_cases e : n = q
      · subst e; rw [ub_s, if_pos (by omega)]; rw [if_neg (by omega)] at h; omega
      · rw [ub_n _ _ e]
        by_cases e2 : q < n
        · rw [if_pos e2] at h; rw [if_pos (by omega)]; omega
        · rw [if_neg e2] at h; rw [if_neg (by omega)]; omega
end Bump
