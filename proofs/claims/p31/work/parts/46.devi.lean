theorem pr_key {a : Nat → Int} {m n : Nat} (hm : m < 2 ^ n) (d v : Nat) (hv : a (262 + 4 * d) = v) (h1 : v ≤ 1) : pr a m n (262 + 4 * d) = (((v + m / 2 ^ d % 2) % 2 : Nat) : Int) := by
  rcases Nat.lt_or_ge d n with q | q
  · rw [pr_in a m n q, hv]
    rfl
  · rw [pr_off a m q, Nat.div_eq_of_lt (Nat.lt_of_lt_of_le hm (Nat.pow_le_pow_right (by omega) q)), hv, Nat.zero_mod, Nat.add_zero, Nat.mod_eq_of_lt (by omega)]
theorem onm_of {b : Nat → Int} {t0 t1 t2 t3 t4 t5 : Nat} (h0 : b (262 + 4 * 0) = t0) (h1 : b (262 + 4 * 1) = t1) (h2 : b (262 + 4 * 2) = t2) (h3 : b (262 + 4 * 3) = t3) (h4 : b (262 + 4 * 4) = t4) (h5 : b (262 + 4 * 5) = t5) : onm b = ((t0 + 2 * t1 + 4 * t2 + 8 * t3 + 16 * t4 + 32 * t5 : Nat) : Int) := by
  simp only [Nat.mul_zero, Nat.mul_one, Nat.add_zero, Nat.reduceMul, Nat.reduceAdd] at h0 h1 h2 h3 h4 h5
  unfold onm
  omega
