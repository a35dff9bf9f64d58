/-! pressing -/
def pr (a : Nat → Int) (m : Nat) : Nat → Nat → Int
  | 0 => a
  | n + 1 => va_up (pr a m n) (262 + 4 * n) ((a (262 + 4 * n) + (m / 2 ^ n % 2 : Nat)) % 2)
theorem pr_out (a : Nat → Int) (m : Nat) {j : Nat} : ∀ n, (∀ d, d < n → j ≠ 262 + 4 * d) → pr a m n j = a j := by
  intro n
  induction n with
  | zero => intro _; rfl
  | succ n ih =>
    intro h
    rw [pr, va_up, if_neg (h n (by omega)), ih (fun d hd => h d (by omega))]
theorem pr_in (a : Nat → Int) (m : Nat) {d : Nat} : ∀ n, d < n → pr a m n (262 + 4 * d) = (a (262 + 4 * d) + (m / 2 ^ d % 2 : Nat)) % 2 := by
  intro n
  induction n with
  | zero => intro h; omega
  | succ n ih =>
    intro h
    rw [pr, va_up]
    by_cases c : d = n
    · subst c; rw [if_pos rfl]
    · rw [if_neg (by omega), ih (by omega)]
theorem pr_off (a : Nat → Int) (m : Nat) {d n : Nat} (h : n ≤ d) : pr a m n (262 + 4 * d) = a (262 + 4 * d) := pr_out a m n (fun e he => by omega)
theorem xor_b : ∀ x, x < 2 → ∀ y, y < 2 → nI x ^^^ nI y = nI ((x + y) % 2) := by decide +kernel
theorem xor_6 : ∀ x, x < 64 → ∀ y, y < 64 → nI x ^^^ nI y = nI ((x % 2 + y % 2) % 2 + 2 * ((x / 2 % 2 + y / 2 % 2) % 2) + 4 * ((x / 4 % 2 + y / 4 % 2) % 2) + 8 * ((x / 8 % 2 + y / 8 % 2) % 2) + 16 * ((x / 16 % 2 + y / 16 % 2) % 2) + 32 * ((x / 32 % 2 + y / 32 % 2) % 2)) := by decide +kernel
