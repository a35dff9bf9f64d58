theorem or_b : ∀ d, d < 6 → ∀ m, m < 2 ^ d → nI m ||| ((1 : Int32) <<< (nI d &&& 31)) = nI (m + 2 ^ d) := by decide +kernel
theorem or_0 : ∀ m, m < 64 → nI m ||| (0 : Int32) = nI m := by decide +kernel
theorem sh_b : ∀ d, d < 6 → ∀ m, m < 64 → (nI m >>> (nI d &&& 31)) &&& 1 = nI (m / 2 ^ d % 2) := by decide +kernel
theorem mk_64 (p : Nat → Prop) [DecidablePred p] {n : Nat} (h : n ≤ 6) : mk p n < 64 := Nat.lt_of_lt_of_le (mk_lt p n) (Nat.pow_le_pow_right (n := 2) (by omega) h)
