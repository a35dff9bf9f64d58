theorem onm_pr {a : Nat → Int} (hw : WF a) {m n : Nat} (hm : m < 2 ^ n) (hn : n ≤ 6) : iI (onm a) ^^^ nI m = iI (onm (pr a m n)) := by
  obtain ⟨n0, q0, e0⟩ := bit_nat (hw.on (show 0 < 6 by omega)).1
  obtain ⟨n1, q1, e1⟩ := bit_nat (hw.on (show 1 < 6 by omega)).1
  obtain ⟨n2, q2, e2⟩ := bit_nat (hw.on (show 2 < 6 by omega)).1
  obtain ⟨n3, q3, e3⟩ := bit_nat (hw.on (show 3 < 6 by omega)).1
  obtain ⟨n4, q4, e4⟩ := bit_nat (hw.on (show 4 < 6 by omega)).1
  obtain ⟨n5, q5, e5⟩ := bit_nat (hw.on (show 5 < 6 by omega)).1
  have hm6 : m < 64 := Nat.lt_of_lt_of_le hm (Nat.pow_le_pow_right (n := 2) (by omega) hn)
  have hx := onm_of e0 e1 e2 e3 e4 e5
  have hy := onm_of (pr_key hm 0 n0 e0 q0) (pr_key hm 1 n1 e1 q1) (pr_key hm 2 n2 e2 q2) (pr_key hm 3 n3 e3 q3) (pr_key hm 4 n4 e4 q4) (pr_key hm 5 n5 e5 q5)
  rw [hx, hy, iI_nat, iI_nat]
  exact xor_on q0 q1 q2 q3 q4 q5 hm6
