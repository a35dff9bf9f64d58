theorem dg_d {n y : Nat} (h : n ≤ 1) : (n + 2 * y) / 2 = y := by omega
theorem dg_m {n y : Nat} (h : n ≤ 1) : (n + 2 * y) % 2 = n := by omega
theorem dig6 {n0 n1 n2 n3 n4 n5 : Nat} (h0 : n0 ≤ 1) (h1 : n1 ≤ 1) (h2 : n2 ≤ 1) (h3 : n3 ≤ 1) (h4 : n4 ≤ 1) (h5 : n5 ≤ 1) {x : Nat} (hx : x = n0 + 2 * n1 + 4 * n2 + 8 * n3 + 16 * n4 + 32 * n5) : x % 2 = n0 ∧ x / 2 % 2 = n1 ∧ x / 4 % 2 = n2 ∧ x / 8 % 2 = n3 ∧ x / 16 % 2 = n4 ∧ x / 32 % 2 = n5 ∧ x < 64 := by
  subst hx
  have e : n0 + 2 * n1 + 4 * n2 + 8 * n3 + 16 * n4 + 32 * n5 = n0 + 2 * (n1 + 2 * (n2 + 2 * (n3 + 2 * (n4 + 2 * n5)))) := by omega
  rw [e, show (4 : Nat) = 2 * 2 from rfl, show (8 : Nat) = 2 * 2 * 2 from rfl, show (16 : Nat) = 2 * 2 * 2 * 2 from rfl, show (32 : Nat) = 2 * 2 * 2 * 2 * 2 from rfl]
  simp only [← Nat.div_div_eq_div_mul]
  rw [dg_d h0, dg_d h1, dg_d h2, dg_d h3, dg_d h4, dg_m h0, dg_m h1, dg_m h2, dg_m h3, dg_m h4]
  exact ⟨rfl, rfl, rfl, rfl, rfl, by omega, by omega⟩
theorem bit_nat {z : Int} (h : 0 ≤ z ∧ z ≤ 1) : ∃ n : Nat, n ≤ 1 ∧ z = n := by
  obtain ⟨n, rfl⟩ := Int.eq_ofNat_of_zero_le h.1
  exact ⟨n, by omega, rfl⟩
