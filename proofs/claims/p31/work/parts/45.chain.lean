/-! the reference's chains -/
theorem iI_neg0 {z : Int} (h : sm z) : (iI z < 0) ↔ z < 0 := by rw [l_0, iI_lt h.1 h.2 (by omega) (by omega)]
/-! how far apart two codes are -/
def pc12 (n : Nat) : Nat := n % 2 + n / 2 % 2 + n / 4 % 2 + n / 8 % 2 + n / 16 % 2 + n / 32 % 2 + n / 64 % 2 + n / 128 % 2 + n / 256 % 2 + n / 512 % 2 + n / 1024 % 2 + n / 2048 % 2
theorem pc12_le (n : Nat) : pc12 n ≤ 12 := by unfold pc12; omega
set_option maxRecDepth 100000 in
theorem pcI_c : ∀ n, n < 4096 → f_I_bitCount (nI n) = some (nI (pc12 n)) := by decide +kernel
set_option maxRecDepth 100000 in
theorem pc_k : ∀ n, n < 4096 → n ≠ 0 → (nI n &&& (nI n - 1)) = nI (n &&& (n - 1)) ∧ pc12 (n &&& (n - 1)) + 1 = pc12 n ∧ n &&& (n - 1) < n := by decide +kernel
def ap (x y : Int) : Int := pc12 (x.toNat ^^^ y.toNat)
theorem ap_le (x y : Int) : 0 ≤ ap x y ∧ ap x y ≤ 12 := by
  have := pc12_le (x.toNat ^^^ y.toNat)
  unfold ap
  omega
theorem ap_x {x y : Int} (h1 : 0 ≤ x) (h2 : x < 4096) (h3 : 0 ≤ y) (h4 : y < 4096) : iI x ^^^ iI y = nI (x.toNat ^^^ y.toNat) ∧ x.toNat ^^^ y.toNat < 4096 := by
  obtain ⟨n, rfl⟩ := Int.eq_ofNat_of_zero_le h1
  obtain ⟨m, rfl⟩ := Int.eq_ofNat_of_zero_le h3
  refine ⟨by rw [iI_nat, iI_nat, nx_xor]; rfl, ?_⟩
  exact Nat.xor_lt_two_pow (n := 12) (by omega) (by omega)
theorem I_apart {x y : Int} (h1 : 0 ≤ x) (h2 : x < 4096) (h3 : 0 ≤ y) (h4 : y < 4096) : f_I_bitCount (iI x ^^^ iI y) = some (iI (ap x y)) := by
  obtain ⟨e1, e2⟩ := ap_x h1 h2 h3 h4
  rw [e1, pcI_c _ e2]
  rfl
theorem TR_apart {x y : Int} (h1 : 0 ≤ x) (h2 : x < 4096) (h3 : 0 ≤ y) (h4 : y < 4096) : f_TR_apart (iI x) (iI y) = some (iI (ap x y)) := by
  unfold f_TR_apart
  rw [I_apart h1 h2 h3 h4, cal_some]
theorem ap_self (x : Int) : ap x x = 0 := by
  unfold ap
  rw [Nat.xor_self]
  rfl
/-! the noise -/
def nextx (x : Int64) : Int64 := (x * 6364136223846793005) + 1442695040888963407
def rr (x : Int64) : Int := (Int64.toInt32 ((x.toUInt64 >>> ((Int32.toInt64 33).toUInt64 &&& Int64.toUInt64 63)).toInt64)).toInt
theorem rr_b (x : Int64) : 0 ≤ rr x ∧ rr x < 2147483648 := by
  obtain ⟨n, hn, rfl⟩ := wb_of x
  unfold rr
  rw [show (33 : Int32) = nI 33 from rfl, wb_shr hn (by omega), lN_i, nI_toInt (by omega)]
  omega
def wb (x : Int64) (nd : Int) : Int := if nd ≤ rr x % 10 then -1 else rr x / 16 % 12
theorem wb_b (x : Int64) (nd : Int) : -1 ≤ wb x nd ∧ wb x nd < 12 := by
  have := rr_b x
  unfold wb
  split <;> omega
theorem Noi_wrongBit (x : Int64) {n d : Int} (h1 : 0 ≤ n) (h2 : n ≤ 3) (h3 : 0 ≤ d) (h4 : d ≤ 9) : f_Noi_wrongBit x (iI n) (iI d) = some (n9 (wb x (n * d))) := by
  have hr := rr_b x
  have hm : 0 ≤ n * d ∧ n * d ≤ 27 := ⟨Int.mul_nonneg h1 h3, by have := Int.mul_le_mul h2 h4 h3 (by omega); omega⟩
  unfold f_Noi_wrongBit
  rw [bnd_s, ← T_iI (Int64.toInt32 ((x.toUInt64 >>> ((Int32.toInt64 33).toUInt64 &&& Int64.toUInt64 63)).toInt64))]
  show (if iI n * iI d ≤ iI (rr x) - iI (rr x) / 10 * 10 then some (-9) else some (iI (rr x) / 16 - iI (rr x) / 16 / 12 * 12)) = _
  rw [iI_mul, l_10, iI_rem hr.1 hr.2 (by omega) (by omega), l_16, iI_div hr.1 hr.2 (by omega) (by omega), l_12, iI_rem (by omega) (by omega) (by omega) (by omega)]
  simp only [iI_le (show -2147483648 ≤ n * d by omega) (show n * d < 2147483648 by omega) (show -2147483648 ≤ rr x % 10 by omega) (show rr x % 10 < 2147483648 by omega)]
  unfold wb
  split
  · rfl
  · rw [n9_pos (by omega)]
def chg (c b : Int) : Int := if b < 0 then c else ((c.toNat ^^^ 2 ^ b.toNat : Nat) : Int)
theorem two_b : ∀ n, n < 12 → (1 : Int32) <<< (nI n &&& 31) = nI (2 ^ n) := by decide +kernel
theorem chg_b {c b : Int} (h1 : 0 ≤ c) (h2 : c < 4096) (h3 : b < 12) : 0 ≤ chg c b ∧ chg c b < 4096 := by
  unfold chg
  split
  · omega
  · have : c.toNat ^^^ 2 ^ b.toNat < 2 ^ 12 := Nat.xor_lt_two_pow (by omega) (Nat.pow_lt_pow_right (by omega) (by omega))
    omega
theorem chg_x {c b : Int} (h1 : 0 ≤ c) (h2 : 0 ≤ b) (h3 : b < 12) : iI c ^^^ (1 <<< (iI b &&& 31)) = iI (chg c b) := by
  obtain ⟨n, rfl⟩ := Int.eq_ofNat_of_zero_le h1
  obtain ⟨m, rfl⟩ := Int.eq_ofNat_of_zero_le h2
  unfold chg
  rw [if_neg (by omega), iI_nat, iI_nat, two_b m (by omega), nx_xor]
  rfl
theorem Noi_changed {c b : Int} (h1 : 0 ≤ c) (h2 : -1 ≤ b) (h3 : b < 12) : f_Noi_changed (iI c) (n9 b) = some (iI (chg c b)) := by
  unfold f_Noi_changed
  by_cases q : b < 0
  · rw [if_neg (by rw [n9_neg q]; exact fun z => z (by rfl))]
    unfold chg
    rw [if_pos q]
  · rw [if_pos (by rw [l_9, iI_neg, n9_eq (by omega)]; exact q), n9_pos (by omega), chg_x h1 (by omega) h3]
def di (a b : Int) : Int := if b ≤ a then a - b else b - a
theorem iabs_di {x y : Int} (h1 : sm (x - y)) : iabs (iI x - iI y) = iI (di x y) := by
  unfold iabs di
  rw [iI_sub, l_0, iI_sub]
  simp only [iI_le (show -2147483648 ≤ (0 : Int) by omega) (by omega) h1.1 h1.2]
  split
  · rw [if_pos (by omega)]
  · rw [if_neg (by omega)]
    congr 1
    omega
theorem Noi_next (x : Int64) : f_Noi_next x = some (nextx x) := rfl
theorem Noi_learned (x : Int64) {c n d : Int} (h0 : 0 ≤ c) (h1 : 0 ≤ n) (h2 : n ≤ 3) (h3 : 0 ≤ d) (h4 : d ≤ 9) : f_Noi_learned (iI c) x (iI n) (iI d) = some (iI (chg c (wb x (n * d)))) := by
  have := wb_b x (n * d)
  unfold f_Noi_learned
  rw [Noi_wrongBit x h1 h2 h3 h4, cal_some, Noi_changed h0 this.1 this.2, cal_some]
