/-! counting the bits of a long of 40 bits, byte by byte -/
theorem and_dig {x c : Nat} (b d : Nat) (hx : x < 256) (hc : c < 256) : (x + 256 * b) &&& (c + 256 * d) = (x &&& c) + 256 * (b &&& d) := by
  have e1 := Nat.and_mod_two_pow (a := x + 256 * b) (b := c + 256 * d) (n := 8)
  have e2 := Nat.and_div_two_pow (a := x + 256 * b) (b := c + 256 * d) (n := 8)
  rw [show (2 : Nat) ^ 8 = 256 from rfl] at e1 e2
  rw [show (x + 256 * b) % 256 = x by omega, show (c + 256 * d) % 256 = c by omega] at e1
  rw [show (x + 256 * b) / 256 = b by omega, show (c + 256 * d) / 256 = d by omega] at e2
  omega
def s1 (n : Nat) : Nat := n - (n / 2 &&& 85)
def s2 (n : Nat) : Nat := (n &&& 51) + (n / 4 &&& 51)
def s3 (n : Nat) : Nat := (n + n / 16) &&& 15
theorem s1_c : ∀ n, n < 256 → s1 n < 256 ∧ (n / 2 + 128 &&& 85) = (n / 2 &&& 85) ∧ (n / 2 &&& 85) ≤ n := by decide +kernel
theorem s2_c : ∀ n, n < 256 → s2 n < 256 ∧ (n / 4 + 64 &&& 51) = (n / 4 &&& 51) ∧ (n / 4 + 128 &&& 51) = (n / 4 &&& 51) ∧ (n / 4 + 192 &&& 51) = (n / 4 &&& 51) := by decide +kernel
def mm (c : Nat) : Nat → Nat
  | 0 => 0
  | k + 1 => c + 256 * mm c k
def dd (f : Nat → Nat) : Nat → Nat → Nat
  | 0, _ => 0
  | k + 1, n => f (n % 256) + 256 * dd f k (n / 256)
theorem dd1a : ∀ k n, n < 256 ^ k → (n / 2 &&& mm 85 k) = dd (fun b => b / 2 &&& 85) k n := by
  intro k
  induction k with
  | zero =>
    intro n hn
    rw [mm, dd, Nat.and_zero]
  | succ k ih =>
    intro n hn
    have hd : n / 256 < 256 ^ k := by rw [Nat.pow_succ] at hn; exact Nat.div_lt_of_lt_mul (by rw [Nat.mul_comm]; exact hn)
    have hb := s1_c (n % 256) (Nat.mod_lt _ (by omega))
    have e : n / 2 = (n % 256 / 2 + 128 * (n / 256 % 2)) + 256 * (n / 256 / 2) := by omega
    rw [mm, dd, ← ih _ hd, e, and_dig _ _ (by omega) (by omega)]
    rcases Nat.mod_two_eq_zero_or_one (n / 256) with q | q
    · rw [q, Nat.mul_zero, Nat.add_zero]
    · rw [q, Nat.mul_one, hb.2.1]
theorem dd_le {f g : Nat → Nat} (h : ∀ b, b < 256 → f b ≤ g b) : ∀ k n, dd f k n ≤ dd g k n := by
  intro k
  induction k with
  | zero => intro n; exact Nat.le_refl _
  | succ k ih =>
    intro n
    have := ih (n / 256)
    have := h (n % 256) (Nat.mod_lt _ (by omega))
    rw [dd, dd]
    omega
theorem dd_id : ∀ k n, n < 256 ^ k → dd (fun b => b) k n = n := by
  intro k
  induction k with
  | zero => intro n hn; rw [dd]; rw [Nat.pow_zero] at hn; omega
  | succ k ih =>
    intro n hn
    have hd : n / 256 < 256 ^ k := by rw [Nat.pow_succ] at hn; exact Nat.div_lt_of_lt_mul (by rw [Nat.mul_comm]; exact hn)
    rw [dd, ih _ hd]
    omega
theorem dd_sub {f g : Nat → Nat} (h : ∀ b, b < 256 → g b ≤ f b) : ∀ k n, dd f k n - dd g k n = dd (fun b => f b - g b) k n := by
  intro k
  induction k with
  | zero => intro n; rfl
  | succ k ih =>
    intro n
    have e := ih (n / 256)
    have := dd_le h k (n / 256)
    have := h (n % 256) (Nat.mod_lt _ (by omega))
    rw [dd, dd, dd, ← e]
    omega
theorem dd_add {f g : Nat → Nat} : ∀ k n, dd f k n + dd g k n = dd (fun b => f b + g b) k n := by
  intro k
  induction k with
  | zero => intro n; rfl
  | succ k ih =>
    intro n
    rw [dd, dd, dd, ← ih (n / 256)]
    omega
theorem dd_lt {f : Nat → Nat} (h : ∀ b, b < 256 → f b < 256) : ∀ k n, dd f k n < 256 ^ k := by
  intro k
  induction k with
  | zero => intro n; rw [dd]; decide
  | succ k ih =>
    intro n
    have := ih (n / 256)
    have := h (n % 256) (Nat.mod_lt _ (by omega))
    rw [dd, Nat.pow_succ]
    omega
theorem dd_comp {f g : Nat → Nat} (h : ∀ b, b < 256 → f b < 256) : ∀ k n, dd g k (dd f k n) = dd (fun b => g (f b)) k n := by
  intro k
  induction k with
  | zero => intro n; rfl
  | succ k ih =>
    intro n
    have := h (n % 256) (Nat.mod_lt _ (by omega))
    rw [dd, dd, dd, ← ih (n / 256), show (f (n % 256) + 256 * dd f k (n / 256)) % 256 = f (n % 256) by omega, show (f (n % 256) + 256 * dd f k (n / 256)) / 256 = dd f k (n / 256) by omega]
theorem dd_cong {f g : Nat → Nat} (h : ∀ b, b < 256 → f b = g b) : ∀ k n, dd f k n = dd g k n := by
  intro k
  induction k with
  | zero => intro n; rfl
  | succ k ih =>
    intro n
    rw [dd, dd, ih (n / 256), h _ (Nat.mod_lt _ (by omega))]
theorem dd2a : ∀ k n, n < 256 ^ k → (n &&& mm 51 k) = dd (fun b => b &&& 51) k n := by
  intro k
  induction k with
  | zero => intro n hn; rw [mm, dd, Nat.and_zero]
  | succ k ih =>
    intro n hn
    have hd : n / 256 < 256 ^ k := by rw [Nat.pow_succ] at hn; exact Nat.div_lt_of_lt_mul (by rw [Nat.mul_comm]; exact hn)
    have e : n = n % 256 + 256 * (n / 256) := by omega
    rw [mm, dd, ← ih _ hd]
    conv => lhs; rw [e]
    rw [and_dig _ _ (by omega) (by omega)]
theorem dd2b : ∀ k n, n < 256 ^ k → (n / 4 &&& mm 51 k) = dd (fun b => b / 4 &&& 51) k n := by
  intro k
  induction k with
  | zero => intro n hn; rw [mm, dd, Nat.and_zero]
  | succ k ih =>
    intro n hn
    have hd : n / 256 < 256 ^ k := by rw [Nat.pow_succ] at hn; exact Nat.div_lt_of_lt_mul (by rw [Nat.mul_comm]; exact hn)
    have hb := s2_c (n % 256) (Nat.mod_lt _ (by omega))
    have e : n / 4 = (n % 256 / 4 + 64 * (n / 256 % 4)) + 256 * (n / 256 / 4) := by omega
    rw [mm, dd, ← ih _ hd, e, and_dig _ _ (by omega) (by omega)]
    have q : n / 256 % 4 = 0 ∨ n / 256 % 4 = 1 ∨ n / 256 % 4 = 2 ∨ n / 256 % 4 = 3 := by omega
    rcases q with q | q | q | q
    · rw [q, Nat.mul_zero, Nat.add_zero]
    · rw [q, Nat.mul_one, hb.2.1]
    · rw [q, show 64 * 2 = 128 from rfl, hb.2.2.1]
    · rw [q, show 64 * 3 = 192 from rfl, hb.2.2.2]
/-- bytes of two nibbles of at most 4 each -/
def nb (b : Nat) : Prop := b % 16 ≤ 4 ∧ b / 16 ≤ 4
theorem s3_c : ∀ b, b < 256 → b % 16 ≤ 4 → b / 16 ≤ 4 → (b + b / 16 &&& 15) = b % 16 + b / 16 ∧ (b + b / 16 + 16 &&& 15) = b % 16 + b / 16 ∧ (b + b / 16 + 32 &&& 15) = b % 16 + b / 16 ∧ (b + b / 16 + 48 &&& 15) = b % 16 + b / 16 ∧ (b + b / 16 + 64 &&& 15) = b % 16 + b / 16 := by decide +kernel
theorem dd3 {f : Nat → Nat} (hf : ∀ b, b < 256 → f b < 256 ∧ f b % 16 ≤ 4 ∧ f b / 16 ≤ 4) : ∀ k n, (dd f k n + dd f k n / 16 &&& mm 15 k) = dd (fun b => f b % 16 + f b / 16) k n := by
  intro k
  induction k with
  | zero => intro n; rw [mm, dd, dd, Nat.and_zero]
  | succ k ih =>
    intro n
    obtain ⟨h1, h2, h3⟩ := hf (n % 256) (Nat.mod_lt _ (by omega))
    have hb := s3_c _ h1 h2 h3
    rw [mm, dd, dd, ← ih (n / 256)]
    generalize f (n % 256) = x at *
    have hr : dd f k (n / 256) % 16 ≤ 4 := by
      cases k with
      | zero => rw [dd]; omega
      | succ k =>
        rw [dd]
        have := hf (n / 256 % 256) (Nat.mod_lt _ (by omega))
        omega
    generalize dd f k (n / 256) = y at *
    have e : x + 256 * y + (x + 256 * y) / 16 = (x + x / 16 + 16 * (y % 16)) + 256 * (y + y / 16) := by omega
    rw [e, and_dig _ _ (by omega) (by omega)]
    have q : y % 16 = 0 ∨ y % 16 = 1 ∨ y % 16 = 2 ∨ y % 16 = 3 ∨ y % 16 = 4 := by omega
    rcases q with q | q | q | q | q <;> rw [q]
    · rw [Nat.mul_zero, Nat.add_zero, hb.1]
    · rw [show 16 * 1 = 16 from rfl, hb.2.1]
    · rw [show 16 * 2 = 32 from rfl, hb.2.2.1]
    · rw [show 16 * 3 = 48 from rfl, hb.2.2.2.1]
    · rw [show 16 * 4 = 64 from rfl, hb.2.2.2.2]
def pc8 (n : Nat) : Nat := n % 2 + n / 2 % 2 + n / 4 % 2 + n / 8 % 2 + n / 16 % 2 + n / 32 % 2 + n / 64 % 2 + n / 128 % 2
theorem pc8_le (n : Nat) : pc8 n ≤ 8 := by unfold pc8; omega
theorem s12_c : ∀ b, b < 256 → s2 (s1 b) < 256 ∧ s2 (s1 b) % 16 ≤ 4 ∧ s2 (s1 b) / 16 ≤ 4 ∧ s2 (s1 b) % 16 + s2 (s1 b) / 16 = pc8 b := by decide +kernel
def pcN : Nat → Nat → Nat
  | 0, _ => 0
  | k + 1, n => pc8 (n % 256) + pcN k (n / 256)
