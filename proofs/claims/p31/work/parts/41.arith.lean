/-! numbers: an int by its whole number -/
def iI (z : Int) : Int32 := Int32.ofInt z
def lL (z : Int) : Int64 := Int64.ofInt z
theorem iI_T {z : Int} (h1 : -2147483648 ≤ z) (h2 : z < 2147483648) : (iI z).toInt = z := Int32.toInt_ofInt_of_le h1 h2
theorem T_iI (x : Int32) : iI x.toInt = x := Int32.ofInt_toInt x
theorem ex_iI (x : Int32) : ∃ z : Int, (-2147483648 ≤ z ∧ z < 2147483648) ∧ x = iI z := ⟨x.toInt, ⟨Int32.le_toInt x, Int32.toInt_lt x⟩, (T_iI x).symm⟩
theorem iI_add (a b : Int) : iI a + iI b = iI (a + b) := (Int32.ofInt_add a b).symm
theorem iI_sub (a b : Int) : iI a - iI b = iI (a - b) := (Int32.ofInt_sub a b).symm
theorem iI_mul (a b : Int) : iI a * iI b = iI (a * b) := (Int32.ofInt_mul a b).symm
theorem iI_neg (a : Int) : -iI a = iI (-a) := (Int32.ofInt_neg a).symm
theorem iI_lt {a b : Int} (h1 : -2147483648 ≤ a) (h2 : a < 2147483648) (h3 : -2147483648 ≤ b) (h4 : b < 2147483648) : (iI a < iI b) ↔ a < b := by rw [Int32.lt_iff_toInt_lt, iI_T h1 h2, iI_T h3 h4]
theorem iI_le {a b : Int} (h1 : -2147483648 ≤ a) (h2 : a < 2147483648) (h3 : -2147483648 ≤ b) (h4 : b < 2147483648) : (iI a ≤ iI b) ↔ a ≤ b := by rw [Int32.le_iff_toInt_le, iI_T h1 h2, iI_T h3 h4]
theorem iI_eq {a b : Int} (h1 : -2147483648 ≤ a) (h2 : a < 2147483648) (h3 : -2147483648 ≤ b) (h4 : b < 2147483648) : (iI a = iI b) ↔ a = b := by rw [← Int32.toInt_inj, iI_T h1 h2, iI_T h3 h4]
theorem iI_cl {a : Int} (h1 : -2147483648 ≤ a) (h2 : a < 2147483648) : (iI a).toNatClampNeg = a.toNat := by
  show (iI a).toInt.toNat = _
  rw [iI_T h1 h2]
theorem iI_nat (n : Nat) : iI (n : Int) = nI n := rfl
theorem l_0 : (0 : Int32) = iI 0 := (rfl)
theorem l_1 : (1 : Int32) = iI 1 := (rfl)
theorem l_2 : (2 : Int32) = iI 2 := (rfl)
theorem l_3 : (3 : Int32) = iI 3 := (rfl)
theorem l_4 : (4 : Int32) = iI 4 := (rfl)
theorem l_5 : (5 : Int32) = iI 5 := (rfl)
theorem l_6 : (6 : Int32) = iI 6 := (rfl)
theorem l_7 : (7 : Int32) = iI 7 := (rfl)
theorem l_8 : (8 : Int32) = iI 8 := (rfl)
theorem l_9 : (9 : Int32) = iI 9 := (rfl)
theorem l_10 : (10 : Int32) = iI 10 := (rfl)
theorem l_11 : (11 : Int32) = iI 11 := (rfl)
theorem l_12 : (12 : Int32) = iI 12 := (rfl)
theorem l_13 : (13 : Int32) = iI 13 := (rfl)
theorem l_14 : (14 : Int32) = iI 14 := (rfl)
theorem l_16 : (16 : Int32) = iI 16 := (rfl)
theorem l_31 : (31 : Int32) = iI 31 := (rfl)
theorem l_40 : (40 : Int32) = iI 40 := (rfl)
theorem l_48 : (48 : Int32) = iI 48 := (rfl)
theorem l_54 : (54 : Int32) = iI 54 := (rfl)
theorem l_58 : (58 : Int32) = iI 58 := (rfl)
theorem l_59 : (59 : Int32) = iI 59 := (rfl)
theorem l_60 : (60 : Int32) = iI 60 := (rfl)
theorem l_99 : (99 : Int32) = iI 99 := (rfl)
theorem l_100 : (100 : Int32) = iI 100 := (rfl)
theorem l_107 : (107 : Int32) = iI 107 := (rfl)
theorem l_110 : (110 : Int32) = iI 110 := (rfl)
theorem l_115 : (115 : Int32) = iI 115 := (rfl)
theorem l_120 : (120 : Int32) = iI 120 := (rfl)
theorem l_255 : (255 : Int32) = iI 255 := (rfl)
theorem l_259 : (259 : Int32) = iI 259 := (rfl)
theorem l_283 : (283 : Int32) = iI 283 := (rfl)
theorem l_1000 : (1000 : Int32) = iI 1000 := (rfl)
theorem l_4095 : (4095 : Int32) = iI 4095 := (rfl)
theorem iI_64 {a : Int} (h1 : -2147483648 ≤ a) (h2 : a < 2147483648) : Int32.toInt64 (iI a) = lL a := by
  apply Int64.toInt_inj.mp
  rw [Int32.toInt_toInt64, iI_T h1 h2]
  exact (Int64.toInt_ofInt_of_le (by omega) (by omega)).symm
theorem lL_T {z : Int} (h1 : -9223372036854775808 ≤ z) (h2 : z < 9223372036854775808) : (lL z).toInt = z := Int64.toInt_ofInt_of_le h1 h2
theorem lL_lt {a b : Int} (h1 : -9223372036854775808 ≤ a) (h2 : a < 9223372036854775808) (h3 : -9223372036854775808 ≤ b) (h4 : b < 9223372036854775808) : (lL a < lL b) ↔ a < b := by rw [Int64.lt_iff_toInt_lt, lL_T h1 h2, lL_T h3 h4]
theorem lL_eq {a b : Int} (h1 : -9223372036854775808 ≤ a) (h2 : a < 9223372036854775808) (h3 : -9223372036854775808 ≤ b) (h4 : b < 9223372036854775808) : (lL a = lL b) ↔ a = b := by rw [← Int64.toInt_inj, lL_T h1 h2, lL_T h3 h4]
theorem iI_div {a b : Int} (ha : 0 ≤ a) (ha2 : a < 2147483648) (hb : 0 < b) (hb2 : b < 2147483648) : iI a / iI b = iI (a / b) := by
  obtain ⟨n, rfl⟩ := Int.eq_ofNat_of_zero_le ha
  obtain ⟨m, rfl⟩ := Int.eq_ofNat_of_zero_le (Int.le_of_lt hb)
  rw [iI_nat, iI_nat, pk_div (by omega) (by omega) (by omega)]
  rfl
theorem iI_rem {a b : Int} (ha : 0 ≤ a) (ha2 : a < 2147483648) (hb : 0 < b) (hb2 : b < 2147483648) : iI a - iI a / iI b * iI b = iI (a % b) := by
  obtain ⟨n, rfl⟩ := Int.eq_ofNat_of_zero_le ha
  obtain ⟨m, rfl⟩ := Int.eq_ofNat_of_zero_le (Int.le_of_lt hb)
  rw [iI_nat, iI_nat, pk_rem (by omega) (by omega) (by omega)]
  rfl
/-- yes and no -/
def bI (p : Prop) [Decidable p] : Int32 := if p then 1 else 0
theorem bI_0 {p : Prop} {i : Decidable p} : (@bI p i = 0) ↔ ¬ p := by
  unfold bI
  split <;> simp_all
theorem bI_t {p : Prop} {i : Decidable p} (h : p) : @bI p i = 1 := if_pos h
theorem bI_f {p : Prop} {i : Decidable p} (h : ¬ p) : @bI p i = 0 := if_neg h
theorem bI_01 {p : Prop} {i : Decidable p} : @bI p i = 0 ∨ @bI p i = 1 := by
  unfold bI
  split
  · exact Or.inr rfl
  · exact Or.inl rfl
theorem gd_t {β : Type} {c : Prop} {i : Decidable c} {k : Option β} (h : c) : @gd β c i k = k := if_pos h
theorem bnd_s {α β : Type} (a : α) (k : α → β) : bnd a k = k a := rfl
theorem cal_some {α β : Type} (a : α) (k : α → Option β) : cal (some a) k = k a := rfl
theorem FUEL_ge {n : Nat} (h : n ≤ 100000) : n ≤ FUEL := by rw [FUEL_eq]; exact h
theorem FUEL_s {n : Nat} (h : n ≤ 100000) : ∃ m, FUEL = m + n := ⟨100000 - n, by rw [FUEL_eq]; omega⟩
/-- a row of ints by a row of whole numbers -/
def Q (a : Nat → Int) : Nat → Int32 := fun j => iI (a j)
theorem Q_at (a : Nat → Int) (j : Nat) : Q a j = iI (a j) := rfl
theorem Q_up (a : Nat → Int) (j : Nat) (z : Int) : upd (Q a) j (iI z) = Q (va_up a j z) := by
  funext k
  unfold upd Q va_up
  split <;> rfl
theorem Q_ex (q : Nat → Int32) : ∃ a : Nat → Int, (∀ j, -2147483648 ≤ a j ∧ a j < 2147483648) ∧ q = Q a := ⟨fun j => (q j).toInt, fun j => ⟨Int32.le_toInt _, Int32.toInt_lt _⟩, funext fun j => (T_iI _).symm⟩
theorem lgL {a b : Int} (h1 : -9223372036854775808 ≤ a) (h2 : a < 9223372036854775808) (h3 : -9223372036854775808 ≤ b) (h4 : b < 9223372036854775808) : lg_cmp (lL a) (lL b) = iI (if b < a then 1 else if a = b then 0 else -1) := by
  unfold lg_cmp
  simp only [gt_iff_lt, lL_lt h3 h4 h1 h2, lL_eq h1 h2 h3 h4]
  split
  · rfl
  · split <;> rfl
theorem lg_lt {a b : Int} (h1 : -9223372036854775808 ≤ a) (h2 : a < 9223372036854775808) (h3 : -9223372036854775808 ≤ b) (h4 : b < 9223372036854775808) : (lg_cmp (lL a) (lL b) < 0) ↔ a < b := by
  rw [lgL h1 h2 h3 h4, l_0, iI_lt (by split <;> (try split) <;> omega) (by split <;> (try split) <;> omega) (by omega) (by omega)]
  split
  · omega
  · split <;> omega
theorem lg_gt {a b : Int} (h1 : -9223372036854775808 ≤ a) (h2 : a < 9223372036854775808) (h3 : -9223372036854775808 ≤ b) (h4 : b < 9223372036854775808) : (0 < lg_cmp (lL a) (lL b)) ↔ b < a := by
  rw [lgL h1 h2 h3 h4, l_0, iI_lt (by omega) (by omega) (by split <;> (try split) <;> omega) (by split <;> (try split) <;> omega)]
  split
  · omega
  · split <;> omega
theorem lg_ge {a b : Int} (h1 : -9223372036854775808 ≤ a) (h2 : a < 9223372036854775808) (h3 : -9223372036854775808 ≤ b) (h4 : b < 9223372036854775808) : (0 ≤ lg_cmp (lL a) (lL b)) ↔ b ≤ a := by
  rw [lgL h1 h2 h3 h4, l_0, iI_le (by omega) (by omega) (by split <;> (try split) <;> omega) (by split <;> (try split) <;> omega)]
  split
  · omega
  · split <;> omega
