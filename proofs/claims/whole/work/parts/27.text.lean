/-! the text and its numbers -/
def TXT (s t : Nat → Int32) (T : Nat → Int) (N : Nat) : Prop := N ≤ 120 ∧ ∀ i, i < N → s i = iI (T i) ∧ t i = iI (T i) ∧ 0 ≤ T i ∧ T i ≤ 255
abbrev okd (T : Nat → Int) (N p : Nat) (lo hi : Int) : Prop := p < N ∧ lo ≤ T p - 48 ∧ T p - 48 ≤ hi
theorem c120 {k : Nat} (h : k < 120) : ¬ (iI (k : Int) < 0 ∨ 120 ≤ (iI (k : Int)).toNatClampNeg) := by
  simp (disch := omega) only [l_0, l_1, l_2, l_3, l_4, l_5, l_6, l_7, l_8, l_9, l_10, l_11, l_12, l_13, l_14, l_16, l_31, l_40, l_48, l_54, l_58, l_59, l_60, l_99, l_100, l_107, l_110, l_115, l_120, l_255, l_259, l_283, l_1000, l_4095, iI_add, iI_sub, iI_mul, iI_neg, iI_lt, iI_le, iI_eq, iI_cl]
  omega
theorem lL_mul (a b : Int) : lL a * lL b = lL (a * b) := (Int64.ofInt_mul a b).symm
theorem lL_add (a b : Int) : lL a + lL b = lL (a + b) := (Int64.ofInt_add a b).symm
theorem lL_sub (a b : Int) : lL a - lL b = lL (a - b) := (Int64.ofInt_sub a b).symm
theorem ll_10 : (10 : Int64) = lL 10 := rfl
theorem Txt_signAt {s t : Nat → Int32} {T : Nat → Int} {N : Nat} (hx : TXT s t T N) {p : Nat} (hp : p < N) : f_Txt_signAt s (iI N) (iI p) = some (iI (T p)) := by
  have h1 := hx.1
  unfold f_Txt_signAt
  rw [if_neg (by rw [iI_neg0 (by omega)]; omega), if_neg (iI_nle (by omega) (by omega) (by omega)), if_neg (by rw [l_120]; exact iI_nle (by omega) (by omega) (by omega)), gd_t (c120 (by omega)), kcl (by omega), (hx.2 p hp).1]
theorem Txt_signAt_f {s t : Nat → Int32} {T : Nat → Int} {N : Nat} (hx : TXT s t T N) {p : Nat} (hp : N ≤ p) (h2 : p < 2147483648) : f_Txt_signAt s (iI N) (iI p) = some (-9) := by
  have h1 := hx.1
  unfold f_Txt_signAt
  rw [if_neg (by rw [iI_neg0 (by omega)]; omega), if_pos ((iI_le (by omega) (by omega) (by omega) (by omega)).mpr (by omega))]
theorem M_sign_t {s t : Nat → Int32} {T : Nat → Int} {N : Nat} (hx : TXT s t T N) {p : Nat} (hp : p < N) : f_M_sign t (iI N) (iI p) (iI (T p)) = some (1, iI (p + 1 : Nat)) := by
  have h1 := hx.1
  unfold f_M_sign f_M_sign_29 f_M_sign_44
  rw [if_neg (iI_nle (by omega) (by omega) (by omega)), gd_t (c120 (by omega)), kcl (by omega), (hx.2 p hp).2.1, if_neg (fun z => z rfl), if_neg (by decide), gd_t (by decide), iI_s]
theorem M_sign_f {s t : Nat → Int32} {T : Nat → Int} {N : Nat} (hx : TXT s t T N) {p : Nat} (h2 : p < 2147483648) {c : Int} (hc : sm c) (hp : ¬ (p < N ∧ T p = c)) : f_M_sign t (iI N) (iI p) (iI c) = some (0, iI p) := by
  have h1 := hx.1
  unfold f_M_sign f_M_sign_28 f_M_sign_29 f_M_sign_44
  by_cases q : p < N
  · have ht := hx.2 p q
    rw [if_neg (iI_nle (by omega) (by omega) (by omega)), gd_t (c120 (by omega)), kcl (by omega), ht.2.1, if_pos (by rw [iI_eq (by omega) (by omega) (by omega) (by omega)]; exact fun z => hp ⟨q, z⟩), if_pos rfl, gd_t (by decide), iI_p0]
  · rw [if_pos ((iI_le (by omega) (by omega) (by omega) (by omega)).mpr (by omega)), if_pos rfl, gd_t (by decide), iI_p0]
theorem M_digit_t {s t : Nat → Int32} {T : Nat → Int} {N : Nat} (hx : TXT s t T N) {p : Nat} {lo hi : Int} (hl : sm lo) (hh : sm hi) (hp : okd T N p lo hi) (dg : Int32) : f_M_digitTo t (iI N) (iI p) dg (iI lo) (iI hi) = some (1, iI (p + 1 : Nat), iI (T p - 48)) := by
  have h1 := hx.1
  have ht := hx.2 p hp.1
  unfold f_M_digitTo f_M_digitTo_28 f_M_digitTo_58
  rw [if_neg (iI_nle (by omega) (by omega) (by omega)), gd_t (c120 (by omega)), kcl (by omega), ht.2.1, l_48, iI_sub, iI_64 hl.1 hl.2, iI_64 hh.1 hh.2, M_inI (by omega) (by omega) (by omega) (by omega) (by omega), cal_some, if_bI, if_pos hp.2, bI_t hp.2, gd_t (by decide), iI_s]
theorem M_digit_f {s t : Nat → Int32} {T : Nat → Int} {N : Nat} (hx : TXT s t T N) {p : Nat} (h2 : p < 2147483648) {lo hi : Int} (hl : 0 ≤ lo ∧ lo < 2147483648) (hh : sm hi) (hp : ¬ okd T N p lo hi) (dg : Int32) : ∃ dg', f_M_digitTo t (iI N) (iI p) dg (iI lo) (iI hi) = some (0, iI p, dg') := by
  have h1 := hx.1
  unfold f_M_digitTo f_M_digitTo_28 f_M_digitTo_58
  by_cases q : p < N
  · have ht := hx.2 p q
    have hn : ¬ (lo ≤ T p - 48 ∧ T p - 48 ≤ hi) := fun z => hp ⟨q, z⟩
    refine ⟨iI (T p - 48), ?_⟩
    rw [if_neg (iI_nle (by omega) (by omega) (by omega)), gd_t (c120 (by omega)), kcl (by omega), ht.2.1, l_48, iI_sub, iI_64 (by omega) hl.2, iI_64 hh.1 hh.2, M_inI (by omega) (by omega) (by omega) (by omega) (by omega), cal_some, if_bI, if_neg hn, bI_f hn, gd_t (by decide), iI_p0]
  · have hn : ¬ (lo ≤ (-1 : Int) ∧ (-1 : Int) ≤ hi) := by omega
    refine ⟨iI (-1), ?_⟩
    rw [if_pos ((iI_le (by omega) (by omega) (by omega) (by omega)).mpr (by omega)), show ((-1 : Int32)) = iI (-1) from rfl, iI_64 (by omega) hl.2, iI_64 hh.1 hh.2, M_inI (by omega) (by omega) (by omega) (by omega) (by omega), cal_some, if_bI, if_neg hn, bI_f hn, gd_t (by decide), iI_p0]
theorem TR_pow {k : Nat} (h : k < 1000) : f_TR_powerOfTen (iI k) = some (lL (10 ^ k)) := by
  unfold f_TR_powerOfTen
  refine seq2 (body := f_TR_powerOfTen_4 (iI k)) (fun j => lL (10 ^ j)) (fun j : Nat => iI j) k (fun g => ?_) (fun j hj g => ?_) FUEL 0 (Nat.zero_le _) (fuel_lt (by omega))
  · unfold f_TR_powerOfTen_4
    rw [if_pos ((iI_le (by omega) (by omega) (by omega) (by omega)).mpr (by omega))]
  · unfold f_TR_powerOfTen_4
    rw [if_neg (iI_nle (by omega) (by omega) (by omega)), bnd_s, ll_10, lL_mul, iI_s, ← Int.pow_succ]
/-- a digit more of a number is read -/
theorem rn_t {s t : Nat → Int32} {T : Nat → Int} {N : Nat} (hx : TXT s t T N) {p left : Nat} (hl : left < 4) {P : Int} (hP : (10 : Int) ^ left = P) (hP2 : 1 ≤ P ∧ P ≤ 1000) {n lo hi : Int} (hn : 0 ≤ n ∧ n ≤ 409) (hlo : 0 ≤ lo ∧ lo ≤ 4095) (hhi : 0 ≤ hi ∧ hi ≤ 4095) (hd : okd T N p 0 9) (h1 : (10 * n + (T p - 48)) * P ≤ hi) (h2 : lo ≤ (10 * n + (T p - 48)) * P + P - 1) (k : Int64 → Int32 → Int32 → Option (Int32 × Int32)) : f_Rdr_readNumber_8 s (iI N) (iI lo) (iI hi) (lL n) (iI left) (iI p) k = k (lL (10 * n + (T p - 48))) (iI ((left : Int) - 1)) (iI (p + 1 : Nat)) := by
  have ht := hx.2 p hd.1
  have hN := hx.1
  have g1 : 0 ≤ (10 * n + (T p - 48)) * P := Int.mul_nonneg (by omega) (by omega)
  have g2 : (10 * n + (T p - 48)) * P ≤ 4099 * 1000 := Int.mul_le_mul (by omega) (by omega) (by omega) (by omega)
  unfold f_Rdr_readNumber_8
  rw [if_neg (by rw [iI_neg0 (by omega)]; omega), Txt_signAt hx hd.1, cal_some, if_neg (by rw [l_48, iI_lt (by omega) (by omega) (by omega) (by omega)]; omega), if_pos (by rw [show (57 : Int32) = iI 57 from rfl, iI_le (by omega) (by omega) (by omega) (by omega)]; omega), bnd_s, l_48, iI_sub, iI_64 (by omega) (by omega), ll_10, lL_mul, lL_add, TR_pow (by omega), cal_some, bnd_s, cal_some, bnd_s, hP, lL_mul, lL_add, ll_1, lL_sub, iI_64 (by omega) (by omega), iI_64 (by omega) (by omega), if_neg (by rw [lg_gt (by omega) (by omega) (by omega) (by omega)]; omega), if_pos ((lg_ge (by omega) (by omega) (by omega) (by omega)).mpr (by omega)), iI_s, l_1, iI_neg, iI_add]
  rfl
theorem rn_f {s t : Nat → Int32} {T : Nat → Int} {N : Nat} (hx : TXT s t T N) {p left : Nat} (hp : p < 2147483648) (hl : left < 4) {P : Int} (hP : (10 : Int) ^ left = P) (hP2 : 1 ≤ P ∧ P ≤ 1000) {n lo hi : Int} (hn : 0 ≤ n ∧ n ≤ 409) (hlo : 0 ≤ lo ∧ lo ≤ 4095) (hhi : 0 ≤ hi ∧ hi ≤ 4095) (hd : ¬ (okd T N p 0 9 ∧ (10 * n + (T p - 48)) * P ≤ hi ∧ lo ≤ (10 * n + (T p - 48)) * P + P - 1)) (k : Int64 → Int32 → Int32 → Option (Int32 × Int32)) : f_Rdr_readNumber_8 s (iI N) (iI lo) (iI hi) (lL n) (iI left) (iI p) k = some (-9, iI p) := by
  have hN := hx.1
  unfold f_Rdr_readNumber_8
  rw [if_neg (by rw [iI_neg0 (by omega)]; omega)]
  by_cases q : p < N
  · have ht := hx.2 p q
    rw [Txt_signAt hx q, cal_some]
    by_cases q1 : T p < 48
    · rw [if_pos (by rw [l_48, iI_lt (by omega) (by omega) (by omega) (by omega)]; omega)]
    · rw [if_neg (by rw [l_48, iI_lt (by omega) (by omega) (by omega) (by omega)]; omega)]
      by_cases q2 : T p ≤ 57
      · have g1 : 0 ≤ (10 * n + (T p - 48)) * P := Int.mul_nonneg (by omega) (by omega)
        have g2 : (10 * n + (T p - 48)) * P ≤ 4099 * 1000 := Int.mul_le_mul (by omega) (by omega) (by omega) (by omega)
        rw [if_pos (by rw [show (57 : Int32) = iI 57 from rfl, iI_le (by omega) (by omega) (by omega) (by omega)]; omega), bnd_s, l_48, iI_sub, iI_64 (by omega) (by omega), ll_10, lL_mul, lL_add, TR_pow (by omega), cal_some, bnd_s, cal_some, bnd_s, hP, lL_mul, lL_add, ll_1, lL_sub, iI_64 (by omega) (by omega), iI_64 (by omega) (by omega)]
        by_cases q3 : hi < (10 * n + (T p - 48)) * P
        · rw [if_pos ((lg_gt (by omega) (by omega) (by omega) (by omega)).mpr q3)]
        · rw [if_neg (by rw [lg_gt (by omega) (by omega) (by omega) (by omega)]; omega), if_neg (by rw [lg_ge (by omega) (by omega) (by omega) (by omega)]; exact fun z => hd ⟨⟨q, by omega, by omega⟩, by omega, z⟩)]
      · rw [if_neg (by rw [show (57 : Int32) = iI 57 from rfl, iI_le (by omega) (by omega) (by omega) (by omega)]; omega)]
  · rw [Txt_signAt_f hx (by omega) hp, cal_some, if_pos (by decide)]
theorem rn_end {s : Nat → Int32} {N : Nat} {lo hi : Int32} {n : Int} (hn : 0 ≤ n ∧ n ≤ 4095) (p : Int32) (k : Int64 → Int32 → Int32 → Option (Int32 × Int32)) : f_Rdr_readNumber_8 s (iI N) lo hi (lL n) (iI (-1)) p k = some (iI n, p) := by
  unfold f_Rdr_readNumber_8
  rw [if_pos ((iI_neg0 (by omega)).mpr (by omega))]
  congr 2
  apply Int32.toInt_inj.mp
  rw [Int64.toInt_toInt32, lL_T (by omega) (by omega), iI_T (by omega) (by omega)]
  exact Int.bmod_eq_of_le (by omega) (by omega)
/-- one digit: the program's number, the reference's digit -/
theorem digit1 {s t : Nat → Int32} {T : Nat → Int} {N : Nat} (hx : TXT s t T N) {p : Nat} (hp : p < 2147483640) {lo hi : Int} (hl : 0 ≤ lo ∧ lo ≤ 9) (hh : 0 ≤ hi ∧ hi ≤ 9) : (∃ v, lo ≤ v ∧ v ≤ hi ∧ p < N ∧ f_Rdr_readNumber (iI p) s (iI N) 1 (iI lo) (iI hi) = some (iI v, iI (p + 1 : Nat)) ∧ ∀ dg, f_M_digitTo t (iI N) (iI p) dg (iI lo) (iI hi) = some (1, iI (p + 1 : Nat), iI v)) ∨ (f_Rdr_readNumber (iI p) s (iI N) 1 (iI lo) (iI hi) = some (-9, iI p) ∧ ∀ dg, ∃ dg', f_M_digitTo t (iI N) (iI p) dg (iI lo) (iI hi) = some (0, iI p, dg')) := by
  obtain ⟨m, hm⟩ := FUEL_s (n := 2) (by omega)
  by_cases q : okd T N p lo hi
  · refine Or.inl ⟨T p - 48, q.2.1, q.2.2, q.1, ?_, M_digit_t hx (by omega) (by omega) q⟩
    unfold f_Rdr_readNumber
    rw [bnd_s, hm, rl3]
    show f_Rdr_readNumber_8 s (iI N) (iI lo) (iI hi) (lL 0) (iI (0 : Nat)) (iI p) _ = _
    rw [rn_t hx (by omega) (P := 1) rfl (by omega) (by omega) (by omega) (by omega) ⟨q.1, by omega, by omega⟩ (by omega) (by omega), rl3]
    show f_Rdr_readNumber_8 s (iI N) (iI lo) (iI hi) _ (iI (-1)) _ _ = _
    rw [rn_end (by omega)]
    congr 3
    omega
  · refine Or.inr ⟨?_, M_digit_f hx (by omega) (by omega) (by omega) q⟩
    unfold f_Rdr_readNumber
    rw [bnd_s, hm, rl3]
    show f_Rdr_readNumber_8 s (iI N) (iI lo) (iI hi) (lL 0) (iI (0 : Nat)) (iI p) _ = _
    rw [rn_f hx (by omega) (by omega) (P := 1) rfl (by omega) (by omega) (by omega) (by omega)]
    rintro ⟨⟨z1, z2, z3⟩, z4, z5⟩
    exact q ⟨z1, by omega, by omega⟩
