theorem cn_split (p : Nat → Prop) [DecidablePred p] (m : Nat) : ∀ n, cn p (m + n) = cn p m + cn (fun i => p (m + i)) n := by
  intro n
  induction n with
  | zero => rw [Nat.add_zero, cn, Int.add_zero]
  | succ n ih =>
    rw [show m + (n + 1) = m + n + 1 by omega, cn, cn, ih]
    split <;> omega
theorem pc8_c : ∀ b, b < 256 → cn (fun i => b.testBit i = true) 8 = pc8 b := by decide +kernel
theorem cn_bits : ∀ k n, cn (fun i => n.testBit i = true) (8 * k) = pcN k n := by
  intro k
  induction k with
  | zero => intro n; rfl
  | succ k ih =>
    intro n
    rw [show 8 * (k + 1) = 8 + 8 * k by omega, cn_split, pcN, Int.natCast_add, ← ih (n / 256), ← pc8_c _ (Nat.mod_lt _ (by omega))]
    congr 1
    · refine cn_cong (fun i hi => ?_)
      rw [show (256 : Nat) = 2 ^ 8 from rfl, Nat.testBit_mod_two_pow]
      simp [hi]
    · refine cn_cong (fun i hi => ?_)
      rw [show (256 : Nat) = 2 ^ 8 from rfl, Nat.testBit_div_two_pow, Nat.add_comm]
theorem s8_1 (s r : Nat) (h : s < 256) : (s + 256 * r) / 256 = r := by omega
theorem s8_2 (s r : Nat) (h : s < 65536) : (s + 65536 * r) / 65536 = r := by omega
theorem s8_3 (s r : Nat) (h : s < 4294967296) : (s + 4294967296 * r) / 4294967296 = r := by omega
theorem s8_4 (s r : Nat) (h : s < 128) : (s + 256 * r) % 4294967296 % 128 = s := by
  rw [Nat.mod_mod_of_dvd _ (by decide : 128 ∣ 4294967296), show s + 256 * r = s + 128 * (2 * r) by omega, Nat.add_mul_mod_self_left, Nat.mod_eq_of_lt h]
theorem s8_a {p0 p1 p2 p3 p4 p5 p6 p7 v v1 : Nat} (e : v = p0 + 256 * (p1 + 256 * (p2 + 256 * (p3 + 256 * (p4 + 256 * (p5 + 256 * (p6 + 256 * p7))))))) (e1 : v1 = v + (p1 + 256 * (p2 + 256 * (p3 + 256 * (p4 + 256 * (p5 + 256 * (p6 + 256 * p7))))))) : v1 = ((p0 + p1) + 256 * (p1 + p2)) + 65536 * ((p2 + p3) + 256 * ((p3 + p4) + 256 * ((p4 + p5) + 256 * ((p5 + p6) + 256 * ((p6 + p7) + 256 * p7))))) := by omega
theorem s8_b {p0 p1 p2 p3 p4 p5 p6 p7 v1 v2 : Nat} (e1 : v1 = ((p0 + p1) + 256 * (p1 + p2)) + 65536 * ((p2 + p3) + 256 * ((p3 + p4) + 256 * ((p4 + p5) + 256 * ((p5 + p6) + 256 * ((p6 + p7) + 256 * p7)))))) (e2 : v2 = v1 + ((p2 + p3) + 256 * ((p3 + p4) + 256 * ((p4 + p5) + 256 * ((p5 + p6) + 256 * ((p6 + p7) + 256 * p7)))))) : v2 = ((p0 + p1 + p2 + p3) + 256 * ((p1 + p2 + p3 + p4) + 256 * ((p2 + p3 + p4 + p5) + 256 * (p3 + p4 + p5 + p6)))) + 4294967296 * ((p4 + p5 + p6 + p7) + 256 * ((p5 + p6 + p7) + 256 * ((p6 + p7) + 256 * p7))) := by omega
theorem s8_c {p0 p1 p2 p3 p4 p5 p6 p7 v2 v3 : Nat} (e2 : v2 = ((p0 + p1 + p2 + p3) + 256 * ((p1 + p2 + p3 + p4) + 256 * ((p2 + p3 + p4 + p5) + 256 * (p3 + p4 + p5 + p6)))) + 4294967296 * ((p4 + p5 + p6 + p7) + 256 * ((p5 + p6 + p7) + 256 * ((p6 + p7) + 256 * p7)))) (e3 : v3 = v2 + ((p4 + p5 + p6 + p7) + 256 * ((p5 + p6 + p7) + 256 * ((p6 + p7) + 256 * p7)))) : v3 = (p0 + p1 + p2 + p3 + p4 + p5 + p6 + p7) + 256 * (((p1 + p2 + p3 + p4) + 256 * ((p2 + p3 + p4 + p5) + 256 * ((p3 + p4 + p5 + p6) + 256 * ((p4 + p5 + p6 + p7) + 256 * ((p5 + p6 + p7) + 256 * ((p6 + p7) + 256 * p7)))))) + ((p5 + p6 + p7) + 256 * ((p6 + p7) + 256 * p7))) := by omega
theorem s8_bd {p0 p1 p2 p3 p4 p5 p6 p7 v v1 v2 v3 : Nat} (h0 : p0 ≤ 8) (h1 : p1 ≤ 8) (h2 : p2 ≤ 8) (h3 : p3 ≤ 8) (h4 : p4 ≤ 8) (h5 : p5 ≤ 8) (h6 : p6 ≤ 8) (h7 : p7 ≤ 8) (e : v = p0 + 256 * (p1 + 256 * (p2 + 256 * (p3 + 256 * (p4 + 256 * (p5 + 256 * (p6 + 256 * p7))))))) (e1 : v1 = v + v / 256) (e2 : v2 = v1 + v1 / 65536) (e3 : v3 = v2 + v2 / 4294967296) : v < 1152921504606846976 ∧ v1 < 2305843009213693952 ∧ v2 < 4611686018427387904 ∧ v3 < 9223372036854775808 := by
  have : v < 1152921504606846976 := by clear e1 e2 e3; omega
  clear e
  have : v1 < 2305843009213693952 := by clear e2 e3; omega
  have : v2 < 4611686018427387904 := by clear e3 e1; omega
  have : v3 < 9223372036854775808 := by clear e2 e1; omega
  refine ⟨by assumption, by assumption, by assumption, by assumption⟩
theorem s8_end {p0 p1 p2 p3 p4 p5 p6 p7 v v1 v2 v3 : Nat} (h0 : p0 ≤ 8) (h1 : p1 ≤ 8) (h2 : p2 ≤ 8) (h3 : p3 ≤ 8) (h4 : p4 ≤ 8) (h5 : p5 ≤ 8) (h6 : p6 ≤ 8) (h7 : p7 ≤ 8) (e : v = p0 + 256 * (p1 + 256 * (p2 + 256 * (p3 + 256 * (p4 + 256 * (p5 + 256 * (p6 + 256 * p7))))))) (e1 : v1 = v + v / 256) (e2 : v2 = v1 + v1 / 65536) (e3 : v3 = v2 + v2 / 4294967296) : v3 % 4294967296 % 128 = p0 + p1 + p2 + p3 + p4 + p5 + p6 + p7 := by
  have q1 : v / 256 = p1 + 256 * (p2 + 256 * (p3 + 256 * (p4 + 256 * (p5 + 256 * (p6 + 256 * p7))))) := by rw [e]; exact s8_1 _ _ (by omega)
  rw [q1] at e1
  have f1 := s8_a e e1
  have q2 : v1 / 65536 = (p2 + p3) + 256 * ((p3 + p4) + 256 * ((p4 + p5) + 256 * ((p5 + p6) + 256 * ((p6 + p7) + 256 * p7)))) := by rw [f1]; exact s8_2 _ _ (by clear e e1 e2 e3 f1 q1; omega)
  rw [q2] at e2
  have f2 := s8_b f1 e2
  have q3 : v2 / 4294967296 = (p4 + p5 + p6 + p7) + 256 * ((p5 + p6 + p7) + 256 * ((p6 + p7) + 256 * p7)) := by rw [f2]; exact s8_3 _ _ (by clear e e1 e2 e3 f1 f2 q1 q2; omega)
  rw [q3] at e3
  have f3 := s8_c f2 e3
  rw [f3]
  exact s8_4 _ _ (by clear e e1 e2 e3 f1 f2 f3 q1 q2 q3; omega)
theorem lN_div {n k : Nat} (hn : n < 2 ^ 64) (hk : k < 64) : ((lN n).toUInt64 >>> ((Int32.toInt64 (nI k)).toUInt64 &&& Int64.toUInt64 63)).toInt64 = lN (n / 2 ^ k) := wb_shr hn hk
theorem nI_127 (a : Nat) : nI a &&& 127 = nI (a % 4294967296 % 128) := by
  apply Int32.toBitVec_inj.mp
  rw [Int32.toBitVec_and]
  show BitVec.ofNat 32 a &&& BitVec.ofNat 32 127 = BitVec.ofNat 32 _
  apply BitVec.eq_of_toNat_eq
  rw [BitVec.toNat_and, BitVec.toNat_ofNat, BitVec.toNat_ofNat, BitVec.toNat_ofNat, show 127 % 2 ^ 32 = 2 ^ 7 - 1 from rfl, Nat.and_two_pow_sub_one_eq_mod, show (2 : Nat) ^ 32 = 4294967296 from rfl, show (2 : Nat) ^ 7 = 128 from rfl, Nat.mod_eq_of_lt (a := a % 4294967296 % 128) (by omega)]
theorem L_bits {n : Nat} (hn : n < 2 ^ 64) : f_L_bitCount (lN n) = some (nI (pcN 8 n)) := by
  have hn8 : n < 256 ^ 8 := hn
  have b1 : ∀ m, m < 2 ^ 64 → ((lN m).toUInt64 >>> ((Int32.toInt64 1).toUInt64 &&& Int64.toUInt64 63)).toInt64 = lN (m / 2) := fun m h => wb_shr (k := 1) h (by omega)
  have b2 : ∀ m, m < 2 ^ 64 → ((lN m).toUInt64 >>> ((Int32.toInt64 2).toUInt64 &&& Int64.toUInt64 63)).toInt64 = lN (m / 4) := fun m h => wb_shr (k := 2) h (by omega)
  have b4 : ∀ m, m < 2 ^ 64 → ((lN m).toUInt64 >>> ((Int32.toInt64 4).toUInt64 &&& Int64.toUInt64 63)).toInt64 = lN (m / 16) := fun m h => wb_shr (k := 4) h (by omega)
  have b8 : ∀ m, m < 2 ^ 64 → ((lN m).toUInt64 >>> ((Int32.toInt64 8).toUInt64 &&& Int64.toUInt64 63)).toInt64 = lN (m / 256) := fun m h => wb_shr (k := 8) h (by omega)
  have b16 : ∀ m, m < 2 ^ 64 → ((lN m).toUInt64 >>> ((Int32.toInt64 16).toUInt64 &&& Int64.toUInt64 63)).toInt64 = lN (m / 65536) := fun m h => wb_shr (k := 16) h (by omega)
  have b32 : ∀ m, m < 2 ^ 64 → ((lN m).toUInt64 >>> ((Int32.toInt64 32).toUInt64 &&& Int64.toUInt64 63)).toInt64 = lN (m / 4294967296) := fun m h => wb_shr (k := 32) h (by omega)
  have m5 : (6148914691236517205 : Int64) = lN (mm 85 8) := by decide +kernel
  have m3 : (3689348814741910323 : Int64) = lN (mm 51 8) := by decide +kernel
  have m1 : (1085102592571150095 : Int64) = lN (mm 15 8) := by decide +kernel
  have c5 : mm 85 8 < 2 ^ 64 := by decide +kernel
  have c3 : mm 51 8 < 2 ^ 64 := by decide +kernel
  have c1 : mm 15 8 < 2 ^ 64 := by decide +kernel
  have l1 : dd s1 8 n < 2 ^ 64 := dd_lt (fun b hb => (s1_c b hb).1) 8 n
  have e1 : n - (n / 2 &&& mm 85 8) = dd s1 8 n := by
    rw [dd1a 8 n hn8]
    have h := dd_sub (f := fun b => b) (g := fun b => b / 2 &&& 85) (fun b hb => (s1_c b hb).2.2) 8 n
    rw [dd_id 8 n hn8] at h
    exact h
  have e1' : (n / 2 &&& mm 85 8) ≤ n := by
    rw [dd1a 8 n hn8]
    have h := dd_le (f := fun b => b / 2 &&& 85) (g := fun b => b) (fun b hb => (s1_c b hb).2.2) 8 n
    rw [dd_id 8 n hn8] at h
    exact h
  have l2 : dd s2 8 (dd s1 8 n) < 2 ^ 64 := dd_lt (fun b hb => (s2_c b hb).1) 8 _
  have e2 : (dd s1 8 n &&& mm 51 8) + (dd s1 8 n / 4 &&& mm 51 8) = dd s2 8 (dd s1 8 n) := by
    rw [dd2a 8 _ l1, dd2b 8 _ l1, dd_add]
    rfl
  have e2' : dd s2 8 (dd s1 8 n) = dd (fun b => s2 (s1 b)) 8 n := dd_comp (fun b hb => (s1_c b hb).1) 8 n
  have e3 : (dd s2 8 (dd s1 8 n) + dd s2 8 (dd s1 8 n) / 16 &&& mm 15 8) = dd pc8 8 n := by
    rw [e2', dd3 (f := fun b => s2 (s1 b)) (fun b hb => ⟨(s12_c b hb).1, (s12_c b hb).2.1, (s12_c b hb).2.2.1⟩) 8 n]
    exact dd_cong (fun b hb => (s12_c b hb).2.2.2) 8 n
  have l3 : dd s2 8 (dd s1 8 n) + dd s2 8 (dd s1 8 n) / 16 < 2 ^ 64 := by
    have h : dd s2 8 (dd s1 8 n) ≤ dd (fun _ => 68) 8 n := by
      rw [e2']
      exact dd_le (fun b hb => by have := s12_c b hb; omega) 8 n
    have h2 : dd (fun _ => 68) 8 n = 4919131752989213764 := by simp only [dd]
    rw [h2] at h
    omega
  have key : ∀ p0 p1 p2 p3 p4 p5 p6 p7 v : Nat, p0 ≤ 8 → p1 ≤ 8 → p2 ≤ 8 → p3 ≤ 8 → p4 ≤ 8 → p5 ≤ 8 → p6 ≤ 8 → p7 ≤ 8 → v = p0 + 256 * (p1 + 256 * (p2 + 256 * (p3 + 256 * (p4 + 256 * (p5 + 256 * (p6 + 256 * p7)))))) → (bnd (lN v + (((lN v).toUInt64 >>> ((Int32.toInt64 8).toUInt64 &&& Int64.toUInt64 63)).toInt64)) (fun x0_v40 => bnd (x0_v40 + ((x0_v40.toUInt64 >>> ((Int32.toInt64 16).toUInt64 &&& Int64.toUInt64 63)).toInt64)) (fun x0_v47 => bnd (x0_v47 + ((x0_v47.toUInt64 >>> ((Int32.toInt64 32).toUInt64 &&& Int64.toUInt64 63)).toInt64)) (fun x0_v54 => some ((Int64.toInt32 x0_v54) &&& 127))))) = some (nI (p0 + p1 + p2 + p3 + p4 + p5 + p6 + p7)) := by
    intro p0 p1 p2 p3 p4 p5 p6 p7 v h0 h1 h2 h3 h4 h5 h6 h7 e
    obtain ⟨g1, g2, g3, g4⟩ := s8_bd h0 h1 h2 h3 h4 h5 h6 h7 e rfl rfl rfl
    have g5 := s8_end h0 h1 h2 h3 h4 h5 h6 h7 e rfl rfl rfl
    rw [b8 v (Nat.lt_trans g1 (by decide)), lN_add, bnd_s, b16 _ (Nat.lt_trans g2 (by decide)), lN_add, bnd_s, b32 _ (Nat.lt_trans g3 (by decide)), lN_add, bnd_s, lN_i, nI_127, g5]
  unfold f_L_bitCount
  rw [b1 n hn, m5, wb_and (Nat.lt_of_le_of_lt (Nat.div_le_self _ _) hn) c5, lN_sub e1', e1, bnd_s, b2 _ l1, m3, wb_and l1 c3, wb_and (Nat.lt_of_le_of_lt (Nat.div_le_self _ _) l1) c3, lN_add, e2, bnd_s, b4 _ l2, lN_add, m1, wb_and l3 c1, e3, bnd_s]
  rw [key (pc8 (n % 256)) (pc8 (n / 256 % 256)) (pc8 (n / 256 / 256 % 256)) (pc8 (n / 256 / 256 / 256 % 256)) (pc8 (n / 256 / 256 / 256 / 256 % 256)) (pc8 (n / 256 / 256 / 256 / 256 / 256 % 256)) (pc8 (n / 256 / 256 / 256 / 256 / 256 / 256 % 256)) (pc8 (n / 256 / 256 / 256 / 256 / 256 / 256 / 256 % 256)) (dd pc8 8 n) (pc8_le _) (pc8_le _) (pc8_le _) (pc8_le _) (pc8_le _) (pc8_le _) (pc8_le _) (pc8_le _) (by simp only [dd, Nat.mul_zero, Nat.add_zero])]
  simp only [pcN, Nat.add_zero, Nat.add_assoc]
theorem L_pop {n : Nat} (hn : n < 2 ^ 40) : f_L_bitCount (lN n) = some (iI (cn (fun i => n.testBit i = true) 40)) := by
  rw [L_bits (Nat.lt_trans hn (by decide)), ← iI_nat, ← cn_bits 8 n]
  rw [show 8 * 8 = 64 from rfl, cn_ext (n := 40) (m := 64) (by omega) (fun k h1 h2 h3 => ?_)]
  rw [Nat.testBit_lt_two_pow (Nat.lt_of_lt_of_le hn (Nat.pow_le_pow_right (by omega) h1))] at h3
  exact absurd h3 (by decide)
