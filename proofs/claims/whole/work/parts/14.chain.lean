/-! the reference's chains -/
theorem M_par {a : Nat → Int} (hw : WF a) {z : Int} (h : ok a z) (h0 : 0 ≤ z) : f_M_of (Q a) (iI z) 3 = some (iI (nx a z)) := by
  have := hw.b2
  obtain ⟨m, rfl⟩ := Int.eq_ofNat_of_zero_le h0
  unfold ok at h
  rw [M_of3 a (by omega), nx_nat]
theorem M_wr {a : Nat → Int} (hw : WF a) {z : Int} (h : ok a z) (h0 : 0 ≤ z) : f_M_of (Q a) (iI z) 4 = some (iI (wr a z)) := by
  have := hw.b2
  obtain ⟨m, rfl⟩ := Int.eq_ofNat_of_zero_le h0
  unfold ok at h
  rw [M_of4 a (by omega), wr_nat]
theorem M_cd {a : Nat → Int} (hw : WF a) {z : Int} (h : ok a z) (h0 : 0 ≤ z) : f_M_of (Q a) (iI z) 0 = some (iI (cd a z)) := by
  have := hw.b2
  obtain ⟨m, rfl⟩ := Int.eq_ofNat_of_zero_le h0
  unfold ok at h
  rw [M_of0 a (by omega), cd_nat]
theorem M_hs {a : Nat → Int} (hw : WF a) {z : Int} (h : ok a z) (h0 : 0 ≤ z) : f_M_of (Q a) (iI z) 1 = some (iI (hs a z)) := by
  have := hw.b2
  obtain ⟨m, rfl⟩ := Int.eq_ofNat_of_zero_le h0
  unfold ok at h
  rw [M_of1 a (by omega), hs_nat]
theorem M_kk {a : Nat → Int} (hw : WF a) {z : Int} (h : ok a z) (h0 : 0 ≤ z) : f_M_of (Q a) (iI z) 2 = some (iI (kk a z)) := by
  have := hw.b2
  obtain ⟨m, rfl⟩ := Int.eq_ofNat_of_zero_le h0
  unfold ok at h
  rw [M_of2 a (by omega), kk_nat]
theorem iI_neg0 {z : Int} (h : sm z) : (iI z < 0) ↔ z < 0 := by rw [l_0, iI_lt h.1 h.2 (by omega) (by omega)]
theorem M_rootOf {a : Nat → Int} (hw : WF a) {i : Int} (hi : ok a i) (h0 : 0 ≤ i) : f_M_rootOf (Q a) (iI i) = some (iI (rt a i)) := by
  have l40 := ln_40 hw hi
  have l1 := ln_pos hw hi h0
  unfold f_M_rootOf
  refine seq1 (body := f_M_rootOf_2 (Q a)) (fun k => iI (an a i k)) (ln a i - 1) (fun k => ?_) (fun m hm k => ?_) FUEL 0 (Nat.zero_le _) (fuel_lt (by omega))
  · unfold f_M_rootOf_2
    have hs := sm_an hw hi (ln a i - 1 + 1)
    rw [M_par hw (an_ok hw hi _) (ln_in hw hi (by omega)), cal_some, if_pos]
    · rfl
    · rw [← an_s, iI_neg0 (by omega), show ln a i - 1 + 1 = ln a i by omega, ln_end hw hi]
      omega
  · unfold f_M_rootOf_2
    have hs := sm_an hw hi (m + 1)
    have h1 := ln_in hw hi (show m + 1 < ln a i by omega)
    rw [M_par hw (an_ok hw hi _) (ln_in hw hi (by omega)), cal_some, cal_some, if_neg]
    · rfl
    · rw [← an_s, iI_neg0 (by omega)]
      omega
theorem M_generation {a : Nat → Int} (hw : WF a) {i : Int} (hi : ok a i) (h0 : 0 ≤ i) : f_M_generation (Q a) (iI i) = some (iI (ln a i - 1)) := by
  have l40 := ln_40 hw hi
  have l1 := ln_pos hw hi h0
  unfold f_M_generation
  refine seq2 (body := f_M_generation_4 (Q a)) (fun k : Nat => iI k) (fun k => iI (an a i k)) (ln a i - 1) (fun k => ?_) (fun m hm k => ?_) FUEL 0 (Nat.zero_le _) (fuel_lt (by omega))
  · unfold f_M_generation_4
    have hs := sm_an hw hi (ln a i - 1 + 1)
    rw [M_par hw (an_ok hw hi _) (ln_in hw hi (by omega)), cal_some, if_pos]
    · rw [show ((ln a i - 1 : Nat) : Int) = (ln a i : Int) - 1 by omega]
    · rw [← an_s, iI_neg0 (by omega), show ln a i - 1 + 1 = ln a i by omega, ln_end hw hi]
      omega
  · unfold f_M_generation_4
    have hs := sm_an hw hi (m + 1)
    have h1 := ln_in hw hi (show m + 1 < ln a i by omega)
    rw [M_par hw (an_ok hw hi _) (ln_in hw hi (by omega)), cal_some, cal_some, if_neg, l_1, iI_add]
    · rfl
    · rw [← an_s, iI_neg0 (by omega)]
      omega
theorem M_wrongBits {a : Nat → Int} (hw : WF a) {i : Int} (hi : ok a i) : f_M_wrongBits (Q a) (iI i) = some (iI (swb a i (ln a i))) := by
  have l40 := ln_40 hw hi
  unfold f_M_wrongBits
  refine seq2 (body := f_M_wrongBits_4 (Q a)) (fun k : Nat => iI (swb a i k)) (fun k => iI (an a i k)) (ln a i) (fun k => ?_) (fun m hm k => ?_) FUEL 0 (Nat.zero_le _) (fuel_lt (by omega))
  · unfold f_M_wrongBits_4
    rw [ln_end hw hi, if_pos (by rw [iI_neg0 (by omega)]; omega)]
  · unfold f_M_wrongBits_4 f_M_wrongBits_23
    have hk := ln_in hw hi hm
    have hs := sm_an hw hi m
    have hwr := wr_sm hw (an_ok hw hi m)
    rw [if_neg (by rw [iI_neg0 (by omega)]; omega), M_wr hw (an_ok hw hi m) hk, cal_some, M_par hw (an_ok hw hi m) hk, bnd_s, bnd_s, cal_some, cal_some, l_1, iI_add, swb]
    simp only [iI_neg0 (show sm (wr a (an a i m)) by omega)]
    split
    · rw [if_neg (by omega), l_0, iI_add, Int.add_zero]
      rfl
    · rw [if_pos (by omega)]
      rfl
theorem M_isInChain {a : Nat → Int} (hw : WF a) {v i : Int} (hi : ok a i) (h0 : 0 ≤ v) (h1 : v < 2147483648) : (inC a v i ∧ f_M_isInChain (Q a) (iI v) (iI i) = some 1) ∨ (¬ inC a v i ∧ f_M_isInChain (Q a) (iI v) (iI i) = some 0) := by
  have l40 := ln_40 hw hi
  have q : ∃ k, k < ln a i + 1 ∧ an a i k ≤ v := ⟨ln a i, by omega, by rw [ln_end hw hi]; omega⟩
  obtain ⟨d, hd, hd2, hd3⟩ := fb_least q
  have hs := sm_an hw hi d
  have run : f_M_isInChain (Q a) (iI v) (iI i) = if an a i d = v then some 1 else some 0 := by
    unfold f_M_isInChain
    refine seq1 (body := f_M_isInChain_2 (Q a) (iI v)) (fun k => iI (an a i k)) d (fun k => ?_) (fun m hm k => ?_) FUEL 0 (Nat.zero_le _) (fuel_lt (by omega))
    · unfold f_M_isInChain_2
      rw [if_pos (by rw [iI_le (by omega) (by omega) (by omega) (by omega)]; exact hd2)]
      by_cases c : an a i d = v
      · rw [if_neg (by rw [c]; exact fun z => z rfl), if_pos c]
      · rw [if_pos (by rw [iI_eq (by omega) (by omega) (by omega) (by omega)]; exact c), if_neg c]
    · have hs := sm_an hw hi m
      have hk := ln_in hw hi (show m < ln a i by omega)
      have := hd3 m hm
      unfold f_M_isInChain_2
      rw [if_neg (by rw [iI_le (by omega) (by omega) (by omega) (by omega)]; omega), M_par hw (an_ok hw hi m) hk, cal_some]
      rfl
  rw [run]
  by_cases c : an a i d = v
  · exact Or.inl ⟨⟨h0, d, c⟩, if_pos c⟩
  · refine Or.inr ⟨?_, if_neg c⟩
    rintro ⟨_, k, hk⟩
    rcases Nat.lt_trichotomy k d with r | r | r
    · exact hd3 k r (by omega)
    · rw [r] at hk; exact c hk
    · obtain ⟨e, rfl⟩ : ∃ e, k = d + e := ⟨k - d, by omega⟩
      have := an_le hw (an_ok hw hi d) e (by rw [an_add]; omega)
      rw [an_add] at this
      omega
/-! how far apart two codes are -/
def pc12 (n : Nat) : Nat := n % 2 + n / 2 % 2 + n / 4 % 2 + n / 8 % 2 + n / 16 % 2 + n / 32 % 2 + n / 64 % 2 + n / 128 % 2 + n / 256 % 2 + n / 512 % 2 + n / 1024 % 2 + n / 2048 % 2
theorem pc12_le (n : Nat) : pc12 n ≤ 12 := by unfold pc12; omega
set_option maxRecDepth 100000 in
theorem pcI_c : ∀ n, n < 4096 → f_I_bitCount (nI n) = some (nI (pc12 n)) := by decide +kernel
set_option maxRecDepth 100000 in
theorem pc_k : ∀ n, n < 4096 → n ≠ 0 → (nI n &&& (nI n - 1)) = nI (n &&& (n - 1)) ∧ pc12 (n &&& (n - 1)) + 1 = pc12 n ∧ n &&& (n - 1) < n := by decide +kernel
theorem pc_M : ∀ (f n : Nat) (c : Int), n < 4096 → pc12 n < f → rl2 f_M_apart_6 f (iI c) (nI n) = some (iI (c + pc12 n)) := by
  intro f
  induction f with
  | zero => intro n c _ h; exact absurd h (Nat.not_lt_zero _)
  | succ f ih =>
    intro n c hn hf
    rw [rl2, f_M_apart_6]
    by_cases z : n = 0
    · subst z
      rw [if_pos (by rfl), show (pc12 0 : Int) = 0 from rfl, Int.add_zero]
    · obtain ⟨e1, e2, e3⟩ := pc_k n hn z
      rw [if_neg (fun h => z (by rw [l_0, ← iI_nat, iI_eq (by omega) (by omega) (by omega) (by omega)] at h; omega)), bnd_s, e1, l_1, iI_add, ih _ _ (by omega) (by omega)]
      congr 2
      omega
def ap (x y : Int) : Int := pc12 (x.toNat ^^^ y.toNat)
theorem ap_le (x y : Int) : 0 ≤ ap x y ∧ ap x y ≤ 12 := by
  have := pc12_le (x.toNat ^^^ y.toNat)
  unfold ap
  omega
theorem ap_x {x y : Int} (h1 : 0 ≤ x) (h2 : x < 4096) (h3 : 0 ≤ y) (h4 : y < 4096) : iI x ^^^ iI y = nI (x.toNat ^^^ y.toNat) ∧ x.toNat ^^^ y.toNat < 4096 := by
  obtain ⟨n, rfl⟩ := Int.eq_ofNat_of_zero_le h1
  obtain ⟨m, rfl⟩ := Int.eq_ofNat_of_zero_le h3
  refine ⟨by rw [iI_nat, iI_nat, nx_xor]; rfl, ?_⟩
  exact Nat.xor_lt_two_pow (n := 12) (by omega) (by omega)
theorem M_apart {x y : Int} (h1 : 0 ≤ x) (h2 : x < 4096) (h3 : 0 ≤ y) (h4 : y < 4096) : f_M_apart (iI x) (iI y) = some (iI (ap x y)) := by
  obtain ⟨e1, e2⟩ := ap_x h1 h2 h3 h4
  unfold f_M_apart
  rw [e1, l_0, pc_M FUEL _ 0 e2 (by have := pc12_le (x.toNat ^^^ y.toNat); exact fuel_gt (by omega)), Int.zero_add]
  rfl
theorem I_apart {x y : Int} (h1 : 0 ≤ x) (h2 : x < 4096) (h3 : 0 ≤ y) (h4 : y < 4096) : f_I_bitCount (iI x ^^^ iI y) = some (iI (ap x y)) := by
  obtain ⟨e1, e2⟩ := ap_x h1 h2 h3 h4
  rw [e1, pcI_c _ e2]
  rfl
theorem TR_apart {x y : Int} (h1 : 0 ≤ x) (h2 : x < 4096) (h3 : 0 ≤ y) (h4 : y < 4096) : f_TR_apart (iI x) (iI y) = some (iI (ap x y)) := by
  unfold f_TR_apart
  rw [I_apart h1 h2 h3 h4, cal_some]
theorem ap_self (x : Int) : ap x x = 0 := by
  unfold ap
  rw [Nat.xor_self]
  rfl
/-! the noise -/
def nextx (x : Int64) : Int64 := (x * 6364136223846793005) + 1442695040888963407
def rr (x : Int64) : Int := (Int64.toInt32 ((x.toUInt64 >>> ((Int32.toInt64 33).toUInt64 &&& Int64.toUInt64 63)).toInt64)).toInt
theorem rr_b (x : Int64) : 0 ≤ rr x ∧ rr x < 2147483648 := by
  obtain ⟨n, hn, rfl⟩ := wb_of x
  unfold rr
  rw [show (33 : Int32) = nI 33 from rfl, wb_shr hn (by omega), lN_i, nI_toInt (by omega)]
  omega
def wb (x : Int64) (nd : Int) : Int := if nd ≤ rr x % 10 then -1 else rr x / 16 % 12
theorem wb_b (x : Int64) (nd : Int) : -1 ≤ wb x nd ∧ wb x nd < 12 := by
  have := rr_b x
  unfold wb
  split <;> omega
theorem Noi_wrongBit (x : Int64) {n d : Int} (h1 : 0 ≤ n) (h2 : n ≤ 3) (h3 : 0 ≤ d) (h4 : d ≤ 9) : f_Noi_wrongBit x (iI n) (iI d) = some (n9 (wb x (n * d))) := by
  have hr := rr_b x
  have hm : 0 ≤ n * d ∧ n * d ≤ 27 := ⟨Int.mul_nonneg h1 h3, by have := Int.mul_le_mul h2 h4 h3 (by omega); omega⟩
  unfold f_Noi_wrongBit
  rw [bnd_s, ← T_iI (Int64.toInt32 ((x.toUInt64 >>> ((Int32.toInt64 33).toUInt64 &&& Int64.toUInt64 63)).toInt64))]
  show (if iI n * iI d ≤ iI (rr x) - iI (rr x) / 10 * 10 then some (-9) else some (iI (rr x) / 16 - iI (rr x) / 16 / 12 * 12)) = _
  rw [iI_mul, l_10, iI_rem hr.1 hr.2 (by omega) (by omega), l_16, iI_div hr.1 hr.2 (by omega) (by omega), l_12, iI_rem (by omega) (by omega) (by omega) (by omega)]
  simp only [iI_le (show -2147483648 ≤ n * d by omega) (show n * d < 2147483648 by omega) (show -2147483648 ≤ rr x % 10 by omega) (show rr x % 10 < 2147483648 by omega)]
  unfold wb
  split
  · rfl
  · rw [n9_pos (by omega)]
theorem M_wrongBit (x : Int64) {a : Nat → Int} (hw : WF a) {d : Int} (h3 : 0 ≤ d) (h4 : d ≤ 9) : f_M_wrongBit (Q a) x (iI d) = some (iI (wb (nextx x) (a 3 * d)), nextx x) := by
  have hn := hw.b3
  have hr := rr_b (nextx x)
  have hm : 0 ≤ a 3 * d ∧ a 3 * d ≤ 27 := ⟨Int.mul_nonneg hn.1 h3, by have := Int.mul_le_mul hn.2 h4 h3 (by omega); omega⟩
  unfold f_M_wrongBit
  rw [bnd_s]
  show (if Q a 3 * iI d ≤ (Int64.toInt32 (((nextx x).toUInt64 >>> ((Int32.toInt64 33).toUInt64 &&& Int64.toUInt64 63)).toInt64)) - (Int64.toInt32 (((nextx x).toUInt64 >>> ((Int32.toInt64 33).toUInt64 &&& Int64.toUInt64 63)).toInt64)) / 10 * 10 then some (-1, nextx x) else some ((Int64.toInt32 (((nextx x).toUInt64 >>> ((Int32.toInt64 33).toUInt64 &&& Int64.toUInt64 63)).toInt64)) / 16 - (Int64.toInt32 (((nextx x).toUInt64 >>> ((Int32.toInt64 33).toUInt64 &&& Int64.toUInt64 63)).toInt64)) / 16 / 12 * 12, nextx x)) = _
  rw [← T_iI (Int64.toInt32 (((nextx x).toUInt64 >>> ((Int32.toInt64 33).toUInt64 &&& Int64.toUInt64 63)).toInt64))]
  show (if Q a 3 * iI d ≤ iI (rr (nextx x)) - iI (rr (nextx x)) / 10 * 10 then some (-1, nextx x) else some (iI (rr (nextx x)) / 16 - iI (rr (nextx x)) / 16 / 12 * 12, nextx x)) = _
  rw [Q_at, iI_mul, l_10, iI_rem hr.1 hr.2 (by omega) (by omega), l_16, iI_div hr.1 hr.2 (by omega) (by omega), l_12, iI_rem (by omega) (by omega) (by omega) (by omega)]
  simp only [iI_le (show -2147483648 ≤ a 3 * d by omega) (show a 3 * d < 2147483648 by omega) (show -2147483648 ≤ rr (nextx x) % 10 by omega) (show rr (nextx x) % 10 < 2147483648 by omega)]
  unfold wb
  split <;> rfl
def chg (c b : Int) : Int := if b < 0 then c else ((c.toNat ^^^ 2 ^ b.toNat : Nat) : Int)
theorem two_b : ∀ n, n < 12 → (1 : Int32) <<< (nI n &&& 31) = nI (2 ^ n) := by decide +kernel
theorem chg_b {c b : Int} (h1 : 0 ≤ c) (h2 : c < 4096) (h3 : b < 12) : 0 ≤ chg c b ∧ chg c b < 4096 := by
  unfold chg
  split
  · omega
  · have : c.toNat ^^^ 2 ^ b.toNat < 2 ^ 12 := Nat.xor_lt_two_pow (by omega) (Nat.pow_lt_pow_right (by omega) (by omega))
    omega
theorem chg_x {c b : Int} (h1 : 0 ≤ c) (h2 : 0 ≤ b) (h3 : b < 12) : iI c ^^^ (1 <<< (iI b &&& 31)) = iI (chg c b) := by
  obtain ⟨n, rfl⟩ := Int.eq_ofNat_of_zero_le h1
  obtain ⟨m, rfl⟩ := Int.eq_ofNat_of_zero_le h2
  unfold chg
  rw [if_neg (by omega), iI_nat, iI_nat, two_b m (by omega), nx_xor]
  rfl
theorem Noi_changed {c b : Int} (h1 : 0 ≤ c) (h2 : -1 ≤ b) (h3 : b < 12) : f_Noi_changed (iI c) (n9 b) = some (iI (chg c b)) := by
  unfold f_Noi_changed
  by_cases q : b < 0
  · rw [if_neg (by rw [n9_neg q]; exact fun z => z (by rfl))]
    unfold chg
    rw [if_pos q]
  · rw [if_pos (by rw [l_9, iI_neg, n9_eq (by omega)]; exact q), n9_pos (by omega), chg_x h1 (by omega) h3]
theorem M_changed {c b : Int} (h1 : 0 ≤ c) (h2 : -1 ≤ b) (h3 : b < 12) : f_M_changed (iI c) (iI b) = some (iI (chg c b)) := by
  unfold f_M_changed
  by_cases q : b < 0
  · rw [if_neg (by rw [l_0, iI_le (by omega) (by omega) (by omega) (by omega)]; omega)]
    unfold chg
    rw [if_pos q]
  · rw [if_pos (by rw [l_0, iI_le (by omega) (by omega) (by omega) (by omega)]; omega), chg_x h1 (by omega) h3]
def di (a b : Int) : Int := if b ≤ a then a - b else b - a
theorem M_far {x y : Int} (h1 : sm x) (h2 : sm y) : f_M_far (iI x) (iI y) = some (iI (di x y)) := by
  unfold f_M_far
  simp only [iI_le h2.1 h2.2 h1.1 h1.2, iI_sub]
  unfold di
  split <;> rfl
theorem iabs_di {x y : Int} (h1 : sm (x - y)) : iabs (iI x - iI y) = iI (di x y) := by
  unfold iabs di
  rw [iI_sub, l_0, iI_sub]
  simp only [iI_le (show -2147483648 ≤ (0 : Int) by omega) (by omega) h1.1 h1.2]
  split
  · rw [if_pos (by omega)]
  · rw [if_neg (by omega)]
    congr 1
    omega
theorem Noi_next (x : Int64) : f_Noi_next x = some (nextx x) := rfl
theorem Noi_learned (x : Int64) {c n d : Int} (h0 : 0 ≤ c) (h1 : 0 ≤ n) (h2 : n ≤ 3) (h3 : 0 ≤ d) (h4 : d ≤ 9) : f_Noi_learned (iI c) x (iI n) (iI d) = some (iI (chg c (wb x (n * d)))) := by
  have := wb_b x (n * d)
  unfold f_Noi_learned
  rw [Noi_wrongBit x h1 h2 h3 h4, cal_some, Noi_changed h0 this.1 this.2, cal_some]
