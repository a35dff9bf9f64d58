/-! all keys in a row -/
theorem kcl {m : Nat} (h : m < 2147483648) : (iI (m : Int)).toNatClampNeg = m := by rw [iI_cl (by omega) (by omega)]; omega
theorem k54 {m : Nat} (h : m < 54) : ¬ (iI (m : Int) < 0 ∨ 54 ≤ (iI (m : Int)).toNatClampNeg) := by
  rw [kcl (by omega), l_0, iI_lt (by omega) (by omega) (by omega) (by omega)]
  omega
theorem mcl {m : Nat} (h : m < 54) : (5 + iI (m : Int)).toNatClampNeg = 5 + m := by
  rw [l_5, iI_add, iI_cl (by omega) (by omega)]
  omega
theorem m54 {m : Nat} (h : m < 54) : ¬ (5 + iI (m : Int) < 0 ∨ 283 ≤ (5 + iI (m : Int)).toNatClampNeg) := by
  rw [mcl h, l_5, l_0, iI_add, iI_lt (by omega) (by omega) (by omega) (by omega)]
  omega
theorem iI_s (m : Nat) : iI (m : Int) + 1 = iI ((m + 1 : Nat) : Int) := by
  rw [l_1, iI_add]
  rfl
theorem iI_p0 (z : Int) : iI z + 0 = iI z := by rw [l_0, iI_add, Int.add_zero]
theorem iI_p1 (z : Int) : iI z + 1 = iI (z + 1) := by rw [l_1, iI_add]
theorem iI_nle {n : Int} {m : Nat} (h1 : -2147483648 ≤ n) (h2 : n < 2147483648) (h3 : (m : Int) < n) : ¬ (iI n ≤ iI (m : Int)) := by
  rw [iI_le h1 h2 (by omega) (by omega)]
  omega
theorem key_ok {a : Nat → Int} (hw : WF a) {m : Nat} (h : m < 54) : ok a (a (5 + m)) := ⟨(hw.key h).1, (hw.key h).2.1⟩
theorem inC_neg {a : Nat → Int} (hw : WF a) {v i : Int} (hi : ok a i) (h : i < 0) : ¬ inC a v i := by
  rintro ⟨h0, k, hk⟩
  have := (ln_iff hw hi (k := k)).mpr (by omega)
  have := ln_le hw hi
  omega
theorem cn_ext {p : Nat → Prop} [DecidablePred p] {n m : Nat} (h : n ≤ m) (hp : ∀ k, n ≤ k → k < m → ¬ p k) : cn p m = cn p n := by
  induction m with
  | zero =>
    obtain rfl : n = 0 := by omega
    rfl
  | succ m ih =>
    rcases Nat.lt_or_ge m n with q | q
    · obtain rfl : n = m + 1 := by omega
      rfl
    · rw [cn, if_neg (hp m q (by omega)), ih q (fun k h1 h2 => hp k h1 (by omega))]
/-- a count of keys among all 54 is that among the street's -/
theorem cn_keys {a : Nat → Int} (hw : WF a) {p : Nat → Prop} [DecidablePred p] (hp : ∀ k, k < 54 → a (5 + k) < 0 → ¬ p k) : cn p 54 = cn p (6 * (a 0).toNat) := by
  have b0 := hw.b0
  refine cn_ext (by omega) (fun k h1 h2 => hp k h2 ?_)
  have := (hw.key h2).2.2 (by omega)
  omega
theorem Str_keysFrom {c h k p w rk : Nat → Int32} {n : Int32} {a : Nat → Int} (hw : WF a) (hr : RRec c h k p w n a) (hk : RKey rk a) {v : Int} (h0 : 0 ≤ v) (h1 : v < 2147483648) [DecidablePred (fun m => inC a v (a (5 + m)))] : f_Str_keysFrom p n rk (iI v) = some (iI (cn (fun m => inC a v (a (5 + m))) 54)) := by
  unfold f_Str_keysFrom
  refine seq2 (body := f_Str_keysFrom_14 p n rk (iI v)) (fun k : Nat => iI (cn (fun m => inC a v (a (5 + m))) k)) (fun k : Nat => iI k) 54 (fun k => ?_) (fun m hm k => ?_) FUEL 0 (Nat.zero_le _) (fuel_lt (by omega))
  · unfold f_Str_keysFrom_14
    rw [if_pos (by rw [l_54]; exact (iI_le (by omega) (by omega) (by omega) (by omega)).mpr (by omega))]
  · unfold f_Str_keysFrom_14 f_Str_keysFrom_43
    rw [if_neg (by rw [l_54]; exact iI_nle (by omega) (by omega) (by omega)), gd_t (k54 hm), bnd_s, kcl (by omega), hk m hm, iI_s, l_1, iI_add, cn]
    rcases Rec_isInChain hw hr (key_ok hw hm) h0 h1 with ⟨e1, e2⟩ | ⟨e1, e2⟩
    · rw [e2, cal_some, if_neg (by decide), if_pos e1]
    · rw [e2, cal_some, if_pos rfl, if_neg e1]
/-- the keys that a device would accept -/
abbrev kaP (a : Nat → Int) (d : Nat) (m : Nat) : Prop := accP a d ((m / 6 : Nat) : Int) (cd a (a (5 + m))) 8
theorem Str_keysAcceptedBy {c h k p w rk dh dc dt : Nat → Int32} {n dn on : Int32} {a : Nat → Int} (hw : WF a) (hr : RRec c h k p w n a) (hk : RKey rk a) (hd : RDev dh dc dt dn on a) {d : Nat} (hdd : (d : Int) < a 1) : f_Str_keysAcceptedBy c n dh dc dt dn rk (iI (a 0)) (iI d) = some (iI (cn (kaP a d) (6 * (a 0).toNat))) := by
  have b0 := hw.b0
  unfold f_Str_keysAcceptedBy
  refine seq2 (body := f_Str_keysAcceptedBy_4 c n dh dc dt dn rk (iI (a 0)) (iI d)) (fun j : Nat => iI (cn (kaP a d) (6 * j))) (fun j : Nat => iI j) (a 0).toNat (fun f => ?_) (fun j hj f => ?_) FUEL 0 (Nat.zero_le _) (fuel_lt (by omega))
  · unfold f_Str_keysAcceptedBy_4
    rw [if_pos ((iI_le (by omega) (by omega) (by omega) (by omega)).mpr (by omega))]
  · unfold f_Str_keysAcceptedBy_4
    rw [if_neg (iI_nle (by omega) (by omega) (by omega))]
    refine seq3 (body := f_Str_keysAcceptedBy_15 c n dh dc dt dn rk (iI (a 0)) (iI d) f) (fun k : Nat => iI (cn (kaP a d) (6 * j + k))) (fun _ => iI j) (fun k : Nat => iI k) 6 (fun g => ?_) (fun m hm g => ?_) FUEL 0 (Nat.zero_le _) (fuel_lt (by omega))
    · unfold f_Str_keysAcceptedBy_15
      rw [if_pos (by rw [l_6]; exact (iI_le (by omega) (by omega) (by omega) (by omega)).mpr (by omega)), iI_s]
      rfl
    · have hkey : isK a (j : Int) (m : Int) := by omega
      have e := ki_lt hw hkey
      have hz := kr_ok hw hkey
      have ek : kr a (j : Int) (m : Int) = a (5 + (6 * j + m)) := by unfold kr; rw [show ki (j : Int) (m : Int) = 6 * j + m by omega]
      unfold f_Str_keysAcceptedBy_15 f_Str_keysAcceptedBy_46
      rw [if_neg (by rw [l_6]; exact iI_nle (by omega) (by omega) (by omega)), Str_codeOf hw hr hk hkey, cal_some, l_8, Dev_accepts hw hd hdd (by omega) (by omega) (by have := cd_sm hw hz; omega) (by omega) (by omega), cal_some, if_bI, iI_s, l_1, iI_add, show 6 * j + (m + 1) = 6 * j + m + 1 by omega, cn]
      have eq : kaP a d (6 * j + m) ↔ accP a d (j : Int) (cd a (kr a (j : Int) (m : Int))) 8 := by
        rw [ek, kaP, show (6 * j + m) / 6 = j by omega]
      by_cases q : kaP a d (6 * j + m)
      · rw [if_pos q, if_pos (eq.mp q)]
      · rw [if_neg q, if_neg (fun z => q (eq.mpr z))]
