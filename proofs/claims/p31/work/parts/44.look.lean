/-! small questions, asked of both -/
theorem ll_0 : (0 : Int64) = lL 0 := (rfl)
theorem ll_1 : (1 : Int64) = lL 1 := (rfl)
theorem ll_3 : (3 : Int64) = lL 3 := (rfl)
theorem ll_5 : (5 : Int64) = lL 5 := (rfl)
theorem ll_6 : (6 : Int64) = lL 6 := (rfl)
theorem ll_4 : (4 : Int64) = lL 4 := (rfl)
theorem ll_8 : (8 : Int64) = lL 8 := (rfl)
theorem ll_58 : (58 : Int64) = lL 58 := (rfl)
theorem ll_60 : (60 : Int64) = lL 60 := (rfl)
theorem ll_255 : (255 : Int64) = lL 255 := (rfl)
theorem ll_4095 : (4095 : Int64) = lL 4095 := (rfl)
abbrev sm (z : Int) : Prop := -2147483648 ≤ z ∧ z < 2147483648
theorem bI_c {p q : Prop} {i : Decidable p} {j : Decidable q} (h : p ↔ q) : @bI p i = @bI q j := by
  by_cases c : p
  · rw [bI_t c, bI_t (h.mp c)]
  · rw [bI_f c, bI_f (fun z => c (h.mpr z))]
theorem if_bI {p : Prop} {i : Decidable p} {j : Decidable (@bI p i = 0)} {β : Type} {A B : β} : @ite β (@bI p i = 0) j A B = if p then B else A := by
  by_cases c : p
  · rw [if_neg (by rw [bI_0]; exact fun h => h c), if_pos c]
  · rw [if_pos (bI_f c), if_neg c]
theorem if_nbI {p : Prop} {i : Decidable p} {j : Decidable (¬ @bI p i = 0)} {β : Type} {A B : β} : @ite β (¬ @bI p i = 0) j A B = if p then A else B := by
  by_cases c : p
  · rw [if_pos (by rw [bI_0]; exact fun h => h c), if_pos c]
  · rw [if_neg (by rw [bI_0]; exact fun h => h c), if_neg c]
theorem if_bIi {p : Prop} {i : Decidable p} {j : Decidable (@bI p i = iI 0)} {β : Type} {A B : β} : @ite β (@bI p i = iI 0) j A B = if p then B else A := if_bI
theorem if_nbIi {p : Prop} {i : Decidable p} {j : Decidable (¬ @bI p i = iI 0)} {β : Type} {A B : β} : @ite β (¬ @bI p i = iI 0) j A B = if p then A else B := if_nbI
abbrev isK (a : Nat → Int) (h k : Int) : Prop := (0 ≤ h ∧ h < a 0) ∧ (0 ≤ k ∧ k < 6)
/-- the place of a key -/
def ki (h k : Int) : Nat := (6 * h + k).toNat
theorem ki_lt {a : Nat → Int} (hw : WF a) {h k : Int} (c : isK a h k) : ki h k < 54 ∧ (5 + 6 * h + k).toNat = 5 + ki h k ∧ (h * 6 + k).toNat = ki h k ∧ (ki h k : Int) = 6 * h + k := by
  have := hw.b0
  unfold ki
  omega
def kr (a : Nat → Int) (h k : Int) : Int := a (5 + ki h k)
theorem kr_ok {a : Nat → Int} (hw : WF a) {h k : Int} (c : isK a h k) : ok a (kr a h k) := by
  have := hw.key (ki_lt hw c).1
  exact ⟨this.1, this.2.1⟩
/-- the reference's own look at a key -/
theorem M_key {a : Nat → Int} (hw : WF a) {h k : Int} (c : isK a h k) : ¬ (iI (5 + 6 * h + k) < 0 ∨ 283 ≤ (iI (5 + 6 * h + k)).toNatClampNeg) ∧ Q a (iI (5 + 6 * h + k)).toNatClampNeg = iI (kr a h k) := by
  have := hw.b0
  have e := ki_lt hw c
  have h1 : (iI (5 + 6 * h + k)).toNatClampNeg = 5 + ki h k := by rw [iI_cl (by omega) (by omega), e.2.1]
  refine ⟨?_, by rw [h1]; rfl⟩
  rw [h1, l_0, iI_lt (by omega) (by omega) (by omega) (by omega)]
  omega
/-! the program's -/
theorem Str_hasKey {a : Nat → Int} (hw : WF a) {h k : Int} (hh : sm h) (hk : sm k) : f_Str_hasKey (iI (a 0)) (iI h) (iI k) = some (bI (isK a h k)) := by
  have := hw.b0
  unfold f_Str_hasKey
  simp (disch := omega) only [l_0, l_1, l_2, l_3, l_4, l_5, l_6, l_7, l_8, l_9, l_10, l_11, l_12, l_13, l_14, l_16, l_31, l_40, l_48, l_54, l_58, l_59, l_60, l_99, l_100, l_107, l_110, l_115, l_120, l_255, l_259, l_283, l_1000, l_4095, iI_add, iI_sub, iI_mul, iI_neg, iI_lt, iI_le, iI_eq, iI_cl]
  by_cases c : isK a h k
  · rw [bI_t c, if_neg (by omega), if_neg (by omega), if_neg (by omega), if_neg (by omega), if_neg (by omega)]
    rfl
  · rw [bI_f c]
    split
    · rfl
    · split
      · rfl
      · split
        · rfl
        · split
          · rfl
          · split
            · rfl
            · omega
theorem Str_hasHouse {a : Nat → Int} (hw : WF a) {h : Int} (hh : sm h) : f_Str_hasHouse (iI (a 0)) (iI h) = some (bI (0 ≤ h ∧ h < a 0)) := by
  have := hw.b0
  unfold f_Str_hasHouse
  simp (disch := omega) only [l_0, l_1, l_2, l_3, l_4, l_5, l_6, l_7, l_8, l_9, l_10, l_11, l_12, l_13, l_14, l_16, l_31, l_40, l_48, l_54, l_58, l_59, l_60, l_99, l_100, l_107, l_110, l_115, l_120, l_255, l_259, l_283, l_1000, l_4095, iI_add, iI_sub, iI_mul, iI_neg, iI_lt, iI_le, iI_eq, iI_cl]
  by_cases c : 0 ≤ h ∧ h < a 0
  · rw [bI_t c, if_neg (by omega), if_neg (by omega), if_neg (by omega)]
    rfl
  · rw [bI_f c]
    split
    · rfl
    · split
      · rfl
      · split
        · rfl
        · omega
theorem Dev_has {n d : Int} (h1 : 0 ≤ n) (h2 : n ≤ 6) (h3 : sm d) : f_Dev_has (iI n) (iI d) = some (bI (0 ≤ d ∧ d < n)) := by
  unfold f_Dev_has
  simp (disch := omega) only [l_0, l_1, l_2, l_3, l_4, l_5, l_6, l_7, l_8, l_9, l_10, l_11, l_12, l_13, l_14, l_16, l_31, l_40, l_48, l_54, l_58, l_59, l_60, l_99, l_100, l_107, l_110, l_115, l_120, l_255, l_259, l_283, l_1000, l_4095, iI_add, iI_sub, iI_mul, iI_neg, iI_lt, iI_le, iI_eq, iI_cl]
  by_cases c : 0 ≤ d ∧ d < n
  · rw [bI_t c, if_neg (by omega), if_neg (by omega), if_neg (by omega)]
    rfl
  · rw [bI_f c]
    split
    · rfl
    · split
      · rfl
      · split
        · rfl
        · omega
theorem TR_isWithin {x lo hi : Int} (h1 : sm x) (h2 : sm lo) (h3 : sm hi) : f_TR_isWithin (iI x) (iI lo) (iI hi) = some (bI (lo ≤ x ∧ x ≤ hi)) := by
  unfold f_TR_isWithin
  simp (disch := omega) only [l_0, l_1, l_2, l_3, l_4, l_5, l_6, l_7, l_8, l_9, l_10, l_11, l_12, l_13, l_14, l_16, l_31, l_40, l_48, l_54, l_58, l_59, l_60, l_99, l_100, l_107, l_110, l_115, l_120, l_255, l_259, l_283, l_1000, l_4095, iI_add, iI_sub, iI_mul, iI_neg, iI_lt, iI_le, iI_eq, iI_cl]
  by_cases c : lo ≤ x ∧ x ≤ hi
  · rw [bI_t c, if_neg (by omega), if_neg (by omega)]
    rfl
  · rw [bI_f c]
    split
    · rfl
    · split
      · rfl
      · omega
theorem TR_isCode {x : Int} (h1 : sm x) : f_TR_isCode (iI x) = some (bI (0 ≤ x ∧ x ≤ 4095)) := by
  unfold f_TR_isCode
  rw [l_0, l_4095, TR_isWithin h1 (by omega) (by omega), cal_some]
  exact gd_t bI_01
theorem TR_isTolerance {x : Int} (h1 : sm x) : f_TR_isTolerance (iI x) = some (bI (0 ≤ x ∧ x ≤ 3)) := by
  unfold f_TR_isTolerance
  rw [l_0, l_3, TR_isWithin h1 (by omega) (by omega), cal_some]
  exact gd_t bI_01
abbrev isS (w v : Int) : Prop := (w = 0 ∧ 0 ≤ v ∧ v ≤ 3) ∨ (w = 1 ∧ 0 ≤ v ∧ v ≤ 8)
theorem TR_isSetting {w v : Int} (h1 : sm w) (h2 : sm v) : f_TR_isSetting (iI w) (iI v) = some (bI (isS w v)) := by
  unfold f_TR_isSetting f_TR_isSetting_13
  simp (disch := omega) only [l_0, l_1, l_2, l_3, l_4, l_5, l_6, l_7, l_8, l_9, l_10, l_11, l_12, l_13, l_14, l_16, l_31, l_40, l_48, l_54, l_58, l_59, l_60, l_99, l_100, l_107, l_110, l_115, l_120, l_255, l_259, l_283, l_1000, l_4095, iI_add, iI_sub, iI_mul, iI_neg, iI_lt, iI_le, iI_eq, iI_cl, TR_isWithin h2 (show sm 0 by omega) (show sm 3 by omega), TR_isWithin h2 (show sm 0 by omega) (show sm 8 by omega), cal_some]
  simp only [if_bIi, if_nbIi]
  by_cases c : isS w v
  · rw [bI_t c]
    by_cases d : w = 0
    · rw [if_neg (by omega), if_pos (by omega)]
      rfl
    · rw [if_pos d, if_neg (by omega), if_pos (by omega)]
      rfl
  · rw [bI_f c]
    by_cases d : w = 0
    · rw [if_neg (by omega), if_neg (by omega), if_pos (by omega)]
      rfl
    · rw [if_pos d]
      by_cases f : w = 1
      · rw [if_neg (by omega), if_neg (by omega)]
        rfl
      · rw [if_pos f]
        rfl
theorem Str_recordOf {rk : Nat → Int32} {a : Nat → Int} (hw : WF a) (hr : RKey rk a) {h k : Int} (c : isK a h k) : f_Str_recordOf rk (iI (a 0)) (iI h) (iI k) = some (n9 (kr a h k)) := by
  have := hw.b0
  have e := ki_lt hw c
  unfold f_Str_recordOf
  rw [Str_hasKey hw (by omega) (by omega), cal_some, if_bI, if_pos c]
  simp (disch := omega) only [l_0, l_1, l_2, l_3, l_4, l_5, l_6, l_7, l_8, l_9, l_10, l_11, l_12, l_13, l_14, l_16, l_31, l_40, l_48, l_54, l_58, l_59, l_60, l_99, l_100, l_107, l_110, l_115, l_120, l_255, l_259, l_283, l_1000, l_4095, iI_add, iI_sub, iI_mul, iI_neg, iI_lt, iI_le, iI_eq, iI_cl]
  rw [gd_t (by omega), e.2.2.1, hr _ e.1]
  rfl
theorem Str_recordOf_f {rk : Nat → Int32} {a : Nat → Int} (hw : WF a) {h k : Int} (hh : sm h) (hk : sm k) (c : ¬ isK a h k) : f_Str_recordOf rk (iI (a 0)) (iI h) (iI k) = some (n9 (-1)) := by
  unfold f_Str_recordOf
  rw [Str_hasKey hw hh hk, cal_some, if_bI, if_neg c]
  rfl
theorem Str_hasCode {rk : Nat → Int32} {a : Nat → Int} (hw : WF a) (hr : RKey rk a) {h k : Int} (c : isK a h k) : f_Str_hasCode rk (iI (a 0)) (iI h) (iI k) = some (bI (0 ≤ kr a h k)) := by
  have := kr_ok hw c
  have := hw.b2
  unfold f_Str_hasCode
  rw [Str_recordOf hw hr c, cal_some, l_9, iI_neg, l_0, l_1]
  simp only [n9_eq (show kr a h k < 2147483648 by unfold ok at *; omega)]
  by_cases d : 0 ≤ kr a h k
  · rw [if_neg (by omega), bI_t d]; rfl
  · rw [if_pos (by omega), bI_f d]; rfl
theorem Str_hasCode_f {rk : Nat → Int32} {a : Nat → Int} (hw : WF a) {h k : Int} (hh : sm h) (hk : sm k) (c : ¬ isK a h k) : f_Str_hasCode rk (iI (a 0)) (iI h) (iI k) = some 0 := by
  unfold f_Str_hasCode
  rw [Str_recordOf_f hw hh hk c, cal_some, if_pos (by rfl)]
theorem Str_codeOf {cc hh kk' p w rk : Nat → Int32} {n : Int32} {a : Nat → Int} (hw : WF a) (hr : RRec cc hh kk' p w n a) (hk : RKey rk a) {h k : Int} (c : isK a h k) : f_Str_codeOf cc n rk (iI (a 0)) (iI h) (iI k) = some (iI (cd a (kr a h k))) := by
  unfold f_Str_codeOf
  rw [Str_recordOf hw hk c, cal_some, Rec_codeOf hw hr (kr_ok hw c), cal_some]
theorem Str_codeOf_f {cc hh kk' p w rk : Nat → Int32} {n : Int32} {a : Nat → Int} (hw : WF a) (hr : RRec cc hh kk' p w n a) {h k : Int} (h1 : sm h) (h2 : sm k) (c : ¬ isK a h k) : f_Str_codeOf cc n rk (iI (a 0)) (iI h) (iI k) = some (iI (-9)) := by
  unfold f_Str_codeOf
  have := hw.b2
  rw [Str_recordOf_f hw h1 h2 c, cal_some, Rec_codeOf hw hr (i := -1) ⟨by omega, by omega⟩, cal_some]
  rfl
theorem cd_sm {a : Nat → Int} (hw : WF a) {i : Int} (hi : ok a i) : (i < 0 ∧ cd a i = -9) ∨ (0 ≤ i ∧ 0 ≤ cd a i ∧ cd a i < 4096) := by
  by_cases c : i < 0
  · exact Or.inl ⟨c, by unfold cd; rw [if_pos c]⟩
  · obtain ⟨m, rfl⟩ := Int.eq_ofNat_of_zero_le (show 0 ≤ i by omega)
    rw [cd_nat]
    have := hw.rcd hi.2
    omega
