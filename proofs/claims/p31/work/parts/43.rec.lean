/-! the program's records, read -/
theorem n9_inj {x y : Int} (h1 : -1 ≤ x) (h2 : x < 2147483648) (h3 : -1 ≤ y) (h4 : y < 2147483648) (e : n9 x = n9 y) : x = y := by
  by_cases c : x < 0 <;> by_cases d : y < 0
  · omega
  · rw [n9_neg c, n9_pos (by omega), iI_eq (by omega) (by omega) (by omega) (by omega)] at e; omega
  · rw [n9_neg d, n9_pos (by omega), iI_eq (by omega) (by omega) (by omega) (by omega)] at e; omega
  · rw [n9_pos (by omega), n9_pos (by omega), iI_eq (by omega) (by omega) (by omega) (by omega)] at e; exact e
theorem fb_least {p : Nat → Prop} {n : Nat} (h : ∃ k, k < n ∧ p k) : ∃ k, k < n ∧ p k ∧ ∀ j, j < k → ¬ p j := by
  obtain ⟨k, hk, hp⟩ := h
  obtain ⟨d, hd, hd2⟩ := pk_least p ⟨k, hp⟩
  refine ⟨d, ?_, hd, hd2⟩
  rcases Nat.lt_or_ge k d with q | q
  · exact absurd hp (hd2 k q)
  · omega
theorem wr_sm {a : Nat → Int} (hw : WF a) {i : Int} (hi : ok a i) : -1 ≤ wr a i ∧ wr a i < 12 := by
  by_cases hc : i < 0
  · unfold wr; rw [if_pos hc]; omega
  · obtain ⟨m, rfl⟩ := Int.eq_ofNat_of_zero_le (show 0 ≤ i by omega)
    rw [wr_nat]
    have := hw.rcd hi.2
    omega
theorem Rec_codeOf {c h k p w : Nat → Int32} {n : Int32} {a : Nat → Int} (hw : WF a) (hr : RRec c h k p w n a) {i : Int} (hi : ok a i) : f_Rec_codeOf c n (n9 i) = some (iI (cd a i)) := by
  have h2 := hw.b2
  obtain ⟨rfl, hr⟩ := hr
  unfold f_Rec_codeOf
  unfold ok at hi
  by_cases hc : i < 0
  · rw [n9_neg hc, Rec_has h2.1 h2.2 (by omega) (by omega), cal_some, if_pos (bI_f (by omega))]
    unfold cd
    rw [if_pos hc]
    rfl
  · obtain ⟨m, rfl⟩ := Int.eq_ofNat_of_zero_le (show 0 ≤ i by omega)
    rw [n9_pos (by omega), Rec_has h2.1 h2.2 (by omega) (by omega), cal_some, if_neg (by rw [bI_0]; omega), iI_cl (by omega) (by omega), gd_t]
    · show some (c m) = _
      rw [(hr m hi.2).1, cd_nat]
    · simp (disch := omega) only [l_0, l_1, l_2, l_3, l_4, l_5, l_6, l_7, l_8, l_9, l_10, l_11, l_12, l_13, l_14, l_16, l_31, l_40, l_48, l_54, l_58, l_59, l_60, l_99, l_100, l_107, l_110, l_115, l_120, l_255, l_259, l_283, l_1000, l_4095, iI_add, iI_sub, iI_mul, iI_neg, iI_lt, iI_le, iI_eq, iI_cl]
      omega
theorem Rec_houseOf {c h k p w : Nat → Int32} {n : Int32} {a : Nat → Int} (hw : WF a) (hr : RRec c h k p w n a) {i : Int} (hi : ok a i) : f_Rec_houseOf h n (n9 i) = some (iI (hs a i)) := by
  have h2 := hw.b2
  obtain ⟨rfl, hr⟩ := hr
  unfold f_Rec_houseOf
  unfold ok at hi
  by_cases hc : i < 0
  · rw [n9_neg hc, Rec_has h2.1 h2.2 (by omega) (by omega), cal_some, if_pos (bI_f (by omega))]
    unfold hs
    rw [if_pos hc]
    rfl
  · obtain ⟨m, rfl⟩ := Int.eq_ofNat_of_zero_le (show 0 ≤ i by omega)
    rw [n9_pos (by omega), Rec_has h2.1 h2.2 (by omega) (by omega), cal_some, if_neg (by rw [bI_0]; omega), iI_cl (by omega) (by omega), gd_t]
    · show some (h m) = _
      rw [(hr m hi.2).2.1, hs_nat]
    · simp (disch := omega) only [l_0, l_1, l_2, l_3, l_4, l_5, l_6, l_7, l_8, l_9, l_10, l_11, l_12, l_13, l_14, l_16, l_31, l_40, l_48, l_54, l_58, l_59, l_60, l_99, l_100, l_107, l_110, l_115, l_120, l_255, l_259, l_283, l_1000, l_4095, iI_add, iI_sub, iI_mul, iI_neg, iI_lt, iI_le, iI_eq, iI_cl]
      omega
theorem Rec_keyOf {c h k p w : Nat → Int32} {n : Int32} {a : Nat → Int} (hw : WF a) (hr : RRec c h k p w n a) {i : Int} (hi : ok a i) : f_Rec_keyOf k n (n9 i) = some (iI (kk a i)) := by
  have h2 := hw.b2
  obtain ⟨rfl, hr⟩ := hr
  unfold f_Rec_keyOf
  unfold ok at hi
  by_cases hc : i < 0
  · rw [n9_neg hc, Rec_has h2.1 h2.2 (by omega) (by omega), cal_some, if_pos (bI_f (by omega))]
    unfold kk
    rw [if_pos hc]
    rfl
  · obtain ⟨m, rfl⟩ := Int.eq_ofNat_of_zero_le (show 0 ≤ i by omega)
    rw [n9_pos (by omega), Rec_has h2.1 h2.2 (by omega) (by omega), cal_some, if_neg (by rw [bI_0]; omega), iI_cl (by omega) (by omega), gd_t]
    · show some (k m) = _
      rw [(hr m hi.2).2.2.1, kk_nat]
    · simp (disch := omega) only [l_0, l_1, l_2, l_3, l_4, l_5, l_6, l_7, l_8, l_9, l_10, l_11, l_12, l_13, l_14, l_16, l_31, l_40, l_48, l_54, l_58, l_59, l_60, l_99, l_100, l_107, l_110, l_115, l_120, l_255, l_259, l_283, l_1000, l_4095, iI_add, iI_sub, iI_mul, iI_neg, iI_lt, iI_le, iI_eq, iI_cl]
      omega
theorem Rec_wrongBitOf {c h k p w : Nat → Int32} {n : Int32} {a : Nat → Int} (hw : WF a) (hr : RRec c h k p w n a) {i : Int} (hi : ok a i) : f_Rec_wrongBitOf w n (n9 i) = some (n9 (wr a i)) := by
  have h2 := hw.b2
  obtain ⟨rfl, hr⟩ := hr
  unfold f_Rec_wrongBitOf
  unfold ok at hi
  by_cases hc : i < 0
  · rw [n9_neg hc, Rec_has h2.1 h2.2 (by omega) (by omega), cal_some, if_pos (bI_f (by omega))]
    unfold wr
    rw [if_pos hc]
    rfl
  · obtain ⟨m, rfl⟩ := Int.eq_ofNat_of_zero_le (show 0 ≤ i by omega)
    rw [n9_pos (by omega), Rec_has h2.1 h2.2 (by omega) (by omega), cal_some, if_neg (by rw [bI_0]; omega), iI_cl (by omega) (by omega), gd_t]
    · show some (w m) = _
      rw [(hr m hi.2).2.2.2.2, wr_nat]
    · simp (disch := omega) only [l_0, l_1, l_2, l_3, l_4, l_5, l_6, l_7, l_8, l_9, l_10, l_11, l_12, l_13, l_14, l_16, l_31, l_40, l_48, l_54, l_58, l_59, l_60, l_99, l_100, l_107, l_110, l_115, l_120, l_255, l_259, l_283, l_1000, l_4095, iI_add, iI_sub, iI_mul, iI_neg, iI_lt, iI_le, iI_eq, iI_cl]
      omega

theorem sm_an {a : Nat → Int} (hw : WF a) {i : Int} (h : ok a i) (k : Nat) : -1 ≤ an a i k ∧ an a i k < 40 := by
  have h5 := an_ok hw h k
  have := hw.b2
  unfold ok at h5
  omega
theorem Rec_ancestorOf {c h k p w : Nat → Int32} {n : Int32} {a : Nat → Int} (hw : WF a) (hr : RRec c h k p w n a) {i pl : Int} (hi : ok a i) (h0 : 0 ≤ pl) (h1 : pl < 2147483648) : f_Rec_ancestorOf p n (n9 i) (iI pl) = some (n9 (an a i pl.toNat)) := by
  have l40 := ln_40 hw hi
  have hmin : imin (iI pl) 40 = iI ((min pl.toNat 40 : Nat) : Int) := by
    unfold imin
    rw [l_40]
    rcases Nat.lt_or_ge 40 pl.toNat with q | q
    · rw [if_pos ((iI_lt (by omega) (by omega) (by omega) (by omega)).mpr (by omega)), show ((min pl.toNat 40 : Nat) : Int) = 40 by omega]
    · rw [if_neg (by rw [iI_lt (by omega) (by omega) (by omega) (by omega)]; omega), show ((min pl.toNat 40 : Nat) : Int) = pl by omega]
  unfold f_Rec_ancestorOf
  refine seq2 (body := f_Rec_ancestorOf_13 p n (iI pl)) (fun k => n9 (an a i k)) (fun k : Nat => iI k) (min pl.toNat (ln a i)) (fun k => ?_) (fun m hm k => ?_) FUEL 0 (Nat.zero_le _) (fuel_lt (by omega))
  · unfold f_Rec_ancestorOf_13
    rw [hmin]
    simp (disch := omega) only [iI_le]
    rcases Nat.lt_or_ge (ln a i) pl.toNat with q | q
    · rw [show min pl.toNat (ln a i) = ln a i by omega, ln_end hw hi, ln_out hw hi (by omega), if_pos (show (n9 (-1) : Int32) = -9 by rfl), ite_self]
    · rw [show min pl.toNat (ln a i) = pl.toNat by omega, if_pos (by omega)]
  · have hk := ln_in hw hi (show m < ln a i by omega)
    have hs := sm_an hw hi m
    unfold f_Rec_ancestorOf_13
    rw [hmin]
    simp (disch := omega) only [l_0, l_1, l_2, l_3, l_4, l_5, l_6, l_7, l_8, l_9, l_10, l_11, l_12, l_13, l_14, l_16, l_31, l_40, l_48, l_54, l_58, l_59, l_60, l_99, l_100, l_107, l_110, l_115, l_120, l_255, l_259, l_283, l_1000, l_4095, iI_add, iI_sub, iI_mul, iI_neg, iI_lt, iI_le, iI_eq, iI_cl]
    rw [if_neg (by omega), if_neg (by rw [n9_eq (by omega)]; omega), Rec_parentOf hw hr (an_ok hw hi m), cal_some]
    rfl
theorem Rec_generationOf {c h k p w : Nat → Int32} {n : Int32} {a : Nat → Int} (hw : WF a) (hr : RRec c h k p w n a) {i : Int} (hi : ok a i) (h0 : 0 ≤ i) : f_Rec_generationOf p n (n9 i) = some (iI (ln a i - 1)) := by
  have l40 := ln_40 hw hi
  have hn := nx_ok hw hi
  have e := ln_nx hw hi h0
  unfold f_Rec_generationOf
  rw [Rec_parentOf hw hr hi, cal_some]
  refine seq3 (body := f_Rec_generationOf_11 p n) (fun k : Nat => iI k) (fun k => n9 (an a (nx a i) k)) (fun k : Nat => iI k) (ln a (nx a i)) (fun k => ?_) (fun m hm k => ?_) FUEL 0 (Nat.zero_le _) (fuel_lt (by omega))
  · unfold f_Rec_generationOf_11
    simp (disch := omega) only [l_0, l_1, l_2, l_3, l_4, l_5, l_6, l_7, l_8, l_9, l_10, l_11, l_12, l_13, l_14, l_16, l_31, l_40, l_48, l_54, l_58, l_59, l_60, l_99, l_100, l_107, l_110, l_115, l_120, l_255, l_259, l_283, l_1000, l_4095, iI_add, iI_sub, iI_mul, iI_neg, iI_lt, iI_le, iI_eq, iI_cl]
    rw [ln_end hw hn.1, if_neg (by omega), if_pos (by rfl), show ((ln a i : Int) - 1) = (ln a (nx a i) : Int) by omega]
  · have hk := ln_in hw hn.1 hm
    have hs := sm_an hw hn.1 m
    unfold f_Rec_generationOf_11
    simp (disch := omega) only [l_0, l_1, l_2, l_3, l_4, l_5, l_6, l_7, l_8, l_9, l_10, l_11, l_12, l_13, l_14, l_16, l_31, l_40, l_48, l_54, l_58, l_59, l_60, l_99, l_100, l_107, l_110, l_115, l_120, l_255, l_259, l_283, l_1000, l_4095, iI_add, iI_sub, iI_mul, iI_neg, iI_lt, iI_le, iI_eq, iI_cl]
    rw [if_neg (by omega), if_neg (by rw [n9_eq (by omega)]; omega), Rec_parentOf hw hr (an_ok hw hn.1 m), cal_some]
    rfl
def rt (a : Nat → Int) (i : Int) : Int := an a i (ln a i - 1)
theorem rt_ok {a : Nat → Int} (hw : WF a) {i : Int} (hi : ok a i) (h0 : 0 ≤ i) : 0 ≤ rt a i ∧ rt a i < a 2 := by
  have p := ln_pos hw hi h0
  have h1 := ln_in hw hi (show ln a i - 1 < ln a i by omega)
  have h2 := an_ok hw hi (ln a i - 1)
  unfold ok at h2
  unfold rt
  omega
theorem Rec_rootOf {c h k p w : Nat → Int32} {n : Int32} {a : Nat → Int} (hw : WF a) (hr : RRec c h k p w n a) {i : Int} (hi : ok a i) (h0 : 0 ≤ i) : f_Rec_rootOf p n (n9 i) = some (n9 (rt a i)) := by
  have l40 := ln_40 hw hi
  have l1 := ln_pos hw hi h0
  unfold f_Rec_rootOf
  rw [Rec_generationOf hw hr hi h0, cal_some, Rec_ancestorOf hw hr hi (by omega) (by omega), cal_some, show ((ln a i : Int) - 1).toNat = ln a i - 1 by omega]
  rfl
theorem Rec_wrongBits {c h k p w : Nat → Int32} {n : Int32} {a : Nat → Int} (hw : WF a) (hr : RRec c h k p w n a) {i : Int} (hi : ok a i) : f_Rec_wrongBitsInChain p w n (n9 i) = some (iI (swb a i (ln a i))) := by
  have l40 := ln_40 hw hi
  unfold f_Rec_wrongBitsInChain
  refine seq3 (body := f_Rec_wrongBitsInChain_7 p w n) (fun k : Nat => iI (swb a i k)) (fun k => n9 (an a i k)) (fun k : Nat => iI k) (ln a i) (fun k => ?_) (fun m hm k => ?_) FUEL 0 (Nat.zero_le _) (fuel_lt (by omega))
  · unfold f_Rec_wrongBitsInChain_7
    simp (disch := omega) only [l_0, l_1, l_2, l_3, l_4, l_5, l_6, l_7, l_8, l_9, l_10, l_11, l_12, l_13, l_14, l_16, l_31, l_40, l_48, l_54, l_58, l_59, l_60, l_99, l_100, l_107, l_110, l_115, l_120, l_255, l_259, l_283, l_1000, l_4095, iI_add, iI_sub, iI_mul, iI_neg, iI_lt, iI_le, iI_eq, iI_cl]
    rw [ln_end hw hi]
    split
    · rfl
    · rw [if_pos (by rfl)]
  · have hk := ln_in hw hi hm
    have hs := sm_an hw hi m
    have hq := swb_le a i m
    unfold f_Rec_wrongBitsInChain_7 f_Rec_wrongBitsInChain_33
    rw [if_neg (by simp (disch := omega) only [l_0, l_1, l_2, l_3, l_4, l_5, l_6, l_7, l_8, l_9, l_10, l_11, l_12, l_13, l_14, l_16, l_31, l_40, l_48, l_54, l_58, l_59, l_60, l_99, l_100, l_107, l_110, l_115, l_120, l_255, l_259, l_283, l_1000, l_4095, iI_add, iI_sub, iI_mul, iI_neg, iI_lt, iI_le, iI_eq, iI_cl]; omega), if_neg (by rw [l_9, iI_neg, n9_eq (by omega)]; omega), Rec_wrongBitOf hw hr (an_ok hw hi m), cal_some, Rec_parentOf hw hr (an_ok hw hi m), cal_some, cal_some]
    have hwr := wr_sm hw (an_ok hw hi m)
    simp only [l_9, iI_neg, n9_eq (show wr a (an a i m) < 2147483648 by omega)]
    rw [l_1, iI_add, iI_add, swb]
    split
    · rw [if_neg (by omega)]
      rfl
    · rw [if_pos (by omega)]
      rfl
theorem Rec_firstWrong {c h k p w : Nat → Int32} {n : Int32} {a : Nat → Int} (hw : WF a) (hr : RRec c h k p w n a) {i : Int} (hi : ok a i) : f_Rec_firstWrongInChain p w n (n9 i) = some (n9 (fwr a i (ln a i))) := by
  have l40 := ln_40 hw hi
  unfold f_Rec_firstWrongInChain
  rw [bnd_s]
  refine seq3 (body := f_Rec_firstWrongInChain_8 p w n) (fun k : Nat => n9 (fwr a i k)) (fun k => n9 (an a i k)) (fun k : Nat => iI k) (ln a i) (fun k => ?_) (fun m hm k => ?_) FUEL 0 (Nat.zero_le _) (fuel_lt (by omega))
  · unfold f_Rec_firstWrongInChain_8
    simp (disch := omega) only [l_0, l_1, l_2, l_3, l_4, l_5, l_6, l_7, l_8, l_9, l_10, l_11, l_12, l_13, l_14, l_16, l_31, l_40, l_48, l_54, l_58, l_59, l_60, l_99, l_100, l_107, l_110, l_115, l_120, l_255, l_259, l_283, l_1000, l_4095, iI_add, iI_sub, iI_mul, iI_neg, iI_lt, iI_le, iI_eq, iI_cl]
    rw [ln_end hw hi]
    split
    · rfl
    · rw [if_pos (by rfl)]
  · have hk := ln_in hw hi hm
    have hs := sm_an hw hi m
    unfold f_Rec_firstWrongInChain_8 f_Rec_firstWrongInChain_33
    rw [if_neg (by simp (disch := omega) only [l_0, l_1, l_2, l_3, l_4, l_5, l_6, l_7, l_8, l_9, l_10, l_11, l_12, l_13, l_14, l_16, l_31, l_40, l_48, l_54, l_58, l_59, l_60, l_99, l_100, l_107, l_110, l_115, l_120, l_255, l_259, l_283, l_1000, l_4095, iI_add, iI_sub, iI_mul, iI_neg, iI_lt, iI_le, iI_eq, iI_cl]; omega), if_neg (by rw [l_9, iI_neg, n9_eq (by omega)]; omega), Rec_wrongBitOf hw hr (an_ok hw hi m), cal_some, Rec_parentOf hw hr (an_ok hw hi m), cal_some, cal_some]
    have hwr := wr_sm hw (an_ok hw hi m)
    simp only [l_9, iI_neg, n9_eq (show wr a (an a i m) < 2147483648 by omega)]
    rw [l_1, iI_add, fwr]
    split
    · rw [if_neg (by omega)]
      rfl
    · rw [if_pos (by omega)]
      rfl
theorem Rec_isInChain {c h k p w : Nat → Int32} {n : Int32} {a : Nat → Int} (hw : WF a) (hr : RRec c h k p w n a) {v i : Int} (hi : ok a i) (h0 : 0 ≤ v) (h1 : v < 2147483648) : (inC a v i ∧ f_Rec_isInChain p n (iI v) (n9 i) = some 1) ∨ (¬ inC a v i ∧ f_Rec_isInChain p n (iI v) (n9 i) = some 0) := by
  have l40 := ln_40 hw hi
  have step : ∀ m, m < ln a i → an a i m ≠ v → ∀ k, f_Rec_isInChain_5 p n (iI v) (n9 (an a i m)) (iI m) k = k (n9 (an a i (m + 1))) (iI ((m + 1 : Nat) : Int)) := by
    intro m hm hne k
    have hk := ln_in hw hi hm
    have hs := sm_an hw hi m
    unfold f_Rec_isInChain_5
    rw [if_neg (by simp (disch := omega) only [l_0, l_1, l_2, l_3, l_4, l_5, l_6, l_7, l_8, l_9, l_10, l_11, l_12, l_13, l_14, l_16, l_31, l_40, l_48, l_54, l_58, l_59, l_60, l_99, l_100, l_107, l_110, l_115, l_120, l_255, l_259, l_283, l_1000, l_4095, iI_add, iI_sub, iI_mul, iI_neg, iI_lt, iI_le, iI_eq, iI_cl]; omega), if_neg (by rw [l_9, iI_neg, n9_eq (by omega)]; omega), Rec_parentOf hw hr (an_ok hw hi m), cal_some, if_pos (by rw [n9_pos hk, iI_eq (by omega) (by omega) (by omega) (by omega)]; exact hne), l_1, iI_add]
    rfl
  by_cases q : ∃ k, k < ln a i ∧ an a i k = v
  · obtain ⟨d, hd, hd2, hd3⟩ := fb_least q
    refine Or.inl ⟨⟨h0, d, hd2⟩, ?_⟩
    unfold f_Rec_isInChain
    refine seq2 (body := f_Rec_isInChain_5 p n (iI v)) (fun k => n9 (an a i k)) (fun k : Nat => iI k) d (fun k => ?_) (fun m hm k => step m (by omega) (hd3 m hm) k) FUEL 0 (Nat.zero_le _) (fuel_lt (by omega))
    unfold f_Rec_isInChain_5
    rw [if_neg (by simp (disch := omega) only [l_0, l_1, l_2, l_3, l_4, l_5, l_6, l_7, l_8, l_9, l_10, l_11, l_12, l_13, l_14, l_16, l_31, l_40, l_48, l_54, l_58, l_59, l_60, l_99, l_100, l_107, l_110, l_115, l_120, l_255, l_259, l_283, l_1000, l_4095, iI_add, iI_sub, iI_mul, iI_neg, iI_lt, iI_le, iI_eq, iI_cl]; omega), hd2, if_neg (by rw [l_9, iI_neg, n9_eq (by omega)]; omega), n9_pos h0, if_neg (fun z => z rfl)]
  · refine Or.inr ⟨?_, ?_⟩
    · rintro ⟨_, k, hk⟩
      exact q ⟨k, (ln_iff hw hi).mpr (by omega), hk⟩
    unfold f_Rec_isInChain
    refine seq2 (body := f_Rec_isInChain_5 p n (iI v)) (fun k => n9 (an a i k)) (fun k : Nat => iI k) (ln a i) (fun k => ?_) (fun m hm k => step m hm (fun e => q ⟨m, hm, e⟩) k) FUEL 0 (Nat.zero_le _) (fuel_lt (by omega))
    unfold f_Rec_isInChain_5
    rw [ln_end hw hi]
    split
    · rfl
    · rw [if_pos (by rfl)]
theorem Rec_meetingOf {c h k p w : Nat → Int32} {n : Int32} {a : Nat → Int} (hw : WF a) (hr : RRec c h k p w n a) {i j : Int} (hi : ok a i) (hj : ok a j) : ∃ m, meets a i j m ∧ f_Rec_meetingOf p n (n9 i) (n9 j) = some (n9 m) := by
  have l40 := ln_40 hw hi
  have step : ∀ m, m < ln a i → ¬ inC a (an a i m) j → ∀ k, f_Rec_meetingOf_5 p n (n9 j) (n9 (an a i m)) (iI m) k = k (n9 (an a i (m + 1))) (iI ((m + 1 : Nat) : Int)) := by
    intro m hm hne k
    have hk := ln_in hw hi hm
    have hs := sm_an hw hi m
    unfold f_Rec_meetingOf_5
    rw [if_neg (by simp (disch := omega) only [l_0, l_1, l_2, l_3, l_4, l_5, l_6, l_7, l_8, l_9, l_10, l_11, l_12, l_13, l_14, l_16, l_31, l_40, l_48, l_54, l_58, l_59, l_60, l_99, l_100, l_107, l_110, l_115, l_120, l_255, l_259, l_283, l_1000, l_4095, iI_add, iI_sub, iI_mul, iI_neg, iI_lt, iI_le, iI_eq, iI_cl]; omega), if_neg (by rw [l_9, iI_neg, n9_eq (by omega)]; omega)]
    rcases Rec_isInChain hw hr hj hk (by omega) with ⟨e1, e2⟩ | ⟨e1, e2⟩
    · exact absurd e1 hne
    · rw [n9_pos hk, e2, cal_some, if_pos rfl, ← n9_pos hk, Rec_parentOf hw hr (an_ok hw hi m), cal_some, l_1, iI_add]
      rfl
  have dec : ∀ m m' : Nat, m ≤ m' → m' < ln a i → an a i m' ≤ an a i m := by
    intro m m' h1 h2
    obtain ⟨d, rfl⟩ : ∃ d, m' = m + d := ⟨m' - m, by omega⟩
    have := an_le hw (an_ok hw hi m) d (by rw [an_add]; exact ln_in hw hi h2)
    rw [an_add] at this
    omega
  by_cases q : ∃ k, k < ln a i ∧ inC a (an a i k) j
  · obtain ⟨d, hd, hd2, hd3⟩ := fb_least q
    have hk := ln_in hw hi hd
    have hs := sm_an hw hi d
    refine ⟨an a i d, Or.inr ⟨⟨hk, d, rfl⟩, hd2, ?_⟩, ?_⟩
    · rintro v ⟨v0, k, hv⟩ v2
      rcases Nat.lt_or_ge k d with r | r
      · exact absurd (by rw [hv]; exact v2) (hd3 k r)
      · have := dec d k r ((ln_iff hw hi).mpr (by omega))
        omega
    · unfold f_Rec_meetingOf
      refine seq2 (body := f_Rec_meetingOf_5 p n (n9 j)) (fun k => n9 (an a i k)) (fun k : Nat => iI k) d (fun k => ?_) (fun m hm k => step m (by omega) (hd3 m hm) k) FUEL 0 (Nat.zero_le _) (fuel_lt (by omega))
      unfold f_Rec_meetingOf_5
      rw [if_neg (by simp (disch := omega) only [l_0, l_1, l_2, l_3, l_4, l_5, l_6, l_7, l_8, l_9, l_10, l_11, l_12, l_13, l_14, l_16, l_31, l_40, l_48, l_54, l_58, l_59, l_60, l_99, l_100, l_107, l_110, l_115, l_120, l_255, l_259, l_283, l_1000, l_4095, iI_add, iI_sub, iI_mul, iI_neg, iI_lt, iI_le, iI_eq, iI_cl]; omega), if_neg (by rw [l_9, iI_neg, n9_eq (by omega)]; omega)]
      rcases Rec_isInChain hw hr hj hk (by omega) with ⟨e1, e2⟩ | ⟨e1, e2⟩
      · rw [n9_pos hk, e2, cal_some, if_neg (by decide)]
      · exact absurd hd2 e1
  · refine ⟨-1, Or.inl ⟨rfl, ?_⟩, ?_⟩
    · rintro v ⟨⟨v0, k, hv⟩, v2⟩
      exact q ⟨k, (ln_iff hw hi).mpr (by omega), by rw [hv]; exact v2⟩
    · unfold f_Rec_meetingOf
      refine seq2 (body := f_Rec_meetingOf_5 p n (n9 j)) (fun k => n9 (an a i k)) (fun k : Nat => iI k) (ln a i) (fun k => ?_) (fun m hm k => step m hm (fun e => q ⟨m, hm, e⟩) k) FUEL 0 (Nat.zero_le _) (fuel_lt (by omega))
      unfold f_Rec_meetingOf_5
      rw [ln_end hw hi]
      split
      · rfl
      · rw [if_pos (by rfl)]
        rfl
theorem Rec_childrenOf {c h k p w : Nat → Int32} {n : Int32} {a : Nat → Int} (hw : WF a) (hr : RRec c h k p w n a) {v : Int} (h0 : -1 ≤ v) (h1 : v < 2147483648) : f_Rec_childrenOf p n (n9 v) = some (iI (cn (fun i => a (62 + 5 * i) = v) (a 2).toNat)) := by
  have b2 := hw.b2
  unfold f_Rec_childrenOf
  refine seq2 (body := f_Rec_childrenOf_4 p n (n9 v)) (fun k : Nat => iI (cn (fun i => a (62 + 5 * i) = v) k)) (fun k : Nat => iI k) (a 2).toNat (fun k => ?_) (fun m hm k => ?_) FUEL 0 (Nat.zero_le _) (fuel_lt (by omega))
  · unfold f_Rec_childrenOf_4
    rw [if_pos (by rw [hr.1, iI_le (by omega) (by omega) (by omega) (by omega)]; omega)]
  · have hq := cn_le (fun i => a (62 + 5 * i) = v) m
    have hm2 : (m : Int) < a 2 := by omega
    have hrc := hw.rcd hm2
    unfold f_Rec_childrenOf_4 f_Rec_childrenOf_24
    rw [if_neg (by rw [hr.1, iI_le (by omega) (by omega) (by omega) (by omega)]; omega), show iI (m : Int) = n9 (m : Int) from (n9_pos (by omega)).symm, Rec_parentOf hw hr ⟨by omega, hm2⟩, cal_some, nx_nat, n9_pos (show (0 : Int) ≤ (m : Int) by omega), l_1, iI_add, iI_add, cn]
    by_cases q : a (62 + 5 * m) = v
    · rw [if_neg (by rw [q]; exact fun z => z rfl), if_pos q]
      rfl
    · rw [if_pos (fun z => q (n9_inj (by omega) (by omega) h0 h1 z)), if_neg q]
      rfl
theorem Rec_taught {c h k p w : Nat → Int32} {n : Int32} {a : Nat → Int} (hw : WF a) (hr : RRec c h k p w n a) : f_Rec_taught p n = some (iI (a 2 - cn (fun i => a (62 + 5 * i) = -1) (a 2).toNat)) := by
  unfold f_Rec_taught
  rw [show ((-9) : Int32) = n9 (-1) from rfl, Rec_childrenOf hw hr (by omega) (by omega), cal_some, hr.1, iI_sub]
theorem Rec_wrong {c h k p w : Nat → Int32} {n : Int32} {a : Nat → Int} (hw : WF a) (hr : RRec c h k p w n a) : f_Rec_wrong w n = some (iI (cn (fun i => 0 ≤ a (63 + 5 * i)) (a 2).toNat)) := by
  have b2 := hw.b2
  unfold f_Rec_wrong
  refine seq2 (body := f_Rec_wrong_4 w n) (fun k : Nat => iI (cn (fun i => 0 ≤ a (63 + 5 * i)) k)) (fun k : Nat => iI k) (a 2).toNat (fun k => ?_) (fun m hm k => ?_) FUEL 0 (Nat.zero_le _) (fuel_lt (by omega))
  · unfold f_Rec_wrong_4
    rw [if_pos (by rw [hr.1, iI_le (by omega) (by omega) (by omega) (by omega)]; omega)]
  · have hm2 : (m : Int) < a 2 := by omega
    have hrc := hw.rcd hm2
    unfold f_Rec_wrong_4 f_Rec_wrong_25
    rw [if_neg (by rw [hr.1, iI_le (by omega) (by omega) (by omega) (by omega)]; omega), show iI (m : Int) = n9 (m : Int) from (n9_pos (by omega)).symm, Rec_wrongBitOf hw hr ⟨by omega, hm2⟩, cal_some, wr_nat, n9_pos (show (0 : Int) ≤ (m : Int) by omega), l_1, iI_add, iI_add, cn]
    by_cases q : 0 ≤ a (63 + 5 * m)
    · rw [if_neg (by rw [l_9, iI_neg, n9_eq (by omega)]; omega), if_pos q]
      rfl
    · rw [if_pos (by rw [l_9, iI_neg, n9_eq (by omega)]; omega), if_neg q]
      rfl
/-- the greatest generation among the first k records -/
def gg (a : Nat → Int) : Nat → Int
  | 0 => -9
  | k + 1 => if gg a k < (ln a k : Int) - 1 then (ln a k : Int) - 1 else gg a k
theorem gg_le {a : Nat → Int} (hw : WF a) : ∀ k : Nat, (k : Int) ≤ a 2 → -9 ≤ gg a k ∧ gg a k < 40 := by
  intro k
  induction k with
  | zero => intro _; simp [gg]
  | succ k ih =>
    intro h
    have := ih (by omega)
    have := ln_40 hw (i := (k : Int)) ⟨by omega, by omega⟩
    rw [gg]
    split <;> omega
theorem Rec_greatest {c h k p w : Nat → Int32} {n : Int32} {a : Nat → Int} (hw : WF a) (hr : RRec c h k p w n a) : f_Rec_greatestGeneration p n = some (iI (gg a (a 2).toNat)) := by
  have b2 := hw.b2
  unfold f_Rec_greatestGeneration
  rw [bnd_s]
  refine seq2 (body := f_Rec_greatestGeneration_5 p n) (fun k : Nat => iI (gg a k)) (fun k : Nat => iI k) (a 2).toNat (fun k => ?_) (fun m hm k => ?_) FUEL 0 (Nat.zero_le _) (fuel_lt (by omega))
  · unfold f_Rec_greatestGeneration_5
    rw [if_pos (by rw [hr.1, iI_le (by omega) (by omega) (by omega) (by omega)]; omega)]
  · have hm2 : (m : Int) < a 2 := by omega
    have hg := gg_le hw m (by omega)
    have hl := ln_40 hw (i := (m : Int)) ⟨by omega, hm2⟩
    unfold f_Rec_greatestGeneration_5 imax
    rw [if_neg (by rw [hr.1, iI_le (by omega) (by omega) (by omega) (by omega)]; omega), show iI (m : Int) = n9 (m : Int) from (n9_pos (by omega)).symm, Rec_generationOf hw hr ⟨by omega, hm2⟩ (by omega), cal_some, n9_pos (show (0 : Int) ≤ (m : Int) by omega), l_1, iI_add, gg]
    simp (disch := omega) only [iI_lt]
    split <;> rfl
