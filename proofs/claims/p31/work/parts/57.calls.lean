/-! the class's calls, on the way that the law takes -/
theorem Arr_fill (rk : Nat → Int32) : ∃ rk', f_Arr_fill rk (-9) = some rk' ∧ ∀ j, j < 54 → rk' j = -9 := by
  refine ⟨fun i => if i < 54 then -9 else rk i, ?_, fun j hj => if_pos hj⟩
  unfold f_Arr_fill
  suffices hs : rl2 (f_Arr_fill_5 (-9)) FUEL 0 (fun i => if i < 0 then (-9 : Int32) else rk i) = some (fun i => if i < 54 then -9 else rk i) by
    rw [show (fun i => if i < 0 then (-9 : Int32) else rk i) = rk from funext fun i => if_neg (by omega)] at hs
    exact hs
  refine seq2 (body := f_Arr_fill_5 (-9)) (fun j : Nat => iI j) (fun j => fun i => if i < j then (-9 : Int32) else rk i) 54 (fun g => ?_) (fun j hj g => ?_) FUEL 0 (Nat.zero_le _) (fuel_lt (by omega))
  · unfold f_Arr_fill_5
    rw [if_pos (by rw [l_54]; exact (iI_le (by omega) (by omega) (by omega) (by omega)).mpr (by omega))]
  · unfold f_Arr_fill_5
    rw [if_neg (by rw [l_54]; exact iI_nle (by omega) (by omega) (by omega)), gd_t (k54 hj), kcl (by omega), iI_s]
    congr 1
    funext i
    unfold upd
    by_cases q : i = j
    · rw [if_pos q, if_pos (by omega)]
    · rw [if_neg q]
      show (if i < j then (-9 : Int32) else rk i) = _
      by_cases r : i < j
      · rw [if_pos r, if_pos (by omega)]
      · rw [if_neg r, if_neg (by omega)]
theorem rP_t {p : Prop} {i : Decidable p} (h : p) : f_TR_requirePlace (@bI p i) = some 0 := by rw [bI_t h]; rfl
theorem rA_t {p : Prop} {i : Decidable p} (h : p) : f_TR_requireArgument (@bI p i) = some 0 := by rw [bI_t h]; rfl
theorem rS_t {p : Prop} {i : Decidable p} (h : p) : f_TR_requireState (@bI p i) = some 0 := by rw [bI_t h]; rfl
theorem rA_1 : f_TR_requireArgument 1 = some 0 := by rfl
theorem rS_1 : f_TR_requireState 1 = some 0 := by rfl
theorem rK_t {a : Nat → Int} (hw : WF a) {h k : Int} (c : isK a h k) : f_TR_requireKey (iI (a 0)) (iI h) (iI k) = some 0 := by
  have s1 := isK_sm hw c
  unfold f_TR_requireKey
  rw [Str_hasKey hw (by omega) (by omega), cal_some, rP_t c, cal_some]
theorem n9_ne {z : Int} (h0 : 0 ≤ z) (h1 : z < 2147483648) : ¬ n9 z = -9 := by
  rw [l_9, iI_neg, n9_eq h1]
  omega
theorem l_m9 : (-9 : Int32) = iI (-9) := rfl
theorem n9_lt {z : Int} (h1 : -2147483648 ≤ z) (h2 : z < 2147483648) : (n9 z < 0) ↔ z < 0 := by
  by_cases c : z < 0
  · rw [n9_neg c]
    exact ⟨fun _ => c, fun _ => by decide⟩
  · rw [n9_pos (by omega), iI_neg0 ⟨h1, h2⟩]
theorem n9_ge {z : Int} (h1 : -2147483648 ≤ z) (h2 : z < 2147483648) : (0 ≤ n9 z) ↔ 0 ≤ z := by
  by_cases c : z < 0
  · rw [n9_neg c]
    exact ⟨fun h => absurd h (by decide), fun h => by omega⟩
  · rw [n9_pos (by omega), l_0, iI_le (by omega) (by omega) h1 h2]
theorem rt_cd {a : Nat → Int} (hw : WF a) {i : Int} (hi : ok a i) (h0 : 0 ≤ i) : ok a (rt a i) ∧ 0 ≤ rt a i := by
  have h1 := rt_ok hw hi h0
  exact ⟨⟨by omega, h1.2⟩, h1.1⟩
section CALLS
variable {c h k p w : Nat → Int32} {n : Int32} {dh dc dt : Nat → Int32} {dn on : Int32} {rk : Nat → Int32} {H no re : Int32} {sx : Int64} {a : Nat → Int} {x : Int64}
theorem t_about0 (hw : WF a) (hr : RSf c h k p w n dh dc dt dn on rk H no re sx a x) : f_TR_about p w n dn on rk H no re 0 = some (iI (a 0)) := by
  obtain ⟨h1, h2, h3, rfl, rfl, rfl, h7⟩ := hr
  unfold f_TR_about
  rw [show f_TR_isWithin 0 0 9 = some 1 by decide +kernel, cal_some, rA_1, cal_some, if_pos (show (0 : Int32) = 0 from rfl), show f_Str_houses (iI (a 0)) = some (iI (a 0)) from rfl, cal_some]
theorem t_about1 (hw : WF a) (hr : RSf c h k p w n dh dc dt dn on rk H no re sx a x) : f_TR_about p w n dn on rk H no re 1 = some (iI (a 1)) := by
  obtain ⟨h1, h2, h3, rfl, rfl, rfl, h7⟩ := hr
  unfold f_TR_about
  rw [show f_TR_isWithin 1 0 9 = some 1 by decide +kernel, cal_some, rA_1, cal_some, if_neg (show ¬ (1 : Int32) = 0 by decide), if_pos (show (1 : Int32) = 1 from rfl), show f_Dev_count dn = some dn from rfl, cal_some, h2.1]
theorem t_about2 (hw : WF a) (hr : RSf c h k p w n dh dc dt dn on rk H no re sx a x) : f_TR_about p w n dn on rk H no re 2 = some (iI (a 2)) := by
  obtain ⟨h1, h2, h3, rfl, rfl, rfl, h7⟩ := hr
  unfold f_TR_about
  rw [show f_TR_isWithin 2 0 9 = some 1 by decide +kernel, cal_some, rA_1, cal_some, if_neg (show ¬ (2 : Int32) = 0 by decide), if_neg (show ¬ (2 : Int32) = 1 by decide), if_pos (show (2 : Int32) = 2 from rfl), show f_Rec_count n = some n from rfl, cal_some, h1.1]
theorem t_about3 (hw : WF a) (hr : RSf c h k p w n dh dc dt dn on rk H no re sx a x) : f_TR_about p w n dn on rk H no re 3 = some (iI (a 3)) := by
  obtain ⟨h1, h2, h3, rfl, rfl, rfl, h7⟩ := hr
  unfold f_TR_about
  rw [show f_TR_isWithin 3 0 9 = some 1 by decide +kernel, cal_some, rA_1, cal_some, if_neg (show ¬ (3 : Int32) = 0 by decide), if_neg (show ¬ (3 : Int32) = 1 by decide), if_neg (show ¬ (3 : Int32) = 2 by decide), if_pos (show (3 : Int32) = 3 from rfl), show f_Str_noise (iI (a 3)) = some (iI (a 3)) from rfl, cal_some]
theorem t_about4 (hw : WF a) (hr : RSf c h k p w n dh dc dt dn on rk H no re sx a x) : f_TR_about p w n dn on rk H no re 4 = some (iI (a 4)) := by
  obtain ⟨h1, h2, h3, rfl, rfl, rfl, h7⟩ := hr
  unfold f_TR_about
  rw [show f_TR_isWithin 4 0 9 = some 1 by decide +kernel, cal_some, rA_1, cal_some, if_neg (show ¬ (4 : Int32) = 0 by decide), if_neg (show ¬ (4 : Int32) = 1 by decide), if_neg (show ¬ (4 : Int32) = 2 by decide), if_neg (show ¬ (4 : Int32) = 3 by decide), if_pos (show (4 : Int32) = 4 from rfl), show f_Str_reach (iI (a 4)) = some (iI (a 4)) from rfl, cal_some]
theorem t_about5 (hw : WF a) (hr : RSf c h k p w n dh dc dt dn on rk H no re sx a x) : f_TR_about p w n dn on rk H no re 5 = some (iI (a 2 - cn (fun i => a (62 + 5 * i) = -1) (a 2).toNat)) := by
  obtain ⟨h1, h2, h3, rfl, rfl, rfl, h7⟩ := hr
  unfold f_TR_about
  rw [show f_TR_isWithin 5 0 9 = some 1 by decide +kernel, cal_some, rA_1, cal_some, if_neg (show ¬ (5 : Int32) = 0 by decide), if_neg (show ¬ (5 : Int32) = 1 by decide), if_neg (show ¬ (5 : Int32) = 2 by decide), if_neg (show ¬ (5 : Int32) = 3 by decide), if_neg (show ¬ (5 : Int32) = 4 by decide), if_pos (show (5 : Int32) = 5 from rfl), Rec_taught hw h1, cal_some]
theorem t_about6 (hw : WF a) (hr : RSf c h k p w n dh dc dt dn on rk H no re sx a x) : f_TR_about p w n dn on rk H no re 6 = some (iI (cn (fun i => 0 ≤ a (63 + 5 * i)) (a 2).toNat)) := by
  obtain ⟨h1, h2, h3, rfl, rfl, rfl, h7⟩ := hr
  unfold f_TR_about
  rw [show f_TR_isWithin 6 0 9 = some 1 by decide +kernel, cal_some, rA_1, cal_some, if_neg (show ¬ (6 : Int32) = 0 by decide), if_neg (show ¬ (6 : Int32) = 1 by decide), if_neg (show ¬ (6 : Int32) = 2 by decide), if_neg (show ¬ (6 : Int32) = 3 by decide), if_neg (show ¬ (6 : Int32) = 4 by decide), if_neg (show ¬ (6 : Int32) = 5 by decide), if_pos (show (6 : Int32) = 6 from rfl), Rec_wrong hw h1, cal_some]
theorem t_about7 (hw : WF a) (hr : RSf c h k p w n dh dc dt dn on rk H no re sx a x) : f_TR_about p w n dn on rk H no re 7 = some (iI (onm a)) := by
  obtain ⟨h1, h2, h3, rfl, rfl, rfl, h7⟩ := hr
  unfold f_TR_about
  rw [show f_TR_isWithin 7 0 9 = some 1 by decide +kernel, cal_some, rA_1, cal_some, if_neg (show ¬ (7 : Int32) = 0 by decide), if_neg (show ¬ (7 : Int32) = 1 by decide), if_neg (show ¬ (7 : Int32) = 2 by decide), if_neg (show ¬ (7 : Int32) = 3 by decide), if_neg (show ¬ (7 : Int32) = 4 by decide), if_neg (show ¬ (7 : Int32) = 5 by decide), if_neg (show ¬ (7 : Int32) = 6 by decide), if_pos (show (7 : Int32) = 7 from rfl), show f_Dev_on on = some on from rfl, cal_some, h2.2.1]
theorem t_about8 (hw : WF a) (hr : RSf c h k p w n dh dc dt dn on rk H no re sx a x) : f_TR_about p w n dn on rk H no re 8 = some (iI (cn (fun i => (rmk a 54).testBit i = true) 40)) := by
  obtain ⟨h1, h2, h3, rfl, rfl, rfl, h7⟩ := hr
  unfold f_TR_about
  rw [show f_TR_isWithin 8 0 9 = some 1 by decide +kernel, cal_some, rA_1, cal_some, if_neg (show ¬ (8 : Int32) = 0 by decide), if_neg (show ¬ (8 : Int32) = 1 by decide), if_neg (show ¬ (8 : Int32) = 2 by decide), if_neg (show ¬ (8 : Int32) = 3 by decide), if_neg (show ¬ (8 : Int32) = 4 by decide), if_neg (show ¬ (8 : Int32) = 5 by decide), if_neg (show ¬ (8 : Int32) = 6 by decide), if_neg (show ¬ (8 : Int32) = 7 by decide), if_pos (show (8 : Int32) = 8 from rfl), Str_differentRoots hw h1 h3, cal_some]
theorem t_about9 (hw : WF a) (hr : RSf c h k p w n dh dc dt dn on rk H no re sx a x) : f_TR_about p w n dn on rk H no re 9 = some (iI (gg a (a 2).toNat)) := by
  obtain ⟨h1, h2, h3, rfl, rfl, rfl, h7⟩ := hr
  unfold f_TR_about
  rw [show f_TR_isWithin 9 0 9 = some 1 by decide +kernel, cal_some, rA_1, cal_some, if_neg (show ¬ (9 : Int32) = 0 by decide), if_neg (show ¬ (9 : Int32) = 1 by decide), if_neg (show ¬ (9 : Int32) = 2 by decide), if_neg (show ¬ (9 : Int32) = 3 by decide), if_neg (show ¬ (9 : Int32) = 4 by decide), if_neg (show ¬ (9 : Int32) = 5 by decide), if_neg (show ¬ (9 : Int32) = 6 by decide), if_neg (show ¬ (9 : Int32) = 7 by decide), if_neg (show ¬ (9 : Int32) = 8 by decide), Rec_greatest hw h1, cal_some]
theorem t_key0 (hw : WF a) (hr : RSf c h k p w n dh dc dt dn on rk H no re sx a x) {y z : Int} (q : isK a y z) : f_TR_key c h p w n rk H (iI y) (iI z) 0 = some (iI (cd a (kr a y z))) := by
  obtain ⟨h1, h2, h3, rfl, rfl, rfl, h7⟩ := hr
  have b2 := hw.b2
  have hk := kr_ok hw q
  have hks := hk
  unfold ok at hks
  unfold f_TR_key
  rw [rK_t hw q, cal_some, show f_TR_isWithin 0 0 5 = some 1 by decide +kernel, cal_some, rA_1, cal_some, Str_recordOf hw h3 q, cal_some]
  by_cases q3 : 0 ≤ kr a y z
  · have hrt := rt_cd hw hk q3
    have hcd := cd_sm hw hk
    have hcr := cd_sm hw hrt.1
    rw [if_pos (n9_ne q3 (by omega)), Rec_rootOf hw h1 hk q3, cal_some, if_pos (show (0 : Int32) = 0 from rfl), Rec_codeOf hw h1 hk, cal_some]
  · rw [if_neg (show ¬ ¬ n9 (kr a y z) = -9 from fun z => z (by rw [l_9, iI_neg, n9_eq (by omega)]; omega))]
    unfold cd
    rw [if_pos (show kr a y z < 0 by omega)]
    rfl
theorem t_key1 (hw : WF a) (hr : RSf c h k p w n dh dc dt dn on rk H no re sx a x) {y z : Int} (q : isK a y z) : f_TR_key c h p w n rk H (iI y) (iI z) 1 = some (n9 (kr a y z)) := by
  obtain ⟨h1, h2, h3, rfl, rfl, rfl, h7⟩ := hr
  have b2 := hw.b2
  have hk := kr_ok hw q
  have hks := hk
  unfold ok at hks
  unfold f_TR_key
  rw [rK_t hw q, cal_some, show f_TR_isWithin 1 0 5 = some 1 by decide +kernel, cal_some, rA_1, cal_some, Str_recordOf hw h3 q, cal_some]
  by_cases q3 : 0 ≤ kr a y z
  · have hrt := rt_cd hw hk q3
    have hcd := cd_sm hw hk
    have hcr := cd_sm hw hrt.1
    rw [if_pos (n9_ne q3 (by omega)), Rec_rootOf hw h1 hk q3, cal_some, if_neg (show ¬ (1 : Int32) = 0 by decide), if_pos (show (1 : Int32) = 1 from rfl)]
  · rw [if_neg (show ¬ ¬ n9 (kr a y z) = -9 from fun z => z (by rw [l_9, iI_neg, n9_eq (by omega)]; omega))]
    rw [n9_neg (show kr a y z < 0 by omega)]
    rfl
theorem t_key2 (hw : WF a) (hr : RSf c h k p w n dh dc dt dn on rk H no re sx a x) {y z : Int} (q : isK a y z) (q3 : 0 ≤ kr a y z) : f_TR_key c h p w n rk H (iI y) (iI z) 2 = some (iI (ln a (kr a y z) - 1)) := by
  obtain ⟨h1, h2, h3, rfl, rfl, rfl, h7⟩ := hr
  have b2 := hw.b2
  have hk := kr_ok hw q
  have hks := hk
  unfold ok at hks
  unfold f_TR_key
  rw [rK_t hw q, cal_some, show f_TR_isWithin 2 0 5 = some 1 by decide +kernel, cal_some, rA_1, cal_some, Str_recordOf hw h3 q, cal_some]
  have hrt := rt_cd hw hk q3
  have hcd := cd_sm hw hk
  have hcr := cd_sm hw hrt.1
  rw [if_pos (n9_ne q3 (by omega)), Rec_rootOf hw h1 hk q3, cal_some, if_neg (show ¬ (2 : Int32) = 0 by decide), if_neg (show ¬ (2 : Int32) = 1 by decide), if_pos (show (2 : Int32) = 2 from rfl), Rec_generationOf hw h1 hk q3, cal_some]
theorem t_key3 (hw : WF a) (hr : RSf c h k p w n dh dc dt dn on rk H no re sx a x) {y z : Int} (q : isK a y z) (q3 : 0 ≤ kr a y z) : f_TR_key c h p w n rk H (iI y) (iI z) 3 = some (iI (hs a (rt a (kr a y z)))) := by
  obtain ⟨h1, h2, h3, rfl, rfl, rfl, h7⟩ := hr
  have b2 := hw.b2
  have hk := kr_ok hw q
  have hks := hk
  unfold ok at hks
  unfold f_TR_key
  rw [rK_t hw q, cal_some, show f_TR_isWithin 3 0 5 = some 1 by decide +kernel, cal_some, rA_1, cal_some, Str_recordOf hw h3 q, cal_some]
  have hrt := rt_cd hw hk q3
  have hcd := cd_sm hw hk
  have hcr := cd_sm hw hrt.1
  rw [if_pos (n9_ne q3 (by omega)), Rec_rootOf hw h1 hk q3, cal_some, if_neg (show ¬ (3 : Int32) = 0 by decide), if_neg (show ¬ (3 : Int32) = 1 by decide), if_neg (show ¬ (3 : Int32) = 2 by decide), if_pos (show (3 : Int32) = 3 from rfl), Rec_houseOf hw h1 hrt.1, cal_some]
theorem t_key4 (hw : WF a) (hr : RSf c h k p w n dh dc dt dn on rk H no re sx a x) {y z : Int} (q : isK a y z) (q3 : 0 ≤ kr a y z) : f_TR_key c h p w n rk H (iI y) (iI z) 4 = some (iI (swb a (kr a y z) (ln a (kr a y z)))) := by
  obtain ⟨h1, h2, h3, rfl, rfl, rfl, h7⟩ := hr
  have b2 := hw.b2
  have hk := kr_ok hw q
  have hks := hk
  unfold ok at hks
  unfold f_TR_key
  rw [rK_t hw q, cal_some, show f_TR_isWithin 4 0 5 = some 1 by decide +kernel, cal_some, rA_1, cal_some, Str_recordOf hw h3 q, cal_some]
  have hrt := rt_cd hw hk q3
  have hcd := cd_sm hw hk
  have hcr := cd_sm hw hrt.1
  rw [if_pos (n9_ne q3 (by omega)), Rec_rootOf hw h1 hk q3, cal_some, if_neg (show ¬ (4 : Int32) = 0 by decide), if_neg (show ¬ (4 : Int32) = 1 by decide), if_neg (show ¬ (4 : Int32) = 2 by decide), if_neg (show ¬ (4 : Int32) = 3 by decide), if_pos (show (4 : Int32) = 4 from rfl), Rec_wrongBits hw h1 hk, cal_some]
theorem t_key5 (hw : WF a) (hr : RSf c h k p w n dh dc dt dn on rk H no re sx a x) {y z : Int} (q : isK a y z) (q3 : 0 ≤ kr a y z) : f_TR_key c h p w n rk H (iI y) (iI z) 5 = some (iI (ap (cd a (kr a y z)) (cd a (rt a (kr a y z))))) := by
  obtain ⟨h1, h2, h3, rfl, rfl, rfl, h7⟩ := hr
  have b2 := hw.b2
  have hk := kr_ok hw q
  have hks := hk
  unfold ok at hks
  unfold f_TR_key
  rw [rK_t hw q, cal_some, show f_TR_isWithin 5 0 5 = some 1 by decide +kernel, cal_some, rA_1, cal_some, Str_recordOf hw h3 q, cal_some]
  have hrt := rt_cd hw hk q3
  have hcd := cd_sm hw hk
  have hcr := cd_sm hw hrt.1
  rw [if_pos (n9_ne q3 (by omega)), Rec_rootOf hw h1 hk q3, cal_some, if_neg (show ¬ (5 : Int32) = 0 by decide), if_neg (show ¬ (5 : Int32) = 1 by decide), if_neg (show ¬ (5 : Int32) = 2 by decide), if_neg (show ¬ (5 : Int32) = 3 by decide), if_neg (show ¬ (5 : Int32) = 4 by decide), Rec_codeOf hw h1 hk, cal_some, Rec_codeOf hw h1 hrt.1, cal_some, TR_apart (by omega) (by omega) (by omega) (by omega), cal_some]
theorem t_record0 (hw : WF a) (hr : RSf c h k p w n dh dc dt dn on rk H no re sx a x) {i : Int} (q : 0 ≤ i) (q2 : i < a 2) : f_TR_record c h k p w n rk (iI i) 0 = some (n9 (nx a i)) := by
  obtain ⟨h1, h2, h3, rfl, rfl, rfl, h7⟩ := hr
  have b2 := hw.b2
  have hk : ok a i := ⟨by omega, q2⟩
  unfold f_TR_record
  rw [show f_Rec_has n (iI i) = some (bI (0 ≤ i ∧ i < a 2)) by rw [h1.1]; exact Rec_has b2.1 b2.2 (by omega) (by omega), cal_some, rP_t ⟨q, q2⟩, cal_some, show f_TR_isWithin 0 0 6 = some 1 by decide +kernel, cal_some, rA_1, cal_some, if_pos (show (0 : Int32) = 0 from rfl), ← n9_pos q, Rec_parentOf hw h1 hk, cal_some]
theorem t_record1 (hw : WF a) (hr : RSf c h k p w n dh dc dt dn on rk H no re sx a x) {i : Int} (q : 0 ≤ i) (q2 : i < a 2) : f_TR_record c h k p w n rk (iI i) 1 = some (iI (hs a i)) := by
  obtain ⟨h1, h2, h3, rfl, rfl, rfl, h7⟩ := hr
  have b2 := hw.b2
  have hk : ok a i := ⟨by omega, q2⟩
  unfold f_TR_record
  rw [show f_Rec_has n (iI i) = some (bI (0 ≤ i ∧ i < a 2)) by rw [h1.1]; exact Rec_has b2.1 b2.2 (by omega) (by omega), cal_some, rP_t ⟨q, q2⟩, cal_some, show f_TR_isWithin 1 0 6 = some 1 by decide +kernel, cal_some, rA_1, cal_some, if_neg (show ¬ (1 : Int32) = 0 by decide), if_pos (show (1 : Int32) = 1 from rfl), ← n9_pos q, Rec_houseOf hw h1 hk, cal_some]
theorem t_record2 (hw : WF a) (hr : RSf c h k p w n dh dc dt dn on rk H no re sx a x) {i : Int} (q : 0 ≤ i) (q2 : i < a 2) : f_TR_record c h k p w n rk (iI i) 2 = some (iI (kk a i)) := by
  obtain ⟨h1, h2, h3, rfl, rfl, rfl, h7⟩ := hr
  have b2 := hw.b2
  have hk : ok a i := ⟨by omega, q2⟩
  unfold f_TR_record
  rw [show f_Rec_has n (iI i) = some (bI (0 ≤ i ∧ i < a 2)) by rw [h1.1]; exact Rec_has b2.1 b2.2 (by omega) (by omega), cal_some, rP_t ⟨q, q2⟩, cal_some, show f_TR_isWithin 2 0 6 = some 1 by decide +kernel, cal_some, rA_1, cal_some, if_neg (show ¬ (2 : Int32) = 0 by decide), if_neg (show ¬ (2 : Int32) = 1 by decide), if_pos (show (2 : Int32) = 2 from rfl), ← n9_pos q, Rec_keyOf hw h1 hk, cal_some]
theorem t_record3 (hw : WF a) (hr : RSf c h k p w n dh dc dt dn on rk H no re sx a x) {i : Int} (q : 0 ≤ i) (q2 : i < a 2) : f_TR_record c h k p w n rk (iI i) 3 = some (iI (cd a i)) := by
  obtain ⟨h1, h2, h3, rfl, rfl, rfl, h7⟩ := hr
  have b2 := hw.b2
  have hk : ok a i := ⟨by omega, q2⟩
  unfold f_TR_record
  rw [show f_Rec_has n (iI i) = some (bI (0 ≤ i ∧ i < a 2)) by rw [h1.1]; exact Rec_has b2.1 b2.2 (by omega) (by omega), cal_some, rP_t ⟨q, q2⟩, cal_some, show f_TR_isWithin 3 0 6 = some 1 by decide +kernel, cal_some, rA_1, cal_some, if_neg (show ¬ (3 : Int32) = 0 by decide), if_neg (show ¬ (3 : Int32) = 1 by decide), if_neg (show ¬ (3 : Int32) = 2 by decide), if_pos (show (3 : Int32) = 3 from rfl), ← n9_pos q, Rec_codeOf hw h1 hk, cal_some]
theorem t_record4 (hw : WF a) (hr : RSf c h k p w n dh dc dt dn on rk H no re sx a x) {i : Int} (q : 0 ≤ i) (q2 : i < a 2) : f_TR_record c h k p w n rk (iI i) 4 = some (n9 (wr a i)) := by
  obtain ⟨h1, h2, h3, rfl, rfl, rfl, h7⟩ := hr
  have b2 := hw.b2
  have hk : ok a i := ⟨by omega, q2⟩
  unfold f_TR_record
  rw [show f_Rec_has n (iI i) = some (bI (0 ≤ i ∧ i < a 2)) by rw [h1.1]; exact Rec_has b2.1 b2.2 (by omega) (by omega), cal_some, rP_t ⟨q, q2⟩, cal_some, show f_TR_isWithin 4 0 6 = some 1 by decide +kernel, cal_some, rA_1, cal_some, if_neg (show ¬ (4 : Int32) = 0 by decide), if_neg (show ¬ (4 : Int32) = 1 by decide), if_neg (show ¬ (4 : Int32) = 2 by decide), if_neg (show ¬ (4 : Int32) = 3 by decide), if_pos (show (4 : Int32) = 4 from rfl), ← n9_pos q, Rec_wrongBitOf hw h1 hk, cal_some]
theorem t_record5 (hw : WF a) (hr : RSf c h k p w n dh dc dt dn on rk H no re sx a x) {i : Int} (q : 0 ≤ i) (q2 : i < a 2) : f_TR_record c h k p w n rk (iI i) 5 = some (iI (cn (fun j => a (62 + 5 * j) = i) (a 2).toNat)) := by
  obtain ⟨h1, h2, h3, rfl, rfl, rfl, h7⟩ := hr
  have b2 := hw.b2
  have hk : ok a i := ⟨by omega, q2⟩
  unfold f_TR_record
  rw [show f_Rec_has n (iI i) = some (bI (0 ≤ i ∧ i < a 2)) by rw [h1.1]; exact Rec_has b2.1 b2.2 (by omega) (by omega), cal_some, rP_t ⟨q, q2⟩, cal_some, show f_TR_isWithin 5 0 6 = some 1 by decide +kernel, cal_some, rA_1, cal_some, if_neg (show ¬ (5 : Int32) = 0 by decide), if_neg (show ¬ (5 : Int32) = 1 by decide), if_neg (show ¬ (5 : Int32) = 2 by decide), if_neg (show ¬ (5 : Int32) = 3 by decide), if_neg (show ¬ (5 : Int32) = 4 by decide), if_pos (show (5 : Int32) = 5 from rfl), ← n9_pos q, Rec_childrenOf hw h1 (by omega) (by omega), cal_some]
theorem cn_pos {p : Nat → Prop} [DecidablePred p] {j : Nat} (hp : p j) : ∀ n, j < n → 0 < cn p n := by
  intro n
  induction n with
  | zero => intro h; omega
  | succ n ih =>
    intro h
    have := (cn_le p n).1
    rw [cn]
    by_cases e : j = n
    · rw [e] at hp
      rw [if_pos hp]
      omega
    · have := ih (by omega)
      split <;> omega
theorem t_record6 (hw : WF a) (hr : RSf c h k p w n dh dc dt dn on rk H no re sx a x) {i : Int} (q : 0 ≤ i) (q2 : i < a 2) {m : Nat} (hm : m < 54) (hi : inC a i (a (5 + m))) : ∃ r : Int, 0 < r ∧ r < 2147483648 ∧ f_TR_record c h k p w n rk (iI i) 6 = some (iI r) := by
  obtain ⟨h1, h2, h3, rfl, rfl, rfl, h7⟩ := hr
  have b2 := hw.b2
  have hk : ok a i := ⟨by omega, q2⟩
  have dec : DecidablePred (fun m => inC a i (a (5 + m))) := fun _ => Classical.propDecidable _
  refine ⟨cn (fun m => inC a i (a (5 + m))) 54, cn_pos (p := fun m => inC a i (a (5 + m))) hi 54 hm, ?_, ?_⟩
  · have := (cn_le (fun m => inC a i (a (5 + m))) 54).2
    omega
  · unfold f_TR_record
    rw [show f_Rec_has n (iI i) = some (bI (0 ≤ i ∧ i < a 2)) by rw [h1.1]; exact Rec_has b2.1 b2.2 (by omega) (by omega), cal_some, rP_t ⟨q, q2⟩, cal_some, show f_TR_isWithin 6 0 6 = some 1 by decide +kernel, cal_some, rA_1, cal_some, if_neg (show ¬ (6 : Int32) = 0 by decide), if_neg (show ¬ (6 : Int32) = 1 by decide), if_neg (show ¬ (6 : Int32) = 2 by decide), if_neg (show ¬ (6 : Int32) = 3 by decide), if_neg (show ¬ (6 : Int32) = 4 by decide), if_neg (show ¬ (6 : Int32) = 5 by decide), Str_keysFrom hw h1 h3 (by omega) (by omega), cal_some]
theorem t_device0 (hw : WF a) (hr : RSf c h k p w n dh dc dt dn on rk H no re sx a x) {d : Nat} (hd : (d : Int) < a 1) : f_TR_device c n dh dc dt dn on rk H (iI d) 0 = some (iI (a (259 + 4 * d))) := by
  obtain ⟨h1, h2, h3, rfl, rfl, rfl, h7⟩ := hr
  have b1 := hw.b1
  unfold f_TR_device
  rw [show f_Dev_has dn (iI d) = some (bI (0 ≤ (d : Int) ∧ (d : Int) < a 1)) by rw [h2.1]; exact Dev_has b1.1 b1.2 (by omega), cal_some, rP_t ⟨by omega, hd⟩, cal_some, show f_TR_isWithin 0 0 4 = some 1 by decide +kernel, cal_some, rA_1, cal_some, if_pos (show (0 : Int32) = 0 from rfl), Dev_houseOf hw h2 hd, cal_some]
theorem t_device1 (hw : WF a) (hr : RSf c h k p w n dh dc dt dn on rk H no re sx a x) {d : Nat} (hd : (d : Int) < a 1) : f_TR_device c n dh dc dt dn on rk H (iI d) 1 = some (iI (a (260 + 4 * d))) := by
  obtain ⟨h1, h2, h3, rfl, rfl, rfl, h7⟩ := hr
  have b1 := hw.b1
  unfold f_TR_device
  rw [show f_Dev_has dn (iI d) = some (bI (0 ≤ (d : Int) ∧ (d : Int) < a 1)) by rw [h2.1]; exact Dev_has b1.1 b1.2 (by omega), cal_some, rP_t ⟨by omega, hd⟩, cal_some, show f_TR_isWithin 1 0 4 = some 1 by decide +kernel, cal_some, rA_1, cal_some, if_neg (show ¬ (1 : Int32) = 0 by decide), if_pos (show (1 : Int32) = 1 from rfl), Dev_codeOf hw h2 hd, cal_some]
theorem t_device2 (hw : WF a) (hr : RSf c h k p w n dh dc dt dn on rk H no re sx a x) {d : Nat} (hd : (d : Int) < a 1) : f_TR_device c n dh dc dt dn on rk H (iI d) 2 = some (iI (a (261 + 4 * d))) := by
  obtain ⟨h1, h2, h3, rfl, rfl, rfl, h7⟩ := hr
  have b1 := hw.b1
  unfold f_TR_device
  rw [show f_Dev_has dn (iI d) = some (bI (0 ≤ (d : Int) ∧ (d : Int) < a 1)) by rw [h2.1]; exact Dev_has b1.1 b1.2 (by omega), cal_some, rP_t ⟨by omega, hd⟩, cal_some, show f_TR_isWithin 2 0 4 = some 1 by decide +kernel, cal_some, rA_1, cal_some, if_neg (show ¬ (2 : Int32) = 0 by decide), if_neg (show ¬ (2 : Int32) = 1 by decide), if_pos (show (2 : Int32) = 2 from rfl), Dev_toleranceOf hw h2 hd, cal_some]
theorem t_device3 (hw : WF a) (hr : RSf c h k p w n dh dc dt dn on rk H no re sx a x) {d : Nat} (hd : (d : Int) < a 1) : f_TR_device c n dh dc dt dn on rk H (iI d) 3 = some (iI (a (262 + 4 * d))) := by
  obtain ⟨h1, h2, h3, rfl, rfl, rfl, h7⟩ := hr
  have b1 := hw.b1
  unfold f_TR_device
  rw [show f_Dev_has dn (iI d) = some (bI (0 ≤ (d : Int) ∧ (d : Int) < a 1)) by rw [h2.1]; exact Dev_has b1.1 b1.2 (by omega), cal_some, rP_t ⟨by omega, hd⟩, cal_some, show f_TR_isWithin 3 0 4 = some 1 by decide +kernel, cal_some, rA_1, cal_some, if_neg (show ¬ (3 : Int32) = 0 by decide), if_neg (show ¬ (3 : Int32) = 1 by decide), if_neg (show ¬ (3 : Int32) = 2 by decide), if_pos (show (3 : Int32) = 3 from rfl), Dev_isOn hw h2 hd, cal_some]
  have ho := (hw.on (d := d) (by omega)).1
  by_cases g : a (262 + 4 * d) = 0
  · rw [if_pos (by rw [g]; rfl), g]
    rfl
  · rw [if_neg (by rw [l_0, iI_eq (by omega) (by omega) (by omega) (by omega)]; exact g), show a (262 + 4 * d) = 1 by omega]
    rfl
theorem t_device4 (hw : WF a) (hr : RSf c h k p w n dh dc dt dn on rk H no re sx a x) {d : Nat} (hd : (d : Int) < a 1) : f_TR_device c n dh dc dt dn on rk H (iI d) 4 = some (iI (cn (kaP a d) (6 * (a 0).toNat))) := by
  obtain ⟨h1, h2, h3, rfl, rfl, rfl, h7⟩ := hr
  have b1 := hw.b1
  unfold f_TR_device
  rw [show f_Dev_has dn (iI d) = some (bI (0 ≤ (d : Int) ∧ (d : Int) < a 1)) by rw [h2.1]; exact Dev_has b1.1 b1.2 (by omega), cal_some, rP_t ⟨by omega, hd⟩, cal_some, show f_TR_isWithin 4 0 4 = some 1 by decide +kernel, cal_some, rA_1, cal_some, if_neg (show ¬ (4 : Int32) = 0 by decide), if_neg (show ¬ (4 : Int32) = 1 by decide), if_neg (show ¬ (4 : Int32) = 2 by decide), if_neg (show ¬ (4 : Int32) = 3 by decide), Str_keysAcceptedBy hw h1 h3 h2 hd, cal_some]
theorem t_trace (hw : WF a) (hr : RSf c h k p w n dh dc dt dn on rk H no re sx a x) {y z : Int} (q : isK a y z) {m : Nat} (hm : m < 2147483648) : f_TR_trace p n rk H (iI y) (iI z) (iI m) = some (n9 (an a (kr a y z) m)) := by
  obtain ⟨h1, h2, h3, rfl, rfl, rfl, h7⟩ := hr
  unfold f_TR_trace f_TR_trace_15
  rw [rK_t hw q, cal_some, if_neg (by rw [iI_neg0 (by omega)]; omega), rA_1, cal_some, Str_recordOf hw h3 q, cal_some, Rec_ancestorOf hw h1 (kr_ok hw q) (by omega) (by omega), cal_some, Int.toNat_natCast]
theorem t_wentWrong (hw : WF a) (hr : RSf c h k p w n dh dc dt dn on rk H no re sx a x) {y z : Int} (q : isK a y z) : f_TR_wentWrong p w n rk H (iI y) (iI z) = some (n9 (fwr a (kr a y z) (ln a (kr a y z)))) := by
  obtain ⟨h1, h2, h3, rfl, rfl, rfl, h7⟩ := hr
  unfold f_TR_wentWrong
  rw [rK_t hw q, cal_some, Str_recordOf hw h3 q, cal_some, Rec_firstWrong hw h1 (kr_ok hw q), cal_some]
theorem t_common (hw : WF a) (hr : RSf c h k p w n dh dc dt dn on rk H no re sx a x) {y z : Int} (q : isK a y z) (q3 : 0 ≤ kr a y z) : f_TR_common p n rk H (iI y) (iI z) (iI y) (iI z) = some (n9 (kr a y z)) := by
  obtain ⟨h1, h2, h3, rfl, rfl, rfl, h7⟩ := hr
  have hk := kr_ok hw q
  obtain ⟨m, m1, m2⟩ := Rec_meetingOf hw h1 hk hk
  have hin : inC a (kr a y z) (kr a y z) := ⟨q3, 0, rfl⟩
  have em : m = kr a y z := by
    rcases m1 with ⟨e1, e2⟩ | ⟨⟨e0, j, e1⟩, e2, e3⟩
    · exact absurd ⟨hin, hin⟩ (e2 _)
    · have g1 := e3 _ hin hin
      have g2 := an_le hw hk j (by omega)
      omega
  unfold f_TR_common
  rw [rK_t hw q, cal_some, cal_some, Str_recordOf hw h3 q, cal_some, cal_some, m2, cal_some, em]
theorem t_accepted (hw : WF a) (hr : RSf c h k p w n dh dc dt dn on rk H no re sx a x) {y z : Int} (q : isK a y z) : f_TR_accepted c n dh dc dt dn rk H re (iI y) (iI z) = some (nI (am a y (kr a y z))) := by
  obtain ⟨h1, h2, h3, rfl, rfl, rfl, h7⟩ := hr
  unfold f_TR_accepted
  rw [rK_t hw q, cal_some, Str_accepting hw h1 h2 h3 q, cal_some]
theorem t_wouldBe (hw : WF a) (hr : RSf c h k p w n dh dc dt dn on rk H no re sx a x) {y z t : Int} (q : isK a y z) (ht : 0 ≤ t ∧ t < a 0) : f_TR_wouldBe c n rk H no sx (iI y) (iI z) (iI t) = some (iI (if kr a y z < 0 then -9 else lrn a x y (kr a y z) t)) := by
  obtain ⟨h1, h2, h3, rfl, rfl, rfl, rfl⟩ := hr
  have b0 := hw.b0
  unfold f_TR_wouldBe
  rw [rK_t hw q, cal_some, Str_hasHouse hw (by omega), cal_some, rP_t ht, cal_some, Str_codeIfTaught hw h1 h3 _ q ht, cal_some]
theorem t_handed (hw : WF a) (hr : RSf c h k p w n dh dc dt dn on rk H no re sx a x) {y z t : Int} (q : isK a y z) (ht : 0 ≤ t ∧ t < a 0) : f_TR_handed c n rk H no sx (iI y) (iI z) (iI t) = some (iI (if kr a y z < 0 then -9 else (hnd a x (cd a (kr a y z)) (di y t).toNat).1)) := by
  obtain ⟨h1, h2, h3, rfl, rfl, rfl, rfl⟩ := hr
  have b0 := hw.b0
  unfold f_TR_handed
  rw [rK_t hw q, cal_some, Str_hasHouse hw (by omega), cal_some, rP_t ht, cal_some, Str_codeIfHanded hw h1 h3 _ q ht, cal_some]
end CALLS
