/-! the other commands of a script -/
section CMDS
theorem two0 {β : Type} {p q : Prop} {i : Decidable p} {j : Decidable q} {A B : β} (h : p ∨ q) : @ite β p i A (@ite β q j A B) = A := by
  by_cases hp : p
  · rw [if_pos hp]
  · rw [if_neg hp, if_pos (h.resolve_left hp)]
variable {c h k p w : Nat → Int32} {n : Int32} {dh dc dt : Nat → Int32} {dn on : Int32} {rk : Nat → Int32} {H no re : Int32} {a : Nat → Int} {x : Int64}

theorem cm2 {g : Int} (hg : 0 ≤ g ∧ g < 100000) (hv : g / 10000 = 2) (hw : WF a) (hr : RSf c h k p w n dh dc dt dn on rk H no re x a x) : CO dh dc dn H (f_Scr_succeeds c h k p w n dh dc dt dn on rk H no re x (iI g)) (f_M_succeeds (Q a) x (iI g)) := by
  have hr' := hr
  obtain ⟨h1, h2, h3, rfl, rfl, rfl, h7⟩ := hr
  have b0 := hw.b0
  have b1 := hw.b1
  have b2 := hw.b2
  have b4 := hw.b4
  obtain ⟨E2, E3, E4, E5, E1⟩ := digs hg
  rw [hv] at E1
  unfold f_Scr_succeeds f_M_succeeds
  simp only [E1, E2, E3, E4, E5, bnd_s]
  have s2 : 0 ≤ g / 1000 % 10 ∧ g / 1000 % 10 ≤ 9 := by omega
  have s3 : 0 ≤ g / 100 % 10 ∧ g / 100 % 10 ≤ 9 := by omega
  have s4 : 0 ≤ g / 10 % 10 ∧ g / 10 % 10 ≤ 9 := by omega
  have s5 : 0 ≤ g % 10 ∧ g % 10 ≤ 9 := by omega
  generalize g / 1000 % 10 = d2 at *
  generalize g / 100 % 10 = d3 at *
  generalize g / 10 % 10 = d4 at *
  generalize g % 10 = d5 at *
  rw [if_neg (show ¬ iI 2 = 1 by decide), if_pos (show iI 2 = 2 from rfl), M_in15 (by omega), cal_some, if_bI, if_pos (show (1 : Int) ≤ 2 ∧ (2 : Int) ≤ 5 by omega)]
  unfold f_M_acts
  rw [if_neg (show ¬ iI 2 = 1 by decide), if_pos (show iI 2 = 2 from rfl)]
  by_cases q5 : d4 = 0 ∧ d5 = 0
  · rw [if_neg (fun z => z ((dz s4).mpr q5.1)), if_neg (fun z => z ((dz s5).mpr q5.2))]
    unfold f_Scr_presses
    rw [M_isKey hw (by omega) (by omega), cal_some, if_bI]
    by_cases q1 : isK a d2 d3
    · have e := M_key hw q1
      have hz := kr_ok hw q1
      have hzz : sm (kr a d2 d3) := by unfold ok at hz; omega
      rw [Str_hasCode hw h3 q1, cal_some, if_nbI, if_pos q1, M_keyAt, cal_some, gd_t e.1, e.2]
      by_cases q2 : 0 ≤ kr a d2 d3
      · rw [if_pos q2, Str_pressKey hw h1 h2 h3 q1, cal_some, cal_some, if_neg z10, if_neg (by rw [iI_neg0 hzz]; omega), if_pos ((dsum s4 s5).mpr q5), M_presses hw q1, cal_some, cal_some, gd_t (Or.inr rfl)]
        exact CO_1 (prs_WF hw d2 d3) (RS_prs hw hr')
      · rw [if_neg q2, cal_some, if_pos rfl, if_pos ((iI_neg0 hzz).mpr (by omega)), cal_some, gd_t (Or.inl rfl)]
        exact CO_0
    · rw [Str_hasCode_f hw (by omega) (by omega) q1, cal_some, if_neg (fun z => z rfl), cal_some, if_pos rfl, if_neg q1, cal_some, gd_t (Or.inl rfl)]
      exact CO_0
  · rw [two0 (show ¬ iI d4 = 0 ∨ ¬ iI d5 = 0 from (Classical.em (d4 = 0)).elim (fun z4 => Or.inr (fun z => q5 ⟨z4, (dz s5).mp z⟩)) (fun z4 => Or.inl (fun z => z4 ((dz s4).mp z))))]
    rw [M_isKey hw (by omega) (by omega), cal_some, if_bI]
    by_cases q1 : isK a d2 d3
    · have e := M_key hw q1
      have hz := kr_ok hw q1
      have hzz : sm (kr a d2 d3) := by unfold ok at hz; omega
      rw [if_pos q1, M_keyAt, cal_some, gd_t e.1, e.2]
      by_cases q2 : kr a d2 d3 < 0
      · rw [if_pos ((iI_neg0 hzz).mpr q2), cal_some, gd_t (Or.inl rfl)]
        exact CO_0
      · rw [if_neg (by rw [iI_neg0 hzz]; exact q2), if_neg (fun z => q5 ((dsum s4 s5).mp z)), cal_some, gd_t (Or.inl rfl)]
        exact CO_0
    · rw [if_neg q1, cal_some, gd_t (Or.inl rfl)]
      exact CO_0

theorem cm3 {g : Int} (hg : 0 ≤ g ∧ g < 100000) (hv : g / 10000 = 3) (hw : WF a) (hr : RSf c h k p w n dh dc dt dn on rk H no re x a x) : CO dh dc dn H (f_Scr_succeeds c h k p w n dh dc dt dn on rk H no re x (iI g)) (f_M_succeeds (Q a) x (iI g)) := by
  have hr' := hr
  obtain ⟨h1, h2, h3, rfl, rfl, rfl, h7⟩ := hr
  have b0 := hw.b0
  have b1 := hw.b1
  have b2 := hw.b2
  have b4 := hw.b4
  obtain ⟨E2, E3, E4, E5, E1⟩ := digs hg
  rw [hv] at E1
  unfold f_Scr_succeeds f_M_succeeds
  simp only [E1, E2, E3, E4, E5, bnd_s]
  have s2 : 0 ≤ g / 1000 % 10 ∧ g / 1000 % 10 ≤ 9 := by omega
  have s3 : 0 ≤ g / 100 % 10 ∧ g / 100 % 10 ≤ 9 := by omega
  have s4 : 0 ≤ g / 10 % 10 ∧ g / 10 % 10 ≤ 9 := by omega
  have s5 : 0 ≤ g % 10 ∧ g % 10 ≤ 9 := by omega
  generalize g / 1000 % 10 = d2 at *
  generalize g / 100 % 10 = d3 at *
  generalize g / 10 % 10 = d4 at *
  generalize g % 10 = d5 at *
  rw [if_neg (show ¬ iI 3 = 1 by decide), if_neg (show ¬ iI 3 = 2 by decide), if_pos (show iI 3 = 3 from rfl), M_in15 (by omega), cal_some, if_bI, if_pos (show (1 : Int) ≤ 3 ∧ (3 : Int) ≤ 5 by omega)]
  unfold f_M_acts
  rw [if_neg (show ¬ iI 3 = 1 by decide), if_neg (show ¬ iI 3 = 2 by decide), if_pos (show iI 3 = 3 from rfl)]
  by_cases q5 : d4 = 0 ∧ d5 = 0
  · rw [if_neg (fun z => z ((dz s4).mpr q5.1)), if_neg (fun z => z ((dz s5).mpr q5.2))]
    unfold f_Scr_erases
    rw [Str_hasKey hw (by omega) (by omega), cal_some, if_nbI, M_isKey hw (by omega) (by omega), cal_some, if_bI]
    by_cases q1 : isK a d2 d3
    · have e := M_key hw q1
      have hk := ki_lt hw q1
      rw [if_pos q1, if_pos q1, Str_eraseKey hw h1 h3 q1, cal_some, cal_some, if_neg z10, if_pos ((dsum s4 s5).mpr q5), M_keyAt, cal_some, gd_t e.1, iI_cl (by omega) (by omega), hk.2.1, show (-1 : Int32) = iI (-1) from rfl, Q_up, cal_some, gd_t (Or.inr rfl)]
      exact CO_1 (ers_WF hw q1) (RS_ers hw q1 hr')
    · rw [if_neg q1, if_neg q1, cal_some, if_pos rfl, cal_some, gd_t (Or.inl rfl)]
      exact CO_0
  · rw [two0 (show ¬ iI d4 = 0 ∨ ¬ iI d5 = 0 from (Classical.em (d4 = 0)).elim (fun z4 => Or.inr (fun z => q5 ⟨z4, (dz s5).mp z⟩)) (fun z4 => Or.inl (fun z => z4 ((dz s4).mp z))))]
    rw [M_isKey hw (by omega) (by omega), cal_some, if_bI]
    by_cases q1 : isK a d2 d3
    · rw [if_pos q1, if_neg (fun z => q5 ((dsum s4 s5).mp z)), cal_some, gd_t (Or.inl rfl)]
      exact CO_0
    · rw [if_neg q1, cal_some, gd_t (Or.inl rfl)]
      exact CO_0

theorem cm4 {g : Int} (hg : 0 ≤ g ∧ g < 100000) (hv : g / 10000 = 4) (hw : WF a) (hr : RSf c h k p w n dh dc dt dn on rk H no re x a x) : CO dh dc dn H (f_Scr_succeeds c h k p w n dh dc dt dn on rk H no re x (iI g)) (f_M_succeeds (Q a) x (iI g)) := by
  have hr' := hr
  obtain ⟨h1, h2, h3, rfl, rfl, rfl, h7⟩ := hr
  have b0 := hw.b0
  have b1 := hw.b1
  have b2 := hw.b2
  have b4 := hw.b4
  obtain ⟨E2, E3, E4, E5, E1⟩ := digs hg
  rw [hv] at E1
  unfold f_Scr_succeeds f_M_succeeds
  simp only [E1, E2, E3, E4, E5, bnd_s]
  have s2 : 0 ≤ g / 1000 % 10 ∧ g / 1000 % 10 ≤ 9 := by omega
  have s3 : 0 ≤ g / 100 % 10 ∧ g / 100 % 10 ≤ 9 := by omega
  have s4 : 0 ≤ g / 10 % 10 ∧ g / 10 % 10 ≤ 9 := by omega
  have s5 : 0 ≤ g % 10 ∧ g % 10 ≤ 9 := by omega
  generalize g / 1000 % 10 = d2 at *
  generalize g / 100 % 10 = d3 at *
  generalize g / 10 % 10 = d4 at *
  generalize g % 10 = d5 at *
  rw [if_neg (show ¬ iI 4 = 1 by decide), if_neg (show ¬ iI 4 = 2 by decide), if_neg (show ¬ iI 4 = 3 by decide), if_pos (show iI 4 = 4 from rfl), M_in15 (by omega), cal_some, if_bI, if_pos (show (1 : Int) ≤ 4 ∧ (4 : Int) ≤ 5 by omega)]
  unfold f_M_acts
  rw [if_neg (show ¬ iI 4 = 1 by decide), if_neg (show ¬ iI 4 = 2 by decide), if_neg (show ¬ iI 4 = 3 by decide), if_pos (show iI 4 = 4 from rfl)]
  by_cases q5 : d4 = 0 ∧ d5 = 0
  · rw [if_neg (fun z => z ((dz s4).mpr q5.1)), if_neg (fun z => z ((dz s5).mpr q5.2))]
    unfold f_Scr_sets
    rw [TR_isSetting (by omega) (by omega), cal_some, if_nbI, M_isSetting (by omega) (by omega), cal_some, if_bI]
    by_cases q1 : isS d2 d3
    · have ew : (3 + iI d2) = iI (3 + d2) := by rw [l_3, iI_add]
      have eg : ¬ ((3 + iI d2) < 0 ∨ 283 ≤ (3 + iI d2).toNatClampNeg) := by
        rw [ew, l_0, iI_lt (by omega) (by omega) (by omega) (by omega), iI_cl (by omega) (by omega)]
        omega
      rw [if_pos q1, if_pos q1, if_pos ((dsum s4 s5).mpr q5), gd_t eg, ew, iI_cl (by omega) (by omega), Q_up]
      have hs := stg_WF hw q1
      rcases q1 with ⟨rfl, q1⟩ | ⟨rfl, q1⟩
      · rw [Str_cs0, cal_some, cal_some, if_neg z10, cal_some, gd_t (Or.inr rfl)]
        exact CO_1 hs (RS_stg0 hw d3 hr')
      · rw [Str_cs1, cal_some, cal_some, if_neg z10, cal_some, gd_t (Or.inr rfl)]
        exact CO_1 hs (RS_stg1 hw d3 hr')
    · rw [if_neg q1, if_neg q1, cal_some, if_pos rfl, cal_some, gd_t (Or.inl rfl)]
      exact CO_0
  · rw [two0 (show ¬ iI d4 = 0 ∨ ¬ iI d5 = 0 from (Classical.em (d4 = 0)).elim (fun z4 => Or.inr (fun z => q5 ⟨z4, (dz s5).mp z⟩)) (fun z4 => Or.inl (fun z => z4 ((dz s4).mp z))))]
    rw [M_isSetting (by omega) (by omega), cal_some, if_bI]
    by_cases q1 : isS d2 d3
    · rw [if_pos q1, if_neg (fun z => q5 ((dsum s4 s5).mp z)), cal_some, gd_t (Or.inl rfl)]
      exact CO_0
    · rw [if_neg q1, cal_some, gd_t (Or.inl rfl)]
      exact CO_0

theorem cm5 {g : Int} (hg : 0 ≤ g ∧ g < 100000) (hv : g / 10000 = 5) (hw : WF a) (hr : RSf c h k p w n dh dc dt dn on rk H no re x a x) : CO dh dc dn H (f_Scr_succeeds c h k p w n dh dc dt dn on rk H no re x (iI g)) (f_M_succeeds (Q a) x (iI g)) := by
  have hr' := hr
  obtain ⟨h1, h2, h3, rfl, rfl, rfl, h7⟩ := hr
  have b0 := hw.b0
  have b1 := hw.b1
  have b2 := hw.b2
  have b4 := hw.b4
  obtain ⟨E2, E3, E4, E5, E1⟩ := digs hg
  rw [hv] at E1
  unfold f_Scr_succeeds f_M_succeeds
  simp only [E1, E2, E3, E4, E5, bnd_s]
  have s2 : 0 ≤ g / 1000 % 10 ∧ g / 1000 % 10 ≤ 9 := by omega
  have s3 : 0 ≤ g / 100 % 10 ∧ g / 100 % 10 ≤ 9 := by omega
  have s4 : 0 ≤ g / 10 % 10 ∧ g / 10 % 10 ≤ 9 := by omega
  have s5 : 0 ≤ g % 10 ∧ g % 10 ≤ 9 := by omega
  generalize g / 1000 % 10 = d2 at *
  generalize g / 100 % 10 = d3 at *
  generalize g / 10 % 10 = d4 at *
  generalize g % 10 = d5 at *
  rw [if_neg (show ¬ iI 5 = 1 by decide), if_neg (show ¬ iI 5 = 2 by decide), if_neg (show ¬ iI 5 = 3 by decide), if_neg (show ¬ iI 5 = 4 by decide), if_pos (show iI 5 = 5 from rfl), M_in15 (by omega), cal_some, if_bI, if_pos (show (1 : Int) ≤ 5 ∧ (5 : Int) ≤ 5 by omega)]
  unfold f_M_acts
  rw [if_neg (show ¬ iI 5 = 1 by decide), if_neg (show ¬ iI 5 = 2 by decide), if_neg (show ¬ iI 5 = 3 by decide), if_neg (show ¬ iI 5 = 4 by decide)]
  by_cases q5 : d4 = 0 ∧ d5 = 0
  · rw [if_neg (fun z => z ((dz s4).mpr q5.1)), if_neg (fun z => z ((dz s5).mpr q5.2))]
    unfold f_Scr_setsTolerance
    rw [h2.1, Dev_has b1.1 b1.2 (by omega), cal_some, if_bI, M_isDevice hw (by omega), cal_some, if_bI]
    by_cases q1 : 0 ≤ d2 ∧ d2 < a 1
    · rw [if_pos q1, if_pos q1, TR_isTolerance (by omega), cal_some, if_nbI]
      by_cases q2 : d3 ≤ 3
      · obtain ⟨d, rfl⟩ := Int.eq_ofNat_of_zero_le q1.1
        have ew : ((259 + (4 * iI (d : Int))) + 2) = iI ((261 + 4 * d : Nat) : Int) := by
          rw [l_259, l_4, l_2, iI_mul, iI_add, iI_add]
          congr 1
          omega
        have eg : ¬ (((259 + (4 * iI (d : Int))) + 2) < 0 ∨ 283 ≤ ((259 + (4 * iI (d : Int))) + 2).toNatClampNeg) := by
          rw [ew]
          exact c283 (by omega)
        rw [if_pos ⟨by omega, q2⟩, ← h2.1, Dev_changeTolerance hw h2 q1.2, cal_some, cal_some, if_neg z10, if_neg (by rw [l_3, iI_lt (by omega) (by omega) (by omega) (by omega)]; omega), if_pos ((dsum s4 s5).mpr q5), gd_t eg, ew, kcl (by omega), Q_up, cal_some, gd_t (Or.inr rfl)]
        exact CO_1 (tol_WF hw ⟨by omega, q2⟩) (RS_tol hw d d3 hr')
      · rw [if_neg (fun z => q2 z.2), cal_some, if_pos rfl, if_pos (by rw [l_3, iI_lt (by omega) (by omega) (by omega) (by omega)]; omega), cal_some, gd_t (Or.inl rfl)]
        exact CO_0
    · rw [if_neg q1, if_neg q1, cal_some, if_pos rfl, cal_some, gd_t (Or.inl rfl)]
      exact CO_0
  · rw [two0 (show ¬ iI d4 = 0 ∨ ¬ iI d5 = 0 from (Classical.em (d4 = 0)).elim (fun z4 => Or.inr (fun z => q5 ⟨z4, (dz s5).mp z⟩)) (fun z4 => Or.inl (fun z => z4 ((dz s4).mp z))))]
    rw [M_isDevice hw (by omega), cal_some, if_bI]
    by_cases q1 : 0 ≤ d2 ∧ d2 < a 1
    · rw [if_pos q1]
      by_cases q2 : 3 < d3
      · rw [if_pos (by rw [l_3, iI_lt (by omega) (by omega) (by omega) (by omega)]; omega), cal_some, gd_t (Or.inl rfl)]
        exact CO_0
      · rw [if_neg (by rw [l_3, iI_lt (by omega) (by omega) (by omega) (by omega)]; omega), if_neg (fun z => q5 ((dsum s4 s5).mp z)), cal_some, gd_t (Or.inl rfl)]
        exact CO_0
    · rw [if_neg q1, cal_some, gd_t (Or.inl rfl)]
      exact CO_0

theorem cm6 {g : Int} (hg : 0 ≤ g ∧ g < 100000) (hv : g / 10000 = 6) (hw : WF a) (hr : RSf c h k p w n dh dc dt dn on rk H no re x a x) : CO dh dc dn H (f_Scr_succeeds c h k p w n dh dc dt dn on rk H no re x (iI g)) (f_M_succeeds (Q a) x (iI g)) := by
  have hr' := hr
  obtain ⟨h1, h2, h3, rfl, rfl, rfl, h7⟩ := hr
  have b0 := hw.b0
  have b1 := hw.b1
  have b2 := hw.b2
  have b4 := hw.b4
  obtain ⟨E2, E3, E4, E5, E1⟩ := digs hg
  rw [hv] at E1
  unfold f_Scr_succeeds f_M_succeeds
  simp only [E1, E2, E3, E4, E5, bnd_s]
  have s2 : 0 ≤ g / 1000 % 10 ∧ g / 1000 % 10 ≤ 9 := by omega
  have s3 : 0 ≤ g / 100 % 10 ∧ g / 100 % 10 ≤ 9 := by omega
  have s4 : 0 ≤ g / 10 % 10 ∧ g / 10 % 10 ≤ 9 := by omega
  have s5 : 0 ≤ g % 10 ∧ g % 10 ≤ 9 := by omega
  generalize g / 1000 % 10 = d2 at *
  generalize g / 100 % 10 = d3 at *
  generalize g / 10 % 10 = d4 at *
  generalize g % 10 = d5 at *
  rw [if_neg (show ¬ iI 6 = 1 by decide), if_neg (show ¬ iI 6 = 2 by decide), if_neg (show ¬ iI 6 = 3 by decide), if_neg (show ¬ iI 6 = 4 by decide), if_neg (show ¬ iI 6 = 5 by decide), if_pos (show iI 6 = 6 from rfl), M_in15 (by omega), cal_some, if_bI, if_neg (show ¬ ((1 : Int) ≤ 6 ∧ (6 : Int) ≤ 5) by omega)]
  rw [if_pos (show ¬ iI 6 = 9 by decide), if_neg (show ¬ iI 6 = 0 by decide), M_isKey hw (by omega) (by omega), cal_some, if_bI]
  unfold f_Scr_hasGeneration
  by_cases q1 : isK a d2 d3
  · have e := M_key hw q1
    have hz := kr_ok hw q1
    have hzz : sm (kr a d2 d3) := by unfold ok at hz; omega
    rw [Str_hasCode hw h3 q1, cal_some, if_bI, if_pos q1, M_keyAt, cal_some, gd_t e.1, e.2]
    by_cases q2 : 0 ≤ kr a d2 d3
    · rw [if_pos (show 0 ≤ iI (kr a d2 d3) by rw [l_0, iI_le (by omega) (by omega) (by omega) (by omega)]; exact q2), cal_some, gd_t e.1, if_pos (show ¬ iI 6 = 8 by decide)]
      have hl := ln_40 hw hz
      by_cases q4 : d4 = 0
      · rw [if_neg (fun z => z ((dz s4).mpr q4)), if_pos q2, Str_recordOf hw h3 q1, cal_some, Rec_generationOf hw h1 hz q2, cal_some, if_neg (show ¬ ¬ iI d4 = 0 from fun z => z ((dz s4).mpr q4)), if_neg (show ¬ ¬ iI 6 = 6 from fun z => z rfl), e.2, M_generation hw hz q2, cal_some]
        by_cases q6 : (ln a (kr a d2 d3) : Int) - 1 = d5
        · rw [if_neg (by rw [q6]; exact fun z => z rfl), if_neg (by rw [q6]; exact fun z => z rfl), cal_some, if_neg z10]
          exact CO_1 hw hr'
        · rw [if_pos (by rw [iI_eq (by omega) (by omega) (by omega) (by omega)]; exact q6), if_pos (by rw [iI_eq (by omega) (by omega) (by omega) (by omega)]; exact q6), cal_some, if_pos rfl]
          exact CO_0
      · rw [if_pos (fun z => q4 ((dz s4).mp z)), if_pos (fun z => q4 ((dz s4).mp z))]
        exact CO_0
    · rw [if_neg (show ¬ 0 ≤ iI (kr a d2 d3) by rw [l_0, iI_le (by omega) (by omega) (by omega) (by omega)]; exact q2), if_neg q2, cal_some, if_pos rfl]
      by_cases q4 : d4 = 0
      · rw [if_neg (fun z => z ((dz s4).mpr q4))]
        exact CO_0
      · rw [if_pos (fun z => q4 ((dz s4).mp z))]
        exact CO_0
  · rw [Str_hasCode_f hw (by omega) (by omega) q1, if_neg q1, cal_some, if_pos rfl, cal_some, if_pos rfl]
    by_cases q4 : d4 = 0
    · rw [if_neg (fun z => z ((dz s4).mpr q4))]
      exact CO_0
    · rw [if_pos (fun z => q4 ((dz s4).mp z))]
      exact CO_0

theorem cm7 {g : Int} (hg : 0 ≤ g ∧ g < 100000) (hv : g / 10000 = 7) (hw : WF a) (hr : RSf c h k p w n dh dc dt dn on rk H no re x a x) : CO dh dc dn H (f_Scr_succeeds c h k p w n dh dc dt dn on rk H no re x (iI g)) (f_M_succeeds (Q a) x (iI g)) := by
  have hr' := hr
  obtain ⟨h1, h2, h3, rfl, rfl, rfl, h7⟩ := hr
  have b0 := hw.b0
  have b1 := hw.b1
  have b2 := hw.b2
  have b4 := hw.b4
  obtain ⟨E2, E3, E4, E5, E1⟩ := digs hg
  rw [hv] at E1
  unfold f_Scr_succeeds f_M_succeeds
  simp only [E1, E2, E3, E4, E5, bnd_s]
  have s2 : 0 ≤ g / 1000 % 10 ∧ g / 1000 % 10 ≤ 9 := by omega
  have s3 : 0 ≤ g / 100 % 10 ∧ g / 100 % 10 ≤ 9 := by omega
  have s4 : 0 ≤ g / 10 % 10 ∧ g / 10 % 10 ≤ 9 := by omega
  have s5 : 0 ≤ g % 10 ∧ g % 10 ≤ 9 := by omega
  generalize g / 1000 % 10 = d2 at *
  generalize g / 100 % 10 = d3 at *
  generalize g / 10 % 10 = d4 at *
  generalize g % 10 = d5 at *
  rw [if_neg (show ¬ iI 7 = 1 by decide), if_neg (show ¬ iI 7 = 2 by decide), if_neg (show ¬ iI 7 = 3 by decide), if_neg (show ¬ iI 7 = 4 by decide), if_neg (show ¬ iI 7 = 5 by decide), if_neg (show ¬ iI 7 = 6 by decide), if_pos (show iI 7 = 7 from rfl), M_in15 (by omega), cal_some, if_bI, if_neg (show ¬ ((1 : Int) ≤ 7 ∧ (7 : Int) ≤ 5) by omega)]
  rw [if_pos (show ¬ iI 7 = 9 by decide), if_neg (show ¬ iI 7 = 0 by decide), M_isKey hw (by omega) (by omega), cal_some, if_bI]
  unfold f_Scr_hasWrongBits
  by_cases q1 : isK a d2 d3
  · have e := M_key hw q1
    have hz := kr_ok hw q1
    have hzz : sm (kr a d2 d3) := by unfold ok at hz; omega
    rw [Str_hasCode hw h3 q1, cal_some, if_bI, if_pos q1, M_keyAt, cal_some, gd_t e.1, e.2]
    by_cases q2 : 0 ≤ kr a d2 d3
    · rw [if_pos (show 0 ≤ iI (kr a d2 d3) by rw [l_0, iI_le (by omega) (by omega) (by omega) (by omega)]; exact q2), cal_some, gd_t e.1, if_pos (show ¬ iI 7 = 8 by decide)]
      have hl := ln_40 hw hz
      have hs := swb_le a (kr a d2 d3) (ln a (kr a d2 d3))
      by_cases q4 : d4 = 0
      · rw [if_neg (fun z => z ((dz s4).mpr q4)), if_pos q2, Str_recordOf hw h3 q1, cal_some, Rec_wrongBits hw h1 hz, cal_some, if_neg (show ¬ ¬ iI d4 = 0 from fun z => z ((dz s4).mpr q4)), if_pos (show ¬ iI 7 = 6 by decide), e.2, M_wrongBits hw hz, cal_some]
        by_cases q6 : swb a (kr a d2 d3) (ln a (kr a d2 d3)) ≤ d5
        · rw [if_neg (by rw [iI_lt (by omega) (by omega) (by omega) (by omega)]; omega), if_neg (by rw [iI_lt (by omega) (by omega) (by omega) (by omega)]; omega), cal_some, if_neg z10]
          exact CO_1 hw hr'
        · rw [if_pos (by rw [iI_lt (by omega) (by omega) (by omega) (by omega)]; omega), if_pos (by rw [iI_lt (by omega) (by omega) (by omega) (by omega)]; omega), cal_some, if_pos rfl]
          exact CO_0
      · rw [if_pos (fun z => q4 ((dz s4).mp z)), if_pos (fun z => q4 ((dz s4).mp z))]
        exact CO_0
    · rw [if_neg (show ¬ 0 ≤ iI (kr a d2 d3) by rw [l_0, iI_le (by omega) (by omega) (by omega) (by omega)]; exact q2), if_neg q2, cal_some, if_pos rfl]
      by_cases q4 : d4 = 0
      · rw [if_neg (fun z => z ((dz s4).mpr q4))]
        exact CO_0
      · rw [if_pos (fun z => q4 ((dz s4).mp z))]
        exact CO_0
  · rw [Str_hasCode_f hw (by omega) (by omega) q1, if_neg q1, cal_some, if_pos rfl, cal_some, if_pos rfl]
    by_cases q4 : d4 = 0
    · rw [if_neg (fun z => z ((dz s4).mpr q4))]
      exact CO_0
    · rw [if_pos (fun z => q4 ((dz s4).mp z))]
      exact CO_0

theorem Dev_accepts_n {d : Int} (hd : sm d) (hw : WF a) (hr : RDev dh dc dt dn on a) (h r : Int32) {cc : Int} (hc : cc = -9 ∨ ¬ (0 ≤ d ∧ d < a 1)) : f_Dev_accepts dh dc dt dn (iI d) h (iI cc) r = some 0 := by
  have b1 := hw.b1
  unfold f_Dev_accepts
  rw [hr.1, Dev_has b1.1 b1.2 hd, cal_some, if_bI]
  by_cases q : 0 ≤ d ∧ d < a 1
  · rw [if_pos q, if_pos]
    rcases hc with rfl | hc
    · rfl
    · exact absurd q hc
  · rw [if_neg q]
theorem cm8 {g : Int} (hg : 0 ≤ g ∧ g < 100000) (hv : g / 10000 = 8) (hw : WF a) (hr : RSf c h k p w n dh dc dt dn on rk H no re x a x) : CO dh dc dn H (f_Scr_succeeds c h k p w n dh dc dt dn on rk H no re x (iI g)) (f_M_succeeds (Q a) x (iI g)) := by
  have hr' := hr
  obtain ⟨h1, h2, h3, rfl, rfl, rfl, h7⟩ := hr
  have b0 := hw.b0
  have b1 := hw.b1
  have b2 := hw.b2
  have b4 := hw.b4
  obtain ⟨E2, E3, E4, E5, E1⟩ := digs hg
  rw [hv] at E1
  unfold f_Scr_succeeds f_M_succeeds
  simp only [E1, E2, E3, E4, E5, bnd_s]
  have s2 : 0 ≤ g / 1000 % 10 ∧ g / 1000 % 10 ≤ 9 := by omega
  have s3 : 0 ≤ g / 100 % 10 ∧ g / 100 % 10 ≤ 9 := by omega
  have s4 : 0 ≤ g / 10 % 10 ∧ g / 10 % 10 ≤ 9 := by omega
  have s5 : 0 ≤ g % 10 ∧ g % 10 ≤ 9 := by omega
  generalize g / 1000 % 10 = d2 at *
  generalize g / 100 % 10 = d3 at *
  generalize g / 10 % 10 = d4 at *
  generalize g % 10 = d5 at *
  rw [if_neg (show ¬ iI 8 = 1 by decide), if_neg (show ¬ iI 8 = 2 by decide), if_neg (show ¬ iI 8 = 3 by decide), if_neg (show ¬ iI 8 = 4 by decide), if_neg (show ¬ iI 8 = 5 by decide), if_neg (show ¬ iI 8 = 6 by decide), if_neg (show ¬ iI 8 = 7 by decide), if_pos (show iI 8 = 8 from rfl), M_in15 (by omega), cal_some, if_bI, if_neg (show ¬ ((1 : Int) ≤ 8 ∧ (8 : Int) ≤ 5) by omega)]
  rw [if_pos (show ¬ iI 8 = 9 by decide), if_neg (show ¬ iI 8 = 0 by decide), M_isKey hw (by omega) (by omega), cal_some, if_bI]
  unfold f_Str_isAccepted
  by_cases q5 : d5 = 0
  · rw [if_neg (fun z => z ((dz s5).mpr q5))]
    by_cases q1 : isK a d2 d3
    · have e := M_key hw q1
      have hz := kr_ok hw q1
      have hcd := cd_sm hw hz
      have hzz : sm (kr a d2 d3) := by unfold ok at hz; omega
      rw [Str_codeOf hw h1 h3 q1, cal_some, if_pos q1, M_keyAt, cal_some, gd_t e.1, e.2]
      by_cases q2 : 0 ≤ kr a d2 d3
      · rw [if_pos (show 0 ≤ iI (kr a d2 d3) by rw [l_0, iI_le (by omega) (by omega) (by omega) (by omega)]; exact q2), cal_some, gd_t e.1, if_neg (show ¬ ¬ iI 8 = 8 from fun z => z rfl), M_isDevice hw (by omega), cal_some, if_bI]
        by_cases q3 : 0 ≤ d4 ∧ d4 < a 1
        · obtain ⟨d, rfl⟩ := Int.eq_ofNat_of_zero_le q3.1
          have hp := mk_bit (fun d => accP a d d2 (cd a (kr a d2 d3)) (a 4)) (d := d) (n := (a 1).toNat) (by omega)
          rw [if_pos q3, if_neg (fun z => z ((dz s5).mpr q5)), Dev_accepts hw h2 q3.2 (by omega) (by omega) (by omega) b4.1 b4.2, cal_some, gd_t bI_01, cal_some, if_bI, M_acceptedBy hw q1, cal_some, iI_nat, sh_b d (by omega) _ (am_lt hw d2 (kr a d2 d3)), show am a d2 (kr a d2 d3) / 2 ^ d % 2 = _ from hp]
          by_cases q6 : accP a d d2 (cd a (kr a d2 d3)) (a 4)
          · rw [if_pos q6, if_pos q6, if_neg (fun z => z rfl)]
            exact CO_1 hw hr'
          · rw [if_neg q6, if_neg q6, if_pos (by decide)]
            exact CO_0
        · rw [if_neg q3, Dev_accepts_n (by omega) hw h2 _ _ (Or.inr q3), cal_some, gd_t (Or.inl rfl), cal_some, if_pos rfl]
          exact CO_0
      · rw [if_neg (show ¬ 0 ≤ iI (kr a d2 d3) by rw [l_0, iI_le (by omega) (by omega) (by omega) (by omega)]; exact q2), Dev_accepts_n (by omega) hw h2 _ _ (Or.inl (by omega)), cal_some, gd_t (Or.inl rfl), cal_some, if_pos rfl]
        exact CO_0
    · rw [Str_codeOf_f hw h1 (by omega) (by omega) q1, cal_some, Dev_accepts_n (by omega) hw h2 _ _ (Or.inl rfl), cal_some, gd_t (Or.inl rfl), cal_some, if_pos rfl, if_neg q1]
      exact CO_0
  · rw [if_pos (fun z => q5 ((dz s5).mp z))]
    by_cases q1 : isK a d2 d3
    · have e := M_key hw q1
      have hz := kr_ok hw q1
      have hzz : sm (kr a d2 d3) := by unfold ok at hz; omega
      rw [if_pos q1, M_keyAt, cal_some, gd_t e.1, e.2]
      by_cases q2 : 0 ≤ kr a d2 d3
      · rw [if_pos (show 0 ≤ iI (kr a d2 d3) by rw [l_0, iI_le (by omega) (by omega) (by omega) (by omega)]; exact q2), cal_some, gd_t e.1, if_neg (show ¬ ¬ iI 8 = 8 from fun z => z rfl), M_isDevice hw (by omega), cal_some, if_bI]
        by_cases q3 : 0 ≤ d4 ∧ d4 < a 1
        · rw [if_pos q3, if_pos (fun z => q5 ((dz s5).mp z))]
          exact CO_0
        · rw [if_neg q3]
          exact CO_0
      · rw [if_neg (show ¬ 0 ≤ iI (kr a d2 d3) by rw [l_0, iI_le (by omega) (by omega) (by omega) (by omega)]; exact q2)]
        exact CO_0
    · rw [if_neg q1]
      exact CO_0

theorem cm9 {g : Int} (hg : 0 ≤ g ∧ g < 100000) (hv : g / 10000 = 9) (hw : WF a) (hr : RSf c h k p w n dh dc dt dn on rk H no re x a x) : CO dh dc dn H (f_Scr_succeeds c h k p w n dh dc dt dn on rk H no re x (iI g)) (f_M_succeeds (Q a) x (iI g)) := by
  have hr' := hr
  obtain ⟨h1, h2, h3, rfl, rfl, rfl, h7⟩ := hr
  have b0 := hw.b0
  have b1 := hw.b1
  have b2 := hw.b2
  have b4 := hw.b4
  obtain ⟨E2, E3, E4, E5, E1⟩ := digs hg
  rw [hv] at E1
  unfold f_Scr_succeeds f_M_succeeds
  simp only [E1, E2, E3, E4, E5, bnd_s]
  have s2 : 0 ≤ g / 1000 % 10 ∧ g / 1000 % 10 ≤ 9 := by omega
  have s3 : 0 ≤ g / 100 % 10 ∧ g / 100 % 10 ≤ 9 := by omega
  have s4 : 0 ≤ g / 10 % 10 ∧ g / 10 % 10 ≤ 9 := by omega
  have s5 : 0 ≤ g % 10 ∧ g % 10 ≤ 9 := by omega
  generalize g / 1000 % 10 = d2 at *
  generalize g / 100 % 10 = d3 at *
  generalize g / 10 % 10 = d4 at *
  generalize g % 10 = d5 at *
  rw [if_neg (show ¬ iI 9 = 1 by decide), if_neg (show ¬ iI 9 = 2 by decide), if_neg (show ¬ iI 9 = 3 by decide), if_neg (show ¬ iI 9 = 4 by decide), if_neg (show ¬ iI 9 = 5 by decide), if_neg (show ¬ iI 9 = 6 by decide), if_neg (show ¬ iI 9 = 7 by decide), if_neg (show ¬ iI 9 = 8 by decide), if_pos (show iI 9 = 9 from rfl), M_in15 (by omega), cal_some, if_bI, if_neg (show ¬ ((1 : Int) ≤ 9 ∧ (9 : Int) ≤ 5) by omega)]
  rw [if_neg (show ¬ ¬ iI 9 = 9 from fun z => z rfl), M_isDevice hw (by omega), cal_some, if_bI]
  unfold f_Scr_isSwitched f_Scr_isSwitched_28
  by_cases q3 : d3 = 0
  · rw [if_neg (fun z => z ((dz s3).mpr q3))]
    by_cases q4 : d4 = 0
    · rw [if_neg (fun z => z ((dz s4).mpr q4)), h2.1, Dev_has b1.1 b1.2 (by omega), cal_some, if_bI]
      by_cases q1 : 0 ≤ d2 ∧ d2 < a 1
      · obtain ⟨d, rfl⟩ := Int.eq_ofNat_of_zero_le q1.1
        have ho := hw.on (d := d) (by omega)
        rw [if_pos q1, if_pos q1, if_neg (show ¬ ¬ iI d3 + iI d4 = 0 from fun z => z ((dsm s3 s4).mpr ⟨q3, q4⟩)), ← h2.1, Dev_isOn hw h2 q1.2, cal_some, M_ofD3 (a := a) (by omega), cal_some]
        rcases (show a (262 + 4 * d) = 0 ∨ a (262 + 4 * d) = 1 by omega) with q | q
        · rw [q, if_pos (by rfl)]
          by_cases q6 : d5 = 0
          · rw [q6, if_neg (by decide), if_neg (by decide), cal_some, if_neg z10]
            exact CO_1 hw hr'
          · rw [if_pos (fun z => q6 ((dz s5).mp z)), cal_some, if_pos rfl, if_pos (by rw [iI_eq (by omega) (by omega) (by omega) (by omega)]; omega)]
            exact CO_0
        · rw [q, if_neg (by decide)]
          by_cases q6 : d5 = 1
          · rw [q6, if_neg (by decide), if_neg (by decide), cal_some, if_neg z10]
            exact CO_1 hw hr'
          · rw [if_pos (by rw [l_1, iI_eq (by omega) (by omega) (by omega) (by omega)]; exact q6), cal_some, if_pos rfl, if_pos (by rw [iI_eq (by omega) (by omega) (by omega) (by omega)]; omega)]
            exact CO_0
      · rw [if_neg q1, if_neg q1, cal_some, if_pos rfl]
        exact CO_0
    · rw [if_pos (fun z => q4 ((dz s4).mp z))]
      by_cases q1 : 0 ≤ d2 ∧ d2 < a 1
      · rw [if_pos q1, if_pos (fun z => q4 ((dsm s3 s4).mp z).2)]
        exact CO_0
      · rw [if_neg q1]
        exact CO_0
  · rw [if_pos (fun z => q3 ((dz s3).mp z))]
    by_cases q1 : 0 ≤ d2 ∧ d2 < a 1
    · rw [if_pos q1, if_pos (fun z => q3 ((dsm s3 s4).mp z).1)]
      exact CO_0
    · rw [if_neg q1]
      exact CO_0

theorem cm0 {g : Int} (hg : 0 ≤ g ∧ g < 100000) (hv : g / 10000 = 0) (hw : WF a) (hr : RSf c h k p w n dh dc dt dn on rk H no re x a x) : CO dh dc dn H (f_Scr_succeeds c h k p w n dh dc dt dn on rk H no re x (iI g)) (f_M_succeeds (Q a) x (iI g)) := by
  have hr' := hr
  obtain ⟨h1, h2, h3, rfl, rfl, rfl, h7⟩ := hr
  have b0 := hw.b0
  have b1 := hw.b1
  have b2 := hw.b2
  have b4 := hw.b4
  obtain ⟨E2, E3, E4, E5, E1⟩ := digs hg
  rw [hv] at E1
  unfold f_Scr_succeeds f_M_succeeds
  simp only [E1, E2, E3, E4, E5, bnd_s]
  have s2 : 0 ≤ g / 1000 % 10 ∧ g / 1000 % 10 ≤ 9 := by omega
  have s3 : 0 ≤ g / 100 % 10 ∧ g / 100 % 10 ≤ 9 := by omega
  have s4 : 0 ≤ g / 10 % 10 ∧ g / 10 % 10 ≤ 9 := by omega
  have s5 : 0 ≤ g % 10 ∧ g % 10 ≤ 9 := by omega
  generalize g / 1000 % 10 = d2 at *
  generalize g / 100 % 10 = d3 at *
  generalize g / 10 % 10 = d4 at *
  generalize g % 10 = d5 at *
  rw [if_neg (show ¬ iI 0 = 1 by decide), if_neg (show ¬ iI 0 = 2 by decide), if_neg (show ¬ iI 0 = 3 by decide), if_neg (show ¬ iI 0 = 4 by decide), if_neg (show ¬ iI 0 = 5 by decide), if_neg (show ¬ iI 0 = 6 by decide), if_neg (show ¬ iI 0 = 7 by decide), if_neg (show ¬ iI 0 = 8 by decide), if_neg (show ¬ iI 0 = 9 by decide), M_in15 (by omega), cal_some, if_bI, if_neg (show ¬ ((1 : Int) ≤ 0 ∧ (0 : Int) ≤ 5) by omega)]
  rw [if_pos (show ¬ iI 0 = 9 by decide), if_pos (show iI 0 = 0 from rfl)]
  exact CO_0
theorem cmd {g : Int} (hg : 0 ≤ g ∧ g < 100000) {y : Int64} (hw : WF a) (hr : RSf c h k p w n dh dc dt dn on rk H no re y a x) : CO dh dc dn H (f_Scr_succeeds c h k p w n dh dc dt dn on rk H no re y (iI g)) (f_M_succeeds (Q a) x (iI g)) := by
  obtain rfl : y = x := hr.2.2.2.2.2.2
  rcases (show g / 10000 = 0 ∨ g / 10000 = 1 ∨ g / 10000 = 2 ∨ g / 10000 = 3 ∨ g / 10000 = 4 ∨ g / 10000 = 5 ∨ g / 10000 = 6 ∨ g / 10000 = 7 ∨ g / 10000 = 8 ∨ g / 10000 = 9 by omega) with q | q | q | q | q | q | q | q | q | q
  · exact cm0 hg q hw hr
  · exact cm1 hg q hw hr
  · exact cm2 hg q hw hr
  · exact cm3 hg q hw hr
  · exact cm4 hg q hw hr
  · exact cm5 hg q hw hr
  · exact cm6 hg q hw hr
  · exact cm7 hg q hw hr
  · exact cm8 hg q hw hr
  · exact cm9 hg q hw hr
end CMDS
