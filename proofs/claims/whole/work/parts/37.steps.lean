/-! more calls that only look -/
section STEPS
variable {c h k p w : Nat → Int32} {n : Int32} {dh dc dt : Nat → Int32} {dn on : Int32} {rk : Nat → Int32} {H no re : Int32} {sx : Int64} {a : Nat → Int} {x : Int64} (out : Nat → Int64) (th : Int32)

theorem s_record (hw : WF a) (hr : RSf c h k p w n dh dc dt dn on rk H no re sx a x) {i v : Int} (hi : sm i) (hv : sm v) : AN (f_L_record c h k p w n rk out (iI i) (iI v)) (f_M_record (Q a) th (iI i) (iI v)) := by
  obtain ⟨h1, h2, h3, rfl, rfl, rfl, h7⟩ := hr
  have b0 := hw.b0
  have b2 := hw.b2
  by_cases q : 0 ≤ i ∧ i < a 2
  · obtain ⟨j, rfl⟩ := Int.eq_ofNat_of_zero_le q.1
    have hok : ok a (j : Int) := ⟨by omega, q.2⟩
    have hrc := hw.rcd q.2
    have en : iI (j : Int) = n9 (j : Int) := (n9_pos (by omega)).symm
    by_cases q2 : 0 ≤ v ∧ v ≤ 6
    · have T : ∀ r, (if iI v = 0 then (cal (f_Rec_parentOf p n (iI j)) (fun o_72 => some (0, o_72)))
  else (if iI v = 1 then (cal (f_Rec_houseOf h n (iI j)) (fun o_84 => some (0, o_84)))
  else (if iI v = 2 then (cal (f_Rec_keyOf k n (iI j)) (fun o_96 => some (0, o_96)))
  else (if iI v = 3 then (cal (f_Rec_codeOf c n (iI j)) (fun o_108 => some (0, o_108)))
  else (if iI v = 4 then (cal (f_Rec_wrongBitOf w n (iI j)) (fun o_120 => some (0, o_120)))
  else (if iI v = 5 then (cal (f_Rec_childrenOf p n (iI j)) (fun o_132 => some (0, o_132)))
  else (cal (f_Str_keysFrom p n rk (iI j)) (fun o_141 => some ((0 : Nat), o_141))))))))) = some (0, r) → f_L_record c h k p w n rk out (iI j) (iI v) = some (0, vp_updL out 0 (Int32.toInt64 r)) := by
        intro r hr
        have hT : f_TR_record c h k p w n rk (iI j) (iI v) = some (0, r) := by
          unfold f_TR_record
          rw [h1.1, Rec_has b2.1 b2.2 (by omega) (by omega), cal_some, rP_t ⟨by omega, q.2⟩, cal_some, if_neg nn0]
          show cal (f_TR_isWithin (iI v) (iI 0) (iI 6)) _ = _
          rw [TR_isWithin hv (by omega) (by omega), cal_some, rA_t q2, cal_some, if_neg nn0, ← h1.1]
          exact hr
        unfold f_L_record
        rw [hT, cal_some]
        rfl
      have dec : DecidablePred (fun m => inC a (j : Int) (a (5 + m))) := fun _ => Classical.propDecidable _
      have M : ∀ R, (if iI v = 0 then (cal (f_M_of (Q a) (iI j) 3) (fun o_187 => cal (f_M_orNone o_187) (fun o_190 => some (o_190, 0))))
  else (if iI v = 1 then (cal (f_M_of (Q a) (iI j) 1) (fun o_197 => some (o_197, 0)))
  else (if iI v = 2 then (cal (f_M_of (Q a) (iI j) 2) (fun o_204 => some (o_204, 0)))
  else (if iI v = 3 then (cal (f_M_of (Q a) (iI j) 0) (fun o_211 => some (o_211, 0)))
  else (if iI v = 4 then (cal (f_M_of (Q a) (iI j) 4) (fun o_218 => cal (f_M_orNone o_218) (fun o_221 => some (o_221, 0))))
  else (if iI v = 5 then (some (iI (cn (fun i => a (62 + 5 * i) = j) (a 2).toNat), 0))
  else (some (iI (cn (fun m => inC a (j : Int) (a (5 + m))) (6 * (a 0).toNat)), 0)))))))) = R → f_M_record (Q a) th (iI j) (iI v) = R := by
        intro R hR
        unfold f_M_record
        rw [M_isRecord hw (by omega), cal_some, if_nbI, if_pos ⟨by omega, q.2⟩, M_in0 hv (by omega) (show (6 : Int64) = lL 6 from rfl), cal_some, if_nbI, if_pos q2]
        refine M_rec_loop1 hw q.2 _ (M_rec_loop2 hw q.2 _ _ ?_)
        unfold f_M_record_84
        have e : 6 * Q a 0 ≤ iI ((6 * (a 0).toNat : Nat) : Int) := by
          rw [Q_at, l_6, iI_mul, iI_le (by omega) (by omega) (by omega) (by omega)]
          omega
        rw [if_pos e]
        exact hR
      rcases (show v = 0 ∨ v = 1 ∨ v = 2 ∨ v = 3 ∨ v = 4 ∨ v = 5 ∨ v = 6 by omega) with rfl | rfl | rfl | rfl | rfl | rfl | rfl
      · refine an0 (T (n9 (a (62 + 5 * j))) ?_) (M _ ?_)
        · rw [if_pos (show iI 0 = 0 from rfl), en, Rec_parentOf hw h1 hok, cal_some, nx_nat]
        · rw [if_pos (show iI 0 = 0 from rfl), M_of3 a (by omega), cal_some, M_orNone (by omega) (by omega), cal_some]
      · refine an0 (T (iI (a (60 + 5 * j))) ?_) (M _ ?_)
        · rw [if_neg (show ¬ iI 1 = 0 by decide), if_pos (show iI 1 = 1 from rfl), en, Rec_houseOf hw h1 hok, cal_some, hs_nat]
        · rw [if_neg (show ¬ iI 1 = 0 by decide), if_pos (show iI 1 = 1 from rfl), M_of1 a (by omega), cal_some]
      · refine an0 (T (iI (a (61 + 5 * j))) ?_) (M _ ?_)
        · rw [if_neg (show ¬ iI 2 = 0 by decide), if_neg (show ¬ iI 2 = 1 by decide), if_pos (show iI 2 = 2 from rfl), en, Rec_keyOf hw h1 hok, cal_some, kk_nat]
        · rw [if_neg (show ¬ iI 2 = 0 by decide), if_neg (show ¬ iI 2 = 1 by decide), if_pos (show iI 2 = 2 from rfl), M_of2 a (by omega), cal_some]
      · refine an0 (T (iI (a (59 + 5 * j))) ?_) (M _ ?_)
        · rw [if_neg (show ¬ iI 3 = 0 by decide), if_neg (show ¬ iI 3 = 1 by decide), if_neg (show ¬ iI 3 = 2 by decide), if_pos (show iI 3 = 3 from rfl), en, Rec_codeOf hw h1 hok, cal_some, cd_nat]
        · rw [if_neg (show ¬ iI 3 = 0 by decide), if_neg (show ¬ iI 3 = 1 by decide), if_neg (show ¬ iI 3 = 2 by decide), if_pos (show iI 3 = 3 from rfl), M_of0 a (by omega), cal_some]
      · refine an0 (T (n9 (a (63 + 5 * j))) ?_) (M _ ?_)
        · rw [if_neg (show ¬ iI 4 = 0 by decide), if_neg (show ¬ iI 4 = 1 by decide), if_neg (show ¬ iI 4 = 2 by decide), if_neg (show ¬ iI 4 = 3 by decide), if_pos (show iI 4 = 4 from rfl), en, Rec_wrongBitOf hw h1 hok, cal_some, wr_nat]
        · rw [if_neg (show ¬ iI 4 = 0 by decide), if_neg (show ¬ iI 4 = 1 by decide), if_neg (show ¬ iI 4 = 2 by decide), if_neg (show ¬ iI 4 = 3 by decide), if_pos (show iI 4 = 4 from rfl), M_of4 a (by omega), cal_some, M_orNone (by omega) (by omega), cal_some]
      · refine an0 (T (iI (cn (fun i => a (62 + 5 * i) = j) (a 2).toNat)) ?_) (M _ ?_)
        · rw [if_neg (show ¬ iI 5 = 0 by decide), if_neg (show ¬ iI 5 = 1 by decide), if_neg (show ¬ iI 5 = 2 by decide), if_neg (show ¬ iI 5 = 3 by decide), if_neg (show ¬ iI 5 = 4 by decide), if_pos (show iI 5 = 5 from rfl), en, Rec_childrenOf hw h1 (by omega) (by omega), cal_some]
        · rw [if_neg (show ¬ iI 5 = 0 by decide), if_neg (show ¬ iI 5 = 1 by decide), if_neg (show ¬ iI 5 = 2 by decide), if_neg (show ¬ iI 5 = 3 by decide), if_neg (show ¬ iI 5 = 4 by decide), if_pos (show iI 5 = 5 from rfl)]
      · refine an0 (T (iI (cn (fun m => inC a (j : Int) (a (5 + m))) (6 * (a 0).toNat))) ?_) (M _ ?_)
        · rw [if_neg (show ¬ iI 6 = 0 by decide), if_neg (show ¬ iI 6 = 1 by decide), if_neg (show ¬ iI 6 = 2 by decide), if_neg (show ¬ iI 6 = 3 by decide), if_neg (show ¬ iI 6 = 4 by decide), if_neg (show ¬ iI 6 = 5 by decide), Str_keysFrom hw h1 h3 (by omega) (by omega), cal_some, cn_keys hw (fun k hk hn => inC_neg hw (key_ok hw hk) hn)]
        · rw [if_neg (show ¬ iI 6 = 0 by decide), if_neg (show ¬ iI 6 = 1 by decide), if_neg (show ¬ iI 6 = 2 by decide), if_neg (show ¬ iI 6 = 3 by decide), if_neg (show ¬ iI 6 = 4 by decide), if_neg (show ¬ iI 6 = 5 by decide)]
    · have hT : f_TR_record c h k p w n rk (iI j) (iI v) = some (2, 0) := by
        unfold f_TR_record
        rw [h1.1, Rec_has b2.1 b2.2 (by omega) (by omega), cal_some, rP_t ⟨by omega, q.2⟩, cal_some, if_neg nn0]
        show cal (f_TR_isWithin (iI v) (iI 0) (iI 6)) _ = _
        rw [TR_isWithin hv (by omega) (by omega), cal_some, rA_f q2, cal_some, if_pos nt2]
      refine ank (r := 0) n2 (by unfold f_L_record; rw [hT, cal_some]; rfl) ?_
      unfold f_M_record
      rw [M_isRecord hw (by omega), cal_some, if_nbI, if_pos ⟨by omega, q.2⟩, M_in0 hv (by omega) (show (6 : Int64) = lL 6 from rfl), cal_some, if_nbI, if_neg q2]
      rfl
  · have hT : f_TR_record c h k p w n rk (iI i) (iI v) = some (1, 0) := by
      unfold f_TR_record
      rw [h1.1, Rec_has b2.1 b2.2 hi.1 hi.2, cal_some, rP_f q, cal_some, if_pos nt1]
    refine ank (r := 0) n1 (by unfold f_L_record; rw [hT, cal_some]; rfl) ?_
    unfold f_M_record
    rw [M_isRecord hw hi, cal_some, if_nbI, if_neg q]
    rfl

theorem s_device (hw : WF a) (hr : RSf c h k p w n dh dc dt dn on rk H no re sx a x) {i v : Int} (hi : sm i) (hv : sm v) : AN (f_L_device c n dh dc dt dn on rk H out (iI i) (iI v)) (f_M_device (Q a) th (iI i) (iI v)) := by
  obtain ⟨h1, h2, h3, rfl, rfl, rfl, h7⟩ := hr
  have b0 := hw.b0
  have b1 := hw.b1
  by_cases q : 0 ≤ i ∧ i < a 1
  · obtain ⟨j, rfl⟩ := Int.eq_ofNat_of_zero_le q.1
    have ho := (hw.on (d := j) (by omega)).1
    by_cases q2 : 0 ≤ v ∧ v ≤ 4
    · have T : ∀ r, (if iI v = 0 then (cal (f_Dev_houseOf dh dn (iI j)) (fun o_64 => some (0, o_64)))
  else (if iI v = 1 then (cal (f_Dev_codeOf dc dn (iI j)) (fun o_76 => some (0, o_76)))
  else (if iI v = 2 then (cal (f_Dev_toleranceOf dt dn (iI j)) (fun o_88 => some (0, o_88)))
  else (if iI v = 3 then (cal (f_Dev_isOn dn on (iI j)) (fun o_100 => if o_100 = 0 then (some (0, 0))
  else (some (0, 1))))
  else (cal (f_Str_keysAcceptedBy c n dh dc dt dn rk (iI (a 0)) (iI j)) (fun o_117 => some ((0 : Nat), o_117))))))) = some (0, r) → f_L_device c n dh dc dt dn on rk (iI (a 0)) out (iI j) (iI v) = some (0, vp_updL out 0 (Int32.toInt64 r)) := by
        intro r hr
        have hT : f_TR_device c n dh dc dt dn on rk (iI (a 0)) (iI j) (iI v) = some (0, r) := by
          unfold f_TR_device
          rw [h2.1, Dev_has b1.1 b1.2 (by omega), cal_some, rP_t ⟨by omega, q.2⟩, cal_some, if_neg nn0]
          show cal (f_TR_isWithin (iI v) (iI 0) (iI 4)) _ = _
          rw [TR_isWithin hv (by omega) (by omega), cal_some, rA_t q2, cal_some, if_neg nn0, ← h2.1]
          exact hr
        unfold f_L_device
        rw [hT, cal_some]
        rfl
      have M : ∀ R, (if 4 ≤ iI v then (some (iI (cn (kaP a j) (6 * (a 0).toNat)), 0)) else (cal (f_M_ofDevice (Q a) (iI j) (iI v)) (fun o_119 => some (o_119, 0)))) = R → f_M_device (Q a) th (iI j) (iI v) = R := by
        intro R hR
        unfold f_M_device
        rw [M_isDevice hw (by omega), cal_some, if_nbI, if_pos ⟨by omega, q.2⟩, M_in0 hv (by omega) (show (4 : Int64) = lL 4 from rfl), cal_some, if_nbI, if_pos q2]
        refine M_dev_loop hw q.2 _ ?_
        unfold f_M_device_42
        have e : 6 * Q a 0 ≤ iI ((6 * (a 0).toNat : Nat) : Int) := by
          rw [Q_at, l_6, iI_mul, iI_le (by omega) (by omega) (by omega) (by omega)]
          omega
        rw [if_pos e]
        exact hR
      rcases (show v = 0 ∨ v = 1 ∨ v = 2 ∨ v = 3 ∨ v = 4 by omega) with rfl | rfl | rfl | rfl | rfl
      · refine an0 (T (iI (a (259 + 4 * j))) ?_) (M _ ?_)
        · rw [if_pos (show iI 0 = 0 from rfl), Dev_houseOf hw h2 q.2, cal_some]
        · rw [if_neg (show ¬ 4 ≤ iI 0 by decide)]
          have e := M_ofD a (i := j) (w := 0) (by omega) (by omega)
          rw [show iI 0 = iI ((0 : Nat) : Int) from rfl, e, cal_some, show 259 + 4 * j + 0 = 259 + 4 * j by omega]
      · refine an0 (T (iI (a (260 + 4 * j))) ?_) (M _ ?_)
        · rw [if_neg (show ¬ iI 1 = 0 by decide), if_pos (show iI 1 = 1 from rfl), Dev_codeOf hw h2 q.2, cal_some]
        · rw [if_neg (show ¬ 4 ≤ iI 1 by decide)]
          have e := M_ofD a (i := j) (w := 1) (by omega) (by omega)
          rw [show iI 1 = iI ((1 : Nat) : Int) from rfl, e, cal_some, show 259 + 4 * j + 1 = 260 + 4 * j by omega]
      · refine an0 (T (iI (a (261 + 4 * j))) ?_) (M _ ?_)
        · rw [if_neg (show ¬ iI 2 = 0 by decide), if_neg (show ¬ iI 2 = 1 by decide), if_pos (show iI 2 = 2 from rfl), Dev_toleranceOf hw h2 q.2, cal_some]
        · rw [if_neg (show ¬ 4 ≤ iI 2 by decide)]
          have e := M_ofD a (i := j) (w := 2) (by omega) (by omega)
          rw [show iI 2 = iI ((2 : Nat) : Int) from rfl, e, cal_some, show 259 + 4 * j + 2 = 261 + 4 * j by omega]
      · refine an0 (T (iI (a (262 + 4 * j))) ?_) (M _ ?_)
        · rw [if_neg (show ¬ iI 3 = 0 by decide), if_neg (show ¬ iI 3 = 1 by decide), if_neg (show ¬ iI 3 = 2 by decide), if_pos (show iI 3 = 3 from rfl), Dev_isOn hw h2 q.2, cal_some]
          rcases (show a (262 + 4 * j) = 0 ∨ a (262 + 4 * j) = 1 by omega) with z | z
          · rw [z]
            rfl
          · rw [z]
            rfl
        · rw [if_neg (show ¬ 4 ≤ iI 3 by decide)]
          have e := M_ofD a (i := j) (w := 3) (by omega) (by omega)
          rw [show iI 3 = iI ((3 : Nat) : Int) from rfl, e, cal_some, show 259 + 4 * j + 3 = 262 + 4 * j by omega]
      · refine an0 (T (iI (cn (kaP a j) (6 * (a 0).toNat))) ?_) (M _ ?_)
        · rw [if_neg (show ¬ iI 4 = 0 by decide), if_neg (show ¬ iI 4 = 1 by decide), if_neg (show ¬ iI 4 = 2 by decide), if_neg (show ¬ iI 4 = 3 by decide), Str_keysAcceptedBy hw h1 h3 h2 q.2, cal_some]
        · rw [if_pos (show 4 ≤ iI 4 by decide)]
    · have hT : f_TR_device c n dh dc dt dn on rk (iI (a 0)) (iI j) (iI v) = some (2, 0) := by
        unfold f_TR_device
        rw [h2.1, Dev_has b1.1 b1.2 (by omega), cal_some, rP_t ⟨by omega, q.2⟩, cal_some, if_neg nn0]
        show cal (f_TR_isWithin (iI v) (iI 0) (iI 4)) _ = _
        rw [TR_isWithin hv (by omega) (by omega), cal_some, rA_f q2, cal_some, if_pos nt2]
      refine ank (r := 0) n2 (by unfold f_L_device; rw [hT, cal_some]; rfl) ?_
      unfold f_M_device
      rw [M_isDevice hw (by omega), cal_some, if_nbI, if_pos ⟨by omega, q.2⟩, M_in0 hv (by omega) (show (4 : Int64) = lL 4 from rfl), cal_some, if_nbI, if_neg q2]
      rfl
  · have hT : f_TR_device c n dh dc dt dn on rk (iI (a 0)) (iI i) (iI v) = some (1, 0) := by
      unfold f_TR_device
      rw [h2.1, Dev_has b1.1 b1.2 hi, cal_some, rP_f q, cal_some, if_pos nt1]
    refine ank (r := 0) n1 (by unfold f_L_device; rw [hT, cal_some]; rfl) ?_
    unfold f_M_device
    rw [M_isDevice hw hi, cal_some, if_nbI, if_neg q]
    rfl

theorem s_about (hw : WF a) (hr : RSf c h k p w n dh dc dt dn on rk H no re sx a x) {v : Int} (hv : sm v) : AN (f_L_about p w n dn on rk H no re out (iI v)) (f_M_about (Q a) th (iI v)) := by
  obtain ⟨h1, h2, h3, rfl, rfl, rfl, h7⟩ := hr
  have b0 := hw.b0
  have b1 := hw.b1
  have b2 := hw.b2
  have M : ∀ R, f_M_about_99 (Q a) (iI v) (iI (cn (fun i => 0 ≤ a (62 + 5 * i)) (a 2).toNat)) (iI (cn (fun i => 0 ≤ a (63 + 5 * i)) (a 2).toNat)) (iI (gg a (a 2).toNat)) (iI (onm a)) (iI (a 1)) (fun _ _ _ _ _ => none) = R → f_M_about (Q a) th (iI v) = R := by
    intro R hR
    unfold f_M_about
    rw [bnd_s]
    exact M_about_loop hw (iI v) hR
  have e : Q a 1 ≤ iI (a 1) := by
    rw [Q_at, iI_le (by omega) (by omega) (by omega) (by omega)]
    omega
  by_cases q2 : 0 ≤ v ∧ v ≤ 9
  · have T : ∀ r, (if iI v = 0 then (cal (f_Str_houses (iI (a 0))) (fun o_64 => some (0, o_64)))
  else (if iI v = 1 then (cal (f_Dev_count dn) (fun o_75 => some (0, o_75)))
  else (if iI v = 2 then (cal (f_Rec_count n) (fun o_86 => some (0, o_86)))
  else (if iI v = 3 then (cal (f_Str_noise (iI (a 3))) (fun o_94 => some (0, o_94)))
  else (if iI v = 4 then (cal (f_Str_reach (iI (a 4))) (fun o_102 => some (0, o_102)))
  else (if iI v = 5 then (cal (f_Rec_taught p n) (fun o_113 => some (0, o_113)))
  else (if iI v = 6 then (cal (f_Rec_wrong w n) (fun o_124 => some (0, o_124)))
  else (if iI v = 7 then (cal (f_Dev_on on) (fun o_135 => some (0, o_135)))
  else (if iI v = 8 then (cal (f_Str_differentRoots p n rk) (fun o_143 => some (0, o_143)))
  else (cal (f_Rec_greatestGeneration p n) (fun o_154 => some ((0 : Nat), o_154)))))))))))) = some (0, r) → f_L_about p w n dn on rk (iI (a 0)) (iI (a 3)) (iI (a 4)) out (iI v) = some (0, vp_updL out 0 (Int32.toInt64 r)) := by
      intro r hr
      have hT : f_TR_about p w n dn on rk (iI (a 0)) (iI (a 3)) (iI (a 4)) (iI v) = some (0, r) := by
        unfold f_TR_about
        show cal (f_TR_isWithin (iI v) (iI 0) (iI 9)) _ = _
        rw [TR_isWithin hv (by omega) (by omega), cal_some, rA_t q2, cal_some, if_neg nn0]
        exact hr
      unfold f_L_about
      rw [hT, cal_some]
      rfl
    rcases (show v = 0 ∨ v = 1 ∨ v = 2 ∨ v = 3 ∨ v = 4 ∨ v = 5 ∨ v = 6 ∨ v = 7 ∨ v = 8 ∨ v = 9 by omega) with rfl | rfl | rfl | rfl | rfl | rfl | rfl | rfl | rfl | rfl
    · refine an0 (T (iI (a 0)) ?_) (M _ ?_)
      · rfl
      · unfold f_M_about_99
        rw [if_pos e, if_pos (show iI 0 = 0 from rfl), gd_t (show ¬ (iI 0 < 0 ∨ 283 ≤ (iI 0).toNatClampNeg) by decide)]
        rfl
    · refine an0 (T (iI (a 1)) ?_) (M _ ?_)
      · rw [if_neg (show ¬ iI 1 = 0 by decide), if_pos (show iI 1 = 1 from rfl), show f_Dev_count dn = some dn from rfl, cal_some, h2.1]
      · unfold f_M_about_99
        rw [if_pos e, if_neg (show ¬ iI 1 = 0 by decide), if_pos (show iI 1 = 1 from rfl), gd_t (show ¬ (iI 1 < 0 ∨ 283 ≤ (iI 1).toNatClampNeg) by decide)]
        rfl
    · refine an0 (T (iI (a 2)) ?_) (M _ ?_)
      · rw [if_neg (show ¬ iI 2 = 0 by decide), if_neg (show ¬ iI 2 = 1 by decide), if_pos (show iI 2 = 2 from rfl), show f_Rec_count n = some n from rfl, cal_some, h1.1]
      · unfold f_M_about_99
        rw [if_pos e, if_neg (show ¬ iI 2 = 0 by decide), if_neg (show ¬ iI 2 = 1 by decide), if_pos (show iI 2 = 2 from rfl), gd_t (show ¬ (iI 2 < 0 ∨ 283 ≤ (iI 2).toNatClampNeg) by decide)]
        rfl
    · refine an0 (T (iI (a 3)) ?_) (M _ ?_)
      · rfl
      · unfold f_M_about_99
        rw [if_pos e, if_neg (show ¬ iI 3 = 0 by decide), if_neg (show ¬ iI 3 = 1 by decide), if_neg (show ¬ iI 3 = 2 by decide), if_pos (show iI 3 = 3 from rfl), gd_t (show ¬ (iI 3 < 0 ∨ 283 ≤ (iI 3).toNatClampNeg) by decide)]
        rfl
    · refine an0 (T (iI (a 4)) ?_) (M _ ?_)
      · rfl
      · unfold f_M_about_99
        rw [if_pos e, if_neg (show ¬ iI 4 = 0 by decide), if_neg (show ¬ iI 4 = 1 by decide), if_neg (show ¬ iI 4 = 2 by decide), if_neg (show ¬ iI 4 = 3 by decide), if_pos (show iI 4 = 4 from rfl), gd_t (show ¬ (iI 4 < 0 ∨ 283 ≤ (iI 4).toNatClampNeg) by decide)]
        rfl
    · refine an0 (T (iI (cn (fun i => 0 ≤ a (62 + 5 * i)) (a 2).toNat)) ?_) (M _ ?_)
      · rw [if_neg (show ¬ iI 5 = 0 by decide), if_neg (show ¬ iI 5 = 1 by decide), if_neg (show ¬ iI 5 = 2 by decide), if_neg (show ¬ iI 5 = 3 by decide), if_neg (show ¬ iI 5 = 4 by decide), if_pos (show iI 5 = 5 from rfl), Rec_taught hw h1, cal_some, cn_compl (fun i => 0 ≤ a (62 + 5 * i)) (fun i => a (62 + 5 * i) = -1) (a 2).toNat (fun k hk => by have := hw.rcd (i := k) (by omega); omega), show ((a 2).toNat : Int) = a 2 by omega]
      · unfold f_M_about_99
        rw [if_pos e, if_neg (show ¬ iI 5 = 0 by decide), if_neg (show ¬ iI 5 = 1 by decide), if_neg (show ¬ iI 5 = 2 by decide), if_neg (show ¬ iI 5 = 3 by decide), if_neg (show ¬ iI 5 = 4 by decide), if_pos (show iI 5 = 5 from rfl)]
    · refine an0 (T (iI (cn (fun i => 0 ≤ a (63 + 5 * i)) (a 2).toNat)) ?_) (M _ ?_)
      · rw [if_neg (show ¬ iI 6 = 0 by decide), if_neg (show ¬ iI 6 = 1 by decide), if_neg (show ¬ iI 6 = 2 by decide), if_neg (show ¬ iI 6 = 3 by decide), if_neg (show ¬ iI 6 = 4 by decide), if_neg (show ¬ iI 6 = 5 by decide), if_pos (show iI 6 = 6 from rfl), Rec_wrong hw h1, cal_some]
      · unfold f_M_about_99
        rw [if_pos e, if_neg (show ¬ iI 6 = 0 by decide), if_neg (show ¬ iI 6 = 1 by decide), if_neg (show ¬ iI 6 = 2 by decide), if_neg (show ¬ iI 6 = 3 by decide), if_neg (show ¬ iI 6 = 4 by decide), if_neg (show ¬ iI 6 = 5 by decide), if_pos (show iI 6 = 6 from rfl)]
    · refine an0 (T (iI (onm a)) ?_) (M _ ?_)
      · rw [if_neg (show ¬ iI 7 = 0 by decide), if_neg (show ¬ iI 7 = 1 by decide), if_neg (show ¬ iI 7 = 2 by decide), if_neg (show ¬ iI 7 = 3 by decide), if_neg (show ¬ iI 7 = 4 by decide), if_neg (show ¬ iI 7 = 5 by decide), if_neg (show ¬ iI 7 = 6 by decide), if_pos (show iI 7 = 7 from rfl), show f_Dev_on on = some on from rfl, cal_some, h2.2.1]
      · unfold f_M_about_99
        rw [if_pos e, if_neg (show ¬ iI 7 = 0 by decide), if_neg (show ¬ iI 7 = 1 by decide), if_neg (show ¬ iI 7 = 2 by decide), if_neg (show ¬ iI 7 = 3 by decide), if_neg (show ¬ iI 7 = 4 by decide), if_neg (show ¬ iI 7 = 5 by decide), if_neg (show ¬ iI 7 = 6 by decide), if_pos (show iI 7 = 7 from rfl)]
    · refine an0 (T (iI (cn (fun i => (rmk a 54).testBit i = true) 40)) ?_) (M _ ?_)
      · rw [if_neg (show ¬ iI 8 = 0 by decide), if_neg (show ¬ iI 8 = 1 by decide), if_neg (show ¬ iI 8 = 2 by decide), if_neg (show ¬ iI 8 = 3 by decide), if_neg (show ¬ iI 8 = 4 by decide), if_neg (show ¬ iI 8 = 5 by decide), if_neg (show ¬ iI 8 = 6 by decide), if_neg (show ¬ iI 8 = 7 by decide), if_pos (show iI 8 = 8 from rfl), Str_differentRoots hw h1 h3, cal_some]
      · unfold f_M_about_99
        rw [if_pos e, if_neg (show ¬ iI 8 = 0 by decide), if_neg (show ¬ iI 8 = 1 by decide), if_neg (show ¬ iI 8 = 2 by decide), if_neg (show ¬ iI 8 = 3 by decide), if_neg (show ¬ iI 8 = 4 by decide), if_neg (show ¬ iI 8 = 5 by decide), if_neg (show ¬ iI 8 = 6 by decide), if_neg (show ¬ iI 8 = 7 by decide), if_pos (show iI 8 = 8 from rfl), M_rootMany hw, cal_some]
    · refine an0 (T (iI (gg a (a 2).toNat)) ?_) (M _ ?_)
      · rw [if_neg (show ¬ iI 9 = 0 by decide), if_neg (show ¬ iI 9 = 1 by decide), if_neg (show ¬ iI 9 = 2 by decide), if_neg (show ¬ iI 9 = 3 by decide), if_neg (show ¬ iI 9 = 4 by decide), if_neg (show ¬ iI 9 = 5 by decide), if_neg (show ¬ iI 9 = 6 by decide), if_neg (show ¬ iI 9 = 7 by decide), if_neg (show ¬ iI 9 = 8 by decide), Rec_greatest hw h1, cal_some]
      · unfold f_M_about_99
        rw [if_pos e, if_neg (show ¬ iI 9 = 0 by decide), if_neg (show ¬ iI 9 = 1 by decide), if_neg (show ¬ iI 9 = 2 by decide), if_neg (show ¬ iI 9 = 3 by decide), if_neg (show ¬ iI 9 = 4 by decide), if_neg (show ¬ iI 9 = 5 by decide), if_neg (show ¬ iI 9 = 6 by decide), if_neg (show ¬ iI 9 = 7 by decide), if_neg (show ¬ iI 9 = 8 by decide), if_pos (show iI 9 = 9 from rfl)]
  · have hT : f_TR_about p w n dn on rk (iI (a 0)) (iI (a 3)) (iI (a 4)) (iI v) = some (2, 0) := by
      unfold f_TR_about
      show cal (f_TR_isWithin (iI v) (iI 0) (iI 9)) _ = _
      rw [TR_isWithin hv (by omega) (by omega), cal_some, rA_f q2, cal_some, if_pos nt2]
    refine ank (k := 1) (r := 0) n1 (by unfold f_L_about; rw [hT, cal_some]; rfl) (M _ ?_)
    have dv : ∀ (u : Int) (U : Int32), U = iI u → sm u → v ≠ u → ¬ iI v = U := fun u U hU hu hne z => hne ((dq hv hu hU).mp z)
    unfold f_M_about_99
    rw [if_pos e, if_neg (dv 0 0 rfl (by omega) (by omega)), if_neg (dv 1 1 rfl (by omega) (by omega)), if_neg (dv 2 2 rfl (by omega) (by omega)), if_neg (dv 3 3 rfl (by omega) (by omega)), if_neg (dv 4 4 rfl (by omega) (by omega)), if_neg (dv 5 5 rfl (by omega) (by omega)), if_neg (dv 6 6 rfl (by omega) (by omega)), if_neg (dv 7 7 rfl (by omega) (by omega)), if_neg (dv 8 8 rfl (by omega) (by omega)), if_neg (dv 9 9 rfl (by omega) (by omega))]
    rfl

theorem s_wouldBe (hw : WF a) (hr : RSf c h k p w n dh dc dt dn on rk H no re x a x) {y z to : Int} (hy : sm y) (hz : sm z) (ht : sm to) : AX x (f_L_wouldBe c n rk H no x out (iI y) (iI z) (iI to)) (f_M_wouldBe (Q a) x th (iI y) (iI z) (iI to)) := by
  obtain ⟨h1, h2, h3, rfl, rfl, rfl, h7⟩ := hr
  by_cases q : isK a y z
  · have e := M_key hw q
    have hk := kr_ok hw q
    have hks : sm (kr a y z) := by have := hw.b2; unfold ok at hk; omega
    by_cases q2 : 0 ≤ to ∧ to < a 0
    · have hT : f_TR_wouldBe c n rk (iI (a 0)) (iI (a 3)) x (iI y) (iI z) (iI to) = some (0, iI (if kr a y z < 0 then -9 else lrn a x y (kr a y z) to)) := by
        unfold f_TR_wouldBe
        rw [rK_t hw hy hz q, cal_some, if_neg nn0, Str_hasHouse hw ht, cal_some, rP_t q2, cal_some, if_neg nn0, Str_codeIfTaught hw h1 h3 x q q2, cal_some]
      refine ax0 (by unfold f_L_wouldBe; rw [hT, cal_some]; rfl) ?_
      unfold f_M_wouldBe
      rw [M_isKey_t hw hy hz q, cal_some, if_neg z10, M_isHouse hw ht, cal_some, if_nbI, if_pos q2, M_keyAt, cal_some, gd_t e.1, e.2]
      by_cases q3 : kr a y z < 0
      · rw [if_neg (by rw [l_0, iI_le (by omega) (by omega) hks.1 hks.2]; omega), if_pos q3]
        rfl
      · rw [if_pos (by rw [l_0, iI_le (by omega) (by omega) hks.1 hks.2]; omega), if_neg q3, M_learned hw x q q2 (by omega), cal_some]
    · have hT : f_TR_wouldBe c n rk (iI (a 0)) (iI (a 3)) x (iI y) (iI z) (iI to) = some (1, 0) := by
        unfold f_TR_wouldBe
        rw [rK_t hw hy hz q, cal_some, if_neg nn0, Str_hasHouse hw ht, cal_some, rP_f q2, cal_some, if_pos nt1]
      refine axk (r := 0) n1 (by unfold f_L_wouldBe; rw [hT, cal_some]; rfl) ?_
      unfold f_M_wouldBe f_M_wouldBe_22
      rw [M_isKey_t hw hy hz q, cal_some, if_neg z10, M_isHouse hw ht, cal_some, if_nbI, if_neg q2]
      rfl
  · have hT : f_TR_wouldBe c n rk (iI (a 0)) (iI (a 3)) x (iI y) (iI z) (iI to) = some (1, 0) := by
      unfold f_TR_wouldBe
      rw [rK_f hw hy hz q, cal_some, if_pos nt1]
    refine axk (r := 0) n1 (by unfold f_L_wouldBe; rw [hT, cal_some]; rfl) ?_
    unfold f_M_wouldBe f_M_wouldBe_22
    rw [M_isKey_f hw hy hz q, cal_some, if_pos rfl]
    rfl
theorem s_handed (hw : WF a) (hr : RSf c h k p w n dh dc dt dn on rk H no re x a x) {y z to : Int} (hy : sm y) (hz : sm z) (ht : sm to) : AX x (f_L_handed c n rk H no x out (iI y) (iI z) (iI to)) (f_M_handed (Q a) x th (iI y) (iI z) (iI to)) := by
  obtain ⟨h1, h2, h3, rfl, rfl, rfl, h7⟩ := hr
  by_cases q : isK a y z
  · have e := M_key hw q
    have hk := kr_ok hw q
    have hcd := cd_sm hw hk
    have hks : sm (kr a y z) := by have := hw.b2; unfold ok at hk; omega
    by_cases q2 : 0 ≤ to ∧ to < a 0
    · have hT : f_TR_handed c n rk (iI (a 0)) (iI (a 3)) x (iI y) (iI z) (iI to) = some (0, iI (if kr a y z < 0 then -9 else (hnd a x (cd a (kr a y z)) (di y to).toNat).1)) := by
        unfold f_TR_handed
        rw [rK_t hw hy hz q, cal_some, if_neg nn0, Str_hasHouse hw ht, cal_some, rP_t q2, cal_some, if_neg nn0, Str_codeIfHanded hw h1 h3 x q q2, cal_some]
      refine ax0 (by unfold f_L_handed; rw [hT, cal_some]; rfl) ?_
      unfold f_M_handed
      rw [M_isKey_t hw hy hz q, cal_some, if_neg z10, M_isHouse hw ht, cal_some, if_nbI, if_pos q2, M_keyAt, cal_some, gd_t e.1, e.2]
      by_cases q3 : kr a y z < 0
      · rw [if_neg (by rw [l_0, iI_le (by omega) (by omega) hks.1 hks.2]; omega), if_pos q3]
        rfl
      · rw [if_pos (by rw [l_0, iI_le (by omega) (by omega) hks.1 hks.2]; omega), if_neg q3, cal_some, gd_t e.1, e.2, M_cd hw hk (by omega), cal_some, M_handedOn hw x (by omega) (by omega) q.1 q2, cal_some]
    · have hT : f_TR_handed c n rk (iI (a 0)) (iI (a 3)) x (iI y) (iI z) (iI to) = some (1, 0) := by
        unfold f_TR_handed
        rw [rK_t hw hy hz q, cal_some, if_neg nn0, Str_hasHouse hw ht, cal_some, rP_f q2, cal_some, if_pos nt1]
      refine axk (r := 0) n1 (by unfold f_L_handed; rw [hT, cal_some]; rfl) ?_
      unfold f_M_handed f_M_handed_22
      rw [M_isKey_t hw hy hz q, cal_some, if_neg z10, M_isHouse hw ht, cal_some, if_nbI, if_neg q2]
      rfl
  · have hT : f_TR_handed c n rk (iI (a 0)) (iI (a 3)) x (iI y) (iI z) (iI to) = some (1, 0) := by
      unfold f_TR_handed
      rw [rK_f hw hy hz q, cal_some, if_pos nt1]
    refine axk (r := 0) n1 (by unfold f_L_handed; rw [hT, cal_some]; rfl) ?_
    unfold f_M_handed f_M_handed_22
    rw [M_isKey_f hw hy hz q, cal_some, if_pos rfl]
    rfl
theorem s_bestTeacher (hw : WF a) (hr : RSf c h k p w n dh dc dt dn on rk H no re x a x) {to d : Int} (ht : sm to) (hd : sm d) : AX x (f_L_bestTeacher c n dc dn rk H no x out (iI to) (iI d)) (f_M_bestTeacher (Q a) x th (iI to) (iI d)) := by
  obtain ⟨h1, h2, h3, rfl, rfl, rfl, h7⟩ := hr
  have b1 := hw.b1
  by_cases q : 0 ≤ to ∧ to < a 0
  · by_cases q2 : 0 ≤ d ∧ d < a 1
    · obtain ⟨j, rfl⟩ := Int.eq_ofNat_of_zero_le q2.1
      have hT : f_TR_bestTeacher c n dc dn rk (iI (a 0)) (iI (a 3)) x (iI to) (iI j) = some (0, iI (bst a x to j (6 * (a 0).toNat)).1) := by
        unfold f_TR_bestTeacher
        rw [Str_hasHouse hw ht, cal_some, rP_t q, cal_some, if_neg nn0, h2.1, Dev_has b1.1 b1.2 hd, cal_some, rP_t q2, cal_some, if_neg nn0, ← h2.1, Dev_codeOf hw h2 q2.2, cal_some, Str_teacher hw h1 h3 x q2.2 q, cal_some]
      refine ax0 (by unfold f_L_bestTeacher; rw [hT, cal_some]; rfl) ?_
      unfold f_M_bestTeacher
      rw [M_isHouse hw ht, cal_some, if_bI, if_pos q, M_isDevice hw hd, cal_some, if_nbI, if_pos q2, bnd_s]
      exact M_best_loop hw x q2.2 q
    · have hT : f_TR_bestTeacher c n dc dn rk (iI (a 0)) (iI (a 3)) x (iI to) (iI d) = some (1, 0) := by
        unfold f_TR_bestTeacher
        rw [Str_hasHouse hw ht, cal_some, rP_t q, cal_some, if_neg nn0, h2.1, Dev_has b1.1 b1.2 hd, cal_some, rP_f q2, cal_some, if_pos nt1]
      refine axk (r := 0) n1 (by unfold f_L_bestTeacher; rw [hT, cal_some]; rfl) ?_
      unfold f_M_bestTeacher f_M_bestTeacher_21
      rw [M_isHouse hw ht, cal_some, if_bI, if_pos q, M_isDevice hw hd, cal_some, if_nbI, if_neg q2]
      rfl
  · have hT : f_TR_bestTeacher c n dc dn rk (iI (a 0)) (iI (a 3)) x (iI to) (iI d) = some (1, 0) := by
      unfold f_TR_bestTeacher
      rw [Str_hasHouse hw ht, cal_some, rP_f q, cal_some, if_pos nt1]
    refine axk (r := 0) n1 (by unfold f_L_bestTeacher; rw [hT, cal_some]; rfl) ?_
    unfold f_M_bestTeacher f_M_bestTeacher_21
    rw [M_isHouse hw ht, cal_some, if_bI, if_neg q]
    rfl
theorem s_leastTolerance (hw : WF a) (hr : RSf c h k p w n dh dc dt dn on rk H no re sx a x) {d : Int} (hd : sm d) : AN (f_L_leastTolerance c p n dc dn rk out (iI d)) (f_M_leastTolerance (Q a) th (iI d)) := by
  obtain ⟨h1, h2, h3, rfl, rfl, rfl, h7⟩ := hr
  have b1 := hw.b1
  by_cases q2 : 0 ≤ d ∧ d < a 1
  · obtain ⟨j, rfl⟩ := Int.eq_ofNat_of_zero_le q2.1
    have hb := ltm_b a j (6 * (a 0).toNat)
    have hT : f_TR_leastTolerance c p n dc dn rk (iI j) = some (0, iI (if 3 < ltm a j (6 * (a 0).toNat) then -9 else ltm a j (6 * (a 0).toNat))) := by
      unfold f_TR_leastTolerance
      rw [h2.1, Dev_has b1.1 b1.2 hd, cal_some, rP_t q2, cal_some, if_neg nn0, ← h2.1, Dev_codeOf hw h2 q2.2, cal_some, Str_farthest hw h1 h3 q2.2, cal_some, TR_isTolerance (by omega), cal_some, if_bI]
      by_cases q3 : 3 < ltm a j (6 * (a 0).toNat)
      · rw [if_pos q3, if_neg (by omega)]
        rfl
      · rw [if_neg q3, if_pos (by omega)]
    refine an0 (by unfold f_L_leastTolerance; rw [hT, cal_some]; rfl) ?_
    unfold f_M_leastTolerance
    rw [M_isDevice hw hd, cal_some, if_nbI, if_pos q2]
    exact M_least_loop hw q2.2
  · have hT : f_TR_leastTolerance c p n dc dn rk (iI d) = some (1, 0) := by
      unfold f_TR_leastTolerance
      rw [h2.1, Dev_has b1.1 b1.2 hd, cal_some, rP_f q2, cal_some, if_pos nt1]
    refine ank (r := 0) n1 (by unfold f_L_leastTolerance; rw [hT, cal_some]; rfl) ?_
    unfold f_M_leastTolerance
    rw [M_isDevice hw hd, cal_some, if_nbI, if_neg q2]
    rfl
theorem s_simulate (hw : WF a) (hr : RSf c h k p w n dh dc dt dn on rk H no re x a x) {y z m : Int} (s : Int64) (hy : sm y) (hz : sm z) (hm : sm m) : AX x (f_L_simulate c n rk H no out (iI y) (iI z) s (iI m)) (f_M_simulate (Q a) x th (iI y) (iI z) s (iI m)) := by
  obtain ⟨h1, h2, h3, rfl, rfl, rfl, h7⟩ := hr
  by_cases q : isK a y z
  · have e := M_key hw q
    have hk := kr_ok hw q
    have hcd := cd_sm hw hk
    have hks : sm (kr a y z) := by have := hw.b2; unfold ok at hk; omega
    by_cases q2 : 1 ≤ m ∧ m ≤ 60
    · have md : f_M_in (Int32.toInt64 (iI m)) 1 60 = some (bI (1 ≤ m ∧ m ≤ 60)) := by
        rw [ll_1, ll_60, M_inI hm (by omega) (by omega) (by omega) (by omega)]
      by_cases q3 : kr a y z < 0
      · have hT : f_TR_simulate c n rk (iI (a 0)) (iI (a 3)) (iI y) (iI z) s (iI m) = some (0, -9) := by
          unfold f_TR_simulate
          rw [rK_t hw hy hz q, cal_some, if_neg nn0]
          show cal (f_TR_isWithin (iI m) (iI 1) (iI 60)) _ = _
          rw [TR_isWithin hm (by omega) (by omega), cal_some, rA_t q2, cal_some, if_neg nn0, Str_codeOf hw h1 h3 q, cal_some, if_neg (show ¬ ¬ iI (cd a (kr a y z)) = -9 from fun zz => zz (by rw [show cd a (kr a y z) = -9 by omega]; rfl))]
        refine ax0 (by unfold f_L_simulate; rw [hT, cal_some]; rfl) ?_
        unfold f_M_simulate
        rw [M_isKey_t hw hy hz q, cal_some, if_pos z10, md, cal_some, if_nbI, if_pos q2, M_keyAt, cal_some, gd_t e.1, e.2, if_neg (by rw [l_0, iI_le (by omega) (by omega) hks.1 hks.2]; omega)]
      · have hT : f_TR_simulate c n rk (iI (a 0)) (iI (a 3)) (iI y) (iI z) s (iI m) = some (0, iI (1000 * sms a s (cd a (kr a y z)) (a 0 - 1 - y).toNat m.toNat + smp a s (cd a (kr a y z)) (a 0 - 1 - y).toNat m.toNat)) := by
          unfold f_TR_simulate
          rw [rK_t hw hy hz q, cal_some, if_neg nn0]
          show cal (f_TR_isWithin (iI m) (iI 1) (iI 60)) _ = _
          rw [TR_isWithin hm (by omega) (by omega), cal_some, rA_t q2, cal_some, if_neg nn0, Str_codeOf hw h1 h3 q, cal_some, if_pos (ne9 (by omega) (by omega)), Str_simulate hw s (by omega) q.1 q2, cal_some]
        refine ax0 (by unfold f_L_simulate; rw [hT, cal_some]; rfl) ?_
        unfold f_M_simulate
        rw [M_isKey_t hw hy hz q, cal_some, if_pos z10, md, cal_some, if_nbI, if_pos q2, M_keyAt, cal_some, gd_t e.1, e.2, if_pos (by rw [l_0, iI_le (by omega) (by omega) hks.1 hks.2]; omega), cal_some, gd_t e.1, e.2, M_cd hw hk (by omega), cal_some]
        exact M_sim_loop hw x s (by omega) q.1 q2
    · have hT : f_TR_simulate c n rk (iI (a 0)) (iI (a 3)) (iI y) (iI z) s (iI m) = some (2, 0) := by
        unfold f_TR_simulate
        rw [rK_t hw hy hz q, cal_some, if_neg nn0]
        show cal (f_TR_isWithin (iI m) (iI 1) (iI 60)) _ = _
        rw [TR_isWithin hm (by omega) (by omega), cal_some, rA_f q2, cal_some, if_pos nt2]
      refine axk (r := 0) n2 (by unfold f_L_simulate; rw [hT, cal_some]; rfl) ?_
      unfold f_M_simulate
      rw [M_isKey_t hw hy hz q, cal_some, if_pos z10, ll_1, ll_60, M_inI hm (by omega) (by omega) (by omega) (by omega), cal_some, if_nbI, if_neg q2]
      rfl
  · have hT : f_TR_simulate c n rk (iI (a 0)) (iI (a 3)) (iI y) (iI z) s (iI m) = some (1, 0) := by
      unfold f_TR_simulate
      rw [rK_f hw hy hz q, cal_some, if_pos nt1]
    refine axk (r := 0) n1 (by unfold f_L_simulate; rw [hT, cal_some]; rfl) ?_
    unfold f_M_simulate
    rw [M_isKey_f hw hy hz q, cal_some, if_neg zz0]
    rfl
end STEPS
