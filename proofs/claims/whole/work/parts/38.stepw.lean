/-! the calls that change something -/
section STEPW
variable {c h k p w : Nat → Int32} {n : Int32} {dh dc dt : Nat → Int32} {dn on : Int32} {rk : Nat → Int32} {H no re : Int32} {a : Nat → Int} {x : Int64} {st : Nat → SV} {old cnt : Int32} {rm : Nat → Int32} {rx : Nat → Int64} {ss : Int32} (out : Nat → Int64) (th : Int32)

theorem s_enter (hw : WF a) (hr : RSf c h k p w n dh dc dt dn on rk H no re x a x) (hm : RM st old cnt rm rx ss) {y z v : Int} (h_y : sm y) (h_z : sm z) (h_v : sm v) : ∃ kk r c' h' k' p' w' n' rk' st' old' cnt' out' rm' rx' ss' a', f_L_enter c h k p w n dh dc dt dn on rk H no re x st old cnt out (iI y) (iI z) (iI v) = some (kk, c', h', k', p', w', n', rk', st', old', cnt', out') ∧ f_M_enter (Q a) x rm rx ss th (iI y) (iI z) (iI v) = some (r, Q a', rm', rx', ss', kk) ∧ (kk = 0 → out' 0 = Int32.toInt64 r) ∧ WF a' ∧ RSf c' h' k' p' w' n' dh dc dt dn on rk' H no re x a' x ∧ RM st' old' cnt' rm' rx' ss' := by
  have hr' := hr
  obtain ⟨h1, h2, h3, rfl, rfl, rfl, h7⟩ := hr
  have b0 := hw.b0
  have b1 := hw.b1
  have b2 := hw.b2
  obtain ⟨st2, old2, cnt2, rm2, rx2, ss2, e1, e2, e3⟩ := remembers hm hw hr'
  by_cases q : isK a y z
  · by_cases q2 : 0 ≤ v ∧ v ≤ 4095
    · by_cases q3 : a 2 < 40
      · have hT : f_TR_enter c h k p w n dh dc dt dn on rk (iI (a 0)) (iI (a 3)) (iI (a 4)) x st old cnt (iI y) (iI z) (iI v) = some (0, iI (a 2), upd c (a 2).toNat (iI v), upd h (a 2).toNat (iI y), upd k (a 2).toNat (iI z), upd p (a 2).toNat (n9 (-1)), upd w (a 2).toNat (n9 (-1)), iI (a 2 + 1), upd rk (ki y z) (iI (a 2)), st2, old2, cnt2) := by
          unfold f_TR_enter
          rw [rK_t hw h_y h_z q, cal_some, if_neg nn0, TR_isCode h_v, cal_some, rA_t q2, cal_some, if_neg nn0, h1.1, Rec_hasRoom b2.1 b2.2, cal_some, rS_t q3, cal_some, if_neg nn0, ← h1.1, e1, cal_some, Str_enterCode hw q3 h1.1 q, cal_some, h1.1]
        have hL : f_L_enter c h k p w n dh dc dt dn on rk (iI (a 0)) (iI (a 3)) (iI (a 4)) x st old cnt out (iI y) (iI z) (iI v) = some (0, upd c (a 2).toNat (iI v), upd h (a 2).toNat (iI y), upd k (a 2).toNat (iI z), upd p (a 2).toNat (n9 (-1)), upd w (a 2).toNat (n9 (-1)), iI (a 2 + 1), upd rk (ki y z) (iI (a 2)), st2, old2, cnt2, vp_updL out 0 (Int32.toInt64 (iI (a 2)))) := by unfold f_L_enter; rw [hT, cal_some]; rfl
        have hM : f_M_enter (Q a) x rm rx ss th (iI y) (iI z) (iI v) = some (iI (a 2), Q (mks a v y z (-1) (-1)), rm2, rx2, ss2, 0) := by
          unfold f_M_enter
          rw [M_isKey_t hw h_y h_z q, cal_some, if_pos z10, M_in0 h_v (by omega) (show (4095 : Int64) = lL 4095 from rfl), cal_some, if_nbI, if_pos q2, if_pos (show ¬ Q a 2 = 40 by rw [Q_at, l_40, iI_eq (by omega) (by omega) (by omega) (by omega)]; omega), e2, cal_some, show (-1 : Int32) = iI (-1) from rfl, M_makes hw q3 q, cal_some]
        exact ⟨0, iI (a 2), upd c (a 2).toNat (iI v), upd h (a 2).toNat (iI y), upd k (a 2).toNat (iI z), upd p (a 2).toNat (n9 (-1)), upd w (a 2).toNat (n9 (-1)), iI (a 2 + 1), upd rk (ki y z) (iI (a 2)), st2, old2, cnt2, vp_updL out 0 (Int32.toInt64 (iI (a 2))), rm2, rx2, ss2, mks a v y z (-1) (-1), hL, hM, fun _ => rfl, mks_WF hw q3 q (by omega) (by omega) (by omega), RS_mks hw q3 q hr' x, e3⟩
      · have hT : f_TR_enter c h k p w n dh dc dt dn on rk (iI (a 0)) (iI (a 3)) (iI (a 4)) x st old cnt (iI y) (iI z) (iI v) = some (3, 0, c, h, k, p, w, n, rk, st, old, cnt) := by
          unfold f_TR_enter
          rw [rK_t hw h_y h_z q, cal_some, if_neg nn0, TR_isCode h_v, cal_some, rA_t q2, cal_some, if_neg nn0, h1.1, Rec_hasRoom b2.1 b2.2, cal_some, rS_f q3, cal_some, if_pos nt3]
        have hL : f_L_enter c h k p w n dh dc dt dn on rk (iI (a 0)) (iI (a 3)) (iI (a 4)) x st old cnt out (iI y) (iI z) (iI v) = some (3, c, h, k, p, w, n, rk, st, old, cnt, out) := by unfold f_L_enter; rw [hT, cal_some]; rfl
        have hM : f_M_enter (Q a) x rm rx ss th (iI y) (iI z) (iI v) = some (0, Q a, rm, rx, ss, 3) := by
          unfold f_M_enter
          rw [M_isKey_t hw h_y h_z q, cal_some, if_pos z10, M_in0 h_v (by omega) (show (4095 : Int64) = lL 4095 from rfl), cal_some, if_nbI, if_pos q2, if_neg (show ¬ ¬ Q a 2 = 40 by rw [Q_at, l_40, iI_eq (by omega) (by omega) (by omega) (by omega)]; omega)]
          rfl
        exact ⟨3, 0, c, h, k, p, w, n, rk, st, old, cnt, out, rm, rx, ss, a, hL, hM, fun z => absurd z (by decide), hw, hr', hm⟩
    · have hT : f_TR_enter c h k p w n dh dc dt dn on rk (iI (a 0)) (iI (a 3)) (iI (a 4)) x st old cnt (iI y) (iI z) (iI v) = some (2, 0, c, h, k, p, w, n, rk, st, old, cnt) := by
        unfold f_TR_enter
        rw [rK_t hw h_y h_z q, cal_some, if_neg nn0, TR_isCode h_v, cal_some, rA_f q2, cal_some, if_pos nt2]
      have hL : f_L_enter c h k p w n dh dc dt dn on rk (iI (a 0)) (iI (a 3)) (iI (a 4)) x st old cnt out (iI y) (iI z) (iI v) = some (2, c, h, k, p, w, n, rk, st, old, cnt, out) := by unfold f_L_enter; rw [hT, cal_some]; rfl
      have hM : f_M_enter (Q a) x rm rx ss th (iI y) (iI z) (iI v) = some (0, Q a, rm, rx, ss, 2) := by
        unfold f_M_enter
        rw [M_isKey_t hw h_y h_z q, cal_some, if_pos z10, M_in0 h_v (by omega) (show (4095 : Int64) = lL 4095 from rfl), cal_some, if_nbI, if_neg q2]
        rfl
      exact ⟨2, 0, c, h, k, p, w, n, rk, st, old, cnt, out, rm, rx, ss, a, hL, hM, fun z => absurd z (by decide), hw, hr', hm⟩
  · have hT : f_TR_enter c h k p w n dh dc dt dn on rk (iI (a 0)) (iI (a 3)) (iI (a 4)) x st old cnt (iI y) (iI z) (iI v) = some (1, 0, c, h, k, p, w, n, rk, st, old, cnt) := by
      unfold f_TR_enter
      rw [rK_f hw h_y h_z q, cal_some, if_pos nt1]
    have hL : f_L_enter c h k p w n dh dc dt dn on rk (iI (a 0)) (iI (a 3)) (iI (a 4)) x st old cnt out (iI y) (iI z) (iI v) = some (1, c, h, k, p, w, n, rk, st, old, cnt, out) := by unfold f_L_enter; rw [hT, cal_some]; rfl
    have hM : f_M_enter (Q a) x rm rx ss th (iI y) (iI z) (iI v) = some (0, Q a, rm, rx, ss, 1) := by
      unfold f_M_enter
      rw [M_isKey_f hw h_y h_z q, cal_some, if_neg zz0]
      rfl
    exact ⟨1, 0, c, h, k, p, w, n, rk, st, old, cnt, out, rm, rx, ss, a, hL, hM, fun z => absurd z (by decide), hw, hr', hm⟩

theorem s_erase (hw : WF a) (hr : RSf c h k p w n dh dc dt dn on rk H no re x a x) (hm : RM st old cnt rm rx ss) {y z : Int} (h_y : sm y) (h_z : sm z) : ∃ kk r rk' st' old' cnt' out' rm' rx' ss' a', f_L_erase c h k p w n dh dc dt dn on rk H no re x st old cnt out (iI y) (iI z) = some (kk, rk', st', old', cnt', out') ∧ f_M_erase (Q a) x rm rx ss th (iI y) (iI z) = some (r, Q a', rm', rx', ss', kk) ∧ (kk = 0 → out' 0 = Int32.toInt64 r) ∧ WF a' ∧ RSf c h k p w n dh dc dt dn on rk' H no re x a' x ∧ RM st' old' cnt' rm' rx' ss' := by
  have hr' := hr
  obtain ⟨h1, h2, h3, rfl, rfl, rfl, h7⟩ := hr
  have b0 := hw.b0
  have b1 := hw.b1
  have b2 := hw.b2
  obtain ⟨st2, old2, cnt2, rm2, rx2, ss2, e1, e2, e3⟩ := remembers hm hw hr'
  by_cases q : isK a y z
  · have e := M_key hw q
    have hk := ki_lt hw q
    have hz := kr_ok hw q
    have hcd := cd_sm hw hz
    have hzz : sm (kr a y z) := by unfold ok at hz; omega
    have en : cd (ers a y z) (kr a y z) = cd a (kr a y z) := by
      unfold cd
      split
      · rfl
      · exact ers_o (by omega)
    have hT : f_TR_erase c h k p w n dh dc dt dn on rk (iI (a 0)) (iI (a 3)) (iI (a 4)) x st old cnt (iI y) (iI z) = some (0, iI (cd a (kr a y z)), upd rk (ki y z) (n9 (-1)), st2, old2, cnt2) := by
      unfold f_TR_erase
      rw [rK_t hw h_y h_z q, cal_some, if_neg nn0, e1, cal_some, Str_eraseKey hw h1 h3 q, cal_some]
    have hL : f_L_erase c h k p w n dh dc dt dn on rk (iI (a 0)) (iI (a 3)) (iI (a 4)) x st old cnt out (iI y) (iI z) = some (0, upd rk (ki y z) (n9 (-1)), st2, old2, cnt2, vp_updL out 0 (Int32.toInt64 (iI (cd a (kr a y z))))) := by unfold f_L_erase; rw [hT, cal_some]; rfl
    have hM : f_M_erase (Q a) x rm rx ss th (iI y) (iI z) = some (iI (cd a (kr a y z)), Q (ers a y z), rm2, rx2, ss2, 0) := by
      unfold f_M_erase
      rw [M_isKey_t hw h_y h_z q, cal_some, if_pos z10, e2, cal_some, M_keyAt, cal_some, gd_t e.1, bnd_s, cal_some, gd_t e.1, e.2]
      have e5 : upd (Q a) (iI (5 + 6 * y + z)).toNatClampNeg (-1) = Q (ers a y z) := by
        rw [iI_cl (by omega) (by omega), hk.2.1, show (-1 : Int32) = iI (-1) from rfl, Q_up]
        rfl
      rw [e5]
      by_cases q2 : 0 ≤ kr a y z
      · rw [if_pos (show 0 ≤ iI (kr a y z) by rw [l_0, iI_le (by omega) (by omega) hzz.1 hzz.2]; exact q2), M_cd (ers_WF hw q) (by unfold ok at hz ⊢; rw [show ers a y z 2 = a 2 from ers_o (by omega)]; exact hz) q2, cal_some, en]
      · rw [if_neg (show ¬ 0 ≤ iI (kr a y z) by rw [l_0, iI_le (by omega) (by omega) hzz.1 hzz.2]; exact q2), show cd a (kr a y z) = -9 by omega]
        rfl
    exact ⟨0, iI (cd a (kr a y z)), upd rk (ki y z) (n9 (-1)), st2, old2, cnt2, vp_updL out 0 (Int32.toInt64 (iI (cd a (kr a y z)))), rm2, rx2, ss2, ers a y z, hL, hM, fun _ => rfl, ers_WF hw q, RS_ers hw q hr', e3⟩
  · have hT : f_TR_erase c h k p w n dh dc dt dn on rk (iI (a 0)) (iI (a 3)) (iI (a 4)) x st old cnt (iI y) (iI z) = some (1, 0, rk, st, old, cnt) := by
      unfold f_TR_erase
      rw [rK_f hw h_y h_z q, cal_some, if_pos nt1]
    have hL : f_L_erase c h k p w n dh dc dt dn on rk (iI (a 0)) (iI (a 3)) (iI (a 4)) x st old cnt out (iI y) (iI z) = some (1, rk, st, old, cnt, out) := by unfold f_L_erase; rw [hT, cal_some]; rfl
    have hM : f_M_erase (Q a) x rm rx ss th (iI y) (iI z) = some (0, Q a, rm, rx, ss, 1) := by
      unfold f_M_erase
      rw [M_isKey_f hw h_y h_z q, cal_some, if_neg zz0]
      rfl
    exact ⟨1, 0, rk, st, old, cnt, out, rm, rx, ss, a, hL, hM, fun z => absurd z (by decide), hw, hr', hm⟩

theorem s_press (hw : WF a) (hr : RSf c h k p w n dh dc dt dn on rk H no re x a x) (hm : RM st old cnt rm rx ss) {y z : Int} (h_y : sm y) (h_z : sm z) : ∃ kk r on' st' old' cnt' out' rm' rx' ss' a', f_L_press c h k p w n dh dc dt dn on rk H no re x st old cnt out (iI y) (iI z) = some (kk, on', st', old', cnt', out') ∧ f_M_press (Q a) x rm rx ss th (iI y) (iI z) = some (r, Q a', rm', rx', ss', kk) ∧ (kk = 0 → out' 0 = Int32.toInt64 r) ∧ WF a' ∧ RSf c h k p w n dh dc dt dn on' rk H no re x a' x ∧ RM st' old' cnt' rm' rx' ss' := by
  have hr' := hr
  obtain ⟨h1, h2, h3, rfl, rfl, rfl, h7⟩ := hr
  have b0 := hw.b0
  have b1 := hw.b1
  have b2 := hw.b2
  obtain ⟨st2, old2, cnt2, rm2, rx2, ss2, e1, e2, e3⟩ := remembers hm hw hr'
  by_cases q : isK a y z
  · have e := M_key hw q
    have hz := kr_ok hw q
    have hzz : sm (kr a y z) := by unfold ok at hz; omega
    by_cases q2 : 0 ≤ kr a y z
    · have hT : f_TR_press c h k p w n dh dc dt dn on rk (iI (a 0)) (iI (a 3)) (iI (a 4)) x st old cnt (iI y) (iI z) = some (0, nI (am a y (kr a y z)), on ^^^ nI (am a y (kr a y z)), st2, old2, cnt2) := by
        unfold f_TR_press
        rw [rK_t hw h_y h_z q, cal_some, if_neg nn0, Str_hasCode hw h3 q, cal_some, rS_t q2, cal_some, if_neg nn0, e1, cal_some, Str_pressKey hw h1 h2 h3 q, cal_some]
      have hL : f_L_press c h k p w n dh dc dt dn on rk (iI (a 0)) (iI (a 3)) (iI (a 4)) x st old cnt out (iI y) (iI z) = some (0, on ^^^ nI (am a y (kr a y z)), st2, old2, cnt2, vp_updL out 0 (Int32.toInt64 (nI (am a y (kr a y z))))) := by unfold f_L_press; rw [hT, cal_some]; rfl
      have hM : f_M_press (Q a) x rm rx ss th (iI y) (iI z) = some (nI (am a y (kr a y z)), Q (prs a y z), rm2, rx2, ss2, 0) := by
        unfold f_M_press
        rw [M_isKey_t hw h_y h_z q, cal_some, if_pos z10, M_keyAt, cal_some, gd_t e.1, e.2, if_pos (show 0 ≤ iI (kr a y z) by rw [l_0, iI_le (by omega) (by omega) hzz.1 hzz.2]; exact q2), e2, cal_some, M_presses hw q, cal_some]
        rfl
      exact ⟨0, nI (am a y (kr a y z)), on ^^^ nI (am a y (kr a y z)), st2, old2, cnt2, vp_updL out 0 (Int32.toInt64 (nI (am a y (kr a y z)))), rm2, rx2, ss2, prs a y z, hL, hM, fun _ => rfl, prs_WF hw y z, RS_prs hw hr', e3⟩
    · have hT : f_TR_press c h k p w n dh dc dt dn on rk (iI (a 0)) (iI (a 3)) (iI (a 4)) x st old cnt (iI y) (iI z) = some (3, 0, on, st, old, cnt) := by
        unfold f_TR_press
        rw [rK_t hw h_y h_z q, cal_some, if_neg nn0, Str_hasCode hw h3 q, cal_some, rS_f q2, cal_some, if_pos nt3]
      have hL : f_L_press c h k p w n dh dc dt dn on rk (iI (a 0)) (iI (a 3)) (iI (a 4)) x st old cnt out (iI y) (iI z) = some (2, on, st, old, cnt, out) := by unfold f_L_press; rw [hT, cal_some]; rfl
      have hM : f_M_press (Q a) x rm rx ss th (iI y) (iI z) = some (0, Q a, rm, rx, ss, 2) := by
        unfold f_M_press
        rw [M_isKey_t hw h_y h_z q, cal_some, if_pos z10, M_keyAt, cal_some, gd_t e.1, e.2, if_neg (show ¬ 0 ≤ iI (kr a y z) by rw [l_0, iI_le (by omega) (by omega) hzz.1 hzz.2]; exact q2)]
        rfl
      exact ⟨2, 0, on, st, old, cnt, out, rm, rx, ss, a, hL, hM, fun z => absurd z (by decide), hw, hr', hm⟩
  · have hT : f_TR_press c h k p w n dh dc dt dn on rk (iI (a 0)) (iI (a 3)) (iI (a 4)) x st old cnt (iI y) (iI z) = some (1, 0, on, st, old, cnt) := by
      unfold f_TR_press
      rw [rK_f hw h_y h_z q, cal_some, if_pos nt1]
    have hL : f_L_press c h k p w n dh dc dt dn on rk (iI (a 0)) (iI (a 3)) (iI (a 4)) x st old cnt out (iI y) (iI z) = some (1, on, st, old, cnt, out) := by unfold f_L_press; rw [hT, cal_some]; rfl
    have hM : f_M_press (Q a) x rm rx ss th (iI y) (iI z) = some (0, Q a, rm, rx, ss, 1) := by
      unfold f_M_press
      rw [M_isKey_f hw h_y h_z q, cal_some, if_neg zz0]
      rfl
    exact ⟨1, 0, on, st, old, cnt, out, rm, rx, ss, a, hL, hM, fun z => absurd z (by decide), hw, hr', hm⟩

theorem s_addDevice (hw : WF a) (hr : RSf c h k p w n dh dc dt dn on rk H no re x a x) (hm : RM st old cnt rm rx ss) {y v u : Int} (h_y : sm y) (h_v : sm v) (h_u : sm u) : ∃ kk r dh' dc' dt' dn' st' old' cnt' out' rm' rx' ss' a', f_L_addDevice c h k p w n dh dc dt dn on rk H no re x st old cnt out (iI y) (iI v) (iI u) = some (kk, dh', dc', dt', dn', st', old', cnt', out') ∧ f_M_addDevice (Q a) x rm rx ss th (iI y) (iI v) (iI u) = some (r, Q a', rm', rx', ss', kk) ∧ (kk = 0 → out' 0 = Int32.toInt64 r) ∧ WF a' ∧ RSf c h k p w n dh' dc' dt' dn' on rk H no re x a' x ∧ RM st' old' cnt' rm' rx' ss' := by
  have hr' := hr
  obtain ⟨h1, h2, h3, rfl, rfl, rfl, h7⟩ := hr
  have b0 := hw.b0
  have b1 := hw.b1
  have b2 := hw.b2
  obtain ⟨st2, old2, cnt2, rm2, rx2, ss2, e1, e2, e3⟩ := remembers hm hw hr'
  have mc : f_M_in (Int32.toInt64 (iI v)) 0 4095 = some (bI (0 ≤ v ∧ v ≤ 4095)) := M_in0 h_v (by omega) rfl
  have mt : f_M_in (Int32.toInt64 (iI u)) 0 3 = some (bI (0 ≤ u ∧ u ≤ 3)) := M_in0 h_u (by omega) rfl
  by_cases q : 0 ≤ y ∧ y < a 0
  · by_cases q1 : 0 ≤ v ∧ v ≤ 4095
    · by_cases q2 : 0 ≤ u ∧ u ≤ 3
      · by_cases q3 : a 1 < 6
        · have hT : f_TR_addDevice c h k p w n dh dc dt dn on rk (iI (a 0)) (iI (a 3)) (iI (a 4)) x st old cnt (iI y) (iI v) (iI u) = some (0, iI (a 1), upd dh (a 1).toNat (iI y), upd dc (a 1).toNat (iI v), upd dt (a 1).toNat (iI u), iI (a 1 + 1), st2, old2, cnt2) := by
            unfold f_TR_addDevice f_TR_addDevice_30
            rw [Str_hasHouse hw h_y, cal_some, rP_t q, cal_some, if_neg nn0, TR_isCode h_v, cal_some, if_bI, if_pos q1, TR_isTolerance h_u, cal_some, if_bI, if_pos q2, show f_TR_requireArgument 1 = some 0 from rfl, cal_some, if_neg nn0, h2.1, Dev_hasRoom b1.1 b1.2, cal_some, rS_t q3, cal_some, if_neg nn0, ← h2.1, e1, cal_some, h2.1, Dev_add hw q3, cal_some]
          have hL : f_L_addDevice c h k p w n dh dc dt dn on rk (iI (a 0)) (iI (a 3)) (iI (a 4)) x st old cnt out (iI y) (iI v) (iI u) = some (0, upd dh (a 1).toNat (iI y), upd dc (a 1).toNat (iI v), upd dt (a 1).toNat (iI u), iI (a 1 + 1), st2, old2, cnt2, vp_updL out 0 (Int32.toInt64 (iI (a 1)))) := by unfold f_L_addDevice; rw [hT, cal_some]; rfl
          have hM : f_M_addDevice (Q a) x rm rx ss th (iI y) (iI v) (iI u) = some (iI (a 1), Q (ads a y v u), rm2, rx2, ss2, 0) := by
            unfold f_M_addDevice
            rw [M_isHouse hw h_y, cal_some, if_nbI, if_pos q, mc, cal_some, if_bI, if_pos q1, mt, cal_some, if_nbI, if_pos q2, if_pos (show ¬ Q a 1 = 6 by rw [Q_at, l_6, iI_eq (by omega) (by omega) (by omega) (by omega)]; omega), e2, cal_some, M_adds hw q3, cal_some]
          exact ⟨0, iI (a 1), upd dh (a 1).toNat (iI y), upd dc (a 1).toNat (iI v), upd dt (a 1).toNat (iI u), iI (a 1 + 1), st2, old2, cnt2, vp_updL out 0 (Int32.toInt64 (iI (a 1))), rm2, rx2, ss2, ads a y v u, hL, hM, fun _ => rfl, ads_WF hw q3 (by omega) (by omega) q2, RS_ads hw q3 hr', e3⟩
        · have hT : f_TR_addDevice c h k p w n dh dc dt dn on rk (iI (a 0)) (iI (a 3)) (iI (a 4)) x st old cnt (iI y) (iI v) (iI u) = some (3, 0, dh, dc, dt, dn, st, old, cnt) := by
            unfold f_TR_addDevice f_TR_addDevice_30
            rw [Str_hasHouse hw h_y, cal_some, rP_t q, cal_some, if_neg nn0, TR_isCode h_v, cal_some, if_bI, if_pos q1, TR_isTolerance h_u, cal_some, if_bI, if_pos q2, show f_TR_requireArgument 1 = some 0 from rfl, cal_some, if_neg nn0, h2.1, Dev_hasRoom b1.1 b1.2, cal_some, rS_f q3, cal_some, if_pos nt3]
          have hL : f_L_addDevice c h k p w n dh dc dt dn on rk (iI (a 0)) (iI (a 3)) (iI (a 4)) x st old cnt out (iI y) (iI v) (iI u) = some (3, dh, dc, dt, dn, st, old, cnt, out) := by unfold f_L_addDevice; rw [hT, cal_some]; rfl
          have hM : f_M_addDevice (Q a) x rm rx ss th (iI y) (iI v) (iI u) = some (0, Q a, rm, rx, ss, 3) := by
            unfold f_M_addDevice
            rw [M_isHouse hw h_y, cal_some, if_nbI, if_pos q, mc, cal_some, if_bI, if_pos q1, mt, cal_some, if_nbI, if_pos q2, if_neg (show ¬ ¬ Q a 1 = 6 by rw [Q_at, l_6, iI_eq (by omega) (by omega) (by omega) (by omega)]; omega)]
            rfl
          exact ⟨3, 0, dh, dc, dt, dn, st, old, cnt, out, rm, rx, ss, a, hL, hM, fun z => absurd z (by decide), hw, hr', hm⟩
      · have hT : f_TR_addDevice c h k p w n dh dc dt dn on rk (iI (a 0)) (iI (a 3)) (iI (a 4)) x st old cnt (iI y) (iI v) (iI u) = some (2, 0, dh, dc, dt, dn, st, old, cnt) := by
          unfold f_TR_addDevice f_TR_addDevice_29 f_TR_addDevice_30
          rw [Str_hasHouse hw h_y, cal_some, rP_t q, cal_some, if_neg nn0, TR_isCode h_v, cal_some, if_bI, if_pos q1, TR_isTolerance h_u, cal_some, if_bI, if_neg q2, show f_TR_requireArgument 0 = some 2 from rfl, cal_some, if_pos nt2]
        have hL : f_L_addDevice c h k p w n dh dc dt dn on rk (iI (a 0)) (iI (a 3)) (iI (a 4)) x st old cnt out (iI y) (iI v) (iI u) = some (2, dh, dc, dt, dn, st, old, cnt, out) := by unfold f_L_addDevice; rw [hT, cal_some]; rfl
        have hM : f_M_addDevice (Q a) x rm rx ss th (iI y) (iI v) (iI u) = some (0, Q a, rm, rx, ss, 2) := by
          unfold f_M_addDevice f_M_addDevice_43
          rw [M_isHouse hw h_y, cal_some, if_nbI, if_pos q, mc, cal_some, if_bI, if_pos q1, mt, cal_some, if_nbI, if_neg q2]
          rfl
        exact ⟨2, 0, dh, dc, dt, dn, st, old, cnt, out, rm, rx, ss, a, hL, hM, fun z => absurd z (by decide), hw, hr', hm⟩
    · have hT : f_TR_addDevice c h k p w n dh dc dt dn on rk (iI (a 0)) (iI (a 3)) (iI (a 4)) x st old cnt (iI y) (iI v) (iI u) = some (2, 0, dh, dc, dt, dn, st, old, cnt) := by
        unfold f_TR_addDevice f_TR_addDevice_29 f_TR_addDevice_30
        rw [Str_hasHouse hw h_y, cal_some, rP_t q, cal_some, if_neg nn0, TR_isCode h_v, cal_some, if_bI, if_neg q1, show f_TR_requireArgument 0 = some 2 from rfl, cal_some, if_pos nt2]
      have hL : f_L_addDevice c h k p w n dh dc dt dn on rk (iI (a 0)) (iI (a 3)) (iI (a 4)) x st old cnt out (iI y) (iI v) (iI u) = some (2, dh, dc, dt, dn, st, old, cnt, out) := by unfold f_L_addDevice; rw [hT, cal_some]; rfl
      have hM : f_M_addDevice (Q a) x rm rx ss th (iI y) (iI v) (iI u) = some (0, Q a, rm, rx, ss, 2) := by
        unfold f_M_addDevice f_M_addDevice_43
        rw [M_isHouse hw h_y, cal_some, if_nbI, if_pos q, mc, cal_some, if_bI, if_neg q1]
        rfl
      exact ⟨2, 0, dh, dc, dt, dn, st, old, cnt, out, rm, rx, ss, a, hL, hM, fun z => absurd z (by decide), hw, hr', hm⟩
  · have hT : f_TR_addDevice c h k p w n dh dc dt dn on rk (iI (a 0)) (iI (a 3)) (iI (a 4)) x st old cnt (iI y) (iI v) (iI u) = some (1, 0, dh, dc, dt, dn, st, old, cnt) := by
      unfold f_TR_addDevice
      rw [Str_hasHouse hw h_y, cal_some, rP_f q, cal_some, if_pos nt1]
    have hL : f_L_addDevice c h k p w n dh dc dt dn on rk (iI (a 0)) (iI (a 3)) (iI (a 4)) x st old cnt out (iI y) (iI v) (iI u) = some (1, dh, dc, dt, dn, st, old, cnt, out) := by unfold f_L_addDevice; rw [hT, cal_some]; rfl
    have hM : f_M_addDevice (Q a) x rm rx ss th (iI y) (iI v) (iI u) = some (0, Q a, rm, rx, ss, 1) := by
      unfold f_M_addDevice
      rw [M_isHouse hw h_y, cal_some, if_nbI, if_neg q]
      rfl
    exact ⟨1, 0, dh, dc, dt, dn, st, old, cnt, out, rm, rx, ss, a, hL, hM, fun z => absurd z (by decide), hw, hr', hm⟩

theorem s_setTolerance (hw : WF a) (hr : RSf c h k p w n dh dc dt dn on rk H no re x a x) (hm : RM st old cnt rm rx ss) {y u : Int} (h_y : sm y) (h_u : sm u) : ∃ kk r dt' st' old' cnt' out' rm' rx' ss' a', f_L_setTolerance c h k p w n dh dc dt dn on rk H no re x st old cnt out (iI y) (iI u) = some (kk, dt', st', old', cnt', out') ∧ f_M_setTolerance (Q a) x rm rx ss th (iI y) (iI u) = some (r, Q a', rm', rx', ss', kk) ∧ (kk = 0 → out' 0 = Int32.toInt64 r) ∧ WF a' ∧ RSf c h k p w n dh dc dt' dn on rk H no re x a' x ∧ RM st' old' cnt' rm' rx' ss' := by
  have hr' := hr
  obtain ⟨h1, h2, h3, rfl, rfl, rfl, h7⟩ := hr
  have b0 := hw.b0
  have b1 := hw.b1
  have b2 := hw.b2
  obtain ⟨st2, old2, cnt2, rm2, rx2, ss2, e1, e2, e3⟩ := remembers hm hw hr'
  have mt : f_M_in (Int32.toInt64 (iI u)) 0 3 = some (bI (0 ≤ u ∧ u ≤ 3)) := M_in0 h_u (by omega) rfl
  by_cases q : 0 ≤ y ∧ y < a 1
  · obtain ⟨d, rfl⟩ := Int.eq_ofNat_of_zero_le q.1
    by_cases q2 : 0 ≤ u ∧ u ≤ 3
    · have hT : f_TR_setTolerance c h k p w n dh dc dt dn on rk (iI (a 0)) (iI (a 3)) (iI (a 4)) x st old cnt (iI (d : Int)) (iI u) = some (0, iI (a (261 + 4 * d)), upd dt d (iI u), st2, old2, cnt2) := by
        unfold f_TR_setTolerance
        rw [h2.1, Dev_has b1.1 b1.2 h_y, cal_some, rP_t q, cal_some, if_neg nn0, TR_isTolerance h_u, cal_some, rA_t q2, cal_some, if_neg nn0, ← h2.1, e1, cal_some, Dev_changeTolerance hw h2 q.2, cal_some]
      have hL : f_L_setTolerance c h k p w n dh dc dt dn on rk (iI (a 0)) (iI (a 3)) (iI (a 4)) x st old cnt out (iI (d : Int)) (iI u) = some (0, upd dt d (iI u), st2, old2, cnt2, vp_updL out 0 (Int32.toInt64 (iI (a (261 + 4 * d))))) := by unfold f_L_setTolerance; rw [hT, cal_some]; rfl
      have hM : f_M_setTolerance (Q a) x rm rx ss th (iI (d : Int)) (iI u) = some (iI (a (261 + 4 * d)), Q (tol a d u), rm2, rx2, ss2, 0) := by
        unfold f_M_setTolerance
        have ew : ((259 + (4 * iI (d : Int))) + 2) = iI ((261 + 4 * d : Nat) : Int) := by
          rw [l_259, l_4, l_2, iI_mul, iI_add, iI_add]
          congr 1
          omega
        rw [M_isDevice hw h_y, cal_some, if_nbI, if_pos q, mt, cal_some, if_nbI, if_pos q2, e2, cal_some, ew, M_puts a (by omega), cal_some]
        rfl
      exact ⟨0, iI (a (261 + 4 * d)), upd dt d (iI u), st2, old2, cnt2, vp_updL out 0 (Int32.toInt64 (iI (a (261 + 4 * d)))), rm2, rx2, ss2, tol a d u, hL, hM, fun _ => rfl, tol_WF hw q2, RS_tol hw d u hr', e3⟩
    · have hT : f_TR_setTolerance c h k p w n dh dc dt dn on rk (iI (a 0)) (iI (a 3)) (iI (a 4)) x st old cnt (iI (d : Int)) (iI u) = some (2, 0, dt, st, old, cnt) := by
        unfold f_TR_setTolerance
        rw [h2.1, Dev_has b1.1 b1.2 h_y, cal_some, rP_t q, cal_some, if_neg nn0, TR_isTolerance h_u, cal_some, rA_f q2, cal_some, if_pos nt2]
      have hL : f_L_setTolerance c h k p w n dh dc dt dn on rk (iI (a 0)) (iI (a 3)) (iI (a 4)) x st old cnt out (iI (d : Int)) (iI u) = some (2, dt, st, old, cnt, out) := by unfold f_L_setTolerance; rw [hT, cal_some]; rfl
      have hM : f_M_setTolerance (Q a) x rm rx ss th (iI (d : Int)) (iI u) = some (0, Q a, rm, rx, ss, 2) := by
        unfold f_M_setTolerance
        rw [M_isDevice hw h_y, cal_some, if_nbI, if_pos q, mt, cal_some, if_nbI, if_neg q2]
        rfl
      exact ⟨2, 0, dt, st, old, cnt, out, rm, rx, ss, a, hL, hM, fun z => absurd z (by decide), hw, hr', hm⟩
  · have hT : f_TR_setTolerance c h k p w n dh dc dt dn on rk (iI (a 0)) (iI (a 3)) (iI (a 4)) x st old cnt (iI y) (iI u) = some (1, 0, dt, st, old, cnt) := by
      unfold f_TR_setTolerance
      rw [h2.1, Dev_has b1.1 b1.2 h_y, cal_some, rP_f q, cal_some, if_pos nt1]
    have hL : f_L_setTolerance c h k p w n dh dc dt dn on rk (iI (a 0)) (iI (a 3)) (iI (a 4)) x st old cnt out (iI y) (iI u) = some (1, dt, st, old, cnt, out) := by unfold f_L_setTolerance; rw [hT, cal_some]; rfl
    have hM : f_M_setTolerance (Q a) x rm rx ss th (iI y) (iI u) = some (0, Q a, rm, rx, ss, 1) := by
      unfold f_M_setTolerance
      rw [M_isDevice hw h_y, cal_some, if_nbI, if_neg q]
      rfl
    exact ⟨1, 0, dt, st, old, cnt, out, rm, rx, ss, a, hL, hM, fun z => absurd z (by decide), hw, hr', hm⟩

theorem s_set (hw : WF a) (hr : RSf c h k p w n dh dc dt dn on rk H no re x a x) (hm : RM st old cnt rm rx ss) {y v : Int} (h_y : sm y) (h_v : sm v) : ∃ kk r no' re' st' old' cnt' out' rm' rx' ss' a', f_L_set c h k p w n dh dc dt dn on rk H no re x st old cnt out (iI y) (iI v) = some (kk, no', re', st', old', cnt', out') ∧ f_M_set (Q a) x rm rx ss th (iI y) (iI v) = some (r, Q a', rm', rx', ss', kk) ∧ (kk = 0 → out' 0 = Int32.toInt64 r) ∧ WF a' ∧ RSf c h k p w n dh dc dt dn on rk H no' re' x a' x ∧ RM st' old' cnt' rm' rx' ss' := by
  have hr' := hr
  obtain ⟨h1, h2, h3, rfl, rfl, rfl, h7⟩ := hr
  have b0 := hw.b0
  have b1 := hw.b1
  have b2 := hw.b2
  obtain ⟨st2, old2, cnt2, rm2, rx2, ss2, e1, e2, e3⟩ := remembers hm hw hr'
  by_cases q : isS y v
  · have ew : (3 + iI y) = iI ((3 + y.toNat : Nat) : Int) := by
      rw [l_3, iI_add]
      congr 1
      omega
    have hs := stg_WF hw q
    have q0 := q
    rcases q with ⟨rfl, q⟩ | ⟨rfl, q⟩
    · have hT : f_TR_set c h k p w n dh dc dt dn on rk (iI (a 0)) (iI (a 3)) (iI (a 4)) x st old cnt (iI 0) (iI v) = some (0, iI (a 3), iI v, iI (a 4), st2, old2, cnt2) := by
        unfold f_TR_set
        rw [TR_isSetting h_y h_v, cal_some, rA_t q0, cal_some, if_neg nn0, e1, cal_some, Str_cs0, cal_some]
      have hL : f_L_set c h k p w n dh dc dt dn on rk (iI (a 0)) (iI (a 3)) (iI (a 4)) x st old cnt out (iI 0) (iI v) = some (0, iI v, iI (a 4), st2, old2, cnt2, vp_updL out 0 (Int32.toInt64 (iI (a 3)))) := by unfold f_L_set; rw [hT, cal_some]; rfl
      have hM : f_M_set (Q a) x rm rx ss th (iI 0) (iI v) = some (iI (a 3), Q (stg a 0 v), rm2, rx2, ss2, 0) := by
        unfold f_M_set
        rw [M_isSetting h_y h_v, cal_some, if_nbI, if_pos q0, e2, cal_some, ew, M_puts a (by omega), cal_some]
        rfl
      exact ⟨0, iI (a 3), iI v, iI (a 4), st2, old2, cnt2, vp_updL out 0 (Int32.toInt64 (iI (a 3))), rm2, rx2, ss2, stg a 0 v, hL, hM, fun _ => rfl, hs, RS_stg0 hw v hr', e3⟩
    · have hT : f_TR_set c h k p w n dh dc dt dn on rk (iI (a 0)) (iI (a 3)) (iI (a 4)) x st old cnt (iI 1) (iI v) = some (0, iI (a 4), iI (a 3), iI v, st2, old2, cnt2) := by
        unfold f_TR_set
        rw [TR_isSetting h_y h_v, cal_some, rA_t q0, cal_some, if_neg nn0, e1, cal_some, Str_cs1, cal_some]
      have hL : f_L_set c h k p w n dh dc dt dn on rk (iI (a 0)) (iI (a 3)) (iI (a 4)) x st old cnt out (iI 1) (iI v) = some (0, iI (a 3), iI v, st2, old2, cnt2, vp_updL out 0 (Int32.toInt64 (iI (a 4)))) := by unfold f_L_set; rw [hT, cal_some]; rfl
      have hM : f_M_set (Q a) x rm rx ss th (iI 1) (iI v) = some (iI (a 4), Q (stg a 1 v), rm2, rx2, ss2, 0) := by
        unfold f_M_set
        rw [M_isSetting h_y h_v, cal_some, if_nbI, if_pos q0, e2, cal_some, ew, M_puts a (by omega), cal_some]
        rfl
      exact ⟨0, iI (a 4), iI (a 3), iI v, st2, old2, cnt2, vp_updL out 0 (Int32.toInt64 (iI (a 4))), rm2, rx2, ss2, stg a 1 v, hL, hM, fun _ => rfl, hs, RS_stg1 hw v hr', e3⟩
  · have hT : f_TR_set c h k p w n dh dc dt dn on rk (iI (a 0)) (iI (a 3)) (iI (a 4)) x st old cnt (iI y) (iI v) = some (2, 0, iI (a 3), iI (a 4), st, old, cnt) := by
      unfold f_TR_set
      rw [TR_isSetting h_y h_v, cal_some, rA_f q, cal_some, if_pos nt2]
    have hL : f_L_set c h k p w n dh dc dt dn on rk (iI (a 0)) (iI (a 3)) (iI (a 4)) x st old cnt out (iI y) (iI v) = some (1, iI (a 3), iI (a 4), st, old, cnt, out) := by unfold f_L_set; rw [hT, cal_some]; rfl
    have hM : f_M_set (Q a) x rm rx ss th (iI y) (iI v) = some (0, Q a, rm, rx, ss, 1) := by
      unfold f_M_set
      rw [M_isSetting h_y h_v, cal_some, if_nbI, if_neg q]
      rfl
    exact ⟨1, 0, iI (a 3), iI (a 4), st, old, cnt, out, rm, rx, ss, a, hL, hM, fun z => absurd z (by decide), hw, hr', hm⟩

theorem s_teach (hw : WF a) (hr : RSf c h k p w n dh dc dt dn on rk H no re x a x) (hm : RM st old cnt rm rx ss) {y z y2 z2 : Int} (h_y : sm y) (h_z : sm z) (h_y2 : sm y2) (h_z2 : sm z2) : ∃ kk r c' h' k' p' w' n' rk' st' old' cnt' out' rm' rx' ss' a' x', f_L_teach c h k p w n dh dc dt dn on rk H no re x st old cnt out (iI y) (iI z) (iI y2) (iI z2) = some (kk, c', h', k', p', w', n', rk', x', st', old', cnt', out') ∧ f_M_teach (Q a) x rm rx ss th (iI y) (iI z) (iI y2) (iI z2) = some (r, Q a', x', rm', rx', ss', kk) ∧ (kk = 0 → out' 0 = Int32.toInt64 r) ∧ WF a' ∧ RSf c' h' k' p' w' n' dh dc dt dn on rk' H no re x' a' x' ∧ RM st' old' cnt' rm' rx' ss' := by
  have hr' := hr
  obtain ⟨h1, h2, h3, rfl, rfl, rfl, h7⟩ := hr
  have b0 := hw.b0
  have b1 := hw.b1
  have b2 := hw.b2
  obtain ⟨st2, old2, cnt2, rm2, rx2, ss2, e1, e2, e3⟩ := remembers hm hw hr'
  by_cases q : isK a y z
  · by_cases q2 : isK a y2 z2
    · have tr29 : ∀ e r, f_TR_teach_29 c h k p w n dh dc dt dn on rk (iI (a 0)) (iI (a 3)) (iI (a 4)) x st old cnt (iI y) (iI z) (iI y2) (iI z2) (bI (y ≠ y2 ∨ z ≠ z2)) = r → e = r → f_TR_teach c h k p w n dh dc dt dn on rk (iI (a 0)) (iI (a 3)) (iI (a 4)) x st old cnt (iI y) (iI z) (iI y2) (iI z2) = e := by
        intro e r h29 he
        subst he
        rw [← h29]
        unfold f_TR_teach f_TR_teach_24
        rw [rK_t hw h_y h_z q, cal_some, if_neg nn0, rK_t hw h_y2 h_z2 q2, cal_some, if_neg nn0]
        by_cases s1 : y = y2
        · rw [if_neg (by rw [s1]; exact fun z => z rfl)]
          by_cases s2 : z = z2
          · rw [if_pos (by rw [s2]), bI_f (by omega)]
          · rw [if_neg (by rw [iI_eq h_z.1 h_z.2 h_z2.1 h_z2.2]; exact s2), bI_t (Or.inr s2)]
        · rw [if_pos (by rw [iI_eq h_y.1 h_y.2 h_y2.1 h_y2.2]; exact s1), bI_t (Or.inl s1)]
      have tm : y ≠ y2 ∨ z ≠ z2 → ∀ e r, f_M_teach_47 (Q a) x rm rx ss (iI y) (iI z) (iI y2) (iI z2) = r → e = r → f_M_teach (Q a) x rm rx ss th (iI y) (iI z) (iI y2) (iI z2) = e := by
        intro hn e r h47 he
        subst he
        rw [← h47]
        unfold f_M_teach
        rw [M_isKey_t hw h_y h_z q, cal_some, if_neg z10, M_isKey_t hw h_y2 h_z2 q2, cal_some, if_pos z10]
        by_cases s1 : y = y2
        · rw [if_neg (by rw [s1]; exact fun z => z rfl), if_pos (by rw [iI_eq h_z.1 h_z.2 h_z2.1 h_z2.2]; omega)]
        · rw [if_pos (by rw [iI_eq h_y.1 h_y.2 h_y2.1 h_y2.2]; exact s1)]
      by_cases q3 : y ≠ y2 ∨ z ≠ z2
      · by_cases q4 : 0 ≤ kr a y z ∧ a 2 < 40
        · have hT : f_TR_teach c h k p w n dh dc dt dn on rk (iI (a 0)) (iI (a 3)) (iI (a 4)) x st old cnt (iI y) (iI z) (iI y2) (iI z2) = some (0, iI (lrn a x y (kr a y z) y2), upd c (a 2).toNat (iI (lrn a x y (kr a y z) y2)), upd h (a 2).toNat (iI y2), upd k (a 2).toNat (iI z2), upd p (a 2).toNat (n9 (kr a y z)), upd w (a 2).toNat (n9 (wbt a x y y2)), iI (a 2 + 1), upd rk (ki y2 z2) (iI (a 2)), nextx x, st2, old2, cnt2) := by
            refine tr29 _ _ ?_ rfl
            unfold f_TR_teach_29
            rw [rA_t q3, cal_some, if_neg nn0, h1.1, Str_canTeach hw h3 q, cal_some, rS_t q4, cal_some, if_neg nn0, ← h1.1, e1, cal_some, Str_teachKey hw q4.2 h1 h3 x q q2 q4.1, cal_some, h1.1]
          have hL : f_L_teach c h k p w n dh dc dt dn on rk (iI (a 0)) (iI (a 3)) (iI (a 4)) x st old cnt out (iI y) (iI z) (iI y2) (iI z2) = some (0, upd c (a 2).toNat (iI (lrn a x y (kr a y z) y2)), upd h (a 2).toNat (iI y2), upd k (a 2).toNat (iI z2), upd p (a 2).toNat (n9 (kr a y z)), upd w (a 2).toNat (n9 (wbt a x y y2)), iI (a 2 + 1), upd rk (ki y2 z2) (iI (a 2)), nextx x, st2, old2, cnt2, vp_updL out 0 (Int32.toInt64 (iI (lrn a x y (kr a y z) y2)))) := by unfold f_L_teach; rw [hT, cal_some]; rfl
          have hM : f_M_teach (Q a) x rm rx ss th (iI y) (iI z) (iI y2) (iI z2) = some (iI (lrn a x y (kr a y z) y2), Q (tch a x y z y2 z2), nextx x, rm2, rx2, ss2, 0) := by
            refine tm q3 _ _ ?_ rfl
            unfold f_M_teach_47
            rw [M_canTeach hw q, cal_some, if_nbI, if_pos q4, e2, cal_some, M_teaches hw q4.2 x q q2 q4.1, cal_some]
          exact ⟨0, iI (lrn a x y (kr a y z) y2), upd c (a 2).toNat (iI (lrn a x y (kr a y z) y2)), upd h (a 2).toNat (iI y2), upd k (a 2).toNat (iI z2), upd p (a 2).toNat (n9 (kr a y z)), upd w (a 2).toNat (n9 (wbt a x y y2)), iI (a 2 + 1), upd rk (ki y2 z2) (iI (a 2)), st2, old2, cnt2, vp_updL out 0 (Int32.toInt64 (iI (lrn a x y (kr a y z) y2))), rm2, rx2, ss2, tch a x y z y2 z2, nextx x, hL, hM, fun _ => rfl, tch_WF hw q4.2 x q q2 q4.1, RS_mks hw q4.2 q2 hr' (nextx x), e3⟩
        · have hT : f_TR_teach c h k p w n dh dc dt dn on rk (iI (a 0)) (iI (a 3)) (iI (a 4)) x st old cnt (iI y) (iI z) (iI y2) (iI z2) = some (3, 0, c, h, k, p, w, n, rk, x, st, old, cnt) := by
            refine tr29 _ _ ?_ rfl
            unfold f_TR_teach_29
            rw [rA_t q3, cal_some, if_neg nn0, h1.1, Str_canTeach hw h3 q, cal_some, rS_f q4, cal_some, if_pos nt3]
          have hL : f_L_teach c h k p w n dh dc dt dn on rk (iI (a 0)) (iI (a 3)) (iI (a 4)) x st old cnt out (iI y) (iI z) (iI y2) (iI z2) = some (3, c, h, k, p, w, n, rk, x, st, old, cnt, out) := by unfold f_L_teach; rw [hT, cal_some]; rfl
          have hM : f_M_teach (Q a) x rm rx ss th (iI y) (iI z) (iI y2) (iI z2) = some (0, Q a, x, rm, rx, ss, 3) := by
            refine tm q3 _ _ ?_ rfl
            unfold f_M_teach_47
            rw [M_canTeach hw q, cal_some, if_nbI, if_neg q4]
            rfl
          exact ⟨3, 0, c, h, k, p, w, n, rk, st, old, cnt, out, rm, rx, ss, a, x, hL, hM, fun z => absurd z (by decide), hw, hr', hm⟩
      · have hT : f_TR_teach c h k p w n dh dc dt dn on rk (iI (a 0)) (iI (a 3)) (iI (a 4)) x st old cnt (iI y) (iI z) (iI y2) (iI z2) = some (2, 0, c, h, k, p, w, n, rk, x, st, old, cnt) := by
          refine tr29 _ _ ?_ rfl
          unfold f_TR_teach_29
          rw [rA_f q3, cal_some, if_pos nt2]
        have hL : f_L_teach c h k p w n dh dc dt dn on rk (iI (a 0)) (iI (a 3)) (iI (a 4)) x st old cnt out (iI y) (iI z) (iI y2) (iI z2) = some (2, c, h, k, p, w, n, rk, x, st, old, cnt, out) := by unfold f_L_teach; rw [hT, cal_some]; rfl
        have hM : f_M_teach (Q a) x rm rx ss th (iI y) (iI z) (iI y2) (iI z2) = some (0, Q a, x, rm, rx, ss, 2) := by
          unfold f_M_teach
          rw [M_isKey_t hw h_y h_z q, cal_some, if_neg z10, M_isKey_t hw h_y2 h_z2 q2, cal_some, if_pos z10, if_neg (show ¬ ¬ iI y = iI y2 from fun zz => zz (by rw [show y = y2 by omega])), if_neg (show ¬ ¬ iI z = iI z2 from fun zz => zz (by rw [show z = z2 by omega]))]
          rfl
        exact ⟨2, 0, c, h, k, p, w, n, rk, st, old, cnt, out, rm, rx, ss, a, x, hL, hM, fun z => absurd z (by decide), hw, hr', hm⟩
    · have hT : f_TR_teach c h k p w n dh dc dt dn on rk (iI (a 0)) (iI (a 3)) (iI (a 4)) x st old cnt (iI y) (iI z) (iI y2) (iI z2) = some (1, 0, c, h, k, p, w, n, rk, x, st, old, cnt) := by
        unfold f_TR_teach
        rw [rK_t hw h_y h_z q, cal_some, if_neg nn0, rK_f hw h_y2 h_z2 q2, cal_some, if_pos nt1]
      have hL : f_L_teach c h k p w n dh dc dt dn on rk (iI (a 0)) (iI (a 3)) (iI (a 4)) x st old cnt out (iI y) (iI z) (iI y2) (iI z2) = some (1, c, h, k, p, w, n, rk, x, st, old, cnt, out) := by unfold f_L_teach; rw [hT, cal_some]; rfl
      have hM : f_M_teach (Q a) x rm rx ss th (iI y) (iI z) (iI y2) (iI z2) = some (0, Q a, x, rm, rx, ss, 1) := by
        unfold f_M_teach f_M_teach_24
        rw [M_isKey_t hw h_y h_z q, cal_some, if_neg z10, M_isKey_f hw h_y2 h_z2 q2, cal_some, if_neg zz0]
        rfl
      exact ⟨1, 0, c, h, k, p, w, n, rk, st, old, cnt, out, rm, rx, ss, a, x, hL, hM, fun z => absurd z (by decide), hw, hr', hm⟩
  · have hT : f_TR_teach c h k p w n dh dc dt dn on rk (iI (a 0)) (iI (a 3)) (iI (a 4)) x st old cnt (iI y) (iI z) (iI y2) (iI z2) = some (1, 0, c, h, k, p, w, n, rk, x, st, old, cnt) := by
      unfold f_TR_teach
      rw [rK_f hw h_y h_z q, cal_some, if_pos nt1]
    have hL : f_L_teach c h k p w n dh dc dt dn on rk (iI (a 0)) (iI (a 3)) (iI (a 4)) x st old cnt out (iI y) (iI z) (iI y2) (iI z2) = some (1, c, h, k, p, w, n, rk, x, st, old, cnt, out) := by unfold f_L_teach; rw [hT, cal_some]; rfl
    have hM : f_M_teach (Q a) x rm rx ss th (iI y) (iI z) (iI y2) (iI z2) = some (0, Q a, x, rm, rx, ss, 1) := by
      unfold f_M_teach f_M_teach_24
      rw [M_isKey_f hw h_y h_z q, cal_some, if_pos rfl]
      rfl
    exact ⟨1, 0, c, h, k, p, w, n, rk, st, old, cnt, out, rm, rx, ss, a, x, hL, hM, fun z => absurd z (by decide), hw, hr', hm⟩

end STEPW
