/-! the rest of the calls -/
section STEPX
variable {c h k p w : Nat → Int32} {n : Int32} {dh dc dt : Nat → Int32} {dn on : Int32} {rk : Nat → Int32} {H no re : Int32} {a : Nat → Int} {x : Int64} {st : Nat → SV} {old cnt : Int32} {rm : Nat → Int32} {rx : Nat → Int64} {ss : Int32} {s2 : Nat → SV} {fl : Int32} {sl : Nat → Int32} {slx : Nat → Int64} {isv : Nat → Int32} (out : Nat → Int64) (th : Int32)
theorem nar_char : ∀ v, v < 256 → vp_nar .char ((Int32.toUInt32 (nI v) % 65536).toInt32) = nI v := by decide +kernel
def TX (sg : Nat → Int32) (ln : Int32) (tx : Nat → Int32) (tl : Int32) : Prop := ∃ T N, TXT sg tx T N ∧ ln = iI (N : Nat) ∧ tl = iI (N : Nat)
theorem s_append {sg tx : Nat → Int32} {ln tl : Int32} (ht : TX sg ln tx tl) {v : Int} (hv : sm v) : ∃ kk r sg' ln' out' tx' tl', f_L_append sg ln out (iI v) = some (kk, sg', ln', out') ∧ f_M_append tx tl th (iI v) = some (r, tx', tl', kk) ∧ (kk = 0 → out' 0 = Int32.toInt64 r) ∧ TX sg' ln' tx' tl' := by
  obtain ⟨T, N, hx, rfl, rfl⟩ := ht
  have hN := hx.1
  have mi : f_M_in (Int32.toInt64 (iI v)) 0 255 = some (bI (0 ≤ v ∧ v ≤ 255)) := M_in0 hv (by omega) rfl
  by_cases q : 0 ≤ v ∧ v ≤ 255
  · by_cases q2 : N < 120
    · have hT : f_TR_append sg (iI N) (iI v) = some (0, iI (N + 1 : Nat), upd sg N (iI v), iI (N + 1 : Nat)) := by
        unfold f_TR_append f_TR_append_26
        show cal (f_TR_isWithin (iI v) (iI 0) (iI 255)) _ = _
        rw [TR_isWithin hv (by omega) (by omega), cal_some, rA_t q, cal_some, if_neg nn0]
        unfold f_Txt_isFull f_Txt_add f_Txt_add_37
        rw [if_pos (by rw [l_120, iI_lt (by omega) (by omega) (by omega) (by omega)]; omega), cal_some, if_neg zz0, show f_TR_requireState 1 = some 0 from rfl, cal_some, if_neg nn0, if_neg (by rw [iI_neg0 (by omega)]; omega), if_neg (by rw [l_120]; exact iI_nle (by omega) (by omega) (by omega)), gd_t (c120 q2), cal_some, kcl (by omega), iI_s]
        obtain ⟨u, rfl⟩ := Int.eq_ofNat_of_zero_le q.1
        rw [show vp_nar .char ((Int32.toUInt32 (iI (u : Int)) % 65536).toInt32) = iI (u : Int) from nar_char u (by omega)]
      have hL : f_L_append sg (iI N) out (iI v) = some (0, upd sg N (iI v), iI (N + 1 : Nat), vp_updL out 0 (Int32.toInt64 (iI (N + 1 : Nat)))) := by unfold f_L_append; rw [hT, cal_some]; rfl
      have hM : f_M_append tx (iI N) th (iI v) = some (iI (N + 1 : Nat), upd tx N (iI v), iI (N + 1 : Nat), 0) := by
        unfold f_M_append
        rw [mi, cal_some, if_nbI, if_pos q, if_pos (by rw [l_120, iI_eq (by omega) (by omega) (by omega) (by omega)]; omega), gd_t (c120 q2), kcl (by omega), iI_s]
      refine ⟨0, _, _, _, _, _, _, hL, hM, fun _ => rfl, fun i => if i = N then v else T i, N + 1, ⟨by omega, fun i hi => ?_⟩, rfl, rfl⟩
      by_cases r : i = N
      · rw [r, ud_eq, ud_eq]
        show iI v = iI (if N = N then v else T N) ∧ iI v = iI (if N = N then v else T N) ∧ 0 ≤ (if N = N then v else T N) ∧ (if N = N then v else T N) ≤ 255
        rw [if_pos rfl]
        exact ⟨rfl, rfl, q.1, q.2⟩
      · have g := hx.2 i (by omega)
        rw [ud_ne r, ud_ne r]
        show sg i = iI (if i = N then v else T i) ∧ tx i = iI (if i = N then v else T i) ∧ 0 ≤ (if i = N then v else T i) ∧ (if i = N then v else T i) ≤ 255
        rw [if_neg r]
        exact g
    · have hT : f_TR_append sg (iI N) (iI v) = some (3, 0, sg, iI N) := by
        unfold f_TR_append f_TR_append_26
        show cal (f_TR_isWithin (iI v) (iI 0) (iI 255)) _ = _
        rw [TR_isWithin hv (by omega) (by omega), cal_some, rA_t q, cal_some, if_neg nn0]
        unfold f_Txt_isFull
        rw [if_neg (by rw [l_120, iI_lt (by omega) (by omega) (by omega) (by omega)]; omega), cal_some, if_pos z10]
        rfl
      have hL : f_L_append sg (iI N) out (iI v) = some (2, sg, iI N, out) := by unfold f_L_append; rw [hT, cal_some]; rfl
      have hM : f_M_append tx (iI N) th (iI v) = some (0, tx, iI N, 2) := by
        unfold f_M_append
        rw [mi, cal_some, if_nbI, if_pos q, if_neg (show ¬ ¬ iI (N : Int) = 120 by rw [l_120, iI_eq (by omega) (by omega) (by omega) (by omega)]; omega)]
        rfl
      exact ⟨2, _, _, _, _, _, _, hL, hM, fun z => absurd z (by decide), T, N, hx, rfl, rfl⟩
  · have hT : f_TR_append sg (iI N) (iI v) = some (2, 0, sg, iI N) := by
      unfold f_TR_append
      show cal (f_TR_isWithin (iI v) (iI 0) (iI 255)) _ = _
      rw [TR_isWithin hv (by omega) (by omega), cal_some, rA_f q, cal_some, if_pos nt2]
    have hL : f_L_append sg (iI N) out (iI v) = some (1, sg, iI N, out) := by unfold f_L_append; rw [hT, cal_some]; rfl
    have hM : f_M_append tx (iI N) th (iI v) = some (0, tx, iI N, 1) := by
      unfold f_M_append
      rw [mi, cal_some, if_nbI, if_neg q]
      rfl
    exact ⟨1, _, _, _, _, _, _, hL, hM, fun z => absurd z (by decide), T, N, hx, rfl, rfl⟩
theorem s_clearText {sg tx : Nat → Int32} {ln tl : Int32} (ht : TX sg ln tx tl) : f_TR_clearText ln = some (ln, 0) ∧ f_M_clearText tl th = some (tl, 0, 0) ∧ ln = tl ∧ TX sg 0 tx 0 := by
  obtain ⟨T, N, hx, rfl, rfl⟩ := ht
  exact ⟨rfl, rfl, rfl, T, 0, ⟨by omega, fun i hi => by omega⟩, rfl, rfl⟩

theorem s_errorPosition {sg tx : Nat → Int32} {ln tl : Int32} (ht : TX sg ln tx tl) (cp hp kp pp wp : Nat → Int32) (np : Int32) (dhp dcp dtp : Nat → Int32) (dnp onp : Int32) (rkp : Nat → Int32) (Hp nop rep : Int32) (xp : Int64) (pl : Int32) (p0 d0 h0 k0 e0 c0 : Int32) : ∃ r cq hq kq pq wq nq dhq dcq dtq dnq onq rkq Hq noq req xq pl' p1 d1 h1 k1 e1 c1, f_TR_errorPosition cp hp kp pp wp np dhp dcp dtp dnp onp rkp Hp nop rep xp sg ln pl = some (r, cq, hq, kq, pq, wq, nq, dhq, dcq, dtq, dnq, onq, rkq, Hq, noq, req, xq, pl') ∧ f_M_errorPosition (Q a) tx tl th p0 d0 h0 k0 e0 c0 = some (r, Q a, 0, p1, d1, h1, k1, e1, c1) := by
  obtain ⟨T, N, hx, rfl, rfl⟩ := ht
  rcases reads3 hx cp hp kp pp wp np dhp dcp dtp dnp onp rkp Hp nop rep xp a with ⟨cq, hq, kq, pq, wq, nq, dhq, dcq, dtq, dnq, onq, rkq, Hq, noq, req, a', pl', j1, j2, j3, j4, j5⟩ | ⟨pl', j0, j1, j2⟩
  · obtain ⟨⟨g1, g2, g3, g4, g5, g6⟩, e⟩ := j4 (Q a) p0 d0 h0 k0 e0 c0
    refine ⟨-9, cq, hq, kq, pq, wq, nq, dhq, dcq, dtq, dnq, onq, rkq, Hq, noq, req, 1, pl', g1, g2, g3, g4, g5, g6, ?_, ?_⟩
    · unfold f_TR_errorPosition
      rw [j3, cal_some]
    · unfold f_M_errorPosition
      rw [e, cal_some, if_neg z10]
  · obtain ⟨⟨cq, hq, kq, pq, wq, nq, dhq, dcq, dtq, dnq, onq, rkq, Hq, noq, req, xq⟩, e1⟩ := j1 pl
    obtain ⟨⟨g2, g3, g4, g5, g6⟩, e⟩ := j2 (Q a) p0 d0 h0 k0 e0 c0
    refine ⟨iI pl', cq, hq, kq, pq, wq, nq, dhq, dcq, dtq, dnq, onq, rkq, Hq, noq, req, xq, iI pl', iI pl', g2, g3, g4, g5, g6, ?_, ?_⟩
    · unfold f_TR_errorPosition
      rw [e1, cal_some]
    · unfold f_M_errorPosition
      rw [e, cal_some, if_pos rfl]

theorem RM_0 (st : Nat → SV) {old : Int32} (rm : Nat → Int32) (rx : Nat → Int64) (ho : ∃ o : Nat, o < 14 ∧ old = iI o) : RM st old 0 rm rx 0 := by
  obtain ⟨o, h1, h2⟩ := ho
  exact ⟨o, 0, fun _ _ => 0, h1, by omega, h2, rfl, rfl, fun i hi => absurd hi (Nat.not_lt_zero i)⟩
theorem RM_old (hm : RM st old cnt rm rx ss) : ∃ o : Nat, o < 14 ∧ old = iI o := by
  obtain ⟨o, k, b, h1, h2, h3, h4⟩ := hm
  exact ⟨o, h1, h3⟩
theorem RLs_0 (s2 : Nat → SV) (sl : Nat → Int32) (slx : Nat → Int64) (isv : Nat → Int32) : RLs s2 0 sl slx (upd (upd isv 0 (vp_nar .boolean 0)) 1 (vp_nar .boolean 0)) := by
  refine ⟨0, fun _ _ => 0, by omega, rfl, fun s hs => ⟨?_, fun h => absurd h (by rw [Nat.zero_div]; decide)⟩⟩
  rw [Nat.zero_div]
  rcases (show s = 0 ∨ s = 1 by omega) with rfl | rfl
  · rfl
  · rfl
theorem s_load {sg tx : Nat → Int32} {ln tl : Int32} (ht : TX sg ln tx tl) (hw : WF a) (hr : RSf c h k p w n dh dc dt dn on rk H no re x a x) (hm : RM st old cnt rm rx ss) (hl : RLs s2 fl sl slx isv) (cp hp kp pp wp : Nat → Int32) (np : Int32) (dhp dcp dtp : Nat → Int32) (dnp onp : Int32) (rkp : Nat → Int32) (Hp nop rep : Int32) (xp : Int64) (pl : Int32) (p0 d0 h0 k0 e0 c0 : Int32) : ∃ kk r ct ht kt pt wt nt dht dct dtt dnt ont rkt Ht not ret xt cq hq kq pq wq nq dhq dcq dtq dnq onq rkq Hq noq req xq cnt' fl' pl' out' a' y' ss' isv' p1 d1 h1 k1 e1 c1, f_L_load c h k p w n dh dc dt dn on rk H no re x cp hp kp pp wp np dhp dcp dtp dnp onp rkp Hp nop rep xp cnt fl sg ln pl out = some (kk, ct, ht, kt, pt, wt, nt, dht, dct, dtt, dnt, ont, rkt, Ht, not, ret, xt, cq, hq, kq, pq, wq, nq, dhq, dcq, dtq, dnq, onq, rkq, Hq, noq, req, xq, cnt', fl', pl', out') ∧ f_M_load (Q a) x ss isv tx tl th p0 d0 h0 k0 e0 c0 = some (r, Q a', y', ss', isv', kk, p1, d1, h1, k1, e1, c1) ∧ (kk = 0 → out' 0 = Int32.toInt64 r) ∧ WF a' ∧ RSf ct ht kt pt wt nt dht dct dtt dnt ont rkt Ht not ret xt a' y' ∧ RM st old cnt' rm rx ss' ∧ RLs s2 fl' sl slx isv' := by
  obtain ⟨T, N, hx, rfl, rfl⟩ := ht
  rcases reads3 hx cp hp kp pp wp np dhp dcp dtp dnp onp rkp Hp nop rep xp a with ⟨cq, hq, kq, pq, wq, nq, dhq, dcq, dtq, dnq, onq, rkq, Hq, noq, req, a', pl', j1, j2, j3, j4, j5⟩ | ⟨pl', j0, j1, j2⟩
  · obtain ⟨⟨g1, g2, g3, g4, g5, g6⟩, e⟩ := j4 (Q a) p0 d0 h0 k0 e0 c0
    obtain ⟨⟨u1, u2, u3, u4, u5, u6⟩, e2⟩ := j5 g1 g2 g3 g4 g5 g6
    obtain ⟨⟨ct, ht, kt, pt, wt, nt, dht, dct, dtt, dnt, ont, rkt, Ht, not, ret, xt⟩, f1, f2⟩ := RS_copy j2 j1 c h k p w n dh dc dt dn on rk H no re x
    have hT : f_TR_load c h k p w n dh dc dt dn on rk H no re x cp hp kp pp wp np dhp dcp dtp dnp onp rkp Hp nop rep xp cnt fl sg (iI N) pl = some (0, nt, ct, ht, kt, pt, wt, nt, dht, dct, dtt, dnt, ont, rkt, Ht, not, ret, xt, cq, hq, kq, pq, wq, nq, dhq, dcq, dtq, dnq, onq, rkq, Hq, noq, req, 1, 0, 0, pl') := by
      unfold f_TR_load f_TR_load_25
      rw [j3, cal_some, if_neg (show ¬ ¬ (-9 : Int32) = -9 from fun z => z rfl), show f_TR_requireState 1 = some 0 from rfl, cal_some, if_neg nn0]
      show cal (f_Str_copyFrom c h k p w n dh dc dt dn on rk H no re x cq hq kq pq wq nq dhq dcq dtq dnq onq rkq Hq noq req 1) _ = _
      rw [f1, cal_some]
      rfl
    have hL : f_L_load c h k p w n dh dc dt dn on rk H no re x cp hp kp pp wp np dhp dcp dtp dnp onp rkp Hp nop rep xp cnt fl sg (iI N) pl out = some (0, ct, ht, kt, pt, wt, nt, dht, dct, dtt, dnt, ont, rkt, Ht, not, ret, xt, cq, hq, kq, pq, wq, nq, dhq, dcq, dtq, dnq, onq, rkq, Hq, noq, req, 1, 0, 0, pl', vp_updL out 0 (Int32.toInt64 nt)) := by unfold f_L_load; rw [hT, cal_some]; rfl
    have hM : f_M_load (Q a) x ss isv tx (iI N) th p0 d0 h0 k0 e0 c0 = some (nt, Q a', 1, 0, upd (upd isv 0 (vp_nar .boolean 0)) 1 (vp_nar .boolean 0), 0, u1, u2, u3, u4, u5, u6) := by
      unfold f_M_load
      rw [e, cal_some, if_pos z10, M_anew, cal_some]
      show cal (f_M_reads (Q (nwq a)) tx (iI N) g1 g2 g3 g4 g5 g6 1) _ = _
      rw [e2, cal_some, show nt = iI (a' 2) from f2.1.1]
      rfl
    exact ⟨0, nt, ct, ht, kt, pt, wt, nt, dht, dct, dtt, dnt, ont, rkt, Ht, not, ret, xt, cq, hq, kq, pq, wq, nq, dhq, dcq, dtq, dnq, onq, rkq, Hq, noq, req, 1, 0, 0, pl', _, a', 1, 0, _, u1, u2, u3, u4, u5, u6, hL, hM, fun _ => rfl, j2, f2, RM_0 st rm rx (RM_old hm), RLs_0 s2 sl slx isv⟩
  · obtain ⟨⟨cq, hq, kq, pq, wq, nq, dhq, dcq, dtq, dnq, onq, rkq, Hq, noq, req, xq⟩, e1⟩ := j1 pl
    obtain ⟨⟨g2, g3, g4, g5, g6⟩, e⟩ := j2 (Q a) p0 d0 h0 k0 e0 c0
    have hT : f_TR_load c h k p w n dh dc dt dn on rk H no re x cp hp kp pp wp np dhp dcp dtp dnp onp rkp Hp nop rep xp cnt fl sg (iI N) pl = some (3, 0, c, h, k, p, w, n, dh, dc, dt, dn, on, rk, H, no, re, x, cq, hq, kq, pq, wq, nq, dhq, dcq, dtq, dnq, onq, rkq, Hq, noq, req, xq, cnt, fl, iI pl') := by
      unfold f_TR_load f_TR_load_25
      rw [e1, cal_some, if_pos (ne9 (by omega) (by omega))]
      rfl
    have hL : f_L_load c h k p w n dh dc dt dn on rk H no re x cp hp kp pp wp np dhp dcp dtp dnp onp rkp Hp nop rep xp cnt fl sg (iI N) pl out = some (1, c, h, k, p, w, n, dh, dc, dt, dn, on, rk, H, no, re, x, cq, hq, kq, pq, wq, nq, dhq, dcq, dtq, dnq, onq, rkq, Hq, noq, req, xq, cnt, fl, iI pl', out) := by unfold f_L_load; rw [hT, cal_some]; rfl
    have hM : f_M_load (Q a) x ss isv tx (iI N) th p0 d0 h0 k0 e0 c0 = some (0, Q a, x, ss, isv, 1, iI pl', g2, g3, g4, g5, g6) := by
      unfold f_M_load
      rw [e, cal_some, if_neg zz0]
      rfl
    exact ⟨1, 0, c, h, k, p, w, n, dh, dc, dt, dn, on, rk, H, no, re, x, cq, hq, kq, pq, wq, nq, dhq, dcq, dtq, dnq, onq, rkq, Hq, noq, req, xq, cnt, fl, iI pl', out, a, x, ss, isv, iI pl', g2, g3, g4, g5, g6, hL, hM, fun z => absurd z (by decide), hw, hr, hm, hl⟩

theorem s_undo (hw : WF a) (hr : RSf c h k p w n dh dc dt dn on rk H no re x a x) (hm : RM st old cnt rm rx ss) : ∃ kk r ct ht kt pt wt nt dht dct dtt dnt ont rkt Ht not ret xt cnt' out' a' y' ss', f_L_undo c h k p w n dh dc dt dn on rk H no re x st old cnt out = some (kk, ct, ht, kt, pt, wt, nt, dht, dct, dtt, dnt, ont, rkt, Ht, not, ret, xt, cnt', out') ∧ f_M_undo (Q a) x rm rx ss th = some (r, Q a', y', ss', kk) ∧ (kk = 0 → out' 0 = Int32.toInt64 r) ∧ WF a' ∧ RSf ct ht kt pt wt nt dht dct dtt dnt ont rkt Ht not ret xt a' y' ∧ RM st old cnt' rm rx ss' := by
  obtain ⟨o, k', b, ho, hk, rfl, rfl, rfl, hb⟩ := hm
  rcases Nat.eq_zero_or_pos k' with rfl | hp
  · have hT : f_TR_undo c h k p w n dh dc dt dn on rk H no re x st (iI o) (iI (0 : Nat)) = some (3, 0, c, h, k, p, w, n, dh, dc, dt, dn, on, rk, H, no, re, x, iI (0 : Nat)) := by
      unfold f_TR_undo
      rw [show f_Mem_count (iI (0 : Nat)) = some (iI (0 : Nat)) from rfl, cal_some, if_pos (by decide)]
      rfl
    have hL : f_L_undo c h k p w n dh dc dt dn on rk H no re x st (iI o) (iI (0 : Nat)) out = some (1, c, h, k, p, w, n, dh, dc, dt, dn, on, rk, H, no, re, x, iI (0 : Nat), out) := by unfold f_L_undo; rw [hT, cal_some]; rfl
    have hM : f_M_undo (Q a) x rm rx (iI (0 : Nat)) th = some (0, Q a, x, iI (0 : Nat), 1) := by
      unfold f_M_undo
      rw [if_neg (by decide)]
      rfl
    exact ⟨1, 0, c, h, k, p, w, n, dh, dc, dt, dn, on, rk, H, no, re, x, iI (0 : Nat), out, a, x, iI (0 : Nat), hL, hM, fun z => absurd z (by decide), hw, hr, o, 0, b, ho, hk, rfl, rfl, rfl, hb⟩
  · obtain ⟨m, rfl⟩ : ∃ m, k' = m + 1 := ⟨k' - 1, by omega⟩
    obtain ⟨g1, g2, g3⟩ := hb m (by omega)
    obtain ⟨⟨ct, ht, kt, pt, wt, nt, dht, dct, dtt, dnt, ont, rkt, Ht, not, ret, xt⟩, f2, f1⟩ := takes ho (show m < 14 by omega) g1 g2 c h k p w n dh dc dt dn on rk H no re x
    have hT : f_TR_undo c h k p w n dh dc dt dn on rk H no re x st (iI o) (iI (m + 1 : Nat)) = some (0, iI m, ct, ht, kt, pt, wt, nt, dht, dct, dtt, dnt, ont, rkt, Ht, not, ret, xt, iI m) := by
      unfold f_TR_undo f_TR_undo_15
      rw [show f_Mem_count (iI (m + 1 : Nat)) = some (iI (m + 1 : Nat)) from rfl, cal_some, if_neg (by rw [l_0, iI_le (by omega) (by omega) (by omega) (by omega)]; omega), show f_TR_requireState 1 = some 0 from rfl, cal_some, if_neg nn0, f1, cal_some]
    have hL : f_L_undo c h k p w n dh dc dt dn on rk H no re x st (iI o) (iI (m + 1 : Nat)) out = some (0, ct, ht, kt, pt, wt, nt, dht, dct, dtt, dnt, ont, rkt, Ht, not, ret, xt, iI m, vp_updL out 0 (Int32.toInt64 (iI m))) := by unfold f_L_undo; rw [hT, cal_some]; rfl
    have hM := M_undo a x (mx := rx) (show m < 14 by omega) g3 th
    exact ⟨0, iI m, ct, ht, kt, pt, wt, nt, dht, dct, dtt, dnt, ont, rkt, Ht, not, ret, xt, iI m, _, mix (b m) a 283, rx m, iI m, hL, hM, fun _ => rfl, WF_c (fun j hj => mix_in hj) g1, RSf_c g1 (fun j hj => mix_in hj) f2, o, m, b, ho, by omega, rfl, rfl, rfl, fun i hi => hb i (by omega)⟩

theorem s_save (hw : WF a) (hr : RSf c h k p w n dh dc dt dn on rk H no re x a x) (hl : RLs s2 fl sl slx isv) {z : Int} (hz : sm z) : ∃ kk r s2' fl' out' sl' slx' isv', f_L_save c h k p w n dh dc dt dn on rk H no re x s2 fl out (iI z) = some (kk, s2', fl', out') ∧ f_M_save (Q a) x sl slx isv th (iI z) = some (r, sl', slx', isv', kk) ∧ (kk = 0 → out' 0 = Int32.toInt64 r) ∧ RLs s2' fl' sl' slx' isv' := by
  by_cases q : 0 ≤ z ∧ z < 2
  · obtain ⟨s, rfl⟩ := Int.eq_ofNat_of_zero_le q.1
    obtain ⟨s2', fl', e1, e2⟩ := keeps hl hw hr (s := s) (by omega)
    have hT : f_TR_save c h k p w n dh dc dt dn on rk H no re x s2 fl (iI s) = some (0, iI (a 2), s2', fl') := by
      unfold f_TR_save
      rw [Slo_has hz, cal_some, rP_t q, cal_some, if_neg nn0, e1, cal_some, show f_Rec_count n = some n from rfl, cal_some, hr.1.1]
    have hL : f_L_save c h k p w n dh dc dt dn on rk H no re x s2 fl out (iI s) = some (0, s2', fl', vp_updL out 0 (Int32.toInt64 (iI (a 2)))) := by unfold f_L_save; rw [hT, cal_some]; rfl
    exact ⟨0, _, _, _, _, _, _, _, hL, M_save x sl slx isv th (by omega), fun _ => rfl, e2⟩
  · have hT : f_TR_save c h k p w n dh dc dt dn on rk H no re x s2 fl (iI z) = some (1, 0, s2, fl) := by
      unfold f_TR_save
      rw [Slo_has hz, cal_some, rP_f q, cal_some, if_pos nt1]
    have hL : f_L_save c h k p w n dh dc dt dn on rk H no re x s2 fl out (iI z) = some (1, s2, fl, out) := by unfold f_L_save; rw [hT, cal_some]; rfl
    exact ⟨1, _, _, _, _, _, _, _, hL, M_save_f x sl slx isv th hz q, fun z => absurd z (by decide), hl⟩
theorem s_restore (hw : WF a) (hr : RSf c h k p w n dh dc dt dn on rk H no re x a x) (hm : RM st old cnt rm rx ss) (hl : RLs s2 fl sl slx isv) {z : Int} (hz : sm z) : ∃ kk r ct ht kt pt wt nt dht dct dtt dnt ont rkt Ht not ret xt cnt' out' a' y' ss', f_L_restore c h k p w n dh dc dt dn on rk H no re x cnt s2 fl out (iI z) = some (kk, ct, ht, kt, pt, wt, nt, dht, dct, dtt, dnt, ont, rkt, Ht, not, ret, xt, cnt', out') ∧ f_M_restore (Q a) x ss sl slx isv th (iI z) = some (r, Q a', y', ss', kk) ∧ (kk = 0 → out' 0 = Int32.toInt64 r) ∧ WF a' ∧ RSf ct ht kt pt wt nt dht dct dtt dnt ont rkt Ht not ret xt a' y' ∧ RM st old cnt' rm rx ss' := by
  by_cases q : 0 ≤ z ∧ z < 2
  · obtain ⟨s, rfl⟩ := Int.eq_ofNat_of_zero_le q.1
    obtain ⟨m, b, hm4, rfl, hb⟩ := hl
    obtain ⟨g1, g2⟩ := hb s (by omega)
    by_cases q2 : m / 2 ^ s % 2 = 1
    · obtain ⟨g3, g4, g5⟩ := g2 q2
      obtain ⟨⟨ct, ht, kt, pt, wt, nt, dht, dct, dtt, dnt, ont, rkt, Ht, not, ret, xt⟩, f2, f1⟩ := gives (fl := nI m) (show s < 2 by omega) g3 g4 c h k p w n dh dc dt dn on rk H no re x
      have hT : f_TR_restore c h k p w n dh dc dt dn on rk H no re x cnt s2 (nI m) (iI s) = some (0, nt, ct, ht, kt, pt, wt, nt, dht, dct, dtt, dnt, ont, rkt, Ht, not, ret, xt, 0) := by
        unfold f_TR_restore
        rw [Slo_has hz, cal_some, rP_t q, cal_some, if_neg nn0, Slo_isFilled hm4 (by omega), cal_some, q2, show f_TR_requireState (nI 1) = some 0 from rfl, cal_some, if_neg nn0, f1, cal_some]
        rfl
      have hL : f_L_restore c h k p w n dh dc dt dn on rk H no re x cnt s2 (nI m) out (iI s) = some (0, ct, ht, kt, pt, wt, nt, dht, dct, dtt, dnt, ont, rkt, Ht, not, ret, xt, 0, vp_updL out 0 (Int32.toInt64 nt)) := by unfold f_L_restore; rw [hT, cal_some]; rfl
      have hM := M_restore (a := a) x ss (sx := slx) (is := isv) th (show s < 2 by omega) (by rw [g1, q2]; rfl) g5
      rw [show iI (b s 2) = nt from f2.1.1.symm] at hM
      exact ⟨0, nt, ct, ht, kt, pt, wt, nt, dht, dct, dtt, dnt, ont, rkt, Ht, not, ret, xt, 0, _, mix (b s) a 283, slx s, 0, hL, hM, fun _ => rfl, WF_c (fun j hj => mix_in hj) g3, RSf_c g3 (fun j hj => mix_in hj) f2, RM_0 st rm rx (RM_old hm)⟩
    · have q3 : m / 2 ^ s % 2 = 0 := by omega
      have hT : f_TR_restore c h k p w n dh dc dt dn on rk H no re x cnt s2 (nI m) (iI s) = some (3, 0, c, h, k, p, w, n, dh, dc, dt, dn, on, rk, H, no, re, x, cnt) := by
        unfold f_TR_restore
        rw [Slo_has hz, cal_some, rP_t q, cal_some, if_neg nn0, Slo_isFilled hm4 (by omega), cal_some, q3, show f_TR_requireState (nI 0) = some 3 from rfl, cal_some, if_pos nt3]
      have hL : f_L_restore c h k p w n dh dc dt dn on rk H no re x cnt s2 (nI m) out (iI s) = some (2, c, h, k, p, w, n, dh, dc, dt, dn, on, rk, H, no, re, x, cnt, out) := by unfold f_L_restore; rw [hT, cal_some]; rfl
      exact ⟨2, 0, c, h, k, p, w, n, dh, dc, dt, dn, on, rk, H, no, re, x, cnt, out, a, x, ss, hL, M_restore_n x ss sl slx th (by omega) (by rw [g1, q3]; rfl), fun z => absurd z (by decide), hw, hr, hm⟩
  · have hT : f_TR_restore c h k p w n dh dc dt dn on rk H no re x cnt s2 fl (iI z) = some (1, 0, c, h, k, p, w, n, dh, dc, dt, dn, on, rk, H, no, re, x, cnt) := by
      unfold f_TR_restore
      rw [Slo_has hz, cal_some, rP_f q, cal_some, if_pos nt1]
    have hL : f_L_restore c h k p w n dh dc dt dn on rk H no re x cnt s2 fl out (iI z) = some (1, c, h, k, p, w, n, dh, dc, dt, dn, on, rk, H, no, re, x, cnt, out) := by unfold f_L_restore; rw [hT, cal_some]; rfl
    exact ⟨1, 0, c, h, k, p, w, n, dh, dc, dt, dn, on, rk, H, no, re, x, cnt, out, a, x, ss, hL, M_restore_f x ss sl slx isv th hz q, fun z => absurd z (by decide), hw, hr, hm⟩

theorem M_run_head (sp : Nat → Int32) (sx s : Int64) {m : Int} (hm : sm m) : f_M_runScript (Q a) x sp sx th (iI m) s = f_M_runScript_37 (Q a) x sp sx (iI m) s (lL ((100000 ^ min m.toNat 3 : Nat) : Int)) := by
  unfold f_M_runScript
  refine seq2 (body := f_M_runScript_11 (Q a) x sp sx (iI m) s) (fun j : Nat => lL ((100000 ^ j : Nat) : Int)) (fun j : Nat => iI j) (min m.toNat 3) (fun g => ?_) (fun j hj g => ?_) FUEL 0 (Nat.zero_le _) (fuel_lt (by omega))
  · unfold f_M_runScript_11
    by_cases q : m ≤ (min m.toNat 3 : Nat)
    · rw [if_pos ((iI_le (by omega) (by omega) (by omega) (by omega)).mpr q)]
    · rw [if_neg (by rw [iI_le (by omega) (by omega) (by omega) (by omega)]; exact q), if_pos (by rw [l_3, iI_le (by omega) (by omega) (by omega) (by omega)]; omega)]
  · unfold f_M_runScript_11
    rw [if_neg (by rw [iI_le (by omega) (by omega) (by omega) (by omega)]; omega), if_neg (by rw [l_3, iI_le (by omega) (by omega) (by omega) (by omega)]; omega), bnd_s, show (100000 : Int64) = lL ((100000 : Nat) : Int) from rfl, lL_mul, iI_s, show ((100000 ^ j : Nat) : Int) * ((100000 : Nat) : Int) = ((100000 ^ (j + 1) : Nat) : Int) by rw [Nat.pow_succ, Int.natCast_mul]]
theorem s_runScript (hw : WF a) (hr : RSf c h k p w n dh dc dt dn on rk H no re x a x) (cp hp kp pp wp : Nat → Int32) (np : Int32) (dhp dcp dtp : Nat → Int32) (dnp onp : Int32) (rkp : Nat → Int32) (Hp nop rep : Int32) (xp : Int64) (sp : Nat → Int32) (sx : Int64) {m : Int} (hm : sm m) (s : Int64) : ∃ kk r cq hq kq pq wq nq dhq dcq dtq dnq onq rkq Hq noq req xq out' a' sp' sx', f_L_runScript c h k p w n dh dc dt dn on rk H no re x cp hp kp pp wp np dhp dcp dtp dnp onp rkp Hp nop rep xp out (iI m) s = some (kk, cq, hq, kq, pq, wq, nq, dhq, dcq, dtq, dnq, onq, rkq, Hq, noq, req, xq, out') ∧ f_M_runScript (Q a) x sp sx th (iI m) s = some (r, Q a', x, sp', sx', kk) ∧ (kk = 0 → out' 0 = Int32.toInt64 r) ∧ WF a' ∧ RSf c h k p w n dh dc dt dn on rk H no re x a' x := by
  obtain ⟨S, hS1, hS2, rfl⟩ : ∃ S : Int, -9223372036854775808 ≤ S ∧ S < 9223372036854775808 ∧ s = lL S := ⟨s.toInt, Int64.le_toInt s, Int64.toInt_lt s, (Int64.ofInt_toInt s).symm⟩
  have mi : f_M_in (Int32.toInt64 (iI m)) 1 3 = some (bI (1 ≤ m ∧ m ≤ 3)) := by
    rw [ll_1, ll_3, M_inI hm (by omega) (by omega) (by omega) (by omega)]
  have bad : f_TR_runScript c h k p w n dh dc dt dn on rk H no re x cp hp kp pp wp np dhp dcp dtp dnp onp rkp Hp nop rep xp (iI m) (lL S) = some (2, 0, cp, hp, kp, pp, wp, np, dhp, dcp, dtp, dnp, onp, rkp, Hp, nop, rep, xp) → f_M_runScript (Q a) x sp sx th (iI m) (lL S) = some (0, Q a, x, sp, sx, 1) → ∃ kk r cq hq kq pq wq nq dhq dcq dtq dnq onq rkq Hq noq req xq out' a' sp' sx', f_L_runScript c h k p w n dh dc dt dn on rk H no re x cp hp kp pp wp np dhp dcp dtp dnp onp rkp Hp nop rep xp out (iI m) (lL S) = some (kk, cq, hq, kq, pq, wq, nq, dhq, dcq, dtq, dnq, onq, rkq, Hq, noq, req, xq, out') ∧ f_M_runScript (Q a) x sp sx th (iI m) (lL S) = some (r, Q a', x, sp', sx', kk) ∧ (kk = 0 → out' 0 = Int32.toInt64 r) ∧ WF a' ∧ RSf c h k p w n dh dc dt dn on rk H no re x a' x := by
    intro hT hM
    have hL : f_L_runScript c h k p w n dh dc dt dn on rk H no re x cp hp kp pp wp np dhp dcp dtp dnp onp rkp Hp nop rep xp out (iI m) (lL S) = some (1, cp, hp, kp, pp, wp, np, dhp, dcp, dtp, dnp, onp, rkp, Hp, nop, rep, xp, out) := by unfold f_L_runScript; rw [hT, cal_some]; rfl
    exact ⟨1, 0, cp, hp, kp, pp, wp, np, dhp, dcp, dtp, dnp, onp, rkp, Hp, nop, rep, xp, out, a, sp, sx, hL, hM, fun z => absurd z (by decide), hw, hr⟩
  by_cases q : 1 ≤ m ∧ m ≤ 3
  · obtain ⟨j, rfl⟩ := Int.eq_ofNat_of_zero_le (show 0 ≤ m by omega)
    have pj : (100000 : Nat) ^ j < 9223372036854775808 := by
      have h2 : (100000 : Nat) ^ j ≤ 100000 ^ 3 := Nat.pow_le_pow_right (by omega) (by omega)
      omega
    have pjI : ((100000 ^ j : Nat) : Int) < 9223372036854775808 := Int.ofNat_lt.mpr pj
    have pj0 : 0 ≤ ((100000 ^ j : Nat) : Int) := Int.natCast_nonneg _
    have ep : f_TR_powerOfTen (5 * iI (j : Int)) = some (lL ((100000 ^ j : Nat) : Int)) := by
      rw [l_5, iI_mul, show (5 : Int) * (j : Int) = ((5 * j : Nat) : Int) by omega, TR_pow (by omega), Nat.mul_comm 5 j, show ((100000 : Nat) ^ j) = 10 ^ (j * 5) by rw [Nat.mul_comm j 5, Nat.pow_mul], Int.natCast_pow]
      rfl
    have hh : f_M_runScript (Q a) x sp sx th (iI j) (lL S) = f_M_runScript_37 (Q a) x sp sx (iI j) (lL S) (lL ((100000 ^ j : Nat) : Int)) := by
      rw [M_run_head th sp sx (lL S) hm, show min (j : Int).toNat 3 = j by omega]
    by_cases q2 : S < 0
    · refine bad ?_ ?_
      · unfold f_TR_runScript f_TR_runScript_30 f_TR_runScript_31
        show cal (f_TR_isWithin (iI j) (iI 1) (iI 3)) _ = _
        rw [TR_isWithin hm (by omega) (by omega), cal_some, rA_t q, cal_some, if_neg nn0, if_pos (show lg_cmp (lL S) 0 < 0 by rw [ll_0, lg_lt hS1 hS2 (by omega) (by omega)]; exact q2)]
        rfl
      · rw [hh]
        unfold f_M_runScript_37 f_M_runScript_62
        rw [mi, cal_some, if_bI, if_pos q, if_pos (show lg_cmp (lL S) 0 < 0 by rw [ll_0, lg_lt hS1 hS2 (by omega) (by omega)]; exact q2)]
        rfl
    · have n0 : ¬ lg_cmp (lL S) 0 < 0 := by rw [ll_0, lg_lt hS1 hS2 (by omega) (by omega)]; exact q2
      by_cases q3 : S < ((100000 ^ j : Nat) : Int)
      · obtain ⟨U, rfl⟩ := Int.eq_ofNat_of_zero_le (show 0 ≤ S by omega)
        obtain ⟨O, e1, e2⟩ := RS_copy hw hr cp hp kp pp wp np dhp dcp dtp dnp onp rkp Hp nop rep xp
        obtain ⟨b0, e3, e4⟩ := M_keep a x sp sx
        obtain ⟨v, v1, ⟨⟨cq, hq, kq, pq, wq, nq, dhq, dcq, dtq, dnq, onq, rkq, Hq, noq, req, xq⟩, v2⟩, b, v3, v4⟩ := run_loop (nn := j) (S := U) (by omega) (by omega) (b0, x) (a0 := a) e4 O ⟨rfl, rfl, rfl, rfl⟩ j 0 (by omega) O.1 O.2.1 O.2.2.1 O.2.2.2.1 O.2.2.2.2.1 O.2.2.2.2.2.1 O.2.2.2.2.2.2.2.2.1 O.2.2.2.2.2.2.2.2.2.2.1 O.2.2.2.2.2.2.2.2.2.2.2.1 O.2.2.2.2.2.2.2.2.2.2.2.2.2.1 O.2.2.2.2.2.2.2.2.2.2.2.2.2.2.1 O.2.2.2.2.2.2.2.2.2.2.2.2.2.2.2 x a hw e2 FUEL (FUEL_ge (by omega))
        have hT : f_TR_runScript c h k p w n dh dc dt dn on rk H no re x cp hp kp pp wp np dhp dcp dtp dnp onp rkp Hp nop rep xp (iI j) (lL U) = some (0, iI v, cq, hq, kq, pq, wq, nq, dhq, dcq, dtq, dnq, onq, rkq, Hq, noq, req, xq) := by
          unfold f_TR_runScript f_TR_runScript_31
          show cal (f_TR_isWithin (iI j) (iI 1) (iI 3)) _ = _
          rw [TR_isWithin hm (by omega) (by omega), cal_some, rA_t q, cal_some, if_neg nn0, if_neg n0, ep, cal_some, if_neg (by rw [lg_ge hS1 hS2 (by omega) (by omega)]; omega), show f_TR_requireArgument 1 = some 0 from rfl, cal_some, if_neg nn0, e1, cal_some]
          exact v2
        have hL : f_L_runScript c h k p w n dh dc dt dn on rk H no re x cp hp kp pp wp np dhp dcp dtp dnp onp rkp Hp nop rep xp out (iI j) (lL U) = some (0, cq, hq, kq, pq, wq, nq, dhq, dcq, dtq, dnq, onq, rkq, Hq, noq, req, xq, vp_updL out 0 (Int32.toInt64 (iI v))) := by unfold f_L_runScript; rw [hT, cal_some]; rfl
        have hM : f_M_runScript (Q a) x sp sx th (iI j) (lL U) = some (iI v, Q b, x, b0, x, 0) := by
          rw [hh]
          unfold f_M_runScript_37
          rw [mi, cal_some, if_bI, if_pos q, if_neg n0, if_pos ((lg_lt hS1 hS2 (by omega) (by omega)).mpr q3), e3, cal_some, bnd_s]
          exact v4
        exact ⟨0, iI v, cq, hq, kq, pq, wq, nq, dhq, dcq, dtq, dnq, onq, rkq, Hq, noq, req, xq, _, b, b0, x, hL, hM, fun _ => rfl, WF_c v3 hw, RSf_c hw v3 hr⟩
      · refine bad ?_ ?_
        · unfold f_TR_runScript f_TR_runScript_30 f_TR_runScript_31
          show cal (f_TR_isWithin (iI j) (iI 1) (iI 3)) _ = _
          rw [TR_isWithin hm (by omega) (by omega), cal_some, rA_t q, cal_some, if_neg nn0, if_neg n0, ep, cal_some, if_pos ((lg_ge hS1 hS2 (by omega) (by omega)).mpr (by omega))]
          rfl
        · rw [hh]
          unfold f_M_runScript_37 f_M_runScript_62
          rw [mi, cal_some, if_bI, if_pos q, if_neg n0, if_neg (by rw [lg_lt hS1 hS2 (by omega) (by omega)]; exact q3)]
          rfl
  · refine bad ?_ ?_
    · unfold f_TR_runScript
      show cal (f_TR_isWithin (iI m) (iI 1) (iI 3)) _ = _
      rw [TR_isWithin hm (by omega) (by omega), cal_some, rA_f q, cal_some, if_pos nt2]
    · rw [M_run_head th sp sx (lL S) hm]
      unfold f_M_runScript_37 f_M_runScript_62
      rw [mi, cal_some, if_bI, if_neg q]
      rfl
end STEPX
