/-! the law, all its turns and its end -/
theorem L_cell_ok {L : Nat} (hL : L ≤ 260) (xs : Nat → Int32) {i : Nat} (hi : i < 36) : ∃ Y : Nat, Y < 2147483648 ∧ f_L_cell L xs (iI i) = some (iI Y) := by
  unfold f_L_cell
  by_cases g : Int32.ofNat L ≤ iI (i : Int)
  · obtain ⟨j, j1, j2⟩ := pk_andE ((15562117 * iI (i : Int)) + 1607) (m := 2147483647) 31 (by decide +kernel)
    rw [if_pos g, j2]
    exact ⟨j, by omega, rfl⟩
  · have g2 : i < L := by
      rcases Nat.lt_or_ge i L with q | q
      · exact q
      · exact absurd ((iI_le (a := (L : Int)) (b := (i : Int)) (by omega) (by omega) (by omega) (by omega)).mpr (by omega)) g
    obtain ⟨j, j1, j2⟩ := pk_andE (xs (iI (i : Int)).toNatClampNeg) (m := 2147483647) 31 (by decide +kernel)
    rw [if_neg g, gd_t (by rw [kcl (by omega), iI_neg0 (by omega)]; omega), j2]
    exact ⟨j, by omega, rfl⟩
theorem t_errorPosition (cp hp kp pp wp : Nat → Int32) (np : Int32) (dhp dcp dtp : Nat → Int32) (dnp onp : Int32) (rkp : Nat → Int32) (Hp nop rep : Int32) (xp : Int64) (sg : Nat → Int32) (pl : Int32) : f_TR_errorPosition cp hp kp pp wp np dhp dcp dtp dnp onp rkp Hp nop rep xp sg 0 pl = some (0, cp, hp, kp, pp, wp, np, dhp, dcp, dtp, dnp, onp, rkp, Hp, nop, rep, xp, 0) := by
  unfold f_TR_errorPosition f_Rdr_read f_Rdr_readHead f_Txt_signAt
  rw [if_neg (show ¬ (0 : Int32) < 0 by decide), if_pos (show (0 : Int32) ≤ 0 by decide), cal_some, if_neg (show ¬ (-9 : Int32) = 82 by decide), cal_some, fuel_1, rl16]
  unfold f_Rdr_read_15 f_Rdr_read_50
  rw [if_pos rfl, if_pos rfl, cal_some]
/-- a new street -/
def nw0 : Nat → Int := fun j => if j = 0 then 4 else if j = 3 then 1 else if j = 4 then 2 else if 5 ≤ j ∧ j < 59 then -1 else 0
theorem nw0_z {j : Nat} (h : 59 ≤ j) : nw0 j = 0 := by
  unfold nw0
  rw [if_neg (by omega), if_neg (by omega), if_neg (by omega), if_neg (by omega)]
theorem nw0_k {j : Nat} (h : 5 ≤ j) (h2 : j < 59) : nw0 j = -1 := by
  unfold nw0
  rw [if_neg (by omega), if_neg (by omega), if_neg (by omega), if_pos (by omega)]
theorem nw0_h : nw0 0 = 4 ∧ nw0 1 = 0 ∧ nw0 2 = 0 ∧ nw0 3 = 1 ∧ nw0 4 = 2 := by decide
theorem nw0_WF : WF nw0 := by
  obtain ⟨e0, e1, e2, e3, e4⟩ := nw0_h
  refine ⟨by omega, by omega, by omega, by omega, by omega, fun k hk => ?_, fun i hi => ?_, fun d hd => ?_, fun d hd => ?_⟩
  · rw [nw0_k (by omega) (by omega)]
    omega
  · omega
  · omega
  · rw [nw0_z (by omega)]
    omega
theorem nw0_INV : INV nw0 := by
  obtain ⟨e0, e1, e2, e3, e4⟩ := nw0_h
  refine ⟨e0, fun i hi => by omega, fun m hm h0 => ?_⟩
  rw [nw0_k (by omega) (by omega)] at h0
  omega
theorem nw0_RS (c h k p w dh dc dt : Nat → Int32) {rk : Nat → Int32} (hk : ∀ j, j < 54 → rk j = -9) : RSf c h k p w 0 dh dc dt 0 0 rk (iI (nw0 0)) (iI (nw0 3)) (iI (nw0 4)) 1 nw0 1 := by
  obtain ⟨e0, e1, e2, e3, e4⟩ := nw0_h
  refine ⟨⟨by rw [e2]; rfl, fun i hi => by omega⟩, ⟨by rw [e1]; rfl, ?_, fun d hd => by omega⟩, fun m hm => ?_, rfl, rfl, rfl, rfl⟩
  · unfold onm
    rw [nw0_z (by omega), nw0_z (by omega), nw0_z (by omega), nw0_z (by omega), nw0_z (by omega), nw0_z (by omega)]
    rfl
  · rw [nw0_k (by omega) (by omega), hk m hm]
    rfl
section LAWS
variable {c h k p w : Nat → Int32} {n : Int32} {dh dc dt : Nat → Int32} {dn on : Int32} {rk : Nat → Int32} {H no re : Int32} {a : Nat → Int} {x : Int64} {st : Nat → SV} {old cnt : Int32}
theorem z_set0 (hm : MM old cnt) (hw : WF a) (hr : RSf c h k p w n dh dc dt dn on rk H no re x a x) (hv : INV a) {v : Int} (q : isS 0 v) {F : _ → Option Int32} {r : Option Int32} (hF : ∀ (r0 no' re' : Int32) (st' : Nat → SV) (old' cnt' : Int32) (b : Nat → Int), r0 = iI (a 3) → WF b → INV b → b 0 = a 0 → b 2 = a 2 → MM old' cnt' → RSf c h k p w n dh dc dt dn on rk H no' re' x b x → F (r0, no', re', st', old', cnt') = r) : cal (f_TR_set c h k p w n dh dc dt dn on rk H no re x st old cnt (iI 0) (iI v)) F = r := by
  obtain ⟨st2, o2, m2, g1, g2, g3, e⟩ := t_set0 (st := st) hm hw hr q
  rw [e, cal_some]
  have hr' := RS_stg0 hw v hr
  rw [show re = iI (a 4) from hr.2.2.2.2.2.1] at hr'
  exact hF _ _ _ _ _ _ (stg a 0 v) rfl (stg_WF hw q) (INV_stg hw hv q) (stg_o (by omega)) (stg_o (by omega)) (MM_of g1 g2) hr'
theorem z_enter (hm : MM old cnt) (hw : WF a) (hr : RSf c h k p w n dh dc dt dn on rk H no re x a x) (hv : INV a) {y z v : Int} (q : isK a y z) (q2 : 0 ≤ v ∧ v ≤ 4095) (q3 : a 2 < 40) {F : _ → Option Int32} {r : Option Int32} (hF : ∀ (r0 : Int32) (c' h' k' p' w' : Nat → Int32) (n' : Int32) (rk' : Nat → Int32) (st' : Nat → SV) (old' cnt' : Int32) (b : Nat → Int), r0 = iI (a 2) → WF b → INV b → b 0 = a 0 → b 2 = a 2 + 1 → isK b y z → kr b y z = a 2 → MM old' cnt' → RSf c' h' k' p' w' n' dh dc dt dn on rk' H no re x b x → F (r0, c', h', k', p', w', n', rk', st', old', cnt') = r) : cal (f_TR_enter c h k p w n dh dc dt dn on rk H no re x st old cnt (iI y) (iI z) (iI v)) F = r := by
  have b2 := hw.b2
  obtain ⟨st2, o2, m2, g1, g2, g3, e⟩ := t_enter (st := st) hm hw hr q q2 q3
  have f := mks_facts (v := v) (q := -1) (r := -1) hw q3 q (by omega) (by omega) (by omega)
  rw [e, cal_some]
  exact hF _ _ _ _ _ _ _ _ _ _ _ (mks a v y z (-1) (-1)) rfl (mks_WF hw q3 q (by omega) (by omega) (by omega)) (INV_mks hw hv q3 q (by omega) (fun _ => by omega) (fun g => by omega)) f.2.2.2.2.2.1 f.2.2.1 f.1 f.2.1 (MM_of g1 g2) (RS_mks hw q3 q hr x)
theorem z_teach (hm : MM old cnt) (hw : WF a) (hr : RSf c h k p w n dh dc dt dn on rk H no re x a x) {y z t l : Int} (q : isK a y z) (q0 : 0 ≤ kr a y z) (q2 : isK a t l) (hn : ¬ (y = t ∧ z = l)) (q3 : a 2 < 40) {F : _ → Option Int32} {r : Option Int32} (hF : ∀ (r0 : Int32) (c' h' k' p' w' : Nat → Int32) (n' : Int32) (rk' : Nat → Int32) (x' : Int64) (st' : Nat → SV) (o m : Nat), r0 = iI (lrn a x y (kr a y z) t) → o < 14 → m < 14 → RS (st' ((o + m) % 14)) a x → F (r0, c', h', k', p', w', n', rk', x', st', iI o, iI (m + 1 : Nat)) = r) : cal (f_TR_teach c h k p w n dh dc dt dn on rk H no re x st old cnt (iI y) (iI z) (iI t) (iI l)) F = r := by
  obtain ⟨st2, o2, m2, g1, g2, g3, e⟩ := t_teach (st := st) hm hw hr q q0 q2 hn q3
  rw [e, cal_some]
  exact hF _ _ _ _ _ _ _ _ _ _ _ _ rfl g1 g2 g3
theorem z_erase (hm : MM old cnt) (hw : WF a) (hr : RSf c h k p w n dh dc dt dn on rk H no re x a x) {y z : Int} (q : isK a y z) {F : _ → Option Int32} {r : Option Int32} (hF : ∀ (r0 : Int32) (rk' : Nat → Int32) (st' : Nat → SV) (old' cnt' : Int32), r0 = iI (cd a (kr a y z)) → F (r0, rk', st', old', cnt') = r) : cal (f_TR_erase c h k p w n dh dc dt dn on rk H no re x st old cnt (iI y) (iI z)) F = r := by
  obtain ⟨st2, o2, m2, g1, g2, g3, e⟩ := t_erase (st := st) hm hw hr q
  rw [e, cal_some]
  exact hF _ _ _ _ _ rfl
theorem z_undo {o m : Nat} (ho : o < 14) (hm : m < 14) {b : Nat → Int} {y : Int64} (g1 : WF b) (g2 : RS (st ((o + m) % 14)) b y) {F : _ → Option Int32} {r : Option Int32} (hF : ∀ v0 v1 v2 v3 v4 v5 v6 v7 v8 v9 v10 v11 v12 v13 v14, RSf v0 v1 v2 v3 v4 v5 v6 v7 v8 v9 v10 v11 v12 v13 v14 y b y → F (iI m, v0, v1, v2, v3, v4, v5, v6, v7, v8, v9, v10, v11, v12, v13, v14, y, iI m) = r) : cal (f_TR_undo c h k p w n dh dc dt dn on rk H no re x st (iI o) (iI (m + 1 : Nat))) F = r := by
  obtain ⟨v0, v1, v2, v3, v4, v5, v6, v7, v8, v9, v10, v11, v12, v13, v14, e, e2⟩ := t_undo (c := c) (h := h) (k := k) (p := p) (w := w) (n := n) (dh := dh) (dc := dc) (dt := dt) (dn := dn) (on := on) (rk := rk) (H := H) (no := no) (re := re) (x := x) (st := st) ho hm g1 g2
  rw [e, cal_some]
  exact hF v0 v1 v2 v3 v4 v5 v6 v7 v8 v9 v10 v11 v12 v13 v14 e2
theorem z_save {s2 : Nat → SV} (hw : WF a) (hr : RSf c h k p w n dh dc dt dn on rk H no re x a x) {F : _ → Option Int32} {r : Option Int32} (hF : ∀ (r0 : Int32) (s3 : Nat → SV), r0 = iI (a 2) → RS (s3 1) a x → F (r0, s3, 2) = r) : cal (f_TR_save c h k p w n dh dc dt dn on rk H no re x s2 0 1) F = r := by
  obtain ⟨s3, e1, e⟩ := t_save (s2 := s2) hw hr
  rw [e, cal_some]
  exact hF _ s3 rfl e1
theorem z_restore {s3 : Nat → SV} {b : Nat → Int} {y : Int64} (g1 : WF b) (g2 : RS (s3 1) b y) {F : _ → Option Int32} {r : Option Int32} (hF : ∀ (r0 : Int32) v0 v1 v2 v3 v4 v5 v6 v7 v8 v9 v10 v11 v12 v13 v14, r0 = iI (b 2) → RSf v0 v1 v2 v3 v4 v5 v6 v7 v8 v9 v10 v11 v12 v13 v14 y b y → F (r0, v0, v1, v2, v3, v4, v5, v6, v7, v8, v9, v10, v11, v12, v13, v14, y, 0) = r) : cal (f_TR_restore c h k p w n dh dc dt dn on rk H no re x cnt s3 2 1) F = r := by
  obtain ⟨v0, v1, v2, v3, v4, v5, v6, v7, v8, v9, v10, v11, v12, v13, v14, e, e2⟩ := t_restore (c := c) (h := h) (k := k) (p := p) (w := w) (n := n) (dh := dh) (dc := dc) (dt := dt) (dn := dn) (on := on) (rk := rk) (H := H) (no := no) (re := re) (x := x) (cnt := cnt) g1 g2
  rw [e, cal_some]
  exact hF _ v0 v1 v2 v3 v4 v5 v6 v7 v8 v9 v10 v11 v12 v13 v14 rfl e2
theorem law_end (hm : MM old cnt) (hw : WF a) (hv : INV a) (hr : RSf c h k p w n dh dc dt dn on rk (iI (a 0)) (iI (a 3)) (iI (a 4)) x a x) (h36 : a 2 ≤ 36) (s2 : Nat → SV) (L : Nat) (xs : Nat → Int32) (K : _) : f_L_law_50 (iI (a 0)) s2 0 L xs 1 (iI (36 : Nat)) c h k p w n dh dc dt dn on rk (iI (a 3)) (iI (a 4)) x st old cnt K = some 1 := by
  have h4 := hv.h
  have b2 := hw.b2
  have b3 := hw.b3
  have b4 := hw.b4
  unfold f_L_law_50
  rw [if_pos (by decide), gd_t (by decide)]
  have qs : isS 0 3 := by omega
  refine z_set0 (v := 3) hm hw hr hv qs (fun r1 no1 re1 st1 old1 cnt1 b1 er1 hw1 hv1 e10 e12 hm1 hr1 => ?_)
  have q1 : isK b1 0 0 := by omega
  rw [gd_t (by rw [er1, iI_neg0 (by omega)]; omega), t_about2 hw1 hr1, cal_some, gd_t (by rw [l_40, iI_eq (by omega) (by omega) (by omega) (by omega)]; omega)]
  refine z_enter (v := 99) hm1 hw1 hr1 hv1 q1 (by omega) (by omega) (fun r2 c2 h2 k2 p2 w2 n2 rk2 st2 old2 cnt2 b er2 hw2 hv2 e0 en q2 ek hm2 hr2 => ?_)
  have hk0 : 0 ≤ kr b 0 0 := by omega
  have hkok := kr_ok hw2 q2
  have hl := lrn_b hw2 x (h := 0) (to := 3) hkok hk0
  have hcd := cd_sm hw2 hkok
  have W : ∀ {c h k p w : Nat → Int32} {n : Int32} {dh dc dt : Nat → Int32} {dn on : Int32} {rk : Nat → Int32} {H no re : Int32}, RSf c h k p w n dh dc dt dn on rk H no re x b x → f_TR_wouldBe c n rk H no x 0 0 3 = some (iI (lrn b x 0 (kr b 0 0) 3)) := by
    intro c h k p w n dh dc dt dn on rk H no re hr
    have e := t_wouldBe hw2 hr (t := 3) q2 (by omega)
    rw [if_neg (by omega)] at e
    exact e
  rw [gd_t (by rw [er2, iI_neg0 (by omega)]; omega), W hr2, cal_some, t_about2 hw2 hr2, cal_some, gd_t (by decide)]
  refine z_save hw2 hr2 (fun r3 s3 er3 h3 => ?_)
  rw [gd_t er3, gd_t (by rw [l_40, iI_eq (by omega) (by omega) (by omega) (by omega)]; omega), gd_t (by rw [iI_neg0 (by omega)]; omega)]
  refine z_teach (y := 0) (z := 0) (t := 3) (l := 5) hm2 hw2 hr2 q2 hk0 (by omega) (by omega) (by omega) (fun r4 c4 h4 k4 p4 w4 n4 rk4 x4 st4 o4 m4 er4 g7 g8 g9 => ?_)
  rw [gd_t er4]
  refine z_undo g7 g8 hw2 g9 (fun v0 v1 v2 v3 v4 v5 v6 v7 v8 v9 v10 v11 v12 v13 v14 hr3 => ?_)
  rw [gd_t (show ¬ iI (m4 : Int) < 0 by rw [iI_neg0 (by omega)]; omega), gd_t (by decide), W hr3, cal_some, gd_t rfl]
  refine z_erase (y := 0) (z := 0) ⟨o4, m4, g7, by omega, rfl, rfl⟩ hw2 hr3 q2 (fun r5 rk5 st5 old5 cnt5 er5 => ?_)
  rw [gd_t (show ¬ r5 < -9 by rw [er5, l_m9, iI_lt (by omega) (by omega) (by omega) (by omega)]; omega)]
  refine z_restore hw2 h3 (fun r6 u0 u1 u2 u3 u4 u5 u6 u7 u8 u9 u10 u11 u12 u13 u14 er6 hr4 => ?_)
  rw [gd_t er6, W hr4, cal_some, gd_t rfl, L_sound_ok hw2 hv2 hr4, cal_some, gd_t (by decide)]
end LAWS
theorem law_loop {L : Nat} (hL : L ≤ 260) (xs : Nat → Int32) (s2 : Nat → SV) : ∀ (N i f : Nat), i + N = 36 → N < f → ∀ (c h k p w : Nat → Int32) (n : Int32) (dh dc dt : Nat → Int32) (dn on : Int32) (rk : Nat → Int32) (no re : Int32) (x : Int64) (st : Nat → SV) (old cnt : Int32) (a : Nat → Int), MM old cnt → WF a → INV a → RSf c h k p w n dh dc dt dn on rk (iI 4) no re x a x → a 2 ≤ i → rl20 (f_L_law_50 (iI 4) s2 0 L xs) f 1 (iI i) c h k p w n dh dc dt dn on rk no re x st old cnt = some 1 := by
  intro N
  induction N with
  | zero =>
    intro i f h1 h2 c h k p w n dh dc dt dn on rk no re x st old cnt a hm hw hv hr ha
    have h4 := hv.h
    obtain ⟨f', rfl⟩ : ∃ f', f = f' + 1 := ⟨f - 1, by omega⟩
    obtain rfl : i = 36 := by omega
    rw [← h4] at hr ⊢
    obtain rfl : no = iI (a 3) := hr.2.2.2.2.1
    obtain rfl : re = iI (a 4) := hr.2.2.2.2.2.1
    rw [rl20]
    exact law_end hm hw hv hr (by omega) s2 L xs _
  | succ N ih =>
    intro i f h1 h2 c h k p w n dh dc dt dn on rk no re x st old cnt a hm hw hv hr ha
    have h4 := hv.h
    obtain ⟨f', rfl⟩ : ∃ f', f = f' + 1 := ⟨f - 1, by omega⟩
    obtain ⟨Y, hY, eY⟩ := L_cell_ok hL xs (show i < 36 by omega)
    obtain rfl : no = iI (a 3) := hr.2.2.2.2.1
    obtain rfl : re = iI (a 4) := hr.2.2.2.2.2.1
    have hr' := hr
    rw [← h4] at hr'
    have hact := L_acts_ok (st := st) hm hw hv hr' (by omega) hY
    rw [h4] at hact
    obtain ⟨u, b, eu, u1, hwb, hvb, hb2, hmb, hrb⟩ := hact
    rw [rl20]
    unfold f_L_law_50
    rw [if_neg (by rw [show (36 : Int32) = iI 36 from rfl, iI_le (by omega) (by omega) (by omega) (by omega)]; omega), gd_t (by decide), eY, cal_some, eu, cal_some, gd_t (by rw [u1]; decide), L_sound_ok hwb hvb hrb, cal_some, gd_t (by decide), iI_s i]
    exact ih (i + 1) f' (by omega) (by omega) _ _ _ _ _ _ _ _ _ _ _ _ _ _ _ _ _ _ b hmb hwb hvb hrb (by omega)
theorem L_law_ok {L : Nat} (hL : L ≤ 260) (xs : Nat → Int32) (c h k p w dh dc dt rk : Nat → Int32) (hk : ∀ j, j < 54 → rk j = -9) (cp hp kp pp wp : Nat → Int32) (np : Int32) (dhp dcp dtp : Nat → Int32) (dnp onp : Int32) (rkp : Nat → Int32) (Hp nop rep : Int32) (xp : Int64) (st s2 : Nat → SV) (sg : Nat → Int32) (pl : Int32) : f_L_law L xs c h k p w 0 dh dc dt 0 0 rk 4 1 2 1 cp hp kp pp wp np dhp dcp dtp dnp onp rkp Hp nop rep xp st 0 0 s2 0 sg 0 pl = some 1 := by
  have hr : RSf c h k p w 0 dh dc dt 0 0 rk 4 1 2 1 nw0 1 := nw0_RS c h k p w dh dc dt hk
  have e := nw0_h
  unfold f_L_law
  rw [t_about0 nw0_WF hr, cal_some, gd_t (by rw [e.1]; rfl), t_about9 nw0_WF hr, cal_some, gd_t (by rw [e.2.2.1]; rfl), L_sound_ok nw0_WF nw0_INV hr, cal_some, gd_t (by decide), t_errorPosition, cal_some, gd_t rfl]
  exact law_loop hL xs s2 36 0 FUEL (by omega) (fuel_gt (by omega)) c h k p w 0 dh dc dt 0 0 rk 1 2 1 st 0 0 nw0 ⟨0, 0, by omega, by omega, rfl, rfl⟩ nw0_WF nw0_INV hr (by omega)
