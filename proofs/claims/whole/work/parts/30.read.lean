/-! the program reads a text as the reference does -/
theorem ne9 {v : Int} (h : 0 ≤ v) (h2 : v < 2147483648) : ¬ iI v = -9 := by
  rw [l_9, iI_neg, iI_eq (by omega) h2 (by omega) (by omega)]
  omega
section READ
variable {s t : Nat → Int32} {T : Nat → Int} {N : Nat}
theorem rdC_t {c h k p w : Nat → Int32} {n : Int32} {rk : Nat → Int32} {a : Nat → Int} (hw : WF a) (h40 : a 2 < 40) (hn : n = iI (a 2)) {pl p' : Nat} {v0 v1 v : Int} (hy : isK a v0 v1) (hv : 0 ≤ v ∧ v < 4096) (e1 : f_Rdr_readNumber (iI (pl + 1 : Nat)) s (iI N) 1 0 (iI (a 0 - 1)) = some (iI v0, iI (pl + 1 + 1 : Nat))) (e2 : f_Rdr_readNumber (iI (pl + 1 + 1 : Nat)) s (iI N) 1 0 5 = some (iI v1, iI (pl + 1 + 1 + 1 : Nat))) (e3 : f_Rdr_readNumber (iI (pl + 1 + 1 + 1 : Nat)) s (iI N) 4 0 4095 = some (iI v, iI p')) : f_Rdr_readCode (iI pl) s (iI N) c h k p w n rk (iI (a 0)) = some (1, iI p', upd c (a 2).toNat (iI v), upd h (a 2).toNat (iI v0), upd k (a 2).toNat (iI v1), upd p (a 2).toNat (n9 (-1)), upd w (a 2).toNat (n9 (-1)), iI (a 2 + 1), upd rk (ki v0 v1) (iI (a 2))) := by
  have b0 := hw.b0
  unfold f_Rdr_readCode f_Rdr_readCode_43 f_Rdr_readCode_67
  rw [show f_Str_houses (iI (a 0)) = some (iI (a 0)) from rfl, cal_some, iI_s, show iI (a 0) - 1 = iI (a 0 - 1) by rw [l_1, iI_sub], e1, cal_some, if_pos (ne9 (by omega) (by omega)), e2, cal_some, if_pos (ne9 (by omega) (by omega)), e3, cal_some, if_pos (ne9 (by omega) (by omega)), Str_enterCode hw h40 hn hy, cal_some]
theorem rdC_f {c h k p w : Nat → Int32} {n : Int32} {rk : Nat → Int32} {H : Int} {pl p' : Nat} (hH : 2 ≤ H ∧ H ≤ 9)
    (e : (f_Rdr_readNumber (iI (pl + 1 : Nat)) s (iI N) 1 0 (iI (H - 1)) = some (-9, iI p')) ∨
       (∃ v0, 0 ≤ v0 ∧ v0 < H ∧ f_Rdr_readNumber (iI (pl + 1 : Nat)) s (iI N) 1 0 (iI (H - 1)) = some (iI v0, iI (pl + 1 + 1 : Nat)) ∧ f_Rdr_readNumber (iI (pl + 1 + 1 : Nat)) s (iI N) 1 0 5 = some (-9, iI p')) ∨
       (∃ v0 v1, 0 ≤ v0 ∧ v0 < H ∧ 0 ≤ v1 ∧ v1 < 6 ∧ f_Rdr_readNumber (iI (pl + 1 : Nat)) s (iI N) 1 0 (iI (H - 1)) = some (iI v0, iI (pl + 1 + 1 : Nat)) ∧ f_Rdr_readNumber (iI (pl + 1 + 1 : Nat)) s (iI N) 1 0 5 = some (iI v1, iI (pl + 1 + 1 + 1 : Nat)) ∧ f_Rdr_readNumber (iI (pl + 1 + 1 + 1 : Nat)) s (iI N) 4 0 4095 = some (-9, iI p'))) :
    f_Rdr_readCode (iI pl) s (iI N) c h k p w n rk (iI H) = some (0, iI p', c, h, k, p, w, n, rk) := by
  have z9 : ¬ ¬ (-9 : Int32) = -9 := fun z => z rfl
  unfold f_Rdr_readCode f_Rdr_readCode_43 f_Rdr_readCode_67
  rw [show f_Str_houses (iI H) = some (iI H) from rfl, cal_some, iI_s, show iI H - 1 = iI (H - 1) by rw [l_1, iI_sub]]
  rcases e with e1 | ⟨v0, a1, a2, e1, e2⟩ | ⟨v0, v1, a1, a2, a3, a4, e1, e2, e3⟩
  · rw [e1, cal_some, if_neg z9, if_neg z9, if_neg z9]
  · rw [e1, cal_some, if_pos (ne9 (by omega) (by omega)), e2, cal_some, if_neg z9, if_neg z9]
  · rw [e1, cal_some, if_pos (ne9 (by omega) (by omega)), e2, cal_some, if_pos (ne9 (by omega) (by omega)), e3, cal_some, if_neg z9]
theorem rdD_t {dh dc dt : Nat → Int32} {dn : Int32} {a : Nat → Int} (hw : WF a) (h6 : a 1 < 6) (hn : dn = iI (a 1)) {pl p' : Nat} {v0 v1 v : Int} (h0 : 0 ≤ v0 ∧ v0 < 10) (hv : 0 ≤ v ∧ v < 4096) (h1 : 0 ≤ v1 ∧ v1 < 10) (e1 : f_Rdr_readNumber (iI (pl + 1 : Nat)) s (iI N) 1 0 (iI (a 0 - 1)) = some (iI v0, iI (pl + 1 + 1 : Nat))) (e2 : f_Rdr_readNumber (iI (pl + 1 + 1 : Nat)) s (iI N) 4 0 4095 = some (iI v, iI p')) (e3 : f_Rdr_readNumber (iI p') s (iI N) 1 0 3 = some (iI v1, iI (p' + 1 : Nat))) : f_Rdr_readDevice (iI pl) s (iI N) dh dc dt dn (iI (a 0)) = some (1, iI (p' + 1 : Nat), upd dh (a 1).toNat (iI v0), upd dc (a 1).toNat (iI v), upd dt (a 1).toNat (iI v1), iI (a 1 + 1)) := by
  have b0 := hw.b0
  subst hn
  unfold f_Rdr_readDevice f_Rdr_readDevice_45 f_Rdr_readDevice_67
  rw [show f_Str_houses (iI (a 0)) = some (iI (a 0)) from rfl, cal_some, iI_s, show iI (a 0) - 1 = iI (a 0 - 1) by rw [l_1, iI_sub], e1, cal_some, if_pos (ne9 (by omega) (by omega)), e2, cal_some, if_pos (ne9 (by omega) (by omega)), e3, cal_some, if_pos (ne9 (by omega) (by omega)), Dev_add hw h6, cal_some]
theorem rdD_f {dh dc dt : Nat → Int32} {dn : Int32} {H : Int} {pl p' : Nat} (hH : 2 ≤ H ∧ H ≤ 9)
    (e : (f_Rdr_readNumber (iI (pl + 1 : Nat)) s (iI N) 1 0 (iI (H - 1)) = some (-9, iI p')) ∨
       (∃ v0, 0 ≤ v0 ∧ v0 < H ∧ f_Rdr_readNumber (iI (pl + 1 : Nat)) s (iI N) 1 0 (iI (H - 1)) = some (iI v0, iI (pl + 1 + 1 : Nat)) ∧ f_Rdr_readNumber (iI (pl + 1 + 1 : Nat)) s (iI N) 4 0 4095 = some (-9, iI p')) ∨
       (∃ (v0 c : Int) (p3 : Nat), 0 ≤ v0 ∧ v0 < H ∧ 0 ≤ c ∧ c < 4096 ∧ f_Rdr_readNumber (iI (pl + 1 : Nat)) s (iI N) 1 0 (iI (H - 1)) = some (iI v0, iI (pl + 1 + 1 : Nat)) ∧ f_Rdr_readNumber (iI (pl + 1 + 1 : Nat)) s (iI N) 4 0 4095 = some (iI c, iI p3) ∧ f_Rdr_readNumber (iI p3) s (iI N) 1 0 3 = some (-9, iI p'))) :
    f_Rdr_readDevice (iI pl) s (iI N) dh dc dt dn (iI H) = some (0, iI p', dh, dc, dt, dn) := by
  have z9 : ¬ ¬ (-9 : Int32) = -9 := fun z => z rfl
  unfold f_Rdr_readDevice f_Rdr_readDevice_45 f_Rdr_readDevice_67
  rw [show f_Str_houses (iI H) = some (iI H) from rfl, cal_some, iI_s, show iI H - 1 = iI (H - 1) by rw [l_1, iI_sub]]
  rcases e with e1 | ⟨v0, a1, a2, e1, e2⟩ | ⟨v0, v1, p3, a1, a2, a3, a4, e1, e2, e3⟩
  · rw [e1, cal_some, if_neg z9, if_neg z9, if_neg z9]
  · rw [e1, cal_some, if_pos (ne9 (by omega) (by omega)), e2, cal_some, if_neg z9, if_neg z9]
  · rw [e1, cal_some, if_pos (ne9 (by omega) (by omega)), e2, cal_some, if_pos (ne9 (by omega) (by omega)), e3, cal_some, if_neg z9]
section RP
variable {c h k p w : Nat → Int32} {n : Int32} {dh dc dt : Nat → Int32} {dn : Int32} {rk : Nat → Int32} {H no re : Int32}
theorem rp_k (hx : TXT s t T N) {pl : Nat} (hp : pl < N) (q1 : T pl = 107) {z2 : Int} (hz : 0 ≤ z2 ∧ z2 < 12) (hn : n = iI z2) {z p' : Int32} {c' h' k' w1 w2 : Nat → Int32} {n' : Int32} {rk' : Nat → Int32} (hb : z = 0 ∨ z = 1) (e : f_Rdr_readCode (iI pl) s (iI N) c h k p w n rk H = some (z, p', c', h', k', w1, w2, n', rk')) : f_Rdr_readPart (iI pl) s (iI N) c h k p w n dh dc dt dn rk H no re = some (z, p', c', h', k', w1, w2, n', dh, dc, dt, dn, rk', no, re) := by
  unfold f_Rdr_readPart
  rw [Txt_signAt hx hp, cal_some, q1, if_neg (show ¬ iI 107 = 100 by decide), if_pos (show iI 107 = 107 from rfl), show f_Rec_count n = some n from rfl, cal_some, if_neg (by rw [hn, l_12, iI_le (by omega) (by omega) (by omega) (by omega)]; omega), e, cal_some]
  rcases hb with rfl | rfl
  · rw [if_pos rfl]
  · rw [if_neg (show ¬ (1 : Int32) = 0 by decide)]
theorem rp_k12 (hx : TXT s t T N) {pl : Nat} (hp : pl < N) (q1 : T pl = 107) {z2 : Int} (hz : 12 ≤ z2 ∧ z2 < 1000) (hn : n = iI z2) : f_Rdr_readPart (iI pl) s (iI N) c h k p w n dh dc dt dn rk H no re = some (0, iI pl, c, h, k, p, w, n, dh, dc, dt, dn, rk, no, re) := by
  unfold f_Rdr_readPart
  rw [Txt_signAt hx hp, cal_some, q1, if_neg (show ¬ iI 107 = 100 by decide), if_pos (show iI 107 = 107 from rfl), show f_Rec_count n = some n from rfl, cal_some, if_pos (by rw [hn, l_12, iI_le (by omega) (by omega) (by omega) (by omega)]; omega)]
theorem rp_d (hx : TXT s t T N) {pl : Nat} (hp : pl < N) (q1 : T pl = 100) {z2 : Int} (hz : 0 ≤ z2 ∧ z2 < 6) (hn : dn = iI z2) {z p' : Int32} {c' h' k' : Nat → Int32} {n' : Int32} (hb : z = 0 ∨ z = 1) (e : f_Rdr_readDevice (iI pl) s (iI N) dh dc dt dn H = some (z, p', c', h', k', n')) : f_Rdr_readPart (iI pl) s (iI N) c h k p w n dh dc dt dn rk H no re = some (z, p', c, h, k, p, w, n, c', h', k', n', rk, no, re) := by
  unfold f_Rdr_readPart
  rw [Txt_signAt hx hp, cal_some, q1, if_pos (show iI 100 = 100 from rfl), hn, Dev_hasRoom (by omega) (by omega), cal_some, if_bI, if_pos hz.2, ← hn, e, cal_some]
  rcases hb with rfl | rfl
  · rw [if_pos rfl]
  · rw [if_neg (show ¬ (1 : Int32) = 0 by decide)]
theorem rp_d6 (hx : TXT s t T N) {pl : Nat} (hp : pl < N) (q1 : T pl = 100) (hn : dn = iI 6) : f_Rdr_readPart (iI pl) s (iI N) c h k p w n dh dc dt dn rk H no re = some (0, iI pl, c, h, k, p, w, n, dh, dc, dt, dn, rk, no, re) := by
  unfold f_Rdr_readPart
  rw [Txt_signAt hx hp, cal_some, q1, if_pos (show iI 100 = 100 from rfl), hn, Dev_hasRoom (by omega) (by omega), cal_some, if_bI, if_neg (by omega)]
theorem rp_n (hx : TXT s t T N) {pl : Nat} (hp : pl < N) (q1 : T pl = 110) {z p' n' r' : Int32} (hb : z = 0 ∨ z = 1) (e : f_Rdr_readSetting (iI pl) s (iI N) no re (iI 0) (iI 3) = some (z, p', n', r')) : f_Rdr_readPart (iI pl) s (iI N) c h k p w n dh dc dt dn rk H no re = some (z, p', c, h, k, p, w, n, dh, dc, dt, dn, rk, n', r') := by
  unfold f_Rdr_readPart
  rw [Txt_signAt hx hp, cal_some, q1, if_neg (show ¬ iI 110 = 100 by decide), if_neg (show ¬ iI 110 = 107 by decide), if_pos (show iI 110 = 110 from rfl)]
  show cal (f_Rdr_readSetting (iI pl) s (iI N) no re (iI 0) (iI 3)) _ = _
  rw [e, cal_some, gd_t hb]
theorem rp_s (hx : TXT s t T N) {pl : Nat} (hp : pl < N) (q1 : T pl = 115) {z p' n' r' : Int32} (hb : z = 0 ∨ z = 1) (e : f_Rdr_readSetting (iI pl) s (iI N) no re (iI 1) (iI 8) = some (z, p', n', r')) : f_Rdr_readPart (iI pl) s (iI N) c h k p w n dh dc dt dn rk H no re = some (z, p', c, h, k, p, w, n, dh, dc, dt, dn, rk, n', r') := by
  unfold f_Rdr_readPart
  rw [Txt_signAt hx hp, cal_some, q1, if_neg (show ¬ iI 115 = 100 by decide), if_neg (show ¬ iI 115 = 107 by decide), if_neg (show ¬ iI 115 = 110 by decide), if_pos (show iI 115 = 115 from rfl)]
  show cal (f_Rdr_readSetting (iI pl) s (iI N) no re (iI 1) (iI 8)) _ = _
  rw [e, cal_some, gd_t hb]
theorem rp_x (hx : TXT s t T N) {pl : Nat} (hp : pl < N) (q1 : T pl ≠ 107) (q2 : T pl ≠ 100) (q3 : T pl ≠ 110) (q4 : T pl ≠ 115) : f_Rdr_readPart (iI pl) s (iI N) c h k p w n dh dc dt dn rk H no re = some (0, iI pl, c, h, k, p, w, n, dh, dc, dt, dn, rk, no, re) := by
  have ht := hx.2 pl hp
  unfold f_Rdr_readPart
  rw [Txt_signAt hx hp, cal_some, if_neg (by rw [l_100, iI_eq (by omega) (by omega) (by omega) (by omega)]; exact q2), if_neg (by rw [l_107, iI_eq (by omega) (by omega) (by omega) (by omega)]; exact q1), if_neg (by rw [l_110, iI_eq (by omega) (by omega) (by omega) (by omega)]; exact q3), if_neg (by rw [l_115, iI_eq (by omega) (by omega) (by omega) (by omega)]; exact q4)]
end RP
def GoodP (s t : Nat → Int32) (N pl : Nat) (c h k p w : Nat → Int32) (n : Int32) (dh dc dt : Nat → Int32) (dn on : Int32) (rk : Nat → Int32) (H no re : Int32) (sx : Int64) (a : Nat → Int) (x : Int64) : Prop :=
  ∃ pl' c' h' k' p' w' n' dh' dc' dt' dn' rk' no' re' a', pl < pl' ∧ pl' ≤ N ∧ RSf c' h' k' p' w' n' dh' dc' dt' dn' on rk' H no' re' sx a' x ∧ WF a' ∧ a' 2 ≤ 12 ∧
      f_Rdr_readPart (iI pl) s (iI N) c h k p w n dh dc dt dn rk H no re = some (1, iI pl', c', h', k', p', w', n', dh', dc', dt', dn', rk', no', re') ∧
      (∀ q dg cd, ∃ dg' cd', f_M_part q t (iI N) (iI pl) dg H (iI (a 2)) (iI (a 1)) cd 0 = some (1, q, iI pl', dg', iI (a' 2), iI (a' 1), cd')) ∧
      (∀ dg cd, ∃ dg' cd', f_M_part (Q a) t (iI N) (iI pl) dg H (iI (a 2)) (iI (a 1)) cd 1 = some (1, Q a', iI pl', dg', iI (a' 2), iI (a' 1), cd'))
def BadP (s t : Nat → Int32) (N pl : Nat) (c h k p w : Nat → Int32) (n : Int32) (dh dc dt : Nat → Int32) (dn : Int32) (rk : Nat → Int32) (H no re : Int32) (a : Nat → Int) : Prop :=
  ∃ pl' : Nat, pl' < 1000 ∧ (∃ r, f_Rdr_readPart (iI pl) s (iI N) c h k p w n dh dc dt dn rk H no re = some (0, iI pl', r)) ∧ ∀ q dg cd, ∃ r, f_M_part q t (iI N) (iI pl) dg H (iI (a 2)) (iI (a 1)) cd 0 = some (0, q, iI pl', r)
section P3
variable {c h k p w : Nat → Int32} {n : Int32} {dh dc dt : Nat → Int32} {dn on : Int32} {rk : Nat → Int32} {H no re : Int32} {sx : Int64} {a : Nat → Int} {x : Int64}
theorem p3_k (hx : TXT s t T N) {pl : Nat} (hp : pl < N) (q1 : T pl = 107) (hw : WF a) (hr : RSf c h k p w n dh dc dt dn on rk (iI (a 0)) no re x a x) (hK : a 2 ≤ 12) : GoodP s t N pl c h k p w n dh dc dt dn on rk (iI (a 0)) no re x a x ∨ BadP s t N pl c h k p w n dh dc dt dn rk (iI (a 0)) no re a := by
  have hN := hx.1
  have b0 := hw.b0
  have b1 := hw.b1
  have b2 := hw.b2
  by_cases q2 : 12 ≤ a 2
  · refine Or.inr ⟨pl, by omega, ⟨_, rp_k12 hx hp q1 (z2 := a 2) (by omega) hr.1.1⟩, fun q dg cd => ⟨(dg, iI (a 2), iI (a 1), cd), ?_⟩⟩
    rw [part_nk hx hp (by omega) (Or.inr q2), part_nd hx hp (by omega) (Or.inl (by omega)), part_x hx hp (by omega) (by omega)]
  · rcases code_part hx hp q1 (kk := a 2) (by omega) b0 (iI (a 1)) with ⟨v0, v1, v, p', g0, g1, g2, g3, g4, e1, e2, e3, e4, e5⟩ | ⟨p', e6, e4, e5⟩
    · have hy : isK a v0 v1 := ⟨g0, g1⟩
      have en := mks_n hw hy v (-1) (-1)
      have e1' : mks a v v0 v1 (-1) (-1) 1 = a 1 := by have := ki_lt hw hy; exact mks_o _ _ _ _ _ (by omega) (by omega) (by omega)
      have r1 := RS_mks hw (show a 2 < 40 by omega) hy (v0 := v) (v3 := -1) (v4 := -1) hr x
      have r2 := mks_WF hw (show a 2 < 40 by omega) hy (c := v) (p := -1) (w := -1) g2 (by omega) (by omega)
      have r3 := rdC_t (c := c) (h := h) (k := k) (p := p) (w := w) (rk := rk) hw (show a 2 < 40 by omega) hr.1.1 hy g2 e1 e2 e3
      have r4 := rp_k (dh := dh) (dc := dc) (dt := dt) (dn := dn) (no := no) (re := re) hx hp q1 (z2 := a 2) (by omega) hr.1.1 (Or.inr rfl) r3
      refine Or.inl ⟨p', _, _, _, _, _, _, dh, dc, dt, dn, _, no, re, mks a v v0 v1 (-1) (-1), g3, g4, r1, r2, by omega, r4, fun q dg cd => ?_, fun dg cd => ?_⟩
      · obtain ⟨dg', e⟩ := e4 q dg cd
        exact ⟨dg', iI v, by rw [e, en, e1']⟩
      · have hm := M_makes hw (show a 2 < 40 by omega) hy v (-1) (-1)
        rw [show iI (-1) = (-1 : Int32) from rfl] at hm
        obtain ⟨dg', e⟩ := e5 (Q a) dg cd _ hm
        exact ⟨dg', iI v, by rw [e, en, e1']⟩
    · exact Or.inr ⟨p', e6, ⟨_, rp_k hx hp q1 (z2 := a 2) (by omega) hr.1.1 (Or.inl rfl) (rdC_f b0 e5)⟩, e4⟩
theorem p3_d (hx : TXT s t T N) {pl : Nat} (hp : pl < N) (q1 : T pl = 100) (hw : WF a) (hr : RSf c h k p w n dh dc dt dn on rk (iI (a 0)) no re x a x) (hK : a 2 ≤ 12) : GoodP s t N pl c h k p w n dh dc dt dn on rk (iI (a 0)) no re x a x ∨ BadP s t N pl c h k p w n dh dc dt dn rk (iI (a 0)) no re a := by
  have hN := hx.1
  have b0 := hw.b0
  have b1 := hw.b1
  have b2 := hw.b2
  by_cases q3 : a 1 < 6
  · rcases dev_part hx hp q1 (dd := a 1) (by omega) b0 (iI (a 2)) with ⟨v0, v, v1, p', g0, g1, g2, g3, g4, e1, e2, e3, e4, e5⟩ | ⟨p', e6, e4, e5⟩
    · have en := ads_n (a := a) v0 v v1
      have e1' : ads a v0 v v1 2 = a 2 := ads_o _ _ _ (by omega) (by omega)
      refine Or.inl ⟨p' + 1, c, h, k, p, w, n, upd dh (a 1).toNat (iI v0), upd dc (a 1).toNat (iI v), upd dt (a 1).toNat (iI v1), iI (a 1 + 1), rk, no, re, ads a v0 v v1, by omega, g4, RS_ads hw q3 hr, ads_WF hw q3 (by omega) g1 g2, by omega, rp_d hx hp q1 (z2 := a 1) (by omega) hr.2.1.1 (Or.inr rfl) (rdD_t hw q3 hr.2.1.1 (by omega) g1 (by omega) e1 e2 e3), fun q dg cd => ?_, fun dg cd => ?_⟩
      · obtain ⟨dg', e⟩ := e4 q dg cd
        exact ⟨dg', iI v, by rw [part_nk hx hp (by omega) (Or.inl (by omega)), e, en, e1']⟩
      · obtain ⟨dg', e⟩ := e5 (Q a) dg cd _ (M_adds hw q3 v0 v v1)
        exact ⟨dg', iI v, by rw [part_nk hx hp (by omega) (Or.inl (by omega)), e, en, e1']⟩
    · refine Or.inr ⟨p', e6, ⟨_, rp_d hx hp q1 (z2 := a 1) (by omega) hr.2.1.1 (Or.inl rfl) (rdD_f b0 e5)⟩, fun q dg cd => ?_⟩
      rw [part_nk hx hp (by omega) (Or.inl (by omega))]
      exact e4 q dg cd
  · refine Or.inr ⟨pl, by omega, ⟨_, rp_d6 hx hp q1 (by rw [hr.2.1.1, show a 1 = 6 by omega])⟩, fun q dg cd => ⟨(dg, iI (a 2), iI (a 1), cd), ?_⟩⟩
    rw [part_nk hx hp (by omega) (Or.inl (by omega)), part_nd hx hp (by omega) (Or.inr (by omega)), part_x hx hp (by omega) (by omega)]
theorem p3_n (hx : TXT s t T N) {pl : Nat} (hp : pl < N) (q3 : T pl = 110) (hw : WF a) (hr : RSf c h k p w n dh dc dt dn on rk (iI (a 0)) no re x a x) (hK : a 2 ≤ 12) : GoodP s t N pl c h k p w n dh dc dt dn on rk (iI (a 0)) no re x a x ∨ BadP s t N pl c h k p w n dh dc dt dn rk (iI (a 0)) no re a := by
  have hN := hx.1
  have b1 := hw.b1
  have b2 := hw.b2
  have to206 : ∀ q dg H cd p0, f_M_part q t (iI N) (iI pl) dg H (iI (a 2)) (iI (a 1)) cd p0 = f_M_part_206 q t (iI N) dg (iI (a 2)) (iI (a 1)) cd p0 (iI pl) := fun q dg H cd p0 => by rw [part_nk hx hp (by omega) (Or.inl (by omega)), part_nd hx hp (by omega) (Or.inl (by omega))]
  rcases digit1 hx (p := pl + 1) (by omega) (lo := 0) (hi := 3) (by omega) (by omega) with ⟨v, a1, a2, a3, a4, a5⟩ | ⟨a4, a5⟩
  · have hs : isS 0 v := Or.inl ⟨rfl, a1, a2⟩
    have k2 : stg a 0 v 2 = a 2 := stg_o (by omega)
    have k1 : stg a 0 v 1 = a 1 := stg_o (by omega)
    have e := Rdr_set_t (no := no) (re := re) (p2 := iI 0) (s := s) (N := N) (pl := pl) (hi := 3) (v := v) (by omega) a4 (Str_cs0 no re (iI v))
    refine Or.inl ⟨pl + 1 + 1, c, h, k, p, w, n, dh, dc, dt, dn, rk, iI v, re, stg a 0 v, by omega, by omega, RS_stg0 hw v hr, stg_WF hw hs, by omega, rp_n hx hp q3 (Or.inr rfl) e, fun q dg cd => ⟨iI v, cd, ?_⟩, fun dg cd => ⟨iI v, cd, ?_⟩⟩
    · rw [to206, part_n hx hp q3, k2, k1]
      exact (part_set_t hx (by omega) (Or.inl ⟨rfl, rfl⟩) dg (a5 dg) (iI (a 2)) (iI (a 1)) cd _ rfl).1 q
    · rw [to206, part_n hx hp q3, k2, k1]
      exact (part_set_t hx (by omega) (Or.inl ⟨rfl, rfl⟩) dg (a5 dg) (iI (a 2)) (iI (a 1)) cd _ rfl).2 a
  · have e := Rdr_set_f (no := no) (re := re) (p2 := iI 0) (s := s) (N := N) (pl := pl) (hi := iI 3) a4
    refine Or.inr ⟨pl + 1, by omega, ⟨_, rp_n hx hp q3 (Or.inl rfl) e⟩, fun q dg cd => ?_⟩
    obtain ⟨dg', e'⟩ := a5 dg
    refine ⟨(dg', iI (a 2), iI (a 1), cd), ?_⟩
    rw [to206, part_n hx hp q3]
    exact part_set_f e' (iI (a 2)) (iI (a 1)) cd _ q
theorem p3_s (hx : TXT s t T N) {pl : Nat} (hp : pl < N) (q4 : T pl = 115) (hw : WF a) (hr : RSf c h k p w n dh dc dt dn on rk (iI (a 0)) no re x a x) (hK : a 2 ≤ 12) : GoodP s t N pl c h k p w n dh dc dt dn on rk (iI (a 0)) no re x a x ∨ BadP s t N pl c h k p w n dh dc dt dn rk (iI (a 0)) no re a := by
  have hN := hx.1
  have b1 := hw.b1
  have b2 := hw.b2
  have to206 : ∀ q dg H cd p0, f_M_part q t (iI N) (iI pl) dg H (iI (a 2)) (iI (a 1)) cd p0 = f_M_part_206 q t (iI N) dg (iI (a 2)) (iI (a 1)) cd p0 (iI pl) := fun q dg H cd p0 => by rw [part_nk hx hp (by omega) (Or.inl (by omega)), part_nd hx hp (by omega) (Or.inl (by omega))]
  rcases digit1 hx (p := pl + 1) (by omega) (lo := 0) (hi := 8) (by omega) (by omega) with ⟨v, a1, a2, a3, a4, a5⟩ | ⟨a4, a5⟩
  · have hs : isS 1 v := Or.inr ⟨rfl, a1, a2⟩
    have k2 : stg a 1 v 2 = a 2 := stg_o (by omega)
    have k1 : stg a 1 v 1 = a 1 := stg_o (by omega)
    have e := Rdr_set_t (no := no) (re := re) (p2 := iI 1) (s := s) (N := N) (pl := pl) (hi := 8) (v := v) (by omega) a4 (Str_cs1 no re (iI v))
    refine Or.inl ⟨pl + 1 + 1, c, h, k, p, w, n, dh, dc, dt, dn, rk, no, iI v, stg a 1 v, by omega, by omega, RS_stg1 hw v hr, stg_WF hw hs, by omega, rp_s hx hp q4 (Or.inr rfl) e, fun q dg cd => ⟨iI v, cd, ?_⟩, fun dg cd => ⟨iI v, cd, ?_⟩⟩
    · rw [to206, part_s hx hp q4, k2, k1]
      exact (part_set_t hx (by omega) (Or.inr ⟨rfl, rfl⟩) dg (a5 dg) (iI (a 2)) (iI (a 1)) cd _ rfl).1 q
    · rw [to206, part_s hx hp q4, k2, k1]
      exact (part_set_t hx (by omega) (Or.inr ⟨rfl, rfl⟩) dg (a5 dg) (iI (a 2)) (iI (a 1)) cd _ rfl).2 a
  · have e := Rdr_set_f (no := no) (re := re) (p2 := iI 1) (s := s) (N := N) (pl := pl) (hi := iI 8) a4
    refine Or.inr ⟨pl + 1, by omega, ⟨_, rp_s hx hp q4 (Or.inl rfl) e⟩, fun q dg cd => ?_⟩
    obtain ⟨dg', e'⟩ := a5 dg
    refine ⟨(dg', iI (a 2), iI (a 1), cd), ?_⟩
    rw [to206, part_s hx hp q4]
    exact part_set_f e' (iI (a 2)) (iI (a 1)) cd _ q
theorem part3 (hx : TXT s t T N) {pl : Nat} (hp : pl < N) (hw : WF a) (hr : RSf c h k p w n dh dc dt dn on rk H no re sx a x) (hK : a 2 ≤ 12) : GoodP s t N pl c h k p w n dh dc dt dn on rk H no re sx a x ∨ BadP s t N pl c h k p w n dh dc dt dn rk H no re a := by
  have hr' := hr
  obtain ⟨h1, h2, h3, rfl, h5, h6, rfl⟩ := hr
  by_cases q1 : T pl = 107
  · exact p3_k hx hp q1 hw hr' hK
  · by_cases q2 : T pl = 100
    · exact p3_d hx hp q2 hw hr' hK
    · by_cases q3 : T pl = 110
      · exact p3_n hx hp q3 hw hr' hK
      · by_cases q4 : T pl = 115
        · exact p3_s hx hp q4 hw hr' hK
        · have hN := hx.1
          have b1 := hw.b1
          have b2 := hw.b2
          refine Or.inr ⟨pl, by omega, ⟨_, rp_x hx hp q1 q2 q3 q4⟩, fun q dg cd => ⟨(dg, iI (a 2), iI (a 1), cd), ?_⟩⟩
          rw [part_nk hx hp (by omega) (Or.inl q1), part_nd hx hp (by omega) (Or.inl q2), part_x hx hp q3 q4]
end P3
end READ
