/-! the calls that change something, on the way that the law takes -/
def MM (old cnt : Int32) : Prop := ∃ o m : Nat, o < 14 ∧ m ≤ 14 ∧ old = iI o ∧ cnt = iI m
theorem MM_of {o m : Nat} (ho : o < 14) (hm : m < 14) : MM (iI o) (iI (m + 1 : Nat)) := ⟨o, m + 1, ho, by omega, rfl, rfl⟩
section WRITES
variable {c h k p w : Nat → Int32} {n : Int32} {dh dc dt : Nat → Int32} {dn on : Int32} {rk : Nat → Int32} {H no re : Int32} {a : Nat → Int} {x : Int64} {st : Nat → SV} {old cnt : Int32}
theorem rem2 (hm : MM old cnt) (hw : WF a) (hr : RSf c h k p w n dh dc dt dn on rk H no re x a x) : ∃ (st2 : Nat → SV) (o2 m2 : Nat), o2 < 14 ∧ m2 < 14 ∧ RS (st2 ((o2 + m2) % 14)) a x ∧ f_Mem_remember st old cnt c h k p w n dh dc dt dn on rk H no re x = some (st2, iI o2, iI (m2 + 1 : Nat)) := by
  obtain ⟨o, m, ho, hk, rfl, rfl⟩ := hm
  obtain ⟨T, hT, eT⟩ := Mem_remember (st := st) ho hk hw hr
  by_cases q : m = 14
  · rw [if_pos q, if_pos q] at eT
    refine ⟨_, (o + 1) % 14, 13, Nat.mod_lt _ (by omega), by omega, ?_, eT⟩
    rw [show ((o + 1) % 14 + 13) % 14 = (o + m) % 14 by omega]
    show RS (if (o + m) % 14 = (o + m) % 14 then T else _) a x
    rw [if_pos rfl]
    exact hT
  · rw [if_neg q, if_neg q] at eT
    refine ⟨_, o, m, ho, by omega, ?_, eT⟩
    show RS (if (o + m) % 14 = (o + m) % 14 then T else _) a x
    rw [if_pos rfl]
    exact hT
theorem t_enter (hm : MM old cnt) (hw : WF a) (hr : RSf c h k p w n dh dc dt dn on rk H no re x a x) {y z v : Int} (q : isK a y z) (q2 : 0 ≤ v ∧ v ≤ 4095) (q3 : a 2 < 40) : ∃ (st2 : Nat → SV) (o2 m2 : Nat), o2 < 14 ∧ m2 < 14 ∧ RS (st2 ((o2 + m2) % 14)) a x ∧ f_TR_enter c h k p w n dh dc dt dn on rk H no re x st old cnt (iI y) (iI z) (iI v) = some (iI (a 2), upd c (a 2).toNat (iI v), upd h (a 2).toNat (iI y), upd k (a 2).toNat (iI z), upd p (a 2).toNat (n9 (-1)), upd w (a 2).toNat (n9 (-1)), iI (a 2 + 1), upd rk (ki y z) (iI (a 2)), st2, iI o2, iI (m2 + 1 : Nat)) := by
  obtain ⟨st2, o2, m2, g1, g2, g3, e1⟩ := rem2 (st := st) hm hw hr
  obtain ⟨h1, h2, h3, rfl, rfl, rfl, h7⟩ := hr
  have b0 := hw.b0
  have b1 := hw.b1
  have b2 := hw.b2
  refine ⟨st2, o2, m2, g1, g2, g3, ?_⟩
  unfold f_TR_enter
  rw [rK_t hw q, cal_some, TR_isCode (by omega), cal_some, rA_t q2, cal_some, h1.1, Rec_hasRoom b2.1 b2.2, cal_some, rS_t q3, cal_some, ← h1.1, e1, cal_some, Str_enterCode hw q3 h1.1 q, cal_some, h1.1]
theorem tr29 (hw : WF a) (he : H = iI (a 0)) {y z t l : Int} (q : isK a y z) (q2 : isK a t l) (hn : ¬ (y = t ∧ z = l)) : f_TR_teach c h k p w n dh dc dt dn on rk H no re x st old cnt (iI y) (iI z) (iI t) (iI l) = f_TR_teach_29 c h k p w n dh dc dt dn on rk H no re x st old cnt (iI y) (iI z) (iI t) (iI l) 1 := by
  have s1 := isK_sm hw q
  have s2 := isK_sm hw q2
  subst he
  unfold f_TR_teach f_TR_teach_24
  rw [rK_t hw q, cal_some, rK_t hw q2, cal_some]
  by_cases g1 : y = t
  · rw [if_neg (by rw [g1]; exact fun z => z rfl), if_neg (by rw [iI_eq (by omega) (by omega) (by omega) (by omega)]; exact fun g2 => hn ⟨g1, g2⟩)]
  · rw [if_pos (by rw [iI_eq (by omega) (by omega) (by omega) (by omega)]; exact g1)]
theorem t_teach (hm : MM old cnt) (hw : WF a) (hr : RSf c h k p w n dh dc dt dn on rk H no re x a x) {y z t l : Int} (q : isK a y z) (q0 : 0 ≤ kr a y z) (q2 : isK a t l) (hn : ¬ (y = t ∧ z = l)) (q3 : a 2 < 40) : ∃ (st2 : Nat → SV) (o2 m2 : Nat), o2 < 14 ∧ m2 < 14 ∧ RS (st2 ((o2 + m2) % 14)) a x ∧ f_TR_teach c h k p w n dh dc dt dn on rk H no re x st old cnt (iI y) (iI z) (iI t) (iI l) = some (iI (lrn a x y (kr a y z) t), upd c (a 2).toNat (iI (lrn a x y (kr a y z) t)), upd h (a 2).toNat (iI t), upd k (a 2).toNat (iI l), upd p (a 2).toNat (n9 (kr a y z)), upd w (a 2).toNat (n9 (wbt a x y t)), iI (a 2 + 1), upd rk (ki t l) (iI (a 2)), nextx x, st2, iI o2, iI (m2 + 1 : Nat)) := by
  obtain ⟨st2, o2, m2, g1, g2, g3, e1⟩ := rem2 (st := st) hm hw hr
  obtain ⟨h1, h2, h3, rfl, rfl, rfl, h7⟩ := hr
  have b0 := hw.b0
  have b1 := hw.b1
  have b2 := hw.b2
  refine ⟨st2, o2, m2, g1, g2, g3, ?_⟩
  rw [tr29 hw rfl q q2 hn]
  unfold f_TR_teach_29
  rw [rA_1, cal_some, h1.1, Str_canTeach hw h3 q, cal_some, rS_t ⟨q0, q3⟩, cal_some, ← h1.1, e1, cal_some, Str_teachKey hw q3 h1 h3 x q q2 q0, cal_some, h1.1]
theorem t_erase (hm : MM old cnt) (hw : WF a) (hr : RSf c h k p w n dh dc dt dn on rk H no re x a x) {y z : Int} (q : isK a y z) : ∃ (st2 : Nat → SV) (o2 m2 : Nat), o2 < 14 ∧ m2 < 14 ∧ RS (st2 ((o2 + m2) % 14)) a x ∧ f_TR_erase c h k p w n dh dc dt dn on rk H no re x st old cnt (iI y) (iI z) = some (iI (cd a (kr a y z)), upd rk (ki y z) (n9 (-1)), st2, iI o2, iI (m2 + 1 : Nat)) := by
  obtain ⟨st2, o2, m2, g1, g2, g3, e1⟩ := rem2 (st := st) hm hw hr
  obtain ⟨h1, h2, h3, rfl, rfl, rfl, h7⟩ := hr
  have b0 := hw.b0
  have b1 := hw.b1
  have b2 := hw.b2
  refine ⟨st2, o2, m2, g1, g2, g3, ?_⟩
  unfold f_TR_erase
  rw [rK_t hw q, cal_some, e1, cal_some, Str_eraseKey hw h1 h3 q, cal_some]
theorem t_press (hm : MM old cnt) (hw : WF a) (hr : RSf c h k p w n dh dc dt dn on rk H no re x a x) {y z : Int} (q : isK a y z) (q0 : 0 ≤ kr a y z) : ∃ (st2 : Nat → SV) (o2 m2 : Nat), o2 < 14 ∧ m2 < 14 ∧ RS (st2 ((o2 + m2) % 14)) a x ∧ f_TR_press c h k p w n dh dc dt dn on rk H no re x st old cnt (iI y) (iI z) = some (nI (am a y (kr a y z)), on ^^^ nI (am a y (kr a y z)), st2, iI o2, iI (m2 + 1 : Nat)) := by
  obtain ⟨st2, o2, m2, g1, g2, g3, e1⟩ := rem2 (st := st) hm hw hr
  obtain ⟨h1, h2, h3, rfl, rfl, rfl, h7⟩ := hr
  have b0 := hw.b0
  have b1 := hw.b1
  have b2 := hw.b2
  refine ⟨st2, o2, m2, g1, g2, g3, ?_⟩
  unfold f_TR_press
  rw [rK_t hw q, cal_some, Str_hasCode hw h3 q, cal_some, rS_t q0, cal_some, e1, cal_some, Str_pressKey hw h1 h2 h3 q, cal_some]
theorem t_addDevice (hm : MM old cnt) (hw : WF a) (hr : RSf c h k p w n dh dc dt dn on rk H no re x a x) {y v u : Int} (q : 0 ≤ y ∧ y < a 0) (q1 : 0 ≤ v ∧ v ≤ 4095) (q2 : 0 ≤ u ∧ u ≤ 3) (q3 : a 1 < 6) : ∃ (st2 : Nat → SV) (o2 m2 : Nat), o2 < 14 ∧ m2 < 14 ∧ RS (st2 ((o2 + m2) % 14)) a x ∧ f_TR_addDevice c h k p w n dh dc dt dn on rk H no re x st old cnt (iI y) (iI v) (iI u) = some (iI (a 1), upd dh (a 1).toNat (iI y), upd dc (a 1).toNat (iI v), upd dt (a 1).toNat (iI u), iI (a 1 + 1), st2, iI o2, iI (m2 + 1 : Nat)) := by
  obtain ⟨st2, o2, m2, g1, g2, g3, e1⟩ := rem2 (st := st) hm hw hr
  obtain ⟨h1, h2, h3, rfl, rfl, rfl, h7⟩ := hr
  have b0 := hw.b0
  have b1 := hw.b1
  have b2 := hw.b2
  refine ⟨st2, o2, m2, g1, g2, g3, ?_⟩
  unfold f_TR_addDevice f_TR_addDevice_30
  rw [Str_hasHouse hw (by omega), cal_some, rP_t q, cal_some, TR_isCode (by omega), cal_some, if_bI, if_pos q1, TR_isTolerance (by omega), cal_some, if_bI, if_pos q2, rA_1, cal_some, h2.1, Dev_hasRoom b1.1 b1.2, cal_some, rS_t q3, cal_some, ← h2.1, e1, cal_some, h2.1, Dev_add hw q3, cal_some]
theorem t_setTolerance (hm : MM old cnt) (hw : WF a) (hr : RSf c h k p w n dh dc dt dn on rk H no re x a x) {d : Nat} {u : Int} (q : (d : Int) < a 1) (q2 : 0 ≤ u ∧ u ≤ 3) : ∃ (st2 : Nat → SV) (o2 m2 : Nat), o2 < 14 ∧ m2 < 14 ∧ RS (st2 ((o2 + m2) % 14)) a x ∧ f_TR_setTolerance c h k p w n dh dc dt dn on rk H no re x st old cnt (iI d) (iI u) = some (iI (a (261 + 4 * d)), upd dt d (iI u), st2, iI o2, iI (m2 + 1 : Nat)) := by
  obtain ⟨st2, o2, m2, g1, g2, g3, e1⟩ := rem2 (st := st) hm hw hr
  obtain ⟨h1, h2, h3, rfl, rfl, rfl, h7⟩ := hr
  have b0 := hw.b0
  have b1 := hw.b1
  have b2 := hw.b2
  refine ⟨st2, o2, m2, g1, g2, g3, ?_⟩
  unfold f_TR_setTolerance
  rw [h2.1, Dev_has b1.1 b1.2 (by omega), cal_some, rP_t ⟨by omega, q⟩, cal_some, TR_isTolerance (by omega), cal_some, rA_t q2, cal_some, ← h2.1, e1, cal_some, Dev_changeTolerance hw h2 q, cal_some]
theorem t_set0 (hm : MM old cnt) (hw : WF a) (hr : RSf c h k p w n dh dc dt dn on rk H no re x a x) {v : Int} (q : isS 0 v) : ∃ (st2 : Nat → SV) (o2 m2 : Nat), o2 < 14 ∧ m2 < 14 ∧ RS (st2 ((o2 + m2) % 14)) a x ∧ f_TR_set c h k p w n dh dc dt dn on rk H no re x st old cnt (iI 0) (iI v) = some (iI (a 3), iI v, iI (a 4), st2, iI o2, iI (m2 + 1 : Nat)) := by
  obtain ⟨st2, o2, m2, g1, g2, g3, e1⟩ := rem2 (st := st) hm hw hr
  obtain ⟨h1, h2, h3, rfl, rfl, rfl, h7⟩ := hr
  have b0 := hw.b0
  have b1 := hw.b1
  have b2 := hw.b2
  refine ⟨st2, o2, m2, g1, g2, g3, ?_⟩
  unfold f_TR_set
  rw [TR_isSetting (by omega) (by omega), cal_some, rA_t q, cal_some, e1, cal_some, Str_cs0, cal_some]
theorem t_set1 (hm : MM old cnt) (hw : WF a) (hr : RSf c h k p w n dh dc dt dn on rk H no re x a x) {v : Int} (q : isS 1 v) : ∃ (st2 : Nat → SV) (o2 m2 : Nat), o2 < 14 ∧ m2 < 14 ∧ RS (st2 ((o2 + m2) % 14)) a x ∧ f_TR_set c h k p w n dh dc dt dn on rk H no re x st old cnt (iI 1) (iI v) = some (iI (a 4), iI (a 3), iI v, st2, iI o2, iI (m2 + 1 : Nat)) := by
  obtain ⟨st2, o2, m2, g1, g2, g3, e1⟩ := rem2 (st := st) hm hw hr
  obtain ⟨h1, h2, h3, rfl, rfl, rfl, h7⟩ := hr
  have b0 := hw.b0
  have b1 := hw.b1
  have b2 := hw.b2
  refine ⟨st2, o2, m2, g1, g2, g3, ?_⟩
  unfold f_TR_set
  rw [TR_isSetting (by omega) (by omega), cal_some, rA_t q, cal_some, e1, cal_some, Str_cs1, cal_some]
/-- the state of a street by its parts -/
theorem RS_parts {T : SV} {b : Nat → Int} {y : Int64} (h : RS T b y) : ∃ v0 v1 v2 v3 v4 v5 v6 v7 v8 v9 v10 v11 v12 v13 v14, T = (v0, v1, v2, v3, v4, v5, v6, v7, v8, v9, v10, v11, v12, v13, v14, y) ∧ RSf v0 v1 v2 v3 v4 v5 v6 v7 v8 v9 v10 v11 v12 v13 v14 y b y := by
  obtain ⟨v0, v1, v2, v3, v4, v5, v6, v7, v8, v9, v10, v11, v12, v13, v14, v15⟩ := T
  have e : v15 = y := h.2.2.2.2.2.2
  subst e
  exact ⟨v0, v1, v2, v3, v4, v5, v6, v7, v8, v9, v10, v11, v12, v13, v14, rfl, h⟩
theorem t_undo {o m : Nat} (ho : o < 14) (hm : m < 14) {b : Nat → Int} {y : Int64} (g1 : WF b) (g2 : RS (st ((o + m) % 14)) b y) : ∃ v0 v1 v2 v3 v4 v5 v6 v7 v8 v9 v10 v11 v12 v13 v14, f_TR_undo c h k p w n dh dc dt dn on rk H no re x st (iI o) (iI (m + 1 : Nat)) = some (iI m, v0, v1, v2, v3, v4, v5, v6, v7, v8, v9, v10, v11, v12, v13, v14, y, iI m) ∧ RSf v0 v1 v2 v3 v4 v5 v6 v7 v8 v9 v10 v11 v12 v13 v14 y b y := by
  obtain ⟨T, e1, e2⟩ := takes (b := fun _ => b) (mx := fun _ => y) ho hm g1 g2 c h k p w n dh dc dt dn on rk H no re x
  obtain ⟨v0, v1, v2, v3, v4, v5, v6, v7, v8, v9, v10, v11, v12, v13, v14, rfl, e3⟩ := RS_parts e1
  refine ⟨v0, v1, v2, v3, v4, v5, v6, v7, v8, v9, v10, v11, v12, v13, v14, ?_, e3⟩
  unfold f_TR_undo f_TR_undo_15
  rw [show f_Mem_count (iI (m + 1 : Nat)) = some (iI (m + 1 : Nat)) from rfl, cal_some, if_neg (by rw [l_0, iI_le (by omega) (by omega) (by omega) (by omega)]; omega), rS_1, cal_some, e2, cal_some]
theorem t_save {s2 : Nat → SV} (hw : WF a) (hr : RSf c h k p w n dh dc dt dn on rk H no re x a x) : ∃ (s3 : Nat → SV), RS (s3 1) a x ∧ f_TR_save c h k p w n dh dc dt dn on rk H no re x s2 0 1 = some (iI (a 2), s3, 2) := by
  obtain ⟨T, e1, e2⟩ := RS_copy hw hr (s2 1).1 (s2 1).2.1 (s2 1).2.2.1 (s2 1).2.2.2.1 (s2 1).2.2.2.2.1 (s2 1).2.2.2.2.2.1 (s2 1).2.2.2.2.2.2.1 (s2 1).2.2.2.2.2.2.2.1 (s2 1).2.2.2.2.2.2.2.2.1 (s2 1).2.2.2.2.2.2.2.2.2.1 (s2 1).2.2.2.2.2.2.2.2.2.2.1 (s2 1).2.2.2.2.2.2.2.2.2.2.2.1 (s2 1).2.2.2.2.2.2.2.2.2.2.2.2.1 (s2 1).2.2.2.2.2.2.2.2.2.2.2.2.2.1 (s2 1).2.2.2.2.2.2.2.2.2.2.2.2.2.2.1 (s2 1).2.2.2.2.2.2.2.2.2.2.2.2.2.2.2
  refine ⟨va_up s2 1 T, ?_, ?_⟩
  · show RS (if 1 = 1 then T else _) a x
    rw [if_pos rfl]
    exact e2
  · unfold f_TR_save f_Slo_keep
    rw [show f_Slo_has 1 = some 1 by decide +kernel, cal_some, show f_TR_requirePlace 1 = some 0 from rfl, cal_some, gd_t rfl, gd_t (by decide), show (1 : Int32).toNatClampNeg = 1 from rfl, e1, cal_some, cal_some, show f_Rec_count n = some n from rfl, cal_some, hr.1.1]
    rfl
theorem t_restore {s3 : Nat → SV} {b : Nat → Int} {y : Int64} (g1 : WF b) (g2 : RS (s3 1) b y) : ∃ v0 v1 v2 v3 v4 v5 v6 v7 v8 v9 v10 v11 v12 v13 v14, f_TR_restore c h k p w n dh dc dt dn on rk H no re x cnt s3 2 1 = some (iI (b 2), v0, v1, v2, v3, v4, v5, v6, v7, v8, v9, v10, v11, v12, v13, v14, y, 0) ∧ RSf v0 v1 v2 v3 v4 v5 v6 v7 v8 v9 v10 v11 v12 v13 v14 y b y := by
  obtain ⟨T, e1, e2⟩ := gives (st := s3) (fl := 2) (s := 1) (by omega) g1 g2 c h k p w n dh dc dt dn on rk H no re x
  obtain ⟨v0, v1, v2, v3, v4, v5, v6, v7, v8, v9, v10, v11, v12, v13, v14, rfl, e3⟩ := RS_parts e1
  refine ⟨v0, v1, v2, v3, v4, v5, v6, v7, v8, v9, v10, v11, v12, v13, v14, ?_, e3⟩
  unfold f_TR_restore
  rw [show f_Slo_has 1 = some 1 by decide +kernel, cal_some, show f_TR_requirePlace 1 = some 0 from rfl, cal_some, show f_Slo_isFilled 2 1 = some 1 by decide +kernel, cal_some, rS_1, cal_some, show f_Slo_giveBack s3 2 c h k p w n dh dc dt dn on rk H no re x 1 = _ from e2, cal_some, show f_Mem_forgetAll cnt = some 0 from rfl, cal_some, show f_Rec_count v5 = some v5 from rfl, cal_some, e3.1.1]
end WRITES
