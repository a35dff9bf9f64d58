/-! a tolerance, a setting -/
def tol (a : Nat → Int) (d : Nat) (t : Int) : Nat → Int := va_up a (261 + 4 * d) t
theorem tol_o {a : Nat → Int} {d : Nat} {t : Int} {j : Nat} (e : j ≠ 261 + 4 * d) : tol a d t j = a j := up_ne e
theorem tol_WF {a : Nat → Int} (hw : WF a) {d : Nat} {t : Int} (ht : 0 ≤ t ∧ t ≤ 3) : WF (tol a d t) := by
  have b1 := hw.b1
  have b2 := hw.b2
  have e0 : tol a d t 0 = a 0 := tol_o (by omega)
  have e1 : tol a d t 1 = a 1 := tol_o (by omega)
  have e2 : tol a d t 2 = a 2 := tol_o (by omega)
  refine ⟨by rw [e0]; exact hw.b0, by rw [e1]; exact hw.b1, by rw [e2]; exact hw.b2, by rw [tol_o (by omega)]; exact hw.b3, by rw [tol_o (by omega)]; exact hw.b4, fun m hm => ?_, fun i hi => ?_, fun e he => ?_, fun e he => ?_⟩
  · rw [e2, e0, tol_o (by omega)]
    exact hw.key hm
  · rw [e2] at hi
    rw [tol_o (by omega), tol_o (by omega), tol_o (by omega), tol_o (by omega), tol_o (by omega)]
    exact hw.rcd hi
  · rw [e1] at he
    rw [tol_o (by omega), tol_o (by omega)]
    by_cases q : e = d
    · rw [q, show tol a d t (261 + 4 * d) = t from up_eq]
      rw [q] at he
      have := hw.dev he
      omega
    · rw [tol_o (by omega)]
      exact hw.dev he
  · rw [e1, tol_o (by omega)]
    exact hw.on he
theorem RS_tol {c h k p w : Nat → Int32} {n : Int32} {dh dc dt : Nat → Int32} {dn on : Int32} {rk : Nat → Int32} {H no re : Int32} {sx : Int64} {a : Nat → Int} {x : Int64} (hw : WF a) (d : Nat) (t : Int) (hr : RSf c h k p w n dh dc dt dn on rk H no re sx a x) : RSf c h k p w n dh dc (upd dt d (iI t)) dn on rk H no re sx (tol a d t) x := by
  have b1 := hw.b1
  have b2 := hw.b2
  obtain ⟨h1, h2, h3, h4, h5, h6, h7⟩ := hr
  refine ⟨RRec_c hw (tol_o (by omega)) (fun j _ _ => tol_o (by omega)) h1, ⟨by rw [tol_o (by omega)]; exact h2.1, by rw [onm_c (fun e _ => tol_o (by omega))]; exact h2.2.1, fun e he => ?_⟩, RKey_c (fun j _ _ => tol_o (by omega)) h3, by rw [tol_o (by omega)]; exact h4, by rw [tol_o (by omega)]; exact h5, by rw [tol_o (by omega)]; exact h6, h7⟩
  rw [tol_o (by omega)] at he
  rw [tol_o (by omega), tol_o (by omega)]
  have g := h2.2.2 e he
  by_cases q : e = d
  · rw [q, show tol a d t (261 + 4 * d) = t from up_eq, ud_eq]
    rw [q] at g
    exact ⟨g.1, g.2.1, rfl⟩
  · rw [tol_o (by omega), ud_ne q]
    exact g
theorem Dev_changeTolerance {dh dc dt : Nat → Int32} {n on : Int32} {a : Nat → Int} (hw : WF a) (hr : RDev dh dc dt n on a) {d : Nat} (hd : (d : Int) < a 1) (v : Int32) : f_Dev_changeTolerance dt n (iI d) v = some (iI (a (261 + 4 * d)), upd dt d v) := by
  have b1 := hw.b1
  unfold f_Dev_changeTolerance f_Dev_toleranceOf
  rw [hr.1, Dev_has b1.1 b1.2 (by omega), cal_some, if_bI, if_pos ⟨by omega, hd⟩, gd_t, cal_some, cal_some, if_bI, if_pos ⟨by omega, hd⟩, gd_t, kcl (by omega), (hr.2.2 d hd).2.2]
  all_goals
    simp (disch := omega) only [l_0, l_1, l_2, l_3, l_4, l_5, l_6, l_7, l_8, l_9, l_10, l_11, l_12, l_13, l_14, l_16, l_31, l_40, l_48, l_54, l_58, l_59, l_60, l_99, l_100, l_107, l_110, l_115, l_120, l_255, l_259, l_283, l_1000, l_4095, iI_add, iI_sub, iI_mul, iI_neg, iI_lt, iI_le, iI_eq, iI_cl]
    omega
theorem Dev_houseOf {dh dc dt : Nat → Int32} {n on : Int32} {a : Nat → Int} (hw : WF a) (hr : RDev dh dc dt n on a) {d : Nat} (hd : (d : Int) < a 1) : f_Dev_houseOf dh n (iI d) = some (iI (a (259 + 4 * d))) := by
  have b1 := hw.b1
  unfold f_Dev_houseOf
  rw [hr.1, Dev_has b1.1 b1.2 (by omega), cal_some, if_bI, if_pos ⟨by omega, hd⟩, gd_t, kcl (by omega), (hr.2.2 d hd).1]
  simp (disch := omega) only [l_0, l_1, l_2, l_3, l_4, l_5, l_6, l_7, l_8, l_9, l_10, l_11, l_12, l_13, l_14, l_16, l_31, l_40, l_48, l_54, l_58, l_59, l_60, l_99, l_100, l_107, l_110, l_115, l_120, l_255, l_259, l_283, l_1000, l_4095, iI_add, iI_sub, iI_mul, iI_neg, iI_lt, iI_le, iI_eq, iI_cl]
  omega
theorem Dev_codeOf {dh dc dt : Nat → Int32} {n on : Int32} {a : Nat → Int} (hw : WF a) (hr : RDev dh dc dt n on a) {d : Nat} (hd : (d : Int) < a 1) : f_Dev_codeOf dc n (iI d) = some (iI (a (260 + 4 * d))) := by
  have b1 := hw.b1
  unfold f_Dev_codeOf
  rw [hr.1, Dev_has b1.1 b1.2 (by omega), cal_some, if_bI, if_pos ⟨by omega, hd⟩, gd_t, kcl (by omega), (hr.2.2 d hd).2.1]
  simp (disch := omega) only [l_0, l_1, l_2, l_3, l_4, l_5, l_6, l_7, l_8, l_9, l_10, l_11, l_12, l_13, l_14, l_16, l_31, l_40, l_48, l_54, l_58, l_59, l_60, l_99, l_100, l_107, l_110, l_115, l_120, l_255, l_259, l_283, l_1000, l_4095, iI_add, iI_sub, iI_mul, iI_neg, iI_lt, iI_le, iI_eq, iI_cl]
  omega
theorem Dev_toleranceOf {dh dc dt : Nat → Int32} {n on : Int32} {a : Nat → Int} (hw : WF a) (hr : RDev dh dc dt n on a) {d : Nat} (hd : (d : Int) < a 1) : f_Dev_toleranceOf dt n (iI d) = some (iI (a (261 + 4 * d))) := by
  have b1 := hw.b1
  unfold f_Dev_toleranceOf
  rw [hr.1, Dev_has b1.1 b1.2 (by omega), cal_some, if_bI, if_pos ⟨by omega, hd⟩, gd_t, kcl (by omega), (hr.2.2 d hd).2.2]
  simp (disch := omega) only [l_0, l_1, l_2, l_3, l_4, l_5, l_6, l_7, l_8, l_9, l_10, l_11, l_12, l_13, l_14, l_16, l_31, l_40, l_48, l_54, l_58, l_59, l_60, l_99, l_100, l_107, l_110, l_115, l_120, l_255, l_259, l_283, l_1000, l_4095, iI_add, iI_sub, iI_mul, iI_neg, iI_lt, iI_le, iI_eq, iI_cl]
  omega
theorem onm_bit {a : Nat → Int} (hw : WF a) {d : Nat} (hd : d < 6) : (iI (onm a) >>> (iI (d : Int) &&& 31)) &&& 1 = iI (a (262 + 4 * d)) := by
  obtain ⟨n0, h0, e0⟩ := bit_nat (hw.on (d := 0) (by omega)).1
  obtain ⟨n1, h1, e1⟩ := bit_nat (hw.on (d := 1) (by omega)).1
  obtain ⟨n2, h2, e2⟩ := bit_nat (hw.on (d := 2) (by omega)).1
  obtain ⟨n3, h3, e3⟩ := bit_nat (hw.on (d := 3) (by omega)).1
  obtain ⟨n4, h4, e4⟩ := bit_nat (hw.on (d := 4) (by omega)).1
  obtain ⟨n5, h5, e5⟩ := bit_nat (hw.on (d := 5) (by omega)).1
  rw [onm_of e0 e1 e2 e3 e4 e5]
  have g := dig6 h0 h1 h2 h3 h4 h5 rfl
  rw [iI_nat, iI_nat, sh_b d hd _ g.2.2.2.2.2.2, ← iI_nat]
  rcases (show d = 0 ∨ d = 1 ∨ d = 2 ∨ d = 3 ∨ d = 4 ∨ d = 5 by omega) with q | q | q | q | q | q
  · rw [q, e0, show 2 ^ 0 = 1 from rfl, Nat.div_one, g.1]
  · rw [q, e1, show 2 ^ 1 = 2 from rfl, g.2.1]
  · rw [q, e2, show 2 ^ 2 = 4 from rfl, g.2.2.1]
  · rw [q, e3, show 2 ^ 3 = 8 from rfl, g.2.2.2.1]
  · rw [q, e4, show 2 ^ 4 = 16 from rfl, g.2.2.2.2.1]
  · rw [q, e5, show 2 ^ 5 = 32 from rfl, g.2.2.2.2.2.1]
theorem Dev_isOn {dh dc dt : Nat → Int32} {n on : Int32} {a : Nat → Int} (hw : WF a) (hr : RDev dh dc dt n on a) {d : Nat} (hd : (d : Int) < a 1) : f_Dev_isOn n on (iI d) = some (iI (a (262 + 4 * d))) := by
  have b1 := hw.b1
  have ho := hw.on (d := d) (by omega)
  unfold f_Dev_isOn
  rw [hr.1, hr.2.1, Dev_has b1.1 b1.2 (by omega), cal_some, if_bI, if_pos ⟨by omega, hd⟩, onm_bit hw (by omega)]
  by_cases q : a (262 + 4 * d) = 1
  · rw [if_neg (by rw [q]; exact fun z => z rfl), q]
    rfl
  · rw [if_pos (by rw [l_1, iI_eq (by omega) (by omega) (by omega) (by omega)]; exact q), show a (262 + 4 * d) = 0 by omega]
    rfl
/-- noise (0) or reach (1) -/
def stg (a : Nat → Int) (w v : Int) : Nat → Int := va_up a (3 + w.toNat) v
theorem stg_o {a : Nat → Int} {w v : Int} {j : Nat} (e : j ≠ 3 + w.toNat) : stg a w v j = a j := up_ne e
theorem stg_WF {a : Nat → Int} (hw : WF a) {w v : Int} (hs : isS w v) : WF (stg a w v) := by
  have o : ∀ {j : Nat}, j ≠ 3 + w.toNat → stg a w v j = a j := fun e => stg_o e
  refine ⟨by rw [o (by omega)]; exact hw.b0, by rw [o (by omega)]; exact hw.b1, by rw [o (by omega)]; exact hw.b2, ?_, ?_, fun m hm => ?_, fun i hi => ?_, fun d hd => ?_, fun d hd => ?_⟩
  · rcases hs with q | q
    · rw [show stg a w v 3 = v from if_pos (by omega)]; omega
    · rw [o (by omega)]; exact hw.b3
  · rcases hs with q | q
    · rw [o (by omega)]; exact hw.b4
    · rw [show stg a w v 4 = v from if_pos (by omega)]; omega
  · rw [o (by omega), o (by omega), o (by omega)]
    exact hw.key hm
  · rw [o (by omega)] at hi
    rw [o (by omega), o (by omega), o (by omega), o (by omega), o (by omega)]
    exact hw.rcd hi
  · rw [o (by omega)] at hd
    rw [o (by omega), o (by omega), o (by omega)]
    exact hw.dev hd
  · rw [o (by omega), o (by omega)]
    exact hw.on hd
theorem RS_stg0 {c h k p w : Nat → Int32} {n : Int32} {dh dc dt : Nat → Int32} {dn on : Int32} {rk : Nat → Int32} {H no re : Int32} {sx : Int64} {a : Nat → Int} {x : Int64} (hw : WF a) (v : Int) (hr : RSf c h k p w n dh dc dt dn on rk H no re sx a x) : RSf c h k p w n dh dc dt dn on rk H (iI v) re sx (stg a 0 v) x := by
  have o : ∀ {j : Nat}, j ≠ 3 → stg a 0 v j = a j := fun e => stg_o e
  obtain ⟨h1, h2, h3, h4, h5, h6, h7⟩ := hr
  exact ⟨RRec_c hw (o (by omega)) (fun j _ _ => o (by omega)) h1, RDev_c hw (o (by omega)) (fun j _ _ => o (by omega)) h2, RKey_c (fun j _ _ => o (by omega)) h3, by rw [o (by omega)]; exact h4, by rw [show stg a 0 v 3 = v from up_eq (f := a) (k := 3) (v := v)], by rw [o (by omega)]; exact h6, h7⟩
theorem RS_stg1 {c h k p w : Nat → Int32} {n : Int32} {dh dc dt : Nat → Int32} {dn on : Int32} {rk : Nat → Int32} {H no re : Int32} {sx : Int64} {a : Nat → Int} {x : Int64} (hw : WF a) (v : Int) (hr : RSf c h k p w n dh dc dt dn on rk H no re sx a x) : RSf c h k p w n dh dc dt dn on rk H no (iI v) sx (stg a 1 v) x := by
  have o : ∀ {j : Nat}, j ≠ 4 → stg a 1 v j = a j := fun e => stg_o e
  obtain ⟨h1, h2, h3, h4, h5, h6, h7⟩ := hr
  exact ⟨RRec_c hw (o (by omega)) (fun j _ _ => o (by omega)) h1, RDev_c hw (o (by omega)) (fun j _ _ => o (by omega)) h2, RKey_c (fun j _ _ => o (by omega)) h3, by rw [o (by omega)]; exact h4, by rw [o (by omega)]; exact h5, by rw [show stg a 1 v 4 = v from up_eq (f := a) (k := 4) (v := v)], h7⟩
theorem Str_cs0 (no re v : Int32) : f_Str_changeSetting no re (iI 0) v = some (no, v, re) := by
  unfold f_Str_changeSetting f_Str_changeSetting_15
  rw [if_neg (fun z => z rfl), if_neg (fun z => z rfl)]
theorem Str_cs1 (no re v : Int32) : f_Str_changeSetting no re (iI 1) v = some (re, no, v) := by
  unfold f_Str_changeSetting f_Str_changeSetting_15
  rw [if_pos (by decide), if_pos (by decide)]
