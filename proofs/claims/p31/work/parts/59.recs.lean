/-! the law's look at the records -/
theorem l_4096 : (4096 : Int32) = iI 4096 := rfl
theorem xor_back (u t : Int32) : (u ^^^ t) ^^^ u = t := by
  rw [Int32.xor_comm u t, Int32.xor_assoc, Int32.xor_self, Int32.xor_zero]
section RECS
variable {c h k p w : Nat → Int32} {n : Int32} {dh dc dt : Nat → Int32} {dn on : Int32} {rk : Nat → Int32} {H no re : Int32} {sx : Int64} {a : Nat → Int} {x : Int64}
theorem r151 (hw : WF a) (hv : INV a) (hr : RSf c h k p w n dh dc dt dn on rk H no re sx a x) {i : Nat} (hi : (i : Int) < a 2) (K : Int32 → Int32 → Int32 → Int32 → Int32 → Option Int32) (X1 X2 X3 : Int32) : f_L_records_151 c h k p w n dn on rk H no re K X1 X2 X3 (iI i) 1 = K X1 X2 X3 1 (iI ((i + 1 : Nat) : Int)) := by
  have b0 := hv.h
  have rr := hw.rcd hi
  have g := hv.rc hi
  unfold f_L_records_151
  rw [gd_t (by decide), t_record1 hw hr (by omega) hi, cal_some, t_about0 hw hr, cal_some, hs_nat, gd_t (by rw [iI_le (by omega) (by omega) (by omega) (by omega)]; omega), t_record2 hw hr (by omega) hi, cal_some, kk_nat, gd_t (by rw [l_6, iI_le (by omega) (by omega) (by omega) (by omega)]; omega), t_record3 hw hr (by omega) hi, cal_some, cd_nat, gd_t (by rw [iI_neg0 (by omega)]; omega), cal_some, gd_t (by rw [l_4096, iI_le (by omega) (by omega) (by omega) (by omega)]; omega), iI_s]
theorem r143 (hw : WF a) (hv : INV a) (hr : RSf c h k p w n dh dc dt dn on rk H no re sx a x) {i : Nat} (hi : (i : Int) < a 2) (K : Int32 → Int32 → Int32 → Int32 → Int32 → Option Int32) (X1 X2 X3 : Int32) {o1 o2 s1 : Int32} (e : (o1 ^^^ o2) = s1) : f_L_records_143 c h k p w n dn on rk H no re K X1 X2 X3 o1 o2 (iI i) s1 = K X1 X2 X3 1 (iI ((i + 1 : Nat) : Int)) := by
  unfold f_L_records_143
  rw [gd_t e, r151 hw hv hr hi]
theorem r69 (hw : WF a) (hv : INV a) (hr : RSf c h k p w n dh dc dt dn on rk H no re sx a x) {i : Nat} (hi : (i : Int) < a 2) (K : Int32 → Int32 → Int32 → Int32 → Int32 → Option Int32) (X1 X3 S0 S1 : Int32) : f_L_records_69 c h k p w n dn on rk H no re K (n9 (a (62 + 5 * i))) (n9 (a (63 + 5 * i))) X1 X3 (iI i) S0 S1 = K X1 (S0 + S1) (X3 + iI (cn (fun j => a (62 + 5 * j) = (i : Int)) (a 2).toNat)) 1 (iI ((i + 1 : Nat) : Int)) := by
  have b2 := hw.b2
  have rr := hw.rcd hi
  have g := hv.rc hi
  unfold f_L_records_69
  rw [bnd_s, t_record5 hw hr (by omega) hi, cal_some, bnd_s]
  by_cases q : 0 ≤ a (62 + 5 * i)
  · have e := g.2.2 q
    have rp := hw.rcd (i := (a (62 + 5 * i)).toNat) (by omega)
    have ec : cd a (a (62 + 5 * i)) = a (59 + 5 * (a (62 + 5 * i)).toNat) := by
      unfold cd
      rw [if_neg (by omega)]
    rw [n9_pos q, if_pos (by rw [l_0, iI_le (by omega) (by omega) (by omega) (by omega)]; exact q), gd_t (by rw [iI_le (by omega) (by omega) (by omega) (by omega)]; omega), t_record3 hw hr (by omega) hi, cal_some, cd_nat, t_record3 hw hr q (by omega), cal_some, ec]
    by_cases q2 : 0 ≤ a (63 + 5 * i)
    · rw [if_pos ((n9_ge (by omega) (by omega)).mpr q2)]
      refine r143 hw hv hr hi K _ _ _ ?_
      rw [n9_pos q2, e, ← chg_x (by omega) q2 (by omega)]
      exact xor_back _ _
    · rw [if_neg (by rw [n9_ge (by omega) (by omega)]; exact q2)]
      refine r143 hw hv hr hi K _ _ _ ?_
      rw [e]
      unfold chg
      rw [if_pos (by omega), Int32.xor_self]
  · rw [if_neg (by rw [n9_ge (by omega) (by omega)]; exact q), gd_t (by rw [n9_neg (by omega)]; rfl), gd_t (by rw [n9_neg (by have := g.2.1 (by omega); omega)]; rfl), r151 hw hv hr hi]
theorem L_records_ok (hw : WF a) (hv : INV a) (hr : RSf c h k p w n dh dc dt dn on rk H no re sx a x) : f_L_records c h k p w n dn on rk H no re = some 1 := by
  have b2 := hw.b2
  unfold f_L_records
  refine seq5 (body := f_L_records_12 c h k p w n dn on rk H no re) (fun i : Nat => iI (cn (fun j => 0 ≤ a (62 + 5 * j)) i)) (fun i : Nat => iI (cn (fun j => 0 ≤ a (63 + 5 * j)) i)) (fun i : Nat => iI (chs a i)) (fun _ => 1) (fun i : Nat => iI i) (a 2).toNat (fun K => ?_) (fun i hi K => ?_) FUEL 0 (Nat.zero_le _) (fuel_lt (by omega))
  · have e1 : cn (fun j => 0 ≤ a (62 + 5 * j)) (a 2).toNat = a 2 - cn (fun i => a (62 + 5 * i) = -1) (a 2).toNat := by
      have g := cn_add (p := fun _ => True) (q := fun j => 0 ≤ a (62 + 5 * j)) (r := fun i => a (62 + 5 * i) = -1) (n := (a 2).toNat) (fun j hj => ⟨fun _ => by have := hw.rcd (i := j) (by omega); omega, fun _ => trivial⟩) (fun j hj => by omega)
      rw [cn_all (fun _ _ => trivial)] at g
      omega
    have e2 : chs a (a 2).toNat = cn (fun j => 0 ≤ a (62 + 5 * j)) (a 2).toNat := by
      rw [chs_is]
      exact cn_cong (fun j hj => by have := hw.rcd (i := j) (by omega); omega)
    unfold f_L_records_12
    rw [t_about2 hw hr, cal_some, if_pos (by rw [iI_le (by omega) (by omega) (by omega) (by omega)]; omega), gd_t (by decide), t_about5 hw hr, cal_some, gd_t (by rw [e1]), t_about6 hw hr, cal_some, gd_t rfl, gd_t (by rw [e2])]
  · have hi2 : (i : Int) < a 2 := by omega
    have rr := hw.rcd hi2
    have q1 := cn_le (fun j => 0 ≤ a (62 + 5 * j)) i
    have q2 := cn_le (fun j => 0 ≤ a (63 + 5 * j)) i
    unfold f_L_records_12 f_L_records_56
    rw [t_about2 hw hr, cal_some, if_neg (by rw [iI_le (by omega) (by omega) (by omega) (by omega)]; omega), gd_t (by decide), t_record0 hw hr (by omega) hi2, cal_some, t_record4 hw hr (by omega) hi2, cal_some, nx_nat, wr_nat, bnd_s, bnd_s, cn, cn, chs]
    simp only [n9_lt (show -2147483648 ≤ a (62 + 5 * i) by omega) (show a (62 + 5 * i) < 2147483648 by omega), n9_lt (show -2147483648 ≤ a (63 + 5 * i) by omega) (show a (63 + 5 * i) < 2147483648 by omega)]
    by_cases c1 : a (62 + 5 * i) < 0
    · rw [if_pos c1, if_neg (show ¬ 0 ≤ a (62 + 5 * i) by omega)]
      by_cases c2 : a (63 + 5 * i) < 0
      · rw [if_pos c2, if_neg (show ¬ 0 ≤ a (63 + 5 * i) by omega), r69 hw hv hr hi2, iI_p0, iI_p0, iI_add]
      · rw [if_neg c2, if_pos (show 0 ≤ a (63 + 5 * i) by omega), r69 hw hv hr hi2, iI_p0, iI_p1, iI_add]
    · rw [if_neg c1, if_pos (show 0 ≤ a (62 + 5 * i) by omega)]
      by_cases c2 : a (63 + 5 * i) < 0
      · rw [if_pos c2, if_neg (show ¬ 0 ≤ a (63 + 5 * i) by omega), r69 hw hv hr hi2, iI_p1, iI_p0, iI_add]
      · rw [if_neg c2, if_pos (show 0 ≤ a (63 + 5 * i) by omega), r69 hw hv hr hi2, iI_p1, iI_p1, iI_add]
end RECS
