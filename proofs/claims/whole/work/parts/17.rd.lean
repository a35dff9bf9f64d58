theorem M_orNone {z : Int} (h1 : -2147483648 ≤ z) (h2 : z < 2147483648) : f_M_orNone (iI z) = some (n9 z) := by
  unfold f_M_orNone
  by_cases c : z < 0
  · rw [if_neg (by rw [l_0, iI_le (by omega) (by omega) (by omega) (by omega)]; omega), n9_neg c]
    rfl
  · rw [if_pos (by rw [l_0, iI_le (by omega) (by omega) (by omega) (by omega)]; omega), n9_pos (by omega)]
theorem M_dev_loop {a : Nat → Int} (hw : WF a) {d : Nat} (hd : (d : Int) < a 1) (w : Int32) {R : Option (Int32 × Int32)} (hR : f_M_device_42 (Q a) (iI d) w (iI (cn (kaP a d) (6 * (a 0).toNat))) (iI (6 * (a 0).toNat : Nat)) (fun _ _ => none) = R) : rl2 (f_M_device_42 (Q a) (iI d) w) FUEL 0 0 = R := by
  have b0 := hw.b0
  have b1 := hw.b1
  have b2 := hw.b2
  refine seq2 (body := f_M_device_42 (Q a) (iI d) w) (fun m : Nat => iI (cn (kaP a d) m)) (fun m : Nat => iI m) (6 * (a 0).toNat) (fun g => ?_) (fun m hm g => ?_) FUEL 0 (Nat.zero_le _) (fuel_lt (by omega))
  · unfold f_M_device_42 at hR ⊢
    have e : 6 * Q a 0 ≤ iI ((6 * (a 0).toNat : Nat) : Int) := by
      rw [Q_at, l_6, iI_mul, iI_le (by omega) (by omega) (by omega) (by omega)]
      omega
    rw [if_pos e] at hR ⊢
    exact hR
  · unfold f_M_device_42 f_M_device_102 f_M_device_103
    have hkey : isK a ((m / 6 : Nat) : Int) ((m % 6 : Nat) : Int) := by omega
    have hz := key_ok hw (show m < 54 by omega)
    have hcd := cd_sm hw hz
    rw [if_neg (by rw [Q_at, l_6, iI_mul]; exact iI_nle (by omega) (by omega) (by omega)), gd_t (m54 (by omega)), mcl (by omega), Q_at, iI_s, bnd_s, bnd_s, iI_p0, iI_p1, cn]
    unfold ok at hz
    by_cases q : a (5 + m) < 0
    · rw [if_pos ((iI_neg0 (by omega)).mpr q), if_neg (fun z => by have := z.1; omega)]
    · rw [if_neg (by rw [iI_neg0 (by omega)]; exact q), M_cd hw ⟨by omega, by omega⟩ (by omega), cal_some, l_6, iI_div (by omega) (by omega) (by omega) (by omega), l_8, M_accepts hw hd (by omega) (by omega) (by omega) (by omega) (by omega) (by omega), cal_some, if_bI]
      by_cases q2 : kaP a d m
      · rw [if_pos q2, if_pos (show accP a d ((m : Int) / 6) (cd a (a (5 + m))) 8 from q2)]
      · rw [if_neg q2, if_neg (show ¬ accP a d ((m : Int) / 6) (cd a (a (5 + m))) 8 from q2)]
/-! the reference's look at a record: two counts, then the answer -/
theorem M_rec_loop2 {a : Nat → Int} (hw : WF a) {i : Nat} (hi : (i : Int) < a 2) (w : Int32) (ch : Int32) [DecidablePred (fun m => inC a i (a (5 + m)))] {R : Option (Int32 × Int32)} (hR : f_M_record_84 (Q a) (iI i) w ch (iI (cn (fun m => inC a i (a (5 + m))) (6 * (a 0).toNat))) (iI (6 * (a 0).toNat : Nat)) (fun _ _ _ => none) = R) : rl3 (f_M_record_84 (Q a) (iI i) w) FUEL ch 0 0 = R := by
  have b0 := hw.b0
  have b1 := hw.b1
  have b2 := hw.b2
  refine seq3 (body := f_M_record_84 (Q a) (iI i) w) (fun _ => ch) (fun m : Nat => iI (cn (fun m => inC a i (a (5 + m))) m)) (fun m : Nat => iI m) (6 * (a 0).toNat) (fun g => ?_) (fun m hm g => ?_) FUEL 0 (Nat.zero_le _) (fuel_lt (by omega))
  · unfold f_M_record_84 at hR ⊢
    have e : 6 * Q a 0 ≤ iI ((6 * (a 0).toNat : Nat) : Int) := by
      rw [Q_at, l_6, iI_mul, iI_le (by omega) (by omega) (by omega) (by omega)]
      omega
    rw [if_pos e] at hR ⊢
    exact hR
  · unfold f_M_record_84 f_M_record_133 f_M_record_134
    have hz := key_ok hw (show m < 54 by omega)
    rw [if_neg (by rw [Q_at, l_6, iI_mul]; exact iI_nle (by omega) (by omega) (by omega)), gd_t (m54 (by omega)), mcl (by omega), Q_at, iI_s, bnd_s, bnd_s, iI_p0, iI_p1, cn]
    by_cases q : a (5 + m) < 0
    · rw [if_pos ((iI_neg0 (by unfold ok at hz; omega)).mpr q), if_neg (inC_neg hw hz q)]
    · rw [if_neg (by rw [iI_neg0 (by unfold ok at hz; omega)]; exact q)]
      rcases M_isInChain hw hz (show (0 : Int) ≤ i by omega) (by omega) with ⟨e1, e2⟩ | ⟨e1, e2⟩
      · rw [e2, cal_some, if_neg (by decide), if_pos e1]
      · rw [e2, cal_some, if_pos rfl, if_neg e1]
theorem M_rec_loop1 {a : Nat → Int} (hw : WF a) {i : Nat} (hi : (i : Int) < a 2) (w : Int32) {R : Option (Int32 × Int32)} (hR : rl3 (f_M_record_84 (Q a) (iI i) w) FUEL (iI (cn (fun j => a (62 + 5 * j) = i) (a 2).toNat)) 0 0 = R) : rl2 (f_M_record_42 (Q a) (iI i) w) FUEL 0 0 = R := by
  have b2 := hw.b2
  refine seq2 (body := f_M_record_42 (Q a) (iI i) w) (fun m : Nat => iI (cn (fun j => a (62 + 5 * j) = i) m)) (fun m : Nat => iI m) (a 2).toNat (fun g => ?_) (fun m hm g => ?_) FUEL 0 (Nat.zero_le _) (fuel_lt (by omega))
  · unfold f_M_record_42
    rw [if_pos (by rw [Q_at, iI_le (by omega) (by omega) (by omega) (by omega)]; omega)]
    exact hR
  · unfold f_M_record_42 f_M_record_70
    have hm2 : (m : Int) < a 2 := by omega
    have hrc := hw.rcd hm2
    rw [if_neg (by rw [Q_at]; exact iI_nle (by omega) (by omega) (by omega)), M_of3 a (by omega), cal_some, iI_s, bnd_s, bnd_s, iI_p0, iI_p1, cn]
    by_cases q : a (62 + 5 * m) = i
    · rw [if_neg (by rw [q]; exact fun z => z rfl), if_pos q]
    · rw [if_pos (by rw [iI_eq (by omega) (by omega) (by omega) (by omega)]; exact q), if_neg q]
