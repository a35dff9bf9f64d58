/-! the best teacher -/
def bnj (a : Nat → Int) (x : Int64) (to : Int) (d m : Nat) : Int := if a (5 + m) < 0 then 13 else ap (lrn a x ((m / 6 : Nat) : Int) (a (5 + m)) to) (a (260 + 4 * d))
def bst (a : Nat → Int) (x : Int64) (to : Int) (d : Nat) : Nat → Int × Int
  | 0 => (-9, 13)
  | m + 1 => if bnj a x to d m < (bst a x to d m).2 then (10 * ((m / 6 : Nat) : Int) + ((m % 6 : Nat) : Int), bnj a x to d m) else bst a x to d m
theorem bnj_b (a : Nat → Int) (x : Int64) (to : Int) (d m : Nat) : 0 ≤ bnj a x to d m ∧ bnj a x to d m ≤ 13 := by
  unfold bnj
  have := ap_le (lrn a x ((m / 6 : Nat) : Int) (a (5 + m)) to) (a (260 + 4 * d))
  split <;> omega
theorem bst_b (a : Nat → Int) (x : Int64) (to : Int) (d : Nat) : ∀ m, 0 ≤ (bst a x to d m).2 ∧ (bst a x to d m).2 ≤ 13 := by
  intro m
  induction m with
  | zero => rw [bst]; exact ⟨by decide, by decide⟩
  | succ m ih =>
    have := bnj_b a x to d m
    rw [bst]
    split
    · exact this
    · exact ih
theorem M_best_loop {a : Nat → Int} (hw : WF a) (x : Int64) {d : Nat} (hd : (d : Int) < a 1) {to : Int} (ht : 0 ≤ to ∧ to < a 0) : rl4 (f_M_bestTeacher_37 (Q a) (iI to) (iI d)) FUEL (iI (-9)) 13 0 x = some (iI (bst a x to d (6 * (a 0).toNat)).1, x, 0) := by
  have b0 := hw.b0
  have b1 := hw.b1
  have b2 := hw.b2
  have hdv := hw.dev hd
  refine seq4 (body := f_M_bestTeacher_37 (Q a) (iI to) (iI d)) (fun m => iI (bst a x to d m).1) (fun m => iI (bst a x to d m).2) (fun m : Nat => iI m) (fun _ => x) (6 * (a 0).toNat) (fun g => ?_) (fun m hm g => ?_) FUEL 0 (Nat.zero_le _) (fuel_lt (by omega))
  · unfold f_M_bestTeacher_37
    rw [if_pos (by rw [Q_at, l_6, iI_mul, iI_le (by omega) (by omega) (by omega) (by omega)]; omega)]
  · have hkey : isK a ((m / 6 : Nat) : Int) ((m % 6 : Nat) : Int) := by omega
    have hki : ki ((m / 6 : Nat) : Int) ((m % 6 : Nat) : Int) = m := by unfold ki; omega
    have hkr : kr a ((m / 6 : Nat) : Int) ((m % 6 : Nat) : Int) = a (5 + m) := by unfold kr; rw [hki]
    have hz := key_ok hw (show m < 54 by omega)
    have hb := bst_b a x to d m
    have hn := bnj_b a x to d m
    have dv : iI (m : Int) / 6 = iI ((m / 6 : Nat) : Int) := by rw [l_6, iI_div (by omega) (by omega) (by omega) (by omega)]; rfl
    have rm : iI (m : Int) - iI (m : Int) / 6 * 6 = iI ((m % 6 : Nat) : Int) := by rw [l_6, iI_rem (by omega) (by omega) (by omega) (by omega)]; rfl
    have go : ∀ g', f_M_bestTeacher_92 g' (iI (bst a x to d m).1) (iI (bst a x to d m).2) (iI m) (iI (bnj a x to d m)) x = g' (iI (bst a x to d (m + 1)).1) (iI (bst a x to d (m + 1)).2) (iI ((m + 1 : Nat) : Int)) x := by
      intro g'
      unfold f_M_bestTeacher_92 f_M_bestTeacher_119 f_M_bestTeacher_134
      rw [iI_s, bst]
      by_cases q : bnj a x to d m < (bst a x to d m).2
      · rw [if_neg (by rw [iI_le (by omega) (by omega) (by omega) (by omega)]; omega), if_neg (by rw [iI_le (by omega) (by omega) (by omega) (by omega)]; omega), if_pos q, rm, dv, l_10, iI_mul, iI_add]
      · rw [if_pos (by rw [iI_le (by omega) (by omega) (by omega) (by omega)]; omega), if_pos (by rw [iI_le (by omega) (by omega) (by omega) (by omega)]; omega), if_neg q]
    unfold f_M_bestTeacher_37
    rw [if_neg (by rw [Q_at, l_6, iI_mul]; exact iI_nle (by omega) (by omega) (by omega)), gd_t (m54 (by omega)), mcl (by omega), Q_at]
    by_cases q : a (5 + m) < 0
    · have e13 : bnj a x to d m = 13 := if_pos q
      rw [if_neg (by rw [l_0, iI_le (by omega) (by omega) (by unfold ok at hz; omega) (by unfold ok at hz; omega)]; omega), l_13, ← e13]
      exact go g
    · have en : bnj a x to d m = ap (lrn a x ((m / 6 : Nat) : Int) (a (5 + m)) to) (a (260 + 4 * d)) := if_neg q
      have hl := lrn_b hw x (h := ((m / 6 : Nat) : Int)) (to := to) hz (by omega)
      rw [if_pos (by rw [l_0, iI_le (by omega) (by omega) (by unfold ok at hz; omega) (by unfold ok at hz; omega)]; omega), rm, dv, M_learned hw x hkey ht (by rw [hkr]; omega), cal_some, hkr, M_ofD1 a (by omega), cal_some, M_apart hl.1 hl.2 hdv.2.1.1 hdv.2.1.2, cal_some, ← en]
      exact go g
theorem Str_teacher {c h9 k9 p w rk : Nat → Int32} {n : Int32} {a : Nat → Int} (hw : WF a) (hr : RRec c h9 k9 p w n a) (hk : RKey rk a) (x : Int64) {d : Nat} (hd : (d : Int) < a 1) {to : Int} (ht : 0 ≤ to ∧ to < a 0) : f_Str_teacherNearestTo c n rk (iI (a 0)) (iI (a 3)) x (iI (a (260 + 4 * d))) (iI to) = some (iI (bst a x to d (6 * (a 0).toNat)).1) := by
  have b0 := hw.b0
  have b1 := hw.b1
  have hdv := hw.dev hd
  unfold f_Str_teacherNearestTo
  rw [bnd_s]
  refine seq3 (body := f_Str_teacherNearestTo_10 c n rk (iI (a 0)) (iI (a 3)) x (iI (a (260 + 4 * d))) (iI to)) (fun j => iI (bst a x to d (6 * j)).1) (fun j => iI (bst a x to d (6 * j)).2) (fun j : Nat => iI j) (a 0).toNat (fun f => ?_) (fun j hj f => ?_) FUEL 0 (Nat.zero_le _) (fuel_lt (by omega))
  · unfold f_Str_teacherNearestTo_10
    rw [if_pos ((iI_le (by omega) (by omega) (by omega) (by omega)).mpr (by omega))]
  · unfold f_Str_teacherNearestTo_10
    rw [if_neg (iI_nle (by omega) (by omega) (by omega))]
    refine seq4 (body := f_Str_teacherNearestTo_22 c n rk (iI (a 0)) (iI (a 3)) x (iI (a (260 + 4 * d))) (iI to) f) (fun k => iI (bst a x to d (6 * j + k)).1) (fun k => iI (bst a x to d (6 * j + k)).2) (fun _ => iI j) (fun k : Nat => iI k) 6 (fun g => ?_) (fun m hm g => ?_) FUEL 0 (Nat.zero_le _) (fuel_lt (by omega))
    · unfold f_Str_teacherNearestTo_22
      rw [if_pos (by rw [l_6]; exact (iI_le (by omega) (by omega) (by omega) (by omega)).mpr (by omega)), iI_s]
      rfl
    · have hkey : isK a (j : Int) (m : Int) := by omega
      have hz := kr_ok hw hkey
      have ek : kr a (j : Int) (m : Int) = a (5 + (6 * j + m)) := by unfold kr; rw [show ki (j : Int) (m : Int) = 6 * j + m by unfold ki; omega]
      have hb := bst_b a x to d (6 * j + m)
      have hn := bnj_b a x to d (6 * j + m)
      unfold f_Str_teacherNearestTo_22 f_Str_teacherNearestTo_75
      rw [if_neg (by rw [l_6]; exact iI_nle (by omega) (by omega) (by omega)), Str_codeIfTaught hw hr hk x hkey ht, cal_some, iI_s, show 6 * j + (m + 1) = 6 * j + m + 1 by omega, bst]
      by_cases q : a (5 + (6 * j + m)) < 0
      · have e13 : bnj a x to d (6 * j + m) = 13 := if_pos q
        rw [if_pos (show kr a (j : Int) (m : Int) < 0 by omega), if_pos (by rfl), if_neg (by omega)]
      · have en : bnj a x to d (6 * j + m) = ap (lrn a x (j : Int) (kr a j m) to) (a (260 + 4 * d)) := by
          rw [bnj, if_neg q, show (6 * j + m) / 6 = j by omega, ek]
        have hl := lrn_b hw x (h := (j : Int)) (to := to) hz (by omega)
        rw [if_neg (show ¬ kr a (j : Int) (m : Int) < 0 by omega)]
        generalize lrn a x (j : Int) (kr a (j : Int) (m : Int)) to = L at hl en ⊢
        rw [if_neg (by rw [l_9, iI_neg, iI_eq (by omega) (by omega) (by omega) (by omega)]; omega), TR_apart hl.1 hl.2 hdv.2.1.1 hdv.2.1.2, cal_some, cal_some, ← en]
        by_cases r : bnj a x to d (6 * j + m) < (bst a x to d (6 * j + m)).2
        · rw [if_neg (by rw [iI_le (by omega) (by omega) (by omega) (by omega)]; omega), if_pos r, bnd_s, l_10, iI_mul, iI_add, show (6 * j + m) / 6 = j by omega, show (6 * j + m) % 6 = m by omega]
        · rw [if_pos (by rw [iI_le (by omega) (by omega) (by omega) (by omega)]; omega), if_neg r]
/-! the least tolerance -/
def ltn (a : Nat → Int) (d m : Nat) : Int := if 0 ≤ a (5 + m) ∧ cd a (rt a (a (5 + m))) = a (260 + 4 * d) then ap (cd a (a (5 + m))) (a (260 + 4 * d)) else 0
def ltm (a : Nat → Int) (d : Nat) : Nat → Int
  | 0 => 0
  | m + 1 => if ltm a d m < ltn a d m then ltn a d m else ltm a d m
theorem ltn_b (a : Nat → Int) (d m : Nat) : 0 ≤ ltn a d m ∧ ltn a d m ≤ 12 := by
  unfold ltn
  have := ap_le (cd a (a (5 + m))) (a (260 + 4 * d))
  split <;> omega
theorem ltm_b (a : Nat → Int) (d : Nat) : ∀ m, 0 ≤ ltm a d m ∧ ltm a d m ≤ 12 := by
  intro m
  induction m with
  | zero => rw [ltm]; exact ⟨by decide, by decide⟩
  | succ m ih =>
    have := ltn_b a d m
    rw [ltm]
    split <;> omega
theorem ltm_ext {a : Nat → Int} (hw : WF a) (d : Nat) : ∀ m, 6 * (a 0).toNat + m ≤ 54 → ltm a d (6 * (a 0).toNat + m) = ltm a d (6 * (a 0).toNat) := by
  have b0 := hw.b0
  intro m
  induction m with
  | zero => intro _; rfl
  | succ m ih =>
    intro h
    have e : a (5 + (6 * (a 0).toNat + m)) = -1 := (hw.key (k := 6 * (a 0).toNat + m) (by omega)).2.2 (by omega)
    have hb := ltm_b a d (6 * (a 0).toNat + m)
    rw [show 6 * (a 0).toNat + (m + 1) = 6 * (a 0).toNat + m + 1 by omega, ltm, show ltn a d (6 * (a 0).toNat + m) = 0 from if_neg (by omega), if_neg (by omega)]
    exact ih (by omega)
theorem rt_cd {a : Nat → Int} (hw : WF a) {z : Int} (hz : ok a z) (h0 : 0 ≤ z) : ok a (rt a z) ∧ 0 ≤ rt a z ∧ 0 ≤ cd a (rt a z) ∧ cd a (rt a z) < 4096 := by
  have h1 := rt_ok hw hz h0
  have h2 : ok a (rt a z) := ⟨by omega, h1.2⟩
  have h3 := cd_sm hw h2
  exact ⟨h2, h1.1, by omega, by omega⟩
theorem Str_farthest {c h9 k9 p w rk : Nat → Int32} {n : Int32} {a : Nat → Int} (hw : WF a) (hr : RRec c h9 k9 p w n a) (hk : RKey rk a) {d : Nat} (hd : (d : Int) < a 1) : f_Str_farthestFrom c p n rk (iI (a (260 + 4 * d))) = some (iI (ltm a d (6 * (a 0).toNat))) := by
  have b0 := hw.b0
  have hdv := hw.dev hd
  rw [← ltm_ext hw d (54 - 6 * (a 0).toNat) (by omega), show 6 * (a 0).toNat + (54 - 6 * (a 0).toNat) = 54 by omega]
  unfold f_Str_farthestFrom
  refine seq2 (body := f_Str_farthestFrom_14 c p n rk (iI (a (260 + 4 * d)))) (fun m => iI (ltm a d m)) (fun m : Nat => iI m) 54 (fun g => ?_) (fun m hm g => ?_) FUEL 0 (Nat.zero_le _) (fuel_lt (by omega))
  · unfold f_Str_farthestFrom_14
    rw [if_pos (by rw [l_54]; exact (iI_le (by omega) (by omega) (by omega) (by omega)).mpr (by omega))]
  · have hz := key_ok hw hm
    have hb := ltm_b a d m
    unfold f_Str_farthestFrom_14 f_Str_farthestFrom_72
    rw [if_neg (by rw [l_54]; exact iI_nle (by omega) (by omega) (by omega)), gd_t (k54 hm), bnd_s, kcl (by omega), hk m hm, iI_s, ltm]
    by_cases q : 0 ≤ a (5 + m)
    · have hrt := rt_cd hw hz q
      have hcd := cd_sm hw hz
      rw [if_neg (by rw [l_9, iI_neg, n9_eq (by have := hw.b2; unfold ok at hz; omega)]; omega), Rec_rootOf hw hr hz q, cal_some, Rec_codeOf hw hr hrt.1, cal_some]
      by_cases r : cd a (rt a (a (5 + m))) = a (260 + 4 * d)
      · have en : ltn a d m = ap (cd a (a (5 + m))) (a (260 + 4 * d)) := if_pos ⟨q, r⟩
        have hn := ltn_b a d m
        rw [if_neg (by rw [r]; exact fun z => z rfl), Rec_codeOf hw hr hz, cal_some, TR_apart (by omega) (by omega) hdv.2.1.1 hdv.2.1.2, cal_some, bnd_s, ← en]
        unfold imax
        by_cases s : ltm a d m < ltn a d m
        · rw [if_pos ((iI_lt (by omega) (by omega) (by omega) (by omega)).mpr s), if_pos s]
        · rw [if_neg (fun z => s ((iI_lt (by omega) (by omega) (by omega) (by omega)).mp z)), if_neg s]
      · have en : ltn a d m = 0 := if_neg (fun z => r z.2)
        rw [if_pos (by rw [iI_eq (by omega) (by omega) (by omega) (by omega)]; exact r), en, if_neg (by omega)]
    · have en : ltn a d m = 0 := if_neg (fun z => q z.1)
      rw [if_pos (by rw [l_9, iI_neg, n9_eq (by have := hw.b2; unfold ok at hz; omega)]; omega), en, if_neg (by omega)]
theorem M_least_loop {a : Nat → Int} (hw : WF a) {d : Nat} (hd : (d : Int) < a 1) : rl2 (f_M_leastTolerance_23 (Q a) (iI d)) FUEL 0 0 = some (iI (if 3 < ltm a d (6 * (a 0).toNat) then -9 else ltm a d (6 * (a 0).toNat)), 0) := by
  have b0 := hw.b0
  have b1 := hw.b1
  have b2 := hw.b2
  have hdv := hw.dev hd
  refine seq2 (body := f_M_leastTolerance_23 (Q a) (iI d)) (fun m => iI (ltm a d m)) (fun m : Nat => iI m) (6 * (a 0).toNat) (fun g => ?_) (fun m hm g => ?_) FUEL 0 (Nat.zero_le _) (fuel_lt (by omega))
  · have hb := ltm_b a d (6 * (a 0).toNat)
    unfold f_M_leastTolerance_23
    rw [if_pos (by rw [Q_at, l_6, iI_mul, iI_le (by omega) (by omega) (by omega) (by omega)]; omega)]
    by_cases q : 3 < ltm a d (6 * (a 0).toNat)
    · rw [if_neg (by rw [l_3, iI_le (by omega) (by omega) (by omega) (by omega)]; omega), if_pos q]
      rfl
    · rw [if_pos (by rw [l_3, iI_le (by omega) (by omega) (by omega) (by omega)]; omega), if_neg q]
  · have hz := key_ok hw (show m < 54 by omega)
    have hb := ltm_b a d m
    have hn := ltn_b a d m
    have go : f_M_leastTolerance_91 g (iI (ltm a d m)) (iI m) (iI (ltn a d m)) = g (iI (ltm a d (m + 1))) (iI ((m + 1 : Nat) : Int)) := by
      unfold f_M_leastTolerance_91 f_M_leastTolerance_105
      rw [iI_s, ltm]
      by_cases q : ltm a d m < ltn a d m
      · rw [if_neg (by rw [iI_le (by omega) (by omega) (by omega) (by omega)]; omega), if_pos q]
      · rw [if_pos (by rw [iI_le (by omega) (by omega) (by omega) (by omega)]; omega), if_neg q]
    unfold f_M_leastTolerance_23 f_M_leastTolerance_90
    rw [if_neg (by rw [Q_at, l_6, iI_mul]; exact iI_nle (by omega) (by omega) (by omega)), gd_t (m54 (by omega)), mcl (by omega), Q_at, bnd_s]
    by_cases q : 0 ≤ a (5 + m)
    · have hrt := rt_cd hw hz q
      have hcd := cd_sm hw hz
      rw [if_neg (by rw [iI_neg0 (by unfold ok at hz; omega)]; omega), M_rootOf hw hz q, cal_some, M_cd hw hrt.1 hrt.2.1, cal_some, M_ofD1 a (by omega), cal_some]
      by_cases r : cd a (rt a (a (5 + m))) = a (260 + 4 * d)
      · have en : ltn a d m = ap (cd a (a (5 + m))) (a (260 + 4 * d)) := if_pos ⟨q, r⟩
        rw [if_neg (by rw [r]; exact fun z => z rfl), M_cd hw hz q, cal_some, cal_some, M_apart (by omega) (by omega) hdv.2.1.1 hdv.2.1.2, cal_some, ← en]
        exact go
      · have en : ltn a d m = 0 := if_neg (fun z => r z.2)
        rw [if_pos (by rw [iI_eq (by omega) (by omega) (by omega) (by omega)]; exact r), l_0, ← en]
        exact go
    · have en : ltn a d m = 0 := if_neg (fun z => q z.1)
      rw [if_pos ((iI_neg0 (by unfold ok at hz; omega)).mpr (by omega)), l_0, ← en]
      exact go
/-! simulations -/
def smx (a : Nat → Int) (s : Int64) (c : Int) (n : Nat) : Nat → Int64
  | 0 => s
  | t + 1 => (hnd a (smx a s c n t) c n).2
def sma (a : Nat → Int) (s : Int64) (c : Int) (n t : Nat) : Int := (hnd a (smx a s c n t) c n).1
def sms (a : Nat → Int) (s : Int64) (c : Int) (n : Nat) : Nat → Int
  | 0 => 0
  | t + 1 => sms a s c n t + (if sma a s c n t = c then 1 else 0)
def smp (a : Nat → Int) (s : Int64) (c : Int) (n : Nat) : Nat → Int
  | 0 => 0
  | t + 1 => smp a s c n t + ap (sma a s c n t) c
theorem sm_b (a : Nat → Int) (s : Int64) (c : Int) (n : Nat) : ∀ t, 0 ≤ sms a s c n t ∧ sms a s c n t ≤ t ∧ 0 ≤ smp a s c n t ∧ smp a s c n t ≤ 12 * t := by
  intro t
  induction t with
  | zero => rw [sms, smp]; omega
  | succ t ih =>
    have := ap_le (sma a s c n t) c
    rw [sms, smp]
    split <;> omega
theorem M_sim_loop {a : Nat → Int} (hw : WF a) (x s : Int64) {c h m : Int} (hc : 0 ≤ c ∧ c < 4096) (hh : 0 ≤ h ∧ h < a 0) (hm : 1 ≤ m ∧ m ≤ 60) : rl4 (f_M_simulate_92 (Q a) x (iI h) (iI m) (iI c)) FUEL 0 0 0 s = some (iI (1000 * sms a s c (a 0 - 1 - h).toNat m.toNat + smp a s c (a 0 - 1 - h).toNat m.toNat), x, 0) := by
  have b0 := hw.b0
  refine seq4 (body := f_M_simulate_92 (Q a) x (iI h) (iI m) (iI c)) (fun t => iI (sms a s c (a 0 - 1 - h).toNat t)) (fun t => iI (smp a s c (a 0 - 1 - h).toNat t)) (fun t : Nat => iI t) (fun t => smx a s c (a 0 - 1 - h).toNat t) m.toNat (fun g => ?_) (fun t ht g => ?_) FUEL 0 (Nat.zero_le _) (fuel_lt (by omega))
  · unfold f_M_simulate_92
    rw [if_pos ((iI_le (by omega) (by omega) (by omega) (by omega)).mpr (by omega)), l_1000, iI_mul, iI_add]
  · have hd : (di h (a 0 - 1)).toNat = (a 0 - 1 - h).toNat := by unfold di; split <;> omega
    have hb := hnd_b a (smx a s c (a 0 - 1 - h).toNat t) hc.1 hc.2 (a 0 - 1 - h).toNat
    have hq := ap_le (hnd a (smx a s c (a 0 - 1 - h).toNat t) c (a 0 - 1 - h).toNat).1 c
    unfold f_M_simulate_92 f_M_simulate_133
    rw [if_neg (iI_nle (by omega) (by omega) (by omega)), Q_at, show iI (a 0) - 1 = iI (a 0 - 1) by rw [l_1, iI_sub], M_handedOn hw _ hc.1 hc.2 hh (by omega), cal_some, hd, M_apart hb.1 hb.2 hc.1 hc.2, cal_some, bnd_s, bnd_s, bnd_s, bnd_s, iI_s, iI_add, sms, smp, smx]
    by_cases q : sma a s c (a 0 - 1 - h).toNat t = c
    · have q' : ap (hnd a (smx a s c (a 0 - 1 - h).toNat t) c (a 0 - 1 - h).toNat).1 c = 0 := (ap_0 hb.1 hb.2 hc.1 hc.2).mpr q
      rw [if_neg (by rw [q']; exact fun z => z rfl), if_pos q, iI_p1]
      rfl
    · have q' : ¬ ap (hnd a (smx a s c (a 0 - 1 - h).toNat t) c (a 0 - 1 - h).toNat).1 c = 0 := fun z => q ((ap_0 hb.1 hb.2 hc.1 hc.2).mp z)
      rw [if_pos (by rw [l_0, iI_eq (by omega) (by omega) (by omega) (by omega)]; exact q'), if_neg q, iI_p0, Int.add_zero]
      rfl
theorem Str_simulate {a : Nat → Int} (hw : WF a) (s : Int64) {c h m : Int} (hc : 0 ≤ c ∧ c < 4096) (hh : 0 ≤ h ∧ h < a 0) (hm : 1 ≤ m ∧ m ≤ 60) : f_Str_simulateWay (iI (a 0)) (iI (a 3)) (iI h) (iI c) s (iI m) = some (iI (1000 * sms a s c (a 0 - 1 - h).toNat m.toNat + smp a s c (a 0 - 1 - h).toNat m.toNat)) := by
  have b0 := hw.b0
  have b3 := hw.b3
  unfold f_Str_simulateWay
  refine seq3 (body := f_Str_simulateWay_9 (iI (a 0)) (iI (a 3)) (iI h) (iI c) (iI m)) (fun t => smx a s c (a 0 - 1 - h).toNat t) (fun t => iI (1000 * sms a s c (a 0 - 1 - h).toNat t + smp a s c (a 0 - 1 - h).toNat t)) (fun t : Nat => iI t) m.toNat (fun g => ?_) (fun t ht f => ?_) FUEL 0 (Nat.zero_le _) (fuel_lt (by omega))
  · unfold f_Str_simulateWay_9
    rw [if_pos ((iI_le (by omega) (by omega) (by omega) (by omega)).mpr (by omega))]
  · unfold f_Str_simulateWay_9
    rw [if_neg (iI_nle (by omega) (by omega) (by omega)), bnd_s]
    suffices hs : rl5 (f_Str_simulateWay_24 (iI (a 0)) (iI (a 3)) (iI c) f) FUEL (hnd a (smx a s c (a 0 - 1 - h).toNat t) c 0).2 (iI (1000 * sms a s c (a 0 - 1 - h).toNat t + smp a s c (a 0 - 1 - h).toNat t)) (iI t) (iI (hnd a (smx a s c (a 0 - 1 - h).toNat t) c 0).1) (iI (h + 1 + ((0 : Nat) : Int))) = f (smx a s c (a 0 - 1 - h).toNat (t + 1)) (iI (1000 * sms a s c (a 0 - 1 - h).toNat (t + 1) + smp a s c (a 0 - 1 - h).toNat (t + 1))) (iI ((t + 1 : Nat) : Int)) by
      rw [show iI h + 1 = iI (h + 1 + ((0 : Nat) : Int)) by rw [iI_p1]; congr 1; omega]
      exact hs
    refine seq5 (body := f_Str_simulateWay_24 (iI (a 0)) (iI (a 3)) (iI c) f) (fun j => (hnd a (smx a s c (a 0 - 1 - h).toNat t) c j).2) (fun _ => iI (1000 * sms a s c (a 0 - 1 - h).toNat t + smp a s c (a 0 - 1 - h).toNat t)) (fun _ => iI t) (fun j => iI (hnd a (smx a s c (a 0 - 1 - h).toNat t) c j).1) (fun j : Nat => iI (h + 1 + (j : Int))) (a 0 - 1 - h).toNat (fun g => ?_) (fun j hj g => ?_) FUEL 0 (Nat.zero_le _) (fuel_lt (by omega))
    · have hb := hnd_b a (smx a s c (a 0 - 1 - h).toNat t) hc.1 hc.2 (a 0 - 1 - h).toNat
      unfold f_Str_simulateWay_24 f_Str_simulateWay_75
      rw [if_pos ((iI_le (by omega) (by omega) (by omega) (by omega)).mpr (by omega)), TR_apart hb.1 hb.2 hc.1 hc.2, cal_some, cal_some, bnd_s, bnd_s, iI_s, l_1000, l_0, iI_add, iI_add, iI_add, iI_add, sms, smp, smx]
      by_cases q : sma a s c (a 0 - 1 - h).toNat t = c
      · rw [if_neg (show ¬ ¬ iI (hnd a (smx a s c (a 0 - 1 - h).toNat t) c (a 0 - 1 - h).toNat).1 = iI c from fun z => z (congrArg iI q)), if_pos q]
        unfold sma
        congr 2
        omega
      · rw [if_pos (by rw [iI_eq (by omega) (by omega) (by omega) (by omega)]; exact q), if_neg q]
        unfold sma
        congr 2
        omega
    · have hb := hnd_b a (smx a s c (a 0 - 1 - h).toNat t) hc.1 hc.2 j
      unfold f_Str_simulateWay_24
      rw [if_neg (by rw [iI_le (by omega) (by omega) (by omega) (by omega)]; omega), Noi_next, cal_some, l_1, Noi_learned _ hb.1 b3.1 b3.2 (by omega) (by omega), cal_some, iI_add, show h + 1 + (j : Int) + 1 = h + 1 + ((j + 1 : Nat) : Int) by omega]
      rfl
