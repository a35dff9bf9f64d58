/-! the law's look at a key -/
theorem s_l9 : ∀ m, m < 12 → ((nI m &&& 31).toBitVec.smod 32).toNat = m := by decide +kernel
theorem seq6 {A B C D E F ρ : Type} {body : A → B → C → D → E → F → (A → B → C → D → E → F → Option ρ) → Option ρ} {r : Option ρ} (s : Nat → A) (t : Nat → B) (u : Nat → C) (v : Nat → D) (w : Nat → E) (z : Nat → F) (n : Nat) (he : ∀ k, body (s n) (t n) (u n) (v n) (w n) (z n) k = r) (hs : ∀ i, i < n → ∀ k, body (s i) (t i) (u i) (v i) (w i) (z i) k = k (s (i + 1)) (t (i + 1)) (u (i + 1)) (v (i + 1)) (w (i + 1)) (z (i + 1))) : ∀ f i, i ≤ n → n < f + i → rl6 body f (s i) (t i) (u i) (v i) (w i) (z i) = r := by
  intro f
  induction f with
  | zero => intro i h1 h2; omega
  | succ f ih =>
    intro i h1 h2
    rw [rl6]
    rcases Nat.lt_or_ge i n with q | q
    · rw [hs i q]; exact ih (i + 1) q (by omega)
    · obtain rfl : i = n := by omega
      exact he _
theorem sh_bit : ∀ t, t < 4096 → ∀ m, m < 12 → (nI t >>> (nI m &&& 31)) &&& 1 = nI (t / 2 ^ m % 2) := by
  intro t ht m hm
  rw [pk_shrN (by omega) _ m (s_l9 m hm), show (1 : Int32) = nI 1 from rfl]
  exact pk_andN (by have := Nat.div_le_self t (2 ^ m); omega) 1 (by decide)
def bsum (t : Nat) : Nat → Nat
  | 0 => 0
  | m + 1 => bsum t m + t / 2 ^ m % 2
theorem bsum_le (t : Nat) : ∀ m, bsum t m ≤ m := by
  intro m
  induction m with
  | zero => exact Nat.le_refl _
  | succ m ih =>
    rw [bsum]
    omega
theorem bsum_12 (t : Nat) : bsum t 12 = pc12 t := by
  simp only [bsum, pc12, Nat.reducePow, Nat.div_one, Nat.zero_add]
theorem L_apart_ok {u v : Int} (h1 : 0 ≤ u) (h2 : u < 4096) (h3 : 0 ≤ v) (h4 : v < 4096) : f_L_apart (iI u) (iI v) = some (iI (ap u v)) := by
  have e := ap_x h1 h2 h3 h4
  unfold f_L_apart
  refine seq2 (body := f_L_apart_4 (iI u) (iI v)) (fun m => nI (bsum (u.toNat ^^^ v.toNat) m)) (fun m : Nat => iI m) 12 (fun g => ?_) (fun m hm g => ?_) FUEL 0 (Nat.zero_le _) (fuel_lt (by omega))
  · unfold f_L_apart_4
    rw [if_pos (by rw [l_12]; exact (iI_le (by omega) (by omega) (by omega) (by omega)).mpr (by omega)), bsum_12]
    rfl
  · unfold f_L_apart_4
    rw [if_neg (by rw [l_12]; exact iI_nle (by omega) (by omega) (by omega)), bnd_s, e.1, iI_nat m, sh_bit _ e.2 m hm, ← iI_nat m, iI_s, nI_add, bsum]
section KEYS
variable {c h k p w : Nat → Int32} {n : Int32} {dh dc dt : Nat → Int32} {dn on : Int32} {rk : Nat → Int32} {H no re : Int32} {sx : Int64} {a : Nat → Int} {x : Int64}
theorem fwr_b {a : Nat → Int} (hw : WF a) {i : Int} (hi : ok a i) : ∀ m, -1 ≤ fwr a i m ∧ fwr a i m < 40 := by
  intro m
  induction m with
  | zero => simp [fwr]
  | succ m ih =>
    have := sm_an hw hi m
    rw [fwr]
    split <;> omega
theorem k216 (hw : WF a) (hr : RSf c h k p w n dh dc dt dn on rk H no re sx a x) {r : Int} (q : 0 ≤ r) (q2 : r < a 2) (K : Int32 → Int32 → Int32 → Int32 → Int32 → Int32 → Option Int32) (X4 X6 S0 S1 : Int32) : f_L_key_216 c h k p w n rk K X4 X6 (iI r) S0 S1 = K (X4 + 1) (S0 + S1) X6 (iI r) 1 (n9 (nx a r)) := by
  unfold f_L_key_216
  rw [bnd_s, t_record0 hw hr q q2, cal_some]
theorem k197 (hw : WF a) (hr : RSf c h k p w n dh dc dt dn on rk H no re sx a x) {r : Int} (q : 0 ≤ r) (q2 : r < a 2) (K : Int32 → Int32 → Int32 → Int32 → Int32 → Int32 → Option Int32) (X4 X5 S0 : Int32) : f_L_key_197 c h k p w n rk K X4 X5 (iI r) S0 = K (X4 + 1) (if 0 ≤ wr a r then X5 + 1 else X5 + 0) S0 (iI r) 1 (n9 (nx a r)) := by
  have hwr := wr_sm hw (i := r) ⟨by omega, q2⟩
  unfold f_L_key_197
  rw [t_record4 hw hr q q2, cal_some]
  by_cases g : wr a r < 0
  · rw [if_pos ((n9_lt (by omega) (by omega)).mpr g), if_neg (by omega), k216 hw hr q q2]
  · rw [if_neg (by rw [n9_lt (by omega) (by omega)]; exact g), if_pos (by omega), k216 hw hr q q2]
/-- the devices that the law counts -/
theorem k487 (K : Int32 → Int32 → Option Int32) (D S0 S1 : Int32) : f_L_key_487 K D S0 S1 = K (S0 ||| S1) (D + 1) := by
  unfold f_L_key_487
  rw [bnd_s]
theorem k486 (K : Int32 → Int32 → Option Int32) (D S0 : Int32) : f_L_key_486 K D S0 = K (S0 ||| 0) (D + 1) := by
  unfold f_L_key_486
  rw [k487]
theorem k408 (hw : WF a) (hr : RSf c h k p w n dh dc dt dn on rk H no re sx a x) {y z : Int} (q : isK a y z) (q3 : 0 ≤ kr a y z) : rl2 (f_L_key_408 c h p w n dh dc dt dn on rk H no re (iI y) (iI z)) FUEL 0 0 = some 1 := by
  have b0 := hw.b0
  have b1 := hw.b1
  have b4 := hw.b4
  have hk := kr_ok hw q
  have hcd := cd_sm hw hk
  refine seq2 (body := f_L_key_408 c h p w n dh dc dt dn on rk H no re (iI y) (iI z)) (fun m => nI (mk (fun d => accP a d y (cd a (kr a y z)) (a 4)) m)) (fun m : Nat => iI m) (a 1).toNat (fun g => ?_) (fun m hm g => ?_) FUEL 0 (Nat.zero_le _) (fuel_lt (by omega))
  · unfold f_L_key_408
    rw [t_about1 hw hr, cal_some, if_pos (by rw [iI_le (by omega) (by omega) (by omega) (by omega)]; omega), gd_t (by decide), t_accepted hw hr q, cal_some, gd_t (by rfl)]
  · have hm2 : (m : Int) < a 1 := by omega
    have hd := hw.dev hm2
    have hdi := di_sm hd.1.1 hd.1.2 (show 0 ≤ y by omega) (show y < 9 by omega)
    have hap := ap_le (a (260 + 4 * m)) (cd a (kr a y z))
    have hm6 : mk (fun d => accP a d y (cd a (kr a y z)) (a 4)) m < 64 := mk_64 _ (by omega)
    unfold f_L_key_408
    rw [t_about1 hw hr, cal_some, if_neg (by rw [iI_le (by omega) (by omega) (by omega) (by omega)]; omega), t_device0 hw hr hm2, cal_some, iI_sub, bnd_s, t_about4 hw hr, cal_some, cal_some, t_device1 hw hr hm2, cal_some, t_key0 hw hr q, cal_some, L_apart_ok (by omega) (by omega) (by omega) (by omega), cal_some, t_device2 hw hr hm2, cal_some, k486, k487, iI_neg, iI_s, mk]
    have no : accP a m y (cd a (kr a y z)) (a 4) → (a (259 + 4 * m) - y ≤ a 4 ∧ -(a (259 + 4 * m) - y) ≤ a 4 ∧ ap (a (260 + 4 * m)) (cd a (kr a y z)) ≤ a (261 + 4 * m)) := by
      rintro ⟨g1, g2, g3⟩
      unfold di at g2
      split at g2 <;> omega
    have yes : (a (259 + 4 * m) - y ≤ a 4 ∧ -(a (259 + 4 * m) - y) ≤ a 4 ∧ ap (a (260 + 4 * m)) (cd a (kr a y z)) ≤ a (261 + 4 * m)) → accP a m y (cd a (kr a y z)) (a 4) := by
      rintro ⟨g1, g2, g3⟩
      refine ⟨by omega, ?_, g3⟩
      unfold di
      split <;> omega
    by_cases c1 : a 4 < a (259 + 4 * m) - y
    · rw [if_pos ((iI_lt (by omega) (by omega) (by omega) (by omega)).mpr c1), if_neg (fun z => by have := (no z).1; omega), or_0 _ hm6]
    · rw [if_neg (by rw [iI_lt (by omega) (by omega) (by omega) (by omega)]; exact c1)]
      by_cases c2 : a 4 < -(a (259 + 4 * m) - y)
      · rw [if_pos ((iI_lt (by omega) (by omega) (by omega) (by omega)).mpr c2), if_neg (fun z => by have := (no z).2.1; omega), or_0 _ hm6]
      · rw [if_neg (by rw [iI_lt (by omega) (by omega) (by omega) (by omega)]; exact c2)]
        by_cases c3 : a (261 + 4 * m) < ap (a (260 + 4 * m)) (cd a (kr a y z))
        · rw [if_pos ((iI_lt (by omega) (by omega) (by omega) (by omega)).mpr c3), if_neg (fun z => by have := (no z).2.2; omega), or_0 _ hm6]
        · rw [if_neg (by rw [iI_lt (by omega) (by omega) (by omega) (by omega)]; exact c3), if_pos (yes ⟨by omega, by omega, by omega⟩), iI_nat m, or_b m (by omega) _ (mk_lt _ m)]
theorem wb_0 (x : Int64) : wb x 0 = -1 := by
  have := rr_b x
  unfold wb
  rw [if_pos (by omega)]
theorem di_self (y : Int) : di y y = 0 := by
  unfold di
  split <;> omega
theorem lrn_self (a : Nat → Int) (x : Int64) (y z : Int) : lrn a x y z y = cd a z := by
  unfold lrn
  rw [di_self, Int.mul_zero, wb_0]
  rfl
theorem k238 (hw : WF a) (hv : INV a) (hr : RSf c h k p w n dh dc dt dn on rk H no re sx a x) {y z : Int} (q : isK a y z) (q3 : 0 ≤ kr a y z) : f_L_key_238 c h k p w n dh dc dt dn on rk H no re sx (iI y) (iI z) (n9 (kr a y z)) (iI (ln a (kr a y z))) (iI (swb a (kr a y z) (ln a (kr a y z)))) (n9 (fwr a (kr a y z) (ln a (kr a y z)))) (n9 (rt a (kr a y z))) 1 = some 1 := by
  have b0 := hw.b0
  have hk := kr_ok hw q
  have hrt := rt_ok hw hk q3
  have hcd := cd_sm hw hk
  have hcr := cd_sm hw (rt_cd hw hk q3).1
  have l40 := ln_40 hw hk
  unfold f_L_key_238
  rw [gd_t (by decide), t_trace hw hr q (by omega), cal_some, ln_end hw hk, gd_t (by rfl), t_key2 hw hr q q3, cal_some, gd_t (by rw [l_1, iI_sub]), t_key3 hw hr q q3, cal_some, n9_pos hrt.1, t_record1 hw hr hrt.1 hrt.2, cal_some, gd_t rfl, t_key4 hw hr q q3, cal_some, gd_t rfl, t_wentWrong hw hr q, cal_some, gd_t rfl, gd_t (by decide), t_key5 hw hr q q3, cal_some, t_key0 hw hr q, cal_some, t_record3 hw hr hrt.1 hrt.2, cal_some, L_apart_ok (by omega) (by omega) (by omega) (by omega), cal_some, gd_t rfl, t_common hw hr q q3, cal_some, gd_t rfl, t_wouldBe hw hr q q.1, cal_some, if_neg (by omega), lrn_self, cal_some, gd_t rfl, t_handed hw hr q q.1, cal_some, if_neg (by omega), di_self, cal_some, gd_t (by rfl)]
  exact k408 hw hr q q3
theorem L_key_ok (hw : WF a) (hv : INV a) (hr : RSf c h k p w n dh dc dt dn on rk H no re sx a x) {y z : Int} (q : isK a y z) : f_L_key c h k p w n dh dc dt dn on rk H no re sx (iI y) (iI z) = some 1 := by
  have b0 := hw.b0
  have b2 := hw.b2
  have hk := kr_ok hw q
  have hks := hk
  unfold ok at hks
  have hki := ki_lt hw q
  unfold f_L_key
  rw [t_key1 hw hr q, cal_some]
  by_cases q3 : 0 ≤ kr a y z
  · have e5 : a (5 + ki y z) = kr a y z := rfl
    have g := hv.ky hki.1 (by rw [e5]; exact q3)
    rw [e5] at g
    have eh : hs a (kr a y z) = y := by
      unfold hs
      rw [if_neg (by omega), g.1]
      omega
    have ek : kk a (kr a y z) = z := by
      unfold kk
      rw [if_neg (by omega), g.2]
      omega
    have l40 := ln_40 hw hk
    have lp := ln_pos hw hk q3
    rw [if_pos ((n9_ge (by omega) (by omega)).mpr q3), bnd_s, n9_pos q3, t_record1 hw hr q3 hks.2, cal_some, gd_t (by rw [eh]), t_record2 hw hr q3 hks.2, cal_some, gd_t (by rw [ek]), t_record3 hw hr q3 hks.2, cal_some, t_key0 hw hr q, cal_some, gd_t rfl, ← n9_pos q3]
    refine seq6 (body := f_L_key_139 c h k p w n dh dc dt dn on rk H no re sx (iI y) (iI z) (n9 (kr a y z))) (fun m : Nat => iI m) (fun m => iI (swb a (kr a y z) m)) (fun m => n9 (fwr a (kr a y z) m)) (fun m => n9 (an a (kr a y z) (m - 1))) (fun _ => 1) (fun m => n9 (an a (kr a y z) m)) (ln a (kr a y z)) (fun K => ?_) (fun m hm K => ?_) FUEL 0 (Nat.zero_le _) (fuel_lt (by omega))
    · unfold f_L_key_139
      rw [if_pos (by rw [ln_end hw hk]; decide)]
      exact k238 hw hv hr q q3
    · have hm0 := ln_in hw hk hm
      have hs := sm_an hw hk m
      have hok := an_ok hw hk m
      unfold ok at hok
      have hwr := wr_sm hw (an_ok hw hk m)
      have hsw := swb_le a (kr a y z) m
      have hin : inC a (an a (kr a y z) m) (a (5 + ki y z)) := ⟨hm0, m, rfl⟩
      obtain ⟨r, r1, r2, r3⟩ := t_record6 hw hr hm0 hok.2 hki.1 hin
      unfold f_L_key_139
      rw [if_neg (by rw [n9_lt (by omega) (by omega)]; omega), if_neg (by decide), t_trace hw hr q (by omega), cal_some, gd_t rfl, n9_pos hm0, r3, cal_some, gd_t (by rw [l_0, iI_le (by omega) (by omega) (by omega) (by omega)]; omega), t_record4 hw hr hm0 hok.2, cal_some, k197 hw hr hm0 hok.2, k197 hw hr hm0 hok.2, iI_s m, iI_p1, iI_p0, swb, fwr, Nat.add_sub_cancel]
      by_cases g2 : 0 ≤ wr a (an a (kr a y z) m)
      · rw [if_neg (by rw [n9_lt (by omega) (by omega)]; omega), if_pos g2, if_pos g2, if_pos g2, n9_pos hm0]
        rfl
      · rw [if_pos ((n9_lt (by omega) (by omega)).mpr (by omega)), if_neg g2, if_neg g2, if_neg g2, n9_pos hm0]
        rfl
  · have e := n9_neg (show kr a y z < 0 by omega)
    have en : kr a y z = -1 := by omega
    have e2 : cd a (kr a y z) = -9 := by
      unfold cd
      rw [if_pos (by omega)]
    have l0 : ln a (kr a y z) = 0 := by
      have := ln_le hw hk
      omega
    rw [if_neg (by rw [n9_ge (by omega) (by omega)]; exact q3), gd_t (by rw [e]; rfl), t_key0 hw hr q, cal_some, gd_t (by rw [e2]; rfl), show f_TR_trace p n rk H (iI y) (iI z) 0 = some (n9 (an a (kr a y z) 0)) from t_trace hw hr q (m := 0) (by omega), cal_some, gd_t (by rw [an_0, e]; rfl), t_wentWrong hw hr q, cal_some, gd_t (by rw [l0]; rfl), t_accepted hw hr q, cal_some, gd_t (by
      unfold am
      rw [mk_none (fun d _ z => by have := z.1; omega)]
      rfl), show f_TR_wouldBe c n rk H no sx (iI y) (iI z) 0 = some (iI (if kr a y z < 0 then -9 else lrn a x y (kr a y z) 0)) from t_wouldBe hw hr q (t := 0) (by omega), cal_some, gd_t (by rw [if_pos (by omega)]; rfl)]
end KEYS
