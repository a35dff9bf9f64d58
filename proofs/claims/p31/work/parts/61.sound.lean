/-! the law's look at everything -/
theorem sh_0 : ∀ d, d < 6 → (0 : Int32) <<< (nI d &&& 31) = 0 := by decide +kernel
/-- a count of set bits, and of the numbers that set them -/
theorem rmk_cn {a : Nat → Int} : ∀ m, cn (fun i => (rmk a m).testBit i = true) 40 ≤ cn (fun j => 0 ≤ a (5 + j)) m := by
  intro m
  induction m with
  | zero =>
    rw [cn_none (p := fun i => (rmk a 0).testBit i = true) (fun k _ z => by rw [rmk, Nat.zero_testBit] at z; exact absurd z (by decide))]
    exact Int.le_refl _
  | succ m ih =>
    rw [show cn (fun j => 0 ≤ a (5 + j)) (m + 1) = if 0 ≤ a (5 + m) then cn (fun j => 0 ≤ a (5 + j)) m + 1 else cn (fun j => 0 ≤ a (5 + j)) m from rfl]
    by_cases c : 0 ≤ a (5 + m)
    · rw [if_pos c]
      have g := cn_sub (p := fun i => (rmk a (m + 1)).testBit i = true) (q := fun i => (rmk a m).testBit i = true) (r := fun k => k = (rt a (a (5 + m))).toNat) (n := 40) (fun k _ hk => by
        rw [rmk, if_pos c, Nat.testBit_or, Nat.testBit_two_pow, Bool.or_eq_true, decide_eq_true_eq] at hk
        rcases hk with h | h
        · exact Or.inl h
        · exact Or.inr h.symm)
      have g2 := cn_one (rt a (a (5 + m))).toNat 40
      split at g2 <;> omega
    · rw [if_neg c]
      rw [show rmk a (m + 1) = rmk a m by rw [rmk, if_neg c]]
      exact ih
theorem mk_ext {p : Nat → Prop} [DecidablePred p] {n m : Nat} (h : n ≤ m) (hp : ∀ k, n ≤ k → k < m → ¬ p k) : mk p m = mk p n := by
  induction m with
  | zero =>
    obtain rfl : n = 0 := by omega
    rfl
  | succ m ih =>
    rcases Nat.lt_or_ge m n with q | q
    · obtain rfl : n = m + 1 := by omega
      rfl
    · rw [mk, if_neg (hp m q (by omega)), ih q (fun k h1 h2 => hp k h1 (by omega))]
theorem mk_digit {a : Nat → Int} (hw : WF a) {d : Nat} (hd : d < 6) : ((mk (fun e => a (262 + 4 * e) = 1) (d + 1) : Nat) : Int) = (mk (fun e => a (262 + 4 * e) = 1) d : Nat) + (2 ^ d : Nat) * a (262 + 4 * d) := by
  have h := (hw.on hd).1
  rw [mk]
  by_cases c : a (262 + 4 * d) = 1
  · rw [if_pos c, c, Int.mul_one]
    omega
  · rw [if_neg c, show a (262 + 4 * d) = 0 by omega, Int.mul_zero, Int.add_zero]
theorem onm_mk {a : Nat → Int} (hw : WF a) : onm a = ((mk (fun e => a (262 + 4 * e) = 1) (a 1).toNat : Nat) : Int) := by
  have b1 := hw.b1
  rw [← mk_ext (p := fun e => a (262 + 4 * e) = 1) (n := (a 1).toNat) (m := 6) (by omega) (fun k h1 h2 z => by have := (hw.on h2).2 (by omega); omega), mk_digit hw (d := 5) (by omega), mk_digit hw (d := 4) (by omega), mk_digit hw (d := 3) (by omega), mk_digit hw (d := 2) (by omega), mk_digit hw (d := 1) (by omega), mk_digit hw (d := 0) (by omega)]
  unfold onm mk
  simp only [Nat.reduceMul, Nat.reduceAdd, Nat.reducePow]
  omega
section SOUND
variable {c h k p w : Nat → Int32} {n : Int32} {dh dc dt : Nat → Int32} {dn on : Int32} {rk : Nat → Int32} {H no re : Int32} {sx : Int64} {a : Nat → Int} {x : Int64}
/-- the keys with a code -/
def alk (a : Nat → Int) : Int := cn (fun j => 0 ≤ a (5 + j)) 24
theorem alk_b (a : Nat → Int) : 0 ≤ alk a ∧ alk a ≤ 24 := cn_le _ 24
theorem alk_54 {a : Nat → Int} (hw : WF a) (hv : INV a) : cn (fun j => 0 ≤ a (5 + j)) 54 = alk a := by
  have h4 := hv.h
  rw [cn_keys hw (fun k hk h => by omega), h4]
  rfl
theorem s73 (hw : WF a) (hv : INV a) (hr : RSf c h k p w n dh dc dt dn on rk H no re sx a x) : rl4 (f_L_sound_73 c p w n dh dc dt dn on rk H no re) FUEL 1 (iI (alk a)) 0 0 = some 1 := by
  have b0 := hw.b0
  have b1 := hw.b1
  have h4 := hv.h
  have hal := alk_b a
  refine seq4 (body := f_L_sound_73 c p w n dh dc dt dn on rk H no re) (fun _ => 1) (fun _ => iI (alk a)) (fun m => nI (mk (fun e => a (262 + 4 * e) = 1) m)) (fun m : Nat => iI m) (a 1).toNat (fun K => ?_) (fun m hm K => ?_) FUEL 0 (Nat.zero_le _) (fuel_lt (by omega))
  · have hb := cn_le (fun i => (rmk a 54).testBit i = true) 40
    have e1 : cn (fun i => (rmk a 54).testBit i = true) 40 ≤ alk a := by
      rw [← alk_54 hw hv]
      exact rmk_cn 54
    have e2 : 0 < alk a → 0 < cn (fun i => (rmk a 54).testBit i = true) 40 := by
      intro g
      by_cases z : ∃ j, j < 24 ∧ 0 ≤ a (5 + j)
      · obtain ⟨j, j1, j2⟩ := z
        have hrt := rt_ok hw (key_ok hw (show j < 54 by omega)) j2
        have b2 := hw.b2
        exact cn_pos (p := fun i => (rmk a 54).testBit i = true) (j := (rt a (a (5 + j))).toNat) ((rmk_bit hw _ 54 (by omega)).mpr ⟨j, by omega, j2, by omega⟩) 40 (by omega)
      · have := cn_none (p := fun j => 0 ≤ a (5 + j)) (n := 24) (fun j hj q => z ⟨j, hj, q⟩)
        unfold alk at g
        omega
    unfold f_L_sound_73 f_L_sound_161 f_L_sound_170
    rw [t_about1 hw hr, cal_some, if_pos (by rw [iI_le (by omega) (by omega) (by omega) (by omega)]; omega), gd_t (by decide), t_about7 hw hr, cal_some, gd_t (by rw [onm_mk hw]; rfl), t_about8 hw hr, cal_some, gd_t (by rw [iI_lt (by omega) (by omega) (by omega) (by omega)]; omega), cal_some]
    simp only [l_0, iI_le (show -2147483648 ≤ cn (fun i => (rmk a 54).testBit i = true) 40 by omega) (show cn (fun i => (rmk a 54).testBit i = true) 40 < 2147483648 by omega) (show -2147483648 ≤ (0 : Int) by omega) (show (0 : Int) < 2147483648 by omega), iI_le (show -2147483648 ≤ alk a by omega) (show alk a < 2147483648 by omega) (show -2147483648 ≤ (0 : Int) by omega) (show (0 : Int) < 2147483648 by omega)]
    by_cases g : alk a ≤ 0
    · rw [if_pos (by omega), if_pos g, gd_t trivial]
    · rw [if_neg (by have := e2 (by omega); omega), if_neg g, gd_t trivial]
  · have hm2 : (m : Int) < a 1 := by omega
    have ho := (hw.on (d := m) (by omega)).1
    have hc := cn_le (kaP a m) (6 * (a 0).toNat)
    have hka : cn (kaP a m) (6 * (a 0).toNat) ≤ alk a := by
      rw [h4]
      exact cn_mono (fun j hj z => by
        have z1 := z.1
        rcases cd_sm hw (key_ok hw (show j < 54 by omega)) with q | q <;> omega)
    unfold f_L_sound_73
    rw [t_about1 hw hr, cal_some, if_neg (by rw [iI_le (by omega) (by omega) (by omega) (by omega)]; omega), t_device3 hw hr hm2, cal_some, bnd_s, gd_t (by decide), t_device4 hw hr hm2, cal_some, gd_t (by rw [iI_lt (by omega) (by omega) (by omega) (by omega)]; omega), iI_s, mk]
    by_cases g : a (262 + 4 * m) = 1
    · rw [if_pos g, g, iI_nat m, ← l_1, or_b m (by omega) _ (mk_lt _ m)]
    · rw [if_neg g, show a (262 + 4 * m) = 0 by omega, iI_nat m, ← l_0, sh_0 m (by omega), or_0 _ (mk_64 _ (by omega))]
theorem L_sound_ok (hw : WF a) (hv : INV a) (hr : RSf c h k p w n dh dc dt dn on rk H no re sx a x) : f_L_sound c h k p w n dh dc dt dn on rk H no re sx = some 1 := by
  have b0 := hw.b0
  have h4 := hv.h
  unfold f_L_sound
  rw [L_records_ok hw hv hr, cal_some]
  refine seq3 (body := f_L_sound_9 c h k p w n dh dc dt dn on rk H no re sx) (fun _ => 1) (fun m => iI (cn (fun j => 0 ≤ a (5 + j)) m)) (fun m : Nat => iI m) 24 (fun K => ?_) (fun m hm K => ?_) FUEL 0 (Nat.zero_le _) (fuel_lt (by omega))
  · unfold f_L_sound_9
    rw [t_about0 hw hr, cal_some, if_pos (by rw [l_6, iI_mul, h4, iI_le (by omega) (by omega) (by omega) (by omega)]; omega)]
    exact s73 hw hv hr
  · have hq : isK a ((m : Int) / 6) ((m : Int) % 6) := by omega
    have ek : kr a ((m : Int) / 6) ((m : Int) % 6) = a (5 + m) := by
      unfold kr ki
      rw [show (6 * ((m : Int) / 6) + (m : Int) % 6).toNat = m by omega]
    have hok := key_ok hw (show m < 54 by omega)
    have hcd := cd_sm hw hok
    unfold f_L_sound_9 f_L_sound_60
    rw [t_about0 hw hr, cal_some, if_neg (by rw [l_6, iI_mul, h4, iI_le (by omega) (by omega) (by omega) (by omega)]; omega), gd_t (by decide), l_6, iI_rem (by omega) (by omega) (by omega) (by omega), iI_div (by omega) (by omega) (by omega) (by omega), L_key_ok hw hv hr hq, cal_some, t_key0 hw hr hq, cal_some, ek, bnd_s, bnd_s, iI_s, iI_p1, iI_p0, cn]
    by_cases g : 0 ≤ a (5 + m)
    · rw [if_pos (by rw [l_0, iI_le (by omega) (by omega) (by omega) (by omega)]; omega), if_pos g]
    · rw [if_neg (by rw [l_0, iI_le (by omega) (by omega) (by omega) (by omega)]; omega), if_neg g]
end SOUND
