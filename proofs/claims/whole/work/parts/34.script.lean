/-! scripts -/
theorem lL_divN {n m : Nat} (hn : n < 9223372036854775808) (hm : 0 < m ∧ m < 9223372036854775808) : lL (n : Int) / lL (m : Int) = lL ((n / m : Nat) : Int) := by
  apply Int64.toInt_inj.mp
  have h1 : n / m ≤ n := Nat.div_le_self n m
  have h2 : (n : Int).tdiv (m : Int) = ((n / m : Nat) : Int) := by
    rw [Int.tdiv_eq_ediv_of_nonneg (by omega)]
    rfl
  generalize n / m = q at h1 h2 ⊢
  rw [Int64.toInt_div, lL_T (by omega) (by omega), lL_T (by omega) (by omega), lL_T (by omega) (by omega), h2]
  exact Int.bmod_eq_of_le (by omega) (by omega)
theorem lL_modN {n : Nat} (hn : n < 9223372036854775808) : lL (n : Int) - lL (n : Int) / 100000 * 100000 = lL ((n % 100000 : Nat) : Int) := by
  rw [show (100000 : Int64) = lL ((100000 : Nat) : Int) from rfl, lL_divN hn (by omega), lL_mul, lL_sub]
  congr 1
  omega
theorem lL_32 {r : Int} (h : 0 ≤ r ∧ r < 100000) : Int64.toInt32 (lL r) = iI r := by
  apply Int32.toInt_inj.mp
  rw [Int64.toInt_toInt32, lL_T (by omega) (by omega), iI_T (by omega) (by omega)]
  exact Int.bmod_eq_of_le (by omega) (by omega)
theorem Scr_groupAt {S b : Nat} (hS : S < 9223372036854775808) (hb : b < 100) : f_Scr_groupAt (lL (S : Int)) (iI b) = some (iI ((S / 100000 ^ b % 100000 : Nat) : Int)) := by
  have hl : ∀ j, S / 100000 ^ j < 9223372036854775808 := fun j => Nat.lt_of_le_of_lt (Nat.div_le_self _ _) hS
  unfold f_Scr_groupAt
  suffices hs : rl2 (f_Scr_groupAt_5 (iI b)) FUEL (lL ((S / 100000 ^ 0 : Nat) : Int)) 0 = some (iI ((S / 100000 ^ b % 100000 : Nat) : Int)) by
    rw [Nat.pow_zero, Nat.div_one] at hs
    exact hs
  refine seq2 (body := f_Scr_groupAt_5 (iI b)) (fun j : Nat => lL ((S / 100000 ^ j : Nat) : Int)) (fun j : Nat => iI j) b (fun g => ?_) (fun j hj g => ?_) FUEL 0 (Nat.zero_le _) (fuel_lt (by omega))
  · have := hl b
    unfold f_Scr_groupAt_5
    rw [if_pos ((iI_le (by omega) (by omega) (by omega) (by omega)).mpr (by omega)), lL_modN (hl b), lL_32 (by omega)]
  · unfold f_Scr_groupAt_5
    rw [if_neg (iI_nle (by omega) (by omega) (by omega)), bnd_s, show (100000 : Int64) = lL ((100000 : Nat) : Int) from rfl, lL_divN (hl j) (by omega), iI_s, Nat.div_div_eq_div_mul, ← Nat.pow_succ]
/-- the reference's spare row -/
theorem M_keep (a : Nat → Int) (x : Int64) (sp : Nat → Int32) (sx : Int64) : ∃ b, f_M_keep (Q a) x sp sx = some (b, x) ∧ ∀ j, j < 283 → b j = iI (a j) := by
  refine ⟨cpm sp 0 a 283, ?_, fun j hj => ?_⟩
  · unfold f_M_keep
    suffices hs : rl2 (f_M_keep_2 (Q a) x) FUEL 0 (cpm sp 0 a 0) = some (cpm sp 0 a 283, x) by
      rw [cpm_0] at hs
      exact hs
    refine seq2 (body := f_M_keep_2 (Q a) x) (fun j : Nat => iI j) (fun j => cpm sp 0 a j) 283 (fun g => ?_) (fun j hj g => ?_) FUEL 0 (Nat.zero_le _) (fuel_lt (by omega))
    · unfold f_M_keep_2
      rw [if_pos (by rw [l_283]; exact (iI_le (by omega) (by omega) (by omega) (by omega)).mpr (by omega))]
    · have e := cpm_s sp 0 a j
      rw [show 283 * 0 + j = j by omega] at e
      unfold f_M_keep_2
      rw [if_neg (by rw [l_283]; exact iI_nle (by omega) (by omega) (by omega)), gd_t (c283 hj), kcl (by omega), iI_s, Q_at, e]
  · unfold cpm
    rw [if_pos (by omega)]
    rfl
theorem M_bringBack {sp : Nat → Int32} {a : Nat → Int} (hs : ∀ j, j < 283 → sp j = iI (a j)) (b : Nat → Int) (y sx : Int64) : f_M_bringBack (Q b) y sp sx = some (Q (mix a b 283), sx) := by
  unfold f_M_bringBack
  suffices hq : rl2 (f_M_bringBack_2 sp sx) FUEL 0 (Q (mix a b 0)) = some (Q (mix a b 283), sx) by
    rw [mix_0] at hq
    exact hq
  refine seq2 (body := f_M_bringBack_2 sp sx) (fun j : Nat => iI j) (fun j => Q (mix a b j)) 283 (fun g => ?_) (fun j hj g => ?_) FUEL 0 (Nat.zero_le _) (fuel_lt (by omega))
  · unfold f_M_bringBack_2
    rw [if_pos (by rw [l_283]; exact (iI_le (by omega) (by omega) (by omega) (by omega)).mpr (by omega))]
  · unfold f_M_bringBack_2
    rw [if_neg (by rw [l_283]; exact iI_nle (by omega) (by omega) (by omega)), gd_t (c283 hj), kcl (by omega), iI_s, hs j hj, mix_s]
section RUN
variable {H : Int32} {dh dc : Nat → Int32} {dn : Int32}
/-- the rest of a script, from the command k on: the program stops there, or goes on; so does the reference -/
theorem run_loop {S : Nat} {nn : Nat} (hn : 1 ≤ nn ∧ nn ≤ 3) (hS : S < 100000 ^ nn) (o_69 : (Nat → Int32) × Int64) {a0 : Nat → Int} (h69 : ∀ j, j < 283 → o_69.1 j = iI (a0 j)) (O : SV) (hO : O.2.2.2.2.2.2.1 = dh ∧ O.2.2.2.2.2.2.2.1 = dc ∧ O.2.2.2.2.2.2.2.2.2.1 = dn ∧ O.2.2.2.2.2.2.2.2.2.2.2.2.1 = H) : ∀ (m k : Nat), k + m = nn → ∀ (c h k' p w : Nat → Int32) (n : Int32) (dt : Nat → Int32) (on : Int32) (rk : Nat → Int32) (no re : Int32) (y x : Int64) (a : Nat → Int), WF a → RSf c h k' p w n dh dc dt dn on rk H no re y a x → ∀ f, m + 3 ≤ f → ∃ v : Int, (v = -9 ∨ (0 ≤ v ∧ v < 3)) ∧ (∃ r, rl13 (f_TR_runScript_48 (iI nn) (lL S) O) f (iI k) c h k' p w n dt on rk no re y = some (0, iI v, r)) ∧ ∃ b, (∀ j, j < 283 → b j = a0 j) ∧ rl5 (f_M_runScript_79 (iI nn) (lL S) o_69) f (lL ((100000 ^ m : Nat) : Int)) (-9) (iI k) (Q a) x = some (iI v, Q b, o_69.2, o_69.1, o_69.2, 0) := by
  have hS2 : S < 9223372036854775808 := by
    have : (100000 : Nat) ^ nn ≤ 100000 ^ 3 := Nat.pow_le_pow_right (by omega) hn.2
    omega
  have bb : ∀ (b : Nat → Int) (y : Int64) (v : Int32), f_M_runScript_129 o_69 v (Q b) y = some (v, Q (mix a0 b 283), o_69.2, o_69.1, o_69.2, 0) := by
    intro b y v
    unfold f_M_runScript_129
    rw [M_bringBack h69, cal_some]
  intro m
  induction m with
  | zero =>
    intro k hk c h k' p w n dt on rk no re y x a hw hr f hf
    obtain ⟨f, rfl⟩ : ∃ g, f = g + 1 := ⟨f - 1, by omega⟩
    refine ⟨-9, Or.inl rfl, ⟨(c, h, k', p, w, n, O.2.2.2.2.2.2.1, O.2.2.2.2.2.2.2.1, dt, O.2.2.2.2.2.2.2.2.2.1, on, rk, O.2.2.2.2.2.2.2.2.2.2.2.2.1, no, re, y), ?_⟩, mix a0 a 283, fun j hj => mix_in hj, ?_⟩
    · rw [rl13]
      unfold f_TR_runScript_48
      rw [if_pos ((iI_le (by omega) (by omega) (by omega) (by omega)).mpr (by omega))]
      rfl
    · rw [rl5]
      unfold f_M_runScript_79
      rw [if_pos ((iI_le (by omega) (by omega) (by omega) (by omega)).mpr (by omega)), bb]
      rfl
  | succ m ih =>
    intro k hk c h k' p w n dt on rk no re y x a hw hr f hf
    obtain ⟨f, rfl⟩ : ∃ g, f = g + 1 := ⟨f - 1, by omega⟩
    have hg : ((S / 100000 ^ m % 100000 : Nat) : Int) < 100000 := by omega
    obtain ⟨z, c', h2', k2', p', w', n', dt', on', rk', no', re', x', y', a', z1, z2, z3, z4⟩ := cmd (g := ((S / 100000 ^ m % 100000 : Nat) : Int)) ⟨by omega, hg⟩ hw hr
    have pm : 0 < (100000 : Nat) ^ m ∧ (100000 : Nat) ^ m < 9223372036854775808 := by
      have h1 : 0 < (100000 : Nat) ^ m := Nat.pow_pos (by omega)
      have h2 : (100000 : Nat) ^ m ≤ 100000 ^ 2 := Nat.pow_le_pow_right (by omega) (by omega)
      omega
    have pm1 : (100000 : Nat) ^ (m + 1) < 9223372036854775808 := by
      have h2 : (100000 : Nat) ^ (m + 1) ≤ 100000 ^ 3 := Nat.pow_le_pow_right (by omega) (by omega)
      omega
    have e1 : lL ((100000 ^ (m + 1) : Nat) : Int) / 100000 = lL ((100000 ^ m : Nat) : Int) := by
      rw [show (100000 : Int64) = lL ((100000 : Nat) : Int) from rfl, lL_divN pm1 (by omega), Nat.pow_succ, Nat.mul_div_cancel _ (by omega)]
    have e2 : Int64.toInt32 (lL (S : Int) / lL ((100000 ^ m : Nat) : Int) - lL (S : Int) / lL ((100000 ^ m : Nat) : Int) / 100000 * 100000) = iI ((S / 100000 ^ m % 100000 : Nat) : Int) := by
      rw [lL_divN hS2 pm, lL_modN (Nat.lt_of_le_of_lt (Nat.div_le_self _ _) hS2), lL_32 (by omega)]
    have e3 : iI (nn : Int) - 1 - iI (k : Int) = iI (m : Int) := by
      rw [l_1, iI_sub, iI_sub]
      congr 1
      omega
    have ec : ∀ g, f_TR_runScript_48 (iI nn) (lL S) O (iI k) c h k' p w n dt on rk no re y g = if ¬ z = 0 then g (iI ((k + 1 : Nat) : Int)) c' h2' k2' p' w' n' dt' on' rk' no' re' x' else some (0, iI k, c', h2', k2', p', w', n', O.2.2.2.2.2.2.1, O.2.2.2.2.2.2.2.1, dt', O.2.2.2.2.2.2.2.2.2.1, on', rk', O.2.2.2.2.2.2.2.2.2.2.2.2.1, no', re', x') := by
      intro g
      unfold f_TR_runScript_48
      rw [if_neg (iI_nle (by omega) (by omega) (by omega)), e3, Scr_groupAt hS2 (by omega), cal_some, hO.1, hO.2.1, hO.2.2.1, hO.2.2.2, z2, cal_some, iI_s]
    have em : ∀ g, f_M_runScript_79 (iI nn) (lL S) o_69 (lL ((100000 ^ (m + 1) : Nat) : Int)) (-9) (iI k) (Q a) x g = g (lL ((100000 ^ m : Nat) : Int)) (if z = 0 then iI k else -9) (iI ((k + 1 : Nat) : Int)) (Q a') y' := by
      intro g
      unfold f_M_runScript_79 f_M_runScript_121
      rw [if_neg (iI_nle (by omega) (by omega) (by omega)), if_neg (by decide), e1, bnd_s, gd_t (by rw [ll_0, lL_eq (by omega) (by omega) (by omega) (by omega)]; omega), e2, z3, cal_some, iI_s]
      rcases z1 with rfl | rfl
      · rw [if_pos rfl, if_pos rfl]
      · rw [if_neg z10, if_neg z10]
    rcases z1 with rfl | rfl
    · obtain ⟨f, rfl⟩ : ∃ g, f = g + 1 := ⟨f - 1, by omega⟩
      refine ⟨k, Or.inr ⟨by omega, by omega⟩, ⟨(c', h2', k2', p', w', n', O.2.2.2.2.2.2.1, O.2.2.2.2.2.2.2.1, dt', O.2.2.2.2.2.2.2.2.2.1, on', rk', O.2.2.2.2.2.2.2.2.2.2.2.2.1, no', re', x'), ?_⟩, mix a0 a' 283, fun j hj => mix_in hj, ?_⟩
      · rw [rl13, ec, if_neg (fun z => z rfl)]
      · rw [rl5, em, if_pos rfl, rl5]
        unfold f_M_runScript_79
        by_cases q : nn ≤ k + 1
        · rw [if_pos ((iI_le (by omega) (by omega) (by omega) (by omega)).mpr (by omega)), bb]
        · rw [if_neg (iI_nle (by omega) (by omega) (by omega)), if_pos (by rw [l_0, iI_le (by omega) (by omega) (by omega) (by omega)]; omega), bb]
    · obtain ⟨hw', hr'⟩ := z4 rfl
      obtain ⟨v, v1, ⟨r, v2⟩, b, v3, v4⟩ := ih (k + 1) (by omega) c' h2' k2' p' w' n' dt' on' rk' no' re' x' y' a' hw' hr' f (by omega)
      refine ⟨v, v1, ⟨r, ?_⟩, b, v3, ?_⟩
      · rw [rl13, ec, if_pos z10]
        exact v2
      · rw [rl5, em, if_neg z10]
        exact v4
end RUN
