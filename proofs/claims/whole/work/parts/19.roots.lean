/-! how many different roots the keys have -/
def rmk (a : Nat → Int) : Nat → Nat
  | 0 => 0
  | m + 1 => if 0 ≤ a (5 + m) then rmk a m ||| 2 ^ (rt a (a (5 + m))).toNat else rmk a m
abbrev rtP (a : Nat → Int) (m : Nat) (i : Nat) : Prop := ∃ k, k < m ∧ 0 ≤ a (5 + k) ∧ rt a (a (5 + k)) = i
theorem rmk_lt {a : Nat → Int} (hw : WF a) : ∀ m, m ≤ 54 → rmk a m < 2 ^ 40 := by
  have b2 := hw.b2
  intro m
  induction m with
  | zero => intro _; rw [rmk]; decide
  | succ m ih =>
    intro hm
    rw [rmk]
    split
    next h =>
      have hr := rt_ok hw (key_ok hw (show m < 54 by omega)) h
      exact Nat.or_lt_two_pow (ih (by omega)) (Nat.pow_lt_pow_right (by omega) (by omega))
    next h => exact ih (by omega)
theorem rmk_bit {a : Nat → Int} (hw : WF a) (i : Nat) : ∀ m, m ≤ 54 → ((rmk a m).testBit i = true ↔ rtP a m i) := by
  intro m
  induction m with
  | zero =>
    intro _
    rw [rmk, Nat.zero_testBit]
    exact ⟨fun h => absurd h (by decide), fun ⟨k, h, _⟩ => absurd h (Nat.not_lt_zero k)⟩
  | succ m ih =>
    intro hm
    have ih := ih (by omega)
    have b2 := hw.b2
    rw [rmk]
    split
    next h =>
      have hr := rt_ok hw (key_ok hw (show m < 54 by omega)) h
      rw [Nat.testBit_or, Nat.testBit_two_pow, Bool.or_eq_true, ih, decide_eq_true_eq]
      constructor
      · rintro (⟨k, h1, h2⟩ | h1)
        · exact ⟨k, by omega, h2⟩
        · exact ⟨m, by omega, h, by omega⟩
      · rintro ⟨k, h1, h2, h3⟩
        rcases Nat.lt_or_ge k m with q | q
        · exact Or.inl ⟨k, q, h2, h3⟩
        · obtain rfl : k = m := by omega
          exact Or.inr (by omega)
    next h =>
      rw [ih]
      constructor
      · rintro ⟨k, h1, h2⟩
        exact ⟨k, by omega, h2⟩
      · rintro ⟨k, h1, h2, h3⟩
        rcases Nat.lt_or_ge k m with q | q
        · exact ⟨k, q, h2, h3⟩
        · obtain rfl : k = m := by omega
          exact absurd h2 h
theorem Str_differentRoots {c h k p w rk : Nat → Int32} {n : Int32} {a : Nat → Int} (hw : WF a) (hr : RRec c h k p w n a) (hk : RKey rk a) : f_Str_differentRoots p n rk = some (iI (cn (fun i => (rmk a 54).testBit i = true) 40)) := by
  have b2 := hw.b2
  unfold f_Str_differentRoots
  refine seq2 (body := f_Str_differentRoots_14 p n rk) (fun m : Nat => lN (rmk a m)) (fun m : Nat => iI m) 54 (fun g => ?_) (fun m hm g => ?_) FUEL 0 (Nat.zero_le _) (fuel_lt (by omega))
  · unfold f_Str_differentRoots_14
    rw [if_pos (by rw [l_54]; exact (iI_le (by omega) (by omega) (by omega) (by omega)).mpr (by omega)), L_pop (rmk_lt hw 54 (by omega)), cal_some]
  · have hz := key_ok hw hm
    unfold f_Str_differentRoots_14 f_Str_differentRoots_48
    rw [if_neg (by rw [l_54]; exact iI_nle (by omega) (by omega) (by omega)), gd_t (k54 hm), bnd_s, kcl (by omega), hk m hm, iI_s, rmk]
    by_cases q : 0 ≤ a (5 + m)
    · have hrt := rt_ok hw hz q
      rw [if_neg (by rw [l_9, iI_neg, n9_eq (by unfold ok at hz; omega)]; omega), Rec_rootOf hw hr hz q, cal_some, bnd_s, if_pos q, n9_pos hrt.1, show iI (rt a (a (5 + m))) = nI (rt a (a (5 + m))).toNat by rw [← iI_nat, Int.toNat_of_nonneg hrt.1], show (1 : Int64) = lN 1 from rfl, wb_shl 1 (by omega), Nat.one_mul, wb_or (Nat.lt_trans (rmk_lt hw m (by omega)) (by decide)) (Nat.lt_of_lt_of_le (Nat.pow_lt_pow_right (by omega) (show (rt a (a (5 + m))).toNat < 40 by omega)) (by decide))]
    · rw [if_pos (by rw [l_9, iI_neg, n9_eq (by unfold ok at hz; omega)]; omega), if_neg q]
theorem M_rootMany {a : Nat → Int} (hw : WF a) : f_M_rootMany (Q a) = some (iI (cn (fun i => (rmk a 54).testBit i = true) 40)) := by
  have b0 := hw.b0
  have b2 := hw.b2
  have ext : ∀ i, rtP a 54 i ↔ rtP a (6 * (a 0).toNat) i := by
    intro i
    constructor
    · rintro ⟨k, h1, h2, h3⟩
      rcases Nat.lt_or_ge k (6 * (a 0).toNat) with q | q
      · exact ⟨k, q, h2, h3⟩
      · have := (hw.key h1).2.2 (by omega)
        omega
    · rintro ⟨k, h1, h2⟩
      exact ⟨k, by omega, h2⟩
  have red : cn (fun i => (rmk a 54).testBit i = true) 40 = cn (fun i => (rmk a 54).testBit i = true) (a 2).toNat := by
    refine cn_ext (by omega) (fun i h1 h2 h3 => ?_)
    obtain ⟨k, g1, g2, g3⟩ := (rmk_bit hw i 54 (by omega)).mp h3
    have := rt_ok hw (key_ok hw g1) g2
    omega
  have he : ∀ i, (rmk a 54).testBit i = true ↔ (rmk a (6 * (a 0).toNat)).testBit i = true := fun i => by rw [rmk_bit hw i _ (by omega), rmk_bit hw i _ (by omega), ext]
  rw [red]
  clear red ext
  generalize hW : rmk a 54 = W at *
  unfold f_M_rootMany
  refine seq2 (body := f_M_rootMany_4 (Q a)) (fun i : Nat => iI (cn (fun i => W.testBit i = true) i)) (fun i : Nat => iI i) (a 2).toNat (fun g => ?_) (fun i hi g => ?_) FUEL 0 (Nat.zero_le _) (fuel_lt (by omega))
  · unfold f_M_rootMany_4
    rw [if_pos (by rw [Q_at, iI_le (by omega) (by omega) (by omega) (by omega)]; omega)]
  · unfold f_M_rootMany_4
    rw [if_neg (by rw [Q_at]; exact iI_nle (by omega) (by omega) (by omega))]
    suffices h : rl4 (f_M_rootMany_19 (Q a) g) FUEL (iI (cn (fun i => W.testBit i = true) i)) (iI i) (if (rmk a 0).testBit i = true then 1 else 0) (iI ((0 : Nat) : Int)) = g (iI (cn (fun i => W.testBit i = true) (i + 1))) (iI ((i + 1 : Nat) : Int)) by
      rw [if_neg (by rw [rmk, Nat.zero_testBit]; decide)] at h
      exact h
    refine seq4 (body := f_M_rootMany_19 (Q a) g) (fun _ => iI (cn (fun i => W.testBit i = true) i)) (fun _ => iI i) (fun m : Nat => if (rmk a m).testBit i = true then 1 else 0) (fun m : Nat => iI m) (6 * (a 0).toNat) (fun f => ?_) (fun m hm f => ?_) FUEL 0 (Nat.zero_le _) (fuel_lt (by omega))
    · have e := (he i).symm
      unfold f_M_rootMany_19 f_M_rootMany_88
      rw [if_pos (by rw [Q_at, l_6, iI_mul, iI_le (by omega) (by omega) (by omega) (by omega)]; omega), bnd_s, bnd_s, iI_s, iI_p0, iI_p1, cn]
      by_cases q : W.testBit i = true
      · rw [if_pos (e.mpr q), if_neg (by decide), if_pos q]
      · rw [if_neg (fun z => q (e.mp z)), if_pos (by rfl), if_neg q]
    · have hz := key_ok hw (show m < 54 by omega)
      have e1 := rmk_bit hw i m (by omega)
      unfold f_M_rootMany_19 f_M_rootMany_66 f_M_rootMany_70 f_M_rootMany_71
      rw [if_neg (by rw [Q_at, l_6, iI_mul]; exact iI_nle (by omega) (by omega) (by omega)), gd_t (m54 (by omega)), mcl (by omega), Q_at, iI_s, rmk]
      by_cases q : (rmk a m).testBit i = true
      · rw [if_pos q, if_pos (by decide)]
        by_cases q2 : 0 ≤ a (5 + m)
        · rw [if_pos q2, if_pos (by rw [Nat.testBit_or, q]; rfl)]
        · rw [if_neg q2, if_pos q]
      · rw [if_neg q, if_neg (by decide)]
        by_cases q2 : 0 ≤ a (5 + m)
        · have hrt := rt_ok hw hz q2
          have e2 : (rmk a m ||| 2 ^ (rt a (a (5 + m))).toNat).testBit i = true ↔ rt a (a (5 + m)) = i := by
            rw [Nat.testBit_or, Nat.testBit_two_pow, Bool.or_eq_true, decide_eq_true_eq]
            constructor
            · rintro (z | z)
              · exact absurd z q
              · omega
            · intro z; exact Or.inr (by omega)
          rw [if_pos q2, if_neg (by rw [iI_neg0 (by unfold ok at hz; omega)]; omega), M_rootOf hw hz q2, cal_some]
          by_cases q3 : rt a (a (5 + m)) = i
          · rw [if_neg (by rw [q3]; exact fun z => z rfl), if_pos (e2.mpr q3)]
          · rw [if_pos (by rw [iI_eq (by omega) (by omega) (by omega) (by omega)]; exact q3), if_neg (fun z => q3 (e2.mp z))]
        · rw [if_neg q2, if_neg q, if_pos (by rw [iI_neg0 (by unfold ok at hz; omega)]; omega)]
