/-! how many different roots the keys have -/
def rmk (a : Nat → Int) : Nat → Nat
  | 0 => 0
  | m + 1 => if 0 ≤ a (5 + m) then rmk a m ||| 2 ^ (rt a (a (5 + m))).toNat else rmk a m
abbrev rtP (a : Nat → Int) (m : Nat) (i : Nat) : Prop := ∃ k, k < m ∧ 0 ≤ a (5 + k) ∧ rt a (a (5 + k)) = i
theorem rmk_lt {a : Nat → Int} (hw : WF a) : ∀ m, m ≤ 54 → rmk a m < 2 ^ 40 := by
  have b2 := hw.b2
  intro m
  induction m with
  | zero => intro _; rw [rmk]; decide
  | succ m ih =>
    intro hm
    rw [rmk]
    split
    next h =>
      have hr := rt_ok hw (key_ok hw (show m < 54 by omega)) h
      exact Nat.or_lt_two_pow (ih (by omega)) (Nat.pow_lt_pow_right (by omega) (by omega))
    next h => exact ih (by omega)
theorem rmk_bit {a : Nat → Int} (hw : WF a) (i : Nat) : ∀ m, m ≤ 54 → ((rmk a m).testBit i = true ↔ rtP a m i) := by
  intro m
  induction m with
  | zero =>
    intro _
    rw [rmk, Nat.zero_testBit]
    exact ⟨fun h => absurd h (by decide), fun ⟨k, h, _⟩ => absurd h (Nat.not_lt_zero k)⟩
  | succ m ih =>
    intro hm
    have ih := ih (by omega)
    have b2 := hw.b2
    rw [rmk]
    split
    next h =>
      have hr := rt_ok hw (key_ok hw (show m < 54 by omega)) h
      rw [Nat.testBit_or, Nat.testBit_two_pow, Bool.or_eq_true, ih, decide_eq_true_eq]
      constructor
      · rintro (⟨k, h1, h2⟩ | h1)
        · exact ⟨k, by omega, h2⟩
        · exact ⟨m, by omega, h, by omega⟩
      · rintro ⟨k, h1, h2, h3⟩
        rcases Nat.lt_or_ge k m with q | q
        · exact Or.inl ⟨k, q, h2, h3⟩
        · obtain rfl : k = m := by omega
          exact Or.inr (by omega)
    next h =>
      rw [ih]
      constructor
      · rintro ⟨k, h1, h2⟩
        exact ⟨k, by omega, h2⟩
      · rintro ⟨k, h1, h2, h3⟩
        rcases Nat.lt_or_ge k m with q | q
        · exact ⟨k, q, h2, h3⟩
        · obtain rfl : k = m := by omega
          exact absurd h2 h
theorem Str_differentRoots {c h k p w rk : Nat → Int32} {n : Int32} {a : Nat → Int} (hw : WF a) (hr : RRec c h k p w n a) (hk : RKey rk a) : f_Str_differentRoots p n rk = some (iI (cn (fun i => (rmk a 54).testBit i = true) 40)) := by
  have b2 := hw.b2
  unfold f_Str_differentRoots
  refine seq2 (body := f_Str_differentRoots_14 p n rk) (fun m : Nat => lN (rmk a m)) (fun m : Nat => iI m) 54 (fun g => ?_) (fun m hm g => ?_) FUEL 0 (Nat.zero_le _) (fuel_lt (by omega))
  · unfold f_Str_differentRoots_14
    rw [if_pos (by rw [l_54]; exact (iI_le (by omega) (by omega) (by omega) (by omega)).mpr (by omega)), L_pop (rmk_lt hw 54 (by omega)), cal_some]
  · have hz := key_ok hw hm
    unfold f_Str_differentRoots_14 f_Str_differentRoots_48
    rw [if_neg (by rw [l_54]; exact iI_nle (by omega) (by omega) (by omega)), gd_t (k54 hm), bnd_s, kcl (by omega), hk m hm, iI_s, rmk]
    by_cases q : 0 ≤ a (5 + m)
    · have hrt := rt_ok hw hz q
      rw [if_neg (by rw [l_9, iI_neg, n9_eq (by unfold ok at hz; omega)]; omega), Rec_rootOf hw hr hz q, cal_some, bnd_s, if_pos q, n9_pos hrt.1, show iI (rt a (a (5 + m))) = nI (rt a (a (5 + m))).toNat by rw [← iI_nat, Int.toNat_of_nonneg hrt.1], show (1 : Int64) = lN 1 from rfl, wb_shl 1 (by omega), Nat.one_mul, wb_or (Nat.lt_trans (rmk_lt hw m (by omega)) (by decide)) (Nat.lt_of_lt_of_le (Nat.pow_lt_pow_right (by omega) (show (rt a (a (5 + m))).toNat < 40 by omega)) (by decide))]
    · rw [if_pos (by rw [l_9, iI_neg, n9_eq (by unfold ok at hz; omega)]; omega), if_neg q]
