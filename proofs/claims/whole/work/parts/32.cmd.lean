/-! a command of a script, in the program and in the reference -/
section CMD
variable {c h k p w : Nat → Int32} {n : Int32} {dh dc dt : Nat → Int32} {dn on : Int32} {rk : Nat → Int32} {H no re : Int32} {a : Nat → Int} {x : Int64}
def CO (dh dc : Nat → Int32) (dn H : Int32) (cl : Option (Int32 × (Nat → Int32) × (Nat → Int32) × (Nat → Int32) × (Nat → Int32) × (Nat → Int32) × Int32 × (Nat → Int32) × Int32 × (Nat → Int32) × Int32 × Int32 × Int64)) (mo : Option (Int32 × (Nat → Int32) × Int64)) : Prop :=
  ∃ z c' h' k' p' w' n' dt' on' rk' no' re' x' y' a', (z = 0 ∨ z = 1) ∧ cl = some (z, c', h', k', p', w', n', dt', on', rk', no', re', x') ∧ mo = some (z, Q a', y') ∧ (z = 1 → WF a' ∧ RSf c' h' k' p' w' n' dh dc dt' dn on' rk' H no' re' x' a' y')
theorem CO_0 {x' y' : Int64} : CO dh dc dn H (some (0, c, h, k, p, w, n, dt, on, rk, no, re, x')) (some (0, Q a, y')) := ⟨0, c, h, k, p, w, n, dt, on, rk, no, re, x', y', a, Or.inl rfl, rfl, rfl, fun z => absurd z (by decide)⟩
theorem CO_1 {x' y' : Int64} (hw : WF a) (hr : RSf c h k p w n dh dc dt dn on rk H no re x' a y') : CO dh dc dn H (some (1, c, h, k, p, w, n, dt, on, rk, no, re, x')) (some (1, Q a, y')) := ⟨1, c, h, k, p, w, n, dt, on, rk, no, re, x', y', a, Or.inr rfl, rfl, rfl, fun _ => ⟨hw, hr⟩⟩
theorem digs {g : Int} (hg : 0 ≤ g ∧ g < 100000) : (iI g / 1000) - (iI g / 1000) / 10 * 10 = iI (g / 1000 % 10) ∧ (iI g / 100) - (iI g / 100) / 10 * 10 = iI (g / 100 % 10) ∧ (iI g / 10) - (iI g / 10) / 10 * 10 = iI (g / 10 % 10) ∧ iI g - iI g / 10 * 10 = iI (g % 10) ∧ iI g / 10000 = iI (g / 10000) := by
  refine ⟨?_, ?_, ?_, ?_, ?_⟩
  · rw [l_1000, l_10, iI_div (by omega) (by omega) (by omega) (by omega), iI_rem (by omega) (by omega) (by omega) (by omega)]
  · rw [l_100, l_10, iI_div (by omega) (by omega) (by omega) (by omega), iI_rem (by omega) (by omega) (by omega) (by omega)]
  · rw [l_10, iI_div (by omega) (by omega) (by omega) (by omega), iI_rem (by omega) (by omega) (by omega) (by omega)]
  · rw [l_10, iI_rem (by omega) (by omega) (by omega) (by omega)]
  · rw [show (10000 : Int32) = iI 10000 from rfl, iI_div (by omega) (by omega) (by omega) (by omega)]
theorem M_in15 {v : Int} (hv : 0 ≤ v ∧ v ≤ 9) : f_M_in (Int32.toInt64 (iI v)) 1 5 = some (bI (1 ≤ v ∧ v ≤ 5)) := by
  rw [ll_1, ll_5, M_inI (by omega) (by omega) (by omega) (by omega) (by omega)]
theorem z10 : ¬ (1 : Int32) = 0 := by decide
theorem dz {v : Int} (hv : 0 ≤ v ∧ v ≤ 9) : (iI v = 0) ↔ v = 0 := by
  rw [l_0, iI_eq (by omega) (by omega) (by omega) (by omega)]
theorem dsum {v u : Int} (hv : 0 ≤ v ∧ v ≤ 9) (hu : 0 ≤ u ∧ u ≤ 9) : (iI v + iI u ≤ 0) ↔ (v = 0 ∧ u = 0) := by
  rw [iI_add, l_0, iI_le (by omega) (by omega) (by omega) (by omega)]
  omega
theorem dsm {v u : Int} (hv : 0 ≤ v ∧ v ≤ 9) (hu : 0 ≤ u ∧ u ≤ 9) : (iI v + iI u = 0) ↔ (v = 0 ∧ u = 0) := by
  rw [iI_add, l_0, iI_eq (by omega) (by omega) (by omega) (by omega)]
  omega
/-! each command by itself; d2 to d5 are the digits -/
theorem Scr_teaches_s (v1 v2 v3 v4 : Int) (s1 : 0 ≤ v1 ∧ v1 ≤ 9) (s2 : 0 ≤ v2 ∧ v2 ≤ 9) (s3 : 0 ≤ v3 ∧ v3 ≤ 9) (s4 : 0 ≤ v4 ∧ v4 ≤ 9) : f_Scr_teaches c h k p w n rk H no x (iI v1) (iI v2) (iI v3) (iI v4) = f_Scr_teaches_16 c h k p w n rk H no x (iI v1) (iI v2) (iI v3) (iI v4) (bI (v1 = v3 ∧ v2 = v4)) := by
  unfold f_Scr_teaches f_Scr_teaches_15
  by_cases q1 : v1 = v3
  · rw [if_neg (by rw [q1]; exact fun z => z rfl)]
    by_cases q2 : v2 = v4
    · rw [if_neg (by rw [q2]; exact fun z => z rfl), bI_t ⟨q1, q2⟩]
    · rw [if_pos (by rw [iI_eq (by omega) (by omega) (by omega) (by omega)]; exact q2), bI_f (fun z => q2 z.2)]
  · rw [if_pos (by rw [iI_eq (by omega) (by omega) (by omega) (by omega)]; exact q1), bI_f (fun z => q1 z.1)]
theorem M_acts_1 {d2 d3 d4 d5 : Int} (hw : WF a) (s2 : 0 ≤ d2 ∧ d2 ≤ 9) (s3 : 0 ≤ d3 ∧ d3 ≤ 9) (s4 : 0 ≤ d4 ∧ d4 ≤ 9) (s5 : 0 ≤ d5 ∧ d5 ≤ 9) : f_M_acts (Q a) x (iI 1) (iI d2) (iI d3) (iI d4) (iI d5) = if isK a d2 d3 ∧ isK a d4 d5 ∧ ¬ (d2 = d4 ∧ d3 = d5) then f_M_acts_64 (Q a) x (iI d2) (iI d3) (iI d4) (iI d5) else some (0, Q a, x) := by
  unfold f_M_acts
  rw [if_pos (show iI 1 = 1 from rfl), M_isKey hw (by omega) (by omega), cal_some, if_bI]
  by_cases q1 : isK a d2 d3
  · rw [if_pos q1, M_isKey hw (by omega) (by omega), cal_some, if_bI]
    by_cases q2 : isK a d4 d5
    · rw [if_pos q2]
      by_cases q3 : d2 = d4
      · rw [if_neg (by rw [q3]; exact fun z => z rfl)]
        by_cases q4 : d3 = d5
        · rw [if_pos (by rw [q4]), if_neg (fun z => z.2.2 ⟨q3, q4⟩)]
        · rw [if_neg (by rw [iI_eq (by omega) (by omega) (by omega) (by omega)]; exact q4), if_pos ⟨q1, q2, fun z => q4 z.2⟩]
      · rw [if_pos (by rw [iI_eq (by omega) (by omega) (by omega) (by omega)]; exact q3), if_pos ⟨q1, q2, fun z => q3 z.1⟩]
    · rw [if_neg q2, if_neg (fun z => q2 z.2.1)]
  · rw [if_neg q1, if_neg (fun z => q1 z.1)]
theorem cm1 {g : Int} (hg : 0 ≤ g ∧ g < 100000) (hv : g / 10000 = 1) (hw : WF a) (hr : RSf c h k p w n dh dc dt dn on rk H no re x a x) : CO dh dc dn H (f_Scr_succeeds c h k p w n dh dc dt dn on rk H no re x (iI g)) (f_M_succeeds (Q a) x (iI g)) := by
  have hr' := hr
  obtain ⟨h1, h2, h3, rfl, rfl, h6, h7⟩ := hr
  have b2 := hw.b2
  obtain ⟨E2, E3, E4, E5, E1⟩ := digs hg
  rw [hv] at E1
  unfold f_Scr_succeeds f_M_succeeds
  simp only [E1, E2, E3, E4, E5, bnd_s]
  have s2 : 0 ≤ g / 1000 % 10 ∧ g / 1000 % 10 ≤ 9 := by omega
  have s3 : 0 ≤ g / 100 % 10 ∧ g / 100 % 10 ≤ 9 := by omega
  have s4 : 0 ≤ g / 10 % 10 ∧ g / 10 % 10 ≤ 9 := by omega
  have s5 : 0 ≤ g % 10 ∧ g % 10 ≤ 9 := by omega
  generalize g / 1000 % 10 = d2 at *
  generalize g / 100 % 10 = d3 at *
  generalize g / 10 % 10 = d4 at *
  generalize g % 10 = d5 at *
  rw [if_pos (show iI 1 = 1 from rfl), M_in15 (by omega), cal_some, if_bI, if_pos (by omega), Scr_teaches_s d2 d3 d4 d5 s2 s3 s4 s5, M_acts_1 hw s2 s3 s4 s5]
  unfold f_Scr_teaches_16 f_M_acts_64
  rw [Str_hasKey hw (by omega) (by omega), cal_some, if_bI, if_nbI]
  by_cases q2 : isK a d4 d5
  · rw [if_pos q2]
    by_cases q3 : d2 = d4 ∧ d3 = d5
    · rw [if_pos q3, if_neg (fun z => z.2.2 q3), cal_some, cal_some, gd_t (Or.inl rfl), gd_t (Or.inl rfl)]
      exact CO_0
    · rw [if_neg q3]
      by_cases q1 : isK a d2 d3
      · rw [if_pos ⟨q1, q2, q3⟩, h1.1, Str_canTeach hw h3 q1, cal_some, M_canTeach hw q1, cal_some, if_nbI, if_nbI]
        by_cases q4 : 0 ≤ kr a d2 d3 ∧ a 2 < 40
        · rw [if_pos q4, if_pos q4, ← h1.1, Str_teachKey hw q4.2 h1 h3 x q1 q2 q4.1, cal_some, cal_some, M_teaches hw q4.2 x q1 q2 q4.1, cal_some, cal_some, gd_t (Or.inr rfl), gd_t (Or.inr rfl)]
          exact CO_1 (tch_WF hw q4.2 x q1 q2 q4.1) (RS_mks hw q4.2 q2 hr' (nextx x))
        · rw [if_neg q4, if_neg q4, cal_some, cal_some, gd_t (Or.inl rfl), gd_t (Or.inl rfl)]
          exact CO_0
      · rw [if_neg (fun z => q1 z.1), Str_canTeach_f hw (by omega) (by omega) q1, cal_some, if_neg (fun z => z rfl), cal_some, cal_some, gd_t (Or.inl rfl), gd_t (Or.inl rfl)]
        exact CO_0
  · rw [if_neg q2, if_neg (fun z => q2 z.2.1), cal_some, cal_some, gd_t (Or.inl rfl), gd_t (Or.inl rfl)]
    exact CO_0
end CMD
