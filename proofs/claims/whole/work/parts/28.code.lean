/-! a code of four digits -/
def hi4 (k : Nat) (c : Int) : Int := if k = 0 then 4 else if k = 1 then (if c = 4 then 0 else 9) else if k = 3 ∧ c = 409 then 5 else 9
theorem rc_go {s t : Nat → Int32} {T : Nat → Int} {N : Nat} {p k : Nat} (hk : k < 4) {c : Int} (hc : 0 ≤ c ∧ c ≤ 409) (dg : Int32) (g : Int32 → Int32 → Int32 → Int32 → Int32 → Option (Int32 × Int32 × Int32 × Int32)) : f_M_readCode_9 t (iI N) 1 (iI k) (iI p) dg (iI c) g = f_M_readCode_69 t (iI N) g (iI k) (iI (hi4 k c)) (iI p) dg (iI c) := by
  unfold f_M_readCode_9 f_M_readCode_67
  rw [if_neg (by rw [l_4]; exact iI_nle (by omega) (by omega) (by omega)), if_neg (by decide)]
  unfold hi4
  by_cases q0 : k = 0
  · rw [if_neg (by rw [q0]; exact fun z => z rfl), if_pos q0]
    rfl
  · rw [if_pos (by rw [l_0, iI_eq (by omega) (by omega) (by omega) (by omega)]; omega), if_neg q0]
    by_cases q1 : k = 1
    · rw [if_neg (by rw [q1]; exact fun z => z rfl), if_pos q1]
      by_cases r : c = 4
      · rw [if_neg (by rw [r]; exact fun z => z rfl), if_pos r]
        rfl
      · rw [if_pos (by rw [l_4, iI_eq (by omega) (by omega) (by omega) (by omega)]; omega), if_neg r]
        rfl
    · rw [if_pos (by rw [l_1, iI_eq (by omega) (by omega) (by omega) (by omega)]; omega), if_neg q1]
      by_cases q3 : k = 3
      · rw [if_neg (by rw [q3]; exact fun z => z rfl)]
        by_cases r : c = 409
        · rw [if_neg (by rw [r]; exact fun z => z rfl), if_pos ⟨q3, r⟩]
          rfl
        · rw [if_pos (by rw [show (409 : Int32) = iI 409 from rfl, iI_eq (by omega) (by omega) (by omega) (by omega)]; omega), if_neg (fun z => r z.2)]
          rfl
      · rw [if_pos (by rw [l_3, iI_eq (by omega) (by omega) (by omega) (by omega)]; omega), if_neg (fun z => q3 z.1)]
        rfl
theorem hi4_b (k : Nat) (c : Int) : 0 ≤ hi4 k c ∧ hi4 k c ≤ 9 := by
  unfold hi4
  split
  · omega
  · split
    · split <;> omega
    · split <;> omega
theorem rc_t {s t : Nat → Int32} {T : Nat → Int} {N : Nat} (hx : TXT s t T N) {p k : Nat} (hk : k < 4) {c : Int} (hc : 0 ≤ c ∧ c ≤ 409) (hd : okd T N p 0 (hi4 k c)) (dg : Int32) (g : Int32 → Int32 → Int32 → Int32 → Int32 → Option (Int32 × Int32 × Int32 × Int32)) : f_M_readCode_9 t (iI N) 1 (iI k) (iI p) dg (iI c) g = g 1 (iI (k + 1 : Nat)) (iI (p + 1 : Nat)) (iI (T p - 48)) (iI (10 * c + (T p - 48))) := by
  have hb := hi4_b k c
  rw [rc_go (s := s) (T := T) hk hc]
  unfold f_M_readCode_69
  rw [l_0, M_digit_t hx (by omega) (by omega) hd, cal_some, iI_s, l_10, iI_mul, iI_add]
theorem rc_f {s t : Nat → Int32} {T : Nat → Int} {N : Nat} (hx : TXT s t T N) {p k : Nat} (hp : p < 2147483648) (hk : k < 4) {c : Int} (hc : 0 ≤ c ∧ c ≤ 409) (hd : ¬ okd T N p 0 (hi4 k c)) (dg : Int32) : ∃ dg' cd', ∀ g : Int32 → Int32 → Int32 → Int32 → Int32 → Option (Int32 × Int32 × Int32 × Int32), f_M_readCode_9 t (iI N) 1 (iI k) (iI p) dg (iI c) g = g 0 (iI (k + 1 : Nat)) (iI p) dg' cd' := by
  have hb := hi4_b k c
  obtain ⟨dg', e⟩ := M_digit_f hx hp (lo := 0) (by omega) (show sm (hi4 k c) by omega) hd dg
  refine ⟨dg', 10 * iI c + dg', fun g => ?_⟩
  rw [rc_go (s := s) (T := T) hk hc]
  unfold f_M_readCode_69
  show cal (f_M_digitTo t (iI N) (iI p) dg (iI 0) (iI (hi4 k c))) _ = _
  rw [e, cal_some, iI_s]
theorem rc_z {t : Nat → Int32} {l : Int32} {k : Nat} (hk : k < 5) (p dg cd : Int32) (g : Int32 → Int32 → Int32 → Int32 → Int32 → Option (Int32 × Int32 × Int32 × Int32)) : f_M_readCode_9 t l 0 (iI k) p dg cd g = some (0, p, dg, cd) := by
  unfold f_M_readCode_9
  by_cases q : k = 4
  · rw [if_pos (by rw [l_4, iI_le (by omega) (by omega) (by omega) (by omega)]; omega), gd_t (by decide)]
  · rw [if_neg (by rw [l_4]; exact iI_nle (by omega) (by omega) (by omega)), if_pos rfl, gd_t (by decide)]
theorem rc_e {t : Nat → Int32} {l : Int32} (p dg cd : Int32) (g : Int32 → Int32 → Int32 → Int32 → Int32 → Option (Int32 × Int32 × Int32 × Int32)) : f_M_readCode_9 t l 1 (iI (4 : Nat)) p dg cd g = some (1, p, dg, cd) := by
  unfold f_M_readCode_9
  rw [if_pos (by decide), gd_t (by decide)]
theorem code4 {s t : Nat → Int32} {T : Nat → Int} {N : Nat} (hx : TXT s t T N) {p : Nat} (hp : p < 2147483640) : (∃ (c : Int) (p' : Nat), 0 ≤ c ∧ c < 4096 ∧ p < p' ∧ p' ≤ N ∧ f_Rdr_readNumber (iI p) s (iI N) 4 (iI 0) (iI 4095) = some (iI c, iI p') ∧ ∀ dg cd, ∃ dg', f_M_readCode t (iI N) (iI p) dg cd = some (1, iI p', dg', iI c)) ∨ (∃ p' : Nat, p ≤ p' ∧ p' ≤ p + 4 ∧ f_Rdr_readNumber (iI p) s (iI N) 4 (iI 0) (iI 4095) = some (-9, iI p') ∧ ∀ dg cd, ∃ dg' cd', f_M_readCode t (iI N) (iI p) dg cd = some (0, iI p', dg', cd')) := by
  obtain ⟨m, hm⟩ := FUEL_s (n := 5) (by omega)
  have e1 : f_Rdr_readNumber (iI p) s (iI N) 4 (iI 0) (iI 4095) = f_Rdr_readNumber_8 s (iI N) (iI 0) (iI 4095) (lL 0) (iI (3 : Nat)) (iI p) (rl3 (f_Rdr_readNumber_8 s (iI N) (iI 0) (iI 4095)) (m + 4)) := by
    unfold f_Rdr_readNumber
    rw [bnd_s, hm, rl3]
    rfl
  have e2 : ∀ dg cd, f_M_readCode t (iI N) (iI p) dg cd = f_M_readCode_9 t (iI N) 1 (iI (0 : Nat)) (iI p) dg (iI 0) (rl5 (f_M_readCode_9 t (iI N)) (m + 4)) := by
    intro dg cd
    unfold f_M_readCode
    rw [hm, rl5]
    rfl
  simp only [e1, e2]
  by_cases q0 : okd T N p 0 4
  · rw [rn_t hx (by omega) (P := 1000) rfl (by omega) (by omega) (by omega) (by omega) ⟨q0.1, by omega, by omega⟩ (by omega) (by omega), rl3]
    simp only [rc_t hx (k := 0) (by omega) (c := 0) (by omega) q0, rl5]
    rw [show iI ((3 : Nat) - 1 : Int) = iI (2 : Nat) from rfl]
    generalize hc0 : 10 * (0 : Int) + (T p - 48) = c0
    by_cases q1 : okd T N (p + 1) 0 (hi4 1 c0)
    · have hq1 : (c0 = 4 → T (p + 1) - 48 ≤ 0) ∧ T (p + 1) - 48 ≤ 9 := by
        have := q1.2.2
        unfold hi4 at this
        rw [if_neg (by omega), if_pos rfl] at this
        split at this <;> omega
      rw [rn_t hx (by omega) (P := 100) rfl (by omega) (by omega) (by omega) (by omega) ⟨q1.1, by omega, by omega⟩ (by omega) (by omega), rl3]
      simp only [rc_t hx (k := 0 + 1) (by omega) (c := c0) (by omega) q1, rl5]
      rw [show iI ((2 : Nat) - 1 : Int) = iI (1 : Nat) from rfl]
      generalize hc1 : 10 * c0 + (T (p + 1) - 48) = c1
      by_cases q2 : okd T N (p + 1 + 1) 0 (hi4 2 c1)
      · have hq2 : T (p + 1 + 1) - 48 ≤ 9 := by
          have := q2.2.2
          unfold hi4 at this
          rw [if_neg (by omega), if_neg (by omega), if_neg (by omega)] at this
          exact this
        rw [rn_t hx (by omega) (P := 10) rfl (by omega) (by omega) (by omega) (by omega) ⟨q2.1, by omega, by omega⟩ (by omega) (by omega), rl3]
        simp only [rc_t hx (k := 0 + 1 + 1) (by omega) (c := c1) (by omega) q2, rl5]
        rw [show iI ((1 : Nat) - 1 : Int) = iI (0 : Nat) from rfl]
        generalize hc2 : 10 * c1 + (T (p + 1 + 1) - 48) = c2
        by_cases q3 : okd T N (p + 1 + 1 + 1) 0 (hi4 3 c2)
        · have hq3 : (c2 = 409 → T (p + 1 + 1 + 1) - 48 ≤ 5) ∧ T (p + 1 + 1 + 1) - 48 ≤ 9 := by
            have := q3.2.2
            unfold hi4 at this
            rw [if_neg (by omega), if_neg (by omega)] at this
            split at this <;> omega
          have hz := q3.1
          have hz2 := q3.2.1
          rw [rn_t hx (by omega) (P := 1) rfl (by omega) (by omega) (by omega) (by omega) ⟨q3.1, by omega, by omega⟩ (by omega) (by omega), rl3]
          simp only [rc_t hx (k := 0 + 1 + 1 + 1) (by omega) (c := c2) (by omega) q3, rl5]
          rw [show iI ((0 : Nat) - 1 : Int) = iI (-1) from rfl, rn_end (by omega)]
          exact Or.inl ⟨_, _, by omega, by omega, by omega, by omega, rfl, fun dg cd => ⟨_, rc_e _ _ _ _⟩⟩
        · rw [rn_f hx (by omega) (by omega) (P := 1) rfl (by omega) (by omega) (by omega) (by omega)]
          · refine Or.inr ⟨_, by omega, by omega, rfl, fun dg cd => ?_⟩
            obtain ⟨dg', cd', e⟩ := rc_f hx (p := p + 1 + 1 + 1) (by omega) (k := 3) (by omega) (c := c2) (by omega) q3 (iI (T (p + 1 + 1) - 48))
            exact ⟨dg', cd', by rw [show (0 : Nat) + 1 + 1 + 1 = 3 from rfl, e]; exact rc_z (by omega) _ _ _ _⟩
          · rintro ⟨⟨z1, z2, z3⟩, z4, z5⟩
            refine q3 ⟨z1, by omega, ?_⟩
            unfold hi4
            rw [if_neg (by omega), if_neg (by omega)]
            split <;> omega
      · rw [rn_f hx (by omega) (by omega) (P := 10) rfl (by omega) (by omega) (by omega) (by omega)]
        · refine Or.inr ⟨_, by omega, by omega, rfl, fun dg cd => ?_⟩
          obtain ⟨dg', cd', e⟩ := rc_f hx (p := p + 1 + 1) (by omega) (k := 2) (by omega) (c := c1) (by omega) q2 (iI (T (p + 1) - 48))
          exact ⟨dg', cd', by rw [show (0 : Nat) + 1 + 1 = 2 from rfl, e]; exact rc_z (by omega) _ _ _ _⟩
        · rintro ⟨⟨z1, z2, z3⟩, z4, z5⟩
          refine q2 ⟨z1, by omega, ?_⟩
          unfold hi4
          rw [if_neg (by omega), if_neg (by omega), if_neg (by omega)]
          omega
    · rw [rn_f hx (by omega) (by omega) (P := 100) rfl (by omega) (by omega) (by omega) (by omega)]
      · refine Or.inr ⟨_, by omega, by omega, rfl, fun dg cd => ?_⟩
        obtain ⟨dg', cd', e⟩ := rc_f hx (p := p + 1) (by omega) (k := 1) (by omega) (c := c0) (by omega) q1 (iI (T p - 48))
        exact ⟨dg', cd', by rw [show (0 : Nat) + 1 = 1 from rfl, e]; exact rc_z (by omega) _ _ _ _⟩
      · rintro ⟨⟨z1, z2, z3⟩, z4, z5⟩
        refine q1 ⟨z1, by omega, ?_⟩
        unfold hi4
        rw [if_neg (by omega), if_pos rfl]
        split <;> omega
  · rw [rn_f hx (by omega) (by omega) (P := 1000) rfl (by omega) (by omega) (by omega) (by omega)]
    · refine Or.inr ⟨_, by omega, by omega, rfl, fun dg cd => ?_⟩
      obtain ⟨dg', cd', e⟩ := rc_f hx (p := p) (by omega) (k := 0) (by omega) (c := 0) (by omega) q0 dg
      exact ⟨dg', cd', by rw [e]; exact rc_z (by omega) _ _ _ _⟩
    · rintro ⟨⟨z1, z2, z3⟩, z4, z5⟩
      exact q0 ⟨z1, by omega, by omega⟩
