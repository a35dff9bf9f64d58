theorem M_presses {a : Nat → Int} (hw : WF a) {h k : Int} (c : isK a h k) : f_M_presses (Q a) (iI h) (iI k) = some (nI (am a h (kr a h k)), Q (pr a (am a h (kr a h k)) (a 1).toNat)) := by
  have b1 := hw.b1
  unfold f_M_presses
  rw [M_acceptedBy hw c, cal_some]
  generalize hm : am a h (kr a h k) = m
  have hm6 : m < 64 := by rw [← hm]; exact am_lt hw _ _
  refine seq2 (body := f_M_presses_10 (nI m)) (fun i : Nat => iI i) (fun i => Q (pr a m i)) (a 1).toNat (fun f => ?_) (fun i hi f => ?_) FUEL 0 (Nat.zero_le _) (fuel_lt (by omega))
  · unfold f_M_presses_10
    rw [if_pos (by rw [Q_at, pr_out a m _ (fun d _ => by omega), iI_le (by omega) (by omega) (by omega) (by omega)]; omega)]
  · have hon := hw.on (show i < 6 by omega)
    unfold f_M_presses_10
    rw [if_neg (by rw [Q_at, pr_out a m _ (fun d _ => by omega), iI_le (by omega) (by omega) (by omega) (by omega)]; omega)]
    have hi6 : i < 6 := by omega
    rw [l_259, l_4, l_3, iI_mul, iI_add, iI_add, iI_cl (by omega) (by omega), show (259 + 4 * (i : Int) + 3).toNat = 262 + 4 * i by omega, gd_t (by rw [l_0, iI_lt (by omega) (by omega) (by omega) (by omega)]; omega), Q_at, pr_off a m (Nat.le_refl i), iI_nat, sh_b i hi6 m hm6]
    obtain ⟨x, hx⟩ := Int.eq_ofNat_of_zero_le hon.1.1
    rw [hx, iI_nat, xor_b x (by omega) _ (Nat.mod_lt _ (by omega)), ← iI_nat ((x + m / 2 ^ i % 2) % 2), Q_up, ← iI_nat i, l_1, iI_add, pr, hx]
    rfl
