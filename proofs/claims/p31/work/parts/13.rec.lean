def rm_X2_next : Room := { frames := 0, cells := 0, slots := 0, locals := 0 }
set_option maxHeartbeats 4000000 in
set_option maxRecDepth 100000 in
theorem c_X2_next (l : Launch) (D : va_G) (cC cI cJ cZ cO : ClassId) (p0 : Int64) (out : Int64)
    (hf : f_Noi_next p0 = some out) : PCon l yX2_next wsX2_next rm_X2_next D (tyA cC cI cJ cZ cO) [.long p0] [] (.long out) := by
  refine pc_J (own := RX2) (cc := cX2_next) (maxL := 2) (by decide) rfl rfl (Nat.le_of_ble_eq_true rfl) ?_
  intro p e s m args below meth c ls Q hx hb hts hown hcf hP hK hl hret
  have hl : lv_has ls 2 [(0, .long p0)] := hl
  refine lv_lload_n hx hb dX2_next_0 rfl (lv_at hl 0 rfl) ?_
  refine lv_ldc2 hx hb hown (hts (.constantLong RX2 9 (6364136223846793005)) (List.mem_of_getElem? (i := 1) rfl)) dX2_next_1 ?_
  refine lv_lmul hx hb dX2_next_4 ?_
  refine lv_ldc2 hx hb hown (hts (.constantLong RX2 11 (1442695040888963407)) (List.mem_of_getElem? (i := 2) rfl)) dX2_next_5 ?_
  refine lv_ladd hx hb dX2_next_8 ?_
  have e_out := Option.some.inj hf
  subst e_out
  exact hret _ _ dX2_next_9
def rm_X2_wrongBit : Room := { frames := 0, cells := 0, slots := 0, locals := 0 }
set_option maxHeartbeats 4000000 in
set_option maxRecDepth 100000 in
theorem c_X2_wrongBit (l : Launch) (D : va_G) (cC cI cJ cZ cO : ClassId) (p0 : Int64) (p1 : Int32) (p2 : Int32) (out : Int32)
    (hf : f_Noi_wrongBit p0 p1 p2 = some out) : PCon l yX2_wrongBit wsX2_wrongBit rm_X2_wrongBit D (tyA cC cI cJ cZ cO) [.long p0, .int p1, .int p2] [] (.int out) := by
  refine pc_I (own := RX2) (cc := cX2_wrongBit) (maxL := 5) (by decide) rfl rfl (Nat.le_of_ble_eq_true rfl) ?_
  intro p e s m args below meth c ls Q hx hb hts hown hcf hP hK hl hret
  have hl : lv_has ls 5 [(0, .long p0), (2, .int p1), (3, .int p2)] := hl
  refine lv_lload_n hx hb dX2_wrongBit_0 rfl (lv_at hl 0 rfl) ?_
  refine lv_bipush (v := 33) hx hb dX2_wrongBit_1 (by decide) ?_
  refine lv_lushr hx hb dX2_wrongBit_3 rfl ?_
  refine lv_l2i hx hb dX2_wrongBit_4 rfl ?_
  refine lv_topi (fun x4_v5 e_x4_v5 => ?_)
  have hf := bnd_x e_x4_v5 hf
  refine lv_istore (lv' := [(4, .int x4_v5), (0, .long p0), (2, .int p1), (3, .int p2)]) hx hb dX2_wrongBit_5 hl (by decide) rfl (fun ls hl => ?_)
  refine lv_iload hx hb dX2_wrongBit_7 (lv_at hl 0 rfl) ?_
  refine lv_bipush (v := 10) hx hb dX2_wrongBit_9 (by decide) ?_
  refine lv_irem hx hb dX2_wrongBit_11 (by decide) ?_
  refine lv_iload_n hx hb dX2_wrongBit_12 rfl (lv_at hl 2 rfl) ?_
  refine lv_iload_n hx hb dX2_wrongBit_13 rfl (lv_at hl 3 rfl) ?_
  refine lv_imul hx hb dX2_wrongBit_14 ?_
  refine lv_icmp_ge (tgt := 29) hx hb dX2_wrongBit_15 (by decide) (fun c_15 => ?_) (fun c_15 => ?_)
  · have hf := ite_t c_15 hf
    refine lv_bipush (v := (-9)) hx hb dX2_wrongBit_29 (by decide) ?_
    have e_out := Option.some.inj hf
    subst e_out
    exact hret _ _ dX2_wrongBit_31
  · have hf := ite_f c_15 hf
    refine lv_iload hx hb dX2_wrongBit_18 (lv_at hl 0 rfl) ?_
    refine lv_bipush (v := 16) hx hb dX2_wrongBit_20 (by decide) ?_
    refine lv_idiv hx hb dX2_wrongBit_22 (by decide) ?_
    refine lv_bipush (v := 12) hx hb dX2_wrongBit_23 (by decide) ?_
    refine lv_irem hx hb dX2_wrongBit_25 (by decide) ?_
    refine lv_goto (tgt := 31) hx hb dX2_wrongBit_26 (by decide) ?_
    have e_out := Option.some.inj hf
    subst e_out
    exact hret _ _ dX2_wrongBit_31
def rm_X2_changed : Room := { frames := 0, cells := 0, slots := 0, locals := 0 }
set_option maxHeartbeats 4000000 in
set_option maxRecDepth 100000 in
theorem c_X2_changed (l : Launch) (D : va_G) (cC cI cJ cZ cO : ClassId) (p0 : Int32) (p1 : Int32) (out : Int32)
    (hf : f_Noi_changed p0 p1 = some out) : PCon l yX2_changed wsX2_changed rm_X2_changed D (tyA cC cI cJ cZ cO) [.int p0, .int p1] [] (.int out) := by
  refine pc_I (own := RX2) (cc := cX2_changed) (maxL := 2) (by decide) rfl rfl (Nat.le_of_ble_eq_true rfl) ?_
  intro p e s m args below meth c ls Q hx hb hts hown hcf hP hK hl hret
  have hl : lv_has ls 2 [(0, .int p0), (1, .int p1)] := hl
  refine lv_iload_n hx hb dX2_changed_0 rfl (lv_at hl 1 rfl) ?_
  refine lv_bipush (v := (-9)) hx hb dX2_changed_1 (by decide) ?_
  refine lv_icmp_ne (tgt := 10) hx hb dX2_changed_3 (by decide) (fun c_3 => ?_) (fun c_3 => ?_)
  · have hf := ite_t c_3 hf
    refine lv_iload_n hx hb dX2_changed_10 rfl (lv_at hl 0 rfl) ?_
    refine lv_iconst (v := 1) hx hb dX2_changed_11 (by decide) ?_
    refine lv_iload_n hx hb dX2_changed_12 rfl (lv_at hl 1 rfl) ?_
    refine lv_ishl hx hb dX2_changed_13 ?_
    refine lv_ixor hx hb dX2_changed_14 ?_
    have e_out := Option.some.inj hf
    subst e_out
    exact hret _ _ dX2_changed_15
  · have hf := ite_f (not_not_intro c_3) hf
    refine lv_iload_n hx hb dX2_changed_6 rfl (lv_at hl 0 rfl) ?_
    refine lv_goto (tgt := 15) hx hb dX2_changed_7 (by decide) ?_
    have e_out := Option.some.inj hf
    subst e_out
    exact hret _ _ dX2_changed_15
def rm_X2_learned : Room := { frames := 1, cells := 0, slots := 0, locals := 24 }
set_option maxHeartbeats 4000000 in
set_option maxRecDepth 100000 in
theorem c_X2_learned (l : Launch) (D : va_G) (cC cI cJ cZ cO : ClassId) (p0 : Int32) (p1 : Int64) (p2 : Int32) (p3 : Int32) (out : Int32)
    (hf : f_Noi_learned p0 p1 p2 p3 = some out) : PCon l yX2_learned wsX2_learned rm_X2_learned D (tyA cC cI cJ cZ cO) [.int p0, .long p1, .int p2, .int p3] [] (.int out) := by
  refine pc_I (own := RX2) (cc := cX2_learned) (maxL := 5) (by decide) rfl rfl (Nat.le_of_ble_eq_true rfl) ?_
  intro p e s m args below meth c ls Q hx hb hts hown hcf hP hK hl hret
  have hl : lv_has ls 5 [(0, .int p0), (1, .long p1), (3, .int p2), (4, .int p3)] := hl
  refine lv_iload_n hx hb dX2_learned_0 rfl (lv_at hl 0 rfl) ?_
  refine lv_lload_n hx hb dX2_learned_1 rfl (lv_at hl 1 rfl) ?_
  refine lv_iload_n hx hb dX2_learned_2 rfl (lv_at hl 2 rfl) ?_
  refine lv_iload hx hb dX2_learned_3 (lv_at hl 3 rfl) ?_
  obtain ⟨o_5, h_5, hf⟩ := cal_e hf
  refine pcS (n := 3) [.long p1, .int p2, .int p3] [.int p0] [] hcf (c_X2_wrongBit l D cC cI cJ cZ cO p1 p2 p3 o_5 h_5) gX2_learned_X2_wrongBit rfl (by decide +kernel) ⟨rfl, rfl⟩ ⟨Nat.le_of_ble_eq_true rfl, Nat.le_of_ble_eq_true rfl⟩ ⟨Nat.le_of_ble_eq_true rfl, Nat.le_of_ble_eq_true rfl⟩ hK hP rfl rfl hl.1 rfl (Nat.le_of_ble_eq_true rfl) dX2_learned_5 ?_
  obtain ⟨o_8, h_8, hf⟩ := cal_e hf
  refine pcS (n := 2) [.int p0, .int o_5] [] [] hcf (c_X2_changed l D cC cI cJ cZ cO p0 o_5 o_8 h_8) gX2_learned_X2_changed rfl (by decide +kernel) ⟨rfl, rfl⟩ ⟨Nat.le_of_ble_eq_true rfl, Nat.le_of_ble_eq_true rfl⟩ ⟨Nat.le_of_ble_eq_true rfl, Nat.le_of_ble_eq_true rfl⟩ hK hP rfl rfl hl.1 rfl (Nat.le_of_ble_eq_true rfl) dX2_learned_8 ?_
  have e_out := Option.some.inj hf
  subst e_out
  exact hret _ _ dX2_learned_11
def rm_X8_signAt : Room := { frames := 0, cells := 0, slots := 0, locals := 0 }
set_option maxHeartbeats 4000000 in
set_option maxRecDepth 100000 in
theorem c_X8_signAt (l : Launch) (D : va_G) (cC cI cJ cZ cO : ClassId) (t : Nat) (t_signs : Nat) (signs : Nat → Int32) (length : Int32) (p0 : Int32) (out : Int32)
    (hf : f_Txt_signAt signs length p0 = some out) : PCon l yX8_signAt wsX8_signAt rm_X8_signAt D (tyA cC cI cJ cZ cO) [.ref t, .int p0] [(t, .inr (6, [.ref t_signs, .int length])), (t_signs, .inl (cC, 120, .inl signs))] (.int out) := by
  have iX8 : ∀ w ∈ wsX80, w ∈ wsX8_signAt := (fun _ h => List.mem_cons_of_mem _ (List.mem_append_right _ h))
  refine pc_I (own := RX8) (cc := cX8_signAt) (maxL := 2) (by decide) rfl rfl (Nat.le_of_ble_eq_true rfl) ?_
  intro p e s m args below meth c ls Q hx hb hts hown hcf hP hK hl hret
  have hl : lv_has ls 2 [(0, .ref t), (1, .int p0)] := hl
  refine lv_iload_n hx hb dX8_signAt_0 rfl (lv_at hl 1 rfl) ?_
  refine lv_if_lt (tgt := 27) hx hb dX8_signAt_1 (by decide) (fun c_1 => ?_) (fun c_1 => ?_)
  · have hf := ite_t c_1 hf
    refine lv_bipush (v := (-9)) hx hb dX8_signAt_27 (by decide) ?_
    have e_out := Option.some.inj hf
    subst e_out
    exact hret _ _ dX8_signAt_29
  · have hf := ite_f c_1 hf
    refine lv_iload_n hx hb dX8_signAt_4 rfl (lv_at hl 1 rfl) ?_
    refine lv_aload_n hx hb dX8_signAt_5 rfl (lv_at hl 0 rfl) ?_
    refine va_get (D := D) (ci := 6) (v := .int length) (C := RX8) (T := TX8) (N := 2) hx hb hts iX8 hown hK.1 hP 0 rfl rfl 1 (by decide) (hts (.fieldLink RX8 15 "TaughtRemotes$Text" "length" "I") (List.mem_of_getElem? (i := 1) rfl)) (fun _ h9 => h9) rfl dX8_signAt_6 ?_
    refine lv_icmp_ge (tgt := 27) hx hb dX8_signAt_9 (by decide) (fun c_9 => ?_) (fun c_9 => ?_)
    · have hf := ite_t c_9 hf
      refine lv_bipush (v := (-9)) hx hb dX8_signAt_27 (by decide) ?_
      have e_out := Option.some.inj hf
      subst e_out
      exact hret _ _ dX8_signAt_29
    · have hf := ite_f c_9 hf
      refine lv_iload_n hx hb dX8_signAt_12 rfl (lv_at hl 1 rfl) ?_
      refine lv_bipush (v := 120) hx hb dX8_signAt_13 (by decide) ?_
      refine lv_icmp_ge (tgt := 27) hx hb dX8_signAt_15 (by decide) (fun c_15 => ?_) (fun c_15 => ?_)
      · have hf := ite_t c_15 hf
        refine lv_bipush (v := (-9)) hx hb dX8_signAt_27 (by decide) ?_
        have e_out := Option.some.inj hf
        subst e_out
        exact hret _ _ dX8_signAt_29
      · have hf := ite_f c_15 hf
        refine lv_aload_n hx hb dX8_signAt_18 rfl (lv_at hl 0 rfl) ?_
        refine va_get (D := D) (ci := 6) (v := .ref t_signs) (C := RX8) (T := TX8) (N := 2) hx hb hts iX8 hown hK.1 hP 0 rfl rfl 0 (by decide) (hts (.fieldLink RX8 9 "TaughtRemotes$Text" "signs" "[C") (List.mem_of_getElem? (i := 2) rfl)) (fun _ h9 => h9) rfl dX8_signAt_19 ?_
        refine lv_iload_n hx hb dX8_signAt_22 rfl (lv_at hl 1 rfl) ?_
        obtain ⟨b_23, hf⟩ := gd_e hf
        refine r_cald hx hb hK hP 1 0 rfl rfl rfl (vin b_23) dX8_signAt_23 ?_
        refine lv_goto (tgt := 29) hx hb dX8_signAt_24 (by decide) ?_
        have e_out := Option.some.inj hf
        subst e_out
        exact hret _ _ dX8_signAt_29
def rm_X4_clear : Room := { frames := 0, cells := 0, slots := 0, locals := 0 }
set_option maxHeartbeats 4000000 in
set_option maxRecDepth 100000 in
theorem c_X4_clear (l : Launch) (D : va_G) (cC cI cJ cZ cO : ClassId) (t : Nat) (t_codes : Nat) (t_houses : Nat) (t_keys : Nat) (t_parents : Nat) (t_wrongBits : Nat) (codes : Nat → Int32) (houses : Nat → Int32) (keys : Nat → Int32) (parents : Nat → Int32) (wrongBits : Nat → Int32) (count : Int32) (out : Int32)
    (hf : f_Rec_clear count = some out) : WCon l yX4_clear wsX4_clear rm_X4_clear D (tyA cC cI cJ cZ cO) [.ref t] [(t, .inr (3, [.ref t_codes, .ref t_houses, .ref t_keys, .ref t_parents, .ref t_wrongBits, .int count])), (t_codes, .inl (cI, 40, .inl codes)), (t_houses, .inl (cI, 40, .inl houses)), (t_keys, .inl (cI, 40, .inl keys)), (t_parents, .inl (cI, 40, .inl parents)), (t_wrongBits, .inl (cI, 40, .inl wrongBits))] none [(t, .inr (3, [.ref t_codes, .ref t_houses, .ref t_keys, .ref t_parents, .ref t_wrongBits, .int out])), (t_codes, .inl (cI, 40, .inl codes)), (t_houses, .inl (cI, 40, .inl houses)), (t_keys, .inl (cI, 40, .inl keys)), (t_parents, .inl (cI, 40, .inl parents)), (t_wrongBits, .inl (cI, 40, .inl wrongBits))] 0 0 := by
  have iX4 : ∀ w ∈ wsX40, w ∈ wsX4_clear := (fun _ h => List.mem_cons_of_mem _ (List.mem_append_right _ h))
  refine wc_V (own := RX4) (cc := cX4_clear) (maxL := 1) (by decide) rfl rfl (Nat.le_of_ble_eq_true rfl) ?_
  intro p e s m args below meth c ls A Q hx hb hts hown hcf hP hK hD hA hS hl hret
  have hl : lv_has ls 1 [(0, .ref t)] := hl
  refine lv_aload_n hx hb dX4_clear_0 rfl (lv_at hl 0 rfl) ?_
  refine lv_iconst (v := 0) hx hb dX4_clear_1 (by decide) ?_
  refine va_put (D := D) (ci := 3) (v := .int 0) (ty := .int) (C := RX4) (T := TX4) (N := 6) hx hb hts iX4 tyX4 tyX4_ok nmX4 hown hK.1 hP hD hS 0 rfl rfl 5 (by decide) (hts (.fieldLink RX4 27 "TaughtRemotes$Records" "count" "I") (List.mem_of_getElem? (i := 1) rfl)) (fun _ h9 => h9) rfl (by decide +kernel) rfl rfl (Nat.le_of_ble_eq_true rfl) dX4_clear_2 (fun H locs (hP : va_P D vwCl [(t, .inr (3, [.ref t_codes, .ref t_houses, .ref t_keys, .ref t_parents, .ref t_wrongBits, .int 0])), (t_codes, .inl (cI, 40, .inl codes)), (t_houses, .inl (cI, 40, .inl houses)), (t_keys, .inl (cI, 40, .inl keys)), (t_parents, .inl (cI, 40, .inl parents)), (t_wrongBits, .inl (cI, 40, .inl wrongBits))] H) (hD : va_D A [(t, .inr (3, [.ref t_codes, .ref t_houses, .ref t_keys, .ref t_parents, .ref t_wrongBits, .int 0])), (t_codes, .inl (cI, 40, .inl codes)), (t_houses, .inl (cI, 40, .inl houses)), (t_keys, .inl (cI, 40, .inl keys)), (t_parents, .inl (cI, 40, .inl parents)), (t_wrongBits, .inl (cI, 40, .inl wrongBits))]) hS => ?_)
  have e_out := Option.some.inj hf
  subst e_out
  exact hret _ _ _ _ _ _ dX4_clear_5 (Nat.zero_le _) (Nat.zero_le _) hP hD hS
def rm_X8_length : Room := { frames := 0, cells := 0, slots := 0, locals := 0 }
set_option maxHeartbeats 4000000 in
set_option maxRecDepth 100000 in
theorem c_X8_length (l : Launch) (D : va_G) (cC cI cJ cZ cO : ClassId) (t : Nat) (t_signs : Nat) (signs : Nat → Int32) (length : Int32) (out : Int32)
    (hf : f_Txt_length length = some out) : PCon l yX8_length wsX8_length rm_X8_length D (tyA cC cI cJ cZ cO) [.ref t] [(t, .inr (6, [.ref t_signs, .int length])), (t_signs, .inl (cC, 120, .inl signs))] (.int out) := by
  have iX8 : ∀ w ∈ wsX80, w ∈ wsX8_length := (fun _ h => List.mem_cons_of_mem _ (List.mem_append_right _ h))
  refine pc_I (own := RX8) (cc := cX8_length) (maxL := 1) (by decide) rfl rfl (Nat.le_of_ble_eq_true rfl) ?_
  intro p e s m args below meth c ls Q hx hb hts hown hcf hP hK hl hret
  have hl : lv_has ls 1 [(0, .ref t)] := hl
  refine lv_aload_n hx hb dX8_length_0 rfl (lv_at hl 0 rfl) ?_
  refine va_get (D := D) (ci := 6) (v := .int length) (C := RX8) (T := TX8) (N := 2) hx hb hts iX8 hown hK.1 hP 0 rfl rfl 1 (by decide) (hts (.fieldLink RX8 15 "TaughtRemotes$Text" "length" "I") (List.mem_of_getElem? (i := 1) rfl)) (fun _ h9 => h9) rfl dX8_length_1 ?_
  have e_out := Option.some.inj hf
  subst e_out
  exact hret _ _ dX8_length_4
def rm_X4_count : Room := { frames := 0, cells := 0, slots := 0, locals := 0 }
set_option maxHeartbeats 4000000 in
set_option maxRecDepth 100000 in
theorem c_X4_count (l : Launch) (D : va_G) (cC cI cJ cZ cO : ClassId) (t : Nat) (t_codes : Nat) (t_houses : Nat) (t_keys : Nat) (t_parents : Nat) (t_wrongBits : Nat) (codes : Nat → Int32) (houses : Nat → Int32) (keys : Nat → Int32) (parents : Nat → Int32) (wrongBits : Nat → Int32) (count : Int32) (out : Int32)
    (hf : f_Rec_count count = some out) : PCon l yX4_count wsX4_count rm_X4_count D (tyA cC cI cJ cZ cO) [.ref t] [(t, .inr (3, [.ref t_codes, .ref t_houses, .ref t_keys, .ref t_parents, .ref t_wrongBits, .int count])), (t_codes, .inl (cI, 40, .inl codes)), (t_houses, .inl (cI, 40, .inl houses)), (t_keys, .inl (cI, 40, .inl keys)), (t_parents, .inl (cI, 40, .inl parents)), (t_wrongBits, .inl (cI, 40, .inl wrongBits))] (.int out) := by
  have iX4 : ∀ w ∈ wsX40, w ∈ wsX4_count := (fun _ h => List.mem_cons_of_mem _ (List.mem_append_right _ h))
  refine pc_I (own := RX4) (cc := cX4_count) (maxL := 1) (by decide) rfl rfl (Nat.le_of_ble_eq_true rfl) ?_
  intro p e s m args below meth c ls Q hx hb hts hown hcf hP hK hl hret
  have hl : lv_has ls 1 [(0, .ref t)] := hl
  refine lv_aload_n hx hb dX4_count_0 rfl (lv_at hl 0 rfl) ?_
  refine va_get (D := D) (ci := 3) (v := .int count) (C := RX4) (T := TX4) (N := 6) hx hb hts iX4 hown hK.1 hP 0 rfl rfl 5 (by decide) (hts (.fieldLink RX4 27 "TaughtRemotes$Records" "count" "I") (List.mem_of_getElem? (i := 1) rfl)) (fun _ h9 => h9) rfl dX4_count_1 ?_
  have e_out := Option.some.inj hf
  subst e_out
  exact hret _ _ dX4_count_4
def rm_X4_hasRoom : Room := { frames := 0, cells := 0, slots := 0, locals := 0 }
set_option maxHeartbeats 4000000 in
set_option maxRecDepth 100000 in
theorem c_X4_hasRoom (l : Launch) (D : va_G) (cC cI cJ cZ cO : ClassId) (t : Nat) (t_codes : Nat) (t_houses : Nat) (t_keys : Nat) (t_parents : Nat) (t_wrongBits : Nat) (codes : Nat → Int32) (houses : Nat → Int32) (keys : Nat → Int32) (parents : Nat → Int32) (wrongBits : Nat → Int32) (count : Int32) (out : Int32)
    (hf : f_Rec_hasRoom count = some out) : PCon l yX4_hasRoom wsX4_hasRoom rm_X4_hasRoom D (tyA cC cI cJ cZ cO) [.ref t] [(t, .inr (3, [.ref t_codes, .ref t_houses, .ref t_keys, .ref t_parents, .ref t_wrongBits, .int count])), (t_codes, .inl (cI, 40, .inl codes)), (t_houses, .inl (cI, 40, .inl houses)), (t_keys, .inl (cI, 40, .inl keys)), (t_parents, .inl (cI, 40, .inl parents)), (t_wrongBits, .inl (cI, 40, .inl wrongBits))] (.int out) := by
  have iX4 : ∀ w ∈ wsX40, w ∈ wsX4_hasRoom := (fun _ h => List.mem_cons_of_mem _ (List.mem_append_right _ h))
  refine pc_Z (own := RX4) (cc := cX4_hasRoom) (maxL := 1) (by decide) rfl rfl (Nat.le_of_ble_eq_true rfl) ?_
  intro p e s m args below meth c ls Q hx hb hts hown hcf hP hK hl hret
  have hl : lv_has ls 1 [(0, .ref t)] := hl
  refine lv_aload_n hx hb dX4_hasRoom_0 rfl (lv_at hl 0 rfl) ?_
  refine va_get (D := D) (ci := 3) (v := .int count) (C := RX4) (T := TX4) (N := 6) hx hb hts iX4 hown hK.1 hP 0 rfl rfl 5 (by decide) (hts (.fieldLink RX4 27 "TaughtRemotes$Records" "count" "I") (List.mem_of_getElem? (i := 1) rfl)) (fun _ h9 => h9) rfl dX4_hasRoom_1 ?_
  refine lv_if_lt (tgt := 20) hx hb dX4_hasRoom_4 (by decide) (fun c_4 => ?_) (fun c_4 => ?_)
  · have hf := ite_t c_4 hf
    refine lv_iconst (v := 0) hx hb dX4_hasRoom_20 (by decide) ?_
    have e_out := Option.some.inj hf
    subst e_out
    exact hret _ _ dX4_hasRoom_21 (nar01 (Or.inl rfl))
  · have hf := ite_f c_4 hf
    refine lv_aload_n hx hb dX4_hasRoom_7 rfl (lv_at hl 0 rfl) ?_
    refine va_get (D := D) (ci := 3) (v := .int count) (C := RX4) (T := TX4) (N := 6) hx hb hts iX4 hown hK.1 hP 0 rfl rfl 5 (by decide) (hts (.fieldLink RX4 27 "TaughtRemotes$Records" "count" "I") (List.mem_of_getElem? (i := 1) rfl)) (fun _ h9 => h9) rfl dX4_hasRoom_8 ?_
    refine lv_bipush (v := 40) hx hb dX4_hasRoom_11 (by decide) ?_
    refine lv_icmp_ge (tgt := 20) hx hb dX4_hasRoom_13 (by decide) (fun c_13 => ?_) (fun c_13 => ?_)
    · have hf := ite_t c_13 hf
      refine lv_iconst (v := 0) hx hb dX4_hasRoom_20 (by decide) ?_
      have e_out := Option.some.inj hf
      subst e_out
      exact hret _ _ dX4_hasRoom_21 (nar01 (Or.inl rfl))
    · have hf := ite_f c_13 hf
      refine lv_iconst (v := 1) hx hb dX4_hasRoom_16 (by decide) ?_
      refine lv_goto (tgt := 21) hx hb dX4_hasRoom_17 (by decide) ?_
      have e_out := Option.some.inj hf
      subst e_out
      exact hret _ _ dX4_hasRoom_21 (nar01 (Or.inr rfl))
def rm_X4_add : Room := { frames := 1, cells := 0, slots := 0, locals := 20 }
set_option maxHeartbeats 4000000 in
set_option maxRecDepth 100000 in
theorem c_X4_add (l : Launch) (D : va_G) (cC cI cJ cZ cO : ClassId) (t : Nat) (t_codes : Nat) (t_houses : Nat) (t_keys : Nat) (t_parents : Nat) (t_wrongBits : Nat) (codes : Nat → Int32) (houses : Nat → Int32) (keys : Nat → Int32) (parents : Nat → Int32) (wrongBits : Nat → Int32) (count : Int32) (p0 : Int32) (p1 : Int32) (p2 : Int32) (p3 : Int32) (p4 : Int32) (out : Int32 × (Nat → Int32) × (Nat → Int32) × (Nat → Int32) × (Nat → Int32) × (Nat → Int32) × Int32)
    (hf : f_Rec_add codes houses keys parents wrongBits count p0 p1 p2 p3 p4 = some out) : WCon l yX4_add wsX4_add rm_X4_add D (tyA cC cI cJ cZ cO) [.ref t, .int p0, .int p1, .int p2, .int p3, .int p4] [(t, .inr (3, [.ref t_codes, .ref t_houses, .ref t_keys, .ref t_parents, .ref t_wrongBits, .int count])), (t_codes, .inl (cI, 40, .inl codes)), (t_houses, .inl (cI, 40, .inl houses)), (t_keys, .inl (cI, 40, .inl keys)), (t_parents, .inl (cI, 40, .inl parents)), (t_wrongBits, .inl (cI, 40, .inl wrongBits))] (some (.int out.1)) [(t, .inr (3, [.ref t_codes, .ref t_houses, .ref t_keys, .ref t_parents, .ref t_wrongBits, .int out.2.2.2.2.2.2])), (t_codes, .inl (cI, 40, .inl out.2.1)), (t_houses, .inl (cI, 40, .inl out.2.2.1)), (t_keys, .inl (cI, 40, .inl out.2.2.2.1)), (t_parents, .inl (cI, 40, .inl out.2.2.2.2.1)), (t_wrongBits, .inl (cI, 40, .inl out.2.2.2.2.2.1))] 0 0 := by
  have iX4 : ∀ w ∈ wsX40, w ∈ wsX4_add := (fun _ h => List.mem_cons_of_mem _ (List.mem_append_right _ h))
  refine wc_I (own := RX4) (cc := cX4_add) (maxL := 7) (by decide) rfl rfl (Nat.le_of_ble_eq_true rfl) ?_
  intro p e s m args below meth c ls A Q hx hb hts hown hcf hP hK hD hA hS hl hret
  have hl : lv_has ls 7 [(0, .ref t), (1, .int p0), (2, .int p1), (3, .int p2), (4, .int p3), (5, .int p4)] := hl
  refine lv_aload_n hx hb dX4_add_0 rfl (lv_at hl 0 rfl) ?_
  obtain ⟨o_1, h_1, hf⟩ := cal_e hf
  refine pcV (n := 0) [] [] [0, 1, 2, 3, 4, 5] 0 3 hcf (c_X4_hasRoom l D cC cI cJ cZ cO t t_codes t_houses t_keys t_parents t_wrongBits codes houses keys parents wrongBits count o_1 h_1) gX4_add_X4_hasRoom rfl (by decide +kernel) ⟨rfl, rfl⟩ ⟨Nat.le_of_ble_eq_true rfl, Nat.le_of_ble_eq_true rfl⟩ ⟨Nat.le_of_ble_eq_true rfl, Nat.le_of_ble_eq_true rfl⟩ hK hP rfl rfl rfl rfl rfl hl.1 rfl (Nat.le_of_ble_eq_true rfl) dX4_add_1 ?_
  refine lv_if_ne (tgt := 10) hx hb dX4_add_4 (by decide) (fun c_4 => ?_) (fun c_4 => ?_)
  · have hf := ite_t c_4 hf
    refine lv_aload_n hx hb dX4_add_10 rfl (lv_at hl 0 rfl) ?_
    refine va_get (D := D) (ci := 3) (v := .int count) (C := RX4) (T := TX4) (N := 6) hx hb hts iX4 hown hK.1 hP 0 rfl rfl 5 (by decide) (hts (.fieldLink RX4 27 "TaughtRemotes$Records" "count" "I") (List.mem_of_getElem? (i := 1) rfl)) (fun _ h9 => h9) rfl dX4_add_11 ?_
    refine lv_istore (lv' := [(6, .int count), (0, .ref t), (1, .int p0), (2, .int p1), (3, .int p2), (4, .int p3), (5, .int p4)]) hx hb dX4_add_14 hl (by decide) rfl (fun ls hl => ?_)
    refine lv_aload_n hx hb dX4_add_16 rfl (lv_at hl 1 rfl) ?_
    refine va_get (D := D) (ci := 3) (v := .ref t_codes) (C := RX4) (T := TX4) (N := 6) hx hb hts iX4 hown hK.1 hP 0 rfl rfl 0 (by decide) (hts (.fieldLink RX4 9 "TaughtRemotes$Records" "codes" "[I") (List.mem_of_getElem? (i := 2) rfl)) (fun _ h9 => h9) rfl dX4_add_17 ?_
    refine lv_iload hx hb dX4_add_20 (lv_at hl 0 rfl) ?_
    refine lv_iload_n hx hb dX4_add_22 rfl (lv_at hl 2 rfl) ?_
    obtain ⟨b_23, hf⟩ := gd_e hf
    refine r_iast hx hb hK hP hD hS 1 1 rfl rfl rfl (vin b_23) dX4_add_23 (fun H locs (hP : va_P D vwCl [(t, .inr (3, [.ref t_codes, .ref t_houses, .ref t_keys, .ref t_parents, .ref t_wrongBits, .int count])), (t_codes, .inl (cI, 40, .inl (upd codes (count).toNatClampNeg p0))), (t_houses, .inl (cI, 40, .inl houses)), (t_keys, .inl (cI, 40, .inl keys)), (t_parents, .inl (cI, 40, .inl parents)), (t_wrongBits, .inl (cI, 40, .inl wrongBits))] H) (hD : va_D A [(t, .inr (3, [.ref t_codes, .ref t_houses, .ref t_keys, .ref t_parents, .ref t_wrongBits, .int count])), (t_codes, .inl (cI, 40, .inl (upd codes (count).toNatClampNeg p0))), (t_houses, .inl (cI, 40, .inl houses)), (t_keys, .inl (cI, 40, .inl keys)), (t_parents, .inl (cI, 40, .inl parents)), (t_wrongBits, .inl (cI, 40, .inl wrongBits))]) hS => ?_)
    refine lv_aload_n hx hb dX4_add_24 rfl (lv_at hl 1 rfl) ?_
    refine va_get (D := D) (ci := 3) (v := .ref t_houses) (C := RX4) (T := TX4) (N := 6) hx hb hts iX4 hown hK.1 hP 0 rfl rfl 1 (by decide) (hts (.fieldLink RX4 15 "TaughtRemotes$Records" "houses" "[I") (List.mem_of_getElem? (i := 3) rfl)) (fun _ h9 => h9) rfl dX4_add_25 ?_
    refine lv_iload hx hb dX4_add_28 (lv_at hl 0 rfl) ?_
    refine lv_iload_n hx hb dX4_add_30 rfl (lv_at hl 3 rfl) ?_
    refine r_iast hx hb hK hP hD hS 2 1 rfl rfl rfl (vin b_23) dX4_add_31 (fun H locs (hP : va_P D vwCl [(t, .inr (3, [.ref t_codes, .ref t_houses, .ref t_keys, .ref t_parents, .ref t_wrongBits, .int count])), (t_codes, .inl (cI, 40, .inl (upd codes (count).toNatClampNeg p0))), (t_houses, .inl (cI, 40, .inl (upd houses (count).toNatClampNeg p1))), (t_keys, .inl (cI, 40, .inl keys)), (t_parents, .inl (cI, 40, .inl parents)), (t_wrongBits, .inl (cI, 40, .inl wrongBits))] H) (hD : va_D A [(t, .inr (3, [.ref t_codes, .ref t_houses, .ref t_keys, .ref t_parents, .ref t_wrongBits, .int count])), (t_codes, .inl (cI, 40, .inl (upd codes (count).toNatClampNeg p0))), (t_houses, .inl (cI, 40, .inl (upd houses (count).toNatClampNeg p1))), (t_keys, .inl (cI, 40, .inl keys)), (t_parents, .inl (cI, 40, .inl parents)), (t_wrongBits, .inl (cI, 40, .inl wrongBits))]) hS => ?_)
    refine lv_aload_n hx hb dX4_add_32 rfl (lv_at hl 1 rfl) ?_
    refine va_get (D := D) (ci := 3) (v := .ref t_keys) (C := RX4) (T := TX4) (N := 6) hx hb hts iX4 hown hK.1 hP 0 rfl rfl 2 (by decide) (hts (.fieldLink RX4 18 "TaughtRemotes$Records" "keys" "[I") (List.mem_of_getElem? (i := 4) rfl)) (fun _ h9 => h9) rfl dX4_add_33 ?_
    refine lv_iload hx hb dX4_add_36 (lv_at hl 0 rfl) ?_
    refine lv_iload_n hx hb dX4_add_38 rfl (lv_at hl 4 rfl) ?_
    refine r_iast hx hb hK hP hD hS 3 1 rfl rfl rfl (vin b_23) dX4_add_39 (fun H locs (hP : va_P D vwCl [(t, .inr (3, [.ref t_codes, .ref t_houses, .ref t_keys, .ref t_parents, .ref t_wrongBits, .int count])), (t_codes, .inl (cI, 40, .inl (upd codes (count).toNatClampNeg p0))), (t_houses, .inl (cI, 40, .inl (upd houses (count).toNatClampNeg p1))), (t_keys, .inl (cI, 40, .inl (upd keys (count).toNatClampNeg p2))), (t_parents, .inl (cI, 40, .inl parents)), (t_wrongBits, .inl (cI, 40, .inl wrongBits))] H) (hD : va_D A [(t, .inr (3, [.ref t_codes, .ref t_houses, .ref t_keys, .ref t_parents, .ref t_wrongBits, .int count])), (t_codes, .inl (cI, 40, .inl (upd codes (count).toNatClampNeg p0))), (t_houses, .inl (cI, 40, .inl (upd houses (count).toNatClampNeg p1))), (t_keys, .inl (cI, 40, .inl (upd keys (count).toNatClampNeg p2))), (t_parents, .inl (cI, 40, .inl parents)), (t_wrongBits, .inl (cI, 40, .inl wrongBits))]) hS => ?_)
    refine lv_aload_n hx hb dX4_add_40 rfl (lv_at hl 1 rfl) ?_
    refine va_get (D := D) (ci := 3) (v := .ref t_parents) (C := RX4) (T := TX4) (N := 6) hx hb hts iX4 hown hK.1 hP 0 rfl rfl 3 (by decide) (hts (.fieldLink RX4 21 "TaughtRemotes$Records" "parents" "[I") (List.mem_of_getElem? (i := 5) rfl)) (fun _ h9 => h9) rfl dX4_add_41 ?_
    refine lv_iload hx hb dX4_add_44 (lv_at hl 0 rfl) ?_
    refine lv_iload hx hb dX4_add_46 (lv_at hl 5 rfl) ?_
    refine r_iast hx hb hK hP hD hS 4 1 rfl rfl rfl (vin b_23) dX4_add_48 (fun H locs (hP : va_P D vwCl [(t, .inr (3, [.ref t_codes, .ref t_houses, .ref t_keys, .ref t_parents, .ref t_wrongBits, .int count])), (t_codes, .inl (cI, 40, .inl (upd codes (count).toNatClampNeg p0))), (t_houses, .inl (cI, 40, .inl (upd houses (count).toNatClampNeg p1))), (t_keys, .inl (cI, 40, .inl (upd keys (count).toNatClampNeg p2))), (t_parents, .inl (cI, 40, .inl (upd parents (count).toNatClampNeg p3))), (t_wrongBits, .inl (cI, 40, .inl wrongBits))] H) (hD : va_D A [(t, .inr (3, [.ref t_codes, .ref t_houses, .ref t_keys, .ref t_parents, .ref t_wrongBits, .int count])), (t_codes, .inl (cI, 40, .inl (upd codes (count).toNatClampNeg p0))), (t_houses, .inl (cI, 40, .inl (upd houses (count).toNatClampNeg p1))), (t_keys, .inl (cI, 40, .inl (upd keys (count).toNatClampNeg p2))), (t_parents, .inl (cI, 40, .inl (upd parents (count).toNatClampNeg p3))), (t_wrongBits, .inl (cI, 40, .inl wrongBits))]) hS => ?_)
    refine lv_aload_n hx hb dX4_add_49 rfl (lv_at hl 1 rfl) ?_
    refine va_get (D := D) (ci := 3) (v := .ref t_wrongBits) (C := RX4) (T := TX4) (N := 6) hx hb hts iX4 hown hK.1 hP 0 rfl rfl 4 (by decide) (hts (.fieldLink RX4 24 "TaughtRemotes$Records" "wrongBits" "[I") (List.mem_of_getElem? (i := 6) rfl)) (fun _ h9 => h9) rfl dX4_add_50 ?_
    refine lv_iload hx hb dX4_add_53 (lv_at hl 0 rfl) ?_
    refine lv_iload hx hb dX4_add_55 (lv_at hl 6 rfl) ?_
    refine r_iast hx hb hK hP hD hS 5 1 rfl rfl rfl (vin b_23) dX4_add_57 (fun H locs (hP : va_P D vwCl [(t, .inr (3, [.ref t_codes, .ref t_houses, .ref t_keys, .ref t_parents, .ref t_wrongBits, .int count])), (t_codes, .inl (cI, 40, .inl (upd codes (count).toNatClampNeg p0))), (t_houses, .inl (cI, 40, .inl (upd houses (count).toNatClampNeg p1))), (t_keys, .inl (cI, 40, .inl (upd keys (count).toNatClampNeg p2))), (t_parents, .inl (cI, 40, .inl (upd parents (count).toNatClampNeg p3))), (t_wrongBits, .inl (cI, 40, .inl (upd wrongBits (count).toNatClampNeg p4)))] H) (hD : va_D A [(t, .inr (3, [.ref t_codes, .ref t_houses, .ref t_keys, .ref t_parents, .ref t_wrongBits, .int count])), (t_codes, .inl (cI, 40, .inl (upd codes (count).toNatClampNeg p0))), (t_houses, .inl (cI, 40, .inl (upd houses (count).toNatClampNeg p1))), (t_keys, .inl (cI, 40, .inl (upd keys (count).toNatClampNeg p2))), (t_parents, .inl (cI, 40, .inl (upd parents (count).toNatClampNeg p3))), (t_wrongBits, .inl (cI, 40, .inl (upd wrongBits (count).toNatClampNeg p4)))]) hS => ?_)
    refine lv_aload_n hx hb dX4_add_58 rfl (lv_at hl 1 rfl) ?_
    refine lv_dup hx hb dX4_add_59 rfl ?_
    refine va_get (D := D) (ci := 3) (v := .int count) (C := RX4) (T := TX4) (N := 6) hx hb hts iX4 hown hK.1 hP 0 rfl rfl 5 (by decide) (hts (.fieldLink RX4 27 "TaughtRemotes$Records" "count" "I") (List.mem_of_getElem? (i := 1) rfl)) (fun _ h9 => h9) rfl dX4_add_60 ?_
    refine lv_iconst (v := 1) hx hb dX4_add_63 (by decide) ?_
    refine lv_iadd hx hb dX4_add_64 ?_
    refine va_put (D := D) (ci := 3) (v := .int (count + 1)) (ty := .int) (C := RX4) (T := TX4) (N := 6) hx hb hts iX4 tyX4 tyX4_ok nmX4 hown hK.1 hP hD hS 0 rfl rfl 5 (by decide) (hts (.fieldLink RX4 27 "TaughtRemotes$Records" "count" "I") (List.mem_of_getElem? (i := 1) rfl)) (fun _ h9 => h9) rfl (by decide +kernel) rfl rfl (Nat.le_of_ble_eq_true rfl) dX4_add_65 (fun H locs (hP : va_P D vwCl [(t, .inr (3, [.ref t_codes, .ref t_houses, .ref t_keys, .ref t_parents, .ref t_wrongBits, .int (count + 1)])), (t_codes, .inl (cI, 40, .inl (upd codes (count).toNatClampNeg p0))), (t_houses, .inl (cI, 40, .inl (upd houses (count).toNatClampNeg p1))), (t_keys, .inl (cI, 40, .inl (upd keys (count).toNatClampNeg p2))), (t_parents, .inl (cI, 40, .inl (upd parents (count).toNatClampNeg p3))), (t_wrongBits, .inl (cI, 40, .inl (upd wrongBits (count).toNatClampNeg p4)))] H) (hD : va_D A [(t, .inr (3, [.ref t_codes, .ref t_houses, .ref t_keys, .ref t_parents, .ref t_wrongBits, .int (count + 1)])), (t_codes, .inl (cI, 40, .inl (upd codes (count).toNatClampNeg p0))), (t_houses, .inl (cI, 40, .inl (upd houses (count).toNatClampNeg p1))), (t_keys, .inl (cI, 40, .inl (upd keys (count).toNatClampNeg p2))), (t_parents, .inl (cI, 40, .inl (upd parents (count).toNatClampNeg p3))), (t_wrongBits, .inl (cI, 40, .inl (upd wrongBits (count).toNatClampNeg p4)))]) hS => ?_)
    refine lv_iload hx hb dX4_add_68 (lv_at hl 0 rfl) ?_
    have e_out := Option.some.inj hf
    subst e_out
    exact hret _ _ _ _ _ _ dX4_add_70 (Nat.zero_le _) (Nat.zero_le _) hP hD hS
  · have hf := ite_f (not_not_intro c_4) hf
    refine lv_bipush (v := (-9)) hx hb dX4_add_7 (by decide) ?_
    have e_out := Option.some.inj hf
    subst e_out
    exact hret _ _ _ _ _ _ dX4_add_9 (Nat.zero_le _) (Nat.zero_le _) hP hD hS
def rm_X4_has : Room := { frames := 0, cells := 0, slots := 0, locals := 0 }
set_option maxHeartbeats 4000000 in
set_option maxRecDepth 100000 in
theorem c_X4_has (l : Launch) (D : va_G) (cC cI cJ cZ cO : ClassId) (t : Nat) (t_codes : Nat) (t_houses : Nat) (t_keys : Nat) (t_parents : Nat) (t_wrongBits : Nat) (codes : Nat → Int32) (houses : Nat → Int32) (keys : Nat → Int32) (parents : Nat → Int32) (wrongBits : Nat → Int32) (count : Int32) (p0 : Int32) (out : Int32)
    (hf : f_Rec_has count p0 = some out) : PCon l yX4_has wsX4_has rm_X4_has D (tyA cC cI cJ cZ cO) [.ref t, .int p0] [(t, .inr (3, [.ref t_codes, .ref t_houses, .ref t_keys, .ref t_parents, .ref t_wrongBits, .int count])), (t_codes, .inl (cI, 40, .inl codes)), (t_houses, .inl (cI, 40, .inl houses)), (t_keys, .inl (cI, 40, .inl keys)), (t_parents, .inl (cI, 40, .inl parents)), (t_wrongBits, .inl (cI, 40, .inl wrongBits))] (.int out) := by
  have iX4 : ∀ w ∈ wsX40, w ∈ wsX4_has := (fun _ h => List.mem_cons_of_mem _ (List.mem_append_right _ h))
  refine pc_Z (own := RX4) (cc := cX4_has) (maxL := 2) (by decide) rfl rfl (Nat.le_of_ble_eq_true rfl) ?_
  intro p e s m args below meth c ls Q hx hb hts hown hcf hP hK hl hret
  have hl : lv_has ls 2 [(0, .ref t), (1, .int p0)] := hl
  refine lv_iload_n hx hb dX4_has_0 rfl (lv_at hl 1 rfl) ?_
  refine lv_if_lt (tgt := 22) hx hb dX4_has_1 (by decide) (fun c_1 => ?_) (fun c_1 => ?_)
  · have hf := ite_t c_1 hf
    refine lv_iconst (v := 0) hx hb dX4_has_22 (by decide) ?_
    have e_out := Option.some.inj hf
    subst e_out
    exact hret _ _ dX4_has_23 (nar01 (Or.inl rfl))
  · have hf := ite_f c_1 hf
    refine lv_iload_n hx hb dX4_has_4 rfl (lv_at hl 1 rfl) ?_
    refine lv_aload_n hx hb dX4_has_5 rfl (lv_at hl 0 rfl) ?_
    refine va_get (D := D) (ci := 3) (v := .int count) (C := RX4) (T := TX4) (N := 6) hx hb hts iX4 hown hK.1 hP 0 rfl rfl 5 (by decide) (hts (.fieldLink RX4 27 "TaughtRemotes$Records" "count" "I") (List.mem_of_getElem? (i := 1) rfl)) (fun _ h9 => h9) rfl dX4_has_6 ?_
    refine lv_icmp_ge (tgt := 22) hx hb dX4_has_9 (by decide) (fun c_9 => ?_) (fun c_9 => ?_)
    · have hf := ite_t c_9 hf
      refine lv_iconst (v := 0) hx hb dX4_has_22 (by decide) ?_
      have e_out := Option.some.inj hf
      subst e_out
      exact hret _ _ dX4_has_23 (nar01 (Or.inl rfl))
    · have hf := ite_f c_9 hf
      refine lv_iload_n hx hb dX4_has_12 rfl (lv_at hl 1 rfl) ?_
      refine lv_bipush (v := 40) hx hb dX4_has_13 (by decide) ?_
      refine lv_icmp_ge (tgt := 22) hx hb dX4_has_15 (by decide) (fun c_15 => ?_) (fun c_15 => ?_)
      · have hf := ite_t c_15 hf
        refine lv_iconst (v := 0) hx hb dX4_has_22 (by decide) ?_
        have e_out := Option.some.inj hf
        subst e_out
        exact hret _ _ dX4_has_23 (nar01 (Or.inl rfl))
      · have hf := ite_f c_15 hf
        refine lv_iconst (v := 1) hx hb dX4_has_18 (by decide) ?_
        refine lv_goto (tgt := 23) hx hb dX4_has_19 (by decide) ?_
        have e_out := Option.some.inj hf
        subst e_out
        exact hret _ _ dX4_has_23 (nar01 (Or.inr rfl))
def rm_X4_copyFrom : Room := { frames := 1, cells := 0, slots := 0, locals := 60 }
set_option maxHeartbeats 4000000 in
set_option maxRecDepth 100000 in
theorem c_X4_copyFrom (l : Launch) (D : va_G) (cC cI cJ cZ cO : ClassId) (t : Nat) (t_codes : Nat) (t_houses : Nat) (t_keys : Nat) (t_parents : Nat) (t_wrongBits : Nat) (a0 : Nat) (a0_codes : Nat) (a0_houses : Nat) (a0_keys : Nat) (a0_parents : Nat) (a0_wrongBits : Nat) (codes : Nat → Int32) (houses : Nat → Int32) (keys : Nat → Int32) (parents : Nat → Int32) (wrongBits : Nat → Int32) (count : Int32) (b0_codes : Nat → Int32) (b0_houses : Nat → Int32) (b0_keys : Nat → Int32) (b0_parents : Nat → Int32) (b0_wrongBits : Nat → Int32) (b0_count : Int32) (out : (Nat → Int32) × (Nat → Int32) × (Nat → Int32) × (Nat → Int32) × (Nat → Int32) × Int32)
    (hf : f_Rec_copyFrom codes houses keys parents wrongBits count b0_codes b0_houses b0_keys b0_parents b0_wrongBits b0_count = some out) : WCon l yX4_copyFrom wsX4_copyFrom rm_X4_copyFrom D (tyA cC cI cJ cZ cO) [.ref t, .ref a0] [(t, .inr (3, [.ref t_codes, .ref t_houses, .ref t_keys, .ref t_parents, .ref t_wrongBits, .int count])), (t_codes, .inl (cI, 40, .inl codes)), (t_houses, .inl (cI, 40, .inl houses)), (t_keys, .inl (cI, 40, .inl keys)), (t_parents, .inl (cI, 40, .inl parents)), (t_wrongBits, .inl (cI, 40, .inl wrongBits)), (a0, .inr (3, [.ref a0_codes, .ref a0_houses, .ref a0_keys, .ref a0_parents, .ref a0_wrongBits, .int b0_count])), (a0_codes, .inl (cI, 40, .inl b0_codes)), (a0_houses, .inl (cI, 40, .inl b0_houses)), (a0_keys, .inl (cI, 40, .inl b0_keys)), (a0_parents, .inl (cI, 40, .inl b0_parents)), (a0_wrongBits, .inl (cI, 40, .inl b0_wrongBits))] none [(t, .inr (3, [.ref t_codes, .ref t_houses, .ref t_keys, .ref t_parents, .ref t_wrongBits, .int out.2.2.2.2.2])), (t_codes, .inl (cI, 40, .inl out.1)), (t_houses, .inl (cI, 40, .inl out.2.1)), (t_keys, .inl (cI, 40, .inl out.2.2.1)), (t_parents, .inl (cI, 40, .inl out.2.2.2.1)), (t_wrongBits, .inl (cI, 40, .inl out.2.2.2.2.1)), (a0, .inr (3, [.ref a0_codes, .ref a0_houses, .ref a0_keys, .ref a0_parents, .ref a0_wrongBits, .int b0_count])), (a0_codes, .inl (cI, 40, .inl b0_codes)), (a0_houses, .inl (cI, 40, .inl b0_houses)), (a0_keys, .inl (cI, 40, .inl b0_keys)), (a0_parents, .inl (cI, 40, .inl b0_parents)), (a0_wrongBits, .inl (cI, 40, .inl b0_wrongBits))] 0 0 := by
  have iX4 : ∀ w ∈ wsX40, w ∈ wsX4_copyFrom := (fun _ h => List.mem_cons_of_mem _ (List.mem_append_right _ h))
  refine wc_V (own := RX4) (cc := cX4_copyFrom) (maxL := 2) (by decide) rfl rfl (Nat.le_of_ble_eq_true rfl) ?_
  intro p e s m args below meth c ls A Q hx hb hts hown hcf hP hK hD hA hS hl hret
  have hl : lv_has ls 2 [(0, .ref t), (1, .ref a0)] := hl
  refine lv_aload_n hx hb dX4_copyFrom_0 rfl (lv_at hl 1 rfl) ?_
  refine va_get (D := D) (ci := 3) (v := .ref a0_codes) (C := RX4) (T := TX4) (N := 6) hx hb hts iX4 hown hK.1 hP 6 rfl rfl 0 (by decide) (hts (.fieldLink RX4 9 "TaughtRemotes$Records" "codes" "[I") (List.mem_of_getElem? (i := 1) rfl)) (fun _ h9 => h9) rfl dX4_copyFrom_1 ?_
  refine lv_iconst (v := 0) hx hb dX4_copyFrom_4 (by decide) ?_
  refine lv_aload_n hx hb dX4_copyFrom_5 rfl (lv_at hl 0 rfl) ?_
  refine va_get (D := D) (ci := 3) (v := .ref t_codes) (C := RX4) (T := TX4) (N := 6) hx hb hts iX4 hown hK.1 hP 0 rfl rfl 0 (by decide) (hts (.fieldLink RX4 9 "TaughtRemotes$Records" "codes" "[I") (List.mem_of_getElem? (i := 1) rfl)) (fun _ h9 => h9) rfl dX4_copyFrom_6 ?_
  refine lv_iconst (v := 0) hx hb dX4_copyFrom_9 (by decide) ?_
  refine lv_bipush (v := 40) hx hb dX4_copyFrom_10 (by decide) ?_
  refine va_copyi (rest := []) hx hb (hcf.2.2.1.trans hl.1.symm) hown (hts (.methodLink RX4 31 arraycopyName) (List.mem_of_getElem? (i := 2) rfl)) (hts (.native arraycopyName) (List.mem_of_getElem? (i := 3) rfl)) (hts (.static arraycopyName) (List.mem_of_getElem? (i := 4) rfl)) (hts (.initialized "java/lang/System") (List.mem_of_getElem? (i := 5) rfl)) hK.1 hP hD hS 7 1 1 1 rfl rfl rfl rfl rfl (by decide) (by decide) (by decide) (by decide) (by decide) (fun _ _ => rfl) (Nat.le_of_ble_eq_true rfl) (Nat.le_of_ble_eq_true rfl) dX4_copyFrom_12 (fun H locs (hP : va_P D vwCl [(t, .inr (3, [.ref t_codes, .ref t_houses, .ref t_keys, .ref t_parents, .ref t_wrongBits, .int count])), (t_codes, .inl (cI, 40, .inl (va_cpy b0_codes codes 0 0 40))), (t_houses, .inl (cI, 40, .inl houses)), (t_keys, .inl (cI, 40, .inl keys)), (t_parents, .inl (cI, 40, .inl parents)), (t_wrongBits, .inl (cI, 40, .inl wrongBits)), (a0, .inr (3, [.ref a0_codes, .ref a0_houses, .ref a0_keys, .ref a0_parents, .ref a0_wrongBits, .int b0_count])), (a0_codes, .inl (cI, 40, .inl b0_codes)), (a0_houses, .inl (cI, 40, .inl b0_houses)), (a0_keys, .inl (cI, 40, .inl b0_keys)), (a0_parents, .inl (cI, 40, .inl b0_parents)), (a0_wrongBits, .inl (cI, 40, .inl b0_wrongBits))] H) (hD : va_D A [(t, .inr (3, [.ref t_codes, .ref t_houses, .ref t_keys, .ref t_parents, .ref t_wrongBits, .int count])), (t_codes, .inl (cI, 40, .inl (va_cpy b0_codes codes 0 0 40))), (t_houses, .inl (cI, 40, .inl houses)), (t_keys, .inl (cI, 40, .inl keys)), (t_parents, .inl (cI, 40, .inl parents)), (t_wrongBits, .inl (cI, 40, .inl wrongBits)), (a0, .inr (3, [.ref a0_codes, .ref a0_houses, .ref a0_keys, .ref a0_parents, .ref a0_wrongBits, .int b0_count])), (a0_codes, .inl (cI, 40, .inl b0_codes)), (a0_houses, .inl (cI, 40, .inl b0_houses)), (a0_keys, .inl (cI, 40, .inl b0_keys)), (a0_parents, .inl (cI, 40, .inl b0_parents)), (a0_wrongBits, .inl (cI, 40, .inl b0_wrongBits))]) hS => ?_)
  refine lv_aload_n hx hb dX4_copyFrom_15 rfl (lv_at hl 1 rfl) ?_
  refine va_get (D := D) (ci := 3) (v := .ref a0_houses) (C := RX4) (T := TX4) (N := 6) hx hb hts iX4 hown hK.1 hP 6 rfl rfl 1 (by decide) (hts (.fieldLink RX4 15 "TaughtRemotes$Records" "houses" "[I") (List.mem_of_getElem? (i := 6) rfl)) (fun _ h9 => h9) rfl dX4_copyFrom_16 ?_
  refine lv_iconst (v := 0) hx hb dX4_copyFrom_19 (by decide) ?_
  refine lv_aload_n hx hb dX4_copyFrom_20 rfl (lv_at hl 0 rfl) ?_
  refine va_get (D := D) (ci := 3) (v := .ref t_houses) (C := RX4) (T := TX4) (N := 6) hx hb hts iX4 hown hK.1 hP 0 rfl rfl 1 (by decide) (hts (.fieldLink RX4 15 "TaughtRemotes$Records" "houses" "[I") (List.mem_of_getElem? (i := 6) rfl)) (fun _ h9 => h9) rfl dX4_copyFrom_21 ?_
  refine lv_iconst (v := 0) hx hb dX4_copyFrom_24 (by decide) ?_
  refine lv_bipush (v := 40) hx hb dX4_copyFrom_25 (by decide) ?_
  refine va_copyi (rest := []) hx hb (hcf.2.2.1.trans hl.1.symm) hown (hts (.methodLink RX4 31 arraycopyName) (List.mem_of_getElem? (i := 2) rfl)) (hts (.native arraycopyName) (List.mem_of_getElem? (i := 3) rfl)) (hts (.static arraycopyName) (List.mem_of_getElem? (i := 4) rfl)) (hts (.initialized "java/lang/System") (List.mem_of_getElem? (i := 5) rfl)) hK.1 hP hD hS 8 2 1 1 rfl rfl rfl rfl rfl (by decide) (by decide) (by decide) (by decide) (by decide) (fun _ _ => rfl) (Nat.le_of_ble_eq_true rfl) (Nat.le_of_ble_eq_true rfl) dX4_copyFrom_27 (fun H locs (hP : va_P D vwCl [(t, .inr (3, [.ref t_codes, .ref t_houses, .ref t_keys, .ref t_parents, .ref t_wrongBits, .int count])), (t_codes, .inl (cI, 40, .inl (va_cpy b0_codes codes 0 0 40))), (t_houses, .inl (cI, 40, .inl (va_cpy b0_houses houses 0 0 40))), (t_keys, .inl (cI, 40, .inl keys)), (t_parents, .inl (cI, 40, .inl parents)), (t_wrongBits, .inl (cI, 40, .inl wrongBits)), (a0, .inr (3, [.ref a0_codes, .ref a0_houses, .ref a0_keys, .ref a0_parents, .ref a0_wrongBits, .int b0_count])), (a0_codes, .inl (cI, 40, .inl b0_codes)), (a0_houses, .inl (cI, 40, .inl b0_houses)), (a0_keys, .inl (cI, 40, .inl b0_keys)), (a0_parents, .inl (cI, 40, .inl b0_parents)), (a0_wrongBits, .inl (cI, 40, .inl b0_wrongBits))] H) (hD : va_D A [(t, .inr (3, [.ref t_codes, .ref t_houses, .ref t_keys, .ref t_parents, .ref t_wrongBits, .int count])), (t_codes, .inl (cI, 40, .inl (va_cpy b0_codes codes 0 0 40))), (t_houses, .inl (cI, 40, .inl (va_cpy b0_houses houses 0 0 40))), (t_keys, .inl (cI, 40, .inl keys)), (t_parents, .inl (cI, 40, .inl parents)), (t_wrongBits, .inl (cI, 40, .inl wrongBits)), (a0, .inr (3, [.ref a0_codes, .ref a0_houses, .ref a0_keys, .ref a0_parents, .ref a0_wrongBits, .int b0_count])), (a0_codes, .inl (cI, 40, .inl b0_codes)), (a0_houses, .inl (cI, 40, .inl b0_houses)), (a0_keys, .inl (cI, 40, .inl b0_keys)), (a0_parents, .inl (cI, 40, .inl b0_parents)), (a0_wrongBits, .inl (cI, 40, .inl b0_wrongBits))]) hS => ?_)
  refine lv_aload_n hx hb dX4_copyFrom_30 rfl (lv_at hl 1 rfl) ?_
  refine va_get (D := D) (ci := 3) (v := .ref a0_keys) (C := RX4) (T := TX4) (N := 6) hx hb hts iX4 hown hK.1 hP 6 rfl rfl 2 (by decide) (hts (.fieldLink RX4 18 "TaughtRemotes$Records" "keys" "[I") (List.mem_of_getElem? (i := 7) rfl)) (fun _ h9 => h9) rfl dX4_copyFrom_31 ?_
  refine lv_iconst (v := 0) hx hb dX4_copyFrom_34 (by decide) ?_
  refine lv_aload_n hx hb dX4_copyFrom_35 rfl (lv_at hl 0 rfl) ?_
  refine va_get (D := D) (ci := 3) (v := .ref t_keys) (C := RX4) (T := TX4) (N := 6) hx hb hts iX4 hown hK.1 hP 0 rfl rfl 2 (by decide) (hts (.fieldLink RX4 18 "TaughtRemotes$Records" "keys" "[I") (List.mem_of_getElem? (i := 7) rfl)) (fun _ h9 => h9) rfl dX4_copyFrom_36 ?_
  refine lv_iconst (v := 0) hx hb dX4_copyFrom_39 (by decide) ?_
  refine lv_bipush (v := 40) hx hb dX4_copyFrom_40 (by decide) ?_
  refine va_copyi (rest := []) hx hb (hcf.2.2.1.trans hl.1.symm) hown (hts (.methodLink RX4 31 arraycopyName) (List.mem_of_getElem? (i := 2) rfl)) (hts (.native arraycopyName) (List.mem_of_getElem? (i := 3) rfl)) (hts (.static arraycopyName) (List.mem_of_getElem? (i := 4) rfl)) (hts (.initialized "java/lang/System") (List.mem_of_getElem? (i := 5) rfl)) hK.1 hP hD hS 9 3 1 1 rfl rfl rfl rfl rfl (by decide) (by decide) (by decide) (by decide) (by decide) (fun _ _ => rfl) (Nat.le_of_ble_eq_true rfl) (Nat.le_of_ble_eq_true rfl) dX4_copyFrom_42 (fun H locs (hP : va_P D vwCl [(t, .inr (3, [.ref t_codes, .ref t_houses, .ref t_keys, .ref t_parents, .ref t_wrongBits, .int count])), (t_codes, .inl (cI, 40, .inl (va_cpy b0_codes codes 0 0 40))), (t_houses, .inl (cI, 40, .inl (va_cpy b0_houses houses 0 0 40))), (t_keys, .inl (cI, 40, .inl (va_cpy b0_keys keys 0 0 40))), (t_parents, .inl (cI, 40, .inl parents)), (t_wrongBits, .inl (cI, 40, .inl wrongBits)), (a0, .inr (3, [.ref a0_codes, .ref a0_houses, .ref a0_keys, .ref a0_parents, .ref a0_wrongBits, .int b0_count])), (a0_codes, .inl (cI, 40, .inl b0_codes)), (a0_houses, .inl (cI, 40, .inl b0_houses)), (a0_keys, .inl (cI, 40, .inl b0_keys)), (a0_parents, .inl (cI, 40, .inl b0_parents)), (a0_wrongBits, .inl (cI, 40, .inl b0_wrongBits))] H) (hD : va_D A [(t, .inr (3, [.ref t_codes, .ref t_houses, .ref t_keys, .ref t_parents, .ref t_wrongBits, .int count])), (t_codes, .inl (cI, 40, .inl (va_cpy b0_codes codes 0 0 40))), (t_houses, .inl (cI, 40, .inl (va_cpy b0_houses houses 0 0 40))), (t_keys, .inl (cI, 40, .inl (va_cpy b0_keys keys 0 0 40))), (t_parents, .inl (cI, 40, .inl parents)), (t_wrongBits, .inl (cI, 40, .inl wrongBits)), (a0, .inr (3, [.ref a0_codes, .ref a0_houses, .ref a0_keys, .ref a0_parents, .ref a0_wrongBits, .int b0_count])), (a0_codes, .inl (cI, 40, .inl b0_codes)), (a0_houses, .inl (cI, 40, .inl b0_houses)), (a0_keys, .inl (cI, 40, .inl b0_keys)), (a0_parents, .inl (cI, 40, .inl b0_parents)), (a0_wrongBits, .inl (cI, 40, .inl b0_wrongBits))]) hS => ?_)
  refine lv_aload_n hx hb dX4_copyFrom_45 rfl (lv_at hl 1 rfl) ?_
  refine va_get (D := D) (ci := 3) (v := .ref a0_parents) (C := RX4) (T := TX4) (N := 6) hx hb hts iX4 hown hK.1 hP 6 rfl rfl 3 (by decide) (hts (.fieldLink RX4 21 "TaughtRemotes$Records" "parents" "[I") (List.mem_of_getElem? (i := 8) rfl)) (fun _ h9 => h9) rfl dX4_copyFrom_46 ?_
  refine lv_iconst (v := 0) hx hb dX4_copyFrom_49 (by decide) ?_
  refine lv_aload_n hx hb dX4_copyFrom_50 rfl (lv_at hl 0 rfl) ?_
  refine va_get (D := D) (ci := 3) (v := .ref t_parents) (C := RX4) (T := TX4) (N := 6) hx hb hts iX4 hown hK.1 hP 0 rfl rfl 3 (by decide) (hts (.fieldLink RX4 21 "TaughtRemotes$Records" "parents" "[I") (List.mem_of_getElem? (i := 8) rfl)) (fun _ h9 => h9) rfl dX4_copyFrom_51 ?_
  refine lv_iconst (v := 0) hx hb dX4_copyFrom_54 (by decide) ?_
  refine lv_bipush (v := 40) hx hb dX4_copyFrom_55 (by decide) ?_
  refine va_copyi (rest := []) hx hb (hcf.2.2.1.trans hl.1.symm) hown (hts (.methodLink RX4 31 arraycopyName) (List.mem_of_getElem? (i := 2) rfl)) (hts (.native arraycopyName) (List.mem_of_getElem? (i := 3) rfl)) (hts (.static arraycopyName) (List.mem_of_getElem? (i := 4) rfl)) (hts (.initialized "java/lang/System") (List.mem_of_getElem? (i := 5) rfl)) hK.1 hP hD hS 10 4 1 1 rfl rfl rfl rfl rfl (by decide) (by decide) (by decide) (by decide) (by decide) (fun _ _ => rfl) (Nat.le_of_ble_eq_true rfl) (Nat.le_of_ble_eq_true rfl) dX4_copyFrom_57 (fun H locs (hP : va_P D vwCl [(t, .inr (3, [.ref t_codes, .ref t_houses, .ref t_keys, .ref t_parents, .ref t_wrongBits, .int count])), (t_codes, .inl (cI, 40, .inl (va_cpy b0_codes codes 0 0 40))), (t_houses, .inl (cI, 40, .inl (va_cpy b0_houses houses 0 0 40))), (t_keys, .inl (cI, 40, .inl (va_cpy b0_keys keys 0 0 40))), (t_parents, .inl (cI, 40, .inl (va_cpy b0_parents parents 0 0 40))), (t_wrongBits, .inl (cI, 40, .inl wrongBits)), (a0, .inr (3, [.ref a0_codes, .ref a0_houses, .ref a0_keys, .ref a0_parents, .ref a0_wrongBits, .int b0_count])), (a0_codes, .inl (cI, 40, .inl b0_codes)), (a0_houses, .inl (cI, 40, .inl b0_houses)), (a0_keys, .inl (cI, 40, .inl b0_keys)), (a0_parents, .inl (cI, 40, .inl b0_parents)), (a0_wrongBits, .inl (cI, 40, .inl b0_wrongBits))] H) (hD : va_D A [(t, .inr (3, [.ref t_codes, .ref t_houses, .ref t_keys, .ref t_parents, .ref t_wrongBits, .int count])), (t_codes, .inl (cI, 40, .inl (va_cpy b0_codes codes 0 0 40))), (t_houses, .inl (cI, 40, .inl (va_cpy b0_houses houses 0 0 40))), (t_keys, .inl (cI, 40, .inl (va_cpy b0_keys keys 0 0 40))), (t_parents, .inl (cI, 40, .inl (va_cpy b0_parents parents 0 0 40))), (t_wrongBits, .inl (cI, 40, .inl wrongBits)), (a0, .inr (3, [.ref a0_codes, .ref a0_houses, .ref a0_keys, .ref a0_parents, .ref a0_wrongBits, .int b0_count])), (a0_codes, .inl (cI, 40, .inl b0_codes)), (a0_houses, .inl (cI, 40, .inl b0_houses)), (a0_keys, .inl (cI, 40, .inl b0_keys)), (a0_parents, .inl (cI, 40, .inl b0_parents)), (a0_wrongBits, .inl (cI, 40, .inl b0_wrongBits))]) hS => ?_)
  refine lv_aload_n hx hb dX4_copyFrom_60 rfl (lv_at hl 1 rfl) ?_
  refine va_get (D := D) (ci := 3) (v := .ref a0_wrongBits) (C := RX4) (T := TX4) (N := 6) hx hb hts iX4 hown hK.1 hP 6 rfl rfl 4 (by decide) (hts (.fieldLink RX4 24 "TaughtRemotes$Records" "wrongBits" "[I") (List.mem_of_getElem? (i := 9) rfl)) (fun _ h9 => h9) rfl dX4_copyFrom_61 ?_
  refine lv_iconst (v := 0) hx hb dX4_copyFrom_64 (by decide) ?_
  refine lv_aload_n hx hb dX4_copyFrom_65 rfl (lv_at hl 0 rfl) ?_
  refine va_get (D := D) (ci := 3) (v := .ref t_wrongBits) (C := RX4) (T := TX4) (N := 6) hx hb hts iX4 hown hK.1 hP 0 rfl rfl 4 (by decide) (hts (.fieldLink RX4 24 "TaughtRemotes$Records" "wrongBits" "[I") (List.mem_of_getElem? (i := 9) rfl)) (fun _ h9 => h9) rfl dX4_copyFrom_66 ?_
  refine lv_iconst (v := 0) hx hb dX4_copyFrom_69 (by decide) ?_
  refine lv_bipush (v := 40) hx hb dX4_copyFrom_70 (by decide) ?_
  refine va_copyi (rest := []) hx hb (hcf.2.2.1.trans hl.1.symm) hown (hts (.methodLink RX4 31 arraycopyName) (List.mem_of_getElem? (i := 2) rfl)) (hts (.native arraycopyName) (List.mem_of_getElem? (i := 3) rfl)) (hts (.static arraycopyName) (List.mem_of_getElem? (i := 4) rfl)) (hts (.initialized "java/lang/System") (List.mem_of_getElem? (i := 5) rfl)) hK.1 hP hD hS 11 5 1 1 rfl rfl rfl rfl rfl (by decide) (by decide) (by decide) (by decide) (by decide) (fun _ _ => rfl) (Nat.le_of_ble_eq_true rfl) (Nat.le_of_ble_eq_true rfl) dX4_copyFrom_72 (fun H locs (hP : va_P D vwCl [(t, .inr (3, [.ref t_codes, .ref t_houses, .ref t_keys, .ref t_parents, .ref t_wrongBits, .int count])), (t_codes, .inl (cI, 40, .inl (va_cpy b0_codes codes 0 0 40))), (t_houses, .inl (cI, 40, .inl (va_cpy b0_houses houses 0 0 40))), (t_keys, .inl (cI, 40, .inl (va_cpy b0_keys keys 0 0 40))), (t_parents, .inl (cI, 40, .inl (va_cpy b0_parents parents 0 0 40))), (t_wrongBits, .inl (cI, 40, .inl (va_cpy b0_wrongBits wrongBits 0 0 40))), (a0, .inr (3, [.ref a0_codes, .ref a0_houses, .ref a0_keys, .ref a0_parents, .ref a0_wrongBits, .int b0_count])), (a0_codes, .inl (cI, 40, .inl b0_codes)), (a0_houses, .inl (cI, 40, .inl b0_houses)), (a0_keys, .inl (cI, 40, .inl b0_keys)), (a0_parents, .inl (cI, 40, .inl b0_parents)), (a0_wrongBits, .inl (cI, 40, .inl b0_wrongBits))] H) (hD : va_D A [(t, .inr (3, [.ref t_codes, .ref t_houses, .ref t_keys, .ref t_parents, .ref t_wrongBits, .int count])), (t_codes, .inl (cI, 40, .inl (va_cpy b0_codes codes 0 0 40))), (t_houses, .inl (cI, 40, .inl (va_cpy b0_houses houses 0 0 40))), (t_keys, .inl (cI, 40, .inl (va_cpy b0_keys keys 0 0 40))), (t_parents, .inl (cI, 40, .inl (va_cpy b0_parents parents 0 0 40))), (t_wrongBits, .inl (cI, 40, .inl (va_cpy b0_wrongBits wrongBits 0 0 40))), (a0, .inr (3, [.ref a0_codes, .ref a0_houses, .ref a0_keys, .ref a0_parents, .ref a0_wrongBits, .int b0_count])), (a0_codes, .inl (cI, 40, .inl b0_codes)), (a0_houses, .inl (cI, 40, .inl b0_houses)), (a0_keys, .inl (cI, 40, .inl b0_keys)), (a0_parents, .inl (cI, 40, .inl b0_parents)), (a0_wrongBits, .inl (cI, 40, .inl b0_wrongBits))]) hS => ?_)
  refine lv_aload_n hx hb dX4_copyFrom_75 rfl (lv_at hl 0 rfl) ?_
  refine lv_aload_n hx hb dX4_copyFrom_76 rfl (lv_at hl 1 rfl) ?_
  refine va_get (D := D) (ci := 3) (v := .int b0_count) (C := RX4) (T := TX4) (N := 6) hx hb hts iX4 hown hK.1 hP 6 rfl rfl 5 (by decide) (hts (.fieldLink RX4 27 "TaughtRemotes$Records" "count" "I") (List.mem_of_getElem? (i := 10) rfl)) (fun _ h9 => h9) rfl dX4_copyFrom_77 ?_
  refine va_put (D := D) (ci := 3) (v := .int b0_count) (ty := .int) (C := RX4) (T := TX4) (N := 6) hx hb hts iX4 tyX4 tyX4_ok nmX4 hown hK.1 hP hD hS 0 rfl rfl 5 (by decide) (hts (.fieldLink RX4 27 "TaughtRemotes$Records" "count" "I") (List.mem_of_getElem? (i := 10) rfl)) (fun _ h9 => h9) rfl (by decide +kernel) rfl rfl (Nat.le_of_ble_eq_true rfl) dX4_copyFrom_80 (fun H locs (hP : va_P D vwCl [(t, .inr (3, [.ref t_codes, .ref t_houses, .ref t_keys, .ref t_parents, .ref t_wrongBits, .int b0_count])), (t_codes, .inl (cI, 40, .inl (va_cpy b0_codes codes 0 0 40))), (t_houses, .inl (cI, 40, .inl (va_cpy b0_houses houses 0 0 40))), (t_keys, .inl (cI, 40, .inl (va_cpy b0_keys keys 0 0 40))), (t_parents, .inl (cI, 40, .inl (va_cpy b0_parents parents 0 0 40))), (t_wrongBits, .inl (cI, 40, .inl (va_cpy b0_wrongBits wrongBits 0 0 40))), (a0, .inr (3, [.ref a0_codes, .ref a0_houses, .ref a0_keys, .ref a0_parents, .ref a0_wrongBits, .int b0_count])), (a0_codes, .inl (cI, 40, .inl b0_codes)), (a0_houses, .inl (cI, 40, .inl b0_houses)), (a0_keys, .inl (cI, 40, .inl b0_keys)), (a0_parents, .inl (cI, 40, .inl b0_parents)), (a0_wrongBits, .inl (cI, 40, .inl b0_wrongBits))] H) (hD : va_D A [(t, .inr (3, [.ref t_codes, .ref t_houses, .ref t_keys, .ref t_parents, .ref t_wrongBits, .int b0_count])), (t_codes, .inl (cI, 40, .inl (va_cpy b0_codes codes 0 0 40))), (t_houses, .inl (cI, 40, .inl (va_cpy b0_houses houses 0 0 40))), (t_keys, .inl (cI, 40, .inl (va_cpy b0_keys keys 0 0 40))), (t_parents, .inl (cI, 40, .inl (va_cpy b0_parents parents 0 0 40))), (t_wrongBits, .inl (cI, 40, .inl (va_cpy b0_wrongBits wrongBits 0 0 40))), (a0, .inr (3, [.ref a0_codes, .ref a0_houses, .ref a0_keys, .ref a0_parents, .ref a0_wrongBits, .int b0_count])), (a0_codes, .inl (cI, 40, .inl b0_codes)), (a0_houses, .inl (cI, 40, .inl b0_houses)), (a0_keys, .inl (cI, 40, .inl b0_keys)), (a0_parents, .inl (cI, 40, .inl b0_parents)), (a0_wrongBits, .inl (cI, 40, .inl b0_wrongBits))]) hS => ?_)
  have e_out := Option.some.inj hf
  subst e_out
  exact hret _ _ _ _ _ _ dX4_copyFrom_83 (Nat.zero_le _) (Nat.zero_le _) hP hD hS
def rm_X4_codeOf : Room := { frames := 1, cells := 0, slots := 0, locals := 21 }
set_option maxHeartbeats 4000000 in
set_option maxRecDepth 100000 in
theorem c_X4_codeOf (l : Launch) (D : va_G) (cC cI cJ cZ cO : ClassId) (t : Nat) (t_codes : Nat) (t_houses : Nat) (t_keys : Nat) (t_parents : Nat) (t_wrongBits : Nat) (codes : Nat → Int32) (houses : Nat → Int32) (keys : Nat → Int32) (parents : Nat → Int32) (wrongBits : Nat → Int32) (count : Int32) (p0 : Int32) (out : Int32)
    (hf : f_Rec_codeOf codes count p0 = some out) : PCon l yX4_codeOf wsX4_codeOf rm_X4_codeOf D (tyA cC cI cJ cZ cO) [.ref t, .int p0] [(t, .inr (3, [.ref t_codes, .ref t_houses, .ref t_keys, .ref t_parents, .ref t_wrongBits, .int count])), (t_codes, .inl (cI, 40, .inl codes)), (t_houses, .inl (cI, 40, .inl houses)), (t_keys, .inl (cI, 40, .inl keys)), (t_parents, .inl (cI, 40, .inl parents)), (t_wrongBits, .inl (cI, 40, .inl wrongBits))] (.int out) := by
  have iX4 : ∀ w ∈ wsX40, w ∈ wsX4_codeOf := (fun _ h => List.mem_cons_of_mem _ (List.mem_append_right _ h))
  refine pc_I (own := RX4) (cc := cX4_codeOf) (maxL := 2) (by decide) rfl rfl (Nat.le_of_ble_eq_true rfl) ?_
  intro p e s m args below meth c ls Q hx hb hts hown hcf hP hK hl hret
  have hl : lv_has ls 2 [(0, .ref t), (1, .int p0)] := hl
  refine lv_aload_n hx hb dX4_codeOf_0 rfl (lv_at hl 0 rfl) ?_
  refine lv_iload_n hx hb dX4_codeOf_1 rfl (lv_at hl 1 rfl) ?_
  obtain ⟨o_2, h_2, hf⟩ := cal_e hf
  refine pcV (n := 1) [.int p0] [] [0, 1, 2, 3, 4, 5] 0 3 hcf (c_X4_has l D cC cI cJ cZ cO t t_codes t_houses t_keys t_parents t_wrongBits codes houses keys parents wrongBits count p0 o_2 h_2) gX4_codeOf_X4_has rfl (by decide +kernel) ⟨rfl, rfl⟩ ⟨Nat.le_of_ble_eq_true rfl, Nat.le_of_ble_eq_true rfl⟩ ⟨Nat.le_of_ble_eq_true rfl, Nat.le_of_ble_eq_true rfl⟩ hK hP rfl rfl rfl rfl rfl hl.1 rfl (Nat.le_of_ble_eq_true rfl) dX4_codeOf_2 ?_
  refine lv_if_eq (tgt := 17) hx hb dX4_codeOf_5 (by decide) (fun c_5 => ?_) (fun c_5 => ?_)
  · have hf := ite_t c_5 hf
    refine lv_bipush (v := (-9)) hx hb dX4_codeOf_17 (by decide) ?_
    have e_out := Option.some.inj hf
    subst e_out
    exact hret _ _ dX4_codeOf_19
  · have hf := ite_f c_5 hf
    refine lv_aload_n hx hb dX4_codeOf_8 rfl (lv_at hl 0 rfl) ?_
    refine va_get (D := D) (ci := 3) (v := .ref t_codes) (C := RX4) (T := TX4) (N := 6) hx hb hts iX4 hown hK.1 hP 0 rfl rfl 0 (by decide) (hts (.fieldLink RX4 9 "TaughtRemotes$Records" "codes" "[I") (List.mem_of_getElem? (i := 1) rfl)) (fun _ h9 => h9) rfl dX4_codeOf_9 ?_
    refine lv_iload_n hx hb dX4_codeOf_12 rfl (lv_at hl 1 rfl) ?_
    obtain ⟨b_13, hf⟩ := gd_e hf
    refine r_iald hx hb hK hP 1 1 rfl rfl rfl (vin b_13) dX4_codeOf_13 ?_
    refine lv_goto (tgt := 19) hx hb dX4_codeOf_14 (by decide) ?_
    have e_out := Option.some.inj hf
    subst e_out
    exact hret _ _ dX4_codeOf_19
def rm_X4_houseOf : Room := { frames := 1, cells := 0, slots := 0, locals := 21 }
set_option maxHeartbeats 4000000 in
set_option maxRecDepth 100000 in
theorem c_X4_houseOf (l : Launch) (D : va_G) (cC cI cJ cZ cO : ClassId) (t : Nat) (t_codes : Nat) (t_houses : Nat) (t_keys : Nat) (t_parents : Nat) (t_wrongBits : Nat) (codes : Nat → Int32) (houses : Nat → Int32) (keys : Nat → Int32) (parents : Nat → Int32) (wrongBits : Nat → Int32) (count : Int32) (p0 : Int32) (out : Int32)
    (hf : f_Rec_houseOf houses count p0 = some out) : PCon l yX4_houseOf wsX4_houseOf rm_X4_houseOf D (tyA cC cI cJ cZ cO) [.ref t, .int p0] [(t, .inr (3, [.ref t_codes, .ref t_houses, .ref t_keys, .ref t_parents, .ref t_wrongBits, .int count])), (t_codes, .inl (cI, 40, .inl codes)), (t_houses, .inl (cI, 40, .inl houses)), (t_keys, .inl (cI, 40, .inl keys)), (t_parents, .inl (cI, 40, .inl parents)), (t_wrongBits, .inl (cI, 40, .inl wrongBits))] (.int out) := by
  have iX4 : ∀ w ∈ wsX40, w ∈ wsX4_houseOf := (fun _ h => List.mem_cons_of_mem _ (List.mem_append_right _ h))
  refine pc_I (own := RX4) (cc := cX4_houseOf) (maxL := 2) (by decide) rfl rfl (Nat.le_of_ble_eq_true rfl) ?_
  intro p e s m args below meth c ls Q hx hb hts hown hcf hP hK hl hret
  have hl : lv_has ls 2 [(0, .ref t), (1, .int p0)] := hl
  refine lv_aload_n hx hb dX4_houseOf_0 rfl (lv_at hl 0 rfl) ?_
  refine lv_iload_n hx hb dX4_houseOf_1 rfl (lv_at hl 1 rfl) ?_
  obtain ⟨o_2, h_2, hf⟩ := cal_e hf
  refine pcV (n := 1) [.int p0] [] [0, 1, 2, 3, 4, 5] 0 3 hcf (c_X4_has l D cC cI cJ cZ cO t t_codes t_houses t_keys t_parents t_wrongBits codes houses keys parents wrongBits count p0 o_2 h_2) gX4_houseOf_X4_has rfl (by decide +kernel) ⟨rfl, rfl⟩ ⟨Nat.le_of_ble_eq_true rfl, Nat.le_of_ble_eq_true rfl⟩ ⟨Nat.le_of_ble_eq_true rfl, Nat.le_of_ble_eq_true rfl⟩ hK hP rfl rfl rfl rfl rfl hl.1 rfl (Nat.le_of_ble_eq_true rfl) dX4_houseOf_2 ?_
  refine lv_if_eq (tgt := 17) hx hb dX4_houseOf_5 (by decide) (fun c_5 => ?_) (fun c_5 => ?_)
  · have hf := ite_t c_5 hf
    refine lv_bipush (v := (-9)) hx hb dX4_houseOf_17 (by decide) ?_
    have e_out := Option.some.inj hf
    subst e_out
    exact hret _ _ dX4_houseOf_19
  · have hf := ite_f c_5 hf
    refine lv_aload_n hx hb dX4_houseOf_8 rfl (lv_at hl 0 rfl) ?_
    refine va_get (D := D) (ci := 3) (v := .ref t_houses) (C := RX4) (T := TX4) (N := 6) hx hb hts iX4 hown hK.1 hP 0 rfl rfl 1 (by decide) (hts (.fieldLink RX4 15 "TaughtRemotes$Records" "houses" "[I") (List.mem_of_getElem? (i := 1) rfl)) (fun _ h9 => h9) rfl dX4_houseOf_9 ?_
    refine lv_iload_n hx hb dX4_houseOf_12 rfl (lv_at hl 1 rfl) ?_
    obtain ⟨b_13, hf⟩ := gd_e hf
    refine r_iald hx hb hK hP 2 1 rfl rfl rfl (vin b_13) dX4_houseOf_13 ?_
    refine lv_goto (tgt := 19) hx hb dX4_houseOf_14 (by decide) ?_
    have e_out := Option.some.inj hf
    subst e_out
    exact hret _ _ dX4_houseOf_19
def rm_X4_keyOf : Room := { frames := 1, cells := 0, slots := 0, locals := 21 }
set_option maxHeartbeats 4000000 in
set_option maxRecDepth 100000 in
theorem c_X4_keyOf (l : Launch) (D : va_G) (cC cI cJ cZ cO : ClassId) (t : Nat) (t_codes : Nat) (t_houses : Nat) (t_keys : Nat) (t_parents : Nat) (t_wrongBits : Nat) (codes : Nat → Int32) (houses : Nat → Int32) (keys : Nat → Int32) (parents : Nat → Int32) (wrongBits : Nat → Int32) (count : Int32) (p0 : Int32) (out : Int32)
    (hf : f_Rec_keyOf keys count p0 = some out) : PCon l yX4_keyOf wsX4_keyOf rm_X4_keyOf D (tyA cC cI cJ cZ cO) [.ref t, .int p0] [(t, .inr (3, [.ref t_codes, .ref t_houses, .ref t_keys, .ref t_parents, .ref t_wrongBits, .int count])), (t_codes, .inl (cI, 40, .inl codes)), (t_houses, .inl (cI, 40, .inl houses)), (t_keys, .inl (cI, 40, .inl keys)), (t_parents, .inl (cI, 40, .inl parents)), (t_wrongBits, .inl (cI, 40, .inl wrongBits))] (.int out) := by
  have iX4 : ∀ w ∈ wsX40, w ∈ wsX4_keyOf := (fun _ h => List.mem_cons_of_mem _ (List.mem_append_right _ h))
  refine pc_I (own := RX4) (cc := cX4_keyOf) (maxL := 2) (by decide) rfl rfl (Nat.le_of_ble_eq_true rfl) ?_
  intro p e s m args below meth c ls Q hx hb hts hown hcf hP hK hl hret
  have hl : lv_has ls 2 [(0, .ref t), (1, .int p0)] := hl
  refine lv_aload_n hx hb dX4_keyOf_0 rfl (lv_at hl 0 rfl) ?_
  refine lv_iload_n hx hb dX4_keyOf_1 rfl (lv_at hl 1 rfl) ?_
  obtain ⟨o_2, h_2, hf⟩ := cal_e hf
  refine pcV (n := 1) [.int p0] [] [0, 1, 2, 3, 4, 5] 0 3 hcf (c_X4_has l D cC cI cJ cZ cO t t_codes t_houses t_keys t_parents t_wrongBits codes houses keys parents wrongBits count p0 o_2 h_2) gX4_keyOf_X4_has rfl (by decide +kernel) ⟨rfl, rfl⟩ ⟨Nat.le_of_ble_eq_true rfl, Nat.le_of_ble_eq_true rfl⟩ ⟨Nat.le_of_ble_eq_true rfl, Nat.le_of_ble_eq_true rfl⟩ hK hP rfl rfl rfl rfl rfl hl.1 rfl (Nat.le_of_ble_eq_true rfl) dX4_keyOf_2 ?_
  refine lv_if_eq (tgt := 17) hx hb dX4_keyOf_5 (by decide) (fun c_5 => ?_) (fun c_5 => ?_)
  · have hf := ite_t c_5 hf
    refine lv_bipush (v := (-9)) hx hb dX4_keyOf_17 (by decide) ?_
    have e_out := Option.some.inj hf
    subst e_out
    exact hret _ _ dX4_keyOf_19
  · have hf := ite_f c_5 hf
    refine lv_aload_n hx hb dX4_keyOf_8 rfl (lv_at hl 0 rfl) ?_
    refine va_get (D := D) (ci := 3) (v := .ref t_keys) (C := RX4) (T := TX4) (N := 6) hx hb hts iX4 hown hK.1 hP 0 rfl rfl 2 (by decide) (hts (.fieldLink RX4 18 "TaughtRemotes$Records" "keys" "[I") (List.mem_of_getElem? (i := 1) rfl)) (fun _ h9 => h9) rfl dX4_keyOf_9 ?_
    refine lv_iload_n hx hb dX4_keyOf_12 rfl (lv_at hl 1 rfl) ?_
    obtain ⟨b_13, hf⟩ := gd_e hf
    refine r_iald hx hb hK hP 3 1 rfl rfl rfl (vin b_13) dX4_keyOf_13 ?_
    refine lv_goto (tgt := 19) hx hb dX4_keyOf_14 (by decide) ?_
    have e_out := Option.some.inj hf
    subst e_out
    exact hret _ _ dX4_keyOf_19
def rm_X4_parentOf : Room := { frames := 1, cells := 0, slots := 0, locals := 21 }
set_option maxHeartbeats 4000000 in
set_option maxRecDepth 100000 in
theorem c_X4_parentOf (l : Launch) (D : va_G) (cC cI cJ cZ cO : ClassId) (t : Nat) (t_codes : Nat) (t_houses : Nat) (t_keys : Nat) (t_parents : Nat) (t_wrongBits : Nat) (codes : Nat → Int32) (houses : Nat → Int32) (keys : Nat → Int32) (parents : Nat → Int32) (wrongBits : Nat → Int32) (count : Int32) (p0 : Int32) (out : Int32)
    (hf : f_Rec_parentOf parents count p0 = some out) : PCon l yX4_parentOf wsX4_parentOf rm_X4_parentOf D (tyA cC cI cJ cZ cO) [.ref t, .int p0] [(t, .inr (3, [.ref t_codes, .ref t_houses, .ref t_keys, .ref t_parents, .ref t_wrongBits, .int count])), (t_codes, .inl (cI, 40, .inl codes)), (t_houses, .inl (cI, 40, .inl houses)), (t_keys, .inl (cI, 40, .inl keys)), (t_parents, .inl (cI, 40, .inl parents)), (t_wrongBits, .inl (cI, 40, .inl wrongBits))] (.int out) := by
  have iX4 : ∀ w ∈ wsX40, w ∈ wsX4_parentOf := (fun _ h => List.mem_cons_of_mem _ (List.mem_append_right _ h))
  refine pc_I (own := RX4) (cc := cX4_parentOf) (maxL := 2) (by decide) rfl rfl (Nat.le_of_ble_eq_true rfl) ?_
  intro p e s m args below meth c ls Q hx hb hts hown hcf hP hK hl hret
  have hl : lv_has ls 2 [(0, .ref t), (1, .int p0)] := hl
  refine lv_aload_n hx hb dX4_parentOf_0 rfl (lv_at hl 0 rfl) ?_
  refine lv_iload_n hx hb dX4_parentOf_1 rfl (lv_at hl 1 rfl) ?_
  obtain ⟨o_2, h_2, hf⟩ := cal_e hf
  refine pcV (n := 1) [.int p0] [] [0, 1, 2, 3, 4, 5] 0 3 hcf (c_X4_has l D cC cI cJ cZ cO t t_codes t_houses t_keys t_parents t_wrongBits codes houses keys parents wrongBits count p0 o_2 h_2) gX4_parentOf_X4_has rfl (by decide +kernel) ⟨rfl, rfl⟩ ⟨Nat.le_of_ble_eq_true rfl, Nat.le_of_ble_eq_true rfl⟩ ⟨Nat.le_of_ble_eq_true rfl, Nat.le_of_ble_eq_true rfl⟩ hK hP rfl rfl rfl rfl rfl hl.1 rfl (Nat.le_of_ble_eq_true rfl) dX4_parentOf_2 ?_
  refine lv_if_eq (tgt := 17) hx hb dX4_parentOf_5 (by decide) (fun c_5 => ?_) (fun c_5 => ?_)
  · have hf := ite_t c_5 hf
    refine lv_bipush (v := (-9)) hx hb dX4_parentOf_17 (by decide) ?_
    have e_out := Option.some.inj hf
    subst e_out
    exact hret _ _ dX4_parentOf_19
  · have hf := ite_f c_5 hf
    refine lv_aload_n hx hb dX4_parentOf_8 rfl (lv_at hl 0 rfl) ?_
    refine va_get (D := D) (ci := 3) (v := .ref t_parents) (C := RX4) (T := TX4) (N := 6) hx hb hts iX4 hown hK.1 hP 0 rfl rfl 3 (by decide) (hts (.fieldLink RX4 21 "TaughtRemotes$Records" "parents" "[I") (List.mem_of_getElem? (i := 1) rfl)) (fun _ h9 => h9) rfl dX4_parentOf_9 ?_
    refine lv_iload_n hx hb dX4_parentOf_12 rfl (lv_at hl 1 rfl) ?_
    obtain ⟨b_13, hf⟩ := gd_e hf
    refine r_iald hx hb hK hP 4 1 rfl rfl rfl (vin b_13) dX4_parentOf_13 ?_
    refine lv_goto (tgt := 19) hx hb dX4_parentOf_14 (by decide) ?_
    have e_out := Option.some.inj hf
    subst e_out
    exact hret _ _ dX4_parentOf_19
def rm_X4_wrongBitOf : Room := { frames := 1, cells := 0, slots := 0, locals := 21 }
set_option maxHeartbeats 4000000 in
set_option maxRecDepth 100000 in
theorem c_X4_wrongBitOf (l : Launch) (D : va_G) (cC cI cJ cZ cO : ClassId) (t : Nat) (t_codes : Nat) (t_houses : Nat) (t_keys : Nat) (t_parents : Nat) (t_wrongBits : Nat) (codes : Nat → Int32) (houses : Nat → Int32) (keys : Nat → Int32) (parents : Nat → Int32) (wrongBits : Nat → Int32) (count : Int32) (p0 : Int32) (out : Int32)
    (hf : f_Rec_wrongBitOf wrongBits count p0 = some out) : PCon l yX4_wrongBitOf wsX4_wrongBitOf rm_X4_wrongBitOf D (tyA cC cI cJ cZ cO) [.ref t, .int p0] [(t, .inr (3, [.ref t_codes, .ref t_houses, .ref t_keys, .ref t_parents, .ref t_wrongBits, .int count])), (t_codes, .inl (cI, 40, .inl codes)), (t_houses, .inl (cI, 40, .inl houses)), (t_keys, .inl (cI, 40, .inl keys)), (t_parents, .inl (cI, 40, .inl parents)), (t_wrongBits, .inl (cI, 40, .inl wrongBits))] (.int out) := by
  have iX4 : ∀ w ∈ wsX40, w ∈ wsX4_wrongBitOf := (fun _ h => List.mem_cons_of_mem _ (List.mem_append_right _ h))
  refine pc_I (own := RX4) (cc := cX4_wrongBitOf) (maxL := 2) (by decide) rfl rfl (Nat.le_of_ble_eq_true rfl) ?_
  intro p e s m args below meth c ls Q hx hb hts hown hcf hP hK hl hret
  have hl : lv_has ls 2 [(0, .ref t), (1, .int p0)] := hl
  refine lv_aload_n hx hb dX4_wrongBitOf_0 rfl (lv_at hl 0 rfl) ?_
  refine lv_iload_n hx hb dX4_wrongBitOf_1 rfl (lv_at hl 1 rfl) ?_
  obtain ⟨o_2, h_2, hf⟩ := cal_e hf
  refine pcV (n := 1) [.int p0] [] [0, 1, 2, 3, 4, 5] 0 3 hcf (c_X4_has l D cC cI cJ cZ cO t t_codes t_houses t_keys t_parents t_wrongBits codes houses keys parents wrongBits count p0 o_2 h_2) gX4_wrongBitOf_X4_has rfl (by decide +kernel) ⟨rfl, rfl⟩ ⟨Nat.le_of_ble_eq_true rfl, Nat.le_of_ble_eq_true rfl⟩ ⟨Nat.le_of_ble_eq_true rfl, Nat.le_of_ble_eq_true rfl⟩ hK hP rfl rfl rfl rfl rfl hl.1 rfl (Nat.le_of_ble_eq_true rfl) dX4_wrongBitOf_2 ?_
  refine lv_if_eq (tgt := 17) hx hb dX4_wrongBitOf_5 (by decide) (fun c_5 => ?_) (fun c_5 => ?_)
  · have hf := ite_t c_5 hf
    refine lv_bipush (v := (-9)) hx hb dX4_wrongBitOf_17 (by decide) ?_
    have e_out := Option.some.inj hf
    subst e_out
    exact hret _ _ dX4_wrongBitOf_19
  · have hf := ite_f c_5 hf
    refine lv_aload_n hx hb dX4_wrongBitOf_8 rfl (lv_at hl 0 rfl) ?_
    refine va_get (D := D) (ci := 3) (v := .ref t_wrongBits) (C := RX4) (T := TX4) (N := 6) hx hb hts iX4 hown hK.1 hP 0 rfl rfl 4 (by decide) (hts (.fieldLink RX4 24 "TaughtRemotes$Records" "wrongBits" "[I") (List.mem_of_getElem? (i := 1) rfl)) (fun _ h9 => h9) rfl dX4_wrongBitOf_9 ?_
    refine lv_iload_n hx hb dX4_wrongBitOf_12 rfl (lv_at hl 1 rfl) ?_
    obtain ⟨b_13, hf⟩ := gd_e hf
    refine r_iald hx hb hK hP 5 1 rfl rfl rfl (vin b_13) dX4_wrongBitOf_13 ?_
    refine lv_goto (tgt := 19) hx hb dX4_wrongBitOf_14 (by decide) ?_
    have e_out := Option.some.inj hf
    subst e_out
    exact hret _ _ dX4_wrongBitOf_19
def rm_X4_ancestorOf : Room := { frames := 2, cells := 0, slots := 0, locals := 42 }
set_option maxHeartbeats 4000000 in
set_option maxRecDepth 100000 in
theorem c_X4_ancestorOf (l : Launch) (D : va_G) (cC cI cJ cZ cO : ClassId) (t : Nat) (t_codes : Nat) (t_houses : Nat) (t_keys : Nat) (t_parents : Nat) (t_wrongBits : Nat) (codes : Nat → Int32) (houses : Nat → Int32) (keys : Nat → Int32) (parents : Nat → Int32) (wrongBits : Nat → Int32) (count : Int32) (p0 : Int32) (p1 : Int32) (out : Int32)
    (hf : f_Rec_ancestorOf parents count p0 p1 = some out) : PCon l yX4_ancestorOf wsX4_ancestorOf rm_X4_ancestorOf D (tyA cC cI cJ cZ cO) [.ref t, .int p0, .int p1] [(t, .inr (3, [.ref t_codes, .ref t_houses, .ref t_keys, .ref t_parents, .ref t_wrongBits, .int count])), (t_codes, .inl (cI, 40, .inl codes)), (t_houses, .inl (cI, 40, .inl houses)), (t_keys, .inl (cI, 40, .inl keys)), (t_parents, .inl (cI, 40, .inl parents)), (t_wrongBits, .inl (cI, 40, .inl wrongBits))] (.int out) := by
  refine pc_I (own := RX4) (cc := cX4_ancestorOf) (maxL := 6) (by decide) rfl rfl (Nat.le_of_ble_eq_true rfl) ?_
  intro p e s m args below meth c ls Q hx hb hts hown hcf hP hK hl hret
  have hl : lv_has ls 6 [(0, .ref t), (1, .int p0), (2, .int p1)] := hl
  refine lv_iload_n hx hb dX4_ancestorOf_0 rfl (lv_at hl 2 rfl) ?_
  refine lv_bipush (v := 40) hx hb dX4_ancestorOf_1 (by decide) ?_
  refine r_mmin (rest := []) hx hb (hcf.2.2.1.trans hl.1.symm) hown (hts (.methodLink RX4 45 Lib.Math.min.name) (List.mem_of_getElem? (i := 1) rfl)) (hts (.static Lib.Math.min.name) (List.mem_of_getElem? (i := 2) rfl)) (hts (.initialized "java/lang/Math") (List.mem_of_getElem? (i := 3) rfl)) (hts (.code Lib.Math.min.name Lib.Math.min.code 2 (some .int)) (List.mem_of_getElem? (i := 4) rfl)) (Nat.le_of_ble_eq_true rfl) (Nat.le_of_ble_eq_true rfl) ⟨Nat.le_of_ble_eq_true rfl, Nat.le_of_ble_eq_true rfl⟩ dX4_ancestorOf_3 ?_
  refine lv_istore_n (lv' := [(3, .int (imin p1 40)), (0, .ref t), (1, .int p0), (2, .int p1)]) hx hb dX4_ancestorOf_6 rfl hl (by decide) rfl (fun ls hl => ?_)
  refine lv_iload_n hx hb dX4_ancestorOf_7 rfl (lv_at hl 2 rfl) ?_
  refine lv_istore (lv' := [(4, .int p0), (3, .int (imin p1 40)), (0, .ref t), (1, .int p0), (2, .int p1)]) hx hb dX4_ancestorOf_8 hl (by decide) rfl (fun ls hl => ?_)
  refine lv_iconst (v := 0) hx hb dX4_ancestorOf_10 (by decide) ?_
  refine lv_istore (lv' := [(5, .int 0), (4, .int p0), (3, .int (imin p1 40)), (0, .ref t), (1, .int p0), (2, .int p1)]) hx hb dX4_ancestorOf_11 hl (by decide) rfl (fun ls hl => ?_)
  have J13 : ∀ (n_13 : Nat) (x4_13 : Int32) (x5_13 : Int32) (ls : Array Slot), rl2 (f_Rec_ancestorOf_13 parents count p1) n_13 x4_13 x5_13 = some out → lv_has ls 6 [(0, .ref t), (3, .int (imin p1 40)), (4, .int x4_13), (5, .int x5_13)] → W p l e rm_X4_ancestorOf s m args below meth c s.heap [] 0 0 Q (F0 m 13 ls []) := by
    intro n_13
    induction n_13 with
    | zero =>
      intro x4_13 x5_13 ls hf
      cases hf
    | succ n_13 ih_13 =>
      intro x4_13 x5_13 ls hf hl
      have hf : f_Rec_ancestorOf_13 parents count p1 x4_13 x5_13 (rl2 (f_Rec_ancestorOf_13 parents count p1) n_13) = some out := hf
      refine lv_iload hx hb dX4_ancestorOf_13 (lv_at hl 3 rfl) ?_
      refine lv_iload_n hx hb dX4_ancestorOf_15 rfl (lv_at hl 1 rfl) ?_
      refine lv_icmp_ge (tgt := 40) hx hb dX4_ancestorOf_16 (by decide) (fun c_16 => ?_) (fun c_16 => ?_)
      · have hf := ite_t c_16 hf
        refine lv_iload hx hb dX4_ancestorOf_40 (lv_at hl 2 rfl) ?_
        have e_out := Option.some.inj hf
        subst e_out
        exact hret _ _ dX4_ancestorOf_42
      · have hf := ite_f c_16 hf
        refine lv_iload hx hb dX4_ancestorOf_19 (lv_at hl 2 rfl) ?_
        refine lv_bipush (v := (-9)) hx hb dX4_ancestorOf_21 (by decide) ?_
        refine lv_icmp_eq (tgt := 40) hx hb dX4_ancestorOf_23 (by decide) (fun c_23 => ?_) (fun c_23 => ?_)
        · have hf := ite_t c_23 hf
          refine lv_iload hx hb dX4_ancestorOf_40 (lv_at hl 2 rfl) ?_
          have e_out := Option.some.inj hf
          subst e_out
          exact hret _ _ dX4_ancestorOf_42
        · have hf := ite_f c_23 hf
          refine lv_aload_n hx hb dX4_ancestorOf_26 rfl (lv_at hl 0 rfl) ?_
          refine lv_iload hx hb dX4_ancestorOf_27 (lv_at hl 2 rfl) ?_
          obtain ⟨o_29, h_29, hf⟩ := cal_e hf
          refine pcV (n := 1) [.int x4_13] [] [0, 1, 2, 3, 4, 5] 0 3 hcf (c_X4_parentOf l D cC cI cJ cZ cO t t_codes t_houses t_keys t_parents t_wrongBits codes houses keys parents wrongBits count x4_13 o_29 h_29) gX4_ancestorOf_X4_parentOf rfl (by decide +kernel) ⟨rfl, rfl⟩ ⟨Nat.le_of_ble_eq_true rfl, Nat.le_of_ble_eq_true rfl⟩ ⟨Nat.le_of_ble_eq_true rfl, Nat.le_of_ble_eq_true rfl⟩ hK hP rfl rfl rfl rfl rfl hl.1 rfl (Nat.le_of_ble_eq_true rfl) dX4_ancestorOf_29 ?_
          refine lv_istore (lv' := [(4, .int o_29), (0, .ref t), (3, .int (imin p1 40)), (5, .int x5_13)]) hx hb dX4_ancestorOf_32 hl (by decide) rfl (fun ls hl => ?_)
          refine lv_iinc (v := x5_13 + 1) (lv' := [(5, .int (x5_13 + 1)), (4, .int o_29), (0, .ref t), (3, .int (imin p1 40))]) hx hb dX4_ancestorOf_34 hl (k := 3) rfl rfl (by decide) rfl (fun ls hl => ?_)
          refine lv_goto (tgt := 13) hx hb dX4_ancestorOf_37 (by decide) ?_
          exact ih_13 o_29 (x5_13 + 1) ls hf (lv_sub hl [2, 3, 1, 0] rfl)
  exact J13 FUEL p0 0 ls hf (lv_sub hl [3, 2, 1, 0] rfl)
def rm_X4_generationOf : Room := { frames := 2, cells := 0, slots := 0, locals := 42 }
set_option maxHeartbeats 4000000 in
set_option maxRecDepth 100000 in
theorem c_X4_generationOf (l : Launch) (D : va_G) (cC cI cJ cZ cO : ClassId) (t : Nat) (t_codes : Nat) (t_houses : Nat) (t_keys : Nat) (t_parents : Nat) (t_wrongBits : Nat) (codes : Nat → Int32) (houses : Nat → Int32) (keys : Nat → Int32) (parents : Nat → Int32) (wrongBits : Nat → Int32) (count : Int32) (p0 : Int32) (out : Int32)
    (hf : f_Rec_generationOf parents count p0 = some out) : PCon l yX4_generationOf wsX4_generationOf rm_X4_generationOf D (tyA cC cI cJ cZ cO) [.ref t, .int p0] [(t, .inr (3, [.ref t_codes, .ref t_houses, .ref t_keys, .ref t_parents, .ref t_wrongBits, .int count])), (t_codes, .inl (cI, 40, .inl codes)), (t_houses, .inl (cI, 40, .inl houses)), (t_keys, .inl (cI, 40, .inl keys)), (t_parents, .inl (cI, 40, .inl parents)), (t_wrongBits, .inl (cI, 40, .inl wrongBits))] (.int out) := by
  refine pc_I (own := RX4) (cc := cX4_generationOf) (maxL := 5) (by decide) rfl rfl (Nat.le_of_ble_eq_true rfl) ?_
  intro p e s m args below meth c ls Q hx hb hts hown hcf hP hK hl hret
  have hl : lv_has ls 5 [(0, .ref t), (1, .int p0)] := hl
  refine lv_iconst (v := 0) hx hb dX4_generationOf_0 (by decide) ?_
  refine lv_istore_n (lv' := [(2, .int 0), (0, .ref t), (1, .int p0)]) hx hb dX4_generationOf_1 rfl hl (by decide) rfl (fun ls hl => ?_)
  refine lv_aload_n hx hb dX4_generationOf_2 rfl (lv_at hl 1 rfl) ?_
  refine lv_iload_n hx hb dX4_generationOf_3 rfl (lv_at hl 2 rfl) ?_
  obtain ⟨o_4, h_4, hf⟩ := cal_e hf
  refine pcV (n := 1) [.int p0] [] [0, 1, 2, 3, 4, 5] 0 3 hcf (c_X4_parentOf l D cC cI cJ cZ cO t t_codes t_houses t_keys t_parents t_wrongBits codes houses keys parents wrongBits count p0 o_4 h_4) gX4_generationOf_X4_parentOf rfl (by decide +kernel) ⟨rfl, rfl⟩ ⟨Nat.le_of_ble_eq_true rfl, Nat.le_of_ble_eq_true rfl⟩ ⟨Nat.le_of_ble_eq_true rfl, Nat.le_of_ble_eq_true rfl⟩ hK hP rfl rfl rfl rfl rfl hl.1 rfl (Nat.le_of_ble_eq_true rfl) dX4_generationOf_4 ?_
  refine lv_istore_n (lv' := [(3, .int o_4), (2, .int 0), (0, .ref t), (1, .int p0)]) hx hb dX4_generationOf_7 rfl hl (by decide) rfl (fun ls hl => ?_)
  refine lv_iconst (v := 0) hx hb dX4_generationOf_8 (by decide) ?_
  refine lv_istore (lv' := [(4, .int 0), (3, .int o_4), (2, .int 0), (0, .ref t), (1, .int p0)]) hx hb dX4_generationOf_9 hl (by decide) rfl (fun ls hl => ?_)
  have J11 : ∀ (n_11 : Nat) (x2_11 : Int32) (x3_11 : Int32) (x4_11 : Int32) (ls : Array Slot), rl3 (f_Rec_generationOf_11 parents count) n_11 x2_11 x3_11 x4_11 = some out → lv_has ls 5 [(0, .ref t), (2, .int x2_11), (3, .int x3_11), (4, .int x4_11)] → W p l e rm_X4_generationOf s m args below meth c s.heap [] 0 0 Q (F0 m 11 ls []) := by
    intro n_11
    induction n_11 with
    | zero =>
      intro x2_11 x3_11 x4_11 ls hf
      cases hf
    | succ n_11 ih_11 =>
      intro x2_11 x3_11 x4_11 ls hf hl
      have hf : f_Rec_generationOf_11 parents count x2_11 x3_11 x4_11 (rl3 (f_Rec_generationOf_11 parents count) n_11) = some out := hf
      refine lv_iload hx hb dX4_generationOf_11 (lv_at hl 3 rfl) ?_
      refine lv_bipush (v := 40) hx hb dX4_generationOf_13 (by decide) ?_
      refine lv_icmp_ge (tgt := 39) hx hb dX4_generationOf_15 (by decide) (fun c_15 => ?_) (fun c_15 => ?_)
      · have hf := ite_t c_15 hf
        refine lv_iload_n hx hb dX4_generationOf_39 rfl (lv_at hl 1 rfl) ?_
        have e_out := Option.some.inj hf
        subst e_out
        exact hret _ _ dX4_generationOf_40
      · have hf := ite_f c_15 hf
        refine lv_iload_n hx hb dX4_generationOf_18 rfl (lv_at hl 2 rfl) ?_
        refine lv_bipush (v := (-9)) hx hb dX4_generationOf_19 (by decide) ?_
        refine lv_icmp_eq (tgt := 39) hx hb dX4_generationOf_21 (by decide) (fun c_21 => ?_) (fun c_21 => ?_)
        · have hf := ite_t c_21 hf
          refine lv_iload_n hx hb dX4_generationOf_39 rfl (lv_at hl 1 rfl) ?_
          have e_out := Option.some.inj hf
          subst e_out
          exact hret _ _ dX4_generationOf_40
        · have hf := ite_f c_21 hf
          refine lv_iinc (v := x2_11 + 1) (lv' := [(2, .int (x2_11 + 1)), (0, .ref t), (3, .int x3_11), (4, .int x4_11)]) hx hb dX4_generationOf_24 hl (k := 1) rfl rfl (by decide) rfl (fun ls hl => ?_)
          refine lv_aload_n hx hb dX4_generationOf_27 rfl (lv_at hl 1 rfl) ?_
          refine lv_iload_n hx hb dX4_generationOf_28 rfl (lv_at hl 2 rfl) ?_
          obtain ⟨o_29, h_29, hf⟩ := cal_e hf
          refine pcV (n := 1) [.int x3_11] [] [0, 1, 2, 3, 4, 5] 0 3 hcf (c_X4_parentOf l D cC cI cJ cZ cO t t_codes t_houses t_keys t_parents t_wrongBits codes houses keys parents wrongBits count x3_11 o_29 h_29) gX4_generationOf_X4_parentOf rfl (by decide +kernel) ⟨rfl, rfl⟩ ⟨Nat.le_of_ble_eq_true rfl, Nat.le_of_ble_eq_true rfl⟩ ⟨Nat.le_of_ble_eq_true rfl, Nat.le_of_ble_eq_true rfl⟩ hK hP rfl rfl rfl rfl rfl hl.1 rfl (Nat.le_of_ble_eq_true rfl) dX4_generationOf_29 ?_
          refine lv_istore_n (lv' := [(3, .int o_29), (2, .int (x2_11 + 1)), (0, .ref t), (4, .int x4_11)]) hx hb dX4_generationOf_32 rfl hl (by decide) rfl (fun ls hl => ?_)
          refine lv_iinc (v := x4_11 + 1) (lv' := [(4, .int (x4_11 + 1)), (3, .int o_29), (2, .int (x2_11 + 1)), (0, .ref t)]) hx hb dX4_generationOf_33 hl (k := 3) rfl rfl (by decide) rfl (fun ls hl => ?_)
          refine lv_goto (tgt := 11) hx hb dX4_generationOf_36 (by decide) ?_
          exact ih_11 (x2_11 + 1) o_29 (x4_11 + 1) ls hf (lv_sub hl [3, 2, 1, 0] rfl)
  exact J11 FUEL 0 o_4 0 ls hf (lv_sub hl [3, 2, 1, 0] rfl)
def rm_X4_rootOf : Room := { frames := 3, cells := 0, slots := 0, locals := 67 }
set_option maxHeartbeats 4000000 in
set_option maxRecDepth 100000 in
theorem c_X4_rootOf (l : Launch) (D : va_G) (cC cI cJ cZ cO : ClassId) (t : Nat) (t_codes : Nat) (t_houses : Nat) (t_keys : Nat) (t_parents : Nat) (t_wrongBits : Nat) (codes : Nat → Int32) (houses : Nat → Int32) (keys : Nat → Int32) (parents : Nat → Int32) (wrongBits : Nat → Int32) (count : Int32) (p0 : Int32) (out : Int32)
    (hf : f_Rec_rootOf parents count p0 = some out) : PCon l yX4_rootOf wsX4_rootOf rm_X4_rootOf D (tyA cC cI cJ cZ cO) [.ref t, .int p0] [(t, .inr (3, [.ref t_codes, .ref t_houses, .ref t_keys, .ref t_parents, .ref t_wrongBits, .int count])), (t_codes, .inl (cI, 40, .inl codes)), (t_houses, .inl (cI, 40, .inl houses)), (t_keys, .inl (cI, 40, .inl keys)), (t_parents, .inl (cI, 40, .inl parents)), (t_wrongBits, .inl (cI, 40, .inl wrongBits))] (.int out) := by
  refine pc_I (own := RX4) (cc := cX4_rootOf) (maxL := 2) (by decide) rfl rfl (Nat.le_of_ble_eq_true rfl) ?_
  intro p e s m args below meth c ls Q hx hb hts hown hcf hP hK hl hret
  have hl : lv_has ls 2 [(0, .ref t), (1, .int p0)] := hl
  refine lv_aload_n hx hb dX4_rootOf_0 rfl (lv_at hl 0 rfl) ?_
  refine lv_iload_n hx hb dX4_rootOf_1 rfl (lv_at hl 1 rfl) ?_
  refine lv_aload_n hx hb dX4_rootOf_2 rfl (lv_at hl 0 rfl) ?_
  refine lv_iload_n hx hb dX4_rootOf_3 rfl (lv_at hl 1 rfl) ?_
  obtain ⟨o_4, h_4, hf⟩ := cal_e hf
  refine pcV (n := 1) [.int p0] [.int p0, .ref t] [0, 1, 2, 3, 4, 5] 0 3 hcf (c_X4_generationOf l D cC cI cJ cZ cO t t_codes t_houses t_keys t_parents t_wrongBits codes houses keys parents wrongBits count p0 o_4 h_4) gX4_rootOf_X4_generationOf rfl (by decide +kernel) ⟨rfl, rfl⟩ ⟨Nat.le_of_ble_eq_true rfl, Nat.le_of_ble_eq_true rfl⟩ ⟨Nat.le_of_ble_eq_true rfl, Nat.le_of_ble_eq_true rfl⟩ hK hP rfl rfl rfl rfl rfl hl.1 rfl (Nat.le_of_ble_eq_true rfl) dX4_rootOf_4 ?_
  obtain ⟨o_7, h_7, hf⟩ := cal_e hf
  refine pcV (n := 2) [.int p0, .int o_4] [] [0, 1, 2, 3, 4, 5] 0 3 hcf (c_X4_ancestorOf l D cC cI cJ cZ cO t t_codes t_houses t_keys t_parents t_wrongBits codes houses keys parents wrongBits count p0 o_4 o_7 h_7) gX4_rootOf_X4_ancestorOf rfl (by decide +kernel) ⟨rfl, rfl⟩ ⟨Nat.le_of_ble_eq_true rfl, Nat.le_of_ble_eq_true rfl⟩ ⟨Nat.le_of_ble_eq_true rfl, Nat.le_of_ble_eq_true rfl⟩ hK hP rfl rfl rfl rfl rfl hl.1 rfl (Nat.le_of_ble_eq_true rfl) dX4_rootOf_7 ?_
  have e_out := Option.some.inj hf
  subst e_out
  exact hret _ _ dX4_rootOf_10
def rm_X4_wrongBitsInChain : Room := { frames := 2, cells := 0, slots := 0, locals := 42 }
set_option maxHeartbeats 4000000 in
set_option maxRecDepth 100000 in
theorem c_X4_wrongBitsInChain (l : Launch) (D : va_G) (cC cI cJ cZ cO : ClassId) (t : Nat) (t_codes : Nat) (t_houses : Nat) (t_keys : Nat) (t_parents : Nat) (t_wrongBits : Nat) (codes : Nat → Int32) (houses : Nat → Int32) (keys : Nat → Int32) (parents : Nat → Int32) (wrongBits : Nat → Int32) (count : Int32) (p0 : Int32) (out : Int32)
    (hf : f_Rec_wrongBitsInChain parents wrongBits count p0 = some out) : PCon l yX4_wrongBitsInChain wsX4_wrongBitsInChain rm_X4_wrongBitsInChain D (tyA cC cI cJ cZ cO) [.ref t, .int p0] [(t, .inr (3, [.ref t_codes, .ref t_houses, .ref t_keys, .ref t_parents, .ref t_wrongBits, .int count])), (t_codes, .inl (cI, 40, .inl codes)), (t_houses, .inl (cI, 40, .inl houses)), (t_keys, .inl (cI, 40, .inl keys)), (t_parents, .inl (cI, 40, .inl parents)), (t_wrongBits, .inl (cI, 40, .inl wrongBits))] (.int out) := by
  refine pc_I (own := RX4) (cc := cX4_wrongBitsInChain) (maxL := 5) (by decide) rfl rfl (Nat.le_of_ble_eq_true rfl) ?_
  intro p e s m args below meth c ls Q hx hb hts hown hcf hP hK hl hret
  have hl : lv_has ls 5 [(0, .ref t), (1, .int p0)] := hl
  refine lv_iconst (v := 0) hx hb dX4_wrongBitsInChain_0 (by decide) ?_
  refine lv_istore_n (lv' := [(2, .int 0), (0, .ref t), (1, .int p0)]) hx hb dX4_wrongBitsInChain_1 rfl hl (by decide) rfl (fun ls hl => ?_)
  refine lv_iload_n hx hb dX4_wrongBitsInChain_2 rfl (lv_at hl 2 rfl) ?_
  refine lv_istore_n (lv' := [(3, .int p0), (2, .int 0), (0, .ref t), (1, .int p0)]) hx hb dX4_wrongBitsInChain_3 rfl hl (by decide) rfl (fun ls hl => ?_)
  refine lv_iconst (v := 0) hx hb dX4_wrongBitsInChain_4 (by decide) ?_
  refine lv_istore (lv' := [(4, .int 0), (3, .int p0), (2, .int 0), (0, .ref t), (1, .int p0)]) hx hb dX4_wrongBitsInChain_5 hl (by decide) rfl (fun ls hl => ?_)
  have J7 : ∀ (n_7 : Nat) (x2_7 : Int32) (x3_7 : Int32) (x4_7 : Int32) (ls : Array Slot), rl3 (f_Rec_wrongBitsInChain_7 parents wrongBits count) n_7 x2_7 x3_7 x4_7 = some out → lv_has ls 5 [(0, .ref t), (2, .int x2_7), (3, .int x3_7), (4, .int x4_7)] → W p l e rm_X4_wrongBitsInChain s m args below meth c s.heap [] 0 0 Q (F0 m 7 ls []) := by
    intro n_7
    induction n_7 with
    | zero =>
      intro x2_7 x3_7 x4_7 ls hf
      cases hf
    | succ n_7 ih_7 =>
      intro x2_7 x3_7 x4_7 ls hf hl
      have hf : f_Rec_wrongBitsInChain_7 parents wrongBits count x2_7 x3_7 x4_7 (rl3 (f_Rec_wrongBitsInChain_7 parents wrongBits count) n_7) = some out := hf
      refine lv_iload hx hb dX4_wrongBitsInChain_7 (lv_at hl 3 rfl) ?_
      refine lv_bipush (v := 40) hx hb dX4_wrongBitsInChain_9 (by decide) ?_
      refine lv_icmp_ge (tgt := 45) hx hb dX4_wrongBitsInChain_11 (by decide) (fun c_11 => ?_) (fun c_11 => ?_)
      · have hf := ite_t c_11 hf
        refine lv_iload_n hx hb dX4_wrongBitsInChain_45 rfl (lv_at hl 1 rfl) ?_
        have e_out := Option.some.inj hf
        subst e_out
        exact hret _ _ dX4_wrongBitsInChain_46
      · have hf := ite_f c_11 hf
        refine lv_iload_n hx hb dX4_wrongBitsInChain_14 rfl (lv_at hl 2 rfl) ?_
        refine lv_bipush (v := (-9)) hx hb dX4_wrongBitsInChain_15 (by decide) ?_
        refine lv_icmp_eq (tgt := 45) hx hb dX4_wrongBitsInChain_17 (by decide) (fun c_17 => ?_) (fun c_17 => ?_)
        · have hf := ite_t c_17 hf
          refine lv_iload_n hx hb dX4_wrongBitsInChain_45 rfl (lv_at hl 1 rfl) ?_
          have e_out := Option.some.inj hf
          subst e_out
          exact hret _ _ dX4_wrongBitsInChain_46
        · have hf := ite_f c_17 hf
          refine lv_aload_n hx hb dX4_wrongBitsInChain_20 rfl (lv_at hl 0 rfl) ?_
          refine lv_iload_n hx hb dX4_wrongBitsInChain_21 rfl (lv_at hl 2 rfl) ?_
          obtain ⟨o_22, h_22, hf⟩ := cal_e hf
          refine pcV (n := 1) [.int x3_7] [] [0, 1, 2, 3, 4, 5] 0 3 hcf (c_X4_wrongBitOf l D cC cI cJ cZ cO t t_codes t_houses t_keys t_parents t_wrongBits codes houses keys parents wrongBits count x3_7 o_22 h_22) gX4_wrongBitsInChain_X4_wrongBitOf rfl (by decide +kernel) ⟨rfl, rfl⟩ ⟨Nat.le_of_ble_eq_true rfl, Nat.le_of_ble_eq_true rfl⟩ ⟨Nat.le_of_ble_eq_true rfl, Nat.le_of_ble_eq_true rfl⟩ hK hP rfl rfl rfl rfl rfl hl.1 rfl (Nat.le_of_ble_eq_true rfl) dX4_wrongBitsInChain_22 ?_
          refine lv_bipush (v := (-9)) hx hb dX4_wrongBitsInChain_25 (by decide) ?_
          have J33 : ∀ (x2_33 : Int32) (x3_33 : Int32) (x4_33 : Int32) (ls : Array Slot), f_Rec_wrongBitsInChain_33 parents count (rl3 (f_Rec_wrongBitsInChain_7 parents wrongBits count) n_7) x2_33 x3_33 x4_33 = some out → lv_has ls 5 [(0, .ref t), (2, .int x2_33), (3, .int x3_33), (4, .int x4_33)] → W p l e rm_X4_wrongBitsInChain s m args below meth c s.heap [] 0 0 Q (F0 m 33 ls []) := by
            intro x2_33 x3_33 x4_33 ls hf hl
            refine lv_aload_n hx hb dX4_wrongBitsInChain_33 rfl (lv_at hl 0 rfl) ?_
            refine lv_iload_n hx hb dX4_wrongBitsInChain_34 rfl (lv_at hl 2 rfl) ?_
            obtain ⟨o_35, h_35, hf⟩ := cal_e hf
            refine pcV (n := 1) [.int x3_33] [] [0, 1, 2, 3, 4, 5] 0 3 hcf (c_X4_parentOf l D cC cI cJ cZ cO t t_codes t_houses t_keys t_parents t_wrongBits codes houses keys parents wrongBits count x3_33 o_35 h_35) gX4_wrongBitsInChain_X4_parentOf rfl (by decide +kernel) ⟨rfl, rfl⟩ ⟨Nat.le_of_ble_eq_true rfl, Nat.le_of_ble_eq_true rfl⟩ ⟨Nat.le_of_ble_eq_true rfl, Nat.le_of_ble_eq_true rfl⟩ hK hP rfl rfl rfl rfl rfl hl.1 rfl (Nat.le_of_ble_eq_true rfl) dX4_wrongBitsInChain_35 ?_
            refine lv_istore_n (lv' := [(3, .int o_35), (0, .ref t), (2, .int x2_33), (4, .int x4_33)]) hx hb dX4_wrongBitsInChain_38 rfl hl (by decide) rfl (fun ls hl => ?_)
            refine lv_iinc (v := x4_33 + 1) (lv' := [(4, .int (x4_33 + 1)), (3, .int o_35), (0, .ref t), (2, .int x2_33)]) hx hb dX4_wrongBitsInChain_39 hl (k := 3) rfl rfl (by decide) rfl (fun ls hl => ?_)
            refine lv_goto (tgt := 7) hx hb dX4_wrongBitsInChain_42 (by decide) ?_
            exact ih_7 x2_33 o_35 (x4_33 + 1) ls hf (lv_sub hl [2, 3, 1, 0] rfl)
          refine lv_icmp_eq (tgt := 33) hx hb dX4_wrongBitsInChain_27 (by decide) (fun c_27 => ?_) (fun c_27 => ?_)
          · have hf := ite_t c_27 hf
            exact J33 x2_7 x3_7 x4_7 ls hf (lv_sub hl [0, 1, 2, 3] rfl)
          · have hf := ite_f c_27 hf
            refine lv_iinc (v := x2_7 + 1) (lv' := [(2, .int (x2_7 + 1)), (0, .ref t), (3, .int x3_7), (4, .int x4_7)]) hx hb dX4_wrongBitsInChain_30 hl (k := 1) rfl rfl (by decide) rfl (fun ls hl => ?_)
            exact J33 (x2_7 + 1) x3_7 x4_7 ls hf (lv_sub hl [1, 0, 2, 3] rfl)
  exact J7 FUEL 0 p0 0 ls hf (lv_sub hl [3, 2, 1, 0] rfl)
def rm_X4_firstWrongInChain : Room := { frames := 2, cells := 0, slots := 0, locals := 42 }
set_option maxHeartbeats 4000000 in
set_option maxRecDepth 100000 in
theorem c_X4_firstWrongInChain (l : Launch) (D : va_G) (cC cI cJ cZ cO : ClassId) (t : Nat) (t_codes : Nat) (t_houses : Nat) (t_keys : Nat) (t_parents : Nat) (t_wrongBits : Nat) (codes : Nat → Int32) (houses : Nat → Int32) (keys : Nat → Int32) (parents : Nat → Int32) (wrongBits : Nat → Int32) (count : Int32) (p0 : Int32) (out : Int32)
    (hf : f_Rec_firstWrongInChain parents wrongBits count p0 = some out) : PCon l yX4_firstWrongInChain wsX4_firstWrongInChain rm_X4_firstWrongInChain D (tyA cC cI cJ cZ cO) [.ref t, .int p0] [(t, .inr (3, [.ref t_codes, .ref t_houses, .ref t_keys, .ref t_parents, .ref t_wrongBits, .int count])), (t_codes, .inl (cI, 40, .inl codes)), (t_houses, .inl (cI, 40, .inl houses)), (t_keys, .inl (cI, 40, .inl keys)), (t_parents, .inl (cI, 40, .inl parents)), (t_wrongBits, .inl (cI, 40, .inl wrongBits))] (.int out) := by
  refine pc_I (own := RX4) (cc := cX4_firstWrongInChain) (maxL := 5) (by decide) rfl rfl (Nat.le_of_ble_eq_true rfl) ?_
  intro p e s m args below meth c ls Q hx hb hts hown hcf hP hK hl hret
  have hl : lv_has ls 5 [(0, .ref t), (1, .int p0)] := hl
  refine lv_bipush (v := (-9)) hx hb dX4_firstWrongInChain_0 (by decide) ?_
  refine lv_topi (fun x2_v2 e_x2_v2 => ?_)
  have hf := bnd_x e_x2_v2 hf
  refine lv_istore_n (lv' := [(2, .int x2_v2), (0, .ref t), (1, .int p0)]) hx hb dX4_firstWrongInChain_2 rfl hl (by decide) rfl (fun ls hl => ?_)
  refine lv_iload_n hx hb dX4_firstWrongInChain_3 rfl (lv_at hl 2 rfl) ?_
  refine lv_istore_n (lv' := [(3, .int p0), (2, .int x2_v2), (0, .ref t), (1, .int p0)]) hx hb dX4_firstWrongInChain_4 rfl hl (by decide) rfl (fun ls hl => ?_)
  refine lv_iconst (v := 0) hx hb dX4_firstWrongInChain_5 (by decide) ?_
  refine lv_istore (lv' := [(4, .int 0), (3, .int p0), (2, .int x2_v2), (0, .ref t), (1, .int p0)]) hx hb dX4_firstWrongInChain_6 hl (by decide) rfl (fun ls hl => ?_)
  have J8 : ∀ (n_8 : Nat) (x2_8 : Int32) (x3_8 : Int32) (x4_8 : Int32) (ls : Array Slot), rl3 (f_Rec_firstWrongInChain_8 parents wrongBits count) n_8 x2_8 x3_8 x4_8 = some out → lv_has ls 5 [(0, .ref t), (2, .int x2_8), (3, .int x3_8), (4, .int x4_8)] → W p l e rm_X4_firstWrongInChain s m args below meth c s.heap [] 0 0 Q (F0 m 8 ls []) := by
    intro n_8
    induction n_8 with
    | zero =>
      intro x2_8 x3_8 x4_8 ls hf
      cases hf
    | succ n_8 ih_8 =>
      intro x2_8 x3_8 x4_8 ls hf hl
      have hf : f_Rec_firstWrongInChain_8 parents wrongBits count x2_8 x3_8 x4_8 (rl3 (f_Rec_firstWrongInChain_8 parents wrongBits count) n_8) = some out := hf
      refine lv_iload hx hb dX4_firstWrongInChain_8 (lv_at hl 3 rfl) ?_
      refine lv_bipush (v := 40) hx hb dX4_firstWrongInChain_10 (by decide) ?_
      refine lv_icmp_ge (tgt := 45) hx hb dX4_firstWrongInChain_12 (by decide) (fun c_12 => ?_) (fun c_12 => ?_)
      · have hf := ite_t c_12 hf
        refine lv_iload_n hx hb dX4_firstWrongInChain_45 rfl (lv_at hl 1 rfl) ?_
        have e_out := Option.some.inj hf
        subst e_out
        exact hret _ _ dX4_firstWrongInChain_46
      · have hf := ite_f c_12 hf
        refine lv_iload_n hx hb dX4_firstWrongInChain_15 rfl (lv_at hl 2 rfl) ?_
        refine lv_bipush (v := (-9)) hx hb dX4_firstWrongInChain_16 (by decide) ?_
        refine lv_icmp_eq (tgt := 45) hx hb dX4_firstWrongInChain_18 (by decide) (fun c_18 => ?_) (fun c_18 => ?_)
        · have hf := ite_t c_18 hf
          refine lv_iload_n hx hb dX4_firstWrongInChain_45 rfl (lv_at hl 1 rfl) ?_
          have e_out := Option.some.inj hf
          subst e_out
          exact hret _ _ dX4_firstWrongInChain_46
        · have hf := ite_f c_18 hf
          refine lv_aload_n hx hb dX4_firstWrongInChain_21 rfl (lv_at hl 0 rfl) ?_
          refine lv_iload_n hx hb dX4_firstWrongInChain_22 rfl (lv_at hl 2 rfl) ?_
          obtain ⟨o_23, h_23, hf⟩ := cal_e hf
          refine pcV (n := 1) [.int x3_8] [] [0, 1, 2, 3, 4, 5] 0 3 hcf (c_X4_wrongBitOf l D cC cI cJ cZ cO t t_codes t_houses t_keys t_parents t_wrongBits codes houses keys parents wrongBits count x3_8 o_23 h_23) gX4_firstWrongInChain_X4_wrongBitOf rfl (by decide +kernel) ⟨rfl, rfl⟩ ⟨Nat.le_of_ble_eq_true rfl, Nat.le_of_ble_eq_true rfl⟩ ⟨Nat.le_of_ble_eq_true rfl, Nat.le_of_ble_eq_true rfl⟩ hK hP rfl rfl rfl rfl rfl hl.1 rfl (Nat.le_of_ble_eq_true rfl) dX4_firstWrongInChain_23 ?_
          refine lv_bipush (v := (-9)) hx hb dX4_firstWrongInChain_26 (by decide) ?_
          have J33 : ∀ (x2_33 : Int32) (x3_33 : Int32) (x4_33 : Int32) (ls : Array Slot), f_Rec_firstWrongInChain_33 parents count (rl3 (f_Rec_firstWrongInChain_8 parents wrongBits count) n_8) x2_33 x3_33 x4_33 = some out → lv_has ls 5 [(0, .ref t), (2, .int x2_33), (3, .int x3_33), (4, .int x4_33)] → W p l e rm_X4_firstWrongInChain s m args below meth c s.heap [] 0 0 Q (F0 m 33 ls []) := by
            intro x2_33 x3_33 x4_33 ls hf hl
            refine lv_aload_n hx hb dX4_firstWrongInChain_33 rfl (lv_at hl 0 rfl) ?_
            refine lv_iload_n hx hb dX4_firstWrongInChain_34 rfl (lv_at hl 2 rfl) ?_
            obtain ⟨o_35, h_35, hf⟩ := cal_e hf
            refine pcV (n := 1) [.int x3_33] [] [0, 1, 2, 3, 4, 5] 0 3 hcf (c_X4_parentOf l D cC cI cJ cZ cO t t_codes t_houses t_keys t_parents t_wrongBits codes houses keys parents wrongBits count x3_33 o_35 h_35) gX4_firstWrongInChain_X4_parentOf rfl (by decide +kernel) ⟨rfl, rfl⟩ ⟨Nat.le_of_ble_eq_true rfl, Nat.le_of_ble_eq_true rfl⟩ ⟨Nat.le_of_ble_eq_true rfl, Nat.le_of_ble_eq_true rfl⟩ hK hP rfl rfl rfl rfl rfl hl.1 rfl (Nat.le_of_ble_eq_true rfl) dX4_firstWrongInChain_35 ?_
            refine lv_istore_n (lv' := [(3, .int o_35), (0, .ref t), (2, .int x2_33), (4, .int x4_33)]) hx hb dX4_firstWrongInChain_38 rfl hl (by decide) rfl (fun ls hl => ?_)
            refine lv_iinc (v := x4_33 + 1) (lv' := [(4, .int (x4_33 + 1)), (3, .int o_35), (0, .ref t), (2, .int x2_33)]) hx hb dX4_firstWrongInChain_39 hl (k := 3) rfl rfl (by decide) rfl (fun ls hl => ?_)
            refine lv_goto (tgt := 8) hx hb dX4_firstWrongInChain_42 (by decide) ?_
            exact ih_8 x2_33 o_35 (x4_33 + 1) ls hf (lv_sub hl [2, 3, 1, 0] rfl)
          refine lv_icmp_eq (tgt := 33) hx hb dX4_firstWrongInChain_28 (by decide) (fun c_28 => ?_) (fun c_28 => ?_)
          · have hf := ite_t c_28 hf
            exact J33 x2_8 x3_8 x4_8 ls hf (lv_sub hl [0, 1, 2, 3] rfl)
          · have hf := ite_f c_28 hf
            refine lv_iload_n hx hb dX4_firstWrongInChain_31 rfl (lv_at hl 2 rfl) ?_
            refine lv_istore_n (lv' := [(2, .int x3_8), (0, .ref t), (3, .int x3_8), (4, .int x4_8)]) hx hb dX4_firstWrongInChain_32 rfl hl (by decide) rfl (fun ls hl => ?_)
            exact J33 x3_8 x3_8 x4_8 ls hf (lv_sub hl [1, 0, 2, 3] rfl)
  exact J8 FUEL x2_v2 p0 0 ls hf (lv_sub hl [3, 2, 1, 0] rfl)
def rm_X4_isInChain : Room := { frames := 2, cells := 0, slots := 0, locals := 42 }
set_option maxHeartbeats 4000000 in
set_option maxRecDepth 100000 in
theorem c_X4_isInChain (l : Launch) (D : va_G) (cC cI cJ cZ cO : ClassId) (t : Nat) (t_codes : Nat) (t_houses : Nat) (t_keys : Nat) (t_parents : Nat) (t_wrongBits : Nat) (codes : Nat → Int32) (houses : Nat → Int32) (keys : Nat → Int32) (parents : Nat → Int32) (wrongBits : Nat → Int32) (count : Int32) (p0 : Int32) (p1 : Int32) (out : Int32)
    (hf : f_Rec_isInChain parents count p0 p1 = some out) : PCon l yX4_isInChain wsX4_isInChain rm_X4_isInChain D (tyA cC cI cJ cZ cO) [.ref t, .int p0, .int p1] [(t, .inr (3, [.ref t_codes, .ref t_houses, .ref t_keys, .ref t_parents, .ref t_wrongBits, .int count])), (t_codes, .inl (cI, 40, .inl codes)), (t_houses, .inl (cI, 40, .inl houses)), (t_keys, .inl (cI, 40, .inl keys)), (t_parents, .inl (cI, 40, .inl parents)), (t_wrongBits, .inl (cI, 40, .inl wrongBits))] (.int out) := by
  refine pc_Z (own := RX4) (cc := cX4_isInChain) (maxL := 5) (by decide) rfl rfl (Nat.le_of_ble_eq_true rfl) ?_
  intro p e s m args below meth c ls Q hx hb hts hown hcf hP hK hl hret
  have hl : lv_has ls 5 [(0, .ref t), (1, .int p0), (2, .int p1)] := hl
  refine lv_iload_n hx hb dX4_isInChain_0 rfl (lv_at hl 2 rfl) ?_
  refine lv_istore_n (lv' := [(3, .int p1), (0, .ref t), (1, .int p0), (2, .int p1)]) hx hb dX4_isInChain_1 rfl hl (by decide) rfl (fun ls hl => ?_)
  refine lv_iconst (v := 0) hx hb dX4_isInChain_2 (by decide) ?_
  refine lv_istore (lv' := [(4, .int 0), (3, .int p1), (0, .ref t), (1, .int p0), (2, .int p1)]) hx hb dX4_isInChain_3 hl (by decide) rfl (fun ls hl => ?_)
  have J5 : ∀ (n_5 : Nat) (x3_5 : Int32) (x4_5 : Int32) (ls : Array Slot), rl2 (f_Rec_isInChain_5 parents count p0) n_5 x3_5 x4_5 = some out → lv_has ls 5 [(0, .ref t), (1, .int p0), (3, .int x3_5), (4, .int x4_5)] → W p l e rm_X4_isInChain s m args below meth c s.heap [] 0 0 Q (F0 m 5 ls []) := by
    intro n_5
    induction n_5 with
    | zero =>
      intro x3_5 x4_5 ls hf
      cases hf
    | succ n_5 ih_5 =>
      intro x3_5 x4_5 ls hf hl
      have hf : f_Rec_isInChain_5 parents count p0 x3_5 x4_5 (rl2 (f_Rec_isInChain_5 parents count p0) n_5) = some out := hf
      refine lv_iload hx hb dX4_isInChain_5 (lv_at hl 3 rfl) ?_
      refine lv_bipush (v := 40) hx hb dX4_isInChain_7 (by decide) ?_
      refine lv_icmp_ge (tgt := 37) hx hb dX4_isInChain_9 (by decide) (fun c_9 => ?_) (fun c_9 => ?_)
      · have hf := ite_t c_9 hf
        refine lv_iconst (v := 0) hx hb dX4_isInChain_37 (by decide) ?_
        have e_out := Option.some.inj hf
        subst e_out
        exact hret _ _ dX4_isInChain_38 (nar01 (Or.inl rfl))
      · have hf := ite_f c_9 hf
        refine lv_iload_n hx hb dX4_isInChain_12 rfl (lv_at hl 2 rfl) ?_
        refine lv_bipush (v := (-9)) hx hb dX4_isInChain_13 (by decide) ?_
        refine lv_icmp_eq (tgt := 37) hx hb dX4_isInChain_15 (by decide) (fun c_15 => ?_) (fun c_15 => ?_)
        · have hf := ite_t c_15 hf
          refine lv_iconst (v := 0) hx hb dX4_isInChain_37 (by decide) ?_
          have e_out := Option.some.inj hf
          subst e_out
          exact hret _ _ dX4_isInChain_38 (nar01 (Or.inl rfl))
        · have hf := ite_f c_15 hf
          refine lv_iload_n hx hb dX4_isInChain_18 rfl (lv_at hl 2 rfl) ?_
          refine lv_iload_n hx hb dX4_isInChain_19 rfl (lv_at hl 1 rfl) ?_
          refine lv_icmp_ne (tgt := 25) hx hb dX4_isInChain_20 (by decide) (fun c_20 => ?_) (fun c_20 => ?_)
          · have hf := ite_t c_20 hf
            refine lv_aload_n hx hb dX4_isInChain_25 rfl (lv_at hl 0 rfl) ?_
            refine lv_iload_n hx hb dX4_isInChain_26 rfl (lv_at hl 2 rfl) ?_
            obtain ⟨o_27, h_27, hf⟩ := cal_e hf
            refine pcV (n := 1) [.int x3_5] [] [0, 1, 2, 3, 4, 5] 0 3 hcf (c_X4_parentOf l D cC cI cJ cZ cO t t_codes t_houses t_keys t_parents t_wrongBits codes houses keys parents wrongBits count x3_5 o_27 h_27) gX4_isInChain_X4_parentOf rfl (by decide +kernel) ⟨rfl, rfl⟩ ⟨Nat.le_of_ble_eq_true rfl, Nat.le_of_ble_eq_true rfl⟩ ⟨Nat.le_of_ble_eq_true rfl, Nat.le_of_ble_eq_true rfl⟩ hK hP rfl rfl rfl rfl rfl hl.1 rfl (Nat.le_of_ble_eq_true rfl) dX4_isInChain_27 ?_
            refine lv_istore_n (lv' := [(3, .int o_27), (0, .ref t), (1, .int p0), (4, .int x4_5)]) hx hb dX4_isInChain_30 rfl hl (by decide) rfl (fun ls hl => ?_)
            refine lv_iinc (v := x4_5 + 1) (lv' := [(4, .int (x4_5 + 1)), (3, .int o_27), (0, .ref t), (1, .int p0)]) hx hb dX4_isInChain_31 hl (k := 3) rfl rfl (by decide) rfl (fun ls hl => ?_)
            refine lv_goto (tgt := 5) hx hb dX4_isInChain_34 (by decide) ?_
            exact ih_5 o_27 (x4_5 + 1) ls hf (lv_sub hl [2, 3, 1, 0] rfl)
          · have hf := ite_f (not_not_intro c_20) hf
            refine lv_iconst (v := 1) hx hb dX4_isInChain_23 (by decide) ?_
            have e_out := Option.some.inj hf
            subst e_out
            exact hret _ _ dX4_isInChain_24 (nar01 (Or.inr rfl))
  exact J5 FUEL p1 0 ls hf (lv_sub hl [2, 3, 1, 0] rfl)
def rm_X4_meetingOf : Room := { frames := 3, cells := 0, slots := 0, locals := 66 }
set_option maxHeartbeats 4000000 in
set_option maxRecDepth 100000 in
theorem c_X4_meetingOf (l : Launch) (D : va_G) (cC cI cJ cZ cO : ClassId) (t : Nat) (t_codes : Nat) (t_houses : Nat) (t_keys : Nat) (t_parents : Nat) (t_wrongBits : Nat) (codes : Nat → Int32) (houses : Nat → Int32) (keys : Nat → Int32) (parents : Nat → Int32) (wrongBits : Nat → Int32) (count : Int32) (p0 : Int32) (p1 : Int32) (out : Int32)
    (hf : f_Rec_meetingOf parents count p0 p1 = some out) : PCon l yX4_meetingOf wsX4_meetingOf rm_X4_meetingOf D (tyA cC cI cJ cZ cO) [.ref t, .int p0, .int p1] [(t, .inr (3, [.ref t_codes, .ref t_houses, .ref t_keys, .ref t_parents, .ref t_wrongBits, .int count])), (t_codes, .inl (cI, 40, .inl codes)), (t_houses, .inl (cI, 40, .inl houses)), (t_keys, .inl (cI, 40, .inl keys)), (t_parents, .inl (cI, 40, .inl parents)), (t_wrongBits, .inl (cI, 40, .inl wrongBits))] (.int out) := by
  refine pc_I (own := RX4) (cc := cX4_meetingOf) (maxL := 5) (by decide) rfl rfl (Nat.le_of_ble_eq_true rfl) ?_
  intro p e s m args below meth c ls Q hx hb hts hown hcf hP hK hl hret
  have hl : lv_has ls 5 [(0, .ref t), (1, .int p0), (2, .int p1)] := hl
  refine lv_iload_n hx hb dX4_meetingOf_0 rfl (lv_at hl 1 rfl) ?_
  refine lv_istore_n (lv' := [(3, .int p0), (0, .ref t), (1, .int p0), (2, .int p1)]) hx hb dX4_meetingOf_1 rfl hl (by decide) rfl (fun ls hl => ?_)
  refine lv_iconst (v := 0) hx hb dX4_meetingOf_2 (by decide) ?_
  refine lv_istore (lv' := [(4, .int 0), (3, .int p0), (0, .ref t), (1, .int p0), (2, .int p1)]) hx hb dX4_meetingOf_3 hl (by decide) rfl (fun ls hl => ?_)
  have J5 : ∀ (n_5 : Nat) (x3_5 : Int32) (x4_5 : Int32) (ls : Array Slot), rl2 (f_Rec_meetingOf_5 parents count p1) n_5 x3_5 x4_5 = some out → lv_has ls 5 [(0, .ref t), (2, .int p1), (3, .int x3_5), (4, .int x4_5)] → W p l e rm_X4_meetingOf s m args below meth c s.heap [] 0 0 Q (F0 m 5 ls []) := by
    intro n_5
    induction n_5 with
    | zero =>
      intro x3_5 x4_5 ls hf
      cases hf
    | succ n_5 ih_5 =>
      intro x3_5 x4_5 ls hf hl
      have hf : f_Rec_meetingOf_5 parents count p1 x3_5 x4_5 (rl2 (f_Rec_meetingOf_5 parents count p1) n_5) = some out := hf
      refine lv_iload hx hb dX4_meetingOf_5 (lv_at hl 3 rfl) ?_
      refine lv_bipush (v := 40) hx hb dX4_meetingOf_7 (by decide) ?_
      refine lv_icmp_ge (tgt := 41) hx hb dX4_meetingOf_9 (by decide) (fun c_9 => ?_) (fun c_9 => ?_)
      · have hf := ite_t c_9 hf
        refine lv_bipush (v := (-9)) hx hb dX4_meetingOf_41 (by decide) ?_
        have e_out := Option.some.inj hf
        subst e_out
        exact hret _ _ dX4_meetingOf_43
      · have hf := ite_f c_9 hf
        refine lv_iload_n hx hb dX4_meetingOf_12 rfl (lv_at hl 2 rfl) ?_
        refine lv_bipush (v := (-9)) hx hb dX4_meetingOf_13 (by decide) ?_
        refine lv_icmp_eq (tgt := 41) hx hb dX4_meetingOf_15 (by decide) (fun c_15 => ?_) (fun c_15 => ?_)
        · have hf := ite_t c_15 hf
          refine lv_bipush (v := (-9)) hx hb dX4_meetingOf_41 (by decide) ?_
          have e_out := Option.some.inj hf
          subst e_out
          exact hret _ _ dX4_meetingOf_43
        · have hf := ite_f c_15 hf
          refine lv_aload_n hx hb dX4_meetingOf_18 rfl (lv_at hl 0 rfl) ?_
          refine lv_iload_n hx hb dX4_meetingOf_19 rfl (lv_at hl 2 rfl) ?_
          refine lv_iload_n hx hb dX4_meetingOf_20 rfl (lv_at hl 1 rfl) ?_
          obtain ⟨o_21, h_21, hf⟩ := cal_e hf
          refine pcV (n := 2) [.int x3_5, .int p1] [] [0, 1, 2, 3, 4, 5] 0 3 hcf (c_X4_isInChain l D cC cI cJ cZ cO t t_codes t_houses t_keys t_parents t_wrongBits codes houses keys parents wrongBits count x3_5 p1 o_21 h_21) gX4_meetingOf_X4_isInChain rfl (by decide +kernel) ⟨rfl, rfl⟩ ⟨Nat.le_of_ble_eq_true rfl, Nat.le_of_ble_eq_true rfl⟩ ⟨Nat.le_of_ble_eq_true rfl, Nat.le_of_ble_eq_true rfl⟩ hK hP rfl rfl rfl rfl rfl hl.1 rfl (Nat.le_of_ble_eq_true rfl) dX4_meetingOf_21 ?_
          refine lv_if_eq (tgt := 29) hx hb dX4_meetingOf_24 (by decide) (fun c_24 => ?_) (fun c_24 => ?_)
          · have hf := ite_t c_24 hf
            refine lv_aload_n hx hb dX4_meetingOf_29 rfl (lv_at hl 0 rfl) ?_
            refine lv_iload_n hx hb dX4_meetingOf_30 rfl (lv_at hl 2 rfl) ?_
            obtain ⟨o_31, h_31, hf⟩ := cal_e hf
            refine pcV (n := 1) [.int x3_5] [] [0, 1, 2, 3, 4, 5] 0 3 hcf (c_X4_parentOf l D cC cI cJ cZ cO t t_codes t_houses t_keys t_parents t_wrongBits codes houses keys parents wrongBits count x3_5 o_31 h_31) gX4_meetingOf_X4_parentOf rfl (by decide +kernel) ⟨rfl, rfl⟩ ⟨Nat.le_of_ble_eq_true rfl, Nat.le_of_ble_eq_true rfl⟩ ⟨Nat.le_of_ble_eq_true rfl, Nat.le_of_ble_eq_true rfl⟩ hK hP rfl rfl rfl rfl rfl hl.1 rfl (Nat.le_of_ble_eq_true rfl) dX4_meetingOf_31 ?_
            refine lv_istore_n (lv' := [(3, .int o_31), (0, .ref t), (2, .int p1), (4, .int x4_5)]) hx hb dX4_meetingOf_34 rfl hl (by decide) rfl (fun ls hl => ?_)
            refine lv_iinc (v := x4_5 + 1) (lv' := [(4, .int (x4_5 + 1)), (3, .int o_31), (0, .ref t), (2, .int p1)]) hx hb dX4_meetingOf_35 hl (k := 3) rfl rfl (by decide) rfl (fun ls hl => ?_)
            refine lv_goto (tgt := 5) hx hb dX4_meetingOf_38 (by decide) ?_
            exact ih_5 o_31 (x4_5 + 1) ls hf (lv_sub hl [2, 3, 1, 0] rfl)
          · have hf := ite_f c_24 hf
            refine lv_iload_n hx hb dX4_meetingOf_27 rfl (lv_at hl 2 rfl) ?_
            have e_out := Option.some.inj hf
            subst e_out
            exact hret _ _ dX4_meetingOf_28
  exact J5 FUEL p0 0 ls hf (lv_sub hl [2, 4, 1, 0] rfl)
def rm_X4_childrenOf : Room := { frames := 2, cells := 0, slots := 0, locals := 42 }
set_option maxHeartbeats 4000000 in
set_option maxRecDepth 100000 in
theorem c_X4_childrenOf (l : Launch) (D : va_G) (cC cI cJ cZ cO : ClassId) (t : Nat) (t_codes : Nat) (t_houses : Nat) (t_keys : Nat) (t_parents : Nat) (t_wrongBits : Nat) (codes : Nat → Int32) (houses : Nat → Int32) (keys : Nat → Int32) (parents : Nat → Int32) (wrongBits : Nat → Int32) (count : Int32) (p0 : Int32) (out : Int32)
    (hf : f_Rec_childrenOf parents count p0 = some out) : PCon l yX4_childrenOf wsX4_childrenOf rm_X4_childrenOf D (tyA cC cI cJ cZ cO) [.ref t, .int p0] [(t, .inr (3, [.ref t_codes, .ref t_houses, .ref t_keys, .ref t_parents, .ref t_wrongBits, .int count])), (t_codes, .inl (cI, 40, .inl codes)), (t_houses, .inl (cI, 40, .inl houses)), (t_keys, .inl (cI, 40, .inl keys)), (t_parents, .inl (cI, 40, .inl parents)), (t_wrongBits, .inl (cI, 40, .inl wrongBits))] (.int out) := by
  have iX4 : ∀ w ∈ wsX40, w ∈ wsX4_childrenOf := (fun _ h => List.mem_cons_of_mem _ (List.mem_append_right _ h))
  refine pc_I (own := RX4) (cc := cX4_childrenOf) (maxL := 4) (by decide) rfl rfl (Nat.le_of_ble_eq_true rfl) ?_
  intro p e s m args below meth c ls Q hx hb hts hown hcf hP hK hl hret
  have hl : lv_has ls 4 [(0, .ref t), (1, .int p0)] := hl
  refine lv_iconst (v := 0) hx hb dX4_childrenOf_0 (by decide) ?_
  refine lv_istore_n (lv' := [(2, .int 0), (0, .ref t), (1, .int p0)]) hx hb dX4_childrenOf_1 rfl hl (by decide) rfl (fun ls hl => ?_)
  refine lv_iconst (v := 0) hx hb dX4_childrenOf_2 (by decide) ?_
  refine lv_istore_n (lv' := [(3, .int 0), (2, .int 0), (0, .ref t), (1, .int p0)]) hx hb dX4_childrenOf_3 rfl hl (by decide) rfl (fun ls hl => ?_)
  have J4 : ∀ (n_4 : Nat) (x2_4 : Int32) (x3_4 : Int32) (ls : Array Slot), rl2 (f_Rec_childrenOf_4 parents count p0) n_4 x2_4 x3_4 = some out → lv_has ls 4 [(0, .ref t), (1, .int p0), (2, .int x2_4), (3, .int x3_4)] → W p l e rm_X4_childrenOf s m args below meth c s.heap [] 0 0 Q (F0 m 4 ls []) := by
    intro n_4
    induction n_4 with
    | zero =>
      intro x2_4 x3_4 ls hf
      cases hf
    | succ n_4 ih_4 =>
      intro x2_4 x3_4 ls hf hl
      have hf : f_Rec_childrenOf_4 parents count p0 x2_4 x3_4 (rl2 (f_Rec_childrenOf_4 parents count p0) n_4) = some out := hf
      refine lv_iload_n hx hb dX4_childrenOf_4 rfl (lv_at hl 3 rfl) ?_
      refine lv_aload_n hx hb dX4_childrenOf_5 rfl (lv_at hl 0 rfl) ?_
      refine va_get (D := D) (ci := 3) (v := .int count) (C := RX4) (T := TX4) (N := 6) hx hb hts iX4 hown hK.1 hP 0 rfl rfl 5 (by decide) (hts (.fieldLink RX4 27 "TaughtRemotes$Records" "count" "I") (List.mem_of_getElem? (i := 1) rfl)) (fun _ h9 => h9) rfl dX4_childrenOf_6 ?_
      refine lv_icmp_ge (tgt := 30) hx hb dX4_childrenOf_9 (by decide) (fun c_9 => ?_) (fun c_9 => ?_)
      · have hf := ite_t c_9 hf
        refine lv_iload_n hx hb dX4_childrenOf_30 rfl (lv_at hl 2 rfl) ?_
        have e_out := Option.some.inj hf
        subst e_out
        exact hret _ _ dX4_childrenOf_31
      · have hf := ite_f c_9 hf
        refine lv_aload_n hx hb dX4_childrenOf_12 rfl (lv_at hl 0 rfl) ?_
        refine lv_iload_n hx hb dX4_childrenOf_13 rfl (lv_at hl 3 rfl) ?_
        obtain ⟨o_14, h_14, hf⟩ := cal_e hf
        refine pcV (n := 1) [.int x3_4] [] [0, 1, 2, 3, 4, 5] 0 3 hcf (c_X4_parentOf l D cC cI cJ cZ cO t t_codes t_houses t_keys t_parents t_wrongBits codes houses keys parents wrongBits count x3_4 o_14 h_14) gX4_childrenOf_X4_parentOf rfl (by decide +kernel) ⟨rfl, rfl⟩ ⟨Nat.le_of_ble_eq_true rfl, Nat.le_of_ble_eq_true rfl⟩ ⟨Nat.le_of_ble_eq_true rfl, Nat.le_of_ble_eq_true rfl⟩ hK hP rfl rfl rfl rfl rfl hl.1 rfl (Nat.le_of_ble_eq_true rfl) dX4_childrenOf_14 ?_
        refine lv_iload_n hx hb dX4_childrenOf_17 rfl (lv_at hl 1 rfl) ?_
        have J24 : ∀ (x2_24 : Int32) (x3_24 : Int32) (ls : Array Slot), f_Rec_childrenOf_24 (rl2 (f_Rec_childrenOf_4 parents count p0) n_4) x2_24 x3_24 = some out → lv_has ls 4 [(0, .ref t), (1, .int p0), (2, .int x2_24), (3, .int x3_24)] → W p l e rm_X4_childrenOf s m args below meth c s.heap [] 0 0 Q (F0 m 24 ls []) := by
          intro x2_24 x3_24 ls hf hl
          refine lv_iinc (v := x3_24 + 1) (lv' := [(3, .int (x3_24 + 1)), (0, .ref t), (1, .int p0), (2, .int x2_24)]) hx hb dX4_childrenOf_24 hl (k := 3) rfl rfl (by decide) rfl (fun ls hl => ?_)
          refine lv_goto (tgt := 4) hx hb dX4_childrenOf_27 (by decide) ?_
          exact ih_4 x2_24 (x3_24 + 1) ls hf (lv_sub hl [1, 2, 3, 0] rfl)
        refine lv_icmp_ne (tgt := 24) hx hb dX4_childrenOf_18 (by decide) (fun c_18 => ?_) (fun c_18 => ?_)
        · have hf := ite_t c_18 hf
          exact J24 x2_4 x3_4 ls hf (lv_sub hl [0, 1, 2, 3] rfl)
        · have hf := ite_f (not_not_intro c_18) hf
          refine lv_iinc (v := x2_4 + 1) (lv' := [(2, .int (x2_4 + 1)), (0, .ref t), (1, .int p0), (3, .int x3_4)]) hx hb dX4_childrenOf_21 hl (k := 2) rfl rfl (by decide) rfl (fun ls hl => ?_)
          exact J24 (x2_4 + 1) x3_4 ls hf (lv_sub hl [1, 2, 0, 3] rfl)
  exact J4 FUEL 0 0 ls hf (lv_sub hl [2, 3, 1, 0] rfl)
def rm_X4_taught : Room := { frames := 3, cells := 0, slots := 0, locals := 65 }
set_option maxHeartbeats 4000000 in
set_option maxRecDepth 100000 in
theorem c_X4_taught (l : Launch) (D : va_G) (cC cI cJ cZ cO : ClassId) (t : Nat) (t_codes : Nat) (t_houses : Nat) (t_keys : Nat) (t_parents : Nat) (t_wrongBits : Nat) (codes : Nat → Int32) (houses : Nat → Int32) (keys : Nat → Int32) (parents : Nat → Int32) (wrongBits : Nat → Int32) (count : Int32) (out : Int32)
    (hf : f_Rec_taught parents count = some out) : PCon l yX4_taught wsX4_taught rm_X4_taught D (tyA cC cI cJ cZ cO) [.ref t] [(t, .inr (3, [.ref t_codes, .ref t_houses, .ref t_keys, .ref t_parents, .ref t_wrongBits, .int count])), (t_codes, .inl (cI, 40, .inl codes)), (t_houses, .inl (cI, 40, .inl houses)), (t_keys, .inl (cI, 40, .inl keys)), (t_parents, .inl (cI, 40, .inl parents)), (t_wrongBits, .inl (cI, 40, .inl wrongBits))] (.int out) := by
  have iX4 : ∀ w ∈ wsX40, w ∈ wsX4_taught := (fun _ h => List.mem_cons_of_mem _ (List.mem_append_right _ h))
  refine pc_I (own := RX4) (cc := cX4_taught) (maxL := 1) (by decide) rfl rfl (Nat.le_of_ble_eq_true rfl) ?_
  intro p e s m args below meth c ls Q hx hb hts hown hcf hP hK hl hret
  have hl : lv_has ls 1 [(0, .ref t)] := hl
  refine lv_aload_n hx hb dX4_taught_0 rfl (lv_at hl 0 rfl) ?_
  refine va_get (D := D) (ci := 3) (v := .int count) (C := RX4) (T := TX4) (N := 6) hx hb hts iX4 hown hK.1 hP 0 rfl rfl 5 (by decide) (hts (.fieldLink RX4 27 "TaughtRemotes$Records" "count" "I") (List.mem_of_getElem? (i := 1) rfl)) (fun _ h9 => h9) rfl dX4_taught_1 ?_
  refine lv_aload_n hx hb dX4_taught_4 rfl (lv_at hl 0 rfl) ?_
  refine lv_bipush (v := (-9)) hx hb dX4_taught_5 (by decide) ?_
  obtain ⟨o_7, h_7, hf⟩ := cal_e hf
  refine pcV (n := 1) [.int ((-9))] [.int count] [0, 1, 2, 3, 4, 5] 0 3 hcf (c_X4_childrenOf l D cC cI cJ cZ cO t t_codes t_houses t_keys t_parents t_wrongBits codes houses keys parents wrongBits count ((-9)) o_7 h_7) gX4_taught_X4_childrenOf rfl (by decide +kernel) ⟨rfl, rfl⟩ ⟨Nat.le_of_ble_eq_true rfl, Nat.le_of_ble_eq_true rfl⟩ ⟨Nat.le_of_ble_eq_true rfl, Nat.le_of_ble_eq_true rfl⟩ hK hP rfl rfl rfl rfl rfl hl.1 rfl (Nat.le_of_ble_eq_true rfl) dX4_taught_7 ?_
  refine lv_isub hx hb dX4_taught_10 ?_
  have e_out := Option.some.inj hf
  subst e_out
  exact hret _ _ dX4_taught_11
def rm_X4_wrong : Room := { frames := 2, cells := 0, slots := 0, locals := 42 }
set_option maxHeartbeats 4000000 in
set_option maxRecDepth 100000 in
theorem c_X4_wrong (l : Launch) (D : va_G) (cC cI cJ cZ cO : ClassId) (t : Nat) (t_codes : Nat) (t_houses : Nat) (t_keys : Nat) (t_parents : Nat) (t_wrongBits : Nat) (codes : Nat → Int32) (houses : Nat → Int32) (keys : Nat → Int32) (parents : Nat → Int32) (wrongBits : Nat → Int32) (count : Int32) (out : Int32)
    (hf : f_Rec_wrong wrongBits count = some out) : PCon l yX4_wrong wsX4_wrong rm_X4_wrong D (tyA cC cI cJ cZ cO) [.ref t] [(t, .inr (3, [.ref t_codes, .ref t_houses, .ref t_keys, .ref t_parents, .ref t_wrongBits, .int count])), (t_codes, .inl (cI, 40, .inl codes)), (t_houses, .inl (cI, 40, .inl houses)), (t_keys, .inl (cI, 40, .inl keys)), (t_parents, .inl (cI, 40, .inl parents)), (t_wrongBits, .inl (cI, 40, .inl wrongBits))] (.int out) := by
  have iX4 : ∀ w ∈ wsX40, w ∈ wsX4_wrong := (fun _ h => List.mem_cons_of_mem _ (List.mem_append_right _ h))
  refine pc_I (own := RX4) (cc := cX4_wrong) (maxL := 3) (by decide) rfl rfl (Nat.le_of_ble_eq_true rfl) ?_
  intro p e s m args below meth c ls Q hx hb hts hown hcf hP hK hl hret
  have hl : lv_has ls 3 [(0, .ref t)] := hl
  refine lv_iconst (v := 0) hx hb dX4_wrong_0 (by decide) ?_
  refine lv_istore_n (lv' := [(1, .int 0), (0, .ref t)]) hx hb dX4_wrong_1 rfl hl (by decide) rfl (fun ls hl => ?_)
  refine lv_iconst (v := 0) hx hb dX4_wrong_2 (by decide) ?_
  refine lv_istore_n (lv' := [(2, .int 0), (1, .int 0), (0, .ref t)]) hx hb dX4_wrong_3 rfl hl (by decide) rfl (fun ls hl => ?_)
  have J4 : ∀ (n_4 : Nat) (x1_4 : Int32) (x2_4 : Int32) (ls : Array Slot), rl2 (f_Rec_wrong_4 wrongBits count) n_4 x1_4 x2_4 = some out → lv_has ls 3 [(0, .ref t), (1, .int x1_4), (2, .int x2_4)] → W p l e rm_X4_wrong s m args below meth c s.heap [] 0 0 Q (F0 m 4 ls []) := by
    intro n_4
    induction n_4 with
    | zero =>
      intro x1_4 x2_4 ls hf
      cases hf
    | succ n_4 ih_4 =>
      intro x1_4 x2_4 ls hf hl
      have hf : f_Rec_wrong_4 wrongBits count x1_4 x2_4 (rl2 (f_Rec_wrong_4 wrongBits count) n_4) = some out := hf
      refine lv_iload_n hx hb dX4_wrong_4 rfl (lv_at hl 2 rfl) ?_
      refine lv_aload_n hx hb dX4_wrong_5 rfl (lv_at hl 0 rfl) ?_
      refine va_get (D := D) (ci := 3) (v := .int count) (C := RX4) (T := TX4) (N := 6) hx hb hts iX4 hown hK.1 hP 0 rfl rfl 5 (by decide) (hts (.fieldLink RX4 27 "TaughtRemotes$Records" "count" "I") (List.mem_of_getElem? (i := 1) rfl)) (fun _ h9 => h9) rfl dX4_wrong_6 ?_
      refine lv_icmp_ge (tgt := 31) hx hb dX4_wrong_9 (by decide) (fun c_9 => ?_) (fun c_9 => ?_)
      · have hf := ite_t c_9 hf
        refine lv_iload_n hx hb dX4_wrong_31 rfl (lv_at hl 1 rfl) ?_
        have e_out := Option.some.inj hf
        subst e_out
        exact hret _ _ dX4_wrong_32
      · have hf := ite_f c_9 hf
        refine lv_aload_n hx hb dX4_wrong_12 rfl (lv_at hl 0 rfl) ?_
        refine lv_iload_n hx hb dX4_wrong_13 rfl (lv_at hl 2 rfl) ?_
        obtain ⟨o_14, h_14, hf⟩ := cal_e hf
        refine pcV (n := 1) [.int x2_4] [] [0, 1, 2, 3, 4, 5] 0 3 hcf (c_X4_wrongBitOf l D cC cI cJ cZ cO t t_codes t_houses t_keys t_parents t_wrongBits codes houses keys parents wrongBits count x2_4 o_14 h_14) gX4_wrong_X4_wrongBitOf rfl (by decide +kernel) ⟨rfl, rfl⟩ ⟨Nat.le_of_ble_eq_true rfl, Nat.le_of_ble_eq_true rfl⟩ ⟨Nat.le_of_ble_eq_true rfl, Nat.le_of_ble_eq_true rfl⟩ hK hP rfl rfl rfl rfl rfl hl.1 rfl (Nat.le_of_ble_eq_true rfl) dX4_wrong_14 ?_
        refine lv_bipush (v := (-9)) hx hb dX4_wrong_17 (by decide) ?_
        have J25 : ∀ (x1_25 : Int32) (x2_25 : Int32) (ls : Array Slot), f_Rec_wrong_25 (rl2 (f_Rec_wrong_4 wrongBits count) n_4) x1_25 x2_25 = some out → lv_has ls 3 [(0, .ref t), (1, .int x1_25), (2, .int x2_25)] → W p l e rm_X4_wrong s m args below meth c s.heap [] 0 0 Q (F0 m 25 ls []) := by
          intro x1_25 x2_25 ls hf hl
          refine lv_iinc (v := x2_25 + 1) (lv' := [(2, .int (x2_25 + 1)), (0, .ref t), (1, .int x1_25)]) hx hb dX4_wrong_25 hl (k := 2) rfl rfl (by decide) rfl (fun ls hl => ?_)
          refine lv_goto (tgt := 4) hx hb dX4_wrong_28 (by decide) ?_
          exact ih_4 x1_25 (x2_25 + 1) ls hf (lv_sub hl [1, 2, 0] rfl)
        refine lv_icmp_eq (tgt := 25) hx hb dX4_wrong_19 (by decide) (fun c_19 => ?_) (fun c_19 => ?_)
        · have hf := ite_t c_19 hf
          exact J25 x1_4 x2_4 ls hf (lv_sub hl [0, 1, 2] rfl)
        · have hf := ite_f c_19 hf
          refine lv_iinc (v := x1_4 + 1) (lv' := [(1, .int (x1_4 + 1)), (0, .ref t), (2, .int x2_4)]) hx hb dX4_wrong_22 hl (k := 1) rfl rfl (by decide) rfl (fun ls hl => ?_)
          exact J25 (x1_4 + 1) x2_4 ls hf (lv_sub hl [1, 0, 2] rfl)
  exact J4 FUEL 0 0 ls hf (lv_sub hl [2, 1, 0] rfl)
def rm_X4_greatestGeneration : Room := { frames := 3, cells := 0, slots := 0, locals := 66 }
set_option maxHeartbeats 4000000 in
set_option maxRecDepth 100000 in
theorem c_X4_greatestGeneration (l : Launch) (D : va_G) (cC cI cJ cZ cO : ClassId) (t : Nat) (t_codes : Nat) (t_houses : Nat) (t_keys : Nat) (t_parents : Nat) (t_wrongBits : Nat) (codes : Nat → Int32) (houses : Nat → Int32) (keys : Nat → Int32) (parents : Nat → Int32) (wrongBits : Nat → Int32) (count : Int32) (out : Int32)
    (hf : f_Rec_greatestGeneration parents count = some out) : PCon l yX4_greatestGeneration wsX4_greatestGeneration rm_X4_greatestGeneration D (tyA cC cI cJ cZ cO) [.ref t] [(t, .inr (3, [.ref t_codes, .ref t_houses, .ref t_keys, .ref t_parents, .ref t_wrongBits, .int count])), (t_codes, .inl (cI, 40, .inl codes)), (t_houses, .inl (cI, 40, .inl houses)), (t_keys, .inl (cI, 40, .inl keys)), (t_parents, .inl (cI, 40, .inl parents)), (t_wrongBits, .inl (cI, 40, .inl wrongBits))] (.int out) := by
  have iX4 : ∀ w ∈ wsX40, w ∈ wsX4_greatestGeneration := (fun _ h => List.mem_cons_of_mem _ (List.mem_append_right _ h))
  refine pc_I (own := RX4) (cc := cX4_greatestGeneration) (maxL := 3) (by decide) rfl rfl (Nat.le_of_ble_eq_true rfl) ?_
  intro p e s m args below meth c ls Q hx hb hts hown hcf hP hK hl hret
  have hl : lv_has ls 3 [(0, .ref t)] := hl
  refine lv_bipush (v := (-9)) hx hb dX4_greatestGeneration_0 (by decide) ?_
  refine lv_topi (fun x1_v2 e_x1_v2 => ?_)
  have hf := bnd_x e_x1_v2 hf
  refine lv_istore_n (lv' := [(1, .int x1_v2), (0, .ref t)]) hx hb dX4_greatestGeneration_2 rfl hl (by decide) rfl (fun ls hl => ?_)
  refine lv_iconst (v := 0) hx hb dX4_greatestGeneration_3 (by decide) ?_
  refine lv_istore_n (lv' := [(2, .int 0), (1, .int x1_v2), (0, .ref t)]) hx hb dX4_greatestGeneration_4 rfl hl (by decide) rfl (fun ls hl => ?_)
  have J5 : ∀ (n_5 : Nat) (x1_5 : Int32) (x2_5 : Int32) (ls : Array Slot), rl2 (f_Rec_greatestGeneration_5 parents count) n_5 x1_5 x2_5 = some out → lv_has ls 3 [(0, .ref t), (1, .int x1_5), (2, .int x2_5)] → W p l e rm_X4_greatestGeneration s m args below meth c s.heap [] 0 0 Q (F0 m 5 ls []) := by
    intro n_5
    induction n_5 with
    | zero =>
      intro x1_5 x2_5 ls hf
      cases hf
    | succ n_5 ih_5 =>
      intro x1_5 x2_5 ls hf hl
      have hf : f_Rec_greatestGeneration_5 parents count x1_5 x2_5 (rl2 (f_Rec_greatestGeneration_5 parents count) n_5) = some out := hf
      refine lv_iload_n hx hb dX4_greatestGeneration_5 rfl (lv_at hl 2 rfl) ?_
      refine lv_aload_n hx hb dX4_greatestGeneration_6 rfl (lv_at hl 0 rfl) ?_
      refine va_get (D := D) (ci := 3) (v := .int count) (C := RX4) (T := TX4) (N := 6) hx hb hts iX4 hown hK.1 hP 0 rfl rfl 5 (by decide) (hts (.fieldLink RX4 27 "TaughtRemotes$Records" "count" "I") (List.mem_of_getElem? (i := 1) rfl)) (fun _ h9 => h9) rfl dX4_greatestGeneration_7 ?_
      refine lv_icmp_ge (tgt := 29) hx hb dX4_greatestGeneration_10 (by decide) (fun c_10 => ?_) (fun c_10 => ?_)
      · have hf := ite_t c_10 hf
        refine lv_iload_n hx hb dX4_greatestGeneration_29 rfl (lv_at hl 1 rfl) ?_
        have e_out := Option.some.inj hf
        subst e_out
        exact hret _ _ dX4_greatestGeneration_30
      · have hf := ite_f c_10 hf
        refine lv_iload_n hx hb dX4_greatestGeneration_13 rfl (lv_at hl 1 rfl) ?_
        refine lv_aload_n hx hb dX4_greatestGeneration_14 rfl (lv_at hl 0 rfl) ?_
        refine lv_iload_n hx hb dX4_greatestGeneration_15 rfl (lv_at hl 2 rfl) ?_
        obtain ⟨o_16, h_16, hf⟩ := cal_e hf
        refine pcV (n := 1) [.int x2_5] [.int x1_5] [0, 1, 2, 3, 4, 5] 0 3 hcf (c_X4_generationOf l D cC cI cJ cZ cO t t_codes t_houses t_keys t_parents t_wrongBits codes houses keys parents wrongBits count x2_5 o_16 h_16) gX4_greatestGeneration_X4_generationOf rfl (by decide +kernel) ⟨rfl, rfl⟩ ⟨Nat.le_of_ble_eq_true rfl, Nat.le_of_ble_eq_true rfl⟩ ⟨Nat.le_of_ble_eq_true rfl, Nat.le_of_ble_eq_true rfl⟩ hK hP rfl rfl rfl rfl rfl hl.1 rfl (Nat.le_of_ble_eq_true rfl) dX4_greatestGeneration_16 ?_
        refine r_mmax (rest := []) hx hb (hcf.2.2.1.trans hl.1.symm) hown (hts (.methodLink RX4 71 Lib.Math.max.name) (List.mem_of_getElem? (i := 2) rfl)) (hts (.static Lib.Math.max.name) (List.mem_of_getElem? (i := 3) rfl)) (hts (.initialized "java/lang/Math") (List.mem_of_getElem? (i := 4) rfl)) (hts (.code Lib.Math.max.name Lib.Math.max.code 2 (some .int)) (List.mem_of_getElem? (i := 5) rfl)) (Nat.le_of_ble_eq_true rfl) (Nat.le_of_ble_eq_true rfl) ⟨Nat.le_of_ble_eq_true rfl, Nat.le_of_ble_eq_true rfl⟩ dX4_greatestGeneration_19 ?_
        refine lv_istore_n (lv' := [(1, .int (imax x1_5 o_16)), (0, .ref t), (2, .int x2_5)]) hx hb dX4_greatestGeneration_22 rfl hl (by decide) rfl (fun ls hl => ?_)
        refine lv_iinc (v := x2_5 + 1) (lv' := [(2, .int (x2_5 + 1)), (1, .int (imax x1_5 o_16)), (0, .ref t)]) hx hb dX4_greatestGeneration_23 hl (k := 2) rfl rfl (by decide) rfl (fun ls hl => ?_)
        refine lv_goto (tgt := 5) hx hb dX4_greatestGeneration_26 (by decide) ?_
        exact ih_5 (imax x1_5 o_16) (x2_5 + 1) ls hf (lv_sub hl [2, 1, 0] rfl)
  exact J5 FUEL x1_v2 0 ls hf (lv_sub hl [2, 1, 0] rfl)
