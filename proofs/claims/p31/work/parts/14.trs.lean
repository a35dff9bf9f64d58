def rm_X9_powerOfTen : Room := { frames := 0, cells := 0, slots := 0, locals := 0 }
set_option maxHeartbeats 4000000 in
set_option maxRecDepth 100000 in
theorem c_X9_powerOfTen (l : Launch) (D : va_G) (cC cI cJ cZ cO : ClassId) (p0 : Int32) (out : Int64)
    (hf : f_TR_powerOfTen p0 = some out) : PCon l yX9_powerOfTen wsX9_powerOfTen rm_X9_powerOfTen D (tyA cC cI cJ cZ cO) [.int p0] [] (.long out) := by
  refine pc_J (own := RX9) (cc := cX9_powerOfTen) (maxL := 4) (by decide) rfl rfl (Nat.le_of_ble_eq_true rfl) ?_
  intro p e s m args below meth c ls Q hx hb hts hown hcf hP hK hl hret
  have hl : lv_has ls 4 [(0, .int p0)] := hl
  refine lv_lconst (v := 1) hx hb dX9_powerOfTen_0 rfl ?_
  refine lv_lstore_n (lv' := [(1, .long 1), (0, .int p0)]) hx hb dX9_powerOfTen_1 rfl hl (by decide) rfl (fun ls hl => ?_)
  refine lv_iconst (v := 0) hx hb dX9_powerOfTen_2 (by decide) ?_
  refine lv_istore_n (lv' := [(3, .int 0), (1, .long 1), (0, .int p0)]) hx hb dX9_powerOfTen_3 rfl hl (by decide) rfl (fun ls hl => ?_)
  have J4 : ∀ (n_4 : Nat) (x1_4 : Int64) (x3_4 : Int32) (ls : Array Slot), rl2 (f_TR_powerOfTen_4 p0) n_4 x1_4 x3_4 = some out → lv_has ls 4 [(0, .int p0), (1, .long x1_4), (3, .int x3_4)] → W p l e rm_X9_powerOfTen s m args below meth c s.heap [] 0 0 Q (F0 m 4 ls []) := by
    intro n_4
    induction n_4 with
    | zero =>
      intro x1_4 x3_4 ls hf
      cases hf
    | succ n_4 ih_4 =>
      intro x1_4 x3_4 ls hf hl
      have hf : f_TR_powerOfTen_4 p0 x1_4 x3_4 (rl2 (f_TR_powerOfTen_4 p0) n_4) = some out := hf
      refine lv_iload_n hx hb dX9_powerOfTen_4 rfl (lv_at hl 2 rfl) ?_
      refine lv_iload_n hx hb dX9_powerOfTen_5 rfl (lv_at hl 0 rfl) ?_
      refine lv_icmp_ge (tgt := 21) hx hb dX9_powerOfTen_6 (by decide) (fun c_6 => ?_) (fun c_6 => ?_)
      · have hf := ite_t c_6 hf
        refine lv_lload_n hx hb dX9_powerOfTen_21 rfl (lv_at hl 1 rfl) ?_
        have e_out := Option.some.inj hf
        subst e_out
        exact hret _ _ dX9_powerOfTen_22
      · have hf := ite_f c_6 hf
        refine lv_lload_n hx hb dX9_powerOfTen_9 rfl (lv_at hl 1 rfl) ?_
        refine lv_ldc2 hx hb hown (hts (.constantLong RX9 317 (10)) (List.mem_of_getElem? (i := 1) rfl)) dX9_powerOfTen_10 ?_
        refine lv_lmul hx hb dX9_powerOfTen_13 ?_
        refine lv_topl (fun x1_v14 e_x1_v14 => ?_)
        have hf := bnd_x e_x1_v14 hf
        refine lv_lstore_n (lv' := [(1, .long x1_v14), (0, .int p0), (3, .int x3_4)]) hx hb dX9_powerOfTen_14 rfl hl (by decide) rfl (fun ls hl => ?_)
        refine lv_iinc (v := x3_4 + 1) (lv' := [(3, .int (x3_4 + 1)), (1, .long x1_v14), (0, .int p0)]) hx hb dX9_powerOfTen_15 hl (k := 2) rfl rfl (by decide) rfl (fun ls hl => ?_)
        refine lv_goto (tgt := 4) hx hb dX9_powerOfTen_18 (by decide) ?_
        exact ih_4 x1_v14 (x3_4 + 1) ls hf (lv_sub hl [2, 1, 0] rfl)
  exact J4 FUEL 1 0 ls hf (lv_sub hl [2, 1, 0] rfl)
def rm_X9_isWithin : Room := { frames := 0, cells := 0, slots := 0, locals := 0 }
set_option maxHeartbeats 4000000 in
set_option maxRecDepth 100000 in
theorem c_X9_isWithin (l : Launch) (D : va_G) (cC cI cJ cZ cO : ClassId) (p0 : Int32) (p1 : Int32) (p2 : Int32) (out : Int32)
    (hf : f_TR_isWithin p0 p1 p2 = some out) : PCon l yX9_isWithin wsX9_isWithin rm_X9_isWithin D (tyA cC cI cJ cZ cO) [.int p0, .int p1, .int p2] [] (.int out) := by
  refine pc_Z (own := RX9) (cc := cX9_isWithin) (maxL := 3) (by decide) rfl rfl (Nat.le_of_ble_eq_true rfl) ?_
  intro p e s m args below meth c ls Q hx hb hts hown hcf hP hK hl hret
  have hl : lv_has ls 3 [(0, .int p0), (1, .int p1), (2, .int p2)] := hl
  refine lv_iload_n hx hb dX9_isWithin_0 rfl (lv_at hl 0 rfl) ?_
  refine lv_iload_n hx hb dX9_isWithin_1 rfl (lv_at hl 1 rfl) ?_
  refine lv_icmp_lt (tgt := 14) hx hb dX9_isWithin_2 (by decide) (fun c_2 => ?_) (fun c_2 => ?_)
  · have hf := ite_t c_2 hf
    refine lv_iconst (v := 0) hx hb dX9_isWithin_14 (by decide) ?_
    have e_out := Option.some.inj hf
    subst e_out
    exact hret _ _ dX9_isWithin_15 (nar01 (Or.inl rfl))
  · have hf := ite_f c_2 hf
    refine lv_iload_n hx hb dX9_isWithin_5 rfl (lv_at hl 0 rfl) ?_
    refine lv_iload_n hx hb dX9_isWithin_6 rfl (lv_at hl 2 rfl) ?_
    refine lv_icmp_gt (tgt := 14) hx hb dX9_isWithin_7 (by decide) (fun c_7 => ?_) (fun c_7 => ?_)
    · have hf := ite_t c_7 hf
      refine lv_iconst (v := 0) hx hb dX9_isWithin_14 (by decide) ?_
      have e_out := Option.some.inj hf
      subst e_out
      exact hret _ _ dX9_isWithin_15 (nar01 (Or.inl rfl))
    · have hf := ite_f c_7 hf
      refine lv_iconst (v := 1) hx hb dX9_isWithin_10 (by decide) ?_
      refine lv_goto (tgt := 15) hx hb dX9_isWithin_11 (by decide) ?_
      have e_out := Option.some.inj hf
      subst e_out
      exact hret _ _ dX9_isWithin_15 (nar01 (Or.inr rfl))
def rm_X9_apart : Room := { frames := 1, cells := 0, slots := 0, locals := 20 }
set_option maxHeartbeats 4000000 in
set_option maxRecDepth 100000 in
theorem c_X9_apart (l : Launch) (D : va_G) (cC cI cJ cZ cO : ClassId) (p0 : Int32) (p1 : Int32) (out : Int32)
    (hf : f_TR_apart p0 p1 = some out) : PCon l yX9_apart wsX9_apart rm_X9_apart D (tyA cC cI cJ cZ cO) [.int p0, .int p1] [] (.int out) := by
  refine pc_I (own := RX9) (cc := cX9_apart) (maxL := 2) (by decide) rfl rfl (Nat.le_of_ble_eq_true rfl) ?_
  intro p e s m args below meth c ls Q hx hb hts hown hcf hP hK hl hret
  have hl : lv_has ls 2 [(0, .int p0), (1, .int p1)] := hl
  refine lv_iload_n hx hb dX9_apart_0 rfl (lv_at hl 0 rfl) ?_
  refine lv_iload_n hx hb dX9_apart_1 rfl (lv_at hl 1 rfl) ?_
  refine lv_ixor hx hb dX9_apart_2 ?_
  obtain ⟨o_3, h_3, hf⟩ := cal_e hf
  refine pcS (n := 1) [.int (p0 ^^^ p1)] [] [] hcf (c_J6_bitCount_0f7a4 l D cC cI cJ cZ cO (p0 ^^^ p1) o_3 h_3) gX9_apart_J6_bitCount_0f7a4 rfl (by decide +kernel) ⟨rfl, rfl⟩ ⟨Nat.le_of_ble_eq_true rfl, Nat.le_of_ble_eq_true rfl⟩ ⟨Nat.le_of_ble_eq_true rfl, Nat.le_of_ble_eq_true rfl⟩ hK hP rfl rfl hl.1 rfl (Nat.le_of_ble_eq_true rfl) dX9_apart_3 ?_
  have e_out := Option.some.inj hf
  subst e_out
  exact hret _ _ dX9_apart_6
def rm_X9_isCode : Room := { frames := 1, cells := 0, slots := 0, locals := 22 }
set_option maxHeartbeats 4000000 in
set_option maxRecDepth 100000 in
theorem c_X9_isCode (l : Launch) (D : va_G) (cC cI cJ cZ cO : ClassId) (p0 : Int32) (out : Int32)
    (hf : f_TR_isCode p0 = some out) : PCon l yX9_isCode wsX9_isCode rm_X9_isCode D (tyA cC cI cJ cZ cO) [.int p0] [] (.int out) := by
  refine pc_Z (own := RX9) (cc := cX9_isCode) (maxL := 1) (by decide) rfl rfl (Nat.le_of_ble_eq_true rfl) ?_
  intro p e s m args below meth c ls Q hx hb hts hown hcf hP hK hl hret
  have hl : lv_has ls 1 [(0, .int p0)] := hl
  refine lv_iload_n hx hb dX9_isCode_0 rfl (lv_at hl 0 rfl) ?_
  refine lv_iconst (v := 0) hx hb dX9_isCode_1 (by decide) ?_
  refine lv_sipush (v := 4095) hx hb dX9_isCode_2 (by decide) ?_
  obtain ⟨o_5, h_5, hf⟩ := cal_e hf
  refine pcS (n := 3) [.int p0, .int 0, .int 4095] [] [] hcf (c_X9_isWithin l D cC cI cJ cZ cO p0 0 4095 o_5 h_5) gX9_isCode_X9_isWithin rfl (by decide +kernel) ⟨rfl, rfl⟩ ⟨Nat.le_of_ble_eq_true rfl, Nat.le_of_ble_eq_true rfl⟩ ⟨Nat.le_of_ble_eq_true rfl, Nat.le_of_ble_eq_true rfl⟩ hK hP rfl rfl hl.1 rfl (Nat.le_of_ble_eq_true rfl) dX9_isCode_5 ?_
  obtain ⟨z_8, hf⟩ := gd_e hf
  have e_out := Option.some.inj hf
  subst e_out
  exact hret _ _ dX9_isCode_8 (nar01 z_8)
def rm_X9_isTolerance : Room := { frames := 1, cells := 0, slots := 0, locals := 22 }
set_option maxHeartbeats 4000000 in
set_option maxRecDepth 100000 in
theorem c_X9_isTolerance (l : Launch) (D : va_G) (cC cI cJ cZ cO : ClassId) (p0 : Int32) (out : Int32)
    (hf : f_TR_isTolerance p0 = some out) : PCon l yX9_isTolerance wsX9_isTolerance rm_X9_isTolerance D (tyA cC cI cJ cZ cO) [.int p0] [] (.int out) := by
  refine pc_Z (own := RX9) (cc := cX9_isTolerance) (maxL := 1) (by decide) rfl rfl (Nat.le_of_ble_eq_true rfl) ?_
  intro p e s m args below meth c ls Q hx hb hts hown hcf hP hK hl hret
  have hl : lv_has ls 1 [(0, .int p0)] := hl
  refine lv_iload_n hx hb dX9_isTolerance_0 rfl (lv_at hl 0 rfl) ?_
  refine lv_iconst (v := 0) hx hb dX9_isTolerance_1 (by decide) ?_
  refine lv_iconst (v := 3) hx hb dX9_isTolerance_2 (by decide) ?_
  obtain ⟨o_3, h_3, hf⟩ := cal_e hf
  refine pcS (n := 3) [.int p0, .int 0, .int 3] [] [] hcf (c_X9_isWithin l D cC cI cJ cZ cO p0 0 3 o_3 h_3) gX9_isTolerance_X9_isWithin rfl (by decide +kernel) ⟨rfl, rfl⟩ ⟨Nat.le_of_ble_eq_true rfl, Nat.le_of_ble_eq_true rfl⟩ ⟨Nat.le_of_ble_eq_true rfl, Nat.le_of_ble_eq_true rfl⟩ hK hP rfl rfl hl.1 rfl (Nat.le_of_ble_eq_true rfl) dX9_isTolerance_3 ?_
  obtain ⟨z_6, hf⟩ := gd_e hf
  have e_out := Option.some.inj hf
  subst e_out
  exact hret _ _ dX9_isTolerance_6 (nar01 z_6)
def rm_X9_isSetting : Room := { frames := 1, cells := 0, slots := 0, locals := 22 }
set_option maxHeartbeats 4000000 in
set_option maxRecDepth 100000 in
theorem c_X9_isSetting (l : Launch) (D : va_G) (cC cI cJ cZ cO : ClassId) (p0 : Int32) (p1 : Int32) (out : Int32)
    (hf : f_TR_isSetting p0 p1 = some out) : PCon l yX9_isSetting wsX9_isSetting rm_X9_isSetting D (tyA cC cI cJ cZ cO) [.int p0, .int p1] [] (.int out) := by
  refine pc_Z (own := RX9) (cc := cX9_isSetting) (maxL := 2) (by decide) rfl rfl (Nat.le_of_ble_eq_true rfl) ?_
  intro p e s m args below meth c ls Q hx hb hts hown hcf hP hK hl hret
  have hl : lv_has ls 2 [(0, .int p0), (1, .int p1)] := hl
  refine lv_iload_n hx hb dX9_isSetting_0 rfl (lv_at hl 0 rfl) ?_
  have J13 : ∀ (ls : Array Slot), f_TR_isSetting_13 p0 p1 = some out → lv_has ls 2 [(0, .int p0), (1, .int p1)] → W p l e rm_X9_isSetting s m args below meth c s.heap [] 0 0 Q (F0 m 13 ls []) := by
    intro ls hf hl
    refine lv_iload_n hx hb dX9_isSetting_13 rfl (lv_at hl 0 rfl) ?_
    refine lv_iconst (v := 1) hx hb dX9_isSetting_14 (by decide) ?_
    refine lv_icmp_ne (tgt := 32) hx hb dX9_isSetting_15 (by decide) (fun c_15 => ?_) (fun c_15 => ?_)
    · have hf := ite_t c_15 hf
      refine lv_iconst (v := 0) hx hb dX9_isSetting_32 (by decide) ?_
      have e_out := Option.some.inj hf
      subst e_out
      exact hret _ _ dX9_isSetting_33 (nar01 (Or.inl rfl))
    · have hf := ite_f (not_not_intro c_15) hf
      refine lv_iload_n hx hb dX9_isSetting_18 rfl (lv_at hl 1 rfl) ?_
      refine lv_iconst (v := 0) hx hb dX9_isSetting_19 (by decide) ?_
      refine lv_bipush (v := 8) hx hb dX9_isSetting_20 (by decide) ?_
      obtain ⟨o_22, h_22, hf⟩ := cal_e hf
      refine pcS (n := 3) [.int p1, .int 0, .int 8] [] [] hcf (c_X9_isWithin l D cC cI cJ cZ cO p1 0 8 o_22 h_22) gX9_isSetting_X9_isWithin rfl (by decide +kernel) ⟨rfl, rfl⟩ ⟨Nat.le_of_ble_eq_true rfl, Nat.le_of_ble_eq_true rfl⟩ ⟨Nat.le_of_ble_eq_true rfl, Nat.le_of_ble_eq_true rfl⟩ hK hP rfl rfl hl.1 rfl (Nat.le_of_ble_eq_true rfl) dX9_isSetting_22 ?_
      refine lv_if_eq (tgt := 32) hx hb dX9_isSetting_25 (by decide) (fun c_25 => ?_) (fun c_25 => ?_)
      · have hf := ite_t c_25 hf
        refine lv_iconst (v := 0) hx hb dX9_isSetting_32 (by decide) ?_
        have e_out := Option.some.inj hf
        subst e_out
        exact hret _ _ dX9_isSetting_33 (nar01 (Or.inl rfl))
      · have hf := ite_f c_25 hf
        refine lv_iconst (v := 1) hx hb dX9_isSetting_28 (by decide) ?_
        refine lv_goto (tgt := 33) hx hb dX9_isSetting_29 (by decide) ?_
        have e_out := Option.some.inj hf
        subst e_out
        exact hret _ _ dX9_isSetting_33 (nar01 (Or.inr rfl))
  refine lv_if_ne (tgt := 13) hx hb dX9_isSetting_1 (by decide) (fun c_1 => ?_) (fun c_1 => ?_)
  · have hf := ite_t c_1 hf
    exact J13 ls hf (lv_sub hl [0, 1] rfl)
  · have hf := ite_f (not_not_intro c_1) hf
    refine lv_iload_n hx hb dX9_isSetting_4 rfl (lv_at hl 1 rfl) ?_
    refine lv_iconst (v := 0) hx hb dX9_isSetting_5 (by decide) ?_
    refine lv_iconst (v := 3) hx hb dX9_isSetting_6 (by decide) ?_
    obtain ⟨o_7, h_7, hf⟩ := cal_e hf
    refine pcS (n := 3) [.int p1, .int 0, .int 3] [] [] hcf (c_X9_isWithin l D cC cI cJ cZ cO p1 0 3 o_7 h_7) gX9_isSetting_X9_isWithin rfl (by decide +kernel) ⟨rfl, rfl⟩ ⟨Nat.le_of_ble_eq_true rfl, Nat.le_of_ble_eq_true rfl⟩ ⟨Nat.le_of_ble_eq_true rfl, Nat.le_of_ble_eq_true rfl⟩ hK hP rfl rfl hl.1 rfl (Nat.le_of_ble_eq_true rfl) dX9_isSetting_7 ?_
    refine lv_if_ne (tgt := 28) hx hb dX9_isSetting_10 (by decide) (fun c_10 => ?_) (fun c_10 => ?_)
    · have hf := ite_t c_10 hf
      refine lv_iconst (v := 1) hx hb dX9_isSetting_28 (by decide) ?_
      refine lv_goto (tgt := 33) hx hb dX9_isSetting_29 (by decide) ?_
      have e_out := Option.some.inj hf
      subst e_out
      exact hret _ _ dX9_isSetting_33 (nar01 (Or.inr rfl))
    · have hf := ite_f (not_not_intro c_10) hf
      exact J13 ls hf (lv_sub hl [0, 1] rfl)
