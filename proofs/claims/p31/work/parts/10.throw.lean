/-! the three methods that ask: on the way that the law takes they never throw -/
def rm_X9_requirePlace : Room := { frames := 0, cells := 0, slots := 0, locals := 0 }
set_option maxHeartbeats 4000000 in
set_option maxRecDepth 100000 in
theorem c_X9_requirePlace (l : Launch) (D : va_G) (cC cI cJ cZ cO : ClassId) (p0 : Int32) (out : Nat) (hf : f_TR_requirePlace p0 = some out) : PConV l yX9_requirePlace wsX9_requirePlace rm_X9_requirePlace D (tyA cC cI cJ cZ cO) [.int p0] [] := by
  refine pc_V (own := RX9) (cc := cX9_requirePlace) (maxL := 1) (by decide) rfl rfl (Nat.le_of_ble_eq_true rfl) ?_
  intro p e s m args below meth c ls Q hx hb hts hown hcf hP hK hl hret
  have hl : lv_has ls 1 [(0, .int p0)] := hl
  refine lv_iload_n hx hb dX9_requirePlace_0 rfl (lv_at hl 0 rfl) ?_
  refine lv_if_ne (tgt := 15) hx hb dX9_requirePlace_1 (by decide) (fun c0 => ?_) (fun c0 => ?_)
  · exact hret _ _ dX9_requirePlace_15
  · unfold f_TR_requirePlace at hf
    rw [if_pos c0] at hf
    cases hf
def rm_X9_requireArgument : Room := { frames := 0, cells := 0, slots := 0, locals := 0 }
set_option maxHeartbeats 4000000 in
set_option maxRecDepth 100000 in
theorem c_X9_requireArgument (l : Launch) (D : va_G) (cC cI cJ cZ cO : ClassId) (p0 : Int32) (out : Nat) (hf : f_TR_requireArgument p0 = some out) : PConV l yX9_requireArgument wsX9_requireArgument rm_X9_requireArgument D (tyA cC cI cJ cZ cO) [.int p0] [] := by
  refine pc_V (own := RX9) (cc := cX9_requireArgument) (maxL := 1) (by decide) rfl rfl (Nat.le_of_ble_eq_true rfl) ?_
  intro p e s m args below meth c ls Q hx hb hts hown hcf hP hK hl hret
  have hl : lv_has ls 1 [(0, .int p0)] := hl
  refine lv_iload_n hx hb dX9_requireArgument_0 rfl (lv_at hl 0 rfl) ?_
  refine lv_if_ne (tgt := 15) hx hb dX9_requireArgument_1 (by decide) (fun c0 => ?_) (fun c0 => ?_)
  · exact hret _ _ dX9_requireArgument_15
  · unfold f_TR_requireArgument at hf
    rw [if_pos c0] at hf
    cases hf
def rm_X9_requireState : Room := { frames := 0, cells := 0, slots := 0, locals := 0 }
set_option maxHeartbeats 4000000 in
set_option maxRecDepth 100000 in
theorem c_X9_requireState (l : Launch) (D : va_G) (cC cI cJ cZ cO : ClassId) (p0 : Int32) (out : Nat) (hf : f_TR_requireState p0 = some out) : PConV l yX9_requireState wsX9_requireState rm_X9_requireState D (tyA cC cI cJ cZ cO) [.int p0] [] := by
  refine pc_V (own := RX9) (cc := cX9_requireState) (maxL := 1) (by decide) rfl rfl (Nat.le_of_ble_eq_true rfl) ?_
  intro p e s m args below meth c ls Q hx hb hts hown hcf hP hK hl hret
  have hl : lv_has ls 1 [(0, .int p0)] := hl
  refine lv_iload_n hx hb dX9_requireState_0 rfl (lv_at hl 0 rfl) ?_
  refine lv_if_ne (tgt := 15) hx hb dX9_requireState_1 (by decide) (fun c0 => ?_) (fun c0 => ?_)
  · exact hret _ _ dX9_requireState_15
  · unfold f_TR_requireState at hf
    rw [if_pos c0] at hf
    cases hf

