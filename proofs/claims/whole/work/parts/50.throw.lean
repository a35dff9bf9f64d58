/-! the three methods that throw -/
def rm_X9_requirePlace : Room := { frames := 6, cells := 1, slots := 6, locals := 100 }
set_option maxHeartbeats 4000000 in
set_option maxRecDepth 100000 in
theorem c_X9_requirePlace (l : Launch) (hst : l.stackTraces = false) (D : va_G) (cC cI cJ cZ cO : ClassId) (p0 : Int32) (out : Nat) (hf : f_TR_requirePlace p0 = some out) : XCon l yX9_requirePlace wsX9_requirePlace rm_X9_requirePlace D (tyA cC cI cJ cZ cO) [.int p0] [] out none [] 1 6 := by
  refine xc_of (own := RX9) (cc := cX9_requirePlace) (maxL := 1) (ret := none) (by decide) rfl rfl (Nat.le_of_ble_eq_true rfl) ?_
  intro p e s m args below meth c ls A hx hb hr hxt hlk hts hown hcf hP hK hD hZ hA hS hl
  have hl : lv_has ls 1 [(0, .int p0)] := hl
  have e_out := Option.some.inj hf
  refine lv_iload_n hx hb dX9_requirePlace_0 rfl (lv_at hl 0 rfl) ?_
  refine lv_if_ne (tgt := 15) hx hb dX9_requirePlace_1 (by decide) (fun c0 => ?_) (fun c0 => ?_)
  · rw [if_neg c0] at e_out
    subst e_out
    exact W.widen (Nat.zero_le _) (Nat.zero_le _) (vx_ret (W.vret hx hb hr (fun t ht _ => ⟨rfl, rfl, by rw [ht]; exact hP, hD, hS.F ht⟩) hS.2.2 dX9_requirePlace_15 hlk))
  · rw [if_pos c0] at e_out
    subst e_out
    obtain ⟨sa, hsa⟩ := hK.2.2.1 (297, "there is no such place") (List.mem_of_getElem? (i := 0) rfl)
    refine vx_throwSW (own := RX9) (cls := exN 1) (names := ["java/lang/RuntimeException", "java/lang/Exception"]) (ic := 299) hx hb hst hown (by decide +kernel) (by decide +kernel) (hts _ (List.mem_of_getElem? (i := 1) rfl)) (hts _ (List.mem_of_getElem? (i := 2) rfl)) hsa (vx_hat (fun w h => hts w (List.mem_cons_of_mem _ (List.mem_append_right _ h))) (B := [.castable (exN 1) (exN 1), .declares (Bundle.initS "java/lang/RuntimeException"), .declares (Bundle.initS "java/lang/Exception"), .declares (Bundle.initS Bundle.tN)]) (by decide +kernel) (vx_c (KK_nest hK (i := 14) rfl rfl) (vx_c (KK_nest hK (i := 17) rfl rfl) (vx_c (KK_nest hK (i := 18) rfl rfl) (vx_c (KK_nest hK (i := 19) rfl rfl) vx_n))))) (by decide +kernel) hZ.1 hZ.2 hS (hl.1.trans hcf.2.2.1.symm) dX9_requirePlace_4 dX9_requirePlace_7 dX9_requirePlace_8 dX9_requirePlace_11 dX9_requirePlace_14 (fun x hx9 => (hxt x hx9).elim) (by decide) (Nat.le_of_ble_eq_true rfl) (Nat.le_of_ble_eq_true rfl) (Nat.le_of_ble_eq_true rfl) hlk (fun t _ hz hk => ⟨⟨by decide, rfl⟩, fun k q h => by simp at h, ⟨fun i j p q h => by simp at h, fun k q h => by simp at h⟩, hz, fun q h1 _ => hk q h1⟩) (fun z hz => by cases hz) (Nat.le_refl _) (Nat.le_refl _)
def rm_X9_requireArgument : Room := { frames := 6, cells := 1, slots := 6, locals := 100 }
set_option maxHeartbeats 4000000 in
set_option maxRecDepth 100000 in
theorem c_X9_requireArgument (l : Launch) (hst : l.stackTraces = false) (D : va_G) (cC cI cJ cZ cO : ClassId) (p0 : Int32) (out : Nat) (hf : f_TR_requireArgument p0 = some out) : XCon l yX9_requireArgument wsX9_requireArgument rm_X9_requireArgument D (tyA cC cI cJ cZ cO) [.int p0] [] out none [] 1 6 := by
  refine xc_of (own := RX9) (cc := cX9_requireArgument) (maxL := 1) (ret := none) (by decide) rfl rfl (Nat.le_of_ble_eq_true rfl) ?_
  intro p e s m args below meth c ls A hx hb hr hxt hlk hts hown hcf hP hK hD hZ hA hS hl
  have hl : lv_has ls 1 [(0, .int p0)] := hl
  have e_out := Option.some.inj hf
  refine lv_iload_n hx hb dX9_requireArgument_0 rfl (lv_at hl 0 rfl) ?_
  refine lv_if_ne (tgt := 15) hx hb dX9_requireArgument_1 (by decide) (fun c0 => ?_) (fun c0 => ?_)
  · rw [if_neg c0] at e_out
    subst e_out
    exact W.widen (Nat.zero_le _) (Nat.zero_le _) (vx_ret (W.vret hx hb hr (fun t ht _ => ⟨rfl, rfl, by rw [ht]; exact hP, hD, hS.F ht⟩) hS.2.2 dX9_requireArgument_15 hlk))
  · rw [if_pos c0] at e_out
    subst e_out
    obtain ⟨sa, hsa⟩ := hK.2.2.1 (304, "an argument is out of its range") (List.mem_of_getElem? (i := 1) rfl)
    refine vx_throwSW (own := RX9) (cls := exN 2) (names := ["java/lang/RuntimeException", "java/lang/Exception"]) (ic := 306) hx hb hst hown (by decide +kernel) (by decide +kernel) (hts _ (List.mem_of_getElem? (i := 1) rfl)) (hts _ (List.mem_of_getElem? (i := 2) rfl)) hsa (vx_hat (fun w h => hts w (List.mem_cons_of_mem _ (List.mem_append_right _ h))) (B := [.castable (exN 2) (exN 2), .declares (Bundle.initS "java/lang/RuntimeException"), .declares (Bundle.initS "java/lang/Exception"), .declares (Bundle.initS Bundle.tN)]) (by decide +kernel) (vx_c (KK_nest hK (i := 15) rfl rfl) (vx_c (KK_nest hK (i := 17) rfl rfl) (vx_c (KK_nest hK (i := 18) rfl rfl) (vx_c (KK_nest hK (i := 19) rfl rfl) vx_n))))) (by decide +kernel) hZ.1 hZ.2 hS (hl.1.trans hcf.2.2.1.symm) dX9_requireArgument_4 dX9_requireArgument_7 dX9_requireArgument_8 dX9_requireArgument_11 dX9_requireArgument_14 (fun x hx9 => (hxt x hx9).elim) (by decide) (Nat.le_of_ble_eq_true rfl) (Nat.le_of_ble_eq_true rfl) (Nat.le_of_ble_eq_true rfl) hlk (fun t _ hz hk => ⟨⟨by decide, rfl⟩, fun k q h => by simp at h, ⟨fun i j p q h => by simp at h, fun k q h => by simp at h⟩, hz, fun q h1 _ => hk q h1⟩) (fun z hz => by cases hz) (Nat.le_refl _) (Nat.le_refl _)
def rm_X9_requireState : Room := { frames := 6, cells := 1, slots := 6, locals := 100 }
set_option maxHeartbeats 4000000 in
set_option maxRecDepth 100000 in
theorem c_X9_requireState (l : Launch) (hst : l.stackTraces = false) (D : va_G) (cC cI cJ cZ cO : ClassId) (p0 : Int32) (out : Nat) (hf : f_TR_requireState p0 = some out) : XCon l yX9_requireState wsX9_requireState rm_X9_requireState D (tyA cC cI cJ cZ cO) [.int p0] [] out none [] 1 6 := by
  refine xc_of (own := RX9) (cc := cX9_requireState) (maxL := 1) (ret := none) (by decide) rfl rfl (Nat.le_of_ble_eq_true rfl) ?_
  intro p e s m args below meth c ls A hx hb hr hxt hlk hts hown hcf hP hK hD hZ hA hS hl
  have hl : lv_has ls 1 [(0, .int p0)] := hl
  have e_out := Option.some.inj hf
  refine lv_iload_n hx hb dX9_requireState_0 rfl (lv_at hl 0 rfl) ?_
  refine lv_if_ne (tgt := 15) hx hb dX9_requireState_1 (by decide) (fun c0 => ?_) (fun c0 => ?_)
  · rw [if_neg c0] at e_out
    subst e_out
    exact W.widen (Nat.zero_le _) (Nat.zero_le _) (vx_ret (W.vret hx hb hr (fun t ht _ => ⟨rfl, rfl, by rw [ht]; exact hP, hD, hS.F ht⟩) hS.2.2 dX9_requireState_15 hlk))
  · rw [if_pos c0] at e_out
    subst e_out
    obtain ⟨sa, hsa⟩ := hK.2.2.1 (309, "the state does not allow this call") (List.mem_of_getElem? (i := 2) rfl)
    refine vx_throwSW (own := RX9) (cls := exN 3) (names := ["java/lang/RuntimeException", "java/lang/Exception"]) (ic := 311) hx hb hst hown (by decide +kernel) (by decide +kernel) (hts _ (List.mem_of_getElem? (i := 1) rfl)) (hts _ (List.mem_of_getElem? (i := 2) rfl)) hsa (vx_hat (fun w h => hts w (List.mem_cons_of_mem _ (List.mem_append_right _ h))) (B := [.castable (exN 3) (exN 3), .declares (Bundle.initS "java/lang/RuntimeException"), .declares (Bundle.initS "java/lang/Exception"), .declares (Bundle.initS Bundle.tN)]) (by decide +kernel) (vx_c (KK_nest hK (i := 16) rfl rfl) (vx_c (KK_nest hK (i := 17) rfl rfl) (vx_c (KK_nest hK (i := 18) rfl rfl) (vx_c (KK_nest hK (i := 19) rfl rfl) vx_n))))) (by decide +kernel) hZ.1 hZ.2 hS (hl.1.trans hcf.2.2.1.symm) dX9_requireState_4 dX9_requireState_7 dX9_requireState_8 dX9_requireState_11 dX9_requireState_14 (fun x hx9 => (hxt x hx9).elim) (by decide) (Nat.le_of_ble_eq_true rfl) (Nat.le_of_ble_eq_true rfl) (Nat.le_of_ble_eq_true rfl) hlk (fun t _ hz hk => ⟨⟨by decide, rfl⟩, fun k q h => by simp at h, ⟨fun i j p q h => by simp at h, fun k q h => by simp at h⟩, hz, fun q h1 _ => hk q h1⟩) (fun z hz => by cases hz) (Nat.le_refl _) (Nat.le_refl _)

