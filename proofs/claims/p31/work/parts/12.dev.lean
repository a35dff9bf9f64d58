def rm_X0_count : Room := { frames := 0, cells := 0, slots := 0, locals := 0 }
set_option maxHeartbeats 4000000 in
set_option maxRecDepth 100000 in
theorem c_X0_count (l : Launch) (D : va_G) (cC cI cJ cZ cO : ClassId) (t : Nat) (t_houses : Nat) (t_codes : Nat) (t_tolerances : Nat) (houses : Nat → Int32) (codes : Nat → Int32) (tolerances : Nat → Int32) (count : Int32) (on : Int32) (out : Int32)
    (hf : f_Dev_count count = some out) : PCon l yX0_count wsX0_count rm_X0_count D (tyA cC cI cJ cZ cO) [.ref t] [(t, .inr (0, [.ref t_houses, .ref t_codes, .ref t_tolerances, .int count, .int on])), (t_houses, .inl (cI, 6, .inl houses)), (t_codes, .inl (cI, 6, .inl codes)), (t_tolerances, .inl (cI, 6, .inl tolerances))] (.int out) := by
  have iX0 : ∀ w ∈ wsX00, w ∈ wsX0_count := (fun _ h => List.mem_cons_of_mem _ (List.mem_append_right _ h))
  refine pc_I (own := RX0) (cc := cX0_count) (maxL := 1) (by decide) rfl rfl (Nat.le_of_ble_eq_true rfl) ?_
  intro p e s m args below meth c ls Q hx hb hts hown hcf hP hK hl hret
  have hl : lv_has ls 1 [(0, .ref t)] := hl
  refine lv_aload_n hx hb dX0_count_0 rfl (lv_at hl 0 rfl) ?_
  refine va_get (D := D) (ci := 0) (v := .int count) (C := RX0) (T := TX0) (N := 5) hx hb hts iX0 hown hK.1 hP 0 rfl rfl 3 (by decide) (hts (.fieldLink RX0 21 "TaughtRemotes$Devices" "count" "I") (List.mem_of_getElem? (i := 1) rfl)) (fun _ h9 => h9) rfl dX0_count_1 ?_
  have e_out := Option.some.inj hf
  subst e_out
  exact hret _ _ dX0_count_4
def rm_X0_on : Room := { frames := 0, cells := 0, slots := 0, locals := 0 }
set_option maxHeartbeats 4000000 in
set_option maxRecDepth 100000 in
theorem c_X0_on (l : Launch) (D : va_G) (cC cI cJ cZ cO : ClassId) (t : Nat) (t_houses : Nat) (t_codes : Nat) (t_tolerances : Nat) (houses : Nat → Int32) (codes : Nat → Int32) (tolerances : Nat → Int32) (count : Int32) (on : Int32) (out : Int32)
    (hf : f_Dev_on on = some out) : PCon l yX0_on wsX0_on rm_X0_on D (tyA cC cI cJ cZ cO) [.ref t] [(t, .inr (0, [.ref t_houses, .ref t_codes, .ref t_tolerances, .int count, .int on])), (t_houses, .inl (cI, 6, .inl houses)), (t_codes, .inl (cI, 6, .inl codes)), (t_tolerances, .inl (cI, 6, .inl tolerances))] (.int out) := by
  have iX0 : ∀ w ∈ wsX00, w ∈ wsX0_on := (fun _ h => List.mem_cons_of_mem _ (List.mem_append_right _ h))
  refine pc_I (own := RX0) (cc := cX0_on) (maxL := 1) (by decide) rfl rfl (Nat.le_of_ble_eq_true rfl) ?_
  intro p e s m args below meth c ls Q hx hb hts hown hcf hP hK hl hret
  have hl : lv_has ls 1 [(0, .ref t)] := hl
  refine lv_aload_n hx hb dX0_on_0 rfl (lv_at hl 0 rfl) ?_
  refine va_get (D := D) (ci := 0) (v := .int on) (C := RX0) (T := TX0) (N := 5) hx hb hts iX0 hown hK.1 hP 0 rfl rfl 4 (by decide) (hts (.fieldLink RX0 25 "TaughtRemotes$Devices" "on" "I") (List.mem_of_getElem? (i := 1) rfl)) (fun _ h9 => h9) rfl dX0_on_1 ?_
  have e_out := Option.some.inj hf
  subst e_out
  exact hret _ _ dX0_on_4
def rm_X0_has : Room := { frames := 0, cells := 0, slots := 0, locals := 0 }
set_option maxHeartbeats 4000000 in
set_option maxRecDepth 100000 in
theorem c_X0_has (l : Launch) (D : va_G) (cC cI cJ cZ cO : ClassId) (t : Nat) (t_houses : Nat) (t_codes : Nat) (t_tolerances : Nat) (houses : Nat → Int32) (codes : Nat → Int32) (tolerances : Nat → Int32) (count : Int32) (on : Int32) (p0 : Int32) (out : Int32)
    (hf : f_Dev_has count p0 = some out) : PCon l yX0_has wsX0_has rm_X0_has D (tyA cC cI cJ cZ cO) [.ref t, .int p0] [(t, .inr (0, [.ref t_houses, .ref t_codes, .ref t_tolerances, .int count, .int on])), (t_houses, .inl (cI, 6, .inl houses)), (t_codes, .inl (cI, 6, .inl codes)), (t_tolerances, .inl (cI, 6, .inl tolerances))] (.int out) := by
  have iX0 : ∀ w ∈ wsX00, w ∈ wsX0_has := (fun _ h => List.mem_cons_of_mem _ (List.mem_append_right _ h))
  refine pc_Z (own := RX0) (cc := cX0_has) (maxL := 2) (by decide) rfl rfl (Nat.le_of_ble_eq_true rfl) ?_
  intro p e s m args below meth c ls Q hx hb hts hown hcf hP hK hl hret
  have hl : lv_has ls 2 [(0, .ref t), (1, .int p0)] := hl
  refine lv_iload_n hx hb dX0_has_0 rfl (lv_at hl 1 rfl) ?_
  refine lv_if_lt (tgt := 22) hx hb dX0_has_1 (by decide) (fun c_1 => ?_) (fun c_1 => ?_)
  · have hf := ite_t c_1 hf
    refine lv_iconst (v := 0) hx hb dX0_has_22 (by decide) ?_
    have e_out := Option.some.inj hf
    subst e_out
    exact hret _ _ dX0_has_23 (nar01 (Or.inl rfl))
  · have hf := ite_f c_1 hf
    refine lv_iload_n hx hb dX0_has_4 rfl (lv_at hl 1 rfl) ?_
    refine lv_aload_n hx hb dX0_has_5 rfl (lv_at hl 0 rfl) ?_
    refine va_get (D := D) (ci := 0) (v := .int count) (C := RX0) (T := TX0) (N := 5) hx hb hts iX0 hown hK.1 hP 0 rfl rfl 3 (by decide) (hts (.fieldLink RX0 21 "TaughtRemotes$Devices" "count" "I") (List.mem_of_getElem? (i := 1) rfl)) (fun _ h9 => h9) rfl dX0_has_6 ?_
    refine lv_icmp_ge (tgt := 22) hx hb dX0_has_9 (by decide) (fun c_9 => ?_) (fun c_9 => ?_)
    · have hf := ite_t c_9 hf
      refine lv_iconst (v := 0) hx hb dX0_has_22 (by decide) ?_
      have e_out := Option.some.inj hf
      subst e_out
      exact hret _ _ dX0_has_23 (nar01 (Or.inl rfl))
    · have hf := ite_f c_9 hf
      refine lv_iload_n hx hb dX0_has_12 rfl (lv_at hl 1 rfl) ?_
      refine lv_bipush (v := 6) hx hb dX0_has_13 (by decide) ?_
      refine lv_icmp_ge (tgt := 22) hx hb dX0_has_15 (by decide) (fun c_15 => ?_) (fun c_15 => ?_)
      · have hf := ite_t c_15 hf
        refine lv_iconst (v := 0) hx hb dX0_has_22 (by decide) ?_
        have e_out := Option.some.inj hf
        subst e_out
        exact hret _ _ dX0_has_23 (nar01 (Or.inl rfl))
      · have hf := ite_f c_15 hf
        refine lv_iconst (v := 1) hx hb dX0_has_18 (by decide) ?_
        refine lv_goto (tgt := 23) hx hb dX0_has_19 (by decide) ?_
        have e_out := Option.some.inj hf
        subst e_out
        exact hret _ _ dX0_has_23 (nar01 (Or.inr rfl))
def rm_X0_hasRoom : Room := { frames := 0, cells := 0, slots := 0, locals := 0 }
set_option maxHeartbeats 4000000 in
set_option maxRecDepth 100000 in
theorem c_X0_hasRoom (l : Launch) (D : va_G) (cC cI cJ cZ cO : ClassId) (t : Nat) (t_houses : Nat) (t_codes : Nat) (t_tolerances : Nat) (houses : Nat → Int32) (codes : Nat → Int32) (tolerances : Nat → Int32) (count : Int32) (on : Int32) (out : Int32)
    (hf : f_Dev_hasRoom count = some out) : PCon l yX0_hasRoom wsX0_hasRoom rm_X0_hasRoom D (tyA cC cI cJ cZ cO) [.ref t] [(t, .inr (0, [.ref t_houses, .ref t_codes, .ref t_tolerances, .int count, .int on])), (t_houses, .inl (cI, 6, .inl houses)), (t_codes, .inl (cI, 6, .inl codes)), (t_tolerances, .inl (cI, 6, .inl tolerances))] (.int out) := by
  have iX0 : ∀ w ∈ wsX00, w ∈ wsX0_hasRoom := (fun _ h => List.mem_cons_of_mem _ (List.mem_append_right _ h))
  refine pc_Z (own := RX0) (cc := cX0_hasRoom) (maxL := 1) (by decide) rfl rfl (Nat.le_of_ble_eq_true rfl) ?_
  intro p e s m args below meth c ls Q hx hb hts hown hcf hP hK hl hret
  have hl : lv_has ls 1 [(0, .ref t)] := hl
  refine lv_aload_n hx hb dX0_hasRoom_0 rfl (lv_at hl 0 rfl) ?_
  refine va_get (D := D) (ci := 0) (v := .int count) (C := RX0) (T := TX0) (N := 5) hx hb hts iX0 hown hK.1 hP 0 rfl rfl 3 (by decide) (hts (.fieldLink RX0 21 "TaughtRemotes$Devices" "count" "I") (List.mem_of_getElem? (i := 1) rfl)) (fun _ h9 => h9) rfl dX0_hasRoom_1 ?_
  refine lv_if_lt (tgt := 20) hx hb dX0_hasRoom_4 (by decide) (fun c_4 => ?_) (fun c_4 => ?_)
  · have hf := ite_t c_4 hf
    refine lv_iconst (v := 0) hx hb dX0_hasRoom_20 (by decide) ?_
    have e_out := Option.some.inj hf
    subst e_out
    exact hret _ _ dX0_hasRoom_21 (nar01 (Or.inl rfl))
  · have hf := ite_f c_4 hf
    refine lv_aload_n hx hb dX0_hasRoom_7 rfl (lv_at hl 0 rfl) ?_
    refine va_get (D := D) (ci := 0) (v := .int count) (C := RX0) (T := TX0) (N := 5) hx hb hts iX0 hown hK.1 hP 0 rfl rfl 3 (by decide) (hts (.fieldLink RX0 21 "TaughtRemotes$Devices" "count" "I") (List.mem_of_getElem? (i := 1) rfl)) (fun _ h9 => h9) rfl dX0_hasRoom_8 ?_
    refine lv_bipush (v := 6) hx hb dX0_hasRoom_11 (by decide) ?_
    refine lv_icmp_ge (tgt := 20) hx hb dX0_hasRoom_13 (by decide) (fun c_13 => ?_) (fun c_13 => ?_)
    · have hf := ite_t c_13 hf
      refine lv_iconst (v := 0) hx hb dX0_hasRoom_20 (by decide) ?_
      have e_out := Option.some.inj hf
      subst e_out
      exact hret _ _ dX0_hasRoom_21 (nar01 (Or.inl rfl))
    · have hf := ite_f c_13 hf
      refine lv_iconst (v := 1) hx hb dX0_hasRoom_16 (by decide) ?_
      refine lv_goto (tgt := 21) hx hb dX0_hasRoom_17 (by decide) ?_
      have e_out := Option.some.inj hf
      subst e_out
      exact hret _ _ dX0_hasRoom_21 (nar01 (Or.inr rfl))
def rm_X0_clear : Room := { frames := 0, cells := 0, slots := 0, locals := 0 }
set_option maxHeartbeats 4000000 in
set_option maxRecDepth 100000 in
theorem c_X0_clear (l : Launch) (D : va_G) (cC cI cJ cZ cO : ClassId) (t : Nat) (t_houses : Nat) (t_codes : Nat) (t_tolerances : Nat) (houses : Nat → Int32) (codes : Nat → Int32) (tolerances : Nat → Int32) (count : Int32) (on : Int32) (out : Int32 × Int32)
    (hf : f_Dev_clear count on = some out) : WCon l yX0_clear wsX0_clear rm_X0_clear D (tyA cC cI cJ cZ cO) [.ref t] [(t, .inr (0, [.ref t_houses, .ref t_codes, .ref t_tolerances, .int count, .int on])), (t_houses, .inl (cI, 6, .inl houses)), (t_codes, .inl (cI, 6, .inl codes)), (t_tolerances, .inl (cI, 6, .inl tolerances))] none [(t, .inr (0, [.ref t_houses, .ref t_codes, .ref t_tolerances, .int out.1, .int out.2])), (t_houses, .inl (cI, 6, .inl houses)), (t_codes, .inl (cI, 6, .inl codes)), (t_tolerances, .inl (cI, 6, .inl tolerances))] 0 0 := by
  have iX0 : ∀ w ∈ wsX00, w ∈ wsX0_clear := (fun _ h => List.mem_cons_of_mem _ (List.mem_append_right _ h))
  refine wc_V (own := RX0) (cc := cX0_clear) (maxL := 1) (by decide) rfl rfl (Nat.le_of_ble_eq_true rfl) ?_
  intro p e s m args below meth c ls A Q hx hb hts hown hcf hP hK hD hA hS hl hret
  have hl : lv_has ls 1 [(0, .ref t)] := hl
  refine lv_aload_n hx hb dX0_clear_0 rfl (lv_at hl 0 rfl) ?_
  refine lv_iconst (v := 0) hx hb dX0_clear_1 (by decide) ?_
  refine va_put (D := D) (ci := 0) (v := .int 0) (ty := .int) (C := RX0) (T := TX0) (N := 5) hx hb hts iX0 tyX0 tyX0_ok nmX0 hown hK.1 hP hD hS 0 rfl rfl 3 (by decide) (hts (.fieldLink RX0 21 "TaughtRemotes$Devices" "count" "I") (List.mem_of_getElem? (i := 1) rfl)) (fun _ h9 => h9) rfl (by decide +kernel) rfl rfl (Nat.le_of_ble_eq_true rfl) dX0_clear_2 (fun H locs (hP : va_P D vwCl [(t, .inr (0, [.ref t_houses, .ref t_codes, .ref t_tolerances, .int 0, .int on])), (t_houses, .inl (cI, 6, .inl houses)), (t_codes, .inl (cI, 6, .inl codes)), (t_tolerances, .inl (cI, 6, .inl tolerances))] H) (hD : va_D A [(t, .inr (0, [.ref t_houses, .ref t_codes, .ref t_tolerances, .int 0, .int on])), (t_houses, .inl (cI, 6, .inl houses)), (t_codes, .inl (cI, 6, .inl codes)), (t_tolerances, .inl (cI, 6, .inl tolerances))]) hS => ?_)
  refine lv_aload_n hx hb dX0_clear_5 rfl (lv_at hl 0 rfl) ?_
  refine lv_iconst (v := 0) hx hb dX0_clear_6 (by decide) ?_
  refine va_put (D := D) (ci := 0) (v := .int 0) (ty := .int) (C := RX0) (T := TX0) (N := 5) hx hb hts iX0 tyX0 tyX0_ok nmX0 hown hK.1 hP hD hS 0 rfl rfl 4 (by decide) (hts (.fieldLink RX0 25 "TaughtRemotes$Devices" "on" "I") (List.mem_of_getElem? (i := 2) rfl)) (fun _ h9 => h9) rfl (by decide +kernel) rfl rfl (Nat.le_of_ble_eq_true rfl) dX0_clear_7 (fun H locs (hP : va_P D vwCl [(t, .inr (0, [.ref t_houses, .ref t_codes, .ref t_tolerances, .int 0, .int 0])), (t_houses, .inl (cI, 6, .inl houses)), (t_codes, .inl (cI, 6, .inl codes)), (t_tolerances, .inl (cI, 6, .inl tolerances))] H) (hD : va_D A [(t, .inr (0, [.ref t_houses, .ref t_codes, .ref t_tolerances, .int 0, .int 0])), (t_houses, .inl (cI, 6, .inl houses)), (t_codes, .inl (cI, 6, .inl codes)), (t_tolerances, .inl (cI, 6, .inl tolerances))]) hS => ?_)
  have e_out := Option.some.inj hf
  subst e_out
  exact hret _ _ _ _ _ _ dX0_clear_10 (Nat.zero_le _) (Nat.zero_le _) hP hD hS
def rm_X0_copyFrom : Room := { frames := 1, cells := 0, slots := 0, locals := 60 }
set_option maxHeartbeats 4000000 in
set_option maxRecDepth 100000 in
theorem c_X0_copyFrom (l : Launch) (D : va_G) (cC cI cJ cZ cO : ClassId) (t : Nat) (t_houses : Nat) (t_codes : Nat) (t_tolerances : Nat) (a0 : Nat) (a0_houses : Nat) (a0_codes : Nat) (a0_tolerances : Nat) (houses : Nat → Int32) (codes : Nat → Int32) (tolerances : Nat → Int32) (count : Int32) (on : Int32) (b0_houses : Nat → Int32) (b0_codes : Nat → Int32) (b0_tolerances : Nat → Int32) (b0_count : Int32) (b0_on : Int32) (out : (Nat → Int32) × (Nat → Int32) × (Nat → Int32) × Int32 × Int32)
    (hf : f_Dev_copyFrom houses codes tolerances count on b0_houses b0_codes b0_tolerances b0_count b0_on = some out) : WCon l yX0_copyFrom wsX0_copyFrom rm_X0_copyFrom D (tyA cC cI cJ cZ cO) [.ref t, .ref a0] [(t, .inr (0, [.ref t_houses, .ref t_codes, .ref t_tolerances, .int count, .int on])), (t_houses, .inl (cI, 6, .inl houses)), (t_codes, .inl (cI, 6, .inl codes)), (t_tolerances, .inl (cI, 6, .inl tolerances)), (a0, .inr (0, [.ref a0_houses, .ref a0_codes, .ref a0_tolerances, .int b0_count, .int b0_on])), (a0_houses, .inl (cI, 6, .inl b0_houses)), (a0_codes, .inl (cI, 6, .inl b0_codes)), (a0_tolerances, .inl (cI, 6, .inl b0_tolerances))] none [(t, .inr (0, [.ref t_houses, .ref t_codes, .ref t_tolerances, .int out.2.2.2.1, .int out.2.2.2.2])), (t_houses, .inl (cI, 6, .inl out.1)), (t_codes, .inl (cI, 6, .inl out.2.1)), (t_tolerances, .inl (cI, 6, .inl out.2.2.1)), (a0, .inr (0, [.ref a0_houses, .ref a0_codes, .ref a0_tolerances, .int b0_count, .int b0_on])), (a0_houses, .inl (cI, 6, .inl b0_houses)), (a0_codes, .inl (cI, 6, .inl b0_codes)), (a0_tolerances, .inl (cI, 6, .inl b0_tolerances))] 0 0 := by
  have iX0 : ∀ w ∈ wsX00, w ∈ wsX0_copyFrom := (fun _ h => List.mem_cons_of_mem _ (List.mem_append_right _ h))
  refine wc_V (own := RX0) (cc := cX0_copyFrom) (maxL := 2) (by decide) rfl rfl (Nat.le_of_ble_eq_true rfl) ?_
  intro p e s m args below meth c ls A Q hx hb hts hown hcf hP hK hD hA hS hl hret
  have hl : lv_has ls 2 [(0, .ref t), (1, .ref a0)] := hl
  refine lv_aload_n hx hb dX0_copyFrom_0 rfl (lv_at hl 1 rfl) ?_
  refine va_get (D := D) (ci := 0) (v := .ref a0_houses) (C := RX0) (T := TX0) (N := 5) hx hb hts iX0 hown hK.1 hP 4 rfl rfl 0 (by decide) (hts (.fieldLink RX0 9 "TaughtRemotes$Devices" "houses" "[I") (List.mem_of_getElem? (i := 1) rfl)) (fun _ h9 => h9) rfl dX0_copyFrom_1 ?_
  refine lv_iconst (v := 0) hx hb dX0_copyFrom_4 (by decide) ?_
  refine lv_aload_n hx hb dX0_copyFrom_5 rfl (lv_at hl 0 rfl) ?_
  refine va_get (D := D) (ci := 0) (v := .ref t_houses) (C := RX0) (T := TX0) (N := 5) hx hb hts iX0 hown hK.1 hP 0 rfl rfl 0 (by decide) (hts (.fieldLink RX0 9 "TaughtRemotes$Devices" "houses" "[I") (List.mem_of_getElem? (i := 1) rfl)) (fun _ h9 => h9) rfl dX0_copyFrom_6 ?_
  refine lv_iconst (v := 0) hx hb dX0_copyFrom_9 (by decide) ?_
  refine lv_bipush (v := 6) hx hb dX0_copyFrom_10 (by decide) ?_
  refine va_copyi (rest := []) hx hb (hcf.2.2.1.trans hl.1.symm) hown (hts (.methodLink RX0 28 arraycopyName) (List.mem_of_getElem? (i := 2) rfl)) (hts (.native arraycopyName) (List.mem_of_getElem? (i := 3) rfl)) (hts (.static arraycopyName) (List.mem_of_getElem? (i := 4) rfl)) (hts (.initialized "java/lang/System") (List.mem_of_getElem? (i := 5) rfl)) hK.1 hP hD hS 5 1 1 1 rfl rfl rfl rfl rfl (by decide) (by decide) (by decide) (by decide) (by decide) (fun _ _ => rfl) (Nat.le_of_ble_eq_true rfl) (Nat.le_of_ble_eq_true rfl) dX0_copyFrom_12 (fun H locs (hP : va_P D vwCl [(t, .inr (0, [.ref t_houses, .ref t_codes, .ref t_tolerances, .int count, .int on])), (t_houses, .inl (cI, 6, .inl (va_cpy b0_houses houses 0 0 6))), (t_codes, .inl (cI, 6, .inl codes)), (t_tolerances, .inl (cI, 6, .inl tolerances)), (a0, .inr (0, [.ref a0_houses, .ref a0_codes, .ref a0_tolerances, .int b0_count, .int b0_on])), (a0_houses, .inl (cI, 6, .inl b0_houses)), (a0_codes, .inl (cI, 6, .inl b0_codes)), (a0_tolerances, .inl (cI, 6, .inl b0_tolerances))] H) (hD : va_D A [(t, .inr (0, [.ref t_houses, .ref t_codes, .ref t_tolerances, .int count, .int on])), (t_houses, .inl (cI, 6, .inl (va_cpy b0_houses houses 0 0 6))), (t_codes, .inl (cI, 6, .inl codes)), (t_tolerances, .inl (cI, 6, .inl tolerances)), (a0, .inr (0, [.ref a0_houses, .ref a0_codes, .ref a0_tolerances, .int b0_count, .int b0_on])), (a0_houses, .inl (cI, 6, .inl b0_houses)), (a0_codes, .inl (cI, 6, .inl b0_codes)), (a0_tolerances, .inl (cI, 6, .inl b0_tolerances))]) hS => ?_)
  refine lv_aload_n hx hb dX0_copyFrom_15 rfl (lv_at hl 1 rfl) ?_
  refine va_get (D := D) (ci := 0) (v := .ref a0_codes) (C := RX0) (T := TX0) (N := 5) hx hb hts iX0 hown hK.1 hP 4 rfl rfl 1 (by decide) (hts (.fieldLink RX0 15 "TaughtRemotes$Devices" "codes" "[I") (List.mem_of_getElem? (i := 6) rfl)) (fun _ h9 => h9) rfl dX0_copyFrom_16 ?_
  refine lv_iconst (v := 0) hx hb dX0_copyFrom_19 (by decide) ?_
  refine lv_aload_n hx hb dX0_copyFrom_20 rfl (lv_at hl 0 rfl) ?_
  refine va_get (D := D) (ci := 0) (v := .ref t_codes) (C := RX0) (T := TX0) (N := 5) hx hb hts iX0 hown hK.1 hP 0 rfl rfl 1 (by decide) (hts (.fieldLink RX0 15 "TaughtRemotes$Devices" "codes" "[I") (List.mem_of_getElem? (i := 6) rfl)) (fun _ h9 => h9) rfl dX0_copyFrom_21 ?_
  refine lv_iconst (v := 0) hx hb dX0_copyFrom_24 (by decide) ?_
  refine lv_bipush (v := 6) hx hb dX0_copyFrom_25 (by decide) ?_
  refine va_copyi (rest := []) hx hb (hcf.2.2.1.trans hl.1.symm) hown (hts (.methodLink RX0 28 arraycopyName) (List.mem_of_getElem? (i := 2) rfl)) (hts (.native arraycopyName) (List.mem_of_getElem? (i := 3) rfl)) (hts (.static arraycopyName) (List.mem_of_getElem? (i := 4) rfl)) (hts (.initialized "java/lang/System") (List.mem_of_getElem? (i := 5) rfl)) hK.1 hP hD hS 6 2 1 1 rfl rfl rfl rfl rfl (by decide) (by decide) (by decide) (by decide) (by decide) (fun _ _ => rfl) (Nat.le_of_ble_eq_true rfl) (Nat.le_of_ble_eq_true rfl) dX0_copyFrom_27 (fun H locs (hP : va_P D vwCl [(t, .inr (0, [.ref t_houses, .ref t_codes, .ref t_tolerances, .int count, .int on])), (t_houses, .inl (cI, 6, .inl (va_cpy b0_houses houses 0 0 6))), (t_codes, .inl (cI, 6, .inl (va_cpy b0_codes codes 0 0 6))), (t_tolerances, .inl (cI, 6, .inl tolerances)), (a0, .inr (0, [.ref a0_houses, .ref a0_codes, .ref a0_tolerances, .int b0_count, .int b0_on])), (a0_houses, .inl (cI, 6, .inl b0_houses)), (a0_codes, .inl (cI, 6, .inl b0_codes)), (a0_tolerances, .inl (cI, 6, .inl b0_tolerances))] H) (hD : va_D A [(t, .inr (0, [.ref t_houses, .ref t_codes, .ref t_tolerances, .int count, .int on])), (t_houses, .inl (cI, 6, .inl (va_cpy b0_houses houses 0 0 6))), (t_codes, .inl (cI, 6, .inl (va_cpy b0_codes codes 0 0 6))), (t_tolerances, .inl (cI, 6, .inl tolerances)), (a0, .inr (0, [.ref a0_houses, .ref a0_codes, .ref a0_tolerances, .int b0_count, .int b0_on])), (a0_houses, .inl (cI, 6, .inl b0_houses)), (a0_codes, .inl (cI, 6, .inl b0_codes)), (a0_tolerances, .inl (cI, 6, .inl b0_tolerances))]) hS => ?_)
  refine lv_aload_n hx hb dX0_copyFrom_30 rfl (lv_at hl 1 rfl) ?_
  refine va_get (D := D) (ci := 0) (v := .ref a0_tolerances) (C := RX0) (T := TX0) (N := 5) hx hb hts iX0 hown hK.1 hP 4 rfl rfl 2 (by decide) (hts (.fieldLink RX0 18 "TaughtRemotes$Devices" "tolerances" "[I") (List.mem_of_getElem? (i := 7) rfl)) (fun _ h9 => h9) rfl dX0_copyFrom_31 ?_
  refine lv_iconst (v := 0) hx hb dX0_copyFrom_34 (by decide) ?_
  refine lv_aload_n hx hb dX0_copyFrom_35 rfl (lv_at hl 0 rfl) ?_
  refine va_get (D := D) (ci := 0) (v := .ref t_tolerances) (C := RX0) (T := TX0) (N := 5) hx hb hts iX0 hown hK.1 hP 0 rfl rfl 2 (by decide) (hts (.fieldLink RX0 18 "TaughtRemotes$Devices" "tolerances" "[I") (List.mem_of_getElem? (i := 7) rfl)) (fun _ h9 => h9) rfl dX0_copyFrom_36 ?_
  refine lv_iconst (v := 0) hx hb dX0_copyFrom_39 (by decide) ?_
  refine lv_bipush (v := 6) hx hb dX0_copyFrom_40 (by decide) ?_
  refine va_copyi (rest := []) hx hb (hcf.2.2.1.trans hl.1.symm) hown (hts (.methodLink RX0 28 arraycopyName) (List.mem_of_getElem? (i := 2) rfl)) (hts (.native arraycopyName) (List.mem_of_getElem? (i := 3) rfl)) (hts (.static arraycopyName) (List.mem_of_getElem? (i := 4) rfl)) (hts (.initialized "java/lang/System") (List.mem_of_getElem? (i := 5) rfl)) hK.1 hP hD hS 7 3 1 1 rfl rfl rfl rfl rfl (by decide) (by decide) (by decide) (by decide) (by decide) (fun _ _ => rfl) (Nat.le_of_ble_eq_true rfl) (Nat.le_of_ble_eq_true rfl) dX0_copyFrom_42 (fun H locs (hP : va_P D vwCl [(t, .inr (0, [.ref t_houses, .ref t_codes, .ref t_tolerances, .int count, .int on])), (t_houses, .inl (cI, 6, .inl (va_cpy b0_houses houses 0 0 6))), (t_codes, .inl (cI, 6, .inl (va_cpy b0_codes codes 0 0 6))), (t_tolerances, .inl (cI, 6, .inl (va_cpy b0_tolerances tolerances 0 0 6))), (a0, .inr (0, [.ref a0_houses, .ref a0_codes, .ref a0_tolerances, .int b0_count, .int b0_on])), (a0_houses, .inl (cI, 6, .inl b0_houses)), (a0_codes, .inl (cI, 6, .inl b0_codes)), (a0_tolerances, .inl (cI, 6, .inl b0_tolerances))] H) (hD : va_D A [(t, .inr (0, [.ref t_houses, .ref t_codes, .ref t_tolerances, .int count, .int on])), (t_houses, .inl (cI, 6, .inl (va_cpy b0_houses houses 0 0 6))), (t_codes, .inl (cI, 6, .inl (va_cpy b0_codes codes 0 0 6))), (t_tolerances, .inl (cI, 6, .inl (va_cpy b0_tolerances tolerances 0 0 6))), (a0, .inr (0, [.ref a0_houses, .ref a0_codes, .ref a0_tolerances, .int b0_count, .int b0_on])), (a0_houses, .inl (cI, 6, .inl b0_houses)), (a0_codes, .inl (cI, 6, .inl b0_codes)), (a0_tolerances, .inl (cI, 6, .inl b0_tolerances))]) hS => ?_)
  refine lv_aload_n hx hb dX0_copyFrom_45 rfl (lv_at hl 0 rfl) ?_
  refine lv_aload_n hx hb dX0_copyFrom_46 rfl (lv_at hl 1 rfl) ?_
  refine va_get (D := D) (ci := 0) (v := .int b0_count) (C := RX0) (T := TX0) (N := 5) hx hb hts iX0 hown hK.1 hP 4 rfl rfl 3 (by decide) (hts (.fieldLink RX0 21 "TaughtRemotes$Devices" "count" "I") (List.mem_of_getElem? (i := 8) rfl)) (fun _ h9 => h9) rfl dX0_copyFrom_47 ?_
  refine va_put (D := D) (ci := 0) (v := .int b0_count) (ty := .int) (C := RX0) (T := TX0) (N := 5) hx hb hts iX0 tyX0 tyX0_ok nmX0 hown hK.1 hP hD hS 0 rfl rfl 3 (by decide) (hts (.fieldLink RX0 21 "TaughtRemotes$Devices" "count" "I") (List.mem_of_getElem? (i := 8) rfl)) (fun _ h9 => h9) rfl (by decide +kernel) rfl rfl (Nat.le_of_ble_eq_true rfl) dX0_copyFrom_50 (fun H locs (hP : va_P D vwCl [(t, .inr (0, [.ref t_houses, .ref t_codes, .ref t_tolerances, .int b0_count, .int on])), (t_houses, .inl (cI, 6, .inl (va_cpy b0_houses houses 0 0 6))), (t_codes, .inl (cI, 6, .inl (va_cpy b0_codes codes 0 0 6))), (t_tolerances, .inl (cI, 6, .inl (va_cpy b0_tolerances tolerances 0 0 6))), (a0, .inr (0, [.ref a0_houses, .ref a0_codes, .ref a0_tolerances, .int b0_count, .int b0_on])), (a0_houses, .inl (cI, 6, .inl b0_houses)), (a0_codes, .inl (cI, 6, .inl b0_codes)), (a0_tolerances, .inl (cI, 6, .inl b0_tolerances))] H) (hD : va_D A [(t, .inr (0, [.ref t_houses, .ref t_codes, .ref t_tolerances, .int b0_count, .int on])), (t_houses, .inl (cI, 6, .inl (va_cpy b0_houses houses 0 0 6))), (t_codes, .inl (cI, 6, .inl (va_cpy b0_codes codes 0 0 6))), (t_tolerances, .inl (cI, 6, .inl (va_cpy b0_tolerances tolerances 0 0 6))), (a0, .inr (0, [.ref a0_houses, .ref a0_codes, .ref a0_tolerances, .int b0_count, .int b0_on])), (a0_houses, .inl (cI, 6, .inl b0_houses)), (a0_codes, .inl (cI, 6, .inl b0_codes)), (a0_tolerances, .inl (cI, 6, .inl b0_tolerances))]) hS => ?_)
  refine lv_aload_n hx hb dX0_copyFrom_53 rfl (lv_at hl 0 rfl) ?_
  refine lv_aload_n hx hb dX0_copyFrom_54 rfl (lv_at hl 1 rfl) ?_
  refine va_get (D := D) (ci := 0) (v := .int b0_on) (C := RX0) (T := TX0) (N := 5) hx hb hts iX0 hown hK.1 hP 4 rfl rfl 4 (by decide) (hts (.fieldLink RX0 25 "TaughtRemotes$Devices" "on" "I") (List.mem_of_getElem? (i := 9) rfl)) (fun _ h9 => h9) rfl dX0_copyFrom_55 ?_
  refine va_put (D := D) (ci := 0) (v := .int b0_on) (ty := .int) (C := RX0) (T := TX0) (N := 5) hx hb hts iX0 tyX0 tyX0_ok nmX0 hown hK.1 hP hD hS 0 rfl rfl 4 (by decide) (hts (.fieldLink RX0 25 "TaughtRemotes$Devices" "on" "I") (List.mem_of_getElem? (i := 9) rfl)) (fun _ h9 => h9) rfl (by decide +kernel) rfl rfl (Nat.le_of_ble_eq_true rfl) dX0_copyFrom_58 (fun H locs (hP : va_P D vwCl [(t, .inr (0, [.ref t_houses, .ref t_codes, .ref t_tolerances, .int b0_count, .int b0_on])), (t_houses, .inl (cI, 6, .inl (va_cpy b0_houses houses 0 0 6))), (t_codes, .inl (cI, 6, .inl (va_cpy b0_codes codes 0 0 6))), (t_tolerances, .inl (cI, 6, .inl (va_cpy b0_tolerances tolerances 0 0 6))), (a0, .inr (0, [.ref a0_houses, .ref a0_codes, .ref a0_tolerances, .int b0_count, .int b0_on])), (a0_houses, .inl (cI, 6, .inl b0_houses)), (a0_codes, .inl (cI, 6, .inl b0_codes)), (a0_tolerances, .inl (cI, 6, .inl b0_tolerances))] H) (hD : va_D A [(t, .inr (0, [.ref t_houses, .ref t_codes, .ref t_tolerances, .int b0_count, .int b0_on])), (t_houses, .inl (cI, 6, .inl (va_cpy b0_houses houses 0 0 6))), (t_codes, .inl (cI, 6, .inl (va_cpy b0_codes codes 0 0 6))), (t_tolerances, .inl (cI, 6, .inl (va_cpy b0_tolerances tolerances 0 0 6))), (a0, .inr (0, [.ref a0_houses, .ref a0_codes, .ref a0_tolerances, .int b0_count, .int b0_on])), (a0_houses, .inl (cI, 6, .inl b0_houses)), (a0_codes, .inl (cI, 6, .inl b0_codes)), (a0_tolerances, .inl (cI, 6, .inl b0_tolerances))]) hS => ?_)
  have e_out := Option.some.inj hf
  subst e_out
  exact hret _ _ _ _ _ _ dX0_copyFrom_61 (Nat.zero_le _) (Nat.zero_le _) hP hD hS
def rm_X0_add : Room := { frames := 1, cells := 0, slots := 0, locals := 20 }
set_option maxHeartbeats 4000000 in
set_option maxRecDepth 100000 in
theorem c_X0_add (l : Launch) (D : va_G) (cC cI cJ cZ cO : ClassId) (t : Nat) (t_houses : Nat) (t_codes : Nat) (t_tolerances : Nat) (houses : Nat → Int32) (codes : Nat → Int32) (tolerances : Nat → Int32) (count : Int32) (on : Int32) (p0 : Int32) (p1 : Int32) (p2 : Int32) (out : Int32 × (Nat → Int32) × (Nat → Int32) × (Nat → Int32) × Int32)
    (hf : f_Dev_add houses codes tolerances count p0 p1 p2 = some out) : WCon l yX0_add wsX0_add rm_X0_add D (tyA cC cI cJ cZ cO) [.ref t, .int p0, .int p1, .int p2] [(t, .inr (0, [.ref t_houses, .ref t_codes, .ref t_tolerances, .int count, .int on])), (t_houses, .inl (cI, 6, .inl houses)), (t_codes, .inl (cI, 6, .inl codes)), (t_tolerances, .inl (cI, 6, .inl tolerances))] (some (.int out.1)) [(t, .inr (0, [.ref t_houses, .ref t_codes, .ref t_tolerances, .int out.2.2.2.2, .int on])), (t_houses, .inl (cI, 6, .inl out.2.1)), (t_codes, .inl (cI, 6, .inl out.2.2.1)), (t_tolerances, .inl (cI, 6, .inl out.2.2.2.1))] 0 0 := by
  have iX0 : ∀ w ∈ wsX00, w ∈ wsX0_add := (fun _ h => List.mem_cons_of_mem _ (List.mem_append_right _ h))
  refine wc_I (own := RX0) (cc := cX0_add) (maxL := 5) (by decide) rfl rfl (Nat.le_of_ble_eq_true rfl) ?_
  intro p e s m args below meth c ls A Q hx hb hts hown hcf hP hK hD hA hS hl hret
  have hl : lv_has ls 5 [(0, .ref t), (1, .int p0), (2, .int p1), (3, .int p2)] := hl
  refine lv_aload_n hx hb dX0_add_0 rfl (lv_at hl 0 rfl) ?_
  obtain ⟨o_1, h_1, hf⟩ := cal_e hf
  refine pcV (n := 0) [] [] [0, 1, 2, 3] 0 0 hcf (c_X0_hasRoom l D cC cI cJ cZ cO t t_houses t_codes t_tolerances houses codes tolerances count on o_1 h_1) gX0_add_X0_hasRoom rfl (by decide +kernel) ⟨rfl, rfl⟩ ⟨Nat.le_of_ble_eq_true rfl, Nat.le_of_ble_eq_true rfl⟩ ⟨Nat.le_of_ble_eq_true rfl, Nat.le_of_ble_eq_true rfl⟩ hK hP rfl rfl rfl rfl rfl hl.1 rfl (Nat.le_of_ble_eq_true rfl) dX0_add_1 ?_
  refine lv_if_ne (tgt := 10) hx hb dX0_add_4 (by decide) (fun c_4 => ?_) (fun c_4 => ?_)
  · have hf := ite_t c_4 hf
    refine lv_aload_n hx hb dX0_add_10 rfl (lv_at hl 0 rfl) ?_
    refine va_get (D := D) (ci := 0) (v := .int count) (C := RX0) (T := TX0) (N := 5) hx hb hts iX0 hown hK.1 hP 0 rfl rfl 3 (by decide) (hts (.fieldLink RX0 21 "TaughtRemotes$Devices" "count" "I") (List.mem_of_getElem? (i := 1) rfl)) (fun _ h9 => h9) rfl dX0_add_11 ?_
    refine lv_istore (lv' := [(4, .int count), (0, .ref t), (1, .int p0), (2, .int p1), (3, .int p2)]) hx hb dX0_add_14 hl (by decide) rfl (fun ls hl => ?_)
    refine lv_aload_n hx hb dX0_add_16 rfl (lv_at hl 1 rfl) ?_
    refine va_get (D := D) (ci := 0) (v := .ref t_houses) (C := RX0) (T := TX0) (N := 5) hx hb hts iX0 hown hK.1 hP 0 rfl rfl 0 (by decide) (hts (.fieldLink RX0 9 "TaughtRemotes$Devices" "houses" "[I") (List.mem_of_getElem? (i := 2) rfl)) (fun _ h9 => h9) rfl dX0_add_17 ?_
    refine lv_iload hx hb dX0_add_20 (lv_at hl 0 rfl) ?_
    refine lv_iload_n hx hb dX0_add_22 rfl (lv_at hl 2 rfl) ?_
    obtain ⟨b_23, hf⟩ := gd_e hf
    refine r_iast hx hb hK hP hD hS 1 1 rfl rfl rfl (vin b_23) dX0_add_23 (fun H locs (hP : va_P D vwCl [(t, .inr (0, [.ref t_houses, .ref t_codes, .ref t_tolerances, .int count, .int on])), (t_houses, .inl (cI, 6, .inl (upd houses (count).toNatClampNeg p0))), (t_codes, .inl (cI, 6, .inl codes)), (t_tolerances, .inl (cI, 6, .inl tolerances))] H) (hD : va_D A [(t, .inr (0, [.ref t_houses, .ref t_codes, .ref t_tolerances, .int count, .int on])), (t_houses, .inl (cI, 6, .inl (upd houses (count).toNatClampNeg p0))), (t_codes, .inl (cI, 6, .inl codes)), (t_tolerances, .inl (cI, 6, .inl tolerances))]) hS => ?_)
    refine lv_aload_n hx hb dX0_add_24 rfl (lv_at hl 1 rfl) ?_
    refine va_get (D := D) (ci := 0) (v := .ref t_codes) (C := RX0) (T := TX0) (N := 5) hx hb hts iX0 hown hK.1 hP 0 rfl rfl 1 (by decide) (hts (.fieldLink RX0 15 "TaughtRemotes$Devices" "codes" "[I") (List.mem_of_getElem? (i := 3) rfl)) (fun _ h9 => h9) rfl dX0_add_25 ?_
    refine lv_iload hx hb dX0_add_28 (lv_at hl 0 rfl) ?_
    refine lv_iload_n hx hb dX0_add_30 rfl (lv_at hl 3 rfl) ?_
    refine r_iast hx hb hK hP hD hS 2 1 rfl rfl rfl (vin b_23) dX0_add_31 (fun H locs (hP : va_P D vwCl [(t, .inr (0, [.ref t_houses, .ref t_codes, .ref t_tolerances, .int count, .int on])), (t_houses, .inl (cI, 6, .inl (upd houses (count).toNatClampNeg p0))), (t_codes, .inl (cI, 6, .inl (upd codes (count).toNatClampNeg p1))), (t_tolerances, .inl (cI, 6, .inl tolerances))] H) (hD : va_D A [(t, .inr (0, [.ref t_houses, .ref t_codes, .ref t_tolerances, .int count, .int on])), (t_houses, .inl (cI, 6, .inl (upd houses (count).toNatClampNeg p0))), (t_codes, .inl (cI, 6, .inl (upd codes (count).toNatClampNeg p1))), (t_tolerances, .inl (cI, 6, .inl tolerances))]) hS => ?_)
    refine lv_aload_n hx hb dX0_add_32 rfl (lv_at hl 1 rfl) ?_
    refine va_get (D := D) (ci := 0) (v := .ref t_tolerances) (C := RX0) (T := TX0) (N := 5) hx hb hts iX0 hown hK.1 hP 0 rfl rfl 2 (by decide) (hts (.fieldLink RX0 18 "TaughtRemotes$Devices" "tolerances" "[I") (List.mem_of_getElem? (i := 4) rfl)) (fun _ h9 => h9) rfl dX0_add_33 ?_
    refine lv_iload hx hb dX0_add_36 (lv_at hl 0 rfl) ?_
    refine lv_iload_n hx hb dX0_add_38 rfl (lv_at hl 4 rfl) ?_
    refine r_iast hx hb hK hP hD hS 3 1 rfl rfl rfl (vin b_23) dX0_add_39 (fun H locs (hP : va_P D vwCl [(t, .inr (0, [.ref t_houses, .ref t_codes, .ref t_tolerances, .int count, .int on])), (t_houses, .inl (cI, 6, .inl (upd houses (count).toNatClampNeg p0))), (t_codes, .inl (cI, 6, .inl (upd codes (count).toNatClampNeg p1))), (t_tolerances, .inl (cI, 6, .inl (upd tolerances (count).toNatClampNeg p2)))] H) (hD : va_D A [(t, .inr (0, [.ref t_houses, .ref t_codes, .ref t_tolerances, .int count, .int on])), (t_houses, .inl (cI, 6, .inl (upd houses (count).toNatClampNeg p0))), (t_codes, .inl (cI, 6, .inl (upd codes (count).toNatClampNeg p1))), (t_tolerances, .inl (cI, 6, .inl (upd tolerances (count).toNatClampNeg p2)))]) hS => ?_)
    refine lv_aload_n hx hb dX0_add_40 rfl (lv_at hl 1 rfl) ?_
    refine lv_dup hx hb dX0_add_41 rfl ?_
    refine va_get (D := D) (ci := 0) (v := .int count) (C := RX0) (T := TX0) (N := 5) hx hb hts iX0 hown hK.1 hP 0 rfl rfl 3 (by decide) (hts (.fieldLink RX0 21 "TaughtRemotes$Devices" "count" "I") (List.mem_of_getElem? (i := 1) rfl)) (fun _ h9 => h9) rfl dX0_add_42 ?_
    refine lv_iconst (v := 1) hx hb dX0_add_45 (by decide) ?_
    refine lv_iadd hx hb dX0_add_46 ?_
    refine va_put (D := D) (ci := 0) (v := .int (count + 1)) (ty := .int) (C := RX0) (T := TX0) (N := 5) hx hb hts iX0 tyX0 tyX0_ok nmX0 hown hK.1 hP hD hS 0 rfl rfl 3 (by decide) (hts (.fieldLink RX0 21 "TaughtRemotes$Devices" "count" "I") (List.mem_of_getElem? (i := 1) rfl)) (fun _ h9 => h9) rfl (by decide +kernel) rfl rfl (Nat.le_of_ble_eq_true rfl) dX0_add_47 (fun H locs (hP : va_P D vwCl [(t, .inr (0, [.ref t_houses, .ref t_codes, .ref t_tolerances, .int (count + 1), .int on])), (t_houses, .inl (cI, 6, .inl (upd houses (count).toNatClampNeg p0))), (t_codes, .inl (cI, 6, .inl (upd codes (count).toNatClampNeg p1))), (t_tolerances, .inl (cI, 6, .inl (upd tolerances (count).toNatClampNeg p2)))] H) (hD : va_D A [(t, .inr (0, [.ref t_houses, .ref t_codes, .ref t_tolerances, .int (count + 1), .int on])), (t_houses, .inl (cI, 6, .inl (upd houses (count).toNatClampNeg p0))), (t_codes, .inl (cI, 6, .inl (upd codes (count).toNatClampNeg p1))), (t_tolerances, .inl (cI, 6, .inl (upd tolerances (count).toNatClampNeg p2)))]) hS => ?_)
    refine lv_iload hx hb dX0_add_50 (lv_at hl 0 rfl) ?_
    have e_out := Option.some.inj hf
    subst e_out
    exact hret _ _ _ _ _ _ dX0_add_52 (Nat.zero_le _) (Nat.zero_le _) hP hD hS
  · have hf := ite_f (not_not_intro c_4) hf
    refine lv_bipush (v := (-9)) hx hb dX0_add_7 (by decide) ?_
    have e_out := Option.some.inj hf
    subst e_out
    exact hret _ _ _ _ _ _ dX0_add_9 (Nat.zero_le _) (Nat.zero_le _) hP hD hS
def rm_X0_houseOf : Room := { frames := 1, cells := 0, slots := 0, locals := 21 }
set_option maxHeartbeats 4000000 in
set_option maxRecDepth 100000 in
theorem c_X0_houseOf (l : Launch) (D : va_G) (cC cI cJ cZ cO : ClassId) (t : Nat) (t_houses : Nat) (t_codes : Nat) (t_tolerances : Nat) (houses : Nat → Int32) (codes : Nat → Int32) (tolerances : Nat → Int32) (count : Int32) (on : Int32) (p0 : Int32) (out : Int32)
    (hf : f_Dev_houseOf houses count p0 = some out) : PCon l yX0_houseOf wsX0_houseOf rm_X0_houseOf D (tyA cC cI cJ cZ cO) [.ref t, .int p0] [(t, .inr (0, [.ref t_houses, .ref t_codes, .ref t_tolerances, .int count, .int on])), (t_houses, .inl (cI, 6, .inl houses)), (t_codes, .inl (cI, 6, .inl codes)), (t_tolerances, .inl (cI, 6, .inl tolerances))] (.int out) := by
  have iX0 : ∀ w ∈ wsX00, w ∈ wsX0_houseOf := (fun _ h => List.mem_cons_of_mem _ (List.mem_append_right _ h))
  refine pc_I (own := RX0) (cc := cX0_houseOf) (maxL := 2) (by decide) rfl rfl (Nat.le_of_ble_eq_true rfl) ?_
  intro p e s m args below meth c ls Q hx hb hts hown hcf hP hK hl hret
  have hl : lv_has ls 2 [(0, .ref t), (1, .int p0)] := hl
  refine lv_aload_n hx hb dX0_houseOf_0 rfl (lv_at hl 0 rfl) ?_
  refine lv_iload_n hx hb dX0_houseOf_1 rfl (lv_at hl 1 rfl) ?_
  obtain ⟨o_2, h_2, hf⟩ := cal_e hf
  refine pcV (n := 1) [.int p0] [] [0, 1, 2, 3] 0 0 hcf (c_X0_has l D cC cI cJ cZ cO t t_houses t_codes t_tolerances houses codes tolerances count on p0 o_2 h_2) gX0_houseOf_X0_has rfl (by decide +kernel) ⟨rfl, rfl⟩ ⟨Nat.le_of_ble_eq_true rfl, Nat.le_of_ble_eq_true rfl⟩ ⟨Nat.le_of_ble_eq_true rfl, Nat.le_of_ble_eq_true rfl⟩ hK hP rfl rfl rfl rfl rfl hl.1 rfl (Nat.le_of_ble_eq_true rfl) dX0_houseOf_2 ?_
  refine lv_if_eq (tgt := 17) hx hb dX0_houseOf_5 (by decide) (fun c_5 => ?_) (fun c_5 => ?_)
  · have hf := ite_t c_5 hf
    refine lv_bipush (v := (-9)) hx hb dX0_houseOf_17 (by decide) ?_
    have e_out := Option.some.inj hf
    subst e_out
    exact hret _ _ dX0_houseOf_19
  · have hf := ite_f c_5 hf
    refine lv_aload_n hx hb dX0_houseOf_8 rfl (lv_at hl 0 rfl) ?_
    refine va_get (D := D) (ci := 0) (v := .ref t_houses) (C := RX0) (T := TX0) (N := 5) hx hb hts iX0 hown hK.1 hP 0 rfl rfl 0 (by decide) (hts (.fieldLink RX0 9 "TaughtRemotes$Devices" "houses" "[I") (List.mem_of_getElem? (i := 1) rfl)) (fun _ h9 => h9) rfl dX0_houseOf_9 ?_
    refine lv_iload_n hx hb dX0_houseOf_12 rfl (lv_at hl 1 rfl) ?_
    obtain ⟨b_13, hf⟩ := gd_e hf
    refine r_iald hx hb hK hP 1 1 rfl rfl rfl (vin b_13) dX0_houseOf_13 ?_
    refine lv_goto (tgt := 19) hx hb dX0_houseOf_14 (by decide) ?_
    have e_out := Option.some.inj hf
    subst e_out
    exact hret _ _ dX0_houseOf_19
def rm_X0_codeOf : Room := { frames := 1, cells := 0, slots := 0, locals := 21 }
set_option maxHeartbeats 4000000 in
set_option maxRecDepth 100000 in
theorem c_X0_codeOf (l : Launch) (D : va_G) (cC cI cJ cZ cO : ClassId) (t : Nat) (t_houses : Nat) (t_codes : Nat) (t_tolerances : Nat) (houses : Nat → Int32) (codes : Nat → Int32) (tolerances : Nat → Int32) (count : Int32) (on : Int32) (p0 : Int32) (out : Int32)
    (hf : f_Dev_codeOf codes count p0 = some out) : PCon l yX0_codeOf wsX0_codeOf rm_X0_codeOf D (tyA cC cI cJ cZ cO) [.ref t, .int p0] [(t, .inr (0, [.ref t_houses, .ref t_codes, .ref t_tolerances, .int count, .int on])), (t_houses, .inl (cI, 6, .inl houses)), (t_codes, .inl (cI, 6, .inl codes)), (t_tolerances, .inl (cI, 6, .inl tolerances))] (.int out) := by
  have iX0 : ∀ w ∈ wsX00, w ∈ wsX0_codeOf := (fun _ h => List.mem_cons_of_mem _ (List.mem_append_right _ h))
  refine pc_I (own := RX0) (cc := cX0_codeOf) (maxL := 2) (by decide) rfl rfl (Nat.le_of_ble_eq_true rfl) ?_
  intro p e s m args below meth c ls Q hx hb hts hown hcf hP hK hl hret
  have hl : lv_has ls 2 [(0, .ref t), (1, .int p0)] := hl
  refine lv_aload_n hx hb dX0_codeOf_0 rfl (lv_at hl 0 rfl) ?_
  refine lv_iload_n hx hb dX0_codeOf_1 rfl (lv_at hl 1 rfl) ?_
  obtain ⟨o_2, h_2, hf⟩ := cal_e hf
  refine pcV (n := 1) [.int p0] [] [0, 1, 2, 3] 0 0 hcf (c_X0_has l D cC cI cJ cZ cO t t_houses t_codes t_tolerances houses codes tolerances count on p0 o_2 h_2) gX0_codeOf_X0_has rfl (by decide +kernel) ⟨rfl, rfl⟩ ⟨Nat.le_of_ble_eq_true rfl, Nat.le_of_ble_eq_true rfl⟩ ⟨Nat.le_of_ble_eq_true rfl, Nat.le_of_ble_eq_true rfl⟩ hK hP rfl rfl rfl rfl rfl hl.1 rfl (Nat.le_of_ble_eq_true rfl) dX0_codeOf_2 ?_
  refine lv_if_eq (tgt := 17) hx hb dX0_codeOf_5 (by decide) (fun c_5 => ?_) (fun c_5 => ?_)
  · have hf := ite_t c_5 hf
    refine lv_bipush (v := (-9)) hx hb dX0_codeOf_17 (by decide) ?_
    have e_out := Option.some.inj hf
    subst e_out
    exact hret _ _ dX0_codeOf_19
  · have hf := ite_f c_5 hf
    refine lv_aload_n hx hb dX0_codeOf_8 rfl (lv_at hl 0 rfl) ?_
    refine va_get (D := D) (ci := 0) (v := .ref t_codes) (C := RX0) (T := TX0) (N := 5) hx hb hts iX0 hown hK.1 hP 0 rfl rfl 1 (by decide) (hts (.fieldLink RX0 15 "TaughtRemotes$Devices" "codes" "[I") (List.mem_of_getElem? (i := 1) rfl)) (fun _ h9 => h9) rfl dX0_codeOf_9 ?_
    refine lv_iload_n hx hb dX0_codeOf_12 rfl (lv_at hl 1 rfl) ?_
    obtain ⟨b_13, hf⟩ := gd_e hf
    refine r_iald hx hb hK hP 2 1 rfl rfl rfl (vin b_13) dX0_codeOf_13 ?_
    refine lv_goto (tgt := 19) hx hb dX0_codeOf_14 (by decide) ?_
    have e_out := Option.some.inj hf
    subst e_out
    exact hret _ _ dX0_codeOf_19
def rm_X0_toleranceOf : Room := { frames := 1, cells := 0, slots := 0, locals := 21 }
set_option maxHeartbeats 4000000 in
set_option maxRecDepth 100000 in
theorem c_X0_toleranceOf (l : Launch) (D : va_G) (cC cI cJ cZ cO : ClassId) (t : Nat) (t_houses : Nat) (t_codes : Nat) (t_tolerances : Nat) (houses : Nat → Int32) (codes : Nat → Int32) (tolerances : Nat → Int32) (count : Int32) (on : Int32) (p0 : Int32) (out : Int32)
    (hf : f_Dev_toleranceOf tolerances count p0 = some out) : PCon l yX0_toleranceOf wsX0_toleranceOf rm_X0_toleranceOf D (tyA cC cI cJ cZ cO) [.ref t, .int p0] [(t, .inr (0, [.ref t_houses, .ref t_codes, .ref t_tolerances, .int count, .int on])), (t_houses, .inl (cI, 6, .inl houses)), (t_codes, .inl (cI, 6, .inl codes)), (t_tolerances, .inl (cI, 6, .inl tolerances))] (.int out) := by
  have iX0 : ∀ w ∈ wsX00, w ∈ wsX0_toleranceOf := (fun _ h => List.mem_cons_of_mem _ (List.mem_append_right _ h))
  refine pc_I (own := RX0) (cc := cX0_toleranceOf) (maxL := 2) (by decide) rfl rfl (Nat.le_of_ble_eq_true rfl) ?_
  intro p e s m args below meth c ls Q hx hb hts hown hcf hP hK hl hret
  have hl : lv_has ls 2 [(0, .ref t), (1, .int p0)] := hl
  refine lv_aload_n hx hb dX0_toleranceOf_0 rfl (lv_at hl 0 rfl) ?_
  refine lv_iload_n hx hb dX0_toleranceOf_1 rfl (lv_at hl 1 rfl) ?_
  obtain ⟨o_2, h_2, hf⟩ := cal_e hf
  refine pcV (n := 1) [.int p0] [] [0, 1, 2, 3] 0 0 hcf (c_X0_has l D cC cI cJ cZ cO t t_houses t_codes t_tolerances houses codes tolerances count on p0 o_2 h_2) gX0_toleranceOf_X0_has rfl (by decide +kernel) ⟨rfl, rfl⟩ ⟨Nat.le_of_ble_eq_true rfl, Nat.le_of_ble_eq_true rfl⟩ ⟨Nat.le_of_ble_eq_true rfl, Nat.le_of_ble_eq_true rfl⟩ hK hP rfl rfl rfl rfl rfl hl.1 rfl (Nat.le_of_ble_eq_true rfl) dX0_toleranceOf_2 ?_
  refine lv_if_eq (tgt := 17) hx hb dX0_toleranceOf_5 (by decide) (fun c_5 => ?_) (fun c_5 => ?_)
  · have hf := ite_t c_5 hf
    refine lv_bipush (v := (-9)) hx hb dX0_toleranceOf_17 (by decide) ?_
    have e_out := Option.some.inj hf
    subst e_out
    exact hret _ _ dX0_toleranceOf_19
  · have hf := ite_f c_5 hf
    refine lv_aload_n hx hb dX0_toleranceOf_8 rfl (lv_at hl 0 rfl) ?_
    refine va_get (D := D) (ci := 0) (v := .ref t_tolerances) (C := RX0) (T := TX0) (N := 5) hx hb hts iX0 hown hK.1 hP 0 rfl rfl 2 (by decide) (hts (.fieldLink RX0 18 "TaughtRemotes$Devices" "tolerances" "[I") (List.mem_of_getElem? (i := 1) rfl)) (fun _ h9 => h9) rfl dX0_toleranceOf_9 ?_
    refine lv_iload_n hx hb dX0_toleranceOf_12 rfl (lv_at hl 1 rfl) ?_
    obtain ⟨b_13, hf⟩ := gd_e hf
    refine r_iald hx hb hK hP 3 1 rfl rfl rfl (vin b_13) dX0_toleranceOf_13 ?_
    refine lv_goto (tgt := 19) hx hb dX0_toleranceOf_14 (by decide) ?_
    have e_out := Option.some.inj hf
    subst e_out
    exact hret _ _ dX0_toleranceOf_19
def rm_X0_isOn : Room := { frames := 1, cells := 0, slots := 0, locals := 21 }
set_option maxHeartbeats 4000000 in
set_option maxRecDepth 100000 in
theorem c_X0_isOn (l : Launch) (D : va_G) (cC cI cJ cZ cO : ClassId) (t : Nat) (t_houses : Nat) (t_codes : Nat) (t_tolerances : Nat) (houses : Nat → Int32) (codes : Nat → Int32) (tolerances : Nat → Int32) (count : Int32) (on : Int32) (p0 : Int32) (out : Int32)
    (hf : f_Dev_isOn count on p0 = some out) : PCon l yX0_isOn wsX0_isOn rm_X0_isOn D (tyA cC cI cJ cZ cO) [.ref t, .int p0] [(t, .inr (0, [.ref t_houses, .ref t_codes, .ref t_tolerances, .int count, .int on])), (t_houses, .inl (cI, 6, .inl houses)), (t_codes, .inl (cI, 6, .inl codes)), (t_tolerances, .inl (cI, 6, .inl tolerances))] (.int out) := by
  have iX0 : ∀ w ∈ wsX00, w ∈ wsX0_isOn := (fun _ h => List.mem_cons_of_mem _ (List.mem_append_right _ h))
  refine pc_Z (own := RX0) (cc := cX0_isOn) (maxL := 2) (by decide) rfl rfl (Nat.le_of_ble_eq_true rfl) ?_
  intro p e s m args below meth c ls Q hx hb hts hown hcf hP hK hl hret
  have hl : lv_has ls 2 [(0, .ref t), (1, .int p0)] := hl
  refine lv_aload_n hx hb dX0_isOn_0 rfl (lv_at hl 0 rfl) ?_
  refine lv_iload_n hx hb dX0_isOn_1 rfl (lv_at hl 1 rfl) ?_
  obtain ⟨o_2, h_2, hf⟩ := cal_e hf
  refine pcV (n := 1) [.int p0] [] [0, 1, 2, 3] 0 0 hcf (c_X0_has l D cC cI cJ cZ cO t t_houses t_codes t_tolerances houses codes tolerances count on p0 o_2 h_2) gX0_isOn_X0_has rfl (by decide +kernel) ⟨rfl, rfl⟩ ⟨Nat.le_of_ble_eq_true rfl, Nat.le_of_ble_eq_true rfl⟩ ⟨Nat.le_of_ble_eq_true rfl, Nat.le_of_ble_eq_true rfl⟩ hK hP rfl rfl rfl rfl rfl hl.1 rfl (Nat.le_of_ble_eq_true rfl) dX0_isOn_2 ?_
  refine lv_if_eq (tgt := 24) hx hb dX0_isOn_5 (by decide) (fun c_5 => ?_) (fun c_5 => ?_)
  · have hf := ite_t c_5 hf
    refine lv_iconst (v := 0) hx hb dX0_isOn_24 (by decide) ?_
    have e_out := Option.some.inj hf
    subst e_out
    exact hret _ _ dX0_isOn_25 (nar01 (Or.inl rfl))
  · have hf := ite_f c_5 hf
    refine lv_aload_n hx hb dX0_isOn_8 rfl (lv_at hl 0 rfl) ?_
    refine va_get (D := D) (ci := 0) (v := .int on) (C := RX0) (T := TX0) (N := 5) hx hb hts iX0 hown hK.1 hP 0 rfl rfl 4 (by decide) (hts (.fieldLink RX0 25 "TaughtRemotes$Devices" "on" "I") (List.mem_of_getElem? (i := 1) rfl)) (fun _ h9 => h9) rfl dX0_isOn_9 ?_
    refine lv_iload_n hx hb dX0_isOn_12 rfl (lv_at hl 1 rfl) ?_
    refine lv_ishr hx hb dX0_isOn_13 ?_
    refine lv_iconst (v := 1) hx hb dX0_isOn_14 (by decide) ?_
    refine lv_iand hx hb dX0_isOn_15 ?_
    refine lv_iconst (v := 1) hx hb dX0_isOn_16 (by decide) ?_
    refine lv_icmp_ne (tgt := 24) hx hb dX0_isOn_17 (by decide) (fun c_17 => ?_) (fun c_17 => ?_)
    · have hf := ite_t c_17 hf
      refine lv_iconst (v := 0) hx hb dX0_isOn_24 (by decide) ?_
      have e_out := Option.some.inj hf
      subst e_out
      exact hret _ _ dX0_isOn_25 (nar01 (Or.inl rfl))
    · have hf := ite_f (not_not_intro c_17) hf
      refine lv_iconst (v := 1) hx hb dX0_isOn_20 (by decide) ?_
      refine lv_goto (tgt := 25) hx hb dX0_isOn_21 (by decide) ?_
      have e_out := Option.some.inj hf
      subst e_out
      exact hret _ _ dX0_isOn_25 (nar01 (Or.inr rfl))
def rm_X0_accepts : Room := { frames := 1, cells := 0, slots := 0, locals := 24 }
set_option maxHeartbeats 4000000 in
set_option maxRecDepth 100000 in
theorem c_X0_accepts (l : Launch) (D : va_G) (cC cI cJ cZ cO : ClassId) (t : Nat) (t_houses : Nat) (t_codes : Nat) (t_tolerances : Nat) (houses : Nat → Int32) (codes : Nat → Int32) (tolerances : Nat → Int32) (count : Int32) (on : Int32) (p0 : Int32) (p1 : Int32) (p2 : Int32) (p3 : Int32) (out : Int32)
    (hf : f_Dev_accepts houses codes tolerances count p0 p1 p2 p3 = some out) : PCon l yX0_accepts wsX0_accepts rm_X0_accepts D (tyA cC cI cJ cZ cO) [.ref t, .int p0, .int p1, .int p2, .int p3] [(t, .inr (0, [.ref t_houses, .ref t_codes, .ref t_tolerances, .int count, .int on])), (t_houses, .inl (cI, 6, .inl houses)), (t_codes, .inl (cI, 6, .inl codes)), (t_tolerances, .inl (cI, 6, .inl tolerances))] (.int out) := by
  have iX0 : ∀ w ∈ wsX00, w ∈ wsX0_accepts := (fun _ h => List.mem_cons_of_mem _ (List.mem_append_right _ h))
  refine pc_Z (own := RX0) (cc := cX0_accepts) (maxL := 5) (by decide) rfl rfl (Nat.le_of_ble_eq_true rfl) ?_
  intro p e s m args below meth c ls Q hx hb hts hown hcf hP hK hl hret
  have hl : lv_has ls 5 [(0, .ref t), (1, .int p0), (2, .int p1), (3, .int p2), (4, .int p3)] := hl
  refine lv_aload_n hx hb dX0_accepts_0 rfl (lv_at hl 0 rfl) ?_
  refine lv_iload_n hx hb dX0_accepts_1 rfl (lv_at hl 1 rfl) ?_
  obtain ⟨o_2, h_2, hf⟩ := cal_e hf
  refine pcV (n := 1) [.int p0] [] [0, 1, 2, 3] 0 0 hcf (c_X0_has l D cC cI cJ cZ cO t t_houses t_codes t_tolerances houses codes tolerances count on p0 o_2 h_2) gX0_accepts_X0_has rfl (by decide +kernel) ⟨rfl, rfl⟩ ⟨Nat.le_of_ble_eq_true rfl, Nat.le_of_ble_eq_true rfl⟩ ⟨Nat.le_of_ble_eq_true rfl, Nat.le_of_ble_eq_true rfl⟩ hK hP rfl rfl rfl rfl rfl hl.1 rfl (Nat.le_of_ble_eq_true rfl) dX0_accepts_2 ?_
  refine lv_if_eq (tgt := 54) hx hb dX0_accepts_5 (by decide) (fun c_5 => ?_) (fun c_5 => ?_)
  · have hf := ite_t c_5 hf
    refine lv_iconst (v := 0) hx hb dX0_accepts_54 (by decide) ?_
    have e_out := Option.some.inj hf
    subst e_out
    exact hret _ _ dX0_accepts_55 (nar01 (Or.inl rfl))
  · have hf := ite_f c_5 hf
    refine lv_iload_n hx hb dX0_accepts_8 rfl (lv_at hl 3 rfl) ?_
    refine lv_bipush (v := (-9)) hx hb dX0_accepts_9 (by decide) ?_
    refine lv_icmp_eq (tgt := 54) hx hb dX0_accepts_11 (by decide) (fun c_11 => ?_) (fun c_11 => ?_)
    · have hf := ite_t c_11 hf
      refine lv_iconst (v := 0) hx hb dX0_accepts_54 (by decide) ?_
      have e_out := Option.some.inj hf
      subst e_out
      exact hret _ _ dX0_accepts_55 (nar01 (Or.inl rfl))
    · have hf := ite_f c_11 hf
      refine lv_aload_n hx hb dX0_accepts_14 rfl (lv_at hl 0 rfl) ?_
      refine va_get (D := D) (ci := 0) (v := .ref t_houses) (C := RX0) (T := TX0) (N := 5) hx hb hts iX0 hown hK.1 hP 0 rfl rfl 0 (by decide) (hts (.fieldLink RX0 9 "TaughtRemotes$Devices" "houses" "[I") (List.mem_of_getElem? (i := 1) rfl)) (fun _ h9 => h9) rfl dX0_accepts_15 ?_
      refine lv_iload_n hx hb dX0_accepts_18 rfl (lv_at hl 1 rfl) ?_
      obtain ⟨b_19, hf⟩ := gd_e hf
      refine r_iald hx hb hK hP 1 1 rfl rfl rfl (vin b_19) dX0_accepts_19 ?_
      refine lv_iload_n hx hb dX0_accepts_20 rfl (lv_at hl 2 rfl) ?_
      refine lv_isub hx hb dX0_accepts_21 ?_
      refine r_mabs (rest := []) hx hb (hcf.2.2.1.trans hl.1.symm) hown (hts (.methodLink RX0 42 Lib.Math.abs.name) (List.mem_of_getElem? (i := 2) rfl)) (hts (.static Lib.Math.abs.name) (List.mem_of_getElem? (i := 3) rfl)) (hts (.initialized "java/lang/Math") (List.mem_of_getElem? (i := 4) rfl)) (hts (.code Lib.Math.abs.name Lib.Math.abs.code 1 (some .int)) (List.mem_of_getElem? (i := 5) rfl)) (Nat.le_of_ble_eq_true rfl) (Nat.le_of_ble_eq_true rfl) ⟨Nat.le_of_ble_eq_true rfl, Nat.le_of_ble_eq_true rfl⟩ dX0_accepts_22 ?_
      refine lv_iload hx hb dX0_accepts_25 (lv_at hl 4 rfl) ?_
      refine lv_icmp_gt (tgt := 54) hx hb dX0_accepts_27 (by decide) (fun c_27 => ?_) (fun c_27 => ?_)
      · have hf := ite_t c_27 hf
        refine lv_iconst (v := 0) hx hb dX0_accepts_54 (by decide) ?_
        have e_out := Option.some.inj hf
        subst e_out
        exact hret _ _ dX0_accepts_55 (nar01 (Or.inl rfl))
      · have hf := ite_f c_27 hf
        refine lv_aload_n hx hb dX0_accepts_30 rfl (lv_at hl 0 rfl) ?_
        refine va_get (D := D) (ci := 0) (v := .ref t_codes) (C := RX0) (T := TX0) (N := 5) hx hb hts iX0 hown hK.1 hP 0 rfl rfl 1 (by decide) (hts (.fieldLink RX0 15 "TaughtRemotes$Devices" "codes" "[I") (List.mem_of_getElem? (i := 6) rfl)) (fun _ h9 => h9) rfl dX0_accepts_31 ?_
        refine lv_iload_n hx hb dX0_accepts_34 rfl (lv_at hl 1 rfl) ?_
        refine r_iald hx hb hK hP 2 1 rfl rfl rfl (vin b_19) dX0_accepts_35 ?_
        refine lv_iload_n hx hb dX0_accepts_36 rfl (lv_at hl 3 rfl) ?_
        refine lv_ixor hx hb dX0_accepts_37 ?_
        obtain ⟨o_38, h_38, hf⟩ := cal_e hf
        refine pcS (n := 1) [.int ((codes (p0).toNatClampNeg) ^^^ p2)] [] [] hcf (c_J6_bitCount_0f7a4 l D cC cI cJ cZ cO ((codes (p0).toNatClampNeg) ^^^ p2) o_38 h_38) gX0_accepts_J6_bitCount_0f7a4 rfl (by decide +kernel) ⟨rfl, rfl⟩ ⟨Nat.le_of_ble_eq_true rfl, Nat.le_of_ble_eq_true rfl⟩ ⟨Nat.le_of_ble_eq_true rfl, Nat.le_of_ble_eq_true rfl⟩ hK hP rfl rfl hl.1 rfl (Nat.le_of_ble_eq_true rfl) dX0_accepts_38 ?_
        refine lv_aload_n hx hb dX0_accepts_41 rfl (lv_at hl 0 rfl) ?_
        refine va_get (D := D) (ci := 0) (v := .ref t_tolerances) (C := RX0) (T := TX0) (N := 5) hx hb hts iX0 hown hK.1 hP 0 rfl rfl 2 (by decide) (hts (.fieldLink RX0 18 "TaughtRemotes$Devices" "tolerances" "[I") (List.mem_of_getElem? (i := 7) rfl)) (fun _ h9 => h9) rfl dX0_accepts_42 ?_
        refine lv_iload_n hx hb dX0_accepts_45 rfl (lv_at hl 1 rfl) ?_
        refine r_iald hx hb hK hP 3 1 rfl rfl rfl (vin b_19) dX0_accepts_46 ?_
        refine lv_icmp_gt (tgt := 54) hx hb dX0_accepts_47 (by decide) (fun c_47 => ?_) (fun c_47 => ?_)
        · have hf := ite_t c_47 hf
          refine lv_iconst (v := 0) hx hb dX0_accepts_54 (by decide) ?_
          have e_out := Option.some.inj hf
          subst e_out
          exact hret _ _ dX0_accepts_55 (nar01 (Or.inl rfl))
        · have hf := ite_f c_47 hf
          refine lv_iconst (v := 1) hx hb dX0_accepts_50 (by decide) ?_
          refine lv_goto (tgt := 55) hx hb dX0_accepts_51 (by decide) ?_
          have e_out := Option.some.inj hf
          subst e_out
          exact hret _ _ dX0_accepts_55 (nar01 (Or.inr rfl))
def rm_X0_accepting : Room := { frames := 2, cells := 0, slots := 0, locals := 48 }
set_option maxHeartbeats 4000000 in
set_option maxRecDepth 100000 in
theorem c_X0_accepting (l : Launch) (D : va_G) (cC cI cJ cZ cO : ClassId) (t : Nat) (t_houses : Nat) (t_codes : Nat) (t_tolerances : Nat) (houses : Nat → Int32) (codes : Nat → Int32) (tolerances : Nat → Int32) (count : Int32) (on : Int32) (p0 : Int32) (p1 : Int32) (p2 : Int32) (out : Int32)
    (hf : f_Dev_accepting houses codes tolerances count p0 p1 p2 = some out) : PCon l yX0_accepting wsX0_accepting rm_X0_accepting D (tyA cC cI cJ cZ cO) [.ref t, .int p0, .int p1, .int p2] [(t, .inr (0, [.ref t_houses, .ref t_codes, .ref t_tolerances, .int count, .int on])), (t_houses, .inl (cI, 6, .inl houses)), (t_codes, .inl (cI, 6, .inl codes)), (t_tolerances, .inl (cI, 6, .inl tolerances))] (.int out) := by
  have iX0 : ∀ w ∈ wsX00, w ∈ wsX0_accepting := (fun _ h => List.mem_cons_of_mem _ (List.mem_append_right _ h))
  refine pc_I (own := RX0) (cc := cX0_accepting) (maxL := 6) (by decide) rfl rfl (Nat.le_of_ble_eq_true rfl) ?_
  intro p e s m args below meth c ls Q hx hb hts hown hcf hP hK hl hret
  have hl : lv_has ls 6 [(0, .ref t), (1, .int p0), (2, .int p1), (3, .int p2)] := hl
  refine lv_iconst (v := 0) hx hb dX0_accepting_0 (by decide) ?_
  refine lv_istore (lv' := [(4, .int 0), (0, .ref t), (1, .int p0), (2, .int p1), (3, .int p2)]) hx hb dX0_accepting_1 hl (by decide) rfl (fun ls hl => ?_)
  refine lv_iconst (v := 0) hx hb dX0_accepting_3 (by decide) ?_
  refine lv_istore (lv' := [(5, .int 0), (4, .int 0), (0, .ref t), (1, .int p0), (2, .int p1), (3, .int p2)]) hx hb dX0_accepting_4 hl (by decide) rfl (fun ls hl => ?_)
  have J6 : ∀ (n_6 : Nat) (x4_6 : Int32) (x5_6 : Int32) (ls : Array Slot), rl2 (f_Dev_accepting_6 houses codes tolerances count p0 p1 p2) n_6 x4_6 x5_6 = some out → lv_has ls 6 [(0, .ref t), (1, .int p0), (2, .int p1), (3, .int p2), (4, .int x4_6), (5, .int x5_6)] → W p l e rm_X0_accepting s m args below meth c s.heap [] 0 0 Q (F0 m 6 ls []) := by
    intro n_6
    induction n_6 with
    | zero =>
      intro x4_6 x5_6 ls hf
      cases hf
    | succ n_6 ih_6 =>
      intro x4_6 x5_6 ls hf hl
      have hf : f_Dev_accepting_6 houses codes tolerances count p0 p1 p2 x4_6 x5_6 (rl2 (f_Dev_accepting_6 houses codes tolerances count p0 p1 p2) n_6) = some out := hf
      refine lv_iload hx hb dX0_accepting_6 (lv_at hl 5 rfl) ?_
      refine lv_aload_n hx hb dX0_accepting_8 rfl (lv_at hl 0 rfl) ?_
      refine va_get (D := D) (ci := 0) (v := .int count) (C := RX0) (T := TX0) (N := 5) hx hb hts iX0 hown hK.1 hP 0 rfl rfl 3 (by decide) (hts (.fieldLink RX0 21 "TaughtRemotes$Devices" "count" "I") (List.mem_of_getElem? (i := 1) rfl)) (fun _ h9 => h9) rfl dX0_accepting_9 ?_
      refine lv_icmp_ge (tgt := 42) hx hb dX0_accepting_12 (by decide) (fun c_12 => ?_) (fun c_12 => ?_)
      · have hf := ite_t c_12 hf
        refine lv_iload hx hb dX0_accepting_42 (lv_at hl 4 rfl) ?_
        have e_out := Option.some.inj hf
        subst e_out
        exact hret _ _ dX0_accepting_44
      · have hf := ite_f c_12 hf
        refine lv_aload_n hx hb dX0_accepting_15 rfl (lv_at hl 0 rfl) ?_
        refine lv_iload hx hb dX0_accepting_16 (lv_at hl 5 rfl) ?_
        refine lv_iload_n hx hb dX0_accepting_18 rfl (lv_at hl 1 rfl) ?_
        refine lv_iload_n hx hb dX0_accepting_19 rfl (lv_at hl 2 rfl) ?_
        refine lv_iload_n hx hb dX0_accepting_20 rfl (lv_at hl 3 rfl) ?_
        obtain ⟨o_21, h_21, hf⟩ := cal_e hf
        refine pcV (n := 4) [.int x5_6, .int p0, .int p1, .int p2] [] [0, 1, 2, 3] 0 0 hcf (c_X0_accepts l D cC cI cJ cZ cO t t_houses t_codes t_tolerances houses codes tolerances count on x5_6 p0 p1 p2 o_21 h_21) gX0_accepting_X0_accepts rfl (by decide +kernel) ⟨rfl, rfl⟩ ⟨Nat.le_of_ble_eq_true rfl, Nat.le_of_ble_eq_true rfl⟩ ⟨Nat.le_of_ble_eq_true rfl, Nat.le_of_ble_eq_true rfl⟩ hK hP rfl rfl rfl rfl rfl hl.1 rfl (Nat.le_of_ble_eq_true rfl) dX0_accepting_21 ?_
        have J36 : ∀ (x4_36 : Int32) (x5_36 : Int32) (ls : Array Slot), f_Dev_accepting_36 (rl2 (f_Dev_accepting_6 houses codes tolerances count p0 p1 p2) n_6) x4_36 x5_36 = some out → lv_has ls 6 [(0, .ref t), (1, .int p0), (2, .int p1), (3, .int p2), (4, .int x4_36), (5, .int x5_36)] → W p l e rm_X0_accepting s m args below meth c s.heap [] 0 0 Q (F0 m 36 ls []) := by
          intro x4_36 x5_36 ls hf hl
          refine lv_iinc (v := x5_36 + 1) (lv' := [(5, .int (x5_36 + 1)), (0, .ref t), (1, .int p0), (2, .int p1), (3, .int p2), (4, .int x4_36)]) hx hb dX0_accepting_36 hl (k := 5) rfl rfl (by decide) rfl (fun ls hl => ?_)
          refine lv_goto (tgt := 6) hx hb dX0_accepting_39 (by decide) ?_
          exact ih_6 x4_36 (x5_36 + 1) ls hf (lv_sub hl [1, 2, 3, 4, 5, 0] rfl)
        refine lv_if_eq (tgt := 36) hx hb dX0_accepting_24 (by decide) (fun c_24 => ?_) (fun c_24 => ?_)
        · have hf := ite_t c_24 hf
          exact J36 x4_6 x5_6 ls hf (lv_sub hl [0, 1, 2, 3, 4, 5] rfl)
        · have hf := ite_f c_24 hf
          refine lv_iload hx hb dX0_accepting_27 (lv_at hl 4 rfl) ?_
          refine lv_iconst (v := 1) hx hb dX0_accepting_29 (by decide) ?_
          refine lv_iload hx hb dX0_accepting_30 (lv_at hl 5 rfl) ?_
          refine lv_ishl hx hb dX0_accepting_32 ?_
          refine lv_ior hx hb dX0_accepting_33 ?_
          refine lv_topi (fun x4_v34 e_x4_v34 => ?_)
          have hf := bnd_x e_x4_v34 hf
          refine lv_istore (lv' := [(4, .int x4_v34), (0, .ref t), (1, .int p0), (2, .int p1), (3, .int p2), (5, .int x5_6)]) hx hb dX0_accepting_34 hl (by decide) rfl (fun ls hl => ?_)
          exact J36 x4_v34 x5_6 ls hf (lv_sub hl [1, 2, 3, 4, 0, 5] rfl)
  exact J6 FUEL 0 0 ls hf (lv_sub hl [2, 3, 4, 5, 1, 0] rfl)
def rm_X0_changeTolerance : Room := { frames := 2, cells := 0, slots := 0, locals := 42 }
set_option maxHeartbeats 4000000 in
set_option maxRecDepth 100000 in
theorem c_X0_changeTolerance (l : Launch) (D : va_G) (cC cI cJ cZ cO : ClassId) (t : Nat) (t_houses : Nat) (t_codes : Nat) (t_tolerances : Nat) (houses : Nat → Int32) (codes : Nat → Int32) (tolerances : Nat → Int32) (count : Int32) (on : Int32) (p0 : Int32) (p1 : Int32) (out : Int32 × (Nat → Int32))
    (hf : f_Dev_changeTolerance tolerances count p0 p1 = some out) : WCon l yX0_changeTolerance wsX0_changeTolerance rm_X0_changeTolerance D (tyA cC cI cJ cZ cO) [.ref t, .int p0, .int p1] [(t, .inr (0, [.ref t_houses, .ref t_codes, .ref t_tolerances, .int count, .int on])), (t_houses, .inl (cI, 6, .inl houses)), (t_codes, .inl (cI, 6, .inl codes)), (t_tolerances, .inl (cI, 6, .inl tolerances))] (some (.int out.1)) [(t, .inr (0, [.ref t_houses, .ref t_codes, .ref t_tolerances, .int count, .int on])), (t_houses, .inl (cI, 6, .inl houses)), (t_codes, .inl (cI, 6, .inl codes)), (t_tolerances, .inl (cI, 6, .inl out.2))] 0 0 := by
  have iX0 : ∀ w ∈ wsX00, w ∈ wsX0_changeTolerance := (fun _ h => List.mem_cons_of_mem _ (List.mem_append_right _ h))
  refine wc_I (own := RX0) (cc := cX0_changeTolerance) (maxL := 4) (by decide) rfl rfl (Nat.le_of_ble_eq_true rfl) ?_
  intro p e s m args below meth c ls A Q hx hb hts hown hcf hP hK hD hA hS hl hret
  have hl : lv_has ls 4 [(0, .ref t), (1, .int p0), (2, .int p1)] := hl
  refine lv_aload_n hx hb dX0_changeTolerance_0 rfl (lv_at hl 0 rfl) ?_
  refine lv_iload_n hx hb dX0_changeTolerance_1 rfl (lv_at hl 1 rfl) ?_
  obtain ⟨o_2, h_2, hf⟩ := cal_e hf
  refine pcV (n := 1) [.int p0] [] [0, 1, 2, 3] 0 0 hcf (c_X0_toleranceOf l D cC cI cJ cZ cO t t_houses t_codes t_tolerances houses codes tolerances count on p0 o_2 h_2) gX0_changeTolerance_X0_toleranceOf rfl (by decide +kernel) ⟨rfl, rfl⟩ ⟨Nat.le_of_ble_eq_true rfl, Nat.le_of_ble_eq_true rfl⟩ ⟨Nat.le_of_ble_eq_true rfl, Nat.le_of_ble_eq_true rfl⟩ hK hP rfl rfl rfl rfl rfl hl.1 rfl (Nat.le_of_ble_eq_true rfl) dX0_changeTolerance_2 ?_
  refine lv_istore_n (lv' := [(3, .int o_2), (0, .ref t), (1, .int p0), (2, .int p1)]) hx hb dX0_changeTolerance_5 rfl hl (by decide) rfl (fun ls hl => ?_)
  refine lv_aload_n hx hb dX0_changeTolerance_6 rfl (lv_at hl 1 rfl) ?_
  refine lv_iload_n hx hb dX0_changeTolerance_7 rfl (lv_at hl 2 rfl) ?_
  obtain ⟨o_8, h_8, hf⟩ := cal_e hf
  refine pcV (n := 1) [.int p0] [] [0, 1, 2, 3] 0 0 hcf (c_X0_has l D cC cI cJ cZ cO t t_houses t_codes t_tolerances houses codes tolerances count on p0 o_8 h_8) gX0_changeTolerance_X0_has rfl (by decide +kernel) ⟨rfl, rfl⟩ ⟨Nat.le_of_ble_eq_true rfl, Nat.le_of_ble_eq_true rfl⟩ ⟨Nat.le_of_ble_eq_true rfl, Nat.le_of_ble_eq_true rfl⟩ hK hP rfl rfl rfl rfl rfl hl.1 rfl (Nat.le_of_ble_eq_true rfl) dX0_changeTolerance_8 ?_
  refine lv_if_eq (tgt := 21) hx hb dX0_changeTolerance_11 (by decide) (fun c_11 => ?_) (fun c_11 => ?_)
  · have hf := ite_t c_11 hf
    refine lv_iload_n hx hb dX0_changeTolerance_21 rfl (lv_at hl 0 rfl) ?_
    have e_out := Option.some.inj hf
    subst e_out
    exact hret _ _ _ _ _ _ dX0_changeTolerance_22 (Nat.zero_le _) (Nat.zero_le _) hP hD hS
  · have hf := ite_f c_11 hf
    refine lv_aload_n hx hb dX0_changeTolerance_14 rfl (lv_at hl 1 rfl) ?_
    refine va_get (D := D) (ci := 0) (v := .ref t_tolerances) (C := RX0) (T := TX0) (N := 5) hx hb hts iX0 hown hK.1 hP 0 rfl rfl 2 (by decide) (hts (.fieldLink RX0 18 "TaughtRemotes$Devices" "tolerances" "[I") (List.mem_of_getElem? (i := 1) rfl)) (fun _ h9 => h9) rfl dX0_changeTolerance_15 ?_
    refine lv_iload_n hx hb dX0_changeTolerance_18 rfl (lv_at hl 2 rfl) ?_
    refine lv_iload_n hx hb dX0_changeTolerance_19 rfl (lv_at hl 3 rfl) ?_
    obtain ⟨b_20, hf⟩ := gd_e hf
    refine r_iast hx hb hK hP hD hS 3 1 rfl rfl rfl (vin b_20) dX0_changeTolerance_20 (fun H locs (hP : va_P D vwCl [(t, .inr (0, [.ref t_houses, .ref t_codes, .ref t_tolerances, .int count, .int on])), (t_houses, .inl (cI, 6, .inl houses)), (t_codes, .inl (cI, 6, .inl codes)), (t_tolerances, .inl (cI, 6, .inl (upd tolerances (p0).toNatClampNeg p1)))] H) (hD : va_D A [(t, .inr (0, [.ref t_houses, .ref t_codes, .ref t_tolerances, .int count, .int on])), (t_houses, .inl (cI, 6, .inl houses)), (t_codes, .inl (cI, 6, .inl codes)), (t_tolerances, .inl (cI, 6, .inl (upd tolerances (p0).toNatClampNeg p1)))]) hS => ?_)
    refine lv_iload_n hx hb dX0_changeTolerance_21 rfl (lv_at hl 0 rfl) ?_
    have e_out := Option.some.inj hf
    subst e_out
    exact hret _ _ _ _ _ _ dX0_changeTolerance_22 (Nat.zero_le _) (Nat.zero_le _) hP hD hS
def rm_X0_switchOver : Room := { frames := 0, cells := 0, slots := 0, locals := 0 }
set_option maxHeartbeats 4000000 in
set_option maxRecDepth 100000 in
theorem c_X0_switchOver (l : Launch) (D : va_G) (cC cI cJ cZ cO : ClassId) (t : Nat) (t_houses : Nat) (t_codes : Nat) (t_tolerances : Nat) (houses : Nat → Int32) (codes : Nat → Int32) (tolerances : Nat → Int32) (count : Int32) (on : Int32) (p0 : Int32) (out : Int32)
    (hf : f_Dev_switchOver on p0 = some out) : WCon l yX0_switchOver wsX0_switchOver rm_X0_switchOver D (tyA cC cI cJ cZ cO) [.ref t, .int p0] [(t, .inr (0, [.ref t_houses, .ref t_codes, .ref t_tolerances, .int count, .int on])), (t_houses, .inl (cI, 6, .inl houses)), (t_codes, .inl (cI, 6, .inl codes)), (t_tolerances, .inl (cI, 6, .inl tolerances))] none [(t, .inr (0, [.ref t_houses, .ref t_codes, .ref t_tolerances, .int count, .int out])), (t_houses, .inl (cI, 6, .inl houses)), (t_codes, .inl (cI, 6, .inl codes)), (t_tolerances, .inl (cI, 6, .inl tolerances))] 0 0 := by
  have iX0 : ∀ w ∈ wsX00, w ∈ wsX0_switchOver := (fun _ h => List.mem_cons_of_mem _ (List.mem_append_right _ h))
  refine wc_V (own := RX0) (cc := cX0_switchOver) (maxL := 2) (by decide) rfl rfl (Nat.le_of_ble_eq_true rfl) ?_
  intro p e s m args below meth c ls A Q hx hb hts hown hcf hP hK hD hA hS hl hret
  have hl : lv_has ls 2 [(0, .ref t), (1, .int p0)] := hl
  refine lv_aload_n hx hb dX0_switchOver_0 rfl (lv_at hl 0 rfl) ?_
  refine lv_dup hx hb dX0_switchOver_1 rfl ?_
  refine va_get (D := D) (ci := 0) (v := .int on) (C := RX0) (T := TX0) (N := 5) hx hb hts iX0 hown hK.1 hP 0 rfl rfl 4 (by decide) (hts (.fieldLink RX0 25 "TaughtRemotes$Devices" "on" "I") (List.mem_of_getElem? (i := 1) rfl)) (fun _ h9 => h9) rfl dX0_switchOver_2 ?_
  refine lv_iload_n hx hb dX0_switchOver_5 rfl (lv_at hl 1 rfl) ?_
  refine lv_ixor hx hb dX0_switchOver_6 ?_
  refine va_put (D := D) (ci := 0) (v := .int (on ^^^ p0)) (ty := .int) (C := RX0) (T := TX0) (N := 5) hx hb hts iX0 tyX0 tyX0_ok nmX0 hown hK.1 hP hD hS 0 rfl rfl 4 (by decide) (hts (.fieldLink RX0 25 "TaughtRemotes$Devices" "on" "I") (List.mem_of_getElem? (i := 1) rfl)) (fun _ h9 => h9) rfl (by decide +kernel) rfl rfl (Nat.le_of_ble_eq_true rfl) dX0_switchOver_7 (fun H locs (hP : va_P D vwCl [(t, .inr (0, [.ref t_houses, .ref t_codes, .ref t_tolerances, .int count, .int (on ^^^ p0)])), (t_houses, .inl (cI, 6, .inl houses)), (t_codes, .inl (cI, 6, .inl codes)), (t_tolerances, .inl (cI, 6, .inl tolerances))] H) (hD : va_D A [(t, .inr (0, [.ref t_houses, .ref t_codes, .ref t_tolerances, .int count, .int (on ^^^ p0)])), (t_houses, .inl (cI, 6, .inl houses)), (t_codes, .inl (cI, 6, .inl codes)), (t_tolerances, .inl (cI, 6, .inl tolerances))]) hS => ?_)
  have e_out := Option.some.inj hf
  subst e_out
  exact hret _ _ _ _ _ _ dX0_switchOver_10 (Nat.zero_le _) (Nat.zero_le _) hP hD hS
