/-! rows of streets are made -/
theorem fm_congr {f g : Nat → va_W} : ∀ {l : List Nat}, (∀ x ∈ l, f x = g x) → l.flatMap f = l.flatMap g := by
  intro l
  induction l with
  | nil => intro _; rfl
  | cons a l ih =>
    intro h
    rw [List.flatMap_cons, List.flatMap_cons, h a List.mem_cons_self, ih (fun x hx => h x (List.mem_cons_of_mem _ hx))]
def arF (k : Nat) (ad : Nat → Nat → Nat) : Nat → Option Nat := fun j => if j < k then some (ad j 0) else none
theorem sts_push (cI : ClassId) (ad : Nat → Nat → Nat) (vs : Nat → SV) (k : Nat) (adk : Nat → Nat) (vk : SV) : (List.range k).flatMap (wStr cI ad vs) ++ wSt cI adk vk = (List.range (k + 1)).flatMap (wStr cI (fun j => if j = k then adk else ad j) (fun j => if j = k then vk else vs j)) := by
  rw [List.range_succ, List.flatMap_append, fm_congr (f := wStr cI ad vs) (g := wStr cI (fun j => if j = k then adk else ad j) (fun j => if j = k then vk else vs j)) (fun x hx => ?_)]
  · congr 1
    show _ = wSt cI (if k = k then adk else ad k) (if k = k then vk else vs k) ++ []
    rw [if_pos rfl, if_pos rfl, List.append_nil]
  · have := List.mem_range.mp hx
    show wSt cI (ad x) (vs x) = wSt cI (if x = k then adk else ad x) (if x = k then vk else vs x)
    rw [if_neg (by omega), if_neg (by omega)]
theorem arF_up (k : Nat) (ad : Nat → Nat → Nat) (adk : Nat → Nat) : va_up (arF k ad) k (some (adk 0)) = arF (k + 1) (fun j => if j = k then adk else ad j) := by
  funext j
  unfold va_up arF
  by_cases q : j = k
  · rw [if_pos q, if_pos (by omega)]
    show some (adk 0) = some ((if j = k then adk else ad j) 0)
    rw [if_pos q]
  · rw [if_neg q]
    show _ = if j < k + 1 then some ((if j = k then adk else ad j) 0) else none
    rw [if_neg q]
    by_cases r : j < k
    · rw [if_pos r, if_pos (by omega)]
    · rw [if_neg r, if_neg (by omega)]
theorem arr_swap {D : va_G} {H : Heap} {x : Nat × va_E} {aq : Nat} {cO : ClassId} {n : Nat} {f g : Nat → Option Nat} {L : va_W} (h : ∀ j, j < n → f j = g j) (hP : va_P D vwCl (x :: (aq, .inl (cO, n, .inr (.inr (.inr (.inr f))))) :: L) H) : va_P D vwCl (x :: (aq, .inl (cO, n, .inr (.inr (.inr (.inr g))))) :: L) H := va_P.mem.mpr (fun q hq => by
  have hm := va_P.mem.mp hP
  rcases List.mem_cons.mp hq with rfl | hq
  · exact hm _ List.mem_cons_self
  · rcases List.mem_cons.mp hq with rfl | hq
    · have h1 : H[aq]? = some (vp_cell cO (n, .inr (.inr (.inr (.inr f))))) := hm (aq, .inl (cO, n, .inr (.inr (.inr (.inr f))))) (List.mem_cons_of_mem _ List.mem_cons_self)
      show H[aq]? = some (vp_cell cO (n, .inr (.inr (.inr (.inr g)))))
      rw [← ar_ext h]
      exact h1
    · exact hm q (List.mem_cons_of_mem _ (List.mem_cons_of_mem _ hq)))
theorem arr_swapD {A : Nat → Prop} {x : Nat × va_E} {aq : Nat} {y z : va_E} {L : va_W} (hD : va_D A (x :: (aq, y) :: L)) : va_D A (x :: (aq, z) :: L) := va_D.set (p := 1) hD rfl
def Fmem (cI cO : ClassId) (t : Nat) (w : va_W) : Prop := ∃ (arr : Nat) (ad : Nat → Nat → Nat) (vs : Nat → SV), w = (t, .inr (1, [.ref arr, .int 0, .int 0])) :: wSts cI cO arr ad 14 vs ∧ ∀ j, j < 14 → NSV (vs j)
def rm_X1_init : Room := { frames := 3, cells := 169, slots := 4074, locals := 200 }
set_option maxHeartbeats 4000000 in
set_option maxRecDepth 100000 in
theorem c_X1_init (l : Launch) (D : va_G) (cC cI cJ cZ cO : ClassId) (t : Nat) : NCon l yX1_init wsX1_init rm_X1_init D (tyA cC cI cJ cZ cO) [.ref t] [(t, .inr (1, [.null, .int 0, .int 0]))] (Fmem cI cO t) 169 4074 := by
  have iX1 : ∀ w ∈ wsX10, w ∈ wsX1_init := (fun _ h => List.mem_cons_of_mem _ (List.mem_append_left _ (List.mem_append_left _ (List.mem_append_left _ (List.mem_append_right _ h)))))
  have iX7 : ∀ w ∈ wsX70, w ∈ wsX1_init := (fun _ h => List.mem_cons_of_mem _ (List.mem_append_left _ (List.mem_append_left _ (List.mem_append_right _ h))))
  refine nc_V (own := RX1) (cc := cX1_init) (maxL := 2) (by decide) rfl rfl rfl (Nat.le_of_ble_eq_true rfl) ?_
  intro p e s m args below meth c ls A Q hx hb hts hown hcf hin hml hAO hP hK hD hA hS hl hret
  have hl : lv_has ls 2 [(0, .ref t)] := hl
  refine lv_aload_n hx hb dX1_init_0 rfl (lv_at hl 0 rfl) ?_
  refine W.objInit hx hb hown (hts (.methodLink RX1 3 objectInit) (List.mem_of_getElem? (i := 1) rfl)) (hts (.instanceMethod objectInit) (List.mem_of_getElem? (i := 2) rfl)) (hts _ (List.mem_of_getElem? (i := 3) rfl)) rfl (by rw [hml]; exact hl.1) rfl dX1_init_1 (Nat.le_of_ble_eq_true rfl) (Nat.le_of_ble_eq_true rfl) ?_
  refine W.eq (g2 := F0 m 4 ls []) rfl ?_
  refine lv_aload_n hx hb dX1_init_4 rfl (lv_at hl 0 rfl) ?_
  refine lv_bipush (v := 14) hx hb dX1_init_5 (by decide) ?_
  refine r_newq 4 (C := RX7) (N' := 14) hx hb hown (hts (.classLink RX1 9 RX7) (List.mem_of_getElem? (i := 4) rfl)) hAO hK rfl hP hD hS hA (by decide) (by decide) (Nat.le_of_ble_eq_true rfl) (Nat.le_of_ble_eq_true rfl) (Nat.le_of_ble_eq_true rfl) dX1_init_7 (fun aq H (hP : va_P D vwCl [(t, .inr (1, [.null, .int 0, .int 0])), (aq, .inl (cO, 14, .inr (.inr (.inr (.inr (fun _ => none))))))] H) (hD : va_D A [(t, .inr (1, [.null, .int 0, .int 0])), (aq, .inl (cO, 14, .inr (.inr (.inr (.inr (fun _ => none))))))]) hS => ?_)
  refine va_putF (D := D) (ci := 1) (v := .ref aq) (C := RX1) (T := TX1) (N := 3) hx hb hts iX1 tyX1 tyX1_ok nmX1 hown hK.1 hP hD hS 0 rfl rfl 0 (by decide) (hts (.fieldLink RX1 11 "TaughtRemotes$Memory" "states" "[LTaughtRemotes$Street;") (List.mem_of_getElem? (i := 5) rfl)) (fun _ h9 => h9) rfl hin rfl (tyX1_ok 0 (by decide)) rfl rfl (Nat.le_of_ble_eq_true rfl) dX1_init_10 (fun H locs (hP : va_P D vwCl [(t, .inr (1, [.ref aq, .int 0, .int 0])), (aq, .inl (cO, 14, .inr (.inr (.inr (.inr (fun _ => none))))))] H) (hD : va_D A [(t, .inr (1, [.ref aq, .int 0, .int 0])), (aq, .inl (cO, 14, .inr (.inr (.inr (.inr (fun _ => none))))))]) hS => ?_)
  refine lv_iconst (v := 0) hx hb dX1_init_13 (by decide) ?_
  refine lv_istore_n (lv' := [(1, .int 0), (0, .ref t)]) hx hb dX1_init_14 rfl hl (by decide) rfl (fun ls hl => ?_)
  have key : ∀ (r k : Nat), k + r = 14 → ∀ (H : Heap) (locs : List Loc) (ls : Array Slot) (ad : Nat → Nat → Nat) (vs : Nat → SV), (∀ j, j < k → NSV (vs j)) → va_P D vwCl ([(t, .inr (1, [.ref aq, .int 0, .int 0])), (aq, .inl (cO, 14, .inr (.inr (.inr (.inr (arF k ad))))))] ++ (List.range k).flatMap (wStr cI ad vs)) H → va_D A ([(t, .inr (1, [.ref aq, .int 0, .int 0])), (aq, .inl (cO, 14, .inr (.inr (.inr (.inr (arF k ad))))))] ++ (List.range k).flatMap (wStr cI ad vs)) → va_S A s.heap H locs → lv_has ls 2 [(1, .int (nI k)), (0, .ref t)] → W p l e rm_X1_init s m args below meth c H locs (1 + 12 * k) (14 + 290 * k) Q (F0 m 15 ls []) := by
    intro r
    induction r with
    | zero =>
      intro k hk H locs ls ad vs hN hP hD hS hl
      obtain rfl : k = 14 := by omega
      refine lv_iload_n hx hb dX1_init_15 rfl (lv_at hl 0 rfl) ?_
      refine lv_bipush (v := 14) hx hb dX1_init_16 (by decide) ?_
      refine lv_icmp_ge (tgt := 40) hx hb dX1_init_18 (by decide) (fun _ => ?_) (fun h => absurd (by decide) h)
      exact hret _ _ _ _ _ _ _ dX1_init_40 (by decide) (by decide) ⟨aq, ad, vs, rfl, hN⟩ (arr_swap (fun j hj => if_pos hj) hP) (arr_swapD hD) hS
    | succ r ih =>
      intro k hk H locs ls ad vs hN hP hD hS hl
      refine lv_iload_n hx hb dX1_init_15 rfl (lv_at hl 0 rfl) ?_
      refine lv_bipush (v := 14) hx hb dX1_init_16 (by decide) ?_
      refine lv_icmp_ge (tgt := 40) hx hb dX1_init_18 (by decide) (fun h => absurd ((iI_le (a := 14) (b := (k : Int)) (by omega) (by omega) (by omega) (by omega)).mp h) (by omega)) (fun _ => ?_)
      refine lv_aload_n hx hb dX1_init_21 rfl (lv_at hl 1 rfl) ?_
      refine va_get (D := D) (ci := 1) (v := .ref aq) (C := RX1) (T := TX1) (N := 3) hx hb hts iX1 hown hK.1 hP 0 rfl rfl 0 (by decide) (hts (.fieldLink RX1 11 "TaughtRemotes$Memory" "states" "[LTaughtRemotes$Street;") (List.mem_of_getElem? (i := 5) rfl)) (fun _ h9 => h9) rfl dX1_init_22 ?_
      refine lv_iload_n hx hb dX1_init_25 rfl (lv_at hl 0 rfl) ?_
      refine va_new (ci := 5) (fs := [.null, .null, .null, .int 0, .int 0, .int 0, .long 0]) (C := RX7) (T := TX7) (N := 7) hx hb hts iX7 tyX7 tyX7_ok hown (hts (.classLink RX1 9 RX7) (List.mem_of_getElem? (i := 4) rfl)) (hts (.instantiable RX7 7) (List.mem_of_getElem? (i := 6) rfl)) (hts (.initialized RX7) (List.mem_of_getElem? (i := 7) rfl)) hK.1 hP hD hS hA rfl (by decide +kernel) (by show 1 + 12 * k + 1 ≤ 169; omega) (by show 14 + 290 * k + 7 ≤ 4074; omega) dX1_init_26 (fun q H hP hD hS => ?_)
      refine lv_dup hx hb dX1_init_29 rfl ?_
      refine ncI (wc := [(q, .inr (5, [.null, .null, .null, .int 0, .int 0, .int 0, .long 0]))]) [.ref q, .int (nI k), .ref aq] hcf (c_X7_init l D cC cI cJ cZ cO q) (cwI 0 hts gX1_init_X7_init rfl rfl rfl (hts (.initialized RX7) (List.mem_of_getElem? (i := 7) rfl)) (hts (.methodLink RX1 17 yX7_init) (List.mem_of_getElem? (i := 8) rfl)) (hts (.instanceMethod yX7_init) (List.mem_of_getElem? (i := 9) rfl)) rfl (by decide +kernel) ⟨Nat.le_of_ble_eq_true rfl, Nat.le_of_ble_eq_true rfl⟩) ⟨by show 1 + 12 * k + 1 + 11 ≤ 169; omega, by show 14 + 290 * k + 7 + 283 ≤ 4074; omega⟩ hAO hK hP hD hS hA hl.1 (Nat.le_of_ble_eq_true rfl) dX1_init_30 (fun H locs w1 hF hP hD hS => ?_)
      obtain ⟨adk, vk, rfl, rfl, hn⟩ := hF
      refine va_astq hx hb hK.1 hP hD hS 1 4 (([(t, .inr (1, [.ref aq, .int 0, .int 0])), (aq, .inl (cO, 14, .inr (.inr (.inr (.inr (arF k ad))))))] ++ (List.range k).flatMap (wStr cI ad vs) : va_W)).length 5 (r := (RX7, TX7, 7)) (v := adk 0) rfl rfl (by rw [List.getElem?_append_right (Nat.le_refl _), Nat.sub_self]; rfl) rfl (vp_in_nI (show k < 14 by omega) (by omega)) dX1_init_33 (fun H locs hP hD hS => ?_)
      have ek : (nI k).toNatClampNeg = k := kcl (by omega)
      rw [ek, arF_up] at hP hD
      have ew : ∀ z : va_E, ((([(t, .inr (1, [.ref aq, .int 0, .int 0])), (aq, .inl (cO, 14, .inr (.inr (.inr (.inr (arF k ad))))))] : va_W) ++ (List.range k).flatMap (wStr cI ad vs)) ++ wSt cI adk vk).set 1 (aq, z) = [(t, .inr (1, [.ref aq, .int 0, .int 0])), (aq, z)] ++ (List.range (k + 1)).flatMap (wStr cI (fun j => if j = k then adk else ad j) (fun j => if j = k then vk else vs j)) := by
        intro z
        rw [← sts_push]
        show (([(t, .inr (1, [.ref aq, .int 0, .int 0])), (aq, z)] : va_W) ++ (List.range k).flatMap (wStr cI ad vs)) ++ wSt cI adk vk = _
        rw [List.append_assoc]
      rw [ew] at hP hD
      refine lv_iinc (v := nI k + 1) (lv' := [(1, .int (nI k + 1)), (0, .ref t)]) hx hb dX1_init_34 hl (k := 0) rfl rfl (by decide) rfl (fun ls hl => ?_)
      refine lv_goto (tgt := 15) hx hb dX1_init_37 (by decide) ?_
      rw [show nI k + 1 = nI (k + 1) from iI_s k] at hl
      have h9 := ih (k + 1) (by omega) H locs ls _ _ (fun j hj => ?_) hP hD hS hl
      · have ec : 1 + 12 * (k + 1) = 1 + 12 * k + 1 + 11 := by omega
        have es : 14 + 290 * (k + 1) = 14 + 290 * k + 7 + 283 := by omega
        rw [ec, es] at h9
        exact h9
      · show NSV (if j = k then vk else vs j)
        by_cases r : j = k
        · rw [if_pos r]
          exact hn
        · rw [if_neg r]
          exact hN j (by omega)
  exact key 14 0 (by omega) H locs ls (fun _ _ => 0) (fun _ => wSv0) (fun j hj => absurd hj (Nat.not_lt_zero j)) (arr_swap (fun j hj => rfl) hP) (arr_swapD hD) hS hl
def Fslo (cI cO : ClassId) (t : Nat) (w : va_W) : Prop := ∃ (arr : Nat) (ad : Nat → Nat → Nat) (vs : Nat → SV), w = (t, .inr (4, [.ref arr, .int 0])) :: wSts cI cO arr ad 2 vs ∧ ∀ j, j < 2 → NSV (vs j)
def rm_X6_init : Room := { frames := 3, cells := 25, slots := 582, locals := 200 }
set_option maxHeartbeats 4000000 in
set_option maxRecDepth 100000 in
theorem c_X6_init (l : Launch) (D : va_G) (cC cI cJ cZ cO : ClassId) (t : Nat) : NCon l yX6_init wsX6_init rm_X6_init D (tyA cC cI cJ cZ cO) [.ref t] [(t, .inr (4, [.null, .int 0]))] (Fslo cI cO t) 25 582 := by
  have iX6 : ∀ w ∈ wsX60, w ∈ wsX6_init := (fun _ h => List.mem_cons_of_mem _ (List.mem_append_left _ (List.mem_append_left _ (List.mem_append_left _ (List.mem_append_right _ h)))))
  have iX7 : ∀ w ∈ wsX70, w ∈ wsX6_init := (fun _ h => List.mem_cons_of_mem _ (List.mem_append_left _ (List.mem_append_left _ (List.mem_append_right _ h))))
  refine nc_V (own := RX6) (cc := cX6_init) (maxL := 2) (by decide) rfl rfl rfl (Nat.le_of_ble_eq_true rfl) ?_
  intro p e s m args below meth c ls A Q hx hb hts hown hcf hin hml hAO hP hK hD hA hS hl hret
  have hl : lv_has ls 2 [(0, .ref t)] := hl
  refine lv_aload_n hx hb dX6_init_0 rfl (lv_at hl 0 rfl) ?_
  refine W.objInit hx hb hown (hts (.methodLink RX6 3 objectInit) (List.mem_of_getElem? (i := 1) rfl)) (hts (.instanceMethod objectInit) (List.mem_of_getElem? (i := 2) rfl)) (hts _ (List.mem_of_getElem? (i := 3) rfl)) rfl (by rw [hml]; exact hl.1) rfl dX6_init_1 (Nat.le_of_ble_eq_true rfl) (Nat.le_of_ble_eq_true rfl) ?_
  refine W.eq (g2 := F0 m 4 ls []) rfl ?_
  refine lv_aload_n hx hb dX6_init_4 rfl (lv_at hl 0 rfl) ?_
  refine lv_iconst (v := 2) hx hb dX6_init_5 (by decide) ?_
  refine r_newq 4 (C := RX7) (N' := 2) hx hb hown (hts (.classLink RX6 9 RX7) (List.mem_of_getElem? (i := 4) rfl)) hAO hK rfl hP hD hS hA (by decide) (by decide) (Nat.le_of_ble_eq_true rfl) (Nat.le_of_ble_eq_true rfl) (Nat.le_of_ble_eq_true rfl) dX6_init_6 (fun aq H (hP : va_P D vwCl [(t, .inr (4, [.null, .int 0])), (aq, .inl (cO, 2, .inr (.inr (.inr (.inr (fun _ => none))))))] H) (hD : va_D A [(t, .inr (4, [.null, .int 0])), (aq, .inl (cO, 2, .inr (.inr (.inr (.inr (fun _ => none))))))]) hS => ?_)
  refine va_putF (D := D) (ci := 4) (v := .ref aq) (C := RX6) (T := TX6) (N := 2) hx hb hts iX6 tyX6 tyX6_ok nmX6 hown hK.1 hP hD hS 0 rfl rfl 0 (by decide) (hts (.fieldLink RX6 11 "TaughtRemotes$Slots" "states" "[LTaughtRemotes$Street;") (List.mem_of_getElem? (i := 5) rfl)) (fun _ h9 => h9) rfl hin rfl (tyX6_ok 0 (by decide)) rfl rfl (Nat.le_of_ble_eq_true rfl) dX6_init_9 (fun H locs (hP : va_P D vwCl [(t, .inr (4, [.ref aq, .int 0])), (aq, .inl (cO, 2, .inr (.inr (.inr (.inr (fun _ => none))))))] H) (hD : va_D A [(t, .inr (4, [.ref aq, .int 0])), (aq, .inl (cO, 2, .inr (.inr (.inr (.inr (fun _ => none))))))]) hS => ?_)
  refine lv_iconst (v := 0) hx hb dX6_init_12 (by decide) ?_
  refine lv_istore_n (lv' := [(1, .int 0), (0, .ref t)]) hx hb dX6_init_13 rfl hl (by decide) rfl (fun ls hl => ?_)
  have key : ∀ (r k : Nat), k + r = 2 → ∀ (H : Heap) (locs : List Loc) (ls : Array Slot) (ad : Nat → Nat → Nat) (vs : Nat → SV), (∀ j, j < k → NSV (vs j)) → va_P D vwCl ([(t, .inr (4, [.ref aq, .int 0])), (aq, .inl (cO, 2, .inr (.inr (.inr (.inr (arF k ad))))))] ++ (List.range k).flatMap (wStr cI ad vs)) H → va_D A ([(t, .inr (4, [.ref aq, .int 0])), (aq, .inl (cO, 2, .inr (.inr (.inr (.inr (arF k ad))))))] ++ (List.range k).flatMap (wStr cI ad vs)) → va_S A s.heap H locs → lv_has ls 2 [(1, .int (nI k)), (0, .ref t)] → W p l e rm_X6_init s m args below meth c H locs (1 + 12 * k) (2 + 290 * k) Q (F0 m 14 ls []) := by
    intro r
    induction r with
    | zero =>
      intro k hk H locs ls ad vs hN hP hD hS hl
      obtain rfl : k = 2 := by omega
      refine lv_iload_n hx hb dX6_init_14 rfl (lv_at hl 0 rfl) ?_
      refine lv_iconst (v := 2) hx hb dX6_init_15 (by decide) ?_
      refine lv_icmp_ge (tgt := 38) hx hb dX6_init_16 (by decide) (fun _ => ?_) (fun h => absurd (by decide) h)
      exact hret _ _ _ _ _ _ _ dX6_init_38 (by decide) (by decide) ⟨aq, ad, vs, rfl, hN⟩ (arr_swap (fun j hj => if_pos hj) hP) (arr_swapD hD) hS
    | succ r ih =>
      intro k hk H locs ls ad vs hN hP hD hS hl
      refine lv_iload_n hx hb dX6_init_14 rfl (lv_at hl 0 rfl) ?_
      refine lv_iconst (v := 2) hx hb dX6_init_15 (by decide) ?_
      refine lv_icmp_ge (tgt := 38) hx hb dX6_init_16 (by decide) (fun h => absurd ((iI_le (a := 2) (b := (k : Int)) (by omega) (by omega) (by omega) (by omega)).mp h) (by omega)) (fun _ => ?_)
      refine lv_aload_n hx hb dX6_init_19 rfl (lv_at hl 1 rfl) ?_
      refine va_get (D := D) (ci := 4) (v := .ref aq) (C := RX6) (T := TX6) (N := 2) hx hb hts iX6 hown hK.1 hP 0 rfl rfl 0 (by decide) (hts (.fieldLink RX6 11 "TaughtRemotes$Slots" "states" "[LTaughtRemotes$Street;") (List.mem_of_getElem? (i := 5) rfl)) (fun _ h9 => h9) rfl dX6_init_20 ?_
      refine lv_iload_n hx hb dX6_init_23 rfl (lv_at hl 0 rfl) ?_
      refine va_new (ci := 5) (fs := [.null, .null, .null, .int 0, .int 0, .int 0, .long 0]) (C := RX7) (T := TX7) (N := 7) hx hb hts iX7 tyX7 tyX7_ok hown (hts (.classLink RX6 9 RX7) (List.mem_of_getElem? (i := 4) rfl)) (hts (.instantiable RX7 7) (List.mem_of_getElem? (i := 6) rfl)) (hts (.initialized RX7) (List.mem_of_getElem? (i := 7) rfl)) hK.1 hP hD hS hA rfl (by decide +kernel) (by show 1 + 12 * k + 1 ≤ 25; omega) (by show 2 + 290 * k + 7 ≤ 582; omega) dX6_init_24 (fun q H hP hD hS => ?_)
      refine lv_dup hx hb dX6_init_27 rfl ?_
      refine ncI (wc := [(q, .inr (5, [.null, .null, .null, .int 0, .int 0, .int 0, .long 0]))]) [.ref q, .int (nI k), .ref aq] hcf (c_X7_init l D cC cI cJ cZ cO q) (cwI 0 hts gX6_init_X7_init rfl rfl rfl (hts (.initialized RX7) (List.mem_of_getElem? (i := 7) rfl)) (hts (.methodLink RX6 17 yX7_init) (List.mem_of_getElem? (i := 8) rfl)) (hts (.instanceMethod yX7_init) (List.mem_of_getElem? (i := 9) rfl)) rfl (by decide +kernel) ⟨Nat.le_of_ble_eq_true rfl, Nat.le_of_ble_eq_true rfl⟩) ⟨by show 1 + 12 * k + 1 + 11 ≤ 25; omega, by show 2 + 290 * k + 7 + 283 ≤ 582; omega⟩ hAO hK hP hD hS hA hl.1 (Nat.le_of_ble_eq_true rfl) dX6_init_28 (fun H locs w1 hF hP hD hS => ?_)
      obtain ⟨adk, vk, rfl, rfl, hn⟩ := hF
      refine va_astq hx hb hK.1 hP hD hS 1 4 (([(t, .inr (4, [.ref aq, .int 0])), (aq, .inl (cO, 2, .inr (.inr (.inr (.inr (arF k ad))))))] ++ (List.range k).flatMap (wStr cI ad vs) : va_W)).length 5 (r := (RX7, TX7, 7)) (v := adk 0) rfl rfl (by rw [List.getElem?_append_right (Nat.le_refl _), Nat.sub_self]; rfl) rfl (vp_in_nI (show k < 2 by omega) (by omega)) dX6_init_31 (fun H locs hP hD hS => ?_)
      have ek : (nI k).toNatClampNeg = k := kcl (by omega)
      rw [ek, arF_up] at hP hD
      have ew : ∀ z : va_E, ((([(t, .inr (4, [.ref aq, .int 0])), (aq, .inl (cO, 2, .inr (.inr (.inr (.inr (arF k ad))))))] : va_W) ++ (List.range k).flatMap (wStr cI ad vs)) ++ wSt cI adk vk).set 1 (aq, z) = [(t, .inr (4, [.ref aq, .int 0])), (aq, z)] ++ (List.range (k + 1)).flatMap (wStr cI (fun j => if j = k then adk else ad j) (fun j => if j = k then vk else vs j)) := by
        intro z
        rw [← sts_push]
        show (([(t, .inr (4, [.ref aq, .int 0])), (aq, z)] : va_W) ++ (List.range k).flatMap (wStr cI ad vs)) ++ wSt cI adk vk = _
        rw [List.append_assoc]
      rw [ew] at hP hD
      refine lv_iinc (v := nI k + 1) (lv' := [(1, .int (nI k + 1)), (0, .ref t)]) hx hb dX6_init_32 hl (k := 0) rfl rfl (by decide) rfl (fun ls hl => ?_)
      refine lv_goto (tgt := 14) hx hb dX6_init_35 (by decide) ?_
      rw [show nI k + 1 = nI (k + 1) from iI_s k] at hl
      have h9 := ih (k + 1) (by omega) H locs ls _ _ (fun j hj => ?_) hP hD hS hl
      · have ec : 1 + 12 * (k + 1) = 1 + 12 * k + 1 + 11 := by omega
        have es : 2 + 290 * (k + 1) = 2 + 290 * k + 7 + 283 := by omega
        rw [ec, es] at h9
        exact h9
      · show NSV (if j = k then vk else vs j)
        by_cases r : j = k
        · rw [if_pos r]
          exact hn
        · rw [if_neg r]
          exact hN j (by omega)
  exact key 2 0 (by omega) H locs ls (fun _ _ => 0) (fun _ => wSv0) (fun j hj => absurd hj (Nat.not_lt_zero j)) (arr_swap (fun j hj => rfl) hP) (arr_swapD hD) hS hl
