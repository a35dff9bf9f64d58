/-! the words at the entry -/
theorem ar_prim {s : State} {A : Array Value} {ty : FieldType} (hp : ∀ C, ty ≠ .object C) (h : (Cond.arrayClass ty).before A s = true) : ∃ cA, ArrOfT s cA ty ∧ va_RA s cA ty := by
  obtain ⟨cA, k, comp, h1, h2, h3⟩ := Cond.arrayClass_spec h
  refine ⟨cA, fun n z => ⟨(fun k h => by cases h), k, h2, comp, h3⟩, ?_⟩
  cases ty with
  | object C => exact absurd rfl (hp C)
  | _ => exact h1
theorem ar_obj {s : State} {A : Array Value} {C : String} (h : (Cond.arrayOver (.object C)).before A s = true) : ∃ cA, ArrOfT s cA (.object C) ∧ va_RA s cA (.object C) := by
  obtain ⟨comp, cA, k, h1, h2, h3, h4, h5⟩ := Cond.arrayOver_spec h
  exact ⟨cA, fun n z => ⟨(fun k h => by cases h), k, h3, comp, h4⟩, k, comp, h3, h4, h1, h5⟩
theorem NWl_in : ∀ w ∈ NWl, w ∈ lw_tbl := by decide +kernel
theorem NWl_on : ∀ w ∈ NWl, w.onTables = true := by decide +kernel
theorem KK_0 {s : State} {b : Nat} (hts : ∀ w ∈ lw_tbl, w.before #[.ref b] s = true) : ∃ (D : va_G) (cC cI cJ cZ cO : ClassId), KK D (tyA cC cI cJ cZ cO) s := by
  obtain ⟨c0, i0, k0⟩ := u_known (C := RX0) (T := TX0) (N := 5) (n := 5) hts inX0 (hts (.instantiable RX0 5) (by decide +kernel))
  obtain ⟨c1, i1, k1⟩ := u_known (C := RX1) (T := TX1) (N := 3) (n := 3) hts inX1 (hts (.instantiable RX1 3) (by decide +kernel))
  obtain ⟨c2, i2, k2⟩ := u_known (C := RX3) (T := TX3) (N := 1) (n := 1) hts inX3 (hts (.instantiable RX3 1) (by decide +kernel))
  obtain ⟨c3, i3, k3⟩ := u_known (C := RX4) (T := TX4) (N := 6) (n := 6) hts inX4 (hts (.instantiable RX4 6) (by decide +kernel))
  obtain ⟨c4, i4, k4⟩ := u_known (C := RX6) (T := TX6) (N := 2) (n := 2) hts inX6 (hts (.instantiable RX6 2) (by decide +kernel))
  obtain ⟨c5, i5, k5⟩ := u_known (C := RX7) (T := TX7) (N := 7) (n := 7) hts inX7 (hts (.instantiable RX7 7) (by decide +kernel))
  obtain ⟨c6, i6, k6⟩ := u_known (C := RX8) (T := TX8) (N := 2) (n := 2) hts inX8 (hts (.instantiable RX8 2) (by decide +kernel))
  obtain ⟨c7, i7, k7⟩ := u_known (C := RX9) (T := TX9) (N := 6) (n := 6) hts inX9 (hts (.instantiable RX9 6) (by decide +kernel))
  obtain ⟨cC, aC, rC⟩ := ar_prim (ty := .char) (fun C h => by cases h) (hts (.arrayClass .char) (by decide +kernel))
  obtain ⟨cI, aI, rI⟩ := ar_prim (ty := .int) (fun C h => by cases h) (hts (.arrayClass .int) (by decide +kernel))
  obtain ⟨cO, aO, rO⟩ := ar_obj (C := "TaughtRemotes$Street") (hts (.arrayOver (.object "TaughtRemotes$Street")) (by decide +kernel))
  refine ⟨(fun k => match k with | 0 => c0 | 1 => c1 | 2 => c2 | 3 => c3 | 4 => c4 | 5 => c5 | 6 => c6 | _ => c7, fun k => match k with | 0 => i0 | 1 => i1 | 2 => i2 | 3 => i3 | 4 => i4 | 5 => i5 | 6 => i6 | _ => i7), cC, cI, cI, cI, cO, ⟨?_, ?_⟩, ?_, trivial⟩
  · intro k q hq
    match k, hq with
    | 0, hq => cases hq; exact k0
    | 1, hq => cases hq; exact k1
    | 2, hq => cases hq; exact k2
    | 3, hq => cases hq; exact k3
    | 4, hq => cases hq; exact k4
    | 5, hq => cases hq; exact k5
    | 6, hq => cases hq; exact k6
    | 7, hq => cases hq; exact k7
    | k + 8, hq => cases hq
  · intro k q hq
    match k, hq with
    | 0, hq => cases hq; exact ⟨aC, rC⟩
    | 1, hq => cases hq; exact ⟨aI, rI⟩
    | 2, hq => cases hq; exact ⟨aI, rI⟩
    | 3, hq => cases hq; exact ⟨aI, rI⟩
    | 4, hq => cases hq; exact ⟨aO, rO⟩
    | k + 5, hq => cases hq
  · exact fun w hw => va_Nw.of (NWl_on w hw) (hts w (NWl_in w hw))
set_option maxHeartbeats 4000000 in
set_option maxRecDepth 100000 in
theorem whole_start {p : Program} {e : Env} {s : State} {m : MethodId} {below : List Frame} {meth : Method} {c : Code} (l : Launch) (hflags : l.flags = flags0) {b L : Nat} {xs : Nat → Int32} (hL : L ≤ 260) (C0 : lw_At p s m meth c b L xs) : W p l e room_1 s m #[Value.ref b] below meth c s.heap [] 0 0 (lw_Z below #[Value.ref b] s) (entryFrame m ([Value.ref b] : List Value).toArray 5) := by
  obtain ⟨hx, hb, hr, hml, hown, hts0, hX, hbl, hlocks, hgv⟩ := id C0
  obtain ⟨D, cC, cI, cJ, cZ, cO, hK⟩ := KK_0 hts0
  obtain ⟨A, hA, hAf⟩ : ∃ A : Nat → Prop, (∀ q : Nat, s.heap.size ≤ q → A q) ∧ ∀ q : Nat, A q → s.heap.size ≤ q := ⟨fun q => s.heap.size ≤ q, fun _ h => h, fun _ h => h⟩
  have hbA : ¬ A b := fun h => absurd (hAf b h) (Nat.not_le.mpr hbl)
  have hts : ∀ w ∈ wsL_law, w.before #[Value.ref b] s = true := fun w h => hts0 w (wsL_law_in w h)
  have hcf : cf p m c cL_law 5 s #[.ref b] wsL_law RL := ⟨hx, hb, hml, hown, hts⟩
  have hAO : va_AO "TaughtRemotes$Street" s := va_AO.of (hts0 (.arrayOver (.object "TaughtRemotes$Street")) (by decide +kernel))
  have hS : va_S A s.heap s.heap [] := va_S.rf
  have hP : va_P D vwCl [] s.heap := fun k q h => by simp at h
  have hD : va_D A [] := ⟨fun i j p q h => by simp at h, fun k q h => by simp at h⟩
  have hl := lv_entry ([.ref b]) (n := 5) (Nat.le_of_ble_eq_true rfl)
  rw [lg_entry_eq]
  generalize (lg_sl ([.ref b]) ++ List.replicate (5 - (lg_sl ([.ref b])).length) Slot.unset).toArray = ls at hl ⊢
  have hl : lv_has ls 5 [(0, .ref b)] := hl
  refine va_new (ci := 7) (fs := [.null, .null, .null, .null, .null, .null]) (C := RX9) (T := TX9) (N := 6) hx hb hts inlX9 tyX9 tyX9_ok hown (hts0 (.classLink RL 10 RX9) (by decide +kernel)) (hts0 (.instantiable RX9 6) (by decide +kernel)) (hts0 (.initialized RX9) (by decide +kernel)) hK.1 hP hD hS hA rfl (by decide +kernel) (Nat.le_of_ble_eq_true rfl) (Nat.le_of_ble_eq_true rfl) dL_law_0 (fun t H (hP : va_P D vwCl ([] ++ [(t, .inr (7, [.null, .null, .null, .null, .null, .null]))]) H) (hD : va_D A ([] ++ [(t, .inr (7, [.null, .null, .null, .null, .null, .null]))])) hS => ?_)
  refine lv_dup hx hb dL_law_3 rfl ?_
  refine ncI (wr := []) (wc := [(t, .inr (7, [.null, .null, .null, .null, .null, .null]))]) [.ref t] hcf (c_X9_init l D cC cI cJ cZ cO t) (cwI 0 hts gL_law_X9_init rfl rfl rfl (hts0 (.initialized RX9) (by decide +kernel)) (hts0 (.methodLink RL 78 yX9_init) (by decide +kernel)) (hts0 (.instanceMethod yX9_init) (by decide +kernel)) rfl (by decide +kernel) ⟨Nat.le_of_ble_eq_true rfl, Nat.le_of_ble_eq_true rfl⟩) ⟨Nat.le_of_ble_eq_true rfl, Nat.le_of_ble_eq_true rfl⟩ hAO hK hP hD hS hA hl.1 (Nat.le_of_ble_eq_true rfl) dL_law_4 (fun H locs w1 hF (hP : va_P D vwCl w1 H) (hD : va_D A w1) hS => ?_)
  obtain ⟨ad1, v1, ad2, v2, mq, ma, mad, ms, sq, sa, sad, sl, xq, xa, rq, rfl, n1, n2⟩ := hF
  refine lv_astore_n (lv' := [(1, .ref t), (0, .ref b)]) hx hb dL_law_7 rfl hl (by decide) rfl (fun ls hl => ?_)
  obtain ⟨vc, vh, vk, vp, vw, vn, vdh, vdc, vdt, vdn, von, vrk, vH, vno, vre, vx⟩ := v1
  obtain ⟨f1, f2, f3, f4v, f5, f6, f7, f8⟩ := n1
  obtain rfl : vn = 0 := f1
  obtain rfl : vdn = 0 := f2
  obtain rfl : von = 0 := f3
  obtain rfl : vH = 4 := f5
  obtain rfl : vno = 1 := f6
  obtain rfl : vre = 2 := f7
  obtain rfl : vx = 1 := f8
  obtain ⟨uc, uh, uk, up, uw, un, udh, udc, udt, udn, uon, urk, uH, uno, ure, ux⟩ := v2
  obtain ⟨f1, f2, f3, f4u, f5, f6, f7, f8⟩ := n2
  have hP : va_P D vwCl (List.flatten [[(t, .inr (7, [.ref (ad1 0), .ref (ad2 0), .ref mq, .ref sq, .ref xq, .ref rq]))], [(ad1 0, .inr (5, [.ref (ad1 1), .ref (ad1 7), .ref (ad1 11), .int 4, .int 1, .int 2, .long 1]))], [(ad1 1, .inr (3, [.ref (ad1 2), .ref (ad1 3), .ref (ad1 4), .ref (ad1 5), .ref (ad1 6), .int 0]))], [(ad1 2, .inl (cI, 40, .inl vc))], [(ad1 3, .inl (cI, 40, .inl vh))], [(ad1 4, .inl (cI, 40, .inl vk))], [(ad1 5, .inl (cI, 40, .inl vp))], [(ad1 6, .inl (cI, 40, .inl vw))], [(ad1 7, .inr (0, [.ref (ad1 8), .ref (ad1 9), .ref (ad1 10), .int 0, .int 0]))], [(ad1 8, .inl (cI, 6, .inl vdh))], [(ad1 9, .inl (cI, 6, .inl vdc))], [(ad1 10, .inl (cI, 6, .inl vdt))], [(ad1 11, .inl (cI, 54, .inl vrk))], [(ad2 0, .inr (5, [.ref (ad2 1), .ref (ad2 7), .ref (ad2 11), .int uH, .int uno, .int ure, .long ux]))], [(ad2 1, .inr (3, [.ref (ad2 2), .ref (ad2 3), .ref (ad2 4), .ref (ad2 5), .ref (ad2 6), .int un]))], [(ad2 2, .inl (cI, 40, .inl uc))], [(ad2 3, .inl (cI, 40, .inl uh))], [(ad2 4, .inl (cI, 40, .inl uk))], [(ad2 5, .inl (cI, 40, .inl up))], [(ad2 6, .inl (cI, 40, .inl uw))], [(ad2 7, .inr (0, [.ref (ad2 8), .ref (ad2 9), .ref (ad2 10), .int udn, .int uon]))], [(ad2 8, .inl (cI, 6, .inl udh))], [(ad2 9, .inl (cI, 6, .inl udc))], [(ad2 10, .inl (cI, 6, .inl udt))], [(ad2 11, .inl (cI, 54, .inl urk))], [(mq, .inr (1, [.ref ma, .int 0, .int 0]))], wSts cI cO ma mad 14 ms, [(sq, .inr (4, [.ref sa, .int 0]))], wSts cI cO sa sad 2 sl, [(xq, .inr (6, [.ref xa, .int 0]))], [(xa, .inl (cC, 120, .inl (fun _ => 0)))], [(rq, .inr (2, [.int 0]))]]) H := hP
  have hD : va_D A (List.flatten [[(t, .inr (7, [.ref (ad1 0), .ref (ad2 0), .ref mq, .ref sq, .ref xq, .ref rq]))], [(ad1 0, .inr (5, [.ref (ad1 1), .ref (ad1 7), .ref (ad1 11), .int 4, .int 1, .int 2, .long 1]))], [(ad1 1, .inr (3, [.ref (ad1 2), .ref (ad1 3), .ref (ad1 4), .ref (ad1 5), .ref (ad1 6), .int 0]))], [(ad1 2, .inl (cI, 40, .inl vc))], [(ad1 3, .inl (cI, 40, .inl vh))], [(ad1 4, .inl (cI, 40, .inl vk))], [(ad1 5, .inl (cI, 40, .inl vp))], [(ad1 6, .inl (cI, 40, .inl vw))], [(ad1 7, .inr (0, [.ref (ad1 8), .ref (ad1 9), .ref (ad1 10), .int 0, .int 0]))], [(ad1 8, .inl (cI, 6, .inl vdh))], [(ad1 9, .inl (cI, 6, .inl vdc))], [(ad1 10, .inl (cI, 6, .inl vdt))], [(ad1 11, .inl (cI, 54, .inl vrk))], [(ad2 0, .inr (5, [.ref (ad2 1), .ref (ad2 7), .ref (ad2 11), .int uH, .int uno, .int ure, .long ux]))], [(ad2 1, .inr (3, [.ref (ad2 2), .ref (ad2 3), .ref (ad2 4), .ref (ad2 5), .ref (ad2 6), .int un]))], [(ad2 2, .inl (cI, 40, .inl uc))], [(ad2 3, .inl (cI, 40, .inl uh))], [(ad2 4, .inl (cI, 40, .inl uk))], [(ad2 5, .inl (cI, 40, .inl up))], [(ad2 6, .inl (cI, 40, .inl uw))], [(ad2 7, .inr (0, [.ref (ad2 8), .ref (ad2 9), .ref (ad2 10), .int udn, .int uon]))], [(ad2 8, .inl (cI, 6, .inl udh))], [(ad2 9, .inl (cI, 6, .inl udc))], [(ad2 10, .inl (cI, 6, .inl udt))], [(ad2 11, .inl (cI, 54, .inl urk))], [(mq, .inr (1, [.ref ma, .int 0, .int 0]))], wSts cI cO ma mad 14 ms, [(sq, .inr (4, [.ref sa, .int 0]))], wSts cI cO sa sad 2 sl, [(xq, .inr (6, [.ref xa, .int 0]))], [(xa, .inl (cC, 120, .inl (fun _ => 0)))], [(rq, .inr (2, [.int 0]))]]) := hD
  have hP := seg_P (sg' := [[(t, .inr (7, [.ref (ad1 0), .ref (ad2 0), .ref mq, .ref sq, .ref xq, .ref rq]))], [(ad1 0, .inr (5, [.ref (ad1 1), .ref (ad1 7), .ref (ad1 11), .int 4, .int 1, .int 2, .long 1]))], [(ad1 1, .inr (3, [.ref (ad1 2), .ref (ad1 3), .ref (ad1 4), .ref (ad1 5), .ref (ad1 6), .int 0]))], [(ad1 2, .inl (cI, 40, .inl vc))], [(ad1 3, .inl (cI, 40, .inl vh))], [(ad1 4, .inl (cI, 40, .inl vk))], [(ad1 5, .inl (cI, 40, .inl vp))], [(ad1 6, .inl (cI, 40, .inl vw))], [(ad1 7, .inr (0, [.ref (ad1 8), .ref (ad1 9), .ref (ad1 10), .int 0, .int 0]))], [(ad1 8, .inl (cI, 6, .inl vdh))], [(ad1 9, .inl (cI, 6, .inl vdc))], [(ad1 10, .inl (cI, 6, .inl vdt))], [(ad1 11, .inl (cI, 54, .inl vrk))], [(ad2 0, .inr (5, [.ref (ad2 1), .ref (ad2 7), .ref (ad2 11), .int uH, .int uno, .int ure, .long ux]))], [(ad2 1, .inr (3, [.ref (ad2 2), .ref (ad2 3), .ref (ad2 4), .ref (ad2 5), .ref (ad2 6), .int un]))], [(ad2 2, .inl (cI, 40, .inl uc))], [(ad2 3, .inl (cI, 40, .inl uh))], [(ad2 4, .inl (cI, 40, .inl uk))], [(ad2 5, .inl (cI, 40, .inl up))], [(ad2 6, .inl (cI, 40, .inl uw))], [(ad2 7, .inr (0, [.ref (ad2 8), .ref (ad2 9), .ref (ad2 10), .int udn, .int uon]))], [(ad2 8, .inl (cI, 6, .inl udh))], [(ad2 9, .inl (cI, 6, .inl udc))], [(ad2 10, .inl (cI, 6, .inl udt))], [(ad2 11, .inl (cI, 54, .inl urk))], [(mq, .inr (1, [.ref ma, .int 0, .int 0]))], [(sq, .inr (4, [.ref sa, .int 0]))], [(xq, .inr (6, [.ref xa, .int 0]))], [(xa, .inl (cC, 120, .inl (fun _ => 0)))], [(rq, .inr (2, [.int 0]))], wSts cI cO ma mad 14 ms, wSts cI cO sa sad 2 sl]) hP [0, 1, 2, 3, 4, 5, 6, 7, 8, 9, 10, 11, 12, 13, 14, 15, 16, 17, 18, 19, 20, 21, 22, 23, 24, 25, 27, 29, 30, 31, 26, 28] rfl
  have hD := seg_D (sg' := [[(t, .inr (7, [.ref (ad1 0), .ref (ad2 0), .ref mq, .ref sq, .ref xq, .ref rq]))], [(ad1 0, .inr (5, [.ref (ad1 1), .ref (ad1 7), .ref (ad1 11), .int 4, .int 1, .int 2, .long 1]))], [(ad1 1, .inr (3, [.ref (ad1 2), .ref (ad1 3), .ref (ad1 4), .ref (ad1 5), .ref (ad1 6), .int 0]))], [(ad1 2, .inl (cI, 40, .inl vc))], [(ad1 3, .inl (cI, 40, .inl vh))], [(ad1 4, .inl (cI, 40, .inl vk))], [(ad1 5, .inl (cI, 40, .inl vp))], [(ad1 6, .inl (cI, 40, .inl vw))], [(ad1 7, .inr (0, [.ref (ad1 8), .ref (ad1 9), .ref (ad1 10), .int 0, .int 0]))], [(ad1 8, .inl (cI, 6, .inl vdh))], [(ad1 9, .inl (cI, 6, .inl vdc))], [(ad1 10, .inl (cI, 6, .inl vdt))], [(ad1 11, .inl (cI, 54, .inl vrk))], [(ad2 0, .inr (5, [.ref (ad2 1), .ref (ad2 7), .ref (ad2 11), .int uH, .int uno, .int ure, .long ux]))], [(ad2 1, .inr (3, [.ref (ad2 2), .ref (ad2 3), .ref (ad2 4), .ref (ad2 5), .ref (ad2 6), .int un]))], [(ad2 2, .inl (cI, 40, .inl uc))], [(ad2 3, .inl (cI, 40, .inl uh))], [(ad2 4, .inl (cI, 40, .inl uk))], [(ad2 5, .inl (cI, 40, .inl up))], [(ad2 6, .inl (cI, 40, .inl uw))], [(ad2 7, .inr (0, [.ref (ad2 8), .ref (ad2 9), .ref (ad2 10), .int udn, .int uon]))], [(ad2 8, .inl (cI, 6, .inl udh))], [(ad2 9, .inl (cI, 6, .inl udc))], [(ad2 10, .inl (cI, 6, .inl udt))], [(ad2 11, .inl (cI, 54, .inl urk))], [(mq, .inr (1, [.ref ma, .int 0, .int 0]))], [(sq, .inr (4, [.ref sa, .int 0]))], [(xq, .inr (6, [.ref xa, .int 0]))], [(xa, .inl (cC, 120, .inl (fun _ => 0)))], [(rq, .inr (2, [.int 0]))], wSts cI cO ma mad 14 ms, wSts cI cO sa sad 2 sl]) hD [0, 1, 2, 3, 4, 5, 6, 7, 8, 9, 10, 11, 12, 13, 14, 15, 16, 17, 18, 19, 20, 21, 22, 23, 24, 25, 27, 29, 30, 31, 26, 28] (by decide) rfl
  have hf := L_law_ok hL xs vc vh vk vp vw vdh vdc vdt vrk f4v uc uh uk up uw un udh udc udt udn uon urk uH uno ure ux ms sl (fun _ => 0) 0
  refine c_L_law (L := L) (xs := xs) l D cC cI cJ cZ cO t (ad1 0) (ad1 1) (ad1 2) (ad1 3) (ad1 4) (ad1 5) (ad1 6) (ad1 7) (ad1 8) (ad1 9) (ad1 10) (ad1 11) (ad2 0) (ad2 1) (ad2 2) (ad2 3) (ad2 4) (ad2 5) (ad2 6) (ad2 7) (ad2 8) (ad2 9) (ad2 10) (ad2 11) mq ma mad sq sa sad xq xa rq vc vh vk vp vw 0 vdh vdc vdt 0 0 vrk 4 1 2 1 uc uh uk up uw un udh udc udt udn uon urk uH uno ure ux ms 0 0 sl 0 ((fun _ => 0)) 0 0 1 hf hcf hK hA hX hbl hbA hP hD hS hl (fun pc ls H locs cells slots w1 hd hn h1 h2 hP1 hD1 hS1 => ?_)
  refine va_forget (fun q hq => hAf _ (hS1.2.2 q hq)) ?_
  refine W.widen (k := 600086) (n := 7301441) (Nat.le_trans h1 (Nat.le_of_ble_eq_true rfl)) (Nat.le_trans h2 (Nat.le_of_ble_eq_true rfl)) ?_
  exact lw_ret hx hb hr hlocks hd
