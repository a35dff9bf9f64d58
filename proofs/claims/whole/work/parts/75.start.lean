/-! the words at the law's entry -/
theorem and31 (x : Int32) : ∃ k : Nat, k < 32 ∧ x &&& 31 = nI k := by
  refine ⟨x.toBitVec.toNat % 32, Nat.mod_lt _ (by decide), ?_⟩
  apply Int32.toBitVec_inj.mp
  apply BitVec.eq_of_toNat_eq
  rw [Int32.toBitVec_and, BitVec.toNat_and]
  show _ &&& 31 = (BitVec.ofNat 32 _).toNat
  rw [show (31 : Nat) = 2 ^ 5 - 1 from rfl, Nat.and_two_pow_sub_one_eq_mod, BitVec.toNat_ofNat, Nat.mod_eq_of_lt (Nat.lt_of_lt_of_le (Nat.mod_lt _ (by decide)) (by decide))]
theorem ar_prim {s : State} {A : Array Value} {ty : FieldType} (hp : ∀ C, ty ≠ .object C) (h : (Cond.arrayClass ty).before A s = true) : ∃ cA, ArrOfT s cA ty ∧ va_RA s cA ty := by
  obtain ⟨cA, k, comp, h1, h2, h3⟩ := Cond.arrayClass_spec h
  refine ⟨cA, fun n z => ⟨(fun k h => by cases h), k, h2, comp, h3⟩, ?_⟩
  cases ty with
  | object C => exact absurd rfl (hp C)
  | _ => exact h1
theorem ar_obj {s : State} {A : Array Value} {C : String} (h : (Cond.arrayOver (.object C)).before A s = true) : ∃ cA, ArrOfT s cA (.object C) ∧ va_RA s cA (.object C) := by
  obtain ⟨comp, cA, k, h1, h2, h3, h4, h5⟩ := Cond.arrayOver_spec h
  exact ⟨cA, fun n z => ⟨(fun k h => by cases h), k, h3, comp, h4⟩, k, comp, h3, h4, h1, h5⟩
theorem NWl_in : ∀ w ∈ NWl, w ∈ lw_tbl := by decide +kernel
theorem NWl_on : ∀ w ∈ NWl, w.onTables = true := by decide +kernel
set_option maxRecDepth 20000 in
theorem NCl_in : ∀ q ∈ NCl, Cond.not (.castable q.1 q.2) ∈ flatC (Jvm.Cond.and given_1 narrow_1) := by decide +kernel
theorem KK_0 {s : State} {b : Nat} (hts : ∀ w ∈ lw_tbl, w.before #[.ref b] s = true) (hgv : (Jvm.Cond.and given_1 narrow_1).before #[.ref b] s = true) : ∃ (D : va_G) (cC cI cJ cZ cO : ClassId), KK D (tyA cC cI cJ cZ cO) s := by
  obtain ⟨c0, i0, k0⟩ := u_known (C := RX0) (T := TX0) (N := 5) (n := 5) hts inX0 (hts (.instantiable RX0 5) (by decide +kernel))
  obtain ⟨c1, i1, k1⟩ := u_known (C := RX1) (T := TX1) (N := 3) (n := 3) hts inX1 (hts (.instantiable RX1 3) (by decide +kernel))
  obtain ⟨c2, i2, k2⟩ := u_known (C := RX3) (T := TX3) (N := 1) (n := 1) hts inX3 (hts (.instantiable RX3 1) (by decide +kernel))
  obtain ⟨c3, i3, k3⟩ := u_known (C := RX4) (T := TX4) (N := 6) (n := 6) hts inX4 (hts (.instantiable RX4 6) (by decide +kernel))
  obtain ⟨c4, i4, k4⟩ := u_known (C := RX6) (T := TX6) (N := 2) (n := 2) hts inX6 (hts (.instantiable RX6 2) (by decide +kernel))
  obtain ⟨c5, i5, k5⟩ := u_known (C := RX7) (T := TX7) (N := 7) (n := 7) hts inX7 (hts (.instantiable RX7 7) (by decide +kernel))
  obtain ⟨c6, i6, k6⟩ := u_known (C := RX8) (T := TX8) (N := 2) (n := 2) hts inX8 (hts (.instantiable RX8 2) (by decide +kernel))
  obtain ⟨c7, i7, k7⟩ := u_known (C := RX9) (T := TX9) (N := 6) (n := 6) hts inX9 (hts (.instantiable RX9 6) (by decide +kernel))
  obtain ⟨c8, i8, k8⟩ := u_known (C := RX10) (T := TX10) (N := 19) (n := 19) hts inX10 (hts (.instantiable RX10 19) (by decide +kernel))
  obtain ⟨cC, aC, rC⟩ := ar_prim (ty := .char) (fun C h => by cases h) (hts (.arrayClass .char) (by decide +kernel))
  obtain ⟨cI, aI, rI⟩ := ar_prim (ty := .int) (fun C h => by cases h) (hts (.arrayClass .int) (by decide +kernel))
  obtain ⟨cJ, aJ, rJ⟩ := ar_prim (ty := .long) (fun C h => by cases h) (hts (.arrayClass .long) (by decide +kernel))
  obtain ⟨cZ, aZ, rZ⟩ := ar_prim (ty := .boolean) (fun C h => by cases h) (hts (.arrayClass .boolean) (by decide +kernel))
  obtain ⟨cO, aO, rO⟩ := ar_obj (C := "TaughtRemotes$Street") (hts (.arrayOver (.object "TaughtRemotes$Street")) (by decide +kernel))
  have hs := flat_of_before _ hgv
  refine ⟨(fun k => match k with | 0 => c0 | 1 => c1 | 2 => c2 | 3 => c3 | 4 => c4 | 5 => c5 | 6 => c6 | 7 => c7 | _ => c8, fun k => match k with | 0 => i0 | 1 => i1 | 2 => i2 | 3 => i3 | 4 => i4 | 5 => i5 | 6 => i6 | 7 => i7 | _ => i8), cC, cI, cJ, cZ, cO, ⟨?_, ?_⟩, ?_, ?_, ?_⟩
  · intro k q hq
    match k, hq with
    | 0, hq => cases hq; exact k0
    | 1, hq => cases hq; exact k1
    | 2, hq => cases hq; exact k2
    | 3, hq => cases hq; exact k3
    | 4, hq => cases hq; exact k4
    | 5, hq => cases hq; exact k5
    | 6, hq => cases hq; exact k6
    | 7, hq => cases hq; exact k7
    | 8, hq => cases hq; exact k8
    | k + 9, hq => cases hq
  · intro k q hq
    match k, hq with
    | 0, hq => cases hq; exact ⟨aC, rC⟩
    | 1, hq => cases hq; exact ⟨aI, rI⟩
    | 2, hq => cases hq; exact ⟨aJ, rJ⟩
    | 3, hq => cases hq; exact ⟨aZ, rZ⟩
    | 4, hq => cases hq; exact ⟨aO, rO⟩
    | k + 5, hq => cases hq
  · exact fun w hw => va_Nw.of (NWl_on w hw) (hts w (NWl_in w hw))
  · intro q hq
    simp only [NSl, List.mem_cons, List.not_mem_nil, or_false] at hq
    rcases hq with rfl | rfl | rfl
    · obtain ⟨a, c, cell, k, h1, -⟩ := Cond.exactly_spec (hs (.exactly (.string RX9 297) "java/lang/String") (by decide +kernel))
      exact ⟨a, vk_R.of (hts (.stringRef RX9 297 "there is no such place") (by decide +kernel)) h1⟩
    · obtain ⟨a, c, cell, k, h1, -⟩ := Cond.exactly_spec (hs (.exactly (.string RX9 304) "java/lang/String") (by decide +kernel))
      exact ⟨a, vk_R.of (hts (.stringRef RX9 304 "an argument is out of its range") (by decide +kernel)) h1⟩
    · obtain ⟨a, c, cell, k, h1, -⟩ := Cond.exactly_spec (hs (.exactly (.string RX9 309) "java/lang/String") (by decide +kernel))
      exact ⟨a, vk_R.of (hts (.stringRef RX9 309 "the state does not allow this call") (by decide +kernel)) h1⟩
  · exact fun q hq => va_Nc.of (hs _ (NCl_in q hq))
theorem xz_0 {s : State} {b : Nat} (hts : ∀ w ∈ lw_tbl, w.before #[.ref b] s = true) (hgv : (Jvm.Cond.and given_1 narrow_1).before #[.ref b] s = true) : xz (fun q : Nat => s.heap.size ≤ q) s s.heap := by
  have hs := flat_of_before _ hgv
  refine ⟨vx_Zqof (hts (.laysStatic Bundle.tN "UNASSIGNED_STACK" Bundle.steD) (by decide +kernel)) (hts (.initialized Bundle.tN) (by decide +kernel)) (hs (.isRef (.static Bundle.tN "UNASSIGNED_STACK" Bundle.steD)) (by decide +kernel)) (fun a h => Nat.not_le.mpr h), vx_Zqof (hts (.laysStatic Bundle.tN "SUPPRESSED_SENTINEL" Bundle.listD) (by decide +kernel)) (hts (.initialized Bundle.tN) (by decide +kernel)) (hs (.isRef (.static Bundle.tN "SUPPRESSED_SENTINEL" Bundle.listD)) (by decide +kernel)) (fun a h => Nat.not_le.mpr h)⟩
section LOOP
variable {p : Program} {l : Launch} {e : Env} {s : State} {m : MethodId} {below : List Frame} {meth : Method} {c : Code} {QQ : State → Prop}
variable {A : Nat → Prop} {b L : Nat} {xs : Nat → Int32} {D : va_G} {cC cI cJ cZ cO : ClassId} {ad : Nat → Nat} {mad sad : Nat → Nat → Nat}
theorem vin_n {n k L : Nat} (h : n + k < L) (hL : L ≤ 3072) : vp_in (nI n + Int32.ofNat k) L := by
  show vp_in (nI n + nI k) L
  rw [← iI_nat, ← iI_nat, iI_add]
  intro h9
  rcases h9 with h9 | h9
  · exact absurd ((iI_lt (a := (n : Int) + k) (b := 0) (by omega) (by omega) (by omega) (by omega)).mp h9) (by omega)
  · rw [iI_cl (by omega) (by omega)] at h9
    omega
set_option maxHeartbeats 4000000 in
set_option maxRecDepth 100000 in
theorem l_loop (hst : l.stackTraces = false) (hL : L ≤ 3072) (hC : CM p s m c b L xs D cC cI cJ cZ cO A)
    (hend : ∀ (H : Heap) (locs : List Loc) (ls : Array Slot) (cells slots : Nat), cells ≤ room_1.cells → slots ≤ room_1.slots → va_S A s.heap H locs → W p l e room_1 s m #[.ref b] below meth c H locs cells slots QQ (F0 m 2068 ls [])) :
    ∀ (N n cells slots : Nat) (H : Heap) (locs : List Loc) (ls : Array Slot), L ≤ n + 6 * N → n ≤ L → cells + 4 * N ≤ room_1.cells → slots + 24 * N ≤ room_1.slots → GD D A cC cI cJ cZ cO ad mad sad H → va_S A s.heap H locs → lv_has ls 7 (lvs b ad (nI n)) →
      W p l e room_1 s m #[.ref b] below meth c H locs cells slots QQ (F0 m 23 ls []) := by
  intro N
  induction N with
  | zero =>
    intro n cells slots H locs ls h1 h2 h3 h4 hG hS hl
    obtain ⟨hcf, hK, hA, hZ, hX, hbl, hbA⟩ := hC
    have hx := hcf.1
    have hb := hcf.2.1
    refine lv_iload hx hb dL_law_23 (lv_at hl 0 rfl) ?_
    refine lv_aload_n hx hb dL_law_25 rfl (lv_at hl 4 rfl) ?_
    refine va_slen hx hb hX hbl hbA hS dL_law_26 ?_
    refine lv_bipush (v := 6) hx hb dL_law_27 (by decide) ?_
    refine lv_isub hx hb dL_law_29 ?_
    refine lv_icmp_gt (tgt := 2068) hx hb dL_law_30 (by decide) (fun _ => hend H locs ls cells slots (by omega) (by omega) hS) (fun h => ?_)
    exact absurd ((iI_lt (a := (L : Int) - 6) (b := (n : Int)) (by omega) (by omega) (by omega) (by omega)).mpr (by omega)) (by rw [← iI_sub]; exact h)
  | succ N ih =>
    intro n cells slots H locs ls h1 h2 h3 h4 hG hS hl
    have hC9 := hC
    obtain ⟨hcf, hK, hA, hZ, hX, hbl, hbA⟩ := hC
    have hx := hcf.1
    have hb := hcf.2.1
    refine lv_iload hx hb dL_law_23 (lv_at hl 0 rfl) ?_
    refine lv_aload_n hx hb dL_law_25 rfl (lv_at hl 4 rfl) ?_
    refine va_slen hx hb hX hbl hbA hS dL_law_26 ?_
    refine lv_bipush (v := 6) hx hb dL_law_27 (by decide) ?_
    refine lv_isub hx hb dL_law_29 ?_
    refine lv_icmp_gt (tgt := 2068) hx hb dL_law_30 (by decide) (fun _ => hend H locs ls cells slots (by omega) (by omega) hS) (fun h => ?_)
    have h6 : n + 6 ≤ L := by
      rcases Nat.lt_or_ge L (n + 6) with h9 | h9
      · exact absurd ((iI_lt (a := (L : Int) - 6) (b := (n : Int)) (by omega) (by omega) (by omega) (by omega)).mpr (by omega)) (by rw [← iI_sub]; exact h)
      · exact h9
    have hin : ∀ k : Nat, k ≤ 5 → vp_in (nI n + Int32.ofNat k) L := fun k hk => vin_n (by omega) hL
    have kk : ∀ (H1 : Heap) (locs1 : List Loc) (ls1 : Array Slot), GD D A cC cI cJ cZ cO ad mad sad H1 → va_S A s.heap H1 locs1 → lv_has ls1 7 (lvs b ad (nI n)) → W p l e room_1 s m #[.ref b] below meth c H1 locs1 (cells + 4) (slots + 24) QQ (F0 m 2062 ls1 []) := by
      intro H1 locs1 ls1 hG1 hS1 hl1
      refine lv_iinc (v := nI (n + 6)) (lv' := lvs b ad (nI (n + 6))) hx hb dL_law_2062 hl1 (k := 0) rfl ?_ (by decide) rfl (fun ls2 hl2 => ?_)
      · show iI (n : Int) + iI 6 = iI ((n + 6 : Nat) : Int)
        rw [iI_add]
        rfl
      refine lv_goto (tgt := 23) hx hb dL_law_2065 (by decide) ?_
      exact ih (n + 6) (cells + 4) (slots + 24) H1 locs1 ls2 (by omega) h6 (by omega) (by omega) hG1 hS1 hl2
    have hcs : cells + 4 ≤ room_1.cells ∧ slots + 24 ≤ room_1.slots := ⟨by omega, by omega⟩
    refine lv_aload_n hx hb dL_law_33 rfl (lv_at hl 4 rfl) ?_
    refine lv_iload hx hb dL_law_34 (lv_at hl 0 rfl) ?_
    refine va_sld hx hb hX hbl hbA hS (by have := hin 0 (by omega); rw [show nI n + Int32.ofNat 0 = nI n from Int32.add_zero _] at this; exact this) dL_law_36 ?_
    refine lv_bipush (v := 31) hx hb dL_law_37 (by decide) ?_
    refine lv_iand hx hb dL_law_39 ?_
    obtain ⟨k, hk, ek⟩ := and31 (xs (nI n).toNatClampNeg)
    rw [ek]
    rcases (by omega : k = 0 ∨ k = 1 ∨ k = 2 ∨ k = 3 ∨ k = 4 ∨ k = 5 ∨ k = 6 ∨ k = 7 ∨ k = 8 ∨ k = 9 ∨ k = 10 ∨ k = 11 ∨ k = 12 ∨ k = 13 ∨ k = 14 ∨ k = 15 ∨ k = 16 ∨ k = 17 ∨ k = 18 ∨ k = 19 ∨ k = 20 ∨ k = 21 ∨ k = 22 ∨ k = 23 ∨ k = 24 ∨ k = 25 ∨ k = 26 ∨ k = 27 ∨ 28 ≤ k) with rfl | rfl | rfl | rfl | rfl | rfl | rfl | rfl | rfl | rfl | rfl | rfl | rfl | rfl | rfl | rfl | rfl | rfl | rfl | rfl | rfl | rfl | rfl | rfl | rfl | rfl | rfl | rfl | hk2
    · exact lv_tableIn (off := 128) (tgt := 168) hx hb dL_law_40 (by decide) (by decide) (by decide) (by decide) (k_append hst hC9 hcs hin hG hS hl kk)
    · exact lv_tableIn (off := 184) (tgt := 224) hx hb dL_law_40 (by decide) (by decide) (by decide) (by decide) (k_clearText hst hC9 hcs hin hG hS hl kk)
    · exact lv_tableIn (off := 197) (tgt := 237) hx hb dL_law_40 (by decide) (by decide) (by decide) (by decide) (k_errorPosition hst hC9 hcs hin hG hS hl kk)
    · exact lv_tableIn (off := 210) (tgt := 250) hx hb dL_law_40 (by decide) (by decide) (by decide) (by decide) (k_load hst hC9 hcs hin hG hS hl kk)
    · exact lv_tableIn (off := 254) (tgt := 294) hx hb dL_law_40 (by decide) (by decide) (by decide) (by decide) (k_about hst hC9 hcs hin hG hS hl kk)
    · exact lv_tableIn (off := 310) (tgt := 350) hx hb dL_law_40 (by decide) (by decide) (by decide) (by decide) (k_key hst hC9 hcs hin hG hS hl kk)
    · exact lv_tableIn (off := 390) (tgt := 430) hx hb dL_law_40 (by decide) (by decide) (by decide) (by decide) (k_record hst hC9 hcs hin hG hS hl kk)
    · exact lv_tableIn (off := 458) (tgt := 498) hx hb dL_law_40 (by decide) (by decide) (by decide) (by decide) (k_device hst hC9 hcs hin hG hS hl kk)
    · exact lv_tableIn (off := 526) (tgt := 566) hx hb dL_law_40 (by decide) (by decide) (by decide) (by decide) (k_trace hst hC9 hcs hin hG hS hl kk)
    · exact lv_tableIn (off := 606) (tgt := 646) hx hb dL_law_40 (by decide) (by decide) (by decide) (by decide) (k_wentWrong hst hC9 hcs hin hG hS hl kk)
    · exact lv_tableIn (off := 674) (tgt := 714) hx hb dL_law_40 (by decide) (by decide) (by decide) (by decide) (k_common hst hC9 hcs hin hG hS hl kk)
    · exact lv_tableIn (off := 766) (tgt := 806) hx hb dL_law_40 (by decide) (by decide) (by decide) (by decide) (k_accepted hst hC9 hcs hin hG hS hl kk)
    · exact lv_tableIn (off := 834) (tgt := 874) hx hb dL_law_40 (by decide) (by decide) (by decide) (by decide) (k_enter hst hC9 hcs hin hG hS hl kk)
    · exact lv_tableIn (off := 914) (tgt := 954) hx hb dL_law_40 (by decide) (by decide) (by decide) (by decide) (k_teach hst hC9 hcs hin hG hS hl kk)
    · exact lv_tableIn (off := 1006) (tgt := 1046) hx hb dL_law_40 (by decide) (by decide) (by decide) (by decide) (k_erase hst hC9 hcs hin hG hS hl kk)
    · exact lv_tableIn (off := 1074) (tgt := 1114) hx hb dL_law_40 (by decide) (by decide) (by decide) (by decide) (k_press hst hC9 hcs hin hG hS hl kk)
    · exact lv_tableIn (off := 1142) (tgt := 1182) hx hb dL_law_40 (by decide) (by decide) (by decide) (by decide) (k_addDevice hst hC9 hcs hin hG hS hl kk)
    · exact lv_tableIn (off := 1222) (tgt := 1262) hx hb dL_law_40 (by decide) (by decide) (by decide) (by decide) (k_setTolerance hst hC9 hcs hin hG hS hl kk)
    · exact lv_tableIn (off := 1290) (tgt := 1330) hx hb dL_law_40 (by decide) (by decide) (by decide) (by decide) (k_set hst hC9 hcs hin hG hS hl kk)
    · exact lv_tableIn (off := 1358) (tgt := 1398) hx hb dL_law_40 (by decide) (by decide) (by decide) (by decide) (k_undo hst hC9 hcs hin hG hS hl kk)
    · exact lv_tableIn (off := 1402) (tgt := 1442) hx hb dL_law_40 (by decide) (by decide) (by decide) (by decide) (k_wouldBe hst hC9 hcs hin hG hS hl kk)
    · exact lv_tableIn (off := 1482) (tgt := 1522) hx hb dL_law_40 (by decide) (by decide) (by decide) (by decide) (k_handed hst hC9 hcs hin hG hS hl kk)
    · exact lv_tableIn (off := 1562) (tgt := 1602) hx hb dL_law_40 (by decide) (by decide) (by decide) (by decide) (k_bestTeacher hst hC9 hcs hin hG hS hl kk)
    · exact lv_tableIn (off := 1630) (tgt := 1670) hx hb dL_law_40 (by decide) (by decide) (by decide) (by decide) (k_leastTolerance hst hC9 hcs hin hG hS hl kk)
    · exact lv_tableIn (off := 1686) (tgt := 1726) hx hb dL_law_40 (by decide) (by decide) (by decide) (by decide) (k_runScript hst hC9 hcs hin hG hS hl kk)
    · exact lv_tableIn (off := 1786) (tgt := 1826) hx hb dL_law_40 (by decide) (by decide) (by decide) (by decide) (k_simulate hst hC9 hcs hin hG hS hl kk)
    · exact lv_tableIn (off := 1910) (tgt := 1950) hx hb dL_law_40 (by decide) (by decide) (by decide) (by decide) (k_save hst hC9 hcs hin hG hS hl kk)
    · exact lv_tableIn (off := 1966) (tgt := 2006) hx hb dL_law_40 (by decide) (by decide) (by decide) (by decide) (k_restore hst hC9 hcs hin hG hS hl kk)
    · refine lv_tableOut (tgt := 2062) hx hb dL_law_40 (Or.inr ?_) (by decide) (W.widen (by omega) (by omega) (kk H locs ls hG hS hl))
      rw [← iI_nat, iI_T (by omega) (by omega)]
      omega
end LOOP
set_option maxHeartbeats 4000000 in
set_option maxRecDepth 100000 in
theorem whole_start {p : Program} {e : Env} {s : State} {m : MethodId} {below : List Frame} {meth : Method} {c : Code} (l : Launch) (hflags : l.flags = flags0) {b L : Nat} {xs : Nat → Int32} (hL : L ≤ 3072) (C0 : lw_At p s m meth c b L xs) : W p l e room_1 s m #[Value.ref b] below meth c s.heap [] 0 0 (lw_Z below #[Value.ref b] s) (entryFrame m ([Value.ref b] : List Value).toArray 7) := by
  obtain ⟨hx, hb, hr, hml, hown, hts0, hX, hbl, hlocks, hgv⟩ := id C0
  have hst : l.stackTraces = false := by
    unfold Launch.stackTraces
    rw [hflags]
    decide +kernel
  obtain ⟨D, cC, cI, cJ, cZ, cO, hK⟩ := KK_0 hts0 hgv
  have hZ := xz_0 hts0 hgv
  generalize hAe : (fun q : Nat => s.heap.size ≤ q) = A at hZ
  have hA : ∀ q : Nat, s.heap.size ≤ q → A q := fun q h => by rw [← hAe]; exact h
  have hbA : ¬ A b := by rw [← hAe]; exact Nat.not_le.mpr hbl
  have hAf : ∀ q : Nat, A q → s.heap.size ≤ q := fun q h => by rw [← hAe] at h; exact h
  have hts : ∀ w ∈ wsL_law, w.before #[Value.ref b] s = true := fun w h => hts0 w (wsL_law_in w h)
  have hcf : cf p m c cL_law 7 s #[.ref b] wsL_law RL := ⟨hx, hb, hml, hown, hts⟩
  have hC : CM p s m c b L xs D cC cI cJ cZ cO A := ⟨hcf, hK, hA, hZ, hX, hbl, hbA⟩
  have hAO : va_AO "TaughtRemotes$Street" s := va_AO.of (hts0 (.arrayOver (.object "TaughtRemotes$Street")) (by decide +kernel))
  have hend : ∀ (H : Heap) (locs : List Loc) (ls : Array Slot) (cells slots : Nat), cells ≤ room_1.cells → slots ≤ room_1.slots → va_S A s.heap H locs → W p l e room_1 s m #[.ref b] below meth c H locs cells slots (lw_Z below #[Value.ref b] s) (F0 m 2068 ls []) := by
    intro H locs ls cells slots h1 h2 hS
    refine lv_iconst (v := 1) hx hb dL_law_2068 (by decide) ?_
    refine va_forget (fun q hq => hAf _ (hS.2.2 q hq)) ?_
    refine W.widen (k := 601024) (n := 7293034) h1 h2 ?_
    exact lw_ret hx hb hr hlocks dL_law_2069
  have hS : va_S A s.heap s.heap [] := va_S.rf
  have hP : va_P D vwCl [] s.heap := fun k q h => by simp at h
  have hD : va_D A [] := ⟨fun i j p q h => by simp at h, fun k q h => by simp at h⟩
  have hl := lv_entry ([.ref b]) (n := 7) (Nat.le_of_ble_eq_true rfl)
  rw [lg_entry_eq]
  generalize (lg_sl ([.ref b]) ++ List.replicate (7 - (lg_sl ([.ref b])).length) Slot.unset).toArray = ls at hl ⊢
  have hl : lv_has ls 7 [(0, .ref b)] := hl
  refine va_new (ci := 7) (fs := [.null, .null, .null, .null, .null, .null]) (C := RX9) (T := TX9) (N := 6) hx hb hts inlX9 tyX9 tyX9_ok hown (hts0 (.classLink RL 8 RX9) (by decide +kernel)) (hts0 (.instantiable RX9 6) (by decide +kernel)) (hts0 (.initialized RX9) (by decide +kernel)) hK.1 hP hD hS hA rfl (by decide +kernel) (Nat.le_of_ble_eq_true rfl) (Nat.le_of_ble_eq_true rfl) dL_law_0 (fun t H (hP : va_P D vwCl ([] ++ [(t, .inr (7, [.null, .null, .null, .null, .null, .null]))]) H) (hD : va_D A ([] ++ [(t, .inr (7, [.null, .null, .null, .null, .null, .null]))])) hS => ?_)
  refine lv_dup hx hb dL_law_3 rfl ?_
  refine ncI (wr := []) (wc := [(t, .inr (7, [.null, .null, .null, .null, .null, .null]))]) [.ref t] hcf (c_X9_init l D cC cI cJ cZ cO t) (cwI 0 hts gL_law_X9_init rfl rfl rfl (hts0 (.initialized RX9) (by decide +kernel)) (hts0 (.methodLink RL 100 yX9_init) (by decide +kernel)) (hts0 (.instanceMethod yX9_init) (by decide +kernel)) rfl (by decide +kernel) ⟨Nat.le_of_ble_eq_true rfl, Nat.le_of_ble_eq_true rfl⟩) ⟨Nat.le_of_ble_eq_true rfl, Nat.le_of_ble_eq_true rfl⟩ hAO hK hP hD hS hA hl.1 (Nat.le_of_ble_eq_true rfl) dL_law_4 (fun H locs w1 hF (hP : va_P D vwCl w1 H) (hD : va_D A w1) hS => ?_)
  obtain ⟨ad1, v1, ad2, v2, mq, ma, mad, ms, sq, sa, sad, sl, xq, xa, rq, rfl, n1, n2⟩ := hF
  refine lv_astore_n (lv' := [(1, .ref t), (0, .ref b)]) hx hb dL_law_7 rfl hl (by decide) rfl (fun ls hl => ?_)
  refine va_new (ci := 8) (fs := [.null, .long 0, .null, .long 0, .null, .null, .int 0, .null, .null, .null, .null, .int 0, .int 0, .int 0, .int 0, .int 0, .int 0, .int 0, .int 0]) (C := RX10) (T := TX10) (N := 19) hx hb hts inlX10 tyX10 tyX10_ok hown (hts0 (.classLink RL 101 RX10) (by decide +kernel)) (hts0 (.instantiable RX10 19) (by decide +kernel)) (hts0 (.initialized RX10) (by decide +kernel)) hK.1 hP hD hS hA rfl (by decide +kernel) (Nat.le_of_ble_eq_true rfl) (Nat.le_of_ble_eq_true rfl) dL_law_8 (fun mt H (hP : va_P D vwCl ((List.flatten [[(t, .inr (7, [.ref (ad1 0), .ref (ad2 0), .ref mq, .ref sq, .ref xq, .ref rq]))], wSt cI ad1 v1, wSt cI ad2 v2, [(mq, .inr (1, [.ref ma, .int 0, .int 0]))], wSts cI cO ma mad 14 ms, [(sq, .inr (4, [.ref sa, .int 0]))], wSts cI cO sa sad 2 sl, [(xq, .inr (6, [.ref xa, .int 0])), (xa, .inl (cC, 120, .inl (fun _ => 0)))], [(rq, .inr (2, [.int 0]))]]) ++ [(mt, .inr (8, [.null, .long 0, .null, .long 0, .null, .null, .int 0, .null, .null, .null, .null, .int 0, .int 0, .int 0, .int 0, .int 0, .int 0, .int 0, .int 0]))]) H) (hD : va_D A ((List.flatten [[(t, .inr (7, [.ref (ad1 0), .ref (ad2 0), .ref mq, .ref sq, .ref xq, .ref rq]))], wSt cI ad1 v1, wSt cI ad2 v2, [(mq, .inr (1, [.ref ma, .int 0, .int 0]))], wSts cI cO ma mad 14 ms, [(sq, .inr (4, [.ref sa, .int 0]))], wSts cI cO sa sad 2 sl, [(xq, .inr (6, [.ref xa, .int 0])), (xa, .inl (cC, 120, .inl (fun _ => 0)))], [(rq, .inr (2, [.int 0]))]]) ++ [(mt, .inr (8, [.null, .long 0, .null, .long 0, .null, .null, .int 0, .null, .null, .null, .null, .int 0, .int 0, .int 0, .int 0, .int 0, .int 0, .int 0, .int 0]))])) hS => ?_)
  refine lv_dup hx hb dL_law_11 rfl ?_
  refine ncI (wr := (List.flatten [[(t, .inr (7, [.ref (ad1 0), .ref (ad2 0), .ref mq, .ref sq, .ref xq, .ref rq]))], wSt cI ad1 v1, wSt cI ad2 v2, [(mq, .inr (1, [.ref ma, .int 0, .int 0]))], wSts cI cO ma mad 14 ms, [(sq, .inr (4, [.ref sa, .int 0]))], wSts cI cO sa sad 2 sl, [(xq, .inr (6, [.ref xa, .int 0])), (xa, .inl (cC, 120, .inl (fun _ => 0)))], [(rq, .inr (2, [.int 0]))]])) (wc := [(mt, .inr (8, [.null, .long 0, .null, .long 0, .null, .null, .int 0, .null, .null, .null, .null, .int 0, .int 0, .int 0, .int 0, .int 0, .int 0, .int 0, .int 0]))]) [.ref mt] hcf (c_X10_init l D cC cI cJ cZ cO mt) (cwI 0 hts gL_law_X10_init rfl rfl rfl (hts0 (.initialized RX10) (by decide +kernel)) (hts0 (.methodLink RL 103 yX10_init) (by decide +kernel)) (hts0 (.instanceMethod yX10_init) (by decide +kernel)) rfl (by decide +kernel) ⟨Nat.le_of_ble_eq_true rfl, Nat.le_of_ble_eq_true rfl⟩) ⟨Nat.le_of_ble_eq_true rfl, Nat.le_of_ble_eq_true rfl⟩ hAO hK hP hD hS hA hl.1 (Nat.le_of_ble_eq_true rfl) dL_law_12 (fun H locs w1 hF hP hD hS => ?_)
  obtain ⟨tq, ts, tr, trx, tsl, tslx, tiv, ttx, rfl⟩ := hF
  refine lv_astore_n (lv' := [(2, .ref mt), (1, .ref t), (0, .ref b)]) hx hb dL_law_15 rfl hl (by decide) rfl (fun ls hl => ?_)
  refine lv_iconst (v := 1) hx hb dL_law_16 (by decide) ?_
  refine r_newa (atype := .long) 2 (a0 := (1, .inr (.inl (fun _ => 0)))) (N' := 1) hx hb (hts0 (.arrayClass .long) (by decide +kernel)) rfl hK rfl hP hD hS hA (fun _ => rfl) (by decide) (by decide) (Nat.le_of_ble_eq_true rfl) (Nat.le_of_ble_eq_true rfl) (Nat.le_of_ble_eq_true rfl) dL_law_17 (fun oq H hP hD hS => ?_)
  refine lv_astore_n (lv' := [(3, .ref oq), (2, .ref mt), (1, .ref t), (0, .ref b)]) hx hb dL_law_19 rfl hl (by decide) rfl (fun ls hl => ?_)
  refine lv_iconst (v := 0) hx hb dL_law_20 (by decide) ?_
  refine lv_istore (lv' := [(4, .int 0), (3, .ref oq), (2, .ref mt), (1, .ref t), (0, .ref b)]) hx hb dL_law_21 hl (by decide) rfl (fun ls hl => ?_)
  obtain ⟨vc, vh, vk, vp, vw, vn, vdh, vdc, vdt, vdn, von, vrk, vH, vno, vre, vx⟩ := v1
  obtain ⟨f1, f2, f3, f4v, f5, f6, f7, f8⟩ := n1
  obtain rfl : vn = 0 := f1
  obtain rfl : vdn = 0 := f2
  obtain rfl : von = 0 := f3
  obtain rfl : vH = 4 := f5
  obtain rfl : vno = 1 := f6
  obtain rfl : vre = 2 := f7
  obtain rfl : vx = 1 := f8
  obtain ⟨uc, uh, uk, up, uw, un, udh, udc, udt, udn, uon, urk, uH, uno, ure, ux⟩ := v2
  obtain ⟨f1, f2, f3, f4u, f5, f6, f7, f8⟩ := n2
  have hP : va_P D vwCl ((List.flatten [[(t, .inr (7, [.ref (ad1 0), .ref (ad2 0), .ref mq, .ref sq, .ref xq, .ref rq]))], [(ad1 0, .inr (5, [.ref (ad1 1), .ref (ad1 7), .ref (ad1 11), .int 4, .int 1, .int 2, .long 1]))], [(ad1 1, .inr (3, [.ref (ad1 2), .ref (ad1 3), .ref (ad1 4), .ref (ad1 5), .ref (ad1 6), .int 0]))], [(ad1 2, .inl (cI, 40, .inl vc))], [(ad1 3, .inl (cI, 40, .inl vh))], [(ad1 4, .inl (cI, 40, .inl vk))], [(ad1 5, .inl (cI, 40, .inl vp))], [(ad1 6, .inl (cI, 40, .inl vw))], [(ad1 7, .inr (0, [.ref (ad1 8), .ref (ad1 9), .ref (ad1 10), .int 0, .int 0]))], [(ad1 8, .inl (cI, 6, .inl vdh))], [(ad1 9, .inl (cI, 6, .inl vdc))], [(ad1 10, .inl (cI, 6, .inl vdt))], [(ad1 11, .inl (cI, 54, .inl vrk))], [(ad2 0, .inr (5, [.ref (ad2 1), .ref (ad2 7), .ref (ad2 11), .int uH, .int uno, .int ure, .long ux]))], [(ad2 1, .inr (3, [.ref (ad2 2), .ref (ad2 3), .ref (ad2 4), .ref (ad2 5), .ref (ad2 6), .int un]))], [(ad2 2, .inl (cI, 40, .inl uc))], [(ad2 3, .inl (cI, 40, .inl uh))], [(ad2 4, .inl (cI, 40, .inl uk))], [(ad2 5, .inl (cI, 40, .inl up))], [(ad2 6, .inl (cI, 40, .inl uw))], [(ad2 7, .inr (0, [.ref (ad2 8), .ref (ad2 9), .ref (ad2 10), .int udn, .int uon]))], [(ad2 8, .inl (cI, 6, .inl udh))], [(ad2 9, .inl (cI, 6, .inl udc))], [(ad2 10, .inl (cI, 6, .inl udt))], [(ad2 11, .inl (cI, 54, .inl urk))], [(mq, .inr (1, [.ref ma, .int 0, .int 0]))], wSts cI cO ma mad 14 ms, [(sq, .inr (4, [.ref sa, .int 0]))], wSts cI cO sa sad 2 sl, [(xq, .inr (6, [.ref xa, .int 0]))], [(xa, .inl (cC, 120, .inl (fun _ => 0)))], [(rq, .inr (2, [.int 0]))]] ++ [(mt, .inr (8, [.ref tq, .long 1, .ref ts, .long 0, .ref tr, .ref trx, .int 0, .ref tsl, .ref tslx, .ref tiv, .ref ttx, .int 0, .int 0, .int 0, .int 0, .int 0, .int 0, .int 0, .int 0])), (tq, .inl (cI, 283, .inl Qnew)), (ts, .inl (cI, 283, .inl (fun _ => 0))), (tr, .inl (cI, 3962, .inl (fun _ => 0))), (trx, .inl (cJ, 14, .inr (.inl (fun _ => 0)))), (tsl, .inl (cI, 566, .inl (fun _ => 0))), (tslx, .inl (cJ, 2, .inr (.inl (fun _ => 0)))), (tiv, .inl (cZ, 2, .inl (fun _ => 0))), (ttx, .inl (cI, 120, .inl (fun _ => 0)))]) ++ [(oq, .inl (cJ, 1, .inr (.inl (fun _ => 0))))]) H := hP
  have hD : va_D A ((List.flatten [[(t, .inr (7, [.ref (ad1 0), .ref (ad2 0), .ref mq, .ref sq, .ref xq, .ref rq]))], [(ad1 0, .inr (5, [.ref (ad1 1), .ref (ad1 7), .ref (ad1 11), .int 4, .int 1, .int 2, .long 1]))], [(ad1 1, .inr (3, [.ref (ad1 2), .ref (ad1 3), .ref (ad1 4), .ref (ad1 5), .ref (ad1 6), .int 0]))], [(ad1 2, .inl (cI, 40, .inl vc))], [(ad1 3, .inl (cI, 40, .inl vh))], [(ad1 4, .inl (cI, 40, .inl vk))], [(ad1 5, .inl (cI, 40, .inl vp))], [(ad1 6, .inl (cI, 40, .inl vw))], [(ad1 7, .inr (0, [.ref (ad1 8), .ref (ad1 9), .ref (ad1 10), .int 0, .int 0]))], [(ad1 8, .inl (cI, 6, .inl vdh))], [(ad1 9, .inl (cI, 6, .inl vdc))], [(ad1 10, .inl (cI, 6, .inl vdt))], [(ad1 11, .inl (cI, 54, .inl vrk))], [(ad2 0, .inr (5, [.ref (ad2 1), .ref (ad2 7), .ref (ad2 11), .int uH, .int uno, .int ure, .long ux]))], [(ad2 1, .inr (3, [.ref (ad2 2), .ref (ad2 3), .ref (ad2 4), .ref (ad2 5), .ref (ad2 6), .int un]))], [(ad2 2, .inl (cI, 40, .inl uc))], [(ad2 3, .inl (cI, 40, .inl uh))], [(ad2 4, .inl (cI, 40, .inl uk))], [(ad2 5, .inl (cI, 40, .inl up))], [(ad2 6, .inl (cI, 40, .inl uw))], [(ad2 7, .inr (0, [.ref (ad2 8), .ref (ad2 9), .ref (ad2 10), .int udn, .int uon]))], [(ad2 8, .inl (cI, 6, .inl udh))], [(ad2 9, .inl (cI, 6, .inl udc))], [(ad2 10, .inl (cI, 6, .inl udt))], [(ad2 11, .inl (cI, 54, .inl urk))], [(mq, .inr (1, [.ref ma, .int 0, .int 0]))], wSts cI cO ma mad 14 ms, [(sq, .inr (4, [.ref sa, .int 0]))], wSts cI cO sa sad 2 sl, [(xq, .inr (6, [.ref xa, .int 0]))], [(xa, .inl (cC, 120, .inl (fun _ => 0)))], [(rq, .inr (2, [.int 0]))]] ++ [(mt, .inr (8, [.ref tq, .long 1, .ref ts, .long 0, .ref tr, .ref trx, .int 0, .ref tsl, .ref tslx, .ref tiv, .ref ttx, .int 0, .int 0, .int 0, .int 0, .int 0, .int 0, .int 0, .int 0])), (tq, .inl (cI, 283, .inl Qnew)), (ts, .inl (cI, 283, .inl (fun _ => 0))), (tr, .inl (cI, 3962, .inl (fun _ => 0))), (trx, .inl (cJ, 14, .inr (.inl (fun _ => 0)))), (tsl, .inl (cI, 566, .inl (fun _ => 0))), (tslx, .inl (cJ, 2, .inr (.inl (fun _ => 0)))), (tiv, .inl (cZ, 2, .inl (fun _ => 0))), (ttx, .inl (cI, 120, .inl (fun _ => 0)))]) ++ [(oq, .inl (cJ, 1, .inr (.inl (fun _ => 0))))]) := hD
  have eW : (List.flatten [[(t, .inr (7, [.ref (ad1 0), .ref (ad2 0), .ref mq, .ref sq, .ref xq, .ref rq]))], [(ad1 0, .inr (5, [.ref (ad1 1), .ref (ad1 7), .ref (ad1 11), .int 4, .int 1, .int 2, .long 1]))], [(ad1 1, .inr (3, [.ref (ad1 2), .ref (ad1 3), .ref (ad1 4), .ref (ad1 5), .ref (ad1 6), .int 0]))], [(ad1 2, .inl (cI, 40, .inl vc))], [(ad1 3, .inl (cI, 40, .inl vh))], [(ad1 4, .inl (cI, 40, .inl vk))], [(ad1 5, .inl (cI, 40, .inl vp))], [(ad1 6, .inl (cI, 40, .inl vw))], [(ad1 7, .inr (0, [.ref (ad1 8), .ref (ad1 9), .ref (ad1 10), .int 0, .int 0]))], [(ad1 8, .inl (cI, 6, .inl vdh))], [(ad1 9, .inl (cI, 6, .inl vdc))], [(ad1 10, .inl (cI, 6, .inl vdt))], [(ad1 11, .inl (cI, 54, .inl vrk))], [(ad2 0, .inr (5, [.ref (ad2 1), .ref (ad2 7), .ref (ad2 11), .int uH, .int uno, .int ure, .long ux]))], [(ad2 1, .inr (3, [.ref (ad2 2), .ref (ad2 3), .ref (ad2 4), .ref (ad2 5), .ref (ad2 6), .int un]))], [(ad2 2, .inl (cI, 40, .inl uc))], [(ad2 3, .inl (cI, 40, .inl uh))], [(ad2 4, .inl (cI, 40, .inl uk))], [(ad2 5, .inl (cI, 40, .inl up))], [(ad2 6, .inl (cI, 40, .inl uw))], [(ad2 7, .inr (0, [.ref (ad2 8), .ref (ad2 9), .ref (ad2 10), .int udn, .int uon]))], [(ad2 8, .inl (cI, 6, .inl udh))], [(ad2 9, .inl (cI, 6, .inl udc))], [(ad2 10, .inl (cI, 6, .inl udt))], [(ad2 11, .inl (cI, 54, .inl urk))], [(mq, .inr (1, [.ref ma, .int 0, .int 0]))], wSts cI cO ma mad 14 ms, [(sq, .inr (4, [.ref sa, .int 0]))], wSts cI cO sa sad 2 sl, [(xq, .inr (6, [.ref xa, .int 0]))], [(xa, .inl (cC, 120, .inl (fun _ => 0)))], [(rq, .inr (2, [.int 0]))]] ++ [(mt, .inr (8, [.ref tq, .long 1, .ref ts, .long 0, .ref tr, .ref trx, .int 0, .ref tsl, .ref tslx, .ref tiv, .ref ttx, .int 0, .int 0, .int 0, .int 0, .int 0, .int 0, .int 0, .int 0])), (tq, .inl (cI, 283, .inl Qnew)), (ts, .inl (cI, 283, .inl (fun _ => 0))), (tr, .inl (cI, 3962, .inl (fun _ => 0))), (trx, .inl (cJ, 14, .inr (.inl (fun _ => 0)))), (tsl, .inl (cI, 566, .inl (fun _ => 0))), (tslx, .inl (cJ, 2, .inr (.inl (fun _ => 0)))), (tiv, .inl (cZ, 2, .inl (fun _ => 0))), (ttx, .inl (cI, 120, .inl (fun _ => 0)))]) ++ [(oq, .inl (cJ, 1, .inr (.inl (fun _ => 0))))] = List.flatten ([[(t, .inr (7, [.ref (ad1 0), .ref (ad2 0), .ref mq, .ref sq, .ref xq, .ref rq]))], [(ad1 0, .inr (5, [.ref (ad1 1), .ref (ad1 7), .ref (ad1 11), .int 4, .int 1, .int 2, .long 1]))], [(ad1 1, .inr (3, [.ref (ad1 2), .ref (ad1 3), .ref (ad1 4), .ref (ad1 5), .ref (ad1 6), .int 0]))], [(ad1 2, .inl (cI, 40, .inl vc))], [(ad1 3, .inl (cI, 40, .inl vh))], [(ad1 4, .inl (cI, 40, .inl vk))], [(ad1 5, .inl (cI, 40, .inl vp))], [(ad1 6, .inl (cI, 40, .inl vw))], [(ad1 7, .inr (0, [.ref (ad1 8), .ref (ad1 9), .ref (ad1 10), .int 0, .int 0]))], [(ad1 8, .inl (cI, 6, .inl vdh))], [(ad1 9, .inl (cI, 6, .inl vdc))], [(ad1 10, .inl (cI, 6, .inl vdt))], [(ad1 11, .inl (cI, 54, .inl vrk))], [(ad2 0, .inr (5, [.ref (ad2 1), .ref (ad2 7), .ref (ad2 11), .int uH, .int uno, .int ure, .long ux]))], [(ad2 1, .inr (3, [.ref (ad2 2), .ref (ad2 3), .ref (ad2 4), .ref (ad2 5), .ref (ad2 6), .int un]))], [(ad2 2, .inl (cI, 40, .inl uc))], [(ad2 3, .inl (cI, 40, .inl uh))], [(ad2 4, .inl (cI, 40, .inl uk))], [(ad2 5, .inl (cI, 40, .inl up))], [(ad2 6, .inl (cI, 40, .inl uw))], [(ad2 7, .inr (0, [.ref (ad2 8), .ref (ad2 9), .ref (ad2 10), .int udn, .int uon]))], [(ad2 8, .inl (cI, 6, .inl udh))], [(ad2 9, .inl (cI, 6, .inl udc))], [(ad2 10, .inl (cI, 6, .inl udt))], [(ad2 11, .inl (cI, 54, .inl urk))], [(mq, .inr (1, [.ref ma, .int 0, .int 0]))], wSts cI cO ma mad 14 ms, [(sq, .inr (4, [.ref sa, .int 0]))], wSts cI cO sa sad 2 sl, [(xq, .inr (6, [.ref xa, .int 0]))], [(xa, .inl (cC, 120, .inl (fun _ => 0)))], [(rq, .inr (2, [.int 0]))]] ++ [[(mt, .inr (8, [.ref tq, .long 1, .ref ts, .long 0, .ref tr, .ref trx, .int 0, .ref tsl, .ref tslx, .ref tiv, .ref ttx, .int 0, .int 0, .int 0, .int 0, .int 0, .int 0, .int 0, .int 0])), (tq, .inl (cI, 283, .inl Qnew)), (ts, .inl (cI, 283, .inl (fun _ => 0))), (tr, .inl (cI, 3962, .inl (fun _ => 0))), (trx, .inl (cJ, 14, .inr (.inl (fun _ => 0)))), (tsl, .inl (cI, 566, .inl (fun _ => 0))), (tslx, .inl (cJ, 2, .inr (.inl (fun _ => 0)))), (tiv, .inl (cZ, 2, .inl (fun _ => 0))), (ttx, .inl (cI, 120, .inl (fun _ => 0)))], [(oq, .inl (cJ, 1, .inr (.inl (fun _ => 0))))]]) := by
    rw [List.flatten_append, List.append_assoc]
    rfl
  rw [eW] at hP hD
  have hP := seg_P (sg' := (wcW cC cI cJ cZ cO (fun k => match k with | 0 => t | 1 => ad1 0 | 2 => ad1 1 | 3 => ad1 2 | 4 => ad1 3 | 5 => ad1 4 | 6 => ad1 5 | 7 => ad1 6 | 8 => ad1 7 | 9 => ad1 8 | 10 => ad1 9 | 11 => ad1 10 | 12 => ad1 11 | 13 => ad2 0 | 14 => ad2 1 | 15 => ad2 2 | 16 => ad2 3 | 17 => ad2 4 | 18 => ad2 5 | 19 => ad2 6 | 20 => ad2 7 | 21 => ad2 8 | 22 => ad2 9 | 23 => ad2 10 | 24 => ad2 11 | 25 => mq | 26 => ma | 27 => sq | 28 => sa | 29 => xq | 30 => xa | 31 => rq | 50 => oq | 60 => mt | 61 => tq | 62 => ts | 63 => tr | 64 => trx | 65 => tsl | 66 => tslx | 67 => tiv | 68 => ttx | _ => 0) mad sad vc vh vk vp vw 0 vdh vdc vdt 0 0 vrk 4 1 2 1 uc uh uk up uw un udh udc udt udn uon urk uH uno ure ux ms 0 0 sl 0 (fun _ => 0) 0 0 (fun _ => 0) Qnew (fun _ => 0) 0 (fun _ => 0) (fun _ => 0) 0 (fun _ => 0) (fun _ => 0) (fun _ => 0) (fun _ => 0) 0 0 0 0 0 0 0 0)) hP [0, 1, 2, 3, 4, 5, 6, 7, 8, 9, 10, 11, 12, 13, 14, 15, 16, 17, 18, 19, 20, 21, 22, 23, 24, 25, 27, 29, 30, 31, 33, 32, 26, 28] rfl
  have hD := seg_D (sg' := (wcW cC cI cJ cZ cO (fun k => match k with | 0 => t | 1 => ad1 0 | 2 => ad1 1 | 3 => ad1 2 | 4 => ad1 3 | 5 => ad1 4 | 6 => ad1 5 | 7 => ad1 6 | 8 => ad1 7 | 9 => ad1 8 | 10 => ad1 9 | 11 => ad1 10 | 12 => ad1 11 | 13 => ad2 0 | 14 => ad2 1 | 15 => ad2 2 | 16 => ad2 3 | 17 => ad2 4 | 18 => ad2 5 | 19 => ad2 6 | 20 => ad2 7 | 21 => ad2 8 | 22 => ad2 9 | 23 => ad2 10 | 24 => ad2 11 | 25 => mq | 26 => ma | 27 => sq | 28 => sa | 29 => xq | 30 => xa | 31 => rq | 50 => oq | 60 => mt | 61 => tq | 62 => ts | 63 => tr | 64 => trx | 65 => tsl | 66 => tslx | 67 => tiv | 68 => ttx | _ => 0) mad sad vc vh vk vp vw 0 vdh vdc vdt 0 0 vrk 4 1 2 1 uc uh uk up uw un udh udc udt udn uon urk uH uno ure ux ms 0 0 sl 0 (fun _ => 0) 0 0 (fun _ => 0) Qnew (fun _ => 0) 0 (fun _ => 0) (fun _ => 0) 0 (fun _ => 0) (fun _ => 0) (fun _ => 0) (fun _ => 0) 0 0 0 0 0 0 0 0)) hD [0, 1, 2, 3, 4, 5, 6, 7, 8, 9, 10, 11, 12, 13, 14, 15, 16, 17, 18, 19, 20, 21, 22, 23, 24, 25, 27, 29, 30, 31, 33, 32, 26, 28] (by decide) rfl
  have hG : GD D A cC cI cJ cZ cO (fun k => match k with | 0 => t | 1 => ad1 0 | 2 => ad1 1 | 3 => ad1 2 | 4 => ad1 3 | 5 => ad1 4 | 6 => ad1 5 | 7 => ad1 6 | 8 => ad1 7 | 9 => ad1 8 | 10 => ad1 9 | 11 => ad1 10 | 12 => ad1 11 | 13 => ad2 0 | 14 => ad2 1 | 15 => ad2 2 | 16 => ad2 3 | 17 => ad2 4 | 18 => ad2 5 | 19 => ad2 6 | 20 => ad2 7 | 21 => ad2 8 | 22 => ad2 9 | 23 => ad2 10 | 24 => ad2 11 | 25 => mq | 26 => ma | 27 => sq | 28 => sa | 29 => xq | 30 => xa | 31 => rq | 50 => oq | 60 => mt | 61 => tq | 62 => ts | 63 => tr | 64 => trx | 65 => tsl | 66 => tslx | 67 => tiv | 68 => ttx | _ => 0) mad sad H := ⟨_, _, _, _, _, _, _, _, _, _, _, _, _, _, _, _, _, _, _, _, _, _, _, _, _, _, _, _, _, _, _, _, _, _, _, _, _, _, _, _, _, _, _, _, _, _, _, _, _, _, _, _, _, _, _, _, _, _, nwH (fun _ => 0) 4, hP, hD, nw_WF _ ⟨by decide, by decide⟩, nw_RS _ 4 vc vh vk vp vw vdh vdc vdt f4v, RM_0 ms _ _ ⟨0, by omega, rfl⟩, ⟨0, fun _ _ => 0, by omega, rfl, fun s _ => by rw [Nat.zero_div]; exact ⟨rfl, fun h => absurd h (by decide)⟩⟩, ⟨fun _ => 0, 0, ⟨by omega, fun i hi => absurd hi (by omega)⟩, rfl, rfl⟩⟩
  exact l_loop hst hL hC hend 512 0 _ _ H _ ls (by omega) (by omega) (Nat.le_of_ble_eq_true rfl) (Nat.le_of_ble_eq_true rfl) hG hS (lv_sub hl [0, 1, 2, 3, 4] rfl)
