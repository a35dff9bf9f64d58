/-! the calls that only look: program and reference side by side -/
def AN (L : Option (Int32 × (Nat → Int64))) (M : Option (Int32 × Int32)) : Prop := ∃ k r out', L = some (k, out') ∧ M = some (r, k) ∧ (k = 0 → out' 0 = Int32.toInt64 r)
def AX (x : Int64) (L : Option (Int32 × (Nat → Int64))) (M : Option (Int32 × Int64 × Int32)) : Prop := ∃ k r out', L = some (k, out') ∧ M = some (r, x, k) ∧ (k = 0 → out' 0 = Int32.toInt64 r)
theorem an0 {L : Option (Int32 × (Nat → Int64))} {M : Option (Int32 × Int32)} {o : Nat → Int64} {r : Int32} (h1 : L = some (0, vp_updL o 0 (Int32.toInt64 r))) (h2 : M = some (r, 0)) : AN L M := ⟨0, r, _, h1, h2, fun _ => rfl⟩
theorem ank {L : Option (Int32 × (Nat → Int64))} {M : Option (Int32 × Int32)} {o : Nat → Int64} {k r : Int32} (hk : k ≠ 0) (h1 : L = some (k, o)) (h2 : M = some (r, k)) : AN L M := ⟨k, r, _, h1, h2, fun z => absurd z hk⟩
theorem ax0 {x : Int64} {L : Option (Int32 × (Nat → Int64))} {M : Option (Int32 × Int64 × Int32)} {o : Nat → Int64} {r : Int32} (h1 : L = some (0, vp_updL o 0 (Int32.toInt64 r))) (h2 : M = some (r, x, 0)) : AX x L M := ⟨0, r, _, h1, h2, fun _ => rfl⟩
theorem axk {x : Int64} {L : Option (Int32 × (Nat → Int64))} {M : Option (Int32 × Int64 × Int32)} {o : Nat → Int64} {k r : Int32} (hk : k ≠ 0) (h1 : L = some (k, o)) (h2 : M = some (r, x, k)) : AX x L M := ⟨k, r, _, h1, h2, fun z => absurd z hk⟩
theorem n1 : (1 : Int32) ≠ 0 := by decide
theorem n2 : (2 : Int32) ≠ 0 := by decide
theorem n3 : (3 : Int32) ≠ 0 := by decide
theorem nn0 : ¬ ¬ (0 : Nat) = 0 := fun z => z rfl
theorem nt1 : ¬ (1 : Nat) = 0 := by decide
theorem nt2 : ¬ (2 : Nat) = 0 := by decide
theorem nt3 : ¬ (3 : Nat) = 0 := by decide
theorem zz0 : ¬ ¬ (0 : Int32) = 0 := fun z => z rfl
theorem rP_t {p : Prop} {i : Decidable p} (h : p) : f_TR_requirePlace (@bI p i) = some 0 := by rw [bI_t h]; rfl
theorem rP_f {p : Prop} {i : Decidable p} (h : ¬ p) : f_TR_requirePlace (@bI p i) = some 1 := by rw [bI_f h]; rfl
theorem rA_t {p : Prop} {i : Decidable p} (h : p) : f_TR_requireArgument (@bI p i) = some 0 := by rw [bI_t h]; rfl
theorem rA_f {p : Prop} {i : Decidable p} (h : ¬ p) : f_TR_requireArgument (@bI p i) = some 2 := by rw [bI_f h]; rfl
theorem rS_t {p : Prop} {i : Decidable p} (h : p) : f_TR_requireState (@bI p i) = some 0 := by rw [bI_t h]; rfl
theorem rS_f {p : Prop} {i : Decidable p} (h : ¬ p) : f_TR_requireState (@bI p i) = some 3 := by rw [bI_f h]; rfl
theorem rK_t {a : Nat → Int} (hw : WF a) {h k : Int} (hh : sm h) (hk : sm k) (c : isK a h k) : f_TR_requireKey (iI (a 0)) (iI h) (iI k) = some 0 := by
  unfold f_TR_requireKey
  rw [Str_hasKey hw hh hk, cal_some, rP_t c, cal_some]
  rfl
theorem rK_f {a : Nat → Int} (hw : WF a) {h k : Int} (hh : sm h) (hk : sm k) (c : ¬ isK a h k) : f_TR_requireKey (iI (a 0)) (iI h) (iI k) = some 1 := by
  unfold f_TR_requireKey
  rw [Str_hasKey hw hh hk, cal_some, rP_f c, cal_some]
  rfl
theorem M_in0 {v hi : Int} (hv : sm v) (hh : 0 ≤ hi ∧ hi < 100000) {p : Int64} (hp : p = lL hi) : f_M_in (Int32.toInt64 (iI v)) 0 p = some (bI (0 ≤ v ∧ v ≤ hi)) := by
  rw [hp, ll_0, M_inI hv (by omega) (by omega) (by omega) (by omega)]
theorem dq {v w : Int} (hv : sm v) (hw : sm w) {u : Int32} (hu : u = iI w) : (iI v = u) ↔ v = w := by
  rw [hu, iI_eq hv.1 hv.2 hw.1 hw.2]
section STEPR
variable {c h k p w : Nat → Int32} {n : Int32} {dh dc dt : Nat → Int32} {dn on : Int32} {rk : Nat → Int32} {H no re : Int32} {sx : Int64} {a : Nat → Int} {x : Int64} (out : Nat → Int64) (th : Int32)
theorem s_accepted (hw : WF a) (hr : RSf c h k p w n dh dc dt dn on rk H no re sx a x) {y z : Int} (hy : sm y) (hz : sm z) : AN (f_L_accepted c n dh dc dt dn rk H re out (iI y) (iI z)) (f_M_accepted (Q a) th (iI y) (iI z)) := by
  obtain ⟨h1, h2, h3, rfl, rfl, rfl, h7⟩ := hr
  by_cases q : isK a y z
  · have hT : f_TR_accepted c n dh dc dt dn rk (iI (a 0)) (iI (a 4)) (iI y) (iI z) = some (0, nI (am a y (kr a y z))) := by
      unfold f_TR_accepted
      rw [rK_t hw hy hz q, cal_some, if_neg nn0, Str_accepting hw h1 h2 h3 q, cal_some]
    refine an0 (by unfold f_L_accepted; rw [hT, cal_some]; rfl) ?_
    unfold f_M_accepted
    rw [M_isKey_t hw hy hz q, cal_some, if_neg z10, M_acceptedBy hw q, cal_some]
  · have hT : f_TR_accepted c n dh dc dt dn rk (iI (a 0)) (iI (a 4)) (iI y) (iI z) = some (1, 0) := by
      unfold f_TR_accepted
      rw [rK_f hw hy hz q, cal_some, if_pos nt1]
    refine ank (r := 0) n1 (by unfold f_L_accepted; rw [hT, cal_some]; rfl) ?_
    unfold f_M_accepted
    rw [M_isKey_f hw hy hz q, cal_some, if_pos rfl]
    rfl
theorem s_wentWrong (hw : WF a) (hr : RSf c h k p w n dh dc dt dn on rk H no re sx a x) {y z : Int} (hy : sm y) (hz : sm z) : AN (f_L_wentWrong p w n rk H out (iI y) (iI z)) (f_M_wentWrong (Q a) th (iI y) (iI z)) := by
  obtain ⟨h1, h2, h3, rfl, rfl, rfl, h7⟩ := hr
  by_cases q : isK a y z
  · have hT : f_TR_wentWrong p w n rk (iI (a 0)) (iI y) (iI z) = some (0, n9 (fwr a (kr a y z) (ln a (kr a y z)))) := by
      unfold f_TR_wentWrong
      rw [rK_t hw hy hz q, cal_some, if_neg nn0, Str_recordOf hw h3 q, cal_some, Rec_firstWrong hw h1 (kr_ok hw q), cal_some]
    have e := M_key hw q
    refine an0 (by unfold f_L_wentWrong; rw [hT, cal_some]; rfl) ?_
    unfold f_M_wentWrong
    rw [M_isKey_t hw hy hz q, cal_some, if_pos z10, bnd_s, M_keyAt, cal_some, gd_t e.1, bnd_s, e.2]
    exact M_went_loop hw (kr_ok hw q)
  · have hT : f_TR_wentWrong p w n rk (iI (a 0)) (iI y) (iI z) = some (1, 0) := by
      unfold f_TR_wentWrong
      rw [rK_f hw hy hz q, cal_some, if_pos nt1]
    refine ank (r := 0) n1 (by unfold f_L_wentWrong; rw [hT, cal_some]; rfl) ?_
    unfold f_M_wentWrong
    rw [M_isKey_f hw hy hz q, cal_some, if_neg zz0]
    rfl
theorem s_common (hw : WF a) (hr : RSf c h k p w n dh dc dt dn on rk H no re sx a x) {y z y2 z2 : Int} (hy : sm y) (hz : sm z) (hy2 : sm y2) (hz2 : sm z2) : AN (f_L_common p n rk H out (iI y) (iI z) (iI y2) (iI z2)) (f_M_common (Q a) th (iI y) (iI z) (iI y2) (iI z2)) := by
  obtain ⟨h1, h2, h3, rfl, rfl, rfl, h7⟩ := hr
  by_cases q : isK a y z
  · by_cases q2 : isK a y2 z2
    · obtain ⟨m, m1, m2⟩ := Rec_meetingOf hw h1 (kr_ok hw q) (kr_ok hw q2)
      have hT : f_TR_common p n rk (iI (a 0)) (iI y) (iI z) (iI y2) (iI z2) = some (0, n9 m) := by
        unfold f_TR_common
        rw [rK_t hw hy hz q, cal_some, if_neg nn0, rK_t hw hy2 hz2 q2, cal_some, if_neg nn0, Str_recordOf hw h3 q, cal_some, Str_recordOf hw h3 q2, cal_some, m2, cal_some]
      have e := M_key hw q
      have e2 := M_key hw q2
      have o1 := kr_ok hw q
      have o2 := kr_ok hw q2
      have b2 := hw.b2
      obtain ⟨r, r1, r2⟩ := M_common_loop hw 1000 (kr a y z) (kr a y2 z2) o1 o2 (by unfold ok at o1 o2; omega) FUEL (fuel_gt (by omega))
      have em : m = r := meets_one m1 r1
      subst em
      refine an0 (by unfold f_L_common; rw [hT, cal_some]; rfl) ?_
      unfold f_M_common
      rw [M_isKey_t hw hy hz q, cal_some, if_neg z10, M_isKey_t hw hy2 hz2 q2, cal_some, if_pos z10, M_keyAt, cal_some, gd_t e.1, bnd_s, e.2, M_keyAt, cal_some, gd_t e2.1, bnd_s, e2.2]
      exact r2
    · have hT : f_TR_common p n rk (iI (a 0)) (iI y) (iI z) (iI y2) (iI z2) = some (1, 0) := by
        unfold f_TR_common
        rw [rK_t hw hy hz q, cal_some, if_neg nn0, rK_f hw hy2 hz2 q2, cal_some, if_pos nt1]
      refine ank (r := 0) n1 (by unfold f_L_common; rw [hT, cal_some]; rfl) ?_
      unfold f_M_common f_M_common_24
      rw [M_isKey_t hw hy hz q, cal_some, if_neg z10, M_isKey_f hw hy2 hz2 q2, cal_some, if_neg zz0]
      rfl
  · have hT : f_TR_common p n rk (iI (a 0)) (iI y) (iI z) (iI y2) (iI z2) = some (1, 0) := by
      unfold f_TR_common
      rw [rK_f hw hy hz q, cal_some, if_pos nt1]
    refine ank (r := 0) n1 (by unfold f_L_common; rw [hT, cal_some]; rfl) ?_
    unfold f_M_common f_M_common_24
    rw [M_isKey_f hw hy hz q, cal_some, if_pos rfl]
    rfl
theorem s_trace (hw : WF a) (hr : RSf c h k p w n dh dc dt dn on rk H no re sx a x) {y z i : Int} (hy : sm y) (hz : sm z) (hi : sm i) : AN (f_L_trace p n rk H out (iI y) (iI z) (iI i)) (f_M_trace (Q a) th (iI y) (iI z) (iI i)) := by
  obtain ⟨h1, h2, h3, rfl, rfl, rfl, h7⟩ := hr
  by_cases q : isK a y z
  · have e := M_key hw q
    by_cases q2 : 0 ≤ i
    · have hT : f_TR_trace p n rk (iI (a 0)) (iI y) (iI z) (iI i) = some (0, n9 (an a (kr a y z) i.toNat)) := by
        unfold f_TR_trace f_TR_trace_15
        rw [rK_t hw hy hz q, cal_some, if_neg nn0, if_neg (by rw [iI_neg0 hi]; omega), show f_TR_requireArgument 1 = some 0 from rfl, cal_some, if_neg nn0, Str_recordOf hw h3 q, cal_some, Rec_ancestorOf hw h1 (kr_ok hw q) q2 hi.2, cal_some]
      refine an0 (by unfold f_L_trace; rw [hT, cal_some]; rfl) ?_
      unfold f_M_trace
      rw [M_isKey_t hw hy hz q, cal_some, if_pos z10, if_pos (by rw [l_0, iI_le (by omega) (by omega) hi.1 hi.2]; exact q2), M_keyAt, cal_some, gd_t e.1, bnd_s, e.2]
      exact M_trace_loop hw (kr_ok hw q) q2 hi.2
    · have hT : f_TR_trace p n rk (iI (a 0)) (iI y) (iI z) (iI i) = some (2, 0) := by
        unfold f_TR_trace f_TR_trace_15
        rw [rK_t hw hy hz q, cal_some, if_neg nn0, if_pos ((iI_neg0 hi).mpr (by omega)), show f_TR_requireArgument 0 = some 2 from rfl, cal_some, if_pos nt2]
      refine ank (r := 0) n2 (by unfold f_L_trace; rw [hT, cal_some]; rfl) ?_
      unfold f_M_trace
      rw [M_isKey_t hw hy hz q, cal_some, if_pos z10, if_neg (by rw [l_0, iI_le (by omega) (by omega) hi.1 hi.2]; exact q2)]
      rfl
  · have hT : f_TR_trace p n rk (iI (a 0)) (iI y) (iI z) (iI i) = some (1, 0) := by
      unfold f_TR_trace
      rw [rK_f hw hy hz q, cal_some, if_pos nt1]
    refine ank (r := 0) n1 (by unfold f_L_trace; rw [hT, cal_some]; rfl) ?_
    unfold f_M_trace
    rw [M_isKey_f hw hy hz q, cal_some, if_neg zz0]
    rfl
theorem s_key (hw : WF a) (hr : RSf c h k p w n dh dc dt dn on rk H no re sx a x) {y z v : Int} (hy : sm y) (hz : sm z) (hv : sm v) : AN (f_L_key c h p w n rk H out (iI y) (iI z) (iI v)) (f_M_key (Q a) th (iI y) (iI z) (iI v)) := by
  obtain ⟨h1, h2, h3, rfl, rfl, rfl, h7⟩ := hr
  by_cases q : isK a y z
  · have e := M_key hw q
    have hk := kr_ok hw q
    have hks : sm (kr a y z) := by have := hw.b2; unfold ok at hk; omega
    by_cases q2 : 0 ≤ v ∧ v ≤ 5
    · have T : ∀ r, (cal (f_Str_recordOf rk (iI (a 0)) (iI y) (iI z)) (fun o_21 => if ¬ o_21 = ((-9)) then (cal (f_Rec_rootOf p n o_21) (fun o_45 => if iI v = 0 then (cal (f_Rec_codeOf c n o_21) (fun o_93 => some (0, o_93)))
  else (if iI v = 1 then (some (0, o_21))
  else (if iI v = 2 then (cal (f_Rec_generationOf p n o_21) (fun o_109 => some (0, o_109)))
  else (if iI v = 3 then (cal (f_Rec_houseOf h n o_45) (fun o_122 => some (0, o_122)))
  else (if iI v = 4 then (cal (f_Rec_wrongBitsInChain p w n o_21) (fun o_135 => some (0, o_135)))
  else (cal (f_Rec_codeOf c n o_21) (fun o_148 => cal (f_Rec_codeOf c n o_45) (fun o_160 => cal (f_TR_apart o_148 o_160) (fun o_163 => some (0, o_163)))))))))))
  else (some ((0 : Nat), (-9))))) = some (0, r) → f_L_key c h p w n rk (iI (a 0)) out (iI y) (iI z) (iI v) = some (0, vp_updL out 0 (Int32.toInt64 r)) := by
        intro r hr
        have hT : f_TR_key c h p w n rk (iI (a 0)) (iI y) (iI z) (iI v) = some (0, r) := by
          unfold f_TR_key
          rw [rK_t hw hy hz q, cal_some, if_neg nn0]
          show cal (f_TR_isWithin (iI v) (iI 0) (iI 5)) _ = _
          rw [TR_isWithin hv (by omega) (by omega), cal_some, rA_t q2, cal_some, if_neg nn0]
          exact hr
        unfold f_L_key
        rw [hT, cal_some]
        rfl
      have M : ∀ R, (if 0 ≤ iI (kr a y z) then (if iI v = 0 then (cal (f_M_of (Q a) (iI (kr a y z)) 0) (fun o_96 => some (o_96, 0)))
  else (if iI v = 1 then (some (iI (kr a y z), 0))
  else (if iI v = 2 then (cal (f_M_generation (Q a) (iI (kr a y z))) (fun o_106 => some (o_106, 0)))
  else (if iI v = 3 then (cal (f_M_rootOf (Q a) (iI (kr a y z))) (fun o_114 => cal (f_M_of (Q a) o_114 1) (fun o_118 => some (o_118, 0))))
  else (if iI v = 4 then (cal (f_M_wrongBits (Q a) (iI (kr a y z))) (fun o_125 => some (o_125, 0)))
  else (cal (f_M_of (Q a) (iI (kr a y z)) 0) (fun o_133 => cal (f_M_rootOf (Q a) (iI (kr a y z))) (fun o_140 => cal (f_M_of (Q a) o_140 0) (fun o_144 => cal (f_M_apart o_133 o_144) (fun o_147 => some (o_147, 0)))))))))))
  else (some ((-9), 0))) = R → f_M_key (Q a) th (iI y) (iI z) (iI v) = R := by
        intro R hR
        unfold f_M_key
        rw [M_isKey_t hw hy hz q, cal_some, if_pos z10, M_in0 hv (by omega) (show (5 : Int64) = lL 5 from rfl), cal_some, if_nbI, if_pos q2, M_keyAt, cal_some, gd_t e.1, bnd_s, e.2]
        exact hR
      by_cases q3 : 0 ≤ kr a y z
      · have hrt := rt_cd hw hk q3
        have hcd := cd_sm hw hk
        have fc : ¬ ¬ n9 (kr a y z) = -9 → False := fun z => z (by rw [l_9, iI_neg, n9_eq (by omega)]; omega)
        have fc2 : ¬ n9 (kr a y z) = -9 := fun z => fc (fun g => g z)
        have fm : 0 ≤ iI (kr a y z) := by rw [l_0, iI_le (by omega) (by omega) hks.1 hks.2]; exact q3
        have dv : ∀ (u : Int) (U : Int32), U = iI u → sm u → v ≠ u → ¬ iI v = U := fun u U hU hu hne z => hne ((dq hv hu hU).mp z)
        rcases (show v = 0 ∨ v = 1 ∨ v = 2 ∨ v = 3 ∨ v = 4 ∨ v = 5 by omega) with rfl | rfl | rfl | rfl | rfl | rfl
        · refine an0 (T (iI (cd a (kr a y z))) ?_) (M _ ?_)
          · rw [Str_recordOf hw h3 q, cal_some, if_pos fc2, Rec_rootOf hw h1 hk q3, cal_some, if_pos (show iI 0 = 0 from rfl), Rec_codeOf hw h1 hk, cal_some]
          · rw [if_pos fm, if_pos (show iI 0 = 0 from rfl), M_cd hw hk q3, cal_some]
        · refine an0 (T (n9 (kr a y z)) ?_) (M _ ?_)
          · rw [Str_recordOf hw h3 q, cal_some, if_pos fc2, Rec_rootOf hw h1 hk q3, cal_some, if_neg (show ¬ iI 1 = 0 by decide), if_pos (show iI 1 = 1 from rfl)]
          · rw [if_pos fm, if_neg (show ¬ iI 1 = 0 by decide), if_pos (show iI 1 = 1 from rfl), n9_pos q3]
        · refine an0 (T (iI (ln a (kr a y z) - 1)) ?_) (M _ ?_)
          · rw [Str_recordOf hw h3 q, cal_some, if_pos fc2, Rec_rootOf hw h1 hk q3, cal_some, if_neg (show ¬ iI 2 = 0 by decide), if_neg (show ¬ iI 2 = 1 by decide), if_pos (show iI 2 = 2 from rfl), Rec_generationOf hw h1 hk q3, cal_some]
          · rw [if_pos fm, if_neg (show ¬ iI 2 = 0 by decide), if_neg (show ¬ iI 2 = 1 by decide), if_pos (show iI 2 = 2 from rfl), M_generation hw hk q3, cal_some]
        · refine an0 (T (iI (hs a (rt a (kr a y z)))) ?_) (M _ ?_)
          · rw [Str_recordOf hw h3 q, cal_some, if_pos fc2, Rec_rootOf hw h1 hk q3, cal_some, if_neg (show ¬ iI 3 = 0 by decide), if_neg (show ¬ iI 3 = 1 by decide), if_neg (show ¬ iI 3 = 2 by decide), if_pos (show iI 3 = 3 from rfl), Rec_houseOf hw h1 hrt.1, cal_some]
          · rw [if_pos fm, if_neg (show ¬ iI 3 = 0 by decide), if_neg (show ¬ iI 3 = 1 by decide), if_neg (show ¬ iI 3 = 2 by decide), if_pos (show iI 3 = 3 from rfl), M_rootOf hw hk q3, cal_some, M_hs hw hrt.1 hrt.2.1, cal_some]
        · refine an0 (T (iI (swb a (kr a y z) (ln a (kr a y z)))) ?_) (M _ ?_)
          · rw [Str_recordOf hw h3 q, cal_some, if_pos fc2, Rec_rootOf hw h1 hk q3, cal_some, if_neg (show ¬ iI 4 = 0 by decide), if_neg (show ¬ iI 4 = 1 by decide), if_neg (show ¬ iI 4 = 2 by decide), if_neg (show ¬ iI 4 = 3 by decide), if_pos (show iI 4 = 4 from rfl), Rec_wrongBits hw h1 hk, cal_some]
          · rw [if_pos fm, if_neg (show ¬ iI 4 = 0 by decide), if_neg (show ¬ iI 4 = 1 by decide), if_neg (show ¬ iI 4 = 2 by decide), if_neg (show ¬ iI 4 = 3 by decide), if_pos (show iI 4 = 4 from rfl), M_wrongBits hw hk, cal_some]
        · refine an0 (T (iI (ap (cd a (kr a y z)) (cd a (rt a (kr a y z))))) ?_) (M _ ?_)
          · rw [Str_recordOf hw h3 q, cal_some, if_pos fc2, Rec_rootOf hw h1 hk q3, cal_some, if_neg (show ¬ iI 5 = 0 by decide), if_neg (show ¬ iI 5 = 1 by decide), if_neg (show ¬ iI 5 = 2 by decide), if_neg (show ¬ iI 5 = 3 by decide), if_neg (show ¬ iI 5 = 4 by decide), Rec_codeOf hw h1 hk, cal_some, Rec_codeOf hw h1 hrt.1, cal_some, TR_apart (by omega) (by omega) hrt.2.2.1 hrt.2.2.2, cal_some]
          · rw [if_pos fm, if_neg (show ¬ iI 5 = 0 by decide), if_neg (show ¬ iI 5 = 1 by decide), if_neg (show ¬ iI 5 = 2 by decide), if_neg (show ¬ iI 5 = 3 by decide), if_neg (show ¬ iI 5 = 4 by decide), M_cd hw hk q3, cal_some, M_rootOf hw hk q3, cal_some, M_cd hw hrt.1 hrt.2.1, cal_some, M_apart (by omega) (by omega) hrt.2.2.1 hrt.2.2.2, cal_some]
      · refine an0 (T (-9) ?_) (M _ ?_)
        · rw [Str_recordOf hw h3 q, cal_some, if_neg (show ¬ ¬ n9 (kr a y z) = -9 from fun z => z (by rw [l_9, iI_neg, n9_eq (by omega)]; omega))]
        · rw [if_neg (by rw [l_0, iI_le (by omega) (by omega) hks.1 hks.2]; exact q3)]
    · have hT : f_TR_key c h p w n rk (iI (a 0)) (iI y) (iI z) (iI v) = some (2, 0) := by
        unfold f_TR_key
        rw [rK_t hw hy hz q, cal_some, if_neg nn0]
        show cal (f_TR_isWithin (iI v) (iI 0) (iI 5)) _ = _
        rw [TR_isWithin hv (by omega) (by omega), cal_some, rA_f q2, cal_some, if_pos nt2]
      refine ank (r := 0) n2 (by unfold f_L_key; rw [hT, cal_some]; rfl) ?_
      unfold f_M_key
      rw [M_isKey_t hw hy hz q, cal_some, if_pos z10, M_in0 hv (by omega) (show (5 : Int64) = lL 5 from rfl), cal_some, if_nbI, if_neg q2]
      rfl
  · have hT : f_TR_key c h p w n rk (iI (a 0)) (iI y) (iI z) (iI v) = some (1, 0) := by
      unfold f_TR_key
      rw [rK_f hw hy hz q, cal_some, if_pos nt1]
    refine ank (r := 0) n1 (by unfold f_L_key; rw [hT, cal_some]; rfl) ?_
    unfold f_M_key
    rw [M_isKey_f hw hy hz q, cal_some, if_neg zz0]
    rfl
end STEPR
