/-! teach, erase, press, devices, settings -/
theorem isK_sm {a : Nat → Int} (hw : WF a) {h k : Int} (c : isK a h k) : (0 ≤ h ∧ h < 9) ∧ (0 ≤ k ∧ k < 6) := by
  have := hw.b0
  omega
theorem Str_canTeach {rk : Nat → Int32} {a : Nat → Int} (hw : WF a) (hr : RKey rk a) {h k : Int} (hy : isK a h k) : f_Str_canTeach (iI (a 2)) rk (iI (a 0)) (iI h) (iI k) = some (bI (0 ≤ kr a h k ∧ a 2 < 40)) := by
  have b2 := hw.b2
  unfold f_Str_canTeach
  rw [Str_hasCode hw hr hy, cal_some, if_bI]
  by_cases q : 0 ≤ kr a h k
  · rw [if_pos q, Rec_hasRoom b2.1 b2.2, cal_some, if_bI]
    by_cases r : a 2 < 40
    · rw [if_pos r, bI_t ⟨q, r⟩]
    · rw [if_neg r, bI_f (fun z => r z.2)]
  · rw [if_neg q, bI_f (fun z => q z.1)]
theorem Str_canTeach_f {rk : Nat → Int32} {n : Int32} {a : Nat → Int} (hw : WF a) {h k : Int} (hh : sm h) (hk : sm k) (hy : ¬ isK a h k) : f_Str_canTeach n rk (iI (a 0)) (iI h) (iI k) = some 0 := by
  unfold f_Str_canTeach
  rw [Str_hasCode_f hw hh hk hy, cal_some, if_pos rfl]
/-- the wrong bit of a teaching now -/
def wbt (a : Nat → Int) (x : Int64) (h to : Int) : Int := wb (nextx x) (a 3 * di h to)
def tch (a : Nat → Int) (x : Int64) (h k to l : Int) : Nat → Int := mks a (lrn a x h (kr a h k) to) to l (kr a h k) (wbt a x h to)
theorem tch_WF {a : Nat → Int} (hw : WF a) (h40 : a 2 < 40) (x : Int64) {h k to l : Int} (hy : isK a h k) (ht : isK a to l) (h0 : 0 ≤ kr a h k) : WF (tch a x h k to l) := by
  have hz := kr_ok hw hy
  exact mks_WF hw h40 ht (lrn_b hw x hz h0) ⟨by unfold ok at hz; omega, hz.2⟩ (wb_b _ _)
theorem Str_teachKey {c h9 k9 p w : Nat → Int32} {n : Int32} {rk : Nat → Int32} {a : Nat → Int} (hw : WF a) (h40 : a 2 < 40) (hr : RRec c h9 k9 p w n a) (hk : RKey rk a) (x : Int64) {h k to l : Int} (hy : isK a h k) (ht : isK a to l) (h0 : 0 ≤ kr a h k) : f_Str_teachKey c h9 k9 p w n rk (iI (a 0)) (iI (a 3)) x (iI h) (iI k) (iI to) (iI l) = some (iI (lrn a x h (kr a h k) to), upd c (a 2).toNat (iI (lrn a x h (kr a h k) to)), upd h9 (a 2).toNat (iI to), upd k9 (a 2).toNat (iI l), upd p (a 2).toNat (n9 (kr a h k)), upd w (a 2).toNat (n9 (wbt a x h to)), iI (a 2 + 1), upd rk (ki to l) (iI (a 2)), nextx x) := by
  have b3 := hw.b3
  have hz := kr_ok hw hy
  have s1 := isK_sm hw hy
  have s2 := isK_sm hw ht
  have hcd := cd_sm hw hz
  have hdi := di_sm s1.1.1 s1.1.2 s2.1.1 s2.1.2
  unfold f_Str_teachKey
  rw [Noi_next, cal_some, Str_recordOf hw hk hy, cal_some, iabs_di (by omega), Noi_wrongBit _ b3.1 b3.2 hdi.1 (by omega), cal_some, Rec_codeOf hw hr hz, cal_some, Noi_changed (by omega) (wb_b _ _).1 (wb_b _ _).2, cal_some, hr.1, Rec_add hw h40, cal_some, Str_giveRecord hw ht, cal_some]
  rfl
/-- a key loses its code -/
def ers (a : Nat → Int) (h k : Int) : Nat → Int := va_up a (5 + ki h k) (-1)
theorem ers_o {a : Nat → Int} {h k : Int} {j : Nat} (e : j ≠ 5 + ki h k) : ers a h k j = a j := up_ne e
theorem ers_WF {a : Nat → Int} (hw : WF a) {h k : Int} (hy : isK a h k) : WF (ers a h k) := by
  have b0 := hw.b0
  have b1 := hw.b1
  have b2 := hw.b2
  have hk := ki_lt hw hy
  have e0 : ers a h k 0 = a 0 := ers_o (by omega)
  have e1 : ers a h k 1 = a 1 := ers_o (by omega)
  have e2 : ers a h k 2 = a 2 := ers_o (by omega)
  refine ⟨by rw [e0]; exact hw.b0, by rw [e1]; exact hw.b1, by rw [e2]; exact hw.b2, by rw [ers_o (by omega)]; exact hw.b3, by rw [ers_o (by omega)]; exact hw.b4, fun m hm => ?_, fun i hi => ?_, fun d hd => ?_, fun d hd => ?_⟩
  · rw [e2, e0]
    by_cases q : m = ki h k
    · rw [q, show ers a h k (5 + ki h k) = -1 from up_eq]
      omega
    · rw [ers_o (by omega)]
      exact hw.key hm
  · rw [e2] at hi
    rw [ers_o (by omega), ers_o (by omega), ers_o (by omega), ers_o (by omega), ers_o (by omega)]
    exact hw.rcd hi
  · rw [e1] at hd
    rw [ers_o (by omega), ers_o (by omega), ers_o (by omega)]
    exact hw.dev hd
  · rw [e1, ers_o (by omega)]
    exact hw.on hd
theorem RS_ers {c h k p w : Nat → Int32} {n : Int32} {dh dc dt : Nat → Int32} {dn on : Int32} {rk : Nat → Int32} {H no re : Int32} {sx : Int64} {a : Nat → Int} {x : Int64} (hw : WF a) {y z : Int} (hy : isK a y z) (hr : RSf c h k p w n dh dc dt dn on rk H no re sx a x) : RSf c h k p w n dh dc dt dn on (upd rk (ki y z) (n9 (-1))) H no re sx (ers a y z) x := by
  have hk := ki_lt hw hy
  obtain ⟨h1, h2, h3, h4, h5, h6, h7⟩ := hr
  refine ⟨RRec_c hw (ers_o (by omega)) (fun j _ _ => ers_o (by omega)) h1, RDev_c hw (ers_o (by omega)) (fun j _ _ => ers_o (by omega)) h2, fun m hm => ?_, by rw [ers_o (by omega)]; exact h4, by rw [ers_o (by omega)]; exact h5, by rw [ers_o (by omega)]; exact h6, h7⟩
  by_cases q : m = ki y z
  · rw [q, ud_eq, show ers a y z (5 + ki y z) = -1 from up_eq]
  · rw [ud_ne q, ers_o (by omega)]
    exact h3 m hm
theorem Str_eraseKey {c h9 k9 p w : Nat → Int32} {n : Int32} {rk : Nat → Int32} {a : Nat → Int} (hw : WF a) (hr : RRec c h9 k9 p w n a) (hk : RKey rk a) {h k : Int} (hy : isK a h k) : f_Str_eraseKey c n rk (iI (a 0)) (iI h) (iI k) = some (iI (cd a (kr a h k)), upd rk (ki h k) (n9 (-1))) := by
  unfold f_Str_eraseKey
  rw [Str_codeOf hw hr hk hy, cal_some, Str_giveRecord hw hy, cal_some]
  rfl
/-- a press -/
def prs (a : Nat → Int) (h k : Int) : Nat → Int := pr a (am a h (kr a h k)) (a 1).toNat
theorem prs_WF {a : Nat → Int} (hw : WF a) (h k : Int) : WF (prs a h k) := pr_WF hw _
theorem RS_prs {c h k p w : Nat → Int32} {n : Int32} {dh dc dt : Nat → Int32} {dn on : Int32} {rk : Nat → Int32} {H no re : Int32} {sx : Int64} {a : Nat → Int} {x : Int64} (hw : WF a) {y z : Int} (hr : RSf c h k p w n dh dc dt dn on rk H no re sx a x) : RSf c h k p w n dh dc dt dn (on ^^^ nI (am a y (kr a y z))) rk H no re sx (prs a y z) x := by
  have b1 := hw.b1
  have b2 := hw.b2
  have o : ∀ {j : Nat}, (∀ d, d < (a 1).toNat → j ≠ 262 + 4 * d) → prs a y z j = a j := fun e => pr_out a _ _ e
  obtain ⟨h1, h2, h3, h4, h5, h6, h7⟩ := hr
  refine ⟨RRec_c hw (o (fun d _ => by omega)) (fun j _ _ => o (fun d _ => by omega)) h1, ⟨by rw [o (fun d _ => by omega)]; exact h2.1, ?_, fun d hd => ?_⟩, RKey_c (fun j _ _ => o (fun d _ => by omega)) h3, by rw [o (fun d _ => by omega)]; exact h4, by rw [o (fun d _ => by omega)]; exact h5, by rw [o (fun d _ => by omega)]; exact h6, h7⟩
  · rw [h2.2.1]
    exact onm_pr hw (mk_lt _ _) (by omega)
  · rw [o (fun e _ => by omega)] at hd
    rw [o (fun e _ => by omega), o (fun e _ => by omega), o (fun e _ => by omega)]
    exact h2.2.2 d hd
theorem Str_pressKey {c h9 k9 p w dh dc dt : Nat → Int32} {n dn on : Int32} {rk : Nat → Int32} {a : Nat → Int} (hw : WF a) (hr : RRec c h9 k9 p w n a) (hd : RDev dh dc dt dn on a) (hk : RKey rk a) {h k : Int} (hy : isK a h k) : f_Str_pressKey c n dh dc dt dn on rk (iI (a 0)) (iI (a 4)) (iI h) (iI k) = some (nI (am a h (kr a h k)), on ^^^ nI (am a h (kr a h k))) := by
  have s1 := isK_sm hw hy
  have b4 := hw.b4
  have hcd := cd_sm hw (kr_ok hw hy)
  unfold f_Str_pressKey
  rw [Str_codeOf hw hr hk hy, cal_some, Dev_accepting hw hd s1.1.1 s1.1.2 (by omega) b4.1 b4.2, cal_some]
  rfl
/-- a device more -/
def adX (a : Nat → Int) (h c t : Int) : Nat → Int := va_up (va_up (va_up (va_up a (259 + 4 * (a 1).toNat) h) (260 + 4 * (a 1).toNat) c) (261 + 4 * (a 1).toNat) t) (262 + 4 * (a 1).toNat) 0
def ads (a : Nat → Int) (h c t : Int) : Nat → Int := va_up (adX a h c t) 1 (adX a h c t 1 + 1)
theorem ads_n {a : Nat → Int} (h c t : Int) : ads a h c t 1 = a 1 + 1 := by
  unfold ads
  rw [up_eq]
  unfold adX
  rw [up_ne (by omega), up_ne (by omega), up_ne (by omega), up_ne (by omega)]
theorem ads_r {a : Nat → Int} (h c t : Int) : ads a h c t (259 + 4 * (a 1).toNat) = h ∧ ads a h c t (260 + 4 * (a 1).toNat) = c ∧ ads a h c t (261 + 4 * (a 1).toNat) = t ∧ ads a h c t (262 + 4 * (a 1).toNat) = 0 := by
  unfold ads adX
  refine ⟨?_, ?_, ?_, ?_⟩
  · rw [up_ne (by omega), up_ne (by omega), up_ne (by omega), up_ne (by omega), up_eq]
  · rw [up_ne (by omega), up_ne (by omega), up_ne (by omega), up_eq]
  · rw [up_ne (by omega), up_ne (by omega), up_eq]
  · rw [up_ne (by omega), up_eq]
theorem ads_o {a : Nat → Int} (h c t : Int) {j : Nat} (h1 : j ≠ 1) (h3 : j < 259 + 4 * (a 1).toNat ∨ 262 + 4 * (a 1).toNat < j) : ads a h c t j = a j := by
  unfold ads adX
  rw [up_ne h1, up_ne (by omega), up_ne (by omega), up_ne (by omega), up_ne (by omega)]
theorem ads_WF {a : Nat → Int} (hw : WF a) (h6 : a 1 < 6) {h c t : Int} (hh : 0 ≤ h ∧ h < 9) (hc : 0 ≤ c ∧ c < 4096) (ht : 0 ≤ t ∧ t ≤ 3) : WF (ads a h c t) := by
  have b1 := hw.b1
  have b2 := hw.b2
  have e1 := ads_n (a := a) h c t
  have o : ∀ {j : Nat}, j ≠ 1 → (j < 259 + 4 * (a 1).toNat ∨ 262 + 4 * (a 1).toNat < j) → ads a h c t j = a j := fun h1 h3 => ads_o h c t h1 h3
  have e0 : ads a h c t 0 = a 0 := o (by omega) (by omega)
  have e2 : ads a h c t 2 = a 2 := o (by omega) (by omega)
  refine ⟨by rw [e0]; exact hw.b0, by omega, by rw [e2]; exact hw.b2, by rw [o (by omega) (by omega)]; exact hw.b3, by rw [o (by omega) (by omega)]; exact hw.b4, fun m hm => ?_, fun i hi => ?_, fun d hd => ?_, fun d hd => ?_⟩
  · rw [e2, e0, o (by omega) (by omega)]
    exact hw.key hm
  · rw [e2] at hi
    rw [o (by omega) (by omega), o (by omega) (by omega), o (by omega) (by omega), o (by omega) (by omega), o (by omega) (by omega)]
    exact hw.rcd hi
  · rw [e1] at hd
    by_cases q : d = (a 1).toNat
    · have r := ads_r (a := a) h c t
      rw [q, r.1, r.2.1, r.2.2.1]
      omega
    · rw [o (by omega) (by omega), o (by omega) (by omega), o (by omega) (by omega)]
      exact hw.dev (by omega)
  · rw [e1]
    by_cases q : d = (a 1).toNat
    · have r := ads_r (a := a) h c t
      rw [q, r.2.2.2]
      omega
    · rw [o (by omega) (by omega)]
      have := hw.on hd
      omega
theorem ads_on {a : Nat → Int} (hw : WF a) (h6 : a 1 < 6) (h c t : Int) : onm (ads a h c t) = onm a := by
  have b1 := hw.b1
  refine onm_c (fun d hd => ?_)
  by_cases q : d = (a 1).toNat
  · have r := ads_r (a := a) h c t
    have := (hw.on hd).2 (by omega)
    rw [this, q, r.2.2.2]
  · exact ads_o h c t (by omega) (by omega)
theorem RS_ads {c h k p w : Nat → Int32} {n : Int32} {dh dc dt : Nat → Int32} {dn on : Int32} {rk : Nat → Int32} {H no re : Int32} {sx : Int64} {a : Nat → Int} {x : Int64} (hw : WF a) (h6 : a 1 < 6) {y v t : Int} (hr : RSf c h k p w n dh dc dt dn on rk H no re sx a x) : RSf c h k p w n (upd dh (a 1).toNat (iI y)) (upd dc (a 1).toNat (iI v)) (upd dt (a 1).toNat (iI t)) (iI (a 1 + 1)) on rk H no re sx (ads a y v t) x := by
  have b1 := hw.b1
  have b2 := hw.b2
  have o : ∀ {j : Nat}, j ≠ 1 → (j < 259 + 4 * (a 1).toNat ∨ 262 + 4 * (a 1).toNat < j) → ads a y v t j = a j := fun h1 h3 => ads_o y v t h1 h3
  obtain ⟨h1, h2, h3, h4, h5, h6', h7⟩ := hr
  refine ⟨RRec_c hw (o (by omega) (by omega)) (fun j _ _ => o (by omega) (by omega)) h1, ⟨by rw [ads_n], by rw [ads_on hw h6]; exact h2.2.1, fun d hd => ?_⟩, RKey_c (fun j _ _ => o (by omega) (by omega)) h3, by rw [o (by omega) (by omega)]; exact h4, by rw [o (by omega) (by omega)]; exact h5, by rw [o (by omega) (by omega)]; exact h6', h7⟩
  rw [ads_n] at hd
  by_cases q : d = (a 1).toNat
  · have r := ads_r (a := a) y v t
    rw [q, r.1, r.2.1, r.2.2.1, ud_eq, ud_eq, ud_eq]
    exact ⟨rfl, rfl, rfl⟩
  · rw [o (by omega) (by omega), o (by omega) (by omega), o (by omega) (by omega), ud_ne q, ud_ne q, ud_ne q]
    exact h2.2.2 d (by omega)
theorem Dev_add {dh dc dt : Nat → Int32} {a : Nat → Int} (hw : WF a) (h6 : a 1 < 6) (v0 v1 v2 : Int32) : f_Dev_add dh dc dt (iI (a 1)) v0 v1 v2 = some (iI (a 1), upd dh (a 1).toNat v0, upd dc (a 1).toNat v1, upd dt (a 1).toNat v2, iI (a 1 + 1)) := by
  have b1 := hw.b1
  unfold f_Dev_add
  rw [Dev_hasRoom b1.1 b1.2, cal_some, if_nbI, if_pos h6, gd_t, iI_cl (by omega) (by omega), iI_p1]
  simp (disch := omega) only [l_0, l_1, l_2, l_3, l_4, l_5, l_6, l_7, l_8, l_9, l_10, l_11, l_12, l_13, l_14, l_16, l_31, l_40, l_48, l_54, l_58, l_59, l_60, l_99, l_100, l_107, l_110, l_115, l_120, l_255, l_259, l_283, l_1000, l_4095, iI_add, iI_sub, iI_mul, iI_neg, iI_lt, iI_le, iI_eq, iI_cl]
  omega
