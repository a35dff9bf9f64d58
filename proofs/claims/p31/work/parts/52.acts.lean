/-! the street changes -/
theorem up_eq {f : Nat → Int} {k : Nat} {v : Int} : va_up f k v k = v := if_pos rfl
theorem up_ne {f : Nat → Int} {k j : Nat} {v : Int} (h : j ≠ k) : va_up f k v j = f j := if_neg h
theorem ud_eq {f : Nat → Int32} {k : Nat} {v : Int32} : upd f k v k = v := if_pos rfl
theorem ud_ne {f : Nat → Int32} {k j : Nat} {v : Int32} (h : j ≠ k) : upd f k v j = f j := if_neg h
theorem RRec_c {c h k p w : Nat → Int32} {n : Int32} {a b : Nat → Int} (hw : WF a) (h2 : b 2 = a 2) (e : ∀ j, 59 ≤ j → j < 259 → b j = a j) (hr : RRec c h k p w n a) : RRec c h k p w n b := by
  have b2 := hw.b2
  refine ⟨by rw [h2]; exact hr.1, fun i hi => ?_⟩
  rw [h2] at hi
  rw [e (59 + 5 * i) (by omega) (by omega), e (60 + 5 * i) (by omega) (by omega), e (61 + 5 * i) (by omega) (by omega), e (62 + 5 * i) (by omega) (by omega), e (63 + 5 * i) (by omega) (by omega)]
  exact hr.2 i hi
theorem onm_c {a b : Nat → Int} (e : ∀ d, d < 6 → b (262 + 4 * d) = a (262 + 4 * d)) : onm b = onm a := by
  have e0 := e 0 (by omega)
  have e1 := e 1 (by omega)
  have e2 := e 2 (by omega)
  have e3 := e 3 (by omega)
  have e4 := e 4 (by omega)
  have e5 := e 5 (by omega)
  simp only [Nat.reduceMul, Nat.reduceAdd] at e0 e1 e2 e3 e4 e5
  unfold onm
  rw [e0, e1, e2, e3, e4, e5]
theorem RDev_c {dh dc dt : Nat → Int32} {n on : Int32} {a b : Nat → Int} (hw : WF a) (h1 : b 1 = a 1) (e : ∀ j, 259 ≤ j → j < 283 → b j = a j) (hr : RDev dh dc dt n on a) : RDev dh dc dt n on b := by
  have b1 := hw.b1
  refine ⟨by rw [h1]; exact hr.1, by rw [onm_c (fun d hd => e (262 + 4 * d) (by omega) (by omega))]; exact hr.2.1, fun d hd => ?_⟩
  rw [h1] at hd
  rw [e (259 + 4 * d) (by omega) (by omega), e (260 + 4 * d) (by omega) (by omega), e (261 + 4 * d) (by omega) (by omega)]
  exact hr.2.2 d hd
theorem RKey_c {rk : Nat → Int32} {a b : Nat → Int} (e : ∀ j, 5 ≤ j → j < 59 → b j = a j) (hr : RKey rk a) : RKey rk b := by
  intro k hk
  rw [e (5 + k) (by omega) (by omega)]
  exact hr k hk
theorem WF_c {a b : Nat → Int} (e : ∀ j, j < 283 → b j = a j) (hw : WF a) : WF b := by
  have b1 := hw.b1
  have b2 := hw.b2
  refine ⟨by rw [e 0 (by omega)]; exact hw.b0, by rw [e 1 (by omega)]; exact hw.b1, by rw [e 2 (by omega)]; exact hw.b2, by rw [e 3 (by omega)]; exact hw.b3, by rw [e 4 (by omega)]; exact hw.b4, fun k hk => ?_, fun i hi => ?_, fun d hd => ?_, fun d hd => ?_⟩
  · rw [e (5 + k) (by omega), e 2 (by omega), e 0 (by omega)]
    exact hw.key hk
  · rw [e 2 (by omega)] at hi
    rw [e (59 + 5 * i) (by omega), e (60 + 5 * i) (by omega), e (61 + 5 * i) (by omega), e (62 + 5 * i) (by omega), e (63 + 5 * i) (by omega)]
    exact hw.rcd hi
  · rw [e 1 (by omega)] at hd
    rw [e (259 + 4 * d) (by omega), e (260 + 4 * d) (by omega), e (261 + 4 * d) (by omega)]
    exact hw.dev hd
  · rw [e (262 + 4 * d) (by omega), e 1 (by omega)]
    exact hw.on hd
/-- the whole of a street of the program beside its row of numbers and x -/
def RSf (c h k p w : Nat → Int32) (n : Int32) (dh dc dt : Nat → Int32) (dn on : Int32) (rk : Nat → Int32) (H no re : Int32) (sx : Int64) (a : Nat → Int) (x : Int64) : Prop :=
  RRec c h k p w n a ∧ RDev dh dc dt dn on a ∧ RKey rk a ∧ H = iI (a 0) ∧ no = iI (a 3) ∧ re = iI (a 4) ∧ sx = x
def RS (s : SV) (a : Nat → Int) (x : Int64) : Prop :=
  RSf s.1 s.2.1 s.2.2.1 s.2.2.2.1 s.2.2.2.2.1 s.2.2.2.2.2.1 s.2.2.2.2.2.2.1 s.2.2.2.2.2.2.2.1 s.2.2.2.2.2.2.2.2.1 s.2.2.2.2.2.2.2.2.2.1 s.2.2.2.2.2.2.2.2.2.2.1 s.2.2.2.2.2.2.2.2.2.2.2.1 s.2.2.2.2.2.2.2.2.2.2.2.2.1 s.2.2.2.2.2.2.2.2.2.2.2.2.2.1 s.2.2.2.2.2.2.2.2.2.2.2.2.2.2.1 s.2.2.2.2.2.2.2.2.2.2.2.2.2.2.2 a x
theorem RSf_c {c h k p w : Nat → Int32} {n : Int32} {dh dc dt : Nat → Int32} {dn on : Int32} {rk : Nat → Int32} {H no re : Int32} {sx : Int64} {a b : Nat → Int} {x : Int64} (hw : WF a) (e : ∀ j, j < 283 → b j = a j) (hr : RSf c h k p w n dh dc dt dn on rk H no re sx a x) : RSf c h k p w n dh dc dt dn on rk H no re sx b x := by
  obtain ⟨h1, h2, h3, h4, h5, h6, h7⟩ := hr
  exact ⟨RRec_c hw (e 2 (by omega)) (fun j _ hj => e j (by omega)) h1, RDev_c hw (e 1 (by omega)) (fun j _ hj => e j (by omega)) h2, RKey_c (fun j _ hj => e j (by omega)) h3, by rw [e 0 (by omega)]; exact h4, by rw [e 3 (by omega)]; exact h5, by rw [e 4 (by omega)]; exact h6, h7⟩
theorem RS_c {s : SV} {a b : Nat → Int} {x : Int64} (hw : WF a) (e : ∀ j, j < 283 → b j = a j) (hr : RS s a x) : RS s b x := RSf_c hw e hr
/-! a record is made -/
def mkX (a : Nat → Int) (c h k p w : Int) : Nat → Int := va_up (va_up (va_up (va_up (va_up (va_up a (59 + 5 * (a 2).toNat) c) (60 + 5 * (a 2).toNat) h) (61 + 5 * (a 2).toNat) k) (62 + 5 * (a 2).toNat) p) (63 + 5 * (a 2).toNat) w) (5 + ki h k) (a 2)
def mks (a : Nat → Int) (c h k p w : Int) : Nat → Int := va_up (mkX a c h k p w) 2 (mkX a c h k p w 2 + 1)
theorem mks_n {a : Nat → Int} (hw : WF a) {h k : Int} (hy : isK a h k) (c p w : Int) : mks a c h k p w 2 = a 2 + 1 := by
  have hk := ki_lt hw hy
  unfold mks
  rw [up_eq]
  unfold mkX
  rw [up_ne (by omega), up_ne (by omega), up_ne (by omega), up_ne (by omega), up_ne (by omega), up_ne (by omega)]
theorem mks_k {a : Nat → Int} (c h k p w : Int) : mks a c h k p w (5 + ki h k) = a 2 := by
  unfold mks mkX
  rw [up_ne (by omega), up_eq]
theorem mks_r {a : Nat → Int} (hw : WF a) {h k : Int} (hy : isK a h k) (c p w : Int) : mks a c h k p w (59 + 5 * (a 2).toNat) = c ∧ mks a c h k p w (60 + 5 * (a 2).toNat) = h ∧ mks a c h k p w (61 + 5 * (a 2).toNat) = k ∧ mks a c h k p w (62 + 5 * (a 2).toNat) = p ∧ mks a c h k p w (63 + 5 * (a 2).toNat) = w := by
  have hk := ki_lt hw hy
  unfold mks mkX
  refine ⟨?_, ?_, ?_, ?_, ?_⟩
  · rw [up_ne (by omega), up_ne (by omega), up_ne (by omega), up_ne (by omega), up_ne (by omega), up_ne (by omega), up_eq]
  · rw [up_ne (by omega), up_ne (by omega), up_ne (by omega), up_ne (by omega), up_ne (by omega), up_eq]
  · rw [up_ne (by omega), up_ne (by omega), up_ne (by omega), up_ne (by omega), up_eq]
  · rw [up_ne (by omega), up_ne (by omega), up_ne (by omega), up_eq]
  · rw [up_ne (by omega), up_ne (by omega), up_eq]
theorem mks_o {a : Nat → Int} (c h k p w : Int) {j : Nat} (h1 : j ≠ 2) (h2 : j ≠ 5 + ki h k) (h3 : j < 59 + 5 * (a 2).toNat ∨ 63 + 5 * (a 2).toNat < j) : mks a c h k p w j = a j := by
  unfold mks mkX
  rw [up_ne h1, up_ne h2, up_ne (by omega), up_ne (by omega), up_ne (by omega), up_ne (by omega), up_ne (by omega)]
theorem mks_WF {a : Nat → Int} (hw : WF a) (h40 : a 2 < 40) {h k c p w : Int} (hy : isK a h k) (hc : 0 ≤ c ∧ c < 4096) (hp : -1 ≤ p ∧ p < a 2) (hb : -1 ≤ w ∧ w < 12) : WF (mks a c h k p w) := by
  have b0 := hw.b0
  have b1 := hw.b1
  have b2 := hw.b2
  have hk := ki_lt hw hy
  have e2 := mks_n hw hy c p w
  have o : ∀ {j : Nat}, j ≠ 2 → j ≠ 5 + ki h k → (j < 59 + 5 * (a 2).toNat ∨ 63 + 5 * (a 2).toNat < j) → mks a c h k p w j = a j := fun h1 h2 h3 => mks_o c h k p w h1 h2 h3
  have e0 : mks a c h k p w 0 = a 0 := o (by omega) (by omega) (by omega)
  have e1 : mks a c h k p w 1 = a 1 := o (by omega) (by omega) (by omega)
  refine ⟨by rw [e0]; exact hw.b0, by rw [e1]; exact hw.b1, by omega, by rw [o (by omega) (by omega) (by omega)]; exact hw.b3, by rw [o (by omega) (by omega) (by omega)]; exact hw.b4, fun m hm => ?_, fun i hi => ?_, fun d hd => ?_, fun d hd => ?_⟩
  · rw [e2, e0]
    by_cases q : m = ki h k
    · rw [q, mks_k]
      omega
    · rw [o (by omega) (by omega) (by omega)]
      have := hw.key hm
      omega
  · rw [e2] at hi
    by_cases q : i = (a 2).toNat
    · have r := mks_r hw hy c p w
      rw [q, r.1, r.2.1, r.2.2.1, r.2.2.2.1, r.2.2.2.2]
      omega
    · rw [o (by omega) (by omega) (by omega), o (by omega) (by omega) (by omega), o (by omega) (by omega) (by omega), o (by omega) (by omega) (by omega), o (by omega) (by omega) (by omega)]
      exact hw.rcd (by omega)
  · rw [e1] at hd
    rw [o (by omega) (by omega) (by omega), o (by omega) (by omega) (by omega), o (by omega) (by omega) (by omega)]
    exact hw.dev hd
  · rw [e1, o (by omega) (by omega) (by omega)]
    exact hw.on hd
theorem Rec_hasRoom {n : Int} (h1 : 0 ≤ n) (h2 : n ≤ 40) : f_Rec_hasRoom (iI n) = some (bI (n < 40)) := by
  unfold f_Rec_hasRoom
  simp (disch := omega) only [l_0, l_1, l_2, l_3, l_4, l_5, l_6, l_7, l_8, l_9, l_10, l_11, l_12, l_13, l_14, l_16, l_31, l_40, l_48, l_54, l_58, l_59, l_60, l_99, l_100, l_107, l_110, l_115, l_120, l_255, l_259, l_283, l_1000, l_4095, iI_add, iI_sub, iI_mul, iI_neg, iI_lt, iI_le, iI_eq, iI_cl]
  by_cases c : n < 40
  · rw [bI_t c, if_neg (by omega), if_neg (by omega)]
    rfl
  · rw [bI_f c, if_neg (by omega), if_pos (by omega)]
    rfl
theorem Dev_hasRoom {n : Int} (h1 : 0 ≤ n) (h2 : n ≤ 6) : f_Dev_hasRoom (iI n) = some (bI (n < 6)) := by
  unfold f_Dev_hasRoom
  simp (disch := omega) only [l_0, l_1, l_2, l_3, l_4, l_5, l_6, l_7, l_8, l_9, l_10, l_11, l_12, l_13, l_14, l_16, l_31, l_40, l_48, l_54, l_58, l_59, l_60, l_99, l_100, l_107, l_110, l_115, l_120, l_255, l_259, l_283, l_1000, l_4095, iI_add, iI_sub, iI_mul, iI_neg, iI_lt, iI_le, iI_eq, iI_cl]
  by_cases c : n < 6
  · rw [bI_t c, if_neg (by omega), if_neg (by omega)]
    rfl
  · rw [bI_f c, if_neg (by omega), if_pos (by omega)]
    rfl
theorem Rec_add {c h k p w : Nat → Int32} {a : Nat → Int} (hw : WF a) (h40 : a 2 < 40) (v0 v1 v2 v3 v4 : Int32) : f_Rec_add c h k p w (iI (a 2)) v0 v1 v2 v3 v4 = some (iI (a 2), upd c (a 2).toNat v0, upd h (a 2).toNat v1, upd k (a 2).toNat v2, upd p (a 2).toNat v3, upd w (a 2).toNat v4, iI (a 2 + 1)) := by
  have b2 := hw.b2
  unfold f_Rec_add
  rw [Rec_hasRoom b2.1 b2.2, cal_some, if_nbI, if_pos h40, gd_t, iI_cl (by omega) (by omega), iI_p1]
  simp (disch := omega) only [l_0, l_1, l_2, l_3, l_4, l_5, l_6, l_7, l_8, l_9, l_10, l_11, l_12, l_13, l_14, l_16, l_31, l_40, l_48, l_54, l_58, l_59, l_60, l_99, l_100, l_107, l_110, l_115, l_120, l_255, l_259, l_283, l_1000, l_4095, iI_add, iI_sub, iI_mul, iI_neg, iI_lt, iI_le, iI_eq, iI_cl]
  omega
theorem Str_giveRecord {rk : Nat → Int32} {a : Nat → Int} (hw : WF a) {h k : Int} (hy : isK a h k) (v : Int32) : f_Str_giveRecord rk (iI (a 0)) (iI h) (iI k) v = some (upd rk (ki h k) v) := by
  have b0 := hw.b0
  have hk := ki_lt hw hy
  unfold f_Str_giveRecord
  rw [Str_hasKey hw (by omega) (by omega), cal_some, if_bI, if_pos hy, gd_t]
  · simp (disch := omega) only [l_6, iI_mul, iI_add, iI_cl]
    rw [hk.2.2.1]
  · simp (disch := omega) only [l_0, l_1, l_2, l_3, l_4, l_5, l_6, l_7, l_8, l_9, l_10, l_11, l_12, l_13, l_14, l_16, l_31, l_40, l_48, l_54, l_58, l_59, l_60, l_99, l_100, l_107, l_110, l_115, l_120, l_255, l_259, l_283, l_1000, l_4095, iI_add, iI_sub, iI_mul, iI_neg, iI_lt, iI_le, iI_eq, iI_cl]
    omega
theorem RS_mks {c h k p w : Nat → Int32} {n : Int32} {dh dc dt : Nat → Int32} {dn on : Int32} {rk : Nat → Int32} {H no re : Int32} {sx : Int64} {a : Nat → Int} {x : Int64} (hw : WF a) (h40 : a 2 < 40) {y z v0 v3 v4 : Int} (hy : isK a y z) (hr : RSf c h k p w n dh dc dt dn on rk H no re sx a x) (x' : Int64) : RSf (upd c (a 2).toNat (iI v0)) (upd h (a 2).toNat (iI y)) (upd k (a 2).toNat (iI z)) (upd p (a 2).toNat (n9 v3)) (upd w (a 2).toNat (n9 v4)) (iI (a 2 + 1)) dh dc dt dn on (upd rk (ki y z) (iI (a 2))) H no re x' (mks a v0 y z v3 v4) x' := by
  have b1 := hw.b1
  have b2 := hw.b2
  have hk := ki_lt hw hy
  have e2 := mks_n hw hy v0 v3 v4
  have o : ∀ {j : Nat}, j ≠ 2 → j ≠ 5 + ki y z → (j < 59 + 5 * (a 2).toNat ∨ 63 + 5 * (a 2).toNat < j) → mks a v0 y z v3 v4 j = a j := fun h1 h2 h3 => mks_o v0 y z v3 v4 h1 h2 h3
  obtain ⟨h1, h2, h3, h4, h5, h6, h7⟩ := hr
  refine ⟨⟨by rw [e2], fun i hi => ?_⟩, RDev_c hw (o (by omega) (by omega) (by omega)) (fun j _ _ => o (by omega) (by omega) (by omega)) h2, fun m hm => ?_, by rw [o (by omega) (by omega) (by omega)]; exact h4, by rw [o (by omega) (by omega) (by omega)]; exact h5, by rw [o (by omega) (by omega) (by omega)]; exact h6, rfl⟩
  · rw [e2] at hi
    by_cases q : i = (a 2).toNat
    · have r := mks_r hw hy v0 v3 v4
      rw [q, r.1, r.2.1, r.2.2.1, r.2.2.2.1, r.2.2.2.2, ud_eq, ud_eq, ud_eq, ud_eq, ud_eq]
      exact ⟨rfl, rfl, rfl, rfl, rfl⟩
    · rw [o (by omega) (by omega) (by omega), o (by omega) (by omega) (by omega), o (by omega) (by omega) (by omega), o (by omega) (by omega) (by omega), o (by omega) (by omega) (by omega), ud_ne q, ud_ne q, ud_ne q, ud_ne q, ud_ne q]
      exact h1.2 i (by omega)
  · by_cases q : m = ki y z
    · rw [q, mks_k, ud_eq, n9_pos b2.1]
    · rw [o (by omega) (by omega) (by omega), ud_ne q]
      exact h3 m hm
theorem Str_enterCode {c h k p w : Nat → Int32} {n : Int32} {rk : Nat → Int32} {a : Nat → Int} (hw : WF a) (h40 : a 2 < 40) (hn : n = iI (a 2)) {y z v : Int} (hy : isK a y z) : f_Str_enterCode c h k p w n rk (iI (a 0)) (iI y) (iI z) (iI v) = some (iI (a 2), upd c (a 2).toNat (iI v), upd h (a 2).toNat (iI y), upd k (a 2).toNat (iI z), upd p (a 2).toNat (n9 (-1)), upd w (a 2).toNat (n9 (-1)), iI (a 2 + 1), upd rk (ki y z) (iI (a 2))) := by
  unfold f_Str_enterCode
  rw [hn, Rec_add hw h40, cal_some, Str_giveRecord hw hy, cal_some]
  rfl
