/-! what is remembered, what is saved -/
theorem cpy_in {s d : Nat → Int32} {n j : Nat} (h : j < n) : va_cpy s d 0 0 n j = s j := by
  unfold va_cpy
  rw [if_pos (by omega)]
  simp
theorem RS_copy {c h k p w : Nat → Int32} {n : Int32} {dh dc dt : Nat → Int32} {dn on : Int32} {rk : Nat → Int32} {H no re : Int32} {sx : Int64} {a : Nat → Int} {x : Int64} (hw : WF a) (hr : RSf c h k p w n dh dc dt dn on rk H no re sx a x) (v0 v1 v2 v3 v4 : Nat → Int32) (v5 : Int32) (v6 v7 v8 : Nat → Int32) (v9 v10 : Int32) (v11 : Nat → Int32) (v12 v13 v14 : Int32) (v15 : Int64) : ∃ T : SV, f_Str_copyFrom v0 v1 v2 v3 v4 v5 v6 v7 v8 v9 v10 v11 v12 v13 v14 v15 c h k p w n dh dc dt dn on rk H no re sx = some T ∧ RS T a x := by
  have b1 := hw.b1
  have b2 := hw.b2
  obtain ⟨h1, h2, h3, h4, h5, h6, h7⟩ := hr
  refine ⟨_, rfl, ⟨h1.1, fun i hi => ?_⟩, ⟨h2.1, h2.2.1, fun d hd => ?_⟩, fun m hm => ?_, h4, h5, h6, h7⟩
  · have g := h1.2 i hi
    show va_cpy c v0 0 0 40 i = _ ∧ va_cpy h v1 0 0 40 i = _ ∧ va_cpy k v2 0 0 40 i = _ ∧ va_cpy p v3 0 0 40 i = _ ∧ va_cpy w v4 0 0 40 i = _
    rw [cpy_in (by omega), cpy_in (by omega), cpy_in (by omega), cpy_in (by omega), cpy_in (by omega)]
    exact g
  · have g := h2.2.2 d hd
    show va_cpy dh v6 0 0 6 d = _ ∧ va_cpy dc v7 0 0 6 d = _ ∧ va_cpy dt v8 0 0 6 d = _
    rw [cpy_in (by omega), cpy_in (by omega), cpy_in (by omega)]
    exact g
  · show va_cpy rk v11 0 0 54 m = _
    rw [cpy_in hm]
    exact h3 m hm
def RM (st : Nat → SV) (old cnt : Int32) (m : Nat → Int32) (mx : Nat → Int64) (n : Int32) : Prop := ∃ (o k : Nat) (b : Nat → Nat → Int), o < 14 ∧ k ≤ 14 ∧ old = iI o ∧ cnt = iI k ∧ n = iI k ∧ ∀ i, i < k → WF (b i) ∧ RS (st ((o + i) % 14)) (b i) (mx i) ∧ ∀ j, j < 283 → m (283 * i + j) = iI (b i j)
theorem xor_14 : ∀ n, n < 28 → (0 : Int32) ≤ nI n ^^^ 14 := by decide +kernel
theorem floor_14 {n : Nat} (h : n < 28) : f_Mth_floorMod (iI n) 14 = some (iI (n % 14 : Nat)) := by
  unfold f_Mth_floorMod
  rw [gd_t (by decide), l_14, iI_rem (by omega) (by omega) (by omega) (by omega), bnd_s, if_pos (show 0 ≤ iI (n : Int) ^^^ iI 14 from xor_14 n h)]
  rfl
theorem c14 {k : Nat} (h : k < 14) : ¬ (iI (k : Int) < 0 ∨ 14 ≤ (iI (k : Int)).toNatClampNeg) := by
  simp (disch := omega) only [l_0, l_1, l_2, l_3, l_4, l_5, l_6, l_7, l_8, l_9, l_10, l_11, l_12, l_13, l_14, l_16, l_31, l_40, l_48, l_54, l_58, l_59, l_60, l_99, l_100, l_107, l_110, l_115, l_120, l_255, l_259, l_283, l_1000, l_4095, iI_add, iI_sub, iI_mul, iI_neg, iI_lt, iI_le, iI_eq, iI_cl]
  omega
theorem Mem_remember {st : Nat → SV} {o k : Nat} (ho : o < 14) (hk : k ≤ 14) {c h k' p w : Nat → Int32} {n : Int32} {dh dc dt : Nat → Int32} {dn on : Int32} {rk : Nat → Int32} {H no re : Int32} {sx : Int64} {a : Nat → Int} {x : Int64} (hw : WF a) (hr : RSf c h k' p w n dh dc dt dn on rk H no re sx a x) : ∃ T : SV, RS T a x ∧ f_Mem_remember st (iI o) (iI k) c h k' p w n dh dc dt dn on rk H no re sx = some (va_up st ((o + k) % 14) T, iI (if k = 14 then (o + 1) % 14 else o : Nat), iI (if k = 14 then 14 else k + 1 : Nat)) := by
  have e : f_Mth_floorMod (iI (o : Int) + iI (k : Int)) 14 = some (iI ((o + k) % 14 : Nat)) := by
    rw [iI_add, show (o : Int) + (k : Int) = ((o + k : Nat) : Int) by omega]
    exact floor_14 (by omega)
  have hlt : (o + k) % 14 < 14 := Nat.mod_lt _ (by omega)
  unfold f_Mem_remember
  rw [e, cal_some, gd_t (c14 hlt), kcl (by omega)]
  obtain ⟨T, e1, e2⟩ := RS_copy hw hr (st ((o + k) % 14)).1 (st ((o + k) % 14)).2.1 (st ((o + k) % 14)).2.2.1 (st ((o + k) % 14)).2.2.2.1 (st ((o + k) % 14)).2.2.2.2.1 (st ((o + k) % 14)).2.2.2.2.2.1 (st ((o + k) % 14)).2.2.2.2.2.2.1 (st ((o + k) % 14)).2.2.2.2.2.2.2.1 (st ((o + k) % 14)).2.2.2.2.2.2.2.2.1 (st ((o + k) % 14)).2.2.2.2.2.2.2.2.2.1 (st ((o + k) % 14)).2.2.2.2.2.2.2.2.2.2.1 (st ((o + k) % 14)).2.2.2.2.2.2.2.2.2.2.2.1 (st ((o + k) % 14)).2.2.2.2.2.2.2.2.2.2.2.2.1 (st ((o + k) % 14)).2.2.2.2.2.2.2.2.2.2.2.2.2.1 (st ((o + k) % 14)).2.2.2.2.2.2.2.2.2.2.2.2.2.2.1 (st ((o + k) % 14)).2.2.2.2.2.2.2.2.2.2.2.2.2.2.2
  refine ⟨T, e2, ?_⟩
  rw [e1, cal_some]
  by_cases q : k = 14
  · rw [if_pos (by rw [l_14, iI_le (by omega) (by omega) (by omega) (by omega)]; omega), if_pos q, if_pos q, iI_p1, l_14, iI_rem (by omega) (by omega) (by omega) (by omega), q]
    rfl
  · rw [if_neg (by rw [l_14, iI_le (by omega) (by omega) (by omega) (by omega)]; omega), if_neg q, if_neg q, iI_p1]
    rfl
/-- a row of the reference's remembered ones, written up to j -/
def cpm (m : Nat → Int32) (k : Nat) (a : Nat → Int) (j : Nat) : Nat → Int32 := fun i => if 283 * k ≤ i ∧ i < 283 * k + j then iI (a (i - 283 * k)) else m i
theorem cpm_0 (m : Nat → Int32) (k : Nat) (a : Nat → Int) : cpm m k a 0 = m := by
  funext i
  exact if_neg (by omega)
theorem cpm_s (m : Nat → Int32) (k : Nat) (a : Nat → Int) (j : Nat) : upd (cpm m k a j) (283 * k + j) (iI (a j)) = cpm m k a (j + 1) := by
  funext i
  by_cases q : i = 283 * k + j
  · rw [q, ud_eq]
    unfold cpm
    rw [if_pos (by omega), show 283 * k + j - 283 * k = j by omega]
  · rw [ud_ne q]
    unfold cpm
    by_cases r : 283 * k ≤ i ∧ i < 283 * k + j
    · rw [if_pos r, if_pos (by omega)]
    · rw [if_neg r, if_neg (by omega)]
theorem c3962 {k : Int} (h0 : 0 ≤ k) (h : k < 3962) : ¬ (iI k < 0 ∨ 3962 ≤ (iI k).toNatClampNeg) := by
  simp (disch := omega) only [l_0, l_1, l_2, l_3, l_4, l_5, l_6, l_7, l_8, l_9, l_10, l_11, l_12, l_13, l_14, l_16, l_31, l_40, l_48, l_54, l_58, l_59, l_60, l_99, l_100, l_107, l_110, l_115, l_120, l_255, l_259, l_283, l_1000, l_4095, iI_add, iI_sub, iI_mul, iI_neg, iI_lt, iI_le, iI_eq, iI_cl]
  omega
theorem c283 {k : Nat} (h : k < 283) : ¬ (iI (k : Int) < 0 ∨ 283 ≤ (iI (k : Int)).toNatClampNeg) := by
  simp (disch := omega) only [l_0, l_1, l_2, l_3, l_4, l_5, l_6, l_7, l_8, l_9, l_10, l_11, l_12, l_13, l_14, l_16, l_31, l_40, l_48, l_54, l_58, l_59, l_60, l_99, l_100, l_107, l_110, l_115, l_120, l_255, l_259, l_283, l_1000, l_4095, iI_add, iI_sub, iI_mul, iI_neg, iI_lt, iI_le, iI_eq, iI_cl]
  omega
theorem l_283m {k j : Nat} : 283 * iI (k : Int) + iI (j : Int) = iI ((283 * k + j : Nat) : Int) := by
  rw [l_283, iI_mul, iI_add, show (283 : Int) * (k : Int) + (j : Int) = ((283 * k + j : Nat) : Int) by omega]
/-- the rows move up by one -/
def shf (m : Nat → Int32) (j : Nat) : Nat → Int32 := fun i => if i < j then m (i + 283) else m i
theorem shf_0 (m : Nat → Int32) : shf m 0 = m := by
  funext i
  exact if_neg (by omega)
theorem shf_s (m : Nat → Int32) (j : Nat) : upd (shf m j) j (shf m j (j + 283)) = shf m (j + 1) := by
  funext i
  by_cases q : i = j
  · rw [q, ud_eq]
    unfold shf
    rw [if_neg (by omega), if_pos (by omega)]
  · rw [ud_ne q]
    unfold shf
    by_cases r : i < j
    · rw [if_pos r, if_pos (by omega)]
    · rw [if_neg r, if_neg (by omega)]
def shx (m : Nat → Int64) (j : Nat) : Nat → Int64 := fun i => if i < j then m (i + 1) else m i
theorem shx_0 (m : Nat → Int64) : shx m 0 = m := by
  funext i
  exact if_neg (by omega)
theorem shx_s (m : Nat → Int64) (j : Nat) : vp_updL (shx m j) j (shx m j (j + 1)) = shx m (j + 1) := by
  funext i
  unfold vp_updL
  by_cases q : i = j
  · rw [q, if_pos rfl]
    unfold shx
    rw [if_neg (by omega), if_pos (by omega)]
  · rw [if_neg q]
    unfold shx
    by_cases r : i < j
    · rw [if_pos r, if_pos (by omega)]
    · rw [if_neg r, if_neg (by omega)]
theorem l_3679 : (3679 : Int32) = iI 3679 := rfl
/-- undo -/
theorem takes {st : Nat → SV} {o k : Nat} {b : Nat → Nat → Int} {mx : Nat → Int64} (ho : o < 14) (hk : k < 14) (g1 : WF (b k)) (g2 : RS (st ((o + k) % 14)) (b k) (mx k)) (c h k' p w : Nat → Int32) (n : Int32) (dh dc dt : Nat → Int32) (dn on : Int32) (rk : Nat → Int32) (H no re : Int32) (sx : Int64) : ∃ T : SV, RS T (b k) (mx k) ∧ f_Mem_takeBack st (iI o) (iI (k + 1 : Nat)) c h k' p w n dh dc dt dn on rk H no re sx = some (iI k, iI k, T) := by
  obtain ⟨T, e1, e2⟩ := RS_copy g1 g2 c h k' p w n dh dc dt dn on rk H no re sx
  refine ⟨T, e2, ?_⟩
  have e : f_Mth_floorMod (iI (o : Int) + iI (k : Int)) 14 = some (iI ((o + k) % 14 : Nat)) := by
    rw [iI_add, show (o : Int) + (k : Int) = ((o + k : Nat) : Int) by omega]
    exact floor_14 (by omega)
  have hlt : (o + k) % 14 < 14 := Nat.mod_lt _ (by omega)
  unfold f_Mem_takeBack
  rw [if_neg (by rw [l_0, iI_le (by omega) (by omega) (by omega) (by omega)]; omega), show iI ((k + 1 : Nat) : Int) - 1 = iI (k : Int) by rw [l_1, iI_sub, show ((k + 1 : Nat) : Int) - 1 = (k : Int) by omega], e, cal_some, gd_t (c14 hlt), kcl (by omega), e1, cal_some]
/-- a row of numbers of which the first 283 are another's -/
def mix (b a : Nat → Int) (j : Nat) : Nat → Int := fun i => if i < j then b i else a i
theorem mix_0 (b a : Nat → Int) : mix b a 0 = a := by
  funext i
  exact if_neg (by omega)
theorem mix_s (b a : Nat → Int) (j : Nat) : upd (Q (mix b a j)) j (iI (b j)) = Q (mix b a (j + 1)) := by
  rw [Q_up]
  congr 1
  funext i
  unfold va_up mix
  by_cases q : i = j
  · rw [if_pos q, if_pos (by omega), q]
  · rw [if_neg q]
    by_cases r : i < j
    · rw [if_pos r, if_pos (by omega)]
    · rw [if_neg r, if_neg (by omega)]
theorem mix_in {b a : Nat → Int} {i : Nat} (h : i < 283) : mix b a 283 i = b i := if_pos h
