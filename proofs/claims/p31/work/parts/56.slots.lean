/-! the two save slots -/
def RLs (st : Nat → SV) (fl : Int32) (sl : Nat → Int32) (sx : Nat → Int64) (is : Nat → Int32) : Prop := ∃ (n : Nat) (b : Nat → Nat → Int), n < 4 ∧ fl = nI n ∧ ∀ s, s < 2 → is s = nI (n / 2 ^ s % 2) ∧ (n / 2 ^ s % 2 = 1 → WF (b s) ∧ RS (st s) (b s) (sx s) ∧ ∀ j, j < 283 → sl (283 * s + j) = iI (b s j))
theorem Slo_has {z : Int} (h : sm z) : f_Slo_has (iI z) = some (bI (0 ≤ z ∧ z < 2)) := by
  unfold f_Slo_has
  simp (disch := omega) only [l_0, l_1, l_2, l_3, l_4, l_5, l_6, l_7, l_8, l_9, l_10, l_11, l_12, l_13, l_14, l_16, l_31, l_40, l_48, l_54, l_58, l_59, l_60, l_99, l_100, l_107, l_110, l_115, l_120, l_255, l_259, l_283, l_1000, l_4095, iI_add, iI_sub, iI_mul, iI_neg, iI_lt, iI_le, iI_eq, iI_cl]
  by_cases c : 0 ≤ z ∧ z < 2
  · rw [bI_t c, if_neg (by omega), if_neg (by omega)]
    rfl
  · rw [bI_f c]
    split
    · rfl
    · rw [if_pos (by omega)]
      rfl
theorem c2 {k : Nat} (h : k < 2) : ¬ (iI (k : Int) < 0 ∨ 2 ≤ (iI (k : Int)).toNatClampNeg) := by
  simp (disch := omega) only [l_0, l_1, l_2, l_3, l_4, l_5, l_6, l_7, l_8, l_9, l_10, l_11, l_12, l_13, l_14, l_16, l_31, l_40, l_48, l_54, l_58, l_59, l_60, l_99, l_100, l_107, l_110, l_115, l_120, l_255, l_259, l_283, l_1000, l_4095, iI_add, iI_sub, iI_mul, iI_neg, iI_lt, iI_le, iI_eq, iI_cl]
  omega
theorem c566 {k : Int} (h0 : 0 ≤ k) (h : k < 566) : ¬ (iI k < 0 ∨ 566 ≤ (iI k).toNatClampNeg) := by
  simp (disch := omega) only [l_0, l_1, l_2, l_3, l_4, l_5, l_6, l_7, l_8, l_9, l_10, l_11, l_12, l_13, l_14, l_16, l_31, l_40, l_48, l_54, l_58, l_59, l_60, l_99, l_100, l_107, l_110, l_115, l_120, l_255, l_259, l_283, l_1000, l_4095, iI_add, iI_sub, iI_mul, iI_neg, iI_lt, iI_le, iI_eq, iI_cl]
  omega
theorem slot_or : ∀ n, n < 4 → ∀ s, s < 2 → nI n ||| ((1 : Int32) <<< (nI s &&& 31)) = nI (n ||| 2 ^ s) ∧ (n ||| 2 ^ s) < 4 ∧ ∀ t, t < 2 → (n ||| 2 ^ s) / 2 ^ t % 2 = if t = s then 1 else n / 2 ^ t % 2 := by decide +kernel
theorem slot_bit : ∀ n, n < 4 → ∀ s, s < 2 → (nI n >>> (nI s &&& 31)) &&& 1 = nI (n / 2 ^ s % 2) := by decide +kernel
theorem keeps {st : Nat → SV} {fl : Int32} {sl : Nat → Int32} {sx : Nat → Int64} {is : Nat → Int32} (hl : RLs st fl sl sx is) {c h k' p w : Nat → Int32} {n : Int32} {dh dc dt : Nat → Int32} {dn on : Int32} {rk : Nat → Int32} {H no re : Int32} {y : Int64} {a : Nat → Int} {x : Int64} (hw : WF a) (hr : RSf c h k' p w n dh dc dt dn on rk H no re y a x) {s : Nat} (hs : s < 2) : ∃ st' fl', f_Slo_keep st fl c h k' p w n dh dc dt dn on rk H no re y (iI s) = some (st', fl') ∧ RLs st' fl' (cpm sl s a 283) (vp_updL sx s x) (upd is s 1) := by
  obtain ⟨m, b, hm, rfl, hb⟩ := hl
  obtain ⟨T, e1, e2⟩ := RS_copy hw hr (st s).1 (st s).2.1 (st s).2.2.1 (st s).2.2.2.1 (st s).2.2.2.2.1 (st s).2.2.2.2.2.1 (st s).2.2.2.2.2.2.1 (st s).2.2.2.2.2.2.2.1 (st s).2.2.2.2.2.2.2.2.1 (st s).2.2.2.2.2.2.2.2.2.1 (st s).2.2.2.2.2.2.2.2.2.2.1 (st s).2.2.2.2.2.2.2.2.2.2.2.1 (st s).2.2.2.2.2.2.2.2.2.2.2.2.1 (st s).2.2.2.2.2.2.2.2.2.2.2.2.2.1 (st s).2.2.2.2.2.2.2.2.2.2.2.2.2.2.1 (st s).2.2.2.2.2.2.2.2.2.2.2.2.2.2.2
  have g := slot_or m hm s hs
  refine ⟨va_up st s T, nI (m ||| 2 ^ s), ?_, m ||| 2 ^ s, fun i => if i = s then a else b i, g.2.1, rfl, fun t ht => ?_⟩
  · unfold f_Slo_keep
    rw [gd_t (by rw [Slo_has (by omega), bI_t (by omega)]), gd_t (c2 hs), kcl (by omega), e1, cal_some, iI_nat, g.1]
  · rw [g.2.2 t ht]
    by_cases q : t = s
    · subst q
      rw [if_pos rfl]
      refine ⟨ud_eq, fun _ => ⟨by show WF (if t = t then a else b t); rw [if_pos rfl]; exact hw, ?_, fun j hj => ?_⟩⟩
      · show RS (if t = t then T else _) (if t = t then a else b t) (if t = t then x else _)
        rw [if_pos rfl, if_pos rfl, if_pos rfl]
        exact e2
      · show cpm sl t a 283 (283 * t + j) = iI ((if t = t then a else b t) j)
        unfold cpm
        rw [if_pos (by omega), if_pos rfl, show 283 * t + j - 283 * t = j by omega]
    · rw [if_neg q, ud_ne q]
      obtain ⟨g1, g2⟩ := hb t ht
      refine ⟨g1, fun hv => ?_⟩
      obtain ⟨g3, g4, g5⟩ := g2 hv
      refine ⟨by show WF (if t = s then a else b t); rw [if_neg q]; exact g3, ?_, fun j hj => ?_⟩
      · show RS (if t = s then T else st t) (if t = s then a else b t) (if t = s then x else sx t)
        rw [if_neg q, if_neg q, if_neg q]
        exact g4
      · show cpm sl s a 283 (283 * t + j) = iI ((if t = s then a else b t) j)
        unfold cpm
        rw [if_neg (by omega), if_neg q]
        exact g5 j hj
theorem gives {st : Nat → SV} {fl : Int32} {s : Nat} (hs : s < 2) {b : Nat → Int} {x : Int64} (g1 : WF b) (g2 : RS (st s) b x) (c h k' p w : Nat → Int32) (n : Int32) (dh dc dt : Nat → Int32) (dn on : Int32) (rk : Nat → Int32) (H no re : Int32) (y : Int64) : ∃ T : SV, RS T b x ∧ f_Slo_giveBack st fl c h k' p w n dh dc dt dn on rk H no re y (iI s) = some T := by
  obtain ⟨T, e1, e2⟩ := RS_copy g1 g2 c h k' p w n dh dc dt dn on rk H no re y
  refine ⟨T, e2, ?_⟩
  unfold f_Slo_giveBack
  rw [gd_t (by rw [Slo_has (by omega), bI_t (by omega)]), gd_t (c2 hs), kcl (by omega)]
  exact e1
theorem Slo_isFilled {n s : Nat} (hn : n < 4) (hs : s < 2) : f_Slo_isFilled (nI n) (iI s) = some (nI (n / 2 ^ s % 2)) := by
  unfold f_Slo_isFilled
  rw [Slo_has (by omega), cal_some, if_bI, if_pos (by omega), iI_nat, slot_bit n hn s hs]
  rcases (show n / 2 ^ s % 2 = 0 ∨ n / 2 ^ s % 2 = 1 by omega) with q | q
  · rw [q, if_pos (by decide)]
    rfl
  · rw [q, if_neg (by decide)]
    rfl
