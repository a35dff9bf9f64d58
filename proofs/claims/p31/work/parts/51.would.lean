/-! what would be -/
def lrn (a : Nat → Int) (x : Int64) (h z to : Int) : Int := chg (cd a z) (wb (nextx x) (a 3 * di h to))
theorem lrn_b {a : Nat → Int} (hw : WF a) (x : Int64) {h z to : Int} (hz : ok a z) (h0 : 0 ≤ z) : 0 ≤ lrn a x h z to ∧ lrn a x h z to < 4096 := by
  have := cd_sm hw hz
  exact chg_b (by omega) (by omega) (wb_b _ _).2
theorem Str_codeIfTaught {c h9 k9 p w rk : Nat → Int32} {n : Int32} {a : Nat → Int} (hw : WF a) (hr : RRec c h9 k9 p w n a) (hk : RKey rk a) (x : Int64) {h k to : Int} (hy : isK a h k) (ht : 0 ≤ to ∧ to < a 0) : f_Str_codeIfTaught c n rk (iI (a 0)) (iI (a 3)) x (iI h) (iI k) (iI to) = some (iI (if kr a h k < 0 then -9 else lrn a x h (kr a h k) to)) := by
  have b0 := hw.b0
  have b3 := hw.b3
  have hz := kr_ok hw hy
  have hcd := cd_sm hw hz
  have hdi := di_sm hy.1.1 (show h < 9 by omega) ht.1 (show to < 9 by omega)
  unfold f_Str_codeIfTaught
  rw [Str_hasCode hw hk hy, cal_some, if_nbI]
  by_cases q : kr a h k < 0
  · rw [if_neg (by omega), if_pos q]
    rfl
  · rw [if_pos (by omega), if_neg q, Str_codeOf hw hr hk hy, cal_some, Noi_next, cal_some, iabs_di (by omega), Noi_learned _ (by omega) b3.1 b3.2 hdi.1 (by omega), cal_some]
    rfl
/-- step by step -/
def hnd (a : Nat → Int) (x : Int64) (c : Int) : Nat → Int × Int64
  | 0 => (c, x)
  | n + 1 => (chg (hnd a x c n).1 (wb (nextx (hnd a x c n).2) (a 3 * 1)), nextx (hnd a x c n).2)
theorem hnd_b (a : Nat → Int) (x : Int64) {c : Int} (h1 : 0 ≤ c) (h2 : c < 4096) : ∀ n, 0 ≤ (hnd a x c n).1 ∧ (hnd a x c n).1 < 4096 := by
  intro n
  induction n with
  | zero => exact ⟨h1, h2⟩
  | succ n ih => exact chg_b ih.1 ih.2 (wb_b _ _).2
theorem Str_codeIfHanded {c h9 k9 p w rk : Nat → Int32} {n : Int32} {a : Nat → Int} (hw : WF a) (hr : RRec c h9 k9 p w n a) (hk : RKey rk a) (x : Int64) {h k to : Int} (hy : isK a h k) (ht : 0 ≤ to ∧ to < a 0) : f_Str_codeIfHanded c n rk (iI (a 0)) (iI (a 3)) x (iI h) (iI k) (iI to) = some (iI (if kr a h k < 0 then -9 else (hnd a x (cd a (kr a h k)) (di h to).toNat).1)) := by
  have b0 := hw.b0
  have b3 := hw.b3
  have hz := kr_ok hw hy
  have hcd := cd_sm hw hz
  have hdi := di_sm hy.1.1 (show h < 9 by omega) ht.1 (show to < 9 by omega)
  unfold f_Str_codeIfHanded
  rw [Str_codeOf hw hr hk hy, cal_some]
  by_cases q : kr a h k < 0
  · rw [if_neg (by rw [show cd a (kr a h k) = -9 by omega]; exact fun z => z (by rfl)), if_pos q]
    rfl
  · rw [if_pos (by rw [l_9, iI_neg, iI_eq (by omega) (by omega) (by omega) (by omega)]; omega), if_neg q, iabs_di (by omega), bnd_s]
    refine seq3 (body := f_Str_codeIfHanded_35 (iI (a 3)) (iI (di h to))) (fun m => iI (hnd a x (cd a (kr a h k)) m).1) (fun m => (hnd a x (cd a (kr a h k)) m).2) (fun m : Nat => iI m) (di h to).toNat (fun g => ?_) (fun m hm g => ?_) FUEL 0 (Nat.zero_le _) (fuel_lt (by omega))
    · unfold f_Str_codeIfHanded_35
      rw [if_pos ((iI_le (by omega) (by omega) (by omega) (by omega)).mpr (by omega))]
    · have hb := hnd_b a x (show 0 ≤ cd a (kr a h k) by omega) (by omega) m
      unfold f_Str_codeIfHanded_35
      rw [if_neg (iI_nle (by omega) (by omega) (by omega)), Noi_next, cal_some, l_1, Noi_learned _ hb.1 b3.1 b3.2 (by omega) (by omega), cal_some, iI_add]
      rfl
set_option maxRecDepth 100000 in
theorem pc12_0 : ∀ n, n < 4096 → pc12 n = 0 → n = 0 := by decide +kernel
theorem xor_z {x y : Nat} (h : x ^^^ y = 0) : x = y := by
  apply Nat.eq_of_testBit_eq
  intro i
  have e : (x ^^^ y).testBit i = false := by rw [h, Nat.zero_testBit]
  rw [Nat.testBit_xor] at e
  cases hx : x.testBit i <;> cases hy : y.testBit i <;> rw [hx, hy] at e <;> simp_all
theorem ap_0 {x y : Int} (h1 : 0 ≤ x) (h2 : x < 4096) (h3 : 0 ≤ y) (h4 : y < 4096) : ap x y = 0 ↔ x = y := by
  constructor
  · intro h
    unfold ap at h
    have h5 := (ap_x h1 h2 h3 h4).2
    have := xor_z (pc12_0 _ h5 (by omega))
    omega
  · intro h
    rw [h, ap_self]
