/-! what would be -/
def lrn (a : Nat → Int) (x : Int64) (h z to : Int) : Int := chg (cd a z) (wb (nextx x) (a 3 * di h to))
theorem lrn_b {a : Nat → Int} (hw : WF a) (x : Int64) {h z to : Int} (hz : ok a z) (h0 : 0 ≤ z) : 0 ≤ lrn a x h z to ∧ lrn a x h z to < 4096 := sorry
theorem Str_codeIfTaught {c h9 k9 p w rk : Nat → Int32} {n : Int32} {a : Nat → Int} (hw : WF a) (hr : RRec c h9 k9 p w n a) (hk : RKey rk a) (x : Int64) {h k to : Int} (hy : isK a h k) (ht : 0 ≤ to ∧ to < a 0) : f_Str_codeIfTaught c n rk (iI (a 0)) (iI (a 3)) x (iI h) (iI k) (iI to) = some (iI (if kr a h k < 0 then -9 else lrn a x h (kr a h k) to)) := sorry
theorem M_learned {a : Nat → Int} (hw : WF a) (x : Int64) {h k to : Int} (hy : isK a h k) (ht : 0 ≤ to ∧ to < a 0) (h0 : 0 ≤ kr a h k) : f_M_learned (Q a) x (iI h) (iI k) (iI to) = some (iI (lrn a x h (kr a h k) to), x) := sorry
/-- step by step -/
def hnd (a : Nat → Int) (x : Int64) (c : Int) : Nat → Int × Int64
  | 0 => (c, x)
  | n + 1 => (chg (hnd a x c n).1 (wb (nextx (hnd a x c n).2) (a 3 * 1)), nextx (hnd a x c n).2)
theorem hnd_b (a : Nat → Int) (x : Int64) {c : Int} (h1 : 0 ≤ c) (h2 : c < 4096) : ∀ n, 0 ≤ (hnd a x c n).1 ∧ (hnd a x c n).1 < 4096 := sorry
theorem Str_codeIfHanded {c h9 k9 p w rk : Nat → Int32} {n : Int32} {a : Nat → Int} (hw : WF a) (hr : RRec c h9 k9 p w n a) (hk : RKey rk a) (x : Int64) {h k to : Int} (hy : isK a h k) (ht : 0 ≤ to ∧ to < a 0) : f_Str_codeIfHanded c n rk (iI (a 0)) (iI (a 3)) x (iI h) (iI k) (iI to) = some (iI (if kr a h k < 0 then -9 else (hnd a x (cd a (kr a h k)) (di h to).toNat).1)) := sorry
theorem M_handedOn {a : Nat → Int} (hw : WF a) (x : Int64) {c h to : Int} (h1 : 0 ≤ c) (h2 : c < 4096) (hh : 0 ≤ h ∧ h < a 0) (ht : 0 ≤ to ∧ to < a 0) : f_M_handedOn (Q a) x (iI c) (iI h) (iI to) = some (iI (hnd a x c (di h to).toNat).1, (hnd a x c (di h to).toNat).2) := sorry
theorem pc12_0 : ∀ n, n < 4096 → pc12 n = 0 → n = 0 := sorry
theorem ap_0 {x y : Int} (h1 : 0 ≤ x) (h2 : x < 4096) (h3 : 0 ≤ y) (h4 : y < 4096) : ap x y = 0 ↔ x = y := by
  constructor
  · intro h
    unfold ap at h
    have h5 := (ap_x h1 h2 h3 h4).2
    have := Nat.xor_eq_zero_iff.mp (pc12_0 _ h5 (by omega))
    omega
  · intro h
    rw [h, ap_self]
