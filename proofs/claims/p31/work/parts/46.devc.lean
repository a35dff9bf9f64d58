theorem Dev_accepting {dh dc dt : Nat → Int32} {n on : Int32} {a : Nat → Int} (hw : WF a) (hr : RDev dh dc dt n on a) {h c r : Int} (h1 : 0 ≤ h) (h2 : h < 9) (hc : c = -9 ∨ (0 ≤ c ∧ c < 4096)) (hr1 : 0 ≤ r) (hr2 : r ≤ 8) : f_Dev_accepting dh dc dt n (iI h) (iI c) (iI r) = some (nI (mk (fun d => accP a d h c r) (a 1).toNat)) := by
  have b1 := hw.b1
  unfold f_Dev_accepting
  refine seq2 (body := f_Dev_accepting_6 dh dc dt n (iI h) (iI c) (iI r)) (fun k => nI (mk (fun d => accP a d h c r) k)) (fun k : Nat => iI k) (a 1).toNat (fun k => ?_) (fun m hm k => ?_) FUEL 0 (Nat.zero_le _) (fuel_lt (by omega))
  · unfold f_Dev_accepting_6
    rw [if_pos (by rw [hr.1, iI_le (by omega) (by omega) (by omega) (by omega)]; omega)]
  · unfold f_Dev_accepting_6 f_Dev_accepting_36
    rw [if_neg (by rw [hr.1, iI_le (by omega) (by omega) (by omega) (by omega)]; omega), Dev_accepts hw hr (by omega) h1 h2 hc hr1 hr2, cal_some, if_bI, mk, bnd_s, l_1, iI_add]
    split
    · rw [iI_nat, ← l_1, or_b m (by omega) _ (mk_lt _ m)]
      rfl
    · rfl
/-- what a press of (h, k) is accepted by -/
def am (a : Nat → Int) (h z : Int) : Nat := mk (fun d => accP a d h (cd a z) (a 4)) (a 1).toNat
theorem am_lt {a : Nat → Int} (hw : WF a) (h z : Int) : am a h z < 64 := mk_64 _ (by have := hw.b1; omega)
theorem Str_accepting {c9 h9 k9 p9 w9 dh dc dt rk : Nat → Int32} {n dn on : Int32} {a : Nat → Int} (hw : WF a) (hr : RRec c9 h9 k9 p9 w9 n a) (hd : RDev dh dc dt dn on a) (hk : RKey rk a) {h k : Int} (c : isK a h k) : f_Str_acceptingDevices c9 n dh dc dt dn rk (iI (a 0)) (iI (a 4)) (iI h) (iI k) = some (nI (am a h (kr a h k))) := by
  have b0 := hw.b0
  have b4 := hw.b4
  have hcd := cd_sm hw (kr_ok hw c)
  unfold f_Str_acceptingDevices
  rw [Str_codeOf hw hr hk c, cal_some, Dev_accepting hw hd (by omega) (by omega) (by omega) b4.1 b4.2, cal_some]
  rfl
