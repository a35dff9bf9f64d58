/-! the parts of a text -/
section PARTS
variable {s t : Nat → Int32} {T : Nat → Int} {N : Nat}
theorem part_nk (hx : TXT s t T N) {pl : Nat} (hp : pl < N) {kk dd : Int} (hk : 0 ≤ kk ∧ kk ≤ 12) (h : T pl ≠ 107 ∨ 12 ≤ kk) (q : Nat → Int32) (dg H cd p0 : Int32) : f_M_part q t (iI N) (iI pl) dg H (iI kk) (iI dd) cd p0 = f_M_part_111 q t (iI N) dg H (iI kk) (iI dd) cd p0 (iI pl) := by
  have hN := hx.1
  unfold f_M_part
  by_cases r : 12 ≤ kk
  · rw [if_pos (by rw [l_12, iI_le (by omega) (by omega) (by omega) (by omega)]; exact r)]
  · rw [if_neg (by rw [l_12, iI_le (by omega) (by omega) (by omega) (by omega)]; exact r), l_107, M_sign_f hx (by omega) (by omega) (by omega), cal_some, if_pos rfl]
theorem part_nd (hx : TXT s t T N) {pl : Nat} (hp : pl < N) {kk dd : Int} (hk : 0 ≤ dd ∧ dd ≤ 6) (h : T pl ≠ 100 ∨ 6 ≤ dd) (q : Nat → Int32) (dg H cd p0 : Int32) : f_M_part_111 q t (iI N) dg H (iI kk) (iI dd) cd p0 (iI pl) = f_M_part_206 q t (iI N) dg (iI kk) (iI dd) cd p0 (iI pl) := by
  have hN := hx.1
  unfold f_M_part_111
  by_cases r : 6 ≤ dd
  · rw [if_pos (by rw [l_6, iI_le (by omega) (by omega) (by omega) (by omega)]; exact r)]
  · rw [if_neg (by rw [l_6, iI_le (by omega) (by omega) (by omega) (by omega)]; exact r), l_100, M_sign_f hx (by omega) (by omega) (by omega), cal_some, if_pos rfl]
theorem part_n (hx : TXT s t T N) {pl : Nat} (hp : pl < N) (h : T pl = 110) (q : Nat → Int32) (dg kk dd cd p0 : Int32) : f_M_part_206 q t (iI N) dg kk dd cd p0 (iI pl) = f_M_part_238 q t (iI N) dg kk dd cd p0 (1, iI (pl + 1 : Nat)) 3 (iI (pl + 1 : Nat)) := by
  unfold f_M_part_206 f_M_part_226
  rw [l_110, ← h, M_sign_t hx hp, cal_some, if_pos (show ¬ (1 : Int32) = 0 by decide), if_neg (show ¬ (1 : Int32) = 0 by decide)]
theorem part_s (hx : TXT s t T N) {pl : Nat} (hp : pl < N) (h : T pl = 115) (q : Nat → Int32) (dg kk dd cd p0 : Int32) : f_M_part_206 q t (iI N) dg kk dd cd p0 (iI pl) = f_M_part_238 q t (iI N) dg kk dd cd p0 (0, iI pl) 8 (iI (pl + 1 : Nat)) := by
  have hN := hx.1
  unfold f_M_part_206 f_M_part_226
  rw [l_110, M_sign_f hx (by omega) (by omega) (by omega), cal_some, if_neg (show ¬ ¬ (0 : Int32) = 0 by decide)]
  show cal (f_M_sign t (iI N) (iI pl) 115) _ = _
  rw [l_115, ← h, M_sign_t hx hp, cal_some, if_neg (show ¬ (1 : Int32) = 0 by decide)]
  rfl
theorem part_x (hx : TXT s t T N) {pl : Nat} (hp : pl < N) (h1 : T pl ≠ 110) (h2 : T pl ≠ 115) (q : Nat → Int32) (dg kk dd cd p0 : Int32) : f_M_part_206 q t (iI N) dg kk dd cd p0 (iI pl) = some (0, q, iI pl, dg, kk, dd, cd) := by
  have hN := hx.1
  unfold f_M_part_206 f_M_part_248 f_M_part_249
  rw [l_110, M_sign_f hx (by omega) (by omega) (by omega), cal_some, if_neg (show ¬ ¬ (0 : Int32) = 0 by decide)]
  show cal (f_M_sign t (iI N) (iI pl) 115) _ = _
  rw [l_115, M_sign_f hx (by omega) (by omega) (by omega), cal_some, if_pos rfl, if_pos rfl, gd_t (by decide)]
/-- a setting's digit -/
theorem part_set_t (hx : TXT s t T N) {pl : Nat} (hp : pl < 1000) {w hi : Int} (hw : (w = 0 ∧ hi = 3) ∨ (w = 1 ∧ hi = 8)) {v : Int} (dg : Int32) (e : f_M_digitTo t (iI N) (iI pl) dg 0 (iI hi) = some (1, iI (pl + 1 : Nat), iI v)) (kk dd cd : Int32) (o : Int32 × Int32) (ho : o.1 = iI (1 - w)) : (∀ q, f_M_part_238 q t (iI N) dg kk dd cd 0 o (iI hi) (iI pl) = some (1, q, iI (pl + 1 : Nat), iI v, kk, dd, cd)) ∧ ∀ a, f_M_part_238 (Q a) t (iI N) dg kk dd cd 1 o (iI hi) (iI pl) = some (1, Q (stg a w v), iI (pl + 1 : Nat), iI v, kk, dd, cd) := by
  refine ⟨fun q => ?_, fun a => ?_⟩
  · unfold f_M_part_238 f_M_part_249
    rw [e, cal_some, if_neg (show ¬ (1 : Int32) = 0 by decide), if_neg (show ¬ (1 : Int32) = 0 by decide), if_pos rfl, gd_t (by decide)]
  · unfold f_M_part_238 f_M_part_249 f_M_part_271
    rw [e, cal_some, if_neg (show ¬ (1 : Int32) = 0 by decide), if_neg (show ¬ (1 : Int32) = 0 by decide), if_neg (show ¬ (1 : Int32) = 0 by decide), ho]
    rcases hw with ⟨rfl, rfl⟩ | ⟨rfl, rfl⟩
    · rw [if_neg (by decide), gd_t (by decide), gd_t (by decide)]
      show some (1, upd (Q a) 3 (iI v), _, _, _, _, _) = _
      rw [Q_up]
      rfl
    · rw [if_pos (by decide), gd_t (by decide), gd_t (by decide)]
      show some (1, upd (Q a) 4 (iI v), _, _, _, _, _) = _
      rw [Q_up]
      rfl
theorem part_set_f {pl : Nat} {hi dg dg' : Int32} (e : f_M_digitTo t (iI N) (iI pl) dg 0 hi = some (0, iI pl, dg')) (kk dd cd : Int32) (o : Int32 × Int32) (q : Nat → Int32) : f_M_part_238 q t (iI N) dg kk dd cd 0 o hi (iI pl) = some (0, q, iI pl, dg', kk, dd, cd) := by
  unfold f_M_part_238 f_M_part_248 f_M_part_249
  rw [e, cal_some, if_pos rfl, if_pos rfl, gd_t (by decide)]
theorem Rdr_set_t {pl : Nat} {no re p2 : Int32} {hi v : Int} (hv : 0 ≤ v ∧ v ≤ 9) (e : f_Rdr_readNumber (iI (pl + 1 : Nat)) s (iI N) 1 0 (iI hi) = some (iI v, iI (pl + 1 + 1 : Nat))) {r : Int32 × Int32 × Int32} (er : f_Str_changeSetting no re p2 (iI v) = some r) : f_Rdr_readSetting (iI pl) s (iI N) no re p2 (iI hi) = some (1, iI (pl + 1 + 1 : Nat), r.2.1, r.2.2) := by
  unfold f_Rdr_readSetting
  rw [iI_s, e, cal_some, if_pos (show ¬ iI v = -9 by rw [l_9, iI_neg, iI_eq (by omega) (by omega) (by omega) (by omega)]; omega), er, cal_some]
theorem Rdr_set_f {pl : Nat} {no re p2 : Int32} {hi : Int32} (e : f_Rdr_readNumber (iI (pl + 1 : Nat)) s (iI N) 1 0 hi = some (-9, iI (pl + 1 : Nat))) : f_Rdr_readSetting (iI pl) s (iI N) no re p2 hi = some (0, iI (pl + 1 : Nat), no, re) := by
  unfold f_Rdr_readSetting
  rw [iI_s, e, cal_some, if_neg (show ¬ ¬ (-9 : Int32) = -9 by decide)]
/-- a code's part, read by the reference: the three numbers, or where it stops -/
theorem code_part (hx : TXT s t T N) {pl : Nat} (hp : pl < N) (h : T pl = 107) {kk : Int} (hk : 0 ≤ kk ∧ kk < 12) {H : Int} (hH : 2 ≤ H ∧ H ≤ 9) (dd : Int32) :
    (∃ (v0 v1 c : Int) (p' : Nat), (0 ≤ v0 ∧ v0 < H) ∧ (0 ≤ v1 ∧ v1 < 6) ∧ (0 ≤ c ∧ c < 4096) ∧ pl < p' ∧ p' ≤ N ∧
      f_Rdr_readNumber (iI (pl + 1 : Nat)) s (iI N) 1 0 (iI (H - 1)) = some (iI v0, iI (pl + 1 + 1 : Nat)) ∧ f_Rdr_readNumber (iI (pl + 1 + 1 : Nat)) s (iI N) 1 0 5 = some (iI v1, iI (pl + 1 + 1 + 1 : Nat)) ∧ f_Rdr_readNumber (iI (pl + 1 + 1 + 1 : Nat)) s (iI N) 4 0 4095 = some (iI c, iI p') ∧
      (∀ q dg cd, ∃ dg', f_M_part q t (iI N) (iI pl) dg (iI H) (iI kk) dd cd 0 = some (1, q, iI p', dg', iI (kk + 1), dd, iI c)) ∧
      (∀ q dg cd q', f_M_makes q (iI c) (iI v0) (iI v1) (-1) (-1) = some q' → ∃ dg', f_M_part q t (iI N) (iI pl) dg (iI H) (iI kk) dd cd 1 = some (1, q'.2, iI p', dg', iI (kk + 1), dd, iI c))) ∨
    (∃ p' : Nat, p' < 1000 ∧ (∀ q dg cd, ∃ r, f_M_part q t (iI N) (iI pl) dg (iI H) (iI kk) dd cd 0 = some (0, q, iI p', r)) ∧
      ((f_Rdr_readNumber (iI (pl + 1 : Nat)) s (iI N) 1 0 (iI (H - 1)) = some (-9, iI p')) ∨
       (∃ v0, 0 ≤ v0 ∧ v0 < H ∧ f_Rdr_readNumber (iI (pl + 1 : Nat)) s (iI N) 1 0 (iI (H - 1)) = some (iI v0, iI (pl + 1 + 1 : Nat)) ∧ f_Rdr_readNumber (iI (pl + 1 + 1 : Nat)) s (iI N) 1 0 5 = some (-9, iI p')) ∨
       (∃ v0 v1, 0 ≤ v0 ∧ v0 < H ∧ 0 ≤ v1 ∧ v1 < 6 ∧ f_Rdr_readNumber (iI (pl + 1 : Nat)) s (iI N) 1 0 (iI (H - 1)) = some (iI v0, iI (pl + 1 + 1 : Nat)) ∧ f_Rdr_readNumber (iI (pl + 1 + 1 : Nat)) s (iI N) 1 0 5 = some (iI v1, iI (pl + 1 + 1 + 1 : Nat)) ∧ f_Rdr_readNumber (iI (pl + 1 + 1 + 1 : Nat)) s (iI N) 4 0 4095 = some (-9, iI p')))) := by
  have hN := hx.1
  have st : ∀ q dg cd p0, f_M_part q t (iI N) (iI pl) dg (iI H) (iI kk) dd cd p0 = cal (f_M_digitTo t (iI N) (iI (pl + 1 : Nat)) dg (iI 0) (iI (H - 1))) (fun o_36 => if o_36.1 = 0 then (f_M_part_62 q t (iI N) (iI kk) dd cd p0 o_36 o_36.2.1 o_36.2.2)
  else (cal (f_M_digitTo t (iI N) o_36.2.1 o_36.2.2 (iI 0) (iI 5)) (fun o_52 => if o_52.1 = 0 then (f_M_part_62 q t (iI N) (iI kk) dd cd p0 o_36 o_52.2.1 o_52.2.2)
  else (f_M_part_63 q t (iI N) (iI kk) dd cd p0 o_36 1 o_52.2.1 o_52.2.2)))) := by
    intro q dg cd p0
    unfold f_M_part
    rw [if_neg (by rw [l_12, iI_le (by omega) (by omega) (by omega) (by omega)]; omega), l_107, ← h, M_sign_t hx hp, cal_some, if_neg (show ¬ (1 : Int32) = 0 by decide), show iI H - 1 = iI (H - 1) by rw [l_1, iI_sub]]
    rfl
  rcases digit1 hx (p := pl + 1) (by omega) (lo := 0) (hi := H - 1) (by omega) (by omega) with ⟨v0, a1, a2, a3, a4, a5⟩ | ⟨a4, a5⟩
  · rcases digit1 hx (p := pl + 1 + 1) (by omega) (lo := 0) (hi := 5) (by omega) (by omega) with ⟨v1, b1, b2, b3, b4, b5⟩ | ⟨b4, b5⟩
    · rcases code4 hx (p := pl + 1 + 1 + 1) (by omega) with ⟨c, p', c1, c2, c3, c4, c5, c6⟩ | ⟨p', c1, c2, c3, c4⟩
      · refine Or.inl ⟨v0, v1, c, p', ⟨a1, by omega⟩, ⟨b1, by omega⟩, ⟨c1, c2⟩, by omega, c4, a4, b4, c5, fun q dg cd => ?_, fun q dg cd q' hq => ?_⟩
        · obtain ⟨dg', e⟩ := c6 (iI v1) cd
          refine ⟨dg', ?_⟩
          rw [st, a5, cal_some, if_neg (show ¬ (1 : Int32) = 0 by decide), b5, cal_some, if_neg (show ¬ (1 : Int32) = 0 by decide)]
          unfold f_M_part_63 f_M_part_86
          rw [if_neg (show ¬ (1 : Int32) = 0 by decide), e, cal_some, if_neg (show ¬ (1 : Int32) = 0 by decide), if_neg (show ¬ (1 : Int32) = 0 by decide), if_pos rfl, gd_t (by decide), iI_p1]
        · obtain ⟨dg', e⟩ := c6 (iI v1) cd
          refine ⟨dg', ?_⟩
          rw [st, a5, cal_some, if_neg (show ¬ (1 : Int32) = 0 by decide), b5, cal_some, if_neg (show ¬ (1 : Int32) = 0 by decide)]
          unfold f_M_part_63 f_M_part_86
          rw [if_neg (show ¬ (1 : Int32) = 0 by decide), e, cal_some, if_neg (show ¬ (1 : Int32) = 0 by decide), if_neg (show ¬ (1 : Int32) = 0 by decide), if_neg (show ¬ (1 : Int32) = 0 by decide), hq, cal_some, gd_t (by decide), iI_p1]
      · refine Or.inr ⟨p', by omega, fun q dg cd => ?_, Or.inr (Or.inr ⟨v0, v1, a1, by omega, b1, by omega, a4, b4, c3⟩)⟩
        obtain ⟨dg', cd', e⟩ := c4 (iI v1) cd
        rw [st, a5, cal_some, if_neg (show ¬ (1 : Int32) = 0 by decide), b5, cal_some, if_neg (show ¬ (1 : Int32) = 0 by decide)]
        unfold f_M_part_63 f_M_part_85 f_M_part_86
        rw [if_neg (show ¬ (1 : Int32) = 0 by decide), e, cal_some, if_pos rfl, if_pos rfl, gd_t (by decide)]
        exact ⟨_, rfl⟩
    · refine Or.inr ⟨pl + 1 + 1, by omega, fun q dg cd => ?_, Or.inr (Or.inl ⟨v0, a1, by omega, a4, b4⟩)⟩
      obtain ⟨dg', e⟩ := b5 (iI v0)
      rw [st, a5, cal_some, if_neg (show ¬ (1 : Int32) = 0 by decide), e, cal_some, if_pos rfl]
      unfold f_M_part_62 f_M_part_63 f_M_part_85 f_M_part_86
      rw [if_pos rfl, if_pos rfl, gd_t (by decide)]
      exact ⟨_, rfl⟩
  · refine Or.inr ⟨pl + 1, by omega, fun q dg cd => ?_, Or.inl a4⟩
    obtain ⟨dg', e⟩ := a5 dg
    rw [st, e, cal_some, if_pos rfl]
    unfold f_M_part_62 f_M_part_63 f_M_part_85 f_M_part_86
    rw [if_pos rfl, if_pos rfl, gd_t (by decide)]
    exact ⟨_, rfl⟩
theorem dev_part (hx : TXT s t T N) {pl : Nat} (hp : pl < N) (h : T pl = 100) {dd : Int} (hk : 0 ≤ dd ∧ dd < 6) {H : Int} (hH : 2 ≤ H ∧ H ≤ 9) (kk : Int32) :
    (∃ (v0 c v1 : Int) (p' : Nat), (0 ≤ v0 ∧ v0 < H) ∧ (0 ≤ c ∧ c < 4096) ∧ (0 ≤ v1 ∧ v1 ≤ 3) ∧ pl + 1 < p' ∧ p' + 1 ≤ N ∧
      f_Rdr_readNumber (iI (pl + 1 : Nat)) s (iI N) 1 0 (iI (H - 1)) = some (iI v0, iI (pl + 1 + 1 : Nat)) ∧ f_Rdr_readNumber (iI (pl + 1 + 1 : Nat)) s (iI N) 4 0 4095 = some (iI c, iI p') ∧ f_Rdr_readNumber (iI p') s (iI N) 1 0 3 = some (iI v1, iI (p' + 1 : Nat)) ∧
      (∀ q dg cd, ∃ dg', f_M_part_111 q t (iI N) dg (iI H) kk (iI dd) cd 0 (iI pl) = some (1, q, iI (p' + 1 : Nat), dg', kk, iI (dd + 1), iI c)) ∧
      (∀ q dg cd q', f_M_adds q (iI v0) (iI c) (iI v1) = some q' → ∃ dg', f_M_part_111 q t (iI N) dg (iI H) kk (iI dd) cd 1 (iI pl) = some (1, q'.2, iI (p' + 1 : Nat), dg', kk, iI (dd + 1), iI c))) ∨
    (∃ p' : Nat, p' < 1000 ∧ (∀ q dg cd, ∃ r, f_M_part_111 q t (iI N) dg (iI H) kk (iI dd) cd 0 (iI pl) = some (0, q, iI p', r)) ∧
      ((f_Rdr_readNumber (iI (pl + 1 : Nat)) s (iI N) 1 0 (iI (H - 1)) = some (-9, iI p')) ∨
       (∃ v0, 0 ≤ v0 ∧ v0 < H ∧ f_Rdr_readNumber (iI (pl + 1 : Nat)) s (iI N) 1 0 (iI (H - 1)) = some (iI v0, iI (pl + 1 + 1 : Nat)) ∧ f_Rdr_readNumber (iI (pl + 1 + 1 : Nat)) s (iI N) 4 0 4095 = some (-9, iI p')) ∨
       (∃ (v0 c : Int) (p3 : Nat), 0 ≤ v0 ∧ v0 < H ∧ 0 ≤ c ∧ c < 4096 ∧ f_Rdr_readNumber (iI (pl + 1 : Nat)) s (iI N) 1 0 (iI (H - 1)) = some (iI v0, iI (pl + 1 + 1 : Nat)) ∧ f_Rdr_readNumber (iI (pl + 1 + 1 : Nat)) s (iI N) 4 0 4095 = some (iI c, iI p3) ∧ f_Rdr_readNumber (iI p3) s (iI N) 1 0 3 = some (-9, iI p')))) := by
  have hN := hx.1
  have st : ∀ q dg cd p0, f_M_part_111 q t (iI N) dg (iI H) kk (iI dd) cd p0 (iI pl) = cal (f_M_digitTo t (iI N) (iI (pl + 1 : Nat)) dg (iI 0) (iI (H - 1))) (fun o_147 => if o_147.1 = 0 then (f_M_part_180 q kk (iI dd) p0 o_147 o_147.2.1 o_147.2.2 cd)
  else (cal (f_M_readCode t (iI N) o_147.2.1 o_147.2.2 cd) (fun o_161 => if o_161.1 = 0 then (f_M_part_180 q kk (iI dd) p0 o_147 o_161.2.1 o_161.2.2.1 o_161.2.2.2)
  else (cal (f_M_digitTo t (iI N) o_161.2.1 o_161.2.2.1 (iI 0) (iI 3)) (fun o_170 => if o_170.1 = 0 then (f_M_part_180 q kk (iI dd) p0 o_147 o_170.2.1 o_170.2.2 o_161.2.2.2)
  else (f_M_part_181 q kk (iI dd) p0 o_147 1 o_170.2.1 o_170.2.2 o_161.2.2.2)))))) := by
    intro q dg cd p0
    unfold f_M_part_111
    rw [if_neg (by rw [l_6, iI_le (by omega) (by omega) (by omega) (by omega)]; omega), l_100, ← h, M_sign_t hx hp, cal_some, if_neg (show ¬ (1 : Int32) = 0 by decide), show iI H - 1 = iI (H - 1) by rw [l_1, iI_sub]]
    rfl
  rcases digit1 hx (p := pl + 1) (by omega) (lo := 0) (hi := H - 1) (by omega) (by omega) with ⟨v0, a1, a2, a3, a4, a5⟩ | ⟨a4, a5⟩
  · rcases code4 hx (p := pl + 1 + 1) (by omega) with ⟨c, p', c1, c2, c3, c4, c5, c6⟩ | ⟨p', c1, c2, c3, c4⟩
    · rcases digit1 hx (p := p') (by omega) (lo := 0) (hi := 3) (by omega) (by omega) with ⟨v1, b1, b2, b3, b4, b5⟩ | ⟨b4, b5⟩
      · refine Or.inl ⟨v0, c, v1, p', ⟨a1, by omega⟩, ⟨c1, c2⟩, ⟨b1, b2⟩, by omega, by omega, a4, c5, b4, fun q dg cd => ?_, fun q dg cd q' hq => ?_⟩
        · obtain ⟨dg', e⟩ := c6 (iI v0) cd
          refine ⟨iI v1, ?_⟩
          rw [st, a5, cal_some, if_neg (show ¬ (1 : Int32) = 0 by decide), e, cal_some, if_neg (show ¬ (1 : Int32) = 0 by decide), b5, cal_some, if_neg (show ¬ (1 : Int32) = 0 by decide)]
          unfold f_M_part_181
          rw [if_neg (show ¬ (1 : Int32) = 0 by decide), if_pos rfl, gd_t (by decide), iI_p1]
        · obtain ⟨dg', e⟩ := c6 (iI v0) cd
          refine ⟨iI v1, ?_⟩
          rw [st, a5, cal_some, if_neg (show ¬ (1 : Int32) = 0 by decide), e, cal_some, if_neg (show ¬ (1 : Int32) = 0 by decide), b5, cal_some, if_neg (show ¬ (1 : Int32) = 0 by decide)]
          unfold f_M_part_181
          rw [if_neg (show ¬ (1 : Int32) = 0 by decide), if_neg (show ¬ (1 : Int32) = 0 by decide), hq, cal_some, gd_t (by decide), iI_p1]
      · refine Or.inr ⟨p', by omega, fun q dg cd => ?_, Or.inr (Or.inr ⟨v0, c, p', a1, by omega, c1, c2, a4, c5, b4⟩)⟩
        obtain ⟨dg', e⟩ := c6 (iI v0) cd
        obtain ⟨dg2, e2⟩ := b5 dg'
        rw [st, a5, cal_some, if_neg (show ¬ (1 : Int32) = 0 by decide), e, cal_some, if_neg (show ¬ (1 : Int32) = 0 by decide), e2, cal_some, if_pos rfl]
        unfold f_M_part_180 f_M_part_181
        rw [if_pos rfl, gd_t (by decide)]
        exact ⟨_, rfl⟩
    · refine Or.inr ⟨p', by omega, fun q dg cd => ?_, Or.inr (Or.inl ⟨v0, a1, by omega, a4, c3⟩)⟩
      obtain ⟨dg', cd', e⟩ := c4 (iI v0) cd
      rw [st, a5, cal_some, if_neg (show ¬ (1 : Int32) = 0 by decide), e, cal_some, if_pos rfl]
      unfold f_M_part_180 f_M_part_181
      rw [if_pos rfl, gd_t (by decide)]
      exact ⟨_, rfl⟩
  · refine Or.inr ⟨pl + 1, by omega, fun q dg cd => ?_, Or.inl a4⟩
    obtain ⟨dg', e⟩ := a5 dg
    rw [st, e, cal_some, if_pos rfl]
    unfold f_M_part_180 f_M_part_181
    rw [if_pos rfl, gd_t (by decide)]
    exact ⟨_, rfl⟩
end PARTS
