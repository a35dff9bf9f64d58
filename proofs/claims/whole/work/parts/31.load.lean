/-! a whole text -/
section LOAD
variable {s t : Nat → Int32} {T : Nat → Int} {N : Nat}
def GoodL (s t : Nat → Int32) (N f : Nat) (O : Int32 × Int32 × Int32 × Int32 × Int32 × (Nat → Int32) × Int32 × Int32 × Int32 × Int64) (i pl : Nat) (c h k p w : Nat → Int32) (n : Int32) (dh dc dt : Nat → Int32) (dn on : Int32) (rk : Nat → Int32) (H no re : Int32) (sx : Int64) (a : Nat → Int) (x : Int64) : Prop :=
  ∃ c' h' k' p' w' n' dh' dc' dt' dn' rk' no' re' a' pl', RSf c' h' k' p' w' n' dh' dc' dt' dn' on rk' H no' re' sx a' x ∧ WF a' ∧
      rl16 (f_Rdr_read_15 s (iI N) O) f 1 (iI i) (iI pl) c h k p w n dh dc dt dn rk no re = some (-9, pl', c', h', k', p', w', n', dh', dc', dt', dn', on, rk', H, no', re', sx) ∧
      (∀ q dg cd, ∃ r, rl7 (f_M_reads_66 t (iI N) 0 H) f 1 q (iI pl) dg (iI (a 2)) (iI (a 1)) cd = some (1, q, r)) ∧
      (∀ dg cd, ∃ r, rl7 (f_M_reads_66 t (iI N) 1 H) f 1 (Q a) (iI pl) dg (iI (a 2)) (iI (a 1)) cd = some (1, Q a', r))
def BadL (s t : Nat → Int32) (N f : Nat) (O : Int32 × Int32 × Int32 × Int32 × Int32 × (Nat → Int32) × Int32 × Int32 × Int32 × Int64) (i pl : Nat) (c h k p w : Nat → Int32) (n : Int32) (dh dc dt : Nat → Int32) (dn on : Int32) (rk : Nat → Int32) (H no re : Int32) (a : Nat → Int) : Prop :=
  ∃ pl' : Nat, pl' < 1000 ∧ (∃ r, rl16 (f_Rdr_read_15 s (iI N) O) f 1 (iI i) (iI pl) c h k p w n dh dc dt dn rk no re = some (iI pl', iI pl', r)) ∧
      ∀ q dg cd, ∃ r, rl7 (f_M_reads_66 t (iI N) 0 H) f 1 q (iI pl) dg (iI (a 2)) (iI (a 1)) cd = some (0, q, iI pl', r)
theorem rd_end {O : Int32 × Int32 × Int32 × Int32 × Int32 × (Nat → Int32) × Int32 × Int32 × Int32 × Int64} (hx : TXT s t T N) {i pl : Nat} (hpl : pl = N) (hi : i ≤ pl) (c h k p w : Nat → Int32) (n : Int32) (dh dc dt : Nat → Int32) (dn : Int32) (rk : Nat → Int32) (no re : Int32) (g) : f_Rdr_read_15 s (iI N) O 1 (iI i) (iI pl) c h k p w n dh dc dt dn rk no re g = some (-9, iI pl, c, h, k, p, w, n, dh, dc, dt, dn, O.2.2.2.2.1, rk, O.2.2.2.2.2.2.1, no, re, O.2.2.2.2.2.2.2.2.2) := by
  have hN := hx.1
  unfold f_Rdr_read_15 f_Rdr_read_50
  rw [if_neg (show ¬ (1 : Int32) = 0 by decide), if_neg (show ¬ (1 : Int32) = 0 by decide)]
  by_cases q : 120 ≤ i
  · rw [if_pos (by rw [l_120, iI_le (by omega) (by omega) (by omega) (by omega)]; omega)]
  · rw [if_neg (by rw [l_120, iI_le (by omega) (by omega) (by omega) (by omega)]; omega), show f_Txt_length (iI N) = some (iI N) from rfl, cal_some, if_pos (by rw [iI_le (by omega) (by omega) (by omega) (by omega)]; omega)]
theorem rd_go {O : Int32 × Int32 × Int32 × Int32 × Int32 × (Nat → Int32) × Int32 × Int32 × Int32 × Int64} (hx : TXT s t T N) {i pl : Nat} (hpl : pl < N) (hi : i ≤ pl) (c h k p w : Nat → Int32) (n : Int32) (dh dc dt : Nat → Int32) (dn : Int32) (rk : Nat → Int32) (no re : Int32) (g) : f_Rdr_read_15 s (iI N) O 1 (iI i) (iI pl) c h k p w n dh dc dt dn rk no re g = cal (f_Rdr_readPart (iI pl) s (iI N) c h k p w n dh dc dt dn rk O.2.2.2.2.2.2.1 no re) (fun o_40 => g o_40.1 (iI (i + 1 : Nat)) o_40.2.1 o_40.2.2.1 o_40.2.2.2.1 o_40.2.2.2.2.1 o_40.2.2.2.2.2.1 o_40.2.2.2.2.2.2.1 o_40.2.2.2.2.2.2.2.1 o_40.2.2.2.2.2.2.2.2.1 o_40.2.2.2.2.2.2.2.2.2.1 o_40.2.2.2.2.2.2.2.2.2.2.1 o_40.2.2.2.2.2.2.2.2.2.2.2.1 o_40.2.2.2.2.2.2.2.2.2.2.2.2.1 o_40.2.2.2.2.2.2.2.2.2.2.2.2.2.1 o_40.2.2.2.2.2.2.2.2.2.2.2.2.2.2) := by
  have hN := hx.1
  unfold f_Rdr_read_15
  rw [if_neg (show ¬ (1 : Int32) = 0 by decide), if_neg (by rw [l_120, iI_le (by omega) (by omega) (by omega) (by omega)]; omega), show f_Txt_length (iI N) = some (iI N) from rfl, cal_some, if_neg (by rw [iI_le (by omega) (by omega) (by omega) (by omega)]; omega), iI_s]
theorem rd_z {l i : Int32} {O : Int32 × Int32 × Int32 × Int32 × Int32 × (Nat → Int32) × Int32 × Int32 × Int32 × Int64} (pl : Int32) (c h k p w : Nat → Int32) (n : Int32) (dh dc dt : Nat → Int32) (dn : Int32) (rk : Nat → Int32) (no re : Int32) (g) : f_Rdr_read_15 s l O 0 i pl c h k p w n dh dc dt dn rk no re g = some (pl, pl, c, h, k, p, w, n, dh, dc, dt, dn, O.2.2.2.2.1, rk, O.2.2.2.2.2.2.1, no, re, O.2.2.2.2.2.2.2.2.2) := by
  unfold f_Rdr_read_15 f_Rdr_read_50
  rw [if_pos rfl, if_pos rfl]
theorem mr_end {p0 H : Int32} {pl : Nat} (hx : TXT s t T N) (hpl : pl = N) (q : Nat → Int32) (dg kk dd cd : Int32) (g) : f_M_reads_66 t (iI N) p0 H 1 q (iI pl) dg kk dd cd g = some (1, q, iI pl, dg, H, kk, dd, cd) := by
  have hN := hx.1
  unfold f_M_reads_66
  rw [if_neg (show ¬ (1 : Int32) = 0 by decide), if_pos (by rw [iI_le (by omega) (by omega) (by omega) (by omega)]; omega), gd_t (Or.inr rfl)]
theorem mr_go {p0 H : Int32} {pl : Nat} (hx : TXT s t T N) (hpl : pl < N) (q : Nat → Int32) (dg kk dd cd : Int32) (g) : f_M_reads_66 t (iI N) p0 H 1 q (iI pl) dg kk dd cd g = cal (f_M_part q t (iI N) (iI pl) dg H kk dd cd p0) (fun o_83 => g o_83.1 o_83.2.1 o_83.2.2.1 o_83.2.2.2.1 o_83.2.2.2.2.1 o_83.2.2.2.2.2.1 o_83.2.2.2.2.2.2) := by
  have hN := hx.1
  unfold f_M_reads_66
  rw [if_neg (show ¬ (1 : Int32) = 0 by decide), if_neg (by rw [iI_le (by omega) (by omega) (by omega) (by omega)]; omega)]
theorem mr_z {p0 H l : Int32} (q : Nat → Int32) (pl dg kk dd cd : Int32) (g) : f_M_reads_66 t l p0 H 0 q pl dg kk dd cd g = some (0, q, pl, dg, H, kk, dd, cd) := by
  unfold f_M_reads_66
  rw [if_pos rfl, gd_t (Or.inl rfl)]
theorem loop3 (hx : TXT s t T N) (pl0 v1 v2 : Int32) (on : Int32) (v3 : Nat → Int32) (H : Int32) (v4 v5 : Int32) (x : Int64) : ∀ (m i pl : Nat), N - pl ≤ m → i ≤ pl → pl ≤ N → ∀ (c h k p w : Nat → Int32) (n : Int32) (dh dc dt : Nat → Int32) (dn : Int32) (rk : Nat → Int32) (no re : Int32) (a : Nat → Int), WF a → RSf c h k p w n dh dc dt dn on rk H no re x a x → a 2 ≤ 12 → ∀ f, m + 2 ≤ f → GoodL s t N f (1, pl0, v1, v2, on, v3, H, v4, v5, x) i pl c h k p w n dh dc dt dn on rk H no re x a x ∨ BadL s t N f (1, pl0, v1, v2, on, v3, H, v4, v5, x) i pl c h k p w n dh dc dt dn on rk H no re a := by
  intro m
  induction m with
  | zero =>
    intro i pl h1 h2 h3 c h k p w n dh dc dt dn rk no re a hw hr hK f hf
    obtain ⟨f, rfl⟩ : ∃ g, f = g + 1 := ⟨f - 1, by omega⟩
    refine Or.inl ⟨c, h, k, p, w, n, dh, dc, dt, dn, rk, no, re, a, iI pl, hr, hw, ?_, fun q dg cd => ⟨(iI pl, dg, H, iI (a 2), iI (a 1), cd), ?_⟩, fun dg cd => ⟨(iI pl, dg, H, iI (a 2), iI (a 1), cd), ?_⟩⟩
    · rw [rl16]; exact rd_end hx (by omega) h2 c h k p w n dh dc dt dn rk no re _
    · rw [rl7]; exact mr_end hx (by omega) q dg _ _ cd _
    · rw [rl7]; exact mr_end hx (by omega) (Q a) dg _ _ cd _
  | succ m ih =>
    intro i pl h1 h2 h3 c h k p w n dh dc dt dn rk no re a hw hr hK f hf
    obtain ⟨f, rfl⟩ : ∃ g, f = g + 1 := ⟨f - 1, by omega⟩
    rcases Nat.lt_or_ge pl N with q | q
    · rcases part3 hx q hw hr hK with ⟨pl', c', h', k', p', w', n', dh', dc', dt', dn', rk', no', re', a', g1, g2, g3, g4, g5, g6, g7, g8⟩ | ⟨pl', g0, ⟨r, g1⟩, g2⟩
      · rcases ih (i + 1) pl' (by omega) (by omega) g2 c' h' k' p' w' n' dh' dc' dt' dn' rk' no' re' a' g4 g3 g5 f (by omega) with ⟨c2, h2', k2, p2, w2, n2, dh2, dc2, dt2, dn2, rk2, no2, re2, a2, pl2, j1, j2, j3, j4, j5⟩ | ⟨pl2, j0, ⟨r2, j1⟩, j2⟩
        · refine Or.inl ⟨c2, h2', k2, p2, w2, n2, dh2, dc2, dt2, dn2, rk2, no2, re2, a2, pl2, j1, j2, ?_, fun q' dg cd => ?_, fun dg cd => ?_⟩
          · rw [rl16, rd_go hx q h2]
            show cal (f_Rdr_readPart (iI pl) s (iI N) c h k p w n dh dc dt dn rk H no re) _ = _
            rw [g6, cal_some]
            exact j3
          · obtain ⟨dg', cd', e⟩ := g7 q' dg cd
            obtain ⟨r, e2⟩ := j4 q' dg' cd'
            exact ⟨r, by rw [rl7, mr_go hx q, e, cal_some]; exact e2⟩
          · obtain ⟨dg', cd', e⟩ := g8 dg cd
            obtain ⟨r, e2⟩ := j5 dg' cd'
            exact ⟨r, by rw [rl7, mr_go hx q, e, cal_some]; exact e2⟩
        · refine Or.inr ⟨pl2, j0, ⟨r2, ?_⟩, fun q' dg cd => ?_⟩
          · rw [rl16, rd_go hx q h2]
            show cal (f_Rdr_readPart (iI pl) s (iI N) c h k p w n dh dc dt dn rk H no re) _ = _
            rw [g6, cal_some]
            exact j1
          · obtain ⟨dg', cd', e⟩ := g7 q' dg cd
            obtain ⟨r, e2⟩ := j2 q' dg' cd'
            exact ⟨r, by rw [rl7, mr_go hx q, e, cal_some]; exact e2⟩
      · obtain ⟨f, rfl⟩ : ∃ g, f = g + 1 := ⟨f - 1, by omega⟩
        obtain ⟨r1, r2, r3, r4, r5, r6, r7, r8, r9, r10, r11, r12, r13⟩ := r
        refine Or.inr ⟨pl', g0, ⟨(r1, r2, r3, r4, r5, r6, r7, r8, r9, r10, on, r11, H, r12, r13, x), ?_⟩, fun q' dg cd => ?_⟩
        · rw [rl16, rd_go hx q h2]
          show cal (f_Rdr_readPart (iI pl) s (iI N) c h k p w n dh dc dt dn rk H no re) _ = _
          rw [g1, cal_some, rl16]
          exact rd_z (iI pl') r1 r2 r3 r4 r5 r6 r7 r8 r9 r10 r11 r12 r13 _
        · obtain ⟨⟨u1, u2, u3, u4⟩, e⟩ := g2 q' dg cd
          exact ⟨(u1, H, u2, u3, u4), by rw [rl7, mr_go hx q, e, cal_some, rl7]; exact mr_z q' (iI pl') u1 u2 u3 u4 _⟩
    · refine Or.inl ⟨c, h, k, p, w, n, dh, dc, dt, dn, rk, no, re, a, iI pl, hr, hw, ?_, fun q dg cd => ⟨(iI pl, dg, H, iI (a 2), iI (a 1), cd), ?_⟩, fun dg cd => ⟨(iI pl, dg, H, iI (a 2), iI (a 1), cd), ?_⟩⟩
      · rw [rl16]; exact rd_end hx (by omega) h2 c h k p w n dh dc dt dn rk no re _
      · rw [rl7]; exact mr_end hx (by omega) q dg _ _ cd _
      · rw [rl7]; exact mr_end hx (by omega) (Q a) dg _ _ cd _
/-! a street anew -/
def nwq (a : Nat → Int) : Nat → Int := fun j => if j < 283 then (if j = 0 then 4 else if j = 3 then 1 else if j = 4 then 2 else if 5 ≤ j ∧ j < 59 then -1 else 0) else a j
def nwH (a : Nat → Int) (H : Int) : Nat → Int := va_up (nwq a) 0 H
theorem nw_o (a : Nat → Int) (H : Int) {j : Nat} (h : j < 283) : nwH a H j = if j = 0 then H else if j = 3 then 1 else if j = 4 then 2 else if 5 ≤ j ∧ j < 59 then -1 else 0 := by
  unfold nwH va_up nwq
  by_cases q : j = 0
  · rw [if_pos q, if_pos q]
  · rw [if_neg q, if_neg q, if_pos h, if_neg q]
theorem nw_4 (a : Nat → Int) : nwH a 4 = nwq a := by
  funext j
  unfold nwH va_up
  by_cases q : j = 0
  · rw [if_pos q, q]
    rfl
  · rw [if_neg q]
theorem nw_WF (a : Nat → Int) {H : Int} (hH : 2 ≤ H ∧ H ≤ 9) : WF (nwH a H) := by
  have e0 : nwH a H 0 = H := nw_o a H (j := 0) (by omega)
  have e1 : nwH a H 1 = 0 := nw_o a H (j := 1) (by omega)
  have e2 : nwH a H 2 = 0 := nw_o a H (j := 2) (by omega)
  have e3 : nwH a H 3 = 1 := nw_o a H (j := 3) (by omega)
  have e4 : nwH a H 4 = 2 := nw_o a H (j := 4) (by omega)
  refine ⟨by omega, by omega, by omega, by omega, by omega, fun k hk => ?_, fun i hi => ?_, fun d hd => ?_, fun d hd => ?_⟩
  · rw [nw_o a H (by omega), if_neg (by omega), if_neg (by omega), if_neg (by omega), if_pos (by omega)]
    omega
  · omega
  · omega
  · rw [nw_o a H (by omega), if_neg (by omega), if_neg (by omega), if_neg (by omega), if_neg (by omega)]
    omega
theorem nw_RS (a : Nat → Int) (H : Int) (c h k p w dh dc dt : Nat → Int32) {rk : Nat → Int32} (hk : ∀ j, j < 54 → rk j = -9) : RSf c h k p w 0 dh dc dt 0 0 rk (iI H) 1 2 1 (nwH a H) 1 := by
  have e0 : nwH a H 0 = H := nw_o a H (j := 0) (by omega)
  have e1 : nwH a H 1 = 0 := nw_o a H (j := 1) (by omega)
  have e2 : nwH a H 2 = 0 := nw_o a H (j := 2) (by omega)
  have e3 : nwH a H 3 = 1 := nw_o a H (j := 3) (by omega)
  have e4 : nwH a H 4 = 2 := nw_o a H (j := 4) (by omega)
  refine ⟨⟨by rw [e2]; rfl, fun i hi => by omega⟩, ⟨by rw [e1]; rfl, ?_, fun d hd => by omega⟩, fun m hm => ?_, by rw [e0], by rw [e3]; rfl, by rw [e4]; rfl, rfl⟩
  · unfold onm
    rw [nw_o a H (j := 262) (by omega), nw_o a H (j := 266) (by omega), nw_o a H (j := 270) (by omega), nw_o a H (j := 274) (by omega), nw_o a H (j := 278) (by omega), nw_o a H (j := 282) (by omega)]
    rfl
  · rw [nw_o a H (by omega), if_neg (by omega), if_neg (by omega), if_neg (by omega), if_pos (by omega), hk m hm]
    rfl
theorem Arr_fill (rk : Nat → Int32) : ∃ rk', f_Arr_fill rk (-9) = some rk' ∧ ∀ j, j < 54 → rk' j = -9 := by
  refine ⟨fun i => if i < 54 then -9 else rk i, ?_, fun j hj => if_pos hj⟩
  unfold f_Arr_fill
  suffices hs : rl2 (f_Arr_fill_5 (-9)) FUEL 0 (fun i => if i < 0 then (-9 : Int32) else rk i) = some (fun i => if i < 54 then -9 else rk i) by
    rw [show (fun i => if i < 0 then (-9 : Int32) else rk i) = rk from funext fun i => if_neg (by omega)] at hs
    exact hs
  refine seq2 (body := f_Arr_fill_5 (-9)) (fun j : Nat => iI j) (fun j => fun i => if i < j then (-9 : Int32) else rk i) 54 (fun g => ?_) (fun j hj g => ?_) FUEL 0 (Nat.zero_le _) (fuel_lt (by omega))
  · unfold f_Arr_fill_5
    rw [if_pos (by rw [l_54]; exact (iI_le (by omega) (by omega) (by omega) (by omega)).mpr (by omega))]
  · unfold f_Arr_fill_5
    rw [if_neg (by rw [l_54]; exact iI_nle (by omega) (by omega) (by omega)), gd_t (k54 hj), kcl (by omega), iI_s]
    congr 1
    funext i
    unfold upd
    by_cases q : i = j
    · rw [if_pos q, if_pos (by omega)]
    · rw [if_neg q]
      show (if i < j then (-9 : Int32) else rk i) = _
      by_cases r : i < j
      · rw [if_pos r, if_pos (by omega)]
      · rw [if_neg r, if_neg (by omega)]
/-- what the reference has written, up to j -/
def nwp (a : Nat → Int) (j : Nat) : Nat → Int := fun i => if i < j then (if 5 ≤ i ∧ i < 59 then -1 else 0) else a i
theorem nwp_0 (a : Nat → Int) : nwp a 0 = a := by
  funext i
  exact if_neg (by omega)
theorem nwp_s (a : Nat → Int) (j : Nat) : upd (Q (nwp a j)) j (iI (if 5 ≤ j ∧ j < 59 then -1 else 0)) = Q (nwp a (j + 1)) := by
  rw [Q_up]
  congr 1
  funext i
  unfold va_up nwp
  by_cases q : i = j
  · rw [if_pos q, if_pos (show i < j + 1 by omega), q]
  · rw [if_neg q]
    by_cases r : i < j
    · rw [if_pos r, if_pos (show i < j + 1 by omega)]
    · rw [if_neg r, if_neg (show ¬ i < j + 1 by omega)]
theorem M_anew (a : Nat → Int) (x : Int64) : f_M_anew (Q a) x = some (Q (nwq a), 1) := by
  unfold f_M_anew
  suffices hs : rl2 f_M_anew_2 FUEL 0 (Q (nwp a 0)) = some (Q (nwq a), 1) by
    rw [nwp_0] at hs
    exact hs
  refine seq2 (body := f_M_anew_2) (fun j : Nat => iI j) (fun j => Q (nwp a j)) 283 (fun g => ?_) (fun j hj g => ?_) FUEL 0 (Nat.zero_le _) (fuel_lt (by omega))
  · unfold f_M_anew_2
    rw [if_pos (by rw [l_283]; exact (iI_le (by omega) (by omega) (by omega) (by omega)).mpr (by omega))]
    show some (upd (upd (upd (Q (nwp a 283)) 0 (iI 4)) 3 (iI 1)) 4 (iI 2), (1 : Int64)) = _
    rw [Q_up, Q_up, Q_up]
    congr 3
    funext i
    unfold va_up nwp nwq
    by_cases q4 : i = 4
    · subst q4; rfl
    · rw [if_neg q4]
      by_cases q3 : i = 3
      · subst q3; rfl
      · rw [if_neg q3]
        by_cases q0 : i = 0
        · subst q0; rfl
        · rw [if_neg q0]
          by_cases r : i < 283
          · rw [if_pos r, if_pos r, if_neg q0, if_neg q3, if_neg q4]
          · rw [if_neg r, if_neg r]
  · unfold f_M_anew_2 f_M_anew_33
    rw [if_neg (by rw [l_283]; exact iI_nle (by omega) (by omega) (by omega)), ll_5, ll_58, M_inI (by omega) (by omega) (by omega) (by omega) (by omega), cal_some, if_bI]
    have e := nwp_s a j
    by_cases q : 5 ≤ j ∧ j < 59
    · rw [if_pos q] at e
      rw [if_pos (by omega), gd_t (c283 hj), kcl (by omega), iI_s, ← e]
      rfl
    · rw [if_neg q] at e
      rw [if_neg (by omega), gd_t (c283 hj), kcl (by omega), iI_s, ← e]
      rfl
/-- the program reads, the reference reads twice -/
def GoodR (s t : Nat → Int32) (N : Nat) (c h k p w : Nat → Int32) (n : Int32) (dh dc dt : Nat → Int32) (dn on : Int32) (rk : Nat → Int32) (H no re : Int32) (sx : Int64) (b : Nat → Int) : Prop :=
  ∃ c' h' k' p' w' n' dh' dc' dt' dn' on' rk' H' no' re' a' pl', RSf c' h' k' p' w' n' dh' dc' dt' dn' on' rk' H' no' re' 1 a' 1 ∧ WF a' ∧
      (∀ z, f_Rdr_read z s (iI N) c h k p w n dh dc dt dn on rk H no re sx = some (-9, pl', c', h', k', p', w', n', dh', dc', dt', dn', on', rk', H', no', re', 1)) ∧
      (∀ q z dg hh kk dd cd, ∃ r, f_M_reads q t (iI N) z dg hh kk dd cd 0 = some (1, q, r)) ∧
      (∀ z dg hh kk dd cd, ∃ r, f_M_reads (Q (nwq b)) t (iI N) z dg hh kk dd cd 1 = some (1, Q a', r))
def BadR (s t : Nat → Int32) (N : Nat) (c h k p w : Nat → Int32) (n : Int32) (dh dc dt : Nat → Int32) (dn on : Int32) (rk : Nat → Int32) (H no re : Int32) (sx : Int64) : Prop :=
  ∃ pl' : Nat, pl' < 1000 ∧ (∀ z, ∃ r, f_Rdr_read z s (iI N) c h k p w n dh dc dt dn on rk H no re sx = some (iI pl', iI pl', r)) ∧
      ∀ q z dg hh kk dd cd, ∃ r, f_M_reads q t (iI N) z dg hh kk dd cd 0 = some (0, q, iI pl', r)
theorem reads3 (hx : TXT s t T N) (c h k p w : Nat → Int32) (n : Int32) (dh dc dt : Nat → Int32) (dn on : Int32) (rk : Nat → Int32) (H no re : Int32) (sx : Int64) (b : Nat → Int) : GoodR s t N c h k p w n dh dc dt dn on rk H no re sx b ∨ BadR s t N c h k p w n dh dc dt dn on rk H no re sx := by
  have hN := hx.1
  obtain ⟨m, hm⟩ := FUEL_s (n := 2) (by omega)
  have hz : ∀ (O : Int32 × Int32 × Int32 × Int32 × Int32 × (Nat → Int32) × Int32 × Int32 × Int32 × Int64), O.1 = 0 → ∃ r, rl16 (f_Rdr_read_15 s (iI N) O) FUEL O.1 0 O.2.1 c h k p w O.2.2.1 dh dc dt O.2.2.2.1 O.2.2.2.2.2.1 O.2.2.2.2.2.2.2.1 O.2.2.2.2.2.2.2.2.1 = some (O.2.1, O.2.1, r) := by
    intro O hO
    refine ⟨(c, h, k, p, w, O.2.2.1, dh, dc, dt, O.2.2.2.1, O.2.2.2.2.1, O.2.2.2.2.2.1, O.2.2.2.2.2.2.1, O.2.2.2.2.2.2.2.1, O.2.2.2.2.2.2.2.2.1, O.2.2.2.2.2.2.2.2.2), ?_⟩
    rw [hO, hm, rl16]
    exact rd_z _ _ _ _ _ _ _ _ _ _ _ _ _ _ _
  have mz : ∀ (q : Nat → Int32) (pl dg cd : Int32), f_M_reads_39 q t (iI N) cd 0 0 pl dg = some (0, q, pl, dg, dg, 0, 0, cd) := by
    intro q pl dg cd
    unfold f_M_reads_39
    rw [if_pos rfl, hm, rl7]
    exact mr_z q pl dg 0 0 cd _
  by_cases q0 : 0 < N ∧ T 0 = 82
  · have s0 : f_Txt_signAt s (iI N) 0 = some 82 := by
      have := Txt_signAt hx q0.1
      rw [q0.2] at this
      exact this
    have m0 : f_M_sign t (iI N) 0 82 = some (1, iI (0 + 1 : Nat)) := by
      have := M_sign_t hx q0.1
      rw [q0.2] at this
      exact this
    rcases digit1 hx (p := 0 + 1) (by omega) (lo := 2) (hi := 9) (by omega) (by omega) with ⟨v, a1, a2, a3, a4, a5⟩ | ⟨a4, a5⟩
    · obtain ⟨rk', e1, e2⟩ := Arr_fill rk
      have eh : f_Rdr_readHead 0 s (iI N) n dn on rk H no re sx = some (1, iI (0 + 1 + 1 : Nat), 0, 0, 0, rk', iI v, 1, 2, 1) := by
        unfold f_Rdr_readHead
        rw [s0, cal_some, if_pos rfl]
        show cal (f_Rdr_readNumber (iI (0 + 1 : Nat)) s (iI N) 1 (iI 2) (iI 9)) _ = _
        rw [a4, cal_some, if_pos (ne9 (by omega) (by omega))]
        unfold f_Str_clear
        rw [show f_Rec_clear n = some 0 from rfl, cal_some, show f_Dev_clear dn on = some (0, 0) from rfl, cal_some, e1, cal_some, cal_some]
      have hr := nw_RS b v c h k p w dh dc dt e2
      have hw := nw_WF b (H := v) (by omega)
      have z2 : nwH b v 2 = 0 := nw_o b v (j := 2) (by omega)
      have z1 : nwH b v 1 = 0 := nw_o b v (j := 1) (by omega)
      have rd : ∀ q p0 z dg hh kk dd cd, f_M_reads q t (iI N) z dg hh kk dd cd p0 = f_M_reads_39 q t (iI N) cd p0 1 (iI (0 + 1 + 1 : Nat)) (iI v) := by
        intro q p0 z dg hh kk dd cd
        unfold f_M_reads
        rw [m0, cal_some, if_neg (show ¬ (1 : Int32) = 0 by decide)]
        show cal (f_M_digitTo t (iI N) (iI (0 + 1 : Nat)) dg (iI 2) (iI 9)) _ = _
        rw [a5, cal_some, if_neg (show ¬ (1 : Int32) = 0 by decide)]
      have r0 : ∀ q cd, f_M_reads_39 q t (iI N) cd 0 1 (iI (0 + 1 + 1 : Nat)) (iI v) = rl7 (f_M_reads_66 t (iI N) 0 (iI v)) FUEL 1 q (iI (0 + 1 + 1 : Nat)) (iI v) (iI (nwH b v 2)) (iI (nwH b v 1)) cd := by
        intro q cd
        unfold f_M_reads_39
        rw [if_neg (show ¬ (1 : Int32) = 0 by decide), if_pos rfl, z2, z1]
        rfl
      have r1 : ∀ cd, f_M_reads_39 (Q (nwq b)) t (iI N) cd 1 1 (iI (0 + 1 + 1 : Nat)) (iI v) = rl7 (f_M_reads_66 t (iI N) 1 (iI v)) FUEL 1 (Q (nwH b v)) (iI (0 + 1 + 1 : Nat)) (iI v) (iI (nwH b v 2)) (iI (nwH b v 1)) cd := by
        intro cd
        unfold f_M_reads_39
        rw [if_neg (show ¬ (1 : Int32) = 0 by decide), if_neg (show ¬ (1 : Int32) = 0 by decide), z2, z1, Q_up]
        rfl
      rcases loop3 hx (iI (0 + 1 + 1 : Nat)) 0 0 0 rk' (iI v) 1 2 1 N 0 (0 + 1 + 1) (by omega) (by omega) (by omega) c h k p w 0 dh dc dt 0 rk' 1 2 (nwH b v) hw hr (by omega) FUEL (FUEL_ge (by omega)) with ⟨c', h', k', p', w', n', dh', dc', dt', dn', rk2, no', re', a', pl', j1, j2, j3, j4, j5⟩ | ⟨pl', j0, ⟨r, j1⟩, j2⟩
      · refine Or.inl ⟨c', h', k', p', w', n', dh', dc', dt', dn', 0, rk2, iI v, no', re', a', pl', j1, j2, fun z => ?_, fun q z dg hh kk dd cd => ?_, fun z dg hh kk dd cd => ?_⟩
        · unfold f_Rdr_read
          rw [eh, cal_some]
          exact j3
        · rw [rd, r0]
          exact j4 q (iI v) cd
        · rw [rd, r1]
          exact j5 (iI v) cd
      · refine Or.inr ⟨pl', j0, fun z => ⟨r, ?_⟩, fun q z dg hh kk dd cd => ?_⟩
        · unfold f_Rdr_read
          rw [eh, cal_some]
          exact j1
        · rw [rd, r0]
          exact j2 q (iI v) cd
    · have eh : f_Rdr_readHead 0 s (iI N) n dn on rk H no re sx = some (0, iI (0 + 1 : Nat), n, dn, on, rk, H, no, re, sx) := by
        unfold f_Rdr_readHead
        rw [s0, cal_some, if_pos rfl]
        show cal (f_Rdr_readNumber (iI (0 + 1 : Nat)) s (iI N) 1 (iI 2) (iI 9)) _ = _
        rw [a4, cal_some, if_neg (show ¬ ¬ (-9 : Int32) = -9 from fun z => z rfl)]
      refine Or.inr ⟨0 + 1, by omega, fun z => ?_, fun q z dg hh kk dd cd => ?_⟩
      · unfold f_Rdr_read
        rw [eh, cal_some]
        exact hz (0, iI (0 + 1 : Nat), n, dn, on, rk, H, no, re, sx) rfl
      · obtain ⟨dg', e⟩ := a5 dg
        refine ⟨(dg', dg', 0, 0, cd), ?_⟩
        unfold f_M_reads f_M_reads_38
        rw [m0, cal_some, if_neg (show ¬ (1 : Int32) = 0 by decide)]
        show cal (f_M_digitTo t (iI N) (iI (0 + 1 : Nat)) dg (iI 2) (iI 9)) _ = _
        rw [e, cal_some, if_pos rfl]
        exact mz q _ dg' cd
  · have s0 : ∃ o, f_Txt_signAt s (iI N) 0 = some o ∧ o ≠ 82 := by
      by_cases q : 0 < N
      · refine ⟨iI (T 0), Txt_signAt hx q, ?_⟩
        have := hx.2 0 q
        intro z
        rw [show (82 : Int32) = iI 82 from rfl, iI_eq (by omega) (by omega) (by omega) (by omega)] at z
        exact q0 ⟨q, z⟩
      · exact ⟨-9, Txt_signAt_f hx (p := 0) (by omega) (by omega), by decide⟩
    obtain ⟨o, s1, s2⟩ := s0
    have m0 : f_M_sign t (iI N) 0 82 = some (0, 0) := M_sign_f hx (p := 0) (by omega) (c := 82) (by omega) q0
    have eh : f_Rdr_readHead 0 s (iI N) n dn on rk H no re sx = some (0, 0, n, dn, on, rk, H, no, re, sx) := by
      unfold f_Rdr_readHead
      rw [s1, cal_some, if_neg s2]
    refine Or.inr ⟨0, by omega, fun z => ?_, fun q z dg hh kk dd cd => ⟨(dg, dg, 0, 0, cd), ?_⟩⟩
    · unfold f_Rdr_read
      rw [eh, cal_some]
      exact hz (0, 0, n, dn, on, rk, H, no, re, sx) rfl
    · unfold f_M_reads f_M_reads_38
      rw [m0, cal_some, if_pos rfl]
      exact mz q 0 dg cd
end LOAD
