/-! what the law does in a turn -/
abbrev AR : Type := Int32 × (Nat → Int32) × (Nat → Int32) × (Nat → Int32) × (Nat → Int32) × (Nat → Int32) × Int32 × (Nat → Int32) × (Nat → Int32) × (Nat → Int32) × Int32 × Int32 × (Nat → Int32) × Int32 × Int32 × Int64 × (Nat → SV) × Int32 × Int32
/-- the end of a turn: the answer is 1, and all holds again -/
def ACT (H : Int32) (N : Int) (r : Option AR) : Prop := ∃ (u : AR) (b : Nat → Int), r = some u ∧ u.1 = 1 ∧ WF b ∧ INV b ∧ b 2 ≤ N + 1 ∧ MM u.2.2.2.2.2.2.2.2.2.2.2.2.2.2.2.2.2.1 u.2.2.2.2.2.2.2.2.2.2.2.2.2.2.2.2.2.2 ∧ RSf u.2.1 u.2.2.1 u.2.2.2.1 u.2.2.2.2.1 u.2.2.2.2.2.1 u.2.2.2.2.2.2.1 u.2.2.2.2.2.2.2.1 u.2.2.2.2.2.2.2.2.1 u.2.2.2.2.2.2.2.2.2.1 u.2.2.2.2.2.2.2.2.2.2.1 u.2.2.2.2.2.2.2.2.2.2.2.1 u.2.2.2.2.2.2.2.2.2.2.2.2.1 H u.2.2.2.2.2.2.2.2.2.2.2.2.2.1 u.2.2.2.2.2.2.2.2.2.2.2.2.2.2.1 u.2.2.2.2.2.2.2.2.2.2.2.2.2.2.2.1 b u.2.2.2.2.2.2.2.2.2.2.2.2.2.2.2.1
theorem sh_2 {z : Nat} (h : z < 2147483648) : iI (z : Int) >>> (2 &&& 31) = iI ((z / 4 : Nat) : Int) := pk_shrN (show z < 2 ^ 31 by omega) _ 2 (by decide +kernel)
theorem sh_3 {z : Nat} (h : z < 2147483648) : iI (z : Int) >>> (3 &&& 31) = iI ((z / 8 : Nat) : Int) := pk_shrN (show z < 2 ^ 31 by omega) _ 3 (by decide +kernel)
theorem sh_4 {z : Nat} (h : z < 2147483648) : iI (z : Int) >>> (4 &&& 31) = iI ((z / 16 : Nat) : Int) := pk_shrN (show z < 2 ^ 31 by omega) _ 4 (by decide +kernel)
theorem sh_5 {z : Nat} (h : z < 2147483648) : iI (z : Int) >>> (5 &&& 31) = iI ((z / 32 : Nat) : Int) := pk_shrN (show z < 2 ^ 31 by omega) _ 5 (by decide +kernel)
theorem sh_7 {z : Nat} (h : z < 2147483648) : iI (z : Int) >>> (7 &&& 31) = iI ((z / 128 : Nat) : Int) := pk_shrN (show z < 2 ^ 31 by omega) _ 7 (by decide +kernel)
theorem sh_9 {z : Nat} (h : z < 2147483648) : iI (z : Int) >>> (9 &&& 31) = iI ((z / 512 : Nat) : Int) := pk_shrN (show z < 2 ^ 31 by omega) _ 9 (by decide +kernel)
theorem sh_11 {z : Nat} (h : z < 2147483648) : iI (z : Int) >>> (11 &&& 31) = iI ((z / 2048 : Nat) : Int) := pk_shrN (show z < 2 ^ 31 by omega) _ 11 (by decide +kernel)
theorem sh_19 {z : Nat} (h : z < 2147483648) : iI (z : Int) >>> (19 &&& 31) = iI ((z / 524288 : Nat) : Int) := pk_shrN (show z < 2 ^ 31 by omega) _ 19 (by decide +kernel)
theorem rm_4 {z : Nat} (h : z < 2147483648) : iI (z : Int) - iI (z : Int) / 4 * 4 = iI ((z % 4 : Nat) : Int) := by
  rw [l_4, iI_rem (by omega) (by omega) (by omega) (by omega)]
  rfl
theorem rm_6 {z : Nat} (h : z < 2147483648) : iI (z : Int) - iI (z : Int) / 6 * 6 = iI ((z % 6 : Nat) : Int) := by
  rw [l_6, iI_rem (by omega) (by omega) (by omega) (by omega)]
  rfl
theorem rm_9 {z : Nat} (h : z < 2147483648) : iI (z : Int) - iI (z : Int) / 9 * 9 = iI ((z % 9 : Nat) : Int) := by
  rw [l_9, iI_rem (by omega) (by omega) (by omega) (by omega)]
  rfl
theorem rm_4096 {z : Nat} (h : z < 2147483648) : iI (z : Int) - iI (z : Int) / 4096 * 4096 = iI ((z % 4096 : Nat) : Int) := by
  rw [l_4096, iI_rem (by omega) (by omega) (by omega) (by omega)]
  rfl
section ACTS
variable {c h k p w : Nat → Int32} {n : Int32} {dh dc dt : Nat → Int32} {dn on : Int32} {rk : Nat → Int32} {a : Nat → Int} {x : Int64} {st : Nat → SV} {old cnt : Int32}
theorem ACT_same (hm : MM old cnt) (hw : WF a) (hv : INV a) (hr : RSf c h k p w n dh dc dt dn on rk (iI (a 0)) (iI (a 3)) (iI (a 4)) x a x) {H : Int32} (hH : H = iI (a 0)) {no re : Int32} (hno : no = iI (a 3)) (hre : re = iI (a 4)) : ACT H (a 2) (some (1, c, h, k, p, w, n, dh, dc, dt, dn, on, rk, no, re, x, st, old, cnt)) := by
  subst hH hno hre
  exact ⟨_, a, rfl, rfl, hw, hv, by omega, hm, hr⟩
theorem ln_new {b : Nat → Int} (hw : WF b) {i : Int} (hi : ok b i) (h0 : 0 ≤ i) (hn : nx b i = -1) : ln b i = 1 := by
  have e := ln_nx hw hi h0
  have b2 := hw.b2
  have h1 : ok b (-1) := ⟨by omega, by omega⟩
  have l0 := ln_le hw h1
  rw [hn] at e
  omega
theorem mks_facts (hw : WF a) (h40 : a 2 < 40) {y z v q r : Int} (hy : isK a y z) (hv : 0 ≤ v ∧ v < 4096) (hp : -1 ≤ q ∧ q < a 2) (hb : -1 ≤ r ∧ r < 12) : isK (mks a v y z q r) y z ∧ kr (mks a v y z q r) y z = a 2 ∧ mks a v y z q r 2 = a 2 + 1 ∧ cd (mks a v y z q r) (a 2) = v ∧ nx (mks a v y z q r) (a 2) = q ∧ mks a v y z q r 0 = a 0 ∧ mks a v y z q r 3 = a 3 ∧ mks a v y z q r 4 = a 4 := by
  have b2 := hw.b2
  have hk := ki_lt hw hy
  have r1 := mks_r hw hy v q r
  have o : ∀ {j : Nat}, j ≠ 2 → j ≠ 5 + ki y z → (j < 59 + 5 * (a 2).toNat ∨ 63 + 5 * (a 2).toNat < j) → mks a v y z q r j = a j := fun g1 g2 g3 => mks_o v y z q r g1 g2 g3
  refine ⟨by rw [isK, o (by omega) (by omega) (by omega)]; exact hy, mks_k v y z q r, mks_n hw hy v q r, ?_, ?_, o (by omega) (by omega) (by omega), o (by omega) (by omega) (by omega), o (by omega) (by omega) (by omega)⟩
  · unfold cd
    rw [if_neg (by omega)]
    exact r1.1
  · unfold nx
    rw [if_neg (by omega)]
    exact r1.2.2.2.1
theorem a_enter (hm : MM old cnt) (hw : WF a) (hv : INV a) (hr : RSf c h k p w n dh dc dt dn on rk (iI (a 0)) (iI (a 3)) (iI (a 4)) x a x) (h40 : a 2 < 40) {y z v : Int} (q : isK a y z) (q2 : 0 ≤ v ∧ v ≤ 4095) {F : _ → Option AR} (hF : ∀ c' h' k' p' w' n' rk' st' old' cnt' b, WF b → INV b → b 2 = a 2 + 1 → isK b y z → kr b y z = a 2 → nx b (a 2) = -1 → MM old' cnt' → RSf c' h' k' p' w' n' dh dc dt dn on rk' (iI (a 0)) (iI (a 3)) (iI (a 4)) x b x → ACT (iI (a 0)) (a 2) (F (iI (a 2), c', h', k', p', w', n', rk', st', old', cnt'))) : ACT (iI (a 0)) (a 2) (cal (f_TR_enter c h k p w n dh dc dt dn on rk (iI (a 0)) (iI (a 3)) (iI (a 4)) x st old cnt (iI y) (iI z) (iI v)) F) := by
  have b2 := hw.b2
  obtain ⟨st2, o2, m2, g1, g2, g3, e⟩ := t_enter (st := st) hm hw hr q q2 h40
  have f := mks_facts (v := v) (q := -1) (r := -1) hw h40 q (by omega) (by omega) (by omega)
  rw [e, cal_some]
  exact hF _ _ _ _ _ _ _ _ _ _ (mks a v y z (-1) (-1)) (mks_WF hw h40 q (by omega) (by omega) (by omega)) (INV_mks hw hv h40 q (by omega) (fun _ => by omega) (fun g => by omega)) f.2.2.1 f.1 f.2.1 f.2.2.2.2.1 (MM_of g1 g2) (RS_mks hw h40 q hr x)
theorem a199 (hm : MM old cnt) (hw : WF a) (hv : INV a) (hr : RSf c h k p w n dh dc dt dn on rk (iI (a 0)) (iI (a 3)) (iI (a 4)) x a x) (h40 : a 2 < 40) {y z t l : Int} (q : isK a y z) (q0 : 0 ≤ kr a y z) (q2 : isK a t l) (hn : ¬ (y = t ∧ z = l)) : ACT (iI (a 0)) (a 2) (f_L_acts_199 c h k p w n dh dc dt dn on rk (iI (a 0)) (iI (a 3)) (iI (a 4)) x st old cnt (iI y) (iI z) (iI t) (iI l) (iI (a 2)) (iI (lrn a x y (kr a y z) t))) := by
  have b2 := hw.b2
  have hk := kr_ok hw q
  have hks := hk
  unfold ok at hks
  have hl := lrn_b hw x (h := y) (to := t) hk q0
  have hwt := wb_b (nextx x) (a 3 * di y t)
  obtain ⟨st2, o2, m2, g1, g2, g3, e⟩ := t_teach (st := st) hm hw hr q q0 q2 hn h40
  have f := mks_facts (v := lrn a x y (kr a y z) t) (q := kr a y z) (r := wbt a x y t) hw h40 q2 hl (by omega) hwt
  have hwb := mks_WF (c := lrn a x y (kr a y z) t) (p := kr a y z) (w := wbt a x y t) hw h40 q2 hl (by omega) hwt
  have hvb := INV_mks (c := lrn a x y (kr a y z) t) (p := kr a y z) (w := wbt a x y t) hw hv h40 q2 (by omega) (fun g => by omega) (fun _ => rfl)
  have hrb := RS_mks (v0 := lrn a x y (kr a y z) t) (v3 := kr a y z) (v4 := wbt a x y t) hw h40 q2 hr (nextx x)
  unfold f_L_acts_199
  rw [t_key1 hw hr q, cal_some, e, cal_some, gd_t rfl, t_key0 hwb hrb f.1, cal_some, f.2.1, f.2.2.2.1, gd_t rfl, t_record0 hwb hrb (show 0 ≤ a 2 by omega) (by rw [f.2.2.1]; omega), cal_some, f.2.2.2.2.1, gd_t rfl, t_about2 hwb hrb, cal_some, f.2.2.1, gd_t (by rw [iI_p1])]
  exact ⟨_, _, rfl, rfl, hwb, hvb, by rw [f.2.2.1]; omega, MM_of g1 g2, hrb⟩
theorem a163 (hm : MM old cnt) (hw : WF a) (hv : INV a) (hr : RSf c h k p w n dh dc dt dn on rk (iI (a 0)) (iI (a 3)) (iI (a 4)) x a x) (h40 : a 2 < 40) {y z t l : Int} (q : isK a y z) (q2 : isK a t l) : ACT (iI (a 0)) (a 2) (f_L_acts_163 c h k p w n dh dc dt dn on rk (iI (a 0)) (iI (a 3)) (iI (a 4)) x st old cnt (iI y) (iI z) (iI t) (iI l) (iI (a 2))) := by
  have s1 := isK_sm hw q
  have s2 := isK_sm hw q2
  have hk := kr_ok hw q
  unfold f_L_acts_163
  rw [t_wouldBe hw hr q q2.1, cal_some, gd_t rfl]
  by_cases q0 : kr a y z < 0
  · rw [if_pos q0, if_pos (show iI (-9) < 0 by decide)]
    exact ACT_same hm hw hv hr rfl rfl rfl
  · have hl := lrn_b hw x (h := y) (to := t) hk (by omega)
    rw [if_neg q0, if_neg (by rw [iI_neg0 (by omega)]; omega)]
    by_cases g1 : y = t
    · rw [if_neg (by rw [g1]; exact fun z => z rfl)]
      by_cases g2 : z = l
      · rw [if_neg (by rw [g2]; exact fun z => z rfl)]
        exact ACT_same hm hw hv hr rfl rfl rfl
      · rw [if_pos (by rw [iI_eq (by omega) (by omega) (by omega) (by omega)]; exact g2)]
        exact a199 hm hw hv hr h40 q (by omega) q2 (fun g => g2 g.2)
    · rw [if_pos (by rw [iI_eq (by omega) (by omega) (by omega) (by omega)]; exact g1)]
      exact a199 hm hw hv hr h40 q (by omega) q2 (fun g => g1 g.1)
theorem a455 (hm : MM old cnt) (hw : WF a) (hv : INV a) (hr : RSf c h k p w n dh dc dt dn on rk (iI (a 0)) (iI (a 3)) (iI (a 4)) x a x) {z : Nat} (hz : z < 2147483648) {s0 : Int32} (hs : s0 < 0 ∨ ∃ d : Nat, (d : Int) < a 1 ∧ s0 = iI d) : ACT (iI (a 0)) (a 2) (f_L_acts_455 c h k p w n dh dc dt dn on rk (iI (a 0)) (iI (a 3)) (iI (a 4)) x st old cnt (iI z) s0) := by
  have b1 := hw.b1
  unfold f_L_acts_455
  by_cases g : s0 < 0
  · rw [if_pos g]
    exact ACT_same hm hw hv hr rfl rfl rfl
  · rcases hs with hs | ⟨d, hd, rfl⟩
    · exact absurd hs g
    · have hdv := hw.dev hd
      obtain ⟨st2, o2, m2, g1, g2, g3, e⟩ := t_setTolerance (st := st) hm hw hr (d := d) (u := ((z / 512 % 4 : Nat) : Int)) hd (by omega)
      have hwb := tol_WF (d := d) (t := ((z / 512 % 4 : Nat) : Int)) hw (by omega)
      have hvb := INV_tol hw hv d ((z / 512 % 4 : Nat) : Int)
      have hrb := RS_tol hw d ((z / 512 % 4 : Nat) : Int) hr
      have et : tol a d ((z / 512 % 4 : Nat) : Int) (261 + 4 * d) = ((z / 512 % 4 : Nat) : Int) := up_eq
      have e1 : tol a d ((z / 512 % 4 : Nat) : Int) 1 = a 1 := tol_o (by omega)
      have e2 : tol a d ((z / 512 % 4 : Nat) : Int) 2 = a 2 := tol_o (by omega)
      rw [if_neg g, sh_9 hz, rm_4 (by omega), e, cal_some, gd_t (by rw [iI_neg0 (by omega)]; omega), t_device2 hwb hrb (d := d) (by rw [e1]; exact hd), cal_some, et, gd_t rfl]
      exact ⟨_, _, rfl, rfl, hwb, hvb, by rw [e2]; omega, MM_of g1 g2, hrb⟩
theorem a398 (hm : MM old cnt) (hw : WF a) (hv : INV a) (hr : RSf c h k p w n dh dc dt dn on rk (iI (a 0)) (iI (a 3)) (iI (a 4)) x a x) {z : Nat} (hz : z < 2147483648) {y : Int} (q : 0 ≤ y ∧ y < a 0) {s0 : Int32} (hs : s0 < 0 ∨ ∃ d : Nat, (d : Int) < a 1 ∧ s0 = iI d) : ACT (iI (a 0)) (a 2) (f_L_acts_398 c h k p w n dh dc dt dn on rk (iI (a 0)) (iI (a 3)) (iI (a 4)) x st old cnt (iI z) (iI y) s0) := by
  have b0 := hw.b0
  have b1 := hw.b1
  unfold f_L_acts_398
  rw [t_about1 hw hr, cal_some]
  by_cases g : 6 ≤ a 1
  · rw [if_pos (by rw [l_6, iI_le (by omega) (by omega) (by omega) (by omega)]; exact g)]
    exact a455 hm hw hv hr hz hs
  · rw [if_neg (by rw [l_6, iI_le (by omega) (by omega) (by omega) (by omega)]; exact g)]
    by_cases g5 : ¬ ((iI (z : Int) >>> (5 &&& 31)) &&& 1) = 0
    · rw [if_pos g5]
      exact a455 hm hw hv hr hz hs
    · have q1 : 0 ≤ ((z / 128 % 4096 : Nat) : Int) ∧ ((z / 128 % 4096 : Nat) : Int) ≤ 4095 := by omega
      have q2 : 0 ≤ ((z / 524288 % 4 : Nat) : Int) ∧ ((z / 524288 % 4 : Nat) : Int) ≤ 3 := by omega
      obtain ⟨st2, o2, m2, g1, g2, g3, e⟩ := t_addDevice (st := st) hm hw hr q q1 q2 (by omega)
      have hwb := ads_WF (h := y) (c := ((z / 128 % 4096 : Nat) : Int)) (t := ((z / 524288 % 4 : Nat) : Int)) hw (by omega) (by omega) (by omega) q2
      have hvb := INV_ads hw hv y ((z / 128 % 4096 : Nat) : Int) ((z / 524288 % 4 : Nat) : Int)
      have hrb := RS_ads (y := y) (v := ((z / 128 % 4096 : Nat) : Int)) (t := ((z / 524288 % 4 : Nat) : Int)) hw (by omega) hr
      have e1 := ads_n (a := a) y ((z / 128 % 4096 : Nat) : Int) ((z / 524288 % 4 : Nat) : Int)
      have e2 : ads a y ((z / 128 % 4096 : Nat) : Int) ((z / 524288 % 4 : Nat) : Int) 2 = a 2 := ads_o _ _ _ (by omega) (by omega)
      rw [if_neg g5, sh_7 hz, rm_4096 (by omega), sh_19 hz, rm_4 (by omega), e, cal_some, t_about1 hwb hrb, cal_some, e1, gd_t (by rw [l_1, iI_sub, show a 1 + 1 - 1 = a 1 by omega])]
      exact ⟨_, _, rfl, rfl, hwb, hvb, by rw [e2]; omega, MM_of g1 g2, hrb⟩
theorem L_acts_ok (hm : MM old cnt) (hw : WF a) (hv : INV a) (hr : RSf c h k p w n dh dc dt dn on rk (iI (a 0)) (iI (a 3)) (iI (a 4)) x a x) (h40 : a 2 < 40) {Y : Nat} (hY : Y < 2147483648) : ACT (iI (a 0)) (a 2) (f_L_acts c h k p w n dh dc dt dn on rk (iI (a 0)) (iI (a 3)) (iI (a 4)) x st old cnt (iI Y)) := by
  have b0 := hw.b0
  have b1 := hw.b1
  have b2 := hw.b2
  have b3 := hw.b3
  have b4 := hw.b4
  have h4 := hv.h
  obtain ⟨z, hz⟩ : ∃ z : Nat, z = Y / 8 := ⟨_, rfl⟩
  have hz2 : z < 2147483648 := by omega
  have q : isK a ((z : Int) % a 0) ((z / 16 % 6 : Nat) : Int) := by
    rw [isK, h4]
    omega
  have q2 : isK a (((z / 128 : Nat) : Int) % a 0) ((z / 2048 % 6 : Nat) : Int) := by
    rw [isK, h4]
    omega
  have hk := kr_ok hw q
  have hcd := cd_sm hw hk
  have hks := hk
  unfold ok at hks
  unfold f_L_acts
  rw [sh_3 hY, ← hz, bnd_s, t_about0 hw hr, cal_some, gd_t (by rw [l_0, iI_eq (by omega) (by omega) (by omega) (by omega)]; omega), iI_rem (by omega) (by omega) (by omega) (by omega), bnd_s, sh_4 hz2, rm_6 (by omega), bnd_s, cal_some, gd_t (by rw [l_0, iI_eq (by omega) (by omega) (by omega) (by omega)]; omega), sh_7 hz2, iI_rem (by omega) (by omega) (by omega) (by omega), bnd_s, sh_11 hz2, rm_6 (by omega), bnd_s, t_about2 hw hr, cal_some, gd_t (by rw [l_40, iI_eq (by omega) (by omega) (by omega) (by omega)]; omega), show iI (Y : Int) &&& 7 = iI ((Y % 8 : Nat) : Int) from pk_andN (show Y < 2 ^ 32 by omega) 3 (by decide +kernel)]
  rcases (show Y % 8 = 0 ∨ Y % 8 = 1 ∨ Y % 8 = 2 ∨ Y % 8 = 3 ∨ Y % 8 = 4 ∨ Y % 8 = 5 ∨ Y % 8 = 6 ∨ Y % 8 = 7 by omega) with g | g | g | g | g | g | g | g
  · rw [g, if_pos (show iI ((0 : Nat) : Int) = 0 from rfl), gd_t rfl, rm_4096 (by omega)]
    refine a_enter hm hw hv hr h40 q (by omega) (fun c' h' k' p' w' n' rk' st' old' cnt' b hwb hvb e2 qb ek en hmb hrb => ?_)
    have l1 := ln_new hwb (i := a 2) ⟨by omega, by omega⟩ (by omega) en
    rw [gd_t rfl, t_key1 hwb hrb qb, cal_some, ek, gd_t (n9_pos (by omega)), t_key2 hwb hrb qb (by omega), cal_some, ek, l1, gd_t (by rfl)]
    exact ⟨_, b, rfl, rfl, hwb, hvb, by omega, hmb, hrb⟩
  · rw [g, if_neg (show ¬ iI ((1 : Nat) : Int) = 0 by decide), if_pos (show iI ((1 : Nat) : Int) = 1 from rfl)]
    exact a163 hm hw hv hr h40 q q2
  · rw [g, if_neg (show ¬ iI ((2 : Nat) : Int) = 0 by decide), if_neg (show ¬ iI ((2 : Nat) : Int) = 1 by decide), if_pos (show iI ((2 : Nat) : Int) = 2 from rfl)]
    exact a163 hm hw hv hr h40 q q2
  · rw [g, if_neg (show ¬ iI ((3 : Nat) : Int) = 0 by decide), if_neg (show ¬ iI ((3 : Nat) : Int) = 1 by decide), if_neg (show ¬ iI ((3 : Nat) : Int) = 2 by decide), if_pos (show iI ((3 : Nat) : Int) = 3 from rfl)]
    exact a163 hm hw hv hr h40 q q2
  · rw [g, if_neg (show ¬ iI ((4 : Nat) : Int) = 0 by decide), if_neg (show ¬ iI ((4 : Nat) : Int) = 1 by decide), if_neg (show ¬ iI ((4 : Nat) : Int) = 2 by decide), if_neg (show ¬ iI ((4 : Nat) : Int) = 3 by decide), if_pos (show iI ((4 : Nat) : Int) = 4 from rfl), t_key0 hw hr q, cal_some]
    by_cases g9 : (0 : Int32) < ((iI (z : Int) >>> (9 &&& 31)) &&& 3)
    · rw [if_pos g9]
      exact ACT_same hm hw hv hr rfl rfl rfl
    · obtain ⟨st2, o2, m2, g1, g2, g3, e⟩ := t_erase (st := st) hm hw hr q
      have hwb := ers_WF hw q
      have hvb := INV_ers hw hv q
      have hrb := RS_ers hw q hr
      have e0 : ers a ((z : Int) % a 0) ((z / 16 % 6 : Nat) : Int) 0 = a 0 := ers_o (by omega)
      have e2 : ers a ((z : Int) % a 0) ((z / 16 % 6 : Nat) : Int) 2 = a 2 := ers_o (by omega)
      have ek : kr (ers a ((z : Int) % a 0) ((z / 16 % 6 : Nat) : Int)) ((z : Int) % a 0) ((z / 16 % 6 : Nat) : Int) = -1 := up_eq
      rw [if_neg g9, e, cal_some, gd_t rfl, t_key0 hwb hrb (by rw [isK, e0]; exact q), cal_some, ek, gd_t (by rfl)]
      exact ⟨_, _, rfl, rfl, hwb, hvb, by rw [e2]; omega, MM_of g1 g2, hrb⟩
  · rw [g, if_neg (show ¬ iI ((5 : Nat) : Int) = 0 by decide), if_neg (show ¬ iI ((5 : Nat) : Int) = 1 by decide), if_neg (show ¬ iI ((5 : Nat) : Int) = 2 by decide), if_neg (show ¬ iI ((5 : Nat) : Int) = 3 by decide), if_neg (show ¬ iI ((5 : Nat) : Int) = 4 by decide), if_pos (show iI ((5 : Nat) : Int) = 5 from rfl), t_about7 hw hr, cal_some, t_accepted hw hr q, cal_some, t_key0 hw hr q, cal_some]
    by_cases g9 : cd a (kr a ((z : Int) % a 0) ((z / 16 % 6 : Nat) : Int)) < 0
    · rw [if_pos (by rw [iI_neg0 (by omega)]; exact g9)]
      exact ACT_same hm hw hv hr rfl rfl rfl
    · obtain ⟨st2, o2, m2, g1, g2, g3, e⟩ := t_press (st := st) hm hw hr q (by omega)
      have hwb := prs_WF hw ((z : Int) % a 0) ((z / 16 % 6 : Nat) : Int)
      have hvb : INV (prs a ((z : Int) % a 0) ((z / 16 % 6 : Nat) : Int)) := INV_pr hw hv _
      have hrb := RS_prs (y := (z : Int) % a 0) (z := ((z / 16 % 6 : Nat) : Int)) hw hr
      have e2 : prs a ((z : Int) % a 0) ((z / 16 % 6 : Nat) : Int) 2 = a 2 := pr_out a _ _ (fun d _ => by omega)
      rw [if_neg (by rw [iI_neg0 (by omega)]; exact g9), e, cal_some, gd_t rfl, t_about7 hwb hrb, cal_some, gd_t (show iI (onm (prs a ((z : Int) % a 0) ((z / 16 % 6 : Nat) : Int))) = iI (onm a) ^^^ nI (am a ((z : Int) % a 0) (kr a ((z : Int) % a 0) ((z / 16 % 6 : Nat) : Int))) from (onm_pr (n := (a 1).toNat) hw (mk_lt _ _) (by omega)).symm)]
      exact ⟨_, _, rfl, rfl, hwb, hvb, by rw [e2]; omega, MM_of g1 g2, hrb⟩
  · rw [g, if_neg (show ¬ iI ((6 : Nat) : Int) = 0 by decide), if_neg (show ¬ iI ((6 : Nat) : Int) = 1 by decide), if_neg (show ¬ iI ((6 : Nat) : Int) = 2 by decide), if_neg (show ¬ iI ((6 : Nat) : Int) = 3 by decide), if_neg (show ¬ iI ((6 : Nat) : Int) = 4 by decide), if_neg (show ¬ iI ((6 : Nat) : Int) = 5 by decide), if_pos (show iI ((6 : Nat) : Int) = 6 from rfl), t_about1 hw hr, cal_some]
    by_cases g9 : a 1 = 0
    · rw [if_neg (by rw [g9]; exact fun z => z rfl)]
      exact a398 hm hw hv hr hz2 q.1 (Or.inl (by decide))
    · rw [if_pos (by rw [l_0, iI_eq (by omega) (by omega) (by omega) (by omega)]; exact g9), cal_some, gd_t (by rw [l_0, iI_eq (by omega) (by omega) (by omega) (by omega)]; exact g9), iI_rem (by omega) (by omega) (by omega) (by omega)]
      have d1 := Int.emod_nonneg (z : Int) g9
      have d2 := Int.emod_lt_of_pos (z : Int) (show 0 < a 1 by omega)
      exact a398 hm hw hv hr hz2 q.1 (Or.inr ⟨((z : Int) % a 1).toNat, by omega, by rw [Int.toNat_of_nonneg d1]⟩)
  · rw [g, if_neg (show ¬ iI ((7 : Nat) : Int) = 0 by decide), if_neg (show ¬ iI ((7 : Nat) : Int) = 1 by decide), if_neg (show ¬ iI ((7 : Nat) : Int) = 2 by decide), if_neg (show ¬ iI ((7 : Nat) : Int) = 3 by decide), if_neg (show ¬ iI ((7 : Nat) : Int) = 4 by decide), if_neg (show ¬ iI ((7 : Nat) : Int) = 5 by decide), if_neg (show ¬ iI ((7 : Nat) : Int) = 6 by decide)]
    by_cases g9 : ¬ (iI (z : Int) &&& 1) = 0
    · have qs : isS 1 ((z / 4 % 9 : Nat) : Int) := Or.inr ⟨rfl, by omega, by omega⟩
      obtain ⟨st2, o2, m2, g1, g2, g3, e⟩ := t_set1 (st := st) hm hw hr qs
      have hwb := stg_WF hw qs
      have hvb := INV_stg hw hv qs
      have hrb := RS_stg1 hw ((z / 4 % 9 : Nat) : Int) hr
      have e4 : stg a 1 ((z / 4 % 9 : Nat) : Int) 4 = ((z / 4 % 9 : Nat) : Int) := up_eq (f := a) (k := 4)
      have e2 : stg a 1 ((z / 4 % 9 : Nat) : Int) 2 = a 2 := stg_o (by omega)
      rw [if_pos g9, sh_2 hz2, rm_9 (by omega), show f_TR_set c h k p w n dh dc dt dn on rk (iI (a 0)) (iI (a 3)) (iI (a 4)) x st old cnt 1 _ = _ from e, cal_some, gd_t (by rw [iI_neg0 (by omega)]; omega), t_about4 hwb hrb, cal_some, e4, gd_t rfl]
      exact ⟨_, _, rfl, rfl, hwb, hvb, by rw [e2]; omega, MM_of g1 g2, hrb⟩
    · have qs : isS 0 ((z / 4 % 4 : Nat) : Int) := Or.inl ⟨rfl, by omega, by omega⟩
      obtain ⟨st2, o2, m2, g1, g2, g3, e⟩ := t_set0 (st := st) hm hw hr qs
      have hwb := stg_WF hw qs
      have hvb := INV_stg hw hv qs
      have hrb := RS_stg0 hw ((z / 4 % 4 : Nat) : Int) hr
      have e3 : stg a 0 ((z / 4 % 4 : Nat) : Int) 3 = ((z / 4 % 4 : Nat) : Int) := up_eq (f := a) (k := 3)
      have e2 : stg a 0 ((z / 4 % 4 : Nat) : Int) 2 = a 2 := stg_o (by omega)
      rw [if_neg g9, sh_2 hz2, rm_4 (by omega), show f_TR_set c h k p w n dh dc dt dn on rk (iI (a 0)) (iI (a 3)) (iI (a 4)) x st old cnt 0 _ = _ from e, cal_some, gd_t (by rw [iI_neg0 (by omega)]; omega), t_about3 hwb hrb, cal_some, e3, gd_t rfl]
      exact ⟨_, _, rfl, rfl, hwb, hvb, by rw [e2]; omega, MM_of g1 g2, hrb⟩
end ACTS
