/-! the reference's loops that answer by themselves -/
theorem n9_def (z : Int) : n9 (-1) = (-9 : Int32) := rfl
theorem M_trace_loop {a : Nat → Int} (hw : WF a) {z i : Int} (hz : ok a z) (h0 : 0 ≤ i) (h1 : i < 2147483648) : rl2 (f_M_trace_45 (Q a) (iI i)) FUEL (iI z) 0 = some (n9 (an a z i.toNat), 0) := by
  have l40 := ln_40 hw hz
  refine seq2 (body := f_M_trace_45 (Q a) (iI i)) (fun k => iI (an a z k)) (fun k : Nat => iI k) (min i.toNat (ln a z)) (fun k => ?_) (fun m hm k => ?_) FUEL 0 (Nat.zero_le _) (fuel_lt (by omega))
  · have hs := sm_an hw hz (min i.toNat (ln a z))
    unfold f_M_trace_45 f_M_trace_71
    rw [M_orNone (by omega) (by omega), cal_some]
    rcases Nat.lt_or_ge (ln a z) i.toNat with q | q
    · rw [Nat.min_eq_right (by omega), if_neg (by rw [iI_le (by omega) (by omega) (by omega) (by omega)]; omega), ln_end hw hz, if_pos (by decide), ln_out hw hz (by omega)]
    · rw [Nat.min_eq_left q, if_pos (by rw [iI_le (by omega) (by omega) (by omega) (by omega)]; omega)]
  · have hk := ln_in hw hz (show m < ln a z by omega)
    have hs := sm_an hw hz m
    unfold f_M_trace_45
    rw [if_neg (by rw [iI_le (by omega) (by omega) (by omega) (by omega)]; omega), if_neg (by rw [iI_neg0 (by omega)]; omega), M_par hw (an_ok hw hz m) hk, cal_some, iI_s]
    rfl
theorem M_went_loop {a : Nat → Int} (hw : WF a) {z : Int} (hz : ok a z) : rl2 (f_M_wentWrong_35 (Q a)) FUEL (-9) (iI z) = some (n9 (fwr a z (ln a z)), 0) := by
  have l40 := ln_40 hw hz
  refine seq2 (body := f_M_wentWrong_35 (Q a)) (fun k => n9 (fwr a z k)) (fun k => iI (an a z k)) (ln a z) (fun k => ?_) (fun m hm k => ?_) FUEL 0 (Nat.zero_le _) (fuel_lt (by omega))
  · unfold f_M_wentWrong_35
    rw [ln_end hw hz, if_pos (by decide)]
  · have hk := ln_in hw hz hm
    have hs := sm_an hw hz m
    have hq := wr_sm hw (an_ok hw hz m)
    unfold f_M_wentWrong_35 f_M_wentWrong_56
    rw [if_neg (by rw [iI_neg0 (by omega)]; omega), M_wr hw (an_ok hw hz m) hk, cal_some, M_par hw (an_ok hw hz m) hk, cal_some, cal_some, fwr]
    by_cases q : 0 ≤ wr a (an a z m)
    · rw [if_neg (by rw [iI_neg0 (by omega)]; omega), if_pos q, n9_pos hk]
      rfl
    · rw [if_pos ((iI_neg0 (by omega)).mpr (by omega)), if_neg q]
      rfl
theorem inC_le {a : Nat → Int} (hw : WF a) {w i : Int} (hi : ok a i) (h : inC a w i) : w ≤ i := by
  obtain ⟨h0, k, hk⟩ := h
  have := an_le hw hi k (by omega)
  omega
theorem inC_self {a : Nat → Int} {i : Int} (h0 : 0 ≤ i) : inC a i i := ⟨h0, 0, rfl⟩
theorem inC_nx {a : Nat → Int} {w i : Int} (h : inC a w (nx a i)) : inC a w i := by
  obtain ⟨h0, k, hk⟩ := h
  exact ⟨h0, k + 1, by rw [← an_nx]; exact hk⟩
theorem inC_ne {a : Nat → Int} {w i : Int} (h : inC a w i) (hn : w ≠ i) : inC a w (nx a i) := by
  obtain ⟨h0, k, hk⟩ := h
  cases k with
  | zero => exact absurd hk.symm hn
  | succ k => exact ⟨h0, k, by rw [an_nx]; exact hk⟩
theorem meets_l {a : Nat → Int} (hw : WF a) {x y r : Int} (hx : ok a x) (hy : ok a y) (h : y < x) (hm : meets a (nx a x) y r) : meets a x y r := by
  have key : ∀ w, inC a w x → inC a w y → inC a w (nx a x) := fun w h1 h2 => inC_ne h1 (by have := inC_le hw hy h2; omega)
  rcases hm with ⟨h1, h2⟩ | ⟨h1, h2, h3⟩
  · exact Or.inl ⟨h1, fun w hc => h2 w ⟨key w hc.1 hc.2, hc.2⟩⟩
  · exact Or.inr ⟨inC_nx h1, h2, fun w g1 g2 => h3 w (key w g1 g2) g2⟩
theorem meets_c {a : Nat → Int} {x y r : Int} (hm : meets a x y r) : meets a y x r := by
  rcases hm with ⟨h1, h2⟩ | ⟨h1, h2, h3⟩
  · exact Or.inl ⟨h1, fun w hc => h2 w ⟨hc.2, hc.1⟩⟩
  · exact Or.inr ⟨h2, h1, fun w g1 g2 => h3 w g2 g1⟩
theorem M_common_loop {a : Nat → Int} (hw : WF a) : ∀ (m : Nat) (x y : Int), ok a x → ok a y → x + y + 2 ≤ m → ∀ f, m < f → ∃ r, meets a x y r ∧ rl2 (f_M_common_55 (Q a)) f (iI x) (iI y) = some (n9 r, 0) := by
  have b2 := hw.b2
  intro m
  induction m with
  | zero =>
    intro x y hx hy hm f hf
    obtain ⟨f, rfl⟩ : ∃ g, f = g + 1 := ⟨f - 1, by omega⟩
    have hx' := hx
    have hy' := hy
    unfold ok at hx' hy'
    refine ⟨-1, Or.inl ⟨rfl, fun w hc => inC_neg hw hx (by omega) hc.1⟩, ?_⟩
    rw [rl2]
    unfold f_M_common_55 f_M_common_103
    rw [if_pos ((iI_neg0 (by omega)).mpr (by omega)), if_pos ((iI_neg0 (by omega)).mpr (by omega))]
    rfl
  | succ m ih =>
    intro x y hx hy hm f hf
    obtain ⟨f, rfl⟩ : ∃ g, f = g + 1 := ⟨f - 1, by omega⟩
    have hx' := hx
    have hy' := hy
    unfold ok at hx' hy'
    by_cases q1 : x < 0
    · refine ⟨-1, Or.inl ⟨rfl, fun w hc => inC_neg hw hx q1 hc.1⟩, ?_⟩
      rw [rl2]
      unfold f_M_common_55 f_M_common_103
      rw [if_pos ((iI_neg0 (by omega)).mpr (by omega)), if_pos ((iI_neg0 (by omega)).mpr (by omega))]
      rfl
    · by_cases q2 : y < 0
      · refine ⟨-1, Or.inl ⟨rfl, fun w hc => inC_neg hw hy q2 hc.2⟩, ?_⟩
        rw [rl2]
        unfold f_M_common_55 f_M_common_103
        rw [if_neg (by rw [iI_neg0 (by omega)]; exact q1), if_pos ((iI_neg0 (by omega)).mpr q2), if_neg (by rw [iI_neg0 (by omega)]; exact q1), if_pos (by rw [iI_eq (by omega) (by omega) (by omega) (by omega)]; omega)]
        rfl
      · by_cases q3 : x = y
        · subst q3
          refine ⟨x, Or.inr ⟨inC_self (by omega), inC_self (by omega), fun w g _ => inC_le hw hx g⟩, ?_⟩
          rw [rl2]
          unfold f_M_common_55 f_M_common_103
          rw [if_neg (by rw [iI_neg0 (by omega)]; exact q1), if_neg (by rw [iI_neg0 (by omega)]; exact q1), if_pos rfl, if_neg (by rw [iI_neg0 (by omega)]; exact q1), if_neg (fun z => z rfl), n9_pos (by omega)]
        · by_cases q4 : x ≤ y
          · have hn := nx_ok hw hy
            have hlt := hn.2 (by omega)
            obtain ⟨r, h1, h2⟩ := ih x (nx a y) hx hn.1 (by omega) f (by omega)
            refine ⟨r, meets_c (meets_l hw hy hx (by omega) (meets_c h1)), ?_⟩
            rw [rl2]
            unfold f_M_common_55
            rw [if_neg (by rw [iI_neg0 (by omega)]; exact q1), if_neg (by rw [iI_neg0 (by omega)]; exact q2), if_neg (by rw [iI_eq (by omega) (by omega) (by omega) (by omega)]; exact q3), if_pos (by rw [iI_le (by omega) (by omega) (by omega) (by omega)]; exact q4), M_par hw hy (by omega), cal_some]
            exact h2
          · have hn := nx_ok hw hx
            have hlt := hn.2 (by omega)
            obtain ⟨r, h1, h2⟩ := ih (nx a x) y hn.1 hy (by omega) f (by omega)
            refine ⟨r, meets_l hw hx hy (by omega) h1, ?_⟩
            rw [rl2]
            unfold f_M_common_55
            rw [if_neg (by rw [iI_neg0 (by omega)]; exact q1), if_neg (by rw [iI_neg0 (by omega)]; exact q2), if_neg (by rw [iI_eq (by omega) (by omega) (by omega) (by omega)]; exact q3), if_neg (by rw [iI_le (by omega) (by omega) (by omega) (by omega)]; exact q4), M_par hw hx (by omega), cal_some]
            exact h2
/-! about -/
theorem cn_compl (p : Nat → Prop) [DecidablePred p] (q : Nat → Prop) [DecidablePred q] : ∀ n, (∀ k, k < n → (p k ↔ ¬ q k)) → cn p n = n - cn q n := by
  intro n
  induction n with
  | zero => intro _; rfl
  | succ n ih =>
    intro h
    have e := ih (fun k hk => h k (by omega))
    have g := h n (by omega)
    rw [cn, cn, e]
    by_cases c : q n
    · rw [if_neg (fun z => (g.mp z) c), if_pos c]
      omega
    · rw [if_pos (g.mpr c), if_neg c]
      omega
def onk (a : Nat → Int) : Nat → Int
  | 0 => 0
  | d + 1 => onk a d + a (262 + 4 * d) * 2 ^ d
theorem onk_lt {a : Nat → Int} (hw : WF a) : ∀ d, d ≤ 6 → 0 ≤ onk a d ∧ onk a d < 2 ^ d := by
  intro d
  induction d with
  | zero => intro _; rw [onk]; decide
  | succ d ih =>
    intro h
    have i := ih (by omega)
    have o := (hw.on (d := d) (by omega)).1
    rw [onk]
    have e : (2 : Int) ^ (d + 1) = 2 ^ d * 2 := Int.pow_succ 2 d
    generalize (2 : Int) ^ d = P at *
    rcases (show a (262 + 4 * d) = 0 ∨ a (262 + 4 * d) = 1 by omega) with q | q
    · rw [q]; omega
    · rw [q]; omega
theorem onk_onm {a : Nat → Int} (hw : WF a) : onk a (a 1).toNat = onm a := by
  have b1 := hw.b1
  have o0 := (hw.on (d := 0) (by omega)).2
  have o1 := (hw.on (d := 1) (by omega)).2
  have o2 := (hw.on (d := 2) (by omega)).2
  have o3 := (hw.on (d := 3) (by omega)).2
  have o4 := (hw.on (d := 4) (by omega)).2
  have o5 := (hw.on (d := 5) (by omega)).2
  simp only [Nat.reduceMul, Nat.reduceAdd] at o0 o1 o2 o3 o4 o5
  unfold onm
  rcases (show a 1 = 0 ∨ a 1 = 1 ∨ a 1 = 2 ∨ a 1 = 3 ∨ a 1 = 4 ∨ a 1 = 5 ∨ a 1 = 6 by omega) with q | q | q | q | q | q | q <;> rw [q] <;> simp only [Int.reduceToNat, onk, Nat.reduceMul, Nat.reduceAdd] <;> omega
theorem or_z : ∀ d, d < 6 → (0 : Int32) <<< (nI d &&& 31) = 0 := by decide +kernel
theorem or_step {m b : Int} {d : Nat} (hd : d < 6) (hm : 0 ≤ m ∧ m < 2 ^ d) (hb : 0 ≤ b ∧ b ≤ 1) : iI m ||| (iI b <<< (iI (d : Int) &&& 31)) = iI (m + b * 2 ^ d) := by
  obtain ⟨n, rfl⟩ := Int.eq_ofNat_of_zero_le hm.1
  have h64 : (2 : Nat) ^ d ≤ 2 ^ 6 := Nat.pow_le_pow_right (by omega) (by omega)
  have hn : n < 2 ^ d := by
    have e : ((2 ^ d : Nat) : Int) = 2 ^ d := by rw [Int.natCast_pow]; rfl
    omega
  rcases (show b = 0 ∨ b = 1 by omega) with rfl | rfl
  · rw [show iI (d : Int) = nI d from rfl, show iI 0 = (0 : Int32) from rfl, or_z d hd, iI_nat, or_0 n (by omega), Int.zero_mul, Int.add_zero, iI_nat]
  · have e : ((n : Int) + 1 * 2 ^ d) = ((n + 2 ^ d : Nat) : Int) := by
      rw [Int.one_mul, Int.natCast_add, Int.natCast_pow]
      rfl
    rw [e, iI_nat, iI_nat, iI_nat, show iI 1 = (1 : Int32) from rfl, or_b d hd n hn]
theorem M_about_loop2 {a : Nat → Int} (hw : WF a) (p0 t w g : Int32) {R : Option (Int32 × Int32)} (hR : f_M_about_99 (Q a) p0 t w g (iI (onm a)) (iI (a 1)) (fun _ _ _ _ _ => none) = R) : rl5 (f_M_about_99 (Q a) p0) FUEL t w g 0 0 = R := by
  have b1 := hw.b1
  refine seq5 (body := f_M_about_99 (Q a) p0) (fun _ => t) (fun _ => w) (fun _ => g) (fun d => iI (onk a d)) (fun d : Nat => iI d) (a 1).toNat (fun k => ?_) (fun d hd k => ?_) FUEL 0 (Nat.zero_le _) (fuel_lt (by omega))
  · rw [onk_onm hw, show ((a 1).toNat : Int) = a 1 by omega]
    unfold f_M_about_99 at hR ⊢
    have e : Q a 1 ≤ iI (a 1) := by
      rw [Q_at, iI_le (by omega) (by omega) (by omega) (by omega)]
      omega
    rw [if_pos e] at hR ⊢
    exact hR
  · have ho := (hw.on (d := d) (by omega)).1
    have hk := onk_lt hw d (by omega)
    unfold f_M_about_99
    rw [if_neg (by rw [Q_at]; exact iI_nle (by omega) (by omega) (by omega)), M_ofD3 a (by omega), cal_some, bnd_s, or_step (by omega) hk ho, iI_s]
    rfl
theorem M_about_loop {a : Nat → Int} (hw : WF a) (p0 : Int32) {R : Option (Int32 × Int32)} (hR : f_M_about_99 (Q a) p0 (iI (cn (fun i => 0 ≤ a (62 + 5 * i)) (a 2).toNat)) (iI (cn (fun i => 0 ≤ a (63 + 5 * i)) (a 2).toNat)) (iI (gg a (a 2).toNat)) (iI (onm a)) (iI (a 1)) (fun _ _ _ _ _ => none) = R) : rl4 (f_M_about_16 (Q a) p0) FUEL 0 0 (-9) 0 = R := by
  have b2 := hw.b2
  refine seq4 (body := f_M_about_16 (Q a) p0) (fun k => iI (cn (fun i => 0 ≤ a (62 + 5 * i)) k)) (fun k => iI (cn (fun i => 0 ≤ a (63 + 5 * i)) k)) (fun k => iI (gg a k)) (fun k : Nat => iI k) (a 2).toNat (fun k => ?_) (fun m hm k => ?_) FUEL 0 (Nat.zero_le _) (fuel_lt (by omega))
  · unfold f_M_about_16
    rw [if_pos (by rw [Q_at, iI_le (by omega) (by omega) (by omega) (by omega)]; omega)]
    exact M_about_loop2 hw p0 _ _ _ hR
  · have hm2 : (m : Int) < a 2 := by omega
    have hrc := hw.rcd hm2
    have hg := gg_le hw m (by omega)
    have hl := ln_40 hw (i := (m : Int)) ⟨by omega, hm2⟩
    have hp := ln_pos hw (i := (m : Int)) ⟨by omega, hm2⟩ (by omega)
    have go3 : ∀ T W : Int32, f_M_about_61 (Q a) k T (iI (gg a m)) (iI m) W 0 = k T W (iI (gg a (m + 1))) (iI ((m + 1 : Nat) : Int)) ∧ f_M_about_61 (Q a) k T (iI (gg a m)) (iI m) W 1 = k T (W + 1) (iI (gg a (m + 1))) (iI ((m + 1 : Nat) : Int)) := by
      intro T W
      unfold f_M_about_61 f_M_about_85
      rw [bnd_s, bnd_s, M_generation hw ⟨by omega, hm2⟩ (by omega), cal_some, cal_some, cal_some, cal_some, iI_s, gg, show W + 0 = W from Int32.add_zero W]
      by_cases q : gg a m < (ln a m : Int) - 1
      · rw [if_neg (by rw [iI_le (by omega) (by omega) (by omega) (by omega)]; omega), if_pos q, if_neg (by rw [iI_le (by omega) (by omega) (by omega) (by omega)]; omega)]
        exact ⟨rfl, rfl⟩
      · rw [if_pos (by rw [iI_le (by omega) (by omega) (by omega) (by omega)]; omega), if_neg q, if_pos (by rw [iI_le (by omega) (by omega) (by omega) (by omega)]; omega)]
        exact ⟨rfl, rfl⟩
    have go2 : ∀ T : Int, f_M_about_43 (Q a) k (iI (cn (fun i => 0 ≤ a (63 + 5 * i)) m)) (iI (gg a m)) (iI m) (iI T) 0 = k (iI T) (iI (cn (fun i => 0 ≤ a (63 + 5 * i)) (m + 1))) (iI (gg a (m + 1))) (iI ((m + 1 : Nat) : Int)) ∧ f_M_about_43 (Q a) k (iI (cn (fun i => 0 ≤ a (63 + 5 * i)) m)) (iI (gg a m)) (iI m) (iI T) 1 = k (iI (T + 1)) (iI (cn (fun i => 0 ≤ a (63 + 5 * i)) (m + 1))) (iI (gg a (m + 1))) (iI ((m + 1 : Nat) : Int)) := by
      intro T
      unfold f_M_about_43
      rw [bnd_s, bnd_s, M_of4 a (by omega), cal_some, cal_some, iI_p0, iI_p1, (go3 _ _).1, (go3 _ _).2, (go3 _ _).1, (go3 _ _).2, iI_p1, cn]
      by_cases q : 0 ≤ a (63 + 5 * m)
      · rw [if_neg (by rw [iI_neg0 (by omega)]; omega), if_pos q, if_neg (by rw [iI_neg0 (by omega)]; omega)]
        exact ⟨rfl, rfl⟩
      · rw [if_pos ((iI_neg0 (by omega)).mpr (by omega)), if_neg q, if_pos ((iI_neg0 (by omega)).mpr (by omega))]
        exact ⟨rfl, rfl⟩
    unfold f_M_about_16
    rw [if_neg (by rw [Q_at]; exact iI_nle (by omega) (by omega) (by omega)), M_of3 a (by omega), cal_some, (go2 _).1, (go2 _).2]
    by_cases q : 0 ≤ a (62 + 5 * m)
    · rw [if_neg (by rw [iI_neg0 (by omega)]; omega)]
      rw [show cn (fun i => 0 ≤ a (62 + 5 * i)) (m + 1) = cn (fun i => 0 ≤ a (62 + 5 * i)) m + 1 from if_pos q]
    · rw [if_pos ((iI_neg0 (by omega)).mpr (by omega))]
      rw [show cn (fun i => 0 ≤ a (62 + 5 * i)) (m + 1) = cn (fun i => 0 ≤ a (62 + 5 * i)) m from if_neg q]
