/-! devices: who accepts, the mask, pressing -/
abbrev accP (a : Nat → Int) (d : Nat) (h c r : Int) : Prop := 0 ≤ c ∧ di (a (259 + 4 * d)) h ≤ r ∧ ap (a (260 + 4 * d)) c ≤ a (261 + 4 * d)
theorem di_sm {x y : Int} (h1 : 0 ≤ x) (h2 : x < 9) (h3 : 0 ≤ y) (h4 : y < 9) : 0 ≤ di x y ∧ di x y ≤ 8 := by
  unfold di
  split <;> omega
theorem di_comm (x y : Int) : di x y = di y x := by
  unfold di
  split <;> split <;> omega
theorem Dev_accepts {dh dc dt : Nat → Int32} {n on : Int32} {a : Nat → Int} (hw : WF a) (hr : RDev dh dc dt n on a) {d : Nat} (hd : (d : Int) < a 1) {h c r : Int} (h1 : 0 ≤ h) (h2 : h < 9) (hc : c = -9 ∨ (0 ≤ c ∧ c < 4096)) (hr1 : 0 ≤ r) (hr2 : r ≤ 8) : f_Dev_accepts dh dc dt n (iI d) (iI h) (iI c) (iI r) = some (bI (accP a d h c r)) := by
  have b1 := hw.b1
  have hv := hw.dev hd
  obtain ⟨e1, e2, e3⟩ := hr.2.2 d hd
  unfold f_Dev_accepts
  rw [hr.1, Dev_has b1.1 b1.2 (by omega), cal_some, if_bI, if_pos (by omega)]
  rcases hc with rfl | ⟨c1, c2⟩
  · rw [if_pos (by rfl), bI_f (fun z => by have := z.1; omega)]
  · have hdi := di_sm hv.1.1 hv.1.2 h1 h2
    have hap := ap_le (a (260 + 4 * d)) c
    rw [if_neg (by rw [l_9, iI_neg, iI_eq (by omega) (by omega) (by omega) (by omega)]; omega), iI_cl (by omega) (by omega), gd_t (by rw [l_0, iI_lt (by omega) (by omega) (by omega) (by omega)]; omega), Int.toNat_natCast, e1, e2, e3, iabs_di (by omega), I_apart hv.2.1.1 hv.2.1.2 c1 c2, cal_some]
    simp only [iI_lt (show -2147483648 ≤ r by omega) (show r < 2147483648 by omega) (show -2147483648 ≤ di (a (259 + 4 * d)) h by omega) (show di (a (259 + 4 * d)) h < 2147483648 by omega), iI_lt (show -2147483648 ≤ a (261 + 4 * d) by omega) (show a (261 + 4 * d) < 2147483648 by omega) (show -2147483648 ≤ ap (a (260 + 4 * d)) c by omega) (show ap (a (260 + 4 * d)) c < 2147483648 by omega)]
    by_cases q1 : di (a (259 + 4 * d)) h ≤ r
    · rw [if_neg (by omega)]
      by_cases q2 : ap (a (260 + 4 * d)) c ≤ a (261 + 4 * d)
      · rw [if_neg (by omega), bI_t ⟨c1, q1, q2⟩]
      · rw [if_pos (by omega), bI_f (fun z => q2 z.2.2)]
    · rw [if_pos (by omega), bI_f (fun z => q1 z.2.1)]
/-- bit d for each d below n with the property -/
def mk (p : Nat → Prop) [DecidablePred p] : Nat → Nat
  | 0 => 0
  | n + 1 => if p n then mk p n + 2 ^ n else mk p n
theorem mk_lt (p : Nat → Prop) [DecidablePred p] : ∀ n, mk p n < 2 ^ n := by
  intro n
  induction n with
  | zero => simp [mk]
  | succ n ih => rw [mk, Nat.pow_succ]; split <;> omega
theorem mk_cong {p q : Nat → Prop} {i : DecidablePred p} {j : DecidablePred q} : ∀ {n : Nat}, (∀ k, k < n → (p k ↔ q k)) → mk p n = mk q n := by
  intro n
  induction n with
  | zero => intro _; rfl
  | succ n ih =>
    intro h
    rw [mk, mk, ih (fun k hk => h k (by omega))]
    by_cases c : p n
    · rw [if_pos c, if_pos ((h n (by omega)).mp c)]
    · rw [if_neg c, if_neg (fun z => c ((h n (by omega)).mpr z))]
theorem mk_none {p : Nat → Prop} [DecidablePred p] : ∀ {n : Nat}, (∀ k, k < n → ¬ p k) → mk p n = 0 := by
  intro n
  induction n with
  | zero => intro _; rfl
  | succ n ih =>
    intro h
    rw [mk, if_neg (h n (by omega)), ih (fun k hk => h k (by omega))]
theorem mk_bit (p : Nat → Prop) [DecidablePred p] {d : Nat} : ∀ {n : Nat}, d < n → mk p n / 2 ^ d % 2 = if p d then 1 else 0 := by
  intro n
  induction n with
  | zero => intro h; omega
  | succ n ih =>
    intro h
    have hl := mk_lt p n
    rcases Nat.lt_or_ge d n with q | q
    · have e : 2 ^ n = 2 ^ d * (2 * 2 ^ (n - d - 1)) := by rw [← Nat.pow_succ', ← Nat.pow_add]; congr 1; omega
      rw [mk]
      split
      · rw [e, Nat.add_mul_div_left _ _ (Nat.pow_pos (by omega)), Nat.add_mul_mod_self_left, ih q]
      · exact ih q
    · obtain rfl : d = n := by omega
      rw [mk]
      split
      · rw [Nat.add_div_right _ (Nat.pow_pos (by omega)), Nat.div_eq_of_lt hl]
      · rw [Nat.div_eq_of_lt hl]
