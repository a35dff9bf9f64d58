/-! what holds of every street that the law makes -/
def INV (a : Nat → Int) : Prop := a 0 = 4 ∧
  (∀ i : Nat, (i : Int) < a 2 → a (60 + 5 * i) < 4 ∧ (a (62 + 5 * i) < 0 → a (63 + 5 * i) < 0) ∧ (0 ≤ a (62 + 5 * i) → a (59 + 5 * i) = chg (a (59 + 5 * (a (62 + 5 * i)).toNat)) (a (63 + 5 * i)))) ∧
  (∀ m : Nat, m < 54 → 0 ≤ a (5 + m) → a (60 + 5 * (a (5 + m)).toNat) = ((m / 6 : Nat) : Int) ∧ a (61 + 5 * (a (5 + m)).toNat) = ((m % 6 : Nat) : Int))
theorem INV.h {a : Nat → Int} (h : INV a) : a 0 = 4 := h.1
theorem INV.rc {a : Nat → Int} (h : INV a) {i : Nat} (hi : (i : Int) < a 2) : a (60 + 5 * i) < 4 ∧ (a (62 + 5 * i) < 0 → a (63 + 5 * i) < 0) ∧ (0 ≤ a (62 + 5 * i) → a (59 + 5 * i) = chg (a (59 + 5 * (a (62 + 5 * i)).toNat)) (a (63 + 5 * i))) := h.2.1 i hi
theorem INV.ky {a : Nat → Int} (h : INV a) {m : Nat} (hm : m < 54) (h0 : 0 ≤ a (5 + m)) : a (60 + 5 * (a (5 + m)).toNat) = ((m / 6 : Nat) : Int) ∧ a (61 + 5 * (a (5 + m)).toNat) = ((m % 6 : Nat) : Int) := h.2.2 m hm h0
/-- a change that leaves houses, keys and records as they are -/
theorem INV_c {a b : Nat → Int} (hw : WF a) (hv : INV a) (e : ∀ j, j = 0 ∨ j = 2 ∨ (5 ≤ j ∧ j < 259) → b j = a j) : INV b := by
  have b2 := hw.b2
  refine ⟨by rw [e 0 (by omega)]; exact hv.h, fun i hi => ?_, fun m hm h0 => ?_⟩
  · rw [e 2 (by omega)] at hi
    have r := hw.rcd hi
    have g := hv.rc hi
    rw [e (60 + 5 * i) (by omega), e (62 + 5 * i) (by omega), e (63 + 5 * i) (by omega), e (59 + 5 * i) (by omega)]
    refine ⟨g.1, g.2.1, fun h0 => ?_⟩
    rw [e (59 + 5 * (a (62 + 5 * i)).toNat) (by omega)]
    exact g.2.2 h0
  · rw [e (5 + m) (by omega)] at h0
    have r := hw.key hm
    have g := hv.ky hm h0
    rw [e (5 + m) (by omega), e (60 + 5 * (a (5 + m)).toNat) (by omega), e (61 + 5 * (a (5 + m)).toNat) (by omega)]
    exact g
theorem INV_tol {a : Nat → Int} (hw : WF a) (hv : INV a) (d : Nat) (t : Int) : INV (tol a d t) := INV_c hw hv (fun j hj => tol_o (by omega))
theorem INV_stg {a : Nat → Int} (hw : WF a) (hv : INV a) {s v : Int} (hs : isS s v) : INV (stg a s v) := INV_c hw hv (fun j hj => stg_o (by omega))
theorem INV_ads {a : Nat → Int} (hw : WF a) (hv : INV a) (h c t : Int) : INV (ads a h c t) := INV_c hw hv (fun j hj => ads_o h c t (by omega) (by omega))
theorem INV_pr {a : Nat → Int} (hw : WF a) (hv : INV a) (m : Nat) : INV (pr a m (a 1).toNat) := INV_c hw hv (fun j hj => pr_out a m _ (fun d _ => by omega))
theorem INV_mks {a : Nat → Int} (hw : WF a) (hv : INV a) (h40 : a 2 < 40) {c h k p w : Int} (hy : isK a h k) (hp : -1 ≤ p ∧ p < a 2) (h1 : p < 0 → w < 0) (h2 : 0 ≤ p → c = chg (cd a p) w) : INV (mks a c h k p w) := by
  have b2 := hw.b2
  have h4 := hv.h
  have hk := ki_lt hw hy
  have e2 := mks_n hw hy c p w
  have r := mks_r hw hy c p w
  have o : ∀ {j : Nat}, j ≠ 2 → j ≠ 5 + ki h k → (j < 59 + 5 * (a 2).toNat ∨ 63 + 5 * (a 2).toNat < j) → mks a c h k p w j = a j := fun g1 g2 g3 => mks_o c h k p w g1 g2 g3
  refine ⟨by rw [o (by omega) (by omega) (by omega)]; exact h4, fun i hi => ?_, fun m hm h0 => ?_⟩
  · rw [e2] at hi
    by_cases q : i = (a 2).toNat
    · rw [q, r.1, r.2.1, r.2.2.2.1, r.2.2.2.2]
      refine ⟨by omega, h1, fun h0 => ?_⟩
      rw [o (by omega) (by omega) (by omega), h2 h0]
      unfold cd
      rw [if_neg (by omega)]
    · have hi2 : (i : Int) < a 2 := by omega
      have rr := hw.rcd hi2
      have g := hv.rc hi2
      rw [o (j := 60 + 5 * i) (by omega) (by omega) (by omega), o (j := 62 + 5 * i) (by omega) (by omega) (by omega), o (j := 63 + 5 * i) (by omega) (by omega) (by omega), o (j := 59 + 5 * i) (by omega) (by omega) (by omega)]
      refine ⟨g.1, g.2.1, fun h0 => ?_⟩
      rw [o (by omega) (by omega) (by omega)]
      exact g.2.2 h0
  · by_cases q : m = ki h k
    · rw [q, mks_k, r.2.1, r.2.2.1]
      omega
    · have rr := hw.key hm
      rw [o (j := 5 + m) (by omega) (by omega) (by omega)] at h0 ⊢
      have g := hv.ky hm h0
      rw [o (j := 60 + 5 * (a (5 + m)).toNat) (by omega) (by omega) (by omega), o (j := 61 + 5 * (a (5 + m)).toNat) (by omega) (by omega) (by omega)]
      exact g
theorem INV_ers {a : Nat → Int} (hw : WF a) (hv : INV a) {h k : Int} (hy : isK a h k) : INV (ers a h k) := by
  have b2 := hw.b2
  have hk := ki_lt hw hy
  refine ⟨by rw [ers_o (by omega)]; exact hv.h, fun i hi => ?_, fun m hm h0 => ?_⟩
  · rw [ers_o (by omega)] at hi
    have rr := hw.rcd hi
    have g := hv.rc hi
    rw [ers_o (j := 60 + 5 * i) (by omega), ers_o (j := 62 + 5 * i) (by omega), ers_o (j := 63 + 5 * i) (by omega), ers_o (j := 59 + 5 * i) (by omega)]
    refine ⟨g.1, g.2.1, fun h0 => ?_⟩
    rw [ers_o (by omega)]
    exact g.2.2 h0
  · by_cases q : m = ki h k
    · rw [q] at h0
      have e : ers a h k (5 + ki h k) = -1 := up_eq
      omega
    · have rr := hw.key hm
      rw [ers_o (j := 5 + m) (by omega)] at h0 ⊢
      have g := hv.ky hm h0
      rw [ers_o (j := 60 + 5 * (a (5 + m)).toNat) (by omega), ers_o (j := 61 + 5 * (a (5 + m)).toNat) (by omega)]
      exact g
/-! counts -/
theorem cn_add {p q r : Nat → Prop} [DecidablePred p] [DecidablePred q] [DecidablePred r] : ∀ {n : Nat}, (∀ k, k < n → (p k ↔ q k ∨ r k)) → (∀ k, k < n → ¬ (q k ∧ r k)) → cn p n = cn q n + cn r n := by
  intro n
  induction n with
  | zero => intro _ _; rfl
  | succ n ih =>
    intro h g
    have e := ih (fun k hk => h k (by omega)) (fun k hk => g k (by omega))
    have h1 := h n (by omega)
    have g1 := g n (by omega)
    rw [cn, cn, cn]
    by_cases c : q n
    · have c2 : ¬ r n := fun z => g1 ⟨c, z⟩
      rw [if_pos c, if_neg c2, if_pos (h1.mpr (Or.inl c))]
      omega
    · rw [if_neg c]
      by_cases c2 : r n
      · rw [if_pos c2, if_pos (h1.mpr (Or.inr c2))]
        omega
      · rw [if_neg c2, if_neg (fun z => (h1.mp z).elim c c2)]
        omega
theorem cn_sub {p q r : Nat → Prop} [DecidablePred p] [DecidablePred q] [DecidablePred r] : ∀ {n : Nat}, (∀ k, k < n → p k → q k ∨ r k) → cn p n ≤ cn q n + cn r n := by
  intro n
  induction n with
  | zero => intro _; simp [cn]
  | succ n ih =>
    intro h
    have e := ih (fun k hk => h k (by omega))
    have h1 := h n (by omega)
    rw [cn, cn, cn]
    by_cases c : p n
    · rw [if_pos c]
      rcases h1 c with c1 | c1
      · rw [if_pos c1]
        split <;> omega
      · rw [if_pos c1]
        split <;> omega
    · rw [if_neg c]
      split <;> split <;> omega
theorem cn_none {p : Nat → Prop} [DecidablePred p] : ∀ {n : Nat}, (∀ k, k < n → ¬ p k) → cn p n = 0 := by
  intro n
  induction n with
  | zero => intro _; rfl
  | succ n ih =>
    intro h
    rw [cn, if_neg (h n (by omega)), ih (fun k hk => h k (by omega))]
theorem cn_mono {p q : Nat → Prop} [DecidablePred p] [DecidablePred q] {n : Nat} (h : ∀ k, k < n → p k → q k) : cn p n ≤ cn q n := by
  have := cn_sub (p := p) (q := q) (r := fun _ => False) (n := n) (fun k hk hp => Or.inl (h k hk hp))
  rw [cn_none (p := fun _ => False) (fun k _ z => z)] at this
  omega
theorem cn_all {p : Nat → Prop} [DecidablePred p] : ∀ {n : Nat}, (∀ k, k < n → p k) → cn p n = n := by
  intro n
  induction n with
  | zero => intro _; rfl
  | succ n ih =>
    intro h
    rw [cn, if_pos (h n (by omega)), ih (fun k hk => h k (by omega))]
    omega
theorem cn_one (r : Nat) : ∀ n, cn (fun k => k = r) n ≤ (if r < n then 1 else 0) := by
  intro n
  induction n with
  | zero => simp [cn]
  | succ n ih =>
    rw [cn]
    by_cases c : n = r
    · rw [if_pos c, if_pos (by omega)]
      rw [if_neg (by omega)] at ih
      omega
    · rw [if_neg c]
      split at ih
      · rw [if_pos (by omega)]
        exact ih
      · split <;> omega
/-- the children of the records below i, together -/
def chs (a : Nat → Int) : Nat → Int
  | 0 => 0
  | i + 1 => chs a i + cn (fun j => a (62 + 5 * j) = i) (a 2).toNat
theorem chs_is (a : Nat → Int) : ∀ i : Nat, chs a i = cn (fun j => 0 ≤ a (62 + 5 * j) ∧ a (62 + 5 * j) < i) (a 2).toNat := by
  intro i
  induction i with
  | zero =>
    rw [chs, cn_none (fun k _ z => by omega)]
  | succ i ih =>
    rw [chs, ih]
    exact (cn_add (fun k _ => by omega) (fun k _ => by omega)).symm
theorem chs_b (a : Nat → Int) (i : Nat) : 0 ≤ chs a i ∧ chs a i ≤ (a 2).toNat := by
  rw [chs_is]
  exact cn_le _ _
