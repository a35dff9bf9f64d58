/-! a street as a row of 283 whole numbers (the reference's own layout), what holds of it, and what the program's rows hold of it -/
def WF (a : Nat → Int) : Prop :=
  (2 ≤ a 0 ∧ a 0 ≤ 9) ∧ (0 ≤ a 1 ∧ a 1 ≤ 6) ∧ (0 ≤ a 2 ∧ a 2 ≤ 40) ∧ (0 ≤ a 3 ∧ a 3 ≤ 3) ∧ (0 ≤ a 4 ∧ a 4 ≤ 8) ∧
  (∀ k : Nat, k < 54 → -1 ≤ a (5 + k) ∧ a (5 + k) < a 2 ∧ (6 * a 0 ≤ k → a (5 + k) = -1)) ∧
  (∀ i : Nat, (i : Int) < a 2 → (0 ≤ a (59 + 5 * i) ∧ a (59 + 5 * i) < 4096) ∧ (0 ≤ a (60 + 5 * i) ∧ a (60 + 5 * i) < 9) ∧ (0 ≤ a (61 + 5 * i) ∧ a (61 + 5 * i) < 6) ∧ (-1 ≤ a (62 + 5 * i) ∧ a (62 + 5 * i) < i) ∧ (-1 ≤ a (63 + 5 * i) ∧ a (63 + 5 * i) < 12)) ∧
  (∀ d : Nat, (d : Int) < a 1 → (0 ≤ a (259 + 4 * d) ∧ a (259 + 4 * d) < 9) ∧ (0 ≤ a (260 + 4 * d) ∧ a (260 + 4 * d) < 4096) ∧ (0 ≤ a (261 + 4 * d) ∧ a (261 + 4 * d) ≤ 3)) ∧
  (∀ d : Nat, d < 6 → (0 ≤ a (262 + 4 * d) ∧ a (262 + 4 * d) ≤ 1) ∧ (a 1 ≤ d → a (262 + 4 * d) = 0))
theorem WF.key {a : Nat → Int} (h : WF a) {k : Nat} (hk : k < 54) : -1 ≤ a (5 + k) ∧ a (5 + k) < a 2 ∧ (6 * a 0 ≤ k → a (5 + k) = -1) := h.2.2.2.2.2.1 k hk
theorem WF.rcd {a : Nat → Int} (h : WF a) {i : Nat} (hi : (i : Int) < a 2) : (0 ≤ a (59 + 5 * i) ∧ a (59 + 5 * i) < 4096) ∧ (0 ≤ a (60 + 5 * i) ∧ a (60 + 5 * i) < 9) ∧ (0 ≤ a (61 + 5 * i) ∧ a (61 + 5 * i) < 6) ∧ (-1 ≤ a (62 + 5 * i) ∧ a (62 + 5 * i) < i) ∧ (-1 ≤ a (63 + 5 * i) ∧ a (63 + 5 * i) < 12) := h.2.2.2.2.2.2.1 i hi
theorem WF.dev {a : Nat → Int} (h : WF a) {d : Nat} (hd : (d : Int) < a 1) : (0 ≤ a (259 + 4 * d) ∧ a (259 + 4 * d) < 9) ∧ (0 ≤ a (260 + 4 * d) ∧ a (260 + 4 * d) < 4096) ∧ (0 ≤ a (261 + 4 * d) ∧ a (261 + 4 * d) ≤ 3) := h.2.2.2.2.2.2.2.1 d hd
theorem WF.on {a : Nat → Int} (h : WF a) {d : Nat} (hd : d < 6) : (0 ≤ a (262 + 4 * d) ∧ a (262 + 4 * d) ≤ 1) ∧ (a 1 ≤ d → a (262 + 4 * d) = 0) := h.2.2.2.2.2.2.2.2 d hd
theorem WF.b0 {a : Nat → Int} (h : WF a) : 2 ≤ a 0 ∧ a 0 ≤ 9 := h.1
theorem WF.b1 {a : Nat → Int} (h : WF a) : 0 ≤ a 1 ∧ a 1 ≤ 6 := h.2.1
theorem WF.b2 {a : Nat → Int} (h : WF a) : 0 ≤ a 2 ∧ a 2 ≤ 40 := h.2.2.1
theorem WF.b3 {a : Nat → Int} (h : WF a) : 0 ≤ a 3 ∧ a 3 ≤ 3 := h.2.2.2.1
theorem WF.b4 {a : Nat → Int} (h : WF a) : 0 ≤ a 4 ∧ a 4 ≤ 8 := h.2.2.2.2.1
/-- the program writes -9 where the reference writes -1 -/
def n9 (z : Int) : Int32 := if z < 0 then iI (-9) else iI z
theorem n9_neg {z : Int} (h : z < 0) : n9 z = iI (-9) := if_pos h
theorem n9_pos {z : Int} (h : 0 ≤ z) : n9 z = iI z := if_neg (by omega)
theorem n9_eq {z : Int} (h : z < 2147483648) : (n9 z = iI (-9)) ↔ z < 0 := by
  by_cases c : z < 0
  · rw [n9_neg c]; exact ⟨fun _ => c, fun _ => rfl⟩
  · rw [n9_pos (by omega), iI_eq (by omega) h (by omega) (by omega)]; omega
def onm (a : Nat → Int) : Int := a 262 + 2 * a 266 + 4 * a 270 + 8 * a 274 + 16 * a 278 + 32 * a 282
def RRec (c h k p w : Nat → Int32) (n : Int32) (a : Nat → Int) : Prop := n = iI (a 2) ∧ ∀ i : Nat, (i : Int) < a 2 → c i = iI (a (59 + 5 * i)) ∧ h i = iI (a (60 + 5 * i)) ∧ k i = iI (a (61 + 5 * i)) ∧ p i = n9 (a (62 + 5 * i)) ∧ w i = n9 (a (63 + 5 * i))
def RDev (h c t : Nat → Int32) (n on : Int32) (a : Nat → Int) : Prop := n = iI (a 1) ∧ on = iI (onm a) ∧ ∀ d : Nat, (d : Int) < a 1 → h d = iI (a (259 + 4 * d)) ∧ c d = iI (a (260 + 4 * d)) ∧ t d = iI (a (261 + 4 * d))
def RKey (rk : Nat → Int32) (a : Nat → Int) : Prop := ∀ k : Nat, k < 54 → rk k = n9 (a (5 + k))
/-! chains -/
def nx (a : Nat → Int) (i : Int) : Int := if i < 0 then -1 else a (62 + 5 * i.toNat)
def ok (a : Nat → Int) (i : Int) : Prop := -1 ≤ i ∧ i < a 2
theorem nx_nat (a : Nat → Int) (i : Nat) : nx a (i : Int) = a (62 + 5 * i) := by
  unfold nx
  rw [if_neg (by omega)]
  rfl
theorem nx_ok {a : Nat → Int} (hw : WF a) {i : Int} (h : ok a i) : ok a (nx a i) ∧ (0 ≤ i → nx a i < i) := by
  unfold ok at *
  have := hw.b2
  by_cases c : i < 0
  · unfold nx; rw [if_pos c]; omega
  · obtain ⟨n, rfl⟩ := Int.eq_ofNat_of_zero_le (show 0 ≤ i by omega)
    rw [nx_nat]
    have := hw.rcd h.2
    omega
/-- the k-th of the chain -/
def an (a : Nat → Int) (i : Int) : Nat → Int
  | 0 => i
  | k + 1 => nx a (an a i k)
theorem an_0 (a : Nat → Int) (i : Int) : an a i 0 = i := rfl
theorem an_s (a : Nat → Int) (i : Int) (k : Nat) : an a i (k + 1) = nx a (an a i k) := rfl
theorem an_nx (a : Nat → Int) (i : Int) : ∀ k, an a (nx a i) k = an a i (k + 1) := by
  intro k
  induction k with
  | zero => rfl
  | succ k ih => rw [an_s, ih]; rfl
theorem an_add (a : Nat → Int) (i : Int) (k : Nat) : ∀ m, an a (an a i k) m = an a i (k + m) := by
  intro m
  induction m with
  | zero => rfl
  | succ m ih => rw [an_s, ih]; rfl
theorem an_ok {a : Nat → Int} (hw : WF a) {i : Int} (h : ok a i) : ∀ k, ok a (an a i k) := by
  intro k
  induction k with
  | zero => exact h
  | succ k ih => exact (nx_ok hw ih).1
theorem nx_neg {a : Nat → Int} {i : Int} (h : i < 0) : nx a i = -1 := if_pos h
theorem an_le {a : Nat → Int} (hw : WF a) {i : Int} (h : ok a i) : ∀ k, 0 ≤ an a i k → an a i k + k ≤ i := by
  intro k
  induction k with
  | zero => intro _; rw [an_0]; omega
  | succ k ih =>
    intro hk
    by_cases c : an a i k < 0
    · rw [an_s, nx_neg c] at hk; omega
    · have h1 := (nx_ok hw (an_ok hw h k)).2 (by omega)
      have h2 := ih (by omega)
      rw [an_s] at hk ⊢
      omega
/-- how many there are in the chain -/
def lnF (a : Nat → Int) : Nat → Int → Nat
  | 0, _ => 0
  | f + 1, i => if i < 0 then 0 else lnF a f (nx a i) + 1
def ln (a : Nat → Int) (i : Int) : Nat := lnF a 41 i
theorem lnF_is {a : Nat → Int} (hw : WF a) : ∀ (f : Nat) (i : Int), ok a i → i < f → (∀ k, k < lnF a f i → 0 ≤ an a i k) ∧ an a i (lnF a f i) = -1 := by
  intro f
  induction f with
  | zero =>
    intro i h1 h2
    refine ⟨fun k hk => absurd hk (Nat.not_lt_zero k), ?_⟩
    show i = -1
    unfold ok at h1; omega
  | succ f ih =>
    intro i h1 h2
    by_cases c : i < 0
    · rw [lnF, if_pos c]
      refine ⟨fun k hk => absurd hk (Nat.not_lt_zero k), ?_⟩
      show i = -1
      unfold ok at h1; omega
    · rw [lnF, if_neg c]
      have hn := nx_ok hw h1
      obtain ⟨e1, e2⟩ := ih (nx a i) hn.1 (by have := hn.2 (by omega); omega)
      refine ⟨fun k hk => ?_, by rw [← an_nx]; exact e2⟩
      cases k with
      | zero => rw [an_0]; omega
      | succ k => rw [← an_nx]; exact e1 k (by omega)
theorem ln_in {a : Nat → Int} (hw : WF a) {i : Int} (h : ok a i) {k : Nat} (hk : k < ln a i) : 0 ≤ an a i k := (lnF_is hw 41 i h (by have := hw.b2; unfold ok at h; omega)).1 k hk
theorem ln_end {a : Nat → Int} (hw : WF a) {i : Int} (h : ok a i) : an a i (ln a i) = -1 := (lnF_is hw 41 i h (by have := hw.b2; unfold ok at h; omega)).2
theorem ln_out {a : Nat → Int} (hw : WF a) {i : Int} (h : ok a i) {k : Nat} (hk : ln a i ≤ k) : an a i k = -1 := by
  obtain ⟨m, rfl⟩ : ∃ m, k = ln a i + m := ⟨k - ln a i, by omega⟩
  rw [← an_add, ln_end hw h]
  have : ∀ m, an a (-1) m = -1 := by
    intro m
    induction m with
    | zero => rfl
    | succ m ih => rw [an_s, ih]; rfl
  exact this m
theorem ln_iff {a : Nat → Int} (hw : WF a) {i : Int} (h : ok a i) {k : Nat} : k < ln a i ↔ 0 ≤ an a i k := by
  refine ⟨fun q => ln_in hw h q, fun q => ?_⟩
  rcases Nat.lt_or_ge k (ln a i) with r | r
  · exact r
  · have := ln_out hw h r; omega
theorem ln_le {a : Nat → Int} (hw : WF a) {i : Int} (h : ok a i) : (ln a i : Int) ≤ i + 1 := by
  rcases Nat.eq_zero_or_pos (ln a i) with e | e
  · rw [e]; unfold ok at h; omega
  · have h1 := ln_in hw h (show ln a i - 1 < ln a i by omega)
    have h2 := an_le hw h (ln a i - 1) h1
    omega
theorem ln_40 {a : Nat → Int} (hw : WF a) {i : Int} (h : ok a i) : ln a i ≤ 40 := by
  have := ln_le hw h
  have := hw.b2
  unfold ok at h
  omega
theorem ln_pos {a : Nat → Int} (hw : WF a) {i : Int} (h : ok a i) (hi : 0 ≤ i) : 0 < ln a i := (ln_iff hw h).mpr hi
theorem ln_nx {a : Nat → Int} (hw : WF a) {i : Int} (h : ok a i) (hi : 0 ≤ i) : ln a i = ln a (nx a i) + 1 := by
  have hn := (nx_ok hw h).1
  have p := ln_pos hw h hi
  rcases Nat.lt_trichotomy (ln a (nx a i) + 1) (ln a i) with q | q | q
  · have := ln_in hw h q
    rw [← an_nx, ln_end hw hn] at this
    omega
  · exact q.symm
  · have e := ln_end hw h
    have := ln_in hw hn (show ln a i - 1 < ln a (nx a i) by omega)
    rw [an_nx, show ln a i - 1 + 1 = ln a i by omega, e] at this
    omega
def cd (a : Nat → Int) (i : Int) : Int := if i < 0 then -9 else a (59 + 5 * i.toNat)
def hs (a : Nat → Int) (i : Int) : Int := if i < 0 then -9 else a (60 + 5 * i.toNat)
def kk (a : Nat → Int) (i : Int) : Int := if i < 0 then -9 else a (61 + 5 * i.toNat)
def wr (a : Nat → Int) (i : Int) : Int := if i < 0 then -1 else a (63 + 5 * i.toNat)
theorem cd_nat (a : Nat → Int) (i : Nat) : cd a (i : Int) = a (59 + 5 * i) := by
  unfold cd; rw [if_neg (by omega)]; rfl
theorem hs_nat (a : Nat → Int) (i : Nat) : hs a (i : Int) = a (60 + 5 * i) := by
  unfold hs; rw [if_neg (by omega)]; rfl
theorem kk_nat (a : Nat → Int) (i : Nat) : kk a (i : Int) = a (61 + 5 * i) := by
  unfold kk; rw [if_neg (by omega)]; rfl
theorem wr_nat (a : Nat → Int) (i : Nat) : wr a (i : Int) = a (63 + 5 * i) := by
  unfold wr; rw [if_neg (by omega)]; rfl
/-- wrong bits among the first k of the chain; the last of them so far -/
def swb (a : Nat → Int) (i : Int) : Nat → Int
  | 0 => 0
  | k + 1 => if 0 ≤ wr a (an a i k) then swb a i k + 1 else swb a i k
def fwr (a : Nat → Int) (i : Int) : Nat → Int
  | 0 => -1
  | k + 1 => if 0 ≤ wr a (an a i k) then an a i k else fwr a i k
theorem swb_le (a : Nat → Int) (i : Int) : ∀ k, 0 ≤ swb a i k ∧ swb a i k ≤ k := by
  intro k
  induction k with
  | zero => simp [swb]
  | succ k ih => rw [swb]; split <;> omega
/-- of two chains: the greatest that is in both -/
def inC (a : Nat → Int) (w i : Int) : Prop := 0 ≤ w ∧ ∃ k, an a i k = w
def meets (a : Nat → Int) (i j m : Int) : Prop := (m = -1 ∧ ∀ w, ¬ (inC a w i ∧ inC a w j)) ∨ (inC a m i ∧ inC a m j ∧ ∀ w, inC a w i → inC a w j → w ≤ m)
theorem meets_one {a : Nat → Int} {i j m n : Int} (h : meets a i j m) (g : meets a i j n) : m = n := by
  rcases h with ⟨h1, h2⟩ | ⟨h1, h2, h3⟩ <;> rcases g with ⟨g1, g2⟩ | ⟨g1, g2, g3⟩
  · omega
  · exact absurd ⟨g1, g2⟩ (h2 n)
  · exact absurd ⟨h1, h2⟩ (g2 m)
  · have := h3 n g1 g2
    have := g3 m h1 h2
    omega
/-! loops, by the row of their states -/
theorem seq1 {A ρ : Type} {body : A → (A → Option ρ) → Option ρ} {r : Option ρ} (s : Nat → A) (n : Nat) (he : ∀ k, body (s n) k = r) (hs : ∀ i, i < n → ∀ k, body (s i) k = k (s (i + 1))) : ∀ f i, i ≤ n → n < f + i → rl1 body f (s i) = r := by
  intro f
  induction f with
  | zero => intro i h1 h2; omega
  | succ f ih =>
    intro i h1 h2
    rw [rl1]
    rcases Nat.lt_or_ge i n with q | q
    · rw [hs i q]; exact ih (i + 1) q (by omega)
    · obtain rfl : i = n := by omega
      exact he _
theorem seq2 {A B ρ : Type} {body : A → B → (A → B → Option ρ) → Option ρ} {r : Option ρ} (s : Nat → A) (t : Nat → B) (n : Nat) (he : ∀ k, body (s n) (t n) k = r) (hs : ∀ i, i < n → ∀ k, body (s i) (t i) k = k (s (i + 1)) (t (i + 1))) : ∀ f i, i ≤ n → n < f + i → rl2 body f (s i) (t i) = r := by
  intro f
  induction f with
  | zero => intro i h1 h2; omega
  | succ f ih =>
    intro i h1 h2
    rw [rl2]
    rcases Nat.lt_or_ge i n with q | q
    · rw [hs i q]; exact ih (i + 1) q (by omega)
    · obtain rfl : i = n := by omega
      exact he _
theorem seq3 {A B C ρ : Type} {body : A → B → C → (A → B → C → Option ρ) → Option ρ} {r : Option ρ} (s : Nat → A) (t : Nat → B) (u : Nat → C) (n : Nat) (he : ∀ k, body (s n) (t n) (u n) k = r) (hs : ∀ i, i < n → ∀ k, body (s i) (t i) (u i) k = k (s (i + 1)) (t (i + 1)) (u (i + 1))) : ∀ f i, i ≤ n → n < f + i → rl3 body f (s i) (t i) (u i) = r := by
  intro f
  induction f with
  | zero => intro i h1 h2; omega
  | succ f ih =>
    intro i h1 h2
    rw [rl3]
    rcases Nat.lt_or_ge i n with q | q
    · rw [hs i q]; exact ih (i + 1) q (by omega)
    · obtain rfl : i = n := by omega
      exact he _
theorem seq4 {A B C D ρ : Type} {body : A → B → C → D → (A → B → C → D → Option ρ) → Option ρ} {r : Option ρ} (s : Nat → A) (t : Nat → B) (u : Nat → C) (v : Nat → D) (n : Nat) (he : ∀ k, body (s n) (t n) (u n) (v n) k = r) (hs : ∀ i, i < n → ∀ k, body (s i) (t i) (u i) (v i) k = k (s (i + 1)) (t (i + 1)) (u (i + 1)) (v (i + 1))) : ∀ f i, i ≤ n → n < f + i → rl4 body f (s i) (t i) (u i) (v i) = r := by
  intro f
  induction f with
  | zero => intro i h1 h2; omega
  | succ f ih =>
    intro i h1 h2
    rw [rl4]
    rcases Nat.lt_or_ge i n with q | q
    · rw [hs i q]; exact ih (i + 1) q (by omega)
    · obtain rfl : i = n := by omega
      exact he _
theorem seq5 {A B C D E ρ : Type} {body : A → B → C → D → E → (A → B → C → D → E → Option ρ) → Option ρ} {r : Option ρ} (s : Nat → A) (t : Nat → B) (u : Nat → C) (v : Nat → D) (w : Nat → E) (n : Nat) (he : ∀ k, body (s n) (t n) (u n) (v n) (w n) k = r) (hs : ∀ i, i < n → ∀ k, body (s i) (t i) (u i) (v i) (w i) k = k (s (i + 1)) (t (i + 1)) (u (i + 1)) (v (i + 1)) (w (i + 1))) : ∀ f i, i ≤ n → n < f + i → rl5 body f (s i) (t i) (u i) (v i) (w i) = r := by
  intro f
  induction f with
  | zero => intro i h1 h2; omega
  | succ f ih =>
    intro i h1 h2
    rw [rl5]
    rcases Nat.lt_or_ge i n with q | q
    · rw [hs i q]; exact ih (i + 1) q (by omega)
    · obtain rfl : i = n := by omega
      exact he _
theorem fuel_lt {n : Nat} (h : n < 100000) : n < FUEL + 0 := by rw [FUEL_eq]; exact h
theorem fuel_1 : FUEL = 99999 + 1 := FUEL_eq
theorem fuel_gt {n : Nat} (h : n < 100000) : n < FUEL := by rw [FUEL_eq]; exact h
/-- how many below n have a property -/
def cn (p : Nat → Prop) [DecidablePred p] : Nat → Int
  | 0 => 0
  | n + 1 => if p n then cn p n + 1 else cn p n
theorem cn_le (p : Nat → Prop) [DecidablePred p] : ∀ n, 0 ≤ cn p n ∧ cn p n ≤ n := by
  intro n
  induction n with
  | zero => simp [cn]
  | succ n ih => rw [cn]; split <;> omega
theorem cn_cong {p q : Nat → Prop} {i : DecidablePred p} {j : DecidablePred q} : ∀ {n : Nat}, (∀ k, k < n → (p k ↔ q k)) → cn p n = cn q n := by
  intro n
  induction n with
  | zero => intro _; rfl
  | succ n ih =>
    intro h
    rw [cn, cn, ih (fun k hk => h k (by omega))]
    by_cases c : p n
    · rw [if_pos c, if_pos ((h n (by omega)).mp c)]
    · rw [if_neg c, if_neg (fun z => c ((h n (by omega)).mpr z))]
/-! the program's look-ups -/
theorem Rec_has {n d : Int} (h1 : 0 ≤ n) (h2 : n ≤ 40) (h3 : -2147483648 ≤ d) (h4 : d < 2147483648) : f_Rec_has (iI n) (iI d) = some (bI (0 ≤ d ∧ d < n)) := by
  unfold f_Rec_has
  simp (disch := omega) only [l_0, l_1, l_2, l_3, l_4, l_5, l_6, l_7, l_8, l_9, l_10, l_11, l_12, l_13, l_14, l_16, l_31, l_40, l_48, l_54, l_58, l_59, l_60, l_99, l_100, l_107, l_110, l_115, l_120, l_255, l_259, l_283, l_1000, l_4095, iI_add, iI_sub, iI_mul, iI_neg, iI_lt, iI_le, iI_eq, iI_cl]
  by_cases c : 0 ≤ d ∧ d < n
  · rw [bI_t c, if_neg (by omega), if_neg (by omega), if_neg (by omega)]
    rfl
  · rw [bI_f c]
    split
    · rfl
    · split
      · rfl
      · split
        · rfl
        · omega
theorem Rec_parentOf {c h k p w : Nat → Int32} {n : Int32} {a : Nat → Int} (hw : WF a) (hr : RRec c h k p w n a) {i : Int} (hi : ok a i) : f_Rec_parentOf p n (n9 i) = some (n9 (nx a i)) := by
  have h2 := hw.b2
  obtain ⟨rfl, hr⟩ := hr
  unfold f_Rec_parentOf
  unfold ok at hi
  by_cases hc : i < 0
  · rw [n9_neg hc, Rec_has h2.1 h2.2 (by omega) (by omega), cal_some, if_pos (bI_f (by omega))]
    unfold nx
    rw [if_pos hc]
    rfl
  · obtain ⟨m, rfl⟩ := Int.eq_ofNat_of_zero_le (show 0 ≤ i by omega)
    rw [n9_pos (by omega), Rec_has h2.1 h2.2 (by omega) (by omega), cal_some, if_neg (by rw [bI_0]; omega), iI_cl (by omega) (by omega), gd_t]
    · show some (p m) = _
      rw [(hr m hi.2).2.2.2.1, nx_nat]
    · simp (disch := omega) only [l_0, l_1, l_2, l_3, l_4, l_5, l_6, l_7, l_8, l_9, l_10, l_11, l_12, l_13, l_14, l_16, l_31, l_40, l_48, l_54, l_58, l_59, l_60, l_99, l_100, l_107, l_110, l_115, l_120, l_255, l_259, l_283, l_1000, l_4095, iI_add, iI_sub, iI_mul, iI_neg, iI_lt, iI_le, iI_eq, iI_cl]
      omega
