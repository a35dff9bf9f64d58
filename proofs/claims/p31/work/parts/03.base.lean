/-! combinators that the functions read off the bytecode are written with; contracts of three kinds; a row a call -/
/-- as much as any loop wants; a number that nothing unfolds -/
noncomputable def FUEL : Nat := Classical.choose (⟨100000, rfl⟩ : ∃ n : Nat, n = 100000)
theorem FUEL_eq : FUEL = 100000 := Classical.choose_spec (⟨100000, rfl⟩ : ∃ n : Nat, n = 100000)
def bnd {α β : Type} (a : α) (k : α → β) : β := k a
theorem bnd_e {α β : Type} {a : α} {k : α → Option β} {o : β} (h : bnd a k = some o) : ∃ x, x = a ∧ k x = some o := ⟨a, rfl, h⟩
def gd {β : Type} (c : Prop) [Decidable c] (k : Option β) : Option β := if c then k else none
theorem gd_e {β : Type} {c : Prop} {i : Decidable c} {k : Option β} {o : β} (h : @gd β c i k = some o) : c ∧ k = some o := by
  unfold gd at h
  split at h
  · exact ⟨‹c›, h⟩
  · cases h
def cal {α β : Type} (x : Option α) (k : α → Option β) : Option β := match x with
  | none => none
  | some a => k a
theorem cal_e {α β : Type} {x : Option α} {k : α → Option β} {o : β} (h : cal x k = some o) : ∃ a, x = some a ∧ k a = some o := by
  cases x with
  | none => cases h
  | some a => exact ⟨a, rfl, h⟩
theorem cal_s {α β : Type} {x : Option α} {a : α} {k : α → Option β} (h : x = some a) : cal x k = k a := by rw [h]; rfl
theorem ite_t {c : Prop} {i : Decidable c} {β : Type} {A B : Option β} {o : β} (hc : c) (h : ite c A B = some o) : A = some o := (if_pos hc).symm.trans h
theorem ite_f {c : Prop} {i : Decidable c} {β : Type} {A B : Option β} {o : β} (hc : ¬ c) (h : ite c A B = some o) : B = some o := (if_neg hc).symm.trans h
def rl1 {A0 ρ : Type} (body : A0 → (A0 → Option ρ) → Option ρ) : Nat → A0 → Option ρ
  | 0, _ => none
  | n + 1, a0 => body a0 (rl1 body n)
def rl2 {A0 A1 ρ : Type} (body : A0 → A1 → (A0 → A1 → Option ρ) → Option ρ) : Nat → A0 → A1 → Option ρ
  | 0, _, _ => none
  | n + 1, a0, a1 => body a0 a1 (rl2 body n)
def rl3 {A0 A1 A2 ρ : Type} (body : A0 → A1 → A2 → (A0 → A1 → A2 → Option ρ) → Option ρ) : Nat → A0 → A1 → A2 → Option ρ
  | 0, _, _, _ => none
  | n + 1, a0, a1, a2 => body a0 a1 a2 (rl3 body n)
def rl4 {A0 A1 A2 A3 ρ : Type} (body : A0 → A1 → A2 → A3 → (A0 → A1 → A2 → A3 → Option ρ) → Option ρ) : Nat → A0 → A1 → A2 → A3 → Option ρ
  | 0, _, _, _, _ => none
  | n + 1, a0, a1, a2, a3 => body a0 a1 a2 a3 (rl4 body n)
def rl5 {A0 A1 A2 A3 A4 ρ : Type} (body : A0 → A1 → A2 → A3 → A4 → (A0 → A1 → A2 → A3 → A4 → Option ρ) → Option ρ) : Nat → A0 → A1 → A2 → A3 → A4 → Option ρ
  | 0, _, _, _, _, _ => none
  | n + 1, a0, a1, a2, a3, a4 => body a0 a1 a2 a3 a4 (rl5 body n)
def rl6 {A0 A1 A2 A3 A4 A5 ρ : Type} (body : A0 → A1 → A2 → A3 → A4 → A5 → (A0 → A1 → A2 → A3 → A4 → A5 → Option ρ) → Option ρ) : Nat → A0 → A1 → A2 → A3 → A4 → A5 → Option ρ
  | 0, _, _, _, _, _, _ => none
  | n + 1, a0, a1, a2, a3, a4, a5 => body a0 a1 a2 a3 a4 a5 (rl6 body n)
def rl7 {A0 A1 A2 A3 A4 A5 A6 ρ : Type} (body : A0 → A1 → A2 → A3 → A4 → A5 → A6 → (A0 → A1 → A2 → A3 → A4 → A5 → A6 → Option ρ) → Option ρ) : Nat → A0 → A1 → A2 → A3 → A4 → A5 → A6 → Option ρ
  | 0, _, _, _, _, _, _, _ => none
  | n + 1, a0, a1, a2, a3, a4, a5, a6 => body a0 a1 a2 a3 a4 a5 a6 (rl7 body n)
def rl13 {A0 A1 A2 A3 A4 A5 A6 A7 A8 A9 A10 A11 A12 ρ : Type} (body : A0 → A1 → A2 → A3 → A4 → A5 → A6 → A7 → A8 → A9 → A10 → A11 → A12 → (A0 → A1 → A2 → A3 → A4 → A5 → A6 → A7 → A8 → A9 → A10 → A11 → A12 → Option ρ) → Option ρ) : Nat → A0 → A1 → A2 → A3 → A4 → A5 → A6 → A7 → A8 → A9 → A10 → A11 → A12 → Option ρ
  | 0, _, _, _, _, _, _, _, _, _, _, _, _, _ => none
  | n + 1, a0, a1, a2, a3, a4, a5, a6, a7, a8, a9, a10, a11, a12 => body a0 a1 a2 a3 a4 a5 a6 a7 a8 a9 a10 a11 a12 (rl13 body n)
def rl16 {A0 A1 A2 A3 A4 A5 A6 A7 A8 A9 A10 A11 A12 A13 A14 A15 ρ : Type} (body : A0 → A1 → A2 → A3 → A4 → A5 → A6 → A7 → A8 → A9 → A10 → A11 → A12 → A13 → A14 → A15 → (A0 → A1 → A2 → A3 → A4 → A5 → A6 → A7 → A8 → A9 → A10 → A11 → A12 → A13 → A14 → A15 → Option ρ) → Option ρ) : Nat → A0 → A1 → A2 → A3 → A4 → A5 → A6 → A7 → A8 → A9 → A10 → A11 → A12 → A13 → A14 → A15 → Option ρ
  | 0, _, _, _, _, _, _, _, _, _, _, _, _, _, _, _, _ => none
  | n + 1, a0, a1, a2, a3, a4, a5, a6, a7, a8, a9, a10, a11, a12, a13, a14, a15 => body a0 a1 a2 a3 a4 a5 a6 a7 a8 a9 a10 a11 a12 a13 a14 a15 (rl16 body n)
/-! worlds -/
abbrev tyA (cC cI cJ cZ cO : ClassId) : List (ClassId × FieldType) := [(cC, .char), (cI, .int), (cI, .int), (cI, .int), (cO, .object "TaughtRemotes$Street")]
def NWl : List Cond := [.fieldLinkNest RX9 84 "TaughtRemotes$Street" "records" "LTaughtRemotes$Records;" "TaughtRemotes", .fieldLinkNest RX9 96 "TaughtRemotes$Street" "devices" "LTaughtRemotes$Devices;" "TaughtRemotes", .fieldLinkNest RX3 42 "TaughtRemotes$Street" "records" "LTaughtRemotes$Records;" "TaughtRemotes", .fieldLinkNest RX3 54 "TaughtRemotes$Street" "devices" "LTaughtRemotes$Devices;" "TaughtRemotes", .methodLinkNest RX9 35 yX8_init "TaughtRemotes", .methodLinkNest RX9 42 yX3_init "TaughtRemotes", .methodLinkNest RX3 87 yX9_powerOfTen "TaughtRemotes", .methodLinkNest RX7 11 yX4_init "TaughtRemotes", .methodLinkNest RX7 20 yX0_init "TaughtRemotes"]
def nw_k (w : Cond) : Prop := (∃ a i b n d h, w = .fieldLinkNest a i b n d h) ∨ (∃ a i x h, w = .methodLinkNest a i x h)
theorem NWl_k : ∀ w ∈ NWl, nw_k w := by
  intro w hw
  simp only [NWl, List.mem_cons, List.not_mem_nil, or_false] at hw
  rcases hw with rfl | rfl | rfl | rfl | rfl | rfl | rfl | rfl | rfl
  all_goals first
    | exact Or.inl ⟨_, _, _, _, _, _, rfl⟩
    | exact Or.inr ⟨_, _, _, _, rfl⟩
/-- the classes and arrays, and the words that are carried -/
def KK (D : va_G) (tys : List (ClassId × FieldType)) (U : State) : Prop := va_K D vwCl tys U ∧ (∀ w ∈ NWl, va_Nw w U) ∧ True
theorem KK.warm {D : va_G} {tys : List (ClassId × FieldType)} {s U : State} (hW : s.WarmedH U.vm) (h : KK D tys s) : KK D tys U := by
  refine ⟨va_K.moved hW.alike h.1, fun w hw => ?_, trivial⟩
  have h9 := h.2.1 w hw
  rcases NWl_k w hw with ⟨a, i, b, n, d, z, e⟩ | ⟨a, i, x, z, e⟩ <;> subst e
  · exact va_Nw.warmF hW h9
  · exact va_Nw.warmM hW h9
theorem KK.same {D : va_G} {tys : List (ClassId × FieldType)} {s U : State} (hW : s.vm = U.vm) (h : KK D tys s) : KK D tys U := by
  have hal : s.vm.Alike U.vm := by rw [hW]; exact Vm.Alike.refl _
  refine ⟨va_K.moved hal h.1, fun w hw => ?_, trivial⟩
  have h9 := h.2.1 w hw
  rcases NWl_k w hw with ⟨a, i, b, n, d, z, e⟩ | ⟨a, i, x, z, e⟩ <;> subst e
  · exact va_Nw.same rfl hW h9
  · exact va_Nw.same rfl hW h9
theorem KK_nest {D : va_G} {tys : List (ClassId × FieldType)} {s : State} {args : Array Value} (h : KK D tys s) {i : Nat} {w : Cond} (hi : NWl[i]? = some w) (ht : w.onTables = true) : w.before args s = true := va_Nw.use ht (h.2.1 _ (List.mem_of_getElem? hi))
/-- what a reading method leaves: its answer, and the same heap -/
def pc_Q (r : Value) : Array Value → State → Outcome → State → Prop := fun _ st o t => o = .returned (some r) ∧ t.heap = st.heap
/-- a method that only reads -/
def PCon (l : Launch) (y : MethodName) (ws : List Cond) (rm : Room) (D : va_G) (tys : List (ClassId × FieldType)) (av : List Value) (w0 : va_W) (r : Value) : Prop :=
  Met l y ws rm (va_Pc av (fun U => va_P D vwCl w0 U.heap ∧ KK D tys U)) (pc_Q r) 0 0 (fun _ => False)
/-- a method that only reads, and answers nothing -/
def pv_Q : Array Value → State → Outcome → State → Prop := fun _ st o t => o = .returned none ∧ t.heap = st.heap
def PConV (l : Launch) (y : MethodName) (ws : List Cond) (rm : Room) (D : va_G) (tys : List (ClassId × FieldType)) (av : List Value) (w0 : va_W) : Prop :=
  Met l y ws rm (va_Pc av (fun U => va_P D vwCl w0 U.heap ∧ KK D tys U)) pv_Q 0 0 (fun _ => False)
def wc_Q (r : Option Value) (D : va_G) (A : Nat → Prop) (w1 : va_W) : Array Value → State → Outcome → State → Prop := fun _ st o t => o = .returned r ∧ va_P D vwCl w1 t.heap ∧ va_D A w1 ∧ va_F A st t
def wc_B (sz : Nat) (D : va_G) (tys : List (ClassId × FieldType)) (w0 : va_W) (U : State) : Prop := U.heap.size = sz ∧ va_P D vwCl w0 U.heap ∧ KK D tys U ∧ va_D (fun _ => True) w0
/-- a method that writes in its world: w0 ahead, w1 behind -/
def WCon (l : Launch) (y : MethodName) (ws : List Cond) (rm : Room) (D : va_G) (tys : List (ClassId × FieldType)) (av : List Value) (w0 : va_W) (r : Option Value) (w1 : va_W) (mc ms : Nat) : Prop :=
  ∀ sz, Met l y ws rm (va_Pc av (wc_B sz D tys w0)) (wc_Q r D (va_A w0 sz) w1) mc ms (va_A w0 sz)
theorem pc_blind {D : va_G} {tys : List (ClassId × FieldType)} {av : List Value} {w0 : va_W} : FrameBlind (va_Pc av (fun U => va_P D vwCl w0 U.heap ∧ KK D tys U)) := fun _ U g mk q => ⟨q.1, q.2.1, KK.same (s := U) (U := U.calling g mk _) rfl q.2.2⟩
theorem wc_blind {D : va_G} {tys : List (ClassId × FieldType)} {av : List Value} {w0 : va_W} {sz : Nat} : FrameBlind (va_Pc av (wc_B sz D tys w0)) := fun _ U g mk q => ⟨q.1, q.2.1, q.2.2.1, KK.same (s := U) (U := U.calling g mk _) rfl q.2.2.2.1, q.2.2.2.2⟩
/-- what every call wants of the caller -/
def cf (p : Program) (m : MethodId) (c : Code) (cc : ByteArray) (nL : Nat) (s : State) (args : Array Value) (Ts : List Cond) (own : String) : Prop :=
  p.tables.exec = Jvm.exec ∧ c.code = cc ∧ c.maxLocals = nL ∧ s.vm.findClass own = some m.cls ∧ ∀ w ∈ Ts, w.before args s = true
theorem Met.ofWF {l : Launch} {y : MethodName} {ws ws' : List Cond} {rm : Room} {Pc : Array Value → State → Prop} {Qc : Array Value → State → Outcome → State → Prop} {mc ms : Nat} {free : Addr → Prop} {cc : ByteArray} {maxL : Nat} {ret : Option FieldType}
    (hy : plainFor y = true) (hw : ws = Cond.code y cc maxL ret :: ws')
    (body : ∀ p e s m args below meth c s₁, BodyLoose p l y (headSpec ws rm) cc maxL ret e s m args below meth c s₁ → c.maxLocals = maxL → Pc args s →
      W p l e (headSpec ws rm).room s m args below meth c s.heap [] 0 0 (MQ below Qc args s mc ms free) (entryFrame m args maxL)) : Met l y ws rm Pc Qc mc ms free := by
  refine MetFree.of_bodySF (code := cc) (maxLocals := maxL) (ret := ret) hy ?_ ?_
  · intro args s m h hn
    obtain ⟨meth, c, h1, h2, h3, h4, h5, h6, -, -⟩ := Cond.code_spec hn (atoms_spec (ws := ws) h _ (by rw [hw]; exact List.mem_cons_self))
    exact ⟨meth, c, h1, h2, h3, h4, h5, h6⟩
  · intro p e s m args below meth c s₁ B hml hP _
    have hh0 : s₁.heap = s.heap := by rw [B.state]; rfl
    obtain ⟨t, a1, o, b1, b2, b3⟩ := body p e s m args below meth c s₁ B hml hP s₁ hh0 (Stand.of_body B)
    exact ⟨t, o, a1, b1, b2, ⟨b3.1, b3.2⟩⟩
theorem pc_I {l : Launch} {y : MethodName} {own : String} {cc : ByteArray} {maxL : Nat} {ws ws' : List Cond} {rm : Room} {D : va_G} {tys : List (ClassId × FieldType)} {av : List Value} {w0 : va_W} {out : Int32}
    (hy : plainName y.cls = true) (ho : y.cls = own) (hw : ws = Cond.code y cc maxL (some .int) :: ws') (hlen : (lg_sl av).length ≤ maxL)
    (body : ∀ (p : Program) (e : Env) (s : State) (m : MethodId) (args : Array Value) (below : List Frame) (meth : Method) (c : Code) (ls : Array Slot) (Q : State → Prop), p.tables.exec = Jvm.exec → c.code = cc → (∀ w ∈ ws, w.before args s = true) → s.vm.findClass own = some m.cls → cf p m c cc maxL s args ws own → va_P D vwCl w0 s.heap → KK D tys s → lv_has ls maxL (lv_args 0 av) →
      (∀ (pc : Nat) (ls : Array Slot), decode cc pc = .ok (.ireturn, 1) → W p l e rm s m args below meth c s.heap [] 0 0 Q (F0 m pc ls [.int out])) →
      W p l e rm s m args below meth c s.heap [] 0 0 Q (F0 m 0 ls [])) : PCon l y ws rm D tys av w0 (.int out) := by
  subst ho
  refine Met.ofW (cc := cc) (maxL := maxL) (ret := some .int) hy hw ?_
  intro p e s m args below meth c s₁ B hml hv
  obtain ⟨rfl, hP, hK⟩ := hv
  rw [lg_entry_eq]
  exact body p e s m _ below meth c _ _ B.exec B.bytes (atoms_spec (ws := ws) B.pre) (findClass_of_methodNamed B.named) ⟨B.exec, B.bytes, hml, findClass_of_methodNamed B.named, atoms_spec (ws := ws) B.pre⟩ hP hK (lv_entry av hlen)
    (fun pc ls hd => W.iret B.exec B.bytes B.returns (fun t ht _ => ⟨rfl, ht⟩) (fun q hq => by cases hq) hd B.notSynchronized)
theorem pc_IF {l : Launch} {y : MethodName} {own : String} {cc : ByteArray} {maxL : Nat} {ws ws' : List Cond} {rm : Room} {D : va_G} {tys : List (ClassId × FieldType)} {av : List Value} {w0 : va_W} {out : Int32}
    (hy : plainFor y = true) (ho : y.cls = own) (hw : ws = Cond.code y cc maxL (some .int) :: ws') (hlen : (lg_sl av).length ≤ maxL)
    (body : ∀ (p : Program) (e : Env) (s : State) (m : MethodId) (args : Array Value) (below : List Frame) (meth : Method) (c : Code) (ls : Array Slot) (Q : State → Prop), p.tables.exec = Jvm.exec → c.code = cc → (∀ w ∈ ws, w.before args s = true) → s.vm.findClass own = some m.cls → cf p m c cc maxL s args ws own → va_P D vwCl w0 s.heap → KK D tys s → lv_has ls maxL (lv_args 0 av) →
      (∀ (pc : Nat) (ls : Array Slot), decode cc pc = .ok (.ireturn, 1) → W p l e rm s m args below meth c s.heap [] 0 0 Q (F0 m pc ls [.int out])) →
      W p l e rm s m args below meth c s.heap [] 0 0 Q (F0 m 0 ls [])) : PCon l y ws rm D tys av w0 (.int out) := by
  subst ho
  refine Met.ofWF (cc := cc) (maxL := maxL) (ret := some .int) hy hw ?_
  intro p e s m args below meth c s₁ B hml hv
  obtain ⟨rfl, hP, hK⟩ := hv
  rw [lg_entry_eq]
  exact body p e s m _ below meth c _ _ B.exec B.bytes (atoms_spec (ws := ws) B.pre) (findClass_of_methodNamed B.named) ⟨B.exec, B.bytes, hml, findClass_of_methodNamed B.named, atoms_spec (ws := ws) B.pre⟩ hP hK (lv_entry av hlen)
    (fun pc ls hd => W.iret B.exec B.bytes B.returns (fun t ht _ => ⟨rfl, ht⟩) (fun q hq => by cases hq) hd B.notSynchronized)
theorem pc_Z {l : Launch} {y : MethodName} {own : String} {cc : ByteArray} {maxL : Nat} {ws ws' : List Cond} {rm : Room} {D : va_G} {tys : List (ClassId × FieldType)} {av : List Value} {w0 : va_W} {out : Int32}
    (hy : plainName y.cls = true) (ho : y.cls = own) (hw : ws = Cond.code y cc maxL (some .boolean) :: ws') (hlen : (lg_sl av).length ≤ maxL)
    (body : ∀ (p : Program) (e : Env) (s : State) (m : MethodId) (args : Array Value) (below : List Frame) (meth : Method) (c : Code) (ls : Array Slot) (Q : State → Prop), p.tables.exec = Jvm.exec → c.code = cc → (∀ w ∈ ws, w.before args s = true) → s.vm.findClass own = some m.cls → cf p m c cc maxL s args ws own → va_P D vwCl w0 s.heap → KK D tys s → lv_has ls maxL (lv_args 0 av) →
      (∀ (pc : Nat) (ls : Array Slot), decode cc pc = .ok (.ireturn, 1) → narrow .boolean (.int out) = .int out → W p l e rm s m args below meth c s.heap [] 0 0 Q (F0 m pc ls [.int out])) →
      W p l e rm s m args below meth c s.heap [] 0 0 Q (F0 m 0 ls [])) : PCon l y ws rm D tys av w0 (.int out) := by
  subst ho
  refine Met.ofW (cc := cc) (maxL := maxL) (ret := some .boolean) hy hw ?_
  intro p e s m args below meth c s₁ B hml hv
  obtain ⟨rfl, hP, hK⟩ := hv
  rw [lg_entry_eq]
  exact body p e s m _ below meth c _ _ B.exec B.bytes (atoms_spec (ws := ws) B.pre) (findClass_of_methodNamed B.named) ⟨B.exec, B.bytes, hml, findClass_of_methodNamed B.named, atoms_spec (ws := ws) B.pre⟩ hP hK (lv_entry av hlen)
    (fun pc ls hd hn => W.zret B.exec B.bytes B.returns hn (fun t ht _ => ⟨rfl, ht⟩) (fun q hq => by cases hq) hd B.notSynchronized)
theorem pc_J {l : Launch} {y : MethodName} {own : String} {cc : ByteArray} {maxL : Nat} {ws ws' : List Cond} {rm : Room} {D : va_G} {tys : List (ClassId × FieldType)} {av : List Value} {w0 : va_W} {out : Int64}
    (hy : plainName y.cls = true) (ho : y.cls = own) (hw : ws = Cond.code y cc maxL (some .long) :: ws') (hlen : (lg_sl av).length ≤ maxL)
    (body : ∀ (p : Program) (e : Env) (s : State) (m : MethodId) (args : Array Value) (below : List Frame) (meth : Method) (c : Code) (ls : Array Slot) (Q : State → Prop), p.tables.exec = Jvm.exec → c.code = cc → (∀ w ∈ ws, w.before args s = true) → s.vm.findClass own = some m.cls → cf p m c cc maxL s args ws own → va_P D vwCl w0 s.heap → KK D tys s → lv_has ls maxL (lv_args 0 av) →
      (∀ (pc : Nat) (ls : Array Slot), decode cc pc = .ok (.lreturn, 1) → W p l e rm s m args below meth c s.heap [] 0 0 Q (F0 m pc ls [.long out])) →
      W p l e rm s m args below meth c s.heap [] 0 0 Q (F0 m 0 ls [])) : PCon l y ws rm D tys av w0 (.long out) := by
  subst ho
  refine Met.ofW (cc := cc) (maxL := maxL) (ret := some .long) hy hw ?_
  intro p e s m args below meth c s₁ B hml hv
  obtain ⟨rfl, hP, hK⟩ := hv
  rw [lg_entry_eq]
  exact body p e s m _ below meth c _ _ B.exec B.bytes (atoms_spec (ws := ws) B.pre) (findClass_of_methodNamed B.named) ⟨B.exec, B.bytes, hml, findClass_of_methodNamed B.named, atoms_spec (ws := ws) B.pre⟩ hP hK (lv_entry av hlen)
    (fun pc ls hd => W.lret B.exec B.bytes B.returns (fun t ht _ => ⟨rfl, ht⟩) (fun q hq => by cases hq) hd B.notSynchronized)
theorem pc_V {l : Launch} {y : MethodName} {own : String} {cc : ByteArray} {maxL : Nat} {ws ws' : List Cond} {rm : Room} {D : va_G} {tys : List (ClassId × FieldType)} {av : List Value} {w0 : va_W}
    (hy : plainName y.cls = true) (ho : y.cls = own) (hw : ws = Cond.code y cc maxL none :: ws') (hlen : (lg_sl av).length ≤ maxL)
    (body : ∀ (p : Program) (e : Env) (s : State) (m : MethodId) (args : Array Value) (below : List Frame) (meth : Method) (c : Code) (ls : Array Slot) (Q : State → Prop), p.tables.exec = Jvm.exec → c.code = cc → (∀ w ∈ ws, w.before args s = true) → s.vm.findClass own = some m.cls → cf p m c cc maxL s args ws own → va_P D vwCl w0 s.heap → KK D tys s → lv_has ls maxL (lv_args 0 av) →
      (∀ (pc : Nat) (ls : Array Slot), decode cc pc = .ok (.return_, 1) → W p l e rm s m args below meth c s.heap [] 0 0 Q (F0 m pc ls [])) →
      W p l e rm s m args below meth c s.heap [] 0 0 Q (F0 m 0 ls [])) : PConV l y ws rm D tys av w0 := by
  subst ho
  refine Met.ofW (cc := cc) (maxL := maxL) (ret := none) hy hw ?_
  intro p e s m args below meth c s₁ B hml hv
  obtain ⟨rfl, hP, hK⟩ := hv
  rw [lg_entry_eq]
  exact body p e s m _ below meth c _ _ B.exec B.bytes (atoms_spec (ws := ws) B.pre) (findClass_of_methodNamed B.named) ⟨B.exec, B.bytes, hml, findClass_of_methodNamed B.named, atoms_spec (ws := ws) B.pre⟩ hP hK (lv_entry av hlen)
    (fun pc ls hd => W.vret B.exec B.bytes B.returns (fun t ht _ => ⟨rfl, ht⟩) (fun q hq => by cases hq) hd B.notSynchronized)
theorem wc_V {l : Launch} {y : MethodName} {own : String} {cc : ByteArray} {maxL : Nat} {ws ws' : List Cond} {rm : Room} {D : va_G} {tys : List (ClassId × FieldType)} {av : List Value} {w0 w1 : va_W} {mc ms : Nat}
    (hy : plainName y.cls = true) (ho : y.cls = own) (hw : ws = Cond.code y cc maxL none :: ws') (hlen : (lg_sl av).length ≤ maxL)
    (body : ∀ (p : Program) (e : Env) (s : State) (m : MethodId) (args : Array Value) (below : List Frame) (meth : Method) (c : Code) (ls : Array Slot) (A : Nat → Prop) (Q : State → Prop), p.tables.exec = Jvm.exec → c.code = cc → (∀ w ∈ ws, w.before args s = true) → s.vm.findClass own = some m.cls → cf p m c cc maxL s args ws own → va_P D vwCl w0 s.heap → KK D tys s → va_D A w0 → (∀ q, s.heap.size ≤ q → A q) → va_S A s.heap s.heap [] → lv_has ls maxL (lv_args 0 av) →
      (∀ (pc : Nat) (ls : Array Slot) (H : Heap) (locs : List Loc) (cells slots : Nat), decode cc pc = .ok (.return_, 1) → cells ≤ mc → slots ≤ ms → va_P D vwCl w1 H → va_D A w1 → va_S A s.heap H locs → W p l e rm s m args below meth c H locs cells slots Q (F0 m pc ls [])) →
      W p l e rm s m args below meth c s.heap [] 0 0 Q (F0 m 0 ls [])) : WCon l y ws rm D tys av w0 none w1 mc ms := by
  subst ho
  intro sz
  refine Met.ofW (cc := cc) (maxL := maxL) (ret := none) hy hw ?_
  intro p e s m args below meth c s₁ B hml hv
  obtain ⟨rfl, hsz, hP, hK, hD⟩ := hv
  subst hsz
  rw [lg_entry_eq]
  exact body p e s m _ below meth c _ _ _ B.exec B.bytes (atoms_spec (ws := ws) B.pre) (findClass_of_methodNamed B.named) ⟨B.exec, B.bytes, hml, findClass_of_methodNamed B.named, atoms_spec (ws := ws) B.pre⟩ hP hK hD.self (fun q h => Or.inr h) va_S.rf (lv_entry av hlen)
    (fun pc ls H locs cells slots hd h1 h2 hP1 hD1 hS1 => W.widen h1 h2 (W.vret B.exec B.bytes B.returns (fun t ht _ => ⟨rfl, by rw [ht]; exact hP1, hD1, hS1.F ht⟩) hS1.2.2 hd B.notSynchronized))
theorem wc_I {l : Launch} {y : MethodName} {own : String} {cc : ByteArray} {maxL : Nat} {ws ws' : List Cond} {rm : Room} {D : va_G} {tys : List (ClassId × FieldType)} {av : List Value} {w0 w1 : va_W} {r : Int32} {mc ms : Nat}
    (hy : plainName y.cls = true) (ho : y.cls = own) (hw : ws = Cond.code y cc maxL (some .int) :: ws') (hlen : (lg_sl av).length ≤ maxL)
    (body : ∀ (p : Program) (e : Env) (s : State) (m : MethodId) (args : Array Value) (below : List Frame) (meth : Method) (c : Code) (ls : Array Slot) (A : Nat → Prop) (Q : State → Prop), p.tables.exec = Jvm.exec → c.code = cc → (∀ w ∈ ws, w.before args s = true) → s.vm.findClass own = some m.cls → cf p m c cc maxL s args ws own → va_P D vwCl w0 s.heap → KK D tys s → va_D A w0 → (∀ q, s.heap.size ≤ q → A q) → va_S A s.heap s.heap [] → lv_has ls maxL (lv_args 0 av) →
      (∀ (pc : Nat) (ls : Array Slot) (H : Heap) (locs : List Loc) (cells slots : Nat), decode cc pc = .ok (.ireturn, 1) → cells ≤ mc → slots ≤ ms → va_P D vwCl w1 H → va_D A w1 → va_S A s.heap H locs → W p l e rm s m args below meth c H locs cells slots Q (F0 m pc ls [.int r])) →
      W p l e rm s m args below meth c s.heap [] 0 0 Q (F0 m 0 ls [])) : WCon l y ws rm D tys av w0 (some (.int r)) w1 mc ms := by
  subst ho
  intro sz
  refine Met.ofW (cc := cc) (maxL := maxL) (ret := some .int) hy hw ?_
  intro p e s m args below meth c s₁ B hml hv
  obtain ⟨rfl, hsz, hP, hK, hD⟩ := hv
  subst hsz
  rw [lg_entry_eq]
  exact body p e s m _ below meth c _ _ _ B.exec B.bytes (atoms_spec (ws := ws) B.pre) (findClass_of_methodNamed B.named) ⟨B.exec, B.bytes, hml, findClass_of_methodNamed B.named, atoms_spec (ws := ws) B.pre⟩ hP hK hD.self (fun q h => Or.inr h) va_S.rf (lv_entry av hlen)
    (fun pc ls H locs cells slots hd h1 h2 hP1 hD1 hS1 => W.widen h1 h2 (W.iret B.exec B.bytes B.returns (fun t ht _ => ⟨rfl, by rw [ht]; exact hP1, hD1, hS1.F ht⟩) hS1.2.2 hd B.notSynchronized))
theorem wc_Z {l : Launch} {y : MethodName} {own : String} {cc : ByteArray} {maxL : Nat} {ws ws' : List Cond} {rm : Room} {D : va_G} {tys : List (ClassId × FieldType)} {av : List Value} {w0 w1 : va_W} {r : Int32} {mc ms : Nat}
    (hy : plainName y.cls = true) (ho : y.cls = own) (hw : ws = Cond.code y cc maxL (some .boolean) :: ws') (hlen : (lg_sl av).length ≤ maxL)
    (body : ∀ (p : Program) (e : Env) (s : State) (m : MethodId) (args : Array Value) (below : List Frame) (meth : Method) (c : Code) (ls : Array Slot) (A : Nat → Prop) (Q : State → Prop), p.tables.exec = Jvm.exec → c.code = cc → (∀ w ∈ ws, w.before args s = true) → s.vm.findClass own = some m.cls → cf p m c cc maxL s args ws own → va_P D vwCl w0 s.heap → KK D tys s → va_D A w0 → (∀ q, s.heap.size ≤ q → A q) → va_S A s.heap s.heap [] → lv_has ls maxL (lv_args 0 av) →
      (∀ (pc : Nat) (ls : Array Slot) (H : Heap) (locs : List Loc) (cells slots : Nat), decode cc pc = .ok (.ireturn, 1) → narrow .boolean (.int r) = .int r → cells ≤ mc → slots ≤ ms → va_P D vwCl w1 H → va_D A w1 → va_S A s.heap H locs → W p l e rm s m args below meth c H locs cells slots Q (F0 m pc ls [.int r])) →
      W p l e rm s m args below meth c s.heap [] 0 0 Q (F0 m 0 ls [])) : WCon l y ws rm D tys av w0 (some (.int r)) w1 mc ms := by
  subst ho
  intro sz
  refine Met.ofW (cc := cc) (maxL := maxL) (ret := some .boolean) hy hw ?_
  intro p e s m args below meth c s₁ B hml hv
  obtain ⟨rfl, hsz, hP, hK, hD⟩ := hv
  subst hsz
  rw [lg_entry_eq]
  exact body p e s m _ below meth c _ _ _ B.exec B.bytes (atoms_spec (ws := ws) B.pre) (findClass_of_methodNamed B.named) ⟨B.exec, B.bytes, hml, findClass_of_methodNamed B.named, atoms_spec (ws := ws) B.pre⟩ hP hK hD.self (fun q h => Or.inr h) va_S.rf (lv_entry av hlen)
    (fun pc ls H locs cells slots hd hn h1 h2 hP1 hD1 hS1 => W.widen h1 h2 (W.zret B.exec B.bytes B.returns hn (fun t ht _ => ⟨rfl, by rw [ht]; exact hP1, hD1, hS1.F ht⟩) hS1.2.2 hd B.notSynchronized))
theorem wc_J {l : Launch} {y : MethodName} {own : String} {cc : ByteArray} {maxL : Nat} {ws ws' : List Cond} {rm : Room} {D : va_G} {tys : List (ClassId × FieldType)} {av : List Value} {w0 w1 : va_W} {r : Int64} {mc ms : Nat}
    (hy : plainName y.cls = true) (ho : y.cls = own) (hw : ws = Cond.code y cc maxL (some .long) :: ws') (hlen : (lg_sl av).length ≤ maxL)
    (body : ∀ (p : Program) (e : Env) (s : State) (m : MethodId) (args : Array Value) (below : List Frame) (meth : Method) (c : Code) (ls : Array Slot) (A : Nat → Prop) (Q : State → Prop), p.tables.exec = Jvm.exec → c.code = cc → (∀ w ∈ ws, w.before args s = true) → s.vm.findClass own = some m.cls → cf p m c cc maxL s args ws own → va_P D vwCl w0 s.heap → KK D tys s → va_D A w0 → (∀ q, s.heap.size ≤ q → A q) → va_S A s.heap s.heap [] → lv_has ls maxL (lv_args 0 av) →
      (∀ (pc : Nat) (ls : Array Slot) (H : Heap) (locs : List Loc) (cells slots : Nat), decode cc pc = .ok (.lreturn, 1) → cells ≤ mc → slots ≤ ms → va_P D vwCl w1 H → va_D A w1 → va_S A s.heap H locs → W p l e rm s m args below meth c H locs cells slots Q (F0 m pc ls [.long r])) →
      W p l e rm s m args below meth c s.heap [] 0 0 Q (F0 m 0 ls [])) : WCon l y ws rm D tys av w0 (some (.long r)) w1 mc ms := by
  subst ho
  intro sz
  refine Met.ofW (cc := cc) (maxL := maxL) (ret := some .long) hy hw ?_
  intro p e s m args below meth c s₁ B hml hv
  obtain ⟨rfl, hsz, hP, hK, hD⟩ := hv
  subst hsz
  rw [lg_entry_eq]
  exact body p e s m _ below meth c _ _ _ B.exec B.bytes (atoms_spec (ws := ws) B.pre) (findClass_of_methodNamed B.named) ⟨B.exec, B.bytes, hml, findClass_of_methodNamed B.named, atoms_spec (ws := ws) B.pre⟩ hP hK hD.self (fun q h => Or.inr h) va_S.rf (lv_entry av hlen)
    (fun pc ls H locs cells slots hd h1 h2 hP1 hD1 hS1 => W.widen h1 h2 (W.lret B.exec B.bytes B.returns (fun t ht _ => ⟨rfl, by rw [ht]; exact hP1, hD1, hS1.F ht⟩) hS1.2.2 hd B.notSynchronized))
/-! a world cut into parts: by places, whole parts -/
theorem va_P.mem {D : va_G} {cl : List vw_C} {ws : va_W} {H : Heap} : va_P D cl ws H ↔ ∀ q ∈ ws, va_at D cl q H := by
  constructor
  · intro h q hq
    obtain ⟨k, hk⟩ := List.getElem?_of_mem hq
    exact h k q hk
  · intro h k q hk
    exact h q (List.mem_of_getElem? hk)
def dj (x y : Nat × va_E) : Prop := x.1 ≠ y.1
theorem dj_symm {x y : Nat × va_E} (h : dj x y) : dj y x := fun e => h e.symm
theorem va_D.pw {A : Nat → Prop} {ws : va_W} : va_D A ws ↔ ws.Pairwise dj ∧ ∀ q ∈ ws, A q.1 := by
  constructor
  · intro h
    refine ⟨List.pairwise_iff_getElem.mpr (fun i j hi hj hij e => ?_), fun q hq => ?_⟩
    · have := h.1 i j ws[i] ws[j] (List.getElem?_eq_getElem hi) (List.getElem?_eq_getElem hj) e
      omega
    · obtain ⟨k, hk⟩ := List.getElem?_of_mem hq
      exact h.2 k q hk
  · intro h
    refine ⟨fun i j x y hi hj e => ?_, fun k q hk => h.2 q (List.mem_of_getElem? hk)⟩
    obtain ⟨li, ei⟩ := List.getElem?_eq_some_iff.mp hi
    obtain ⟨lj, ej⟩ := List.getElem?_eq_some_iff.mp hj
    rcases Nat.lt_trichotomy i j with q | q | q
    · exact absurd (show ws[i].1 = ws[j].1 by rw [ei, ej]; exact e) (List.pairwise_iff_getElem.mp h.1 i j li lj q)
    · exact q
    · exact absurd (show ws[j].1 = ws[i].1 by rw [ei, ej]; exact e.symm) (List.pairwise_iff_getElem.mp h.1 j i lj li q)
theorem seg_at {is : List Nat} {sg sg' : List va_W} (hs : is.map (fun i => sg[i]?) = sg'.map some) {k : Nat} {w : va_W} (hk : sg'[k]? = some w) : ∃ i, is[k]? = some i ∧ sg[i]? = some w := by
  have h1 : (is.map (fun i => sg[i]?))[k]? = some (some w) := by rw [hs, List.getElem?_map, hk]; rfl
  rw [List.getElem?_map] at h1
  cases hi : is[k]? with
  | none => rw [hi] at h1; cases h1
  | some i => rw [hi] at h1; exact ⟨i, rfl, Option.some.inj h1⟩
theorem seg_P {D : va_G} {cl : List vw_C} {sg sg' : List va_W} {H : Heap} (h : va_P D cl sg.flatten H) (is : List Nat) (hs : is.map (fun i => sg[i]?) = sg'.map some) : va_P D cl sg'.flatten H := by
  rw [va_P.mem] at h ⊢
  intro q hq
  obtain ⟨w, hw, hqw⟩ := List.mem_flatten.mp hq
  obtain ⟨k, hk⟩ := List.getElem?_of_mem hw
  obtain ⟨i, -, hi⟩ := seg_at hs hk
  exact h q (List.mem_flatten.mpr ⟨w, List.mem_of_getElem? hi, hqw⟩)
theorem seg_D {A : Nat → Prop} {sg sg' : List va_W} (h : va_D A sg.flatten) (is : List Nat) (hn : va_nd is = true) (hs : is.map (fun i => sg[i]?) = sg'.map some) : va_D A sg'.flatten := by
  rw [va_D.pw] at h ⊢
  obtain ⟨hp, hA⟩ := h
  rw [List.pairwise_flatten] at hp
  refine ⟨List.pairwise_flatten.mpr ⟨fun w hw => ?_, List.pairwise_iff_getElem.mpr (fun a b ha hb hab => ?_)⟩, fun q hq => ?_⟩
  · obtain ⟨k, hk⟩ := List.getElem?_of_mem hw
    obtain ⟨i, -, hi⟩ := seg_at hs hk
    exact hp.1 w (List.mem_of_getElem? hi)
  · obtain ⟨i, hi, hi2⟩ := seg_at hs (List.getElem?_eq_getElem ha)
    obtain ⟨j, hj, hj2⟩ := seg_at hs (List.getElem?_eq_getElem hb)
    have hij : i ≠ j := fun e => by
      subst e
      have := va_nd_inj is hn a b i hi hj
      omega
    obtain ⟨li, ei⟩ := List.getElem?_eq_some_iff.mp hi2
    obtain ⟨lj, ej⟩ := List.getElem?_eq_some_iff.mp hj2
    rcases Nat.lt_or_gt_of_ne hij with q | q
    · have := List.pairwise_iff_getElem.mp hp.2 i j li lj q
      rw [ei, ej] at this
      exact this
    · have := List.pairwise_iff_getElem.mp hp.2 j i lj li q
      rw [ei, ej] at this
      exact fun x hx y hy => dj_symm (this y hy x hx)
  · obtain ⟨w, hw, hqw⟩ := List.mem_flatten.mp hq
    obtain ⟨k, hk⟩ := List.getElem?_of_mem hw
    obtain ⟨i, -, hi⟩ := seg_at hs hk
    exact hA q (List.mem_flatten.mpr ⟨w, List.mem_of_getElem? hi, hqw⟩)
/-- behind a call: the caller's other cells wr, and the callee's world, w1 for wc -/
theorem seg_join {A : Nat → Prop} {D : va_G} {cl : List vw_C} {wr wc w1 : va_W} {H H1 : Heap} (hP : va_P D cl (wr ++ wc) H) (hD : va_D A (wr ++ wc))
    (hk : ∀ q : Nat, q < H.size → ¬ va_A wc H.size q → H1[q]? = H[q]?) (hF : ∀ q, va_A wc H.size q → A q) (hP1 : va_P D cl w1 H1) (hD1 : va_D (va_A wc H.size) w1) : va_P D cl (wr ++ w1) H1 ∧ va_D A (wr ++ w1) := by
  have hPm := va_P.mem.mp hP
  obtain ⟨hp, hA⟩ := va_D.pw.mp hD
  obtain ⟨pr, pc, px⟩ := List.pairwise_append.mp hp
  obtain ⟨q1, q2⟩ := va_D.pw.mp hD1
  have out : ∀ x ∈ wr, x.1 < H.size ∧ ¬ va_A wc H.size x.1 := by
    intro x hx
    have hl : x.1 < H.size := (hPm x (List.mem_append_left _ hx)).lt
    refine ⟨hl, fun h => ?_⟩
    rcases h with ⟨k, e, h⟩ | h
    · exact px x hx (x.1, e) (List.mem_of_getElem? h) rfl
    · omega
  refine ⟨va_P.app (va_P.mem.mpr (fun x hx => ?_)) hP1, va_D.pw.mpr ⟨List.pairwise_append.mpr ⟨pr, q1, fun x hx y hy e => ?_⟩, fun x hx => ?_⟩⟩
  · exact (hPm x (List.mem_append_left _ hx)).kept (hk x.1 (out x hx).1 (out x hx).2)
  · exact (out x hx).2 (by rw [e]; exact q2 y hy)
  · rcases List.mem_append.mp hx with h | h
    · exact hA x (List.mem_append_left _ h)
    · exact hF _ (q2 x h)
theorem seg_free {A : Nat → Prop} {wc : va_W} {H0 H : Heap} {locs : List Loc} (hD : va_D A wc) (hS : va_S A H0 H locs) (hA : ∀ q, H0.size ≤ q → A q) : ∀ q, va_A wc H.size q → A q := by
  intro q h
  rcases h with ⟨k, e, h⟩ | h
  · exact hD.2 k (q, e) h
  · exact hA q (Nat.le_trans hS.1 h)
section BASE
variable {p : Program} {l : Launch} {e : Env} {R : Room} {s : State} {m : MethodId} {args : Array Value} {below : List Frame} {meth : Method} {c : Code} {H : Heap} {locs : List Loc} {cells slots : Nat} {Q : State → Prop}
variable {pc : Nat} {ls : Array Slot} {st0 : List Value} {A : Nat → Prop} {H0 : Heap}
variable {y : MethodName} {bytes cc : ByteArray} {maxL nL n index mc ms : Nat} {ret : Option FieldType} {ws ws' : List Cond} {rm : Room} {Ts : List Cond} {own C : String} {b : Addr}
variable {D : va_G} {tys : List (ClassId × FieldType)}
theorem pc_run {a : Array Value} {rest : List Value} {r : Value} (hr : va_Run p l e R s m args below meth c H locs cells slots 0 0 (F0 m pc ls st0) rest (pc_Q r a) (fun _ => False)) (kk : W p l e R s m args below meth c H locs cells slots Q (F0 m (pc + 3) ls (r :: rest))) : W p l e R s m args below meth c H locs cells slots Q (F0 m pc ls st0) := by
  intro T hT X
  obtain ⟨v, st₀, t, T', L, h0, X', hL, e1, e2, ⟨hv, hh⟩, st⟩ := hr T hT X
  cases hv
  have hLn : L = [] := by
    cases L with
    | nil => rfl
    | cons q L => exact (hL q List.mem_cons_self).elim
  subst hLn
  rw [List.append_nil] at X'
  obtain ⟨t2, a1, b1⟩ := kk T' (by rw [e1, hh, h0]) X'
  exact ⟨t2, st t2 a1, b1⟩
theorem pv_run {a : Array Value} {rest : List Value} (hr : va_Run p l e R s m args below meth c H locs cells slots 0 0 (F0 m pc ls st0) rest (pv_Q a) (fun _ => False)) (kk : W p l e R s m args below meth c H locs cells slots Q (F0 m (pc + 3) ls rest)) : W p l e R s m args below meth c H locs cells slots Q (F0 m pc ls st0) := by
  intro T hT X
  obtain ⟨v, st₀, t, T', L, h0, X', hL, e1, e2, ⟨hv, hh⟩, st⟩ := hr T hT X
  cases hv
  have hLn : L = [] := by
    cases L with
    | nil => rfl
    | cons q L => exact (hL q List.mem_cons_self).elim
  subst hLn
  rw [List.append_nil] at X'
  obtain ⟨t2, a1, b1⟩ := kk T' (by rw [e1, hh, h0]) X'
  exact ⟨t2, st t2 a1, b1⟩
theorem wc_run {a : Array Value} {rest : List Value} {r : Option Value} {w1 : va_W} {A1 : Nat → Prop} {free : Addr → Prop} (hr : va_Run p l e R s m args below meth c H locs cells slots mc ms (F0 m pc ls st0) rest (wc_Q r D A1 w1 a) free) (hS : va_S A H0 H locs) (hA : ∀ q, A1 q → A q) (hf : ∀ q, free q → A q)
    (kk : ∀ (H1 : Heap) (locs1 : List Loc), va_P D vwCl w1 H1 → va_D A1 w1 → H.size ≤ H1.size → (∀ q : Nat, q < H.size → ¬ A1 q → H1[q]? = H[q]?) → va_S A H0 H1 locs1 → W p l e R s m args below meth c H1 locs1 (cells + mc) (slots + ms) Q (F0 m (pc + 3) ls (r.toList ++ rest))) : W p l e R s m args below meth c H locs cells slots Q (F0 m pc ls st0) := by
  intro T hT X
  obtain ⟨v, st₀, t, T', L, h0, X', hL, e1, e2, ⟨hv, hP1, hD1, hz, hk⟩, st⟩ := hr T hT X
  cases hv
  rw [h0] at hz hk
  obtain ⟨t2, a1, b1⟩ := kk T'.heap (locs ++ L) (by rw [e1]; exact hP1) hD1 (by rw [e1]; exact hz) (fun q h1 h2 => by rw [e1]; exact hk q h1 h2)
    ⟨Nat.le_trans hS.1 (by rw [e1]; exact hz), fun q h1 h2 => by rw [e1, hk q (Nat.lt_of_lt_of_le h1 hS.1) (fun z => h2 (hA q z))]; exact hS.2.1 q h1 h2, fun q hq => by
      rcases List.mem_append.mp hq with h | h
      · exact hS.2.2 q h
      · exact hf _ (hL q h)⟩ T' rfl X'
  exact ⟨t2, st t2 a1, b1⟩
theorem pcV (As rest : List Value) (is : List Nat) (q0 ci : Nat) {q : vw_C} {fs : List Value} {w0 ws0 : va_W} {r : Value} (hc0 : cf p m c cc nL s args Ts own)
    (hM : PCon l y ws rm D tys (.ref b :: As) w0 r) (hT : GoodIn Ts (wsV own index C y ws)) (hw : ws = Cond.code y bytes maxL ret :: ws') (hd : y.cls = C ∧ y.cls ≠ "java/lang/invoke/MethodHandle" ∧ y.cls ≠ "java/lang/invoke/VarHandle" ∧ (parseMethodDescriptor y.desc).map (fun d => d.parameters.length) = some n)
    (hrm : rm.cells = 0 ∧ rm.slots = 0) (hm : cells ≤ R.cells ∧ slots ≤ R.slots) (hR : rm.frames + 1 ≤ R.frames ∧ 8 + (maxL + 11) + rm.locals ≤ R.locals) (hK : KK D tys s) (hP : va_P D vwCl ws0 H) (hs : is.filterMap (fun i => ws0[i]?) = w0) (he : ws0[q0]? = some (b, .inr (ci, fs))) (hc : vwCl[ci]? = some q) (hq : q.1 = C)
    (hn : As.length = n) (hl : ls.size = nL) (hst : st0 = As.reverse ++ .ref b :: rest) (hW : (rest.map fun v => v.category).sum ≤ 8) (hdg : decode cc pc = .ok (.invokevirtual index, 3))
    (kk : W p l e R s m args below meth c H locs cells slots Q (F0 m (pc + 3) ls (r :: rest))) : W p l e R s m args below meth c H locs cells slots Q (F0 m pc ls st0) := by
  subst hq
  obtain ⟨hx, hb, hml, hown, hts⟩ := hc0
  have hPc := hP.sub is hs
  exact pc_run (rest := rest) (va_runV (As := As) (rest := rest) ⟨hx, hb, hml, hown, hts⟩ hM (cwV n hts hT hw hrm.1 hrm.2 hd hR) ⟨pc_blind, va_recv hK.1 hP hc he, fun U hU hW => ⟨rfl, by rw [hU]; exact hPc, hK.warm hW⟩⟩ rfl hn hl hst (lv_room hW) hdg hm) kk
theorem pvV (As rest : List Value) (is : List Nat) (q0 ci : Nat) {q : vw_C} {fs : List Value} {w0 ws0 : va_W} (hc0 : cf p m c cc nL s args Ts own)
    (hM : PConV l y ws rm D tys (.ref b :: As) w0) (hT : GoodIn Ts (wsV own index C y ws)) (hw : ws = Cond.code y bytes maxL ret :: ws') (hd : y.cls = C ∧ y.cls ≠ "java/lang/invoke/MethodHandle" ∧ y.cls ≠ "java/lang/invoke/VarHandle" ∧ (parseMethodDescriptor y.desc).map (fun d => d.parameters.length) = some n)
    (hrm : rm.cells = 0 ∧ rm.slots = 0) (hm : cells ≤ R.cells ∧ slots ≤ R.slots) (hR : rm.frames + 1 ≤ R.frames ∧ 8 + (maxL + 11) + rm.locals ≤ R.locals) (hK : KK D tys s) (hP : va_P D vwCl ws0 H) (hs : is.filterMap (fun i => ws0[i]?) = w0) (he : ws0[q0]? = some (b, .inr (ci, fs))) (hc : vwCl[ci]? = some q) (hq : q.1 = C)
    (hn : As.length = n) (hl : ls.size = nL) (hst : st0 = As.reverse ++ .ref b :: rest) (hW : (rest.map fun v => v.category).sum ≤ 8) (hdg : decode cc pc = .ok (.invokevirtual index, 3))
    (kk : W p l e R s m args below meth c H locs cells slots Q (F0 m (pc + 3) ls rest)) : W p l e R s m args below meth c H locs cells slots Q (F0 m pc ls st0) := by
  subst hq
  obtain ⟨hx, hb, hml, hown, hts⟩ := hc0
  have hPc := hP.sub is hs
  exact pv_run (rest := rest) (va_runV (As := As) (rest := rest) ⟨hx, hb, hml, hown, hts⟩ hM (cwV n hts hT hw hrm.1 hrm.2 hd hR) ⟨pc_blind, va_recv hK.1 hP hc he, fun U hU hW => ⟨rfl, by rw [hU]; exact hPc, hK.warm hW⟩⟩ rfl hn hl hst (lv_room hW) hdg hm) kk
theorem pcS (As rest : List Value) (is : List Nat) {w0 ws0 : va_W} {r : Value} (hc0 : cf p m c cc nL s args Ts own)
    (hM : PCon l y ws rm D tys As w0 r) (hT : GoodIn Ts (va_wsS own index y ws)) (hw : ws = Cond.code y bytes maxL ret :: ws') (hd : y.cls ≠ "java/lang/invoke/MethodHandle" ∧ y.cls ≠ "java/lang/invoke/VarHandle" ∧ (parseMethodDescriptor y.desc).map (fun d => d.parameters.length) = some n)
    (hrm : rm.cells = 0 ∧ rm.slots = 0) (hm : cells ≤ R.cells ∧ slots ≤ R.slots) (hR : rm.frames + 1 ≤ R.frames ∧ 8 + (maxL + 11) + rm.locals ≤ R.locals) (hK : KK D tys s) (hP : va_P D vwCl ws0 H) (hs : is.filterMap (fun i => ws0[i]?) = w0)
    (hn : As.length = n) (hl : ls.size = nL) (hst : st0 = As.reverse ++ rest) (hW : (rest.map fun v => v.category).sum ≤ 8) (hdg : decode cc pc = .ok (.invokestatic index, 3))
    (kk : W p l e R s m args below meth c H locs cells slots Q (F0 m (pc + 3) ls (r :: rest))) : W p l e R s m args below meth c H locs cells slots Q (F0 m pc ls st0) := by
  obtain ⟨hx, hb, hml, hown, hts⟩ := hc0
  have hPc := hP.sub is hs
  exact pc_run (rest := rest) (va_runS (As := As) (rest := rest) ⟨hx, hb, hml, hown, hts⟩ hM (va_cwS n hts hT hw hrm.1 hrm.2 hd hR) ⟨pc_blind, fun U hU hW => ⟨rfl, by rw [hU]; exact hPc, hK.warm hW⟩⟩ rfl hn hl hst (lv_room hW) hdg hm) kk
theorem pvS (As rest : List Value) (is : List Nat) {w0 ws0 : va_W} (hc0 : cf p m c cc nL s args Ts own)
    (hM : PConV l y ws rm D tys As w0) (hT : GoodIn Ts (va_wsS own index y ws)) (hw : ws = Cond.code y bytes maxL ret :: ws') (hd : y.cls ≠ "java/lang/invoke/MethodHandle" ∧ y.cls ≠ "java/lang/invoke/VarHandle" ∧ (parseMethodDescriptor y.desc).map (fun d => d.parameters.length) = some n)
    (hrm : rm.cells = 0 ∧ rm.slots = 0) (hm : cells ≤ R.cells ∧ slots ≤ R.slots) (hR : rm.frames + 1 ≤ R.frames ∧ 8 + (maxL + 11) + rm.locals ≤ R.locals) (hK : KK D tys s) (hP : va_P D vwCl ws0 H) (hs : is.filterMap (fun i => ws0[i]?) = w0)
    (hn : As.length = n) (hl : ls.size = nL) (hst : st0 = As.reverse ++ rest) (hW : (rest.map fun v => v.category).sum ≤ 8) (hdg : decode cc pc = .ok (.invokestatic index, 3))
    (kk : W p l e R s m args below meth c H locs cells slots Q (F0 m (pc + 3) ls rest)) : W p l e R s m args below meth c H locs cells slots Q (F0 m pc ls st0) := by
  obtain ⟨hx, hb, hml, hown, hts⟩ := hc0
  have hPc := hP.sub is hs
  exact pv_run (rest := rest) (va_runS (As := As) (rest := rest) ⟨hx, hb, hml, hown, hts⟩ hM (va_cwS n hts hT hw hrm.1 hrm.2 hd hR) ⟨pc_blind, fun U hU hW => ⟨rfl, by rw [hU]; exact hPc, hK.warm hW⟩⟩ rfl hn hl hst (lv_room hW) hdg hm) kk
theorem pcSN (As rest : List Value) (is : List Nat) {host : String} {w0 ws0 : va_W} {r : Value} (hc0 : cf p m c cc nL s args Ts own)
    (hM : PCon l y ws rm D tys As w0 r) (hT : GoodIn Ts ws) (hw : ws = Cond.code y bytes maxL ret :: ws') (hini : Cond.initialized y.cls ∈ Ts) (hst9 : Cond.static y ∈ Ts) (hlk : Cond.methodLinkNest own index y host ∈ NWl) (hd : y.cls ≠ "java/lang/invoke/MethodHandle" ∧ y.cls ≠ "java/lang/invoke/VarHandle" ∧ (parseMethodDescriptor y.desc).map (fun d => d.parameters.length) = some n)
    (hrm : rm.cells = 0 ∧ rm.slots = 0) (hm : cells ≤ R.cells ∧ slots ≤ R.slots) (hR : rm.frames + 1 ≤ R.frames ∧ 8 + (maxL + 11) + rm.locals ≤ R.locals) (hK : KK D tys s) (hP : va_P D vwCl ws0 H) (hs : is.filterMap (fun i => ws0[i]?) = w0)
    (hn : As.length = n) (hl : ls.size = nL) (hst : st0 = As.reverse ++ rest) (hW : (rest.map fun v => v.category).sum ≤ 8) (hdg : decode cc pc = .ok (.invokestatic index, 3))
    (kk : W p l e R s m args below meth c H locs cells slots Q (F0 m (pc + 3) ls (r :: rest))) : W p l e R s m args below meth c H locs cells slots Q (F0 m pc ls st0) := by
  obtain ⟨hx, hb, hml, hown, hts⟩ := hc0
  have hPc := hP.sub is hs
  exact pc_run (rest := rest) (va_runSN (As := As) (rest := rest) ⟨hx, hb, hml, hown, hts⟩ hM ⟨va_cnB n hts hT hw hrm.1 hrm.2 (hK.2.1 _ hlk) (hts _ hini) hd hR, hts _ hst9, trivial⟩ ⟨pc_blind, fun U hU hW => ⟨rfl, by rw [hU]; exact hPc, hK.warm hW⟩⟩ rfl hn hl hst (lv_room hW) hdg hm) kk
/-- a writing method called by an object: sg the caller's parts, of them the callee's (segC, by the places isC) and the rest (segR, isR); segF: the parts behind, put in order (isF) -/
theorem wcV (As rest : List Value) (q0 ci : Nat) {q : vw_C} {fs : List Value} (sg segC segR segD segF : List va_W) (isC isR isF : List Nat) {w0 w1 : va_W} {r : Option Value} (hc0 : cf p m c cc nL s args Ts own)
    (hM : WCon l y ws rm D tys (.ref b :: As) w0 r w1 mc ms) (hT : GoodIn Ts (wsV own index C y ws)) (hw : ws = Cond.code y bytes maxL ret :: ws') (hd : y.cls = C ∧ y.cls ≠ "java/lang/invoke/MethodHandle" ∧ y.cls ≠ "java/lang/invoke/VarHandle" ∧ (parseMethodDescriptor y.desc).map (fun d => d.parameters.length) = some n)
    (hrm : rm.cells = mc ∧ rm.slots = ms) (hR : rm.frames + 1 ≤ R.frames ∧ 8 + (maxL + 11) + rm.locals ≤ R.locals) (hm : cells + mc ≤ R.cells ∧ slots + ms ≤ R.slots) (hK : KK D tys s) (hP : va_P D vwCl sg.flatten H) (hD : va_D A sg.flatten) (hS : va_S A H0 H locs) (hA : ∀ q, H0.size ≤ q → A q)
    (hC : isC.map (fun i => sg[i]?) = segC.map some) (hRr : isR.map (fun i => sg[i]?) = segR.map some) (hnd : va_nd (isR ++ isC) = true) (h0 : segC.flatten = w0) (h1 : segD.flatten = w1) (hF : isF.map (fun i => (segR ++ segD)[i]?) = segF.map some) (hnF : va_nd isF = true)
    (he : sg.flatten[q0]? = some (b, .inr (ci, fs))) (hc : vwCl[ci]? = some q) (hq : q.1 = C)
    (hn : As.length = n) (hl : ls.size = nL) (hst : st0 = As.reverse ++ .ref b :: rest) (hW : (rest.map fun v => v.category).sum ≤ 8) (hdg : decode cc pc = .ok (.invokevirtual index, 3))
    (kk : ∀ (H1 : Heap) (locs1 : List Loc), va_P D vwCl segF.flatten H1 → va_D A segF.flatten → va_S A H0 H1 locs1 → W p l e R s m args below meth c H1 locs1 (cells + mc) (slots + ms) Q (F0 m (pc + 3) ls (r.toList ++ rest))) : W p l e R s m args below meth c H locs cells slots Q (F0 m pc ls st0) := by
  subst hq h0 h1
  obtain ⟨hx, hb, hml, hown, hts⟩ := hc0
  have hs2 : (isR ++ isC).map (fun i => sg[i]?) = (segR ++ segC).map some := by rw [List.map_append, List.map_append, hC, hRr]
  have hP2 := seg_P hP (isR ++ isC) hs2
  have hD2 := seg_D hD (isR ++ isC) hnd hs2
  rw [List.flatten_append] at hP2 hD2
  have hPc : va_P D vwCl segC.flatten H := va_P.mem.mpr fun x hx => va_P.mem.mp hP2 x (List.mem_append_right _ hx)
  have hDc : va_D A segC.flatten := va_D.pw.mpr ⟨(List.pairwise_append.mp (va_D.pw.mp hD2).1).2.1, fun x hx => (va_D.pw.mp hD2).2 x (List.mem_append_right _ hx)⟩
  have hFc := seg_free hDc hS hA
  refine wc_run (rest := rest) (va_runV (As := As) (rest := rest) ⟨hx, hb, hml, hown, hts⟩ (hM H.size) (cwV n hts hT hw hrm.1 hrm.2 hd hR) ⟨wc_blind, va_recv hK.1 hP hc he, fun U hU hW => ⟨rfl, by rw [hU], by rw [hU]; exact hPc, hK.warm hW, hDc.weaken (fun _ _ _ _ => trivial)⟩⟩ rfl hn hl hst (lv_room hW) hdg hm) hS hFc hFc ?_
  intro H1 locs1 hP1 hD1 hz hk hS1
  obtain ⟨hP3, hD3⟩ := seg_join hP2 hD2 hk hFc hP1 hD1
  rw [← List.flatten_append] at hP3 hD3
  exact kk H1 locs1 (seg_P hP3 isF hF) (seg_D hD3 isF hnF hF) hS1
theorem wcS (As rest : List Value) (sg segC segR segD segF : List va_W) (isC isR isF : List Nat) {w0 w1 : va_W} {r : Option Value} (hc0 : cf p m c cc nL s args Ts own)
    (hM : WCon l y ws rm D tys As w0 r w1 mc ms) (hT : GoodIn Ts (va_wsS own index y ws)) (hw : ws = Cond.code y bytes maxL ret :: ws') (hd : y.cls ≠ "java/lang/invoke/MethodHandle" ∧ y.cls ≠ "java/lang/invoke/VarHandle" ∧ (parseMethodDescriptor y.desc).map (fun d => d.parameters.length) = some n)
    (hrm : rm.cells = mc ∧ rm.slots = ms) (hR : rm.frames + 1 ≤ R.frames ∧ 8 + (maxL + 11) + rm.locals ≤ R.locals) (hm : cells + mc ≤ R.cells ∧ slots + ms ≤ R.slots) (hK : KK D tys s) (hP : va_P D vwCl sg.flatten H) (hD : va_D A sg.flatten) (hS : va_S A H0 H locs) (hA : ∀ q, H0.size ≤ q → A q)
    (hC : isC.map (fun i => sg[i]?) = segC.map some) (hRr : isR.map (fun i => sg[i]?) = segR.map some) (hnd : va_nd (isR ++ isC) = true) (h0 : segC.flatten = w0) (h1 : segD.flatten = w1) (hF : isF.map (fun i => (segR ++ segD)[i]?) = segF.map some) (hnF : va_nd isF = true)
    (hn : As.length = n) (hl : ls.size = nL) (hst : st0 = As.reverse ++ rest) (hW : (rest.map fun v => v.category).sum ≤ 8) (hdg : decode cc pc = .ok (.invokestatic index, 3))
    (kk : ∀ (H1 : Heap) (locs1 : List Loc), va_P D vwCl segF.flatten H1 → va_D A segF.flatten → va_S A H0 H1 locs1 → W p l e R s m args below meth c H1 locs1 (cells + mc) (slots + ms) Q (F0 m (pc + 3) ls (r.toList ++ rest))) : W p l e R s m args below meth c H locs cells slots Q (F0 m pc ls st0) := by
  subst h0 h1
  obtain ⟨hx, hb, hml, hown, hts⟩ := hc0
  have hs2 : (isR ++ isC).map (fun i => sg[i]?) = (segR ++ segC).map some := by rw [List.map_append, List.map_append, hC, hRr]
  have hP2 := seg_P hP (isR ++ isC) hs2
  have hD2 := seg_D hD (isR ++ isC) hnd hs2
  rw [List.flatten_append] at hP2 hD2
  have hPc : va_P D vwCl segC.flatten H := va_P.mem.mpr fun x hx => va_P.mem.mp hP2 x (List.mem_append_right _ hx)
  have hDc : va_D A segC.flatten := va_D.pw.mpr ⟨(List.pairwise_append.mp (va_D.pw.mp hD2).1).2.1, fun x hx => (va_D.pw.mp hD2).2 x (List.mem_append_right _ hx)⟩
  have hFc := seg_free hDc hS hA
  refine wc_run (rest := rest) (va_runS (As := As) (rest := rest) ⟨hx, hb, hml, hown, hts⟩ (hM H.size) (va_cwS n hts hT hw hrm.1 hrm.2 hd hR) ⟨wc_blind, fun U hU hW => ⟨rfl, by rw [hU], by rw [hU]; exact hPc, hK.warm hW, hDc.weaken (fun _ _ _ _ => trivial)⟩⟩ rfl hn hl hst (lv_room hW) hdg hm) hS hFc hFc ?_
  intro H1 locs1 hP1 hD1 hz hk hS1
  obtain ⟨hP3, hD3⟩ := seg_join hP2 hD2 hk hFc hP1 hD1
  rw [← List.flatten_append] at hP3 hD3
  exact kk H1 locs1 (seg_P hP3 isF hF) (seg_D hD3 isF hnF hF) hS1
end BASE
/-! rows with what a function's text says -/
theorem bnd_x {α β : Type} {a x : α} {k : α → Option β} {o : β} (e : x = a) (h : bnd a k = some o) : k x = some o := by
  subst e
  exact h
theorem vin {i : Int32} {n : Nat} (h : ¬ (i < 0 ∨ n ≤ i.toNatClampNeg)) : vp_in i n := h
def iabs (x : Int32) : Int32 := if 0 ≤ x then x else 0 - x
def imax (x y : Int32) : Int32 := if x < y then y else x
def imin (x y : Int32) : Int32 := if y < x then y else x
theorem nar01 {v : Int32} (h : v = 0 ∨ v = 1) : narrow .boolean (.int v) = .int v := by
  rcases h with rfl | rfl <;> rfl
section BASE2
variable {p : Program} {l : Launch} {e : Env} {R : Room} {s : State} {m : MethodId} {args : Array Value} {below : List Frame} {meth : Method} {c : Code} {H : Heap} {locs : List Loc} {cells slots : Nat} {Q : State → Prop}
variable {cc : ByteArray} {pc : Nat} {ls : Array Slot} {rest : List Value} {D : va_G} {A : Nat → Prop} {a : Nat} {tys : List (ClassId × FieldType)} {ws : va_W} {H0 : Heap}
theorem r_iald (hexec : p.tables.exec = Jvm.exec) (hb : c.code = cc) (hK : KK D tys s) (hP : va_P D vwCl ws H) (q0 t0 : Nat) {cA : ClassId} {n : Nat} {f : Nat → Int32} (ha : ws[q0]? = some (a, .inl (cA, n, .inl f))) (ht : tys[t0]? = some (cA, .int)) {i : Int32} {k : Nat} (hk : i.toNatClampNeg = k) (hin : vp_in i n) (hdg : decode cc pc = .ok (.iaload, 1))
    (kk : W p l e R s m args below meth c H locs cells slots Q (F0 m (pc + 1) ls (.int (f k) :: rest))) : W p l e R s m args below meth c H locs cells slots Q (F0 m pc ls (.int i :: .ref a :: rest)) := by
  subst hk
  exact va_iald hexec hb hK.1 hP q0 t0 ha ht hin hdg kk
theorem r_cald (hexec : p.tables.exec = Jvm.exec) (hb : c.code = cc) (hK : KK D tys s) (hP : va_P D vwCl ws H) (q0 t0 : Nat) {cA : ClassId} {n : Nat} {f : Nat → Int32} (ha : ws[q0]? = some (a, .inl (cA, n, .inl f))) (ht : tys[t0]? = some (cA, .char)) {i : Int32} {k : Nat} (hk : i.toNatClampNeg = k) (hin : vp_in i n) (hdg : decode cc pc = .ok (.caload, 1))
    (kk : W p l e R s m args below meth c H locs cells slots Q (F0 m (pc + 1) ls (.int (f k) :: rest))) : W p l e R s m args below meth c H locs cells slots Q (F0 m pc ls (.int i :: .ref a :: rest)) := by
  subst hk
  exact va_cald hexec hb hK.1 hP q0 t0 ha ht hin hdg kk
theorem r_zald (hexec : p.tables.exec = Jvm.exec) (hb : c.code = cc) (hK : KK D tys s) (hP : va_P D vwCl ws H) (q0 t0 : Nat) {cA : ClassId} {n : Nat} {f : Nat → Int32} (ha : ws[q0]? = some (a, .inl (cA, n, .inl f))) (ht : tys[t0]? = some (cA, .boolean)) {i : Int32} {k : Nat} (hk : i.toNatClampNeg = k) (hin : vp_in i n) (hdg : decode cc pc = .ok (.baload, 1))
    (kk : W p l e R s m args below meth c H locs cells slots Q (F0 m (pc + 1) ls (.int (f k) :: rest))) : W p l e R s m args below meth c H locs cells slots Q (F0 m pc ls (.int i :: .ref a :: rest)) := by
  subst hk
  exact va_zald hexec hb hK.1 hP q0 t0 ha ht hin hdg kk
theorem r_lald (hexec : p.tables.exec = Jvm.exec) (hb : c.code = cc) (hK : KK D tys s) (hP : va_P D vwCl ws H) (q0 t0 : Nat) {cA : ClassId} {n : Nat} {f : Nat → Int64} (ha : ws[q0]? = some (a, .inl (cA, n, .inr (.inl f)))) (ht : tys[t0]? = some (cA, .long)) {i : Int32} {k : Nat} (hk : i.toNatClampNeg = k) (hin : vp_in i n) (hdg : decode cc pc = .ok (.laload, 1))
    (kk : W p l e R s m args below meth c H locs cells slots Q (F0 m (pc + 1) ls (.long (f k) :: rest))) : W p l e R s m args below meth c H locs cells slots Q (F0 m pc ls (.int i :: .ref a :: rest)) := by
  subst hk
  exact va_lald hexec hb hK.1 hP q0 t0 ha ht hin hdg kk
theorem r_iast (hexec : p.tables.exec = Jvm.exec) (hb : c.code = cc) (hK : KK D tys s) (hP : va_P D vwCl ws H) (hD : va_D A ws) (hS : va_S A H0 H locs) (q0 t0 : Nat) {cA : ClassId} {n : Nat} {f : Nat → Int32} (ha : ws[q0]? = some (a, .inl (cA, n, .inl f))) (ht : tys[t0]? = some (cA, .int)) {i : Int32} {x : Int32} {k : Nat} (hk : i.toNatClampNeg = k) (hin : vp_in i n) (hdg : decode cc pc = .ok (.iastore, 1))
    (kk : ∀ (H1 : Heap) (locs1 : List Loc), va_P D vwCl (ws.set q0 (a, .inl (cA, n, .inl (upd f k x)))) H1 → va_D A (ws.set q0 (a, .inl (cA, n, .inl (upd f k x)))) → va_S A H0 H1 locs1 → W p l e R s m args below meth c H1 locs1 cells slots Q (F0 m (pc + 1) ls rest)) : W p l e R s m args below meth c H locs cells slots Q (F0 m pc ls (.int x :: .int i :: .ref a :: rest)) := by
  subst hk
  exact va_iast hexec hb hK.1 hP hD hS q0 t0 ha ht hin hdg kk
theorem r_cast (hexec : p.tables.exec = Jvm.exec) (hb : c.code = cc) (hK : KK D tys s) (hP : va_P D vwCl ws H) (hD : va_D A ws) (hS : va_S A H0 H locs) (q0 t0 : Nat) {cA : ClassId} {n : Nat} {f : Nat → Int32} (ha : ws[q0]? = some (a, .inl (cA, n, .inl f))) (ht : tys[t0]? = some (cA, .char)) {i : Int32} {x : Int32} {k : Nat} (hk : i.toNatClampNeg = k) (hin : vp_in i n) (hdg : decode cc pc = .ok (.castore, 1))
    (kk : ∀ (H1 : Heap) (locs1 : List Loc), va_P D vwCl (ws.set q0 (a, .inl (cA, n, .inl (upd f k (vp_nar .char x))))) H1 → va_D A (ws.set q0 (a, .inl (cA, n, .inl (upd f k (vp_nar .char x))))) → va_S A H0 H1 locs1 → W p l e R s m args below meth c H1 locs1 cells slots Q (F0 m (pc + 1) ls rest)) : W p l e R s m args below meth c H locs cells slots Q (F0 m pc ls (.int x :: .int i :: .ref a :: rest)) := by
  subst hk
  exact va_cast hexec hb hK.1 hP hD hS q0 t0 ha ht hin hdg kk
theorem r_zast (hexec : p.tables.exec = Jvm.exec) (hb : c.code = cc) (hK : KK D tys s) (hP : va_P D vwCl ws H) (hD : va_D A ws) (hS : va_S A H0 H locs) (q0 t0 : Nat) {cA : ClassId} {n : Nat} {f : Nat → Int32} (ha : ws[q0]? = some (a, .inl (cA, n, .inl f))) (ht : tys[t0]? = some (cA, .boolean)) {i : Int32} {x : Int32} {k : Nat} (hk : i.toNatClampNeg = k) (hin : vp_in i n) (hdg : decode cc pc = .ok (.bastore, 1))
    (kk : ∀ (H1 : Heap) (locs1 : List Loc), va_P D vwCl (ws.set q0 (a, .inl (cA, n, .inl (upd f k (vp_nar .boolean x))))) H1 → va_D A (ws.set q0 (a, .inl (cA, n, .inl (upd f k (vp_nar .boolean x))))) → va_S A H0 H1 locs1 → W p l e R s m args below meth c H1 locs1 cells slots Q (F0 m (pc + 1) ls rest)) : W p l e R s m args below meth c H locs cells slots Q (F0 m pc ls (.int x :: .int i :: .ref a :: rest)) := by
  subst hk
  exact va_zast hexec hb hK.1 hP hD hS q0 t0 ha ht hin hdg kk
theorem r_last (hexec : p.tables.exec = Jvm.exec) (hb : c.code = cc) (hK : KK D tys s) (hP : va_P D vwCl ws H) (hD : va_D A ws) (hS : va_S A H0 H locs) (q0 t0 : Nat) {cA : ClassId} {n : Nat} {f : Nat → Int64} (ha : ws[q0]? = some (a, .inl (cA, n, .inr (.inl f)))) (ht : tys[t0]? = some (cA, .long)) {i : Int32} {x : Int64} {k : Nat} (hk : i.toNatClampNeg = k) (hin : vp_in i n) (hdg : decode cc pc = .ok (.lastore, 1))
    (kk : ∀ (H1 : Heap) (locs1 : List Loc), va_P D vwCl (ws.set q0 (a, .inl (cA, n, .inr (.inl (vp_updL f k x))))) H1 → va_D A (ws.set q0 (a, .inl (cA, n, .inr (.inl (vp_updL f k x))))) → va_S A H0 H1 locs1 → W p l e R s m args below meth c H1 locs1 cells slots Q (F0 m (pc + 1) ls rest)) : W p l e R s m args below meth c H locs cells slots Q (F0 m pc ls (.long x :: .int i :: .ref a :: rest)) := by
  subst hk
  exact va_last hexec hb hK.1 hP hD hS q0 t0 ha ht hin hdg kk
theorem r_mabs {cc : ByteArray} (hexec : p.tables.exec = Jvm.exec) (hb : c.code = cc) (hml : c.maxLocals = ls.size) {own : String} {index : Nat} (hown : s.vm.findClass own = some m.cls) (hlink : (Cond.methodLink own index Lib.Math.abs.name).before args s = true) (hstat : (Cond.static Lib.Math.abs.name).before args s = true) (hini : (Cond.initialized "java/lang/Math").before args s = true) (hcode : (Cond.code Lib.Math.abs.name Lib.Math.abs.code 1 (some .int)).before args s = true)
    (hframes : 1 ≤ R.frames) (hlocals : (rest.map fun v => v.category).sum + 13 ≤ R.locals) (hcs : cells ≤ R.cells ∧ slots ≤ R.slots) {x : Int32} (hdg : decode cc pc = .ok (.invokestatic index, 3))
    (kk : W p l e R s m args below meth c H locs cells slots Q (F0 m (pc + 3) ls (.int (iabs x) :: rest))) : W p l e R s m args below meth c H locs cells slots Q (F0 m pc ls (.int x :: rest)) := va_mabs hexec hb hml hown hlink hstat hini hcode hframes hlocals hcs.1 hcs.2 hdg kk
theorem r_mmax {cc : ByteArray} (hexec : p.tables.exec = Jvm.exec) (hb : c.code = cc) (hml : c.maxLocals = ls.size) {own : String} {index : Nat} (hown : s.vm.findClass own = some m.cls) (hlink : (Cond.methodLink own index Lib.Math.max.name).before args s = true) (hstat : (Cond.static Lib.Math.max.name).before args s = true) (hini : (Cond.initialized "java/lang/Math").before args s = true) (hcode : (Cond.code Lib.Math.max.name Lib.Math.max.code 2 (some .int)).before args s = true)
    (hframes : 1 ≤ R.frames) (hlocals : (rest.map fun v => v.category).sum + 13 ≤ R.locals) (hcs : cells ≤ R.cells ∧ slots ≤ R.slots) {x y : Int32} (hdg : decode cc pc = .ok (.invokestatic index, 3))
    (kk : W p l e R s m args below meth c H locs cells slots Q (F0 m (pc + 3) ls (.int (imax x y) :: rest))) : W p l e R s m args below meth c H locs cells slots Q (F0 m pc ls (.int y :: .int x :: rest)) := va_mmax hexec hb hml hown hlink hstat hini hcode hframes hlocals hcs.1 hcs.2 hdg kk
theorem r_mmin {cc : ByteArray} (hexec : p.tables.exec = Jvm.exec) (hb : c.code = cc) (hml : c.maxLocals = ls.size) {own : String} {index : Nat} (hown : s.vm.findClass own = some m.cls) (hlink : (Cond.methodLink own index Lib.Math.min.name).before args s = true) (hstat : (Cond.static Lib.Math.min.name).before args s = true) (hini : (Cond.initialized "java/lang/Math").before args s = true) (hcode : (Cond.code Lib.Math.min.name Lib.Math.min.code 2 (some .int)).before args s = true)
    (hframes : 1 ≤ R.frames) (hlocals : (rest.map fun v => v.category).sum + 13 ≤ R.locals) (hcs : cells ≤ R.cells ∧ slots ≤ R.slots) {x y : Int32} (hdg : decode cc pc = .ok (.invokestatic index, 3))
    (kk : W p l e R s m args below meth c H locs cells slots Q (F0 m (pc + 3) ls (.int (imin x y) :: rest))) : W p l e R s m args below meth c H locs cells slots Q (F0 m pc ls (.int y :: .int x :: rest)) := va_mmin hexec hb hml hown hlink hstat hini hcode hframes hlocals hcs.1 hcs.2 hdg kk
end BASE2
def rl20 {A0 A1 A2 A3 A4 A5 A6 A7 A8 A9 A10 A11 A12 A13 A14 A15 A16 A17 A18 A19 ρ : Type} (body : A0 → A1 → A2 → A3 → A4 → A5 → A6 → A7 → A8 → A9 → A10 → A11 → A12 → A13 → A14 → A15 → A16 → A17 → A18 → A19 → (A0 → A1 → A2 → A3 → A4 → A5 → A6 → A7 → A8 → A9 → A10 → A11 → A12 → A13 → A14 → A15 → A16 → A17 → A18 → A19 → Option ρ) → Option ρ) : Nat → A0 → A1 → A2 → A3 → A4 → A5 → A6 → A7 → A8 → A9 → A10 → A11 → A12 → A13 → A14 → A15 → A16 → A17 → A18 → A19 → Option ρ
  | 0, _, _, _, _, _, _, _, _, _, _, _, _, _, _, _, _, _, _, _, _ => none
  | n + 1, a0, a1, a2, a3, a4, a5, a6, a7, a8, a9, a10, a11, a12, a13, a14, a15, a16, a17, a18, a19 => body a0 a1 a2 a3 a4 a5 a6 a7 a8 a9 a10 a11 a12 a13 a14 a15 a16 a17 a18 a19 (rl20 body n)

