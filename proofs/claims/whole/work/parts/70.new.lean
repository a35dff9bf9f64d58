/-! objects are made: contracts of constructors, whose new cells are somewhere -/
def ncB (sz : Nat) (D : va_G) (tys : List (ClassId × FieldType)) (w0 : va_W) (U : State) : Prop := wc_B sz D tys w0 U ∧ va_AO "TaughtRemotes$Street" U
def ncQ (D : va_G) (A : Nat → Prop) (F : va_W → Prop) : Array Value → State → Outcome → State → Prop := fun _ st o t => o = .returned none ∧ ∃ w1, F w1 ∧ va_P D vwCl w1 t.heap ∧ va_D A w1 ∧ va_F A st t
def NCon (l : Launch) (y : MethodName) (ws : List Cond) (rm : Room) (D : va_G) (tys : List (ClassId × FieldType)) (av : List Value) (w0 : va_W) (F : va_W → Prop) (mc ms : Nat) : Prop :=
  ∀ sz, Met l y ws rm (va_Pc av (ncB sz D tys w0)) (ncQ D (va_A w0 sz) F) mc ms (va_A w0 sz)
theorem nc_blind {D : va_G} {tys : List (ClassId × FieldType)} {av : List Value} {w0 : va_W} {sz : Nat} : FrameBlind (va_Pc av (ncB sz D tys w0)) := fun a U g mk q => ⟨q.1, (wc_blind a U g mk ⟨q.1, q.2.1⟩).2, va_AO.moved (u := U) (U := U.calling g mk _) (Vm.Alike.refl U.vm) q.2.2⟩
theorem nc_V {l : Launch} {y : MethodName} {own : String} {cc : ByteArray} {maxL : Nat} {ws ws' : List Cond} {rm : Room} {D : va_G} {tys : List (ClassId × FieldType)} {av : List Value} {w0 : va_W} {F : va_W → Prop} {mc ms : Nat}
    (hy : plainName y.cls = true) (ho : y.cls = own) (hnm : y.name = "<init>") (hw : ws = Cond.code y cc maxL none :: ws') (hlen : (lg_sl av).length ≤ maxL)
    (body : ∀ (p : Program) (e : Env) (s : State) (m : MethodId) (args : Array Value) (below : List Frame) (meth : Method) (c : Code) (ls : Array Slot) (A : Nat → Prop) (Q : State → Prop), p.tables.exec = Jvm.exec → c.code = cc → (∀ w ∈ ws, w.before args s = true) → s.vm.findClass own = some m.cls → cf p m c cc maxL s args ws own → meth.name = "<init>" → c.maxLocals = maxL → va_AO "TaughtRemotes$Street" s → va_P D vwCl w0 s.heap → KK D tys s → va_D A w0 → (∀ q, s.heap.size ≤ q → A q) → va_S A s.heap s.heap [] → lv_has ls maxL (lv_args 0 av) →
      (∀ (pc : Nat) (ls : Array Slot) (H : Heap) (locs : List Loc) (cells slots : Nat) (w1 : va_W), decode cc pc = .ok (.return_, 1) → cells ≤ mc → slots ≤ ms → F w1 → va_P D vwCl w1 H → va_D A w1 → va_S A s.heap H locs → W p l e rm s m args below meth c H locs cells slots Q (F0 m pc ls [])) →
      W p l e rm s m args below meth c s.heap [] 0 0 Q (F0 m 0 ls [])) : NCon l y ws rm D tys av w0 F mc ms := by
  subst ho
  intro sz
  refine Met.ofW (cc := cc) (maxL := maxL) (ret := none) hy hw ?_
  intro p e s m args below meth c s₁ B hml hv
  obtain ⟨rfl, ⟨hsz, hP, hK, hD⟩, hAO⟩ := hv
  subst hsz
  rw [lg_entry_eq]
  exact body p e s m _ below meth c _ _ _ B.exec B.bytes (atoms_spec (ws := ws) B.pre) (findClass_of_methodNamed B.named) ⟨B.exec, B.bytes, hml, findClass_of_methodNamed B.named, atoms_spec (ws := ws) B.pre⟩ ((name_of_methodNamed B.named B.method).1.trans hnm) hml hAO hP hK hD.self (fun q h => Or.inr h) va_S.rf (lv_entry av hlen)
    (fun pc ls H locs cells slots w1 hd h1 h2 hF hP1 hD1 hS1 => W.widen h1 h2 (W.vret B.exec B.bytes B.returns (fun t ht _ => ⟨rfl, w1, hF, by rw [ht]; exact hP1, hD1, hS1.F ht⟩) hS1.2.2 hd B.notSynchronized))
theorem va_RA_inj {U : State} {a b : ClassId} {ty : FieldType} (h : va_RA U a ty) (g : va_RA U b ty) : a = b := by
  cases ty with
  | object C =>
    obtain ⟨k1, c1, h1, h2, h3, h4⟩ := h
    obtain ⟨k2, c2, g1, g2, g3, g4⟩ := g
    exact Option.some.inj (h4.symm.trans g4)
  | _ => exact Option.some.inj ((show U.vm.findClass _ = some a from h).symm.trans g)
theorem ar_ext {cA : ClassId} {n : Nat} {f g : Nat → Option Nat} (h : ∀ j, j < n → f j = g j) : vp_cell cA (n, .inr (.inr (.inr (.inr f)))) = vp_cell cA (n, .inr (.inr (.inr (.inr g)))) := by
  rw [vp_cell_q, vp_cell_q]
  unfold arrV
  congr 1
  congr 1
  funext j
  rw [h j.val j.isLt]
theorem ar_int {cA : ClassId} {n : Nat} : vp_cell cA (n, .inl (fun _ => 0)) = arrV cA n (fun _ => defaultValue .int) := rfl
section NEW
variable {p : Program} {l : Launch} {e : Env} {R : Room} {s : State} {m : MethodId} {args : Array Value} {below : List Frame} {meth : Method} {c : Code} {H : Heap} {locs : List Loc} {cells slots : Nat} {Q : State → Prop}
variable {pc : Nat} {ls : Array Slot} {st0 : List Value} {A : Nat → Prop} {H0 : Heap}
variable {y : MethodName} {bytes cc : ByteArray} {maxL nL n index mc ms : Nat} {ret : Option FieldType} {ws ws' : List Cond} {rm : Room} {Ts : List Cond} {own C : String} {b : Addr}
variable {D : va_G} {tys : List (ClassId × FieldType)}
theorem nc_run {a : Array Value} {rest : List Value} {F : va_W → Prop} {A1 : Nat → Prop} {free : Addr → Prop} (hr : va_Run p l e R s m args below meth c H locs cells slots mc ms (F0 m pc ls st0) rest (ncQ D A1 F a) free) (hS : va_S A H0 H locs) (hA : ∀ q, A1 q → A q) (hf : ∀ q, free q → A q)
    (kk : ∀ (H1 : Heap) (locs1 : List Loc) (w1 : va_W), F w1 → va_P D vwCl w1 H1 → va_D A1 w1 → H.size ≤ H1.size → (∀ q : Nat, q < H.size → ¬ A1 q → H1[q]? = H[q]?) → va_S A H0 H1 locs1 → W p l e R s m args below meth c H1 locs1 (cells + mc) (slots + ms) Q (F0 m (pc + 3) ls rest)) : W p l e R s m args below meth c H locs cells slots Q (F0 m pc ls st0) := by
  intro T hT X
  obtain ⟨v, st₀, t, T', L, h0, X', hL, e1, e2, ⟨hv, w1, hF1, hP1, hD1, hz, hk⟩, st⟩ := hr T hT X
  cases hv
  rw [h0] at hz hk
  obtain ⟨t2, a1, b1⟩ := kk T'.heap (locs ++ L) w1 hF1 (by rw [e1]; exact hP1) hD1 (by rw [e1]; exact hz) (fun q h1 h2 => by rw [e1]; exact hk q h1 h2)
    ⟨Nat.le_trans hS.1 (by rw [e1]; exact hz), fun q h1 h2 => by rw [e1, hk q (Nat.lt_of_lt_of_le h1 hS.1) (fun z => h2 (hA q z))]; exact hS.2.1 q h1 h2, fun q hq => by
      rcases List.mem_append.mp hq with h | h
      · exact hS.2.2 q h
      · exact hf _ (hL q h)⟩ T' rfl X'
  exact ⟨t2, st t2 a1, b1⟩
theorem nc_go {wr wc : va_W} {F : va_W → Prop} {rest : List Value} (hP : va_P D vwCl (wr ++ wc) H) (hD : va_D A (wr ++ wc)) (hS : va_S A H0 H locs) (hA : ∀ q, H0.size ≤ q → A q)
    (hr : va_P D vwCl wc H → va_D A wc → va_Run p l e R s m args below meth c H locs cells slots mc ms (F0 m pc ls st0) rest (ncQ D (va_A wc H.size) F #[.ref b]) (va_A wc H.size))
    (kk : ∀ (H1 : Heap) (locs1 : List Loc) (w1 : va_W), F w1 → va_P D vwCl (wr ++ w1) H1 → va_D A (wr ++ w1) → va_S A H0 H1 locs1 → W p l e R s m args below meth c H1 locs1 (cells + mc) (slots + ms) Q (F0 m (pc + 3) ls rest)) : W p l e R s m args below meth c H locs cells slots Q (F0 m pc ls st0) := by
  have hPc : va_P D vwCl wc H := va_P.mem.mpr fun x hx => va_P.mem.mp hP x (List.mem_append_right _ hx)
  have hDc : va_D A wc := va_D.pw.mpr ⟨(List.pairwise_append.mp (va_D.pw.mp hD).1).2.1, fun x hx => (va_D.pw.mp hD).2 x (List.mem_append_right _ hx)⟩
  have hFc := seg_free hDc hS hA
  refine nc_run (hr hPc hDc) hS hFc hFc ?_
  intro H1 locs1 w1 hF1 hP1 hD1 hz hk hS1
  obtain ⟨hP3, hD3⟩ := seg_join hP hD hk hFc hP1 hD1
  exact kk H1 locs1 w1 hF1 hP3 hD3 hS1
theorem ncI (rest : List Value) {wr wc : va_W} {F : va_W → Prop} (hc0 : cf p m c cc nL s args Ts own) (hM : NCon l y ws rm D tys [.ref b] wc F mc ms) (cw : CallB R s args own index y bytes maxL none ws rm mc ms 0 ∧ y.name = "<init>" ∧ (Cond.instanceMethod y).before args s = true) (hm : cells + mc ≤ R.cells ∧ slots + ms ≤ R.slots) (hAO : va_AO "TaughtRemotes$Street" s) (hK : KK D tys s)
    (hP : va_P D vwCl (wr ++ wc) H) (hD : va_D A (wr ++ wc)) (hS : va_S A H0 H locs) (hA : ∀ q, H0.size ≤ q → A q) (hl : ls.size = nL) (hW : (rest.map fun v => v.category).sum ≤ 8) (hdg : decode cc pc = .ok (.invokespecial index, 3))
    (kk : ∀ (H1 : Heap) (locs1 : List Loc) (w1 : va_W), F w1 → va_P D vwCl (wr ++ w1) H1 → va_D A (wr ++ w1) → va_S A H0 H1 locs1 → W p l e R s m args below meth c H1 locs1 (cells + mc) (slots + ms) Q (F0 m (pc + 3) ls rest)) : W p l e R s m args below meth c H locs cells slots Q (F0 m pc ls (.ref b :: rest)) := by
  obtain ⟨hx, hb, hml, hown, hts⟩ := hc0
  exact nc_go (b := b) hP hD hS hA (fun hPc hDc => va_runI (As := []) (rest := rest) ⟨hx, hb, hml, hown, hts⟩ (hM H.size) cw ⟨nc_blind, fun U hU hW => ⟨rfl, ⟨by rw [hU], by rw [hU]; exact hPc, hK.warm hW, hDc.weaken (fun _ _ _ _ => trivial)⟩, va_AO.moved hW.alike hAO⟩⟩ rfl rfl hl rfl (lv_room hW) hdg hm) kk
theorem ncIN (rest : List Value) {host : String} {wr wc : va_W} {F : va_W → Prop} (hc0 : cf p m c cc nL s args Ts own) (hM : NCon l y ws rm D tys [.ref b] wc F mc ms) (hG : GoodIn Ts ws) (hw : ws = Cond.code y bytes maxL none :: ws') (hrm : rm.cells = mc ∧ rm.slots = ms) (hlk : Cond.methodLinkNest own index y host ∈ NWl) (hini : (Cond.initialized y.cls).before args s = true) (hd : y.cls ≠ "java/lang/invoke/MethodHandle" ∧ y.cls ≠ "java/lang/invoke/VarHandle" ∧ (parseMethodDescriptor y.desc).map (fun d => d.parameters.length) = some 0) (hR : rm.frames + 1 ≤ R.frames ∧ 8 + (maxL + 11) + rm.locals ≤ R.locals) (hnm : y.name = "<init>") (hinst : (Cond.instanceMethod y).before args s = true) (hm : cells + mc ≤ R.cells ∧ slots + ms ≤ R.slots) (hAO : va_AO "TaughtRemotes$Street" s) (hK : KK D tys s)
    (hP : va_P D vwCl (wr ++ wc) H) (hD : va_D A (wr ++ wc)) (hS : va_S A H0 H locs) (hA : ∀ q, H0.size ≤ q → A q) (hl : ls.size = nL) (hW : (rest.map fun v => v.category).sum ≤ 8) (hdg : decode cc pc = .ok (.invokespecial index, 3))
    (kk : ∀ (H1 : Heap) (locs1 : List Loc) (w1 : va_W), F w1 → va_P D vwCl (wr ++ w1) H1 → va_D A (wr ++ w1) → va_S A H0 H1 locs1 → W p l e R s m args below meth c H1 locs1 (cells + mc) (slots + ms) Q (F0 m (pc + 3) ls rest)) : W p l e R s m args below meth c H locs cells slots Q (F0 m pc ls (.ref b :: rest)) := by
  obtain ⟨hx, hb, hml, hown, hts⟩ := hc0
  exact nc_go (b := b) hP hD hS hA (fun hPc hDc => va_runIN (As := []) (rest := rest) ⟨hx, hb, hml, hown, hts⟩ (hM H.size) ⟨va_cnB 0 hts hG hw hrm.1 hrm.2 (hK.2.1 _ hlk) hini hd hR, hnm, hinst⟩ ⟨nc_blind, fun U hU hW => ⟨rfl, ⟨by rw [hU], by rw [hU]; exact hPc, hK.warm hW, hDc.weaken (fun _ _ _ _ => trivial)⟩, va_AO.moved hW.alike hAO⟩⟩ rfl rfl hl rfl (lv_room hW) hdg hm) kk
theorem r_newa (t0 : Nat) {ws0 : va_W} {rest : List Value} (hexec : p.tables.exec = Jvm.exec) (hb : c.code = cc) {atype : ArrayType} (harr : (Cond.arrayClass (newarray.typeOf atype)).before args s = true) {ty : FieldType} (hty : newarray.typeOf atype = ty) (hK : KK D tys s) {cT : ClassId} (ht : tys[t0]? = some (cT, ty)) (hP : va_P D vwCl ws0 H) (hD : va_D A ws0) (hS : va_S A H0 H locs) (hA : ∀ q, H0.size ≤ q → A q)
    {n : Int32} {N' : Nat} {a0 : vp_A} (ha : ∀ cA : ClassId, vp_cell cA a0 = arrV cA N' (fun _ => defaultValue ty)) (hn : ¬ n < 0) (hN : n.toNatClampNeg = N') (hbytes : N' * componentBytes ty ≤ 536870912) (hcells : cells + 1 ≤ R.cells) (hslots : slots + N' ≤ R.slots) (hdg : decode cc pc = .ok (.newarray atype, 2))
    (kk : ∀ (q : Nat) (H1 : Heap), va_P D vwCl (ws0 ++ [(q, .inl (cT, a0))]) H1 → va_D A (ws0 ++ [(q, .inl (cT, a0))]) → va_S A H0 H1 locs →
      W p l e R s m args below meth c H1 locs (cells + 1) (slots + N') Q (F0 m (pc + 2) ls (.ref q :: rest))) : W p l e R s m args below meth c H locs cells slots Q (F0 m pc ls (.int n :: rest)) := by
  refine va_newa hexec hb harr hty hK.1 hP hD hS hA ha hn hN hbytes hcells hslots hdg (fun q cA H1 hK1 hP1 hD1 hS1 => ?_)
  have e1 := (hK1.2 tys.length (cA, ty) (by rw [List.getElem?_append_right (Nat.le_refl _), Nat.sub_self]; rfl)).2
  have e2 := (hK.1.2 t0 (cT, ty) ht).2
  obtain rfl : cA = cT := va_RA_inj e1 e2
  exact kk q H1 hP1 hD1 hS1
theorem r_newq (t0 : Nat) {ws0 : va_W} {rest : List Value} (hexec : p.tables.exec = Jvm.exec) (hb : c.code = cc) {index : Nat} (hown : s.vm.findClass own = some m.cls) (hclink : (Cond.classLink own index C).before args s = true) (hover : va_AO C s) (hK : KK D tys s) {cT : ClassId} (ht : tys[t0]? = some (cT, .object C)) (hP : va_P D vwCl ws0 H) (hD : va_D A ws0) (hS : va_S A H0 H locs) (hA : ∀ q, H0.size ≤ q → A q)
    {n : Int32} {N' : Nat} (hn : ¬ n < 0) (hN : n.toNatClampNeg = N') (hbytes : N' * 4 ≤ 536870912) (hcells : cells + 1 ≤ R.cells) (hslots : slots + N' ≤ R.slots) (hdg : decode cc pc = .ok (.anewarray index, 3))
    (kk : ∀ (q : Nat) (H1 : Heap), va_P D vwCl (ws0 ++ [(q, .inl (cT, N', .inr (.inr (.inr (.inr (fun _ => none))))))]) H1 → va_D A (ws0 ++ [(q, .inl (cT, N', .inr (.inr (.inr (.inr (fun _ => none))))))]) → va_S A H0 H1 locs →
      W p l e R s m args below meth c H1 locs (cells + 1) (slots + N') Q (F0 m (pc + 3) ls (.ref q :: rest))) : W p l e R s m args below meth c H locs cells slots Q (F0 m pc ls (.int n :: rest)) := by
  refine va_newq hexec hb hown hclink hover hK.1 hP hD hS hA hn hN hbytes hcells hslots hdg (fun q cA H1 hK1 hP1 hD1 hS1 => ?_)
  have e1 := (hK1.2 tys.length (cA, .object C) (by rw [List.getElem?_append_right (Nat.le_refl _), Nat.sub_self]; rfl)).2
  have e2 := (hK.1.2 t0 (cT, .object C) ht).2
  obtain rfl : cA = cT := va_RA_inj e1 e2
  exact kk q H1 hP1 hD1 hS1
end NEW

def Fdev (cI : ClassId) (t : Nat) (w : va_W) : Prop := ∃ a b c : Nat, w = [(t, .inr (0, [.ref a, .ref b, .ref c, .int 0, .int 0])), (a, .inl (cI, 6, .inl (fun _ => 0))), (b, .inl (cI, 6, .inl (fun _ => 0))), (c, .inl (cI, 6, .inl (fun _ => 0)))]
def rm_X0_init : Room := { frames := 1, cells := 3, slots := 18, locals := 60 }
set_option maxHeartbeats 4000000 in
set_option maxRecDepth 100000 in
theorem c_X0_init (l : Launch) (D : va_G) (cC cI cJ cZ cO : ClassId) (t : Nat) : NCon l yX0_init wsX0_init rm_X0_init D (tyA cC cI cJ cZ cO) [.ref t] [(t, .inr (0, [.null, .null, .null, .int 0, .int 0]))] (Fdev cI t) 3 18 := by
  have iX0 : ∀ w ∈ wsX00, w ∈ wsX0_init := (fun _ h => List.mem_cons_of_mem _ (List.mem_append_right _ h))
  refine nc_V (own := RX0) (cc := cX0_init) (maxL := 1) (by decide) rfl rfl rfl (Nat.le_of_ble_eq_true rfl) ?_
  intro p e s m args below meth c ls A Q hx hb hts hown hcf hin hml hAO hP hK hD hA hS hl hret
  have hl : lv_has ls 1 [(0, .ref t)] := hl
  refine lv_aload_n hx hb dX0_init_0 rfl (lv_at hl 0 rfl) ?_
  refine W.objInit hx hb hown (hts (.methodLink RX0 3 objectInit) (List.mem_of_getElem? (i := 1) rfl)) (hts (.instanceMethod objectInit) (List.mem_of_getElem? (i := 2) rfl)) (hts _ (List.mem_of_getElem? (i := 3) rfl)) rfl (by rw [hml]; exact hl.1) rfl dX0_init_1 (Nat.le_of_ble_eq_true rfl) (Nat.le_of_ble_eq_true rfl) ?_
  refine W.eq (g2 := F0 m 4 ls []) rfl ?_
  refine lv_aload_n hx hb dX0_init_4 rfl (lv_at hl 0 rfl) ?_
  refine lv_bipush (v := 6) hx hb dX0_init_5 (by decide) ?_
  refine r_newa (atype := .int) 1 (a0 := (6, .inl (fun _ => 0))) (N' := 6) hx hb (hts (.arrayClass .int) (List.mem_of_getElem? (i := 4) rfl)) rfl hK rfl hP hD hS hA (fun _ => rfl) (by decide) (by decide) (Nat.le_of_ble_eq_true rfl) (Nat.le_of_ble_eq_true rfl) (Nat.le_of_ble_eq_true rfl) dX0_init_7 (fun aq H (hP : va_P D vwCl [(t, .inr (0, [.null, .null, .null, .int 0, .int 0])), (aq, .inl (cI, 6, .inl (fun _ => 0)))] H) (hD : va_D A [(t, .inr (0, [.null, .null, .null, .int 0, .int 0])), (aq, .inl (cI, 6, .inl (fun _ => 0)))]) hS => ?_)
  refine va_putF (D := D) (ci := 0) (v := .ref aq) (C := RX0) (T := TX0) (N := 5) hx hb hts iX0 tyX0 tyX0_ok nmX0 hown hK.1 hP hD hS 0 rfl rfl 0 (by decide) (hts (.fieldLink RX0 9 "TaughtRemotes$Devices" "houses" "[I") (List.mem_of_getElem? (i := 5) rfl)) (fun _ h9 => h9) rfl hin rfl (by decide +kernel) rfl rfl (Nat.le_of_ble_eq_true rfl) dX0_init_9 (fun H locs (hP : va_P D vwCl [(t, .inr (0, [.ref aq, .null, .null, .int 0, .int 0])), (aq, .inl (cI, 6, .inl (fun _ => 0)))] H) (hD : va_D A [(t, .inr (0, [.ref aq, .null, .null, .int 0, .int 0])), (aq, .inl (cI, 6, .inl (fun _ => 0)))]) hS => ?_)
  refine lv_aload_n hx hb dX0_init_12 rfl (lv_at hl 0 rfl) ?_
  refine lv_bipush (v := 6) hx hb dX0_init_13 (by decide) ?_
  refine r_newa (atype := .int) 1 (a0 := (6, .inl (fun _ => 0))) (N' := 6) hx hb (hts (.arrayClass .int) (List.mem_of_getElem? (i := 4) rfl)) rfl hK rfl hP hD hS hA (fun _ => rfl) (by decide) (by decide) (Nat.le_of_ble_eq_true rfl) (Nat.le_of_ble_eq_true rfl) (Nat.le_of_ble_eq_true rfl) dX0_init_15 (fun bq H (hP : va_P D vwCl [(t, .inr (0, [.ref aq, .null, .null, .int 0, .int 0])), (aq, .inl (cI, 6, .inl (fun _ => 0))), (bq, .inl (cI, 6, .inl (fun _ => 0)))] H) (hD : va_D A [(t, .inr (0, [.ref aq, .null, .null, .int 0, .int 0])), (aq, .inl (cI, 6, .inl (fun _ => 0))), (bq, .inl (cI, 6, .inl (fun _ => 0)))]) hS => ?_)
  refine va_putF (D := D) (ci := 0) (v := .ref bq) (C := RX0) (T := TX0) (N := 5) hx hb hts iX0 tyX0 tyX0_ok nmX0 hown hK.1 hP hD hS 0 rfl rfl 1 (by decide) (hts (.fieldLink RX0 15 "TaughtRemotes$Devices" "codes" "[I") (List.mem_of_getElem? (i := 6) rfl)) (fun _ h9 => h9) rfl hin rfl (by decide +kernel) rfl rfl (Nat.le_of_ble_eq_true rfl) dX0_init_17 (fun H locs (hP : va_P D vwCl [(t, .inr (0, [.ref aq, .ref bq, .null, .int 0, .int 0])), (aq, .inl (cI, 6, .inl (fun _ => 0))), (bq, .inl (cI, 6, .inl (fun _ => 0)))] H) (hD : va_D A [(t, .inr (0, [.ref aq, .ref bq, .null, .int 0, .int 0])), (aq, .inl (cI, 6, .inl (fun _ => 0))), (bq, .inl (cI, 6, .inl (fun _ => 0)))]) hS => ?_)
  refine lv_aload_n hx hb dX0_init_20 rfl (lv_at hl 0 rfl) ?_
  refine lv_bipush (v := 6) hx hb dX0_init_21 (by decide) ?_
  refine r_newa (atype := .int) 1 (a0 := (6, .inl (fun _ => 0))) (N' := 6) hx hb (hts (.arrayClass .int) (List.mem_of_getElem? (i := 4) rfl)) rfl hK rfl hP hD hS hA (fun _ => rfl) (by decide) (by decide) (Nat.le_of_ble_eq_true rfl) (Nat.le_of_ble_eq_true rfl) (Nat.le_of_ble_eq_true rfl) dX0_init_23 (fun cq H (hP : va_P D vwCl [(t, .inr (0, [.ref aq, .ref bq, .null, .int 0, .int 0])), (aq, .inl (cI, 6, .inl (fun _ => 0))), (bq, .inl (cI, 6, .inl (fun _ => 0))), (cq, .inl (cI, 6, .inl (fun _ => 0)))] H) (hD : va_D A [(t, .inr (0, [.ref aq, .ref bq, .null, .int 0, .int 0])), (aq, .inl (cI, 6, .inl (fun _ => 0))), (bq, .inl (cI, 6, .inl (fun _ => 0))), (cq, .inl (cI, 6, .inl (fun _ => 0)))]) hS => ?_)
  refine va_putF (D := D) (ci := 0) (v := .ref cq) (C := RX0) (T := TX0) (N := 5) hx hb hts iX0 tyX0 tyX0_ok nmX0 hown hK.1 hP hD hS 0 rfl rfl 2 (by decide) (hts (.fieldLink RX0 18 "TaughtRemotes$Devices" "tolerances" "[I") (List.mem_of_getElem? (i := 7) rfl)) (fun _ h9 => h9) rfl hin rfl (by decide +kernel) rfl rfl (Nat.le_of_ble_eq_true rfl) dX0_init_25 (fun H locs (hP : va_P D vwCl [(t, .inr (0, [.ref aq, .ref bq, .ref cq, .int 0, .int 0])), (aq, .inl (cI, 6, .inl (fun _ => 0))), (bq, .inl (cI, 6, .inl (fun _ => 0))), (cq, .inl (cI, 6, .inl (fun _ => 0)))] H) (hD : va_D A [(t, .inr (0, [.ref aq, .ref bq, .ref cq, .int 0, .int 0])), (aq, .inl (cI, 6, .inl (fun _ => 0))), (bq, .inl (cI, 6, .inl (fun _ => 0))), (cq, .inl (cI, 6, .inl (fun _ => 0)))]) hS => ?_)
  exact hret _ _ _ _ _ _ _ dX0_init_28 (Nat.le_of_ble_eq_true rfl) (Nat.le_of_ble_eq_true rfl) ⟨aq, bq, cq, rfl⟩ hP hD hS

def Frec (cI : ClassId) (t : Nat) (w : va_W) : Prop := ∃ a b c d e : Nat, w = [(t, .inr (3, [.ref a, .ref b, .ref c, .ref d, .ref e, .int 0])), (a, .inl (cI, 40, .inl (fun _ => 0))), (b, .inl (cI, 40, .inl (fun _ => 0))), (c, .inl (cI, 40, .inl (fun _ => 0))), (d, .inl (cI, 40, .inl (fun _ => 0))), (e, .inl (cI, 40, .inl (fun _ => 0)))]
def rm_X4_init : Room := { frames := 1, cells := 5, slots := 200, locals := 60 }
set_option maxHeartbeats 4000000 in
set_option maxRecDepth 100000 in
theorem c_X4_init (l : Launch) (D : va_G) (cC cI cJ cZ cO : ClassId) (t : Nat) : NCon l yX4_init wsX4_init rm_X4_init D (tyA cC cI cJ cZ cO) [.ref t] [(t, .inr (3, [.null, .null, .null, .null, .null, .int 0]))] (Frec cI t) 5 200 := by
  have iX4 : ∀ w ∈ wsX40, w ∈ wsX4_init := (fun _ h => List.mem_cons_of_mem _ (List.mem_append_right _ h))
  refine nc_V (own := RX4) (cc := cX4_init) (maxL := 1) (by decide) rfl rfl rfl (Nat.le_of_ble_eq_true rfl) ?_
  intro p e s m args below meth c ls A Q hx hb hts hown hcf hin hml hAO hP hK hD hA hS hl hret
  have hl : lv_has ls 1 [(0, .ref t)] := hl
  refine lv_aload_n hx hb dX4_init_0 rfl (lv_at hl 0 rfl) ?_
  refine W.objInit hx hb hown (hts (.methodLink RX4 3 objectInit) (List.mem_of_getElem? (i := 1) rfl)) (hts (.instanceMethod objectInit) (List.mem_of_getElem? (i := 2) rfl)) (hts _ (List.mem_of_getElem? (i := 3) rfl)) rfl (by rw [hml]; exact hl.1) rfl dX4_init_1 (Nat.le_of_ble_eq_true rfl) (Nat.le_of_ble_eq_true rfl) ?_
  refine W.eq (g2 := F0 m 4 ls []) rfl ?_
  refine lv_aload_n hx hb dX4_init_4 rfl (lv_at hl 0 rfl) ?_
  refine lv_bipush (v := 40) hx hb dX4_init_5 (by decide) ?_
  refine r_newa (atype := .int) 1 (a0 := (40, .inl (fun _ => 0))) (N' := 40) hx hb (hts (.arrayClass .int) (List.mem_of_getElem? (i := 4) rfl)) rfl hK rfl hP hD hS hA (fun _ => rfl) (by decide) (by decide) (Nat.le_of_ble_eq_true rfl) (Nat.le_of_ble_eq_true rfl) (Nat.le_of_ble_eq_true rfl) dX4_init_7 (fun aq H (hP : va_P D vwCl [(t, .inr (3, [.null, .null, .null, .null, .null, .int 0])), (aq, .inl (cI, 40, .inl (fun _ => 0)))] H) (hD : va_D A [(t, .inr (3, [.null, .null, .null, .null, .null, .int 0])), (aq, .inl (cI, 40, .inl (fun _ => 0)))]) hS => ?_)
  refine va_putF (D := D) (ci := 3) (v := .ref aq) (C := RX4) (T := TX4) (N := 6) hx hb hts iX4 tyX4 tyX4_ok nmX4 hown hK.1 hP hD hS 0 rfl rfl 0 (by decide) (hts (.fieldLink RX4 9 "TaughtRemotes$Records" "codes" "[I") (List.mem_of_getElem? (i := 5) rfl)) (fun _ h9 => h9) rfl hin rfl (by decide +kernel) rfl rfl (Nat.le_of_ble_eq_true rfl) dX4_init_9 (fun H locs (hP : va_P D vwCl [(t, .inr (3, [.ref aq, .null, .null, .null, .null, .int 0])), (aq, .inl (cI, 40, .inl (fun _ => 0)))] H) (hD : va_D A [(t, .inr (3, [.ref aq, .null, .null, .null, .null, .int 0])), (aq, .inl (cI, 40, .inl (fun _ => 0)))]) hS => ?_)
  refine lv_aload_n hx hb dX4_init_12 rfl (lv_at hl 0 rfl) ?_
  refine lv_bipush (v := 40) hx hb dX4_init_13 (by decide) ?_
  refine r_newa (atype := .int) 1 (a0 := (40, .inl (fun _ => 0))) (N' := 40) hx hb (hts (.arrayClass .int) (List.mem_of_getElem? (i := 4) rfl)) rfl hK rfl hP hD hS hA (fun _ => rfl) (by decide) (by decide) (Nat.le_of_ble_eq_true rfl) (Nat.le_of_ble_eq_true rfl) (Nat.le_of_ble_eq_true rfl) dX4_init_15 (fun bq H (hP : va_P D vwCl [(t, .inr (3, [.ref aq, .null, .null, .null, .null, .int 0])), (aq, .inl (cI, 40, .inl (fun _ => 0))), (bq, .inl (cI, 40, .inl (fun _ => 0)))] H) (hD : va_D A [(t, .inr (3, [.ref aq, .null, .null, .null, .null, .int 0])), (aq, .inl (cI, 40, .inl (fun _ => 0))), (bq, .inl (cI, 40, .inl (fun _ => 0)))]) hS => ?_)
  refine va_putF (D := D) (ci := 3) (v := .ref bq) (C := RX4) (T := TX4) (N := 6) hx hb hts iX4 tyX4 tyX4_ok nmX4 hown hK.1 hP hD hS 0 rfl rfl 1 (by decide) (hts (.fieldLink RX4 15 "TaughtRemotes$Records" "houses" "[I") (List.mem_of_getElem? (i := 6) rfl)) (fun _ h9 => h9) rfl hin rfl (by decide +kernel) rfl rfl (Nat.le_of_ble_eq_true rfl) dX4_init_17 (fun H locs (hP : va_P D vwCl [(t, .inr (3, [.ref aq, .ref bq, .null, .null, .null, .int 0])), (aq, .inl (cI, 40, .inl (fun _ => 0))), (bq, .inl (cI, 40, .inl (fun _ => 0)))] H) (hD : va_D A [(t, .inr (3, [.ref aq, .ref bq, .null, .null, .null, .int 0])), (aq, .inl (cI, 40, .inl (fun _ => 0))), (bq, .inl (cI, 40, .inl (fun _ => 0)))]) hS => ?_)
  refine lv_aload_n hx hb dX4_init_20 rfl (lv_at hl 0 rfl) ?_
  refine lv_bipush (v := 40) hx hb dX4_init_21 (by decide) ?_
  refine r_newa (atype := .int) 1 (a0 := (40, .inl (fun _ => 0))) (N' := 40) hx hb (hts (.arrayClass .int) (List.mem_of_getElem? (i := 4) rfl)) rfl hK rfl hP hD hS hA (fun _ => rfl) (by decide) (by decide) (Nat.le_of_ble_eq_true rfl) (Nat.le_of_ble_eq_true rfl) (Nat.le_of_ble_eq_true rfl) dX4_init_23 (fun cq H (hP : va_P D vwCl [(t, .inr (3, [.ref aq, .ref bq, .null, .null, .null, .int 0])), (aq, .inl (cI, 40, .inl (fun _ => 0))), (bq, .inl (cI, 40, .inl (fun _ => 0))), (cq, .inl (cI, 40, .inl (fun _ => 0)))] H) (hD : va_D A [(t, .inr (3, [.ref aq, .ref bq, .null, .null, .null, .int 0])), (aq, .inl (cI, 40, .inl (fun _ => 0))), (bq, .inl (cI, 40, .inl (fun _ => 0))), (cq, .inl (cI, 40, .inl (fun _ => 0)))]) hS => ?_)
  refine va_putF (D := D) (ci := 3) (v := .ref cq) (C := RX4) (T := TX4) (N := 6) hx hb hts iX4 tyX4 tyX4_ok nmX4 hown hK.1 hP hD hS 0 rfl rfl 2 (by decide) (hts (.fieldLink RX4 18 "TaughtRemotes$Records" "keys" "[I") (List.mem_of_getElem? (i := 7) rfl)) (fun _ h9 => h9) rfl hin rfl (by decide +kernel) rfl rfl (Nat.le_of_ble_eq_true rfl) dX4_init_25 (fun H locs (hP : va_P D vwCl [(t, .inr (3, [.ref aq, .ref bq, .ref cq, .null, .null, .int 0])), (aq, .inl (cI, 40, .inl (fun _ => 0))), (bq, .inl (cI, 40, .inl (fun _ => 0))), (cq, .inl (cI, 40, .inl (fun _ => 0)))] H) (hD : va_D A [(t, .inr (3, [.ref aq, .ref bq, .ref cq, .null, .null, .int 0])), (aq, .inl (cI, 40, .inl (fun _ => 0))), (bq, .inl (cI, 40, .inl (fun _ => 0))), (cq, .inl (cI, 40, .inl (fun _ => 0)))]) hS => ?_)
  refine lv_aload_n hx hb dX4_init_28 rfl (lv_at hl 0 rfl) ?_
  refine lv_bipush (v := 40) hx hb dX4_init_29 (by decide) ?_
  refine r_newa (atype := .int) 1 (a0 := (40, .inl (fun _ => 0))) (N' := 40) hx hb (hts (.arrayClass .int) (List.mem_of_getElem? (i := 4) rfl)) rfl hK rfl hP hD hS hA (fun _ => rfl) (by decide) (by decide) (Nat.le_of_ble_eq_true rfl) (Nat.le_of_ble_eq_true rfl) (Nat.le_of_ble_eq_true rfl) dX4_init_31 (fun dq H (hP : va_P D vwCl [(t, .inr (3, [.ref aq, .ref bq, .ref cq, .null, .null, .int 0])), (aq, .inl (cI, 40, .inl (fun _ => 0))), (bq, .inl (cI, 40, .inl (fun _ => 0))), (cq, .inl (cI, 40, .inl (fun _ => 0))), (dq, .inl (cI, 40, .inl (fun _ => 0)))] H) (hD : va_D A [(t, .inr (3, [.ref aq, .ref bq, .ref cq, .null, .null, .int 0])), (aq, .inl (cI, 40, .inl (fun _ => 0))), (bq, .inl (cI, 40, .inl (fun _ => 0))), (cq, .inl (cI, 40, .inl (fun _ => 0))), (dq, .inl (cI, 40, .inl (fun _ => 0)))]) hS => ?_)
  refine va_putF (D := D) (ci := 3) (v := .ref dq) (C := RX4) (T := TX4) (N := 6) hx hb hts iX4 tyX4 tyX4_ok nmX4 hown hK.1 hP hD hS 0 rfl rfl 3 (by decide) (hts (.fieldLink RX4 21 "TaughtRemotes$Records" "parents" "[I") (List.mem_of_getElem? (i := 8) rfl)) (fun _ h9 => h9) rfl hin rfl (by decide +kernel) rfl rfl (Nat.le_of_ble_eq_true rfl) dX4_init_33 (fun H locs (hP : va_P D vwCl [(t, .inr (3, [.ref aq, .ref bq, .ref cq, .ref dq, .null, .int 0])), (aq, .inl (cI, 40, .inl (fun _ => 0))), (bq, .inl (cI, 40, .inl (fun _ => 0))), (cq, .inl (cI, 40, .inl (fun _ => 0))), (dq, .inl (cI, 40, .inl (fun _ => 0)))] H) (hD : va_D A [(t, .inr (3, [.ref aq, .ref bq, .ref cq, .ref dq, .null, .int 0])), (aq, .inl (cI, 40, .inl (fun _ => 0))), (bq, .inl (cI, 40, .inl (fun _ => 0))), (cq, .inl (cI, 40, .inl (fun _ => 0))), (dq, .inl (cI, 40, .inl (fun _ => 0)))]) hS => ?_)
  refine lv_aload_n hx hb dX4_init_36 rfl (lv_at hl 0 rfl) ?_
  refine lv_bipush (v := 40) hx hb dX4_init_37 (by decide) ?_
  refine r_newa (atype := .int) 1 (a0 := (40, .inl (fun _ => 0))) (N' := 40) hx hb (hts (.arrayClass .int) (List.mem_of_getElem? (i := 4) rfl)) rfl hK rfl hP hD hS hA (fun _ => rfl) (by decide) (by decide) (Nat.le_of_ble_eq_true rfl) (Nat.le_of_ble_eq_true rfl) (Nat.le_of_ble_eq_true rfl) dX4_init_39 (fun eq H (hP : va_P D vwCl [(t, .inr (3, [.ref aq, .ref bq, .ref cq, .ref dq, .null, .int 0])), (aq, .inl (cI, 40, .inl (fun _ => 0))), (bq, .inl (cI, 40, .inl (fun _ => 0))), (cq, .inl (cI, 40, .inl (fun _ => 0))), (dq, .inl (cI, 40, .inl (fun _ => 0))), (eq, .inl (cI, 40, .inl (fun _ => 0)))] H) (hD : va_D A [(t, .inr (3, [.ref aq, .ref bq, .ref cq, .ref dq, .null, .int 0])), (aq, .inl (cI, 40, .inl (fun _ => 0))), (bq, .inl (cI, 40, .inl (fun _ => 0))), (cq, .inl (cI, 40, .inl (fun _ => 0))), (dq, .inl (cI, 40, .inl (fun _ => 0))), (eq, .inl (cI, 40, .inl (fun _ => 0)))]) hS => ?_)
  refine va_putF (D := D) (ci := 3) (v := .ref eq) (C := RX4) (T := TX4) (N := 6) hx hb hts iX4 tyX4 tyX4_ok nmX4 hown hK.1 hP hD hS 0 rfl rfl 4 (by decide) (hts (.fieldLink RX4 24 "TaughtRemotes$Records" "wrongBits" "[I") (List.mem_of_getElem? (i := 9) rfl)) (fun _ h9 => h9) rfl hin rfl (by decide +kernel) rfl rfl (Nat.le_of_ble_eq_true rfl) dX4_init_41 (fun H locs (hP : va_P D vwCl [(t, .inr (3, [.ref aq, .ref bq, .ref cq, .ref dq, .ref eq, .int 0])), (aq, .inl (cI, 40, .inl (fun _ => 0))), (bq, .inl (cI, 40, .inl (fun _ => 0))), (cq, .inl (cI, 40, .inl (fun _ => 0))), (dq, .inl (cI, 40, .inl (fun _ => 0))), (eq, .inl (cI, 40, .inl (fun _ => 0)))] H) (hD : va_D A [(t, .inr (3, [.ref aq, .ref bq, .ref cq, .ref dq, .ref eq, .int 0])), (aq, .inl (cI, 40, .inl (fun _ => 0))), (bq, .inl (cI, 40, .inl (fun _ => 0))), (cq, .inl (cI, 40, .inl (fun _ => 0))), (dq, .inl (cI, 40, .inl (fun _ => 0))), (eq, .inl (cI, 40, .inl (fun _ => 0)))]) hS => ?_)
  exact hret _ _ _ _ _ _ _ dX4_init_44 (Nat.le_of_ble_eq_true rfl) (Nat.le_of_ble_eq_true rfl) ⟨aq, bq, cq, dq, eq, rfl⟩ hP hD hS

def Ftxt (cC : ClassId) (t : Nat) (w : va_W) : Prop := ∃ a : Nat, w = [(t, .inr (6, [.ref a, .int 0])), (a, .inl (cC, 120, .inl (fun _ => 0)))]
def rm_X8_init : Room := { frames := 1, cells := 1, slots := 120, locals := 60 }
set_option maxHeartbeats 4000000 in
set_option maxRecDepth 100000 in
theorem c_X8_init (l : Launch) (D : va_G) (cC cI cJ cZ cO : ClassId) (t : Nat) : NCon l yX8_init wsX8_init rm_X8_init D (tyA cC cI cJ cZ cO) [.ref t] [(t, .inr (6, [.null, .int 0]))] (Ftxt cC t) 1 120 := by
  have iX8 : ∀ w ∈ wsX80, w ∈ wsX8_init := (fun _ h => List.mem_cons_of_mem _ (List.mem_append_right _ h))
  refine nc_V (own := RX8) (cc := cX8_init) (maxL := 1) (by decide) rfl rfl rfl (Nat.le_of_ble_eq_true rfl) ?_
  intro p e s m args below meth c ls A Q hx hb hts hown hcf hin hml hAO hP hK hD hA hS hl hret
  have hl : lv_has ls 1 [(0, .ref t)] := hl
  refine lv_aload_n hx hb dX8_init_0 rfl (lv_at hl 0 rfl) ?_
  refine W.objInit hx hb hown (hts (.methodLink RX8 3 objectInit) (List.mem_of_getElem? (i := 1) rfl)) (hts (.instanceMethod objectInit) (List.mem_of_getElem? (i := 2) rfl)) (hts _ (List.mem_of_getElem? (i := 3) rfl)) rfl (by rw [hml]; exact hl.1) rfl dX8_init_1 (Nat.le_of_ble_eq_true rfl) (Nat.le_of_ble_eq_true rfl) ?_
  refine W.eq (g2 := F0 m 4 ls []) rfl ?_
  refine lv_aload_n hx hb dX8_init_4 rfl (lv_at hl 0 rfl) ?_
  refine lv_bipush (v := 120) hx hb dX8_init_5 (by decide) ?_
  refine r_newa (atype := .char) 0 (a0 := (120, .inl (fun _ => 0))) (N' := 120) hx hb (hts (.arrayClass .char) (List.mem_of_getElem? (i := 4) rfl)) rfl hK rfl hP hD hS hA (fun _ => rfl) (by decide) (by decide) (Nat.le_of_ble_eq_true rfl) (Nat.le_of_ble_eq_true rfl) (Nat.le_of_ble_eq_true rfl) dX8_init_7 (fun aq H (hP : va_P D vwCl [(t, .inr (6, [.null, .int 0])), (aq, .inl (cC, 120, .inl (fun _ => 0)))] H) (hD : va_D A [(t, .inr (6, [.null, .int 0])), (aq, .inl (cC, 120, .inl (fun _ => 0)))]) hS => ?_)
  refine va_putF (D := D) (ci := 6) (v := .ref aq) (C := RX8) (T := TX8) (N := 2) hx hb hts iX8 tyX8 tyX8_ok nmX8 hown hK.1 hP hD hS 0 rfl rfl 0 (by decide) (hts (.fieldLink RX8 9 "TaughtRemotes$Text" "signs" "[C") (List.mem_of_getElem? (i := 5) rfl)) (fun _ h9 => h9) rfl hin rfl (by decide +kernel) rfl rfl (Nat.le_of_ble_eq_true rfl) dX8_init_9 (fun H locs (hP : va_P D vwCl [(t, .inr (6, [.ref aq, .int 0])), (aq, .inl (cC, 120, .inl (fun _ => 0)))] H) (hD : va_D A [(t, .inr (6, [.ref aq, .int 0])), (aq, .inl (cC, 120, .inl (fun _ => 0)))]) hS => ?_)
  exact hret _ _ _ _ _ _ _ dX8_init_12 (Nat.le_of_ble_eq_true rfl) (Nat.le_of_ble_eq_true rfl) ⟨aq, rfl⟩ hP hD hS

def Frdr (t : Nat) (w : va_W) : Prop := w = [(t, .inr (2, [.int 0]))]
def rm_X3_init : Room := { frames := 1, cells := 0, slots := 0, locals := 60 }
set_option maxHeartbeats 4000000 in
set_option maxRecDepth 100000 in
theorem c_X3_init (l : Launch) (D : va_G) (cC cI cJ cZ cO : ClassId) (t : Nat) : NCon l yX3_init wsX3_init rm_X3_init D (tyA cC cI cJ cZ cO) [.ref t] [(t, .inr (2, [.int 0]))] (Frdr t) 0 0 := by
  refine nc_V (own := RX3) (cc := cX3_init) (maxL := 1) (by decide) rfl rfl rfl (Nat.le_of_ble_eq_true rfl) ?_
  intro p e s m args below meth c ls A Q hx hb hts hown hcf hin hml hAO hP hK hD hA hS hl hret
  have hl : lv_has ls 1 [(0, .ref t)] := hl
  refine lv_aload_n hx hb dX3_init_0 rfl (lv_at hl 0 rfl) ?_
  refine W.objInit hx hb hown (hts (.methodLink RX3 3 objectInit) (List.mem_of_getElem? (i := 1) rfl)) (hts (.instanceMethod objectInit) (List.mem_of_getElem? (i := 2) rfl)) (hts _ (List.mem_of_getElem? (i := 3) rfl)) rfl (by rw [hml]; exact hl.1) rfl dX3_init_1 (Nat.le_of_ble_eq_true rfl) (Nat.le_of_ble_eq_true rfl) ?_
  refine W.eq (g2 := F0 m 4 ls []) rfl ?_
  exact hret _ _ _ _ _ _ _ dX3_init_4 (Nat.zero_le _) (Nat.zero_le _) rfl hP hD hS

