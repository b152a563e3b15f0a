/-! methods with a table of one row; calls inside a larger world -/
/-- it returns v, and the cells w become w2; an exception's cell may have come -/
def hx_K (l : Launch) (D : va_G) (tys : List (ClassId × FieldType)) (y : MethodName) (ws : List Cond) (fr lo : Nat) (av : List Value) (w w2 : va_W) (v : Option Value) : Prop :=
  ∀ sz, Met l y ws { frames := fr, cells := 1, slots := 6, locals := lo } (hx_P D tys av w sz) (hx_Q D (va_A w sz) w2 v) 1 6 (va_A w sz)
theorem hx_K.ofW {l : Launch} {D : va_G} {tys : List (ClassId × FieldType)} {y : MethodName} {ws ws' : List Cond} {fr lo : Nat} {av : List Value} {w w2 : va_W} {v : Option Value} {cc : ByteArray} {maxL : Nat} {ret : Option FieldType} {hh : List (Nat × Nat × Nat × Nat)}
    (hy : plainName y.cls = true) (hw : ws = Cond.codeWith y cc maxL ret hh :: ws') (hn : (lg_sl av).length ≤ maxL)
    (body : ∀ (p : Program) (e : Env) (s : State) (m : MethodId) (below : List Frame) (meth : Method) (c : Code) (A : Nat → Prop) (ls : Array Slot), meth.sig.returnType = ret → hx_S p l s m av.toArray meth c cc maxL ws y.cls A D tys → c.exceptionTable.toList = tableOf hh → hx_w D A s.heap w s.heap [] → lv_has ls maxL (lv_args 0 av) →
      W p l e { frames := fr, cells := 1, slots := 6, locals := lo } s m av.toArray below meth c s.heap [] 0 0 (MQ below (hx_Q D A w2 v) av.toArray s 1 6 A) (F0 m 0 ls [])) : hx_K l D tys y ws fr lo av w w2 v := by
  intro sz
  refine MetFree.of_bodyS (code := cc) (maxLocals := maxL) (ret := ret) hy ?_ ?_
  · intro args s m h hn
    obtain ⟨m9, meth, c, hn9, h1, h2, h3, h4, -, h5, h6, -⟩ := Cond.codeWith_spec (atoms_spec (ws := ws) h _ (by rw [hw]; exact List.mem_cons_self))
    cases hn.symm.trans hn9
    exact ⟨meth, c, h1, h2, h3, h4, h5, h6⟩
  · intro p e s m args below meth c s₁ B hml hv _
    have hh0 : s₁.heap = s.heap := by rw [B.state]; rfl
    have htab : c.exceptionTable.toList = tableOf hh := vx_table (x := y) B (atoms_spec (ws := ws) B.pre _ (by rw [hw]; exact List.mem_cons_self))
    obtain ⟨rfl, hsz, hP, hK, hD0, hE⟩ := hv
    have hts := atoms_spec (ws := ws) B.pre
    have hown : s.vm.findClass y.cls = some m.cls := findClass_of_methodNamed B.named
    subst hsz
    have hD := hD0.self (sz := s.heap.size)
    generalize hAe : va_A w s.heap.size = A at hD hE ⊢
    have hA : ∀ q : Nat, s.heap.size ≤ q → A q := fun q h => by rw [← hAe]; exact Or.inr h
    have hl := lv_entry av (n := maxL) hn
    have K := body p e s m below meth c A _ B.returns ⟨⟨B.exec, B.bytes, hml, hown, hts⟩, hK, hA, hE, B.notSynchronized⟩ htab ⟨hP, hD, va_S.rf⟩ hl
    rw [← lg_entry_eq] at K
    obtain ⟨t, a1, o, b1, b2, b3⟩ := K s₁ hh0 (Stand.of_body B)
    exact ⟨t, o, a1, b1, b2, ⟨b3.1, b3.2⟩⟩
section HXF
variable {p : Program} {l : Launch} {e : Env} {R : Room} {s : State} {m : MethodId} {args : Array Value} {below : List Frame} {meth : Method} {c : Code} {H : Heap} {locs : List Loc} {cells slots : Nat} {Q : State → Prop}
variable {cc : ByteArray} {nL pc : Nat} {Ts : List Cond} {own : String} {A : Nat → Prop} {D : va_G} {tys : List (ClassId × FieldType)} {w : va_W} {ls : Array Slot} {rest : List Value}
variable {y : MethodName} {bytes : ByteArray} {maxL index fr lo n : Nat} {ret : Option FieldType} {ws ws' : List Cond} {C : String} {b : Addr} {As st : List Value} {w2 : va_W} {v : Option Value} {hh : List (Nat × Nat × Nat × Nat)}
/-- what the rest of a larger world is behind a call -/
theorem hx_join {H0 H1 : Heap} {locs1 : List Loc} {WW wr W2 : va_W} (hA : ∀ q, H0.size ≤ q → A q) (hw : hx_w D A H0 WW H locs) (hw2 : hx_w D A H0 w2 H1 locs1) (hk : ∀ q : Nat, q < H.size → ¬ va_A w H.size q → H1[q]? = H[q]?) (hadr : w2.map (fun q => q.1) = w.map (fun q => q.1))
    (isC isR is : List Nat) (hC : isC.map (fun i => WW[i]?) = w.map some) (hR : isR.map (fun i => WW[i]?) = wr.map some) (hnC : va_nd isC = true) (hnR : va_nd isR = true) (hdis : ∀ i ∈ isR, i ∉ isC) (hI : is.map (fun i => (wr ++ w2)[i]?) = W2.map some) (hI2 : is.filterMap (fun i => (wr ++ w2)[i]?) = W2) (hnI : va_nd is = true) : hx_w D A H0 W2 H1 locs1 := by
  obtain ⟨hP, hD, hS⟩ := hw
  have hDc := hD.sub isC hnC hC
  have hj := va_join hP hD isC isR hC hR hnR hdis hk (hx_A hDc hS hA) hw2.1 (hx_D hadr (hDc.self (sz := H.size)) (fun _ h => h))
  exact ⟨hj.1.sub is hI2, hj.2.sub is hnI hI, hw2.2.2⟩
theorem hx_cut {H0 : Heap} {WW : va_W} (hw : hx_w D A H0 WW H locs) (isC : List Nat) (hC : isC.map (fun i => WW[i]?) = w.map some) (hC2 : isC.filterMap (fun i => WW[i]?) = w) (hnC : va_nd isC = true) : hx_w D A H0 w H locs := ⟨hw.1.sub isC hC2, hw.2.1.sub isC hnC hC, hw.2.2⟩
/-- a method called, by its object; what lies outside its cells stays -/
theorem hx_fV (S : hx_S p l s m args meth c cc nL Ts own A D tys) (hw : hx_w D A s.heap w H locs) (hM : hx_R l D tys y ws fr lo (.ref b :: As) w w2 v) (hG : GoodIn Ts (wsV own index C y ws)) (hw0 : ws = Cond.code y bytes maxL ret :: ws')
    (hd : y.cls = C ∧ y.cls ≠ "java/lang/invoke/MethodHandle" ∧ y.cls ≠ "java/lang/invoke/VarHandle" ∧ (parseMethodDescriptor y.desc).map (fun d => d.parameters.length) = some n) (hn : As.length = n) (hR : fr + 1 ≤ R.frames ∧ 8 + (maxL + 11) + lo ≤ R.locals)
    (q0 ci : Nat) {fs : List Value} {T9 : u_T} {N9 : Nat} (he : w[q0]? = some (b, .inr (ci, fs))) (hc : vwCl[ci]? = some (C, T9, N9)) (hadr : w2.map (fun q => q.1) = w.map (fun q => q.1)) (hsz : ls.size = nL) (hst : st = As.reverse ++ .ref b :: rest) (hroom : (rest.map fun v => v.category).sum ≤ 8)
    (hcs : cells ≤ R.cells ∧ slots ≤ R.slots) (hdg : decode cc pc = .ok (.invokevirtual index, 3))
    (kk : ∀ (H1 : Heap) (locs1 : List Loc), hx_w D A s.heap w2 H1 locs1 → (∀ q : Nat, q < H.size → ¬ va_A w H.size q → H1[q]? = H[q]?) → W p l e R s m args below meth c H1 locs1 cells slots Q (F0 m (pc + 3) ls (v.toList ++ rest))) : W p l e R s m args below meth c H locs cells slots Q (F0 m pc ls st) := by
  subst hst
  have hpre := hx_pre S hw (.ref b :: As)
  obtain ⟨hfix, hK, hA, hE, hlk⟩ := S
  obtain ⟨hP, hD, hS⟩ := hw
  have hF := hx_A hD hS hA
  have hrun := va_runV (g := F0 m pc ls (As.reverse ++ .ref b :: rest)) (rest := rest) (e := e) (R := R) (below := below) (meth := meth) (locs := locs) (cells := cells) (slots := slots) hfix (hM H.size) (cwV n hfix.2.2.2.2 hG hw0 rfl rfl hd hR) ⟨hx_blind, va_recv hK hP hc he, hpre⟩ rfl hn hsz rfl (lv_room hroom) hdg ⟨hcs.1, hcs.2⟩
  intro T hT X
  obtain ⟨v', st₀, t, T', L, h0, X', hL, e1, e2, ⟨hv, hP1, hz, hk⟩, go⟩ := hrun T hT X
  cases hv
  rw [h0] at hz hk
  obtain ⟨t2, a1, b1⟩ := kk T'.heap (locs ++ L) ⟨by rw [e1]; exact hP1, hx_D hadr hD (fun _ h => h), Nat.le_trans hS.1 (by rw [e1]; exact hz), fun q h1 h2 => by rw [e1, hk q (Nat.lt_of_lt_of_le h1 hS.1) (fun z => h2 (hF q z))]; exact hS.2.1 q h1 h2, fun q hq => by
      rcases List.mem_append.mp hq with h | h
      · exact hS.2.2 q h
      · exact hF _ (hL q h)⟩ (fun q h1 h2 => by rw [e1]; exact hk q h1 h2) T' rfl X'
  exact ⟨t2, go t2 a1, b1⟩
/-- one with a table, by its object -/
theorem hx_fVW (S : hx_S p l s m args meth c cc nL Ts own A D tys) (hw : hx_w D A s.heap w H locs) (hM : hx_K l D tys y ws fr lo (.ref b :: As) w w2 v) (hG : GoodIn Ts (wsV own index C y ws)) (hw0 : ws = Cond.codeWith y bytes maxL ret hh :: ws')
    (hd : y.cls = C ∧ y.cls ≠ "java/lang/invoke/MethodHandle" ∧ y.cls ≠ "java/lang/invoke/VarHandle" ∧ (parseMethodDescriptor y.desc).map (fun d => d.parameters.length) = some n) (hn : As.length = n) (hR : fr + 1 ≤ R.frames ∧ 8 + (maxL + 11) + lo ≤ R.locals)
    (q0 ci : Nat) {fs : List Value} {T9 : u_T} {N9 : Nat} (he : w[q0]? = some (b, .inr (ci, fs))) (hc : vwCl[ci]? = some (C, T9, N9)) (hadr : w2.map (fun q => q.1) = w.map (fun q => q.1)) (hsz : ls.size = nL) (hst : st = As.reverse ++ .ref b :: rest) (hroom : (rest.map fun v => v.category).sum ≤ 8)
    (hcs : cells + 1 ≤ R.cells ∧ slots + 6 ≤ R.slots) (hdg : decode cc pc = .ok (.invokevirtual index, 3))
    (kk : ∀ (H1 : Heap) (locs1 : List Loc), hx_w D A s.heap w2 H1 locs1 → (∀ q : Nat, q < H.size → ¬ va_A w H.size q → H1[q]? = H[q]?) → W p l e R s m args below meth c H1 locs1 (cells + 1) (slots + 6) Q (F0 m (pc + 3) ls (v.toList ++ rest))) : W p l e R s m args below meth c H locs cells slots Q (F0 m pc ls st) := by
  subst hst
  have hpre := hx_pre S hw (.ref b :: As)
  obtain ⟨hfix, hK, hA, hE, hlk⟩ := S
  obtain ⟨hP, hD, hS⟩ := hw
  have hF := hx_A hD hS hA
  have hrun := vx_runVW (g := F0 m pc ls (As.reverse ++ .ref b :: rest)) (rest := rest) (e := e) (R := R) (below := below) (meth := meth) (locs := locs) (cells := cells) (slots := slots) hfix (hM H.size) (vx_cwVW (hh := hh) n hfix.2.2.2.2 hG hw0 rfl rfl hd hR) ⟨hx_blind, va_recv hK hP hc he, hpre⟩ rfl hn hsz rfl (lv_room hroom) hdg ⟨hcs.1, hcs.2⟩
  intro T hT X
  obtain ⟨v', st₀, t, T', L, h0, X', hL, e1, e2, ⟨hv, hP1, hz, hk⟩, go⟩ := hrun T hT X
  cases hv
  rw [h0] at hz hk
  obtain ⟨t2, a1, b1⟩ := kk T'.heap (locs ++ L) ⟨by rw [e1]; exact hP1, hx_D hadr hD (fun _ h => h), Nat.le_trans hS.1 (by rw [e1]; exact hz), fun q h1 h2 => by rw [e1, hk q (Nat.lt_of_lt_of_le h1 hS.1) (fun z => h2 (hF q z))]; exact hS.2.1 q h1 h2, fun q hq => by
      rcases List.mem_append.mp hq with h | h
      · exact hS.2.2 q h
      · exact hF _ (hL q h)⟩ (fun q h1 h2 => by rw [e1]; exact hk q h1 h2) T' rfl X'
  exact ⟨t2, go t2 a1, b1⟩
/-- a static one with a table -/
theorem hx_fSW (S : hx_S p l s m args meth c cc nL Ts own A D tys) (hw : hx_w D A s.heap w H locs) (hM : hx_K l D tys y ws fr lo As w w2 v) (hG : GoodIn Ts (va_wsS own index y ws)) (hw0 : ws = Cond.codeWith y bytes maxL ret hh :: ws')
    (hd : y.cls ≠ "java/lang/invoke/MethodHandle" ∧ y.cls ≠ "java/lang/invoke/VarHandle" ∧ (parseMethodDescriptor y.desc).map (fun d => d.parameters.length) = some n) (hn : As.length = n) (hR : fr + 1 ≤ R.frames ∧ 8 + (maxL + 11) + lo ≤ R.locals)
    (hadr : w2.map (fun q => q.1) = w.map (fun q => q.1)) (hsz : ls.size = nL) (hst : st = As.reverse ++ rest) (hroom : (rest.map fun v => v.category).sum ≤ 8)
    (hcs : cells + 1 ≤ R.cells ∧ slots + 6 ≤ R.slots) (hdg : decode cc pc = .ok (.invokestatic index, 3))
    (kk : ∀ (H1 : Heap) (locs1 : List Loc), hx_w D A s.heap w2 H1 locs1 → (∀ q : Nat, q < H.size → ¬ va_A w H.size q → H1[q]? = H[q]?) → W p l e R s m args below meth c H1 locs1 (cells + 1) (slots + 6) Q (F0 m (pc + 3) ls (v.toList ++ rest))) : W p l e R s m args below meth c H locs cells slots Q (F0 m pc ls st) := by
  subst hst
  have hpre := hx_pre S hw As
  obtain ⟨hfix, hK, hA, hE, hlk⟩ := S
  obtain ⟨hP, hD, hS⟩ := hw
  have hF := hx_A hD hS hA
  have hrun := vx_runSW (g := F0 m pc ls (As.reverse ++ rest)) (rest := rest) (e := e) (R := R) (below := below) (meth := meth) (locs := locs) (cells := cells) (slots := slots) hfix (hM H.size) (vx_cwSW (hh := hh) n hfix.2.2.2.2 hG hw0 rfl rfl hd hR) ⟨hx_blind, hpre⟩ rfl hn hsz rfl (lv_room hroom) hdg ⟨hcs.1, hcs.2⟩
  intro T hT X
  obtain ⟨v', st₀, t, T', L, h0, X', hL, e1, e2, ⟨hv, hP1, hz, hk⟩, go⟩ := hrun T hT X
  cases hv
  rw [h0] at hz hk
  obtain ⟨t2, a1, b1⟩ := kk T'.heap (locs ++ L) ⟨by rw [e1]; exact hP1, hx_D hadr hD (fun _ h => h), Nat.le_trans hS.1 (by rw [e1]; exact hz), fun q h1 h2 => by rw [e1, hk q (Nat.lt_of_lt_of_le h1 hS.1) (fun z => h2 (hF q z))]; exact hS.2.1 q h1 h2, fun q hq => by
      rcases List.mem_append.mp hq with h | h
      · exact hS.2.2 q h
      · exact hF _ (hL q h)⟩ (fun q h1 h2 => by rw [e1]; exact hk q h1 h2) T' rfl X'
  exact ⟨t2, go t2 a1, b1⟩
/-- one that throws, caught here by the table's one row -/
theorem hx_fX (S : hx_S p l s m args meth c cc nL Ts own A D tys) (hw : hx_w D A s.heap w H locs) (hM : hx_X l D tys y ws fr lo (.ref b :: As) w w2) (hG : GoodIn Ts (wsV own index C y ws)) (hw0 : ws = Cond.code y bytes maxL ret :: ws')
    (hd : y.cls = C ∧ y.cls ≠ "java/lang/invoke/MethodHandle" ∧ y.cls ≠ "java/lang/invoke/VarHandle" ∧ (parseMethodDescriptor y.desc).map (fun d => d.parameters.length) = some n) (hn : As.length = n) (hR : fr + 1 ≤ R.frames ∧ 8 + (maxL + 11) + lo ≤ R.locals)
    (q0 ci : Nat) {fs : List Value} {T9 : u_T} {N9 : Nat} (he : w[q0]? = some (b, .inr (ci, fs))) (hc : vwCl[ci]? = some (C, T9, N9)) (hadr : w2.map (fun q => q.1) = w.map (fun q => q.1)) (hsz : ls.size = nL) (hst : st = As.reverse ++ .ref b :: rest) (hroom : (rest.map fun v => v.category).sum ≤ 8)
    (hcs : cells + 1 ≤ R.cells ∧ slots + 6 ≤ R.slots) (hdg : decode cc pc = .ok (.invokevirtual index, 3)) {x : ExceptionTableEntry} (htab : c.exceptionTable.toList = [x]) (hcov : covers x pc = true) (hct : x.catchType ≠ 0) (hlink : Cond.classLink own x.catchType hx_IO ∈ Ts)
    (kk : ∀ (q9 : Addr) (H1 : Heap) (locs1 : List Loc), hx_w D A s.heap w2 H1 locs1 → (∀ q : Nat, q < H.size → ¬ va_A w H.size q → H1[q]? = H[q]?) → W p l e R s m args below meth c H1 locs1 (cells + 1) (slots + 6) Q (F0 m x.handlerPc ls [.ref q9])) : W p l e R s m args below meth c H locs cells slots Q (F0 m pc ls st) := by
  subst hst
  have hpre := hx_pre S hw (.ref b :: As)
  obtain ⟨hfix, hK, hA, hE, hlk⟩ := S
  obtain ⟨hP, hD, hS⟩ := hw
  have hF := hx_A hD hS hA
  have hrun := vx_runV (g := F0 m pc ls (As.reverse ++ .ref b :: rest)) (rest := rest) (e := e) (R := R) (below := below) (meth := meth) (locs := locs) (cells := cells) (slots := slots) hfix (hM H.size) (cwV n hfix.2.2.2.2 hG hw0 rfl rfl hd hR) ⟨hx_blind, va_recv hK hP hc he, hpre⟩ rfl hn hsz rfl (lv_room hroom) hdg ⟨hcs.1, hcs.2⟩
  intro T hT X
  rcases hrun T hT X with ⟨v', st₀, t, T', L, h0, X', hL, e1, e2, hv, go⟩ | ⟨q, st₀, t, T', L, E, ce, h0, X', hL, e1, e2, ⟨rfl, hP1, hz, hk⟩, hce, hcv, hcl, go⟩
  · exact hv.elim
  · rw [h0] at hz hk
    have kw := kk q T'.heap (locs ++ L) ⟨by rw [e1]; exact hP1, hx_D hadr hD (fun _ h => h), Nat.le_trans hS.1 (by rw [e1]; exact hz), fun q h1 h2 => by rw [e1, hk q (Nat.lt_of_lt_of_le h1 hS.1) (fun z => h2 (hF q z))]; exact hS.2.1 q h1 h2, fun q hq => by
        rcases List.mem_append.mp hq with h | h
        · exact hS.2.2 q h
        · exact hF _ (hL q h)⟩ (fun q h1 h2 => by rw [e1]; exact hk q h1 h2)
    obtain ⟨t2, a1, b1⟩ := hx_catch (pc := pc) (ls := ls) (rest := rest) (name := hx_IO) (E := hx_IO) hfix.2.2.2.1 x htab hcov hct (hfix.2.2.2.2 _ hlink) (hx_bad_use hE.1 _ List.mem_cons_self) (by rw [e1]; exact hce) hcv hcl kw T' rfl X'
    exact ⟨t2, go.trans a1, b1⟩
end HXF
