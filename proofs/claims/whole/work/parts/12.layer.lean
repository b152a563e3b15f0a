/-! THE LAYER: contracts that say 'from these cells, with these arguments: this answer, and these cells', or 'it throws, and these cells'; rows for calls of such. -/
abbrev hx_IO : String := "java/lang/IndexOutOfBoundsException"
def hx_bad : List Cond := [.castable hx_IO hx_IO, .declares ⟨"java/lang/RuntimeException", "<init>", "()V"⟩, .declares ⟨"java/lang/Exception", "<init>", "()V"⟩, .declares ⟨"java/lang/Throwable", "<init>", "()V"⟩,
  .declares ⟨"java/lang/RuntimeException", "<init>", "(Ljava/lang/String;)V"⟩, .declares ⟨"java/lang/Exception", "<init>", "(Ljava/lang/String;)V"⟩, .declares ⟨"java/lang/Throwable", "<init>", "(Ljava/lang/String;)V"⟩]
/-- what a throw needs of the start, beside words of the tables -/
def hx_E (A : Nat → Prop) (U : State) (H : Heap) : Prop :=
  (∀ w ∈ hx_bad, va_Nw w U) ∧ (∃ a, vk_R RX0 25 "no such byte" a U) ∧ (∃ a, vk_R RX0 54 "no such number" a U) ∧ (∃ a, vk_R RX1 109 "no taken block begins there" a U) ∧
  vx_Zq Bundle.tN "UNASSIGNED_STACK" Bundle.steD A U H ∧ vx_Zq Bundle.tN "SUPPRESSED_SENTINEL" Bundle.listD A U H
theorem hx_bad_warm {s U : State} (hW : s.WarmedH U.vm) (h : ∀ w ∈ hx_bad, va_Nw w s) : ∀ w ∈ hx_bad, va_Nw w U := by
  intro w hw
  have hs := h w hw
  simp only [hx_bad, List.mem_cons, List.not_mem_nil, or_false] at hw
  rcases hw with rfl | rfl | rfl | rfl | rfl | rfl | rfl
  · exact va_Nw.warmC hW hs
  all_goals exact va_Nw.warmD hW hs
theorem hx_bad_same {s U : State} (hv : s.vm = U.vm) (h : ∀ w ∈ hx_bad, va_Nw w s) : ∀ w ∈ hx_bad, va_Nw w U := by
  intro w hw
  refine va_Nw.same ?_ hv (h w hw)
  simp only [hx_bad, List.mem_cons, List.not_mem_nil, or_false] at hw
  rcases hw with rfl | rfl | rfl | rfl | rfl | rfl | rfl <;> rfl
theorem hx_bad_use {s : State} {args : Array Value} (h : ∀ w ∈ hx_bad, va_Nw w s) : ∀ w ∈ hx_bad, w.before args s = true := by
  intro w hw
  refine va_Nw.use ?_ (h w hw)
  simp only [hx_bad, List.mem_cons, List.not_mem_nil, or_false] at hw
  rcases hw with rfl | rfl | rfl | rfl | rfl | rfl | rfl <;> rfl
theorem hx_E.call {A B : Nat → Prop} {s U : State} {H : Heap} {locs : List Loc} (h : hx_E A s s.heap) (hS : va_S A s.heap H locs) (hU : U.heap = H) (hW : s.WarmedH U.vm) (hB : ∀ q, B q → A q) : hx_E B U U.heap := by
  obtain ⟨h1, ⟨a2, h2⟩, ⟨a3, h3⟩, ⟨a4, h4⟩, h5, h6⟩ := h
  refine ⟨hx_bad_warm hW h1, ⟨a2, vk_R.warm hW h2⟩, ⟨a3, vk_R.warm hW h3⟩, ⟨a4, vk_R.warm hW h4⟩, ?_, ?_⟩
  · rw [hU]; exact ((h5.kept hS.2.1).moved hW.alike).narrow hB
  · rw [hU]; exact ((h6.kept hS.2.1).moved hW.alike).narrow hB
theorem hx_E.same {A : Nat → Prop} {s U : State} {H : Heap} (h : hx_E A s H) (hv : s.vm = U.vm) : hx_E A U H := by
  obtain ⟨h1, ⟨a2, h2⟩, ⟨a3, h3⟩, ⟨a4, h4⟩, h5, h6⟩ := h
  have hal : s.vm.Alike U.vm := by rw [← hv]; exact Vm.Alike.refl s.vm
  exact ⟨hx_bad_same hv h1, ⟨a2, vk_R.same hv.symm h2⟩, ⟨a3, vk_R.same hv.symm h3⟩, ⟨a4, vk_R.same hv.symm h4⟩, h5.moved hal, h6.moved hal⟩
/-- a method's start: its arguments, its cells -/
def hx_P (D : va_G) (tys : List (ClassId × FieldType)) (av : List Value) (w : va_W) (sz : Nat) : Array Value → State → Prop :=
  va_Pc av (fun U => U.heap.size = sz ∧ va_P D vwCl w U.heap ∧ va_K D vwCl tys U ∧ va_D (fun _ => True) w ∧ hx_E (va_A w sz) U U.heap)
theorem hx_blind {D : va_G} {tys : List (ClassId × FieldType)} {av : List Value} {w : va_W} {sz : Nat} : FrameBlind (hx_P D tys av w sz) := by
  intro a U g mk q
  obtain ⟨q0, q1, q2, q3, q4, q5⟩ := q
  exact ⟨q0, q1, q2, va_K.moved (u := U) (U := U.calling g mk a) (Vm.Alike.refl U.vm) q3, q4, hx_E.same (s := U) (U := U.calling g mk a) q5 rfl⟩
/-- .. and its end -/
def hx_Q (D : va_G) (A : Nat → Prop) (w : va_W) (v : Option Value) : Array Value → State → Outcome → State → Prop := fun _ st o t => o = .returned v ∧ va_P D vwCl w t.heap ∧ va_F A st t
def hx_XC (D : va_G) (A : Nat → Prop) (w : va_W) : String → State → State → Prop := fun E st t => E = hx_IO ∧ va_P D vwCl w t.heap ∧ va_F A st t
def hx_no : Array Value → State → Outcome → State → Prop := fun _ _ _ _ => False
/-- it returns v, and the cells w become w2 -/
def hx_R (l : Launch) (D : va_G) (tys : List (ClassId × FieldType)) (y : MethodName) (ws : List Cond) (fr lo : Nat) (av : List Value) (w w2 : va_W) (v : Option Value) : Prop :=
  ∀ sz, Met l y ws { frames := fr, cells := 0, slots := 0, locals := lo } (hx_P D tys av w sz) (hx_Q D (va_A w sz) w2 v) 0 0 (va_A w sz)
/-- it throws, and the cells w become w2 -/
def hx_X (l : Launch) (D : va_G) (tys : List (ClassId × FieldType)) (y : MethodName) (ws : List Cond) (fr lo : Nat) (av : List Value) (w w2 : va_W) : Prop :=
  ∀ sz, vx_Met l y ws { frames := fr, cells := 1, slots := 6, locals := lo } (hx_P D tys av w sz) hx_no (hx_XC D (va_A w sz) w2) 1 6 (va_A w sz)
/-- the one or the other -/
def hx_O (l : Launch) (D : va_G) (tys : List (ClassId × FieldType)) (y : MethodName) (ws : List Cond) (fr lo : Nat) (av : List Value) (w w2 : va_W) (r : Option (Option Value)) : Prop :=
  match r with
  | some v => hx_R l D tys y ws fr lo av w w2 v
  | none => hx_X l D tys y ws fr lo av w w2
/-- what stands in a body at all times -/
def hx_S (p : Program) (l : Launch) (s : State) (m : MethodId) (args : Array Value) (meth : Method) (c : Code) (cc : ByteArray) (nL : Nat) (Ts : List Cond) (own : String) (A : Nat → Prop) (D : va_G) (tys : List (ClassId × FieldType)) : Prop :=
  CallFix p m c cc nL s args Ts own ∧ va_K D vwCl tys s ∧ (∀ q, s.heap.size ≤ q → A q) ∧ hx_E A s s.heap ∧ meth.locks = false
/-- the cells at a point of a body -/
def hx_w (D : va_G) (A : Nat → Prop) (H0 : Heap) (w : va_W) (H : Heap) (locs : List Loc) : Prop := va_P D vwCl w H ∧ va_D A w ∧ va_S A H0 H locs
theorem hx_D {A B : Nat → Prop} {w w2 : va_W} (h : w2.map (fun q => q.1) = w.map (fun q => q.1)) (hD : va_D A w) (hB : ∀ q, A q → B q) : va_D B w2 := by
  have key : ∀ (i : Nat) (q : Nat × va_E), w2[i]? = some q → ∃ q', w[i]? = some q' ∧ q'.1 = q.1 := by
    intro i q hq
    have h1 : (w2.map (fun q => q.1))[i]? = some q.1 := by rw [List.getElem?_map, hq]; rfl
    rw [h, List.getElem?_map] at h1
    cases hi : w[i]? with
    | none => rw [hi] at h1; cases h1
    | some z => rw [hi] at h1; exact ⟨z, rfl, Option.some.inj h1⟩
  refine ⟨fun i j x y hx hy hxy => ?_, fun k q hq => ?_⟩
  · obtain ⟨x', a1, a2⟩ := key i x hx
    obtain ⟨y', b1, b2⟩ := key j y hy
    exact hD.1 i j x' y' a1 b1 (by rw [a2, b2]; exact hxy)
  · obtain ⟨q', a1, a2⟩ := key k q hq
    rw [← a2]
    exact hB _ (hD.2 k q' a1)
theorem hx_A {A : Nat → Prop} {w : va_W} {H0 H : Heap} {locs : List Loc} (hD : va_D A w) (hS : va_S A H0 H locs) (hA : ∀ q, H0.size ≤ q → A q) : ∀ q, va_A w H.size q → A q := by
  intro q h
  rcases h with ⟨k, e, h⟩ | h
  · exact hD.2 k (q, e) h
  · exact hA q (Nat.le_trans hS.1 h)
section HXB
variable {l : Launch} {D : va_G} {tys : List (ClassId × FieldType)} {y : MethodName} {ws ws' : List Cond} {fr lo : Nat} {av : List Value} {w w2 : va_W} {cc : ByteArray} {maxL : Nat} {ret : Option FieldType}
/-- a body that returns -/
theorem hx_R.ofW {v : Option Value} (hy : plainName y.cls = true) (hw : ws = Cond.code y cc maxL ret :: ws') (hn : (lg_sl av).length ≤ maxL)
    (body : ∀ (p : Program) (e : Env) (s : State) (m : MethodId) (below : List Frame) (meth : Method) (c : Code) (A : Nat → Prop) (ls : Array Slot), meth.sig.returnType = ret → hx_S p l s m av.toArray meth c cc maxL ws y.cls A D tys → hx_w D A s.heap w s.heap [] → lv_has ls maxL (lv_args 0 av) →
      W p l e { frames := fr, cells := 0, slots := 0, locals := lo } s m av.toArray below meth c s.heap [] 0 0 (MQ below (hx_Q D A w2 v) av.toArray s 0 0 A) (F0 m 0 ls [])) : hx_R l D tys y ws fr lo av w w2 v := by
  intro sz
  refine Met.ofW (cc := cc) (maxL := maxL) (ret := ret) hy hw ?_
  intro p e s m args below meth c s₁ B hml hv
  obtain ⟨rfl, hsz, hP, hK, hD0, hE⟩ := hv
  have hts := atoms_spec (ws := ws) B.pre
  have hown : s.vm.findClass y.cls = some m.cls := findClass_of_methodNamed B.named
  subst hsz
  have hD := hD0.self (sz := s.heap.size)
  generalize hAe : va_A w s.heap.size = A at hD hE ⊢
  have hA : ∀ q : Nat, s.heap.size ≤ q → A q := fun q h => by rw [← hAe]; exact Or.inr h
  have hl := lv_entry av (n := maxL) hn
  rw [lg_entry_eq]
  exact body p e s m below meth c A _ B.returns ⟨⟨B.exec, B.bytes, hml, hown, hts⟩, hK, hA, hE, B.notSynchronized⟩ ⟨hP, hD, va_S.rf⟩ hl
/-- a body that throws -/
theorem hx_X.ofW (hy : plainName y.cls = true) (hw : ws = Cond.code y cc maxL ret :: ws') (hn : (lg_sl av).length ≤ maxL)
    (body : ∀ (p : Program) (e : Env) (s : State) (m : MethodId) (below : List Frame) (meth : Method) (c : Code) (A : Nat → Prop) (ls : Array Slot), meth.sig.returnType = ret → hx_S p l s m av.toArray meth c cc maxL ws y.cls A D tys → (∀ x ∈ c.exceptionTable.toList, False) → hx_w D A s.heap w s.heap [] → lv_has ls maxL (lv_args 0 av) →
      W p l e { frames := fr, cells := 1, slots := 6, locals := lo } s m av.toArray below meth c s.heap [] 0 0 (vx_MQ below hx_no (hx_XC D A w2) av.toArray s 1 6 A) (F0 m 0 ls [])) : hx_X l D tys y ws fr lo av w w2 := by
  intro sz
  refine vx_ofW (cc := cc) (maxL := maxL) (ret := ret) hy hw ?_
  intro p e s m args below meth c s₁ B hml hno hv
  obtain ⟨rfl, hsz, hP, hK, hD0, hE⟩ := hv
  have hts := atoms_spec (ws := ws) B.pre
  have hown : s.vm.findClass y.cls = some m.cls := findClass_of_methodNamed B.named
  subst hsz
  have hD := hD0.self (sz := s.heap.size)
  generalize hAe : va_A w s.heap.size = A at hD hE ⊢
  have hA : ∀ q : Nat, s.heap.size ≤ q → A q := fun q h => by rw [← hAe]; exact Or.inr h
  have hl := lv_entry av (n := maxL) hn
  rw [lg_entry_eq]
  exact body p e s m below meth c A _ B.returns ⟨⟨B.exec, B.bytes, hml, hown, hts⟩, hK, hA, hE, B.notSynchronized⟩ hno ⟨hP, hD, va_S.rf⟩ hl
end HXB
section HXR
variable {p : Program} {l : Launch} {e : Env} {R : Room} {s : State} {m : MethodId} {args : Array Value} {below : List Frame} {meth : Method} {c : Code} {H : Heap} {locs : List Loc} {cells slots : Nat} {Q : State → Prop}
variable {cc : ByteArray} {nL pc : Nat} {Ts : List Cond} {own : String} {A : Nat → Prop} {D : va_G} {tys : List (ClassId × FieldType)} {w : va_W} {ls : Array Slot} {rest : List Value}
/-- returns -/
theorem hx_iret (S : hx_S p l s m args meth c cc nL Ts own A D tys) {v : Int32} (hr : meth.sig.returnType = some .int) (hw : hx_w D A s.heap w H locs) (hdg : decode cc pc = .ok (.ireturn, 1)) :
    W p l e R s m args below meth c H locs cells slots (MQ below (hx_Q D A w (some (.int v))) args s cells slots A) (F0 m pc ls [.int v]) := by
  obtain ⟨⟨hx, hb, -⟩, -, -, -, hlk⟩ := S
  obtain ⟨hP, hD, hS⟩ := hw
  exact W.iret hx hb hr (fun t ht _ => ⟨rfl, by rw [ht]; exact hP, hS.F ht⟩) hS.2.2 hdg hlk
theorem hx_zret (S : hx_S p l s m args meth c cc nL Ts own A D tys) {v : Int32} (hr : meth.sig.returnType = some .boolean) (hn : narrow .boolean (.int v) = .int v) (hw : hx_w D A s.heap w H locs) (hdg : decode cc pc = .ok (.ireturn, 1)) :
    W p l e R s m args below meth c H locs cells slots (MQ below (hx_Q D A w (some (.int v))) args s cells slots A) (F0 m pc ls [.int v]) := by
  obtain ⟨⟨hx, hb, -⟩, -, -, -, hlk⟩ := S
  obtain ⟨hP, hD, hS⟩ := hw
  exact W.zret hx hb hr hn (fun t ht _ => ⟨rfl, by rw [ht]; exact hP, hS.F ht⟩) hS.2.2 hdg hlk
theorem hx_lret (S : hx_S p l s m args meth c cc nL Ts own A D tys) {v : Int64} (hr : meth.sig.returnType = some .long) (hw : hx_w D A s.heap w H locs) (hdg : decode cc pc = .ok (.lreturn, 1)) :
    W p l e R s m args below meth c H locs cells slots (MQ below (hx_Q D A w (some (.long v))) args s cells slots A) (F0 m pc ls [.long v]) := by
  obtain ⟨⟨hx, hb, -⟩, -, -, -, hlk⟩ := S
  obtain ⟨hP, hD, hS⟩ := hw
  exact W.lret hx hb hr (fun t ht _ => ⟨rfl, by rw [ht]; exact hP, hS.F ht⟩) hS.2.2 hdg hlk
theorem hx_vret (S : hx_S p l s m args meth c cc nL Ts own A D tys) (hr : meth.sig.returnType = none) (hw : hx_w D A s.heap w H locs) (hdg : decode cc pc = .ok (.return_, 1)) :
    W p l e R s m args below meth c H locs cells slots (MQ below (hx_Q D A w none) args s cells slots A) (F0 m pc ls []) := by
  obtain ⟨⟨hx, hb, -⟩, -, -, -, hlk⟩ := S
  obtain ⟨hP, hD, hS⟩ := hw
  exact W.vret hx hb hr (fun t ht _ => ⟨rfl, by rw [ht]; exact hP, hS.F ht⟩) hS.2.2 hdg hlk
section Calls
variable {y : MethodName} {bytes : ByteArray} {maxL index fr lo n : Nat} {ret : Option FieldType} {ws ws' : List Cond} {C : String} {b : Addr} {As st : List Value} {w2 : va_W} {v : Option Value}
theorem hx_pre (S : hx_S p l s m args meth c cc nL Ts own A D tys) (hw : hx_w D A s.heap w H locs) (av : List Value) : ∀ U : State, U.heap = H → s.WarmedH U.vm → hx_P D tys av w H.size av.toArray U := by
  obtain ⟨-, hK, hA, hE, -⟩ := S
  obtain ⟨hP, hD, hS⟩ := hw
  intro U hU hW
  exact ⟨rfl, by rw [hU], by rw [hU]; exact hP, va_K.moved hW.alike hK, hD.weaken (fun _ _ _ _ => trivial), hE.call hS hU hW (hx_A hD hS hA)⟩
/-- a method called, by its object -/
theorem hx_callV (S : hx_S p l s m args meth c cc nL Ts own A D tys) (hw : hx_w D A s.heap w H locs) (hM : hx_R l D tys y ws fr lo (.ref b :: As) w w2 v) (hG : GoodIn Ts (wsV own index C y ws)) (hw0 : ws = Cond.code y bytes maxL ret :: ws')
    (hd : y.cls = C ∧ y.cls ≠ "java/lang/invoke/MethodHandle" ∧ y.cls ≠ "java/lang/invoke/VarHandle" ∧ (parseMethodDescriptor y.desc).map (fun d => d.parameters.length) = some n) (hn : As.length = n) (hR : fr + 1 ≤ R.frames ∧ 8 + (maxL + 11) + lo ≤ R.locals)
    (q0 ci : Nat) {fs : List Value} {T9 : u_T} {N9 : Nat} (he : w[q0]? = some (b, .inr (ci, fs))) (hc : vwCl[ci]? = some (C, T9, N9)) (hadr : w2.map (fun q => q.1) = w.map (fun q => q.1)) (hsz : ls.size = nL) (hst : st = As.reverse ++ .ref b :: rest) (hroom : (rest.map fun v => v.category).sum ≤ 8)
    (hcs : cells ≤ R.cells ∧ slots ≤ R.slots) (hdg : decode cc pc = .ok (.invokevirtual index, 3))
    (kk : ∀ (H1 : Heap) (locs1 : List Loc), hx_w D A s.heap w2 H1 locs1 → W p l e R s m args below meth c H1 locs1 cells slots Q (F0 m (pc + 3) ls (v.toList ++ rest))) : W p l e R s m args below meth c H locs cells slots Q (F0 m pc ls st) := by
  subst hst
  have hpre := hx_pre S hw (.ref b :: As)
  obtain ⟨hfix, hK, hA, hE, hlk⟩ := S
  obtain ⟨hP, hD, hS⟩ := hw
  have hF := hx_A hD hS hA
  have hrun := va_runV (g := F0 m pc ls (As.reverse ++ .ref b :: rest)) (rest := rest) (e := e) (R := R) (below := below) (meth := meth) (locs := locs) (cells := cells) (slots := slots) hfix (hM H.size) (cwV n hfix.2.2.2.2 hG hw0 rfl rfl hd hR) ⟨hx_blind, va_recv hK hP hc he, hpre⟩ rfl hn hsz rfl (lv_room hroom) hdg ⟨hcs.1, hcs.2⟩
  intro T hT X
  obtain ⟨v', st₀, t, T', L, h0, X', hL, e1, e2, ⟨hv, hP1, hz, hk⟩, go⟩ := hrun T hT X
  cases hv
  rw [h0] at hz hk
  obtain ⟨t2, a1, b1⟩ := kk T'.heap (locs ++ L) ⟨by rw [e1]; exact hP1, hx_D hadr hD (fun _ h => h), Nat.le_trans hS.1 (by rw [e1]; exact hz), fun q h1 h2 => by rw [e1, hk q (Nat.lt_of_lt_of_le h1 hS.1) (fun z => h2 (hF q z))]; exact hS.2.1 q h1 h2, fun q hq => by
      rcases List.mem_append.mp hq with h | h
      · exact hS.2.2 q h
      · exact hF _ (hL q h)⟩ T' rfl X'
  exact ⟨t2, go t2 a1, b1⟩
/-- a static one -/
theorem hx_callS (S : hx_S p l s m args meth c cc nL Ts own A D tys) (hw : hx_w D A s.heap w H locs) (hM : hx_R l D tys y ws fr lo As w w2 v) (hG : GoodIn Ts (va_wsS own index y ws)) (hw0 : ws = Cond.code y bytes maxL ret :: ws')
    (hd : y.cls ≠ "java/lang/invoke/MethodHandle" ∧ y.cls ≠ "java/lang/invoke/VarHandle" ∧ (parseMethodDescriptor y.desc).map (fun d => d.parameters.length) = some n) (hn : As.length = n) (hR : fr + 1 ≤ R.frames ∧ 8 + (maxL + 11) + lo ≤ R.locals)
    (hadr : w2.map (fun q => q.1) = w.map (fun q => q.1)) (hsz : ls.size = nL) (hst : st = As.reverse ++ rest) (hroom : (rest.map fun v => v.category).sum ≤ 8)
    (hcs : cells ≤ R.cells ∧ slots ≤ R.slots) (hdg : decode cc pc = .ok (.invokestatic index, 3))
    (kk : ∀ (H1 : Heap) (locs1 : List Loc), hx_w D A s.heap w2 H1 locs1 → W p l e R s m args below meth c H1 locs1 cells slots Q (F0 m (pc + 3) ls (v.toList ++ rest))) : W p l e R s m args below meth c H locs cells slots Q (F0 m pc ls st) := by
  subst hst
  have hpre := hx_pre S hw As
  obtain ⟨hfix, hK, hA, hE, hlk⟩ := S
  obtain ⟨hP, hD, hS⟩ := hw
  have hF := hx_A hD hS hA
  have hrun := va_runS (g := F0 m pc ls (As.reverse ++ rest)) (rest := rest) (e := e) (R := R) (below := below) (meth := meth) (locs := locs) (cells := cells) (slots := slots) hfix (hM H.size) (va_cwS n hfix.2.2.2.2 hG hw0 rfl rfl hd hR) ⟨hx_blind, hpre⟩ rfl hn hsz rfl (lv_room hroom) hdg ⟨hcs.1, hcs.2⟩
  intro T hT X
  obtain ⟨v', st₀, t, T', L, h0, X', hL, e1, e2, ⟨hv, hP1, hz, hk⟩, go⟩ := hrun T hT X
  cases hv
  rw [h0] at hz hk
  obtain ⟨t2, a1, b1⟩ := kk T'.heap (locs ++ L) ⟨by rw [e1]; exact hP1, hx_D hadr hD (fun _ h => h), Nat.le_trans hS.1 (by rw [e1]; exact hz), fun q h1 h2 => by rw [e1, hk q (Nat.lt_of_lt_of_le h1 hS.1) (fun z => h2 (hF q z))]; exact hS.2.1 q h1 h2, fun q hq => by
      rcases List.mem_append.mp hq with h | h
      · exact hS.2.2 q h
      · exact hF _ (hL q h)⟩ T' rfl X'
  exact ⟨t2, go t2 a1, b1⟩
/-- one that throws: what comes of it -/
theorem hx_thrV (S : hx_S p l s m args meth c cc nL Ts own A D tys) (hw : hx_w D A s.heap w H locs) (hM : hx_X l D tys y ws fr lo (.ref b :: As) w w2) (hG : GoodIn Ts (wsV own index C y ws)) (hw0 : ws = Cond.code y bytes maxL ret :: ws')
    (hd : y.cls = C ∧ y.cls ≠ "java/lang/invoke/MethodHandle" ∧ y.cls ≠ "java/lang/invoke/VarHandle" ∧ (parseMethodDescriptor y.desc).map (fun d => d.parameters.length) = some n) (hn : As.length = n) (hR : fr + 1 ≤ R.frames ∧ 8 + (maxL + 11) + lo ≤ R.locals)
    (q0 ci : Nat) {fs : List Value} {T9 : u_T} {N9 : Nat} (he : w[q0]? = some (b, .inr (ci, fs))) (hc : vwCl[ci]? = some (C, T9, N9)) (hadr : w2.map (fun q => q.1) = w.map (fun q => q.1)) (hsz : ls.size = nL) (hst : st = As.reverse ++ .ref b :: rest) (hroom : (rest.map fun v => v.category).sum ≤ 8)
    (hcs : cells + 1 ≤ R.cells ∧ slots + 6 ≤ R.slots) (hdg : decode cc pc = .ok (.invokevirtual index, 3))
    (kx : ∀ (ce : Cell) (q : Addr) (H1 : Heap) (locs1 : List Loc), hx_w D A s.heap w2 H1 locs1 → H1[q]? = some ce → ce.vm = .none → s.vm.findClass hx_IO = some ce.cls → vx_W p l e R s m args below meth c H1 locs1 (cells + 1) (slots + 6) Q (F0 m pc ls rest) q) : W p l e R s m args below meth c H locs cells slots Q (F0 m pc ls st) := by
  subst hst
  have hpre := hx_pre S hw (.ref b :: As)
  obtain ⟨hfix, hK, hA, hE, hlk⟩ := S
  obtain ⟨hP, hD, hS⟩ := hw
  have hF := hx_A hD hS hA
  have hrun := vx_runV (g := F0 m pc ls (As.reverse ++ .ref b :: rest)) (rest := rest) (e := e) (R := R) (below := below) (meth := meth) (locs := locs) (cells := cells) (slots := slots) hfix (hM H.size) (cwV n hfix.2.2.2.2 hG hw0 rfl rfl hd hR) ⟨hx_blind, va_recv hK hP hc he, hpre⟩ rfl hn hsz rfl (lv_room hroom) hdg ⟨hcs.1, hcs.2⟩
  intro T hT X
  rcases hrun T hT X with ⟨v', st₀, t, T', L, h0, X', hL, e1, e2, hv, go⟩ | ⟨q, st₀, t, T', L, E, ce, h0, X', hL, e1, e2, ⟨rfl, hP1, hz, hk⟩, hce, hcv, hcl, go⟩
  · exact hv.elim
  · rw [h0] at hz hk
    obtain ⟨t2, a1, b1⟩ := kx ce q T'.heap (locs ++ L) ⟨by rw [e1]; exact hP1, hx_D hadr hD (fun _ h => h), Nat.le_trans hS.1 (by rw [e1]; exact hz), fun q h1 h2 => by rw [e1, hk q (Nat.lt_of_lt_of_le h1 hS.1) (fun z => h2 (hF q z))]; exact hS.2.1 q h1 h2, fun q hq => by
        rcases List.mem_append.mp hq with h | h
        · exact hS.2.2 q h
        · exact hF _ (hL q h)⟩ (by rw [e1]; exact hce) hcv hcl T' rfl X'
    exact ⟨t2, go.trans a1, b1⟩
/-- .. not caught here -/
theorem hx_thr (S : hx_S p l s m args meth c cc nL Ts own A D tys) (hno : ∀ x ∈ c.exceptionTable.toList, False) (hw : hx_w D A s.heap w H locs) (hM : hx_X l D tys y ws fr lo (.ref b :: As) w w2) (hG : GoodIn Ts (wsV own index C y ws)) (hw0 : ws = Cond.code y bytes maxL ret :: ws')
    (hd : y.cls = C ∧ y.cls ≠ "java/lang/invoke/MethodHandle" ∧ y.cls ≠ "java/lang/invoke/VarHandle" ∧ (parseMethodDescriptor y.desc).map (fun d => d.parameters.length) = some n) (hn : As.length = n) (hR : fr + 1 ≤ R.frames ∧ 8 + (maxL + 11) + lo ≤ R.locals)
    (q0 ci : Nat) {fs : List Value} {T9 : u_T} {N9 : Nat} (he : w[q0]? = some (b, .inr (ci, fs))) (hc : vwCl[ci]? = some (C, T9, N9)) (hadr : w2.map (fun q => q.1) = w.map (fun q => q.1)) (hsz : ls.size = nL) (hst : st = As.reverse ++ .ref b :: rest) (hroom : (rest.map fun v => v.category).sum ≤ 8)
    (hcs : 1 ≤ R.cells ∧ 6 ≤ R.slots) (hdg : decode cc pc = .ok (.invokevirtual index, 3)) {Qc : Array Value → State → Outcome → State → Prop} : W p l e R s m args below meth c H locs 0 0 (vx_MQ below Qc (hx_XC D A w2) args s 1 6 A) (F0 m pc ls st) := by
  refine hx_thrV S hw hM hG hw0 hd hn hR q0 ci he hc hadr hsz hst hroom ⟨by omega, by omega⟩ hdg ?_
  intro ce q H1 locs1 hw1 hce hcv hcl
  exact vx_out (fun x hx => (hno x hx).elim) S.2.2.2.2 hce hcv hcl (fun t ht _ => ⟨rfl, by rw [ht]; exact hw1.1, hw1.2.2.F ht⟩) hw1.2.2.2.2 (by omega) (by omega)
end Calls
/-- 'throw new IndexOutOfBoundsException("..")' -/
theorem hx_new (S : hx_S p l s m args meth c cc nL Ts own A D tys) (hl : l.stackTraces = false) (hno : ∀ x ∈ c.exceptionTable.toList, False) (hw : hx_w D A s.heap w H locs) {text : String} {ik is ic : Nat} (hstr : ∃ a, vk_R own is text a s)
    (hk : Cond.classLink own ik hx_IO ∈ Ts) (hini : Cond.initialized hx_IO ∈ Ts) (hat : ∀ w ∈ (vx_atS own ic hx_IO ["java/lang/RuntimeException", "java/lang/Exception"]).filter goodWord, w ∈ Ts)
    (hbad : ∀ w ∈ (vx_atS own ic hx_IO ["java/lang/RuntimeException", "java/lang/Exception"]).filter (fun w => !goodWord w), w ∈ hx_bad)
    (hgood : ∀ w ∈ Cond.classLink own ik hx_IO :: Cond.initialized hx_IO :: vx_atS own ic hx_IO ["java/lang/RuntimeException", "java/lang/Exception"], vx_ot w = true) (hsz : ls.size = nL)
    (d0 : decode cc pc = .ok (.new ik, 3)) (d3 : decode cc (pc + 3) = .ok (.dup, 1)) (d4 : decode cc (pc + 4) = .ok (.ldc is, 2)) (d6 : decode cc (pc + 6) = .ok (.invokespecial ic, 3)) (d9 : decode cc (pc + 9) = .ok (.athrow, 1))
    (hR : 6 ≤ R.frames ∧ 82 ≤ R.locals ∧ 1 ≤ R.cells ∧ 6 ≤ R.slots) {Qc : Array Value → State → Outcome → State → Prop} : W p l e R s m args below meth c H locs 0 0 (vx_MQ below Qc (hx_XC D A w) args s 1 6 A) (F0 m pc ls []) := by
  obtain ⟨⟨hx, hb, hml, hown, hts⟩, hK, hA, ⟨e1, e2, e3, e4, e5, e6⟩, hlk⟩ := S
  obtain ⟨hP, hD, hS⟩ := hw
  obtain ⟨sa, hstr⟩ := hstr
  obtain ⟨r1, r2, r3, r4⟩ := hR
  refine vx_throwS hx hb hl (names := ["java/lang/RuntimeException", "java/lang/Exception"]) hown (by decide +kernel) (by decide +kernel) (hts _ hk) (hts _ hini) hstr (vx_hat (fun w h => hts w (hat w h)) hbad (hx_bad_use e1)) hgood e5 e6 hS (hsz.trans hml.symm) d0 d3 d4 d6 d9 (fun x hx => (hno x hx).elim)
    (by show 2 + 3 < R.frames; omega) (by show 0 + (13 * (2 + 1) + 43) ≤ R.locals; omega) (by omega) (by omega) hlk ?_ hS.2.2 (by omega) (by omega)
  intro t hal hz hq
  exact ⟨rfl, hP.kept (fun k q hk => hq q.1 ((hP k q hk).lt)), Nat.le_trans hS.1 hz, fun q h1 h2 => by rw [hq q (Nat.lt_of_lt_of_le h1 hS.1)]; exact hS.2.1 q h1 h2⟩
/-- 'throw new IndexOutOfBoundsException()' -/
theorem hx_new0 (S : hx_S p l s m args meth c cc nL Ts own A D tys) (hl : l.stackTraces = false) (hno : ∀ x ∈ c.exceptionTable.toList, False) (hw : hx_w D A s.heap w H locs) {ik ic : Nat}
    (hk : Cond.classLink own ik hx_IO ∈ Ts) (hini : Cond.initialized hx_IO ∈ Ts) (hat : ∀ w ∈ (vx_at0 own ic hx_IO ["java/lang/RuntimeException", "java/lang/Exception"]).filter goodWord, w ∈ Ts)
    (hbad : ∀ w ∈ (vx_at0 own ic hx_IO ["java/lang/RuntimeException", "java/lang/Exception"]).filter (fun w => !goodWord w), w ∈ hx_bad)
    (hgood : ∀ w ∈ Cond.classLink own ik hx_IO :: Cond.initialized hx_IO :: vx_at0 own ic hx_IO ["java/lang/RuntimeException", "java/lang/Exception"], vx_ot w = true) (hsz : ls.size = nL)
    (d0 : decode cc pc = .ok (.new ik, 3)) (d3 : decode cc (pc + 3) = .ok (.dup, 1)) (d4 : decode cc (pc + 4) = .ok (.invokespecial ic, 3)) (d7 : decode cc (pc + 7) = .ok (.athrow, 1))
    (hR : 6 ≤ R.frames ∧ 82 ≤ R.locals ∧ 1 ≤ R.cells ∧ 6 ≤ R.slots) {Qc : Array Value → State → Outcome → State → Prop} : W p l e R s m args below meth c H locs 0 0 (vx_MQ below Qc (hx_XC D A w) args s 1 6 A) (F0 m pc ls []) := by
  obtain ⟨⟨hx, hb, hml, hown, hts⟩, hK, hA, ⟨e1, e2, e3, e4, e5, e6⟩, hlk⟩ := S
  obtain ⟨hP, hD, hS⟩ := hw
  obtain ⟨r1, r2, r3, r4⟩ := hR
  refine vx_throw0 hx hb hl (names := ["java/lang/RuntimeException", "java/lang/Exception"]) hown (by decide +kernel) (by decide +kernel) (hts _ hk) (hts _ hini) (vx_hat (fun w h => hts w (hat w h)) hbad (hx_bad_use e1)) hgood e5 e6 hS (hsz.trans hml.symm) d0 d3 d4 d7 (fun x hx => (hno x hx).elim)
    (by show 2 + 3 < R.frames; omega) (by show 0 + (13 * (2 + 1) + 42) ≤ R.locals; omega) (by omega) (by omega) hlk ?_ hS.2.2 (by omega) (by omega)
  intro t hal hz hq
  exact ⟨rfl, hP.kept (fun k q hk => hq q.1 ((hP k q hk).lt)), Nat.le_trans hS.1 hz, fun q h1 h2 => by rw [hq q (Nat.lt_of_lt_of_le h1 hS.1)]; exact hS.2.1 q h1 h2⟩
end HXR
