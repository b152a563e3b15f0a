section
-- ===== PART A: goes FIRST, ahead of the names: the tables' words, and 'selects' of the private methods out of them =====
/-- a private method of a class that the tables say can be made, by its rows of tables_1 -/
def lw_okq (q : MethodName × Nat) : Prop := (q.1.cls ≠ "java/lang/invoke/MethodHandle" ∧ q.1.cls ≠ "java/lang/invoke/VarHandle") ∧ Cond.instantiable q.1.cls q.2 ∈ tables_1 ∧ Cond.privateMethod q.1 ∈ tables_1 ∧ Cond.instanceMethod q.1 ∈ tables_1
theorem lw_p0 : lw_okq (⟨"java/lang/Throwable", "fillInStackTrace", "(I)Ljava/lang/Throwable;"⟩, 6) := ⟨⟨by decide +kernel, by decide +kernel⟩, List.mem_of_getElem? (i := 101) (by decide +kernel), List.mem_of_getElem? (i := 99) (by decide +kernel), List.mem_of_getElem? (i := 100) (by decide +kernel)⟩
theorem lw_p1 : lw_okq (⟨"HeapRow", "take", "(J)J"⟩, 3) := ⟨⟨by decide +kernel, by decide +kernel⟩, List.mem_of_getElem? (i := 10) (by decide +kernel), List.mem_of_getElem? (i := 159) (by decide +kernel), List.mem_of_getElem? (i := 160) (by decide +kernel)⟩
theorem lw_p2 : lw_okq (⟨"HeapRow", "firstFree", "(J)J"⟩, 3) := ⟨⟨by decide +kernel, by decide +kernel⟩, List.mem_of_getElem? (i := 10) (by decide +kernel), List.mem_of_getElem? (i := 172) (by decide +kernel), List.mem_of_getElem? (i := 173) (by decide +kernel)⟩
theorem lw_p3 : lw_okq (⟨"HeapRow", "isTaken", "(J)Z"⟩, 3) := ⟨⟨by decide +kernel, by decide +kernel⟩, List.mem_of_getElem? (i := 10) (by decide +kernel), List.mem_of_getElem? (i := 176) (by decide +kernel), List.mem_of_getElem? (i := 177) (by decide +kernel)⟩
theorem lw_p4 : lw_okq (⟨"HeapRow$Memory", "checkNumber", "(J)V"⟩, 1) := ⟨⟨by decide +kernel, by decide +kernel⟩, List.mem_of_getElem? (i := 18) (by decide +kernel), List.mem_of_getElem? (i := 185) (by decide +kernel), List.mem_of_getElem? (i := 186) (by decide +kernel)⟩
theorem lw_p5 : lw_okq (⟨"HeapRow", "size", "(J)J"⟩, 3) := ⟨⟨by decide +kernel, by decide +kernel⟩, List.mem_of_getElem? (i := 10) (by decide +kernel), List.mem_of_getElem? (i := 192) (by decide +kernel), List.mem_of_getElem? (i := 193) (by decide +kernel)⟩
theorem lw_p6 : lw_okq (⟨"HeapRow", "next", "(J)J"⟩, 3) := ⟨⟨by decide +kernel, by decide +kernel⟩, List.mem_of_getElem? (i := 10) (by decide +kernel), List.mem_of_getElem? (i := 196) (by decide +kernel), List.mem_of_getElem? (i := 197) (by decide +kernel)⟩
theorem lw_p7 : lw_okq (⟨"HeapRow", "takeFree", "(JJ)V"⟩, 3) := ⟨⟨by decide +kernel, by decide +kernel⟩, List.mem_of_getElem? (i := 10) (by decide +kernel), List.mem_of_getElem? (i := 200) (by decide +kernel), List.mem_of_getElem? (i := 201) (by decide +kernel)⟩
theorem lw_p8 : lw_okq (⟨"HeapRow", "writeHeader", "(JJI)V"⟩, 3) := ⟨⟨by decide +kernel, by decide +kernel⟩, List.mem_of_getElem? (i := 10) (by decide +kernel), List.mem_of_getElem? (i := 205) (by decide +kernel), List.mem_of_getElem? (i := 206) (by decide +kernel)⟩
theorem lw_p9 : lw_okq (⟨"HeapRow", "takeAtEnd", "(J)J"⟩, 3) := ⟨⟨by decide +kernel, by decide +kernel⟩, List.mem_of_getElem? (i := 10) (by decide +kernel), List.mem_of_getElem? (i := 216) (by decide +kernel), List.mem_of_getElem? (i := 217) (by decide +kernel)⟩
theorem lw_p10 : lw_okq (⟨"HeapRow", "clear", "(JJ)V"⟩, 3) := ⟨⟨by decide +kernel, by decide +kernel⟩, List.mem_of_getElem? (i := 10) (by decide +kernel), List.mem_of_getElem? (i := 227) (by decide +kernel), List.mem_of_getElem? (i := 228) (by decide +kernel)⟩
theorem lw_p11 : lw_okq (⟨"HeapRow", "takenBlock", "(J)J"⟩, 3) := ⟨⟨by decide +kernel, by decide +kernel⟩, List.mem_of_getElem? (i := 10) (by decide +kernel), List.mem_of_getElem? (i := 238) (by decide +kernel), List.mem_of_getElem? (i := 239) (by decide +kernel)⟩
theorem lw_p12 : lw_okq (⟨"HeapRow", "giveBack", "(J)V"⟩, 3) := ⟨⟨by decide +kernel, by decide +kernel⟩, List.mem_of_getElem? (i := 10) (by decide +kernel), List.mem_of_getElem? (i := 245) (by decide +kernel), List.mem_of_getElem? (i := 246) (by decide +kernel)⟩
theorem lw_p13 : lw_okq (⟨"HeapRow", "joinNext", "(J)V"⟩, 3) := ⟨⟨by decide +kernel, by decide +kernel⟩, List.mem_of_getElem? (i := 10) (by decide +kernel), List.mem_of_getElem? (i := 249) (by decide +kernel), List.mem_of_getElem? (i := 250) (by decide +kernel)⟩
theorem lw_p14 : lw_okq (⟨"HeapRow", "blockBefore", "(J)J"⟩, 3) := ⟨⟨by decide +kernel, by decide +kernel⟩, List.mem_of_getElem? (i := 10) (by decide +kernel), List.mem_of_getElem? (i := 253) (by decide +kernel), List.mem_of_getElem? (i := 254) (by decide +kernel)⟩
theorem lw_p15 : lw_okq (⟨"HeapRow", "copy", "(JJJ)V"⟩, 3) := ⟨⟨by decide +kernel, by decide +kernel⟩, List.mem_of_getElem? (i := 10) (by decide +kernel), List.mem_of_getElem? (i := 257) (by decide +kernel), List.mem_of_getElem? (i := 258) (by decide +kernel)⟩
def lw_privs_1 : List (MethodName × Nat) := [(⟨"java/lang/Throwable", "fillInStackTrace", "(I)Ljava/lang/Throwable;"⟩, 6), (⟨"HeapRow", "take", "(J)J"⟩, 3), (⟨"HeapRow", "firstFree", "(J)J"⟩, 3), (⟨"HeapRow", "isTaken", "(J)Z"⟩, 3), (⟨"HeapRow$Memory", "checkNumber", "(J)V"⟩, 1), (⟨"HeapRow", "size", "(J)J"⟩, 3), (⟨"HeapRow", "next", "(J)J"⟩, 3), (⟨"HeapRow", "takeFree", "(JJ)V"⟩, 3), (⟨"HeapRow", "writeHeader", "(JJI)V"⟩, 3), (⟨"HeapRow", "takeAtEnd", "(J)J"⟩, 3), (⟨"HeapRow", "clear", "(JJ)V"⟩, 3), (⟨"HeapRow", "takenBlock", "(J)J"⟩, 3), (⟨"HeapRow", "giveBack", "(J)V"⟩, 3), (⟨"HeapRow", "joinNext", "(J)V"⟩, 3), (⟨"HeapRow", "blockBefore", "(J)J"⟩, 3), (⟨"HeapRow", "copy", "(JJJ)V"⟩, 3)]
theorem lw_r1 : ∀ q ∈ lw_privs_1, lw_okq q := List.forall_mem_cons.mpr ⟨lw_p0, List.forall_mem_cons.mpr ⟨lw_p1, List.forall_mem_cons.mpr ⟨lw_p2, List.forall_mem_cons.mpr ⟨lw_p3, List.forall_mem_cons.mpr ⟨lw_p4, List.forall_mem_cons.mpr ⟨lw_p5, List.forall_mem_cons.mpr ⟨lw_p6, List.forall_mem_cons.mpr ⟨lw_p7, List.forall_mem_cons.mpr ⟨lw_p8, List.forall_mem_cons.mpr ⟨lw_p9, List.forall_mem_cons.mpr ⟨lw_p10, List.forall_mem_cons.mpr ⟨lw_p11, List.forall_mem_cons.mpr ⟨lw_p12, List.forall_mem_cons.mpr ⟨lw_p13, List.forall_mem_cons.mpr ⟨lw_p14, List.forall_mem_cons.mpr ⟨lw_p15, fun _ h => absurd h List.not_mem_nil⟩⟩⟩⟩⟩⟩⟩⟩⟩⟩⟩⟩⟩⟩⟩⟩
theorem lw_p16 : lw_okq (⟨"HeapRowModel", "take", "(J)I"⟩, 5) := ⟨⟨by decide +kernel, by decide +kernel⟩, List.mem_of_getElem? (i := 268) (by decide +kernel), List.mem_of_getElem? (i := 304) (by decide +kernel), List.mem_of_getElem? (i := 305) (by decide +kernel)⟩
theorem lw_p17 : lw_okq (⟨"HeapRowModel", "sizeAt", "(J)J"⟩, 5) := ⟨⟨by decide +kernel, by decide +kernel⟩, List.mem_of_getElem? (i := 268) (by decide +kernel), List.mem_of_getElem? (i := 314) (by decide +kernel), List.mem_of_getElem? (i := 315) (by decide +kernel)⟩
theorem lw_p18 : lw_okq (⟨"HeapRowModel", "number", "(J)I"⟩, 5) := ⟨⟨by decide +kernel, by decide +kernel⟩, List.mem_of_getElem? (i := 268) (by decide +kernel), List.mem_of_getElem? (i := 318) (by decide +kernel), List.mem_of_getElem? (i := 319) (by decide +kernel)⟩
theorem lw_p19 : lw_okq (⟨"HeapRowModel", "read", "(J)I"⟩, 5) := ⟨⟨by decide +kernel, by decide +kernel⟩, List.mem_of_getElem? (i := 268) (by decide +kernel), List.mem_of_getElem? (i := 322) (by decide +kernel), List.mem_of_getElem? (i := 323) (by decide +kernel)⟩
theorem lw_p20 : lw_okq (⟨"HeapRowModel", "takenAt", "(J)Z"⟩, 5) := ⟨⟨by decide +kernel, by decide +kernel⟩, List.mem_of_getElem? (i := 268) (by decide +kernel), List.mem_of_getElem? (i := 340) (by decide +kernel), List.mem_of_getElem? (i := 341) (by decide +kernel)⟩
theorem lw_p21 : lw_okq (⟨"HeapRowModel", "set", "(JI)V"⟩, 5) := ⟨⟨by decide +kernel, by decide +kernel⟩, List.mem_of_getElem? (i := 268) (by decide +kernel), List.mem_of_getElem? (i := 346) (by decide +kernel), List.mem_of_getElem? (i := 347) (by decide +kernel)⟩
theorem lw_p22 : lw_okq (⟨"HeapRowModel", "write", "(JI)V"⟩, 5) := ⟨⟨by decide +kernel, by decide +kernel⟩, List.mem_of_getElem? (i := 268) (by decide +kernel), List.mem_of_getElem? (i := 351) (by decide +kernel), List.mem_of_getElem? (i := 352) (by decide +kernel)⟩
theorem lw_p23 : lw_okq (⟨"HeapRowModel", "resized", "(II)I"⟩, 5) := ⟨⟨by decide +kernel, by decide +kernel⟩, List.mem_of_getElem? (i := 268) (by decide +kernel), List.mem_of_getElem? (i := 365) (by decide +kernel), List.mem_of_getElem? (i := 366) (by decide +kernel)⟩
theorem lw_p24 : lw_okq (⟨"HeapRowModel", "give", "(I)Z"⟩, 5) := ⟨⟨by decide +kernel, by decide +kernel⟩, List.mem_of_getElem? (i := 268) (by decide +kernel), List.mem_of_getElem? (i := 369) (by decide +kernel), List.mem_of_getElem? (i := 370) (by decide +kernel)⟩
theorem lw_p25 : lw_okq (⟨"HeapRowModel", "found", "(I)J"⟩, 5) := ⟨⟨by decide +kernel, by decide +kernel⟩, List.mem_of_getElem? (i := 268) (by decide +kernel), List.mem_of_getElem? (i := 373) (by decide +kernel), List.mem_of_getElem? (i := 374) (by decide +kernel)⟩
def lw_privs_2 : List (MethodName × Nat) := [(⟨"HeapRowModel", "take", "(J)I"⟩, 5), (⟨"HeapRowModel", "sizeAt", "(J)J"⟩, 5), (⟨"HeapRowModel", "number", "(J)I"⟩, 5), (⟨"HeapRowModel", "read", "(J)I"⟩, 5), (⟨"HeapRowModel", "takenAt", "(J)Z"⟩, 5), (⟨"HeapRowModel", "set", "(JI)V"⟩, 5), (⟨"HeapRowModel", "write", "(JI)V"⟩, 5), (⟨"HeapRowModel", "resized", "(II)I"⟩, 5), (⟨"HeapRowModel", "give", "(I)Z"⟩, 5), (⟨"HeapRowModel", "found", "(I)J"⟩, 5)]
theorem lw_r2 : ∀ q ∈ lw_privs_2, lw_okq q := List.forall_mem_cons.mpr ⟨lw_p16, List.forall_mem_cons.mpr ⟨lw_p17, List.forall_mem_cons.mpr ⟨lw_p18, List.forall_mem_cons.mpr ⟨lw_p19, List.forall_mem_cons.mpr ⟨lw_p20, List.forall_mem_cons.mpr ⟨lw_p21, List.forall_mem_cons.mpr ⟨lw_p22, List.forall_mem_cons.mpr ⟨lw_p23, List.forall_mem_cons.mpr ⟨lw_p24, List.forall_mem_cons.mpr ⟨lw_p25, fun _ h => absurd h List.not_mem_nil⟩⟩⟩⟩⟩⟩⟩⟩⟩⟩
def lw_privs : List (MethodName × Nat) := lw_privs_1 ++ (lw_privs_2)
def lw_tbl : List Cond := k2_sels lw_privs ++ tables_1
theorem lw_privs_ok : ∀ q ∈ lw_privs, lw_okq q := by
  show ∀ q ∈ lw_privs_1 ++ (lw_privs_2), lw_okq q
  exact List.forall_mem_append.mpr ⟨lw_r1, lw_r2⟩
-- ===== end of PART A; then your names; then what follows =====
end
section
/-! ===== BEGIN words of one list among another's, by their places ===== -/
theorem goodIn_r {big : List Cond} (ws : List Cond) (ps : List Nat) (hp : ws = ps.filterMap (fun i => big[i]?)) (h : ws.all goodWord = true) : GoodIn big ws := by
  intro w hw
  have h1 := List.all_eq_true.mp h w hw
  rw [hp] at hw
  obtain ⟨i, -, hi⟩ := List.mem_filterMap.mp hw
  have hm : w ∈ big := by first | exact List.mem_of_getElem? hi | exact List.getElem?_mem hi
  exact ⟨hm, good_of_word h1⟩
theorem goodIn_app {big a b : List Cond} (ha : GoodIn big a) (hb : GoodIn big b) : GoodIn big (a ++ b) := fun w h => (List.mem_append.mp h).elim (ha w) (hb w)
theorem goodIn_ca {big a b : List Cond} {c : Cond} (ha : GoodIn big (c :: a)) (hb : GoodIn big b) : GoodIn big (c :: (a ++ b)) := fun w h => (List.mem_cons.mp h).elim (fun e => ha w (List.mem_cons.mpr (Or.inl e))) (fun h => (List.mem_append.mp h).elim (fun h => ha w (List.mem_cons.mpr (Or.inr h))) (hb w))
theorem goodIn_sub {big ws : List Cond} (hm : ∀ w ∈ ws, w ∈ big) (h : ws.all goodWord = true) : GoodIn big ws := fun w hw => ⟨hm w hw, good_of_word (List.all_eq_true.mp h w hw)⟩
/-! ===== END ===== -/

/-! ===== BEGIN exceptions that leave a method, and their catching by the caller (launches without stack traces) ===== -/
section VXA
/-! The laws vx_back, vx_callV, vx_callS, vx_callSW, vx_throw0, vx_throwS follow proofs of the library, with one case more: JvmDerived/Free/Laws.lean (Back.of_free), Shelf42/LK1.lean (callV, callS), Shelf/KitTraced.lean (throwNew0V, throwNewS). -/
/-- where a method has thrown q: the class by its name, the cell, what was written, the world -/
def vx_T (XC : String → State → State → Prop) (st : State) (q : Addr) (t : State) (mc ms : Nat) (free : Addr → Prop) : Prop :=
  ∃ (E : String) (ce : Cell) (L : List Loc), XC E st t ∧ t.heap[q]? = some ce ∧ ce.vm = .none ∧ st.vm.findClass E = some ce.cls ∧ st.WarmedH t.vm ∧ st.sameButNew ({ t with vm := st.vm } : State) L mc ms ∧ ∀ z ∈ L, free z.base
def vx_Q (Qc : Array Value → State → Outcome → State → Prop) (XC : String → State → State → Prop) (mc ms : Nat) (free : Addr → Prop) : Array Value → State → Outcome → State → Prop := fun a st o t =>
  (Qc a st o t ∧ ∃ L, FrameEnd st o t L mc ms ∧ ∀ q ∈ L, free q.base) ∨ ∃ q, o = .threw q ∧ vx_T XC st q t mc ms free
/-- a callee that returns or throws -/
def vx_Met (l : Launch) (y : MethodName) (ws : List Cond) (rm : Room) (Pc : Array Value → State → Prop) (Qc : Array Value → State → Outcome → State → Prop) (XC : String → State → State → Prop) (mc ms : Nat) (free : Addr → Prop) : Prop :=
  MetFree l y (headSpec ws rm) Pc (fun _ _ _ _ _ => True) (vx_Q Qc XC mc ms free)
def vx_Post (XC : String → State → State → Prop) (mc ms : Nat) (free : Addr → Prop) : Pt → Array Value → Addr → Pt → Prop := fun A a q B =>
  ∃ (g : JFrame) (mk : MethodId) (t : State) (L : List Loc) (E : String) (ce : Cell), B.U.heap = t.heap ∧ B.U.vm = t.vm ∧ XC E (A.U.calling g mk a) t ∧ t.heap[q]? = some ce ∧ ce.vm = .none ∧ A.U.vm.findClass E = some ce.cls ∧ B.locs = A.locs ++ L ∧ (∀ z ∈ L, free z.base) ∧ B.cells = A.cells + mc ∧ B.slots = A.slots + ms
def vx_Back (l : Launch) (R : Room) (p : Program) (e : Env) (below : List Frame) (s : State) (sargs : Array Value) (y : MethodName) (len W9 : Nat)
    (Pre : Pt → Array Value → Prop) (Post : Pt → Array Value → Option Value → Pt → Prop) (PostX : Pt → Array Value → Addr → Pt → Prop) : Prop :=
  ∀ (m : MethodId) (meth : Method) (c : Code) (A : Pt) (g : JFrame) (ig : Instr) (mk : MethodId) (a : Array Value),
    Stand p l e R s m sargs below meth c A.U A.locs A.cells A.slots → g.method = m → g.locals.size = c.maxLocals → decode c.code g.pc = .ok (ig, len) →
    2 * g.monitorRoom + (g.stack.map fun v => v.category).sum ≤ W9 → A.U.methodNamed? y = some mk → Pre A a →
    (∃ (v : Option Value) (B : Pt), Stand p l e R s m sargs below meth c B.U B.locs B.cells B.slots ∧ Post A a v B ∧
      Steps p.tables e below (doInvoke e (A.U.setTop g) [] mk a).1 (B.U.setTop { g with pc := g.pc + len, stack := v.toList ++ g.stack })) ∨
    (∃ (q : Addr) (B : Pt), Stand p l e R s m sargs below meth c B.U B.locs B.cells B.slots ∧ PostX A a q B ∧
      Steps p.tables e below (doInvoke e (A.U.setTop g) [] mk a).1 ((B.U.setTop g).pushFrame (.throwing q)))
section Payer
variable {l : Launch} {R : Room} {p : Program} {e : Env} {below : List Frame} {s : State} {sargs : Array Value} {y : MethodName} {len W9 : Nat}
theorem vx_back {ws : List Cond} {rm : Room} {Pc : Array Value → State → Prop} {Qc : Array Value → State → Outcome → State → Prop} {XC : String → State → State → Prop} {mc ms : Nat} {free : Addr → Prop} {bytes : ByteArray} {maxL : Nat} {ret : Option FieldType}
    (hM : vx_Met l y ws rm Pc Qc XC mc ms free) (hblind : FrameBlind Pc) (hrc : rm.cells = mc) (hrs : rm.slots = ms)
    (hframes : rm.frames + 1 ≤ R.frames) (hlocals : W9 + (maxL + 11) + rm.locals ≤ R.locals)
    (hws : ∀ w ∈ ws, ∀ a' U, s.WarmedH U.vm → w.before a' U = true) (hcode : Cond.code y bytes maxL ret ∈ ws) (hinit : ∀ a' U, s.WarmedH U.vm → (Cond.initialized y.cls).before a' U = true) :
    vx_Back l R p e below s sargs y len W9 (PreOf R mc ms Pc) (PostOf Qc mc ms free) (vx_Post XC mc ms free) := by
  intro m meth c A g ig mk a X hg hsize hdg hW hn hp
  have h1 : (headSpec ws rm).pre.before a A.U = true := atoms_intro fun w hw => hws w hw _ _ X.warmed
  have h2 : (Cond.code y bytes maxL ret).before a A.U = true := hws _ hcode _ _ X.warmed
  have h3 : (Cond.initialized y.cls).before a A.U = true := hinit _ _ X.warmed
  have h4 : A.cells + (headSpec ws rm).room.cells ≤ R.cells := by rw [show (headSpec ws rm).room.cells = mc from hrc]; exact hp.1
  have h5 : A.slots + (headSpec ws rm).room.slots ≤ R.slots := by rw [show (headSpec ws rm).room.slots = ms from hrs]; exact hp.2.1
  have hPc : Pc a (A.U.calling g mk a) := hblind _ _ _ _ hp.2.2
  obtain ⟨U, Ls, c0, s0⟩ := A
  dsimp only [Pt.U, Pt.locs, Pt.cells, Pt.slots] at h1 h2 h3 h4 h5 X hn hPc ⊢
  obtain ⟨methY, cY, hmY, hcY, -, hlY, -, -, -, -⟩ := Cond.code_spec hn h2
  obtain ⟨kY, hkY, -⟩ := className_of_methodNamed hn
  have hinitY : kY.init = .initialized := Cond.initialized_spec (findClass_of_methodNamed hn) hkY h3
  have h : At U g.method c below := by rw [hg]; exact X.here
  have hlocals9 : W9 + (maxL + 11) + (headSpec ws rm).room.locals ≤ R.locals := hlocals
  have happ : (headSpec ws rm).appliesLoose y e.platform (U.calling g mk a) = true :=
    Spec.appliesLoose_calling (g := g) h hdg hn hkY hinitY
      (X.room_calling (g := g) (R' := (headSpec ws rm).room) hsize hmY hcY hframes (by rw [hlY]; omega) h4 h5) h1
  obtain ⟨mid, hmid⟩ := h.above
  have hfr : (U.setTop g).frames = (.java g :: mid) ++ below := by rw [State.frames_setTop' g h.top, hmid]; rfl
  obtain ⟨o, s₂, hsteps, -, hend, hq⟩ := Steps.callFree hM p X.admits X.cas X.clock (acts := []) hfr happ hPc trivial
  have hq' : vx_Q Qc XC mc ms free a (U.calling g mk a) o s₂ := hq
  rw [State.frames_setTop' g h.top] at hend
  obtain ⟨g₀, hg0⟩ := Option.isSome_iff_exists.mp h.top
  obtain ⟨r, hr⟩ := State.topJava?_eq_some.mp hg0
  have hr' : (({ U with heap := s₂.heap, slotsUsed := s₂.slotsUsed } : State).setVm s₂.vm).frames = .java g₀ :: r := hr
  rcases hq' with ⟨hqc, L, hfe, hL⟩ | ⟨q, rfl, E, ce, L, hx, hce, hcv, hcl, hW₂, hsm, hL⟩
  · obtain ⟨⟨v, rfl⟩, hW₂, e2, q2, q3, q4, q5, q6⟩ := id hfe
    have e3 : s₂ = ({ (U.calling g mk a).setFrames s₂.frames with heap := s₂.heap, slotsUsed := s₂.slotsUsed } : State).setVm s₂.vm := by
      have : s₂ = ({ s₂ with vm := (U.calling g mk a).vm } : State).setVm s₂.vm := rfl
      rw [e2] at this
      exact this
    obtain ⟨c₂, i₂, len₂, hc₂, hd₂, hf₂⟩ := hend
    have hW' : U.WarmedH s₂.vm := hW₂
    have hcc : c₂ = c := by
      have h1 : s₂.code? g.method = U.code? g.method := by
        rw [State.code?_eq, State.code?_eq, hW'.alike.method?]
      exact Option.some.inj (hc₂.symm.trans (h1.trans h.code))
    subst hcc
    have hlen : len₂ = len := by rw [hdg] at hd₂; cases hd₂; rfl
    subst hlen
    have hs₂ : s₂ = (({ U with heap := s₂.heap, slotsUsed := s₂.slotsUsed } : State).setVm s₂.vm).setTop { g with pc := g.pc + len₂, stack := v.toList ++ g.stack } := by
      refine e3.trans ?_
      rw [hf₂, State.calling_eq h.top, State.setFrames_setFrames, State.setTop_of_frames _ hr', hr]
      rfl
    have hsame : U.sameButNew ({ U with heap := s₂.heap, slotsUsed := s₂.slotsUsed } : State) L mc ms := by
      refine ⟨?_, q2, q3, q4, q5, q6⟩
      obtain ⟨t, ht, -⟩ := State.frames_cons hr
      show ({ U with heap := s₂.heap, slotsUsed := s₂.slotsUsed } : State) = { U.setFrames U.frames with heap := s₂.heap, slotsUsed := s₂.slotsUsed }
      rw [State.setFrames_self ht]
    subst hg
    refine Or.inl ⟨v, ⟨(({ U with heap := s₂.heap, slotsUsed := s₂.slotsUsed } : State).setVm s₂.vm), Ls ++ L, c0 + mc, s0 + ms⟩,
      ⟨X.admits, X.cas, X.clock, X.frames, X.room, X.hears, X.method, X.code, (X.here.setHeapUsed s₂.heap s₂.slotsUsed).setVm hW'.alike, X.tail, State.WarmedH.trans X.warmed hW', X.limits, X.bytes, X.same.trans (hsame.setVm s.vm)⟩,
      ⟨g, mk, s₂, L, rfl, rfl, hqc, rfl, hL, rfl, rfl⟩, ?_⟩
    show Steps p.tables e below _ ((({ U with heap := s₂.heap, slotsUsed := s₂.slotsUsed } : State).setVm s₂.vm).setTop { g with pc := g.pc + len₂, stack := v.toList ++ g.stack })
    rw [← hs₂]
    exact hsteps
  · obtain ⟨e2, q2, q3, q4, q5, q6⟩ := id hsm
    have e3 : s₂ = ({ (U.calling g mk a).setFrames s₂.frames with heap := s₂.heap, slotsUsed := s₂.slotsUsed } : State).setVm s₂.vm := by
      have : s₂ = ({ s₂ with vm := (U.calling g mk a).vm } : State).setVm s₂.vm := rfl
      rw [e2] at this
      exact this
    have hf₂ : s₂.frames = .throwing q :: .java g :: U.frames.tail := hend
    have hW' : U.WarmedH s₂.vm := hW₂
    have hs₂ : s₂ = ((({ U with heap := s₂.heap, slotsUsed := s₂.slotsUsed } : State).setVm s₂.vm).setTop g).pushFrame (.throwing q) := by
      refine e3.trans ?_
      rw [hf₂, State.calling_eq h.top, State.setFrames_setFrames, State.pushFrame, State.frames_setTop _ hr', State.setTop_of_frames _ hr', State.setFrames_setFrames, hr]
      rfl
    have hsame : U.sameButNew ({ U with heap := s₂.heap, slotsUsed := s₂.slotsUsed } : State) L mc ms := by
      refine ⟨?_, q2, q3, q4, q5, q6⟩
      obtain ⟨t, ht, -⟩ := State.frames_cons hr
      show ({ U with heap := s₂.heap, slotsUsed := s₂.slotsUsed } : State) = { U.setFrames U.frames with heap := s₂.heap, slotsUsed := s₂.slotsUsed }
      rw [State.setFrames_self ht]
    subst hg
    refine Or.inr ⟨q, ⟨(({ U with heap := s₂.heap, slotsUsed := s₂.slotsUsed } : State).setVm s₂.vm), Ls ++ L, c0 + mc, s0 + ms⟩,
      ⟨X.admits, X.cas, X.clock, X.frames, X.room, X.hears, X.method, X.code, (X.here.setHeapUsed s₂.heap s₂.slotsUsed).setVm hW'.alike, X.tail, State.WarmedH.trans X.warmed hW', X.limits, X.bytes, X.same.trans (hsame.setVm s.vm)⟩,
      ⟨g, mk, s₂, L, E, ce, rfl, rfl, hx, hce, hcv, hcl, rfl, hL, rfl, rfl⟩, ?_⟩
    show Steps p.tables e below _ (((({ U with heap := s₂.heap, slotsUsed := s₂.slotsUsed } : State).setVm s₂.vm).setTop g).pushFrame (.throwing q))
    rw [← hs₂]
    exact hsteps
end Payer
section Calls
variable {p : Program} {l : Launch} {e : Env} {R : Room} {s : State} {m : MethodId} {args : Array Value} {below : List Frame} {meth : Method} {c : Code} {T : State} {locs : List Loc} {cells slots : Nat}
theorem vx_callV (X : Stand p l e R s m args below meth c T locs cells slots) (hexec : p.tables.exec = Jvm.exec) {own C : String} {index : Nat} {y : MethodName} {bytes : ByteArray} {maxL : Nat} {ret : Option FieldType}
    (hown : s.vm.findClass own = some m.cls) (hlink : (Cond.methodLink own index y).before args s = true) (hinst : (Cond.instanceMethod y).before args s = true) (hsel : (Cond.selects C y y).before args s = true)
    (hcode : (Cond.code y bytes maxL ret).before args s = true) (hy : y.cls ≠ "java/lang/invoke/MethodHandle" ∧ y.cls ≠ "java/lang/invoke/VarHandle")
    {W9 : Nat} {Pre : Pt → Array Value → Prop} {Post : Pt → Array Value → Option Value → Pt → Prop} {PostX : Pt → Array Value → Addr → Pt → Prop} (hK : vx_Back l R p e below s args y 3 W9 Pre Post PostX)
    {b : Addr} {cellB : Cell} (hcell : T.heap[b]? = some cellB) (hobj : cellB.vm.isStatics = false) (hcls : s.vm.findClass C = some cellB.cls)
    {g : JFrame} (hg : g.method = m) (hsize : g.locals.size = c.maxLocals) {argsL rest : List Value} (hlen : ∀ sig, parseMethodDescriptor y.desc = some sig → argsL.length = sig.parameters.length)
    (hstack : g.stack = argsL.reverse ++ .ref b :: rest) (hW : 2 * g.monitorRoom + (rest.map fun v => v.category).sum ≤ W9) (hdg : decode c.code g.pc = .ok (.invokevirtual index, 3))
    (hpre : ∀ vm₁, s.WarmedH vm₁ → Pre ⟨T.setVm vm₁, locs, cells, slots⟩ (Value.ref b :: argsL).toArray) :
    (∃ (v : Option Value) (vm₁ : Vm) (B : Pt), s.WarmedH vm₁ ∧ Stand p l e R s m args below meth c B.U B.locs B.cells B.slots ∧ Post ⟨T.setVm vm₁, locs, cells, slots⟩ (Value.ref b :: argsL).toArray v B ∧
      ∀ target, Steps p.tables e below (B.U.setTop { g with pc := g.pc + 3, stack := v.toList ++ rest }) target → Steps p.tables e below (T.setTop g) target) ∨
    (∃ (q : Addr) (vm₁ : Vm) (B : Pt), s.WarmedH vm₁ ∧ Stand p l e R s m args below meth c B.U B.locs B.cells B.slots ∧ PostX ⟨T.setVm vm₁, locs, cells, slots⟩ (Value.ref b :: argsL).toArray q B ∧
      Steps p.tables e below (T.setTop g) ((B.U.setTop { g with stack := rest }).pushFrame (.throwing q))) := by
  obtain ⟨mk, methM, hnamed, hmethM, hstM, habM⟩ := Cond.instanceMethod_spec hinst
  obtain ⟨methM', cM, hmethM', -, -, -, -, -, -, hsigM⟩ := Cond.code_spec hnamed hcode
  cases hmethM.symm.trans hmethM'
  obtain ⟨c2, r2, m2, q1, q2, q3, q4, kP, hkP, hkPi⟩ := Cond.selects_spec hsel
  cases hcls.symm.trans q1
  cases (State.methodFound?_of_named hnamed hy).symm.trans q2
  cases hnamed.symm.trans q3
  have hselP : selectMethod e.platform s.vm cellB.cls mk = .method mk := by rw [Launch.admits_selectMethod X.admits]; exact q4
  obtain ⟨vm₁, X₁, hstep₁⟩ := X.invokevirtual hexec hown hlink hnamed hmethM hstM hkP hkPi hy (a := b) (cell := cellB) hcell
    (fun z h => by rw [h] at hobj; cases hobj) hselP hmethM habM hkP hkPi (g := g) hg (argsL := argsL) (rest := rest) (hlen _ hsigM) hstack hdg
  rcases hK m meth c ⟨T.setVm vm₁, locs, cells, slots⟩ { g with stack := rest } (.invokevirtual index) mk (Value.ref b :: argsL).toArray X₁ hg hsize hdg hW (X₁.named hnamed) (hpre vm₁ X₁.warmed) with ⟨v, B, X', hpost, hsteps⟩ | ⟨q, B, X', hpost, hsteps⟩
  · exact Or.inl ⟨v, vm₁, B, X₁.warmed, X', hpost, fun target h => hstep₁ _ fun acts => by rw [doInvoke_state]; exact hsteps.trans h⟩
  · exact Or.inr ⟨q, vm₁, B, X₁.warmed, X', hpost, hstep₁ _ fun acts => by rw [doInvoke_state]; exact hsteps⟩
theorem vx_callS (X : Stand p l e R s m args below meth c T locs cells slots) (hexec : p.tables.exec = Jvm.exec) {own : String} {index : Nat} {y : MethodName} {bytes : ByteArray} {maxL : Nat} {ret : Option FieldType}
    (hown : s.vm.findClass own = some m.cls) (hlink : (Cond.methodLink own index y).before args s = true) (hstat : (Cond.static y).before args s = true) (hinit : (Cond.initialized y.cls).before args s = true)
    (hcode : (Cond.code y bytes maxL ret).before args s = true) (hy : y.cls ≠ "java/lang/invoke/MethodHandle" ∧ y.cls ≠ "java/lang/invoke/VarHandle")
    {W9 : Nat} {Pre : Pt → Array Value → Prop} {Post : Pt → Array Value → Option Value → Pt → Prop} {PostX : Pt → Array Value → Addr → Pt → Prop} (hK : vx_Back l R p e below s args y 3 W9 Pre Post PostX)
    {g : JFrame} (hg : g.method = m) (hsize : g.locals.size = c.maxLocals) {argsL rest : List Value} (hlen : ∀ sig, parseMethodDescriptor y.desc = some sig → argsL.length = sig.parameters.length)
    (hstack : g.stack = argsL.reverse ++ rest) (hW : 2 * g.monitorRoom + (rest.map fun v => v.category).sum ≤ W9) (hdg : decode c.code g.pc = .ok (.invokestatic index, 3))
    (hpre : ∀ vm₁, s.WarmedH vm₁ → Pre ⟨T.setVm vm₁, locs, cells, slots⟩ argsL.toArray) :
    (∃ (v : Option Value) (vm₁ : Vm) (B : Pt), s.WarmedH vm₁ ∧ Stand p l e R s m args below meth c B.U B.locs B.cells B.slots ∧ Post ⟨T.setVm vm₁, locs, cells, slots⟩ argsL.toArray v B ∧
      ∀ target, Steps p.tables e below (B.U.setTop { g with pc := g.pc + 3, stack := v.toList ++ rest }) target → Steps p.tables e below (T.setTop g) target) ∨
    (∃ (q : Addr) (vm₁ : Vm) (B : Pt), s.WarmedH vm₁ ∧ Stand p l e R s m args below meth c B.U B.locs B.cells B.slots ∧ PostX ⟨T.setVm vm₁, locs, cells, slots⟩ argsL.toArray q B ∧
      Steps p.tables e below (T.setTop g) ((B.U.setTop { g with stack := rest }).pushFrame (.throwing q))) := by
  obtain ⟨mk, hnamed⟩ := Cond.code_named hcode
  obtain ⟨methM, cM, hmethM, -, -, -, -, -, -, hsigM⟩ := Cond.code_spec hnamed hcode
  have hstatic : methM.isStatic = true := Cond.static_spec hnamed hmethM hstat
  obtain ⟨kP, hkP, -⟩ := className_of_methodNamed hnamed
  have hinitP : kP.init = .initialized := Cond.initialized_spec (findClass_of_methodNamed hnamed) hkP hinit
  obtain ⟨vm₁, X₁, hstep₁⟩ := X.invokestatic hexec hown hlink hnamed hmethM hstatic hkP hinitP hy (g := g) hg (argsL := argsL) (rest := rest) (hlen _ hsigM) hstack hdg
  rcases hK m meth c ⟨T.setVm vm₁, locs, cells, slots⟩ { g with stack := rest } (.invokestatic index) mk argsL.toArray X₁ hg hsize hdg hW (X₁.named hnamed) (hpre vm₁ X₁.warmed) with ⟨v, B, X', hpost, hsteps⟩ | ⟨q, B, X', hpost, hsteps⟩
  · exact Or.inl ⟨v, vm₁, B, X₁.warmed, X', hpost, fun target h => hstep₁ _ fun acts => by rw [doInvoke_state]; exact hsteps.trans h⟩
  · exact Or.inr ⟨q, vm₁, B, X₁.warmed, X', hpost, hstep₁ _ fun acts => by rw [doInvoke_state]; exact hsteps⟩
end Calls
theorem vx_cls {s : State} {T : State} {vm₁ : Vm} {E : String} {k : ClassId} (hW : s.WarmedH vm₁) (h : (T.setVm vm₁).vm.findClass E = some k) : s.vm.findClass E = some k := by
  have h1 : vm₁.findClass E = some k := h
  rw [hW.alike.findClass] at h1
  exact h1
/-- the method's frame g, with q thrown over it -/
def vx_W (p : Program) (l : Launch) (e : Env) (R : Room) (s : State) (m : MethodId) (args : Array Value) (below : List Frame) (meth : Method) (c : Code) (H : Heap) (locs : List Loc) (cells slots : Nat) (Q : State → Prop) (g : JFrame) (q : Addr) : Prop :=
  ∀ T : State, T.heap = H → Stand p l e R s m args below meth c T locs cells slots → ∃ t, Steps p.tables e below ((T.setTop g).pushFrame (.throwing q)) t ∧ Q t
def vx_Run (p : Program) (l : Launch) (e : Env) (R : Room) (s : State) (m : MethodId) (args : Array Value) (below : List Frame) (meth : Method) (c : Code) (H : Heap) (locs : List Loc) (cells slots mc ms : Nat) (g : JFrame) (rest : List Value) (Qa : State → Outcome → State → Prop) (XC : String → State → State → Prop) (free : Addr → Prop) : Prop :=
  ∀ T : State, T.heap = H → Stand p l e R s m args below meth c T locs cells slots →
    (∃ (v : Option Value) (st₀ t T' : State) (L : List Loc), st₀.heap = H ∧ Stand p l e R s m args below meth c T' (locs ++ L) (cells + mc) (slots + ms) ∧ (∀ q ∈ L, free q.base) ∧ T'.heap = t.heap ∧ T'.vm = t.vm ∧ Qa st₀ (.returned v) t ∧
      Goes p e below T g T' { g with pc := g.pc + 3, stack := v.toList ++ rest }) ∨
    (∃ (q : Addr) (st₀ t T' : State) (L : List Loc) (E : String) (ce : Cell), st₀.heap = H ∧ Stand p l e R s m args below meth c T' (locs ++ L) (cells + mc) (slots + ms) ∧ (∀ z ∈ L, free z.base) ∧ T'.heap = t.heap ∧ T'.vm = t.vm ∧ XC E st₀ t ∧ t.heap[q]? = some ce ∧ ce.vm = .none ∧ s.vm.findClass E = some ce.cls ∧
      Steps p.tables e below (T.setTop g) ((T'.setTop { g with stack := rest }).pushFrame (.throwing q)))
def vx_X {S : Type} (px : S → Prop) (B : String → S → State → Prop) (A : Nat → Prop) : String → State → State → Prop := fun E st t => ∃ u : S, px u ∧ B E u t ∧ va_F A st t
section Runs
variable {p : Program} {l : Launch} {e : Env} {R : Room} {s : State} {m : MethodId} {args : Array Value} {below : List Frame} {meth : Method} {c : Code} {H : Heap} {locs : List Loc} {cells slots : Nat}
variable {y : MethodName} {bytes cc : ByteArray} {maxL nL mc ms n index : Nat} {ret : Option FieldType} {ws : List Cond} {rm : Room} {Pc : Array Value → State → Prop} {Qc : Array Value → State → Outcome → State → Prop} {XC : String → State → State → Prop} {free : Addr → Prop} {Ts : List Cond} {own C : String} {b : Addr} {As rest : List Value} {g : JFrame}
theorem vx_callBack (cb : CallB R s args own index y bytes maxL ret ws rm mc ms n) (hM : vx_Met l y ws rm Pc Qc XC mc ms free) (hbl : FrameBlind Pc) : vx_Back l R p e below s args y 3 8 (PreOf R mc ms Pc) (PostOf Qc mc ms free) (vx_Post XC mc ms free) := by
  obtain ⟨hrc, hrs, hfr, hlo, hws, hcw, -, hini, -⟩ := cb
  exact vx_back (bytes := bytes) (maxL := maxL) (ret := ret) hM hbl hrc hrs hfr hlo hws hcw (fun a' U hW => word_at hW (Or.inl (by first | rfl | simp [Cond.onTables, Cond.keeps, Cond.steady])) hini)
theorem vx_runV (S : CallFix p m c cc nL s args Ts own) (hM : vx_Met l y ws rm Pc Qc XC mc ms free) (cw : CallW R s args own C index y bytes maxL ret ws rm mc ms n) (hp : PreV s H C b Pc As)
    (hg : g.method = m) (hn : As.length = n) (hsize : g.locals.size = nL) (hstack : g.stack = As.reverse ++ .ref b :: rest) (hW : 2 * g.monitorRoom + (rest.map fun v => v.category).sum ≤ 8) (hdg : decode cc g.pc = .ok (.invokevirtual index, 3)) (hf : cells + mc ≤ R.cells ∧ slots + ms ≤ R.slots) :
    vx_Run p l e R s m args below meth c H locs cells slots mc ms g rest (Qc (Value.ref b :: As).toArray) XC free := by
  have hK : vx_Back l R p e below s args y 3 8 (PreOf R mc ms Pc) (PostOf Qc mc ms free) (vx_Post XC mc ms free) := vx_callBack cw.1 hM hp.1
  obtain ⟨⟨-, -, -, -, -, -, hcode, -, hy, hlen, hl⟩, hin, hse⟩ := cw
  obtain ⟨hx, hb, hml, ho, -⟩ := S
  obtain ⟨-, ⟨cellB, hcB, hoB, hclB⟩, hPc⟩ := hp
  intro T hT X
  rcases vx_callV X hx (C := C) (bytes := bytes) (maxL := maxL) (ret := ret) ho hl hin hse hcode hy hK (by rw [hT]; exact hcB) hoB hclB hg (hsize.trans hml.symm) (argsL := As) (rest := rest) (fun sig h => hn.trans (hlen sig h)) hstack hW (by rw [hb]; exact hdg)
    (fun vm₁ hW₁ => ⟨hf.1, hf.2, hPc (T.setVm vm₁) hT hW₁⟩) with ⟨v, vm₁, ⟨U', l2, c2, s2⟩, hW₁, X', ⟨g', mk, t, L, e1, e2, hq, h1, hL, h2, h3⟩, st⟩ | ⟨q, vm₁, ⟨U', l2, c2, s2⟩, hW₁, X', ⟨g', mk, t, L, E, ce, e1, e2, hq, hce, hcv, hcl, h1, hL, h2, h3⟩, st⟩
  · dsimp only [Pt.U, Pt.locs, Pt.cells, Pt.slots] at X' e1 e2 h1 h2 h3 st
    subst h1; subst h2; subst h3
    exact Or.inl ⟨v, (T.setVm vm₁).calling g' mk (Value.ref b :: As).toArray, t, U', L, hT, X', hL, e1, e2, hq, st⟩
  · dsimp only [Pt.U, Pt.locs, Pt.cells, Pt.slots] at X' e1 e2 h1 h2 h3 st hcl
    subst h1; subst h2; subst h3
    exact Or.inr ⟨q, (T.setVm vm₁).calling g' mk (Value.ref b :: As).toArray, t, U', L, E, ce, hT, X', hL, e1, e2, hq, hce, hcv, vx_cls hW₁ hcl, st⟩
theorem vx_runS (S : CallFix p m c cc nL s args Ts own) (hM : vx_Met l y ws rm Pc Qc XC mc ms free) (cw : CallB R s args own index y bytes maxL ret ws rm mc ms n ∧ (Cond.static y).before args s = true) (hp : PreS s H Pc As)
    (hg : g.method = m) (hn : As.length = n) (hsize : g.locals.size = nL) (hstack : g.stack = As.reverse ++ rest) (hW : 2 * g.monitorRoom + (rest.map fun v => v.category).sum ≤ 8) (hdg : decode cc g.pc = .ok (.invokestatic index, 3)) (hf : cells + mc ≤ R.cells ∧ slots + ms ≤ R.slots) :
    vx_Run p l e R s m args below meth c H locs cells slots mc ms g rest (Qc As.toArray) XC free := by
  have hK : vx_Back l R p e below s args y 3 8 (PreOf R mc ms Pc) (PostOf Qc mc ms free) (vx_Post XC mc ms free) := vx_callBack cw.1 hM hp.1
  obtain ⟨⟨-, -, -, -, -, -, hcode, hini, hy, hlen, hl⟩, hstt⟩ := cw
  obtain ⟨hx, hb, hml, ho, -⟩ := S
  intro T hT X
  rcases vx_callS X hx (bytes := bytes) (maxL := maxL) (ret := ret) ho hl hstt hini hcode hy hK hg (hsize.trans hml.symm) (argsL := As) (rest := rest) (fun sig h => hn.trans (hlen sig h)) hstack hW (by rw [hb]; exact hdg)
    (fun vm₁ hW₁ => ⟨hf.1, hf.2, hp.2 (T.setVm vm₁) hT hW₁⟩) with ⟨v, vm₁, ⟨U', l2, c2, s2⟩, hW₁, X', ⟨g', mk, t, L, e1, e2, hq, h1, hL, h2, h3⟩, st⟩ | ⟨q, vm₁, ⟨U', l2, c2, s2⟩, hW₁, X', ⟨g', mk, t, L, E, ce, e1, e2, hq, hce, hcv, hcl, h1, hL, h2, h3⟩, st⟩
  · dsimp only [Pt.U, Pt.locs, Pt.cells, Pt.slots] at X' e1 e2 h1 h2 h3 st
    subst h1; subst h2; subst h3
    exact Or.inl ⟨v, (T.setVm vm₁).calling g' mk As.toArray, t, U', L, hT, X', hL, e1, e2, hq, st⟩
  · dsimp only [Pt.U, Pt.locs, Pt.cells, Pt.slots] at X' e1 e2 h1 h2 h3 st hcl
    subst h1; subst h2; subst h3
    exact Or.inr ⟨q, (T.setVm vm₁).calling g' mk As.toArray, t, U', L, E, ce, hT, X', hL, e1, e2, hq, hce, hcv, vx_cls hW₁ hcl, st⟩
end Runs
section Rows
variable {p : Program} {l : Launch} {e : Env} {R : Room} {s : State} {m : MethodId} {args : Array Value} {below : List Frame} {meth : Method} {c : Code} {H : Heap} {locs : List Loc} {cells slots : Nat} {Q : State → Prop}
variable {mc ms : Nat} {free : Addr → Prop} {A0 A1 : Nat → Prop} {H0 : Heap} {a : Array Value} {pc : Nat} {ls : Array Slot} {st0 rest : List Value}
theorem vx_keep {st₀ t T' : State} {L : List Loc} (h0 : st₀.heap = H) (e1 : T'.heap = t.heap) (hS : va_S A0 H0 H locs) (hA : ∀ q, q < H.size → A1 q → A0 q) (hf : ∀ q, free q → A0 q) (hL : ∀ q ∈ L, free q.base) (hF : va_F A1 st₀ t) :
    H.size ≤ T'.heap.size ∧ (∀ q : Nat, q < H.size → ¬ A1 q → T'.heap[q]? = H[q]?) ∧ va_S A0 H0 T'.heap (locs ++ L) := by
  obtain ⟨hz, hk⟩ := hF
  rw [h0] at hz hk
  exact ⟨by rw [e1]; exact hz, fun q h1 h2 => by rw [e1]; exact hk q h1 h2,
    ⟨Nat.le_trans hS.1 (by rw [e1]; exact hz), fun q h1 h2 => by rw [e1, hk q (Nat.lt_of_lt_of_le h1 hS.1) (fun z => h2 (hA q (Nat.lt_of_lt_of_le h1 hS.1) z))]; exact hS.2.1 q h1 h2, fun q hq => by
      rcases List.mem_append.mp hq with h | h
      · exact hS.2.2 q h
      · exact hf _ (hL q h)⟩⟩
theorem vx_calli {S SX : Type} {post : Int32 → S → Prop} {px : SX → Prop} {B : S → State → Prop} {BX : String → SX → State → Prop} {AX : Nat → Prop} (hr : vx_Run p l e R s m args below meth c H locs cells slots mc ms (F0 m pc ls st0) rest (va_Qi post B A1 a) (vx_X px BX AX) free) (hS : va_S A0 H0 H locs) (hA : ∀ q, q < H.size → A1 q → A0 q) (hf : ∀ q, free q → A0 q) (hAX : ∀ q, q < H.size → AX q → A0 q)
    (kx : ∀ (E : String) (ce : Cell) (q9 : Addr) (u : SX) (t : State) (H1 : Heap) (locs1 : List Loc), t.heap = H1 → s.vm.Alike t.vm → px u → BX E u t → H.size ≤ H1.size → (∀ q : Nat, q < H.size → ¬ AX q → H1[q]? = H[q]?) → va_S A0 H0 H1 locs1 → H1[q9]? = some ce → ce.vm = .none → s.vm.findClass E = some ce.cls → vx_W p l e R s m args below meth c H1 locs1 (cells + mc) (slots + ms) Q (F0 m pc ls rest) q9)
    (kk : ∀ (r : Int32) (u : S) (t : State) (H1 : Heap) (locs1 : List Loc), t.heap = H1 → s.vm.Alike t.vm → post r u → B u t → H.size ≤ H1.size → (∀ q : Nat, q < H.size → ¬ A1 q → H1[q]? = H[q]?) → va_S A0 H0 H1 locs1 → W p l e R s m args below meth c H1 locs1 (cells + mc) (slots + ms) Q (F0 m (pc + 3) ls (.int r :: rest))) : W p l e R s m args below meth c H locs cells slots Q (F0 m pc ls st0) := by
  intro T hT X
  rcases hr T hT X with ⟨v, st₀, t, T', L, h0, X', hL, e1, e2, ⟨⟨r, u, hv, hp, hb⟩, hF⟩, st⟩ | ⟨q, st₀, t, T', L, E, ce, h0, X', hL, e1, e2, ⟨u, hp, hb, hF⟩, hce, hcv, hcl, st⟩
  · cases hv
    obtain ⟨k1, k2, k3⟩ := vx_keep h0 e1 hS hA hf hL hF
    obtain ⟨t2, a1, b1⟩ := kk r u t T'.heap (locs ++ L) e1.symm (by rw [← e2]; exact X'.warmed.alike) hp hb k1 k2 k3 T' rfl X'
    exact ⟨t2, st t2 a1, b1⟩
  · obtain ⟨k1, k2, k3⟩ := vx_keep h0 e1 hS hAX hf hL hF
    obtain ⟨t2, a1, b1⟩ := kx E ce q u t T'.heap (locs ++ L) e1.symm (by rw [← e2]; exact X'.warmed.alike) hp hb k1 k2 k3 (by rw [e1]; exact hce) hcv hcl T' rfl X'
    exact ⟨t2, st.trans a1, b1⟩
theorem vx_calll {S SX : Type} {post : Int64 → S → Prop} {px : SX → Prop} {B : S → State → Prop} {BX : String → SX → State → Prop} {AX : Nat → Prop} (hr : vx_Run p l e R s m args below meth c H locs cells slots mc ms (F0 m pc ls st0) rest (va_Ql post B A1 a) (vx_X px BX AX) free) (hS : va_S A0 H0 H locs) (hA : ∀ q, q < H.size → A1 q → A0 q) (hf : ∀ q, free q → A0 q) (hAX : ∀ q, q < H.size → AX q → A0 q)
    (kx : ∀ (E : String) (ce : Cell) (q9 : Addr) (u : SX) (t : State) (H1 : Heap) (locs1 : List Loc), t.heap = H1 → s.vm.Alike t.vm → px u → BX E u t → H.size ≤ H1.size → (∀ q : Nat, q < H.size → ¬ AX q → H1[q]? = H[q]?) → va_S A0 H0 H1 locs1 → H1[q9]? = some ce → ce.vm = .none → s.vm.findClass E = some ce.cls → vx_W p l e R s m args below meth c H1 locs1 (cells + mc) (slots + ms) Q (F0 m pc ls rest) q9)
    (kk : ∀ (r : Int64) (u : S) (t : State) (H1 : Heap) (locs1 : List Loc), t.heap = H1 → s.vm.Alike t.vm → post r u → B u t → H.size ≤ H1.size → (∀ q : Nat, q < H.size → ¬ A1 q → H1[q]? = H[q]?) → va_S A0 H0 H1 locs1 → W p l e R s m args below meth c H1 locs1 (cells + mc) (slots + ms) Q (F0 m (pc + 3) ls (.long r :: rest))) : W p l e R s m args below meth c H locs cells slots Q (F0 m pc ls st0) := by
  intro T hT X
  rcases hr T hT X with ⟨v, st₀, t, T', L, h0, X', hL, e1, e2, ⟨⟨r, u, hv, hp, hb⟩, hF⟩, st⟩ | ⟨q, st₀, t, T', L, E, ce, h0, X', hL, e1, e2, ⟨u, hp, hb, hF⟩, hce, hcv, hcl, st⟩
  · cases hv
    obtain ⟨k1, k2, k3⟩ := vx_keep h0 e1 hS hA hf hL hF
    obtain ⟨t2, a1, b1⟩ := kk r u t T'.heap (locs ++ L) e1.symm (by rw [← e2]; exact X'.warmed.alike) hp hb k1 k2 k3 T' rfl X'
    exact ⟨t2, st t2 a1, b1⟩
  · obtain ⟨k1, k2, k3⟩ := vx_keep h0 e1 hS hAX hf hL hF
    obtain ⟨t2, a1, b1⟩ := kx E ce q u t T'.heap (locs ++ L) e1.symm (by rw [← e2]; exact X'.warmed.alike) hp hb k1 k2 k3 (by rw [e1]; exact hce) hcv hcl T' rfl X'
    exact ⟨t2, st.trans a1, b1⟩
theorem vx_callf {S SX : Type} {post : UInt32 → S → Prop} {px : SX → Prop} {B : S → State → Prop} {BX : String → SX → State → Prop} {AX : Nat → Prop} (hr : vx_Run p l e R s m args below meth c H locs cells slots mc ms (F0 m pc ls st0) rest (va_Qf post B A1 a) (vx_X px BX AX) free) (hS : va_S A0 H0 H locs) (hA : ∀ q, q < H.size → A1 q → A0 q) (hf : ∀ q, free q → A0 q) (hAX : ∀ q, q < H.size → AX q → A0 q)
    (kx : ∀ (E : String) (ce : Cell) (q9 : Addr) (u : SX) (t : State) (H1 : Heap) (locs1 : List Loc), t.heap = H1 → s.vm.Alike t.vm → px u → BX E u t → H.size ≤ H1.size → (∀ q : Nat, q < H.size → ¬ AX q → H1[q]? = H[q]?) → va_S A0 H0 H1 locs1 → H1[q9]? = some ce → ce.vm = .none → s.vm.findClass E = some ce.cls → vx_W p l e R s m args below meth c H1 locs1 (cells + mc) (slots + ms) Q (F0 m pc ls rest) q9)
    (kk : ∀ (r : UInt32) (u : S) (t : State) (H1 : Heap) (locs1 : List Loc), t.heap = H1 → s.vm.Alike t.vm → post r u → B u t → H.size ≤ H1.size → (∀ q : Nat, q < H.size → ¬ A1 q → H1[q]? = H[q]?) → va_S A0 H0 H1 locs1 → W p l e R s m args below meth c H1 locs1 (cells + mc) (slots + ms) Q (F0 m (pc + 3) ls (.float r :: rest))) : W p l e R s m args below meth c H locs cells slots Q (F0 m pc ls st0) := by
  intro T hT X
  rcases hr T hT X with ⟨v, st₀, t, T', L, h0, X', hL, e1, e2, ⟨⟨r, u, hv, hp, hb⟩, hF⟩, st⟩ | ⟨q, st₀, t, T', L, E, ce, h0, X', hL, e1, e2, ⟨u, hp, hb, hF⟩, hce, hcv, hcl, st⟩
  · cases hv
    obtain ⟨k1, k2, k3⟩ := vx_keep h0 e1 hS hA hf hL hF
    obtain ⟨t2, a1, b1⟩ := kk r u t T'.heap (locs ++ L) e1.symm (by rw [← e2]; exact X'.warmed.alike) hp hb k1 k2 k3 T' rfl X'
    exact ⟨t2, st t2 a1, b1⟩
  · obtain ⟨k1, k2, k3⟩ := vx_keep h0 e1 hS hAX hf hL hF
    obtain ⟨t2, a1, b1⟩ := kx E ce q u t T'.heap (locs ++ L) e1.symm (by rw [← e2]; exact X'.warmed.alike) hp hb k1 k2 k3 (by rw [e1]; exact hce) hcv hcl T' rfl X'
    exact ⟨t2, st.trans a1, b1⟩
theorem vx_calld {S SX : Type} {post : UInt64 → S → Prop} {px : SX → Prop} {B : S → State → Prop} {BX : String → SX → State → Prop} {AX : Nat → Prop} (hr : vx_Run p l e R s m args below meth c H locs cells slots mc ms (F0 m pc ls st0) rest (va_Qd post B A1 a) (vx_X px BX AX) free) (hS : va_S A0 H0 H locs) (hA : ∀ q, q < H.size → A1 q → A0 q) (hf : ∀ q, free q → A0 q) (hAX : ∀ q, q < H.size → AX q → A0 q)
    (kx : ∀ (E : String) (ce : Cell) (q9 : Addr) (u : SX) (t : State) (H1 : Heap) (locs1 : List Loc), t.heap = H1 → s.vm.Alike t.vm → px u → BX E u t → H.size ≤ H1.size → (∀ q : Nat, q < H.size → ¬ AX q → H1[q]? = H[q]?) → va_S A0 H0 H1 locs1 → H1[q9]? = some ce → ce.vm = .none → s.vm.findClass E = some ce.cls → vx_W p l e R s m args below meth c H1 locs1 (cells + mc) (slots + ms) Q (F0 m pc ls rest) q9)
    (kk : ∀ (r : UInt64) (u : S) (t : State) (H1 : Heap) (locs1 : List Loc), t.heap = H1 → s.vm.Alike t.vm → post r u → B u t → H.size ≤ H1.size → (∀ q : Nat, q < H.size → ¬ A1 q → H1[q]? = H[q]?) → va_S A0 H0 H1 locs1 → W p l e R s m args below meth c H1 locs1 (cells + mc) (slots + ms) Q (F0 m (pc + 3) ls (.double r :: rest))) : W p l e R s m args below meth c H locs cells slots Q (F0 m pc ls st0) := by
  intro T hT X
  rcases hr T hT X with ⟨v, st₀, t, T', L, h0, X', hL, e1, e2, ⟨⟨r, u, hv, hp, hb⟩, hF⟩, st⟩ | ⟨q, st₀, t, T', L, E, ce, h0, X', hL, e1, e2, ⟨u, hp, hb, hF⟩, hce, hcv, hcl, st⟩
  · cases hv
    obtain ⟨k1, k2, k3⟩ := vx_keep h0 e1 hS hA hf hL hF
    obtain ⟨t2, a1, b1⟩ := kk r u t T'.heap (locs ++ L) e1.symm (by rw [← e2]; exact X'.warmed.alike) hp hb k1 k2 k3 T' rfl X'
    exact ⟨t2, st t2 a1, b1⟩
  · obtain ⟨k1, k2, k3⟩ := vx_keep h0 e1 hS hAX hf hL hF
    obtain ⟨t2, a1, b1⟩ := kx E ce q u t T'.heap (locs ++ L) e1.symm (by rw [← e2]; exact X'.warmed.alike) hp hb k1 k2 k3 (by rw [e1]; exact hce) hcv hcl T' rfl X'
    exact ⟨t2, st.trans a1, b1⟩
theorem vx_callv {S SX : Type} {post : S → Prop} {px : SX → Prop} {B : S → State → Prop} {BX : String → SX → State → Prop} {AX : Nat → Prop} (hr : vx_Run p l e R s m args below meth c H locs cells slots mc ms (F0 m pc ls st0) rest (va_Qv post B A1 a) (vx_X px BX AX) free) (hS : va_S A0 H0 H locs) (hA : ∀ q, q < H.size → A1 q → A0 q) (hf : ∀ q, free q → A0 q) (hAX : ∀ q, q < H.size → AX q → A0 q)
    (kx : ∀ (E : String) (ce : Cell) (q9 : Addr) (u : SX) (t : State) (H1 : Heap) (locs1 : List Loc), t.heap = H1 → s.vm.Alike t.vm → px u → BX E u t → H.size ≤ H1.size → (∀ q : Nat, q < H.size → ¬ AX q → H1[q]? = H[q]?) → va_S A0 H0 H1 locs1 → H1[q9]? = some ce → ce.vm = .none → s.vm.findClass E = some ce.cls → vx_W p l e R s m args below meth c H1 locs1 (cells + mc) (slots + ms) Q (F0 m pc ls rest) q9)
    (kk : ∀ (u : S) (t : State) (H1 : Heap) (locs1 : List Loc), t.heap = H1 → s.vm.Alike t.vm → post u → B u t → H.size ≤ H1.size → (∀ q : Nat, q < H.size → ¬ A1 q → H1[q]? = H[q]?) → va_S A0 H0 H1 locs1 → W p l e R s m args below meth c H1 locs1 (cells + mc) (slots + ms) Q (F0 m (pc + 3) ls (rest))) : W p l e R s m args below meth c H locs cells slots Q (F0 m pc ls st0) := by
  intro T hT X
  rcases hr T hT X with ⟨v, st₀, t, T', L, h0, X', hL, e1, e2, ⟨⟨u, hv, hp, hb⟩, hF⟩, st⟩ | ⟨q, st₀, t, T', L, E, ce, h0, X', hL, e1, e2, ⟨u, hp, hb, hF⟩, hce, hcv, hcl, st⟩
  · cases hv
    obtain ⟨k1, k2, k3⟩ := vx_keep h0 e1 hS hA hf hL hF
    obtain ⟨t2, a1, b1⟩ := kk u t T'.heap (locs ++ L) e1.symm (by rw [← e2]; exact X'.warmed.alike) hp hb k1 k2 k3 T' rfl X'
    exact ⟨t2, st t2 a1, b1⟩
  · obtain ⟨k1, k2, k3⟩ := vx_keep h0 e1 hS hAX hf hL hF
    obtain ⟨t2, a1, b1⟩ := kx E ce q u t T'.heap (locs ++ L) e1.symm (by rw [← e2]; exact X'.warmed.alike) hp hb k1 k2 k3 (by rw [e1]; exact hce) hcv hcl T' rfl X'
    exact ⟨t2, st.trans a1, b1⟩
end Rows
section Ends
variable {p : Program} {l : Launch} {e : Env} {R : Room} {s : State} {m : MethodId} {args : Array Value} {below : List Frame} {meth : Method} {c : Code} {H : Heap} {locs : List Loc} {cells slots : Nat} {Q : State → Prop}
variable {mc ms : Nat} {free : Addr → Prop} {A0 A1 : Nat → Prop} {H0 : Heap} {a : Array Value} {ls : Array Slot} {st0 rest : List Value}
variable {Qc : Array Value → State → Outcome → State → Prop} {XC : String → State → State → Prop}
/-- what a body that may throw owes at its end -/
def vx_MQ (below : List Frame) (Qc : Array Value → State → Outcome → State → Prop) (XC : String → State → State → Prop) (a : Array Value) (s : State) (mc ms : Nat) (free : Addr → Prop) : State → Prop := fun t =>
  ∃ o, t.status = .running ∧ Ended t below o ∧ vx_Q Qc XC mc ms free a s o t
theorem vx_ret {g : JFrame} {mc ms : Nat} (k : W p l e R s m args below meth c H locs cells slots (MQ below Qc args s mc ms free) g) : W p l e R s m args below meth c H locs cells slots (vx_MQ below Qc XC args s mc ms free) g := by
  intro T hT X
  obtain ⟨t, a1, o, b1, b2, b3, b4⟩ := k T hT X
  exact ⟨t, a1, o, b1, b2, Or.inl ⟨b3, b4⟩⟩
/-- not caught here: it goes on to the caller -/
theorem vx_widen {g : JFrame} {q : Addr} {k n : Nat} (h1 : cells ≤ k) (h2 : slots ≤ n) (kk : vx_W p l e R s m args below meth c H locs k n Q g q) : vx_W p l e R s m args below meth c H locs cells slots Q g q := fun T hT X => kk T hT (stand_widen X h1 h2)
theorem vx_out {pc : Nat} {E : String} {ce : Cell} {q : Addr} {mc ms : Nat} (hout : ∀ x ∈ c.exceptionTable.toList, covers x pc = false) (hlocks : meth.locks = false) (hcell : H[q]? = some ce) (hv : ce.vm = .none) (hcl : s.vm.findClass E = some ce.cls)
    (hx : ∀ t : State, t.heap = H → s.vm.Alike t.vm → XC E s t) (hf : ∀ z ∈ locs, free z.base) (hc : cells ≤ mc) (hs : slots ≤ ms) :
    vx_W p l e R s m args below meth c H locs cells slots (vx_MQ below Qc XC args s mc ms free) (F0 m pc ls rest) q := by
  intro T hT X
  obtain ⟨st1, hrun, hend, hW, hsm⟩ := X.leaveThrown q (g := F0 m pc ls rest) rfl rfl rfl hout hlocks
  have hcell9 : (T.setFrames (.throwing q :: below)).heap[q]? = some ce := by
    show T.heap[q]? = some ce
    rw [hT]; exact hcell
  exact ⟨_, st1, .threw q, hrun, hend, Or.inr ⟨q, rfl, E, ce, locs, hx _ hT hW.alike, hcell9, hv, hcl, hW, hsm.mono hc hs, hf⟩⟩
theorem vx_frame {U : State} {k n : Nat} (h : s.sameButNew ({ U with vm := s.vm } : State) locs k n) : s.heap.size ≤ U.heap.size ∧ ∀ q : Nat, q < s.heap.size → (∀ z ∈ locs, z.base ≠ q) → U.heap[q]? = s.heap[q]? := by
  obtain ⟨-, h2, -, -, -, h6⟩ := h
  refine ⟨h2, fun q hq hz => ?_⟩
  obtain ⟨c9, e1, e2, e3, e4⟩ := h6 q _ (Array.getElem?_eq_getElem hq)
  have hs : c9.slots = (s.heap[q]).slots := Array.ext_getElem? fun i => e4 i fun hm => hz _ hm rfl
  have h9 : c9 = s.heap[q] := by
    rw [hs] at e2
    exact e2
  have e5 : U.heap[q]? = some c9 := e1
  rw [e5, h9, Array.getElem?_eq_getElem hq]
/-- the words of a throw but the four that speak of the heap -/
def vx_no (w : Cond) : Bool := decide (w ≠ .isRef (.static Bundle.tN "UNASSIGNED_STACK" Bundle.steD)) && decide (w ≠ .isRef (.static Bundle.tN "SUPPRESSED_SENTINEL" Bundle.listD)) && decide (w ≠ .laysStatic Bundle.tN "UNASSIGNED_STACK" Bundle.steD) && decide (w ≠ .laysStatic Bundle.tN "SUPPRESSED_SENTINEL" Bundle.listD)
def vx_at0 (own : String) (ic : Nat) (X : String) (names : List String) : List Cond := (Bundle.ownAtoms0 own ic X names).filter vx_no
def vx_atS (own : String) (ic : Nat) (X : String) (names : List String) : List Cond := (Bundle.ownAtoms own ic X names).filter vx_no
/-- a word that the tables alone decide, or a good one -/
def vx_ot (w : Cond) : Bool := w.onTables || goodWord w
theorem vx_ot_at {args a' : Array Value} {s U : State} {w : Cond} (hW : s.WarmedH U.vm) (hvm : s.vm = U.vm) (hg : vx_ot w = true) (h : w.before args s = true) : w.before a' U = true := by
  simp only [vx_ot, Bool.or_eq_true] at hg
  rcases hg with hg | hg
  · exact va_tabs hg hvm h
  · exact word_at hW (good_of_word hg) h
/-- a list's words: the good ones out of the method's own list, the others by premises of their own -/
theorem vx_hat {args : Array Value} {s : State} {L B : List Cond} (h1 : ∀ w ∈ L.filter goodWord, w.before args s = true) (h2 : ∀ w ∈ L.filter (fun w => !goodWord w), w ∈ B) (h3 : ∀ w ∈ B, w.before args s = true) : ∀ w ∈ L, w.before args s = true := by
  intro w hw
  by_cases g : goodWord w = true
  · exact h1 w (List.mem_filter.mpr ⟨hw, g⟩)
  · refine h3 w (h2 w (List.mem_filter.mpr ⟨hw, ?_⟩))
    show (!goodWord w) = true
    cases hgw : goodWord w
    · rfl
    · exact absurd hgw g
theorem vx_c {args : Array Value} {s : State} {w : Cond} {B : List Cond} (h : w.before args s = true) (t : ∀ w ∈ B, w.before args s = true) : ∀ w' ∈ w :: B, w'.before args s = true := fun w' h' => (List.mem_cons.mp h').elim (fun e => by rw [e]; exact h) (t w')
theorem vx_n {args : Array Value} {s : State} : ∀ w ∈ ([] : List Cond), w.before args s = true := fun _ h => nomatch h
theorem vx_own {args : Array Value} {s : State} {L : List Cond} (h1 : ∀ w ∈ L.filter vx_no, w.before args s = true)
    (hU : (Cond.isRef (.static Bundle.tN "UNASSIGNED_STACK" Bundle.steD)).before args s = true) (hN : (Cond.isRef (.static Bundle.tN "SUPPRESSED_SENTINEL" Bundle.listD)).before args s = true)
    (lU : (Cond.laysStatic Bundle.tN "UNASSIGNED_STACK" Bundle.steD).before args s = true) (lN : (Cond.laysStatic Bundle.tN "SUPPRESSED_SENTINEL" Bundle.listD).before args s = true) : ∀ w ∈ L, w.before args s = true := by
  intro w hw
  by_cases e1 : w = .isRef (.static Bundle.tN "UNASSIGNED_STACK" Bundle.steD)
  · rw [e1]; exact hU
  · by_cases e2 : w = .isRef (.static Bundle.tN "SUPPRESSED_SENTINEL" Bundle.listD)
    · rw [e2]; exact hN
    · by_cases e3 : w = .laysStatic Bundle.tN "UNASSIGNED_STACK" Bundle.steD
      · rw [e3]; exact lU
      · by_cases e4 : w = .laysStatic Bundle.tN "SUPPRESSED_SENTINEL" Bundle.listD
        · rw [e4]; exact lN
        · exact h1 w (List.mem_filter.mpr ⟨hw, by unfold vx_no; rw [decide_eq_true e1, decide_eq_true e2, decide_eq_true e3, decide_eq_true e4]; rfl⟩)
/-- where a static field lies, its class's statics cell in H -/
def vx_L (C n d : String) (A : Nat → Prop) (U : State) (H : Heap) : Prop := ∃ (c : ClassId) (k : Class) (i : Nat) (f : Field) (a : Nat) (cell : Cell), U.vm.findClass C = some c ∧ U.fieldFound? C n d = some (c, k, i, f) ∧ f.isStatic = true ∧ k.statics = some a ∧ H[a]? = some cell ∧ cell.vm.isStatics = true ∧ cell.cls = c ∧ f.slot < cell.slots.size ∧ k.staticTypes[f.slot]? = some f.type ∧ ¬ A a
theorem vx_L.moved {C n d : String} {A : Nat → Prop} {u U : State} {H : Heap} (hvm : u.vm.Alike U.vm) (h : vx_L C n d A u H) : vx_L C n d A U H := by
  obtain ⟨c, k, i, f, a, cell, h1, h2, h3, h4, h5, h6, h7, h8, h9, h10⟩ := h
  obtain ⟨k', hi', he⟩ := State.fieldFound?_setVm hvm h2
  exact ⟨c, k', i, f, a, cell, by rw [hvm.findClass]; exact h1, hi', h3, by rw [he]; exact h4, h5, h6, h7, h8, by rw [he]; exact h9, h10⟩
theorem vx_L.kept {C n d : String} {A : Nat → Prop} {U : State} {H H1 : Heap} (h : vx_L C n d A U H) (hq : ∀ a : Nat, a < H.size → ¬ A a → H1[a]? = H[a]?) : vx_L C n d A U H1 := by
  obtain ⟨c, k, i, f, a, cell, h1, h2, h3, h4, h5, h6, h7, h8, h9, h10⟩ := h
  exact ⟨c, k, i, f, a, cell, h1, h2, h3, h4, by rw [hq a (Array.getElem?_eq_some_iff.mp h5).1 h10]; exact h5, h6, h7, h8, h9, h10⟩
theorem vx_L.narrow {C n d : String} {A B : Nat → Prop} {U : State} {H : Heap} (h : vx_L C n d A U H) (hAB : ∀ q, B q → A q) : vx_L C n d B U H := by
  obtain ⟨c, k, i, f, a, cell, h1, h2, h3, h4, h5, h6, h7, h8, h9, h10⟩ := h
  exact ⟨c, k, i, f, a, cell, h1, h2, h3, h4, h5, h6, h7, h8, h9, fun z => h10 (hAB _ z)⟩
theorem vx_L.word {C n d : String} {A : Nat → Prop} {s : State} {args : Array Value} (h : vx_L C n d A s s.heap) : (Cond.laysStatic C n d).before args s = true := by
  obtain ⟨c, k, i, f, a, cell, h1, h2, h3, h4, h5, h6, h7, h8, h9, -⟩ := h
  show (Cond.laysStatic C n d).holds args s none s [] = true
  exact Cond.laysStatic_of h1 h2 h3 h4 h5 h6 h7 h8 h9
/-- .. and what it holds: null or some reference -/
def vx_Zq (C n d : String) (A : Nat → Prop) (U : State) (H : Heap) : Prop := va_Zq C n d A U H ∧ vx_L C n d A U H
theorem vx_Zq.moved {C n d : String} {A : Nat → Prop} {u U : State} {H : Heap} (hvm : u.vm.Alike U.vm) (h : vx_Zq C n d A u H) : vx_Zq C n d A U H := ⟨va_Zq.moved hvm h.1, vx_L.moved hvm h.2⟩
theorem vx_Zq.kept {C n d : String} {A : Nat → Prop} {U : State} {H H1 : Heap} (h : vx_Zq C n d A U H) (hq : ∀ a : Nat, a < H.size → ¬ A a → H1[a]? = H[a]?) : vx_Zq C n d A U H1 := ⟨va_Zq.kept h.1 hq, vx_L.kept h.2 hq⟩
theorem vx_Zq.narrow {C n d : String} {A B : Nat → Prop} {U : State} {H : Heap} (h : vx_Zq C n d A U H) (hAB : ∀ q, B q → A q) : vx_Zq C n d B U H := ⟨va_Zq.narrow h.1 hAB, vx_L.narrow h.2 hAB⟩
theorem vx_Zqof {args : Array Value} {s : State} {C n d : String} {A : Nat → Prop} (hl : (Cond.laysStatic C n d).before args s = true) (hini : (Cond.initialized C).before args s = true) (h : (Cond.isRef (.static C n d)).before args s = true) (hA : ∀ a : Nat, a < s.heap.size → ¬ A a) : vx_Zq C n d A s s.heap := by
  refine ⟨va_Zqof hl hini h hA, ?_⟩
  obtain ⟨c, k, i, f, a, cell, h1, h2, h3, h4, h5, h6, h7, h8, h9⟩ := Cond.laysStatic_spec hl
  exact ⟨c, k, i, f, a, cell, h1, h2, h3, h4, h5, h6, h7, h8, h9, hA a (Array.getElem?_eq_some_iff.mp h5).1⟩
theorem vx_isRef {C n d : String} {v : Value} {A : Nat → Prop} {s : State} {args : Array Value} (h : va_Z C n d v A s s.heap) (hv : v.isRef = true) : (Cond.isRef (.static C n d)).before args s = true := by
  obtain ⟨cf, kf, fi, f, a, cell, h1, h2, h3, h4, h5, h6, h7, -⟩ := h
  have he : (Term.static C n d).eval args s none [] s = some v := by
    simp [Term.eval, State.fieldNamed?, h1, h2, h4, h5, h6, h7]
  simp only [Cond.before, Cond.holds, Cond.value, he]
  cases v <;> simp_all [Value.isRef]
theorem vx_isRefq {C n d : String} {A : Nat → Prop} {s : State} {args : Array Value} (h : va_Zq C n d A s s.heap) : (Cond.isRef (.static C n d)).before args s = true := by
  rcases h with h | ⟨t, h⟩
  · exact vx_isRef h rfl
  · exact vx_isRef h rfl
/-- the same frame, seen from here: as if the method were called anew in this heap -/
theorem vx_rebase {T : State} (X : Stand p l e R s m args below meth c T locs cells slots) {R' : Room} (hf : R'.frames ≤ R.frames) (hl : R'.locals ≤ R.locals) (hc : cells + R'.cells ≤ R.cells) (hs : slots + R'.slots ≤ R.slots) :
    Stand p l e R' ((T.setVm s.vm).setFrames (.invoking m args :: below)) m args below meth c T [] 0 0 := by
  have htop : (T.setVm s.vm).topJava?.isSome := X.here.top
  have hF : ((T.setVm s.vm).setFrames (.invoking m args :: below)).frames = .invoking m args :: below := State.frames_setFrames _ (State.cur_lt_of_top htop)
  obtain ⟨g₀, hg0⟩ := Option.isSome_iff_exists.mp htop
  obtain ⟨r, hr⟩ := State.topJava?_eq_some.mp hg0
  have hl9 : e.platform.stackLimits (T.setVm s.vm).me = e.platform.stackLimits s.me := X.limits
  have hb9 : (T.setVm s.vm).me.stackBytes = s.me.stackBytes := X.bytes
  refine ⟨X.admits, X.cas, X.clock, hF, ?_, X.hears, X.method, X.code, X.here, X.tail, X.warmed, ?_, ?_, ?_⟩
  · have h := X.room
    have hU : ((T.setVm s.vm).setFrames (.invoking m args :: below)).localsInUse = s.localsInUse := by
      rw [State.localsInUse_invoking hF (meth := meth) (c := c) X.method X.code, State.localsInUse_invoking X.frames X.method X.code]
    simp only [State.hasRoom, Bool.and_eq_true, decide_eq_true_eq] at h ⊢
    obtain ⟨⟨⟨⟨h1, h2, h3, h4, h5, h6⟩, h7⟩, h8⟩, h9⟩ := h
    rw [X.frames, List.length_cons] at h2 h3
    have q1 := X.heapSize
    have q2 := X.used
    simp only [hF, hU, List.length_cons, State.stackLimits_setFrames, State.stackBytes_setFrames, hl9, hb9]
    refine ⟨⟨⟨⟨by omega, by omega, by omega, by omega, by omega, h6⟩, ?_⟩, ?_⟩, X.book⟩
    · show T.heap.size + R'.cells ≤ e.platform.maxCells
      omega
    · show T.slotsUsed + R'.slots ≤ e.platform.maxSlots
      omega
  · rw [State.stackLimits_setFrames]; rfl
  · rw [State.stackBytes_setFrames]; rfl
  · refine ⟨?_, Nat.le_refl _, Nat.le_refl _, ?_, ?_, fun a c9 h9 => ⟨c9, h9, rfl, rfl, fun _ _ => rfl⟩⟩
    · obtain ⟨t, ht, -⟩ := State.frames_cons hr
      show T.setVm s.vm = { ((T.setVm s.vm).setFrames (.invoking m args :: below)).setFrames (T.setVm s.vm).frames with heap := T.heap, slotsUsed := T.slotsUsed }
      rw [State.setFrames_setFrames, State.setFrames_self ht]
      rfl
    · show T.slotsUsed = T.slotsUsed + ((T.heap.toList.drop T.heap.size).map (·.slots.size)).sum
      rw [List.drop_eq_nil_of_le (Nat.le_of_eq Array.length_toList)]
      rfl
    · show ((T.heap.toList.drop T.heap.size).map (·.slots.size)).sum ≤ 0
      rw [List.drop_eq_nil_of_le (Nat.le_of_eq Array.length_toList)]
      exact Nat.le_refl _
/-- 'throw new E()': new; dup; invokespecial; athrow -/
theorem vx_throw0 {cc : ByteArray} {pc : Nat} (hexec : p.tables.exec = Jvm.exec) (hb : c.code = cc) (hl : l.stackTraces = false) {own cls : String} {names : List String} {ik ic mc ms : Nat} {A : Nat → Prop}
    (hown : s.vm.findClass own = some m.cls) (hcls : Bundle.fit cls = true) (hnames : ∀ n ∈ names, Bundle.fit n = true)
    (hk : (Cond.classLink own ik cls).before args s = true) (hini : (Cond.initialized cls).before args s = true) (hat : ∀ w ∈ vx_at0 own ic cls names, w.before args s = true)
    (hgood : ∀ w ∈ Cond.classLink own ik cls :: Cond.initialized cls :: vx_at0 own ic cls names, vx_ot w = true)
    (hU : vx_Zq Bundle.tN "UNASSIGNED_STACK" Bundle.steD A s s.heap) (hN : vx_Zq Bundle.tN "SUPPRESSED_SENTINEL" Bundle.listD A s s.heap) (hS : va_S A s.heap H locs) (hsize : ls.size = c.maxLocals)
    (d0 : decode cc pc = .ok (.new ik, 3)) (d3 : decode cc (pc + 3) = .ok (.dup, 1)) (d4 : decode cc (pc + 4) = .ok (.invokespecial ic, 3)) (d7 : decode cc (pc + 7) = .ok (.athrow, 1))
    (hout : ∀ x ∈ c.exceptionTable.toList, covers x (pc + 7) = false)
    (hRframes : names.length + 3 < R.frames) (hRlocals : (rest.map fun v => v.category).sum + (13 * (names.length + 1) + 42) ≤ R.locals) (hRcells : cells + 1 ≤ R.cells) (hRslots : slots + 6 ≤ R.slots) (hlocks : meth.locks = false)
    (hx : ∀ t : State, s.vm.Alike t.vm → H.size ≤ t.heap.size → (∀ q : Nat, q < H.size → t.heap[q]? = H[q]?) → XC cls s t)
    (hf : ∀ z ∈ locs, free z.base) (hc : cells + 1 ≤ mc) (hs : slots + 6 ≤ ms) :
    W p l e R s m args below meth c H locs cells slots (vx_MQ below Qc XC args s mc ms free) (F0 m pc ls rest) := by
  intro T hT X
  have htr : e.platform.stackTraces = false := (show e.platform.stackTraces = l.stackTraces by rw [X.admits.platform]).trans hl
  have Y := vx_rebase X (R' := { frames := R.frames, locals := R.locals, cells := 1, slots := 6 }) (Nat.le_refl _) (Nat.le_refl _) hRcells hRslots
  obtain ⟨s', hA⟩ : ∃ z, z = (T.setVm s.vm).setFrames (.invoking m args :: below) := ⟨_, rfl⟩
  rw [← hA] at Y
  have hvm : s'.vm = s.vm := by rw [hA]; rfl
  have hhp : s'.heap = H := by rw [hA]; exact hT
  have hW0 : s.WarmedH s'.vm := by rw [hvm]; exact State.WarmedH.refl s
  have hat' : ∀ w ∈ vx_at0 own ic cls names, w.before args s' = true := fun w hw => vx_ot_at hW0 hvm.symm (hgood w (List.mem_cons_of_mem _ (List.mem_cons_of_mem _ hw))) (hat w hw)
  have hk' : (Cond.classLink own ik cls).before args s' = true := vx_ot_at hW0 hvm.symm (hgood _ List.mem_cons_self) hk
  have hini' : (Cond.initialized cls).before args s' = true := vx_ot_at hW0 hvm.symm (hgood _ (List.mem_cons_of_mem _ List.mem_cons_self)) hini
  have hU' : vx_Zq Bundle.tN "UNASSIGNED_STACK" Bundle.steD A s' s'.heap := by rw [hhp]; exact vx_Zq.moved hW0.alike (hU.kept hS.2.1)
  have hN' : vx_Zq Bundle.tN "SUPPRESSED_SENTINEL" Bundle.listD A s' s'.heap := by rw [hhp]; exact vx_Zq.moved hW0.alike (hN.kept hS.2.1)
  have h : ∀ w ∈ Bundle.ownAtoms0 own ic cls names, w.before args s' = true := vx_own hat' (vx_isRefq hU'.1) (vx_isRefq hN'.1) hU'.2.word hN'.2.word
  have hown' : s'.vm.findClass own = some m.cls := by rw [hvm]; exact hown
  have hins : (Cond.instantiable cls 6).before args s' = true := h _ (by simp [Bundle.ownAtoms0])
  obtain ⟨vm₁, cX, kX, hfX, hkX, -, -, X₁, st1⟩ := Y.newCold hexec (own := own) (C := cls) (index := ik) (n := 6) hown' hk' hins hini'
    (g := F0 m pc ls rest) rfl (by rw [hb]; exact d0) (Nat.le_refl _) (Nat.le_refl _)
  generalize hT1 : (T.setVm vm₁).pushCell { cls := cX, slots := kX.instanceTypes.map defaultValue, vm := .none } = T1 at X₁ st1
  have hcat : (Value.ref T.heap.size).category = 1 := rfl
  have hcellA : T1.heap[T.heap.size]? = some (freshCell cX kX) := by rw [← hT1]; exact State.heap_pushCell_size _ _
  have d3' : decode c.code (pc + 3) = .ok (.dup, 1) := by rw [hb]; exact d3
  obtain ⟨U, hsteps, hrun, hend, hW, hsame, ce, hce, hO⟩ := X₁.ctorThrow0 hexec htr (own := own) (cls := cls) (names := names) (ic := ic) hown' hcls hnames h (fun x hx => nomatch hx) hfX hkX hcellA (by rw [hhp, hT]; exact Nat.le_refl _)
    (g := { method := m, pc := pc + 4, locals := ls, stack := .ref T.heap.size :: .ref T.heap.size :: rest, locked := none }) rfl hsize rfl rfl (rest := rest) rfl
    (by rw [hb]; exact d4) (by rw [hb]; exact d7) hout hRframes (by simp only [List.map_cons, List.sum_cons, hcat]; omega) hlocks
  obtain ⟨f1, f2⟩ := vx_frame hsame
  rw [hhp] at f1 f2
  have hWs : s.WarmedH U.vm := State.WarmedH.trans hW0 hW
  have hcl : s.vm.findClass cls = some ce.cls := by
    have h9 := hO.cls
    rw [hvm] at h9
    exact h9
  have hall : s.sameButNew ({ U with vm := s.vm } : State) locs mc ms := by
    subst hA
    obtain ⟨e1, e2⟩ := hsame
    rw [State.setFrames_setFrames] at e1
    have h2 : (T.setVm s.vm).sameButNew ({ U with vm := s.vm } : State) [] (0 + 1) (0 + 6) := ⟨e1, e2⟩
    have h3 := X.same.trans h2
    rw [List.append_nil] at h3
    exact h3.mono hc hs
  refine ⟨U, ?_, .threw T.heap.size, hrun, hend, Or.inr ⟨T.heap.size, rfl, cls, ce, locs, hx U hWs.alike f1 (fun q hq => f2 q hq (fun z hz => nomatch hz)), hce, hO.vm, hcl, hWs, hall, hf⟩⟩
  refine st1 _ ?_
  show Steps p.tables e below (T1.setTop { method := m, pc := pc + 3, locals := ls, stack := .ref T.heap.size :: rest, locked := none }) _
  jvm_step X₁.here [X₁.here.top, hexec, d3', Value.category]
  exact hsteps
/-- 'throw new E("text")': new; dup; ldc; invokespecial; athrow -/
theorem vx_throwS {cc : ByteArray} {pc : Nat} (hexec : p.tables.exec = Jvm.exec) (hb : c.code = cc) (hl : l.stackTraces = false) {own cls text : String} {names : List String} {ik is ic mc ms sa : Nat} {A : Nat → Prop}
    (hown : s.vm.findClass own = some m.cls) (hcls : Bundle.fit cls = true) (hnames : ∀ n ∈ names, Bundle.fit n = true)
    (hk : (Cond.classLink own ik cls).before args s = true) (hini : (Cond.initialized cls).before args s = true) (hstr : vk_R own is text sa s) (hat : ∀ w ∈ vx_atS own ic cls names, w.before args s = true)
    (hgood : ∀ w ∈ Cond.classLink own ik cls :: Cond.initialized cls :: vx_atS own ic cls names, vx_ot w = true)
    (hU : vx_Zq Bundle.tN "UNASSIGNED_STACK" Bundle.steD A s s.heap) (hN : vx_Zq Bundle.tN "SUPPRESSED_SENTINEL" Bundle.listD A s s.heap) (hS : va_S A s.heap H locs) (hsize : ls.size = c.maxLocals)
    (d0 : decode cc pc = .ok (.new ik, 3)) (d3 : decode cc (pc + 3) = .ok (.dup, 1)) (d4 : decode cc (pc + 4) = .ok (.ldc is, 2)) (d6 : decode cc (pc + 6) = .ok (.invokespecial ic, 3)) (d9 : decode cc (pc + 9) = .ok (.athrow, 1))
    (hout : ∀ x ∈ c.exceptionTable.toList, covers x (pc + 9) = false)
    (hRframes : names.length + 3 < R.frames) (hRlocals : (rest.map fun v => v.category).sum + (13 * (names.length + 1) + 43) ≤ R.locals) (hRcells : cells + 1 ≤ R.cells) (hRslots : slots + 6 ≤ R.slots) (hlocks : meth.locks = false)
    (hx : ∀ t : State, s.vm.Alike t.vm → H.size ≤ t.heap.size → (∀ q : Nat, q < H.size → t.heap[q]? = H[q]?) → XC cls s t)
    (hf : ∀ z ∈ locs, free z.base) (hc : cells + 1 ≤ mc) (hs : slots + 6 ≤ ms) :
    W p l e R s m args below meth c H locs cells slots (vx_MQ below Qc XC args s mc ms free) (F0 m pc ls rest) := by
  intro T hT X
  have htr : e.platform.stackTraces = false := (show e.platform.stackTraces = l.stackTraces by rw [X.admits.platform]).trans hl
  have Y := vx_rebase X (R' := { frames := R.frames, locals := R.locals, cells := 1, slots := 6 }) (Nat.le_refl _) (Nat.le_refl _) hRcells hRslots
  obtain ⟨s', hA⟩ : ∃ z, z = (T.setVm s.vm).setFrames (.invoking m args :: below) := ⟨_, rfl⟩
  rw [← hA] at Y
  have hvm : s'.vm = s.vm := by rw [hA]; rfl
  have hhp : s'.heap = H := by rw [hA]; exact hT
  have hW0 : s.WarmedH s'.vm := by rw [hvm]; exact State.WarmedH.refl s
  have hat' : ∀ w ∈ vx_atS own ic cls names, w.before args s' = true := fun w hw => vx_ot_at hW0 hvm.symm (hgood w (List.mem_cons_of_mem _ (List.mem_cons_of_mem _ hw))) (hat w hw)
  have hk' : (Cond.classLink own ik cls).before args s' = true := vx_ot_at hW0 hvm.symm (hgood _ List.mem_cons_self) hk
  have hini' : (Cond.initialized cls).before args s' = true := vx_ot_at hW0 hvm.symm (hgood _ (List.mem_cons_of_mem _ List.mem_cons_self)) hini
  have hU' : vx_Zq Bundle.tN "UNASSIGNED_STACK" Bundle.steD A s' s'.heap := by rw [hhp]; exact vx_Zq.moved hW0.alike (hU.kept hS.2.1)
  have hN' : vx_Zq Bundle.tN "SUPPRESSED_SENTINEL" Bundle.listD A s' s'.heap := by rw [hhp]; exact vx_Zq.moved hW0.alike (hN.kept hS.2.1)
  have h : ∀ w ∈ Bundle.ownAtoms own ic cls names, w.before args s' = true := vx_own hat' (vx_isRefq hU'.1) (vx_isRefq hN'.1) hU'.2.word hN'.2.word
  have hown' : s'.vm.findClass own = some m.cls := by rw [hvm]; exact hown
  have hins : (Cond.instantiable cls 6).before args s' = true := h _ (by simp [Bundle.ownAtoms])
  obtain ⟨vm₁, cX, kX, hfX, hkX, -, -, X₁, st1⟩ := Y.newCold hexec (own := own) (C := cls) (index := ik) (n := 6) hown' hk' hins hini'
    (g := F0 m pc ls rest) rfl (by rw [hb]; exact d0) (Nat.le_refl _) (Nat.le_refl _)
  generalize hT1 : (T.setVm vm₁).pushCell { cls := cX, slots := kX.instanceTypes.map defaultValue, vm := .none } = T1 at X₁ st1
  have hcat : (Value.ref T.heap.size).category = 1 := rfl
  have hcellA : T1.heap[T.heap.size]? = some (freshCell cX kX) := by rw [← hT1]; exact State.heap_pushCell_size _ _
  have d3' : decode c.code (pc + 3) = .ok (.dup, 1) := by rw [hb]; exact d3
  have d4' : decode c.code (pc + 4) = .ok (.ldc is, 2) := by rw [hb]; exact d4
  have hstr' : vk_R own is text sa s' := vk_R.warm hW0 hstr
  obtain ⟨U, hsteps, hrun, hend, hW, hsame, ce, hce, hO⟩ := X₁.ctorThrowS hexec htr (own := own) (cls := cls) (names := names) (ic := ic) hown' hcls hnames h (fun x hx => nomatch hx) hfX hkX hcellA (by rw [hhp, hT]; exact Nat.le_refl _) (msg := .ref sa) rfl
    (g := { method := m, pc := pc + 6, locals := ls, stack := .ref sa :: .ref T.heap.size :: .ref T.heap.size :: rest, locked := none }) rfl hsize rfl rfl (rest := rest) rfl
    (by rw [hb]; exact d6) (by rw [hb]; exact d9) hout hRframes (by simp only [List.map_cons, List.sum_cons, hcat]; omega) hlocks
  obtain ⟨f1, f2⟩ := vx_frame hsame
  rw [hhp] at f1 f2
  have hWs : s.WarmedH U.vm := State.WarmedH.trans hW0 hW
  have hcl : s.vm.findClass cls = some ce.cls := by
    have h9 := hO.cls
    rw [hvm] at h9
    exact h9
  have hall : s.sameButNew ({ U with vm := s.vm } : State) locs mc ms := by
    subst hA
    obtain ⟨e1, e2⟩ := hsame
    rw [State.setFrames_setFrames] at e1
    have h2 : (T.setVm s.vm).sameButNew ({ U with vm := s.vm } : State) [] (0 + 1) (0 + 6) := ⟨e1, e2⟩
    have h3 := X.same.trans h2
    rw [List.append_nil] at h3
    exact h3.mono hc hs
  refine ⟨U, ?_, .threw T.heap.size, hrun, hend, Or.inr ⟨T.heap.size, rfl, cls, ce, locs, hx U hWs.alike f1 (fun q hq => f2 q hq (fun z hz => nomatch hz)), hce, hO.vm, hcl, hWs, hall, hf⟩⟩
  refine st1 _ ?_
  show Steps p.tables e below (T1.setTop { method := m, pc := pc + 3, locals := ls, stack := .ref T.heap.size :: rest, locked := none }) _
  jvm_step X₁.here [X₁.here.top, hexec, d3', Value.category]
  exact X₁.ldcString hexec (own := own) (text := text) (index := is) (a := sa) hown' hstr'.1 hstr'.2
    (g := { method := m, pc := pc + 4, locals := ls, stack := .ref T.heap.size :: .ref T.heap.size :: rest, locked := none }) rfl d4' _ hsteps
/-- 'throw new E("text")', the text by a wide index -/
theorem vx_throwSW {cc : ByteArray} {pc : Nat} (hexec : p.tables.exec = Jvm.exec) (hb : c.code = cc) (hl : l.stackTraces = false) {own cls text : String} {names : List String} {ik is ic mc ms sa : Nat} {A : Nat → Prop}
    (hown : s.vm.findClass own = some m.cls) (hcls : Bundle.fit cls = true) (hnames : ∀ n ∈ names, Bundle.fit n = true)
    (hk : (Cond.classLink own ik cls).before args s = true) (hini : (Cond.initialized cls).before args s = true) (hstr : vk_R own is text sa s) (hat : ∀ w ∈ vx_atS own ic cls names, w.before args s = true)
    (hgood : ∀ w ∈ Cond.classLink own ik cls :: Cond.initialized cls :: vx_atS own ic cls names, vx_ot w = true)
    (hU : vx_Zq Bundle.tN "UNASSIGNED_STACK" Bundle.steD A s s.heap) (hN : vx_Zq Bundle.tN "SUPPRESSED_SENTINEL" Bundle.listD A s s.heap) (hS : va_S A s.heap H locs) (hsize : ls.size = c.maxLocals)
    (d0 : decode cc pc = .ok (.new ik, 3)) (d3 : decode cc (pc + 3) = .ok (.dup, 1)) (d4 : decode cc (pc + 4) = .ok (.ldc_w is, 3)) (d7 : decode cc (pc + 7) = .ok (.invokespecial ic, 3)) (d10 : decode cc (pc + 10) = .ok (.athrow, 1))
    (hout : ∀ x ∈ c.exceptionTable.toList, covers x (pc + 10) = false)
    (hRframes : names.length + 3 < R.frames) (hRlocals : (rest.map fun v => v.category).sum + (13 * (names.length + 1) + 43) ≤ R.locals) (hRcells : cells + 1 ≤ R.cells) (hRslots : slots + 6 ≤ R.slots) (hlocks : meth.locks = false)
    (hx : ∀ t : State, s.vm.Alike t.vm → H.size ≤ t.heap.size → (∀ q : Nat, q < H.size → t.heap[q]? = H[q]?) → XC cls s t)
    (hf : ∀ z ∈ locs, free z.base) (hc : cells + 1 ≤ mc) (hs : slots + 6 ≤ ms) :
    W p l e R s m args below meth c H locs cells slots (vx_MQ below Qc XC args s mc ms free) (F0 m pc ls rest) := by
  intro T hT X
  have htr : e.platform.stackTraces = false := (show e.platform.stackTraces = l.stackTraces by rw [X.admits.platform]).trans hl
  have Y := vx_rebase X (R' := { frames := R.frames, locals := R.locals, cells := 1, slots := 6 }) (Nat.le_refl _) (Nat.le_refl _) hRcells hRslots
  obtain ⟨s', hA⟩ : ∃ z, z = (T.setVm s.vm).setFrames (.invoking m args :: below) := ⟨_, rfl⟩
  rw [← hA] at Y
  have hvm : s'.vm = s.vm := by rw [hA]; rfl
  have hhp : s'.heap = H := by rw [hA]; exact hT
  have hW0 : s.WarmedH s'.vm := by rw [hvm]; exact State.WarmedH.refl s
  have hat' : ∀ w ∈ vx_atS own ic cls names, w.before args s' = true := fun w hw => vx_ot_at hW0 hvm.symm (hgood w (List.mem_cons_of_mem _ (List.mem_cons_of_mem _ hw))) (hat w hw)
  have hk' : (Cond.classLink own ik cls).before args s' = true := vx_ot_at hW0 hvm.symm (hgood _ List.mem_cons_self) hk
  have hini' : (Cond.initialized cls).before args s' = true := vx_ot_at hW0 hvm.symm (hgood _ (List.mem_cons_of_mem _ List.mem_cons_self)) hini
  have hU' : vx_Zq Bundle.tN "UNASSIGNED_STACK" Bundle.steD A s' s'.heap := by rw [hhp]; exact vx_Zq.moved hW0.alike (hU.kept hS.2.1)
  have hN' : vx_Zq Bundle.tN "SUPPRESSED_SENTINEL" Bundle.listD A s' s'.heap := by rw [hhp]; exact vx_Zq.moved hW0.alike (hN.kept hS.2.1)
  have h : ∀ w ∈ Bundle.ownAtoms own ic cls names, w.before args s' = true := vx_own hat' (vx_isRefq hU'.1) (vx_isRefq hN'.1) hU'.2.word hN'.2.word
  have hown' : s'.vm.findClass own = some m.cls := by rw [hvm]; exact hown
  have hins : (Cond.instantiable cls 6).before args s' = true := h _ (by simp [Bundle.ownAtoms])
  obtain ⟨vm₁, cX, kX, hfX, hkX, -, -, X₁, st1⟩ := Y.newCold hexec (own := own) (C := cls) (index := ik) (n := 6) hown' hk' hins hini'
    (g := F0 m pc ls rest) rfl (by rw [hb]; exact d0) (Nat.le_refl _) (Nat.le_refl _)
  generalize hT1 : (T.setVm vm₁).pushCell { cls := cX, slots := kX.instanceTypes.map defaultValue, vm := .none } = T1 at X₁ st1
  have hcat : (Value.ref T.heap.size).category = 1 := rfl
  have hcellA : T1.heap[T.heap.size]? = some (freshCell cX kX) := by rw [← hT1]; exact State.heap_pushCell_size _ _
  have d3' : decode c.code (pc + 3) = .ok (.dup, 1) := by rw [hb]; exact d3
  have d4' : decode c.code (pc + 4) = .ok (.ldc_w is, 3) := by rw [hb]; exact d4
  have hstr' : vk_R own is text sa s' := vk_R.warm hW0 hstr
  obtain ⟨U, hsteps, hrun, hend, hW, hsame, ce, hce, hO⟩ := X₁.ctorThrowS hexec htr (own := own) (cls := cls) (names := names) (ic := ic) hown' hcls hnames h (fun x hx => nomatch hx) hfX hkX hcellA (by rw [hhp, hT]; exact Nat.le_refl _) (msg := .ref sa) rfl
    (g := { method := m, pc := pc + 7, locals := ls, stack := .ref sa :: .ref T.heap.size :: .ref T.heap.size :: rest, locked := none }) rfl hsize rfl rfl (rest := rest) rfl
    (by rw [hb]; exact d7) (by rw [hb]; exact d10) hout hRframes (by simp only [List.map_cons, List.sum_cons, hcat]; omega) hlocks
  obtain ⟨f1, f2⟩ := vx_frame hsame
  rw [hhp] at f1 f2
  have hWs : s.WarmedH U.vm := State.WarmedH.trans hW0 hW
  have hcl : s.vm.findClass cls = some ce.cls := by
    have h9 := hO.cls
    rw [hvm] at h9
    exact h9
  have hall : s.sameButNew ({ U with vm := s.vm } : State) locs mc ms := by
    subst hA
    obtain ⟨e1, e2⟩ := hsame
    rw [State.setFrames_setFrames] at e1
    have h2 : (T.setVm s.vm).sameButNew ({ U with vm := s.vm } : State) [] (0 + 1) (0 + 6) := ⟨e1, e2⟩
    have h3 := X.same.trans h2
    rw [List.append_nil] at h3
    exact h3.mono hc hs
  refine ⟨U, ?_, .threw T.heap.size, hrun, hend, Or.inr ⟨T.heap.size, rfl, cls, ce, locs, hx U hWs.alike f1 (fun q hq => f2 q hq (fun z hz => nomatch hz)), hce, hO.vm, hcl, hWs, hall, hf⟩⟩
  refine st1 _ ?_
  show Steps p.tables e below (T1.setTop { method := m, pc := pc + 3, locals := ls, stack := .ref T.heap.size :: rest, locked := none }) _
  jvm_step X₁.here [X₁.here.top, hexec, d3', Value.category]
  exact X₁.ldcStringW hexec (own := own) (text := text) (index := is) (a := sa) hown' hstr'.1 hstr'.2
    (g := { method := m, pc := pc + 4, locals := ls, stack := .ref T.heap.size :: .ref T.heap.size :: rest, locked := none }) rfl d4' _ hsteps
end Ends
section Bodies
variable {l : Launch}
theorem vx_ofW {y : MethodName} {ws ws' : List Cond} {rm : Room} {Pc : Array Value → State → Prop} {Qc : Array Value → State → Outcome → State → Prop} {XC : String → State → State → Prop} {mc ms : Nat} {free : Addr → Prop} {cc : ByteArray} {maxL : Nat} {ret : Option FieldType}
    (hy : plainName y.cls = true) (hw : ws = Cond.code y cc maxL ret :: ws')
    (body : ∀ p e s m args below meth c s₁, BodyLoose p l y (headSpec ws rm) cc maxL ret e s m args below meth c s₁ → c.maxLocals = maxL → (∀ x ∈ c.exceptionTable.toList, False) → Pc args s →
      W p l e (headSpec ws rm).room s m args below meth c s.heap [] 0 0 (vx_MQ below Qc XC args s mc ms free) (entryFrame m args maxL)) : vx_Met l y ws rm Pc Qc XC mc ms free := by
  refine MetFree.of_bodyS (code := cc) (maxLocals := maxL) (ret := ret) hy ?_ ?_
  · intro args s m h hn
    obtain ⟨meth, c, h1, h2, h3, h4, h5, h6, -, -⟩ := Cond.code_spec hn (atoms_spec (ws := ws) h _ (by rw [hw]; exact List.mem_cons_self))
    exact ⟨meth, c, h1, h2, h3, h4, h5, h6⟩
  · intro p e s m args below meth c s₁ B hml hP _
    have hh0 : s₁.heap = s.heap := by rw [B.state]; rfl
    have ht : ∀ x ∈ c.exceptionTable.toList, False := by
      obtain ⟨meth9, c9, h1, h2, -, -, -, -, h7, -⟩ := Cond.code_spec B.named (atoms_spec (ws := ws) B.pre _ (by rw [hw]; exact List.mem_cons_self))
      cases Option.some.inj (h1.symm.trans B.method)
      cases Option.some.inj (h2.symm.trans (Stand.of_body B).code)
      intro x hx
      rw [Array.isEmpty_iff.mp h7] at hx
      cases hx
    obtain ⟨t, a1, o, b1, b2, b3⟩ := body p e s m args below meth c s₁ B hml ht hP s₁ hh0 (Stand.of_body B)
    exact ⟨t, o, a1, b1, b2, b3⟩
/-- the table of a body with handlers -/
theorem vx_table {p : Program} {x y : MethodName} {S : Spec} {cc bytes : ByteArray} {maxL maxL' : Nat} {ret ret' : Option FieldType} {e : Env} {s s₁ : State} {m : MethodId} {args : Array Value} {below : List Frame} {meth : Method} {c : Code} {hh : List (Nat × Nat × Nat × Nat)}
    (B : BodyLoose p l y S cc maxL ret e s m args below meth c s₁) (h : (Cond.codeWith y bytes maxL' ret' hh).before args s = true) : c.exceptionTable.toList = tableOf hh := by
  obtain ⟨m9, meth9, c9, hn9, h1, h2, -, -, h6, -⟩ := Cond.codeWith_spec h
  cases Option.some.inj (hn9.symm.trans B.named)
  cases Option.some.inj (h1.symm.trans B.method)
  cases Option.some.inj (h2.symm.trans (Stand.of_body B).code)
  rw [← h6, table_eq]
end Bodies
end VXA
/-! ===== END ===== -/
/-! ===== BEGIN a static call of a method with an exception table ===== -/
section VXS
variable {p : Program} {l : Launch} {e : Env} {R : Room} {s : State} {m : MethodId} {args : Array Value} {below : List Frame} {meth : Method} {c : Code} {T : State} {H : Heap} {locs : List Loc} {cells slots : Nat}
abbrev vx_CSW (R : Room) (s : State) (args : Array Value) (own : String) (index : Nat) (y : MethodName) (bytes : ByteArray) (maxL : Nat) (ret : Option FieldType) (hh : List (Nat × Nat × Nat × Nat)) (ws : List Cond) (rm : Room) (mc ms n : Nat) : Prop :=
  (rm.cells = mc ∧ rm.slots = ms ∧ rm.frames + 1 ≤ R.frames ∧ 8 + (maxL + 11) + rm.locals ≤ R.locals ∧ (∀ w ∈ ws, ∀ (a' : Array Value) (U : State), s.WarmedH U.vm → w.before a' U = true) ∧ Cond.codeWith y bytes maxL ret hh ∈ ws) ∧
  (Cond.codeWith y bytes maxL ret hh).before args s = true ∧ (Cond.initialized y.cls).before args s = true ∧ (y.cls ≠ "java/lang/invoke/MethodHandle" ∧ y.cls ≠ "java/lang/invoke/VarHandle") ∧
  (∀ sig, parseMethodDescriptor y.desc = some sig → n = sig.parameters.length) ∧ (Cond.methodLink own index y).before args s = true ∧ (Cond.static y).before args s = true
theorem vx_cwSW {own : String} {index maxL mc ms : Nat} {y : MethodName} {bytes : ByteArray} {ret : Option FieldType} {hh : List (Nat × Nat × Nat × Nat)} {Ts ws ws' : List Cond} {rm : Room} (n : Nat) (ht : ∀ w ∈ Ts, w.before args s = true) (hT : GoodIn Ts (va_wsS own index y ws)) (hw : ws = Cond.codeWith y bytes maxL ret hh :: ws') (hrc : rm.cells = mc) (hrs : rm.slots = ms)
    (hd : y.cls ≠ "java/lang/invoke/MethodHandle" ∧ y.cls ≠ "java/lang/invoke/VarHandle" ∧ (parseMethodDescriptor y.desc).map (fun d => d.parameters.length) = some n) (hR : rm.frames + 1 ≤ R.frames ∧ 8 + (maxL + 11) + rm.locals ≤ R.locals) :
    vx_CSW R s args own index y bytes maxL ret hh ws rm mc ms n := by
  have ok : ∀ w ∈ va_wsS own index y ws, w.before args s = true := fun w h => ht w (hT w h).1
  have hG : GoodIn Ts ws := fun w h => hT w (by unfold va_wsS; exact List.mem_append_right _ h)
  have hc : Cond.codeWith y bytes maxL ret hh ∈ ws := by rw [hw]; exact List.mem_cons_self
  refine ⟨⟨hrc, hrs, hR.1, hR.2, pay_in ht hG, hc⟩, ht _ (hG _ hc).1, ok _ (by simp [va_wsS]), ⟨hd.1, hd.2.1⟩, fun sig h => ?_, ok _ (by simp [va_wsS]), ok _ (by simp [va_wsS])⟩
  have h2 := hd.2.2
  rw [h] at h2
  exact (Option.some.inj h2).symm
theorem vx_callSW (X : Stand p l e R s m args below meth c T locs cells slots) (hexec : p.tables.exec = Jvm.exec) {own : String} {index : Nat} {y : MethodName} {bytes : ByteArray} {maxL : Nat} {ret : Option FieldType} {hh : List (Nat × Nat × Nat × Nat)}
    (hown : s.vm.findClass own = some m.cls) (hlink : (Cond.methodLink own index y).before args s = true) (hstat : (Cond.static y).before args s = true) (hinit : (Cond.initialized y.cls).before args s = true)
    (hcode : (Cond.codeWith y bytes maxL ret hh).before args s = true) (hy : y.cls ≠ "java/lang/invoke/MethodHandle" ∧ y.cls ≠ "java/lang/invoke/VarHandle")
    {W9 : Nat} {Pre : Pt → Array Value → Prop} {Post : Pt → Array Value → Option Value → Pt → Prop} (hK : Back l R p e below s args y 3 W9 Pre Post)
    {g : JFrame} (hg : g.method = m) (hsize : g.locals.size = c.maxLocals) {argsL rest : List Value} (hlen : ∀ sig, parseMethodDescriptor y.desc = some sig → argsL.length = sig.parameters.length)
    (hstack : g.stack = argsL.reverse ++ rest) (hW : 2 * g.monitorRoom + (rest.map fun v => v.category).sum ≤ W9) (hdg : decode c.code g.pc = .ok (.invokestatic index, 3))
    (hpre : ∀ vm₁, s.WarmedH vm₁ → Pre ⟨T.setVm vm₁, locs, cells, slots⟩ argsL.toArray) :
    ∃ (v : Option Value) (vm₁ : Vm) (B : Pt), s.WarmedH vm₁ ∧ Stand p l e R s m args below meth c B.U B.locs B.cells B.slots ∧ Post ⟨T.setVm vm₁, locs, cells, slots⟩ argsL.toArray v B ∧
      ∀ target, Steps p.tables e below (B.U.setTop { g with pc := g.pc + 3, stack := v.toList ++ rest }) target → Steps p.tables e below (T.setTop g) target := by
  obtain ⟨mk, methM, cM, hnamed, hmethM, -, -, -, -, -, -, hsigM⟩ := Cond.codeWith_spec hcode
  have hstatic : methM.isStatic = true := Cond.static_spec hnamed hmethM hstat
  obtain ⟨kP, hkP, -⟩ := className_of_methodNamed hnamed
  have hinitP : kP.init = .initialized := Cond.initialized_spec (findClass_of_methodNamed hnamed) hkP hinit
  obtain ⟨vm₁, X₁, hstep₁⟩ := X.invokestatic hexec hown hlink hnamed hmethM hstatic hkP hinitP hy (g := g) hg (argsL := argsL) (rest := rest) (hlen _ hsigM) hstack hdg
  obtain ⟨v, B, X', hpost, hsteps⟩ := hK m meth c ⟨T.setVm vm₁, locs, cells, slots⟩ { g with stack := rest } (.invokestatic index) mk argsL.toArray X₁ hg hsize hdg hW (X₁.named hnamed) (hpre vm₁ X₁.warmed)
  exact ⟨v, vm₁, B, X₁.warmed, X', hpost, fun target h => hstep₁ _ fun acts => by rw [doInvoke_state]; exact hsteps.trans h⟩
theorem vx_runSW {y : MethodName} {bytes cc : ByteArray} {maxL nL mc ms n index : Nat} {ret : Option FieldType} {hh : List (Nat × Nat × Nat × Nat)} {ws : List Cond} {rm : Room} {Pc : Array Value → State → Prop} {Qc : Array Value → State → Outcome → State → Prop} {free : Addr → Prop} {Ts : List Cond} {own : String} {As rest : List Value} {g : JFrame}
    (S : CallFix p m c cc nL s args Ts own) (hM : Met l y ws rm Pc Qc mc ms free) (cw : vx_CSW R s args own index y bytes maxL ret hh ws rm mc ms n) (hp : PreS s H Pc As)
    (hg : g.method = m) (hn : As.length = n) (hsize : g.locals.size = nL) (hstack : g.stack = As.reverse ++ rest) (hW : 2 * g.monitorRoom + (rest.map fun v => v.category).sum ≤ 8) (hdg : decode cc g.pc = .ok (.invokestatic index, 3)) (hf : cells + mc ≤ R.cells ∧ slots + ms ≤ R.slots) :
    va_Run p l e R s m args below meth c H locs cells slots mc ms g rest (Qc As.toArray) (free) := by
  obtain ⟨⟨hrc, hrs, hfr, hlo, hws, hcw⟩, hcode, hini, hy, hlen, hl, hstt⟩ := cw
  have hK : Back l R p e below s args y 3 8 (PreOf R mc ms Pc) (PostOf Qc mc ms free) := va_backW (hh := hh) (bytes := bytes) (maxL := maxL) (ret := ret) hM hp.1 hrc hrs hfr hlo hws hcw (fun a' U hW => word_at hW (Or.inl (by first | rfl | simp [Cond.onTables, Cond.keeps, Cond.steady])) hini)
  obtain ⟨hx, hb, hml, ho, -⟩ := S
  intro T hT X
  obtain ⟨v, vm₁, ⟨U', l2, c2, s2⟩, hW₁, X', ⟨g', mk, t, L, e1, e2, hq, h1, hL, h2, h3⟩, st⟩ := vx_callSW X hx (hh := hh) (bytes := bytes) (maxL := maxL) (ret := ret) ho hl hstt hini hcode hy hK hg (hsize.trans hml.symm) (argsL := As) (rest := rest) (fun sig h => hn.trans (hlen sig h)) hstack hW (by rw [hb]; exact hdg)
    (fun vm₁ hW₁ => ⟨hf.1, hf.2, hp.2 (T.setVm vm₁) hT hW₁⟩)
  dsimp only [Pt.U, Pt.locs, Pt.cells, Pt.slots] at X' e1 e2 h1 h2 h3 st
  subst h1; subst h2; subst h3
  exact ⟨v, (T.setVm vm₁).calling g' mk As.toArray, t, U', L, hT, X', hL, e1, e2, hq, st⟩
/-- a thing of a world lies in the heap -/
theorem vx_lt {D : va_G} {cl : List vw_C} {ws : va_W} {H1 : Heap} (h : va_P D cl ws H1) {k : Nat} {q : Nat × va_E} (hk : ws[k]? = some q) : q.1 < H1.size := (h k q hk).lt
end VXS
/-! ===== END ===== -/
/-! ===== BEGIN methods with a table of their own: called by a name, returning or throwing ===== -/
section VXH
/-! vx_backW, vx_callVX, vx_callSX, vx_callVW, vx_runVW, vx_runVX, vx_runSX, vx_ofWH follow the same proofs as their sisters above (Free/Laws.lean, Shelf42/LK1.lean); vx_outP calls Shelf42/NT130.lean (outThrough). -/
section
variable {l : Launch} {R : Room} {p : Program} {e : Env} {below : List Frame} {s : State} {sargs : Array Value} {y : MethodName} {len W9 : Nat}
theorem vx_backW {ws : List Cond} {rm : Room} {Pc : Array Value → State → Prop} {Qc : Array Value → State → Outcome → State → Prop} {XC : String → State → State → Prop} {mc ms : Nat} {free : Addr → Prop} {bytes : ByteArray} {maxL : Nat} {ret : Option FieldType} {hh : List (Nat × Nat × Nat × Nat)}
    (hM : vx_Met l y ws rm Pc Qc XC mc ms free) (hblind : FrameBlind Pc) (hrc : rm.cells = mc) (hrs : rm.slots = ms)
    (hframes : rm.frames + 1 ≤ R.frames) (hlocals : W9 + (maxL + 11) + rm.locals ≤ R.locals)
    (hws : ∀ w ∈ ws, ∀ a' U, s.WarmedH U.vm → w.before a' U = true) (hcode : Cond.codeWith y bytes maxL ret hh ∈ ws) (hinit : ∀ a' U, s.WarmedH U.vm → (Cond.initialized y.cls).before a' U = true) :
    vx_Back l R p e below s sargs y len W9 (PreOf R mc ms Pc) (PostOf Qc mc ms free) (vx_Post XC mc ms free) := by
  intro m meth c A g ig mk a X hg hsize hdg hW hn hp
  have h1 : (headSpec ws rm).pre.before a A.U = true := atoms_intro fun w hw => hws w hw _ _ X.warmed
  have h2 : (Cond.codeWith y bytes maxL ret hh).before a A.U = true := hws _ hcode _ _ X.warmed
  have h3 : (Cond.initialized y.cls).before a A.U = true := hinit _ _ X.warmed
  have h4 : A.cells + (headSpec ws rm).room.cells ≤ R.cells := by rw [show (headSpec ws rm).room.cells = mc from hrc]; exact hp.1
  have h5 : A.slots + (headSpec ws rm).room.slots ≤ R.slots := by rw [show (headSpec ws rm).room.slots = ms from hrs]; exact hp.2.1
  have hPc : Pc a (A.U.calling g mk a) := hblind _ _ _ _ hp.2.2
  obtain ⟨U, Ls, c0, s0⟩ := A
  dsimp only [Pt.U, Pt.locs, Pt.cells, Pt.slots] at h1 h2 h3 h4 h5 X hn hPc ⊢
  obtain ⟨m9, methY, cY, hn9, hmY, hcY, -, hlY, -⟩ := Cond.codeWith_spec h2
  cases Option.some.inj (hn9.symm.trans hn)
  obtain ⟨kY, hkY, -⟩ := className_of_methodNamed hn
  have hinitY : kY.init = .initialized := Cond.initialized_spec (findClass_of_methodNamed hn) hkY h3
  have h : At U g.method c below := by rw [hg]; exact X.here
  have hlocals9 : W9 + (maxL + 11) + (headSpec ws rm).room.locals ≤ R.locals := hlocals
  have happ : (headSpec ws rm).appliesLoose y e.platform (U.calling g mk a) = true :=
    Spec.appliesLoose_calling (g := g) h hdg hn hkY hinitY
      (X.room_calling (g := g) (R' := (headSpec ws rm).room) hsize hmY hcY hframes (by rw [hlY]; omega) h4 h5) h1
  obtain ⟨mid, hmid⟩ := h.above
  have hfr : (U.setTop g).frames = (.java g :: mid) ++ below := by rw [State.frames_setTop' g h.top, hmid]; rfl
  obtain ⟨o, s₂, hsteps, -, hend, hq⟩ := Steps.callFree hM p X.admits X.cas X.clock (acts := []) hfr happ hPc trivial
  have hq' : vx_Q Qc XC mc ms free a (U.calling g mk a) o s₂ := hq
  rw [State.frames_setTop' g h.top] at hend
  obtain ⟨g₀, hg0⟩ := Option.isSome_iff_exists.mp h.top
  obtain ⟨r, hr⟩ := State.topJava?_eq_some.mp hg0
  have hr' : (({ U with heap := s₂.heap, slotsUsed := s₂.slotsUsed } : State).setVm s₂.vm).frames = .java g₀ :: r := hr
  rcases hq' with ⟨hqc, L, hfe, hL⟩ | ⟨q, rfl, E, ce, L, hx, hce, hcv, hcl, hW₂, hsm, hL⟩
  · obtain ⟨⟨v, rfl⟩, hW₂, e2, q2, q3, q4, q5, q6⟩ := id hfe
    have e3 : s₂ = ({ (U.calling g mk a).setFrames s₂.frames with heap := s₂.heap, slotsUsed := s₂.slotsUsed } : State).setVm s₂.vm := by
      have : s₂ = ({ s₂ with vm := (U.calling g mk a).vm } : State).setVm s₂.vm := rfl
      rw [e2] at this
      exact this
    obtain ⟨c₂, i₂, len₂, hc₂, hd₂, hf₂⟩ := hend
    have hW' : U.WarmedH s₂.vm := hW₂
    have hcc : c₂ = c := by
      have h1 : s₂.code? g.method = U.code? g.method := by
        rw [State.code?_eq, State.code?_eq, hW'.alike.method?]
      exact Option.some.inj (hc₂.symm.trans (h1.trans h.code))
    subst hcc
    have hlen : len₂ = len := by rw [hdg] at hd₂; cases hd₂; rfl
    subst hlen
    have hs₂ : s₂ = (({ U with heap := s₂.heap, slotsUsed := s₂.slotsUsed } : State).setVm s₂.vm).setTop { g with pc := g.pc + len₂, stack := v.toList ++ g.stack } := by
      refine e3.trans ?_
      rw [hf₂, State.calling_eq h.top, State.setFrames_setFrames, State.setTop_of_frames _ hr', hr]
      rfl
    have hsame : U.sameButNew ({ U with heap := s₂.heap, slotsUsed := s₂.slotsUsed } : State) L mc ms := by
      refine ⟨?_, q2, q3, q4, q5, q6⟩
      obtain ⟨t, ht, -⟩ := State.frames_cons hr
      show ({ U with heap := s₂.heap, slotsUsed := s₂.slotsUsed } : State) = { U.setFrames U.frames with heap := s₂.heap, slotsUsed := s₂.slotsUsed }
      rw [State.setFrames_self ht]
    subst hg
    refine Or.inl ⟨v, ⟨(({ U with heap := s₂.heap, slotsUsed := s₂.slotsUsed } : State).setVm s₂.vm), Ls ++ L, c0 + mc, s0 + ms⟩,
      ⟨X.admits, X.cas, X.clock, X.frames, X.room, X.hears, X.method, X.code, (X.here.setHeapUsed s₂.heap s₂.slotsUsed).setVm hW'.alike, X.tail, State.WarmedH.trans X.warmed hW', X.limits, X.bytes, X.same.trans (hsame.setVm s.vm)⟩,
      ⟨g, mk, s₂, L, rfl, rfl, hqc, rfl, hL, rfl, rfl⟩, ?_⟩
    show Steps p.tables e below _ ((({ U with heap := s₂.heap, slotsUsed := s₂.slotsUsed } : State).setVm s₂.vm).setTop { g with pc := g.pc + len₂, stack := v.toList ++ g.stack })
    rw [← hs₂]
    exact hsteps
  · obtain ⟨e2, q2, q3, q4, q5, q6⟩ := id hsm
    have e3 : s₂ = ({ (U.calling g mk a).setFrames s₂.frames with heap := s₂.heap, slotsUsed := s₂.slotsUsed } : State).setVm s₂.vm := by
      have : s₂ = ({ s₂ with vm := (U.calling g mk a).vm } : State).setVm s₂.vm := rfl
      rw [e2] at this
      exact this
    have hf₂ : s₂.frames = .throwing q :: .java g :: U.frames.tail := hend
    have hW' : U.WarmedH s₂.vm := hW₂
    have hs₂ : s₂ = ((({ U with heap := s₂.heap, slotsUsed := s₂.slotsUsed } : State).setVm s₂.vm).setTop g).pushFrame (.throwing q) := by
      refine e3.trans ?_
      rw [hf₂, State.calling_eq h.top, State.setFrames_setFrames, State.pushFrame, State.frames_setTop _ hr', State.setTop_of_frames _ hr', State.setFrames_setFrames, hr]
      rfl
    have hsame : U.sameButNew ({ U with heap := s₂.heap, slotsUsed := s₂.slotsUsed } : State) L mc ms := by
      refine ⟨?_, q2, q3, q4, q5, q6⟩
      obtain ⟨t, ht, -⟩ := State.frames_cons hr
      show ({ U with heap := s₂.heap, slotsUsed := s₂.slotsUsed } : State) = { U.setFrames U.frames with heap := s₂.heap, slotsUsed := s₂.slotsUsed }
      rw [State.setFrames_self ht]
    subst hg
    refine Or.inr ⟨q, ⟨(({ U with heap := s₂.heap, slotsUsed := s₂.slotsUsed } : State).setVm s₂.vm), Ls ++ L, c0 + mc, s0 + ms⟩,
      ⟨X.admits, X.cas, X.clock, X.frames, X.room, X.hears, X.method, X.code, (X.here.setHeapUsed s₂.heap s₂.slotsUsed).setVm hW'.alike, X.tail, State.WarmedH.trans X.warmed hW', X.limits, X.bytes, X.same.trans (hsame.setVm s.vm)⟩,
      ⟨g, mk, s₂, L, E, ce, rfl, rfl, hx, hce, hcv, hcl, rfl, hL, rfl, rfl⟩, ?_⟩
    show Steps p.tables e below _ (((({ U with heap := s₂.heap, slotsUsed := s₂.slotsUsed } : State).setVm s₂.vm).setTop g).pushFrame (.throwing q))
    rw [← hs₂]
    exact hsteps
end
variable {p : Program} {l : Launch} {e : Env} {R : Room} {s : State} {m : MethodId} {args : Array Value} {below : List Frame} {meth : Method} {c : Code} {T : State} {H : Heap} {locs : List Loc} {cells slots : Nat}
theorem vx_callVX (X : Stand p l e R s m args below meth c T locs cells slots) (hexec : p.tables.exec = Jvm.exec) {own C : String} {index : Nat} {y : MethodName} {bytes : ByteArray} {maxL : Nat} {ret : Option FieldType} {hh : List (Nat × Nat × Nat × Nat)}
    (hown : s.vm.findClass own = some m.cls) (hlink : (Cond.methodLink own index y).before args s = true) (hinst : (Cond.instanceMethod y).before args s = true) (hsel : (Cond.selects C y y).before args s = true)
    (hcode : (Cond.codeWith y bytes maxL ret hh).before args s = true) (hy : y.cls ≠ "java/lang/invoke/MethodHandle" ∧ y.cls ≠ "java/lang/invoke/VarHandle")
    {W9 : Nat} {Pre : Pt → Array Value → Prop} {Post : Pt → Array Value → Option Value → Pt → Prop} {PostX : Pt → Array Value → Addr → Pt → Prop} (hK : vx_Back l R p e below s args y 3 W9 Pre Post PostX)
    {b : Addr} {cellB : Cell} (hcell : T.heap[b]? = some cellB) (hobj : cellB.vm.isStatics = false) (hcls : s.vm.findClass C = some cellB.cls)
    {g : JFrame} (hg : g.method = m) (hsize : g.locals.size = c.maxLocals) {argsL rest : List Value} (hlen : ∀ sig, parseMethodDescriptor y.desc = some sig → argsL.length = sig.parameters.length)
    (hstack : g.stack = argsL.reverse ++ .ref b :: rest) (hW : 2 * g.monitorRoom + (rest.map fun v => v.category).sum ≤ W9) (hdg : decode c.code g.pc = .ok (.invokevirtual index, 3))
    (hpre : ∀ vm₁, s.WarmedH vm₁ → Pre ⟨T.setVm vm₁, locs, cells, slots⟩ (Value.ref b :: argsL).toArray) :
    (∃ (v : Option Value) (vm₁ : Vm) (B : Pt), s.WarmedH vm₁ ∧ Stand p l e R s m args below meth c B.U B.locs B.cells B.slots ∧ Post ⟨T.setVm vm₁, locs, cells, slots⟩ (Value.ref b :: argsL).toArray v B ∧
      ∀ target, Steps p.tables e below (B.U.setTop { g with pc := g.pc + 3, stack := v.toList ++ rest }) target → Steps p.tables e below (T.setTop g) target) ∨
    (∃ (q : Addr) (vm₁ : Vm) (B : Pt), s.WarmedH vm₁ ∧ Stand p l e R s m args below meth c B.U B.locs B.cells B.slots ∧ PostX ⟨T.setVm vm₁, locs, cells, slots⟩ (Value.ref b :: argsL).toArray q B ∧
      Steps p.tables e below (T.setTop g) ((B.U.setTop { g with stack := rest }).pushFrame (.throwing q))) := by
  obtain ⟨mk, methM, hnamed, hmethM, hstM, habM⟩ := Cond.instanceMethod_spec hinst
  obtain ⟨m8, methM', cM, hn8, hmethM', -, -, -, -, -, -, hsigM⟩ := Cond.codeWith_spec hcode
  cases Option.some.inj (hn8.symm.trans hnamed)
  cases hmethM.symm.trans hmethM'
  obtain ⟨c2, r2, m2, q1, q2, q3, q4, kP, hkP, hkPi⟩ := Cond.selects_spec hsel
  cases hcls.symm.trans q1
  cases (State.methodFound?_of_named hnamed hy).symm.trans q2
  cases hnamed.symm.trans q3
  have hselP : selectMethod e.platform s.vm cellB.cls mk = .method mk := by rw [Launch.admits_selectMethod X.admits]; exact q4
  obtain ⟨vm₁, X₁, hstep₁⟩ := X.invokevirtual hexec hown hlink hnamed hmethM hstM hkP hkPi hy (a := b) (cell := cellB) hcell
    (fun z h => by rw [h] at hobj; cases hobj) hselP hmethM habM hkP hkPi (g := g) hg (argsL := argsL) (rest := rest) (hlen _ hsigM) hstack hdg
  rcases hK m meth c ⟨T.setVm vm₁, locs, cells, slots⟩ { g with stack := rest } (.invokevirtual index) mk (Value.ref b :: argsL).toArray X₁ hg hsize hdg hW (X₁.named hnamed) (hpre vm₁ X₁.warmed) with ⟨v, B, X', hpost, hsteps⟩ | ⟨q, B, X', hpost, hsteps⟩
  · exact Or.inl ⟨v, vm₁, B, X₁.warmed, X', hpost, fun target h => hstep₁ _ fun acts => by rw [doInvoke_state]; exact hsteps.trans h⟩
  · exact Or.inr ⟨q, vm₁, B, X₁.warmed, X', hpost, hstep₁ _ fun acts => by rw [doInvoke_state]; exact hsteps⟩
theorem vx_callSX (X : Stand p l e R s m args below meth c T locs cells slots) (hexec : p.tables.exec = Jvm.exec) {own : String} {index : Nat} {y : MethodName} {bytes : ByteArray} {maxL : Nat} {ret : Option FieldType} {hh : List (Nat × Nat × Nat × Nat)}
    (hown : s.vm.findClass own = some m.cls) (hlink : (Cond.methodLink own index y).before args s = true) (hstat : (Cond.static y).before args s = true) (hinit : (Cond.initialized y.cls).before args s = true)
    (hcode : (Cond.codeWith y bytes maxL ret hh).before args s = true) (hy : y.cls ≠ "java/lang/invoke/MethodHandle" ∧ y.cls ≠ "java/lang/invoke/VarHandle")
    {W9 : Nat} {Pre : Pt → Array Value → Prop} {Post : Pt → Array Value → Option Value → Pt → Prop} {PostX : Pt → Array Value → Addr → Pt → Prop} (hK : vx_Back l R p e below s args y 3 W9 Pre Post PostX)
    {g : JFrame} (hg : g.method = m) (hsize : g.locals.size = c.maxLocals) {argsL rest : List Value} (hlen : ∀ sig, parseMethodDescriptor y.desc = some sig → argsL.length = sig.parameters.length)
    (hstack : g.stack = argsL.reverse ++ rest) (hW : 2 * g.monitorRoom + (rest.map fun v => v.category).sum ≤ W9) (hdg : decode c.code g.pc = .ok (.invokestatic index, 3))
    (hpre : ∀ vm₁, s.WarmedH vm₁ → Pre ⟨T.setVm vm₁, locs, cells, slots⟩ argsL.toArray) :
    (∃ (v : Option Value) (vm₁ : Vm) (B : Pt), s.WarmedH vm₁ ∧ Stand p l e R s m args below meth c B.U B.locs B.cells B.slots ∧ Post ⟨T.setVm vm₁, locs, cells, slots⟩ argsL.toArray v B ∧
      ∀ target, Steps p.tables e below (B.U.setTop { g with pc := g.pc + 3, stack := v.toList ++ rest }) target → Steps p.tables e below (T.setTop g) target) ∨
    (∃ (q : Addr) (vm₁ : Vm) (B : Pt), s.WarmedH vm₁ ∧ Stand p l e R s m args below meth c B.U B.locs B.cells B.slots ∧ PostX ⟨T.setVm vm₁, locs, cells, slots⟩ argsL.toArray q B ∧
      Steps p.tables e below (T.setTop g) ((B.U.setTop { g with stack := rest }).pushFrame (.throwing q))) := by
  obtain ⟨mk, methM, cM, hnamed, hmethM, -, -, -, -, -, -, hsigM⟩ := Cond.codeWith_spec hcode
  have hstatic : methM.isStatic = true := Cond.static_spec hnamed hmethM hstat
  obtain ⟨kP, hkP, -⟩ := className_of_methodNamed hnamed
  have hinitP : kP.init = .initialized := Cond.initialized_spec (findClass_of_methodNamed hnamed) hkP hinit
  obtain ⟨vm₁, X₁, hstep₁⟩ := X.invokestatic hexec hown hlink hnamed hmethM hstatic hkP hinitP hy (g := g) hg (argsL := argsL) (rest := rest) (hlen _ hsigM) hstack hdg
  rcases hK m meth c ⟨T.setVm vm₁, locs, cells, slots⟩ { g with stack := rest } (.invokestatic index) mk argsL.toArray X₁ hg hsize hdg hW (X₁.named hnamed) (hpre vm₁ X₁.warmed) with ⟨v, B, X', hpost, hsteps⟩ | ⟨q, B, X', hpost, hsteps⟩
  · exact Or.inl ⟨v, vm₁, B, X₁.warmed, X', hpost, fun target h => hstep₁ _ fun acts => by rw [doInvoke_state]; exact hsteps.trans h⟩
  · exact Or.inr ⟨q, vm₁, B, X₁.warmed, X', hpost, hstep₁ _ fun acts => by rw [doInvoke_state]; exact hsteps⟩
theorem vx_callVW (X : Stand p l e R s m args below meth c T locs cells slots) (hexec : p.tables.exec = Jvm.exec) {own C : String} {index : Nat} {y : MethodName} {bytes : ByteArray} {maxL : Nat} {ret : Option FieldType} {hh : List (Nat × Nat × Nat × Nat)}
    (hown : s.vm.findClass own = some m.cls) (hlink : (Cond.methodLink own index y).before args s = true) (hinst : (Cond.instanceMethod y).before args s = true) (hsel : (Cond.selects C y y).before args s = true)
    (hcode : (Cond.codeWith y bytes maxL ret hh).before args s = true) (hy : y.cls ≠ "java/lang/invoke/MethodHandle" ∧ y.cls ≠ "java/lang/invoke/VarHandle")
    {W9 : Nat} {Pre : Pt → Array Value → Prop} {Post : Pt → Array Value → Option Value → Pt → Prop} (hK : Back l R p e below s args y 3 W9 Pre Post)
    {b : Addr} {cellB : Cell} (hcell : T.heap[b]? = some cellB) (hobj : cellB.vm.isStatics = false) (hcls : s.vm.findClass C = some cellB.cls)
    {g : JFrame} (hg : g.method = m) (hsize : g.locals.size = c.maxLocals) {argsL rest : List Value} (hlen : ∀ sig, parseMethodDescriptor y.desc = some sig → argsL.length = sig.parameters.length)
    (hstack : g.stack = argsL.reverse ++ .ref b :: rest) (hW : 2 * g.monitorRoom + (rest.map fun v => v.category).sum ≤ W9) (hdg : decode c.code g.pc = .ok (.invokevirtual index, 3))
    (hpre : ∀ vm₁, s.WarmedH vm₁ → Pre ⟨T.setVm vm₁, locs, cells, slots⟩ (Value.ref b :: argsL).toArray) :
    ∃ (v : Option Value) (vm₁ : Vm) (B : Pt), s.WarmedH vm₁ ∧ Stand p l e R s m args below meth c B.U B.locs B.cells B.slots ∧ Post ⟨T.setVm vm₁, locs, cells, slots⟩ (Value.ref b :: argsL).toArray v B ∧
      ∀ target, Steps p.tables e below (B.U.setTop { g with pc := g.pc + 3, stack := v.toList ++ rest }) target → Steps p.tables e below (T.setTop g) target := by
  obtain ⟨mk, methM, hnamed, hmethM, hstM, habM⟩ := Cond.instanceMethod_spec hinst
  obtain ⟨m8, methM', cM, hn8, hmethM', -, -, -, -, -, -, hsigM⟩ := Cond.codeWith_spec hcode
  cases Option.some.inj (hn8.symm.trans hnamed)
  cases hmethM.symm.trans hmethM'
  obtain ⟨c2, r2, m2, q1, q2, q3, q4, kP, hkP, hkPi⟩ := Cond.selects_spec hsel
  cases hcls.symm.trans q1
  cases (State.methodFound?_of_named hnamed hy).symm.trans q2
  cases hnamed.symm.trans q3
  have hselP : selectMethod e.platform s.vm cellB.cls mk = .method mk := by rw [Launch.admits_selectMethod X.admits]; exact q4
  obtain ⟨vm₁, X₁, hstep₁⟩ := X.invokevirtual hexec hown hlink hnamed hmethM hstM hkP hkPi hy (a := b) (cell := cellB) hcell
    (fun z h => by rw [h] at hobj; cases hobj) hselP hmethM habM hkP hkPi (g := g) hg (argsL := argsL) (rest := rest) (hlen _ hsigM) hstack hdg
  obtain ⟨v, B, X', hpost, hsteps⟩ := hK m meth c ⟨T.setVm vm₁, locs, cells, slots⟩ { g with stack := rest } (.invokevirtual index) mk (Value.ref b :: argsL).toArray X₁ hg hsize hdg hW (X₁.named hnamed) (hpre vm₁ X₁.warmed)
  exact ⟨v, vm₁, B, X₁.warmed, X', hpost, fun target h => hstep₁ _ fun acts => by rw [doInvoke_state]; exact hsteps.trans h⟩
abbrev vx_CVW (R : Room) (s : State) (args : Array Value) (own C : String) (index : Nat) (y : MethodName) (bytes : ByteArray) (maxL : Nat) (ret : Option FieldType) (hh : List (Nat × Nat × Nat × Nat)) (ws : List Cond) (rm : Room) (mc ms n : Nat) : Prop :=
  (rm.cells = mc ∧ rm.slots = ms ∧ rm.frames + 1 ≤ R.frames ∧ 8 + (maxL + 11) + rm.locals ≤ R.locals ∧ (∀ w ∈ ws, ∀ (a' : Array Value) (U : State), s.WarmedH U.vm → w.before a' U = true) ∧ Cond.codeWith y bytes maxL ret hh ∈ ws) ∧
  (Cond.codeWith y bytes maxL ret hh).before args s = true ∧ (Cond.initialized y.cls).before args s = true ∧ (y.cls ≠ "java/lang/invoke/MethodHandle" ∧ y.cls ≠ "java/lang/invoke/VarHandle") ∧
  (∀ sig, parseMethodDescriptor y.desc = some sig → n = sig.parameters.length) ∧ (Cond.methodLink own index y).before args s = true ∧ (Cond.instanceMethod y).before args s = true ∧ (Cond.selects C y y).before args s = true
theorem vx_cwVW {own C : String} {index maxL mc ms : Nat} {y : MethodName} {bytes : ByteArray} {ret : Option FieldType} {hh : List (Nat × Nat × Nat × Nat)} {Ts ws ws' : List Cond} {rm : Room} (n : Nat) (ht : ∀ w ∈ Ts, w.before args s = true) (hT : GoodIn Ts (wsV own index C y ws)) (hw : ws = Cond.codeWith y bytes maxL ret hh :: ws') (hrc : rm.cells = mc) (hrs : rm.slots = ms)
    (hd : y.cls = C ∧ y.cls ≠ "java/lang/invoke/MethodHandle" ∧ y.cls ≠ "java/lang/invoke/VarHandle" ∧ (parseMethodDescriptor y.desc).map (fun d => d.parameters.length) = some n) (hR : rm.frames + 1 ≤ R.frames ∧ 8 + (maxL + 11) + rm.locals ≤ R.locals) :
    vx_CVW R s args own C index y bytes maxL ret hh ws rm mc ms n := by
  obtain ⟨hC, hd⟩ := hd
  subst hC
  have ok : ∀ w ∈ wsV own index y.cls y ws, w.before args s = true := fun w h => ht w (hT w h).1
  have hG : GoodIn Ts ws := fun w h => hT w (by unfold wsV; exact List.mem_append_right _ h)
  have hc : Cond.codeWith y bytes maxL ret hh ∈ ws := by rw [hw]; exact List.mem_cons_self
  refine ⟨⟨hrc, hrs, hR.1, hR.2, pay_in ht hG, hc⟩, ht _ (hG _ hc).1, ok _ (by simp [wsV]), ⟨hd.1, hd.2.1⟩, fun sig h => ?_, ok _ (by simp [wsV]), ok _ (by simp [wsV]), ok _ (by simp [wsV])⟩
  have h2 := hd.2.2
  rw [h] at h2
  exact (Option.some.inj h2).symm
theorem vx_runVW {y : MethodName} {bytes cc : ByteArray} {maxL nL mc ms n index : Nat} {ret : Option FieldType} {hh : List (Nat × Nat × Nat × Nat)} {ws : List Cond} {rm : Room} {Pc : Array Value → State → Prop} {Qc : Array Value → State → Outcome → State → Prop} {free : Addr → Prop} {Ts : List Cond} {own C : String} {b : Addr} {As rest : List Value} {g : JFrame}
    (S : CallFix p m c cc nL s args Ts own) (hM : Met l y ws rm Pc Qc mc ms free) (cw : vx_CVW R s args own C index y bytes maxL ret hh ws rm mc ms n) (hp : PreV s H C b Pc As)
    (hg : g.method = m) (hn : As.length = n) (hsize : g.locals.size = nL) (hstack : g.stack = As.reverse ++ .ref b :: rest) (hW : 2 * g.monitorRoom + (rest.map fun v => v.category).sum ≤ 8) (hdg : decode cc g.pc = .ok (.invokevirtual index, 3)) (hf : cells + mc ≤ R.cells ∧ slots + ms ≤ R.slots) :
    va_Run p l e R s m args below meth c H locs cells slots mc ms g rest (Qc (Value.ref b :: As).toArray) free := by
  obtain ⟨⟨hrc, hrs, hfr, hlo, hws, hcw⟩, hcode, hini, hy, hlen, hl, hin, hse⟩ := cw
  have hK : Back l R p e below s args y 3 8 (PreOf R mc ms Pc) (PostOf Qc mc ms free) := va_backW (hh := hh) (bytes := bytes) (maxL := maxL) (ret := ret) hM hp.1 hrc hrs hfr hlo hws hcw (fun a' U hW => word_at hW (Or.inl (by first | rfl | simp [Cond.onTables, Cond.keeps, Cond.steady])) hini)
  obtain ⟨hx, hb, hml, ho, -⟩ := S
  obtain ⟨-, ⟨cellB, hcB, hoB, hclB⟩, hPc⟩ := hp
  intro T hT X
  obtain ⟨v, vm₁, ⟨U', l2, c2, s2⟩, hW₁, X', ⟨g', mk, t, L, e1, e2, hq, h1, hL, h2, h3⟩, st⟩ := vx_callVW X hx (C := C) (hh := hh) (bytes := bytes) (maxL := maxL) (ret := ret) ho hl hin hse hcode hy hK (by rw [hT]; exact hcB) hoB hclB hg (hsize.trans hml.symm) (argsL := As) (rest := rest) (fun sig h => hn.trans (hlen sig h)) hstack hW (by rw [hb]; exact hdg)
    (fun vm₁ hW₁ => ⟨hf.1, hf.2, hPc (T.setVm vm₁) hT hW₁⟩)
  dsimp only [Pt.U, Pt.locs, Pt.cells, Pt.slots] at X' e1 e2 h1 h2 h3 st
  subst h1; subst h2; subst h3
  exact ⟨v, (T.setVm vm₁).calling g' mk (Value.ref b :: As).toArray, t, U', L, hT, X', hL, e1, e2, hq, st⟩
section
variable {y : MethodName} {bytes cc : ByteArray} {maxL nL mc ms n index : Nat} {ret : Option FieldType} {ws : List Cond} {rm : Room} {Pc : Array Value → State → Prop} {Qc : Array Value → State → Outcome → State → Prop} {XC : String → State → State → Prop} {free : Addr → Prop} {Ts : List Cond} {own C : String} {b : Addr} {As rest : List Value} {g : JFrame}
theorem vx_runVX {hh : List (Nat × Nat × Nat × Nat)} (S : CallFix p m c cc nL s args Ts own) (hM : vx_Met l y ws rm Pc Qc XC mc ms free) (cw : vx_CVW R s args own C index y bytes maxL ret hh ws rm mc ms n) (hp : PreV s H C b Pc As)
    (hg : g.method = m) (hn : As.length = n) (hsize : g.locals.size = nL) (hstack : g.stack = As.reverse ++ .ref b :: rest) (hW : 2 * g.monitorRoom + (rest.map fun v => v.category).sum ≤ 8) (hdg : decode cc g.pc = .ok (.invokevirtual index, 3)) (hf : cells + mc ≤ R.cells ∧ slots + ms ≤ R.slots) :
    vx_Run p l e R s m args below meth c H locs cells slots mc ms g rest (Qc (Value.ref b :: As).toArray) XC free := by
  obtain ⟨⟨hrc, hrs, hfr, hlo, hws, hcw⟩, hcode, hini, hy, hlen, hl, hin, hse⟩ := cw
  have hK : vx_Back l R p e below s args y 3 8 (PreOf R mc ms Pc) (PostOf Qc mc ms free) (vx_Post XC mc ms free) := vx_backW (hh := hh) (bytes := bytes) (maxL := maxL) (ret := ret) hM hp.1 hrc hrs hfr hlo hws hcw (fun a' U hW => word_at hW (Or.inl (by first | rfl | simp [Cond.onTables, Cond.keeps, Cond.steady])) hini)
  obtain ⟨hx, hb, hml, ho, -⟩ := S
  obtain ⟨-, ⟨cellB, hcB, hoB, hclB⟩, hPc⟩ := hp
  intro T hT X
  rcases vx_callVX X hx (C := C) (hh := hh) (bytes := bytes) (maxL := maxL) (ret := ret) ho hl hin hse hcode hy hK (by rw [hT]; exact hcB) hoB hclB hg (hsize.trans hml.symm) (argsL := As) (rest := rest) (fun sig h => hn.trans (hlen sig h)) hstack hW (by rw [hb]; exact hdg)
    (fun vm₁ hW₁ => ⟨hf.1, hf.2, hPc (T.setVm vm₁) hT hW₁⟩) with ⟨v, vm₁, ⟨U', l2, c2, s2⟩, hW₁, X', ⟨g', mk, t, L, e1, e2, hq, h1, hL, h2, h3⟩, st⟩ | ⟨q, vm₁, ⟨U', l2, c2, s2⟩, hW₁, X', ⟨g', mk, t, L, E, ce, e1, e2, hq, hce, hcv, hcl, h1, hL, h2, h3⟩, st⟩
  · dsimp only [Pt.U, Pt.locs, Pt.cells, Pt.slots] at X' e1 e2 h1 h2 h3 st
    subst h1; subst h2; subst h3
    exact Or.inl ⟨v, (T.setVm vm₁).calling g' mk (Value.ref b :: As).toArray, t, U', L, hT, X', hL, e1, e2, hq, st⟩
  · dsimp only [Pt.U, Pt.locs, Pt.cells, Pt.slots] at X' e1 e2 h1 h2 h3 st hcl
    subst h1; subst h2; subst h3
    exact Or.inr ⟨q, (T.setVm vm₁).calling g' mk (Value.ref b :: As).toArray, t, U', L, E, ce, hT, X', hL, e1, e2, hq, hce, hcv, vx_cls hW₁ hcl, st⟩
theorem vx_runSX {hh : List (Nat × Nat × Nat × Nat)} (S : CallFix p m c cc nL s args Ts own) (hM : vx_Met l y ws rm Pc Qc XC mc ms free) (cw : vx_CSW R s args own index y bytes maxL ret hh ws rm mc ms n) (hp : PreS s H Pc As)
    (hg : g.method = m) (hn : As.length = n) (hsize : g.locals.size = nL) (hstack : g.stack = As.reverse ++ rest) (hW : 2 * g.monitorRoom + (rest.map fun v => v.category).sum ≤ 8) (hdg : decode cc g.pc = .ok (.invokestatic index, 3)) (hf : cells + mc ≤ R.cells ∧ slots + ms ≤ R.slots) :
    vx_Run p l e R s m args below meth c H locs cells slots mc ms g rest (Qc As.toArray) XC free := by
  obtain ⟨⟨hrc, hrs, hfr, hlo, hws, hcw⟩, hcode, hini, hy, hlen, hl, hstt⟩ := cw
  have hK : vx_Back l R p e below s args y 3 8 (PreOf R mc ms Pc) (PostOf Qc mc ms free) (vx_Post XC mc ms free) := vx_backW (hh := hh) (bytes := bytes) (maxL := maxL) (ret := ret) hM hp.1 hrc hrs hfr hlo hws hcw (fun a' U hW => word_at hW (Or.inl (by first | rfl | simp [Cond.onTables, Cond.keeps, Cond.steady])) hini)
  obtain ⟨hx, hb, hml, ho, -⟩ := S
  intro T hT X
  rcases vx_callSX X hx (hh := hh) (bytes := bytes) (maxL := maxL) (ret := ret) ho hl hstt hini hcode hy hK hg (hsize.trans hml.symm) (argsL := As) (rest := rest) (fun sig h => hn.trans (hlen sig h)) hstack hW (by rw [hb]; exact hdg)
    (fun vm₁ hW₁ => ⟨hf.1, hf.2, hp.2 (T.setVm vm₁) hT hW₁⟩) with ⟨v, vm₁, ⟨U', l2, c2, s2⟩, hW₁, X', ⟨g', mk, t, L, e1, e2, hq, h1, hL, h2, h3⟩, st⟩ | ⟨q, vm₁, ⟨U', l2, c2, s2⟩, hW₁, X', ⟨g', mk, t, L, E, ce, e1, e2, hq, hce, hcv, hcl, h1, hL, h2, h3⟩, st⟩
  · dsimp only [Pt.U, Pt.locs, Pt.cells, Pt.slots] at X' e1 e2 h1 h2 h3 st
    subst h1; subst h2; subst h3
    exact Or.inl ⟨v, (T.setVm vm₁).calling g' mk As.toArray, t, U', L, hT, X', hL, e1, e2, hq, st⟩
  · dsimp only [Pt.U, Pt.locs, Pt.cells, Pt.slots] at X' e1 e2 h1 h2 h3 st hcl
    subst h1; subst h2; subst h3
    exact Or.inr ⟨q, (T.setVm vm₁).calling g' mk As.toArray, t, U', L, E, ce, hT, X', hL, e1, e2, hq, hce, hcv, vx_cls hW₁ hcl, st⟩
end
end VXH
theorem vx_ofWH {l : Launch} {y : MethodName} {ws ws' : List Cond} {rm : Room} {Pc : Array Value → State → Prop} {Qc : Array Value → State → Outcome → State → Prop} {XC : String → State → State → Prop} {mc ms : Nat} {free : Addr → Prop} {cc : ByteArray} {maxL : Nat} {ret : Option FieldType} {hh : List (Nat × Nat × Nat × Nat)}
    (hy : plainName y.cls = true) (hw : ws = Cond.codeWith y cc maxL ret hh :: ws')
    (body : ∀ p e s m args below meth c s₁, BodyLoose p l y (headSpec ws rm) cc maxL ret e s m args below meth c s₁ → c.maxLocals = maxL → Pc args s →
      W p l e (headSpec ws rm).room s m args below meth c s.heap [] 0 0 (vx_MQ below Qc XC args s mc ms free) (entryFrame m args maxL)) : vx_Met l y ws rm Pc Qc XC mc ms free := by
  refine MetFree.of_bodyS (code := cc) (maxLocals := maxL) (ret := ret) hy ?_ ?_
  · intro args s m h hn
    obtain ⟨m9, meth, c, hn9, h1, h2, h3, h4, -, h5, h6, -⟩ := Cond.codeWith_spec (atoms_spec (ws := ws) h _ (by rw [hw]; exact List.mem_cons_self))
    cases hn.symm.trans hn9
    exact ⟨meth, c, h1, h2, h3, h4, h5, h6⟩
  · intro p e s m args below meth c s₁ B hml hP _
    have hh0 : s₁.heap = s.heap := by rw [B.state]; rfl
    obtain ⟨t, a1, o, b1, b2, b3⟩ := body p e s m args below meth c s₁ B hml hP s₁ hh0 (Stand.of_body B)
    exact ⟨t, o, a1, b1, b2, b3⟩
/-! ===== END ===== -/
end
section
/-! ===== BEGIN printed: names, fields, word lists, decode rows ===== -/
def RX0 : String := "HeapRow$Memory"
def TX0 : u_T := fun k => match k with
  | _ => ("HeapRow$Memory", "words", "[J", true)
def tyX0 : Nat → FieldType := fun k => match k with
  | _ => .array .long
abbrev wsX00 : List Cond := u_ws RX0 TX0 1
theorem nmX0 : ∀ a, a < 1 → ∀ b, b < 1 → a ≠ b → (TX0 a).2.1 ≠ (TX0 b).2.1 := by decide +kernel
theorem tyX0_ok : ∀ k, k < 1 → parseFieldDescriptor (TX0 k).2.2.1 = some (tyX0 k) := by decide +kernel
abbrev cX0_init : ByteArray := prog_2_method_1_code
def yX0_init : MethodName := ⟨RX0, "<init>", "()V"⟩
abbrev cX0_has : ByteArray := prog_2_method_2_code
def yX0_has : MethodName := ⟨RX0, "has", "(J)Z"⟩
abbrev cX0_read : ByteArray := prog_2_method_3_code
def yX0_read : MethodName := ⟨RX0, "read", "(J)I"⟩
abbrev cX0_write : ByteArray := prog_2_method_4_code
def yX0_write : MethodName := ⟨RX0, "write", "(JJ)V"⟩
abbrev cX0_readNumber : ByteArray := prog_2_method_5_code
def yX0_readNumber : MethodName := ⟨RX0, "readNumber", "(J)J"⟩
abbrev cX0_writeNumber : ByteArray := prog_2_method_6_code
def yX0_writeNumber : MethodName := ⟨RX0, "writeNumber", "(JJ)V"⟩
abbrev cX0_checkNumber : ByteArray := prog_2_method_7_code
def yX0_checkNumber : MethodName := ⟨RX0, "checkNumber", "(J)V"⟩
abbrev cX0_wordOf : ByteArray := prog_2_method_8_code
def yX0_wordOf : MethodName := ⟨RX0, "wordOf", "(J)I"⟩
abbrev cX0_shiftOf : ByteArray := prog_2_method_9_code
def yX0_shiftOf : MethodName := ⟨RX0, "shiftOf", "(J)I"⟩
def RX1 : String := "HeapRow"
def TX1 : u_T := fun k => match k with
  | 0 => ("HeapRow", "memory", "LHeapRow$Memory;", true)
  | 1 => ("HeapRow", "end", "J", false)
  | _ => ("HeapRow", "stackEnd", "J", false)
def tyX1 : Nat → FieldType := fun k => match k with
  | 0 => .object "HeapRow$Memory"
  | 1 => .long
  | _ => .long
abbrev wsX10 : List Cond := u_ws RX1 TX1 3
theorem nmX1 : ∀ a, a < 3 → ∀ b, b < 3 → a ≠ b → (TX1 a).2.1 ≠ (TX1 b).2.1 := by decide +kernel
theorem tyX1_ok : ∀ k, k < 3 → parseFieldDescriptor (TX1 k).2.2.1 = some (tyX1 k) := by decide +kernel
abbrev cX1_init : ByteArray := prog_1_method_1_code
def yX1_init : MethodName := ⟨RX1, "<init>", "()V"⟩
abbrev cX1_allocate : ByteArray := prog_1_method_2_code
def yX1_allocate : MethodName := ⟨RX1, "allocate", "(I)I"⟩
abbrev cX1_cleared : ByteArray := prog_1_method_3_code
def yX1_cleared : MethodName := ⟨RX1, "cleared", "(II)I"⟩
abbrev cX1_resize : ByteArray := prog_1_method_4_code
def yX1_resize : MethodName := ⟨RX1, "resize", "(II)I"⟩
abbrev cX1_free : ByteArray := prog_1_method_5_code
def yX1_free : MethodName := ⟨RX1, "free", "(I)Z"⟩
abbrev cX1_stack : ByteArray := prog_1_method_6_code
def yX1_stack : MethodName := ⟨RX1, "stack", "(I)Z"⟩
abbrev cX1_put : ByteArray := prog_1_method_7_code
def yX1_put : MethodName := ⟨RX1, "put", "(II)I"⟩
abbrev cX1_get : ByteArray := prog_1_method_8_code
def yX1_get : MethodName := ⟨RX1, "get", "(I)I"⟩
abbrev cX1_end : ByteArray := prog_1_method_9_code
def yX1_end : MethodName := ⟨RX1, "end", "()I"⟩
abbrev cX1_unsigned : ByteArray := prog_1_method_10_code
def yX1_unsigned : MethodName := ⟨RX1, "unsigned", "(I)J"⟩
abbrev cX1_rounded : ByteArray := prog_1_method_11_code
def yX1_rounded : MethodName := ⟨RX1, "rounded", "(J)J"⟩
abbrev cX1_take : ByteArray := prog_1_method_12_code
def yX1_take : MethodName := ⟨RX1, "take", "(J)J"⟩
abbrev cX1_firstFree : ByteArray := prog_1_method_13_code
def yX1_firstFree : MethodName := ⟨RX1, "firstFree", "(J)J"⟩
abbrev cX1_takeFree : ByteArray := prog_1_method_14_code
def yX1_takeFree : MethodName := ⟨RX1, "takeFree", "(JJ)V"⟩
abbrev cX1_takeAtEnd : ByteArray := prog_1_method_15_code
def yX1_takeAtEnd : MethodName := ⟨RX1, "takeAtEnd", "(J)J"⟩
abbrev cX1_clear : ByteArray := prog_1_method_16_code
def yX1_clear : MethodName := ⟨RX1, "clear", "(JJ)V"⟩
abbrev cX1_copy : ByteArray := prog_1_method_17_code
def yX1_copy : MethodName := ⟨RX1, "copy", "(JJJ)V"⟩
abbrev cX1_takenBlock : ByteArray := prog_1_method_18_code
def yX1_takenBlock : MethodName := ⟨RX1, "takenBlock", "(J)J"⟩
abbrev cX1_giveBack : ByteArray := prog_1_method_19_code
def yX1_giveBack : MethodName := ⟨RX1, "giveBack", "(J)V"⟩
abbrev cX1_joinNext : ByteArray := prog_1_method_20_code
def yX1_joinNext : MethodName := ⟨RX1, "joinNext", "(J)V"⟩
abbrev cX1_blockBefore : ByteArray := prog_1_method_21_code
def yX1_blockBefore : MethodName := ⟨RX1, "blockBefore", "(J)J"⟩
abbrev cX1_next : ByteArray := prog_1_method_22_code
def yX1_next : MethodName := ⟨RX1, "next", "(J)J"⟩
abbrev cX1_size : ByteArray := prog_1_method_23_code
def yX1_size : MethodName := ⟨RX1, "size", "(J)J"⟩
abbrev cX1_isTaken : ByteArray := prog_1_method_24_code
def yX1_isTaken : MethodName := ⟨RX1, "isTaken", "(J)Z"⟩
abbrev cX1_writeHeader : ByteArray := prog_1_method_25_code
def yX1_writeHeader : MethodName := ⟨RX1, "writeHeader", "(JJI)V"⟩
def RX2 : String := "HeapRowModel"
def TX2 : u_T := fun k => match k with
  | 0 => ("HeapRowModel", "memory", "[B", true)
  | 1 => ("HeapRowModel", "end", "I", false)
  | 2 => ("HeapRowModel", "stack", "I", false)
  | 3 => ("HeapRowModel", "thrown", "I", false)
  | _ => ("HeapRowModel", "before", "J", false)
def tyX2 : Nat → FieldType := fun k => match k with
  | 0 => .array .byte
  | 1 => .int
  | 2 => .int
  | 3 => .int
  | _ => .long
abbrev wsX20 : List Cond := u_ws RX2 TX2 5
theorem nmX2 : ∀ a, a < 5 → ∀ b, b < 5 → a ≠ b → (TX2 a).2.1 ≠ (TX2 b).2.1 := by decide +kernel
theorem tyX2_ok : ∀ k, k < 5 → parseFieldDescriptor (TX2 k).2.2.1 = some (tyX2 k) := by decide +kernel
abbrev cX2_init : ByteArray := prog_4_method_1_code
def yX2_init : MethodName := ⟨RX2, "<init>", "()V"⟩
abbrev cX2_thrown : ByteArray := prog_4_method_2_code
def yX2_thrown : MethodName := ⟨RX2, "thrown", "()I"⟩
abbrev cX2_there : ByteArray := prog_4_method_3_code
def yX2_there : MethodName := ⟨RX2, "there", "(J)Z"⟩
abbrev cX2_read : ByteArray := prog_4_method_4_code
def yX2_read : MethodName := ⟨RX2, "read", "(J)I"⟩
abbrev cX2_write : ByteArray := prog_4_method_5_code
def yX2_write : MethodName := ⟨RX2, "write", "(JI)V"⟩
abbrev cX2_number : ByteArray := prog_4_method_6_code
def yX2_number : MethodName := ⟨RX2, "number", "(J)I"⟩
abbrev cX2_set : ByteArray := prog_4_method_7_code
def yX2_set : MethodName := ⟨RX2, "set", "(JI)V"⟩
abbrev cX2_without : ByteArray := prog_4_method_8_code
def yX2_without : MethodName := ⟨RX2, "without", "(I)J"⟩
abbrev cX2_sizeAt : ByteArray := prog_4_method_9_code
def yX2_sizeAt : MethodName := ⟨RX2, "sizeAt", "(J)J"⟩
abbrev cX2_takenAt : ByteArray := prog_4_method_10_code
def yX2_takenAt : MethodName := ⟨RX2, "takenAt", "(J)Z"⟩
abbrev cX2_found : ByteArray := prog_4_method_11_code
def yX2_found : MethodName := ⟨RX2, "found", "(I)J"⟩
abbrev cX2_up : ByteArray := prog_4_method_12_code
def yX2_up : MethodName := ⟨RX2, "up", "(J)J"⟩
abbrev cX2_take : ByteArray := prog_4_method_13_code
def yX2_take : MethodName := ⟨RX2, "take", "(J)I"⟩
abbrev cX2_give : ByteArray := prog_4_method_14_code
def yX2_give : MethodName := ⟨RX2, "give", "(I)Z"⟩
abbrev cX2_allocate : ByteArray := prog_4_method_15_code
def yX2_allocate : MethodName := ⟨RX2, "allocate", "(I)I"⟩
abbrev cX2_cleared : ByteArray := prog_4_method_16_code
def yX2_cleared : MethodName := ⟨RX2, "cleared", "(II)I"⟩
abbrev cX2_resize : ByteArray := prog_4_method_17_code
def yX2_resize : MethodName := ⟨RX2, "resize", "(II)I"⟩
abbrev cX2_resized : ByteArray := prog_4_method_18_code
def yX2_resized : MethodName := ⟨RX2, "resized", "(II)I"⟩
abbrev cX2_free : ByteArray := prog_4_method_19_code
def yX2_free : MethodName := ⟨RX2, "free", "(I)Z"⟩
abbrev cX2_stack : ByteArray := prog_4_method_20_code
def yX2_stack : MethodName := ⟨RX2, "stack", "(I)Z"⟩
abbrev cX2_put : ByteArray := prog_4_method_21_code
def yX2_put : MethodName := ⟨RX2, "put", "(II)I"⟩
abbrev cX2_get : ByteArray := prog_4_method_22_code
def yX2_get : MethodName := ⟨RX2, "get", "(I)I"⟩
abbrev cX2_end : ByteArray := prog_4_method_23_code
def yX2_end : MethodName := ⟨RX2, "end", "()I"⟩
def RJ9 : String := "java/lang/Math"
def TJ9 : u_T := fun k => match k with
  | _ => ("", "", "", false)
def tyJ9 : Nat → FieldType := fun k => match k with
  | _ => .int
abbrev wsJ90 : List Cond := u_ws RJ9 TJ9 0
theorem nmJ9 : ∀ a, a < 0 → ∀ b, b < 0 → a ≠ b → (TJ9 a).2.1 ≠ (TJ9 b).2.1 := by decide +kernel
theorem tyJ9_ok : ∀ k, k < 0 → parseFieldDescriptor (TJ9 k).2.2.1 = some (tyJ9 k) := by decide +kernel
abbrev cJ9_max_f86c9 : ByteArray := prog_7_method_66_code
def yJ9_max_f86c9 : MethodName := ⟨RJ9, "max", "(JJ)J"⟩
def RJ0 : String := "java/lang/String"
def TJ0 : u_T := fun k => match k with
  | _ => ("", "", "", false)
def tyJ0 : Nat → FieldType := fun k => match k with
  | _ => .int
abbrev wsJ00 : List Cond := u_ws RJ0 TJ0 0
theorem nmJ0 : ∀ a, a < 0 → ∀ b, b < 0 → a ≠ b → (TJ0 a).2.1 ≠ (TJ0 b).2.1 := by decide +kernel
theorem tyJ0_ok : ∀ k, k < 0 → parseFieldDescriptor (TJ0 k).2.2.1 = some (tyJ0 k) := by decide +kernel
def RL : String := "HeapRowLaw"
abbrev cL_allocate : ByteArray := method_3_code
def yL_allocate : MethodName := ⟨RL, "allocate", "(LHeapRow;I[J)I"⟩
abbrev cL_cleared : ByteArray := method_4_code
def yL_cleared : MethodName := ⟨RL, "cleared", "(LHeapRow;II[J)I"⟩
abbrev cL_resize : ByteArray := method_5_code
def yL_resize : MethodName := ⟨RL, "resize", "(LHeapRow;II[J)I"⟩
abbrev cL_free : ByteArray := method_6_code
def yL_free : MethodName := ⟨RL, "free", "(LHeapRow;I[J)I"⟩
abbrev cL_law : ByteArray := code
def yL_law : MethodName := ⟨RL, "law", "([I)Z"⟩
def wsX0_init : List Cond := .code yX0_init cX0_init 1 none :: ([.methodLink RX0 3 objectInit, .instanceMethod objectInit, .code objectInit ⟨#[0xb1]⟩ 1 none, .arrayClass .long, .fieldLink RX0 11 "HeapRow$Memory" "words" "[J"] ++ wsX00)
def wsX0_has : List Cond := .code yX0_has cX0_has 3 (some .boolean) :: ([.constantLong RX0 15 (1024), .constantLong RX0 17 (65536)])
def wsX0_wordOf : List Cond := .code yX0_wordOf cX0_wordOf 2 (some .int) :: ([.constantLong RX0 15 (1024)])
def wsX0_shiftOf : List Cond := .code yX0_shiftOf cX0_shiftOf 2 (some .int) :: ([.constantLong RX0 15 (1024)])
def wsX0_read : List Cond := .code yX0_read cX0_read 3 (some .int) :: ([.classLink RX0 23 "java/lang/IndexOutOfBoundsException", .initialized "java/lang/IndexOutOfBoundsException", .fieldLink RX0 11 "HeapRow$Memory" "words" "[J", .methodLink RX0 19 yX0_has, .instanceMethod yX0_has, .selects RX0 yX0_has yX0_has, .initialized RX0, .code yX0_has cX0_has 3 (some .boolean), .constantLong RX0 15 (1024), .constantLong RX0 17 (65536), .methodLink RX0 30 yX0_wordOf, .static yX0_wordOf, .code yX0_wordOf cX0_wordOf 2 (some .int), .methodLink RX0 34 yX0_shiftOf, .static yX0_shiftOf, .code yX0_shiftOf cX0_shiftOf 2 (some .int)] ++ wsX00 ++ (vx_atS RX0 27 "java/lang/IndexOutOfBoundsException" ["java/lang/RuntimeException", "java/lang/Exception"]).filter goodWord)
def wsX0_write : List Cond := .code yX0_write cX0_write 7 none :: ([.classLink RX0 23 "java/lang/IndexOutOfBoundsException", .initialized "java/lang/IndexOutOfBoundsException", .fieldLink RX0 11 "HeapRow$Memory" "words" "[J", .constantLong RX0 37 (255), .constantLong RX0 39 (-1), .methodLink RX0 19 yX0_has, .instanceMethod yX0_has, .selects RX0 yX0_has yX0_has, .initialized RX0, .code yX0_has cX0_has 3 (some .boolean), .constantLong RX0 15 (1024), .constantLong RX0 17 (65536), .methodLink RX0 30 yX0_wordOf, .static yX0_wordOf, .code yX0_wordOf cX0_wordOf 2 (some .int), .methodLink RX0 34 yX0_shiftOf, .static yX0_shiftOf, .code yX0_shiftOf cX0_shiftOf 2 (some .int)] ++ wsX00 ++ (vx_atS RX0 27 "java/lang/IndexOutOfBoundsException" ["java/lang/RuntimeException", "java/lang/Exception"]).filter goodWord)
def wsX0_checkNumber : List Cond := .code yX0_checkNumber cX0_checkNumber 3 none :: ([.classLink RX0 23 "java/lang/IndexOutOfBoundsException", .initialized "java/lang/IndexOutOfBoundsException", .constantLong RX0 52 (3), .methodLink RX0 19 yX0_has, .instanceMethod yX0_has, .selects RX0 yX0_has yX0_has, .initialized RX0, .code yX0_has cX0_has 3 (some .boolean), .constantLong RX0 15 (1024), .constantLong RX0 17 (65536)] ++ (vx_atS RX0 27 "java/lang/IndexOutOfBoundsException" ["java/lang/RuntimeException", "java/lang/Exception"]).filter goodWord)
def wsX0_readNumber_r1 : List Cond := [Cond.methodLink RX0 41 yX0_checkNumber, Cond.instanceMethod yX0_checkNumber, Cond.selects RX0 yX0_checkNumber yX0_checkNumber, Cond.initialized RX0, Cond.code yX0_checkNumber cX0_checkNumber 3 none, Cond.classLink RX0 23 "java/lang/IndexOutOfBoundsException", Cond.initialized "java/lang/IndexOutOfBoundsException", Cond.constantLong RX0 52 (3), Cond.methodLink RX0 19 yX0_has, Cond.instanceMethod yX0_has, Cond.selects RX0 yX0_has yX0_has, Cond.code yX0_has cX0_has 3 (some .boolean), Cond.constantLong RX0 15 (1024), Cond.constantLong RX0 17 (65536), Cond.methodLink RX0 45 yX0_read, Cond.instanceMethod yX0_read, Cond.selects RX0 yX0_read yX0_read, Cond.code yX0_read cX0_read 3 (some .int), Cond.fieldLink RX0 11 "HeapRow$Memory" "words" "[J", Cond.methodLink RX0 30 yX0_wordOf, Cond.static yX0_wordOf, Cond.code yX0_wordOf cX0_wordOf 2 (some .int), Cond.methodLink RX0 34 yX0_shiftOf, Cond.static yX0_shiftOf]
def wsX0_readNumber_r2 : List Cond := [Cond.code yX0_shiftOf cX0_shiftOf 2 (some .int)]
def wsX0_readNumber : List Cond := .code yX0_readNumber cX0_readNumber 6 (some .long) :: ((wsX0_readNumber_r1 ++ wsX0_readNumber_r2) ++ wsX00 ++ (vx_atS RX0 27 "java/lang/IndexOutOfBoundsException" ["java/lang/RuntimeException", "java/lang/Exception"]).filter goodWord)
def wsX0_writeNumber_r1 : List Cond := [Cond.methodLink RX0 41 yX0_checkNumber, Cond.instanceMethod yX0_checkNumber, Cond.selects RX0 yX0_checkNumber yX0_checkNumber, Cond.initialized RX0, Cond.code yX0_checkNumber cX0_checkNumber 3 none, Cond.classLink RX0 23 "java/lang/IndexOutOfBoundsException", Cond.initialized "java/lang/IndexOutOfBoundsException", Cond.constantLong RX0 52 (3), Cond.methodLink RX0 19 yX0_has, Cond.instanceMethod yX0_has, Cond.selects RX0 yX0_has yX0_has, Cond.code yX0_has cX0_has 3 (some .boolean), Cond.constantLong RX0 15 (1024), Cond.constantLong RX0 17 (65536), Cond.methodLink RX0 48 yX0_write, Cond.instanceMethod yX0_write, Cond.selects RX0 yX0_write yX0_write, Cond.code yX0_write cX0_write 7 none, Cond.fieldLink RX0 11 "HeapRow$Memory" "words" "[J", Cond.constantLong RX0 37 (255), Cond.constantLong RX0 39 (-1), Cond.methodLink RX0 30 yX0_wordOf, Cond.static yX0_wordOf, Cond.code yX0_wordOf cX0_wordOf 2 (some .int)]
def wsX0_writeNumber_r2 : List Cond := [Cond.methodLink RX0 34 yX0_shiftOf, Cond.static yX0_shiftOf, Cond.code yX0_shiftOf cX0_shiftOf 2 (some .int)]
def wsX0_writeNumber : List Cond := .code yX0_writeNumber cX0_writeNumber 6 none :: ((wsX0_writeNumber_r1 ++ wsX0_writeNumber_r2) ++ wsX00 ++ (vx_atS RX0 27 "java/lang/IndexOutOfBoundsException" ["java/lang/RuntimeException", "java/lang/Exception"]).filter goodWord)
def wsX1_init : List Cond := .code yX1_init cX1_init 1 none :: ([.methodLink RX1 3 objectInit, .instanceMethod objectInit, .code objectInit ⟨#[0xb1]⟩ 1 none, .classLink RX1 9 RX0, .instantiable RX0 1, .initialized RX0, .fieldLink RX1 12 "HeapRow" "memory" "LHeapRow$Memory;", .constantLong RX1 16 (1024), .fieldLink RX1 18 "HeapRow" "end" "J", .constantLong RX1 22 (65536), .fieldLink RX1 24 "HeapRow" "stackEnd" "J", .instanceMethod yX0_init, .code yX0_init cX0_init 1 none, .methodLink RX0 3 objectInit, .arrayClass .long, .fieldLink RX0 11 "HeapRow$Memory" "words" "[J"] ++ wsX00 ++ wsX10)
def wsX1_unsigned : List Cond := .code yX1_unsigned cX1_unsigned 1 (some .long) :: ([.constantLong RX1 70 (4294967295)])
def wsX1_rounded : List Cond := .code yX1_rounded cX1_rounded 2 (some .long) :: ([.constantLong RX1 72 (8), .constantLong RX1 74 (7), .constantLong RX1 76 (-8), .methodLink RX1 78 Lib.MathLoose.max_long.x, .static Lib.MathLoose.max_long.x, .initialized "java/lang/Math", .code Lib.MathLoose.max_long.x Lib.MathLoose.max_long.code 4 (some .long)])
def wsX1_isTaken_r1 : List Cond := [Cond.fieldLink RX1 12 "HeapRow" "memory" "LHeapRow$Memory;", Cond.constantLong RX1 123 (4), Cond.methodLink RX1 120 yX0_readNumber, Cond.instanceMethod yX0_readNumber, Cond.selects RX0 yX0_readNumber yX0_readNumber, Cond.initialized RX0, Cond.code yX0_readNumber cX0_readNumber 6 (some .long), Cond.methodLink RX0 41 yX0_checkNumber, Cond.instanceMethod yX0_checkNumber, Cond.selects RX0 yX0_checkNumber yX0_checkNumber, Cond.code yX0_checkNumber cX0_checkNumber 3 none, Cond.classLink RX0 23 "java/lang/IndexOutOfBoundsException", Cond.initialized "java/lang/IndexOutOfBoundsException", Cond.constantLong RX0 52 (3), Cond.methodLink RX0 19 yX0_has, Cond.instanceMethod yX0_has, Cond.selects RX0 yX0_has yX0_has, Cond.code yX0_has cX0_has 3 (some .boolean), Cond.constantLong RX0 15 (1024), Cond.constantLong RX0 17 (65536), Cond.methodLink RX0 45 yX0_read, Cond.instanceMethod yX0_read, Cond.selects RX0 yX0_read yX0_read, Cond.code yX0_read cX0_read 3 (some .int)]
def wsX1_isTaken_r2 : List Cond := [Cond.fieldLink RX0 11 "HeapRow$Memory" "words" "[J", Cond.methodLink RX0 30 yX0_wordOf, Cond.static yX0_wordOf, Cond.code yX0_wordOf cX0_wordOf 2 (some .int), Cond.methodLink RX0 34 yX0_shiftOf, Cond.static yX0_shiftOf, Cond.code yX0_shiftOf cX0_shiftOf 2 (some .int)]
def wsX1_isTaken : List Cond := .code yX1_isTaken cX1_isTaken 3 (some .boolean) :: ((wsX1_isTaken_r1 ++ wsX1_isTaken_r2) ++ wsX10 ++ wsX00 ++ (vx_atS RX0 27 "java/lang/IndexOutOfBoundsException" ["java/lang/RuntimeException", "java/lang/Exception"]).filter goodWord)
def wsX1_size_r1 : List Cond := [Cond.fieldLink RX1 12 "HeapRow" "memory" "LHeapRow$Memory;", Cond.methodLink RX1 120 yX0_readNumber, Cond.instanceMethod yX0_readNumber, Cond.selects RX0 yX0_readNumber yX0_readNumber, Cond.initialized RX0, Cond.code yX0_readNumber cX0_readNumber 6 (some .long), Cond.methodLink RX0 41 yX0_checkNumber, Cond.instanceMethod yX0_checkNumber, Cond.selects RX0 yX0_checkNumber yX0_checkNumber, Cond.code yX0_checkNumber cX0_checkNumber 3 none, Cond.classLink RX0 23 "java/lang/IndexOutOfBoundsException", Cond.initialized "java/lang/IndexOutOfBoundsException", Cond.constantLong RX0 52 (3), Cond.methodLink RX0 19 yX0_has, Cond.instanceMethod yX0_has, Cond.selects RX0 yX0_has yX0_has, Cond.code yX0_has cX0_has 3 (some .boolean), Cond.constantLong RX0 15 (1024), Cond.constantLong RX0 17 (65536), Cond.methodLink RX0 45 yX0_read, Cond.instanceMethod yX0_read, Cond.selects RX0 yX0_read yX0_read, Cond.code yX0_read cX0_read 3 (some .int), Cond.fieldLink RX0 11 "HeapRow$Memory" "words" "[J"]
def wsX1_size_r2 : List Cond := [Cond.methodLink RX0 30 yX0_wordOf, Cond.static yX0_wordOf, Cond.code yX0_wordOf cX0_wordOf 2 (some .int), Cond.methodLink RX0 34 yX0_shiftOf, Cond.static yX0_shiftOf, Cond.code yX0_shiftOf cX0_shiftOf 2 (some .int)]
def wsX1_size : List Cond := .code yX1_size cX1_size 3 (some .long) :: ((wsX1_size_r1 ++ wsX1_size_r2) ++ wsX10 ++ wsX00 ++ (vx_atS RX0 27 "java/lang/IndexOutOfBoundsException" ["java/lang/RuntimeException", "java/lang/Exception"]).filter goodWord)
def wsX1_next_r1 : List Cond := [Cond.constantLong RX1 72 (8), Cond.fieldLink RX1 12 "HeapRow" "memory" "LHeapRow$Memory;", Cond.methodLink RX1 120 yX0_readNumber, Cond.instanceMethod yX0_readNumber, Cond.selects RX0 yX0_readNumber yX0_readNumber, Cond.initialized RX0, Cond.code yX0_readNumber cX0_readNumber 6 (some .long), Cond.methodLink RX0 41 yX0_checkNumber, Cond.instanceMethod yX0_checkNumber, Cond.selects RX0 yX0_checkNumber yX0_checkNumber, Cond.code yX0_checkNumber cX0_checkNumber 3 none, Cond.classLink RX0 23 "java/lang/IndexOutOfBoundsException", Cond.initialized "java/lang/IndexOutOfBoundsException", Cond.constantLong RX0 52 (3), Cond.methodLink RX0 19 yX0_has, Cond.instanceMethod yX0_has, Cond.selects RX0 yX0_has yX0_has, Cond.code yX0_has cX0_has 3 (some .boolean), Cond.constantLong RX0 15 (1024), Cond.constantLong RX0 17 (65536), Cond.methodLink RX0 45 yX0_read, Cond.instanceMethod yX0_read, Cond.selects RX0 yX0_read yX0_read, Cond.code yX0_read cX0_read 3 (some .int)]
def wsX1_next_r2 : List Cond := [Cond.fieldLink RX0 11 "HeapRow$Memory" "words" "[J", Cond.methodLink RX0 30 yX0_wordOf, Cond.static yX0_wordOf, Cond.code yX0_wordOf cX0_wordOf 2 (some .int), Cond.methodLink RX0 34 yX0_shiftOf, Cond.static yX0_shiftOf, Cond.code yX0_shiftOf cX0_shiftOf 2 (some .int)]
def wsX1_next : List Cond := .code yX1_next cX1_next 3 (some .long) :: ((wsX1_next_r1 ++ wsX1_next_r2) ++ wsX10 ++ wsX00 ++ (vx_atS RX0 27 "java/lang/IndexOutOfBoundsException" ["java/lang/RuntimeException", "java/lang/Exception"]).filter goodWord)
def wsX1_firstFree_r1 : List Cond := [Cond.constantLong RX1 16 (1024), Cond.fieldLink RX1 18 "HeapRow" "end" "J", Cond.methodLink RX1 95 yX1_isTaken, Cond.instanceMethod yX1_isTaken, Cond.selects RX1 yX1_isTaken yX1_isTaken, Cond.initialized RX1, Cond.code yX1_isTaken cX1_isTaken 3 (some .boolean), Cond.fieldLink RX1 12 "HeapRow" "memory" "LHeapRow$Memory;", Cond.constantLong RX1 123 (4), Cond.methodLink RX1 120 yX0_readNumber, Cond.instanceMethod yX0_readNumber, Cond.selects RX0 yX0_readNumber yX0_readNumber, Cond.initialized RX0, Cond.code yX0_readNumber cX0_readNumber 6 (some .long), Cond.methodLink RX0 41 yX0_checkNumber, Cond.instanceMethod yX0_checkNumber, Cond.selects RX0 yX0_checkNumber yX0_checkNumber, Cond.code yX0_checkNumber cX0_checkNumber 3 none, Cond.classLink RX0 23 "java/lang/IndexOutOfBoundsException", Cond.initialized "java/lang/IndexOutOfBoundsException", Cond.constantLong RX0 52 (3), Cond.methodLink RX0 19 yX0_has, Cond.instanceMethod yX0_has, Cond.selects RX0 yX0_has yX0_has]
def wsX1_firstFree_r2 : List Cond := [Cond.code yX0_has cX0_has 3 (some .boolean), Cond.constantLong RX0 15 (1024), Cond.constantLong RX0 17 (65536), Cond.methodLink RX0 45 yX0_read, Cond.instanceMethod yX0_read, Cond.selects RX0 yX0_read yX0_read, Cond.code yX0_read cX0_read 3 (some .int), Cond.fieldLink RX0 11 "HeapRow$Memory" "words" "[J", Cond.methodLink RX0 30 yX0_wordOf, Cond.static yX0_wordOf, Cond.code yX0_wordOf cX0_wordOf 2 (some .int), Cond.methodLink RX0 34 yX0_shiftOf, Cond.static yX0_shiftOf, Cond.code yX0_shiftOf cX0_shiftOf 2 (some .int), Cond.methodLink RX1 48 yX1_size, Cond.instanceMethod yX1_size, Cond.selects RX1 yX1_size yX1_size, Cond.code yX1_size cX1_size 3 (some .long), Cond.methodLink RX1 98 yX1_next, Cond.instanceMethod yX1_next, Cond.selects RX1 yX1_next yX1_next, Cond.code yX1_next cX1_next 3 (some .long), Cond.constantLong RX1 72 (8)]
def wsX1_firstFree : List Cond := .code yX1_firstFree cX1_firstFree 6 (some .long) :: ((wsX1_firstFree_r1 ++ wsX1_firstFree_r2) ++ wsX10 ++ wsX00 ++ (vx_atS RX0 27 "java/lang/IndexOutOfBoundsException" ["java/lang/RuntimeException", "java/lang/Exception"]).filter goodWord)
def wsX1_writeHeader_r1 : List Cond := [Cond.fieldLink RX1 12 "HeapRow" "memory" "LHeapRow$Memory;", Cond.constantLong RX1 123 (4), Cond.methodLink RX1 125 yX0_writeNumber, Cond.instanceMethod yX0_writeNumber, Cond.selects RX0 yX0_writeNumber yX0_writeNumber, Cond.initialized RX0, Cond.code yX0_writeNumber cX0_writeNumber 6 none, Cond.methodLink RX0 41 yX0_checkNumber, Cond.instanceMethod yX0_checkNumber, Cond.selects RX0 yX0_checkNumber yX0_checkNumber, Cond.code yX0_checkNumber cX0_checkNumber 3 none, Cond.classLink RX0 23 "java/lang/IndexOutOfBoundsException", Cond.initialized "java/lang/IndexOutOfBoundsException", Cond.constantLong RX0 52 (3), Cond.methodLink RX0 19 yX0_has, Cond.instanceMethod yX0_has, Cond.selects RX0 yX0_has yX0_has, Cond.code yX0_has cX0_has 3 (some .boolean), Cond.constantLong RX0 15 (1024), Cond.constantLong RX0 17 (65536), Cond.methodLink RX0 48 yX0_write, Cond.instanceMethod yX0_write, Cond.selects RX0 yX0_write yX0_write, Cond.code yX0_write cX0_write 7 none]
def wsX1_writeHeader_r2 : List Cond := [Cond.fieldLink RX0 11 "HeapRow$Memory" "words" "[J", Cond.constantLong RX0 37 (255), Cond.constantLong RX0 39 (-1), Cond.methodLink RX0 30 yX0_wordOf, Cond.static yX0_wordOf, Cond.code yX0_wordOf cX0_wordOf 2 (some .int), Cond.methodLink RX0 34 yX0_shiftOf, Cond.static yX0_shiftOf, Cond.code yX0_shiftOf cX0_shiftOf 2 (some .int)]
def wsX1_writeHeader : List Cond := .code yX1_writeHeader cX1_writeHeader 6 none :: ((wsX1_writeHeader_r1 ++ wsX1_writeHeader_r2) ++ wsX10 ++ wsX00 ++ (vx_atS RX0 27 "java/lang/IndexOutOfBoundsException" ["java/lang/RuntimeException", "java/lang/Exception"]).filter goodWord)
def wsX1_takeFree_r1 : List Cond := [Cond.constantLong RX1 101 (16), Cond.constantLong RX1 72 (8), Cond.methodLink RX1 48 yX1_size, Cond.instanceMethod yX1_size, Cond.selects RX1 yX1_size yX1_size, Cond.initialized RX1, Cond.code yX1_size cX1_size 3 (some .long), Cond.fieldLink RX1 12 "HeapRow" "memory" "LHeapRow$Memory;", Cond.methodLink RX1 120 yX0_readNumber, Cond.instanceMethod yX0_readNumber, Cond.selects RX0 yX0_readNumber yX0_readNumber, Cond.initialized RX0, Cond.code yX0_readNumber cX0_readNumber 6 (some .long), Cond.methodLink RX0 41 yX0_checkNumber, Cond.instanceMethod yX0_checkNumber, Cond.selects RX0 yX0_checkNumber yX0_checkNumber, Cond.code yX0_checkNumber cX0_checkNumber 3 none, Cond.classLink RX0 23 "java/lang/IndexOutOfBoundsException", Cond.initialized "java/lang/IndexOutOfBoundsException", Cond.constantLong RX0 52 (3), Cond.methodLink RX0 19 yX0_has, Cond.instanceMethod yX0_has, Cond.selects RX0 yX0_has yX0_has, Cond.code yX0_has cX0_has 3 (some .boolean)]
def wsX1_takeFree_r2 : List Cond := [Cond.constantLong RX0 15 (1024), Cond.constantLong RX0 17 (65536), Cond.methodLink RX0 45 yX0_read, Cond.instanceMethod yX0_read, Cond.selects RX0 yX0_read yX0_read, Cond.code yX0_read cX0_read 3 (some .int), Cond.fieldLink RX0 11 "HeapRow$Memory" "words" "[J", Cond.methodLink RX0 30 yX0_wordOf, Cond.static yX0_wordOf, Cond.code yX0_wordOf cX0_wordOf 2 (some .int), Cond.methodLink RX0 34 yX0_shiftOf, Cond.static yX0_shiftOf, Cond.code yX0_shiftOf cX0_shiftOf 2 (some .int), Cond.methodLink RX1 103 yX1_writeHeader, Cond.instanceMethod yX1_writeHeader, Cond.selects RX1 yX1_writeHeader yX1_writeHeader, Cond.code yX1_writeHeader cX1_writeHeader 6 none, Cond.constantLong RX1 123 (4), Cond.methodLink RX1 125 yX0_writeNumber, Cond.instanceMethod yX0_writeNumber, Cond.selects RX0 yX0_writeNumber yX0_writeNumber, Cond.code yX0_writeNumber cX0_writeNumber 6 none, Cond.methodLink RX0 48 yX0_write, Cond.instanceMethod yX0_write]
def wsX1_takeFree_r3 : List Cond := [Cond.selects RX0 yX0_write yX0_write, Cond.code yX0_write cX0_write 7 none, Cond.constantLong RX0 37 (255), Cond.constantLong RX0 39 (-1)]
def wsX1_takeFree : List Cond := .code yX1_takeFree cX1_takeFree 7 none :: ((wsX1_takeFree_r1 ++ (wsX1_takeFree_r2 ++ wsX1_takeFree_r3)) ++ wsX10 ++ wsX00 ++ (vx_atS RX0 27 "java/lang/IndexOutOfBoundsException" ["java/lang/RuntimeException", "java/lang/Exception"]).filter goodWord)
def wsX1_takeAtEnd_r1 : List Cond := [Cond.fieldLink RX1 18 "HeapRow" "end" "J", Cond.constantLong RX1 72 (8), Cond.methodLink RX1 103 yX1_writeHeader, Cond.instanceMethod yX1_writeHeader, Cond.selects RX1 yX1_writeHeader yX1_writeHeader, Cond.initialized RX1, Cond.code yX1_writeHeader cX1_writeHeader 6 none, Cond.fieldLink RX1 12 "HeapRow" "memory" "LHeapRow$Memory;", Cond.constantLong RX1 123 (4), Cond.methodLink RX1 125 yX0_writeNumber, Cond.instanceMethod yX0_writeNumber, Cond.selects RX0 yX0_writeNumber yX0_writeNumber, Cond.initialized RX0, Cond.code yX0_writeNumber cX0_writeNumber 6 none, Cond.methodLink RX0 41 yX0_checkNumber, Cond.instanceMethod yX0_checkNumber, Cond.selects RX0 yX0_checkNumber yX0_checkNumber, Cond.code yX0_checkNumber cX0_checkNumber 3 none, Cond.classLink RX0 23 "java/lang/IndexOutOfBoundsException", Cond.initialized "java/lang/IndexOutOfBoundsException", Cond.constantLong RX0 52 (3), Cond.methodLink RX0 19 yX0_has, Cond.instanceMethod yX0_has, Cond.selects RX0 yX0_has yX0_has]
def wsX1_takeAtEnd_r2 : List Cond := [Cond.code yX0_has cX0_has 3 (some .boolean), Cond.constantLong RX0 15 (1024), Cond.constantLong RX0 17 (65536), Cond.methodLink RX0 48 yX0_write, Cond.instanceMethod yX0_write, Cond.selects RX0 yX0_write yX0_write, Cond.code yX0_write cX0_write 7 none, Cond.fieldLink RX0 11 "HeapRow$Memory" "words" "[J", Cond.constantLong RX0 37 (255), Cond.constantLong RX0 39 (-1), Cond.methodLink RX0 30 yX0_wordOf, Cond.static yX0_wordOf, Cond.code yX0_wordOf cX0_wordOf 2 (some .int), Cond.methodLink RX0 34 yX0_shiftOf, Cond.static yX0_shiftOf, Cond.code yX0_shiftOf cX0_shiftOf 2 (some .int)]
def wsX1_takeAtEnd : List Cond := .code yX1_takeAtEnd cX1_takeAtEnd 5 (some .long) :: ((wsX1_takeAtEnd_r1 ++ wsX1_takeAtEnd_r2) ++ wsX10 ++ wsX00 ++ (vx_atS RX0 27 "java/lang/IndexOutOfBoundsException" ["java/lang/RuntimeException", "java/lang/Exception"]).filter goodWord)
def wsX1_take_r1 : List Cond := [Cond.constantLong RX1 72 (8), Cond.constantLong RX1 35 (480000), Cond.fieldLink RX1 18 "HeapRow" "end" "J", Cond.fieldLink RX1 24 "HeapRow" "stackEnd" "J", Cond.constantLong RX1 90 (4096), Cond.methodLink RX1 51 yX1_rounded, Cond.static yX1_rounded, Cond.initialized RX1, Cond.code yX1_rounded cX1_rounded 2 (some .long), Cond.constantLong RX1 74 (7), Cond.constantLong RX1 76 (-8), Cond.methodLink RX1 78 Lib.MathLoose.max_long.x, Cond.static Lib.MathLoose.max_long.x, Cond.initialized "java/lang/Math", Cond.code Lib.MathLoose.max_long.x Lib.MathLoose.max_long.code 4 (some .long), Cond.methodLink RX1 84 yX1_firstFree, Cond.instanceMethod yX1_firstFree, Cond.selects RX1 yX1_firstFree yX1_firstFree, Cond.code yX1_firstFree cX1_firstFree 6 (some .long), Cond.constantLong RX1 16 (1024), Cond.methodLink RX1 95 yX1_isTaken, Cond.instanceMethod yX1_isTaken, Cond.selects RX1 yX1_isTaken yX1_isTaken, Cond.code yX1_isTaken cX1_isTaken 3 (some .boolean)]
def wsX1_take_r2 : List Cond := [Cond.fieldLink RX1 12 "HeapRow" "memory" "LHeapRow$Memory;", Cond.constantLong RX1 123 (4), Cond.methodLink RX1 120 yX0_readNumber, Cond.instanceMethod yX0_readNumber, Cond.selects RX0 yX0_readNumber yX0_readNumber, Cond.initialized RX0, Cond.code yX0_readNumber cX0_readNumber 6 (some .long), Cond.methodLink RX0 41 yX0_checkNumber, Cond.instanceMethod yX0_checkNumber, Cond.selects RX0 yX0_checkNumber yX0_checkNumber, Cond.code yX0_checkNumber cX0_checkNumber 3 none, Cond.classLink RX0 23 "java/lang/IndexOutOfBoundsException", Cond.initialized "java/lang/IndexOutOfBoundsException", Cond.constantLong RX0 52 (3), Cond.methodLink RX0 19 yX0_has, Cond.instanceMethod yX0_has, Cond.selects RX0 yX0_has yX0_has, Cond.code yX0_has cX0_has 3 (some .boolean), Cond.constantLong RX0 15 (1024), Cond.constantLong RX0 17 (65536), Cond.methodLink RX0 45 yX0_read, Cond.instanceMethod yX0_read, Cond.selects RX0 yX0_read yX0_read, Cond.code yX0_read cX0_read 3 (some .int)]
def wsX1_take_r3 : List Cond := [Cond.fieldLink RX0 11 "HeapRow$Memory" "words" "[J", Cond.methodLink RX0 30 yX0_wordOf, Cond.static yX0_wordOf, Cond.code yX0_wordOf cX0_wordOf 2 (some .int), Cond.methodLink RX0 34 yX0_shiftOf, Cond.static yX0_shiftOf, Cond.code yX0_shiftOf cX0_shiftOf 2 (some .int), Cond.methodLink RX1 48 yX1_size, Cond.instanceMethod yX1_size, Cond.selects RX1 yX1_size yX1_size, Cond.code yX1_size cX1_size 3 (some .long), Cond.methodLink RX1 98 yX1_next, Cond.instanceMethod yX1_next, Cond.selects RX1 yX1_next yX1_next, Cond.code yX1_next cX1_next 3 (some .long), Cond.methodLink RX1 87 yX1_takeFree, Cond.instanceMethod yX1_takeFree, Cond.selects RX1 yX1_takeFree yX1_takeFree, Cond.code yX1_takeFree cX1_takeFree 7 none, Cond.constantLong RX1 101 (16), Cond.methodLink RX1 103 yX1_writeHeader, Cond.instanceMethod yX1_writeHeader, Cond.selects RX1 yX1_writeHeader yX1_writeHeader, Cond.code yX1_writeHeader cX1_writeHeader 6 none]
def wsX1_take_r4 : List Cond := [Cond.methodLink RX1 125 yX0_writeNumber, Cond.instanceMethod yX0_writeNumber, Cond.selects RX0 yX0_writeNumber yX0_writeNumber, Cond.code yX0_writeNumber cX0_writeNumber 6 none, Cond.methodLink RX0 48 yX0_write, Cond.instanceMethod yX0_write, Cond.selects RX0 yX0_write yX0_write, Cond.code yX0_write cX0_write 7 none, Cond.constantLong RX0 37 (255), Cond.constantLong RX0 39 (-1), Cond.methodLink RX1 92 yX1_takeAtEnd, Cond.instanceMethod yX1_takeAtEnd, Cond.selects RX1 yX1_takeAtEnd yX1_takeAtEnd, Cond.code yX1_takeAtEnd cX1_takeAtEnd 5 (some .long)]
def wsX1_take : List Cond := .code yX1_take cX1_take 7 (some .long) :: ((wsX1_take_r1 ++ (wsX1_take_r2 ++ (wsX1_take_r3 ++ wsX1_take_r4))) ++ wsX10 ++ wsX00 ++ (vx_atS RX0 27 "java/lang/IndexOutOfBoundsException" ["java/lang/RuntimeException", "java/lang/Exception"]).filter goodWord)
def wsX1_allocate_r1 : List Cond := [Cond.methodLink RX1 27 yX1_unsigned, Cond.static yX1_unsigned, Cond.initialized RX1, Cond.code yX1_unsigned cX1_unsigned 1 (some .long), Cond.constantLong RX1 70 (4294967295), Cond.methodLink RX1 31 yX1_take, Cond.instanceMethod yX1_take, Cond.selects RX1 yX1_take yX1_take, Cond.code yX1_take cX1_take 7 (some .long), Cond.constantLong RX1 72 (8), Cond.constantLong RX1 35 (480000), Cond.fieldLink RX1 18 "HeapRow" "end" "J", Cond.fieldLink RX1 24 "HeapRow" "stackEnd" "J", Cond.constantLong RX1 90 (4096), Cond.methodLink RX1 51 yX1_rounded, Cond.static yX1_rounded, Cond.code yX1_rounded cX1_rounded 2 (some .long), Cond.constantLong RX1 74 (7), Cond.constantLong RX1 76 (-8), Cond.methodLink RX1 78 Lib.MathLoose.max_long.x, Cond.static Lib.MathLoose.max_long.x, Cond.initialized "java/lang/Math", Cond.code Lib.MathLoose.max_long.x Lib.MathLoose.max_long.code 4 (some .long), Cond.methodLink RX1 84 yX1_firstFree]
def wsX1_allocate_r2 : List Cond := [Cond.instanceMethod yX1_firstFree, Cond.selects RX1 yX1_firstFree yX1_firstFree, Cond.code yX1_firstFree cX1_firstFree 6 (some .long), Cond.constantLong RX1 16 (1024), Cond.methodLink RX1 95 yX1_isTaken, Cond.instanceMethod yX1_isTaken, Cond.selects RX1 yX1_isTaken yX1_isTaken, Cond.code yX1_isTaken cX1_isTaken 3 (some .boolean), Cond.fieldLink RX1 12 "HeapRow" "memory" "LHeapRow$Memory;", Cond.constantLong RX1 123 (4), Cond.methodLink RX1 120 yX0_readNumber, Cond.instanceMethod yX0_readNumber, Cond.selects RX0 yX0_readNumber yX0_readNumber, Cond.initialized RX0, Cond.code yX0_readNumber cX0_readNumber 6 (some .long), Cond.methodLink RX0 41 yX0_checkNumber, Cond.instanceMethod yX0_checkNumber, Cond.selects RX0 yX0_checkNumber yX0_checkNumber, Cond.code yX0_checkNumber cX0_checkNumber 3 none, Cond.classLink RX0 23 "java/lang/IndexOutOfBoundsException", Cond.initialized "java/lang/IndexOutOfBoundsException", Cond.constantLong RX0 52 (3), Cond.methodLink RX0 19 yX0_has, Cond.instanceMethod yX0_has]
def wsX1_allocate_r3 : List Cond := [Cond.selects RX0 yX0_has yX0_has, Cond.code yX0_has cX0_has 3 (some .boolean), Cond.constantLong RX0 15 (1024), Cond.constantLong RX0 17 (65536), Cond.methodLink RX0 45 yX0_read, Cond.instanceMethod yX0_read, Cond.selects RX0 yX0_read yX0_read, Cond.code yX0_read cX0_read 3 (some .int), Cond.fieldLink RX0 11 "HeapRow$Memory" "words" "[J", Cond.methodLink RX0 30 yX0_wordOf, Cond.static yX0_wordOf, Cond.code yX0_wordOf cX0_wordOf 2 (some .int), Cond.methodLink RX0 34 yX0_shiftOf, Cond.static yX0_shiftOf, Cond.code yX0_shiftOf cX0_shiftOf 2 (some .int), Cond.methodLink RX1 48 yX1_size, Cond.instanceMethod yX1_size, Cond.selects RX1 yX1_size yX1_size, Cond.code yX1_size cX1_size 3 (some .long), Cond.methodLink RX1 98 yX1_next, Cond.instanceMethod yX1_next, Cond.selects RX1 yX1_next yX1_next, Cond.code yX1_next cX1_next 3 (some .long), Cond.methodLink RX1 87 yX1_takeFree]
def wsX1_allocate_r4 : List Cond := [Cond.instanceMethod yX1_takeFree, Cond.selects RX1 yX1_takeFree yX1_takeFree, Cond.code yX1_takeFree cX1_takeFree 7 none, Cond.constantLong RX1 101 (16), Cond.methodLink RX1 103 yX1_writeHeader, Cond.instanceMethod yX1_writeHeader, Cond.selects RX1 yX1_writeHeader yX1_writeHeader, Cond.code yX1_writeHeader cX1_writeHeader 6 none, Cond.methodLink RX1 125 yX0_writeNumber, Cond.instanceMethod yX0_writeNumber, Cond.selects RX0 yX0_writeNumber yX0_writeNumber, Cond.code yX0_writeNumber cX0_writeNumber 6 none, Cond.methodLink RX0 48 yX0_write, Cond.instanceMethod yX0_write, Cond.selects RX0 yX0_write yX0_write, Cond.code yX0_write cX0_write 7 none, Cond.constantLong RX0 37 (255), Cond.constantLong RX0 39 (-1), Cond.methodLink RX1 92 yX1_takeAtEnd, Cond.instanceMethod yX1_takeAtEnd, Cond.selects RX1 yX1_takeAtEnd yX1_takeAtEnd, Cond.code yX1_takeAtEnd cX1_takeAtEnd 5 (some .long)]
def wsX1_allocate : List Cond := .code yX1_allocate cX1_allocate 2 (some .int) :: ((wsX1_allocate_r1 ++ (wsX1_allocate_r2 ++ (wsX1_allocate_r3 ++ wsX1_allocate_r4))) ++ wsX10 ++ wsX00 ++ (vx_atS RX0 27 "java/lang/IndexOutOfBoundsException" ["java/lang/RuntimeException", "java/lang/Exception"]).filter goodWord)
def wsX1_clear : List Cond := .code yX1_clear cX1_clear 7 none :: ([.fieldLink RX1 12 "HeapRow" "memory" "LHeapRow$Memory;", .methodLink RX1 67 yX0_write, .instanceMethod yX0_write, .selects RX0 yX0_write yX0_write, .initialized RX0, .code yX0_write cX0_write 7 none, .classLink RX0 23 "java/lang/IndexOutOfBoundsException", .initialized "java/lang/IndexOutOfBoundsException", .fieldLink RX0 11 "HeapRow$Memory" "words" "[J", .constantLong RX0 37 (255), .constantLong RX0 39 (-1), .methodLink RX0 19 yX0_has, .instanceMethod yX0_has, .selects RX0 yX0_has yX0_has, .code yX0_has cX0_has 3 (some .boolean), .constantLong RX0 15 (1024), .constantLong RX0 17 (65536), .methodLink RX0 30 yX0_wordOf, .static yX0_wordOf, .code yX0_wordOf cX0_wordOf 2 (some .int), .methodLink RX0 34 yX0_shiftOf, .static yX0_shiftOf, .code yX0_shiftOf cX0_shiftOf 2 (some .int)] ++ wsX10 ++ wsX00 ++ (vx_atS RX0 27 "java/lang/IndexOutOfBoundsException" ["java/lang/RuntimeException", "java/lang/Exception"]).filter goodWord)
def wsX1_cleared_r1 : List Cond := [Cond.constantLong RX1 35 (480000), Cond.methodLink RX1 27 yX1_unsigned, Cond.static yX1_unsigned, Cond.initialized RX1, Cond.code yX1_unsigned cX1_unsigned 1 (some .long), Cond.constantLong RX1 70 (4294967295), Cond.methodLink RX1 31 yX1_take, Cond.instanceMethod yX1_take, Cond.selects RX1 yX1_take yX1_take, Cond.code yX1_take cX1_take 7 (some .long), Cond.constantLong RX1 72 (8), Cond.fieldLink RX1 18 "HeapRow" "end" "J", Cond.fieldLink RX1 24 "HeapRow" "stackEnd" "J", Cond.constantLong RX1 90 (4096), Cond.methodLink RX1 51 yX1_rounded, Cond.static yX1_rounded, Cond.code yX1_rounded cX1_rounded 2 (some .long), Cond.constantLong RX1 74 (7), Cond.constantLong RX1 76 (-8), Cond.methodLink RX1 78 Lib.MathLoose.max_long.x, Cond.static Lib.MathLoose.max_long.x, Cond.initialized "java/lang/Math", Cond.code Lib.MathLoose.max_long.x Lib.MathLoose.max_long.code 4 (some .long), Cond.methodLink RX1 84 yX1_firstFree]
def wsX1_cleared_r2 : List Cond := [Cond.instanceMethod yX1_firstFree, Cond.selects RX1 yX1_firstFree yX1_firstFree, Cond.code yX1_firstFree cX1_firstFree 6 (some .long), Cond.constantLong RX1 16 (1024), Cond.methodLink RX1 95 yX1_isTaken, Cond.instanceMethod yX1_isTaken, Cond.selects RX1 yX1_isTaken yX1_isTaken, Cond.code yX1_isTaken cX1_isTaken 3 (some .boolean), Cond.fieldLink RX1 12 "HeapRow" "memory" "LHeapRow$Memory;", Cond.constantLong RX1 123 (4), Cond.methodLink RX1 120 yX0_readNumber, Cond.instanceMethod yX0_readNumber, Cond.selects RX0 yX0_readNumber yX0_readNumber, Cond.initialized RX0, Cond.code yX0_readNumber cX0_readNumber 6 (some .long), Cond.methodLink RX0 41 yX0_checkNumber, Cond.instanceMethod yX0_checkNumber, Cond.selects RX0 yX0_checkNumber yX0_checkNumber, Cond.code yX0_checkNumber cX0_checkNumber 3 none, Cond.classLink RX0 23 "java/lang/IndexOutOfBoundsException", Cond.initialized "java/lang/IndexOutOfBoundsException", Cond.constantLong RX0 52 (3), Cond.methodLink RX0 19 yX0_has, Cond.instanceMethod yX0_has]
def wsX1_cleared_r3 : List Cond := [Cond.selects RX0 yX0_has yX0_has, Cond.code yX0_has cX0_has 3 (some .boolean), Cond.constantLong RX0 15 (1024), Cond.constantLong RX0 17 (65536), Cond.methodLink RX0 45 yX0_read, Cond.instanceMethod yX0_read, Cond.selects RX0 yX0_read yX0_read, Cond.code yX0_read cX0_read 3 (some .int), Cond.fieldLink RX0 11 "HeapRow$Memory" "words" "[J", Cond.methodLink RX0 30 yX0_wordOf, Cond.static yX0_wordOf, Cond.code yX0_wordOf cX0_wordOf 2 (some .int), Cond.methodLink RX0 34 yX0_shiftOf, Cond.static yX0_shiftOf, Cond.code yX0_shiftOf cX0_shiftOf 2 (some .int), Cond.methodLink RX1 48 yX1_size, Cond.instanceMethod yX1_size, Cond.selects RX1 yX1_size yX1_size, Cond.code yX1_size cX1_size 3 (some .long), Cond.methodLink RX1 98 yX1_next, Cond.instanceMethod yX1_next, Cond.selects RX1 yX1_next yX1_next, Cond.code yX1_next cX1_next 3 (some .long), Cond.methodLink RX1 87 yX1_takeFree]
def wsX1_cleared_r4 : List Cond := [Cond.instanceMethod yX1_takeFree, Cond.selects RX1 yX1_takeFree yX1_takeFree, Cond.code yX1_takeFree cX1_takeFree 7 none, Cond.constantLong RX1 101 (16), Cond.methodLink RX1 103 yX1_writeHeader, Cond.instanceMethod yX1_writeHeader, Cond.selects RX1 yX1_writeHeader yX1_writeHeader, Cond.code yX1_writeHeader cX1_writeHeader 6 none, Cond.methodLink RX1 125 yX0_writeNumber, Cond.instanceMethod yX0_writeNumber, Cond.selects RX0 yX0_writeNumber yX0_writeNumber, Cond.code yX0_writeNumber cX0_writeNumber 6 none, Cond.methodLink RX0 48 yX0_write, Cond.instanceMethod yX0_write, Cond.selects RX0 yX0_write yX0_write, Cond.code yX0_write cX0_write 7 none, Cond.constantLong RX0 37 (255), Cond.constantLong RX0 39 (-1), Cond.methodLink RX1 92 yX1_takeAtEnd, Cond.instanceMethod yX1_takeAtEnd, Cond.selects RX1 yX1_takeAtEnd yX1_takeAtEnd, Cond.code yX1_takeAtEnd cX1_takeAtEnd 5 (some .long), Cond.methodLink RX1 37 yX1_clear, Cond.instanceMethod yX1_clear]
def wsX1_cleared_r5 : List Cond := [Cond.selects RX1 yX1_clear yX1_clear, Cond.code yX1_clear cX1_clear 7 none, Cond.methodLink RX1 67 yX0_write]
def wsX1_cleared : List Cond := .code yX1_cleared cX1_cleared 7 (some .int) :: ((wsX1_cleared_r1 ++ (wsX1_cleared_r2 ++ (wsX1_cleared_r3 ++ (wsX1_cleared_r4 ++ wsX1_cleared_r5)))) ++ wsX10 ++ wsX00 ++ (vx_atS RX0 27 "java/lang/IndexOutOfBoundsException" ["java/lang/RuntimeException", "java/lang/Exception"]).filter goodWord)
def wsX1_takenBlock_r1 : List Cond := [Cond.classLink RX1 107 "java/lang/IndexOutOfBoundsException", Cond.initialized "java/lang/IndexOutOfBoundsException", Cond.constantLong RX1 16 (1024), Cond.fieldLink RX1 18 "HeapRow" "end" "J", Cond.constantLong RX1 72 (8), Cond.methodLink RX1 95 yX1_isTaken, Cond.instanceMethod yX1_isTaken, Cond.selects RX1 yX1_isTaken yX1_isTaken, Cond.initialized RX1, Cond.code yX1_isTaken cX1_isTaken 3 (some .boolean), Cond.fieldLink RX1 12 "HeapRow" "memory" "LHeapRow$Memory;", Cond.constantLong RX1 123 (4), Cond.methodLink RX1 120 yX0_readNumber, Cond.instanceMethod yX0_readNumber, Cond.selects RX0 yX0_readNumber yX0_readNumber, Cond.initialized RX0, Cond.code yX0_readNumber cX0_readNumber 6 (some .long), Cond.methodLink RX0 41 yX0_checkNumber, Cond.instanceMethod yX0_checkNumber, Cond.selects RX0 yX0_checkNumber yX0_checkNumber, Cond.code yX0_checkNumber cX0_checkNumber 3 none, Cond.classLink RX0 23 "java/lang/IndexOutOfBoundsException", Cond.constantLong RX0 52 (3), Cond.methodLink RX0 19 yX0_has]
def wsX1_takenBlock_r2 : List Cond := [Cond.instanceMethod yX0_has, Cond.selects RX0 yX0_has yX0_has, Cond.code yX0_has cX0_has 3 (some .boolean), Cond.constantLong RX0 15 (1024), Cond.constantLong RX0 17 (65536), Cond.methodLink RX0 45 yX0_read, Cond.instanceMethod yX0_read, Cond.selects RX0 yX0_read yX0_read, Cond.code yX0_read cX0_read 3 (some .int), Cond.fieldLink RX0 11 "HeapRow$Memory" "words" "[J", Cond.methodLink RX0 30 yX0_wordOf, Cond.static yX0_wordOf, Cond.code yX0_wordOf cX0_wordOf 2 (some .int), Cond.methodLink RX0 34 yX0_shiftOf, Cond.static yX0_shiftOf, Cond.code yX0_shiftOf cX0_shiftOf 2 (some .int), Cond.methodLink RX1 98 yX1_next, Cond.instanceMethod yX1_next, Cond.selects RX1 yX1_next yX1_next, Cond.code yX1_next cX1_next 3 (some .long)]
def wsX1_takenBlock : List Cond := .code yX1_takenBlock cX1_takenBlock 6 (some .long) :: ((wsX1_takenBlock_r1 ++ wsX1_takenBlock_r2) ++ wsX10 ++ wsX00 ++ (vx_atS RX1 111 "java/lang/IndexOutOfBoundsException" ["java/lang/RuntimeException", "java/lang/Exception"]).filter goodWord ++ (vx_atS RX0 27 "java/lang/IndexOutOfBoundsException" ["java/lang/RuntimeException", "java/lang/Exception"]).filter goodWord)
def wsX1_joinNext_r1 : List Cond := [Cond.fieldLink RX1 18 "HeapRow" "end" "J", Cond.constantLong RX1 72 (8), Cond.methodLink RX1 98 yX1_next, Cond.instanceMethod yX1_next, Cond.selects RX1 yX1_next yX1_next, Cond.initialized RX1, Cond.code yX1_next cX1_next 3 (some .long), Cond.fieldLink RX1 12 "HeapRow" "memory" "LHeapRow$Memory;", Cond.methodLink RX1 120 yX0_readNumber, Cond.instanceMethod yX0_readNumber, Cond.selects RX0 yX0_readNumber yX0_readNumber, Cond.initialized RX0, Cond.code yX0_readNumber cX0_readNumber 6 (some .long), Cond.methodLink RX0 41 yX0_checkNumber, Cond.instanceMethod yX0_checkNumber, Cond.selects RX0 yX0_checkNumber yX0_checkNumber, Cond.code yX0_checkNumber cX0_checkNumber 3 none, Cond.classLink RX0 23 "java/lang/IndexOutOfBoundsException", Cond.initialized "java/lang/IndexOutOfBoundsException", Cond.constantLong RX0 52 (3), Cond.methodLink RX0 19 yX0_has, Cond.instanceMethod yX0_has, Cond.selects RX0 yX0_has yX0_has, Cond.code yX0_has cX0_has 3 (some .boolean)]
def wsX1_joinNext_r2 : List Cond := [Cond.constantLong RX0 15 (1024), Cond.constantLong RX0 17 (65536), Cond.methodLink RX0 45 yX0_read, Cond.instanceMethod yX0_read, Cond.selects RX0 yX0_read yX0_read, Cond.code yX0_read cX0_read 3 (some .int), Cond.fieldLink RX0 11 "HeapRow$Memory" "words" "[J", Cond.methodLink RX0 30 yX0_wordOf, Cond.static yX0_wordOf, Cond.code yX0_wordOf cX0_wordOf 2 (some .int), Cond.methodLink RX0 34 yX0_shiftOf, Cond.static yX0_shiftOf, Cond.code yX0_shiftOf cX0_shiftOf 2 (some .int), Cond.methodLink RX1 95 yX1_isTaken, Cond.instanceMethod yX1_isTaken, Cond.selects RX1 yX1_isTaken yX1_isTaken, Cond.code yX1_isTaken cX1_isTaken 3 (some .boolean), Cond.constantLong RX1 123 (4), Cond.methodLink RX1 48 yX1_size, Cond.instanceMethod yX1_size, Cond.selects RX1 yX1_size yX1_size, Cond.code yX1_size cX1_size 3 (some .long), Cond.methodLink RX1 103 yX1_writeHeader, Cond.instanceMethod yX1_writeHeader]
def wsX1_joinNext_r3 : List Cond := [Cond.selects RX1 yX1_writeHeader yX1_writeHeader, Cond.code yX1_writeHeader cX1_writeHeader 6 none, Cond.methodLink RX1 125 yX0_writeNumber, Cond.instanceMethod yX0_writeNumber, Cond.selects RX0 yX0_writeNumber yX0_writeNumber, Cond.code yX0_writeNumber cX0_writeNumber 6 none, Cond.methodLink RX0 48 yX0_write, Cond.instanceMethod yX0_write, Cond.selects RX0 yX0_write yX0_write, Cond.code yX0_write cX0_write 7 none, Cond.constantLong RX0 37 (255), Cond.constantLong RX0 39 (-1)]
def wsX1_joinNext : List Cond := .code yX1_joinNext cX1_joinNext 5 none :: ((wsX1_joinNext_r1 ++ (wsX1_joinNext_r2 ++ wsX1_joinNext_r3)) ++ wsX10 ++ wsX00 ++ (vx_atS RX0 27 "java/lang/IndexOutOfBoundsException" ["java/lang/RuntimeException", "java/lang/Exception"]).filter goodWord)
def wsX1_blockBefore_r1 : List Cond := [Cond.constantLong RX1 16 (1024), Cond.methodLink RX1 98 yX1_next, Cond.instanceMethod yX1_next, Cond.selects RX1 yX1_next yX1_next, Cond.initialized RX1, Cond.code yX1_next cX1_next 3 (some .long), Cond.constantLong RX1 72 (8), Cond.fieldLink RX1 12 "HeapRow" "memory" "LHeapRow$Memory;", Cond.methodLink RX1 120 yX0_readNumber, Cond.instanceMethod yX0_readNumber, Cond.selects RX0 yX0_readNumber yX0_readNumber, Cond.initialized RX0, Cond.code yX0_readNumber cX0_readNumber 6 (some .long), Cond.methodLink RX0 41 yX0_checkNumber, Cond.instanceMethod yX0_checkNumber, Cond.selects RX0 yX0_checkNumber yX0_checkNumber, Cond.code yX0_checkNumber cX0_checkNumber 3 none, Cond.classLink RX0 23 "java/lang/IndexOutOfBoundsException", Cond.initialized "java/lang/IndexOutOfBoundsException", Cond.constantLong RX0 52 (3), Cond.methodLink RX0 19 yX0_has, Cond.instanceMethod yX0_has, Cond.selects RX0 yX0_has yX0_has, Cond.code yX0_has cX0_has 3 (some .boolean)]
def wsX1_blockBefore_r2 : List Cond := [Cond.constantLong RX0 15 (1024), Cond.constantLong RX0 17 (65536), Cond.methodLink RX0 45 yX0_read, Cond.instanceMethod yX0_read, Cond.selects RX0 yX0_read yX0_read, Cond.code yX0_read cX0_read 3 (some .int), Cond.fieldLink RX0 11 "HeapRow$Memory" "words" "[J", Cond.methodLink RX0 30 yX0_wordOf, Cond.static yX0_wordOf, Cond.code yX0_wordOf cX0_wordOf 2 (some .int), Cond.methodLink RX0 34 yX0_shiftOf, Cond.static yX0_shiftOf, Cond.code yX0_shiftOf cX0_shiftOf 2 (some .int)]
def wsX1_blockBefore : List Cond := .code yX1_blockBefore cX1_blockBefore 8 (some .long) :: ((wsX1_blockBefore_r1 ++ wsX1_blockBefore_r2) ++ wsX10 ++ wsX00 ++ (vx_atS RX0 27 "java/lang/IndexOutOfBoundsException" ["java/lang/RuntimeException", "java/lang/Exception"]).filter goodWord)
def wsX1_giveBack_r1 : List Cond := [Cond.fieldLink RX1 18 "HeapRow" "end" "J", Cond.methodLink RX1 48 yX1_size, Cond.instanceMethod yX1_size, Cond.selects RX1 yX1_size yX1_size, Cond.initialized RX1, Cond.code yX1_size cX1_size 3 (some .long), Cond.fieldLink RX1 12 "HeapRow" "memory" "LHeapRow$Memory;", Cond.methodLink RX1 120 yX0_readNumber, Cond.instanceMethod yX0_readNumber, Cond.selects RX0 yX0_readNumber yX0_readNumber, Cond.initialized RX0, Cond.code yX0_readNumber cX0_readNumber 6 (some .long), Cond.methodLink RX0 41 yX0_checkNumber, Cond.instanceMethod yX0_checkNumber, Cond.selects RX0 yX0_checkNumber yX0_checkNumber, Cond.code yX0_checkNumber cX0_checkNumber 3 none, Cond.classLink RX0 23 "java/lang/IndexOutOfBoundsException", Cond.initialized "java/lang/IndexOutOfBoundsException", Cond.constantLong RX0 52 (3), Cond.methodLink RX0 19 yX0_has, Cond.instanceMethod yX0_has, Cond.selects RX0 yX0_has yX0_has, Cond.code yX0_has cX0_has 3 (some .boolean), Cond.constantLong RX0 15 (1024)]
def wsX1_giveBack_r2 : List Cond := [Cond.constantLong RX0 17 (65536), Cond.methodLink RX0 45 yX0_read, Cond.instanceMethod yX0_read, Cond.selects RX0 yX0_read yX0_read, Cond.code yX0_read cX0_read 3 (some .int), Cond.fieldLink RX0 11 "HeapRow$Memory" "words" "[J", Cond.methodLink RX0 30 yX0_wordOf, Cond.static yX0_wordOf, Cond.code yX0_wordOf cX0_wordOf 2 (some .int), Cond.methodLink RX0 34 yX0_shiftOf, Cond.static yX0_shiftOf, Cond.code yX0_shiftOf cX0_shiftOf 2 (some .int), Cond.methodLink RX1 103 yX1_writeHeader, Cond.instanceMethod yX1_writeHeader, Cond.selects RX1 yX1_writeHeader yX1_writeHeader, Cond.code yX1_writeHeader cX1_writeHeader 6 none, Cond.constantLong RX1 123 (4), Cond.methodLink RX1 125 yX0_writeNumber, Cond.instanceMethod yX0_writeNumber, Cond.selects RX0 yX0_writeNumber yX0_writeNumber, Cond.code yX0_writeNumber cX0_writeNumber 6 none, Cond.methodLink RX0 48 yX0_write, Cond.instanceMethod yX0_write, Cond.selects RX0 yX0_write yX0_write]
def wsX1_giveBack_r3 : List Cond := [Cond.code yX0_write cX0_write 7 none, Cond.constantLong RX0 37 (255), Cond.constantLong RX0 39 (-1), Cond.methodLink RX1 114 yX1_joinNext, Cond.instanceMethod yX1_joinNext, Cond.selects RX1 yX1_joinNext yX1_joinNext, Cond.code yX1_joinNext cX1_joinNext 5 none, Cond.constantLong RX1 72 (8), Cond.methodLink RX1 98 yX1_next, Cond.instanceMethod yX1_next, Cond.selects RX1 yX1_next yX1_next, Cond.code yX1_next cX1_next 3 (some .long), Cond.methodLink RX1 95 yX1_isTaken, Cond.instanceMethod yX1_isTaken, Cond.selects RX1 yX1_isTaken yX1_isTaken, Cond.code yX1_isTaken cX1_isTaken 3 (some .boolean), Cond.methodLink RX1 117 yX1_blockBefore, Cond.instanceMethod yX1_blockBefore, Cond.selects RX1 yX1_blockBefore yX1_blockBefore, Cond.code yX1_blockBefore cX1_blockBefore 8 (some .long), Cond.constantLong RX1 16 (1024)]
def wsX1_giveBack : List Cond := .code yX1_giveBack cX1_giveBack 7 none :: ((wsX1_giveBack_r1 ++ (wsX1_giveBack_r2 ++ wsX1_giveBack_r3)) ++ wsX10 ++ wsX00 ++ (vx_atS RX0 27 "java/lang/IndexOutOfBoundsException" ["java/lang/RuntimeException", "java/lang/Exception"]).filter goodWord)
def wsX1_copy_r1 : List Cond := [Cond.fieldLink RX1 12 "HeapRow" "memory" "LHeapRow$Memory;", Cond.methodLink RX1 63 yX0_read, Cond.instanceMethod yX0_read, Cond.selects RX0 yX0_read yX0_read, Cond.initialized RX0, Cond.code yX0_read cX0_read 3 (some .int), Cond.classLink RX0 23 "java/lang/IndexOutOfBoundsException", Cond.initialized "java/lang/IndexOutOfBoundsException", Cond.fieldLink RX0 11 "HeapRow$Memory" "words" "[J", Cond.methodLink RX0 19 yX0_has, Cond.instanceMethod yX0_has, Cond.selects RX0 yX0_has yX0_has, Cond.code yX0_has cX0_has 3 (some .boolean), Cond.constantLong RX0 15 (1024), Cond.constantLong RX0 17 (65536), Cond.methodLink RX0 30 yX0_wordOf, Cond.static yX0_wordOf, Cond.code yX0_wordOf cX0_wordOf 2 (some .int), Cond.methodLink RX0 34 yX0_shiftOf, Cond.static yX0_shiftOf, Cond.code yX0_shiftOf cX0_shiftOf 2 (some .int), Cond.methodLink RX1 67 yX0_write, Cond.instanceMethod yX0_write, Cond.selects RX0 yX0_write yX0_write]
def wsX1_copy_r2 : List Cond := [Cond.code yX0_write cX0_write 7 none, Cond.constantLong RX0 37 (255), Cond.constantLong RX0 39 (-1)]
def wsX1_copy : List Cond := .code yX1_copy cX1_copy 9 none :: ((wsX1_copy_r1 ++ wsX1_copy_r2) ++ wsX10 ++ wsX00 ++ (vx_atS RX0 27 "java/lang/IndexOutOfBoundsException" ["java/lang/RuntimeException", "java/lang/Exception"]).filter goodWord)
def wsX1_resize_r1 : List Cond := [Cond.methodLink RX1 27 yX1_unsigned, Cond.static yX1_unsigned, Cond.initialized RX1, Cond.code yX1_unsigned cX1_unsigned 1 (some .long), Cond.constantLong RX1 70 (4294967295), Cond.methodLink RX1 31 yX1_take, Cond.instanceMethod yX1_take, Cond.selects RX1 yX1_take yX1_take, Cond.code yX1_take cX1_take 7 (some .long), Cond.constantLong RX1 72 (8), Cond.constantLong RX1 35 (480000), Cond.fieldLink RX1 18 "HeapRow" "end" "J", Cond.fieldLink RX1 24 "HeapRow" "stackEnd" "J", Cond.constantLong RX1 90 (4096), Cond.methodLink RX1 51 yX1_rounded, Cond.static yX1_rounded, Cond.code yX1_rounded cX1_rounded 2 (some .long), Cond.constantLong RX1 74 (7), Cond.constantLong RX1 76 (-8), Cond.methodLink RX1 78 Lib.MathLoose.max_long.x, Cond.static Lib.MathLoose.max_long.x, Cond.initialized "java/lang/Math", Cond.code Lib.MathLoose.max_long.x Lib.MathLoose.max_long.code 4 (some .long), Cond.methodLink RX1 84 yX1_firstFree]
def wsX1_resize_r2 : List Cond := [Cond.instanceMethod yX1_firstFree, Cond.selects RX1 yX1_firstFree yX1_firstFree, Cond.code yX1_firstFree cX1_firstFree 6 (some .long), Cond.constantLong RX1 16 (1024), Cond.methodLink RX1 95 yX1_isTaken, Cond.instanceMethod yX1_isTaken, Cond.selects RX1 yX1_isTaken yX1_isTaken, Cond.code yX1_isTaken cX1_isTaken 3 (some .boolean), Cond.fieldLink RX1 12 "HeapRow" "memory" "LHeapRow$Memory;", Cond.constantLong RX1 123 (4), Cond.methodLink RX1 120 yX0_readNumber, Cond.instanceMethod yX0_readNumber, Cond.selects RX0 yX0_readNumber yX0_readNumber, Cond.initialized RX0, Cond.code yX0_readNumber cX0_readNumber 6 (some .long), Cond.methodLink RX0 41 yX0_checkNumber, Cond.instanceMethod yX0_checkNumber, Cond.selects RX0 yX0_checkNumber yX0_checkNumber, Cond.code yX0_checkNumber cX0_checkNumber 3 none, Cond.classLink RX0 23 "java/lang/IndexOutOfBoundsException", Cond.initialized "java/lang/IndexOutOfBoundsException", Cond.constantLong RX0 52 (3), Cond.methodLink RX0 19 yX0_has, Cond.instanceMethod yX0_has]
def wsX1_resize_r3 : List Cond := [Cond.selects RX0 yX0_has yX0_has, Cond.code yX0_has cX0_has 3 (some .boolean), Cond.constantLong RX0 15 (1024), Cond.constantLong RX0 17 (65536), Cond.methodLink RX0 45 yX0_read, Cond.instanceMethod yX0_read, Cond.selects RX0 yX0_read yX0_read, Cond.code yX0_read cX0_read 3 (some .int), Cond.fieldLink RX0 11 "HeapRow$Memory" "words" "[J", Cond.methodLink RX0 30 yX0_wordOf, Cond.static yX0_wordOf, Cond.code yX0_wordOf cX0_wordOf 2 (some .int), Cond.methodLink RX0 34 yX0_shiftOf, Cond.static yX0_shiftOf, Cond.code yX0_shiftOf cX0_shiftOf 2 (some .int), Cond.methodLink RX1 48 yX1_size, Cond.instanceMethod yX1_size, Cond.selects RX1 yX1_size yX1_size, Cond.code yX1_size cX1_size 3 (some .long), Cond.methodLink RX1 98 yX1_next, Cond.instanceMethod yX1_next, Cond.selects RX1 yX1_next yX1_next, Cond.code yX1_next cX1_next 3 (some .long), Cond.methodLink RX1 87 yX1_takeFree]
def wsX1_resize_r4 : List Cond := [Cond.instanceMethod yX1_takeFree, Cond.selects RX1 yX1_takeFree yX1_takeFree, Cond.code yX1_takeFree cX1_takeFree 7 none, Cond.constantLong RX1 101 (16), Cond.methodLink RX1 103 yX1_writeHeader, Cond.instanceMethod yX1_writeHeader, Cond.selects RX1 yX1_writeHeader yX1_writeHeader, Cond.code yX1_writeHeader cX1_writeHeader 6 none, Cond.methodLink RX1 125 yX0_writeNumber, Cond.instanceMethod yX0_writeNumber, Cond.selects RX0 yX0_writeNumber yX0_writeNumber, Cond.code yX0_writeNumber cX0_writeNumber 6 none, Cond.methodLink RX0 48 yX0_write, Cond.instanceMethod yX0_write, Cond.selects RX0 yX0_write yX0_write, Cond.code yX0_write cX0_write 7 none, Cond.constantLong RX0 37 (255), Cond.constantLong RX0 39 (-1), Cond.methodLink RX1 92 yX1_takeAtEnd, Cond.instanceMethod yX1_takeAtEnd, Cond.selects RX1 yX1_takeAtEnd yX1_takeAtEnd, Cond.code yX1_takeAtEnd cX1_takeAtEnd 5 (some .long), Cond.methodLink RX1 41 yX1_takenBlock, Cond.instanceMethod yX1_takenBlock]
def wsX1_resize_r5 : List Cond := [Cond.selects RX1 yX1_takenBlock yX1_takenBlock, Cond.code yX1_takenBlock cX1_takenBlock 6 (some .long), Cond.classLink RX1 107 "java/lang/IndexOutOfBoundsException", Cond.methodLink RX1 44 yX1_giveBack, Cond.instanceMethod yX1_giveBack, Cond.selects RX1 yX1_giveBack yX1_giveBack, Cond.code yX1_giveBack cX1_giveBack 7 none, Cond.methodLink RX1 114 yX1_joinNext, Cond.instanceMethod yX1_joinNext, Cond.selects RX1 yX1_joinNext yX1_joinNext, Cond.code yX1_joinNext cX1_joinNext 5 none, Cond.methodLink RX1 117 yX1_blockBefore, Cond.instanceMethod yX1_blockBefore, Cond.selects RX1 yX1_blockBefore yX1_blockBefore, Cond.code yX1_blockBefore cX1_blockBefore 8 (some .long), Cond.methodLink RX1 54 yX1_copy, Cond.instanceMethod yX1_copy, Cond.selects RX1 yX1_copy yX1_copy, Cond.code yX1_copy cX1_copy 9 none, Cond.methodLink RX1 63 yX0_read, Cond.methodLink RX1 67 yX0_write]
def wsX1_resize : List Cond := .code yX1_resize cX1_resize 9 (some .int) :: ((wsX1_resize_r1 ++ (wsX1_resize_r2 ++ (wsX1_resize_r3 ++ (wsX1_resize_r4 ++ wsX1_resize_r5)))) ++ wsX10 ++ wsX00 ++ (vx_atS RX0 27 "java/lang/IndexOutOfBoundsException" ["java/lang/RuntimeException", "java/lang/Exception"]).filter goodWord ++ (vx_atS RX1 111 "java/lang/IndexOutOfBoundsException" ["java/lang/RuntimeException", "java/lang/Exception"]).filter goodWord)
def wsX1_free_r1 : List Cond := [Cond.methodLink RX1 27 yX1_unsigned, Cond.static yX1_unsigned, Cond.initialized RX1, Cond.code yX1_unsigned cX1_unsigned 1 (some .long), Cond.constantLong RX1 70 (4294967295), Cond.methodLink RX1 41 yX1_takenBlock, Cond.instanceMethod yX1_takenBlock, Cond.selects RX1 yX1_takenBlock yX1_takenBlock, Cond.code yX1_takenBlock cX1_takenBlock 6 (some .long), Cond.classLink RX1 107 "java/lang/IndexOutOfBoundsException", Cond.initialized "java/lang/IndexOutOfBoundsException", Cond.constantLong RX1 16 (1024), Cond.fieldLink RX1 18 "HeapRow" "end" "J", Cond.constantLong RX1 72 (8), Cond.methodLink RX1 95 yX1_isTaken, Cond.instanceMethod yX1_isTaken, Cond.selects RX1 yX1_isTaken yX1_isTaken, Cond.code yX1_isTaken cX1_isTaken 3 (some .boolean), Cond.fieldLink RX1 12 "HeapRow" "memory" "LHeapRow$Memory;", Cond.constantLong RX1 123 (4), Cond.methodLink RX1 120 yX0_readNumber, Cond.instanceMethod yX0_readNumber, Cond.selects RX0 yX0_readNumber yX0_readNumber, Cond.initialized RX0]
def wsX1_free_r2 : List Cond := [Cond.code yX0_readNumber cX0_readNumber 6 (some .long), Cond.methodLink RX0 41 yX0_checkNumber, Cond.instanceMethod yX0_checkNumber, Cond.selects RX0 yX0_checkNumber yX0_checkNumber, Cond.code yX0_checkNumber cX0_checkNumber 3 none, Cond.classLink RX0 23 "java/lang/IndexOutOfBoundsException", Cond.constantLong RX0 52 (3), Cond.methodLink RX0 19 yX0_has, Cond.instanceMethod yX0_has, Cond.selects RX0 yX0_has yX0_has, Cond.code yX0_has cX0_has 3 (some .boolean), Cond.constantLong RX0 15 (1024), Cond.constantLong RX0 17 (65536), Cond.methodLink RX0 45 yX0_read, Cond.instanceMethod yX0_read, Cond.selects RX0 yX0_read yX0_read, Cond.code yX0_read cX0_read 3 (some .int), Cond.fieldLink RX0 11 "HeapRow$Memory" "words" "[J", Cond.methodLink RX0 30 yX0_wordOf, Cond.static yX0_wordOf, Cond.code yX0_wordOf cX0_wordOf 2 (some .int), Cond.methodLink RX0 34 yX0_shiftOf, Cond.static yX0_shiftOf, Cond.code yX0_shiftOf cX0_shiftOf 2 (some .int)]
def wsX1_free_r3 : List Cond := [Cond.methodLink RX1 98 yX1_next, Cond.instanceMethod yX1_next, Cond.selects RX1 yX1_next yX1_next, Cond.code yX1_next cX1_next 3 (some .long), Cond.methodLink RX1 44 yX1_giveBack, Cond.instanceMethod yX1_giveBack, Cond.selects RX1 yX1_giveBack yX1_giveBack, Cond.code yX1_giveBack cX1_giveBack 7 none, Cond.methodLink RX1 48 yX1_size, Cond.instanceMethod yX1_size, Cond.selects RX1 yX1_size yX1_size, Cond.code yX1_size cX1_size 3 (some .long), Cond.methodLink RX1 103 yX1_writeHeader, Cond.instanceMethod yX1_writeHeader, Cond.selects RX1 yX1_writeHeader yX1_writeHeader, Cond.code yX1_writeHeader cX1_writeHeader 6 none, Cond.methodLink RX1 125 yX0_writeNumber, Cond.instanceMethod yX0_writeNumber, Cond.selects RX0 yX0_writeNumber yX0_writeNumber, Cond.code yX0_writeNumber cX0_writeNumber 6 none, Cond.methodLink RX0 48 yX0_write, Cond.instanceMethod yX0_write, Cond.selects RX0 yX0_write yX0_write, Cond.code yX0_write cX0_write 7 none]
def wsX1_free_r4 : List Cond := [Cond.constantLong RX0 37 (255), Cond.constantLong RX0 39 (-1), Cond.methodLink RX1 114 yX1_joinNext, Cond.instanceMethod yX1_joinNext, Cond.selects RX1 yX1_joinNext yX1_joinNext, Cond.code yX1_joinNext cX1_joinNext 5 none, Cond.methodLink RX1 117 yX1_blockBefore, Cond.instanceMethod yX1_blockBefore, Cond.selects RX1 yX1_blockBefore yX1_blockBefore, Cond.code yX1_blockBefore cX1_blockBefore 8 (some .long)]
def wsX1_free : List Cond := .code yX1_free cX1_free 2 (some .boolean) :: ((wsX1_free_r1 ++ (wsX1_free_r2 ++ (wsX1_free_r3 ++ wsX1_free_r4))) ++ wsX10 ++ wsX00 ++ (vx_atS RX1 111 "java/lang/IndexOutOfBoundsException" ["java/lang/RuntimeException", "java/lang/Exception"]).filter goodWord ++ (vx_atS RX0 27 "java/lang/IndexOutOfBoundsException" ["java/lang/RuntimeException", "java/lang/Exception"]).filter goodWord)
def wsX1_stack : List Cond := .code yX1_stack cX1_stack 2 (some .boolean) :: ([.constant RX1 58 (65536), .fieldLink RX1 18 "HeapRow" "end" "J", .fieldLink RX1 24 "HeapRow" "stackEnd" "J"] ++ wsX10)
def wsX1_put_r1 : List Cond := [Cond.fieldLink RX1 12 "HeapRow" "memory" "LHeapRow$Memory;", Cond.methodLink RX1 27 yX1_unsigned, Cond.static yX1_unsigned, Cond.initialized RX1, Cond.code yX1_unsigned cX1_unsigned 1 (some .long), Cond.constantLong RX1 70 (4294967295), Cond.methodLink RX1 59 yX0_has, Cond.instanceMethod yX0_has, Cond.selects RX0 yX0_has yX0_has, Cond.initialized RX0, Cond.code yX0_has cX0_has 3 (some .boolean), Cond.constantLong RX0 15 (1024), Cond.constantLong RX0 17 (65536), Cond.methodLink RX1 63 yX0_read, Cond.instanceMethod yX0_read, Cond.selects RX0 yX0_read yX0_read, Cond.code yX0_read cX0_read 3 (some .int), Cond.classLink RX0 23 "java/lang/IndexOutOfBoundsException", Cond.initialized "java/lang/IndexOutOfBoundsException", Cond.fieldLink RX0 11 "HeapRow$Memory" "words" "[J", Cond.methodLink RX0 19 yX0_has, Cond.methodLink RX0 30 yX0_wordOf, Cond.static yX0_wordOf, Cond.code yX0_wordOf cX0_wordOf 2 (some .int)]
def wsX1_put_r2 : List Cond := [Cond.methodLink RX0 34 yX0_shiftOf, Cond.static yX0_shiftOf, Cond.code yX0_shiftOf cX0_shiftOf 2 (some .int), Cond.methodLink RX1 67 yX0_write, Cond.instanceMethod yX0_write, Cond.selects RX0 yX0_write yX0_write, Cond.code yX0_write cX0_write 7 none, Cond.constantLong RX0 37 (255), Cond.constantLong RX0 39 (-1)]
def wsX1_put : List Cond := .code yX1_put cX1_put 6 (some .int) :: ((wsX1_put_r1 ++ wsX1_put_r2) ++ wsX10 ++ wsX00 ++ (vx_atS RX0 27 "java/lang/IndexOutOfBoundsException" ["java/lang/RuntimeException", "java/lang/Exception"]).filter goodWord)
def wsX1_get_r1 : List Cond := [Cond.fieldLink RX1 12 "HeapRow" "memory" "LHeapRow$Memory;", Cond.methodLink RX1 27 yX1_unsigned, Cond.static yX1_unsigned, Cond.initialized RX1, Cond.code yX1_unsigned cX1_unsigned 1 (some .long), Cond.constantLong RX1 70 (4294967295), Cond.methodLink RX1 59 yX0_has, Cond.instanceMethod yX0_has, Cond.selects RX0 yX0_has yX0_has, Cond.initialized RX0, Cond.code yX0_has cX0_has 3 (some .boolean), Cond.constantLong RX0 15 (1024), Cond.constantLong RX0 17 (65536), Cond.methodLink RX1 63 yX0_read, Cond.instanceMethod yX0_read, Cond.selects RX0 yX0_read yX0_read, Cond.code yX0_read cX0_read 3 (some .int), Cond.classLink RX0 23 "java/lang/IndexOutOfBoundsException", Cond.initialized "java/lang/IndexOutOfBoundsException", Cond.fieldLink RX0 11 "HeapRow$Memory" "words" "[J", Cond.methodLink RX0 19 yX0_has, Cond.methodLink RX0 30 yX0_wordOf, Cond.static yX0_wordOf, Cond.code yX0_wordOf cX0_wordOf 2 (some .int)]
def wsX1_get_r2 : List Cond := [Cond.methodLink RX0 34 yX0_shiftOf, Cond.static yX0_shiftOf, Cond.code yX0_shiftOf cX0_shiftOf 2 (some .int)]
def wsX1_get : List Cond := .code yX1_get cX1_get 4 (some .int) :: ((wsX1_get_r1 ++ wsX1_get_r2) ++ wsX10 ++ wsX00 ++ (vx_atS RX0 27 "java/lang/IndexOutOfBoundsException" ["java/lang/RuntimeException", "java/lang/Exception"]).filter goodWord)
def wsX1_end : List Cond := .code yX1_end cX1_end 1 (some .int) :: ([.fieldLink RX1 18 "HeapRow" "end" "J"] ++ wsX10)
def wsX2_init : List Cond := .code yX2_init cX2_init 1 none :: ([.methodLink RX2 1 objectInit, .instanceMethod objectInit, .code objectInit ⟨#[0xb1]⟩ 1 none, .constant RX2 9 (65536), .arrayClass .byte, .fieldLink RX2 10 "HeapRowModel" "memory" "[B", .fieldLink RX2 14 "HeapRowModel" "end" "I", .fieldLink RX2 18 "HeapRowModel" "stack" "I"] ++ wsX20)
def wsX2_thrown : List Cond := .code yX2_thrown cX2_thrown 1 (some .int) :: ([.fieldLink RX2 21 "HeapRowModel" "thrown" "I"] ++ wsX20)
def wsX2_there : List Cond := .code yX2_there cX2_there 2 (some .boolean) :: ([.constantLong RX2 24 (1024), .constantLong RX2 26 (65536)])
def wsX2_read : List Cond := .code yX2_read cX2_read 3 (some .int) :: ([.classLink RX2 32 "java/lang/IndexOutOfBoundsException", .initialized "java/lang/IndexOutOfBoundsException", .fieldLink RX2 10 "HeapRowModel" "memory" "[B", .methodLink RX2 28 yX2_there, .static yX2_there, .initialized RX2, .code yX2_there cX2_there 2 (some .boolean), .constantLong RX2 24 (1024), .constantLong RX2 26 (65536)] ++ wsX20 ++ (vx_at0 RX2 34 "java/lang/IndexOutOfBoundsException" ["java/lang/RuntimeException", "java/lang/Exception"]).filter goodWord)
def wsX2_write : List Cond := .code yX2_write cX2_write 4 none :: ([.classLink RX2 32 "java/lang/IndexOutOfBoundsException", .initialized "java/lang/IndexOutOfBoundsException", .fieldLink RX2 10 "HeapRowModel" "memory" "[B", .methodLink RX2 28 yX2_there, .static yX2_there, .initialized RX2, .code yX2_there cX2_there 2 (some .boolean), .constantLong RX2 24 (1024), .constantLong RX2 26 (65536)] ++ wsX20 ++ (vx_at0 RX2 34 "java/lang/IndexOutOfBoundsException" ["java/lang/RuntimeException", "java/lang/Exception"]).filter goodWord)
def wsX2_number : List Cond := .code yX2_number cX2_number 5 (some .int) :: ([.methodLink RX2 35 yX2_read, .instanceMethod yX2_read, .selects RX2 yX2_read yX2_read, .initialized RX2, .code yX2_read cX2_read 3 (some .int), .classLink RX2 32 "java/lang/IndexOutOfBoundsException", .initialized "java/lang/IndexOutOfBoundsException", .fieldLink RX2 10 "HeapRowModel" "memory" "[B", .methodLink RX2 28 yX2_there, .static yX2_there, .code yX2_there cX2_there 2 (some .boolean), .constantLong RX2 24 (1024), .constantLong RX2 26 (65536)] ++ wsX20 ++ (vx_at0 RX2 34 "java/lang/IndexOutOfBoundsException" ["java/lang/RuntimeException", "java/lang/Exception"]).filter goodWord)
def wsX2_set : List Cond := .code yX2_set cX2_set 5 none :: ([.classLink RX2 32 "java/lang/IndexOutOfBoundsException", .initialized "java/lang/IndexOutOfBoundsException", .constantLong RX2 39 (3), .methodLink RX2 28 yX2_there, .static yX2_there, .initialized RX2, .code yX2_there cX2_there 2 (some .boolean), .constantLong RX2 24 (1024), .constantLong RX2 26 (65536), .methodLink RX2 41 yX2_write, .instanceMethod yX2_write, .selects RX2 yX2_write yX2_write, .code yX2_write cX2_write 4 none, .fieldLink RX2 10 "HeapRowModel" "memory" "[B"] ++ wsX20 ++ (vx_at0 RX2 34 "java/lang/IndexOutOfBoundsException" ["java/lang/RuntimeException", "java/lang/Exception"]).filter goodWord)
def wsX2_without : List Cond := .code yX2_without cX2_without 1 (some .long) :: ([.constantLong RX2 45 (4294967295)])
def wsX2_sizeAt : List Cond := .code yX2_sizeAt cX2_sizeAt 3 (some .long) :: ([.methodLink RX2 47 yX2_number, .instanceMethod yX2_number, .selects RX2 yX2_number yX2_number, .initialized RX2, .code yX2_number cX2_number 5 (some .int), .methodLink RX2 35 yX2_read, .instanceMethod yX2_read, .selects RX2 yX2_read yX2_read, .code yX2_read cX2_read 3 (some .int), .classLink RX2 32 "java/lang/IndexOutOfBoundsException", .initialized "java/lang/IndexOutOfBoundsException", .fieldLink RX2 10 "HeapRowModel" "memory" "[B", .methodLink RX2 28 yX2_there, .static yX2_there, .code yX2_there cX2_there 2 (some .boolean), .constantLong RX2 24 (1024), .constantLong RX2 26 (65536), .methodLink RX2 50 yX2_without, .static yX2_without, .code yX2_without cX2_without 1 (some .long), .constantLong RX2 45 (4294967295)] ++ wsX20 ++ (vx_at0 RX2 34 "java/lang/IndexOutOfBoundsException" ["java/lang/RuntimeException", "java/lang/Exception"]).filter goodWord)
def wsX2_takenAt : List Cond := .code yX2_takenAt cX2_takenAt 3 (some .boolean) :: ([.constantLong RX2 54 (4), .methodLink RX2 47 yX2_number, .instanceMethod yX2_number, .selects RX2 yX2_number yX2_number, .initialized RX2, .code yX2_number cX2_number 5 (some .int), .methodLink RX2 35 yX2_read, .instanceMethod yX2_read, .selects RX2 yX2_read yX2_read, .code yX2_read cX2_read 3 (some .int), .classLink RX2 32 "java/lang/IndexOutOfBoundsException", .initialized "java/lang/IndexOutOfBoundsException", .fieldLink RX2 10 "HeapRowModel" "memory" "[B", .methodLink RX2 28 yX2_there, .static yX2_there, .code yX2_there cX2_there 2 (some .boolean), .constantLong RX2 24 (1024), .constantLong RX2 26 (65536)] ++ wsX20 ++ (vx_at0 RX2 34 "java/lang/IndexOutOfBoundsException" ["java/lang/RuntimeException", "java/lang/Exception"]).filter goodWord)
def wsX2_found_r1 : List Cond := [Cond.classLink RX2 32 "java/lang/IndexOutOfBoundsException", Cond.initialized "java/lang/IndexOutOfBoundsException", Cond.constantLong RX2 56 (-1), Cond.fieldLink RX2 58 "HeapRowModel" "before" "J", Cond.constantLong RX2 24 (1024), Cond.fieldLink RX2 14 "HeapRowModel" "end" "I", Cond.constantLong RX2 69 (8), Cond.methodLink RX2 62 yX2_sizeAt, Cond.instanceMethod yX2_sizeAt, Cond.selects RX2 yX2_sizeAt yX2_sizeAt, Cond.initialized RX2, Cond.code yX2_sizeAt cX2_sizeAt 3 (some .long), Cond.methodLink RX2 47 yX2_number, Cond.instanceMethod yX2_number, Cond.selects RX2 yX2_number yX2_number, Cond.code yX2_number cX2_number 5 (some .int), Cond.methodLink RX2 35 yX2_read, Cond.instanceMethod yX2_read, Cond.selects RX2 yX2_read yX2_read, Cond.code yX2_read cX2_read 3 (some .int), Cond.fieldLink RX2 10 "HeapRowModel" "memory" "[B", Cond.methodLink RX2 28 yX2_there, Cond.static yX2_there, Cond.code yX2_there cX2_there 2 (some .boolean)]
def wsX2_found_r2 : List Cond := [Cond.constantLong RX2 26 (65536), Cond.methodLink RX2 50 yX2_without, Cond.static yX2_without, Cond.code yX2_without cX2_without 1 (some .long), Cond.constantLong RX2 45 (4294967295), Cond.methodLink RX2 66 yX2_takenAt, Cond.instanceMethod yX2_takenAt, Cond.selects RX2 yX2_takenAt yX2_takenAt, Cond.code yX2_takenAt cX2_takenAt 3 (some .boolean), Cond.constantLong RX2 54 (4)]
def wsX2_found : List Cond := .code yX2_found cX2_found 7 (some .long) :: ((wsX2_found_r1 ++ wsX2_found_r2) ++ wsX20 ++ (vx_at0 RX2 34 "java/lang/IndexOutOfBoundsException" ["java/lang/RuntimeException", "java/lang/Exception"]).filter goodWord)
def wsX2_up : List Cond := .code yX2_up cX2_up 2 (some .long) :: ([.constantLong RX2 69 (8), .constantLong RX2 71 (7)])
def wsX2_take_r1 : List Cond := [Cond.constantLong RX2 24 (1024), Cond.fieldLink RX2 14 "HeapRowModel" "end" "I", Cond.constantLong RX2 76 (16), Cond.constantLong RX2 69 (8), Cond.constantLong RX2 81 (12), Cond.constantLong RX2 54 (4), Cond.constantLong RX2 83 (480000), Cond.fieldLink RX2 18 "HeapRowModel" "stack" "I", Cond.methodLink RX2 73 yX2_up, Cond.static yX2_up, Cond.initialized RX2, Cond.code yX2_up cX2_up 2 (some .long), Cond.constantLong RX2 71 (7), Cond.methodLink RX2 62 yX2_sizeAt, Cond.instanceMethod yX2_sizeAt, Cond.selects RX2 yX2_sizeAt yX2_sizeAt, Cond.code yX2_sizeAt cX2_sizeAt 3 (some .long), Cond.methodLink RX2 47 yX2_number, Cond.instanceMethod yX2_number, Cond.selects RX2 yX2_number yX2_number, Cond.code yX2_number cX2_number 5 (some .int), Cond.methodLink RX2 35 yX2_read, Cond.instanceMethod yX2_read, Cond.selects RX2 yX2_read yX2_read]
def wsX2_take_r2 : List Cond := [Cond.code yX2_read cX2_read 3 (some .int), Cond.classLink RX2 32 "java/lang/IndexOutOfBoundsException", Cond.initialized "java/lang/IndexOutOfBoundsException", Cond.fieldLink RX2 10 "HeapRowModel" "memory" "[B", Cond.methodLink RX2 28 yX2_there, Cond.static yX2_there, Cond.code yX2_there cX2_there 2 (some .boolean), Cond.constantLong RX2 26 (65536), Cond.methodLink RX2 50 yX2_without, Cond.static yX2_without, Cond.code yX2_without cX2_without 1 (some .long), Cond.constantLong RX2 45 (4294967295), Cond.methodLink RX2 66 yX2_takenAt, Cond.instanceMethod yX2_takenAt, Cond.selects RX2 yX2_takenAt yX2_takenAt, Cond.code yX2_takenAt cX2_takenAt 3 (some .boolean), Cond.methodLink RX2 78 yX2_set, Cond.instanceMethod yX2_set, Cond.selects RX2 yX2_set yX2_set, Cond.code yX2_set cX2_set 5 none, Cond.constantLong RX2 39 (3), Cond.methodLink RX2 41 yX2_write, Cond.instanceMethod yX2_write, Cond.selects RX2 yX2_write yX2_write]
def wsX2_take_r3 : List Cond := [Cond.code yX2_write cX2_write 4 none]
def wsX2_take : List Cond := .code yX2_take cX2_take 10 (some .int) :: ((wsX2_take_r1 ++ (wsX2_take_r2 ++ wsX2_take_r3)) ++ wsX20 ++ (vx_at0 RX2 34 "java/lang/IndexOutOfBoundsException" ["java/lang/RuntimeException", "java/lang/Exception"]).filter goodWord)
def wsX2_give_r1 : List Cond := [Cond.fieldLink RX2 58 "HeapRowModel" "before" "J", Cond.constantLong RX2 54 (4), Cond.constantLong RX2 69 (8), Cond.fieldLink RX2 14 "HeapRowModel" "end" "I", Cond.methodLink RX2 85 yX2_found, Cond.instanceMethod yX2_found, Cond.selects RX2 yX2_found yX2_found, Cond.initialized RX2, Cond.code yX2_found cX2_found 7 (some .long), Cond.classLink RX2 32 "java/lang/IndexOutOfBoundsException", Cond.initialized "java/lang/IndexOutOfBoundsException", Cond.constantLong RX2 56 (-1), Cond.constantLong RX2 24 (1024), Cond.methodLink RX2 62 yX2_sizeAt, Cond.instanceMethod yX2_sizeAt, Cond.selects RX2 yX2_sizeAt yX2_sizeAt, Cond.code yX2_sizeAt cX2_sizeAt 3 (some .long), Cond.methodLink RX2 47 yX2_number, Cond.instanceMethod yX2_number, Cond.selects RX2 yX2_number yX2_number, Cond.code yX2_number cX2_number 5 (some .int), Cond.methodLink RX2 35 yX2_read, Cond.instanceMethod yX2_read, Cond.selects RX2 yX2_read yX2_read]
def wsX2_give_r2 : List Cond := [Cond.code yX2_read cX2_read 3 (some .int), Cond.fieldLink RX2 10 "HeapRowModel" "memory" "[B", Cond.methodLink RX2 28 yX2_there, Cond.static yX2_there, Cond.code yX2_there cX2_there 2 (some .boolean), Cond.constantLong RX2 26 (65536), Cond.methodLink RX2 50 yX2_without, Cond.static yX2_without, Cond.code yX2_without cX2_without 1 (some .long), Cond.constantLong RX2 45 (4294967295), Cond.methodLink RX2 66 yX2_takenAt, Cond.instanceMethod yX2_takenAt, Cond.selects RX2 yX2_takenAt yX2_takenAt, Cond.code yX2_takenAt cX2_takenAt 3 (some .boolean), Cond.methodLink RX2 78 yX2_set, Cond.instanceMethod yX2_set, Cond.selects RX2 yX2_set yX2_set, Cond.code yX2_set cX2_set 5 none, Cond.constantLong RX2 39 (3), Cond.methodLink RX2 41 yX2_write, Cond.instanceMethod yX2_write, Cond.selects RX2 yX2_write yX2_write, Cond.code yX2_write cX2_write 4 none]
def wsX2_give : List Cond := .code yX2_give cX2_give 10 (some .boolean) :: ((wsX2_give_r1 ++ wsX2_give_r2) ++ wsX20 ++ (vx_at0 RX2 34 "java/lang/IndexOutOfBoundsException" ["java/lang/RuntimeException", "java/lang/Exception"]).filter goodWord)
def wsX2_allocate_r1 : List Cond := [Cond.classLink RX2 32 "java/lang/IndexOutOfBoundsException", Cond.fieldLink RX2 21 "HeapRowModel" "thrown" "I", Cond.methodLink RX2 50 yX2_without, Cond.static yX2_without, Cond.initialized RX2, Cond.code yX2_without cX2_without 1 (some .long), Cond.constantLong RX2 45 (4294967295), Cond.methodLink RX2 88 yX2_take, Cond.instanceMethod yX2_take, Cond.selects RX2 yX2_take yX2_take, Cond.code yX2_take cX2_take 10 (some .int), Cond.constantLong RX2 24 (1024), Cond.fieldLink RX2 14 "HeapRowModel" "end" "I", Cond.constantLong RX2 76 (16), Cond.constantLong RX2 69 (8), Cond.constantLong RX2 81 (12), Cond.constantLong RX2 54 (4), Cond.constantLong RX2 83 (480000), Cond.fieldLink RX2 18 "HeapRowModel" "stack" "I", Cond.methodLink RX2 73 yX2_up, Cond.static yX2_up, Cond.code yX2_up cX2_up 2 (some .long), Cond.constantLong RX2 71 (7), Cond.methodLink RX2 62 yX2_sizeAt]
def wsX2_allocate_r2 : List Cond := [Cond.instanceMethod yX2_sizeAt, Cond.selects RX2 yX2_sizeAt yX2_sizeAt, Cond.code yX2_sizeAt cX2_sizeAt 3 (some .long), Cond.methodLink RX2 47 yX2_number, Cond.instanceMethod yX2_number, Cond.selects RX2 yX2_number yX2_number, Cond.code yX2_number cX2_number 5 (some .int), Cond.methodLink RX2 35 yX2_read, Cond.instanceMethod yX2_read, Cond.selects RX2 yX2_read yX2_read, Cond.code yX2_read cX2_read 3 (some .int), Cond.initialized "java/lang/IndexOutOfBoundsException", Cond.fieldLink RX2 10 "HeapRowModel" "memory" "[B", Cond.methodLink RX2 28 yX2_there, Cond.static yX2_there, Cond.code yX2_there cX2_there 2 (some .boolean), Cond.constantLong RX2 26 (65536), Cond.methodLink RX2 66 yX2_takenAt, Cond.instanceMethod yX2_takenAt, Cond.selects RX2 yX2_takenAt yX2_takenAt, Cond.code yX2_takenAt cX2_takenAt 3 (some .boolean), Cond.methodLink RX2 78 yX2_set, Cond.instanceMethod yX2_set, Cond.selects RX2 yX2_set yX2_set]
def wsX2_allocate_r3 : List Cond := [Cond.code yX2_set cX2_set 5 none, Cond.constantLong RX2 39 (3), Cond.methodLink RX2 41 yX2_write, Cond.instanceMethod yX2_write, Cond.selects RX2 yX2_write yX2_write, Cond.code yX2_write cX2_write 4 none]
def wsX2_allocate : List Cond := .codeWith yX2_allocate cX2_allocate 3 (some .int) [(5, 13, 14, 32)] :: ((wsX2_allocate_r1 ++ (wsX2_allocate_r2 ++ wsX2_allocate_r3)) ++ wsX20 ++ (vx_at0 RX2 34 "java/lang/IndexOutOfBoundsException" ["java/lang/RuntimeException", "java/lang/Exception"]).filter goodWord)
def wsX2_cleared_r1 : List Cond := [Cond.classLink RX2 32 "java/lang/IndexOutOfBoundsException", Cond.fieldLink RX2 21 "HeapRowModel" "thrown" "I", Cond.constantLong RX2 83 (480000), Cond.methodLink RX2 50 yX2_without, Cond.static yX2_without, Cond.initialized RX2, Cond.code yX2_without cX2_without 1 (some .long), Cond.constantLong RX2 45 (4294967295), Cond.methodLink RX2 88 yX2_take, Cond.instanceMethod yX2_take, Cond.selects RX2 yX2_take yX2_take, Cond.code yX2_take cX2_take 10 (some .int), Cond.constantLong RX2 24 (1024), Cond.fieldLink RX2 14 "HeapRowModel" "end" "I", Cond.constantLong RX2 76 (16), Cond.constantLong RX2 69 (8), Cond.constantLong RX2 81 (12), Cond.constantLong RX2 54 (4), Cond.fieldLink RX2 18 "HeapRowModel" "stack" "I", Cond.methodLink RX2 73 yX2_up, Cond.static yX2_up, Cond.code yX2_up cX2_up 2 (some .long), Cond.constantLong RX2 71 (7), Cond.methodLink RX2 62 yX2_sizeAt]
def wsX2_cleared_r2 : List Cond := [Cond.instanceMethod yX2_sizeAt, Cond.selects RX2 yX2_sizeAt yX2_sizeAt, Cond.code yX2_sizeAt cX2_sizeAt 3 (some .long), Cond.methodLink RX2 47 yX2_number, Cond.instanceMethod yX2_number, Cond.selects RX2 yX2_number yX2_number, Cond.code yX2_number cX2_number 5 (some .int), Cond.methodLink RX2 35 yX2_read, Cond.instanceMethod yX2_read, Cond.selects RX2 yX2_read yX2_read, Cond.code yX2_read cX2_read 3 (some .int), Cond.initialized "java/lang/IndexOutOfBoundsException", Cond.fieldLink RX2 10 "HeapRowModel" "memory" "[B", Cond.methodLink RX2 28 yX2_there, Cond.static yX2_there, Cond.code yX2_there cX2_there 2 (some .boolean), Cond.constantLong RX2 26 (65536), Cond.methodLink RX2 66 yX2_takenAt, Cond.instanceMethod yX2_takenAt, Cond.selects RX2 yX2_takenAt yX2_takenAt, Cond.code yX2_takenAt cX2_takenAt 3 (some .boolean), Cond.methodLink RX2 78 yX2_set, Cond.instanceMethod yX2_set, Cond.selects RX2 yX2_set yX2_set]
def wsX2_cleared_r3 : List Cond := [Cond.code yX2_set cX2_set 5 none, Cond.constantLong RX2 39 (3), Cond.methodLink RX2 41 yX2_write, Cond.instanceMethod yX2_write, Cond.selects RX2 yX2_write yX2_write, Cond.code yX2_write cX2_write 4 none]
def wsX2_cleared : List Cond := .codeWith yX2_cleared cX2_cleared 10 (some .int) [(35, 87, 88, 32)] :: ((wsX2_cleared_r1 ++ (wsX2_cleared_r2 ++ wsX2_cleared_r3)) ++ wsX20 ++ (vx_at0 RX2 34 "java/lang/IndexOutOfBoundsException" ["java/lang/RuntimeException", "java/lang/Exception"]).filter goodWord)
def wsX2_resized_r1 : List Cond := [Cond.methodLink RX2 50 yX2_without, Cond.static yX2_without, Cond.initialized RX2, Cond.code yX2_without cX2_without 1 (some .long), Cond.constantLong RX2 45 (4294967295), Cond.methodLink RX2 88 yX2_take, Cond.instanceMethod yX2_take, Cond.selects RX2 yX2_take yX2_take, Cond.code yX2_take cX2_take 10 (some .int), Cond.constantLong RX2 24 (1024), Cond.fieldLink RX2 14 "HeapRowModel" "end" "I", Cond.constantLong RX2 76 (16), Cond.constantLong RX2 69 (8), Cond.constantLong RX2 81 (12), Cond.constantLong RX2 54 (4), Cond.constantLong RX2 83 (480000), Cond.fieldLink RX2 18 "HeapRowModel" "stack" "I", Cond.methodLink RX2 73 yX2_up, Cond.static yX2_up, Cond.code yX2_up cX2_up 2 (some .long), Cond.constantLong RX2 71 (7), Cond.methodLink RX2 62 yX2_sizeAt, Cond.instanceMethod yX2_sizeAt, Cond.selects RX2 yX2_sizeAt yX2_sizeAt]
def wsX2_resized_r2 : List Cond := [Cond.code yX2_sizeAt cX2_sizeAt 3 (some .long), Cond.methodLink RX2 47 yX2_number, Cond.instanceMethod yX2_number, Cond.selects RX2 yX2_number yX2_number, Cond.code yX2_number cX2_number 5 (some .int), Cond.methodLink RX2 35 yX2_read, Cond.instanceMethod yX2_read, Cond.selects RX2 yX2_read yX2_read, Cond.code yX2_read cX2_read 3 (some .int), Cond.classLink RX2 32 "java/lang/IndexOutOfBoundsException", Cond.initialized "java/lang/IndexOutOfBoundsException", Cond.fieldLink RX2 10 "HeapRowModel" "memory" "[B", Cond.methodLink RX2 28 yX2_there, Cond.static yX2_there, Cond.code yX2_there cX2_there 2 (some .boolean), Cond.constantLong RX2 26 (65536), Cond.methodLink RX2 66 yX2_takenAt, Cond.instanceMethod yX2_takenAt, Cond.selects RX2 yX2_takenAt yX2_takenAt, Cond.code yX2_takenAt cX2_takenAt 3 (some .boolean), Cond.methodLink RX2 78 yX2_set, Cond.instanceMethod yX2_set, Cond.selects RX2 yX2_set yX2_set, Cond.code yX2_set cX2_set 5 none]
def wsX2_resized_r3 : List Cond := [Cond.constantLong RX2 39 (3), Cond.methodLink RX2 41 yX2_write, Cond.instanceMethod yX2_write, Cond.selects RX2 yX2_write yX2_write, Cond.code yX2_write cX2_write 4 none, Cond.methodLink RX2 95 yX2_give, Cond.instanceMethod yX2_give, Cond.selects RX2 yX2_give yX2_give, Cond.code yX2_give cX2_give 10 (some .boolean), Cond.fieldLink RX2 58 "HeapRowModel" "before" "J", Cond.methodLink RX2 85 yX2_found, Cond.instanceMethod yX2_found, Cond.selects RX2 yX2_found yX2_found, Cond.code yX2_found cX2_found 7 (some .long), Cond.constantLong RX2 56 (-1)]
def wsX2_resized : List Cond := .code yX2_resized cX2_resized 8 (some .int) :: ((wsX2_resized_r1 ++ (wsX2_resized_r2 ++ wsX2_resized_r3)) ++ wsX20 ++ (vx_at0 RX2 34 "java/lang/IndexOutOfBoundsException" ["java/lang/RuntimeException", "java/lang/Exception"]).filter goodWord)
def wsX2_resize_r1 : List Cond := [Cond.classLink RX2 32 "java/lang/IndexOutOfBoundsException", Cond.fieldLink RX2 21 "HeapRowModel" "thrown" "I", Cond.methodLink RX2 91 yX2_resized, Cond.instanceMethod yX2_resized, Cond.selects RX2 yX2_resized yX2_resized, Cond.initialized RX2, Cond.code yX2_resized cX2_resized 8 (some .int), Cond.methodLink RX2 50 yX2_without, Cond.static yX2_without, Cond.code yX2_without cX2_without 1 (some .long), Cond.constantLong RX2 45 (4294967295), Cond.methodLink RX2 88 yX2_take, Cond.instanceMethod yX2_take, Cond.selects RX2 yX2_take yX2_take, Cond.code yX2_take cX2_take 10 (some .int), Cond.constantLong RX2 24 (1024), Cond.fieldLink RX2 14 "HeapRowModel" "end" "I", Cond.constantLong RX2 76 (16), Cond.constantLong RX2 69 (8), Cond.constantLong RX2 81 (12), Cond.constantLong RX2 54 (4), Cond.constantLong RX2 83 (480000), Cond.fieldLink RX2 18 "HeapRowModel" "stack" "I", Cond.methodLink RX2 73 yX2_up]
def wsX2_resize_r2 : List Cond := [Cond.static yX2_up, Cond.code yX2_up cX2_up 2 (some .long), Cond.constantLong RX2 71 (7), Cond.methodLink RX2 62 yX2_sizeAt, Cond.instanceMethod yX2_sizeAt, Cond.selects RX2 yX2_sizeAt yX2_sizeAt, Cond.code yX2_sizeAt cX2_sizeAt 3 (some .long), Cond.methodLink RX2 47 yX2_number, Cond.instanceMethod yX2_number, Cond.selects RX2 yX2_number yX2_number, Cond.code yX2_number cX2_number 5 (some .int), Cond.methodLink RX2 35 yX2_read, Cond.instanceMethod yX2_read, Cond.selects RX2 yX2_read yX2_read, Cond.code yX2_read cX2_read 3 (some .int), Cond.initialized "java/lang/IndexOutOfBoundsException", Cond.fieldLink RX2 10 "HeapRowModel" "memory" "[B", Cond.methodLink RX2 28 yX2_there, Cond.static yX2_there, Cond.code yX2_there cX2_there 2 (some .boolean), Cond.constantLong RX2 26 (65536), Cond.methodLink RX2 66 yX2_takenAt, Cond.instanceMethod yX2_takenAt, Cond.selects RX2 yX2_takenAt yX2_takenAt]
def wsX2_resize_r3 : List Cond := [Cond.code yX2_takenAt cX2_takenAt 3 (some .boolean), Cond.methodLink RX2 78 yX2_set, Cond.instanceMethod yX2_set, Cond.selects RX2 yX2_set yX2_set, Cond.code yX2_set cX2_set 5 none, Cond.constantLong RX2 39 (3), Cond.methodLink RX2 41 yX2_write, Cond.instanceMethod yX2_write, Cond.selects RX2 yX2_write yX2_write, Cond.code yX2_write cX2_write 4 none, Cond.methodLink RX2 95 yX2_give, Cond.instanceMethod yX2_give, Cond.selects RX2 yX2_give yX2_give, Cond.code yX2_give cX2_give 10 (some .boolean), Cond.fieldLink RX2 58 "HeapRowModel" "before" "J", Cond.methodLink RX2 85 yX2_found, Cond.instanceMethod yX2_found, Cond.selects RX2 yX2_found yX2_found, Cond.code yX2_found cX2_found 7 (some .long), Cond.constantLong RX2 56 (-1)]
def wsX2_resize : List Cond := .codeWith yX2_resize cX2_resize 4 (some .int) [(5, 11, 12, 32)] :: ((wsX2_resize_r1 ++ (wsX2_resize_r2 ++ wsX2_resize_r3)) ++ wsX20 ++ (vx_at0 RX2 34 "java/lang/IndexOutOfBoundsException" ["java/lang/RuntimeException", "java/lang/Exception"]).filter goodWord)
def wsX2_free_r1 : List Cond := [Cond.classLink RX2 32 "java/lang/IndexOutOfBoundsException", Cond.fieldLink RX2 21 "HeapRowModel" "thrown" "I", Cond.methodLink RX2 95 yX2_give, Cond.instanceMethod yX2_give, Cond.selects RX2 yX2_give yX2_give, Cond.initialized RX2, Cond.code yX2_give cX2_give 10 (some .boolean), Cond.fieldLink RX2 58 "HeapRowModel" "before" "J", Cond.constantLong RX2 54 (4), Cond.constantLong RX2 69 (8), Cond.fieldLink RX2 14 "HeapRowModel" "end" "I", Cond.methodLink RX2 85 yX2_found, Cond.instanceMethod yX2_found, Cond.selects RX2 yX2_found yX2_found, Cond.code yX2_found cX2_found 7 (some .long), Cond.initialized "java/lang/IndexOutOfBoundsException", Cond.constantLong RX2 56 (-1), Cond.constantLong RX2 24 (1024), Cond.methodLink RX2 62 yX2_sizeAt, Cond.instanceMethod yX2_sizeAt, Cond.selects RX2 yX2_sizeAt yX2_sizeAt, Cond.code yX2_sizeAt cX2_sizeAt 3 (some .long), Cond.methodLink RX2 47 yX2_number, Cond.instanceMethod yX2_number]
def wsX2_free_r2 : List Cond := [Cond.selects RX2 yX2_number yX2_number, Cond.code yX2_number cX2_number 5 (some .int), Cond.methodLink RX2 35 yX2_read, Cond.instanceMethod yX2_read, Cond.selects RX2 yX2_read yX2_read, Cond.code yX2_read cX2_read 3 (some .int), Cond.fieldLink RX2 10 "HeapRowModel" "memory" "[B", Cond.methodLink RX2 28 yX2_there, Cond.static yX2_there, Cond.code yX2_there cX2_there 2 (some .boolean), Cond.constantLong RX2 26 (65536), Cond.methodLink RX2 50 yX2_without, Cond.static yX2_without, Cond.code yX2_without cX2_without 1 (some .long), Cond.constantLong RX2 45 (4294967295), Cond.methodLink RX2 66 yX2_takenAt, Cond.instanceMethod yX2_takenAt, Cond.selects RX2 yX2_takenAt yX2_takenAt, Cond.code yX2_takenAt cX2_takenAt 3 (some .boolean), Cond.methodLink RX2 78 yX2_set, Cond.instanceMethod yX2_set, Cond.selects RX2 yX2_set yX2_set, Cond.code yX2_set cX2_set 5 none, Cond.constantLong RX2 39 (3)]
def wsX2_free_r3 : List Cond := [Cond.methodLink RX2 41 yX2_write, Cond.instanceMethod yX2_write, Cond.selects RX2 yX2_write yX2_write, Cond.code yX2_write cX2_write 4 none]
def wsX2_free : List Cond := .codeWith yX2_free cX2_free 3 (some .boolean) [(5, 10, 11, 32)] :: ((wsX2_free_r1 ++ (wsX2_free_r2 ++ wsX2_free_r3)) ++ wsX20 ++ (vx_at0 RX2 34 "java/lang/IndexOutOfBoundsException" ["java/lang/RuntimeException", "java/lang/Exception"]).filter goodWord)
def wsX2_stack : List Cond := .code yX2_stack cX2_stack 2 (some .boolean) :: ([.fieldLink RX2 21 "HeapRowModel" "thrown" "I", .constant RX2 9 (65536), .fieldLink RX2 14 "HeapRowModel" "end" "I", .fieldLink RX2 18 "HeapRowModel" "stack" "I"] ++ wsX20)
def wsX2_put : List Cond := .code yX2_put cX2_put 4 (some .int) :: ([.fieldLink RX2 21 "HeapRowModel" "thrown" "I", .fieldLink RX2 10 "HeapRowModel" "memory" "[B", .methodLink RX2 50 yX2_without, .static yX2_without, .initialized RX2, .code yX2_without cX2_without 1 (some .long), .constantLong RX2 45 (4294967295), .methodLink RX2 28 yX2_there, .static yX2_there, .code yX2_there cX2_there 2 (some .boolean), .constantLong RX2 24 (1024), .constantLong RX2 26 (65536)] ++ wsX20)
def wsX2_get : List Cond := .code yX2_get cX2_get 2 (some .int) :: ([.fieldLink RX2 21 "HeapRowModel" "thrown" "I", .fieldLink RX2 10 "HeapRowModel" "memory" "[B", .methodLink RX2 50 yX2_without, .static yX2_without, .initialized RX2, .code yX2_without cX2_without 1 (some .long), .constantLong RX2 45 (4294967295), .methodLink RX2 28 yX2_there, .static yX2_there, .code yX2_there cX2_there 2 (some .boolean), .constantLong RX2 24 (1024), .constantLong RX2 26 (65536)] ++ wsX20)
def wsX2_end : List Cond := .code yX2_end cX2_end 1 (some .int) :: ([.fieldLink RX2 21 "HeapRowModel" "thrown" "I", .fieldLink RX2 14 "HeapRowModel" "end" "I"] ++ wsX20)
def wsJ9_max_f86c9 : List Cond := .code yJ9_max_f86c9 cJ9_max_f86c9 4 (some .long) :: ([])
def wsL_allocate_r1 : List Cond := [Cond.classLink RL 13 "java/lang/IndexOutOfBoundsException", Cond.methodLink RL 7 yX1_allocate, Cond.instanceMethod yX1_allocate, Cond.selects RX1 yX1_allocate yX1_allocate, Cond.initialized RX1, Cond.code yX1_allocate cX1_allocate 2 (some .int), Cond.methodLink RX1 27 yX1_unsigned, Cond.static yX1_unsigned, Cond.code yX1_unsigned cX1_unsigned 1 (some .long), Cond.constantLong RX1 70 (4294967295), Cond.methodLink RX1 31 yX1_take, Cond.instanceMethod yX1_take, Cond.selects RX1 yX1_take yX1_take, Cond.code yX1_take cX1_take 7 (some .long), Cond.constantLong RX1 72 (8), Cond.constantLong RX1 35 (480000), Cond.fieldLink RX1 18 "HeapRow" "end" "J", Cond.fieldLink RX1 24 "HeapRow" "stackEnd" "J", Cond.constantLong RX1 90 (4096), Cond.methodLink RX1 51 yX1_rounded, Cond.static yX1_rounded, Cond.code yX1_rounded cX1_rounded 2 (some .long), Cond.constantLong RX1 74 (7), Cond.constantLong RX1 76 (-8)]
def wsL_allocate_r2 : List Cond := [Cond.methodLink RX1 78 Lib.MathLoose.max_long.x, Cond.static Lib.MathLoose.max_long.x, Cond.initialized "java/lang/Math", Cond.code Lib.MathLoose.max_long.x Lib.MathLoose.max_long.code 4 (some .long), Cond.methodLink RX1 84 yX1_firstFree, Cond.instanceMethod yX1_firstFree, Cond.selects RX1 yX1_firstFree yX1_firstFree, Cond.code yX1_firstFree cX1_firstFree 6 (some .long), Cond.constantLong RX1 16 (1024), Cond.methodLink RX1 95 yX1_isTaken, Cond.instanceMethod yX1_isTaken, Cond.selects RX1 yX1_isTaken yX1_isTaken, Cond.code yX1_isTaken cX1_isTaken 3 (some .boolean), Cond.fieldLink RX1 12 "HeapRow" "memory" "LHeapRow$Memory;", Cond.constantLong RX1 123 (4), Cond.methodLink RX1 120 yX0_readNumber, Cond.instanceMethod yX0_readNumber, Cond.selects RX0 yX0_readNumber yX0_readNumber, Cond.initialized RX0, Cond.code yX0_readNumber cX0_readNumber 6 (some .long), Cond.methodLink RX0 41 yX0_checkNumber, Cond.instanceMethod yX0_checkNumber, Cond.selects RX0 yX0_checkNumber yX0_checkNumber, Cond.code yX0_checkNumber cX0_checkNumber 3 none]
def wsL_allocate_r3 : List Cond := [Cond.classLink RX0 23 "java/lang/IndexOutOfBoundsException", Cond.initialized "java/lang/IndexOutOfBoundsException", Cond.constantLong RX0 52 (3), Cond.methodLink RX0 19 yX0_has, Cond.instanceMethod yX0_has, Cond.selects RX0 yX0_has yX0_has, Cond.code yX0_has cX0_has 3 (some .boolean), Cond.constantLong RX0 15 (1024), Cond.constantLong RX0 17 (65536), Cond.methodLink RX0 45 yX0_read, Cond.instanceMethod yX0_read, Cond.selects RX0 yX0_read yX0_read, Cond.code yX0_read cX0_read 3 (some .int), Cond.fieldLink RX0 11 "HeapRow$Memory" "words" "[J", Cond.methodLink RX0 30 yX0_wordOf, Cond.static yX0_wordOf, Cond.code yX0_wordOf cX0_wordOf 2 (some .int), Cond.methodLink RX0 34 yX0_shiftOf, Cond.static yX0_shiftOf, Cond.code yX0_shiftOf cX0_shiftOf 2 (some .int), Cond.methodLink RX1 48 yX1_size, Cond.instanceMethod yX1_size, Cond.selects RX1 yX1_size yX1_size, Cond.code yX1_size cX1_size 3 (some .long)]
def wsL_allocate_r4 : List Cond := [Cond.methodLink RX1 98 yX1_next, Cond.instanceMethod yX1_next, Cond.selects RX1 yX1_next yX1_next, Cond.code yX1_next cX1_next 3 (some .long), Cond.methodLink RX1 87 yX1_takeFree, Cond.instanceMethod yX1_takeFree, Cond.selects RX1 yX1_takeFree yX1_takeFree, Cond.code yX1_takeFree cX1_takeFree 7 none, Cond.constantLong RX1 101 (16), Cond.methodLink RX1 103 yX1_writeHeader, Cond.instanceMethod yX1_writeHeader, Cond.selects RX1 yX1_writeHeader yX1_writeHeader, Cond.code yX1_writeHeader cX1_writeHeader 6 none, Cond.methodLink RX1 125 yX0_writeNumber, Cond.instanceMethod yX0_writeNumber, Cond.selects RX0 yX0_writeNumber yX0_writeNumber, Cond.code yX0_writeNumber cX0_writeNumber 6 none, Cond.methodLink RX0 48 yX0_write, Cond.instanceMethod yX0_write, Cond.selects RX0 yX0_write yX0_write, Cond.code yX0_write cX0_write 7 none, Cond.constantLong RX0 37 (255), Cond.constantLong RX0 39 (-1), Cond.methodLink RX1 92 yX1_takeAtEnd]
def wsL_allocate_r5 : List Cond := [Cond.instanceMethod yX1_takeAtEnd, Cond.selects RX1 yX1_takeAtEnd yX1_takeAtEnd, Cond.code yX1_takeAtEnd cX1_takeAtEnd 5 (some .long)]
def wsL_allocate : List Cond := .codeWith yL_allocate cL_allocate 4 (some .int) [(0, 9, 12, 13)] :: ((wsL_allocate_r1 ++ (wsL_allocate_r2 ++ (wsL_allocate_r3 ++ (wsL_allocate_r4 ++ wsL_allocate_r5)))) ++ wsX10 ++ wsX00 ++ (vx_atS RX0 27 "java/lang/IndexOutOfBoundsException" ["java/lang/RuntimeException", "java/lang/Exception"]).filter goodWord)
def wsL_cleared_r1 : List Cond := [Cond.classLink RL 13 "java/lang/IndexOutOfBoundsException", Cond.methodLink RL 15 yX1_cleared, Cond.instanceMethod yX1_cleared, Cond.selects RX1 yX1_cleared yX1_cleared, Cond.initialized RX1, Cond.code yX1_cleared cX1_cleared 7 (some .int), Cond.constantLong RX1 35 (480000), Cond.methodLink RX1 27 yX1_unsigned, Cond.static yX1_unsigned, Cond.code yX1_unsigned cX1_unsigned 1 (some .long), Cond.constantLong RX1 70 (4294967295), Cond.methodLink RX1 31 yX1_take, Cond.instanceMethod yX1_take, Cond.selects RX1 yX1_take yX1_take, Cond.code yX1_take cX1_take 7 (some .long), Cond.constantLong RX1 72 (8), Cond.fieldLink RX1 18 "HeapRow" "end" "J", Cond.fieldLink RX1 24 "HeapRow" "stackEnd" "J", Cond.constantLong RX1 90 (4096), Cond.methodLink RX1 51 yX1_rounded, Cond.static yX1_rounded, Cond.code yX1_rounded cX1_rounded 2 (some .long), Cond.constantLong RX1 74 (7), Cond.constantLong RX1 76 (-8)]
def wsL_cleared_r2 : List Cond := [Cond.methodLink RX1 78 Lib.MathLoose.max_long.x, Cond.static Lib.MathLoose.max_long.x, Cond.initialized "java/lang/Math", Cond.code Lib.MathLoose.max_long.x Lib.MathLoose.max_long.code 4 (some .long), Cond.methodLink RX1 84 yX1_firstFree, Cond.instanceMethod yX1_firstFree, Cond.selects RX1 yX1_firstFree yX1_firstFree, Cond.code yX1_firstFree cX1_firstFree 6 (some .long), Cond.constantLong RX1 16 (1024), Cond.methodLink RX1 95 yX1_isTaken, Cond.instanceMethod yX1_isTaken, Cond.selects RX1 yX1_isTaken yX1_isTaken, Cond.code yX1_isTaken cX1_isTaken 3 (some .boolean), Cond.fieldLink RX1 12 "HeapRow" "memory" "LHeapRow$Memory;", Cond.constantLong RX1 123 (4), Cond.methodLink RX1 120 yX0_readNumber, Cond.instanceMethod yX0_readNumber, Cond.selects RX0 yX0_readNumber yX0_readNumber, Cond.initialized RX0, Cond.code yX0_readNumber cX0_readNumber 6 (some .long), Cond.methodLink RX0 41 yX0_checkNumber, Cond.instanceMethod yX0_checkNumber, Cond.selects RX0 yX0_checkNumber yX0_checkNumber, Cond.code yX0_checkNumber cX0_checkNumber 3 none]
def wsL_cleared_r3 : List Cond := [Cond.classLink RX0 23 "java/lang/IndexOutOfBoundsException", Cond.initialized "java/lang/IndexOutOfBoundsException", Cond.constantLong RX0 52 (3), Cond.methodLink RX0 19 yX0_has, Cond.instanceMethod yX0_has, Cond.selects RX0 yX0_has yX0_has, Cond.code yX0_has cX0_has 3 (some .boolean), Cond.constantLong RX0 15 (1024), Cond.constantLong RX0 17 (65536), Cond.methodLink RX0 45 yX0_read, Cond.instanceMethod yX0_read, Cond.selects RX0 yX0_read yX0_read, Cond.code yX0_read cX0_read 3 (some .int), Cond.fieldLink RX0 11 "HeapRow$Memory" "words" "[J", Cond.methodLink RX0 30 yX0_wordOf, Cond.static yX0_wordOf, Cond.code yX0_wordOf cX0_wordOf 2 (some .int), Cond.methodLink RX0 34 yX0_shiftOf, Cond.static yX0_shiftOf, Cond.code yX0_shiftOf cX0_shiftOf 2 (some .int), Cond.methodLink RX1 48 yX1_size, Cond.instanceMethod yX1_size, Cond.selects RX1 yX1_size yX1_size, Cond.code yX1_size cX1_size 3 (some .long)]
def wsL_cleared_r4 : List Cond := [Cond.methodLink RX1 98 yX1_next, Cond.instanceMethod yX1_next, Cond.selects RX1 yX1_next yX1_next, Cond.code yX1_next cX1_next 3 (some .long), Cond.methodLink RX1 87 yX1_takeFree, Cond.instanceMethod yX1_takeFree, Cond.selects RX1 yX1_takeFree yX1_takeFree, Cond.code yX1_takeFree cX1_takeFree 7 none, Cond.constantLong RX1 101 (16), Cond.methodLink RX1 103 yX1_writeHeader, Cond.instanceMethod yX1_writeHeader, Cond.selects RX1 yX1_writeHeader yX1_writeHeader, Cond.code yX1_writeHeader cX1_writeHeader 6 none, Cond.methodLink RX1 125 yX0_writeNumber, Cond.instanceMethod yX0_writeNumber, Cond.selects RX0 yX0_writeNumber yX0_writeNumber, Cond.code yX0_writeNumber cX0_writeNumber 6 none, Cond.methodLink RX0 48 yX0_write, Cond.instanceMethod yX0_write, Cond.selects RX0 yX0_write yX0_write, Cond.code yX0_write cX0_write 7 none, Cond.constantLong RX0 37 (255), Cond.constantLong RX0 39 (-1), Cond.methodLink RX1 92 yX1_takeAtEnd]
def wsL_cleared_r5 : List Cond := [Cond.instanceMethod yX1_takeAtEnd, Cond.selects RX1 yX1_takeAtEnd yX1_takeAtEnd, Cond.code yX1_takeAtEnd cX1_takeAtEnd 5 (some .long), Cond.methodLink RX1 37 yX1_clear, Cond.instanceMethod yX1_clear, Cond.selects RX1 yX1_clear yX1_clear, Cond.code yX1_clear cX1_clear 7 none, Cond.methodLink RX1 67 yX0_write]
def wsL_cleared : List Cond := .codeWith yL_cleared cL_cleared 5 (some .int) [(0, 10, 13, 13)] :: ((wsL_cleared_r1 ++ (wsL_cleared_r2 ++ (wsL_cleared_r3 ++ (wsL_cleared_r4 ++ wsL_cleared_r5)))) ++ wsX10 ++ wsX00 ++ (vx_atS RX0 27 "java/lang/IndexOutOfBoundsException" ["java/lang/RuntimeException", "java/lang/Exception"]).filter goodWord)
def wsL_resize_r1 : List Cond := [Cond.classLink RL 13 "java/lang/IndexOutOfBoundsException", Cond.methodLink RL 19 yX1_resize, Cond.instanceMethod yX1_resize, Cond.selects RX1 yX1_resize yX1_resize, Cond.initialized RX1, Cond.code yX1_resize cX1_resize 9 (some .int), Cond.methodLink RX1 27 yX1_unsigned, Cond.static yX1_unsigned, Cond.code yX1_unsigned cX1_unsigned 1 (some .long), Cond.constantLong RX1 70 (4294967295), Cond.methodLink RX1 31 yX1_take, Cond.instanceMethod yX1_take, Cond.selects RX1 yX1_take yX1_take, Cond.code yX1_take cX1_take 7 (some .long), Cond.constantLong RX1 72 (8), Cond.constantLong RX1 35 (480000), Cond.fieldLink RX1 18 "HeapRow" "end" "J", Cond.fieldLink RX1 24 "HeapRow" "stackEnd" "J", Cond.constantLong RX1 90 (4096), Cond.methodLink RX1 51 yX1_rounded, Cond.static yX1_rounded, Cond.code yX1_rounded cX1_rounded 2 (some .long), Cond.constantLong RX1 74 (7), Cond.constantLong RX1 76 (-8)]
def wsL_resize_r2 : List Cond := [Cond.methodLink RX1 78 Lib.MathLoose.max_long.x, Cond.static Lib.MathLoose.max_long.x, Cond.initialized "java/lang/Math", Cond.code Lib.MathLoose.max_long.x Lib.MathLoose.max_long.code 4 (some .long), Cond.methodLink RX1 84 yX1_firstFree, Cond.instanceMethod yX1_firstFree, Cond.selects RX1 yX1_firstFree yX1_firstFree, Cond.code yX1_firstFree cX1_firstFree 6 (some .long), Cond.constantLong RX1 16 (1024), Cond.methodLink RX1 95 yX1_isTaken, Cond.instanceMethod yX1_isTaken, Cond.selects RX1 yX1_isTaken yX1_isTaken, Cond.code yX1_isTaken cX1_isTaken 3 (some .boolean), Cond.fieldLink RX1 12 "HeapRow" "memory" "LHeapRow$Memory;", Cond.constantLong RX1 123 (4), Cond.methodLink RX1 120 yX0_readNumber, Cond.instanceMethod yX0_readNumber, Cond.selects RX0 yX0_readNumber yX0_readNumber, Cond.initialized RX0, Cond.code yX0_readNumber cX0_readNumber 6 (some .long), Cond.methodLink RX0 41 yX0_checkNumber, Cond.instanceMethod yX0_checkNumber, Cond.selects RX0 yX0_checkNumber yX0_checkNumber, Cond.code yX0_checkNumber cX0_checkNumber 3 none]
def wsL_resize_r3 : List Cond := [Cond.classLink RX0 23 "java/lang/IndexOutOfBoundsException", Cond.initialized "java/lang/IndexOutOfBoundsException", Cond.constantLong RX0 52 (3), Cond.methodLink RX0 19 yX0_has, Cond.instanceMethod yX0_has, Cond.selects RX0 yX0_has yX0_has, Cond.code yX0_has cX0_has 3 (some .boolean), Cond.constantLong RX0 15 (1024), Cond.constantLong RX0 17 (65536), Cond.methodLink RX0 45 yX0_read, Cond.instanceMethod yX0_read, Cond.selects RX0 yX0_read yX0_read, Cond.code yX0_read cX0_read 3 (some .int), Cond.fieldLink RX0 11 "HeapRow$Memory" "words" "[J", Cond.methodLink RX0 30 yX0_wordOf, Cond.static yX0_wordOf, Cond.code yX0_wordOf cX0_wordOf 2 (some .int), Cond.methodLink RX0 34 yX0_shiftOf, Cond.static yX0_shiftOf, Cond.code yX0_shiftOf cX0_shiftOf 2 (some .int), Cond.methodLink RX1 48 yX1_size, Cond.instanceMethod yX1_size, Cond.selects RX1 yX1_size yX1_size, Cond.code yX1_size cX1_size 3 (some .long)]
def wsL_resize_r4 : List Cond := [Cond.methodLink RX1 98 yX1_next, Cond.instanceMethod yX1_next, Cond.selects RX1 yX1_next yX1_next, Cond.code yX1_next cX1_next 3 (some .long), Cond.methodLink RX1 87 yX1_takeFree, Cond.instanceMethod yX1_takeFree, Cond.selects RX1 yX1_takeFree yX1_takeFree, Cond.code yX1_takeFree cX1_takeFree 7 none, Cond.constantLong RX1 101 (16), Cond.methodLink RX1 103 yX1_writeHeader, Cond.instanceMethod yX1_writeHeader, Cond.selects RX1 yX1_writeHeader yX1_writeHeader, Cond.code yX1_writeHeader cX1_writeHeader 6 none, Cond.methodLink RX1 125 yX0_writeNumber, Cond.instanceMethod yX0_writeNumber, Cond.selects RX0 yX0_writeNumber yX0_writeNumber, Cond.code yX0_writeNumber cX0_writeNumber 6 none, Cond.methodLink RX0 48 yX0_write, Cond.instanceMethod yX0_write, Cond.selects RX0 yX0_write yX0_write, Cond.code yX0_write cX0_write 7 none, Cond.constantLong RX0 37 (255), Cond.constantLong RX0 39 (-1), Cond.methodLink RX1 92 yX1_takeAtEnd]
def wsL_resize_r5 : List Cond := [Cond.instanceMethod yX1_takeAtEnd, Cond.selects RX1 yX1_takeAtEnd yX1_takeAtEnd, Cond.code yX1_takeAtEnd cX1_takeAtEnd 5 (some .long), Cond.methodLink RX1 41 yX1_takenBlock, Cond.instanceMethod yX1_takenBlock, Cond.selects RX1 yX1_takenBlock yX1_takenBlock, Cond.code yX1_takenBlock cX1_takenBlock 6 (some .long), Cond.classLink RX1 107 "java/lang/IndexOutOfBoundsException", Cond.methodLink RX1 44 yX1_giveBack, Cond.instanceMethod yX1_giveBack, Cond.selects RX1 yX1_giveBack yX1_giveBack, Cond.code yX1_giveBack cX1_giveBack 7 none, Cond.methodLink RX1 114 yX1_joinNext, Cond.instanceMethod yX1_joinNext, Cond.selects RX1 yX1_joinNext yX1_joinNext, Cond.code yX1_joinNext cX1_joinNext 5 none, Cond.methodLink RX1 117 yX1_blockBefore, Cond.instanceMethod yX1_blockBefore, Cond.selects RX1 yX1_blockBefore yX1_blockBefore, Cond.code yX1_blockBefore cX1_blockBefore 8 (some .long), Cond.methodLink RX1 54 yX1_copy, Cond.instanceMethod yX1_copy, Cond.selects RX1 yX1_copy yX1_copy, Cond.code yX1_copy cX1_copy 9 none]
def wsL_resize_r6 : List Cond := [Cond.methodLink RX1 63 yX0_read, Cond.methodLink RX1 67 yX0_write]
def wsL_resize : List Cond := .codeWith yL_resize cL_resize 5 (some .int) [(0, 10, 13, 13)] :: ((wsL_resize_r1 ++ (wsL_resize_r2 ++ (wsL_resize_r3 ++ (wsL_resize_r4 ++ (wsL_resize_r5 ++ wsL_resize_r6))))) ++ wsX10 ++ wsX00 ++ (vx_atS RX0 27 "java/lang/IndexOutOfBoundsException" ["java/lang/RuntimeException", "java/lang/Exception"]).filter goodWord ++ (vx_atS RX1 111 "java/lang/IndexOutOfBoundsException" ["java/lang/RuntimeException", "java/lang/Exception"]).filter goodWord)
def wsL_free_r1 : List Cond := [Cond.classLink RL 13 "java/lang/IndexOutOfBoundsException", Cond.methodLink RL 22 yX1_free, Cond.instanceMethod yX1_free, Cond.selects RX1 yX1_free yX1_free, Cond.initialized RX1, Cond.code yX1_free cX1_free 2 (some .boolean), Cond.methodLink RX1 27 yX1_unsigned, Cond.static yX1_unsigned, Cond.code yX1_unsigned cX1_unsigned 1 (some .long), Cond.constantLong RX1 70 (4294967295), Cond.methodLink RX1 41 yX1_takenBlock, Cond.instanceMethod yX1_takenBlock, Cond.selects RX1 yX1_takenBlock yX1_takenBlock, Cond.code yX1_takenBlock cX1_takenBlock 6 (some .long), Cond.classLink RX1 107 "java/lang/IndexOutOfBoundsException", Cond.initialized "java/lang/IndexOutOfBoundsException", Cond.constantLong RX1 16 (1024), Cond.fieldLink RX1 18 "HeapRow" "end" "J", Cond.constantLong RX1 72 (8), Cond.methodLink RX1 95 yX1_isTaken, Cond.instanceMethod yX1_isTaken, Cond.selects RX1 yX1_isTaken yX1_isTaken, Cond.code yX1_isTaken cX1_isTaken 3 (some .boolean), Cond.fieldLink RX1 12 "HeapRow" "memory" "LHeapRow$Memory;"]
def wsL_free_r2 : List Cond := [Cond.constantLong RX1 123 (4), Cond.methodLink RX1 120 yX0_readNumber, Cond.instanceMethod yX0_readNumber, Cond.selects RX0 yX0_readNumber yX0_readNumber, Cond.initialized RX0, Cond.code yX0_readNumber cX0_readNumber 6 (some .long), Cond.methodLink RX0 41 yX0_checkNumber, Cond.instanceMethod yX0_checkNumber, Cond.selects RX0 yX0_checkNumber yX0_checkNumber, Cond.code yX0_checkNumber cX0_checkNumber 3 none, Cond.classLink RX0 23 "java/lang/IndexOutOfBoundsException", Cond.constantLong RX0 52 (3), Cond.methodLink RX0 19 yX0_has, Cond.instanceMethod yX0_has, Cond.selects RX0 yX0_has yX0_has, Cond.code yX0_has cX0_has 3 (some .boolean), Cond.constantLong RX0 15 (1024), Cond.constantLong RX0 17 (65536), Cond.methodLink RX0 45 yX0_read, Cond.instanceMethod yX0_read, Cond.selects RX0 yX0_read yX0_read, Cond.code yX0_read cX0_read 3 (some .int), Cond.fieldLink RX0 11 "HeapRow$Memory" "words" "[J", Cond.methodLink RX0 30 yX0_wordOf]
def wsL_free_r3 : List Cond := [Cond.static yX0_wordOf, Cond.code yX0_wordOf cX0_wordOf 2 (some .int), Cond.methodLink RX0 34 yX0_shiftOf, Cond.static yX0_shiftOf, Cond.code yX0_shiftOf cX0_shiftOf 2 (some .int), Cond.methodLink RX1 98 yX1_next, Cond.instanceMethod yX1_next, Cond.selects RX1 yX1_next yX1_next, Cond.code yX1_next cX1_next 3 (some .long), Cond.methodLink RX1 44 yX1_giveBack, Cond.instanceMethod yX1_giveBack, Cond.selects RX1 yX1_giveBack yX1_giveBack, Cond.code yX1_giveBack cX1_giveBack 7 none, Cond.methodLink RX1 48 yX1_size, Cond.instanceMethod yX1_size, Cond.selects RX1 yX1_size yX1_size, Cond.code yX1_size cX1_size 3 (some .long), Cond.methodLink RX1 103 yX1_writeHeader, Cond.instanceMethod yX1_writeHeader, Cond.selects RX1 yX1_writeHeader yX1_writeHeader, Cond.code yX1_writeHeader cX1_writeHeader 6 none, Cond.methodLink RX1 125 yX0_writeNumber, Cond.instanceMethod yX0_writeNumber, Cond.selects RX0 yX0_writeNumber yX0_writeNumber]
def wsL_free_r4 : List Cond := [Cond.code yX0_writeNumber cX0_writeNumber 6 none, Cond.methodLink RX0 48 yX0_write, Cond.instanceMethod yX0_write, Cond.selects RX0 yX0_write yX0_write, Cond.code yX0_write cX0_write 7 none, Cond.constantLong RX0 37 (255), Cond.constantLong RX0 39 (-1), Cond.methodLink RX1 114 yX1_joinNext, Cond.instanceMethod yX1_joinNext, Cond.selects RX1 yX1_joinNext yX1_joinNext, Cond.code yX1_joinNext cX1_joinNext 5 none, Cond.methodLink RX1 117 yX1_blockBefore, Cond.instanceMethod yX1_blockBefore, Cond.selects RX1 yX1_blockBefore yX1_blockBefore, Cond.code yX1_blockBefore cX1_blockBefore 8 (some .long)]
def wsL_free : List Cond := .codeWith yL_free cL_free 4 (some .int) [(0, 16, 19, 13)] :: ((wsL_free_r1 ++ (wsL_free_r2 ++ (wsL_free_r3 ++ wsL_free_r4))) ++ wsX10 ++ wsX00 ++ (vx_atS RX1 111 "java/lang/IndexOutOfBoundsException" ["java/lang/RuntimeException", "java/lang/Exception"]).filter goodWord ++ (vx_atS RX0 27 "java/lang/IndexOutOfBoundsException" ["java/lang/RuntimeException", "java/lang/Exception"]).filter goodWord)
def wsL_law0_r1 : List Cond := [Cond.classLink RL 8 RX1, Cond.instantiable RX1 3, Cond.initialized RX1, Cond.classLink RL 27 RX2, Cond.instantiable RX2 5, Cond.initialized RX2, Cond.arrayClass .long, Cond.methodLink RL 26 yX1_init, Cond.instanceMethod yX1_init, Cond.code yX1_init cX1_init 1 none, Cond.methodLink RX1 3 objectInit, Cond.instanceMethod objectInit, Cond.code objectInit ⟨#[0xb1]⟩ 1 none, Cond.classLink RX1 9 RX0, Cond.instantiable RX0 1, Cond.initialized RX0, Cond.fieldLink RX1 12 "HeapRow" "memory" "LHeapRow$Memory;", Cond.constantLong RX1 16 (1024), Cond.fieldLink RX1 18 "HeapRow" "end" "J", Cond.constantLong RX1 22 (65536), Cond.fieldLink RX1 24 "HeapRow" "stackEnd" "J", Cond.instanceMethod yX0_init, Cond.code yX0_init cX0_init 1 none, Cond.methodLink RX0 3 objectInit]
def wsL_law0_r2 : List Cond := [Cond.fieldLink RX0 11 "HeapRow$Memory" "words" "[J", Cond.methodLink RL 29 yX2_init, Cond.instanceMethod yX2_init, Cond.code yX2_init cX2_init 1 none, Cond.methodLink RX2 1 objectInit, Cond.constant RX2 9 (65536), Cond.arrayClass .byte, Cond.fieldLink RX2 10 "HeapRowModel" "memory" "[B", Cond.fieldLink RX2 14 "HeapRowModel" "end" "I", Cond.fieldLink RX2 18 "HeapRowModel" "stack" "I", Cond.methodLink RL 30 yL_allocate, Cond.static yL_allocate, Cond.initialized RL, Cond.codeWith yL_allocate cL_allocate 4 (some .int) [(0, 9, 12, 13)], Cond.classLink RL 13 "java/lang/IndexOutOfBoundsException", Cond.methodLink RL 7 yX1_allocate, Cond.instanceMethod yX1_allocate, Cond.selects RX1 yX1_allocate yX1_allocate, Cond.code yX1_allocate cX1_allocate 2 (some .int), Cond.methodLink RX1 27 yX1_unsigned, Cond.static yX1_unsigned, Cond.code yX1_unsigned cX1_unsigned 1 (some .long), Cond.constantLong RX1 70 (4294967295), Cond.methodLink RX1 31 yX1_take]
def wsL_law0_r3 : List Cond := [Cond.instanceMethod yX1_take, Cond.selects RX1 yX1_take yX1_take, Cond.code yX1_take cX1_take 7 (some .long), Cond.constantLong RX1 72 (8), Cond.constantLong RX1 35 (480000), Cond.constantLong RX1 90 (4096), Cond.methodLink RX1 51 yX1_rounded, Cond.static yX1_rounded, Cond.code yX1_rounded cX1_rounded 2 (some .long), Cond.constantLong RX1 74 (7), Cond.constantLong RX1 76 (-8), Cond.methodLink RX1 78 Lib.MathLoose.max_long.x, Cond.static Lib.MathLoose.max_long.x, Cond.initialized "java/lang/Math", Cond.code Lib.MathLoose.max_long.x Lib.MathLoose.max_long.code 4 (some .long), Cond.methodLink RX1 84 yX1_firstFree, Cond.instanceMethod yX1_firstFree, Cond.selects RX1 yX1_firstFree yX1_firstFree, Cond.code yX1_firstFree cX1_firstFree 6 (some .long), Cond.methodLink RX1 95 yX1_isTaken, Cond.instanceMethod yX1_isTaken, Cond.selects RX1 yX1_isTaken yX1_isTaken, Cond.code yX1_isTaken cX1_isTaken 3 (some .boolean), Cond.constantLong RX1 123 (4)]
def wsL_law0_r4 : List Cond := [Cond.methodLink RX1 120 yX0_readNumber, Cond.instanceMethod yX0_readNumber, Cond.selects RX0 yX0_readNumber yX0_readNumber, Cond.code yX0_readNumber cX0_readNumber 6 (some .long), Cond.methodLink RX0 41 yX0_checkNumber, Cond.instanceMethod yX0_checkNumber, Cond.selects RX0 yX0_checkNumber yX0_checkNumber, Cond.code yX0_checkNumber cX0_checkNumber 3 none, Cond.classLink RX0 23 "java/lang/IndexOutOfBoundsException", Cond.initialized "java/lang/IndexOutOfBoundsException", Cond.constantLong RX0 52 (3), Cond.methodLink RX0 19 yX0_has, Cond.instanceMethod yX0_has, Cond.selects RX0 yX0_has yX0_has, Cond.code yX0_has cX0_has 3 (some .boolean), Cond.constantLong RX0 15 (1024), Cond.constantLong RX0 17 (65536), Cond.methodLink RX0 45 yX0_read, Cond.instanceMethod yX0_read, Cond.selects RX0 yX0_read yX0_read, Cond.code yX0_read cX0_read 3 (some .int), Cond.methodLink RX0 30 yX0_wordOf, Cond.static yX0_wordOf, Cond.code yX0_wordOf cX0_wordOf 2 (some .int)]
def wsL_law0_r5 : List Cond := [Cond.methodLink RX0 34 yX0_shiftOf, Cond.static yX0_shiftOf, Cond.code yX0_shiftOf cX0_shiftOf 2 (some .int), Cond.methodLink RX1 48 yX1_size, Cond.instanceMethod yX1_size, Cond.selects RX1 yX1_size yX1_size, Cond.code yX1_size cX1_size 3 (some .long), Cond.methodLink RX1 98 yX1_next, Cond.instanceMethod yX1_next, Cond.selects RX1 yX1_next yX1_next, Cond.code yX1_next cX1_next 3 (some .long), Cond.methodLink RX1 87 yX1_takeFree, Cond.instanceMethod yX1_takeFree, Cond.selects RX1 yX1_takeFree yX1_takeFree, Cond.code yX1_takeFree cX1_takeFree 7 none, Cond.constantLong RX1 101 (16), Cond.methodLink RX1 103 yX1_writeHeader, Cond.instanceMethod yX1_writeHeader, Cond.selects RX1 yX1_writeHeader yX1_writeHeader, Cond.code yX1_writeHeader cX1_writeHeader 6 none, Cond.methodLink RX1 125 yX0_writeNumber, Cond.instanceMethod yX0_writeNumber, Cond.selects RX0 yX0_writeNumber yX0_writeNumber, Cond.code yX0_writeNumber cX0_writeNumber 6 none]
def wsL_law0_r6 : List Cond := [Cond.methodLink RX0 48 yX0_write, Cond.instanceMethod yX0_write, Cond.selects RX0 yX0_write yX0_write, Cond.code yX0_write cX0_write 7 none, Cond.constantLong RX0 37 (255), Cond.constantLong RX0 39 (-1), Cond.methodLink RX1 92 yX1_takeAtEnd, Cond.instanceMethod yX1_takeAtEnd, Cond.selects RX1 yX1_takeAtEnd yX1_takeAtEnd, Cond.code yX1_takeAtEnd cX1_takeAtEnd 5 (some .long), Cond.methodLink RL 35 yX2_allocate, Cond.instanceMethod yX2_allocate, Cond.selects RX2 yX2_allocate yX2_allocate, Cond.codeWith yX2_allocate cX2_allocate 3 (some .int) [(5, 13, 14, 32)], Cond.classLink RX2 32 "java/lang/IndexOutOfBoundsException", Cond.fieldLink RX2 21 "HeapRowModel" "thrown" "I", Cond.methodLink RX2 50 yX2_without, Cond.static yX2_without, Cond.code yX2_without cX2_without 1 (some .long), Cond.constantLong RX2 45 (4294967295), Cond.methodLink RX2 88 yX2_take, Cond.instanceMethod yX2_take, Cond.selects RX2 yX2_take yX2_take, Cond.code yX2_take cX2_take 10 (some .int)]
def wsL_law0_r7 : List Cond := [Cond.constantLong RX2 24 (1024), Cond.constantLong RX2 76 (16), Cond.constantLong RX2 69 (8), Cond.constantLong RX2 81 (12), Cond.constantLong RX2 54 (4), Cond.constantLong RX2 83 (480000), Cond.methodLink RX2 73 yX2_up, Cond.static yX2_up, Cond.code yX2_up cX2_up 2 (some .long), Cond.constantLong RX2 71 (7), Cond.methodLink RX2 62 yX2_sizeAt, Cond.instanceMethod yX2_sizeAt, Cond.selects RX2 yX2_sizeAt yX2_sizeAt, Cond.code yX2_sizeAt cX2_sizeAt 3 (some .long), Cond.methodLink RX2 47 yX2_number, Cond.instanceMethod yX2_number, Cond.selects RX2 yX2_number yX2_number, Cond.code yX2_number cX2_number 5 (some .int), Cond.methodLink RX2 35 yX2_read, Cond.instanceMethod yX2_read, Cond.selects RX2 yX2_read yX2_read, Cond.code yX2_read cX2_read 3 (some .int), Cond.methodLink RX2 28 yX2_there, Cond.static yX2_there]
def wsL_law0_r8 : List Cond := [Cond.code yX2_there cX2_there 2 (some .boolean), Cond.constantLong RX2 26 (65536), Cond.methodLink RX2 66 yX2_takenAt, Cond.instanceMethod yX2_takenAt, Cond.selects RX2 yX2_takenAt yX2_takenAt, Cond.code yX2_takenAt cX2_takenAt 3 (some .boolean), Cond.methodLink RX2 78 yX2_set, Cond.instanceMethod yX2_set, Cond.selects RX2 yX2_set yX2_set, Cond.code yX2_set cX2_set 5 none, Cond.constantLong RX2 39 (3), Cond.methodLink RX2 41 yX2_write, Cond.instanceMethod yX2_write, Cond.selects RX2 yX2_write yX2_write, Cond.code yX2_write cX2_write 4 none, Cond.methodLink RL 36 yX2_thrown, Cond.instanceMethod yX2_thrown, Cond.selects RX2 yX2_thrown yX2_thrown, Cond.code yX2_thrown cX2_thrown 1 (some .int), Cond.methodLink RL 40 yL_cleared, Cond.static yL_cleared, Cond.codeWith yL_cleared cL_cleared 5 (some .int) [(0, 10, 13, 13)], Cond.methodLink RL 15 yX1_cleared, Cond.instanceMethod yX1_cleared]
def wsL_law0_r9 : List Cond := [Cond.selects RX1 yX1_cleared yX1_cleared, Cond.code yX1_cleared cX1_cleared 7 (some .int), Cond.methodLink RX1 37 yX1_clear, Cond.instanceMethod yX1_clear, Cond.selects RX1 yX1_clear yX1_clear, Cond.code yX1_clear cX1_clear 7 none, Cond.methodLink RX1 67 yX0_write, Cond.methodLink RL 43 yX2_cleared, Cond.instanceMethod yX2_cleared, Cond.selects RX2 yX2_cleared yX2_cleared, Cond.codeWith yX2_cleared cX2_cleared 10 (some .int) [(35, 87, 88, 32)], Cond.methodLink RL 44 yL_resize, Cond.static yL_resize, Cond.codeWith yL_resize cL_resize 5 (some .int) [(0, 10, 13, 13)], Cond.methodLink RL 19 yX1_resize, Cond.instanceMethod yX1_resize, Cond.selects RX1 yX1_resize yX1_resize, Cond.code yX1_resize cX1_resize 9 (some .int), Cond.methodLink RX1 41 yX1_takenBlock, Cond.instanceMethod yX1_takenBlock, Cond.selects RX1 yX1_takenBlock yX1_takenBlock, Cond.code yX1_takenBlock cX1_takenBlock 6 (some .long), Cond.classLink RX1 107 "java/lang/IndexOutOfBoundsException", Cond.methodLink RX1 44 yX1_giveBack]
def wsL_law0_r10 : List Cond := [Cond.instanceMethod yX1_giveBack, Cond.selects RX1 yX1_giveBack yX1_giveBack, Cond.code yX1_giveBack cX1_giveBack 7 none, Cond.methodLink RX1 114 yX1_joinNext, Cond.instanceMethod yX1_joinNext, Cond.selects RX1 yX1_joinNext yX1_joinNext, Cond.code yX1_joinNext cX1_joinNext 5 none, Cond.methodLink RX1 117 yX1_blockBefore, Cond.instanceMethod yX1_blockBefore, Cond.selects RX1 yX1_blockBefore yX1_blockBefore, Cond.code yX1_blockBefore cX1_blockBefore 8 (some .long), Cond.methodLink RX1 54 yX1_copy, Cond.instanceMethod yX1_copy, Cond.selects RX1 yX1_copy yX1_copy, Cond.code yX1_copy cX1_copy 9 none, Cond.methodLink RX1 63 yX0_read, Cond.methodLink RL 46 yX2_resize, Cond.instanceMethod yX2_resize, Cond.selects RX2 yX2_resize yX2_resize, Cond.codeWith yX2_resize cX2_resize 4 (some .int) [(5, 11, 12, 32)], Cond.methodLink RX2 91 yX2_resized, Cond.instanceMethod yX2_resized, Cond.selects RX2 yX2_resized yX2_resized, Cond.code yX2_resized cX2_resized 8 (some .int)]
def wsL_law0_r11 : List Cond := [Cond.methodLink RX2 95 yX2_give, Cond.instanceMethod yX2_give, Cond.selects RX2 yX2_give yX2_give, Cond.code yX2_give cX2_give 10 (some .boolean), Cond.fieldLink RX2 58 "HeapRowModel" "before" "J", Cond.methodLink RX2 85 yX2_found, Cond.instanceMethod yX2_found, Cond.selects RX2 yX2_found yX2_found, Cond.code yX2_found cX2_found 7 (some .long), Cond.constantLong RX2 56 (-1), Cond.methodLink RL 47 yL_free, Cond.static yL_free, Cond.codeWith yL_free cL_free 4 (some .int) [(0, 16, 19, 13)], Cond.methodLink RL 22 yX1_free, Cond.instanceMethod yX1_free, Cond.selects RX1 yX1_free yX1_free, Cond.code yX1_free cX1_free 2 (some .boolean), Cond.methodLink RL 49 yX2_free, Cond.instanceMethod yX2_free, Cond.selects RX2 yX2_free yX2_free, Cond.codeWith yX2_free cX2_free 3 (some .boolean) [(5, 10, 11, 32)], Cond.methodLink RL 50 yX1_stack, Cond.instanceMethod yX1_stack, Cond.selects RX1 yX1_stack yX1_stack]
def wsL_law0_r12 : List Cond := [Cond.code yX1_stack cX1_stack 2 (some .boolean), Cond.constant RX1 58 (65536), Cond.methodLink RL 53 yX2_stack, Cond.instanceMethod yX2_stack, Cond.selects RX2 yX2_stack yX2_stack, Cond.code yX2_stack cX2_stack 2 (some .boolean), Cond.methodLink RL 54 yX1_put, Cond.instanceMethod yX1_put, Cond.selects RX1 yX1_put yX1_put, Cond.code yX1_put cX1_put 6 (some .int), Cond.methodLink RX1 59 yX0_has, Cond.methodLink RL 57 yX2_put, Cond.instanceMethod yX2_put, Cond.selects RX2 yX2_put yX2_put, Cond.code yX2_put cX2_put 4 (some .int), Cond.methodLink RL 58 yX1_get, Cond.instanceMethod yX1_get, Cond.selects RX1 yX1_get yX1_get, Cond.code yX1_get cX1_get 4 (some .int), Cond.methodLink RL 61 yX2_get, Cond.instanceMethod yX2_get, Cond.selects RX2 yX2_get yX2_get, Cond.code yX2_get cX2_get 2 (some .int), Cond.methodLink RL 62 yX1_end]
def wsL_law0_r13 : List Cond := [Cond.instanceMethod yX1_end, Cond.selects RX1 yX1_end yX1_end, Cond.code yX1_end cX1_end 1 (some .int), Cond.methodLink RL 65 yX2_end, Cond.instanceMethod yX2_end, Cond.selects RX2 yX2_end yX2_end, Cond.code yX2_end cX2_end 1 (some .int)]
def wsL_law0 : List Cond := (wsL_law0_r1 ++ (wsL_law0_r2 ++ (wsL_law0_r3 ++ (wsL_law0_r4 ++ (wsL_law0_r5 ++ (wsL_law0_r6 ++ (wsL_law0_r7 ++ (wsL_law0_r8 ++ (wsL_law0_r9 ++ (wsL_law0_r10 ++ (wsL_law0_r11 ++ (wsL_law0_r12 ++ wsL_law0_r13)))))))))))) ++ wsX10 ++ wsX20 ++ wsX00 ++ ([] : List Cond)
def wsL_law : List Cond := wsL_law0 ++ (vx_atS RX0 27 "java/lang/IndexOutOfBoundsException" ["java/lang/RuntimeException", "java/lang/Exception"]).filter goodWord ++ (vx_at0 RX2 34 "java/lang/IndexOutOfBoundsException" ["java/lang/RuntimeException", "java/lang/Exception"]).filter goodWord ++ (vx_atS RX1 111 "java/lang/IndexOutOfBoundsException" ["java/lang/RuntimeException", "java/lang/Exception"]).filter goodWord
set_option maxRecDepth 20000 in
theorem wsL_law_in0 : ∀ w ∈ wsL_law0, w ∈ lw_tbl := fun w h => (goodIn_p wsL_law0 [39, 42, 47, 297, 183, 77, 187, 190, 196, 200, 204, 209, 213, 82, 88, 158, 161, 220, 224, 228, 233, 237, 165, 244, 327, 332, 335, 342, 346, 350, 353, 368, 374, 379, 319, 251, 255, 262, 266, 273, 277, 281, 285, 393, 397, 401, 292, 69, 410, 74, 414, 171, 418, 175, 422] (by decide +kernel) (by decide +kernel) w h).1
theorem wsL_law_x0 : ∀ w ∈ (vx_atS RX0 27 "java/lang/IndexOutOfBoundsException" ["java/lang/RuntimeException", "java/lang/Exception"]).filter goodWord, w ∈ lw_tbl := by decide +kernel
theorem wsL_law_x1 : ∀ w ∈ (vx_at0 RX2 34 "java/lang/IndexOutOfBoundsException" ["java/lang/RuntimeException", "java/lang/Exception"]).filter goodWord, w ∈ lw_tbl := by decide +kernel
theorem wsL_law_x2 : ∀ w ∈ (vx_atS RX1 111 "java/lang/IndexOutOfBoundsException" ["java/lang/RuntimeException", "java/lang/Exception"]).filter goodWord, w ∈ lw_tbl := by decide +kernel
theorem wsL_law_in : ∀ w ∈ wsL_law, w ∈ lw_tbl := fun w h => (List.mem_append.mp h).elim (fun h => (List.mem_append.mp h).elim (fun h => (List.mem_append.mp h).elim (fun h => wsL_law_in0 w h) (fun h => wsL_law_x0 w h)) (fun h => wsL_law_x1 w h)) (fun h => wsL_law_x2 w h)
theorem inlX0 : ∀ w ∈ wsX00, w ∈ wsL_law := fun _ h => List.mem_append_left _ (List.mem_append_left _ (List.mem_append_left _ (List.mem_append_left _ (List.mem_append_right _ h))))
theorem inX0 : ∀ w ∈ wsX00, w ∈ lw_tbl := fun w h => wsL_law_in w (inlX0 w h)
theorem inlX1 : ∀ w ∈ wsX10, w ∈ wsL_law := fun _ h => List.mem_append_left _ (List.mem_append_left _ (List.mem_append_left _ (List.mem_append_left _ (List.mem_append_left _ (List.mem_append_left _ (List.mem_append_right _ h))))))
theorem inX1 : ∀ w ∈ wsX10, w ∈ lw_tbl := fun w h => wsL_law_in w (inlX1 w h)
theorem inlX2 : ∀ w ∈ wsX20, w ∈ wsL_law := fun _ h => List.mem_append_left _ (List.mem_append_left _ (List.mem_append_left _ (List.mem_append_left _ (List.mem_append_left _ (List.mem_append_right _ h)))))
theorem inX2 : ∀ w ∈ wsX20, w ∈ lw_tbl := fun w h => wsL_law_in w (inlX2 w h)
theorem inJ9 : ∀ w ∈ wsJ90, w ∈ lw_tbl := by decide +kernel
theorem inJ0 : ∀ w ∈ wsJ00, w ∈ lw_tbl := by decide +kernel
theorem dX0_init_0 : decode cX0_init 0 = .ok (.aload_n 0, 1) := by decide +kernel
theorem dX0_init_1 : decode cX0_init 1 = .ok (.invokespecial 3, 3) := by decide +kernel
theorem dX0_init_4 : decode cX0_init 4 = .ok (.aload_n 0, 1) := by decide +kernel
theorem dX0_init_5 : decode cX0_init 5 = .ok (.sipush 8064, 3) := by decide +kernel
theorem dX0_init_8 : decode cX0_init 8 = .ok (.newarray .long, 2) := by decide +kernel
theorem dX0_init_10 : decode cX0_init 10 = .ok (.putfield 11, 3) := by decide +kernel
theorem dX0_init_13 : decode cX0_init 13 = .ok (.return_, 1) := by decide +kernel
theorem dX0_has_0 : decode cX0_has 0 = .ok (.lload_n 1, 1) := by decide +kernel
theorem dX0_has_1 : decode cX0_has 1 = .ok (.ldc2_w 15, 3) := by decide +kernel
theorem dX0_has_4 : decode cX0_has 4 = .ok (.lcmp, 1) := by decide +kernel
theorem dX0_has_5 : decode cX0_has 5 = .ok (.ifCond .lt 15, 3) := by decide +kernel
theorem dX0_has_8 : decode cX0_has 8 = .ok (.lload_n 1, 1) := by decide +kernel
theorem dX0_has_9 : decode cX0_has 9 = .ok (.ldc2_w 17, 3) := by decide +kernel
theorem dX0_has_12 : decode cX0_has 12 = .ok (.lcmp, 1) := by decide +kernel
theorem dX0_has_13 : decode cX0_has 13 = .ok (.ifCond .ge 7, 3) := by decide +kernel
theorem dX0_has_16 : decode cX0_has 16 = .ok (.iconst 1, 1) := by decide +kernel
theorem dX0_has_17 : decode cX0_has 17 = .ok (.goto 4, 3) := by decide +kernel
theorem dX0_has_20 : decode cX0_has 20 = .ok (.iconst 0, 1) := by decide +kernel
theorem dX0_has_21 : decode cX0_has 21 = .ok (.ireturn, 1) := by decide +kernel
set_option maxRecDepth 20000 in
theorem ggX0_read_X0_has : GoodIn wsX0_read wsX0_has := goodIn_r _ [8, 9, 10] (by decide +kernel) (by decide +kernel)
set_option maxRecDepth 20000 in
theorem gX0_read_X0_has : GoodIn wsX0_read (wsV RX0 19 RX0 yX0_has wsX0_has) := goodIn_app (goodIn_of _ (by decide +kernel)) ggX0_read_X0_has
set_option maxRecDepth 20000 in
theorem ggX0_read_X0_wordOf : GoodIn wsX0_read wsX0_wordOf := goodIn_r _ [13, 9] (by decide +kernel) (by decide +kernel)
set_option maxRecDepth 20000 in
theorem gX0_read_X0_wordOf : GoodIn wsX0_read (va_wsS RX0 30 yX0_wordOf wsX0_wordOf) := goodIn_app (goodIn_of _ (by decide +kernel)) ggX0_read_X0_wordOf
set_option maxRecDepth 20000 in
theorem ggX0_read_X0_shiftOf : GoodIn wsX0_read wsX0_shiftOf := goodIn_r _ [16, 9] (by decide +kernel) (by decide +kernel)
set_option maxRecDepth 20000 in
theorem gX0_read_X0_shiftOf : GoodIn wsX0_read (va_wsS RX0 34 yX0_shiftOf wsX0_shiftOf) := goodIn_app (goodIn_of _ (by decide +kernel)) ggX0_read_X0_shiftOf
theorem dX0_read_0 : decode cX0_read 0 = .ok (.aload_n 0, 1) := by decide +kernel
theorem dX0_read_1 : decode cX0_read 1 = .ok (.lload_n 1, 1) := by decide +kernel
theorem dX0_read_2 : decode cX0_read 2 = .ok (.invokevirtual 19, 3) := by decide +kernel
theorem dX0_read_5 : decode cX0_read 5 = .ok (.ifCond .ne 13, 3) := by decide +kernel
theorem dX0_read_8 : decode cX0_read 8 = .ok (.new 23, 3) := by decide +kernel
theorem dX0_read_11 : decode cX0_read 11 = .ok (.dup, 1) := by decide +kernel
theorem dX0_read_12 : decode cX0_read 12 = .ok (.ldc 25, 2) := by decide +kernel
theorem dX0_read_14 : decode cX0_read 14 = .ok (.invokespecial 27, 3) := by decide +kernel
theorem dX0_read_17 : decode cX0_read 17 = .ok (.athrow, 1) := by decide +kernel
theorem dX0_read_18 : decode cX0_read 18 = .ok (.aload_n 0, 1) := by decide +kernel
theorem dX0_read_19 : decode cX0_read 19 = .ok (.getfield 11, 3) := by decide +kernel
theorem dX0_read_22 : decode cX0_read 22 = .ok (.lload_n 1, 1) := by decide +kernel
theorem dX0_read_23 : decode cX0_read 23 = .ok (.invokestatic 30, 3) := by decide +kernel
theorem dX0_read_26 : decode cX0_read 26 = .ok (.laload, 1) := by decide +kernel
theorem dX0_read_27 : decode cX0_read 27 = .ok (.lload_n 1, 1) := by decide +kernel
theorem dX0_read_28 : decode cX0_read 28 = .ok (.invokestatic 34, 3) := by decide +kernel
theorem dX0_read_31 : decode cX0_read 31 = .ok (.lushr, 1) := by decide +kernel
theorem dX0_read_32 : decode cX0_read 32 = .ok (.l2i, 1) := by decide +kernel
theorem dX0_read_33 : decode cX0_read 33 = .ok (.sipush 255, 3) := by decide +kernel
theorem dX0_read_36 : decode cX0_read 36 = .ok (.iand, 1) := by decide +kernel
theorem dX0_read_37 : decode cX0_read 37 = .ok (.ireturn, 1) := by decide +kernel
set_option maxRecDepth 20000 in
theorem ggX0_write_X0_has : GoodIn wsX0_write wsX0_has := goodIn_r _ [10, 11, 12] (by decide +kernel) (by decide +kernel)
set_option maxRecDepth 20000 in
theorem gX0_write_X0_has : GoodIn wsX0_write (wsV RX0 19 RX0 yX0_has wsX0_has) := goodIn_app (goodIn_of _ (by decide +kernel)) ggX0_write_X0_has
set_option maxRecDepth 20000 in
theorem ggX0_write_X0_wordOf : GoodIn wsX0_write wsX0_wordOf := goodIn_r _ [15, 11] (by decide +kernel) (by decide +kernel)
set_option maxRecDepth 20000 in
theorem gX0_write_X0_wordOf : GoodIn wsX0_write (va_wsS RX0 30 yX0_wordOf wsX0_wordOf) := goodIn_app (goodIn_of _ (by decide +kernel)) ggX0_write_X0_wordOf
set_option maxRecDepth 20000 in
theorem ggX0_write_X0_shiftOf : GoodIn wsX0_write wsX0_shiftOf := goodIn_r _ [18, 11] (by decide +kernel) (by decide +kernel)
set_option maxRecDepth 20000 in
theorem gX0_write_X0_shiftOf : GoodIn wsX0_write (va_wsS RX0 34 yX0_shiftOf wsX0_shiftOf) := goodIn_app (goodIn_of _ (by decide +kernel)) ggX0_write_X0_shiftOf
theorem dX0_write_0 : decode cX0_write 0 = .ok (.aload_n 0, 1) := by decide +kernel
theorem dX0_write_1 : decode cX0_write 1 = .ok (.lload_n 1, 1) := by decide +kernel
theorem dX0_write_2 : decode cX0_write 2 = .ok (.invokevirtual 19, 3) := by decide +kernel
theorem dX0_write_5 : decode cX0_write 5 = .ok (.ifCond .ne 13, 3) := by decide +kernel
theorem dX0_write_8 : decode cX0_write 8 = .ok (.new 23, 3) := by decide +kernel
theorem dX0_write_11 : decode cX0_write 11 = .ok (.dup, 1) := by decide +kernel
theorem dX0_write_12 : decode cX0_write 12 = .ok (.ldc 25, 2) := by decide +kernel
theorem dX0_write_14 : decode cX0_write 14 = .ok (.invokespecial 27, 3) := by decide +kernel
theorem dX0_write_17 : decode cX0_write 17 = .ok (.athrow, 1) := by decide +kernel
theorem dX0_write_18 : decode cX0_write 18 = .ok (.lload_n 1, 1) := by decide +kernel
theorem dX0_write_19 : decode cX0_write 19 = .ok (.invokestatic 30, 3) := by decide +kernel
theorem dX0_write_22 : decode cX0_write 22 = .ok (.istore 5, 2) := by decide +kernel
theorem dX0_write_24 : decode cX0_write 24 = .ok (.lload_n 1, 1) := by decide +kernel
theorem dX0_write_25 : decode cX0_write 25 = .ok (.invokestatic 34, 3) := by decide +kernel
theorem dX0_write_28 : decode cX0_write 28 = .ok (.istore 6, 2) := by decide +kernel
theorem dX0_write_30 : decode cX0_write 30 = .ok (.aload_n 0, 1) := by decide +kernel
theorem dX0_write_31 : decode cX0_write 31 = .ok (.getfield 11, 3) := by decide +kernel
theorem dX0_write_34 : decode cX0_write 34 = .ok (.iload 5, 2) := by decide +kernel
theorem dX0_write_36 : decode cX0_write 36 = .ok (.aload_n 0, 1) := by decide +kernel
theorem dX0_write_37 : decode cX0_write 37 = .ok (.getfield 11, 3) := by decide +kernel
theorem dX0_write_40 : decode cX0_write 40 = .ok (.iload 5, 2) := by decide +kernel
theorem dX0_write_42 : decode cX0_write 42 = .ok (.laload, 1) := by decide +kernel
theorem dX0_write_43 : decode cX0_write 43 = .ok (.ldc2_w 37, 3) := by decide +kernel
theorem dX0_write_46 : decode cX0_write 46 = .ok (.iload 6, 2) := by decide +kernel
theorem dX0_write_48 : decode cX0_write 48 = .ok (.lshl, 1) := by decide +kernel
theorem dX0_write_49 : decode cX0_write 49 = .ok (.ldc2_w 39, 3) := by decide +kernel
theorem dX0_write_52 : decode cX0_write 52 = .ok (.lxor, 1) := by decide +kernel
theorem dX0_write_53 : decode cX0_write 53 = .ok (.land, 1) := by decide +kernel
theorem dX0_write_54 : decode cX0_write 54 = .ok (.lload_n 3, 1) := by decide +kernel
theorem dX0_write_55 : decode cX0_write 55 = .ok (.ldc2_w 37, 3) := by decide +kernel
theorem dX0_write_58 : decode cX0_write 58 = .ok (.land, 1) := by decide +kernel
theorem dX0_write_59 : decode cX0_write 59 = .ok (.iload 6, 2) := by decide +kernel
theorem dX0_write_61 : decode cX0_write 61 = .ok (.lshl, 1) := by decide +kernel
theorem dX0_write_62 : decode cX0_write 62 = .ok (.lor, 1) := by decide +kernel
theorem dX0_write_63 : decode cX0_write 63 = .ok (.lastore, 1) := by decide +kernel
theorem dX0_write_64 : decode cX0_write 64 = .ok (.return_, 1) := by decide +kernel
set_option maxRecDepth 20000 in
theorem ggX0_readNumber_X0_checkNumber : GoodIn wsX0_readNumber wsX0_checkNumber := goodIn_ca (goodIn_r _ [5, 6, 7, 8, 9, 10, 11, 4, 12, 13, 14] (by decide +kernel) (by decide +kernel)) (goodIn_sub (fun _ h => List.mem_cons_of_mem _ (List.mem_append_right _ h)) (by decide +kernel))
set_option maxRecDepth 20000 in
theorem gX0_readNumber_X0_checkNumber : GoodIn wsX0_readNumber (wsV RX0 41 RX0 yX0_checkNumber wsX0_checkNumber) := goodIn_app (goodIn_of _ (by decide +kernel)) ggX0_readNumber_X0_checkNumber
set_option maxRecDepth 20000 in
theorem ggX0_readNumber_X0_read : GoodIn wsX0_readNumber wsX0_read := goodIn_ca (goodIn_r _ [18, 6, 7, 19, 9, 10, 11, 4, 12, 13, 14, 20, 21, 22, 23, 24, 25, 26] (by decide +kernel) (by decide +kernel)) (goodIn_sub (fun _ h => List.mem_cons_of_mem _ (List.mem_append_right _ h)) (by decide +kernel))
set_option maxRecDepth 20000 in
theorem gX0_readNumber_X0_read : GoodIn wsX0_readNumber (wsV RX0 45 RX0 yX0_read wsX0_read) := goodIn_app (goodIn_of _ (by decide +kernel)) ggX0_readNumber_X0_read
theorem dX0_readNumber_0 : decode cX0_readNumber 0 = .ok (.aload_n 0, 1) := by decide +kernel
theorem dX0_readNumber_1 : decode cX0_readNumber 1 = .ok (.lload_n 1, 1) := by decide +kernel
theorem dX0_readNumber_2 : decode cX0_readNumber 2 = .ok (.invokevirtual 41, 3) := by decide +kernel
theorem dX0_readNumber_5 : decode cX0_readNumber 5 = .ok (.lconst 0, 1) := by decide +kernel
theorem dX0_readNumber_6 : decode cX0_readNumber 6 = .ok (.lstore_n 3, 1) := by decide +kernel
theorem dX0_readNumber_7 : decode cX0_readNumber 7 = .ok (.iconst 3, 1) := by decide +kernel
theorem dX0_readNumber_8 : decode cX0_readNumber 8 = .ok (.istore 5, 2) := by decide +kernel
theorem dX0_readNumber_10 : decode cX0_readNumber 10 = .ok (.iload 5, 2) := by decide +kernel
theorem dX0_readNumber_12 : decode cX0_readNumber 12 = .ok (.ifCond .lt 25, 3) := by decide +kernel
theorem dX0_readNumber_15 : decode cX0_readNumber 15 = .ok (.lload_n 3, 1) := by decide +kernel
theorem dX0_readNumber_16 : decode cX0_readNumber 16 = .ok (.bipush 8, 2) := by decide +kernel
theorem dX0_readNumber_18 : decode cX0_readNumber 18 = .ok (.lshl, 1) := by decide +kernel
theorem dX0_readNumber_19 : decode cX0_readNumber 19 = .ok (.aload_n 0, 1) := by decide +kernel
theorem dX0_readNumber_20 : decode cX0_readNumber 20 = .ok (.lload_n 1, 1) := by decide +kernel
theorem dX0_readNumber_21 : decode cX0_readNumber 21 = .ok (.iload 5, 2) := by decide +kernel
theorem dX0_readNumber_23 : decode cX0_readNumber 23 = .ok (.i2l, 1) := by decide +kernel
theorem dX0_readNumber_24 : decode cX0_readNumber 24 = .ok (.ladd, 1) := by decide +kernel
theorem dX0_readNumber_25 : decode cX0_readNumber 25 = .ok (.invokevirtual 45, 3) := by decide +kernel
theorem dX0_readNumber_28 : decode cX0_readNumber 28 = .ok (.i2l, 1) := by decide +kernel
theorem dX0_readNumber_29 : decode cX0_readNumber 29 = .ok (.lor, 1) := by decide +kernel
theorem dX0_readNumber_30 : decode cX0_readNumber 30 = .ok (.lstore_n 3, 1) := by decide +kernel
theorem dX0_readNumber_31 : decode cX0_readNumber 31 = .ok (.iinc 5 (-1), 3) := by decide +kernel
theorem dX0_readNumber_34 : decode cX0_readNumber 34 = .ok (.goto (-24), 3) := by decide +kernel
theorem dX0_readNumber_37 : decode cX0_readNumber 37 = .ok (.lload_n 3, 1) := by decide +kernel
theorem dX0_readNumber_38 : decode cX0_readNumber 38 = .ok (.lreturn, 1) := by decide +kernel
set_option maxRecDepth 20000 in
theorem ggX0_writeNumber_X0_checkNumber : GoodIn wsX0_writeNumber wsX0_checkNumber := goodIn_ca (goodIn_r _ [5, 6, 7, 8, 9, 10, 11, 4, 12, 13, 14] (by decide +kernel) (by decide +kernel)) (goodIn_sub (fun _ h => List.mem_cons_of_mem _ (List.mem_append_right _ h)) (by decide +kernel))
set_option maxRecDepth 20000 in
theorem gX0_writeNumber_X0_checkNumber : GoodIn wsX0_writeNumber (wsV RX0 41 RX0 yX0_checkNumber wsX0_checkNumber) := goodIn_app (goodIn_of _ (by decide +kernel)) ggX0_writeNumber_X0_checkNumber
set_option maxRecDepth 20000 in
theorem ggX0_writeNumber_X0_write : GoodIn wsX0_writeNumber wsX0_write := goodIn_ca (goodIn_r _ [18, 6, 7, 19, 20, 21, 9, 10, 11, 4, 12, 13, 14, 22, 23, 24, 25, 26, 27, 28] (by decide +kernel) (by decide +kernel)) (goodIn_sub (fun _ h => List.mem_cons_of_mem _ (List.mem_append_right _ h)) (by decide +kernel))
set_option maxRecDepth 20000 in
theorem gX0_writeNumber_X0_write : GoodIn wsX0_writeNumber (wsV RX0 48 RX0 yX0_write wsX0_write) := goodIn_app (goodIn_of _ (by decide +kernel)) ggX0_writeNumber_X0_write
theorem dX0_writeNumber_0 : decode cX0_writeNumber 0 = .ok (.aload_n 0, 1) := by decide +kernel
theorem dX0_writeNumber_1 : decode cX0_writeNumber 1 = .ok (.lload_n 1, 1) := by decide +kernel
theorem dX0_writeNumber_2 : decode cX0_writeNumber 2 = .ok (.invokevirtual 41, 3) := by decide +kernel
theorem dX0_writeNumber_5 : decode cX0_writeNumber 5 = .ok (.iconst 0, 1) := by decide +kernel
theorem dX0_writeNumber_6 : decode cX0_writeNumber 6 = .ok (.istore 5, 2) := by decide +kernel
theorem dX0_writeNumber_8 : decode cX0_writeNumber 8 = .ok (.iload 5, 2) := by decide +kernel
theorem dX0_writeNumber_10 : decode cX0_writeNumber 10 = .ok (.iconst 4, 1) := by decide +kernel
theorem dX0_writeNumber_11 : decode cX0_writeNumber 11 = .ok (.if_icmp .ge 25, 3) := by decide +kernel
theorem dX0_writeNumber_14 : decode cX0_writeNumber 14 = .ok (.aload_n 0, 1) := by decide +kernel
theorem dX0_writeNumber_15 : decode cX0_writeNumber 15 = .ok (.lload_n 1, 1) := by decide +kernel
theorem dX0_writeNumber_16 : decode cX0_writeNumber 16 = .ok (.iload 5, 2) := by decide +kernel
theorem dX0_writeNumber_18 : decode cX0_writeNumber 18 = .ok (.i2l, 1) := by decide +kernel
theorem dX0_writeNumber_19 : decode cX0_writeNumber 19 = .ok (.ladd, 1) := by decide +kernel
theorem dX0_writeNumber_20 : decode cX0_writeNumber 20 = .ok (.lload_n 3, 1) := by decide +kernel
theorem dX0_writeNumber_21 : decode cX0_writeNumber 21 = .ok (.bipush 8, 2) := by decide +kernel
theorem dX0_writeNumber_23 : decode cX0_writeNumber 23 = .ok (.iload 5, 2) := by decide +kernel
theorem dX0_writeNumber_25 : decode cX0_writeNumber 25 = .ok (.imul, 1) := by decide +kernel
theorem dX0_writeNumber_26 : decode cX0_writeNumber 26 = .ok (.lushr, 1) := by decide +kernel
theorem dX0_writeNumber_27 : decode cX0_writeNumber 27 = .ok (.invokevirtual 48, 3) := by decide +kernel
theorem dX0_writeNumber_30 : decode cX0_writeNumber 30 = .ok (.iinc 5 1, 3) := by decide +kernel
theorem dX0_writeNumber_33 : decode cX0_writeNumber 33 = .ok (.goto (-25), 3) := by decide +kernel
theorem dX0_writeNumber_36 : decode cX0_writeNumber 36 = .ok (.return_, 1) := by decide +kernel
set_option maxRecDepth 20000 in
theorem ggX0_checkNumber_X0_has : GoodIn wsX0_checkNumber wsX0_has := goodIn_r _ [8, 9, 10] (by decide +kernel) (by decide +kernel)
set_option maxRecDepth 20000 in
theorem gX0_checkNumber_X0_has : GoodIn wsX0_checkNumber (wsV RX0 19 RX0 yX0_has wsX0_has) := goodIn_app (goodIn_of _ (by decide +kernel)) ggX0_checkNumber_X0_has
theorem dX0_checkNumber_0 : decode cX0_checkNumber 0 = .ok (.aload_n 0, 1) := by decide +kernel
theorem dX0_checkNumber_1 : decode cX0_checkNumber 1 = .ok (.lload_n 1, 1) := by decide +kernel
theorem dX0_checkNumber_2 : decode cX0_checkNumber 2 = .ok (.invokevirtual 19, 3) := by decide +kernel
theorem dX0_checkNumber_5 : decode cX0_checkNumber 5 = .ok (.ifCond .eq 15, 3) := by decide +kernel
theorem dX0_checkNumber_8 : decode cX0_checkNumber 8 = .ok (.aload_n 0, 1) := by decide +kernel
theorem dX0_checkNumber_9 : decode cX0_checkNumber 9 = .ok (.lload_n 1, 1) := by decide +kernel
theorem dX0_checkNumber_10 : decode cX0_checkNumber 10 = .ok (.ldc2_w 52, 3) := by decide +kernel
theorem dX0_checkNumber_13 : decode cX0_checkNumber 13 = .ok (.ladd, 1) := by decide +kernel
theorem dX0_checkNumber_14 : decode cX0_checkNumber 14 = .ok (.invokevirtual 19, 3) := by decide +kernel
theorem dX0_checkNumber_17 : decode cX0_checkNumber 17 = .ok (.ifCond .ne 13, 3) := by decide +kernel
theorem dX0_checkNumber_20 : decode cX0_checkNumber 20 = .ok (.new 23, 3) := by decide +kernel
theorem dX0_checkNumber_23 : decode cX0_checkNumber 23 = .ok (.dup, 1) := by decide +kernel
theorem dX0_checkNumber_24 : decode cX0_checkNumber 24 = .ok (.ldc 54, 2) := by decide +kernel
theorem dX0_checkNumber_26 : decode cX0_checkNumber 26 = .ok (.invokespecial 27, 3) := by decide +kernel
theorem dX0_checkNumber_29 : decode cX0_checkNumber 29 = .ok (.athrow, 1) := by decide +kernel
theorem dX0_checkNumber_30 : decode cX0_checkNumber 30 = .ok (.return_, 1) := by decide +kernel
theorem dX0_wordOf_0 : decode cX0_wordOf 0 = .ok (.lload_n 0, 1) := by decide +kernel
theorem dX0_wordOf_1 : decode cX0_wordOf 1 = .ok (.ldc2_w 15, 3) := by decide +kernel
theorem dX0_wordOf_4 : decode cX0_wordOf 4 = .ok (.lsub, 1) := by decide +kernel
theorem dX0_wordOf_5 : decode cX0_wordOf 5 = .ok (.l2i, 1) := by decide +kernel
theorem dX0_wordOf_6 : decode cX0_wordOf 6 = .ok (.bipush 8, 2) := by decide +kernel
theorem dX0_wordOf_8 : decode cX0_wordOf 8 = .ok (.idiv, 1) := by decide +kernel
theorem dX0_wordOf_9 : decode cX0_wordOf 9 = .ok (.ireturn, 1) := by decide +kernel
theorem dX0_shiftOf_0 : decode cX0_shiftOf 0 = .ok (.lload_n 0, 1) := by decide +kernel
theorem dX0_shiftOf_1 : decode cX0_shiftOf 1 = .ok (.ldc2_w 15, 3) := by decide +kernel
theorem dX0_shiftOf_4 : decode cX0_shiftOf 4 = .ok (.lsub, 1) := by decide +kernel
theorem dX0_shiftOf_5 : decode cX0_shiftOf 5 = .ok (.l2i, 1) := by decide +kernel
theorem dX0_shiftOf_6 : decode cX0_shiftOf 6 = .ok (.bipush 8, 2) := by decide +kernel
theorem dX0_shiftOf_8 : decode cX0_shiftOf 8 = .ok (.irem, 1) := by decide +kernel
theorem dX0_shiftOf_9 : decode cX0_shiftOf 9 = .ok (.bipush 8, 2) := by decide +kernel
theorem dX0_shiftOf_11 : decode cX0_shiftOf 11 = .ok (.imul, 1) := by decide +kernel
theorem dX0_shiftOf_12 : decode cX0_shiftOf 12 = .ok (.ireturn, 1) := by decide +kernel
set_option maxRecDepth 20000 in
theorem ggX1_init_X0_init : GoodIn wsX1_init wsX0_init := goodIn_r _ [13, 14, 2, 3, 15, 16, 17] (by decide +kernel) (by decide +kernel)
set_option maxRecDepth 20000 in
theorem gX1_init_X0_init_n11 : GoodIn wsX1_init (wsX0_init) := ggX1_init_X0_init
theorem dX1_init_0 : decode cX1_init 0 = .ok (.aload_n 0, 1) := by decide +kernel
theorem dX1_init_1 : decode cX1_init 1 = .ok (.invokespecial 3, 3) := by decide +kernel
theorem dX1_init_4 : decode cX1_init 4 = .ok (.aload_n 0, 1) := by decide +kernel
theorem dX1_init_5 : decode cX1_init 5 = .ok (.new 9, 3) := by decide +kernel
theorem dX1_init_8 : decode cX1_init 8 = .ok (.dup, 1) := by decide +kernel
theorem dX1_init_9 : decode cX1_init 9 = .ok (.invokespecial 11, 3) := by decide +kernel
theorem dX1_init_12 : decode cX1_init 12 = .ok (.putfield 12, 3) := by decide +kernel
theorem dX1_init_15 : decode cX1_init 15 = .ok (.aload_n 0, 1) := by decide +kernel
theorem dX1_init_16 : decode cX1_init 16 = .ok (.ldc2_w 16, 3) := by decide +kernel
theorem dX1_init_19 : decode cX1_init 19 = .ok (.putfield 18, 3) := by decide +kernel
theorem dX1_init_22 : decode cX1_init 22 = .ok (.aload_n 0, 1) := by decide +kernel
theorem dX1_init_23 : decode cX1_init 23 = .ok (.ldc2_w 22, 3) := by decide +kernel
theorem dX1_init_26 : decode cX1_init 26 = .ok (.putfield 24, 3) := by decide +kernel
theorem dX1_init_29 : decode cX1_init 29 = .ok (.return_, 1) := by decide +kernel
set_option maxRecDepth 20000 in
theorem ggX1_allocate_X1_unsigned : GoodIn wsX1_allocate wsX1_unsigned := goodIn_r _ [4, 5] (by decide +kernel) (by decide +kernel)
set_option maxRecDepth 20000 in
theorem gX1_allocate_X1_unsigned : GoodIn wsX1_allocate (va_wsS RX1 27 yX1_unsigned wsX1_unsigned) := goodIn_app (goodIn_of _ (by decide +kernel)) ggX1_allocate_X1_unsigned
set_option maxRecDepth 20000 in
theorem ggX1_allocate_X1_take : GoodIn wsX1_allocate wsX1_take := goodIn_ca (goodIn_r _ [9, 10, 11, 12, 13, 14, 15, 16, 3, 17, 18, 19, 20, 21, 22, 23, 24, 25, 26, 27, 28, 29, 30, 31, 32, 33, 34, 35, 36, 37, 38, 39, 40, 41, 42, 43, 44, 45, 46, 47, 48, 49, 50, 51, 52, 53, 54, 55, 56, 57, 58, 59, 60, 61, 62, 63, 64, 65, 66, 67, 68, 69, 70, 71, 72, 73, 74, 75, 76, 77, 78, 79, 80, 81, 82, 83, 84, 85, 86, 87, 88, 89, 90, 91, 92, 93, 94, 95, 96, 97, 98] (by decide +kernel) (by decide +kernel)) (goodIn_sub (fun _ h => List.mem_cons_of_mem _ (List.mem_append_right _ h)) (by decide +kernel))
set_option maxRecDepth 20000 in
theorem gX1_allocate_X1_take : GoodIn wsX1_allocate (wsV RX1 31 RX1 yX1_take wsX1_take) := goodIn_app (goodIn_of _ (by decide +kernel)) ggX1_allocate_X1_take
theorem dX1_allocate_0 : decode cX1_allocate 0 = .ok (.aload_n 0, 1) := by decide +kernel
theorem dX1_allocate_1 : decode cX1_allocate 1 = .ok (.iload_n 1, 1) := by decide +kernel
theorem dX1_allocate_2 : decode cX1_allocate 2 = .ok (.invokestatic 27, 3) := by decide +kernel
theorem dX1_allocate_5 : decode cX1_allocate 5 = .ok (.invokevirtual 31, 3) := by decide +kernel
theorem dX1_allocate_8 : decode cX1_allocate 8 = .ok (.l2i, 1) := by decide +kernel
theorem dX1_allocate_9 : decode cX1_allocate 9 = .ok (.ireturn, 1) := by decide +kernel
set_option maxRecDepth 20000 in
theorem ggX1_cleared_X1_unsigned : GoodIn wsX1_cleared wsX1_unsigned := goodIn_r _ [5, 6] (by decide +kernel) (by decide +kernel)
set_option maxRecDepth 20000 in
theorem gX1_cleared_X1_unsigned : GoodIn wsX1_cleared (va_wsS RX1 27 yX1_unsigned wsX1_unsigned) := goodIn_app (goodIn_of _ (by decide +kernel)) ggX1_cleared_X1_unsigned
set_option maxRecDepth 20000 in
theorem ggX1_cleared_X1_take : GoodIn wsX1_cleared wsX1_take := goodIn_ca (goodIn_r _ [10, 11, 1, 12, 13, 14, 15, 16, 4, 17, 18, 19, 20, 21, 22, 23, 24, 25, 26, 27, 28, 29, 30, 31, 32, 33, 34, 35, 36, 37, 38, 39, 40, 41, 42, 43, 44, 45, 46, 47, 48, 49, 50, 51, 52, 53, 54, 55, 56, 57, 58, 59, 60, 61, 62, 63, 64, 65, 66, 67, 68, 69, 70, 71, 72, 73, 74, 75, 76, 77, 78, 79, 80, 81, 82, 83, 84, 85, 86, 87, 88, 89, 90, 91, 92, 93, 94, 100, 101, 102, 103] (by decide +kernel) (by decide +kernel)) (goodIn_sub (fun _ h => List.mem_cons_of_mem _ (List.mem_append_right _ h)) (by decide +kernel))
set_option maxRecDepth 20000 in
theorem gX1_cleared_X1_take : GoodIn wsX1_cleared (wsV RX1 31 RX1 yX1_take wsX1_take) := goodIn_app (goodIn_of _ (by decide +kernel)) ggX1_cleared_X1_take
set_option maxRecDepth 20000 in
theorem ggX1_cleared_X1_clear : GoodIn wsX1_cleared wsX1_clear := goodIn_ca (goodIn_r _ [98, 33, 99, 86, 87, 38, 88, 44, 45, 57, 89, 90, 47, 48, 49, 50, 51, 52, 58, 59, 60, 61, 62, 63, 100, 101, 102, 103] (by decide +kernel) (by decide +kernel)) (goodIn_sub (fun _ h => List.mem_cons_of_mem _ (List.mem_append_right _ h)) (by decide +kernel))
set_option maxRecDepth 20000 in
theorem gX1_cleared_X1_clear : GoodIn wsX1_cleared (wsV RX1 37 RX1 yX1_clear wsX1_clear) := goodIn_app (goodIn_of _ (by decide +kernel)) ggX1_cleared_X1_clear
theorem dX1_cleared_0 : decode cX1_cleared 0 = .ok (.iload_n 1, 1) := by decide +kernel
theorem dX1_cleared_1 : decode cX1_cleared 1 = .ok (.invokestatic 27, 3) := by decide +kernel
theorem dX1_cleared_4 : decode cX1_cleared 4 = .ok (.iload_n 2, 1) := by decide +kernel
theorem dX1_cleared_5 : decode cX1_cleared 5 = .ok (.invokestatic 27, 3) := by decide +kernel
theorem dX1_cleared_8 : decode cX1_cleared 8 = .ok (.lmul, 1) := by decide +kernel
theorem dX1_cleared_9 : decode cX1_cleared 9 = .ok (.lstore_n 3, 1) := by decide +kernel
theorem dX1_cleared_10 : decode cX1_cleared 10 = .ok (.lload_n 3, 1) := by decide +kernel
theorem dX1_cleared_11 : decode cX1_cleared 11 = .ok (.lconst 0, 1) := by decide +kernel
theorem dX1_cleared_12 : decode cX1_cleared 12 = .ok (.lcmp, 1) := by decide +kernel
theorem dX1_cleared_13 : decode cX1_cleared 13 = .ok (.ifCond .lt 11, 3) := by decide +kernel
theorem dX1_cleared_16 : decode cX1_cleared 16 = .ok (.lload_n 3, 1) := by decide +kernel
theorem dX1_cleared_17 : decode cX1_cleared 17 = .ok (.ldc2_w 35, 3) := by decide +kernel
theorem dX1_cleared_20 : decode cX1_cleared 20 = .ok (.lcmp, 1) := by decide +kernel
theorem dX1_cleared_21 : decode cX1_cleared 21 = .ok (.ifCond .le 5, 3) := by decide +kernel
theorem dX1_cleared_24 : decode cX1_cleared 24 = .ok (.iconst 0, 1) := by decide +kernel
theorem dX1_cleared_25 : decode cX1_cleared 25 = .ok (.ireturn, 1) := by decide +kernel
theorem dX1_cleared_26 : decode cX1_cleared 26 = .ok (.aload_n 0, 1) := by decide +kernel
theorem dX1_cleared_27 : decode cX1_cleared 27 = .ok (.lload_n 3, 1) := by decide +kernel
theorem dX1_cleared_28 : decode cX1_cleared 28 = .ok (.invokevirtual 31, 3) := by decide +kernel
theorem dX1_cleared_31 : decode cX1_cleared 31 = .ok (.lstore 5, 2) := by decide +kernel
theorem dX1_cleared_33 : decode cX1_cleared 33 = .ok (.lload 5, 2) := by decide +kernel
theorem dX1_cleared_35 : decode cX1_cleared 35 = .ok (.lconst 0, 1) := by decide +kernel
theorem dX1_cleared_36 : decode cX1_cleared 36 = .ok (.lcmp, 1) := by decide +kernel
theorem dX1_cleared_37 : decode cX1_cleared 37 = .ok (.ifCond .eq 10, 3) := by decide +kernel
theorem dX1_cleared_40 : decode cX1_cleared 40 = .ok (.aload_n 0, 1) := by decide +kernel
theorem dX1_cleared_41 : decode cX1_cleared 41 = .ok (.lload 5, 2) := by decide +kernel
theorem dX1_cleared_43 : decode cX1_cleared 43 = .ok (.lload_n 3, 1) := by decide +kernel
theorem dX1_cleared_44 : decode cX1_cleared 44 = .ok (.invokevirtual 37, 3) := by decide +kernel
theorem dX1_cleared_47 : decode cX1_cleared 47 = .ok (.lload 5, 2) := by decide +kernel
theorem dX1_cleared_49 : decode cX1_cleared 49 = .ok (.l2i, 1) := by decide +kernel
theorem dX1_cleared_50 : decode cX1_cleared 50 = .ok (.ireturn, 1) := by decide +kernel
set_option maxRecDepth 20000 in
theorem ggX1_resize_X1_unsigned : GoodIn wsX1_resize wsX1_unsigned := goodIn_r _ [4, 5] (by decide +kernel) (by decide +kernel)
set_option maxRecDepth 20000 in
theorem gX1_resize_X1_unsigned : GoodIn wsX1_resize (va_wsS RX1 27 yX1_unsigned wsX1_unsigned) := goodIn_app (goodIn_of _ (by decide +kernel)) ggX1_resize_X1_unsigned
set_option maxRecDepth 20000 in
theorem ggX1_resize_X1_take : GoodIn wsX1_resize wsX1_take := goodIn_ca (goodIn_r _ [9, 10, 11, 12, 13, 14, 15, 16, 3, 17, 18, 19, 20, 21, 22, 23, 24, 25, 26, 27, 28, 29, 30, 31, 32, 33, 34, 35, 36, 37, 38, 39, 40, 41, 42, 43, 44, 45, 46, 47, 48, 49, 50, 51, 52, 53, 54, 55, 56, 57, 58, 59, 60, 61, 62, 63, 64, 65, 66, 67, 68, 69, 70, 71, 72, 73, 74, 75, 76, 77, 78, 79, 80, 81, 82, 83, 84, 85, 86, 87, 88, 89, 90, 91, 92, 93, 94, 118, 119, 120, 121] (by decide +kernel) (by decide +kernel)) (goodIn_sub (fun _ h => List.mem_cons_of_mem _ (List.mem_append_left _ (List.mem_append_right _ h))) (by decide +kernel))
set_option maxRecDepth 20000 in
theorem gX1_resize_X1_take : GoodIn wsX1_resize (wsV RX1 31 RX1 yX1_take wsX1_take) := goodIn_app (goodIn_of _ (by decide +kernel)) ggX1_resize_X1_take
set_option maxRecDepth 20000 in
theorem ggX1_resize_X1_takenBlock : GoodIn wsX1_resize wsX1_takenBlock := goodIn_ca (goodIn_ca (goodIn_r _ [98, 99, 45, 28, 12, 10, 29, 30, 31, 3, 32, 33, 34, 35, 36, 37, 38, 39, 40, 41, 42, 43, 44, 46, 47, 48, 49, 50, 51, 52, 53, 54, 55, 56, 57, 58, 59, 60, 61, 62, 63, 68, 69, 70, 71, 118, 119, 120, 121] (by decide +kernel) (by decide +kernel)) (goodIn_sub (fun _ h => List.mem_cons_of_mem _ (List.mem_append_right _ h)) (by decide +kernel))) (goodIn_sub (fun _ h => List.mem_cons_of_mem _ (List.mem_append_left _ (List.mem_append_right _ h))) (by decide +kernel))
set_option maxRecDepth 20000 in
theorem gX1_resize_X1_takenBlock : GoodIn wsX1_resize (wsV RX1 41 RX1 yX1_takenBlock wsX1_takenBlock) := goodIn_app (goodIn_of _ (by decide +kernel)) ggX1_resize_X1_takenBlock
set_option maxRecDepth 20000 in
theorem ggX1_resize_X1_giveBack : GoodIn wsX1_resize wsX1_giveBack := goodIn_ca (goodIn_r _ [103, 12, 64, 65, 66, 3, 67, 33, 35, 36, 37, 38, 39, 40, 41, 42, 43, 44, 45, 46, 47, 48, 49, 50, 51, 52, 53, 54, 55, 56, 57, 58, 59, 60, 61, 62, 63, 77, 78, 79, 80, 34, 81, 82, 83, 84, 85, 86, 87, 88, 89, 90, 104, 105, 106, 107, 10, 68, 69, 70, 71, 29, 30, 31, 32, 108, 109, 110, 111, 28, 118, 119, 120, 121] (by decide +kernel) (by decide +kernel)) (goodIn_sub (fun _ h => List.mem_cons_of_mem _ (List.mem_append_left _ (List.mem_append_right _ h))) (by decide +kernel))
set_option maxRecDepth 20000 in
theorem gX1_resize_X1_giveBack : GoodIn wsX1_resize (wsV RX1 44 RX1 yX1_giveBack wsX1_giveBack) := goodIn_app (goodIn_of _ (by decide +kernel)) ggX1_resize_X1_giveBack
set_option maxRecDepth 20000 in
theorem ggX1_resize_X1_size : GoodIn wsX1_resize wsX1_size := goodIn_ca (goodIn_r _ [67, 33, 35, 36, 37, 38, 39, 40, 41, 42, 43, 44, 45, 46, 47, 48, 49, 50, 51, 52, 53, 54, 55, 56, 57, 58, 59, 60, 61, 62, 63, 118, 119, 120, 121] (by decide +kernel) (by decide +kernel)) (goodIn_sub (fun _ h => List.mem_cons_of_mem _ (List.mem_append_left _ (List.mem_append_right _ h))) (by decide +kernel))
set_option maxRecDepth 20000 in
theorem gX1_resize_X1_size : GoodIn wsX1_resize (wsV RX1 48 RX1 yX1_size wsX1_size) := goodIn_app (goodIn_of _ (by decide +kernel)) ggX1_resize_X1_size
set_option maxRecDepth 20000 in
theorem ggX1_resize_X1_rounded : GoodIn wsX1_resize wsX1_rounded := goodIn_r _ [17, 10, 18, 19, 20, 21, 22, 23] (by decide +kernel) (by decide +kernel)
set_option maxRecDepth 20000 in
theorem gX1_resize_X1_rounded : GoodIn wsX1_resize (va_wsS RX1 51 yX1_rounded wsX1_rounded) := goodIn_app (goodIn_of _ (by decide +kernel)) ggX1_resize_X1_rounded
set_option maxRecDepth 20000 in
theorem ggX1_resize_X1_copy : GoodIn wsX1_resize wsX1_copy := goodIn_ca (goodIn_r _ [115, 33, 116, 54, 55, 38, 56, 44, 45, 57, 47, 48, 49, 50, 51, 52, 58, 59, 60, 61, 62, 63, 117, 86, 87, 88, 89, 90, 118, 119, 120, 121] (by decide +kernel) (by decide +kernel)) (goodIn_sub (fun _ h => List.mem_cons_of_mem _ (List.mem_append_left _ (List.mem_append_right _ h))) (by decide +kernel))
set_option maxRecDepth 20000 in
theorem gX1_resize_X1_copy : GoodIn wsX1_resize (wsV RX1 54 RX1 yX1_copy wsX1_copy) := goodIn_app (goodIn_of _ (by decide +kernel)) ggX1_resize_X1_copy
theorem dX1_resize_0 : decode cX1_resize 0 = .ok (.iload_n 1, 1) := by decide +kernel
theorem dX1_resize_1 : decode cX1_resize 1 = .ok (.ifCond .ne 13, 3) := by decide +kernel
theorem dX1_resize_4 : decode cX1_resize 4 = .ok (.aload_n 0, 1) := by decide +kernel
theorem dX1_resize_5 : decode cX1_resize 5 = .ok (.iload_n 2, 1) := by decide +kernel
theorem dX1_resize_6 : decode cX1_resize 6 = .ok (.invokestatic 27, 3) := by decide +kernel
theorem dX1_resize_9 : decode cX1_resize 9 = .ok (.invokevirtual 31, 3) := by decide +kernel
theorem dX1_resize_12 : decode cX1_resize 12 = .ok (.l2i, 1) := by decide +kernel
theorem dX1_resize_13 : decode cX1_resize 13 = .ok (.ireturn, 1) := by decide +kernel
theorem dX1_resize_14 : decode cX1_resize 14 = .ok (.aload_n 0, 1) := by decide +kernel
theorem dX1_resize_15 : decode cX1_resize 15 = .ok (.iload_n 1, 1) := by decide +kernel
theorem dX1_resize_16 : decode cX1_resize 16 = .ok (.invokestatic 27, 3) := by decide +kernel
theorem dX1_resize_19 : decode cX1_resize 19 = .ok (.invokevirtual 41, 3) := by decide +kernel
theorem dX1_resize_22 : decode cX1_resize 22 = .ok (.lstore_n 3, 1) := by decide +kernel
theorem dX1_resize_23 : decode cX1_resize 23 = .ok (.iload_n 2, 1) := by decide +kernel
theorem dX1_resize_24 : decode cX1_resize 24 = .ok (.ifCond .ne 10, 3) := by decide +kernel
theorem dX1_resize_27 : decode cX1_resize 27 = .ok (.aload_n 0, 1) := by decide +kernel
theorem dX1_resize_28 : decode cX1_resize 28 = .ok (.lload_n 3, 1) := by decide +kernel
theorem dX1_resize_29 : decode cX1_resize 29 = .ok (.invokevirtual 44, 3) := by decide +kernel
theorem dX1_resize_32 : decode cX1_resize 32 = .ok (.iconst 0, 1) := by decide +kernel
theorem dX1_resize_33 : decode cX1_resize 33 = .ok (.ireturn, 1) := by decide +kernel
theorem dX1_resize_34 : decode cX1_resize 34 = .ok (.aload_n 0, 1) := by decide +kernel
theorem dX1_resize_35 : decode cX1_resize 35 = .ok (.lload_n 3, 1) := by decide +kernel
theorem dX1_resize_36 : decode cX1_resize 36 = .ok (.invokevirtual 48, 3) := by decide +kernel
theorem dX1_resize_39 : decode cX1_resize 39 = .ok (.lstore 5, 2) := by decide +kernel
theorem dX1_resize_41 : decode cX1_resize 41 = .ok (.lload 5, 2) := by decide +kernel
theorem dX1_resize_43 : decode cX1_resize 43 = .ok (.iload_n 2, 1) := by decide +kernel
theorem dX1_resize_44 : decode cX1_resize 44 = .ok (.invokestatic 27, 3) := by decide +kernel
theorem dX1_resize_47 : decode cX1_resize 47 = .ok (.invokestatic 51, 3) := by decide +kernel
theorem dX1_resize_50 : decode cX1_resize 50 = .ok (.lcmp, 1) := by decide +kernel
theorem dX1_resize_51 : decode cX1_resize 51 = .ok (.ifCond .lt 5, 3) := by decide +kernel
theorem dX1_resize_54 : decode cX1_resize 54 = .ok (.iload_n 1, 1) := by decide +kernel
theorem dX1_resize_55 : decode cX1_resize 55 = .ok (.ireturn, 1) := by decide +kernel
theorem dX1_resize_56 : decode cX1_resize 56 = .ok (.aload_n 0, 1) := by decide +kernel
theorem dX1_resize_57 : decode cX1_resize 57 = .ok (.iload_n 2, 1) := by decide +kernel
theorem dX1_resize_58 : decode cX1_resize 58 = .ok (.invokestatic 27, 3) := by decide +kernel
theorem dX1_resize_61 : decode cX1_resize 61 = .ok (.invokevirtual 31, 3) := by decide +kernel
theorem dX1_resize_64 : decode cX1_resize 64 = .ok (.lstore 7, 2) := by decide +kernel
theorem dX1_resize_66 : decode cX1_resize 66 = .ok (.lload 7, 2) := by decide +kernel
theorem dX1_resize_68 : decode cX1_resize 68 = .ok (.lconst 0, 1) := by decide +kernel
theorem dX1_resize_69 : decode cX1_resize 69 = .ok (.lcmp, 1) := by decide +kernel
theorem dX1_resize_70 : decode cX1_resize 70 = .ok (.ifCond .eq 27, 3) := by decide +kernel
theorem dX1_resize_73 : decode cX1_resize 73 = .ok (.aload_n 0, 1) := by decide +kernel
theorem dX1_resize_74 : decode cX1_resize 74 = .ok (.iload_n 1, 1) := by decide +kernel
theorem dX1_resize_75 : decode cX1_resize 75 = .ok (.invokestatic 27, 3) := by decide +kernel
theorem dX1_resize_78 : decode cX1_resize 78 = .ok (.lload 7, 2) := by decide +kernel
theorem dX1_resize_80 : decode cX1_resize 80 = .ok (.lload 5, 2) := by decide +kernel
theorem dX1_resize_82 : decode cX1_resize 82 = .ok (.invokevirtual 54, 3) := by decide +kernel
theorem dX1_resize_85 : decode cX1_resize 85 = .ok (.aload_n 0, 1) := by decide +kernel
theorem dX1_resize_86 : decode cX1_resize 86 = .ok (.aload_n 0, 1) := by decide +kernel
theorem dX1_resize_87 : decode cX1_resize 87 = .ok (.iload_n 1, 1) := by decide +kernel
theorem dX1_resize_88 : decode cX1_resize 88 = .ok (.invokestatic 27, 3) := by decide +kernel
theorem dX1_resize_91 : decode cX1_resize 91 = .ok (.invokevirtual 41, 3) := by decide +kernel
theorem dX1_resize_94 : decode cX1_resize 94 = .ok (.invokevirtual 44, 3) := by decide +kernel
theorem dX1_resize_97 : decode cX1_resize 97 = .ok (.lload 7, 2) := by decide +kernel
theorem dX1_resize_99 : decode cX1_resize 99 = .ok (.l2i, 1) := by decide +kernel
theorem dX1_resize_100 : decode cX1_resize 100 = .ok (.ireturn, 1) := by decide +kernel
set_option maxRecDepth 20000 in
theorem ggX1_free_X1_unsigned : GoodIn wsX1_free wsX1_unsigned := goodIn_r _ [4, 5] (by decide +kernel) (by decide +kernel)
set_option maxRecDepth 20000 in
theorem gX1_free_X1_unsigned : GoodIn wsX1_free (va_wsS RX1 27 yX1_unsigned wsX1_unsigned) := goodIn_app (goodIn_of _ (by decide +kernel)) ggX1_free_X1_unsigned
set_option maxRecDepth 20000 in
theorem ggX1_free_X1_takenBlock : GoodIn wsX1_free wsX1_takenBlock := goodIn_ca (goodIn_ca (goodIn_r _ [9, 10, 11, 12, 13, 14, 15, 16, 17, 3, 18, 19, 20, 21, 22, 23, 24, 25, 26, 27, 28, 29, 30, 31, 32, 33, 34, 35, 36, 37, 38, 39, 40, 41, 42, 43, 44, 45, 46, 47, 48, 49, 50, 51, 52, 83, 84, 85, 86] (by decide +kernel) (by decide +kernel)) (goodIn_sub (fun _ h => List.mem_cons_of_mem _ (List.mem_append_left _ (List.mem_append_right _ h))) (by decide +kernel))) (goodIn_sub (fun _ h => List.mem_cons_of_mem _ (List.mem_append_right _ h)) (by decide +kernel))
set_option maxRecDepth 20000 in
theorem gX1_free_X1_takenBlock : GoodIn wsX1_free (wsV RX1 41 RX1 yX1_takenBlock wsX1_takenBlock) := goodIn_app (goodIn_of _ (by decide +kernel)) ggX1_free_X1_takenBlock
set_option maxRecDepth 20000 in
theorem ggX1_free_X1_giveBack : GoodIn wsX1_free wsX1_giveBack := goodIn_ca (goodIn_r _ [56, 13, 57, 58, 59, 3, 60, 19, 21, 22, 23, 24, 25, 26, 27, 28, 29, 30, 11, 31, 32, 33, 34, 35, 36, 37, 38, 39, 40, 41, 42, 43, 44, 45, 46, 47, 48, 61, 62, 63, 64, 20, 65, 66, 67, 68, 69, 70, 71, 72, 73, 74, 75, 76, 77, 78, 14, 49, 50, 51, 52, 15, 16, 17, 18, 79, 80, 81, 82, 12, 83, 84, 85, 86] (by decide +kernel) (by decide +kernel)) (goodIn_sub (fun _ h => List.mem_cons_of_mem _ (List.mem_append_right _ h)) (by decide +kernel))
set_option maxRecDepth 20000 in
theorem gX1_free_X1_giveBack : GoodIn wsX1_free (wsV RX1 44 RX1 yX1_giveBack wsX1_giveBack) := goodIn_app (goodIn_of _ (by decide +kernel)) ggX1_free_X1_giveBack
theorem dX1_free_0 : decode cX1_free 0 = .ok (.iload_n 1, 1) := by decide +kernel
theorem dX1_free_1 : decode cX1_free 1 = .ok (.ifCond .ne 5, 3) := by decide +kernel
theorem dX1_free_4 : decode cX1_free 4 = .ok (.iconst 0, 1) := by decide +kernel
theorem dX1_free_5 : decode cX1_free 5 = .ok (.ireturn, 1) := by decide +kernel
theorem dX1_free_6 : decode cX1_free 6 = .ok (.aload_n 0, 1) := by decide +kernel
theorem dX1_free_7 : decode cX1_free 7 = .ok (.aload_n 0, 1) := by decide +kernel
theorem dX1_free_8 : decode cX1_free 8 = .ok (.iload_n 1, 1) := by decide +kernel
theorem dX1_free_9 : decode cX1_free 9 = .ok (.invokestatic 27, 3) := by decide +kernel
theorem dX1_free_12 : decode cX1_free 12 = .ok (.invokevirtual 41, 3) := by decide +kernel
theorem dX1_free_15 : decode cX1_free 15 = .ok (.invokevirtual 44, 3) := by decide +kernel
theorem dX1_free_18 : decode cX1_free 18 = .ok (.iconst 1, 1) := by decide +kernel
theorem dX1_free_19 : decode cX1_free 19 = .ok (.ireturn, 1) := by decide +kernel
theorem dX1_stack_0 : decode cX1_stack 0 = .ok (.iload_n 1, 1) := by decide +kernel
theorem dX1_stack_1 : decode cX1_stack 1 = .ok (.sipush 1024, 3) := by decide +kernel
theorem dX1_stack_4 : decode cX1_stack 4 = .ok (.if_icmp .lt 19, 3) := by decide +kernel
theorem dX1_stack_7 : decode cX1_stack 7 = .ok (.iload_n 1, 1) := by decide +kernel
theorem dX1_stack_8 : decode cX1_stack 8 = .ok (.ldc 58, 2) := by decide +kernel
theorem dX1_stack_10 : decode cX1_stack 10 = .ok (.if_icmp .gt 13, 3) := by decide +kernel
theorem dX1_stack_13 : decode cX1_stack 13 = .ok (.iload_n 1, 1) := by decide +kernel
theorem dX1_stack_14 : decode cX1_stack 14 = .ok (.i2l, 1) := by decide +kernel
theorem dX1_stack_15 : decode cX1_stack 15 = .ok (.aload_n 0, 1) := by decide +kernel
theorem dX1_stack_16 : decode cX1_stack 16 = .ok (.getfield 18, 3) := by decide +kernel
theorem dX1_stack_19 : decode cX1_stack 19 = .ok (.lcmp, 1) := by decide +kernel
theorem dX1_stack_20 : decode cX1_stack 20 = .ok (.ifCond .ge 5, 3) := by decide +kernel
theorem dX1_stack_23 : decode cX1_stack 23 = .ok (.iconst 0, 1) := by decide +kernel
theorem dX1_stack_24 : decode cX1_stack 24 = .ok (.ireturn, 1) := by decide +kernel
theorem dX1_stack_25 : decode cX1_stack 25 = .ok (.aload_n 0, 1) := by decide +kernel
theorem dX1_stack_26 : decode cX1_stack 26 = .ok (.iload_n 1, 1) := by decide +kernel
theorem dX1_stack_27 : decode cX1_stack 27 = .ok (.i2l, 1) := by decide +kernel
theorem dX1_stack_28 : decode cX1_stack 28 = .ok (.putfield 24, 3) := by decide +kernel
theorem dX1_stack_31 : decode cX1_stack 31 = .ok (.iconst 1, 1) := by decide +kernel
theorem dX1_stack_32 : decode cX1_stack 32 = .ok (.ireturn, 1) := by decide +kernel
set_option maxRecDepth 20000 in
theorem ggX1_put_X1_unsigned : GoodIn wsX1_put wsX1_unsigned := goodIn_r _ [5, 6] (by decide +kernel) (by decide +kernel)
set_option maxRecDepth 20000 in
theorem gX1_put_X1_unsigned : GoodIn wsX1_put (va_wsS RX1 27 yX1_unsigned wsX1_unsigned) := goodIn_app (goodIn_of _ (by decide +kernel)) ggX1_put_X1_unsigned
set_option maxRecDepth 20000 in
theorem ggX1_put_X0_has : GoodIn wsX1_put wsX0_has := goodIn_r _ [11, 12, 13] (by decide +kernel) (by decide +kernel)
set_option maxRecDepth 20000 in
theorem gX1_put_X0_has : GoodIn wsX1_put (wsV RX1 59 RX0 yX0_has wsX0_has) := goodIn_app (goodIn_of _ (by decide +kernel)) ggX1_put_X0_has
set_option maxRecDepth 20000 in
theorem ggX1_put_X0_read : GoodIn wsX1_put wsX0_read := goodIn_ca (goodIn_r _ [17, 18, 19, 20, 21, 8, 9, 10, 11, 12, 13, 22, 23, 24, 25, 26, 27, 37] (by decide +kernel) (by decide +kernel)) (goodIn_sub (fun _ h => List.mem_cons_of_mem _ (List.mem_append_right _ h)) (by decide +kernel))
set_option maxRecDepth 20000 in
theorem gX1_put_X0_read : GoodIn wsX1_put (wsV RX1 63 RX0 yX0_read wsX0_read) := goodIn_app (goodIn_of _ (by decide +kernel)) ggX1_put_X0_read
set_option maxRecDepth 20000 in
theorem ggX1_put_X0_write : GoodIn wsX1_put wsX0_write := goodIn_ca (goodIn_r _ [31, 18, 19, 20, 32, 33, 21, 8, 9, 10, 11, 12, 13, 22, 23, 24, 25, 26, 27, 37] (by decide +kernel) (by decide +kernel)) (goodIn_sub (fun _ h => List.mem_cons_of_mem _ (List.mem_append_right _ h)) (by decide +kernel))
set_option maxRecDepth 20000 in
theorem gX1_put_X0_write : GoodIn wsX1_put (wsV RX1 67 RX0 yX0_write wsX0_write) := goodIn_app (goodIn_of _ (by decide +kernel)) ggX1_put_X0_write
theorem dX1_put_0 : decode cX1_put 0 = .ok (.iload_n 1, 1) := by decide +kernel
theorem dX1_put_1 : decode cX1_put 1 = .ok (.invokestatic 27, 3) := by decide +kernel
theorem dX1_put_4 : decode cX1_put 4 = .ok (.lstore_n 3, 1) := by decide +kernel
theorem dX1_put_5 : decode cX1_put 5 = .ok (.aload_n 0, 1) := by decide +kernel
theorem dX1_put_6 : decode cX1_put 6 = .ok (.getfield 12, 3) := by decide +kernel
theorem dX1_put_9 : decode cX1_put 9 = .ok (.lload_n 3, 1) := by decide +kernel
theorem dX1_put_10 : decode cX1_put 10 = .ok (.invokevirtual 59, 3) := by decide +kernel
theorem dX1_put_13 : decode cX1_put 13 = .ok (.ifCond .ne 5, 3) := by decide +kernel
theorem dX1_put_16 : decode cX1_put 16 = .ok (.iconst (-1), 1) := by decide +kernel
theorem dX1_put_17 : decode cX1_put 17 = .ok (.ireturn, 1) := by decide +kernel
theorem dX1_put_18 : decode cX1_put 18 = .ok (.aload_n 0, 1) := by decide +kernel
theorem dX1_put_19 : decode cX1_put 19 = .ok (.getfield 12, 3) := by decide +kernel
theorem dX1_put_22 : decode cX1_put 22 = .ok (.lload_n 3, 1) := by decide +kernel
theorem dX1_put_23 : decode cX1_put 23 = .ok (.invokevirtual 63, 3) := by decide +kernel
theorem dX1_put_26 : decode cX1_put 26 = .ok (.istore 5, 2) := by decide +kernel
theorem dX1_put_28 : decode cX1_put 28 = .ok (.aload_n 0, 1) := by decide +kernel
theorem dX1_put_29 : decode cX1_put 29 = .ok (.getfield 12, 3) := by decide +kernel
theorem dX1_put_32 : decode cX1_put 32 = .ok (.lload_n 3, 1) := by decide +kernel
theorem dX1_put_33 : decode cX1_put 33 = .ok (.iload_n 2, 1) := by decide +kernel
theorem dX1_put_34 : decode cX1_put 34 = .ok (.i2l, 1) := by decide +kernel
theorem dX1_put_35 : decode cX1_put 35 = .ok (.invokevirtual 67, 3) := by decide +kernel
theorem dX1_put_38 : decode cX1_put 38 = .ok (.iload 5, 2) := by decide +kernel
theorem dX1_put_40 : decode cX1_put 40 = .ok (.ireturn, 1) := by decide +kernel
set_option maxRecDepth 20000 in
theorem ggX1_get_X1_unsigned : GoodIn wsX1_get wsX1_unsigned := goodIn_r _ [5, 6] (by decide +kernel) (by decide +kernel)
set_option maxRecDepth 20000 in
theorem gX1_get_X1_unsigned : GoodIn wsX1_get (va_wsS RX1 27 yX1_unsigned wsX1_unsigned) := goodIn_app (goodIn_of _ (by decide +kernel)) ggX1_get_X1_unsigned
set_option maxRecDepth 20000 in
theorem ggX1_get_X0_has : GoodIn wsX1_get wsX0_has := goodIn_r _ [11, 12, 13] (by decide +kernel) (by decide +kernel)
set_option maxRecDepth 20000 in
theorem gX1_get_X0_has : GoodIn wsX1_get (wsV RX1 59 RX0 yX0_has wsX0_has) := goodIn_app (goodIn_of _ (by decide +kernel)) ggX1_get_X0_has
set_option maxRecDepth 20000 in
theorem ggX1_get_X0_read : GoodIn wsX1_get wsX0_read := goodIn_ca (goodIn_r _ [17, 18, 19, 20, 21, 8, 9, 10, 11, 12, 13, 22, 23, 24, 25, 26, 27, 31] (by decide +kernel) (by decide +kernel)) (goodIn_sub (fun _ h => List.mem_cons_of_mem _ (List.mem_append_right _ h)) (by decide +kernel))
set_option maxRecDepth 20000 in
theorem gX1_get_X0_read : GoodIn wsX1_get (wsV RX1 63 RX0 yX0_read wsX0_read) := goodIn_app (goodIn_of _ (by decide +kernel)) ggX1_get_X0_read
theorem dX1_get_0 : decode cX1_get 0 = .ok (.iload_n 1, 1) := by decide +kernel
theorem dX1_get_1 : decode cX1_get 1 = .ok (.invokestatic 27, 3) := by decide +kernel
theorem dX1_get_4 : decode cX1_get 4 = .ok (.lstore_n 2, 1) := by decide +kernel
theorem dX1_get_5 : decode cX1_get 5 = .ok (.aload_n 0, 1) := by decide +kernel
theorem dX1_get_6 : decode cX1_get 6 = .ok (.getfield 12, 3) := by decide +kernel
theorem dX1_get_9 : decode cX1_get 9 = .ok (.lload_n 2, 1) := by decide +kernel
theorem dX1_get_10 : decode cX1_get 10 = .ok (.invokevirtual 59, 3) := by decide +kernel
theorem dX1_get_13 : decode cX1_get 13 = .ok (.ifCond .eq 14, 3) := by decide +kernel
theorem dX1_get_16 : decode cX1_get 16 = .ok (.aload_n 0, 1) := by decide +kernel
theorem dX1_get_17 : decode cX1_get 17 = .ok (.getfield 12, 3) := by decide +kernel
theorem dX1_get_20 : decode cX1_get 20 = .ok (.lload_n 2, 1) := by decide +kernel
theorem dX1_get_21 : decode cX1_get 21 = .ok (.invokevirtual 63, 3) := by decide +kernel
theorem dX1_get_24 : decode cX1_get 24 = .ok (.goto 4, 3) := by decide +kernel
theorem dX1_get_27 : decode cX1_get 27 = .ok (.iconst (-1), 1) := by decide +kernel
theorem dX1_get_28 : decode cX1_get 28 = .ok (.ireturn, 1) := by decide +kernel
theorem dX1_end_0 : decode cX1_end 0 = .ok (.aload_n 0, 1) := by decide +kernel
theorem dX1_end_1 : decode cX1_end 1 = .ok (.getfield 18, 3) := by decide +kernel
theorem dX1_end_4 : decode cX1_end 4 = .ok (.l2i, 1) := by decide +kernel
theorem dX1_end_5 : decode cX1_end 5 = .ok (.ireturn, 1) := by decide +kernel
theorem dX1_unsigned_0 : decode cX1_unsigned 0 = .ok (.iload_n 0, 1) := by decide +kernel
theorem dX1_unsigned_1 : decode cX1_unsigned 1 = .ok (.i2l, 1) := by decide +kernel
theorem dX1_unsigned_2 : decode cX1_unsigned 2 = .ok (.ldc2_w 70, 3) := by decide +kernel
theorem dX1_unsigned_5 : decode cX1_unsigned 5 = .ok (.land, 1) := by decide +kernel
theorem dX1_unsigned_6 : decode cX1_unsigned 6 = .ok (.lreturn, 1) := by decide +kernel
theorem dX1_rounded_0 : decode cX1_rounded 0 = .ok (.ldc2_w 72, 3) := by decide +kernel
theorem dX1_rounded_3 : decode cX1_rounded 3 = .ok (.lload_n 0, 1) := by decide +kernel
theorem dX1_rounded_4 : decode cX1_rounded 4 = .ok (.ldc2_w 74, 3) := by decide +kernel
theorem dX1_rounded_7 : decode cX1_rounded 7 = .ok (.ladd, 1) := by decide +kernel
theorem dX1_rounded_8 : decode cX1_rounded 8 = .ok (.ldc2_w 76, 3) := by decide +kernel
theorem dX1_rounded_11 : decode cX1_rounded 11 = .ok (.land, 1) := by decide +kernel
theorem dX1_rounded_12 : decode cX1_rounded 12 = .ok (.invokestatic 78, 3) := by decide +kernel
theorem dX1_rounded_15 : decode cX1_rounded 15 = .ok (.lreturn, 1) := by decide +kernel
set_option maxRecDepth 20000 in
theorem ggX1_take_X1_rounded : GoodIn wsX1_take wsX1_rounded := goodIn_r _ [9, 1, 10, 11, 12, 13, 14, 15] (by decide +kernel) (by decide +kernel)
set_option maxRecDepth 20000 in
theorem gX1_take_X1_rounded : GoodIn wsX1_take (va_wsS RX1 51 yX1_rounded wsX1_rounded) := goodIn_app (goodIn_of _ (by decide +kernel)) ggX1_take_X1_rounded
set_option maxRecDepth 20000 in
theorem ggX1_take_X1_firstFree : GoodIn wsX1_take wsX1_firstFree := goodIn_ca (goodIn_r _ [19, 20, 3, 21, 22, 23, 8, 24, 25, 26, 27, 28, 29, 30, 31, 32, 33, 34, 35, 36, 37, 38, 39, 40, 41, 42, 43, 44, 45, 46, 47, 48, 49, 50, 51, 52, 53, 54, 55, 56, 57, 58, 59, 60, 61, 62, 63, 1, 87, 88, 89, 90] (by decide +kernel) (by decide +kernel)) (goodIn_sub (fun _ h => List.mem_cons_of_mem _ (List.mem_append_right _ h)) (by decide +kernel))
set_option maxRecDepth 20000 in
theorem gX1_take_X1_firstFree : GoodIn wsX1_take (wsV RX1 84 RX1 yX1_firstFree wsX1_firstFree) := goodIn_app (goodIn_of _ (by decide +kernel)) ggX1_take_X1_firstFree
set_option maxRecDepth 20000 in
theorem ggX1_take_X1_takeFree : GoodIn wsX1_take wsX1_takeFree := goodIn_ca (goodIn_r _ [67, 68, 1, 56, 57, 58, 8, 59, 25, 27, 28, 29, 30, 31, 32, 33, 34, 35, 36, 37, 38, 39, 40, 41, 42, 43, 44, 45, 46, 47, 48, 49, 50, 51, 52, 53, 54, 55, 69, 70, 71, 72, 26, 73, 74, 75, 76, 77, 78, 79, 80, 81, 82, 87, 88, 89, 90] (by decide +kernel) (by decide +kernel)) (goodIn_sub (fun _ h => List.mem_cons_of_mem _ (List.mem_append_right _ h)) (by decide +kernel))
set_option maxRecDepth 20000 in
theorem gX1_take_X1_takeFree : GoodIn wsX1_take (wsV RX1 87 RX1 yX1_takeFree wsX1_takeFree) := goodIn_app (goodIn_of _ (by decide +kernel)) ggX1_take_X1_takeFree
set_option maxRecDepth 20000 in
theorem ggX1_take_X1_takeAtEnd : GoodIn wsX1_take wsX1_takeAtEnd := goodIn_ca (goodIn_r _ [86, 3, 1, 69, 70, 71, 8, 72, 25, 26, 73, 74, 75, 30, 76, 32, 33, 34, 35, 36, 37, 38, 39, 40, 41, 42, 43, 44, 77, 78, 79, 80, 49, 81, 82, 50, 51, 52, 53, 54, 55, 87, 88, 89, 90] (by decide +kernel) (by decide +kernel)) (goodIn_sub (fun _ h => List.mem_cons_of_mem _ (List.mem_append_right _ h)) (by decide +kernel))
set_option maxRecDepth 20000 in
theorem gX1_take_X1_takeAtEnd : GoodIn wsX1_take (wsV RX1 92 RX1 yX1_takeAtEnd wsX1_takeAtEnd) := goodIn_app (goodIn_of _ (by decide +kernel)) ggX1_take_X1_takeAtEnd
theorem dX1_take_0 : decode cX1_take 0 = .ok (.lload_n 1, 1) := by decide +kernel
theorem dX1_take_1 : decode cX1_take 1 = .ok (.invokestatic 51, 3) := by decide +kernel
theorem dX1_take_4 : decode cX1_take 4 = .ok (.lstore_n 3, 1) := by decide +kernel
theorem dX1_take_5 : decode cX1_take 5 = .ok (.aload_n 0, 1) := by decide +kernel
theorem dX1_take_6 : decode cX1_take 6 = .ok (.lload_n 3, 1) := by decide +kernel
theorem dX1_take_7 : decode cX1_take 7 = .ok (.invokevirtual 84, 3) := by decide +kernel
theorem dX1_take_10 : decode cX1_take 10 = .ok (.lstore 5, 2) := by decide +kernel
theorem dX1_take_12 : decode cX1_take 12 = .ok (.lload 5, 2) := by decide +kernel
theorem dX1_take_14 : decode cX1_take 14 = .ok (.lconst 0, 1) := by decide +kernel
theorem dX1_take_15 : decode cX1_take 15 = .ok (.lcmp, 1) := by decide +kernel
theorem dX1_take_16 : decode cX1_take 16 = .ok (.ifCond .eq 17, 3) := by decide +kernel
theorem dX1_take_19 : decode cX1_take 19 = .ok (.aload_n 0, 1) := by decide +kernel
theorem dX1_take_20 : decode cX1_take 20 = .ok (.lload 5, 2) := by decide +kernel
theorem dX1_take_22 : decode cX1_take 22 = .ok (.lload_n 3, 1) := by decide +kernel
theorem dX1_take_23 : decode cX1_take 23 = .ok (.invokevirtual 87, 3) := by decide +kernel
theorem dX1_take_26 : decode cX1_take 26 = .ok (.lload 5, 2) := by decide +kernel
theorem dX1_take_28 : decode cX1_take 28 = .ok (.ldc2_w 72, 3) := by decide +kernel
theorem dX1_take_31 : decode cX1_take 31 = .ok (.ladd, 1) := by decide +kernel
theorem dX1_take_32 : decode cX1_take 32 = .ok (.lreturn, 1) := by decide +kernel
theorem dX1_take_33 : decode cX1_take 33 = .ok (.lload_n 1, 1) := by decide +kernel
theorem dX1_take_34 : decode cX1_take 34 = .ok (.ldc2_w 35, 3) := by decide +kernel
theorem dX1_take_37 : decode cX1_take 37 = .ok (.lcmp, 1) := by decide +kernel
theorem dX1_take_38 : decode cX1_take 38 = .ok (.ifCond .gt 25, 3) := by decide +kernel
theorem dX1_take_41 : decode cX1_take 41 = .ok (.aload_n 0, 1) := by decide +kernel
theorem dX1_take_42 : decode cX1_take 42 = .ok (.getfield 18, 3) := by decide +kernel
theorem dX1_take_45 : decode cX1_take 45 = .ok (.ldc2_w 72, 3) := by decide +kernel
theorem dX1_take_48 : decode cX1_take 48 = .ok (.ladd, 1) := by decide +kernel
theorem dX1_take_49 : decode cX1_take 49 = .ok (.lload_n 3, 1) := by decide +kernel
theorem dX1_take_50 : decode cX1_take 50 = .ok (.ladd, 1) := by decide +kernel
theorem dX1_take_51 : decode cX1_take 51 = .ok (.aload_n 0, 1) := by decide +kernel
theorem dX1_take_52 : decode cX1_take 52 = .ok (.getfield 24, 3) := by decide +kernel
theorem dX1_take_55 : decode cX1_take 55 = .ok (.ldc2_w 90, 3) := by decide +kernel
theorem dX1_take_58 : decode cX1_take 58 = .ok (.lsub, 1) := by decide +kernel
theorem dX1_take_59 : decode cX1_take 59 = .ok (.lcmp, 1) := by decide +kernel
theorem dX1_take_60 : decode cX1_take 60 = .ok (.ifCond .le 5, 3) := by decide +kernel
theorem dX1_take_63 : decode cX1_take 63 = .ok (.lconst 0, 1) := by decide +kernel
theorem dX1_take_64 : decode cX1_take 64 = .ok (.lreturn, 1) := by decide +kernel
theorem dX1_take_65 : decode cX1_take 65 = .ok (.aload_n 0, 1) := by decide +kernel
theorem dX1_take_66 : decode cX1_take 66 = .ok (.lload_n 3, 1) := by decide +kernel
theorem dX1_take_67 : decode cX1_take 67 = .ok (.invokevirtual 92, 3) := by decide +kernel
theorem dX1_take_70 : decode cX1_take 70 = .ok (.lreturn, 1) := by decide +kernel
set_option maxRecDepth 20000 in
theorem ggX1_firstFree_X1_isTaken : GoodIn wsX1_firstFree wsX1_isTaken := goodIn_ca (goodIn_r _ [7, 8, 9, 10, 11, 12, 13, 14, 15, 16, 17, 18, 19, 20, 21, 22, 23, 24, 25, 26, 27, 28, 29, 30, 31, 32, 33, 34, 35, 36, 37, 38, 48, 49, 50, 51] (by decide +kernel) (by decide +kernel)) (goodIn_sub (fun _ h => List.mem_cons_of_mem _ (List.mem_append_right _ h)) (by decide +kernel))
set_option maxRecDepth 20000 in
theorem gX1_firstFree_X1_isTaken : GoodIn wsX1_firstFree (wsV RX1 95 RX1 yX1_isTaken wsX1_isTaken) := goodIn_app (goodIn_of _ (by decide +kernel)) ggX1_firstFree_X1_isTaken
set_option maxRecDepth 20000 in
theorem ggX1_firstFree_X1_size : GoodIn wsX1_firstFree wsX1_size := goodIn_ca (goodIn_r _ [42, 8, 10, 11, 12, 13, 14, 15, 16, 17, 18, 19, 20, 21, 22, 23, 24, 25, 26, 27, 28, 29, 30, 31, 32, 33, 34, 35, 36, 37, 38, 48, 49, 50, 51] (by decide +kernel) (by decide +kernel)) (goodIn_sub (fun _ h => List.mem_cons_of_mem _ (List.mem_append_right _ h)) (by decide +kernel))
set_option maxRecDepth 20000 in
theorem gX1_firstFree_X1_size : GoodIn wsX1_firstFree (wsV RX1 48 RX1 yX1_size wsX1_size) := goodIn_app (goodIn_of _ (by decide +kernel)) ggX1_firstFree_X1_size
set_option maxRecDepth 20000 in
theorem ggX1_firstFree_X1_next : GoodIn wsX1_firstFree wsX1_next := goodIn_ca (goodIn_r _ [46, 47, 8, 10, 11, 12, 13, 14, 15, 16, 17, 18, 19, 20, 21, 22, 23, 24, 25, 26, 27, 28, 29, 30, 31, 32, 33, 34, 35, 36, 37, 38, 48, 49, 50, 51] (by decide +kernel) (by decide +kernel)) (goodIn_sub (fun _ h => List.mem_cons_of_mem _ (List.mem_append_right _ h)) (by decide +kernel))
set_option maxRecDepth 20000 in
theorem gX1_firstFree_X1_next : GoodIn wsX1_firstFree (wsV RX1 98 RX1 yX1_next wsX1_next) := goodIn_app (goodIn_of _ (by decide +kernel)) ggX1_firstFree_X1_next
theorem dX1_firstFree_0 : decode cX1_firstFree 0 = .ok (.ldc2_w 16, 3) := by decide +kernel
theorem dX1_firstFree_3 : decode cX1_firstFree 3 = .ok (.lstore_n 3, 1) := by decide +kernel
theorem dX1_firstFree_4 : decode cX1_firstFree 4 = .ok (.iconst 0, 1) := by decide +kernel
theorem dX1_firstFree_5 : decode cX1_firstFree 5 = .ok (.istore 5, 2) := by decide +kernel
theorem dX1_firstFree_7 : decode cX1_firstFree 7 = .ok (.iload 5, 2) := by decide +kernel
theorem dX1_firstFree_9 : decode cX1_firstFree 9 = .ok (.sipush 8064, 3) := by decide +kernel
theorem dX1_firstFree_12 : decode cX1_firstFree 12 = .ok (.if_icmp .ge 44, 3) := by decide +kernel
theorem dX1_firstFree_15 : decode cX1_firstFree 15 = .ok (.lload_n 3, 1) := by decide +kernel
theorem dX1_firstFree_16 : decode cX1_firstFree 16 = .ok (.aload_n 0, 1) := by decide +kernel
theorem dX1_firstFree_17 : decode cX1_firstFree 17 = .ok (.getfield 18, 3) := by decide +kernel
theorem dX1_firstFree_20 : decode cX1_firstFree 20 = .ok (.lcmp, 1) := by decide +kernel
theorem dX1_firstFree_21 : decode cX1_firstFree 21 = .ok (.ifCond .ge 35, 3) := by decide +kernel
theorem dX1_firstFree_24 : decode cX1_firstFree 24 = .ok (.aload_n 0, 1) := by decide +kernel
theorem dX1_firstFree_25 : decode cX1_firstFree 25 = .ok (.lload_n 3, 1) := by decide +kernel
theorem dX1_firstFree_26 : decode cX1_firstFree 26 = .ok (.invokevirtual 95, 3) := by decide +kernel
theorem dX1_firstFree_29 : decode cX1_firstFree 29 = .ok (.ifCond .ne 15, 3) := by decide +kernel
theorem dX1_firstFree_32 : decode cX1_firstFree 32 = .ok (.aload_n 0, 1) := by decide +kernel
theorem dX1_firstFree_33 : decode cX1_firstFree 33 = .ok (.lload_n 3, 1) := by decide +kernel
theorem dX1_firstFree_34 : decode cX1_firstFree 34 = .ok (.invokevirtual 48, 3) := by decide +kernel
theorem dX1_firstFree_37 : decode cX1_firstFree 37 = .ok (.lload_n 1, 1) := by decide +kernel
theorem dX1_firstFree_38 : decode cX1_firstFree 38 = .ok (.lcmp, 1) := by decide +kernel
theorem dX1_firstFree_39 : decode cX1_firstFree 39 = .ok (.ifCond .lt 5, 3) := by decide +kernel
theorem dX1_firstFree_42 : decode cX1_firstFree 42 = .ok (.lload_n 3, 1) := by decide +kernel
theorem dX1_firstFree_43 : decode cX1_firstFree 43 = .ok (.lreturn, 1) := by decide +kernel
theorem dX1_firstFree_44 : decode cX1_firstFree 44 = .ok (.aload_n 0, 1) := by decide +kernel
theorem dX1_firstFree_45 : decode cX1_firstFree 45 = .ok (.lload_n 3, 1) := by decide +kernel
theorem dX1_firstFree_46 : decode cX1_firstFree 46 = .ok (.invokevirtual 98, 3) := by decide +kernel
theorem dX1_firstFree_49 : decode cX1_firstFree 49 = .ok (.lstore_n 3, 1) := by decide +kernel
theorem dX1_firstFree_50 : decode cX1_firstFree 50 = .ok (.iinc 5 1, 3) := by decide +kernel
theorem dX1_firstFree_53 : decode cX1_firstFree 53 = .ok (.goto (-46), 3) := by decide +kernel
theorem dX1_firstFree_56 : decode cX1_firstFree 56 = .ok (.lconst 0, 1) := by decide +kernel
theorem dX1_firstFree_57 : decode cX1_firstFree 57 = .ok (.lreturn, 1) := by decide +kernel
set_option maxRecDepth 20000 in
theorem ggX1_takeFree_X1_size : GoodIn wsX1_takeFree wsX1_size := goodIn_ca (goodIn_r _ [7, 8, 9, 10, 11, 12, 13, 14, 15, 16, 17, 18, 19, 20, 21, 22, 23, 24, 25, 26, 27, 28, 29, 30, 31, 32, 33, 34, 35, 36, 37, 53, 54, 55, 56] (by decide +kernel) (by decide +kernel)) (goodIn_sub (fun _ h => List.mem_cons_of_mem _ (List.mem_append_right _ h)) (by decide +kernel))
set_option maxRecDepth 20000 in
theorem gX1_takeFree_X1_size : GoodIn wsX1_takeFree (wsV RX1 48 RX1 yX1_size wsX1_size) := goodIn_app (goodIn_of _ (by decide +kernel)) ggX1_takeFree_X1_size
set_option maxRecDepth 20000 in
theorem ggX1_takeFree_X1_writeHeader : GoodIn wsX1_takeFree wsX1_writeHeader := goodIn_ca (goodIn_r _ [41, 8, 42, 43, 44, 45, 12, 46, 14, 15, 16, 17, 18, 19, 20, 21, 22, 23, 24, 25, 26, 47, 48, 49, 50, 31, 51, 52, 32, 33, 34, 35, 36, 37, 53, 54, 55, 56] (by decide +kernel) (by decide +kernel)) (goodIn_sub (fun _ h => List.mem_cons_of_mem _ (List.mem_append_right _ h)) (by decide +kernel))
set_option maxRecDepth 20000 in
theorem gX1_takeFree_X1_writeHeader : GoodIn wsX1_takeFree (wsV RX1 103 RX1 yX1_writeHeader wsX1_writeHeader) := goodIn_app (goodIn_of _ (by decide +kernel)) ggX1_takeFree_X1_writeHeader
theorem dX1_takeFree_0 : decode cX1_takeFree 0 = .ok (.aload_n 0, 1) := by decide +kernel
theorem dX1_takeFree_1 : decode cX1_takeFree 1 = .ok (.lload_n 1, 1) := by decide +kernel
theorem dX1_takeFree_2 : decode cX1_takeFree 2 = .ok (.invokevirtual 48, 3) := by decide +kernel
theorem dX1_takeFree_5 : decode cX1_takeFree 5 = .ok (.lstore 5, 2) := by decide +kernel
theorem dX1_takeFree_7 : decode cX1_takeFree 7 = .ok (.lload 5, 2) := by decide +kernel
theorem dX1_takeFree_9 : decode cX1_takeFree 9 = .ok (.lload_n 3, 1) := by decide +kernel
theorem dX1_takeFree_10 : decode cX1_takeFree 10 = .ok (.ldc2_w 101, 3) := by decide +kernel
theorem dX1_takeFree_13 : decode cX1_takeFree 13 = .ok (.ladd, 1) := by decide +kernel
theorem dX1_takeFree_14 : decode cX1_takeFree 14 = .ok (.lcmp, 1) := by decide +kernel
theorem dX1_takeFree_15 : decode cX1_takeFree 15 = .ok (.ifCond .ge 12, 3) := by decide +kernel
theorem dX1_takeFree_18 : decode cX1_takeFree 18 = .ok (.aload_n 0, 1) := by decide +kernel
theorem dX1_takeFree_19 : decode cX1_takeFree 19 = .ok (.lload_n 1, 1) := by decide +kernel
theorem dX1_takeFree_20 : decode cX1_takeFree 20 = .ok (.lload 5, 2) := by decide +kernel
theorem dX1_takeFree_22 : decode cX1_takeFree 22 = .ok (.iconst 1, 1) := by decide +kernel
theorem dX1_takeFree_23 : decode cX1_takeFree 23 = .ok (.invokevirtual 103, 3) := by decide +kernel
theorem dX1_takeFree_26 : decode cX1_takeFree 26 = .ok (.return_, 1) := by decide +kernel
theorem dX1_takeFree_27 : decode cX1_takeFree 27 = .ok (.aload_n 0, 1) := by decide +kernel
theorem dX1_takeFree_28 : decode cX1_takeFree 28 = .ok (.lload_n 1, 1) := by decide +kernel
theorem dX1_takeFree_29 : decode cX1_takeFree 29 = .ok (.ldc2_w 72, 3) := by decide +kernel
theorem dX1_takeFree_32 : decode cX1_takeFree 32 = .ok (.ladd, 1) := by decide +kernel
theorem dX1_takeFree_33 : decode cX1_takeFree 33 = .ok (.lload_n 3, 1) := by decide +kernel
theorem dX1_takeFree_34 : decode cX1_takeFree 34 = .ok (.ladd, 1) := by decide +kernel
theorem dX1_takeFree_35 : decode cX1_takeFree 35 = .ok (.lload 5, 2) := by decide +kernel
theorem dX1_takeFree_37 : decode cX1_takeFree 37 = .ok (.lload_n 3, 1) := by decide +kernel
theorem dX1_takeFree_38 : decode cX1_takeFree 38 = .ok (.lsub, 1) := by decide +kernel
theorem dX1_takeFree_39 : decode cX1_takeFree 39 = .ok (.ldc2_w 72, 3) := by decide +kernel
theorem dX1_takeFree_42 : decode cX1_takeFree 42 = .ok (.lsub, 1) := by decide +kernel
theorem dX1_takeFree_43 : decode cX1_takeFree 43 = .ok (.iconst 0, 1) := by decide +kernel
theorem dX1_takeFree_44 : decode cX1_takeFree 44 = .ok (.invokevirtual 103, 3) := by decide +kernel
theorem dX1_takeFree_47 : decode cX1_takeFree 47 = .ok (.aload_n 0, 1) := by decide +kernel
theorem dX1_takeFree_48 : decode cX1_takeFree 48 = .ok (.lload_n 1, 1) := by decide +kernel
theorem dX1_takeFree_49 : decode cX1_takeFree 49 = .ok (.lload_n 3, 1) := by decide +kernel
theorem dX1_takeFree_50 : decode cX1_takeFree 50 = .ok (.iconst 1, 1) := by decide +kernel
theorem dX1_takeFree_51 : decode cX1_takeFree 51 = .ok (.invokevirtual 103, 3) := by decide +kernel
theorem dX1_takeFree_54 : decode cX1_takeFree 54 = .ok (.return_, 1) := by decide +kernel
set_option maxRecDepth 20000 in
theorem ggX1_takeAtEnd_X1_writeHeader : GoodIn wsX1_takeAtEnd wsX1_writeHeader := goodIn_ca (goodIn_r _ [7, 8, 9, 10, 11, 12, 13, 14, 15, 16, 17, 18, 19, 20, 21, 22, 23, 24, 25, 26, 27, 28, 29, 30, 31, 32, 33, 34, 35, 36, 37, 38, 39, 40, 41, 42, 43, 44] (by decide +kernel) (by decide +kernel)) (goodIn_sub (fun _ h => List.mem_cons_of_mem _ (List.mem_append_right _ h)) (by decide +kernel))
set_option maxRecDepth 20000 in
theorem gX1_takeAtEnd_X1_writeHeader : GoodIn wsX1_takeAtEnd (wsV RX1 103 RX1 yX1_writeHeader wsX1_writeHeader) := goodIn_app (goodIn_of _ (by decide +kernel)) ggX1_takeAtEnd_X1_writeHeader
theorem dX1_takeAtEnd_0 : decode cX1_takeAtEnd 0 = .ok (.aload_n 0, 1) := by decide +kernel
theorem dX1_takeAtEnd_1 : decode cX1_takeAtEnd 1 = .ok (.getfield 18, 3) := by decide +kernel
theorem dX1_takeAtEnd_4 : decode cX1_takeAtEnd 4 = .ok (.ldc2_w 72, 3) := by decide +kernel
theorem dX1_takeAtEnd_7 : decode cX1_takeAtEnd 7 = .ok (.ladd, 1) := by decide +kernel
theorem dX1_takeAtEnd_8 : decode cX1_takeAtEnd 8 = .ok (.lstore_n 3, 1) := by decide +kernel
theorem dX1_takeAtEnd_9 : decode cX1_takeAtEnd 9 = .ok (.aload_n 0, 1) := by decide +kernel
theorem dX1_takeAtEnd_10 : decode cX1_takeAtEnd 10 = .ok (.aload_n 0, 1) := by decide +kernel
theorem dX1_takeAtEnd_11 : decode cX1_takeAtEnd 11 = .ok (.getfield 18, 3) := by decide +kernel
theorem dX1_takeAtEnd_14 : decode cX1_takeAtEnd 14 = .ok (.lload_n 1, 1) := by decide +kernel
theorem dX1_takeAtEnd_15 : decode cX1_takeAtEnd 15 = .ok (.iconst 1, 1) := by decide +kernel
theorem dX1_takeAtEnd_16 : decode cX1_takeAtEnd 16 = .ok (.invokevirtual 103, 3) := by decide +kernel
theorem dX1_takeAtEnd_19 : decode cX1_takeAtEnd 19 = .ok (.aload_n 0, 1) := by decide +kernel
theorem dX1_takeAtEnd_20 : decode cX1_takeAtEnd 20 = .ok (.lload_n 3, 1) := by decide +kernel
theorem dX1_takeAtEnd_21 : decode cX1_takeAtEnd 21 = .ok (.lload_n 1, 1) := by decide +kernel
theorem dX1_takeAtEnd_22 : decode cX1_takeAtEnd 22 = .ok (.ladd, 1) := by decide +kernel
theorem dX1_takeAtEnd_23 : decode cX1_takeAtEnd 23 = .ok (.putfield 18, 3) := by decide +kernel
theorem dX1_takeAtEnd_26 : decode cX1_takeAtEnd 26 = .ok (.lload_n 3, 1) := by decide +kernel
theorem dX1_takeAtEnd_27 : decode cX1_takeAtEnd 27 = .ok (.lreturn, 1) := by decide +kernel
set_option maxRecDepth 20000 in
theorem ggX1_clear_X0_write : GoodIn wsX1_clear wsX0_write := goodIn_ca (goodIn_r _ [6, 7, 8, 9, 10, 11, 12, 13, 14, 5, 15, 16, 17, 18, 19, 20, 21, 22, 23, 27] (by decide +kernel) (by decide +kernel)) (goodIn_sub (fun _ h => List.mem_cons_of_mem _ (List.mem_append_right _ h)) (by decide +kernel))
set_option maxRecDepth 20000 in
theorem gX1_clear_X0_write : GoodIn wsX1_clear (wsV RX1 67 RX0 yX0_write wsX0_write) := goodIn_app (goodIn_of _ (by decide +kernel)) ggX1_clear_X0_write
theorem dX1_clear_0 : decode cX1_clear 0 = .ok (.lconst 0, 1) := by decide +kernel
theorem dX1_clear_1 : decode cX1_clear 1 = .ok (.lstore 5, 2) := by decide +kernel
theorem dX1_clear_3 : decode cX1_clear 3 = .ok (.lload 5, 2) := by decide +kernel
theorem dX1_clear_5 : decode cX1_clear 5 = .ok (.lload_n 3, 1) := by decide +kernel
theorem dX1_clear_6 : decode cX1_clear 6 = .ok (.lcmp, 1) := by decide +kernel
theorem dX1_clear_7 : decode cX1_clear 7 = .ok (.ifCond .ge 24, 3) := by decide +kernel
theorem dX1_clear_10 : decode cX1_clear 10 = .ok (.aload_n 0, 1) := by decide +kernel
theorem dX1_clear_11 : decode cX1_clear 11 = .ok (.getfield 12, 3) := by decide +kernel
theorem dX1_clear_14 : decode cX1_clear 14 = .ok (.lload_n 1, 1) := by decide +kernel
theorem dX1_clear_15 : decode cX1_clear 15 = .ok (.lload 5, 2) := by decide +kernel
theorem dX1_clear_17 : decode cX1_clear 17 = .ok (.ladd, 1) := by decide +kernel
theorem dX1_clear_18 : decode cX1_clear 18 = .ok (.lconst 0, 1) := by decide +kernel
theorem dX1_clear_19 : decode cX1_clear 19 = .ok (.invokevirtual 67, 3) := by decide +kernel
theorem dX1_clear_22 : decode cX1_clear 22 = .ok (.lload 5, 2) := by decide +kernel
theorem dX1_clear_24 : decode cX1_clear 24 = .ok (.lconst 1, 1) := by decide +kernel
theorem dX1_clear_25 : decode cX1_clear 25 = .ok (.ladd, 1) := by decide +kernel
theorem dX1_clear_26 : decode cX1_clear 26 = .ok (.lstore 5, 2) := by decide +kernel
theorem dX1_clear_28 : decode cX1_clear 28 = .ok (.goto (-25), 3) := by decide +kernel
theorem dX1_clear_31 : decode cX1_clear 31 = .ok (.return_, 1) := by decide +kernel
set_option maxRecDepth 20000 in
theorem ggX1_copy_X0_read : GoodIn wsX1_copy wsX0_read := goodIn_ca (goodIn_r _ [6, 7, 8, 9, 10, 11, 12, 5, 13, 14, 15, 16, 17, 18, 19, 20, 21, 31] (by decide +kernel) (by decide +kernel)) (goodIn_sub (fun _ h => List.mem_cons_of_mem _ (List.mem_append_right _ h)) (by decide +kernel))
set_option maxRecDepth 20000 in
theorem gX1_copy_X0_read : GoodIn wsX1_copy (wsV RX1 63 RX0 yX0_read wsX0_read) := goodIn_app (goodIn_of _ (by decide +kernel)) ggX1_copy_X0_read
set_option maxRecDepth 20000 in
theorem ggX1_copy_X0_write : GoodIn wsX1_copy wsX0_write := goodIn_ca (goodIn_r _ [25, 7, 8, 9, 26, 27, 10, 11, 12, 5, 13, 14, 15, 16, 17, 18, 19, 20, 21, 31] (by decide +kernel) (by decide +kernel)) (goodIn_sub (fun _ h => List.mem_cons_of_mem _ (List.mem_append_right _ h)) (by decide +kernel))
set_option maxRecDepth 20000 in
theorem gX1_copy_X0_write : GoodIn wsX1_copy (wsV RX1 67 RX0 yX0_write wsX0_write) := goodIn_app (goodIn_of _ (by decide +kernel)) ggX1_copy_X0_write
theorem dX1_copy_0 : decode cX1_copy 0 = .ok (.lconst 0, 1) := by decide +kernel
theorem dX1_copy_1 : decode cX1_copy 1 = .ok (.lstore 7, 2) := by decide +kernel
theorem dX1_copy_3 : decode cX1_copy 3 = .ok (.lload 7, 2) := by decide +kernel
theorem dX1_copy_5 : decode cX1_copy 5 = .ok (.lload 5, 2) := by decide +kernel
theorem dX1_copy_7 : decode cX1_copy 7 = .ok (.lcmp, 1) := by decide +kernel
theorem dX1_copy_8 : decode cX1_copy 8 = .ok (.ifCond .ge 35, 3) := by decide +kernel
theorem dX1_copy_11 : decode cX1_copy 11 = .ok (.aload_n 0, 1) := by decide +kernel
theorem dX1_copy_12 : decode cX1_copy 12 = .ok (.getfield 12, 3) := by decide +kernel
theorem dX1_copy_15 : decode cX1_copy 15 = .ok (.lload_n 3, 1) := by decide +kernel
theorem dX1_copy_16 : decode cX1_copy 16 = .ok (.lload 7, 2) := by decide +kernel
theorem dX1_copy_18 : decode cX1_copy 18 = .ok (.ladd, 1) := by decide +kernel
theorem dX1_copy_19 : decode cX1_copy 19 = .ok (.aload_n 0, 1) := by decide +kernel
theorem dX1_copy_20 : decode cX1_copy 20 = .ok (.getfield 12, 3) := by decide +kernel
theorem dX1_copy_23 : decode cX1_copy 23 = .ok (.lload_n 1, 1) := by decide +kernel
theorem dX1_copy_24 : decode cX1_copy 24 = .ok (.lload 7, 2) := by decide +kernel
theorem dX1_copy_26 : decode cX1_copy 26 = .ok (.ladd, 1) := by decide +kernel
theorem dX1_copy_27 : decode cX1_copy 27 = .ok (.invokevirtual 63, 3) := by decide +kernel
theorem dX1_copy_30 : decode cX1_copy 30 = .ok (.i2l, 1) := by decide +kernel
theorem dX1_copy_31 : decode cX1_copy 31 = .ok (.invokevirtual 67, 3) := by decide +kernel
theorem dX1_copy_34 : decode cX1_copy 34 = .ok (.lload 7, 2) := by decide +kernel
theorem dX1_copy_36 : decode cX1_copy 36 = .ok (.lconst 1, 1) := by decide +kernel
theorem dX1_copy_37 : decode cX1_copy 37 = .ok (.ladd, 1) := by decide +kernel
theorem dX1_copy_38 : decode cX1_copy 38 = .ok (.lstore 7, 2) := by decide +kernel
theorem dX1_copy_40 : decode cX1_copy 40 = .ok (.goto (-37), 3) := by decide +kernel
theorem dX1_copy_43 : decode cX1_copy 43 = .ok (.return_, 1) := by decide +kernel
set_option maxRecDepth 20000 in
theorem ggX1_takenBlock_X1_isTaken : GoodIn wsX1_takenBlock wsX1_isTaken := goodIn_ca (goodIn_r _ [10, 11, 12, 13, 14, 15, 16, 17, 18, 19, 20, 21, 22, 2, 23, 24, 25, 26, 27, 28, 29, 30, 31, 32, 33, 34, 35, 36, 37, 38, 39, 40, 45, 46, 47, 48] (by decide +kernel) (by decide +kernel)) (goodIn_sub (fun _ h => List.mem_cons_of_mem _ (List.mem_append_right _ h)) (by decide +kernel))
set_option maxRecDepth 20000 in
theorem gX1_takenBlock_X1_isTaken : GoodIn wsX1_takenBlock (wsV RX1 95 RX1 yX1_isTaken wsX1_isTaken) := goodIn_app (goodIn_of _ (by decide +kernel)) ggX1_takenBlock_X1_isTaken
set_option maxRecDepth 20000 in
theorem ggX1_takenBlock_X1_next : GoodIn wsX1_takenBlock wsX1_next := goodIn_ca (goodIn_r _ [44, 5, 11, 13, 14, 15, 16, 17, 18, 19, 20, 21, 22, 2, 23, 24, 25, 26, 27, 28, 29, 30, 31, 32, 33, 34, 35, 36, 37, 38, 39, 40, 45, 46, 47, 48] (by decide +kernel) (by decide +kernel)) (goodIn_sub (fun _ h => List.mem_cons_of_mem _ (List.mem_append_right _ h)) (by decide +kernel))
set_option maxRecDepth 20000 in
theorem gX1_takenBlock_X1_next : GoodIn wsX1_takenBlock (wsV RX1 98 RX1 yX1_next wsX1_next) := goodIn_app (goodIn_of _ (by decide +kernel)) ggX1_takenBlock_X1_next
theorem dX1_takenBlock_0 : decode cX1_takenBlock 0 = .ok (.ldc2_w 16, 3) := by decide +kernel
theorem dX1_takenBlock_3 : decode cX1_takenBlock 3 = .ok (.lstore_n 3, 1) := by decide +kernel
theorem dX1_takenBlock_4 : decode cX1_takenBlock 4 = .ok (.iconst 0, 1) := by decide +kernel
theorem dX1_takenBlock_5 : decode cX1_takenBlock 5 = .ok (.istore 5, 2) := by decide +kernel
theorem dX1_takenBlock_7 : decode cX1_takenBlock 7 = .ok (.iload 5, 2) := by decide +kernel
theorem dX1_takenBlock_9 : decode cX1_takenBlock 9 = .ok (.sipush 8064, 3) := by decide +kernel
theorem dX1_takenBlock_12 : decode cX1_takenBlock 12 = .ok (.if_icmp .ge 44, 3) := by decide +kernel
theorem dX1_takenBlock_15 : decode cX1_takenBlock 15 = .ok (.lload_n 3, 1) := by decide +kernel
theorem dX1_takenBlock_16 : decode cX1_takenBlock 16 = .ok (.aload_n 0, 1) := by decide +kernel
theorem dX1_takenBlock_17 : decode cX1_takenBlock 17 = .ok (.getfield 18, 3) := by decide +kernel
theorem dX1_takenBlock_20 : decode cX1_takenBlock 20 = .ok (.lcmp, 1) := by decide +kernel
theorem dX1_takenBlock_21 : decode cX1_takenBlock 21 = .ok (.ifCond .ge 35, 3) := by decide +kernel
theorem dX1_takenBlock_24 : decode cX1_takenBlock 24 = .ok (.lload_n 3, 1) := by decide +kernel
theorem dX1_takenBlock_25 : decode cX1_takenBlock 25 = .ok (.ldc2_w 72, 3) := by decide +kernel
theorem dX1_takenBlock_28 : decode cX1_takenBlock 28 = .ok (.ladd, 1) := by decide +kernel
theorem dX1_takenBlock_29 : decode cX1_takenBlock 29 = .ok (.lload_n 1, 1) := by decide +kernel
theorem dX1_takenBlock_30 : decode cX1_takenBlock 30 = .ok (.lcmp, 1) := by decide +kernel
theorem dX1_takenBlock_31 : decode cX1_takenBlock 31 = .ok (.ifCond .ne 13, 3) := by decide +kernel
theorem dX1_takenBlock_34 : decode cX1_takenBlock 34 = .ok (.aload_n 0, 1) := by decide +kernel
theorem dX1_takenBlock_35 : decode cX1_takenBlock 35 = .ok (.lload_n 3, 1) := by decide +kernel
theorem dX1_takenBlock_36 : decode cX1_takenBlock 36 = .ok (.invokevirtual 95, 3) := by decide +kernel
theorem dX1_takenBlock_39 : decode cX1_takenBlock 39 = .ok (.ifCond .eq 5, 3) := by decide +kernel
theorem dX1_takenBlock_42 : decode cX1_takenBlock 42 = .ok (.lload_n 3, 1) := by decide +kernel
theorem dX1_takenBlock_43 : decode cX1_takenBlock 43 = .ok (.lreturn, 1) := by decide +kernel
theorem dX1_takenBlock_44 : decode cX1_takenBlock 44 = .ok (.aload_n 0, 1) := by decide +kernel
theorem dX1_takenBlock_45 : decode cX1_takenBlock 45 = .ok (.lload_n 3, 1) := by decide +kernel
theorem dX1_takenBlock_46 : decode cX1_takenBlock 46 = .ok (.invokevirtual 98, 3) := by decide +kernel
theorem dX1_takenBlock_49 : decode cX1_takenBlock 49 = .ok (.lstore_n 3, 1) := by decide +kernel
theorem dX1_takenBlock_50 : decode cX1_takenBlock 50 = .ok (.iinc 5 1, 3) := by decide +kernel
theorem dX1_takenBlock_53 : decode cX1_takenBlock 53 = .ok (.goto (-46), 3) := by decide +kernel
theorem dX1_takenBlock_56 : decode cX1_takenBlock 56 = .ok (.new 107, 3) := by decide +kernel
theorem dX1_takenBlock_59 : decode cX1_takenBlock 59 = .ok (.dup, 1) := by decide +kernel
theorem dX1_takenBlock_60 : decode cX1_takenBlock 60 = .ok (.ldc 109, 2) := by decide +kernel
theorem dX1_takenBlock_62 : decode cX1_takenBlock 62 = .ok (.invokespecial 111, 3) := by decide +kernel
theorem dX1_takenBlock_65 : decode cX1_takenBlock 65 = .ok (.athrow, 1) := by decide +kernel
set_option maxRecDepth 20000 in
theorem ggX1_giveBack_X1_size : GoodIn wsX1_giveBack wsX1_size := goodIn_ca (goodIn_r _ [6, 7, 8, 9, 10, 11, 12, 13, 14, 15, 16, 17, 18, 19, 20, 21, 22, 23, 24, 25, 26, 27, 28, 29, 30, 31, 32, 33, 34, 35, 36, 70, 71, 72, 73] (by decide +kernel) (by decide +kernel)) (goodIn_sub (fun _ h => List.mem_cons_of_mem _ (List.mem_append_right _ h)) (by decide +kernel))
set_option maxRecDepth 20000 in
theorem gX1_giveBack_X1_size : GoodIn wsX1_giveBack (wsV RX1 48 RX1 yX1_size wsX1_size) := goodIn_app (goodIn_of _ (by decide +kernel)) ggX1_giveBack_X1_size
set_option maxRecDepth 20000 in
theorem ggX1_giveBack_X1_writeHeader : GoodIn wsX1_giveBack wsX1_writeHeader := goodIn_ca (goodIn_r _ [40, 7, 41, 42, 43, 44, 11, 45, 13, 14, 15, 16, 17, 18, 19, 20, 21, 22, 23, 24, 25, 46, 47, 48, 49, 30, 50, 51, 31, 32, 33, 34, 35, 36, 70, 71, 72, 73] (by decide +kernel) (by decide +kernel)) (goodIn_sub (fun _ h => List.mem_cons_of_mem _ (List.mem_append_right _ h)) (by decide +kernel))
set_option maxRecDepth 20000 in
theorem gX1_giveBack_X1_writeHeader : GoodIn wsX1_giveBack (wsV RX1 103 RX1 yX1_writeHeader wsX1_writeHeader) := goodIn_app (goodIn_of _ (by decide +kernel)) ggX1_giveBack_X1_writeHeader
set_option maxRecDepth 20000 in
theorem ggX1_giveBack_X1_joinNext : GoodIn wsX1_giveBack wsX1_joinNext := goodIn_ca (goodIn_r _ [55, 1, 56, 57, 58, 59, 5, 60, 7, 8, 9, 10, 11, 12, 13, 14, 15, 16, 17, 18, 19, 20, 21, 22, 23, 24, 25, 26, 27, 28, 29, 30, 31, 32, 33, 34, 35, 36, 61, 62, 63, 64, 41, 2, 3, 4, 6, 37, 38, 39, 40, 42, 43, 44, 45, 46, 47, 48, 49, 50, 51, 70, 71, 72, 73] (by decide +kernel) (by decide +kernel)) (goodIn_sub (fun _ h => List.mem_cons_of_mem _ (List.mem_append_right _ h)) (by decide +kernel))
set_option maxRecDepth 20000 in
theorem gX1_giveBack_X1_joinNext : GoodIn wsX1_giveBack (wsV RX1 114 RX1 yX1_joinNext wsX1_joinNext) := goodIn_app (goodIn_of _ (by decide +kernel)) ggX1_giveBack_X1_joinNext
set_option maxRecDepth 20000 in
theorem ggX1_giveBack_X1_blockBefore : GoodIn wsX1_giveBack wsX1_blockBefore := goodIn_ca (goodIn_r _ [68, 69, 57, 58, 59, 5, 60, 56, 7, 8, 9, 10, 11, 12, 13, 14, 15, 16, 17, 18, 19, 20, 21, 22, 23, 24, 25, 26, 27, 28, 29, 30, 31, 32, 33, 34, 35, 36, 70, 71, 72, 73] (by decide +kernel) (by decide +kernel)) (goodIn_sub (fun _ h => List.mem_cons_of_mem _ (List.mem_append_right _ h)) (by decide +kernel))
set_option maxRecDepth 20000 in
theorem gX1_giveBack_X1_blockBefore : GoodIn wsX1_giveBack (wsV RX1 117 RX1 yX1_blockBefore wsX1_blockBefore) := goodIn_app (goodIn_of _ (by decide +kernel)) ggX1_giveBack_X1_blockBefore
set_option maxRecDepth 20000 in
theorem ggX1_giveBack_X1_isTaken : GoodIn wsX1_giveBack wsX1_isTaken := goodIn_ca (goodIn_r _ [64, 7, 41, 8, 9, 10, 11, 12, 13, 14, 15, 16, 17, 18, 19, 20, 21, 22, 23, 24, 25, 26, 27, 28, 29, 30, 31, 32, 33, 34, 35, 36, 70, 71, 72, 73] (by decide +kernel) (by decide +kernel)) (goodIn_sub (fun _ h => List.mem_cons_of_mem _ (List.mem_append_right _ h)) (by decide +kernel))
set_option maxRecDepth 20000 in
theorem gX1_giveBack_X1_isTaken : GoodIn wsX1_giveBack (wsV RX1 95 RX1 yX1_isTaken wsX1_isTaken) := goodIn_app (goodIn_of _ (by decide +kernel)) ggX1_giveBack_X1_isTaken
set_option maxRecDepth 20000 in
theorem ggX1_giveBack_X1_next : GoodIn wsX1_giveBack wsX1_next := goodIn_ca (goodIn_r _ [60, 56, 7, 8, 9, 10, 11, 12, 13, 14, 15, 16, 17, 18, 19, 20, 21, 22, 23, 24, 25, 26, 27, 28, 29, 30, 31, 32, 33, 34, 35, 36, 70, 71, 72, 73] (by decide +kernel) (by decide +kernel)) (goodIn_sub (fun _ h => List.mem_cons_of_mem _ (List.mem_append_right _ h)) (by decide +kernel))
set_option maxRecDepth 20000 in
theorem gX1_giveBack_X1_next : GoodIn wsX1_giveBack (wsV RX1 98 RX1 yX1_next wsX1_next) := goodIn_app (goodIn_of _ (by decide +kernel)) ggX1_giveBack_X1_next
theorem dX1_giveBack_0 : decode cX1_giveBack 0 = .ok (.aload_n 0, 1) := by decide +kernel
theorem dX1_giveBack_1 : decode cX1_giveBack 1 = .ok (.lload_n 1, 1) := by decide +kernel
theorem dX1_giveBack_2 : decode cX1_giveBack 2 = .ok (.aload_n 0, 1) := by decide +kernel
theorem dX1_giveBack_3 : decode cX1_giveBack 3 = .ok (.lload_n 1, 1) := by decide +kernel
theorem dX1_giveBack_4 : decode cX1_giveBack 4 = .ok (.invokevirtual 48, 3) := by decide +kernel
theorem dX1_giveBack_7 : decode cX1_giveBack 7 = .ok (.iconst 0, 1) := by decide +kernel
theorem dX1_giveBack_8 : decode cX1_giveBack 8 = .ok (.invokevirtual 103, 3) := by decide +kernel
theorem dX1_giveBack_11 : decode cX1_giveBack 11 = .ok (.aload_n 0, 1) := by decide +kernel
theorem dX1_giveBack_12 : decode cX1_giveBack 12 = .ok (.lload_n 1, 1) := by decide +kernel
theorem dX1_giveBack_13 : decode cX1_giveBack 13 = .ok (.invokevirtual 114, 3) := by decide +kernel
theorem dX1_giveBack_16 : decode cX1_giveBack 16 = .ok (.lload_n 1, 1) := by decide +kernel
theorem dX1_giveBack_17 : decode cX1_giveBack 17 = .ok (.lstore_n 3, 1) := by decide +kernel
theorem dX1_giveBack_18 : decode cX1_giveBack 18 = .ok (.aload_n 0, 1) := by decide +kernel
theorem dX1_giveBack_19 : decode cX1_giveBack 19 = .ok (.lload_n 1, 1) := by decide +kernel
theorem dX1_giveBack_20 : decode cX1_giveBack 20 = .ok (.invokevirtual 117, 3) := by decide +kernel
theorem dX1_giveBack_23 : decode cX1_giveBack 23 = .ok (.lstore 5, 2) := by decide +kernel
theorem dX1_giveBack_25 : decode cX1_giveBack 25 = .ok (.lload 5, 2) := by decide +kernel
theorem dX1_giveBack_27 : decode cX1_giveBack 27 = .ok (.lconst 0, 1) := by decide +kernel
theorem dX1_giveBack_28 : decode cX1_giveBack 28 = .ok (.lcmp, 1) := by decide +kernel
theorem dX1_giveBack_29 : decode cX1_giveBack 29 = .ok (.ifCond .eq 21, 3) := by decide +kernel
theorem dX1_giveBack_32 : decode cX1_giveBack 32 = .ok (.aload_n 0, 1) := by decide +kernel
theorem dX1_giveBack_33 : decode cX1_giveBack 33 = .ok (.lload 5, 2) := by decide +kernel
theorem dX1_giveBack_35 : decode cX1_giveBack 35 = .ok (.invokevirtual 95, 3) := by decide +kernel
theorem dX1_giveBack_38 : decode cX1_giveBack 38 = .ok (.ifCond .ne 12, 3) := by decide +kernel
theorem dX1_giveBack_41 : decode cX1_giveBack 41 = .ok (.aload_n 0, 1) := by decide +kernel
theorem dX1_giveBack_42 : decode cX1_giveBack 42 = .ok (.lload 5, 2) := by decide +kernel
theorem dX1_giveBack_44 : decode cX1_giveBack 44 = .ok (.invokevirtual 114, 3) := by decide +kernel
theorem dX1_giveBack_47 : decode cX1_giveBack 47 = .ok (.lload 5, 2) := by decide +kernel
theorem dX1_giveBack_49 : decode cX1_giveBack 49 = .ok (.lstore_n 3, 1) := by decide +kernel
theorem dX1_giveBack_50 : decode cX1_giveBack 50 = .ok (.aload_n 0, 1) := by decide +kernel
theorem dX1_giveBack_51 : decode cX1_giveBack 51 = .ok (.lload_n 3, 1) := by decide +kernel
theorem dX1_giveBack_52 : decode cX1_giveBack 52 = .ok (.invokevirtual 98, 3) := by decide +kernel
theorem dX1_giveBack_55 : decode cX1_giveBack 55 = .ok (.aload_n 0, 1) := by decide +kernel
theorem dX1_giveBack_56 : decode cX1_giveBack 56 = .ok (.getfield 18, 3) := by decide +kernel
theorem dX1_giveBack_59 : decode cX1_giveBack 59 = .ok (.lcmp, 1) := by decide +kernel
theorem dX1_giveBack_60 : decode cX1_giveBack 60 = .ok (.ifCond .ne 8, 3) := by decide +kernel
theorem dX1_giveBack_63 : decode cX1_giveBack 63 = .ok (.aload_n 0, 1) := by decide +kernel
theorem dX1_giveBack_64 : decode cX1_giveBack 64 = .ok (.lload_n 3, 1) := by decide +kernel
theorem dX1_giveBack_65 : decode cX1_giveBack 65 = .ok (.putfield 18, 3) := by decide +kernel
theorem dX1_giveBack_68 : decode cX1_giveBack 68 = .ok (.return_, 1) := by decide +kernel
set_option maxRecDepth 20000 in
theorem ggX1_joinNext_X1_next : GoodIn wsX1_joinNext wsX1_next := goodIn_ca (goodIn_r _ [7, 2, 8, 9, 10, 11, 12, 13, 14, 15, 16, 17, 18, 19, 20, 21, 22, 23, 24, 25, 26, 27, 28, 29, 30, 31, 32, 33, 34, 35, 36, 37, 61, 62, 63, 64] (by decide +kernel) (by decide +kernel)) (goodIn_sub (fun _ h => List.mem_cons_of_mem _ (List.mem_append_right _ h)) (by decide +kernel))
set_option maxRecDepth 20000 in
theorem gX1_joinNext_X1_next : GoodIn wsX1_joinNext (wsV RX1 98 RX1 yX1_next wsX1_next) := goodIn_app (goodIn_of _ (by decide +kernel)) ggX1_joinNext_X1_next
set_option maxRecDepth 20000 in
theorem ggX1_joinNext_X1_isTaken : GoodIn wsX1_joinNext wsX1_isTaken := goodIn_ca (goodIn_r _ [41, 8, 42, 9, 10, 11, 12, 13, 14, 15, 16, 17, 18, 19, 20, 21, 22, 23, 24, 25, 26, 27, 28, 29, 30, 31, 32, 33, 34, 35, 36, 37, 61, 62, 63, 64] (by decide +kernel) (by decide +kernel)) (goodIn_sub (fun _ h => List.mem_cons_of_mem _ (List.mem_append_right _ h)) (by decide +kernel))
set_option maxRecDepth 20000 in
theorem gX1_joinNext_X1_isTaken : GoodIn wsX1_joinNext (wsV RX1 95 RX1 yX1_isTaken wsX1_isTaken) := goodIn_app (goodIn_of _ (by decide +kernel)) ggX1_joinNext_X1_isTaken
set_option maxRecDepth 20000 in
theorem ggX1_joinNext_X1_size : GoodIn wsX1_joinNext wsX1_size := goodIn_ca (goodIn_r _ [46, 8, 9, 10, 11, 12, 13, 14, 15, 16, 17, 18, 19, 20, 21, 22, 23, 24, 25, 26, 27, 28, 29, 30, 31, 32, 33, 34, 35, 36, 37, 61, 62, 63, 64] (by decide +kernel) (by decide +kernel)) (goodIn_sub (fun _ h => List.mem_cons_of_mem _ (List.mem_append_right _ h)) (by decide +kernel))
set_option maxRecDepth 20000 in
theorem gX1_joinNext_X1_size : GoodIn wsX1_joinNext (wsV RX1 48 RX1 yX1_size wsX1_size) := goodIn_app (goodIn_of _ (by decide +kernel)) ggX1_joinNext_X1_size
set_option maxRecDepth 20000 in
theorem ggX1_joinNext_X1_writeHeader : GoodIn wsX1_joinNext wsX1_writeHeader := goodIn_ca (goodIn_r _ [50, 8, 42, 51, 52, 53, 12, 54, 14, 15, 16, 17, 18, 19, 20, 21, 22, 23, 24, 25, 26, 55, 56, 57, 58, 31, 59, 60, 32, 33, 34, 35, 36, 37, 61, 62, 63, 64] (by decide +kernel) (by decide +kernel)) (goodIn_sub (fun _ h => List.mem_cons_of_mem _ (List.mem_append_right _ h)) (by decide +kernel))
set_option maxRecDepth 20000 in
theorem gX1_joinNext_X1_writeHeader : GoodIn wsX1_joinNext (wsV RX1 103 RX1 yX1_writeHeader wsX1_writeHeader) := goodIn_app (goodIn_of _ (by decide +kernel)) ggX1_joinNext_X1_writeHeader
theorem dX1_joinNext_0 : decode cX1_joinNext 0 = .ok (.aload_n 0, 1) := by decide +kernel
theorem dX1_joinNext_1 : decode cX1_joinNext 1 = .ok (.lload_n 1, 1) := by decide +kernel
theorem dX1_joinNext_2 : decode cX1_joinNext 2 = .ok (.invokevirtual 98, 3) := by decide +kernel
theorem dX1_joinNext_5 : decode cX1_joinNext 5 = .ok (.lstore_n 3, 1) := by decide +kernel
theorem dX1_joinNext_6 : decode cX1_joinNext 6 = .ok (.lload_n 3, 1) := by decide +kernel
theorem dX1_joinNext_7 : decode cX1_joinNext 7 = .ok (.aload_n 0, 1) := by decide +kernel
theorem dX1_joinNext_8 : decode cX1_joinNext 8 = .ok (.getfield 18, 3) := by decide +kernel
theorem dX1_joinNext_11 : decode cX1_joinNext 11 = .ok (.lcmp, 1) := by decide +kernel
theorem dX1_joinNext_12 : decode cX1_joinNext 12 = .ok (.ifCond .ge 32, 3) := by decide +kernel
theorem dX1_joinNext_15 : decode cX1_joinNext 15 = .ok (.aload_n 0, 1) := by decide +kernel
theorem dX1_joinNext_16 : decode cX1_joinNext 16 = .ok (.lload_n 3, 1) := by decide +kernel
theorem dX1_joinNext_17 : decode cX1_joinNext 17 = .ok (.invokevirtual 95, 3) := by decide +kernel
theorem dX1_joinNext_20 : decode cX1_joinNext 20 = .ok (.ifCond .ne 24, 3) := by decide +kernel
theorem dX1_joinNext_23 : decode cX1_joinNext 23 = .ok (.aload_n 0, 1) := by decide +kernel
theorem dX1_joinNext_24 : decode cX1_joinNext 24 = .ok (.lload_n 1, 1) := by decide +kernel
theorem dX1_joinNext_25 : decode cX1_joinNext 25 = .ok (.aload_n 0, 1) := by decide +kernel
theorem dX1_joinNext_26 : decode cX1_joinNext 26 = .ok (.lload_n 1, 1) := by decide +kernel
theorem dX1_joinNext_27 : decode cX1_joinNext 27 = .ok (.invokevirtual 48, 3) := by decide +kernel
theorem dX1_joinNext_30 : decode cX1_joinNext 30 = .ok (.ldc2_w 72, 3) := by decide +kernel
theorem dX1_joinNext_33 : decode cX1_joinNext 33 = .ok (.ladd, 1) := by decide +kernel
theorem dX1_joinNext_34 : decode cX1_joinNext 34 = .ok (.aload_n 0, 1) := by decide +kernel
theorem dX1_joinNext_35 : decode cX1_joinNext 35 = .ok (.lload_n 3, 1) := by decide +kernel
theorem dX1_joinNext_36 : decode cX1_joinNext 36 = .ok (.invokevirtual 48, 3) := by decide +kernel
theorem dX1_joinNext_39 : decode cX1_joinNext 39 = .ok (.ladd, 1) := by decide +kernel
theorem dX1_joinNext_40 : decode cX1_joinNext 40 = .ok (.iconst 0, 1) := by decide +kernel
theorem dX1_joinNext_41 : decode cX1_joinNext 41 = .ok (.invokevirtual 103, 3) := by decide +kernel
theorem dX1_joinNext_44 : decode cX1_joinNext 44 = .ok (.return_, 1) := by decide +kernel
set_option maxRecDepth 20000 in
theorem ggX1_blockBefore_X1_next : GoodIn wsX1_blockBefore wsX1_next := goodIn_ca (goodIn_r _ [6, 7, 8, 9, 10, 11, 12, 13, 14, 15, 16, 17, 18, 19, 20, 21, 22, 23, 24, 25, 26, 27, 28, 29, 30, 31, 32, 33, 34, 35, 36, 37, 38, 39, 40, 41] (by decide +kernel) (by decide +kernel)) (goodIn_sub (fun _ h => List.mem_cons_of_mem _ (List.mem_append_right _ h)) (by decide +kernel))
set_option maxRecDepth 20000 in
theorem gX1_blockBefore_X1_next : GoodIn wsX1_blockBefore (wsV RX1 98 RX1 yX1_next wsX1_next) := goodIn_app (goodIn_of _ (by decide +kernel)) ggX1_blockBefore_X1_next
theorem dX1_blockBefore_0 : decode cX1_blockBefore 0 = .ok (.lconst 0, 1) := by decide +kernel
theorem dX1_blockBefore_1 : decode cX1_blockBefore 1 = .ok (.lstore_n 3, 1) := by decide +kernel
theorem dX1_blockBefore_2 : decode cX1_blockBefore 2 = .ok (.ldc2_w 16, 3) := by decide +kernel
theorem dX1_blockBefore_5 : decode cX1_blockBefore 5 = .ok (.lstore 5, 2) := by decide +kernel
theorem dX1_blockBefore_7 : decode cX1_blockBefore 7 = .ok (.iconst 0, 1) := by decide +kernel
theorem dX1_blockBefore_8 : decode cX1_blockBefore 8 = .ok (.istore 7, 2) := by decide +kernel
theorem dX1_blockBefore_10 : decode cX1_blockBefore 10 = .ok (.iload 7, 2) := by decide +kernel
theorem dX1_blockBefore_12 : decode cX1_blockBefore 12 = .ok (.sipush 8064, 3) := by decide +kernel
theorem dX1_blockBefore_15 : decode cX1_blockBefore 15 = .ok (.if_icmp .ge 27, 3) := by decide +kernel
theorem dX1_blockBefore_18 : decode cX1_blockBefore 18 = .ok (.lload 5, 2) := by decide +kernel
theorem dX1_blockBefore_20 : decode cX1_blockBefore 20 = .ok (.lload_n 1, 1) := by decide +kernel
theorem dX1_blockBefore_21 : decode cX1_blockBefore 21 = .ok (.lcmp, 1) := by decide +kernel
theorem dX1_blockBefore_22 : decode cX1_blockBefore 22 = .ok (.ifCond .ge 20, 3) := by decide +kernel
theorem dX1_blockBefore_25 : decode cX1_blockBefore 25 = .ok (.lload 5, 2) := by decide +kernel
theorem dX1_blockBefore_27 : decode cX1_blockBefore 27 = .ok (.lstore_n 3, 1) := by decide +kernel
theorem dX1_blockBefore_28 : decode cX1_blockBefore 28 = .ok (.aload_n 0, 1) := by decide +kernel
theorem dX1_blockBefore_29 : decode cX1_blockBefore 29 = .ok (.lload 5, 2) := by decide +kernel
theorem dX1_blockBefore_31 : decode cX1_blockBefore 31 = .ok (.invokevirtual 98, 3) := by decide +kernel
theorem dX1_blockBefore_34 : decode cX1_blockBefore 34 = .ok (.lstore 5, 2) := by decide +kernel
theorem dX1_blockBefore_36 : decode cX1_blockBefore 36 = .ok (.iinc 7 1, 3) := by decide +kernel
theorem dX1_blockBefore_39 : decode cX1_blockBefore 39 = .ok (.goto (-29), 3) := by decide +kernel
theorem dX1_blockBefore_42 : decode cX1_blockBefore 42 = .ok (.lload_n 3, 1) := by decide +kernel
theorem dX1_blockBefore_43 : decode cX1_blockBefore 43 = .ok (.lreturn, 1) := by decide +kernel
set_option maxRecDepth 20000 in
theorem ggX1_next_X0_readNumber : GoodIn wsX1_next wsX0_readNumber := goodIn_ca (goodIn_r _ [7, 8, 9, 10, 6, 11, 12, 13, 14, 15, 16, 17, 18, 19, 20, 21, 22, 23, 24, 25, 26, 27, 28, 29, 30, 31, 35] (by decide +kernel) (by decide +kernel)) (goodIn_sub (fun _ h => List.mem_cons_of_mem _ (List.mem_append_right _ h)) (by decide +kernel))
set_option maxRecDepth 20000 in
theorem gX1_next_X0_readNumber : GoodIn wsX1_next (wsV RX1 120 RX0 yX0_readNumber wsX0_readNumber) := goodIn_app (goodIn_of _ (by decide +kernel)) ggX1_next_X0_readNumber
theorem dX1_next_0 : decode cX1_next 0 = .ok (.lload_n 1, 1) := by decide +kernel
theorem dX1_next_1 : decode cX1_next 1 = .ok (.ldc2_w 72, 3) := by decide +kernel
theorem dX1_next_4 : decode cX1_next 4 = .ok (.ladd, 1) := by decide +kernel
theorem dX1_next_5 : decode cX1_next 5 = .ok (.aload_n 0, 1) := by decide +kernel
theorem dX1_next_6 : decode cX1_next 6 = .ok (.getfield 12, 3) := by decide +kernel
theorem dX1_next_9 : decode cX1_next 9 = .ok (.lload_n 1, 1) := by decide +kernel
theorem dX1_next_10 : decode cX1_next 10 = .ok (.invokevirtual 120, 3) := by decide +kernel
theorem dX1_next_13 : decode cX1_next 13 = .ok (.ladd, 1) := by decide +kernel
theorem dX1_next_14 : decode cX1_next 14 = .ok (.lreturn, 1) := by decide +kernel
set_option maxRecDepth 20000 in
theorem ggX1_size_X0_readNumber : GoodIn wsX1_size wsX0_readNumber := goodIn_ca (goodIn_r _ [6, 7, 8, 9, 5, 10, 11, 12, 13, 14, 15, 16, 17, 18, 19, 20, 21, 22, 23, 24, 25, 26, 27, 28, 29, 30, 34] (by decide +kernel) (by decide +kernel)) (goodIn_sub (fun _ h => List.mem_cons_of_mem _ (List.mem_append_right _ h)) (by decide +kernel))
set_option maxRecDepth 20000 in
theorem gX1_size_X0_readNumber : GoodIn wsX1_size (wsV RX1 120 RX0 yX0_readNumber wsX0_readNumber) := goodIn_app (goodIn_of _ (by decide +kernel)) ggX1_size_X0_readNumber
theorem dX1_size_0 : decode cX1_size 0 = .ok (.aload_n 0, 1) := by decide +kernel
theorem dX1_size_1 : decode cX1_size 1 = .ok (.getfield 12, 3) := by decide +kernel
theorem dX1_size_4 : decode cX1_size 4 = .ok (.lload_n 1, 1) := by decide +kernel
theorem dX1_size_5 : decode cX1_size 5 = .ok (.invokevirtual 120, 3) := by decide +kernel
theorem dX1_size_8 : decode cX1_size 8 = .ok (.lreturn, 1) := by decide +kernel
set_option maxRecDepth 20000 in
theorem ggX1_isTaken_X0_readNumber : GoodIn wsX1_isTaken wsX0_readNumber := goodIn_ca (goodIn_r _ [7, 8, 9, 10, 6, 11, 12, 13, 14, 15, 16, 17, 18, 19, 20, 21, 22, 23, 24, 25, 26, 27, 28, 29, 30, 31, 35] (by decide +kernel) (by decide +kernel)) (goodIn_sub (fun _ h => List.mem_cons_of_mem _ (List.mem_append_right _ h)) (by decide +kernel))
set_option maxRecDepth 20000 in
theorem gX1_isTaken_X0_readNumber : GoodIn wsX1_isTaken (wsV RX1 120 RX0 yX0_readNumber wsX0_readNumber) := goodIn_app (goodIn_of _ (by decide +kernel)) ggX1_isTaken_X0_readNumber
theorem dX1_isTaken_0 : decode cX1_isTaken 0 = .ok (.aload_n 0, 1) := by decide +kernel
theorem dX1_isTaken_1 : decode cX1_isTaken 1 = .ok (.getfield 12, 3) := by decide +kernel
theorem dX1_isTaken_4 : decode cX1_isTaken 4 = .ok (.lload_n 1, 1) := by decide +kernel
theorem dX1_isTaken_5 : decode cX1_isTaken 5 = .ok (.ldc2_w 123, 3) := by decide +kernel
theorem dX1_isTaken_8 : decode cX1_isTaken 8 = .ok (.ladd, 1) := by decide +kernel
theorem dX1_isTaken_9 : decode cX1_isTaken 9 = .ok (.invokevirtual 120, 3) := by decide +kernel
theorem dX1_isTaken_12 : decode cX1_isTaken 12 = .ok (.lconst 1, 1) := by decide +kernel
theorem dX1_isTaken_13 : decode cX1_isTaken 13 = .ok (.lcmp, 1) := by decide +kernel
theorem dX1_isTaken_14 : decode cX1_isTaken 14 = .ok (.ifCond .ne 7, 3) := by decide +kernel
theorem dX1_isTaken_17 : decode cX1_isTaken 17 = .ok (.iconst 1, 1) := by decide +kernel
theorem dX1_isTaken_18 : decode cX1_isTaken 18 = .ok (.goto 4, 3) := by decide +kernel
theorem dX1_isTaken_21 : decode cX1_isTaken 21 = .ok (.iconst 0, 1) := by decide +kernel
theorem dX1_isTaken_22 : decode cX1_isTaken 22 = .ok (.ireturn, 1) := by decide +kernel
set_option maxRecDepth 20000 in
theorem ggX1_writeHeader_X0_writeNumber : GoodIn wsX1_writeHeader wsX0_writeNumber := goodIn_ca (goodIn_r _ [7, 8, 9, 10, 6, 11, 12, 13, 14, 15, 16, 17, 18, 19, 20, 21, 22, 23, 24, 25, 26, 27, 28, 29, 30, 31, 32, 33, 37] (by decide +kernel) (by decide +kernel)) (goodIn_sub (fun _ h => List.mem_cons_of_mem _ (List.mem_append_right _ h)) (by decide +kernel))
set_option maxRecDepth 20000 in
theorem gX1_writeHeader_X0_writeNumber : GoodIn wsX1_writeHeader (wsV RX1 125 RX0 yX0_writeNumber wsX0_writeNumber) := goodIn_app (goodIn_of _ (by decide +kernel)) ggX1_writeHeader_X0_writeNumber
theorem dX1_writeHeader_0 : decode cX1_writeHeader 0 = .ok (.aload_n 0, 1) := by decide +kernel
theorem dX1_writeHeader_1 : decode cX1_writeHeader 1 = .ok (.getfield 12, 3) := by decide +kernel
theorem dX1_writeHeader_4 : decode cX1_writeHeader 4 = .ok (.lload_n 1, 1) := by decide +kernel
theorem dX1_writeHeader_5 : decode cX1_writeHeader 5 = .ok (.lload_n 3, 1) := by decide +kernel
theorem dX1_writeHeader_6 : decode cX1_writeHeader 6 = .ok (.invokevirtual 125, 3) := by decide +kernel
theorem dX1_writeHeader_9 : decode cX1_writeHeader 9 = .ok (.aload_n 0, 1) := by decide +kernel
theorem dX1_writeHeader_10 : decode cX1_writeHeader 10 = .ok (.getfield 12, 3) := by decide +kernel
theorem dX1_writeHeader_13 : decode cX1_writeHeader 13 = .ok (.lload_n 1, 1) := by decide +kernel
theorem dX1_writeHeader_14 : decode cX1_writeHeader 14 = .ok (.ldc2_w 123, 3) := by decide +kernel
theorem dX1_writeHeader_17 : decode cX1_writeHeader 17 = .ok (.ladd, 1) := by decide +kernel
theorem dX1_writeHeader_18 : decode cX1_writeHeader 18 = .ok (.iload 5, 2) := by decide +kernel
theorem dX1_writeHeader_20 : decode cX1_writeHeader 20 = .ok (.i2l, 1) := by decide +kernel
theorem dX1_writeHeader_21 : decode cX1_writeHeader 21 = .ok (.invokevirtual 125, 3) := by decide +kernel
theorem dX1_writeHeader_24 : decode cX1_writeHeader 24 = .ok (.return_, 1) := by decide +kernel
theorem dX2_init_0 : decode cX2_init 0 = .ok (.aload_n 0, 1) := by decide +kernel
theorem dX2_init_1 : decode cX2_init 1 = .ok (.invokespecial 1, 3) := by decide +kernel
theorem dX2_init_4 : decode cX2_init 4 = .ok (.aload_n 0, 1) := by decide +kernel
theorem dX2_init_5 : decode cX2_init 5 = .ok (.ldc 9, 2) := by decide +kernel
theorem dX2_init_7 : decode cX2_init 7 = .ok (.newarray .byte, 2) := by decide +kernel
theorem dX2_init_9 : decode cX2_init 9 = .ok (.putfield 10, 3) := by decide +kernel
theorem dX2_init_12 : decode cX2_init 12 = .ok (.aload_n 0, 1) := by decide +kernel
theorem dX2_init_13 : decode cX2_init 13 = .ok (.sipush 1024, 3) := by decide +kernel
theorem dX2_init_16 : decode cX2_init 16 = .ok (.putfield 14, 3) := by decide +kernel
theorem dX2_init_19 : decode cX2_init 19 = .ok (.aload_n 0, 1) := by decide +kernel
theorem dX2_init_20 : decode cX2_init 20 = .ok (.ldc 9, 2) := by decide +kernel
theorem dX2_init_22 : decode cX2_init 22 = .ok (.putfield 18, 3) := by decide +kernel
theorem dX2_init_25 : decode cX2_init 25 = .ok (.return_, 1) := by decide +kernel
theorem dX2_thrown_0 : decode cX2_thrown 0 = .ok (.aload_n 0, 1) := by decide +kernel
theorem dX2_thrown_1 : decode cX2_thrown 1 = .ok (.getfield 21, 3) := by decide +kernel
theorem dX2_thrown_4 : decode cX2_thrown 4 = .ok (.ireturn, 1) := by decide +kernel
theorem dX2_there_0 : decode cX2_there 0 = .ok (.lload_n 0, 1) := by decide +kernel
theorem dX2_there_1 : decode cX2_there 1 = .ok (.ldc2_w 24, 3) := by decide +kernel
theorem dX2_there_4 : decode cX2_there 4 = .ok (.lcmp, 1) := by decide +kernel
theorem dX2_there_5 : decode cX2_there 5 = .ok (.ifCond .lt 15, 3) := by decide +kernel
theorem dX2_there_8 : decode cX2_there 8 = .ok (.lload_n 0, 1) := by decide +kernel
theorem dX2_there_9 : decode cX2_there 9 = .ok (.ldc2_w 26, 3) := by decide +kernel
theorem dX2_there_12 : decode cX2_there 12 = .ok (.lcmp, 1) := by decide +kernel
theorem dX2_there_13 : decode cX2_there 13 = .ok (.ifCond .ge 7, 3) := by decide +kernel
theorem dX2_there_16 : decode cX2_there 16 = .ok (.iconst 1, 1) := by decide +kernel
theorem dX2_there_17 : decode cX2_there 17 = .ok (.goto 4, 3) := by decide +kernel
theorem dX2_there_20 : decode cX2_there 20 = .ok (.iconst 0, 1) := by decide +kernel
theorem dX2_there_21 : decode cX2_there 21 = .ok (.ireturn, 1) := by decide +kernel
set_option maxRecDepth 20000 in
theorem ggX2_read_X2_there : GoodIn wsX2_read wsX2_there := goodIn_r _ [7, 8, 9] (by decide +kernel) (by decide +kernel)
set_option maxRecDepth 20000 in
theorem gX2_read_X2_there : GoodIn wsX2_read (va_wsS RX2 28 yX2_there wsX2_there) := goodIn_app (goodIn_of _ (by decide +kernel)) ggX2_read_X2_there
theorem dX2_read_0 : decode cX2_read 0 = .ok (.lload_n 1, 1) := by decide +kernel
theorem dX2_read_1 : decode cX2_read 1 = .ok (.invokestatic 28, 3) := by decide +kernel
theorem dX2_read_4 : decode cX2_read 4 = .ok (.ifCond .ne 11, 3) := by decide +kernel
theorem dX2_read_7 : decode cX2_read 7 = .ok (.new 32, 3) := by decide +kernel
theorem dX2_read_10 : decode cX2_read 10 = .ok (.dup, 1) := by decide +kernel
theorem dX2_read_11 : decode cX2_read 11 = .ok (.invokespecial 34, 3) := by decide +kernel
theorem dX2_read_14 : decode cX2_read 14 = .ok (.athrow, 1) := by decide +kernel
theorem dX2_read_15 : decode cX2_read 15 = .ok (.aload_n 0, 1) := by decide +kernel
theorem dX2_read_16 : decode cX2_read 16 = .ok (.getfield 10, 3) := by decide +kernel
theorem dX2_read_19 : decode cX2_read 19 = .ok (.lload_n 1, 1) := by decide +kernel
theorem dX2_read_20 : decode cX2_read 20 = .ok (.l2i, 1) := by decide +kernel
theorem dX2_read_21 : decode cX2_read 21 = .ok (.baload, 1) := by decide +kernel
theorem dX2_read_22 : decode cX2_read 22 = .ok (.sipush 255, 3) := by decide +kernel
theorem dX2_read_25 : decode cX2_read 25 = .ok (.iand, 1) := by decide +kernel
theorem dX2_read_26 : decode cX2_read 26 = .ok (.ireturn, 1) := by decide +kernel
set_option maxRecDepth 20000 in
theorem ggX2_write_X2_there : GoodIn wsX2_write wsX2_there := goodIn_r _ [7, 8, 9] (by decide +kernel) (by decide +kernel)
set_option maxRecDepth 20000 in
theorem gX2_write_X2_there : GoodIn wsX2_write (va_wsS RX2 28 yX2_there wsX2_there) := goodIn_app (goodIn_of _ (by decide +kernel)) ggX2_write_X2_there
theorem dX2_write_0 : decode cX2_write 0 = .ok (.lload_n 1, 1) := by decide +kernel
theorem dX2_write_1 : decode cX2_write 1 = .ok (.invokestatic 28, 3) := by decide +kernel
theorem dX2_write_4 : decode cX2_write 4 = .ok (.ifCond .ne 11, 3) := by decide +kernel
theorem dX2_write_7 : decode cX2_write 7 = .ok (.new 32, 3) := by decide +kernel
theorem dX2_write_10 : decode cX2_write 10 = .ok (.dup, 1) := by decide +kernel
theorem dX2_write_11 : decode cX2_write 11 = .ok (.invokespecial 34, 3) := by decide +kernel
theorem dX2_write_14 : decode cX2_write 14 = .ok (.athrow, 1) := by decide +kernel
theorem dX2_write_15 : decode cX2_write 15 = .ok (.aload_n 0, 1) := by decide +kernel
theorem dX2_write_16 : decode cX2_write 16 = .ok (.getfield 10, 3) := by decide +kernel
theorem dX2_write_19 : decode cX2_write 19 = .ok (.lload_n 1, 1) := by decide +kernel
theorem dX2_write_20 : decode cX2_write 20 = .ok (.l2i, 1) := by decide +kernel
theorem dX2_write_21 : decode cX2_write 21 = .ok (.iload_n 3, 1) := by decide +kernel
theorem dX2_write_22 : decode cX2_write 22 = .ok (.i2b, 1) := by decide +kernel
theorem dX2_write_23 : decode cX2_write 23 = .ok (.bastore, 1) := by decide +kernel
theorem dX2_write_24 : decode cX2_write 24 = .ok (.return_, 1) := by decide +kernel
set_option maxRecDepth 20000 in
theorem ggX2_number_X2_read : GoodIn wsX2_number wsX2_read := goodIn_ca (goodIn_r _ [5, 6, 7, 8, 9, 10, 4, 11, 12, 13, 14, 15, 16, 17, 18] (by decide +kernel) (by decide +kernel)) (goodIn_sub (fun _ h => List.mem_cons_of_mem _ (List.mem_append_right _ h)) (by decide +kernel))
set_option maxRecDepth 20000 in
theorem gX2_number_X2_read : GoodIn wsX2_number (wsV RX2 35 RX2 yX2_read wsX2_read) := goodIn_app (goodIn_of _ (by decide +kernel)) ggX2_number_X2_read
theorem dX2_number_0 : decode cX2_number 0 = .ok (.iconst 0, 1) := by decide +kernel
theorem dX2_number_1 : decode cX2_number 1 = .ok (.istore_n 3, 1) := by decide +kernel
theorem dX2_number_2 : decode cX2_number 2 = .ok (.iconst 0, 1) := by decide +kernel
theorem dX2_number_3 : decode cX2_number 3 = .ok (.istore 4, 2) := by decide +kernel
theorem dX2_number_5 : decode cX2_number 5 = .ok (.iload 4, 2) := by decide +kernel
theorem dX2_number_7 : decode cX2_number 7 = .ok (.iconst 4, 1) := by decide +kernel
theorem dX2_number_8 : decode cX2_number 8 = .ok (.if_icmp .ge 27, 3) := by decide +kernel
theorem dX2_number_11 : decode cX2_number 11 = .ok (.iload_n 3, 1) := by decide +kernel
theorem dX2_number_12 : decode cX2_number 12 = .ok (.aload_n 0, 1) := by decide +kernel
theorem dX2_number_13 : decode cX2_number 13 = .ok (.lload_n 1, 1) := by decide +kernel
theorem dX2_number_14 : decode cX2_number 14 = .ok (.iload 4, 2) := by decide +kernel
theorem dX2_number_16 : decode cX2_number 16 = .ok (.i2l, 1) := by decide +kernel
theorem dX2_number_17 : decode cX2_number 17 = .ok (.ladd, 1) := by decide +kernel
theorem dX2_number_18 : decode cX2_number 18 = .ok (.invokevirtual 35, 3) := by decide +kernel
theorem dX2_number_21 : decode cX2_number 21 = .ok (.bipush 8, 2) := by decide +kernel
theorem dX2_number_23 : decode cX2_number 23 = .ok (.iload 4, 2) := by decide +kernel
theorem dX2_number_25 : decode cX2_number 25 = .ok (.imul, 1) := by decide +kernel
theorem dX2_number_26 : decode cX2_number 26 = .ok (.ishl, 1) := by decide +kernel
theorem dX2_number_27 : decode cX2_number 27 = .ok (.ior, 1) := by decide +kernel
theorem dX2_number_28 : decode cX2_number 28 = .ok (.istore_n 3, 1) := by decide +kernel
theorem dX2_number_29 : decode cX2_number 29 = .ok (.iinc 4 1, 3) := by decide +kernel
theorem dX2_number_32 : decode cX2_number 32 = .ok (.goto (-27), 3) := by decide +kernel
theorem dX2_number_35 : decode cX2_number 35 = .ok (.iload_n 3, 1) := by decide +kernel
theorem dX2_number_36 : decode cX2_number 36 = .ok (.ireturn, 1) := by decide +kernel
set_option maxRecDepth 20000 in
theorem ggX2_set_X2_there : GoodIn wsX2_set wsX2_there := goodIn_r _ [7, 8, 9] (by decide +kernel) (by decide +kernel)
set_option maxRecDepth 20000 in
theorem gX2_set_X2_there : GoodIn wsX2_set (va_wsS RX2 28 yX2_there wsX2_there) := goodIn_app (goodIn_of _ (by decide +kernel)) ggX2_set_X2_there
set_option maxRecDepth 20000 in
theorem ggX2_set_X2_write : GoodIn wsX2_set wsX2_write := goodIn_ca (goodIn_r _ [13, 1, 2, 14, 4, 5, 6, 7, 8, 9, 15, 16, 17, 18, 19] (by decide +kernel) (by decide +kernel)) (goodIn_sub (fun _ h => List.mem_cons_of_mem _ (List.mem_append_right _ h)) (by decide +kernel))
set_option maxRecDepth 20000 in
theorem gX2_set_X2_write : GoodIn wsX2_set (wsV RX2 41 RX2 yX2_write wsX2_write) := goodIn_app (goodIn_of _ (by decide +kernel)) ggX2_set_X2_write
theorem dX2_set_0 : decode cX2_set 0 = .ok (.lload_n 1, 1) := by decide +kernel
theorem dX2_set_1 : decode cX2_set 1 = .ok (.invokestatic 28, 3) := by decide +kernel
theorem dX2_set_4 : decode cX2_set 4 = .ok (.ifCond .eq 14, 3) := by decide +kernel
theorem dX2_set_7 : decode cX2_set 7 = .ok (.lload_n 1, 1) := by decide +kernel
theorem dX2_set_8 : decode cX2_set 8 = .ok (.ldc2_w 39, 3) := by decide +kernel
theorem dX2_set_11 : decode cX2_set 11 = .ok (.ladd, 1) := by decide +kernel
theorem dX2_set_12 : decode cX2_set 12 = .ok (.invokestatic 28, 3) := by decide +kernel
theorem dX2_set_15 : decode cX2_set 15 = .ok (.ifCond .ne 11, 3) := by decide +kernel
theorem dX2_set_18 : decode cX2_set 18 = .ok (.new 32, 3) := by decide +kernel
theorem dX2_set_21 : decode cX2_set 21 = .ok (.dup, 1) := by decide +kernel
theorem dX2_set_22 : decode cX2_set 22 = .ok (.invokespecial 34, 3) := by decide +kernel
theorem dX2_set_25 : decode cX2_set 25 = .ok (.athrow, 1) := by decide +kernel
theorem dX2_set_26 : decode cX2_set 26 = .ok (.iconst 0, 1) := by decide +kernel
theorem dX2_set_27 : decode cX2_set 27 = .ok (.istore 4, 2) := by decide +kernel
theorem dX2_set_29 : decode cX2_set 29 = .ok (.iload 4, 2) := by decide +kernel
theorem dX2_set_31 : decode cX2_set 31 = .ok (.iconst 4, 1) := by decide +kernel
theorem dX2_set_32 : decode cX2_set 32 = .ok (.if_icmp .ge 25, 3) := by decide +kernel
theorem dX2_set_35 : decode cX2_set 35 = .ok (.aload_n 0, 1) := by decide +kernel
theorem dX2_set_36 : decode cX2_set 36 = .ok (.lload_n 1, 1) := by decide +kernel
theorem dX2_set_37 : decode cX2_set 37 = .ok (.iload 4, 2) := by decide +kernel
theorem dX2_set_39 : decode cX2_set 39 = .ok (.i2l, 1) := by decide +kernel
theorem dX2_set_40 : decode cX2_set 40 = .ok (.ladd, 1) := by decide +kernel
theorem dX2_set_41 : decode cX2_set 41 = .ok (.iload_n 3, 1) := by decide +kernel
theorem dX2_set_42 : decode cX2_set 42 = .ok (.bipush 8, 2) := by decide +kernel
theorem dX2_set_44 : decode cX2_set 44 = .ok (.iload 4, 2) := by decide +kernel
theorem dX2_set_46 : decode cX2_set 46 = .ok (.imul, 1) := by decide +kernel
theorem dX2_set_47 : decode cX2_set 47 = .ok (.ishr, 1) := by decide +kernel
theorem dX2_set_48 : decode cX2_set 48 = .ok (.invokevirtual 41, 3) := by decide +kernel
theorem dX2_set_51 : decode cX2_set 51 = .ok (.iinc 4 1, 3) := by decide +kernel
theorem dX2_set_54 : decode cX2_set 54 = .ok (.goto (-25), 3) := by decide +kernel
theorem dX2_set_57 : decode cX2_set 57 = .ok (.return_, 1) := by decide +kernel
theorem dX2_without_0 : decode cX2_without 0 = .ok (.iload_n 0, 1) := by decide +kernel
theorem dX2_without_1 : decode cX2_without 1 = .ok (.i2l, 1) := by decide +kernel
theorem dX2_without_2 : decode cX2_without 2 = .ok (.ldc2_w 45, 3) := by decide +kernel
theorem dX2_without_5 : decode cX2_without 5 = .ok (.land, 1) := by decide +kernel
theorem dX2_without_6 : decode cX2_without 6 = .ok (.lreturn, 1) := by decide +kernel
set_option maxRecDepth 20000 in
theorem ggX2_sizeAt_X2_number : GoodIn wsX2_sizeAt wsX2_number := goodIn_ca (goodIn_r _ [5, 6, 7, 8, 4, 9, 10, 11, 12, 13, 14, 15, 16, 17, 22, 23, 24, 25, 26] (by decide +kernel) (by decide +kernel)) (goodIn_sub (fun _ h => List.mem_cons_of_mem _ (List.mem_append_right _ h)) (by decide +kernel))
set_option maxRecDepth 20000 in
theorem gX2_sizeAt_X2_number : GoodIn wsX2_sizeAt (wsV RX2 47 RX2 yX2_number wsX2_number) := goodIn_app (goodIn_of _ (by decide +kernel)) ggX2_sizeAt_X2_number
set_option maxRecDepth 20000 in
theorem ggX2_sizeAt_X2_without : GoodIn wsX2_sizeAt wsX2_without := goodIn_r _ [20, 21] (by decide +kernel) (by decide +kernel)
set_option maxRecDepth 20000 in
theorem gX2_sizeAt_X2_without : GoodIn wsX2_sizeAt (va_wsS RX2 50 yX2_without wsX2_without) := goodIn_app (goodIn_of _ (by decide +kernel)) ggX2_sizeAt_X2_without
theorem dX2_sizeAt_0 : decode cX2_sizeAt 0 = .ok (.aload_n 0, 1) := by decide +kernel
theorem dX2_sizeAt_1 : decode cX2_sizeAt 1 = .ok (.lload_n 1, 1) := by decide +kernel
theorem dX2_sizeAt_2 : decode cX2_sizeAt 2 = .ok (.invokevirtual 47, 3) := by decide +kernel
theorem dX2_sizeAt_5 : decode cX2_sizeAt 5 = .ok (.invokestatic 50, 3) := by decide +kernel
theorem dX2_sizeAt_8 : decode cX2_sizeAt 8 = .ok (.lreturn, 1) := by decide +kernel
set_option maxRecDepth 20000 in
theorem ggX2_takenAt_X2_number : GoodIn wsX2_takenAt wsX2_number := goodIn_ca (goodIn_r _ [6, 7, 8, 9, 5, 10, 11, 12, 13, 14, 15, 16, 17, 18, 19, 20, 21, 22, 23] (by decide +kernel) (by decide +kernel)) (goodIn_sub (fun _ h => List.mem_cons_of_mem _ (List.mem_append_right _ h)) (by decide +kernel))
set_option maxRecDepth 20000 in
theorem gX2_takenAt_X2_number : GoodIn wsX2_takenAt (wsV RX2 47 RX2 yX2_number wsX2_number) := goodIn_app (goodIn_of _ (by decide +kernel)) ggX2_takenAt_X2_number
theorem dX2_takenAt_0 : decode cX2_takenAt 0 = .ok (.aload_n 0, 1) := by decide +kernel
theorem dX2_takenAt_1 : decode cX2_takenAt 1 = .ok (.lload_n 1, 1) := by decide +kernel
theorem dX2_takenAt_2 : decode cX2_takenAt 2 = .ok (.ldc2_w 54, 3) := by decide +kernel
theorem dX2_takenAt_5 : decode cX2_takenAt 5 = .ok (.ladd, 1) := by decide +kernel
theorem dX2_takenAt_6 : decode cX2_takenAt 6 = .ok (.invokevirtual 47, 3) := by decide +kernel
theorem dX2_takenAt_9 : decode cX2_takenAt 9 = .ok (.iconst 1, 1) := by decide +kernel
theorem dX2_takenAt_10 : decode cX2_takenAt 10 = .ok (.if_icmp .ne 7, 3) := by decide +kernel
theorem dX2_takenAt_13 : decode cX2_takenAt 13 = .ok (.iconst 1, 1) := by decide +kernel
theorem dX2_takenAt_14 : decode cX2_takenAt 14 = .ok (.goto 4, 3) := by decide +kernel
theorem dX2_takenAt_17 : decode cX2_takenAt 17 = .ok (.iconst 0, 1) := by decide +kernel
theorem dX2_takenAt_18 : decode cX2_takenAt 18 = .ok (.ireturn, 1) := by decide +kernel
set_option maxRecDepth 20000 in
theorem ggX2_found_X2_sizeAt : GoodIn wsX2_found wsX2_sizeAt := goodIn_ca (goodIn_r _ [12, 13, 14, 15, 11, 16, 17, 18, 19, 20, 1, 2, 21, 22, 23, 24, 5, 25, 26, 27, 28, 29, 35, 36, 37, 38, 39] (by decide +kernel) (by decide +kernel)) (goodIn_sub (fun _ h => List.mem_cons_of_mem _ (List.mem_append_right _ h)) (by decide +kernel))
set_option maxRecDepth 20000 in
theorem gX2_found_X2_sizeAt : GoodIn wsX2_found (wsV RX2 62 RX2 yX2_sizeAt wsX2_sizeAt) := goodIn_app (goodIn_of _ (by decide +kernel)) ggX2_found_X2_sizeAt
set_option maxRecDepth 20000 in
theorem ggX2_found_X2_takenAt : GoodIn wsX2_found wsX2_takenAt := goodIn_ca (goodIn_r _ [33, 34, 13, 14, 15, 11, 16, 17, 18, 19, 20, 1, 2, 21, 22, 23, 24, 5, 25, 35, 36, 37, 38, 39] (by decide +kernel) (by decide +kernel)) (goodIn_sub (fun _ h => List.mem_cons_of_mem _ (List.mem_append_right _ h)) (by decide +kernel))
set_option maxRecDepth 20000 in
theorem gX2_found_X2_takenAt : GoodIn wsX2_found (wsV RX2 66 RX2 yX2_takenAt wsX2_takenAt) := goodIn_app (goodIn_of _ (by decide +kernel)) ggX2_found_X2_takenAt
set_option maxRecDepth 20000 in
theorem ggX2_found_X2_without : GoodIn wsX2_found wsX2_without := goodIn_r _ [28, 29] (by decide +kernel) (by decide +kernel)
set_option maxRecDepth 20000 in
theorem gX2_found_X2_without : GoodIn wsX2_found (va_wsS RX2 50 yX2_without wsX2_without) := goodIn_app (goodIn_of _ (by decide +kernel)) ggX2_found_X2_without
theorem dX2_found_0 : decode cX2_found 0 = .ok (.aload_n 0, 1) := by decide +kernel
theorem dX2_found_1 : decode cX2_found 1 = .ok (.ldc2_w 56, 3) := by decide +kernel
theorem dX2_found_4 : decode cX2_found 4 = .ok (.putfield 58, 3) := by decide +kernel
theorem dX2_found_7 : decode cX2_found 7 = .ok (.ldc2_w 24, 3) := by decide +kernel
theorem dX2_found_10 : decode cX2_found 10 = .ok (.lstore_n 2, 1) := by decide +kernel
theorem dX2_found_11 : decode cX2_found 11 = .ok (.lload_n 2, 1) := by decide +kernel
theorem dX2_found_12 : decode cX2_found 12 = .ok (.aload_n 0, 1) := by decide +kernel
theorem dX2_found_13 : decode cX2_found 13 = .ok (.getfield 14, 3) := by decide +kernel
theorem dX2_found_16 : decode cX2_found 16 = .ok (.i2l, 1) := by decide +kernel
theorem dX2_found_17 : decode cX2_found 17 = .ok (.lcmp, 1) := by decide +kernel
theorem dX2_found_18 : decode cX2_found 18 = .ok (.ifCond .ge 54, 3) := by decide +kernel
theorem dX2_found_21 : decode cX2_found 21 = .ok (.aload_n 0, 1) := by decide +kernel
theorem dX2_found_22 : decode cX2_found 22 = .ok (.lload_n 2, 1) := by decide +kernel
theorem dX2_found_23 : decode cX2_found 23 = .ok (.invokevirtual 62, 3) := by decide +kernel
theorem dX2_found_26 : decode cX2_found 26 = .ok (.lstore 4, 2) := by decide +kernel
theorem dX2_found_28 : decode cX2_found 28 = .ok (.aload_n 0, 1) := by decide +kernel
theorem dX2_found_29 : decode cX2_found 29 = .ok (.lload_n 2, 1) := by decide +kernel
theorem dX2_found_30 : decode cX2_found 30 = .ok (.invokevirtual 66, 3) := by decide +kernel
theorem dX2_found_33 : decode cX2_found 33 = .ok (.istore 6, 2) := by decide +kernel
theorem dX2_found_35 : decode cX2_found 35 = .ok (.lload_n 2, 1) := by decide +kernel
theorem dX2_found_36 : decode cX2_found 36 = .ok (.ldc2_w 69, 3) := by decide +kernel
theorem dX2_found_39 : decode cX2_found 39 = .ok (.ladd, 1) := by decide +kernel
theorem dX2_found_40 : decode cX2_found 40 = .ok (.iload_n 1, 1) := by decide +kernel
theorem dX2_found_41 : decode cX2_found 41 = .ok (.invokestatic 50, 3) := by decide +kernel
theorem dX2_found_44 : decode cX2_found 44 = .ok (.lcmp, 1) := by decide +kernel
theorem dX2_found_45 : decode cX2_found 45 = .ok (.ifCond .ne 10, 3) := by decide +kernel
theorem dX2_found_48 : decode cX2_found 48 = .ok (.iload 6, 2) := by decide +kernel
theorem dX2_found_50 : decode cX2_found 50 = .ok (.ifCond .eq 5, 3) := by decide +kernel
theorem dX2_found_53 : decode cX2_found 53 = .ok (.lload_n 2, 1) := by decide +kernel
theorem dX2_found_54 : decode cX2_found 54 = .ok (.lreturn, 1) := by decide +kernel
theorem dX2_found_55 : decode cX2_found 55 = .ok (.aload_n 0, 1) := by decide +kernel
theorem dX2_found_56 : decode cX2_found 56 = .ok (.lload_n 2, 1) := by decide +kernel
theorem dX2_found_57 : decode cX2_found 57 = .ok (.putfield 58, 3) := by decide +kernel
theorem dX2_found_60 : decode cX2_found 60 = .ok (.lload_n 2, 1) := by decide +kernel
theorem dX2_found_61 : decode cX2_found 61 = .ok (.ldc2_w 69, 3) := by decide +kernel
theorem dX2_found_64 : decode cX2_found 64 = .ok (.ladd, 1) := by decide +kernel
theorem dX2_found_65 : decode cX2_found 65 = .ok (.lload 4, 2) := by decide +kernel
theorem dX2_found_67 : decode cX2_found 67 = .ok (.ladd, 1) := by decide +kernel
theorem dX2_found_68 : decode cX2_found 68 = .ok (.lstore_n 2, 1) := by decide +kernel
theorem dX2_found_69 : decode cX2_found 69 = .ok (.goto (-58), 3) := by decide +kernel
theorem dX2_found_72 : decode cX2_found 72 = .ok (.new 32, 3) := by decide +kernel
theorem dX2_found_75 : decode cX2_found 75 = .ok (.dup, 1) := by decide +kernel
theorem dX2_found_76 : decode cX2_found 76 = .ok (.invokespecial 34, 3) := by decide +kernel
theorem dX2_found_79 : decode cX2_found 79 = .ok (.athrow, 1) := by decide +kernel
theorem dX2_up_0 : decode cX2_up 0 = .ok (.lload_n 0, 1) := by decide +kernel
theorem dX2_up_1 : decode cX2_up 1 = .ok (.lconst 0, 1) := by decide +kernel
theorem dX2_up_2 : decode cX2_up 2 = .ok (.lcmp, 1) := by decide +kernel
theorem dX2_up_3 : decode cX2_up 3 = .ok (.ifCond .ne 9, 3) := by decide +kernel
theorem dX2_up_6 : decode cX2_up 6 = .ok (.ldc2_w 69, 3) := by decide +kernel
theorem dX2_up_9 : decode cX2_up 9 = .ok (.goto 16, 3) := by decide +kernel
theorem dX2_up_12 : decode cX2_up 12 = .ok (.lload_n 0, 1) := by decide +kernel
theorem dX2_up_13 : decode cX2_up 13 = .ok (.ldc2_w 71, 3) := by decide +kernel
theorem dX2_up_16 : decode cX2_up 16 = .ok (.ladd, 1) := by decide +kernel
theorem dX2_up_17 : decode cX2_up 17 = .ok (.ldc2_w 69, 3) := by decide +kernel
theorem dX2_up_20 : decode cX2_up 20 = .ok (.ldiv, 1) := by decide +kernel
theorem dX2_up_21 : decode cX2_up 21 = .ok (.ldc2_w 69, 3) := by decide +kernel
theorem dX2_up_24 : decode cX2_up 24 = .ok (.lmul, 1) := by decide +kernel
theorem dX2_up_25 : decode cX2_up 25 = .ok (.lreturn, 1) := by decide +kernel
set_option maxRecDepth 20000 in
theorem ggX2_take_X2_up : GoodIn wsX2_take wsX2_up := goodIn_r _ [12, 4, 13] (by decide +kernel) (by decide +kernel)
set_option maxRecDepth 20000 in
theorem gX2_take_X2_up : GoodIn wsX2_take (va_wsS RX2 73 yX2_up wsX2_up) := goodIn_app (goodIn_of _ (by decide +kernel)) ggX2_take_X2_up
set_option maxRecDepth 20000 in
theorem ggX2_take_X2_sizeAt : GoodIn wsX2_take wsX2_sizeAt := goodIn_ca (goodIn_r _ [17, 18, 19, 20, 11, 21, 22, 23, 24, 25, 26, 27, 28, 29, 30, 31, 1, 32, 33, 34, 35, 36, 50, 51, 52, 53, 54] (by decide +kernel) (by decide +kernel)) (goodIn_sub (fun _ h => List.mem_cons_of_mem _ (List.mem_append_right _ h)) (by decide +kernel))
set_option maxRecDepth 20000 in
theorem gX2_take_X2_sizeAt : GoodIn wsX2_take (wsV RX2 62 RX2 yX2_sizeAt wsX2_sizeAt) := goodIn_app (goodIn_of _ (by decide +kernel)) ggX2_take_X2_sizeAt
set_option maxRecDepth 20000 in
theorem ggX2_take_X2_takenAt : GoodIn wsX2_take wsX2_takenAt := goodIn_ca (goodIn_r _ [40, 6, 18, 19, 20, 11, 21, 22, 23, 24, 25, 26, 27, 28, 29, 30, 31, 1, 32, 50, 51, 52, 53, 54] (by decide +kernel) (by decide +kernel)) (goodIn_sub (fun _ h => List.mem_cons_of_mem _ (List.mem_append_right _ h)) (by decide +kernel))
set_option maxRecDepth 20000 in
theorem gX2_take_X2_takenAt : GoodIn wsX2_take (wsV RX2 66 RX2 yX2_takenAt wsX2_takenAt) := goodIn_app (goodIn_of _ (by decide +kernel)) ggX2_take_X2_takenAt
set_option maxRecDepth 20000 in
theorem ggX2_take_X2_set : GoodIn wsX2_take wsX2_set := goodIn_ca (goodIn_r _ [44, 26, 27, 45, 29, 30, 11, 31, 1, 32, 46, 47, 48, 49, 28, 50, 51, 52, 53, 54] (by decide +kernel) (by decide +kernel)) (goodIn_sub (fun _ h => List.mem_cons_of_mem _ (List.mem_append_right _ h)) (by decide +kernel))
set_option maxRecDepth 20000 in
theorem gX2_take_X2_set : GoodIn wsX2_take (wsV RX2 78 RX2 yX2_set wsX2_set) := goodIn_app (goodIn_of _ (by decide +kernel)) ggX2_take_X2_set
theorem dX2_take_0 : decode cX2_take 0 = .ok (.lload_n 1, 1) := by decide +kernel
theorem dX2_take_1 : decode cX2_take 1 = .ok (.invokestatic 73, 3) := by decide +kernel
theorem dX2_take_4 : decode cX2_take 4 = .ok (.lstore_n 3, 1) := by decide +kernel
theorem dX2_take_5 : decode cX2_take 5 = .ok (.ldc2_w 24, 3) := by decide +kernel
theorem dX2_take_8 : decode cX2_take 8 = .ok (.lstore 5, 2) := by decide +kernel
theorem dX2_take_10 : decode cX2_take 10 = .ok (.lload 5, 2) := by decide +kernel
theorem dX2_take_12 : decode cX2_take 12 = .ok (.aload_n 0, 1) := by decide +kernel
theorem dX2_take_13 : decode cX2_take 13 = .ok (.getfield 14, 3) := by decide +kernel
theorem dX2_take_16 : decode cX2_take 16 = .ok (.i2l, 1) := by decide +kernel
theorem dX2_take_17 : decode cX2_take 17 = .ok (.lcmp, 1) := by decide +kernel
theorem dX2_take_18 : decode cX2_take 18 = .ok (.ifCond .ge 116, 3) := by decide +kernel
theorem dX2_take_21 : decode cX2_take 21 = .ok (.aload_n 0, 1) := by decide +kernel
theorem dX2_take_22 : decode cX2_take 22 = .ok (.lload 5, 2) := by decide +kernel
theorem dX2_take_24 : decode cX2_take 24 = .ok (.invokevirtual 62, 3) := by decide +kernel
theorem dX2_take_27 : decode cX2_take 27 = .ok (.lstore 7, 2) := by decide +kernel
theorem dX2_take_29 : decode cX2_take 29 = .ok (.aload_n 0, 1) := by decide +kernel
theorem dX2_take_30 : decode cX2_take 30 = .ok (.lload 5, 2) := by decide +kernel
theorem dX2_take_32 : decode cX2_take 32 = .ok (.invokevirtual 66, 3) := by decide +kernel
theorem dX2_take_35 : decode cX2_take 35 = .ok (.istore 9, 2) := by decide +kernel
theorem dX2_take_37 : decode cX2_take 37 = .ok (.iload 9, 2) := by decide +kernel
theorem dX2_take_39 : decode cX2_take 39 = .ok (.ifCond .ne 81, 3) := by decide +kernel
theorem dX2_take_42 : decode cX2_take 42 = .ok (.lload 7, 2) := by decide +kernel
theorem dX2_take_44 : decode cX2_take 44 = .ok (.lload_n 3, 1) := by decide +kernel
theorem dX2_take_45 : decode cX2_take 45 = .ok (.lcmp, 1) := by decide +kernel
theorem dX2_take_46 : decode cX2_take 46 = .ok (.ifCond .lt 74, 3) := by decide +kernel
theorem dX2_take_49 : decode cX2_take 49 = .ok (.lload 7, 2) := by decide +kernel
theorem dX2_take_51 : decode cX2_take 51 = .ok (.lload_n 3, 1) := by decide +kernel
theorem dX2_take_52 : decode cX2_take 52 = .ok (.lsub, 1) := by decide +kernel
theorem dX2_take_53 : decode cX2_take 53 = .ok (.ldc2_w 76, 3) := by decide +kernel
theorem dX2_take_56 : decode cX2_take 56 = .ok (.lcmp, 1) := by decide +kernel
theorem dX2_take_57 : decode cX2_take 57 = .ok (.ifCond .lt 45, 3) := by decide +kernel
theorem dX2_take_60 : decode cX2_take 60 = .ok (.aload_n 0, 1) := by decide +kernel
theorem dX2_take_61 : decode cX2_take 61 = .ok (.lload 5, 2) := by decide +kernel
theorem dX2_take_63 : decode cX2_take 63 = .ok (.ldc2_w 69, 3) := by decide +kernel
theorem dX2_take_66 : decode cX2_take 66 = .ok (.ladd, 1) := by decide +kernel
theorem dX2_take_67 : decode cX2_take 67 = .ok (.lload_n 3, 1) := by decide +kernel
theorem dX2_take_68 : decode cX2_take 68 = .ok (.ladd, 1) := by decide +kernel
theorem dX2_take_69 : decode cX2_take 69 = .ok (.lload 7, 2) := by decide +kernel
theorem dX2_take_71 : decode cX2_take 71 = .ok (.lload_n 3, 1) := by decide +kernel
theorem dX2_take_72 : decode cX2_take 72 = .ok (.lsub, 1) := by decide +kernel
theorem dX2_take_73 : decode cX2_take 73 = .ok (.ldc2_w 69, 3) := by decide +kernel
theorem dX2_take_76 : decode cX2_take 76 = .ok (.lsub, 1) := by decide +kernel
theorem dX2_take_77 : decode cX2_take 77 = .ok (.l2i, 1) := by decide +kernel
theorem dX2_take_78 : decode cX2_take 78 = .ok (.invokevirtual 78, 3) := by decide +kernel
theorem dX2_take_81 : decode cX2_take 81 = .ok (.aload_n 0, 1) := by decide +kernel
theorem dX2_take_82 : decode cX2_take 82 = .ok (.lload 5, 2) := by decide +kernel
theorem dX2_take_84 : decode cX2_take 84 = .ok (.ldc2_w 81, 3) := by decide +kernel
theorem dX2_take_87 : decode cX2_take 87 = .ok (.ladd, 1) := by decide +kernel
theorem dX2_take_88 : decode cX2_take 88 = .ok (.lload_n 3, 1) := by decide +kernel
theorem dX2_take_89 : decode cX2_take 89 = .ok (.ladd, 1) := by decide +kernel
theorem dX2_take_90 : decode cX2_take 90 = .ok (.iconst 0, 1) := by decide +kernel
theorem dX2_take_91 : decode cX2_take 91 = .ok (.invokevirtual 78, 3) := by decide +kernel
theorem dX2_take_94 : decode cX2_take 94 = .ok (.aload_n 0, 1) := by decide +kernel
theorem dX2_take_95 : decode cX2_take 95 = .ok (.lload 5, 2) := by decide +kernel
theorem dX2_take_97 : decode cX2_take 97 = .ok (.lload_n 3, 1) := by decide +kernel
theorem dX2_take_98 : decode cX2_take 98 = .ok (.l2i, 1) := by decide +kernel
theorem dX2_take_99 : decode cX2_take 99 = .ok (.invokevirtual 78, 3) := by decide +kernel
theorem dX2_take_102 : decode cX2_take 102 = .ok (.aload_n 0, 1) := by decide +kernel
theorem dX2_take_103 : decode cX2_take 103 = .ok (.lload 5, 2) := by decide +kernel
theorem dX2_take_105 : decode cX2_take 105 = .ok (.ldc2_w 54, 3) := by decide +kernel
theorem dX2_take_108 : decode cX2_take 108 = .ok (.ladd, 1) := by decide +kernel
theorem dX2_take_109 : decode cX2_take 109 = .ok (.iconst 1, 1) := by decide +kernel
theorem dX2_take_110 : decode cX2_take 110 = .ok (.invokevirtual 78, 3) := by decide +kernel
theorem dX2_take_113 : decode cX2_take 113 = .ok (.lload 5, 2) := by decide +kernel
theorem dX2_take_115 : decode cX2_take 115 = .ok (.l2i, 1) := by decide +kernel
theorem dX2_take_116 : decode cX2_take 116 = .ok (.bipush 8, 2) := by decide +kernel
theorem dX2_take_118 : decode cX2_take 118 = .ok (.iadd, 1) := by decide +kernel
theorem dX2_take_119 : decode cX2_take 119 = .ok (.ireturn, 1) := by decide +kernel
theorem dX2_take_120 : decode cX2_take 120 = .ok (.lload 5, 2) := by decide +kernel
theorem dX2_take_122 : decode cX2_take 122 = .ok (.ldc2_w 69, 3) := by decide +kernel
theorem dX2_take_125 : decode cX2_take 125 = .ok (.ladd, 1) := by decide +kernel
theorem dX2_take_126 : decode cX2_take 126 = .ok (.lload 7, 2) := by decide +kernel
theorem dX2_take_128 : decode cX2_take 128 = .ok (.ladd, 1) := by decide +kernel
theorem dX2_take_129 : decode cX2_take 129 = .ok (.lstore 5, 2) := by decide +kernel
theorem dX2_take_131 : decode cX2_take 131 = .ok (.goto (-121), 3) := by decide +kernel
theorem dX2_take_134 : decode cX2_take 134 = .ok (.lload_n 1, 1) := by decide +kernel
theorem dX2_take_135 : decode cX2_take 135 = .ok (.ldc2_w 83, 3) := by decide +kernel
theorem dX2_take_138 : decode cX2_take 138 = .ok (.lcmp, 1) := by decide +kernel
theorem dX2_take_139 : decode cX2_take 139 = .ok (.ifCond .gt 26, 3) := by decide +kernel
theorem dX2_take_142 : decode cX2_take 142 = .ok (.aload_n 0, 1) := by decide +kernel
theorem dX2_take_143 : decode cX2_take 143 = .ok (.getfield 14, 3) := by decide +kernel
theorem dX2_take_146 : decode cX2_take 146 = .ok (.bipush 8, 2) := by decide +kernel
theorem dX2_take_148 : decode cX2_take 148 = .ok (.iadd, 1) := by decide +kernel
theorem dX2_take_149 : decode cX2_take 149 = .ok (.i2l, 1) := by decide +kernel
theorem dX2_take_150 : decode cX2_take 150 = .ok (.lload_n 3, 1) := by decide +kernel
theorem dX2_take_151 : decode cX2_take 151 = .ok (.ladd, 1) := by decide +kernel
theorem dX2_take_152 : decode cX2_take 152 = .ok (.aload_n 0, 1) := by decide +kernel
theorem dX2_take_153 : decode cX2_take 153 = .ok (.getfield 18, 3) := by decide +kernel
theorem dX2_take_156 : decode cX2_take 156 = .ok (.sipush 4096, 3) := by decide +kernel
theorem dX2_take_159 : decode cX2_take 159 = .ok (.isub, 1) := by decide +kernel
theorem dX2_take_160 : decode cX2_take 160 = .ok (.i2l, 1) := by decide +kernel
theorem dX2_take_161 : decode cX2_take 161 = .ok (.lcmp, 1) := by decide +kernel
theorem dX2_take_162 : decode cX2_take 162 = .ok (.ifCond .le 5, 3) := by decide +kernel
theorem dX2_take_165 : decode cX2_take 165 = .ok (.iconst 0, 1) := by decide +kernel
theorem dX2_take_166 : decode cX2_take 166 = .ok (.ireturn, 1) := by decide +kernel
theorem dX2_take_167 : decode cX2_take 167 = .ok (.aload_n 0, 1) := by decide +kernel
theorem dX2_take_168 : decode cX2_take 168 = .ok (.getfield 14, 3) := by decide +kernel
theorem dX2_take_171 : decode cX2_take 171 = .ok (.istore 7, 2) := by decide +kernel
theorem dX2_take_173 : decode cX2_take 173 = .ok (.aload_n 0, 1) := by decide +kernel
theorem dX2_take_174 : decode cX2_take 174 = .ok (.iload 7, 2) := by decide +kernel
theorem dX2_take_176 : decode cX2_take 176 = .ok (.i2l, 1) := by decide +kernel
theorem dX2_take_177 : decode cX2_take 177 = .ok (.lload_n 3, 1) := by decide +kernel
theorem dX2_take_178 : decode cX2_take 178 = .ok (.l2i, 1) := by decide +kernel
theorem dX2_take_179 : decode cX2_take 179 = .ok (.invokevirtual 78, 3) := by decide +kernel
theorem dX2_take_182 : decode cX2_take 182 = .ok (.aload_n 0, 1) := by decide +kernel
theorem dX2_take_183 : decode cX2_take 183 = .ok (.iload 7, 2) := by decide +kernel
theorem dX2_take_185 : decode cX2_take 185 = .ok (.iconst 4, 1) := by decide +kernel
theorem dX2_take_186 : decode cX2_take 186 = .ok (.iadd, 1) := by decide +kernel
theorem dX2_take_187 : decode cX2_take 187 = .ok (.i2l, 1) := by decide +kernel
theorem dX2_take_188 : decode cX2_take 188 = .ok (.iconst 1, 1) := by decide +kernel
theorem dX2_take_189 : decode cX2_take 189 = .ok (.invokevirtual 78, 3) := by decide +kernel
theorem dX2_take_192 : decode cX2_take 192 = .ok (.aload_n 0, 1) := by decide +kernel
theorem dX2_take_193 : decode cX2_take 193 = .ok (.aload_n 0, 1) := by decide +kernel
theorem dX2_take_194 : decode cX2_take 194 = .ok (.getfield 14, 3) := by decide +kernel
theorem dX2_take_197 : decode cX2_take 197 = .ok (.bipush 8, 2) := by decide +kernel
theorem dX2_take_199 : decode cX2_take 199 = .ok (.iadd, 1) := by decide +kernel
theorem dX2_take_200 : decode cX2_take 200 = .ok (.lload_n 3, 1) := by decide +kernel
theorem dX2_take_201 : decode cX2_take 201 = .ok (.l2i, 1) := by decide +kernel
theorem dX2_take_202 : decode cX2_take 202 = .ok (.iadd, 1) := by decide +kernel
theorem dX2_take_203 : decode cX2_take 203 = .ok (.putfield 14, 3) := by decide +kernel
theorem dX2_take_206 : decode cX2_take 206 = .ok (.iload 7, 2) := by decide +kernel
theorem dX2_take_208 : decode cX2_take 208 = .ok (.bipush 8, 2) := by decide +kernel
theorem dX2_take_210 : decode cX2_take 210 = .ok (.iadd, 1) := by decide +kernel
theorem dX2_take_211 : decode cX2_take 211 = .ok (.ireturn, 1) := by decide +kernel
set_option maxRecDepth 20000 in
theorem ggX2_give_X2_found : GoodIn wsX2_give wsX2_found := goodIn_ca (goodIn_r _ [9, 10, 11, 12, 1, 13, 4, 3, 14, 15, 16, 8, 17, 18, 19, 20, 21, 22, 23, 24, 25, 26, 27, 28, 29, 30, 31, 32, 33, 34, 35, 36, 37, 38, 2, 48, 49, 50, 51, 52] (by decide +kernel) (by decide +kernel)) (goodIn_sub (fun _ h => List.mem_cons_of_mem _ (List.mem_append_right _ h)) (by decide +kernel))
set_option maxRecDepth 20000 in
theorem gX2_give_X2_found : GoodIn wsX2_give (wsV RX2 85 RX2 yX2_found wsX2_found) := goodIn_app (goodIn_of _ (by decide +kernel)) ggX2_give_X2_found
set_option maxRecDepth 20000 in
theorem ggX2_give_X2_sizeAt : GoodIn wsX2_give wsX2_sizeAt := goodIn_ca (goodIn_r _ [17, 18, 19, 20, 8, 21, 22, 23, 24, 25, 10, 11, 26, 27, 28, 29, 13, 30, 31, 32, 33, 34, 48, 49, 50, 51, 52] (by decide +kernel) (by decide +kernel)) (goodIn_sub (fun _ h => List.mem_cons_of_mem _ (List.mem_append_right _ h)) (by decide +kernel))
set_option maxRecDepth 20000 in
theorem gX2_give_X2_sizeAt : GoodIn wsX2_give (wsV RX2 62 RX2 yX2_sizeAt wsX2_sizeAt) := goodIn_app (goodIn_of _ (by decide +kernel)) ggX2_give_X2_sizeAt
set_option maxRecDepth 20000 in
theorem ggX2_give_X2_set : GoodIn wsX2_give wsX2_set := goodIn_ca (goodIn_r _ [42, 10, 11, 43, 27, 28, 8, 29, 13, 30, 44, 45, 46, 47, 26, 48, 49, 50, 51, 52] (by decide +kernel) (by decide +kernel)) (goodIn_sub (fun _ h => List.mem_cons_of_mem _ (List.mem_append_right _ h)) (by decide +kernel))
set_option maxRecDepth 20000 in
theorem gX2_give_X2_set : GoodIn wsX2_give (wsV RX2 78 RX2 yX2_set wsX2_set) := goodIn_app (goodIn_of _ (by decide +kernel)) ggX2_give_X2_set
set_option maxRecDepth 20000 in
theorem ggX2_give_X2_takenAt : GoodIn wsX2_give wsX2_takenAt := goodIn_ca (goodIn_r _ [38, 2, 18, 19, 20, 8, 21, 22, 23, 24, 25, 10, 11, 26, 27, 28, 29, 13, 30, 48, 49, 50, 51, 52] (by decide +kernel) (by decide +kernel)) (goodIn_sub (fun _ h => List.mem_cons_of_mem _ (List.mem_append_right _ h)) (by decide +kernel))
set_option maxRecDepth 20000 in
theorem gX2_give_X2_takenAt : GoodIn wsX2_give (wsV RX2 66 RX2 yX2_takenAt wsX2_takenAt) := goodIn_app (goodIn_of _ (by decide +kernel)) ggX2_give_X2_takenAt
set_option maxRecDepth 20000 in
theorem ggX2_give_X2_without : GoodIn wsX2_give wsX2_without := goodIn_r _ [33, 34] (by decide +kernel) (by decide +kernel)
set_option maxRecDepth 20000 in
theorem gX2_give_X2_without : GoodIn wsX2_give (va_wsS RX2 50 yX2_without wsX2_without) := goodIn_app (goodIn_of _ (by decide +kernel)) ggX2_give_X2_without
theorem dX2_give_0 : decode cX2_give 0 = .ok (.iload_n 1, 1) := by decide +kernel
theorem dX2_give_1 : decode cX2_give 1 = .ok (.ifCond .ne 5, 3) := by decide +kernel
theorem dX2_give_4 : decode cX2_give 4 = .ok (.iconst 0, 1) := by decide +kernel
theorem dX2_give_5 : decode cX2_give 5 = .ok (.ireturn, 1) := by decide +kernel
theorem dX2_give_6 : decode cX2_give 6 = .ok (.aload_n 0, 1) := by decide +kernel
theorem dX2_give_7 : decode cX2_give 7 = .ok (.iload_n 1, 1) := by decide +kernel
theorem dX2_give_8 : decode cX2_give 8 = .ok (.invokevirtual 85, 3) := by decide +kernel
theorem dX2_give_11 : decode cX2_give 11 = .ok (.lstore_n 2, 1) := by decide +kernel
theorem dX2_give_12 : decode cX2_give 12 = .ok (.aload_n 0, 1) := by decide +kernel
theorem dX2_give_13 : decode cX2_give 13 = .ok (.getfield 58, 3) := by decide +kernel
theorem dX2_give_16 : decode cX2_give 16 = .ok (.lstore 4, 2) := by decide +kernel
theorem dX2_give_18 : decode cX2_give 18 = .ok (.aload_n 0, 1) := by decide +kernel
theorem dX2_give_19 : decode cX2_give 19 = .ok (.lload_n 2, 1) := by decide +kernel
theorem dX2_give_20 : decode cX2_give 20 = .ok (.invokevirtual 62, 3) := by decide +kernel
theorem dX2_give_23 : decode cX2_give 23 = .ok (.lstore 6, 2) := by decide +kernel
theorem dX2_give_25 : decode cX2_give 25 = .ok (.aload_n 0, 1) := by decide +kernel
theorem dX2_give_26 : decode cX2_give 26 = .ok (.lload_n 2, 1) := by decide +kernel
theorem dX2_give_27 : decode cX2_give 27 = .ok (.ldc2_w 54, 3) := by decide +kernel
theorem dX2_give_30 : decode cX2_give 30 = .ok (.ladd, 1) := by decide +kernel
theorem dX2_give_31 : decode cX2_give 31 = .ok (.iconst 0, 1) := by decide +kernel
theorem dX2_give_32 : decode cX2_give 32 = .ok (.invokevirtual 78, 3) := by decide +kernel
theorem dX2_give_35 : decode cX2_give 35 = .ok (.lload_n 2, 1) := by decide +kernel
theorem dX2_give_36 : decode cX2_give 36 = .ok (.ldc2_w 69, 3) := by decide +kernel
theorem dX2_give_39 : decode cX2_give 39 = .ok (.ladd, 1) := by decide +kernel
theorem dX2_give_40 : decode cX2_give 40 = .ok (.lload 6, 2) := by decide +kernel
theorem dX2_give_42 : decode cX2_give 42 = .ok (.ladd, 1) := by decide +kernel
theorem dX2_give_43 : decode cX2_give 43 = .ok (.lstore 8, 2) := by decide +kernel
theorem dX2_give_45 : decode cX2_give 45 = .ok (.lload 8, 2) := by decide +kernel
theorem dX2_give_47 : decode cX2_give 47 = .ok (.aload_n 0, 1) := by decide +kernel
theorem dX2_give_48 : decode cX2_give 48 = .ok (.getfield 14, 3) := by decide +kernel
theorem dX2_give_51 : decode cX2_give 51 = .ok (.i2l, 1) := by decide +kernel
theorem dX2_give_52 : decode cX2_give 52 = .ok (.lcmp, 1) := by decide +kernel
theorem dX2_give_53 : decode cX2_give 53 = .ok (.ifCond .ge 49, 3) := by decide +kernel
theorem dX2_give_56 : decode cX2_give 56 = .ok (.aload_n 0, 1) := by decide +kernel
theorem dX2_give_57 : decode cX2_give 57 = .ok (.lload 8, 2) := by decide +kernel
theorem dX2_give_59 : decode cX2_give 59 = .ok (.invokevirtual 66, 3) := by decide +kernel
theorem dX2_give_62 : decode cX2_give 62 = .ok (.ifCond .ne 40, 3) := by decide +kernel
theorem dX2_give_65 : decode cX2_give 65 = .ok (.lload 6, 2) := by decide +kernel
theorem dX2_give_67 : decode cX2_give 67 = .ok (.ldc2_w 69, 3) := by decide +kernel
theorem dX2_give_70 : decode cX2_give 70 = .ok (.ladd, 1) := by decide +kernel
theorem dX2_give_71 : decode cX2_give 71 = .ok (.aload_n 0, 1) := by decide +kernel
theorem dX2_give_72 : decode cX2_give 72 = .ok (.lload 8, 2) := by decide +kernel
theorem dX2_give_74 : decode cX2_give 74 = .ok (.invokevirtual 62, 3) := by decide +kernel
theorem dX2_give_77 : decode cX2_give 77 = .ok (.ladd, 1) := by decide +kernel
theorem dX2_give_78 : decode cX2_give 78 = .ok (.l2i, 1) := by decide +kernel
theorem dX2_give_79 : decode cX2_give 79 = .ok (.invokestatic 50, 3) := by decide +kernel
theorem dX2_give_82 : decode cX2_give 82 = .ok (.lstore 6, 2) := by decide +kernel
theorem dX2_give_84 : decode cX2_give 84 = .ok (.aload_n 0, 1) := by decide +kernel
theorem dX2_give_85 : decode cX2_give 85 = .ok (.lload_n 2, 1) := by decide +kernel
theorem dX2_give_86 : decode cX2_give 86 = .ok (.lload 6, 2) := by decide +kernel
theorem dX2_give_88 : decode cX2_give 88 = .ok (.l2i, 1) := by decide +kernel
theorem dX2_give_89 : decode cX2_give 89 = .ok (.invokevirtual 78, 3) := by decide +kernel
theorem dX2_give_92 : decode cX2_give 92 = .ok (.aload_n 0, 1) := by decide +kernel
theorem dX2_give_93 : decode cX2_give 93 = .ok (.lload_n 2, 1) := by decide +kernel
theorem dX2_give_94 : decode cX2_give 94 = .ok (.ldc2_w 54, 3) := by decide +kernel
theorem dX2_give_97 : decode cX2_give 97 = .ok (.ladd, 1) := by decide +kernel
theorem dX2_give_98 : decode cX2_give 98 = .ok (.iconst 0, 1) := by decide +kernel
theorem dX2_give_99 : decode cX2_give 99 = .ok (.invokevirtual 78, 3) := by decide +kernel
theorem dX2_give_102 : decode cX2_give 102 = .ok (.lload 4, 2) := by decide +kernel
theorem dX2_give_104 : decode cX2_give 104 = .ok (.lconst 0, 1) := by decide +kernel
theorem dX2_give_105 : decode cX2_give 105 = .ok (.lcmp, 1) := by decide +kernel
theorem dX2_give_106 : decode cX2_give 106 = .ok (.ifCond .lt 54, 3) := by decide +kernel
theorem dX2_give_109 : decode cX2_give 109 = .ok (.aload_n 0, 1) := by decide +kernel
theorem dX2_give_110 : decode cX2_give 110 = .ok (.lload 4, 2) := by decide +kernel
theorem dX2_give_112 : decode cX2_give 112 = .ok (.invokevirtual 66, 3) := by decide +kernel
theorem dX2_give_115 : decode cX2_give 115 = .ok (.ifCond .ne 45, 3) := by decide +kernel
theorem dX2_give_118 : decode cX2_give 118 = .ok (.aload_n 0, 1) := by decide +kernel
theorem dX2_give_119 : decode cX2_give 119 = .ok (.lload 4, 2) := by decide +kernel
theorem dX2_give_121 : decode cX2_give 121 = .ok (.invokevirtual 62, 3) := by decide +kernel
theorem dX2_give_124 : decode cX2_give 124 = .ok (.ldc2_w 69, 3) := by decide +kernel
theorem dX2_give_127 : decode cX2_give 127 = .ok (.ladd, 1) := by decide +kernel
theorem dX2_give_128 : decode cX2_give 128 = .ok (.lload 6, 2) := by decide +kernel
theorem dX2_give_130 : decode cX2_give 130 = .ok (.ladd, 1) := by decide +kernel
theorem dX2_give_131 : decode cX2_give 131 = .ok (.l2i, 1) := by decide +kernel
theorem dX2_give_132 : decode cX2_give 132 = .ok (.invokestatic 50, 3) := by decide +kernel
theorem dX2_give_135 : decode cX2_give 135 = .ok (.lstore 6, 2) := by decide +kernel
theorem dX2_give_137 : decode cX2_give 137 = .ok (.aload_n 0, 1) := by decide +kernel
theorem dX2_give_138 : decode cX2_give 138 = .ok (.lload 4, 2) := by decide +kernel
theorem dX2_give_140 : decode cX2_give 140 = .ok (.lload 6, 2) := by decide +kernel
theorem dX2_give_142 : decode cX2_give 142 = .ok (.l2i, 1) := by decide +kernel
theorem dX2_give_143 : decode cX2_give 143 = .ok (.invokevirtual 78, 3) := by decide +kernel
theorem dX2_give_146 : decode cX2_give 146 = .ok (.aload_n 0, 1) := by decide +kernel
theorem dX2_give_147 : decode cX2_give 147 = .ok (.lload 4, 2) := by decide +kernel
theorem dX2_give_149 : decode cX2_give 149 = .ok (.ldc2_w 54, 3) := by decide +kernel
theorem dX2_give_152 : decode cX2_give 152 = .ok (.ladd, 1) := by decide +kernel
theorem dX2_give_153 : decode cX2_give 153 = .ok (.iconst 0, 1) := by decide +kernel
theorem dX2_give_154 : decode cX2_give 154 = .ok (.invokevirtual 78, 3) := by decide +kernel
theorem dX2_give_157 : decode cX2_give 157 = .ok (.lload 4, 2) := by decide +kernel
theorem dX2_give_159 : decode cX2_give 159 = .ok (.lstore_n 2, 1) := by decide +kernel
theorem dX2_give_160 : decode cX2_give 160 = .ok (.lload_n 2, 1) := by decide +kernel
theorem dX2_give_161 : decode cX2_give 161 = .ok (.ldc2_w 69, 3) := by decide +kernel
theorem dX2_give_164 : decode cX2_give 164 = .ok (.ladd, 1) := by decide +kernel
theorem dX2_give_165 : decode cX2_give 165 = .ok (.lload 6, 2) := by decide +kernel
theorem dX2_give_167 : decode cX2_give 167 = .ok (.ladd, 1) := by decide +kernel
theorem dX2_give_168 : decode cX2_give 168 = .ok (.aload_n 0, 1) := by decide +kernel
theorem dX2_give_169 : decode cX2_give 169 = .ok (.getfield 14, 3) := by decide +kernel
theorem dX2_give_172 : decode cX2_give 172 = .ok (.i2l, 1) := by decide +kernel
theorem dX2_give_173 : decode cX2_give 173 = .ok (.lcmp, 1) := by decide +kernel
theorem dX2_give_174 : decode cX2_give 174 = .ok (.ifCond .ne 9, 3) := by decide +kernel
theorem dX2_give_177 : decode cX2_give 177 = .ok (.aload_n 0, 1) := by decide +kernel
theorem dX2_give_178 : decode cX2_give 178 = .ok (.lload_n 2, 1) := by decide +kernel
theorem dX2_give_179 : decode cX2_give 179 = .ok (.l2i, 1) := by decide +kernel
theorem dX2_give_180 : decode cX2_give 180 = .ok (.putfield 14, 3) := by decide +kernel
theorem dX2_give_183 : decode cX2_give 183 = .ok (.iconst 1, 1) := by decide +kernel
theorem dX2_give_184 : decode cX2_give 184 = .ok (.ireturn, 1) := by decide +kernel
set_option maxRecDepth 20000 in
theorem ggX2_allocate_X2_without : GoodIn wsX2_allocate wsX2_without := goodIn_r _ [6, 7] (by decide +kernel) (by decide +kernel)
set_option maxRecDepth 20000 in
theorem gX2_allocate_X2_without : GoodIn wsX2_allocate (va_wsS RX2 50 yX2_without wsX2_without) := goodIn_app (goodIn_of _ (by decide +kernel)) ggX2_allocate_X2_without
set_option maxRecDepth 20000 in
theorem ggX2_allocate_X2_take : GoodIn wsX2_allocate wsX2_take := goodIn_ca (goodIn_r _ [11, 12, 13, 14, 15, 16, 17, 18, 19, 20, 21, 5, 22, 23, 24, 25, 26, 27, 28, 29, 30, 31, 32, 33, 34, 35, 1, 36, 37, 38, 39, 40, 41, 3, 4, 6, 7, 42, 43, 44, 45, 46, 47, 48, 49, 50, 51, 52, 53, 54, 55, 56, 57, 58, 59] (by decide +kernel) (by decide +kernel)) (goodIn_sub (fun _ h => List.mem_cons_of_mem _ (List.mem_append_right _ h)) (by decide +kernel))
set_option maxRecDepth 20000 in
theorem gX2_allocate_X2_take : GoodIn wsX2_allocate (wsV RX2 88 RX2 yX2_take wsX2_take) := goodIn_app (goodIn_of _ (by decide +kernel)) ggX2_allocate_X2_take
theorem dX2_allocate_0 : decode cX2_allocate 0 = .ok (.aload_n 0, 1) := by decide +kernel
theorem dX2_allocate_1 : decode cX2_allocate 1 = .ok (.iconst 0, 1) := by decide +kernel
theorem dX2_allocate_2 : decode cX2_allocate 2 = .ok (.putfield 21, 3) := by decide +kernel
theorem dX2_allocate_5 : decode cX2_allocate 5 = .ok (.aload_n 0, 1) := by decide +kernel
theorem dX2_allocate_6 : decode cX2_allocate 6 = .ok (.iload_n 1, 1) := by decide +kernel
theorem dX2_allocate_7 : decode cX2_allocate 7 = .ok (.invokestatic 50, 3) := by decide +kernel
theorem dX2_allocate_10 : decode cX2_allocate 10 = .ok (.invokevirtual 88, 3) := by decide +kernel
theorem dX2_allocate_13 : decode cX2_allocate 13 = .ok (.ireturn, 1) := by decide +kernel
theorem dX2_allocate_14 : decode cX2_allocate 14 = .ok (.astore_n 2, 1) := by decide +kernel
theorem dX2_allocate_15 : decode cX2_allocate 15 = .ok (.aload_n 0, 1) := by decide +kernel
theorem dX2_allocate_16 : decode cX2_allocate 16 = .ok (.iconst 1, 1) := by decide +kernel
theorem dX2_allocate_17 : decode cX2_allocate 17 = .ok (.putfield 21, 3) := by decide +kernel
theorem dX2_allocate_20 : decode cX2_allocate 20 = .ok (.iconst 0, 1) := by decide +kernel
theorem dX2_allocate_21 : decode cX2_allocate 21 = .ok (.ireturn, 1) := by decide +kernel
set_option maxRecDepth 20000 in
theorem ggX2_cleared_X2_without : GoodIn wsX2_cleared wsX2_without := goodIn_r _ [7, 8] (by decide +kernel) (by decide +kernel)
set_option maxRecDepth 20000 in
theorem gX2_cleared_X2_without : GoodIn wsX2_cleared (va_wsS RX2 50 yX2_without wsX2_without) := goodIn_app (goodIn_of _ (by decide +kernel)) ggX2_cleared_X2_without
set_option maxRecDepth 20000 in
theorem ggX2_cleared_X2_take : GoodIn wsX2_cleared wsX2_take := goodIn_ca (goodIn_r _ [12, 13, 14, 15, 16, 17, 18, 3, 19, 20, 21, 6, 22, 23, 24, 25, 26, 27, 28, 29, 30, 31, 32, 33, 34, 35, 1, 36, 37, 38, 39, 40, 41, 4, 5, 7, 8, 42, 43, 44, 45, 46, 47, 48, 49, 50, 51, 52, 53, 54, 55, 56, 57, 58, 59] (by decide +kernel) (by decide +kernel)) (goodIn_sub (fun _ h => List.mem_cons_of_mem _ (List.mem_append_right _ h)) (by decide +kernel))
set_option maxRecDepth 20000 in
theorem gX2_cleared_X2_take : GoodIn wsX2_cleared (wsV RX2 88 RX2 yX2_take wsX2_take) := goodIn_app (goodIn_of _ (by decide +kernel)) ggX2_cleared_X2_take
set_option maxRecDepth 20000 in
theorem ggX2_cleared_X2_write : GoodIn wsX2_cleared wsX2_write := goodIn_ca (goodIn_r _ [54, 1, 36, 37, 38, 39, 6, 40, 13, 41, 55, 56, 57, 58, 59] (by decide +kernel) (by decide +kernel)) (goodIn_sub (fun _ h => List.mem_cons_of_mem _ (List.mem_append_right _ h)) (by decide +kernel))
set_option maxRecDepth 20000 in
theorem gX2_cleared_X2_write : GoodIn wsX2_cleared (wsV RX2 41 RX2 yX2_write wsX2_write) := goodIn_app (goodIn_of _ (by decide +kernel)) ggX2_cleared_X2_write
theorem dX2_cleared_0 : decode cX2_cleared 0 = .ok (.aload_n 0, 1) := by decide +kernel
theorem dX2_cleared_1 : decode cX2_cleared 1 = .ok (.iconst 0, 1) := by decide +kernel
theorem dX2_cleared_2 : decode cX2_cleared 2 = .ok (.putfield 21, 3) := by decide +kernel
theorem dX2_cleared_5 : decode cX2_cleared 5 = .ok (.iload_n 1, 1) := by decide +kernel
theorem dX2_cleared_6 : decode cX2_cleared 6 = .ok (.invokestatic 50, 3) := by decide +kernel
theorem dX2_cleared_9 : decode cX2_cleared 9 = .ok (.lstore_n 3, 1) := by decide +kernel
theorem dX2_cleared_10 : decode cX2_cleared 10 = .ok (.iload_n 2, 1) := by decide +kernel
theorem dX2_cleared_11 : decode cX2_cleared 11 = .ok (.invokestatic 50, 3) := by decide +kernel
theorem dX2_cleared_14 : decode cX2_cleared 14 = .ok (.lstore 5, 2) := by decide +kernel
theorem dX2_cleared_16 : decode cX2_cleared 16 = .ok (.lload_n 3, 1) := by decide +kernel
theorem dX2_cleared_17 : decode cX2_cleared 17 = .ok (.lconst 0, 1) := by decide +kernel
theorem dX2_cleared_18 : decode cX2_cleared 18 = .ok (.lcmp, 1) := by decide +kernel
theorem dX2_cleared_19 : decode cX2_cleared 19 = .ok (.ifCond .le 16, 3) := by decide +kernel
theorem dX2_cleared_22 : decode cX2_cleared 22 = .ok (.lload 5, 2) := by decide +kernel
theorem dX2_cleared_24 : decode cX2_cleared 24 = .ok (.ldc2_w 83, 3) := by decide +kernel
theorem dX2_cleared_27 : decode cX2_cleared 27 = .ok (.lload_n 3, 1) := by decide +kernel
theorem dX2_cleared_28 : decode cX2_cleared 28 = .ok (.ldiv, 1) := by decide +kernel
theorem dX2_cleared_29 : decode cX2_cleared 29 = .ok (.lcmp, 1) := by decide +kernel
theorem dX2_cleared_30 : decode cX2_cleared 30 = .ok (.ifCond .le 5, 3) := by decide +kernel
theorem dX2_cleared_33 : decode cX2_cleared 33 = .ok (.iconst 0, 1) := by decide +kernel
theorem dX2_cleared_34 : decode cX2_cleared 34 = .ok (.ireturn, 1) := by decide +kernel
theorem dX2_cleared_35 : decode cX2_cleared 35 = .ok (.aload_n 0, 1) := by decide +kernel
theorem dX2_cleared_36 : decode cX2_cleared 36 = .ok (.lload_n 3, 1) := by decide +kernel
theorem dX2_cleared_37 : decode cX2_cleared 37 = .ok (.lload 5, 2) := by decide +kernel
theorem dX2_cleared_39 : decode cX2_cleared 39 = .ok (.lmul, 1) := by decide +kernel
theorem dX2_cleared_40 : decode cX2_cleared 40 = .ok (.invokevirtual 88, 3) := by decide +kernel
theorem dX2_cleared_43 : decode cX2_cleared 43 = .ok (.istore 7, 2) := by decide +kernel
theorem dX2_cleared_45 : decode cX2_cleared 45 = .ok (.lconst 0, 1) := by decide +kernel
theorem dX2_cleared_46 : decode cX2_cleared 46 = .ok (.lstore 8, 2) := by decide +kernel
theorem dX2_cleared_48 : decode cX2_cleared 48 = .ok (.lload 8, 2) := by decide +kernel
theorem dX2_cleared_50 : decode cX2_cleared 50 = .ok (.lload_n 3, 1) := by decide +kernel
theorem dX2_cleared_51 : decode cX2_cleared 51 = .ok (.lload 5, 2) := by decide +kernel
theorem dX2_cleared_53 : decode cX2_cleared 53 = .ok (.lmul, 1) := by decide +kernel
theorem dX2_cleared_54 : decode cX2_cleared 54 = .ok (.lcmp, 1) := by decide +kernel
theorem dX2_cleared_55 : decode cX2_cleared 55 = .ok (.ifCond .ge 30, 3) := by decide +kernel
theorem dX2_cleared_58 : decode cX2_cleared 58 = .ok (.iload 7, 2) := by decide +kernel
theorem dX2_cleared_60 : decode cX2_cleared 60 = .ok (.ifCond .eq 25, 3) := by decide +kernel
theorem dX2_cleared_63 : decode cX2_cleared 63 = .ok (.aload_n 0, 1) := by decide +kernel
theorem dX2_cleared_64 : decode cX2_cleared 64 = .ok (.iload 7, 2) := by decide +kernel
theorem dX2_cleared_66 : decode cX2_cleared 66 = .ok (.invokestatic 50, 3) := by decide +kernel
theorem dX2_cleared_69 : decode cX2_cleared 69 = .ok (.lload 8, 2) := by decide +kernel
theorem dX2_cleared_71 : decode cX2_cleared 71 = .ok (.ladd, 1) := by decide +kernel
theorem dX2_cleared_72 : decode cX2_cleared 72 = .ok (.iconst 0, 1) := by decide +kernel
theorem dX2_cleared_73 : decode cX2_cleared 73 = .ok (.invokevirtual 41, 3) := by decide +kernel
theorem dX2_cleared_76 : decode cX2_cleared 76 = .ok (.lload 8, 2) := by decide +kernel
theorem dX2_cleared_78 : decode cX2_cleared 78 = .ok (.lconst 1, 1) := by decide +kernel
theorem dX2_cleared_79 : decode cX2_cleared 79 = .ok (.ladd, 1) := by decide +kernel
theorem dX2_cleared_80 : decode cX2_cleared 80 = .ok (.lstore 8, 2) := by decide +kernel
theorem dX2_cleared_82 : decode cX2_cleared 82 = .ok (.goto (-34), 3) := by decide +kernel
theorem dX2_cleared_85 : decode cX2_cleared 85 = .ok (.iload 7, 2) := by decide +kernel
theorem dX2_cleared_87 : decode cX2_cleared 87 = .ok (.ireturn, 1) := by decide +kernel
theorem dX2_cleared_88 : decode cX2_cleared 88 = .ok (.astore 7, 2) := by decide +kernel
theorem dX2_cleared_90 : decode cX2_cleared 90 = .ok (.aload_n 0, 1) := by decide +kernel
theorem dX2_cleared_91 : decode cX2_cleared 91 = .ok (.iconst 1, 1) := by decide +kernel
theorem dX2_cleared_92 : decode cX2_cleared 92 = .ok (.putfield 21, 3) := by decide +kernel
theorem dX2_cleared_95 : decode cX2_cleared 95 = .ok (.iconst 0, 1) := by decide +kernel
theorem dX2_cleared_96 : decode cX2_cleared 96 = .ok (.ireturn, 1) := by decide +kernel
set_option maxRecDepth 20000 in
theorem ggX2_resize_X2_resized : GoodIn wsX2_resize wsX2_resized := goodIn_ca (goodIn_r _ [7, 8, 9, 6, 10, 11, 12, 13, 14, 15, 16, 17, 18, 19, 20, 21, 22, 23, 24, 25, 26, 27, 28, 29, 30, 31, 32, 33, 34, 35, 36, 37, 38, 39, 1, 40, 41, 42, 43, 44, 45, 46, 47, 48, 49, 50, 51, 52, 53, 54, 55, 56, 57, 58, 59, 60, 61, 62, 63, 64, 65, 66, 67, 68, 69, 70, 71, 72, 73] (by decide +kernel) (by decide +kernel)) (goodIn_sub (fun _ h => List.mem_cons_of_mem _ (List.mem_append_right _ h)) (by decide +kernel))
set_option maxRecDepth 20000 in
theorem gX2_resize_X2_resized : GoodIn wsX2_resize (wsV RX2 91 RX2 yX2_resized wsX2_resized) := goodIn_app (goodIn_of _ (by decide +kernel)) ggX2_resize_X2_resized
theorem dX2_resize_0 : decode cX2_resize 0 = .ok (.aload_n 0, 1) := by decide +kernel
theorem dX2_resize_1 : decode cX2_resize 1 = .ok (.iconst 0, 1) := by decide +kernel
theorem dX2_resize_2 : decode cX2_resize 2 = .ok (.putfield 21, 3) := by decide +kernel
theorem dX2_resize_5 : decode cX2_resize 5 = .ok (.aload_n 0, 1) := by decide +kernel
theorem dX2_resize_6 : decode cX2_resize 6 = .ok (.iload_n 1, 1) := by decide +kernel
theorem dX2_resize_7 : decode cX2_resize 7 = .ok (.iload_n 2, 1) := by decide +kernel
theorem dX2_resize_8 : decode cX2_resize 8 = .ok (.invokevirtual 91, 3) := by decide +kernel
theorem dX2_resize_11 : decode cX2_resize 11 = .ok (.ireturn, 1) := by decide +kernel
theorem dX2_resize_12 : decode cX2_resize 12 = .ok (.astore_n 3, 1) := by decide +kernel
theorem dX2_resize_13 : decode cX2_resize 13 = .ok (.aload_n 0, 1) := by decide +kernel
theorem dX2_resize_14 : decode cX2_resize 14 = .ok (.iconst 1, 1) := by decide +kernel
theorem dX2_resize_15 : decode cX2_resize 15 = .ok (.putfield 21, 3) := by decide +kernel
theorem dX2_resize_18 : decode cX2_resize 18 = .ok (.iconst 0, 1) := by decide +kernel
theorem dX2_resize_19 : decode cX2_resize 19 = .ok (.ireturn, 1) := by decide +kernel
set_option maxRecDepth 20000 in
theorem ggX2_resized_X2_without : GoodIn wsX2_resized wsX2_without := goodIn_r _ [4, 5] (by decide +kernel) (by decide +kernel)
set_option maxRecDepth 20000 in
theorem gX2_resized_X2_without : GoodIn wsX2_resized (va_wsS RX2 50 yX2_without wsX2_without) := goodIn_app (goodIn_of _ (by decide +kernel)) ggX2_resized_X2_without
set_option maxRecDepth 20000 in
theorem ggX2_resized_X2_take : GoodIn wsX2_resized wsX2_take := goodIn_ca (goodIn_r _ [9, 10, 11, 12, 13, 14, 15, 16, 17, 18, 19, 3, 20, 21, 22, 23, 24, 25, 26, 27, 28, 29, 30, 31, 32, 33, 34, 35, 36, 37, 38, 39, 40, 1, 2, 4, 5, 41, 42, 43, 44, 45, 46, 47, 48, 49, 50, 51, 52, 53, 64, 65, 66, 67, 68] (by decide +kernel) (by decide +kernel)) (goodIn_sub (fun _ h => List.mem_cons_of_mem _ (List.mem_append_right _ h)) (by decide +kernel))
set_option maxRecDepth 20000 in
theorem gX2_resized_X2_take : GoodIn wsX2_resized (wsV RX2 88 RX2 yX2_take wsX2_take) := goodIn_app (goodIn_of _ (by decide +kernel)) ggX2_resized_X2_take
set_option maxRecDepth 20000 in
theorem ggX2_resized_X2_give : GoodIn wsX2_resized wsX2_give := goodIn_ca (goodIn_r _ [57, 58, 15, 13, 11, 59, 60, 61, 3, 62, 34, 35, 63, 10, 22, 23, 24, 25, 26, 27, 28, 29, 30, 31, 32, 33, 36, 37, 38, 39, 40, 1, 2, 4, 5, 41, 42, 43, 44, 45, 46, 47, 48, 49, 50, 51, 52, 53, 64, 65, 66, 67, 68] (by decide +kernel) (by decide +kernel)) (goodIn_sub (fun _ h => List.mem_cons_of_mem _ (List.mem_append_right _ h)) (by decide +kernel))
set_option maxRecDepth 20000 in
theorem gX2_resized_X2_give : GoodIn wsX2_resized (wsV RX2 95 RX2 yX2_give wsX2_give) := goodIn_app (goodIn_of _ (by decide +kernel)) ggX2_resized_X2_give
set_option maxRecDepth 20000 in
theorem ggX2_resized_X2_found : GoodIn wsX2_resized wsX2_found := goodIn_ca (goodIn_r _ [62, 34, 35, 63, 58, 10, 11, 13, 22, 23, 24, 3, 25, 26, 27, 28, 29, 30, 31, 32, 33, 36, 37, 38, 39, 40, 1, 2, 4, 5, 41, 42, 43, 44, 15, 64, 65, 66, 67, 68] (by decide +kernel) (by decide +kernel)) (goodIn_sub (fun _ h => List.mem_cons_of_mem _ (List.mem_append_right _ h)) (by decide +kernel))
set_option maxRecDepth 20000 in
theorem gX2_resized_X2_found : GoodIn wsX2_resized (wsV RX2 85 RX2 yX2_found wsX2_found) := goodIn_app (goodIn_of _ (by decide +kernel)) ggX2_resized_X2_found
set_option maxRecDepth 20000 in
theorem ggX2_resized_X2_sizeAt : GoodIn wsX2_resized wsX2_sizeAt := goodIn_ca (goodIn_r _ [25, 26, 27, 28, 3, 29, 30, 31, 32, 33, 34, 35, 36, 37, 38, 39, 10, 40, 1, 2, 4, 5, 64, 65, 66, 67, 68] (by decide +kernel) (by decide +kernel)) (goodIn_sub (fun _ h => List.mem_cons_of_mem _ (List.mem_append_right _ h)) (by decide +kernel))
set_option maxRecDepth 20000 in
theorem gX2_resized_X2_sizeAt : GoodIn wsX2_resized (wsV RX2 62 RX2 yX2_sizeAt wsX2_sizeAt) := goodIn_app (goodIn_of _ (by decide +kernel)) ggX2_resized_X2_sizeAt
set_option maxRecDepth 20000 in
theorem ggX2_resized_X2_up : GoodIn wsX2_resized wsX2_up := goodIn_r _ [20, 13, 21] (by decide +kernel) (by decide +kernel)
set_option maxRecDepth 20000 in
theorem gX2_resized_X2_up : GoodIn wsX2_resized (va_wsS RX2 73 yX2_up wsX2_up) := goodIn_app (goodIn_of _ (by decide +kernel)) ggX2_resized_X2_up
set_option maxRecDepth 20000 in
theorem ggX2_resized_X2_read : GoodIn wsX2_resized wsX2_read := goodIn_ca (goodIn_r _ [33, 34, 35, 36, 37, 38, 3, 39, 10, 40, 64, 65, 66, 67, 68] (by decide +kernel) (by decide +kernel)) (goodIn_sub (fun _ h => List.mem_cons_of_mem _ (List.mem_append_right _ h)) (by decide +kernel))
set_option maxRecDepth 20000 in
theorem gX2_resized_X2_read : GoodIn wsX2_resized (wsV RX2 35 RX2 yX2_read wsX2_read) := goodIn_app (goodIn_of _ (by decide +kernel)) ggX2_resized_X2_read
set_option maxRecDepth 20000 in
theorem ggX2_resized_X2_write : GoodIn wsX2_resized wsX2_write := goodIn_ca (goodIn_r _ [53, 34, 35, 36, 37, 38, 3, 39, 10, 40, 64, 65, 66, 67, 68] (by decide +kernel) (by decide +kernel)) (goodIn_sub (fun _ h => List.mem_cons_of_mem _ (List.mem_append_right _ h)) (by decide +kernel))
set_option maxRecDepth 20000 in
theorem gX2_resized_X2_write : GoodIn wsX2_resized (wsV RX2 41 RX2 yX2_write wsX2_write) := goodIn_app (goodIn_of _ (by decide +kernel)) ggX2_resized_X2_write
theorem dX2_resized_0 : decode cX2_resized 0 = .ok (.iload_n 1, 1) := by decide +kernel
theorem dX2_resized_1 : decode cX2_resized 1 = .ok (.ifCond .ne 12, 3) := by decide +kernel
theorem dX2_resized_4 : decode cX2_resized 4 = .ok (.aload_n 0, 1) := by decide +kernel
theorem dX2_resized_5 : decode cX2_resized 5 = .ok (.iload_n 2, 1) := by decide +kernel
theorem dX2_resized_6 : decode cX2_resized 6 = .ok (.invokestatic 50, 3) := by decide +kernel
theorem dX2_resized_9 : decode cX2_resized 9 = .ok (.invokevirtual 88, 3) := by decide +kernel
theorem dX2_resized_12 : decode cX2_resized 12 = .ok (.ireturn, 1) := by decide +kernel
theorem dX2_resized_13 : decode cX2_resized 13 = .ok (.iload_n 2, 1) := by decide +kernel
theorem dX2_resized_14 : decode cX2_resized 14 = .ok (.ifCond .ne 11, 3) := by decide +kernel
theorem dX2_resized_17 : decode cX2_resized 17 = .ok (.aload_n 0, 1) := by decide +kernel
theorem dX2_resized_18 : decode cX2_resized 18 = .ok (.iload_n 1, 1) := by decide +kernel
theorem dX2_resized_19 : decode cX2_resized 19 = .ok (.invokevirtual 95, 3) := by decide +kernel
theorem dX2_resized_22 : decode cX2_resized 22 = .ok (.istore_n 3, 1) := by decide +kernel
theorem dX2_resized_23 : decode cX2_resized 23 = .ok (.iconst 0, 1) := by decide +kernel
theorem dX2_resized_24 : decode cX2_resized 24 = .ok (.ireturn, 1) := by decide +kernel
theorem dX2_resized_25 : decode cX2_resized 25 = .ok (.aload_n 0, 1) := by decide +kernel
theorem dX2_resized_26 : decode cX2_resized 26 = .ok (.aload_n 0, 1) := by decide +kernel
theorem dX2_resized_27 : decode cX2_resized 27 = .ok (.iload_n 1, 1) := by decide +kernel
theorem dX2_resized_28 : decode cX2_resized 28 = .ok (.invokevirtual 85, 3) := by decide +kernel
theorem dX2_resized_31 : decode cX2_resized 31 = .ok (.invokevirtual 62, 3) := by decide +kernel
theorem dX2_resized_34 : decode cX2_resized 34 = .ok (.lstore_n 3, 1) := by decide +kernel
theorem dX2_resized_35 : decode cX2_resized 35 = .ok (.lload_n 3, 1) := by decide +kernel
theorem dX2_resized_36 : decode cX2_resized 36 = .ok (.iload_n 2, 1) := by decide +kernel
theorem dX2_resized_37 : decode cX2_resized 37 = .ok (.invokestatic 50, 3) := by decide +kernel
theorem dX2_resized_40 : decode cX2_resized 40 = .ok (.invokestatic 73, 3) := by decide +kernel
theorem dX2_resized_43 : decode cX2_resized 43 = .ok (.lcmp, 1) := by decide +kernel
theorem dX2_resized_44 : decode cX2_resized 44 = .ok (.ifCond .lt 5, 3) := by decide +kernel
theorem dX2_resized_47 : decode cX2_resized 47 = .ok (.iload_n 1, 1) := by decide +kernel
theorem dX2_resized_48 : decode cX2_resized 48 = .ok (.ireturn, 1) := by decide +kernel
theorem dX2_resized_49 : decode cX2_resized 49 = .ok (.aload_n 0, 1) := by decide +kernel
theorem dX2_resized_50 : decode cX2_resized 50 = .ok (.iload_n 2, 1) := by decide +kernel
theorem dX2_resized_51 : decode cX2_resized 51 = .ok (.invokestatic 50, 3) := by decide +kernel
theorem dX2_resized_54 : decode cX2_resized 54 = .ok (.invokevirtual 88, 3) := by decide +kernel
theorem dX2_resized_57 : decode cX2_resized 57 = .ok (.istore 5, 2) := by decide +kernel
theorem dX2_resized_59 : decode cX2_resized 59 = .ok (.iload 5, 2) := by decide +kernel
theorem dX2_resized_61 : decode cX2_resized 61 = .ok (.ifCond .ne 5, 3) := by decide +kernel
theorem dX2_resized_64 : decode cX2_resized 64 = .ok (.iconst 0, 1) := by decide +kernel
theorem dX2_resized_65 : decode cX2_resized 65 = .ok (.ireturn, 1) := by decide +kernel
theorem dX2_resized_66 : decode cX2_resized 66 = .ok (.lconst 0, 1) := by decide +kernel
theorem dX2_resized_67 : decode cX2_resized 67 = .ok (.lstore 6, 2) := by decide +kernel
theorem dX2_resized_69 : decode cX2_resized 69 = .ok (.lload 6, 2) := by decide +kernel
theorem dX2_resized_71 : decode cX2_resized 71 = .ok (.lload_n 3, 1) := by decide +kernel
theorem dX2_resized_72 : decode cX2_resized 72 = .ok (.lcmp, 1) := by decide +kernel
theorem dX2_resized_73 : decode cX2_resized 73 = .ok (.ifCond .ge 35, 3) := by decide +kernel
theorem dX2_resized_76 : decode cX2_resized 76 = .ok (.aload_n 0, 1) := by decide +kernel
theorem dX2_resized_77 : decode cX2_resized 77 = .ok (.iload 5, 2) := by decide +kernel
theorem dX2_resized_79 : decode cX2_resized 79 = .ok (.invokestatic 50, 3) := by decide +kernel
theorem dX2_resized_82 : decode cX2_resized 82 = .ok (.lload 6, 2) := by decide +kernel
theorem dX2_resized_84 : decode cX2_resized 84 = .ok (.ladd, 1) := by decide +kernel
theorem dX2_resized_85 : decode cX2_resized 85 = .ok (.aload_n 0, 1) := by decide +kernel
theorem dX2_resized_86 : decode cX2_resized 86 = .ok (.iload_n 1, 1) := by decide +kernel
theorem dX2_resized_87 : decode cX2_resized 87 = .ok (.invokestatic 50, 3) := by decide +kernel
theorem dX2_resized_90 : decode cX2_resized 90 = .ok (.lload 6, 2) := by decide +kernel
theorem dX2_resized_92 : decode cX2_resized 92 = .ok (.ladd, 1) := by decide +kernel
theorem dX2_resized_93 : decode cX2_resized 93 = .ok (.invokevirtual 35, 3) := by decide +kernel
theorem dX2_resized_96 : decode cX2_resized 96 = .ok (.invokevirtual 41, 3) := by decide +kernel
theorem dX2_resized_99 : decode cX2_resized 99 = .ok (.lload 6, 2) := by decide +kernel
theorem dX2_resized_101 : decode cX2_resized 101 = .ok (.lconst 1, 1) := by decide +kernel
theorem dX2_resized_102 : decode cX2_resized 102 = .ok (.ladd, 1) := by decide +kernel
theorem dX2_resized_103 : decode cX2_resized 103 = .ok (.lstore 6, 2) := by decide +kernel
theorem dX2_resized_105 : decode cX2_resized 105 = .ok (.goto (-36), 3) := by decide +kernel
theorem dX2_resized_108 : decode cX2_resized 108 = .ok (.aload_n 0, 1) := by decide +kernel
theorem dX2_resized_109 : decode cX2_resized 109 = .ok (.iload_n 1, 1) := by decide +kernel
theorem dX2_resized_110 : decode cX2_resized 110 = .ok (.invokevirtual 95, 3) := by decide +kernel
theorem dX2_resized_113 : decode cX2_resized 113 = .ok (.istore 6, 2) := by decide +kernel
theorem dX2_resized_115 : decode cX2_resized 115 = .ok (.iload 5, 2) := by decide +kernel
theorem dX2_resized_117 : decode cX2_resized 117 = .ok (.ireturn, 1) := by decide +kernel
set_option maxRecDepth 20000 in
theorem ggX2_free_X2_give : GoodIn wsX2_free wsX2_give := goodIn_ca (goodIn_r _ [7, 8, 9, 10, 11, 12, 13, 14, 6, 15, 1, 16, 17, 18, 19, 20, 21, 22, 23, 24, 25, 26, 27, 28, 29, 30, 31, 32, 33, 34, 35, 36, 37, 38, 39, 40, 41, 42, 43, 44, 45, 46, 47, 48, 49, 50, 51, 52, 53, 54, 55, 56, 57] (by decide +kernel) (by decide +kernel)) (goodIn_sub (fun _ h => List.mem_cons_of_mem _ (List.mem_append_right _ h)) (by decide +kernel))
set_option maxRecDepth 20000 in
theorem gX2_free_X2_give : GoodIn wsX2_free (wsV RX2 95 RX2 yX2_give wsX2_give) := goodIn_app (goodIn_of _ (by decide +kernel)) ggX2_free_X2_give
theorem dX2_free_0 : decode cX2_free 0 = .ok (.aload_n 0, 1) := by decide +kernel
theorem dX2_free_1 : decode cX2_free 1 = .ok (.iconst 0, 1) := by decide +kernel
theorem dX2_free_2 : decode cX2_free 2 = .ok (.putfield 21, 3) := by decide +kernel
theorem dX2_free_5 : decode cX2_free 5 = .ok (.aload_n 0, 1) := by decide +kernel
theorem dX2_free_6 : decode cX2_free 6 = .ok (.iload_n 1, 1) := by decide +kernel
theorem dX2_free_7 : decode cX2_free 7 = .ok (.invokevirtual 95, 3) := by decide +kernel
theorem dX2_free_10 : decode cX2_free 10 = .ok (.ireturn, 1) := by decide +kernel
theorem dX2_free_11 : decode cX2_free 11 = .ok (.astore_n 2, 1) := by decide +kernel
theorem dX2_free_12 : decode cX2_free 12 = .ok (.aload_n 0, 1) := by decide +kernel
theorem dX2_free_13 : decode cX2_free 13 = .ok (.iconst 1, 1) := by decide +kernel
theorem dX2_free_14 : decode cX2_free 14 = .ok (.putfield 21, 3) := by decide +kernel
theorem dX2_free_17 : decode cX2_free 17 = .ok (.iconst 0, 1) := by decide +kernel
theorem dX2_free_18 : decode cX2_free 18 = .ok (.ireturn, 1) := by decide +kernel
theorem dX2_stack_0 : decode cX2_stack 0 = .ok (.aload_n 0, 1) := by decide +kernel
theorem dX2_stack_1 : decode cX2_stack 1 = .ok (.iconst 0, 1) := by decide +kernel
theorem dX2_stack_2 : decode cX2_stack 2 = .ok (.putfield 21, 3) := by decide +kernel
theorem dX2_stack_5 : decode cX2_stack 5 = .ok (.iload_n 1, 1) := by decide +kernel
theorem dX2_stack_6 : decode cX2_stack 6 = .ok (.sipush 1024, 3) := by decide +kernel
theorem dX2_stack_9 : decode cX2_stack 9 = .ok (.if_icmp .lt 17, 3) := by decide +kernel
theorem dX2_stack_12 : decode cX2_stack 12 = .ok (.iload_n 1, 1) := by decide +kernel
theorem dX2_stack_13 : decode cX2_stack 13 = .ok (.ldc 9, 2) := by decide +kernel
theorem dX2_stack_15 : decode cX2_stack 15 = .ok (.if_icmp .gt 11, 3) := by decide +kernel
theorem dX2_stack_18 : decode cX2_stack 18 = .ok (.iload_n 1, 1) := by decide +kernel
theorem dX2_stack_19 : decode cX2_stack 19 = .ok (.aload_n 0, 1) := by decide +kernel
theorem dX2_stack_20 : decode cX2_stack 20 = .ok (.getfield 14, 3) := by decide +kernel
theorem dX2_stack_23 : decode cX2_stack 23 = .ok (.if_icmp .ge 5, 3) := by decide +kernel
theorem dX2_stack_26 : decode cX2_stack 26 = .ok (.iconst 0, 1) := by decide +kernel
theorem dX2_stack_27 : decode cX2_stack 27 = .ok (.ireturn, 1) := by decide +kernel
theorem dX2_stack_28 : decode cX2_stack 28 = .ok (.aload_n 0, 1) := by decide +kernel
theorem dX2_stack_29 : decode cX2_stack 29 = .ok (.iload_n 1, 1) := by decide +kernel
theorem dX2_stack_30 : decode cX2_stack 30 = .ok (.putfield 18, 3) := by decide +kernel
theorem dX2_stack_33 : decode cX2_stack 33 = .ok (.iconst 1, 1) := by decide +kernel
theorem dX2_stack_34 : decode cX2_stack 34 = .ok (.ireturn, 1) := by decide +kernel
set_option maxRecDepth 20000 in
theorem ggX2_put_X2_without : GoodIn wsX2_put wsX2_without := goodIn_r _ [6, 7] (by decide +kernel) (by decide +kernel)
set_option maxRecDepth 20000 in
theorem gX2_put_X2_without : GoodIn wsX2_put (va_wsS RX2 50 yX2_without wsX2_without) := goodIn_app (goodIn_of _ (by decide +kernel)) ggX2_put_X2_without
set_option maxRecDepth 20000 in
theorem ggX2_put_X2_there : GoodIn wsX2_put wsX2_there := goodIn_r _ [10, 11, 12] (by decide +kernel) (by decide +kernel)
set_option maxRecDepth 20000 in
theorem gX2_put_X2_there : GoodIn wsX2_put (va_wsS RX2 28 yX2_there wsX2_there) := goodIn_app (goodIn_of _ (by decide +kernel)) ggX2_put_X2_there
theorem dX2_put_0 : decode cX2_put 0 = .ok (.aload_n 0, 1) := by decide +kernel
theorem dX2_put_1 : decode cX2_put 1 = .ok (.iconst 0, 1) := by decide +kernel
theorem dX2_put_2 : decode cX2_put 2 = .ok (.putfield 21, 3) := by decide +kernel
theorem dX2_put_5 : decode cX2_put 5 = .ok (.iload_n 1, 1) := by decide +kernel
theorem dX2_put_6 : decode cX2_put 6 = .ok (.invokestatic 50, 3) := by decide +kernel
theorem dX2_put_9 : decode cX2_put 9 = .ok (.invokestatic 28, 3) := by decide +kernel
theorem dX2_put_12 : decode cX2_put 12 = .ok (.ifCond .ne 5, 3) := by decide +kernel
theorem dX2_put_15 : decode cX2_put 15 = .ok (.iconst (-1), 1) := by decide +kernel
theorem dX2_put_16 : decode cX2_put 16 = .ok (.ireturn, 1) := by decide +kernel
theorem dX2_put_17 : decode cX2_put 17 = .ok (.aload_n 0, 1) := by decide +kernel
theorem dX2_put_18 : decode cX2_put 18 = .ok (.getfield 10, 3) := by decide +kernel
theorem dX2_put_21 : decode cX2_put 21 = .ok (.iload_n 1, 1) := by decide +kernel
theorem dX2_put_22 : decode cX2_put 22 = .ok (.baload, 1) := by decide +kernel
theorem dX2_put_23 : decode cX2_put 23 = .ok (.sipush 255, 3) := by decide +kernel
theorem dX2_put_26 : decode cX2_put 26 = .ok (.iand, 1) := by decide +kernel
theorem dX2_put_27 : decode cX2_put 27 = .ok (.istore_n 3, 1) := by decide +kernel
theorem dX2_put_28 : decode cX2_put 28 = .ok (.aload_n 0, 1) := by decide +kernel
theorem dX2_put_29 : decode cX2_put 29 = .ok (.getfield 10, 3) := by decide +kernel
theorem dX2_put_32 : decode cX2_put 32 = .ok (.iload_n 1, 1) := by decide +kernel
theorem dX2_put_33 : decode cX2_put 33 = .ok (.iload_n 2, 1) := by decide +kernel
theorem dX2_put_34 : decode cX2_put 34 = .ok (.i2b, 1) := by decide +kernel
theorem dX2_put_35 : decode cX2_put 35 = .ok (.bastore, 1) := by decide +kernel
theorem dX2_put_36 : decode cX2_put 36 = .ok (.iload_n 3, 1) := by decide +kernel
theorem dX2_put_37 : decode cX2_put 37 = .ok (.ireturn, 1) := by decide +kernel
set_option maxRecDepth 20000 in
theorem ggX2_get_X2_without : GoodIn wsX2_get wsX2_without := goodIn_r _ [6, 7] (by decide +kernel) (by decide +kernel)
set_option maxRecDepth 20000 in
theorem gX2_get_X2_without : GoodIn wsX2_get (va_wsS RX2 50 yX2_without wsX2_without) := goodIn_app (goodIn_of _ (by decide +kernel)) ggX2_get_X2_without
set_option maxRecDepth 20000 in
theorem ggX2_get_X2_there : GoodIn wsX2_get wsX2_there := goodIn_r _ [10, 11, 12] (by decide +kernel) (by decide +kernel)
set_option maxRecDepth 20000 in
theorem gX2_get_X2_there : GoodIn wsX2_get (va_wsS RX2 28 yX2_there wsX2_there) := goodIn_app (goodIn_of _ (by decide +kernel)) ggX2_get_X2_there
theorem dX2_get_0 : decode cX2_get 0 = .ok (.aload_n 0, 1) := by decide +kernel
theorem dX2_get_1 : decode cX2_get 1 = .ok (.iconst 0, 1) := by decide +kernel
theorem dX2_get_2 : decode cX2_get 2 = .ok (.putfield 21, 3) := by decide +kernel
theorem dX2_get_5 : decode cX2_get 5 = .ok (.iload_n 1, 1) := by decide +kernel
theorem dX2_get_6 : decode cX2_get 6 = .ok (.invokestatic 50, 3) := by decide +kernel
theorem dX2_get_9 : decode cX2_get 9 = .ok (.invokestatic 28, 3) := by decide +kernel
theorem dX2_get_12 : decode cX2_get 12 = .ok (.ifCond .eq 16, 3) := by decide +kernel
theorem dX2_get_15 : decode cX2_get 15 = .ok (.aload_n 0, 1) := by decide +kernel
theorem dX2_get_16 : decode cX2_get 16 = .ok (.getfield 10, 3) := by decide +kernel
theorem dX2_get_19 : decode cX2_get 19 = .ok (.iload_n 1, 1) := by decide +kernel
theorem dX2_get_20 : decode cX2_get 20 = .ok (.baload, 1) := by decide +kernel
theorem dX2_get_21 : decode cX2_get 21 = .ok (.sipush 255, 3) := by decide +kernel
theorem dX2_get_24 : decode cX2_get 24 = .ok (.iand, 1) := by decide +kernel
theorem dX2_get_25 : decode cX2_get 25 = .ok (.goto 4, 3) := by decide +kernel
theorem dX2_get_28 : decode cX2_get 28 = .ok (.iconst (-1), 1) := by decide +kernel
theorem dX2_get_29 : decode cX2_get 29 = .ok (.ireturn, 1) := by decide +kernel
theorem dX2_end_0 : decode cX2_end 0 = .ok (.aload_n 0, 1) := by decide +kernel
theorem dX2_end_1 : decode cX2_end 1 = .ok (.iconst 0, 1) := by decide +kernel
theorem dX2_end_2 : decode cX2_end 2 = .ok (.putfield 21, 3) := by decide +kernel
theorem dX2_end_5 : decode cX2_end 5 = .ok (.aload_n 0, 1) := by decide +kernel
theorem dX2_end_6 : decode cX2_end 6 = .ok (.getfield 14, 3) := by decide +kernel
theorem dX2_end_9 : decode cX2_end 9 = .ok (.ireturn, 1) := by decide +kernel
theorem dJ9_max_f86c9_0 : decode cJ9_max_f86c9 0 = .ok (.lload_n 0, 1) := by decide +kernel
theorem dJ9_max_f86c9_1 : decode cJ9_max_f86c9 1 = .ok (.lload_n 2, 1) := by decide +kernel
theorem dJ9_max_f86c9_2 : decode cJ9_max_f86c9 2 = .ok (.lcmp, 1) := by decide +kernel
theorem dJ9_max_f86c9_3 : decode cJ9_max_f86c9 3 = .ok (.ifCond .lt 7, 3) := by decide +kernel
theorem dJ9_max_f86c9_6 : decode cJ9_max_f86c9 6 = .ok (.lload_n 0, 1) := by decide +kernel
theorem dJ9_max_f86c9_7 : decode cJ9_max_f86c9 7 = .ok (.goto 4, 3) := by decide +kernel
theorem dJ9_max_f86c9_10 : decode cJ9_max_f86c9 10 = .ok (.lload_n 2, 1) := by decide +kernel
theorem dJ9_max_f86c9_11 : decode cJ9_max_f86c9 11 = .ok (.lreturn, 1) := by decide +kernel
set_option maxRecDepth 20000 in
theorem ggL_allocate_X1_allocate : GoodIn wsL_allocate wsX1_allocate := goodIn_ca (goodIn_r _ [6, 7, 8, 5, 9, 10, 11, 12, 13, 14, 15, 16, 17, 18, 19, 20, 21, 22, 23, 24, 25, 26, 27, 28, 29, 30, 31, 32, 33, 34, 35, 36, 37, 38, 39, 40, 41, 42, 43, 44, 45, 46, 47, 48, 49, 50, 51, 52, 53, 54, 55, 56, 57, 58, 59, 60, 61, 62, 63, 64, 65, 66, 67, 68, 69, 70, 71, 72, 73, 74, 75, 76, 77, 78, 79, 80, 81, 82, 83, 84, 85, 86, 87, 88, 89, 90, 91, 92, 93, 94, 95, 96, 97, 98, 99, 100, 101, 102, 103] (by decide +kernel) (by decide +kernel)) (goodIn_sub (fun _ h => List.mem_cons_of_mem _ (List.mem_append_right _ h)) (by decide +kernel))
set_option maxRecDepth 20000 in
theorem gL_allocate_X1_allocate : GoodIn wsL_allocate (wsV RL 7 RX1 yX1_allocate wsX1_allocate) := goodIn_app (goodIn_of _ (by decide +kernel)) ggL_allocate_X1_allocate
theorem dL_allocate_0 : decode cL_allocate 0 = .ok (.aload_n 2, 1) := by decide +kernel
theorem dL_allocate_1 : decode cL_allocate 1 = .ok (.iconst 0, 1) := by decide +kernel
theorem dL_allocate_2 : decode cL_allocate 2 = .ok (.aload_n 0, 1) := by decide +kernel
theorem dL_allocate_3 : decode cL_allocate 3 = .ok (.iload_n 1, 1) := by decide +kernel
theorem dL_allocate_4 : decode cL_allocate 4 = .ok (.invokevirtual 7, 3) := by decide +kernel
theorem dL_allocate_7 : decode cL_allocate 7 = .ok (.i2l, 1) := by decide +kernel
theorem dL_allocate_8 : decode cL_allocate 8 = .ok (.lastore, 1) := by decide +kernel
theorem dL_allocate_9 : decode cL_allocate 9 = .ok (.goto 6, 3) := by decide +kernel
theorem dL_allocate_12 : decode cL_allocate 12 = .ok (.astore_n 3, 1) := by decide +kernel
theorem dL_allocate_13 : decode cL_allocate 13 = .ok (.iconst 1, 1) := by decide +kernel
theorem dL_allocate_14 : decode cL_allocate 14 = .ok (.ireturn, 1) := by decide +kernel
theorem dL_allocate_15 : decode cL_allocate 15 = .ok (.iconst 0, 1) := by decide +kernel
theorem dL_allocate_16 : decode cL_allocate 16 = .ok (.ireturn, 1) := by decide +kernel
set_option maxRecDepth 20000 in
theorem ggL_cleared_X1_cleared : GoodIn wsL_cleared wsX1_cleared := goodIn_ca (goodIn_r _ [6, 7, 8, 9, 5, 10, 11, 12, 13, 14, 15, 16, 17, 18, 19, 20, 21, 22, 23, 24, 25, 26, 27, 28, 29, 30, 31, 32, 33, 34, 35, 36, 37, 38, 39, 40, 41, 42, 43, 44, 45, 46, 47, 48, 49, 50, 51, 52, 53, 54, 55, 56, 57, 58, 59, 60, 61, 62, 63, 64, 65, 66, 67, 68, 69, 70, 71, 72, 73, 74, 75, 76, 77, 78, 79, 80, 81, 82, 83, 84, 85, 86, 87, 88, 89, 90, 91, 92, 93, 94, 95, 96, 97, 98, 99, 100, 101, 102, 103, 104, 105, 106, 107, 108] (by decide +kernel) (by decide +kernel)) (goodIn_sub (fun _ h => List.mem_cons_of_mem _ (List.mem_append_right _ h)) (by decide +kernel))
set_option maxRecDepth 20000 in
theorem gL_cleared_X1_cleared : GoodIn wsL_cleared (wsV RL 15 RX1 yX1_cleared wsX1_cleared) := goodIn_app (goodIn_of _ (by decide +kernel)) ggL_cleared_X1_cleared
theorem dL_cleared_0 : decode cL_cleared 0 = .ok (.aload_n 3, 1) := by decide +kernel
theorem dL_cleared_1 : decode cL_cleared 1 = .ok (.iconst 0, 1) := by decide +kernel
theorem dL_cleared_2 : decode cL_cleared 2 = .ok (.aload_n 0, 1) := by decide +kernel
theorem dL_cleared_3 : decode cL_cleared 3 = .ok (.iload_n 1, 1) := by decide +kernel
theorem dL_cleared_4 : decode cL_cleared 4 = .ok (.iload_n 2, 1) := by decide +kernel
theorem dL_cleared_5 : decode cL_cleared 5 = .ok (.invokevirtual 15, 3) := by decide +kernel
theorem dL_cleared_8 : decode cL_cleared 8 = .ok (.i2l, 1) := by decide +kernel
theorem dL_cleared_9 : decode cL_cleared 9 = .ok (.lastore, 1) := by decide +kernel
theorem dL_cleared_10 : decode cL_cleared 10 = .ok (.goto 7, 3) := by decide +kernel
theorem dL_cleared_13 : decode cL_cleared 13 = .ok (.astore 4, 2) := by decide +kernel
theorem dL_cleared_15 : decode cL_cleared 15 = .ok (.iconst 1, 1) := by decide +kernel
theorem dL_cleared_16 : decode cL_cleared 16 = .ok (.ireturn, 1) := by decide +kernel
theorem dL_cleared_17 : decode cL_cleared 17 = .ok (.iconst 0, 1) := by decide +kernel
theorem dL_cleared_18 : decode cL_cleared 18 = .ok (.ireturn, 1) := by decide +kernel
set_option maxRecDepth 20000 in
theorem ggL_resize_X1_resize : GoodIn wsL_resize wsX1_resize := goodIn_ca (goodIn_ca (goodIn_r _ [6, 7, 8, 5, 9, 10, 11, 12, 13, 14, 15, 16, 17, 18, 19, 20, 21, 22, 23, 24, 25, 26, 27, 28, 29, 30, 31, 32, 33, 34, 35, 36, 37, 38, 39, 40, 41, 42, 43, 44, 45, 46, 47, 48, 49, 50, 51, 52, 53, 54, 55, 56, 57, 58, 59, 60, 61, 62, 63, 64, 65, 66, 67, 68, 69, 70, 71, 72, 73, 74, 75, 76, 77, 78, 79, 80, 81, 82, 83, 84, 85, 86, 87, 88, 89, 90, 91, 92, 93, 94, 95, 96, 97, 98, 99, 100, 101, 102, 103, 104, 105, 106, 107, 108, 109, 110, 111, 112, 113, 114, 115, 116, 117, 118, 119, 120, 121, 122, 123, 124, 125, 126] (by decide +kernel) (by decide +kernel)) (goodIn_sub (fun _ h => List.mem_cons_of_mem _ (List.mem_append_left _ (List.mem_append_right _ h))) (by decide +kernel))) (goodIn_sub (fun _ h => List.mem_cons_of_mem _ (List.mem_append_right _ h)) (by decide +kernel))
set_option maxRecDepth 20000 in
theorem gL_resize_X1_resize : GoodIn wsL_resize (wsV RL 19 RX1 yX1_resize wsX1_resize) := goodIn_app (goodIn_of _ (by decide +kernel)) ggL_resize_X1_resize
theorem dL_resize_0 : decode cL_resize 0 = .ok (.aload_n 3, 1) := by decide +kernel
theorem dL_resize_1 : decode cL_resize 1 = .ok (.iconst 0, 1) := by decide +kernel
theorem dL_resize_2 : decode cL_resize 2 = .ok (.aload_n 0, 1) := by decide +kernel
theorem dL_resize_3 : decode cL_resize 3 = .ok (.iload_n 1, 1) := by decide +kernel
theorem dL_resize_4 : decode cL_resize 4 = .ok (.iload_n 2, 1) := by decide +kernel
theorem dL_resize_5 : decode cL_resize 5 = .ok (.invokevirtual 19, 3) := by decide +kernel
theorem dL_resize_8 : decode cL_resize 8 = .ok (.i2l, 1) := by decide +kernel
theorem dL_resize_9 : decode cL_resize 9 = .ok (.lastore, 1) := by decide +kernel
theorem dL_resize_10 : decode cL_resize 10 = .ok (.goto 7, 3) := by decide +kernel
theorem dL_resize_13 : decode cL_resize 13 = .ok (.astore 4, 2) := by decide +kernel
theorem dL_resize_15 : decode cL_resize 15 = .ok (.iconst 1, 1) := by decide +kernel
theorem dL_resize_16 : decode cL_resize 16 = .ok (.ireturn, 1) := by decide +kernel
theorem dL_resize_17 : decode cL_resize 17 = .ok (.iconst 0, 1) := by decide +kernel
theorem dL_resize_18 : decode cL_resize 18 = .ok (.ireturn, 1) := by decide +kernel
set_option maxRecDepth 20000 in
theorem ggL_free_X1_free : GoodIn wsL_free wsX1_free := goodIn_ca (goodIn_ca (goodIn_r _ [6, 7, 8, 5, 9, 10, 11, 12, 13, 14, 15, 16, 17, 18, 19, 20, 21, 22, 23, 24, 25, 26, 27, 28, 29, 30, 31, 32, 33, 34, 35, 36, 37, 38, 39, 40, 41, 42, 43, 44, 45, 46, 47, 48, 49, 50, 51, 52, 53, 54, 55, 56, 57, 58, 59, 60, 61, 62, 63, 64, 65, 66, 67, 68, 69, 70, 71, 72, 73, 74, 75, 76, 77, 78, 79, 80, 81, 82, 83, 84, 85, 86, 87, 88, 89, 90, 91] (by decide +kernel) (by decide +kernel)) (goodIn_sub (fun _ h => List.mem_cons_of_mem _ (List.mem_append_left _ (List.mem_append_right _ h))) (by decide +kernel))) (goodIn_sub (fun _ h => List.mem_cons_of_mem _ (List.mem_append_right _ h)) (by decide +kernel))
set_option maxRecDepth 20000 in
theorem gL_free_X1_free : GoodIn wsL_free (wsV RL 22 RX1 yX1_free wsX1_free) := goodIn_app (goodIn_of _ (by decide +kernel)) ggL_free_X1_free
theorem dL_free_0 : decode cL_free 0 = .ok (.aload_n 2, 1) := by decide +kernel
theorem dL_free_1 : decode cL_free 1 = .ok (.iconst 0, 1) := by decide +kernel
theorem dL_free_2 : decode cL_free 2 = .ok (.aload_n 0, 1) := by decide +kernel
theorem dL_free_3 : decode cL_free 3 = .ok (.iload_n 1, 1) := by decide +kernel
theorem dL_free_4 : decode cL_free 4 = .ok (.invokevirtual 22, 3) := by decide +kernel
theorem dL_free_7 : decode cL_free 7 = .ok (.ifCond .eq 7, 3) := by decide +kernel
theorem dL_free_10 : decode cL_free 10 = .ok (.lconst 1, 1) := by decide +kernel
theorem dL_free_11 : decode cL_free 11 = .ok (.goto 4, 3) := by decide +kernel
theorem dL_free_14 : decode cL_free 14 = .ok (.lconst 0, 1) := by decide +kernel
theorem dL_free_15 : decode cL_free 15 = .ok (.lastore, 1) := by decide +kernel
theorem dL_free_16 : decode cL_free 16 = .ok (.goto 6, 3) := by decide +kernel
theorem dL_free_19 : decode cL_free 19 = .ok (.astore_n 3, 1) := by decide +kernel
theorem dL_free_20 : decode cL_free 20 = .ok (.iconst 1, 1) := by decide +kernel
theorem dL_free_21 : decode cL_free 21 = .ok (.ireturn, 1) := by decide +kernel
theorem dL_free_22 : decode cL_free 22 = .ok (.iconst 0, 1) := by decide +kernel
theorem dL_free_23 : decode cL_free 23 = .ok (.ireturn, 1) := by decide +kernel
set_option maxRecDepth 20000 in
theorem ggL_law_X1_init : GoodIn wsL_law wsX1_init := goodIn_r _ [9, 10, 11, 12, 13, 14, 15, 16, 17, 18, 19, 20, 21, 22, 23, 6, 24, 303, 295, 296, 297] (by decide +kernel) (by decide +kernel)
set_option maxRecDepth 20000 in
theorem gL_law_X1_init : GoodIn wsL_law (wsX1_init) := ggL_law_X1_init
set_option maxRecDepth 20000 in
theorem ggL_law_X2_init : GoodIn wsL_law wsX2_init := goodIn_r _ [27, 28, 11, 12, 29, 30, 31, 32, 33, 298, 299, 300, 301, 302] (by decide +kernel) (by decide +kernel)
set_option maxRecDepth 20000 in
theorem gL_law_X2_init : GoodIn wsL_law (wsX2_init) := ggL_law_X2_init
set_option maxRecDepth 20000 in
theorem ggL_law_L_allocate : GoodIn wsL_law wsL_allocate := goodIn_ca (goodIn_r _ [37, 38, 39, 40, 41, 2, 42, 43, 44, 45, 46, 47, 48, 49, 50, 51, 52, 18, 20, 53, 54, 55, 56, 57, 58, 59, 60, 61, 62, 63, 64, 65, 66, 17, 67, 68, 69, 70, 16, 71, 72, 73, 74, 15, 75, 76, 77, 78, 79, 80, 81, 82, 83, 84, 85, 86, 87, 88, 89, 90, 91, 92, 24, 93, 94, 95, 96, 97, 98, 99, 100, 101, 102, 103, 104, 105, 106, 107, 108, 109, 110, 111, 112, 113, 114, 115, 116, 117, 118, 119, 120, 121, 122, 123, 124, 125, 126, 127, 128, 129, 295, 296, 297, 303] (by decide +kernel) (by decide +kernel)) (goodIn_sub (fun _ h => List.mem_append_left _ (List.mem_append_left _ (List.mem_append_right _ h))) (by decide +kernel))
set_option maxRecDepth 20000 in
theorem gL_law_L_allocate : GoodIn wsL_law (va_wsS RL 30 yL_allocate wsL_allocate) := goodIn_app (goodIn_of _ (by decide +kernel)) ggL_law_L_allocate
set_option maxRecDepth 20000 in
theorem ggL_law_X2_allocate : GoodIn wsL_law wsX2_allocate := goodIn_ca (goodIn_r _ [133, 134, 135, 136, 137, 5, 138, 139, 140, 141, 142, 143, 144, 32, 145, 146, 147, 148, 149, 33, 150, 151, 152, 153, 154, 155, 156, 157, 158, 159, 160, 161, 162, 163, 164, 165, 81, 31, 166, 167, 168, 169, 170, 171, 172, 173, 174, 175, 176, 177, 178, 179, 180, 181, 182, 298, 299, 300, 301, 302] (by decide +kernel) (by decide +kernel)) (goodIn_sub (fun _ h => List.mem_append_left _ (List.mem_append_right _ h)) (by decide +kernel))
set_option maxRecDepth 20000 in
theorem gL_law_X2_allocate : GoodIn wsL_law (wsV RL 35 RX2 yX2_allocate wsX2_allocate) := goodIn_app (goodIn_of _ (by decide +kernel)) ggL_law_X2_allocate
set_option maxRecDepth 20000 in
theorem ggL_law_X2_thrown : GoodIn wsL_law wsX2_thrown := goodIn_r _ [186, 135, 298, 299, 300, 301, 302] (by decide +kernel) (by decide +kernel)
set_option maxRecDepth 20000 in
theorem gL_law_X2_thrown : GoodIn wsL_law (wsV RL 36 RX2 yX2_thrown wsX2_thrown) := goodIn_app (goodIn_of _ (by decide +kernel)) ggL_law_X2_thrown
set_option maxRecDepth 20000 in
theorem ggL_law_L_cleared : GoodIn wsL_law wsL_cleared := goodIn_ca (goodIn_r _ [189, 38, 190, 191, 192, 2, 193, 52, 43, 44, 45, 46, 47, 48, 49, 50, 51, 18, 20, 53, 54, 55, 56, 57, 58, 59, 60, 61, 62, 63, 64, 65, 66, 17, 67, 68, 69, 70, 16, 71, 72, 73, 74, 15, 75, 76, 77, 78, 79, 80, 81, 82, 83, 84, 85, 86, 87, 88, 89, 90, 91, 92, 24, 93, 94, 95, 96, 97, 98, 99, 100, 101, 102, 103, 104, 105, 106, 107, 108, 109, 110, 111, 112, 113, 114, 115, 116, 117, 118, 119, 120, 121, 122, 123, 124, 125, 126, 127, 128, 129, 194, 195, 196, 197, 198, 295, 296, 297, 303] (by decide +kernel) (by decide +kernel)) (goodIn_sub (fun _ h => List.mem_append_left _ (List.mem_append_left _ (List.mem_append_right _ h))) (by decide +kernel))
set_option maxRecDepth 20000 in
theorem gL_law_L_cleared : GoodIn wsL_law (va_wsS RL 40 yL_cleared wsL_cleared) := goodIn_app (goodIn_of _ (by decide +kernel)) ggL_law_L_cleared
set_option maxRecDepth 20000 in
theorem ggL_law_X2_cleared : GoodIn wsL_law wsX2_cleared := goodIn_ca (goodIn_r _ [202, 134, 135, 149, 136, 137, 5, 138, 139, 140, 141, 142, 143, 144, 32, 145, 146, 147, 148, 33, 150, 151, 152, 153, 154, 155, 156, 157, 158, 159, 160, 161, 162, 163, 164, 165, 81, 31, 166, 167, 168, 169, 170, 171, 172, 173, 174, 175, 176, 177, 178, 179, 180, 181, 182, 298, 299, 300, 301, 302] (by decide +kernel) (by decide +kernel)) (goodIn_sub (fun _ h => List.mem_append_left _ (List.mem_append_right _ h)) (by decide +kernel))
set_option maxRecDepth 20000 in
theorem gL_law_X2_cleared : GoodIn wsL_law (wsV RL 43 RX2 yX2_cleared wsX2_cleared) := goodIn_app (goodIn_of _ (by decide +kernel)) ggL_law_X2_cleared
set_option maxRecDepth 20000 in
theorem ggL_law_L_resize : GoodIn wsL_law wsL_resize := goodIn_ca (goodIn_ca (goodIn_r _ [205, 38, 206, 207, 208, 2, 209, 43, 44, 45, 46, 47, 48, 49, 50, 51, 52, 18, 20, 53, 54, 55, 56, 57, 58, 59, 60, 61, 62, 63, 64, 65, 66, 17, 67, 68, 69, 70, 16, 71, 72, 73, 74, 15, 75, 76, 77, 78, 79, 80, 81, 82, 83, 84, 85, 86, 87, 88, 89, 90, 91, 92, 24, 93, 94, 95, 96, 97, 98, 99, 100, 101, 102, 103, 104, 105, 106, 107, 108, 109, 110, 111, 112, 113, 114, 115, 116, 117, 118, 119, 120, 121, 122, 123, 124, 125, 126, 127, 128, 129, 210, 211, 212, 213, 214, 215, 216, 217, 218, 219, 220, 221, 222, 223, 224, 225, 226, 227, 228, 229, 230, 231, 198, 295, 296, 297, 303] (by decide +kernel) (by decide +kernel)) (goodIn_sub (fun _ h => List.mem_append_left _ (List.mem_append_left _ (List.mem_append_right _ h))) (by decide +kernel))) (goodIn_sub (fun _ h => List.mem_append_right _ h) (by decide +kernel))
set_option maxRecDepth 20000 in
theorem gL_law_L_resize : GoodIn wsL_law (va_wsS RL 44 yL_resize wsL_resize) := goodIn_app (goodIn_of _ (by decide +kernel)) ggL_law_L_resize
set_option maxRecDepth 20000 in
theorem ggL_law_X2_resize : GoodIn wsL_law wsX2_resize := goodIn_ca (goodIn_r _ [235, 134, 135, 236, 237, 238, 5, 239, 136, 137, 138, 139, 140, 141, 142, 143, 144, 32, 145, 146, 147, 148, 149, 33, 150, 151, 152, 153, 154, 155, 156, 157, 158, 159, 160, 161, 162, 163, 164, 165, 81, 31, 166, 167, 168, 169, 170, 171, 172, 173, 174, 175, 176, 177, 178, 179, 180, 181, 182, 240, 241, 242, 243, 244, 245, 246, 247, 248, 249, 298, 299, 300, 301, 302] (by decide +kernel) (by decide +kernel)) (goodIn_sub (fun _ h => List.mem_append_left _ (List.mem_append_right _ h)) (by decide +kernel))
set_option maxRecDepth 20000 in
theorem gL_law_X2_resize : GoodIn wsL_law (wsV RL 46 RX2 yX2_resize wsX2_resize) := goodIn_app (goodIn_of _ (by decide +kernel)) ggL_law_X2_resize
set_option maxRecDepth 20000 in
theorem ggL_law_L_free : GoodIn wsL_law wsL_free := goodIn_ca (goodIn_ca (goodIn_r _ [252, 38, 253, 254, 255, 2, 256, 43, 44, 45, 46, 210, 211, 212, 213, 214, 81, 17, 18, 51, 67, 68, 69, 70, 16, 71, 72, 73, 74, 15, 75, 76, 77, 78, 79, 80, 82, 83, 84, 85, 86, 87, 88, 89, 90, 91, 92, 24, 93, 94, 95, 96, 97, 98, 103, 104, 105, 106, 215, 216, 217, 218, 99, 100, 101, 102, 112, 113, 114, 115, 116, 117, 118, 119, 120, 121, 122, 123, 124, 125, 219, 220, 221, 222, 223, 224, 225, 226, 295, 296, 297, 303] (by decide +kernel) (by decide +kernel)) (goodIn_sub (fun _ h => List.mem_append_right _ h) (by decide +kernel))) (goodIn_sub (fun _ h => List.mem_append_left _ (List.mem_append_left _ (List.mem_append_right _ h))) (by decide +kernel))
set_option maxRecDepth 20000 in
theorem gL_law_L_free : GoodIn wsL_law (va_wsS RL 47 yL_free wsL_free) := goodIn_app (goodIn_of _ (by decide +kernel)) ggL_law_L_free
set_option maxRecDepth 20000 in
theorem ggL_law_X2_free : GoodIn wsL_law wsX2_free := goodIn_ca (goodIn_r _ [260, 134, 135, 240, 241, 242, 5, 243, 244, 148, 146, 32, 245, 246, 247, 248, 81, 249, 144, 154, 155, 156, 157, 158, 159, 160, 161, 162, 163, 164, 165, 31, 166, 167, 168, 169, 136, 137, 138, 139, 170, 171, 172, 173, 174, 175, 176, 177, 178, 179, 180, 181, 182, 298, 299, 300, 301, 302] (by decide +kernel) (by decide +kernel)) (goodIn_sub (fun _ h => List.mem_append_left _ (List.mem_append_right _ h)) (by decide +kernel))
set_option maxRecDepth 20000 in
theorem gL_law_X2_free : GoodIn wsL_law (wsV RL 49 RX2 yX2_free wsX2_free) := goodIn_app (goodIn_of _ (by decide +kernel)) ggL_law_X2_free
set_option maxRecDepth 20000 in
theorem ggL_law_X1_stack : GoodIn wsL_law wsX1_stack := goodIn_r _ [264, 265, 18, 20, 295, 296, 297] (by decide +kernel) (by decide +kernel)
set_option maxRecDepth 20000 in
theorem gL_law_X1_stack : GoodIn wsL_law (wsV RL 50 RX1 yX1_stack wsX1_stack) := goodIn_app (goodIn_of _ (by decide +kernel)) ggL_law_X1_stack
set_option maxRecDepth 20000 in
theorem ggL_law_X2_stack : GoodIn wsL_law wsX2_stack := goodIn_r _ [269, 135, 29, 32, 33, 298, 299, 300, 301, 302] (by decide +kernel) (by decide +kernel)
set_option maxRecDepth 20000 in
theorem gL_law_X2_stack : GoodIn wsL_law (wsV RL 53 RX2 yX2_stack wsX2_stack) := goodIn_app (goodIn_of _ (by decide +kernel)) ggL_law_X2_stack
set_option maxRecDepth 20000 in
theorem ggL_law_X1_put : GoodIn wsL_law wsX1_put := goodIn_ca (goodIn_r _ [273, 16, 43, 44, 2, 45, 46, 274, 84, 85, 15, 86, 87, 88, 231, 90, 91, 92, 80, 81, 24, 83, 93, 94, 95, 96, 97, 98, 198, 121, 122, 123, 124, 125, 295, 296, 297, 303] (by decide +kernel) (by decide +kernel)) (goodIn_sub (fun _ h => List.mem_append_left _ (List.mem_append_left _ (List.mem_append_right _ h))) (by decide +kernel))
set_option maxRecDepth 20000 in
theorem gL_law_X1_put : GoodIn wsL_law (wsV RL 54 RX1 yX1_put wsX1_put) := goodIn_app (goodIn_of _ (by decide +kernel)) ggL_law_X1_put
set_option maxRecDepth 20000 in
theorem ggL_law_X2_put : GoodIn wsL_law wsX2_put := goodIn_r _ [278, 135, 31, 136, 137, 5, 138, 139, 166, 167, 168, 144, 169, 298, 299, 300, 301, 302] (by decide +kernel) (by decide +kernel)
set_option maxRecDepth 20000 in
theorem gL_law_X2_put : GoodIn wsL_law (wsV RL 57 RX2 yX2_put wsX2_put) := goodIn_app (goodIn_of _ (by decide +kernel)) ggL_law_X2_put
set_option maxRecDepth 20000 in
theorem ggL_law_X1_get : GoodIn wsL_law wsX1_get := goodIn_ca (goodIn_r _ [282, 16, 43, 44, 2, 45, 46, 274, 84, 85, 15, 86, 87, 88, 231, 90, 91, 92, 80, 81, 24, 83, 93, 94, 95, 96, 97, 98, 295, 296, 297, 303] (by decide +kernel) (by decide +kernel)) (goodIn_sub (fun _ h => List.mem_append_left _ (List.mem_append_left _ (List.mem_append_right _ h))) (by decide +kernel))
set_option maxRecDepth 20000 in
theorem gL_law_X1_get : GoodIn wsL_law (wsV RL 58 RX1 yX1_get wsX1_get) := goodIn_app (goodIn_of _ (by decide +kernel)) ggL_law_X1_get
set_option maxRecDepth 20000 in
theorem ggL_law_X2_get : GoodIn wsL_law wsX2_get := goodIn_r _ [286, 135, 31, 136, 137, 5, 138, 139, 166, 167, 168, 144, 169, 298, 299, 300, 301, 302] (by decide +kernel) (by decide +kernel)
set_option maxRecDepth 20000 in
theorem gL_law_X2_get : GoodIn wsL_law (wsV RL 61 RX2 yX2_get wsX2_get) := goodIn_app (goodIn_of _ (by decide +kernel)) ggL_law_X2_get
set_option maxRecDepth 20000 in
theorem ggL_law_X1_end : GoodIn wsL_law wsX1_end := goodIn_r _ [290, 18, 295, 296, 297] (by decide +kernel) (by decide +kernel)
set_option maxRecDepth 20000 in
theorem gL_law_X1_end : GoodIn wsL_law (wsV RL 62 RX1 yX1_end wsX1_end) := goodIn_app (goodIn_of _ (by decide +kernel)) ggL_law_X1_end
set_option maxRecDepth 20000 in
theorem ggL_law_X2_end : GoodIn wsL_law wsX2_end := goodIn_r _ [294, 135, 32, 298, 299, 300, 301, 302] (by decide +kernel) (by decide +kernel)
set_option maxRecDepth 20000 in
theorem gL_law_X2_end : GoodIn wsL_law (wsV RL 65 RX2 yX2_end wsX2_end) := goodIn_app (goodIn_of _ (by decide +kernel)) ggL_law_X2_end
theorem dL_law_0 : decode cL_law 0 = .ok (.new 8, 3) := by decide +kernel
theorem dL_law_3 : decode cL_law 3 = .ok (.dup, 1) := by decide +kernel
theorem dL_law_4 : decode cL_law 4 = .ok (.invokespecial 26, 3) := by decide +kernel
theorem dL_law_7 : decode cL_law 7 = .ok (.astore_n 1, 1) := by decide +kernel
theorem dL_law_8 : decode cL_law 8 = .ok (.new 27, 3) := by decide +kernel
theorem dL_law_11 : decode cL_law 11 = .ok (.dup, 1) := by decide +kernel
theorem dL_law_12 : decode cL_law 12 = .ok (.invokespecial 29, 3) := by decide +kernel
theorem dL_law_15 : decode cL_law 15 = .ok (.astore_n 2, 1) := by decide +kernel
theorem dL_law_16 : decode cL_law 16 = .ok (.iconst 1, 1) := by decide +kernel
theorem dL_law_17 : decode cL_law 17 = .ok (.newarray .long, 2) := by decide +kernel
theorem dL_law_19 : decode cL_law 19 = .ok (.astore_n 3, 1) := by decide +kernel
theorem dL_law_20 : decode cL_law 20 = .ok (.iconst 0, 1) := by decide +kernel
theorem dL_law_21 : decode cL_law 21 = .ok (.istore 4, 2) := by decide +kernel
theorem dL_law_23 : decode cL_law 23 = .ok (.iload 4, 2) := by decide +kernel
theorem dL_law_25 : decode cL_law 25 = .ok (.aload_n 0, 1) := by decide +kernel
theorem dL_law_26 : decode cL_law 26 = .ok (.arraylength, 1) := by decide +kernel
theorem dL_law_27 : decode cL_law 27 = .ok (.iconst 3, 1) := by decide +kernel
theorem dL_law_28 : decode cL_law 28 = .ok (.isub, 1) := by decide +kernel
theorem dL_law_29 : decode cL_law 29 = .ok (.if_icmp .gt 416, 3) := by decide +kernel
theorem dL_law_32 : decode cL_law 32 = .ok (.aload_n 0, 1) := by decide +kernel
theorem dL_law_33 : decode cL_law 33 = .ok (.iload 4, 2) := by decide +kernel
theorem dL_law_35 : decode cL_law 35 = .ok (.iaload, 1) := by decide +kernel
theorem dL_law_36 : decode cL_law 36 = .ok (.bipush 7, 2) := by decide +kernel
theorem dL_law_38 : decode cL_law 38 = .ok (.iand, 1) := by decide +kernel
theorem dL_law_39 : decode cL_law 39 = .ok (.tableswitch 400 0 7 #[45, 101, 169, 237, 300, 325, 362, 387], 45) := by decide +kernel
theorem dL_law_84 : decode cL_law 84 = .ok (.aload_n 1, 1) := by decide +kernel
theorem dL_law_85 : decode cL_law 85 = .ok (.aload_n 0, 1) := by decide +kernel
theorem dL_law_86 : decode cL_law 86 = .ok (.iload 4, 2) := by decide +kernel
theorem dL_law_88 : decode cL_law 88 = .ok (.iconst 1, 1) := by decide +kernel
theorem dL_law_89 : decode cL_law 89 = .ok (.iadd, 1) := by decide +kernel
theorem dL_law_90 : decode cL_law 90 = .ok (.iaload, 1) := by decide +kernel
theorem dL_law_91 : decode cL_law 91 = .ok (.aload_n 3, 1) := by decide +kernel
theorem dL_law_92 : decode cL_law 92 = .ok (.invokestatic 30, 3) := by decide +kernel
theorem dL_law_95 : decode cL_law 95 = .ok (.istore 5, 2) := by decide +kernel
theorem dL_law_97 : decode cL_law 97 = .ok (.aload_n 2, 1) := by decide +kernel
theorem dL_law_98 : decode cL_law 98 = .ok (.aload_n 0, 1) := by decide +kernel
theorem dL_law_99 : decode cL_law 99 = .ok (.iload 4, 2) := by decide +kernel
theorem dL_law_101 : decode cL_law 101 = .ok (.iconst 1, 1) := by decide +kernel
theorem dL_law_102 : decode cL_law 102 = .ok (.iadd, 1) := by decide +kernel
theorem dL_law_103 : decode cL_law 103 = .ok (.iaload, 1) := by decide +kernel
theorem dL_law_104 : decode cL_law 104 = .ok (.invokevirtual 35, 3) := by decide +kernel
theorem dL_law_107 : decode cL_law 107 = .ok (.istore 6, 2) := by decide +kernel
theorem dL_law_109 : decode cL_law 109 = .ok (.aload_n 2, 1) := by decide +kernel
theorem dL_law_110 : decode cL_law 110 = .ok (.invokevirtual 36, 3) := by decide +kernel
theorem dL_law_113 : decode cL_law 113 = .ok (.iload 5, 2) := by decide +kernel
theorem dL_law_115 : decode cL_law 115 = .ok (.if_icmp .eq 5, 3) := by decide +kernel
theorem dL_law_118 : decode cL_law 118 = .ok (.iconst 0, 1) := by decide +kernel
theorem dL_law_119 : decode cL_law 119 = .ok (.ireturn, 1) := by decide +kernel
theorem dL_law_120 : decode cL_law 120 = .ok (.iload 5, 2) := by decide +kernel
theorem dL_law_122 : decode cL_law 122 = .ok (.ifCond .ne 15, 3) := by decide +kernel
theorem dL_law_125 : decode cL_law 125 = .ok (.aload_n 3, 1) := by decide +kernel
theorem dL_law_126 : decode cL_law 126 = .ok (.iconst 0, 1) := by decide +kernel
theorem dL_law_127 : decode cL_law 127 = .ok (.laload, 1) := by decide +kernel
theorem dL_law_128 : decode cL_law 128 = .ok (.iload 6, 2) := by decide +kernel
theorem dL_law_130 : decode cL_law 130 = .ok (.i2l, 1) := by decide +kernel
theorem dL_law_131 : decode cL_law 131 = .ok (.lcmp, 1) := by decide +kernel
theorem dL_law_132 : decode cL_law 132 = .ok (.ifCond .eq 5, 3) := by decide +kernel
theorem dL_law_135 : decode cL_law 135 = .ok (.iconst 0, 1) := by decide +kernel
theorem dL_law_136 : decode cL_law 136 = .ok (.ireturn, 1) := by decide +kernel
theorem dL_law_137 : decode cL_law 137 = .ok (.goto 302, 3) := by decide +kernel
theorem dL_law_140 : decode cL_law 140 = .ok (.aload_n 1, 1) := by decide +kernel
theorem dL_law_141 : decode cL_law 141 = .ok (.aload_n 0, 1) := by decide +kernel
theorem dL_law_142 : decode cL_law 142 = .ok (.iload 4, 2) := by decide +kernel
theorem dL_law_144 : decode cL_law 144 = .ok (.iconst 1, 1) := by decide +kernel
theorem dL_law_145 : decode cL_law 145 = .ok (.iadd, 1) := by decide +kernel
theorem dL_law_146 : decode cL_law 146 = .ok (.iaload, 1) := by decide +kernel
theorem dL_law_147 : decode cL_law 147 = .ok (.aload_n 0, 1) := by decide +kernel
theorem dL_law_148 : decode cL_law 148 = .ok (.iload 4, 2) := by decide +kernel
theorem dL_law_150 : decode cL_law 150 = .ok (.iconst 2, 1) := by decide +kernel
theorem dL_law_151 : decode cL_law 151 = .ok (.iadd, 1) := by decide +kernel
theorem dL_law_152 : decode cL_law 152 = .ok (.iaload, 1) := by decide +kernel
theorem dL_law_153 : decode cL_law 153 = .ok (.aload_n 3, 1) := by decide +kernel
theorem dL_law_154 : decode cL_law 154 = .ok (.invokestatic 40, 3) := by decide +kernel
theorem dL_law_157 : decode cL_law 157 = .ok (.istore 5, 2) := by decide +kernel
theorem dL_law_159 : decode cL_law 159 = .ok (.aload_n 2, 1) := by decide +kernel
theorem dL_law_160 : decode cL_law 160 = .ok (.aload_n 0, 1) := by decide +kernel
theorem dL_law_161 : decode cL_law 161 = .ok (.iload 4, 2) := by decide +kernel
theorem dL_law_163 : decode cL_law 163 = .ok (.iconst 1, 1) := by decide +kernel
theorem dL_law_164 : decode cL_law 164 = .ok (.iadd, 1) := by decide +kernel
theorem dL_law_165 : decode cL_law 165 = .ok (.iaload, 1) := by decide +kernel
theorem dL_law_166 : decode cL_law 166 = .ok (.aload_n 0, 1) := by decide +kernel
theorem dL_law_167 : decode cL_law 167 = .ok (.iload 4, 2) := by decide +kernel
theorem dL_law_169 : decode cL_law 169 = .ok (.iconst 2, 1) := by decide +kernel
theorem dL_law_170 : decode cL_law 170 = .ok (.iadd, 1) := by decide +kernel
theorem dL_law_171 : decode cL_law 171 = .ok (.iaload, 1) := by decide +kernel
theorem dL_law_172 : decode cL_law 172 = .ok (.invokevirtual 43, 3) := by decide +kernel
theorem dL_law_175 : decode cL_law 175 = .ok (.istore 6, 2) := by decide +kernel
theorem dL_law_177 : decode cL_law 177 = .ok (.aload_n 2, 1) := by decide +kernel
theorem dL_law_178 : decode cL_law 178 = .ok (.invokevirtual 36, 3) := by decide +kernel
theorem dL_law_181 : decode cL_law 181 = .ok (.iload 5, 2) := by decide +kernel
theorem dL_law_183 : decode cL_law 183 = .ok (.if_icmp .eq 5, 3) := by decide +kernel
theorem dL_law_186 : decode cL_law 186 = .ok (.iconst 0, 1) := by decide +kernel
theorem dL_law_187 : decode cL_law 187 = .ok (.ireturn, 1) := by decide +kernel
theorem dL_law_188 : decode cL_law 188 = .ok (.iload 5, 2) := by decide +kernel
theorem dL_law_190 : decode cL_law 190 = .ok (.ifCond .ne 15, 3) := by decide +kernel
theorem dL_law_193 : decode cL_law 193 = .ok (.aload_n 3, 1) := by decide +kernel
theorem dL_law_194 : decode cL_law 194 = .ok (.iconst 0, 1) := by decide +kernel
theorem dL_law_195 : decode cL_law 195 = .ok (.laload, 1) := by decide +kernel
theorem dL_law_196 : decode cL_law 196 = .ok (.iload 6, 2) := by decide +kernel
theorem dL_law_198 : decode cL_law 198 = .ok (.i2l, 1) := by decide +kernel
theorem dL_law_199 : decode cL_law 199 = .ok (.lcmp, 1) := by decide +kernel
theorem dL_law_200 : decode cL_law 200 = .ok (.ifCond .eq 5, 3) := by decide +kernel
theorem dL_law_203 : decode cL_law 203 = .ok (.iconst 0, 1) := by decide +kernel
theorem dL_law_204 : decode cL_law 204 = .ok (.ireturn, 1) := by decide +kernel
theorem dL_law_205 : decode cL_law 205 = .ok (.goto 234, 3) := by decide +kernel
theorem dL_law_208 : decode cL_law 208 = .ok (.aload_n 1, 1) := by decide +kernel
theorem dL_law_209 : decode cL_law 209 = .ok (.aload_n 0, 1) := by decide +kernel
theorem dL_law_210 : decode cL_law 210 = .ok (.iload 4, 2) := by decide +kernel
theorem dL_law_212 : decode cL_law 212 = .ok (.iconst 1, 1) := by decide +kernel
theorem dL_law_213 : decode cL_law 213 = .ok (.iadd, 1) := by decide +kernel
theorem dL_law_214 : decode cL_law 214 = .ok (.iaload, 1) := by decide +kernel
theorem dL_law_215 : decode cL_law 215 = .ok (.aload_n 0, 1) := by decide +kernel
theorem dL_law_216 : decode cL_law 216 = .ok (.iload 4, 2) := by decide +kernel
theorem dL_law_218 : decode cL_law 218 = .ok (.iconst 2, 1) := by decide +kernel
theorem dL_law_219 : decode cL_law 219 = .ok (.iadd, 1) := by decide +kernel
theorem dL_law_220 : decode cL_law 220 = .ok (.iaload, 1) := by decide +kernel
theorem dL_law_221 : decode cL_law 221 = .ok (.aload_n 3, 1) := by decide +kernel
theorem dL_law_222 : decode cL_law 222 = .ok (.invokestatic 44, 3) := by decide +kernel
theorem dL_law_225 : decode cL_law 225 = .ok (.istore 5, 2) := by decide +kernel
theorem dL_law_227 : decode cL_law 227 = .ok (.aload_n 2, 1) := by decide +kernel
theorem dL_law_228 : decode cL_law 228 = .ok (.aload_n 0, 1) := by decide +kernel
theorem dL_law_229 : decode cL_law 229 = .ok (.iload 4, 2) := by decide +kernel
theorem dL_law_231 : decode cL_law 231 = .ok (.iconst 1, 1) := by decide +kernel
theorem dL_law_232 : decode cL_law 232 = .ok (.iadd, 1) := by decide +kernel
theorem dL_law_233 : decode cL_law 233 = .ok (.iaload, 1) := by decide +kernel
theorem dL_law_234 : decode cL_law 234 = .ok (.aload_n 0, 1) := by decide +kernel
theorem dL_law_235 : decode cL_law 235 = .ok (.iload 4, 2) := by decide +kernel
theorem dL_law_237 : decode cL_law 237 = .ok (.iconst 2, 1) := by decide +kernel
theorem dL_law_238 : decode cL_law 238 = .ok (.iadd, 1) := by decide +kernel
theorem dL_law_239 : decode cL_law 239 = .ok (.iaload, 1) := by decide +kernel
theorem dL_law_240 : decode cL_law 240 = .ok (.invokevirtual 46, 3) := by decide +kernel
theorem dL_law_243 : decode cL_law 243 = .ok (.istore 6, 2) := by decide +kernel
theorem dL_law_245 : decode cL_law 245 = .ok (.aload_n 2, 1) := by decide +kernel
theorem dL_law_246 : decode cL_law 246 = .ok (.invokevirtual 36, 3) := by decide +kernel
theorem dL_law_249 : decode cL_law 249 = .ok (.iload 5, 2) := by decide +kernel
theorem dL_law_251 : decode cL_law 251 = .ok (.if_icmp .eq 5, 3) := by decide +kernel
theorem dL_law_254 : decode cL_law 254 = .ok (.iconst 0, 1) := by decide +kernel
theorem dL_law_255 : decode cL_law 255 = .ok (.ireturn, 1) := by decide +kernel
theorem dL_law_256 : decode cL_law 256 = .ok (.iload 5, 2) := by decide +kernel
theorem dL_law_258 : decode cL_law 258 = .ok (.ifCond .ne 15, 3) := by decide +kernel
theorem dL_law_261 : decode cL_law 261 = .ok (.aload_n 3, 1) := by decide +kernel
theorem dL_law_262 : decode cL_law 262 = .ok (.iconst 0, 1) := by decide +kernel
theorem dL_law_263 : decode cL_law 263 = .ok (.laload, 1) := by decide +kernel
theorem dL_law_264 : decode cL_law 264 = .ok (.iload 6, 2) := by decide +kernel
theorem dL_law_266 : decode cL_law 266 = .ok (.i2l, 1) := by decide +kernel
theorem dL_law_267 : decode cL_law 267 = .ok (.lcmp, 1) := by decide +kernel
theorem dL_law_268 : decode cL_law 268 = .ok (.ifCond .eq 5, 3) := by decide +kernel
theorem dL_law_271 : decode cL_law 271 = .ok (.iconst 0, 1) := by decide +kernel
theorem dL_law_272 : decode cL_law 272 = .ok (.ireturn, 1) := by decide +kernel
theorem dL_law_273 : decode cL_law 273 = .ok (.goto 166, 3) := by decide +kernel
theorem dL_law_276 : decode cL_law 276 = .ok (.aload_n 1, 1) := by decide +kernel
theorem dL_law_277 : decode cL_law 277 = .ok (.aload_n 0, 1) := by decide +kernel
theorem dL_law_278 : decode cL_law 278 = .ok (.iload 4, 2) := by decide +kernel
theorem dL_law_280 : decode cL_law 280 = .ok (.iconst 1, 1) := by decide +kernel
theorem dL_law_281 : decode cL_law 281 = .ok (.iadd, 1) := by decide +kernel
theorem dL_law_282 : decode cL_law 282 = .ok (.iaload, 1) := by decide +kernel
theorem dL_law_283 : decode cL_law 283 = .ok (.aload_n 3, 1) := by decide +kernel
theorem dL_law_284 : decode cL_law 284 = .ok (.invokestatic 47, 3) := by decide +kernel
theorem dL_law_287 : decode cL_law 287 = .ok (.istore 5, 2) := by decide +kernel
theorem dL_law_289 : decode cL_law 289 = .ok (.aload_n 2, 1) := by decide +kernel
theorem dL_law_290 : decode cL_law 290 = .ok (.aload_n 0, 1) := by decide +kernel
theorem dL_law_291 : decode cL_law 291 = .ok (.iload 4, 2) := by decide +kernel
theorem dL_law_293 : decode cL_law 293 = .ok (.iconst 1, 1) := by decide +kernel
theorem dL_law_294 : decode cL_law 294 = .ok (.iadd, 1) := by decide +kernel
theorem dL_law_295 : decode cL_law 295 = .ok (.iaload, 1) := by decide +kernel
theorem dL_law_296 : decode cL_law 296 = .ok (.invokevirtual 49, 3) := by decide +kernel
theorem dL_law_299 : decode cL_law 299 = .ok (.istore 6, 2) := by decide +kernel
theorem dL_law_301 : decode cL_law 301 = .ok (.aload_n 2, 1) := by decide +kernel
theorem dL_law_302 : decode cL_law 302 = .ok (.invokevirtual 36, 3) := by decide +kernel
theorem dL_law_305 : decode cL_law 305 = .ok (.iload 5, 2) := by decide +kernel
theorem dL_law_307 : decode cL_law 307 = .ok (.if_icmp .eq 5, 3) := by decide +kernel
theorem dL_law_310 : decode cL_law 310 = .ok (.iconst 0, 1) := by decide +kernel
theorem dL_law_311 : decode cL_law 311 = .ok (.ireturn, 1) := by decide +kernel
theorem dL_law_312 : decode cL_law 312 = .ok (.iload 5, 2) := by decide +kernel
theorem dL_law_314 : decode cL_law 314 = .ok (.ifCond .ne 22, 3) := by decide +kernel
theorem dL_law_317 : decode cL_law 317 = .ok (.aload_n 3, 1) := by decide +kernel
theorem dL_law_318 : decode cL_law 318 = .ok (.iconst 0, 1) := by decide +kernel
theorem dL_law_319 : decode cL_law 319 = .ok (.laload, 1) := by decide +kernel
theorem dL_law_320 : decode cL_law 320 = .ok (.iload 6, 2) := by decide +kernel
theorem dL_law_322 : decode cL_law 322 = .ok (.ifCond .eq 7, 3) := by decide +kernel
theorem dL_law_325 : decode cL_law 325 = .ok (.lconst 1, 1) := by decide +kernel
theorem dL_law_326 : decode cL_law 326 = .ok (.goto 4, 3) := by decide +kernel
theorem dL_law_329 : decode cL_law 329 = .ok (.lconst 0, 1) := by decide +kernel
theorem dL_law_330 : decode cL_law 330 = .ok (.lcmp, 1) := by decide +kernel
theorem dL_law_331 : decode cL_law 331 = .ok (.ifCond .eq 5, 3) := by decide +kernel
theorem dL_law_334 : decode cL_law 334 = .ok (.iconst 0, 1) := by decide +kernel
theorem dL_law_335 : decode cL_law 335 = .ok (.ireturn, 1) := by decide +kernel
theorem dL_law_336 : decode cL_law 336 = .ok (.goto 103, 3) := by decide +kernel
theorem dL_law_339 : decode cL_law 339 = .ok (.aload_n 1, 1) := by decide +kernel
theorem dL_law_340 : decode cL_law 340 = .ok (.aload_n 0, 1) := by decide +kernel
theorem dL_law_341 : decode cL_law 341 = .ok (.iload 4, 2) := by decide +kernel
theorem dL_law_343 : decode cL_law 343 = .ok (.iconst 1, 1) := by decide +kernel
theorem dL_law_344 : decode cL_law 344 = .ok (.iadd, 1) := by decide +kernel
theorem dL_law_345 : decode cL_law 345 = .ok (.iaload, 1) := by decide +kernel
theorem dL_law_346 : decode cL_law 346 = .ok (.invokevirtual 50, 3) := by decide +kernel
theorem dL_law_349 : decode cL_law 349 = .ok (.aload_n 2, 1) := by decide +kernel
theorem dL_law_350 : decode cL_law 350 = .ok (.aload_n 0, 1) := by decide +kernel
theorem dL_law_351 : decode cL_law 351 = .ok (.iload 4, 2) := by decide +kernel
theorem dL_law_353 : decode cL_law 353 = .ok (.iconst 1, 1) := by decide +kernel
theorem dL_law_354 : decode cL_law 354 = .ok (.iadd, 1) := by decide +kernel
theorem dL_law_355 : decode cL_law 355 = .ok (.iaload, 1) := by decide +kernel
theorem dL_law_356 : decode cL_law 356 = .ok (.invokevirtual 53, 3) := by decide +kernel
theorem dL_law_359 : decode cL_law 359 = .ok (.if_icmp .eq 80, 3) := by decide +kernel
theorem dL_law_362 : decode cL_law 362 = .ok (.iconst 0, 1) := by decide +kernel
theorem dL_law_363 : decode cL_law 363 = .ok (.ireturn, 1) := by decide +kernel
theorem dL_law_364 : decode cL_law 364 = .ok (.aload_n 1, 1) := by decide +kernel
theorem dL_law_365 : decode cL_law 365 = .ok (.aload_n 0, 1) := by decide +kernel
theorem dL_law_366 : decode cL_law 366 = .ok (.iload 4, 2) := by decide +kernel
theorem dL_law_368 : decode cL_law 368 = .ok (.iconst 1, 1) := by decide +kernel
theorem dL_law_369 : decode cL_law 369 = .ok (.iadd, 1) := by decide +kernel
theorem dL_law_370 : decode cL_law 370 = .ok (.iaload, 1) := by decide +kernel
theorem dL_law_371 : decode cL_law 371 = .ok (.aload_n 0, 1) := by decide +kernel
theorem dL_law_372 : decode cL_law 372 = .ok (.iload 4, 2) := by decide +kernel
theorem dL_law_374 : decode cL_law 374 = .ok (.iconst 2, 1) := by decide +kernel
theorem dL_law_375 : decode cL_law 375 = .ok (.iadd, 1) := by decide +kernel
theorem dL_law_376 : decode cL_law 376 = .ok (.iaload, 1) := by decide +kernel
theorem dL_law_377 : decode cL_law 377 = .ok (.invokevirtual 54, 3) := by decide +kernel
theorem dL_law_380 : decode cL_law 380 = .ok (.aload_n 2, 1) := by decide +kernel
theorem dL_law_381 : decode cL_law 381 = .ok (.aload_n 0, 1) := by decide +kernel
theorem dL_law_382 : decode cL_law 382 = .ok (.iload 4, 2) := by decide +kernel
theorem dL_law_384 : decode cL_law 384 = .ok (.iconst 1, 1) := by decide +kernel
theorem dL_law_385 : decode cL_law 385 = .ok (.iadd, 1) := by decide +kernel
theorem dL_law_386 : decode cL_law 386 = .ok (.iaload, 1) := by decide +kernel
theorem dL_law_387 : decode cL_law 387 = .ok (.aload_n 0, 1) := by decide +kernel
theorem dL_law_388 : decode cL_law 388 = .ok (.iload 4, 2) := by decide +kernel
theorem dL_law_390 : decode cL_law 390 = .ok (.iconst 2, 1) := by decide +kernel
theorem dL_law_391 : decode cL_law 391 = .ok (.iadd, 1) := by decide +kernel
theorem dL_law_392 : decode cL_law 392 = .ok (.iaload, 1) := by decide +kernel
theorem dL_law_393 : decode cL_law 393 = .ok (.invokevirtual 57, 3) := by decide +kernel
theorem dL_law_396 : decode cL_law 396 = .ok (.if_icmp .eq 43, 3) := by decide +kernel
theorem dL_law_399 : decode cL_law 399 = .ok (.iconst 0, 1) := by decide +kernel
theorem dL_law_400 : decode cL_law 400 = .ok (.ireturn, 1) := by decide +kernel
theorem dL_law_401 : decode cL_law 401 = .ok (.aload_n 1, 1) := by decide +kernel
theorem dL_law_402 : decode cL_law 402 = .ok (.aload_n 0, 1) := by decide +kernel
theorem dL_law_403 : decode cL_law 403 = .ok (.iload 4, 2) := by decide +kernel
theorem dL_law_405 : decode cL_law 405 = .ok (.iconst 1, 1) := by decide +kernel
theorem dL_law_406 : decode cL_law 406 = .ok (.iadd, 1) := by decide +kernel
theorem dL_law_407 : decode cL_law 407 = .ok (.iaload, 1) := by decide +kernel
theorem dL_law_408 : decode cL_law 408 = .ok (.invokevirtual 58, 3) := by decide +kernel
theorem dL_law_411 : decode cL_law 411 = .ok (.aload_n 2, 1) := by decide +kernel
theorem dL_law_412 : decode cL_law 412 = .ok (.aload_n 0, 1) := by decide +kernel
theorem dL_law_413 : decode cL_law 413 = .ok (.iload 4, 2) := by decide +kernel
theorem dL_law_415 : decode cL_law 415 = .ok (.iconst 1, 1) := by decide +kernel
theorem dL_law_416 : decode cL_law 416 = .ok (.iadd, 1) := by decide +kernel
theorem dL_law_417 : decode cL_law 417 = .ok (.iaload, 1) := by decide +kernel
theorem dL_law_418 : decode cL_law 418 = .ok (.invokevirtual 61, 3) := by decide +kernel
theorem dL_law_421 : decode cL_law 421 = .ok (.if_icmp .eq 18, 3) := by decide +kernel
theorem dL_law_424 : decode cL_law 424 = .ok (.iconst 0, 1) := by decide +kernel
theorem dL_law_425 : decode cL_law 425 = .ok (.ireturn, 1) := by decide +kernel
theorem dL_law_426 : decode cL_law 426 = .ok (.aload_n 1, 1) := by decide +kernel
theorem dL_law_427 : decode cL_law 427 = .ok (.invokevirtual 62, 3) := by decide +kernel
theorem dL_law_430 : decode cL_law 430 = .ok (.aload_n 2, 1) := by decide +kernel
theorem dL_law_431 : decode cL_law 431 = .ok (.invokevirtual 65, 3) := by decide +kernel
theorem dL_law_434 : decode cL_law 434 = .ok (.if_icmp .eq 5, 3) := by decide +kernel
theorem dL_law_437 : decode cL_law 437 = .ok (.iconst 0, 1) := by decide +kernel
theorem dL_law_438 : decode cL_law 438 = .ok (.ireturn, 1) := by decide +kernel
theorem dL_law_439 : decode cL_law 439 = .ok (.iinc 4 3, 3) := by decide +kernel
theorem dL_law_442 : decode cL_law 442 = .ok (.goto (-419), 3) := by decide +kernel
theorem dL_law_445 : decode cL_law 445 = .ok (.iconst 1, 1) := by decide +kernel
theorem dL_law_446 : decode cL_law 446 = .ok (.ireturn, 1) := by decide +kernel
abbrev vwCl : List vw_C := [(RX0, TX0, 1), (RX1, TX1, 3), (RX2, TX2, 5)]
end
section
/-! A throw that comes back into a method whose table has ONE row, and that row takes it (its class linked or not): the walk goes on at the handler. -/
section HXC
variable {p : Program} {l : Launch} {e : Env} {R : Room} {s : State} {m : MethodId} {args : Array Value} {below : List Frame} {meth : Method} {c : Code} {H : Heap} {locs : List Loc} {cells slots : Nat} {Q : State → Prop}
variable {pc : Nat} {ls : Array Slot} {rest : List Value}
theorem hx_find {U : State} {f : JFrame} {q : Addr} {x : ExceptionTableEntry} {k : ClassId} {ce : Cell} (hm : U.vm.method? f.method = some meth) (hc : meth.code = some c) (ht : c.exceptionTable.toList = [x]) (hx : covers x f.pc = true) (h0 : x.catchType ≠ 0)
    (hl : U.vm.ClassLinks e.platform f.method.cls x.catchType k) (hcell : U.heap[q]? = some ce) (hv : ce.vm = .none) (hk : ∃ z, U.vm.classes[ce.cls]? = some z) (hk2 : ∃ z, U.vm.classes[k]? = some z) (ha : U.vm.assignable ce.cls k = true)
    (P : Handler → Pre) (E : CtlPost) (d : Bool) (acts : List Action) : wp (findHandler f q) P E e d acts U ↔ P (.found x.handlerPc) d acts (U.setVm (U.vm.noted f.method.cls x.catchType (.cls k))) := by
  rw [W.findHandler_eq hm hc, ht]
  obtain ⟨r1, r2⟩ := (resolveClass_links e.toSetting hl).op (op := VmOp.resolveClass f.method.cls x.catchType) rfl
  have hal : U.vm.Alike (U.vm.noted f.method.cls x.catchType (.cls k)) := (Vm.Alike.refl U.vm).noted _ _ _
  obtain ⟨a1, b1⟩ := hk
  obtain ⟨a2, b2⟩ := hk2
  obtain ⟨a3, b3, -⟩ := hal.2.2 _ _ b1
  obtain ⟨a4, b4, -⟩ := hal.2.2 _ _ b2
  have h5 : (U.vm.noted f.method.cls x.catchType (.cls k)).assignable ce.cls k = true := by rw [hal.assignable]; exact ha
  have h6 : ∀ z, ce.vm ≠ .statics z := fun z h => by rw [hv] at h; cases h
  simp only [covers] at hx
  simp [findHandler.go, hx, h0, r1, r2, hcell, h6, b3, b4, h5, VmOp.dirties, VmOp.acts]
theorem hx_catch {own name E : String} {ce : Cell} {q : Addr} (hown : s.vm.findClass own = some m.cls) (x : ExceptionTableEntry) (ht : c.exceptionTable.toList = [x]) (hx : covers x pc = true) (h0 : x.catchType ≠ 0)
    (hlink : (Cond.classLink own x.catchType name).before args s = true) (hcast : (Cond.castable E name).before args s = true) (hcell : H[q]? = some ce) (hv : ce.vm = .none) (hcl : s.vm.findClass E = some ce.cls)
    (kk : W p l e R s m args below meth c H locs cells slots Q (F0 m x.handlerPc ls [.ref q])) : vx_W p l e R s m args below meth c H locs cells slots Q (F0 m pc ls rest) q := by
  intro T hT X
  have hpl : e.platform.magicAccessors = ({} : Platform).magicAccessors := by rw [X.admits.platform]
  obtain ⟨c3, c4, hc3, hc4, hasg⟩ := Cond.castable_spec hcast
  cases Option.some.inj (hc3.symm.trans hcl)
  obtain ⟨c5, hc5, hcl5⟩ := Cond.classLink_spec hown hlink e.platform hpl
  cases Option.some.inj (hc4.symm.trans hc5)
  obtain ⟨dk, _, _, kt, hd, _, _, _, _, hkt, _, hopen⟩ := hcl5.here
  have hW' : s.WarmedH (T.vm.noted m.cls x.catchType (.cls c4)) := X.warmed.noted hd hopen (State.rightAt_cls hcl5)
  have hal := X.warmed.alike
  obtain ⟨kt2, hkt2, -⟩ := hal.2.2 _ _ hkt
  have hfit : T.vm.assignable ce.cls c4 = true := by rw [hal.assignable]; exact hasg
  obtain ⟨t, a1, b1⟩ := kk (T.setVm (T.vm.noted m.cls x.catchType (.cls c4))) hT (X.noted hW')
  refine ⟨t, ?_, b1⟩
  have hat : At T (F0 m pc ls rest).method c below := X.here
  obtain ⟨hgo, hw⟩ := hat.throwing q
  refine Steps.head hgo hw ?_
  have hfind := hx_find (e := e) (U := (T.setTop (F0 m pc ls rest)).pushFrame (.throwing q)) (f := F0 m pc ls rest) (q := q) (meth := meth) (c := c) X.method' X.code ht hx h0 (X.warmed.classLinks hcl5)
    (by show T.heap[q]? = some ce; rw [hT]; exact hcell) hv (Vm.classAt_of_assignable hfit ⟨kt2, hkt2⟩) ⟨kt2, hkt2⟩ hfit
  have hstep : (stepThrowing e ((T.setTop (F0 m pc ls rest)).pushFrame (.throwing q)) q (.java (F0 m pc ls rest) :: T.frames.tail)).1 = (((T.setTop (F0 m pc ls rest)).pushFrame (.throwing q)).setVm (T.vm.noted m.cls x.catchType (.cls c4))).setFrames (.java { F0 m pc ls rest with pc := x.handlerPc, stack := [.ref q] } :: T.frames.tail) := by
    simp only [stepThrowing, searchFrame, vmDo]
    generalize hr : Sem.go _ e false [] ((T.setTop (F0 m pc ls rest)).pushFrame (.throwing q)) = res
    obtain ⟨as, rfl, ha⟩ := Sem.eq_ok_of hr (a := Handler.found x.handlerPc) (s' := ((T.setTop (F0 m pc ls rest)).pushFrame (.throwing q)).setVm (T.vm.noted m.cls x.catchType (.cls c4))) (acts' := []) (by simp [hfind]; rfl)
    rfl
  rw [stepThread_throwing (frames_entered hat.top _), hstep]
  obtain ⟨g₀, hg⟩ := Option.isSome_iff_exists.mp hat.top
  obtain ⟨r, hr⟩ := State.topJava?_eq_some.mp hg
  have hr2 : (T.setVm (T.vm.noted m.cls x.catchType (.cls c4))).frames = .java g₀ :: r := hr
  rw [State.setTop_of_frames _ hr2] at a1
  rw [hr, List.tail_cons, State.pushFrame, State.setTop_of_frames _ hr]
  have e1 : ∀ (u : State) (v : Vm) (F G : List Frame), ((u.setFrames F).setVm v).setFrames G = (u.setVm v).setFrames G := fun u v F G => by
    rw [show (u.setFrames F).setVm v = (u.setVm v).setFrames F from rfl, State.setFrames_setFrames]
  rw [e1, e1]
  exact a1
end HXC
end
section
/-! PURE: the state of a heap row (its bytes, its end, the stack's end), and what each call does to it. Both sides are tied to these. -/
abbrev ph_M : Type := Nat → BitVec 8
abbrev ph_H : Type := ph_M × Nat × Nat
def ph_b (m : ph_M) (a : Nat) : Nat := (m a).toNat
def ph_n (m : ph_M) (a : Nat) : Nat := ph_b m a + 256 * ph_b m (a + 1) + 65536 * ph_b m (a + 2) + 16777216 * ph_b m (a + 3)
def ph_sb (m : ph_M) (a v : Nat) : ph_M := fun j => if j = a then BitVec.ofNat 8 v else m j
def ph_sn (m : ph_M) (a v : Nat) : ph_M := ph_sb (ph_sb (ph_sb (ph_sb m a v) (a + 1) (v / 256)) (a + 2) (v / 65536)) (a + 3) (v / 16777216)
abbrev ph_in (a : Nat) : Prop := 1024 ≤ a ∧ a < 65536
abbrev ph_i4 (a : Nat) : Prop := 1024 ≤ a ∧ a + 3 < 65536
theorem ph_b_lt (m : ph_M) (a : Nat) : ph_b m a < 256 := (m a).isLt
theorem ph_n_lt (m : ph_M) (a : Nat) : ph_n m a < 4294967296 := by
  have h0 := ph_b_lt m a
  have h1 := ph_b_lt m (a + 1)
  have h2 := ph_b_lt m (a + 2)
  have h3 := ph_b_lt m (a + 3)
  unfold ph_n
  omega
theorem ph_b_eq (m : ph_M) (a v : Nat) : ph_b (ph_sb m a v) a = v % 256 := by
  simp [ph_b, ph_sb]
theorem ph_b_ne (m : ph_M) {a j : Nat} (v : Nat) (h : j ≠ a) : ph_b (ph_sb m a v) j = ph_b m j := by
  simp [ph_b, ph_sb, h]
theorem ph_sn_at0 (m : ph_M) (a v : Nat) : ph_b (ph_sn m a v) a = v % 256 := by
  unfold ph_sn
  rw [ph_b_ne _ _ (by omega), ph_b_ne _ _ (by omega), ph_b_ne _ _ (by omega), ph_b_eq]
theorem ph_sn_at1 (m : ph_M) (a v : Nat) : ph_b (ph_sn m a v) (a + 1) = v / 256 % 256 := by
  unfold ph_sn
  rw [ph_b_ne _ _ (by omega), ph_b_ne _ _ (by omega), ph_b_eq]
theorem ph_sn_at2 (m : ph_M) (a v : Nat) : ph_b (ph_sn m a v) (a + 2) = v / 65536 % 256 := by
  unfold ph_sn
  rw [ph_b_ne _ _ (by omega), ph_b_eq]
theorem ph_sn_at3 (m : ph_M) (a v : Nat) : ph_b (ph_sn m a v) (a + 3) = v / 16777216 % 256 := by
  unfold ph_sn
  rw [ph_b_eq]
theorem ph_sn_off (m : ph_M) {a j : Nat} (v : Nat) (h : j < a ∨ a + 3 < j) : ph_b (ph_sn m a v) j = ph_b m j := by
  unfold ph_sn
  rw [ph_b_ne _ _ (by omega), ph_b_ne _ _ (by omega), ph_b_ne _ _ (by omega), ph_b_ne _ _ (by omega)]
theorem ph_n_sn (m : ph_M) (a v : Nat) : ph_n (ph_sn m a v) a = v % 4294967296 := by
  unfold ph_n
  rw [ph_sn_at0, ph_sn_at1, ph_sn_at2, ph_sn_at3]
  omega
theorem ph_n_off (m : ph_M) {a b : Nat} (v : Nat) (h : b + 3 < a ∨ a + 3 < b) : ph_n (ph_sn m a v) b = ph_n m b := by
  unfold ph_n
  rw [ph_sn_off m v (j := b) (by omega), ph_sn_off m v (j := b + 1) (by omega), ph_sn_off m v (j := b + 2) (by omega), ph_sn_off m v (j := b + 3) (by omega)]
theorem ph_n_ext {m m' : ph_M} {b : Nat} (h : ∀ j, b ≤ j → j ≤ b + 3 → ph_b m' j = ph_b m j) : ph_n m' b = ph_n m b := by
  unfold ph_n
  rw [h b (by omega) (by omega), h (b + 1) (by omega) (by omega), h (b + 2) (by omega) (by omega), h (b + 3) (by omega) (by omega)]
theorem ph_ext {m m' : ph_M} (h : ∀ j, ph_b m' j = ph_b m j) : m' = m := funext fun j => BitVec.eq_of_toNat_eq (h j)
theorem ph_sn_self (m : ph_M) (a : Nat) : ph_sn m a (ph_n m a) = m := by
  have h0 := ph_b_lt m a
  have h1 := ph_b_lt m (a + 1)
  have h2 := ph_b_lt m (a + 2)
  have h3 := ph_b_lt m (a + 3)
  refine ph_ext fun j => ?_
  by_cases e0 : j = a
  · subst e0; rw [ph_sn_at0]; unfold ph_n; omega
  by_cases e1 : j = a + 1
  · subst e1; rw [ph_sn_at1]; unfold ph_n; omega
  by_cases e2 : j = a + 2
  · subst e2; rw [ph_sn_at2]; unfold ph_n; omega
  by_cases e3 : j = a + 3
  · subst e3; rw [ph_sn_at3]; unfold ph_n; omega
  exact ph_sn_off m _ (by omega)
theorem ph_sn_mod (m : ph_M) (a v : Nat) : ph_sn m a (v % 4294967296) = ph_sn m a v := by
  refine ph_ext fun j => ?_
  by_cases e0 : j = a
  · subst e0; rw [ph_sn_at0, ph_sn_at0]; omega
  by_cases e1 : j = a + 1
  · subst e1; rw [ph_sn_at1, ph_sn_at1]; omega
  by_cases e2 : j = a + 2
  · subst e2; rw [ph_sn_at2, ph_sn_at2]; omega
  by_cases e3 : j = a + 3
  · subst e3; rw [ph_sn_at3, ph_sn_at3]; omega
  rw [ph_sn_off m _ (by omega), ph_sn_off m _ (by omega)]
/-- the first free block as large, from b on -/
def ph_ff (m : ph_M) (e n : Nat) : Nat → Nat → Option Nat
  | 0, _ => none
  | f + 1, b => if b < e then (if ph_n m (b + 4) ≠ 1 ∧ n ≤ ph_n m b then some b else ph_ff m e n f (b + 8 + ph_n m b)) else none
/-- the taken block whose bytes begin at a, and the one before it (0: none) -/
def ph_fd (m : ph_M) (e a : Nat) : Nat → Nat → Nat → Option (Nat × Nat)
  | 0, _, _ => none
  | f + 1, p, b => if b < e then (if b + 8 = a ∧ ph_n m (b + 4) = 1 then some (b, p) else ph_fd m e a f b (b + 8 + ph_n m b)) else none
/-- the block before 'lim' -/
def ph_bb (m : ph_M) (lim : Nat) : Nat → Nat → Nat → Nat
  | 0, p, _ => p
  | f + 1, p, b => if b < lim then ph_bb m lim f b (b + 8 + ph_n m b) else p
theorem ph_ff_some {m : ph_M} {e n x : Nat} : ∀ (f b : Nat), ph_ff m e n f b = some x → b ≤ x ∧ x < e ∧ ph_n m (x + 4) ≠ 1 ∧ n ≤ ph_n m x := by
  intro f
  induction f with
  | zero => intro b h; simp [ph_ff] at h
  | succ f ih =>
    intro b h
    unfold ph_ff at h
    by_cases h1 : b < e
    · rw [if_pos h1] at h
      by_cases h2 : ph_n m (b + 4) ≠ 1 ∧ n ≤ ph_n m b
      · rw [if_pos h2] at h
        cases h
        exact ⟨Nat.le_refl _, h1, h2.1, h2.2⟩
      · rw [if_neg h2] at h
        obtain ⟨q1, q2, q3, q4⟩ := ih _ h
        exact ⟨by omega, q2, q3, q4⟩
    · rw [if_neg h1] at h
      cases h
theorem ph_fd_some {m : ph_M} {e a x q : Nat} : ∀ (f p b : Nat), ph_fd m e a f p b = some (x, q) → b ≤ x ∧ x < e ∧ x + 8 = a ∧ ph_n m (x + 4) = 1 ∧ ((q = p ∧ x = b) ∨ (b ≤ q ∧ q < x ∧ q + 8 + ph_n m q = x)) := by
  intro f
  induction f with
  | zero => intro p b h; simp [ph_fd] at h
  | succ f ih =>
    intro p b h
    unfold ph_fd at h
    by_cases h1 : b < e
    · rw [if_pos h1] at h
      by_cases h2 : b + 8 = a ∧ ph_n m (b + 4) = 1
      · rw [if_pos h2] at h
        cases h
        exact ⟨Nat.le_refl _, h1, h2.1, h2.2, Or.inl ⟨rfl, rfl⟩⟩
      · rw [if_neg h2] at h
        obtain ⟨q1, q2, q3, q4, q5⟩ := ih _ _ h
        refine ⟨by omega, q2, q3, q4, Or.inr ?_⟩
        rcases q5 with ⟨q5, q6⟩ | ⟨q5, q6, q7⟩
        · subst q5; exact ⟨Nat.le_refl _, by omega, q6.symm⟩
        · exact ⟨by omega, q6, q7⟩
    · rw [if_neg h1] at h
      cases h
theorem ph_bb_fd {m m' : ph_M} {e a x q : Nat} (hm : ∀ j, j < x → ph_b m' j = ph_b m j) : ∀ (f p b : Nat), ph_fd m e a f p b = some (x, q) → ph_bb m' x f p b = q := by
  intro f
  induction f with
  | zero => intro p b h; simp [ph_fd] at h
  | succ f ih =>
    intro p b h
    have hs := ph_fd_some _ _ _ h
    unfold ph_fd at h
    unfold ph_bb
    by_cases h1 : b < e
    · rw [if_pos h1] at h
      by_cases h2 : b + 8 = a ∧ ph_n m (b + 4) = 1
      · rw [if_pos h2] at h
        cases h
        rw [if_neg (Nat.lt_irrefl _)]
      · rw [if_neg h2] at h
        have hs2 := ph_fd_some _ _ _ h
        have hlt : b + 8 ≤ x := by omega
        rw [if_pos (by omega), ph_n_ext (m := m) (m' := m') (b := b) (fun j _ h4 => hm j (by omega))]
        exact ih _ _ h
    · rw [if_neg h1] at h
      cases h
/-- to round up -/
def ph_up (n : Nat) : Nat := if n = 0 then 8 else (n + 7) / 8 * 8
/-- a header written: the size, then the second number; false: thrown -/
def ph_wh (m : ph_M) (a v k : Nat) : Bool × ph_M :=
  if ph_i4 a then (if ph_i4 (a + 4) then (true, ph_sn (ph_sn m a v) (a + 4) k) else (false, ph_sn m a v)) else (false, m)
/-- to take n bytes: none: thrown -/
def ph_take (u : ph_H) (n : Nat) : Option Nat × ph_H :=
  match ph_ff u.1 u.2.1 (ph_up n) 8064 1024 with
  | some b =>
    if ph_n u.1 b < ph_up n + 16 then (some (b + 8), (ph_sn u.1 (b + 4) 1, u.2.1, u.2.2))
    else if (ph_wh u.1 (b + 8 + ph_up n) (ph_n u.1 b - ph_up n - 8) 0).1 = true then
      (some (b + 8), (ph_sn (ph_sn (ph_wh u.1 (b + 8 + ph_up n) (ph_n u.1 b - ph_up n - 8) 0).2 b (ph_up n)) (b + 4) 1, u.2.1, u.2.2))
    else (none, ((ph_wh u.1 (b + 8 + ph_up n) (ph_n u.1 b - ph_up n - 8) 0).2, u.2.1, u.2.2))
  | none => if 480000 < n ∨ u.2.2 < u.2.1 + 8 + ph_up n + 4096 then (some 0, u)
    else (some (u.2.1 + 8), (ph_sn (ph_sn u.1 u.2.1 (ph_up n)) (u.2.1 + 4) 1, u.2.1 + 8 + ph_up n, u.2.2))
/-- n bytes from a on made 0 -/
def ph_clr : Nat → ph_M → Nat → Bool × ph_M
  | 0, m, _ => (true, m)
  | f + 1, m, a => if ph_in a then ph_clr f (ph_sb m a 0) (a + 1) else (false, m)
/-- n bytes copied, upwards -/
def ph_cpy : Nat → ph_M → Nat → Nat → Bool × ph_M
  | 0, m, _, _ => (true, m)
  | f + 1, m, a, b => if ph_in a then (if ph_in b then ph_cpy f (ph_sb m b (ph_b m a)) (a + 1) (b + 1) else (false, m)) else (false, m)
/-- the block at b joined with the next one, if that is free -/
def ph_jn (m : ph_M) (e b : Nat) : ph_M :=
  if b + 8 + ph_n m b < e ∧ ph_n m (b + 8 + ph_n m b + 4) ≠ 1 then ph_sn (ph_sn m b (ph_n m b + 8 + ph_n m (b + 8 + ph_n m b))) (b + 4) 0 else m
/-- the block at b given back; p: the one before it -/
def ph_g1 (m : ph_M) (e b : Nat) : ph_M := ph_jn (ph_sn m (b + 4) 0) e b
def ph_gj (m : ph_M) (e b p : Nat) : Nat := if p ≠ 0 ∧ ph_n (ph_g1 m e b) (p + 4) ≠ 1 then p else b
def ph_g2 (m : ph_M) (e b p : Nat) : ph_M := if p ≠ 0 ∧ ph_n (ph_g1 m e b) (p + 4) ≠ 1 then ph_jn (ph_g1 m e b) e p else ph_g1 m e b
def ph_ge (m : ph_M) (e b p : Nat) : Nat := if ph_gj m e b p + 8 + ph_n (ph_g2 m e b p) (ph_gj m e b p) = e then ph_gj m e b p else e
def ph_gb (u : ph_H) (b p : Nat) : ph_H := (ph_g2 u.1 u.2.1 b p, ph_ge u.1 u.2.1 b p, u.2.2)
/-- free(a), a not 0 -/
def ph_give (u : ph_H) (a : Nat) : Bool × ph_H :=
  match ph_fd u.1 u.2.1 a 8064 0 1024 with
  | some (b, p) => (true, ph_gb u b p)
  | none => (false, u)
def ph_clrd (u : ph_H) (n : Nat) : Option Nat × ph_H :=
  if 480000 < n then (some 0, u)
  else match ph_take u n with
    | (none, u') => (none, u')
    | (some a, u') => if a = 0 then (some 0, u') else if (ph_clr n u'.1 a).1 = true then (some a, ((ph_clr n u'.1 a).2, u'.2.1, u'.2.2)) else (none, ((ph_clr n u'.1 a).2, u'.2.1, u'.2.2))
def ph_rsz (u : ph_H) (a n : Nat) : Option Nat × ph_H :=
  if a = 0 then ph_take u n
  else if n = 0 then (if (ph_give u a).1 = true then (some 0, (ph_give u a).2) else (none, (ph_give u a).2))
  else match ph_fd u.1 u.2.1 a 8064 0 1024 with
    | none => (none, u)
    | some (b, _) => if ph_up n ≤ ph_n u.1 b then (some a, u)
      else match ph_take u n with
        | (none, u') => (none, u')
        | (some t, u') => if t = 0 then (some 0, u')
          else if (ph_cpy (ph_n u.1 b) u'.1 a t).1 = true then
            (if (ph_give ((ph_cpy (ph_n u.1 b) u'.1 a t).2, u'.2.1, u'.2.2) a).1 = true then (some t, (ph_give ((ph_cpy (ph_n u.1 b) u'.1 a t).2, u'.2.1, u'.2.2) a).2)
             else (none, (ph_give ((ph_cpy (ph_n u.1 b) u'.1 a t).2, u'.2.1, u'.2.2) a).2))
          else (none, ((ph_cpy (ph_n u.1 b) u'.1 a t).2, u'.2.1, u'.2.2))
/-- what holds of the state at all times -/
abbrev ph_I (u : ph_H) : Prop := 1024 ≤ u.2.1 ∧ u.2.1 ≤ 61440 ∧ 1024 ≤ u.2.2 ∧ u.2.2 ≤ 65536
theorem ph_up_ge (n : Nat) : 8 ≤ ph_up n := by unfold ph_up; split <;> omega
theorem ph_up_lt {n : Nat} (h : n < 4294967296) : ph_up n ≤ 4294967296 := by unfold ph_up; split <;> omega
theorem ph_take_I {u : ph_H} (h : ph_I u) (n : Nat) : ph_I (ph_take u n).2 := by
  have hu := ph_up_ge n
  unfold ph_take
  split
  · split
    · exact h
    · split
      · exact h
      · exact h
  · split
    · exact h
    · rename_i h2
      refine ⟨?_, ?_, h.2.2.1, h.2.2.2⟩ <;> (have := h.1; have := h.2.2.2; show _ ≤ _; simp only; omega)
/-- what is told is 0, or the address of bytes that have a header below the end -/
theorem ph_take_at {u u' : ph_H} {n x : Nat} (h : ph_I u) (ht : ph_take u n = (some x, u')) : x = 0 ∨ (1032 ≤ x ∧ x ≤ 61448) := by
  unfold ph_take at ht
  split at ht
  · rename_i b hb
    obtain ⟨q1, q2, -, -⟩ := ph_ff_some _ _ hb
    have he := h.2.1
    split at ht
    · cases ht; exact Or.inr ⟨by omega, by omega⟩
    · split at ht
      · cases ht; exact Or.inr ⟨by omega, by omega⟩
      · cases ht
  · split at ht
    · cases ht; exact Or.inl rfl
    · cases ht; exact Or.inr ⟨by have := h.1; omega, by have := h.2.1; omega⟩
theorem ph_gb_I {u : ph_H} {b p : Nat} (h : ph_I u) (hb : 1024 ≤ b) (hp : p = 0 ∨ 1024 ≤ p) (hbe : b < u.2.1) (hpe : p < b) : ph_I (ph_gb u b p) := by
  have hj : 1024 ≤ ph_gj u.1 u.2.1 b p ∧ ph_gj u.1 u.2.1 b p < u.2.1 := by
    unfold ph_gj
    split
    · rename_i h2; omega
    · omega
  have he : 1024 ≤ ph_ge u.1 u.2.1 b p ∧ ph_ge u.1 u.2.1 b p ≤ 61440 := by
    have h1 := h.1
    have h2 := h.2.1
    unfold ph_ge
    split <;> omega
  exact ⟨he.1, he.2, h.2.2.1, h.2.2.2⟩
theorem ph_fd_at {m : ph_M} {e a b p : Nat} (h : ph_fd m e a 8064 0 1024 = some (b, p)) : 1024 ≤ b ∧ b < e ∧ b + 8 = a ∧ ph_n m (b + 4) = 1 ∧ p < b ∧ (p = 0 ∨ (1024 ≤ p ∧ p + 8 + ph_n m p = b)) := by
  obtain ⟨h1, h2, h3, h4, h5⟩ := ph_fd_some _ _ _ h
  rcases h5 with ⟨h5, h6⟩ | ⟨h5, h6, h7⟩
  · exact ⟨h1, h2, h3, h4, by omega, Or.inl h5⟩
  · exact ⟨h1, h2, h3, h4, h6, Or.inr ⟨h5, h7⟩⟩
theorem ph_give_I {u : ph_H} (h : ph_I u) (a : Nat) : ph_I (ph_give u a).2 := by
  unfold ph_give
  split
  · rename_i b p hb
    obtain ⟨h1, h2, -, -, h5, h6⟩ := ph_fd_at hb
    exact ph_gb_I h h1 (by omega) h2 h5
  · exact h
theorem ph_clrd_I {u : ph_H} (h : ph_I u) (n : Nat) : ph_I (ph_clrd u n).2 := by
  have ht := ph_take_I h n
  unfold ph_clrd
  split
  · exact h
  · split
    · rename_i q; rw [q] at ht; exact ht
    · rename_i q; rw [q] at ht
      split
      · exact ht
      · split
        · exact ht
        · exact ht
theorem ph_rsz_I {u : ph_H} (h : ph_I u) (a n : Nat) : ph_I (ph_rsz u a n).2 := by
  have ht := ph_take_I h n
  unfold ph_rsz
  split
  · exact ht
  · split
    · split
      · exact ph_give_I h a
      · exact ph_give_I h a
    · split
      · exact h
      · split
        · exact h
        · split
          · rename_i q; rw [q] at ht; exact ht
          · rename_i q; rw [q] at ht
            split
            · exact ht
            · split
              · split
                · refine ph_give_I ?_ a; exact ht
                · refine ph_give_I ?_ a; exact ht
              · exact ht
end
section
/-! ===== lN n to 2^64: shifts, and, or, masks, one bit ===== -/
theorem wb_tb (n : Nat) : (lN n).toBitVec = BitVec.ofNat 64 n := rfl
theorem wb_inj {a b : Int64} (h : a.toBitVec = b.toBitVec) : a = b := Int64.toBitVec_inj.mp h
theorem wb_tn {n : Nat} (h : n < 2 ^ 64) : (lN n).toBitVec.toNat = n := by rw [wb_tb, BitVec.toNat_ofNat, Nat.mod_eq_of_lt h]
theorem wb_of (x : Int64) : ∃ n, n < 2 ^ 64 ∧ x = lN n := ⟨x.toBitVec.toNat, x.toBitVec.isLt, wb_inj (by rw [wb_tb]; simp)⟩
theorem wb_of32 (x : Int32) : ∃ n, n < 2 ^ 32 ∧ x = nI n := ⟨x.toBitVec.toNat, x.toBitVec.isLt, Int32.toBitVec_inj.mp (by show _ = BitVec.ofNat 32 _; simp)⟩
theorem wb_c : ∀ k, k < 64 → ((nI k).toInt64 &&& 63) = lN k := by decide +kernel
theorem wb_cu : ∀ k, k < 64 → ((nI k).toInt64.toUInt64 &&& Int64.toUInt64 63) = UInt64.ofNat k := by decide +kernel
theorem wb_sm : ∀ k, k < 64 → (BitVec.ofNat 64 k).smod 64 = BitVec.ofNat 64 k := by decide +kernel
theorem wb_pw {a b : Nat} (h : a ≤ b) : 2 ^ b = 2 ^ a * 2 ^ (b - a) := by rw [← Nat.pow_add]; congr 1; omega
theorem wb_lt2 {a b : Nat} (h : a < b) : 2 ^ a < 2 ^ b := Nat.pow_lt_pow_right (by decide) h
theorem wb_mod (n : Nat) : lN n = lN (n % 2 ^ 64) := wb_inj (by rw [wb_tb, wb_tb]; apply BitVec.eq_of_toNat_eq; rw [BitVec.toNat_ofNat, BitVec.toNat_ofNat, Nat.mod_mod])
theorem wb_shr {n k : Nat} (hn : n < 2 ^ 64) (hk : k < 64) : ((lN n).toUInt64 >>> ((nI k).toInt64.toUInt64 &&& Int64.toUInt64 63)).toInt64 = lN (n / 2 ^ k) := by
  rw [wb_cu k hk]
  apply wb_inj
  apply BitVec.eq_of_toNat_eq
  show ((lN n).toUInt64 >>> UInt64.ofNat k).toNat = (BitVec.ofNat 64 _).toNat
  have h1 : (UInt64.ofNat k).toNat = k := by
    show (BitVec.ofNat 64 k).toNat = k
    rw [BitVec.toNat_ofNat, Nat.mod_eq_of_lt (by omega)]
  have h2 : (lN n).toUInt64.toNat = n := wb_tn hn
  rw [UInt64.toNat_shiftRight, h1, h2, Nat.mod_eq_of_lt hk, Nat.shiftRight_eq_div_pow, BitVec.toNat_ofNat, Nat.mod_eq_of_lt (Nat.lt_of_le_of_lt (Nat.div_le_self _ _) hn)]
theorem wb_shl (n : Nat) {k : Nat} (hk : k < 64) : lN n <<< ((nI k).toInt64 &&& 63) = lN (n * 2 ^ k) := by
  rw [wb_c k hk]
  apply wb_inj
  rw [Int64.toBitVec_shiftLeft, wb_tb, wb_tb, wb_tb, wb_sm k hk]
  apply BitVec.eq_of_toNat_eq
  rw [BitVec.shiftLeft_eq', BitVec.toNat_shiftLeft, BitVec.toNat_ofNat, BitVec.toNat_ofNat, BitVec.toNat_ofNat, Nat.mod_eq_of_lt (show k < 2 ^ 64 by omega), Nat.shiftLeft_eq, Nat.mul_mod, Nat.mod_mod, ← Nat.mul_mod]
theorem wb_and {a b : Nat} (ha : a < 2 ^ 64) (hb : b < 2 ^ 64) : lN a &&& lN b = lN (a &&& b) := by
  apply wb_inj
  rw [Int64.toBitVec_and, wb_tb, wb_tb, wb_tb]
  apply BitVec.eq_of_toNat_eq
  rw [BitVec.toNat_and, BitVec.toNat_ofNat, BitVec.toNat_ofNat, BitVec.toNat_ofNat, Nat.mod_eq_of_lt ha, Nat.mod_eq_of_lt hb, Nat.mod_eq_of_lt (Nat.and_lt_two_pow _ hb)]
theorem wb_or {a b : Nat} (ha : a < 2 ^ 64) (hb : b < 2 ^ 64) : lN a ||| lN b = lN (a ||| b) := by
  apply wb_inj
  rw [Int64.toBitVec_or, wb_tb, wb_tb, wb_tb]
  apply BitVec.eq_of_toNat_eq
  rw [BitVec.toNat_or, BitVec.toNat_ofNat, BitVec.toNat_ofNat, BitVec.toNat_ofNat, Nat.mod_eq_of_lt ha, Nat.mod_eq_of_lt hb, Nat.mod_eq_of_lt (Nat.or_lt_two_pow ha hb)]
theorem wb_mask {n k : Nat} (hn : n < 2 ^ 64) (hk : k < 64) : lN n &&& lN (2 ^ k - 1) = lN (n % 2 ^ k) := by
  rw [wb_and hn (by have := wb_lt2 hk; omega), Nat.and_two_pow_sub_one_eq_mod]
theorem wb_a1 {n : Nat} (hn : n < 2 ^ 64) : lN n &&& 1 = lN (n % 2) := wb_mask (k := 1) hn (by decide)
theorem wb_bit {n k : Nat} (hn : n < 2 ^ 64) (hk : k < 64) : ((lN n).toUInt64 >>> ((nI k).toInt64.toUInt64 &&& Int64.toUInt64 63)).toInt64 &&& 1 = lN (n / 2 ^ k % 2) := by
  rw [wb_shr hn hk, wb_a1 (Nat.lt_of_le_of_lt (Nat.div_le_self _ _) hn)]
theorem wb_xor {q k : Nat} (hk : k < 63) (h : 2 ^ k ≤ q) (h2 : q < 2 ^ (k + 1)) : lN q ^^^ lN (2 ^ k) = lN (q - 2 ^ k) := by
  obtain ⟨r, rfl⟩ : ∃ r, q = 2 ^ k + r := ⟨q - 2 ^ k, by omega⟩
  have hr : r < 2 ^ k := by rw [Nat.pow_succ] at h2; omega
  have hx : (2 ^ k + r) ^^^ 2 ^ k = r := by
    apply Nat.eq_of_testBit_eq
    intro i
    rw [Nat.testBit_xor, Nat.testBit_two_pow]
    rcases Nat.lt_trichotomy i k with h | h | h
    · rw [Nat.testBit_two_pow_add_gt h]
      simp [show ¬ k = i by omega]
    · subst h
      rw [Nat.testBit_two_pow_add_eq]
      simp
    · have a1 : 2 ^ (k + 1) ≤ 2 ^ i := Nat.pow_le_pow_right (by decide) h
      rw [Nat.testBit_lt_two_pow (show 2 ^ k + r < 2 ^ i by omega), Nat.testBit_lt_two_pow (show r < 2 ^ i by omega)]
      simp [show ¬ k = i by omega]
  have b1 := wb_lt2 (show k + 1 < 64 by omega)
  have b2 := wb_lt2 (show k < 64 by omega)
  apply wb_inj
  rw [Int64.toBitVec_xor, wb_tb, wb_tb, wb_tb]
  apply BitVec.eq_of_toNat_eq
  rw [BitVec.toNat_xor, BitVec.toNat_ofNat, BitVec.toNat_ofNat, BitVec.toNat_ofNat, Nat.mod_eq_of_lt (by omega : 2 ^ k + r < 2 ^ 64), Nat.mod_eq_of_lt b2, hx, Nat.add_sub_cancel_left, Nat.mod_eq_of_lt (by omega)]
/-! ===== eight bytes in a word ===== -/
def pw_r : Nat → (Nat → BitVec 8) → Nat
  | 0, _ => 0
  | k + 1, g => (g 0).toNat + 256 * pw_r k (fun i => g (i + 1))
theorem pw_lt : ∀ (k : Nat) (g : Nat → BitVec 8), pw_r k g < 256 ^ k := by
  intro k
  induction k with
  | zero => intro g; simp [pw_r]
  | succ k ih =>
    intro g
    have h1 : (g 0).toNat < 256 := (g 0).isLt
    have h2 := ih (fun i => g (i + 1))
    rw [Nat.pow_succ]
    unfold pw_r
    omega
theorem pw_congr : ∀ (k : Nat) (g g' : Nat → BitVec 8), (∀ j, j < k → g j = g' j) → pw_r k g = pw_r k g' := by
  intro k
  induction k with
  | zero => intro g g' _; rfl
  | succ k ih =>
    intro g g' h
    unfold pw_r
    rw [h 0 (by omega), ih (fun i => g (i + 1)) (fun i => g' (i + 1)) (fun j hj => h (j + 1) (by omega))]
theorem pw_lt8 (g : Nat → BitVec 8) : pw_r 8 g < 2 ^ 64 := pw_lt 8 g
theorem pw_get : ∀ (j k : Nat) (g : Nat → BitVec 8), j < k → pw_r k g / 2 ^ (8 * j) % 256 = (g j).toNat := by
  intro j
  induction j with
  | zero =>
    intro k g h
    obtain ⟨k, rfl⟩ : ∃ n, k = n + 1 := ⟨k - 1, by omega⟩
    have h1 : (g 0).toNat < 256 := (g 0).isLt
    simp only [pw_r, Nat.mul_zero, Nat.pow_zero, Nat.div_one]
    omega
  | succ j ih =>
    intro k g h
    obtain ⟨k, rfl⟩ : ∃ n, k = n + 1 := ⟨k - 1, by omega⟩
    have h1 : (g 0).toNat < 256 := (g 0).isLt
    have e : 2 ^ (8 * (j + 1)) = 256 * 2 ^ (8 * j) := by
      rw [Nat.mul_add, Nat.pow_add, Nat.mul_comm]
    rw [e, ← Nat.div_div_eq_div_mul]
    have e2 : pw_r (k + 1) g / 256 = pw_r k (fun i => g (i + 1)) := by
      show ((g 0).toNat + 256 * pw_r k (fun i => g (i + 1))) / 256 = pw_r k (fun i => g (i + 1))
      omega
    rw [e2]
    exact ih k _ (by omega)
theorem pw_bit : ∀ (k : Nat) (g : Nat → BitVec 8) (i : Nat), (pw_r k g).testBit i = (decide (i < 8 * k) && (g (i / 8)).toNat.testBit (i % 8)) := by
  intro k
  induction k with
  | zero => intro g i; simp [pw_r]
  | succ k ih =>
    intro g i
    have h1 : (g 0).toNat < 2 ^ 8 := (g 0).isLt
    have e : pw_r (k + 1) g = 2 ^ 8 * pw_r k (fun i => g (i + 1)) + (g 0).toNat := by
      show (g 0).toNat + 256 * _ = _
      omega
    rw [e, Nat.testBit_two_pow_mul_add _ h1]
    by_cases h : i < 8
    · rw [if_pos h]
      have e1 : i / 8 = 0 := by omega
      have e2 : i % 8 = i := by omega
      have e3 : i < 8 * (k + 1) := by omega
      simp [e1, e2, e3]
    · rw [if_neg h, ih]
      have e1 : (i - 8) / 8 + 1 = i / 8 := by omega
      have e2 : (i - 8) % 8 = i % 8 := by omega
      have e3 : (i - 8 < 8 * k) = (i < 8 * (k + 1)) := by
        apply propext; omega
      rw [e1, e2, decide_eq_decide.mpr (by rw [e3])]
theorem pw_set (g : Nat → BitVec 8) (j v : Nat) (hj : j < 8) : (pw_r 8 g &&& ((255 * 2 ^ (8 * j)) ^^^ (2 ^ 64 - 1))) ||| ((v % 256) * 2 ^ (8 * j)) = pw_r 8 (fun i => if i = j then BitVec.ofNat 8 v else g i) := by
  apply Nat.eq_of_testBit_eq
  intro i
  have hv : v % 256 < 2 ^ 8 := Nat.mod_lt _ (by decide)
  rw [Nat.testBit_or, Nat.testBit_and, Nat.testBit_xor, pw_bit, pw_bit, Nat.testBit_two_pow_sub_one, Nat.mul_comm 255, Nat.mul_comm (v % 256), Nat.testBit_two_pow_mul, Nat.testBit_two_pow_mul, show (255 : Nat) = 2 ^ 8 - 1 from rfl, Nat.testBit_two_pow_sub_one]
  by_cases h64 : i < 64
  · by_cases hq : i / 8 = j
    · have h1 : 8 * j ≤ i := by omega
      have h2 : i - 8 * j < 8 := by omega
      have h3 : i - 8 * j = i % 8 := by omega
      have h4 : i % 8 < 8 := by omega
      have h5 : (v % 256).testBit (i % 8) = v.testBit (i % 8) := by
        rw [show (256 : Nat) = 2 ^ 8 from rfl, Nat.testBit_mod_two_pow]
        simp [h4]
      simp [h1, h64, hq, h3, h4, h5, BitVec.toNat_ofNat]
    · have h1 : ¬ (8 * j ≤ i ∧ i - 8 * j < 8) := by omega
      by_cases h2 : 8 * j ≤ i
      · have h3 : ¬ i - 8 * j < 8 := by omega
        have h4 : (v % 256).testBit (i - 8 * j) = false := Nat.testBit_lt_two_pow (Nat.lt_of_lt_of_le hv (Nat.pow_le_pow_right (by decide) (by omega)))
        simp [h2, h3, h64, hq, h4]
      · simp [h2, h64, hq]
  · have h2 : 8 * j ≤ i := by omega
    have h4 : (v % 256).testBit (i - 8 * j) = false := Nat.testBit_lt_two_pow (Nat.lt_of_lt_of_le hv (Nat.pow_le_pow_right (by decide) (by omega)))
    simp [h64, h4]
/-- the words that hold the bytes m from 1024 on -/
def pw_w (m : ph_M) (i : Nat) : Int64 := lN (pw_r 8 (fun j => m (1024 + 8 * i + j)))
theorem pw_lxor (a b : Nat) : lN a ^^^ lN b = lN (a ^^^ b) := by
  apply wb_inj
  rw [Int64.toBitVec_xor, wb_tb, wb_tb, wb_tb]
  apply BitVec.eq_of_toNat_eq
  rw [BitVec.toNat_xor, BitVec.toNat_ofNat, BitVec.toNat_ofNat, BitVec.toNat_ofNat]
  apply Nat.eq_of_testBit_eq
  intro i
  simp only [Nat.testBit_xor, Nat.testBit_mod_two_pow]
  by_cases h : i < 64 <;> simp [h]
theorem pw_nb (n : Nat) : (nI n).toBitVec.toNat = n % 2 ^ 32 := by
  show (BitVec.ofNat 32 n).toNat = _
  rw [BitVec.toNat_ofNat]
/-- a byte read out of its word -/
theorem pw_read (m : ph_M) (a : Nat) (ha : 1024 ≤ a) : (((pw_w m ((a - 1024) / 8)).toUInt64 >>> ((nI ((a - 1024) % 8 * 8)).toInt64.toUInt64 &&& Int64.toUInt64 63)).toInt64).toInt32 &&& 255 = nI (ph_b m a) := by
  have hj : (a - 1024) % 8 < 8 := Nat.mod_lt _ (by decide)
  unfold pw_w
  rw [wb_shr (pw_lt8 _) (by omega), lN_i, pk_and _ 8 (by decide +kernel), pw_nb]
  have h := pw_get ((a - 1024) % 8) 8 (fun j => m (1024 + 8 * ((a - 1024) / 8) + j)) hj
  have e : 1024 + 8 * ((a - 1024) / 8) + (a - 1024) % 8 = a := by omega
  simp only [e] at h
  rw [Nat.mul_comm ((a - 1024) % 8) 8]
  have h2 : ∀ n : Nat, n % 2 ^ 32 % 2 ^ 8 = n % 256 := fun n => by omega
  rw [h2, h]
  rfl
/-- .. and written into it -/
theorem pw_write (m : ph_M) (a : Nat) (v : Int64) (ha : 1024 ≤ a) :
    vp_updL (pw_w m) ((a - 1024) / 8) ((pw_w m ((a - 1024) / 8) &&& ((255 : Int64) <<< ((nI ((a - 1024) % 8 * 8)).toInt64 &&& 63) ^^^ (-1))) ||| ((v &&& 255) <<< ((nI ((a - 1024) % 8 * 8)).toInt64 &&& 63))) = pw_w (ph_sb m a v.toBitVec.toNat) := by
  have hj : (a - 1024) % 8 < 8 := Nat.mod_lt _ (by decide)
  obtain ⟨n, hn, rfl⟩ := wb_of v
  rw [wb_tn hn]
  funext i
  unfold vp_updL
  by_cases hi : i = (a - 1024) / 8
  · subst hi
    rw [if_pos rfl]
    unfold pw_w
    rw [show (255 : Int64) = lN (2 ^ 8 - 1) from by decide +kernel, wb_mask hn (by decide), wb_shl _ (by omega), wb_shl _ (by omega), show (-1 : Int64) = lN (2 ^ 64 - 1) from by decide +kernel, pw_lxor]
    have hp : 2 ^ 8 * 2 ^ ((a - 1024) % 8 * 8) ≤ 2 ^ 64 := by
      rw [← Nat.pow_add]; exact Nat.pow_le_pow_right (by decide) (by omega)
    have hb1 : (2 ^ 8 - 1) * 2 ^ ((a - 1024) % 8 * 8) < 2 ^ 64 := by
      have : (2 ^ 8 - 1) * 2 ^ ((a - 1024) % 8 * 8) < 2 ^ 8 * 2 ^ ((a - 1024) % 8 * 8) := Nat.mul_lt_mul_of_pos_right (by decide) (Nat.pow_pos (by decide))
      omega
    have hb2 : n % 2 ^ 8 * 2 ^ ((a - 1024) % 8 * 8) < 2 ^ 64 := by
      have : n % 2 ^ 8 * 2 ^ ((a - 1024) % 8 * 8) < 2 ^ 8 * 2 ^ ((a - 1024) % 8 * 8) := Nat.mul_lt_mul_of_pos_right (Nat.mod_lt _ (by decide)) (Nat.pow_pos (by decide))
      omega
    have hx : (2 ^ 8 - 1) * 2 ^ ((a - 1024) % 8 * 8) ^^^ (2 ^ 64 - 1) < 2 ^ 64 := Nat.xor_lt_two_pow hb1 (by decide)
    rw [wb_and (pw_lt8 _) hx, wb_or (Nat.and_lt_two_pow _ hx) hb2]
    have hs := pw_set (fun j => m (1024 + 8 * ((a - 1024) / 8) + j)) ((a - 1024) % 8) n hj
    rw [Nat.mul_comm 8 ((a - 1024) % 8)] at hs
    rw [show (2 ^ 8 - 1 : Nat) = 255 from rfl, show (2 ^ 8 : Nat) = 256 from rfl, hs]
    congr 2
    funext j
    unfold ph_sb
    by_cases h : j = (a - 1024) % 8
    · rw [if_pos h, if_pos (by omega)]
    · rw [if_neg h, if_neg (by omega)]
  · rw [if_neg hi]
    unfold pw_w
    rw [pw_congr 8 _ (fun j => ph_sb m a n (1024 + 8 * i + j)) (fun j hj8 => by
      unfold ph_sb
      rw [if_neg (by omega)])]
/-! ===== lN: masks, 'or' of parts that don't overlap is a sum ===== -/
theorem u_tn {n : Nat} (h : n < 2 ^ 64) : (UInt64.ofNat n).toNat = n := Nat.mod_eq_of_lt h
theorem g_and {a b c : Nat} (ha : a < 2 ^ 64) (hb : b < 2 ^ 64) (hc : a &&& b = c) : lN a &&& lN b = lN c := by
  subst hc
  have h : UInt64.ofNat a &&& UInt64.ofNat b = UInt64.ofNat (a &&& b) := UInt64.toNat_inj.mp (by rw [UInt64.toNat_and, u_tn ha, u_tn hb, u_tn (Nat.and_lt_two_pow a hb)])
  have h2 := congrArg UInt64.toInt64 h
  exact h2
theorem g_and1 {a : Nat} (ha : a < 2 ^ 64) : lN a &&& 1 = lN (a % 2) := g_and (b := 1) ha (by decide) (Nat.and_two_pow_sub_one_eq_mod a 1)
theorem g_mask {a s p : Nat} (hp : 2 ^ s = p) (hs : s < 64) (ha : a < 2 ^ 64) : lN a &&& lN (p - 1) = lN (a % p) := by
  subst hp
  have := Nat.pow_lt_pow_right (show 1 < 2 by decide) hs
  exact g_and ha (by omega) (Nat.and_two_pow_sub_one_eq_mod a s)
theorem g_or {k p a b : Nat} (hp : 2 ^ k = p) (ha : a < p) (h : b * p + a < 2 ^ 64) : lN (b * p) ||| lN a = lN (b * p + a) := by
  subst hp
  have h1 : b * 2 ^ k ||| a = b * 2 ^ k + a := by rw [← Nat.shiftLeft_eq, Nat.shiftLeft_add_eq_or_of_lt ha]
  have h3 : UInt64.ofNat (b * 2 ^ k) ||| UInt64.ofNat a = UInt64.ofNat (b * 2 ^ k + a) := UInt64.toNat_inj.mp (by rw [UInt64.toNat_or, u_tn (by omega), u_tn (by omega), u_tn h, h1])
  have h2 := congrArg UInt64.toInt64 h3
  exact h2
theorem g_or' {k p a b : Nat} (hp : 2 ^ k = p) (ha : a < p) (h : a + b * p < 2 ^ 64) : lN a ||| lN (b * p) = lN (a + b * p) := by
  rw [Int64.or_comm, g_or hp ha (by omega), Nat.add_comm]
theorem g_ushr {a k p : Nat} {y : UInt64} (hy : y = UInt64.ofNat k) (hk : k < 64) (hp : 2 ^ k = p) (ha : a < 2 ^ 64) : ((lN a).toUInt64 >>> y).toInt64 = lN (a / p) := by
  subst hy hp
  have h : UInt64.ofNat a >>> UInt64.ofNat k = UInt64.ofNat (a / 2 ^ k) := UInt64.toNat_inj.mp (by rw [UInt64.toNat_shiftRight, u_tn ha, u_tn (by omega), u_tn (Nat.lt_of_le_of_lt (Nat.div_le_self _ _) ha), Nat.mod_eq_of_lt hk, Nat.shiftRight_eq_div_pow])
  have h2 := congrArg UInt64.toInt64 h
  exact h2
theorem g_shl {a k p : Nat} {y : Int64} (hy : y.toBitVec.smod 64 = BitVec.ofNat 64 k) (hk : k < 64) (hp : 2 ^ k = p) (ha : a < 2 ^ 64) : lN a <<< y = lN (a * p) := by
  subst hp
  apply Int64.toBitVec_inj.mp
  rw [Int64.toBitVec_shiftLeft, hy]
  apply BitVec.eq_of_toNat_eq
  have hb : (lN a).toBitVec.toNat = a := Nat.mod_eq_of_lt ha
  have hk' : (BitVec.ofNat 64 k).toNat = k := Nat.mod_eq_of_lt (by omega)
  have h : ((lN a).toBitVec <<< BitVec.ofNat 64 k).toNat = (a * 2 ^ k) % 2 ^ 64 := by simp only [BitVec.shiftLeft_eq', BitVec.toNat_shiftLeft, hb, hk', Nat.shiftLeft_eq]
  exact h
end
section
/-! THE LAYER: contracts that say 'from these cells, with these arguments: this answer, and these cells', or 'it throws, and these cells'; rows for calls of such. -/
abbrev hx_IO : String := "java/lang/IndexOutOfBoundsException"
def hx_bad : List Cond := [.castable hx_IO hx_IO, .declares ⟨"java/lang/RuntimeException", "<init>", "()V"⟩, .declares ⟨"java/lang/Exception", "<init>", "()V"⟩, .declares ⟨"java/lang/Throwable", "<init>", "()V"⟩,
  .declares ⟨"java/lang/RuntimeException", "<init>", "(Ljava/lang/String;)V"⟩, .declares ⟨"java/lang/Exception", "<init>", "(Ljava/lang/String;)V"⟩, .declares ⟨"java/lang/Throwable", "<init>", "(Ljava/lang/String;)V"⟩]
/-- what a throw needs of the start, beside words of the tables -/
def hx_E (A : Nat → Prop) (U : State) (H : Heap) : Prop :=
  (∀ w ∈ hx_bad, va_Nw w U) ∧ (∃ a, vk_R RX0 25 "no such byte" a U) ∧ (∃ a, vk_R RX0 54 "no such number" a U) ∧ (∃ a, vk_R RX1 109 "no taken block begins there" a U) ∧
  vx_Zq Bundle.tN "UNASSIGNED_STACK" Bundle.steD A U H ∧ vx_Zq Bundle.tN "SUPPRESSED_SENTINEL" Bundle.listD A U H
theorem hx_bad_warm {s U : State} (hW : s.WarmedH U.vm) (h : ∀ w ∈ hx_bad, va_Nw w s) : ∀ w ∈ hx_bad, va_Nw w U := by
  intro w hw
  have hs := h w hw
  simp only [hx_bad, List.mem_cons, List.not_mem_nil, or_false] at hw
  rcases hw with rfl | rfl | rfl | rfl | rfl | rfl | rfl
  · exact va_Nw.warmC hW hs
  all_goals exact va_Nw.warmD hW hs
theorem hx_bad_same {s U : State} (hv : s.vm = U.vm) (h : ∀ w ∈ hx_bad, va_Nw w s) : ∀ w ∈ hx_bad, va_Nw w U := by
  intro w hw
  refine va_Nw.same ?_ hv (h w hw)
  simp only [hx_bad, List.mem_cons, List.not_mem_nil, or_false] at hw
  rcases hw with rfl | rfl | rfl | rfl | rfl | rfl | rfl <;> rfl
theorem hx_bad_use {s : State} {args : Array Value} (h : ∀ w ∈ hx_bad, va_Nw w s) : ∀ w ∈ hx_bad, w.before args s = true := by
  intro w hw
  refine va_Nw.use ?_ (h w hw)
  simp only [hx_bad, List.mem_cons, List.not_mem_nil, or_false] at hw
  rcases hw with rfl | rfl | rfl | rfl | rfl | rfl | rfl <;> rfl
theorem hx_E.call {A B : Nat → Prop} {s U : State} {H : Heap} {locs : List Loc} (h : hx_E A s s.heap) (hS : va_S A s.heap H locs) (hU : U.heap = H) (hW : s.WarmedH U.vm) (hB : ∀ q, B q → A q) : hx_E B U U.heap := by
  obtain ⟨h1, ⟨a2, h2⟩, ⟨a3, h3⟩, ⟨a4, h4⟩, h5, h6⟩ := h
  refine ⟨hx_bad_warm hW h1, ⟨a2, vk_R.warm hW h2⟩, ⟨a3, vk_R.warm hW h3⟩, ⟨a4, vk_R.warm hW h4⟩, ?_, ?_⟩
  · rw [hU]; exact ((h5.kept hS.2.1).moved hW.alike).narrow hB
  · rw [hU]; exact ((h6.kept hS.2.1).moved hW.alike).narrow hB
theorem hx_E.same {A : Nat → Prop} {s U : State} {H : Heap} (h : hx_E A s H) (hv : s.vm = U.vm) : hx_E A U H := by
  obtain ⟨h1, ⟨a2, h2⟩, ⟨a3, h3⟩, ⟨a4, h4⟩, h5, h6⟩ := h
  have hal : s.vm.Alike U.vm := by rw [← hv]; exact Vm.Alike.refl s.vm
  exact ⟨hx_bad_same hv h1, ⟨a2, vk_R.same hv.symm h2⟩, ⟨a3, vk_R.same hv.symm h3⟩, ⟨a4, vk_R.same hv.symm h4⟩, h5.moved hal, h6.moved hal⟩
/-- a method's start: its arguments, its cells -/
def hx_P (D : va_G) (tys : List (ClassId × FieldType)) (av : List Value) (w : va_W) (sz : Nat) : Array Value → State → Prop :=
  va_Pc av (fun U => U.heap.size = sz ∧ va_P D vwCl w U.heap ∧ va_K D vwCl tys U ∧ va_D (fun _ => True) w ∧ hx_E (va_A w sz) U U.heap)
theorem hx_blind {D : va_G} {tys : List (ClassId × FieldType)} {av : List Value} {w : va_W} {sz : Nat} : FrameBlind (hx_P D tys av w sz) := by
  intro a U g mk q
  obtain ⟨q0, q1, q2, q3, q4, q5⟩ := q
  exact ⟨q0, q1, q2, va_K.moved (u := U) (U := U.calling g mk a) (Vm.Alike.refl U.vm) q3, q4, hx_E.same (s := U) (U := U.calling g mk a) q5 rfl⟩
/-- .. and its end -/
def hx_Q (D : va_G) (A : Nat → Prop) (w : va_W) (v : Option Value) : Array Value → State → Outcome → State → Prop := fun _ st o t => o = .returned v ∧ va_P D vwCl w t.heap ∧ va_F A st t
def hx_XC (D : va_G) (A : Nat → Prop) (w : va_W) : String → State → State → Prop := fun E st t => E = hx_IO ∧ va_P D vwCl w t.heap ∧ va_F A st t
def hx_no : Array Value → State → Outcome → State → Prop := fun _ _ _ _ => False
/-- it returns v, and the cells w become w2 -/
def hx_R (l : Launch) (D : va_G) (tys : List (ClassId × FieldType)) (y : MethodName) (ws : List Cond) (fr lo : Nat) (av : List Value) (w w2 : va_W) (v : Option Value) : Prop :=
  ∀ sz, Met l y ws { frames := fr, cells := 0, slots := 0, locals := lo } (hx_P D tys av w sz) (hx_Q D (va_A w sz) w2 v) 0 0 (va_A w sz)
/-- it throws, and the cells w become w2 -/
def hx_X (l : Launch) (D : va_G) (tys : List (ClassId × FieldType)) (y : MethodName) (ws : List Cond) (fr lo : Nat) (av : List Value) (w w2 : va_W) : Prop :=
  ∀ sz, vx_Met l y ws { frames := fr, cells := 1, slots := 6, locals := lo } (hx_P D tys av w sz) hx_no (hx_XC D (va_A w sz) w2) 1 6 (va_A w sz)
/-- the one or the other -/
def hx_O (l : Launch) (D : va_G) (tys : List (ClassId × FieldType)) (y : MethodName) (ws : List Cond) (fr lo : Nat) (av : List Value) (w w2 : va_W) (r : Option (Option Value)) : Prop :=
  match r with
  | some v => hx_R l D tys y ws fr lo av w w2 v
  | none => hx_X l D tys y ws fr lo av w w2
/-- what stands in a body at all times -/
def hx_S (p : Program) (l : Launch) (s : State) (m : MethodId) (args : Array Value) (meth : Method) (c : Code) (cc : ByteArray) (nL : Nat) (Ts : List Cond) (own : String) (A : Nat → Prop) (D : va_G) (tys : List (ClassId × FieldType)) : Prop :=
  CallFix p m c cc nL s args Ts own ∧ va_K D vwCl tys s ∧ (∀ q, s.heap.size ≤ q → A q) ∧ hx_E A s s.heap ∧ meth.locks = false
/-- the cells at a point of a body -/
def hx_w (D : va_G) (A : Nat → Prop) (H0 : Heap) (w : va_W) (H : Heap) (locs : List Loc) : Prop := va_P D vwCl w H ∧ va_D A w ∧ va_S A H0 H locs
theorem hx_D {A B : Nat → Prop} {w w2 : va_W} (h : w2.map (fun q => q.1) = w.map (fun q => q.1)) (hD : va_D A w) (hB : ∀ q, A q → B q) : va_D B w2 := by
  have key : ∀ (i : Nat) (q : Nat × va_E), w2[i]? = some q → ∃ q', w[i]? = some q' ∧ q'.1 = q.1 := by
    intro i q hq
    have h1 : (w2.map (fun q => q.1))[i]? = some q.1 := by rw [List.getElem?_map, hq]; rfl
    rw [h, List.getElem?_map] at h1
    cases hi : w[i]? with
    | none => rw [hi] at h1; cases h1
    | some z => rw [hi] at h1; exact ⟨z, rfl, Option.some.inj h1⟩
  refine ⟨fun i j x y hx hy hxy => ?_, fun k q hq => ?_⟩
  · obtain ⟨x', a1, a2⟩ := key i x hx
    obtain ⟨y', b1, b2⟩ := key j y hy
    exact hD.1 i j x' y' a1 b1 (by rw [a2, b2]; exact hxy)
  · obtain ⟨q', a1, a2⟩ := key k q hq
    rw [← a2]
    exact hB _ (hD.2 k q' a1)
theorem hx_A {A : Nat → Prop} {w : va_W} {H0 H : Heap} {locs : List Loc} (hD : va_D A w) (hS : va_S A H0 H locs) (hA : ∀ q, H0.size ≤ q → A q) : ∀ q, va_A w H.size q → A q := by
  intro q h
  rcases h with ⟨k, e, h⟩ | h
  · exact hD.2 k (q, e) h
  · exact hA q (Nat.le_trans hS.1 h)
section HXB
variable {l : Launch} {D : va_G} {tys : List (ClassId × FieldType)} {y : MethodName} {ws ws' : List Cond} {fr lo : Nat} {av : List Value} {w w2 : va_W} {cc : ByteArray} {maxL : Nat} {ret : Option FieldType}
/-- a body that returns -/
theorem hx_R.ofW {v : Option Value} (hy : plainName y.cls = true) (hw : ws = Cond.code y cc maxL ret :: ws') (hn : (lg_sl av).length ≤ maxL)
    (body : ∀ (p : Program) (e : Env) (s : State) (m : MethodId) (below : List Frame) (meth : Method) (c : Code) (A : Nat → Prop) (ls : Array Slot), meth.sig.returnType = ret → hx_S p l s m av.toArray meth c cc maxL ws y.cls A D tys → hx_w D A s.heap w s.heap [] → lv_has ls maxL (lv_args 0 av) →
      W p l e { frames := fr, cells := 0, slots := 0, locals := lo } s m av.toArray below meth c s.heap [] 0 0 (MQ below (hx_Q D A w2 v) av.toArray s 0 0 A) (F0 m 0 ls [])) : hx_R l D tys y ws fr lo av w w2 v := by
  intro sz
  refine Met.ofW (cc := cc) (maxL := maxL) (ret := ret) hy hw ?_
  intro p e s m args below meth c s₁ B hml hv
  obtain ⟨rfl, hsz, hP, hK, hD0, hE⟩ := hv
  have hts := atoms_spec (ws := ws) B.pre
  have hown : s.vm.findClass y.cls = some m.cls := findClass_of_methodNamed B.named
  subst hsz
  have hD := hD0.self (sz := s.heap.size)
  generalize hAe : va_A w s.heap.size = A at hD hE ⊢
  have hA : ∀ q : Nat, s.heap.size ≤ q → A q := fun q h => by rw [← hAe]; exact Or.inr h
  have hl := lv_entry av (n := maxL) hn
  rw [lg_entry_eq]
  exact body p e s m below meth c A _ B.returns ⟨⟨B.exec, B.bytes, hml, hown, hts⟩, hK, hA, hE, B.notSynchronized⟩ ⟨hP, hD, va_S.rf⟩ hl
/-- a body that throws -/
theorem hx_X.ofW (hy : plainName y.cls = true) (hw : ws = Cond.code y cc maxL ret :: ws') (hn : (lg_sl av).length ≤ maxL)
    (body : ∀ (p : Program) (e : Env) (s : State) (m : MethodId) (below : List Frame) (meth : Method) (c : Code) (A : Nat → Prop) (ls : Array Slot), meth.sig.returnType = ret → hx_S p l s m av.toArray meth c cc maxL ws y.cls A D tys → (∀ x ∈ c.exceptionTable.toList, False) → hx_w D A s.heap w s.heap [] → lv_has ls maxL (lv_args 0 av) →
      W p l e { frames := fr, cells := 1, slots := 6, locals := lo } s m av.toArray below meth c s.heap [] 0 0 (vx_MQ below hx_no (hx_XC D A w2) av.toArray s 1 6 A) (F0 m 0 ls [])) : hx_X l D tys y ws fr lo av w w2 := by
  intro sz
  refine vx_ofW (cc := cc) (maxL := maxL) (ret := ret) hy hw ?_
  intro p e s m args below meth c s₁ B hml hno hv
  obtain ⟨rfl, hsz, hP, hK, hD0, hE⟩ := hv
  have hts := atoms_spec (ws := ws) B.pre
  have hown : s.vm.findClass y.cls = some m.cls := findClass_of_methodNamed B.named
  subst hsz
  have hD := hD0.self (sz := s.heap.size)
  generalize hAe : va_A w s.heap.size = A at hD hE ⊢
  have hA : ∀ q : Nat, s.heap.size ≤ q → A q := fun q h => by rw [← hAe]; exact Or.inr h
  have hl := lv_entry av (n := maxL) hn
  rw [lg_entry_eq]
  exact body p e s m below meth c A _ B.returns ⟨⟨B.exec, B.bytes, hml, hown, hts⟩, hK, hA, hE, B.notSynchronized⟩ hno ⟨hP, hD, va_S.rf⟩ hl
end HXB
section HXR
variable {p : Program} {l : Launch} {e : Env} {R : Room} {s : State} {m : MethodId} {args : Array Value} {below : List Frame} {meth : Method} {c : Code} {H : Heap} {locs : List Loc} {cells slots : Nat} {Q : State → Prop}
variable {cc : ByteArray} {nL pc : Nat} {Ts : List Cond} {own : String} {A : Nat → Prop} {D : va_G} {tys : List (ClassId × FieldType)} {w : va_W} {ls : Array Slot} {rest : List Value}
/-- returns -/
theorem hx_iret (S : hx_S p l s m args meth c cc nL Ts own A D tys) {v : Int32} (hr : meth.sig.returnType = some .int) (hw : hx_w D A s.heap w H locs) (hdg : decode cc pc = .ok (.ireturn, 1)) :
    W p l e R s m args below meth c H locs cells slots (MQ below (hx_Q D A w (some (.int v))) args s cells slots A) (F0 m pc ls [.int v]) := by
  obtain ⟨⟨hx, hb, -⟩, -, -, -, hlk⟩ := S
  obtain ⟨hP, hD, hS⟩ := hw
  exact W.iret hx hb hr (fun t ht _ => ⟨rfl, by rw [ht]; exact hP, hS.F ht⟩) hS.2.2 hdg hlk
theorem hx_zret (S : hx_S p l s m args meth c cc nL Ts own A D tys) {v : Int32} (hr : meth.sig.returnType = some .boolean) (hn : narrow .boolean (.int v) = .int v) (hw : hx_w D A s.heap w H locs) (hdg : decode cc pc = .ok (.ireturn, 1)) :
    W p l e R s m args below meth c H locs cells slots (MQ below (hx_Q D A w (some (.int v))) args s cells slots A) (F0 m pc ls [.int v]) := by
  obtain ⟨⟨hx, hb, -⟩, -, -, -, hlk⟩ := S
  obtain ⟨hP, hD, hS⟩ := hw
  exact W.zret hx hb hr hn (fun t ht _ => ⟨rfl, by rw [ht]; exact hP, hS.F ht⟩) hS.2.2 hdg hlk
theorem hx_lret (S : hx_S p l s m args meth c cc nL Ts own A D tys) {v : Int64} (hr : meth.sig.returnType = some .long) (hw : hx_w D A s.heap w H locs) (hdg : decode cc pc = .ok (.lreturn, 1)) :
    W p l e R s m args below meth c H locs cells slots (MQ below (hx_Q D A w (some (.long v))) args s cells slots A) (F0 m pc ls [.long v]) := by
  obtain ⟨⟨hx, hb, -⟩, -, -, -, hlk⟩ := S
  obtain ⟨hP, hD, hS⟩ := hw
  exact W.lret hx hb hr (fun t ht _ => ⟨rfl, by rw [ht]; exact hP, hS.F ht⟩) hS.2.2 hdg hlk
theorem hx_vret (S : hx_S p l s m args meth c cc nL Ts own A D tys) (hr : meth.sig.returnType = none) (hw : hx_w D A s.heap w H locs) (hdg : decode cc pc = .ok (.return_, 1)) :
    W p l e R s m args below meth c H locs cells slots (MQ below (hx_Q D A w none) args s cells slots A) (F0 m pc ls []) := by
  obtain ⟨⟨hx, hb, -⟩, -, -, -, hlk⟩ := S
  obtain ⟨hP, hD, hS⟩ := hw
  exact W.vret hx hb hr (fun t ht _ => ⟨rfl, by rw [ht]; exact hP, hS.F ht⟩) hS.2.2 hdg hlk
section Calls
variable {y : MethodName} {bytes : ByteArray} {maxL index fr lo n : Nat} {ret : Option FieldType} {ws ws' : List Cond} {C : String} {b : Addr} {As st : List Value} {w2 : va_W} {v : Option Value}
theorem hx_pre (S : hx_S p l s m args meth c cc nL Ts own A D tys) (hw : hx_w D A s.heap w H locs) (av : List Value) : ∀ U : State, U.heap = H → s.WarmedH U.vm → hx_P D tys av w H.size av.toArray U := by
  obtain ⟨-, hK, hA, hE, -⟩ := S
  obtain ⟨hP, hD, hS⟩ := hw
  intro U hU hW
  exact ⟨rfl, by rw [hU], by rw [hU]; exact hP, va_K.moved hW.alike hK, hD.weaken (fun _ _ _ _ => trivial), hE.call hS hU hW (hx_A hD hS hA)⟩
/-- a method called, by its object -/
theorem hx_callV (S : hx_S p l s m args meth c cc nL Ts own A D tys) (hw : hx_w D A s.heap w H locs) (hM : hx_R l D tys y ws fr lo (.ref b :: As) w w2 v) (hG : GoodIn Ts (wsV own index C y ws)) (hw0 : ws = Cond.code y bytes maxL ret :: ws')
    (hd : y.cls = C ∧ y.cls ≠ "java/lang/invoke/MethodHandle" ∧ y.cls ≠ "java/lang/invoke/VarHandle" ∧ (parseMethodDescriptor y.desc).map (fun d => d.parameters.length) = some n) (hn : As.length = n) (hR : fr + 1 ≤ R.frames ∧ 8 + (maxL + 11) + lo ≤ R.locals)
    (q0 ci : Nat) {fs : List Value} {T9 : u_T} {N9 : Nat} (he : w[q0]? = some (b, .inr (ci, fs))) (hc : vwCl[ci]? = some (C, T9, N9)) (hadr : w2.map (fun q => q.1) = w.map (fun q => q.1)) (hsz : ls.size = nL) (hst : st = As.reverse ++ .ref b :: rest) (hroom : (rest.map fun v => v.category).sum ≤ 8)
    (hcs : cells ≤ R.cells ∧ slots ≤ R.slots) (hdg : decode cc pc = .ok (.invokevirtual index, 3))
    (kk : ∀ (H1 : Heap) (locs1 : List Loc), hx_w D A s.heap w2 H1 locs1 → W p l e R s m args below meth c H1 locs1 cells slots Q (F0 m (pc + 3) ls (v.toList ++ rest))) : W p l e R s m args below meth c H locs cells slots Q (F0 m pc ls st) := by
  subst hst
  have hpre := hx_pre S hw (.ref b :: As)
  obtain ⟨hfix, hK, hA, hE, hlk⟩ := S
  obtain ⟨hP, hD, hS⟩ := hw
  have hF := hx_A hD hS hA
  have hrun := va_runV (g := F0 m pc ls (As.reverse ++ .ref b :: rest)) (rest := rest) (e := e) (R := R) (below := below) (meth := meth) (locs := locs) (cells := cells) (slots := slots) hfix (hM H.size) (cwV n hfix.2.2.2.2 hG hw0 rfl rfl hd hR) ⟨hx_blind, va_recv hK hP hc he, hpre⟩ rfl hn hsz rfl (lv_room hroom) hdg ⟨hcs.1, hcs.2⟩
  intro T hT X
  obtain ⟨v', st₀, t, T', L, h0, X', hL, e1, e2, ⟨hv, hP1, hz, hk⟩, go⟩ := hrun T hT X
  cases hv
  rw [h0] at hz hk
  obtain ⟨t2, a1, b1⟩ := kk T'.heap (locs ++ L) ⟨by rw [e1]; exact hP1, hx_D hadr hD (fun _ h => h), Nat.le_trans hS.1 (by rw [e1]; exact hz), fun q h1 h2 => by rw [e1, hk q (Nat.lt_of_lt_of_le h1 hS.1) (fun z => h2 (hF q z))]; exact hS.2.1 q h1 h2, fun q hq => by
      rcases List.mem_append.mp hq with h | h
      · exact hS.2.2 q h
      · exact hF _ (hL q h)⟩ T' rfl X'
  exact ⟨t2, go t2 a1, b1⟩
/-- a static one -/
theorem hx_callS (S : hx_S p l s m args meth c cc nL Ts own A D tys) (hw : hx_w D A s.heap w H locs) (hM : hx_R l D tys y ws fr lo As w w2 v) (hG : GoodIn Ts (va_wsS own index y ws)) (hw0 : ws = Cond.code y bytes maxL ret :: ws')
    (hd : y.cls ≠ "java/lang/invoke/MethodHandle" ∧ y.cls ≠ "java/lang/invoke/VarHandle" ∧ (parseMethodDescriptor y.desc).map (fun d => d.parameters.length) = some n) (hn : As.length = n) (hR : fr + 1 ≤ R.frames ∧ 8 + (maxL + 11) + lo ≤ R.locals)
    (hadr : w2.map (fun q => q.1) = w.map (fun q => q.1)) (hsz : ls.size = nL) (hst : st = As.reverse ++ rest) (hroom : (rest.map fun v => v.category).sum ≤ 8)
    (hcs : cells ≤ R.cells ∧ slots ≤ R.slots) (hdg : decode cc pc = .ok (.invokestatic index, 3))
    (kk : ∀ (H1 : Heap) (locs1 : List Loc), hx_w D A s.heap w2 H1 locs1 → W p l e R s m args below meth c H1 locs1 cells slots Q (F0 m (pc + 3) ls (v.toList ++ rest))) : W p l e R s m args below meth c H locs cells slots Q (F0 m pc ls st) := by
  subst hst
  have hpre := hx_pre S hw As
  obtain ⟨hfix, hK, hA, hE, hlk⟩ := S
  obtain ⟨hP, hD, hS⟩ := hw
  have hF := hx_A hD hS hA
  have hrun := va_runS (g := F0 m pc ls (As.reverse ++ rest)) (rest := rest) (e := e) (R := R) (below := below) (meth := meth) (locs := locs) (cells := cells) (slots := slots) hfix (hM H.size) (va_cwS n hfix.2.2.2.2 hG hw0 rfl rfl hd hR) ⟨hx_blind, hpre⟩ rfl hn hsz rfl (lv_room hroom) hdg ⟨hcs.1, hcs.2⟩
  intro T hT X
  obtain ⟨v', st₀, t, T', L, h0, X', hL, e1, e2, ⟨hv, hP1, hz, hk⟩, go⟩ := hrun T hT X
  cases hv
  rw [h0] at hz hk
  obtain ⟨t2, a1, b1⟩ := kk T'.heap (locs ++ L) ⟨by rw [e1]; exact hP1, hx_D hadr hD (fun _ h => h), Nat.le_trans hS.1 (by rw [e1]; exact hz), fun q h1 h2 => by rw [e1, hk q (Nat.lt_of_lt_of_le h1 hS.1) (fun z => h2 (hF q z))]; exact hS.2.1 q h1 h2, fun q hq => by
      rcases List.mem_append.mp hq with h | h
      · exact hS.2.2 q h
      · exact hF _ (hL q h)⟩ T' rfl X'
  exact ⟨t2, go t2 a1, b1⟩
/-- one that throws: what comes of it -/
theorem hx_thrV (S : hx_S p l s m args meth c cc nL Ts own A D tys) (hw : hx_w D A s.heap w H locs) (hM : hx_X l D tys y ws fr lo (.ref b :: As) w w2) (hG : GoodIn Ts (wsV own index C y ws)) (hw0 : ws = Cond.code y bytes maxL ret :: ws')
    (hd : y.cls = C ∧ y.cls ≠ "java/lang/invoke/MethodHandle" ∧ y.cls ≠ "java/lang/invoke/VarHandle" ∧ (parseMethodDescriptor y.desc).map (fun d => d.parameters.length) = some n) (hn : As.length = n) (hR : fr + 1 ≤ R.frames ∧ 8 + (maxL + 11) + lo ≤ R.locals)
    (q0 ci : Nat) {fs : List Value} {T9 : u_T} {N9 : Nat} (he : w[q0]? = some (b, .inr (ci, fs))) (hc : vwCl[ci]? = some (C, T9, N9)) (hadr : w2.map (fun q => q.1) = w.map (fun q => q.1)) (hsz : ls.size = nL) (hst : st = As.reverse ++ .ref b :: rest) (hroom : (rest.map fun v => v.category).sum ≤ 8)
    (hcs : cells + 1 ≤ R.cells ∧ slots + 6 ≤ R.slots) (hdg : decode cc pc = .ok (.invokevirtual index, 3))
    (kx : ∀ (ce : Cell) (q : Addr) (H1 : Heap) (locs1 : List Loc), hx_w D A s.heap w2 H1 locs1 → H1[q]? = some ce → ce.vm = .none → s.vm.findClass hx_IO = some ce.cls → vx_W p l e R s m args below meth c H1 locs1 (cells + 1) (slots + 6) Q (F0 m pc ls rest) q) : W p l e R s m args below meth c H locs cells slots Q (F0 m pc ls st) := by
  subst hst
  have hpre := hx_pre S hw (.ref b :: As)
  obtain ⟨hfix, hK, hA, hE, hlk⟩ := S
  obtain ⟨hP, hD, hS⟩ := hw
  have hF := hx_A hD hS hA
  have hrun := vx_runV (g := F0 m pc ls (As.reverse ++ .ref b :: rest)) (rest := rest) (e := e) (R := R) (below := below) (meth := meth) (locs := locs) (cells := cells) (slots := slots) hfix (hM H.size) (cwV n hfix.2.2.2.2 hG hw0 rfl rfl hd hR) ⟨hx_blind, va_recv hK hP hc he, hpre⟩ rfl hn hsz rfl (lv_room hroom) hdg ⟨hcs.1, hcs.2⟩
  intro T hT X
  rcases hrun T hT X with ⟨v', st₀, t, T', L, h0, X', hL, e1, e2, hv, go⟩ | ⟨q, st₀, t, T', L, E, ce, h0, X', hL, e1, e2, ⟨rfl, hP1, hz, hk⟩, hce, hcv, hcl, go⟩
  · exact hv.elim
  · rw [h0] at hz hk
    obtain ⟨t2, a1, b1⟩ := kx ce q T'.heap (locs ++ L) ⟨by rw [e1]; exact hP1, hx_D hadr hD (fun _ h => h), Nat.le_trans hS.1 (by rw [e1]; exact hz), fun q h1 h2 => by rw [e1, hk q (Nat.lt_of_lt_of_le h1 hS.1) (fun z => h2 (hF q z))]; exact hS.2.1 q h1 h2, fun q hq => by
        rcases List.mem_append.mp hq with h | h
        · exact hS.2.2 q h
        · exact hF _ (hL q h)⟩ (by rw [e1]; exact hce) hcv hcl T' rfl X'
    exact ⟨t2, go.trans a1, b1⟩
/-- .. not caught here -/
theorem hx_thr (S : hx_S p l s m args meth c cc nL Ts own A D tys) (hno : ∀ x ∈ c.exceptionTable.toList, False) (hw : hx_w D A s.heap w H locs) (hM : hx_X l D tys y ws fr lo (.ref b :: As) w w2) (hG : GoodIn Ts (wsV own index C y ws)) (hw0 : ws = Cond.code y bytes maxL ret :: ws')
    (hd : y.cls = C ∧ y.cls ≠ "java/lang/invoke/MethodHandle" ∧ y.cls ≠ "java/lang/invoke/VarHandle" ∧ (parseMethodDescriptor y.desc).map (fun d => d.parameters.length) = some n) (hn : As.length = n) (hR : fr + 1 ≤ R.frames ∧ 8 + (maxL + 11) + lo ≤ R.locals)
    (q0 ci : Nat) {fs : List Value} {T9 : u_T} {N9 : Nat} (he : w[q0]? = some (b, .inr (ci, fs))) (hc : vwCl[ci]? = some (C, T9, N9)) (hadr : w2.map (fun q => q.1) = w.map (fun q => q.1)) (hsz : ls.size = nL) (hst : st = As.reverse ++ .ref b :: rest) (hroom : (rest.map fun v => v.category).sum ≤ 8)
    (hcs : 1 ≤ R.cells ∧ 6 ≤ R.slots) (hdg : decode cc pc = .ok (.invokevirtual index, 3)) {Qc : Array Value → State → Outcome → State → Prop} : W p l e R s m args below meth c H locs 0 0 (vx_MQ below Qc (hx_XC D A w2) args s 1 6 A) (F0 m pc ls st) := by
  refine hx_thrV S hw hM hG hw0 hd hn hR q0 ci he hc hadr hsz hst hroom ⟨by omega, by omega⟩ hdg ?_
  intro ce q H1 locs1 hw1 hce hcv hcl
  exact vx_out (fun x hx => (hno x hx).elim) S.2.2.2.2 hce hcv hcl (fun t ht _ => ⟨rfl, by rw [ht]; exact hw1.1, hw1.2.2.F ht⟩) hw1.2.2.2.2 (by omega) (by omega)
end Calls
/-- 'throw new IndexOutOfBoundsException("..")' -/
theorem hx_new (S : hx_S p l s m args meth c cc nL Ts own A D tys) (hl : l.stackTraces = false) (hno : ∀ x ∈ c.exceptionTable.toList, False) (hw : hx_w D A s.heap w H locs) {text : String} {ik is ic : Nat} (hstr : ∃ a, vk_R own is text a s)
    (hk : Cond.classLink own ik hx_IO ∈ Ts) (hini : Cond.initialized hx_IO ∈ Ts) (hat : ∀ w ∈ (vx_atS own ic hx_IO ["java/lang/RuntimeException", "java/lang/Exception"]).filter goodWord, w ∈ Ts)
    (hbad : ∀ w ∈ (vx_atS own ic hx_IO ["java/lang/RuntimeException", "java/lang/Exception"]).filter (fun w => !goodWord w), w ∈ hx_bad)
    (hgood : ∀ w ∈ Cond.classLink own ik hx_IO :: Cond.initialized hx_IO :: vx_atS own ic hx_IO ["java/lang/RuntimeException", "java/lang/Exception"], vx_ot w = true) (hsz : ls.size = nL)
    (d0 : decode cc pc = .ok (.new ik, 3)) (d3 : decode cc (pc + 3) = .ok (.dup, 1)) (d4 : decode cc (pc + 4) = .ok (.ldc is, 2)) (d6 : decode cc (pc + 6) = .ok (.invokespecial ic, 3)) (d9 : decode cc (pc + 9) = .ok (.athrow, 1))
    (hR : 6 ≤ R.frames ∧ 82 ≤ R.locals ∧ 1 ≤ R.cells ∧ 6 ≤ R.slots) {Qc : Array Value → State → Outcome → State → Prop} : W p l e R s m args below meth c H locs 0 0 (vx_MQ below Qc (hx_XC D A w) args s 1 6 A) (F0 m pc ls []) := by
  obtain ⟨⟨hx, hb, hml, hown, hts⟩, hK, hA, ⟨e1, e2, e3, e4, e5, e6⟩, hlk⟩ := S
  obtain ⟨hP, hD, hS⟩ := hw
  obtain ⟨sa, hstr⟩ := hstr
  obtain ⟨r1, r2, r3, r4⟩ := hR
  refine vx_throwS hx hb hl (names := ["java/lang/RuntimeException", "java/lang/Exception"]) hown (by decide +kernel) (by decide +kernel) (hts _ hk) (hts _ hini) hstr (vx_hat (fun w h => hts w (hat w h)) hbad (hx_bad_use e1)) hgood e5 e6 hS (hsz.trans hml.symm) d0 d3 d4 d6 d9 (fun x hx => (hno x hx).elim)
    (by show 2 + 3 < R.frames; omega) (by show 0 + (13 * (2 + 1) + 43) ≤ R.locals; omega) (by omega) (by omega) hlk ?_ hS.2.2 (by omega) (by omega)
  intro t hal hz hq
  exact ⟨rfl, hP.kept (fun k q hk => hq q.1 ((hP k q hk).lt)), Nat.le_trans hS.1 hz, fun q h1 h2 => by rw [hq q (Nat.lt_of_lt_of_le h1 hS.1)]; exact hS.2.1 q h1 h2⟩
/-- 'throw new IndexOutOfBoundsException()' -/
theorem hx_new0 (S : hx_S p l s m args meth c cc nL Ts own A D tys) (hl : l.stackTraces = false) (hno : ∀ x ∈ c.exceptionTable.toList, False) (hw : hx_w D A s.heap w H locs) {ik ic : Nat}
    (hk : Cond.classLink own ik hx_IO ∈ Ts) (hini : Cond.initialized hx_IO ∈ Ts) (hat : ∀ w ∈ (vx_at0 own ic hx_IO ["java/lang/RuntimeException", "java/lang/Exception"]).filter goodWord, w ∈ Ts)
    (hbad : ∀ w ∈ (vx_at0 own ic hx_IO ["java/lang/RuntimeException", "java/lang/Exception"]).filter (fun w => !goodWord w), w ∈ hx_bad)
    (hgood : ∀ w ∈ Cond.classLink own ik hx_IO :: Cond.initialized hx_IO :: vx_at0 own ic hx_IO ["java/lang/RuntimeException", "java/lang/Exception"], vx_ot w = true) (hsz : ls.size = nL)
    (d0 : decode cc pc = .ok (.new ik, 3)) (d3 : decode cc (pc + 3) = .ok (.dup, 1)) (d4 : decode cc (pc + 4) = .ok (.invokespecial ic, 3)) (d7 : decode cc (pc + 7) = .ok (.athrow, 1))
    (hR : 6 ≤ R.frames ∧ 82 ≤ R.locals ∧ 1 ≤ R.cells ∧ 6 ≤ R.slots) {Qc : Array Value → State → Outcome → State → Prop} : W p l e R s m args below meth c H locs 0 0 (vx_MQ below Qc (hx_XC D A w) args s 1 6 A) (F0 m pc ls []) := by
  obtain ⟨⟨hx, hb, hml, hown, hts⟩, hK, hA, ⟨e1, e2, e3, e4, e5, e6⟩, hlk⟩ := S
  obtain ⟨hP, hD, hS⟩ := hw
  obtain ⟨r1, r2, r3, r4⟩ := hR
  refine vx_throw0 hx hb hl (names := ["java/lang/RuntimeException", "java/lang/Exception"]) hown (by decide +kernel) (by decide +kernel) (hts _ hk) (hts _ hini) (vx_hat (fun w h => hts w (hat w h)) hbad (hx_bad_use e1)) hgood e5 e6 hS (hsz.trans hml.symm) d0 d3 d4 d7 (fun x hx => (hno x hx).elim)
    (by show 2 + 3 < R.frames; omega) (by show 0 + (13 * (2 + 1) + 42) ≤ R.locals; omega) (by omega) (by omega) hlk ?_ hS.2.2 (by omega) (by omega)
  intro t hal hz hq
  exact ⟨rfl, hP.kept (fun k q hk => hq q.1 ((hP k q hk).lt)), Nat.le_trans hS.1 hz, fun q h1 h2 => by rw [hq q (Nat.lt_of_lt_of_le h1 hS.1)]; exact hS.2.1 q h1 h2⟩
end HXR
end
section
/-! rows whose value is named, and compares over nI, lN -/
section HN
variable {p : Program} {l : Launch} {e : Env} {R : Room} {s : State} {m : MethodId} {args : Array Value} {below : List Frame} {meth : Method} {c : Code} {H : Heap} {locs : List Loc} {cells slots : Nat} {Q : State → Prop}
variable {cc : ByteArray} {pc : Nat} {ls : Array Slot} {rest : List Value}
theorem hn_ladd (hx : p.tables.exec = Jvm.exec) (hb : c.code = cc) {x y v : Int64} (hdg : decode cc pc = .ok (.ladd, 1)) (hv : x + y = v) (k : W p l e R s m args below meth c H locs cells slots Q (F0 m (pc + 1) ls (.long v :: rest))) : W p l e R s m args below meth c H locs cells slots Q (F0 m pc ls (.long y :: .long x :: rest)) := by subst hv; exact lv_ladd hx hb hdg k
theorem hn_iadd (hx : p.tables.exec = Jvm.exec) (hb : c.code = cc) {x y v : Int32} (hdg : decode cc pc = .ok (.iadd, 1)) (hv : x + y = v) (k : W p l e R s m args below meth c H locs cells slots Q (F0 m (pc + 1) ls (.int v :: rest))) : W p l e R s m args below meth c H locs cells slots Q (F0 m pc ls (.int y :: .int x :: rest)) := by subst hv; exact lv_iadd hx hb hdg k
theorem hn_lsub (hx : p.tables.exec = Jvm.exec) (hb : c.code = cc) {x y v : Int64} (hdg : decode cc pc = .ok (.lsub, 1)) (hv : x - y = v) (k : W p l e R s m args below meth c H locs cells slots Q (F0 m (pc + 1) ls (.long v :: rest))) : W p l e R s m args below meth c H locs cells slots Q (F0 m pc ls (.long y :: .long x :: rest)) := by subst hv; exact lv_lsub hx hb hdg k
theorem hn_isub (hx : p.tables.exec = Jvm.exec) (hb : c.code = cc) {x y v : Int32} (hdg : decode cc pc = .ok (.isub, 1)) (hv : x - y = v) (k : W p l e R s m args below meth c H locs cells slots Q (F0 m (pc + 1) ls (.int v :: rest))) : W p l e R s m args below meth c H locs cells slots Q (F0 m pc ls (.int y :: .int x :: rest)) := by subst hv; exact lv_isub hx hb hdg k
theorem hn_lmul (hx : p.tables.exec = Jvm.exec) (hb : c.code = cc) {x y v : Int64} (hdg : decode cc pc = .ok (.lmul, 1)) (hv : x * y = v) (k : W p l e R s m args below meth c H locs cells slots Q (F0 m (pc + 1) ls (.long v :: rest))) : W p l e R s m args below meth c H locs cells slots Q (F0 m pc ls (.long y :: .long x :: rest)) := by subst hv; exact lv_lmul hx hb hdg k
theorem hn_imul (hx : p.tables.exec = Jvm.exec) (hb : c.code = cc) {x y v : Int32} (hdg : decode cc pc = .ok (.imul, 1)) (hv : x * y = v) (k : W p l e R s m args below meth c H locs cells slots Q (F0 m (pc + 1) ls (.int v :: rest))) : W p l e R s m args below meth c H locs cells slots Q (F0 m pc ls (.int y :: .int x :: rest)) := by subst hv; exact lv_imul hx hb hdg k
theorem hn_land (hx : p.tables.exec = Jvm.exec) (hb : c.code = cc) {x y v : Int64} (hdg : decode cc pc = .ok (.land, 1)) (hv : x &&& y = v) (k : W p l e R s m args below meth c H locs cells slots Q (F0 m (pc + 1) ls (.long v :: rest))) : W p l e R s m args below meth c H locs cells slots Q (F0 m pc ls (.long y :: .long x :: rest)) := by subst hv; exact lv_land hx hb hdg k
theorem hn_iand (hx : p.tables.exec = Jvm.exec) (hb : c.code = cc) {x y v : Int32} (hdg : decode cc pc = .ok (.iand, 1)) (hv : x &&& y = v) (k : W p l e R s m args below meth c H locs cells slots Q (F0 m (pc + 1) ls (.int v :: rest))) : W p l e R s m args below meth c H locs cells slots Q (F0 m pc ls (.int y :: .int x :: rest)) := by subst hv; exact lv_iand hx hb hdg k
theorem hn_lor (hx : p.tables.exec = Jvm.exec) (hb : c.code = cc) {x y v : Int64} (hdg : decode cc pc = .ok (.lor, 1)) (hv : x ||| y = v) (k : W p l e R s m args below meth c H locs cells slots Q (F0 m (pc + 1) ls (.long v :: rest))) : W p l e R s m args below meth c H locs cells slots Q (F0 m pc ls (.long y :: .long x :: rest)) := by subst hv; exact lv_lor hx hb hdg k
theorem hn_ior (hx : p.tables.exec = Jvm.exec) (hb : c.code = cc) {x y v : Int32} (hdg : decode cc pc = .ok (.ior, 1)) (hv : x ||| y = v) (k : W p l e R s m args below meth c H locs cells slots Q (F0 m (pc + 1) ls (.int v :: rest))) : W p l e R s m args below meth c H locs cells slots Q (F0 m pc ls (.int y :: .int x :: rest)) := by subst hv; exact lv_ior hx hb hdg k
theorem hn_lxor (hx : p.tables.exec = Jvm.exec) (hb : c.code = cc) {x y v : Int64} (hdg : decode cc pc = .ok (.lxor, 1)) (hv : x ^^^ y = v) (k : W p l e R s m args below meth c H locs cells slots Q (F0 m (pc + 1) ls (.long v :: rest))) : W p l e R s m args below meth c H locs cells slots Q (F0 m pc ls (.long y :: .long x :: rest)) := by subst hv; exact lv_lxor hx hb hdg k
theorem hn_ldiv (hx : p.tables.exec = Jvm.exec) (hb : c.code = cc) {x y v : Int64} (hdg : decode cc pc = .ok (.ldiv, 1)) (hne : ¬ y = 0) (hv : x / y = v) (k : W p l e R s m args below meth c H locs cells slots Q (F0 m (pc + 1) ls (.long v :: rest))) : W p l e R s m args below meth c H locs cells slots Q (F0 m pc ls (.long y :: .long x :: rest)) := by subst hv; exact lv_ldiv hx hb hdg hne k
theorem hn_idiv (hx : p.tables.exec = Jvm.exec) (hb : c.code = cc) {x y v : Int32} (hdg : decode cc pc = .ok (.idiv, 1)) (hne : ¬ y = 0) (hv : x / y = v) (k : W p l e R s m args below meth c H locs cells slots Q (F0 m (pc + 1) ls (.int v :: rest))) : W p l e R s m args below meth c H locs cells slots Q (F0 m pc ls (.int y :: .int x :: rest)) := by subst hv; exact lv_idiv hx hb hdg hne k
theorem hn_irem (hx : p.tables.exec = Jvm.exec) (hb : c.code = cc) {x y v : Int32} (hdg : decode cc pc = .ok (.irem, 1)) (hne : ¬ y = 0) (hv : x - x / y * y = v) (k : W p l e R s m args below meth c H locs cells slots Q (F0 m (pc + 1) ls (.int v :: rest))) : W p l e R s m args below meth c H locs cells slots Q (F0 m pc ls (.int y :: .int x :: rest)) := by subst hv; exact lv_irem hx hb hdg hne k
theorem hn_ishl (hx : p.tables.exec = Jvm.exec) (hb : c.code = cc) {x y v : Int32} (hdg : decode cc pc = .ok (.ishl, 1)) (hv : x <<< (y &&& 31) = v) (k : W p l e R s m args below meth c H locs cells slots Q (F0 m (pc + 1) ls (.int v :: rest))) : W p l e R s m args below meth c H locs cells slots Q (F0 m pc ls (.int y :: .int x :: rest)) := by subst hv; exact lv_ishl hx hb hdg k
theorem hn_ishr (hx : p.tables.exec = Jvm.exec) (hb : c.code = cc) {x y v : Int32} (hdg : decode cc pc = .ok (.ishr, 1)) (hv : x >>> (y &&& 31) = v) (k : W p l e R s m args below meth c H locs cells slots Q (F0 m (pc + 1) ls (.int v :: rest))) : W p l e R s m args below meth c H locs cells slots Q (F0 m pc ls (.int y :: .int x :: rest)) := by subst hv; exact lv_ishr hx hb hdg k
theorem hn_b63 {a : Nat} (h : a < 9223372036854775808) : a < 2 ^ 63 := h
theorem hn_b31 {a : Nat} (h : a < 2147483648) : a < 2 ^ 31 := h
theorem hn_llt (hx : p.tables.exec = Jvm.exec) (hb : c.code = cc) {a b : Nat} (ha : a < 9223372036854775808) (hb9 : b < 9223372036854775808) {off : Int} {tgt : Nat} (d1 : decode cc pc = .ok (.lcmp, 1)) (d2 : decode cc (pc + 1) = .ok (.ifCond .lt off, 3)) (ht : ((pc + 1 : Nat) : Int) + off = (tgt : Int)) (kt : a < b → W p l e R s m args below meth c H locs cells slots Q (F0 m tgt ls rest)) (kf : b ≤ a → W p l e R s m args below meth c H locs cells slots Q (F0 m (pc + 4) ls rest)) : W p l e R s m args below meth c H locs cells slots Q (F0 m pc ls (.long (lN b) :: .long (lN a) :: rest)) := by
  have ha := hn_b63 ha
  have hb9 := hn_b63 hb9
  refine W.lcmp hx hb d1 ?_
  refine lv_if_lt hx hb d2 ht (fun h => kt ?_) (fun h => kf ?_)
  · exact (pk_lLT ha hb9).mp ((lg_cmp_lt _ _).mp h)
  · exact Nat.le_of_not_lt fun z => h ((lg_cmp_lt _ _).mpr ((pk_lLT ha hb9).mpr z))
theorem hn_lge (hx : p.tables.exec = Jvm.exec) (hb : c.code = cc) {a b : Nat} (ha : a < 9223372036854775808) (hb9 : b < 9223372036854775808) {off : Int} {tgt : Nat} (d1 : decode cc pc = .ok (.lcmp, 1)) (d2 : decode cc (pc + 1) = .ok (.ifCond .ge off, 3)) (ht : ((pc + 1 : Nat) : Int) + off = (tgt : Int)) (kt : b ≤ a → W p l e R s m args below meth c H locs cells slots Q (F0 m tgt ls rest)) (kf : a < b → W p l e R s m args below meth c H locs cells slots Q (F0 m (pc + 4) ls rest)) : W p l e R s m args below meth c H locs cells slots Q (F0 m pc ls (.long (lN b) :: .long (lN a) :: rest)) := by
  have ha := hn_b63 ha
  have hb9 := hn_b63 hb9
  refine W.lcmp hx hb d1 ?_
  refine lv_if_ge hx hb d2 ht (fun h => kt ?_) (fun h => kf ?_)
  · exact (pk_lLE hb9 ha).mp ((lg_cmp_ge _ _).mp h)
  · exact Nat.lt_of_not_le fun z => h ((lg_cmp_ge _ _).mpr ((pk_lLE hb9 ha).mpr z))
theorem hn_lle (hx : p.tables.exec = Jvm.exec) (hb : c.code = cc) {a b : Nat} (ha : a < 9223372036854775808) (hb9 : b < 9223372036854775808) {off : Int} {tgt : Nat} (d1 : decode cc pc = .ok (.lcmp, 1)) (d2 : decode cc (pc + 1) = .ok (.ifCond .le off, 3)) (ht : ((pc + 1 : Nat) : Int) + off = (tgt : Int)) (kt : a ≤ b → W p l e R s m args below meth c H locs cells slots Q (F0 m tgt ls rest)) (kf : b < a → W p l e R s m args below meth c H locs cells slots Q (F0 m (pc + 4) ls rest)) : W p l e R s m args below meth c H locs cells slots Q (F0 m pc ls (.long (lN b) :: .long (lN a) :: rest)) := by
  have ha := hn_b63 ha
  have hb9 := hn_b63 hb9
  refine W.lcmp hx hb d1 ?_
  refine lv_if_le hx hb d2 ht (fun h => kt ?_) (fun h => kf ?_)
  · exact (pk_lLE ha hb9).mp ((lg_cmp_le _ _).mp h)
  · exact Nat.lt_of_not_le fun z => h ((lg_cmp_le _ _).mpr ((pk_lLE ha hb9).mpr z))
theorem hn_lgt (hx : p.tables.exec = Jvm.exec) (hb : c.code = cc) {a b : Nat} (ha : a < 9223372036854775808) (hb9 : b < 9223372036854775808) {off : Int} {tgt : Nat} (d1 : decode cc pc = .ok (.lcmp, 1)) (d2 : decode cc (pc + 1) = .ok (.ifCond .gt off, 3)) (ht : ((pc + 1 : Nat) : Int) + off = (tgt : Int)) (kt : b < a → W p l e R s m args below meth c H locs cells slots Q (F0 m tgt ls rest)) (kf : a ≤ b → W p l e R s m args below meth c H locs cells slots Q (F0 m (pc + 4) ls rest)) : W p l e R s m args below meth c H locs cells slots Q (F0 m pc ls (.long (lN b) :: .long (lN a) :: rest)) := by
  have ha := hn_b63 ha
  have hb9 := hn_b63 hb9
  refine W.lcmp hx hb d1 ?_
  refine lv_if_gt hx hb d2 ht (fun h => kt ?_) (fun h => kf ?_)
  · exact (pk_lLT hb9 ha).mp ((lg_cmp_gt _ _).mp h)
  · exact Nat.le_of_not_lt fun z => h ((lg_cmp_gt _ _).mpr ((pk_lLT hb9 ha).mpr z))
theorem hn_leq (hx : p.tables.exec = Jvm.exec) (hb : c.code = cc) {a b : Nat} (ha : a < 9223372036854775808) (hb9 : b < 9223372036854775808) {off : Int} {tgt : Nat} (d1 : decode cc pc = .ok (.lcmp, 1)) (d2 : decode cc (pc + 1) = .ok (.ifCond .eq off, 3)) (ht : ((pc + 1 : Nat) : Int) + off = (tgt : Int)) (kt : a = b → W p l e R s m args below meth c H locs cells slots Q (F0 m tgt ls rest)) (kf : a ≠ b → W p l e R s m args below meth c H locs cells slots Q (F0 m (pc + 4) ls rest)) : W p l e R s m args below meth c H locs cells slots Q (F0 m pc ls (.long (lN b) :: .long (lN a) :: rest)) := by
  have ha := hn_b63 ha
  have hb9 := hn_b63 hb9
  refine W.lcmp hx hb d1 ?_
  refine lv_if_eq hx hb d2 ht (fun h => kt ?_) (fun h => kf ?_)
  · exact (pk_lEQ ha hb9).mp ((lg_cmp_eq _ _).mp h)
  · exact fun z => h ((lg_cmp_eq _ _).mpr ((pk_lEQ ha hb9).mpr z))
theorem hn_lne (hx : p.tables.exec = Jvm.exec) (hb : c.code = cc) {a b : Nat} (ha : a < 9223372036854775808) (hb9 : b < 9223372036854775808) {off : Int} {tgt : Nat} (d1 : decode cc pc = .ok (.lcmp, 1)) (d2 : decode cc (pc + 1) = .ok (.ifCond .ne off, 3)) (ht : ((pc + 1 : Nat) : Int) + off = (tgt : Int)) (kt : a ≠ b → W p l e R s m args below meth c H locs cells slots Q (F0 m tgt ls rest)) (kf : a = b → W p l e R s m args below meth c H locs cells slots Q (F0 m (pc + 4) ls rest)) : W p l e R s m args below meth c H locs cells slots Q (F0 m pc ls (.long (lN b) :: .long (lN a) :: rest)) := by
  have ha := hn_b63 ha
  have hb9 := hn_b63 hb9
  refine W.lcmp hx hb d1 ?_
  refine lv_if_ne hx hb d2 ht (fun h => kt ?_) (fun h => kf ?_)
  · exact fun z => h ((lg_cmp_eq _ _).mpr ((pk_lEQ ha hb9).mpr z))
  · exact (pk_lEQ ha hb9).mp ((lg_cmp_eq _ _).mp h)
theorem hn_ilt (hx : p.tables.exec = Jvm.exec) (hb : c.code = cc) {a b : Nat} (ha : a < 2147483648) (hb9 : b < 2147483648) {off : Int} {tgt : Nat} (d : decode cc pc = .ok (.if_icmp .lt off, 3)) (ht : (pc : Int) + off = (tgt : Int)) (kt : a < b → W p l e R s m args below meth c H locs cells slots Q (F0 m tgt ls rest)) (kf : b ≤ a → W p l e R s m args below meth c H locs cells slots Q (F0 m (pc + 3) ls rest)) : W p l e R s m args below meth c H locs cells slots Q (F0 m pc ls (.int (nI b) :: .int (nI a) :: rest)) := by
  have ha := hn_b31 ha
  have hb9 := hn_b31 hb9
  refine lv_icmp_lt hx hb d ht (fun h => kt ?_) (fun h => kf ?_)
  · exact (nI_ltI ha hb9).mp h
  · exact Nat.le_of_not_lt fun z => h ((nI_ltI ha hb9).mpr z)
theorem hn_ige (hx : p.tables.exec = Jvm.exec) (hb : c.code = cc) {a b : Nat} (ha : a < 2147483648) (hb9 : b < 2147483648) {off : Int} {tgt : Nat} (d : decode cc pc = .ok (.if_icmp .ge off, 3)) (ht : (pc : Int) + off = (tgt : Int)) (kt : b ≤ a → W p l e R s m args below meth c H locs cells slots Q (F0 m tgt ls rest)) (kf : a < b → W p l e R s m args below meth c H locs cells slots Q (F0 m (pc + 3) ls rest)) : W p l e R s m args below meth c H locs cells slots Q (F0 m pc ls (.int (nI b) :: .int (nI a) :: rest)) := by
  have ha := hn_b31 ha
  have hb9 := hn_b31 hb9
  refine lv_icmp_ge hx hb d ht (fun h => kt ?_) (fun h => kf ?_)
  · exact (nI_leI hb9 ha).mp h
  · exact Nat.lt_of_not_le fun z => h ((nI_leI hb9 ha).mpr z)
theorem hn_ile (hx : p.tables.exec = Jvm.exec) (hb : c.code = cc) {a b : Nat} (ha : a < 2147483648) (hb9 : b < 2147483648) {off : Int} {tgt : Nat} (d : decode cc pc = .ok (.if_icmp .le off, 3)) (ht : (pc : Int) + off = (tgt : Int)) (kt : a ≤ b → W p l e R s m args below meth c H locs cells slots Q (F0 m tgt ls rest)) (kf : b < a → W p l e R s m args below meth c H locs cells slots Q (F0 m (pc + 3) ls rest)) : W p l e R s m args below meth c H locs cells slots Q (F0 m pc ls (.int (nI b) :: .int (nI a) :: rest)) := by
  have ha := hn_b31 ha
  have hb9 := hn_b31 hb9
  refine lv_icmp_le hx hb d ht (fun h => kt ?_) (fun h => kf ?_)
  · exact (nI_leI ha hb9).mp h
  · exact Nat.lt_of_not_le fun z => h ((nI_leI ha hb9).mpr z)
theorem hn_igt (hx : p.tables.exec = Jvm.exec) (hb : c.code = cc) {a b : Nat} (ha : a < 2147483648) (hb9 : b < 2147483648) {off : Int} {tgt : Nat} (d : decode cc pc = .ok (.if_icmp .gt off, 3)) (ht : (pc : Int) + off = (tgt : Int)) (kt : b < a → W p l e R s m args below meth c H locs cells slots Q (F0 m tgt ls rest)) (kf : a ≤ b → W p l e R s m args below meth c H locs cells slots Q (F0 m (pc + 3) ls rest)) : W p l e R s m args below meth c H locs cells slots Q (F0 m pc ls (.int (nI b) :: .int (nI a) :: rest)) := by
  have ha := hn_b31 ha
  have hb9 := hn_b31 hb9
  refine lv_icmp_gt hx hb d ht (fun h => kt ?_) (fun h => kf ?_)
  · exact (nI_ltI hb9 ha).mp h
  · exact Nat.le_of_not_lt fun z => h ((nI_ltI hb9 ha).mpr z)
theorem hn_ieq (hx : p.tables.exec = Jvm.exec) (hb : c.code = cc) {a b : Nat} (ha : a < 2147483648) (hb9 : b < 2147483648) {off : Int} {tgt : Nat} (d : decode cc pc = .ok (.if_icmp .eq off, 3)) (ht : (pc : Int) + off = (tgt : Int)) (kt : a = b → W p l e R s m args below meth c H locs cells slots Q (F0 m tgt ls rest)) (kf : a ≠ b → W p l e R s m args below meth c H locs cells slots Q (F0 m (pc + 3) ls rest)) : W p l e R s m args below meth c H locs cells slots Q (F0 m pc ls (.int (nI b) :: .int (nI a) :: rest)) := by
  have ha := hn_b31 ha
  have hb9 := hn_b31 hb9
  refine lv_icmp_eq hx hb d ht (fun h => kt ?_) (fun h => kf ?_)
  · exact (nI_eq ha hb9).mp h
  · exact fun z => h ((nI_eq ha hb9).mpr z)
theorem hn_ine (hx : p.tables.exec = Jvm.exec) (hb : c.code = cc) {a b : Nat} (ha : a < 2147483648) (hb9 : b < 2147483648) {off : Int} {tgt : Nat} (d : decode cc pc = .ok (.if_icmp .ne off, 3)) (ht : (pc : Int) + off = (tgt : Int)) (kt : a ≠ b → W p l e R s m args below meth c H locs cells slots Q (F0 m tgt ls rest)) (kf : a = b → W p l e R s m args below meth c H locs cells slots Q (F0 m (pc + 3) ls rest)) : W p l e R s m args below meth c H locs cells slots Q (F0 m pc ls (.int (nI b) :: .int (nI a) :: rest)) := by
  have ha := hn_b31 ha
  have hb9 := hn_b31 hb9
  refine lv_icmp_ne hx hb d ht (fun h => kt ?_) (fun h => kf ?_)
  · exact fun z => h ((nI_eq ha hb9).mpr z)
  · exact (nI_eq ha hb9).mp h
theorem hn_32 {n : Nat} (h : n < 4294967296) : nI n = 0 ↔ n = 0 := by
  constructor
  · intro q
    have h1 := pw_nb n
    rw [q] at h1
    have h2 : (0 : Int32).toBitVec.toNat = 0 := by decide +kernel
    rw [h2] at h1
    omega
  · intro q; subst q; exact nI_0
theorem hn_zeq (hx : p.tables.exec = Jvm.exec) (hb : c.code = cc) {n : Nat} (hn : n < 4294967296) {off : Int} {tgt : Nat} (d : decode cc pc = .ok (.ifCond .eq off, 3)) (ht : (pc : Int) + off = (tgt : Int)) (kt : n = 0 → W p l e R s m args below meth c H locs cells slots Q (F0 m tgt ls rest)) (kf : n ≠ 0 → W p l e R s m args below meth c H locs cells slots Q (F0 m (pc + 3) ls rest)) : W p l e R s m args below meth c H locs cells slots Q (F0 m pc ls (.int (nI n) :: rest)) := by
  exact lv_if_eq hx hb d ht (fun h => kt ((hn_32 hn).mp h)) (fun h => kf (fun z => h ((hn_32 hn).mpr z)))
theorem hn_zne (hx : p.tables.exec = Jvm.exec) (hb : c.code = cc) {n : Nat} (hn : n < 4294967296) {off : Int} {tgt : Nat} (d : decode cc pc = .ok (.ifCond .ne off, 3)) (ht : (pc : Int) + off = (tgt : Int)) (kt : n ≠ 0 → W p l e R s m args below meth c H locs cells slots Q (F0 m tgt ls rest)) (kf : n = 0 → W p l e R s m args below meth c H locs cells slots Q (F0 m (pc + 3) ls rest)) : W p l e R s m args below meth c H locs cells slots Q (F0 m pc ls (.int (nI n) :: rest)) := by
  exact lv_if_ne hx hb d ht (fun h => kt (fun z => h ((hn_32 hn).mpr z))) (fun h => kf ((hn_32 hn).mp h))
theorem hn_tf {P : Prop} [Decidable P] : (if P then nI 1 else nI 0) = 0 ↔ ¬ P := by
  by_cases h : P
  · rw [if_pos h]; exact ⟨fun q => absurd q (by decide +kernel), fun q => absurd h q⟩
  · rw [if_neg h]; exact ⟨fun _ => h, fun _ => nI_0⟩
theorem hn_pne {P : Prop} [Decidable P] (hx : p.tables.exec = Jvm.exec) (hb : c.code = cc) {off : Int} {tgt : Nat} (d : decode cc pc = .ok (.ifCond .ne off, 3)) (ht : (pc : Int) + off = (tgt : Int)) (kt : P → W p l e R s m args below meth c H locs cells slots Q (F0 m tgt ls rest)) (kf : ¬ P → W p l e R s m args below meth c H locs cells slots Q (F0 m (pc + 3) ls rest)) : W p l e R s m args below meth c H locs cells slots Q (F0 m pc ls (.int (if P then nI 1 else nI 0) :: rest)) :=
  lv_if_ne hx hb d ht (fun h => kt (Decidable.of_not_not fun z => h (hn_tf.mpr z))) (fun h => kf (hn_tf.mp h))
theorem hn_peq {P : Prop} [Decidable P] (hx : p.tables.exec = Jvm.exec) (hb : c.code = cc) {off : Int} {tgt : Nat} (d : decode cc pc = .ok (.ifCond .eq off, 3)) (ht : (pc : Int) + off = (tgt : Int)) (kt : ¬ P → W p l e R s m args below meth c H locs cells slots Q (F0 m tgt ls rest)) (kf : P → W p l e R s m args below meth c H locs cells slots Q (F0 m (pc + 3) ls rest)) : W p l e R s m args below meth c H locs cells slots Q (F0 m pc ls (.int (if P then nI 1 else nI 0) :: rest)) :=
  lv_if_eq hx hb d ht (fun h => kt (hn_tf.mp h)) (fun h => kf (Decidable.of_not_not fun z => h (hn_tf.mpr z)))
section Arr
variable {A : Nat → Prop} {D : va_G} {tys : List (ClassId × FieldType)} {w : va_W} {H0 : Heap} {a : Nat}
theorem hn_lald (hx : p.tables.exec = Jvm.exec) (hb : c.code = cc) (hK : va_K D vwCl tys s) (hP : va_P D vwCl w H) (q0 t0 : Nat) {cA : ClassId} {n : Nat} {f : Nat → Int64} (ha : w[q0]? = some (a, .inl (cA, n, .inr (.inl f)))) (ht : tys[t0]? = some (cA, .long)) {k : Nat} (hk : k < n) (hn : n < 2147483648) (hdg : decode cc pc = .ok (.laload, 1)) (kk : W p l e R s m args below meth c H locs cells slots Q (F0 m (pc + 1) ls (.long (f k) :: rest))) : W p l e R s m args below meth c H locs cells slots Q (F0 m pc ls (.int (nI k) :: .ref a :: rest)) := by
  refine va_lald hx hb hK hP q0 t0 ha ht (vp_in_nI hk hn) hdg ?_
  rw [nI_clamp (Nat.lt_trans hk hn)]
  exact kk
theorem hn_bald (hx : p.tables.exec = Jvm.exec) (hb : c.code = cc) (hK : va_K D vwCl tys s) (hP : va_P D vwCl w H) (q0 t0 : Nat) {cA : ClassId} {n : Nat} {f : Nat → Int32} (ha : w[q0]? = some (a, .inl (cA, n, .inl f))) (ht : tys[t0]? = some (cA, .byte)) {k : Nat} (hk : k < n) (hn : n < 2147483648) (hdg : decode cc pc = .ok (.baload, 1)) (kk : W p l e R s m args below meth c H locs cells slots Q (F0 m (pc + 1) ls (.int (f k) :: rest))) : W p l e R s m args below meth c H locs cells slots Q (F0 m pc ls (.int (nI k) :: .ref a :: rest)) := by
  refine va_bald hx hb hK hP q0 t0 ha ht (vp_in_nI hk hn) hdg ?_
  rw [nI_clamp (Nat.lt_trans hk hn)]
  exact kk
theorem hn_last (hx : p.tables.exec = Jvm.exec) (hb : c.code = cc) (hK : va_K D vwCl tys s) (hw : hx_w D A H0 w H locs) (q0 t0 : Nat) {cA : ClassId} {n : Nat} {f : Nat → Int64} (ha : w[q0]? = some (a, .inl (cA, n, .inr (.inl f)))) (ht : tys[t0]? = some (cA, .long)) {k : Nat} {x : Int64} (hk : k < n) (hn : n < 2147483648) (hdg : decode cc pc = .ok (.lastore, 1)) (kk : ∀ (H1 : Heap) (locs1 : List Loc), hx_w D A H0 (w.set q0 (a, .inl (cA, n, .inr (.inl (vp_updL f k x))))) H1 locs1 → W p l e R s m args below meth c H1 locs1 cells slots Q (F0 m (pc + 1) ls rest)) : W p l e R s m args below meth c H locs cells slots Q (F0 m pc ls (.long x :: .int (nI k) :: .ref a :: rest)) := by
  obtain ⟨hP, hD, hS⟩ := hw
  refine va_last hx hb hK hP hD hS q0 t0 ha ht (vp_in_nI hk hn) hdg (fun H1 locs1 g1 g2 g3 => ?_)
  rw [nI_clamp (Nat.lt_trans hk hn)] at g1 g2
  exact kk H1 locs1 ⟨g1, g2, g3⟩
theorem hn_bast (hx : p.tables.exec = Jvm.exec) (hb : c.code = cc) (hK : va_K D vwCl tys s) (hw : hx_w D A H0 w H locs) (q0 t0 : Nat) {cA : ClassId} {n : Nat} {f : Nat → Int32} (ha : w[q0]? = some (a, .inl (cA, n, .inl f))) (ht : tys[t0]? = some (cA, .byte)) {k : Nat} {x : Int32} (hk : k < n) (hn : n < 2147483648) (hdg : decode cc pc = .ok (.bastore, 1)) (kk : ∀ (H1 : Heap) (locs1 : List Loc), hx_w D A H0 (w.set q0 (a, .inl (cA, n, .inl (upd f k (vp_nar .byte x))))) H1 locs1 → W p l e R s m args below meth c H1 locs1 cells slots Q (F0 m (pc + 1) ls rest)) : W p l e R s m args below meth c H locs cells slots Q (F0 m pc ls (.int x :: .int (nI k) :: .ref a :: rest)) := by
  obtain ⟨hP, hD, hS⟩ := hw
  refine va_bast hx hb hK hP hD hS q0 t0 ha ht (vp_in_nI hk hn) hdg (fun H1 locs1 g1 g2 g3 => ?_)
  rw [nI_clamp (Nat.lt_trans hk hn)] at g1 g2
  exact kk H1 locs1 ⟨g1, g2, g3⟩
end Arr
end HN
end
section
/-! the words of the throws, once -/
theorem tb_S0 : ∀ w ∈ (vx_atS RX0 27 hx_IO ["java/lang/RuntimeException", "java/lang/Exception"]).filter (fun w => !goodWord w), w ∈ hx_bad := by decide +kernel
theorem to_S0 : ∀ w ∈ Cond.classLink RX0 23 hx_IO :: Cond.initialized hx_IO :: vx_atS RX0 27 hx_IO ["java/lang/RuntimeException", "java/lang/Exception"], vx_ot w = true := by decide +kernel
theorem tb_S1 : ∀ w ∈ (vx_atS RX1 111 hx_IO ["java/lang/RuntimeException", "java/lang/Exception"]).filter (fun w => !goodWord w), w ∈ hx_bad := by decide +kernel
theorem to_S1 : ∀ w ∈ Cond.classLink RX1 107 hx_IO :: Cond.initialized hx_IO :: vx_atS RX1 111 hx_IO ["java/lang/RuntimeException", "java/lang/Exception"], vx_ot w = true := by decide +kernel
theorem tb_M : ∀ w ∈ (vx_at0 RX2 34 hx_IO ["java/lang/RuntimeException", "java/lang/Exception"]).filter (fun w => !goodWord w), w ∈ hx_bad := by decide +kernel
theorem to_M : ∀ w ∈ Cond.classLink RX2 32 hx_IO :: Cond.initialized hx_IO :: vx_at0 RX2 34 hx_IO ["java/lang/RuntimeException", "java/lang/Exception"], vx_ot w = true := by decide +kernel
end
section
/-! numbers without sign -/
theorem hp_nt {n : Nat} (h : n < 4294967296) : (nI n).toInt = if n < 2147483648 then (n : Int) else (n : Int) - 4294967296 := by
  have c := BitVec.toInt_eq_toNat_cond (nI n).toBitVec
  rw [pw_nb, Nat.mod_eq_of_lt (show n < 2 ^ 32 from h)] at c
  show (nI n).toBitVec.toInt = _
  rw [c]
  split <;> split <;> omega
theorem hp_lt {m : Nat} (h : m < 18446744073709551616) : (lN m).toInt = if m < 9223372036854775808 then (m : Int) else (m : Int) - 18446744073709551616 := by
  have c := BitVec.toInt_eq_toNat_cond (lN m).toBitVec
  rw [wb_tn (show m < 2 ^ 64 from h)] at c
  show (lN m).toBitVec.toInt = _
  rw [c]
  split <;> split <;> omega
theorem hp_sx {n : Nat} (h : n < 4294967296) : (nI n).toInt64 = if n < 2147483648 then lN n else lN (n + 18446744069414584320) := by
  apply Int64.toInt_inj.mp
  rw [Int32.toInt_toInt64, hp_nt h]
  by_cases h1 : n < 2147483648
  · rw [if_pos h1, if_pos h1, hp_lt (by omega), if_pos (by omega)]
  · rw [if_neg h1, if_neg h1, hp_lt (by omega), if_neg (by omega)]
    omega
theorem hp_uns {n : Nat} (h : n < 4294967296) : (nI n).toInt64 &&& lN 4294967295 = lN n := by
  rw [hp_sx h]
  have e : (4294967295 : Nat) = 2 ^ 32 - 1 := rfl
  by_cases h1 : n < 2147483648
  · rw [if_pos h1, e, wb_mask (by omega) (by decide), Nat.mod_eq_of_lt (by omega)]
  · rw [if_neg h1, e, wb_mask (by omega) (by decide), show (n + 18446744069414584320) % 2 ^ 32 = n from by omega]
/-- the low byte of a number put -/
theorem hp_low {n : Nat} (h : n < 4294967296) : (nI n).toInt64.toBitVec.toNat % 256 = n % 256 := by
  rw [hp_sx h]
  by_cases h1 : n < 2147483648
  · rw [if_pos h1, wb_tn (by omega)]
  · rw [if_neg h1, wb_tn (by omega)]
    omega
theorem hp_and8 {m : Nat} (h : m < 9223372036854775808) : lN m &&& (-8) = lN (m / 8 * 8) := by
  rw [show (-8 : Int64) = lN (2 ^ 3 * (2 ^ 61 - 1)) from by decide +kernel, wb_and (show m < 2 ^ 64 by omega) (by decide)]
  congr 1
  apply Nat.eq_of_testBit_eq
  intro i
  rw [Nat.testBit_and, Nat.testBit_two_pow_mul, Nat.testBit_two_pow_sub_one, show m / 8 * 8 = 2 ^ 3 * (m / 2 ^ 3) from by omega, Nat.testBit_two_pow_mul, Nat.testBit_div_two_pow]
  by_cases h3 : 3 ≤ i
  · have e1 : i - 3 + 3 = i := by omega
    have e2 : 3 + (i - 3) = i := by omega
    by_cases h64 : i - 3 < 61
    · simp [h3, h64, e1, e2]
    · have h5 : m.testBit i = false := Nat.testBit_lt_two_pow (Nat.lt_of_lt_of_le (show m < 2 ^ 63 from h) (Nat.pow_le_pow_right (by decide) (by omega)))
      simp [h3, h64, h5, e1, e2]
  · simp [h3]
theorem hp_max {m : Nat} (h : m < 9223372036854775808) : (if lN m < lN 8 then lN 8 else lN m) = lN (if m < 8 then 8 else m) := by
  by_cases h1 : m < 8
  · rw [if_pos h1, if_pos ((pk_lLT (show m < 2 ^ 63 from h) (by decide)).mpr h1)]
  · rw [if_neg h1, if_neg (fun z => h1 ((pk_lLT (show m < 2 ^ 63 from h) (by decide)).mp z))]
theorem hp_up (n : Nat) : (if (n + 7) / 8 * 8 < 8 then 8 else (n + 7) / 8 * 8) = ph_up n := by
  unfold ph_up
  split <;> split <;> omega
/-- the byte that is stored: its number mod 256 -/
theorem hp_sb (m : ph_M) (a v v' : Nat) (h : v % 256 = v' % 256) : ph_sb m a v = ph_sb m a v' := by
  funext j
  unfold ph_sb
  by_cases hj : j = a
  · rw [if_pos hj, if_pos hj]
    apply BitVec.eq_of_toNat_eq
    rw [BitVec.toNat_ofNat, BitVec.toNat_ofNat]
    exact h
  · rw [if_neg hj, if_neg hj]
theorem ph_wh_t {m : ph_M} {a v k : Nat} (h : (ph_wh m a v k).1 = true) : ph_i4 a ∧ ph_i4 (a + 4) ∧ (ph_wh m a v k).2 = ph_sn (ph_sn m a v) (a + 4) k := by
  unfold ph_wh at h ⊢
  by_cases h1 : ph_i4 a
  · rw [if_pos h1] at h ⊢
    by_cases h2 : ph_i4 (a + 4)
    · rw [if_pos h2]; exact ⟨h1, h2, rfl⟩
    · rw [if_neg h2] at h; cases h
  · rw [if_neg h1] at h; cases h
theorem ph_wh_f {m : ph_M} {a v k : Nat} (h : ¬ (ph_wh m a v k).1 = true) : (¬ ph_i4 a ∧ (ph_wh m a v k).2 = m) ∨ (ph_i4 a ∧ ¬ ph_i4 (a + 4) ∧ (ph_wh m a v k).2 = ph_sn m a v) := by
  unfold ph_wh at h ⊢
  by_cases h1 : ph_i4 a
  · rw [if_pos h1] at h ⊢
    by_cases h2 : ph_i4 (a + 4)
    · rw [if_pos h2] at h; exact absurd rfl h
    · rw [if_neg h2]; exact Or.inr ⟨h1, h2, rfl⟩
  · rw [if_neg h1]; exact Or.inl ⟨h1, rfl⟩
theorem ph_wh_of {m : ph_M} {a v k : Nat} (h1 : ph_i4 a) (h2 : ph_i4 (a + 4)) : ph_wh m a v k = (true, ph_sn (ph_sn m a v) (a + 4) k) := by
  unfold ph_wh
  rw [if_pos h1, if_pos h2]
theorem hp_neg {t x : Nat} (h : t < 4096) (hx : x < 9223372036854775808) : ¬ lN x ≤ lN t - lN 4096 := by
  have e : lN t - lN 4096 = lN (t + 18446744073709547520) := by
    have e1 : lN t = lN (t + 18446744073709547520) + lN 4096 := by
      rw [lN_add, wb_mod (t + 18446744073709547520 + 4096), show (t + 18446744073709547520 + 4096) % 2 ^ 64 = t from by omega]
    rw [e1, Int64.add_sub_cancel]
  rw [e, Int64.le_iff_toInt_le, hp_lt (by omega), hp_lt (by omega), if_pos hx, if_neg (by omega)]
  omega
theorem hp_big {q : Nat} (h1 : 9223372036854775808 ≤ q) (h2 : q < 18446744073709551616) : lg_cmp (lN q) (lN 0) < 0 := by
  rw [lg_cmp_lt, Int64.lt_iff_toInt_lt, hp_lt h2, hp_lt (by decide), if_neg (by omega), if_pos (by decide)]
  omega
theorem hp_ineg {t : Nat} (h1 : 2147483648 ≤ t) (h2 : t < 4294967296) : nI t < nI 1024 := by
  rw [Int32.lt_iff_toInt_lt, hp_nt h2, hp_nt (by decide), if_neg (by omega), if_pos (by decide)]
  omega
def ph_stk (u : ph_H) (t : Nat) : Bool × ph_H := if t < 1024 ∨ 65536 < t ∨ t < u.2.1 then (false, u) else (true, (u.1, u.2.1, t))
end
section
/-! HeapRow.Memory: the bytes of the class's side -/
/-- the class's cells: the object, its memory, the words -/
abbrev hc_W (cJ : ClassId) (h0 h1 h2 : Nat) (u : ph_H) : va_W := [(h0, .inr (1, [.ref h1, .long (lN u.2.1), .long (lN u.2.2)])), (h1, .inr (0, [.ref h2])), (h2, .inl (cJ, 8064, .inr (.inl (pw_w u.1))))]
theorem hc_adr {cJ : ClassId} {h0 h1 h2 : Nat} {u u2 : ph_H} : (hc_W cJ h0 h1 h2 u2).map (fun q => q.1) = (hc_W cJ h0 h1 h2 u).map (fun q => q.1) := by show [h0, h1, h2] = [h0, h1, h2]; rfl
set_option maxHeartbeats 4000000 in
set_option maxRecDepth 100000 in
theorem c_has (l : Launch) (hst : l.stackTraces = false) (D : va_G) (tys : List (ClassId × FieldType)) (cJ : ClassId) (ht : tys[0]? = some (cJ, .long)) (h0 h1 h2 : Nat) (u : ph_H) (a : Nat) (ha : a < 9223372036854775808) : hx_R l D tys yX0_has wsX0_has 0 0 [.ref h1, .long (lN a)] (hc_W cJ h0 h1 h2 u) (hc_W cJ h0 h1 h2 u) (some (.int (if ph_in a then nI 1 else nI 0))) := by
  refine hx_R.ofW (cc := cX0_has) (maxL := 3) (ret := (some .boolean)) (by decide) rfl (Nat.le_of_ble_eq_true rfl) ?_
  intro p e s m below meth c A ls hr S hw hl
  have S : hx_S p l s m _ meth c cX0_has 3 wsX0_has RX0 A D tys := S
  obtain ⟨⟨hx, hb, hml, hown, hts⟩, hK, hA, hE, hlk⟩ := id S
  have hl : lv_has ls 3 [(0, .ref h1), (1, .long (lN a))] := hl
  refine lv_lload_n hx hb dX0_has_0 rfl (lv_at hl 1 rfl) ?_
  refine lv_ldc2 (v := lN 1024) hx hb hown (hts (.constantLong RX0 15 (lN 1024)) (by decide +kernel)) dX0_has_1 ?_
  refine hn_llt (a := a) (b := 1024) (tgt := 20) hx hb (by omega) (by omega) dX0_has_4 dX0_has_5 (by decide) (fun hc => ?_) (fun hc => ?_)
  · refine lv_iconst (v := nI 0) hx hb dX0_has_20 (by decide +kernel) ?_
    rw [if_neg (show ¬ ph_in a from by omega)]
    exact hx_zret S hr rfl hw dX0_has_21
  · refine lv_lload_n hx hb dX0_has_8 rfl (lv_at hl 1 rfl) ?_
    refine lv_ldc2 (v := lN 65536) hx hb hown (hts (.constantLong RX0 17 (lN 65536)) (by decide +kernel)) dX0_has_9 ?_
    refine hn_lge (a := a) (b := 65536) (tgt := 20) hx hb (by omega) (by omega) dX0_has_12 dX0_has_13 (by decide) (fun hc2 => ?_) (fun hc2 => ?_)
    · refine lv_iconst (v := nI 0) hx hb dX0_has_20 (by decide +kernel) ?_
      rw [if_neg (show ¬ ph_in a from by omega)]
      exact hx_zret S hr rfl hw dX0_has_21
    · refine lv_iconst (v := nI 1) hx hb dX0_has_16 (by decide +kernel) ?_
      refine lv_goto (tgt := 21) hx hb dX0_has_17 (by decide) ?_
      rw [if_pos (show ph_in a from by omega)]
      exact hx_zret S hr rfl hw dX0_has_21
set_option maxHeartbeats 4000000 in
set_option maxRecDepth 100000 in
theorem c_wordOf (l : Launch) (hst : l.stackTraces = false) (D : va_G) (tys : List (ClassId × FieldType)) (cJ : ClassId) (ht : tys[0]? = some (cJ, .long)) (h0 h1 h2 : Nat) (u : ph_H) (a : Nat) (ha : ph_in a) : hx_R l D tys yX0_wordOf wsX0_wordOf 0 0 [.long (lN a)] (hc_W cJ h0 h1 h2 u) (hc_W cJ h0 h1 h2 u) (some (.int (nI ((a - 1024) / 8)))) := by
  refine hx_R.ofW (cc := cX0_wordOf) (maxL := 2) (ret := (some .int)) (by decide) rfl (Nat.le_of_ble_eq_true rfl) ?_
  intro p e s m below meth c A ls hr S hw hl
  have S : hx_S p l s m _ meth c cX0_wordOf 2 wsX0_wordOf RX0 A D tys := S
  obtain ⟨⟨hx, hb, hml, hown, hts⟩, hK, hA, hE, hlk⟩ := id S
  have hl : lv_has ls 2 [(0, .long (lN a))] := hl
  refine lv_lload_n hx hb dX0_wordOf_0 rfl (lv_at hl 0 rfl) ?_
  refine lv_ldc2 (v := lN 1024) hx hb hown (hts (.constantLong RX0 15 (lN 1024)) (by decide +kernel)) dX0_wordOf_1 ?_
  refine hn_lsub (v := lN (a - 1024)) hx hb dX0_wordOf_4 (lN_sub (by omega)) ?_
  refine lv_l2i (v := nI (a - 1024)) hx hb dX0_wordOf_5 (lN_i _) ?_
  refine lv_bipush (v := nI 8) hx hb dX0_wordOf_6 (by decide +kernel) ?_
  refine hn_idiv (v := nI ((a - 1024) / 8)) hx hb dX0_wordOf_8 (by decide +kernel) (pk_div (by omega) (by decide) (by decide)) ?_
  exact hx_iret S hr hw dX0_wordOf_9
set_option maxHeartbeats 4000000 in
set_option maxRecDepth 100000 in
theorem c_shiftOf (l : Launch) (hst : l.stackTraces = false) (D : va_G) (tys : List (ClassId × FieldType)) (cJ : ClassId) (ht : tys[0]? = some (cJ, .long)) (h0 h1 h2 : Nat) (u : ph_H) (a : Nat) (ha : ph_in a) : hx_R l D tys yX0_shiftOf wsX0_shiftOf 0 0 [.long (lN a)] (hc_W cJ h0 h1 h2 u) (hc_W cJ h0 h1 h2 u) (some (.int (nI ((a - 1024) % 8 * 8)))) := by
  refine hx_R.ofW (cc := cX0_shiftOf) (maxL := 2) (ret := (some .int)) (by decide) rfl (Nat.le_of_ble_eq_true rfl) ?_
  intro p e s m below meth c A ls hr S hw hl
  have S : hx_S p l s m _ meth c cX0_shiftOf 2 wsX0_shiftOf RX0 A D tys := S
  obtain ⟨⟨hx, hb, hml, hown, hts⟩, hK, hA, hE, hlk⟩ := id S
  have hl : lv_has ls 2 [(0, .long (lN a))] := hl
  refine lv_lload_n hx hb dX0_shiftOf_0 rfl (lv_at hl 0 rfl) ?_
  refine lv_ldc2 (v := lN 1024) hx hb hown (hts (.constantLong RX0 15 (lN 1024)) (by decide +kernel)) dX0_shiftOf_1 ?_
  refine hn_lsub (v := lN (a - 1024)) hx hb dX0_shiftOf_4 (lN_sub (by omega)) ?_
  refine lv_l2i (v := nI (a - 1024)) hx hb dX0_shiftOf_5 (lN_i _) ?_
  refine lv_bipush (v := nI 8) hx hb dX0_shiftOf_6 (by decide +kernel) ?_
  refine hn_irem (v := nI ((a - 1024) % 8)) hx hb dX0_shiftOf_8 (by decide +kernel) (pk_rem (by omega) (by decide) (by decide)) ?_
  refine lv_bipush (v := nI 8) hx hb dX0_shiftOf_9 (by decide +kernel) ?_
  refine hn_imul (v := nI (((a - 1024) % 8) * 8)) hx hb dX0_shiftOf_11 (pk_mul _ _) ?_
  exact hx_iret S hr hw dX0_shiftOf_12
set_option maxHeartbeats 4000000 in
set_option maxRecDepth 100000 in
theorem c_read (l : Launch) (hst : l.stackTraces = false) (D : va_G) (tys : List (ClassId × FieldType)) (cJ : ClassId) (ht : tys[0]? = some (cJ, .long)) (h0 h1 h2 : Nat) (u : ph_H) (a : Nat) (ha : ph_in a) : hx_R l D tys yX0_read wsX0_read 6 82 [.ref h1, .long (lN a)] (hc_W cJ h0 h1 h2 u) (hc_W cJ h0 h1 h2 u) (some (.int (nI (ph_b u.1 a)))) := by
  refine hx_R.ofW (cc := cX0_read) (maxL := 3) (ret := (some .int)) (by decide) rfl (Nat.le_of_ble_eq_true rfl) ?_
  intro p e s m below meth c A ls hr S hw hl
  have S : hx_S p l s m _ meth c cX0_read 3 wsX0_read RX0 A D tys := S
  obtain ⟨⟨hx, hb, hml, hown, hts⟩, hK, hA, hE, hlk⟩ := id S
  have hi0 : ∀ w ∈ wsX00, w ∈ wsX0_read := by decide +kernel
  have hl : lv_has ls 3 [(0, .ref h1), (1, .long (lN a))] := hl
  refine lv_aload_n hx hb dX0_read_0 rfl (lv_at hl 0 rfl) ?_
  refine lv_lload_n hx hb dX0_read_1 rfl (lv_at hl 1 rfl) ?_
  refine hx_callV (rest := []) (n := 1) S hw (c_has l hst D tys cJ ht h0 h1 h2 u (a) (by omega)) gX0_read_X0_has rfl (by decide +kernel) rfl ⟨Nat.le_of_ble_eq_true rfl, Nat.le_of_ble_eq_true rfl⟩ 1 0 rfl rfl hc_adr hl.1 rfl (Nat.le_of_ble_eq_true rfl) ⟨by decide, by decide⟩ dX0_read_2 (fun H locs hw => ?_)
  refine W.eq (g2 := F0 m 5 ls [.int (if ph_in (a) then nI 1 else nI 0)]) rfl ?_
  refine hn_pne (tgt := 18) hx hb dX0_read_5 (by decide) (fun hc => ?_) (fun hc => ?_)
  · refine lv_aload_n hx hb dX0_read_18 rfl (lv_at hl 0 rfl) ?_
    refine va_get (D := D) (ci := 0) (v := .ref h2) (C := RX0) (T := TX0) (N := 1) hx hb hts hi0 hown hK hw.1 1 rfl rfl 0 (by decide) (hts (.fieldLink RX0 11 "HeapRow$Memory" "words" "[J") (by decide +kernel)) (fun _ h9 => h9) rfl dX0_read_19 ?_
    refine lv_lload_n hx hb dX0_read_22 rfl (lv_at hl 1 rfl) ?_
    refine hx_callS (rest := [.ref h2]) (n := 1) S hw (c_wordOf l hst D tys cJ ht h0 h1 h2 u a ha) gX0_read_X0_wordOf rfl (by decide +kernel) rfl ⟨Nat.le_of_ble_eq_true rfl, Nat.le_of_ble_eq_true rfl⟩ hc_adr hl.1 rfl (Nat.le_of_ble_eq_true rfl) ⟨by decide, by decide⟩ dX0_read_23 (fun H locs hw => ?_)
    refine W.eq (g2 := F0 m 26 ls [.int (nI ((a - 1024) / 8)), .ref h2]) rfl ?_
    refine hn_lald hx hb hK hw.1 2 0 rfl ht (k := (a - 1024) / 8) (by omega) (by decide) dX0_read_26 ?_
    refine lv_lload_n hx hb dX0_read_27 rfl (lv_at hl 1 rfl) ?_
    refine hx_callS (rest := [.long (pw_w u.1 ((a - 1024) / 8))]) (n := 1) S hw (c_shiftOf l hst D tys cJ ht h0 h1 h2 u a ha) gX0_read_X0_shiftOf rfl (by decide +kernel) rfl ⟨Nat.le_of_ble_eq_true rfl, Nat.le_of_ble_eq_true rfl⟩ hc_adr hl.1 rfl (Nat.le_of_ble_eq_true rfl) ⟨by decide, by decide⟩ dX0_read_28 (fun H locs hw => ?_)
    refine W.eq (g2 := F0 m 31 ls [.int (nI ((a - 1024) % 8 * 8)), .long (pw_w u.1 ((a - 1024) / 8))]) rfl ?_
    refine lv_lushr (v := ((pw_w u.1 ((a - 1024) / 8)).toUInt64 >>> ((nI ((a - 1024) % 8 * 8)).toInt64.toUInt64 &&& Int64.toUInt64 63)).toInt64) hx hb dX0_read_31 rfl ?_
    refine lv_l2i (v := (((pw_w u.1 ((a - 1024) / 8)).toUInt64 >>> ((nI ((a - 1024) % 8 * 8)).toInt64.toUInt64 &&& Int64.toUInt64 63)).toInt64).toInt32) hx hb dX0_read_32 rfl ?_
    refine lv_sipush (v := nI 255) hx hb dX0_read_33 (by decide +kernel) ?_
    refine hn_iand (v := nI (ph_b u.1 a)) hx hb dX0_read_36 (pw_read u.1 a ha.1) ?_
    exact hx_iret S hr hw dX0_read_37
  · exact absurd ha hc
set_option maxHeartbeats 4000000 in
set_option maxRecDepth 100000 in
theorem x_read (l : Launch) (hst : l.stackTraces = false) (D : va_G) (tys : List (ClassId × FieldType)) (cJ : ClassId) (ht : tys[0]? = some (cJ, .long)) (h0 h1 h2 : Nat) (u : ph_H) (a : Nat) (hb63 : a < 9223372036854775808) (ha : ¬ ph_in a) : hx_X l D tys yX0_read wsX0_read 6 82 [.ref h1, .long (lN a)] (hc_W cJ h0 h1 h2 u) (hc_W cJ h0 h1 h2 u) := by
  refine hx_X.ofW (cc := cX0_read) (maxL := 3) (ret := (some .int)) (by decide) rfl (Nat.le_of_ble_eq_true rfl) ?_
  intro p e s m below meth c A ls hr S hno hw hl
  have S : hx_S p l s m _ meth c cX0_read 3 wsX0_read RX0 A D tys := S
  obtain ⟨⟨hx, hb, hml, hown, hts⟩, hK, hA, hE, hlk⟩ := id S
  have hi0 : ∀ w ∈ wsX00, w ∈ wsX0_read := by decide +kernel
  have hl : lv_has ls 3 [(0, .ref h1), (1, .long (lN a))] := hl
  refine lv_aload_n hx hb dX0_read_0 rfl (lv_at hl 0 rfl) ?_
  refine lv_lload_n hx hb dX0_read_1 rfl (lv_at hl 1 rfl) ?_
  refine hx_callV (rest := []) (n := 1) S hw (c_has l hst D tys cJ ht h0 h1 h2 u (a) (by omega)) gX0_read_X0_has rfl (by decide +kernel) rfl ⟨Nat.le_of_ble_eq_true rfl, Nat.le_of_ble_eq_true rfl⟩ 1 0 rfl rfl hc_adr hl.1 rfl (Nat.le_of_ble_eq_true rfl) ⟨by decide, by decide⟩ dX0_read_2 (fun H locs hw => ?_)
  refine W.eq (g2 := F0 m 5 ls [.int (if ph_in (a) then nI 1 else nI 0)]) rfl ?_
  refine hn_pne (tgt := 18) hx hb dX0_read_5 (by decide) (fun hc => ?_) (fun hc => ?_)
  · exact absurd hc ha
  · exact hx_new S hst hno hw hE.2.1 (List.mem_of_getElem? (i := 1) rfl) (List.mem_of_getElem? (i := 2) rfl) (fun w h => List.mem_cons_of_mem _ (List.mem_append_right _ h)) tb_S0 to_S0 hl.1 dX0_read_8 dX0_read_11 dX0_read_12 dX0_read_14 dX0_read_17 ⟨by decide, by decide, by decide, by decide⟩
set_option maxHeartbeats 4000000 in
set_option maxRecDepth 100000 in
theorem c_write (l : Launch) (hst : l.stackTraces = false) (D : va_G) (tys : List (ClassId × FieldType)) (cJ : ClassId) (ht : tys[0]? = some (cJ, .long)) (h0 h1 h2 : Nat) (u : ph_H) (a : Nat) (v : Int64) (ha : ph_in a) : hx_R l D tys yX0_write wsX0_write 6 82 [.ref h1, .long (lN a), .long v] (hc_W cJ h0 h1 h2 u) (hc_W cJ h0 h1 h2 (ph_sb u.1 a v.toBitVec.toNat, u.2)) (none) := by
  refine hx_R.ofW (cc := cX0_write) (maxL := 7) (ret := none) (by decide) rfl (Nat.le_of_ble_eq_true rfl) ?_
  intro p e s m below meth c A ls hr S hw hl
  have S : hx_S p l s m _ meth c cX0_write 7 wsX0_write RX0 A D tys := S
  obtain ⟨⟨hx, hb, hml, hown, hts⟩, hK, hA, hE, hlk⟩ := id S
  have hi0 : ∀ w ∈ wsX00, w ∈ wsX0_write := by decide +kernel
  have hl : lv_has ls 7 [(0, .ref h1), (1, .long (lN a)), (3, .long v)] := hl
  refine lv_aload_n hx hb dX0_write_0 rfl (lv_at hl 0 rfl) ?_
  refine lv_lload_n hx hb dX0_write_1 rfl (lv_at hl 1 rfl) ?_
  refine hx_callV (rest := []) (n := 1) S hw (c_has l hst D tys cJ ht h0 h1 h2 u (a) (by omega)) gX0_write_X0_has rfl (by decide +kernel) rfl ⟨Nat.le_of_ble_eq_true rfl, Nat.le_of_ble_eq_true rfl⟩ 1 0 rfl rfl hc_adr hl.1 rfl (Nat.le_of_ble_eq_true rfl) ⟨by decide, by decide⟩ dX0_write_2 (fun H locs hw => ?_)
  refine W.eq (g2 := F0 m 5 ls [.int (if ph_in (a) then nI 1 else nI 0)]) rfl ?_
  refine hn_pne (tgt := 18) hx hb dX0_write_5 (by decide) (fun hc => ?_) (fun hc => ?_)
  · refine lv_lload_n hx hb dX0_write_18 rfl (lv_at hl 1 rfl) ?_
    refine hx_callS (rest := []) (n := 1) S hw (c_wordOf l hst D tys cJ ht h0 h1 h2 u a ha) gX0_write_X0_wordOf rfl (by decide +kernel) rfl ⟨Nat.le_of_ble_eq_true rfl, Nat.le_of_ble_eq_true rfl⟩ hc_adr hl.1 rfl (Nat.le_of_ble_eq_true rfl) ⟨by decide, by decide⟩ dX0_write_19 (fun H locs hw => ?_)
    refine W.eq (g2 := F0 m 22 ls [.int (nI ((a - 1024) / 8))]) rfl ?_
    refine lv_istore (lv' := [(5, .int (nI ((a - 1024) / 8))), (0, .ref h1), (1, .long (lN a)), (3, .long v)]) hx hb dX0_write_22 hl (by decide) rfl (fun ls hl => ?_)
    refine lv_lload_n hx hb dX0_write_24 rfl (lv_at hl 2 rfl) ?_
    refine hx_callS (rest := []) (n := 1) S hw (c_shiftOf l hst D tys cJ ht h0 h1 h2 u a ha) gX0_write_X0_shiftOf rfl (by decide +kernel) rfl ⟨Nat.le_of_ble_eq_true rfl, Nat.le_of_ble_eq_true rfl⟩ hc_adr hl.1 rfl (Nat.le_of_ble_eq_true rfl) ⟨by decide, by decide⟩ dX0_write_25 (fun H locs hw => ?_)
    refine W.eq (g2 := F0 m 28 ls [.int (nI ((a - 1024) % 8 * 8))]) rfl ?_
    refine lv_istore (lv' := [(6, .int (nI ((a - 1024) % 8 * 8))), (5, .int (nI ((a - 1024) / 8))), (0, .ref h1), (1, .long (lN a)), (3, .long v)]) hx hb dX0_write_28 hl (by decide) rfl (fun ls hl => ?_)
    refine lv_aload_n hx hb dX0_write_30 rfl (lv_at hl 2 rfl) ?_
    refine va_get (D := D) (ci := 0) (v := .ref h2) (C := RX0) (T := TX0) (N := 1) hx hb hts hi0 hown hK hw.1 1 rfl rfl 0 (by decide) (hts (.fieldLink RX0 11 "HeapRow$Memory" "words" "[J") (by decide +kernel)) (fun _ h9 => h9) rfl dX0_write_31 ?_
    refine lv_iload hx hb dX0_write_34 (lv_at hl 1 rfl) ?_
    refine lv_aload_n hx hb dX0_write_36 rfl (lv_at hl 2 rfl) ?_
    refine va_get (D := D) (ci := 0) (v := .ref h2) (C := RX0) (T := TX0) (N := 1) hx hb hts hi0 hown hK hw.1 1 rfl rfl 0 (by decide) (hts (.fieldLink RX0 11 "HeapRow$Memory" "words" "[J") (by decide +kernel)) (fun _ h9 => h9) rfl dX0_write_37 ?_
    refine lv_iload hx hb dX0_write_40 (lv_at hl 1 rfl) ?_
    refine hn_lald hx hb hK hw.1 2 0 rfl ht (k := (a - 1024) / 8) (by omega) (by decide) dX0_write_42 ?_
    refine lv_ldc2 (v := 255) hx hb hown (hts (.constantLong RX0 37 255) (by decide +kernel)) dX0_write_43 ?_
    refine lv_iload hx hb dX0_write_46 (lv_at hl 0 rfl) ?_
    refine lv_lshl (v := (255 : Int64) <<< ((nI ((a - 1024) % 8 * 8)).toInt64 &&& 63)) hx hb dX0_write_48 rfl ?_
    refine lv_ldc2 (v := (-1)) hx hb hown (hts (.constantLong RX0 39 (-1)) (by decide +kernel)) dX0_write_49 ?_
    refine hn_lxor (v := ((255 : Int64) <<< ((nI ((a - 1024) % 8 * 8)).toInt64 &&& 63)) ^^^ (-1)) hx hb dX0_write_52 rfl ?_
    refine hn_land (v := (pw_w u.1 ((a - 1024) / 8)) &&& (((255 : Int64) <<< ((nI ((a - 1024) % 8 * 8)).toInt64 &&& 63)) ^^^ (-1))) hx hb dX0_write_53 rfl ?_
    refine lv_lload_n hx hb dX0_write_54 rfl (lv_at hl 4 rfl) ?_
    refine lv_ldc2 (v := 255) hx hb hown (hts (.constantLong RX0 37 255) (by decide +kernel)) dX0_write_55 ?_
    refine hn_land (v := v &&& 255) hx hb dX0_write_58 rfl ?_
    refine lv_iload hx hb dX0_write_59 (lv_at hl 0 rfl) ?_
    refine lv_lshl (v := (v &&& 255) <<< ((nI ((a - 1024) % 8 * 8)).toInt64 &&& 63)) hx hb dX0_write_61 rfl ?_
    refine hn_lor (v := ((pw_w u.1 ((a - 1024) / 8)) &&& (((255 : Int64) <<< ((nI ((a - 1024) % 8 * 8)).toInt64 &&& 63)) ^^^ (-1))) ||| ((v &&& 255) <<< ((nI ((a - 1024) % 8 * 8)).toInt64 &&& 63))) hx hb dX0_write_62 rfl ?_
    refine hn_last hx hb hK hw 2 0 rfl ht (k := (a - 1024) / 8) (by omega) (by decide) dX0_write_63 (fun H locs hw => ?_)
    have hw : hx_w D A s.heap (hc_W cJ h0 h1 h2 (ph_sb u.1 a v.toBitVec.toNat, u.2)) H locs := by
      show hx_w D A s.heap [(h0, .inr (1, [.ref h1, .long (lN u.2.1), .long (lN u.2.2)])), (h1, .inr (0, [.ref h2])), (h2, .inl (cJ, 8064, .inr (.inl (pw_w (ph_sb u.1 a v.toBitVec.toNat)))))] H locs
      rw [← pw_write u.1 a v ha.1]
      exact hw
    exact hx_vret S hr hw dX0_write_64
  · exact absurd ha hc
set_option maxHeartbeats 4000000 in
set_option maxRecDepth 100000 in
theorem x_write (l : Launch) (hst : l.stackTraces = false) (D : va_G) (tys : List (ClassId × FieldType)) (cJ : ClassId) (ht : tys[0]? = some (cJ, .long)) (h0 h1 h2 : Nat) (u : ph_H) (a : Nat) (v : Int64) (hb63 : a < 9223372036854775808) (ha : ¬ ph_in a) : hx_X l D tys yX0_write wsX0_write 6 82 [.ref h1, .long (lN a), .long v] (hc_W cJ h0 h1 h2 u) (hc_W cJ h0 h1 h2 u) := by
  refine hx_X.ofW (cc := cX0_write) (maxL := 7) (ret := none) (by decide) rfl (Nat.le_of_ble_eq_true rfl) ?_
  intro p e s m below meth c A ls hr S hno hw hl
  have S : hx_S p l s m _ meth c cX0_write 7 wsX0_write RX0 A D tys := S
  obtain ⟨⟨hx, hb, hml, hown, hts⟩, hK, hA, hE, hlk⟩ := id S
  have hi0 : ∀ w ∈ wsX00, w ∈ wsX0_write := by decide +kernel
  have hl : lv_has ls 7 [(0, .ref h1), (1, .long (lN a)), (3, .long v)] := hl
  refine lv_aload_n hx hb dX0_write_0 rfl (lv_at hl 0 rfl) ?_
  refine lv_lload_n hx hb dX0_write_1 rfl (lv_at hl 1 rfl) ?_
  refine hx_callV (rest := []) (n := 1) S hw (c_has l hst D tys cJ ht h0 h1 h2 u (a) (by omega)) gX0_write_X0_has rfl (by decide +kernel) rfl ⟨Nat.le_of_ble_eq_true rfl, Nat.le_of_ble_eq_true rfl⟩ 1 0 rfl rfl hc_adr hl.1 rfl (Nat.le_of_ble_eq_true rfl) ⟨by decide, by decide⟩ dX0_write_2 (fun H locs hw => ?_)
  refine W.eq (g2 := F0 m 5 ls [.int (if ph_in (a) then nI 1 else nI 0)]) rfl ?_
  refine hn_pne (tgt := 18) hx hb dX0_write_5 (by decide) (fun hc => ?_) (fun hc => ?_)
  · exact absurd hc ha
  · exact hx_new S hst hno hw hE.2.1 (List.mem_of_getElem? (i := 1) rfl) (List.mem_of_getElem? (i := 2) rfl) (fun w h => List.mem_cons_of_mem _ (List.mem_append_right _ h)) tb_S0 to_S0 hl.1 dX0_write_8 dX0_write_11 dX0_write_12 dX0_write_14 dX0_write_17 ⟨by decide, by decide, by decide, by decide⟩
theorem c_writeN (l : Launch) (hst : l.stackTraces = false) (D : va_G) (tys : List (ClassId × FieldType)) (cJ : ClassId) (ht : tys[0]? = some (cJ, .long)) (h0 h1 h2 : Nat) (u : ph_H) (a n : Nat) (hn : n < 18446744073709551616) (ha : ph_in a) : hx_R l D tys yX0_write wsX0_write 6 82 [.ref h1, .long (lN a), .long (lN n)] (hc_W cJ h0 h1 h2 u) (hc_W cJ h0 h1 h2 (ph_sb u.1 a n, u.2)) none := by
  have h := c_write l hst D tys cJ ht h0 h1 h2 u a (lN n) ha
  rw [wb_tn hn] at h
  exact h
set_option maxHeartbeats 4000000 in
set_option maxRecDepth 100000 in
theorem c_checkNumber (l : Launch) (hst : l.stackTraces = false) (D : va_G) (tys : List (ClassId × FieldType)) (cJ : ClassId) (ht : tys[0]? = some (cJ, .long)) (h0 h1 h2 : Nat) (u : ph_H) (a : Nat) (ha : ph_i4 a) : hx_R l D tys yX0_checkNumber wsX0_checkNumber 6 82 [.ref h1, .long (lN a)] (hc_W cJ h0 h1 h2 u) (hc_W cJ h0 h1 h2 u) (none) := by
  refine hx_R.ofW (cc := cX0_checkNumber) (maxL := 3) (ret := none) (by decide) rfl (Nat.le_of_ble_eq_true rfl) ?_
  intro p e s m below meth c A ls hr S hw hl
  have S : hx_S p l s m _ meth c cX0_checkNumber 3 wsX0_checkNumber RX0 A D tys := S
  obtain ⟨⟨hx, hb, hml, hown, hts⟩, hK, hA, hE, hlk⟩ := id S
  have hl : lv_has ls 3 [(0, .ref h1), (1, .long (lN a))] := hl
  refine lv_aload_n hx hb dX0_checkNumber_0 rfl (lv_at hl 0 rfl) ?_
  refine lv_lload_n hx hb dX0_checkNumber_1 rfl (lv_at hl 1 rfl) ?_
  refine hx_callV (rest := []) (n := 1) S hw (c_has l hst D tys cJ ht h0 h1 h2 u (a) (by omega)) gX0_checkNumber_X0_has rfl (by decide +kernel) rfl ⟨Nat.le_of_ble_eq_true rfl, Nat.le_of_ble_eq_true rfl⟩ 1 0 rfl rfl hc_adr hl.1 rfl (Nat.le_of_ble_eq_true rfl) ⟨by decide, by decide⟩ dX0_checkNumber_2 (fun H locs hw => ?_)
  refine W.eq (g2 := F0 m 5 ls [.int (if ph_in (a) then nI 1 else nI 0)]) rfl ?_
  refine hn_peq (tgt := 20) hx hb dX0_checkNumber_5 (by decide) (fun hc => ?_) (fun hc => ?_)
  · exact absurd (⟨ha.1, by omega⟩ : ph_in a) hc
  · refine lv_aload_n hx hb dX0_checkNumber_8 rfl (lv_at hl 0 rfl) ?_
    refine lv_lload_n hx hb dX0_checkNumber_9 rfl (lv_at hl 1 rfl) ?_
    refine lv_ldc2 (v := lN 3) hx hb hown (hts (.constantLong RX0 52 (lN 3)) (by decide +kernel)) dX0_checkNumber_10 ?_
    refine hn_ladd (v := lN (a + 3)) hx hb dX0_checkNumber_13 (lN_add _ _) ?_
    refine hx_callV (rest := []) (n := 1) S hw (c_has l hst D tys cJ ht h0 h1 h2 u (a + 3) (by omega)) gX0_checkNumber_X0_has rfl (by decide +kernel) rfl ⟨Nat.le_of_ble_eq_true rfl, Nat.le_of_ble_eq_true rfl⟩ 1 0 rfl rfl hc_adr hl.1 rfl (Nat.le_of_ble_eq_true rfl) ⟨by decide, by decide⟩ dX0_checkNumber_14 (fun H locs hw => ?_)
    refine W.eq (g2 := F0 m 17 ls [.int (if ph_in (a + 3) then nI 1 else nI 0)]) rfl ?_
    refine hn_pne (tgt := 30) hx hb dX0_checkNumber_17 (by decide) (fun hc2 => ?_) (fun hc2 => ?_)
    · exact hx_vret S hr hw dX0_checkNumber_30
    · exact absurd (⟨by omega, ha.2⟩ : ph_in (a + 3)) hc2
set_option maxHeartbeats 4000000 in
set_option maxRecDepth 100000 in
theorem x_checkNumber (l : Launch) (hst : l.stackTraces = false) (D : va_G) (tys : List (ClassId × FieldType)) (cJ : ClassId) (ht : tys[0]? = some (cJ, .long)) (h0 h1 h2 : Nat) (u : ph_H) (a : Nat) (hb63 : a < 4611686018427387904) (ha : ¬ ph_i4 a) : hx_X l D tys yX0_checkNumber wsX0_checkNumber 6 82 [.ref h1, .long (lN a)] (hc_W cJ h0 h1 h2 u) (hc_W cJ h0 h1 h2 u) := by
  refine hx_X.ofW (cc := cX0_checkNumber) (maxL := 3) (ret := none) (by decide) rfl (Nat.le_of_ble_eq_true rfl) ?_
  intro p e s m below meth c A ls hr S hno hw hl
  have S : hx_S p l s m _ meth c cX0_checkNumber 3 wsX0_checkNumber RX0 A D tys := S
  obtain ⟨⟨hx, hb, hml, hown, hts⟩, hK, hA, hE, hlk⟩ := id S
  have hl : lv_has ls 3 [(0, .ref h1), (1, .long (lN a))] := hl
  refine lv_aload_n hx hb dX0_checkNumber_0 rfl (lv_at hl 0 rfl) ?_
  refine lv_lload_n hx hb dX0_checkNumber_1 rfl (lv_at hl 1 rfl) ?_
  refine hx_callV (rest := []) (n := 1) S hw (c_has l hst D tys cJ ht h0 h1 h2 u (a) (by omega)) gX0_checkNumber_X0_has rfl (by decide +kernel) rfl ⟨Nat.le_of_ble_eq_true rfl, Nat.le_of_ble_eq_true rfl⟩ 1 0 rfl rfl hc_adr hl.1 rfl (Nat.le_of_ble_eq_true rfl) ⟨by decide, by decide⟩ dX0_checkNumber_2 (fun H locs hw => ?_)
  refine W.eq (g2 := F0 m 5 ls [.int (if ph_in (a) then nI 1 else nI 0)]) rfl ?_
  refine hn_peq (tgt := 20) hx hb dX0_checkNumber_5 (by decide) (fun hc => ?_) (fun hc => ?_)
  · exact hx_new S hst hno hw hE.2.2.1 (List.mem_of_getElem? (i := 1) rfl) (List.mem_of_getElem? (i := 2) rfl) (fun w h => List.mem_cons_of_mem _ (List.mem_append_right _ h)) tb_S0 to_S0 hl.1 dX0_checkNumber_20 dX0_checkNumber_23 dX0_checkNumber_24 dX0_checkNumber_26 dX0_checkNumber_29 ⟨by decide, by decide, by decide, by decide⟩
  · refine lv_aload_n hx hb dX0_checkNumber_8 rfl (lv_at hl 0 rfl) ?_
    refine lv_lload_n hx hb dX0_checkNumber_9 rfl (lv_at hl 1 rfl) ?_
    refine lv_ldc2 (v := lN 3) hx hb hown (hts (.constantLong RX0 52 (lN 3)) (by decide +kernel)) dX0_checkNumber_10 ?_
    refine hn_ladd (v := lN (a + 3)) hx hb dX0_checkNumber_13 (lN_add _ _) ?_
    refine hx_callV (rest := []) (n := 1) S hw (c_has l hst D tys cJ ht h0 h1 h2 u (a + 3) (by omega)) gX0_checkNumber_X0_has rfl (by decide +kernel) rfl ⟨Nat.le_of_ble_eq_true rfl, Nat.le_of_ble_eq_true rfl⟩ 1 0 rfl rfl hc_adr hl.1 rfl (Nat.le_of_ble_eq_true rfl) ⟨by decide, by decide⟩ dX0_checkNumber_14 (fun H locs hw => ?_)
    refine W.eq (g2 := F0 m 17 ls [.int (if ph_in (a + 3) then nI 1 else nI 0)]) rfl ?_
    refine hn_pne (tgt := 30) hx hb dX0_checkNumber_17 (by decide) (fun hc2 => ?_) (fun hc2 => ?_)
    · exact absurd (⟨hc.1, hc2.2⟩ : ph_i4 a) ha
    · exact hx_new S hst hno hw hE.2.2.1 (List.mem_of_getElem? (i := 1) rfl) (List.mem_of_getElem? (i := 2) rfl) (fun w h => List.mem_cons_of_mem _ (List.mem_append_right _ h)) tb_S0 to_S0 hl.1 dX0_checkNumber_20 dX0_checkNumber_23 dX0_checkNumber_24 dX0_checkNumber_26 dX0_checkNumber_29 ⟨by decide, by decide, by decide, by decide⟩
set_option maxHeartbeats 4000000 in
set_option maxRecDepth 100000 in
theorem c_readNumber (l : Launch) (hst : l.stackTraces = false) (D : va_G) (tys : List (ClassId × FieldType)) (cJ : ClassId) (ht : tys[0]? = some (cJ, .long)) (h0 h1 h2 : Nat) (u : ph_H) (a : Nat) (ha : ph_i4 a) : hx_R l D tys yX0_readNumber wsX0_readNumber 7 104 [.ref h1, .long (lN a)] (hc_W cJ h0 h1 h2 u) (hc_W cJ h0 h1 h2 u) (some (.long (lN (ph_n u.1 a)))) := by
  refine hx_R.ofW (cc := cX0_readNumber) (maxL := 6) (ret := (some .long)) (by decide) rfl (Nat.le_of_ble_eq_true rfl) ?_
  intro p e s m below meth c A ls hr S hw hl
  have S : hx_S p l s m _ meth c cX0_readNumber 6 wsX0_readNumber RX0 A D tys := S
  obtain ⟨⟨hx, hb, hml, hown, hts⟩, hK, hA, hE, hlk⟩ := id S
  have hl : lv_has ls 6 [(0, .ref h1), (1, .long (lN a))] := hl
  have hb0 := ph_b_lt u.1 (a + 0)
  have hb1 := ph_b_lt u.1 (a + 1)
  have hb2 := ph_b_lt u.1 (a + 2)
  have hb3 := ph_b_lt u.1 (a + 3)
  refine lv_aload_n hx hb dX0_readNumber_0 rfl (lv_at hl 0 rfl) ?_
  refine lv_lload_n hx hb dX0_readNumber_1 rfl (lv_at hl 1 rfl) ?_
  refine hx_callV (rest := []) (n := 1) S hw (c_checkNumber l hst D tys cJ ht h0 h1 h2 u a ha) gX0_readNumber_X0_checkNumber rfl (by decide +kernel) rfl ⟨Nat.le_of_ble_eq_true rfl, Nat.le_of_ble_eq_true rfl⟩ 1 0 rfl rfl hc_adr hl.1 rfl (Nat.le_of_ble_eq_true rfl) ⟨by decide, by decide⟩ dX0_readNumber_2 (fun H locs hw => ?_)
  refine W.eq (g2 := F0 m 5 ls []) rfl ?_
  refine lv_lconst (v := lN 0) hx hb dX0_readNumber_5 (by decide +kernel) ?_
  refine lv_lstore_n (lv' := [(3, .long (lN 0)), (0, .ref h1), (1, .long (lN a))]) hx hb dX0_readNumber_6 rfl hl (by decide) rfl (fun ls hl => ?_)
  refine lv_iconst (v := nI 3) hx hb dX0_readNumber_7 (by decide +kernel) ?_
  refine lv_istore (lv' := [(5, .int (nI 3)), (3, .long (lN 0)), (0, .ref h1), (1, .long (lN a))]) hx hb dX0_readNumber_8 hl (by decide) rfl (fun ls hl => ?_)
  refine lv_iload hx hb dX0_readNumber_10 (lv_at hl 0 rfl) ?_
  refine lv_if_lt (tgt := 37) hx hb dX0_readNumber_12 (by decide) (fun h => absurd h (by decide +kernel)) (fun _ => ?_)
  refine lv_lload_n hx hb dX0_readNumber_15 rfl (lv_at hl 1 rfl) ?_
  refine lv_bipush (v := nI 8) hx hb dX0_readNumber_16 (by decide +kernel) ?_
  refine lv_lshl (v := lN ((0) * 256)) hx hb dX0_readNumber_18 (wb_shl (0) (k := 8) (by decide)) ?_
  refine lv_aload_n hx hb dX0_readNumber_19 rfl (lv_at hl 2 rfl) ?_
  refine lv_lload_n hx hb dX0_readNumber_20 rfl (lv_at hl 3 rfl) ?_
  refine lv_iload hx hb dX0_readNumber_21 (lv_at hl 0 rfl) ?_
  refine lv_i2l (v := lN 3) hx hb dX0_readNumber_23 (nI_l (by omega)) ?_
  refine hn_ladd (v := lN (a + 3)) hx hb dX0_readNumber_24 (lN_add _ _) ?_
  refine hx_callV (rest := [.long (lN ((0) * 256))]) (n := 1) S hw (c_read l hst D tys cJ ht h0 h1 h2 u (a + 3) ⟨by omega, by omega⟩) gX0_readNumber_X0_read rfl (by decide +kernel) rfl ⟨Nat.le_of_ble_eq_true rfl, Nat.le_of_ble_eq_true rfl⟩ 1 0 rfl rfl hc_adr hl.1 rfl (Nat.le_of_ble_eq_true rfl) ⟨by decide, by decide⟩ dX0_readNumber_25 (fun H locs hw => ?_)
  refine W.eq (g2 := F0 m 28 ls [.int (nI (ph_b u.1 (a + 3))), .long (lN ((0) * 256))]) rfl ?_
  refine lv_i2l (v := lN (ph_b u.1 (a + 3))) hx hb dX0_readNumber_28 (nI_l (by omega)) ?_
  refine hn_lor (v := lN ((0) * 256 + ph_b u.1 (a + 3))) hx hb dX0_readNumber_29 (g_or (k := 8) (p := 256) (a := ph_b u.1 (a + 3)) (b := 0) rfl hb3 (by omega)) ?_
  refine lv_lstore_n (lv' := [(3, .long (lN ((0) * 256 + ph_b u.1 (a + 3)))), (5, .int (nI 3)), (0, .ref h1), (1, .long (lN a))]) hx hb dX0_readNumber_30 rfl hl (by decide) rfl (fun ls hl => ?_)
  refine lv_iinc (v := nI 2) (lv' := [(5, .int (nI 2)), (3, .long (lN ((0) * 256 + ph_b u.1 (a + 3)))), (0, .ref h1), (1, .long (lN a))]) hx hb dX0_readNumber_31 hl (k := 1) rfl (by decide +kernel) (by decide) rfl (fun ls hl => ?_)
  refine lv_goto (tgt := 10) hx hb dX0_readNumber_34 (by decide) ?_
  refine lv_iload hx hb dX0_readNumber_10 (lv_at hl 0 rfl) ?_
  refine lv_if_lt (tgt := 37) hx hb dX0_readNumber_12 (by decide) (fun h => absurd h (by decide +kernel)) (fun _ => ?_)
  refine lv_lload_n hx hb dX0_readNumber_15 rfl (lv_at hl 1 rfl) ?_
  refine lv_bipush (v := nI 8) hx hb dX0_readNumber_16 (by decide +kernel) ?_
  refine lv_lshl (v := lN (((0) * 256 + ph_b u.1 (a + 3)) * 256)) hx hb dX0_readNumber_18 (wb_shl ((0) * 256 + ph_b u.1 (a + 3)) (k := 8) (by decide)) ?_
  refine lv_aload_n hx hb dX0_readNumber_19 rfl (lv_at hl 2 rfl) ?_
  refine lv_lload_n hx hb dX0_readNumber_20 rfl (lv_at hl 3 rfl) ?_
  refine lv_iload hx hb dX0_readNumber_21 (lv_at hl 0 rfl) ?_
  refine lv_i2l (v := lN 2) hx hb dX0_readNumber_23 (nI_l (by omega)) ?_
  refine hn_ladd (v := lN (a + 2)) hx hb dX0_readNumber_24 (lN_add _ _) ?_
  refine hx_callV (rest := [.long (lN (((0) * 256 + ph_b u.1 (a + 3)) * 256))]) (n := 1) S hw (c_read l hst D tys cJ ht h0 h1 h2 u (a + 2) ⟨by omega, by omega⟩) gX0_readNumber_X0_read rfl (by decide +kernel) rfl ⟨Nat.le_of_ble_eq_true rfl, Nat.le_of_ble_eq_true rfl⟩ 1 0 rfl rfl hc_adr hl.1 rfl (Nat.le_of_ble_eq_true rfl) ⟨by decide, by decide⟩ dX0_readNumber_25 (fun H locs hw => ?_)
  refine W.eq (g2 := F0 m 28 ls [.int (nI (ph_b u.1 (a + 2))), .long (lN (((0) * 256 + ph_b u.1 (a + 3)) * 256))]) rfl ?_
  refine lv_i2l (v := lN (ph_b u.1 (a + 2))) hx hb dX0_readNumber_28 (nI_l (by omega)) ?_
  refine hn_lor (v := lN (((0) * 256 + ph_b u.1 (a + 3)) * 256 + ph_b u.1 (a + 2))) hx hb dX0_readNumber_29 (g_or (k := 8) (p := 256) (a := ph_b u.1 (a + 2)) (b := (0) * 256 + ph_b u.1 (a + 3)) rfl hb2 (by omega)) ?_
  refine lv_lstore_n (lv' := [(3, .long (lN (((0) * 256 + ph_b u.1 (a + 3)) * 256 + ph_b u.1 (a + 2)))), (5, .int (nI 2)), (0, .ref h1), (1, .long (lN a))]) hx hb dX0_readNumber_30 rfl hl (by decide) rfl (fun ls hl => ?_)
  refine lv_iinc (v := nI 1) (lv' := [(5, .int (nI 1)), (3, .long (lN (((0) * 256 + ph_b u.1 (a + 3)) * 256 + ph_b u.1 (a + 2)))), (0, .ref h1), (1, .long (lN a))]) hx hb dX0_readNumber_31 hl (k := 1) rfl (by decide +kernel) (by decide) rfl (fun ls hl => ?_)
  refine lv_goto (tgt := 10) hx hb dX0_readNumber_34 (by decide) ?_
  refine lv_iload hx hb dX0_readNumber_10 (lv_at hl 0 rfl) ?_
  refine lv_if_lt (tgt := 37) hx hb dX0_readNumber_12 (by decide) (fun h => absurd h (by decide +kernel)) (fun _ => ?_)
  refine lv_lload_n hx hb dX0_readNumber_15 rfl (lv_at hl 1 rfl) ?_
  refine lv_bipush (v := nI 8) hx hb dX0_readNumber_16 (by decide +kernel) ?_
  refine lv_lshl (v := lN ((((0) * 256 + ph_b u.1 (a + 3)) * 256 + ph_b u.1 (a + 2)) * 256)) hx hb dX0_readNumber_18 (wb_shl (((0) * 256 + ph_b u.1 (a + 3)) * 256 + ph_b u.1 (a + 2)) (k := 8) (by decide)) ?_
  refine lv_aload_n hx hb dX0_readNumber_19 rfl (lv_at hl 2 rfl) ?_
  refine lv_lload_n hx hb dX0_readNumber_20 rfl (lv_at hl 3 rfl) ?_
  refine lv_iload hx hb dX0_readNumber_21 (lv_at hl 0 rfl) ?_
  refine lv_i2l (v := lN 1) hx hb dX0_readNumber_23 (nI_l (by omega)) ?_
  refine hn_ladd (v := lN (a + 1)) hx hb dX0_readNumber_24 (lN_add _ _) ?_
  refine hx_callV (rest := [.long (lN ((((0) * 256 + ph_b u.1 (a + 3)) * 256 + ph_b u.1 (a + 2)) * 256))]) (n := 1) S hw (c_read l hst D tys cJ ht h0 h1 h2 u (a + 1) ⟨by omega, by omega⟩) gX0_readNumber_X0_read rfl (by decide +kernel) rfl ⟨Nat.le_of_ble_eq_true rfl, Nat.le_of_ble_eq_true rfl⟩ 1 0 rfl rfl hc_adr hl.1 rfl (Nat.le_of_ble_eq_true rfl) ⟨by decide, by decide⟩ dX0_readNumber_25 (fun H locs hw => ?_)
  refine W.eq (g2 := F0 m 28 ls [.int (nI (ph_b u.1 (a + 1))), .long (lN ((((0) * 256 + ph_b u.1 (a + 3)) * 256 + ph_b u.1 (a + 2)) * 256))]) rfl ?_
  refine lv_i2l (v := lN (ph_b u.1 (a + 1))) hx hb dX0_readNumber_28 (nI_l (by omega)) ?_
  refine hn_lor (v := lN ((((0) * 256 + ph_b u.1 (a + 3)) * 256 + ph_b u.1 (a + 2)) * 256 + ph_b u.1 (a + 1))) hx hb dX0_readNumber_29 (g_or (k := 8) (p := 256) (a := ph_b u.1 (a + 1)) (b := ((0) * 256 + ph_b u.1 (a + 3)) * 256 + ph_b u.1 (a + 2)) rfl hb1 (by omega)) ?_
  refine lv_lstore_n (lv' := [(3, .long (lN ((((0) * 256 + ph_b u.1 (a + 3)) * 256 + ph_b u.1 (a + 2)) * 256 + ph_b u.1 (a + 1)))), (5, .int (nI 1)), (0, .ref h1), (1, .long (lN a))]) hx hb dX0_readNumber_30 rfl hl (by decide) rfl (fun ls hl => ?_)
  refine lv_iinc (v := nI 0) (lv' := [(5, .int (nI 0)), (3, .long (lN ((((0) * 256 + ph_b u.1 (a + 3)) * 256 + ph_b u.1 (a + 2)) * 256 + ph_b u.1 (a + 1)))), (0, .ref h1), (1, .long (lN a))]) hx hb dX0_readNumber_31 hl (k := 1) rfl (by decide +kernel) (by decide) rfl (fun ls hl => ?_)
  refine lv_goto (tgt := 10) hx hb dX0_readNumber_34 (by decide) ?_
  refine lv_iload hx hb dX0_readNumber_10 (lv_at hl 0 rfl) ?_
  refine lv_if_lt (tgt := 37) hx hb dX0_readNumber_12 (by decide) (fun h => absurd h (by decide +kernel)) (fun _ => ?_)
  refine lv_lload_n hx hb dX0_readNumber_15 rfl (lv_at hl 1 rfl) ?_
  refine lv_bipush (v := nI 8) hx hb dX0_readNumber_16 (by decide +kernel) ?_
  refine lv_lshl (v := lN (((((0) * 256 + ph_b u.1 (a + 3)) * 256 + ph_b u.1 (a + 2)) * 256 + ph_b u.1 (a + 1)) * 256)) hx hb dX0_readNumber_18 (wb_shl ((((0) * 256 + ph_b u.1 (a + 3)) * 256 + ph_b u.1 (a + 2)) * 256 + ph_b u.1 (a + 1)) (k := 8) (by decide)) ?_
  refine lv_aload_n hx hb dX0_readNumber_19 rfl (lv_at hl 2 rfl) ?_
  refine lv_lload_n hx hb dX0_readNumber_20 rfl (lv_at hl 3 rfl) ?_
  refine lv_iload hx hb dX0_readNumber_21 (lv_at hl 0 rfl) ?_
  refine lv_i2l (v := lN 0) hx hb dX0_readNumber_23 (nI_l (by omega)) ?_
  refine hn_ladd (v := lN (a + 0)) hx hb dX0_readNumber_24 (lN_add _ _) ?_
  refine hx_callV (rest := [.long (lN (((((0) * 256 + ph_b u.1 (a + 3)) * 256 + ph_b u.1 (a + 2)) * 256 + ph_b u.1 (a + 1)) * 256))]) (n := 1) S hw (c_read l hst D tys cJ ht h0 h1 h2 u (a + 0) ⟨by omega, by omega⟩) gX0_readNumber_X0_read rfl (by decide +kernel) rfl ⟨Nat.le_of_ble_eq_true rfl, Nat.le_of_ble_eq_true rfl⟩ 1 0 rfl rfl hc_adr hl.1 rfl (Nat.le_of_ble_eq_true rfl) ⟨by decide, by decide⟩ dX0_readNumber_25 (fun H locs hw => ?_)
  refine W.eq (g2 := F0 m 28 ls [.int (nI (ph_b u.1 (a + 0))), .long (lN (((((0) * 256 + ph_b u.1 (a + 3)) * 256 + ph_b u.1 (a + 2)) * 256 + ph_b u.1 (a + 1)) * 256))]) rfl ?_
  refine lv_i2l (v := lN (ph_b u.1 (a + 0))) hx hb dX0_readNumber_28 (nI_l (by omega)) ?_
  refine hn_lor (v := lN (((((0) * 256 + ph_b u.1 (a + 3)) * 256 + ph_b u.1 (a + 2)) * 256 + ph_b u.1 (a + 1)) * 256 + ph_b u.1 (a + 0))) hx hb dX0_readNumber_29 (g_or (k := 8) (p := 256) (a := ph_b u.1 (a + 0)) (b := (((0) * 256 + ph_b u.1 (a + 3)) * 256 + ph_b u.1 (a + 2)) * 256 + ph_b u.1 (a + 1)) rfl hb0 (by omega)) ?_
  refine lv_lstore_n (lv' := [(3, .long (lN (((((0) * 256 + ph_b u.1 (a + 3)) * 256 + ph_b u.1 (a + 2)) * 256 + ph_b u.1 (a + 1)) * 256 + ph_b u.1 (a + 0)))), (5, .int (nI 0)), (0, .ref h1), (1, .long (lN a))]) hx hb dX0_readNumber_30 rfl hl (by decide) rfl (fun ls hl => ?_)
  refine lv_iinc (v := (-1)) (lv' := [(5, .int ((-1))), (3, .long (lN (((((0) * 256 + ph_b u.1 (a + 3)) * 256 + ph_b u.1 (a + 2)) * 256 + ph_b u.1 (a + 1)) * 256 + ph_b u.1 (a + 0)))), (0, .ref h1), (1, .long (lN a))]) hx hb dX0_readNumber_31 hl (k := 1) rfl (by decide +kernel) (by decide) rfl (fun ls hl => ?_)
  refine lv_goto (tgt := 10) hx hb dX0_readNumber_34 (by decide) ?_
  refine lv_iload hx hb dX0_readNumber_10 (lv_at hl 0 rfl) ?_
  refine lv_if_lt (tgt := 37) hx hb dX0_readNumber_12 (by decide) (fun _ => ?_) (fun h => absurd (show ((-1 : Int32) < 0) from by decide +kernel) h)
  refine lv_lload_n hx hb dX0_readNumber_37 rfl (lv_at hl 1 rfl) ?_
  rw [show ph_n u.1 a = ((((0) * 256 + ph_b u.1 (a + 3)) * 256 + ph_b u.1 (a + 2)) * 256 + ph_b u.1 (a + 1)) * 256 + ph_b u.1 (a + 0) from by unfold ph_n; show _ = ((((0) * 256 + ph_b u.1 (a + 3)) * 256 + ph_b u.1 (a + 2)) * 256 + ph_b u.1 (a + 1)) * 256 + ph_b u.1 (a); omega]
  exact hx_lret S hr hw dX0_readNumber_38
set_option maxHeartbeats 4000000 in
set_option maxRecDepth 100000 in
theorem c_writeNumber (l : Launch) (hst : l.stackTraces = false) (D : va_G) (tys : List (ClassId × FieldType)) (cJ : ClassId) (ht : tys[0]? = some (cJ, .long)) (h0 h1 h2 : Nat) (u : ph_H) (a n : Nat) (hn : n < 18446744073709551616) (ha : ph_i4 a) : hx_R l D tys yX0_writeNumber wsX0_writeNumber 7 108 [.ref h1, .long (lN a), .long (lN n)] (hc_W cJ h0 h1 h2 u) (hc_W cJ h0 h1 h2 (ph_sn u.1 a n, u.2)) (none) := by
  refine hx_R.ofW (cc := cX0_writeNumber) (maxL := 6) (ret := none) (by decide) rfl (Nat.le_of_ble_eq_true rfl) ?_
  intro p e s m below meth c A ls hr S hw hl
  have S : hx_S p l s m _ meth c cX0_writeNumber 6 wsX0_writeNumber RX0 A D tys := S
  obtain ⟨⟨hx, hb, hml, hown, hts⟩, hK, hA, hE, hlk⟩ := id S
  have hl : lv_has ls 6 [(0, .ref h1), (1, .long (lN a)), (3, .long (lN n))] := hl
  refine lv_aload_n hx hb dX0_writeNumber_0 rfl (lv_at hl 0 rfl) ?_
  refine lv_lload_n hx hb dX0_writeNumber_1 rfl (lv_at hl 1 rfl) ?_
  refine hx_callV (rest := []) (n := 1) S hw (c_checkNumber l hst D tys cJ ht h0 h1 h2 u a ha) gX0_writeNumber_X0_checkNumber rfl (by decide +kernel) rfl ⟨Nat.le_of_ble_eq_true rfl, Nat.le_of_ble_eq_true rfl⟩ 1 0 rfl rfl hc_adr hl.1 rfl (Nat.le_of_ble_eq_true rfl) ⟨by decide, by decide⟩ dX0_writeNumber_2 (fun H locs hw => ?_)
  refine W.eq (g2 := F0 m 5 ls []) rfl ?_
  refine lv_iconst (v := nI 0) hx hb dX0_writeNumber_5 (by decide +kernel) ?_
  refine lv_istore (lv' := [(5, .int (nI 0)), (0, .ref h1), (1, .long (lN a)), (3, .long (lN n))]) hx hb dX0_writeNumber_6 hl (by decide) rfl (fun ls hl => ?_)
  refine lv_iload hx hb dX0_writeNumber_8 (lv_at hl 0 rfl) ?_
  refine lv_iconst (v := nI 4) hx hb dX0_writeNumber_10 (by decide +kernel) ?_
  refine hn_ige (a := 0) (b := 4) (tgt := 36) hx hb (by decide) (by decide) dX0_writeNumber_11 (by decide) (fun hc => absurd hc (by decide)) (fun _ => ?_)
  refine lv_aload_n hx hb dX0_writeNumber_14 rfl (lv_at hl 1 rfl) ?_
  refine lv_lload_n hx hb dX0_writeNumber_15 rfl (lv_at hl 2 rfl) ?_
  refine lv_iload hx hb dX0_writeNumber_16 (lv_at hl 0 rfl) ?_
  refine lv_i2l (v := lN 0) hx hb dX0_writeNumber_18 (nI_l (by omega)) ?_
  refine hn_ladd (v := lN a) hx hb dX0_writeNumber_19 (lN_add a 0) ?_
  refine lv_lload_n hx hb dX0_writeNumber_20 rfl (lv_at hl 3 rfl) ?_
  refine lv_bipush (v := nI 8) hx hb dX0_writeNumber_21 (by decide +kernel) ?_
  refine lv_iload hx hb dX0_writeNumber_23 (lv_at hl 0 rfl) ?_
  refine hn_imul (v := nI 0) hx hb dX0_writeNumber_25 (pk_mul _ _) ?_
  refine lv_lushr (v := lN (n)) hx hb dX0_writeNumber_26 (show ((lN n).toUInt64 >>> ((nI 0).toInt64.toUInt64 &&& Int64.toUInt64 63)).toInt64 = lN n by rw [wb_shr (k := 0) hn (by decide), Nat.pow_zero, Nat.div_one]) ?_
  refine hx_callV (rest := []) (n := 2) S hw (c_writeN l hst D tys cJ ht h0 h1 h2 u (a) (n) (by omega) ⟨by omega, by omega⟩) gX0_writeNumber_X0_write rfl (by decide +kernel) rfl ⟨Nat.le_of_ble_eq_true rfl, Nat.le_of_ble_eq_true rfl⟩ 1 0 rfl rfl hc_adr hl.1 rfl (Nat.le_of_ble_eq_true rfl) ⟨by decide, by decide⟩ dX0_writeNumber_27 (fun H locs hw => ?_)
  refine W.eq (g2 := F0 m 30 ls []) rfl ?_
  refine lv_iinc (v := nI 1) (lv' := [(5, .int (nI 1)), (0, .ref h1), (1, .long (lN a)), (3, .long (lN n))]) hx hb dX0_writeNumber_30 hl (k := 0) rfl (by decide +kernel) (by decide) rfl (fun ls hl => ?_)
  refine lv_goto (tgt := 8) hx hb dX0_writeNumber_33 (by decide) ?_
  refine lv_iload hx hb dX0_writeNumber_8 (lv_at hl 0 rfl) ?_
  refine lv_iconst (v := nI 4) hx hb dX0_writeNumber_10 (by decide +kernel) ?_
  refine hn_ige (a := 1) (b := 4) (tgt := 36) hx hb (by decide) (by decide) dX0_writeNumber_11 (by decide) (fun hc => absurd hc (by decide)) (fun _ => ?_)
  refine lv_aload_n hx hb dX0_writeNumber_14 rfl (lv_at hl 1 rfl) ?_
  refine lv_lload_n hx hb dX0_writeNumber_15 rfl (lv_at hl 2 rfl) ?_
  refine lv_iload hx hb dX0_writeNumber_16 (lv_at hl 0 rfl) ?_
  refine lv_i2l (v := lN 1) hx hb dX0_writeNumber_18 (nI_l (by omega)) ?_
  refine hn_ladd (v := lN (a + 1)) hx hb dX0_writeNumber_19 (lN_add _ _) ?_
  refine lv_lload_n hx hb dX0_writeNumber_20 rfl (lv_at hl 3 rfl) ?_
  refine lv_bipush (v := nI 8) hx hb dX0_writeNumber_21 (by decide +kernel) ?_
  refine lv_iload hx hb dX0_writeNumber_23 (lv_at hl 0 rfl) ?_
  refine hn_imul (v := nI 8) hx hb dX0_writeNumber_25 (pk_mul _ _) ?_
  refine lv_lushr (v := lN (n / 256)) hx hb dX0_writeNumber_26 (show _ = lN (n / 256) by rw [wb_shr (n := n) (k := 8) hn (by decide), show (2 : Nat) ^ 8 = 256 from rfl]) ?_
  refine hx_callV (rest := []) (n := 2) S hw (c_writeN l hst D tys cJ ht h0 h1 h2 (ph_sb u.1 a n, u.2) (a + 1) (n / 256) (by omega) ⟨by omega, by omega⟩) gX0_writeNumber_X0_write rfl (by decide +kernel) rfl ⟨Nat.le_of_ble_eq_true rfl, Nat.le_of_ble_eq_true rfl⟩ 1 0 rfl rfl hc_adr hl.1 rfl (Nat.le_of_ble_eq_true rfl) ⟨by decide, by decide⟩ dX0_writeNumber_27 (fun H locs hw => ?_)
  refine W.eq (g2 := F0 m 30 ls []) rfl ?_
  refine lv_iinc (v := nI 2) (lv' := [(5, .int (nI 2)), (0, .ref h1), (1, .long (lN a)), (3, .long (lN n))]) hx hb dX0_writeNumber_30 hl (k := 0) rfl (by decide +kernel) (by decide) rfl (fun ls hl => ?_)
  refine lv_goto (tgt := 8) hx hb dX0_writeNumber_33 (by decide) ?_
  refine lv_iload hx hb dX0_writeNumber_8 (lv_at hl 0 rfl) ?_
  refine lv_iconst (v := nI 4) hx hb dX0_writeNumber_10 (by decide +kernel) ?_
  refine hn_ige (a := 2) (b := 4) (tgt := 36) hx hb (by decide) (by decide) dX0_writeNumber_11 (by decide) (fun hc => absurd hc (by decide)) (fun _ => ?_)
  refine lv_aload_n hx hb dX0_writeNumber_14 rfl (lv_at hl 1 rfl) ?_
  refine lv_lload_n hx hb dX0_writeNumber_15 rfl (lv_at hl 2 rfl) ?_
  refine lv_iload hx hb dX0_writeNumber_16 (lv_at hl 0 rfl) ?_
  refine lv_i2l (v := lN 2) hx hb dX0_writeNumber_18 (nI_l (by omega)) ?_
  refine hn_ladd (v := lN (a + 2)) hx hb dX0_writeNumber_19 (lN_add _ _) ?_
  refine lv_lload_n hx hb dX0_writeNumber_20 rfl (lv_at hl 3 rfl) ?_
  refine lv_bipush (v := nI 8) hx hb dX0_writeNumber_21 (by decide +kernel) ?_
  refine lv_iload hx hb dX0_writeNumber_23 (lv_at hl 0 rfl) ?_
  refine hn_imul (v := nI 16) hx hb dX0_writeNumber_25 (pk_mul _ _) ?_
  refine lv_lushr (v := lN (n / 65536)) hx hb dX0_writeNumber_26 (show _ = lN (n / 65536) by rw [wb_shr (n := n) (k := 16) hn (by decide), show (2 : Nat) ^ 16 = 65536 from rfl]) ?_
  refine hx_callV (rest := []) (n := 2) S hw (c_writeN l hst D tys cJ ht h0 h1 h2 (ph_sb (ph_sb u.1 a n) (a + 1) (n / 256), u.2) (a + 2) (n / 65536) (by omega) ⟨by omega, by omega⟩) gX0_writeNumber_X0_write rfl (by decide +kernel) rfl ⟨Nat.le_of_ble_eq_true rfl, Nat.le_of_ble_eq_true rfl⟩ 1 0 rfl rfl hc_adr hl.1 rfl (Nat.le_of_ble_eq_true rfl) ⟨by decide, by decide⟩ dX0_writeNumber_27 (fun H locs hw => ?_)
  refine W.eq (g2 := F0 m 30 ls []) rfl ?_
  refine lv_iinc (v := nI 3) (lv' := [(5, .int (nI 3)), (0, .ref h1), (1, .long (lN a)), (3, .long (lN n))]) hx hb dX0_writeNumber_30 hl (k := 0) rfl (by decide +kernel) (by decide) rfl (fun ls hl => ?_)
  refine lv_goto (tgt := 8) hx hb dX0_writeNumber_33 (by decide) ?_
  refine lv_iload hx hb dX0_writeNumber_8 (lv_at hl 0 rfl) ?_
  refine lv_iconst (v := nI 4) hx hb dX0_writeNumber_10 (by decide +kernel) ?_
  refine hn_ige (a := 3) (b := 4) (tgt := 36) hx hb (by decide) (by decide) dX0_writeNumber_11 (by decide) (fun hc => absurd hc (by decide)) (fun _ => ?_)
  refine lv_aload_n hx hb dX0_writeNumber_14 rfl (lv_at hl 1 rfl) ?_
  refine lv_lload_n hx hb dX0_writeNumber_15 rfl (lv_at hl 2 rfl) ?_
  refine lv_iload hx hb dX0_writeNumber_16 (lv_at hl 0 rfl) ?_
  refine lv_i2l (v := lN 3) hx hb dX0_writeNumber_18 (nI_l (by omega)) ?_
  refine hn_ladd (v := lN (a + 3)) hx hb dX0_writeNumber_19 (lN_add _ _) ?_
  refine lv_lload_n hx hb dX0_writeNumber_20 rfl (lv_at hl 3 rfl) ?_
  refine lv_bipush (v := nI 8) hx hb dX0_writeNumber_21 (by decide +kernel) ?_
  refine lv_iload hx hb dX0_writeNumber_23 (lv_at hl 0 rfl) ?_
  refine hn_imul (v := nI 24) hx hb dX0_writeNumber_25 (pk_mul _ _) ?_
  refine lv_lushr (v := lN (n / 16777216)) hx hb dX0_writeNumber_26 (show _ = lN (n / 16777216) by rw [wb_shr (n := n) (k := 24) hn (by decide), show (2 : Nat) ^ 24 = 16777216 from rfl]) ?_
  refine hx_callV (rest := []) (n := 2) S hw (c_writeN l hst D tys cJ ht h0 h1 h2 (ph_sb (ph_sb (ph_sb u.1 a n) (a + 1) (n / 256)) (a + 2) (n / 65536), u.2) (a + 3) (n / 16777216) (by omega) ⟨by omega, by omega⟩) gX0_writeNumber_X0_write rfl (by decide +kernel) rfl ⟨Nat.le_of_ble_eq_true rfl, Nat.le_of_ble_eq_true rfl⟩ 1 0 rfl rfl hc_adr hl.1 rfl (Nat.le_of_ble_eq_true rfl) ⟨by decide, by decide⟩ dX0_writeNumber_27 (fun H locs hw => ?_)
  refine W.eq (g2 := F0 m 30 ls []) rfl ?_
  refine lv_iinc (v := nI 4) (lv' := [(5, .int (nI 4)), (0, .ref h1), (1, .long (lN a)), (3, .long (lN n))]) hx hb dX0_writeNumber_30 hl (k := 0) rfl (by decide +kernel) (by decide) rfl (fun ls hl => ?_)
  refine lv_goto (tgt := 8) hx hb dX0_writeNumber_33 (by decide) ?_
  refine lv_iload hx hb dX0_writeNumber_8 (lv_at hl 0 rfl) ?_
  refine lv_iconst (v := nI 4) hx hb dX0_writeNumber_10 (by decide +kernel) ?_
  refine hn_ige (a := 4) (b := 4) (tgt := 36) hx hb (by decide) (by decide) dX0_writeNumber_11 (by decide) (fun _ => ?_) (fun hc => absurd hc (by decide))
  exact hx_vret S hr hw dX0_writeNumber_36
set_option maxHeartbeats 4000000 in
set_option maxRecDepth 100000 in
theorem x_writeNumber (l : Launch) (hst : l.stackTraces = false) (D : va_G) (tys : List (ClassId × FieldType)) (cJ : ClassId) (ht : tys[0]? = some (cJ, .long)) (h0 h1 h2 : Nat) (u : ph_H) (a : Nat) (v : Int64) (hb63 : a < 4611686018427387904) (ha : ¬ ph_i4 a) : hx_X l D tys yX0_writeNumber wsX0_writeNumber 7 108 [.ref h1, .long (lN a), .long v] (hc_W cJ h0 h1 h2 u) (hc_W cJ h0 h1 h2 u) := by
  refine hx_X.ofW (cc := cX0_writeNumber) (maxL := 6) (ret := none) (by decide) rfl (Nat.le_of_ble_eq_true rfl) ?_
  intro p e s m below meth c A ls hr S hno hw hl
  have S : hx_S p l s m _ meth c cX0_writeNumber 6 wsX0_writeNumber RX0 A D tys := S
  obtain ⟨⟨hx, hb, hml, hown, hts⟩, hK, hA, hE, hlk⟩ := id S
  have hl : lv_has ls 6 [(0, .ref h1), (1, .long (lN a)), (3, .long v)] := hl
  refine lv_aload_n hx hb dX0_writeNumber_0 rfl (lv_at hl 0 rfl) ?_
  refine lv_lload_n hx hb dX0_writeNumber_1 rfl (lv_at hl 1 rfl) ?_
  exact hx_thr (rest := []) (n := 1) S hno hw (x_checkNumber l hst D tys cJ ht h0 h1 h2 u a hb63 ha) gX0_writeNumber_X0_checkNumber rfl (by decide +kernel) rfl ⟨Nat.le_of_ble_eq_true rfl, Nat.le_of_ble_eq_true rfl⟩ 1 0 rfl rfl hc_adr hl.1 rfl (Nat.le_of_ble_eq_true rfl) ⟨by decide, by decide⟩ dX0_writeNumber_2
end
section
/-! HeapRow: the small methods -/
set_option maxHeartbeats 4000000 in
set_option maxRecDepth 100000 in
theorem c_unsigned (l : Launch) (hst : l.stackTraces = false) (D : va_G) (tys : List (ClassId × FieldType)) (cJ : ClassId) (ht : tys[0]? = some (cJ, .long)) (h0 h1 h2 : Nat) (u : ph_H) (n : Nat) (hn : n < 4294967296) : hx_R l D tys yX1_unsigned wsX1_unsigned 0 0 [.int (nI n)] (hc_W cJ h0 h1 h2 u) (hc_W cJ h0 h1 h2 u) (some (.long (lN n))) := by
  refine hx_R.ofW (cc := cX1_unsigned) (maxL := 1) (ret := (some .long)) (by decide) rfl (Nat.le_of_ble_eq_true rfl) ?_
  intro p e s m below meth c A ls hr S hw hl
  have S : hx_S p l s m _ meth c cX1_unsigned 1 wsX1_unsigned RX1 A D tys := S
  obtain ⟨⟨hx, hb, hml, hown, hts⟩, hK, hA, hE, hlk⟩ := id S
  have hl : lv_has ls 1 [(0, .int (nI n))] := hl
  refine lv_iload_n hx hb dX1_unsigned_0 rfl (lv_at hl 0 rfl) ?_
  refine lv_i2l (v := (nI n).toInt64) hx hb dX1_unsigned_1 rfl ?_
  refine lv_ldc2 (v := lN 4294967295) hx hb hown (hts (.constantLong RX1 70 (lN 4294967295)) (by decide +kernel)) dX1_unsigned_2 ?_
  refine hn_land (v := lN n) hx hb dX1_unsigned_5 (hp_uns hn) ?_
  exact hx_lret S hr hw dX1_unsigned_6
set_option maxHeartbeats 4000000 in
set_option maxRecDepth 100000 in
theorem c_rounded (l : Launch) (hst : l.stackTraces = false) (D : va_G) (tys : List (ClassId × FieldType)) (cJ : ClassId) (ht : tys[0]? = some (cJ, .long)) (h0 h1 h2 : Nat) (u : ph_H) (n : Nat) (hn : n < 4611686018427387904) : hx_R l D tys yX1_rounded wsX1_rounded 1 24 [.long (lN n)] (hc_W cJ h0 h1 h2 u) (hc_W cJ h0 h1 h2 u) (some (.long (lN (ph_up n)))) := by
  refine hx_R.ofW (cc := cX1_rounded) (maxL := 2) (ret := (some .long)) (by decide) rfl (Nat.le_of_ble_eq_true rfl) ?_
  intro p e s m below meth c A ls hr S hw hl
  have S : hx_S p l s m _ meth c cX1_rounded 2 wsX1_rounded RX1 A D tys := S
  obtain ⟨⟨hx, hb, hml, hown, hts⟩, hK, hA, hE, hlk⟩ := id S
  have hl : lv_has ls 2 [(0, .long (lN n))] := hl
  refine lv_ldc2 (v := lN 8) hx hb hown (hts (.constantLong RX1 72 (lN 8)) (by decide +kernel)) dX1_rounded_0 ?_
  refine lv_lload_n hx hb dX1_rounded_3 rfl (lv_at hl 0 rfl) ?_
  refine lv_ldc2 (v := lN 7) hx hb hown (hts (.constantLong RX1 74 (lN 7)) (by decide +kernel)) dX1_rounded_4 ?_
  refine hn_ladd (v := lN (n + 7)) hx hb dX1_rounded_7 (lN_add _ _) ?_
  refine lv_ldc2 (v := (-8)) hx hb hown (hts (.constantLong RX1 76 (-8)) (by decide +kernel)) dX1_rounded_8 ?_
  refine hn_land (v := lN ((n + 7) / 8 * 8)) hx hb dX1_rounded_11 (hp_and8 (by omega)) ?_
  refine va_mmax_long hx hb (hml.trans hl.1.symm) hown (hts (.methodLink RX1 78 Lib.MathLoose.max_long.x) (by decide +kernel)) (hts (.static Lib.MathLoose.max_long.x) (by decide +kernel)) (hts (.initialized "java/lang/Math") (by decide +kernel)) (hts (.code Lib.MathLoose.max_long.x Lib.MathLoose.max_long.code 4 (some .long)) (by decide +kernel)) (by decide) (Nat.le_of_ble_eq_true rfl) (by decide) (by decide) dX1_rounded_12 ?_
  rw [hp_max (by omega), hp_up]
  exact hx_lret S hr hw dX1_rounded_15
set_option maxHeartbeats 4000000 in
set_option maxRecDepth 100000 in
theorem c_size (l : Launch) (hst : l.stackTraces = false) (D : va_G) (tys : List (ClassId × FieldType)) (cJ : ClassId) (ht : tys[0]? = some (cJ, .long)) (h0 h1 h2 : Nat) (u : ph_H) (a : Nat) (ha : ph_i4 a) : hx_R l D tys yX1_size wsX1_size 8 129 [.ref h0, .long (lN a)] (hc_W cJ h0 h1 h2 u) (hc_W cJ h0 h1 h2 u) (some (.long (lN (ph_n u.1 a)))) := by
  refine hx_R.ofW (cc := cX1_size) (maxL := 3) (ret := (some .long)) (by decide) rfl (Nat.le_of_ble_eq_true rfl) ?_
  intro p e s m below meth c A ls hr S hw hl
  have S : hx_S p l s m _ meth c cX1_size 3 wsX1_size RX1 A D tys := S
  obtain ⟨⟨hx, hb, hml, hown, hts⟩, hK, hA, hE, hlk⟩ := id S
  have hi1 : ∀ w ∈ wsX10, w ∈ wsX1_size := by decide +kernel
  have hl : lv_has ls 3 [(0, .ref h0), (1, .long (lN a))] := hl
  refine lv_aload_n hx hb dX1_size_0 rfl (lv_at hl 0 rfl) ?_
  refine va_get (D := D) (ci := 1) (v := .ref h1) (C := RX1) (T := TX1) (N := 3) hx hb hts hi1 hown hK hw.1 0 rfl rfl 0 (by decide) (hts (.fieldLink RX1 12 "HeapRow" "memory" "LHeapRow$Memory;") (by decide +kernel)) (fun _ h9 => h9) rfl dX1_size_1 ?_
  refine lv_lload_n hx hb dX1_size_4 rfl (lv_at hl 1 rfl) ?_
  refine hx_callV (rest := []) (n := 1) S hw (c_readNumber l hst D tys cJ ht h0 h1 h2 u a ha) gX1_size_X0_readNumber rfl (by decide +kernel) rfl ⟨Nat.le_of_ble_eq_true rfl, Nat.le_of_ble_eq_true rfl⟩ 1 0 rfl rfl hc_adr hl.1 rfl (Nat.le_of_ble_eq_true rfl) ⟨by decide, by decide⟩ dX1_size_5 (fun H locs hw => ?_)
  refine W.eq (g2 := F0 m 8 ls [.long (lN (ph_n u.1 a))]) rfl ?_
  exact hx_lret S hr hw dX1_size_8
set_option maxHeartbeats 4000000 in
set_option maxRecDepth 100000 in
theorem c_next (l : Launch) (hst : l.stackTraces = false) (D : va_G) (tys : List (ClassId × FieldType)) (cJ : ClassId) (ht : tys[0]? = some (cJ, .long)) (h0 h1 h2 : Nat) (u : ph_H) (a : Nat) (ha : ph_i4 a) : hx_R l D tys yX1_next wsX1_next 8 129 [.ref h0, .long (lN a)] (hc_W cJ h0 h1 h2 u) (hc_W cJ h0 h1 h2 u) (some (.long (lN (a + 8 + ph_n u.1 a)))) := by
  refine hx_R.ofW (cc := cX1_next) (maxL := 3) (ret := (some .long)) (by decide) rfl (Nat.le_of_ble_eq_true rfl) ?_
  intro p e s m below meth c A ls hr S hw hl
  have S : hx_S p l s m _ meth c cX1_next 3 wsX1_next RX1 A D tys := S
  obtain ⟨⟨hx, hb, hml, hown, hts⟩, hK, hA, hE, hlk⟩ := id S
  have hi1 : ∀ w ∈ wsX10, w ∈ wsX1_next := by decide +kernel
  have hl : lv_has ls 3 [(0, .ref h0), (1, .long (lN a))] := hl
  refine lv_lload_n hx hb dX1_next_0 rfl (lv_at hl 1 rfl) ?_
  refine lv_ldc2 (v := lN 8) hx hb hown (hts (.constantLong RX1 72 (lN 8)) (by decide +kernel)) dX1_next_1 ?_
  refine hn_ladd (v := lN (a + 8)) hx hb dX1_next_4 (lN_add _ _) ?_
  refine lv_aload_n hx hb dX1_next_5 rfl (lv_at hl 0 rfl) ?_
  refine va_get (D := D) (ci := 1) (v := .ref h1) (C := RX1) (T := TX1) (N := 3) hx hb hts hi1 hown hK hw.1 0 rfl rfl 0 (by decide) (hts (.fieldLink RX1 12 "HeapRow" "memory" "LHeapRow$Memory;") (by decide +kernel)) (fun _ h9 => h9) rfl dX1_next_6 ?_
  refine lv_lload_n hx hb dX1_next_9 rfl (lv_at hl 1 rfl) ?_
  refine hx_callV (rest := [.long (lN (a + 8))]) (n := 1) S hw (c_readNumber l hst D tys cJ ht h0 h1 h2 u a ha) gX1_next_X0_readNumber rfl (by decide +kernel) rfl ⟨Nat.le_of_ble_eq_true rfl, Nat.le_of_ble_eq_true rfl⟩ 1 0 rfl rfl hc_adr hl.1 rfl (Nat.le_of_ble_eq_true rfl) ⟨by decide, by decide⟩ dX1_next_10 (fun H locs hw => ?_)
  refine W.eq (g2 := F0 m 13 ls [.long (lN (ph_n u.1 a)), .long (lN (a + 8))]) rfl ?_
  refine hn_ladd (v := lN ((a + 8) + (ph_n u.1 a))) hx hb dX1_next_13 (lN_add _ _) ?_
  exact hx_lret S hr hw dX1_next_14
set_option maxHeartbeats 4000000 in
set_option maxRecDepth 100000 in
theorem c_isTaken (l : Launch) (hst : l.stackTraces = false) (D : va_G) (tys : List (ClassId × FieldType)) (cJ : ClassId) (ht : tys[0]? = some (cJ, .long)) (h0 h1 h2 : Nat) (u : ph_H) (a : Nat) (ha : ph_i4 (a + 4)) : hx_R l D tys yX1_isTaken wsX1_isTaken 8 129 [.ref h0, .long (lN a)] (hc_W cJ h0 h1 h2 u) (hc_W cJ h0 h1 h2 u) (some (.int (if ph_n u.1 (a + 4) = 1 then nI 1 else nI 0))) := by
  refine hx_R.ofW (cc := cX1_isTaken) (maxL := 3) (ret := (some .boolean)) (by decide) rfl (Nat.le_of_ble_eq_true rfl) ?_
  intro p e s m below meth c A ls hr S hw hl
  have S : hx_S p l s m _ meth c cX1_isTaken 3 wsX1_isTaken RX1 A D tys := S
  obtain ⟨⟨hx, hb, hml, hown, hts⟩, hK, hA, hE, hlk⟩ := id S
  have hi1 : ∀ w ∈ wsX10, w ∈ wsX1_isTaken := by decide +kernel
  have hl : lv_has ls 3 [(0, .ref h0), (1, .long (lN a))] := hl
  have hn := ph_n_lt u.1 (a + 4)
  refine lv_aload_n hx hb dX1_isTaken_0 rfl (lv_at hl 0 rfl) ?_
  refine va_get (D := D) (ci := 1) (v := .ref h1) (C := RX1) (T := TX1) (N := 3) hx hb hts hi1 hown hK hw.1 0 rfl rfl 0 (by decide) (hts (.fieldLink RX1 12 "HeapRow" "memory" "LHeapRow$Memory;") (by decide +kernel)) (fun _ h9 => h9) rfl dX1_isTaken_1 ?_
  refine lv_lload_n hx hb dX1_isTaken_4 rfl (lv_at hl 1 rfl) ?_
  refine lv_ldc2 (v := lN 4) hx hb hown (hts (.constantLong RX1 123 (lN 4)) (by decide +kernel)) dX1_isTaken_5 ?_
  refine hn_ladd (v := lN (a + 4)) hx hb dX1_isTaken_8 (lN_add _ _) ?_
  refine hx_callV (rest := []) (n := 1) S hw (c_readNumber l hst D tys cJ ht h0 h1 h2 u (a + 4) ha) gX1_isTaken_X0_readNumber rfl (by decide +kernel) rfl ⟨Nat.le_of_ble_eq_true rfl, Nat.le_of_ble_eq_true rfl⟩ 1 0 rfl rfl hc_adr hl.1 rfl (Nat.le_of_ble_eq_true rfl) ⟨by decide, by decide⟩ dX1_isTaken_9 (fun H locs hw => ?_)
  refine W.eq (g2 := F0 m 12 ls [.long (lN (ph_n u.1 (a + 4)))]) rfl ?_
  refine lv_lconst (v := lN 1) hx hb dX1_isTaken_12 (by decide +kernel) ?_
  refine hn_lne (a := (ph_n u.1 (a + 4))) (b := 1) (tgt := 21) hx hb (by omega) (by omega) dX1_isTaken_13 dX1_isTaken_14 (by decide) (fun hc => ?_) (fun hc => ?_)
  · refine lv_iconst (v := nI 0) hx hb dX1_isTaken_21 (by decide +kernel) ?_
    rw [if_neg hc]
    exact hx_zret S hr rfl hw dX1_isTaken_22
  · refine lv_iconst (v := nI 1) hx hb dX1_isTaken_17 (by decide +kernel) ?_
    refine lv_goto (tgt := 22) hx hb dX1_isTaken_18 (by decide) ?_
    rw [if_pos hc]
    exact hx_zret S hr rfl hw dX1_isTaken_22
set_option maxHeartbeats 4000000 in
set_option maxRecDepth 100000 in
theorem c_writeHeader (l : Launch) (hst : l.stackTraces = false) (D : va_G) (tys : List (ClassId × FieldType)) (cJ : ClassId) (ht : tys[0]? = some (cJ, .long)) (h0 h1 h2 : Nat) (u : ph_H) (a n k : Nat) (hn : n < 9223372036854775808) (hk : k < 256) (h : (ph_wh u.1 a n k).1 = true) : hx_R l D tys yX1_writeHeader wsX1_writeHeader 8 133 [.ref h0, .long (lN a), .long (lN n), .int (nI k)] (hc_W cJ h0 h1 h2 u) (hc_W cJ h0 h1 h2 ((ph_wh u.1 a n k).2, u.2)) (none) := by
  refine hx_R.ofW (cc := cX1_writeHeader) (maxL := 6) (ret := none) (by decide) rfl (Nat.le_of_ble_eq_true rfl) ?_
  intro p e s m below meth c A ls hr S hw hl
  have S : hx_S p l s m _ meth c cX1_writeHeader 6 wsX1_writeHeader RX1 A D tys := S
  obtain ⟨⟨hx, hb, hml, hown, hts⟩, hK, hA, hE, hlk⟩ := id S
  have hi1 : ∀ w ∈ wsX10, w ∈ wsX1_writeHeader := by decide +kernel
  have hl : lv_has ls 6 [(0, .ref h0), (1, .long (lN a)), (3, .long (lN n)), (5, .int (nI k))] := hl
  obtain ⟨g1, g2, g3⟩ := ph_wh_t h
  rw [g3]
  refine lv_aload_n hx hb dX1_writeHeader_0 rfl (lv_at hl 0 rfl) ?_
  refine va_get (D := D) (ci := 1) (v := .ref h1) (C := RX1) (T := TX1) (N := 3) hx hb hts hi1 hown hK hw.1 0 rfl rfl 0 (by decide) (hts (.fieldLink RX1 12 "HeapRow" "memory" "LHeapRow$Memory;") (by decide +kernel)) (fun _ h9 => h9) rfl dX1_writeHeader_1 ?_
  refine lv_lload_n hx hb dX1_writeHeader_4 rfl (lv_at hl 1 rfl) ?_
  refine lv_lload_n hx hb dX1_writeHeader_5 rfl (lv_at hl 2 rfl) ?_
  refine hx_callV (rest := []) (n := 2) S hw (c_writeNumber l hst D tys cJ ht h0 h1 h2 u a n (by omega) g1) gX1_writeHeader_X0_writeNumber rfl (by decide +kernel) rfl ⟨Nat.le_of_ble_eq_true rfl, Nat.le_of_ble_eq_true rfl⟩ 1 0 rfl rfl hc_adr hl.1 rfl (Nat.le_of_ble_eq_true rfl) ⟨by decide, by decide⟩ dX1_writeHeader_6 (fun H locs hw => ?_)
  refine W.eq (g2 := F0 m 9 ls []) rfl ?_
  refine lv_aload_n hx hb dX1_writeHeader_9 rfl (lv_at hl 0 rfl) ?_
  refine va_get (D := D) (ci := 1) (v := .ref h1) (C := RX1) (T := TX1) (N := 3) hx hb hts hi1 hown hK hw.1 0 rfl rfl 0 (by decide) (hts (.fieldLink RX1 12 "HeapRow" "memory" "LHeapRow$Memory;") (by decide +kernel)) (fun _ h9 => h9) rfl dX1_writeHeader_10 ?_
  refine lv_lload_n hx hb dX1_writeHeader_13 rfl (lv_at hl 1 rfl) ?_
  refine lv_ldc2 (v := lN 4) hx hb hown (hts (.constantLong RX1 123 (lN 4)) (by decide +kernel)) dX1_writeHeader_14 ?_
  refine hn_ladd (v := lN (a + 4)) hx hb dX1_writeHeader_17 (lN_add _ _) ?_
  refine lv_iload hx hb dX1_writeHeader_18 (lv_at hl 3 rfl) ?_
  refine lv_i2l (v := lN k) hx hb dX1_writeHeader_20 (nI_l (by omega)) ?_
  refine hx_callV (rest := []) (n := 2) S hw (c_writeNumber l hst D tys cJ ht h0 h1 h2 (ph_sn u.1 a n, u.2) (a + 4) k (by omega) g2) gX1_writeHeader_X0_writeNumber rfl (by decide +kernel) rfl ⟨Nat.le_of_ble_eq_true rfl, Nat.le_of_ble_eq_true rfl⟩ 1 0 rfl rfl hc_adr hl.1 rfl (Nat.le_of_ble_eq_true rfl) ⟨by decide, by decide⟩ dX1_writeHeader_21 (fun H locs hw => ?_)
  refine W.eq (g2 := F0 m 24 ls []) rfl ?_
  exact hx_vret S hr hw dX1_writeHeader_24
set_option maxHeartbeats 4000000 in
set_option maxRecDepth 100000 in
theorem x_writeHeader (l : Launch) (hst : l.stackTraces = false) (D : va_G) (tys : List (ClassId × FieldType)) (cJ : ClassId) (ht : tys[0]? = some (cJ, .long)) (h0 h1 h2 : Nat) (u : ph_H) (a n k : Nat) (ha : a < 1152921504606846976) (hn : n < 9223372036854775808) (hk : k < 256) (h : ¬ (ph_wh u.1 a n k).1 = true) : hx_X l D tys yX1_writeHeader wsX1_writeHeader 8 133 [.ref h0, .long (lN a), .long (lN n), .int (nI k)] (hc_W cJ h0 h1 h2 u) (hc_W cJ h0 h1 h2 ((ph_wh u.1 a n k).2, u.2)) := by
  refine hx_X.ofW (cc := cX1_writeHeader) (maxL := 6) (ret := none) (by decide) rfl (Nat.le_of_ble_eq_true rfl) ?_
  intro p e s m below meth c A ls hr S hno hw hl
  have S : hx_S p l s m _ meth c cX1_writeHeader 6 wsX1_writeHeader RX1 A D tys := S
  obtain ⟨⟨hx, hb, hml, hown, hts⟩, hK, hA, hE, hlk⟩ := id S
  have hi1 : ∀ w ∈ wsX10, w ∈ wsX1_writeHeader := by decide +kernel
  have hl : lv_has ls 6 [(0, .ref h0), (1, .long (lN a)), (3, .long (lN n)), (5, .int (nI k))] := hl
  rcases ph_wh_f h with ⟨g1, g3⟩ | ⟨g1, g2, g3⟩
  · rw [g3]
    refine lv_aload_n hx hb dX1_writeHeader_0 rfl (lv_at hl 0 rfl) ?_
    refine va_get (D := D) (ci := 1) (v := .ref h1) (C := RX1) (T := TX1) (N := 3) hx hb hts hi1 hown hK hw.1 0 rfl rfl 0 (by decide) (hts (.fieldLink RX1 12 "HeapRow" "memory" "LHeapRow$Memory;") (by decide +kernel)) (fun _ h9 => h9) rfl dX1_writeHeader_1 ?_
    refine lv_lload_n hx hb dX1_writeHeader_4 rfl (lv_at hl 1 rfl) ?_
    refine lv_lload_n hx hb dX1_writeHeader_5 rfl (lv_at hl 2 rfl) ?_
    exact hx_thr (rest := []) (n := 2) S hno hw (x_writeNumber l hst D tys cJ ht h0 h1 h2 u a (lN n) (by omega) g1) gX1_writeHeader_X0_writeNumber rfl (by decide +kernel) rfl ⟨Nat.le_of_ble_eq_true rfl, Nat.le_of_ble_eq_true rfl⟩ 1 0 rfl rfl hc_adr hl.1 rfl (Nat.le_of_ble_eq_true rfl) ⟨by decide, by decide⟩ dX1_writeHeader_6
  · rw [g3]
    refine lv_aload_n hx hb dX1_writeHeader_0 rfl (lv_at hl 0 rfl) ?_
    refine va_get (D := D) (ci := 1) (v := .ref h1) (C := RX1) (T := TX1) (N := 3) hx hb hts hi1 hown hK hw.1 0 rfl rfl 0 (by decide) (hts (.fieldLink RX1 12 "HeapRow" "memory" "LHeapRow$Memory;") (by decide +kernel)) (fun _ h9 => h9) rfl dX1_writeHeader_1 ?_
    refine lv_lload_n hx hb dX1_writeHeader_4 rfl (lv_at hl 1 rfl) ?_
    refine lv_lload_n hx hb dX1_writeHeader_5 rfl (lv_at hl 2 rfl) ?_
    refine hx_callV (rest := []) (n := 2) S hw (c_writeNumber l hst D tys cJ ht h0 h1 h2 u a n (by omega) g1) gX1_writeHeader_X0_writeNumber rfl (by decide +kernel) rfl ⟨Nat.le_of_ble_eq_true rfl, Nat.le_of_ble_eq_true rfl⟩ 1 0 rfl rfl hc_adr hl.1 rfl (Nat.le_of_ble_eq_true rfl) ⟨by decide, by decide⟩ dX1_writeHeader_6 (fun H locs hw => ?_)
    refine W.eq (g2 := F0 m 9 ls []) rfl ?_
    refine lv_aload_n hx hb dX1_writeHeader_9 rfl (lv_at hl 0 rfl) ?_
    refine va_get (D := D) (ci := 1) (v := .ref h1) (C := RX1) (T := TX1) (N := 3) hx hb hts hi1 hown hK hw.1 0 rfl rfl 0 (by decide) (hts (.fieldLink RX1 12 "HeapRow" "memory" "LHeapRow$Memory;") (by decide +kernel)) (fun _ h9 => h9) rfl dX1_writeHeader_10 ?_
    refine lv_lload_n hx hb dX1_writeHeader_13 rfl (lv_at hl 1 rfl) ?_
    refine lv_ldc2 (v := lN 4) hx hb hown (hts (.constantLong RX1 123 (lN 4)) (by decide +kernel)) dX1_writeHeader_14 ?_
    refine hn_ladd (v := lN (a + 4)) hx hb dX1_writeHeader_17 (lN_add _ _) ?_
    refine lv_iload hx hb dX1_writeHeader_18 (lv_at hl 3 rfl) ?_
    refine lv_i2l (v := lN k) hx hb dX1_writeHeader_20 (nI_l (by omega)) ?_
    exact hx_thr (rest := []) (n := 2) S hno hw (x_writeNumber l hst D tys cJ ht h0 h1 h2 (ph_sn u.1 a n, u.2) (a + 4) (lN k) (by omega) g2) gX1_writeHeader_X0_writeNumber rfl (by decide +kernel) rfl ⟨Nat.le_of_ble_eq_true rfl, Nat.le_of_ble_eq_true rfl⟩ 1 0 rfl rfl hc_adr hl.1 rfl (Nat.le_of_ble_eq_true rfl) ⟨by decide, by decide⟩ dX1_writeHeader_21
end
section
/-! HeapRow: the walks along the blocks -/
set_option maxHeartbeats 4000000 in
set_option maxRecDepth 100000 in
theorem c_firstFree (l : Launch) (hst : l.stackTraces = false) (D : va_G) (tys : List (ClassId × FieldType)) (cJ : ClassId) (ht : tys[0]? = some (cJ, .long)) (h0 h1 h2 : Nat) (u : ph_H) (n : Nat) (r : Option Nat) (hu : ph_I u) (hn : n < 4611686018427387904) (hq0 : ph_ff u.1 u.2.1 n 8064 1024 = r) : hx_R l D tys yX1_firstFree wsX1_firstFree 9 151 [.ref h0, .long (lN n)] (hc_W cJ h0 h1 h2 u) (hc_W cJ h0 h1 h2 u) (some (.long (lN (r.getD 0)))) := by
  refine hx_R.ofW (cc := cX1_firstFree) (maxL := 6) (ret := (some .long)) (by decide) rfl (Nat.le_of_ble_eq_true rfl) ?_
  intro p e s m below meth c A ls hr S hw hl
  have S : hx_S p l s m _ meth c cX1_firstFree 6 wsX1_firstFree RX1 A D tys := S
  obtain ⟨⟨hx, hb, hml, hown, hts⟩, hK, hA, hE, hlk⟩ := id S
  have hi1 : ∀ w ∈ wsX10, w ∈ wsX1_firstFree := by decide +kernel
  have hl : lv_has ls 6 [(0, .ref h0), (1, .long (lN n))] := hl
  obtain ⟨i1, i2, i3, i4⟩ := hu
  refine lv_ldc2 (v := lN 1024) hx hb hown (hts (.constantLong RX1 16 (lN 1024)) (by decide +kernel)) dX1_firstFree_0 ?_
  refine lv_lstore_n (lv' := [(3, .long (lN 1024)), (0, .ref h0), (1, .long (lN n))]) hx hb dX1_firstFree_3 rfl hl (by decide) rfl (fun ls hl => ?_)
  refine lv_iconst (v := nI 0) hx hb dX1_firstFree_4 (by decide +kernel) ?_
  refine lv_istore (lv' := [(5, .int (nI 0)), (3, .long (lN 1024)), (0, .ref h0), (1, .long (lN n))]) hx hb dX1_firstFree_5 hl (by decide) rfl (fun ls hl => ?_)
  have loop : ∀ (f k b : Nat) (H : Heap) (locs : List Loc) (ls : Array Slot), k + f = 8064 → 1024 ≤ b → b < 17179869184 → hx_w D A s.heap (hc_W cJ h0 h1 h2 u) H locs → lv_has ls 6 [(5, .int (nI k)), (3, .long (lN b)), (0, .ref h0), (1, .long (lN n))] → ph_ff u.1 u.2.1 n f b = r → W p l e { frames := 9, cells := 0, slots := 0, locals := 151 } s m ([.ref h0, .long (lN n)] : List Value).toArray below meth c H locs 0 0 (MQ below (hx_Q D A (hc_W cJ h0 h1 h2 u) (some (.long (lN (r.getD 0))))) ([.ref h0, .long (lN n)] : List Value).toArray s 0 0 A) (F0 m 7 ls []) := by
    intro f
    induction f with
    | zero =>
      intro k b H locs ls hk gb1 gb2 hw hl hq
      refine lv_iload hx hb dX1_firstFree_7 (lv_at hl 0 rfl) ?_
      refine lv_sipush (v := nI 8064) hx hb dX1_firstFree_9 (by decide +kernel) ?_
      refine hn_ige (a := k) (b := 8064) (tgt := 56) hx hb (by omega) (by omega) dX1_firstFree_12 (by decide) (fun hc => ?_) (fun hc => ?_)
      · subst hq
        refine lv_lconst (v := lN 0) hx hb dX1_firstFree_56 (by decide +kernel) ?_
        exact hx_lret S hr hw dX1_firstFree_57
      · exact absurd hc (by omega)
    | succ f ih =>
      intro k b H locs ls hk gb1 gb2 hw hl hq
      have gn := ph_n_lt u.1 b
      unfold ph_ff at hq
      refine lv_iload hx hb dX1_firstFree_7 (lv_at hl 0 rfl) ?_
      refine lv_sipush (v := nI 8064) hx hb dX1_firstFree_9 (by decide +kernel) ?_
      refine hn_ige (a := k) (b := 8064) (tgt := 56) hx hb (by omega) (by omega) dX1_firstFree_12 (by decide) (fun hc => ?_) (fun hc => ?_)
      · exact absurd hc (by omega)
      · refine lv_lload_n hx hb dX1_firstFree_15 rfl (lv_at hl 1 rfl) ?_
        refine lv_aload_n hx hb dX1_firstFree_16 rfl (lv_at hl 2 rfl) ?_
        refine va_get (D := D) (ci := 1) (v := .long (lN u.2.1)) (C := RX1) (T := TX1) (N := 3) hx hb hts hi1 hown hK hw.1 0 rfl rfl 1 (by decide) (hts (.fieldLink RX1 18 "HeapRow" "end" "J") (by decide +kernel)) (fun _ h9 => h9) rfl dX1_firstFree_17 ?_
        refine hn_lge (a := b) (b := u.2.1) (tgt := 56) hx hb (by omega) (by omega) dX1_firstFree_20 dX1_firstFree_21 (by decide) (fun hc2 => ?_) (fun hc2 => ?_)
        · rw [if_neg (by omega)] at hq
          subst hq
          refine lv_lconst (v := lN 0) hx hb dX1_firstFree_56 (by decide +kernel) ?_
          exact hx_lret S hr hw dX1_firstFree_57
        · refine lv_aload_n hx hb dX1_firstFree_24 rfl (lv_at hl 2 rfl) ?_
          refine lv_lload_n hx hb dX1_firstFree_25 rfl (lv_at hl 1 rfl) ?_
          refine hx_callV (rest := []) (n := 1) S hw (c_isTaken l hst D tys cJ ht h0 h1 h2 u b ⟨by omega, by omega⟩) gX1_firstFree_X1_isTaken rfl (by decide +kernel) rfl ⟨Nat.le_of_ble_eq_true rfl, Nat.le_of_ble_eq_true rfl⟩ 0 1 rfl rfl hc_adr hl.1 rfl (Nat.le_of_ble_eq_true rfl) ⟨by decide, by decide⟩ dX1_firstFree_26 (fun H locs hw => ?_)
          refine W.eq (g2 := F0 m 29 ls [.int (if ph_n u.1 (b + 4) = 1 then nI 1 else nI 0)]) rfl ?_
          refine hn_pne (tgt := 44) hx hb dX1_firstFree_29 (by decide) (fun hc3 => ?_) (fun hc3 => ?_)
          · rw [if_pos hc2, if_neg (fun z => z.1 hc3)] at hq
            refine lv_aload_n hx hb dX1_firstFree_44 rfl (lv_at hl 2 rfl) ?_
            refine lv_lload_n hx hb dX1_firstFree_45 rfl (lv_at hl 1 rfl) ?_
            refine hx_callV (rest := []) (n := 1) S hw (c_next l hst D tys cJ ht h0 h1 h2 u b ⟨by omega, by omega⟩) gX1_firstFree_X1_next rfl (by decide +kernel) rfl ⟨Nat.le_of_ble_eq_true rfl, Nat.le_of_ble_eq_true rfl⟩ 0 1 rfl rfl hc_adr hl.1 rfl (Nat.le_of_ble_eq_true rfl) ⟨by decide, by decide⟩ dX1_firstFree_46 (fun H locs hw => ?_)
            refine W.eq (g2 := F0 m 49 ls [.long (lN (b + 8 + ph_n u.1 b))]) rfl ?_
            refine lv_lstore_n (lv' := [(3, .long (lN (b + 8 + ph_n u.1 b))), (5, .int (nI k)), (0, .ref h0), (1, .long (lN n))]) hx hb dX1_firstFree_49 rfl hl (by decide) rfl (fun ls hl => ?_)
            refine lv_iinc (v := nI (k + 1)) (lv' := [(5, .int (nI (k + 1))), (3, .long (lN (b + 8 + ph_n u.1 b))), (0, .ref h0), (1, .long (lN n))]) hx hb dX1_firstFree_50 hl (k := 1) rfl (nI_add _ _) (by decide) rfl (fun ls hl => ?_)
            refine lv_goto (tgt := 7) hx hb dX1_firstFree_53 (by decide) ?_
            exact ih (k + 1) (b + 8 + ph_n u.1 b) _ _ _ (by omega) (by omega) (by omega) hw (lv_sub hl [0, 1, 2, 3] rfl) hq
          · refine lv_aload_n hx hb dX1_firstFree_32 rfl (lv_at hl 2 rfl) ?_
            refine lv_lload_n hx hb dX1_firstFree_33 rfl (lv_at hl 1 rfl) ?_
            refine hx_callV (rest := []) (n := 1) S hw (c_size l hst D tys cJ ht h0 h1 h2 u b ⟨by omega, by omega⟩) gX1_firstFree_X1_size rfl (by decide +kernel) rfl ⟨Nat.le_of_ble_eq_true rfl, Nat.le_of_ble_eq_true rfl⟩ 0 1 rfl rfl hc_adr hl.1 rfl (Nat.le_of_ble_eq_true rfl) ⟨by decide, by decide⟩ dX1_firstFree_34 (fun H locs hw => ?_)
            refine W.eq (g2 := F0 m 37 ls [.long (lN (ph_n u.1 b))]) rfl ?_
            refine lv_lload_n hx hb dX1_firstFree_37 rfl (lv_at hl 3 rfl) ?_
            refine hn_llt (a := (ph_n u.1 b)) (b := n) (tgt := 44) hx hb (by omega) (by omega) dX1_firstFree_38 dX1_firstFree_39 (by decide) (fun hc4 => ?_) (fun hc4 => ?_)
            · rw [if_pos hc2, if_neg (fun z => absurd z.2 (by omega))] at hq
              refine lv_aload_n hx hb dX1_firstFree_44 rfl (lv_at hl 2 rfl) ?_
              refine lv_lload_n hx hb dX1_firstFree_45 rfl (lv_at hl 1 rfl) ?_
              refine hx_callV (rest := []) (n := 1) S hw (c_next l hst D tys cJ ht h0 h1 h2 u b ⟨by omega, by omega⟩) gX1_firstFree_X1_next rfl (by decide +kernel) rfl ⟨Nat.le_of_ble_eq_true rfl, Nat.le_of_ble_eq_true rfl⟩ 0 1 rfl rfl hc_adr hl.1 rfl (Nat.le_of_ble_eq_true rfl) ⟨by decide, by decide⟩ dX1_firstFree_46 (fun H locs hw => ?_)
              refine W.eq (g2 := F0 m 49 ls [.long (lN (b + 8 + ph_n u.1 b))]) rfl ?_
              refine lv_lstore_n (lv' := [(3, .long (lN (b + 8 + ph_n u.1 b))), (5, .int (nI k)), (0, .ref h0), (1, .long (lN n))]) hx hb dX1_firstFree_49 rfl hl (by decide) rfl (fun ls hl => ?_)
              refine lv_iinc (v := nI (k + 1)) (lv' := [(5, .int (nI (k + 1))), (3, .long (lN (b + 8 + ph_n u.1 b))), (0, .ref h0), (1, .long (lN n))]) hx hb dX1_firstFree_50 hl (k := 1) rfl (nI_add _ _) (by decide) rfl (fun ls hl => ?_)
              refine lv_goto (tgt := 7) hx hb dX1_firstFree_53 (by decide) ?_
              exact ih (k + 1) (b + 8 + ph_n u.1 b) _ _ _ (by omega) (by omega) (by omega) hw (lv_sub hl [0, 1, 2, 3] rfl) hq
            · rw [if_pos hc2, if_pos ⟨hc3, hc4⟩] at hq
              subst hq
              refine lv_lload_n hx hb dX1_firstFree_42 rfl (lv_at hl 1 rfl) ?_
              exact hx_lret S hr hw dX1_firstFree_43
  exact loop 8064 0 1024 _ _ _ rfl (by decide) (by decide) hw (lv_sub hl [0, 1, 2, 3] rfl) hq0
set_option maxHeartbeats 4000000 in
set_option maxRecDepth 100000 in
theorem c_takenBlock (l : Launch) (hst : l.stackTraces = false) (D : va_G) (tys : List (ClassId × FieldType)) (cJ : ClassId) (ht : tys[0]? = some (cJ, .long)) (h0 h1 h2 : Nat) (u : ph_H) (a b p0 : Nat) (hu : ph_I u) (ha : a < 4611686018427387904) (hq0 : ph_fd u.1 u.2.1 a 8064 0 1024 = some (b, p0)) : hx_R l D tys yX1_takenBlock wsX1_takenBlock 9 151 [.ref h0, .long (lN a)] (hc_W cJ h0 h1 h2 u) (hc_W cJ h0 h1 h2 u) (some (.long (lN b))) := by
  refine hx_R.ofW (cc := cX1_takenBlock) (maxL := 6) (ret := (some .long)) (by decide) rfl (Nat.le_of_ble_eq_true rfl) ?_
  intro p e s m below meth c A ls hr S hw hl
  have S : hx_S p l s m _ meth c cX1_takenBlock 6 wsX1_takenBlock RX1 A D tys := S
  obtain ⟨⟨hx, hb, hml, hown, hts⟩, hK, hA, hE, hlk⟩ := id S
  have hi1 : ∀ w ∈ wsX10, w ∈ wsX1_takenBlock := by decide +kernel
  have hl : lv_has ls 6 [(0, .ref h0), (1, .long (lN a))] := hl
  obtain ⟨i1, i2, i3, i4⟩ := hu
  refine lv_ldc2 (v := lN 1024) hx hb hown (hts (.constantLong RX1 16 (lN 1024)) (by decide +kernel)) dX1_takenBlock_0 ?_
  refine lv_lstore_n (lv' := [(3, .long (lN 1024)), (0, .ref h0), (1, .long (lN a))]) hx hb dX1_takenBlock_3 rfl hl (by decide) rfl (fun ls hl => ?_)
  refine lv_iconst (v := nI 0) hx hb dX1_takenBlock_4 (by decide +kernel) ?_
  refine lv_istore (lv' := [(5, .int (nI 0)), (3, .long (lN 1024)), (0, .ref h0), (1, .long (lN a))]) hx hb dX1_takenBlock_5 hl (by decide) rfl (fun ls hl => ?_)
  have loop : ∀ (f k pv x : Nat) (H : Heap) (locs : List Loc) (ls : Array Slot), k + f = 8064 → 1024 ≤ x → x < 17179869184 → hx_w D A s.heap (hc_W cJ h0 h1 h2 u) H locs → lv_has ls 6 [(5, .int (nI k)), (3, .long (lN x)), (0, .ref h0), (1, .long (lN a))] → ph_fd u.1 u.2.1 a f pv x = some (b, p0) → W p l e { frames := 9, cells := 0, slots := 0, locals := 151 } s m ([.ref h0, .long (lN a)] : List Value).toArray below meth c H locs 0 0 (MQ below (hx_Q D A (hc_W cJ h0 h1 h2 u) (some (.long (lN b)))) ([.ref h0, .long (lN a)] : List Value).toArray s 0 0 A) (F0 m 7 ls []) := by
    intro f
    induction f with
    | zero =>
      intro k pv x H locs ls hk gb1 gb2 hw hl hq
      cases hq
    | succ f ih =>
      intro k pv x H locs ls hk gb1 gb2 hw hl hq
      have gn := ph_n_lt u.1 x
      unfold ph_fd at hq
      refine lv_iload hx hb dX1_takenBlock_7 (lv_at hl 0 rfl) ?_
      refine lv_sipush (v := nI 8064) hx hb dX1_takenBlock_9 (by decide +kernel) ?_
      refine hn_ige (a := k) (b := 8064) (tgt := 56) hx hb (by omega) (by omega) dX1_takenBlock_12 (by decide) (fun hc => ?_) (fun hc => ?_)
      · exact absurd hc (by omega)
      · refine lv_lload_n hx hb dX1_takenBlock_15 rfl (lv_at hl 1 rfl) ?_
        refine lv_aload_n hx hb dX1_takenBlock_16 rfl (lv_at hl 2 rfl) ?_
        refine va_get (D := D) (ci := 1) (v := .long (lN u.2.1)) (C := RX1) (T := TX1) (N := 3) hx hb hts hi1 hown hK hw.1 0 rfl rfl 1 (by decide) (hts (.fieldLink RX1 18 "HeapRow" "end" "J") (by decide +kernel)) (fun _ h9 => h9) rfl dX1_takenBlock_17 ?_
        refine hn_lge (a := x) (b := u.2.1) (tgt := 56) hx hb (by omega) (by omega) dX1_takenBlock_20 dX1_takenBlock_21 (by decide) (fun hc2 => ?_) (fun hc2 => ?_)
        · rw [if_neg (by omega)] at hq
          cases hq
        · refine lv_lload_n hx hb dX1_takenBlock_24 rfl (lv_at hl 1 rfl) ?_
          refine lv_ldc2 (v := lN 8) hx hb hown (hts (.constantLong RX1 72 (lN 8)) (by decide +kernel)) dX1_takenBlock_25 ?_
          refine hn_ladd (v := lN (x + 8)) hx hb dX1_takenBlock_28 (lN_add _ _) ?_
          refine lv_lload_n hx hb dX1_takenBlock_29 rfl (lv_at hl 3 rfl) ?_
          refine hn_lne (a := (x + 8)) (b := a) (tgt := 44) hx hb (by omega) (by omega) dX1_takenBlock_30 dX1_takenBlock_31 (by decide) (fun hc3 => ?_) (fun hc3 => ?_)
          · rw [if_pos hc2, if_neg (fun z => hc3 z.1)] at hq
            refine lv_aload_n hx hb dX1_takenBlock_44 rfl (lv_at hl 2 rfl) ?_
            refine lv_lload_n hx hb dX1_takenBlock_45 rfl (lv_at hl 1 rfl) ?_
            refine hx_callV (rest := []) (n := 1) S hw (c_next l hst D tys cJ ht h0 h1 h2 u x ⟨by omega, by omega⟩) gX1_takenBlock_X1_next rfl (by decide +kernel) rfl ⟨Nat.le_of_ble_eq_true rfl, Nat.le_of_ble_eq_true rfl⟩ 0 1 rfl rfl hc_adr hl.1 rfl (Nat.le_of_ble_eq_true rfl) ⟨by decide, by decide⟩ dX1_takenBlock_46 (fun H locs hw => ?_)
            refine W.eq (g2 := F0 m 49 ls [.long (lN (x + 8 + ph_n u.1 x))]) rfl ?_
            refine lv_lstore_n (lv' := [(3, .long (lN (x + 8 + ph_n u.1 x))), (5, .int (nI k)), (0, .ref h0), (1, .long (lN a))]) hx hb dX1_takenBlock_49 rfl hl (by decide) rfl (fun ls hl => ?_)
            refine lv_iinc (v := nI (k + 1)) (lv' := [(5, .int (nI (k + 1))), (3, .long (lN (x + 8 + ph_n u.1 x))), (0, .ref h0), (1, .long (lN a))]) hx hb dX1_takenBlock_50 hl (k := 1) rfl (nI_add _ _) (by decide) rfl (fun ls hl => ?_)
            refine lv_goto (tgt := 7) hx hb dX1_takenBlock_53 (by decide) ?_
            exact ih (k + 1) x (x + 8 + ph_n u.1 x) _ _ _ (by omega) (by omega) (by omega) hw (lv_sub hl [0, 1, 2, 3] rfl) hq
          · refine lv_aload_n hx hb dX1_takenBlock_34 rfl (lv_at hl 2 rfl) ?_
            refine lv_lload_n hx hb dX1_takenBlock_35 rfl (lv_at hl 1 rfl) ?_
            refine hx_callV (rest := []) (n := 1) S hw (c_isTaken l hst D tys cJ ht h0 h1 h2 u x ⟨by omega, by omega⟩) gX1_takenBlock_X1_isTaken rfl (by decide +kernel) rfl ⟨Nat.le_of_ble_eq_true rfl, Nat.le_of_ble_eq_true rfl⟩ 0 1 rfl rfl hc_adr hl.1 rfl (Nat.le_of_ble_eq_true rfl) ⟨by decide, by decide⟩ dX1_takenBlock_36 (fun H locs hw => ?_)
            refine W.eq (g2 := F0 m 39 ls [.int (if ph_n u.1 (x + 4) = 1 then nI 1 else nI 0)]) rfl ?_
            refine hn_peq (tgt := 44) hx hb dX1_takenBlock_39 (by decide) (fun hc4 => ?_) (fun hc4 => ?_)
            · rw [if_pos hc2, if_neg (fun z => hc4 z.2)] at hq
              refine lv_aload_n hx hb dX1_takenBlock_44 rfl (lv_at hl 2 rfl) ?_
              refine lv_lload_n hx hb dX1_takenBlock_45 rfl (lv_at hl 1 rfl) ?_
              refine hx_callV (rest := []) (n := 1) S hw (c_next l hst D tys cJ ht h0 h1 h2 u x ⟨by omega, by omega⟩) gX1_takenBlock_X1_next rfl (by decide +kernel) rfl ⟨Nat.le_of_ble_eq_true rfl, Nat.le_of_ble_eq_true rfl⟩ 0 1 rfl rfl hc_adr hl.1 rfl (Nat.le_of_ble_eq_true rfl) ⟨by decide, by decide⟩ dX1_takenBlock_46 (fun H locs hw => ?_)
              refine W.eq (g2 := F0 m 49 ls [.long (lN (x + 8 + ph_n u.1 x))]) rfl ?_
              refine lv_lstore_n (lv' := [(3, .long (lN (x + 8 + ph_n u.1 x))), (5, .int (nI k)), (0, .ref h0), (1, .long (lN a))]) hx hb dX1_takenBlock_49 rfl hl (by decide) rfl (fun ls hl => ?_)
              refine lv_iinc (v := nI (k + 1)) (lv' := [(5, .int (nI (k + 1))), (3, .long (lN (x + 8 + ph_n u.1 x))), (0, .ref h0), (1, .long (lN a))]) hx hb dX1_takenBlock_50 hl (k := 1) rfl (nI_add _ _) (by decide) rfl (fun ls hl => ?_)
              refine lv_goto (tgt := 7) hx hb dX1_takenBlock_53 (by decide) ?_
              exact ih (k + 1) x (x + 8 + ph_n u.1 x) _ _ _ (by omega) (by omega) (by omega) hw (lv_sub hl [0, 1, 2, 3] rfl) hq
            · rw [if_pos hc2, if_pos ⟨hc3, hc4⟩] at hq
              cases hq
              refine lv_lload_n hx hb dX1_takenBlock_42 rfl (lv_at hl 1 rfl) ?_
              exact hx_lret S hr hw dX1_takenBlock_43
  exact loop 8064 0 0 1024 _ _ _ rfl (by decide) (by decide) hw (lv_sub hl [0, 1, 2, 3] rfl) hq0
set_option maxHeartbeats 4000000 in
set_option maxRecDepth 100000 in
theorem x_takenBlock (l : Launch) (hst : l.stackTraces = false) (D : va_G) (tys : List (ClassId × FieldType)) (cJ : ClassId) (ht : tys[0]? = some (cJ, .long)) (h0 h1 h2 : Nat) (u : ph_H) (a : Nat) (hu : ph_I u) (ha : a < 4611686018427387904) (hq0 : ph_fd u.1 u.2.1 a 8064 0 1024 = none) : hx_X l D tys yX1_takenBlock wsX1_takenBlock 9 151 [.ref h0, .long (lN a)] (hc_W cJ h0 h1 h2 u) (hc_W cJ h0 h1 h2 u) := by
  refine hx_X.ofW (cc := cX1_takenBlock) (maxL := 6) (ret := (some .long)) (by decide) rfl (Nat.le_of_ble_eq_true rfl) ?_
  intro p e s m below meth c A ls hr S hno hw hl
  have S : hx_S p l s m _ meth c cX1_takenBlock 6 wsX1_takenBlock RX1 A D tys := S
  obtain ⟨⟨hx, hb, hml, hown, hts⟩, hK, hA, hE, hlk⟩ := id S
  have hi1 : ∀ w ∈ wsX10, w ∈ wsX1_takenBlock := by decide +kernel
  have hl : lv_has ls 6 [(0, .ref h0), (1, .long (lN a))] := hl
  obtain ⟨i1, i2, i3, i4⟩ := hu
  refine lv_ldc2 (v := lN 1024) hx hb hown (hts (.constantLong RX1 16 (lN 1024)) (by decide +kernel)) dX1_takenBlock_0 ?_
  refine lv_lstore_n (lv' := [(3, .long (lN 1024)), (0, .ref h0), (1, .long (lN a))]) hx hb dX1_takenBlock_3 rfl hl (by decide) rfl (fun ls hl => ?_)
  refine lv_iconst (v := nI 0) hx hb dX1_takenBlock_4 (by decide +kernel) ?_
  refine lv_istore (lv' := [(5, .int (nI 0)), (3, .long (lN 1024)), (0, .ref h0), (1, .long (lN a))]) hx hb dX1_takenBlock_5 hl (by decide) rfl (fun ls hl => ?_)
  have loop : ∀ (f k pv x : Nat) (H : Heap) (locs : List Loc) (ls : Array Slot), k + f = 8064 → 1024 ≤ x → x < 17179869184 → hx_w D A s.heap (hc_W cJ h0 h1 h2 u) H locs → lv_has ls 6 [(5, .int (nI k)), (3, .long (lN x)), (0, .ref h0), (1, .long (lN a))] → ph_fd u.1 u.2.1 a f pv x = none → W p l e { frames := 9, cells := 1, slots := 6, locals := 151 } s m ([.ref h0, .long (lN a)] : List Value).toArray below meth c H locs 0 0 (vx_MQ below hx_no (hx_XC D A (hc_W cJ h0 h1 h2 u)) ([.ref h0, .long (lN a)] : List Value).toArray s 1 6 A) (F0 m 7 ls []) := by
    intro f
    induction f with
    | zero =>
      intro k pv x H locs ls hk gb1 gb2 hw hl hq
      refine lv_iload hx hb dX1_takenBlock_7 (lv_at hl 0 rfl) ?_
      refine lv_sipush (v := nI 8064) hx hb dX1_takenBlock_9 (by decide +kernel) ?_
      refine hn_ige (a := k) (b := 8064) (tgt := 56) hx hb (by omega) (by omega) dX1_takenBlock_12 (by decide) (fun hc => ?_) (fun hc => ?_)
      · exact hx_new S hst hno hw hE.2.2.2.1 (List.mem_of_getElem? (i := 1) rfl) (List.mem_of_getElem? (i := 2) rfl) (fun w h => List.mem_cons_of_mem _ (List.mem_append_left _ (List.mem_append_right _ h))) tb_S1 to_S1 hl.1 dX1_takenBlock_56 dX1_takenBlock_59 dX1_takenBlock_60 dX1_takenBlock_62 dX1_takenBlock_65 ⟨by decide, by decide, by decide, by decide⟩
      · exact absurd hc (by omega)
    | succ f ih =>
      intro k pv x H locs ls hk gb1 gb2 hw hl hq
      have gn := ph_n_lt u.1 x
      unfold ph_fd at hq
      refine lv_iload hx hb dX1_takenBlock_7 (lv_at hl 0 rfl) ?_
      refine lv_sipush (v := nI 8064) hx hb dX1_takenBlock_9 (by decide +kernel) ?_
      refine hn_ige (a := k) (b := 8064) (tgt := 56) hx hb (by omega) (by omega) dX1_takenBlock_12 (by decide) (fun hc => ?_) (fun hc => ?_)
      · exact absurd hc (by omega)
      · refine lv_lload_n hx hb dX1_takenBlock_15 rfl (lv_at hl 1 rfl) ?_
        refine lv_aload_n hx hb dX1_takenBlock_16 rfl (lv_at hl 2 rfl) ?_
        refine va_get (D := D) (ci := 1) (v := .long (lN u.2.1)) (C := RX1) (T := TX1) (N := 3) hx hb hts hi1 hown hK hw.1 0 rfl rfl 1 (by decide) (hts (.fieldLink RX1 18 "HeapRow" "end" "J") (by decide +kernel)) (fun _ h9 => h9) rfl dX1_takenBlock_17 ?_
        refine hn_lge (a := x) (b := u.2.1) (tgt := 56) hx hb (by omega) (by omega) dX1_takenBlock_20 dX1_takenBlock_21 (by decide) (fun hc2 => ?_) (fun hc2 => ?_)
        · rw [if_neg (by omega)] at hq
          exact hx_new S hst hno hw hE.2.2.2.1 (List.mem_of_getElem? (i := 1) rfl) (List.mem_of_getElem? (i := 2) rfl) (fun w h => List.mem_cons_of_mem _ (List.mem_append_left _ (List.mem_append_right _ h))) tb_S1 to_S1 hl.1 dX1_takenBlock_56 dX1_takenBlock_59 dX1_takenBlock_60 dX1_takenBlock_62 dX1_takenBlock_65 ⟨by decide, by decide, by decide, by decide⟩
        · refine lv_lload_n hx hb dX1_takenBlock_24 rfl (lv_at hl 1 rfl) ?_
          refine lv_ldc2 (v := lN 8) hx hb hown (hts (.constantLong RX1 72 (lN 8)) (by decide +kernel)) dX1_takenBlock_25 ?_
          refine hn_ladd (v := lN (x + 8)) hx hb dX1_takenBlock_28 (lN_add _ _) ?_
          refine lv_lload_n hx hb dX1_takenBlock_29 rfl (lv_at hl 3 rfl) ?_
          refine hn_lne (a := (x + 8)) (b := a) (tgt := 44) hx hb (by omega) (by omega) dX1_takenBlock_30 dX1_takenBlock_31 (by decide) (fun hc3 => ?_) (fun hc3 => ?_)
          · rw [if_pos hc2, if_neg (fun z => hc3 z.1)] at hq
            refine lv_aload_n hx hb dX1_takenBlock_44 rfl (lv_at hl 2 rfl) ?_
            refine lv_lload_n hx hb dX1_takenBlock_45 rfl (lv_at hl 1 rfl) ?_
            refine hx_callV (rest := []) (n := 1) S hw (c_next l hst D tys cJ ht h0 h1 h2 u x ⟨by omega, by omega⟩) gX1_takenBlock_X1_next rfl (by decide +kernel) rfl ⟨Nat.le_of_ble_eq_true rfl, Nat.le_of_ble_eq_true rfl⟩ 0 1 rfl rfl hc_adr hl.1 rfl (Nat.le_of_ble_eq_true rfl) ⟨by decide, by decide⟩ dX1_takenBlock_46 (fun H locs hw => ?_)
            refine W.eq (g2 := F0 m 49 ls [.long (lN (x + 8 + ph_n u.1 x))]) rfl ?_
            refine lv_lstore_n (lv' := [(3, .long (lN (x + 8 + ph_n u.1 x))), (5, .int (nI k)), (0, .ref h0), (1, .long (lN a))]) hx hb dX1_takenBlock_49 rfl hl (by decide) rfl (fun ls hl => ?_)
            refine lv_iinc (v := nI (k + 1)) (lv' := [(5, .int (nI (k + 1))), (3, .long (lN (x + 8 + ph_n u.1 x))), (0, .ref h0), (1, .long (lN a))]) hx hb dX1_takenBlock_50 hl (k := 1) rfl (nI_add _ _) (by decide) rfl (fun ls hl => ?_)
            refine lv_goto (tgt := 7) hx hb dX1_takenBlock_53 (by decide) ?_
            exact ih (k + 1) x (x + 8 + ph_n u.1 x) _ _ _ (by omega) (by omega) (by omega) hw (lv_sub hl [0, 1, 2, 3] rfl) hq
          · refine lv_aload_n hx hb dX1_takenBlock_34 rfl (lv_at hl 2 rfl) ?_
            refine lv_lload_n hx hb dX1_takenBlock_35 rfl (lv_at hl 1 rfl) ?_
            refine hx_callV (rest := []) (n := 1) S hw (c_isTaken l hst D tys cJ ht h0 h1 h2 u x ⟨by omega, by omega⟩) gX1_takenBlock_X1_isTaken rfl (by decide +kernel) rfl ⟨Nat.le_of_ble_eq_true rfl, Nat.le_of_ble_eq_true rfl⟩ 0 1 rfl rfl hc_adr hl.1 rfl (Nat.le_of_ble_eq_true rfl) ⟨by decide, by decide⟩ dX1_takenBlock_36 (fun H locs hw => ?_)
            refine W.eq (g2 := F0 m 39 ls [.int (if ph_n u.1 (x + 4) = 1 then nI 1 else nI 0)]) rfl ?_
            refine hn_peq (tgt := 44) hx hb dX1_takenBlock_39 (by decide) (fun hc4 => ?_) (fun hc4 => ?_)
            · rw [if_pos hc2, if_neg (fun z => hc4 z.2)] at hq
              refine lv_aload_n hx hb dX1_takenBlock_44 rfl (lv_at hl 2 rfl) ?_
              refine lv_lload_n hx hb dX1_takenBlock_45 rfl (lv_at hl 1 rfl) ?_
              refine hx_callV (rest := []) (n := 1) S hw (c_next l hst D tys cJ ht h0 h1 h2 u x ⟨by omega, by omega⟩) gX1_takenBlock_X1_next rfl (by decide +kernel) rfl ⟨Nat.le_of_ble_eq_true rfl, Nat.le_of_ble_eq_true rfl⟩ 0 1 rfl rfl hc_adr hl.1 rfl (Nat.le_of_ble_eq_true rfl) ⟨by decide, by decide⟩ dX1_takenBlock_46 (fun H locs hw => ?_)
              refine W.eq (g2 := F0 m 49 ls [.long (lN (x + 8 + ph_n u.1 x))]) rfl ?_
              refine lv_lstore_n (lv' := [(3, .long (lN (x + 8 + ph_n u.1 x))), (5, .int (nI k)), (0, .ref h0), (1, .long (lN a))]) hx hb dX1_takenBlock_49 rfl hl (by decide) rfl (fun ls hl => ?_)
              refine lv_iinc (v := nI (k + 1)) (lv' := [(5, .int (nI (k + 1))), (3, .long (lN (x + 8 + ph_n u.1 x))), (0, .ref h0), (1, .long (lN a))]) hx hb dX1_takenBlock_50 hl (k := 1) rfl (nI_add _ _) (by decide) rfl (fun ls hl => ?_)
              refine lv_goto (tgt := 7) hx hb dX1_takenBlock_53 (by decide) ?_
              exact ih (k + 1) x (x + 8 + ph_n u.1 x) _ _ _ (by omega) (by omega) (by omega) hw (lv_sub hl [0, 1, 2, 3] rfl) hq
            · rw [if_pos hc2, if_pos ⟨hc3, hc4⟩] at hq
              cases hq
  exact loop 8064 0 0 1024 _ _ _ rfl (by decide) (by decide) hw (lv_sub hl [0, 1, 2, 3] rfl) hq0
set_option maxHeartbeats 4000000 in
set_option maxRecDepth 100000 in
theorem c_blockBefore (l : Launch) (hst : l.stackTraces = false) (D : va_G) (tys : List (ClassId × FieldType)) (cJ : ClassId) (ht : tys[0]? = some (cJ, .long)) (h0 h1 h2 : Nat) (u : ph_H) (z r : Nat) (hz : z ≤ 61440) (hq0 : ph_bb u.1 z 8064 0 1024 = r) : hx_R l D tys yX1_blockBefore wsX1_blockBefore 9 151 [.ref h0, .long (lN z)] (hc_W cJ h0 h1 h2 u) (hc_W cJ h0 h1 h2 u) (some (.long (lN r))) := by
  refine hx_R.ofW (cc := cX1_blockBefore) (maxL := 8) (ret := (some .long)) (by decide) rfl (Nat.le_of_ble_eq_true rfl) ?_
  intro p e s m below meth c A ls hr S hw hl
  have S : hx_S p l s m _ meth c cX1_blockBefore 8 wsX1_blockBefore RX1 A D tys := S
  obtain ⟨⟨hx, hb, hml, hown, hts⟩, hK, hA, hE, hlk⟩ := id S
  have hi1 : ∀ w ∈ wsX10, w ∈ wsX1_blockBefore := by decide +kernel
  have hl : lv_has ls 8 [(0, .ref h0), (1, .long (lN z))] := hl
  refine lv_lconst (v := lN 0) hx hb dX1_blockBefore_0 (by decide +kernel) ?_
  refine lv_lstore_n (lv' := [(3, .long (lN 0)), (0, .ref h0), (1, .long (lN z))]) hx hb dX1_blockBefore_1 rfl hl (by decide) rfl (fun ls hl => ?_)
  refine lv_ldc2 (v := lN 1024) hx hb hown (hts (.constantLong RX1 16 (lN 1024)) (by decide +kernel)) dX1_blockBefore_2 ?_
  refine lv_lstore (lv' := [(5, .long (lN 1024)), (3, .long (lN 0)), (0, .ref h0), (1, .long (lN z))]) hx hb dX1_blockBefore_5 hl (by decide) rfl (fun ls hl => ?_)
  refine lv_iconst (v := nI 0) hx hb dX1_blockBefore_7 (by decide +kernel) ?_
  refine lv_istore (lv' := [(7, .int (nI 0)), (5, .long (lN 1024)), (3, .long (lN 0)), (0, .ref h0), (1, .long (lN z))]) hx hb dX1_blockBefore_8 hl (by decide) rfl (fun ls hl => ?_)
  have loop : ∀ (f k pv x : Nat) (H : Heap) (locs : List Loc) (ls : Array Slot), k + f = 8064 → 1024 ≤ x → x < 17179869184 → hx_w D A s.heap (hc_W cJ h0 h1 h2 u) H locs → lv_has ls 8 [(7, .int (nI k)), (5, .long (lN x)), (3, .long (lN pv)), (0, .ref h0), (1, .long (lN z))] → ph_bb u.1 z f pv x = r → W p l e { frames := 9, cells := 0, slots := 0, locals := 151 } s m ([.ref h0, .long (lN z)] : List Value).toArray below meth c H locs 0 0 (MQ below (hx_Q D A (hc_W cJ h0 h1 h2 u) (some (.long (lN r)))) ([.ref h0, .long (lN z)] : List Value).toArray s 0 0 A) (F0 m 10 ls []) := by
    intro f
    induction f with
    | zero =>
      intro k pv x H locs ls hk gb1 gb2 hw hl hq
      refine lv_iload hx hb dX1_blockBefore_10 (lv_at hl 0 rfl) ?_
      refine lv_sipush (v := nI 8064) hx hb dX1_blockBefore_12 (by decide +kernel) ?_
      refine hn_ige (a := k) (b := 8064) (tgt := 42) hx hb (by omega) (by omega) dX1_blockBefore_15 (by decide) (fun hc => ?_) (fun hc => ?_)
      · subst hq
        refine lv_lload_n hx hb dX1_blockBefore_42 rfl (lv_at hl 2 rfl) ?_
        exact hx_lret S hr hw dX1_blockBefore_43
      · exact absurd hc (by omega)
    | succ f ih =>
      intro k pv x H locs ls hk gb1 gb2 hw hl hq
      have gn := ph_n_lt u.1 x
      unfold ph_bb at hq
      refine lv_iload hx hb dX1_blockBefore_10 (lv_at hl 0 rfl) ?_
      refine lv_sipush (v := nI 8064) hx hb dX1_blockBefore_12 (by decide +kernel) ?_
      refine hn_ige (a := k) (b := 8064) (tgt := 42) hx hb (by omega) (by omega) dX1_blockBefore_15 (by decide) (fun hc => ?_) (fun hc => ?_)
      · exact absurd hc (by omega)
      · refine lv_lload hx hb dX1_blockBefore_18 (lv_at hl 1 rfl) ?_
        refine lv_lload_n hx hb dX1_blockBefore_20 rfl (lv_at hl 4 rfl) ?_
        refine hn_lge (a := x) (b := z) (tgt := 42) hx hb (by omega) (by omega) dX1_blockBefore_21 dX1_blockBefore_22 (by decide) (fun hc2 => ?_) (fun hc2 => ?_)
        · rw [if_neg (by omega)] at hq
          subst hq
          refine lv_lload_n hx hb dX1_blockBefore_42 rfl (lv_at hl 2 rfl) ?_
          exact hx_lret S hr hw dX1_blockBefore_43
        · rw [if_pos hc2] at hq
          refine lv_lload hx hb dX1_blockBefore_25 (lv_at hl 1 rfl) ?_
          refine lv_lstore_n (lv' := [(3, .long (lN x)), (7, .int (nI k)), (5, .long (lN x)), (0, .ref h0), (1, .long (lN z))]) hx hb dX1_blockBefore_27 rfl hl (by decide) rfl (fun ls hl => ?_)
          refine lv_aload_n hx hb dX1_blockBefore_28 rfl (lv_at hl 3 rfl) ?_
          refine lv_lload hx hb dX1_blockBefore_29 (lv_at hl 2 rfl) ?_
          refine hx_callV (rest := []) (n := 1) S hw (c_next l hst D tys cJ ht h0 h1 h2 u x ⟨by omega, by omega⟩) gX1_blockBefore_X1_next rfl (by decide +kernel) rfl ⟨Nat.le_of_ble_eq_true rfl, Nat.le_of_ble_eq_true rfl⟩ 0 1 rfl rfl hc_adr hl.1 rfl (Nat.le_of_ble_eq_true rfl) ⟨by decide, by decide⟩ dX1_blockBefore_31 (fun H locs hw => ?_)
          refine W.eq (g2 := F0 m 34 ls [.long (lN (x + 8 + ph_n u.1 x))]) rfl ?_
          refine lv_lstore (lv' := [(5, .long (lN (x + 8 + ph_n u.1 x))), (3, .long (lN x)), (7, .int (nI k)), (0, .ref h0), (1, .long (lN z))]) hx hb dX1_blockBefore_34 hl (by decide) rfl (fun ls hl => ?_)
          refine lv_iinc (v := nI (k + 1)) (lv' := [(7, .int (nI (k + 1))), (5, .long (lN (x + 8 + ph_n u.1 x))), (3, .long (lN x)), (0, .ref h0), (1, .long (lN z))]) hx hb dX1_blockBefore_36 hl (k := 2) rfl (nI_add _ _) (by decide) rfl (fun ls hl => ?_)
          refine lv_goto (tgt := 10) hx hb dX1_blockBefore_39 (by decide) ?_
          exact ih (k + 1) x (x + 8 + ph_n u.1 x) _ _ _ (by omega) (by omega) (by omega) hw (lv_sub hl [0, 1, 2, 3, 4] rfl) hq
  exact loop 8064 0 0 1024 _ _ _ rfl (by decide) (by decide) hw (lv_sub hl [0, 1, 2, 3, 4] rfl) hq0
set_option maxHeartbeats 4000000 in
set_option maxRecDepth 100000 in
theorem c_clear (l : Launch) (hst : l.stackTraces = false) (D : va_G) (tys : List (ClassId × FieldType)) (cJ : ClassId) (ht : tys[0]? = some (cJ, .long)) (h0 h1 h2 : Nat) (u : ph_H) (a n : Nat) (M2 : ph_M) (ha : a < 4294967296) (hn : n < 4294967296) (hq0 : ph_clr n u.1 a = (true, M2)) : hx_R l D tys yX1_clear wsX1_clear 7 108 [.ref h0, .long (lN a), .long (lN n)] (hc_W cJ h0 h1 h2 u) (hc_W cJ h0 h1 h2 (M2, u.2)) (none) := by
  refine hx_R.ofW (cc := cX1_clear) (maxL := 7) (ret := none) (by decide) rfl (Nat.le_of_ble_eq_true rfl) ?_
  intro p e s m below meth c A ls hr S hw hl
  have S : hx_S p l s m _ meth c cX1_clear 7 wsX1_clear RX1 A D tys := S
  obtain ⟨⟨hx, hb, hml, hown, hts⟩, hK, hA, hE, hlk⟩ := id S
  have hi1 : ∀ w ∈ wsX10, w ∈ wsX1_clear := by decide +kernel
  have hl : lv_has ls 7 [(0, .ref h0), (1, .long (lN a)), (3, .long (lN n))] := hl
  refine lv_lconst (v := lN 0) hx hb dX1_clear_0 (by decide +kernel) ?_
  refine lv_lstore (lv' := [(5, .long (lN 0)), (0, .ref h0), (1, .long (lN a)), (3, .long (lN n))]) hx hb dX1_clear_1 hl (by decide) rfl (fun ls hl => ?_)
  have loop : ∀ (f k : Nat) (M : ph_M) (H : Heap) (locs : List Loc) (ls : Array Slot), k + f = n → hx_w D A s.heap (hc_W cJ h0 h1 h2 (M, u.2)) H locs → lv_has ls 7 [(5, .long (lN k)), (0, .ref h0), (1, .long (lN a)), (3, .long (lN n))] → ph_clr f M (a + k) = (true, M2) → W p l e { frames := 7, cells := 0, slots := 0, locals := 108 } s m ([.ref h0, .long (lN a), .long (lN n)] : List Value).toArray below meth c H locs 0 0 (MQ below (hx_Q D A (hc_W cJ h0 h1 h2 (M2, u.2)) (none)) ([.ref h0, .long (lN a), .long (lN n)] : List Value).toArray s 0 0 A) (F0 m 3 ls []) := by
    intro f
    induction f with
    | zero =>
      intro k M H locs ls hk hw hl hq
      cases hq
      refine lv_lload hx hb dX1_clear_3 (lv_at hl 0 rfl) ?_
      refine lv_lload_n hx hb dX1_clear_5 rfl (lv_at hl 3 rfl) ?_
      refine hn_lge (a := k) (b := n) (tgt := 31) hx hb (by omega) (by omega) dX1_clear_6 dX1_clear_7 (by decide) (fun hc => ?_) (fun hc => ?_)
      · exact hx_vret S hr hw dX1_clear_31
      · exact absurd hc (by omega)
    | succ f ih =>
      intro k M H locs ls hk hw hl hq
      unfold ph_clr at hq
      refine lv_lload hx hb dX1_clear_3 (lv_at hl 0 rfl) ?_
      refine lv_lload_n hx hb dX1_clear_5 rfl (lv_at hl 3 rfl) ?_
      refine hn_lge (a := k) (b := n) (tgt := 31) hx hb (by omega) (by omega) dX1_clear_6 dX1_clear_7 (by decide) (fun hc => ?_) (fun hc => ?_)
      · exact absurd hc (by omega)
      · refine lv_aload_n hx hb dX1_clear_10 rfl (lv_at hl 1 rfl) ?_
        refine va_get (D := D) (ci := 1) (v := .ref h1) (C := RX1) (T := TX1) (N := 3) hx hb hts hi1 hown hK hw.1 0 rfl rfl 0 (by decide) (hts (.fieldLink RX1 12 "HeapRow" "memory" "LHeapRow$Memory;") (by decide +kernel)) (fun _ h9 => h9) rfl dX1_clear_11 ?_
        refine lv_lload_n hx hb dX1_clear_14 rfl (lv_at hl 2 rfl) ?_
        refine lv_lload hx hb dX1_clear_15 (lv_at hl 0 rfl) ?_
        refine hn_ladd (v := lN (a + k)) hx hb dX1_clear_17 (lN_add _ _) ?_
        refine lv_lconst (v := lN 0) hx hb dX1_clear_18 (by decide +kernel) ?_
        by_cases hin : ph_in (a + k)
        · rw [if_pos hin] at hq
          refine hx_callV (rest := []) (n := 2) S hw (c_writeN l hst D tys cJ ht h0 h1 h2 (M, u.2) (a + k) 0 (by decide) hin) gX1_clear_X0_write rfl (by decide +kernel) rfl ⟨Nat.le_of_ble_eq_true rfl, Nat.le_of_ble_eq_true rfl⟩ 1 0 rfl rfl hc_adr hl.1 rfl (Nat.le_of_ble_eq_true rfl) ⟨by decide, by decide⟩ dX1_clear_19 (fun H locs hw => ?_)
          refine W.eq (g2 := F0 m 22 ls []) rfl ?_
          refine lv_lload hx hb dX1_clear_22 (lv_at hl 0 rfl) ?_
          refine lv_lconst (v := lN 1) hx hb dX1_clear_24 (by decide +kernel) ?_
          refine hn_ladd (v := lN (k + 1)) hx hb dX1_clear_25 (lN_add _ _) ?_
          refine lv_lstore (lv' := [(5, .long (lN (k + 1))), (0, .ref h0), (1, .long (lN a)), (3, .long (lN n))]) hx hb dX1_clear_26 hl (by decide) rfl (fun ls hl => ?_)
          refine lv_goto (tgt := 3) hx hb dX1_clear_28 (by decide) ?_
          exact ih (k + 1) _ _ _ _ (by omega) hw (lv_sub hl [0, 1, 2, 3] rfl) hq
        · rw [if_neg hin] at hq
          cases hq
  exact loop n 0 _ _ _ _ (by omega) hw (lv_sub hl [0, 1, 2, 3] rfl) hq0
set_option maxHeartbeats 4000000 in
set_option maxRecDepth 100000 in
theorem x_clear (l : Launch) (hst : l.stackTraces = false) (D : va_G) (tys : List (ClassId × FieldType)) (cJ : ClassId) (ht : tys[0]? = some (cJ, .long)) (h0 h1 h2 : Nat) (u : ph_H) (a n : Nat) (M2 : ph_M) (ha : a < 4294967296) (hn : n < 4294967296) (hq0 : ph_clr n u.1 a = (false, M2)) : hx_X l D tys yX1_clear wsX1_clear 7 108 [.ref h0, .long (lN a), .long (lN n)] (hc_W cJ h0 h1 h2 u) (hc_W cJ h0 h1 h2 (M2, u.2)) := by
  refine hx_X.ofW (cc := cX1_clear) (maxL := 7) (ret := none) (by decide) rfl (Nat.le_of_ble_eq_true rfl) ?_
  intro p e s m below meth c A ls hr S hno hw hl
  have S : hx_S p l s m _ meth c cX1_clear 7 wsX1_clear RX1 A D tys := S
  obtain ⟨⟨hx, hb, hml, hown, hts⟩, hK, hA, hE, hlk⟩ := id S
  have hi1 : ∀ w ∈ wsX10, w ∈ wsX1_clear := by decide +kernel
  have hl : lv_has ls 7 [(0, .ref h0), (1, .long (lN a)), (3, .long (lN n))] := hl
  refine lv_lconst (v := lN 0) hx hb dX1_clear_0 (by decide +kernel) ?_
  refine lv_lstore (lv' := [(5, .long (lN 0)), (0, .ref h0), (1, .long (lN a)), (3, .long (lN n))]) hx hb dX1_clear_1 hl (by decide) rfl (fun ls hl => ?_)
  have loop : ∀ (f k : Nat) (M : ph_M) (H : Heap) (locs : List Loc) (ls : Array Slot), k + f = n → hx_w D A s.heap (hc_W cJ h0 h1 h2 (M, u.2)) H locs → lv_has ls 7 [(5, .long (lN k)), (0, .ref h0), (1, .long (lN a)), (3, .long (lN n))] → ph_clr f M (a + k) = (false, M2) → W p l e { frames := 7, cells := 1, slots := 6, locals := 108 } s m ([.ref h0, .long (lN a), .long (lN n)] : List Value).toArray below meth c H locs 0 0 (vx_MQ below hx_no (hx_XC D A (hc_W cJ h0 h1 h2 (M2, u.2))) ([.ref h0, .long (lN a), .long (lN n)] : List Value).toArray s 1 6 A) (F0 m 3 ls []) := by
    intro f
    induction f with
    | zero =>
      intro k M H locs ls hk hw hl hq
      cases hq
    | succ f ih =>
      intro k M H locs ls hk hw hl hq
      unfold ph_clr at hq
      refine lv_lload hx hb dX1_clear_3 (lv_at hl 0 rfl) ?_
      refine lv_lload_n hx hb dX1_clear_5 rfl (lv_at hl 3 rfl) ?_
      refine hn_lge (a := k) (b := n) (tgt := 31) hx hb (by omega) (by omega) dX1_clear_6 dX1_clear_7 (by decide) (fun hc => ?_) (fun hc => ?_)
      · exact absurd hc (by omega)
      · refine lv_aload_n hx hb dX1_clear_10 rfl (lv_at hl 1 rfl) ?_
        refine va_get (D := D) (ci := 1) (v := .ref h1) (C := RX1) (T := TX1) (N := 3) hx hb hts hi1 hown hK hw.1 0 rfl rfl 0 (by decide) (hts (.fieldLink RX1 12 "HeapRow" "memory" "LHeapRow$Memory;") (by decide +kernel)) (fun _ h9 => h9) rfl dX1_clear_11 ?_
        refine lv_lload_n hx hb dX1_clear_14 rfl (lv_at hl 2 rfl) ?_
        refine lv_lload hx hb dX1_clear_15 (lv_at hl 0 rfl) ?_
        refine hn_ladd (v := lN (a + k)) hx hb dX1_clear_17 (lN_add _ _) ?_
        refine lv_lconst (v := lN 0) hx hb dX1_clear_18 (by decide +kernel) ?_
        by_cases hin : ph_in (a + k)
        · rw [if_pos hin] at hq
          refine hx_callV (rest := []) (n := 2) S hw (c_writeN l hst D tys cJ ht h0 h1 h2 (M, u.2) (a + k) 0 (by decide) hin) gX1_clear_X0_write rfl (by decide +kernel) rfl ⟨Nat.le_of_ble_eq_true rfl, Nat.le_of_ble_eq_true rfl⟩ 1 0 rfl rfl hc_adr hl.1 rfl (Nat.le_of_ble_eq_true rfl) ⟨by decide, by decide⟩ dX1_clear_19 (fun H locs hw => ?_)
          refine W.eq (g2 := F0 m 22 ls []) rfl ?_
          refine lv_lload hx hb dX1_clear_22 (lv_at hl 0 rfl) ?_
          refine lv_lconst (v := lN 1) hx hb dX1_clear_24 (by decide +kernel) ?_
          refine hn_ladd (v := lN (k + 1)) hx hb dX1_clear_25 (lN_add _ _) ?_
          refine lv_lstore (lv' := [(5, .long (lN (k + 1))), (0, .ref h0), (1, .long (lN a)), (3, .long (lN n))]) hx hb dX1_clear_26 hl (by decide) rfl (fun ls hl => ?_)
          refine lv_goto (tgt := 3) hx hb dX1_clear_28 (by decide) ?_
          exact ih (k + 1) _ _ _ _ (by omega) hw (lv_sub hl [0, 1, 2, 3] rfl) hq
        · rw [if_neg hin] at hq
          cases hq
          exact hx_thr (rest := []) (n := 2) S hno hw (x_write l hst D tys cJ ht h0 h1 h2 (M2, u.2) (a + k) (lN 0) (by omega) hin) gX1_clear_X0_write rfl (by decide +kernel) rfl ⟨Nat.le_of_ble_eq_true rfl, Nat.le_of_ble_eq_true rfl⟩ 1 0 rfl rfl hc_adr hl.1 rfl (Nat.le_of_ble_eq_true rfl) ⟨by decide, by decide⟩ dX1_clear_19
  exact loop n 0 _ _ _ _ (by omega) hw (lv_sub hl [0, 1, 2, 3] rfl) hq0
set_option maxHeartbeats 4000000 in
set_option maxRecDepth 100000 in
theorem c_copy (l : Launch) (hst : l.stackTraces = false) (D : va_G) (tys : List (ClassId × FieldType)) (cJ : ClassId) (ht : tys[0]? = some (cJ, .long)) (h0 h1 h2 : Nat) (u : ph_H) (a t n : Nat) (M2 : ph_M) (ha : a < 4294967296) (hta : t < 4294967296) (hn : n < 4294967296) (hq0 : ph_cpy n u.1 a t = (true, M2)) : hx_R l D tys yX1_copy wsX1_copy 7 108 [.ref h0, .long (lN a), .long (lN t), .long (lN n)] (hc_W cJ h0 h1 h2 u) (hc_W cJ h0 h1 h2 (M2, u.2)) (none) := by
  refine hx_R.ofW (cc := cX1_copy) (maxL := 9) (ret := none) (by decide) rfl (Nat.le_of_ble_eq_true rfl) ?_
  intro p e s m below meth c A ls hr S hw hl
  have S : hx_S p l s m _ meth c cX1_copy 9 wsX1_copy RX1 A D tys := S
  obtain ⟨⟨hx, hb, hml, hown, hts⟩, hK, hA, hE, hlk⟩ := id S
  have hi1 : ∀ w ∈ wsX10, w ∈ wsX1_copy := by decide +kernel
  have hl : lv_has ls 9 [(0, .ref h0), (1, .long (lN a)), (3, .long (lN t)), (5, .long (lN n))] := hl
  refine lv_lconst (v := lN 0) hx hb dX1_copy_0 (by decide +kernel) ?_
  refine lv_lstore (lv' := [(7, .long (lN 0)), (0, .ref h0), (1, .long (lN a)), (3, .long (lN t)), (5, .long (lN n))]) hx hb dX1_copy_1 hl (by decide) rfl (fun ls hl => ?_)
  have loop : ∀ (f k : Nat) (M : ph_M) (H : Heap) (locs : List Loc) (ls : Array Slot), k + f = n → hx_w D A s.heap (hc_W cJ h0 h1 h2 (M, u.2)) H locs → lv_has ls 9 [(7, .long (lN k)), (0, .ref h0), (1, .long (lN a)), (3, .long (lN t)), (5, .long (lN n))] → ph_cpy f M (a + k) (t + k) = (true, M2) → W p l e { frames := 7, cells := 0, slots := 0, locals := 108 } s m ([.ref h0, .long (lN a), .long (lN t), .long (lN n)] : List Value).toArray below meth c H locs 0 0 (MQ below (hx_Q D A (hc_W cJ h0 h1 h2 (M2, u.2)) (none)) ([.ref h0, .long (lN a), .long (lN t), .long (lN n)] : List Value).toArray s 0 0 A) (F0 m 3 ls []) := by
    intro f
    induction f with
    | zero =>
      intro k M H locs ls hk hw hl hq
      cases hq
      refine lv_lload hx hb dX1_copy_3 (lv_at hl 0 rfl) ?_
      refine lv_lload hx hb dX1_copy_5 (lv_at hl 4 rfl) ?_
      refine hn_lge (a := k) (b := n) (tgt := 43) hx hb (by omega) (by omega) dX1_copy_7 dX1_copy_8 (by decide) (fun hc => ?_) (fun hc => ?_)
      · exact hx_vret S hr hw dX1_copy_43
      · exact absurd hc (by omega)
    | succ f ih =>
      intro k M H locs ls hk hw hl hq
      unfold ph_cpy at hq
      have gb := ph_b_lt M (a + k)
      refine lv_lload hx hb dX1_copy_3 (lv_at hl 0 rfl) ?_
      refine lv_lload hx hb dX1_copy_5 (lv_at hl 4 rfl) ?_
      refine hn_lge (a := k) (b := n) (tgt := 43) hx hb (by omega) (by omega) dX1_copy_7 dX1_copy_8 (by decide) (fun hc => ?_) (fun hc => ?_)
      · exact absurd hc (by omega)
      · refine lv_aload_n hx hb dX1_copy_11 rfl (lv_at hl 1 rfl) ?_
        refine va_get (D := D) (ci := 1) (v := .ref h1) (C := RX1) (T := TX1) (N := 3) hx hb hts hi1 hown hK hw.1 0 rfl rfl 0 (by decide) (hts (.fieldLink RX1 12 "HeapRow" "memory" "LHeapRow$Memory;") (by decide +kernel)) (fun _ h9 => h9) rfl dX1_copy_12 ?_
        refine lv_lload_n hx hb dX1_copy_15 rfl (lv_at hl 3 rfl) ?_
        refine lv_lload hx hb dX1_copy_16 (lv_at hl 0 rfl) ?_
        refine hn_ladd (v := lN (t + k)) hx hb dX1_copy_18 (lN_add _ _) ?_
        refine lv_aload_n hx hb dX1_copy_19 rfl (lv_at hl 1 rfl) ?_
        refine va_get (D := D) (ci := 1) (v := .ref h1) (C := RX1) (T := TX1) (N := 3) hx hb hts hi1 hown hK hw.1 0 rfl rfl 0 (by decide) (hts (.fieldLink RX1 12 "HeapRow" "memory" "LHeapRow$Memory;") (by decide +kernel)) (fun _ h9 => h9) rfl dX1_copy_20 ?_
        refine lv_lload_n hx hb dX1_copy_23 rfl (lv_at hl 2 rfl) ?_
        refine lv_lload hx hb dX1_copy_24 (lv_at hl 0 rfl) ?_
        refine hn_ladd (v := lN (a + k)) hx hb dX1_copy_26 (lN_add _ _) ?_
        by_cases hin : ph_in (a + k)
        · rw [if_pos hin] at hq
          refine hx_callV (rest := [.long (lN (t + k)), .ref h1]) (n := 1) S hw (c_read l hst D tys cJ ht h0 h1 h2 (M, u.2) (a + k) hin) gX1_copy_X0_read rfl (by decide +kernel) rfl ⟨Nat.le_of_ble_eq_true rfl, Nat.le_of_ble_eq_true rfl⟩ 1 0 rfl rfl hc_adr hl.1 rfl (Nat.le_of_ble_eq_true rfl) ⟨by decide, by decide⟩ dX1_copy_27 (fun H locs hw => ?_)
          refine W.eq (g2 := F0 m 30 ls [.int (nI (ph_b M (a + k))), .long (lN (t + k)), .ref h1]) rfl ?_
          refine lv_i2l (v := lN (ph_b M (a + k))) hx hb dX1_copy_30 (nI_l (by omega)) ?_
          by_cases hin2 : ph_in (t + k)
          · rw [if_pos hin2] at hq
            refine hx_callV (rest := []) (n := 2) S hw (c_writeN l hst D tys cJ ht h0 h1 h2 (M, u.2) (t + k) (ph_b M (a + k)) (by omega) hin2) gX1_copy_X0_write rfl (by decide +kernel) rfl ⟨Nat.le_of_ble_eq_true rfl, Nat.le_of_ble_eq_true rfl⟩ 1 0 rfl rfl hc_adr hl.1 rfl (Nat.le_of_ble_eq_true rfl) ⟨by decide, by decide⟩ dX1_copy_31 (fun H locs hw => ?_)
            refine W.eq (g2 := F0 m 34 ls []) rfl ?_
            refine lv_lload hx hb dX1_copy_34 (lv_at hl 0 rfl) ?_
            refine lv_lconst (v := lN 1) hx hb dX1_copy_36 (by decide +kernel) ?_
            refine hn_ladd (v := lN (k + 1)) hx hb dX1_copy_37 (lN_add _ _) ?_
            refine lv_lstore (lv' := [(7, .long (lN (k + 1))), (0, .ref h0), (1, .long (lN a)), (3, .long (lN t)), (5, .long (lN n))]) hx hb dX1_copy_38 hl (by decide) rfl (fun ls hl => ?_)
            refine lv_goto (tgt := 3) hx hb dX1_copy_40 (by decide) ?_
            exact ih (k + 1) _ _ _ _ (by omega) hw (lv_sub hl [0, 1, 2, 3, 4] rfl) hq
          · rw [if_neg hin2] at hq
            cases hq
        · rw [if_neg hin] at hq
          cases hq
  exact loop n 0 _ _ _ _ (by omega) hw (lv_sub hl [0, 1, 2, 3, 4] rfl) hq0
set_option maxHeartbeats 4000000 in
set_option maxRecDepth 100000 in
theorem x_copy (l : Launch) (hst : l.stackTraces = false) (D : va_G) (tys : List (ClassId × FieldType)) (cJ : ClassId) (ht : tys[0]? = some (cJ, .long)) (h0 h1 h2 : Nat) (u : ph_H) (a t n : Nat) (M2 : ph_M) (ha : a < 4294967296) (hta : t < 4294967296) (hn : n < 4294967296) (hq0 : ph_cpy n u.1 a t = (false, M2)) : hx_X l D tys yX1_copy wsX1_copy 7 108 [.ref h0, .long (lN a), .long (lN t), .long (lN n)] (hc_W cJ h0 h1 h2 u) (hc_W cJ h0 h1 h2 (M2, u.2)) := by
  refine hx_X.ofW (cc := cX1_copy) (maxL := 9) (ret := none) (by decide) rfl (Nat.le_of_ble_eq_true rfl) ?_
  intro p e s m below meth c A ls hr S hno hw hl
  have S : hx_S p l s m _ meth c cX1_copy 9 wsX1_copy RX1 A D tys := S
  obtain ⟨⟨hx, hb, hml, hown, hts⟩, hK, hA, hE, hlk⟩ := id S
  have hi1 : ∀ w ∈ wsX10, w ∈ wsX1_copy := by decide +kernel
  have hl : lv_has ls 9 [(0, .ref h0), (1, .long (lN a)), (3, .long (lN t)), (5, .long (lN n))] := hl
  refine lv_lconst (v := lN 0) hx hb dX1_copy_0 (by decide +kernel) ?_
  refine lv_lstore (lv' := [(7, .long (lN 0)), (0, .ref h0), (1, .long (lN a)), (3, .long (lN t)), (5, .long (lN n))]) hx hb dX1_copy_1 hl (by decide) rfl (fun ls hl => ?_)
  have loop : ∀ (f k : Nat) (M : ph_M) (H : Heap) (locs : List Loc) (ls : Array Slot), k + f = n → hx_w D A s.heap (hc_W cJ h0 h1 h2 (M, u.2)) H locs → lv_has ls 9 [(7, .long (lN k)), (0, .ref h0), (1, .long (lN a)), (3, .long (lN t)), (5, .long (lN n))] → ph_cpy f M (a + k) (t + k) = (false, M2) → W p l e { frames := 7, cells := 1, slots := 6, locals := 108 } s m ([.ref h0, .long (lN a), .long (lN t), .long (lN n)] : List Value).toArray below meth c H locs 0 0 (vx_MQ below hx_no (hx_XC D A (hc_W cJ h0 h1 h2 (M2, u.2))) ([.ref h0, .long (lN a), .long (lN t), .long (lN n)] : List Value).toArray s 1 6 A) (F0 m 3 ls []) := by
    intro f
    induction f with
    | zero =>
      intro k M H locs ls hk hw hl hq
      cases hq
    | succ f ih =>
      intro k M H locs ls hk hw hl hq
      unfold ph_cpy at hq
      have gb := ph_b_lt M (a + k)
      refine lv_lload hx hb dX1_copy_3 (lv_at hl 0 rfl) ?_
      refine lv_lload hx hb dX1_copy_5 (lv_at hl 4 rfl) ?_
      refine hn_lge (a := k) (b := n) (tgt := 43) hx hb (by omega) (by omega) dX1_copy_7 dX1_copy_8 (by decide) (fun hc => ?_) (fun hc => ?_)
      · exact absurd hc (by omega)
      · refine lv_aload_n hx hb dX1_copy_11 rfl (lv_at hl 1 rfl) ?_
        refine va_get (D := D) (ci := 1) (v := .ref h1) (C := RX1) (T := TX1) (N := 3) hx hb hts hi1 hown hK hw.1 0 rfl rfl 0 (by decide) (hts (.fieldLink RX1 12 "HeapRow" "memory" "LHeapRow$Memory;") (by decide +kernel)) (fun _ h9 => h9) rfl dX1_copy_12 ?_
        refine lv_lload_n hx hb dX1_copy_15 rfl (lv_at hl 3 rfl) ?_
        refine lv_lload hx hb dX1_copy_16 (lv_at hl 0 rfl) ?_
        refine hn_ladd (v := lN (t + k)) hx hb dX1_copy_18 (lN_add _ _) ?_
        refine lv_aload_n hx hb dX1_copy_19 rfl (lv_at hl 1 rfl) ?_
        refine va_get (D := D) (ci := 1) (v := .ref h1) (C := RX1) (T := TX1) (N := 3) hx hb hts hi1 hown hK hw.1 0 rfl rfl 0 (by decide) (hts (.fieldLink RX1 12 "HeapRow" "memory" "LHeapRow$Memory;") (by decide +kernel)) (fun _ h9 => h9) rfl dX1_copy_20 ?_
        refine lv_lload_n hx hb dX1_copy_23 rfl (lv_at hl 2 rfl) ?_
        refine lv_lload hx hb dX1_copy_24 (lv_at hl 0 rfl) ?_
        refine hn_ladd (v := lN (a + k)) hx hb dX1_copy_26 (lN_add _ _) ?_
        by_cases hin : ph_in (a + k)
        · rw [if_pos hin] at hq
          refine hx_callV (rest := [.long (lN (t + k)), .ref h1]) (n := 1) S hw (c_read l hst D tys cJ ht h0 h1 h2 (M, u.2) (a + k) hin) gX1_copy_X0_read rfl (by decide +kernel) rfl ⟨Nat.le_of_ble_eq_true rfl, Nat.le_of_ble_eq_true rfl⟩ 1 0 rfl rfl hc_adr hl.1 rfl (Nat.le_of_ble_eq_true rfl) ⟨by decide, by decide⟩ dX1_copy_27 (fun H locs hw => ?_)
          refine W.eq (g2 := F0 m 30 ls [.int (nI (ph_b M (a + k))), .long (lN (t + k)), .ref h1]) rfl ?_
          refine lv_i2l (v := lN (ph_b M (a + k))) hx hb dX1_copy_30 (nI_l (by omega)) ?_
          by_cases hin2 : ph_in (t + k)
          · rw [if_pos hin2] at hq
            refine hx_callV (rest := []) (n := 2) S hw (c_writeN l hst D tys cJ ht h0 h1 h2 (M, u.2) (t + k) (ph_b M (a + k)) (by omega) hin2) gX1_copy_X0_write rfl (by decide +kernel) rfl ⟨Nat.le_of_ble_eq_true rfl, Nat.le_of_ble_eq_true rfl⟩ 1 0 rfl rfl hc_adr hl.1 rfl (Nat.le_of_ble_eq_true rfl) ⟨by decide, by decide⟩ dX1_copy_31 (fun H locs hw => ?_)
            refine W.eq (g2 := F0 m 34 ls []) rfl ?_
            refine lv_lload hx hb dX1_copy_34 (lv_at hl 0 rfl) ?_
            refine lv_lconst (v := lN 1) hx hb dX1_copy_36 (by decide +kernel) ?_
            refine hn_ladd (v := lN (k + 1)) hx hb dX1_copy_37 (lN_add _ _) ?_
            refine lv_lstore (lv' := [(7, .long (lN (k + 1))), (0, .ref h0), (1, .long (lN a)), (3, .long (lN t)), (5, .long (lN n))]) hx hb dX1_copy_38 hl (by decide) rfl (fun ls hl => ?_)
            refine lv_goto (tgt := 3) hx hb dX1_copy_40 (by decide) ?_
            exact ih (k + 1) _ _ _ _ (by omega) hw (lv_sub hl [0, 1, 2, 3, 4] rfl) hq
          · rw [if_neg hin2] at hq
            cases hq
            exact hx_thr (rest := []) (n := 2) S hno hw (x_write l hst D tys cJ ht h0 h1 h2 (M2, u.2) (t + k) (lN (ph_b M2 (a + k))) (by omega) hin2) gX1_copy_X0_write rfl (by decide +kernel) rfl ⟨Nat.le_of_ble_eq_true rfl, Nat.le_of_ble_eq_true rfl⟩ 1 0 rfl rfl hc_adr hl.1 rfl (Nat.le_of_ble_eq_true rfl) ⟨by decide, by decide⟩ dX1_copy_31
        · rw [if_neg hin] at hq
          cases hq
          exact hx_thr (rest := [.long (lN (t + k)), .ref h1]) (n := 1) S hno hw (x_read l hst D tys cJ ht h0 h1 h2 (M2, u.2) (a + k) (by omega) hin) gX1_copy_X0_read rfl (by decide +kernel) rfl ⟨Nat.le_of_ble_eq_true rfl, Nat.le_of_ble_eq_true rfl⟩ 1 0 rfl rfl hc_adr hl.1 rfl (Nat.le_of_ble_eq_true rfl) ⟨by decide, by decide⟩ dX1_copy_27
  exact loop n 0 _ _ _ _ (by omega) hw (lv_sub hl [0, 1, 2, 3, 4] rfl) hq0
end
section
/-! HeapRow: taking and giving back -/
set_option maxHeartbeats 4000000 in
set_option maxRecDepth 100000 in
theorem c_takeFree1 (l : Launch) (hst : l.stackTraces = false) (D : va_G) (tys : List (ClassId × FieldType)) (cJ : ClassId) (ht : tys[0]? = some (cJ, .long)) (h0 h1 h2 : Nat) (u : ph_H) (b n : Nat) (g1 : 1024 ≤ b) (g2 : b < 61440) (gs : n ≤ ph_n u.1 b) (h : ph_n u.1 b < n + 16) : hx_R l D tys yX1_takeFree wsX1_takeFree 9 158 [.ref h0, .long (lN b), .long (lN n)] (hc_W cJ h0 h1 h2 u) (hc_W cJ h0 h1 h2 (ph_sn u.1 (b + 4) 1, u.2)) (none) := by
  refine hx_R.ofW (cc := cX1_takeFree) (maxL := 7) (ret := none) (by decide) rfl (Nat.le_of_ble_eq_true rfl) ?_
  intro p e s m below meth c A ls hr S hw hl
  have S : hx_S p l s m _ meth c cX1_takeFree 7 wsX1_takeFree RX1 A D tys := S
  obtain ⟨⟨hx, hb, hml, hown, hts⟩, hK, hA, hE, hlk⟩ := id S
  have hi1 : ∀ w ∈ wsX10, w ∈ wsX1_takeFree := by decide +kernel
  have hl : lv_has ls 7 [(0, .ref h0), (1, .long (lN b)), (3, .long (lN n))] := hl
  have gn := ph_n_lt u.1 b
  refine lv_aload_n hx hb dX1_takeFree_0 rfl (lv_at hl 0 rfl) ?_
  refine lv_lload_n hx hb dX1_takeFree_1 rfl (lv_at hl 1 rfl) ?_
  refine hx_callV (rest := []) (n := 1) S hw (c_size l hst D tys cJ ht h0 h1 h2 u b ⟨by omega, by omega⟩) gX1_takeFree_X1_size rfl (by decide +kernel) rfl ⟨Nat.le_of_ble_eq_true rfl, Nat.le_of_ble_eq_true rfl⟩ 0 1 rfl rfl hc_adr hl.1 rfl (Nat.le_of_ble_eq_true rfl) ⟨by decide, by decide⟩ dX1_takeFree_2 (fun H locs hw => ?_)
  refine W.eq (g2 := F0 m 5 ls [.long (lN (ph_n u.1 b))]) rfl ?_
  refine lv_lstore (lv' := [(5, .long (lN (ph_n u.1 b))), (0, .ref h0), (1, .long (lN b)), (3, .long (lN n))]) hx hb dX1_takeFree_5 hl (by decide) rfl (fun ls hl => ?_)
  refine lv_lload hx hb dX1_takeFree_7 (lv_at hl 0 rfl) ?_
  refine lv_lload_n hx hb dX1_takeFree_9 rfl (lv_at hl 3 rfl) ?_
  refine lv_ldc2 (v := lN 16) hx hb hown (hts (.constantLong RX1 101 (lN 16)) (by decide +kernel)) dX1_takeFree_10 ?_
  refine hn_ladd (v := lN (n + 16)) hx hb dX1_takeFree_13 (lN_add _ _) ?_
  refine hn_lge (a := (ph_n u.1 b)) (b := (n + 16)) (tgt := 27) hx hb (by omega) (by omega) dX1_takeFree_14 dX1_takeFree_15 (by decide) (fun hc => ?_) (fun hc => ?_)
  · exact absurd hc (by omega)
  · have e : (ph_wh u.1 b (ph_n u.1 b) 1).2 = ph_sn u.1 (b + 4) 1 := by rw [ph_wh_of ⟨by omega, by omega⟩ ⟨by omega, by omega⟩]; show ph_sn (ph_sn u.1 b (ph_n u.1 b)) (b + 4) 1 = _; rw [ph_sn_self]
    refine lv_aload_n hx hb dX1_takeFree_18 rfl (lv_at hl 1 rfl) ?_
    refine lv_lload_n hx hb dX1_takeFree_19 rfl (lv_at hl 2 rfl) ?_
    refine lv_lload hx hb dX1_takeFree_20 (lv_at hl 0 rfl) ?_
    refine lv_iconst (v := nI 1) hx hb dX1_takeFree_22 (by decide +kernel) ?_
    refine hx_callV (rest := []) (n := 3) S hw (c_writeHeader l hst D tys cJ ht h0 h1 h2 u (b) (ph_n u.1 b) 1 (by omega) (by decide) (by rw [ph_wh_of ⟨by omega, by omega⟩ ⟨by omega, by omega⟩])) gX1_takeFree_X1_writeHeader rfl (by decide +kernel) rfl ⟨Nat.le_of_ble_eq_true rfl, Nat.le_of_ble_eq_true rfl⟩ 0 1 rfl rfl hc_adr hl.1 rfl (Nat.le_of_ble_eq_true rfl) ⟨by decide, by decide⟩ dX1_takeFree_23 (fun H locs hw => ?_)
    refine W.eq (g2 := F0 m 26 ls []) rfl ?_
    rw [e] at hw
    exact hx_vret S hr hw dX1_takeFree_26
set_option maxHeartbeats 4000000 in
set_option maxRecDepth 100000 in
theorem c_takeFree2 (l : Launch) (hst : l.stackTraces = false) (D : va_G) (tys : List (ClassId × FieldType)) (cJ : ClassId) (ht : tys[0]? = some (cJ, .long)) (h0 h1 h2 : Nat) (u : ph_H) (b n : Nat) (g1 : 1024 ≤ b) (g2 : b < 61440) (gs : n ≤ ph_n u.1 b) (h : ¬ ph_n u.1 b < n + 16) (hp1 : (ph_wh u.1 (b + 8 + n) (ph_n u.1 b - n - 8) 0).1 = true) : hx_R l D tys yX1_takeFree wsX1_takeFree 9 158 [.ref h0, .long (lN b), .long (lN n)] (hc_W cJ h0 h1 h2 u) (hc_W cJ h0 h1 h2 (ph_sn (ph_sn (ph_wh u.1 (b + 8 + n) (ph_n u.1 b - n - 8) 0).2 b n) (b + 4) 1, u.2)) (none) := by
  refine hx_R.ofW (cc := cX1_takeFree) (maxL := 7) (ret := none) (by decide) rfl (Nat.le_of_ble_eq_true rfl) ?_
  intro p e s m below meth c A ls hr S hw hl
  have S : hx_S p l s m _ meth c cX1_takeFree 7 wsX1_takeFree RX1 A D tys := S
  obtain ⟨⟨hx, hb, hml, hown, hts⟩, hK, hA, hE, hlk⟩ := id S
  have hi1 : ∀ w ∈ wsX10, w ∈ wsX1_takeFree := by decide +kernel
  have hl : lv_has ls 7 [(0, .ref h0), (1, .long (lN b)), (3, .long (lN n))] := hl
  have gn := ph_n_lt u.1 b
  refine lv_aload_n hx hb dX1_takeFree_0 rfl (lv_at hl 0 rfl) ?_
  refine lv_lload_n hx hb dX1_takeFree_1 rfl (lv_at hl 1 rfl) ?_
  refine hx_callV (rest := []) (n := 1) S hw (c_size l hst D tys cJ ht h0 h1 h2 u b ⟨by omega, by omega⟩) gX1_takeFree_X1_size rfl (by decide +kernel) rfl ⟨Nat.le_of_ble_eq_true rfl, Nat.le_of_ble_eq_true rfl⟩ 0 1 rfl rfl hc_adr hl.1 rfl (Nat.le_of_ble_eq_true rfl) ⟨by decide, by decide⟩ dX1_takeFree_2 (fun H locs hw => ?_)
  refine W.eq (g2 := F0 m 5 ls [.long (lN (ph_n u.1 b))]) rfl ?_
  refine lv_lstore (lv' := [(5, .long (lN (ph_n u.1 b))), (0, .ref h0), (1, .long (lN b)), (3, .long (lN n))]) hx hb dX1_takeFree_5 hl (by decide) rfl (fun ls hl => ?_)
  refine lv_lload hx hb dX1_takeFree_7 (lv_at hl 0 rfl) ?_
  refine lv_lload_n hx hb dX1_takeFree_9 rfl (lv_at hl 3 rfl) ?_
  refine lv_ldc2 (v := lN 16) hx hb hown (hts (.constantLong RX1 101 (lN 16)) (by decide +kernel)) dX1_takeFree_10 ?_
  refine hn_ladd (v := lN (n + 16)) hx hb dX1_takeFree_13 (lN_add _ _) ?_
  refine hn_lge (a := (ph_n u.1 b)) (b := (n + 16)) (tgt := 27) hx hb (by omega) (by omega) dX1_takeFree_14 dX1_takeFree_15 (by decide) (fun hc => ?_) (fun hc => ?_)
  · have e : (ph_wh (ph_wh u.1 (b + 8 + n) (ph_n u.1 b - n - 8) 0).2 b n 1).2 = ph_sn (ph_sn (ph_wh u.1 (b + 8 + n) (ph_n u.1 b - n - 8) 0).2 b n) (b + 4) 1 := by rw [ph_wh_of (m := (ph_wh u.1 (b + 8 + n) (ph_n u.1 b - n - 8) 0).2) (a := b) ⟨by omega, by omega⟩ ⟨by omega, by omega⟩]
    refine lv_aload_n hx hb dX1_takeFree_27 rfl (lv_at hl 1 rfl) ?_
    refine lv_lload_n hx hb dX1_takeFree_28 rfl (lv_at hl 2 rfl) ?_
    refine lv_ldc2 (v := lN 8) hx hb hown (hts (.constantLong RX1 72 (lN 8)) (by decide +kernel)) dX1_takeFree_29 ?_
    refine hn_ladd (v := lN (b + 8)) hx hb dX1_takeFree_32 (lN_add _ _) ?_
    refine lv_lload_n hx hb dX1_takeFree_33 rfl (lv_at hl 3 rfl) ?_
    refine hn_ladd (v := lN ((b + 8) + n)) hx hb dX1_takeFree_34 (lN_add _ _) ?_
    refine lv_lload hx hb dX1_takeFree_35 (lv_at hl 0 rfl) ?_
    refine lv_lload_n hx hb dX1_takeFree_37 rfl (lv_at hl 3 rfl) ?_
    refine hn_lsub (v := lN ((ph_n u.1 b) - n)) hx hb dX1_takeFree_38 (lN_sub (by omega)) ?_
    refine lv_ldc2 (v := lN 8) hx hb hown (hts (.constantLong RX1 72 (lN 8)) (by decide +kernel)) dX1_takeFree_39 ?_
    refine hn_lsub (v := lN (((ph_n u.1 b) - n) - 8)) hx hb dX1_takeFree_42 (lN_sub (by omega)) ?_
    refine lv_iconst (v := nI 0) hx hb dX1_takeFree_43 (by decide +kernel) ?_
    refine hx_callV (rest := []) (n := 3) S hw (c_writeHeader l hst D tys cJ ht h0 h1 h2 u (b + 8 + n) (ph_n u.1 b - n - 8) 0 (by omega) (by decide) (hp1)) gX1_takeFree_X1_writeHeader rfl (by decide +kernel) rfl ⟨Nat.le_of_ble_eq_true rfl, Nat.le_of_ble_eq_true rfl⟩ 0 1 rfl rfl hc_adr hl.1 rfl (Nat.le_of_ble_eq_true rfl) ⟨by decide, by decide⟩ dX1_takeFree_44 (fun H locs hw => ?_)
    refine W.eq (g2 := F0 m 47 ls []) rfl ?_
    refine lv_aload_n hx hb dX1_takeFree_47 rfl (lv_at hl 1 rfl) ?_
    refine lv_lload_n hx hb dX1_takeFree_48 rfl (lv_at hl 2 rfl) ?_
    refine lv_lload_n hx hb dX1_takeFree_49 rfl (lv_at hl 3 rfl) ?_
    refine lv_iconst (v := nI 1) hx hb dX1_takeFree_50 (by decide +kernel) ?_
    refine hx_callV (rest := []) (n := 3) S hw (c_writeHeader l hst D tys cJ ht h0 h1 h2 ((ph_wh u.1 (b + 8 + n) (ph_n u.1 b - n - 8) 0).2, u.2) (b) (n) 1 (by omega) (by decide) (by show (ph_wh (ph_wh u.1 (b + 8 + n) (ph_n u.1 b - n - 8) 0).2 b n 1).1 = true; rw [ph_wh_of (m := (ph_wh u.1 (b + 8 + n) (ph_n u.1 b - n - 8) 0).2) (a := b) ⟨by omega, by omega⟩ ⟨by omega, by omega⟩])) gX1_takeFree_X1_writeHeader rfl (by decide +kernel) rfl ⟨Nat.le_of_ble_eq_true rfl, Nat.le_of_ble_eq_true rfl⟩ 0 1 rfl rfl hc_adr hl.1 rfl (Nat.le_of_ble_eq_true rfl) ⟨by decide, by decide⟩ dX1_takeFree_51 (fun H locs hw => ?_)
    refine W.eq (g2 := F0 m 54 ls []) rfl ?_
    have hw : hx_w D A s.heap (hc_W cJ h0 h1 h2 (ph_sn (ph_sn (ph_wh u.1 (b + 8 + n) (ph_n u.1 b - n - 8) 0).2 b n) (b + 4) 1, u.2)) H locs := by rw [← e]; exact hw
    exact hx_vret S hr hw dX1_takeFree_54
  · exact absurd hc (by omega)
set_option maxHeartbeats 4000000 in
set_option maxRecDepth 100000 in
theorem x_takeFree (l : Launch) (hst : l.stackTraces = false) (D : va_G) (tys : List (ClassId × FieldType)) (cJ : ClassId) (ht : tys[0]? = some (cJ, .long)) (h0 h1 h2 : Nat) (u : ph_H) (b n : Nat) (g1 : 1024 ≤ b) (g2 : b < 61440) (gs : n ≤ ph_n u.1 b) (h : ¬ ph_n u.1 b < n + 16) (hp1 : ¬ (ph_wh u.1 (b + 8 + n) (ph_n u.1 b - n - 8) 0).1 = true) : hx_X l D tys yX1_takeFree wsX1_takeFree 9 158 [.ref h0, .long (lN b), .long (lN n)] (hc_W cJ h0 h1 h2 u) (hc_W cJ h0 h1 h2 ((ph_wh u.1 (b + 8 + n) (ph_n u.1 b - n - 8) 0).2, u.2)) := by
  refine hx_X.ofW (cc := cX1_takeFree) (maxL := 7) (ret := none) (by decide) rfl (Nat.le_of_ble_eq_true rfl) ?_
  intro p e s m below meth c A ls hr S hno hw hl
  have S : hx_S p l s m _ meth c cX1_takeFree 7 wsX1_takeFree RX1 A D tys := S
  obtain ⟨⟨hx, hb, hml, hown, hts⟩, hK, hA, hE, hlk⟩ := id S
  have hi1 : ∀ w ∈ wsX10, w ∈ wsX1_takeFree := by decide +kernel
  have hl : lv_has ls 7 [(0, .ref h0), (1, .long (lN b)), (3, .long (lN n))] := hl
  have gn := ph_n_lt u.1 b
  refine lv_aload_n hx hb dX1_takeFree_0 rfl (lv_at hl 0 rfl) ?_
  refine lv_lload_n hx hb dX1_takeFree_1 rfl (lv_at hl 1 rfl) ?_
  refine hx_callV (rest := []) (n := 1) S hw (c_size l hst D tys cJ ht h0 h1 h2 u b ⟨by omega, by omega⟩) gX1_takeFree_X1_size rfl (by decide +kernel) rfl ⟨Nat.le_of_ble_eq_true rfl, Nat.le_of_ble_eq_true rfl⟩ 0 1 rfl rfl hc_adr hl.1 rfl (Nat.le_of_ble_eq_true rfl) ⟨by decide, by decide⟩ dX1_takeFree_2 (fun H locs hw => ?_)
  refine W.eq (g2 := F0 m 5 ls [.long (lN (ph_n u.1 b))]) rfl ?_
  refine lv_lstore (lv' := [(5, .long (lN (ph_n u.1 b))), (0, .ref h0), (1, .long (lN b)), (3, .long (lN n))]) hx hb dX1_takeFree_5 hl (by decide) rfl (fun ls hl => ?_)
  refine lv_lload hx hb dX1_takeFree_7 (lv_at hl 0 rfl) ?_
  refine lv_lload_n hx hb dX1_takeFree_9 rfl (lv_at hl 3 rfl) ?_
  refine lv_ldc2 (v := lN 16) hx hb hown (hts (.constantLong RX1 101 (lN 16)) (by decide +kernel)) dX1_takeFree_10 ?_
  refine hn_ladd (v := lN (n + 16)) hx hb dX1_takeFree_13 (lN_add _ _) ?_
  refine hn_lge (a := (ph_n u.1 b)) (b := (n + 16)) (tgt := 27) hx hb (by omega) (by omega) dX1_takeFree_14 dX1_takeFree_15 (by decide) (fun hc => ?_) (fun hc => ?_)
  · refine lv_aload_n hx hb dX1_takeFree_27 rfl (lv_at hl 1 rfl) ?_
    refine lv_lload_n hx hb dX1_takeFree_28 rfl (lv_at hl 2 rfl) ?_
    refine lv_ldc2 (v := lN 8) hx hb hown (hts (.constantLong RX1 72 (lN 8)) (by decide +kernel)) dX1_takeFree_29 ?_
    refine hn_ladd (v := lN (b + 8)) hx hb dX1_takeFree_32 (lN_add _ _) ?_
    refine lv_lload_n hx hb dX1_takeFree_33 rfl (lv_at hl 3 rfl) ?_
    refine hn_ladd (v := lN ((b + 8) + n)) hx hb dX1_takeFree_34 (lN_add _ _) ?_
    refine lv_lload hx hb dX1_takeFree_35 (lv_at hl 0 rfl) ?_
    refine lv_lload_n hx hb dX1_takeFree_37 rfl (lv_at hl 3 rfl) ?_
    refine hn_lsub (v := lN ((ph_n u.1 b) - n)) hx hb dX1_takeFree_38 (lN_sub (by omega)) ?_
    refine lv_ldc2 (v := lN 8) hx hb hown (hts (.constantLong RX1 72 (lN 8)) (by decide +kernel)) dX1_takeFree_39 ?_
    refine hn_lsub (v := lN (((ph_n u.1 b) - n) - 8)) hx hb dX1_takeFree_42 (lN_sub (by omega)) ?_
    refine lv_iconst (v := nI 0) hx hb dX1_takeFree_43 (by decide +kernel) ?_
    exact hx_thr (rest := []) (n := 3) S hno hw (x_writeHeader l hst D tys cJ ht h0 h1 h2 u (b + 8 + n) (ph_n u.1 b - n - 8) 0 (by omega) (by omega) (by decide) hp1) gX1_takeFree_X1_writeHeader rfl (by decide +kernel) rfl ⟨Nat.le_of_ble_eq_true rfl, Nat.le_of_ble_eq_true rfl⟩ 0 1 rfl rfl hc_adr hl.1 rfl (Nat.le_of_ble_eq_true rfl) ⟨by decide, by decide⟩ dX1_takeFree_44
  · exact absurd hc (by omega)
set_option maxHeartbeats 4000000 in
set_option maxRecDepth 100000 in
theorem c_takeAtEnd (l : Launch) (hst : l.stackTraces = false) (D : va_G) (tys : List (ClassId × FieldType)) (cJ : ClassId) (ht : tys[0]? = some (cJ, .long)) (h0 h1 h2 : Nat) (u : ph_H) (n : Nat) (hu : ph_I u) (h : u.2.1 + 8 + n ≤ 61440) : hx_R l D tys yX1_takeAtEnd wsX1_takeAtEnd 9 158 [.ref h0, .long (lN n)] (hc_W cJ h0 h1 h2 u) (hc_W cJ h0 h1 h2 (ph_sn (ph_sn u.1 u.2.1 n) (u.2.1 + 4) 1, u.2.1 + 8 + n, u.2.2)) (some (.long (lN (u.2.1 + 8)))) := by
  refine hx_R.ofW (cc := cX1_takeAtEnd) (maxL := 5) (ret := (some .long)) (by decide) rfl (Nat.le_of_ble_eq_true rfl) ?_
  intro p e s m below meth c A ls hr S hw hl
  have S : hx_S p l s m _ meth c cX1_takeAtEnd 5 wsX1_takeAtEnd RX1 A D tys := S
  obtain ⟨⟨hx, hb, hml, hown, hts⟩, hK, hA, hE, hlk⟩ := id S
  have hi1 : ∀ w ∈ wsX10, w ∈ wsX1_takeAtEnd := by decide +kernel
  have hl : lv_has ls 5 [(0, .ref h0), (1, .long (lN n))] := hl
  obtain ⟨i1, i2, i3, i4⟩ := hu
  have e : (ph_wh u.1 u.2.1 n 1).2 = ph_sn (ph_sn u.1 u.2.1 n) (u.2.1 + 4) 1 := by rw [ph_wh_of ⟨by omega, by omega⟩ ⟨by omega, by omega⟩]
  refine lv_aload_n hx hb dX1_takeAtEnd_0 rfl (lv_at hl 0 rfl) ?_
  refine va_get (D := D) (ci := 1) (v := .long (lN u.2.1)) (C := RX1) (T := TX1) (N := 3) hx hb hts hi1 hown hK hw.1 0 rfl rfl 1 (by decide) (hts (.fieldLink RX1 18 "HeapRow" "end" "J") (by decide +kernel)) (fun _ h9 => h9) rfl dX1_takeAtEnd_1 ?_
  refine lv_ldc2 (v := lN 8) hx hb hown (hts (.constantLong RX1 72 (lN 8)) (by decide +kernel)) dX1_takeAtEnd_4 ?_
  refine hn_ladd (v := lN (u.2.1 + 8)) hx hb dX1_takeAtEnd_7 (lN_add _ _) ?_
  refine lv_lstore_n (lv' := [(3, .long (lN (u.2.1 + 8))), (0, .ref h0), (1, .long (lN n))]) hx hb dX1_takeAtEnd_8 rfl hl (by decide) rfl (fun ls hl => ?_)
  refine lv_aload_n hx hb dX1_takeAtEnd_9 rfl (lv_at hl 1 rfl) ?_
  refine lv_aload_n hx hb dX1_takeAtEnd_10 rfl (lv_at hl 1 rfl) ?_
  refine va_get (D := D) (ci := 1) (v := .long (lN u.2.1)) (C := RX1) (T := TX1) (N := 3) hx hb hts hi1 hown hK hw.1 0 rfl rfl 1 (by decide) (hts (.fieldLink RX1 18 "HeapRow" "end" "J") (by decide +kernel)) (fun _ h9 => h9) rfl dX1_takeAtEnd_11 ?_
  refine lv_lload_n hx hb dX1_takeAtEnd_14 rfl (lv_at hl 2 rfl) ?_
  refine lv_iconst (v := nI 1) hx hb dX1_takeAtEnd_15 (by decide +kernel) ?_
  refine hx_callV (rest := []) (n := 3) S hw (c_writeHeader l hst D tys cJ ht h0 h1 h2 u (u.2.1) (n) 1 (by omega) (by decide) (by rw [ph_wh_of ⟨by omega, by omega⟩ ⟨by omega, by omega⟩])) gX1_takeAtEnd_X1_writeHeader rfl (by decide +kernel) rfl ⟨Nat.le_of_ble_eq_true rfl, Nat.le_of_ble_eq_true rfl⟩ 0 1 rfl rfl hc_adr hl.1 rfl (Nat.le_of_ble_eq_true rfl) ⟨by decide, by decide⟩ dX1_takeAtEnd_16 (fun H locs hw => ?_)
  refine W.eq (g2 := F0 m 19 ls []) rfl ?_
  rw [e] at hw
  refine lv_aload_n hx hb dX1_takeAtEnd_19 rfl (lv_at hl 1 rfl) ?_
  refine lv_lload_n hx hb dX1_takeAtEnd_20 rfl (lv_at hl 0 rfl) ?_
  refine lv_lload_n hx hb dX1_takeAtEnd_21 rfl (lv_at hl 2 rfl) ?_
  refine hn_ladd (v := lN ((u.2.1 + 8) + n)) hx hb dX1_takeAtEnd_22 (lN_add _ _) ?_
  refine va_put (D := D) (ci := 1) (v := .long (lN ((u.2.1 + 8) + n))) (ty := .long) (C := RX1) (T := TX1) (N := 3) hx hb hts hi1 tyX1 tyX1_ok nmX1 hown hK hw.1 hw.2.1 hw.2.2 0 rfl rfl 1 (by decide) (hts (.fieldLink RX1 18 "HeapRow" "end" "J") (by decide +kernel)) (fun _ h9 => h9) rfl (by decide +kernel) rfl rfl (Nat.le_of_ble_eq_true rfl) dX1_takeAtEnd_23 (fun H locs y1 y2 y3 => ?_)
  have hw : hx_w D A s.heap (hc_W cJ h0 h1 h2 (ph_sn (ph_sn u.1 u.2.1 n) (u.2.1 + 4) 1, u.2.1 + 8 + n, u.2.2)) H locs := ⟨y1, y2, y3⟩
  refine lv_lload_n hx hb dX1_takeAtEnd_26 rfl (lv_at hl 0 rfl) ?_
  exact hx_lret S hr hw dX1_takeAtEnd_27
set_option maxHeartbeats 4000000 in
set_option maxRecDepth 100000 in
theorem c_joinNext (l : Launch) (hst : l.stackTraces = false) (D : va_G) (tys : List (ClassId × FieldType)) (cJ : ClassId) (ht : tys[0]? = some (cJ, .long)) (h0 h1 h2 : Nat) (u : ph_H) (b : Nat) (hu : ph_I u) (g1 : 1024 ≤ b) (g2 : b < 61440) : hx_R l D tys yX1_joinNext wsX1_joinNext 9 158 [.ref h0, .long (lN b)] (hc_W cJ h0 h1 h2 u) (hc_W cJ h0 h1 h2 (ph_jn u.1 u.2.1 b, u.2)) (none) := by
  refine hx_R.ofW (cc := cX1_joinNext) (maxL := 5) (ret := none) (by decide) rfl (Nat.le_of_ble_eq_true rfl) ?_
  intro p e s m below meth c A ls hr S hw hl
  have S : hx_S p l s m _ meth c cX1_joinNext 5 wsX1_joinNext RX1 A D tys := S
  obtain ⟨⟨hx, hb, hml, hown, hts⟩, hK, hA, hE, hlk⟩ := id S
  have hi1 : ∀ w ∈ wsX10, w ∈ wsX1_joinNext := by decide +kernel
  have hl : lv_has ls 5 [(0, .ref h0), (1, .long (lN b))] := hl
  obtain ⟨i1, i2, i3, i4⟩ := hu
  have gn := ph_n_lt u.1 b
  refine lv_aload_n hx hb dX1_joinNext_0 rfl (lv_at hl 0 rfl) ?_
  refine lv_lload_n hx hb dX1_joinNext_1 rfl (lv_at hl 1 rfl) ?_
  refine hx_callV (rest := []) (n := 1) S hw (c_next l hst D tys cJ ht h0 h1 h2 u b ⟨by omega, by omega⟩) gX1_joinNext_X1_next rfl (by decide +kernel) rfl ⟨Nat.le_of_ble_eq_true rfl, Nat.le_of_ble_eq_true rfl⟩ 0 1 rfl rfl hc_adr hl.1 rfl (Nat.le_of_ble_eq_true rfl) ⟨by decide, by decide⟩ dX1_joinNext_2 (fun H locs hw => ?_)
  refine W.eq (g2 := F0 m 5 ls [.long (lN (b + 8 + ph_n u.1 b))]) rfl ?_
  refine lv_lstore_n (lv' := [(3, .long (lN (b + 8 + ph_n u.1 b))), (0, .ref h0), (1, .long (lN b))]) hx hb dX1_joinNext_5 rfl hl (by decide) rfl (fun ls hl => ?_)
  refine lv_lload_n hx hb dX1_joinNext_6 rfl (lv_at hl 0 rfl) ?_
  refine lv_aload_n hx hb dX1_joinNext_7 rfl (lv_at hl 1 rfl) ?_
  refine va_get (D := D) (ci := 1) (v := .long (lN u.2.1)) (C := RX1) (T := TX1) (N := 3) hx hb hts hi1 hown hK hw.1 0 rfl rfl 1 (by decide) (hts (.fieldLink RX1 18 "HeapRow" "end" "J") (by decide +kernel)) (fun _ h9 => h9) rfl dX1_joinNext_8 ?_
  refine hn_lge (a := (b + 8 + ph_n u.1 b)) (b := u.2.1) (tgt := 44) hx hb (by omega) (by omega) dX1_joinNext_11 dX1_joinNext_12 (by decide) (fun hc => ?_) (fun hc => ?_)
  · have e : ph_jn u.1 u.2.1 b = u.1 := if_neg (fun z => absurd z.1 (by omega))
    rw [e]
    exact hx_vret S hr hw dX1_joinNext_44
  · have gn2 := ph_n_lt u.1 (b + 8 + ph_n u.1 b)
    refine lv_aload_n hx hb dX1_joinNext_15 rfl (lv_at hl 1 rfl) ?_
    refine lv_lload_n hx hb dX1_joinNext_16 rfl (lv_at hl 0 rfl) ?_
    refine hx_callV (rest := []) (n := 1) S hw (c_isTaken l hst D tys cJ ht h0 h1 h2 u (b + 8 + ph_n u.1 b) ⟨by omega, by omega⟩) gX1_joinNext_X1_isTaken rfl (by decide +kernel) rfl ⟨Nat.le_of_ble_eq_true rfl, Nat.le_of_ble_eq_true rfl⟩ 0 1 rfl rfl hc_adr hl.1 rfl (Nat.le_of_ble_eq_true rfl) ⟨by decide, by decide⟩ dX1_joinNext_17 (fun H locs hw => ?_)
    refine W.eq (g2 := F0 m 20 ls [.int (if ph_n u.1 ((b + 8 + ph_n u.1 b) + 4) = 1 then nI 1 else nI 0)]) rfl ?_
    refine hn_pne (tgt := 44) hx hb dX1_joinNext_20 (by decide) (fun hc2 => ?_) (fun hc2 => ?_)
    · have e : ph_jn u.1 u.2.1 b = u.1 := if_neg (fun z => z.2 hc2)
      rw [e]
      exact hx_vret S hr hw dX1_joinNext_44
    · refine lv_aload_n hx hb dX1_joinNext_23 rfl (lv_at hl 1 rfl) ?_
      refine lv_lload_n hx hb dX1_joinNext_24 rfl (lv_at hl 2 rfl) ?_
      refine lv_aload_n hx hb dX1_joinNext_25 rfl (lv_at hl 1 rfl) ?_
      refine lv_lload_n hx hb dX1_joinNext_26 rfl (lv_at hl 2 rfl) ?_
      refine hx_callV (rest := [.long (lN b), .ref h0]) (n := 1) S hw (c_size l hst D tys cJ ht h0 h1 h2 u b ⟨by omega, by omega⟩) gX1_joinNext_X1_size rfl (by decide +kernel) rfl ⟨Nat.le_of_ble_eq_true rfl, Nat.le_of_ble_eq_true rfl⟩ 0 1 rfl rfl hc_adr hl.1 rfl (Nat.le_of_ble_eq_true rfl) ⟨by decide, by decide⟩ dX1_joinNext_27 (fun H locs hw => ?_)
      refine W.eq (g2 := F0 m 30 ls [.long (lN (ph_n u.1 b)), .long (lN b), .ref h0]) rfl ?_
      refine lv_ldc2 (v := lN 8) hx hb hown (hts (.constantLong RX1 72 (lN 8)) (by decide +kernel)) dX1_joinNext_30 ?_
      refine hn_ladd (v := lN ((ph_n u.1 b) + 8)) hx hb dX1_joinNext_33 (lN_add _ _) ?_
      refine lv_aload_n hx hb dX1_joinNext_34 rfl (lv_at hl 1 rfl) ?_
      refine lv_lload_n hx hb dX1_joinNext_35 rfl (lv_at hl 0 rfl) ?_
      refine hx_callV (rest := [.long (lN ((ph_n u.1 b) + 8)), .long (lN b), .ref h0]) (n := 1) S hw (c_size l hst D tys cJ ht h0 h1 h2 u (b + 8 + ph_n u.1 b) ⟨by omega, by omega⟩) gX1_joinNext_X1_size rfl (by decide +kernel) rfl ⟨Nat.le_of_ble_eq_true rfl, Nat.le_of_ble_eq_true rfl⟩ 0 1 rfl rfl hc_adr hl.1 rfl (Nat.le_of_ble_eq_true rfl) ⟨by decide, by decide⟩ dX1_joinNext_36 (fun H locs hw => ?_)
      refine W.eq (g2 := F0 m 39 ls [.long (lN (ph_n u.1 (b + 8 + ph_n u.1 b))), .long (lN ((ph_n u.1 b) + 8)), .long (lN b), .ref h0]) rfl ?_
      refine hn_ladd (v := lN (((ph_n u.1 b) + 8) + (ph_n u.1 (b + 8 + ph_n u.1 b)))) hx hb dX1_joinNext_39 (lN_add _ _) ?_
      refine lv_iconst (v := nI 0) hx hb dX1_joinNext_40 (by decide +kernel) ?_
      have e : ph_jn u.1 u.2.1 b = (ph_wh u.1 b (ph_n u.1 b + 8 + ph_n u.1 (b + 8 + ph_n u.1 b)) 0).2 := by rw [ph_wh_of ⟨by omega, by omega⟩ ⟨by omega, by omega⟩]; exact if_pos ⟨hc, hc2⟩
      refine hx_callV (rest := []) (n := 3) S hw (c_writeHeader l hst D tys cJ ht h0 h1 h2 u (b) (ph_n u.1 b + 8 + ph_n u.1 (b + 8 + ph_n u.1 b)) 0 (by omega) (by decide) (by rw [ph_wh_of ⟨by omega, by omega⟩ ⟨by omega, by omega⟩])) gX1_joinNext_X1_writeHeader rfl (by decide +kernel) rfl ⟨Nat.le_of_ble_eq_true rfl, Nat.le_of_ble_eq_true rfl⟩ 0 1 rfl rfl hc_adr hl.1 rfl (Nat.le_of_ble_eq_true rfl) ⟨by decide, by decide⟩ dX1_joinNext_41 (fun H locs hw => ?_)
      refine W.eq (g2 := F0 m 44 ls []) rfl ?_
      rw [e]
      exact hx_vret S hr hw dX1_joinNext_44
theorem ph_jn_low (m : ph_M) {e b j : Nat} (h : j < b) : ph_b (ph_jn m e b) j = ph_b m j := by
  unfold ph_jn
  split
  · rw [ph_sn_off _ _ (by omega), ph_sn_off _ _ (by omega)]
  · rfl
theorem ph_g1_low (m : ph_M) {e b j : Nat} (h : j < b) : ph_b (ph_g1 m e b) j = ph_b m j := by
  unfold ph_g1
  rw [ph_jn_low _ h, ph_sn_off _ _ (by omega)]
set_option maxHeartbeats 4000000 in
set_option maxRecDepth 100000 in
theorem c_giveBack (l : Launch) (hst : l.stackTraces = false) (D : va_G) (tys : List (ClassId × FieldType)) (cJ : ClassId) (ht : tys[0]? = some (cJ, .long)) (h0 h1 h2 : Nat) (u : ph_H) (a b p0 : Nat) (hu : ph_I u) (hq : ph_fd u.1 u.2.1 a 8064 0 1024 = some (b, p0)) : hx_R l D tys yX1_giveBack wsX1_giveBack 10 182 [.ref h0, .long (lN b)] (hc_W cJ h0 h1 h2 u) (hc_W cJ h0 h1 h2 (ph_gb u b p0)) (none) := by
  refine hx_R.ofW (cc := cX1_giveBack) (maxL := 7) (ret := none) (by decide) rfl (Nat.le_of_ble_eq_true rfl) ?_
  intro p e s m below meth c A ls hr S hw hl
  have S : hx_S p l s m _ meth c cX1_giveBack 7 wsX1_giveBack RX1 A D tys := S
  obtain ⟨⟨hx, hb, hml, hown, hts⟩, hK, hA, hE, hlk⟩ := id S
  have hi1 : ∀ w ∈ wsX10, w ∈ wsX1_giveBack := by decide +kernel
  have hl : lv_has ls 7 [(0, .ref h0), (1, .long (lN b))] := hl
  obtain ⟨j1, j2, j3, j4, j5, j6⟩ := ph_fd_at hq
  have hbb : ph_bb (ph_g1 u.1 u.2.1 b) b 8064 0 1024 = p0 := ph_bb_fd (fun j hj => ph_g1_low u.1 hj) _ _ _ hq
  have hu2 := hu
  obtain ⟨i1, i2, i3, i4⟩ := hu2
  have gn := ph_n_lt u.1 b
  have e : (ph_wh u.1 b (ph_n u.1 b) 0).2 = ph_sn u.1 (b + 4) 0 := by rw [ph_wh_of ⟨by omega, by omega⟩ ⟨by omega, by omega⟩]; show ph_sn (ph_sn u.1 b (ph_n u.1 b)) (b + 4) 0 = _; rw [ph_sn_self]
  refine lv_aload_n hx hb dX1_giveBack_0 rfl (lv_at hl 0 rfl) ?_
  refine lv_lload_n hx hb dX1_giveBack_1 rfl (lv_at hl 1 rfl) ?_
  refine lv_aload_n hx hb dX1_giveBack_2 rfl (lv_at hl 0 rfl) ?_
  refine lv_lload_n hx hb dX1_giveBack_3 rfl (lv_at hl 1 rfl) ?_
  refine hx_callV (rest := [.long (lN b), .ref h0]) (n := 1) S hw (c_size l hst D tys cJ ht h0 h1 h2 u b ⟨by omega, by omega⟩) gX1_giveBack_X1_size rfl (by decide +kernel) rfl ⟨Nat.le_of_ble_eq_true rfl, Nat.le_of_ble_eq_true rfl⟩ 0 1 rfl rfl hc_adr hl.1 rfl (Nat.le_of_ble_eq_true rfl) ⟨by decide, by decide⟩ dX1_giveBack_4 (fun H locs hw => ?_)
  refine W.eq (g2 := F0 m 7 ls [.long (lN (ph_n u.1 b)), .long (lN b), .ref h0]) rfl ?_
  refine lv_iconst (v := nI 0) hx hb dX1_giveBack_7 (by decide +kernel) ?_
  refine hx_callV (rest := []) (n := 3) S hw (c_writeHeader l hst D tys cJ ht h0 h1 h2 u (b) (ph_n u.1 b) 0 (by omega) (by decide) (by rw [ph_wh_of ⟨by omega, by omega⟩ ⟨by omega, by omega⟩])) gX1_giveBack_X1_writeHeader rfl (by decide +kernel) rfl ⟨Nat.le_of_ble_eq_true rfl, Nat.le_of_ble_eq_true rfl⟩ 0 1 rfl rfl hc_adr hl.1 rfl (Nat.le_of_ble_eq_true rfl) ⟨by decide, by decide⟩ dX1_giveBack_8 (fun H locs hw => ?_)
  refine W.eq (g2 := F0 m 11 ls []) rfl ?_
  rw [e] at hw
  refine lv_aload_n hx hb dX1_giveBack_11 rfl (lv_at hl 0 rfl) ?_
  refine lv_lload_n hx hb dX1_giveBack_12 rfl (lv_at hl 1 rfl) ?_
  refine hx_callV (rest := []) (n := 1) S hw (c_joinNext l hst D tys cJ ht h0 h1 h2 (ph_sn u.1 (b + 4) 0, u.2) b hu (by omega) (by omega)) gX1_giveBack_X1_joinNext rfl (by decide +kernel) rfl ⟨Nat.le_of_ble_eq_true rfl, Nat.le_of_ble_eq_true rfl⟩ 0 1 rfl rfl hc_adr hl.1 rfl (Nat.le_of_ble_eq_true rfl) ⟨by decide, by decide⟩ dX1_giveBack_13 (fun H locs hw => ?_)
  refine W.eq (g2 := F0 m 16 ls []) rfl ?_
  have hw : hx_w D A s.heap (hc_W cJ h0 h1 h2 (ph_g1 u.1 u.2.1 b, u.2)) H locs := hw
  refine lv_lload_n hx hb dX1_giveBack_16 rfl (lv_at hl 1 rfl) ?_
  refine lv_lstore_n (lv' := [(3, .long (lN b)), (0, .ref h0), (1, .long (lN b))]) hx hb dX1_giveBack_17 rfl hl (by decide) rfl (fun ls hl => ?_)
  refine lv_aload_n hx hb dX1_giveBack_18 rfl (lv_at hl 1 rfl) ?_
  refine lv_lload_n hx hb dX1_giveBack_19 rfl (lv_at hl 2 rfl) ?_
  refine hx_callV (rest := []) (n := 1) S hw (c_blockBefore l hst D tys cJ ht h0 h1 h2 (ph_g1 u.1 u.2.1 b, u.2) b p0 (by omega) hbb) gX1_giveBack_X1_blockBefore rfl (by decide +kernel) rfl ⟨Nat.le_of_ble_eq_true rfl, Nat.le_of_ble_eq_true rfl⟩ 0 1 rfl rfl hc_adr hl.1 rfl (Nat.le_of_ble_eq_true rfl) ⟨by decide, by decide⟩ dX1_giveBack_20 (fun H locs hw => ?_)
  refine W.eq (g2 := F0 m 23 ls [.long (lN p0)]) rfl ?_
  refine lv_lstore (lv' := [(5, .long (lN p0)), (3, .long (lN b)), (0, .ref h0), (1, .long (lN b))]) hx hb dX1_giveBack_23 hl (by decide) rfl (fun ls hl => ?_)
  refine lv_lload hx hb dX1_giveBack_25 (lv_at hl 0 rfl) ?_
  refine lv_lconst (v := lN 0) hx hb dX1_giveBack_27 (by decide +kernel) ?_
  refine hn_leq (a := p0) (b := 0) (tgt := 50) hx hb (by omega) (by omega) dX1_giveBack_28 dX1_giveBack_29 (by decide) (fun hc => ?_) (fun hc => ?_)
  · have e1 : ph_gj u.1 u.2.1 b p0 = b := if_neg (fun z => z.1 hc)
    have e2 : ph_g2 u.1 u.2.1 b p0 = ph_g1 u.1 u.2.1 b := if_neg (fun z => z.1 hc)
    have hw : hx_w D A s.heap (hc_W cJ h0 h1 h2 (ph_g2 u.1 u.2.1 b p0, u.2)) H locs := by rw [e2]; exact hw
    have gJ : 1024 ≤ ph_gj u.1 u.2.1 b p0 ∧ ph_gj u.1 u.2.1 b p0 < 61440 := by rw [e1]; omega
    have hl : lv_has ls 7 [(5, .long (lN p0)), (3, .long (lN (ph_gj u.1 u.2.1 b p0))), (0, .ref h0), (1, .long (lN b))] := by rw [e1]; exact hl
    have gj := ph_n_lt (ph_g2 u.1 u.2.1 b p0) (ph_gj u.1 u.2.1 b p0)
    refine lv_aload_n hx hb dX1_giveBack_50 rfl (lv_at hl 2 rfl) ?_
    refine lv_lload_n hx hb dX1_giveBack_51 rfl (lv_at hl 1 rfl) ?_
    refine hx_callV (rest := []) (n := 1) S hw (c_next l hst D tys cJ ht h0 h1 h2 (ph_g2 u.1 u.2.1 b p0, u.2) (ph_gj u.1 u.2.1 b p0) ⟨by omega, by omega⟩) gX1_giveBack_X1_next rfl (by decide +kernel) rfl ⟨Nat.le_of_ble_eq_true rfl, Nat.le_of_ble_eq_true rfl⟩ 0 1 rfl rfl hc_adr hl.1 rfl (Nat.le_of_ble_eq_true rfl) ⟨by decide, by decide⟩ dX1_giveBack_52 (fun H locs hw => ?_)
    refine W.eq (g2 := F0 m 55 ls [.long (lN (ph_gj u.1 u.2.1 b p0 + 8 + ph_n (ph_g2 u.1 u.2.1 b p0) (ph_gj u.1 u.2.1 b p0)))]) rfl ?_
    refine lv_aload_n hx hb dX1_giveBack_55 rfl (lv_at hl 2 rfl) ?_
    refine va_get (D := D) (ci := 1) (v := .long (lN ((ph_g2 u.1 u.2.1 b p0, u.2)).2.1)) (C := RX1) (T := TX1) (N := 3) hx hb hts hi1 hown hK hw.1 0 rfl rfl 1 (by decide) (hts (.fieldLink RX1 18 "HeapRow" "end" "J") (by decide +kernel)) (fun _ h9 => h9) rfl dX1_giveBack_56 ?_
    refine hn_lne (a := (ph_gj u.1 u.2.1 b p0 + 8 + ph_n (ph_g2 u.1 u.2.1 b p0) (ph_gj u.1 u.2.1 b p0))) (b := u.2.1) (tgt := 68) hx hb (by omega) (by omega) dX1_giveBack_59 dX1_giveBack_60 (by decide) (fun hd => ?_) (fun hd => ?_)
    · have e3 : ph_ge u.1 u.2.1 b p0 = u.2.1 := if_neg hd
      have hw : hx_w D A s.heap (hc_W cJ h0 h1 h2 (ph_gb u b p0)) H locs := by unfold ph_gb; rw [e3]; exact hw
      exact hx_vret S hr hw dX1_giveBack_68
    · have e3 : ph_ge u.1 u.2.1 b p0 = ph_gj u.1 u.2.1 b p0 := if_pos hd
      refine lv_aload_n hx hb dX1_giveBack_63 rfl (lv_at hl 2 rfl) ?_
      refine lv_lload_n hx hb dX1_giveBack_64 rfl (lv_at hl 1 rfl) ?_
      refine va_put (D := D) (ci := 1) (v := .long (lN (ph_gj u.1 u.2.1 b p0))) (ty := .long) (C := RX1) (T := TX1) (N := 3) hx hb hts hi1 tyX1 tyX1_ok nmX1 hown hK hw.1 hw.2.1 hw.2.2 0 rfl rfl 1 (by decide) (hts (.fieldLink RX1 18 "HeapRow" "end" "J") (by decide +kernel)) (fun _ h9 => h9) rfl (by decide +kernel) rfl rfl (Nat.le_of_ble_eq_true rfl) dX1_giveBack_65 (fun H locs y1 y2 y3 => ?_)
      have hw : hx_w D A s.heap (hc_W cJ h0 h1 h2 (ph_g2 u.1 u.2.1 b p0, ph_gj u.1 u.2.1 b p0, u.2.2)) H locs := ⟨y1, y2, y3⟩
      have hw : hx_w D A s.heap (hc_W cJ h0 h1 h2 (ph_gb u b p0)) H locs := by unfold ph_gb; rw [e3]; exact hw
      exact hx_vret S hr hw dX1_giveBack_68
  · refine lv_aload_n hx hb dX1_giveBack_32 rfl (lv_at hl 2 rfl) ?_
    refine lv_lload hx hb dX1_giveBack_33 (lv_at hl 0 rfl) ?_
    refine hx_callV (rest := []) (n := 1) S hw (c_isTaken l hst D tys cJ ht h0 h1 h2 (ph_g1 u.1 u.2.1 b, u.2) p0 ⟨by omega, by omega⟩) gX1_giveBack_X1_isTaken rfl (by decide +kernel) rfl ⟨Nat.le_of_ble_eq_true rfl, Nat.le_of_ble_eq_true rfl⟩ 0 1 rfl rfl hc_adr hl.1 rfl (Nat.le_of_ble_eq_true rfl) ⟨by decide, by decide⟩ dX1_giveBack_35 (fun H locs hw => ?_)
    refine W.eq (g2 := F0 m 38 ls [.int (if ph_n (ph_g1 u.1 u.2.1 b) (p0 + 4) = 1 then nI 1 else nI 0)]) rfl ?_
    refine hn_pne (tgt := 50) hx hb dX1_giveBack_38 (by decide) (fun hc2 => ?_) (fun hc2 => ?_)
    · have e1 : ph_gj u.1 u.2.1 b p0 = b := if_neg (fun z => z.2 hc2)
      have e2 : ph_g2 u.1 u.2.1 b p0 = ph_g1 u.1 u.2.1 b := if_neg (fun z => z.2 hc2)
      have hw : hx_w D A s.heap (hc_W cJ h0 h1 h2 (ph_g2 u.1 u.2.1 b p0, u.2)) H locs := by rw [e2]; exact hw
      have gJ : 1024 ≤ ph_gj u.1 u.2.1 b p0 ∧ ph_gj u.1 u.2.1 b p0 < 61440 := by rw [e1]; omega
      have hl : lv_has ls 7 [(5, .long (lN p0)), (3, .long (lN (ph_gj u.1 u.2.1 b p0))), (0, .ref h0), (1, .long (lN b))] := by rw [e1]; exact hl
      have gj := ph_n_lt (ph_g2 u.1 u.2.1 b p0) (ph_gj u.1 u.2.1 b p0)
      refine lv_aload_n hx hb dX1_giveBack_50 rfl (lv_at hl 2 rfl) ?_
      refine lv_lload_n hx hb dX1_giveBack_51 rfl (lv_at hl 1 rfl) ?_
      refine hx_callV (rest := []) (n := 1) S hw (c_next l hst D tys cJ ht h0 h1 h2 (ph_g2 u.1 u.2.1 b p0, u.2) (ph_gj u.1 u.2.1 b p0) ⟨by omega, by omega⟩) gX1_giveBack_X1_next rfl (by decide +kernel) rfl ⟨Nat.le_of_ble_eq_true rfl, Nat.le_of_ble_eq_true rfl⟩ 0 1 rfl rfl hc_adr hl.1 rfl (Nat.le_of_ble_eq_true rfl) ⟨by decide, by decide⟩ dX1_giveBack_52 (fun H locs hw => ?_)
      refine W.eq (g2 := F0 m 55 ls [.long (lN (ph_gj u.1 u.2.1 b p0 + 8 + ph_n (ph_g2 u.1 u.2.1 b p0) (ph_gj u.1 u.2.1 b p0)))]) rfl ?_
      refine lv_aload_n hx hb dX1_giveBack_55 rfl (lv_at hl 2 rfl) ?_
      refine va_get (D := D) (ci := 1) (v := .long (lN ((ph_g2 u.1 u.2.1 b p0, u.2)).2.1)) (C := RX1) (T := TX1) (N := 3) hx hb hts hi1 hown hK hw.1 0 rfl rfl 1 (by decide) (hts (.fieldLink RX1 18 "HeapRow" "end" "J") (by decide +kernel)) (fun _ h9 => h9) rfl dX1_giveBack_56 ?_
      refine hn_lne (a := (ph_gj u.1 u.2.1 b p0 + 8 + ph_n (ph_g2 u.1 u.2.1 b p0) (ph_gj u.1 u.2.1 b p0))) (b := u.2.1) (tgt := 68) hx hb (by omega) (by omega) dX1_giveBack_59 dX1_giveBack_60 (by decide) (fun hd => ?_) (fun hd => ?_)
      · have e3 : ph_ge u.1 u.2.1 b p0 = u.2.1 := if_neg hd
        have hw : hx_w D A s.heap (hc_W cJ h0 h1 h2 (ph_gb u b p0)) H locs := by unfold ph_gb; rw [e3]; exact hw
        exact hx_vret S hr hw dX1_giveBack_68
      · have e3 : ph_ge u.1 u.2.1 b p0 = ph_gj u.1 u.2.1 b p0 := if_pos hd
        refine lv_aload_n hx hb dX1_giveBack_63 rfl (lv_at hl 2 rfl) ?_
        refine lv_lload_n hx hb dX1_giveBack_64 rfl (lv_at hl 1 rfl) ?_
        refine va_put (D := D) (ci := 1) (v := .long (lN (ph_gj u.1 u.2.1 b p0))) (ty := .long) (C := RX1) (T := TX1) (N := 3) hx hb hts hi1 tyX1 tyX1_ok nmX1 hown hK hw.1 hw.2.1 hw.2.2 0 rfl rfl 1 (by decide) (hts (.fieldLink RX1 18 "HeapRow" "end" "J") (by decide +kernel)) (fun _ h9 => h9) rfl (by decide +kernel) rfl rfl (Nat.le_of_ble_eq_true rfl) dX1_giveBack_65 (fun H locs y1 y2 y3 => ?_)
        have hw : hx_w D A s.heap (hc_W cJ h0 h1 h2 (ph_g2 u.1 u.2.1 b p0, ph_gj u.1 u.2.1 b p0, u.2.2)) H locs := ⟨y1, y2, y3⟩
        have hw : hx_w D A s.heap (hc_W cJ h0 h1 h2 (ph_gb u b p0)) H locs := by unfold ph_gb; rw [e3]; exact hw
        exact hx_vret S hr hw dX1_giveBack_68
    · refine lv_aload_n hx hb dX1_giveBack_41 rfl (lv_at hl 2 rfl) ?_
      refine lv_lload hx hb dX1_giveBack_42 (lv_at hl 0 rfl) ?_
      refine hx_callV (rest := []) (n := 1) S hw (c_joinNext l hst D tys cJ ht h0 h1 h2 (ph_g1 u.1 u.2.1 b, u.2) p0 hu (by omega) (by omega)) gX1_giveBack_X1_joinNext rfl (by decide +kernel) rfl ⟨Nat.le_of_ble_eq_true rfl, Nat.le_of_ble_eq_true rfl⟩ 0 1 rfl rfl hc_adr hl.1 rfl (Nat.le_of_ble_eq_true rfl) ⟨by decide, by decide⟩ dX1_giveBack_44 (fun H locs hw => ?_)
      refine W.eq (g2 := F0 m 47 ls []) rfl ?_
      refine lv_lload hx hb dX1_giveBack_47 (lv_at hl 0 rfl) ?_
      refine lv_lstore_n (lv' := [(3, .long (lN p0)), (5, .long (lN p0)), (0, .ref h0), (1, .long (lN b))]) hx hb dX1_giveBack_49 rfl hl (by decide) rfl (fun ls hl => ?_)
      have e1 : ph_gj u.1 u.2.1 b p0 = p0 := if_pos ⟨hc, hc2⟩
      have e2 : ph_g2 u.1 u.2.1 b p0 = ph_jn (ph_g1 u.1 u.2.1 b) u.2.1 p0 := if_pos ⟨hc, hc2⟩
      have hw : hx_w D A s.heap (hc_W cJ h0 h1 h2 (ph_g2 u.1 u.2.1 b p0, u.2)) H locs := by rw [e2]; exact hw
      have gJ : 1024 ≤ ph_gj u.1 u.2.1 b p0 ∧ ph_gj u.1 u.2.1 b p0 < 61440 := by rw [e1]; omega
      have hl : lv_has ls 7 [(3, .long (lN (ph_gj u.1 u.2.1 b p0))), (5, .long (lN p0)), (0, .ref h0), (1, .long (lN b))] := by rw [e1]; exact hl
      have gj := ph_n_lt (ph_g2 u.1 u.2.1 b p0) (ph_gj u.1 u.2.1 b p0)
      refine lv_aload_n hx hb dX1_giveBack_50 rfl (lv_at hl 2 rfl) ?_
      refine lv_lload_n hx hb dX1_giveBack_51 rfl (lv_at hl 0 rfl) ?_
      refine hx_callV (rest := []) (n := 1) S hw (c_next l hst D tys cJ ht h0 h1 h2 (ph_g2 u.1 u.2.1 b p0, u.2) (ph_gj u.1 u.2.1 b p0) ⟨by omega, by omega⟩) gX1_giveBack_X1_next rfl (by decide +kernel) rfl ⟨Nat.le_of_ble_eq_true rfl, Nat.le_of_ble_eq_true rfl⟩ 0 1 rfl rfl hc_adr hl.1 rfl (Nat.le_of_ble_eq_true rfl) ⟨by decide, by decide⟩ dX1_giveBack_52 (fun H locs hw => ?_)
      refine W.eq (g2 := F0 m 55 ls [.long (lN (ph_gj u.1 u.2.1 b p0 + 8 + ph_n (ph_g2 u.1 u.2.1 b p0) (ph_gj u.1 u.2.1 b p0)))]) rfl ?_
      refine lv_aload_n hx hb dX1_giveBack_55 rfl (lv_at hl 2 rfl) ?_
      refine va_get (D := D) (ci := 1) (v := .long (lN ((ph_g2 u.1 u.2.1 b p0, u.2)).2.1)) (C := RX1) (T := TX1) (N := 3) hx hb hts hi1 hown hK hw.1 0 rfl rfl 1 (by decide) (hts (.fieldLink RX1 18 "HeapRow" "end" "J") (by decide +kernel)) (fun _ h9 => h9) rfl dX1_giveBack_56 ?_
      refine hn_lne (a := (ph_gj u.1 u.2.1 b p0 + 8 + ph_n (ph_g2 u.1 u.2.1 b p0) (ph_gj u.1 u.2.1 b p0))) (b := u.2.1) (tgt := 68) hx hb (by omega) (by omega) dX1_giveBack_59 dX1_giveBack_60 (by decide) (fun hd => ?_) (fun hd => ?_)
      · have e3 : ph_ge u.1 u.2.1 b p0 = u.2.1 := if_neg hd
        have hw : hx_w D A s.heap (hc_W cJ h0 h1 h2 (ph_gb u b p0)) H locs := by unfold ph_gb; rw [e3]; exact hw
        exact hx_vret S hr hw dX1_giveBack_68
      · have e3 : ph_ge u.1 u.2.1 b p0 = ph_gj u.1 u.2.1 b p0 := if_pos hd
        refine lv_aload_n hx hb dX1_giveBack_63 rfl (lv_at hl 2 rfl) ?_
        refine lv_lload_n hx hb dX1_giveBack_64 rfl (lv_at hl 0 rfl) ?_
        refine va_put (D := D) (ci := 1) (v := .long (lN (ph_gj u.1 u.2.1 b p0))) (ty := .long) (C := RX1) (T := TX1) (N := 3) hx hb hts hi1 tyX1 tyX1_ok nmX1 hown hK hw.1 hw.2.1 hw.2.2 0 rfl rfl 1 (by decide) (hts (.fieldLink RX1 18 "HeapRow" "end" "J") (by decide +kernel)) (fun _ h9 => h9) rfl (by decide +kernel) rfl rfl (Nat.le_of_ble_eq_true rfl) dX1_giveBack_65 (fun H locs y1 y2 y3 => ?_)
        have hw : hx_w D A s.heap (hc_W cJ h0 h1 h2 (ph_g2 u.1 u.2.1 b p0, ph_gj u.1 u.2.1 b p0, u.2.2)) H locs := ⟨y1, y2, y3⟩
        have hw : hx_w D A s.heap (hc_W cJ h0 h1 h2 (ph_gb u b p0)) H locs := by unfold ph_gb; rw [e3]; exact hw
        exact hx_vret S hr hw dX1_giveBack_68
end
section
/-! HeapRow: take, and the methods of the face -/
set_option maxHeartbeats 4000000 in
set_option maxRecDepth 100000 in
theorem c_take (l : Launch) (hst : l.stackTraces = false) (D : va_G) (tys : List (ClassId × FieldType)) (cJ : ClassId) (ht : tys[0]? = some (cJ, .long)) (h0 h1 h2 : Nat) (u : ph_H) (n x : Nat) (u2 : ph_H) (hu : ph_I u) (hn : n < 4294967296) (h : ph_take u n = (some x, u2)) : hx_R l D tys yX1_take wsX1_take 10 184 [.ref h0, .long (lN n)] (hc_W cJ h0 h1 h2 u) (hc_W cJ h0 h1 h2 u2) (some (.long (lN x))) := by
  refine hx_R.ofW (cc := cX1_take) (maxL := 7) (ret := (some .long)) (by decide) rfl (Nat.le_of_ble_eq_true rfl) ?_
  intro p e s m below meth c A ls hr S hw hl
  have S : hx_S p l s m _ meth c cX1_take 7 wsX1_take RX1 A D tys := S
  obtain ⟨⟨hx, hb, hml, hown, hts⟩, hK, hA, hE, hlk⟩ := id S
  have hi1 : ∀ w ∈ wsX10, w ∈ wsX1_take := by decide +kernel
  have hl : lv_has ls 7 [(0, .ref h0), (1, .long (lN n))] := hl
  have hu2 := hu
  obtain ⟨i1, i2, i3, i4⟩ := hu2
  have gu := ph_up_ge n
  have gu2 := ph_up_lt hn
  unfold ph_take at h
  cases hq : ph_ff u.1 u.2.1 (ph_up n) 8064 1024 with
  | some b =>
    rw [hq] at h
    dsimp only at h
    obtain ⟨f1, f2, f3, f4⟩ := ph_ff_some _ _ hq
    have gn := ph_n_lt u.1 b
    by_cases k1 : ph_n u.1 b < ph_up n + 16
    · rw [if_pos k1] at h
      cases h
      refine lv_lload_n hx hb dX1_take_0 rfl (lv_at hl 1 rfl) ?_
      refine hx_callS (rest := []) (n := 1) S hw (c_rounded l hst D tys cJ ht h0 h1 h2 u n (by omega)) gX1_take_X1_rounded rfl (by decide +kernel) rfl ⟨Nat.le_of_ble_eq_true rfl, Nat.le_of_ble_eq_true rfl⟩ hc_adr hl.1 rfl (Nat.le_of_ble_eq_true rfl) ⟨by decide, by decide⟩ dX1_take_1 (fun H locs hw => ?_)
      refine W.eq (g2 := F0 m 4 ls [.long (lN (ph_up n))]) rfl ?_
      refine lv_lstore_n (lv' := [(3, .long (lN (ph_up n))), (0, .ref h0), (1, .long (lN n))]) hx hb dX1_take_4 rfl hl (by decide) rfl (fun ls hl => ?_)
      refine lv_aload_n hx hb dX1_take_5 rfl (lv_at hl 1 rfl) ?_
      refine lv_lload_n hx hb dX1_take_6 rfl (lv_at hl 0 rfl) ?_
      refine hx_callV (rest := []) (n := 1) S hw (c_firstFree l hst D tys cJ ht h0 h1 h2 u (ph_up n) (some b) hu (by omega) hq) gX1_take_X1_firstFree rfl (by decide +kernel) rfl ⟨Nat.le_of_ble_eq_true rfl, Nat.le_of_ble_eq_true rfl⟩ 0 1 rfl rfl hc_adr hl.1 rfl (Nat.le_of_ble_eq_true rfl) ⟨by decide, by decide⟩ dX1_take_7 (fun H locs hw => ?_)
      refine W.eq (g2 := F0 m 10 ls [.long (lN b)]) rfl ?_
      refine lv_lstore (lv' := [(5, .long (lN b)), (3, .long (lN (ph_up n))), (0, .ref h0), (1, .long (lN n))]) hx hb dX1_take_10 hl (by decide) rfl (fun ls hl => ?_)
      refine lv_lload hx hb dX1_take_12 (lv_at hl 0 rfl) ?_
      refine lv_lconst (v := lN 0) hx hb dX1_take_14 (by decide +kernel) ?_
      refine hn_leq (a := b) (b := 0) (tgt := 33) hx hb (by omega) (by omega) dX1_take_15 dX1_take_16 (by decide) (fun hc => ?_) (fun hc => ?_)
      · exact absurd hc (by omega)
      · refine lv_aload_n hx hb dX1_take_19 rfl (lv_at hl 2 rfl) ?_
        refine lv_lload hx hb dX1_take_20 (lv_at hl 0 rfl) ?_
        refine lv_lload_n hx hb dX1_take_22 rfl (lv_at hl 1 rfl) ?_
        refine hx_callV (rest := []) (n := 2) S hw (c_takeFree1 l hst D tys cJ ht h0 h1 h2 u b (ph_up n) (by omega) (by omega) f4 k1) gX1_take_X1_takeFree rfl (by decide +kernel) rfl ⟨Nat.le_of_ble_eq_true rfl, Nat.le_of_ble_eq_true rfl⟩ 0 1 rfl rfl hc_adr hl.1 rfl (Nat.le_of_ble_eq_true rfl) ⟨by decide, by decide⟩ dX1_take_23 (fun H locs hw => ?_)
        refine W.eq (g2 := F0 m 26 ls []) rfl ?_
        refine lv_lload hx hb dX1_take_26 (lv_at hl 0 rfl) ?_
        refine lv_ldc2 (v := lN 8) hx hb hown (hts (.constantLong RX1 72 (lN 8)) (by decide +kernel)) dX1_take_28 ?_
        refine hn_ladd (v := lN (b + 8)) hx hb dX1_take_31 (lN_add _ _) ?_
        exact hx_lret S hr hw dX1_take_32
    · rw [if_neg k1] at h
      by_cases k2 : (ph_wh u.1 (b + 8 + ph_up n) (ph_n u.1 b - ph_up n - 8) 0).1 = true
      · rw [if_pos k2] at h
        cases h
        refine lv_lload_n hx hb dX1_take_0 rfl (lv_at hl 1 rfl) ?_
        refine hx_callS (rest := []) (n := 1) S hw (c_rounded l hst D tys cJ ht h0 h1 h2 u n (by omega)) gX1_take_X1_rounded rfl (by decide +kernel) rfl ⟨Nat.le_of_ble_eq_true rfl, Nat.le_of_ble_eq_true rfl⟩ hc_adr hl.1 rfl (Nat.le_of_ble_eq_true rfl) ⟨by decide, by decide⟩ dX1_take_1 (fun H locs hw => ?_)
        refine W.eq (g2 := F0 m 4 ls [.long (lN (ph_up n))]) rfl ?_
        refine lv_lstore_n (lv' := [(3, .long (lN (ph_up n))), (0, .ref h0), (1, .long (lN n))]) hx hb dX1_take_4 rfl hl (by decide) rfl (fun ls hl => ?_)
        refine lv_aload_n hx hb dX1_take_5 rfl (lv_at hl 1 rfl) ?_
        refine lv_lload_n hx hb dX1_take_6 rfl (lv_at hl 0 rfl) ?_
        refine hx_callV (rest := []) (n := 1) S hw (c_firstFree l hst D tys cJ ht h0 h1 h2 u (ph_up n) (some b) hu (by omega) hq) gX1_take_X1_firstFree rfl (by decide +kernel) rfl ⟨Nat.le_of_ble_eq_true rfl, Nat.le_of_ble_eq_true rfl⟩ 0 1 rfl rfl hc_adr hl.1 rfl (Nat.le_of_ble_eq_true rfl) ⟨by decide, by decide⟩ dX1_take_7 (fun H locs hw => ?_)
        refine W.eq (g2 := F0 m 10 ls [.long (lN b)]) rfl ?_
        refine lv_lstore (lv' := [(5, .long (lN b)), (3, .long (lN (ph_up n))), (0, .ref h0), (1, .long (lN n))]) hx hb dX1_take_10 hl (by decide) rfl (fun ls hl => ?_)
        refine lv_lload hx hb dX1_take_12 (lv_at hl 0 rfl) ?_
        refine lv_lconst (v := lN 0) hx hb dX1_take_14 (by decide +kernel) ?_
        refine hn_leq (a := b) (b := 0) (tgt := 33) hx hb (by omega) (by omega) dX1_take_15 dX1_take_16 (by decide) (fun hc => ?_) (fun hc => ?_)
        · exact absurd hc (by omega)
        · refine lv_aload_n hx hb dX1_take_19 rfl (lv_at hl 2 rfl) ?_
          refine lv_lload hx hb dX1_take_20 (lv_at hl 0 rfl) ?_
          refine lv_lload_n hx hb dX1_take_22 rfl (lv_at hl 1 rfl) ?_
          refine hx_callV (rest := []) (n := 2) S hw (c_takeFree2 l hst D tys cJ ht h0 h1 h2 u b (ph_up n) (by omega) (by omega) f4 k1 k2) gX1_take_X1_takeFree rfl (by decide +kernel) rfl ⟨Nat.le_of_ble_eq_true rfl, Nat.le_of_ble_eq_true rfl⟩ 0 1 rfl rfl hc_adr hl.1 rfl (Nat.le_of_ble_eq_true rfl) ⟨by decide, by decide⟩ dX1_take_23 (fun H locs hw => ?_)
          refine W.eq (g2 := F0 m 26 ls []) rfl ?_
          refine lv_lload hx hb dX1_take_26 (lv_at hl 0 rfl) ?_
          refine lv_ldc2 (v := lN 8) hx hb hown (hts (.constantLong RX1 72 (lN 8)) (by decide +kernel)) dX1_take_28 ?_
          refine hn_ladd (v := lN (b + 8)) hx hb dX1_take_31 (lN_add _ _) ?_
          exact hx_lret S hr hw dX1_take_32
      · rw [if_neg k2] at h
        cases h
  | none =>
    rw [hq] at h
    dsimp only at h
    by_cases k1 : 480000 < n ∨ u.2.2 < u.2.1 + 8 + ph_up n + 4096
    · rw [if_pos k1] at h
      cases h
      refine lv_lload_n hx hb dX1_take_0 rfl (lv_at hl 1 rfl) ?_
      refine hx_callS (rest := []) (n := 1) S hw (c_rounded l hst D tys cJ ht h0 h1 h2 u n (by omega)) gX1_take_X1_rounded rfl (by decide +kernel) rfl ⟨Nat.le_of_ble_eq_true rfl, Nat.le_of_ble_eq_true rfl⟩ hc_adr hl.1 rfl (Nat.le_of_ble_eq_true rfl) ⟨by decide, by decide⟩ dX1_take_1 (fun H locs hw => ?_)
      refine W.eq (g2 := F0 m 4 ls [.long (lN (ph_up n))]) rfl ?_
      refine lv_lstore_n (lv' := [(3, .long (lN (ph_up n))), (0, .ref h0), (1, .long (lN n))]) hx hb dX1_take_4 rfl hl (by decide) rfl (fun ls hl => ?_)
      refine lv_aload_n hx hb dX1_take_5 rfl (lv_at hl 1 rfl) ?_
      refine lv_lload_n hx hb dX1_take_6 rfl (lv_at hl 0 rfl) ?_
      refine hx_callV (rest := []) (n := 1) S hw (c_firstFree l hst D tys cJ ht h0 h1 h2 u (ph_up n) none hu (by omega) hq) gX1_take_X1_firstFree rfl (by decide +kernel) rfl ⟨Nat.le_of_ble_eq_true rfl, Nat.le_of_ble_eq_true rfl⟩ 0 1 rfl rfl hc_adr hl.1 rfl (Nat.le_of_ble_eq_true rfl) ⟨by decide, by decide⟩ dX1_take_7 (fun H locs hw => ?_)
      refine W.eq (g2 := F0 m 10 ls [.long (lN 0)]) rfl ?_
      refine lv_lstore (lv' := [(5, .long (lN 0)), (3, .long (lN (ph_up n))), (0, .ref h0), (1, .long (lN n))]) hx hb dX1_take_10 hl (by decide) rfl (fun ls hl => ?_)
      refine lv_lload hx hb dX1_take_12 (lv_at hl 0 rfl) ?_
      refine lv_lconst (v := lN 0) hx hb dX1_take_14 (by decide +kernel) ?_
      refine hn_leq (a := 0) (b := 0) (tgt := 33) hx hb (by omega) (by omega) dX1_take_15 dX1_take_16 (by decide) (fun hc => ?_) (fun hc => ?_)
      · refine lv_lload_n hx hb dX1_take_33 rfl (lv_at hl 3 rfl) ?_
        refine lv_ldc2 (v := lN 480000) hx hb hown (hts (.constantLong RX1 35 (lN 480000)) (by decide +kernel)) dX1_take_34 ?_
        refine hn_lgt (a := n) (b := 480000) (tgt := 63) hx hb (by omega) (by omega) dX1_take_37 dX1_take_38 (by decide) (fun hc2 => ?_) (fun hc2 => ?_)
        · refine lv_lconst (v := lN 0) hx hb dX1_take_63 (by decide +kernel) ?_
          exact hx_lret S hr hw dX1_take_64
        · refine lv_aload_n hx hb dX1_take_41 rfl (lv_at hl 2 rfl) ?_
          refine va_get (D := D) (ci := 1) (v := .long (lN u.2.1)) (C := RX1) (T := TX1) (N := 3) hx hb hts hi1 hown hK hw.1 0 rfl rfl 1 (by decide) (hts (.fieldLink RX1 18 "HeapRow" "end" "J") (by decide +kernel)) (fun _ h9 => h9) rfl dX1_take_42 ?_
          refine lv_ldc2 (v := lN 8) hx hb hown (hts (.constantLong RX1 72 (lN 8)) (by decide +kernel)) dX1_take_45 ?_
          refine hn_ladd (v := lN (u.2.1 + 8)) hx hb dX1_take_48 (lN_add _ _) ?_
          refine lv_lload_n hx hb dX1_take_49 rfl (lv_at hl 1 rfl) ?_
          refine hn_ladd (v := lN ((u.2.1 + 8) + (ph_up n))) hx hb dX1_take_50 (lN_add _ _) ?_
          refine lv_aload_n hx hb dX1_take_51 rfl (lv_at hl 2 rfl) ?_
          refine va_get (D := D) (ci := 1) (v := .long (lN u.2.2)) (C := RX1) (T := TX1) (N := 3) hx hb hts hi1 hown hK hw.1 0 rfl rfl 2 (by decide) (hts (.fieldLink RX1 24 "HeapRow" "stackEnd" "J") (by decide +kernel)) (fun _ h9 => h9) rfl dX1_take_52 ?_
          refine lv_ldc2 (v := lN 4096) hx hb hown (hts (.constantLong RX1 90 (lN 4096)) (by decide +kernel)) dX1_take_55 ?_
          by_cases k3 : 4096 ≤ u.2.2
          · refine hn_lsub (v := lN (u.2.2 - 4096)) hx hb dX1_take_58 (lN_sub (by omega)) ?_
            refine hn_lle (a := ((u.2.1 + 8) + (ph_up n))) (b := (u.2.2 - 4096)) (tgt := 65) hx hb (by omega) (by omega) dX1_take_59 dX1_take_60 (by decide) (fun hc3 => ?_) (fun hc3 => ?_)
            · exact absurd hc3 (by omega)
            · refine lv_lconst (v := lN 0) hx hb dX1_take_63 (by decide +kernel) ?_
              exact hx_lret S hr hw dX1_take_64
          · refine hn_lsub (v := lN u.2.2 - lN 4096) hx hb dX1_take_58 rfl ?_
            refine W.lcmp hx hb dX1_take_59 ?_
            refine lv_if_le (tgt := 65) hx hb dX1_take_60 (by decide) (fun z => absurd ((lg_cmp_le _ _).mp z) (hp_neg (by omega) (by omega))) (fun _ => ?_)
            refine lv_lconst (v := lN 0) hx hb dX1_take_63 (by decide +kernel) ?_
            exact hx_lret S hr hw dX1_take_64
      · exact absurd rfl hc
    · rw [if_neg k1] at h
      cases h
      refine lv_lload_n hx hb dX1_take_0 rfl (lv_at hl 1 rfl) ?_
      refine hx_callS (rest := []) (n := 1) S hw (c_rounded l hst D tys cJ ht h0 h1 h2 u n (by omega)) gX1_take_X1_rounded rfl (by decide +kernel) rfl ⟨Nat.le_of_ble_eq_true rfl, Nat.le_of_ble_eq_true rfl⟩ hc_adr hl.1 rfl (Nat.le_of_ble_eq_true rfl) ⟨by decide, by decide⟩ dX1_take_1 (fun H locs hw => ?_)
      refine W.eq (g2 := F0 m 4 ls [.long (lN (ph_up n))]) rfl ?_
      refine lv_lstore_n (lv' := [(3, .long (lN (ph_up n))), (0, .ref h0), (1, .long (lN n))]) hx hb dX1_take_4 rfl hl (by decide) rfl (fun ls hl => ?_)
      refine lv_aload_n hx hb dX1_take_5 rfl (lv_at hl 1 rfl) ?_
      refine lv_lload_n hx hb dX1_take_6 rfl (lv_at hl 0 rfl) ?_
      refine hx_callV (rest := []) (n := 1) S hw (c_firstFree l hst D tys cJ ht h0 h1 h2 u (ph_up n) none hu (by omega) hq) gX1_take_X1_firstFree rfl (by decide +kernel) rfl ⟨Nat.le_of_ble_eq_true rfl, Nat.le_of_ble_eq_true rfl⟩ 0 1 rfl rfl hc_adr hl.1 rfl (Nat.le_of_ble_eq_true rfl) ⟨by decide, by decide⟩ dX1_take_7 (fun H locs hw => ?_)
      refine W.eq (g2 := F0 m 10 ls [.long (lN 0)]) rfl ?_
      refine lv_lstore (lv' := [(5, .long (lN 0)), (3, .long (lN (ph_up n))), (0, .ref h0), (1, .long (lN n))]) hx hb dX1_take_10 hl (by decide) rfl (fun ls hl => ?_)
      refine lv_lload hx hb dX1_take_12 (lv_at hl 0 rfl) ?_
      refine lv_lconst (v := lN 0) hx hb dX1_take_14 (by decide +kernel) ?_
      refine hn_leq (a := 0) (b := 0) (tgt := 33) hx hb (by omega) (by omega) dX1_take_15 dX1_take_16 (by decide) (fun hc => ?_) (fun hc => ?_)
      · refine lv_lload_n hx hb dX1_take_33 rfl (lv_at hl 3 rfl) ?_
        refine lv_ldc2 (v := lN 480000) hx hb hown (hts (.constantLong RX1 35 (lN 480000)) (by decide +kernel)) dX1_take_34 ?_
        refine hn_lgt (a := n) (b := 480000) (tgt := 63) hx hb (by omega) (by omega) dX1_take_37 dX1_take_38 (by decide) (fun hc2 => ?_) (fun hc2 => ?_)
        · exact absurd hc2 (by omega)
        · refine lv_aload_n hx hb dX1_take_41 rfl (lv_at hl 2 rfl) ?_
          refine va_get (D := D) (ci := 1) (v := .long (lN u.2.1)) (C := RX1) (T := TX1) (N := 3) hx hb hts hi1 hown hK hw.1 0 rfl rfl 1 (by decide) (hts (.fieldLink RX1 18 "HeapRow" "end" "J") (by decide +kernel)) (fun _ h9 => h9) rfl dX1_take_42 ?_
          refine lv_ldc2 (v := lN 8) hx hb hown (hts (.constantLong RX1 72 (lN 8)) (by decide +kernel)) dX1_take_45 ?_
          refine hn_ladd (v := lN (u.2.1 + 8)) hx hb dX1_take_48 (lN_add _ _) ?_
          refine lv_lload_n hx hb dX1_take_49 rfl (lv_at hl 1 rfl) ?_
          refine hn_ladd (v := lN ((u.2.1 + 8) + (ph_up n))) hx hb dX1_take_50 (lN_add _ _) ?_
          refine lv_aload_n hx hb dX1_take_51 rfl (lv_at hl 2 rfl) ?_
          refine va_get (D := D) (ci := 1) (v := .long (lN u.2.2)) (C := RX1) (T := TX1) (N := 3) hx hb hts hi1 hown hK hw.1 0 rfl rfl 2 (by decide) (hts (.fieldLink RX1 24 "HeapRow" "stackEnd" "J") (by decide +kernel)) (fun _ h9 => h9) rfl dX1_take_52 ?_
          refine lv_ldc2 (v := lN 4096) hx hb hown (hts (.constantLong RX1 90 (lN 4096)) (by decide +kernel)) dX1_take_55 ?_
          refine hn_lsub (v := lN (u.2.2 - 4096)) hx hb dX1_take_58 (lN_sub (by omega)) ?_
          refine hn_lle (a := ((u.2.1 + 8) + (ph_up n))) (b := (u.2.2 - 4096)) (tgt := 65) hx hb (by omega) (by omega) dX1_take_59 dX1_take_60 (by decide) (fun hc3 => ?_) (fun hc3 => ?_)
          · refine lv_aload_n hx hb dX1_take_65 rfl (lv_at hl 2 rfl) ?_
            refine lv_lload_n hx hb dX1_take_66 rfl (lv_at hl 1 rfl) ?_
            refine hx_callV (rest := []) (n := 1) S hw (c_takeAtEnd l hst D tys cJ ht h0 h1 h2 u (ph_up n) hu (by omega)) gX1_take_X1_takeAtEnd rfl (by decide +kernel) rfl ⟨Nat.le_of_ble_eq_true rfl, Nat.le_of_ble_eq_true rfl⟩ 0 1 rfl rfl hc_adr hl.1 rfl (Nat.le_of_ble_eq_true rfl) ⟨by decide, by decide⟩ dX1_take_67 (fun H locs hw => ?_)
            refine W.eq (g2 := F0 m 70 ls [.long (lN (u.2.1 + 8))]) rfl ?_
            exact hx_lret S hr hw dX1_take_70
          · exact absurd hc3 (by omega)
      · exact absurd rfl hc
set_option maxHeartbeats 4000000 in
set_option maxRecDepth 100000 in
theorem x_take (l : Launch) (hst : l.stackTraces = false) (D : va_G) (tys : List (ClassId × FieldType)) (cJ : ClassId) (ht : tys[0]? = some (cJ, .long)) (h0 h1 h2 : Nat) (u : ph_H) (n : Nat) (u2 : ph_H) (hu : ph_I u) (hn : n < 4294967296) (h : ph_take u n = (none, u2)) : hx_X l D tys yX1_take wsX1_take 10 184 [.ref h0, .long (lN n)] (hc_W cJ h0 h1 h2 u) (hc_W cJ h0 h1 h2 u2) := by
  refine hx_X.ofW (cc := cX1_take) (maxL := 7) (ret := (some .long)) (by decide) rfl (Nat.le_of_ble_eq_true rfl) ?_
  intro p e s m below meth c A ls hr S hno hw hl
  have S : hx_S p l s m _ meth c cX1_take 7 wsX1_take RX1 A D tys := S
  obtain ⟨⟨hx, hb, hml, hown, hts⟩, hK, hA, hE, hlk⟩ := id S
  have hi1 : ∀ w ∈ wsX10, w ∈ wsX1_take := by decide +kernel
  have hl : lv_has ls 7 [(0, .ref h0), (1, .long (lN n))] := hl
  have hu2 := hu
  obtain ⟨i1, i2, i3, i4⟩ := hu2
  have gu := ph_up_ge n
  have gu2 := ph_up_lt hn
  unfold ph_take at h
  cases hq : ph_ff u.1 u.2.1 (ph_up n) 8064 1024 with
  | some b =>
    rw [hq] at h
    dsimp only at h
    obtain ⟨f1, f2, f3, f4⟩ := ph_ff_some _ _ hq
    have gn := ph_n_lt u.1 b
    by_cases k1 : ph_n u.1 b < ph_up n + 16
    · rw [if_pos k1] at h
      cases h
    · rw [if_neg k1] at h
      by_cases k2 : (ph_wh u.1 (b + 8 + ph_up n) (ph_n u.1 b - ph_up n - 8) 0).1 = true
      · rw [if_pos k2] at h
        cases h
      · rw [if_neg k2] at h
        cases h
        refine lv_lload_n hx hb dX1_take_0 rfl (lv_at hl 1 rfl) ?_
        refine hx_callS (rest := []) (n := 1) S hw (c_rounded l hst D tys cJ ht h0 h1 h2 u n (by omega)) gX1_take_X1_rounded rfl (by decide +kernel) rfl ⟨Nat.le_of_ble_eq_true rfl, Nat.le_of_ble_eq_true rfl⟩ hc_adr hl.1 rfl (Nat.le_of_ble_eq_true rfl) ⟨by decide, by decide⟩ dX1_take_1 (fun H locs hw => ?_)
        refine W.eq (g2 := F0 m 4 ls [.long (lN (ph_up n))]) rfl ?_
        refine lv_lstore_n (lv' := [(3, .long (lN (ph_up n))), (0, .ref h0), (1, .long (lN n))]) hx hb dX1_take_4 rfl hl (by decide) rfl (fun ls hl => ?_)
        refine lv_aload_n hx hb dX1_take_5 rfl (lv_at hl 1 rfl) ?_
        refine lv_lload_n hx hb dX1_take_6 rfl (lv_at hl 0 rfl) ?_
        refine hx_callV (rest := []) (n := 1) S hw (c_firstFree l hst D tys cJ ht h0 h1 h2 u (ph_up n) (some b) hu (by omega) hq) gX1_take_X1_firstFree rfl (by decide +kernel) rfl ⟨Nat.le_of_ble_eq_true rfl, Nat.le_of_ble_eq_true rfl⟩ 0 1 rfl rfl hc_adr hl.1 rfl (Nat.le_of_ble_eq_true rfl) ⟨by decide, by decide⟩ dX1_take_7 (fun H locs hw => ?_)
        refine W.eq (g2 := F0 m 10 ls [.long (lN b)]) rfl ?_
        refine lv_lstore (lv' := [(5, .long (lN b)), (3, .long (lN (ph_up n))), (0, .ref h0), (1, .long (lN n))]) hx hb dX1_take_10 hl (by decide) rfl (fun ls hl => ?_)
        refine lv_lload hx hb dX1_take_12 (lv_at hl 0 rfl) ?_
        refine lv_lconst (v := lN 0) hx hb dX1_take_14 (by decide +kernel) ?_
        refine hn_leq (a := b) (b := 0) (tgt := 33) hx hb (by omega) (by omega) dX1_take_15 dX1_take_16 (by decide) (fun hc => ?_) (fun hc => ?_)
        · exact absurd hc (by omega)
        · refine lv_aload_n hx hb dX1_take_19 rfl (lv_at hl 2 rfl) ?_
          refine lv_lload hx hb dX1_take_20 (lv_at hl 0 rfl) ?_
          refine lv_lload_n hx hb dX1_take_22 rfl (lv_at hl 1 rfl) ?_
          exact hx_thr (rest := []) (n := 2) S hno hw (x_takeFree l hst D tys cJ ht h0 h1 h2 u b (ph_up n) (by omega) (by omega) f4 k1 k2) gX1_take_X1_takeFree rfl (by decide +kernel) rfl ⟨Nat.le_of_ble_eq_true rfl, Nat.le_of_ble_eq_true rfl⟩ 0 1 rfl rfl hc_adr hl.1 rfl (Nat.le_of_ble_eq_true rfl) ⟨by decide, by decide⟩ dX1_take_23
  | none =>
    rw [hq] at h
    dsimp only at h
    by_cases k1 : 480000 < n ∨ u.2.2 < u.2.1 + 8 + ph_up n + 4096
    · rw [if_pos k1] at h
      cases h
    · rw [if_neg k1] at h
      cases h
set_option maxHeartbeats 4000000 in
set_option maxRecDepth 100000 in
theorem c_allocate (l : Launch) (hst : l.stackTraces = false) (D : va_G) (tys : List (ClassId × FieldType)) (cJ : ClassId) (ht : tys[0]? = some (cJ, .long)) (h0 h1 h2 : Nat) (u : ph_H) (n x : Nat) (u2 : ph_H) (hu : ph_I u) (hn : n < 4294967296) (h : ph_take u n = (some x, u2)) : hx_R l D tys yX1_allocate wsX1_allocate 11 210 [.ref h0, .int (nI n)] (hc_W cJ h0 h1 h2 u) (hc_W cJ h0 h1 h2 u2) (some (.int (nI x))) := by
  refine hx_R.ofW (cc := cX1_allocate) (maxL := 2) (ret := (some .int)) (by decide) rfl (Nat.le_of_ble_eq_true rfl) ?_
  intro p e s m below meth c A ls hr S hw hl
  have S : hx_S p l s m _ meth c cX1_allocate 2 wsX1_allocate RX1 A D tys := S
  obtain ⟨⟨hx, hb, hml, hown, hts⟩, hK, hA, hE, hlk⟩ := id S
  have hi1 : ∀ w ∈ wsX10, w ∈ wsX1_allocate := by decide +kernel
  have hl : lv_has ls 2 [(0, .ref h0), (1, .int (nI n))] := hl
  refine lv_aload_n hx hb dX1_allocate_0 rfl (lv_at hl 0 rfl) ?_
  refine lv_iload_n hx hb dX1_allocate_1 rfl (lv_at hl 1 rfl) ?_
  refine hx_callS (rest := [.ref h0]) (n := 1) S hw (c_unsigned l hst D tys cJ ht h0 h1 h2 u n (by omega)) gX1_allocate_X1_unsigned rfl (by decide +kernel) rfl ⟨Nat.le_of_ble_eq_true rfl, Nat.le_of_ble_eq_true rfl⟩ hc_adr hl.1 rfl (Nat.le_of_ble_eq_true rfl) ⟨by decide, by decide⟩ dX1_allocate_2 (fun H locs hw => ?_)
  refine W.eq (g2 := F0 m 5 ls [.long (lN n), .ref h0]) rfl ?_
  refine hx_callV (rest := []) (n := 1) S hw (c_take l hst D tys cJ ht h0 h1 h2 u n x u2 hu hn h) gX1_allocate_X1_take rfl (by decide +kernel) rfl ⟨Nat.le_of_ble_eq_true rfl, Nat.le_of_ble_eq_true rfl⟩ 0 1 rfl rfl hc_adr hl.1 rfl (Nat.le_of_ble_eq_true rfl) ⟨by decide, by decide⟩ dX1_allocate_5 (fun H locs hw => ?_)
  refine W.eq (g2 := F0 m 8 ls [.long (lN x)]) rfl ?_
  refine lv_l2i (v := nI x) hx hb dX1_allocate_8 (lN_i _) ?_
  exact hx_iret S hr hw dX1_allocate_9
set_option maxHeartbeats 4000000 in
set_option maxRecDepth 100000 in
theorem x_allocate (l : Launch) (hst : l.stackTraces = false) (D : va_G) (tys : List (ClassId × FieldType)) (cJ : ClassId) (ht : tys[0]? = some (cJ, .long)) (h0 h1 h2 : Nat) (u : ph_H) (n : Nat) (u2 : ph_H) (hu : ph_I u) (hn : n < 4294967296) (h : ph_take u n = (none, u2)) : hx_X l D tys yX1_allocate wsX1_allocate 11 210 [.ref h0, .int (nI n)] (hc_W cJ h0 h1 h2 u) (hc_W cJ h0 h1 h2 u2) := by
  refine hx_X.ofW (cc := cX1_allocate) (maxL := 2) (ret := (some .int)) (by decide) rfl (Nat.le_of_ble_eq_true rfl) ?_
  intro p e s m below meth c A ls hr S hno hw hl
  have S : hx_S p l s m _ meth c cX1_allocate 2 wsX1_allocate RX1 A D tys := S
  obtain ⟨⟨hx, hb, hml, hown, hts⟩, hK, hA, hE, hlk⟩ := id S
  have hi1 : ∀ w ∈ wsX10, w ∈ wsX1_allocate := by decide +kernel
  have hl : lv_has ls 2 [(0, .ref h0), (1, .int (nI n))] := hl
  refine lv_aload_n hx hb dX1_allocate_0 rfl (lv_at hl 0 rfl) ?_
  refine lv_iload_n hx hb dX1_allocate_1 rfl (lv_at hl 1 rfl) ?_
  refine hx_callS (rest := [.ref h0]) (n := 1) S hw (c_unsigned l hst D tys cJ ht h0 h1 h2 u n (by omega)) gX1_allocate_X1_unsigned rfl (by decide +kernel) rfl ⟨Nat.le_of_ble_eq_true rfl, Nat.le_of_ble_eq_true rfl⟩ hc_adr hl.1 rfl (Nat.le_of_ble_eq_true rfl) ⟨by decide, by decide⟩ dX1_allocate_2 (fun H locs hw => ?_)
  refine W.eq (g2 := F0 m 5 ls [.long (lN n), .ref h0]) rfl ?_
  exact hx_thr (rest := []) (n := 1) S hno hw (x_take l hst D tys cJ ht h0 h1 h2 u n u2 hu hn h) gX1_allocate_X1_take rfl (by decide +kernel) rfl ⟨Nat.le_of_ble_eq_true rfl, Nat.le_of_ble_eq_true rfl⟩ 0 1 rfl rfl hc_adr hl.1 rfl (Nat.le_of_ble_eq_true rfl) ⟨by decide, by decide⟩ dX1_allocate_5
set_option maxHeartbeats 4000000 in
set_option maxRecDepth 100000 in
theorem c_cleared (l : Launch) (hst : l.stackTraces = false) (D : va_G) (tys : List (ClassId × FieldType)) (cJ : ClassId) (ht : tys[0]? = some (cJ, .long)) (h0 h1 h2 : Nat) (u : ph_H) (n k q x : Nat) (u2 : ph_H) (hu : ph_I u) (hn : n < 4294967296) (hk : k < 4294967296) (hq : n * k = q) (h : ph_clrd u q = (some x, u2)) : hx_R l D tys yX1_cleared wsX1_cleared 11 210 [.ref h0, .int (nI n), .int (nI k)] (hc_W cJ h0 h1 h2 u) (hc_W cJ h0 h1 h2 u2) (some (.int (nI x))) := by
  refine hx_R.ofW (cc := cX1_cleared) (maxL := 7) (ret := (some .int)) (by decide) rfl (Nat.le_of_ble_eq_true rfl) ?_
  intro p e s m below meth c A ls hr S hw hl
  have S : hx_S p l s m _ meth c cX1_cleared 7 wsX1_cleared RX1 A D tys := S
  obtain ⟨⟨hx, hb, hml, hown, hts⟩, hK, hA, hE, hlk⟩ := id S
  have hi1 : ∀ w ∈ wsX10, w ∈ wsX1_cleared := by decide +kernel
  have hl : lv_has ls 7 [(0, .ref h0), (1, .int (nI n)), (2, .int (nI k))] := hl
  have hq64 : q < 18446744073709551616 := by rw [← hq]; exact Nat.mul_lt_mul'' hn hk
  have hu2 := hu
  obtain ⟨i1, i2, i3, i4⟩ := hu2
  refine lv_iload_n hx hb dX1_cleared_0 rfl (lv_at hl 1 rfl) ?_
  refine hx_callS (rest := []) (n := 1) S hw (c_unsigned l hst D tys cJ ht h0 h1 h2 u n (by omega)) gX1_cleared_X1_unsigned rfl (by decide +kernel) rfl ⟨Nat.le_of_ble_eq_true rfl, Nat.le_of_ble_eq_true rfl⟩ hc_adr hl.1 rfl (Nat.le_of_ble_eq_true rfl) ⟨by decide, by decide⟩ dX1_cleared_1 (fun H locs hw => ?_)
  refine W.eq (g2 := F0 m 4 ls [.long (lN n)]) rfl ?_
  refine lv_iload_n hx hb dX1_cleared_4 rfl (lv_at hl 2 rfl) ?_
  refine hx_callS (rest := [.long (lN n)]) (n := 1) S hw (c_unsigned l hst D tys cJ ht h0 h1 h2 u k (by omega)) gX1_cleared_X1_unsigned rfl (by decide +kernel) rfl ⟨Nat.le_of_ble_eq_true rfl, Nat.le_of_ble_eq_true rfl⟩ hc_adr hl.1 rfl (Nat.le_of_ble_eq_true rfl) ⟨by decide, by decide⟩ dX1_cleared_5 (fun H locs hw => ?_)
  refine W.eq (g2 := F0 m 8 ls [.long (lN k), .long (lN n)]) rfl ?_
  refine hn_lmul (v := lN q) hx hb dX1_cleared_8 (by rw [lN_mul, hq]) ?_
  refine lv_lstore_n (lv' := [(3, .long (lN q)), (0, .ref h0), (1, .int (nI n)), (2, .int (nI k))]) hx hb dX1_cleared_9 rfl hl (by decide) rfl (fun ls hl => ?_)
  refine lv_lload_n hx hb dX1_cleared_10 rfl (lv_at hl 0 rfl) ?_
  refine lv_lconst (v := lN 0) hx hb dX1_cleared_11 (by decide +kernel) ?_
  unfold ph_clrd at h
  by_cases kb : 480000 < q
  · rw [if_pos kb] at h
    cases h
    by_cases k63 : q < 9223372036854775808
    · refine hn_llt (a := q) (b := 0) (tgt := 24) hx hb (by omega) (by omega) dX1_cleared_12 dX1_cleared_13 (by decide) (fun hc => ?_) (fun hc => ?_)
      · exact absurd hc (by omega)
      · refine lv_lload_n hx hb dX1_cleared_16 rfl (lv_at hl 0 rfl) ?_
        refine lv_ldc2 (v := lN 480000) hx hb hown (hts (.constantLong RX1 35 (lN 480000)) (by decide +kernel)) dX1_cleared_17 ?_
        refine hn_lle (a := q) (b := 480000) (tgt := 26) hx hb (by omega) (by omega) dX1_cleared_20 dX1_cleared_21 (by decide) (fun hc2 => ?_) (fun hc2 => ?_)
        · exact absurd hc2 (by omega)
        · refine lv_iconst (v := nI 0) hx hb dX1_cleared_24 (by decide +kernel) ?_
          exact hx_iret S hr hw dX1_cleared_25
    · refine W.lcmp hx hb dX1_cleared_12 ?_
      refine lv_if_lt (tgt := 24) hx hb dX1_cleared_13 (by decide) (fun _ => ?_) (fun z => absurd (hp_big (by omega) hq64) z)
      refine lv_iconst (v := nI 0) hx hb dX1_cleared_24 (by decide +kernel) ?_
      exact hx_iret S hr hw dX1_cleared_25
  · rw [if_neg kb] at h
    refine hn_llt (a := q) (b := 0) (tgt := 24) hx hb (by omega) (by omega) dX1_cleared_12 dX1_cleared_13 (by decide) (fun hc => ?_) (fun hc => ?_)
    · exact absurd hc (by omega)
    · refine lv_lload_n hx hb dX1_cleared_16 rfl (lv_at hl 0 rfl) ?_
      refine lv_ldc2 (v := lN 480000) hx hb hown (hts (.constantLong RX1 35 (lN 480000)) (by decide +kernel)) dX1_cleared_17 ?_
      refine hn_lle (a := q) (b := 480000) (tgt := 26) hx hb (by omega) (by omega) dX1_cleared_20 dX1_cleared_21 (by decide) (fun hc2 => ?_) (fun hc2 => ?_)
      · refine lv_aload_n hx hb dX1_cleared_26 rfl (lv_at hl 1 rfl) ?_
        refine lv_lload_n hx hb dX1_cleared_27 rfl (lv_at hl 0 rfl) ?_
        rcases ht2 : ph_take u q with ⟨_ | a, u3⟩
        · rw [ht2] at h
          dsimp only at h
          cases h
        · rw [ht2] at h
          dsimp only at h
          have ga := ph_take_at hu ht2
          refine hx_callV (rest := []) (n := 1) S hw (c_take l hst D tys cJ ht h0 h1 h2 u q a u3 hu (by omega) ht2) gX1_cleared_X1_take rfl (by decide +kernel) rfl ⟨Nat.le_of_ble_eq_true rfl, Nat.le_of_ble_eq_true rfl⟩ 0 1 rfl rfl hc_adr hl.1 rfl (Nat.le_of_ble_eq_true rfl) ⟨by decide, by decide⟩ dX1_cleared_28 (fun H locs hw => ?_)
          refine W.eq (g2 := F0 m 31 ls [.long (lN a)]) rfl ?_
          refine lv_lstore (lv' := [(5, .long (lN a)), (3, .long (lN q)), (0, .ref h0), (1, .int (nI n)), (2, .int (nI k))]) hx hb dX1_cleared_31 hl (by decide) rfl (fun ls hl => ?_)
          refine lv_lload hx hb dX1_cleared_33 (lv_at hl 0 rfl) ?_
          refine lv_lconst (v := lN 0) hx hb dX1_cleared_35 (by decide +kernel) ?_
          refine hn_leq (a := a) (b := 0) (tgt := 47) hx hb (by omega) (by omega) dX1_cleared_36 dX1_cleared_37 (by decide) (fun hc3 => ?_) (fun hc3 => ?_)
          · rw [if_pos hc3] at h
            cases h
            subst hc3
            refine lv_lload hx hb dX1_cleared_47 (lv_at hl 0 rfl) ?_
            refine lv_l2i (v := nI 0) hx hb dX1_cleared_49 (lN_i _) ?_
            exact hx_iret S hr hw dX1_cleared_50
          · rw [if_neg hc3] at h
            refine lv_aload_n hx hb dX1_cleared_40 rfl (lv_at hl 2 rfl) ?_
            refine lv_lload hx hb dX1_cleared_41 (lv_at hl 0 rfl) ?_
            refine lv_lload_n hx hb dX1_cleared_43 rfl (lv_at hl 1 rfl) ?_
            rcases hl2 : ph_clr q u3.1 a with ⟨_ | _, M⟩
            · rw [hl2] at h
              simp only [Bool.false_eq_true, if_false] at h
              cases h
            · rw [hl2] at h
              simp only [if_true] at h
              cases h
              refine hx_callV (rest := []) (n := 2) S hw (c_clear l hst D tys cJ ht h0 h1 h2 u3 x q M (by omega) (by omega) hl2) gX1_cleared_X1_clear rfl (by decide +kernel) rfl ⟨Nat.le_of_ble_eq_true rfl, Nat.le_of_ble_eq_true rfl⟩ 0 1 rfl rfl hc_adr hl.1 rfl (Nat.le_of_ble_eq_true rfl) ⟨by decide, by decide⟩ dX1_cleared_44 (fun H locs hw => ?_)
              refine W.eq (g2 := F0 m 47 ls []) rfl ?_
              refine lv_lload hx hb dX1_cleared_47 (lv_at hl 0 rfl) ?_
              refine lv_l2i (v := nI x) hx hb dX1_cleared_49 (lN_i _) ?_
              exact hx_iret S hr hw dX1_cleared_50
      · exact absurd hc2 (by omega)
set_option maxHeartbeats 4000000 in
set_option maxRecDepth 100000 in
theorem x_cleared (l : Launch) (hst : l.stackTraces = false) (D : va_G) (tys : List (ClassId × FieldType)) (cJ : ClassId) (ht : tys[0]? = some (cJ, .long)) (h0 h1 h2 : Nat) (u : ph_H) (n k q : Nat) (u2 : ph_H) (hu : ph_I u) (hn : n < 4294967296) (hk : k < 4294967296) (hq : n * k = q) (h : ph_clrd u q = (none, u2)) : hx_X l D tys yX1_cleared wsX1_cleared 11 210 [.ref h0, .int (nI n), .int (nI k)] (hc_W cJ h0 h1 h2 u) (hc_W cJ h0 h1 h2 u2) := by
  refine hx_X.ofW (cc := cX1_cleared) (maxL := 7) (ret := (some .int)) (by decide) rfl (Nat.le_of_ble_eq_true rfl) ?_
  intro p e s m below meth c A ls hr S hno hw hl
  have S : hx_S p l s m _ meth c cX1_cleared 7 wsX1_cleared RX1 A D tys := S
  obtain ⟨⟨hx, hb, hml, hown, hts⟩, hK, hA, hE, hlk⟩ := id S
  have hi1 : ∀ w ∈ wsX10, w ∈ wsX1_cleared := by decide +kernel
  have hl : lv_has ls 7 [(0, .ref h0), (1, .int (nI n)), (2, .int (nI k))] := hl
  have hq64 : q < 18446744073709551616 := by rw [← hq]; exact Nat.mul_lt_mul'' hn hk
  have hu2 := hu
  obtain ⟨i1, i2, i3, i4⟩ := hu2
  refine lv_iload_n hx hb dX1_cleared_0 rfl (lv_at hl 1 rfl) ?_
  refine hx_callS (rest := []) (n := 1) S hw (c_unsigned l hst D tys cJ ht h0 h1 h2 u n (by omega)) gX1_cleared_X1_unsigned rfl (by decide +kernel) rfl ⟨Nat.le_of_ble_eq_true rfl, Nat.le_of_ble_eq_true rfl⟩ hc_adr hl.1 rfl (Nat.le_of_ble_eq_true rfl) ⟨by decide, by decide⟩ dX1_cleared_1 (fun H locs hw => ?_)
  refine W.eq (g2 := F0 m 4 ls [.long (lN n)]) rfl ?_
  refine lv_iload_n hx hb dX1_cleared_4 rfl (lv_at hl 2 rfl) ?_
  refine hx_callS (rest := [.long (lN n)]) (n := 1) S hw (c_unsigned l hst D tys cJ ht h0 h1 h2 u k (by omega)) gX1_cleared_X1_unsigned rfl (by decide +kernel) rfl ⟨Nat.le_of_ble_eq_true rfl, Nat.le_of_ble_eq_true rfl⟩ hc_adr hl.1 rfl (Nat.le_of_ble_eq_true rfl) ⟨by decide, by decide⟩ dX1_cleared_5 (fun H locs hw => ?_)
  refine W.eq (g2 := F0 m 8 ls [.long (lN k), .long (lN n)]) rfl ?_
  refine hn_lmul (v := lN q) hx hb dX1_cleared_8 (by rw [lN_mul, hq]) ?_
  refine lv_lstore_n (lv' := [(3, .long (lN q)), (0, .ref h0), (1, .int (nI n)), (2, .int (nI k))]) hx hb dX1_cleared_9 rfl hl (by decide) rfl (fun ls hl => ?_)
  refine lv_lload_n hx hb dX1_cleared_10 rfl (lv_at hl 0 rfl) ?_
  refine lv_lconst (v := lN 0) hx hb dX1_cleared_11 (by decide +kernel) ?_
  unfold ph_clrd at h
  by_cases kb : 480000 < q
  · rw [if_pos kb] at h
    cases h
  · rw [if_neg kb] at h
    refine hn_llt (a := q) (b := 0) (tgt := 24) hx hb (by omega) (by omega) dX1_cleared_12 dX1_cleared_13 (by decide) (fun hc => ?_) (fun hc => ?_)
    · exact absurd hc (by omega)
    · refine lv_lload_n hx hb dX1_cleared_16 rfl (lv_at hl 0 rfl) ?_
      refine lv_ldc2 (v := lN 480000) hx hb hown (hts (.constantLong RX1 35 (lN 480000)) (by decide +kernel)) dX1_cleared_17 ?_
      refine hn_lle (a := q) (b := 480000) (tgt := 26) hx hb (by omega) (by omega) dX1_cleared_20 dX1_cleared_21 (by decide) (fun hc2 => ?_) (fun hc2 => ?_)
      · refine lv_aload_n hx hb dX1_cleared_26 rfl (lv_at hl 1 rfl) ?_
        refine lv_lload_n hx hb dX1_cleared_27 rfl (lv_at hl 0 rfl) ?_
        rcases ht2 : ph_take u q with ⟨_ | a, u3⟩
        · rw [ht2] at h
          dsimp only at h
          cases h
          exact hx_thr (rest := []) (n := 1) S hno hw (x_take l hst D tys cJ ht h0 h1 h2 u q u2 hu (by omega) ht2) gX1_cleared_X1_take rfl (by decide +kernel) rfl ⟨Nat.le_of_ble_eq_true rfl, Nat.le_of_ble_eq_true rfl⟩ 0 1 rfl rfl hc_adr hl.1 rfl (Nat.le_of_ble_eq_true rfl) ⟨by decide, by decide⟩ dX1_cleared_28
        · rw [ht2] at h
          dsimp only at h
          have ga := ph_take_at hu ht2
          refine hx_callV (rest := []) (n := 1) S hw (c_take l hst D tys cJ ht h0 h1 h2 u q a u3 hu (by omega) ht2) gX1_cleared_X1_take rfl (by decide +kernel) rfl ⟨Nat.le_of_ble_eq_true rfl, Nat.le_of_ble_eq_true rfl⟩ 0 1 rfl rfl hc_adr hl.1 rfl (Nat.le_of_ble_eq_true rfl) ⟨by decide, by decide⟩ dX1_cleared_28 (fun H locs hw => ?_)
          refine W.eq (g2 := F0 m 31 ls [.long (lN a)]) rfl ?_
          refine lv_lstore (lv' := [(5, .long (lN a)), (3, .long (lN q)), (0, .ref h0), (1, .int (nI n)), (2, .int (nI k))]) hx hb dX1_cleared_31 hl (by decide) rfl (fun ls hl => ?_)
          refine lv_lload hx hb dX1_cleared_33 (lv_at hl 0 rfl) ?_
          refine lv_lconst (v := lN 0) hx hb dX1_cleared_35 (by decide +kernel) ?_
          refine hn_leq (a := a) (b := 0) (tgt := 47) hx hb (by omega) (by omega) dX1_cleared_36 dX1_cleared_37 (by decide) (fun hc3 => ?_) (fun hc3 => ?_)
          · rw [if_pos hc3] at h
            cases h
          · rw [if_neg hc3] at h
            refine lv_aload_n hx hb dX1_cleared_40 rfl (lv_at hl 2 rfl) ?_
            refine lv_lload hx hb dX1_cleared_41 (lv_at hl 0 rfl) ?_
            refine lv_lload_n hx hb dX1_cleared_43 rfl (lv_at hl 1 rfl) ?_
            rcases hl2 : ph_clr q u3.1 a with ⟨_ | _, M⟩
            · rw [hl2] at h
              simp only [Bool.false_eq_true, if_false] at h
              cases h
              exact hx_thr (rest := []) (n := 2) S hno hw (x_clear l hst D tys cJ ht h0 h1 h2 u3 a q M (by omega) (by omega) hl2) gX1_cleared_X1_clear rfl (by decide +kernel) rfl ⟨Nat.le_of_ble_eq_true rfl, Nat.le_of_ble_eq_true rfl⟩ 0 1 rfl rfl hc_adr hl.1 rfl (Nat.le_of_ble_eq_true rfl) ⟨by decide, by decide⟩ dX1_cleared_44
            · rw [hl2] at h
              simp only [if_true] at h
              cases h
      · exact absurd hc2 (by omega)
set_option maxHeartbeats 4000000 in
set_option maxRecDepth 100000 in
theorem c_free0 (l : Launch) (hst : l.stackTraces = false) (D : va_G) (tys : List (ClassId × FieldType)) (cJ : ClassId) (ht : tys[0]? = some (cJ, .long)) (h0 h1 h2 : Nat) (u : ph_H) : hx_R l D tys yX1_free wsX1_free 11 208 [.ref h0, .int (nI 0)] (hc_W cJ h0 h1 h2 u) (hc_W cJ h0 h1 h2 u) (some (.int (nI 0))) := by
  refine hx_R.ofW (cc := cX1_free) (maxL := 2) (ret := (some .boolean)) (by decide) rfl (Nat.le_of_ble_eq_true rfl) ?_
  intro p e s m below meth c A ls hr S hw hl
  have S : hx_S p l s m _ meth c cX1_free 2 wsX1_free RX1 A D tys := S
  obtain ⟨⟨hx, hb, hml, hown, hts⟩, hK, hA, hE, hlk⟩ := id S
  have hi1 : ∀ w ∈ wsX10, w ∈ wsX1_free := by decide +kernel
  have hl : lv_has ls 2 [(0, .ref h0), (1, .int (nI 0))] := hl
  refine lv_iload_n hx hb dX1_free_0 rfl (lv_at hl 1 rfl) ?_
  refine hn_zne (n := 0) (tgt := 6) hx hb (by omega) dX1_free_1 (by decide) (fun hc => ?_) (fun hc => ?_)
  · exact absurd rfl hc
  · refine lv_iconst (v := nI 0) hx hb dX1_free_4 (by decide +kernel) ?_
    exact hx_zret S hr rfl hw dX1_free_5
set_option maxHeartbeats 4000000 in
set_option maxRecDepth 100000 in
theorem c_free (l : Launch) (hst : l.stackTraces = false) (D : va_G) (tys : List (ClassId × FieldType)) (cJ : ClassId) (ht : tys[0]? = some (cJ, .long)) (h0 h1 h2 : Nat) (u : ph_H) (a : Nat) (u2 : ph_H) (hu : ph_I u) (ha : a < 4294967296) (ha0 : a ≠ 0) (h : ph_give u a = (true, u2)) : hx_R l D tys yX1_free wsX1_free 11 208 [.ref h0, .int (nI a)] (hc_W cJ h0 h1 h2 u) (hc_W cJ h0 h1 h2 u2) (some (.int (nI 1))) := by
  refine hx_R.ofW (cc := cX1_free) (maxL := 2) (ret := (some .boolean)) (by decide) rfl (Nat.le_of_ble_eq_true rfl) ?_
  intro p e s m below meth c A ls hr S hw hl
  have S : hx_S p l s m _ meth c cX1_free 2 wsX1_free RX1 A D tys := S
  obtain ⟨⟨hx, hb, hml, hown, hts⟩, hK, hA, hE, hlk⟩ := id S
  have hi1 : ∀ w ∈ wsX10, w ∈ wsX1_free := by decide +kernel
  have hl : lv_has ls 2 [(0, .ref h0), (1, .int (nI a))] := hl
  unfold ph_give at h
  refine lv_iload_n hx hb dX1_free_0 rfl (lv_at hl 1 rfl) ?_
  refine hn_zne (n := a) (tgt := 6) hx hb (by omega) dX1_free_1 (by decide) (fun hc => ?_) (fun hc => ?_)
  · refine lv_aload_n hx hb dX1_free_6 rfl (lv_at hl 0 rfl) ?_
    refine lv_aload_n hx hb dX1_free_7 rfl (lv_at hl 0 rfl) ?_
    refine lv_iload_n hx hb dX1_free_8 rfl (lv_at hl 1 rfl) ?_
    refine hx_callS (rest := [.ref h0, .ref h0]) (n := 1) S hw (c_unsigned l hst D tys cJ ht h0 h1 h2 u a (by omega)) gX1_free_X1_unsigned rfl (by decide +kernel) rfl ⟨Nat.le_of_ble_eq_true rfl, Nat.le_of_ble_eq_true rfl⟩ hc_adr hl.1 rfl (Nat.le_of_ble_eq_true rfl) ⟨by decide, by decide⟩ dX1_free_9 (fun H locs hw => ?_)
    refine W.eq (g2 := F0 m 12 ls [.long (lN a), .ref h0, .ref h0]) rfl ?_
    rcases hf : ph_fd u.1 u.2.1 a 8064 0 1024 with _ | ⟨b, p0⟩
    · rw [hf] at h
      dsimp only at h
      cases h
    · rw [hf] at h
      dsimp only at h
      cases h
      refine hx_callV (rest := [.ref h0]) (n := 1) S hw (c_takenBlock l hst D tys cJ ht h0 h1 h2 u a b p0 hu (by omega) hf) gX1_free_X1_takenBlock rfl (by decide +kernel) rfl ⟨Nat.le_of_ble_eq_true rfl, Nat.le_of_ble_eq_true rfl⟩ 0 1 rfl rfl hc_adr hl.1 rfl (Nat.le_of_ble_eq_true rfl) ⟨by decide, by decide⟩ dX1_free_12 (fun H locs hw => ?_)
      refine W.eq (g2 := F0 m 15 ls [.long (lN b), .ref h0]) rfl ?_
      refine hx_callV (rest := []) (n := 1) S hw (c_giveBack l hst D tys cJ ht h0 h1 h2 u a b p0 hu hf) gX1_free_X1_giveBack rfl (by decide +kernel) rfl ⟨Nat.le_of_ble_eq_true rfl, Nat.le_of_ble_eq_true rfl⟩ 0 1 rfl rfl hc_adr hl.1 rfl (Nat.le_of_ble_eq_true rfl) ⟨by decide, by decide⟩ dX1_free_15 (fun H locs hw => ?_)
      refine W.eq (g2 := F0 m 18 ls []) rfl ?_
      refine lv_iconst (v := nI 1) hx hb dX1_free_18 (by decide +kernel) ?_
      exact hx_zret S hr rfl hw dX1_free_19
  · exact absurd hc ha0
set_option maxHeartbeats 4000000 in
set_option maxRecDepth 100000 in
theorem x_free (l : Launch) (hst : l.stackTraces = false) (D : va_G) (tys : List (ClassId × FieldType)) (cJ : ClassId) (ht : tys[0]? = some (cJ, .long)) (h0 h1 h2 : Nat) (u : ph_H) (a : Nat) (u2 : ph_H) (hu : ph_I u) (ha : a < 4294967296) (ha0 : a ≠ 0) (h : ph_give u a = (false, u2)) : hx_X l D tys yX1_free wsX1_free 11 208 [.ref h0, .int (nI a)] (hc_W cJ h0 h1 h2 u) (hc_W cJ h0 h1 h2 u2) := by
  refine hx_X.ofW (cc := cX1_free) (maxL := 2) (ret := (some .boolean)) (by decide) rfl (Nat.le_of_ble_eq_true rfl) ?_
  intro p e s m below meth c A ls hr S hno hw hl
  have S : hx_S p l s m _ meth c cX1_free 2 wsX1_free RX1 A D tys := S
  obtain ⟨⟨hx, hb, hml, hown, hts⟩, hK, hA, hE, hlk⟩ := id S
  have hi1 : ∀ w ∈ wsX10, w ∈ wsX1_free := by decide +kernel
  have hl : lv_has ls 2 [(0, .ref h0), (1, .int (nI a))] := hl
  unfold ph_give at h
  refine lv_iload_n hx hb dX1_free_0 rfl (lv_at hl 1 rfl) ?_
  refine hn_zne (n := a) (tgt := 6) hx hb (by omega) dX1_free_1 (by decide) (fun hc => ?_) (fun hc => ?_)
  · refine lv_aload_n hx hb dX1_free_6 rfl (lv_at hl 0 rfl) ?_
    refine lv_aload_n hx hb dX1_free_7 rfl (lv_at hl 0 rfl) ?_
    refine lv_iload_n hx hb dX1_free_8 rfl (lv_at hl 1 rfl) ?_
    refine hx_callS (rest := [.ref h0, .ref h0]) (n := 1) S hw (c_unsigned l hst D tys cJ ht h0 h1 h2 u a (by omega)) gX1_free_X1_unsigned rfl (by decide +kernel) rfl ⟨Nat.le_of_ble_eq_true rfl, Nat.le_of_ble_eq_true rfl⟩ hc_adr hl.1 rfl (Nat.le_of_ble_eq_true rfl) ⟨by decide, by decide⟩ dX1_free_9 (fun H locs hw => ?_)
    refine W.eq (g2 := F0 m 12 ls [.long (lN a), .ref h0, .ref h0]) rfl ?_
    rcases hf : ph_fd u.1 u.2.1 a 8064 0 1024 with _ | ⟨b, p0⟩
    · rw [hf] at h
      dsimp only at h
      cases h
      exact hx_thr (rest := [.ref h0]) (n := 1) S hno hw (x_takenBlock l hst D tys cJ ht h0 h1 h2 u a hu (by omega) hf) gX1_free_X1_takenBlock rfl (by decide +kernel) rfl ⟨Nat.le_of_ble_eq_true rfl, Nat.le_of_ble_eq_true rfl⟩ 0 1 rfl rfl hc_adr hl.1 rfl (Nat.le_of_ble_eq_true rfl) ⟨by decide, by decide⟩ dX1_free_12
    · rw [hf] at h
      dsimp only at h
      cases h
  · exact absurd hc ha0
set_option maxHeartbeats 4000000 in
set_option maxRecDepth 100000 in
theorem c_stack (l : Launch) (hst : l.stackTraces = false) (D : va_G) (tys : List (ClassId × FieldType)) (cJ : ClassId) (ht : tys[0]? = some (cJ, .long)) (h0 h1 h2 : Nat) (u : ph_H) (t : Nat) (hu : ph_I u) (hta : t < 4294967296) : hx_R l D tys yX1_stack wsX1_stack 0 0 [.ref h0, .int (nI t)] (hc_W cJ h0 h1 h2 u) (hc_W cJ h0 h1 h2 (ph_stk u t).2) (some (.int (if (ph_stk u t).1 = true then nI 1 else nI 0))) := by
  refine hx_R.ofW (cc := cX1_stack) (maxL := 2) (ret := (some .boolean)) (by decide) rfl (Nat.le_of_ble_eq_true rfl) ?_
  intro p e s m below meth c A ls hr S hw hl
  have S : hx_S p l s m _ meth c cX1_stack 2 wsX1_stack RX1 A D tys := S
  obtain ⟨⟨hx, hb, hml, hown, hts⟩, hK, hA, hE, hlk⟩ := id S
  have hi1 : ∀ w ∈ wsX10, w ∈ wsX1_stack := by decide +kernel
  have hl : lv_has ls 2 [(0, .ref h0), (1, .int (nI t))] := hl
  obtain ⟨i1, i2, i3, i4⟩ := hu
  unfold ph_stk
  refine lv_iload_n hx hb dX1_stack_0 rfl (lv_at hl 1 rfl) ?_
  refine lv_sipush (v := nI 1024) hx hb dX1_stack_1 (by decide +kernel) ?_
  by_cases kt : t < 2147483648
  · refine hn_ilt (a := t) (b := 1024) (tgt := 23) hx hb (by omega) (by omega) dX1_stack_4 (by decide) (fun hc => ?_) (fun hc => ?_)
    · rw [if_pos (by omega)]
      refine lv_iconst (v := nI 0) hx hb dX1_stack_23 (by decide +kernel) ?_
      exact hx_zret (v := nI 0) S hr rfl hw dX1_stack_24
    · refine lv_iload_n hx hb dX1_stack_7 rfl (lv_at hl 1 rfl) ?_
      refine lv_ldc (v := nI 65536) hx hb hown (hts (.constant RX1 58 (nI 65536)) (by decide +kernel)) dX1_stack_8 ?_
      refine hn_igt (a := t) (b := 65536) (tgt := 23) hx hb (by omega) (by omega) dX1_stack_10 (by decide) (fun hc2 => ?_) (fun hc2 => ?_)
      · rw [if_pos (by omega)]
        refine lv_iconst (v := nI 0) hx hb dX1_stack_23 (by decide +kernel) ?_
        exact hx_zret (v := nI 0) S hr rfl hw dX1_stack_24
      · refine lv_iload_n hx hb dX1_stack_13 rfl (lv_at hl 1 rfl) ?_
        refine lv_i2l (v := lN t) hx hb dX1_stack_14 (nI_l (by omega)) ?_
        refine lv_aload_n hx hb dX1_stack_15 rfl (lv_at hl 0 rfl) ?_
        refine va_get (D := D) (ci := 1) (v := .long (lN u.2.1)) (C := RX1) (T := TX1) (N := 3) hx hb hts hi1 hown hK hw.1 0 rfl rfl 1 (by decide) (hts (.fieldLink RX1 18 "HeapRow" "end" "J") (by decide +kernel)) (fun _ h9 => h9) rfl dX1_stack_16 ?_
        refine hn_lge (a := t) (b := u.2.1) (tgt := 25) hx hb (by omega) (by omega) dX1_stack_19 dX1_stack_20 (by decide) (fun hc3 => ?_) (fun hc3 => ?_)
        · rw [if_neg (by omega)]
          refine lv_aload_n hx hb dX1_stack_25 rfl (lv_at hl 0 rfl) ?_
          refine lv_iload_n hx hb dX1_stack_26 rfl (lv_at hl 1 rfl) ?_
          refine lv_i2l (v := lN t) hx hb dX1_stack_27 (nI_l (by omega)) ?_
          refine va_put (D := D) (ci := 1) (v := .long (lN t)) (ty := .long) (C := RX1) (T := TX1) (N := 3) hx hb hts hi1 tyX1 tyX1_ok nmX1 hown hK hw.1 hw.2.1 hw.2.2 0 rfl rfl 2 (by decide) (hts (.fieldLink RX1 24 "HeapRow" "stackEnd" "J") (by decide +kernel)) (fun _ h9 => h9) rfl (by decide +kernel) rfl rfl (Nat.le_of_ble_eq_true rfl) dX1_stack_28 (fun H locs y1 y2 y3 => ?_)
          have hw : hx_w D A s.heap (hc_W cJ h0 h1 h2 (u.1, u.2.1, t)) H locs := ⟨y1, y2, y3⟩
          refine lv_iconst (v := nI 1) hx hb dX1_stack_31 (by decide +kernel) ?_
          exact hx_zret (v := nI 1) S hr rfl hw dX1_stack_32
        · rw [if_pos (by omega)]
          refine lv_iconst (v := nI 0) hx hb dX1_stack_23 (by decide +kernel) ?_
          exact hx_zret (v := nI 0) S hr rfl hw dX1_stack_24
  · refine lv_icmp_lt (tgt := 23) hx hb dX1_stack_4 (by decide) (fun _ => ?_) (fun z => absurd (hp_ineg (by omega) hta) z)
    rw [if_pos (by omega)]
    refine lv_iconst (v := nI 0) hx hb dX1_stack_23 (by decide +kernel) ?_
    exact hx_zret (v := nI 0) S hr rfl hw dX1_stack_24
set_option maxHeartbeats 4000000 in
set_option maxRecDepth 100000 in
theorem c_put (l : Launch) (hst : l.stackTraces = false) (D : va_G) (tys : List (ClassId × FieldType)) (cJ : ClassId) (ht : tys[0]? = some (cJ, .long)) (h0 h1 h2 : Nat) (u : ph_H) (a v : Nat) (ha : a < 4294967296) (hv : v < 4294967296) : hx_R l D tys yX1_put wsX1_put 7 108 [.ref h0, .int (nI a), .int (nI v)] (hc_W cJ h0 h1 h2 u) (hc_W cJ h0 h1 h2 (if ph_in a then (ph_sb u.1 a v, u.2) else u)) (some (.int (if ph_in a then nI (ph_b u.1 a) else (-1)))) := by
  refine hx_R.ofW (cc := cX1_put) (maxL := 6) (ret := (some .int)) (by decide) rfl (Nat.le_of_ble_eq_true rfl) ?_
  intro p e s m below meth c A ls hr S hw hl
  have S : hx_S p l s m _ meth c cX1_put 6 wsX1_put RX1 A D tys := S
  obtain ⟨⟨hx, hb, hml, hown, hts⟩, hK, hA, hE, hlk⟩ := id S
  have hi1 : ∀ w ∈ wsX10, w ∈ wsX1_put := by decide +kernel
  have hl : lv_has ls 6 [(0, .ref h0), (1, .int (nI a)), (2, .int (nI v))] := hl
  refine lv_iload_n hx hb dX1_put_0 rfl (lv_at hl 1 rfl) ?_
  refine hx_callS (rest := []) (n := 1) S hw (c_unsigned l hst D tys cJ ht h0 h1 h2 u a (by omega)) gX1_put_X1_unsigned rfl (by decide +kernel) rfl ⟨Nat.le_of_ble_eq_true rfl, Nat.le_of_ble_eq_true rfl⟩ hc_adr hl.1 rfl (Nat.le_of_ble_eq_true rfl) ⟨by decide, by decide⟩ dX1_put_1 (fun H locs hw => ?_)
  refine W.eq (g2 := F0 m 4 ls [.long (lN a)]) rfl ?_
  refine lv_lstore_n (lv' := [(3, .long (lN a)), (0, .ref h0), (1, .int (nI a)), (2, .int (nI v))]) hx hb dX1_put_4 rfl hl (by decide) rfl (fun ls hl => ?_)
  refine lv_aload_n hx hb dX1_put_5 rfl (lv_at hl 1 rfl) ?_
  refine va_get (D := D) (ci := 1) (v := .ref h1) (C := RX1) (T := TX1) (N := 3) hx hb hts hi1 hown hK hw.1 0 rfl rfl 0 (by decide) (hts (.fieldLink RX1 12 "HeapRow" "memory" "LHeapRow$Memory;") (by decide +kernel)) (fun _ h9 => h9) rfl dX1_put_6 ?_
  refine lv_lload_n hx hb dX1_put_9 rfl (lv_at hl 0 rfl) ?_
  refine hx_callV (rest := []) (n := 1) S hw (c_has l hst D tys cJ ht h0 h1 h2 u a (by omega)) gX1_put_X0_has rfl (by decide +kernel) rfl ⟨Nat.le_of_ble_eq_true rfl, Nat.le_of_ble_eq_true rfl⟩ 1 0 rfl rfl hc_adr hl.1 rfl (Nat.le_of_ble_eq_true rfl) ⟨by decide, by decide⟩ dX1_put_10 (fun H locs hw => ?_)
  refine W.eq (g2 := F0 m 13 ls [.int (if ph_in a then nI 1 else nI 0)]) rfl ?_
  refine hn_pne (tgt := 18) hx hb dX1_put_13 (by decide) (fun hc => ?_) (fun hc => ?_)
  · rw [if_pos hc, if_pos hc]
    refine lv_aload_n hx hb dX1_put_18 rfl (lv_at hl 1 rfl) ?_
    refine va_get (D := D) (ci := 1) (v := .ref h1) (C := RX1) (T := TX1) (N := 3) hx hb hts hi1 hown hK hw.1 0 rfl rfl 0 (by decide) (hts (.fieldLink RX1 12 "HeapRow" "memory" "LHeapRow$Memory;") (by decide +kernel)) (fun _ h9 => h9) rfl dX1_put_19 ?_
    refine lv_lload_n hx hb dX1_put_22 rfl (lv_at hl 0 rfl) ?_
    refine hx_callV (rest := []) (n := 1) S hw (c_read l hst D tys cJ ht h0 h1 h2 u a hc) gX1_put_X0_read rfl (by decide +kernel) rfl ⟨Nat.le_of_ble_eq_true rfl, Nat.le_of_ble_eq_true rfl⟩ 1 0 rfl rfl hc_adr hl.1 rfl (Nat.le_of_ble_eq_true rfl) ⟨by decide, by decide⟩ dX1_put_23 (fun H locs hw => ?_)
    refine W.eq (g2 := F0 m 26 ls [.int (nI (ph_b u.1 a))]) rfl ?_
    refine lv_istore (lv' := [(5, .int (nI (ph_b u.1 a))), (3, .long (lN a)), (0, .ref h0), (1, .int (nI a)), (2, .int (nI v))]) hx hb dX1_put_26 hl (by decide) rfl (fun ls hl => ?_)
    refine lv_aload_n hx hb dX1_put_28 rfl (lv_at hl 2 rfl) ?_
    refine va_get (D := D) (ci := 1) (v := .ref h1) (C := RX1) (T := TX1) (N := 3) hx hb hts hi1 hown hK hw.1 0 rfl rfl 0 (by decide) (hts (.fieldLink RX1 12 "HeapRow" "memory" "LHeapRow$Memory;") (by decide +kernel)) (fun _ h9 => h9) rfl dX1_put_29 ?_
    refine lv_lload_n hx hb dX1_put_32 rfl (lv_at hl 1 rfl) ?_
    refine lv_iload_n hx hb dX1_put_33 rfl (lv_at hl 4 rfl) ?_
    refine lv_i2l (v := (nI v).toInt64) hx hb dX1_put_34 rfl ?_
    refine hx_callV (rest := []) (n := 2) S hw (c_write l hst D tys cJ ht h0 h1 h2 u a (nI v).toInt64 hc) gX1_put_X0_write rfl (by decide +kernel) rfl ⟨Nat.le_of_ble_eq_true rfl, Nat.le_of_ble_eq_true rfl⟩ 1 0 rfl rfl hc_adr hl.1 rfl (Nat.le_of_ble_eq_true rfl) ⟨by decide, by decide⟩ dX1_put_35 (fun H locs hw => ?_)
    refine W.eq (g2 := F0 m 38 ls []) rfl ?_
    rw [hp_sb u.1 a _ v (hp_low hv)] at hw
    refine lv_iload hx hb dX1_put_38 (lv_at hl 0 rfl) ?_
    exact hx_iret S hr hw dX1_put_40
  · rw [if_neg hc, if_neg hc]
    refine lv_iconst (v := (-1)) hx hb dX1_put_16 (by decide +kernel) ?_
    exact hx_iret S hr hw dX1_put_17
set_option maxHeartbeats 4000000 in
set_option maxRecDepth 100000 in
theorem c_get (l : Launch) (hst : l.stackTraces = false) (D : va_G) (tys : List (ClassId × FieldType)) (cJ : ClassId) (ht : tys[0]? = some (cJ, .long)) (h0 h1 h2 : Nat) (u : ph_H) (a : Nat) (ha : a < 4294967296) : hx_R l D tys yX1_get wsX1_get 7 104 [.ref h0, .int (nI a)] (hc_W cJ h0 h1 h2 u) (hc_W cJ h0 h1 h2 u) (some (.int (if ph_in a then nI (ph_b u.1 a) else (-1)))) := by
  refine hx_R.ofW (cc := cX1_get) (maxL := 4) (ret := (some .int)) (by decide) rfl (Nat.le_of_ble_eq_true rfl) ?_
  intro p e s m below meth c A ls hr S hw hl
  have S : hx_S p l s m _ meth c cX1_get 4 wsX1_get RX1 A D tys := S
  obtain ⟨⟨hx, hb, hml, hown, hts⟩, hK, hA, hE, hlk⟩ := id S
  have hi1 : ∀ w ∈ wsX10, w ∈ wsX1_get := by decide +kernel
  have hl : lv_has ls 4 [(0, .ref h0), (1, .int (nI a))] := hl
  refine lv_iload_n hx hb dX1_get_0 rfl (lv_at hl 1 rfl) ?_
  refine hx_callS (rest := []) (n := 1) S hw (c_unsigned l hst D tys cJ ht h0 h1 h2 u a (by omega)) gX1_get_X1_unsigned rfl (by decide +kernel) rfl ⟨Nat.le_of_ble_eq_true rfl, Nat.le_of_ble_eq_true rfl⟩ hc_adr hl.1 rfl (Nat.le_of_ble_eq_true rfl) ⟨by decide, by decide⟩ dX1_get_1 (fun H locs hw => ?_)
  refine W.eq (g2 := F0 m 4 ls [.long (lN a)]) rfl ?_
  refine lv_lstore_n (lv' := [(2, .long (lN a)), (0, .ref h0), (1, .int (nI a))]) hx hb dX1_get_4 rfl hl (by decide) rfl (fun ls hl => ?_)
  refine lv_aload_n hx hb dX1_get_5 rfl (lv_at hl 1 rfl) ?_
  refine va_get (D := D) (ci := 1) (v := .ref h1) (C := RX1) (T := TX1) (N := 3) hx hb hts hi1 hown hK hw.1 0 rfl rfl 0 (by decide) (hts (.fieldLink RX1 12 "HeapRow" "memory" "LHeapRow$Memory;") (by decide +kernel)) (fun _ h9 => h9) rfl dX1_get_6 ?_
  refine lv_lload_n hx hb dX1_get_9 rfl (lv_at hl 0 rfl) ?_
  refine hx_callV (rest := []) (n := 1) S hw (c_has l hst D tys cJ ht h0 h1 h2 u a (by omega)) gX1_get_X0_has rfl (by decide +kernel) rfl ⟨Nat.le_of_ble_eq_true rfl, Nat.le_of_ble_eq_true rfl⟩ 1 0 rfl rfl hc_adr hl.1 rfl (Nat.le_of_ble_eq_true rfl) ⟨by decide, by decide⟩ dX1_get_10 (fun H locs hw => ?_)
  refine W.eq (g2 := F0 m 13 ls [.int (if ph_in a then nI 1 else nI 0)]) rfl ?_
  refine hn_peq (tgt := 27) hx hb dX1_get_13 (by decide) (fun hc => ?_) (fun hc => ?_)
  · rw [if_neg hc]
    refine lv_iconst (v := (-1)) hx hb dX1_get_27 (by decide +kernel) ?_
    exact hx_iret S hr hw dX1_get_28
  · rw [if_pos hc]
    refine lv_aload_n hx hb dX1_get_16 rfl (lv_at hl 1 rfl) ?_
    refine va_get (D := D) (ci := 1) (v := .ref h1) (C := RX1) (T := TX1) (N := 3) hx hb hts hi1 hown hK hw.1 0 rfl rfl 0 (by decide) (hts (.fieldLink RX1 12 "HeapRow" "memory" "LHeapRow$Memory;") (by decide +kernel)) (fun _ h9 => h9) rfl dX1_get_17 ?_
    refine lv_lload_n hx hb dX1_get_20 rfl (lv_at hl 0 rfl) ?_
    refine hx_callV (rest := []) (n := 1) S hw (c_read l hst D tys cJ ht h0 h1 h2 u a hc) gX1_get_X0_read rfl (by decide +kernel) rfl ⟨Nat.le_of_ble_eq_true rfl, Nat.le_of_ble_eq_true rfl⟩ 1 0 rfl rfl hc_adr hl.1 rfl (Nat.le_of_ble_eq_true rfl) ⟨by decide, by decide⟩ dX1_get_21 (fun H locs hw => ?_)
    refine W.eq (g2 := F0 m 24 ls [.int (nI (ph_b u.1 a))]) rfl ?_
    refine lv_goto (tgt := 28) hx hb dX1_get_24 (by decide) ?_
    exact hx_iret S hr hw dX1_get_28
set_option maxHeartbeats 4000000 in
set_option maxRecDepth 100000 in
theorem c_end (l : Launch) (hst : l.stackTraces = false) (D : va_G) (tys : List (ClassId × FieldType)) (cJ : ClassId) (ht : tys[0]? = some (cJ, .long)) (h0 h1 h2 : Nat) (u : ph_H) : hx_R l D tys yX1_end wsX1_end 0 0 [.ref h0] (hc_W cJ h0 h1 h2 u) (hc_W cJ h0 h1 h2 u) (some (.int (nI u.2.1))) := by
  refine hx_R.ofW (cc := cX1_end) (maxL := 1) (ret := (some .int)) (by decide) rfl (Nat.le_of_ble_eq_true rfl) ?_
  intro p e s m below meth c A ls hr S hw hl
  have S : hx_S p l s m _ meth c cX1_end 1 wsX1_end RX1 A D tys := S
  obtain ⟨⟨hx, hb, hml, hown, hts⟩, hK, hA, hE, hlk⟩ := id S
  have hi1 : ∀ w ∈ wsX10, w ∈ wsX1_end := by decide +kernel
  have hl : lv_has ls 1 [(0, .ref h0)] := hl
  refine lv_aload_n hx hb dX1_end_0 rfl (lv_at hl 0 rfl) ?_
  refine va_get (D := D) (ci := 1) (v := .long (lN u.2.1)) (C := RX1) (T := TX1) (N := 3) hx hb hts hi1 hown hK hw.1 0 rfl rfl 1 (by decide) (hts (.fieldLink RX1 18 "HeapRow" "end" "J") (by decide +kernel)) (fun _ h9 => h9) rfl dX1_end_1 ?_
  refine lv_l2i (v := nI u.2.1) hx hb dX1_end_4 (lN_i _) ?_
  exact hx_iret S hr hw dX1_end_5
end
section
/-! HeapRow.resize -/
set_option maxHeartbeats 4000000 in
set_option maxRecDepth 100000 in
theorem c_resize (l : Launch) (hst : l.stackTraces = false) (D : va_G) (tys : List (ClassId × FieldType)) (cJ : ClassId) (ht : tys[0]? = some (cJ, .long)) (h0 h1 h2 : Nat) (u : ph_H) (a n x : Nat) (u2 : ph_H) (hu : ph_I u) (ha : a < 4294967296) (hn : n < 4294967296) (h : ph_rsz u a n = (some x, u2)) : hx_R l D tys yX1_resize wsX1_resize 11 210 [.ref h0, .int (nI a), .int (nI n)] (hc_W cJ h0 h1 h2 u) (hc_W cJ h0 h1 h2 u2) (some (.int (nI x))) := by
  refine hx_R.ofW (cc := cX1_resize) (maxL := 9) (ret := (some .int)) (by decide) rfl (Nat.le_of_ble_eq_true rfl) ?_
  intro p e s m below meth c A ls hr S hw hl
  have S : hx_S p l s m _ meth c cX1_resize 9 wsX1_resize RX1 A D tys := S
  obtain ⟨⟨hx, hb, hml, hown, hts⟩, hK, hA, hE, hlk⟩ := id S
  have hi1 : ∀ w ∈ wsX10, w ∈ wsX1_resize := by decide +kernel
  have hl : lv_has ls 9 [(0, .ref h0), (1, .int (nI a)), (2, .int (nI n))] := hl
  have hu9 := hu
  obtain ⟨i1, i2, i3, i4⟩ := hu9
  have gu := ph_up_ge n
  have gu2 := ph_up_lt hn
  unfold ph_rsz at h
  by_cases ka : a = 0
  · rw [if_pos ka] at h
    subst ka
    refine lv_iload_n hx hb dX1_resize_0 rfl (lv_at hl 1 rfl) ?_
    refine hn_zne (n := 0) (tgt := 14) hx hb (by omega) dX1_resize_1 (by decide) (fun hc => ?_) (fun hc => ?_)
    · exact absurd rfl hc
    · refine lv_aload_n hx hb dX1_resize_4 rfl (lv_at hl 0 rfl) ?_
      refine lv_iload_n hx hb dX1_resize_5 rfl (lv_at hl 2 rfl) ?_
      refine hx_callS (rest := [.ref h0]) (n := 1) S hw (c_unsigned l hst D tys cJ ht h0 h1 h2 u n (by omega)) gX1_resize_X1_unsigned rfl (by decide +kernel) rfl ⟨Nat.le_of_ble_eq_true rfl, Nat.le_of_ble_eq_true rfl⟩ hc_adr hl.1 rfl (Nat.le_of_ble_eq_true rfl) ⟨by decide, by decide⟩ dX1_resize_6 (fun H locs hw => ?_)
      refine W.eq (g2 := F0 m 9 ls [.long (lN n), .ref h0]) rfl ?_
      refine hx_callV (rest := []) (n := 1) S hw (c_take l hst D tys cJ ht h0 h1 h2 u n x u2 hu hn h) gX1_resize_X1_take rfl (by decide +kernel) rfl ⟨Nat.le_of_ble_eq_true rfl, Nat.le_of_ble_eq_true rfl⟩ 0 1 rfl rfl hc_adr hl.1 rfl (Nat.le_of_ble_eq_true rfl) ⟨by decide, by decide⟩ dX1_resize_9 (fun H locs hw => ?_)
      refine W.eq (g2 := F0 m 12 ls [.long (lN x)]) rfl ?_
      refine lv_l2i (v := nI x) hx hb dX1_resize_12 (lN_i _) ?_
      exact hx_iret S hr hw dX1_resize_13
  · rw [if_neg ka] at h
    refine lv_iload_n hx hb dX1_resize_0 rfl (lv_at hl 1 rfl) ?_
    refine hn_zne (n := a) (tgt := 14) hx hb (by omega) dX1_resize_1 (by decide) (fun hc => ?_) (fun hc => ?_)
    · refine lv_aload_n hx hb dX1_resize_14 rfl (lv_at hl 0 rfl) ?_
      refine lv_iload_n hx hb dX1_resize_15 rfl (lv_at hl 1 rfl) ?_
      refine hx_callS (rest := [.ref h0]) (n := 1) S hw (c_unsigned l hst D tys cJ ht h0 h1 h2 u a (by omega)) gX1_resize_X1_unsigned rfl (by decide +kernel) rfl ⟨Nat.le_of_ble_eq_true rfl, Nat.le_of_ble_eq_true rfl⟩ hc_adr hl.1 rfl (Nat.le_of_ble_eq_true rfl) ⟨by decide, by decide⟩ dX1_resize_16 (fun H locs hw => ?_)
      refine W.eq (g2 := F0 m 19 ls [.long (lN a), .ref h0]) rfl ?_
      by_cases kn : n = 0
      · rw [if_pos kn] at h
        unfold ph_give at h
        rcases hf : ph_fd u.1 u.2.1 a 8064 0 1024 with _ | ⟨b, p0⟩
        · rw [hf] at h
          dsimp only at h
          rw [if_neg Bool.false_ne_true] at h
          cases h
        · rw [hf] at h
          dsimp only at h
          rw [if_pos rfl] at h
          cases h
          refine hx_callV (rest := []) (n := 1) S hw (c_takenBlock l hst D tys cJ ht h0 h1 h2 u a b p0 hu (by omega) hf) gX1_resize_X1_takenBlock rfl (by decide +kernel) rfl ⟨Nat.le_of_ble_eq_true rfl, Nat.le_of_ble_eq_true rfl⟩ 0 1 rfl rfl hc_adr hl.1 rfl (Nat.le_of_ble_eq_true rfl) ⟨by decide, by decide⟩ dX1_resize_19 (fun H locs hw => ?_)
          refine W.eq (g2 := F0 m 22 ls [.long (lN b)]) rfl ?_
          refine lv_lstore_n (lv' := [(3, .long (lN b)), (0, .ref h0), (1, .int (nI a)), (2, .int (nI n))]) hx hb dX1_resize_22 rfl hl (by decide) rfl (fun ls hl => ?_)
          refine lv_iload_n hx hb dX1_resize_23 rfl (lv_at hl 3 rfl) ?_
          refine hn_zne (n := n) (tgt := 34) hx hb (by omega) dX1_resize_24 (by decide) (fun hc2 => ?_) (fun hc2 => ?_)
          · exact absurd kn hc2
          · refine lv_aload_n hx hb dX1_resize_27 rfl (lv_at hl 1 rfl) ?_
            refine lv_lload_n hx hb dX1_resize_28 rfl (lv_at hl 0 rfl) ?_
            refine hx_callV (rest := []) (n := 1) S hw (c_giveBack l hst D tys cJ ht h0 h1 h2 u a b p0 hu hf) gX1_resize_X1_giveBack rfl (by decide +kernel) rfl ⟨Nat.le_of_ble_eq_true rfl, Nat.le_of_ble_eq_true rfl⟩ 0 1 rfl rfl hc_adr hl.1 rfl (Nat.le_of_ble_eq_true rfl) ⟨by decide, by decide⟩ dX1_resize_29 (fun H locs hw => ?_)
            refine W.eq (g2 := F0 m 32 ls []) rfl ?_
            refine lv_iconst (v := nI 0) hx hb dX1_resize_32 (by decide +kernel) ?_
            exact hx_iret S hr hw dX1_resize_33
      · rw [if_neg kn] at h
        rcases hf : ph_fd u.1 u.2.1 a 8064 0 1024 with _ | ⟨b, p0⟩
        · rw [hf] at h
          dsimp only at h
          cases h
        · rw [hf] at h
          dsimp only at h
          obtain ⟨j1, j2, j3, j4, j5, j6⟩ := ph_fd_at hf
          have gn := ph_n_lt u.1 b
          by_cases ks : ph_up n ≤ ph_n u.1 b
          · rw [if_pos ks] at h
            cases h
            refine hx_callV (rest := []) (n := 1) S hw (c_takenBlock l hst D tys cJ ht h0 h1 h2 u a b p0 hu (by omega) hf) gX1_resize_X1_takenBlock rfl (by decide +kernel) rfl ⟨Nat.le_of_ble_eq_true rfl, Nat.le_of_ble_eq_true rfl⟩ 0 1 rfl rfl hc_adr hl.1 rfl (Nat.le_of_ble_eq_true rfl) ⟨by decide, by decide⟩ dX1_resize_19 (fun H locs hw => ?_)
            refine W.eq (g2 := F0 m 22 ls [.long (lN b)]) rfl ?_
            refine lv_lstore_n (lv' := [(3, .long (lN b)), (0, .ref h0), (1, .int (nI a)), (2, .int (nI n))]) hx hb dX1_resize_22 rfl hl (by decide) rfl (fun ls hl => ?_)
            refine lv_iload_n hx hb dX1_resize_23 rfl (lv_at hl 3 rfl) ?_
            refine hn_zne (n := n) (tgt := 34) hx hb (by omega) dX1_resize_24 (by decide) (fun hc2 => ?_) (fun hc2 => ?_)
            · refine lv_aload_n hx hb dX1_resize_34 rfl (lv_at hl 1 rfl) ?_
              refine lv_lload_n hx hb dX1_resize_35 rfl (lv_at hl 0 rfl) ?_
              refine hx_callV (rest := []) (n := 1) S hw (c_size l hst D tys cJ ht h0 h1 h2 u b ⟨by omega, by omega⟩) gX1_resize_X1_size rfl (by decide +kernel) rfl ⟨Nat.le_of_ble_eq_true rfl, Nat.le_of_ble_eq_true rfl⟩ 0 1 rfl rfl hc_adr hl.1 rfl (Nat.le_of_ble_eq_true rfl) ⟨by decide, by decide⟩ dX1_resize_36 (fun H locs hw => ?_)
              refine W.eq (g2 := F0 m 39 ls [.long (lN (ph_n u.1 b))]) rfl ?_
              refine lv_lstore (lv' := [(5, .long (lN (ph_n u.1 b))), (3, .long (lN b)), (0, .ref h0), (1, .int (nI a)), (2, .int (nI n))]) hx hb dX1_resize_39 hl (by decide) rfl (fun ls hl => ?_)
              refine lv_lload hx hb dX1_resize_41 (lv_at hl 0 rfl) ?_
              refine lv_iload_n hx hb dX1_resize_43 rfl (lv_at hl 4 rfl) ?_
              refine hx_callS (rest := [.long (lN (ph_n u.1 b))]) (n := 1) S hw (c_unsigned l hst D tys cJ ht h0 h1 h2 u n (by omega)) gX1_resize_X1_unsigned rfl (by decide +kernel) rfl ⟨Nat.le_of_ble_eq_true rfl, Nat.le_of_ble_eq_true rfl⟩ hc_adr hl.1 rfl (Nat.le_of_ble_eq_true rfl) ⟨by decide, by decide⟩ dX1_resize_44 (fun H locs hw => ?_)
              refine W.eq (g2 := F0 m 47 ls [.long (lN n), .long (lN (ph_n u.1 b))]) rfl ?_
              refine hx_callS (rest := [.long (lN (ph_n u.1 b))]) (n := 1) S hw (c_rounded l hst D tys cJ ht h0 h1 h2 u n (by omega)) gX1_resize_X1_rounded rfl (by decide +kernel) rfl ⟨Nat.le_of_ble_eq_true rfl, Nat.le_of_ble_eq_true rfl⟩ hc_adr hl.1 rfl (Nat.le_of_ble_eq_true rfl) ⟨by decide, by decide⟩ dX1_resize_47 (fun H locs hw => ?_)
              refine W.eq (g2 := F0 m 50 ls [.long (lN (ph_up n)), .long (lN (ph_n u.1 b))]) rfl ?_
              refine hn_llt (a := (ph_n u.1 b)) (b := (ph_up n)) (tgt := 56) hx hb (by omega) (by omega) dX1_resize_50 dX1_resize_51 (by decide) (fun hc3 => ?_) (fun hc3 => ?_)
              · exact absurd hc3 (by omega)
              · refine lv_iload_n hx hb dX1_resize_54 rfl (lv_at hl 3 rfl) ?_
                exact hx_iret S hr hw dX1_resize_55
            · exact absurd hc2 kn
          · rw [if_neg ks] at h
            rcases ht2 : ph_take u n with ⟨_ | t, u3⟩
            · rw [ht2] at h
              dsimp only at h
              cases h
            · rw [ht2] at h
              dsimp only at h
              have ga := ph_take_at hu ht2
              have hu3 : ph_I u3 := by have hz := ph_take_I hu n; rw [ht2] at hz; exact hz
              by_cases k0 : t = 0
              · subst k0
                rw [if_pos rfl] at h
                cases h
                refine hx_callV (rest := []) (n := 1) S hw (c_takenBlock l hst D tys cJ ht h0 h1 h2 u a b p0 hu (by omega) hf) gX1_resize_X1_takenBlock rfl (by decide +kernel) rfl ⟨Nat.le_of_ble_eq_true rfl, Nat.le_of_ble_eq_true rfl⟩ 0 1 rfl rfl hc_adr hl.1 rfl (Nat.le_of_ble_eq_true rfl) ⟨by decide, by decide⟩ dX1_resize_19 (fun H locs hw => ?_)
                refine W.eq (g2 := F0 m 22 ls [.long (lN b)]) rfl ?_
                refine lv_lstore_n (lv' := [(3, .long (lN b)), (0, .ref h0), (1, .int (nI a)), (2, .int (nI n))]) hx hb dX1_resize_22 rfl hl (by decide) rfl (fun ls hl => ?_)
                refine lv_iload_n hx hb dX1_resize_23 rfl (lv_at hl 3 rfl) ?_
                refine hn_zne (n := n) (tgt := 34) hx hb (by omega) dX1_resize_24 (by decide) (fun hc2 => ?_) (fun hc2 => ?_)
                · refine lv_aload_n hx hb dX1_resize_34 rfl (lv_at hl 1 rfl) ?_
                  refine lv_lload_n hx hb dX1_resize_35 rfl (lv_at hl 0 rfl) ?_
                  refine hx_callV (rest := []) (n := 1) S hw (c_size l hst D tys cJ ht h0 h1 h2 u b ⟨by omega, by omega⟩) gX1_resize_X1_size rfl (by decide +kernel) rfl ⟨Nat.le_of_ble_eq_true rfl, Nat.le_of_ble_eq_true rfl⟩ 0 1 rfl rfl hc_adr hl.1 rfl (Nat.le_of_ble_eq_true rfl) ⟨by decide, by decide⟩ dX1_resize_36 (fun H locs hw => ?_)
                  refine W.eq (g2 := F0 m 39 ls [.long (lN (ph_n u.1 b))]) rfl ?_
                  refine lv_lstore (lv' := [(5, .long (lN (ph_n u.1 b))), (3, .long (lN b)), (0, .ref h0), (1, .int (nI a)), (2, .int (nI n))]) hx hb dX1_resize_39 hl (by decide) rfl (fun ls hl => ?_)
                  refine lv_lload hx hb dX1_resize_41 (lv_at hl 0 rfl) ?_
                  refine lv_iload_n hx hb dX1_resize_43 rfl (lv_at hl 4 rfl) ?_
                  refine hx_callS (rest := [.long (lN (ph_n u.1 b))]) (n := 1) S hw (c_unsigned l hst D tys cJ ht h0 h1 h2 u n (by omega)) gX1_resize_X1_unsigned rfl (by decide +kernel) rfl ⟨Nat.le_of_ble_eq_true rfl, Nat.le_of_ble_eq_true rfl⟩ hc_adr hl.1 rfl (Nat.le_of_ble_eq_true rfl) ⟨by decide, by decide⟩ dX1_resize_44 (fun H locs hw => ?_)
                  refine W.eq (g2 := F0 m 47 ls [.long (lN n), .long (lN (ph_n u.1 b))]) rfl ?_
                  refine hx_callS (rest := [.long (lN (ph_n u.1 b))]) (n := 1) S hw (c_rounded l hst D tys cJ ht h0 h1 h2 u n (by omega)) gX1_resize_X1_rounded rfl (by decide +kernel) rfl ⟨Nat.le_of_ble_eq_true rfl, Nat.le_of_ble_eq_true rfl⟩ hc_adr hl.1 rfl (Nat.le_of_ble_eq_true rfl) ⟨by decide, by decide⟩ dX1_resize_47 (fun H locs hw => ?_)
                  refine W.eq (g2 := F0 m 50 ls [.long (lN (ph_up n)), .long (lN (ph_n u.1 b))]) rfl ?_
                  refine hn_llt (a := (ph_n u.1 b)) (b := (ph_up n)) (tgt := 56) hx hb (by omega) (by omega) dX1_resize_50 dX1_resize_51 (by decide) (fun hc3 => ?_) (fun hc3 => ?_)
                  · refine lv_aload_n hx hb dX1_resize_56 rfl (lv_at hl 2 rfl) ?_
                    refine lv_iload_n hx hb dX1_resize_57 rfl (lv_at hl 4 rfl) ?_
                    refine hx_callS (rest := [.ref h0]) (n := 1) S hw (c_unsigned l hst D tys cJ ht h0 h1 h2 u n (by omega)) gX1_resize_X1_unsigned rfl (by decide +kernel) rfl ⟨Nat.le_of_ble_eq_true rfl, Nat.le_of_ble_eq_true rfl⟩ hc_adr hl.1 rfl (Nat.le_of_ble_eq_true rfl) ⟨by decide, by decide⟩ dX1_resize_58 (fun H locs hw => ?_)
                    refine W.eq (g2 := F0 m 61 ls [.long (lN n), .ref h0]) rfl ?_
                    refine hx_callV (rest := []) (n := 1) S hw (c_take l hst D tys cJ ht h0 h1 h2 u n 0 u2 hu hn ht2) gX1_resize_X1_take rfl (by decide +kernel) rfl ⟨Nat.le_of_ble_eq_true rfl, Nat.le_of_ble_eq_true rfl⟩ 0 1 rfl rfl hc_adr hl.1 rfl (Nat.le_of_ble_eq_true rfl) ⟨by decide, by decide⟩ dX1_resize_61 (fun H locs hw => ?_)
                    refine W.eq (g2 := F0 m 64 ls [.long (lN 0)]) rfl ?_
                    refine lv_lstore (lv' := [(7, .long (lN 0)), (5, .long (lN (ph_n u.1 b))), (3, .long (lN b)), (0, .ref h0), (1, .int (nI a)), (2, .int (nI n))]) hx hb dX1_resize_64 hl (by decide) rfl (fun ls hl => ?_)
                    refine lv_lload hx hb dX1_resize_66 (lv_at hl 0 rfl) ?_
                    refine lv_lconst (v := lN 0) hx hb dX1_resize_68 (by decide +kernel) ?_
                    refine hn_leq (a := 0) (b := 0) (tgt := 97) hx hb (by omega) (by omega) dX1_resize_69 dX1_resize_70 (by decide) (fun hc4 => ?_) (fun hc4 => ?_)
                    · refine lv_lload hx hb dX1_resize_97 (lv_at hl 0 rfl) ?_
                      refine lv_l2i (v := nI 0) hx hb dX1_resize_99 (lN_i _) ?_
                      exact hx_iret S hr hw dX1_resize_100
                    · exact absurd rfl hc4
                  · exact absurd hc3 (by omega)
                · exact absurd hc2 kn
              · rw [if_neg k0] at h
                rcases hc9 : ph_cpy (ph_n u.1 b) u3.1 a t with ⟨_ | _, M⟩
                · rw [hc9] at h
                  dsimp only at h
                  rw [if_neg Bool.false_ne_true] at h
                  cases h
                · rw [hc9] at h
                  dsimp only at h
                  rw [if_pos rfl] at h
                  unfold ph_give at h
                  dsimp only at h
                  rcases hf2 : ph_fd M u3.2.1 a 8064 0 1024 with _ | ⟨b2, p2⟩
                  · rw [hf2] at h
                    dsimp only at h
                    rw [if_neg Bool.false_ne_true] at h
                    cases h
                  · rw [hf2] at h
                    dsimp only at h
                    rw [if_pos rfl] at h
                    cases h
                    refine hx_callV (rest := []) (n := 1) S hw (c_takenBlock l hst D tys cJ ht h0 h1 h2 u a b p0 hu (by omega) hf) gX1_resize_X1_takenBlock rfl (by decide +kernel) rfl ⟨Nat.le_of_ble_eq_true rfl, Nat.le_of_ble_eq_true rfl⟩ 0 1 rfl rfl hc_adr hl.1 rfl (Nat.le_of_ble_eq_true rfl) ⟨by decide, by decide⟩ dX1_resize_19 (fun H locs hw => ?_)
                    refine W.eq (g2 := F0 m 22 ls [.long (lN b)]) rfl ?_
                    refine lv_lstore_n (lv' := [(3, .long (lN b)), (0, .ref h0), (1, .int (nI a)), (2, .int (nI n))]) hx hb dX1_resize_22 rfl hl (by decide) rfl (fun ls hl => ?_)
                    refine lv_iload_n hx hb dX1_resize_23 rfl (lv_at hl 3 rfl) ?_
                    refine hn_zne (n := n) (tgt := 34) hx hb (by omega) dX1_resize_24 (by decide) (fun hc2 => ?_) (fun hc2 => ?_)
                    · refine lv_aload_n hx hb dX1_resize_34 rfl (lv_at hl 1 rfl) ?_
                      refine lv_lload_n hx hb dX1_resize_35 rfl (lv_at hl 0 rfl) ?_
                      refine hx_callV (rest := []) (n := 1) S hw (c_size l hst D tys cJ ht h0 h1 h2 u b ⟨by omega, by omega⟩) gX1_resize_X1_size rfl (by decide +kernel) rfl ⟨Nat.le_of_ble_eq_true rfl, Nat.le_of_ble_eq_true rfl⟩ 0 1 rfl rfl hc_adr hl.1 rfl (Nat.le_of_ble_eq_true rfl) ⟨by decide, by decide⟩ dX1_resize_36 (fun H locs hw => ?_)
                      refine W.eq (g2 := F0 m 39 ls [.long (lN (ph_n u.1 b))]) rfl ?_
                      refine lv_lstore (lv' := [(5, .long (lN (ph_n u.1 b))), (3, .long (lN b)), (0, .ref h0), (1, .int (nI a)), (2, .int (nI n))]) hx hb dX1_resize_39 hl (by decide) rfl (fun ls hl => ?_)
                      refine lv_lload hx hb dX1_resize_41 (lv_at hl 0 rfl) ?_
                      refine lv_iload_n hx hb dX1_resize_43 rfl (lv_at hl 4 rfl) ?_
                      refine hx_callS (rest := [.long (lN (ph_n u.1 b))]) (n := 1) S hw (c_unsigned l hst D tys cJ ht h0 h1 h2 u n (by omega)) gX1_resize_X1_unsigned rfl (by decide +kernel) rfl ⟨Nat.le_of_ble_eq_true rfl, Nat.le_of_ble_eq_true rfl⟩ hc_adr hl.1 rfl (Nat.le_of_ble_eq_true rfl) ⟨by decide, by decide⟩ dX1_resize_44 (fun H locs hw => ?_)
                      refine W.eq (g2 := F0 m 47 ls [.long (lN n), .long (lN (ph_n u.1 b))]) rfl ?_
                      refine hx_callS (rest := [.long (lN (ph_n u.1 b))]) (n := 1) S hw (c_rounded l hst D tys cJ ht h0 h1 h2 u n (by omega)) gX1_resize_X1_rounded rfl (by decide +kernel) rfl ⟨Nat.le_of_ble_eq_true rfl, Nat.le_of_ble_eq_true rfl⟩ hc_adr hl.1 rfl (Nat.le_of_ble_eq_true rfl) ⟨by decide, by decide⟩ dX1_resize_47 (fun H locs hw => ?_)
                      refine W.eq (g2 := F0 m 50 ls [.long (lN (ph_up n)), .long (lN (ph_n u.1 b))]) rfl ?_
                      refine hn_llt (a := (ph_n u.1 b)) (b := (ph_up n)) (tgt := 56) hx hb (by omega) (by omega) dX1_resize_50 dX1_resize_51 (by decide) (fun hc3 => ?_) (fun hc3 => ?_)
                      · refine lv_aload_n hx hb dX1_resize_56 rfl (lv_at hl 2 rfl) ?_
                        refine lv_iload_n hx hb dX1_resize_57 rfl (lv_at hl 4 rfl) ?_
                        refine hx_callS (rest := [.ref h0]) (n := 1) S hw (c_unsigned l hst D tys cJ ht h0 h1 h2 u n (by omega)) gX1_resize_X1_unsigned rfl (by decide +kernel) rfl ⟨Nat.le_of_ble_eq_true rfl, Nat.le_of_ble_eq_true rfl⟩ hc_adr hl.1 rfl (Nat.le_of_ble_eq_true rfl) ⟨by decide, by decide⟩ dX1_resize_58 (fun H locs hw => ?_)
                        refine W.eq (g2 := F0 m 61 ls [.long (lN n), .ref h0]) rfl ?_
                        refine hx_callV (rest := []) (n := 1) S hw (c_take l hst D tys cJ ht h0 h1 h2 u n x u3 hu hn ht2) gX1_resize_X1_take rfl (by decide +kernel) rfl ⟨Nat.le_of_ble_eq_true rfl, Nat.le_of_ble_eq_true rfl⟩ 0 1 rfl rfl hc_adr hl.1 rfl (Nat.le_of_ble_eq_true rfl) ⟨by decide, by decide⟩ dX1_resize_61 (fun H locs hw => ?_)
                        refine W.eq (g2 := F0 m 64 ls [.long (lN x)]) rfl ?_
                        refine lv_lstore (lv' := [(7, .long (lN x)), (5, .long (lN (ph_n u.1 b))), (3, .long (lN b)), (0, .ref h0), (1, .int (nI a)), (2, .int (nI n))]) hx hb dX1_resize_64 hl (by decide) rfl (fun ls hl => ?_)
                        refine lv_lload hx hb dX1_resize_66 (lv_at hl 0 rfl) ?_
                        refine lv_lconst (v := lN 0) hx hb dX1_resize_68 (by decide +kernel) ?_
                        refine hn_leq (a := x) (b := 0) (tgt := 97) hx hb (by omega) (by omega) dX1_resize_69 dX1_resize_70 (by decide) (fun hc4 => ?_) (fun hc4 => ?_)
                        · exact absurd hc4 k0
                        · refine lv_aload_n hx hb dX1_resize_73 rfl (lv_at hl 3 rfl) ?_
                          refine lv_iload_n hx hb dX1_resize_74 rfl (lv_at hl 4 rfl) ?_
                          refine hx_callS (rest := [.ref h0]) (n := 1) S hw (c_unsigned l hst D tys cJ ht h0 h1 h2 u3 a (by omega)) gX1_resize_X1_unsigned rfl (by decide +kernel) rfl ⟨Nat.le_of_ble_eq_true rfl, Nat.le_of_ble_eq_true rfl⟩ hc_adr hl.1 rfl (Nat.le_of_ble_eq_true rfl) ⟨by decide, by decide⟩ dX1_resize_75 (fun H locs hw => ?_)
                          refine W.eq (g2 := F0 m 78 ls [.long (lN a), .ref h0]) rfl ?_
                          refine lv_lload hx hb dX1_resize_78 (lv_at hl 0 rfl) ?_
                          refine lv_lload hx hb dX1_resize_80 (lv_at hl 1 rfl) ?_
                          refine hx_callV (rest := []) (n := 3) S hw (c_copy l hst D tys cJ ht h0 h1 h2 u3 a x (ph_n u.1 b) M (by omega) (by omega) (by omega) hc9) gX1_resize_X1_copy rfl (by decide +kernel) rfl ⟨Nat.le_of_ble_eq_true rfl, Nat.le_of_ble_eq_true rfl⟩ 0 1 rfl rfl hc_adr hl.1 rfl (Nat.le_of_ble_eq_true rfl) ⟨by decide, by decide⟩ dX1_resize_82 (fun H locs hw => ?_)
                          refine W.eq (g2 := F0 m 85 ls []) rfl ?_
                          refine lv_aload_n hx hb dX1_resize_85 rfl (lv_at hl 3 rfl) ?_
                          refine lv_aload_n hx hb dX1_resize_86 rfl (lv_at hl 3 rfl) ?_
                          refine lv_iload_n hx hb dX1_resize_87 rfl (lv_at hl 4 rfl) ?_
                          refine hx_callS (rest := [.ref h0, .ref h0]) (n := 1) S hw (c_unsigned l hst D tys cJ ht h0 h1 h2 (M, u3.2) a (by omega)) gX1_resize_X1_unsigned rfl (by decide +kernel) rfl ⟨Nat.le_of_ble_eq_true rfl, Nat.le_of_ble_eq_true rfl⟩ hc_adr hl.1 rfl (Nat.le_of_ble_eq_true rfl) ⟨by decide, by decide⟩ dX1_resize_88 (fun H locs hw => ?_)
                          refine W.eq (g2 := F0 m 91 ls [.long (lN a), .ref h0, .ref h0]) rfl ?_
                          refine hx_callV (rest := [.ref h0]) (n := 1) S hw (c_takenBlock l hst D tys cJ ht h0 h1 h2 (M, u3.2) a b2 p2 hu3 (by omega) hf2) gX1_resize_X1_takenBlock rfl (by decide +kernel) rfl ⟨Nat.le_of_ble_eq_true rfl, Nat.le_of_ble_eq_true rfl⟩ 0 1 rfl rfl hc_adr hl.1 rfl (Nat.le_of_ble_eq_true rfl) ⟨by decide, by decide⟩ dX1_resize_91 (fun H locs hw => ?_)
                          refine W.eq (g2 := F0 m 94 ls [.long (lN b2), .ref h0]) rfl ?_
                          refine hx_callV (rest := []) (n := 1) S hw (c_giveBack l hst D tys cJ ht h0 h1 h2 (M, u3.2) a b2 p2 hu3 hf2) gX1_resize_X1_giveBack rfl (by decide +kernel) rfl ⟨Nat.le_of_ble_eq_true rfl, Nat.le_of_ble_eq_true rfl⟩ 0 1 rfl rfl hc_adr hl.1 rfl (Nat.le_of_ble_eq_true rfl) ⟨by decide, by decide⟩ dX1_resize_94 (fun H locs hw => ?_)
                          refine W.eq (g2 := F0 m 97 ls []) rfl ?_
                          refine lv_lload hx hb dX1_resize_97 (lv_at hl 0 rfl) ?_
                          refine lv_l2i (v := nI x) hx hb dX1_resize_99 (lN_i _) ?_
                          exact hx_iret S hr hw dX1_resize_100
                      · exact absurd hc3 (by omega)
                    · exact absurd hc2 kn
    · exact absurd hc ka
set_option maxHeartbeats 4000000 in
set_option maxRecDepth 100000 in
theorem x_resize (l : Launch) (hst : l.stackTraces = false) (D : va_G) (tys : List (ClassId × FieldType)) (cJ : ClassId) (ht : tys[0]? = some (cJ, .long)) (h0 h1 h2 : Nat) (u : ph_H) (a n : Nat) (u2 : ph_H) (hu : ph_I u) (ha : a < 4294967296) (hn : n < 4294967296) (h : ph_rsz u a n = (none, u2)) : hx_X l D tys yX1_resize wsX1_resize 11 210 [.ref h0, .int (nI a), .int (nI n)] (hc_W cJ h0 h1 h2 u) (hc_W cJ h0 h1 h2 u2) := by
  refine hx_X.ofW (cc := cX1_resize) (maxL := 9) (ret := (some .int)) (by decide) rfl (Nat.le_of_ble_eq_true rfl) ?_
  intro p e s m below meth c A ls hr S hno hw hl
  have S : hx_S p l s m _ meth c cX1_resize 9 wsX1_resize RX1 A D tys := S
  obtain ⟨⟨hx, hb, hml, hown, hts⟩, hK, hA, hE, hlk⟩ := id S
  have hi1 : ∀ w ∈ wsX10, w ∈ wsX1_resize := by decide +kernel
  have hl : lv_has ls 9 [(0, .ref h0), (1, .int (nI a)), (2, .int (nI n))] := hl
  have hu9 := hu
  obtain ⟨i1, i2, i3, i4⟩ := hu9
  have gu := ph_up_ge n
  have gu2 := ph_up_lt hn
  unfold ph_rsz at h
  by_cases ka : a = 0
  · rw [if_pos ka] at h
    subst ka
    refine lv_iload_n hx hb dX1_resize_0 rfl (lv_at hl 1 rfl) ?_
    refine hn_zne (n := 0) (tgt := 14) hx hb (by omega) dX1_resize_1 (by decide) (fun hc => ?_) (fun hc => ?_)
    · exact absurd rfl hc
    · refine lv_aload_n hx hb dX1_resize_4 rfl (lv_at hl 0 rfl) ?_
      refine lv_iload_n hx hb dX1_resize_5 rfl (lv_at hl 2 rfl) ?_
      refine hx_callS (rest := [.ref h0]) (n := 1) S hw (c_unsigned l hst D tys cJ ht h0 h1 h2 u n (by omega)) gX1_resize_X1_unsigned rfl (by decide +kernel) rfl ⟨Nat.le_of_ble_eq_true rfl, Nat.le_of_ble_eq_true rfl⟩ hc_adr hl.1 rfl (Nat.le_of_ble_eq_true rfl) ⟨by decide, by decide⟩ dX1_resize_6 (fun H locs hw => ?_)
      refine W.eq (g2 := F0 m 9 ls [.long (lN n), .ref h0]) rfl ?_
      exact hx_thr (rest := []) (n := 1) S hno hw (x_take l hst D tys cJ ht h0 h1 h2 u n u2 hu hn h) gX1_resize_X1_take rfl (by decide +kernel) rfl ⟨Nat.le_of_ble_eq_true rfl, Nat.le_of_ble_eq_true rfl⟩ 0 1 rfl rfl hc_adr hl.1 rfl (Nat.le_of_ble_eq_true rfl) ⟨by decide, by decide⟩ dX1_resize_9
  · rw [if_neg ka] at h
    refine lv_iload_n hx hb dX1_resize_0 rfl (lv_at hl 1 rfl) ?_
    refine hn_zne (n := a) (tgt := 14) hx hb (by omega) dX1_resize_1 (by decide) (fun hc => ?_) (fun hc => ?_)
    · refine lv_aload_n hx hb dX1_resize_14 rfl (lv_at hl 0 rfl) ?_
      refine lv_iload_n hx hb dX1_resize_15 rfl (lv_at hl 1 rfl) ?_
      refine hx_callS (rest := [.ref h0]) (n := 1) S hw (c_unsigned l hst D tys cJ ht h0 h1 h2 u a (by omega)) gX1_resize_X1_unsigned rfl (by decide +kernel) rfl ⟨Nat.le_of_ble_eq_true rfl, Nat.le_of_ble_eq_true rfl⟩ hc_adr hl.1 rfl (Nat.le_of_ble_eq_true rfl) ⟨by decide, by decide⟩ dX1_resize_16 (fun H locs hw => ?_)
      refine W.eq (g2 := F0 m 19 ls [.long (lN a), .ref h0]) rfl ?_
      by_cases kn : n = 0
      · rw [if_pos kn] at h
        unfold ph_give at h
        rcases hf : ph_fd u.1 u.2.1 a 8064 0 1024 with _ | ⟨b, p0⟩
        · rw [hf] at h
          dsimp only at h
          rw [if_neg Bool.false_ne_true] at h
          cases h
          exact hx_thr (rest := []) (n := 1) S hno hw (x_takenBlock l hst D tys cJ ht h0 h1 h2 u a hu (by omega) hf) gX1_resize_X1_takenBlock rfl (by decide +kernel) rfl ⟨Nat.le_of_ble_eq_true rfl, Nat.le_of_ble_eq_true rfl⟩ 0 1 rfl rfl hc_adr hl.1 rfl (Nat.le_of_ble_eq_true rfl) ⟨by decide, by decide⟩ dX1_resize_19
        · rw [hf] at h
          dsimp only at h
          rw [if_pos rfl] at h
          cases h
      · rw [if_neg kn] at h
        rcases hf : ph_fd u.1 u.2.1 a 8064 0 1024 with _ | ⟨b, p0⟩
        · rw [hf] at h
          dsimp only at h
          cases h
          exact hx_thr (rest := []) (n := 1) S hno hw (x_takenBlock l hst D tys cJ ht h0 h1 h2 u a hu (by omega) hf) gX1_resize_X1_takenBlock rfl (by decide +kernel) rfl ⟨Nat.le_of_ble_eq_true rfl, Nat.le_of_ble_eq_true rfl⟩ 0 1 rfl rfl hc_adr hl.1 rfl (Nat.le_of_ble_eq_true rfl) ⟨by decide, by decide⟩ dX1_resize_19
        · rw [hf] at h
          dsimp only at h
          obtain ⟨j1, j2, j3, j4, j5, j6⟩ := ph_fd_at hf
          have gn := ph_n_lt u.1 b
          by_cases ks : ph_up n ≤ ph_n u.1 b
          · rw [if_pos ks] at h
            cases h
          · rw [if_neg ks] at h
            rcases ht2 : ph_take u n with ⟨_ | t, u3⟩
            · rw [ht2] at h
              dsimp only at h
              cases h
              refine hx_callV (rest := []) (n := 1) S hw (c_takenBlock l hst D tys cJ ht h0 h1 h2 u a b p0 hu (by omega) hf) gX1_resize_X1_takenBlock rfl (by decide +kernel) rfl ⟨Nat.le_of_ble_eq_true rfl, Nat.le_of_ble_eq_true rfl⟩ 0 1 rfl rfl hc_adr hl.1 rfl (Nat.le_of_ble_eq_true rfl) ⟨by decide, by decide⟩ dX1_resize_19 (fun H locs hw => ?_)
              refine W.eq (g2 := F0 m 22 ls [.long (lN b)]) rfl ?_
              refine lv_lstore_n (lv' := [(3, .long (lN b)), (0, .ref h0), (1, .int (nI a)), (2, .int (nI n))]) hx hb dX1_resize_22 rfl hl (by decide) rfl (fun ls hl => ?_)
              refine lv_iload_n hx hb dX1_resize_23 rfl (lv_at hl 3 rfl) ?_
              refine hn_zne (n := n) (tgt := 34) hx hb (by omega) dX1_resize_24 (by decide) (fun hc2 => ?_) (fun hc2 => ?_)
              · refine lv_aload_n hx hb dX1_resize_34 rfl (lv_at hl 1 rfl) ?_
                refine lv_lload_n hx hb dX1_resize_35 rfl (lv_at hl 0 rfl) ?_
                refine hx_callV (rest := []) (n := 1) S hw (c_size l hst D tys cJ ht h0 h1 h2 u b ⟨by omega, by omega⟩) gX1_resize_X1_size rfl (by decide +kernel) rfl ⟨Nat.le_of_ble_eq_true rfl, Nat.le_of_ble_eq_true rfl⟩ 0 1 rfl rfl hc_adr hl.1 rfl (Nat.le_of_ble_eq_true rfl) ⟨by decide, by decide⟩ dX1_resize_36 (fun H locs hw => ?_)
                refine W.eq (g2 := F0 m 39 ls [.long (lN (ph_n u.1 b))]) rfl ?_
                refine lv_lstore (lv' := [(5, .long (lN (ph_n u.1 b))), (3, .long (lN b)), (0, .ref h0), (1, .int (nI a)), (2, .int (nI n))]) hx hb dX1_resize_39 hl (by decide) rfl (fun ls hl => ?_)
                refine lv_lload hx hb dX1_resize_41 (lv_at hl 0 rfl) ?_
                refine lv_iload_n hx hb dX1_resize_43 rfl (lv_at hl 4 rfl) ?_
                refine hx_callS (rest := [.long (lN (ph_n u.1 b))]) (n := 1) S hw (c_unsigned l hst D tys cJ ht h0 h1 h2 u n (by omega)) gX1_resize_X1_unsigned rfl (by decide +kernel) rfl ⟨Nat.le_of_ble_eq_true rfl, Nat.le_of_ble_eq_true rfl⟩ hc_adr hl.1 rfl (Nat.le_of_ble_eq_true rfl) ⟨by decide, by decide⟩ dX1_resize_44 (fun H locs hw => ?_)
                refine W.eq (g2 := F0 m 47 ls [.long (lN n), .long (lN (ph_n u.1 b))]) rfl ?_
                refine hx_callS (rest := [.long (lN (ph_n u.1 b))]) (n := 1) S hw (c_rounded l hst D tys cJ ht h0 h1 h2 u n (by omega)) gX1_resize_X1_rounded rfl (by decide +kernel) rfl ⟨Nat.le_of_ble_eq_true rfl, Nat.le_of_ble_eq_true rfl⟩ hc_adr hl.1 rfl (Nat.le_of_ble_eq_true rfl) ⟨by decide, by decide⟩ dX1_resize_47 (fun H locs hw => ?_)
                refine W.eq (g2 := F0 m 50 ls [.long (lN (ph_up n)), .long (lN (ph_n u.1 b))]) rfl ?_
                refine hn_llt (a := (ph_n u.1 b)) (b := (ph_up n)) (tgt := 56) hx hb (by omega) (by omega) dX1_resize_50 dX1_resize_51 (by decide) (fun hc3 => ?_) (fun hc3 => ?_)
                · refine lv_aload_n hx hb dX1_resize_56 rfl (lv_at hl 2 rfl) ?_
                  refine lv_iload_n hx hb dX1_resize_57 rfl (lv_at hl 4 rfl) ?_
                  refine hx_callS (rest := [.ref h0]) (n := 1) S hw (c_unsigned l hst D tys cJ ht h0 h1 h2 u n (by omega)) gX1_resize_X1_unsigned rfl (by decide +kernel) rfl ⟨Nat.le_of_ble_eq_true rfl, Nat.le_of_ble_eq_true rfl⟩ hc_adr hl.1 rfl (Nat.le_of_ble_eq_true rfl) ⟨by decide, by decide⟩ dX1_resize_58 (fun H locs hw => ?_)
                  refine W.eq (g2 := F0 m 61 ls [.long (lN n), .ref h0]) rfl ?_
                  exact hx_thr (rest := []) (n := 1) S hno hw (x_take l hst D tys cJ ht h0 h1 h2 u n u2 hu hn ht2) gX1_resize_X1_take rfl (by decide +kernel) rfl ⟨Nat.le_of_ble_eq_true rfl, Nat.le_of_ble_eq_true rfl⟩ 0 1 rfl rfl hc_adr hl.1 rfl (Nat.le_of_ble_eq_true rfl) ⟨by decide, by decide⟩ dX1_resize_61
                · exact absurd hc3 (by omega)
              · exact absurd hc2 kn
            · rw [ht2] at h
              dsimp only at h
              have ga := ph_take_at hu ht2
              have hu3 : ph_I u3 := by have hz := ph_take_I hu n; rw [ht2] at hz; exact hz
              by_cases k0 : t = 0
              · subst k0
                rw [if_pos rfl] at h
                cases h
              · rw [if_neg k0] at h
                rcases hc9 : ph_cpy (ph_n u.1 b) u3.1 a t with ⟨_ | _, M⟩
                · rw [hc9] at h
                  dsimp only at h
                  rw [if_neg Bool.false_ne_true] at h
                  cases h
                  refine hx_callV (rest := []) (n := 1) S hw (c_takenBlock l hst D tys cJ ht h0 h1 h2 u a b p0 hu (by omega) hf) gX1_resize_X1_takenBlock rfl (by decide +kernel) rfl ⟨Nat.le_of_ble_eq_true rfl, Nat.le_of_ble_eq_true rfl⟩ 0 1 rfl rfl hc_adr hl.1 rfl (Nat.le_of_ble_eq_true rfl) ⟨by decide, by decide⟩ dX1_resize_19 (fun H locs hw => ?_)
                  refine W.eq (g2 := F0 m 22 ls [.long (lN b)]) rfl ?_
                  refine lv_lstore_n (lv' := [(3, .long (lN b)), (0, .ref h0), (1, .int (nI a)), (2, .int (nI n))]) hx hb dX1_resize_22 rfl hl (by decide) rfl (fun ls hl => ?_)
                  refine lv_iload_n hx hb dX1_resize_23 rfl (lv_at hl 3 rfl) ?_
                  refine hn_zne (n := n) (tgt := 34) hx hb (by omega) dX1_resize_24 (by decide) (fun hc2 => ?_) (fun hc2 => ?_)
                  · refine lv_aload_n hx hb dX1_resize_34 rfl (lv_at hl 1 rfl) ?_
                    refine lv_lload_n hx hb dX1_resize_35 rfl (lv_at hl 0 rfl) ?_
                    refine hx_callV (rest := []) (n := 1) S hw (c_size l hst D tys cJ ht h0 h1 h2 u b ⟨by omega, by omega⟩) gX1_resize_X1_size rfl (by decide +kernel) rfl ⟨Nat.le_of_ble_eq_true rfl, Nat.le_of_ble_eq_true rfl⟩ 0 1 rfl rfl hc_adr hl.1 rfl (Nat.le_of_ble_eq_true rfl) ⟨by decide, by decide⟩ dX1_resize_36 (fun H locs hw => ?_)
                    refine W.eq (g2 := F0 m 39 ls [.long (lN (ph_n u.1 b))]) rfl ?_
                    refine lv_lstore (lv' := [(5, .long (lN (ph_n u.1 b))), (3, .long (lN b)), (0, .ref h0), (1, .int (nI a)), (2, .int (nI n))]) hx hb dX1_resize_39 hl (by decide) rfl (fun ls hl => ?_)
                    refine lv_lload hx hb dX1_resize_41 (lv_at hl 0 rfl) ?_
                    refine lv_iload_n hx hb dX1_resize_43 rfl (lv_at hl 4 rfl) ?_
                    refine hx_callS (rest := [.long (lN (ph_n u.1 b))]) (n := 1) S hw (c_unsigned l hst D tys cJ ht h0 h1 h2 u n (by omega)) gX1_resize_X1_unsigned rfl (by decide +kernel) rfl ⟨Nat.le_of_ble_eq_true rfl, Nat.le_of_ble_eq_true rfl⟩ hc_adr hl.1 rfl (Nat.le_of_ble_eq_true rfl) ⟨by decide, by decide⟩ dX1_resize_44 (fun H locs hw => ?_)
                    refine W.eq (g2 := F0 m 47 ls [.long (lN n), .long (lN (ph_n u.1 b))]) rfl ?_
                    refine hx_callS (rest := [.long (lN (ph_n u.1 b))]) (n := 1) S hw (c_rounded l hst D tys cJ ht h0 h1 h2 u n (by omega)) gX1_resize_X1_rounded rfl (by decide +kernel) rfl ⟨Nat.le_of_ble_eq_true rfl, Nat.le_of_ble_eq_true rfl⟩ hc_adr hl.1 rfl (Nat.le_of_ble_eq_true rfl) ⟨by decide, by decide⟩ dX1_resize_47 (fun H locs hw => ?_)
                    refine W.eq (g2 := F0 m 50 ls [.long (lN (ph_up n)), .long (lN (ph_n u.1 b))]) rfl ?_
                    refine hn_llt (a := (ph_n u.1 b)) (b := (ph_up n)) (tgt := 56) hx hb (by omega) (by omega) dX1_resize_50 dX1_resize_51 (by decide) (fun hc3 => ?_) (fun hc3 => ?_)
                    · refine lv_aload_n hx hb dX1_resize_56 rfl (lv_at hl 2 rfl) ?_
                      refine lv_iload_n hx hb dX1_resize_57 rfl (lv_at hl 4 rfl) ?_
                      refine hx_callS (rest := [.ref h0]) (n := 1) S hw (c_unsigned l hst D tys cJ ht h0 h1 h2 u n (by omega)) gX1_resize_X1_unsigned rfl (by decide +kernel) rfl ⟨Nat.le_of_ble_eq_true rfl, Nat.le_of_ble_eq_true rfl⟩ hc_adr hl.1 rfl (Nat.le_of_ble_eq_true rfl) ⟨by decide, by decide⟩ dX1_resize_58 (fun H locs hw => ?_)
                      refine W.eq (g2 := F0 m 61 ls [.long (lN n), .ref h0]) rfl ?_
                      refine hx_callV (rest := []) (n := 1) S hw (c_take l hst D tys cJ ht h0 h1 h2 u n t u3 hu hn ht2) gX1_resize_X1_take rfl (by decide +kernel) rfl ⟨Nat.le_of_ble_eq_true rfl, Nat.le_of_ble_eq_true rfl⟩ 0 1 rfl rfl hc_adr hl.1 rfl (Nat.le_of_ble_eq_true rfl) ⟨by decide, by decide⟩ dX1_resize_61 (fun H locs hw => ?_)
                      refine W.eq (g2 := F0 m 64 ls [.long (lN t)]) rfl ?_
                      refine lv_lstore (lv' := [(7, .long (lN t)), (5, .long (lN (ph_n u.1 b))), (3, .long (lN b)), (0, .ref h0), (1, .int (nI a)), (2, .int (nI n))]) hx hb dX1_resize_64 hl (by decide) rfl (fun ls hl => ?_)
                      refine lv_lload hx hb dX1_resize_66 (lv_at hl 0 rfl) ?_
                      refine lv_lconst (v := lN 0) hx hb dX1_resize_68 (by decide +kernel) ?_
                      refine hn_leq (a := t) (b := 0) (tgt := 97) hx hb (by omega) (by omega) dX1_resize_69 dX1_resize_70 (by decide) (fun hc4 => ?_) (fun hc4 => ?_)
                      · exact absurd hc4 k0
                      · refine lv_aload_n hx hb dX1_resize_73 rfl (lv_at hl 3 rfl) ?_
                        refine lv_iload_n hx hb dX1_resize_74 rfl (lv_at hl 4 rfl) ?_
                        refine hx_callS (rest := [.ref h0]) (n := 1) S hw (c_unsigned l hst D tys cJ ht h0 h1 h2 u3 a (by omega)) gX1_resize_X1_unsigned rfl (by decide +kernel) rfl ⟨Nat.le_of_ble_eq_true rfl, Nat.le_of_ble_eq_true rfl⟩ hc_adr hl.1 rfl (Nat.le_of_ble_eq_true rfl) ⟨by decide, by decide⟩ dX1_resize_75 (fun H locs hw => ?_)
                        refine W.eq (g2 := F0 m 78 ls [.long (lN a), .ref h0]) rfl ?_
                        refine lv_lload hx hb dX1_resize_78 (lv_at hl 0 rfl) ?_
                        refine lv_lload hx hb dX1_resize_80 (lv_at hl 1 rfl) ?_
                        exact hx_thr (rest := []) (n := 3) S hno hw (x_copy l hst D tys cJ ht h0 h1 h2 u3 a t (ph_n u.1 b) M (by omega) (by omega) (by omega) hc9) gX1_resize_X1_copy rfl (by decide +kernel) rfl ⟨Nat.le_of_ble_eq_true rfl, Nat.le_of_ble_eq_true rfl⟩ 0 1 rfl rfl hc_adr hl.1 rfl (Nat.le_of_ble_eq_true rfl) ⟨by decide, by decide⟩ dX1_resize_82
                    · exact absurd hc3 (by omega)
                  · exact absurd hc2 kn
                · rw [hc9] at h
                  dsimp only at h
                  rw [if_pos rfl] at h
                  unfold ph_give at h
                  dsimp only at h
                  rcases hf2 : ph_fd M u3.2.1 a 8064 0 1024 with _ | ⟨b2, p2⟩
                  · rw [hf2] at h
                    dsimp only at h
                    rw [if_neg Bool.false_ne_true] at h
                    cases h
                    refine hx_callV (rest := []) (n := 1) S hw (c_takenBlock l hst D tys cJ ht h0 h1 h2 u a b p0 hu (by omega) hf) gX1_resize_X1_takenBlock rfl (by decide +kernel) rfl ⟨Nat.le_of_ble_eq_true rfl, Nat.le_of_ble_eq_true rfl⟩ 0 1 rfl rfl hc_adr hl.1 rfl (Nat.le_of_ble_eq_true rfl) ⟨by decide, by decide⟩ dX1_resize_19 (fun H locs hw => ?_)
                    refine W.eq (g2 := F0 m 22 ls [.long (lN b)]) rfl ?_
                    refine lv_lstore_n (lv' := [(3, .long (lN b)), (0, .ref h0), (1, .int (nI a)), (2, .int (nI n))]) hx hb dX1_resize_22 rfl hl (by decide) rfl (fun ls hl => ?_)
                    refine lv_iload_n hx hb dX1_resize_23 rfl (lv_at hl 3 rfl) ?_
                    refine hn_zne (n := n) (tgt := 34) hx hb (by omega) dX1_resize_24 (by decide) (fun hc2 => ?_) (fun hc2 => ?_)
                    · refine lv_aload_n hx hb dX1_resize_34 rfl (lv_at hl 1 rfl) ?_
                      refine lv_lload_n hx hb dX1_resize_35 rfl (lv_at hl 0 rfl) ?_
                      refine hx_callV (rest := []) (n := 1) S hw (c_size l hst D tys cJ ht h0 h1 h2 u b ⟨by omega, by omega⟩) gX1_resize_X1_size rfl (by decide +kernel) rfl ⟨Nat.le_of_ble_eq_true rfl, Nat.le_of_ble_eq_true rfl⟩ 0 1 rfl rfl hc_adr hl.1 rfl (Nat.le_of_ble_eq_true rfl) ⟨by decide, by decide⟩ dX1_resize_36 (fun H locs hw => ?_)
                      refine W.eq (g2 := F0 m 39 ls [.long (lN (ph_n u.1 b))]) rfl ?_
                      refine lv_lstore (lv' := [(5, .long (lN (ph_n u.1 b))), (3, .long (lN b)), (0, .ref h0), (1, .int (nI a)), (2, .int (nI n))]) hx hb dX1_resize_39 hl (by decide) rfl (fun ls hl => ?_)
                      refine lv_lload hx hb dX1_resize_41 (lv_at hl 0 rfl) ?_
                      refine lv_iload_n hx hb dX1_resize_43 rfl (lv_at hl 4 rfl) ?_
                      refine hx_callS (rest := [.long (lN (ph_n u.1 b))]) (n := 1) S hw (c_unsigned l hst D tys cJ ht h0 h1 h2 u n (by omega)) gX1_resize_X1_unsigned rfl (by decide +kernel) rfl ⟨Nat.le_of_ble_eq_true rfl, Nat.le_of_ble_eq_true rfl⟩ hc_adr hl.1 rfl (Nat.le_of_ble_eq_true rfl) ⟨by decide, by decide⟩ dX1_resize_44 (fun H locs hw => ?_)
                      refine W.eq (g2 := F0 m 47 ls [.long (lN n), .long (lN (ph_n u.1 b))]) rfl ?_
                      refine hx_callS (rest := [.long (lN (ph_n u.1 b))]) (n := 1) S hw (c_rounded l hst D tys cJ ht h0 h1 h2 u n (by omega)) gX1_resize_X1_rounded rfl (by decide +kernel) rfl ⟨Nat.le_of_ble_eq_true rfl, Nat.le_of_ble_eq_true rfl⟩ hc_adr hl.1 rfl (Nat.le_of_ble_eq_true rfl) ⟨by decide, by decide⟩ dX1_resize_47 (fun H locs hw => ?_)
                      refine W.eq (g2 := F0 m 50 ls [.long (lN (ph_up n)), .long (lN (ph_n u.1 b))]) rfl ?_
                      refine hn_llt (a := (ph_n u.1 b)) (b := (ph_up n)) (tgt := 56) hx hb (by omega) (by omega) dX1_resize_50 dX1_resize_51 (by decide) (fun hc3 => ?_) (fun hc3 => ?_)
                      · refine lv_aload_n hx hb dX1_resize_56 rfl (lv_at hl 2 rfl) ?_
                        refine lv_iload_n hx hb dX1_resize_57 rfl (lv_at hl 4 rfl) ?_
                        refine hx_callS (rest := [.ref h0]) (n := 1) S hw (c_unsigned l hst D tys cJ ht h0 h1 h2 u n (by omega)) gX1_resize_X1_unsigned rfl (by decide +kernel) rfl ⟨Nat.le_of_ble_eq_true rfl, Nat.le_of_ble_eq_true rfl⟩ hc_adr hl.1 rfl (Nat.le_of_ble_eq_true rfl) ⟨by decide, by decide⟩ dX1_resize_58 (fun H locs hw => ?_)
                        refine W.eq (g2 := F0 m 61 ls [.long (lN n), .ref h0]) rfl ?_
                        refine hx_callV (rest := []) (n := 1) S hw (c_take l hst D tys cJ ht h0 h1 h2 u n t u3 hu hn ht2) gX1_resize_X1_take rfl (by decide +kernel) rfl ⟨Nat.le_of_ble_eq_true rfl, Nat.le_of_ble_eq_true rfl⟩ 0 1 rfl rfl hc_adr hl.1 rfl (Nat.le_of_ble_eq_true rfl) ⟨by decide, by decide⟩ dX1_resize_61 (fun H locs hw => ?_)
                        refine W.eq (g2 := F0 m 64 ls [.long (lN t)]) rfl ?_
                        refine lv_lstore (lv' := [(7, .long (lN t)), (5, .long (lN (ph_n u.1 b))), (3, .long (lN b)), (0, .ref h0), (1, .int (nI a)), (2, .int (nI n))]) hx hb dX1_resize_64 hl (by decide) rfl (fun ls hl => ?_)
                        refine lv_lload hx hb dX1_resize_66 (lv_at hl 0 rfl) ?_
                        refine lv_lconst (v := lN 0) hx hb dX1_resize_68 (by decide +kernel) ?_
                        refine hn_leq (a := t) (b := 0) (tgt := 97) hx hb (by omega) (by omega) dX1_resize_69 dX1_resize_70 (by decide) (fun hc4 => ?_) (fun hc4 => ?_)
                        · exact absurd hc4 k0
                        · refine lv_aload_n hx hb dX1_resize_73 rfl (lv_at hl 3 rfl) ?_
                          refine lv_iload_n hx hb dX1_resize_74 rfl (lv_at hl 4 rfl) ?_
                          refine hx_callS (rest := [.ref h0]) (n := 1) S hw (c_unsigned l hst D tys cJ ht h0 h1 h2 u3 a (by omega)) gX1_resize_X1_unsigned rfl (by decide +kernel) rfl ⟨Nat.le_of_ble_eq_true rfl, Nat.le_of_ble_eq_true rfl⟩ hc_adr hl.1 rfl (Nat.le_of_ble_eq_true rfl) ⟨by decide, by decide⟩ dX1_resize_75 (fun H locs hw => ?_)
                          refine W.eq (g2 := F0 m 78 ls [.long (lN a), .ref h0]) rfl ?_
                          refine lv_lload hx hb dX1_resize_78 (lv_at hl 0 rfl) ?_
                          refine lv_lload hx hb dX1_resize_80 (lv_at hl 1 rfl) ?_
                          refine hx_callV (rest := []) (n := 3) S hw (c_copy l hst D tys cJ ht h0 h1 h2 u3 a t (ph_n u.1 b) M (by omega) (by omega) (by omega) hc9) gX1_resize_X1_copy rfl (by decide +kernel) rfl ⟨Nat.le_of_ble_eq_true rfl, Nat.le_of_ble_eq_true rfl⟩ 0 1 rfl rfl hc_adr hl.1 rfl (Nat.le_of_ble_eq_true rfl) ⟨by decide, by decide⟩ dX1_resize_82 (fun H locs hw => ?_)
                          refine W.eq (g2 := F0 m 85 ls []) rfl ?_
                          refine lv_aload_n hx hb dX1_resize_85 rfl (lv_at hl 3 rfl) ?_
                          refine lv_aload_n hx hb dX1_resize_86 rfl (lv_at hl 3 rfl) ?_
                          refine lv_iload_n hx hb dX1_resize_87 rfl (lv_at hl 4 rfl) ?_
                          refine hx_callS (rest := [.ref h0, .ref h0]) (n := 1) S hw (c_unsigned l hst D tys cJ ht h0 h1 h2 (M, u3.2) a (by omega)) gX1_resize_X1_unsigned rfl (by decide +kernel) rfl ⟨Nat.le_of_ble_eq_true rfl, Nat.le_of_ble_eq_true rfl⟩ hc_adr hl.1 rfl (Nat.le_of_ble_eq_true rfl) ⟨by decide, by decide⟩ dX1_resize_88 (fun H locs hw => ?_)
                          refine W.eq (g2 := F0 m 91 ls [.long (lN a), .ref h0, .ref h0]) rfl ?_
                          exact hx_thr (rest := [.ref h0]) (n := 1) S hno hw (x_takenBlock l hst D tys cJ ht h0 h1 h2 (M, u3.2) a hu3 (by omega) hf2) gX1_resize_X1_takenBlock rfl (by decide +kernel) rfl ⟨Nat.le_of_ble_eq_true rfl, Nat.le_of_ble_eq_true rfl⟩ 0 1 rfl rfl hc_adr hl.1 rfl (Nat.le_of_ble_eq_true rfl) ⟨by decide, by decide⟩ dX1_resize_91
                      · exact absurd hc3 (by omega)
                    · exact absurd hc2 kn
                  · rw [hf2] at h
                    dsimp only at h
                    rw [if_pos rfl] at h
                    cases h
    · exact absurd hc ka
end
section
/-! the model's numbers: ints -/
/-- the model's cells: the object, its bytes -/
abbrev hm_W (cB : ClassId) (k0 k1 : Nat) (u : ph_H) (th : Int32) (bf : Int64) : va_W := [(k0, .inr (2, [.ref k1, .int (nI u.2.1), .int (nI u.2.2), .int th, .long bf])), (k1, .inl (cB, 65536, .inl (fun j => sb_b (ph_b u.1 j))))]
theorem hm_adr {cB : ClassId} {k0 k1 : Nat} {u u2 : ph_H} {th th2 : Int32} {bf bf2 : Int64} : (hm_W cB k0 k1 u2 th2 bf2).map (fun q => q.1) = (hm_W cB k0 k1 u th bf).map (fun q => q.1) := by show [k0, k1] = [k0, k1]; rfl
def hm_bf (p : Nat) : Int64 := if p = 0 then (-1) else lN p
theorem hm_i8 (x : Int32) : x.toInt8.toInt32 = sb_b (x.toBitVec.toNat % 256) := by
  have e : x.toInt8 = (nI (x.toBitVec.toNat % 256)).toInt8 := by
    apply Int8.toBitVec_inj.mp
    rw [Int32.toBitVec_toInt8, Int32.toBitVec_toInt8]
    apply BitVec.eq_of_toNat_eq
    rw [BitVec.signExtend_eq_setWidth_of_le _ (by decide), BitVec.signExtend_eq_setWidth_of_le _ (by decide), BitVec.toNat_setWidth, BitVec.toNat_setWidth, pw_nb]
    omega
  unfold sb_b
  rw [e]
theorem hm_store (m : ph_M) (a : Nat) (v : Int32) : upd (fun j => sb_b (ph_b m j)) a (vp_nar .byte v.toInt8.toInt32) = fun j => sb_b (ph_b (ph_sb m a v.toBitVec.toNat) j) := by
  funext j
  by_cases h : j = a
  · subst h
    rw [pk_us, pk_vb, hm_i8, ph_b_eq]
  · rw [pk_un h, ph_b_ne _ _ h]
theorem hm_shl {n k : Nat} (hk : k < 32) (h : n * 2 ^ k < 4294967296) : nI n <<< (nI k &&& 31) = nI (n * 2 ^ k) := by
  have hs : ∀ k, k < 32 → ((nI k &&& 31).toBitVec.smod 32).toNat = k := by decide +kernel
  exact pk_shlN _ k (hs k hk) h
theorem hm_or {a b k : Nat} (ha : a < 2 ^ k) (h : a + b * 2 ^ k < 4294967296) : nI a ||| nI (b * 2 ^ k) = nI (a + b * 2 ^ k) := by
  apply Int32.toBitVec_inj.mp
  rw [Int32.toBitVec_or]
  apply BitVec.eq_of_toNat_eq
  rw [BitVec.toNat_or, pw_nb, pw_nb, pw_nb, Nat.mod_eq_of_lt (show a < 2 ^ 32 by omega), Nat.mod_eq_of_lt (show b * 2 ^ k < 2 ^ 32 by omega), Nat.mod_eq_of_lt (show a + b * 2 ^ k < 2 ^ 32 from h), Nat.or_comm, Nat.mul_comm, ← Nat.two_pow_add_eq_or_of_lt ha]
  omega
theorem hm_shr {x : Nat} (h : x < 4294967296) (k : Nat) (hk : k = 0 ∨ k = 8 ∨ k = 16 ∨ k = 24) : (nI x >>> (nI k &&& 31)).toBitVec.toNat % 256 = x / 2 ^ k % 256 := by
  have hs : ∀ k, k < 32 → ((nI k &&& 31).toBitVec.smod 32).toNat = k := by decide +kernel
  have e := pk_shr (nI x) (nI k &&& 31) k (hs k (by omega))
  rw [hp_nt h, Int.shiftRight_eq_div_pow] at e
  have e2 := BitVec.toInt_eq_toNat_cond (nI x >>> (nI k &&& 31)).toBitVec
  have e3 : (nI x >>> (nI k &&& 31)).toInt = (nI x >>> (nI k &&& 31)).toBitVec.toInt := rfl
  rw [e3, e2] at e
  have hlt := (nI x >>> (nI k &&& 31)).toBitVec.isLt
  generalize (nI x >>> (nI k &&& 31)).toBitVec.toNat = y at e hlt ⊢
  rcases hk with rfl | rfl | rfl | rfl <;> (split at e <;> split at e <;> omega)
theorem hm_eq {n k : Nat} (hn : n < 4294967296) (hk : k < 4294967296) : nI n = nI k ↔ n = k := by
  constructor
  · intro q
    have h1 := pw_nb n
    rw [q, pw_nb] at h1
    omega
  · intro q; rw [q]
theorem hm_div {a : Nat} (ha : a < 9223372036854775808) : lN a / lN 8 = lN (a / 8) := pk_lDiv (show a < 2 ^ 63 from ha) (by decide) (by decide)
theorem hm_mod (n : Nat) : nI n = nI (n % 4294967296) := by
  apply Int32.toBitVec_inj.mp
  apply BitVec.eq_of_toNat_eq
  rw [pw_nb, pw_nb]
  omega
theorem hp_neg2 {t x : Nat} (h : t < 4096) (hx : x < 9223372036854775808) : ¬ lN x ≤ (nI t - nI 4096).toInt64 := by
  rw [Int64.le_iff_toInt_le, Int32.toInt_toInt64, pk_sub_toInt (by omega) (by decide), hp_lt (by omega), if_pos hx]
  omega
/-- the block at b free, and joined with the next one -/
theorem hm_n1 (m : ph_M) (b : Nat) : ph_n (ph_sn m (b + 4) 0) b = ph_n m b := ph_n_off m 0 (by omega)
theorem hm_g1a {m : ph_M} {e b : Nat} (h1 : b + 8 + ph_n m b < e) (h2 : ph_n (ph_sn m (b + 4) 0) (b + 8 + ph_n m b + 4) ≠ 1) :
    ph_sn (ph_sn (ph_sn m (b + 4) 0) b ((ph_n m b + 8 + ph_n (ph_sn m (b + 4) 0) (b + 8 + ph_n m b)) % 4294967296)) (b + 4) 0 = ph_g1 m e b ∧ ph_n (ph_g1 m e b) b = (ph_n m b + 8 + ph_n (ph_sn m (b + 4) 0) (b + 8 + ph_n m b)) % 4294967296 := by
  have e1 : ph_g1 m e b = ph_sn (ph_sn (ph_sn m (b + 4) 0) b (ph_n m b + 8 + ph_n (ph_sn m (b + 4) 0) (b + 8 + ph_n m b))) (b + 4) 0 := by
    unfold ph_g1 ph_jn
    rw [hm_n1]
    exact if_pos ⟨h1, h2⟩
  rw [e1]
  refine ⟨by rw [ph_sn_mod], ?_⟩
  rw [ph_n_off _ _ (by omega), ph_n_sn]
theorem hm_g1b {m : ph_M} {e b : Nat} (h : ¬ (b + 8 + ph_n m b < e ∧ ph_n (ph_sn m (b + 4) 0) (b + 8 + ph_n m b + 4) ≠ 1)) : ph_sn m (b + 4) 0 = ph_g1 m e b ∧ ph_n (ph_g1 m e b) b = ph_n m b := by
  have e1 : ph_g1 m e b = ph_sn m (b + 4) 0 := by
    unfold ph_g1 ph_jn
    rw [hm_n1]
    exact if_neg h
  rw [e1]
  exact ⟨rfl, hm_n1 m b⟩
theorem hm_g14 (m : ph_M) (e b : Nat) : ph_n (ph_g1 m e b) (b + 4) = 0 := by
  unfold ph_g1 ph_jn
  split
  · rw [ph_n_sn]
  · rw [ph_n_sn]
theorem hm_g2a {m : ph_M} {e b p : Nat} (hp0 : p ≠ 0) (hp : p + 8 + ph_n m p = b) (hbe : b < e) (h2 : ph_n (ph_g1 m e b) (p + 4) ≠ 1) :
    ph_sn (ph_sn (ph_g1 m e b) p ((ph_n (ph_g1 m e b) p + 8 + ph_n (ph_g1 m e b) b) % 4294967296)) (p + 4) 0 = ph_g2 m e b p ∧ ph_n (ph_g2 m e b p) (ph_gj m e b p) = (ph_n (ph_g1 m e b) p + 8 + ph_n (ph_g1 m e b) b) % 4294967296 ∧ ph_gj m e b p = p := by
  have ej : ph_gj m e b p = p := if_pos ⟨hp0, h2⟩
  have en : ph_n (ph_g1 m e b) p = ph_n m p := ph_n_ext (fun j _ h4 => ph_g1_low m (by omega))
  have e2 : ph_g2 m e b p = ph_sn (ph_sn (ph_g1 m e b) p (ph_n (ph_g1 m e b) p + 8 + ph_n (ph_g1 m e b) b)) (p + 4) 0 := by
    have e3 : ph_g2 m e b p = ph_jn (ph_g1 m e b) e p := if_pos ⟨hp0, h2⟩
    rw [e3]
    unfold ph_jn
    rw [en, hp]
    exact if_pos ⟨hbe, by rw [hm_g14]; decide⟩
  rw [ej, e2]
  refine ⟨by rw [ph_sn_mod], ?_, rfl⟩
  rw [ph_n_off _ _ (by omega), ph_n_sn]
theorem hm_g2b {m : ph_M} {e b p : Nat} (h : ¬ (p ≠ 0 ∧ ph_n (ph_g1 m e b) (p + 4) ≠ 1)) : ph_g1 m e b = ph_g2 m e b p ∧ ph_gj m e b p = b := ⟨(if_neg h).symm, if_neg h⟩
end
section
/-! HeapRowModel: bytes and numbers -/
set_option maxHeartbeats 4000000 in
set_option maxRecDepth 100000 in
theorem m_there (l : Launch) (hst : l.stackTraces = false) (D : va_G) (tys : List (ClassId × FieldType)) (cB : ClassId) (ht : tys[1]? = some (cB, .byte)) (k0 k1 : Nat) (u : ph_H) (th : Int32) (bf : Int64) (a : Nat) (ha : a < 9223372036854775808) : hx_R l D tys yX2_there wsX2_there 0 0 [.long (lN a)] (hm_W cB k0 k1 u th bf) (hm_W cB k0 k1 u th bf) (some (.int (if ph_in a then nI 1 else nI 0))) := by
  refine hx_R.ofW (cc := cX2_there) (maxL := 2) (ret := (some .boolean)) (by decide) rfl (Nat.le_of_ble_eq_true rfl) ?_
  intro p e s m below meth c A ls hr S hw hl
  have S : hx_S p l s m _ meth c cX2_there 2 wsX2_there RX2 A D tys := S
  obtain ⟨⟨hx, hb, hml, hown, hts⟩, hK, hA, hE, hlk⟩ := id S
  have hl : lv_has ls 2 [(0, .long (lN a))] := hl
  refine lv_lload_n hx hb dX2_there_0 rfl (lv_at hl 0 rfl) ?_
  refine lv_ldc2 (v := lN 1024) hx hb hown (hts (.constantLong RX2 24 (lN 1024)) (by decide +kernel)) dX2_there_1 ?_
  refine hn_llt (a := a) (b := 1024) (tgt := 20) hx hb (by omega) (by omega) dX2_there_4 dX2_there_5 (by decide) (fun hc => ?_) (fun hc => ?_)
  · refine lv_iconst (v := nI 0) hx hb dX2_there_20 (by decide +kernel) ?_
    rw [if_neg (show ¬ ph_in a from by omega)]
    exact hx_zret S hr rfl hw dX2_there_21
  · refine lv_lload_n hx hb dX2_there_8 rfl (lv_at hl 0 rfl) ?_
    refine lv_ldc2 (v := lN 65536) hx hb hown (hts (.constantLong RX2 26 (lN 65536)) (by decide +kernel)) dX2_there_9 ?_
    refine hn_lge (a := a) (b := 65536) (tgt := 20) hx hb (by omega) (by omega) dX2_there_12 dX2_there_13 (by decide) (fun hc2 => ?_) (fun hc2 => ?_)
    · refine lv_iconst (v := nI 0) hx hb dX2_there_20 (by decide +kernel) ?_
      rw [if_neg (show ¬ ph_in a from by omega)]
      exact hx_zret S hr rfl hw dX2_there_21
    · refine lv_iconst (v := nI 1) hx hb dX2_there_16 (by decide +kernel) ?_
      refine lv_goto (tgt := 21) hx hb dX2_there_17 (by decide) ?_
      rw [if_pos (show ph_in a from by omega)]
      exact hx_zret S hr rfl hw dX2_there_21
set_option maxHeartbeats 4000000 in
set_option maxRecDepth 100000 in
theorem m_without (l : Launch) (hst : l.stackTraces = false) (D : va_G) (tys : List (ClassId × FieldType)) (cB : ClassId) (ht : tys[1]? = some (cB, .byte)) (k0 k1 : Nat) (u : ph_H) (th : Int32) (bf : Int64) (n : Nat) (hn : n < 4294967296) : hx_R l D tys yX2_without wsX2_without 0 0 [.int (nI n)] (hm_W cB k0 k1 u th bf) (hm_W cB k0 k1 u th bf) (some (.long (lN n))) := by
  refine hx_R.ofW (cc := cX2_without) (maxL := 1) (ret := (some .long)) (by decide) rfl (Nat.le_of_ble_eq_true rfl) ?_
  intro p e s m below meth c A ls hr S hw hl
  have S : hx_S p l s m _ meth c cX2_without 1 wsX2_without RX2 A D tys := S
  obtain ⟨⟨hx, hb, hml, hown, hts⟩, hK, hA, hE, hlk⟩ := id S
  have hl : lv_has ls 1 [(0, .int (nI n))] := hl
  refine lv_iload_n hx hb dX2_without_0 rfl (lv_at hl 0 rfl) ?_
  refine lv_i2l (v := (nI n).toInt64) hx hb dX2_without_1 rfl ?_
  refine lv_ldc2 (v := lN 4294967295) hx hb hown (hts (.constantLong RX2 45 (lN 4294967295)) (by decide +kernel)) dX2_without_2 ?_
  refine hn_land (v := lN n) hx hb dX2_without_5 (hp_uns hn) ?_
  exact hx_lret S hr hw dX2_without_6
set_option maxHeartbeats 4000000 in
set_option maxRecDepth 100000 in
theorem m_up (l : Launch) (hst : l.stackTraces = false) (D : va_G) (tys : List (ClassId × FieldType)) (cB : ClassId) (ht : tys[1]? = some (cB, .byte)) (k0 k1 : Nat) (u : ph_H) (th : Int32) (bf : Int64) (n : Nat) (hn : n < 4611686018427387904) : hx_R l D tys yX2_up wsX2_up 0 0 [.long (lN n)] (hm_W cB k0 k1 u th bf) (hm_W cB k0 k1 u th bf) (some (.long (lN (ph_up n)))) := by
  refine hx_R.ofW (cc := cX2_up) (maxL := 2) (ret := (some .long)) (by decide) rfl (Nat.le_of_ble_eq_true rfl) ?_
  intro p e s m below meth c A ls hr S hw hl
  have S : hx_S p l s m _ meth c cX2_up 2 wsX2_up RX2 A D tys := S
  obtain ⟨⟨hx, hb, hml, hown, hts⟩, hK, hA, hE, hlk⟩ := id S
  have hl : lv_has ls 2 [(0, .long (lN n))] := hl
  unfold ph_up
  refine lv_lload_n hx hb dX2_up_0 rfl (lv_at hl 0 rfl) ?_
  refine lv_lconst (v := lN 0) hx hb dX2_up_1 (by decide +kernel) ?_
  refine hn_lne (a := n) (b := 0) (tgt := 12) hx hb (by omega) (by omega) dX2_up_2 dX2_up_3 (by decide) (fun hc => ?_) (fun hc => ?_)
  · rw [if_neg hc]
    refine lv_lload_n hx hb dX2_up_12 rfl (lv_at hl 0 rfl) ?_
    refine lv_ldc2 (v := lN 7) hx hb hown (hts (.constantLong RX2 71 (lN 7)) (by decide +kernel)) dX2_up_13 ?_
    refine hn_ladd (v := lN (n + 7)) hx hb dX2_up_16 (lN_add _ _) ?_
    refine lv_ldc2 (v := lN 8) hx hb hown (hts (.constantLong RX2 69 (lN 8)) (by decide +kernel)) dX2_up_17 ?_
    refine hn_ldiv (v := lN ((n + 7) / 8)) hx hb dX2_up_20 (by decide +kernel) (hm_div (by omega)) ?_
    refine lv_ldc2 (v := lN 8) hx hb hown (hts (.constantLong RX2 69 (lN 8)) (by decide +kernel)) dX2_up_21 ?_
    refine hn_lmul (v := lN (((n + 7) / 8) * 8)) hx hb dX2_up_24 (lN_mul _ _) ?_
    exact hx_lret S hr hw dX2_up_25
  · rw [if_pos hc]
    refine lv_ldc2 (v := lN 8) hx hb hown (hts (.constantLong RX2 69 (lN 8)) (by decide +kernel)) dX2_up_6 ?_
    refine lv_goto (tgt := 25) hx hb dX2_up_9 (by decide) ?_
    exact hx_lret S hr hw dX2_up_25
set_option maxHeartbeats 4000000 in
set_option maxRecDepth 100000 in
theorem m_read (l : Launch) (hst : l.stackTraces = false) (D : va_G) (tys : List (ClassId × FieldType)) (cB : ClassId) (ht : tys[1]? = some (cB, .byte)) (k0 k1 : Nat) (u : ph_H) (th : Int32) (bf : Int64) (a : Nat) (ha : ph_in a) : hx_R l D tys yX2_read wsX2_read 6 82 [.ref k0, .long (lN a)] (hm_W cB k0 k1 u th bf) (hm_W cB k0 k1 u th bf) (some (.int (nI (ph_b u.1 a)))) := by
  refine hx_R.ofW (cc := cX2_read) (maxL := 3) (ret := (some .int)) (by decide) rfl (Nat.le_of_ble_eq_true rfl) ?_
  intro p e s m below meth c A ls hr S hw hl
  have S : hx_S p l s m _ meth c cX2_read 3 wsX2_read RX2 A D tys := S
  obtain ⟨⟨hx, hb, hml, hown, hts⟩, hK, hA, hE, hlk⟩ := id S
  have hi2 : ∀ w ∈ wsX20, w ∈ wsX2_read := by decide +kernel
  have hl : lv_has ls 3 [(0, .ref k0), (1, .long (lN a))] := hl
  refine lv_lload_n hx hb dX2_read_0 rfl (lv_at hl 1 rfl) ?_
  refine hx_callS (rest := []) (n := 1) S hw (m_there l hst D tys cB ht k0 k1 u th bf (a) (by omega)) gX2_read_X2_there rfl (by decide +kernel) rfl ⟨Nat.le_of_ble_eq_true rfl, Nat.le_of_ble_eq_true rfl⟩ hm_adr hl.1 rfl (Nat.le_of_ble_eq_true rfl) ⟨by decide, by decide⟩ dX2_read_1 (fun H locs hw => ?_)
  refine W.eq (g2 := F0 m 4 ls [.int (if ph_in (a) then nI 1 else nI 0)]) rfl ?_
  refine hn_pne (tgt := 15) hx hb dX2_read_4 (by decide) (fun hc => ?_) (fun hc => ?_)
  · refine lv_aload_n hx hb dX2_read_15 rfl (lv_at hl 0 rfl) ?_
    refine va_get (D := D) (ci := 2) (v := .ref k1) (C := RX2) (T := TX2) (N := 5) hx hb hts hi2 hown hK hw.1 0 rfl rfl 0 (by decide) (hts (.fieldLink RX2 10 "HeapRowModel" "memory" "[B") (by decide +kernel)) (fun _ h9 => h9) rfl dX2_read_16 ?_
    refine lv_lload_n hx hb dX2_read_19 rfl (lv_at hl 1 rfl) ?_
    refine lv_l2i (v := nI a) hx hb dX2_read_20 (lN_i _) ?_
    refine hn_bald hx hb hK hw.1 1 1 rfl ht (k := a) (by omega) (by decide) dX2_read_21 ?_
    refine lv_sipush (v := nI 255) hx hb dX2_read_22 (by decide +kernel) ?_
    refine hn_iand (v := nI (ph_b u.1 a)) hx hb dX2_read_25 (sb_byte _ (ph_b_lt u.1 a)).1 ?_
    exact hx_iret S hr hw dX2_read_26
  · exact absurd ha hc
set_option maxHeartbeats 4000000 in
set_option maxRecDepth 100000 in
theorem mx_read (l : Launch) (hst : l.stackTraces = false) (D : va_G) (tys : List (ClassId × FieldType)) (cB : ClassId) (ht : tys[1]? = some (cB, .byte)) (k0 k1 : Nat) (u : ph_H) (th : Int32) (bf : Int64) (a : Nat) (hb63 : a < 9223372036854775808) (ha : ¬ ph_in a) : hx_X l D tys yX2_read wsX2_read 6 82 [.ref k0, .long (lN a)] (hm_W cB k0 k1 u th bf) (hm_W cB k0 k1 u th bf) := by
  refine hx_X.ofW (cc := cX2_read) (maxL := 3) (ret := (some .int)) (by decide) rfl (Nat.le_of_ble_eq_true rfl) ?_
  intro p e s m below meth c A ls hr S hno hw hl
  have S : hx_S p l s m _ meth c cX2_read 3 wsX2_read RX2 A D tys := S
  obtain ⟨⟨hx, hb, hml, hown, hts⟩, hK, hA, hE, hlk⟩ := id S
  have hi2 : ∀ w ∈ wsX20, w ∈ wsX2_read := by decide +kernel
  have hl : lv_has ls 3 [(0, .ref k0), (1, .long (lN a))] := hl
  refine lv_lload_n hx hb dX2_read_0 rfl (lv_at hl 1 rfl) ?_
  refine hx_callS (rest := []) (n := 1) S hw (m_there l hst D tys cB ht k0 k1 u th bf (a) (by omega)) gX2_read_X2_there rfl (by decide +kernel) rfl ⟨Nat.le_of_ble_eq_true rfl, Nat.le_of_ble_eq_true rfl⟩ hm_adr hl.1 rfl (Nat.le_of_ble_eq_true rfl) ⟨by decide, by decide⟩ dX2_read_1 (fun H locs hw => ?_)
  refine W.eq (g2 := F0 m 4 ls [.int (if ph_in (a) then nI 1 else nI 0)]) rfl ?_
  refine hn_pne (tgt := 15) hx hb dX2_read_4 (by decide) (fun hc => ?_) (fun hc => ?_)
  · exact absurd hc ha
  · exact hx_new0 S hst hno hw (List.mem_of_getElem? (i := 1) rfl) (List.mem_of_getElem? (i := 2) rfl) (fun w h => List.mem_cons_of_mem _ (List.mem_append_right _ h)) tb_M to_M hl.1 dX2_read_7 dX2_read_10 dX2_read_11 dX2_read_14 ⟨by decide, by decide, by decide, by decide⟩
set_option maxHeartbeats 4000000 in
set_option maxRecDepth 100000 in
theorem m_write (l : Launch) (hst : l.stackTraces = false) (D : va_G) (tys : List (ClassId × FieldType)) (cB : ClassId) (ht : tys[1]? = some (cB, .byte)) (k0 k1 : Nat) (u : ph_H) (th : Int32) (bf : Int64) (a : Nat) (v : Int32) (ha : ph_in a) : hx_R l D tys yX2_write wsX2_write 6 82 [.ref k0, .long (lN a), .int v] (hm_W cB k0 k1 u th bf) (hm_W cB k0 k1 (ph_sb u.1 a v.toBitVec.toNat, u.2) th bf) (none) := by
  refine hx_R.ofW (cc := cX2_write) (maxL := 4) (ret := none) (by decide) rfl (Nat.le_of_ble_eq_true rfl) ?_
  intro p e s m below meth c A ls hr S hw hl
  have S : hx_S p l s m _ meth c cX2_write 4 wsX2_write RX2 A D tys := S
  obtain ⟨⟨hx, hb, hml, hown, hts⟩, hK, hA, hE, hlk⟩ := id S
  have hi2 : ∀ w ∈ wsX20, w ∈ wsX2_write := by decide +kernel
  have hl : lv_has ls 4 [(0, .ref k0), (1, .long (lN a)), (3, .int v)] := hl
  refine lv_lload_n hx hb dX2_write_0 rfl (lv_at hl 1 rfl) ?_
  refine hx_callS (rest := []) (n := 1) S hw (m_there l hst D tys cB ht k0 k1 u th bf (a) (by omega)) gX2_write_X2_there rfl (by decide +kernel) rfl ⟨Nat.le_of_ble_eq_true rfl, Nat.le_of_ble_eq_true rfl⟩ hm_adr hl.1 rfl (Nat.le_of_ble_eq_true rfl) ⟨by decide, by decide⟩ dX2_write_1 (fun H locs hw => ?_)
  refine W.eq (g2 := F0 m 4 ls [.int (if ph_in (a) then nI 1 else nI 0)]) rfl ?_
  refine hn_pne (tgt := 15) hx hb dX2_write_4 (by decide) (fun hc => ?_) (fun hc => ?_)
  · refine lv_aload_n hx hb dX2_write_15 rfl (lv_at hl 0 rfl) ?_
    refine va_get (D := D) (ci := 2) (v := .ref k1) (C := RX2) (T := TX2) (N := 5) hx hb hts hi2 hown hK hw.1 0 rfl rfl 0 (by decide) (hts (.fieldLink RX2 10 "HeapRowModel" "memory" "[B") (by decide +kernel)) (fun _ h9 => h9) rfl dX2_write_16 ?_
    refine lv_lload_n hx hb dX2_write_19 rfl (lv_at hl 1 rfl) ?_
    refine lv_l2i (v := nI a) hx hb dX2_write_20 (lN_i _) ?_
    refine lv_iload_n hx hb dX2_write_21 rfl (lv_at hl 2 rfl) ?_
    refine lv_i2b (v := v.toInt8.toInt32) hx hb dX2_write_22 rfl ?_
    refine hn_bast hx hb hK hw 1 1 rfl ht (k := a) (by omega) (by decide) dX2_write_23 (fun H locs hw => ?_)
    have hw : hx_w D A s.heap (hm_W cB k0 k1 (ph_sb u.1 a v.toBitVec.toNat, u.2) th bf) H locs := by
      show hx_w D A s.heap [(k0, .inr (2, [.ref k1, .int (nI u.2.1), .int (nI u.2.2), .int th, .long bf])), (k1, .inl (cB, 65536, .inl (fun j => sb_b (ph_b (ph_sb u.1 a v.toBitVec.toNat) j))))] H locs
      rw [← hm_store u.1 a v]
      exact hw
    exact hx_vret S hr hw dX2_write_24
  · exact absurd ha hc
set_option maxHeartbeats 4000000 in
set_option maxRecDepth 100000 in
theorem mx_write (l : Launch) (hst : l.stackTraces = false) (D : va_G) (tys : List (ClassId × FieldType)) (cB : ClassId) (ht : tys[1]? = some (cB, .byte)) (k0 k1 : Nat) (u : ph_H) (th : Int32) (bf : Int64) (a : Nat) (v : Int32) (hb63 : a < 9223372036854775808) (ha : ¬ ph_in a) : hx_X l D tys yX2_write wsX2_write 6 82 [.ref k0, .long (lN a), .int v] (hm_W cB k0 k1 u th bf) (hm_W cB k0 k1 u th bf) := by
  refine hx_X.ofW (cc := cX2_write) (maxL := 4) (ret := none) (by decide) rfl (Nat.le_of_ble_eq_true rfl) ?_
  intro p e s m below meth c A ls hr S hno hw hl
  have S : hx_S p l s m _ meth c cX2_write 4 wsX2_write RX2 A D tys := S
  obtain ⟨⟨hx, hb, hml, hown, hts⟩, hK, hA, hE, hlk⟩ := id S
  have hi2 : ∀ w ∈ wsX20, w ∈ wsX2_write := by decide +kernel
  have hl : lv_has ls 4 [(0, .ref k0), (1, .long (lN a)), (3, .int v)] := hl
  refine lv_lload_n hx hb dX2_write_0 rfl (lv_at hl 1 rfl) ?_
  refine hx_callS (rest := []) (n := 1) S hw (m_there l hst D tys cB ht k0 k1 u th bf (a) (by omega)) gX2_write_X2_there rfl (by decide +kernel) rfl ⟨Nat.le_of_ble_eq_true rfl, Nat.le_of_ble_eq_true rfl⟩ hm_adr hl.1 rfl (Nat.le_of_ble_eq_true rfl) ⟨by decide, by decide⟩ dX2_write_1 (fun H locs hw => ?_)
  refine W.eq (g2 := F0 m 4 ls [.int (if ph_in (a) then nI 1 else nI 0)]) rfl ?_
  refine hn_pne (tgt := 15) hx hb dX2_write_4 (by decide) (fun hc => ?_) (fun hc => ?_)
  · exact absurd hc ha
  · exact hx_new0 S hst hno hw (List.mem_of_getElem? (i := 1) rfl) (List.mem_of_getElem? (i := 2) rfl) (fun w h => List.mem_cons_of_mem _ (List.mem_append_right _ h)) tb_M to_M hl.1 dX2_write_7 dX2_write_10 dX2_write_11 dX2_write_14 ⟨by decide, by decide, by decide, by decide⟩
theorem m_writeK (l : Launch) (hst : l.stackTraces = false) (D : va_G) (tys : List (ClassId × FieldType)) (cB : ClassId) (ht : tys[1]? = some (cB, .byte)) (k0 k1 : Nat) (u : ph_H) (th : Int32) (bf : Int64) (a x k q : Nat) (hx32 : x < 4294967296) (hk : k = 0 ∨ k = 8 ∨ k = 16 ∨ k = 24) (hq : x / 2 ^ k = q) (ha : ph_in a) : hx_R l D tys yX2_write wsX2_write 6 82 [.ref k0, .long (lN a), .int (nI x >>> (nI k &&& 31))] (hm_W cB k0 k1 u th bf) (hm_W cB k0 k1 (ph_sb u.1 a q, u.2) th bf) none := by
  have h := m_write l hst D tys cB ht k0 k1 u th bf a (nI x >>> (nI k &&& 31)) ha
  rw [hp_sb u.1 a _ q (by rw [hm_shr hx32 k hk, hq])] at h
  exact h
theorem m_writeN (l : Launch) (hst : l.stackTraces = false) (D : va_G) (tys : List (ClassId × FieldType)) (cB : ClassId) (ht : tys[1]? = some (cB, .byte)) (k0 k1 : Nat) (u : ph_H) (th : Int32) (bf : Int64) (a x : Nat) (hx32 : x < 4294967296) (ha : ph_in a) : hx_R l D tys yX2_write wsX2_write 6 82 [.ref k0, .long (lN a), .int (nI x)] (hm_W cB k0 k1 u th bf) (hm_W cB k0 k1 (ph_sb u.1 a x, u.2) th bf) none := by
  have h := m_write l hst D tys cB ht k0 k1 u th bf a (nI x) ha
  rw [pw_nb, Nat.mod_eq_of_lt (show x < 2 ^ 32 from hx32)] at h
  exact h
set_option maxHeartbeats 4000000 in
set_option maxRecDepth 100000 in
theorem m_number (l : Launch) (hst : l.stackTraces = false) (D : va_G) (tys : List (ClassId × FieldType)) (cB : ClassId) (ht : tys[1]? = some (cB, .byte)) (k0 k1 : Nat) (u : ph_H) (th : Int32) (bf : Int64) (a : Nat) (ha : ph_i4 a) : hx_R l D tys yX2_number wsX2_number 7 104 [.ref k0, .long (lN a)] (hm_W cB k0 k1 u th bf) (hm_W cB k0 k1 u th bf) (some (.int (nI (ph_n u.1 a)))) := by
  refine hx_R.ofW (cc := cX2_number) (maxL := 5) (ret := (some .int)) (by decide) rfl (Nat.le_of_ble_eq_true rfl) ?_
  intro p e s m below meth c A ls hr S hw hl
  have S : hx_S p l s m _ meth c cX2_number 5 wsX2_number RX2 A D tys := S
  obtain ⟨⟨hx, hb, hml, hown, hts⟩, hK, hA, hE, hlk⟩ := id S
  have hl : lv_has ls 5 [(0, .ref k0), (1, .long (lN a))] := hl
  have hb0 := ph_b_lt u.1 (a + 0)
  have hb1 := ph_b_lt u.1 (a + 1)
  have hb2 := ph_b_lt u.1 (a + 2)
  have hb3 := ph_b_lt u.1 (a + 3)
  refine lv_iconst (v := nI 0) hx hb dX2_number_0 (by decide +kernel) ?_
  refine lv_istore_n (lv' := [(3, .int (nI 0)), (0, .ref k0), (1, .long (lN a))]) hx hb dX2_number_1 rfl hl (by decide) rfl (fun ls hl => ?_)
  refine lv_iconst (v := nI 0) hx hb dX2_number_2 (by decide +kernel) ?_
  refine lv_istore (lv' := [(4, .int (nI 0)), (3, .int (nI 0)), (0, .ref k0), (1, .long (lN a))]) hx hb dX2_number_3 hl (by decide) rfl (fun ls hl => ?_)
  refine lv_iload hx hb dX2_number_5 (lv_at hl 0 rfl) ?_
  refine lv_iconst (v := nI 4) hx hb dX2_number_7 (by decide +kernel) ?_
  refine hn_ige (a := 0) (b := 4) (tgt := 35) hx hb (by decide) (by decide) dX2_number_8 (by decide) (fun hc => absurd hc (by decide)) (fun _ => ?_)
  refine lv_iload_n hx hb dX2_number_11 rfl (lv_at hl 1 rfl) ?_
  refine lv_aload_n hx hb dX2_number_12 rfl (lv_at hl 2 rfl) ?_
  refine lv_lload_n hx hb dX2_number_13 rfl (lv_at hl 3 rfl) ?_
  refine lv_iload hx hb dX2_number_14 (lv_at hl 0 rfl) ?_
  refine lv_i2l (v := lN 0) hx hb dX2_number_16 (nI_l (by omega)) ?_
  refine hn_ladd (v := lN (a + 0)) hx hb dX2_number_17 (lN_add _ _) ?_
  refine hx_callV (rest := [.int (nI 0)]) (n := 1) S hw (m_read l hst D tys cB ht k0 k1 u th bf (a + 0) ⟨by omega, by omega⟩) gX2_number_X2_read rfl (by decide +kernel) rfl ⟨Nat.le_of_ble_eq_true rfl, Nat.le_of_ble_eq_true rfl⟩ 0 2 rfl rfl hm_adr hl.1 rfl (Nat.le_of_ble_eq_true rfl) ⟨by decide, by decide⟩ dX2_number_18 (fun H locs hw => ?_)
  refine W.eq (g2 := F0 m 21 ls [.int (nI (ph_b u.1 (a + 0))), .int (nI 0)]) rfl ?_
  refine lv_bipush (v := nI 8) hx hb dX2_number_21 (by decide +kernel) ?_
  refine lv_iload hx hb dX2_number_23 (lv_at hl 0 rfl) ?_
  refine hn_imul (v := nI 0) hx hb dX2_number_25 (pk_mul _ _) ?_
  refine hn_ishl (v := nI (ph_b u.1 (a + 0) * 2 ^ 0)) hx hb dX2_number_26 (hm_shl (by decide) (by omega)) ?_
  refine hn_ior (v := nI (0 + ph_b u.1 (a + 0) * 2 ^ 0)) hx hb dX2_number_27 (hm_or (a := 0) (by omega) (by omega)) ?_
  refine lv_istore_n (lv' := [(3, .int (nI (0 + ph_b u.1 (a + 0) * 2 ^ 0))), (4, .int (nI 0)), (0, .ref k0), (1, .long (lN a))]) hx hb dX2_number_28 rfl hl (by decide) rfl (fun ls hl => ?_)
  refine lv_iinc (v := nI 1) (lv' := [(4, .int (nI 1)), (3, .int (nI (0 + ph_b u.1 (a + 0) * 2 ^ 0))), (0, .ref k0), (1, .long (lN a))]) hx hb dX2_number_29 hl (k := 1) rfl (by decide +kernel) (by decide) rfl (fun ls hl => ?_)
  refine lv_goto (tgt := 5) hx hb dX2_number_32 (by decide) ?_
  refine lv_iload hx hb dX2_number_5 (lv_at hl 0 rfl) ?_
  refine lv_iconst (v := nI 4) hx hb dX2_number_7 (by decide +kernel) ?_
  refine hn_ige (a := 1) (b := 4) (tgt := 35) hx hb (by decide) (by decide) dX2_number_8 (by decide) (fun hc => absurd hc (by decide)) (fun _ => ?_)
  refine lv_iload_n hx hb dX2_number_11 rfl (lv_at hl 1 rfl) ?_
  refine lv_aload_n hx hb dX2_number_12 rfl (lv_at hl 2 rfl) ?_
  refine lv_lload_n hx hb dX2_number_13 rfl (lv_at hl 3 rfl) ?_
  refine lv_iload hx hb dX2_number_14 (lv_at hl 0 rfl) ?_
  refine lv_i2l (v := lN 1) hx hb dX2_number_16 (nI_l (by omega)) ?_
  refine hn_ladd (v := lN (a + 1)) hx hb dX2_number_17 (lN_add _ _) ?_
  refine hx_callV (rest := [.int (nI (0 + ph_b u.1 (a + 0) * 2 ^ 0))]) (n := 1) S hw (m_read l hst D tys cB ht k0 k1 u th bf (a + 1) ⟨by omega, by omega⟩) gX2_number_X2_read rfl (by decide +kernel) rfl ⟨Nat.le_of_ble_eq_true rfl, Nat.le_of_ble_eq_true rfl⟩ 0 2 rfl rfl hm_adr hl.1 rfl (Nat.le_of_ble_eq_true rfl) ⟨by decide, by decide⟩ dX2_number_18 (fun H locs hw => ?_)
  refine W.eq (g2 := F0 m 21 ls [.int (nI (ph_b u.1 (a + 1))), .int (nI (0 + ph_b u.1 (a + 0) * 2 ^ 0))]) rfl ?_
  refine lv_bipush (v := nI 8) hx hb dX2_number_21 (by decide +kernel) ?_
  refine lv_iload hx hb dX2_number_23 (lv_at hl 0 rfl) ?_
  refine hn_imul (v := nI 8) hx hb dX2_number_25 (pk_mul _ _) ?_
  refine hn_ishl (v := nI (ph_b u.1 (a + 1) * 2 ^ 8)) hx hb dX2_number_26 (hm_shl (by decide) (by omega)) ?_
  refine hn_ior (v := nI ((0 + ph_b u.1 (a + 0) * 2 ^ 0) + ph_b u.1 (a + 1) * 2 ^ 8)) hx hb dX2_number_27 (hm_or (a := (0 + ph_b u.1 (a + 0) * 2 ^ 0)) (by omega) (by omega)) ?_
  refine lv_istore_n (lv' := [(3, .int (nI ((0 + ph_b u.1 (a + 0) * 2 ^ 0) + ph_b u.1 (a + 1) * 2 ^ 8))), (4, .int (nI 1)), (0, .ref k0), (1, .long (lN a))]) hx hb dX2_number_28 rfl hl (by decide) rfl (fun ls hl => ?_)
  refine lv_iinc (v := nI 2) (lv' := [(4, .int (nI 2)), (3, .int (nI ((0 + ph_b u.1 (a + 0) * 2 ^ 0) + ph_b u.1 (a + 1) * 2 ^ 8))), (0, .ref k0), (1, .long (lN a))]) hx hb dX2_number_29 hl (k := 1) rfl (by decide +kernel) (by decide) rfl (fun ls hl => ?_)
  refine lv_goto (tgt := 5) hx hb dX2_number_32 (by decide) ?_
  refine lv_iload hx hb dX2_number_5 (lv_at hl 0 rfl) ?_
  refine lv_iconst (v := nI 4) hx hb dX2_number_7 (by decide +kernel) ?_
  refine hn_ige (a := 2) (b := 4) (tgt := 35) hx hb (by decide) (by decide) dX2_number_8 (by decide) (fun hc => absurd hc (by decide)) (fun _ => ?_)
  refine lv_iload_n hx hb dX2_number_11 rfl (lv_at hl 1 rfl) ?_
  refine lv_aload_n hx hb dX2_number_12 rfl (lv_at hl 2 rfl) ?_
  refine lv_lload_n hx hb dX2_number_13 rfl (lv_at hl 3 rfl) ?_
  refine lv_iload hx hb dX2_number_14 (lv_at hl 0 rfl) ?_
  refine lv_i2l (v := lN 2) hx hb dX2_number_16 (nI_l (by omega)) ?_
  refine hn_ladd (v := lN (a + 2)) hx hb dX2_number_17 (lN_add _ _) ?_
  refine hx_callV (rest := [.int (nI ((0 + ph_b u.1 (a + 0) * 2 ^ 0) + ph_b u.1 (a + 1) * 2 ^ 8))]) (n := 1) S hw (m_read l hst D tys cB ht k0 k1 u th bf (a + 2) ⟨by omega, by omega⟩) gX2_number_X2_read rfl (by decide +kernel) rfl ⟨Nat.le_of_ble_eq_true rfl, Nat.le_of_ble_eq_true rfl⟩ 0 2 rfl rfl hm_adr hl.1 rfl (Nat.le_of_ble_eq_true rfl) ⟨by decide, by decide⟩ dX2_number_18 (fun H locs hw => ?_)
  refine W.eq (g2 := F0 m 21 ls [.int (nI (ph_b u.1 (a + 2))), .int (nI ((0 + ph_b u.1 (a + 0) * 2 ^ 0) + ph_b u.1 (a + 1) * 2 ^ 8))]) rfl ?_
  refine lv_bipush (v := nI 8) hx hb dX2_number_21 (by decide +kernel) ?_
  refine lv_iload hx hb dX2_number_23 (lv_at hl 0 rfl) ?_
  refine hn_imul (v := nI 16) hx hb dX2_number_25 (pk_mul _ _) ?_
  refine hn_ishl (v := nI (ph_b u.1 (a + 2) * 2 ^ 16)) hx hb dX2_number_26 (hm_shl (by decide) (by omega)) ?_
  refine hn_ior (v := nI (((0 + ph_b u.1 (a + 0) * 2 ^ 0) + ph_b u.1 (a + 1) * 2 ^ 8) + ph_b u.1 (a + 2) * 2 ^ 16)) hx hb dX2_number_27 (hm_or (a := ((0 + ph_b u.1 (a + 0) * 2 ^ 0) + ph_b u.1 (a + 1) * 2 ^ 8)) (by omega) (by omega)) ?_
  refine lv_istore_n (lv' := [(3, .int (nI (((0 + ph_b u.1 (a + 0) * 2 ^ 0) + ph_b u.1 (a + 1) * 2 ^ 8) + ph_b u.1 (a + 2) * 2 ^ 16))), (4, .int (nI 2)), (0, .ref k0), (1, .long (lN a))]) hx hb dX2_number_28 rfl hl (by decide) rfl (fun ls hl => ?_)
  refine lv_iinc (v := nI 3) (lv' := [(4, .int (nI 3)), (3, .int (nI (((0 + ph_b u.1 (a + 0) * 2 ^ 0) + ph_b u.1 (a + 1) * 2 ^ 8) + ph_b u.1 (a + 2) * 2 ^ 16))), (0, .ref k0), (1, .long (lN a))]) hx hb dX2_number_29 hl (k := 1) rfl (by decide +kernel) (by decide) rfl (fun ls hl => ?_)
  refine lv_goto (tgt := 5) hx hb dX2_number_32 (by decide) ?_
  refine lv_iload hx hb dX2_number_5 (lv_at hl 0 rfl) ?_
  refine lv_iconst (v := nI 4) hx hb dX2_number_7 (by decide +kernel) ?_
  refine hn_ige (a := 3) (b := 4) (tgt := 35) hx hb (by decide) (by decide) dX2_number_8 (by decide) (fun hc => absurd hc (by decide)) (fun _ => ?_)
  refine lv_iload_n hx hb dX2_number_11 rfl (lv_at hl 1 rfl) ?_
  refine lv_aload_n hx hb dX2_number_12 rfl (lv_at hl 2 rfl) ?_
  refine lv_lload_n hx hb dX2_number_13 rfl (lv_at hl 3 rfl) ?_
  refine lv_iload hx hb dX2_number_14 (lv_at hl 0 rfl) ?_
  refine lv_i2l (v := lN 3) hx hb dX2_number_16 (nI_l (by omega)) ?_
  refine hn_ladd (v := lN (a + 3)) hx hb dX2_number_17 (lN_add _ _) ?_
  refine hx_callV (rest := [.int (nI (((0 + ph_b u.1 (a + 0) * 2 ^ 0) + ph_b u.1 (a + 1) * 2 ^ 8) + ph_b u.1 (a + 2) * 2 ^ 16))]) (n := 1) S hw (m_read l hst D tys cB ht k0 k1 u th bf (a + 3) ⟨by omega, by omega⟩) gX2_number_X2_read rfl (by decide +kernel) rfl ⟨Nat.le_of_ble_eq_true rfl, Nat.le_of_ble_eq_true rfl⟩ 0 2 rfl rfl hm_adr hl.1 rfl (Nat.le_of_ble_eq_true rfl) ⟨by decide, by decide⟩ dX2_number_18 (fun H locs hw => ?_)
  refine W.eq (g2 := F0 m 21 ls [.int (nI (ph_b u.1 (a + 3))), .int (nI (((0 + ph_b u.1 (a + 0) * 2 ^ 0) + ph_b u.1 (a + 1) * 2 ^ 8) + ph_b u.1 (a + 2) * 2 ^ 16))]) rfl ?_
  refine lv_bipush (v := nI 8) hx hb dX2_number_21 (by decide +kernel) ?_
  refine lv_iload hx hb dX2_number_23 (lv_at hl 0 rfl) ?_
  refine hn_imul (v := nI 24) hx hb dX2_number_25 (pk_mul _ _) ?_
  refine hn_ishl (v := nI (ph_b u.1 (a + 3) * 2 ^ 24)) hx hb dX2_number_26 (hm_shl (by decide) (by omega)) ?_
  refine hn_ior (v := nI ((((0 + ph_b u.1 (a + 0) * 2 ^ 0) + ph_b u.1 (a + 1) * 2 ^ 8) + ph_b u.1 (a + 2) * 2 ^ 16) + ph_b u.1 (a + 3) * 2 ^ 24)) hx hb dX2_number_27 (hm_or (a := (((0 + ph_b u.1 (a + 0) * 2 ^ 0) + ph_b u.1 (a + 1) * 2 ^ 8) + ph_b u.1 (a + 2) * 2 ^ 16)) (by omega) (by omega)) ?_
  refine lv_istore_n (lv' := [(3, .int (nI ((((0 + ph_b u.1 (a + 0) * 2 ^ 0) + ph_b u.1 (a + 1) * 2 ^ 8) + ph_b u.1 (a + 2) * 2 ^ 16) + ph_b u.1 (a + 3) * 2 ^ 24))), (4, .int (nI 3)), (0, .ref k0), (1, .long (lN a))]) hx hb dX2_number_28 rfl hl (by decide) rfl (fun ls hl => ?_)
  refine lv_iinc (v := nI 4) (lv' := [(4, .int (nI 4)), (3, .int (nI ((((0 + ph_b u.1 (a + 0) * 2 ^ 0) + ph_b u.1 (a + 1) * 2 ^ 8) + ph_b u.1 (a + 2) * 2 ^ 16) + ph_b u.1 (a + 3) * 2 ^ 24))), (0, .ref k0), (1, .long (lN a))]) hx hb dX2_number_29 hl (k := 1) rfl (by decide +kernel) (by decide) rfl (fun ls hl => ?_)
  refine lv_goto (tgt := 5) hx hb dX2_number_32 (by decide) ?_
  refine lv_iload hx hb dX2_number_5 (lv_at hl 0 rfl) ?_
  refine lv_iconst (v := nI 4) hx hb dX2_number_7 (by decide +kernel) ?_
  refine hn_ige (a := 4) (b := 4) (tgt := 35) hx hb (by decide) (by decide) dX2_number_8 (by decide) (fun _ => ?_) (fun hc => absurd hc (by decide))
  refine lv_iload_n hx hb dX2_number_35 rfl (lv_at hl 1 rfl) ?_
  rw [show ph_n u.1 a = ((((0 + ph_b u.1 (a + 0) * 2 ^ 0) + ph_b u.1 (a + 1) * 2 ^ 8) + ph_b u.1 (a + 2) * 2 ^ 16) + ph_b u.1 (a + 3) * 2 ^ 24) from by unfold ph_n; show _ = ((((0 + ph_b u.1 (a) * 2 ^ 0) + ph_b u.1 (a + 1) * 2 ^ 8) + ph_b u.1 (a + 2) * 2 ^ 16) + ph_b u.1 (a + 3) * 2 ^ 24); omega]
  exact hx_iret S hr hw dX2_number_36
set_option maxHeartbeats 4000000 in
set_option maxRecDepth 100000 in
theorem m_set (l : Launch) (hst : l.stackTraces = false) (D : va_G) (tys : List (ClassId × FieldType)) (cB : ClassId) (ht : tys[1]? = some (cB, .byte)) (k0 k1 : Nat) (u : ph_H) (th : Int32) (bf : Int64) (a x : Nat) (hx32 : x < 4294967296) (ha : ph_i4 a) : hx_R l D tys yX2_set wsX2_set 7 105 [.ref k0, .long (lN a), .int (nI x)] (hm_W cB k0 k1 u th bf) (hm_W cB k0 k1 (ph_sn u.1 a x, u.2) th bf) (none) := by
  refine hx_R.ofW (cc := cX2_set) (maxL := 5) (ret := none) (by decide) rfl (Nat.le_of_ble_eq_true rfl) ?_
  intro p e s m below meth c A ls hr S hw hl
  have S : hx_S p l s m _ meth c cX2_set 5 wsX2_set RX2 A D tys := S
  obtain ⟨⟨hx, hb, hml, hown, hts⟩, hK, hA, hE, hlk⟩ := id S
  have hl : lv_has ls 5 [(0, .ref k0), (1, .long (lN a)), (3, .int (nI x))] := hl
  refine lv_lload_n hx hb dX2_set_0 rfl (lv_at hl 1 rfl) ?_
  refine hx_callS (rest := []) (n := 1) S hw (m_there l hst D tys cB ht k0 k1 u th bf (a) (by omega)) gX2_set_X2_there rfl (by decide +kernel) rfl ⟨Nat.le_of_ble_eq_true rfl, Nat.le_of_ble_eq_true rfl⟩ hm_adr hl.1 rfl (Nat.le_of_ble_eq_true rfl) ⟨by decide, by decide⟩ dX2_set_1 (fun H locs hw => ?_)
  refine W.eq (g2 := F0 m 4 ls [.int (if ph_in (a) then nI 1 else nI 0)]) rfl ?_
  refine hn_peq (tgt := 18) hx hb dX2_set_4 (by decide) (fun hc => ?_) (fun hc => ?_)
  · exact absurd (⟨ha.1, by omega⟩ : ph_in a) hc
  · refine lv_lload_n hx hb dX2_set_7 rfl (lv_at hl 1 rfl) ?_
    refine lv_ldc2 (v := lN 3) hx hb hown (hts (.constantLong RX2 39 (lN 3)) (by decide +kernel)) dX2_set_8 ?_
    refine hn_ladd (v := lN (a + 3)) hx hb dX2_set_11 (lN_add _ _) ?_
    refine hx_callS (rest := []) (n := 1) S hw (m_there l hst D tys cB ht k0 k1 u th bf (a + 3) (by omega)) gX2_set_X2_there rfl (by decide +kernel) rfl ⟨Nat.le_of_ble_eq_true rfl, Nat.le_of_ble_eq_true rfl⟩ hm_adr hl.1 rfl (Nat.le_of_ble_eq_true rfl) ⟨by decide, by decide⟩ dX2_set_12 (fun H locs hw => ?_)
    refine W.eq (g2 := F0 m 15 ls [.int (if ph_in (a + 3) then nI 1 else nI 0)]) rfl ?_
    refine hn_pne (tgt := 26) hx hb dX2_set_15 (by decide) (fun hc2 => ?_) (fun hc2 => ?_)
    · refine lv_iconst (v := nI 0) hx hb dX2_set_26 (by decide +kernel) ?_
      refine lv_istore (lv' := [(4, .int (nI 0)), (0, .ref k0), (1, .long (lN a)), (3, .int (nI x))]) hx hb dX2_set_27 hl (by decide) rfl (fun ls hl => ?_)
      refine lv_iload hx hb dX2_set_29 (lv_at hl 0 rfl) ?_
      refine lv_iconst (v := nI 4) hx hb dX2_set_31 (by decide +kernel) ?_
      refine hn_ige (a := 0) (b := 4) (tgt := 57) hx hb (by decide) (by decide) dX2_set_32 (by decide) (fun hc => absurd hc (by decide)) (fun _ => ?_)
      refine lv_aload_n hx hb dX2_set_35 rfl (lv_at hl 1 rfl) ?_
      refine lv_lload_n hx hb dX2_set_36 rfl (lv_at hl 2 rfl) ?_
      refine lv_iload hx hb dX2_set_37 (lv_at hl 0 rfl) ?_
      refine lv_i2l (v := lN 0) hx hb dX2_set_39 (nI_l (by omega)) ?_
      refine hn_ladd (v := lN a) hx hb dX2_set_40 (lN_add a 0) ?_
      refine lv_iload_n hx hb dX2_set_41 rfl (lv_at hl 3 rfl) ?_
      refine lv_bipush (v := nI 8) hx hb dX2_set_42 (by decide +kernel) ?_
      refine lv_iload hx hb dX2_set_44 (lv_at hl 0 rfl) ?_
      refine hn_imul (v := nI 0) hx hb dX2_set_46 (pk_mul _ _) ?_
      refine hn_ishr (v := nI x >>> (nI 0 &&& 31)) hx hb dX2_set_47 rfl ?_
      refine hx_callV (rest := []) (n := 2) S hw (m_writeK l hst D tys cB ht k0 k1 u th bf (a) x 0 (x) hx32 (by omega) (by rw [Nat.pow_zero, Nat.div_one]) ⟨by omega, by omega⟩) gX2_set_X2_write rfl (by decide +kernel) rfl ⟨Nat.le_of_ble_eq_true rfl, Nat.le_of_ble_eq_true rfl⟩ 0 2 rfl rfl hm_adr hl.1 rfl (Nat.le_of_ble_eq_true rfl) ⟨by decide, by decide⟩ dX2_set_48 (fun H locs hw => ?_)
      refine W.eq (g2 := F0 m 51 ls []) rfl ?_
      refine lv_iinc (v := nI 1) (lv' := [(4, .int (nI 1)), (0, .ref k0), (1, .long (lN a)), (3, .int (nI x))]) hx hb dX2_set_51 hl (k := 0) rfl (by decide +kernel) (by decide) rfl (fun ls hl => ?_)
      refine lv_goto (tgt := 29) hx hb dX2_set_54 (by decide) ?_
      refine lv_iload hx hb dX2_set_29 (lv_at hl 0 rfl) ?_
      refine lv_iconst (v := nI 4) hx hb dX2_set_31 (by decide +kernel) ?_
      refine hn_ige (a := 1) (b := 4) (tgt := 57) hx hb (by decide) (by decide) dX2_set_32 (by decide) (fun hc => absurd hc (by decide)) (fun _ => ?_)
      refine lv_aload_n hx hb dX2_set_35 rfl (lv_at hl 1 rfl) ?_
      refine lv_lload_n hx hb dX2_set_36 rfl (lv_at hl 2 rfl) ?_
      refine lv_iload hx hb dX2_set_37 (lv_at hl 0 rfl) ?_
      refine lv_i2l (v := lN 1) hx hb dX2_set_39 (nI_l (by omega)) ?_
      refine hn_ladd (v := lN (a + 1)) hx hb dX2_set_40 (lN_add _ _) ?_
      refine lv_iload_n hx hb dX2_set_41 rfl (lv_at hl 3 rfl) ?_
      refine lv_bipush (v := nI 8) hx hb dX2_set_42 (by decide +kernel) ?_
      refine lv_iload hx hb dX2_set_44 (lv_at hl 0 rfl) ?_
      refine hn_imul (v := nI 8) hx hb dX2_set_46 (pk_mul _ _) ?_
      refine hn_ishr (v := nI x >>> (nI 8 &&& 31)) hx hb dX2_set_47 rfl ?_
      refine hx_callV (rest := []) (n := 2) S hw (m_writeK l hst D tys cB ht k0 k1 (ph_sb u.1 a x, u.2) th bf (a + 1) x 8 (x / 256) hx32 (by omega) (by rw [show (2 : Nat) ^ 8 = 256 from rfl]) ⟨by omega, by omega⟩) gX2_set_X2_write rfl (by decide +kernel) rfl ⟨Nat.le_of_ble_eq_true rfl, Nat.le_of_ble_eq_true rfl⟩ 0 2 rfl rfl hm_adr hl.1 rfl (Nat.le_of_ble_eq_true rfl) ⟨by decide, by decide⟩ dX2_set_48 (fun H locs hw => ?_)
      refine W.eq (g2 := F0 m 51 ls []) rfl ?_
      refine lv_iinc (v := nI 2) (lv' := [(4, .int (nI 2)), (0, .ref k0), (1, .long (lN a)), (3, .int (nI x))]) hx hb dX2_set_51 hl (k := 0) rfl (by decide +kernel) (by decide) rfl (fun ls hl => ?_)
      refine lv_goto (tgt := 29) hx hb dX2_set_54 (by decide) ?_
      refine lv_iload hx hb dX2_set_29 (lv_at hl 0 rfl) ?_
      refine lv_iconst (v := nI 4) hx hb dX2_set_31 (by decide +kernel) ?_
      refine hn_ige (a := 2) (b := 4) (tgt := 57) hx hb (by decide) (by decide) dX2_set_32 (by decide) (fun hc => absurd hc (by decide)) (fun _ => ?_)
      refine lv_aload_n hx hb dX2_set_35 rfl (lv_at hl 1 rfl) ?_
      refine lv_lload_n hx hb dX2_set_36 rfl (lv_at hl 2 rfl) ?_
      refine lv_iload hx hb dX2_set_37 (lv_at hl 0 rfl) ?_
      refine lv_i2l (v := lN 2) hx hb dX2_set_39 (nI_l (by omega)) ?_
      refine hn_ladd (v := lN (a + 2)) hx hb dX2_set_40 (lN_add _ _) ?_
      refine lv_iload_n hx hb dX2_set_41 rfl (lv_at hl 3 rfl) ?_
      refine lv_bipush (v := nI 8) hx hb dX2_set_42 (by decide +kernel) ?_
      refine lv_iload hx hb dX2_set_44 (lv_at hl 0 rfl) ?_
      refine hn_imul (v := nI 16) hx hb dX2_set_46 (pk_mul _ _) ?_
      refine hn_ishr (v := nI x >>> (nI 16 &&& 31)) hx hb dX2_set_47 rfl ?_
      refine hx_callV (rest := []) (n := 2) S hw (m_writeK l hst D tys cB ht k0 k1 (ph_sb (ph_sb u.1 a x) (a + 1) (x / 256), u.2) th bf (a + 2) x 16 (x / 65536) hx32 (by omega) (by rw [show (2 : Nat) ^ 16 = 65536 from rfl]) ⟨by omega, by omega⟩) gX2_set_X2_write rfl (by decide +kernel) rfl ⟨Nat.le_of_ble_eq_true rfl, Nat.le_of_ble_eq_true rfl⟩ 0 2 rfl rfl hm_adr hl.1 rfl (Nat.le_of_ble_eq_true rfl) ⟨by decide, by decide⟩ dX2_set_48 (fun H locs hw => ?_)
      refine W.eq (g2 := F0 m 51 ls []) rfl ?_
      refine lv_iinc (v := nI 3) (lv' := [(4, .int (nI 3)), (0, .ref k0), (1, .long (lN a)), (3, .int (nI x))]) hx hb dX2_set_51 hl (k := 0) rfl (by decide +kernel) (by decide) rfl (fun ls hl => ?_)
      refine lv_goto (tgt := 29) hx hb dX2_set_54 (by decide) ?_
      refine lv_iload hx hb dX2_set_29 (lv_at hl 0 rfl) ?_
      refine lv_iconst (v := nI 4) hx hb dX2_set_31 (by decide +kernel) ?_
      refine hn_ige (a := 3) (b := 4) (tgt := 57) hx hb (by decide) (by decide) dX2_set_32 (by decide) (fun hc => absurd hc (by decide)) (fun _ => ?_)
      refine lv_aload_n hx hb dX2_set_35 rfl (lv_at hl 1 rfl) ?_
      refine lv_lload_n hx hb dX2_set_36 rfl (lv_at hl 2 rfl) ?_
      refine lv_iload hx hb dX2_set_37 (lv_at hl 0 rfl) ?_
      refine lv_i2l (v := lN 3) hx hb dX2_set_39 (nI_l (by omega)) ?_
      refine hn_ladd (v := lN (a + 3)) hx hb dX2_set_40 (lN_add _ _) ?_
      refine lv_iload_n hx hb dX2_set_41 rfl (lv_at hl 3 rfl) ?_
      refine lv_bipush (v := nI 8) hx hb dX2_set_42 (by decide +kernel) ?_
      refine lv_iload hx hb dX2_set_44 (lv_at hl 0 rfl) ?_
      refine hn_imul (v := nI 24) hx hb dX2_set_46 (pk_mul _ _) ?_
      refine hn_ishr (v := nI x >>> (nI 24 &&& 31)) hx hb dX2_set_47 rfl ?_
      refine hx_callV (rest := []) (n := 2) S hw (m_writeK l hst D tys cB ht k0 k1 (ph_sb (ph_sb (ph_sb u.1 a x) (a + 1) (x / 256)) (a + 2) (x / 65536), u.2) th bf (a + 3) x 24 (x / 16777216) hx32 (by omega) (by rw [show (2 : Nat) ^ 24 = 16777216 from rfl]) ⟨by omega, by omega⟩) gX2_set_X2_write rfl (by decide +kernel) rfl ⟨Nat.le_of_ble_eq_true rfl, Nat.le_of_ble_eq_true rfl⟩ 0 2 rfl rfl hm_adr hl.1 rfl (Nat.le_of_ble_eq_true rfl) ⟨by decide, by decide⟩ dX2_set_48 (fun H locs hw => ?_)
      refine W.eq (g2 := F0 m 51 ls []) rfl ?_
      refine lv_iinc (v := nI 4) (lv' := [(4, .int (nI 4)), (0, .ref k0), (1, .long (lN a)), (3, .int (nI x))]) hx hb dX2_set_51 hl (k := 0) rfl (by decide +kernel) (by decide) rfl (fun ls hl => ?_)
      refine lv_goto (tgt := 29) hx hb dX2_set_54 (by decide) ?_
      refine lv_iload hx hb dX2_set_29 (lv_at hl 0 rfl) ?_
      refine lv_iconst (v := nI 4) hx hb dX2_set_31 (by decide +kernel) ?_
      refine hn_ige (a := 4) (b := 4) (tgt := 57) hx hb (by decide) (by decide) dX2_set_32 (by decide) (fun _ => ?_) (fun hc => absurd hc (by decide))
      exact hx_vret S hr hw dX2_set_57
    · exact absurd (⟨by omega, ha.2⟩ : ph_in (a + 3)) hc2
set_option maxHeartbeats 4000000 in
set_option maxRecDepth 100000 in
theorem mx_set (l : Launch) (hst : l.stackTraces = false) (D : va_G) (tys : List (ClassId × FieldType)) (cB : ClassId) (ht : tys[1]? = some (cB, .byte)) (k0 k1 : Nat) (u : ph_H) (th : Int32) (bf : Int64) (a x : Nat) (hb62 : a < 4611686018427387904) (ha : ¬ ph_i4 a) : hx_X l D tys yX2_set wsX2_set 7 105 [.ref k0, .long (lN a), .int (nI x)] (hm_W cB k0 k1 u th bf) (hm_W cB k0 k1 u th bf) := by
  refine hx_X.ofW (cc := cX2_set) (maxL := 5) (ret := none) (by decide) rfl (Nat.le_of_ble_eq_true rfl) ?_
  intro p e s m below meth c A ls hr S hno hw hl
  have S : hx_S p l s m _ meth c cX2_set 5 wsX2_set RX2 A D tys := S
  obtain ⟨⟨hx, hb, hml, hown, hts⟩, hK, hA, hE, hlk⟩ := id S
  have hl : lv_has ls 5 [(0, .ref k0), (1, .long (lN a)), (3, .int (nI x))] := hl
  refine lv_lload_n hx hb dX2_set_0 rfl (lv_at hl 1 rfl) ?_
  refine hx_callS (rest := []) (n := 1) S hw (m_there l hst D tys cB ht k0 k1 u th bf (a) (by omega)) gX2_set_X2_there rfl (by decide +kernel) rfl ⟨Nat.le_of_ble_eq_true rfl, Nat.le_of_ble_eq_true rfl⟩ hm_adr hl.1 rfl (Nat.le_of_ble_eq_true rfl) ⟨by decide, by decide⟩ dX2_set_1 (fun H locs hw => ?_)
  refine W.eq (g2 := F0 m 4 ls [.int (if ph_in (a) then nI 1 else nI 0)]) rfl ?_
  refine hn_peq (tgt := 18) hx hb dX2_set_4 (by decide) (fun hc => ?_) (fun hc => ?_)
  · exact hx_new0 S hst hno hw (List.mem_of_getElem? (i := 1) rfl) (List.mem_of_getElem? (i := 2) rfl) (fun w h => List.mem_cons_of_mem _ (List.mem_append_right _ h)) tb_M to_M hl.1 dX2_set_18 dX2_set_21 dX2_set_22 dX2_set_25 ⟨by decide, by decide, by decide, by decide⟩
  · refine lv_lload_n hx hb dX2_set_7 rfl (lv_at hl 1 rfl) ?_
    refine lv_ldc2 (v := lN 3) hx hb hown (hts (.constantLong RX2 39 (lN 3)) (by decide +kernel)) dX2_set_8 ?_
    refine hn_ladd (v := lN (a + 3)) hx hb dX2_set_11 (lN_add _ _) ?_
    refine hx_callS (rest := []) (n := 1) S hw (m_there l hst D tys cB ht k0 k1 u th bf (a + 3) (by omega)) gX2_set_X2_there rfl (by decide +kernel) rfl ⟨Nat.le_of_ble_eq_true rfl, Nat.le_of_ble_eq_true rfl⟩ hm_adr hl.1 rfl (Nat.le_of_ble_eq_true rfl) ⟨by decide, by decide⟩ dX2_set_12 (fun H locs hw => ?_)
    refine W.eq (g2 := F0 m 15 ls [.int (if ph_in (a + 3) then nI 1 else nI 0)]) rfl ?_
    refine hn_pne (tgt := 26) hx hb dX2_set_15 (by decide) (fun hc2 => ?_) (fun hc2 => ?_)
    · exact absurd (⟨hc.1, hc2.2⟩ : ph_i4 a) ha
    · exact hx_new0 S hst hno hw (List.mem_of_getElem? (i := 1) rfl) (List.mem_of_getElem? (i := 2) rfl) (fun w h => List.mem_cons_of_mem _ (List.mem_append_right _ h)) tb_M to_M hl.1 dX2_set_18 dX2_set_21 dX2_set_22 dX2_set_25 ⟨by decide, by decide, by decide, by decide⟩
set_option maxHeartbeats 4000000 in
set_option maxRecDepth 100000 in
theorem m_sizeAt (l : Launch) (hst : l.stackTraces = false) (D : va_G) (tys : List (ClassId × FieldType)) (cB : ClassId) (ht : tys[1]? = some (cB, .byte)) (k0 k1 : Nat) (u : ph_H) (th : Int32) (bf : Int64) (a : Nat) (ha : ph_i4 a) : hx_R l D tys yX2_sizeAt wsX2_sizeAt 8 128 [.ref k0, .long (lN a)] (hm_W cB k0 k1 u th bf) (hm_W cB k0 k1 u th bf) (some (.long (lN (ph_n u.1 a)))) := by
  refine hx_R.ofW (cc := cX2_sizeAt) (maxL := 3) (ret := (some .long)) (by decide) rfl (Nat.le_of_ble_eq_true rfl) ?_
  intro p e s m below meth c A ls hr S hw hl
  have S : hx_S p l s m _ meth c cX2_sizeAt 3 wsX2_sizeAt RX2 A D tys := S
  obtain ⟨⟨hx, hb, hml, hown, hts⟩, hK, hA, hE, hlk⟩ := id S
  have hl : lv_has ls 3 [(0, .ref k0), (1, .long (lN a))] := hl
  refine lv_aload_n hx hb dX2_sizeAt_0 rfl (lv_at hl 0 rfl) ?_
  refine lv_lload_n hx hb dX2_sizeAt_1 rfl (lv_at hl 1 rfl) ?_
  refine hx_callV (rest := []) (n := 1) S hw (m_number l hst D tys cB ht k0 k1 u th bf a ha) gX2_sizeAt_X2_number rfl (by decide +kernel) rfl ⟨Nat.le_of_ble_eq_true rfl, Nat.le_of_ble_eq_true rfl⟩ 0 2 rfl rfl hm_adr hl.1 rfl (Nat.le_of_ble_eq_true rfl) ⟨by decide, by decide⟩ dX2_sizeAt_2 (fun H locs hw => ?_)
  refine W.eq (g2 := F0 m 5 ls [.int (nI (ph_n u.1 a))]) rfl ?_
  refine hx_callS (rest := []) (n := 1) S hw (m_without l hst D tys cB ht k0 k1 u th bf (ph_n u.1 a) (ph_n_lt u.1 a)) gX2_sizeAt_X2_without rfl (by decide +kernel) rfl ⟨Nat.le_of_ble_eq_true rfl, Nat.le_of_ble_eq_true rfl⟩ hm_adr hl.1 rfl (Nat.le_of_ble_eq_true rfl) ⟨by decide, by decide⟩ dX2_sizeAt_5 (fun H locs hw => ?_)
  refine W.eq (g2 := F0 m 8 ls [.long (lN (ph_n u.1 a))]) rfl ?_
  exact hx_lret S hr hw dX2_sizeAt_8
set_option maxHeartbeats 4000000 in
set_option maxRecDepth 100000 in
theorem m_takenAt (l : Launch) (hst : l.stackTraces = false) (D : va_G) (tys : List (ClassId × FieldType)) (cB : ClassId) (ht : tys[1]? = some (cB, .byte)) (k0 k1 : Nat) (u : ph_H) (th : Int32) (bf : Int64) (a : Nat) (ha : ph_i4 (a + 4)) : hx_R l D tys yX2_takenAt wsX2_takenAt 8 128 [.ref k0, .long (lN a)] (hm_W cB k0 k1 u th bf) (hm_W cB k0 k1 u th bf) (some (.int (if ph_n u.1 (a + 4) = 1 then nI 1 else nI 0))) := by
  refine hx_R.ofW (cc := cX2_takenAt) (maxL := 3) (ret := (some .boolean)) (by decide) rfl (Nat.le_of_ble_eq_true rfl) ?_
  intro p e s m below meth c A ls hr S hw hl
  have S : hx_S p l s m _ meth c cX2_takenAt 3 wsX2_takenAt RX2 A D tys := S
  obtain ⟨⟨hx, hb, hml, hown, hts⟩, hK, hA, hE, hlk⟩ := id S
  have hl : lv_has ls 3 [(0, .ref k0), (1, .long (lN a))] := hl
  refine lv_aload_n hx hb dX2_takenAt_0 rfl (lv_at hl 0 rfl) ?_
  refine lv_lload_n hx hb dX2_takenAt_1 rfl (lv_at hl 1 rfl) ?_
  refine lv_ldc2 (v := lN 4) hx hb hown (hts (.constantLong RX2 54 (lN 4)) (by decide +kernel)) dX2_takenAt_2 ?_
  refine hn_ladd (v := lN (a + 4)) hx hb dX2_takenAt_5 (lN_add _ _) ?_
  refine hx_callV (rest := []) (n := 1) S hw (m_number l hst D tys cB ht k0 k1 u th bf (a + 4) ha) gX2_takenAt_X2_number rfl (by decide +kernel) rfl ⟨Nat.le_of_ble_eq_true rfl, Nat.le_of_ble_eq_true rfl⟩ 0 2 rfl rfl hm_adr hl.1 rfl (Nat.le_of_ble_eq_true rfl) ⟨by decide, by decide⟩ dX2_takenAt_6 (fun H locs hw => ?_)
  refine W.eq (g2 := F0 m 9 ls [.int (nI (ph_n u.1 (a + 4)))]) rfl ?_
  refine lv_iconst (v := nI 1) hx hb dX2_takenAt_9 (by decide +kernel) ?_
  refine lv_icmp_ne (tgt := 17) hx hb dX2_takenAt_10 (by decide) (fun hc => ?_) (fun hc => ?_)
  · rw [if_neg (fun z => hc (by rw [z]))]
    refine lv_iconst (v := nI 0) hx hb dX2_takenAt_17 (by decide +kernel) ?_
    exact hx_zret S hr rfl hw dX2_takenAt_18
  · rw [if_pos ((hm_eq (ph_n_lt u.1 (a + 4)) (by decide)).mp hc)]
    refine lv_iconst (v := nI 1) hx hb dX2_takenAt_13 (by decide +kernel) ?_
    refine lv_goto (tgt := 18) hx hb dX2_takenAt_14 (by decide) ?_
    exact hx_zret S hr rfl hw dX2_takenAt_18
end
section
/-! HeapRowModel: found, take -/
set_option maxHeartbeats 4000000 in
set_option maxRecDepth 100000 in
theorem m_found (l : Launch) (hst : l.stackTraces = false) (D : va_G) (tys : List (ClassId × FieldType)) (cB : ClassId) (ht : tys[1]? = some (cB, .byte)) (k0 k1 : Nat) (u : ph_H) (th : Int32) (bf : Int64) (a b p0 : Nat) (hu : ph_I u) (ha : a < 4294967296) (hq0 : ph_fd u.1 u.2.1 a 8064 0 1024 = some (b, p0)) : hx_R l D tys yX2_found wsX2_found 9 150 [.ref k0, .int (nI a)] (hm_W cB k0 k1 u th bf) (hm_W cB k0 k1 u th (hm_bf p0)) (some (.long (lN b))) := by
  refine hx_R.ofW (cc := cX2_found) (maxL := 7) (ret := (some .long)) (by decide) rfl (Nat.le_of_ble_eq_true rfl) ?_
  intro p e s m below meth c A ls hr S hw hl
  have S : hx_S p l s m _ meth c cX2_found 7 wsX2_found RX2 A D tys := S
  obtain ⟨⟨hx, hb, hml, hown, hts⟩, hK, hA, hE, hlk⟩ := id S
  have hi2 : ∀ w ∈ wsX20, w ∈ wsX2_found := by decide +kernel
  have hl : lv_has ls 7 [(0, .ref k0), (1, .int (nI a))] := hl
  obtain ⟨i1, i2, i3, i4⟩ := hu
  refine lv_aload_n hx hb dX2_found_0 rfl (lv_at hl 0 rfl) ?_
  refine lv_ldc2 (v := (-1)) hx hb hown (hts (.constantLong RX2 56 (-1)) (by decide +kernel)) dX2_found_1 ?_
  refine va_put (D := D) (ci := 2) (v := .long ((-1))) (ty := .long) (C := RX2) (T := TX2) (N := 5) hx hb hts hi2 tyX2 tyX2_ok nmX2 hown hK hw.1 hw.2.1 hw.2.2 0 rfl rfl 4 (by decide) (hts (.fieldLink RX2 58 "HeapRowModel" "before" "J") (by decide +kernel)) (fun _ h9 => h9) rfl (by decide +kernel) rfl rfl (Nat.le_of_ble_eq_true rfl) dX2_found_4 (fun H locs y1 y2 y3 => ?_)
  have hw : hx_w D A s.heap (hm_W cB k0 k1 u th (-1)) H locs := ⟨y1, y2, y3⟩
  have hw : hx_w D A s.heap (hm_W cB k0 k1 u th (hm_bf 0)) H locs := hw
  refine lv_ldc2 (v := lN 1024) hx hb hown (hts (.constantLong RX2 24 (lN 1024)) (by decide +kernel)) dX2_found_7 ?_
  refine lv_lstore_n (lv' := [(2, .long (lN 1024)), (0, .ref k0), (1, .int (nI a))]) hx hb dX2_found_10 rfl hl (by decide) rfl (fun ls hl => ?_)
  have loop : ∀ (f pv x : Nat) (H : Heap) (locs : List Loc) (ls : Array Slot), u.2.1 ≤ x + 8 * f → 1024 ≤ x → x < 17179869184 → hx_w D A s.heap (hm_W cB k0 k1 u th (hm_bf pv)) H locs → lv_has ls 7 [(2, .long (lN x)), (0, .ref k0), (1, .int (nI a))] → ph_fd u.1 u.2.1 a f pv x = some (b, p0) → W p l e { frames := 9, cells := 0, slots := 0, locals := 150 } s m ([.ref k0, .int (nI a)] : List Value).toArray below meth c H locs 0 0 (MQ below (hx_Q D A (hm_W cB k0 k1 u th (hm_bf p0)) (some (.long (lN b)))) ([.ref k0, .int (nI a)] : List Value).toArray s 0 0 A) (F0 m 11 ls []) := by
    intro f
    induction f with
    | zero =>
      intro pv x H locs ls hk gb1 gb2 hw hl hq
      cases hq
    | succ f ih =>
      intro pv x H locs ls hk gb1 gb2 hw hl hq
      have gn := ph_n_lt u.1 x
      unfold ph_fd at hq
      refine lv_lload_n hx hb dX2_found_11 rfl (lv_at hl 0 rfl) ?_
      refine lv_aload_n hx hb dX2_found_12 rfl (lv_at hl 1 rfl) ?_
      refine va_get (D := D) (ci := 2) (v := .int (nI u.2.1)) (C := RX2) (T := TX2) (N := 5) hx hb hts hi2 hown hK hw.1 0 rfl rfl 1 (by decide) (hts (.fieldLink RX2 14 "HeapRowModel" "end" "I") (by decide +kernel)) (fun _ h9 => h9) rfl dX2_found_13 ?_
      refine lv_i2l (v := lN u.2.1) hx hb dX2_found_16 (nI_l (by omega)) ?_
      refine hn_lge (a := x) (b := u.2.1) (tgt := 72) hx hb (by omega) (by omega) dX2_found_17 dX2_found_18 (by decide) (fun hc => ?_) (fun hc => ?_)
      · rw [if_neg (by omega)] at hq
        cases hq
      · refine lv_aload_n hx hb dX2_found_21 rfl (lv_at hl 1 rfl) ?_
        refine lv_lload_n hx hb dX2_found_22 rfl (lv_at hl 0 rfl) ?_
        refine hx_callV (rest := []) (n := 1) S hw (m_sizeAt l hst D tys cB ht k0 k1 u th (hm_bf pv) x ⟨by omega, by omega⟩) gX2_found_X2_sizeAt rfl (by decide +kernel) rfl ⟨Nat.le_of_ble_eq_true rfl, Nat.le_of_ble_eq_true rfl⟩ 0 2 rfl rfl hm_adr hl.1 rfl (Nat.le_of_ble_eq_true rfl) ⟨by decide, by decide⟩ dX2_found_23 (fun H locs hw => ?_)
        refine W.eq (g2 := F0 m 26 ls [.long (lN (ph_n u.1 x))]) rfl ?_
        refine lv_lstore (lv' := [(4, .long (lN (ph_n u.1 x))), (2, .long (lN x)), (0, .ref k0), (1, .int (nI a))]) hx hb dX2_found_26 hl (by decide) rfl (fun ls hl => ?_)
        refine lv_aload_n hx hb dX2_found_28 rfl (lv_at hl 2 rfl) ?_
        refine lv_lload_n hx hb dX2_found_29 rfl (lv_at hl 1 rfl) ?_
        refine hx_callV (rest := []) (n := 1) S hw (m_takenAt l hst D tys cB ht k0 k1 u th (hm_bf pv) x ⟨by omega, by omega⟩) gX2_found_X2_takenAt rfl (by decide +kernel) rfl ⟨Nat.le_of_ble_eq_true rfl, Nat.le_of_ble_eq_true rfl⟩ 0 2 rfl rfl hm_adr hl.1 rfl (Nat.le_of_ble_eq_true rfl) ⟨by decide, by decide⟩ dX2_found_30 (fun H locs hw => ?_)
        refine W.eq (g2 := F0 m 33 ls [.int (if ph_n u.1 (x + 4) = 1 then nI 1 else nI 0)]) rfl ?_
        refine lv_istore (lv' := [(6, .int (if ph_n u.1 (x + 4) = 1 then nI 1 else nI 0)), (4, .long (lN (ph_n u.1 x))), (2, .long (lN x)), (0, .ref k0), (1, .int (nI a))]) hx hb dX2_found_33 hl (by decide) rfl (fun ls hl => ?_)
        refine lv_lload_n hx hb dX2_found_35 rfl (lv_at hl 2 rfl) ?_
        refine lv_ldc2 (v := lN 8) hx hb hown (hts (.constantLong RX2 69 (lN 8)) (by decide +kernel)) dX2_found_36 ?_
        refine hn_ladd (v := lN (x + 8)) hx hb dX2_found_39 (lN_add _ _) ?_
        refine lv_iload_n hx hb dX2_found_40 rfl (lv_at hl 4 rfl) ?_
        refine hx_callS (rest := [.long (lN (x + 8))]) (n := 1) S hw (m_without l hst D tys cB ht k0 k1 u th (hm_bf pv) a ha) gX2_found_X2_without rfl (by decide +kernel) rfl ⟨Nat.le_of_ble_eq_true rfl, Nat.le_of_ble_eq_true rfl⟩ hm_adr hl.1 rfl (Nat.le_of_ble_eq_true rfl) ⟨by decide, by decide⟩ dX2_found_41 (fun H locs hw => ?_)
        refine W.eq (g2 := F0 m 44 ls [.long (lN a), .long (lN (x + 8))]) rfl ?_
        refine hn_lne (a := (x + 8)) (b := a) (tgt := 55) hx hb (by omega) (by omega) dX2_found_44 dX2_found_45 (by decide) (fun hc2 => ?_) (fun hc2 => ?_)
        · rw [if_pos hc, if_neg (fun z => hc2 z.1)] at hq
          refine lv_aload_n hx hb dX2_found_55 rfl (lv_at hl 3 rfl) ?_
          refine lv_lload_n hx hb dX2_found_56 rfl (lv_at hl 2 rfl) ?_
          refine va_put (D := D) (ci := 2) (v := .long (lN x)) (ty := .long) (C := RX2) (T := TX2) (N := 5) hx hb hts hi2 tyX2 tyX2_ok nmX2 hown hK hw.1 hw.2.1 hw.2.2 0 rfl rfl 4 (by decide) (hts (.fieldLink RX2 58 "HeapRowModel" "before" "J") (by decide +kernel)) (fun _ h9 => h9) rfl (by decide +kernel) rfl rfl (Nat.le_of_ble_eq_true rfl) dX2_found_57 (fun H locs y1 y2 y3 => ?_)
          have hw : hx_w D A s.heap (hm_W cB k0 k1 u th (lN x)) H locs := ⟨y1, y2, y3⟩
          have ex : lN x = hm_bf x := (if_neg (by omega)).symm
          rw [ex] at hw
          refine lv_lload_n hx hb dX2_found_60 rfl (lv_at hl 2 rfl) ?_
          refine lv_ldc2 (v := lN 8) hx hb hown (hts (.constantLong RX2 69 (lN 8)) (by decide +kernel)) dX2_found_61 ?_
          refine hn_ladd (v := lN (x + 8)) hx hb dX2_found_64 (lN_add _ _) ?_
          refine lv_lload hx hb dX2_found_65 (lv_at hl 1 rfl) ?_
          refine hn_ladd (v := lN ((x + 8) + (ph_n u.1 x))) hx hb dX2_found_67 (lN_add _ _) ?_
          refine lv_lstore_n (lv' := [(2, .long (lN ((x + 8) + (ph_n u.1 x)))), (6, .int (if ph_n u.1 (x + 4) = 1 then nI 1 else nI 0)), (4, .long (lN (ph_n u.1 x))), (0, .ref k0), (1, .int (nI a))]) hx hb dX2_found_68 rfl hl (by decide) rfl (fun ls hl => ?_)
          refine lv_goto (tgt := 11) hx hb dX2_found_69 (by decide) ?_
          exact ih x (x + 8 + ph_n u.1 x) _ _ _ (by omega) (by omega) (by omega) hw (lv_sub hl [0, 3, 4] rfl) hq
        · refine lv_iload hx hb dX2_found_48 (lv_at hl 0 rfl) ?_
          refine hn_peq (tgt := 55) hx hb dX2_found_50 (by decide) (fun hc3 => ?_) (fun hc3 => ?_)
          · rw [if_pos hc, if_neg (fun z => hc3 z.2)] at hq
            refine lv_aload_n hx hb dX2_found_55 rfl (lv_at hl 3 rfl) ?_
            refine lv_lload_n hx hb dX2_found_56 rfl (lv_at hl 2 rfl) ?_
            refine va_put (D := D) (ci := 2) (v := .long (lN x)) (ty := .long) (C := RX2) (T := TX2) (N := 5) hx hb hts hi2 tyX2 tyX2_ok nmX2 hown hK hw.1 hw.2.1 hw.2.2 0 rfl rfl 4 (by decide) (hts (.fieldLink RX2 58 "HeapRowModel" "before" "J") (by decide +kernel)) (fun _ h9 => h9) rfl (by decide +kernel) rfl rfl (Nat.le_of_ble_eq_true rfl) dX2_found_57 (fun H locs y1 y2 y3 => ?_)
            have hw : hx_w D A s.heap (hm_W cB k0 k1 u th (lN x)) H locs := ⟨y1, y2, y3⟩
            have ex : lN x = hm_bf x := (if_neg (by omega)).symm
            rw [ex] at hw
            refine lv_lload_n hx hb dX2_found_60 rfl (lv_at hl 2 rfl) ?_
            refine lv_ldc2 (v := lN 8) hx hb hown (hts (.constantLong RX2 69 (lN 8)) (by decide +kernel)) dX2_found_61 ?_
            refine hn_ladd (v := lN (x + 8)) hx hb dX2_found_64 (lN_add _ _) ?_
            refine lv_lload hx hb dX2_found_65 (lv_at hl 1 rfl) ?_
            refine hn_ladd (v := lN ((x + 8) + (ph_n u.1 x))) hx hb dX2_found_67 (lN_add _ _) ?_
            refine lv_lstore_n (lv' := [(2, .long (lN ((x + 8) + (ph_n u.1 x)))), (6, .int (if ph_n u.1 (x + 4) = 1 then nI 1 else nI 0)), (4, .long (lN (ph_n u.1 x))), (0, .ref k0), (1, .int (nI a))]) hx hb dX2_found_68 rfl hl (by decide) rfl (fun ls hl => ?_)
            refine lv_goto (tgt := 11) hx hb dX2_found_69 (by decide) ?_
            exact ih x (x + 8 + ph_n u.1 x) _ _ _ (by omega) (by omega) (by omega) hw (lv_sub hl [0, 3, 4] rfl) hq
          · rw [if_pos hc, if_pos ⟨hc2, hc3⟩] at hq
            cases hq
            refine lv_lload_n hx hb dX2_found_53 rfl (lv_at hl 2 rfl) ?_
            exact hx_lret S hr hw dX2_found_54
  exact loop 8064 0 1024 _ _ _ (by omega) (by decide) (by decide) hw (lv_sub hl [0, 1, 2] rfl) hq0
set_option maxHeartbeats 4000000 in
set_option maxRecDepth 100000 in
theorem mx_found (l : Launch) (hst : l.stackTraces = false) (D : va_G) (tys : List (ClassId × FieldType)) (cB : ClassId) (ht : tys[1]? = some (cB, .byte)) (k0 k1 : Nat) (u : ph_H) (th : Int32) (bf : Int64) (a z : Nat) (hu : ph_I u) (ha : a < 4294967296) (hz0 : ph_bb u.1 u.2.1 8064 0 1024 = z) (hq0 : ph_fd u.1 u.2.1 a 8064 0 1024 = none) : hx_X l D tys yX2_found wsX2_found 9 150 [.ref k0, .int (nI a)] (hm_W cB k0 k1 u th bf) (hm_W cB k0 k1 u th (hm_bf z)) := by
  refine hx_X.ofW (cc := cX2_found) (maxL := 7) (ret := (some .long)) (by decide) rfl (Nat.le_of_ble_eq_true rfl) ?_
  intro p e s m below meth c A ls hr S hno hw hl
  have S : hx_S p l s m _ meth c cX2_found 7 wsX2_found RX2 A D tys := S
  obtain ⟨⟨hx, hb, hml, hown, hts⟩, hK, hA, hE, hlk⟩ := id S
  have hi2 : ∀ w ∈ wsX20, w ∈ wsX2_found := by decide +kernel
  have hl : lv_has ls 7 [(0, .ref k0), (1, .int (nI a))] := hl
  obtain ⟨i1, i2, i3, i4⟩ := hu
  refine lv_aload_n hx hb dX2_found_0 rfl (lv_at hl 0 rfl) ?_
  refine lv_ldc2 (v := (-1)) hx hb hown (hts (.constantLong RX2 56 (-1)) (by decide +kernel)) dX2_found_1 ?_
  refine va_put (D := D) (ci := 2) (v := .long ((-1))) (ty := .long) (C := RX2) (T := TX2) (N := 5) hx hb hts hi2 tyX2 tyX2_ok nmX2 hown hK hw.1 hw.2.1 hw.2.2 0 rfl rfl 4 (by decide) (hts (.fieldLink RX2 58 "HeapRowModel" "before" "J") (by decide +kernel)) (fun _ h9 => h9) rfl (by decide +kernel) rfl rfl (Nat.le_of_ble_eq_true rfl) dX2_found_4 (fun H locs y1 y2 y3 => ?_)
  have hw : hx_w D A s.heap (hm_W cB k0 k1 u th (-1)) H locs := ⟨y1, y2, y3⟩
  have hw : hx_w D A s.heap (hm_W cB k0 k1 u th (hm_bf 0)) H locs := hw
  refine lv_ldc2 (v := lN 1024) hx hb hown (hts (.constantLong RX2 24 (lN 1024)) (by decide +kernel)) dX2_found_7 ?_
  refine lv_lstore_n (lv' := [(2, .long (lN 1024)), (0, .ref k0), (1, .int (nI a))]) hx hb dX2_found_10 rfl hl (by decide) rfl (fun ls hl => ?_)
  have loop : ∀ (f pv x : Nat) (H : Heap) (locs : List Loc) (ls : Array Slot), u.2.1 ≤ x + 8 * f → 1024 ≤ x → x < 17179869184 → hx_w D A s.heap (hm_W cB k0 k1 u th (hm_bf pv)) H locs → lv_has ls 7 [(2, .long (lN x)), (0, .ref k0), (1, .int (nI a))] → ph_fd u.1 u.2.1 a f pv x = none → ph_bb u.1 u.2.1 f pv x = z → W p l e { frames := 9, cells := 1, slots := 6, locals := 150 } s m ([.ref k0, .int (nI a)] : List Value).toArray below meth c H locs 0 0 (vx_MQ below hx_no (hx_XC D A (hm_W cB k0 k1 u th (hm_bf z))) ([.ref k0, .int (nI a)] : List Value).toArray s 1 6 A) (F0 m 11 ls []) := by
    intro f
    induction f with
    | zero =>
      intro pv x H locs ls hk gb1 gb2 hw hl hq hz
      refine lv_lload_n hx hb dX2_found_11 rfl (lv_at hl 0 rfl) ?_
      refine lv_aload_n hx hb dX2_found_12 rfl (lv_at hl 1 rfl) ?_
      refine va_get (D := D) (ci := 2) (v := .int (nI u.2.1)) (C := RX2) (T := TX2) (N := 5) hx hb hts hi2 hown hK hw.1 0 rfl rfl 1 (by decide) (hts (.fieldLink RX2 14 "HeapRowModel" "end" "I") (by decide +kernel)) (fun _ h9 => h9) rfl dX2_found_13 ?_
      refine lv_i2l (v := lN u.2.1) hx hb dX2_found_16 (nI_l (by omega)) ?_
      refine hn_lge (a := x) (b := u.2.1) (tgt := 72) hx hb (by omega) (by omega) dX2_found_17 dX2_found_18 (by decide) (fun hc => ?_) (fun hc => ?_)
      · have hz : pv = z := hz
        subst hz
        exact hx_new0 S hst hno hw (List.mem_of_getElem? (i := 1) rfl) (List.mem_of_getElem? (i := 2) rfl) (fun w h => List.mem_cons_of_mem _ (List.mem_append_right _ h)) tb_M to_M hl.1 dX2_found_72 dX2_found_75 dX2_found_76 dX2_found_79 ⟨by decide, by decide, by decide, by decide⟩
      · exact absurd hc (by omega)
    | succ f ih =>
      intro pv x H locs ls hk gb1 gb2 hw hl hq hz
      have gn := ph_n_lt u.1 x
      unfold ph_fd at hq
      unfold ph_bb at hz
      refine lv_lload_n hx hb dX2_found_11 rfl (lv_at hl 0 rfl) ?_
      refine lv_aload_n hx hb dX2_found_12 rfl (lv_at hl 1 rfl) ?_
      refine va_get (D := D) (ci := 2) (v := .int (nI u.2.1)) (C := RX2) (T := TX2) (N := 5) hx hb hts hi2 hown hK hw.1 0 rfl rfl 1 (by decide) (hts (.fieldLink RX2 14 "HeapRowModel" "end" "I") (by decide +kernel)) (fun _ h9 => h9) rfl dX2_found_13 ?_
      refine lv_i2l (v := lN u.2.1) hx hb dX2_found_16 (nI_l (by omega)) ?_
      refine hn_lge (a := x) (b := u.2.1) (tgt := 72) hx hb (by omega) (by omega) dX2_found_17 dX2_found_18 (by decide) (fun hc => ?_) (fun hc => ?_)
      · rw [if_neg (by omega)] at hq
        rw [if_neg (by omega)] at hz
        subst hz
        exact hx_new0 S hst hno hw (List.mem_of_getElem? (i := 1) rfl) (List.mem_of_getElem? (i := 2) rfl) (fun w h => List.mem_cons_of_mem _ (List.mem_append_right _ h)) tb_M to_M hl.1 dX2_found_72 dX2_found_75 dX2_found_76 dX2_found_79 ⟨by decide, by decide, by decide, by decide⟩
      · refine lv_aload_n hx hb dX2_found_21 rfl (lv_at hl 1 rfl) ?_
        refine lv_lload_n hx hb dX2_found_22 rfl (lv_at hl 0 rfl) ?_
        refine hx_callV (rest := []) (n := 1) S hw (m_sizeAt l hst D tys cB ht k0 k1 u th (hm_bf pv) x ⟨by omega, by omega⟩) gX2_found_X2_sizeAt rfl (by decide +kernel) rfl ⟨Nat.le_of_ble_eq_true rfl, Nat.le_of_ble_eq_true rfl⟩ 0 2 rfl rfl hm_adr hl.1 rfl (Nat.le_of_ble_eq_true rfl) ⟨by decide, by decide⟩ dX2_found_23 (fun H locs hw => ?_)
        refine W.eq (g2 := F0 m 26 ls [.long (lN (ph_n u.1 x))]) rfl ?_
        refine lv_lstore (lv' := [(4, .long (lN (ph_n u.1 x))), (2, .long (lN x)), (0, .ref k0), (1, .int (nI a))]) hx hb dX2_found_26 hl (by decide) rfl (fun ls hl => ?_)
        refine lv_aload_n hx hb dX2_found_28 rfl (lv_at hl 2 rfl) ?_
        refine lv_lload_n hx hb dX2_found_29 rfl (lv_at hl 1 rfl) ?_
        refine hx_callV (rest := []) (n := 1) S hw (m_takenAt l hst D tys cB ht k0 k1 u th (hm_bf pv) x ⟨by omega, by omega⟩) gX2_found_X2_takenAt rfl (by decide +kernel) rfl ⟨Nat.le_of_ble_eq_true rfl, Nat.le_of_ble_eq_true rfl⟩ 0 2 rfl rfl hm_adr hl.1 rfl (Nat.le_of_ble_eq_true rfl) ⟨by decide, by decide⟩ dX2_found_30 (fun H locs hw => ?_)
        refine W.eq (g2 := F0 m 33 ls [.int (if ph_n u.1 (x + 4) = 1 then nI 1 else nI 0)]) rfl ?_
        refine lv_istore (lv' := [(6, .int (if ph_n u.1 (x + 4) = 1 then nI 1 else nI 0)), (4, .long (lN (ph_n u.1 x))), (2, .long (lN x)), (0, .ref k0), (1, .int (nI a))]) hx hb dX2_found_33 hl (by decide) rfl (fun ls hl => ?_)
        refine lv_lload_n hx hb dX2_found_35 rfl (lv_at hl 2 rfl) ?_
        refine lv_ldc2 (v := lN 8) hx hb hown (hts (.constantLong RX2 69 (lN 8)) (by decide +kernel)) dX2_found_36 ?_
        refine hn_ladd (v := lN (x + 8)) hx hb dX2_found_39 (lN_add _ _) ?_
        refine lv_iload_n hx hb dX2_found_40 rfl (lv_at hl 4 rfl) ?_
        refine hx_callS (rest := [.long (lN (x + 8))]) (n := 1) S hw (m_without l hst D tys cB ht k0 k1 u th (hm_bf pv) a ha) gX2_found_X2_without rfl (by decide +kernel) rfl ⟨Nat.le_of_ble_eq_true rfl, Nat.le_of_ble_eq_true rfl⟩ hm_adr hl.1 rfl (Nat.le_of_ble_eq_true rfl) ⟨by decide, by decide⟩ dX2_found_41 (fun H locs hw => ?_)
        refine W.eq (g2 := F0 m 44 ls [.long (lN a), .long (lN (x + 8))]) rfl ?_
        refine hn_lne (a := (x + 8)) (b := a) (tgt := 55) hx hb (by omega) (by omega) dX2_found_44 dX2_found_45 (by decide) (fun hc2 => ?_) (fun hc2 => ?_)
        · rw [if_pos hc, if_neg (fun z => hc2 z.1)] at hq
          rw [if_pos hc] at hz
          refine lv_aload_n hx hb dX2_found_55 rfl (lv_at hl 3 rfl) ?_
          refine lv_lload_n hx hb dX2_found_56 rfl (lv_at hl 2 rfl) ?_
          refine va_put (D := D) (ci := 2) (v := .long (lN x)) (ty := .long) (C := RX2) (T := TX2) (N := 5) hx hb hts hi2 tyX2 tyX2_ok nmX2 hown hK hw.1 hw.2.1 hw.2.2 0 rfl rfl 4 (by decide) (hts (.fieldLink RX2 58 "HeapRowModel" "before" "J") (by decide +kernel)) (fun _ h9 => h9) rfl (by decide +kernel) rfl rfl (Nat.le_of_ble_eq_true rfl) dX2_found_57 (fun H locs y1 y2 y3 => ?_)
          have hw : hx_w D A s.heap (hm_W cB k0 k1 u th (lN x)) H locs := ⟨y1, y2, y3⟩
          have ex : lN x = hm_bf x := (if_neg (by omega)).symm
          rw [ex] at hw
          refine lv_lload_n hx hb dX2_found_60 rfl (lv_at hl 2 rfl) ?_
          refine lv_ldc2 (v := lN 8) hx hb hown (hts (.constantLong RX2 69 (lN 8)) (by decide +kernel)) dX2_found_61 ?_
          refine hn_ladd (v := lN (x + 8)) hx hb dX2_found_64 (lN_add _ _) ?_
          refine lv_lload hx hb dX2_found_65 (lv_at hl 1 rfl) ?_
          refine hn_ladd (v := lN ((x + 8) + (ph_n u.1 x))) hx hb dX2_found_67 (lN_add _ _) ?_
          refine lv_lstore_n (lv' := [(2, .long (lN ((x + 8) + (ph_n u.1 x)))), (6, .int (if ph_n u.1 (x + 4) = 1 then nI 1 else nI 0)), (4, .long (lN (ph_n u.1 x))), (0, .ref k0), (1, .int (nI a))]) hx hb dX2_found_68 rfl hl (by decide) rfl (fun ls hl => ?_)
          refine lv_goto (tgt := 11) hx hb dX2_found_69 (by decide) ?_
          exact ih x (x + 8 + ph_n u.1 x) _ _ _ (by omega) (by omega) (by omega) hw (lv_sub hl [0, 3, 4] rfl) hq hz
        · refine lv_iload hx hb dX2_found_48 (lv_at hl 0 rfl) ?_
          refine hn_peq (tgt := 55) hx hb dX2_found_50 (by decide) (fun hc3 => ?_) (fun hc3 => ?_)
          · rw [if_pos hc, if_neg (fun z => hc3 z.2)] at hq
            rw [if_pos hc] at hz
            refine lv_aload_n hx hb dX2_found_55 rfl (lv_at hl 3 rfl) ?_
            refine lv_lload_n hx hb dX2_found_56 rfl (lv_at hl 2 rfl) ?_
            refine va_put (D := D) (ci := 2) (v := .long (lN x)) (ty := .long) (C := RX2) (T := TX2) (N := 5) hx hb hts hi2 tyX2 tyX2_ok nmX2 hown hK hw.1 hw.2.1 hw.2.2 0 rfl rfl 4 (by decide) (hts (.fieldLink RX2 58 "HeapRowModel" "before" "J") (by decide +kernel)) (fun _ h9 => h9) rfl (by decide +kernel) rfl rfl (Nat.le_of_ble_eq_true rfl) dX2_found_57 (fun H locs y1 y2 y3 => ?_)
            have hw : hx_w D A s.heap (hm_W cB k0 k1 u th (lN x)) H locs := ⟨y1, y2, y3⟩
            have ex : lN x = hm_bf x := (if_neg (by omega)).symm
            rw [ex] at hw
            refine lv_lload_n hx hb dX2_found_60 rfl (lv_at hl 2 rfl) ?_
            refine lv_ldc2 (v := lN 8) hx hb hown (hts (.constantLong RX2 69 (lN 8)) (by decide +kernel)) dX2_found_61 ?_
            refine hn_ladd (v := lN (x + 8)) hx hb dX2_found_64 (lN_add _ _) ?_
            refine lv_lload hx hb dX2_found_65 (lv_at hl 1 rfl) ?_
            refine hn_ladd (v := lN ((x + 8) + (ph_n u.1 x))) hx hb dX2_found_67 (lN_add _ _) ?_
            refine lv_lstore_n (lv' := [(2, .long (lN ((x + 8) + (ph_n u.1 x)))), (6, .int (if ph_n u.1 (x + 4) = 1 then nI 1 else nI 0)), (4, .long (lN (ph_n u.1 x))), (0, .ref k0), (1, .int (nI a))]) hx hb dX2_found_68 rfl hl (by decide) rfl (fun ls hl => ?_)
            refine lv_goto (tgt := 11) hx hb dX2_found_69 (by decide) ?_
            exact ih x (x + 8 + ph_n u.1 x) _ _ _ (by omega) (by omega) (by omega) hw (lv_sub hl [0, 3, 4] rfl) hq hz
          · rw [if_pos hc, if_pos ⟨hc2, hc3⟩] at hq
            cases hq
  exact loop 8064 0 1024 _ _ _ (by omega) (by decide) (by decide) hw (lv_sub hl [0, 1, 2] rfl) hq0 hz0
set_option maxHeartbeats 4000000 in
set_option maxRecDepth 100000 in
theorem m_take (l : Launch) (hst : l.stackTraces = false) (D : va_G) (tys : List (ClassId × FieldType)) (cB : ClassId) (ht : tys[1]? = some (cB, .byte)) (k0 k1 : Nat) (u : ph_H) (th : Int32) (bf : Int64) (n x : Nat) (u2 : ph_H) (hu : ph_I u) (hn : n < 4294967296) (h : ph_take u n = (some x, u2)) : hx_R l D tys yX2_take wsX2_take 9 150 [.ref k0, .long (lN n)] (hm_W cB k0 k1 u th bf) (hm_W cB k0 k1 u2 th bf) (some (.int (nI x))) := by
  refine hx_R.ofW (cc := cX2_take) (maxL := 10) (ret := (some .int)) (by decide) rfl (Nat.le_of_ble_eq_true rfl) ?_
  intro p e s m below meth c A ls hr S hw hl
  have S : hx_S p l s m _ meth c cX2_take 10 wsX2_take RX2 A D tys := S
  obtain ⟨⟨hx, hb, hml, hown, hts⟩, hK, hA, hE, hlk⟩ := id S
  have hi2 : ∀ w ∈ wsX20, w ∈ wsX2_take := by decide +kernel
  have hl : lv_has ls 10 [(0, .ref k0), (1, .long (lN n))] := hl
  obtain ⟨i1, i2, i3, i4⟩ := hu
  have gu := ph_up_ge n
  have gu2 := ph_up_lt hn
  unfold ph_take at h
  refine lv_lload_n hx hb dX2_take_0 rfl (lv_at hl 1 rfl) ?_
  refine hx_callS (rest := []) (n := 1) S hw (m_up l hst D tys cB ht k0 k1 u th bf n (by omega)) gX2_take_X2_up rfl (by decide +kernel) rfl ⟨Nat.le_of_ble_eq_true rfl, Nat.le_of_ble_eq_true rfl⟩ hm_adr hl.1 rfl (Nat.le_of_ble_eq_true rfl) ⟨by decide, by decide⟩ dX2_take_1 (fun H locs hw => ?_)
  refine W.eq (g2 := F0 m 4 ls [.long (lN (ph_up n))]) rfl ?_
  refine lv_lstore_n (lv' := [(3, .long (lN (ph_up n))), (0, .ref k0), (1, .long (lN n))]) hx hb dX2_take_4 rfl hl (by decide) rfl (fun ls hl => ?_)
  refine lv_ldc2 (v := lN 1024) hx hb hown (hts (.constantLong RX2 24 (lN 1024)) (by decide +kernel)) dX2_take_5 ?_
  refine lv_lstore (lv' := [(5, .long (lN 1024)), (3, .long (lN (ph_up n))), (0, .ref k0), (1, .long (lN n))]) hx hb dX2_take_8 hl (by decide) rfl (fun ls hl => ?_)
  have loop : ∀ (f b : Nat) (H : Heap) (locs : List Loc) (ls : Array Slot), u.2.1 ≤ b + 8 * f → 1024 ≤ b → b < 17179869184 → hx_w D A s.heap (hm_W cB k0 k1 u th bf) H locs → lv_has ls 10 [(5, .long (lN b)), (3, .long (lN (ph_up n))), (0, .ref k0), (1, .long (lN n))] → (∀ (y : Nat) (H : Heap) (locs : List Loc) (ls : Array Slot), ph_ff u.1 u.2.1 (ph_up n) f b = some y → hx_w D A s.heap (hm_W cB k0 k1 u th bf) H locs → lv_has ls 10 [(9, .int (if ph_n u.1 (y + 4) = 1 then nI 1 else nI 0)), (7, .long (lN (ph_n u.1 y))), (5, .long (lN y)), (3, .long (lN (ph_up n))), (0, .ref k0), (1, .long (lN n))] → W p l e { frames := 9, cells := 0, slots := 0, locals := 150 } s m ([.ref k0, .long (lN n)] : List Value).toArray below meth c H locs 0 0 (MQ below (hx_Q D A (hm_W cB k0 k1 u2 th bf) (some (.int (nI x)))) ([.ref k0, .long (lN n)] : List Value).toArray s 0 0 A) (F0 m 49 ls [])) → (∀ (H : Heap) (locs : List Loc) (ls : Array Slot), ph_ff u.1 u.2.1 (ph_up n) f b = none → hx_w D A s.heap (hm_W cB k0 k1 u th bf) H locs → lv_has ls 10 [(3, .long (lN (ph_up n))), (0, .ref k0), (1, .long (lN n))] → W p l e { frames := 9, cells := 0, slots := 0, locals := 150 } s m ([.ref k0, .long (lN n)] : List Value).toArray below meth c H locs 0 0 (MQ below (hx_Q D A (hm_W cB k0 k1 u2 th bf) (some (.int (nI x)))) ([.ref k0, .long (lN n)] : List Value).toArray s 0 0 A) (F0 m 134 ls [])) → W p l e { frames := 9, cells := 0, slots := 0, locals := 150 } s m ([.ref k0, .long (lN n)] : List Value).toArray below meth c H locs 0 0 (MQ below (hx_Q D A (hm_W cB k0 k1 u2 th bf) (some (.int (nI x)))) ([.ref k0, .long (lN n)] : List Value).toArray s 0 0 A) (F0 m 10 ls []) := by
    intro f
    induction f with
    | zero =>
      intro b H locs ls hk gb1 gb2 hw hl kf kx
      refine lv_lload hx hb dX2_take_10 (lv_at hl 0 rfl) ?_
      refine lv_aload_n hx hb dX2_take_12 rfl (lv_at hl 2 rfl) ?_
      refine va_get (D := D) (ci := 2) (v := .int (nI u.2.1)) (C := RX2) (T := TX2) (N := 5) hx hb hts hi2 hown hK hw.1 0 rfl rfl 1 (by decide) (hts (.fieldLink RX2 14 "HeapRowModel" "end" "I") (by decide +kernel)) (fun _ h9 => h9) rfl dX2_take_13 ?_
      refine lv_i2l (v := lN u.2.1) hx hb dX2_take_16 (nI_l (by omega)) ?_
      refine hn_lge (a := b) (b := u.2.1) (tgt := 134) hx hb (by omega) (by omega) dX2_take_17 dX2_take_18 (by decide) (fun hc => ?_) (fun hc => ?_)
      · exact kx _ _ _ rfl hw (lv_sub hl [1, 2, 3] rfl)
      · exact absurd hc (by omega)
    | succ f ih =>
      intro b H locs ls hk gb1 gb2 hw hl kf kx
      have gn := ph_n_lt u.1 b
      unfold ph_ff at kf kx
      refine lv_lload hx hb dX2_take_10 (lv_at hl 0 rfl) ?_
      refine lv_aload_n hx hb dX2_take_12 rfl (lv_at hl 2 rfl) ?_
      refine va_get (D := D) (ci := 2) (v := .int (nI u.2.1)) (C := RX2) (T := TX2) (N := 5) hx hb hts hi2 hown hK hw.1 0 rfl rfl 1 (by decide) (hts (.fieldLink RX2 14 "HeapRowModel" "end" "I") (by decide +kernel)) (fun _ h9 => h9) rfl dX2_take_13 ?_
      refine lv_i2l (v := lN u.2.1) hx hb dX2_take_16 (nI_l (by omega)) ?_
      refine hn_lge (a := b) (b := u.2.1) (tgt := 134) hx hb (by omega) (by omega) dX2_take_17 dX2_take_18 (by decide) (fun hc => ?_) (fun hc => ?_)
      · rw [if_neg (by omega)] at kx
        exact kx _ _ _ rfl hw (lv_sub hl [1, 2, 3] rfl)
      · rw [if_pos hc] at kf kx
        refine lv_aload_n hx hb dX2_take_21 rfl (lv_at hl 2 rfl) ?_
        refine lv_lload hx hb dX2_take_22 (lv_at hl 0 rfl) ?_
        refine hx_callV (rest := []) (n := 1) S hw (m_sizeAt l hst D tys cB ht k0 k1 u th bf b ⟨by omega, by omega⟩) gX2_take_X2_sizeAt rfl (by decide +kernel) rfl ⟨Nat.le_of_ble_eq_true rfl, Nat.le_of_ble_eq_true rfl⟩ 0 2 rfl rfl hm_adr hl.1 rfl (Nat.le_of_ble_eq_true rfl) ⟨by decide, by decide⟩ dX2_take_24 (fun H locs hw => ?_)
        refine W.eq (g2 := F0 m 27 ls [.long (lN (ph_n u.1 b))]) rfl ?_
        refine lv_lstore (lv' := [(7, .long (lN (ph_n u.1 b))), (5, .long (lN b)), (3, .long (lN (ph_up n))), (0, .ref k0), (1, .long (lN n))]) hx hb dX2_take_27 hl (by decide) rfl (fun ls hl => ?_)
        refine lv_aload_n hx hb dX2_take_29 rfl (lv_at hl 3 rfl) ?_
        refine lv_lload hx hb dX2_take_30 (lv_at hl 1 rfl) ?_
        refine hx_callV (rest := []) (n := 1) S hw (m_takenAt l hst D tys cB ht k0 k1 u th bf b ⟨by omega, by omega⟩) gX2_take_X2_takenAt rfl (by decide +kernel) rfl ⟨Nat.le_of_ble_eq_true rfl, Nat.le_of_ble_eq_true rfl⟩ 0 2 rfl rfl hm_adr hl.1 rfl (Nat.le_of_ble_eq_true rfl) ⟨by decide, by decide⟩ dX2_take_32 (fun H locs hw => ?_)
        refine W.eq (g2 := F0 m 35 ls [.int (if ph_n u.1 (b + 4) = 1 then nI 1 else nI 0)]) rfl ?_
        refine lv_istore (lv' := [(9, .int (if ph_n u.1 (b + 4) = 1 then nI 1 else nI 0)), (7, .long (lN (ph_n u.1 b))), (5, .long (lN b)), (3, .long (lN (ph_up n))), (0, .ref k0), (1, .long (lN n))]) hx hb dX2_take_35 hl (by decide) rfl (fun ls hl => ?_)
        refine lv_iload hx hb dX2_take_37 (lv_at hl 0 rfl) ?_
        refine hn_pne (tgt := 120) hx hb dX2_take_39 (by decide) (fun hc2 => ?_) (fun hc2 => ?_)
        · rw [if_neg (fun z => z.1 hc2)] at kf kx
          refine lv_lload hx hb dX2_take_120 (lv_at hl 2 rfl) ?_
          refine lv_ldc2 (v := lN 8) hx hb hown (hts (.constantLong RX2 69 (lN 8)) (by decide +kernel)) dX2_take_122 ?_
          refine hn_ladd (v := lN (b + 8)) hx hb dX2_take_125 (lN_add _ _) ?_
          refine lv_lload hx hb dX2_take_126 (lv_at hl 1 rfl) ?_
          refine hn_ladd (v := lN ((b + 8) + (ph_n u.1 b))) hx hb dX2_take_128 (lN_add _ _) ?_
          refine lv_lstore (lv' := [(5, .long (lN ((b + 8) + (ph_n u.1 b)))), (9, .int (if ph_n u.1 (b + 4) = 1 then nI 1 else nI 0)), (7, .long (lN (ph_n u.1 b))), (3, .long (lN (ph_up n))), (0, .ref k0), (1, .long (lN n))]) hx hb dX2_take_129 hl (by decide) rfl (fun ls hl => ?_)
          refine lv_goto (tgt := 10) hx hb dX2_take_131 (by decide) ?_
          exact ih (b + 8 + ph_n u.1 b) _ _ _ (by omega) (by omega) (by omega) hw (lv_sub hl [0, 3, 4, 5] rfl) kf kx
        · refine lv_lload hx hb dX2_take_42 (lv_at hl 1 rfl) ?_
          refine lv_lload_n hx hb dX2_take_44 rfl (lv_at hl 3 rfl) ?_
          refine hn_llt (a := (ph_n u.1 b)) (b := (ph_up n)) (tgt := 120) hx hb (by omega) (by omega) dX2_take_45 dX2_take_46 (by decide) (fun hc3 => ?_) (fun hc3 => ?_)
          · rw [if_neg (fun z => absurd z.2 (by omega))] at kf kx
            refine lv_lload hx hb dX2_take_120 (lv_at hl 2 rfl) ?_
            refine lv_ldc2 (v := lN 8) hx hb hown (hts (.constantLong RX2 69 (lN 8)) (by decide +kernel)) dX2_take_122 ?_
            refine hn_ladd (v := lN (b + 8)) hx hb dX2_take_125 (lN_add _ _) ?_
            refine lv_lload hx hb dX2_take_126 (lv_at hl 1 rfl) ?_
            refine hn_ladd (v := lN ((b + 8) + (ph_n u.1 b))) hx hb dX2_take_128 (lN_add _ _) ?_
            refine lv_lstore (lv' := [(5, .long (lN ((b + 8) + (ph_n u.1 b)))), (9, .int (if ph_n u.1 (b + 4) = 1 then nI 1 else nI 0)), (7, .long (lN (ph_n u.1 b))), (3, .long (lN (ph_up n))), (0, .ref k0), (1, .long (lN n))]) hx hb dX2_take_129 hl (by decide) rfl (fun ls hl => ?_)
            refine lv_goto (tgt := 10) hx hb dX2_take_131 (by decide) ?_
            exact ih (b + 8 + ph_n u.1 b) _ _ _ (by omega) (by omega) (by omega) hw (lv_sub hl [0, 3, 4, 5] rfl) kf kx
          · rw [if_pos ⟨hc2, hc3⟩] at kf
            exact kf b _ _ _ rfl hw (lv_sub hl [0, 1, 2, 3, 4, 5] rfl)
  refine loop 8064 1024 _ _ _ (by omega) (by decide) (by decide) hw (lv_sub hl [0, 1, 2, 3] rfl) (fun b H locs ls hy hw hl => ?_) (fun H locs ls hy hw hl => ?_)
  · rw [hy] at h
    dsimp only at h
    obtain ⟨f1, f2, f3, f4⟩ := ph_ff_some _ _ hy
    have gn := ph_n_lt u.1 b
    refine lv_lload hx hb dX2_take_49 (lv_at hl 1 rfl) ?_
    refine lv_lload_n hx hb dX2_take_51 rfl (lv_at hl 3 rfl) ?_
    refine hn_lsub (v := lN ((ph_n u.1 b) - (ph_up n))) hx hb dX2_take_52 (lN_sub (by omega)) ?_
    refine lv_ldc2 (v := lN 16) hx hb hown (hts (.constantLong RX2 76 (lN 16)) (by decide +kernel)) dX2_take_53 ?_
    refine hn_llt (a := ((ph_n u.1 b) - (ph_up n))) (b := 16) (tgt := 102) hx hb (by omega) (by omega) dX2_take_56 dX2_take_57 (by decide) (fun hk1 => ?_) (fun hk1 => ?_)
    · rw [if_pos (by omega)] at h
      cases h
      refine lv_aload_n hx hb dX2_take_102 rfl (lv_at hl 4 rfl) ?_
      refine lv_lload hx hb dX2_take_103 (lv_at hl 2 rfl) ?_
      refine lv_ldc2 (v := lN 4) hx hb hown (hts (.constantLong RX2 54 (lN 4)) (by decide +kernel)) dX2_take_105 ?_
      refine hn_ladd (v := lN (b + 4)) hx hb dX2_take_108 (lN_add _ _) ?_
      refine lv_iconst (v := nI 1) hx hb dX2_take_109 (by decide +kernel) ?_
      refine hx_callV (rest := []) (n := 2) S hw (m_set l hst D tys cB ht k0 k1 u th bf (b + 4) 1 (by decide) ⟨by omega, by omega⟩) gX2_take_X2_set rfl (by decide +kernel) rfl ⟨Nat.le_of_ble_eq_true rfl, Nat.le_of_ble_eq_true rfl⟩ 0 2 rfl rfl hm_adr hl.1 rfl (Nat.le_of_ble_eq_true rfl) ⟨by decide, by decide⟩ dX2_take_110 (fun H locs hw => ?_)
      refine W.eq (g2 := F0 m 113 ls []) rfl ?_
      refine lv_lload hx hb dX2_take_113 (lv_at hl 2 rfl) ?_
      refine lv_l2i (v := nI b) hx hb dX2_take_115 (lN_i _) ?_
      refine lv_bipush (v := nI 8) hx hb dX2_take_116 (by decide +kernel) ?_
      refine hn_iadd (v := nI (b + 8)) hx hb dX2_take_118 (nI_add _ _) ?_
      exact hx_iret S hr hw dX2_take_119
    · rw [if_neg (by omega)] at h
      refine lv_aload_n hx hb dX2_take_60 rfl (lv_at hl 4 rfl) ?_
      refine lv_lload hx hb dX2_take_61 (lv_at hl 2 rfl) ?_
      refine lv_ldc2 (v := lN 8) hx hb hown (hts (.constantLong RX2 69 (lN 8)) (by decide +kernel)) dX2_take_63 ?_
      refine hn_ladd (v := lN (b + 8)) hx hb dX2_take_66 (lN_add _ _) ?_
      refine lv_lload_n hx hb dX2_take_67 rfl (lv_at hl 3 rfl) ?_
      refine hn_ladd (v := lN ((b + 8) + (ph_up n))) hx hb dX2_take_68 (lN_add _ _) ?_
      refine lv_lload hx hb dX2_take_69 (lv_at hl 1 rfl) ?_
      refine lv_lload_n hx hb dX2_take_71 rfl (lv_at hl 3 rfl) ?_
      refine hn_lsub (v := lN ((ph_n u.1 b) - (ph_up n))) hx hb dX2_take_72 (lN_sub (by omega)) ?_
      refine lv_ldc2 (v := lN 8) hx hb hown (hts (.constantLong RX2 69 (lN 8)) (by decide +kernel)) dX2_take_73 ?_
      refine hn_lsub (v := lN (((ph_n u.1 b) - (ph_up n)) - 8)) hx hb dX2_take_76 (lN_sub (by omega)) ?_
      refine lv_l2i (v := nI (((ph_n u.1 b) - (ph_up n)) - 8)) hx hb dX2_take_77 (lN_i _) ?_
      by_cases kw : (ph_wh u.1 (b + 8 + ph_up n) (ph_n u.1 b - ph_up n - 8) 0).1 = true
      · rw [if_pos kw] at h
        obtain ⟨g1, g2, g3⟩ := ph_wh_t kw
        rw [g3] at h
        cases h
        refine hx_callV (rest := []) (n := 2) S hw (m_set l hst D tys cB ht k0 k1 u th bf (b + 8 + ph_up n) (ph_n u.1 b - ph_up n - 8) (by omega) g1) gX2_take_X2_set rfl (by decide +kernel) rfl ⟨Nat.le_of_ble_eq_true rfl, Nat.le_of_ble_eq_true rfl⟩ 0 2 rfl rfl hm_adr hl.1 rfl (Nat.le_of_ble_eq_true rfl) ⟨by decide, by decide⟩ dX2_take_78 (fun H locs hw => ?_)
        refine W.eq (g2 := F0 m 81 ls []) rfl ?_
        refine lv_aload_n hx hb dX2_take_81 rfl (lv_at hl 4 rfl) ?_
        refine lv_lload hx hb dX2_take_82 (lv_at hl 2 rfl) ?_
        refine lv_ldc2 (v := lN 12) hx hb hown (hts (.constantLong RX2 81 (lN 12)) (by decide +kernel)) dX2_take_84 ?_
        refine hn_ladd (v := lN (b + 12)) hx hb dX2_take_87 (lN_add _ _) ?_
        refine lv_lload_n hx hb dX2_take_88 rfl (lv_at hl 3 rfl) ?_
        refine hn_ladd (v := lN ((b + 12) + (ph_up n))) hx hb dX2_take_89 (lN_add _ _) ?_
        refine lv_iconst (v := nI 0) hx hb dX2_take_90 (by decide +kernel) ?_
        rw [show b + 12 + ph_up n = b + 8 + ph_up n + 4 from by omega]
        refine hx_callV (rest := []) (n := 2) S hw (m_set l hst D tys cB ht k0 k1 (ph_sn u.1 (b + 8 + ph_up n) (ph_n u.1 b - ph_up n - 8), u.2) th bf (b + 8 + ph_up n + 4) 0 (by decide) g2) gX2_take_X2_set rfl (by decide +kernel) rfl ⟨Nat.le_of_ble_eq_true rfl, Nat.le_of_ble_eq_true rfl⟩ 0 2 rfl rfl hm_adr hl.1 rfl (Nat.le_of_ble_eq_true rfl) ⟨by decide, by decide⟩ dX2_take_91 (fun H locs hw => ?_)
        refine W.eq (g2 := F0 m 94 ls []) rfl ?_
        refine lv_aload_n hx hb dX2_take_94 rfl (lv_at hl 4 rfl) ?_
        refine lv_lload hx hb dX2_take_95 (lv_at hl 2 rfl) ?_
        refine lv_lload_n hx hb dX2_take_97 rfl (lv_at hl 3 rfl) ?_
        refine lv_l2i (v := nI (ph_up n)) hx hb dX2_take_98 (lN_i _) ?_
        refine hx_callV (rest := []) (n := 2) S hw (m_set l hst D tys cB ht k0 k1 (ph_sn (ph_sn u.1 (b + 8 + ph_up n) (ph_n u.1 b - ph_up n - 8)) (b + 8 + ph_up n + 4) 0, u.2) th bf b (ph_up n) (by omega) ⟨by omega, by omega⟩) gX2_take_X2_set rfl (by decide +kernel) rfl ⟨Nat.le_of_ble_eq_true rfl, Nat.le_of_ble_eq_true rfl⟩ 0 2 rfl rfl hm_adr hl.1 rfl (Nat.le_of_ble_eq_true rfl) ⟨by decide, by decide⟩ dX2_take_99 (fun H locs hw => ?_)
        refine W.eq (g2 := F0 m 102 ls []) rfl ?_
        refine lv_aload_n hx hb dX2_take_102 rfl (lv_at hl 4 rfl) ?_
        refine lv_lload hx hb dX2_take_103 (lv_at hl 2 rfl) ?_
        refine lv_ldc2 (v := lN 4) hx hb hown (hts (.constantLong RX2 54 (lN 4)) (by decide +kernel)) dX2_take_105 ?_
        refine hn_ladd (v := lN (b + 4)) hx hb dX2_take_108 (lN_add _ _) ?_
        refine lv_iconst (v := nI 1) hx hb dX2_take_109 (by decide +kernel) ?_
        refine hx_callV (rest := []) (n := 2) S hw (m_set l hst D tys cB ht k0 k1 (ph_sn (ph_sn (ph_sn u.1 (b + 8 + ph_up n) (ph_n u.1 b - ph_up n - 8)) (b + 8 + ph_up n + 4) 0) b (ph_up n), u.2) th bf (b + 4) 1 (by decide) ⟨by omega, by omega⟩) gX2_take_X2_set rfl (by decide +kernel) rfl ⟨Nat.le_of_ble_eq_true rfl, Nat.le_of_ble_eq_true rfl⟩ 0 2 rfl rfl hm_adr hl.1 rfl (Nat.le_of_ble_eq_true rfl) ⟨by decide, by decide⟩ dX2_take_110 (fun H locs hw => ?_)
        refine W.eq (g2 := F0 m 113 ls []) rfl ?_
        refine lv_lload hx hb dX2_take_113 (lv_at hl 2 rfl) ?_
        refine lv_l2i (v := nI b) hx hb dX2_take_115 (lN_i _) ?_
        refine lv_bipush (v := nI 8) hx hb dX2_take_116 (by decide +kernel) ?_
        refine hn_iadd (v := nI (b + 8)) hx hb dX2_take_118 (nI_add _ _) ?_
        exact hx_iret S hr hw dX2_take_119
      · rw [if_neg kw] at h
        rcases ph_wh_f kw with ⟨g1, g3⟩ | ⟨g1, g2, g3⟩
        · rw [g3] at h
          cases h
        · rw [g3] at h
          cases h
  · rw [hy] at h
    dsimp only at h
    by_cases kq : 480000 < n ∨ u.2.2 < u.2.1 + 8 + ph_up n + 4096
    · rw [if_pos kq] at h
      cases h
      refine lv_lload_n hx hb dX2_take_134 rfl (lv_at hl 2 rfl) ?_
      refine lv_ldc2 (v := lN 480000) hx hb hown (hts (.constantLong RX2 83 (lN 480000)) (by decide +kernel)) dX2_take_135 ?_
      refine hn_lgt (a := n) (b := 480000) (tgt := 165) hx hb (by omega) (by omega) dX2_take_138 dX2_take_139 (by decide) (fun hc2 => ?_) (fun hc2 => ?_)
      · refine lv_iconst (v := nI 0) hx hb dX2_take_165 (by decide +kernel) ?_
        exact hx_iret S hr hw dX2_take_166
      · refine lv_aload_n hx hb dX2_take_142 rfl (lv_at hl 1 rfl) ?_
        refine va_get (D := D) (ci := 2) (v := .int (nI u.2.1)) (C := RX2) (T := TX2) (N := 5) hx hb hts hi2 hown hK hw.1 0 rfl rfl 1 (by decide) (hts (.fieldLink RX2 14 "HeapRowModel" "end" "I") (by decide +kernel)) (fun _ h9 => h9) rfl dX2_take_143 ?_
        refine lv_bipush (v := nI 8) hx hb dX2_take_146 (by decide +kernel) ?_
        refine hn_iadd (v := nI (u.2.1 + 8)) hx hb dX2_take_148 (nI_add _ _) ?_
        refine lv_i2l (v := lN (u.2.1 + 8)) hx hb dX2_take_149 (nI_l (by omega)) ?_
        refine lv_lload_n hx hb dX2_take_150 rfl (lv_at hl 0 rfl) ?_
        refine hn_ladd (v := lN ((u.2.1 + 8) + (ph_up n))) hx hb dX2_take_151 (lN_add _ _) ?_
        refine lv_aload_n hx hb dX2_take_152 rfl (lv_at hl 1 rfl) ?_
        refine va_get (D := D) (ci := 2) (v := .int (nI u.2.2)) (C := RX2) (T := TX2) (N := 5) hx hb hts hi2 hown hK hw.1 0 rfl rfl 2 (by decide) (hts (.fieldLink RX2 18 "HeapRowModel" "stack" "I") (by decide +kernel)) (fun _ h9 => h9) rfl dX2_take_153 ?_
        refine lv_sipush (v := nI 4096) hx hb dX2_take_156 (by decide +kernel) ?_
        by_cases k3 : 4096 ≤ u.2.2
        · refine hn_isub (v := nI (u.2.2 - 4096)) hx hb dX2_take_159 (pk_sub (by omega)) ?_
          refine lv_i2l (v := lN (u.2.2 - 4096)) hx hb dX2_take_160 (nI_l (by omega)) ?_
          refine hn_lle (a := ((u.2.1 + 8) + (ph_up n))) (b := (u.2.2 - 4096)) (tgt := 167) hx hb (by omega) (by omega) dX2_take_161 dX2_take_162 (by decide) (fun hc3 => ?_) (fun hc3 => ?_)
          · exact absurd hc3 (by omega)
          · refine lv_iconst (v := nI 0) hx hb dX2_take_165 (by decide +kernel) ?_
            exact hx_iret S hr hw dX2_take_166
        · refine hn_isub (v := nI u.2.2 - nI 4096) hx hb dX2_take_159 rfl ?_
          refine lv_i2l (v := (nI u.2.2 - nI 4096).toInt64) hx hb dX2_take_160 rfl ?_
          refine W.lcmp hx hb dX2_take_161 ?_
          refine lv_if_le (tgt := 167) hx hb dX2_take_162 (by decide) (fun z => absurd ((lg_cmp_le _ _).mp z) (hp_neg2 (by omega) (by omega))) (fun _ => ?_)
          refine lv_iconst (v := nI 0) hx hb dX2_take_165 (by decide +kernel) ?_
          exact hx_iret S hr hw dX2_take_166
    · rw [if_neg kq] at h
      cases h
      refine lv_lload_n hx hb dX2_take_134 rfl (lv_at hl 2 rfl) ?_
      refine lv_ldc2 (v := lN 480000) hx hb hown (hts (.constantLong RX2 83 (lN 480000)) (by decide +kernel)) dX2_take_135 ?_
      refine hn_lgt (a := n) (b := 480000) (tgt := 165) hx hb (by omega) (by omega) dX2_take_138 dX2_take_139 (by decide) (fun hc2 => ?_) (fun hc2 => ?_)
      · exact absurd hc2 (by omega)
      · refine lv_aload_n hx hb dX2_take_142 rfl (lv_at hl 1 rfl) ?_
        refine va_get (D := D) (ci := 2) (v := .int (nI u.2.1)) (C := RX2) (T := TX2) (N := 5) hx hb hts hi2 hown hK hw.1 0 rfl rfl 1 (by decide) (hts (.fieldLink RX2 14 "HeapRowModel" "end" "I") (by decide +kernel)) (fun _ h9 => h9) rfl dX2_take_143 ?_
        refine lv_bipush (v := nI 8) hx hb dX2_take_146 (by decide +kernel) ?_
        refine hn_iadd (v := nI (u.2.1 + 8)) hx hb dX2_take_148 (nI_add _ _) ?_
        refine lv_i2l (v := lN (u.2.1 + 8)) hx hb dX2_take_149 (nI_l (by omega)) ?_
        refine lv_lload_n hx hb dX2_take_150 rfl (lv_at hl 0 rfl) ?_
        refine hn_ladd (v := lN ((u.2.1 + 8) + (ph_up n))) hx hb dX2_take_151 (lN_add _ _) ?_
        refine lv_aload_n hx hb dX2_take_152 rfl (lv_at hl 1 rfl) ?_
        refine va_get (D := D) (ci := 2) (v := .int (nI u.2.2)) (C := RX2) (T := TX2) (N := 5) hx hb hts hi2 hown hK hw.1 0 rfl rfl 2 (by decide) (hts (.fieldLink RX2 18 "HeapRowModel" "stack" "I") (by decide +kernel)) (fun _ h9 => h9) rfl dX2_take_153 ?_
        refine lv_sipush (v := nI 4096) hx hb dX2_take_156 (by decide +kernel) ?_
        refine hn_isub (v := nI (u.2.2 - 4096)) hx hb dX2_take_159 (pk_sub (by omega)) ?_
        refine lv_i2l (v := lN (u.2.2 - 4096)) hx hb dX2_take_160 (nI_l (by omega)) ?_
        refine hn_lle (a := ((u.2.1 + 8) + (ph_up n))) (b := (u.2.2 - 4096)) (tgt := 167) hx hb (by omega) (by omega) dX2_take_161 dX2_take_162 (by decide) (fun hc3 => ?_) (fun hc3 => ?_)
        · refine lv_aload_n hx hb dX2_take_167 rfl (lv_at hl 1 rfl) ?_
          refine va_get (D := D) (ci := 2) (v := .int (nI u.2.1)) (C := RX2) (T := TX2) (N := 5) hx hb hts hi2 hown hK hw.1 0 rfl rfl 1 (by decide) (hts (.fieldLink RX2 14 "HeapRowModel" "end" "I") (by decide +kernel)) (fun _ h9 => h9) rfl dX2_take_168 ?_
          refine lv_istore (lv' := [(7, .int (nI u.2.1)), (3, .long (lN (ph_up n))), (0, .ref k0), (1, .long (lN n))]) hx hb dX2_take_171 hl (by decide) rfl (fun ls hl => ?_)
          refine lv_aload_n hx hb dX2_take_173 rfl (lv_at hl 2 rfl) ?_
          refine lv_iload hx hb dX2_take_174 (lv_at hl 0 rfl) ?_
          refine lv_i2l (v := lN u.2.1) hx hb dX2_take_176 (nI_l (by omega)) ?_
          refine lv_lload_n hx hb dX2_take_177 rfl (lv_at hl 1 rfl) ?_
          refine lv_l2i (v := nI (ph_up n)) hx hb dX2_take_178 (lN_i _) ?_
          refine hx_callV (rest := []) (n := 2) S hw (m_set l hst D tys cB ht k0 k1 u th bf u.2.1 (ph_up n) (by omega) ⟨by omega, by omega⟩) gX2_take_X2_set rfl (by decide +kernel) rfl ⟨Nat.le_of_ble_eq_true rfl, Nat.le_of_ble_eq_true rfl⟩ 0 2 rfl rfl hm_adr hl.1 rfl (Nat.le_of_ble_eq_true rfl) ⟨by decide, by decide⟩ dX2_take_179 (fun H locs hw => ?_)
          refine W.eq (g2 := F0 m 182 ls []) rfl ?_
          refine lv_aload_n hx hb dX2_take_182 rfl (lv_at hl 2 rfl) ?_
          refine lv_iload hx hb dX2_take_183 (lv_at hl 0 rfl) ?_
          refine lv_iconst (v := nI 4) hx hb dX2_take_185 (by decide +kernel) ?_
          refine hn_iadd (v := nI (u.2.1 + 4)) hx hb dX2_take_186 (nI_add _ _) ?_
          refine lv_i2l (v := lN (u.2.1 + 4)) hx hb dX2_take_187 (nI_l (by omega)) ?_
          refine lv_iconst (v := nI 1) hx hb dX2_take_188 (by decide +kernel) ?_
          refine hx_callV (rest := []) (n := 2) S hw (m_set l hst D tys cB ht k0 k1 (ph_sn u.1 u.2.1 (ph_up n), u.2) th bf (u.2.1 + 4) 1 (by decide) ⟨by omega, by omega⟩) gX2_take_X2_set rfl (by decide +kernel) rfl ⟨Nat.le_of_ble_eq_true rfl, Nat.le_of_ble_eq_true rfl⟩ 0 2 rfl rfl hm_adr hl.1 rfl (Nat.le_of_ble_eq_true rfl) ⟨by decide, by decide⟩ dX2_take_189 (fun H locs hw => ?_)
          refine W.eq (g2 := F0 m 192 ls []) rfl ?_
          refine lv_aload_n hx hb dX2_take_192 rfl (lv_at hl 2 rfl) ?_
          refine lv_aload_n hx hb dX2_take_193 rfl (lv_at hl 2 rfl) ?_
          refine va_get (D := D) (ci := 2) (v := .int (nI u.2.1)) (C := RX2) (T := TX2) (N := 5) hx hb hts hi2 hown hK hw.1 0 rfl rfl 1 (by decide) (hts (.fieldLink RX2 14 "HeapRowModel" "end" "I") (by decide +kernel)) (fun _ h9 => h9) rfl dX2_take_194 ?_
          refine lv_bipush (v := nI 8) hx hb dX2_take_197 (by decide +kernel) ?_
          refine hn_iadd (v := nI (u.2.1 + 8)) hx hb dX2_take_199 (nI_add _ _) ?_
          refine lv_lload_n hx hb dX2_take_200 rfl (lv_at hl 1 rfl) ?_
          refine lv_l2i (v := nI (ph_up n)) hx hb dX2_take_201 (lN_i _) ?_
          refine hn_iadd (v := nI ((u.2.1 + 8) + (ph_up n))) hx hb dX2_take_202 (nI_add _ _) ?_
          refine va_put (D := D) (ci := 2) (v := .int (nI ((u.2.1 + 8) + (ph_up n)))) (ty := .int) (C := RX2) (T := TX2) (N := 5) hx hb hts hi2 tyX2 tyX2_ok nmX2 hown hK hw.1 hw.2.1 hw.2.2 0 rfl rfl 1 (by decide) (hts (.fieldLink RX2 14 "HeapRowModel" "end" "I") (by decide +kernel)) (fun _ h9 => h9) rfl (by decide +kernel) rfl rfl (Nat.le_of_ble_eq_true rfl) dX2_take_203 (fun H locs y1 y2 y3 => ?_)
          have hw : hx_w D A s.heap (hm_W cB k0 k1 (ph_sn (ph_sn u.1 u.2.1 (ph_up n)) (u.2.1 + 4) 1, u.2.1 + 8 + ph_up n, u.2.2) th bf) H locs := ⟨y1, y2, y3⟩
          refine lv_iload hx hb dX2_take_206 (lv_at hl 0 rfl) ?_
          refine lv_bipush (v := nI 8) hx hb dX2_take_208 (by decide +kernel) ?_
          refine hn_iadd (v := nI (u.2.1 + 8)) hx hb dX2_take_210 (nI_add _ _) ?_
          exact hx_iret S hr hw dX2_take_211
        · exact absurd hc3 (by omega)
set_option maxHeartbeats 4000000 in
set_option maxRecDepth 100000 in
theorem mx_take (l : Launch) (hst : l.stackTraces = false) (D : va_G) (tys : List (ClassId × FieldType)) (cB : ClassId) (ht : tys[1]? = some (cB, .byte)) (k0 k1 : Nat) (u : ph_H) (th : Int32) (bf : Int64) (n : Nat) (u2 : ph_H) (hu : ph_I u) (hn : n < 4294967296) (h : ph_take u n = (none, u2)) : hx_X l D tys yX2_take wsX2_take 9 150 [.ref k0, .long (lN n)] (hm_W cB k0 k1 u th bf) (hm_W cB k0 k1 u2 th bf) := by
  refine hx_X.ofW (cc := cX2_take) (maxL := 10) (ret := (some .int)) (by decide) rfl (Nat.le_of_ble_eq_true rfl) ?_
  intro p e s m below meth c A ls hr S hno hw hl
  have S : hx_S p l s m _ meth c cX2_take 10 wsX2_take RX2 A D tys := S
  obtain ⟨⟨hx, hb, hml, hown, hts⟩, hK, hA, hE, hlk⟩ := id S
  have hi2 : ∀ w ∈ wsX20, w ∈ wsX2_take := by decide +kernel
  have hl : lv_has ls 10 [(0, .ref k0), (1, .long (lN n))] := hl
  obtain ⟨i1, i2, i3, i4⟩ := hu
  have gu := ph_up_ge n
  have gu2 := ph_up_lt hn
  unfold ph_take at h
  refine lv_lload_n hx hb dX2_take_0 rfl (lv_at hl 1 rfl) ?_
  refine hx_callS (rest := []) (n := 1) S hw (m_up l hst D tys cB ht k0 k1 u th bf n (by omega)) gX2_take_X2_up rfl (by decide +kernel) rfl ⟨Nat.le_of_ble_eq_true rfl, Nat.le_of_ble_eq_true rfl⟩ hm_adr hl.1 rfl (Nat.le_of_ble_eq_true rfl) ⟨by decide, by decide⟩ dX2_take_1 (fun H locs hw => ?_)
  refine W.eq (g2 := F0 m 4 ls [.long (lN (ph_up n))]) rfl ?_
  refine lv_lstore_n (lv' := [(3, .long (lN (ph_up n))), (0, .ref k0), (1, .long (lN n))]) hx hb dX2_take_4 rfl hl (by decide) rfl (fun ls hl => ?_)
  refine lv_ldc2 (v := lN 1024) hx hb hown (hts (.constantLong RX2 24 (lN 1024)) (by decide +kernel)) dX2_take_5 ?_
  refine lv_lstore (lv' := [(5, .long (lN 1024)), (3, .long (lN (ph_up n))), (0, .ref k0), (1, .long (lN n))]) hx hb dX2_take_8 hl (by decide) rfl (fun ls hl => ?_)
  have loop : ∀ (f b : Nat) (H : Heap) (locs : List Loc) (ls : Array Slot), u.2.1 ≤ b + 8 * f → 1024 ≤ b → b < 17179869184 → hx_w D A s.heap (hm_W cB k0 k1 u th bf) H locs → lv_has ls 10 [(5, .long (lN b)), (3, .long (lN (ph_up n))), (0, .ref k0), (1, .long (lN n))] → (∀ (y : Nat) (H : Heap) (locs : List Loc) (ls : Array Slot), ph_ff u.1 u.2.1 (ph_up n) f b = some y → hx_w D A s.heap (hm_W cB k0 k1 u th bf) H locs → lv_has ls 10 [(9, .int (if ph_n u.1 (y + 4) = 1 then nI 1 else nI 0)), (7, .long (lN (ph_n u.1 y))), (5, .long (lN y)), (3, .long (lN (ph_up n))), (0, .ref k0), (1, .long (lN n))] → W p l e { frames := 9, cells := 1, slots := 6, locals := 150 } s m ([.ref k0, .long (lN n)] : List Value).toArray below meth c H locs 0 0 (vx_MQ below hx_no (hx_XC D A (hm_W cB k0 k1 u2 th bf)) ([.ref k0, .long (lN n)] : List Value).toArray s 1 6 A) (F0 m 49 ls [])) → (∀ (H : Heap) (locs : List Loc) (ls : Array Slot), ph_ff u.1 u.2.1 (ph_up n) f b = none → hx_w D A s.heap (hm_W cB k0 k1 u th bf) H locs → lv_has ls 10 [(3, .long (lN (ph_up n))), (0, .ref k0), (1, .long (lN n))] → W p l e { frames := 9, cells := 1, slots := 6, locals := 150 } s m ([.ref k0, .long (lN n)] : List Value).toArray below meth c H locs 0 0 (vx_MQ below hx_no (hx_XC D A (hm_W cB k0 k1 u2 th bf)) ([.ref k0, .long (lN n)] : List Value).toArray s 1 6 A) (F0 m 134 ls [])) → W p l e { frames := 9, cells := 1, slots := 6, locals := 150 } s m ([.ref k0, .long (lN n)] : List Value).toArray below meth c H locs 0 0 (vx_MQ below hx_no (hx_XC D A (hm_W cB k0 k1 u2 th bf)) ([.ref k0, .long (lN n)] : List Value).toArray s 1 6 A) (F0 m 10 ls []) := by
    intro f
    induction f with
    | zero =>
      intro b H locs ls hk gb1 gb2 hw hl kf kx
      refine lv_lload hx hb dX2_take_10 (lv_at hl 0 rfl) ?_
      refine lv_aload_n hx hb dX2_take_12 rfl (lv_at hl 2 rfl) ?_
      refine va_get (D := D) (ci := 2) (v := .int (nI u.2.1)) (C := RX2) (T := TX2) (N := 5) hx hb hts hi2 hown hK hw.1 0 rfl rfl 1 (by decide) (hts (.fieldLink RX2 14 "HeapRowModel" "end" "I") (by decide +kernel)) (fun _ h9 => h9) rfl dX2_take_13 ?_
      refine lv_i2l (v := lN u.2.1) hx hb dX2_take_16 (nI_l (by omega)) ?_
      refine hn_lge (a := b) (b := u.2.1) (tgt := 134) hx hb (by omega) (by omega) dX2_take_17 dX2_take_18 (by decide) (fun hc => ?_) (fun hc => ?_)
      · exact kx _ _ _ rfl hw (lv_sub hl [1, 2, 3] rfl)
      · exact absurd hc (by omega)
    | succ f ih =>
      intro b H locs ls hk gb1 gb2 hw hl kf kx
      have gn := ph_n_lt u.1 b
      unfold ph_ff at kf kx
      refine lv_lload hx hb dX2_take_10 (lv_at hl 0 rfl) ?_
      refine lv_aload_n hx hb dX2_take_12 rfl (lv_at hl 2 rfl) ?_
      refine va_get (D := D) (ci := 2) (v := .int (nI u.2.1)) (C := RX2) (T := TX2) (N := 5) hx hb hts hi2 hown hK hw.1 0 rfl rfl 1 (by decide) (hts (.fieldLink RX2 14 "HeapRowModel" "end" "I") (by decide +kernel)) (fun _ h9 => h9) rfl dX2_take_13 ?_
      refine lv_i2l (v := lN u.2.1) hx hb dX2_take_16 (nI_l (by omega)) ?_
      refine hn_lge (a := b) (b := u.2.1) (tgt := 134) hx hb (by omega) (by omega) dX2_take_17 dX2_take_18 (by decide) (fun hc => ?_) (fun hc => ?_)
      · rw [if_neg (by omega)] at kx
        exact kx _ _ _ rfl hw (lv_sub hl [1, 2, 3] rfl)
      · rw [if_pos hc] at kf kx
        refine lv_aload_n hx hb dX2_take_21 rfl (lv_at hl 2 rfl) ?_
        refine lv_lload hx hb dX2_take_22 (lv_at hl 0 rfl) ?_
        refine hx_callV (rest := []) (n := 1) S hw (m_sizeAt l hst D tys cB ht k0 k1 u th bf b ⟨by omega, by omega⟩) gX2_take_X2_sizeAt rfl (by decide +kernel) rfl ⟨Nat.le_of_ble_eq_true rfl, Nat.le_of_ble_eq_true rfl⟩ 0 2 rfl rfl hm_adr hl.1 rfl (Nat.le_of_ble_eq_true rfl) ⟨by decide, by decide⟩ dX2_take_24 (fun H locs hw => ?_)
        refine W.eq (g2 := F0 m 27 ls [.long (lN (ph_n u.1 b))]) rfl ?_
        refine lv_lstore (lv' := [(7, .long (lN (ph_n u.1 b))), (5, .long (lN b)), (3, .long (lN (ph_up n))), (0, .ref k0), (1, .long (lN n))]) hx hb dX2_take_27 hl (by decide) rfl (fun ls hl => ?_)
        refine lv_aload_n hx hb dX2_take_29 rfl (lv_at hl 3 rfl) ?_
        refine lv_lload hx hb dX2_take_30 (lv_at hl 1 rfl) ?_
        refine hx_callV (rest := []) (n := 1) S hw (m_takenAt l hst D tys cB ht k0 k1 u th bf b ⟨by omega, by omega⟩) gX2_take_X2_takenAt rfl (by decide +kernel) rfl ⟨Nat.le_of_ble_eq_true rfl, Nat.le_of_ble_eq_true rfl⟩ 0 2 rfl rfl hm_adr hl.1 rfl (Nat.le_of_ble_eq_true rfl) ⟨by decide, by decide⟩ dX2_take_32 (fun H locs hw => ?_)
        refine W.eq (g2 := F0 m 35 ls [.int (if ph_n u.1 (b + 4) = 1 then nI 1 else nI 0)]) rfl ?_
        refine lv_istore (lv' := [(9, .int (if ph_n u.1 (b + 4) = 1 then nI 1 else nI 0)), (7, .long (lN (ph_n u.1 b))), (5, .long (lN b)), (3, .long (lN (ph_up n))), (0, .ref k0), (1, .long (lN n))]) hx hb dX2_take_35 hl (by decide) rfl (fun ls hl => ?_)
        refine lv_iload hx hb dX2_take_37 (lv_at hl 0 rfl) ?_
        refine hn_pne (tgt := 120) hx hb dX2_take_39 (by decide) (fun hc2 => ?_) (fun hc2 => ?_)
        · rw [if_neg (fun z => z.1 hc2)] at kf kx
          refine lv_lload hx hb dX2_take_120 (lv_at hl 2 rfl) ?_
          refine lv_ldc2 (v := lN 8) hx hb hown (hts (.constantLong RX2 69 (lN 8)) (by decide +kernel)) dX2_take_122 ?_
          refine hn_ladd (v := lN (b + 8)) hx hb dX2_take_125 (lN_add _ _) ?_
          refine lv_lload hx hb dX2_take_126 (lv_at hl 1 rfl) ?_
          refine hn_ladd (v := lN ((b + 8) + (ph_n u.1 b))) hx hb dX2_take_128 (lN_add _ _) ?_
          refine lv_lstore (lv' := [(5, .long (lN ((b + 8) + (ph_n u.1 b)))), (9, .int (if ph_n u.1 (b + 4) = 1 then nI 1 else nI 0)), (7, .long (lN (ph_n u.1 b))), (3, .long (lN (ph_up n))), (0, .ref k0), (1, .long (lN n))]) hx hb dX2_take_129 hl (by decide) rfl (fun ls hl => ?_)
          refine lv_goto (tgt := 10) hx hb dX2_take_131 (by decide) ?_
          exact ih (b + 8 + ph_n u.1 b) _ _ _ (by omega) (by omega) (by omega) hw (lv_sub hl [0, 3, 4, 5] rfl) kf kx
        · refine lv_lload hx hb dX2_take_42 (lv_at hl 1 rfl) ?_
          refine lv_lload_n hx hb dX2_take_44 rfl (lv_at hl 3 rfl) ?_
          refine hn_llt (a := (ph_n u.1 b)) (b := (ph_up n)) (tgt := 120) hx hb (by omega) (by omega) dX2_take_45 dX2_take_46 (by decide) (fun hc3 => ?_) (fun hc3 => ?_)
          · rw [if_neg (fun z => absurd z.2 (by omega))] at kf kx
            refine lv_lload hx hb dX2_take_120 (lv_at hl 2 rfl) ?_
            refine lv_ldc2 (v := lN 8) hx hb hown (hts (.constantLong RX2 69 (lN 8)) (by decide +kernel)) dX2_take_122 ?_
            refine hn_ladd (v := lN (b + 8)) hx hb dX2_take_125 (lN_add _ _) ?_
            refine lv_lload hx hb dX2_take_126 (lv_at hl 1 rfl) ?_
            refine hn_ladd (v := lN ((b + 8) + (ph_n u.1 b))) hx hb dX2_take_128 (lN_add _ _) ?_
            refine lv_lstore (lv' := [(5, .long (lN ((b + 8) + (ph_n u.1 b)))), (9, .int (if ph_n u.1 (b + 4) = 1 then nI 1 else nI 0)), (7, .long (lN (ph_n u.1 b))), (3, .long (lN (ph_up n))), (0, .ref k0), (1, .long (lN n))]) hx hb dX2_take_129 hl (by decide) rfl (fun ls hl => ?_)
            refine lv_goto (tgt := 10) hx hb dX2_take_131 (by decide) ?_
            exact ih (b + 8 + ph_n u.1 b) _ _ _ (by omega) (by omega) (by omega) hw (lv_sub hl [0, 3, 4, 5] rfl) kf kx
          · rw [if_pos ⟨hc2, hc3⟩] at kf
            exact kf b _ _ _ rfl hw (lv_sub hl [0, 1, 2, 3, 4, 5] rfl)
  refine loop 8064 1024 _ _ _ (by omega) (by decide) (by decide) hw (lv_sub hl [0, 1, 2, 3] rfl) (fun b H locs ls hy hw hl => ?_) (fun H locs ls hy hw hl => ?_)
  · rw [hy] at h
    dsimp only at h
    obtain ⟨f1, f2, f3, f4⟩ := ph_ff_some _ _ hy
    have gn := ph_n_lt u.1 b
    refine lv_lload hx hb dX2_take_49 (lv_at hl 1 rfl) ?_
    refine lv_lload_n hx hb dX2_take_51 rfl (lv_at hl 3 rfl) ?_
    refine hn_lsub (v := lN ((ph_n u.1 b) - (ph_up n))) hx hb dX2_take_52 (lN_sub (by omega)) ?_
    refine lv_ldc2 (v := lN 16) hx hb hown (hts (.constantLong RX2 76 (lN 16)) (by decide +kernel)) dX2_take_53 ?_
    refine hn_llt (a := ((ph_n u.1 b) - (ph_up n))) (b := 16) (tgt := 102) hx hb (by omega) (by omega) dX2_take_56 dX2_take_57 (by decide) (fun hk1 => ?_) (fun hk1 => ?_)
    · rw [if_pos (by omega)] at h
      cases h
    · rw [if_neg (by omega)] at h
      refine lv_aload_n hx hb dX2_take_60 rfl (lv_at hl 4 rfl) ?_
      refine lv_lload hx hb dX2_take_61 (lv_at hl 2 rfl) ?_
      refine lv_ldc2 (v := lN 8) hx hb hown (hts (.constantLong RX2 69 (lN 8)) (by decide +kernel)) dX2_take_63 ?_
      refine hn_ladd (v := lN (b + 8)) hx hb dX2_take_66 (lN_add _ _) ?_
      refine lv_lload_n hx hb dX2_take_67 rfl (lv_at hl 3 rfl) ?_
      refine hn_ladd (v := lN ((b + 8) + (ph_up n))) hx hb dX2_take_68 (lN_add _ _) ?_
      refine lv_lload hx hb dX2_take_69 (lv_at hl 1 rfl) ?_
      refine lv_lload_n hx hb dX2_take_71 rfl (lv_at hl 3 rfl) ?_
      refine hn_lsub (v := lN ((ph_n u.1 b) - (ph_up n))) hx hb dX2_take_72 (lN_sub (by omega)) ?_
      refine lv_ldc2 (v := lN 8) hx hb hown (hts (.constantLong RX2 69 (lN 8)) (by decide +kernel)) dX2_take_73 ?_
      refine hn_lsub (v := lN (((ph_n u.1 b) - (ph_up n)) - 8)) hx hb dX2_take_76 (lN_sub (by omega)) ?_
      refine lv_l2i (v := nI (((ph_n u.1 b) - (ph_up n)) - 8)) hx hb dX2_take_77 (lN_i _) ?_
      by_cases kw : (ph_wh u.1 (b + 8 + ph_up n) (ph_n u.1 b - ph_up n - 8) 0).1 = true
      · rw [if_pos kw] at h
        obtain ⟨g1, g2, g3⟩ := ph_wh_t kw
        rw [g3] at h
        cases h
      · rw [if_neg kw] at h
        rcases ph_wh_f kw with ⟨g1, g3⟩ | ⟨g1, g2, g3⟩
        · rw [g3] at h
          cases h
          exact hx_thr (rest := []) (n := 2) S hno hw (mx_set l hst D tys cB ht k0 k1 u th bf (b + 8 + ph_up n) (ph_n u.1 b - ph_up n - 8) (by omega) g1) gX2_take_X2_set rfl (by decide +kernel) rfl ⟨Nat.le_of_ble_eq_true rfl, Nat.le_of_ble_eq_true rfl⟩ 0 2 rfl rfl hm_adr hl.1 rfl (Nat.le_of_ble_eq_true rfl) ⟨by decide, by decide⟩ dX2_take_78
        · rw [g3] at h
          cases h
          refine hx_callV (rest := []) (n := 2) S hw (m_set l hst D tys cB ht k0 k1 u th bf (b + 8 + ph_up n) (ph_n u.1 b - ph_up n - 8) (by omega) g1) gX2_take_X2_set rfl (by decide +kernel) rfl ⟨Nat.le_of_ble_eq_true rfl, Nat.le_of_ble_eq_true rfl⟩ 0 2 rfl rfl hm_adr hl.1 rfl (Nat.le_of_ble_eq_true rfl) ⟨by decide, by decide⟩ dX2_take_78 (fun H locs hw => ?_)
          refine W.eq (g2 := F0 m 81 ls []) rfl ?_
          refine lv_aload_n hx hb dX2_take_81 rfl (lv_at hl 4 rfl) ?_
          refine lv_lload hx hb dX2_take_82 (lv_at hl 2 rfl) ?_
          refine lv_ldc2 (v := lN 12) hx hb hown (hts (.constantLong RX2 81 (lN 12)) (by decide +kernel)) dX2_take_84 ?_
          refine hn_ladd (v := lN (b + 12)) hx hb dX2_take_87 (lN_add _ _) ?_
          refine lv_lload_n hx hb dX2_take_88 rfl (lv_at hl 3 rfl) ?_
          refine hn_ladd (v := lN ((b + 12) + (ph_up n))) hx hb dX2_take_89 (lN_add _ _) ?_
          refine lv_iconst (v := nI 0) hx hb dX2_take_90 (by decide +kernel) ?_
          rw [show b + 12 + ph_up n = b + 8 + ph_up n + 4 from by omega]
          exact hx_thr (rest := []) (n := 2) S hno hw (mx_set l hst D tys cB ht k0 k1 (ph_sn u.1 (b + 8 + ph_up n) (ph_n u.1 b - ph_up n - 8), u.2) th bf (b + 8 + ph_up n + 4) 0 (by omega) g2) gX2_take_X2_set rfl (by decide +kernel) rfl ⟨Nat.le_of_ble_eq_true rfl, Nat.le_of_ble_eq_true rfl⟩ 0 2 rfl rfl hm_adr hl.1 rfl (Nat.le_of_ble_eq_true rfl) ⟨by decide, by decide⟩ dX2_take_91
  · rw [hy] at h
    dsimp only at h
    split at h <;> cases h
end
section
/-! HeapRowModel: give, resized -/
set_option maxHeartbeats 4000000 in
set_option maxRecDepth 100000 in
theorem m_give0 (l : Launch) (hst : l.stackTraces = false) (D : va_G) (tys : List (ClassId × FieldType)) (cB : ClassId) (ht : tys[1]? = some (cB, .byte)) (k0 k1 : Nat) (u : ph_H) (th : Int32) (bf : Int64) : hx_R l D tys yX2_give wsX2_give 10 176 [.ref k0, .int (nI 0)] (hm_W cB k0 k1 u th bf) (hm_W cB k0 k1 u th bf) (some (.int (nI 0))) := by
  refine hx_R.ofW (cc := cX2_give) (maxL := 10) (ret := (some .boolean)) (by decide) rfl (Nat.le_of_ble_eq_true rfl) ?_
  intro p e s m below meth c A ls hr S hw hl
  have S : hx_S p l s m _ meth c cX2_give 10 wsX2_give RX2 A D tys := S
  obtain ⟨⟨hx, hb, hml, hown, hts⟩, hK, hA, hE, hlk⟩ := id S
  have hl : lv_has ls 10 [(0, .ref k0), (1, .int (nI 0))] := hl
  refine lv_iload_n hx hb dX2_give_0 rfl (lv_at hl 1 rfl) ?_
  refine hn_zne (n := 0) (tgt := 6) hx hb (by omega) dX2_give_1 (by decide) (fun hc => ?_) (fun hc => ?_)
  · exact absurd rfl hc
  · refine lv_iconst (v := nI 0) hx hb dX2_give_4 (by decide +kernel) ?_
    exact hx_zret S hr rfl hw dX2_give_5
set_option maxHeartbeats 4000000 in
set_option maxRecDepth 100000 in
theorem m_give (l : Launch) (hst : l.stackTraces = false) (D : va_G) (tys : List (ClassId × FieldType)) (cB : ClassId) (ht : tys[1]? = some (cB, .byte)) (k0 k1 : Nat) (u : ph_H) (th : Int32) (bf : Int64) (a : Nat) (u2 : ph_H) (hu : ph_I u) (ha : a < 4294967296) (ha0 : a ≠ 0) (h : ph_give u a = (true, u2)) : ∃ bf2 : Int64, hx_R l D tys yX2_give wsX2_give 10 176 [.ref k0, .int (nI a)] (hm_W cB k0 k1 u th bf) (hm_W cB k0 k1 u2 th bf2) (some (.int (nI 1))) := by
  unfold ph_give at h
  rcases hf : ph_fd u.1 u.2.1 a 8064 0 1024 with _ | ⟨b, p0⟩
  · rw [hf] at h; cases h
  · rw [hf] at h
    dsimp only at h
    cases h
    obtain ⟨j1, j2, j3, j4, j5, j6⟩ := ph_fd_at hf
    have hu9 := hu
    obtain ⟨i1, i2, i3, i4⟩ := hu9
    have gn := ph_n_lt u.1 b
    refine ⟨hm_bf p0, ?_⟩
    refine hx_R.ofW (cc := cX2_give) (maxL := 10) (ret := (some .boolean)) (by decide) rfl (Nat.le_of_ble_eq_true rfl) ?_
    intro p e s m below meth c A ls hr S hw hl
    have S : hx_S p l s m _ meth c cX2_give 10 wsX2_give RX2 A D tys := S
    obtain ⟨⟨hx, hb, hml, hown, hts⟩, hK, hA, hE, hlk⟩ := id S
    have hi2 : ∀ w ∈ wsX20, w ∈ wsX2_give := by decide +kernel
    have hl : lv_has ls 10 [(0, .ref k0), (1, .int (nI a))] := hl
    refine lv_iload_n hx hb dX2_give_0 rfl (lv_at hl 1 rfl) ?_
    refine hn_zne (n := a) (tgt := 6) hx hb (by omega) dX2_give_1 (by decide) (fun hc => ?_) (fun hc => ?_)
    · refine lv_aload_n hx hb dX2_give_6 rfl (lv_at hl 0 rfl) ?_
      refine lv_iload_n hx hb dX2_give_7 rfl (lv_at hl 1 rfl) ?_
      refine hx_callV (rest := []) (n := 1) S hw (m_found l hst D tys cB ht k0 k1 u th bf a b p0 hu ha hf) gX2_give_X2_found rfl (by decide +kernel) rfl ⟨Nat.le_of_ble_eq_true rfl, Nat.le_of_ble_eq_true rfl⟩ 0 2 rfl rfl hm_adr hl.1 rfl (Nat.le_of_ble_eq_true rfl) ⟨by decide, by decide⟩ dX2_give_8 (fun H locs hw => ?_)
      refine W.eq (g2 := F0 m 11 ls [.long (lN b)]) rfl ?_
      refine lv_lstore_n (lv' := [(2, .long (lN b)), (0, .ref k0), (1, .int (nI a))]) hx hb dX2_give_11 rfl hl (by decide) rfl (fun ls hl => ?_)
      refine lv_aload_n hx hb dX2_give_12 rfl (lv_at hl 1 rfl) ?_
      refine va_get (D := D) (ci := 2) (v := .long (hm_bf p0)) (C := RX2) (T := TX2) (N := 5) hx hb hts hi2 hown hK hw.1 0 rfl rfl 4 (by decide) (hts (.fieldLink RX2 58 "HeapRowModel" "before" "J") (by decide +kernel)) (fun _ h9 => h9) rfl dX2_give_13 ?_
      refine lv_lstore (lv' := [(4, .long (hm_bf p0)), (2, .long (lN b)), (0, .ref k0), (1, .int (nI a))]) hx hb dX2_give_16 hl (by decide) rfl (fun ls hl => ?_)
      refine lv_aload_n hx hb dX2_give_18 rfl (lv_at hl 2 rfl) ?_
      refine lv_lload_n hx hb dX2_give_19 rfl (lv_at hl 1 rfl) ?_
      refine hx_callV (rest := []) (n := 1) S hw (m_sizeAt l hst D tys cB ht k0 k1 u th (hm_bf p0) b ⟨by omega, by omega⟩) gX2_give_X2_sizeAt rfl (by decide +kernel) rfl ⟨Nat.le_of_ble_eq_true rfl, Nat.le_of_ble_eq_true rfl⟩ 0 2 rfl rfl hm_adr hl.1 rfl (Nat.le_of_ble_eq_true rfl) ⟨by decide, by decide⟩ dX2_give_20 (fun H locs hw => ?_)
      refine W.eq (g2 := F0 m 23 ls [.long (lN (ph_n u.1 b))]) rfl ?_
      refine lv_lstore (lv' := [(6, .long (lN (ph_n u.1 b))), (4, .long (hm_bf p0)), (2, .long (lN b)), (0, .ref k0), (1, .int (nI a))]) hx hb dX2_give_23 hl (by decide) rfl (fun ls hl => ?_)
      refine lv_aload_n hx hb dX2_give_25 rfl (lv_at hl 3 rfl) ?_
      refine lv_lload_n hx hb dX2_give_26 rfl (lv_at hl 2 rfl) ?_
      refine lv_ldc2 (v := lN 4) hx hb hown (hts (.constantLong RX2 54 (lN 4)) (by decide +kernel)) dX2_give_27 ?_
      refine hn_ladd (v := lN (b + 4)) hx hb dX2_give_30 (lN_add _ _) ?_
      refine lv_iconst (v := nI 0) hx hb dX2_give_31 (by decide +kernel) ?_
      refine hx_callV (rest := []) (n := 2) S hw (m_set l hst D tys cB ht k0 k1 u th (hm_bf p0) (b + 4) 0 (by decide) ⟨by omega, by omega⟩) gX2_give_X2_set rfl (by decide +kernel) rfl ⟨Nat.le_of_ble_eq_true rfl, Nat.le_of_ble_eq_true rfl⟩ 0 2 rfl rfl hm_adr hl.1 rfl (Nat.le_of_ble_eq_true rfl) ⟨by decide, by decide⟩ dX2_give_32 (fun H locs hw => ?_)
      refine W.eq (g2 := F0 m 35 ls []) rfl ?_
      refine lv_lload_n hx hb dX2_give_35 rfl (lv_at hl 2 rfl) ?_
      refine lv_ldc2 (v := lN 8) hx hb hown (hts (.constantLong RX2 69 (lN 8)) (by decide +kernel)) dX2_give_36 ?_
      refine hn_ladd (v := lN (b + 8)) hx hb dX2_give_39 (lN_add _ _) ?_
      refine lv_lload hx hb dX2_give_40 (lv_at hl 0 rfl) ?_
      refine hn_ladd (v := lN ((b + 8) + (ph_n u.1 b))) hx hb dX2_give_42 (lN_add _ _) ?_
      refine lv_lstore (lv' := [(8, .long (lN ((b + 8) + (ph_n u.1 b)))), (6, .long (lN (ph_n u.1 b))), (4, .long (hm_bf p0)), (2, .long (lN b)), (0, .ref k0), (1, .int (nI a))]) hx hb dX2_give_43 hl (by decide) rfl (fun ls hl => ?_)
      refine lv_lload hx hb dX2_give_45 (lv_at hl 0 rfl) ?_
      refine lv_aload_n hx hb dX2_give_47 rfl (lv_at hl 4 rfl) ?_
      refine va_get (D := D) (ci := 2) (v := .int (nI u.2.1)) (C := RX2) (T := TX2) (N := 5) hx hb hts hi2 hown hK hw.1 0 rfl rfl 1 (by decide) (hts (.fieldLink RX2 14 "HeapRowModel" "end" "I") (by decide +kernel)) (fun _ h9 => h9) rfl dX2_give_48 ?_
      refine lv_i2l (v := lN u.2.1) hx hb dX2_give_51 (nI_l (by omega)) ?_
      refine hn_lge (a := ((b + 8) + (ph_n u.1 b))) (b := u.2.1) (tgt := 102) hx hb (by omega) (by omega) dX2_give_52 dX2_give_53 (by decide) (fun hc2 => ?_) (fun hc2 => ?_)
      · obtain ⟨e1, e2⟩ := hm_g1b (m := u.1) (e := u.2.1) (b := b) (fun z => absurd z.1 (by omega))
        have hw : hx_w D A s.heap (hm_W cB k0 k1 (ph_g1 u.1 u.2.1 b, u.2) th (hm_bf p0)) H locs := by rw [← e1]; exact hw
        have hl : lv_has ls 10 [(8, .long (lN ((b + 8) + (ph_n u.1 b)))), (6, .long (lN (ph_n (ph_g1 u.1 u.2.1 b) b))), (4, .long (hm_bf p0)), (2, .long (lN b)), (0, .ref k0), (1, .int (nI a))] := by rw [e2]; exact hl
        have gg := ph_n_lt (ph_g1 u.1 u.2.1 b) b
        have gp := ph_n_lt (ph_g1 u.1 u.2.1 b) p0
        refine lv_lload hx hb dX2_give_102 (lv_at hl 2 rfl) ?_
        refine lv_lconst (v := lN 0) hx hb dX2_give_104 (by decide +kernel) ?_
        by_cases kp : p0 = 0
        · have eb : hm_bf p0 = (-1) := if_pos kp
          refine W.lcmp hx hb dX2_give_105 ?_
          refine lv_if_lt (tgt := 160) hx hb dX2_give_106 (by decide) (fun _ => ?_) (fun z => absurd (show lg_cmp (hm_bf p0) (lN 0) < 0 from by rw [eb]; decide +kernel) z)
          obtain ⟨e4, e5⟩ := hm_g2b (m := u.1) (e := u.2.1) (b := b) (p := p0) (fun z => z.1 kp)
          have hw : hx_w D A s.heap (hm_W cB k0 k1 (ph_g2 u.1 u.2.1 b p0, u.2) th (hm_bf p0)) H locs := by rw [← e4]; exact hw
          have gJ : 1024 ≤ ph_gj u.1 u.2.1 b p0 ∧ ph_gj u.1 u.2.1 b p0 < 61440 := by rw [e5]; omega
          have hl : lv_has ls 10 [(8, .long (lN ((b + 8) + (ph_n u.1 b)))), (6, .long (lN (ph_n (ph_g2 u.1 u.2.1 b p0) (ph_gj u.1 u.2.1 b p0)))), (4, .long (hm_bf p0)), (2, .long (lN (ph_gj u.1 u.2.1 b p0))), (0, .ref k0), (1, .int (nI a))] := by rw [e5, ← e4]; exact hl
          have gj := ph_n_lt (ph_g2 u.1 u.2.1 b p0) (ph_gj u.1 u.2.1 b p0)
          refine lv_lload_n hx hb dX2_give_160 rfl (lv_at hl 3 rfl) ?_
          refine lv_ldc2 (v := lN 8) hx hb hown (hts (.constantLong RX2 69 (lN 8)) (by decide +kernel)) dX2_give_161 ?_
          refine hn_ladd (v := lN ((ph_gj u.1 u.2.1 b p0) + 8)) hx hb dX2_give_164 (lN_add _ _) ?_
          refine lv_lload hx hb dX2_give_165 (lv_at hl 1 rfl) ?_
          refine hn_ladd (v := lN (((ph_gj u.1 u.2.1 b p0) + 8) + (ph_n (ph_g2 u.1 u.2.1 b p0) (ph_gj u.1 u.2.1 b p0)))) hx hb dX2_give_167 (lN_add _ _) ?_
          refine lv_aload_n hx hb dX2_give_168 rfl (lv_at hl 4 rfl) ?_
          refine va_get (D := D) (ci := 2) (v := .int (nI u.2.1)) (C := RX2) (T := TX2) (N := 5) hx hb hts hi2 hown hK hw.1 0 rfl rfl 1 (by decide) (hts (.fieldLink RX2 14 "HeapRowModel" "end" "I") (by decide +kernel)) (fun _ h9 => h9) rfl dX2_give_169 ?_
          refine lv_i2l (v := lN u.2.1) hx hb dX2_give_172 (nI_l (by omega)) ?_
          refine hn_lne (a := (((ph_gj u.1 u.2.1 b p0) + 8) + (ph_n (ph_g2 u.1 u.2.1 b p0) (ph_gj u.1 u.2.1 b p0)))) (b := u.2.1) (tgt := 183) hx hb (by omega) (by omega) dX2_give_173 dX2_give_174 (by decide) (fun hd => ?_) (fun hd => ?_)
          · have e3 : ph_ge u.1 u.2.1 b p0 = u.2.1 := if_neg hd
            have hw : hx_w D A s.heap (hm_W cB k0 k1 (ph_gb u b p0) th (hm_bf p0)) H locs := by unfold ph_gb; rw [e3]; exact hw
            refine lv_iconst (v := nI 1) hx hb dX2_give_183 (by decide +kernel) ?_
            exact hx_zret S hr rfl hw dX2_give_184
          · have e3 : ph_ge u.1 u.2.1 b p0 = ph_gj u.1 u.2.1 b p0 := if_pos hd
            refine lv_aload_n hx hb dX2_give_177 rfl (lv_at hl 4 rfl) ?_
            refine lv_lload_n hx hb dX2_give_178 rfl (lv_at hl 3 rfl) ?_
            refine lv_l2i (v := nI (ph_gj u.1 u.2.1 b p0)) hx hb dX2_give_179 (lN_i _) ?_
            refine va_put (D := D) (ci := 2) (v := .int (nI (ph_gj u.1 u.2.1 b p0))) (ty := .int) (C := RX2) (T := TX2) (N := 5) hx hb hts hi2 tyX2 tyX2_ok nmX2 hown hK hw.1 hw.2.1 hw.2.2 0 rfl rfl 1 (by decide) (hts (.fieldLink RX2 14 "HeapRowModel" "end" "I") (by decide +kernel)) (fun _ h9 => h9) rfl (by decide +kernel) rfl rfl (Nat.le_of_ble_eq_true rfl) dX2_give_180 (fun H locs y1 y2 y3 => ?_)
            have hw : hx_w D A s.heap (hm_W cB k0 k1 (ph_g2 u.1 u.2.1 b p0, ph_gj u.1 u.2.1 b p0, u.2.2) th (hm_bf p0)) H locs := ⟨y1, y2, y3⟩
            have hw : hx_w D A s.heap (hm_W cB k0 k1 (ph_gb u b p0) th (hm_bf p0)) H locs := by unfold ph_gb; rw [e3]; exact hw
            refine lv_iconst (v := nI 1) hx hb dX2_give_183 (by decide +kernel) ?_
            exact hx_zret S hr rfl hw dX2_give_184
        · have eb : hm_bf p0 = lN p0 := if_neg kp
          refine W.eq (g2 := F0 m 105 ls [.long (lN 0), .long (lN p0)]) (by rw [eb]) ?_
          refine hn_llt (a := p0) (b := 0) (tgt := 160) hx hb (by omega) (by omega) dX2_give_105 dX2_give_106 (by decide) (fun hc5 => ?_) (fun hc5 => ?_)
          · exact absurd hc5 (by omega)
          · have hl : lv_has ls 10 [(8, .long (lN ((b + 8) + (ph_n u.1 b)))), (6, .long (lN (ph_n (ph_g1 u.1 u.2.1 b) b))), (4, .long (lN p0)), (2, .long (lN b)), (0, .ref k0), (1, .int (nI a))] := by rw [← eb]; exact hl
            refine lv_aload_n hx hb dX2_give_109 rfl (lv_at hl 4 rfl) ?_
            refine lv_lload hx hb dX2_give_110 (lv_at hl 2 rfl) ?_
            refine hx_callV (rest := []) (n := 1) S hw (m_takenAt l hst D tys cB ht k0 k1 (ph_g1 u.1 u.2.1 b, u.2) th (hm_bf p0) p0 ⟨by omega, by omega⟩) gX2_give_X2_takenAt rfl (by decide +kernel) rfl ⟨Nat.le_of_ble_eq_true rfl, Nat.le_of_ble_eq_true rfl⟩ 0 2 rfl rfl hm_adr hl.1 rfl (Nat.le_of_ble_eq_true rfl) ⟨by decide, by decide⟩ dX2_give_112 (fun H locs hw => ?_)
            refine W.eq (g2 := F0 m 115 ls [.int (if ph_n (ph_g1 u.1 u.2.1 b) (p0 + 4) = 1 then nI 1 else nI 0)]) rfl ?_
            refine hn_pne (tgt := 160) hx hb dX2_give_115 (by decide) (fun hc6 => ?_) (fun hc6 => ?_)
            · obtain ⟨e4, e5⟩ := hm_g2b (m := u.1) (e := u.2.1) (b := b) (p := p0) (fun z => z.2 hc6)
              have hw : hx_w D A s.heap (hm_W cB k0 k1 (ph_g2 u.1 u.2.1 b p0, u.2) th (hm_bf p0)) H locs := by rw [← e4]; exact hw
              have gJ : 1024 ≤ ph_gj u.1 u.2.1 b p0 ∧ ph_gj u.1 u.2.1 b p0 < 61440 := by rw [e5]; omega
              have hl : lv_has ls 10 [(8, .long (lN ((b + 8) + (ph_n u.1 b)))), (6, .long (lN (ph_n (ph_g2 u.1 u.2.1 b p0) (ph_gj u.1 u.2.1 b p0)))), (4, .long (lN p0)), (2, .long (lN (ph_gj u.1 u.2.1 b p0))), (0, .ref k0), (1, .int (nI a))] := by rw [e5, ← e4]; exact hl
              have gj := ph_n_lt (ph_g2 u.1 u.2.1 b p0) (ph_gj u.1 u.2.1 b p0)
              refine lv_lload_n hx hb dX2_give_160 rfl (lv_at hl 3 rfl) ?_
              refine lv_ldc2 (v := lN 8) hx hb hown (hts (.constantLong RX2 69 (lN 8)) (by decide +kernel)) dX2_give_161 ?_
              refine hn_ladd (v := lN ((ph_gj u.1 u.2.1 b p0) + 8)) hx hb dX2_give_164 (lN_add _ _) ?_
              refine lv_lload hx hb dX2_give_165 (lv_at hl 1 rfl) ?_
              refine hn_ladd (v := lN (((ph_gj u.1 u.2.1 b p0) + 8) + (ph_n (ph_g2 u.1 u.2.1 b p0) (ph_gj u.1 u.2.1 b p0)))) hx hb dX2_give_167 (lN_add _ _) ?_
              refine lv_aload_n hx hb dX2_give_168 rfl (lv_at hl 4 rfl) ?_
              refine va_get (D := D) (ci := 2) (v := .int (nI u.2.1)) (C := RX2) (T := TX2) (N := 5) hx hb hts hi2 hown hK hw.1 0 rfl rfl 1 (by decide) (hts (.fieldLink RX2 14 "HeapRowModel" "end" "I") (by decide +kernel)) (fun _ h9 => h9) rfl dX2_give_169 ?_
              refine lv_i2l (v := lN u.2.1) hx hb dX2_give_172 (nI_l (by omega)) ?_
              refine hn_lne (a := (((ph_gj u.1 u.2.1 b p0) + 8) + (ph_n (ph_g2 u.1 u.2.1 b p0) (ph_gj u.1 u.2.1 b p0)))) (b := u.2.1) (tgt := 183) hx hb (by omega) (by omega) dX2_give_173 dX2_give_174 (by decide) (fun hd => ?_) (fun hd => ?_)
              · have e3 : ph_ge u.1 u.2.1 b p0 = u.2.1 := if_neg hd
                have hw : hx_w D A s.heap (hm_W cB k0 k1 (ph_gb u b p0) th (hm_bf p0)) H locs := by unfold ph_gb; rw [e3]; exact hw
                refine lv_iconst (v := nI 1) hx hb dX2_give_183 (by decide +kernel) ?_
                exact hx_zret S hr rfl hw dX2_give_184
              · have e3 : ph_ge u.1 u.2.1 b p0 = ph_gj u.1 u.2.1 b p0 := if_pos hd
                refine lv_aload_n hx hb dX2_give_177 rfl (lv_at hl 4 rfl) ?_
                refine lv_lload_n hx hb dX2_give_178 rfl (lv_at hl 3 rfl) ?_
                refine lv_l2i (v := nI (ph_gj u.1 u.2.1 b p0)) hx hb dX2_give_179 (lN_i _) ?_
                refine va_put (D := D) (ci := 2) (v := .int (nI (ph_gj u.1 u.2.1 b p0))) (ty := .int) (C := RX2) (T := TX2) (N := 5) hx hb hts hi2 tyX2 tyX2_ok nmX2 hown hK hw.1 hw.2.1 hw.2.2 0 rfl rfl 1 (by decide) (hts (.fieldLink RX2 14 "HeapRowModel" "end" "I") (by decide +kernel)) (fun _ h9 => h9) rfl (by decide +kernel) rfl rfl (Nat.le_of_ble_eq_true rfl) dX2_give_180 (fun H locs y1 y2 y3 => ?_)
                have hw : hx_w D A s.heap (hm_W cB k0 k1 (ph_g2 u.1 u.2.1 b p0, ph_gj u.1 u.2.1 b p0, u.2.2) th (hm_bf p0)) H locs := ⟨y1, y2, y3⟩
                have hw : hx_w D A s.heap (hm_W cB k0 k1 (ph_gb u b p0) th (hm_bf p0)) H locs := by unfold ph_gb; rw [e3]; exact hw
                refine lv_iconst (v := nI 1) hx hb dX2_give_183 (by decide +kernel) ?_
                exact hx_zret S hr rfl hw dX2_give_184
            · have gpb : p0 + 8 + ph_n u.1 p0 = b := by omega
              obtain ⟨e4, e5, e6⟩ := hm_g2a (m := u.1) (e := u.2.1) (b := b) (p := p0) kp gpb (by omega) hc6
              refine lv_aload_n hx hb dX2_give_118 rfl (lv_at hl 4 rfl) ?_
              refine lv_lload hx hb dX2_give_119 (lv_at hl 2 rfl) ?_
              refine hx_callV (rest := []) (n := 1) S hw (m_sizeAt l hst D tys cB ht k0 k1 (ph_g1 u.1 u.2.1 b, u.2) th (hm_bf p0) p0 ⟨by omega, by omega⟩) gX2_give_X2_sizeAt rfl (by decide +kernel) rfl ⟨Nat.le_of_ble_eq_true rfl, Nat.le_of_ble_eq_true rfl⟩ 0 2 rfl rfl hm_adr hl.1 rfl (Nat.le_of_ble_eq_true rfl) ⟨by decide, by decide⟩ dX2_give_121 (fun H locs hw => ?_)
              refine W.eq (g2 := F0 m 124 ls [.long (lN (ph_n (ph_g1 u.1 u.2.1 b) p0))]) rfl ?_
              refine lv_ldc2 (v := lN 8) hx hb hown (hts (.constantLong RX2 69 (lN 8)) (by decide +kernel)) dX2_give_124 ?_
              refine hn_ladd (v := lN ((ph_n (ph_g1 u.1 u.2.1 b) p0) + 8)) hx hb dX2_give_127 (lN_add _ _) ?_
              refine lv_lload hx hb dX2_give_128 (lv_at hl 1 rfl) ?_
              refine hn_ladd (v := lN (((ph_n (ph_g1 u.1 u.2.1 b) p0) + 8) + (ph_n (ph_g1 u.1 u.2.1 b) b))) hx hb dX2_give_130 (lN_add _ _) ?_
              refine lv_l2i (v := nI ((ph_n (ph_g1 u.1 u.2.1 b) p0 + 8 + ph_n (ph_g1 u.1 u.2.1 b) b) % 4294967296)) hx hb dX2_give_131 (by rw [lN_i]; exact hm_mod _) ?_
              refine hx_callS (rest := []) (n := 1) S hw (m_without l hst D tys cB ht k0 k1 (ph_g1 u.1 u.2.1 b, u.2) th (hm_bf p0) ((ph_n (ph_g1 u.1 u.2.1 b) p0 + 8 + ph_n (ph_g1 u.1 u.2.1 b) b) % 4294967296) (by omega)) gX2_give_X2_without rfl (by decide +kernel) rfl ⟨Nat.le_of_ble_eq_true rfl, Nat.le_of_ble_eq_true rfl⟩ hm_adr hl.1 rfl (Nat.le_of_ble_eq_true rfl) ⟨by decide, by decide⟩ dX2_give_132 (fun H locs hw => ?_)
              refine W.eq (g2 := F0 m 135 ls [.long (lN ((ph_n (ph_g1 u.1 u.2.1 b) p0 + 8 + ph_n (ph_g1 u.1 u.2.1 b) b) % 4294967296))]) rfl ?_
              refine lv_lstore (lv' := [(6, .long (lN ((ph_n (ph_g1 u.1 u.2.1 b) p0 + 8 + ph_n (ph_g1 u.1 u.2.1 b) b) % 4294967296))), (8, .long (lN ((b + 8) + (ph_n u.1 b)))), (4, .long (lN p0)), (2, .long (lN b)), (0, .ref k0), (1, .int (nI a))]) hx hb dX2_give_135 hl (by decide) rfl (fun ls hl => ?_)
              refine lv_aload_n hx hb dX2_give_137 rfl (lv_at hl 4 rfl) ?_
              refine lv_lload hx hb dX2_give_138 (lv_at hl 2 rfl) ?_
              refine lv_lload hx hb dX2_give_140 (lv_at hl 0 rfl) ?_
              refine lv_l2i (v := nI ((ph_n (ph_g1 u.1 u.2.1 b) p0 + 8 + ph_n (ph_g1 u.1 u.2.1 b) b) % 4294967296)) hx hb dX2_give_142 (lN_i _) ?_
              refine hx_callV (rest := []) (n := 2) S hw (m_set l hst D tys cB ht k0 k1 (ph_g1 u.1 u.2.1 b, u.2) th (hm_bf p0) p0 ((ph_n (ph_g1 u.1 u.2.1 b) p0 + 8 + ph_n (ph_g1 u.1 u.2.1 b) b) % 4294967296) (by omega) ⟨by omega, by omega⟩) gX2_give_X2_set rfl (by decide +kernel) rfl ⟨Nat.le_of_ble_eq_true rfl, Nat.le_of_ble_eq_true rfl⟩ 0 2 rfl rfl hm_adr hl.1 rfl (Nat.le_of_ble_eq_true rfl) ⟨by decide, by decide⟩ dX2_give_143 (fun H locs hw => ?_)
              refine W.eq (g2 := F0 m 146 ls []) rfl ?_
              refine lv_aload_n hx hb dX2_give_146 rfl (lv_at hl 4 rfl) ?_
              refine lv_lload hx hb dX2_give_147 (lv_at hl 2 rfl) ?_
              refine lv_ldc2 (v := lN 4) hx hb hown (hts (.constantLong RX2 54 (lN 4)) (by decide +kernel)) dX2_give_149 ?_
              refine hn_ladd (v := lN (p0 + 4)) hx hb dX2_give_152 (lN_add _ _) ?_
              refine lv_iconst (v := nI 0) hx hb dX2_give_153 (by decide +kernel) ?_
              refine hx_callV (rest := []) (n := 2) S hw (m_set l hst D tys cB ht k0 k1 (ph_sn (ph_g1 u.1 u.2.1 b) p0 ((ph_n (ph_g1 u.1 u.2.1 b) p0 + 8 + ph_n (ph_g1 u.1 u.2.1 b) b) % 4294967296), u.2) th (hm_bf p0) (p0 + 4) 0 (by decide) ⟨by omega, by omega⟩) gX2_give_X2_set rfl (by decide +kernel) rfl ⟨Nat.le_of_ble_eq_true rfl, Nat.le_of_ble_eq_true rfl⟩ 0 2 rfl rfl hm_adr hl.1 rfl (Nat.le_of_ble_eq_true rfl) ⟨by decide, by decide⟩ dX2_give_154 (fun H locs hw => ?_)
              refine W.eq (g2 := F0 m 157 ls []) rfl ?_
              have hw : hx_w D A s.heap (hm_W cB k0 k1 (ph_g2 u.1 u.2.1 b p0, u.2) th (hm_bf p0)) H locs := by rw [← e4]; exact hw
              refine lv_lload hx hb dX2_give_157 (lv_at hl 2 rfl) ?_
              refine lv_lstore_n (lv' := [(2, .long (lN p0)), (6, .long (lN ((ph_n (ph_g1 u.1 u.2.1 b) p0 + 8 + ph_n (ph_g1 u.1 u.2.1 b) b) % 4294967296))), (8, .long (lN ((b + 8) + (ph_n u.1 b)))), (4, .long (lN p0)), (0, .ref k0), (1, .int (nI a))]) hx hb dX2_give_159 rfl hl (by decide) rfl (fun ls hl => ?_)
              have gJ : 1024 ≤ ph_gj u.1 u.2.1 b p0 ∧ ph_gj u.1 u.2.1 b p0 < 61440 := by rw [e6]; omega
              have hl : lv_has ls 10 [(2, .long (lN (ph_gj u.1 u.2.1 b p0))), (6, .long (lN (ph_n (ph_g2 u.1 u.2.1 b p0) (ph_gj u.1 u.2.1 b p0)))), (8, .long (lN ((b + 8) + (ph_n u.1 b)))), (4, .long (lN p0)), (0, .ref k0), (1, .int (nI a))] := by rw [e5, e6]; exact hl
              have gj := ph_n_lt (ph_g2 u.1 u.2.1 b p0) (ph_gj u.1 u.2.1 b p0)
              refine lv_lload_n hx hb dX2_give_160 rfl (lv_at hl 0 rfl) ?_
              refine lv_ldc2 (v := lN 8) hx hb hown (hts (.constantLong RX2 69 (lN 8)) (by decide +kernel)) dX2_give_161 ?_
              refine hn_ladd (v := lN ((ph_gj u.1 u.2.1 b p0) + 8)) hx hb dX2_give_164 (lN_add _ _) ?_
              refine lv_lload hx hb dX2_give_165 (lv_at hl 1 rfl) ?_
              refine hn_ladd (v := lN (((ph_gj u.1 u.2.1 b p0) + 8) + (ph_n (ph_g2 u.1 u.2.1 b p0) (ph_gj u.1 u.2.1 b p0)))) hx hb dX2_give_167 (lN_add _ _) ?_
              refine lv_aload_n hx hb dX2_give_168 rfl (lv_at hl 4 rfl) ?_
              refine va_get (D := D) (ci := 2) (v := .int (nI u.2.1)) (C := RX2) (T := TX2) (N := 5) hx hb hts hi2 hown hK hw.1 0 rfl rfl 1 (by decide) (hts (.fieldLink RX2 14 "HeapRowModel" "end" "I") (by decide +kernel)) (fun _ h9 => h9) rfl dX2_give_169 ?_
              refine lv_i2l (v := lN u.2.1) hx hb dX2_give_172 (nI_l (by omega)) ?_
              refine hn_lne (a := (((ph_gj u.1 u.2.1 b p0) + 8) + (ph_n (ph_g2 u.1 u.2.1 b p0) (ph_gj u.1 u.2.1 b p0)))) (b := u.2.1) (tgt := 183) hx hb (by omega) (by omega) dX2_give_173 dX2_give_174 (by decide) (fun hd => ?_) (fun hd => ?_)
              · have e3 : ph_ge u.1 u.2.1 b p0 = u.2.1 := if_neg hd
                have hw : hx_w D A s.heap (hm_W cB k0 k1 (ph_gb u b p0) th (hm_bf p0)) H locs := by unfold ph_gb; rw [e3]; exact hw
                refine lv_iconst (v := nI 1) hx hb dX2_give_183 (by decide +kernel) ?_
                exact hx_zret S hr rfl hw dX2_give_184
              · have e3 : ph_ge u.1 u.2.1 b p0 = ph_gj u.1 u.2.1 b p0 := if_pos hd
                refine lv_aload_n hx hb dX2_give_177 rfl (lv_at hl 4 rfl) ?_
                refine lv_lload_n hx hb dX2_give_178 rfl (lv_at hl 0 rfl) ?_
                refine lv_l2i (v := nI (ph_gj u.1 u.2.1 b p0)) hx hb dX2_give_179 (lN_i _) ?_
                refine va_put (D := D) (ci := 2) (v := .int (nI (ph_gj u.1 u.2.1 b p0))) (ty := .int) (C := RX2) (T := TX2) (N := 5) hx hb hts hi2 tyX2 tyX2_ok nmX2 hown hK hw.1 hw.2.1 hw.2.2 0 rfl rfl 1 (by decide) (hts (.fieldLink RX2 14 "HeapRowModel" "end" "I") (by decide +kernel)) (fun _ h9 => h9) rfl (by decide +kernel) rfl rfl (Nat.le_of_ble_eq_true rfl) dX2_give_180 (fun H locs y1 y2 y3 => ?_)
                have hw : hx_w D A s.heap (hm_W cB k0 k1 (ph_g2 u.1 u.2.1 b p0, ph_gj u.1 u.2.1 b p0, u.2.2) th (hm_bf p0)) H locs := ⟨y1, y2, y3⟩
                have hw : hx_w D A s.heap (hm_W cB k0 k1 (ph_gb u b p0) th (hm_bf p0)) H locs := by unfold ph_gb; rw [e3]; exact hw
                refine lv_iconst (v := nI 1) hx hb dX2_give_183 (by decide +kernel) ?_
                exact hx_zret S hr rfl hw dX2_give_184
      · have gn2 := ph_n_lt (ph_sn u.1 (b + 4) 0) (b + 8 + ph_n u.1 b)
        refine lv_aload_n hx hb dX2_give_56 rfl (lv_at hl 4 rfl) ?_
        refine lv_lload hx hb dX2_give_57 (lv_at hl 0 rfl) ?_
        refine hx_callV (rest := []) (n := 1) S hw (m_takenAt l hst D tys cB ht k0 k1 (ph_sn u.1 (b + 4) 0, u.2) th (hm_bf p0) (b + 8 + ph_n u.1 b) ⟨by omega, by omega⟩) gX2_give_X2_takenAt rfl (by decide +kernel) rfl ⟨Nat.le_of_ble_eq_true rfl, Nat.le_of_ble_eq_true rfl⟩ 0 2 rfl rfl hm_adr hl.1 rfl (Nat.le_of_ble_eq_true rfl) ⟨by decide, by decide⟩ dX2_give_59 (fun H locs hw => ?_)
        refine W.eq (g2 := F0 m 62 ls [.int (if ph_n (ph_sn u.1 (b + 4) 0) ((b + 8 + ph_n u.1 b) + 4) = 1 then nI 1 else nI 0)]) rfl ?_
        refine hn_pne (tgt := 102) hx hb dX2_give_62 (by decide) (fun hc3 => ?_) (fun hc3 => ?_)
        · obtain ⟨e1, e2⟩ := hm_g1b (m := u.1) (e := u.2.1) (b := b) (fun z => z.2 hc3)
          have hw : hx_w D A s.heap (hm_W cB k0 k1 (ph_g1 u.1 u.2.1 b, u.2) th (hm_bf p0)) H locs := by rw [← e1]; exact hw
          have hl : lv_has ls 10 [(8, .long (lN ((b + 8) + (ph_n u.1 b)))), (6, .long (lN (ph_n (ph_g1 u.1 u.2.1 b) b))), (4, .long (hm_bf p0)), (2, .long (lN b)), (0, .ref k0), (1, .int (nI a))] := by rw [e2]; exact hl
          have gg := ph_n_lt (ph_g1 u.1 u.2.1 b) b
          have gp := ph_n_lt (ph_g1 u.1 u.2.1 b) p0
          refine lv_lload hx hb dX2_give_102 (lv_at hl 2 rfl) ?_
          refine lv_lconst (v := lN 0) hx hb dX2_give_104 (by decide +kernel) ?_
          by_cases kp : p0 = 0
          · have eb : hm_bf p0 = (-1) := if_pos kp
            refine W.lcmp hx hb dX2_give_105 ?_
            refine lv_if_lt (tgt := 160) hx hb dX2_give_106 (by decide) (fun _ => ?_) (fun z => absurd (show lg_cmp (hm_bf p0) (lN 0) < 0 from by rw [eb]; decide +kernel) z)
            obtain ⟨e4, e5⟩ := hm_g2b (m := u.1) (e := u.2.1) (b := b) (p := p0) (fun z => z.1 kp)
            have hw : hx_w D A s.heap (hm_W cB k0 k1 (ph_g2 u.1 u.2.1 b p0, u.2) th (hm_bf p0)) H locs := by rw [← e4]; exact hw
            have gJ : 1024 ≤ ph_gj u.1 u.2.1 b p0 ∧ ph_gj u.1 u.2.1 b p0 < 61440 := by rw [e5]; omega
            have hl : lv_has ls 10 [(8, .long (lN ((b + 8) + (ph_n u.1 b)))), (6, .long (lN (ph_n (ph_g2 u.1 u.2.1 b p0) (ph_gj u.1 u.2.1 b p0)))), (4, .long (hm_bf p0)), (2, .long (lN (ph_gj u.1 u.2.1 b p0))), (0, .ref k0), (1, .int (nI a))] := by rw [e5, ← e4]; exact hl
            have gj := ph_n_lt (ph_g2 u.1 u.2.1 b p0) (ph_gj u.1 u.2.1 b p0)
            refine lv_lload_n hx hb dX2_give_160 rfl (lv_at hl 3 rfl) ?_
            refine lv_ldc2 (v := lN 8) hx hb hown (hts (.constantLong RX2 69 (lN 8)) (by decide +kernel)) dX2_give_161 ?_
            refine hn_ladd (v := lN ((ph_gj u.1 u.2.1 b p0) + 8)) hx hb dX2_give_164 (lN_add _ _) ?_
            refine lv_lload hx hb dX2_give_165 (lv_at hl 1 rfl) ?_
            refine hn_ladd (v := lN (((ph_gj u.1 u.2.1 b p0) + 8) + (ph_n (ph_g2 u.1 u.2.1 b p0) (ph_gj u.1 u.2.1 b p0)))) hx hb dX2_give_167 (lN_add _ _) ?_
            refine lv_aload_n hx hb dX2_give_168 rfl (lv_at hl 4 rfl) ?_
            refine va_get (D := D) (ci := 2) (v := .int (nI u.2.1)) (C := RX2) (T := TX2) (N := 5) hx hb hts hi2 hown hK hw.1 0 rfl rfl 1 (by decide) (hts (.fieldLink RX2 14 "HeapRowModel" "end" "I") (by decide +kernel)) (fun _ h9 => h9) rfl dX2_give_169 ?_
            refine lv_i2l (v := lN u.2.1) hx hb dX2_give_172 (nI_l (by omega)) ?_
            refine hn_lne (a := (((ph_gj u.1 u.2.1 b p0) + 8) + (ph_n (ph_g2 u.1 u.2.1 b p0) (ph_gj u.1 u.2.1 b p0)))) (b := u.2.1) (tgt := 183) hx hb (by omega) (by omega) dX2_give_173 dX2_give_174 (by decide) (fun hd => ?_) (fun hd => ?_)
            · have e3 : ph_ge u.1 u.2.1 b p0 = u.2.1 := if_neg hd
              have hw : hx_w D A s.heap (hm_W cB k0 k1 (ph_gb u b p0) th (hm_bf p0)) H locs := by unfold ph_gb; rw [e3]; exact hw
              refine lv_iconst (v := nI 1) hx hb dX2_give_183 (by decide +kernel) ?_
              exact hx_zret S hr rfl hw dX2_give_184
            · have e3 : ph_ge u.1 u.2.1 b p0 = ph_gj u.1 u.2.1 b p0 := if_pos hd
              refine lv_aload_n hx hb dX2_give_177 rfl (lv_at hl 4 rfl) ?_
              refine lv_lload_n hx hb dX2_give_178 rfl (lv_at hl 3 rfl) ?_
              refine lv_l2i (v := nI (ph_gj u.1 u.2.1 b p0)) hx hb dX2_give_179 (lN_i _) ?_
              refine va_put (D := D) (ci := 2) (v := .int (nI (ph_gj u.1 u.2.1 b p0))) (ty := .int) (C := RX2) (T := TX2) (N := 5) hx hb hts hi2 tyX2 tyX2_ok nmX2 hown hK hw.1 hw.2.1 hw.2.2 0 rfl rfl 1 (by decide) (hts (.fieldLink RX2 14 "HeapRowModel" "end" "I") (by decide +kernel)) (fun _ h9 => h9) rfl (by decide +kernel) rfl rfl (Nat.le_of_ble_eq_true rfl) dX2_give_180 (fun H locs y1 y2 y3 => ?_)
              have hw : hx_w D A s.heap (hm_W cB k0 k1 (ph_g2 u.1 u.2.1 b p0, ph_gj u.1 u.2.1 b p0, u.2.2) th (hm_bf p0)) H locs := ⟨y1, y2, y3⟩
              have hw : hx_w D A s.heap (hm_W cB k0 k1 (ph_gb u b p0) th (hm_bf p0)) H locs := by unfold ph_gb; rw [e3]; exact hw
              refine lv_iconst (v := nI 1) hx hb dX2_give_183 (by decide +kernel) ?_
              exact hx_zret S hr rfl hw dX2_give_184
          · have eb : hm_bf p0 = lN p0 := if_neg kp
            refine W.eq (g2 := F0 m 105 ls [.long (lN 0), .long (lN p0)]) (by rw [eb]) ?_
            refine hn_llt (a := p0) (b := 0) (tgt := 160) hx hb (by omega) (by omega) dX2_give_105 dX2_give_106 (by decide) (fun hc5 => ?_) (fun hc5 => ?_)
            · exact absurd hc5 (by omega)
            · have hl : lv_has ls 10 [(8, .long (lN ((b + 8) + (ph_n u.1 b)))), (6, .long (lN (ph_n (ph_g1 u.1 u.2.1 b) b))), (4, .long (lN p0)), (2, .long (lN b)), (0, .ref k0), (1, .int (nI a))] := by rw [← eb]; exact hl
              refine lv_aload_n hx hb dX2_give_109 rfl (lv_at hl 4 rfl) ?_
              refine lv_lload hx hb dX2_give_110 (lv_at hl 2 rfl) ?_
              refine hx_callV (rest := []) (n := 1) S hw (m_takenAt l hst D tys cB ht k0 k1 (ph_g1 u.1 u.2.1 b, u.2) th (hm_bf p0) p0 ⟨by omega, by omega⟩) gX2_give_X2_takenAt rfl (by decide +kernel) rfl ⟨Nat.le_of_ble_eq_true rfl, Nat.le_of_ble_eq_true rfl⟩ 0 2 rfl rfl hm_adr hl.1 rfl (Nat.le_of_ble_eq_true rfl) ⟨by decide, by decide⟩ dX2_give_112 (fun H locs hw => ?_)
              refine W.eq (g2 := F0 m 115 ls [.int (if ph_n (ph_g1 u.1 u.2.1 b) (p0 + 4) = 1 then nI 1 else nI 0)]) rfl ?_
              refine hn_pne (tgt := 160) hx hb dX2_give_115 (by decide) (fun hc6 => ?_) (fun hc6 => ?_)
              · obtain ⟨e4, e5⟩ := hm_g2b (m := u.1) (e := u.2.1) (b := b) (p := p0) (fun z => z.2 hc6)
                have hw : hx_w D A s.heap (hm_W cB k0 k1 (ph_g2 u.1 u.2.1 b p0, u.2) th (hm_bf p0)) H locs := by rw [← e4]; exact hw
                have gJ : 1024 ≤ ph_gj u.1 u.2.1 b p0 ∧ ph_gj u.1 u.2.1 b p0 < 61440 := by rw [e5]; omega
                have hl : lv_has ls 10 [(8, .long (lN ((b + 8) + (ph_n u.1 b)))), (6, .long (lN (ph_n (ph_g2 u.1 u.2.1 b p0) (ph_gj u.1 u.2.1 b p0)))), (4, .long (lN p0)), (2, .long (lN (ph_gj u.1 u.2.1 b p0))), (0, .ref k0), (1, .int (nI a))] := by rw [e5, ← e4]; exact hl
                have gj := ph_n_lt (ph_g2 u.1 u.2.1 b p0) (ph_gj u.1 u.2.1 b p0)
                refine lv_lload_n hx hb dX2_give_160 rfl (lv_at hl 3 rfl) ?_
                refine lv_ldc2 (v := lN 8) hx hb hown (hts (.constantLong RX2 69 (lN 8)) (by decide +kernel)) dX2_give_161 ?_
                refine hn_ladd (v := lN ((ph_gj u.1 u.2.1 b p0) + 8)) hx hb dX2_give_164 (lN_add _ _) ?_
                refine lv_lload hx hb dX2_give_165 (lv_at hl 1 rfl) ?_
                refine hn_ladd (v := lN (((ph_gj u.1 u.2.1 b p0) + 8) + (ph_n (ph_g2 u.1 u.2.1 b p0) (ph_gj u.1 u.2.1 b p0)))) hx hb dX2_give_167 (lN_add _ _) ?_
                refine lv_aload_n hx hb dX2_give_168 rfl (lv_at hl 4 rfl) ?_
                refine va_get (D := D) (ci := 2) (v := .int (nI u.2.1)) (C := RX2) (T := TX2) (N := 5) hx hb hts hi2 hown hK hw.1 0 rfl rfl 1 (by decide) (hts (.fieldLink RX2 14 "HeapRowModel" "end" "I") (by decide +kernel)) (fun _ h9 => h9) rfl dX2_give_169 ?_
                refine lv_i2l (v := lN u.2.1) hx hb dX2_give_172 (nI_l (by omega)) ?_
                refine hn_lne (a := (((ph_gj u.1 u.2.1 b p0) + 8) + (ph_n (ph_g2 u.1 u.2.1 b p0) (ph_gj u.1 u.2.1 b p0)))) (b := u.2.1) (tgt := 183) hx hb (by omega) (by omega) dX2_give_173 dX2_give_174 (by decide) (fun hd => ?_) (fun hd => ?_)
                · have e3 : ph_ge u.1 u.2.1 b p0 = u.2.1 := if_neg hd
                  have hw : hx_w D A s.heap (hm_W cB k0 k1 (ph_gb u b p0) th (hm_bf p0)) H locs := by unfold ph_gb; rw [e3]; exact hw
                  refine lv_iconst (v := nI 1) hx hb dX2_give_183 (by decide +kernel) ?_
                  exact hx_zret S hr rfl hw dX2_give_184
                · have e3 : ph_ge u.1 u.2.1 b p0 = ph_gj u.1 u.2.1 b p0 := if_pos hd
                  refine lv_aload_n hx hb dX2_give_177 rfl (lv_at hl 4 rfl) ?_
                  refine lv_lload_n hx hb dX2_give_178 rfl (lv_at hl 3 rfl) ?_
                  refine lv_l2i (v := nI (ph_gj u.1 u.2.1 b p0)) hx hb dX2_give_179 (lN_i _) ?_
                  refine va_put (D := D) (ci := 2) (v := .int (nI (ph_gj u.1 u.2.1 b p0))) (ty := .int) (C := RX2) (T := TX2) (N := 5) hx hb hts hi2 tyX2 tyX2_ok nmX2 hown hK hw.1 hw.2.1 hw.2.2 0 rfl rfl 1 (by decide) (hts (.fieldLink RX2 14 "HeapRowModel" "end" "I") (by decide +kernel)) (fun _ h9 => h9) rfl (by decide +kernel) rfl rfl (Nat.le_of_ble_eq_true rfl) dX2_give_180 (fun H locs y1 y2 y3 => ?_)
                  have hw : hx_w D A s.heap (hm_W cB k0 k1 (ph_g2 u.1 u.2.1 b p0, ph_gj u.1 u.2.1 b p0, u.2.2) th (hm_bf p0)) H locs := ⟨y1, y2, y3⟩
                  have hw : hx_w D A s.heap (hm_W cB k0 k1 (ph_gb u b p0) th (hm_bf p0)) H locs := by unfold ph_gb; rw [e3]; exact hw
                  refine lv_iconst (v := nI 1) hx hb dX2_give_183 (by decide +kernel) ?_
                  exact hx_zret S hr rfl hw dX2_give_184
              · have gpb : p0 + 8 + ph_n u.1 p0 = b := by omega
                obtain ⟨e4, e5, e6⟩ := hm_g2a (m := u.1) (e := u.2.1) (b := b) (p := p0) kp gpb (by omega) hc6
                refine lv_aload_n hx hb dX2_give_118 rfl (lv_at hl 4 rfl) ?_
                refine lv_lload hx hb dX2_give_119 (lv_at hl 2 rfl) ?_
                refine hx_callV (rest := []) (n := 1) S hw (m_sizeAt l hst D tys cB ht k0 k1 (ph_g1 u.1 u.2.1 b, u.2) th (hm_bf p0) p0 ⟨by omega, by omega⟩) gX2_give_X2_sizeAt rfl (by decide +kernel) rfl ⟨Nat.le_of_ble_eq_true rfl, Nat.le_of_ble_eq_true rfl⟩ 0 2 rfl rfl hm_adr hl.1 rfl (Nat.le_of_ble_eq_true rfl) ⟨by decide, by decide⟩ dX2_give_121 (fun H locs hw => ?_)
                refine W.eq (g2 := F0 m 124 ls [.long (lN (ph_n (ph_g1 u.1 u.2.1 b) p0))]) rfl ?_
                refine lv_ldc2 (v := lN 8) hx hb hown (hts (.constantLong RX2 69 (lN 8)) (by decide +kernel)) dX2_give_124 ?_
                refine hn_ladd (v := lN ((ph_n (ph_g1 u.1 u.2.1 b) p0) + 8)) hx hb dX2_give_127 (lN_add _ _) ?_
                refine lv_lload hx hb dX2_give_128 (lv_at hl 1 rfl) ?_
                refine hn_ladd (v := lN (((ph_n (ph_g1 u.1 u.2.1 b) p0) + 8) + (ph_n (ph_g1 u.1 u.2.1 b) b))) hx hb dX2_give_130 (lN_add _ _) ?_
                refine lv_l2i (v := nI ((ph_n (ph_g1 u.1 u.2.1 b) p0 + 8 + ph_n (ph_g1 u.1 u.2.1 b) b) % 4294967296)) hx hb dX2_give_131 (by rw [lN_i]; exact hm_mod _) ?_
                refine hx_callS (rest := []) (n := 1) S hw (m_without l hst D tys cB ht k0 k1 (ph_g1 u.1 u.2.1 b, u.2) th (hm_bf p0) ((ph_n (ph_g1 u.1 u.2.1 b) p0 + 8 + ph_n (ph_g1 u.1 u.2.1 b) b) % 4294967296) (by omega)) gX2_give_X2_without rfl (by decide +kernel) rfl ⟨Nat.le_of_ble_eq_true rfl, Nat.le_of_ble_eq_true rfl⟩ hm_adr hl.1 rfl (Nat.le_of_ble_eq_true rfl) ⟨by decide, by decide⟩ dX2_give_132 (fun H locs hw => ?_)
                refine W.eq (g2 := F0 m 135 ls [.long (lN ((ph_n (ph_g1 u.1 u.2.1 b) p0 + 8 + ph_n (ph_g1 u.1 u.2.1 b) b) % 4294967296))]) rfl ?_
                refine lv_lstore (lv' := [(6, .long (lN ((ph_n (ph_g1 u.1 u.2.1 b) p0 + 8 + ph_n (ph_g1 u.1 u.2.1 b) b) % 4294967296))), (8, .long (lN ((b + 8) + (ph_n u.1 b)))), (4, .long (lN p0)), (2, .long (lN b)), (0, .ref k0), (1, .int (nI a))]) hx hb dX2_give_135 hl (by decide) rfl (fun ls hl => ?_)
                refine lv_aload_n hx hb dX2_give_137 rfl (lv_at hl 4 rfl) ?_
                refine lv_lload hx hb dX2_give_138 (lv_at hl 2 rfl) ?_
                refine lv_lload hx hb dX2_give_140 (lv_at hl 0 rfl) ?_
                refine lv_l2i (v := nI ((ph_n (ph_g1 u.1 u.2.1 b) p0 + 8 + ph_n (ph_g1 u.1 u.2.1 b) b) % 4294967296)) hx hb dX2_give_142 (lN_i _) ?_
                refine hx_callV (rest := []) (n := 2) S hw (m_set l hst D tys cB ht k0 k1 (ph_g1 u.1 u.2.1 b, u.2) th (hm_bf p0) p0 ((ph_n (ph_g1 u.1 u.2.1 b) p0 + 8 + ph_n (ph_g1 u.1 u.2.1 b) b) % 4294967296) (by omega) ⟨by omega, by omega⟩) gX2_give_X2_set rfl (by decide +kernel) rfl ⟨Nat.le_of_ble_eq_true rfl, Nat.le_of_ble_eq_true rfl⟩ 0 2 rfl rfl hm_adr hl.1 rfl (Nat.le_of_ble_eq_true rfl) ⟨by decide, by decide⟩ dX2_give_143 (fun H locs hw => ?_)
                refine W.eq (g2 := F0 m 146 ls []) rfl ?_
                refine lv_aload_n hx hb dX2_give_146 rfl (lv_at hl 4 rfl) ?_
                refine lv_lload hx hb dX2_give_147 (lv_at hl 2 rfl) ?_
                refine lv_ldc2 (v := lN 4) hx hb hown (hts (.constantLong RX2 54 (lN 4)) (by decide +kernel)) dX2_give_149 ?_
                refine hn_ladd (v := lN (p0 + 4)) hx hb dX2_give_152 (lN_add _ _) ?_
                refine lv_iconst (v := nI 0) hx hb dX2_give_153 (by decide +kernel) ?_
                refine hx_callV (rest := []) (n := 2) S hw (m_set l hst D tys cB ht k0 k1 (ph_sn (ph_g1 u.1 u.2.1 b) p0 ((ph_n (ph_g1 u.1 u.2.1 b) p0 + 8 + ph_n (ph_g1 u.1 u.2.1 b) b) % 4294967296), u.2) th (hm_bf p0) (p0 + 4) 0 (by decide) ⟨by omega, by omega⟩) gX2_give_X2_set rfl (by decide +kernel) rfl ⟨Nat.le_of_ble_eq_true rfl, Nat.le_of_ble_eq_true rfl⟩ 0 2 rfl rfl hm_adr hl.1 rfl (Nat.le_of_ble_eq_true rfl) ⟨by decide, by decide⟩ dX2_give_154 (fun H locs hw => ?_)
                refine W.eq (g2 := F0 m 157 ls []) rfl ?_
                have hw : hx_w D A s.heap (hm_W cB k0 k1 (ph_g2 u.1 u.2.1 b p0, u.2) th (hm_bf p0)) H locs := by rw [← e4]; exact hw
                refine lv_lload hx hb dX2_give_157 (lv_at hl 2 rfl) ?_
                refine lv_lstore_n (lv' := [(2, .long (lN p0)), (6, .long (lN ((ph_n (ph_g1 u.1 u.2.1 b) p0 + 8 + ph_n (ph_g1 u.1 u.2.1 b) b) % 4294967296))), (8, .long (lN ((b + 8) + (ph_n u.1 b)))), (4, .long (lN p0)), (0, .ref k0), (1, .int (nI a))]) hx hb dX2_give_159 rfl hl (by decide) rfl (fun ls hl => ?_)
                have gJ : 1024 ≤ ph_gj u.1 u.2.1 b p0 ∧ ph_gj u.1 u.2.1 b p0 < 61440 := by rw [e6]; omega
                have hl : lv_has ls 10 [(2, .long (lN (ph_gj u.1 u.2.1 b p0))), (6, .long (lN (ph_n (ph_g2 u.1 u.2.1 b p0) (ph_gj u.1 u.2.1 b p0)))), (8, .long (lN ((b + 8) + (ph_n u.1 b)))), (4, .long (lN p0)), (0, .ref k0), (1, .int (nI a))] := by rw [e5, e6]; exact hl
                have gj := ph_n_lt (ph_g2 u.1 u.2.1 b p0) (ph_gj u.1 u.2.1 b p0)
                refine lv_lload_n hx hb dX2_give_160 rfl (lv_at hl 0 rfl) ?_
                refine lv_ldc2 (v := lN 8) hx hb hown (hts (.constantLong RX2 69 (lN 8)) (by decide +kernel)) dX2_give_161 ?_
                refine hn_ladd (v := lN ((ph_gj u.1 u.2.1 b p0) + 8)) hx hb dX2_give_164 (lN_add _ _) ?_
                refine lv_lload hx hb dX2_give_165 (lv_at hl 1 rfl) ?_
                refine hn_ladd (v := lN (((ph_gj u.1 u.2.1 b p0) + 8) + (ph_n (ph_g2 u.1 u.2.1 b p0) (ph_gj u.1 u.2.1 b p0)))) hx hb dX2_give_167 (lN_add _ _) ?_
                refine lv_aload_n hx hb dX2_give_168 rfl (lv_at hl 4 rfl) ?_
                refine va_get (D := D) (ci := 2) (v := .int (nI u.2.1)) (C := RX2) (T := TX2) (N := 5) hx hb hts hi2 hown hK hw.1 0 rfl rfl 1 (by decide) (hts (.fieldLink RX2 14 "HeapRowModel" "end" "I") (by decide +kernel)) (fun _ h9 => h9) rfl dX2_give_169 ?_
                refine lv_i2l (v := lN u.2.1) hx hb dX2_give_172 (nI_l (by omega)) ?_
                refine hn_lne (a := (((ph_gj u.1 u.2.1 b p0) + 8) + (ph_n (ph_g2 u.1 u.2.1 b p0) (ph_gj u.1 u.2.1 b p0)))) (b := u.2.1) (tgt := 183) hx hb (by omega) (by omega) dX2_give_173 dX2_give_174 (by decide) (fun hd => ?_) (fun hd => ?_)
                · have e3 : ph_ge u.1 u.2.1 b p0 = u.2.1 := if_neg hd
                  have hw : hx_w D A s.heap (hm_W cB k0 k1 (ph_gb u b p0) th (hm_bf p0)) H locs := by unfold ph_gb; rw [e3]; exact hw
                  refine lv_iconst (v := nI 1) hx hb dX2_give_183 (by decide +kernel) ?_
                  exact hx_zret S hr rfl hw dX2_give_184
                · have e3 : ph_ge u.1 u.2.1 b p0 = ph_gj u.1 u.2.1 b p0 := if_pos hd
                  refine lv_aload_n hx hb dX2_give_177 rfl (lv_at hl 4 rfl) ?_
                  refine lv_lload_n hx hb dX2_give_178 rfl (lv_at hl 0 rfl) ?_
                  refine lv_l2i (v := nI (ph_gj u.1 u.2.1 b p0)) hx hb dX2_give_179 (lN_i _) ?_
                  refine va_put (D := D) (ci := 2) (v := .int (nI (ph_gj u.1 u.2.1 b p0))) (ty := .int) (C := RX2) (T := TX2) (N := 5) hx hb hts hi2 tyX2 tyX2_ok nmX2 hown hK hw.1 hw.2.1 hw.2.2 0 rfl rfl 1 (by decide) (hts (.fieldLink RX2 14 "HeapRowModel" "end" "I") (by decide +kernel)) (fun _ h9 => h9) rfl (by decide +kernel) rfl rfl (Nat.le_of_ble_eq_true rfl) dX2_give_180 (fun H locs y1 y2 y3 => ?_)
                  have hw : hx_w D A s.heap (hm_W cB k0 k1 (ph_g2 u.1 u.2.1 b p0, ph_gj u.1 u.2.1 b p0, u.2.2) th (hm_bf p0)) H locs := ⟨y1, y2, y3⟩
                  have hw : hx_w D A s.heap (hm_W cB k0 k1 (ph_gb u b p0) th (hm_bf p0)) H locs := by unfold ph_gb; rw [e3]; exact hw
                  refine lv_iconst (v := nI 1) hx hb dX2_give_183 (by decide +kernel) ?_
                  exact hx_zret S hr rfl hw dX2_give_184
        · obtain ⟨e1, e2⟩ := hm_g1a (m := u.1) (e := u.2.1) (b := b) hc2 hc3
          refine lv_lload hx hb dX2_give_65 (lv_at hl 1 rfl) ?_
          refine lv_ldc2 (v := lN 8) hx hb hown (hts (.constantLong RX2 69 (lN 8)) (by decide +kernel)) dX2_give_67 ?_
          refine hn_ladd (v := lN ((ph_n u.1 b) + 8)) hx hb dX2_give_70 (lN_add _ _) ?_
          refine lv_aload_n hx hb dX2_give_71 rfl (lv_at hl 4 rfl) ?_
          refine lv_lload hx hb dX2_give_72 (lv_at hl 0 rfl) ?_
          refine hx_callV (rest := [.long (lN ((ph_n u.1 b) + 8))]) (n := 1) S hw (m_sizeAt l hst D tys cB ht k0 k1 (ph_sn u.1 (b + 4) 0, u.2) th (hm_bf p0) (b + 8 + ph_n u.1 b) ⟨by omega, by omega⟩) gX2_give_X2_sizeAt rfl (by decide +kernel) rfl ⟨Nat.le_of_ble_eq_true rfl, Nat.le_of_ble_eq_true rfl⟩ 0 2 rfl rfl hm_adr hl.1 rfl (Nat.le_of_ble_eq_true rfl) ⟨by decide, by decide⟩ dX2_give_74 (fun H locs hw => ?_)
          refine W.eq (g2 := F0 m 77 ls [.long (lN (ph_n (ph_sn u.1 (b + 4) 0) (b + 8 + ph_n u.1 b))), .long (lN ((ph_n u.1 b) + 8))]) rfl ?_
          refine hn_ladd (v := lN (((ph_n u.1 b) + 8) + (ph_n (ph_sn u.1 (b + 4) 0) (b + 8 + ph_n u.1 b)))) hx hb dX2_give_77 (lN_add _ _) ?_
          refine lv_l2i (v := nI ((ph_n u.1 b + 8 + ph_n (ph_sn u.1 (b + 4) 0) (b + 8 + ph_n u.1 b)) % 4294967296)) hx hb dX2_give_78 (by rw [lN_i]; exact hm_mod _) ?_
          refine hx_callS (rest := []) (n := 1) S hw (m_without l hst D tys cB ht k0 k1 (ph_sn u.1 (b + 4) 0, u.2) th (hm_bf p0) ((ph_n u.1 b + 8 + ph_n (ph_sn u.1 (b + 4) 0) (b + 8 + ph_n u.1 b)) % 4294967296) (by omega)) gX2_give_X2_without rfl (by decide +kernel) rfl ⟨Nat.le_of_ble_eq_true rfl, Nat.le_of_ble_eq_true rfl⟩ hm_adr hl.1 rfl (Nat.le_of_ble_eq_true rfl) ⟨by decide, by decide⟩ dX2_give_79 (fun H locs hw => ?_)
          refine W.eq (g2 := F0 m 82 ls [.long (lN ((ph_n u.1 b + 8 + ph_n (ph_sn u.1 (b + 4) 0) (b + 8 + ph_n u.1 b)) % 4294967296))]) rfl ?_
          refine lv_lstore (lv' := [(6, .long (lN ((ph_n u.1 b + 8 + ph_n (ph_sn u.1 (b + 4) 0) (b + 8 + ph_n u.1 b)) % 4294967296))), (8, .long (lN ((b + 8) + (ph_n u.1 b)))), (4, .long (hm_bf p0)), (2, .long (lN b)), (0, .ref k0), (1, .int (nI a))]) hx hb dX2_give_82 hl (by decide) rfl (fun ls hl => ?_)
          refine lv_aload_n hx hb dX2_give_84 rfl (lv_at hl 4 rfl) ?_
          refine lv_lload_n hx hb dX2_give_85 rfl (lv_at hl 3 rfl) ?_
          refine lv_lload hx hb dX2_give_86 (lv_at hl 0 rfl) ?_
          refine lv_l2i (v := nI ((ph_n u.1 b + 8 + ph_n (ph_sn u.1 (b + 4) 0) (b + 8 + ph_n u.1 b)) % 4294967296)) hx hb dX2_give_88 (lN_i _) ?_
          refine hx_callV (rest := []) (n := 2) S hw (m_set l hst D tys cB ht k0 k1 (ph_sn u.1 (b + 4) 0, u.2) th (hm_bf p0) b ((ph_n u.1 b + 8 + ph_n (ph_sn u.1 (b + 4) 0) (b + 8 + ph_n u.1 b)) % 4294967296) (by omega) ⟨by omega, by omega⟩) gX2_give_X2_set rfl (by decide +kernel) rfl ⟨Nat.le_of_ble_eq_true rfl, Nat.le_of_ble_eq_true rfl⟩ 0 2 rfl rfl hm_adr hl.1 rfl (Nat.le_of_ble_eq_true rfl) ⟨by decide, by decide⟩ dX2_give_89 (fun H locs hw => ?_)
          refine W.eq (g2 := F0 m 92 ls []) rfl ?_
          refine lv_aload_n hx hb dX2_give_92 rfl (lv_at hl 4 rfl) ?_
          refine lv_lload_n hx hb dX2_give_93 rfl (lv_at hl 3 rfl) ?_
          refine lv_ldc2 (v := lN 4) hx hb hown (hts (.constantLong RX2 54 (lN 4)) (by decide +kernel)) dX2_give_94 ?_
          refine hn_ladd (v := lN (b + 4)) hx hb dX2_give_97 (lN_add _ _) ?_
          refine lv_iconst (v := nI 0) hx hb dX2_give_98 (by decide +kernel) ?_
          refine hx_callV (rest := []) (n := 2) S hw (m_set l hst D tys cB ht k0 k1 (ph_sn (ph_sn u.1 (b + 4) 0) b ((ph_n u.1 b + 8 + ph_n (ph_sn u.1 (b + 4) 0) (b + 8 + ph_n u.1 b)) % 4294967296), u.2) th (hm_bf p0) (b + 4) 0 (by decide) ⟨by omega, by omega⟩) gX2_give_X2_set rfl (by decide +kernel) rfl ⟨Nat.le_of_ble_eq_true rfl, Nat.le_of_ble_eq_true rfl⟩ 0 2 rfl rfl hm_adr hl.1 rfl (Nat.le_of_ble_eq_true rfl) ⟨by decide, by decide⟩ dX2_give_99 (fun H locs hw => ?_)
          refine W.eq (g2 := F0 m 102 ls []) rfl ?_
          have hw : hx_w D A s.heap (hm_W cB k0 k1 (ph_g1 u.1 u.2.1 b, u.2) th (hm_bf p0)) H locs := by rw [← e1]; exact hw
          have hl : lv_has ls 10 [(6, .long (lN (ph_n (ph_g1 u.1 u.2.1 b) b))), (8, .long (lN ((b + 8) + (ph_n u.1 b)))), (4, .long (hm_bf p0)), (2, .long (lN b)), (0, .ref k0), (1, .int (nI a))] := by rw [e2]; exact hl
          have gg := ph_n_lt (ph_g1 u.1 u.2.1 b) b
          have gp := ph_n_lt (ph_g1 u.1 u.2.1 b) p0
          refine lv_lload hx hb dX2_give_102 (lv_at hl 2 rfl) ?_
          refine lv_lconst (v := lN 0) hx hb dX2_give_104 (by decide +kernel) ?_
          by_cases kp : p0 = 0
          · have eb : hm_bf p0 = (-1) := if_pos kp
            refine W.lcmp hx hb dX2_give_105 ?_
            refine lv_if_lt (tgt := 160) hx hb dX2_give_106 (by decide) (fun _ => ?_) (fun z => absurd (show lg_cmp (hm_bf p0) (lN 0) < 0 from by rw [eb]; decide +kernel) z)
            obtain ⟨e4, e5⟩ := hm_g2b (m := u.1) (e := u.2.1) (b := b) (p := p0) (fun z => z.1 kp)
            have hw : hx_w D A s.heap (hm_W cB k0 k1 (ph_g2 u.1 u.2.1 b p0, u.2) th (hm_bf p0)) H locs := by rw [← e4]; exact hw
            have gJ : 1024 ≤ ph_gj u.1 u.2.1 b p0 ∧ ph_gj u.1 u.2.1 b p0 < 61440 := by rw [e5]; omega
            have hl : lv_has ls 10 [(6, .long (lN (ph_n (ph_g2 u.1 u.2.1 b p0) (ph_gj u.1 u.2.1 b p0)))), (8, .long (lN ((b + 8) + (ph_n u.1 b)))), (4, .long (hm_bf p0)), (2, .long (lN (ph_gj u.1 u.2.1 b p0))), (0, .ref k0), (1, .int (nI a))] := by rw [e5, ← e4]; exact hl
            have gj := ph_n_lt (ph_g2 u.1 u.2.1 b p0) (ph_gj u.1 u.2.1 b p0)
            refine lv_lload_n hx hb dX2_give_160 rfl (lv_at hl 3 rfl) ?_
            refine lv_ldc2 (v := lN 8) hx hb hown (hts (.constantLong RX2 69 (lN 8)) (by decide +kernel)) dX2_give_161 ?_
            refine hn_ladd (v := lN ((ph_gj u.1 u.2.1 b p0) + 8)) hx hb dX2_give_164 (lN_add _ _) ?_
            refine lv_lload hx hb dX2_give_165 (lv_at hl 0 rfl) ?_
            refine hn_ladd (v := lN (((ph_gj u.1 u.2.1 b p0) + 8) + (ph_n (ph_g2 u.1 u.2.1 b p0) (ph_gj u.1 u.2.1 b p0)))) hx hb dX2_give_167 (lN_add _ _) ?_
            refine lv_aload_n hx hb dX2_give_168 rfl (lv_at hl 4 rfl) ?_
            refine va_get (D := D) (ci := 2) (v := .int (nI u.2.1)) (C := RX2) (T := TX2) (N := 5) hx hb hts hi2 hown hK hw.1 0 rfl rfl 1 (by decide) (hts (.fieldLink RX2 14 "HeapRowModel" "end" "I") (by decide +kernel)) (fun _ h9 => h9) rfl dX2_give_169 ?_
            refine lv_i2l (v := lN u.2.1) hx hb dX2_give_172 (nI_l (by omega)) ?_
            refine hn_lne (a := (((ph_gj u.1 u.2.1 b p0) + 8) + (ph_n (ph_g2 u.1 u.2.1 b p0) (ph_gj u.1 u.2.1 b p0)))) (b := u.2.1) (tgt := 183) hx hb (by omega) (by omega) dX2_give_173 dX2_give_174 (by decide) (fun hd => ?_) (fun hd => ?_)
            · have e3 : ph_ge u.1 u.2.1 b p0 = u.2.1 := if_neg hd
              have hw : hx_w D A s.heap (hm_W cB k0 k1 (ph_gb u b p0) th (hm_bf p0)) H locs := by unfold ph_gb; rw [e3]; exact hw
              refine lv_iconst (v := nI 1) hx hb dX2_give_183 (by decide +kernel) ?_
              exact hx_zret S hr rfl hw dX2_give_184
            · have e3 : ph_ge u.1 u.2.1 b p0 = ph_gj u.1 u.2.1 b p0 := if_pos hd
              refine lv_aload_n hx hb dX2_give_177 rfl (lv_at hl 4 rfl) ?_
              refine lv_lload_n hx hb dX2_give_178 rfl (lv_at hl 3 rfl) ?_
              refine lv_l2i (v := nI (ph_gj u.1 u.2.1 b p0)) hx hb dX2_give_179 (lN_i _) ?_
              refine va_put (D := D) (ci := 2) (v := .int (nI (ph_gj u.1 u.2.1 b p0))) (ty := .int) (C := RX2) (T := TX2) (N := 5) hx hb hts hi2 tyX2 tyX2_ok nmX2 hown hK hw.1 hw.2.1 hw.2.2 0 rfl rfl 1 (by decide) (hts (.fieldLink RX2 14 "HeapRowModel" "end" "I") (by decide +kernel)) (fun _ h9 => h9) rfl (by decide +kernel) rfl rfl (Nat.le_of_ble_eq_true rfl) dX2_give_180 (fun H locs y1 y2 y3 => ?_)
              have hw : hx_w D A s.heap (hm_W cB k0 k1 (ph_g2 u.1 u.2.1 b p0, ph_gj u.1 u.2.1 b p0, u.2.2) th (hm_bf p0)) H locs := ⟨y1, y2, y3⟩
              have hw : hx_w D A s.heap (hm_W cB k0 k1 (ph_gb u b p0) th (hm_bf p0)) H locs := by unfold ph_gb; rw [e3]; exact hw
              refine lv_iconst (v := nI 1) hx hb dX2_give_183 (by decide +kernel) ?_
              exact hx_zret S hr rfl hw dX2_give_184
          · have eb : hm_bf p0 = lN p0 := if_neg kp
            refine W.eq (g2 := F0 m 105 ls [.long (lN 0), .long (lN p0)]) (by rw [eb]) ?_
            refine hn_llt (a := p0) (b := 0) (tgt := 160) hx hb (by omega) (by omega) dX2_give_105 dX2_give_106 (by decide) (fun hc5 => ?_) (fun hc5 => ?_)
            · exact absurd hc5 (by omega)
            · have hl : lv_has ls 10 [(6, .long (lN (ph_n (ph_g1 u.1 u.2.1 b) b))), (8, .long (lN ((b + 8) + (ph_n u.1 b)))), (4, .long (lN p0)), (2, .long (lN b)), (0, .ref k0), (1, .int (nI a))] := by rw [← eb]; exact hl
              refine lv_aload_n hx hb dX2_give_109 rfl (lv_at hl 4 rfl) ?_
              refine lv_lload hx hb dX2_give_110 (lv_at hl 2 rfl) ?_
              refine hx_callV (rest := []) (n := 1) S hw (m_takenAt l hst D tys cB ht k0 k1 (ph_g1 u.1 u.2.1 b, u.2) th (hm_bf p0) p0 ⟨by omega, by omega⟩) gX2_give_X2_takenAt rfl (by decide +kernel) rfl ⟨Nat.le_of_ble_eq_true rfl, Nat.le_of_ble_eq_true rfl⟩ 0 2 rfl rfl hm_adr hl.1 rfl (Nat.le_of_ble_eq_true rfl) ⟨by decide, by decide⟩ dX2_give_112 (fun H locs hw => ?_)
              refine W.eq (g2 := F0 m 115 ls [.int (if ph_n (ph_g1 u.1 u.2.1 b) (p0 + 4) = 1 then nI 1 else nI 0)]) rfl ?_
              refine hn_pne (tgt := 160) hx hb dX2_give_115 (by decide) (fun hc6 => ?_) (fun hc6 => ?_)
              · obtain ⟨e4, e5⟩ := hm_g2b (m := u.1) (e := u.2.1) (b := b) (p := p0) (fun z => z.2 hc6)
                have hw : hx_w D A s.heap (hm_W cB k0 k1 (ph_g2 u.1 u.2.1 b p0, u.2) th (hm_bf p0)) H locs := by rw [← e4]; exact hw
                have gJ : 1024 ≤ ph_gj u.1 u.2.1 b p0 ∧ ph_gj u.1 u.2.1 b p0 < 61440 := by rw [e5]; omega
                have hl : lv_has ls 10 [(6, .long (lN (ph_n (ph_g2 u.1 u.2.1 b p0) (ph_gj u.1 u.2.1 b p0)))), (8, .long (lN ((b + 8) + (ph_n u.1 b)))), (4, .long (lN p0)), (2, .long (lN (ph_gj u.1 u.2.1 b p0))), (0, .ref k0), (1, .int (nI a))] := by rw [e5, ← e4]; exact hl
                have gj := ph_n_lt (ph_g2 u.1 u.2.1 b p0) (ph_gj u.1 u.2.1 b p0)
                refine lv_lload_n hx hb dX2_give_160 rfl (lv_at hl 3 rfl) ?_
                refine lv_ldc2 (v := lN 8) hx hb hown (hts (.constantLong RX2 69 (lN 8)) (by decide +kernel)) dX2_give_161 ?_
                refine hn_ladd (v := lN ((ph_gj u.1 u.2.1 b p0) + 8)) hx hb dX2_give_164 (lN_add _ _) ?_
                refine lv_lload hx hb dX2_give_165 (lv_at hl 0 rfl) ?_
                refine hn_ladd (v := lN (((ph_gj u.1 u.2.1 b p0) + 8) + (ph_n (ph_g2 u.1 u.2.1 b p0) (ph_gj u.1 u.2.1 b p0)))) hx hb dX2_give_167 (lN_add _ _) ?_
                refine lv_aload_n hx hb dX2_give_168 rfl (lv_at hl 4 rfl) ?_
                refine va_get (D := D) (ci := 2) (v := .int (nI u.2.1)) (C := RX2) (T := TX2) (N := 5) hx hb hts hi2 hown hK hw.1 0 rfl rfl 1 (by decide) (hts (.fieldLink RX2 14 "HeapRowModel" "end" "I") (by decide +kernel)) (fun _ h9 => h9) rfl dX2_give_169 ?_
                refine lv_i2l (v := lN u.2.1) hx hb dX2_give_172 (nI_l (by omega)) ?_
                refine hn_lne (a := (((ph_gj u.1 u.2.1 b p0) + 8) + (ph_n (ph_g2 u.1 u.2.1 b p0) (ph_gj u.1 u.2.1 b p0)))) (b := u.2.1) (tgt := 183) hx hb (by omega) (by omega) dX2_give_173 dX2_give_174 (by decide) (fun hd => ?_) (fun hd => ?_)
                · have e3 : ph_ge u.1 u.2.1 b p0 = u.2.1 := if_neg hd
                  have hw : hx_w D A s.heap (hm_W cB k0 k1 (ph_gb u b p0) th (hm_bf p0)) H locs := by unfold ph_gb; rw [e3]; exact hw
                  refine lv_iconst (v := nI 1) hx hb dX2_give_183 (by decide +kernel) ?_
                  exact hx_zret S hr rfl hw dX2_give_184
                · have e3 : ph_ge u.1 u.2.1 b p0 = ph_gj u.1 u.2.1 b p0 := if_pos hd
                  refine lv_aload_n hx hb dX2_give_177 rfl (lv_at hl 4 rfl) ?_
                  refine lv_lload_n hx hb dX2_give_178 rfl (lv_at hl 3 rfl) ?_
                  refine lv_l2i (v := nI (ph_gj u.1 u.2.1 b p0)) hx hb dX2_give_179 (lN_i _) ?_
                  refine va_put (D := D) (ci := 2) (v := .int (nI (ph_gj u.1 u.2.1 b p0))) (ty := .int) (C := RX2) (T := TX2) (N := 5) hx hb hts hi2 tyX2 tyX2_ok nmX2 hown hK hw.1 hw.2.1 hw.2.2 0 rfl rfl 1 (by decide) (hts (.fieldLink RX2 14 "HeapRowModel" "end" "I") (by decide +kernel)) (fun _ h9 => h9) rfl (by decide +kernel) rfl rfl (Nat.le_of_ble_eq_true rfl) dX2_give_180 (fun H locs y1 y2 y3 => ?_)
                  have hw : hx_w D A s.heap (hm_W cB k0 k1 (ph_g2 u.1 u.2.1 b p0, ph_gj u.1 u.2.1 b p0, u.2.2) th (hm_bf p0)) H locs := ⟨y1, y2, y3⟩
                  have hw : hx_w D A s.heap (hm_W cB k0 k1 (ph_gb u b p0) th (hm_bf p0)) H locs := by unfold ph_gb; rw [e3]; exact hw
                  refine lv_iconst (v := nI 1) hx hb dX2_give_183 (by decide +kernel) ?_
                  exact hx_zret S hr rfl hw dX2_give_184
              · have gpb : p0 + 8 + ph_n u.1 p0 = b := by omega
                obtain ⟨e4, e5, e6⟩ := hm_g2a (m := u.1) (e := u.2.1) (b := b) (p := p0) kp gpb (by omega) hc6
                refine lv_aload_n hx hb dX2_give_118 rfl (lv_at hl 4 rfl) ?_
                refine lv_lload hx hb dX2_give_119 (lv_at hl 2 rfl) ?_
                refine hx_callV (rest := []) (n := 1) S hw (m_sizeAt l hst D tys cB ht k0 k1 (ph_g1 u.1 u.2.1 b, u.2) th (hm_bf p0) p0 ⟨by omega, by omega⟩) gX2_give_X2_sizeAt rfl (by decide +kernel) rfl ⟨Nat.le_of_ble_eq_true rfl, Nat.le_of_ble_eq_true rfl⟩ 0 2 rfl rfl hm_adr hl.1 rfl (Nat.le_of_ble_eq_true rfl) ⟨by decide, by decide⟩ dX2_give_121 (fun H locs hw => ?_)
                refine W.eq (g2 := F0 m 124 ls [.long (lN (ph_n (ph_g1 u.1 u.2.1 b) p0))]) rfl ?_
                refine lv_ldc2 (v := lN 8) hx hb hown (hts (.constantLong RX2 69 (lN 8)) (by decide +kernel)) dX2_give_124 ?_
                refine hn_ladd (v := lN ((ph_n (ph_g1 u.1 u.2.1 b) p0) + 8)) hx hb dX2_give_127 (lN_add _ _) ?_
                refine lv_lload hx hb dX2_give_128 (lv_at hl 0 rfl) ?_
                refine hn_ladd (v := lN (((ph_n (ph_g1 u.1 u.2.1 b) p0) + 8) + (ph_n (ph_g1 u.1 u.2.1 b) b))) hx hb dX2_give_130 (lN_add _ _) ?_
                refine lv_l2i (v := nI ((ph_n (ph_g1 u.1 u.2.1 b) p0 + 8 + ph_n (ph_g1 u.1 u.2.1 b) b) % 4294967296)) hx hb dX2_give_131 (by rw [lN_i]; exact hm_mod _) ?_
                refine hx_callS (rest := []) (n := 1) S hw (m_without l hst D tys cB ht k0 k1 (ph_g1 u.1 u.2.1 b, u.2) th (hm_bf p0) ((ph_n (ph_g1 u.1 u.2.1 b) p0 + 8 + ph_n (ph_g1 u.1 u.2.1 b) b) % 4294967296) (by omega)) gX2_give_X2_without rfl (by decide +kernel) rfl ⟨Nat.le_of_ble_eq_true rfl, Nat.le_of_ble_eq_true rfl⟩ hm_adr hl.1 rfl (Nat.le_of_ble_eq_true rfl) ⟨by decide, by decide⟩ dX2_give_132 (fun H locs hw => ?_)
                refine W.eq (g2 := F0 m 135 ls [.long (lN ((ph_n (ph_g1 u.1 u.2.1 b) p0 + 8 + ph_n (ph_g1 u.1 u.2.1 b) b) % 4294967296))]) rfl ?_
                refine lv_lstore (lv' := [(6, .long (lN ((ph_n (ph_g1 u.1 u.2.1 b) p0 + 8 + ph_n (ph_g1 u.1 u.2.1 b) b) % 4294967296))), (8, .long (lN ((b + 8) + (ph_n u.1 b)))), (4, .long (lN p0)), (2, .long (lN b)), (0, .ref k0), (1, .int (nI a))]) hx hb dX2_give_135 hl (by decide) rfl (fun ls hl => ?_)
                refine lv_aload_n hx hb dX2_give_137 rfl (lv_at hl 4 rfl) ?_
                refine lv_lload hx hb dX2_give_138 (lv_at hl 2 rfl) ?_
                refine lv_lload hx hb dX2_give_140 (lv_at hl 0 rfl) ?_
                refine lv_l2i (v := nI ((ph_n (ph_g1 u.1 u.2.1 b) p0 + 8 + ph_n (ph_g1 u.1 u.2.1 b) b) % 4294967296)) hx hb dX2_give_142 (lN_i _) ?_
                refine hx_callV (rest := []) (n := 2) S hw (m_set l hst D tys cB ht k0 k1 (ph_g1 u.1 u.2.1 b, u.2) th (hm_bf p0) p0 ((ph_n (ph_g1 u.1 u.2.1 b) p0 + 8 + ph_n (ph_g1 u.1 u.2.1 b) b) % 4294967296) (by omega) ⟨by omega, by omega⟩) gX2_give_X2_set rfl (by decide +kernel) rfl ⟨Nat.le_of_ble_eq_true rfl, Nat.le_of_ble_eq_true rfl⟩ 0 2 rfl rfl hm_adr hl.1 rfl (Nat.le_of_ble_eq_true rfl) ⟨by decide, by decide⟩ dX2_give_143 (fun H locs hw => ?_)
                refine W.eq (g2 := F0 m 146 ls []) rfl ?_
                refine lv_aload_n hx hb dX2_give_146 rfl (lv_at hl 4 rfl) ?_
                refine lv_lload hx hb dX2_give_147 (lv_at hl 2 rfl) ?_
                refine lv_ldc2 (v := lN 4) hx hb hown (hts (.constantLong RX2 54 (lN 4)) (by decide +kernel)) dX2_give_149 ?_
                refine hn_ladd (v := lN (p0 + 4)) hx hb dX2_give_152 (lN_add _ _) ?_
                refine lv_iconst (v := nI 0) hx hb dX2_give_153 (by decide +kernel) ?_
                refine hx_callV (rest := []) (n := 2) S hw (m_set l hst D tys cB ht k0 k1 (ph_sn (ph_g1 u.1 u.2.1 b) p0 ((ph_n (ph_g1 u.1 u.2.1 b) p0 + 8 + ph_n (ph_g1 u.1 u.2.1 b) b) % 4294967296), u.2) th (hm_bf p0) (p0 + 4) 0 (by decide) ⟨by omega, by omega⟩) gX2_give_X2_set rfl (by decide +kernel) rfl ⟨Nat.le_of_ble_eq_true rfl, Nat.le_of_ble_eq_true rfl⟩ 0 2 rfl rfl hm_adr hl.1 rfl (Nat.le_of_ble_eq_true rfl) ⟨by decide, by decide⟩ dX2_give_154 (fun H locs hw => ?_)
                refine W.eq (g2 := F0 m 157 ls []) rfl ?_
                have hw : hx_w D A s.heap (hm_W cB k0 k1 (ph_g2 u.1 u.2.1 b p0, u.2) th (hm_bf p0)) H locs := by rw [← e4]; exact hw
                refine lv_lload hx hb dX2_give_157 (lv_at hl 2 rfl) ?_
                refine lv_lstore_n (lv' := [(2, .long (lN p0)), (6, .long (lN ((ph_n (ph_g1 u.1 u.2.1 b) p0 + 8 + ph_n (ph_g1 u.1 u.2.1 b) b) % 4294967296))), (8, .long (lN ((b + 8) + (ph_n u.1 b)))), (4, .long (lN p0)), (0, .ref k0), (1, .int (nI a))]) hx hb dX2_give_159 rfl hl (by decide) rfl (fun ls hl => ?_)
                have gJ : 1024 ≤ ph_gj u.1 u.2.1 b p0 ∧ ph_gj u.1 u.2.1 b p0 < 61440 := by rw [e6]; omega
                have hl : lv_has ls 10 [(2, .long (lN (ph_gj u.1 u.2.1 b p0))), (6, .long (lN (ph_n (ph_g2 u.1 u.2.1 b p0) (ph_gj u.1 u.2.1 b p0)))), (8, .long (lN ((b + 8) + (ph_n u.1 b)))), (4, .long (lN p0)), (0, .ref k0), (1, .int (nI a))] := by rw [e5, e6]; exact hl
                have gj := ph_n_lt (ph_g2 u.1 u.2.1 b p0) (ph_gj u.1 u.2.1 b p0)
                refine lv_lload_n hx hb dX2_give_160 rfl (lv_at hl 0 rfl) ?_
                refine lv_ldc2 (v := lN 8) hx hb hown (hts (.constantLong RX2 69 (lN 8)) (by decide +kernel)) dX2_give_161 ?_
                refine hn_ladd (v := lN ((ph_gj u.1 u.2.1 b p0) + 8)) hx hb dX2_give_164 (lN_add _ _) ?_
                refine lv_lload hx hb dX2_give_165 (lv_at hl 1 rfl) ?_
                refine hn_ladd (v := lN (((ph_gj u.1 u.2.1 b p0) + 8) + (ph_n (ph_g2 u.1 u.2.1 b p0) (ph_gj u.1 u.2.1 b p0)))) hx hb dX2_give_167 (lN_add _ _) ?_
                refine lv_aload_n hx hb dX2_give_168 rfl (lv_at hl 4 rfl) ?_
                refine va_get (D := D) (ci := 2) (v := .int (nI u.2.1)) (C := RX2) (T := TX2) (N := 5) hx hb hts hi2 hown hK hw.1 0 rfl rfl 1 (by decide) (hts (.fieldLink RX2 14 "HeapRowModel" "end" "I") (by decide +kernel)) (fun _ h9 => h9) rfl dX2_give_169 ?_
                refine lv_i2l (v := lN u.2.1) hx hb dX2_give_172 (nI_l (by omega)) ?_
                refine hn_lne (a := (((ph_gj u.1 u.2.1 b p0) + 8) + (ph_n (ph_g2 u.1 u.2.1 b p0) (ph_gj u.1 u.2.1 b p0)))) (b := u.2.1) (tgt := 183) hx hb (by omega) (by omega) dX2_give_173 dX2_give_174 (by decide) (fun hd => ?_) (fun hd => ?_)
                · have e3 : ph_ge u.1 u.2.1 b p0 = u.2.1 := if_neg hd
                  have hw : hx_w D A s.heap (hm_W cB k0 k1 (ph_gb u b p0) th (hm_bf p0)) H locs := by unfold ph_gb; rw [e3]; exact hw
                  refine lv_iconst (v := nI 1) hx hb dX2_give_183 (by decide +kernel) ?_
                  exact hx_zret S hr rfl hw dX2_give_184
                · have e3 : ph_ge u.1 u.2.1 b p0 = ph_gj u.1 u.2.1 b p0 := if_pos hd
                  refine lv_aload_n hx hb dX2_give_177 rfl (lv_at hl 4 rfl) ?_
                  refine lv_lload_n hx hb dX2_give_178 rfl (lv_at hl 0 rfl) ?_
                  refine lv_l2i (v := nI (ph_gj u.1 u.2.1 b p0)) hx hb dX2_give_179 (lN_i _) ?_
                  refine va_put (D := D) (ci := 2) (v := .int (nI (ph_gj u.1 u.2.1 b p0))) (ty := .int) (C := RX2) (T := TX2) (N := 5) hx hb hts hi2 tyX2 tyX2_ok nmX2 hown hK hw.1 hw.2.1 hw.2.2 0 rfl rfl 1 (by decide) (hts (.fieldLink RX2 14 "HeapRowModel" "end" "I") (by decide +kernel)) (fun _ h9 => h9) rfl (by decide +kernel) rfl rfl (Nat.le_of_ble_eq_true rfl) dX2_give_180 (fun H locs y1 y2 y3 => ?_)
                  have hw : hx_w D A s.heap (hm_W cB k0 k1 (ph_g2 u.1 u.2.1 b p0, ph_gj u.1 u.2.1 b p0, u.2.2) th (hm_bf p0)) H locs := ⟨y1, y2, y3⟩
                  have hw : hx_w D A s.heap (hm_W cB k0 k1 (ph_gb u b p0) th (hm_bf p0)) H locs := by unfold ph_gb; rw [e3]; exact hw
                  refine lv_iconst (v := nI 1) hx hb dX2_give_183 (by decide +kernel) ?_
                  exact hx_zret S hr rfl hw dX2_give_184
    · exact absurd hc ha0
set_option maxHeartbeats 4000000 in
set_option maxRecDepth 100000 in
theorem mx_give (l : Launch) (hst : l.stackTraces = false) (D : va_G) (tys : List (ClassId × FieldType)) (cB : ClassId) (ht : tys[1]? = some (cB, .byte)) (k0 k1 : Nat) (u : ph_H) (th : Int32) (bf : Int64) (a : Nat) (u2 : ph_H) (hu : ph_I u) (ha : a < 4294967296) (ha0 : a ≠ 0) (h : ph_give u a = (false, u2)) : ∃ bf2 : Int64, hx_X l D tys yX2_give wsX2_give 10 176 [.ref k0, .int (nI a)] (hm_W cB k0 k1 u th bf) (hm_W cB k0 k1 u2 th bf2) := by
  unfold ph_give at h
  rcases hf : ph_fd u.1 u.2.1 a 8064 0 1024 with _ | ⟨b, p0⟩
  · rw [hf] at h
    dsimp only at h
    cases h
    generalize hz : ph_bb u.1 u.2.1 8064 0 1024 = z
    refine ⟨hm_bf z, ?_⟩
    refine hx_X.ofW (cc := cX2_give) (maxL := 10) (ret := (some .boolean)) (by decide) rfl (Nat.le_of_ble_eq_true rfl) ?_
    intro p e s m below meth c A ls hr S hno hw hl
    have S : hx_S p l s m _ meth c cX2_give 10 wsX2_give RX2 A D tys := S
    obtain ⟨⟨hx, hb, hml, hown, hts⟩, hK, hA, hE, hlk⟩ := id S
    have hi2 : ∀ w ∈ wsX20, w ∈ wsX2_give := by decide +kernel
    have hl : lv_has ls 10 [(0, .ref k0), (1, .int (nI a))] := hl
    refine lv_iload_n hx hb dX2_give_0 rfl (lv_at hl 1 rfl) ?_
    refine hn_zne (n := a) (tgt := 6) hx hb (by omega) dX2_give_1 (by decide) (fun hc => ?_) (fun hc => ?_)
    · refine lv_aload_n hx hb dX2_give_6 rfl (lv_at hl 0 rfl) ?_
      refine lv_iload_n hx hb dX2_give_7 rfl (lv_at hl 1 rfl) ?_
      exact hx_thr (rest := []) (n := 1) S hno hw (mx_found l hst D tys cB ht k0 k1 u th bf a z hu ha hz hf) gX2_give_X2_found rfl (by decide +kernel) rfl ⟨Nat.le_of_ble_eq_true rfl, Nat.le_of_ble_eq_true rfl⟩ 0 2 rfl rfl hm_adr hl.1 rfl (Nat.le_of_ble_eq_true rfl) ⟨by decide, by decide⟩ dX2_give_8
    · exact absurd hc ha0
  · rw [hf] at h; cases h
end
