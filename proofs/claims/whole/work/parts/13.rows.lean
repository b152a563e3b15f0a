/-! rows whose value is named, and compares over nI, lN -/
section HN
variable {p : Program} {l : Launch} {e : Env} {R : Room} {s : State} {m : MethodId} {args : Array Value} {below : List Frame} {meth : Method} {c : Code} {H : Heap} {locs : List Loc} {cells slots : Nat} {Q : State → Prop}
variable {cc : ByteArray} {pc : Nat} {ls : Array Slot} {rest : List Value}
theorem hn_ladd (hx : p.tables.exec = Jvm.exec) (hb : c.code = cc) {x y v : Int64} (hdg : decode cc pc = .ok (.ladd, 1)) (hv : x + y = v) (k : W p l e R s m args below meth c H locs cells slots Q (F0 m (pc + 1) ls (.long v :: rest))) : W p l e R s m args below meth c H locs cells slots Q (F0 m pc ls (.long y :: .long x :: rest)) := by subst hv; exact lv_ladd hx hb hdg k
theorem hn_iadd (hx : p.tables.exec = Jvm.exec) (hb : c.code = cc) {x y v : Int32} (hdg : decode cc pc = .ok (.iadd, 1)) (hv : x + y = v) (k : W p l e R s m args below meth c H locs cells slots Q (F0 m (pc + 1) ls (.int v :: rest))) : W p l e R s m args below meth c H locs cells slots Q (F0 m pc ls (.int y :: .int x :: rest)) := by subst hv; exact lv_iadd hx hb hdg k
theorem hn_lsub (hx : p.tables.exec = Jvm.exec) (hb : c.code = cc) {x y v : Int64} (hdg : decode cc pc = .ok (.lsub, 1)) (hv : x - y = v) (k : W p l e R s m args below meth c H locs cells slots Q (F0 m (pc + 1) ls (.long v :: rest))) : W p l e R s m args below meth c H locs cells slots Q (F0 m pc ls (.long y :: .long x :: rest)) := by subst hv; exact lv_lsub hx hb hdg k
theorem hn_isub (hx : p.tables.exec = Jvm.exec) (hb : c.code = cc) {x y v : Int32} (hdg : decode cc pc = .ok (.isub, 1)) (hv : x - y = v) (k : W p l e R s m args below meth c H locs cells slots Q (F0 m (pc + 1) ls (.int v :: rest))) : W p l e R s m args below meth c H locs cells slots Q (F0 m pc ls (.int y :: .int x :: rest)) := by subst hv; exact lv_isub hx hb hdg k
theorem hn_lmul (hx : p.tables.exec = Jvm.exec) (hb : c.code = cc) {x y v : Int64} (hdg : decode cc pc = .ok (.lmul, 1)) (hv : x * y = v) (k : W p l e R s m args below meth c H locs cells slots Q (F0 m (pc + 1) ls (.long v :: rest))) : W p l e R s m args below meth c H locs cells slots Q (F0 m pc ls (.long y :: .long x :: rest)) := by subst hv; exact lv_lmul hx hb hdg k
theorem hn_imul (hx : p.tables.exec = Jvm.exec) (hb : c.code = cc) {x y v : Int32} (hdg : decode cc pc = .ok (.imul, 1)) (hv : x * y = v) (k : W p l e R s m args below meth c H locs cells slots Q (F0 m (pc + 1) ls (.int v :: rest))) : W p l e R s m args below meth c H locs cells slots Q (F0 m pc ls (.int y :: .int x :: rest)) := by subst hv; exact lv_imul hx hb hdg k
theorem hn_land (hx : p.tables.exec = Jvm.exec) (hb : c.code = cc) {x y v : Int64} (hdg : decode cc pc = .ok (.land, 1)) (hv : x &&& y = v) (k : W p l e R s m args below meth c H locs cells slots Q (F0 m (pc + 1) ls (.long v :: rest))) : W p l e R s m args below meth c H locs cells slots Q (F0 m pc ls (.long y :: .long x :: rest)) := by subst hv; exact lv_land hx hb hdg k
theorem hn_iand (hx : p.tables.exec = Jvm.exec) (hb : c.code = cc) {x y v : Int32} (hdg : decode cc pc = .ok (.iand, 1)) (hv : x &&& y = v) (k : W p l e R s m args below meth c H locs cells slots Q (F0 m (pc + 1) ls (.int v :: rest))) : W p l e R s m args below meth c H locs cells slots Q (F0 m pc ls (.int y :: .int x :: rest)) := by subst hv; exact lv_iand hx hb hdg k
theorem hn_lor (hx : p.tables.exec = Jvm.exec) (hb : c.code = cc) {x y v : Int64} (hdg : decode cc pc = .ok (.lor, 1)) (hv : x ||| y = v) (k : W p l e R s m args below meth c H locs cells slots Q (F0 m (pc + 1) ls (.long v :: rest))) : W p l e R s m args below meth c H locs cells slots Q (F0 m pc ls (.long y :: .long x :: rest)) := by subst hv; exact lv_lor hx hb hdg k
theorem hn_ior (hx : p.tables.exec = Jvm.exec) (hb : c.code = cc) {x y v : Int32} (hdg : decode cc pc = .ok (.ior, 1)) (hv : x ||| y = v) (k : W p l e R s m args below meth c H locs cells slots Q (F0 m (pc + 1) ls (.int v :: rest))) : W p l e R s m args below meth c H locs cells slots Q (F0 m pc ls (.int y :: .int x :: rest)) := by subst hv; exact lv_ior hx hb hdg k
theorem hn_lxor (hx : p.tables.exec = Jvm.exec) (hb : c.code = cc) {x y v : Int64} (hdg : decode cc pc = .ok (.lxor, 1)) (hv : x ^^^ y = v) (k : W p l e R s m args below meth c H locs cells slots Q (F0 m (pc + 1) ls (.long v :: rest))) : W p l e R s m args below meth c H locs cells slots Q (F0 m pc ls (.long y :: .long x :: rest)) := by subst hv; exact lv_lxor hx hb hdg k
theorem hn_ldiv (hx : p.tables.exec = Jvm.exec) (hb : c.code = cc) {x y v : Int64} (hdg : decode cc pc = .ok (.ldiv, 1)) (hne : ¬ y = 0) (hv : x / y = v) (k : W p l e R s m args below meth c H locs cells slots Q (F0 m (pc + 1) ls (.long v :: rest))) : W p l e R s m args below meth c H locs cells slots Q (F0 m pc ls (.long y :: .long x :: rest)) := by subst hv; exact lv_ldiv hx hb hdg hne k
theorem hn_idiv (hx : p.tables.exec = Jvm.exec) (hb : c.code = cc) {x y v : Int32} (hdg : decode cc pc = .ok (.idiv, 1)) (hne : ¬ y = 0) (hv : x / y = v) (k : W p l e R s m args below meth c H locs cells slots Q (F0 m (pc + 1) ls (.int v :: rest))) : W p l e R s m args below meth c H locs cells slots Q (F0 m pc ls (.int y :: .int x :: rest)) := by subst hv; exact lv_idiv hx hb hdg hne k
theorem hn_irem (hx : p.tables.exec = Jvm.exec) (hb : c.code = cc) {x y v : Int32} (hdg : decode cc pc = .ok (.irem, 1)) (hne : ¬ y = 0) (hv : x - x / y * y = v) (k : W p l e R s m args below meth c H locs cells slots Q (F0 m (pc + 1) ls (.int v :: rest))) : W p l e R s m args below meth c H locs cells slots Q (F0 m pc ls (.int y :: .int x :: rest)) := by subst hv; exact lv_irem hx hb hdg hne k
theorem hn_ishl (hx : p.tables.exec = Jvm.exec) (hb : c.code = cc) {x y v : Int32} (hdg : decode cc pc = .ok (.ishl, 1)) (hv : x <<< (y &&& 31) = v) (k : W p l e R s m args below meth c H locs cells slots Q (F0 m (pc + 1) ls (.int v :: rest))) : W p l e R s m args below meth c H locs cells slots Q (F0 m pc ls (.int y :: .int x :: rest)) := by subst hv; exact lv_ishl hx hb hdg k
theorem hn_ishr (hx : p.tables.exec = Jvm.exec) (hb : c.code = cc) {x y v : Int32} (hdg : decode cc pc = .ok (.ishr, 1)) (hv : x >>> (y &&& 31) = v) (k : W p l e R s m args below meth c H locs cells slots Q (F0 m (pc + 1) ls (.int v :: rest))) : W p l e R s m args below meth c H locs cells slots Q (F0 m pc ls (.int y :: .int x :: rest)) := by subst hv; exact lv_ishr hx hb hdg k
theorem hn_b63 {a : Nat} (h : a < 9223372036854775808) : a < 2 ^ 63 := h
theorem hn_b31 {a : Nat} (h : a < 2147483648) : a < 2 ^ 31 := h
theorem hn_llt (hx : p.tables.exec = Jvm.exec) (hb : c.code = cc) {a b : Nat} (ha : a < 9223372036854775808) (hb9 : b < 9223372036854775808) {off : Int} {tgt : Nat} (d1 : decode cc pc = .ok (.lcmp, 1)) (d2 : decode cc (pc + 1) = .ok (.ifCond .lt off, 3)) (ht : ((pc + 1 : Nat) : Int) + off = (tgt : Int)) (kt : a < b → W p l e R s m args below meth c H locs cells slots Q (F0 m tgt ls rest)) (kf : b ≤ a → W p l e R s m args below meth c H locs cells slots Q (F0 m (pc + 4) ls rest)) : W p l e R s m args below meth c H locs cells slots Q (F0 m pc ls (.long (lN b) :: .long (lN a) :: rest)) := by
  have ha := hn_b63 ha
  have hb9 := hn_b63 hb9
  refine W.lcmp hx hb d1 ?_
  refine lv_if_lt hx hb d2 ht (fun h => kt ?_) (fun h => kf ?_)
  · exact (pk_lLT ha hb9).mp ((lg_cmp_lt _ _).mp h)
  · exact Nat.le_of_not_lt fun z => h ((lg_cmp_lt _ _).mpr ((pk_lLT ha hb9).mpr z))
theorem hn_lge (hx : p.tables.exec = Jvm.exec) (hb : c.code = cc) {a b : Nat} (ha : a < 9223372036854775808) (hb9 : b < 9223372036854775808) {off : Int} {tgt : Nat} (d1 : decode cc pc = .ok (.lcmp, 1)) (d2 : decode cc (pc + 1) = .ok (.ifCond .ge off, 3)) (ht : ((pc + 1 : Nat) : Int) + off = (tgt : Int)) (kt : b ≤ a → W p l e R s m args below meth c H locs cells slots Q (F0 m tgt ls rest)) (kf : a < b → W p l e R s m args below meth c H locs cells slots Q (F0 m (pc + 4) ls rest)) : W p l e R s m args below meth c H locs cells slots Q (F0 m pc ls (.long (lN b) :: .long (lN a) :: rest)) := by
  have ha := hn_b63 ha
  have hb9 := hn_b63 hb9
  refine W.lcmp hx hb d1 ?_
  refine lv_if_ge hx hb d2 ht (fun h => kt ?_) (fun h => kf ?_)
  · exact (pk_lLE hb9 ha).mp ((lg_cmp_ge _ _).mp h)
  · exact Nat.lt_of_not_le fun z => h ((lg_cmp_ge _ _).mpr ((pk_lLE hb9 ha).mpr z))
theorem hn_lle (hx : p.tables.exec = Jvm.exec) (hb : c.code = cc) {a b : Nat} (ha : a < 9223372036854775808) (hb9 : b < 9223372036854775808) {off : Int} {tgt : Nat} (d1 : decode cc pc = .ok (.lcmp, 1)) (d2 : decode cc (pc + 1) = .ok (.ifCond .le off, 3)) (ht : ((pc + 1 : Nat) : Int) + off = (tgt : Int)) (kt : a ≤ b → W p l e R s m args below meth c H locs cells slots Q (F0 m tgt ls rest)) (kf : b < a → W p l e R s m args below meth c H locs cells slots Q (F0 m (pc + 4) ls rest)) : W p l e R s m args below meth c H locs cells slots Q (F0 m pc ls (.long (lN b) :: .long (lN a) :: rest)) := by
  have ha := hn_b63 ha
  have hb9 := hn_b63 hb9
  refine W.lcmp hx hb d1 ?_
  refine lv_if_le hx hb d2 ht (fun h => kt ?_) (fun h => kf ?_)
  · exact (pk_lLE ha hb9).mp ((lg_cmp_le _ _).mp h)
  · exact Nat.lt_of_not_le fun z => h ((lg_cmp_le _ _).mpr ((pk_lLE ha hb9).mpr z))
theorem hn_lgt (hx : p.tables.exec = Jvm.exec) (hb : c.code = cc) {a b : Nat} (ha : a < 9223372036854775808) (hb9 : b < 9223372036854775808) {off : Int} {tgt : Nat} (d1 : decode cc pc = .ok (.lcmp, 1)) (d2 : decode cc (pc + 1) = .ok (.ifCond .gt off, 3)) (ht : ((pc + 1 : Nat) : Int) + off = (tgt : Int)) (kt : b < a → W p l e R s m args below meth c H locs cells slots Q (F0 m tgt ls rest)) (kf : a ≤ b → W p l e R s m args below meth c H locs cells slots Q (F0 m (pc + 4) ls rest)) : W p l e R s m args below meth c H locs cells slots Q (F0 m pc ls (.long (lN b) :: .long (lN a) :: rest)) := by
  have ha := hn_b63 ha
  have hb9 := hn_b63 hb9
  refine W.lcmp hx hb d1 ?_
  refine lv_if_gt hx hb d2 ht (fun h => kt ?_) (fun h => kf ?_)
  · exact (pk_lLT hb9 ha).mp ((lg_cmp_gt _ _).mp h)
  · exact Nat.le_of_not_lt fun z => h ((lg_cmp_gt _ _).mpr ((pk_lLT hb9 ha).mpr z))
theorem hn_leq (hx : p.tables.exec = Jvm.exec) (hb : c.code = cc) {a b : Nat} (ha : a < 9223372036854775808) (hb9 : b < 9223372036854775808) {off : Int} {tgt : Nat} (d1 : decode cc pc = .ok (.lcmp, 1)) (d2 : decode cc (pc + 1) = .ok (.ifCond .eq off, 3)) (ht : ((pc + 1 : Nat) : Int) + off = (tgt : Int)) (kt : a = b → W p l e R s m args below meth c H locs cells slots Q (F0 m tgt ls rest)) (kf : a ≠ b → W p l e R s m args below meth c H locs cells slots Q (F0 m (pc + 4) ls rest)) : W p l e R s m args below meth c H locs cells slots Q (F0 m pc ls (.long (lN b) :: .long (lN a) :: rest)) := by
  have ha := hn_b63 ha
  have hb9 := hn_b63 hb9
  refine W.lcmp hx hb d1 ?_
  refine lv_if_eq hx hb d2 ht (fun h => kt ?_) (fun h => kf ?_)
  · exact (pk_lEQ ha hb9).mp ((lg_cmp_eq _ _).mp h)
  · exact fun z => h ((lg_cmp_eq _ _).mpr ((pk_lEQ ha hb9).mpr z))
theorem hn_lne (hx : p.tables.exec = Jvm.exec) (hb : c.code = cc) {a b : Nat} (ha : a < 9223372036854775808) (hb9 : b < 9223372036854775808) {off : Int} {tgt : Nat} (d1 : decode cc pc = .ok (.lcmp, 1)) (d2 : decode cc (pc + 1) = .ok (.ifCond .ne off, 3)) (ht : ((pc + 1 : Nat) : Int) + off = (tgt : Int)) (kt : a ≠ b → W p l e R s m args below meth c H locs cells slots Q (F0 m tgt ls rest)) (kf : a = b → W p l e R s m args below meth c H locs cells slots Q (F0 m (pc + 4) ls rest)) : W p l e R s m args below meth c H locs cells slots Q (F0 m pc ls (.long (lN b) :: .long (lN a) :: rest)) := by
  have ha := hn_b63 ha
  have hb9 := hn_b63 hb9
  refine W.lcmp hx hb d1 ?_
  refine lv_if_ne hx hb d2 ht (fun h => kt ?_) (fun h => kf ?_)
  · exact fun z => h ((lg_cmp_eq _ _).mpr ((pk_lEQ ha hb9).mpr z))
  · exact (pk_lEQ ha hb9).mp ((lg_cmp_eq _ _).mp h)
theorem hn_ilt (hx : p.tables.exec = Jvm.exec) (hb : c.code = cc) {a b : Nat} (ha : a < 2147483648) (hb9 : b < 2147483648) {off : Int} {tgt : Nat} (d : decode cc pc = .ok (.if_icmp .lt off, 3)) (ht : (pc : Int) + off = (tgt : Int)) (kt : a < b → W p l e R s m args below meth c H locs cells slots Q (F0 m tgt ls rest)) (kf : b ≤ a → W p l e R s m args below meth c H locs cells slots Q (F0 m (pc + 3) ls rest)) : W p l e R s m args below meth c H locs cells slots Q (F0 m pc ls (.int (nI b) :: .int (nI a) :: rest)) := by
  have ha := hn_b31 ha
  have hb9 := hn_b31 hb9
  refine lv_icmp_lt hx hb d ht (fun h => kt ?_) (fun h => kf ?_)
  · exact (nI_ltI ha hb9).mp h
  · exact Nat.le_of_not_lt fun z => h ((nI_ltI ha hb9).mpr z)
theorem hn_ige (hx : p.tables.exec = Jvm.exec) (hb : c.code = cc) {a b : Nat} (ha : a < 2147483648) (hb9 : b < 2147483648) {off : Int} {tgt : Nat} (d : decode cc pc = .ok (.if_icmp .ge off, 3)) (ht : (pc : Int) + off = (tgt : Int)) (kt : b ≤ a → W p l e R s m args below meth c H locs cells slots Q (F0 m tgt ls rest)) (kf : a < b → W p l e R s m args below meth c H locs cells slots Q (F0 m (pc + 3) ls rest)) : W p l e R s m args below meth c H locs cells slots Q (F0 m pc ls (.int (nI b) :: .int (nI a) :: rest)) := by
  have ha := hn_b31 ha
  have hb9 := hn_b31 hb9
  refine lv_icmp_ge hx hb d ht (fun h => kt ?_) (fun h => kf ?_)
  · exact (nI_leI hb9 ha).mp h
  · exact Nat.lt_of_not_le fun z => h ((nI_leI hb9 ha).mpr z)
theorem hn_ile (hx : p.tables.exec = Jvm.exec) (hb : c.code = cc) {a b : Nat} (ha : a < 2147483648) (hb9 : b < 2147483648) {off : Int} {tgt : Nat} (d : decode cc pc = .ok (.if_icmp .le off, 3)) (ht : (pc : Int) + off = (tgt : Int)) (kt : a ≤ b → W p l e R s m args below meth c H locs cells slots Q (F0 m tgt ls rest)) (kf : b < a → W p l e R s m args below meth c H locs cells slots Q (F0 m (pc + 3) ls rest)) : W p l e R s m args below meth c H locs cells slots Q (F0 m pc ls (.int (nI b) :: .int (nI a) :: rest)) := by
  have ha := hn_b31 ha
  have hb9 := hn_b31 hb9
  refine lv_icmp_le hx hb d ht (fun h => kt ?_) (fun h => kf ?_)
  · exact (nI_leI ha hb9).mp h
  · exact Nat.lt_of_not_le fun z => h ((nI_leI ha hb9).mpr z)
theorem hn_igt (hx : p.tables.exec = Jvm.exec) (hb : c.code = cc) {a b : Nat} (ha : a < 2147483648) (hb9 : b < 2147483648) {off : Int} {tgt : Nat} (d : decode cc pc = .ok (.if_icmp .gt off, 3)) (ht : (pc : Int) + off = (tgt : Int)) (kt : b < a → W p l e R s m args below meth c H locs cells slots Q (F0 m tgt ls rest)) (kf : a ≤ b → W p l e R s m args below meth c H locs cells slots Q (F0 m (pc + 3) ls rest)) : W p l e R s m args below meth c H locs cells slots Q (F0 m pc ls (.int (nI b) :: .int (nI a) :: rest)) := by
  have ha := hn_b31 ha
  have hb9 := hn_b31 hb9
  refine lv_icmp_gt hx hb d ht (fun h => kt ?_) (fun h => kf ?_)
  · exact (nI_ltI hb9 ha).mp h
  · exact Nat.le_of_not_lt fun z => h ((nI_ltI hb9 ha).mpr z)
theorem hn_ieq (hx : p.tables.exec = Jvm.exec) (hb : c.code = cc) {a b : Nat} (ha : a < 2147483648) (hb9 : b < 2147483648) {off : Int} {tgt : Nat} (d : decode cc pc = .ok (.if_icmp .eq off, 3)) (ht : (pc : Int) + off = (tgt : Int)) (kt : a = b → W p l e R s m args below meth c H locs cells slots Q (F0 m tgt ls rest)) (kf : a ≠ b → W p l e R s m args below meth c H locs cells slots Q (F0 m (pc + 3) ls rest)) : W p l e R s m args below meth c H locs cells slots Q (F0 m pc ls (.int (nI b) :: .int (nI a) :: rest)) := by
  have ha := hn_b31 ha
  have hb9 := hn_b31 hb9
  refine lv_icmp_eq hx hb d ht (fun h => kt ?_) (fun h => kf ?_)
  · exact (nI_eq ha hb9).mp h
  · exact fun z => h ((nI_eq ha hb9).mpr z)
theorem hn_ine (hx : p.tables.exec = Jvm.exec) (hb : c.code = cc) {a b : Nat} (ha : a < 2147483648) (hb9 : b < 2147483648) {off : Int} {tgt : Nat} (d : decode cc pc = .ok (.if_icmp .ne off, 3)) (ht : (pc : Int) + off = (tgt : Int)) (kt : a ≠ b → W p l e R s m args below meth c H locs cells slots Q (F0 m tgt ls rest)) (kf : a = b → W p l e R s m args below meth c H locs cells slots Q (F0 m (pc + 3) ls rest)) : W p l e R s m args below meth c H locs cells slots Q (F0 m pc ls (.int (nI b) :: .int (nI a) :: rest)) := by
  have ha := hn_b31 ha
  have hb9 := hn_b31 hb9
  refine lv_icmp_ne hx hb d ht (fun h => kt ?_) (fun h => kf ?_)
  · exact fun z => h ((nI_eq ha hb9).mpr z)
  · exact (nI_eq ha hb9).mp h
theorem hn_32 {n : Nat} (h : n < 4294967296) : nI n = 0 ↔ n = 0 := by
  constructor
  · intro q
    have h1 := pw_nb n
    rw [q] at h1
    have h2 : (0 : Int32).toBitVec.toNat = 0 := by decide +kernel
    rw [h2] at h1
    omega
  · intro q; subst q; exact nI_0
theorem hn_zeq (hx : p.tables.exec = Jvm.exec) (hb : c.code = cc) {n : Nat} (hn : n < 4294967296) {off : Int} {tgt : Nat} (d : decode cc pc = .ok (.ifCond .eq off, 3)) (ht : (pc : Int) + off = (tgt : Int)) (kt : n = 0 → W p l e R s m args below meth c H locs cells slots Q (F0 m tgt ls rest)) (kf : n ≠ 0 → W p l e R s m args below meth c H locs cells slots Q (F0 m (pc + 3) ls rest)) : W p l e R s m args below meth c H locs cells slots Q (F0 m pc ls (.int (nI n) :: rest)) := by
  exact lv_if_eq hx hb d ht (fun h => kt ((hn_32 hn).mp h)) (fun h => kf (fun z => h ((hn_32 hn).mpr z)))
theorem hn_zne (hx : p.tables.exec = Jvm.exec) (hb : c.code = cc) {n : Nat} (hn : n < 4294967296) {off : Int} {tgt : Nat} (d : decode cc pc = .ok (.ifCond .ne off, 3)) (ht : (pc : Int) + off = (tgt : Int)) (kt : n ≠ 0 → W p l e R s m args below meth c H locs cells slots Q (F0 m tgt ls rest)) (kf : n = 0 → W p l e R s m args below meth c H locs cells slots Q (F0 m (pc + 3) ls rest)) : W p l e R s m args below meth c H locs cells slots Q (F0 m pc ls (.int (nI n) :: rest)) := by
  exact lv_if_ne hx hb d ht (fun h => kt (fun z => h ((hn_32 hn).mpr z))) (fun h => kf ((hn_32 hn).mp h))
theorem hn_tf {P : Prop} [Decidable P] : (if P then nI 1 else nI 0) = 0 ↔ ¬ P := by
  by_cases h : P
  · rw [if_pos h]; exact ⟨fun q => absurd q (by decide +kernel), fun q => absurd h q⟩
  · rw [if_neg h]; exact ⟨fun _ => h, fun _ => nI_0⟩
theorem hn_pne {P : Prop} [Decidable P] (hx : p.tables.exec = Jvm.exec) (hb : c.code = cc) {off : Int} {tgt : Nat} (d : decode cc pc = .ok (.ifCond .ne off, 3)) (ht : (pc : Int) + off = (tgt : Int)) (kt : P → W p l e R s m args below meth c H locs cells slots Q (F0 m tgt ls rest)) (kf : ¬ P → W p l e R s m args below meth c H locs cells slots Q (F0 m (pc + 3) ls rest)) : W p l e R s m args below meth c H locs cells slots Q (F0 m pc ls (.int (if P then nI 1 else nI 0) :: rest)) :=
  lv_if_ne hx hb d ht (fun h => kt (Decidable.of_not_not fun z => h (hn_tf.mpr z))) (fun h => kf (hn_tf.mp h))
theorem hn_peq {P : Prop} [Decidable P] (hx : p.tables.exec = Jvm.exec) (hb : c.code = cc) {off : Int} {tgt : Nat} (d : decode cc pc = .ok (.ifCond .eq off, 3)) (ht : (pc : Int) + off = (tgt : Int)) (kt : ¬ P → W p l e R s m args below meth c H locs cells slots Q (F0 m tgt ls rest)) (kf : P → W p l e R s m args below meth c H locs cells slots Q (F0 m (pc + 3) ls rest)) : W p l e R s m args below meth c H locs cells slots Q (F0 m pc ls (.int (if P then nI 1 else nI 0) :: rest)) :=
  lv_if_eq hx hb d ht (fun h => kt (hn_tf.mp h)) (fun h => kf (Decidable.of_not_not fun z => h (hn_tf.mpr z)))
section Arr
variable {A : Nat → Prop} {D : va_G} {tys : List (ClassId × FieldType)} {w : va_W} {H0 : Heap} {a : Nat}
theorem hn_lald (hx : p.tables.exec = Jvm.exec) (hb : c.code = cc) (hK : va_K D vwCl tys s) (hP : va_P D vwCl w H) (q0 t0 : Nat) {cA : ClassId} {n : Nat} {f : Nat → Int64} (ha : w[q0]? = some (a, .inl (cA, n, .inr (.inl f)))) (ht : tys[t0]? = some (cA, .long)) {k : Nat} (hk : k < n) (hn : n < 2147483648) (hdg : decode cc pc = .ok (.laload, 1)) (kk : W p l e R s m args below meth c H locs cells slots Q (F0 m (pc + 1) ls (.long (f k) :: rest))) : W p l e R s m args below meth c H locs cells slots Q (F0 m pc ls (.int (nI k) :: .ref a :: rest)) := by
  refine va_lald hx hb hK hP q0 t0 ha ht (vp_in_nI hk hn) hdg ?_
  rw [nI_clamp (Nat.lt_trans hk hn)]
  exact kk
theorem hn_bald (hx : p.tables.exec = Jvm.exec) (hb : c.code = cc) (hK : va_K D vwCl tys s) (hP : va_P D vwCl w H) (q0 t0 : Nat) {cA : ClassId} {n : Nat} {f : Nat → Int32} (ha : w[q0]? = some (a, .inl (cA, n, .inl f))) (ht : tys[t0]? = some (cA, .byte)) {k : Nat} (hk : k < n) (hn : n < 2147483648) (hdg : decode cc pc = .ok (.baload, 1)) (kk : W p l e R s m args below meth c H locs cells slots Q (F0 m (pc + 1) ls (.int (f k) :: rest))) : W p l e R s m args below meth c H locs cells slots Q (F0 m pc ls (.int (nI k) :: .ref a :: rest)) := by
  refine va_bald hx hb hK hP q0 t0 ha ht (vp_in_nI hk hn) hdg ?_
  rw [nI_clamp (Nat.lt_trans hk hn)]
  exact kk
theorem hn_last (hx : p.tables.exec = Jvm.exec) (hb : c.code = cc) (hK : va_K D vwCl tys s) (hw : hx_w D A H0 w H locs) (q0 t0 : Nat) {cA : ClassId} {n : Nat} {f : Nat → Int64} (ha : w[q0]? = some (a, .inl (cA, n, .inr (.inl f)))) (ht : tys[t0]? = some (cA, .long)) {k : Nat} {x : Int64} (hk : k < n) (hn : n < 2147483648) (hdg : decode cc pc = .ok (.lastore, 1)) (kk : ∀ (H1 : Heap) (locs1 : List Loc), hx_w D A H0 (w.set q0 (a, .inl (cA, n, .inr (.inl (vp_updL f k x))))) H1 locs1 → W p l e R s m args below meth c H1 locs1 cells slots Q (F0 m (pc + 1) ls rest)) : W p l e R s m args below meth c H locs cells slots Q (F0 m pc ls (.long x :: .int (nI k) :: .ref a :: rest)) := by
  obtain ⟨hP, hD, hS⟩ := hw
  refine va_last hx hb hK hP hD hS q0 t0 ha ht (vp_in_nI hk hn) hdg (fun H1 locs1 g1 g2 g3 => ?_)
  rw [nI_clamp (Nat.lt_trans hk hn)] at g1 g2
  exact kk H1 locs1 ⟨g1, g2, g3⟩
theorem hn_bast (hx : p.tables.exec = Jvm.exec) (hb : c.code = cc) (hK : va_K D vwCl tys s) (hw : hx_w D A H0 w H locs) (q0 t0 : Nat) {cA : ClassId} {n : Nat} {f : Nat → Int32} (ha : w[q0]? = some (a, .inl (cA, n, .inl f))) (ht : tys[t0]? = some (cA, .byte)) {k : Nat} {x : Int32} (hk : k < n) (hn : n < 2147483648) (hdg : decode cc pc = .ok (.bastore, 1)) (kk : ∀ (H1 : Heap) (locs1 : List Loc), hx_w D A H0 (w.set q0 (a, .inl (cA, n, .inl (upd f k (vp_nar .byte x))))) H1 locs1 → W p l e R s m args below meth c H1 locs1 cells slots Q (F0 m (pc + 1) ls rest)) : W p l e R s m args below meth c H locs cells slots Q (F0 m pc ls (.int x :: .int (nI k) :: .ref a :: rest)) := by
  obtain ⟨hP, hD, hS⟩ := hw
  refine va_bast hx hb hK hP hD hS q0 t0 ha ht (vp_in_nI hk hn) hdg (fun H1 locs1 g1 g2 g3 => ?_)
  rw [nI_clamp (Nat.lt_trans hk hn)] at g1 g2
  exact kk H1 locs1 ⟨g1, g2, g3⟩
end Arr
end HN
