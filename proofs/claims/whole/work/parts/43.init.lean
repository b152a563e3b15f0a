/-! the constructors -/
def hi_m : ph_M := fun _ => 0#8
def hi_u : ph_H := (hi_m, 1024, 65536)
theorem hi_w : pw_w hi_m = fun _ => 0 := by
  funext i
  show lN (pw_r 8 (fun _ => 0#8)) = 0
  decide +kernel
theorem hi_b : (fun j => sb_b (ph_b hi_m j)) = fun _ => 0 := by
  funext i
  show sb_b 0 = 0
  decide +kernel
set_option maxHeartbeats 1000000 in
set_option maxRecDepth 100000 in
/-- Memory(): a row of 8064 longs -/
theorem c_Memory_init (l : Launch) (D : va_G) (tys : List (ClassId × FieldType)) (h1 sz : Nat) : Met l yX0_init wsX0_init ({ frames := 1, cells := 1, slots := 8064, locals := 12 }) (va_Pc [.ref h1] (fun U => U.heap.size = sz ∧ va_P D vwCl [(h1, .inr (0, [.null]))] U.heap ∧ va_K D vwCl tys U ∧ va_D (fun _ => True) [(h1, .inr (0, [.null]))])) (va_Qv (fun _ : Unit => True) (fun _ t => ∃ (q : Nat) (cJ : ClassId), va_P D vwCl [(h1, .inr (0, [.ref q])), (q, .inl (cJ, 8064, .inr (.inl (fun _ => 0))))] t.heap ∧ va_K D vwCl (tys ++ [(cJ, .long)]) t ∧ va_D (va_A [(h1, .inr (0, [.null]))] sz) [(h1, .inr (0, [.ref q])), (q, .inl (cJ, 8064, .inr (.inl (fun _ => 0))))]) (va_A [(h1, .inr (0, [.null]))] sz)) 1 8064 (va_A [(h1, .inr (0, [.null]))] sz) := by
  refine Met.ofW (cc := cX0_init) (maxL := 1) (ret := none) (by decide) rfl ?_
  intro p e s m args below meth c s₁ B hml hv
  obtain ⟨rfl, hsz, hP, hK, hD0⟩ := hv
  have hx := B.exec
  have hb := B.bytes
  have hr := B.returns
  have hts := atoms_spec (ws := wsX0_init) B.pre
  have hown : s.vm.findClass RX0 = some m.cls := findClass_of_methodNamed B.named
  have hlocks := B.notSynchronized
  have hin : meth.name = "<init>" := (name_of_methodNamed B.named B.method).1
  subst hsz
  have hD := hD0.self (sz := s.heap.size)
  generalize hAe : va_A [(h1, .inr (0, [.null]))] s.heap.size = A at hD ⊢
  have hA : ∀ q : Nat, s.heap.size ≤ q → A q := fun q h => by rw [← hAe]; exact Or.inr h
  have hS : va_S A s.heap s.heap [] := va_S.rf
  have hl := lv_entry ([.ref h1]) (n := 1) (Nat.le_of_ble_eq_true rfl)
  rw [lg_entry_eq]
  generalize (lg_sl ([.ref h1]) ++ List.replicate (1 - (lg_sl ([.ref h1])).length) Slot.unset).toArray = ls at hl ⊢
  have hl : lv_has ls 1 [(0, .ref h1)] := hl
  refine lv_aload_n hx hb dX0_init_0 rfl (lv_at hl 0 rfl) ?_
  refine W.objInit hx hb hown (hts (.methodLink RX0 3 objectInit) (by decide +kernel)) (hts (.instanceMethod objectInit) (by decide +kernel)) (hts (.code objectInit ⟨#[0xb1]⟩ 1 none) (by decide +kernel)) rfl (by rw [hml]; exact hl.1) rfl dX0_init_1 (Nat.le_of_ble_eq_true rfl) (Nat.le_of_ble_eq_true rfl) ?_
  refine W.eq (g2 := F0 m 4 ls []) rfl ?_
  refine lv_aload_n hx hb dX0_init_4 rfl (lv_at hl 0 rfl) ?_
  refine lv_sipush (v := 8064) hx hb dX0_init_5 (by decide +kernel) ?_
  refine va_newa (atype := .long) (ty := .long) (N' := 8064) (a0 := (8064, .inr (.inl (fun _ => 0)))) hx hb (hts (.arrayClass .long) (by decide +kernel)) rfl hK hP hD hS hA (fun cA => vp_cell_l cA 8064 (fun _ => 0)) (by decide +kernel) (by decide +kernel) (by decide) (Nat.le_of_ble_eq_true rfl) (Nat.le_of_ble_eq_true rfl) dX0_init_8 (fun q cJ H hK hP hD hS => ?_)
  refine va_putF (D := D) (ci := 0) (v := .ref q) (ty := .array .long) (C := RX0) (T := TX0) (N := 1) hx hb hts (by decide +kernel) tyX0 tyX0_ok nmX0 hown hK hP hD hS 0 rfl rfl 0 (by decide) (hts (.fieldLink RX0 11 "HeapRow$Memory" "words" "[J") (by decide +kernel)) (fun _ h9 => h9) rfl hin rfl (by decide +kernel) rfl rfl (Nat.le_of_ble_eq_true rfl) dX0_init_10 (fun H locs hP hD hS => ?_)
  exact W.vret hx hb hr (fun t ht hW => ⟨⟨(), rfl, trivial, q, cJ, by rw [ht]; exact hP, va_K.moved hW.alike hK, hD⟩, hS.F ht⟩) hS.2.2 dX0_init_13
set_option maxHeartbeats 1000000 in
set_option maxRecDepth 100000 in
/-- HeapRow() -/
theorem c_Heap_init (l : Launch) (D : va_G) (tys : List (ClassId × FieldType)) (h0 sz : Nat) : Met l yX1_init wsX1_init ({ frames := 2, cells := 2, slots := 8065, locals := 32 }) (va_Pc [.ref h0] (fun U => U.heap.size = sz ∧ va_P D vwCl [(h0, .inr (1, [.null, .long 0, .long 0]))] U.heap ∧ va_K D vwCl tys U ∧ va_D (fun _ => True) [(h0, .inr (1, [.null, .long 0, .long 0]))] ∧ va_Nw (.methodLinkNest RX1 11 yX0_init "HeapRow") U)) (va_Qv (fun _ : Unit => True) (fun _ t => ∃ (h1 h2 : Nat) (cJ : ClassId), va_P D vwCl (hc_W cJ h0 h1 h2 hi_u) t.heap ∧ va_K D vwCl (tys ++ [(cJ, .long)]) t ∧ va_D (va_A [(h0, .inr (1, [.null, .long 0, .long 0]))] sz) (hc_W cJ h0 h1 h2 hi_u)) (va_A [(h0, .inr (1, [.null, .long 0, .long 0]))] sz)) 2 8065 (va_A [(h0, .inr (1, [.null, .long 0, .long 0]))] sz) := by
  refine Met.ofW (cc := cX1_init) (maxL := 1) (ret := none) (by decide) rfl ?_
  intro p e s m args below meth c s₁ B hml hv
  obtain ⟨rfl, hsz, hP, hK, hD0, hNw⟩ := hv
  have hx := B.exec
  have hb := B.bytes
  have hr := B.returns
  have hts := atoms_spec (ws := wsX1_init) B.pre
  have hown : s.vm.findClass RX1 = some m.cls := findClass_of_methodNamed B.named
  have hlocks := B.notSynchronized
  have hin : meth.name = "<init>" := (name_of_methodNamed B.named B.method).1
  subst hsz
  have hD := hD0.self (sz := s.heap.size)
  generalize hAe : va_A [(h0, .inr (1, [.null, .long 0, .long 0]))] s.heap.size = A at hD ⊢
  have hA : ∀ q : Nat, s.heap.size ≤ q → A q := fun q h => by rw [← hAe]; exact Or.inr h
  have hS : va_S A s.heap s.heap [] := va_S.rf
  have hl := lv_entry ([.ref h0]) (n := 1) (Nat.le_of_ble_eq_true rfl)
  rw [lg_entry_eq]
  generalize (lg_sl ([.ref h0]) ++ List.replicate (1 - (lg_sl ([.ref h0])).length) Slot.unset).toArray = ls at hl ⊢
  have hl : lv_has ls 1 [(0, .ref h0)] := hl
  refine lv_aload_n hx hb dX1_init_0 rfl (lv_at hl 0 rfl) ?_
  refine W.objInit hx hb hown (hts (.methodLink RX1 3 objectInit) (by decide +kernel)) (hts (.instanceMethod objectInit) (by decide +kernel)) (hts (.code objectInit ⟨#[0xb1]⟩ 1 none) (by decide +kernel)) rfl (by rw [hml]; exact hl.1) rfl dX1_init_1 (Nat.le_of_ble_eq_true rfl) (Nat.le_of_ble_eq_true rfl) ?_
  refine W.eq (g2 := F0 m 4 ls []) rfl ?_
  refine lv_aload_n hx hb dX1_init_4 rfl (lv_at hl 0 rfl) ?_
  refine va_new (ci := 0) (fs := [.null]) (C := RX0) (T := TX0) (N := 1) hx hb hts (by decide +kernel) tyX0 tyX0_ok hown (hts (.classLink RX1 9 RX0) (by decide +kernel)) (hts (.instantiable RX0 1) (by decide +kernel)) (hts (.initialized RX0) (by decide +kernel)) hK hP hD hS hA rfl (fun j hj => by rcases (show j = 0 by omega) with rfl <;> rfl) (Nat.le_of_ble_eq_true rfl) (Nat.le_of_ble_eq_true rfl) dX1_init_5 (fun h1 H hP hD hS => ?_)
  have hP : va_P D vwCl [(h0, .inr (1, [.null, .long 0, .long 0])), (h1, .inr (0, [.null]))] H := hP
  have hD : va_D A [(h0, .inr (1, [.null, .long 0, .long 0])), (h1, .inr (0, [.null]))] := hD
  refine lv_dup hx hb dX1_init_8 rfl ?_
  have hPc := hP.sub (ws' := [(h1, .inr (0, [.null]))]) [1] rfl
  have hDc := hD.sub (ws' := [(h1, .inr (0, [.null]))]) [1] (by decide) rfl
  have hFc := va_free (wc := [(h1, .inr (0, [.null]))]) hD hS hA [1] rfl
  refine va_callv (va_runIN (As := []) (rest := [.ref h1, .ref h0]) ⟨hx, hb, hml, hown, hts⟩ (c_Memory_init l D tys h1 H.size) ⟨va_cnB 0 hts ggX1_init_X0_init rfl rfl rfl hNw (hts (.initialized RX0) (by decide +kernel)) (by decide +kernel) ⟨Nat.le_of_ble_eq_true rfl, Nat.le_of_ble_eq_true rfl⟩, rfl, hts (.instanceMethod yX0_init) (by decide +kernel)⟩ ⟨fun a U g mk q => by obtain ⟨q0, q1, qP, qK, qD⟩ := q; exact ⟨q0, q1, qP, va_K.moved (u := U) (U := U.calling g mk a) (Vm.Alike.refl U.vm) qK, qD⟩, fun U hU hW => ⟨rfl, by rw [hU], by rw [hU]; exact hPc, va_K.moved hW.alike hK, hDc.weaken (fun _ _ _ _ => trivial)⟩⟩ rfl rfl hl.1 rfl (lv_room (Nat.le_of_ble_eq_true rfl)) dX1_init_9 ⟨Nat.le_of_ble_eq_true rfl, Nat.le_of_ble_eq_true rfl⟩) hS (fun q _ h => hFc q h) hFc (fun u t H1 locs ht hvm hw hB hz1 hk1 hS => ?_)
  obtain ⟨h2, cJ, hP1, hK1, hD1⟩ := hB
  rw [ht] at hP1
  have hK := va_K.moved hvm.symm hK1
  obtain ⟨hP, hD⟩ := va_join (wr := [(h0, .inr (1, [.null, .long 0, .long 0]))]) (w1 := [(h1, .inr (0, [.ref h2])), (h2, .inl (cJ, 8064, .inr (.inl (fun _ => 0))))]) hP hD [1] [0] rfl rfl (by decide) (by decide) hk1 hFc hP1 hD1
  refine va_putF (D := D) (ci := 1) (v := .ref h1) (ty := .object "HeapRow$Memory") (C := RX1) (T := TX1) (N := 3) hx hb hts (by decide +kernel) tyX1 tyX1_ok nmX1 hown hK hP hD hS 0 rfl rfl 0 (by decide) (hts (.fieldLink RX1 12 "HeapRow" "memory" "LHeapRow$Memory;") (by decide +kernel)) (fun _ h9 => h9) rfl hin rfl (by decide +kernel) rfl rfl (Nat.le_of_ble_eq_true rfl) dX1_init_12 (fun H locs hP hD hS => ?_)
  have hP : va_P D vwCl [(h0, .inr (1, [.ref h1, .long 0, .long 0])), (h1, .inr (0, [.ref h2])), (h2, .inl (cJ, 8064, .inr (.inl (fun _ => 0))))] H := hP
  have hD : va_D A [(h0, .inr (1, [.ref h1, .long 0, .long 0])), (h1, .inr (0, [.ref h2])), (h2, .inl (cJ, 8064, .inr (.inl (fun _ => 0))))] := hD
  refine lv_aload_n hx hb dX1_init_15 rfl (lv_at hl 0 rfl) ?_
  refine lv_ldc2 (v := lN 1024) hx hb hown (hts (.constantLong RX1 16 (lN 1024)) (by decide +kernel)) dX1_init_16 ?_
  refine va_put (D := D) (ci := 1) (v := .long (lN 1024)) (ty := .long) (C := RX1) (T := TX1) (N := 3) hx hb hts (by decide +kernel) tyX1 tyX1_ok nmX1 hown hK hP hD hS 0 rfl rfl 1 (by decide) (hts (.fieldLink RX1 18 "HeapRow" "end" "J") (by decide +kernel)) (fun _ h9 => h9) rfl (by decide +kernel) rfl rfl (Nat.le_of_ble_eq_true rfl) dX1_init_19 (fun H locs hP hD hS => ?_)
  have hP : va_P D vwCl [(h0, .inr (1, [.ref h1, .long (lN 1024), .long 0])), (h1, .inr (0, [.ref h2])), (h2, .inl (cJ, 8064, .inr (.inl (fun _ => 0))))] H := hP
  have hD : va_D A [(h0, .inr (1, [.ref h1, .long (lN 1024), .long 0])), (h1, .inr (0, [.ref h2])), (h2, .inl (cJ, 8064, .inr (.inl (fun _ => 0))))] := hD
  refine lv_aload_n hx hb dX1_init_22 rfl (lv_at hl 0 rfl) ?_
  refine lv_ldc2 (v := lN 65536) hx hb hown (hts (.constantLong RX1 22 (lN 65536)) (by decide +kernel)) dX1_init_23 ?_
  refine va_put (D := D) (ci := 1) (v := .long (lN 65536)) (ty := .long) (C := RX1) (T := TX1) (N := 3) hx hb hts (by decide +kernel) tyX1 tyX1_ok nmX1 hown hK hP hD hS 0 rfl rfl 2 (by decide) (hts (.fieldLink RX1 24 "HeapRow" "stackEnd" "J") (by decide +kernel)) (fun _ h9 => h9) rfl (by decide +kernel) rfl rfl (Nat.le_of_ble_eq_true rfl) dX1_init_26 (fun H locs hP hD hS => ?_)
  have hP : va_P D vwCl (hc_W cJ h0 h1 h2 hi_u) H := by
    show va_P D vwCl [(h0, .inr (1, [.ref h1, .long (lN 1024), .long (lN 65536)])), (h1, .inr (0, [.ref h2])), (h2, .inl (cJ, 8064, .inr (.inl (pw_w hi_m))))] H
    rw [hi_w]
    exact hP
  have hD : va_D A (hc_W cJ h0 h1 h2 hi_u) := by
    show va_D A [(h0, .inr (1, [.ref h1, .long (lN 1024), .long (lN 65536)])), (h1, .inr (0, [.ref h2])), (h2, .inl (cJ, 8064, .inr (.inl (pw_w hi_m))))]
    rw [hi_w]
    exact hD
  exact W.vret hx hb hr (fun t ht hW => ⟨⟨(), rfl, trivial, h1, h2, cJ, by rw [ht]; exact hP, va_K.moved hW.alike hK, hD⟩, hS.F ht⟩) hS.2.2 dX1_init_29
set_option maxHeartbeats 1000000 in
set_option maxRecDepth 100000 in
/-- HeapRowModel() -/
theorem c_Model_init (l : Launch) (D : va_G) (tys : List (ClassId × FieldType)) (k0 sz : Nat) : Met l yX2_init wsX2_init ({ frames := 1, cells := 1, slots := 65536, locals := 12 }) (va_Pc [.ref k0] (fun U => U.heap.size = sz ∧ va_P D vwCl [(k0, .inr (2, [.null, .int 0, .int 0, .int 0, .long 0]))] U.heap ∧ va_K D vwCl tys U ∧ va_D (fun _ => True) [(k0, .inr (2, [.null, .int 0, .int 0, .int 0, .long 0]))])) (va_Qv (fun _ : Unit => True) (fun _ t => ∃ (k1 : Nat) (cB : ClassId), va_P D vwCl (hm_W cB k0 k1 hi_u 0 0) t.heap ∧ va_K D vwCl (tys ++ [(cB, .byte)]) t ∧ va_D (va_A [(k0, .inr (2, [.null, .int 0, .int 0, .int 0, .long 0]))] sz) (hm_W cB k0 k1 hi_u 0 0)) (va_A [(k0, .inr (2, [.null, .int 0, .int 0, .int 0, .long 0]))] sz)) 1 65536 (va_A [(k0, .inr (2, [.null, .int 0, .int 0, .int 0, .long 0]))] sz) := by
  refine Met.ofW (cc := cX2_init) (maxL := 1) (ret := none) (by decide) rfl ?_
  intro p e s m args below meth c s₁ B hml hv
  obtain ⟨rfl, hsz, hP, hK, hD0⟩ := hv
  have hx := B.exec
  have hb := B.bytes
  have hr := B.returns
  have hts := atoms_spec (ws := wsX2_init) B.pre
  have hown : s.vm.findClass RX2 = some m.cls := findClass_of_methodNamed B.named
  have hlocks := B.notSynchronized
  have hin : meth.name = "<init>" := (name_of_methodNamed B.named B.method).1
  subst hsz
  have hD := hD0.self (sz := s.heap.size)
  generalize hAe : va_A [(k0, .inr (2, [.null, .int 0, .int 0, .int 0, .long 0]))] s.heap.size = A at hD ⊢
  have hA : ∀ q : Nat, s.heap.size ≤ q → A q := fun q h => by rw [← hAe]; exact Or.inr h
  have hS : va_S A s.heap s.heap [] := va_S.rf
  have hl := lv_entry ([.ref k0]) (n := 1) (Nat.le_of_ble_eq_true rfl)
  rw [lg_entry_eq]
  generalize (lg_sl ([.ref k0]) ++ List.replicate (1 - (lg_sl ([.ref k0])).length) Slot.unset).toArray = ls at hl ⊢
  have hl : lv_has ls 1 [(0, .ref k0)] := hl
  refine lv_aload_n hx hb dX2_init_0 rfl (lv_at hl 0 rfl) ?_
  refine W.objInit hx hb hown (hts (.methodLink RX2 1 objectInit) (by decide +kernel)) (hts (.instanceMethod objectInit) (by decide +kernel)) (hts (.code objectInit ⟨#[0xb1]⟩ 1 none) (by decide +kernel)) rfl (by rw [hml]; exact hl.1) rfl dX2_init_1 (Nat.le_of_ble_eq_true rfl) (Nat.le_of_ble_eq_true rfl) ?_
  refine W.eq (g2 := F0 m 4 ls []) rfl ?_
  refine lv_aload_n hx hb dX2_init_4 rfl (lv_at hl 0 rfl) ?_
  refine lv_ldc (v := 65536) hx hb hown (hts (.constant RX2 9 65536) (by decide +kernel)) dX2_init_5 ?_
  refine va_newa (atype := .byte) (ty := .byte) (N' := 65536) (a0 := (65536, .inl (fun _ => 0))) hx hb (hts (.arrayClass .byte) (by decide +kernel)) rfl hK hP hD hS hA (fun cA => vp_cell_i cA 65536 (fun _ => 0)) (by decide +kernel) (by decide +kernel) (by decide) (Nat.le_of_ble_eq_true rfl) (Nat.le_of_ble_eq_true rfl) dX2_init_7 (fun k1 cB H hK hP hD hS => ?_)
  refine va_putF (D := D) (ci := 2) (v := .ref k1) (ty := .array .byte) (C := RX2) (T := TX2) (N := 5) hx hb hts (by decide +kernel) tyX2 tyX2_ok nmX2 hown hK hP hD hS 0 rfl rfl 0 (by decide) (hts (.fieldLink RX2 10 "HeapRowModel" "memory" "[B") (by decide +kernel)) (fun _ h9 => h9) rfl hin rfl (by decide +kernel) rfl rfl (Nat.le_of_ble_eq_true rfl) dX2_init_9 (fun H locs hP hD hS => ?_)
  have hP : va_P D vwCl [(k0, .inr (2, [.ref k1, .int 0, .int 0, .int 0, .long 0])), (k1, .inl (cB, 65536, .inl (fun _ => 0)))] H := hP
  have hD : va_D A [(k0, .inr (2, [.ref k1, .int 0, .int 0, .int 0, .long 0])), (k1, .inl (cB, 65536, .inl (fun _ => 0)))] := hD
  refine lv_aload_n hx hb dX2_init_12 rfl (lv_at hl 0 rfl) ?_
  refine lv_sipush (v := nI 1024) hx hb dX2_init_13 (by decide +kernel) ?_
  refine va_put (D := D) (ci := 2) (v := .int (nI 1024)) (ty := .int) (C := RX2) (T := TX2) (N := 5) hx hb hts (by decide +kernel) tyX2 tyX2_ok nmX2 hown hK hP hD hS 0 rfl rfl 1 (by decide) (hts (.fieldLink RX2 14 "HeapRowModel" "end" "I") (by decide +kernel)) (fun _ h9 => h9) rfl (by decide +kernel) rfl rfl (Nat.le_of_ble_eq_true rfl) dX2_init_16 (fun H locs hP hD hS => ?_)
  have hP : va_P D vwCl [(k0, .inr (2, [.ref k1, .int (nI 1024), .int 0, .int 0, .long 0])), (k1, .inl (cB, 65536, .inl (fun _ => 0)))] H := hP
  have hD : va_D A [(k0, .inr (2, [.ref k1, .int (nI 1024), .int 0, .int 0, .long 0])), (k1, .inl (cB, 65536, .inl (fun _ => 0)))] := hD
  refine lv_aload_n hx hb dX2_init_19 rfl (lv_at hl 0 rfl) ?_
  refine lv_ldc (v := nI 65536) hx hb hown (hts (.constant RX2 9 (nI 65536)) (by decide +kernel)) dX2_init_20 ?_
  refine va_put (D := D) (ci := 2) (v := .int (nI 65536)) (ty := .int) (C := RX2) (T := TX2) (N := 5) hx hb hts (by decide +kernel) tyX2 tyX2_ok nmX2 hown hK hP hD hS 0 rfl rfl 2 (by decide) (hts (.fieldLink RX2 18 "HeapRowModel" "stack" "I") (by decide +kernel)) (fun _ h9 => h9) rfl (by decide +kernel) rfl rfl (Nat.le_of_ble_eq_true rfl) dX2_init_22 (fun H locs hP hD hS => ?_)
  have hP : va_P D vwCl (hm_W cB k0 k1 hi_u 0 0) H := by
    show va_P D vwCl [(k0, .inr (2, [.ref k1, .int (nI 1024), .int (nI 65536), .int 0, .long 0])), (k1, .inl (cB, 65536, .inl (fun j => sb_b (ph_b hi_m j))))] H
    rw [hi_b]
    exact hP
  have hD : va_D A (hm_W cB k0 k1 hi_u 0 0) := by
    show va_D A [(k0, .inr (2, [.ref k1, .int (nI 1024), .int (nI 65536), .int 0, .long 0])), (k1, .inl (cB, 65536, .inl (fun j => sb_b (ph_b hi_m j))))]
    rw [hi_b]
    exact hD
  exact W.vret hx hb hr (fun t ht hW => ⟨⟨(), rfl, trivial, k1, cB, by rw [ht]; exact hP, va_K.moved hW.alike hK, hD⟩, hS.F ht⟩) hS.2.2 dX2_init_25
