/-! THE LAW -/
def R_law : String := "HeapRowLaw"
def lw_P (b : Addr) (xs : List Int32) (args : Array Value) (s : State) : Prop := args = #[.ref b] ∧ s.IntsAt b xs ∧ xs.length ≤ 1536 ∧ (Jvm.Cond.and given_1 narrow_1).before args s = true
def lw_Q (_ : Array Value) (s : State) (o : Outcome) (t : State) : Prop := o = .returned (some (.int 1)) ∧ Framed s o t [] 601024 7293034
def lw_Z (below : List Frame) (a : Array Value) (s : State) : State → Prop := fun t => ∃ o, t.status = .running ∧ Ended t below o ∧ lw_Q a s o t
abbrev hl_W (cJ : ClassId) (h0 h1 h2 : Nat) (ux : ph_H) (cO : ClassId) (o : Nat) (out : Nat → Int64) (cB : ClassId) (k0 k1 : Nat) (um : ph_H) (th : Int32) (bf : Int64) : va_W := [(h0, .inr (1, [.ref h1, .long (lN ux.2.1), .long (lN ux.2.2)])), (h1, .inr (0, [.ref h2])), (h2, .inl (cJ, 8064, .inr (.inl (pw_w ux.1)))), (o, .inl (cO, 1, .inr (.inl out))), (k0, .inr (2, [.ref k1, .int (nI um.2.1), .int (nI um.2.2), .int th, .long bf])), (k1, .inl (cB, 65536, .inl (fun j => sb_b (ph_b um.1 j))))]
theorem ph_stk_I {u : ph_H} (h : ph_I u) (t : Nat) : ph_I (ph_stk u t).2 := by
  unfold ph_stk
  split
  · exact h
  · rename_i h2
    refine ⟨h.1, h.2.1, ?_, ?_⟩ <;> (show _ ≤ _; simp only; omega)
theorem ph_put_I {u : ph_H} (h : ph_I u) (a v : Nat) : ph_I (if ph_in a then (ph_sb u.1 a v, u.2) else u) := by
  split
  · exact h
  · exact h
section HS
variable {p : Program} {l : Launch} {e : Env} {R : Room} {s : State} {m : MethodId} {args : Array Value} {below : List Frame} {meth : Method} {c : Code} {H : Heap} {locs : List Loc} {cells slots : Nat} {Q : State → Prop}
variable {cc : ByteArray} {pc : Nat} {ls : Array Slot} {rest : List Value}
theorem hn_sld {A : Nat → Prop} {H0 : Heap} (hx : p.tables.exec = Jvm.exec) (hb : c.code = cc) {b L : Nat} {xs : Nat → Int32} (hX : va_X b L xs s H0) (hbl : b < H0.size) (hbA : ¬ A b) (hS : va_S A H0 H locs) {k : Nat} (hk : k < L) (hL : L < 2147483648) {v : Int32} (hv : xs k = v) (hdg : decode cc pc = .ok (.iaload, 1))
    (kk : W p l e R s m args below meth c H locs cells slots Q (F0 m (pc + 1) ls (.int v :: rest))) : W p l e R s m args below meth c H locs cells slots Q (F0 m pc ls (.int (nI k) :: .ref b :: rest)) := by
  refine va_sld hx hb hX hbl hbA hS (vp_in_nI hk hL) hdg ?_
  rw [nI_clamp (Nat.lt_trans hk hL), hv]
  exact kk
theorem hn_lsame (hx : p.tables.exec = Jvm.exec) (hb : c.code = cc) {x : Int64} {off : Int} {tgt : Nat} (d1 : decode cc pc = .ok (.lcmp, 1)) (d2 : decode cc (pc + 1) = .ok (.ifCond .eq off, 3)) (ht : ((pc + 1 : Nat) : Int) + off = (tgt : Int)) (kt : W p l e R s m args below meth c H locs cells slots Q (F0 m tgt ls rest)) : W p l e R s m args below meth c H locs cells slots Q (F0 m pc ls (.long x :: .long x :: rest)) := by
  refine W.lcmp hx hb d1 ?_
  exact lv_if_eq hx hb d2 ht (fun _ => kt) (fun z => absurd ((lg_cmp_eq _ _).mpr rfl) z)
theorem hn_isame (hx : p.tables.exec = Jvm.exec) (hb : c.code = cc) {x : Int32} {off : Int} {tgt : Nat} (d : decode cc pc = .ok (.if_icmp .eq off, 3)) (ht : (pc : Int) + off = (tgt : Int)) (kt : W p l e R s m args below meth c H locs cells slots Q (F0 m tgt ls rest)) : W p l e R s m args below meth c H locs cells slots Q (F0 m pc ls (.int x :: .int x :: rest)) :=
  lv_icmp_eq hx hb d ht (fun _ => kt) (fun z => absurd rfl z)
end HS
/-- the law's own end, with 1 on the stack, nothing written that was there before, its room as the claim has it -/
theorem lw_ret {p : Program} {l : Launch} {e : Env} {s : State} {m : MethodId} {below : List Frame} {meth : Method} {c : Code} {b : Nat} (hx : p.tables.exec = Jvm.exec) (hb : c.code = code) (hr : meth.sig.returnType = ret) (hlocks : meth.locks = false) {pc : Nat} {H : Heap} {ls : Array Slot} (hdg : decode code pc = .ok (.ireturn, 1)) : W p l e room_1 s m #[Value.ref b] below meth c H [] 601024 7293034 (lw_Z below #[Value.ref b] s) (F0 m pc ls [.int 1]) := by
  intro T hT X
  obtain ⟨fs, hret, hrun, hended, hW, hframe⟩ := X.leave (v := some (.int 1)) (hlocks := hlocks) (fun h => by rw [hr] at h; cases h)
  have hmeth' : T.vm.method? m = some meth := X.method'
  refine ⟨T.setFrames fs, ?_, .returned (some (.int 1)), hrun, hended, rfl, ⟨_, rfl⟩, hW, hframe⟩
  jvm_step X.here [X.here.top, hx, hb, hdg, hmeth', hr, ret, narrow_b1]
  (try refine ⟨rfl, ?_⟩); (try refine ⟨rfl, ?_⟩)
  first | (intro acts; rw [hret _ acts rfl rfl rfl]) | rw [hret _ _ rfl rfl rfl]
  exact Steps.refl _
/-- what holds at the law's entry: the machine, the code, the tables' words (any of lw_tbl by 'hts w (by decide +kernel)'), the script of L ints xs at the cell b, what the Statement gives of the start (any of its parts by flat_of_before) -/
def lw_At (p : Program) (s : State) (m : MethodId) (meth : Method) (c : Code) (b L : Nat) (xs : Nat → Int32) : Prop :=
  p.tables.exec = Jvm.exec ∧ c.code = code ∧ meth.sig.returnType = ret ∧ c.maxLocals = 7 ∧ s.vm.findClass R_law = some m.cls ∧ (∀ w ∈ lw_tbl, w.before #[Value.ref b] s = true) ∧ va_X b L xs s s.heap ∧ b < s.heap.size ∧ meth.locks = false ∧ (Jvm.Cond.and given_1 narrow_1).before #[Value.ref b] s = true
set_option maxHeartbeats 8000000 in
set_option maxRecDepth 100000 in
theorem law_loop {p : Program} {e : Env} {s : State} {m : MethodId} {below : List Frame} {meth : Method} {c : Code} (l : Launch) (hst : l.stackTraces = false) {b L : Nat} {xs : Nat → Int32} (hL : L ≤ 1536) (C0 : lw_At p s m meth c b L xs) (D : va_G) (tys : List (ClassId × FieldType)) (cJ cB cO : ClassId) (ht : tys[0]? = some (cJ, .long)) (ht1 : tys[1]? = some (cB, .byte)) (ht2 : tys[2]? = some (cO, .long)) (S : hx_S p l s m #[Value.ref b] meth c code 7 wsL_law RL (fun q : Nat => s.heap.size ≤ q) D tys) (h0 h1 h2 k0 k1 o : Nat) : ∀ (f j : Nat) (u : ph_H) (th : Int32) (bf : Int64) (out : Nat → Int64) (H : Heap) (locs : List Loc) (ls : Array Slot), L ≤ 3 * j + 3 * f → 3 * j ≤ L → ph_I u → hx_w D (fun q : Nat => s.heap.size ≤ q) s.heap (hl_W cJ h0 h1 h2 u cO o out cB k0 k1 u th bf) H locs → lv_has ls 7 [(4, .int (nI (3 * j))), (1, .ref h0), (2, .ref k0), (3, .ref o), (0, .ref b)] → W p l e room_1 s m #[Value.ref b] below meth c H locs (6 + 2 * j) (73610 + 12 * j) (lw_Z below #[Value.ref b] s) (F0 m 23 ls []) := by
  obtain ⟨-, -, hr, -, -, -, hX, hbl, hlocks, -⟩ := id C0
  obtain ⟨⟨hx, hb, hml, hown, hts⟩, hK, hA, hE, hlk⟩ := id S
  have hbA : ¬ (fun q : Nat => s.heap.size ≤ q) b := Nat.not_le.mpr hbl
  intro f
  induction f with
  | zero =>
    intro j u th bf out H locs ls hf hj hu hw hl
    refine lv_iload hx hb dL_law_23 (lv_at hl 0 rfl) ?_
    refine lv_aload_n hx hb dL_law_25 rfl (lv_at hl 4 rfl) ?_
    refine va_slen hx hb hX hbl hbA hw.2.2 dL_law_26 ?_
    refine W.eq (g2 := F0 m 27 ls [.int (nI L), .int (nI (3 * j))]) rfl ?_
    refine lv_iconst (v := nI 3) hx hb dL_law_27 (by decide +kernel) ?_
    by_cases k3 : 3 ≤ L
    · refine hn_isub (v := nI (L - 3)) hx hb dL_law_28 (pk_sub (by omega)) ?_
      refine hn_igt (a := (3 * j)) (b := (L - 3)) (tgt := 445) hx hb (by omega) (by omega) dL_law_29 (by decide) (fun hc => ?_) (fun hc => ?_)
      · refine lv_iconst (v := 1) hx hb dL_law_445 (by decide +kernel) ?_
        refine va_forget hw.2.2.2.2 ?_
        refine W.widen (k := 601024) (n := 7293034) (by omega) (by omega) ?_
        exact lw_ret hx hb hr hlocks dL_law_446
      · exact absurd hc (by omega)
    · refine hn_isub (v := nI L - nI 3) hx hb dL_law_28 rfl ?_
      refine lv_icmp_gt (tgt := 445) hx hb dL_law_29 (by decide) (fun _ => ?_) (fun z => absurd (show nI L - nI 3 < nI (3 * j) from ?_) z)
      · refine lv_iconst (v := 1) hx hb dL_law_445 (by decide +kernel) ?_
        refine va_forget hw.2.2.2.2 ?_
        refine W.widen (k := 601024) (n := 7293034) (by omega) (by omega) ?_
        exact lw_ret hx hb hr hlocks dL_law_446
      · rw [Int32.lt_iff_toInt_lt, pk_sub_toInt (by omega) (by decide), nI_toInt (by omega)]
        omega
  | succ f ih =>
    intro j u th bf out H locs ls hf hj hu hw hl
    refine lv_iload hx hb dL_law_23 (lv_at hl 0 rfl) ?_
    refine lv_aload_n hx hb dL_law_25 rfl (lv_at hl 4 rfl) ?_
    refine va_slen hx hb hX hbl hbA hw.2.2 dL_law_26 ?_
    refine W.eq (g2 := F0 m 27 ls [.int (nI L), .int (nI (3 * j))]) rfl ?_
    refine lv_iconst (v := nI 3) hx hb dL_law_27 (by decide +kernel) ?_
    by_cases k3 : 3 ≤ L
    · refine hn_isub (v := nI (L - 3)) hx hb dL_law_28 (pk_sub (by omega)) ?_
      refine hn_igt (a := (3 * j)) (b := (L - 3)) (tgt := 445) hx hb (by omega) (by omega) dL_law_29 (by decide) (fun hc => ?_) (fun hc => ?_)
      · refine lv_iconst (v := 1) hx hb dL_law_445 (by decide +kernel) ?_
        refine va_forget hw.2.2.2.2 ?_
        refine W.widen (k := 601024) (n := 7293034) (by omega) (by omega) ?_
        exact lw_ret hx hb hr hlocks dL_law_446
      · obtain ⟨n1, hn1, en1⟩ := wb_of32 (xs (3 * j + 1))
        obtain ⟨n2, hn2, en2⟩ := wb_of32 (xs (3 * j + 2))
        have hn1 : n1 < 4294967296 := hn1
        have hn2 : n2 < 4294967296 := hn2
        refine lv_aload_n hx hb dL_law_32 rfl (lv_at hl 4 rfl) ?_
        refine lv_iload hx hb dL_law_33 (lv_at hl 0 rfl) ?_
        refine hn_sld (k := 3 * j) (v := xs (3 * j)) hx hb hX hbl hbA hw.2.2 (by omega) (by omega) rfl dL_law_35 ?_
        refine lv_bipush (v := nI 7) hx hb dL_law_36 (by decide +kernel) ?_
        obtain ⟨r, hr8, er⟩ := pk_andE (xs (3 * j)) (m := nI 7) 3 (by decide +kernel)
        refine hn_iand (v := nI r) hx hb dL_law_38 er ?_
        rcases (show r = 0 ∨ r = 1 ∨ r = 2 ∨ r = 3 ∨ r = 4 ∨ r = 5 ∨ r = 6 ∨ r = 7 by omega) with rfl | rfl | rfl | rfl | rfl | rfl | rfl | rfl
        · refine lv_tableIn (off := 45) (tgt := 84) hx hb dL_law_39 (by decide +kernel) (by decide +kernel) (by decide +kernel) (by decide) ?_
          rcases hq : ph_take u n1 with ⟨_ | x, u2⟩
          all_goals have hI := ph_take_I hu n1
          all_goals rw [hq] at hI
          · refine lv_aload_n hx hb dL_law_84 rfl (lv_at hl 1 rfl) ?_
            refine lv_aload_n hx hb dL_law_85 rfl (lv_at hl 4 rfl) ?_
            refine lv_iload hx hb dL_law_86 (lv_at hl 0 rfl) ?_
            refine lv_iconst (v := nI 1) hx hb dL_law_88 (by decide +kernel) ?_
            refine hn_iadd (v := nI ((3 * j) + 1)) hx hb dL_law_89 (nI_add _ _) ?_
            refine hn_sld (k := 3 * j + 1) (v := nI n1) hx hb hX hbl hbA hw.2.2 (by omega) (by omega) en1 dL_law_90 ?_
            refine lv_aload_n hx hb dL_law_91 rfl (lv_at hl 3 rfl) ?_
            have hwc := hx_cut (w := hl_X cJ h0 h1 h2 u cO o out) hw [0, 1, 2, 3] rfl rfl rfl
            refine hx_fSW (rest := []) (n := 3) S hwc (w_allocateX l hst D tys cJ cO ht ht2 h0 h1 h2 o u n1 u2 out hu hn1 hq) gL_law_L_allocate rfl (by decide +kernel) rfl ⟨Nat.le_of_ble_eq_true rfl, Nat.le_of_ble_eq_true rfl⟩ hl_adr hl.1 rfl (Nat.le_of_ble_eq_true rfl) ⟨show 6 + 2 * j + 1 ≤ 601024 from by omega, show 73610 + 12 * j + 6 ≤ 7293034 from by omega⟩ dL_law_92 (fun H locs hw2 hk => ?_)
            have hw : hx_w D (fun q : Nat => s.heap.size ≤ q) s.heap (hl_W cJ h0 h1 h2 u2 cO o out cB k0 k1 u th bf) H locs := hx_join (wr := [(k0, .inr (2, [.ref k1, .int (nI u.2.1), .int (nI u.2.2), .int th, .long bf])), (k1, .inl (cB, 65536, .inl (fun j => sb_b (ph_b u.1 j))))]) hA hw hw2 hk hl_adr [0, 1, 2, 3] [4, 5] [2, 3, 4, 5, 0, 1] rfl rfl rfl rfl (by decide) rfl rfl rfl
            refine W.eq (g2 := F0 m 95 ls [.int (nI 1)]) rfl ?_
            refine lv_istore (lv' := [(5, .int (nI 1)), (4, .int (nI (3 * j))), (1, .ref h0), (2, .ref k0), (3, .ref o), (0, .ref b)]) hx hb dL_law_95 hl (by decide) rfl (fun ls hl => ?_)
            refine lv_aload_n hx hb dL_law_97 rfl (lv_at hl 3 rfl) ?_
            refine lv_aload_n hx hb dL_law_98 rfl (lv_at hl 5 rfl) ?_
            refine lv_iload hx hb dL_law_99 (lv_at hl 1 rfl) ?_
            refine lv_iconst (v := nI 1) hx hb dL_law_101 (by decide +kernel) ?_
            refine hn_iadd (v := nI ((3 * j) + 1)) hx hb dL_law_102 (nI_add _ _) ?_
            refine hn_sld (k := 3 * j + 1) (v := nI n1) hx hb hX hbl hbA hw.2.2 (by omega) (by omega) en1 dL_law_103 ?_
            have hwc := hx_cut (w := hm_W cB k0 k1 u th bf) hw [4, 5] rfl rfl rfl
            refine hx_fVW (rest := []) (n := 1) S hwc (m_allocateX l hst D tys cB ht1 k0 k1 u th bf n1 u2 hu hn1 hq) gL_law_X2_allocate rfl (by decide +kernel) rfl ⟨Nat.le_of_ble_eq_true rfl, Nat.le_of_ble_eq_true rfl⟩ 0 2 rfl rfl hm_adr hl.1 rfl (Nat.le_of_ble_eq_true rfl) ⟨show 6 + 2 * j + 1 + 1 ≤ 601024 from by omega, show 73610 + 12 * j + 6 + 6 ≤ 7293034 from by omega⟩ dL_law_104 (fun H locs hw2 hk => ?_)
            have hw : hx_w D (fun q : Nat => s.heap.size ≤ q) s.heap (hl_W cJ h0 h1 h2 u2 cO o out cB k0 k1 u2 (nI 1) bf) H locs := hx_join (wr := [(h0, .inr (1, [.ref h1, .long (lN u2.2.1), .long (lN u2.2.2)])), (h1, .inr (0, [.ref h2])), (h2, .inl (cJ, 8064, .inr (.inl (pw_w u2.1)))), (o, .inl (cO, 1, .inr (.inl out)))]) hA hw hw2 hk hm_adr [4, 5] [0, 1, 2, 3] [0, 1, 2, 3, 4, 5] rfl rfl rfl rfl (by decide) rfl rfl rfl
            refine W.eq (g2 := F0 m 107 ls [.int (nI 0)]) rfl ?_
            refine lv_istore (lv' := [(6, .int (nI 0)), (5, .int (nI 1)), (4, .int (nI (3 * j))), (1, .ref h0), (2, .ref k0), (3, .ref o), (0, .ref b)]) hx hb dL_law_107 hl (by decide) rfl (fun ls hl => ?_)
            refine lv_aload_n hx hb dL_law_109 rfl (lv_at hl 4 rfl) ?_
            have hwc := hx_cut (w := hm_W cB k0 k1 u2 (nI 1) bf) hw [4, 5] rfl rfl rfl
            refine hx_fV (rest := []) (n := 0) S hwc (m_thrown l hst D tys cB ht1 k0 k1 u2 (nI 1) bf) gL_law_X2_thrown rfl (by decide +kernel) rfl ⟨Nat.le_of_ble_eq_true rfl, Nat.le_of_ble_eq_true rfl⟩ 0 2 rfl rfl hm_adr hl.1 rfl (Nat.le_of_ble_eq_true rfl) ⟨show 6 + 2 * j + 1 + 1 ≤ 601024 from by omega, show 73610 + 12 * j + 6 + 6 ≤ 7293034 from by omega⟩ dL_law_110 (fun H locs hw2 hk => ?_)
            have hw : hx_w D (fun q : Nat => s.heap.size ≤ q) s.heap (hl_W cJ h0 h1 h2 u2 cO o out cB k0 k1 u2 (nI 1) bf) H locs := hx_join (wr := [(h0, .inr (1, [.ref h1, .long (lN u2.2.1), .long (lN u2.2.2)])), (h1, .inr (0, [.ref h2])), (h2, .inl (cJ, 8064, .inr (.inl (pw_w u2.1)))), (o, .inl (cO, 1, .inr (.inl out)))]) hA hw hw2 hk hm_adr [4, 5] [0, 1, 2, 3] [0, 1, 2, 3, 4, 5] rfl rfl rfl rfl (by decide) rfl rfl rfl
            refine W.eq (g2 := F0 m 113 ls [.int (nI 1)]) rfl ?_
            refine lv_iload hx hb dL_law_113 (lv_at hl 1 rfl) ?_
            refine hn_isame (tgt := 120) hx hb dL_law_115 (by decide) ?_
            refine lv_iload hx hb dL_law_120 (lv_at hl 1 rfl) ?_
            refine hn_zne (n := 1) (tgt := 137) hx hb (by omega) dL_law_122 (by decide) (fun hd => ?_) (fun hd => ?_)
            · refine lv_goto (tgt := 439) hx hb dL_law_137 (by decide) ?_
              refine lv_iinc (v := nI (3 * (j + 1))) (lv' := [(4, .int (nI (3 * (j + 1)))), (6, .int (nI 0)), (5, .int (nI 1)), (1, .ref h0), (2, .ref k0), (3, .ref o), (0, .ref b)]) hx hb dL_law_439 hl (k := 2) rfl (nI_add (3 * j) 3) (by decide) rfl (fun ls hl => ?_)
              refine lv_goto (tgt := 23) hx hb dL_law_442 (by decide) ?_
              refine W.widen (k := 6 + 2 * (j + 1)) (n := 73610 + 12 * (j + 1)) (by omega) (by omega) ?_
              exact ih (j + 1) u2 _ _ _ _ _ _ (by omega) (by omega) hI hw (lv_sub hl [0, 3, 4, 5, 6] rfl)
            · exact absurd hd (by decide)
          · refine lv_aload_n hx hb dL_law_84 rfl (lv_at hl 1 rfl) ?_
            refine lv_aload_n hx hb dL_law_85 rfl (lv_at hl 4 rfl) ?_
            refine lv_iload hx hb dL_law_86 (lv_at hl 0 rfl) ?_
            refine lv_iconst (v := nI 1) hx hb dL_law_88 (by decide +kernel) ?_
            refine hn_iadd (v := nI ((3 * j) + 1)) hx hb dL_law_89 (nI_add _ _) ?_
            refine hn_sld (k := 3 * j + 1) (v := nI n1) hx hb hX hbl hbA hw.2.2 (by omega) (by omega) en1 dL_law_90 ?_
            refine lv_aload_n hx hb dL_law_91 rfl (lv_at hl 3 rfl) ?_
            have hwc := hx_cut (w := hl_X cJ h0 h1 h2 u cO o out) hw [0, 1, 2, 3] rfl rfl rfl
            refine hx_fSW (rest := []) (n := 3) S hwc (w_allocate l hst D tys cJ cO ht ht2 h0 h1 h2 o u n1 x u2 out hu hn1 hq) gL_law_L_allocate rfl (by decide +kernel) rfl ⟨Nat.le_of_ble_eq_true rfl, Nat.le_of_ble_eq_true rfl⟩ hl_adr hl.1 rfl (Nat.le_of_ble_eq_true rfl) ⟨show 6 + 2 * j + 1 ≤ 601024 from by omega, show 73610 + 12 * j + 6 ≤ 7293034 from by omega⟩ dL_law_92 (fun H locs hw2 hk => ?_)
            have hw : hx_w D (fun q : Nat => s.heap.size ≤ q) s.heap (hl_W cJ h0 h1 h2 u2 cO o (vp_updL out 0 (nI x).toInt64) cB k0 k1 u th bf) H locs := hx_join (wr := [(k0, .inr (2, [.ref k1, .int (nI u.2.1), .int (nI u.2.2), .int th, .long bf])), (k1, .inl (cB, 65536, .inl (fun j => sb_b (ph_b u.1 j))))]) hA hw hw2 hk hl_adr [0, 1, 2, 3] [4, 5] [2, 3, 4, 5, 0, 1] rfl rfl rfl rfl (by decide) rfl rfl rfl
            refine W.eq (g2 := F0 m 95 ls [.int (nI 0)]) rfl ?_
            refine lv_istore (lv' := [(5, .int (nI 0)), (4, .int (nI (3 * j))), (1, .ref h0), (2, .ref k0), (3, .ref o), (0, .ref b)]) hx hb dL_law_95 hl (by decide) rfl (fun ls hl => ?_)
            refine lv_aload_n hx hb dL_law_97 rfl (lv_at hl 3 rfl) ?_
            refine lv_aload_n hx hb dL_law_98 rfl (lv_at hl 5 rfl) ?_
            refine lv_iload hx hb dL_law_99 (lv_at hl 1 rfl) ?_
            refine lv_iconst (v := nI 1) hx hb dL_law_101 (by decide +kernel) ?_
            refine hn_iadd (v := nI ((3 * j) + 1)) hx hb dL_law_102 (nI_add _ _) ?_
            refine hn_sld (k := 3 * j + 1) (v := nI n1) hx hb hX hbl hbA hw.2.2 (by omega) (by omega) en1 dL_law_103 ?_
            have hwc := hx_cut (w := hm_W cB k0 k1 u th bf) hw [4, 5] rfl rfl rfl
            refine hx_fVW (rest := []) (n := 1) S hwc (m_allocate l hst D tys cB ht1 k0 k1 u th bf n1 x u2 hu hn1 hq) gL_law_X2_allocate rfl (by decide +kernel) rfl ⟨Nat.le_of_ble_eq_true rfl, Nat.le_of_ble_eq_true rfl⟩ 0 2 rfl rfl hm_adr hl.1 rfl (Nat.le_of_ble_eq_true rfl) ⟨show 6 + 2 * j + 1 + 1 ≤ 601024 from by omega, show 73610 + 12 * j + 6 + 6 ≤ 7293034 from by omega⟩ dL_law_104 (fun H locs hw2 hk => ?_)
            have hw : hx_w D (fun q : Nat => s.heap.size ≤ q) s.heap (hl_W cJ h0 h1 h2 u2 cO o (vp_updL out 0 (nI x).toInt64) cB k0 k1 u2 (nI 0) bf) H locs := hx_join (wr := [(h0, .inr (1, [.ref h1, .long (lN u2.2.1), .long (lN u2.2.2)])), (h1, .inr (0, [.ref h2])), (h2, .inl (cJ, 8064, .inr (.inl (pw_w u2.1)))), (o, .inl (cO, 1, .inr (.inl (vp_updL out 0 (nI x).toInt64))))]) hA hw hw2 hk hm_adr [4, 5] [0, 1, 2, 3] [0, 1, 2, 3, 4, 5] rfl rfl rfl rfl (by decide) rfl rfl rfl
            refine W.eq (g2 := F0 m 107 ls [.int (nI x)]) rfl ?_
            refine lv_istore (lv' := [(6, .int (nI x)), (5, .int (nI 0)), (4, .int (nI (3 * j))), (1, .ref h0), (2, .ref k0), (3, .ref o), (0, .ref b)]) hx hb dL_law_107 hl (by decide) rfl (fun ls hl => ?_)
            refine lv_aload_n hx hb dL_law_109 rfl (lv_at hl 4 rfl) ?_
            have hwc := hx_cut (w := hm_W cB k0 k1 u2 (nI 0) bf) hw [4, 5] rfl rfl rfl
            refine hx_fV (rest := []) (n := 0) S hwc (m_thrown l hst D tys cB ht1 k0 k1 u2 (nI 0) bf) gL_law_X2_thrown rfl (by decide +kernel) rfl ⟨Nat.le_of_ble_eq_true rfl, Nat.le_of_ble_eq_true rfl⟩ 0 2 rfl rfl hm_adr hl.1 rfl (Nat.le_of_ble_eq_true rfl) ⟨show 6 + 2 * j + 1 + 1 ≤ 601024 from by omega, show 73610 + 12 * j + 6 + 6 ≤ 7293034 from by omega⟩ dL_law_110 (fun H locs hw2 hk => ?_)
            have hw : hx_w D (fun q : Nat => s.heap.size ≤ q) s.heap (hl_W cJ h0 h1 h2 u2 cO o (vp_updL out 0 (nI x).toInt64) cB k0 k1 u2 (nI 0) bf) H locs := hx_join (wr := [(h0, .inr (1, [.ref h1, .long (lN u2.2.1), .long (lN u2.2.2)])), (h1, .inr (0, [.ref h2])), (h2, .inl (cJ, 8064, .inr (.inl (pw_w u2.1)))), (o, .inl (cO, 1, .inr (.inl (vp_updL out 0 (nI x).toInt64))))]) hA hw hw2 hk hm_adr [4, 5] [0, 1, 2, 3] [0, 1, 2, 3, 4, 5] rfl rfl rfl rfl (by decide) rfl rfl rfl
            refine W.eq (g2 := F0 m 113 ls [.int (nI 0)]) rfl ?_
            refine lv_iload hx hb dL_law_113 (lv_at hl 1 rfl) ?_
            refine hn_isame (tgt := 120) hx hb dL_law_115 (by decide) ?_
            refine lv_iload hx hb dL_law_120 (lv_at hl 1 rfl) ?_
            refine hn_zne (n := 0) (tgt := 137) hx hb (by omega) dL_law_122 (by decide) (fun hd => ?_) (fun hd => ?_)
            · exact absurd rfl hd
            · refine lv_aload_n hx hb dL_law_125 rfl (lv_at hl 5 rfl) ?_
              refine lv_iconst (v := nI 0) hx hb dL_law_126 (by decide +kernel) ?_
              refine hn_lald hx hb hK hw.1 3 2 rfl ht2 (k := 0) (by decide) (by decide) dL_law_127 ?_
              rw [pk_uLs]
              refine lv_iload hx hb dL_law_128 (lv_at hl 0 rfl) ?_
              refine lv_i2l (v := (nI x).toInt64) hx hb dL_law_130 rfl ?_
              refine hn_lsame (tgt := 137) hx hb dL_law_131 dL_law_132 (by decide) ?_
              refine lv_goto (tgt := 439) hx hb dL_law_137 (by decide) ?_
              refine lv_iinc (v := nI (3 * (j + 1))) (lv' := [(4, .int (nI (3 * (j + 1)))), (6, .int (nI x)), (5, .int (nI 0)), (1, .ref h0), (2, .ref k0), (3, .ref o), (0, .ref b)]) hx hb dL_law_439 hl (k := 2) rfl (nI_add (3 * j) 3) (by decide) rfl (fun ls hl => ?_)
              refine lv_goto (tgt := 23) hx hb dL_law_442 (by decide) ?_
              refine W.widen (k := 6 + 2 * (j + 1)) (n := 73610 + 12 * (j + 1)) (by omega) (by omega) ?_
              exact ih (j + 1) u2 _ _ _ _ _ _ (by omega) (by omega) hI hw (lv_sub hl [0, 3, 4, 5, 6] rfl)
        · refine lv_tableIn (off := 101) (tgt := 140) hx hb dL_law_39 (by decide +kernel) (by decide +kernel) (by decide +kernel) (by decide) ?_
          rcases hq : ph_clrd u (n1 * n2) with ⟨_ | x, u2⟩
          all_goals have hI := ph_clrd_I hu (n1 * n2)
          all_goals rw [hq] at hI
          · refine lv_aload_n hx hb dL_law_140 rfl (lv_at hl 1 rfl) ?_
            refine lv_aload_n hx hb dL_law_141 rfl (lv_at hl 4 rfl) ?_
            refine lv_iload hx hb dL_law_142 (lv_at hl 0 rfl) ?_
            refine lv_iconst (v := nI 1) hx hb dL_law_144 (by decide +kernel) ?_
            refine hn_iadd (v := nI ((3 * j) + 1)) hx hb dL_law_145 (nI_add _ _) ?_
            refine hn_sld (k := 3 * j + 1) (v := nI n1) hx hb hX hbl hbA hw.2.2 (by omega) (by omega) en1 dL_law_146 ?_
            refine lv_aload_n hx hb dL_law_147 rfl (lv_at hl 4 rfl) ?_
            refine lv_iload hx hb dL_law_148 (lv_at hl 0 rfl) ?_
            refine lv_iconst (v := nI 2) hx hb dL_law_150 (by decide +kernel) ?_
            refine hn_iadd (v := nI ((3 * j) + 2)) hx hb dL_law_151 (nI_add _ _) ?_
            refine hn_sld (k := 3 * j + 2) (v := nI n2) hx hb hX hbl hbA hw.2.2 (by omega) (by omega) en2 dL_law_152 ?_
            refine lv_aload_n hx hb dL_law_153 rfl (lv_at hl 3 rfl) ?_
            have hwc := hx_cut (w := hl_X cJ h0 h1 h2 u cO o out) hw [0, 1, 2, 3] rfl rfl rfl
            refine hx_fSW (rest := []) (n := 4) S hwc (w_clearedX l hst D tys cJ cO ht ht2 h0 h1 h2 o u n1 n2 (n1 * n2) u2 out hu hn1 hn2 rfl hq) gL_law_L_cleared rfl (by decide +kernel) rfl ⟨Nat.le_of_ble_eq_true rfl, Nat.le_of_ble_eq_true rfl⟩ hl_adr hl.1 rfl (Nat.le_of_ble_eq_true rfl) ⟨show 6 + 2 * j + 1 ≤ 601024 from by omega, show 73610 + 12 * j + 6 ≤ 7293034 from by omega⟩ dL_law_154 (fun H locs hw2 hk => ?_)
            have hw : hx_w D (fun q : Nat => s.heap.size ≤ q) s.heap (hl_W cJ h0 h1 h2 u2 cO o out cB k0 k1 u th bf) H locs := hx_join (wr := [(k0, .inr (2, [.ref k1, .int (nI u.2.1), .int (nI u.2.2), .int th, .long bf])), (k1, .inl (cB, 65536, .inl (fun j => sb_b (ph_b u.1 j))))]) hA hw hw2 hk hl_adr [0, 1, 2, 3] [4, 5] [2, 3, 4, 5, 0, 1] rfl rfl rfl rfl (by decide) rfl rfl rfl
            refine W.eq (g2 := F0 m 157 ls [.int (nI 1)]) rfl ?_
            refine lv_istore (lv' := [(5, .int (nI 1)), (4, .int (nI (3 * j))), (1, .ref h0), (2, .ref k0), (3, .ref o), (0, .ref b)]) hx hb dL_law_157 hl (by decide) rfl (fun ls hl => ?_)
            refine lv_aload_n hx hb dL_law_159 rfl (lv_at hl 3 rfl) ?_
            refine lv_aload_n hx hb dL_law_160 rfl (lv_at hl 5 rfl) ?_
            refine lv_iload hx hb dL_law_161 (lv_at hl 1 rfl) ?_
            refine lv_iconst (v := nI 1) hx hb dL_law_163 (by decide +kernel) ?_
            refine hn_iadd (v := nI ((3 * j) + 1)) hx hb dL_law_164 (nI_add _ _) ?_
            refine hn_sld (k := 3 * j + 1) (v := nI n1) hx hb hX hbl hbA hw.2.2 (by omega) (by omega) en1 dL_law_165 ?_
            refine lv_aload_n hx hb dL_law_166 rfl (lv_at hl 5 rfl) ?_
            refine lv_iload hx hb dL_law_167 (lv_at hl 1 rfl) ?_
            refine lv_iconst (v := nI 2) hx hb dL_law_169 (by decide +kernel) ?_
            refine hn_iadd (v := nI ((3 * j) + 2)) hx hb dL_law_170 (nI_add _ _) ?_
            refine hn_sld (k := 3 * j + 2) (v := nI n2) hx hb hX hbl hbA hw.2.2 (by omega) (by omega) en2 dL_law_171 ?_
            have hwc := hx_cut (w := hm_W cB k0 k1 u th bf) hw [4, 5] rfl rfl rfl
            refine hx_fVW (rest := []) (n := 2) S hwc (m_clearedX l hst D tys cB ht1 k0 k1 u th bf n1 n2 (n1 * n2) u2 hu hn1 hn2 rfl hq) gL_law_X2_cleared rfl (by decide +kernel) rfl ⟨Nat.le_of_ble_eq_true rfl, Nat.le_of_ble_eq_true rfl⟩ 0 2 rfl rfl hm_adr hl.1 rfl (Nat.le_of_ble_eq_true rfl) ⟨show 6 + 2 * j + 1 + 1 ≤ 601024 from by omega, show 73610 + 12 * j + 6 + 6 ≤ 7293034 from by omega⟩ dL_law_172 (fun H locs hw2 hk => ?_)
            have hw : hx_w D (fun q : Nat => s.heap.size ≤ q) s.heap (hl_W cJ h0 h1 h2 u2 cO o out cB k0 k1 u2 (nI 1) bf) H locs := hx_join (wr := [(h0, .inr (1, [.ref h1, .long (lN u2.2.1), .long (lN u2.2.2)])), (h1, .inr (0, [.ref h2])), (h2, .inl (cJ, 8064, .inr (.inl (pw_w u2.1)))), (o, .inl (cO, 1, .inr (.inl out)))]) hA hw hw2 hk hm_adr [4, 5] [0, 1, 2, 3] [0, 1, 2, 3, 4, 5] rfl rfl rfl rfl (by decide) rfl rfl rfl
            refine W.eq (g2 := F0 m 175 ls [.int (nI 0)]) rfl ?_
            refine lv_istore (lv' := [(6, .int (nI 0)), (5, .int (nI 1)), (4, .int (nI (3 * j))), (1, .ref h0), (2, .ref k0), (3, .ref o), (0, .ref b)]) hx hb dL_law_175 hl (by decide) rfl (fun ls hl => ?_)
            refine lv_aload_n hx hb dL_law_177 rfl (lv_at hl 4 rfl) ?_
            have hwc := hx_cut (w := hm_W cB k0 k1 u2 (nI 1) bf) hw [4, 5] rfl rfl rfl
            refine hx_fV (rest := []) (n := 0) S hwc (m_thrown l hst D tys cB ht1 k0 k1 u2 (nI 1) bf) gL_law_X2_thrown rfl (by decide +kernel) rfl ⟨Nat.le_of_ble_eq_true rfl, Nat.le_of_ble_eq_true rfl⟩ 0 2 rfl rfl hm_adr hl.1 rfl (Nat.le_of_ble_eq_true rfl) ⟨show 6 + 2 * j + 1 + 1 ≤ 601024 from by omega, show 73610 + 12 * j + 6 + 6 ≤ 7293034 from by omega⟩ dL_law_178 (fun H locs hw2 hk => ?_)
            have hw : hx_w D (fun q : Nat => s.heap.size ≤ q) s.heap (hl_W cJ h0 h1 h2 u2 cO o out cB k0 k1 u2 (nI 1) bf) H locs := hx_join (wr := [(h0, .inr (1, [.ref h1, .long (lN u2.2.1), .long (lN u2.2.2)])), (h1, .inr (0, [.ref h2])), (h2, .inl (cJ, 8064, .inr (.inl (pw_w u2.1)))), (o, .inl (cO, 1, .inr (.inl out)))]) hA hw hw2 hk hm_adr [4, 5] [0, 1, 2, 3] [0, 1, 2, 3, 4, 5] rfl rfl rfl rfl (by decide) rfl rfl rfl
            refine W.eq (g2 := F0 m 181 ls [.int (nI 1)]) rfl ?_
            refine lv_iload hx hb dL_law_181 (lv_at hl 1 rfl) ?_
            refine hn_isame (tgt := 188) hx hb dL_law_183 (by decide) ?_
            refine lv_iload hx hb dL_law_188 (lv_at hl 1 rfl) ?_
            refine hn_zne (n := 1) (tgt := 205) hx hb (by omega) dL_law_190 (by decide) (fun hd => ?_) (fun hd => ?_)
            · refine lv_goto (tgt := 439) hx hb dL_law_205 (by decide) ?_
              refine lv_iinc (v := nI (3 * (j + 1))) (lv' := [(4, .int (nI (3 * (j + 1)))), (6, .int (nI 0)), (5, .int (nI 1)), (1, .ref h0), (2, .ref k0), (3, .ref o), (0, .ref b)]) hx hb dL_law_439 hl (k := 2) rfl (nI_add (3 * j) 3) (by decide) rfl (fun ls hl => ?_)
              refine lv_goto (tgt := 23) hx hb dL_law_442 (by decide) ?_
              refine W.widen (k := 6 + 2 * (j + 1)) (n := 73610 + 12 * (j + 1)) (by omega) (by omega) ?_
              exact ih (j + 1) u2 _ _ _ _ _ _ (by omega) (by omega) hI hw (lv_sub hl [0, 3, 4, 5, 6] rfl)
            · exact absurd hd (by decide)
          · refine lv_aload_n hx hb dL_law_140 rfl (lv_at hl 1 rfl) ?_
            refine lv_aload_n hx hb dL_law_141 rfl (lv_at hl 4 rfl) ?_
            refine lv_iload hx hb dL_law_142 (lv_at hl 0 rfl) ?_
            refine lv_iconst (v := nI 1) hx hb dL_law_144 (by decide +kernel) ?_
            refine hn_iadd (v := nI ((3 * j) + 1)) hx hb dL_law_145 (nI_add _ _) ?_
            refine hn_sld (k := 3 * j + 1) (v := nI n1) hx hb hX hbl hbA hw.2.2 (by omega) (by omega) en1 dL_law_146 ?_
            refine lv_aload_n hx hb dL_law_147 rfl (lv_at hl 4 rfl) ?_
            refine lv_iload hx hb dL_law_148 (lv_at hl 0 rfl) ?_
            refine lv_iconst (v := nI 2) hx hb dL_law_150 (by decide +kernel) ?_
            refine hn_iadd (v := nI ((3 * j) + 2)) hx hb dL_law_151 (nI_add _ _) ?_
            refine hn_sld (k := 3 * j + 2) (v := nI n2) hx hb hX hbl hbA hw.2.2 (by omega) (by omega) en2 dL_law_152 ?_
            refine lv_aload_n hx hb dL_law_153 rfl (lv_at hl 3 rfl) ?_
            have hwc := hx_cut (w := hl_X cJ h0 h1 h2 u cO o out) hw [0, 1, 2, 3] rfl rfl rfl
            refine hx_fSW (rest := []) (n := 4) S hwc (w_cleared l hst D tys cJ cO ht ht2 h0 h1 h2 o u n1 n2 (n1 * n2) x u2 out hu hn1 hn2 rfl hq) gL_law_L_cleared rfl (by decide +kernel) rfl ⟨Nat.le_of_ble_eq_true rfl, Nat.le_of_ble_eq_true rfl⟩ hl_adr hl.1 rfl (Nat.le_of_ble_eq_true rfl) ⟨show 6 + 2 * j + 1 ≤ 601024 from by omega, show 73610 + 12 * j + 6 ≤ 7293034 from by omega⟩ dL_law_154 (fun H locs hw2 hk => ?_)
            have hw : hx_w D (fun q : Nat => s.heap.size ≤ q) s.heap (hl_W cJ h0 h1 h2 u2 cO o (vp_updL out 0 (nI x).toInt64) cB k0 k1 u th bf) H locs := hx_join (wr := [(k0, .inr (2, [.ref k1, .int (nI u.2.1), .int (nI u.2.2), .int th, .long bf])), (k1, .inl (cB, 65536, .inl (fun j => sb_b (ph_b u.1 j))))]) hA hw hw2 hk hl_adr [0, 1, 2, 3] [4, 5] [2, 3, 4, 5, 0, 1] rfl rfl rfl rfl (by decide) rfl rfl rfl
            refine W.eq (g2 := F0 m 157 ls [.int (nI 0)]) rfl ?_
            refine lv_istore (lv' := [(5, .int (nI 0)), (4, .int (nI (3 * j))), (1, .ref h0), (2, .ref k0), (3, .ref o), (0, .ref b)]) hx hb dL_law_157 hl (by decide) rfl (fun ls hl => ?_)
            refine lv_aload_n hx hb dL_law_159 rfl (lv_at hl 3 rfl) ?_
            refine lv_aload_n hx hb dL_law_160 rfl (lv_at hl 5 rfl) ?_
            refine lv_iload hx hb dL_law_161 (lv_at hl 1 rfl) ?_
            refine lv_iconst (v := nI 1) hx hb dL_law_163 (by decide +kernel) ?_
            refine hn_iadd (v := nI ((3 * j) + 1)) hx hb dL_law_164 (nI_add _ _) ?_
            refine hn_sld (k := 3 * j + 1) (v := nI n1) hx hb hX hbl hbA hw.2.2 (by omega) (by omega) en1 dL_law_165 ?_
            refine lv_aload_n hx hb dL_law_166 rfl (lv_at hl 5 rfl) ?_
            refine lv_iload hx hb dL_law_167 (lv_at hl 1 rfl) ?_
            refine lv_iconst (v := nI 2) hx hb dL_law_169 (by decide +kernel) ?_
            refine hn_iadd (v := nI ((3 * j) + 2)) hx hb dL_law_170 (nI_add _ _) ?_
            refine hn_sld (k := 3 * j + 2) (v := nI n2) hx hb hX hbl hbA hw.2.2 (by omega) (by omega) en2 dL_law_171 ?_
            have hwc := hx_cut (w := hm_W cB k0 k1 u th bf) hw [4, 5] rfl rfl rfl
            refine hx_fVW (rest := []) (n := 2) S hwc (m_cleared l hst D tys cB ht1 k0 k1 u th bf n1 n2 (n1 * n2) x u2 hu hn1 hn2 rfl hq) gL_law_X2_cleared rfl (by decide +kernel) rfl ⟨Nat.le_of_ble_eq_true rfl, Nat.le_of_ble_eq_true rfl⟩ 0 2 rfl rfl hm_adr hl.1 rfl (Nat.le_of_ble_eq_true rfl) ⟨show 6 + 2 * j + 1 + 1 ≤ 601024 from by omega, show 73610 + 12 * j + 6 + 6 ≤ 7293034 from by omega⟩ dL_law_172 (fun H locs hw2 hk => ?_)
            have hw : hx_w D (fun q : Nat => s.heap.size ≤ q) s.heap (hl_W cJ h0 h1 h2 u2 cO o (vp_updL out 0 (nI x).toInt64) cB k0 k1 u2 (nI 0) bf) H locs := hx_join (wr := [(h0, .inr (1, [.ref h1, .long (lN u2.2.1), .long (lN u2.2.2)])), (h1, .inr (0, [.ref h2])), (h2, .inl (cJ, 8064, .inr (.inl (pw_w u2.1)))), (o, .inl (cO, 1, .inr (.inl (vp_updL out 0 (nI x).toInt64))))]) hA hw hw2 hk hm_adr [4, 5] [0, 1, 2, 3] [0, 1, 2, 3, 4, 5] rfl rfl rfl rfl (by decide) rfl rfl rfl
            refine W.eq (g2 := F0 m 175 ls [.int (nI x)]) rfl ?_
            refine lv_istore (lv' := [(6, .int (nI x)), (5, .int (nI 0)), (4, .int (nI (3 * j))), (1, .ref h0), (2, .ref k0), (3, .ref o), (0, .ref b)]) hx hb dL_law_175 hl (by decide) rfl (fun ls hl => ?_)
            refine lv_aload_n hx hb dL_law_177 rfl (lv_at hl 4 rfl) ?_
            have hwc := hx_cut (w := hm_W cB k0 k1 u2 (nI 0) bf) hw [4, 5] rfl rfl rfl
            refine hx_fV (rest := []) (n := 0) S hwc (m_thrown l hst D tys cB ht1 k0 k1 u2 (nI 0) bf) gL_law_X2_thrown rfl (by decide +kernel) rfl ⟨Nat.le_of_ble_eq_true rfl, Nat.le_of_ble_eq_true rfl⟩ 0 2 rfl rfl hm_adr hl.1 rfl (Nat.le_of_ble_eq_true rfl) ⟨show 6 + 2 * j + 1 + 1 ≤ 601024 from by omega, show 73610 + 12 * j + 6 + 6 ≤ 7293034 from by omega⟩ dL_law_178 (fun H locs hw2 hk => ?_)
            have hw : hx_w D (fun q : Nat => s.heap.size ≤ q) s.heap (hl_W cJ h0 h1 h2 u2 cO o (vp_updL out 0 (nI x).toInt64) cB k0 k1 u2 (nI 0) bf) H locs := hx_join (wr := [(h0, .inr (1, [.ref h1, .long (lN u2.2.1), .long (lN u2.2.2)])), (h1, .inr (0, [.ref h2])), (h2, .inl (cJ, 8064, .inr (.inl (pw_w u2.1)))), (o, .inl (cO, 1, .inr (.inl (vp_updL out 0 (nI x).toInt64))))]) hA hw hw2 hk hm_adr [4, 5] [0, 1, 2, 3] [0, 1, 2, 3, 4, 5] rfl rfl rfl rfl (by decide) rfl rfl rfl
            refine W.eq (g2 := F0 m 181 ls [.int (nI 0)]) rfl ?_
            refine lv_iload hx hb dL_law_181 (lv_at hl 1 rfl) ?_
            refine hn_isame (tgt := 188) hx hb dL_law_183 (by decide) ?_
            refine lv_iload hx hb dL_law_188 (lv_at hl 1 rfl) ?_
            refine hn_zne (n := 0) (tgt := 205) hx hb (by omega) dL_law_190 (by decide) (fun hd => ?_) (fun hd => ?_)
            · exact absurd rfl hd
            · refine lv_aload_n hx hb dL_law_193 rfl (lv_at hl 5 rfl) ?_
              refine lv_iconst (v := nI 0) hx hb dL_law_194 (by decide +kernel) ?_
              refine hn_lald hx hb hK hw.1 3 2 rfl ht2 (k := 0) (by decide) (by decide) dL_law_195 ?_
              rw [pk_uLs]
              refine lv_iload hx hb dL_law_196 (lv_at hl 0 rfl) ?_
              refine lv_i2l (v := (nI x).toInt64) hx hb dL_law_198 rfl ?_
              refine hn_lsame (tgt := 205) hx hb dL_law_199 dL_law_200 (by decide) ?_
              refine lv_goto (tgt := 439) hx hb dL_law_205 (by decide) ?_
              refine lv_iinc (v := nI (3 * (j + 1))) (lv' := [(4, .int (nI (3 * (j + 1)))), (6, .int (nI x)), (5, .int (nI 0)), (1, .ref h0), (2, .ref k0), (3, .ref o), (0, .ref b)]) hx hb dL_law_439 hl (k := 2) rfl (nI_add (3 * j) 3) (by decide) rfl (fun ls hl => ?_)
              refine lv_goto (tgt := 23) hx hb dL_law_442 (by decide) ?_
              refine W.widen (k := 6 + 2 * (j + 1)) (n := 73610 + 12 * (j + 1)) (by omega) (by omega) ?_
              exact ih (j + 1) u2 _ _ _ _ _ _ (by omega) (by omega) hI hw (lv_sub hl [0, 3, 4, 5, 6] rfl)
        · refine lv_tableIn (off := 169) (tgt := 208) hx hb dL_law_39 (by decide +kernel) (by decide +kernel) (by decide +kernel) (by decide) ?_
          rcases hq : ph_rsz u n1 n2 with ⟨_ | x, u2⟩
          all_goals have hI := ph_rsz_I hu n1 n2
          all_goals rw [hq] at hI
          · obtain ⟨bf3, hM⟩ := m_resizeX l hst D tys cB ht1 k0 k1 u th bf n1 n2 u2 hu hn1 hn2 hq
            refine lv_aload_n hx hb dL_law_208 rfl (lv_at hl 1 rfl) ?_
            refine lv_aload_n hx hb dL_law_209 rfl (lv_at hl 4 rfl) ?_
            refine lv_iload hx hb dL_law_210 (lv_at hl 0 rfl) ?_
            refine lv_iconst (v := nI 1) hx hb dL_law_212 (by decide +kernel) ?_
            refine hn_iadd (v := nI ((3 * j) + 1)) hx hb dL_law_213 (nI_add _ _) ?_
            refine hn_sld (k := 3 * j + 1) (v := nI n1) hx hb hX hbl hbA hw.2.2 (by omega) (by omega) en1 dL_law_214 ?_
            refine lv_aload_n hx hb dL_law_215 rfl (lv_at hl 4 rfl) ?_
            refine lv_iload hx hb dL_law_216 (lv_at hl 0 rfl) ?_
            refine lv_iconst (v := nI 2) hx hb dL_law_218 (by decide +kernel) ?_
            refine hn_iadd (v := nI ((3 * j) + 2)) hx hb dL_law_219 (nI_add _ _) ?_
            refine hn_sld (k := 3 * j + 2) (v := nI n2) hx hb hX hbl hbA hw.2.2 (by omega) (by omega) en2 dL_law_220 ?_
            refine lv_aload_n hx hb dL_law_221 rfl (lv_at hl 3 rfl) ?_
            have hwc := hx_cut (w := hl_X cJ h0 h1 h2 u cO o out) hw [0, 1, 2, 3] rfl rfl rfl
            refine hx_fSW (rest := []) (n := 4) S hwc (w_resizeX l hst D tys cJ cO ht ht2 h0 h1 h2 o u n1 n2 u2 out hu hn1 hn2 hq) gL_law_L_resize rfl (by decide +kernel) rfl ⟨Nat.le_of_ble_eq_true rfl, Nat.le_of_ble_eq_true rfl⟩ hl_adr hl.1 rfl (Nat.le_of_ble_eq_true rfl) ⟨show 6 + 2 * j + 1 ≤ 601024 from by omega, show 73610 + 12 * j + 6 ≤ 7293034 from by omega⟩ dL_law_222 (fun H locs hw2 hk => ?_)
            have hw : hx_w D (fun q : Nat => s.heap.size ≤ q) s.heap (hl_W cJ h0 h1 h2 u2 cO o out cB k0 k1 u th bf) H locs := hx_join (wr := [(k0, .inr (2, [.ref k1, .int (nI u.2.1), .int (nI u.2.2), .int th, .long bf])), (k1, .inl (cB, 65536, .inl (fun j => sb_b (ph_b u.1 j))))]) hA hw hw2 hk hl_adr [0, 1, 2, 3] [4, 5] [2, 3, 4, 5, 0, 1] rfl rfl rfl rfl (by decide) rfl rfl rfl
            refine W.eq (g2 := F0 m 225 ls [.int (nI 1)]) rfl ?_
            refine lv_istore (lv' := [(5, .int (nI 1)), (4, .int (nI (3 * j))), (1, .ref h0), (2, .ref k0), (3, .ref o), (0, .ref b)]) hx hb dL_law_225 hl (by decide) rfl (fun ls hl => ?_)
            refine lv_aload_n hx hb dL_law_227 rfl (lv_at hl 3 rfl) ?_
            refine lv_aload_n hx hb dL_law_228 rfl (lv_at hl 5 rfl) ?_
            refine lv_iload hx hb dL_law_229 (lv_at hl 1 rfl) ?_
            refine lv_iconst (v := nI 1) hx hb dL_law_231 (by decide +kernel) ?_
            refine hn_iadd (v := nI ((3 * j) + 1)) hx hb dL_law_232 (nI_add _ _) ?_
            refine hn_sld (k := 3 * j + 1) (v := nI n1) hx hb hX hbl hbA hw.2.2 (by omega) (by omega) en1 dL_law_233 ?_
            refine lv_aload_n hx hb dL_law_234 rfl (lv_at hl 5 rfl) ?_
            refine lv_iload hx hb dL_law_235 (lv_at hl 1 rfl) ?_
            refine lv_iconst (v := nI 2) hx hb dL_law_237 (by decide +kernel) ?_
            refine hn_iadd (v := nI ((3 * j) + 2)) hx hb dL_law_238 (nI_add _ _) ?_
            refine hn_sld (k := 3 * j + 2) (v := nI n2) hx hb hX hbl hbA hw.2.2 (by omega) (by omega) en2 dL_law_239 ?_
            have hwc := hx_cut (w := hm_W cB k0 k1 u th bf) hw [4, 5] rfl rfl rfl
            refine hx_fVW (rest := []) (n := 2) S hwc (hM) gL_law_X2_resize rfl (by decide +kernel) rfl ⟨Nat.le_of_ble_eq_true rfl, Nat.le_of_ble_eq_true rfl⟩ 0 2 rfl rfl hm_adr hl.1 rfl (Nat.le_of_ble_eq_true rfl) ⟨show 6 + 2 * j + 1 + 1 ≤ 601024 from by omega, show 73610 + 12 * j + 6 + 6 ≤ 7293034 from by omega⟩ dL_law_240 (fun H locs hw2 hk => ?_)
            have hw : hx_w D (fun q : Nat => s.heap.size ≤ q) s.heap (hl_W cJ h0 h1 h2 u2 cO o out cB k0 k1 u2 (nI 1) bf3) H locs := hx_join (wr := [(h0, .inr (1, [.ref h1, .long (lN u2.2.1), .long (lN u2.2.2)])), (h1, .inr (0, [.ref h2])), (h2, .inl (cJ, 8064, .inr (.inl (pw_w u2.1)))), (o, .inl (cO, 1, .inr (.inl out)))]) hA hw hw2 hk hm_adr [4, 5] [0, 1, 2, 3] [0, 1, 2, 3, 4, 5] rfl rfl rfl rfl (by decide) rfl rfl rfl
            refine W.eq (g2 := F0 m 243 ls [.int (nI 0)]) rfl ?_
            refine lv_istore (lv' := [(6, .int (nI 0)), (5, .int (nI 1)), (4, .int (nI (3 * j))), (1, .ref h0), (2, .ref k0), (3, .ref o), (0, .ref b)]) hx hb dL_law_243 hl (by decide) rfl (fun ls hl => ?_)
            refine lv_aload_n hx hb dL_law_245 rfl (lv_at hl 4 rfl) ?_
            have hwc := hx_cut (w := hm_W cB k0 k1 u2 (nI 1) bf3) hw [4, 5] rfl rfl rfl
            refine hx_fV (rest := []) (n := 0) S hwc (m_thrown l hst D tys cB ht1 k0 k1 u2 (nI 1) bf3) gL_law_X2_thrown rfl (by decide +kernel) rfl ⟨Nat.le_of_ble_eq_true rfl, Nat.le_of_ble_eq_true rfl⟩ 0 2 rfl rfl hm_adr hl.1 rfl (Nat.le_of_ble_eq_true rfl) ⟨show 6 + 2 * j + 1 + 1 ≤ 601024 from by omega, show 73610 + 12 * j + 6 + 6 ≤ 7293034 from by omega⟩ dL_law_246 (fun H locs hw2 hk => ?_)
            have hw : hx_w D (fun q : Nat => s.heap.size ≤ q) s.heap (hl_W cJ h0 h1 h2 u2 cO o out cB k0 k1 u2 (nI 1) bf3) H locs := hx_join (wr := [(h0, .inr (1, [.ref h1, .long (lN u2.2.1), .long (lN u2.2.2)])), (h1, .inr (0, [.ref h2])), (h2, .inl (cJ, 8064, .inr (.inl (pw_w u2.1)))), (o, .inl (cO, 1, .inr (.inl out)))]) hA hw hw2 hk hm_adr [4, 5] [0, 1, 2, 3] [0, 1, 2, 3, 4, 5] rfl rfl rfl rfl (by decide) rfl rfl rfl
            refine W.eq (g2 := F0 m 249 ls [.int (nI 1)]) rfl ?_
            refine lv_iload hx hb dL_law_249 (lv_at hl 1 rfl) ?_
            refine hn_isame (tgt := 256) hx hb dL_law_251 (by decide) ?_
            refine lv_iload hx hb dL_law_256 (lv_at hl 1 rfl) ?_
            refine hn_zne (n := 1) (tgt := 273) hx hb (by omega) dL_law_258 (by decide) (fun hd => ?_) (fun hd => ?_)
            · refine lv_goto (tgt := 439) hx hb dL_law_273 (by decide) ?_
              refine lv_iinc (v := nI (3 * (j + 1))) (lv' := [(4, .int (nI (3 * (j + 1)))), (6, .int (nI 0)), (5, .int (nI 1)), (1, .ref h0), (2, .ref k0), (3, .ref o), (0, .ref b)]) hx hb dL_law_439 hl (k := 2) rfl (nI_add (3 * j) 3) (by decide) rfl (fun ls hl => ?_)
              refine lv_goto (tgt := 23) hx hb dL_law_442 (by decide) ?_
              refine W.widen (k := 6 + 2 * (j + 1)) (n := 73610 + 12 * (j + 1)) (by omega) (by omega) ?_
              exact ih (j + 1) u2 _ _ _ _ _ _ (by omega) (by omega) hI hw (lv_sub hl [0, 3, 4, 5, 6] rfl)
            · exact absurd hd (by decide)
          · obtain ⟨bf3, hM⟩ := m_resize l hst D tys cB ht1 k0 k1 u th bf n1 n2 x u2 hu hn1 hn2 hq
            refine lv_aload_n hx hb dL_law_208 rfl (lv_at hl 1 rfl) ?_
            refine lv_aload_n hx hb dL_law_209 rfl (lv_at hl 4 rfl) ?_
            refine lv_iload hx hb dL_law_210 (lv_at hl 0 rfl) ?_
            refine lv_iconst (v := nI 1) hx hb dL_law_212 (by decide +kernel) ?_
            refine hn_iadd (v := nI ((3 * j) + 1)) hx hb dL_law_213 (nI_add _ _) ?_
            refine hn_sld (k := 3 * j + 1) (v := nI n1) hx hb hX hbl hbA hw.2.2 (by omega) (by omega) en1 dL_law_214 ?_
            refine lv_aload_n hx hb dL_law_215 rfl (lv_at hl 4 rfl) ?_
            refine lv_iload hx hb dL_law_216 (lv_at hl 0 rfl) ?_
            refine lv_iconst (v := nI 2) hx hb dL_law_218 (by decide +kernel) ?_
            refine hn_iadd (v := nI ((3 * j) + 2)) hx hb dL_law_219 (nI_add _ _) ?_
            refine hn_sld (k := 3 * j + 2) (v := nI n2) hx hb hX hbl hbA hw.2.2 (by omega) (by omega) en2 dL_law_220 ?_
            refine lv_aload_n hx hb dL_law_221 rfl (lv_at hl 3 rfl) ?_
            have hwc := hx_cut (w := hl_X cJ h0 h1 h2 u cO o out) hw [0, 1, 2, 3] rfl rfl rfl
            refine hx_fSW (rest := []) (n := 4) S hwc (w_resize l hst D tys cJ cO ht ht2 h0 h1 h2 o u n1 n2 x u2 out hu hn1 hn2 hq) gL_law_L_resize rfl (by decide +kernel) rfl ⟨Nat.le_of_ble_eq_true rfl, Nat.le_of_ble_eq_true rfl⟩ hl_adr hl.1 rfl (Nat.le_of_ble_eq_true rfl) ⟨show 6 + 2 * j + 1 ≤ 601024 from by omega, show 73610 + 12 * j + 6 ≤ 7293034 from by omega⟩ dL_law_222 (fun H locs hw2 hk => ?_)
            have hw : hx_w D (fun q : Nat => s.heap.size ≤ q) s.heap (hl_W cJ h0 h1 h2 u2 cO o (vp_updL out 0 (nI x).toInt64) cB k0 k1 u th bf) H locs := hx_join (wr := [(k0, .inr (2, [.ref k1, .int (nI u.2.1), .int (nI u.2.2), .int th, .long bf])), (k1, .inl (cB, 65536, .inl (fun j => sb_b (ph_b u.1 j))))]) hA hw hw2 hk hl_adr [0, 1, 2, 3] [4, 5] [2, 3, 4, 5, 0, 1] rfl rfl rfl rfl (by decide) rfl rfl rfl
            refine W.eq (g2 := F0 m 225 ls [.int (nI 0)]) rfl ?_
            refine lv_istore (lv' := [(5, .int (nI 0)), (4, .int (nI (3 * j))), (1, .ref h0), (2, .ref k0), (3, .ref o), (0, .ref b)]) hx hb dL_law_225 hl (by decide) rfl (fun ls hl => ?_)
            refine lv_aload_n hx hb dL_law_227 rfl (lv_at hl 3 rfl) ?_
            refine lv_aload_n hx hb dL_law_228 rfl (lv_at hl 5 rfl) ?_
            refine lv_iload hx hb dL_law_229 (lv_at hl 1 rfl) ?_
            refine lv_iconst (v := nI 1) hx hb dL_law_231 (by decide +kernel) ?_
            refine hn_iadd (v := nI ((3 * j) + 1)) hx hb dL_law_232 (nI_add _ _) ?_
            refine hn_sld (k := 3 * j + 1) (v := nI n1) hx hb hX hbl hbA hw.2.2 (by omega) (by omega) en1 dL_law_233 ?_
            refine lv_aload_n hx hb dL_law_234 rfl (lv_at hl 5 rfl) ?_
            refine lv_iload hx hb dL_law_235 (lv_at hl 1 rfl) ?_
            refine lv_iconst (v := nI 2) hx hb dL_law_237 (by decide +kernel) ?_
            refine hn_iadd (v := nI ((3 * j) + 2)) hx hb dL_law_238 (nI_add _ _) ?_
            refine hn_sld (k := 3 * j + 2) (v := nI n2) hx hb hX hbl hbA hw.2.2 (by omega) (by omega) en2 dL_law_239 ?_
            have hwc := hx_cut (w := hm_W cB k0 k1 u th bf) hw [4, 5] rfl rfl rfl
            refine hx_fVW (rest := []) (n := 2) S hwc (hM) gL_law_X2_resize rfl (by decide +kernel) rfl ⟨Nat.le_of_ble_eq_true rfl, Nat.le_of_ble_eq_true rfl⟩ 0 2 rfl rfl hm_adr hl.1 rfl (Nat.le_of_ble_eq_true rfl) ⟨show 6 + 2 * j + 1 + 1 ≤ 601024 from by omega, show 73610 + 12 * j + 6 + 6 ≤ 7293034 from by omega⟩ dL_law_240 (fun H locs hw2 hk => ?_)
            have hw : hx_w D (fun q : Nat => s.heap.size ≤ q) s.heap (hl_W cJ h0 h1 h2 u2 cO o (vp_updL out 0 (nI x).toInt64) cB k0 k1 u2 (nI 0) bf3) H locs := hx_join (wr := [(h0, .inr (1, [.ref h1, .long (lN u2.2.1), .long (lN u2.2.2)])), (h1, .inr (0, [.ref h2])), (h2, .inl (cJ, 8064, .inr (.inl (pw_w u2.1)))), (o, .inl (cO, 1, .inr (.inl (vp_updL out 0 (nI x).toInt64))))]) hA hw hw2 hk hm_adr [4, 5] [0, 1, 2, 3] [0, 1, 2, 3, 4, 5] rfl rfl rfl rfl (by decide) rfl rfl rfl
            refine W.eq (g2 := F0 m 243 ls [.int (nI x)]) rfl ?_
            refine lv_istore (lv' := [(6, .int (nI x)), (5, .int (nI 0)), (4, .int (nI (3 * j))), (1, .ref h0), (2, .ref k0), (3, .ref o), (0, .ref b)]) hx hb dL_law_243 hl (by decide) rfl (fun ls hl => ?_)
            refine lv_aload_n hx hb dL_law_245 rfl (lv_at hl 4 rfl) ?_
            have hwc := hx_cut (w := hm_W cB k0 k1 u2 (nI 0) bf3) hw [4, 5] rfl rfl rfl
            refine hx_fV (rest := []) (n := 0) S hwc (m_thrown l hst D tys cB ht1 k0 k1 u2 (nI 0) bf3) gL_law_X2_thrown rfl (by decide +kernel) rfl ⟨Nat.le_of_ble_eq_true rfl, Nat.le_of_ble_eq_true rfl⟩ 0 2 rfl rfl hm_adr hl.1 rfl (Nat.le_of_ble_eq_true rfl) ⟨show 6 + 2 * j + 1 + 1 ≤ 601024 from by omega, show 73610 + 12 * j + 6 + 6 ≤ 7293034 from by omega⟩ dL_law_246 (fun H locs hw2 hk => ?_)
            have hw : hx_w D (fun q : Nat => s.heap.size ≤ q) s.heap (hl_W cJ h0 h1 h2 u2 cO o (vp_updL out 0 (nI x).toInt64) cB k0 k1 u2 (nI 0) bf3) H locs := hx_join (wr := [(h0, .inr (1, [.ref h1, .long (lN u2.2.1), .long (lN u2.2.2)])), (h1, .inr (0, [.ref h2])), (h2, .inl (cJ, 8064, .inr (.inl (pw_w u2.1)))), (o, .inl (cO, 1, .inr (.inl (vp_updL out 0 (nI x).toInt64))))]) hA hw hw2 hk hm_adr [4, 5] [0, 1, 2, 3] [0, 1, 2, 3, 4, 5] rfl rfl rfl rfl (by decide) rfl rfl rfl
            refine W.eq (g2 := F0 m 249 ls [.int (nI 0)]) rfl ?_
            refine lv_iload hx hb dL_law_249 (lv_at hl 1 rfl) ?_
            refine hn_isame (tgt := 256) hx hb dL_law_251 (by decide) ?_
            refine lv_iload hx hb dL_law_256 (lv_at hl 1 rfl) ?_
            refine hn_zne (n := 0) (tgt := 273) hx hb (by omega) dL_law_258 (by decide) (fun hd => ?_) (fun hd => ?_)
            · exact absurd rfl hd
            · refine lv_aload_n hx hb dL_law_261 rfl (lv_at hl 5 rfl) ?_
              refine lv_iconst (v := nI 0) hx hb dL_law_262 (by decide +kernel) ?_
              refine hn_lald hx hb hK hw.1 3 2 rfl ht2 (k := 0) (by decide) (by decide) dL_law_263 ?_
              rw [pk_uLs]
              refine lv_iload hx hb dL_law_264 (lv_at hl 0 rfl) ?_
              refine lv_i2l (v := (nI x).toInt64) hx hb dL_law_266 rfl ?_
              refine hn_lsame (tgt := 273) hx hb dL_law_267 dL_law_268 (by decide) ?_
              refine lv_goto (tgt := 439) hx hb dL_law_273 (by decide) ?_
              refine lv_iinc (v := nI (3 * (j + 1))) (lv' := [(4, .int (nI (3 * (j + 1)))), (6, .int (nI x)), (5, .int (nI 0)), (1, .ref h0), (2, .ref k0), (3, .ref o), (0, .ref b)]) hx hb dL_law_439 hl (k := 2) rfl (nI_add (3 * j) 3) (by decide) rfl (fun ls hl => ?_)
              refine lv_goto (tgt := 23) hx hb dL_law_442 (by decide) ?_
              refine W.widen (k := 6 + 2 * (j + 1)) (n := 73610 + 12 * (j + 1)) (by omega) (by omega) ?_
              exact ih (j + 1) u2 _ _ _ _ _ _ (by omega) (by omega) hI hw (lv_sub hl [0, 3, 4, 5, 6] rfl)
        · refine lv_tableIn (off := 237) (tgt := 276) hx hb dL_law_39 (by decide +kernel) (by decide +kernel) (by decide +kernel) (by decide) ?_
          by_cases kz : n1 = 0
          · subst kz
            refine lv_aload_n hx hb dL_law_276 rfl (lv_at hl 1 rfl) ?_
            refine lv_aload_n hx hb dL_law_277 rfl (lv_at hl 4 rfl) ?_
            refine lv_iload hx hb dL_law_278 (lv_at hl 0 rfl) ?_
            refine lv_iconst (v := nI 1) hx hb dL_law_280 (by decide +kernel) ?_
            refine hn_iadd (v := nI ((3 * j) + 1)) hx hb dL_law_281 (nI_add _ _) ?_
            refine hn_sld (k := 3 * j + 1) (v := nI 0) hx hb hX hbl hbA hw.2.2 (by omega) (by omega) en1 dL_law_282 ?_
            refine lv_aload_n hx hb dL_law_283 rfl (lv_at hl 3 rfl) ?_
            have hwc := hx_cut (w := hl_X cJ h0 h1 h2 u cO o out) hw [0, 1, 2, 3] rfl rfl rfl
            refine hx_fSW (rest := []) (n := 3) S hwc (w_free0 l hst D tys cJ cO ht ht2 h0 h1 h2 o u out) gL_law_L_free rfl (by decide +kernel) rfl ⟨Nat.le_of_ble_eq_true rfl, Nat.le_of_ble_eq_true rfl⟩ hl_adr hl.1 rfl (Nat.le_of_ble_eq_true rfl) ⟨show 6 + 2 * j + 1 ≤ 601024 from by omega, show 73610 + 12 * j + 6 ≤ 7293034 from by omega⟩ dL_law_284 (fun H locs hw2 hk => ?_)
            have hw : hx_w D (fun q : Nat => s.heap.size ≤ q) s.heap (hl_W cJ h0 h1 h2 u cO o (vp_updL out 0 (lN 0)) cB k0 k1 u th bf) H locs := hx_join (wr := [(k0, .inr (2, [.ref k1, .int (nI u.2.1), .int (nI u.2.2), .int th, .long bf])), (k1, .inl (cB, 65536, .inl (fun j => sb_b (ph_b u.1 j))))]) hA hw hw2 hk hl_adr [0, 1, 2, 3] [4, 5] [2, 3, 4, 5, 0, 1] rfl rfl rfl rfl (by decide) rfl rfl rfl
            refine W.eq (g2 := F0 m 287 ls [.int (nI 0)]) rfl ?_
            refine lv_istore (lv' := [(5, .int (nI 0)), (4, .int (nI (3 * j))), (1, .ref h0), (2, .ref k0), (3, .ref o), (0, .ref b)]) hx hb dL_law_287 hl (by decide) rfl (fun ls hl => ?_)
            refine lv_aload_n hx hb dL_law_289 rfl (lv_at hl 3 rfl) ?_
            refine lv_aload_n hx hb dL_law_290 rfl (lv_at hl 5 rfl) ?_
            refine lv_iload hx hb dL_law_291 (lv_at hl 1 rfl) ?_
            refine lv_iconst (v := nI 1) hx hb dL_law_293 (by decide +kernel) ?_
            refine hn_iadd (v := nI ((3 * j) + 1)) hx hb dL_law_294 (nI_add _ _) ?_
            refine hn_sld (k := 3 * j + 1) (v := nI 0) hx hb hX hbl hbA hw.2.2 (by omega) (by omega) en1 dL_law_295 ?_
            have hwc := hx_cut (w := hm_W cB k0 k1 u th bf) hw [4, 5] rfl rfl rfl
            refine hx_fVW (rest := []) (n := 1) S hwc (m_free0 l hst D tys cB ht1 k0 k1 u th bf) gL_law_X2_free rfl (by decide +kernel) rfl ⟨Nat.le_of_ble_eq_true rfl, Nat.le_of_ble_eq_true rfl⟩ 0 2 rfl rfl hm_adr hl.1 rfl (Nat.le_of_ble_eq_true rfl) ⟨show 6 + 2 * j + 1 + 1 ≤ 601024 from by omega, show 73610 + 12 * j + 6 + 6 ≤ 7293034 from by omega⟩ dL_law_296 (fun H locs hw2 hk => ?_)
            have hw : hx_w D (fun q : Nat => s.heap.size ≤ q) s.heap (hl_W cJ h0 h1 h2 u cO o (vp_updL out 0 (lN 0)) cB k0 k1 u (nI 0) bf) H locs := hx_join (wr := [(h0, .inr (1, [.ref h1, .long (lN u.2.1), .long (lN u.2.2)])), (h1, .inr (0, [.ref h2])), (h2, .inl (cJ, 8064, .inr (.inl (pw_w u.1)))), (o, .inl (cO, 1, .inr (.inl (vp_updL out 0 (lN 0)))))]) hA hw hw2 hk hm_adr [4, 5] [0, 1, 2, 3] [0, 1, 2, 3, 4, 5] rfl rfl rfl rfl (by decide) rfl rfl rfl
            refine W.eq (g2 := F0 m 299 ls [.int (nI 0)]) rfl ?_
            refine lv_istore (lv' := [(6, .int (nI 0)), (5, .int (nI 0)), (4, .int (nI (3 * j))), (1, .ref h0), (2, .ref k0), (3, .ref o), (0, .ref b)]) hx hb dL_law_299 hl (by decide) rfl (fun ls hl => ?_)
            refine lv_aload_n hx hb dL_law_301 rfl (lv_at hl 4 rfl) ?_
            have hwc := hx_cut (w := hm_W cB k0 k1 u (nI 0) bf) hw [4, 5] rfl rfl rfl
            refine hx_fV (rest := []) (n := 0) S hwc (m_thrown l hst D tys cB ht1 k0 k1 u (nI 0) bf) gL_law_X2_thrown rfl (by decide +kernel) rfl ⟨Nat.le_of_ble_eq_true rfl, Nat.le_of_ble_eq_true rfl⟩ 0 2 rfl rfl hm_adr hl.1 rfl (Nat.le_of_ble_eq_true rfl) ⟨show 6 + 2 * j + 1 + 1 ≤ 601024 from by omega, show 73610 + 12 * j + 6 + 6 ≤ 7293034 from by omega⟩ dL_law_302 (fun H locs hw2 hk => ?_)
            have hw : hx_w D (fun q : Nat => s.heap.size ≤ q) s.heap (hl_W cJ h0 h1 h2 u cO o (vp_updL out 0 (lN 0)) cB k0 k1 u (nI 0) bf) H locs := hx_join (wr := [(h0, .inr (1, [.ref h1, .long (lN u.2.1), .long (lN u.2.2)])), (h1, .inr (0, [.ref h2])), (h2, .inl (cJ, 8064, .inr (.inl (pw_w u.1)))), (o, .inl (cO, 1, .inr (.inl (vp_updL out 0 (lN 0)))))]) hA hw hw2 hk hm_adr [4, 5] [0, 1, 2, 3] [0, 1, 2, 3, 4, 5] rfl rfl rfl rfl (by decide) rfl rfl rfl
            refine W.eq (g2 := F0 m 305 ls [.int (nI 0)]) rfl ?_
            refine lv_iload hx hb dL_law_305 (lv_at hl 1 rfl) ?_
            refine hn_isame (tgt := 312) hx hb dL_law_307 (by decide) ?_
            refine lv_iload hx hb dL_law_312 (lv_at hl 1 rfl) ?_
            refine hn_zne (n := 0) (tgt := 336) hx hb (by omega) dL_law_314 (by decide) (fun hd => ?_) (fun hd => ?_)
            · exact absurd rfl hd
            · refine lv_aload_n hx hb dL_law_317 rfl (lv_at hl 5 rfl) ?_
              refine lv_iconst (v := nI 0) hx hb dL_law_318 (by decide +kernel) ?_
              refine hn_lald hx hb hK hw.1 3 2 rfl ht2 (k := 0) (by decide) (by decide) dL_law_319 ?_
              rw [pk_uLs]
              refine lv_iload hx hb dL_law_320 (lv_at hl 0 rfl) ?_
              refine hn_zeq (n := 0) (tgt := 329) hx hb (by omega) dL_law_322 (by decide) (fun hd2 => ?_) (fun hd2 => ?_)
              · refine lv_lconst (v := lN 0) hx hb dL_law_329 (by decide +kernel) ?_
                refine hn_lsame (tgt := 336) hx hb dL_law_330 dL_law_331 (by decide) ?_
                refine lv_goto (tgt := 439) hx hb dL_law_336 (by decide) ?_
                refine lv_iinc (v := nI (3 * (j + 1))) (lv' := [(4, .int (nI (3 * (j + 1)))), (6, .int (nI 0)), (5, .int (nI 0)), (1, .ref h0), (2, .ref k0), (3, .ref o), (0, .ref b)]) hx hb dL_law_439 hl (k := 2) rfl (nI_add (3 * j) 3) (by decide) rfl (fun ls hl => ?_)
                refine lv_goto (tgt := 23) hx hb dL_law_442 (by decide) ?_
                refine W.widen (k := 6 + 2 * (j + 1)) (n := 73610 + 12 * (j + 1)) (by omega) (by omega) ?_
                exact ih (j + 1) u _ _ _ _ _ _ (by omega) (by omega) hu hw (lv_sub hl [0, 3, 4, 5, 6] rfl)
              · exact absurd rfl hd2
          · rcases hq : ph_give u n1 with ⟨_ | _, u2⟩
            all_goals have hI := ph_give_I hu n1
            all_goals rw [hq] at hI
            · obtain ⟨bf3, hM⟩ := m_freeX l hst D tys cB ht1 k0 k1 u th bf n1 u2 hu hn1 kz hq
              refine lv_aload_n hx hb dL_law_276 rfl (lv_at hl 1 rfl) ?_
              refine lv_aload_n hx hb dL_law_277 rfl (lv_at hl 4 rfl) ?_
              refine lv_iload hx hb dL_law_278 (lv_at hl 0 rfl) ?_
              refine lv_iconst (v := nI 1) hx hb dL_law_280 (by decide +kernel) ?_
              refine hn_iadd (v := nI ((3 * j) + 1)) hx hb dL_law_281 (nI_add _ _) ?_
              refine hn_sld (k := 3 * j + 1) (v := nI n1) hx hb hX hbl hbA hw.2.2 (by omega) (by omega) en1 dL_law_282 ?_
              refine lv_aload_n hx hb dL_law_283 rfl (lv_at hl 3 rfl) ?_
              have hwc := hx_cut (w := hl_X cJ h0 h1 h2 u cO o out) hw [0, 1, 2, 3] rfl rfl rfl
              refine hx_fSW (rest := []) (n := 3) S hwc (w_freeX l hst D tys cJ cO ht ht2 h0 h1 h2 o u n1 u2 out hu hn1 kz hq) gL_law_L_free rfl (by decide +kernel) rfl ⟨Nat.le_of_ble_eq_true rfl, Nat.le_of_ble_eq_true rfl⟩ hl_adr hl.1 rfl (Nat.le_of_ble_eq_true rfl) ⟨show 6 + 2 * j + 1 ≤ 601024 from by omega, show 73610 + 12 * j + 6 ≤ 7293034 from by omega⟩ dL_law_284 (fun H locs hw2 hk => ?_)
              have hw : hx_w D (fun q : Nat => s.heap.size ≤ q) s.heap (hl_W cJ h0 h1 h2 u2 cO o out cB k0 k1 u th bf) H locs := hx_join (wr := [(k0, .inr (2, [.ref k1, .int (nI u.2.1), .int (nI u.2.2), .int th, .long bf])), (k1, .inl (cB, 65536, .inl (fun j => sb_b (ph_b u.1 j))))]) hA hw hw2 hk hl_adr [0, 1, 2, 3] [4, 5] [2, 3, 4, 5, 0, 1] rfl rfl rfl rfl (by decide) rfl rfl rfl
              refine W.eq (g2 := F0 m 287 ls [.int (nI 1)]) rfl ?_
              refine lv_istore (lv' := [(5, .int (nI 1)), (4, .int (nI (3 * j))), (1, .ref h0), (2, .ref k0), (3, .ref o), (0, .ref b)]) hx hb dL_law_287 hl (by decide) rfl (fun ls hl => ?_)
              refine lv_aload_n hx hb dL_law_289 rfl (lv_at hl 3 rfl) ?_
              refine lv_aload_n hx hb dL_law_290 rfl (lv_at hl 5 rfl) ?_
              refine lv_iload hx hb dL_law_291 (lv_at hl 1 rfl) ?_
              refine lv_iconst (v := nI 1) hx hb dL_law_293 (by decide +kernel) ?_
              refine hn_iadd (v := nI ((3 * j) + 1)) hx hb dL_law_294 (nI_add _ _) ?_
              refine hn_sld (k := 3 * j + 1) (v := nI n1) hx hb hX hbl hbA hw.2.2 (by omega) (by omega) en1 dL_law_295 ?_
              have hwc := hx_cut (w := hm_W cB k0 k1 u th bf) hw [4, 5] rfl rfl rfl
              refine hx_fVW (rest := []) (n := 1) S hwc (hM) gL_law_X2_free rfl (by decide +kernel) rfl ⟨Nat.le_of_ble_eq_true rfl, Nat.le_of_ble_eq_true rfl⟩ 0 2 rfl rfl hm_adr hl.1 rfl (Nat.le_of_ble_eq_true rfl) ⟨show 6 + 2 * j + 1 + 1 ≤ 601024 from by omega, show 73610 + 12 * j + 6 + 6 ≤ 7293034 from by omega⟩ dL_law_296 (fun H locs hw2 hk => ?_)
              have hw : hx_w D (fun q : Nat => s.heap.size ≤ q) s.heap (hl_W cJ h0 h1 h2 u2 cO o out cB k0 k1 u2 (nI 1) bf3) H locs := hx_join (wr := [(h0, .inr (1, [.ref h1, .long (lN u2.2.1), .long (lN u2.2.2)])), (h1, .inr (0, [.ref h2])), (h2, .inl (cJ, 8064, .inr (.inl (pw_w u2.1)))), (o, .inl (cO, 1, .inr (.inl out)))]) hA hw hw2 hk hm_adr [4, 5] [0, 1, 2, 3] [0, 1, 2, 3, 4, 5] rfl rfl rfl rfl (by decide) rfl rfl rfl
              refine W.eq (g2 := F0 m 299 ls [.int (nI 0)]) rfl ?_
              refine lv_istore (lv' := [(6, .int (nI 0)), (5, .int (nI 1)), (4, .int (nI (3 * j))), (1, .ref h0), (2, .ref k0), (3, .ref o), (0, .ref b)]) hx hb dL_law_299 hl (by decide) rfl (fun ls hl => ?_)
              refine lv_aload_n hx hb dL_law_301 rfl (lv_at hl 4 rfl) ?_
              have hwc := hx_cut (w := hm_W cB k0 k1 u2 (nI 1) bf3) hw [4, 5] rfl rfl rfl
              refine hx_fV (rest := []) (n := 0) S hwc (m_thrown l hst D tys cB ht1 k0 k1 u2 (nI 1) bf3) gL_law_X2_thrown rfl (by decide +kernel) rfl ⟨Nat.le_of_ble_eq_true rfl, Nat.le_of_ble_eq_true rfl⟩ 0 2 rfl rfl hm_adr hl.1 rfl (Nat.le_of_ble_eq_true rfl) ⟨show 6 + 2 * j + 1 + 1 ≤ 601024 from by omega, show 73610 + 12 * j + 6 + 6 ≤ 7293034 from by omega⟩ dL_law_302 (fun H locs hw2 hk => ?_)
              have hw : hx_w D (fun q : Nat => s.heap.size ≤ q) s.heap (hl_W cJ h0 h1 h2 u2 cO o out cB k0 k1 u2 (nI 1) bf3) H locs := hx_join (wr := [(h0, .inr (1, [.ref h1, .long (lN u2.2.1), .long (lN u2.2.2)])), (h1, .inr (0, [.ref h2])), (h2, .inl (cJ, 8064, .inr (.inl (pw_w u2.1)))), (o, .inl (cO, 1, .inr (.inl out)))]) hA hw hw2 hk hm_adr [4, 5] [0, 1, 2, 3] [0, 1, 2, 3, 4, 5] rfl rfl rfl rfl (by decide) rfl rfl rfl
              refine W.eq (g2 := F0 m 305 ls [.int (nI 1)]) rfl ?_
              refine lv_iload hx hb dL_law_305 (lv_at hl 1 rfl) ?_
              refine hn_isame (tgt := 312) hx hb dL_law_307 (by decide) ?_
              refine lv_iload hx hb dL_law_312 (lv_at hl 1 rfl) ?_
              refine hn_zne (n := 1) (tgt := 336) hx hb (by omega) dL_law_314 (by decide) (fun hd => ?_) (fun hd => ?_)
              · refine lv_goto (tgt := 439) hx hb dL_law_336 (by decide) ?_
                refine lv_iinc (v := nI (3 * (j + 1))) (lv' := [(4, .int (nI (3 * (j + 1)))), (6, .int (nI 0)), (5, .int (nI 1)), (1, .ref h0), (2, .ref k0), (3, .ref o), (0, .ref b)]) hx hb dL_law_439 hl (k := 2) rfl (nI_add (3 * j) 3) (by decide) rfl (fun ls hl => ?_)
                refine lv_goto (tgt := 23) hx hb dL_law_442 (by decide) ?_
                refine W.widen (k := 6 + 2 * (j + 1)) (n := 73610 + 12 * (j + 1)) (by omega) (by omega) ?_
                exact ih (j + 1) u2 _ _ _ _ _ _ (by omega) (by omega) hI hw (lv_sub hl [0, 3, 4, 5, 6] rfl)
              · exact absurd hd (by decide)
            · obtain ⟨bf3, hM⟩ := m_free l hst D tys cB ht1 k0 k1 u th bf n1 u2 hu hn1 kz hq
              refine lv_aload_n hx hb dL_law_276 rfl (lv_at hl 1 rfl) ?_
              refine lv_aload_n hx hb dL_law_277 rfl (lv_at hl 4 rfl) ?_
              refine lv_iload hx hb dL_law_278 (lv_at hl 0 rfl) ?_
              refine lv_iconst (v := nI 1) hx hb dL_law_280 (by decide +kernel) ?_
              refine hn_iadd (v := nI ((3 * j) + 1)) hx hb dL_law_281 (nI_add _ _) ?_
              refine hn_sld (k := 3 * j + 1) (v := nI n1) hx hb hX hbl hbA hw.2.2 (by omega) (by omega) en1 dL_law_282 ?_
              refine lv_aload_n hx hb dL_law_283 rfl (lv_at hl 3 rfl) ?_
              have hwc := hx_cut (w := hl_X cJ h0 h1 h2 u cO o out) hw [0, 1, 2, 3] rfl rfl rfl
              refine hx_fSW (rest := []) (n := 3) S hwc (w_free l hst D tys cJ cO ht ht2 h0 h1 h2 o u n1 u2 out hu hn1 kz hq) gL_law_L_free rfl (by decide +kernel) rfl ⟨Nat.le_of_ble_eq_true rfl, Nat.le_of_ble_eq_true rfl⟩ hl_adr hl.1 rfl (Nat.le_of_ble_eq_true rfl) ⟨show 6 + 2 * j + 1 ≤ 601024 from by omega, show 73610 + 12 * j + 6 ≤ 7293034 from by omega⟩ dL_law_284 (fun H locs hw2 hk => ?_)
              have hw : hx_w D (fun q : Nat => s.heap.size ≤ q) s.heap (hl_W cJ h0 h1 h2 u2 cO o (vp_updL out 0 (lN 1)) cB k0 k1 u th bf) H locs := hx_join (wr := [(k0, .inr (2, [.ref k1, .int (nI u.2.1), .int (nI u.2.2), .int th, .long bf])), (k1, .inl (cB, 65536, .inl (fun j => sb_b (ph_b u.1 j))))]) hA hw hw2 hk hl_adr [0, 1, 2, 3] [4, 5] [2, 3, 4, 5, 0, 1] rfl rfl rfl rfl (by decide) rfl rfl rfl
              refine W.eq (g2 := F0 m 287 ls [.int (nI 0)]) rfl ?_
              refine lv_istore (lv' := [(5, .int (nI 0)), (4, .int (nI (3 * j))), (1, .ref h0), (2, .ref k0), (3, .ref o), (0, .ref b)]) hx hb dL_law_287 hl (by decide) rfl (fun ls hl => ?_)
              refine lv_aload_n hx hb dL_law_289 rfl (lv_at hl 3 rfl) ?_
              refine lv_aload_n hx hb dL_law_290 rfl (lv_at hl 5 rfl) ?_
              refine lv_iload hx hb dL_law_291 (lv_at hl 1 rfl) ?_
              refine lv_iconst (v := nI 1) hx hb dL_law_293 (by decide +kernel) ?_
              refine hn_iadd (v := nI ((3 * j) + 1)) hx hb dL_law_294 (nI_add _ _) ?_
              refine hn_sld (k := 3 * j + 1) (v := nI n1) hx hb hX hbl hbA hw.2.2 (by omega) (by omega) en1 dL_law_295 ?_
              have hwc := hx_cut (w := hm_W cB k0 k1 u th bf) hw [4, 5] rfl rfl rfl
              refine hx_fVW (rest := []) (n := 1) S hwc (hM) gL_law_X2_free rfl (by decide +kernel) rfl ⟨Nat.le_of_ble_eq_true rfl, Nat.le_of_ble_eq_true rfl⟩ 0 2 rfl rfl hm_adr hl.1 rfl (Nat.le_of_ble_eq_true rfl) ⟨show 6 + 2 * j + 1 + 1 ≤ 601024 from by omega, show 73610 + 12 * j + 6 + 6 ≤ 7293034 from by omega⟩ dL_law_296 (fun H locs hw2 hk => ?_)
              have hw : hx_w D (fun q : Nat => s.heap.size ≤ q) s.heap (hl_W cJ h0 h1 h2 u2 cO o (vp_updL out 0 (lN 1)) cB k0 k1 u2 (nI 0) bf3) H locs := hx_join (wr := [(h0, .inr (1, [.ref h1, .long (lN u2.2.1), .long (lN u2.2.2)])), (h1, .inr (0, [.ref h2])), (h2, .inl (cJ, 8064, .inr (.inl (pw_w u2.1)))), (o, .inl (cO, 1, .inr (.inl (vp_updL out 0 (lN 1)))))]) hA hw hw2 hk hm_adr [4, 5] [0, 1, 2, 3] [0, 1, 2, 3, 4, 5] rfl rfl rfl rfl (by decide) rfl rfl rfl
              refine W.eq (g2 := F0 m 299 ls [.int (nI 1)]) rfl ?_
              refine lv_istore (lv' := [(6, .int (nI 1)), (5, .int (nI 0)), (4, .int (nI (3 * j))), (1, .ref h0), (2, .ref k0), (3, .ref o), (0, .ref b)]) hx hb dL_law_299 hl (by decide) rfl (fun ls hl => ?_)
              refine lv_aload_n hx hb dL_law_301 rfl (lv_at hl 4 rfl) ?_
              have hwc := hx_cut (w := hm_W cB k0 k1 u2 (nI 0) bf3) hw [4, 5] rfl rfl rfl
              refine hx_fV (rest := []) (n := 0) S hwc (m_thrown l hst D tys cB ht1 k0 k1 u2 (nI 0) bf3) gL_law_X2_thrown rfl (by decide +kernel) rfl ⟨Nat.le_of_ble_eq_true rfl, Nat.le_of_ble_eq_true rfl⟩ 0 2 rfl rfl hm_adr hl.1 rfl (Nat.le_of_ble_eq_true rfl) ⟨show 6 + 2 * j + 1 + 1 ≤ 601024 from by omega, show 73610 + 12 * j + 6 + 6 ≤ 7293034 from by omega⟩ dL_law_302 (fun H locs hw2 hk => ?_)
              have hw : hx_w D (fun q : Nat => s.heap.size ≤ q) s.heap (hl_W cJ h0 h1 h2 u2 cO o (vp_updL out 0 (lN 1)) cB k0 k1 u2 (nI 0) bf3) H locs := hx_join (wr := [(h0, .inr (1, [.ref h1, .long (lN u2.2.1), .long (lN u2.2.2)])), (h1, .inr (0, [.ref h2])), (h2, .inl (cJ, 8064, .inr (.inl (pw_w u2.1)))), (o, .inl (cO, 1, .inr (.inl (vp_updL out 0 (lN 1)))))]) hA hw hw2 hk hm_adr [4, 5] [0, 1, 2, 3] [0, 1, 2, 3, 4, 5] rfl rfl rfl rfl (by decide) rfl rfl rfl
              refine W.eq (g2 := F0 m 305 ls [.int (nI 0)]) rfl ?_
              refine lv_iload hx hb dL_law_305 (lv_at hl 1 rfl) ?_
              refine hn_isame (tgt := 312) hx hb dL_law_307 (by decide) ?_
              refine lv_iload hx hb dL_law_312 (lv_at hl 1 rfl) ?_
              refine hn_zne (n := 0) (tgt := 336) hx hb (by omega) dL_law_314 (by decide) (fun hd => ?_) (fun hd => ?_)
              · exact absurd rfl hd
              · refine lv_aload_n hx hb dL_law_317 rfl (lv_at hl 5 rfl) ?_
                refine lv_iconst (v := nI 0) hx hb dL_law_318 (by decide +kernel) ?_
                refine hn_lald hx hb hK hw.1 3 2 rfl ht2 (k := 0) (by decide) (by decide) dL_law_319 ?_
                rw [pk_uLs]
                refine lv_iload hx hb dL_law_320 (lv_at hl 0 rfl) ?_
                refine hn_zeq (n := 1) (tgt := 329) hx hb (by omega) dL_law_322 (by decide) (fun hd2 => ?_) (fun hd2 => ?_)
                · exact absurd hd2 (by decide)
                · refine lv_lconst (v := lN 1) hx hb dL_law_325 (by decide +kernel) ?_
                  refine lv_goto (tgt := 330) hx hb dL_law_326 (by decide) ?_
                  refine hn_lsame (tgt := 336) hx hb dL_law_330 dL_law_331 (by decide) ?_
                  refine lv_goto (tgt := 439) hx hb dL_law_336 (by decide) ?_
                  refine lv_iinc (v := nI (3 * (j + 1))) (lv' := [(4, .int (nI (3 * (j + 1)))), (6, .int (nI 1)), (5, .int (nI 0)), (1, .ref h0), (2, .ref k0), (3, .ref o), (0, .ref b)]) hx hb dL_law_439 hl (k := 2) rfl (nI_add (3 * j) 3) (by decide) rfl (fun ls hl => ?_)
                  refine lv_goto (tgt := 23) hx hb dL_law_442 (by decide) ?_
                  refine W.widen (k := 6 + 2 * (j + 1)) (n := 73610 + 12 * (j + 1)) (by omega) (by omega) ?_
                  exact ih (j + 1) u2 _ _ _ _ _ _ (by omega) (by omega) hI hw (lv_sub hl [0, 3, 4, 5, 6] rfl)
        · refine lv_tableIn (off := 300) (tgt := 339) hx hb dL_law_39 (by decide +kernel) (by decide +kernel) (by decide +kernel) (by decide) ?_
          refine lv_aload_n hx hb dL_law_339 rfl (lv_at hl 1 rfl) ?_
          refine lv_aload_n hx hb dL_law_340 rfl (lv_at hl 4 rfl) ?_
          refine lv_iload hx hb dL_law_341 (lv_at hl 0 rfl) ?_
          refine lv_iconst (v := nI 1) hx hb dL_law_343 (by decide +kernel) ?_
          refine hn_iadd (v := nI ((3 * j) + 1)) hx hb dL_law_344 (nI_add _ _) ?_
          refine hn_sld (k := 3 * j + 1) (v := nI n1) hx hb hX hbl hbA hw.2.2 (by omega) (by omega) en1 dL_law_345 ?_
          have hwc := hx_cut (w := hc_W cJ h0 h1 h2 u) hw [0, 1, 2] rfl rfl rfl
          refine hx_fV (rest := []) (n := 1) S hwc (c_stack l hst D tys cJ ht h0 h1 h2 u n1 hu hn1) gL_law_X1_stack rfl (by decide +kernel) rfl ⟨Nat.le_of_ble_eq_true rfl, Nat.le_of_ble_eq_true rfl⟩ 0 1 rfl rfl hc_adr hl.1 rfl (Nat.le_of_ble_eq_true rfl) ⟨show 6 + 2 * j ≤ 601024 from by omega, show 73610 + 12 * j ≤ 7293034 from by omega⟩ dL_law_346 (fun H locs hw2 hk => ?_)
          have hw : hx_w D (fun q : Nat => s.heap.size ≤ q) s.heap (hl_W cJ h0 h1 h2 (ph_stk u n1).2 cO o out cB k0 k1 u th bf) H locs := hx_join (wr := [(o, .inl (cO, 1, .inr (.inl out))), (k0, .inr (2, [.ref k1, .int (nI u.2.1), .int (nI u.2.2), .int th, .long bf])), (k1, .inl (cB, 65536, .inl (fun j => sb_b (ph_b u.1 j))))]) hA hw hw2 hk hc_adr [0, 1, 2] [3, 4, 5] [3, 4, 5, 0, 1, 2] rfl rfl rfl rfl (by decide) rfl rfl rfl
          refine W.eq (g2 := F0 m 349 ls [.int (if (ph_stk u n1).1 = true then nI 1 else nI 0)]) rfl ?_
          refine lv_aload_n hx hb dL_law_349 rfl (lv_at hl 2 rfl) ?_
          refine lv_aload_n hx hb dL_law_350 rfl (lv_at hl 4 rfl) ?_
          refine lv_iload hx hb dL_law_351 (lv_at hl 0 rfl) ?_
          refine lv_iconst (v := nI 1) hx hb dL_law_353 (by decide +kernel) ?_
          refine hn_iadd (v := nI ((3 * j) + 1)) hx hb dL_law_354 (nI_add _ _) ?_
          refine hn_sld (k := 3 * j + 1) (v := nI n1) hx hb hX hbl hbA hw.2.2 (by omega) (by omega) en1 dL_law_355 ?_
          have hwc := hx_cut (w := hm_W cB k0 k1 u th bf) hw [4, 5] rfl rfl rfl
          refine hx_fV (rest := [.int (if (ph_stk u n1).1 = true then nI 1 else nI 0)]) (n := 1) S hwc (m_stack l hst D tys cB ht1 k0 k1 u th bf n1 hu hn1) gL_law_X2_stack rfl (by decide +kernel) rfl ⟨Nat.le_of_ble_eq_true rfl, Nat.le_of_ble_eq_true rfl⟩ 0 2 rfl rfl hm_adr hl.1 rfl (Nat.le_of_ble_eq_true rfl) ⟨show 6 + 2 * j ≤ 601024 from by omega, show 73610 + 12 * j ≤ 7293034 from by omega⟩ dL_law_356 (fun H locs hw2 hk => ?_)
          have hw : hx_w D (fun q : Nat => s.heap.size ≤ q) s.heap (hl_W cJ h0 h1 h2 (ph_stk u n1).2 cO o out cB k0 k1 (ph_stk u n1).2 (nI 0) bf) H locs := hx_join (wr := [(h0, .inr (1, [.ref h1, .long (lN (ph_stk u n1).2.2.1), .long (lN (ph_stk u n1).2.2.2)])), (h1, .inr (0, [.ref h2])), (h2, .inl (cJ, 8064, .inr (.inl (pw_w (ph_stk u n1).2.1)))), (o, .inl (cO, 1, .inr (.inl out)))]) hA hw hw2 hk hm_adr [4, 5] [0, 1, 2, 3] [0, 1, 2, 3, 4, 5] rfl rfl rfl rfl (by decide) rfl rfl rfl
          refine W.eq (g2 := F0 m 359 ls [.int (if (ph_stk u n1).1 = true then nI 1 else nI 0), .int (if (ph_stk u n1).1 = true then nI 1 else nI 0)]) rfl ?_
          refine hn_isame (tgt := 439) hx hb dL_law_359 (by decide) ?_
          refine lv_iinc (v := nI (3 * (j + 1))) (lv' := [(4, .int (nI (3 * (j + 1)))), (1, .ref h0), (2, .ref k0), (3, .ref o), (0, .ref b)]) hx hb dL_law_439 hl (k := 0) rfl (nI_add (3 * j) 3) (by decide) rfl (fun ls hl => ?_)
          refine lv_goto (tgt := 23) hx hb dL_law_442 (by decide) ?_
          refine W.widen (k := 6 + 2 * (j + 1)) (n := 73610 + 12 * (j + 1)) (by omega) (by omega) ?_
          exact ih (j + 1) (ph_stk u n1).2 _ _ _ _ _ _ (by omega) (by omega) (ph_stk_I hu n1) hw (lv_sub hl [0, 1, 2, 3, 4] rfl)
        · refine lv_tableIn (off := 325) (tgt := 364) hx hb dL_law_39 (by decide +kernel) (by decide +kernel) (by decide +kernel) (by decide) ?_
          refine lv_aload_n hx hb dL_law_364 rfl (lv_at hl 1 rfl) ?_
          refine lv_aload_n hx hb dL_law_365 rfl (lv_at hl 4 rfl) ?_
          refine lv_iload hx hb dL_law_366 (lv_at hl 0 rfl) ?_
          refine lv_iconst (v := nI 1) hx hb dL_law_368 (by decide +kernel) ?_
          refine hn_iadd (v := nI ((3 * j) + 1)) hx hb dL_law_369 (nI_add _ _) ?_
          refine hn_sld (k := 3 * j + 1) (v := nI n1) hx hb hX hbl hbA hw.2.2 (by omega) (by omega) en1 dL_law_370 ?_
          refine lv_aload_n hx hb dL_law_371 rfl (lv_at hl 4 rfl) ?_
          refine lv_iload hx hb dL_law_372 (lv_at hl 0 rfl) ?_
          refine lv_iconst (v := nI 2) hx hb dL_law_374 (by decide +kernel) ?_
          refine hn_iadd (v := nI ((3 * j) + 2)) hx hb dL_law_375 (nI_add _ _) ?_
          refine hn_sld (k := 3 * j + 2) (v := nI n2) hx hb hX hbl hbA hw.2.2 (by omega) (by omega) en2 dL_law_376 ?_
          have hwc := hx_cut (w := hc_W cJ h0 h1 h2 u) hw [0, 1, 2] rfl rfl rfl
          refine hx_fV (rest := []) (n := 2) S hwc (c_put l hst D tys cJ ht h0 h1 h2 u n1 n2 hn1 hn2) gL_law_X1_put rfl (by decide +kernel) rfl ⟨Nat.le_of_ble_eq_true rfl, Nat.le_of_ble_eq_true rfl⟩ 0 1 rfl rfl hc_adr hl.1 rfl (Nat.le_of_ble_eq_true rfl) ⟨show 6 + 2 * j ≤ 601024 from by omega, show 73610 + 12 * j ≤ 7293034 from by omega⟩ dL_law_377 (fun H locs hw2 hk => ?_)
          have hw : hx_w D (fun q : Nat => s.heap.size ≤ q) s.heap (hl_W cJ h0 h1 h2 (if ph_in n1 then (ph_sb u.1 n1 n2, u.2) else u) cO o out cB k0 k1 u th bf) H locs := hx_join (wr := [(o, .inl (cO, 1, .inr (.inl out))), (k0, .inr (2, [.ref k1, .int (nI u.2.1), .int (nI u.2.2), .int th, .long bf])), (k1, .inl (cB, 65536, .inl (fun j => sb_b (ph_b u.1 j))))]) hA hw hw2 hk hc_adr [0, 1, 2] [3, 4, 5] [3, 4, 5, 0, 1, 2] rfl rfl rfl rfl (by decide) rfl rfl rfl
          refine W.eq (g2 := F0 m 380 ls [.int (if ph_in n1 then nI (ph_b u.1 n1) else (-1))]) rfl ?_
          refine lv_aload_n hx hb dL_law_380 rfl (lv_at hl 2 rfl) ?_
          refine lv_aload_n hx hb dL_law_381 rfl (lv_at hl 4 rfl) ?_
          refine lv_iload hx hb dL_law_382 (lv_at hl 0 rfl) ?_
          refine lv_iconst (v := nI 1) hx hb dL_law_384 (by decide +kernel) ?_
          refine hn_iadd (v := nI ((3 * j) + 1)) hx hb dL_law_385 (nI_add _ _) ?_
          refine hn_sld (k := 3 * j + 1) (v := nI n1) hx hb hX hbl hbA hw.2.2 (by omega) (by omega) en1 dL_law_386 ?_
          refine lv_aload_n hx hb dL_law_387 rfl (lv_at hl 4 rfl) ?_
          refine lv_iload hx hb dL_law_388 (lv_at hl 0 rfl) ?_
          refine lv_iconst (v := nI 2) hx hb dL_law_390 (by decide +kernel) ?_
          refine hn_iadd (v := nI ((3 * j) + 2)) hx hb dL_law_391 (nI_add _ _) ?_
          refine hn_sld (k := 3 * j + 2) (v := nI n2) hx hb hX hbl hbA hw.2.2 (by omega) (by omega) en2 dL_law_392 ?_
          have hwc := hx_cut (w := hm_W cB k0 k1 u th bf) hw [4, 5] rfl rfl rfl
          refine hx_fV (rest := [.int (if ph_in n1 then nI (ph_b u.1 n1) else (-1))]) (n := 2) S hwc (m_put l hst D tys cB ht1 k0 k1 u th bf n1 n2 hn1 hn2) gL_law_X2_put rfl (by decide +kernel) rfl ⟨Nat.le_of_ble_eq_true rfl, Nat.le_of_ble_eq_true rfl⟩ 0 2 rfl rfl hm_adr hl.1 rfl (Nat.le_of_ble_eq_true rfl) ⟨show 6 + 2 * j ≤ 601024 from by omega, show 73610 + 12 * j ≤ 7293034 from by omega⟩ dL_law_393 (fun H locs hw2 hk => ?_)
          have hw : hx_w D (fun q : Nat => s.heap.size ≤ q) s.heap (hl_W cJ h0 h1 h2 (if ph_in n1 then (ph_sb u.1 n1 n2, u.2) else u) cO o out cB k0 k1 (if ph_in n1 then (ph_sb u.1 n1 n2, u.2) else u) (nI 0) bf) H locs := hx_join (wr := [(h0, .inr (1, [.ref h1, .long (lN (if ph_in n1 then (ph_sb u.1 n1 n2, u.2) else u).2.1), .long (lN (if ph_in n1 then (ph_sb u.1 n1 n2, u.2) else u).2.2)])), (h1, .inr (0, [.ref h2])), (h2, .inl (cJ, 8064, .inr (.inl (pw_w (if ph_in n1 then (ph_sb u.1 n1 n2, u.2) else u).1)))), (o, .inl (cO, 1, .inr (.inl out)))]) hA hw hw2 hk hm_adr [4, 5] [0, 1, 2, 3] [0, 1, 2, 3, 4, 5] rfl rfl rfl rfl (by decide) rfl rfl rfl
          refine W.eq (g2 := F0 m 396 ls [.int (if ph_in n1 then nI (ph_b u.1 n1) else (-1)), .int (if ph_in n1 then nI (ph_b u.1 n1) else (-1))]) rfl ?_
          refine hn_isame (tgt := 439) hx hb dL_law_396 (by decide) ?_
          refine lv_iinc (v := nI (3 * (j + 1))) (lv' := [(4, .int (nI (3 * (j + 1)))), (1, .ref h0), (2, .ref k0), (3, .ref o), (0, .ref b)]) hx hb dL_law_439 hl (k := 0) rfl (nI_add (3 * j) 3) (by decide) rfl (fun ls hl => ?_)
          refine lv_goto (tgt := 23) hx hb dL_law_442 (by decide) ?_
          refine W.widen (k := 6 + 2 * (j + 1)) (n := 73610 + 12 * (j + 1)) (by omega) (by omega) ?_
          exact ih (j + 1) (if ph_in n1 then (ph_sb u.1 n1 n2, u.2) else u) _ _ _ _ _ _ (by omega) (by omega) (ph_put_I hu n1 n2) hw (lv_sub hl [0, 1, 2, 3, 4] rfl)
        · refine lv_tableIn (off := 362) (tgt := 401) hx hb dL_law_39 (by decide +kernel) (by decide +kernel) (by decide +kernel) (by decide) ?_
          refine lv_aload_n hx hb dL_law_401 rfl (lv_at hl 1 rfl) ?_
          refine lv_aload_n hx hb dL_law_402 rfl (lv_at hl 4 rfl) ?_
          refine lv_iload hx hb dL_law_403 (lv_at hl 0 rfl) ?_
          refine lv_iconst (v := nI 1) hx hb dL_law_405 (by decide +kernel) ?_
          refine hn_iadd (v := nI ((3 * j) + 1)) hx hb dL_law_406 (nI_add _ _) ?_
          refine hn_sld (k := 3 * j + 1) (v := nI n1) hx hb hX hbl hbA hw.2.2 (by omega) (by omega) en1 dL_law_407 ?_
          have hwc := hx_cut (w := hc_W cJ h0 h1 h2 u) hw [0, 1, 2] rfl rfl rfl
          refine hx_fV (rest := []) (n := 1) S hwc (c_get l hst D tys cJ ht h0 h1 h2 u n1 hn1) gL_law_X1_get rfl (by decide +kernel) rfl ⟨Nat.le_of_ble_eq_true rfl, Nat.le_of_ble_eq_true rfl⟩ 0 1 rfl rfl hc_adr hl.1 rfl (Nat.le_of_ble_eq_true rfl) ⟨show 6 + 2 * j ≤ 601024 from by omega, show 73610 + 12 * j ≤ 7293034 from by omega⟩ dL_law_408 (fun H locs hw2 hk => ?_)
          have hw : hx_w D (fun q : Nat => s.heap.size ≤ q) s.heap (hl_W cJ h0 h1 h2 u cO o out cB k0 k1 u th bf) H locs := hx_join (wr := [(o, .inl (cO, 1, .inr (.inl out))), (k0, .inr (2, [.ref k1, .int (nI u.2.1), .int (nI u.2.2), .int th, .long bf])), (k1, .inl (cB, 65536, .inl (fun j => sb_b (ph_b u.1 j))))]) hA hw hw2 hk hc_adr [0, 1, 2] [3, 4, 5] [3, 4, 5, 0, 1, 2] rfl rfl rfl rfl (by decide) rfl rfl rfl
          refine W.eq (g2 := F0 m 411 ls [.int (if ph_in n1 then nI (ph_b u.1 n1) else (-1))]) rfl ?_
          refine lv_aload_n hx hb dL_law_411 rfl (lv_at hl 2 rfl) ?_
          refine lv_aload_n hx hb dL_law_412 rfl (lv_at hl 4 rfl) ?_
          refine lv_iload hx hb dL_law_413 (lv_at hl 0 rfl) ?_
          refine lv_iconst (v := nI 1) hx hb dL_law_415 (by decide +kernel) ?_
          refine hn_iadd (v := nI ((3 * j) + 1)) hx hb dL_law_416 (nI_add _ _) ?_
          refine hn_sld (k := 3 * j + 1) (v := nI n1) hx hb hX hbl hbA hw.2.2 (by omega) (by omega) en1 dL_law_417 ?_
          have hwc := hx_cut (w := hm_W cB k0 k1 u th bf) hw [4, 5] rfl rfl rfl
          refine hx_fV (rest := [.int (if ph_in n1 then nI (ph_b u.1 n1) else (-1))]) (n := 1) S hwc (m_get l hst D tys cB ht1 k0 k1 u th bf n1 hn1) gL_law_X2_get rfl (by decide +kernel) rfl ⟨Nat.le_of_ble_eq_true rfl, Nat.le_of_ble_eq_true rfl⟩ 0 2 rfl rfl hm_adr hl.1 rfl (Nat.le_of_ble_eq_true rfl) ⟨show 6 + 2 * j ≤ 601024 from by omega, show 73610 + 12 * j ≤ 7293034 from by omega⟩ dL_law_418 (fun H locs hw2 hk => ?_)
          have hw : hx_w D (fun q : Nat => s.heap.size ≤ q) s.heap (hl_W cJ h0 h1 h2 u cO o out cB k0 k1 u (nI 0) bf) H locs := hx_join (wr := [(h0, .inr (1, [.ref h1, .long (lN u.2.1), .long (lN u.2.2)])), (h1, .inr (0, [.ref h2])), (h2, .inl (cJ, 8064, .inr (.inl (pw_w u.1)))), (o, .inl (cO, 1, .inr (.inl out)))]) hA hw hw2 hk hm_adr [4, 5] [0, 1, 2, 3] [0, 1, 2, 3, 4, 5] rfl rfl rfl rfl (by decide) rfl rfl rfl
          refine W.eq (g2 := F0 m 421 ls [.int (if ph_in n1 then nI (ph_b u.1 n1) else (-1)), .int (if ph_in n1 then nI (ph_b u.1 n1) else (-1))]) rfl ?_
          refine hn_isame (tgt := 439) hx hb dL_law_421 (by decide) ?_
          refine lv_iinc (v := nI (3 * (j + 1))) (lv' := [(4, .int (nI (3 * (j + 1)))), (1, .ref h0), (2, .ref k0), (3, .ref o), (0, .ref b)]) hx hb dL_law_439 hl (k := 0) rfl (nI_add (3 * j) 3) (by decide) rfl (fun ls hl => ?_)
          refine lv_goto (tgt := 23) hx hb dL_law_442 (by decide) ?_
          refine W.widen (k := 6 + 2 * (j + 1)) (n := 73610 + 12 * (j + 1)) (by omega) (by omega) ?_
          exact ih (j + 1) u _ _ _ _ _ _ (by omega) (by omega) hu hw (lv_sub hl [0, 1, 2, 3, 4] rfl)
        · refine lv_tableIn (off := 387) (tgt := 426) hx hb dL_law_39 (by decide +kernel) (by decide +kernel) (by decide +kernel) (by decide) ?_
          refine lv_aload_n hx hb dL_law_426 rfl (lv_at hl 1 rfl) ?_
          have hwc := hx_cut (w := hc_W cJ h0 h1 h2 u) hw [0, 1, 2] rfl rfl rfl
          refine hx_fV (rest := []) (n := 0) S hwc (c_end l hst D tys cJ ht h0 h1 h2 u) gL_law_X1_end rfl (by decide +kernel) rfl ⟨Nat.le_of_ble_eq_true rfl, Nat.le_of_ble_eq_true rfl⟩ 0 1 rfl rfl hc_adr hl.1 rfl (Nat.le_of_ble_eq_true rfl) ⟨show 6 + 2 * j ≤ 601024 from by omega, show 73610 + 12 * j ≤ 7293034 from by omega⟩ dL_law_427 (fun H locs hw2 hk => ?_)
          have hw : hx_w D (fun q : Nat => s.heap.size ≤ q) s.heap (hl_W cJ h0 h1 h2 u cO o out cB k0 k1 u th bf) H locs := hx_join (wr := [(o, .inl (cO, 1, .inr (.inl out))), (k0, .inr (2, [.ref k1, .int (nI u.2.1), .int (nI u.2.2), .int th, .long bf])), (k1, .inl (cB, 65536, .inl (fun j => sb_b (ph_b u.1 j))))]) hA hw hw2 hk hc_adr [0, 1, 2] [3, 4, 5] [3, 4, 5, 0, 1, 2] rfl rfl rfl rfl (by decide) rfl rfl rfl
          refine W.eq (g2 := F0 m 430 ls [.int (nI u.2.1)]) rfl ?_
          refine lv_aload_n hx hb dL_law_430 rfl (lv_at hl 2 rfl) ?_
          have hwc := hx_cut (w := hm_W cB k0 k1 u th bf) hw [4, 5] rfl rfl rfl
          refine hx_fV (rest := [.int (nI u.2.1)]) (n := 0) S hwc (m_end l hst D tys cB ht1 k0 k1 u th bf) gL_law_X2_end rfl (by decide +kernel) rfl ⟨Nat.le_of_ble_eq_true rfl, Nat.le_of_ble_eq_true rfl⟩ 0 2 rfl rfl hm_adr hl.1 rfl (Nat.le_of_ble_eq_true rfl) ⟨show 6 + 2 * j ≤ 601024 from by omega, show 73610 + 12 * j ≤ 7293034 from by omega⟩ dL_law_431 (fun H locs hw2 hk => ?_)
          have hw : hx_w D (fun q : Nat => s.heap.size ≤ q) s.heap (hl_W cJ h0 h1 h2 u cO o out cB k0 k1 u (nI 0) bf) H locs := hx_join (wr := [(h0, .inr (1, [.ref h1, .long (lN u.2.1), .long (lN u.2.2)])), (h1, .inr (0, [.ref h2])), (h2, .inl (cJ, 8064, .inr (.inl (pw_w u.1)))), (o, .inl (cO, 1, .inr (.inl out)))]) hA hw hw2 hk hm_adr [4, 5] [0, 1, 2, 3] [0, 1, 2, 3, 4, 5] rfl rfl rfl rfl (by decide) rfl rfl rfl
          refine W.eq (g2 := F0 m 434 ls [.int (nI u.2.1), .int (nI u.2.1)]) rfl ?_
          refine hn_isame (tgt := 439) hx hb dL_law_434 (by decide) ?_
          refine lv_iinc (v := nI (3 * (j + 1))) (lv' := [(4, .int (nI (3 * (j + 1)))), (1, .ref h0), (2, .ref k0), (3, .ref o), (0, .ref b)]) hx hb dL_law_439 hl (k := 0) rfl (nI_add (3 * j) 3) (by decide) rfl (fun ls hl => ?_)
          refine lv_goto (tgt := 23) hx hb dL_law_442 (by decide) ?_
          refine W.widen (k := 6 + 2 * (j + 1)) (n := 73610 + 12 * (j + 1)) (by omega) (by omega) ?_
          exact ih (j + 1) u _ _ _ _ _ _ (by omega) (by omega) hu hw (lv_sub hl [0, 1, 2, 3, 4] rfl)
    · refine hn_isub (v := nI L - nI 3) hx hb dL_law_28 rfl ?_
      refine lv_icmp_gt (tgt := 445) hx hb dL_law_29 (by decide) (fun _ => ?_) (fun z => absurd (show nI L - nI 3 < nI (3 * j) from ?_) z)
      · refine lv_iconst (v := 1) hx hb dL_law_445 (by decide +kernel) ?_
        refine va_forget hw.2.2.2.2 ?_
        refine W.widen (k := 601024) (n := 7293034) (by omega) (by omega) ?_
        exact lw_ret hx hb hr hlocks dL_law_446
      · rw [Int32.lt_iff_toInt_lt, pk_sub_toInt (by omega) (by decide), nI_toInt (by omega)]
        omega
