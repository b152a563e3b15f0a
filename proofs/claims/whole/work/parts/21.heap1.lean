/-! HeapRow: the small methods -/
set_option maxHeartbeats 4000000 in
set_option maxRecDepth 100000 in
theorem c_unsigned (l : Launch) (hst : l.stackTraces = false) (D : va_G) (tys : List (ClassId × FieldType)) (cJ : ClassId) (ht : tys[0]? = some (cJ, .long)) (h0 h1 h2 : Nat) (u : ph_H) (n : Nat) (hn : n < 4294967296) : hx_R l D tys yX1_unsigned wsX1_unsigned 0 0 [.int (nI n)] (hc_W cJ h0 h1 h2 u) (hc_W cJ h0 h1 h2 u) (some (.long (lN n))) := by
  refine hx_R.ofW (cc := cX1_unsigned) (maxL := 1) (ret := (some .long)) (by decide) rfl (Nat.le_of_ble_eq_true rfl) ?_
  intro p e s m below meth c A ls hr S hw hl
  have S : hx_S p l s m _ meth c cX1_unsigned 1 wsX1_unsigned RX1 A D tys := S
  obtain ⟨⟨hx, hb, hml, hown, hts⟩, hK, hA, hE, hlk⟩ := id S
  have hl : lv_has ls 1 [(0, .int (nI n))] := hl
  refine lv_iload_n hx hb dX1_unsigned_0 rfl (lv_at hl 0 rfl) ?_
  refine lv_i2l (v := (nI n).toInt64) hx hb dX1_unsigned_1 rfl ?_
  refine lv_ldc2 (v := lN 4294967295) hx hb hown (hts (.constantLong RX1 70 (lN 4294967295)) (by decide +kernel)) dX1_unsigned_2 ?_
  refine hn_land (v := lN n) hx hb dX1_unsigned_5 (hp_uns hn) ?_
  exact hx_lret S hr hw dX1_unsigned_6
set_option maxHeartbeats 4000000 in
set_option maxRecDepth 100000 in
theorem c_rounded (l : Launch) (hst : l.stackTraces = false) (D : va_G) (tys : List (ClassId × FieldType)) (cJ : ClassId) (ht : tys[0]? = some (cJ, .long)) (h0 h1 h2 : Nat) (u : ph_H) (n : Nat) (hn : n < 4611686018427387904) : hx_R l D tys yX1_rounded wsX1_rounded 1 24 [.long (lN n)] (hc_W cJ h0 h1 h2 u) (hc_W cJ h0 h1 h2 u) (some (.long (lN (ph_up n)))) := by
  refine hx_R.ofW (cc := cX1_rounded) (maxL := 2) (ret := (some .long)) (by decide) rfl (Nat.le_of_ble_eq_true rfl) ?_
  intro p e s m below meth c A ls hr S hw hl
  have S : hx_S p l s m _ meth c cX1_rounded 2 wsX1_rounded RX1 A D tys := S
  obtain ⟨⟨hx, hb, hml, hown, hts⟩, hK, hA, hE, hlk⟩ := id S
  have hl : lv_has ls 2 [(0, .long (lN n))] := hl
  refine lv_ldc2 (v := lN 8) hx hb hown (hts (.constantLong RX1 72 (lN 8)) (by decide +kernel)) dX1_rounded_0 ?_
  refine lv_lload_n hx hb dX1_rounded_3 rfl (lv_at hl 0 rfl) ?_
  refine lv_ldc2 (v := lN 7) hx hb hown (hts (.constantLong RX1 74 (lN 7)) (by decide +kernel)) dX1_rounded_4 ?_
  refine hn_ladd (v := lN (n + 7)) hx hb dX1_rounded_7 (lN_add _ _) ?_
  refine lv_ldc2 (v := (-8)) hx hb hown (hts (.constantLong RX1 76 (-8)) (by decide +kernel)) dX1_rounded_8 ?_
  refine hn_land (v := lN ((n + 7) / 8 * 8)) hx hb dX1_rounded_11 (hp_and8 (by omega)) ?_
  refine va_mmax_long hx hb (hml.trans hl.1.symm) hown (hts (.methodLink RX1 78 Lib.MathLoose.max_long.x) (by decide +kernel)) (hts (.static Lib.MathLoose.max_long.x) (by decide +kernel)) (hts (.initialized "java/lang/Math") (by decide +kernel)) (hts (.code Lib.MathLoose.max_long.x Lib.MathLoose.max_long.code 4 (some .long)) (by decide +kernel)) (by decide) (Nat.le_of_ble_eq_true rfl) (by decide) (by decide) dX1_rounded_12 ?_
  rw [hp_max (by omega), hp_up]
  exact hx_lret S hr hw dX1_rounded_15
set_option maxHeartbeats 4000000 in
set_option maxRecDepth 100000 in
theorem c_size (l : Launch) (hst : l.stackTraces = false) (D : va_G) (tys : List (ClassId × FieldType)) (cJ : ClassId) (ht : tys[0]? = some (cJ, .long)) (h0 h1 h2 : Nat) (u : ph_H) (a : Nat) (ha : ph_i4 a) : hx_R l D tys yX1_size wsX1_size 8 129 [.ref h0, .long (lN a)] (hc_W cJ h0 h1 h2 u) (hc_W cJ h0 h1 h2 u) (some (.long (lN (ph_n u.1 a)))) := by
  refine hx_R.ofW (cc := cX1_size) (maxL := 3) (ret := (some .long)) (by decide) rfl (Nat.le_of_ble_eq_true rfl) ?_
  intro p e s m below meth c A ls hr S hw hl
  have S : hx_S p l s m _ meth c cX1_size 3 wsX1_size RX1 A D tys := S
  obtain ⟨⟨hx, hb, hml, hown, hts⟩, hK, hA, hE, hlk⟩ := id S
  have hi1 : ∀ w ∈ wsX10, w ∈ wsX1_size := by decide +kernel
  have hl : lv_has ls 3 [(0, .ref h0), (1, .long (lN a))] := hl
  refine lv_aload_n hx hb dX1_size_0 rfl (lv_at hl 0 rfl) ?_
  refine va_get (D := D) (ci := 1) (v := .ref h1) (C := RX1) (T := TX1) (N := 3) hx hb hts hi1 hown hK hw.1 0 rfl rfl 0 (by decide) (hts (.fieldLink RX1 12 "HeapRow" "memory" "LHeapRow$Memory;") (by decide +kernel)) (fun _ h9 => h9) rfl dX1_size_1 ?_
  refine lv_lload_n hx hb dX1_size_4 rfl (lv_at hl 1 rfl) ?_
  refine hx_callV (rest := []) (n := 1) S hw (c_readNumber l hst D tys cJ ht h0 h1 h2 u a ha) gX1_size_X0_readNumber rfl (by decide +kernel) rfl ⟨Nat.le_of_ble_eq_true rfl, Nat.le_of_ble_eq_true rfl⟩ 1 0 rfl rfl hc_adr hl.1 rfl (Nat.le_of_ble_eq_true rfl) ⟨by decide, by decide⟩ dX1_size_5 (fun H locs hw => ?_)
  refine W.eq (g2 := F0 m 8 ls [.long (lN (ph_n u.1 a))]) rfl ?_
  exact hx_lret S hr hw dX1_size_8
set_option maxHeartbeats 4000000 in
set_option maxRecDepth 100000 in
theorem c_next (l : Launch) (hst : l.stackTraces = false) (D : va_G) (tys : List (ClassId × FieldType)) (cJ : ClassId) (ht : tys[0]? = some (cJ, .long)) (h0 h1 h2 : Nat) (u : ph_H) (a : Nat) (ha : ph_i4 a) : hx_R l D tys yX1_next wsX1_next 8 129 [.ref h0, .long (lN a)] (hc_W cJ h0 h1 h2 u) (hc_W cJ h0 h1 h2 u) (some (.long (lN (a + 8 + ph_n u.1 a)))) := by
  refine hx_R.ofW (cc := cX1_next) (maxL := 3) (ret := (some .long)) (by decide) rfl (Nat.le_of_ble_eq_true rfl) ?_
  intro p e s m below meth c A ls hr S hw hl
  have S : hx_S p l s m _ meth c cX1_next 3 wsX1_next RX1 A D tys := S
  obtain ⟨⟨hx, hb, hml, hown, hts⟩, hK, hA, hE, hlk⟩ := id S
  have hi1 : ∀ w ∈ wsX10, w ∈ wsX1_next := by decide +kernel
  have hl : lv_has ls 3 [(0, .ref h0), (1, .long (lN a))] := hl
  refine lv_lload_n hx hb dX1_next_0 rfl (lv_at hl 1 rfl) ?_
  refine lv_ldc2 (v := lN 8) hx hb hown (hts (.constantLong RX1 72 (lN 8)) (by decide +kernel)) dX1_next_1 ?_
  refine hn_ladd (v := lN (a + 8)) hx hb dX1_next_4 (lN_add _ _) ?_
  refine lv_aload_n hx hb dX1_next_5 rfl (lv_at hl 0 rfl) ?_
  refine va_get (D := D) (ci := 1) (v := .ref h1) (C := RX1) (T := TX1) (N := 3) hx hb hts hi1 hown hK hw.1 0 rfl rfl 0 (by decide) (hts (.fieldLink RX1 12 "HeapRow" "memory" "LHeapRow$Memory;") (by decide +kernel)) (fun _ h9 => h9) rfl dX1_next_6 ?_
  refine lv_lload_n hx hb dX1_next_9 rfl (lv_at hl 1 rfl) ?_
  refine hx_callV (rest := [.long (lN (a + 8))]) (n := 1) S hw (c_readNumber l hst D tys cJ ht h0 h1 h2 u a ha) gX1_next_X0_readNumber rfl (by decide +kernel) rfl ⟨Nat.le_of_ble_eq_true rfl, Nat.le_of_ble_eq_true rfl⟩ 1 0 rfl rfl hc_adr hl.1 rfl (Nat.le_of_ble_eq_true rfl) ⟨by decide, by decide⟩ dX1_next_10 (fun H locs hw => ?_)
  refine W.eq (g2 := F0 m 13 ls [.long (lN (ph_n u.1 a)), .long (lN (a + 8))]) rfl ?_
  refine hn_ladd (v := lN ((a + 8) + (ph_n u.1 a))) hx hb dX1_next_13 (lN_add _ _) ?_
  exact hx_lret S hr hw dX1_next_14
set_option maxHeartbeats 4000000 in
set_option maxRecDepth 100000 in
theorem c_isTaken (l : Launch) (hst : l.stackTraces = false) (D : va_G) (tys : List (ClassId × FieldType)) (cJ : ClassId) (ht : tys[0]? = some (cJ, .long)) (h0 h1 h2 : Nat) (u : ph_H) (a : Nat) (ha : ph_i4 (a + 4)) : hx_R l D tys yX1_isTaken wsX1_isTaken 8 129 [.ref h0, .long (lN a)] (hc_W cJ h0 h1 h2 u) (hc_W cJ h0 h1 h2 u) (some (.int (if ph_n u.1 (a + 4) = 1 then nI 1 else nI 0))) := by
  refine hx_R.ofW (cc := cX1_isTaken) (maxL := 3) (ret := (some .boolean)) (by decide) rfl (Nat.le_of_ble_eq_true rfl) ?_
  intro p e s m below meth c A ls hr S hw hl
  have S : hx_S p l s m _ meth c cX1_isTaken 3 wsX1_isTaken RX1 A D tys := S
  obtain ⟨⟨hx, hb, hml, hown, hts⟩, hK, hA, hE, hlk⟩ := id S
  have hi1 : ∀ w ∈ wsX10, w ∈ wsX1_isTaken := by decide +kernel
  have hl : lv_has ls 3 [(0, .ref h0), (1, .long (lN a))] := hl
  have hn := ph_n_lt u.1 (a + 4)
  refine lv_aload_n hx hb dX1_isTaken_0 rfl (lv_at hl 0 rfl) ?_
  refine va_get (D := D) (ci := 1) (v := .ref h1) (C := RX1) (T := TX1) (N := 3) hx hb hts hi1 hown hK hw.1 0 rfl rfl 0 (by decide) (hts (.fieldLink RX1 12 "HeapRow" "memory" "LHeapRow$Memory;") (by decide +kernel)) (fun _ h9 => h9) rfl dX1_isTaken_1 ?_
  refine lv_lload_n hx hb dX1_isTaken_4 rfl (lv_at hl 1 rfl) ?_
  refine lv_ldc2 (v := lN 4) hx hb hown (hts (.constantLong RX1 123 (lN 4)) (by decide +kernel)) dX1_isTaken_5 ?_
  refine hn_ladd (v := lN (a + 4)) hx hb dX1_isTaken_8 (lN_add _ _) ?_
  refine hx_callV (rest := []) (n := 1) S hw (c_readNumber l hst D tys cJ ht h0 h1 h2 u (a + 4) ha) gX1_isTaken_X0_readNumber rfl (by decide +kernel) rfl ⟨Nat.le_of_ble_eq_true rfl, Nat.le_of_ble_eq_true rfl⟩ 1 0 rfl rfl hc_adr hl.1 rfl (Nat.le_of_ble_eq_true rfl) ⟨by decide, by decide⟩ dX1_isTaken_9 (fun H locs hw => ?_)
  refine W.eq (g2 := F0 m 12 ls [.long (lN (ph_n u.1 (a + 4)))]) rfl ?_
  refine lv_lconst (v := lN 1) hx hb dX1_isTaken_12 (by decide +kernel) ?_
  refine hn_lne (a := (ph_n u.1 (a + 4))) (b := 1) (tgt := 21) hx hb (by omega) (by omega) dX1_isTaken_13 dX1_isTaken_14 (by decide) (fun hc => ?_) (fun hc => ?_)
  · refine lv_iconst (v := nI 0) hx hb dX1_isTaken_21 (by decide +kernel) ?_
    rw [if_neg hc]
    exact hx_zret S hr rfl hw dX1_isTaken_22
  · refine lv_iconst (v := nI 1) hx hb dX1_isTaken_17 (by decide +kernel) ?_
    refine lv_goto (tgt := 22) hx hb dX1_isTaken_18 (by decide) ?_
    rw [if_pos hc]
    exact hx_zret S hr rfl hw dX1_isTaken_22
set_option maxHeartbeats 4000000 in
set_option maxRecDepth 100000 in
theorem c_writeHeader (l : Launch) (hst : l.stackTraces = false) (D : va_G) (tys : List (ClassId × FieldType)) (cJ : ClassId) (ht : tys[0]? = some (cJ, .long)) (h0 h1 h2 : Nat) (u : ph_H) (a n k : Nat) (hn : n < 9223372036854775808) (hk : k < 256) (h : (ph_wh u.1 a n k).1 = true) : hx_R l D tys yX1_writeHeader wsX1_writeHeader 8 133 [.ref h0, .long (lN a), .long (lN n), .int (nI k)] (hc_W cJ h0 h1 h2 u) (hc_W cJ h0 h1 h2 ((ph_wh u.1 a n k).2, u.2)) (none) := by
  refine hx_R.ofW (cc := cX1_writeHeader) (maxL := 6) (ret := none) (by decide) rfl (Nat.le_of_ble_eq_true rfl) ?_
  intro p e s m below meth c A ls hr S hw hl
  have S : hx_S p l s m _ meth c cX1_writeHeader 6 wsX1_writeHeader RX1 A D tys := S
  obtain ⟨⟨hx, hb, hml, hown, hts⟩, hK, hA, hE, hlk⟩ := id S
  have hi1 : ∀ w ∈ wsX10, w ∈ wsX1_writeHeader := by decide +kernel
  have hl : lv_has ls 6 [(0, .ref h0), (1, .long (lN a)), (3, .long (lN n)), (5, .int (nI k))] := hl
  obtain ⟨g1, g2, g3⟩ := ph_wh_t h
  rw [g3]
  refine lv_aload_n hx hb dX1_writeHeader_0 rfl (lv_at hl 0 rfl) ?_
  refine va_get (D := D) (ci := 1) (v := .ref h1) (C := RX1) (T := TX1) (N := 3) hx hb hts hi1 hown hK hw.1 0 rfl rfl 0 (by decide) (hts (.fieldLink RX1 12 "HeapRow" "memory" "LHeapRow$Memory;") (by decide +kernel)) (fun _ h9 => h9) rfl dX1_writeHeader_1 ?_
  refine lv_lload_n hx hb dX1_writeHeader_4 rfl (lv_at hl 1 rfl) ?_
  refine lv_lload_n hx hb dX1_writeHeader_5 rfl (lv_at hl 2 rfl) ?_
  refine hx_callV (rest := []) (n := 2) S hw (c_writeNumber l hst D tys cJ ht h0 h1 h2 u a n (by omega) g1) gX1_writeHeader_X0_writeNumber rfl (by decide +kernel) rfl ⟨Nat.le_of_ble_eq_true rfl, Nat.le_of_ble_eq_true rfl⟩ 1 0 rfl rfl hc_adr hl.1 rfl (Nat.le_of_ble_eq_true rfl) ⟨by decide, by decide⟩ dX1_writeHeader_6 (fun H locs hw => ?_)
  refine W.eq (g2 := F0 m 9 ls []) rfl ?_
  refine lv_aload_n hx hb dX1_writeHeader_9 rfl (lv_at hl 0 rfl) ?_
  refine va_get (D := D) (ci := 1) (v := .ref h1) (C := RX1) (T := TX1) (N := 3) hx hb hts hi1 hown hK hw.1 0 rfl rfl 0 (by decide) (hts (.fieldLink RX1 12 "HeapRow" "memory" "LHeapRow$Memory;") (by decide +kernel)) (fun _ h9 => h9) rfl dX1_writeHeader_10 ?_
  refine lv_lload_n hx hb dX1_writeHeader_13 rfl (lv_at hl 1 rfl) ?_
  refine lv_ldc2 (v := lN 4) hx hb hown (hts (.constantLong RX1 123 (lN 4)) (by decide +kernel)) dX1_writeHeader_14 ?_
  refine hn_ladd (v := lN (a + 4)) hx hb dX1_writeHeader_17 (lN_add _ _) ?_
  refine lv_iload hx hb dX1_writeHeader_18 (lv_at hl 3 rfl) ?_
  refine lv_i2l (v := lN k) hx hb dX1_writeHeader_20 (nI_l (by omega)) ?_
  refine hx_callV (rest := []) (n := 2) S hw (c_writeNumber l hst D tys cJ ht h0 h1 h2 (ph_sn u.1 a n, u.2) (a + 4) k (by omega) g2) gX1_writeHeader_X0_writeNumber rfl (by decide +kernel) rfl ⟨Nat.le_of_ble_eq_true rfl, Nat.le_of_ble_eq_true rfl⟩ 1 0 rfl rfl hc_adr hl.1 rfl (Nat.le_of_ble_eq_true rfl) ⟨by decide, by decide⟩ dX1_writeHeader_21 (fun H locs hw => ?_)
  refine W.eq (g2 := F0 m 24 ls []) rfl ?_
  exact hx_vret S hr hw dX1_writeHeader_24
set_option maxHeartbeats 4000000 in
set_option maxRecDepth 100000 in
theorem x_writeHeader (l : Launch) (hst : l.stackTraces = false) (D : va_G) (tys : List (ClassId × FieldType)) (cJ : ClassId) (ht : tys[0]? = some (cJ, .long)) (h0 h1 h2 : Nat) (u : ph_H) (a n k : Nat) (ha : a < 1152921504606846976) (hn : n < 9223372036854775808) (hk : k < 256) (h : ¬ (ph_wh u.1 a n k).1 = true) : hx_X l D tys yX1_writeHeader wsX1_writeHeader 8 133 [.ref h0, .long (lN a), .long (lN n), .int (nI k)] (hc_W cJ h0 h1 h2 u) (hc_W cJ h0 h1 h2 ((ph_wh u.1 a n k).2, u.2)) := by
  refine hx_X.ofW (cc := cX1_writeHeader) (maxL := 6) (ret := none) (by decide) rfl (Nat.le_of_ble_eq_true rfl) ?_
  intro p e s m below meth c A ls hr S hno hw hl
  have S : hx_S p l s m _ meth c cX1_writeHeader 6 wsX1_writeHeader RX1 A D tys := S
  obtain ⟨⟨hx, hb, hml, hown, hts⟩, hK, hA, hE, hlk⟩ := id S
  have hi1 : ∀ w ∈ wsX10, w ∈ wsX1_writeHeader := by decide +kernel
  have hl : lv_has ls 6 [(0, .ref h0), (1, .long (lN a)), (3, .long (lN n)), (5, .int (nI k))] := hl
  rcases ph_wh_f h with ⟨g1, g3⟩ | ⟨g1, g2, g3⟩
  · rw [g3]
    refine lv_aload_n hx hb dX1_writeHeader_0 rfl (lv_at hl 0 rfl) ?_
    refine va_get (D := D) (ci := 1) (v := .ref h1) (C := RX1) (T := TX1) (N := 3) hx hb hts hi1 hown hK hw.1 0 rfl rfl 0 (by decide) (hts (.fieldLink RX1 12 "HeapRow" "memory" "LHeapRow$Memory;") (by decide +kernel)) (fun _ h9 => h9) rfl dX1_writeHeader_1 ?_
    refine lv_lload_n hx hb dX1_writeHeader_4 rfl (lv_at hl 1 rfl) ?_
    refine lv_lload_n hx hb dX1_writeHeader_5 rfl (lv_at hl 2 rfl) ?_
    exact hx_thr (rest := []) (n := 2) S hno hw (x_writeNumber l hst D tys cJ ht h0 h1 h2 u a (lN n) (by omega) g1) gX1_writeHeader_X0_writeNumber rfl (by decide +kernel) rfl ⟨Nat.le_of_ble_eq_true rfl, Nat.le_of_ble_eq_true rfl⟩ 1 0 rfl rfl hc_adr hl.1 rfl (Nat.le_of_ble_eq_true rfl) ⟨by decide, by decide⟩ dX1_writeHeader_6
  · rw [g3]
    refine lv_aload_n hx hb dX1_writeHeader_0 rfl (lv_at hl 0 rfl) ?_
    refine va_get (D := D) (ci := 1) (v := .ref h1) (C := RX1) (T := TX1) (N := 3) hx hb hts hi1 hown hK hw.1 0 rfl rfl 0 (by decide) (hts (.fieldLink RX1 12 "HeapRow" "memory" "LHeapRow$Memory;") (by decide +kernel)) (fun _ h9 => h9) rfl dX1_writeHeader_1 ?_
    refine lv_lload_n hx hb dX1_writeHeader_4 rfl (lv_at hl 1 rfl) ?_
    refine lv_lload_n hx hb dX1_writeHeader_5 rfl (lv_at hl 2 rfl) ?_
    refine hx_callV (rest := []) (n := 2) S hw (c_writeNumber l hst D tys cJ ht h0 h1 h2 u a n (by omega) g1) gX1_writeHeader_X0_writeNumber rfl (by decide +kernel) rfl ⟨Nat.le_of_ble_eq_true rfl, Nat.le_of_ble_eq_true rfl⟩ 1 0 rfl rfl hc_adr hl.1 rfl (Nat.le_of_ble_eq_true rfl) ⟨by decide, by decide⟩ dX1_writeHeader_6 (fun H locs hw => ?_)
    refine W.eq (g2 := F0 m 9 ls []) rfl ?_
    refine lv_aload_n hx hb dX1_writeHeader_9 rfl (lv_at hl 0 rfl) ?_
    refine va_get (D := D) (ci := 1) (v := .ref h1) (C := RX1) (T := TX1) (N := 3) hx hb hts hi1 hown hK hw.1 0 rfl rfl 0 (by decide) (hts (.fieldLink RX1 12 "HeapRow" "memory" "LHeapRow$Memory;") (by decide +kernel)) (fun _ h9 => h9) rfl dX1_writeHeader_10 ?_
    refine lv_lload_n hx hb dX1_writeHeader_13 rfl (lv_at hl 1 rfl) ?_
    refine lv_ldc2 (v := lN 4) hx hb hown (hts (.constantLong RX1 123 (lN 4)) (by decide +kernel)) dX1_writeHeader_14 ?_
    refine hn_ladd (v := lN (a + 4)) hx hb dX1_writeHeader_17 (lN_add _ _) ?_
    refine lv_iload hx hb dX1_writeHeader_18 (lv_at hl 3 rfl) ?_
    refine lv_i2l (v := lN k) hx hb dX1_writeHeader_20 (nI_l (by omega)) ?_
    exact hx_thr (rest := []) (n := 2) S hno hw (x_writeNumber l hst D tys cJ ht h0 h1 h2 (ph_sn u.1 a n, u.2) (a + 4) (lN k) (by omega) g2) gX1_writeHeader_X0_writeNumber rfl (by decide +kernel) rfl ⟨Nat.le_of_ble_eq_true rfl, Nat.le_of_ble_eq_true rfl⟩ 1 0 rfl rfl hc_adr hl.1 rfl (Nat.le_of_ble_eq_true rfl) ⟨by decide, by decide⟩ dX1_writeHeader_21
