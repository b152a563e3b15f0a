/-! HeapRow.Memory: the bytes of the class's side -/
/-- the class's cells: the object, its memory, the words -/
abbrev hc_W (cJ : ClassId) (h0 h1 h2 : Nat) (u : ph_H) : va_W := [(h0, .inr (1, [.ref h1, .long (lN u.2.1), .long (lN u.2.2)])), (h1, .inr (0, [.ref h2])), (h2, .inl (cJ, 8064, .inr (.inl (pw_w u.1))))]
theorem hc_adr {cJ : ClassId} {h0 h1 h2 : Nat} {u u2 : ph_H} : (hc_W cJ h0 h1 h2 u2).map (fun q => q.1) = (hc_W cJ h0 h1 h2 u).map (fun q => q.1) := by show [h0, h1, h2] = [h0, h1, h2]; rfl
set_option maxHeartbeats 4000000 in
set_option maxRecDepth 100000 in
theorem c_has (l : Launch) (hst : l.stackTraces = false) (D : va_G) (tys : List (ClassId × FieldType)) (cJ : ClassId) (ht : tys[0]? = some (cJ, .long)) (h0 h1 h2 : Nat) (u : ph_H) (a : Nat) (ha : a < 9223372036854775808) : hx_R l D tys yX0_has wsX0_has 0 0 [.ref h1, .long (lN a)] (hc_W cJ h0 h1 h2 u) (hc_W cJ h0 h1 h2 u) (some (.int (if ph_in a then nI 1 else nI 0))) := by
  refine hx_R.ofW (cc := cX0_has) (maxL := 3) (ret := (some .boolean)) (by decide) rfl (Nat.le_of_ble_eq_true rfl) ?_
  intro p e s m below meth c A ls hr S hw hl
  have S : hx_S p l s m _ meth c cX0_has 3 wsX0_has RX0 A D tys := S
  obtain ⟨⟨hx, hb, hml, hown, hts⟩, hK, hA, hE, hlk⟩ := id S
  have hl : lv_has ls 3 [(0, .ref h1), (1, .long (lN a))] := hl
  refine lv_lload_n hx hb dX0_has_0 rfl (lv_at hl 1 rfl) ?_
  refine lv_ldc2 (v := lN 1024) hx hb hown (hts (.constantLong RX0 15 (lN 1024)) (by decide +kernel)) dX0_has_1 ?_
  refine hn_llt (a := a) (b := 1024) (tgt := 20) hx hb (by omega) (by omega) dX0_has_4 dX0_has_5 (by decide) (fun hc => ?_) (fun hc => ?_)
  · refine lv_iconst (v := nI 0) hx hb dX0_has_20 (by decide +kernel) ?_
    rw [if_neg (show ¬ ph_in a from by omega)]
    exact hx_zret S hr rfl hw dX0_has_21
  · refine lv_lload_n hx hb dX0_has_8 rfl (lv_at hl 1 rfl) ?_
    refine lv_ldc2 (v := lN 65536) hx hb hown (hts (.constantLong RX0 17 (lN 65536)) (by decide +kernel)) dX0_has_9 ?_
    refine hn_lge (a := a) (b := 65536) (tgt := 20) hx hb (by omega) (by omega) dX0_has_12 dX0_has_13 (by decide) (fun hc2 => ?_) (fun hc2 => ?_)
    · refine lv_iconst (v := nI 0) hx hb dX0_has_20 (by decide +kernel) ?_
      rw [if_neg (show ¬ ph_in a from by omega)]
      exact hx_zret S hr rfl hw dX0_has_21
    · refine lv_iconst (v := nI 1) hx hb dX0_has_16 (by decide +kernel) ?_
      refine lv_goto (tgt := 21) hx hb dX0_has_17 (by decide) ?_
      rw [if_pos (show ph_in a from by omega)]
      exact hx_zret S hr rfl hw dX0_has_21
set_option maxHeartbeats 4000000 in
set_option maxRecDepth 100000 in
theorem c_wordOf (l : Launch) (hst : l.stackTraces = false) (D : va_G) (tys : List (ClassId × FieldType)) (cJ : ClassId) (ht : tys[0]? = some (cJ, .long)) (h0 h1 h2 : Nat) (u : ph_H) (a : Nat) (ha : ph_in a) : hx_R l D tys yX0_wordOf wsX0_wordOf 0 0 [.long (lN a)] (hc_W cJ h0 h1 h2 u) (hc_W cJ h0 h1 h2 u) (some (.int (nI ((a - 1024) / 8)))) := by
  refine hx_R.ofW (cc := cX0_wordOf) (maxL := 2) (ret := (some .int)) (by decide) rfl (Nat.le_of_ble_eq_true rfl) ?_
  intro p e s m below meth c A ls hr S hw hl
  have S : hx_S p l s m _ meth c cX0_wordOf 2 wsX0_wordOf RX0 A D tys := S
  obtain ⟨⟨hx, hb, hml, hown, hts⟩, hK, hA, hE, hlk⟩ := id S
  have hl : lv_has ls 2 [(0, .long (lN a))] := hl
  refine lv_lload_n hx hb dX0_wordOf_0 rfl (lv_at hl 0 rfl) ?_
  refine lv_ldc2 (v := lN 1024) hx hb hown (hts (.constantLong RX0 15 (lN 1024)) (by decide +kernel)) dX0_wordOf_1 ?_
  refine hn_lsub (v := lN (a - 1024)) hx hb dX0_wordOf_4 (lN_sub (by omega)) ?_
  refine lv_l2i (v := nI (a - 1024)) hx hb dX0_wordOf_5 (lN_i _) ?_
  refine lv_bipush (v := nI 8) hx hb dX0_wordOf_6 (by decide +kernel) ?_
  refine hn_idiv (v := nI ((a - 1024) / 8)) hx hb dX0_wordOf_8 (by decide +kernel) (pk_div (by omega) (by decide) (by decide)) ?_
  exact hx_iret S hr hw dX0_wordOf_9
set_option maxHeartbeats 4000000 in
set_option maxRecDepth 100000 in
theorem c_shiftOf (l : Launch) (hst : l.stackTraces = false) (D : va_G) (tys : List (ClassId × FieldType)) (cJ : ClassId) (ht : tys[0]? = some (cJ, .long)) (h0 h1 h2 : Nat) (u : ph_H) (a : Nat) (ha : ph_in a) : hx_R l D tys yX0_shiftOf wsX0_shiftOf 0 0 [.long (lN a)] (hc_W cJ h0 h1 h2 u) (hc_W cJ h0 h1 h2 u) (some (.int (nI ((a - 1024) % 8 * 8)))) := by
  refine hx_R.ofW (cc := cX0_shiftOf) (maxL := 2) (ret := (some .int)) (by decide) rfl (Nat.le_of_ble_eq_true rfl) ?_
  intro p e s m below meth c A ls hr S hw hl
  have S : hx_S p l s m _ meth c cX0_shiftOf 2 wsX0_shiftOf RX0 A D tys := S
  obtain ⟨⟨hx, hb, hml, hown, hts⟩, hK, hA, hE, hlk⟩ := id S
  have hl : lv_has ls 2 [(0, .long (lN a))] := hl
  refine lv_lload_n hx hb dX0_shiftOf_0 rfl (lv_at hl 0 rfl) ?_
  refine lv_ldc2 (v := lN 1024) hx hb hown (hts (.constantLong RX0 15 (lN 1024)) (by decide +kernel)) dX0_shiftOf_1 ?_
  refine hn_lsub (v := lN (a - 1024)) hx hb dX0_shiftOf_4 (lN_sub (by omega)) ?_
  refine lv_l2i (v := nI (a - 1024)) hx hb dX0_shiftOf_5 (lN_i _) ?_
  refine lv_bipush (v := nI 8) hx hb dX0_shiftOf_6 (by decide +kernel) ?_
  refine hn_irem (v := nI ((a - 1024) % 8)) hx hb dX0_shiftOf_8 (by decide +kernel) (pk_rem (by omega) (by decide) (by decide)) ?_
  refine lv_bipush (v := nI 8) hx hb dX0_shiftOf_9 (by decide +kernel) ?_
  refine hn_imul (v := nI (((a - 1024) % 8) * 8)) hx hb dX0_shiftOf_11 (pk_mul _ _) ?_
  exact hx_iret S hr hw dX0_shiftOf_12
set_option maxHeartbeats 4000000 in
set_option maxRecDepth 100000 in
theorem c_read (l : Launch) (hst : l.stackTraces = false) (D : va_G) (tys : List (ClassId × FieldType)) (cJ : ClassId) (ht : tys[0]? = some (cJ, .long)) (h0 h1 h2 : Nat) (u : ph_H) (a : Nat) (ha : ph_in a) : hx_R l D tys yX0_read wsX0_read 6 82 [.ref h1, .long (lN a)] (hc_W cJ h0 h1 h2 u) (hc_W cJ h0 h1 h2 u) (some (.int (nI (ph_b u.1 a)))) := by
  refine hx_R.ofW (cc := cX0_read) (maxL := 3) (ret := (some .int)) (by decide) rfl (Nat.le_of_ble_eq_true rfl) ?_
  intro p e s m below meth c A ls hr S hw hl
  have S : hx_S p l s m _ meth c cX0_read 3 wsX0_read RX0 A D tys := S
  obtain ⟨⟨hx, hb, hml, hown, hts⟩, hK, hA, hE, hlk⟩ := id S
  have hi0 : ∀ w ∈ wsX00, w ∈ wsX0_read := by decide +kernel
  have hl : lv_has ls 3 [(0, .ref h1), (1, .long (lN a))] := hl
  refine lv_aload_n hx hb dX0_read_0 rfl (lv_at hl 0 rfl) ?_
  refine lv_lload_n hx hb dX0_read_1 rfl (lv_at hl 1 rfl) ?_
  refine hx_callV (rest := []) (n := 1) S hw (c_has l hst D tys cJ ht h0 h1 h2 u (a) (by omega)) gX0_read_X0_has rfl (by decide +kernel) rfl ⟨Nat.le_of_ble_eq_true rfl, Nat.le_of_ble_eq_true rfl⟩ 1 0 rfl rfl hc_adr hl.1 rfl (Nat.le_of_ble_eq_true rfl) ⟨by decide, by decide⟩ dX0_read_2 (fun H locs hw => ?_)
  refine W.eq (g2 := F0 m 5 ls [.int (if ph_in (a) then nI 1 else nI 0)]) rfl ?_
  refine hn_pne (tgt := 18) hx hb dX0_read_5 (by decide) (fun hc => ?_) (fun hc => ?_)
  · refine lv_aload_n hx hb dX0_read_18 rfl (lv_at hl 0 rfl) ?_
    refine va_get (D := D) (ci := 0) (v := .ref h2) (C := RX0) (T := TX0) (N := 1) hx hb hts hi0 hown hK hw.1 1 rfl rfl 0 (by decide) (hts (.fieldLink RX0 11 "HeapRow$Memory" "words" "[J") (by decide +kernel)) (fun _ h9 => h9) rfl dX0_read_19 ?_
    refine lv_lload_n hx hb dX0_read_22 rfl (lv_at hl 1 rfl) ?_
    refine hx_callS (rest := [.ref h2]) (n := 1) S hw (c_wordOf l hst D tys cJ ht h0 h1 h2 u a ha) gX0_read_X0_wordOf rfl (by decide +kernel) rfl ⟨Nat.le_of_ble_eq_true rfl, Nat.le_of_ble_eq_true rfl⟩ hc_adr hl.1 rfl (Nat.le_of_ble_eq_true rfl) ⟨by decide, by decide⟩ dX0_read_23 (fun H locs hw => ?_)
    refine W.eq (g2 := F0 m 26 ls [.int (nI ((a - 1024) / 8)), .ref h2]) rfl ?_
    refine hn_lald hx hb hK hw.1 2 0 rfl ht (k := (a - 1024) / 8) (by omega) (by decide) dX0_read_26 ?_
    refine lv_lload_n hx hb dX0_read_27 rfl (lv_at hl 1 rfl) ?_
    refine hx_callS (rest := [.long (pw_w u.1 ((a - 1024) / 8))]) (n := 1) S hw (c_shiftOf l hst D tys cJ ht h0 h1 h2 u a ha) gX0_read_X0_shiftOf rfl (by decide +kernel) rfl ⟨Nat.le_of_ble_eq_true rfl, Nat.le_of_ble_eq_true rfl⟩ hc_adr hl.1 rfl (Nat.le_of_ble_eq_true rfl) ⟨by decide, by decide⟩ dX0_read_28 (fun H locs hw => ?_)
    refine W.eq (g2 := F0 m 31 ls [.int (nI ((a - 1024) % 8 * 8)), .long (pw_w u.1 ((a - 1024) / 8))]) rfl ?_
    refine lv_lushr (v := ((pw_w u.1 ((a - 1024) / 8)).toUInt64 >>> ((nI ((a - 1024) % 8 * 8)).toInt64.toUInt64 &&& Int64.toUInt64 63)).toInt64) hx hb dX0_read_31 rfl ?_
    refine lv_l2i (v := (((pw_w u.1 ((a - 1024) / 8)).toUInt64 >>> ((nI ((a - 1024) % 8 * 8)).toInt64.toUInt64 &&& Int64.toUInt64 63)).toInt64).toInt32) hx hb dX0_read_32 rfl ?_
    refine lv_sipush (v := nI 255) hx hb dX0_read_33 (by decide +kernel) ?_
    refine hn_iand (v := nI (ph_b u.1 a)) hx hb dX0_read_36 (pw_read u.1 a ha.1) ?_
    exact hx_iret S hr hw dX0_read_37
  · exact absurd ha hc
set_option maxHeartbeats 4000000 in
set_option maxRecDepth 100000 in
theorem x_read (l : Launch) (hst : l.stackTraces = false) (D : va_G) (tys : List (ClassId × FieldType)) (cJ : ClassId) (ht : tys[0]? = some (cJ, .long)) (h0 h1 h2 : Nat) (u : ph_H) (a : Nat) (hb63 : a < 9223372036854775808) (ha : ¬ ph_in a) : hx_X l D tys yX0_read wsX0_read 6 82 [.ref h1, .long (lN a)] (hc_W cJ h0 h1 h2 u) (hc_W cJ h0 h1 h2 u) := by
  refine hx_X.ofW (cc := cX0_read) (maxL := 3) (ret := (some .int)) (by decide) rfl (Nat.le_of_ble_eq_true rfl) ?_
  intro p e s m below meth c A ls hr S hno hw hl
  have S : hx_S p l s m _ meth c cX0_read 3 wsX0_read RX0 A D tys := S
  obtain ⟨⟨hx, hb, hml, hown, hts⟩, hK, hA, hE, hlk⟩ := id S
  have hi0 : ∀ w ∈ wsX00, w ∈ wsX0_read := by decide +kernel
  have hl : lv_has ls 3 [(0, .ref h1), (1, .long (lN a))] := hl
  refine lv_aload_n hx hb dX0_read_0 rfl (lv_at hl 0 rfl) ?_
  refine lv_lload_n hx hb dX0_read_1 rfl (lv_at hl 1 rfl) ?_
  refine hx_callV (rest := []) (n := 1) S hw (c_has l hst D tys cJ ht h0 h1 h2 u (a) (by omega)) gX0_read_X0_has rfl (by decide +kernel) rfl ⟨Nat.le_of_ble_eq_true rfl, Nat.le_of_ble_eq_true rfl⟩ 1 0 rfl rfl hc_adr hl.1 rfl (Nat.le_of_ble_eq_true rfl) ⟨by decide, by decide⟩ dX0_read_2 (fun H locs hw => ?_)
  refine W.eq (g2 := F0 m 5 ls [.int (if ph_in (a) then nI 1 else nI 0)]) rfl ?_
  refine hn_pne (tgt := 18) hx hb dX0_read_5 (by decide) (fun hc => ?_) (fun hc => ?_)
  · exact absurd hc ha
  · exact hx_new S hst hno hw hE.2.1 (List.mem_of_getElem? (i := 1) rfl) (List.mem_of_getElem? (i := 2) rfl) (fun w h => List.mem_cons_of_mem _ (List.mem_append_right _ h)) tb_S0 to_S0 hl.1 dX0_read_8 dX0_read_11 dX0_read_12 dX0_read_14 dX0_read_17 ⟨by decide, by decide, by decide, by decide⟩
set_option maxHeartbeats 4000000 in
set_option maxRecDepth 100000 in
theorem c_write (l : Launch) (hst : l.stackTraces = false) (D : va_G) (tys : List (ClassId × FieldType)) (cJ : ClassId) (ht : tys[0]? = some (cJ, .long)) (h0 h1 h2 : Nat) (u : ph_H) (a : Nat) (v : Int64) (ha : ph_in a) : hx_R l D tys yX0_write wsX0_write 6 82 [.ref h1, .long (lN a), .long v] (hc_W cJ h0 h1 h2 u) (hc_W cJ h0 h1 h2 (ph_sb u.1 a v.toBitVec.toNat, u.2)) (none) := by
  refine hx_R.ofW (cc := cX0_write) (maxL := 7) (ret := none) (by decide) rfl (Nat.le_of_ble_eq_true rfl) ?_
  intro p e s m below meth c A ls hr S hw hl
  have S : hx_S p l s m _ meth c cX0_write 7 wsX0_write RX0 A D tys := S
  obtain ⟨⟨hx, hb, hml, hown, hts⟩, hK, hA, hE, hlk⟩ := id S
  have hi0 : ∀ w ∈ wsX00, w ∈ wsX0_write := by decide +kernel
  have hl : lv_has ls 7 [(0, .ref h1), (1, .long (lN a)), (3, .long v)] := hl
  refine lv_aload_n hx hb dX0_write_0 rfl (lv_at hl 0 rfl) ?_
  refine lv_lload_n hx hb dX0_write_1 rfl (lv_at hl 1 rfl) ?_
  refine hx_callV (rest := []) (n := 1) S hw (c_has l hst D tys cJ ht h0 h1 h2 u (a) (by omega)) gX0_write_X0_has rfl (by decide +kernel) rfl ⟨Nat.le_of_ble_eq_true rfl, Nat.le_of_ble_eq_true rfl⟩ 1 0 rfl rfl hc_adr hl.1 rfl (Nat.le_of_ble_eq_true rfl) ⟨by decide, by decide⟩ dX0_write_2 (fun H locs hw => ?_)
  refine W.eq (g2 := F0 m 5 ls [.int (if ph_in (a) then nI 1 else nI 0)]) rfl ?_
  refine hn_pne (tgt := 18) hx hb dX0_write_5 (by decide) (fun hc => ?_) (fun hc => ?_)
  · refine lv_lload_n hx hb dX0_write_18 rfl (lv_at hl 1 rfl) ?_
    refine hx_callS (rest := []) (n := 1) S hw (c_wordOf l hst D tys cJ ht h0 h1 h2 u a ha) gX0_write_X0_wordOf rfl (by decide +kernel) rfl ⟨Nat.le_of_ble_eq_true rfl, Nat.le_of_ble_eq_true rfl⟩ hc_adr hl.1 rfl (Nat.le_of_ble_eq_true rfl) ⟨by decide, by decide⟩ dX0_write_19 (fun H locs hw => ?_)
    refine W.eq (g2 := F0 m 22 ls [.int (nI ((a - 1024) / 8))]) rfl ?_
    refine lv_istore (lv' := [(5, .int (nI ((a - 1024) / 8))), (0, .ref h1), (1, .long (lN a)), (3, .long v)]) hx hb dX0_write_22 hl (by decide) rfl (fun ls hl => ?_)
    refine lv_lload_n hx hb dX0_write_24 rfl (lv_at hl 2 rfl) ?_
    refine hx_callS (rest := []) (n := 1) S hw (c_shiftOf l hst D tys cJ ht h0 h1 h2 u a ha) gX0_write_X0_shiftOf rfl (by decide +kernel) rfl ⟨Nat.le_of_ble_eq_true rfl, Nat.le_of_ble_eq_true rfl⟩ hc_adr hl.1 rfl (Nat.le_of_ble_eq_true rfl) ⟨by decide, by decide⟩ dX0_write_25 (fun H locs hw => ?_)
    refine W.eq (g2 := F0 m 28 ls [.int (nI ((a - 1024) % 8 * 8))]) rfl ?_
    refine lv_istore (lv' := [(6, .int (nI ((a - 1024) % 8 * 8))), (5, .int (nI ((a - 1024) / 8))), (0, .ref h1), (1, .long (lN a)), (3, .long v)]) hx hb dX0_write_28 hl (by decide) rfl (fun ls hl => ?_)
    refine lv_aload_n hx hb dX0_write_30 rfl (lv_at hl 2 rfl) ?_
    refine va_get (D := D) (ci := 0) (v := .ref h2) (C := RX0) (T := TX0) (N := 1) hx hb hts hi0 hown hK hw.1 1 rfl rfl 0 (by decide) (hts (.fieldLink RX0 11 "HeapRow$Memory" "words" "[J") (by decide +kernel)) (fun _ h9 => h9) rfl dX0_write_31 ?_
    refine lv_iload hx hb dX0_write_34 (lv_at hl 1 rfl) ?_
    refine lv_aload_n hx hb dX0_write_36 rfl (lv_at hl 2 rfl) ?_
    refine va_get (D := D) (ci := 0) (v := .ref h2) (C := RX0) (T := TX0) (N := 1) hx hb hts hi0 hown hK hw.1 1 rfl rfl 0 (by decide) (hts (.fieldLink RX0 11 "HeapRow$Memory" "words" "[J") (by decide +kernel)) (fun _ h9 => h9) rfl dX0_write_37 ?_
    refine lv_iload hx hb dX0_write_40 (lv_at hl 1 rfl) ?_
    refine hn_lald hx hb hK hw.1 2 0 rfl ht (k := (a - 1024) / 8) (by omega) (by decide) dX0_write_42 ?_
    refine lv_ldc2 (v := 255) hx hb hown (hts (.constantLong RX0 37 255) (by decide +kernel)) dX0_write_43 ?_
    refine lv_iload hx hb dX0_write_46 (lv_at hl 0 rfl) ?_
    refine lv_lshl (v := (255 : Int64) <<< ((nI ((a - 1024) % 8 * 8)).toInt64 &&& 63)) hx hb dX0_write_48 rfl ?_
    refine lv_ldc2 (v := (-1)) hx hb hown (hts (.constantLong RX0 39 (-1)) (by decide +kernel)) dX0_write_49 ?_
    refine hn_lxor (v := ((255 : Int64) <<< ((nI ((a - 1024) % 8 * 8)).toInt64 &&& 63)) ^^^ (-1)) hx hb dX0_write_52 rfl ?_
    refine hn_land (v := (pw_w u.1 ((a - 1024) / 8)) &&& (((255 : Int64) <<< ((nI ((a - 1024) % 8 * 8)).toInt64 &&& 63)) ^^^ (-1))) hx hb dX0_write_53 rfl ?_
    refine lv_lload_n hx hb dX0_write_54 rfl (lv_at hl 4 rfl) ?_
    refine lv_ldc2 (v := 255) hx hb hown (hts (.constantLong RX0 37 255) (by decide +kernel)) dX0_write_55 ?_
    refine hn_land (v := v &&& 255) hx hb dX0_write_58 rfl ?_
    refine lv_iload hx hb dX0_write_59 (lv_at hl 0 rfl) ?_
    refine lv_lshl (v := (v &&& 255) <<< ((nI ((a - 1024) % 8 * 8)).toInt64 &&& 63)) hx hb dX0_write_61 rfl ?_
    refine hn_lor (v := ((pw_w u.1 ((a - 1024) / 8)) &&& (((255 : Int64) <<< ((nI ((a - 1024) % 8 * 8)).toInt64 &&& 63)) ^^^ (-1))) ||| ((v &&& 255) <<< ((nI ((a - 1024) % 8 * 8)).toInt64 &&& 63))) hx hb dX0_write_62 rfl ?_
    refine hn_last hx hb hK hw 2 0 rfl ht (k := (a - 1024) / 8) (by omega) (by decide) dX0_write_63 (fun H locs hw => ?_)
    have hw : hx_w D A s.heap (hc_W cJ h0 h1 h2 (ph_sb u.1 a v.toBitVec.toNat, u.2)) H locs := by
      show hx_w D A s.heap [(h0, .inr (1, [.ref h1, .long (lN u.2.1), .long (lN u.2.2)])), (h1, .inr (0, [.ref h2])), (h2, .inl (cJ, 8064, .inr (.inl (pw_w (ph_sb u.1 a v.toBitVec.toNat)))))] H locs
      rw [← pw_write u.1 a v ha.1]
      exact hw
    exact hx_vret S hr hw dX0_write_64
  · exact absurd ha hc
set_option maxHeartbeats 4000000 in
set_option maxRecDepth 100000 in
theorem x_write (l : Launch) (hst : l.stackTraces = false) (D : va_G) (tys : List (ClassId × FieldType)) (cJ : ClassId) (ht : tys[0]? = some (cJ, .long)) (h0 h1 h2 : Nat) (u : ph_H) (a : Nat) (v : Int64) (hb63 : a < 9223372036854775808) (ha : ¬ ph_in a) : hx_X l D tys yX0_write wsX0_write 6 82 [.ref h1, .long (lN a), .long v] (hc_W cJ h0 h1 h2 u) (hc_W cJ h0 h1 h2 u) := by
  refine hx_X.ofW (cc := cX0_write) (maxL := 7) (ret := none) (by decide) rfl (Nat.le_of_ble_eq_true rfl) ?_
  intro p e s m below meth c A ls hr S hno hw hl
  have S : hx_S p l s m _ meth c cX0_write 7 wsX0_write RX0 A D tys := S
  obtain ⟨⟨hx, hb, hml, hown, hts⟩, hK, hA, hE, hlk⟩ := id S
  have hi0 : ∀ w ∈ wsX00, w ∈ wsX0_write := by decide +kernel
  have hl : lv_has ls 7 [(0, .ref h1), (1, .long (lN a)), (3, .long v)] := hl
  refine lv_aload_n hx hb dX0_write_0 rfl (lv_at hl 0 rfl) ?_
  refine lv_lload_n hx hb dX0_write_1 rfl (lv_at hl 1 rfl) ?_
  refine hx_callV (rest := []) (n := 1) S hw (c_has l hst D tys cJ ht h0 h1 h2 u (a) (by omega)) gX0_write_X0_has rfl (by decide +kernel) rfl ⟨Nat.le_of_ble_eq_true rfl, Nat.le_of_ble_eq_true rfl⟩ 1 0 rfl rfl hc_adr hl.1 rfl (Nat.le_of_ble_eq_true rfl) ⟨by decide, by decide⟩ dX0_write_2 (fun H locs hw => ?_)
  refine W.eq (g2 := F0 m 5 ls [.int (if ph_in (a) then nI 1 else nI 0)]) rfl ?_
  refine hn_pne (tgt := 18) hx hb dX0_write_5 (by decide) (fun hc => ?_) (fun hc => ?_)
  · exact absurd hc ha
  · exact hx_new S hst hno hw hE.2.1 (List.mem_of_getElem? (i := 1) rfl) (List.mem_of_getElem? (i := 2) rfl) (fun w h => List.mem_cons_of_mem _ (List.mem_append_right _ h)) tb_S0 to_S0 hl.1 dX0_write_8 dX0_write_11 dX0_write_12 dX0_write_14 dX0_write_17 ⟨by decide, by decide, by decide, by decide⟩
theorem c_writeN (l : Launch) (hst : l.stackTraces = false) (D : va_G) (tys : List (ClassId × FieldType)) (cJ : ClassId) (ht : tys[0]? = some (cJ, .long)) (h0 h1 h2 : Nat) (u : ph_H) (a n : Nat) (hn : n < 18446744073709551616) (ha : ph_in a) : hx_R l D tys yX0_write wsX0_write 6 82 [.ref h1, .long (lN a), .long (lN n)] (hc_W cJ h0 h1 h2 u) (hc_W cJ h0 h1 h2 (ph_sb u.1 a n, u.2)) none := by
  have h := c_write l hst D tys cJ ht h0 h1 h2 u a (lN n) ha
  rw [wb_tn hn] at h
  exact h
set_option maxHeartbeats 4000000 in
set_option maxRecDepth 100000 in
theorem c_checkNumber (l : Launch) (hst : l.stackTraces = false) (D : va_G) (tys : List (ClassId × FieldType)) (cJ : ClassId) (ht : tys[0]? = some (cJ, .long)) (h0 h1 h2 : Nat) (u : ph_H) (a : Nat) (ha : ph_i4 a) : hx_R l D tys yX0_checkNumber wsX0_checkNumber 6 82 [.ref h1, .long (lN a)] (hc_W cJ h0 h1 h2 u) (hc_W cJ h0 h1 h2 u) (none) := by
  refine hx_R.ofW (cc := cX0_checkNumber) (maxL := 3) (ret := none) (by decide) rfl (Nat.le_of_ble_eq_true rfl) ?_
  intro p e s m below meth c A ls hr S hw hl
  have S : hx_S p l s m _ meth c cX0_checkNumber 3 wsX0_checkNumber RX0 A D tys := S
  obtain ⟨⟨hx, hb, hml, hown, hts⟩, hK, hA, hE, hlk⟩ := id S
  have hl : lv_has ls 3 [(0, .ref h1), (1, .long (lN a))] := hl
  refine lv_aload_n hx hb dX0_checkNumber_0 rfl (lv_at hl 0 rfl) ?_
  refine lv_lload_n hx hb dX0_checkNumber_1 rfl (lv_at hl 1 rfl) ?_
  refine hx_callV (rest := []) (n := 1) S hw (c_has l hst D tys cJ ht h0 h1 h2 u (a) (by omega)) gX0_checkNumber_X0_has rfl (by decide +kernel) rfl ⟨Nat.le_of_ble_eq_true rfl, Nat.le_of_ble_eq_true rfl⟩ 1 0 rfl rfl hc_adr hl.1 rfl (Nat.le_of_ble_eq_true rfl) ⟨by decide, by decide⟩ dX0_checkNumber_2 (fun H locs hw => ?_)
  refine W.eq (g2 := F0 m 5 ls [.int (if ph_in (a) then nI 1 else nI 0)]) rfl ?_
  refine hn_peq (tgt := 20) hx hb dX0_checkNumber_5 (by decide) (fun hc => ?_) (fun hc => ?_)
  · exact absurd (⟨ha.1, by omega⟩ : ph_in a) hc
  · refine lv_aload_n hx hb dX0_checkNumber_8 rfl (lv_at hl 0 rfl) ?_
    refine lv_lload_n hx hb dX0_checkNumber_9 rfl (lv_at hl 1 rfl) ?_
    refine lv_ldc2 (v := lN 3) hx hb hown (hts (.constantLong RX0 52 (lN 3)) (by decide +kernel)) dX0_checkNumber_10 ?_
    refine hn_ladd (v := lN (a + 3)) hx hb dX0_checkNumber_13 (lN_add _ _) ?_
    refine hx_callV (rest := []) (n := 1) S hw (c_has l hst D tys cJ ht h0 h1 h2 u (a + 3) (by omega)) gX0_checkNumber_X0_has rfl (by decide +kernel) rfl ⟨Nat.le_of_ble_eq_true rfl, Nat.le_of_ble_eq_true rfl⟩ 1 0 rfl rfl hc_adr hl.1 rfl (Nat.le_of_ble_eq_true rfl) ⟨by decide, by decide⟩ dX0_checkNumber_14 (fun H locs hw => ?_)
    refine W.eq (g2 := F0 m 17 ls [.int (if ph_in (a + 3) then nI 1 else nI 0)]) rfl ?_
    refine hn_pne (tgt := 30) hx hb dX0_checkNumber_17 (by decide) (fun hc2 => ?_) (fun hc2 => ?_)
    · exact hx_vret S hr hw dX0_checkNumber_30
    · exact absurd (⟨by omega, ha.2⟩ : ph_in (a + 3)) hc2
set_option maxHeartbeats 4000000 in
set_option maxRecDepth 100000 in
theorem x_checkNumber (l : Launch) (hst : l.stackTraces = false) (D : va_G) (tys : List (ClassId × FieldType)) (cJ : ClassId) (ht : tys[0]? = some (cJ, .long)) (h0 h1 h2 : Nat) (u : ph_H) (a : Nat) (hb63 : a < 4611686018427387904) (ha : ¬ ph_i4 a) : hx_X l D tys yX0_checkNumber wsX0_checkNumber 6 82 [.ref h1, .long (lN a)] (hc_W cJ h0 h1 h2 u) (hc_W cJ h0 h1 h2 u) := by
  refine hx_X.ofW (cc := cX0_checkNumber) (maxL := 3) (ret := none) (by decide) rfl (Nat.le_of_ble_eq_true rfl) ?_
  intro p e s m below meth c A ls hr S hno hw hl
  have S : hx_S p l s m _ meth c cX0_checkNumber 3 wsX0_checkNumber RX0 A D tys := S
  obtain ⟨⟨hx, hb, hml, hown, hts⟩, hK, hA, hE, hlk⟩ := id S
  have hl : lv_has ls 3 [(0, .ref h1), (1, .long (lN a))] := hl
  refine lv_aload_n hx hb dX0_checkNumber_0 rfl (lv_at hl 0 rfl) ?_
  refine lv_lload_n hx hb dX0_checkNumber_1 rfl (lv_at hl 1 rfl) ?_
  refine hx_callV (rest := []) (n := 1) S hw (c_has l hst D tys cJ ht h0 h1 h2 u (a) (by omega)) gX0_checkNumber_X0_has rfl (by decide +kernel) rfl ⟨Nat.le_of_ble_eq_true rfl, Nat.le_of_ble_eq_true rfl⟩ 1 0 rfl rfl hc_adr hl.1 rfl (Nat.le_of_ble_eq_true rfl) ⟨by decide, by decide⟩ dX0_checkNumber_2 (fun H locs hw => ?_)
  refine W.eq (g2 := F0 m 5 ls [.int (if ph_in (a) then nI 1 else nI 0)]) rfl ?_
  refine hn_peq (tgt := 20) hx hb dX0_checkNumber_5 (by decide) (fun hc => ?_) (fun hc => ?_)
  · exact hx_new S hst hno hw hE.2.2.1 (List.mem_of_getElem? (i := 1) rfl) (List.mem_of_getElem? (i := 2) rfl) (fun w h => List.mem_cons_of_mem _ (List.mem_append_right _ h)) tb_S0 to_S0 hl.1 dX0_checkNumber_20 dX0_checkNumber_23 dX0_checkNumber_24 dX0_checkNumber_26 dX0_checkNumber_29 ⟨by decide, by decide, by decide, by decide⟩
  · refine lv_aload_n hx hb dX0_checkNumber_8 rfl (lv_at hl 0 rfl) ?_
    refine lv_lload_n hx hb dX0_checkNumber_9 rfl (lv_at hl 1 rfl) ?_
    refine lv_ldc2 (v := lN 3) hx hb hown (hts (.constantLong RX0 52 (lN 3)) (by decide +kernel)) dX0_checkNumber_10 ?_
    refine hn_ladd (v := lN (a + 3)) hx hb dX0_checkNumber_13 (lN_add _ _) ?_
    refine hx_callV (rest := []) (n := 1) S hw (c_has l hst D tys cJ ht h0 h1 h2 u (a + 3) (by omega)) gX0_checkNumber_X0_has rfl (by decide +kernel) rfl ⟨Nat.le_of_ble_eq_true rfl, Nat.le_of_ble_eq_true rfl⟩ 1 0 rfl rfl hc_adr hl.1 rfl (Nat.le_of_ble_eq_true rfl) ⟨by decide, by decide⟩ dX0_checkNumber_14 (fun H locs hw => ?_)
    refine W.eq (g2 := F0 m 17 ls [.int (if ph_in (a + 3) then nI 1 else nI 0)]) rfl ?_
    refine hn_pne (tgt := 30) hx hb dX0_checkNumber_17 (by decide) (fun hc2 => ?_) (fun hc2 => ?_)
    · exact absurd (⟨hc.1, hc2.2⟩ : ph_i4 a) ha
    · exact hx_new S hst hno hw hE.2.2.1 (List.mem_of_getElem? (i := 1) rfl) (List.mem_of_getElem? (i := 2) rfl) (fun w h => List.mem_cons_of_mem _ (List.mem_append_right _ h)) tb_S0 to_S0 hl.1 dX0_checkNumber_20 dX0_checkNumber_23 dX0_checkNumber_24 dX0_checkNumber_26 dX0_checkNumber_29 ⟨by decide, by decide, by decide, by decide⟩
set_option maxHeartbeats 4000000 in
set_option maxRecDepth 100000 in
theorem c_readNumber (l : Launch) (hst : l.stackTraces = false) (D : va_G) (tys : List (ClassId × FieldType)) (cJ : ClassId) (ht : tys[0]? = some (cJ, .long)) (h0 h1 h2 : Nat) (u : ph_H) (a : Nat) (ha : ph_i4 a) : hx_R l D tys yX0_readNumber wsX0_readNumber 7 104 [.ref h1, .long (lN a)] (hc_W cJ h0 h1 h2 u) (hc_W cJ h0 h1 h2 u) (some (.long (lN (ph_n u.1 a)))) := by
  refine hx_R.ofW (cc := cX0_readNumber) (maxL := 6) (ret := (some .long)) (by decide) rfl (Nat.le_of_ble_eq_true rfl) ?_
  intro p e s m below meth c A ls hr S hw hl
  have S : hx_S p l s m _ meth c cX0_readNumber 6 wsX0_readNumber RX0 A D tys := S
  obtain ⟨⟨hx, hb, hml, hown, hts⟩, hK, hA, hE, hlk⟩ := id S
  have hl : lv_has ls 6 [(0, .ref h1), (1, .long (lN a))] := hl
  have hb0 := ph_b_lt u.1 (a + 0)
  have hb1 := ph_b_lt u.1 (a + 1)
  have hb2 := ph_b_lt u.1 (a + 2)
  have hb3 := ph_b_lt u.1 (a + 3)
  refine lv_aload_n hx hb dX0_readNumber_0 rfl (lv_at hl 0 rfl) ?_
  refine lv_lload_n hx hb dX0_readNumber_1 rfl (lv_at hl 1 rfl) ?_
  refine hx_callV (rest := []) (n := 1) S hw (c_checkNumber l hst D tys cJ ht h0 h1 h2 u a ha) gX0_readNumber_X0_checkNumber rfl (by decide +kernel) rfl ⟨Nat.le_of_ble_eq_true rfl, Nat.le_of_ble_eq_true rfl⟩ 1 0 rfl rfl hc_adr hl.1 rfl (Nat.le_of_ble_eq_true rfl) ⟨by decide, by decide⟩ dX0_readNumber_2 (fun H locs hw => ?_)
  refine W.eq (g2 := F0 m 5 ls []) rfl ?_
  refine lv_lconst (v := lN 0) hx hb dX0_readNumber_5 (by decide +kernel) ?_
  refine lv_lstore_n (lv' := [(3, .long (lN 0)), (0, .ref h1), (1, .long (lN a))]) hx hb dX0_readNumber_6 rfl hl (by decide) rfl (fun ls hl => ?_)
  refine lv_iconst (v := nI 3) hx hb dX0_readNumber_7 (by decide +kernel) ?_
  refine lv_istore (lv' := [(5, .int (nI 3)), (3, .long (lN 0)), (0, .ref h1), (1, .long (lN a))]) hx hb dX0_readNumber_8 hl (by decide) rfl (fun ls hl => ?_)
  refine lv_iload hx hb dX0_readNumber_10 (lv_at hl 0 rfl) ?_
  refine lv_if_lt (tgt := 37) hx hb dX0_readNumber_12 (by decide) (fun h => absurd h (by decide +kernel)) (fun _ => ?_)
  refine lv_lload_n hx hb dX0_readNumber_15 rfl (lv_at hl 1 rfl) ?_
  refine lv_bipush (v := nI 8) hx hb dX0_readNumber_16 (by decide +kernel) ?_
  refine lv_lshl (v := lN ((0) * 256)) hx hb dX0_readNumber_18 (wb_shl (0) (k := 8) (by decide)) ?_
  refine lv_aload_n hx hb dX0_readNumber_19 rfl (lv_at hl 2 rfl) ?_
  refine lv_lload_n hx hb dX0_readNumber_20 rfl (lv_at hl 3 rfl) ?_
  refine lv_iload hx hb dX0_readNumber_21 (lv_at hl 0 rfl) ?_
  refine lv_i2l (v := lN 3) hx hb dX0_readNumber_23 (nI_l (by omega)) ?_
  refine hn_ladd (v := lN (a + 3)) hx hb dX0_readNumber_24 (lN_add _ _) ?_
  refine hx_callV (rest := [.long (lN ((0) * 256))]) (n := 1) S hw (c_read l hst D tys cJ ht h0 h1 h2 u (a + 3) ⟨by omega, by omega⟩) gX0_readNumber_X0_read rfl (by decide +kernel) rfl ⟨Nat.le_of_ble_eq_true rfl, Nat.le_of_ble_eq_true rfl⟩ 1 0 rfl rfl hc_adr hl.1 rfl (Nat.le_of_ble_eq_true rfl) ⟨by decide, by decide⟩ dX0_readNumber_25 (fun H locs hw => ?_)
  refine W.eq (g2 := F0 m 28 ls [.int (nI (ph_b u.1 (a + 3))), .long (lN ((0) * 256))]) rfl ?_
  refine lv_i2l (v := lN (ph_b u.1 (a + 3))) hx hb dX0_readNumber_28 (nI_l (by omega)) ?_
  refine hn_lor (v := lN ((0) * 256 + ph_b u.1 (a + 3))) hx hb dX0_readNumber_29 (g_or (k := 8) (p := 256) (a := ph_b u.1 (a + 3)) (b := 0) rfl hb3 (by omega)) ?_
  refine lv_lstore_n (lv' := [(3, .long (lN ((0) * 256 + ph_b u.1 (a + 3)))), (5, .int (nI 3)), (0, .ref h1), (1, .long (lN a))]) hx hb dX0_readNumber_30 rfl hl (by decide) rfl (fun ls hl => ?_)
  refine lv_iinc (v := nI 2) (lv' := [(5, .int (nI 2)), (3, .long (lN ((0) * 256 + ph_b u.1 (a + 3)))), (0, .ref h1), (1, .long (lN a))]) hx hb dX0_readNumber_31 hl (k := 1) rfl (by decide +kernel) (by decide) rfl (fun ls hl => ?_)
  refine lv_goto (tgt := 10) hx hb dX0_readNumber_34 (by decide) ?_
  refine lv_iload hx hb dX0_readNumber_10 (lv_at hl 0 rfl) ?_
  refine lv_if_lt (tgt := 37) hx hb dX0_readNumber_12 (by decide) (fun h => absurd h (by decide +kernel)) (fun _ => ?_)
  refine lv_lload_n hx hb dX0_readNumber_15 rfl (lv_at hl 1 rfl) ?_
  refine lv_bipush (v := nI 8) hx hb dX0_readNumber_16 (by decide +kernel) ?_
  refine lv_lshl (v := lN (((0) * 256 + ph_b u.1 (a + 3)) * 256)) hx hb dX0_readNumber_18 (wb_shl ((0) * 256 + ph_b u.1 (a + 3)) (k := 8) (by decide)) ?_
  refine lv_aload_n hx hb dX0_readNumber_19 rfl (lv_at hl 2 rfl) ?_
  refine lv_lload_n hx hb dX0_readNumber_20 rfl (lv_at hl 3 rfl) ?_
  refine lv_iload hx hb dX0_readNumber_21 (lv_at hl 0 rfl) ?_
  refine lv_i2l (v := lN 2) hx hb dX0_readNumber_23 (nI_l (by omega)) ?_
  refine hn_ladd (v := lN (a + 2)) hx hb dX0_readNumber_24 (lN_add _ _) ?_
  refine hx_callV (rest := [.long (lN (((0) * 256 + ph_b u.1 (a + 3)) * 256))]) (n := 1) S hw (c_read l hst D tys cJ ht h0 h1 h2 u (a + 2) ⟨by omega, by omega⟩) gX0_readNumber_X0_read rfl (by decide +kernel) rfl ⟨Nat.le_of_ble_eq_true rfl, Nat.le_of_ble_eq_true rfl⟩ 1 0 rfl rfl hc_adr hl.1 rfl (Nat.le_of_ble_eq_true rfl) ⟨by decide, by decide⟩ dX0_readNumber_25 (fun H locs hw => ?_)
  refine W.eq (g2 := F0 m 28 ls [.int (nI (ph_b u.1 (a + 2))), .long (lN (((0) * 256 + ph_b u.1 (a + 3)) * 256))]) rfl ?_
  refine lv_i2l (v := lN (ph_b u.1 (a + 2))) hx hb dX0_readNumber_28 (nI_l (by omega)) ?_
  refine hn_lor (v := lN (((0) * 256 + ph_b u.1 (a + 3)) * 256 + ph_b u.1 (a + 2))) hx hb dX0_readNumber_29 (g_or (k := 8) (p := 256) (a := ph_b u.1 (a + 2)) (b := (0) * 256 + ph_b u.1 (a + 3)) rfl hb2 (by omega)) ?_
  refine lv_lstore_n (lv' := [(3, .long (lN (((0) * 256 + ph_b u.1 (a + 3)) * 256 + ph_b u.1 (a + 2)))), (5, .int (nI 2)), (0, .ref h1), (1, .long (lN a))]) hx hb dX0_readNumber_30 rfl hl (by decide) rfl (fun ls hl => ?_)
  refine lv_iinc (v := nI 1) (lv' := [(5, .int (nI 1)), (3, .long (lN (((0) * 256 + ph_b u.1 (a + 3)) * 256 + ph_b u.1 (a + 2)))), (0, .ref h1), (1, .long (lN a))]) hx hb dX0_readNumber_31 hl (k := 1) rfl (by decide +kernel) (by decide) rfl (fun ls hl => ?_)
  refine lv_goto (tgt := 10) hx hb dX0_readNumber_34 (by decide) ?_
  refine lv_iload hx hb dX0_readNumber_10 (lv_at hl 0 rfl) ?_
  refine lv_if_lt (tgt := 37) hx hb dX0_readNumber_12 (by decide) (fun h => absurd h (by decide +kernel)) (fun _ => ?_)
  refine lv_lload_n hx hb dX0_readNumber_15 rfl (lv_at hl 1 rfl) ?_
  refine lv_bipush (v := nI 8) hx hb dX0_readNumber_16 (by decide +kernel) ?_
  refine lv_lshl (v := lN ((((0) * 256 + ph_b u.1 (a + 3)) * 256 + ph_b u.1 (a + 2)) * 256)) hx hb dX0_readNumber_18 (wb_shl (((0) * 256 + ph_b u.1 (a + 3)) * 256 + ph_b u.1 (a + 2)) (k := 8) (by decide)) ?_
  refine lv_aload_n hx hb dX0_readNumber_19 rfl (lv_at hl 2 rfl) ?_
  refine lv_lload_n hx hb dX0_readNumber_20 rfl (lv_at hl 3 rfl) ?_
  refine lv_iload hx hb dX0_readNumber_21 (lv_at hl 0 rfl) ?_
  refine lv_i2l (v := lN 1) hx hb dX0_readNumber_23 (nI_l (by omega)) ?_
  refine hn_ladd (v := lN (a + 1)) hx hb dX0_readNumber_24 (lN_add _ _) ?_
  refine hx_callV (rest := [.long (lN ((((0) * 256 + ph_b u.1 (a + 3)) * 256 + ph_b u.1 (a + 2)) * 256))]) (n := 1) S hw (c_read l hst D tys cJ ht h0 h1 h2 u (a + 1) ⟨by omega, by omega⟩) gX0_readNumber_X0_read rfl (by decide +kernel) rfl ⟨Nat.le_of_ble_eq_true rfl, Nat.le_of_ble_eq_true rfl⟩ 1 0 rfl rfl hc_adr hl.1 rfl (Nat.le_of_ble_eq_true rfl) ⟨by decide, by decide⟩ dX0_readNumber_25 (fun H locs hw => ?_)
  refine W.eq (g2 := F0 m 28 ls [.int (nI (ph_b u.1 (a + 1))), .long (lN ((((0) * 256 + ph_b u.1 (a + 3)) * 256 + ph_b u.1 (a + 2)) * 256))]) rfl ?_
  refine lv_i2l (v := lN (ph_b u.1 (a + 1))) hx hb dX0_readNumber_28 (nI_l (by omega)) ?_
  refine hn_lor (v := lN ((((0) * 256 + ph_b u.1 (a + 3)) * 256 + ph_b u.1 (a + 2)) * 256 + ph_b u.1 (a + 1))) hx hb dX0_readNumber_29 (g_or (k := 8) (p := 256) (a := ph_b u.1 (a + 1)) (b := ((0) * 256 + ph_b u.1 (a + 3)) * 256 + ph_b u.1 (a + 2)) rfl hb1 (by omega)) ?_
  refine lv_lstore_n (lv' := [(3, .long (lN ((((0) * 256 + ph_b u.1 (a + 3)) * 256 + ph_b u.1 (a + 2)) * 256 + ph_b u.1 (a + 1)))), (5, .int (nI 1)), (0, .ref h1), (1, .long (lN a))]) hx hb dX0_readNumber_30 rfl hl (by decide) rfl (fun ls hl => ?_)
  refine lv_iinc (v := nI 0) (lv' := [(5, .int (nI 0)), (3, .long (lN ((((0) * 256 + ph_b u.1 (a + 3)) * 256 + ph_b u.1 (a + 2)) * 256 + ph_b u.1 (a + 1)))), (0, .ref h1), (1, .long (lN a))]) hx hb dX0_readNumber_31 hl (k := 1) rfl (by decide +kernel) (by decide) rfl (fun ls hl => ?_)
  refine lv_goto (tgt := 10) hx hb dX0_readNumber_34 (by decide) ?_
  refine lv_iload hx hb dX0_readNumber_10 (lv_at hl 0 rfl) ?_
  refine lv_if_lt (tgt := 37) hx hb dX0_readNumber_12 (by decide) (fun h => absurd h (by decide +kernel)) (fun _ => ?_)
  refine lv_lload_n hx hb dX0_readNumber_15 rfl (lv_at hl 1 rfl) ?_
  refine lv_bipush (v := nI 8) hx hb dX0_readNumber_16 (by decide +kernel) ?_
  refine lv_lshl (v := lN (((((0) * 256 + ph_b u.1 (a + 3)) * 256 + ph_b u.1 (a + 2)) * 256 + ph_b u.1 (a + 1)) * 256)) hx hb dX0_readNumber_18 (wb_shl ((((0) * 256 + ph_b u.1 (a + 3)) * 256 + ph_b u.1 (a + 2)) * 256 + ph_b u.1 (a + 1)) (k := 8) (by decide)) ?_
  refine lv_aload_n hx hb dX0_readNumber_19 rfl (lv_at hl 2 rfl) ?_
  refine lv_lload_n hx hb dX0_readNumber_20 rfl (lv_at hl 3 rfl) ?_
  refine lv_iload hx hb dX0_readNumber_21 (lv_at hl 0 rfl) ?_
  refine lv_i2l (v := lN 0) hx hb dX0_readNumber_23 (nI_l (by omega)) ?_
  refine hn_ladd (v := lN (a + 0)) hx hb dX0_readNumber_24 (lN_add _ _) ?_
  refine hx_callV (rest := [.long (lN (((((0) * 256 + ph_b u.1 (a + 3)) * 256 + ph_b u.1 (a + 2)) * 256 + ph_b u.1 (a + 1)) * 256))]) (n := 1) S hw (c_read l hst D tys cJ ht h0 h1 h2 u (a + 0) ⟨by omega, by omega⟩) gX0_readNumber_X0_read rfl (by decide +kernel) rfl ⟨Nat.le_of_ble_eq_true rfl, Nat.le_of_ble_eq_true rfl⟩ 1 0 rfl rfl hc_adr hl.1 rfl (Nat.le_of_ble_eq_true rfl) ⟨by decide, by decide⟩ dX0_readNumber_25 (fun H locs hw => ?_)
  refine W.eq (g2 := F0 m 28 ls [.int (nI (ph_b u.1 (a + 0))), .long (lN (((((0) * 256 + ph_b u.1 (a + 3)) * 256 + ph_b u.1 (a + 2)) * 256 + ph_b u.1 (a + 1)) * 256))]) rfl ?_
  refine lv_i2l (v := lN (ph_b u.1 (a + 0))) hx hb dX0_readNumber_28 (nI_l (by omega)) ?_
  refine hn_lor (v := lN (((((0) * 256 + ph_b u.1 (a + 3)) * 256 + ph_b u.1 (a + 2)) * 256 + ph_b u.1 (a + 1)) * 256 + ph_b u.1 (a + 0))) hx hb dX0_readNumber_29 (g_or (k := 8) (p := 256) (a := ph_b u.1 (a + 0)) (b := (((0) * 256 + ph_b u.1 (a + 3)) * 256 + ph_b u.1 (a + 2)) * 256 + ph_b u.1 (a + 1)) rfl hb0 (by omega)) ?_
  refine lv_lstore_n (lv' := [(3, .long (lN (((((0) * 256 + ph_b u.1 (a + 3)) * 256 + ph_b u.1 (a + 2)) * 256 + ph_b u.1 (a + 1)) * 256 + ph_b u.1 (a + 0)))), (5, .int (nI 0)), (0, .ref h1), (1, .long (lN a))]) hx hb dX0_readNumber_30 rfl hl (by decide) rfl (fun ls hl => ?_)
  refine lv_iinc (v := (-1)) (lv' := [(5, .int ((-1))), (3, .long (lN (((((0) * 256 + ph_b u.1 (a + 3)) * 256 + ph_b u.1 (a + 2)) * 256 + ph_b u.1 (a + 1)) * 256 + ph_b u.1 (a + 0)))), (0, .ref h1), (1, .long (lN a))]) hx hb dX0_readNumber_31 hl (k := 1) rfl (by decide +kernel) (by decide) rfl (fun ls hl => ?_)
  refine lv_goto (tgt := 10) hx hb dX0_readNumber_34 (by decide) ?_
  refine lv_iload hx hb dX0_readNumber_10 (lv_at hl 0 rfl) ?_
  refine lv_if_lt (tgt := 37) hx hb dX0_readNumber_12 (by decide) (fun _ => ?_) (fun h => absurd (show ((-1 : Int32) < 0) from by decide +kernel) h)
  refine lv_lload_n hx hb dX0_readNumber_37 rfl (lv_at hl 1 rfl) ?_
  rw [show ph_n u.1 a = ((((0) * 256 + ph_b u.1 (a + 3)) * 256 + ph_b u.1 (a + 2)) * 256 + ph_b u.1 (a + 1)) * 256 + ph_b u.1 (a + 0) from by unfold ph_n; show _ = ((((0) * 256 + ph_b u.1 (a + 3)) * 256 + ph_b u.1 (a + 2)) * 256 + ph_b u.1 (a + 1)) * 256 + ph_b u.1 (a); omega]
  exact hx_lret S hr hw dX0_readNumber_38
set_option maxHeartbeats 4000000 in
set_option maxRecDepth 100000 in
theorem c_writeNumber (l : Launch) (hst : l.stackTraces = false) (D : va_G) (tys : List (ClassId × FieldType)) (cJ : ClassId) (ht : tys[0]? = some (cJ, .long)) (h0 h1 h2 : Nat) (u : ph_H) (a n : Nat) (hn : n < 18446744073709551616) (ha : ph_i4 a) : hx_R l D tys yX0_writeNumber wsX0_writeNumber 7 108 [.ref h1, .long (lN a), .long (lN n)] (hc_W cJ h0 h1 h2 u) (hc_W cJ h0 h1 h2 (ph_sn u.1 a n, u.2)) (none) := by
  refine hx_R.ofW (cc := cX0_writeNumber) (maxL := 6) (ret := none) (by decide) rfl (Nat.le_of_ble_eq_true rfl) ?_
  intro p e s m below meth c A ls hr S hw hl
  have S : hx_S p l s m _ meth c cX0_writeNumber 6 wsX0_writeNumber RX0 A D tys := S
  obtain ⟨⟨hx, hb, hml, hown, hts⟩, hK, hA, hE, hlk⟩ := id S
  have hl : lv_has ls 6 [(0, .ref h1), (1, .long (lN a)), (3, .long (lN n))] := hl
  refine lv_aload_n hx hb dX0_writeNumber_0 rfl (lv_at hl 0 rfl) ?_
  refine lv_lload_n hx hb dX0_writeNumber_1 rfl (lv_at hl 1 rfl) ?_
  refine hx_callV (rest := []) (n := 1) S hw (c_checkNumber l hst D tys cJ ht h0 h1 h2 u a ha) gX0_writeNumber_X0_checkNumber rfl (by decide +kernel) rfl ⟨Nat.le_of_ble_eq_true rfl, Nat.le_of_ble_eq_true rfl⟩ 1 0 rfl rfl hc_adr hl.1 rfl (Nat.le_of_ble_eq_true rfl) ⟨by decide, by decide⟩ dX0_writeNumber_2 (fun H locs hw => ?_)
  refine W.eq (g2 := F0 m 5 ls []) rfl ?_
  refine lv_iconst (v := nI 0) hx hb dX0_writeNumber_5 (by decide +kernel) ?_
  refine lv_istore (lv' := [(5, .int (nI 0)), (0, .ref h1), (1, .long (lN a)), (3, .long (lN n))]) hx hb dX0_writeNumber_6 hl (by decide) rfl (fun ls hl => ?_)
  refine lv_iload hx hb dX0_writeNumber_8 (lv_at hl 0 rfl) ?_
  refine lv_iconst (v := nI 4) hx hb dX0_writeNumber_10 (by decide +kernel) ?_
  refine hn_ige (a := 0) (b := 4) (tgt := 36) hx hb (by decide) (by decide) dX0_writeNumber_11 (by decide) (fun hc => absurd hc (by decide)) (fun _ => ?_)
  refine lv_aload_n hx hb dX0_writeNumber_14 rfl (lv_at hl 1 rfl) ?_
  refine lv_lload_n hx hb dX0_writeNumber_15 rfl (lv_at hl 2 rfl) ?_
  refine lv_iload hx hb dX0_writeNumber_16 (lv_at hl 0 rfl) ?_
  refine lv_i2l (v := lN 0) hx hb dX0_writeNumber_18 (nI_l (by omega)) ?_
  refine hn_ladd (v := lN a) hx hb dX0_writeNumber_19 (lN_add a 0) ?_
  refine lv_lload_n hx hb dX0_writeNumber_20 rfl (lv_at hl 3 rfl) ?_
  refine lv_bipush (v := nI 8) hx hb dX0_writeNumber_21 (by decide +kernel) ?_
  refine lv_iload hx hb dX0_writeNumber_23 (lv_at hl 0 rfl) ?_
  refine hn_imul (v := nI 0) hx hb dX0_writeNumber_25 (pk_mul _ _) ?_
  refine lv_lushr (v := lN (n)) hx hb dX0_writeNumber_26 (show ((lN n).toUInt64 >>> ((nI 0).toInt64.toUInt64 &&& Int64.toUInt64 63)).toInt64 = lN n by rw [wb_shr (k := 0) hn (by decide), Nat.pow_zero, Nat.div_one]) ?_
  refine hx_callV (rest := []) (n := 2) S hw (c_writeN l hst D tys cJ ht h0 h1 h2 u (a) (n) (by omega) ⟨by omega, by omega⟩) gX0_writeNumber_X0_write rfl (by decide +kernel) rfl ⟨Nat.le_of_ble_eq_true rfl, Nat.le_of_ble_eq_true rfl⟩ 1 0 rfl rfl hc_adr hl.1 rfl (Nat.le_of_ble_eq_true rfl) ⟨by decide, by decide⟩ dX0_writeNumber_27 (fun H locs hw => ?_)
  refine W.eq (g2 := F0 m 30 ls []) rfl ?_
  refine lv_iinc (v := nI 1) (lv' := [(5, .int (nI 1)), (0, .ref h1), (1, .long (lN a)), (3, .long (lN n))]) hx hb dX0_writeNumber_30 hl (k := 0) rfl (by decide +kernel) (by decide) rfl (fun ls hl => ?_)
  refine lv_goto (tgt := 8) hx hb dX0_writeNumber_33 (by decide) ?_
  refine lv_iload hx hb dX0_writeNumber_8 (lv_at hl 0 rfl) ?_
  refine lv_iconst (v := nI 4) hx hb dX0_writeNumber_10 (by decide +kernel) ?_
  refine hn_ige (a := 1) (b := 4) (tgt := 36) hx hb (by decide) (by decide) dX0_writeNumber_11 (by decide) (fun hc => absurd hc (by decide)) (fun _ => ?_)
  refine lv_aload_n hx hb dX0_writeNumber_14 rfl (lv_at hl 1 rfl) ?_
  refine lv_lload_n hx hb dX0_writeNumber_15 rfl (lv_at hl 2 rfl) ?_
  refine lv_iload hx hb dX0_writeNumber_16 (lv_at hl 0 rfl) ?_
  refine lv_i2l (v := lN 1) hx hb dX0_writeNumber_18 (nI_l (by omega)) ?_
  refine hn_ladd (v := lN (a + 1)) hx hb dX0_writeNumber_19 (lN_add _ _) ?_
  refine lv_lload_n hx hb dX0_writeNumber_20 rfl (lv_at hl 3 rfl) ?_
  refine lv_bipush (v := nI 8) hx hb dX0_writeNumber_21 (by decide +kernel) ?_
  refine lv_iload hx hb dX0_writeNumber_23 (lv_at hl 0 rfl) ?_
  refine hn_imul (v := nI 8) hx hb dX0_writeNumber_25 (pk_mul _ _) ?_
  refine lv_lushr (v := lN (n / 256)) hx hb dX0_writeNumber_26 (show _ = lN (n / 256) by rw [wb_shr (n := n) (k := 8) hn (by decide), show (2 : Nat) ^ 8 = 256 from rfl]) ?_
  refine hx_callV (rest := []) (n := 2) S hw (c_writeN l hst D tys cJ ht h0 h1 h2 (ph_sb u.1 a n, u.2) (a + 1) (n / 256) (by omega) ⟨by omega, by omega⟩) gX0_writeNumber_X0_write rfl (by decide +kernel) rfl ⟨Nat.le_of_ble_eq_true rfl, Nat.le_of_ble_eq_true rfl⟩ 1 0 rfl rfl hc_adr hl.1 rfl (Nat.le_of_ble_eq_true rfl) ⟨by decide, by decide⟩ dX0_writeNumber_27 (fun H locs hw => ?_)
  refine W.eq (g2 := F0 m 30 ls []) rfl ?_
  refine lv_iinc (v := nI 2) (lv' := [(5, .int (nI 2)), (0, .ref h1), (1, .long (lN a)), (3, .long (lN n))]) hx hb dX0_writeNumber_30 hl (k := 0) rfl (by decide +kernel) (by decide) rfl (fun ls hl => ?_)
  refine lv_goto (tgt := 8) hx hb dX0_writeNumber_33 (by decide) ?_
  refine lv_iload hx hb dX0_writeNumber_8 (lv_at hl 0 rfl) ?_
  refine lv_iconst (v := nI 4) hx hb dX0_writeNumber_10 (by decide +kernel) ?_
  refine hn_ige (a := 2) (b := 4) (tgt := 36) hx hb (by decide) (by decide) dX0_writeNumber_11 (by decide) (fun hc => absurd hc (by decide)) (fun _ => ?_)
  refine lv_aload_n hx hb dX0_writeNumber_14 rfl (lv_at hl 1 rfl) ?_
  refine lv_lload_n hx hb dX0_writeNumber_15 rfl (lv_at hl 2 rfl) ?_
  refine lv_iload hx hb dX0_writeNumber_16 (lv_at hl 0 rfl) ?_
  refine lv_i2l (v := lN 2) hx hb dX0_writeNumber_18 (nI_l (by omega)) ?_
  refine hn_ladd (v := lN (a + 2)) hx hb dX0_writeNumber_19 (lN_add _ _) ?_
  refine lv_lload_n hx hb dX0_writeNumber_20 rfl (lv_at hl 3 rfl) ?_
  refine lv_bipush (v := nI 8) hx hb dX0_writeNumber_21 (by decide +kernel) ?_
  refine lv_iload hx hb dX0_writeNumber_23 (lv_at hl 0 rfl) ?_
  refine hn_imul (v := nI 16) hx hb dX0_writeNumber_25 (pk_mul _ _) ?_
  refine lv_lushr (v := lN (n / 65536)) hx hb dX0_writeNumber_26 (show _ = lN (n / 65536) by rw [wb_shr (n := n) (k := 16) hn (by decide), show (2 : Nat) ^ 16 = 65536 from rfl]) ?_
  refine hx_callV (rest := []) (n := 2) S hw (c_writeN l hst D tys cJ ht h0 h1 h2 (ph_sb (ph_sb u.1 a n) (a + 1) (n / 256), u.2) (a + 2) (n / 65536) (by omega) ⟨by omega, by omega⟩) gX0_writeNumber_X0_write rfl (by decide +kernel) rfl ⟨Nat.le_of_ble_eq_true rfl, Nat.le_of_ble_eq_true rfl⟩ 1 0 rfl rfl hc_adr hl.1 rfl (Nat.le_of_ble_eq_true rfl) ⟨by decide, by decide⟩ dX0_writeNumber_27 (fun H locs hw => ?_)
  refine W.eq (g2 := F0 m 30 ls []) rfl ?_
  refine lv_iinc (v := nI 3) (lv' := [(5, .int (nI 3)), (0, .ref h1), (1, .long (lN a)), (3, .long (lN n))]) hx hb dX0_writeNumber_30 hl (k := 0) rfl (by decide +kernel) (by decide) rfl (fun ls hl => ?_)
  refine lv_goto (tgt := 8) hx hb dX0_writeNumber_33 (by decide) ?_
  refine lv_iload hx hb dX0_writeNumber_8 (lv_at hl 0 rfl) ?_
  refine lv_iconst (v := nI 4) hx hb dX0_writeNumber_10 (by decide +kernel) ?_
  refine hn_ige (a := 3) (b := 4) (tgt := 36) hx hb (by decide) (by decide) dX0_writeNumber_11 (by decide) (fun hc => absurd hc (by decide)) (fun _ => ?_)
  refine lv_aload_n hx hb dX0_writeNumber_14 rfl (lv_at hl 1 rfl) ?_
  refine lv_lload_n hx hb dX0_writeNumber_15 rfl (lv_at hl 2 rfl) ?_
  refine lv_iload hx hb dX0_writeNumber_16 (lv_at hl 0 rfl) ?_
  refine lv_i2l (v := lN 3) hx hb dX0_writeNumber_18 (nI_l (by omega)) ?_
  refine hn_ladd (v := lN (a + 3)) hx hb dX0_writeNumber_19 (lN_add _ _) ?_
  refine lv_lload_n hx hb dX0_writeNumber_20 rfl (lv_at hl 3 rfl) ?_
  refine lv_bipush (v := nI 8) hx hb dX0_writeNumber_21 (by decide +kernel) ?_
  refine lv_iload hx hb dX0_writeNumber_23 (lv_at hl 0 rfl) ?_
  refine hn_imul (v := nI 24) hx hb dX0_writeNumber_25 (pk_mul _ _) ?_
  refine lv_lushr (v := lN (n / 16777216)) hx hb dX0_writeNumber_26 (show _ = lN (n / 16777216) by rw [wb_shr (n := n) (k := 24) hn (by decide), show (2 : Nat) ^ 24 = 16777216 from rfl]) ?_
  refine hx_callV (rest := []) (n := 2) S hw (c_writeN l hst D tys cJ ht h0 h1 h2 (ph_sb (ph_sb (ph_sb u.1 a n) (a + 1) (n / 256)) (a + 2) (n / 65536), u.2) (a + 3) (n / 16777216) (by omega) ⟨by omega, by omega⟩) gX0_writeNumber_X0_write rfl (by decide +kernel) rfl ⟨Nat.le_of_ble_eq_true rfl, Nat.le_of_ble_eq_true rfl⟩ 1 0 rfl rfl hc_adr hl.1 rfl (Nat.le_of_ble_eq_true rfl) ⟨by decide, by decide⟩ dX0_writeNumber_27 (fun H locs hw => ?_)
  refine W.eq (g2 := F0 m 30 ls []) rfl ?_
  refine lv_iinc (v := nI 4) (lv' := [(5, .int (nI 4)), (0, .ref h1), (1, .long (lN a)), (3, .long (lN n))]) hx hb dX0_writeNumber_30 hl (k := 0) rfl (by decide +kernel) (by decide) rfl (fun ls hl => ?_)
  refine lv_goto (tgt := 8) hx hb dX0_writeNumber_33 (by decide) ?_
  refine lv_iload hx hb dX0_writeNumber_8 (lv_at hl 0 rfl) ?_
  refine lv_iconst (v := nI 4) hx hb dX0_writeNumber_10 (by decide +kernel) ?_
  refine hn_ige (a := 4) (b := 4) (tgt := 36) hx hb (by decide) (by decide) dX0_writeNumber_11 (by decide) (fun _ => ?_) (fun hc => absurd hc (by decide))
  exact hx_vret S hr hw dX0_writeNumber_36
set_option maxHeartbeats 4000000 in
set_option maxRecDepth 100000 in
theorem x_writeNumber (l : Launch) (hst : l.stackTraces = false) (D : va_G) (tys : List (ClassId × FieldType)) (cJ : ClassId) (ht : tys[0]? = some (cJ, .long)) (h0 h1 h2 : Nat) (u : ph_H) (a : Nat) (v : Int64) (hb63 : a < 4611686018427387904) (ha : ¬ ph_i4 a) : hx_X l D tys yX0_writeNumber wsX0_writeNumber 7 108 [.ref h1, .long (lN a), .long v] (hc_W cJ h0 h1 h2 u) (hc_W cJ h0 h1 h2 u) := by
  refine hx_X.ofW (cc := cX0_writeNumber) (maxL := 6) (ret := none) (by decide) rfl (Nat.le_of_ble_eq_true rfl) ?_
  intro p e s m below meth c A ls hr S hno hw hl
  have S : hx_S p l s m _ meth c cX0_writeNumber 6 wsX0_writeNumber RX0 A D tys := S
  obtain ⟨⟨hx, hb, hml, hown, hts⟩, hK, hA, hE, hlk⟩ := id S
  have hl : lv_has ls 6 [(0, .ref h1), (1, .long (lN a)), (3, .long v)] := hl
  refine lv_aload_n hx hb dX0_writeNumber_0 rfl (lv_at hl 0 rfl) ?_
  refine lv_lload_n hx hb dX0_writeNumber_1 rfl (lv_at hl 1 rfl) ?_
  exact hx_thr (rest := []) (n := 1) S hno hw (x_checkNumber l hst D tys cJ ht h0 h1 h2 u a hb63 ha) gX0_writeNumber_X0_checkNumber rfl (by decide +kernel) rfl ⟨Nat.le_of_ble_eq_true rfl, Nat.le_of_ble_eq_true rfl⟩ 1 0 rfl rfl hc_adr hl.1 rfl (Nat.le_of_ble_eq_true rfl) ⟨by decide, by decide⟩ dX0_writeNumber_2
