/-! HeapRowModel: bytes and numbers -/
set_option maxHeartbeats 4000000 in
set_option maxRecDepth 100000 in
theorem m_there (l : Launch) (hst : l.stackTraces = false) (D : va_G) (tys : List (ClassId × FieldType)) (cB : ClassId) (ht : tys[1]? = some (cB, .byte)) (k0 k1 : Nat) (u : ph_H) (th : Int32) (bf : Int64) (a : Nat) (ha : a < 9223372036854775808) : hx_R l D tys yX2_there wsX2_there 0 0 [.long (lN a)] (hm_W cB k0 k1 u th bf) (hm_W cB k0 k1 u th bf) (some (.int (if ph_in a then nI 1 else nI 0))) := by
  refine hx_R.ofW (cc := cX2_there) (maxL := 2) (ret := (some .boolean)) (by decide) rfl (Nat.le_of_ble_eq_true rfl) ?_
  intro p e s m below meth c A ls hr S hw hl
  have S : hx_S p l s m _ meth c cX2_there 2 wsX2_there RX2 A D tys := S
  obtain ⟨⟨hx, hb, hml, hown, hts⟩, hK, hA, hE, hlk⟩ := id S
  have hl : lv_has ls 2 [(0, .long (lN a))] := hl
  refine lv_lload_n hx hb dX2_there_0 rfl (lv_at hl 0 rfl) ?_
  refine lv_ldc2 (v := lN 1024) hx hb hown (hts (.constantLong RX2 24 (lN 1024)) (by decide +kernel)) dX2_there_1 ?_
  refine hn_llt (a := a) (b := 1024) (tgt := 20) hx hb (by omega) (by omega) dX2_there_4 dX2_there_5 (by decide) (fun hc => ?_) (fun hc => ?_)
  · refine lv_iconst (v := nI 0) hx hb dX2_there_20 (by decide +kernel) ?_
    rw [if_neg (show ¬ ph_in a from by omega)]
    exact hx_zret S hr rfl hw dX2_there_21
  · refine lv_lload_n hx hb dX2_there_8 rfl (lv_at hl 0 rfl) ?_
    refine lv_ldc2 (v := lN 65536) hx hb hown (hts (.constantLong RX2 26 (lN 65536)) (by decide +kernel)) dX2_there_9 ?_
    refine hn_lge (a := a) (b := 65536) (tgt := 20) hx hb (by omega) (by omega) dX2_there_12 dX2_there_13 (by decide) (fun hc2 => ?_) (fun hc2 => ?_)
    · refine lv_iconst (v := nI 0) hx hb dX2_there_20 (by decide +kernel) ?_
      rw [if_neg (show ¬ ph_in a from by omega)]
      exact hx_zret S hr rfl hw dX2_there_21
    · refine lv_iconst (v := nI 1) hx hb dX2_there_16 (by decide +kernel) ?_
      refine lv_goto (tgt := 21) hx hb dX2_there_17 (by decide) ?_
      rw [if_pos (show ph_in a from by omega)]
      exact hx_zret S hr rfl hw dX2_there_21
set_option maxHeartbeats 4000000 in
set_option maxRecDepth 100000 in
theorem m_without (l : Launch) (hst : l.stackTraces = false) (D : va_G) (tys : List (ClassId × FieldType)) (cB : ClassId) (ht : tys[1]? = some (cB, .byte)) (k0 k1 : Nat) (u : ph_H) (th : Int32) (bf : Int64) (n : Nat) (hn : n < 4294967296) : hx_R l D tys yX2_without wsX2_without 0 0 [.int (nI n)] (hm_W cB k0 k1 u th bf) (hm_W cB k0 k1 u th bf) (some (.long (lN n))) := by
  refine hx_R.ofW (cc := cX2_without) (maxL := 1) (ret := (some .long)) (by decide) rfl (Nat.le_of_ble_eq_true rfl) ?_
  intro p e s m below meth c A ls hr S hw hl
  have S : hx_S p l s m _ meth c cX2_without 1 wsX2_without RX2 A D tys := S
  obtain ⟨⟨hx, hb, hml, hown, hts⟩, hK, hA, hE, hlk⟩ := id S
  have hl : lv_has ls 1 [(0, .int (nI n))] := hl
  refine lv_iload_n hx hb dX2_without_0 rfl (lv_at hl 0 rfl) ?_
  refine lv_i2l (v := (nI n).toInt64) hx hb dX2_without_1 rfl ?_
  refine lv_ldc2 (v := lN 4294967295) hx hb hown (hts (.constantLong RX2 45 (lN 4294967295)) (by decide +kernel)) dX2_without_2 ?_
  refine hn_land (v := lN n) hx hb dX2_without_5 (hp_uns hn) ?_
  exact hx_lret S hr hw dX2_without_6
set_option maxHeartbeats 4000000 in
set_option maxRecDepth 100000 in
theorem m_up (l : Launch) (hst : l.stackTraces = false) (D : va_G) (tys : List (ClassId × FieldType)) (cB : ClassId) (ht : tys[1]? = some (cB, .byte)) (k0 k1 : Nat) (u : ph_H) (th : Int32) (bf : Int64) (n : Nat) (hn : n < 4611686018427387904) : hx_R l D tys yX2_up wsX2_up 0 0 [.long (lN n)] (hm_W cB k0 k1 u th bf) (hm_W cB k0 k1 u th bf) (some (.long (lN (ph_up n)))) := by
  refine hx_R.ofW (cc := cX2_up) (maxL := 2) (ret := (some .long)) (by decide) rfl (Nat.le_of_ble_eq_true rfl) ?_
  intro p e s m below meth c A ls hr S hw hl
  have S : hx_S p l s m _ meth c cX2_up 2 wsX2_up RX2 A D tys := S
  obtain ⟨⟨hx, hb, hml, hown, hts⟩, hK, hA, hE, hlk⟩ := id S
  have hl : lv_has ls 2 [(0, .long (lN n))] := hl
  unfold ph_up
  refine lv_lload_n hx hb dX2_up_0 rfl (lv_at hl 0 rfl) ?_
  refine lv_lconst (v := lN 0) hx hb dX2_up_1 (by decide +kernel) ?_
  refine hn_lne (a := n) (b := 0) (tgt := 12) hx hb (by omega) (by omega) dX2_up_2 dX2_up_3 (by decide) (fun hc => ?_) (fun hc => ?_)
  · rw [if_neg hc]
    refine lv_lload_n hx hb dX2_up_12 rfl (lv_at hl 0 rfl) ?_
    refine lv_ldc2 (v := lN 7) hx hb hown (hts (.constantLong RX2 71 (lN 7)) (by decide +kernel)) dX2_up_13 ?_
    refine hn_ladd (v := lN (n + 7)) hx hb dX2_up_16 (lN_add _ _) ?_
    refine lv_ldc2 (v := lN 8) hx hb hown (hts (.constantLong RX2 69 (lN 8)) (by decide +kernel)) dX2_up_17 ?_
    refine hn_ldiv (v := lN ((n + 7) / 8)) hx hb dX2_up_20 (by decide +kernel) (hm_div (by omega)) ?_
    refine lv_ldc2 (v := lN 8) hx hb hown (hts (.constantLong RX2 69 (lN 8)) (by decide +kernel)) dX2_up_21 ?_
    refine hn_lmul (v := lN (((n + 7) / 8) * 8)) hx hb dX2_up_24 (lN_mul _ _) ?_
    exact hx_lret S hr hw dX2_up_25
  · rw [if_pos hc]
    refine lv_ldc2 (v := lN 8) hx hb hown (hts (.constantLong RX2 69 (lN 8)) (by decide +kernel)) dX2_up_6 ?_
    refine lv_goto (tgt := 25) hx hb dX2_up_9 (by decide) ?_
    exact hx_lret S hr hw dX2_up_25
set_option maxHeartbeats 4000000 in
set_option maxRecDepth 100000 in
theorem m_read (l : Launch) (hst : l.stackTraces = false) (D : va_G) (tys : List (ClassId × FieldType)) (cB : ClassId) (ht : tys[1]? = some (cB, .byte)) (k0 k1 : Nat) (u : ph_H) (th : Int32) (bf : Int64) (a : Nat) (ha : ph_in a) : hx_R l D tys yX2_read wsX2_read 6 82 [.ref k0, .long (lN a)] (hm_W cB k0 k1 u th bf) (hm_W cB k0 k1 u th bf) (some (.int (nI (ph_b u.1 a)))) := by
  refine hx_R.ofW (cc := cX2_read) (maxL := 3) (ret := (some .int)) (by decide) rfl (Nat.le_of_ble_eq_true rfl) ?_
  intro p e s m below meth c A ls hr S hw hl
  have S : hx_S p l s m _ meth c cX2_read 3 wsX2_read RX2 A D tys := S
  obtain ⟨⟨hx, hb, hml, hown, hts⟩, hK, hA, hE, hlk⟩ := id S
  have hi2 : ∀ w ∈ wsX20, w ∈ wsX2_read := by decide +kernel
  have hl : lv_has ls 3 [(0, .ref k0), (1, .long (lN a))] := hl
  refine lv_lload_n hx hb dX2_read_0 rfl (lv_at hl 1 rfl) ?_
  refine hx_callS (rest := []) (n := 1) S hw (m_there l hst D tys cB ht k0 k1 u th bf (a) (by omega)) gX2_read_X2_there rfl (by decide +kernel) rfl ⟨Nat.le_of_ble_eq_true rfl, Nat.le_of_ble_eq_true rfl⟩ hm_adr hl.1 rfl (Nat.le_of_ble_eq_true rfl) ⟨by decide, by decide⟩ dX2_read_1 (fun H locs hw => ?_)
  refine W.eq (g2 := F0 m 4 ls [.int (if ph_in (a) then nI 1 else nI 0)]) rfl ?_
  refine hn_pne (tgt := 15) hx hb dX2_read_4 (by decide) (fun hc => ?_) (fun hc => ?_)
  · refine lv_aload_n hx hb dX2_read_15 rfl (lv_at hl 0 rfl) ?_
    refine va_get (D := D) (ci := 2) (v := .ref k1) (C := RX2) (T := TX2) (N := 5) hx hb hts hi2 hown hK hw.1 0 rfl rfl 0 (by decide) (hts (.fieldLink RX2 10 "HeapRowModel" "memory" "[B") (by decide +kernel)) (fun _ h9 => h9) rfl dX2_read_16 ?_
    refine lv_lload_n hx hb dX2_read_19 rfl (lv_at hl 1 rfl) ?_
    refine lv_l2i (v := nI a) hx hb dX2_read_20 (lN_i _) ?_
    refine hn_bald hx hb hK hw.1 1 1 rfl ht (k := a) (by omega) (by decide) dX2_read_21 ?_
    refine lv_sipush (v := nI 255) hx hb dX2_read_22 (by decide +kernel) ?_
    refine hn_iand (v := nI (ph_b u.1 a)) hx hb dX2_read_25 (sb_byte _ (ph_b_lt u.1 a)).1 ?_
    exact hx_iret S hr hw dX2_read_26
  · exact absurd ha hc
set_option maxHeartbeats 4000000 in
set_option maxRecDepth 100000 in
theorem mx_read (l : Launch) (hst : l.stackTraces = false) (D : va_G) (tys : List (ClassId × FieldType)) (cB : ClassId) (ht : tys[1]? = some (cB, .byte)) (k0 k1 : Nat) (u : ph_H) (th : Int32) (bf : Int64) (a : Nat) (hb63 : a < 9223372036854775808) (ha : ¬ ph_in a) : hx_X l D tys yX2_read wsX2_read 6 82 [.ref k0, .long (lN a)] (hm_W cB k0 k1 u th bf) (hm_W cB k0 k1 u th bf) := by
  refine hx_X.ofW (cc := cX2_read) (maxL := 3) (ret := (some .int)) (by decide) rfl (Nat.le_of_ble_eq_true rfl) ?_
  intro p e s m below meth c A ls hr S hno hw hl
  have S : hx_S p l s m _ meth c cX2_read 3 wsX2_read RX2 A D tys := S
  obtain ⟨⟨hx, hb, hml, hown, hts⟩, hK, hA, hE, hlk⟩ := id S
  have hi2 : ∀ w ∈ wsX20, w ∈ wsX2_read := by decide +kernel
  have hl : lv_has ls 3 [(0, .ref k0), (1, .long (lN a))] := hl
  refine lv_lload_n hx hb dX2_read_0 rfl (lv_at hl 1 rfl) ?_
  refine hx_callS (rest := []) (n := 1) S hw (m_there l hst D tys cB ht k0 k1 u th bf (a) (by omega)) gX2_read_X2_there rfl (by decide +kernel) rfl ⟨Nat.le_of_ble_eq_true rfl, Nat.le_of_ble_eq_true rfl⟩ hm_adr hl.1 rfl (Nat.le_of_ble_eq_true rfl) ⟨by decide, by decide⟩ dX2_read_1 (fun H locs hw => ?_)
  refine W.eq (g2 := F0 m 4 ls [.int (if ph_in (a) then nI 1 else nI 0)]) rfl ?_
  refine hn_pne (tgt := 15) hx hb dX2_read_4 (by decide) (fun hc => ?_) (fun hc => ?_)
  · exact absurd hc ha
  · exact hx_new0 S hst hno hw (List.mem_of_getElem? (i := 1) rfl) (List.mem_of_getElem? (i := 2) rfl) (fun w h => List.mem_cons_of_mem _ (List.mem_append_right _ h)) tb_M to_M hl.1 dX2_read_7 dX2_read_10 dX2_read_11 dX2_read_14 ⟨by decide, by decide, by decide, by decide⟩
set_option maxHeartbeats 4000000 in
set_option maxRecDepth 100000 in
theorem m_write (l : Launch) (hst : l.stackTraces = false) (D : va_G) (tys : List (ClassId × FieldType)) (cB : ClassId) (ht : tys[1]? = some (cB, .byte)) (k0 k1 : Nat) (u : ph_H) (th : Int32) (bf : Int64) (a : Nat) (v : Int32) (ha : ph_in a) : hx_R l D tys yX2_write wsX2_write 6 82 [.ref k0, .long (lN a), .int v] (hm_W cB k0 k1 u th bf) (hm_W cB k0 k1 (ph_sb u.1 a v.toBitVec.toNat, u.2) th bf) (none) := by
  refine hx_R.ofW (cc := cX2_write) (maxL := 4) (ret := none) (by decide) rfl (Nat.le_of_ble_eq_true rfl) ?_
  intro p e s m below meth c A ls hr S hw hl
  have S : hx_S p l s m _ meth c cX2_write 4 wsX2_write RX2 A D tys := S
  obtain ⟨⟨hx, hb, hml, hown, hts⟩, hK, hA, hE, hlk⟩ := id S
  have hi2 : ∀ w ∈ wsX20, w ∈ wsX2_write := by decide +kernel
  have hl : lv_has ls 4 [(0, .ref k0), (1, .long (lN a)), (3, .int v)] := hl
  refine lv_lload_n hx hb dX2_write_0 rfl (lv_at hl 1 rfl) ?_
  refine hx_callS (rest := []) (n := 1) S hw (m_there l hst D tys cB ht k0 k1 u th bf (a) (by omega)) gX2_write_X2_there rfl (by decide +kernel) rfl ⟨Nat.le_of_ble_eq_true rfl, Nat.le_of_ble_eq_true rfl⟩ hm_adr hl.1 rfl (Nat.le_of_ble_eq_true rfl) ⟨by decide, by decide⟩ dX2_write_1 (fun H locs hw => ?_)
  refine W.eq (g2 := F0 m 4 ls [.int (if ph_in (a) then nI 1 else nI 0)]) rfl ?_
  refine hn_pne (tgt := 15) hx hb dX2_write_4 (by decide) (fun hc => ?_) (fun hc => ?_)
  · refine lv_aload_n hx hb dX2_write_15 rfl (lv_at hl 0 rfl) ?_
    refine va_get (D := D) (ci := 2) (v := .ref k1) (C := RX2) (T := TX2) (N := 5) hx hb hts hi2 hown hK hw.1 0 rfl rfl 0 (by decide) (hts (.fieldLink RX2 10 "HeapRowModel" "memory" "[B") (by decide +kernel)) (fun _ h9 => h9) rfl dX2_write_16 ?_
    refine lv_lload_n hx hb dX2_write_19 rfl (lv_at hl 1 rfl) ?_
    refine lv_l2i (v := nI a) hx hb dX2_write_20 (lN_i _) ?_
    refine lv_iload_n hx hb dX2_write_21 rfl (lv_at hl 2 rfl) ?_
    refine lv_i2b (v := v.toInt8.toInt32) hx hb dX2_write_22 rfl ?_
    refine hn_bast hx hb hK hw 1 1 rfl ht (k := a) (by omega) (by decide) dX2_write_23 (fun H locs hw => ?_)
    have hw : hx_w D A s.heap (hm_W cB k0 k1 (ph_sb u.1 a v.toBitVec.toNat, u.2) th bf) H locs := by
      show hx_w D A s.heap [(k0, .inr (2, [.ref k1, .int (nI u.2.1), .int (nI u.2.2), .int th, .long bf])), (k1, .inl (cB, 65536, .inl (fun j => sb_b (ph_b (ph_sb u.1 a v.toBitVec.toNat) j))))] H locs
      rw [← hm_store u.1 a v]
      exact hw
    exact hx_vret S hr hw dX2_write_24
  · exact absurd ha hc
set_option maxHeartbeats 4000000 in
set_option maxRecDepth 100000 in
theorem mx_write (l : Launch) (hst : l.stackTraces = false) (D : va_G) (tys : List (ClassId × FieldType)) (cB : ClassId) (ht : tys[1]? = some (cB, .byte)) (k0 k1 : Nat) (u : ph_H) (th : Int32) (bf : Int64) (a : Nat) (v : Int32) (hb63 : a < 9223372036854775808) (ha : ¬ ph_in a) : hx_X l D tys yX2_write wsX2_write 6 82 [.ref k0, .long (lN a), .int v] (hm_W cB k0 k1 u th bf) (hm_W cB k0 k1 u th bf) := by
  refine hx_X.ofW (cc := cX2_write) (maxL := 4) (ret := none) (by decide) rfl (Nat.le_of_ble_eq_true rfl) ?_
  intro p e s m below meth c A ls hr S hno hw hl
  have S : hx_S p l s m _ meth c cX2_write 4 wsX2_write RX2 A D tys := S
  obtain ⟨⟨hx, hb, hml, hown, hts⟩, hK, hA, hE, hlk⟩ := id S
  have hi2 : ∀ w ∈ wsX20, w ∈ wsX2_write := by decide +kernel
  have hl : lv_has ls 4 [(0, .ref k0), (1, .long (lN a)), (3, .int v)] := hl
  refine lv_lload_n hx hb dX2_write_0 rfl (lv_at hl 1 rfl) ?_
  refine hx_callS (rest := []) (n := 1) S hw (m_there l hst D tys cB ht k0 k1 u th bf (a) (by omega)) gX2_write_X2_there rfl (by decide +kernel) rfl ⟨Nat.le_of_ble_eq_true rfl, Nat.le_of_ble_eq_true rfl⟩ hm_adr hl.1 rfl (Nat.le_of_ble_eq_true rfl) ⟨by decide, by decide⟩ dX2_write_1 (fun H locs hw => ?_)
  refine W.eq (g2 := F0 m 4 ls [.int (if ph_in (a) then nI 1 else nI 0)]) rfl ?_
  refine hn_pne (tgt := 15) hx hb dX2_write_4 (by decide) (fun hc => ?_) (fun hc => ?_)
  · exact absurd hc ha
  · exact hx_new0 S hst hno hw (List.mem_of_getElem? (i := 1) rfl) (List.mem_of_getElem? (i := 2) rfl) (fun w h => List.mem_cons_of_mem _ (List.mem_append_right _ h)) tb_M to_M hl.1 dX2_write_7 dX2_write_10 dX2_write_11 dX2_write_14 ⟨by decide, by decide, by decide, by decide⟩
theorem m_writeK (l : Launch) (hst : l.stackTraces = false) (D : va_G) (tys : List (ClassId × FieldType)) (cB : ClassId) (ht : tys[1]? = some (cB, .byte)) (k0 k1 : Nat) (u : ph_H) (th : Int32) (bf : Int64) (a x k q : Nat) (hx32 : x < 4294967296) (hk : k = 0 ∨ k = 8 ∨ k = 16 ∨ k = 24) (hq : x / 2 ^ k = q) (ha : ph_in a) : hx_R l D tys yX2_write wsX2_write 6 82 [.ref k0, .long (lN a), .int (nI x >>> (nI k &&& 31))] (hm_W cB k0 k1 u th bf) (hm_W cB k0 k1 (ph_sb u.1 a q, u.2) th bf) none := by
  have h := m_write l hst D tys cB ht k0 k1 u th bf a (nI x >>> (nI k &&& 31)) ha
  rw [hp_sb u.1 a _ q (by rw [hm_shr hx32 k hk, hq])] at h
  exact h
theorem m_writeN (l : Launch) (hst : l.stackTraces = false) (D : va_G) (tys : List (ClassId × FieldType)) (cB : ClassId) (ht : tys[1]? = some (cB, .byte)) (k0 k1 : Nat) (u : ph_H) (th : Int32) (bf : Int64) (a x : Nat) (hx32 : x < 4294967296) (ha : ph_in a) : hx_R l D tys yX2_write wsX2_write 6 82 [.ref k0, .long (lN a), .int (nI x)] (hm_W cB k0 k1 u th bf) (hm_W cB k0 k1 (ph_sb u.1 a x, u.2) th bf) none := by
  have h := m_write l hst D tys cB ht k0 k1 u th bf a (nI x) ha
  rw [pw_nb, Nat.mod_eq_of_lt (show x < 2 ^ 32 from hx32)] at h
  exact h
set_option maxHeartbeats 4000000 in
set_option maxRecDepth 100000 in
theorem m_number (l : Launch) (hst : l.stackTraces = false) (D : va_G) (tys : List (ClassId × FieldType)) (cB : ClassId) (ht : tys[1]? = some (cB, .byte)) (k0 k1 : Nat) (u : ph_H) (th : Int32) (bf : Int64) (a : Nat) (ha : ph_i4 a) : hx_R l D tys yX2_number wsX2_number 7 104 [.ref k0, .long (lN a)] (hm_W cB k0 k1 u th bf) (hm_W cB k0 k1 u th bf) (some (.int (nI (ph_n u.1 a)))) := by
  refine hx_R.ofW (cc := cX2_number) (maxL := 5) (ret := (some .int)) (by decide) rfl (Nat.le_of_ble_eq_true rfl) ?_
  intro p e s m below meth c A ls hr S hw hl
  have S : hx_S p l s m _ meth c cX2_number 5 wsX2_number RX2 A D tys := S
  obtain ⟨⟨hx, hb, hml, hown, hts⟩, hK, hA, hE, hlk⟩ := id S
  have hl : lv_has ls 5 [(0, .ref k0), (1, .long (lN a))] := hl
  have hb0 := ph_b_lt u.1 (a + 0)
  have hb1 := ph_b_lt u.1 (a + 1)
  have hb2 := ph_b_lt u.1 (a + 2)
  have hb3 := ph_b_lt u.1 (a + 3)
  refine lv_iconst (v := nI 0) hx hb dX2_number_0 (by decide +kernel) ?_
  refine lv_istore_n (lv' := [(3, .int (nI 0)), (0, .ref k0), (1, .long (lN a))]) hx hb dX2_number_1 rfl hl (by decide) rfl (fun ls hl => ?_)
  refine lv_iconst (v := nI 0) hx hb dX2_number_2 (by decide +kernel) ?_
  refine lv_istore (lv' := [(4, .int (nI 0)), (3, .int (nI 0)), (0, .ref k0), (1, .long (lN a))]) hx hb dX2_number_3 hl (by decide) rfl (fun ls hl => ?_)
  refine lv_iload hx hb dX2_number_5 (lv_at hl 0 rfl) ?_
  refine lv_iconst (v := nI 4) hx hb dX2_number_7 (by decide +kernel) ?_
  refine hn_ige (a := 0) (b := 4) (tgt := 35) hx hb (by decide) (by decide) dX2_number_8 (by decide) (fun hc => absurd hc (by decide)) (fun _ => ?_)
  refine lv_iload_n hx hb dX2_number_11 rfl (lv_at hl 1 rfl) ?_
  refine lv_aload_n hx hb dX2_number_12 rfl (lv_at hl 2 rfl) ?_
  refine lv_lload_n hx hb dX2_number_13 rfl (lv_at hl 3 rfl) ?_
  refine lv_iload hx hb dX2_number_14 (lv_at hl 0 rfl) ?_
  refine lv_i2l (v := lN 0) hx hb dX2_number_16 (nI_l (by omega)) ?_
  refine hn_ladd (v := lN (a + 0)) hx hb dX2_number_17 (lN_add _ _) ?_
  refine hx_callV (rest := [.int (nI 0)]) (n := 1) S hw (m_read l hst D tys cB ht k0 k1 u th bf (a + 0) ⟨by omega, by omega⟩) gX2_number_X2_read rfl (by decide +kernel) rfl ⟨Nat.le_of_ble_eq_true rfl, Nat.le_of_ble_eq_true rfl⟩ 0 2 rfl rfl hm_adr hl.1 rfl (Nat.le_of_ble_eq_true rfl) ⟨by decide, by decide⟩ dX2_number_18 (fun H locs hw => ?_)
  refine W.eq (g2 := F0 m 21 ls [.int (nI (ph_b u.1 (a + 0))), .int (nI 0)]) rfl ?_
  refine lv_bipush (v := nI 8) hx hb dX2_number_21 (by decide +kernel) ?_
  refine lv_iload hx hb dX2_number_23 (lv_at hl 0 rfl) ?_
  refine hn_imul (v := nI 0) hx hb dX2_number_25 (pk_mul _ _) ?_
  refine hn_ishl (v := nI (ph_b u.1 (a + 0) * 2 ^ 0)) hx hb dX2_number_26 (hm_shl (by decide) (by omega)) ?_
  refine hn_ior (v := nI (0 + ph_b u.1 (a + 0) * 2 ^ 0)) hx hb dX2_number_27 (hm_or (a := 0) (by omega) (by omega)) ?_
  refine lv_istore_n (lv' := [(3, .int (nI (0 + ph_b u.1 (a + 0) * 2 ^ 0))), (4, .int (nI 0)), (0, .ref k0), (1, .long (lN a))]) hx hb dX2_number_28 rfl hl (by decide) rfl (fun ls hl => ?_)
  refine lv_iinc (v := nI 1) (lv' := [(4, .int (nI 1)), (3, .int (nI (0 + ph_b u.1 (a + 0) * 2 ^ 0))), (0, .ref k0), (1, .long (lN a))]) hx hb dX2_number_29 hl (k := 1) rfl (by decide +kernel) (by decide) rfl (fun ls hl => ?_)
  refine lv_goto (tgt := 5) hx hb dX2_number_32 (by decide) ?_
  refine lv_iload hx hb dX2_number_5 (lv_at hl 0 rfl) ?_
  refine lv_iconst (v := nI 4) hx hb dX2_number_7 (by decide +kernel) ?_
  refine hn_ige (a := 1) (b := 4) (tgt := 35) hx hb (by decide) (by decide) dX2_number_8 (by decide) (fun hc => absurd hc (by decide)) (fun _ => ?_)
  refine lv_iload_n hx hb dX2_number_11 rfl (lv_at hl 1 rfl) ?_
  refine lv_aload_n hx hb dX2_number_12 rfl (lv_at hl 2 rfl) ?_
  refine lv_lload_n hx hb dX2_number_13 rfl (lv_at hl 3 rfl) ?_
  refine lv_iload hx hb dX2_number_14 (lv_at hl 0 rfl) ?_
  refine lv_i2l (v := lN 1) hx hb dX2_number_16 (nI_l (by omega)) ?_
  refine hn_ladd (v := lN (a + 1)) hx hb dX2_number_17 (lN_add _ _) ?_
  refine hx_callV (rest := [.int (nI (0 + ph_b u.1 (a + 0) * 2 ^ 0))]) (n := 1) S hw (m_read l hst D tys cB ht k0 k1 u th bf (a + 1) ⟨by omega, by omega⟩) gX2_number_X2_read rfl (by decide +kernel) rfl ⟨Nat.le_of_ble_eq_true rfl, Nat.le_of_ble_eq_true rfl⟩ 0 2 rfl rfl hm_adr hl.1 rfl (Nat.le_of_ble_eq_true rfl) ⟨by decide, by decide⟩ dX2_number_18 (fun H locs hw => ?_)
  refine W.eq (g2 := F0 m 21 ls [.int (nI (ph_b u.1 (a + 1))), .int (nI (0 + ph_b u.1 (a + 0) * 2 ^ 0))]) rfl ?_
  refine lv_bipush (v := nI 8) hx hb dX2_number_21 (by decide +kernel) ?_
  refine lv_iload hx hb dX2_number_23 (lv_at hl 0 rfl) ?_
  refine hn_imul (v := nI 8) hx hb dX2_number_25 (pk_mul _ _) ?_
  refine hn_ishl (v := nI (ph_b u.1 (a + 1) * 2 ^ 8)) hx hb dX2_number_26 (hm_shl (by decide) (by omega)) ?_
  refine hn_ior (v := nI ((0 + ph_b u.1 (a + 0) * 2 ^ 0) + ph_b u.1 (a + 1) * 2 ^ 8)) hx hb dX2_number_27 (hm_or (a := (0 + ph_b u.1 (a + 0) * 2 ^ 0)) (by omega) (by omega)) ?_
  refine lv_istore_n (lv' := [(3, .int (nI ((0 + ph_b u.1 (a + 0) * 2 ^ 0) + ph_b u.1 (a + 1) * 2 ^ 8))), (4, .int (nI 1)), (0, .ref k0), (1, .long (lN a))]) hx hb dX2_number_28 rfl hl (by decide) rfl (fun ls hl => ?_)
  refine lv_iinc (v := nI 2) (lv' := [(4, .int (nI 2)), (3, .int (nI ((0 + ph_b u.1 (a + 0) * 2 ^ 0) + ph_b u.1 (a + 1) * 2 ^ 8))), (0, .ref k0), (1, .long (lN a))]) hx hb dX2_number_29 hl (k := 1) rfl (by decide +kernel) (by decide) rfl (fun ls hl => ?_)
  refine lv_goto (tgt := 5) hx hb dX2_number_32 (by decide) ?_
  refine lv_iload hx hb dX2_number_5 (lv_at hl 0 rfl) ?_
  refine lv_iconst (v := nI 4) hx hb dX2_number_7 (by decide +kernel) ?_
  refine hn_ige (a := 2) (b := 4) (tgt := 35) hx hb (by decide) (by decide) dX2_number_8 (by decide) (fun hc => absurd hc (by decide)) (fun _ => ?_)
  refine lv_iload_n hx hb dX2_number_11 rfl (lv_at hl 1 rfl) ?_
  refine lv_aload_n hx hb dX2_number_12 rfl (lv_at hl 2 rfl) ?_
  refine lv_lload_n hx hb dX2_number_13 rfl (lv_at hl 3 rfl) ?_
  refine lv_iload hx hb dX2_number_14 (lv_at hl 0 rfl) ?_
  refine lv_i2l (v := lN 2) hx hb dX2_number_16 (nI_l (by omega)) ?_
  refine hn_ladd (v := lN (a + 2)) hx hb dX2_number_17 (lN_add _ _) ?_
  refine hx_callV (rest := [.int (nI ((0 + ph_b u.1 (a + 0) * 2 ^ 0) + ph_b u.1 (a + 1) * 2 ^ 8))]) (n := 1) S hw (m_read l hst D tys cB ht k0 k1 u th bf (a + 2) ⟨by omega, by omega⟩) gX2_number_X2_read rfl (by decide +kernel) rfl ⟨Nat.le_of_ble_eq_true rfl, Nat.le_of_ble_eq_true rfl⟩ 0 2 rfl rfl hm_adr hl.1 rfl (Nat.le_of_ble_eq_true rfl) ⟨by decide, by decide⟩ dX2_number_18 (fun H locs hw => ?_)
  refine W.eq (g2 := F0 m 21 ls [.int (nI (ph_b u.1 (a + 2))), .int (nI ((0 + ph_b u.1 (a + 0) * 2 ^ 0) + ph_b u.1 (a + 1) * 2 ^ 8))]) rfl ?_
  refine lv_bipush (v := nI 8) hx hb dX2_number_21 (by decide +kernel) ?_
  refine lv_iload hx hb dX2_number_23 (lv_at hl 0 rfl) ?_
  refine hn_imul (v := nI 16) hx hb dX2_number_25 (pk_mul _ _) ?_
  refine hn_ishl (v := nI (ph_b u.1 (a + 2) * 2 ^ 16)) hx hb dX2_number_26 (hm_shl (by decide) (by omega)) ?_
  refine hn_ior (v := nI (((0 + ph_b u.1 (a + 0) * 2 ^ 0) + ph_b u.1 (a + 1) * 2 ^ 8) + ph_b u.1 (a + 2) * 2 ^ 16)) hx hb dX2_number_27 (hm_or (a := ((0 + ph_b u.1 (a + 0) * 2 ^ 0) + ph_b u.1 (a + 1) * 2 ^ 8)) (by omega) (by omega)) ?_
  refine lv_istore_n (lv' := [(3, .int (nI (((0 + ph_b u.1 (a + 0) * 2 ^ 0) + ph_b u.1 (a + 1) * 2 ^ 8) + ph_b u.1 (a + 2) * 2 ^ 16))), (4, .int (nI 2)), (0, .ref k0), (1, .long (lN a))]) hx hb dX2_number_28 rfl hl (by decide) rfl (fun ls hl => ?_)
  refine lv_iinc (v := nI 3) (lv' := [(4, .int (nI 3)), (3, .int (nI (((0 + ph_b u.1 (a + 0) * 2 ^ 0) + ph_b u.1 (a + 1) * 2 ^ 8) + ph_b u.1 (a + 2) * 2 ^ 16))), (0, .ref k0), (1, .long (lN a))]) hx hb dX2_number_29 hl (k := 1) rfl (by decide +kernel) (by decide) rfl (fun ls hl => ?_)
  refine lv_goto (tgt := 5) hx hb dX2_number_32 (by decide) ?_
  refine lv_iload hx hb dX2_number_5 (lv_at hl 0 rfl) ?_
  refine lv_iconst (v := nI 4) hx hb dX2_number_7 (by decide +kernel) ?_
  refine hn_ige (a := 3) (b := 4) (tgt := 35) hx hb (by decide) (by decide) dX2_number_8 (by decide) (fun hc => absurd hc (by decide)) (fun _ => ?_)
  refine lv_iload_n hx hb dX2_number_11 rfl (lv_at hl 1 rfl) ?_
  refine lv_aload_n hx hb dX2_number_12 rfl (lv_at hl 2 rfl) ?_
  refine lv_lload_n hx hb dX2_number_13 rfl (lv_at hl 3 rfl) ?_
  refine lv_iload hx hb dX2_number_14 (lv_at hl 0 rfl) ?_
  refine lv_i2l (v := lN 3) hx hb dX2_number_16 (nI_l (by omega)) ?_
  refine hn_ladd (v := lN (a + 3)) hx hb dX2_number_17 (lN_add _ _) ?_
  refine hx_callV (rest := [.int (nI (((0 + ph_b u.1 (a + 0) * 2 ^ 0) + ph_b u.1 (a + 1) * 2 ^ 8) + ph_b u.1 (a + 2) * 2 ^ 16))]) (n := 1) S hw (m_read l hst D tys cB ht k0 k1 u th bf (a + 3) ⟨by omega, by omega⟩) gX2_number_X2_read rfl (by decide +kernel) rfl ⟨Nat.le_of_ble_eq_true rfl, Nat.le_of_ble_eq_true rfl⟩ 0 2 rfl rfl hm_adr hl.1 rfl (Nat.le_of_ble_eq_true rfl) ⟨by decide, by decide⟩ dX2_number_18 (fun H locs hw => ?_)
  refine W.eq (g2 := F0 m 21 ls [.int (nI (ph_b u.1 (a + 3))), .int (nI (((0 + ph_b u.1 (a + 0) * 2 ^ 0) + ph_b u.1 (a + 1) * 2 ^ 8) + ph_b u.1 (a + 2) * 2 ^ 16))]) rfl ?_
  refine lv_bipush (v := nI 8) hx hb dX2_number_21 (by decide +kernel) ?_
  refine lv_iload hx hb dX2_number_23 (lv_at hl 0 rfl) ?_
  refine hn_imul (v := nI 24) hx hb dX2_number_25 (pk_mul _ _) ?_
  refine hn_ishl (v := nI (ph_b u.1 (a + 3) * 2 ^ 24)) hx hb dX2_number_26 (hm_shl (by decide) (by omega)) ?_
  refine hn_ior (v := nI ((((0 + ph_b u.1 (a + 0) * 2 ^ 0) + ph_b u.1 (a + 1) * 2 ^ 8) + ph_b u.1 (a + 2) * 2 ^ 16) + ph_b u.1 (a + 3) * 2 ^ 24)) hx hb dX2_number_27 (hm_or (a := (((0 + ph_b u.1 (a + 0) * 2 ^ 0) + ph_b u.1 (a + 1) * 2 ^ 8) + ph_b u.1 (a + 2) * 2 ^ 16)) (by omega) (by omega)) ?_
  refine lv_istore_n (lv' := [(3, .int (nI ((((0 + ph_b u.1 (a + 0) * 2 ^ 0) + ph_b u.1 (a + 1) * 2 ^ 8) + ph_b u.1 (a + 2) * 2 ^ 16) + ph_b u.1 (a + 3) * 2 ^ 24))), (4, .int (nI 3)), (0, .ref k0), (1, .long (lN a))]) hx hb dX2_number_28 rfl hl (by decide) rfl (fun ls hl => ?_)
  refine lv_iinc (v := nI 4) (lv' := [(4, .int (nI 4)), (3, .int (nI ((((0 + ph_b u.1 (a + 0) * 2 ^ 0) + ph_b u.1 (a + 1) * 2 ^ 8) + ph_b u.1 (a + 2) * 2 ^ 16) + ph_b u.1 (a + 3) * 2 ^ 24))), (0, .ref k0), (1, .long (lN a))]) hx hb dX2_number_29 hl (k := 1) rfl (by decide +kernel) (by decide) rfl (fun ls hl => ?_)
  refine lv_goto (tgt := 5) hx hb dX2_number_32 (by decide) ?_
  refine lv_iload hx hb dX2_number_5 (lv_at hl 0 rfl) ?_
  refine lv_iconst (v := nI 4) hx hb dX2_number_7 (by decide +kernel) ?_
  refine hn_ige (a := 4) (b := 4) (tgt := 35) hx hb (by decide) (by decide) dX2_number_8 (by decide) (fun _ => ?_) (fun hc => absurd hc (by decide))
  refine lv_iload_n hx hb dX2_number_35 rfl (lv_at hl 1 rfl) ?_
  rw [show ph_n u.1 a = ((((0 + ph_b u.1 (a + 0) * 2 ^ 0) + ph_b u.1 (a + 1) * 2 ^ 8) + ph_b u.1 (a + 2) * 2 ^ 16) + ph_b u.1 (a + 3) * 2 ^ 24) from by unfold ph_n; show _ = ((((0 + ph_b u.1 (a) * 2 ^ 0) + ph_b u.1 (a + 1) * 2 ^ 8) + ph_b u.1 (a + 2) * 2 ^ 16) + ph_b u.1 (a + 3) * 2 ^ 24); omega]
  exact hx_iret S hr hw dX2_number_36
set_option maxHeartbeats 4000000 in
set_option maxRecDepth 100000 in
theorem m_set (l : Launch) (hst : l.stackTraces = false) (D : va_G) (tys : List (ClassId × FieldType)) (cB : ClassId) (ht : tys[1]? = some (cB, .byte)) (k0 k1 : Nat) (u : ph_H) (th : Int32) (bf : Int64) (a x : Nat) (hx32 : x < 4294967296) (ha : ph_i4 a) : hx_R l D tys yX2_set wsX2_set 7 105 [.ref k0, .long (lN a), .int (nI x)] (hm_W cB k0 k1 u th bf) (hm_W cB k0 k1 (ph_sn u.1 a x, u.2) th bf) (none) := by
  refine hx_R.ofW (cc := cX2_set) (maxL := 5) (ret := none) (by decide) rfl (Nat.le_of_ble_eq_true rfl) ?_
  intro p e s m below meth c A ls hr S hw hl
  have S : hx_S p l s m _ meth c cX2_set 5 wsX2_set RX2 A D tys := S
  obtain ⟨⟨hx, hb, hml, hown, hts⟩, hK, hA, hE, hlk⟩ := id S
  have hl : lv_has ls 5 [(0, .ref k0), (1, .long (lN a)), (3, .int (nI x))] := hl
  refine lv_lload_n hx hb dX2_set_0 rfl (lv_at hl 1 rfl) ?_
  refine hx_callS (rest := []) (n := 1) S hw (m_there l hst D tys cB ht k0 k1 u th bf (a) (by omega)) gX2_set_X2_there rfl (by decide +kernel) rfl ⟨Nat.le_of_ble_eq_true rfl, Nat.le_of_ble_eq_true rfl⟩ hm_adr hl.1 rfl (Nat.le_of_ble_eq_true rfl) ⟨by decide, by decide⟩ dX2_set_1 (fun H locs hw => ?_)
  refine W.eq (g2 := F0 m 4 ls [.int (if ph_in (a) then nI 1 else nI 0)]) rfl ?_
  refine hn_peq (tgt := 18) hx hb dX2_set_4 (by decide) (fun hc => ?_) (fun hc => ?_)
  · exact absurd (⟨ha.1, by omega⟩ : ph_in a) hc
  · refine lv_lload_n hx hb dX2_set_7 rfl (lv_at hl 1 rfl) ?_
    refine lv_ldc2 (v := lN 3) hx hb hown (hts (.constantLong RX2 39 (lN 3)) (by decide +kernel)) dX2_set_8 ?_
    refine hn_ladd (v := lN (a + 3)) hx hb dX2_set_11 (lN_add _ _) ?_
    refine hx_callS (rest := []) (n := 1) S hw (m_there l hst D tys cB ht k0 k1 u th bf (a + 3) (by omega)) gX2_set_X2_there rfl (by decide +kernel) rfl ⟨Nat.le_of_ble_eq_true rfl, Nat.le_of_ble_eq_true rfl⟩ hm_adr hl.1 rfl (Nat.le_of_ble_eq_true rfl) ⟨by decide, by decide⟩ dX2_set_12 (fun H locs hw => ?_)
    refine W.eq (g2 := F0 m 15 ls [.int (if ph_in (a + 3) then nI 1 else nI 0)]) rfl ?_
    refine hn_pne (tgt := 26) hx hb dX2_set_15 (by decide) (fun hc2 => ?_) (fun hc2 => ?_)
    · refine lv_iconst (v := nI 0) hx hb dX2_set_26 (by decide +kernel) ?_
      refine lv_istore (lv' := [(4, .int (nI 0)), (0, .ref k0), (1, .long (lN a)), (3, .int (nI x))]) hx hb dX2_set_27 hl (by decide) rfl (fun ls hl => ?_)
      refine lv_iload hx hb dX2_set_29 (lv_at hl 0 rfl) ?_
      refine lv_iconst (v := nI 4) hx hb dX2_set_31 (by decide +kernel) ?_
      refine hn_ige (a := 0) (b := 4) (tgt := 57) hx hb (by decide) (by decide) dX2_set_32 (by decide) (fun hc => absurd hc (by decide)) (fun _ => ?_)
      refine lv_aload_n hx hb dX2_set_35 rfl (lv_at hl 1 rfl) ?_
      refine lv_lload_n hx hb dX2_set_36 rfl (lv_at hl 2 rfl) ?_
      refine lv_iload hx hb dX2_set_37 (lv_at hl 0 rfl) ?_
      refine lv_i2l (v := lN 0) hx hb dX2_set_39 (nI_l (by omega)) ?_
      refine hn_ladd (v := lN a) hx hb dX2_set_40 (lN_add a 0) ?_
      refine lv_iload_n hx hb dX2_set_41 rfl (lv_at hl 3 rfl) ?_
      refine lv_bipush (v := nI 8) hx hb dX2_set_42 (by decide +kernel) ?_
      refine lv_iload hx hb dX2_set_44 (lv_at hl 0 rfl) ?_
      refine hn_imul (v := nI 0) hx hb dX2_set_46 (pk_mul _ _) ?_
      refine hn_ishr (v := nI x >>> (nI 0 &&& 31)) hx hb dX2_set_47 rfl ?_
      refine hx_callV (rest := []) (n := 2) S hw (m_writeK l hst D tys cB ht k0 k1 u th bf (a) x 0 (x) hx32 (by omega) (by rw [Nat.pow_zero, Nat.div_one]) ⟨by omega, by omega⟩) gX2_set_X2_write rfl (by decide +kernel) rfl ⟨Nat.le_of_ble_eq_true rfl, Nat.le_of_ble_eq_true rfl⟩ 0 2 rfl rfl hm_adr hl.1 rfl (Nat.le_of_ble_eq_true rfl) ⟨by decide, by decide⟩ dX2_set_48 (fun H locs hw => ?_)
      refine W.eq (g2 := F0 m 51 ls []) rfl ?_
      refine lv_iinc (v := nI 1) (lv' := [(4, .int (nI 1)), (0, .ref k0), (1, .long (lN a)), (3, .int (nI x))]) hx hb dX2_set_51 hl (k := 0) rfl (by decide +kernel) (by decide) rfl (fun ls hl => ?_)
      refine lv_goto (tgt := 29) hx hb dX2_set_54 (by decide) ?_
      refine lv_iload hx hb dX2_set_29 (lv_at hl 0 rfl) ?_
      refine lv_iconst (v := nI 4) hx hb dX2_set_31 (by decide +kernel) ?_
      refine hn_ige (a := 1) (b := 4) (tgt := 57) hx hb (by decide) (by decide) dX2_set_32 (by decide) (fun hc => absurd hc (by decide)) (fun _ => ?_)
      refine lv_aload_n hx hb dX2_set_35 rfl (lv_at hl 1 rfl) ?_
      refine lv_lload_n hx hb dX2_set_36 rfl (lv_at hl 2 rfl) ?_
      refine lv_iload hx hb dX2_set_37 (lv_at hl 0 rfl) ?_
      refine lv_i2l (v := lN 1) hx hb dX2_set_39 (nI_l (by omega)) ?_
      refine hn_ladd (v := lN (a + 1)) hx hb dX2_set_40 (lN_add _ _) ?_
      refine lv_iload_n hx hb dX2_set_41 rfl (lv_at hl 3 rfl) ?_
      refine lv_bipush (v := nI 8) hx hb dX2_set_42 (by decide +kernel) ?_
      refine lv_iload hx hb dX2_set_44 (lv_at hl 0 rfl) ?_
      refine hn_imul (v := nI 8) hx hb dX2_set_46 (pk_mul _ _) ?_
      refine hn_ishr (v := nI x >>> (nI 8 &&& 31)) hx hb dX2_set_47 rfl ?_
      refine hx_callV (rest := []) (n := 2) S hw (m_writeK l hst D tys cB ht k0 k1 (ph_sb u.1 a x, u.2) th bf (a + 1) x 8 (x / 256) hx32 (by omega) (by rw [show (2 : Nat) ^ 8 = 256 from rfl]) ⟨by omega, by omega⟩) gX2_set_X2_write rfl (by decide +kernel) rfl ⟨Nat.le_of_ble_eq_true rfl, Nat.le_of_ble_eq_true rfl⟩ 0 2 rfl rfl hm_adr hl.1 rfl (Nat.le_of_ble_eq_true rfl) ⟨by decide, by decide⟩ dX2_set_48 (fun H locs hw => ?_)
      refine W.eq (g2 := F0 m 51 ls []) rfl ?_
      refine lv_iinc (v := nI 2) (lv' := [(4, .int (nI 2)), (0, .ref k0), (1, .long (lN a)), (3, .int (nI x))]) hx hb dX2_set_51 hl (k := 0) rfl (by decide +kernel) (by decide) rfl (fun ls hl => ?_)
      refine lv_goto (tgt := 29) hx hb dX2_set_54 (by decide) ?_
      refine lv_iload hx hb dX2_set_29 (lv_at hl 0 rfl) ?_
      refine lv_iconst (v := nI 4) hx hb dX2_set_31 (by decide +kernel) ?_
      refine hn_ige (a := 2) (b := 4) (tgt := 57) hx hb (by decide) (by decide) dX2_set_32 (by decide) (fun hc => absurd hc (by decide)) (fun _ => ?_)
      refine lv_aload_n hx hb dX2_set_35 rfl (lv_at hl 1 rfl) ?_
      refine lv_lload_n hx hb dX2_set_36 rfl (lv_at hl 2 rfl) ?_
      refine lv_iload hx hb dX2_set_37 (lv_at hl 0 rfl) ?_
      refine lv_i2l (v := lN 2) hx hb dX2_set_39 (nI_l (by omega)) ?_
      refine hn_ladd (v := lN (a + 2)) hx hb dX2_set_40 (lN_add _ _) ?_
      refine lv_iload_n hx hb dX2_set_41 rfl (lv_at hl 3 rfl) ?_
      refine lv_bipush (v := nI 8) hx hb dX2_set_42 (by decide +kernel) ?_
      refine lv_iload hx hb dX2_set_44 (lv_at hl 0 rfl) ?_
      refine hn_imul (v := nI 16) hx hb dX2_set_46 (pk_mul _ _) ?_
      refine hn_ishr (v := nI x >>> (nI 16 &&& 31)) hx hb dX2_set_47 rfl ?_
      refine hx_callV (rest := []) (n := 2) S hw (m_writeK l hst D tys cB ht k0 k1 (ph_sb (ph_sb u.1 a x) (a + 1) (x / 256), u.2) th bf (a + 2) x 16 (x / 65536) hx32 (by omega) (by rw [show (2 : Nat) ^ 16 = 65536 from rfl]) ⟨by omega, by omega⟩) gX2_set_X2_write rfl (by decide +kernel) rfl ⟨Nat.le_of_ble_eq_true rfl, Nat.le_of_ble_eq_true rfl⟩ 0 2 rfl rfl hm_adr hl.1 rfl (Nat.le_of_ble_eq_true rfl) ⟨by decide, by decide⟩ dX2_set_48 (fun H locs hw => ?_)
      refine W.eq (g2 := F0 m 51 ls []) rfl ?_
      refine lv_iinc (v := nI 3) (lv' := [(4, .int (nI 3)), (0, .ref k0), (1, .long (lN a)), (3, .int (nI x))]) hx hb dX2_set_51 hl (k := 0) rfl (by decide +kernel) (by decide) rfl (fun ls hl => ?_)
      refine lv_goto (tgt := 29) hx hb dX2_set_54 (by decide) ?_
      refine lv_iload hx hb dX2_set_29 (lv_at hl 0 rfl) ?_
      refine lv_iconst (v := nI 4) hx hb dX2_set_31 (by decide +kernel) ?_
      refine hn_ige (a := 3) (b := 4) (tgt := 57) hx hb (by decide) (by decide) dX2_set_32 (by decide) (fun hc => absurd hc (by decide)) (fun _ => ?_)
      refine lv_aload_n hx hb dX2_set_35 rfl (lv_at hl 1 rfl) ?_
      refine lv_lload_n hx hb dX2_set_36 rfl (lv_at hl 2 rfl) ?_
      refine lv_iload hx hb dX2_set_37 (lv_at hl 0 rfl) ?_
      refine lv_i2l (v := lN 3) hx hb dX2_set_39 (nI_l (by omega)) ?_
      refine hn_ladd (v := lN (a + 3)) hx hb dX2_set_40 (lN_add _ _) ?_
      refine lv_iload_n hx hb dX2_set_41 rfl (lv_at hl 3 rfl) ?_
      refine lv_bipush (v := nI 8) hx hb dX2_set_42 (by decide +kernel) ?_
      refine lv_iload hx hb dX2_set_44 (lv_at hl 0 rfl) ?_
      refine hn_imul (v := nI 24) hx hb dX2_set_46 (pk_mul _ _) ?_
      refine hn_ishr (v := nI x >>> (nI 24 &&& 31)) hx hb dX2_set_47 rfl ?_
      refine hx_callV (rest := []) (n := 2) S hw (m_writeK l hst D tys cB ht k0 k1 (ph_sb (ph_sb (ph_sb u.1 a x) (a + 1) (x / 256)) (a + 2) (x / 65536), u.2) th bf (a + 3) x 24 (x / 16777216) hx32 (by omega) (by rw [show (2 : Nat) ^ 24 = 16777216 from rfl]) ⟨by omega, by omega⟩) gX2_set_X2_write rfl (by decide +kernel) rfl ⟨Nat.le_of_ble_eq_true rfl, Nat.le_of_ble_eq_true rfl⟩ 0 2 rfl rfl hm_adr hl.1 rfl (Nat.le_of_ble_eq_true rfl) ⟨by decide, by decide⟩ dX2_set_48 (fun H locs hw => ?_)
      refine W.eq (g2 := F0 m 51 ls []) rfl ?_
      refine lv_iinc (v := nI 4) (lv' := [(4, .int (nI 4)), (0, .ref k0), (1, .long (lN a)), (3, .int (nI x))]) hx hb dX2_set_51 hl (k := 0) rfl (by decide +kernel) (by decide) rfl (fun ls hl => ?_)
      refine lv_goto (tgt := 29) hx hb dX2_set_54 (by decide) ?_
      refine lv_iload hx hb dX2_set_29 (lv_at hl 0 rfl) ?_
      refine lv_iconst (v := nI 4) hx hb dX2_set_31 (by decide +kernel) ?_
      refine hn_ige (a := 4) (b := 4) (tgt := 57) hx hb (by decide) (by decide) dX2_set_32 (by decide) (fun _ => ?_) (fun hc => absurd hc (by decide))
      exact hx_vret S hr hw dX2_set_57
    · exact absurd (⟨by omega, ha.2⟩ : ph_in (a + 3)) hc2
set_option maxHeartbeats 4000000 in
set_option maxRecDepth 100000 in
theorem mx_set (l : Launch) (hst : l.stackTraces = false) (D : va_G) (tys : List (ClassId × FieldType)) (cB : ClassId) (ht : tys[1]? = some (cB, .byte)) (k0 k1 : Nat) (u : ph_H) (th : Int32) (bf : Int64) (a x : Nat) (hb62 : a < 4611686018427387904) (ha : ¬ ph_i4 a) : hx_X l D tys yX2_set wsX2_set 7 105 [.ref k0, .long (lN a), .int (nI x)] (hm_W cB k0 k1 u th bf) (hm_W cB k0 k1 u th bf) := by
  refine hx_X.ofW (cc := cX2_set) (maxL := 5) (ret := none) (by decide) rfl (Nat.le_of_ble_eq_true rfl) ?_
  intro p e s m below meth c A ls hr S hno hw hl
  have S : hx_S p l s m _ meth c cX2_set 5 wsX2_set RX2 A D tys := S
  obtain ⟨⟨hx, hb, hml, hown, hts⟩, hK, hA, hE, hlk⟩ := id S
  have hl : lv_has ls 5 [(0, .ref k0), (1, .long (lN a)), (3, .int (nI x))] := hl
  refine lv_lload_n hx hb dX2_set_0 rfl (lv_at hl 1 rfl) ?_
  refine hx_callS (rest := []) (n := 1) S hw (m_there l hst D tys cB ht k0 k1 u th bf (a) (by omega)) gX2_set_X2_there rfl (by decide +kernel) rfl ⟨Nat.le_of_ble_eq_true rfl, Nat.le_of_ble_eq_true rfl⟩ hm_adr hl.1 rfl (Nat.le_of_ble_eq_true rfl) ⟨by decide, by decide⟩ dX2_set_1 (fun H locs hw => ?_)
  refine W.eq (g2 := F0 m 4 ls [.int (if ph_in (a) then nI 1 else nI 0)]) rfl ?_
  refine hn_peq (tgt := 18) hx hb dX2_set_4 (by decide) (fun hc => ?_) (fun hc => ?_)
  · exact hx_new0 S hst hno hw (List.mem_of_getElem? (i := 1) rfl) (List.mem_of_getElem? (i := 2) rfl) (fun w h => List.mem_cons_of_mem _ (List.mem_append_right _ h)) tb_M to_M hl.1 dX2_set_18 dX2_set_21 dX2_set_22 dX2_set_25 ⟨by decide, by decide, by decide, by decide⟩
  · refine lv_lload_n hx hb dX2_set_7 rfl (lv_at hl 1 rfl) ?_
    refine lv_ldc2 (v := lN 3) hx hb hown (hts (.constantLong RX2 39 (lN 3)) (by decide +kernel)) dX2_set_8 ?_
    refine hn_ladd (v := lN (a + 3)) hx hb dX2_set_11 (lN_add _ _) ?_
    refine hx_callS (rest := []) (n := 1) S hw (m_there l hst D tys cB ht k0 k1 u th bf (a + 3) (by omega)) gX2_set_X2_there rfl (by decide +kernel) rfl ⟨Nat.le_of_ble_eq_true rfl, Nat.le_of_ble_eq_true rfl⟩ hm_adr hl.1 rfl (Nat.le_of_ble_eq_true rfl) ⟨by decide, by decide⟩ dX2_set_12 (fun H locs hw => ?_)
    refine W.eq (g2 := F0 m 15 ls [.int (if ph_in (a + 3) then nI 1 else nI 0)]) rfl ?_
    refine hn_pne (tgt := 26) hx hb dX2_set_15 (by decide) (fun hc2 => ?_) (fun hc2 => ?_)
    · exact absurd (⟨hc.1, hc2.2⟩ : ph_i4 a) ha
    · exact hx_new0 S hst hno hw (List.mem_of_getElem? (i := 1) rfl) (List.mem_of_getElem? (i := 2) rfl) (fun w h => List.mem_cons_of_mem _ (List.mem_append_right _ h)) tb_M to_M hl.1 dX2_set_18 dX2_set_21 dX2_set_22 dX2_set_25 ⟨by decide, by decide, by decide, by decide⟩
set_option maxHeartbeats 4000000 in
set_option maxRecDepth 100000 in
theorem m_sizeAt (l : Launch) (hst : l.stackTraces = false) (D : va_G) (tys : List (ClassId × FieldType)) (cB : ClassId) (ht : tys[1]? = some (cB, .byte)) (k0 k1 : Nat) (u : ph_H) (th : Int32) (bf : Int64) (a : Nat) (ha : ph_i4 a) : hx_R l D tys yX2_sizeAt wsX2_sizeAt 8 128 [.ref k0, .long (lN a)] (hm_W cB k0 k1 u th bf) (hm_W cB k0 k1 u th bf) (some (.long (lN (ph_n u.1 a)))) := by
  refine hx_R.ofW (cc := cX2_sizeAt) (maxL := 3) (ret := (some .long)) (by decide) rfl (Nat.le_of_ble_eq_true rfl) ?_
  intro p e s m below meth c A ls hr S hw hl
  have S : hx_S p l s m _ meth c cX2_sizeAt 3 wsX2_sizeAt RX2 A D tys := S
  obtain ⟨⟨hx, hb, hml, hown, hts⟩, hK, hA, hE, hlk⟩ := id S
  have hl : lv_has ls 3 [(0, .ref k0), (1, .long (lN a))] := hl
  refine lv_aload_n hx hb dX2_sizeAt_0 rfl (lv_at hl 0 rfl) ?_
  refine lv_lload_n hx hb dX2_sizeAt_1 rfl (lv_at hl 1 rfl) ?_
  refine hx_callV (rest := []) (n := 1) S hw (m_number l hst D tys cB ht k0 k1 u th bf a ha) gX2_sizeAt_X2_number rfl (by decide +kernel) rfl ⟨Nat.le_of_ble_eq_true rfl, Nat.le_of_ble_eq_true rfl⟩ 0 2 rfl rfl hm_adr hl.1 rfl (Nat.le_of_ble_eq_true rfl) ⟨by decide, by decide⟩ dX2_sizeAt_2 (fun H locs hw => ?_)
  refine W.eq (g2 := F0 m 5 ls [.int (nI (ph_n u.1 a))]) rfl ?_
  refine hx_callS (rest := []) (n := 1) S hw (m_without l hst D tys cB ht k0 k1 u th bf (ph_n u.1 a) (ph_n_lt u.1 a)) gX2_sizeAt_X2_without rfl (by decide +kernel) rfl ⟨Nat.le_of_ble_eq_true rfl, Nat.le_of_ble_eq_true rfl⟩ hm_adr hl.1 rfl (Nat.le_of_ble_eq_true rfl) ⟨by decide, by decide⟩ dX2_sizeAt_5 (fun H locs hw => ?_)
  refine W.eq (g2 := F0 m 8 ls [.long (lN (ph_n u.1 a))]) rfl ?_
  exact hx_lret S hr hw dX2_sizeAt_8
set_option maxHeartbeats 4000000 in
set_option maxRecDepth 100000 in
theorem m_takenAt (l : Launch) (hst : l.stackTraces = false) (D : va_G) (tys : List (ClassId × FieldType)) (cB : ClassId) (ht : tys[1]? = some (cB, .byte)) (k0 k1 : Nat) (u : ph_H) (th : Int32) (bf : Int64) (a : Nat) (ha : ph_i4 (a + 4)) : hx_R l D tys yX2_takenAt wsX2_takenAt 8 128 [.ref k0, .long (lN a)] (hm_W cB k0 k1 u th bf) (hm_W cB k0 k1 u th bf) (some (.int (if ph_n u.1 (a + 4) = 1 then nI 1 else nI 0))) := by
  refine hx_R.ofW (cc := cX2_takenAt) (maxL := 3) (ret := (some .boolean)) (by decide) rfl (Nat.le_of_ble_eq_true rfl) ?_
  intro p e s m below meth c A ls hr S hw hl
  have S : hx_S p l s m _ meth c cX2_takenAt 3 wsX2_takenAt RX2 A D tys := S
  obtain ⟨⟨hx, hb, hml, hown, hts⟩, hK, hA, hE, hlk⟩ := id S
  have hl : lv_has ls 3 [(0, .ref k0), (1, .long (lN a))] := hl
  refine lv_aload_n hx hb dX2_takenAt_0 rfl (lv_at hl 0 rfl) ?_
  refine lv_lload_n hx hb dX2_takenAt_1 rfl (lv_at hl 1 rfl) ?_
  refine lv_ldc2 (v := lN 4) hx hb hown (hts (.constantLong RX2 54 (lN 4)) (by decide +kernel)) dX2_takenAt_2 ?_
  refine hn_ladd (v := lN (a + 4)) hx hb dX2_takenAt_5 (lN_add _ _) ?_
  refine hx_callV (rest := []) (n := 1) S hw (m_number l hst D tys cB ht k0 k1 u th bf (a + 4) ha) gX2_takenAt_X2_number rfl (by decide +kernel) rfl ⟨Nat.le_of_ble_eq_true rfl, Nat.le_of_ble_eq_true rfl⟩ 0 2 rfl rfl hm_adr hl.1 rfl (Nat.le_of_ble_eq_true rfl) ⟨by decide, by decide⟩ dX2_takenAt_6 (fun H locs hw => ?_)
  refine W.eq (g2 := F0 m 9 ls [.int (nI (ph_n u.1 (a + 4)))]) rfl ?_
  refine lv_iconst (v := nI 1) hx hb dX2_takenAt_9 (by decide +kernel) ?_
  refine lv_icmp_ne (tgt := 17) hx hb dX2_takenAt_10 (by decide) (fun hc => ?_) (fun hc => ?_)
  · rw [if_neg (fun z => hc (by rw [z]))]
    refine lv_iconst (v := nI 0) hx hb dX2_takenAt_17 (by decide +kernel) ?_
    exact hx_zret S hr rfl hw dX2_takenAt_18
  · rw [if_pos ((hm_eq (ph_n_lt u.1 (a + 4)) (by decide)).mp hc)]
    refine lv_iconst (v := nI 1) hx hb dX2_takenAt_13 (by decide +kernel) ?_
    refine lv_goto (tgt := 18) hx hb dX2_takenAt_14 (by decide) ?_
    exact hx_zret S hr rfl hw dX2_takenAt_18
