/-! HeapRowModel: the methods that the law calls -/
set_option maxHeartbeats 4000000 in
set_option maxRecDepth 100000 in
theorem m_allocate (l : Launch) (hst : l.stackTraces = false) (D : va_G) (tys : List (ClassId × FieldType)) (cB : ClassId) (ht : tys[1]? = some (cB, .byte)) (k0 k1 : Nat) (u : ph_H) (th : Int32) (bf : Int64) (n x : Nat) (u2 : ph_H) (hu : ph_I u) (hn : n < 4294967296) (h : ph_take u n = (some x, u2)) : hx_K l D tys yX2_allocate wsX2_allocate 10 179 [.ref k0, .int (nI n)] (hm_W cB k0 k1 u th bf) (hm_W cB k0 k1 u2 (nI 0) bf) (some (.int (nI x))) := by
  refine hx_K.ofW (cc := cX2_allocate) (maxL := 3) (ret := (some .int)) (hh := [(5, 13, 14, 32)]) (by decide) rfl (Nat.le_of_ble_eq_true rfl) ?_
  intro p e s m below meth c A ls hr S htab hw hl
  have S : hx_S p l s m _ meth c cX2_allocate 3 wsX2_allocate RX2 A D tys := S
  obtain ⟨⟨hx, hb, hml, hown, hts⟩, hK, hA, hE, hlk⟩ := id S
  have hi2 : ∀ w ∈ wsX20, w ∈ wsX2_allocate := by decide +kernel
  have hl : lv_has ls 3 [(0, .ref k0), (1, .int (nI n))] := hl
  refine lv_aload_n hx hb dX2_allocate_0 rfl (lv_at hl 0 rfl) ?_
  refine lv_iconst (v := nI 0) hx hb dX2_allocate_1 (by decide +kernel) ?_
  refine va_put (D := D) (ci := 2) (v := .int (nI 0)) (ty := .int) (C := RX2) (T := TX2) (N := 5) hx hb hts hi2 tyX2 tyX2_ok nmX2 hown hK hw.1 hw.2.1 hw.2.2 0 rfl rfl 3 (by decide) (hts (.fieldLink RX2 21 "HeapRowModel" "thrown" "I") (by decide +kernel)) (fun _ h9 => h9) rfl (by decide +kernel) rfl rfl (Nat.le_of_ble_eq_true rfl) dX2_allocate_2 (fun H locs y1 y2 y3 => ?_)
  have hw : hx_w D A s.heap (hm_W cB k0 k1 u (nI 0) bf) H locs := ⟨y1, y2, y3⟩
  refine lv_aload_n hx hb dX2_allocate_5 rfl (lv_at hl 0 rfl) ?_
  refine lv_iload_n hx hb dX2_allocate_6 rfl (lv_at hl 1 rfl) ?_
  refine hx_callS (rest := [.ref k0]) (n := 1) S hw (m_without l hst D tys cB ht k0 k1 u (nI 0) bf n (by omega)) gX2_allocate_X2_without rfl (by decide +kernel) rfl ⟨Nat.le_of_ble_eq_true rfl, Nat.le_of_ble_eq_true rfl⟩ hm_adr hl.1 rfl (Nat.le_of_ble_eq_true rfl) ⟨by decide, by decide⟩ dX2_allocate_7 (fun H locs hw => ?_)
  refine W.eq (g2 := F0 m 10 ls [.long (lN n), .ref k0]) rfl ?_
  refine hx_callV (rest := []) (n := 1) S hw (m_take l hst D tys cB ht k0 k1 u (nI 0) bf n x u2 hu hn h) gX2_allocate_X2_take rfl (by decide +kernel) rfl ⟨Nat.le_of_ble_eq_true rfl, Nat.le_of_ble_eq_true rfl⟩ 0 2 rfl rfl hm_adr hl.1 rfl (Nat.le_of_ble_eq_true rfl) ⟨by decide, by decide⟩ dX2_allocate_10 (fun H locs hw => ?_)
  refine W.eq (g2 := F0 m 13 ls [.int (nI x)]) rfl ?_
  refine W.widen (k := 1) (n := 6) (by omega) (by omega) ?_
  exact hx_iret S hr hw dX2_allocate_13
set_option maxHeartbeats 4000000 in
set_option maxRecDepth 100000 in
theorem m_allocateX (l : Launch) (hst : l.stackTraces = false) (D : va_G) (tys : List (ClassId × FieldType)) (cB : ClassId) (ht : tys[1]? = some (cB, .byte)) (k0 k1 : Nat) (u : ph_H) (th : Int32) (bf : Int64) (n : Nat) (u2 : ph_H) (hu : ph_I u) (hn : n < 4294967296) (h : ph_take u n = (none, u2)) : hx_K l D tys yX2_allocate wsX2_allocate 10 179 [.ref k0, .int (nI n)] (hm_W cB k0 k1 u th bf) (hm_W cB k0 k1 u2 (nI 1) bf) (some (.int (nI 0))) := by
  refine hx_K.ofW (cc := cX2_allocate) (maxL := 3) (ret := (some .int)) (hh := [(5, 13, 14, 32)]) (by decide) rfl (Nat.le_of_ble_eq_true rfl) ?_
  intro p e s m below meth c A ls hr S htab hw hl
  have S : hx_S p l s m _ meth c cX2_allocate 3 wsX2_allocate RX2 A D tys := S
  obtain ⟨⟨hx, hb, hml, hown, hts⟩, hK, hA, hE, hlk⟩ := id S
  have hi2 : ∀ w ∈ wsX20, w ∈ wsX2_allocate := by decide +kernel
  have hl : lv_has ls 3 [(0, .ref k0), (1, .int (nI n))] := hl
  refine lv_aload_n hx hb dX2_allocate_0 rfl (lv_at hl 0 rfl) ?_
  refine lv_iconst (v := nI 0) hx hb dX2_allocate_1 (by decide +kernel) ?_
  refine va_put (D := D) (ci := 2) (v := .int (nI 0)) (ty := .int) (C := RX2) (T := TX2) (N := 5) hx hb hts hi2 tyX2 tyX2_ok nmX2 hown hK hw.1 hw.2.1 hw.2.2 0 rfl rfl 3 (by decide) (hts (.fieldLink RX2 21 "HeapRowModel" "thrown" "I") (by decide +kernel)) (fun _ h9 => h9) rfl (by decide +kernel) rfl rfl (Nat.le_of_ble_eq_true rfl) dX2_allocate_2 (fun H locs y1 y2 y3 => ?_)
  have hw : hx_w D A s.heap (hm_W cB k0 k1 u (nI 0) bf) H locs := ⟨y1, y2, y3⟩
  refine lv_aload_n hx hb dX2_allocate_5 rfl (lv_at hl 0 rfl) ?_
  refine lv_iload_n hx hb dX2_allocate_6 rfl (lv_at hl 1 rfl) ?_
  refine hx_callS (rest := [.ref k0]) (n := 1) S hw (m_without l hst D tys cB ht k0 k1 u (nI 0) bf n (by omega)) gX2_allocate_X2_without rfl (by decide +kernel) rfl ⟨Nat.le_of_ble_eq_true rfl, Nat.le_of_ble_eq_true rfl⟩ hm_adr hl.1 rfl (Nat.le_of_ble_eq_true rfl) ⟨by decide, by decide⟩ dX2_allocate_7 (fun H locs hw => ?_)
  refine W.eq (g2 := F0 m 10 ls [.long (lN n), .ref k0]) rfl ?_
  refine hx_fX (rest := []) (n := 1) (x := ⟨5, 13, 14, 32⟩) S hw (mx_take l hst D tys cB ht k0 k1 u (nI 0) bf n u2 hu hn h) gX2_allocate_X2_take rfl (by decide +kernel) rfl ⟨Nat.le_of_ble_eq_true rfl, Nat.le_of_ble_eq_true rfl⟩ 0 2 rfl rfl hm_adr hl.1 rfl (Nat.le_of_ble_eq_true rfl) ⟨by decide, by decide⟩ dX2_allocate_10 htab (by decide) (by decide) (by decide +kernel) (fun q9 H locs hw hk => ?_)
  refine W.eq (g2 := F0 m 14 ls [.ref q9]) rfl ?_
  refine lv_astore_n (lv' := [(2, .ref q9), (0, .ref k0), (1, .int (nI n))]) hx hb dX2_allocate_14 rfl hl (by decide) rfl (fun ls hl => ?_)
  refine lv_aload_n hx hb dX2_allocate_15 rfl (lv_at hl 1 rfl) ?_
  refine lv_iconst (v := nI 1) hx hb dX2_allocate_16 (by decide +kernel) ?_
  refine va_put (D := D) (ci := 2) (v := .int (nI 1)) (ty := .int) (C := RX2) (T := TX2) (N := 5) hx hb hts hi2 tyX2 tyX2_ok nmX2 hown hK hw.1 hw.2.1 hw.2.2 0 rfl rfl 3 (by decide) (hts (.fieldLink RX2 21 "HeapRowModel" "thrown" "I") (by decide +kernel)) (fun _ h9 => h9) rfl (by decide +kernel) rfl rfl (Nat.le_of_ble_eq_true rfl) dX2_allocate_17 (fun H locs y1 y2 y3 => ?_)
  have hw : hx_w D A s.heap (hm_W cB k0 k1 u2 (nI 1) bf) H locs := ⟨y1, y2, y3⟩
  refine lv_iconst (v := nI 0) hx hb dX2_allocate_20 (by decide +kernel) ?_
  exact hx_iret S hr hw dX2_allocate_21
set_option maxHeartbeats 4000000 in
set_option maxRecDepth 100000 in
theorem m_resize (l : Launch) (hst : l.stackTraces = false) (D : va_G) (tys : List (ClassId × FieldType)) (cB : ClassId) (ht : tys[1]? = some (cB, .byte)) (k0 k1 : Nat) (u : ph_H) (th : Int32) (bf : Int64) (a n x : Nat) (u2 : ph_H) (hu : ph_I u) (ha : a < 4294967296) (hn : n < 4294967296) (h : ph_rsz u a n = (some x, u2)) : ∃ bf2 : Int64, hx_K l D tys yX2_resize wsX2_resize 12 232 [.ref k0, .int (nI a), .int (nI n)] (hm_W cB k0 k1 u th bf) (hm_W cB k0 k1 u2 (nI 0) bf2) (some (.int (nI x))) := by
  obtain ⟨bf3, hM⟩ := m_resized l hst D tys cB ht k0 k1 u (nI 0) bf a n x u2 hu ha hn h
  refine ⟨bf3, hx_K.ofW (cc := cX2_resize) (maxL := 4) (ret := (some .int)) (hh := [(5, 11, 12, 32)]) (by decide) rfl (Nat.le_of_ble_eq_true rfl) ?_⟩
  intro p e s m below meth c A ls hr S htab hw hl
  have S : hx_S p l s m _ meth c cX2_resize 4 wsX2_resize RX2 A D tys := S
  obtain ⟨⟨hx, hb, hml, hown, hts⟩, hK, hA, hE, hlk⟩ := id S
  have hi2 : ∀ w ∈ wsX20, w ∈ wsX2_resize := by decide +kernel
  have hl : lv_has ls 4 [(0, .ref k0), (1, .int (nI a)), (2, .int (nI n))] := hl
  refine lv_aload_n hx hb dX2_resize_0 rfl (lv_at hl 0 rfl) ?_
  refine lv_iconst (v := nI 0) hx hb dX2_resize_1 (by decide +kernel) ?_
  refine va_put (D := D) (ci := 2) (v := .int (nI 0)) (ty := .int) (C := RX2) (T := TX2) (N := 5) hx hb hts hi2 tyX2 tyX2_ok nmX2 hown hK hw.1 hw.2.1 hw.2.2 0 rfl rfl 3 (by decide) (hts (.fieldLink RX2 21 "HeapRowModel" "thrown" "I") (by decide +kernel)) (fun _ h9 => h9) rfl (by decide +kernel) rfl rfl (Nat.le_of_ble_eq_true rfl) dX2_resize_2 (fun H locs y1 y2 y3 => ?_)
  have hw : hx_w D A s.heap (hm_W cB k0 k1 u (nI 0) bf) H locs := ⟨y1, y2, y3⟩
  refine lv_aload_n hx hb dX2_resize_5 rfl (lv_at hl 0 rfl) ?_
  refine lv_iload_n hx hb dX2_resize_6 rfl (lv_at hl 1 rfl) ?_
  refine lv_iload_n hx hb dX2_resize_7 rfl (lv_at hl 2 rfl) ?_
  refine hx_callV (rest := []) (n := 2) S hw (hM) gX2_resize_X2_resized rfl (by decide +kernel) rfl ⟨Nat.le_of_ble_eq_true rfl, Nat.le_of_ble_eq_true rfl⟩ 0 2 rfl rfl hm_adr hl.1 rfl (Nat.le_of_ble_eq_true rfl) ⟨by decide, by decide⟩ dX2_resize_8 (fun H locs hw => ?_)
  refine W.eq (g2 := F0 m 11 ls [.int (nI x)]) rfl ?_
  refine W.widen (k := 1) (n := 6) (by omega) (by omega) ?_
  exact hx_iret S hr hw dX2_resize_11
set_option maxHeartbeats 4000000 in
set_option maxRecDepth 100000 in
theorem m_resizeX (l : Launch) (hst : l.stackTraces = false) (D : va_G) (tys : List (ClassId × FieldType)) (cB : ClassId) (ht : tys[1]? = some (cB, .byte)) (k0 k1 : Nat) (u : ph_H) (th : Int32) (bf : Int64) (a n : Nat) (u2 : ph_H) (hu : ph_I u) (ha : a < 4294967296) (hn : n < 4294967296) (h : ph_rsz u a n = (none, u2)) : ∃ bf2 : Int64, hx_K l D tys yX2_resize wsX2_resize 12 232 [.ref k0, .int (nI a), .int (nI n)] (hm_W cB k0 k1 u th bf) (hm_W cB k0 k1 u2 (nI 1) bf2) (some (.int (nI 0))) := by
  obtain ⟨bf3, hM⟩ := mx_resized l hst D tys cB ht k0 k1 u (nI 0) bf a n u2 hu ha hn h
  refine ⟨bf3, hx_K.ofW (cc := cX2_resize) (maxL := 4) (ret := (some .int)) (hh := [(5, 11, 12, 32)]) (by decide) rfl (Nat.le_of_ble_eq_true rfl) ?_⟩
  intro p e s m below meth c A ls hr S htab hw hl
  have S : hx_S p l s m _ meth c cX2_resize 4 wsX2_resize RX2 A D tys := S
  obtain ⟨⟨hx, hb, hml, hown, hts⟩, hK, hA, hE, hlk⟩ := id S
  have hi2 : ∀ w ∈ wsX20, w ∈ wsX2_resize := by decide +kernel
  have hl : lv_has ls 4 [(0, .ref k0), (1, .int (nI a)), (2, .int (nI n))] := hl
  refine lv_aload_n hx hb dX2_resize_0 rfl (lv_at hl 0 rfl) ?_
  refine lv_iconst (v := nI 0) hx hb dX2_resize_1 (by decide +kernel) ?_
  refine va_put (D := D) (ci := 2) (v := .int (nI 0)) (ty := .int) (C := RX2) (T := TX2) (N := 5) hx hb hts hi2 tyX2 tyX2_ok nmX2 hown hK hw.1 hw.2.1 hw.2.2 0 rfl rfl 3 (by decide) (hts (.fieldLink RX2 21 "HeapRowModel" "thrown" "I") (by decide +kernel)) (fun _ h9 => h9) rfl (by decide +kernel) rfl rfl (Nat.le_of_ble_eq_true rfl) dX2_resize_2 (fun H locs y1 y2 y3 => ?_)
  have hw : hx_w D A s.heap (hm_W cB k0 k1 u (nI 0) bf) H locs := ⟨y1, y2, y3⟩
  refine lv_aload_n hx hb dX2_resize_5 rfl (lv_at hl 0 rfl) ?_
  refine lv_iload_n hx hb dX2_resize_6 rfl (lv_at hl 1 rfl) ?_
  refine lv_iload_n hx hb dX2_resize_7 rfl (lv_at hl 2 rfl) ?_
  refine hx_fX (rest := []) (n := 2) (x := ⟨5, 11, 12, 32⟩) S hw (hM) gX2_resize_X2_resized rfl (by decide +kernel) rfl ⟨Nat.le_of_ble_eq_true rfl, Nat.le_of_ble_eq_true rfl⟩ 0 2 rfl rfl hm_adr hl.1 rfl (Nat.le_of_ble_eq_true rfl) ⟨by decide, by decide⟩ dX2_resize_8 htab (by decide) (by decide) (by decide +kernel) (fun q9 H locs hw hk => ?_)
  refine W.eq (g2 := F0 m 12 ls [.ref q9]) rfl ?_
  refine lv_astore_n (lv' := [(3, .ref q9), (0, .ref k0), (1, .int (nI a)), (2, .int (nI n))]) hx hb dX2_resize_12 rfl hl (by decide) rfl (fun ls hl => ?_)
  refine lv_aload_n hx hb dX2_resize_13 rfl (lv_at hl 1 rfl) ?_
  refine lv_iconst (v := nI 1) hx hb dX2_resize_14 (by decide +kernel) ?_
  refine va_put (D := D) (ci := 2) (v := .int (nI 1)) (ty := .int) (C := RX2) (T := TX2) (N := 5) hx hb hts hi2 tyX2 tyX2_ok nmX2 hown hK hw.1 hw.2.1 hw.2.2 0 rfl rfl 3 (by decide) (hts (.fieldLink RX2 21 "HeapRowModel" "thrown" "I") (by decide +kernel)) (fun _ h9 => h9) rfl (by decide +kernel) rfl rfl (Nat.le_of_ble_eq_true rfl) dX2_resize_15 (fun H locs y1 y2 y3 => ?_)
  have hw : hx_w D A s.heap (hm_W cB k0 k1 u2 (nI 1) bf3) H locs := ⟨y1, y2, y3⟩
  refine lv_iconst (v := nI 0) hx hb dX2_resize_18 (by decide +kernel) ?_
  exact hx_iret S hr hw dX2_resize_19
set_option maxHeartbeats 4000000 in
set_option maxRecDepth 100000 in
theorem m_free0 (l : Launch) (hst : l.stackTraces = false) (D : va_G) (tys : List (ClassId × FieldType)) (cB : ClassId) (ht : tys[1]? = some (cB, .byte)) (k0 k1 : Nat) (u : ph_H) (th : Int32) (bf : Int64) : hx_K l D tys yX2_free wsX2_free 11 205 [.ref k0, .int (nI 0)] (hm_W cB k0 k1 u th bf) (hm_W cB k0 k1 u (nI 0) bf) (some (.int (nI 0))) := by
  refine hx_K.ofW (cc := cX2_free) (maxL := 3) (ret := (some .boolean)) (hh := [(5, 10, 11, 32)]) (by decide) rfl (Nat.le_of_ble_eq_true rfl) ?_
  intro p e s m below meth c A ls hr S htab hw hl
  have S : hx_S p l s m _ meth c cX2_free 3 wsX2_free RX2 A D tys := S
  obtain ⟨⟨hx, hb, hml, hown, hts⟩, hK, hA, hE, hlk⟩ := id S
  have hi2 : ∀ w ∈ wsX20, w ∈ wsX2_free := by decide +kernel
  have hl : lv_has ls 3 [(0, .ref k0), (1, .int (nI 0))] := hl
  refine lv_aload_n hx hb dX2_free_0 rfl (lv_at hl 0 rfl) ?_
  refine lv_iconst (v := nI 0) hx hb dX2_free_1 (by decide +kernel) ?_
  refine va_put (D := D) (ci := 2) (v := .int (nI 0)) (ty := .int) (C := RX2) (T := TX2) (N := 5) hx hb hts hi2 tyX2 tyX2_ok nmX2 hown hK hw.1 hw.2.1 hw.2.2 0 rfl rfl 3 (by decide) (hts (.fieldLink RX2 21 "HeapRowModel" "thrown" "I") (by decide +kernel)) (fun _ h9 => h9) rfl (by decide +kernel) rfl rfl (Nat.le_of_ble_eq_true rfl) dX2_free_2 (fun H locs y1 y2 y3 => ?_)
  have hw : hx_w D A s.heap (hm_W cB k0 k1 u (nI 0) bf) H locs := ⟨y1, y2, y3⟩
  refine lv_aload_n hx hb dX2_free_5 rfl (lv_at hl 0 rfl) ?_
  refine lv_iload_n hx hb dX2_free_6 rfl (lv_at hl 1 rfl) ?_
  refine hx_callV (rest := []) (n := 1) S hw (m_give0 l hst D tys cB ht k0 k1 u (nI 0) bf) gX2_free_X2_give rfl (by decide +kernel) rfl ⟨Nat.le_of_ble_eq_true rfl, Nat.le_of_ble_eq_true rfl⟩ 0 2 rfl rfl hm_adr hl.1 rfl (Nat.le_of_ble_eq_true rfl) ⟨by decide, by decide⟩ dX2_free_7 (fun H locs hw => ?_)
  refine W.eq (g2 := F0 m 10 ls [.int (nI 0)]) rfl ?_
  refine W.widen (k := 1) (n := 6) (by omega) (by omega) ?_
  exact hx_zret S hr rfl hw dX2_free_10
set_option maxHeartbeats 4000000 in
set_option maxRecDepth 100000 in
theorem m_free (l : Launch) (hst : l.stackTraces = false) (D : va_G) (tys : List (ClassId × FieldType)) (cB : ClassId) (ht : tys[1]? = some (cB, .byte)) (k0 k1 : Nat) (u : ph_H) (th : Int32) (bf : Int64) (a : Nat) (u2 : ph_H) (hu : ph_I u) (ha : a < 4294967296) (ha0 : a ≠ 0) (h : ph_give u a = (true, u2)) : ∃ bf2 : Int64, hx_K l D tys yX2_free wsX2_free 11 205 [.ref k0, .int (nI a)] (hm_W cB k0 k1 u th bf) (hm_W cB k0 k1 u2 (nI 0) bf2) (some (.int (nI 1))) := by
  obtain ⟨bf3, hM⟩ := m_give l hst D tys cB ht k0 k1 u (nI 0) bf a u2 hu ha ha0 h
  refine ⟨bf3, hx_K.ofW (cc := cX2_free) (maxL := 3) (ret := (some .boolean)) (hh := [(5, 10, 11, 32)]) (by decide) rfl (Nat.le_of_ble_eq_true rfl) ?_⟩
  intro p e s m below meth c A ls hr S htab hw hl
  have S : hx_S p l s m _ meth c cX2_free 3 wsX2_free RX2 A D tys := S
  obtain ⟨⟨hx, hb, hml, hown, hts⟩, hK, hA, hE, hlk⟩ := id S
  have hi2 : ∀ w ∈ wsX20, w ∈ wsX2_free := by decide +kernel
  have hl : lv_has ls 3 [(0, .ref k0), (1, .int (nI a))] := hl
  refine lv_aload_n hx hb dX2_free_0 rfl (lv_at hl 0 rfl) ?_
  refine lv_iconst (v := nI 0) hx hb dX2_free_1 (by decide +kernel) ?_
  refine va_put (D := D) (ci := 2) (v := .int (nI 0)) (ty := .int) (C := RX2) (T := TX2) (N := 5) hx hb hts hi2 tyX2 tyX2_ok nmX2 hown hK hw.1 hw.2.1 hw.2.2 0 rfl rfl 3 (by decide) (hts (.fieldLink RX2 21 "HeapRowModel" "thrown" "I") (by decide +kernel)) (fun _ h9 => h9) rfl (by decide +kernel) rfl rfl (Nat.le_of_ble_eq_true rfl) dX2_free_2 (fun H locs y1 y2 y3 => ?_)
  have hw : hx_w D A s.heap (hm_W cB k0 k1 u (nI 0) bf) H locs := ⟨y1, y2, y3⟩
  refine lv_aload_n hx hb dX2_free_5 rfl (lv_at hl 0 rfl) ?_
  refine lv_iload_n hx hb dX2_free_6 rfl (lv_at hl 1 rfl) ?_
  refine hx_callV (rest := []) (n := 1) S hw (hM) gX2_free_X2_give rfl (by decide +kernel) rfl ⟨Nat.le_of_ble_eq_true rfl, Nat.le_of_ble_eq_true rfl⟩ 0 2 rfl rfl hm_adr hl.1 rfl (Nat.le_of_ble_eq_true rfl) ⟨by decide, by decide⟩ dX2_free_7 (fun H locs hw => ?_)
  refine W.eq (g2 := F0 m 10 ls [.int (nI 1)]) rfl ?_
  refine W.widen (k := 1) (n := 6) (by omega) (by omega) ?_
  exact hx_zret S hr rfl hw dX2_free_10
set_option maxHeartbeats 4000000 in
set_option maxRecDepth 100000 in
theorem m_freeX (l : Launch) (hst : l.stackTraces = false) (D : va_G) (tys : List (ClassId × FieldType)) (cB : ClassId) (ht : tys[1]? = some (cB, .byte)) (k0 k1 : Nat) (u : ph_H) (th : Int32) (bf : Int64) (a : Nat) (u2 : ph_H) (hu : ph_I u) (ha : a < 4294967296) (ha0 : a ≠ 0) (h : ph_give u a = (false, u2)) : ∃ bf2 : Int64, hx_K l D tys yX2_free wsX2_free 11 205 [.ref k0, .int (nI a)] (hm_W cB k0 k1 u th bf) (hm_W cB k0 k1 u2 (nI 1) bf2) (some (.int (nI 0))) := by
  obtain ⟨bf3, hM⟩ := mx_give l hst D tys cB ht k0 k1 u (nI 0) bf a u2 hu ha ha0 h
  refine ⟨bf3, hx_K.ofW (cc := cX2_free) (maxL := 3) (ret := (some .boolean)) (hh := [(5, 10, 11, 32)]) (by decide) rfl (Nat.le_of_ble_eq_true rfl) ?_⟩
  intro p e s m below meth c A ls hr S htab hw hl
  have S : hx_S p l s m _ meth c cX2_free 3 wsX2_free RX2 A D tys := S
  obtain ⟨⟨hx, hb, hml, hown, hts⟩, hK, hA, hE, hlk⟩ := id S
  have hi2 : ∀ w ∈ wsX20, w ∈ wsX2_free := by decide +kernel
  have hl : lv_has ls 3 [(0, .ref k0), (1, .int (nI a))] := hl
  refine lv_aload_n hx hb dX2_free_0 rfl (lv_at hl 0 rfl) ?_
  refine lv_iconst (v := nI 0) hx hb dX2_free_1 (by decide +kernel) ?_
  refine va_put (D := D) (ci := 2) (v := .int (nI 0)) (ty := .int) (C := RX2) (T := TX2) (N := 5) hx hb hts hi2 tyX2 tyX2_ok nmX2 hown hK hw.1 hw.2.1 hw.2.2 0 rfl rfl 3 (by decide) (hts (.fieldLink RX2 21 "HeapRowModel" "thrown" "I") (by decide +kernel)) (fun _ h9 => h9) rfl (by decide +kernel) rfl rfl (Nat.le_of_ble_eq_true rfl) dX2_free_2 (fun H locs y1 y2 y3 => ?_)
  have hw : hx_w D A s.heap (hm_W cB k0 k1 u (nI 0) bf) H locs := ⟨y1, y2, y3⟩
  refine lv_aload_n hx hb dX2_free_5 rfl (lv_at hl 0 rfl) ?_
  refine lv_iload_n hx hb dX2_free_6 rfl (lv_at hl 1 rfl) ?_
  refine hx_fX (rest := []) (n := 1) (x := ⟨5, 10, 11, 32⟩) S hw (hM) gX2_free_X2_give rfl (by decide +kernel) rfl ⟨Nat.le_of_ble_eq_true rfl, Nat.le_of_ble_eq_true rfl⟩ 0 2 rfl rfl hm_adr hl.1 rfl (Nat.le_of_ble_eq_true rfl) ⟨by decide, by decide⟩ dX2_free_7 htab (by decide) (by decide) (by decide +kernel) (fun q9 H locs hw hk => ?_)
  refine W.eq (g2 := F0 m 11 ls [.ref q9]) rfl ?_
  refine lv_astore_n (lv' := [(2, .ref q9), (0, .ref k0), (1, .int (nI a))]) hx hb dX2_free_11 rfl hl (by decide) rfl (fun ls hl => ?_)
  refine lv_aload_n hx hb dX2_free_12 rfl (lv_at hl 1 rfl) ?_
  refine lv_iconst (v := nI 1) hx hb dX2_free_13 (by decide +kernel) ?_
  refine va_put (D := D) (ci := 2) (v := .int (nI 1)) (ty := .int) (C := RX2) (T := TX2) (N := 5) hx hb hts hi2 tyX2 tyX2_ok nmX2 hown hK hw.1 hw.2.1 hw.2.2 0 rfl rfl 3 (by decide) (hts (.fieldLink RX2 21 "HeapRowModel" "thrown" "I") (by decide +kernel)) (fun _ h9 => h9) rfl (by decide +kernel) rfl rfl (Nat.le_of_ble_eq_true rfl) dX2_free_14 (fun H locs y1 y2 y3 => ?_)
  have hw : hx_w D A s.heap (hm_W cB k0 k1 u2 (nI 1) bf3) H locs := ⟨y1, y2, y3⟩
  refine lv_iconst (v := nI 0) hx hb dX2_free_17 (by decide +kernel) ?_
  exact hx_zret S hr rfl hw dX2_free_18
theorem hm_lim {n k q : Nat} (hq : n * k = q) (h : 0 < n) : 480000 / n < k ↔ 480000 < q := by rw [Nat.div_lt_iff_lt_mul h, ← hq, Nat.mul_comm]
set_option maxHeartbeats 4000000 in
set_option maxRecDepth 100000 in
theorem m_cleared (l : Launch) (hst : l.stackTraces = false) (D : va_G) (tys : List (ClassId × FieldType)) (cB : ClassId) (ht : tys[1]? = some (cB, .byte)) (k0 k1 : Nat) (u : ph_H) (th : Int32) (bf : Int64) (n k q x : Nat) (u2 : ph_H) (hu : ph_I u) (hn : n < 4294967296) (hk : k < 4294967296) (hq : n * k = q) (h : ph_clrd u q = (some x, u2)) : hx_K l D tys yX2_cleared wsX2_cleared 10 179 [.ref k0, .int (nI n), .int (nI k)] (hm_W cB k0 k1 u th bf) (hm_W cB k0 k1 u2 (nI 0) bf) (some (.int (nI x))) := by
  refine hx_K.ofW (cc := cX2_cleared) (maxL := 10) (ret := (some .int)) (hh := [(35, 87, 88, 32)]) (by decide) rfl (Nat.le_of_ble_eq_true rfl) ?_
  intro p e s m below meth c A ls hr S htab hw hl
  have S : hx_S p l s m _ meth c cX2_cleared 10 wsX2_cleared RX2 A D tys := S
  obtain ⟨⟨hx, hb, hml, hown, hts⟩, hK, hA, hE, hlk⟩ := id S
  have hi2 : ∀ w ∈ wsX20, w ∈ wsX2_cleared := by decide +kernel
  have hl : lv_has ls 10 [(0, .ref k0), (1, .int (nI n)), (2, .int (nI k))] := hl
  have hq64 : q < 18446744073709551616 := by rw [← hq]; exact Nat.mul_lt_mul'' hn hk
  have hu9 := hu
  obtain ⟨i1, i2, i3, i4⟩ := hu9
  refine lv_aload_n hx hb dX2_cleared_0 rfl (lv_at hl 0 rfl) ?_
  refine lv_iconst (v := nI 0) hx hb dX2_cleared_1 (by decide +kernel) ?_
  refine va_put (D := D) (ci := 2) (v := .int (nI 0)) (ty := .int) (C := RX2) (T := TX2) (N := 5) hx hb hts hi2 tyX2 tyX2_ok nmX2 hown hK hw.1 hw.2.1 hw.2.2 0 rfl rfl 3 (by decide) (hts (.fieldLink RX2 21 "HeapRowModel" "thrown" "I") (by decide +kernel)) (fun _ h9 => h9) rfl (by decide +kernel) rfl rfl (Nat.le_of_ble_eq_true rfl) dX2_cleared_2 (fun H locs y1 y2 y3 => ?_)
  have hw : hx_w D A s.heap (hm_W cB k0 k1 u (nI 0) bf) H locs := ⟨y1, y2, y3⟩
  refine lv_iload_n hx hb dX2_cleared_5 rfl (lv_at hl 1 rfl) ?_
  refine hx_callS (rest := []) (n := 1) S hw (m_without l hst D tys cB ht k0 k1 u (nI 0) bf n (by omega)) gX2_cleared_X2_without rfl (by decide +kernel) rfl ⟨Nat.le_of_ble_eq_true rfl, Nat.le_of_ble_eq_true rfl⟩ hm_adr hl.1 rfl (Nat.le_of_ble_eq_true rfl) ⟨by decide, by decide⟩ dX2_cleared_6 (fun H locs hw => ?_)
  refine W.eq (g2 := F0 m 9 ls [.long (lN n)]) rfl ?_
  refine lv_lstore_n (lv' := [(3, .long (lN n)), (0, .ref k0), (1, .int (nI n)), (2, .int (nI k))]) hx hb dX2_cleared_9 rfl hl (by decide) rfl (fun ls hl => ?_)
  refine lv_iload_n hx hb dX2_cleared_10 rfl (lv_at hl 3 rfl) ?_
  refine hx_callS (rest := []) (n := 1) S hw (m_without l hst D tys cB ht k0 k1 u (nI 0) bf k (by omega)) gX2_cleared_X2_without rfl (by decide +kernel) rfl ⟨Nat.le_of_ble_eq_true rfl, Nat.le_of_ble_eq_true rfl⟩ hm_adr hl.1 rfl (Nat.le_of_ble_eq_true rfl) ⟨by decide, by decide⟩ dX2_cleared_11 (fun H locs hw => ?_)
  refine W.eq (g2 := F0 m 14 ls [.long (lN k)]) rfl ?_
  refine lv_lstore (lv' := [(5, .long (lN k)), (3, .long (lN n)), (0, .ref k0), (1, .int (nI n)), (2, .int (nI k))]) hx hb dX2_cleared_14 hl (by decide) rfl (fun ls hl => ?_)
  refine lv_lload_n hx hb dX2_cleared_16 rfl (lv_at hl 1 rfl) ?_
  refine lv_lconst (v := lN 0) hx hb dX2_cleared_17 (by decide +kernel) ?_
  unfold ph_clrd at h
  by_cases kb : 480000 < q
  · rw [if_pos kb] at h
    cases h
    refine hn_lle (a := n) (b := 0) (tgt := 35) hx hb (by omega) (by omega) dX2_cleared_18 dX2_cleared_19 (by decide) (fun hc => ?_) (fun hc => ?_)
    · have hz : n = 0 := by omega
      subst hz
      rw [Nat.zero_mul] at hq
      omega
    · refine lv_lload hx hb dX2_cleared_22 (lv_at hl 0 rfl) ?_
      refine lv_ldc2 (v := lN 480000) hx hb hown (hts (.constantLong RX2 83 (lN 480000)) (by decide +kernel)) dX2_cleared_24 ?_
      refine lv_lload_n hx hb dX2_cleared_27 rfl (lv_at hl 1 rfl) ?_
      refine hn_ldiv (v := lN (480000 / n)) hx hb dX2_cleared_28 (fun z => absurd ((pk_lEQ (show n < 2 ^ 63 by omega) (by decide)).mp (show lN n = lN 0 from z)) (by omega)) (pk_lDiv (by decide) hc (show n < 2 ^ 63 by omega)) ?_
      have gd : 480000 / n < k := (hm_lim hq hc).mpr kb
      refine hn_lle (a := k) (b := (480000 / n)) (tgt := 35) hx hb (by omega) (by omega) dX2_cleared_29 dX2_cleared_30 (by decide) (fun hc2 => ?_) (fun hc2 => ?_)
      · exact absurd hc2 (by omega)
      · refine lv_iconst (v := nI 0) hx hb dX2_cleared_33 (by decide +kernel) ?_
        refine W.widen (k := 1) (n := 6) (by omega) (by omega) ?_
        exact hx_iret S hr hw dX2_cleared_34
  · rw [if_neg kb] at h
    refine hn_lle (a := n) (b := 0) (tgt := 35) hx hb (by omega) (by omega) dX2_cleared_18 dX2_cleared_19 (by decide) (fun hc => ?_) (fun hc => ?_)
    · refine lv_aload_n hx hb dX2_cleared_35 rfl (lv_at hl 2 rfl) ?_
      refine lv_lload_n hx hb dX2_cleared_36 rfl (lv_at hl 1 rfl) ?_
      refine lv_lload hx hb dX2_cleared_37 (lv_at hl 0 rfl) ?_
      refine hn_lmul (v := lN q) hx hb dX2_cleared_39 (by rw [lN_mul, hq]) ?_
      rcases ht2 : ph_take u q with ⟨_ | a, u3⟩
      · rw [ht2] at h
        dsimp only at h
        cases h
      · rw [ht2] at h
        dsimp only at h
        have ga := ph_take_at hu ht2
        by_cases k9 : a = 0
        · subst k9
          rw [if_pos rfl] at h
          cases h
          refine hx_callV (rest := []) (n := 1) S hw (m_take l hst D tys cB ht k0 k1 u (nI 0) bf q 0 u2 hu (by omega) ht2) gX2_cleared_X2_take rfl (by decide +kernel) rfl ⟨Nat.le_of_ble_eq_true rfl, Nat.le_of_ble_eq_true rfl⟩ 0 2 rfl rfl hm_adr hl.1 rfl (Nat.le_of_ble_eq_true rfl) ⟨by decide, by decide⟩ dX2_cleared_40 (fun H locs hw => ?_)
          refine W.eq (g2 := F0 m 43 ls [.int (nI 0)]) rfl ?_
          refine lv_istore (lv' := [(7, .int (nI 0)), (5, .long (lN k)), (3, .long (lN n)), (0, .ref k0), (1, .int (nI n)), (2, .int (nI k))]) hx hb dX2_cleared_43 hl (by decide) rfl (fun ls hl => ?_)
          refine lv_lconst (v := lN 0) hx hb dX2_cleared_45 (by decide +kernel) ?_
          refine lv_lstore (lv' := [(8, .long (lN 0)), (7, .int (nI 0)), (5, .long (lN k)), (3, .long (lN n)), (0, .ref k0), (1, .int (nI n)), (2, .int (nI k))]) hx hb dX2_cleared_46 hl (by decide) rfl (fun ls hl => ?_)
          refine lv_lload hx hb dX2_cleared_48 (lv_at hl 0 rfl) ?_
          refine lv_lload_n hx hb dX2_cleared_50 rfl (lv_at hl 3 rfl) ?_
          refine lv_lload hx hb dX2_cleared_51 (lv_at hl 2 rfl) ?_
          refine hn_lmul (v := lN q) hx hb dX2_cleared_53 (by rw [lN_mul, hq]) ?_
          refine hn_lge (a := 0) (b := q) (tgt := 85) hx hb (by omega) (by omega) dX2_cleared_54 dX2_cleared_55 (by decide) (fun hd => ?_) (fun hd => ?_)
          · refine lv_iload hx hb dX2_cleared_85 (lv_at hl 1 rfl) ?_
            refine W.widen (k := 1) (n := 6) (by omega) (by omega) ?_
            exact hx_iret S hr hw dX2_cleared_87
          · refine lv_iload hx hb dX2_cleared_58 (lv_at hl 1 rfl) ?_
            refine hn_zeq (n := 0) (tgt := 85) hx hb (by omega) dX2_cleared_60 (by decide) (fun hd2 => ?_) (fun hd2 => ?_)
            · refine lv_iload hx hb dX2_cleared_85 (lv_at hl 1 rfl) ?_
              refine W.widen (k := 1) (n := 6) (by omega) (by omega) ?_
              exact hx_iret S hr hw dX2_cleared_87
            · exact absurd rfl hd2
        · rw [if_neg k9] at h
          refine hx_callV (rest := []) (n := 1) S hw (m_take l hst D tys cB ht k0 k1 u (nI 0) bf q a u3 hu (by omega) ht2) gX2_cleared_X2_take rfl (by decide +kernel) rfl ⟨Nat.le_of_ble_eq_true rfl, Nat.le_of_ble_eq_true rfl⟩ 0 2 rfl rfl hm_adr hl.1 rfl (Nat.le_of_ble_eq_true rfl) ⟨by decide, by decide⟩ dX2_cleared_40 (fun H locs hw => ?_)
          refine W.eq (g2 := F0 m 43 ls [.int (nI a)]) rfl ?_
          refine lv_istore (lv' := [(7, .int (nI a)), (5, .long (lN k)), (3, .long (lN n)), (0, .ref k0), (1, .int (nI n)), (2, .int (nI k))]) hx hb dX2_cleared_43 hl (by decide) rfl (fun ls hl => ?_)
          refine lv_lconst (v := lN 0) hx hb dX2_cleared_45 (by decide +kernel) ?_
          refine lv_lstore (lv' := [(8, .long (lN 0)), (7, .int (nI a)), (5, .long (lN k)), (3, .long (lN n)), (0, .ref k0), (1, .int (nI n)), (2, .int (nI k))]) hx hb dX2_cleared_46 hl (by decide) rfl (fun ls hl => ?_)
          rcases hl2 : ph_clr q u3.1 a with ⟨bb, M⟩
          rw [hl2] at h
          dsimp only at h
          cases bb with
          | false =>
            rw [if_neg Bool.false_ne_true] at h
            cases h
          | true =>
            rw [if_pos rfl] at h
            have h5 := h
            have h2 : u2 = (M, u3.2) := (congrArg (fun z => z.2) h5).symm
            subst h2
            have h3 : x = a := (Option.some.inj (congrArg (fun z => z.1) h5)).symm
            subst h3
            have loop : ∀ (f z : Nat) (M1 : ph_M) (H : Heap) (locs : List Loc) (ls : Array Slot), z + f = q → hx_w D A s.heap (hm_W cB k0 k1 (M1, u3.2) (nI 0) bf) H locs → lv_has ls 10 [(8, .long (lN z)), (7, .int (nI x)), (5, .long (lN k)), (3, .long (lN n)), (0, .ref k0), (1, .int (nI n)), (2, .int (nI k))] → ph_clr f M1 (x + z) = (true, M) → W p l e { frames := 10, cells := 1, slots := 6, locals := 179 } s m ([.ref k0, .int (nI n), .int (nI k)] : List Value).toArray below meth c H locs 0 0 (MQ below (hx_Q D A (hm_W cB k0 k1 (M, u3.2) (nI 0) bf) (some (.int (nI x)))) ([.ref k0, .int (nI n), .int (nI k)] : List Value).toArray s 1 6 A) (F0 m 48 ls []) := by
              intro f
              induction f with
              | zero =>
                intro z M1 H locs ls hk2 hw hl hq2
                have hq2 : M1 = M := congrArg (fun z => z.2) hq2
                subst hq2
                refine lv_lload hx hb dX2_cleared_48 (lv_at hl 0 rfl) ?_
                refine lv_lload_n hx hb dX2_cleared_50 rfl (lv_at hl 3 rfl) ?_
                refine lv_lload hx hb dX2_cleared_51 (lv_at hl 2 rfl) ?_
                refine hn_lmul (v := lN q) hx hb dX2_cleared_53 (by rw [lN_mul, hq]) ?_
                refine hn_lge (a := z) (b := q) (tgt := 85) hx hb (by omega) (by omega) dX2_cleared_54 dX2_cleared_55 (by decide) (fun hd => ?_) (fun hd => ?_)
                · refine lv_iload hx hb dX2_cleared_85 (lv_at hl 1 rfl) ?_
                  refine W.widen (k := 1) (n := 6) (by omega) (by omega) ?_
                  exact hx_iret S hr hw dX2_cleared_87
                · exact absurd hd (by omega)
              | succ f ih =>
                intro z M1 H locs ls hk2 hw hl hq2
                unfold ph_clr at hq2
                refine lv_lload hx hb dX2_cleared_48 (lv_at hl 0 rfl) ?_
                refine lv_lload_n hx hb dX2_cleared_50 rfl (lv_at hl 3 rfl) ?_
                refine lv_lload hx hb dX2_cleared_51 (lv_at hl 2 rfl) ?_
                refine hn_lmul (v := lN q) hx hb dX2_cleared_53 (by rw [lN_mul, hq]) ?_
                refine hn_lge (a := z) (b := q) (tgt := 85) hx hb (by omega) (by omega) dX2_cleared_54 dX2_cleared_55 (by decide) (fun hd => ?_) (fun hd => ?_)
                · exact absurd hd (by omega)
                · refine lv_iload hx hb dX2_cleared_58 (lv_at hl 1 rfl) ?_
                  refine hn_zeq (n := x) (tgt := 85) hx hb (by omega) dX2_cleared_60 (by decide) (fun hd2 => ?_) (fun hd2 => ?_)
                  · exact absurd hd2 k9
                  · refine lv_aload_n hx hb dX2_cleared_63 rfl (lv_at hl 4 rfl) ?_
                    refine lv_iload hx hb dX2_cleared_64 (lv_at hl 1 rfl) ?_
                    refine hx_callS (rest := [.ref k0]) (n := 1) S hw (m_without l hst D tys cB ht k0 k1 (M1, u3.2) (nI 0) bf x (by omega)) gX2_cleared_X2_without rfl (by decide +kernel) rfl ⟨Nat.le_of_ble_eq_true rfl, Nat.le_of_ble_eq_true rfl⟩ hm_adr hl.1 rfl (Nat.le_of_ble_eq_true rfl) ⟨by decide, by decide⟩ dX2_cleared_66 (fun H locs hw => ?_)
                    refine W.eq (g2 := F0 m 69 ls [.long (lN x), .ref k0]) rfl ?_
                    refine lv_lload hx hb dX2_cleared_69 (lv_at hl 0 rfl) ?_
                    refine hn_ladd (v := lN (x + z)) hx hb dX2_cleared_71 (lN_add _ _) ?_
                    refine lv_iconst (v := nI 0) hx hb dX2_cleared_72 (by decide +kernel) ?_
                    by_cases hin : ph_in (x + z)
                    · rw [if_pos hin] at hq2
                      refine hx_callV (rest := []) (n := 2) S hw (m_writeN l hst D tys cB ht k0 k1 (M1, u3.2) (nI 0) bf (x + z) 0 (by decide) hin) gX2_cleared_X2_write rfl (by decide +kernel) rfl ⟨Nat.le_of_ble_eq_true rfl, Nat.le_of_ble_eq_true rfl⟩ 0 2 rfl rfl hm_adr hl.1 rfl (Nat.le_of_ble_eq_true rfl) ⟨by decide, by decide⟩ dX2_cleared_73 (fun H locs hw => ?_)
                      refine W.eq (g2 := F0 m 76 ls []) rfl ?_
                      refine lv_lload hx hb dX2_cleared_76 (lv_at hl 0 rfl) ?_
                      refine lv_lconst (v := lN 1) hx hb dX2_cleared_78 (by decide +kernel) ?_
                      refine hn_ladd (v := lN (z + 1)) hx hb dX2_cleared_79 (lN_add _ _) ?_
                      refine lv_lstore (lv' := [(8, .long (lN (z + 1))), (7, .int (nI x)), (5, .long (lN k)), (3, .long (lN n)), (0, .ref k0), (1, .int (nI n)), (2, .int (nI k))]) hx hb dX2_cleared_80 hl (by decide) rfl (fun ls hl => ?_)
                      refine lv_goto (tgt := 48) hx hb dX2_cleared_82 (by decide) ?_
                      exact ih (z + 1) _ _ _ _ (by omega) hw (lv_sub hl [0, 1, 2, 3, 4, 5, 6] rfl) hq2
                    · rw [if_neg hin] at hq2
                      exact absurd (congrArg (fun z => z.1) hq2) Bool.false_ne_true
            exact loop q 0 _ _ _ _ (by omega) hw (lv_sub hl [0, 1, 2, 3, 4, 5, 6] rfl) hl2
    · refine lv_lload hx hb dX2_cleared_22 (lv_at hl 0 rfl) ?_
      refine lv_ldc2 (v := lN 480000) hx hb hown (hts (.constantLong RX2 83 (lN 480000)) (by decide +kernel)) dX2_cleared_24 ?_
      refine lv_lload_n hx hb dX2_cleared_27 rfl (lv_at hl 1 rfl) ?_
      refine hn_ldiv (v := lN (480000 / n)) hx hb dX2_cleared_28 (fun z => absurd ((pk_lEQ (show n < 2 ^ 63 by omega) (by decide)).mp (show lN n = lN 0 from z)) (by omega)) (pk_lDiv (by decide) hc (show n < 2 ^ 63 by omega)) ?_
      have gd : ¬ 480000 / n < k := fun z => kb ((hm_lim hq hc).mp z)
      have gd2 : 480000 / n ≤ 480000 := Nat.div_le_self _ _
      refine hn_lle (a := k) (b := (480000 / n)) (tgt := 35) hx hb (by omega) (by omega) dX2_cleared_29 dX2_cleared_30 (by decide) (fun hc2 => ?_) (fun hc2 => ?_)
      · refine lv_aload_n hx hb dX2_cleared_35 rfl (lv_at hl 2 rfl) ?_
        refine lv_lload_n hx hb dX2_cleared_36 rfl (lv_at hl 1 rfl) ?_
        refine lv_lload hx hb dX2_cleared_37 (lv_at hl 0 rfl) ?_
        refine hn_lmul (v := lN q) hx hb dX2_cleared_39 (by rw [lN_mul, hq]) ?_
        rcases ht2 : ph_take u q with ⟨_ | a, u3⟩
        · rw [ht2] at h
          dsimp only at h
          cases h
        · rw [ht2] at h
          dsimp only at h
          have ga := ph_take_at hu ht2
          by_cases k9 : a = 0
          · subst k9
            rw [if_pos rfl] at h
            cases h
            refine hx_callV (rest := []) (n := 1) S hw (m_take l hst D tys cB ht k0 k1 u (nI 0) bf q 0 u2 hu (by omega) ht2) gX2_cleared_X2_take rfl (by decide +kernel) rfl ⟨Nat.le_of_ble_eq_true rfl, Nat.le_of_ble_eq_true rfl⟩ 0 2 rfl rfl hm_adr hl.1 rfl (Nat.le_of_ble_eq_true rfl) ⟨by decide, by decide⟩ dX2_cleared_40 (fun H locs hw => ?_)
            refine W.eq (g2 := F0 m 43 ls [.int (nI 0)]) rfl ?_
            refine lv_istore (lv' := [(7, .int (nI 0)), (5, .long (lN k)), (3, .long (lN n)), (0, .ref k0), (1, .int (nI n)), (2, .int (nI k))]) hx hb dX2_cleared_43 hl (by decide) rfl (fun ls hl => ?_)
            refine lv_lconst (v := lN 0) hx hb dX2_cleared_45 (by decide +kernel) ?_
            refine lv_lstore (lv' := [(8, .long (lN 0)), (7, .int (nI 0)), (5, .long (lN k)), (3, .long (lN n)), (0, .ref k0), (1, .int (nI n)), (2, .int (nI k))]) hx hb dX2_cleared_46 hl (by decide) rfl (fun ls hl => ?_)
            refine lv_lload hx hb dX2_cleared_48 (lv_at hl 0 rfl) ?_
            refine lv_lload_n hx hb dX2_cleared_50 rfl (lv_at hl 3 rfl) ?_
            refine lv_lload hx hb dX2_cleared_51 (lv_at hl 2 rfl) ?_
            refine hn_lmul (v := lN q) hx hb dX2_cleared_53 (by rw [lN_mul, hq]) ?_
            refine hn_lge (a := 0) (b := q) (tgt := 85) hx hb (by omega) (by omega) dX2_cleared_54 dX2_cleared_55 (by decide) (fun hd => ?_) (fun hd => ?_)
            · refine lv_iload hx hb dX2_cleared_85 (lv_at hl 1 rfl) ?_
              refine W.widen (k := 1) (n := 6) (by omega) (by omega) ?_
              exact hx_iret S hr hw dX2_cleared_87
            · refine lv_iload hx hb dX2_cleared_58 (lv_at hl 1 rfl) ?_
              refine hn_zeq (n := 0) (tgt := 85) hx hb (by omega) dX2_cleared_60 (by decide) (fun hd2 => ?_) (fun hd2 => ?_)
              · refine lv_iload hx hb dX2_cleared_85 (lv_at hl 1 rfl) ?_
                refine W.widen (k := 1) (n := 6) (by omega) (by omega) ?_
                exact hx_iret S hr hw dX2_cleared_87
              · exact absurd rfl hd2
          · rw [if_neg k9] at h
            refine hx_callV (rest := []) (n := 1) S hw (m_take l hst D tys cB ht k0 k1 u (nI 0) bf q a u3 hu (by omega) ht2) gX2_cleared_X2_take rfl (by decide +kernel) rfl ⟨Nat.le_of_ble_eq_true rfl, Nat.le_of_ble_eq_true rfl⟩ 0 2 rfl rfl hm_adr hl.1 rfl (Nat.le_of_ble_eq_true rfl) ⟨by decide, by decide⟩ dX2_cleared_40 (fun H locs hw => ?_)
            refine W.eq (g2 := F0 m 43 ls [.int (nI a)]) rfl ?_
            refine lv_istore (lv' := [(7, .int (nI a)), (5, .long (lN k)), (3, .long (lN n)), (0, .ref k0), (1, .int (nI n)), (2, .int (nI k))]) hx hb dX2_cleared_43 hl (by decide) rfl (fun ls hl => ?_)
            refine lv_lconst (v := lN 0) hx hb dX2_cleared_45 (by decide +kernel) ?_
            refine lv_lstore (lv' := [(8, .long (lN 0)), (7, .int (nI a)), (5, .long (lN k)), (3, .long (lN n)), (0, .ref k0), (1, .int (nI n)), (2, .int (nI k))]) hx hb dX2_cleared_46 hl (by decide) rfl (fun ls hl => ?_)
            rcases hl2 : ph_clr q u3.1 a with ⟨bb, M⟩
            rw [hl2] at h
            dsimp only at h
            cases bb with
            | false =>
              rw [if_neg Bool.false_ne_true] at h
              cases h
            | true =>
              rw [if_pos rfl] at h
              have h5 := h
              have h2 : u2 = (M, u3.2) := (congrArg (fun z => z.2) h5).symm
              subst h2
              have h3 : x = a := (Option.some.inj (congrArg (fun z => z.1) h5)).symm
              subst h3
              have loop : ∀ (f z : Nat) (M1 : ph_M) (H : Heap) (locs : List Loc) (ls : Array Slot), z + f = q → hx_w D A s.heap (hm_W cB k0 k1 (M1, u3.2) (nI 0) bf) H locs → lv_has ls 10 [(8, .long (lN z)), (7, .int (nI x)), (5, .long (lN k)), (3, .long (lN n)), (0, .ref k0), (1, .int (nI n)), (2, .int (nI k))] → ph_clr f M1 (x + z) = (true, M) → W p l e { frames := 10, cells := 1, slots := 6, locals := 179 } s m ([.ref k0, .int (nI n), .int (nI k)] : List Value).toArray below meth c H locs 0 0 (MQ below (hx_Q D A (hm_W cB k0 k1 (M, u3.2) (nI 0) bf) (some (.int (nI x)))) ([.ref k0, .int (nI n), .int (nI k)] : List Value).toArray s 1 6 A) (F0 m 48 ls []) := by
                intro f
                induction f with
                | zero =>
                  intro z M1 H locs ls hk2 hw hl hq2
                  have hq2 : M1 = M := congrArg (fun z => z.2) hq2
                  subst hq2
                  refine lv_lload hx hb dX2_cleared_48 (lv_at hl 0 rfl) ?_
                  refine lv_lload_n hx hb dX2_cleared_50 rfl (lv_at hl 3 rfl) ?_
                  refine lv_lload hx hb dX2_cleared_51 (lv_at hl 2 rfl) ?_
                  refine hn_lmul (v := lN q) hx hb dX2_cleared_53 (by rw [lN_mul, hq]) ?_
                  refine hn_lge (a := z) (b := q) (tgt := 85) hx hb (by omega) (by omega) dX2_cleared_54 dX2_cleared_55 (by decide) (fun hd => ?_) (fun hd => ?_)
                  · refine lv_iload hx hb dX2_cleared_85 (lv_at hl 1 rfl) ?_
                    refine W.widen (k := 1) (n := 6) (by omega) (by omega) ?_
                    exact hx_iret S hr hw dX2_cleared_87
                  · exact absurd hd (by omega)
                | succ f ih =>
                  intro z M1 H locs ls hk2 hw hl hq2
                  unfold ph_clr at hq2
                  refine lv_lload hx hb dX2_cleared_48 (lv_at hl 0 rfl) ?_
                  refine lv_lload_n hx hb dX2_cleared_50 rfl (lv_at hl 3 rfl) ?_
                  refine lv_lload hx hb dX2_cleared_51 (lv_at hl 2 rfl) ?_
                  refine hn_lmul (v := lN q) hx hb dX2_cleared_53 (by rw [lN_mul, hq]) ?_
                  refine hn_lge (a := z) (b := q) (tgt := 85) hx hb (by omega) (by omega) dX2_cleared_54 dX2_cleared_55 (by decide) (fun hd => ?_) (fun hd => ?_)
                  · exact absurd hd (by omega)
                  · refine lv_iload hx hb dX2_cleared_58 (lv_at hl 1 rfl) ?_
                    refine hn_zeq (n := x) (tgt := 85) hx hb (by omega) dX2_cleared_60 (by decide) (fun hd2 => ?_) (fun hd2 => ?_)
                    · exact absurd hd2 k9
                    · refine lv_aload_n hx hb dX2_cleared_63 rfl (lv_at hl 4 rfl) ?_
                      refine lv_iload hx hb dX2_cleared_64 (lv_at hl 1 rfl) ?_
                      refine hx_callS (rest := [.ref k0]) (n := 1) S hw (m_without l hst D tys cB ht k0 k1 (M1, u3.2) (nI 0) bf x (by omega)) gX2_cleared_X2_without rfl (by decide +kernel) rfl ⟨Nat.le_of_ble_eq_true rfl, Nat.le_of_ble_eq_true rfl⟩ hm_adr hl.1 rfl (Nat.le_of_ble_eq_true rfl) ⟨by decide, by decide⟩ dX2_cleared_66 (fun H locs hw => ?_)
                      refine W.eq (g2 := F0 m 69 ls [.long (lN x), .ref k0]) rfl ?_
                      refine lv_lload hx hb dX2_cleared_69 (lv_at hl 0 rfl) ?_
                      refine hn_ladd (v := lN (x + z)) hx hb dX2_cleared_71 (lN_add _ _) ?_
                      refine lv_iconst (v := nI 0) hx hb dX2_cleared_72 (by decide +kernel) ?_
                      by_cases hin : ph_in (x + z)
                      · rw [if_pos hin] at hq2
                        refine hx_callV (rest := []) (n := 2) S hw (m_writeN l hst D tys cB ht k0 k1 (M1, u3.2) (nI 0) bf (x + z) 0 (by decide) hin) gX2_cleared_X2_write rfl (by decide +kernel) rfl ⟨Nat.le_of_ble_eq_true rfl, Nat.le_of_ble_eq_true rfl⟩ 0 2 rfl rfl hm_adr hl.1 rfl (Nat.le_of_ble_eq_true rfl) ⟨by decide, by decide⟩ dX2_cleared_73 (fun H locs hw => ?_)
                        refine W.eq (g2 := F0 m 76 ls []) rfl ?_
                        refine lv_lload hx hb dX2_cleared_76 (lv_at hl 0 rfl) ?_
                        refine lv_lconst (v := lN 1) hx hb dX2_cleared_78 (by decide +kernel) ?_
                        refine hn_ladd (v := lN (z + 1)) hx hb dX2_cleared_79 (lN_add _ _) ?_
                        refine lv_lstore (lv' := [(8, .long (lN (z + 1))), (7, .int (nI x)), (5, .long (lN k)), (3, .long (lN n)), (0, .ref k0), (1, .int (nI n)), (2, .int (nI k))]) hx hb dX2_cleared_80 hl (by decide) rfl (fun ls hl => ?_)
                        refine lv_goto (tgt := 48) hx hb dX2_cleared_82 (by decide) ?_
                        exact ih (z + 1) _ _ _ _ (by omega) hw (lv_sub hl [0, 1, 2, 3, 4, 5, 6] rfl) hq2
                      · rw [if_neg hin] at hq2
                        exact absurd (congrArg (fun z => z.1) hq2) Bool.false_ne_true
              exact loop q 0 _ _ _ _ (by omega) hw (lv_sub hl [0, 1, 2, 3, 4, 5, 6] rfl) hl2
      · exact absurd hc2 (by omega)
set_option maxHeartbeats 4000000 in
set_option maxRecDepth 100000 in
theorem m_clearedX (l : Launch) (hst : l.stackTraces = false) (D : va_G) (tys : List (ClassId × FieldType)) (cB : ClassId) (ht : tys[1]? = some (cB, .byte)) (k0 k1 : Nat) (u : ph_H) (th : Int32) (bf : Int64) (n k q : Nat) (u2 : ph_H) (hu : ph_I u) (hn : n < 4294967296) (hk : k < 4294967296) (hq : n * k = q) (h : ph_clrd u q = (none, u2)) : hx_K l D tys yX2_cleared wsX2_cleared 10 179 [.ref k0, .int (nI n), .int (nI k)] (hm_W cB k0 k1 u th bf) (hm_W cB k0 k1 u2 (nI 1) bf) (some (.int (nI 0))) := by
  refine hx_K.ofW (cc := cX2_cleared) (maxL := 10) (ret := (some .int)) (hh := [(35, 87, 88, 32)]) (by decide) rfl (Nat.le_of_ble_eq_true rfl) ?_
  intro p e s m below meth c A ls hr S htab hw hl
  have S : hx_S p l s m _ meth c cX2_cleared 10 wsX2_cleared RX2 A D tys := S
  obtain ⟨⟨hx, hb, hml, hown, hts⟩, hK, hA, hE, hlk⟩ := id S
  have hi2 : ∀ w ∈ wsX20, w ∈ wsX2_cleared := by decide +kernel
  have hl : lv_has ls 10 [(0, .ref k0), (1, .int (nI n)), (2, .int (nI k))] := hl
  have hq64 : q < 18446744073709551616 := by rw [← hq]; exact Nat.mul_lt_mul'' hn hk
  have hu9 := hu
  obtain ⟨i1, i2, i3, i4⟩ := hu9
  refine lv_aload_n hx hb dX2_cleared_0 rfl (lv_at hl 0 rfl) ?_
  refine lv_iconst (v := nI 0) hx hb dX2_cleared_1 (by decide +kernel) ?_
  refine va_put (D := D) (ci := 2) (v := .int (nI 0)) (ty := .int) (C := RX2) (T := TX2) (N := 5) hx hb hts hi2 tyX2 tyX2_ok nmX2 hown hK hw.1 hw.2.1 hw.2.2 0 rfl rfl 3 (by decide) (hts (.fieldLink RX2 21 "HeapRowModel" "thrown" "I") (by decide +kernel)) (fun _ h9 => h9) rfl (by decide +kernel) rfl rfl (Nat.le_of_ble_eq_true rfl) dX2_cleared_2 (fun H locs y1 y2 y3 => ?_)
  have hw : hx_w D A s.heap (hm_W cB k0 k1 u (nI 0) bf) H locs := ⟨y1, y2, y3⟩
  refine lv_iload_n hx hb dX2_cleared_5 rfl (lv_at hl 1 rfl) ?_
  refine hx_callS (rest := []) (n := 1) S hw (m_without l hst D tys cB ht k0 k1 u (nI 0) bf n (by omega)) gX2_cleared_X2_without rfl (by decide +kernel) rfl ⟨Nat.le_of_ble_eq_true rfl, Nat.le_of_ble_eq_true rfl⟩ hm_adr hl.1 rfl (Nat.le_of_ble_eq_true rfl) ⟨by decide, by decide⟩ dX2_cleared_6 (fun H locs hw => ?_)
  refine W.eq (g2 := F0 m 9 ls [.long (lN n)]) rfl ?_
  refine lv_lstore_n (lv' := [(3, .long (lN n)), (0, .ref k0), (1, .int (nI n)), (2, .int (nI k))]) hx hb dX2_cleared_9 rfl hl (by decide) rfl (fun ls hl => ?_)
  refine lv_iload_n hx hb dX2_cleared_10 rfl (lv_at hl 3 rfl) ?_
  refine hx_callS (rest := []) (n := 1) S hw (m_without l hst D tys cB ht k0 k1 u (nI 0) bf k (by omega)) gX2_cleared_X2_without rfl (by decide +kernel) rfl ⟨Nat.le_of_ble_eq_true rfl, Nat.le_of_ble_eq_true rfl⟩ hm_adr hl.1 rfl (Nat.le_of_ble_eq_true rfl) ⟨by decide, by decide⟩ dX2_cleared_11 (fun H locs hw => ?_)
  refine W.eq (g2 := F0 m 14 ls [.long (lN k)]) rfl ?_
  refine lv_lstore (lv' := [(5, .long (lN k)), (3, .long (lN n)), (0, .ref k0), (1, .int (nI n)), (2, .int (nI k))]) hx hb dX2_cleared_14 hl (by decide) rfl (fun ls hl => ?_)
  refine lv_lload_n hx hb dX2_cleared_16 rfl (lv_at hl 1 rfl) ?_
  refine lv_lconst (v := lN 0) hx hb dX2_cleared_17 (by decide +kernel) ?_
  unfold ph_clrd at h
  by_cases kb : 480000 < q
  · rw [if_pos kb] at h
    cases h
  · rw [if_neg kb] at h
    refine hn_lle (a := n) (b := 0) (tgt := 35) hx hb (by omega) (by omega) dX2_cleared_18 dX2_cleared_19 (by decide) (fun hc => ?_) (fun hc => ?_)
    · refine lv_aload_n hx hb dX2_cleared_35 rfl (lv_at hl 2 rfl) ?_
      refine lv_lload_n hx hb dX2_cleared_36 rfl (lv_at hl 1 rfl) ?_
      refine lv_lload hx hb dX2_cleared_37 (lv_at hl 0 rfl) ?_
      refine hn_lmul (v := lN q) hx hb dX2_cleared_39 (by rw [lN_mul, hq]) ?_
      rcases ht2 : ph_take u q with ⟨_ | a, u3⟩
      · rw [ht2] at h
        dsimp only at h
        cases h
        refine hx_fX (rest := []) (n := 1) (x := ⟨35, 87, 88, 32⟩) S hw (mx_take l hst D tys cB ht k0 k1 u (nI 0) bf q u2 hu (by omega) ht2) gX2_cleared_X2_take rfl (by decide +kernel) rfl ⟨Nat.le_of_ble_eq_true rfl, Nat.le_of_ble_eq_true rfl⟩ 0 2 rfl rfl hm_adr hl.1 rfl (Nat.le_of_ble_eq_true rfl) ⟨by decide, by decide⟩ dX2_cleared_40 htab (by decide) (by decide) (by decide +kernel) (fun q9 H locs hw hk => ?_)
        refine W.eq (g2 := F0 m 88 ls [.ref q9]) rfl ?_
        refine lv_astore (lv' := [(7, .ref q9), (5, .long (lN k)), (3, .long (lN n)), (0, .ref k0), (1, .int (nI n)), (2, .int (nI k))]) hx hb dX2_cleared_88 hl (by decide) rfl (fun ls hl => ?_)
        refine lv_aload_n hx hb dX2_cleared_90 rfl (lv_at hl 3 rfl) ?_
        refine lv_iconst (v := nI 1) hx hb dX2_cleared_91 (by decide +kernel) ?_
        refine va_put (D := D) (ci := 2) (v := .int (nI 1)) (ty := .int) (C := RX2) (T := TX2) (N := 5) hx hb hts hi2 tyX2 tyX2_ok nmX2 hown hK hw.1 hw.2.1 hw.2.2 0 rfl rfl 3 (by decide) (hts (.fieldLink RX2 21 "HeapRowModel" "thrown" "I") (by decide +kernel)) (fun _ h9 => h9) rfl (by decide +kernel) rfl rfl (Nat.le_of_ble_eq_true rfl) dX2_cleared_92 (fun H locs y1 y2 y3 => ?_)
        have hw : hx_w D A s.heap (hm_W cB k0 k1 u2 (nI 1) bf) H locs := ⟨y1, y2, y3⟩
        refine lv_iconst (v := nI 0) hx hb dX2_cleared_95 (by decide +kernel) ?_
        exact hx_iret S hr hw dX2_cleared_96
      · rw [ht2] at h
        dsimp only at h
        have ga := ph_take_at hu ht2
        by_cases k9 : a = 0
        · subst k9
          rw [if_pos rfl] at h
          cases h
        · rw [if_neg k9] at h
          refine hx_callV (rest := []) (n := 1) S hw (m_take l hst D tys cB ht k0 k1 u (nI 0) bf q a u3 hu (by omega) ht2) gX2_cleared_X2_take rfl (by decide +kernel) rfl ⟨Nat.le_of_ble_eq_true rfl, Nat.le_of_ble_eq_true rfl⟩ 0 2 rfl rfl hm_adr hl.1 rfl (Nat.le_of_ble_eq_true rfl) ⟨by decide, by decide⟩ dX2_cleared_40 (fun H locs hw => ?_)
          refine W.eq (g2 := F0 m 43 ls [.int (nI a)]) rfl ?_
          refine lv_istore (lv' := [(7, .int (nI a)), (5, .long (lN k)), (3, .long (lN n)), (0, .ref k0), (1, .int (nI n)), (2, .int (nI k))]) hx hb dX2_cleared_43 hl (by decide) rfl (fun ls hl => ?_)
          refine lv_lconst (v := lN 0) hx hb dX2_cleared_45 (by decide +kernel) ?_
          refine lv_lstore (lv' := [(8, .long (lN 0)), (7, .int (nI a)), (5, .long (lN k)), (3, .long (lN n)), (0, .ref k0), (1, .int (nI n)), (2, .int (nI k))]) hx hb dX2_cleared_46 hl (by decide) rfl (fun ls hl => ?_)
          rcases hl2 : ph_clr q u3.1 a with ⟨bb, M⟩
          rw [hl2] at h
          dsimp only at h
          cases bb with
          | false =>
            rw [if_neg Bool.false_ne_true] at h
            have h5 := h
            have h2 : u2 = (M, u3.2) := (congrArg (fun z => z.2) h5).symm
            subst h2
            have loop : ∀ (f z : Nat) (M1 : ph_M) (H : Heap) (locs : List Loc) (ls : Array Slot), z + f = q → hx_w D A s.heap (hm_W cB k0 k1 (M1, u3.2) (nI 0) bf) H locs → lv_has ls 10 [(8, .long (lN z)), (7, .int (nI a)), (5, .long (lN k)), (3, .long (lN n)), (0, .ref k0), (1, .int (nI n)), (2, .int (nI k))] → ph_clr f M1 (a + z) = (false, M) → W p l e { frames := 10, cells := 1, slots := 6, locals := 179 } s m ([.ref k0, .int (nI n), .int (nI k)] : List Value).toArray below meth c H locs 0 0 (MQ below (hx_Q D A (hm_W cB k0 k1 (M, u3.2) (nI 1) bf) (some (.int (nI 0)))) ([.ref k0, .int (nI n), .int (nI k)] : List Value).toArray s 1 6 A) (F0 m 48 ls []) := by
              intro f
              induction f with
              | zero =>
                intro z M1 H locs ls hk2 hw hl hq2
                exact absurd (congrArg (fun z => z.1) hq2) (fun z => Bool.false_ne_true z.symm)
              | succ f ih =>
                intro z M1 H locs ls hk2 hw hl hq2
                unfold ph_clr at hq2
                refine lv_lload hx hb dX2_cleared_48 (lv_at hl 0 rfl) ?_
                refine lv_lload_n hx hb dX2_cleared_50 rfl (lv_at hl 3 rfl) ?_
                refine lv_lload hx hb dX2_cleared_51 (lv_at hl 2 rfl) ?_
                refine hn_lmul (v := lN q) hx hb dX2_cleared_53 (by rw [lN_mul, hq]) ?_
                refine hn_lge (a := z) (b := q) (tgt := 85) hx hb (by omega) (by omega) dX2_cleared_54 dX2_cleared_55 (by decide) (fun hd => ?_) (fun hd => ?_)
                · exact absurd hd (by omega)
                · refine lv_iload hx hb dX2_cleared_58 (lv_at hl 1 rfl) ?_
                  refine hn_zeq (n := a) (tgt := 85) hx hb (by omega) dX2_cleared_60 (by decide) (fun hd2 => ?_) (fun hd2 => ?_)
                  · exact absurd hd2 k9
                  · refine lv_aload_n hx hb dX2_cleared_63 rfl (lv_at hl 4 rfl) ?_
                    refine lv_iload hx hb dX2_cleared_64 (lv_at hl 1 rfl) ?_
                    refine hx_callS (rest := [.ref k0]) (n := 1) S hw (m_without l hst D tys cB ht k0 k1 (M1, u3.2) (nI 0) bf a (by omega)) gX2_cleared_X2_without rfl (by decide +kernel) rfl ⟨Nat.le_of_ble_eq_true rfl, Nat.le_of_ble_eq_true rfl⟩ hm_adr hl.1 rfl (Nat.le_of_ble_eq_true rfl) ⟨by decide, by decide⟩ dX2_cleared_66 (fun H locs hw => ?_)
                    refine W.eq (g2 := F0 m 69 ls [.long (lN a), .ref k0]) rfl ?_
                    refine lv_lload hx hb dX2_cleared_69 (lv_at hl 0 rfl) ?_
                    refine hn_ladd (v := lN (a + z)) hx hb dX2_cleared_71 (lN_add _ _) ?_
                    refine lv_iconst (v := nI 0) hx hb dX2_cleared_72 (by decide +kernel) ?_
                    by_cases hin : ph_in (a + z)
                    · rw [if_pos hin] at hq2
                      refine hx_callV (rest := []) (n := 2) S hw (m_writeN l hst D tys cB ht k0 k1 (M1, u3.2) (nI 0) bf (a + z) 0 (by decide) hin) gX2_cleared_X2_write rfl (by decide +kernel) rfl ⟨Nat.le_of_ble_eq_true rfl, Nat.le_of_ble_eq_true rfl⟩ 0 2 rfl rfl hm_adr hl.1 rfl (Nat.le_of_ble_eq_true rfl) ⟨by decide, by decide⟩ dX2_cleared_73 (fun H locs hw => ?_)
                      refine W.eq (g2 := F0 m 76 ls []) rfl ?_
                      refine lv_lload hx hb dX2_cleared_76 (lv_at hl 0 rfl) ?_
                      refine lv_lconst (v := lN 1) hx hb dX2_cleared_78 (by decide +kernel) ?_
                      refine hn_ladd (v := lN (z + 1)) hx hb dX2_cleared_79 (lN_add _ _) ?_
                      refine lv_lstore (lv' := [(8, .long (lN (z + 1))), (7, .int (nI a)), (5, .long (lN k)), (3, .long (lN n)), (0, .ref k0), (1, .int (nI n)), (2, .int (nI k))]) hx hb dX2_cleared_80 hl (by decide) rfl (fun ls hl => ?_)
                      refine lv_goto (tgt := 48) hx hb dX2_cleared_82 (by decide) ?_
                      exact ih (z + 1) _ _ _ _ (by omega) hw (lv_sub hl [0, 1, 2, 3, 4, 5, 6] rfl) hq2
                    · rw [if_neg hin] at hq2
                      have hq2 : M1 = M := congrArg (fun z => z.2) hq2
                      subst hq2
                      refine hx_fX (rest := []) (n := 2) (x := ⟨35, 87, 88, 32⟩) S hw (mx_write l hst D tys cB ht k0 k1 (M1, u3.2) (nI 0) bf (a + z) (nI 0) (by omega) hin) gX2_cleared_X2_write rfl (by decide +kernel) rfl ⟨Nat.le_of_ble_eq_true rfl, Nat.le_of_ble_eq_true rfl⟩ 0 2 rfl rfl hm_adr hl.1 rfl (Nat.le_of_ble_eq_true rfl) ⟨by decide, by decide⟩ dX2_cleared_73 htab (by decide) (by decide) (by decide +kernel) (fun q9 H locs hw hk => ?_)
                      refine W.eq (g2 := F0 m 88 ls [.ref q9]) rfl ?_
                      refine lv_astore (lv' := [(7, .ref q9), (8, .long (lN z)), (5, .long (lN k)), (3, .long (lN n)), (0, .ref k0), (1, .int (nI n)), (2, .int (nI k))]) hx hb dX2_cleared_88 hl (by decide) rfl (fun ls hl => ?_)
                      refine lv_aload_n hx hb dX2_cleared_90 rfl (lv_at hl 4 rfl) ?_
                      refine lv_iconst (v := nI 1) hx hb dX2_cleared_91 (by decide +kernel) ?_
                      refine va_put (D := D) (ci := 2) (v := .int (nI 1)) (ty := .int) (C := RX2) (T := TX2) (N := 5) hx hb hts hi2 tyX2 tyX2_ok nmX2 hown hK hw.1 hw.2.1 hw.2.2 0 rfl rfl 3 (by decide) (hts (.fieldLink RX2 21 "HeapRowModel" "thrown" "I") (by decide +kernel)) (fun _ h9 => h9) rfl (by decide +kernel) rfl rfl (Nat.le_of_ble_eq_true rfl) dX2_cleared_92 (fun H locs y1 y2 y3 => ?_)
                      have hw : hx_w D A s.heap (hm_W cB k0 k1 (M1, u3.2) (nI 1) bf) H locs := ⟨y1, y2, y3⟩
                      refine lv_iconst (v := nI 0) hx hb dX2_cleared_95 (by decide +kernel) ?_
                      exact hx_iret S hr hw dX2_cleared_96
            exact loop q 0 _ _ _ _ (by omega) hw (lv_sub hl [0, 1, 2, 3, 4, 5, 6] rfl) hl2
          | true =>
            rw [if_pos rfl] at h
            cases h
    · refine lv_lload hx hb dX2_cleared_22 (lv_at hl 0 rfl) ?_
      refine lv_ldc2 (v := lN 480000) hx hb hown (hts (.constantLong RX2 83 (lN 480000)) (by decide +kernel)) dX2_cleared_24 ?_
      refine lv_lload_n hx hb dX2_cleared_27 rfl (lv_at hl 1 rfl) ?_
      refine hn_ldiv (v := lN (480000 / n)) hx hb dX2_cleared_28 (fun z => absurd ((pk_lEQ (show n < 2 ^ 63 by omega) (by decide)).mp (show lN n = lN 0 from z)) (by omega)) (pk_lDiv (by decide) hc (show n < 2 ^ 63 by omega)) ?_
      have gd : ¬ 480000 / n < k := fun z => kb ((hm_lim hq hc).mp z)
      have gd2 : 480000 / n ≤ 480000 := Nat.div_le_self _ _
      refine hn_lle (a := k) (b := (480000 / n)) (tgt := 35) hx hb (by omega) (by omega) dX2_cleared_29 dX2_cleared_30 (by decide) (fun hc2 => ?_) (fun hc2 => ?_)
      · refine lv_aload_n hx hb dX2_cleared_35 rfl (lv_at hl 2 rfl) ?_
        refine lv_lload_n hx hb dX2_cleared_36 rfl (lv_at hl 1 rfl) ?_
        refine lv_lload hx hb dX2_cleared_37 (lv_at hl 0 rfl) ?_
        refine hn_lmul (v := lN q) hx hb dX2_cleared_39 (by rw [lN_mul, hq]) ?_
        rcases ht2 : ph_take u q with ⟨_ | a, u3⟩
        · rw [ht2] at h
          dsimp only at h
          cases h
          refine hx_fX (rest := []) (n := 1) (x := ⟨35, 87, 88, 32⟩) S hw (mx_take l hst D tys cB ht k0 k1 u (nI 0) bf q u2 hu (by omega) ht2) gX2_cleared_X2_take rfl (by decide +kernel) rfl ⟨Nat.le_of_ble_eq_true rfl, Nat.le_of_ble_eq_true rfl⟩ 0 2 rfl rfl hm_adr hl.1 rfl (Nat.le_of_ble_eq_true rfl) ⟨by decide, by decide⟩ dX2_cleared_40 htab (by decide) (by decide) (by decide +kernel) (fun q9 H locs hw hk => ?_)
          refine W.eq (g2 := F0 m 88 ls [.ref q9]) rfl ?_
          refine lv_astore (lv' := [(7, .ref q9), (5, .long (lN k)), (3, .long (lN n)), (0, .ref k0), (1, .int (nI n)), (2, .int (nI k))]) hx hb dX2_cleared_88 hl (by decide) rfl (fun ls hl => ?_)
          refine lv_aload_n hx hb dX2_cleared_90 rfl (lv_at hl 3 rfl) ?_
          refine lv_iconst (v := nI 1) hx hb dX2_cleared_91 (by decide +kernel) ?_
          refine va_put (D := D) (ci := 2) (v := .int (nI 1)) (ty := .int) (C := RX2) (T := TX2) (N := 5) hx hb hts hi2 tyX2 tyX2_ok nmX2 hown hK hw.1 hw.2.1 hw.2.2 0 rfl rfl 3 (by decide) (hts (.fieldLink RX2 21 "HeapRowModel" "thrown" "I") (by decide +kernel)) (fun _ h9 => h9) rfl (by decide +kernel) rfl rfl (Nat.le_of_ble_eq_true rfl) dX2_cleared_92 (fun H locs y1 y2 y3 => ?_)
          have hw : hx_w D A s.heap (hm_W cB k0 k1 u2 (nI 1) bf) H locs := ⟨y1, y2, y3⟩
          refine lv_iconst (v := nI 0) hx hb dX2_cleared_95 (by decide +kernel) ?_
          exact hx_iret S hr hw dX2_cleared_96
        · rw [ht2] at h
          dsimp only at h
          have ga := ph_take_at hu ht2
          by_cases k9 : a = 0
          · subst k9
            rw [if_pos rfl] at h
            cases h
          · rw [if_neg k9] at h
            refine hx_callV (rest := []) (n := 1) S hw (m_take l hst D tys cB ht k0 k1 u (nI 0) bf q a u3 hu (by omega) ht2) gX2_cleared_X2_take rfl (by decide +kernel) rfl ⟨Nat.le_of_ble_eq_true rfl, Nat.le_of_ble_eq_true rfl⟩ 0 2 rfl rfl hm_adr hl.1 rfl (Nat.le_of_ble_eq_true rfl) ⟨by decide, by decide⟩ dX2_cleared_40 (fun H locs hw => ?_)
            refine W.eq (g2 := F0 m 43 ls [.int (nI a)]) rfl ?_
            refine lv_istore (lv' := [(7, .int (nI a)), (5, .long (lN k)), (3, .long (lN n)), (0, .ref k0), (1, .int (nI n)), (2, .int (nI k))]) hx hb dX2_cleared_43 hl (by decide) rfl (fun ls hl => ?_)
            refine lv_lconst (v := lN 0) hx hb dX2_cleared_45 (by decide +kernel) ?_
            refine lv_lstore (lv' := [(8, .long (lN 0)), (7, .int (nI a)), (5, .long (lN k)), (3, .long (lN n)), (0, .ref k0), (1, .int (nI n)), (2, .int (nI k))]) hx hb dX2_cleared_46 hl (by decide) rfl (fun ls hl => ?_)
            rcases hl2 : ph_clr q u3.1 a with ⟨bb, M⟩
            rw [hl2] at h
            dsimp only at h
            cases bb with
            | false =>
              rw [if_neg Bool.false_ne_true] at h
              have h5 := h
              have h2 : u2 = (M, u3.2) := (congrArg (fun z => z.2) h5).symm
              subst h2
              have loop : ∀ (f z : Nat) (M1 : ph_M) (H : Heap) (locs : List Loc) (ls : Array Slot), z + f = q → hx_w D A s.heap (hm_W cB k0 k1 (M1, u3.2) (nI 0) bf) H locs → lv_has ls 10 [(8, .long (lN z)), (7, .int (nI a)), (5, .long (lN k)), (3, .long (lN n)), (0, .ref k0), (1, .int (nI n)), (2, .int (nI k))] → ph_clr f M1 (a + z) = (false, M) → W p l e { frames := 10, cells := 1, slots := 6, locals := 179 } s m ([.ref k0, .int (nI n), .int (nI k)] : List Value).toArray below meth c H locs 0 0 (MQ below (hx_Q D A (hm_W cB k0 k1 (M, u3.2) (nI 1) bf) (some (.int (nI 0)))) ([.ref k0, .int (nI n), .int (nI k)] : List Value).toArray s 1 6 A) (F0 m 48 ls []) := by
                intro f
                induction f with
                | zero =>
                  intro z M1 H locs ls hk2 hw hl hq2
                  exact absurd (congrArg (fun z => z.1) hq2) (fun z => Bool.false_ne_true z.symm)
                | succ f ih =>
                  intro z M1 H locs ls hk2 hw hl hq2
                  unfold ph_clr at hq2
                  refine lv_lload hx hb dX2_cleared_48 (lv_at hl 0 rfl) ?_
                  refine lv_lload_n hx hb dX2_cleared_50 rfl (lv_at hl 3 rfl) ?_
                  refine lv_lload hx hb dX2_cleared_51 (lv_at hl 2 rfl) ?_
                  refine hn_lmul (v := lN q) hx hb dX2_cleared_53 (by rw [lN_mul, hq]) ?_
                  refine hn_lge (a := z) (b := q) (tgt := 85) hx hb (by omega) (by omega) dX2_cleared_54 dX2_cleared_55 (by decide) (fun hd => ?_) (fun hd => ?_)
                  · exact absurd hd (by omega)
                  · refine lv_iload hx hb dX2_cleared_58 (lv_at hl 1 rfl) ?_
                    refine hn_zeq (n := a) (tgt := 85) hx hb (by omega) dX2_cleared_60 (by decide) (fun hd2 => ?_) (fun hd2 => ?_)
                    · exact absurd hd2 k9
                    · refine lv_aload_n hx hb dX2_cleared_63 rfl (lv_at hl 4 rfl) ?_
                      refine lv_iload hx hb dX2_cleared_64 (lv_at hl 1 rfl) ?_
                      refine hx_callS (rest := [.ref k0]) (n := 1) S hw (m_without l hst D tys cB ht k0 k1 (M1, u3.2) (nI 0) bf a (by omega)) gX2_cleared_X2_without rfl (by decide +kernel) rfl ⟨Nat.le_of_ble_eq_true rfl, Nat.le_of_ble_eq_true rfl⟩ hm_adr hl.1 rfl (Nat.le_of_ble_eq_true rfl) ⟨by decide, by decide⟩ dX2_cleared_66 (fun H locs hw => ?_)
                      refine W.eq (g2 := F0 m 69 ls [.long (lN a), .ref k0]) rfl ?_
                      refine lv_lload hx hb dX2_cleared_69 (lv_at hl 0 rfl) ?_
                      refine hn_ladd (v := lN (a + z)) hx hb dX2_cleared_71 (lN_add _ _) ?_
                      refine lv_iconst (v := nI 0) hx hb dX2_cleared_72 (by decide +kernel) ?_
                      by_cases hin : ph_in (a + z)
                      · rw [if_pos hin] at hq2
                        refine hx_callV (rest := []) (n := 2) S hw (m_writeN l hst D tys cB ht k0 k1 (M1, u3.2) (nI 0) bf (a + z) 0 (by decide) hin) gX2_cleared_X2_write rfl (by decide +kernel) rfl ⟨Nat.le_of_ble_eq_true rfl, Nat.le_of_ble_eq_true rfl⟩ 0 2 rfl rfl hm_adr hl.1 rfl (Nat.le_of_ble_eq_true rfl) ⟨by decide, by decide⟩ dX2_cleared_73 (fun H locs hw => ?_)
                        refine W.eq (g2 := F0 m 76 ls []) rfl ?_
                        refine lv_lload hx hb dX2_cleared_76 (lv_at hl 0 rfl) ?_
                        refine lv_lconst (v := lN 1) hx hb dX2_cleared_78 (by decide +kernel) ?_
                        refine hn_ladd (v := lN (z + 1)) hx hb dX2_cleared_79 (lN_add _ _) ?_
                        refine lv_lstore (lv' := [(8, .long (lN (z + 1))), (7, .int (nI a)), (5, .long (lN k)), (3, .long (lN n)), (0, .ref k0), (1, .int (nI n)), (2, .int (nI k))]) hx hb dX2_cleared_80 hl (by decide) rfl (fun ls hl => ?_)
                        refine lv_goto (tgt := 48) hx hb dX2_cleared_82 (by decide) ?_
                        exact ih (z + 1) _ _ _ _ (by omega) hw (lv_sub hl [0, 1, 2, 3, 4, 5, 6] rfl) hq2
                      · rw [if_neg hin] at hq2
                        have hq2 : M1 = M := congrArg (fun z => z.2) hq2
                        subst hq2
                        refine hx_fX (rest := []) (n := 2) (x := ⟨35, 87, 88, 32⟩) S hw (mx_write l hst D tys cB ht k0 k1 (M1, u3.2) (nI 0) bf (a + z) (nI 0) (by omega) hin) gX2_cleared_X2_write rfl (by decide +kernel) rfl ⟨Nat.le_of_ble_eq_true rfl, Nat.le_of_ble_eq_true rfl⟩ 0 2 rfl rfl hm_adr hl.1 rfl (Nat.le_of_ble_eq_true rfl) ⟨by decide, by decide⟩ dX2_cleared_73 htab (by decide) (by decide) (by decide +kernel) (fun q9 H locs hw hk => ?_)
                        refine W.eq (g2 := F0 m 88 ls [.ref q9]) rfl ?_
                        refine lv_astore (lv' := [(7, .ref q9), (8, .long (lN z)), (5, .long (lN k)), (3, .long (lN n)), (0, .ref k0), (1, .int (nI n)), (2, .int (nI k))]) hx hb dX2_cleared_88 hl (by decide) rfl (fun ls hl => ?_)
                        refine lv_aload_n hx hb dX2_cleared_90 rfl (lv_at hl 4 rfl) ?_
                        refine lv_iconst (v := nI 1) hx hb dX2_cleared_91 (by decide +kernel) ?_
                        refine va_put (D := D) (ci := 2) (v := .int (nI 1)) (ty := .int) (C := RX2) (T := TX2) (N := 5) hx hb hts hi2 tyX2 tyX2_ok nmX2 hown hK hw.1 hw.2.1 hw.2.2 0 rfl rfl 3 (by decide) (hts (.fieldLink RX2 21 "HeapRowModel" "thrown" "I") (by decide +kernel)) (fun _ h9 => h9) rfl (by decide +kernel) rfl rfl (Nat.le_of_ble_eq_true rfl) dX2_cleared_92 (fun H locs y1 y2 y3 => ?_)
                        have hw : hx_w D A s.heap (hm_W cB k0 k1 (M1, u3.2) (nI 1) bf) H locs := ⟨y1, y2, y3⟩
                        refine lv_iconst (v := nI 0) hx hb dX2_cleared_95 (by decide +kernel) ?_
                        exact hx_iret S hr hw dX2_cleared_96
              exact loop q 0 _ _ _ _ (by omega) hw (lv_sub hl [0, 1, 2, 3, 4, 5, 6] rfl) hl2
            | true =>
              rw [if_pos rfl] at h
              cases h
      · exact absurd hc2 (by omega)
set_option maxHeartbeats 4000000 in
set_option maxRecDepth 100000 in
theorem m_thrown (l : Launch) (hst : l.stackTraces = false) (D : va_G) (tys : List (ClassId × FieldType)) (cB : ClassId) (ht : tys[1]? = some (cB, .byte)) (k0 k1 : Nat) (u : ph_H) (th : Int32) (bf : Int64) : hx_R l D tys yX2_thrown wsX2_thrown 0 0 [.ref k0] (hm_W cB k0 k1 u th bf) (hm_W cB k0 k1 u th bf) (some (.int th)) := by
  refine hx_R.ofW (cc := cX2_thrown) (maxL := 1) (ret := (some .int)) (by decide) rfl (Nat.le_of_ble_eq_true rfl) ?_
  intro p e s m below meth c A ls hr S hw hl
  have S : hx_S p l s m _ meth c cX2_thrown 1 wsX2_thrown RX2 A D tys := S
  obtain ⟨⟨hx, hb, hml, hown, hts⟩, hK, hA, hE, hlk⟩ := id S
  have hi2 : ∀ w ∈ wsX20, w ∈ wsX2_thrown := by decide +kernel
  have hl : lv_has ls 1 [(0, .ref k0)] := hl
  refine lv_aload_n hx hb dX2_thrown_0 rfl (lv_at hl 0 rfl) ?_
  refine va_get (D := D) (ci := 2) (v := .int th) (C := RX2) (T := TX2) (N := 5) hx hb hts hi2 hown hK hw.1 0 rfl rfl 3 (by decide) (hts (.fieldLink RX2 21 "HeapRowModel" "thrown" "I") (by decide +kernel)) (fun _ h9 => h9) rfl dX2_thrown_1 ?_
  exact hx_iret S hr hw dX2_thrown_4
set_option maxHeartbeats 4000000 in
set_option maxRecDepth 100000 in
theorem m_end (l : Launch) (hst : l.stackTraces = false) (D : va_G) (tys : List (ClassId × FieldType)) (cB : ClassId) (ht : tys[1]? = some (cB, .byte)) (k0 k1 : Nat) (u : ph_H) (th : Int32) (bf : Int64) : hx_R l D tys yX2_end wsX2_end 0 0 [.ref k0] (hm_W cB k0 k1 u th bf) (hm_W cB k0 k1 u (nI 0) bf) (some (.int (nI u.2.1))) := by
  refine hx_R.ofW (cc := cX2_end) (maxL := 1) (ret := (some .int)) (by decide) rfl (Nat.le_of_ble_eq_true rfl) ?_
  intro p e s m below meth c A ls hr S hw hl
  have S : hx_S p l s m _ meth c cX2_end 1 wsX2_end RX2 A D tys := S
  obtain ⟨⟨hx, hb, hml, hown, hts⟩, hK, hA, hE, hlk⟩ := id S
  have hi2 : ∀ w ∈ wsX20, w ∈ wsX2_end := by decide +kernel
  have hl : lv_has ls 1 [(0, .ref k0)] := hl
  refine lv_aload_n hx hb dX2_end_0 rfl (lv_at hl 0 rfl) ?_
  refine lv_iconst (v := nI 0) hx hb dX2_end_1 (by decide +kernel) ?_
  refine va_put (D := D) (ci := 2) (v := .int (nI 0)) (ty := .int) (C := RX2) (T := TX2) (N := 5) hx hb hts hi2 tyX2 tyX2_ok nmX2 hown hK hw.1 hw.2.1 hw.2.2 0 rfl rfl 3 (by decide) (hts (.fieldLink RX2 21 "HeapRowModel" "thrown" "I") (by decide +kernel)) (fun _ h9 => h9) rfl (by decide +kernel) rfl rfl (Nat.le_of_ble_eq_true rfl) dX2_end_2 (fun H locs y1 y2 y3 => ?_)
  have hw : hx_w D A s.heap (hm_W cB k0 k1 u (nI 0) bf) H locs := ⟨y1, y2, y3⟩
  refine lv_aload_n hx hb dX2_end_5 rfl (lv_at hl 0 rfl) ?_
  refine va_get (D := D) (ci := 2) (v := .int (nI u.2.1)) (C := RX2) (T := TX2) (N := 5) hx hb hts hi2 hown hK hw.1 0 rfl rfl 1 (by decide) (hts (.fieldLink RX2 14 "HeapRowModel" "end" "I") (by decide +kernel)) (fun _ h9 => h9) rfl dX2_end_6 ?_
  exact hx_iret S hr hw dX2_end_9
set_option maxHeartbeats 4000000 in
set_option maxRecDepth 100000 in
theorem m_stack (l : Launch) (hst : l.stackTraces = false) (D : va_G) (tys : List (ClassId × FieldType)) (cB : ClassId) (ht : tys[1]? = some (cB, .byte)) (k0 k1 : Nat) (u : ph_H) (th : Int32) (bf : Int64) (t : Nat) (hu : ph_I u) (hta : t < 4294967296) : hx_R l D tys yX2_stack wsX2_stack 0 0 [.ref k0, .int (nI t)] (hm_W cB k0 k1 u th bf) (hm_W cB k0 k1 (ph_stk u t).2 (nI 0) bf) (some (.int (if (ph_stk u t).1 = true then nI 1 else nI 0))) := by
  refine hx_R.ofW (cc := cX2_stack) (maxL := 2) (ret := (some .boolean)) (by decide) rfl (Nat.le_of_ble_eq_true rfl) ?_
  intro p e s m below meth c A ls hr S hw hl
  have S : hx_S p l s m _ meth c cX2_stack 2 wsX2_stack RX2 A D tys := S
  obtain ⟨⟨hx, hb, hml, hown, hts⟩, hK, hA, hE, hlk⟩ := id S
  have hi2 : ∀ w ∈ wsX20, w ∈ wsX2_stack := by decide +kernel
  have hl : lv_has ls 2 [(0, .ref k0), (1, .int (nI t))] := hl
  obtain ⟨i1, i2, i3, i4⟩ := hu
  unfold ph_stk
  refine lv_aload_n hx hb dX2_stack_0 rfl (lv_at hl 0 rfl) ?_
  refine lv_iconst (v := nI 0) hx hb dX2_stack_1 (by decide +kernel) ?_
  refine va_put (D := D) (ci := 2) (v := .int (nI 0)) (ty := .int) (C := RX2) (T := TX2) (N := 5) hx hb hts hi2 tyX2 tyX2_ok nmX2 hown hK hw.1 hw.2.1 hw.2.2 0 rfl rfl 3 (by decide) (hts (.fieldLink RX2 21 "HeapRowModel" "thrown" "I") (by decide +kernel)) (fun _ h9 => h9) rfl (by decide +kernel) rfl rfl (Nat.le_of_ble_eq_true rfl) dX2_stack_2 (fun H locs y1 y2 y3 => ?_)
  have hw : hx_w D A s.heap (hm_W cB k0 k1 u (nI 0) bf) H locs := ⟨y1, y2, y3⟩
  refine lv_iload_n hx hb dX2_stack_5 rfl (lv_at hl 1 rfl) ?_
  refine lv_sipush (v := nI 1024) hx hb dX2_stack_6 (by decide +kernel) ?_
  by_cases kt : t < 2147483648
  · refine hn_ilt (a := t) (b := 1024) (tgt := 26) hx hb (by omega) (by omega) dX2_stack_9 (by decide) (fun hc => ?_) (fun hc => ?_)
    · rw [if_pos (by omega)]
      refine lv_iconst (v := nI 0) hx hb dX2_stack_26 (by decide +kernel) ?_
      exact hx_zret (v := nI 0) S hr rfl hw dX2_stack_27
    · refine lv_iload_n hx hb dX2_stack_12 rfl (lv_at hl 1 rfl) ?_
      refine lv_ldc (v := nI 65536) hx hb hown (hts (.constant RX2 9 (nI 65536)) (by decide +kernel)) dX2_stack_13 ?_
      refine hn_igt (a := t) (b := 65536) (tgt := 26) hx hb (by omega) (by omega) dX2_stack_15 (by decide) (fun hc2 => ?_) (fun hc2 => ?_)
      · rw [if_pos (by omega)]
        refine lv_iconst (v := nI 0) hx hb dX2_stack_26 (by decide +kernel) ?_
        exact hx_zret (v := nI 0) S hr rfl hw dX2_stack_27
      · refine lv_iload_n hx hb dX2_stack_18 rfl (lv_at hl 1 rfl) ?_
        refine lv_aload_n hx hb dX2_stack_19 rfl (lv_at hl 0 rfl) ?_
        refine va_get (D := D) (ci := 2) (v := .int (nI u.2.1)) (C := RX2) (T := TX2) (N := 5) hx hb hts hi2 hown hK hw.1 0 rfl rfl 1 (by decide) (hts (.fieldLink RX2 14 "HeapRowModel" "end" "I") (by decide +kernel)) (fun _ h9 => h9) rfl dX2_stack_20 ?_
        refine hn_ige (a := t) (b := u.2.1) (tgt := 28) hx hb (by omega) (by omega) dX2_stack_23 (by decide) (fun hc3 => ?_) (fun hc3 => ?_)
        · rw [if_neg (by omega)]
          refine lv_aload_n hx hb dX2_stack_28 rfl (lv_at hl 0 rfl) ?_
          refine lv_iload_n hx hb dX2_stack_29 rfl (lv_at hl 1 rfl) ?_
          refine va_put (D := D) (ci := 2) (v := .int (nI t)) (ty := .int) (C := RX2) (T := TX2) (N := 5) hx hb hts hi2 tyX2 tyX2_ok nmX2 hown hK hw.1 hw.2.1 hw.2.2 0 rfl rfl 2 (by decide) (hts (.fieldLink RX2 18 "HeapRowModel" "stack" "I") (by decide +kernel)) (fun _ h9 => h9) rfl (by decide +kernel) rfl rfl (Nat.le_of_ble_eq_true rfl) dX2_stack_30 (fun H locs y1 y2 y3 => ?_)
          have hw : hx_w D A s.heap (hm_W cB k0 k1 (u.1, u.2.1, t) (nI 0) bf) H locs := ⟨y1, y2, y3⟩
          refine lv_iconst (v := nI 1) hx hb dX2_stack_33 (by decide +kernel) ?_
          exact hx_zret (v := nI 1) S hr rfl hw dX2_stack_34
        · rw [if_pos (by omega)]
          refine lv_iconst (v := nI 0) hx hb dX2_stack_26 (by decide +kernel) ?_
          exact hx_zret (v := nI 0) S hr rfl hw dX2_stack_27
  · refine lv_icmp_lt (tgt := 26) hx hb dX2_stack_9 (by decide) (fun _ => ?_) (fun z => absurd (hp_ineg (by omega) hta) z)
    rw [if_pos (by omega)]
    refine lv_iconst (v := nI 0) hx hb dX2_stack_26 (by decide +kernel) ?_
    exact hx_zret (v := nI 0) S hr rfl hw dX2_stack_27
set_option maxHeartbeats 4000000 in
set_option maxRecDepth 100000 in
theorem m_put (l : Launch) (hst : l.stackTraces = false) (D : va_G) (tys : List (ClassId × FieldType)) (cB : ClassId) (ht : tys[1]? = some (cB, .byte)) (k0 k1 : Nat) (u : ph_H) (th : Int32) (bf : Int64) (a v : Nat) (ha : a < 4294967296) (hv : v < 4294967296) : hx_R l D tys yX2_put wsX2_put 1 21 [.ref k0, .int (nI a), .int (nI v)] (hm_W cB k0 k1 u th bf) (hm_W cB k0 k1 (if ph_in a then (ph_sb u.1 a v, u.2) else u) (nI 0) bf) (some (.int (if ph_in a then nI (ph_b u.1 a) else (-1)))) := by
  refine hx_R.ofW (cc := cX2_put) (maxL := 4) (ret := (some .int)) (by decide) rfl (Nat.le_of_ble_eq_true rfl) ?_
  intro p e s m below meth c A ls hr S hw hl
  have S : hx_S p l s m _ meth c cX2_put 4 wsX2_put RX2 A D tys := S
  obtain ⟨⟨hx, hb, hml, hown, hts⟩, hK, hA, hE, hlk⟩ := id S
  have hi2 : ∀ w ∈ wsX20, w ∈ wsX2_put := by decide +kernel
  have hl : lv_has ls 4 [(0, .ref k0), (1, .int (nI a)), (2, .int (nI v))] := hl
  refine lv_aload_n hx hb dX2_put_0 rfl (lv_at hl 0 rfl) ?_
  refine lv_iconst (v := nI 0) hx hb dX2_put_1 (by decide +kernel) ?_
  refine va_put (D := D) (ci := 2) (v := .int (nI 0)) (ty := .int) (C := RX2) (T := TX2) (N := 5) hx hb hts hi2 tyX2 tyX2_ok nmX2 hown hK hw.1 hw.2.1 hw.2.2 0 rfl rfl 3 (by decide) (hts (.fieldLink RX2 21 "HeapRowModel" "thrown" "I") (by decide +kernel)) (fun _ h9 => h9) rfl (by decide +kernel) rfl rfl (Nat.le_of_ble_eq_true rfl) dX2_put_2 (fun H locs y1 y2 y3 => ?_)
  have hw : hx_w D A s.heap (hm_W cB k0 k1 u (nI 0) bf) H locs := ⟨y1, y2, y3⟩
  refine lv_iload_n hx hb dX2_put_5 rfl (lv_at hl 1 rfl) ?_
  refine hx_callS (rest := []) (n := 1) S hw (m_without l hst D tys cB ht k0 k1 u (nI 0) bf a (by omega)) gX2_put_X2_without rfl (by decide +kernel) rfl ⟨Nat.le_of_ble_eq_true rfl, Nat.le_of_ble_eq_true rfl⟩ hm_adr hl.1 rfl (Nat.le_of_ble_eq_true rfl) ⟨by decide, by decide⟩ dX2_put_6 (fun H locs hw => ?_)
  refine W.eq (g2 := F0 m 9 ls [.long (lN a)]) rfl ?_
  refine hx_callS (rest := []) (n := 1) S hw (m_there l hst D tys cB ht k0 k1 u (nI 0) bf a (by omega)) gX2_put_X2_there rfl (by decide +kernel) rfl ⟨Nat.le_of_ble_eq_true rfl, Nat.le_of_ble_eq_true rfl⟩ hm_adr hl.1 rfl (Nat.le_of_ble_eq_true rfl) ⟨by decide, by decide⟩ dX2_put_9 (fun H locs hw => ?_)
  refine W.eq (g2 := F0 m 12 ls [.int (if ph_in a then nI 1 else nI 0)]) rfl ?_
  refine hn_pne (tgt := 17) hx hb dX2_put_12 (by decide) (fun hc => ?_) (fun hc => ?_)
  · rw [if_pos hc, if_pos hc]
    refine lv_aload_n hx hb dX2_put_17 rfl (lv_at hl 0 rfl) ?_
    refine va_get (D := D) (ci := 2) (v := .ref k1) (C := RX2) (T := TX2) (N := 5) hx hb hts hi2 hown hK hw.1 0 rfl rfl 0 (by decide) (hts (.fieldLink RX2 10 "HeapRowModel" "memory" "[B") (by decide +kernel)) (fun _ h9 => h9) rfl dX2_put_18 ?_
    refine lv_iload_n hx hb dX2_put_21 rfl (lv_at hl 1 rfl) ?_
    refine hn_bald hx hb hK hw.1 1 1 rfl ht (k := a) (by omega) (by decide) dX2_put_22 ?_
    refine lv_sipush (v := nI 255) hx hb dX2_put_23 (by decide +kernel) ?_
    refine hn_iand (v := nI (ph_b u.1 a)) hx hb dX2_put_26 (sb_byte _ (ph_b_lt u.1 a)).1 ?_
    refine lv_istore_n (lv' := [(3, .int (nI (ph_b u.1 a))), (0, .ref k0), (1, .int (nI a)), (2, .int (nI v))]) hx hb dX2_put_27 rfl hl (by decide) rfl (fun ls hl => ?_)
    refine lv_aload_n hx hb dX2_put_28 rfl (lv_at hl 1 rfl) ?_
    refine va_get (D := D) (ci := 2) (v := .ref k1) (C := RX2) (T := TX2) (N := 5) hx hb hts hi2 hown hK hw.1 0 rfl rfl 0 (by decide) (hts (.fieldLink RX2 10 "HeapRowModel" "memory" "[B") (by decide +kernel)) (fun _ h9 => h9) rfl dX2_put_29 ?_
    refine lv_iload_n hx hb dX2_put_32 rfl (lv_at hl 2 rfl) ?_
    refine lv_iload_n hx hb dX2_put_33 rfl (lv_at hl 3 rfl) ?_
    refine lv_i2b (v := (nI v).toInt8.toInt32) hx hb dX2_put_34 rfl ?_
    refine hn_bast hx hb hK hw 1 1 rfl ht (k := a) (by omega) (by decide) dX2_put_35 (fun H locs hw => ?_)
    have hw : hx_w D A s.heap (hm_W cB k0 k1 (ph_sb u.1 a v, u.2) (nI 0) bf) H locs := by
      show hx_w D A s.heap [(k0, .inr (2, [.ref k1, .int (nI u.2.1), .int (nI u.2.2), .int (nI 0), .long bf])), (k1, .inl (cB, 65536, .inl (fun j => sb_b (ph_b (ph_sb u.1 a v) j))))] H locs
      rw [← hp_sb u.1 a (nI v).toBitVec.toNat v (by rw [pw_nb, Nat.mod_eq_of_lt (show v < 2 ^ 32 from hv)]), ← hm_store u.1 a (nI v)]
      exact hw
    refine lv_iload_n hx hb dX2_put_36 rfl (lv_at hl 0 rfl) ?_
    exact hx_iret S hr hw dX2_put_37
  · rw [if_neg hc, if_neg hc]
    refine lv_iconst (v := (-1)) hx hb dX2_put_15 (by decide +kernel) ?_
    exact hx_iret S hr hw dX2_put_16
set_option maxHeartbeats 4000000 in
set_option maxRecDepth 100000 in
theorem m_get (l : Launch) (hst : l.stackTraces = false) (D : va_G) (tys : List (ClassId × FieldType)) (cB : ClassId) (ht : tys[1]? = some (cB, .byte)) (k0 k1 : Nat) (u : ph_H) (th : Int32) (bf : Int64) (a : Nat) (ha : a < 4294967296) : hx_R l D tys yX2_get wsX2_get 1 21 [.ref k0, .int (nI a)] (hm_W cB k0 k1 u th bf) (hm_W cB k0 k1 u (nI 0) bf) (some (.int (if ph_in a then nI (ph_b u.1 a) else (-1)))) := by
  refine hx_R.ofW (cc := cX2_get) (maxL := 2) (ret := (some .int)) (by decide) rfl (Nat.le_of_ble_eq_true rfl) ?_
  intro p e s m below meth c A ls hr S hw hl
  have S : hx_S p l s m _ meth c cX2_get 2 wsX2_get RX2 A D tys := S
  obtain ⟨⟨hx, hb, hml, hown, hts⟩, hK, hA, hE, hlk⟩ := id S
  have hi2 : ∀ w ∈ wsX20, w ∈ wsX2_get := by decide +kernel
  have hl : lv_has ls 2 [(0, .ref k0), (1, .int (nI a))] := hl
  refine lv_aload_n hx hb dX2_get_0 rfl (lv_at hl 0 rfl) ?_
  refine lv_iconst (v := nI 0) hx hb dX2_get_1 (by decide +kernel) ?_
  refine va_put (D := D) (ci := 2) (v := .int (nI 0)) (ty := .int) (C := RX2) (T := TX2) (N := 5) hx hb hts hi2 tyX2 tyX2_ok nmX2 hown hK hw.1 hw.2.1 hw.2.2 0 rfl rfl 3 (by decide) (hts (.fieldLink RX2 21 "HeapRowModel" "thrown" "I") (by decide +kernel)) (fun _ h9 => h9) rfl (by decide +kernel) rfl rfl (Nat.le_of_ble_eq_true rfl) dX2_get_2 (fun H locs y1 y2 y3 => ?_)
  have hw : hx_w D A s.heap (hm_W cB k0 k1 u (nI 0) bf) H locs := ⟨y1, y2, y3⟩
  refine lv_iload_n hx hb dX2_get_5 rfl (lv_at hl 1 rfl) ?_
  refine hx_callS (rest := []) (n := 1) S hw (m_without l hst D tys cB ht k0 k1 u (nI 0) bf a (by omega)) gX2_get_X2_without rfl (by decide +kernel) rfl ⟨Nat.le_of_ble_eq_true rfl, Nat.le_of_ble_eq_true rfl⟩ hm_adr hl.1 rfl (Nat.le_of_ble_eq_true rfl) ⟨by decide, by decide⟩ dX2_get_6 (fun H locs hw => ?_)
  refine W.eq (g2 := F0 m 9 ls [.long (lN a)]) rfl ?_
  refine hx_callS (rest := []) (n := 1) S hw (m_there l hst D tys cB ht k0 k1 u (nI 0) bf a (by omega)) gX2_get_X2_there rfl (by decide +kernel) rfl ⟨Nat.le_of_ble_eq_true rfl, Nat.le_of_ble_eq_true rfl⟩ hm_adr hl.1 rfl (Nat.le_of_ble_eq_true rfl) ⟨by decide, by decide⟩ dX2_get_9 (fun H locs hw => ?_)
  refine W.eq (g2 := F0 m 12 ls [.int (if ph_in a then nI 1 else nI 0)]) rfl ?_
  refine hn_peq (tgt := 28) hx hb dX2_get_12 (by decide) (fun hc => ?_) (fun hc => ?_)
  · rw [if_neg hc]
    refine lv_iconst (v := (-1)) hx hb dX2_get_28 (by decide +kernel) ?_
    exact hx_iret S hr hw dX2_get_29
  · rw [if_pos hc]
    refine lv_aload_n hx hb dX2_get_15 rfl (lv_at hl 0 rfl) ?_
    refine va_get (D := D) (ci := 2) (v := .ref k1) (C := RX2) (T := TX2) (N := 5) hx hb hts hi2 hown hK hw.1 0 rfl rfl 0 (by decide) (hts (.fieldLink RX2 10 "HeapRowModel" "memory" "[B") (by decide +kernel)) (fun _ h9 => h9) rfl dX2_get_16 ?_
    refine lv_iload_n hx hb dX2_get_19 rfl (lv_at hl 1 rfl) ?_
    refine hn_bald hx hb hK hw.1 1 1 rfl ht (k := a) (by omega) (by decide) dX2_get_20 ?_
    refine lv_sipush (v := nI 255) hx hb dX2_get_21 (by decide +kernel) ?_
    refine hn_iand (v := nI (ph_b u.1 a)) hx hb dX2_get_24 (sb_byte _ (ph_b_lt u.1 a)).1 ?_
    refine lv_goto (tgt := 29) hx hb dX2_get_25 (by decide) ?_
    exact hx_iret S hr hw dX2_get_29
