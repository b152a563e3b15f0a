/-! HeapRowModel: found, take -/
set_option maxHeartbeats 4000000 in
set_option maxRecDepth 100000 in
theorem m_found (l : Launch) (hst : l.stackTraces = false) (D : va_G) (tys : List (ClassId × FieldType)) (cB : ClassId) (ht : tys[1]? = some (cB, .byte)) (k0 k1 : Nat) (u : ph_H) (th : Int32) (bf : Int64) (a b p0 : Nat) (hu : ph_I u) (ha : a < 4294967296) (hq0 : ph_fd u.1 u.2.1 a 8064 0 1024 = some (b, p0)) : hx_R l D tys yX2_found wsX2_found 9 150 [.ref k0, .int (nI a)] (hm_W cB k0 k1 u th bf) (hm_W cB k0 k1 u th (hm_bf p0)) (some (.long (lN b))) := by
  refine hx_R.ofW (cc := cX2_found) (maxL := 7) (ret := (some .long)) (by decide) rfl (Nat.le_of_ble_eq_true rfl) ?_
  intro p e s m below meth c A ls hr S hw hl
  have S : hx_S p l s m _ meth c cX2_found 7 wsX2_found RX2 A D tys := S
  obtain ⟨⟨hx, hb, hml, hown, hts⟩, hK, hA, hE, hlk⟩ := id S
  have hi2 : ∀ w ∈ wsX20, w ∈ wsX2_found := by decide +kernel
  have hl : lv_has ls 7 [(0, .ref k0), (1, .int (nI a))] := hl
  obtain ⟨i1, i2, i3, i4⟩ := hu
  refine lv_aload_n hx hb dX2_found_0 rfl (lv_at hl 0 rfl) ?_
  refine lv_ldc2 (v := (-1)) hx hb hown (hts (.constantLong RX2 56 (-1)) (by decide +kernel)) dX2_found_1 ?_
  refine va_put (D := D) (ci := 2) (v := .long ((-1))) (ty := .long) (C := RX2) (T := TX2) (N := 5) hx hb hts hi2 tyX2 tyX2_ok nmX2 hown hK hw.1 hw.2.1 hw.2.2 0 rfl rfl 4 (by decide) (hts (.fieldLink RX2 58 "HeapRowModel" "before" "J") (by decide +kernel)) (fun _ h9 => h9) rfl (by decide +kernel) rfl rfl (Nat.le_of_ble_eq_true rfl) dX2_found_4 (fun H locs y1 y2 y3 => ?_)
  have hw : hx_w D A s.heap (hm_W cB k0 k1 u th (-1)) H locs := ⟨y1, y2, y3⟩
  have hw : hx_w D A s.heap (hm_W cB k0 k1 u th (hm_bf 0)) H locs := hw
  refine lv_ldc2 (v := lN 1024) hx hb hown (hts (.constantLong RX2 24 (lN 1024)) (by decide +kernel)) dX2_found_7 ?_
  refine lv_lstore_n (lv' := [(2, .long (lN 1024)), (0, .ref k0), (1, .int (nI a))]) hx hb dX2_found_10 rfl hl (by decide) rfl (fun ls hl => ?_)
  have loop : ∀ (f pv x : Nat) (H : Heap) (locs : List Loc) (ls : Array Slot), u.2.1 ≤ x + 8 * f → 1024 ≤ x → x < 17179869184 → hx_w D A s.heap (hm_W cB k0 k1 u th (hm_bf pv)) H locs → lv_has ls 7 [(2, .long (lN x)), (0, .ref k0), (1, .int (nI a))] → ph_fd u.1 u.2.1 a f pv x = some (b, p0) → W p l e { frames := 9, cells := 0, slots := 0, locals := 150 } s m ([.ref k0, .int (nI a)] : List Value).toArray below meth c H locs 0 0 (MQ below (hx_Q D A (hm_W cB k0 k1 u th (hm_bf p0)) (some (.long (lN b)))) ([.ref k0, .int (nI a)] : List Value).toArray s 0 0 A) (F0 m 11 ls []) := by
    intro f
    induction f with
    | zero =>
      intro pv x H locs ls hk gb1 gb2 hw hl hq
      cases hq
    | succ f ih =>
      intro pv x H locs ls hk gb1 gb2 hw hl hq
      have gn := ph_n_lt u.1 x
      unfold ph_fd at hq
      refine lv_lload_n hx hb dX2_found_11 rfl (lv_at hl 0 rfl) ?_
      refine lv_aload_n hx hb dX2_found_12 rfl (lv_at hl 1 rfl) ?_
      refine va_get (D := D) (ci := 2) (v := .int (nI u.2.1)) (C := RX2) (T := TX2) (N := 5) hx hb hts hi2 hown hK hw.1 0 rfl rfl 1 (by decide) (hts (.fieldLink RX2 14 "HeapRowModel" "end" "I") (by decide +kernel)) (fun _ h9 => h9) rfl dX2_found_13 ?_
      refine lv_i2l (v := lN u.2.1) hx hb dX2_found_16 (nI_l (by omega)) ?_
      refine hn_lge (a := x) (b := u.2.1) (tgt := 72) hx hb (by omega) (by omega) dX2_found_17 dX2_found_18 (by decide) (fun hc => ?_) (fun hc => ?_)
      · rw [if_neg (by omega)] at hq
        cases hq
      · refine lv_aload_n hx hb dX2_found_21 rfl (lv_at hl 1 rfl) ?_
        refine lv_lload_n hx hb dX2_found_22 rfl (lv_at hl 0 rfl) ?_
        refine hx_callV (rest := []) (n := 1) S hw (m_sizeAt l hst D tys cB ht k0 k1 u th (hm_bf pv) x ⟨by omega, by omega⟩) gX2_found_X2_sizeAt rfl (by decide +kernel) rfl ⟨Nat.le_of_ble_eq_true rfl, Nat.le_of_ble_eq_true rfl⟩ 0 2 rfl rfl hm_adr hl.1 rfl (Nat.le_of_ble_eq_true rfl) ⟨by decide, by decide⟩ dX2_found_23 (fun H locs hw => ?_)
        refine W.eq (g2 := F0 m 26 ls [.long (lN (ph_n u.1 x))]) rfl ?_
        refine lv_lstore (lv' := [(4, .long (lN (ph_n u.1 x))), (2, .long (lN x)), (0, .ref k0), (1, .int (nI a))]) hx hb dX2_found_26 hl (by decide) rfl (fun ls hl => ?_)
        refine lv_aload_n hx hb dX2_found_28 rfl (lv_at hl 2 rfl) ?_
        refine lv_lload_n hx hb dX2_found_29 rfl (lv_at hl 1 rfl) ?_
        refine hx_callV (rest := []) (n := 1) S hw (m_takenAt l hst D tys cB ht k0 k1 u th (hm_bf pv) x ⟨by omega, by omega⟩) gX2_found_X2_takenAt rfl (by decide +kernel) rfl ⟨Nat.le_of_ble_eq_true rfl, Nat.le_of_ble_eq_true rfl⟩ 0 2 rfl rfl hm_adr hl.1 rfl (Nat.le_of_ble_eq_true rfl) ⟨by decide, by decide⟩ dX2_found_30 (fun H locs hw => ?_)
        refine W.eq (g2 := F0 m 33 ls [.int (if ph_n u.1 (x + 4) = 1 then nI 1 else nI 0)]) rfl ?_
        refine lv_istore (lv' := [(6, .int (if ph_n u.1 (x + 4) = 1 then nI 1 else nI 0)), (4, .long (lN (ph_n u.1 x))), (2, .long (lN x)), (0, .ref k0), (1, .int (nI a))]) hx hb dX2_found_33 hl (by decide) rfl (fun ls hl => ?_)
        refine lv_lload_n hx hb dX2_found_35 rfl (lv_at hl 2 rfl) ?_
        refine lv_ldc2 (v := lN 8) hx hb hown (hts (.constantLong RX2 69 (lN 8)) (by decide +kernel)) dX2_found_36 ?_
        refine hn_ladd (v := lN (x + 8)) hx hb dX2_found_39 (lN_add _ _) ?_
        refine lv_iload_n hx hb dX2_found_40 rfl (lv_at hl 4 rfl) ?_
        refine hx_callS (rest := [.long (lN (x + 8))]) (n := 1) S hw (m_without l hst D tys cB ht k0 k1 u th (hm_bf pv) a ha) gX2_found_X2_without rfl (by decide +kernel) rfl ⟨Nat.le_of_ble_eq_true rfl, Nat.le_of_ble_eq_true rfl⟩ hm_adr hl.1 rfl (Nat.le_of_ble_eq_true rfl) ⟨by decide, by decide⟩ dX2_found_41 (fun H locs hw => ?_)
        refine W.eq (g2 := F0 m 44 ls [.long (lN a), .long (lN (x + 8))]) rfl ?_
        refine hn_lne (a := (x + 8)) (b := a) (tgt := 55) hx hb (by omega) (by omega) dX2_found_44 dX2_found_45 (by decide) (fun hc2 => ?_) (fun hc2 => ?_)
        · rw [if_pos hc, if_neg (fun z => hc2 z.1)] at hq
          refine lv_aload_n hx hb dX2_found_55 rfl (lv_at hl 3 rfl) ?_
          refine lv_lload_n hx hb dX2_found_56 rfl (lv_at hl 2 rfl) ?_
          refine va_put (D := D) (ci := 2) (v := .long (lN x)) (ty := .long) (C := RX2) (T := TX2) (N := 5) hx hb hts hi2 tyX2 tyX2_ok nmX2 hown hK hw.1 hw.2.1 hw.2.2 0 rfl rfl 4 (by decide) (hts (.fieldLink RX2 58 "HeapRowModel" "before" "J") (by decide +kernel)) (fun _ h9 => h9) rfl (by decide +kernel) rfl rfl (Nat.le_of_ble_eq_true rfl) dX2_found_57 (fun H locs y1 y2 y3 => ?_)
          have hw : hx_w D A s.heap (hm_W cB k0 k1 u th (lN x)) H locs := ⟨y1, y2, y3⟩
          have ex : lN x = hm_bf x := (if_neg (by omega)).symm
          rw [ex] at hw
          refine lv_lload_n hx hb dX2_found_60 rfl (lv_at hl 2 rfl) ?_
          refine lv_ldc2 (v := lN 8) hx hb hown (hts (.constantLong RX2 69 (lN 8)) (by decide +kernel)) dX2_found_61 ?_
          refine hn_ladd (v := lN (x + 8)) hx hb dX2_found_64 (lN_add _ _) ?_
          refine lv_lload hx hb dX2_found_65 (lv_at hl 1 rfl) ?_
          refine hn_ladd (v := lN ((x + 8) + (ph_n u.1 x))) hx hb dX2_found_67 (lN_add _ _) ?_
          refine lv_lstore_n (lv' := [(2, .long (lN ((x + 8) + (ph_n u.1 x)))), (6, .int (if ph_n u.1 (x + 4) = 1 then nI 1 else nI 0)), (4, .long (lN (ph_n u.1 x))), (0, .ref k0), (1, .int (nI a))]) hx hb dX2_found_68 rfl hl (by decide) rfl (fun ls hl => ?_)
          refine lv_goto (tgt := 11) hx hb dX2_found_69 (by decide) ?_
          exact ih x (x + 8 + ph_n u.1 x) _ _ _ (by omega) (by omega) (by omega) hw (lv_sub hl [0, 3, 4] rfl) hq
        · refine lv_iload hx hb dX2_found_48 (lv_at hl 0 rfl) ?_
          refine hn_peq (tgt := 55) hx hb dX2_found_50 (by decide) (fun hc3 => ?_) (fun hc3 => ?_)
          · rw [if_pos hc, if_neg (fun z => hc3 z.2)] at hq
            refine lv_aload_n hx hb dX2_found_55 rfl (lv_at hl 3 rfl) ?_
            refine lv_lload_n hx hb dX2_found_56 rfl (lv_at hl 2 rfl) ?_
            refine va_put (D := D) (ci := 2) (v := .long (lN x)) (ty := .long) (C := RX2) (T := TX2) (N := 5) hx hb hts hi2 tyX2 tyX2_ok nmX2 hown hK hw.1 hw.2.1 hw.2.2 0 rfl rfl 4 (by decide) (hts (.fieldLink RX2 58 "HeapRowModel" "before" "J") (by decide +kernel)) (fun _ h9 => h9) rfl (by decide +kernel) rfl rfl (Nat.le_of_ble_eq_true rfl) dX2_found_57 (fun H locs y1 y2 y3 => ?_)
            have hw : hx_w D A s.heap (hm_W cB k0 k1 u th (lN x)) H locs := ⟨y1, y2, y3⟩
            have ex : lN x = hm_bf x := (if_neg (by omega)).symm
            rw [ex] at hw
            refine lv_lload_n hx hb dX2_found_60 rfl (lv_at hl 2 rfl) ?_
            refine lv_ldc2 (v := lN 8) hx hb hown (hts (.constantLong RX2 69 (lN 8)) (by decide +kernel)) dX2_found_61 ?_
            refine hn_ladd (v := lN (x + 8)) hx hb dX2_found_64 (lN_add _ _) ?_
            refine lv_lload hx hb dX2_found_65 (lv_at hl 1 rfl) ?_
            refine hn_ladd (v := lN ((x + 8) + (ph_n u.1 x))) hx hb dX2_found_67 (lN_add _ _) ?_
            refine lv_lstore_n (lv' := [(2, .long (lN ((x + 8) + (ph_n u.1 x)))), (6, .int (if ph_n u.1 (x + 4) = 1 then nI 1 else nI 0)), (4, .long (lN (ph_n u.1 x))), (0, .ref k0), (1, .int (nI a))]) hx hb dX2_found_68 rfl hl (by decide) rfl (fun ls hl => ?_)
            refine lv_goto (tgt := 11) hx hb dX2_found_69 (by decide) ?_
            exact ih x (x + 8 + ph_n u.1 x) _ _ _ (by omega) (by omega) (by omega) hw (lv_sub hl [0, 3, 4] rfl) hq
          · rw [if_pos hc, if_pos ⟨hc2, hc3⟩] at hq
            cases hq
            refine lv_lload_n hx hb dX2_found_53 rfl (lv_at hl 2 rfl) ?_
            exact hx_lret S hr hw dX2_found_54
  exact loop 8064 0 1024 _ _ _ (by omega) (by decide) (by decide) hw (lv_sub hl [0, 1, 2] rfl) hq0
set_option maxHeartbeats 4000000 in
set_option maxRecDepth 100000 in
theorem mx_found (l : Launch) (hst : l.stackTraces = false) (D : va_G) (tys : List (ClassId × FieldType)) (cB : ClassId) (ht : tys[1]? = some (cB, .byte)) (k0 k1 : Nat) (u : ph_H) (th : Int32) (bf : Int64) (a z : Nat) (hu : ph_I u) (ha : a < 4294967296) (hz0 : ph_bb u.1 u.2.1 8064 0 1024 = z) (hq0 : ph_fd u.1 u.2.1 a 8064 0 1024 = none) : hx_X l D tys yX2_found wsX2_found 9 150 [.ref k0, .int (nI a)] (hm_W cB k0 k1 u th bf) (hm_W cB k0 k1 u th (hm_bf z)) := by
  refine hx_X.ofW (cc := cX2_found) (maxL := 7) (ret := (some .long)) (by decide) rfl (Nat.le_of_ble_eq_true rfl) ?_
  intro p e s m below meth c A ls hr S hno hw hl
  have S : hx_S p l s m _ meth c cX2_found 7 wsX2_found RX2 A D tys := S
  obtain ⟨⟨hx, hb, hml, hown, hts⟩, hK, hA, hE, hlk⟩ := id S
  have hi2 : ∀ w ∈ wsX20, w ∈ wsX2_found := by decide +kernel
  have hl : lv_has ls 7 [(0, .ref k0), (1, .int (nI a))] := hl
  obtain ⟨i1, i2, i3, i4⟩ := hu
  refine lv_aload_n hx hb dX2_found_0 rfl (lv_at hl 0 rfl) ?_
  refine lv_ldc2 (v := (-1)) hx hb hown (hts (.constantLong RX2 56 (-1)) (by decide +kernel)) dX2_found_1 ?_
  refine va_put (D := D) (ci := 2) (v := .long ((-1))) (ty := .long) (C := RX2) (T := TX2) (N := 5) hx hb hts hi2 tyX2 tyX2_ok nmX2 hown hK hw.1 hw.2.1 hw.2.2 0 rfl rfl 4 (by decide) (hts (.fieldLink RX2 58 "HeapRowModel" "before" "J") (by decide +kernel)) (fun _ h9 => h9) rfl (by decide +kernel) rfl rfl (Nat.le_of_ble_eq_true rfl) dX2_found_4 (fun H locs y1 y2 y3 => ?_)
  have hw : hx_w D A s.heap (hm_W cB k0 k1 u th (-1)) H locs := ⟨y1, y2, y3⟩
  have hw : hx_w D A s.heap (hm_W cB k0 k1 u th (hm_bf 0)) H locs := hw
  refine lv_ldc2 (v := lN 1024) hx hb hown (hts (.constantLong RX2 24 (lN 1024)) (by decide +kernel)) dX2_found_7 ?_
  refine lv_lstore_n (lv' := [(2, .long (lN 1024)), (0, .ref k0), (1, .int (nI a))]) hx hb dX2_found_10 rfl hl (by decide) rfl (fun ls hl => ?_)
  have loop : ∀ (f pv x : Nat) (H : Heap) (locs : List Loc) (ls : Array Slot), u.2.1 ≤ x + 8 * f → 1024 ≤ x → x < 17179869184 → hx_w D A s.heap (hm_W cB k0 k1 u th (hm_bf pv)) H locs → lv_has ls 7 [(2, .long (lN x)), (0, .ref k0), (1, .int (nI a))] → ph_fd u.1 u.2.1 a f pv x = none → ph_bb u.1 u.2.1 f pv x = z → W p l e { frames := 9, cells := 1, slots := 6, locals := 150 } s m ([.ref k0, .int (nI a)] : List Value).toArray below meth c H locs 0 0 (vx_MQ below hx_no (hx_XC D A (hm_W cB k0 k1 u th (hm_bf z))) ([.ref k0, .int (nI a)] : List Value).toArray s 1 6 A) (F0 m 11 ls []) := by
    intro f
    induction f with
    | zero =>
      intro pv x H locs ls hk gb1 gb2 hw hl hq hz
      refine lv_lload_n hx hb dX2_found_11 rfl (lv_at hl 0 rfl) ?_
      refine lv_aload_n hx hb dX2_found_12 rfl (lv_at hl 1 rfl) ?_
      refine va_get (D := D) (ci := 2) (v := .int (nI u.2.1)) (C := RX2) (T := TX2) (N := 5) hx hb hts hi2 hown hK hw.1 0 rfl rfl 1 (by decide) (hts (.fieldLink RX2 14 "HeapRowModel" "end" "I") (by decide +kernel)) (fun _ h9 => h9) rfl dX2_found_13 ?_
      refine lv_i2l (v := lN u.2.1) hx hb dX2_found_16 (nI_l (by omega)) ?_
      refine hn_lge (a := x) (b := u.2.1) (tgt := 72) hx hb (by omega) (by omega) dX2_found_17 dX2_found_18 (by decide) (fun hc => ?_) (fun hc => ?_)
      · have hz : pv = z := hz
        subst hz
        exact hx_new0 S hst hno hw (List.mem_of_getElem? (i := 1) rfl) (List.mem_of_getElem? (i := 2) rfl) (fun w h => List.mem_cons_of_mem _ (List.mem_append_right _ h)) tb_M to_M hl.1 dX2_found_72 dX2_found_75 dX2_found_76 dX2_found_79 ⟨by decide, by decide, by decide, by decide⟩
      · exact absurd hc (by omega)
    | succ f ih =>
      intro pv x H locs ls hk gb1 gb2 hw hl hq hz
      have gn := ph_n_lt u.1 x
      unfold ph_fd at hq
      unfold ph_bb at hz
      refine lv_lload_n hx hb dX2_found_11 rfl (lv_at hl 0 rfl) ?_
      refine lv_aload_n hx hb dX2_found_12 rfl (lv_at hl 1 rfl) ?_
      refine va_get (D := D) (ci := 2) (v := .int (nI u.2.1)) (C := RX2) (T := TX2) (N := 5) hx hb hts hi2 hown hK hw.1 0 rfl rfl 1 (by decide) (hts (.fieldLink RX2 14 "HeapRowModel" "end" "I") (by decide +kernel)) (fun _ h9 => h9) rfl dX2_found_13 ?_
      refine lv_i2l (v := lN u.2.1) hx hb dX2_found_16 (nI_l (by omega)) ?_
      refine hn_lge (a := x) (b := u.2.1) (tgt := 72) hx hb (by omega) (by omega) dX2_found_17 dX2_found_18 (by decide) (fun hc => ?_) (fun hc => ?_)
      · rw [if_neg (by omega)] at hq
        rw [if_neg (by omega)] at hz
        subst hz
        exact hx_new0 S hst hno hw (List.mem_of_getElem? (i := 1) rfl) (List.mem_of_getElem? (i := 2) rfl) (fun w h => List.mem_cons_of_mem _ (List.mem_append_right _ h)) tb_M to_M hl.1 dX2_found_72 dX2_found_75 dX2_found_76 dX2_found_79 ⟨by decide, by decide, by decide, by decide⟩
      · refine lv_aload_n hx hb dX2_found_21 rfl (lv_at hl 1 rfl) ?_
        refine lv_lload_n hx hb dX2_found_22 rfl (lv_at hl 0 rfl) ?_
        refine hx_callV (rest := []) (n := 1) S hw (m_sizeAt l hst D tys cB ht k0 k1 u th (hm_bf pv) x ⟨by omega, by omega⟩) gX2_found_X2_sizeAt rfl (by decide +kernel) rfl ⟨Nat.le_of_ble_eq_true rfl, Nat.le_of_ble_eq_true rfl⟩ 0 2 rfl rfl hm_adr hl.1 rfl (Nat.le_of_ble_eq_true rfl) ⟨by decide, by decide⟩ dX2_found_23 (fun H locs hw => ?_)
        refine W.eq (g2 := F0 m 26 ls [.long (lN (ph_n u.1 x))]) rfl ?_
        refine lv_lstore (lv' := [(4, .long (lN (ph_n u.1 x))), (2, .long (lN x)), (0, .ref k0), (1, .int (nI a))]) hx hb dX2_found_26 hl (by decide) rfl (fun ls hl => ?_)
        refine lv_aload_n hx hb dX2_found_28 rfl (lv_at hl 2 rfl) ?_
        refine lv_lload_n hx hb dX2_found_29 rfl (lv_at hl 1 rfl) ?_
        refine hx_callV (rest := []) (n := 1) S hw (m_takenAt l hst D tys cB ht k0 k1 u th (hm_bf pv) x ⟨by omega, by omega⟩) gX2_found_X2_takenAt rfl (by decide +kernel) rfl ⟨Nat.le_of_ble_eq_true rfl, Nat.le_of_ble_eq_true rfl⟩ 0 2 rfl rfl hm_adr hl.1 rfl (Nat.le_of_ble_eq_true rfl) ⟨by decide, by decide⟩ dX2_found_30 (fun H locs hw => ?_)
        refine W.eq (g2 := F0 m 33 ls [.int (if ph_n u.1 (x + 4) = 1 then nI 1 else nI 0)]) rfl ?_
        refine lv_istore (lv' := [(6, .int (if ph_n u.1 (x + 4) = 1 then nI 1 else nI 0)), (4, .long (lN (ph_n u.1 x))), (2, .long (lN x)), (0, .ref k0), (1, .int (nI a))]) hx hb dX2_found_33 hl (by decide) rfl (fun ls hl => ?_)
        refine lv_lload_n hx hb dX2_found_35 rfl (lv_at hl 2 rfl) ?_
        refine lv_ldc2 (v := lN 8) hx hb hown (hts (.constantLong RX2 69 (lN 8)) (by decide +kernel)) dX2_found_36 ?_
        refine hn_ladd (v := lN (x + 8)) hx hb dX2_found_39 (lN_add _ _) ?_
        refine lv_iload_n hx hb dX2_found_40 rfl (lv_at hl 4 rfl) ?_
        refine hx_callS (rest := [.long (lN (x + 8))]) (n := 1) S hw (m_without l hst D tys cB ht k0 k1 u th (hm_bf pv) a ha) gX2_found_X2_without rfl (by decide +kernel) rfl ⟨Nat.le_of_ble_eq_true rfl, Nat.le_of_ble_eq_true rfl⟩ hm_adr hl.1 rfl (Nat.le_of_ble_eq_true rfl) ⟨by decide, by decide⟩ dX2_found_41 (fun H locs hw => ?_)
        refine W.eq (g2 := F0 m 44 ls [.long (lN a), .long (lN (x + 8))]) rfl ?_
        refine hn_lne (a := (x + 8)) (b := a) (tgt := 55) hx hb (by omega) (by omega) dX2_found_44 dX2_found_45 (by decide) (fun hc2 => ?_) (fun hc2 => ?_)
        · rw [if_pos hc, if_neg (fun z => hc2 z.1)] at hq
          rw [if_pos hc] at hz
          refine lv_aload_n hx hb dX2_found_55 rfl (lv_at hl 3 rfl) ?_
          refine lv_lload_n hx hb dX2_found_56 rfl (lv_at hl 2 rfl) ?_
          refine va_put (D := D) (ci := 2) (v := .long (lN x)) (ty := .long) (C := RX2) (T := TX2) (N := 5) hx hb hts hi2 tyX2 tyX2_ok nmX2 hown hK hw.1 hw.2.1 hw.2.2 0 rfl rfl 4 (by decide) (hts (.fieldLink RX2 58 "HeapRowModel" "before" "J") (by decide +kernel)) (fun _ h9 => h9) rfl (by decide +kernel) rfl rfl (Nat.le_of_ble_eq_true rfl) dX2_found_57 (fun H locs y1 y2 y3 => ?_)
          have hw : hx_w D A s.heap (hm_W cB k0 k1 u th (lN x)) H locs := ⟨y1, y2, y3⟩
          have ex : lN x = hm_bf x := (if_neg (by omega)).symm
          rw [ex] at hw
          refine lv_lload_n hx hb dX2_found_60 rfl (lv_at hl 2 rfl) ?_
          refine lv_ldc2 (v := lN 8) hx hb hown (hts (.constantLong RX2 69 (lN 8)) (by decide +kernel)) dX2_found_61 ?_
          refine hn_ladd (v := lN (x + 8)) hx hb dX2_found_64 (lN_add _ _) ?_
          refine lv_lload hx hb dX2_found_65 (lv_at hl 1 rfl) ?_
          refine hn_ladd (v := lN ((x + 8) + (ph_n u.1 x))) hx hb dX2_found_67 (lN_add _ _) ?_
          refine lv_lstore_n (lv' := [(2, .long (lN ((x + 8) + (ph_n u.1 x)))), (6, .int (if ph_n u.1 (x + 4) = 1 then nI 1 else nI 0)), (4, .long (lN (ph_n u.1 x))), (0, .ref k0), (1, .int (nI a))]) hx hb dX2_found_68 rfl hl (by decide) rfl (fun ls hl => ?_)
          refine lv_goto (tgt := 11) hx hb dX2_found_69 (by decide) ?_
          exact ih x (x + 8 + ph_n u.1 x) _ _ _ (by omega) (by omega) (by omega) hw (lv_sub hl [0, 3, 4] rfl) hq hz
        · refine lv_iload hx hb dX2_found_48 (lv_at hl 0 rfl) ?_
          refine hn_peq (tgt := 55) hx hb dX2_found_50 (by decide) (fun hc3 => ?_) (fun hc3 => ?_)
          · rw [if_pos hc, if_neg (fun z => hc3 z.2)] at hq
            rw [if_pos hc] at hz
            refine lv_aload_n hx hb dX2_found_55 rfl (lv_at hl 3 rfl) ?_
            refine lv_lload_n hx hb dX2_found_56 rfl (lv_at hl 2 rfl) ?_
            refine va_put (D := D) (ci := 2) (v := .long (lN x)) (ty := .long) (C := RX2) (T := TX2) (N := 5) hx hb hts hi2 tyX2 tyX2_ok nmX2 hown hK hw.1 hw.2.1 hw.2.2 0 rfl rfl 4 (by decide) (hts (.fieldLink RX2 58 "HeapRowModel" "before" "J") (by decide +kernel)) (fun _ h9 => h9) rfl (by decide +kernel) rfl rfl (Nat.le_of_ble_eq_true rfl) dX2_found_57 (fun H locs y1 y2 y3 => ?_)
            have hw : hx_w D A s.heap (hm_W cB k0 k1 u th (lN x)) H locs := ⟨y1, y2, y3⟩
            have ex : lN x = hm_bf x := (if_neg (by omega)).symm
            rw [ex] at hw
            refine lv_lload_n hx hb dX2_found_60 rfl (lv_at hl 2 rfl) ?_
            refine lv_ldc2 (v := lN 8) hx hb hown (hts (.constantLong RX2 69 (lN 8)) (by decide +kernel)) dX2_found_61 ?_
            refine hn_ladd (v := lN (x + 8)) hx hb dX2_found_64 (lN_add _ _) ?_
            refine lv_lload hx hb dX2_found_65 (lv_at hl 1 rfl) ?_
            refine hn_ladd (v := lN ((x + 8) + (ph_n u.1 x))) hx hb dX2_found_67 (lN_add _ _) ?_
            refine lv_lstore_n (lv' := [(2, .long (lN ((x + 8) + (ph_n u.1 x)))), (6, .int (if ph_n u.1 (x + 4) = 1 then nI 1 else nI 0)), (4, .long (lN (ph_n u.1 x))), (0, .ref k0), (1, .int (nI a))]) hx hb dX2_found_68 rfl hl (by decide) rfl (fun ls hl => ?_)
            refine lv_goto (tgt := 11) hx hb dX2_found_69 (by decide) ?_
            exact ih x (x + 8 + ph_n u.1 x) _ _ _ (by omega) (by omega) (by omega) hw (lv_sub hl [0, 3, 4] rfl) hq hz
          · rw [if_pos hc, if_pos ⟨hc2, hc3⟩] at hq
            cases hq
  exact loop 8064 0 1024 _ _ _ (by omega) (by decide) (by decide) hw (lv_sub hl [0, 1, 2] rfl) hq0 hz0
set_option maxHeartbeats 4000000 in
set_option maxRecDepth 100000 in
theorem m_take (l : Launch) (hst : l.stackTraces = false) (D : va_G) (tys : List (ClassId × FieldType)) (cB : ClassId) (ht : tys[1]? = some (cB, .byte)) (k0 k1 : Nat) (u : ph_H) (th : Int32) (bf : Int64) (n x : Nat) (u2 : ph_H) (hu : ph_I u) (hn : n < 4294967296) (h : ph_take u n = (some x, u2)) : hx_R l D tys yX2_take wsX2_take 9 150 [.ref k0, .long (lN n)] (hm_W cB k0 k1 u th bf) (hm_W cB k0 k1 u2 th bf) (some (.int (nI x))) := by
  refine hx_R.ofW (cc := cX2_take) (maxL := 10) (ret := (some .int)) (by decide) rfl (Nat.le_of_ble_eq_true rfl) ?_
  intro p e s m below meth c A ls hr S hw hl
  have S : hx_S p l s m _ meth c cX2_take 10 wsX2_take RX2 A D tys := S
  obtain ⟨⟨hx, hb, hml, hown, hts⟩, hK, hA, hE, hlk⟩ := id S
  have hi2 : ∀ w ∈ wsX20, w ∈ wsX2_take := by decide +kernel
  have hl : lv_has ls 10 [(0, .ref k0), (1, .long (lN n))] := hl
  obtain ⟨i1, i2, i3, i4⟩ := hu
  have gu := ph_up_ge n
  have gu2 := ph_up_lt hn
  unfold ph_take at h
  refine lv_lload_n hx hb dX2_take_0 rfl (lv_at hl 1 rfl) ?_
  refine hx_callS (rest := []) (n := 1) S hw (m_up l hst D tys cB ht k0 k1 u th bf n (by omega)) gX2_take_X2_up rfl (by decide +kernel) rfl ⟨Nat.le_of_ble_eq_true rfl, Nat.le_of_ble_eq_true rfl⟩ hm_adr hl.1 rfl (Nat.le_of_ble_eq_true rfl) ⟨by decide, by decide⟩ dX2_take_1 (fun H locs hw => ?_)
  refine W.eq (g2 := F0 m 4 ls [.long (lN (ph_up n))]) rfl ?_
  refine lv_lstore_n (lv' := [(3, .long (lN (ph_up n))), (0, .ref k0), (1, .long (lN n))]) hx hb dX2_take_4 rfl hl (by decide) rfl (fun ls hl => ?_)
  refine lv_ldc2 (v := lN 1024) hx hb hown (hts (.constantLong RX2 24 (lN 1024)) (by decide +kernel)) dX2_take_5 ?_
  refine lv_lstore (lv' := [(5, .long (lN 1024)), (3, .long (lN (ph_up n))), (0, .ref k0), (1, .long (lN n))]) hx hb dX2_take_8 hl (by decide) rfl (fun ls hl => ?_)
  have loop : ∀ (f b : Nat) (H : Heap) (locs : List Loc) (ls : Array Slot), u.2.1 ≤ b + 8 * f → 1024 ≤ b → b < 17179869184 → hx_w D A s.heap (hm_W cB k0 k1 u th bf) H locs → lv_has ls 10 [(5, .long (lN b)), (3, .long (lN (ph_up n))), (0, .ref k0), (1, .long (lN n))] → (∀ (y : Nat) (H : Heap) (locs : List Loc) (ls : Array Slot), ph_ff u.1 u.2.1 (ph_up n) f b = some y → hx_w D A s.heap (hm_W cB k0 k1 u th bf) H locs → lv_has ls 10 [(9, .int (if ph_n u.1 (y + 4) = 1 then nI 1 else nI 0)), (7, .long (lN (ph_n u.1 y))), (5, .long (lN y)), (3, .long (lN (ph_up n))), (0, .ref k0), (1, .long (lN n))] → W p l e { frames := 9, cells := 0, slots := 0, locals := 150 } s m ([.ref k0, .long (lN n)] : List Value).toArray below meth c H locs 0 0 (MQ below (hx_Q D A (hm_W cB k0 k1 u2 th bf) (some (.int (nI x)))) ([.ref k0, .long (lN n)] : List Value).toArray s 0 0 A) (F0 m 49 ls [])) → (∀ (H : Heap) (locs : List Loc) (ls : Array Slot), ph_ff u.1 u.2.1 (ph_up n) f b = none → hx_w D A s.heap (hm_W cB k0 k1 u th bf) H locs → lv_has ls 10 [(3, .long (lN (ph_up n))), (0, .ref k0), (1, .long (lN n))] → W p l e { frames := 9, cells := 0, slots := 0, locals := 150 } s m ([.ref k0, .long (lN n)] : List Value).toArray below meth c H locs 0 0 (MQ below (hx_Q D A (hm_W cB k0 k1 u2 th bf) (some (.int (nI x)))) ([.ref k0, .long (lN n)] : List Value).toArray s 0 0 A) (F0 m 134 ls [])) → W p l e { frames := 9, cells := 0, slots := 0, locals := 150 } s m ([.ref k0, .long (lN n)] : List Value).toArray below meth c H locs 0 0 (MQ below (hx_Q D A (hm_W cB k0 k1 u2 th bf) (some (.int (nI x)))) ([.ref k0, .long (lN n)] : List Value).toArray s 0 0 A) (F0 m 10 ls []) := by
    intro f
    induction f with
    | zero =>
      intro b H locs ls hk gb1 gb2 hw hl kf kx
      refine lv_lload hx hb dX2_take_10 (lv_at hl 0 rfl) ?_
      refine lv_aload_n hx hb dX2_take_12 rfl (lv_at hl 2 rfl) ?_
      refine va_get (D := D) (ci := 2) (v := .int (nI u.2.1)) (C := RX2) (T := TX2) (N := 5) hx hb hts hi2 hown hK hw.1 0 rfl rfl 1 (by decide) (hts (.fieldLink RX2 14 "HeapRowModel" "end" "I") (by decide +kernel)) (fun _ h9 => h9) rfl dX2_take_13 ?_
      refine lv_i2l (v := lN u.2.1) hx hb dX2_take_16 (nI_l (by omega)) ?_
      refine hn_lge (a := b) (b := u.2.1) (tgt := 134) hx hb (by omega) (by omega) dX2_take_17 dX2_take_18 (by decide) (fun hc => ?_) (fun hc => ?_)
      · exact kx _ _ _ rfl hw (lv_sub hl [1, 2, 3] rfl)
      · exact absurd hc (by omega)
    | succ f ih =>
      intro b H locs ls hk gb1 gb2 hw hl kf kx
      have gn := ph_n_lt u.1 b
      unfold ph_ff at kf kx
      refine lv_lload hx hb dX2_take_10 (lv_at hl 0 rfl) ?_
      refine lv_aload_n hx hb dX2_take_12 rfl (lv_at hl 2 rfl) ?_
      refine va_get (D := D) (ci := 2) (v := .int (nI u.2.1)) (C := RX2) (T := TX2) (N := 5) hx hb hts hi2 hown hK hw.1 0 rfl rfl 1 (by decide) (hts (.fieldLink RX2 14 "HeapRowModel" "end" "I") (by decide +kernel)) (fun _ h9 => h9) rfl dX2_take_13 ?_
      refine lv_i2l (v := lN u.2.1) hx hb dX2_take_16 (nI_l (by omega)) ?_
      refine hn_lge (a := b) (b := u.2.1) (tgt := 134) hx hb (by omega) (by omega) dX2_take_17 dX2_take_18 (by decide) (fun hc => ?_) (fun hc => ?_)
      · rw [if_neg (by omega)] at kx
        exact kx _ _ _ rfl hw (lv_sub hl [1, 2, 3] rfl)
      · rw [if_pos hc] at kf kx
        refine lv_aload_n hx hb dX2_take_21 rfl (lv_at hl 2 rfl) ?_
        refine lv_lload hx hb dX2_take_22 (lv_at hl 0 rfl) ?_
        refine hx_callV (rest := []) (n := 1) S hw (m_sizeAt l hst D tys cB ht k0 k1 u th bf b ⟨by omega, by omega⟩) gX2_take_X2_sizeAt rfl (by decide +kernel) rfl ⟨Nat.le_of_ble_eq_true rfl, Nat.le_of_ble_eq_true rfl⟩ 0 2 rfl rfl hm_adr hl.1 rfl (Nat.le_of_ble_eq_true rfl) ⟨by decide, by decide⟩ dX2_take_24 (fun H locs hw => ?_)
        refine W.eq (g2 := F0 m 27 ls [.long (lN (ph_n u.1 b))]) rfl ?_
        refine lv_lstore (lv' := [(7, .long (lN (ph_n u.1 b))), (5, .long (lN b)), (3, .long (lN (ph_up n))), (0, .ref k0), (1, .long (lN n))]) hx hb dX2_take_27 hl (by decide) rfl (fun ls hl => ?_)
        refine lv_aload_n hx hb dX2_take_29 rfl (lv_at hl 3 rfl) ?_
        refine lv_lload hx hb dX2_take_30 (lv_at hl 1 rfl) ?_
        refine hx_callV (rest := []) (n := 1) S hw (m_takenAt l hst D tys cB ht k0 k1 u th bf b ⟨by omega, by omega⟩) gX2_take_X2_takenAt rfl (by decide +kernel) rfl ⟨Nat.le_of_ble_eq_true rfl, Nat.le_of_ble_eq_true rfl⟩ 0 2 rfl rfl hm_adr hl.1 rfl (Nat.le_of_ble_eq_true rfl) ⟨by decide, by decide⟩ dX2_take_32 (fun H locs hw => ?_)
        refine W.eq (g2 := F0 m 35 ls [.int (if ph_n u.1 (b + 4) = 1 then nI 1 else nI 0)]) rfl ?_
        refine lv_istore (lv' := [(9, .int (if ph_n u.1 (b + 4) = 1 then nI 1 else nI 0)), (7, .long (lN (ph_n u.1 b))), (5, .long (lN b)), (3, .long (lN (ph_up n))), (0, .ref k0), (1, .long (lN n))]) hx hb dX2_take_35 hl (by decide) rfl (fun ls hl => ?_)
        refine lv_iload hx hb dX2_take_37 (lv_at hl 0 rfl) ?_
        refine hn_pne (tgt := 120) hx hb dX2_take_39 (by decide) (fun hc2 => ?_) (fun hc2 => ?_)
        · rw [if_neg (fun z => z.1 hc2)] at kf kx
          refine lv_lload hx hb dX2_take_120 (lv_at hl 2 rfl) ?_
          refine lv_ldc2 (v := lN 8) hx hb hown (hts (.constantLong RX2 69 (lN 8)) (by decide +kernel)) dX2_take_122 ?_
          refine hn_ladd (v := lN (b + 8)) hx hb dX2_take_125 (lN_add _ _) ?_
          refine lv_lload hx hb dX2_take_126 (lv_at hl 1 rfl) ?_
          refine hn_ladd (v := lN ((b + 8) + (ph_n u.1 b))) hx hb dX2_take_128 (lN_add _ _) ?_
          refine lv_lstore (lv' := [(5, .long (lN ((b + 8) + (ph_n u.1 b)))), (9, .int (if ph_n u.1 (b + 4) = 1 then nI 1 else nI 0)), (7, .long (lN (ph_n u.1 b))), (3, .long (lN (ph_up n))), (0, .ref k0), (1, .long (lN n))]) hx hb dX2_take_129 hl (by decide) rfl (fun ls hl => ?_)
          refine lv_goto (tgt := 10) hx hb dX2_take_131 (by decide) ?_
          exact ih (b + 8 + ph_n u.1 b) _ _ _ (by omega) (by omega) (by omega) hw (lv_sub hl [0, 3, 4, 5] rfl) kf kx
        · refine lv_lload hx hb dX2_take_42 (lv_at hl 1 rfl) ?_
          refine lv_lload_n hx hb dX2_take_44 rfl (lv_at hl 3 rfl) ?_
          refine hn_llt (a := (ph_n u.1 b)) (b := (ph_up n)) (tgt := 120) hx hb (by omega) (by omega) dX2_take_45 dX2_take_46 (by decide) (fun hc3 => ?_) (fun hc3 => ?_)
          · rw [if_neg (fun z => absurd z.2 (by omega))] at kf kx
            refine lv_lload hx hb dX2_take_120 (lv_at hl 2 rfl) ?_
            refine lv_ldc2 (v := lN 8) hx hb hown (hts (.constantLong RX2 69 (lN 8)) (by decide +kernel)) dX2_take_122 ?_
            refine hn_ladd (v := lN (b + 8)) hx hb dX2_take_125 (lN_add _ _) ?_
            refine lv_lload hx hb dX2_take_126 (lv_at hl 1 rfl) ?_
            refine hn_ladd (v := lN ((b + 8) + (ph_n u.1 b))) hx hb dX2_take_128 (lN_add _ _) ?_
            refine lv_lstore (lv' := [(5, .long (lN ((b + 8) + (ph_n u.1 b)))), (9, .int (if ph_n u.1 (b + 4) = 1 then nI 1 else nI 0)), (7, .long (lN (ph_n u.1 b))), (3, .long (lN (ph_up n))), (0, .ref k0), (1, .long (lN n))]) hx hb dX2_take_129 hl (by decide) rfl (fun ls hl => ?_)
            refine lv_goto (tgt := 10) hx hb dX2_take_131 (by decide) ?_
            exact ih (b + 8 + ph_n u.1 b) _ _ _ (by omega) (by omega) (by omega) hw (lv_sub hl [0, 3, 4, 5] rfl) kf kx
          · rw [if_pos ⟨hc2, hc3⟩] at kf
            exact kf b _ _ _ rfl hw (lv_sub hl [0, 1, 2, 3, 4, 5] rfl)
  refine loop 8064 1024 _ _ _ (by omega) (by decide) (by decide) hw (lv_sub hl [0, 1, 2, 3] rfl) (fun b H locs ls hy hw hl => ?_) (fun H locs ls hy hw hl => ?_)
  · rw [hy] at h
    dsimp only at h
    obtain ⟨f1, f2, f3, f4⟩ := ph_ff_some _ _ hy
    have gn := ph_n_lt u.1 b
    refine lv_lload hx hb dX2_take_49 (lv_at hl 1 rfl) ?_
    refine lv_lload_n hx hb dX2_take_51 rfl (lv_at hl 3 rfl) ?_
    refine hn_lsub (v := lN ((ph_n u.1 b) - (ph_up n))) hx hb dX2_take_52 (lN_sub (by omega)) ?_
    refine lv_ldc2 (v := lN 16) hx hb hown (hts (.constantLong RX2 76 (lN 16)) (by decide +kernel)) dX2_take_53 ?_
    refine hn_llt (a := ((ph_n u.1 b) - (ph_up n))) (b := 16) (tgt := 102) hx hb (by omega) (by omega) dX2_take_56 dX2_take_57 (by decide) (fun hk1 => ?_) (fun hk1 => ?_)
    · rw [if_pos (by omega)] at h
      cases h
      refine lv_aload_n hx hb dX2_take_102 rfl (lv_at hl 4 rfl) ?_
      refine lv_lload hx hb dX2_take_103 (lv_at hl 2 rfl) ?_
      refine lv_ldc2 (v := lN 4) hx hb hown (hts (.constantLong RX2 54 (lN 4)) (by decide +kernel)) dX2_take_105 ?_
      refine hn_ladd (v := lN (b + 4)) hx hb dX2_take_108 (lN_add _ _) ?_
      refine lv_iconst (v := nI 1) hx hb dX2_take_109 (by decide +kernel) ?_
      refine hx_callV (rest := []) (n := 2) S hw (m_set l hst D tys cB ht k0 k1 u th bf (b + 4) 1 (by decide) ⟨by omega, by omega⟩) gX2_take_X2_set rfl (by decide +kernel) rfl ⟨Nat.le_of_ble_eq_true rfl, Nat.le_of_ble_eq_true rfl⟩ 0 2 rfl rfl hm_adr hl.1 rfl (Nat.le_of_ble_eq_true rfl) ⟨by decide, by decide⟩ dX2_take_110 (fun H locs hw => ?_)
      refine W.eq (g2 := F0 m 113 ls []) rfl ?_
      refine lv_lload hx hb dX2_take_113 (lv_at hl 2 rfl) ?_
      refine lv_l2i (v := nI b) hx hb dX2_take_115 (lN_i _) ?_
      refine lv_bipush (v := nI 8) hx hb dX2_take_116 (by decide +kernel) ?_
      refine hn_iadd (v := nI (b + 8)) hx hb dX2_take_118 (nI_add _ _) ?_
      exact hx_iret S hr hw dX2_take_119
    · rw [if_neg (by omega)] at h
      refine lv_aload_n hx hb dX2_take_60 rfl (lv_at hl 4 rfl) ?_
      refine lv_lload hx hb dX2_take_61 (lv_at hl 2 rfl) ?_
      refine lv_ldc2 (v := lN 8) hx hb hown (hts (.constantLong RX2 69 (lN 8)) (by decide +kernel)) dX2_take_63 ?_
      refine hn_ladd (v := lN (b + 8)) hx hb dX2_take_66 (lN_add _ _) ?_
      refine lv_lload_n hx hb dX2_take_67 rfl (lv_at hl 3 rfl) ?_
      refine hn_ladd (v := lN ((b + 8) + (ph_up n))) hx hb dX2_take_68 (lN_add _ _) ?_
      refine lv_lload hx hb dX2_take_69 (lv_at hl 1 rfl) ?_
      refine lv_lload_n hx hb dX2_take_71 rfl (lv_at hl 3 rfl) ?_
      refine hn_lsub (v := lN ((ph_n u.1 b) - (ph_up n))) hx hb dX2_take_72 (lN_sub (by omega)) ?_
      refine lv_ldc2 (v := lN 8) hx hb hown (hts (.constantLong RX2 69 (lN 8)) (by decide +kernel)) dX2_take_73 ?_
      refine hn_lsub (v := lN (((ph_n u.1 b) - (ph_up n)) - 8)) hx hb dX2_take_76 (lN_sub (by omega)) ?_
      refine lv_l2i (v := nI (((ph_n u.1 b) - (ph_up n)) - 8)) hx hb dX2_take_77 (lN_i _) ?_
      by_cases kw : (ph_wh u.1 (b + 8 + ph_up n) (ph_n u.1 b - ph_up n - 8) 0).1 = true
      · rw [if_pos kw] at h
        obtain ⟨g1, g2, g3⟩ := ph_wh_t kw
        rw [g3] at h
        cases h
        refine hx_callV (rest := []) (n := 2) S hw (m_set l hst D tys cB ht k0 k1 u th bf (b + 8 + ph_up n) (ph_n u.1 b - ph_up n - 8) (by omega) g1) gX2_take_X2_set rfl (by decide +kernel) rfl ⟨Nat.le_of_ble_eq_true rfl, Nat.le_of_ble_eq_true rfl⟩ 0 2 rfl rfl hm_adr hl.1 rfl (Nat.le_of_ble_eq_true rfl) ⟨by decide, by decide⟩ dX2_take_78 (fun H locs hw => ?_)
        refine W.eq (g2 := F0 m 81 ls []) rfl ?_
        refine lv_aload_n hx hb dX2_take_81 rfl (lv_at hl 4 rfl) ?_
        refine lv_lload hx hb dX2_take_82 (lv_at hl 2 rfl) ?_
        refine lv_ldc2 (v := lN 12) hx hb hown (hts (.constantLong RX2 81 (lN 12)) (by decide +kernel)) dX2_take_84 ?_
        refine hn_ladd (v := lN (b + 12)) hx hb dX2_take_87 (lN_add _ _) ?_
        refine lv_lload_n hx hb dX2_take_88 rfl (lv_at hl 3 rfl) ?_
        refine hn_ladd (v := lN ((b + 12) + (ph_up n))) hx hb dX2_take_89 (lN_add _ _) ?_
        refine lv_iconst (v := nI 0) hx hb dX2_take_90 (by decide +kernel) ?_
        rw [show b + 12 + ph_up n = b + 8 + ph_up n + 4 from by omega]
        refine hx_callV (rest := []) (n := 2) S hw (m_set l hst D tys cB ht k0 k1 (ph_sn u.1 (b + 8 + ph_up n) (ph_n u.1 b - ph_up n - 8), u.2) th bf (b + 8 + ph_up n + 4) 0 (by decide) g2) gX2_take_X2_set rfl (by decide +kernel) rfl ⟨Nat.le_of_ble_eq_true rfl, Nat.le_of_ble_eq_true rfl⟩ 0 2 rfl rfl hm_adr hl.1 rfl (Nat.le_of_ble_eq_true rfl) ⟨by decide, by decide⟩ dX2_take_91 (fun H locs hw => ?_)
        refine W.eq (g2 := F0 m 94 ls []) rfl ?_
        refine lv_aload_n hx hb dX2_take_94 rfl (lv_at hl 4 rfl) ?_
        refine lv_lload hx hb dX2_take_95 (lv_at hl 2 rfl) ?_
        refine lv_lload_n hx hb dX2_take_97 rfl (lv_at hl 3 rfl) ?_
        refine lv_l2i (v := nI (ph_up n)) hx hb dX2_take_98 (lN_i _) ?_
        refine hx_callV (rest := []) (n := 2) S hw (m_set l hst D tys cB ht k0 k1 (ph_sn (ph_sn u.1 (b + 8 + ph_up n) (ph_n u.1 b - ph_up n - 8)) (b + 8 + ph_up n + 4) 0, u.2) th bf b (ph_up n) (by omega) ⟨by omega, by omega⟩) gX2_take_X2_set rfl (by decide +kernel) rfl ⟨Nat.le_of_ble_eq_true rfl, Nat.le_of_ble_eq_true rfl⟩ 0 2 rfl rfl hm_adr hl.1 rfl (Nat.le_of_ble_eq_true rfl) ⟨by decide, by decide⟩ dX2_take_99 (fun H locs hw => ?_)
        refine W.eq (g2 := F0 m 102 ls []) rfl ?_
        refine lv_aload_n hx hb dX2_take_102 rfl (lv_at hl 4 rfl) ?_
        refine lv_lload hx hb dX2_take_103 (lv_at hl 2 rfl) ?_
        refine lv_ldc2 (v := lN 4) hx hb hown (hts (.constantLong RX2 54 (lN 4)) (by decide +kernel)) dX2_take_105 ?_
        refine hn_ladd (v := lN (b + 4)) hx hb dX2_take_108 (lN_add _ _) ?_
        refine lv_iconst (v := nI 1) hx hb dX2_take_109 (by decide +kernel) ?_
        refine hx_callV (rest := []) (n := 2) S hw (m_set l hst D tys cB ht k0 k1 (ph_sn (ph_sn (ph_sn u.1 (b + 8 + ph_up n) (ph_n u.1 b - ph_up n - 8)) (b + 8 + ph_up n + 4) 0) b (ph_up n), u.2) th bf (b + 4) 1 (by decide) ⟨by omega, by omega⟩) gX2_take_X2_set rfl (by decide +kernel) rfl ⟨Nat.le_of_ble_eq_true rfl, Nat.le_of_ble_eq_true rfl⟩ 0 2 rfl rfl hm_adr hl.1 rfl (Nat.le_of_ble_eq_true rfl) ⟨by decide, by decide⟩ dX2_take_110 (fun H locs hw => ?_)
        refine W.eq (g2 := F0 m 113 ls []) rfl ?_
        refine lv_lload hx hb dX2_take_113 (lv_at hl 2 rfl) ?_
        refine lv_l2i (v := nI b) hx hb dX2_take_115 (lN_i _) ?_
        refine lv_bipush (v := nI 8) hx hb dX2_take_116 (by decide +kernel) ?_
        refine hn_iadd (v := nI (b + 8)) hx hb dX2_take_118 (nI_add _ _) ?_
        exact hx_iret S hr hw dX2_take_119
      · rw [if_neg kw] at h
        rcases ph_wh_f kw with ⟨g1, g3⟩ | ⟨g1, g2, g3⟩
        · rw [g3] at h
          cases h
        · rw [g3] at h
          cases h
  · rw [hy] at h
    dsimp only at h
    by_cases kq : 480000 < n ∨ u.2.2 < u.2.1 + 8 + ph_up n + 4096
    · rw [if_pos kq] at h
      cases h
      refine lv_lload_n hx hb dX2_take_134 rfl (lv_at hl 2 rfl) ?_
      refine lv_ldc2 (v := lN 480000) hx hb hown (hts (.constantLong RX2 83 (lN 480000)) (by decide +kernel)) dX2_take_135 ?_
      refine hn_lgt (a := n) (b := 480000) (tgt := 165) hx hb (by omega) (by omega) dX2_take_138 dX2_take_139 (by decide) (fun hc2 => ?_) (fun hc2 => ?_)
      · refine lv_iconst (v := nI 0) hx hb dX2_take_165 (by decide +kernel) ?_
        exact hx_iret S hr hw dX2_take_166
      · refine lv_aload_n hx hb dX2_take_142 rfl (lv_at hl 1 rfl) ?_
        refine va_get (D := D) (ci := 2) (v := .int (nI u.2.1)) (C := RX2) (T := TX2) (N := 5) hx hb hts hi2 hown hK hw.1 0 rfl rfl 1 (by decide) (hts (.fieldLink RX2 14 "HeapRowModel" "end" "I") (by decide +kernel)) (fun _ h9 => h9) rfl dX2_take_143 ?_
        refine lv_bipush (v := nI 8) hx hb dX2_take_146 (by decide +kernel) ?_
        refine hn_iadd (v := nI (u.2.1 + 8)) hx hb dX2_take_148 (nI_add _ _) ?_
        refine lv_i2l (v := lN (u.2.1 + 8)) hx hb dX2_take_149 (nI_l (by omega)) ?_
        refine lv_lload_n hx hb dX2_take_150 rfl (lv_at hl 0 rfl) ?_
        refine hn_ladd (v := lN ((u.2.1 + 8) + (ph_up n))) hx hb dX2_take_151 (lN_add _ _) ?_
        refine lv_aload_n hx hb dX2_take_152 rfl (lv_at hl 1 rfl) ?_
        refine va_get (D := D) (ci := 2) (v := .int (nI u.2.2)) (C := RX2) (T := TX2) (N := 5) hx hb hts hi2 hown hK hw.1 0 rfl rfl 2 (by decide) (hts (.fieldLink RX2 18 "HeapRowModel" "stack" "I") (by decide +kernel)) (fun _ h9 => h9) rfl dX2_take_153 ?_
        refine lv_sipush (v := nI 4096) hx hb dX2_take_156 (by decide +kernel) ?_
        by_cases k3 : 4096 ≤ u.2.2
        · refine hn_isub (v := nI (u.2.2 - 4096)) hx hb dX2_take_159 (pk_sub (by omega)) ?_
          refine lv_i2l (v := lN (u.2.2 - 4096)) hx hb dX2_take_160 (nI_l (by omega)) ?_
          refine hn_lle (a := ((u.2.1 + 8) + (ph_up n))) (b := (u.2.2 - 4096)) (tgt := 167) hx hb (by omega) (by omega) dX2_take_161 dX2_take_162 (by decide) (fun hc3 => ?_) (fun hc3 => ?_)
          · exact absurd hc3 (by omega)
          · refine lv_iconst (v := nI 0) hx hb dX2_take_165 (by decide +kernel) ?_
            exact hx_iret S hr hw dX2_take_166
        · refine hn_isub (v := nI u.2.2 - nI 4096) hx hb dX2_take_159 rfl ?_
          refine lv_i2l (v := (nI u.2.2 - nI 4096).toInt64) hx hb dX2_take_160 rfl ?_
          refine W.lcmp hx hb dX2_take_161 ?_
          refine lv_if_le (tgt := 167) hx hb dX2_take_162 (by decide) (fun z => absurd ((lg_cmp_le _ _).mp z) (hp_neg2 (by omega) (by omega))) (fun _ => ?_)
          refine lv_iconst (v := nI 0) hx hb dX2_take_165 (by decide +kernel) ?_
          exact hx_iret S hr hw dX2_take_166
    · rw [if_neg kq] at h
      cases h
      refine lv_lload_n hx hb dX2_take_134 rfl (lv_at hl 2 rfl) ?_
      refine lv_ldc2 (v := lN 480000) hx hb hown (hts (.constantLong RX2 83 (lN 480000)) (by decide +kernel)) dX2_take_135 ?_
      refine hn_lgt (a := n) (b := 480000) (tgt := 165) hx hb (by omega) (by omega) dX2_take_138 dX2_take_139 (by decide) (fun hc2 => ?_) (fun hc2 => ?_)
      · exact absurd hc2 (by omega)
      · refine lv_aload_n hx hb dX2_take_142 rfl (lv_at hl 1 rfl) ?_
        refine va_get (D := D) (ci := 2) (v := .int (nI u.2.1)) (C := RX2) (T := TX2) (N := 5) hx hb hts hi2 hown hK hw.1 0 rfl rfl 1 (by decide) (hts (.fieldLink RX2 14 "HeapRowModel" "end" "I") (by decide +kernel)) (fun _ h9 => h9) rfl dX2_take_143 ?_
        refine lv_bipush (v := nI 8) hx hb dX2_take_146 (by decide +kernel) ?_
        refine hn_iadd (v := nI (u.2.1 + 8)) hx hb dX2_take_148 (nI_add _ _) ?_
        refine lv_i2l (v := lN (u.2.1 + 8)) hx hb dX2_take_149 (nI_l (by omega)) ?_
        refine lv_lload_n hx hb dX2_take_150 rfl (lv_at hl 0 rfl) ?_
        refine hn_ladd (v := lN ((u.2.1 + 8) + (ph_up n))) hx hb dX2_take_151 (lN_add _ _) ?_
        refine lv_aload_n hx hb dX2_take_152 rfl (lv_at hl 1 rfl) ?_
        refine va_get (D := D) (ci := 2) (v := .int (nI u.2.2)) (C := RX2) (T := TX2) (N := 5) hx hb hts hi2 hown hK hw.1 0 rfl rfl 2 (by decide) (hts (.fieldLink RX2 18 "HeapRowModel" "stack" "I") (by decide +kernel)) (fun _ h9 => h9) rfl dX2_take_153 ?_
        refine lv_sipush (v := nI 4096) hx hb dX2_take_156 (by decide +kernel) ?_
        refine hn_isub (v := nI (u.2.2 - 4096)) hx hb dX2_take_159 (pk_sub (by omega)) ?_
        refine lv_i2l (v := lN (u.2.2 - 4096)) hx hb dX2_take_160 (nI_l (by omega)) ?_
        refine hn_lle (a := ((u.2.1 + 8) + (ph_up n))) (b := (u.2.2 - 4096)) (tgt := 167) hx hb (by omega) (by omega) dX2_take_161 dX2_take_162 (by decide) (fun hc3 => ?_) (fun hc3 => ?_)
        · refine lv_aload_n hx hb dX2_take_167 rfl (lv_at hl 1 rfl) ?_
          refine va_get (D := D) (ci := 2) (v := .int (nI u.2.1)) (C := RX2) (T := TX2) (N := 5) hx hb hts hi2 hown hK hw.1 0 rfl rfl 1 (by decide) (hts (.fieldLink RX2 14 "HeapRowModel" "end" "I") (by decide +kernel)) (fun _ h9 => h9) rfl dX2_take_168 ?_
          refine lv_istore (lv' := [(7, .int (nI u.2.1)), (3, .long (lN (ph_up n))), (0, .ref k0), (1, .long (lN n))]) hx hb dX2_take_171 hl (by decide) rfl (fun ls hl => ?_)
          refine lv_aload_n hx hb dX2_take_173 rfl (lv_at hl 2 rfl) ?_
          refine lv_iload hx hb dX2_take_174 (lv_at hl 0 rfl) ?_
          refine lv_i2l (v := lN u.2.1) hx hb dX2_take_176 (nI_l (by omega)) ?_
          refine lv_lload_n hx hb dX2_take_177 rfl (lv_at hl 1 rfl) ?_
          refine lv_l2i (v := nI (ph_up n)) hx hb dX2_take_178 (lN_i _) ?_
          refine hx_callV (rest := []) (n := 2) S hw (m_set l hst D tys cB ht k0 k1 u th bf u.2.1 (ph_up n) (by omega) ⟨by omega, by omega⟩) gX2_take_X2_set rfl (by decide +kernel) rfl ⟨Nat.le_of_ble_eq_true rfl, Nat.le_of_ble_eq_true rfl⟩ 0 2 rfl rfl hm_adr hl.1 rfl (Nat.le_of_ble_eq_true rfl) ⟨by decide, by decide⟩ dX2_take_179 (fun H locs hw => ?_)
          refine W.eq (g2 := F0 m 182 ls []) rfl ?_
          refine lv_aload_n hx hb dX2_take_182 rfl (lv_at hl 2 rfl) ?_
          refine lv_iload hx hb dX2_take_183 (lv_at hl 0 rfl) ?_
          refine lv_iconst (v := nI 4) hx hb dX2_take_185 (by decide +kernel) ?_
          refine hn_iadd (v := nI (u.2.1 + 4)) hx hb dX2_take_186 (nI_add _ _) ?_
          refine lv_i2l (v := lN (u.2.1 + 4)) hx hb dX2_take_187 (nI_l (by omega)) ?_
          refine lv_iconst (v := nI 1) hx hb dX2_take_188 (by decide +kernel) ?_
          refine hx_callV (rest := []) (n := 2) S hw (m_set l hst D tys cB ht k0 k1 (ph_sn u.1 u.2.1 (ph_up n), u.2) th bf (u.2.1 + 4) 1 (by decide) ⟨by omega, by omega⟩) gX2_take_X2_set rfl (by decide +kernel) rfl ⟨Nat.le_of_ble_eq_true rfl, Nat.le_of_ble_eq_true rfl⟩ 0 2 rfl rfl hm_adr hl.1 rfl (Nat.le_of_ble_eq_true rfl) ⟨by decide, by decide⟩ dX2_take_189 (fun H locs hw => ?_)
          refine W.eq (g2 := F0 m 192 ls []) rfl ?_
          refine lv_aload_n hx hb dX2_take_192 rfl (lv_at hl 2 rfl) ?_
          refine lv_aload_n hx hb dX2_take_193 rfl (lv_at hl 2 rfl) ?_
          refine va_get (D := D) (ci := 2) (v := .int (nI u.2.1)) (C := RX2) (T := TX2) (N := 5) hx hb hts hi2 hown hK hw.1 0 rfl rfl 1 (by decide) (hts (.fieldLink RX2 14 "HeapRowModel" "end" "I") (by decide +kernel)) (fun _ h9 => h9) rfl dX2_take_194 ?_
          refine lv_bipush (v := nI 8) hx hb dX2_take_197 (by decide +kernel) ?_
          refine hn_iadd (v := nI (u.2.1 + 8)) hx hb dX2_take_199 (nI_add _ _) ?_
          refine lv_lload_n hx hb dX2_take_200 rfl (lv_at hl 1 rfl) ?_
          refine lv_l2i (v := nI (ph_up n)) hx hb dX2_take_201 (lN_i _) ?_
          refine hn_iadd (v := nI ((u.2.1 + 8) + (ph_up n))) hx hb dX2_take_202 (nI_add _ _) ?_
          refine va_put (D := D) (ci := 2) (v := .int (nI ((u.2.1 + 8) + (ph_up n)))) (ty := .int) (C := RX2) (T := TX2) (N := 5) hx hb hts hi2 tyX2 tyX2_ok nmX2 hown hK hw.1 hw.2.1 hw.2.2 0 rfl rfl 1 (by decide) (hts (.fieldLink RX2 14 "HeapRowModel" "end" "I") (by decide +kernel)) (fun _ h9 => h9) rfl (by decide +kernel) rfl rfl (Nat.le_of_ble_eq_true rfl) dX2_take_203 (fun H locs y1 y2 y3 => ?_)
          have hw : hx_w D A s.heap (hm_W cB k0 k1 (ph_sn (ph_sn u.1 u.2.1 (ph_up n)) (u.2.1 + 4) 1, u.2.1 + 8 + ph_up n, u.2.2) th bf) H locs := ⟨y1, y2, y3⟩
          refine lv_iload hx hb dX2_take_206 (lv_at hl 0 rfl) ?_
          refine lv_bipush (v := nI 8) hx hb dX2_take_208 (by decide +kernel) ?_
          refine hn_iadd (v := nI (u.2.1 + 8)) hx hb dX2_take_210 (nI_add _ _) ?_
          exact hx_iret S hr hw dX2_take_211
        · exact absurd hc3 (by omega)
set_option maxHeartbeats 4000000 in
set_option maxRecDepth 100000 in
theorem mx_take (l : Launch) (hst : l.stackTraces = false) (D : va_G) (tys : List (ClassId × FieldType)) (cB : ClassId) (ht : tys[1]? = some (cB, .byte)) (k0 k1 : Nat) (u : ph_H) (th : Int32) (bf : Int64) (n : Nat) (u2 : ph_H) (hu : ph_I u) (hn : n < 4294967296) (h : ph_take u n = (none, u2)) : hx_X l D tys yX2_take wsX2_take 9 150 [.ref k0, .long (lN n)] (hm_W cB k0 k1 u th bf) (hm_W cB k0 k1 u2 th bf) := by
  refine hx_X.ofW (cc := cX2_take) (maxL := 10) (ret := (some .int)) (by decide) rfl (Nat.le_of_ble_eq_true rfl) ?_
  intro p e s m below meth c A ls hr S hno hw hl
  have S : hx_S p l s m _ meth c cX2_take 10 wsX2_take RX2 A D tys := S
  obtain ⟨⟨hx, hb, hml, hown, hts⟩, hK, hA, hE, hlk⟩ := id S
  have hi2 : ∀ w ∈ wsX20, w ∈ wsX2_take := by decide +kernel
  have hl : lv_has ls 10 [(0, .ref k0), (1, .long (lN n))] := hl
  obtain ⟨i1, i2, i3, i4⟩ := hu
  have gu := ph_up_ge n
  have gu2 := ph_up_lt hn
  unfold ph_take at h
  refine lv_lload_n hx hb dX2_take_0 rfl (lv_at hl 1 rfl) ?_
  refine hx_callS (rest := []) (n := 1) S hw (m_up l hst D tys cB ht k0 k1 u th bf n (by omega)) gX2_take_X2_up rfl (by decide +kernel) rfl ⟨Nat.le_of_ble_eq_true rfl, Nat.le_of_ble_eq_true rfl⟩ hm_adr hl.1 rfl (Nat.le_of_ble_eq_true rfl) ⟨by decide, by decide⟩ dX2_take_1 (fun H locs hw => ?_)
  refine W.eq (g2 := F0 m 4 ls [.long (lN (ph_up n))]) rfl ?_
  refine lv_lstore_n (lv' := [(3, .long (lN (ph_up n))), (0, .ref k0), (1, .long (lN n))]) hx hb dX2_take_4 rfl hl (by decide) rfl (fun ls hl => ?_)
  refine lv_ldc2 (v := lN 1024) hx hb hown (hts (.constantLong RX2 24 (lN 1024)) (by decide +kernel)) dX2_take_5 ?_
  refine lv_lstore (lv' := [(5, .long (lN 1024)), (3, .long (lN (ph_up n))), (0, .ref k0), (1, .long (lN n))]) hx hb dX2_take_8 hl (by decide) rfl (fun ls hl => ?_)
  have loop : ∀ (f b : Nat) (H : Heap) (locs : List Loc) (ls : Array Slot), u.2.1 ≤ b + 8 * f → 1024 ≤ b → b < 17179869184 → hx_w D A s.heap (hm_W cB k0 k1 u th bf) H locs → lv_has ls 10 [(5, .long (lN b)), (3, .long (lN (ph_up n))), (0, .ref k0), (1, .long (lN n))] → (∀ (y : Nat) (H : Heap) (locs : List Loc) (ls : Array Slot), ph_ff u.1 u.2.1 (ph_up n) f b = some y → hx_w D A s.heap (hm_W cB k0 k1 u th bf) H locs → lv_has ls 10 [(9, .int (if ph_n u.1 (y + 4) = 1 then nI 1 else nI 0)), (7, .long (lN (ph_n u.1 y))), (5, .long (lN y)), (3, .long (lN (ph_up n))), (0, .ref k0), (1, .long (lN n))] → W p l e { frames := 9, cells := 1, slots := 6, locals := 150 } s m ([.ref k0, .long (lN n)] : List Value).toArray below meth c H locs 0 0 (vx_MQ below hx_no (hx_XC D A (hm_W cB k0 k1 u2 th bf)) ([.ref k0, .long (lN n)] : List Value).toArray s 1 6 A) (F0 m 49 ls [])) → (∀ (H : Heap) (locs : List Loc) (ls : Array Slot), ph_ff u.1 u.2.1 (ph_up n) f b = none → hx_w D A s.heap (hm_W cB k0 k1 u th bf) H locs → lv_has ls 10 [(3, .long (lN (ph_up n))), (0, .ref k0), (1, .long (lN n))] → W p l e { frames := 9, cells := 1, slots := 6, locals := 150 } s m ([.ref k0, .long (lN n)] : List Value).toArray below meth c H locs 0 0 (vx_MQ below hx_no (hx_XC D A (hm_W cB k0 k1 u2 th bf)) ([.ref k0, .long (lN n)] : List Value).toArray s 1 6 A) (F0 m 134 ls [])) → W p l e { frames := 9, cells := 1, slots := 6, locals := 150 } s m ([.ref k0, .long (lN n)] : List Value).toArray below meth c H locs 0 0 (vx_MQ below hx_no (hx_XC D A (hm_W cB k0 k1 u2 th bf)) ([.ref k0, .long (lN n)] : List Value).toArray s 1 6 A) (F0 m 10 ls []) := by
    intro f
    induction f with
    | zero =>
      intro b H locs ls hk gb1 gb2 hw hl kf kx
      refine lv_lload hx hb dX2_take_10 (lv_at hl 0 rfl) ?_
      refine lv_aload_n hx hb dX2_take_12 rfl (lv_at hl 2 rfl) ?_
      refine va_get (D := D) (ci := 2) (v := .int (nI u.2.1)) (C := RX2) (T := TX2) (N := 5) hx hb hts hi2 hown hK hw.1 0 rfl rfl 1 (by decide) (hts (.fieldLink RX2 14 "HeapRowModel" "end" "I") (by decide +kernel)) (fun _ h9 => h9) rfl dX2_take_13 ?_
      refine lv_i2l (v := lN u.2.1) hx hb dX2_take_16 (nI_l (by omega)) ?_
      refine hn_lge (a := b) (b := u.2.1) (tgt := 134) hx hb (by omega) (by omega) dX2_take_17 dX2_take_18 (by decide) (fun hc => ?_) (fun hc => ?_)
      · exact kx _ _ _ rfl hw (lv_sub hl [1, 2, 3] rfl)
      · exact absurd hc (by omega)
    | succ f ih =>
      intro b H locs ls hk gb1 gb2 hw hl kf kx
      have gn := ph_n_lt u.1 b
      unfold ph_ff at kf kx
      refine lv_lload hx hb dX2_take_10 (lv_at hl 0 rfl) ?_
      refine lv_aload_n hx hb dX2_take_12 rfl (lv_at hl 2 rfl) ?_
      refine va_get (D := D) (ci := 2) (v := .int (nI u.2.1)) (C := RX2) (T := TX2) (N := 5) hx hb hts hi2 hown hK hw.1 0 rfl rfl 1 (by decide) (hts (.fieldLink RX2 14 "HeapRowModel" "end" "I") (by decide +kernel)) (fun _ h9 => h9) rfl dX2_take_13 ?_
      refine lv_i2l (v := lN u.2.1) hx hb dX2_take_16 (nI_l (by omega)) ?_
      refine hn_lge (a := b) (b := u.2.1) (tgt := 134) hx hb (by omega) (by omega) dX2_take_17 dX2_take_18 (by decide) (fun hc => ?_) (fun hc => ?_)
      · rw [if_neg (by omega)] at kx
        exact kx _ _ _ rfl hw (lv_sub hl [1, 2, 3] rfl)
      · rw [if_pos hc] at kf kx
        refine lv_aload_n hx hb dX2_take_21 rfl (lv_at hl 2 rfl) ?_
        refine lv_lload hx hb dX2_take_22 (lv_at hl 0 rfl) ?_
        refine hx_callV (rest := []) (n := 1) S hw (m_sizeAt l hst D tys cB ht k0 k1 u th bf b ⟨by omega, by omega⟩) gX2_take_X2_sizeAt rfl (by decide +kernel) rfl ⟨Nat.le_of_ble_eq_true rfl, Nat.le_of_ble_eq_true rfl⟩ 0 2 rfl rfl hm_adr hl.1 rfl (Nat.le_of_ble_eq_true rfl) ⟨by decide, by decide⟩ dX2_take_24 (fun H locs hw => ?_)
        refine W.eq (g2 := F0 m 27 ls [.long (lN (ph_n u.1 b))]) rfl ?_
        refine lv_lstore (lv' := [(7, .long (lN (ph_n u.1 b))), (5, .long (lN b)), (3, .long (lN (ph_up n))), (0, .ref k0), (1, .long (lN n))]) hx hb dX2_take_27 hl (by decide) rfl (fun ls hl => ?_)
        refine lv_aload_n hx hb dX2_take_29 rfl (lv_at hl 3 rfl) ?_
        refine lv_lload hx hb dX2_take_30 (lv_at hl 1 rfl) ?_
        refine hx_callV (rest := []) (n := 1) S hw (m_takenAt l hst D tys cB ht k0 k1 u th bf b ⟨by omega, by omega⟩) gX2_take_X2_takenAt rfl (by decide +kernel) rfl ⟨Nat.le_of_ble_eq_true rfl, Nat.le_of_ble_eq_true rfl⟩ 0 2 rfl rfl hm_adr hl.1 rfl (Nat.le_of_ble_eq_true rfl) ⟨by decide, by decide⟩ dX2_take_32 (fun H locs hw => ?_)
        refine W.eq (g2 := F0 m 35 ls [.int (if ph_n u.1 (b + 4) = 1 then nI 1 else nI 0)]) rfl ?_
        refine lv_istore (lv' := [(9, .int (if ph_n u.1 (b + 4) = 1 then nI 1 else nI 0)), (7, .long (lN (ph_n u.1 b))), (5, .long (lN b)), (3, .long (lN (ph_up n))), (0, .ref k0), (1, .long (lN n))]) hx hb dX2_take_35 hl (by decide) rfl (fun ls hl => ?_)
        refine lv_iload hx hb dX2_take_37 (lv_at hl 0 rfl) ?_
        refine hn_pne (tgt := 120) hx hb dX2_take_39 (by decide) (fun hc2 => ?_) (fun hc2 => ?_)
        · rw [if_neg (fun z => z.1 hc2)] at kf kx
          refine lv_lload hx hb dX2_take_120 (lv_at hl 2 rfl) ?_
          refine lv_ldc2 (v := lN 8) hx hb hown (hts (.constantLong RX2 69 (lN 8)) (by decide +kernel)) dX2_take_122 ?_
          refine hn_ladd (v := lN (b + 8)) hx hb dX2_take_125 (lN_add _ _) ?_
          refine lv_lload hx hb dX2_take_126 (lv_at hl 1 rfl) ?_
          refine hn_ladd (v := lN ((b + 8) + (ph_n u.1 b))) hx hb dX2_take_128 (lN_add _ _) ?_
          refine lv_lstore (lv' := [(5, .long (lN ((b + 8) + (ph_n u.1 b)))), (9, .int (if ph_n u.1 (b + 4) = 1 then nI 1 else nI 0)), (7, .long (lN (ph_n u.1 b))), (3, .long (lN (ph_up n))), (0, .ref k0), (1, .long (lN n))]) hx hb dX2_take_129 hl (by decide) rfl (fun ls hl => ?_)
          refine lv_goto (tgt := 10) hx hb dX2_take_131 (by decide) ?_
          exact ih (b + 8 + ph_n u.1 b) _ _ _ (by omega) (by omega) (by omega) hw (lv_sub hl [0, 3, 4, 5] rfl) kf kx
        · refine lv_lload hx hb dX2_take_42 (lv_at hl 1 rfl) ?_
          refine lv_lload_n hx hb dX2_take_44 rfl (lv_at hl 3 rfl) ?_
          refine hn_llt (a := (ph_n u.1 b)) (b := (ph_up n)) (tgt := 120) hx hb (by omega) (by omega) dX2_take_45 dX2_take_46 (by decide) (fun hc3 => ?_) (fun hc3 => ?_)
          · rw [if_neg (fun z => absurd z.2 (by omega))] at kf kx
            refine lv_lload hx hb dX2_take_120 (lv_at hl 2 rfl) ?_
            refine lv_ldc2 (v := lN 8) hx hb hown (hts (.constantLong RX2 69 (lN 8)) (by decide +kernel)) dX2_take_122 ?_
            refine hn_ladd (v := lN (b + 8)) hx hb dX2_take_125 (lN_add _ _) ?_
            refine lv_lload hx hb dX2_take_126 (lv_at hl 1 rfl) ?_
            refine hn_ladd (v := lN ((b + 8) + (ph_n u.1 b))) hx hb dX2_take_128 (lN_add _ _) ?_
            refine lv_lstore (lv' := [(5, .long (lN ((b + 8) + (ph_n u.1 b)))), (9, .int (if ph_n u.1 (b + 4) = 1 then nI 1 else nI 0)), (7, .long (lN (ph_n u.1 b))), (3, .long (lN (ph_up n))), (0, .ref k0), (1, .long (lN n))]) hx hb dX2_take_129 hl (by decide) rfl (fun ls hl => ?_)
            refine lv_goto (tgt := 10) hx hb dX2_take_131 (by decide) ?_
            exact ih (b + 8 + ph_n u.1 b) _ _ _ (by omega) (by omega) (by omega) hw (lv_sub hl [0, 3, 4, 5] rfl) kf kx
          · rw [if_pos ⟨hc2, hc3⟩] at kf
            exact kf b _ _ _ rfl hw (lv_sub hl [0, 1, 2, 3, 4, 5] rfl)
  refine loop 8064 1024 _ _ _ (by omega) (by decide) (by decide) hw (lv_sub hl [0, 1, 2, 3] rfl) (fun b H locs ls hy hw hl => ?_) (fun H locs ls hy hw hl => ?_)
  · rw [hy] at h
    dsimp only at h
    obtain ⟨f1, f2, f3, f4⟩ := ph_ff_some _ _ hy
    have gn := ph_n_lt u.1 b
    refine lv_lload hx hb dX2_take_49 (lv_at hl 1 rfl) ?_
    refine lv_lload_n hx hb dX2_take_51 rfl (lv_at hl 3 rfl) ?_
    refine hn_lsub (v := lN ((ph_n u.1 b) - (ph_up n))) hx hb dX2_take_52 (lN_sub (by omega)) ?_
    refine lv_ldc2 (v := lN 16) hx hb hown (hts (.constantLong RX2 76 (lN 16)) (by decide +kernel)) dX2_take_53 ?_
    refine hn_llt (a := ((ph_n u.1 b) - (ph_up n))) (b := 16) (tgt := 102) hx hb (by omega) (by omega) dX2_take_56 dX2_take_57 (by decide) (fun hk1 => ?_) (fun hk1 => ?_)
    · rw [if_pos (by omega)] at h
      cases h
    · rw [if_neg (by omega)] at h
      refine lv_aload_n hx hb dX2_take_60 rfl (lv_at hl 4 rfl) ?_
      refine lv_lload hx hb dX2_take_61 (lv_at hl 2 rfl) ?_
      refine lv_ldc2 (v := lN 8) hx hb hown (hts (.constantLong RX2 69 (lN 8)) (by decide +kernel)) dX2_take_63 ?_
      refine hn_ladd (v := lN (b + 8)) hx hb dX2_take_66 (lN_add _ _) ?_
      refine lv_lload_n hx hb dX2_take_67 rfl (lv_at hl 3 rfl) ?_
      refine hn_ladd (v := lN ((b + 8) + (ph_up n))) hx hb dX2_take_68 (lN_add _ _) ?_
      refine lv_lload hx hb dX2_take_69 (lv_at hl 1 rfl) ?_
      refine lv_lload_n hx hb dX2_take_71 rfl (lv_at hl 3 rfl) ?_
      refine hn_lsub (v := lN ((ph_n u.1 b) - (ph_up n))) hx hb dX2_take_72 (lN_sub (by omega)) ?_
      refine lv_ldc2 (v := lN 8) hx hb hown (hts (.constantLong RX2 69 (lN 8)) (by decide +kernel)) dX2_take_73 ?_
      refine hn_lsub (v := lN (((ph_n u.1 b) - (ph_up n)) - 8)) hx hb dX2_take_76 (lN_sub (by omega)) ?_
      refine lv_l2i (v := nI (((ph_n u.1 b) - (ph_up n)) - 8)) hx hb dX2_take_77 (lN_i _) ?_
      by_cases kw : (ph_wh u.1 (b + 8 + ph_up n) (ph_n u.1 b - ph_up n - 8) 0).1 = true
      · rw [if_pos kw] at h
        obtain ⟨g1, g2, g3⟩ := ph_wh_t kw
        rw [g3] at h
        cases h
      · rw [if_neg kw] at h
        rcases ph_wh_f kw with ⟨g1, g3⟩ | ⟨g1, g2, g3⟩
        · rw [g3] at h
          cases h
          exact hx_thr (rest := []) (n := 2) S hno hw (mx_set l hst D tys cB ht k0 k1 u th bf (b + 8 + ph_up n) (ph_n u.1 b - ph_up n - 8) (by omega) g1) gX2_take_X2_set rfl (by decide +kernel) rfl ⟨Nat.le_of_ble_eq_true rfl, Nat.le_of_ble_eq_true rfl⟩ 0 2 rfl rfl hm_adr hl.1 rfl (Nat.le_of_ble_eq_true rfl) ⟨by decide, by decide⟩ dX2_take_78
        · rw [g3] at h
          cases h
          refine hx_callV (rest := []) (n := 2) S hw (m_set l hst D tys cB ht k0 k1 u th bf (b + 8 + ph_up n) (ph_n u.1 b - ph_up n - 8) (by omega) g1) gX2_take_X2_set rfl (by decide +kernel) rfl ⟨Nat.le_of_ble_eq_true rfl, Nat.le_of_ble_eq_true rfl⟩ 0 2 rfl rfl hm_adr hl.1 rfl (Nat.le_of_ble_eq_true rfl) ⟨by decide, by decide⟩ dX2_take_78 (fun H locs hw => ?_)
          refine W.eq (g2 := F0 m 81 ls []) rfl ?_
          refine lv_aload_n hx hb dX2_take_81 rfl (lv_at hl 4 rfl) ?_
          refine lv_lload hx hb dX2_take_82 (lv_at hl 2 rfl) ?_
          refine lv_ldc2 (v := lN 12) hx hb hown (hts (.constantLong RX2 81 (lN 12)) (by decide +kernel)) dX2_take_84 ?_
          refine hn_ladd (v := lN (b + 12)) hx hb dX2_take_87 (lN_add _ _) ?_
          refine lv_lload_n hx hb dX2_take_88 rfl (lv_at hl 3 rfl) ?_
          refine hn_ladd (v := lN ((b + 12) + (ph_up n))) hx hb dX2_take_89 (lN_add _ _) ?_
          refine lv_iconst (v := nI 0) hx hb dX2_take_90 (by decide +kernel) ?_
          rw [show b + 12 + ph_up n = b + 8 + ph_up n + 4 from by omega]
          exact hx_thr (rest := []) (n := 2) S hno hw (mx_set l hst D tys cB ht k0 k1 (ph_sn u.1 (b + 8 + ph_up n) (ph_n u.1 b - ph_up n - 8), u.2) th bf (b + 8 + ph_up n + 4) 0 (by omega) g2) gX2_take_X2_set rfl (by decide +kernel) rfl ⟨Nat.le_of_ble_eq_true rfl, Nat.le_of_ble_eq_true rfl⟩ 0 2 rfl rfl hm_adr hl.1 rfl (Nat.le_of_ble_eq_true rfl) ⟨by decide, by decide⟩ dX2_take_91
  · rw [hy] at h
    dsimp only at h
    split at h <;> cases h
