/-! HeapRow: the walks along the blocks -/
set_option maxHeartbeats 4000000 in
set_option maxRecDepth 100000 in
theorem c_firstFree (l : Launch) (hst : l.stackTraces = false) (D : va_G) (tys : List (ClassId × FieldType)) (cJ : ClassId) (ht : tys[0]? = some (cJ, .long)) (h0 h1 h2 : Nat) (u : ph_H) (n : Nat) (r : Option Nat) (hu : ph_I u) (hn : n < 4611686018427387904) (hq0 : ph_ff u.1 u.2.1 n 8064 1024 = r) : hx_R l D tys yX1_firstFree wsX1_firstFree 9 151 [.ref h0, .long (lN n)] (hc_W cJ h0 h1 h2 u) (hc_W cJ h0 h1 h2 u) (some (.long (lN (r.getD 0)))) := by
  refine hx_R.ofW (cc := cX1_firstFree) (maxL := 6) (ret := (some .long)) (by decide) rfl (Nat.le_of_ble_eq_true rfl) ?_
  intro p e s m below meth c A ls hr S hw hl
  have S : hx_S p l s m _ meth c cX1_firstFree 6 wsX1_firstFree RX1 A D tys := S
  obtain ⟨⟨hx, hb, hml, hown, hts⟩, hK, hA, hE, hlk⟩ := id S
  have hi1 : ∀ w ∈ wsX10, w ∈ wsX1_firstFree := by decide +kernel
  have hl : lv_has ls 6 [(0, .ref h0), (1, .long (lN n))] := hl
  obtain ⟨i1, i2, i3, i4⟩ := hu
  refine lv_ldc2 (v := lN 1024) hx hb hown (hts (.constantLong RX1 16 (lN 1024)) (by decide +kernel)) dX1_firstFree_0 ?_
  refine lv_lstore_n (lv' := [(3, .long (lN 1024)), (0, .ref h0), (1, .long (lN n))]) hx hb dX1_firstFree_3 rfl hl (by decide) rfl (fun ls hl => ?_)
  refine lv_iconst (v := nI 0) hx hb dX1_firstFree_4 (by decide +kernel) ?_
  refine lv_istore (lv' := [(5, .int (nI 0)), (3, .long (lN 1024)), (0, .ref h0), (1, .long (lN n))]) hx hb dX1_firstFree_5 hl (by decide) rfl (fun ls hl => ?_)
  have loop : ∀ (f k b : Nat) (H : Heap) (locs : List Loc) (ls : Array Slot), k + f = 8064 → 1024 ≤ b → b < 17179869184 → hx_w D A s.heap (hc_W cJ h0 h1 h2 u) H locs → lv_has ls 6 [(5, .int (nI k)), (3, .long (lN b)), (0, .ref h0), (1, .long (lN n))] → ph_ff u.1 u.2.1 n f b = r → W p l e { frames := 9, cells := 0, slots := 0, locals := 151 } s m ([.ref h0, .long (lN n)] : List Value).toArray below meth c H locs 0 0 (MQ below (hx_Q D A (hc_W cJ h0 h1 h2 u) (some (.long (lN (r.getD 0))))) ([.ref h0, .long (lN n)] : List Value).toArray s 0 0 A) (F0 m 7 ls []) := by
    intro f
    induction f with
    | zero =>
      intro k b H locs ls hk gb1 gb2 hw hl hq
      refine lv_iload hx hb dX1_firstFree_7 (lv_at hl 0 rfl) ?_
      refine lv_sipush (v := nI 8064) hx hb dX1_firstFree_9 (by decide +kernel) ?_
      refine hn_ige (a := k) (b := 8064) (tgt := 56) hx hb (by omega) (by omega) dX1_firstFree_12 (by decide) (fun hc => ?_) (fun hc => ?_)
      · subst hq
        refine lv_lconst (v := lN 0) hx hb dX1_firstFree_56 (by decide +kernel) ?_
        exact hx_lret S hr hw dX1_firstFree_57
      · exact absurd hc (by omega)
    | succ f ih =>
      intro k b H locs ls hk gb1 gb2 hw hl hq
      have gn := ph_n_lt u.1 b
      unfold ph_ff at hq
      refine lv_iload hx hb dX1_firstFree_7 (lv_at hl 0 rfl) ?_
      refine lv_sipush (v := nI 8064) hx hb dX1_firstFree_9 (by decide +kernel) ?_
      refine hn_ige (a := k) (b := 8064) (tgt := 56) hx hb (by omega) (by omega) dX1_firstFree_12 (by decide) (fun hc => ?_) (fun hc => ?_)
      · exact absurd hc (by omega)
      · refine lv_lload_n hx hb dX1_firstFree_15 rfl (lv_at hl 1 rfl) ?_
        refine lv_aload_n hx hb dX1_firstFree_16 rfl (lv_at hl 2 rfl) ?_
        refine va_get (D := D) (ci := 1) (v := .long (lN u.2.1)) (C := RX1) (T := TX1) (N := 3) hx hb hts hi1 hown hK hw.1 0 rfl rfl 1 (by decide) (hts (.fieldLink RX1 18 "HeapRow" "end" "J") (by decide +kernel)) (fun _ h9 => h9) rfl dX1_firstFree_17 ?_
        refine hn_lge (a := b) (b := u.2.1) (tgt := 56) hx hb (by omega) (by omega) dX1_firstFree_20 dX1_firstFree_21 (by decide) (fun hc2 => ?_) (fun hc2 => ?_)
        · rw [if_neg (by omega)] at hq
          subst hq
          refine lv_lconst (v := lN 0) hx hb dX1_firstFree_56 (by decide +kernel) ?_
          exact hx_lret S hr hw dX1_firstFree_57
        · refine lv_aload_n hx hb dX1_firstFree_24 rfl (lv_at hl 2 rfl) ?_
          refine lv_lload_n hx hb dX1_firstFree_25 rfl (lv_at hl 1 rfl) ?_
          refine hx_callV (rest := []) (n := 1) S hw (c_isTaken l hst D tys cJ ht h0 h1 h2 u b ⟨by omega, by omega⟩) gX1_firstFree_X1_isTaken rfl (by decide +kernel) rfl ⟨Nat.le_of_ble_eq_true rfl, Nat.le_of_ble_eq_true rfl⟩ 0 1 rfl rfl hc_adr hl.1 rfl (Nat.le_of_ble_eq_true rfl) ⟨by decide, by decide⟩ dX1_firstFree_26 (fun H locs hw => ?_)
          refine W.eq (g2 := F0 m 29 ls [.int (if ph_n u.1 (b + 4) = 1 then nI 1 else nI 0)]) rfl ?_
          refine hn_pne (tgt := 44) hx hb dX1_firstFree_29 (by decide) (fun hc3 => ?_) (fun hc3 => ?_)
          · rw [if_pos hc2, if_neg (fun z => z.1 hc3)] at hq
            refine lv_aload_n hx hb dX1_firstFree_44 rfl (lv_at hl 2 rfl) ?_
            refine lv_lload_n hx hb dX1_firstFree_45 rfl (lv_at hl 1 rfl) ?_
            refine hx_callV (rest := []) (n := 1) S hw (c_next l hst D tys cJ ht h0 h1 h2 u b ⟨by omega, by omega⟩) gX1_firstFree_X1_next rfl (by decide +kernel) rfl ⟨Nat.le_of_ble_eq_true rfl, Nat.le_of_ble_eq_true rfl⟩ 0 1 rfl rfl hc_adr hl.1 rfl (Nat.le_of_ble_eq_true rfl) ⟨by decide, by decide⟩ dX1_firstFree_46 (fun H locs hw => ?_)
            refine W.eq (g2 := F0 m 49 ls [.long (lN (b + 8 + ph_n u.1 b))]) rfl ?_
            refine lv_lstore_n (lv' := [(3, .long (lN (b + 8 + ph_n u.1 b))), (5, .int (nI k)), (0, .ref h0), (1, .long (lN n))]) hx hb dX1_firstFree_49 rfl hl (by decide) rfl (fun ls hl => ?_)
            refine lv_iinc (v := nI (k + 1)) (lv' := [(5, .int (nI (k + 1))), (3, .long (lN (b + 8 + ph_n u.1 b))), (0, .ref h0), (1, .long (lN n))]) hx hb dX1_firstFree_50 hl (k := 1) rfl (nI_add _ _) (by decide) rfl (fun ls hl => ?_)
            refine lv_goto (tgt := 7) hx hb dX1_firstFree_53 (by decide) ?_
            exact ih (k + 1) (b + 8 + ph_n u.1 b) _ _ _ (by omega) (by omega) (by omega) hw (lv_sub hl [0, 1, 2, 3] rfl) hq
          · refine lv_aload_n hx hb dX1_firstFree_32 rfl (lv_at hl 2 rfl) ?_
            refine lv_lload_n hx hb dX1_firstFree_33 rfl (lv_at hl 1 rfl) ?_
            refine hx_callV (rest := []) (n := 1) S hw (c_size l hst D tys cJ ht h0 h1 h2 u b ⟨by omega, by omega⟩) gX1_firstFree_X1_size rfl (by decide +kernel) rfl ⟨Nat.le_of_ble_eq_true rfl, Nat.le_of_ble_eq_true rfl⟩ 0 1 rfl rfl hc_adr hl.1 rfl (Nat.le_of_ble_eq_true rfl) ⟨by decide, by decide⟩ dX1_firstFree_34 (fun H locs hw => ?_)
            refine W.eq (g2 := F0 m 37 ls [.long (lN (ph_n u.1 b))]) rfl ?_
            refine lv_lload_n hx hb dX1_firstFree_37 rfl (lv_at hl 3 rfl) ?_
            refine hn_llt (a := (ph_n u.1 b)) (b := n) (tgt := 44) hx hb (by omega) (by omega) dX1_firstFree_38 dX1_firstFree_39 (by decide) (fun hc4 => ?_) (fun hc4 => ?_)
            · rw [if_pos hc2, if_neg (fun z => absurd z.2 (by omega))] at hq
              refine lv_aload_n hx hb dX1_firstFree_44 rfl (lv_at hl 2 rfl) ?_
              refine lv_lload_n hx hb dX1_firstFree_45 rfl (lv_at hl 1 rfl) ?_
              refine hx_callV (rest := []) (n := 1) S hw (c_next l hst D tys cJ ht h0 h1 h2 u b ⟨by omega, by omega⟩) gX1_firstFree_X1_next rfl (by decide +kernel) rfl ⟨Nat.le_of_ble_eq_true rfl, Nat.le_of_ble_eq_true rfl⟩ 0 1 rfl rfl hc_adr hl.1 rfl (Nat.le_of_ble_eq_true rfl) ⟨by decide, by decide⟩ dX1_firstFree_46 (fun H locs hw => ?_)
              refine W.eq (g2 := F0 m 49 ls [.long (lN (b + 8 + ph_n u.1 b))]) rfl ?_
              refine lv_lstore_n (lv' := [(3, .long (lN (b + 8 + ph_n u.1 b))), (5, .int (nI k)), (0, .ref h0), (1, .long (lN n))]) hx hb dX1_firstFree_49 rfl hl (by decide) rfl (fun ls hl => ?_)
              refine lv_iinc (v := nI (k + 1)) (lv' := [(5, .int (nI (k + 1))), (3, .long (lN (b + 8 + ph_n u.1 b))), (0, .ref h0), (1, .long (lN n))]) hx hb dX1_firstFree_50 hl (k := 1) rfl (nI_add _ _) (by decide) rfl (fun ls hl => ?_)
              refine lv_goto (tgt := 7) hx hb dX1_firstFree_53 (by decide) ?_
              exact ih (k + 1) (b + 8 + ph_n u.1 b) _ _ _ (by omega) (by omega) (by omega) hw (lv_sub hl [0, 1, 2, 3] rfl) hq
            · rw [if_pos hc2, if_pos ⟨hc3, hc4⟩] at hq
              subst hq
              refine lv_lload_n hx hb dX1_firstFree_42 rfl (lv_at hl 1 rfl) ?_
              exact hx_lret S hr hw dX1_firstFree_43
  exact loop 8064 0 1024 _ _ _ rfl (by decide) (by decide) hw (lv_sub hl [0, 1, 2, 3] rfl) hq0
set_option maxHeartbeats 4000000 in
set_option maxRecDepth 100000 in
theorem c_takenBlock (l : Launch) (hst : l.stackTraces = false) (D : va_G) (tys : List (ClassId × FieldType)) (cJ : ClassId) (ht : tys[0]? = some (cJ, .long)) (h0 h1 h2 : Nat) (u : ph_H) (a b p0 : Nat) (hu : ph_I u) (ha : a < 4611686018427387904) (hq0 : ph_fd u.1 u.2.1 a 8064 0 1024 = some (b, p0)) : hx_R l D tys yX1_takenBlock wsX1_takenBlock 9 151 [.ref h0, .long (lN a)] (hc_W cJ h0 h1 h2 u) (hc_W cJ h0 h1 h2 u) (some (.long (lN b))) := by
  refine hx_R.ofW (cc := cX1_takenBlock) (maxL := 6) (ret := (some .long)) (by decide) rfl (Nat.le_of_ble_eq_true rfl) ?_
  intro p e s m below meth c A ls hr S hw hl
  have S : hx_S p l s m _ meth c cX1_takenBlock 6 wsX1_takenBlock RX1 A D tys := S
  obtain ⟨⟨hx, hb, hml, hown, hts⟩, hK, hA, hE, hlk⟩ := id S
  have hi1 : ∀ w ∈ wsX10, w ∈ wsX1_takenBlock := by decide +kernel
  have hl : lv_has ls 6 [(0, .ref h0), (1, .long (lN a))] := hl
  obtain ⟨i1, i2, i3, i4⟩ := hu
  refine lv_ldc2 (v := lN 1024) hx hb hown (hts (.constantLong RX1 16 (lN 1024)) (by decide +kernel)) dX1_takenBlock_0 ?_
  refine lv_lstore_n (lv' := [(3, .long (lN 1024)), (0, .ref h0), (1, .long (lN a))]) hx hb dX1_takenBlock_3 rfl hl (by decide) rfl (fun ls hl => ?_)
  refine lv_iconst (v := nI 0) hx hb dX1_takenBlock_4 (by decide +kernel) ?_
  refine lv_istore (lv' := [(5, .int (nI 0)), (3, .long (lN 1024)), (0, .ref h0), (1, .long (lN a))]) hx hb dX1_takenBlock_5 hl (by decide) rfl (fun ls hl => ?_)
  have loop : ∀ (f k pv x : Nat) (H : Heap) (locs : List Loc) (ls : Array Slot), k + f = 8064 → 1024 ≤ x → x < 17179869184 → hx_w D A s.heap (hc_W cJ h0 h1 h2 u) H locs → lv_has ls 6 [(5, .int (nI k)), (3, .long (lN x)), (0, .ref h0), (1, .long (lN a))] → ph_fd u.1 u.2.1 a f pv x = some (b, p0) → W p l e { frames := 9, cells := 0, slots := 0, locals := 151 } s m ([.ref h0, .long (lN a)] : List Value).toArray below meth c H locs 0 0 (MQ below (hx_Q D A (hc_W cJ h0 h1 h2 u) (some (.long (lN b)))) ([.ref h0, .long (lN a)] : List Value).toArray s 0 0 A) (F0 m 7 ls []) := by
    intro f
    induction f with
    | zero =>
      intro k pv x H locs ls hk gb1 gb2 hw hl hq
      cases hq
    | succ f ih =>
      intro k pv x H locs ls hk gb1 gb2 hw hl hq
      have gn := ph_n_lt u.1 x
      unfold ph_fd at hq
      refine lv_iload hx hb dX1_takenBlock_7 (lv_at hl 0 rfl) ?_
      refine lv_sipush (v := nI 8064) hx hb dX1_takenBlock_9 (by decide +kernel) ?_
      refine hn_ige (a := k) (b := 8064) (tgt := 56) hx hb (by omega) (by omega) dX1_takenBlock_12 (by decide) (fun hc => ?_) (fun hc => ?_)
      · exact absurd hc (by omega)
      · refine lv_lload_n hx hb dX1_takenBlock_15 rfl (lv_at hl 1 rfl) ?_
        refine lv_aload_n hx hb dX1_takenBlock_16 rfl (lv_at hl 2 rfl) ?_
        refine va_get (D := D) (ci := 1) (v := .long (lN u.2.1)) (C := RX1) (T := TX1) (N := 3) hx hb hts hi1 hown hK hw.1 0 rfl rfl 1 (by decide) (hts (.fieldLink RX1 18 "HeapRow" "end" "J") (by decide +kernel)) (fun _ h9 => h9) rfl dX1_takenBlock_17 ?_
        refine hn_lge (a := x) (b := u.2.1) (tgt := 56) hx hb (by omega) (by omega) dX1_takenBlock_20 dX1_takenBlock_21 (by decide) (fun hc2 => ?_) (fun hc2 => ?_)
        · rw [if_neg (by omega)] at hq
          cases hq
        · refine lv_lload_n hx hb dX1_takenBlock_24 rfl (lv_at hl 1 rfl) ?_
          refine lv_ldc2 (v := lN 8) hx hb hown (hts (.constantLong RX1 72 (lN 8)) (by decide +kernel)) dX1_takenBlock_25 ?_
          refine hn_ladd (v := lN (x + 8)) hx hb dX1_takenBlock_28 (lN_add _ _) ?_
          refine lv_lload_n hx hb dX1_takenBlock_29 rfl (lv_at hl 3 rfl) ?_
          refine hn_lne (a := (x + 8)) (b := a) (tgt := 44) hx hb (by omega) (by omega) dX1_takenBlock_30 dX1_takenBlock_31 (by decide) (fun hc3 => ?_) (fun hc3 => ?_)
          · rw [if_pos hc2, if_neg (fun z => hc3 z.1)] at hq
            refine lv_aload_n hx hb dX1_takenBlock_44 rfl (lv_at hl 2 rfl) ?_
            refine lv_lload_n hx hb dX1_takenBlock_45 rfl (lv_at hl 1 rfl) ?_
            refine hx_callV (rest := []) (n := 1) S hw (c_next l hst D tys cJ ht h0 h1 h2 u x ⟨by omega, by omega⟩) gX1_takenBlock_X1_next rfl (by decide +kernel) rfl ⟨Nat.le_of_ble_eq_true rfl, Nat.le_of_ble_eq_true rfl⟩ 0 1 rfl rfl hc_adr hl.1 rfl (Nat.le_of_ble_eq_true rfl) ⟨by decide, by decide⟩ dX1_takenBlock_46 (fun H locs hw => ?_)
            refine W.eq (g2 := F0 m 49 ls [.long (lN (x + 8 + ph_n u.1 x))]) rfl ?_
            refine lv_lstore_n (lv' := [(3, .long (lN (x + 8 + ph_n u.1 x))), (5, .int (nI k)), (0, .ref h0), (1, .long (lN a))]) hx hb dX1_takenBlock_49 rfl hl (by decide) rfl (fun ls hl => ?_)
            refine lv_iinc (v := nI (k + 1)) (lv' := [(5, .int (nI (k + 1))), (3, .long (lN (x + 8 + ph_n u.1 x))), (0, .ref h0), (1, .long (lN a))]) hx hb dX1_takenBlock_50 hl (k := 1) rfl (nI_add _ _) (by decide) rfl (fun ls hl => ?_)
            refine lv_goto (tgt := 7) hx hb dX1_takenBlock_53 (by decide) ?_
            exact ih (k + 1) x (x + 8 + ph_n u.1 x) _ _ _ (by omega) (by omega) (by omega) hw (lv_sub hl [0, 1, 2, 3] rfl) hq
          · refine lv_aload_n hx hb dX1_takenBlock_34 rfl (lv_at hl 2 rfl) ?_
            refine lv_lload_n hx hb dX1_takenBlock_35 rfl (lv_at hl 1 rfl) ?_
            refine hx_callV (rest := []) (n := 1) S hw (c_isTaken l hst D tys cJ ht h0 h1 h2 u x ⟨by omega, by omega⟩) gX1_takenBlock_X1_isTaken rfl (by decide +kernel) rfl ⟨Nat.le_of_ble_eq_true rfl, Nat.le_of_ble_eq_true rfl⟩ 0 1 rfl rfl hc_adr hl.1 rfl (Nat.le_of_ble_eq_true rfl) ⟨by decide, by decide⟩ dX1_takenBlock_36 (fun H locs hw => ?_)
            refine W.eq (g2 := F0 m 39 ls [.int (if ph_n u.1 (x + 4) = 1 then nI 1 else nI 0)]) rfl ?_
            refine hn_peq (tgt := 44) hx hb dX1_takenBlock_39 (by decide) (fun hc4 => ?_) (fun hc4 => ?_)
            · rw [if_pos hc2, if_neg (fun z => hc4 z.2)] at hq
              refine lv_aload_n hx hb dX1_takenBlock_44 rfl (lv_at hl 2 rfl) ?_
              refine lv_lload_n hx hb dX1_takenBlock_45 rfl (lv_at hl 1 rfl) ?_
              refine hx_callV (rest := []) (n := 1) S hw (c_next l hst D tys cJ ht h0 h1 h2 u x ⟨by omega, by omega⟩) gX1_takenBlock_X1_next rfl (by decide +kernel) rfl ⟨Nat.le_of_ble_eq_true rfl, Nat.le_of_ble_eq_true rfl⟩ 0 1 rfl rfl hc_adr hl.1 rfl (Nat.le_of_ble_eq_true rfl) ⟨by decide, by decide⟩ dX1_takenBlock_46 (fun H locs hw => ?_)
              refine W.eq (g2 := F0 m 49 ls [.long (lN (x + 8 + ph_n u.1 x))]) rfl ?_
              refine lv_lstore_n (lv' := [(3, .long (lN (x + 8 + ph_n u.1 x))), (5, .int (nI k)), (0, .ref h0), (1, .long (lN a))]) hx hb dX1_takenBlock_49 rfl hl (by decide) rfl (fun ls hl => ?_)
              refine lv_iinc (v := nI (k + 1)) (lv' := [(5, .int (nI (k + 1))), (3, .long (lN (x + 8 + ph_n u.1 x))), (0, .ref h0), (1, .long (lN a))]) hx hb dX1_takenBlock_50 hl (k := 1) rfl (nI_add _ _) (by decide) rfl (fun ls hl => ?_)
              refine lv_goto (tgt := 7) hx hb dX1_takenBlock_53 (by decide) ?_
              exact ih (k + 1) x (x + 8 + ph_n u.1 x) _ _ _ (by omega) (by omega) (by omega) hw (lv_sub hl [0, 1, 2, 3] rfl) hq
            · rw [if_pos hc2, if_pos ⟨hc3, hc4⟩] at hq
              cases hq
              refine lv_lload_n hx hb dX1_takenBlock_42 rfl (lv_at hl 1 rfl) ?_
              exact hx_lret S hr hw dX1_takenBlock_43
  exact loop 8064 0 0 1024 _ _ _ rfl (by decide) (by decide) hw (lv_sub hl [0, 1, 2, 3] rfl) hq0
set_option maxHeartbeats 4000000 in
set_option maxRecDepth 100000 in
theorem x_takenBlock (l : Launch) (hst : l.stackTraces = false) (D : va_G) (tys : List (ClassId × FieldType)) (cJ : ClassId) (ht : tys[0]? = some (cJ, .long)) (h0 h1 h2 : Nat) (u : ph_H) (a : Nat) (hu : ph_I u) (ha : a < 4611686018427387904) (hq0 : ph_fd u.1 u.2.1 a 8064 0 1024 = none) : hx_X l D tys yX1_takenBlock wsX1_takenBlock 9 151 [.ref h0, .long (lN a)] (hc_W cJ h0 h1 h2 u) (hc_W cJ h0 h1 h2 u) := by
  refine hx_X.ofW (cc := cX1_takenBlock) (maxL := 6) (ret := (some .long)) (by decide) rfl (Nat.le_of_ble_eq_true rfl) ?_
  intro p e s m below meth c A ls hr S hno hw hl
  have S : hx_S p l s m _ meth c cX1_takenBlock 6 wsX1_takenBlock RX1 A D tys := S
  obtain ⟨⟨hx, hb, hml, hown, hts⟩, hK, hA, hE, hlk⟩ := id S
  have hi1 : ∀ w ∈ wsX10, w ∈ wsX1_takenBlock := by decide +kernel
  have hl : lv_has ls 6 [(0, .ref h0), (1, .long (lN a))] := hl
  obtain ⟨i1, i2, i3, i4⟩ := hu
  refine lv_ldc2 (v := lN 1024) hx hb hown (hts (.constantLong RX1 16 (lN 1024)) (by decide +kernel)) dX1_takenBlock_0 ?_
  refine lv_lstore_n (lv' := [(3, .long (lN 1024)), (0, .ref h0), (1, .long (lN a))]) hx hb dX1_takenBlock_3 rfl hl (by decide) rfl (fun ls hl => ?_)
  refine lv_iconst (v := nI 0) hx hb dX1_takenBlock_4 (by decide +kernel) ?_
  refine lv_istore (lv' := [(5, .int (nI 0)), (3, .long (lN 1024)), (0, .ref h0), (1, .long (lN a))]) hx hb dX1_takenBlock_5 hl (by decide) rfl (fun ls hl => ?_)
  have loop : ∀ (f k pv x : Nat) (H : Heap) (locs : List Loc) (ls : Array Slot), k + f = 8064 → 1024 ≤ x → x < 17179869184 → hx_w D A s.heap (hc_W cJ h0 h1 h2 u) H locs → lv_has ls 6 [(5, .int (nI k)), (3, .long (lN x)), (0, .ref h0), (1, .long (lN a))] → ph_fd u.1 u.2.1 a f pv x = none → W p l e { frames := 9, cells := 1, slots := 6, locals := 151 } s m ([.ref h0, .long (lN a)] : List Value).toArray below meth c H locs 0 0 (vx_MQ below hx_no (hx_XC D A (hc_W cJ h0 h1 h2 u)) ([.ref h0, .long (lN a)] : List Value).toArray s 1 6 A) (F0 m 7 ls []) := by
    intro f
    induction f with
    | zero =>
      intro k pv x H locs ls hk gb1 gb2 hw hl hq
      refine lv_iload hx hb dX1_takenBlock_7 (lv_at hl 0 rfl) ?_
      refine lv_sipush (v := nI 8064) hx hb dX1_takenBlock_9 (by decide +kernel) ?_
      refine hn_ige (a := k) (b := 8064) (tgt := 56) hx hb (by omega) (by omega) dX1_takenBlock_12 (by decide) (fun hc => ?_) (fun hc => ?_)
      · exact hx_new S hst hno hw hE.2.2.2.1 (List.mem_of_getElem? (i := 1) rfl) (List.mem_of_getElem? (i := 2) rfl) (fun w h => List.mem_cons_of_mem _ (List.mem_append_left _ (List.mem_append_right _ h))) tb_S1 to_S1 hl.1 dX1_takenBlock_56 dX1_takenBlock_59 dX1_takenBlock_60 dX1_takenBlock_62 dX1_takenBlock_65 ⟨by decide, by decide, by decide, by decide⟩
      · exact absurd hc (by omega)
    | succ f ih =>
      intro k pv x H locs ls hk gb1 gb2 hw hl hq
      have gn := ph_n_lt u.1 x
      unfold ph_fd at hq
      refine lv_iload hx hb dX1_takenBlock_7 (lv_at hl 0 rfl) ?_
      refine lv_sipush (v := nI 8064) hx hb dX1_takenBlock_9 (by decide +kernel) ?_
      refine hn_ige (a := k) (b := 8064) (tgt := 56) hx hb (by omega) (by omega) dX1_takenBlock_12 (by decide) (fun hc => ?_) (fun hc => ?_)
      · exact absurd hc (by omega)
      · refine lv_lload_n hx hb dX1_takenBlock_15 rfl (lv_at hl 1 rfl) ?_
        refine lv_aload_n hx hb dX1_takenBlock_16 rfl (lv_at hl 2 rfl) ?_
        refine va_get (D := D) (ci := 1) (v := .long (lN u.2.1)) (C := RX1) (T := TX1) (N := 3) hx hb hts hi1 hown hK hw.1 0 rfl rfl 1 (by decide) (hts (.fieldLink RX1 18 "HeapRow" "end" "J") (by decide +kernel)) (fun _ h9 => h9) rfl dX1_takenBlock_17 ?_
        refine hn_lge (a := x) (b := u.2.1) (tgt := 56) hx hb (by omega) (by omega) dX1_takenBlock_20 dX1_takenBlock_21 (by decide) (fun hc2 => ?_) (fun hc2 => ?_)
        · rw [if_neg (by omega)] at hq
          exact hx_new S hst hno hw hE.2.2.2.1 (List.mem_of_getElem? (i := 1) rfl) (List.mem_of_getElem? (i := 2) rfl) (fun w h => List.mem_cons_of_mem _ (List.mem_append_left _ (List.mem_append_right _ h))) tb_S1 to_S1 hl.1 dX1_takenBlock_56 dX1_takenBlock_59 dX1_takenBlock_60 dX1_takenBlock_62 dX1_takenBlock_65 ⟨by decide, by decide, by decide, by decide⟩
        · refine lv_lload_n hx hb dX1_takenBlock_24 rfl (lv_at hl 1 rfl) ?_
          refine lv_ldc2 (v := lN 8) hx hb hown (hts (.constantLong RX1 72 (lN 8)) (by decide +kernel)) dX1_takenBlock_25 ?_
          refine hn_ladd (v := lN (x + 8)) hx hb dX1_takenBlock_28 (lN_add _ _) ?_
          refine lv_lload_n hx hb dX1_takenBlock_29 rfl (lv_at hl 3 rfl) ?_
          refine hn_lne (a := (x + 8)) (b := a) (tgt := 44) hx hb (by omega) (by omega) dX1_takenBlock_30 dX1_takenBlock_31 (by decide) (fun hc3 => ?_) (fun hc3 => ?_)
          · rw [if_pos hc2, if_neg (fun z => hc3 z.1)] at hq
            refine lv_aload_n hx hb dX1_takenBlock_44 rfl (lv_at hl 2 rfl) ?_
            refine lv_lload_n hx hb dX1_takenBlock_45 rfl (lv_at hl 1 rfl) ?_
            refine hx_callV (rest := []) (n := 1) S hw (c_next l hst D tys cJ ht h0 h1 h2 u x ⟨by omega, by omega⟩) gX1_takenBlock_X1_next rfl (by decide +kernel) rfl ⟨Nat.le_of_ble_eq_true rfl, Nat.le_of_ble_eq_true rfl⟩ 0 1 rfl rfl hc_adr hl.1 rfl (Nat.le_of_ble_eq_true rfl) ⟨by decide, by decide⟩ dX1_takenBlock_46 (fun H locs hw => ?_)
            refine W.eq (g2 := F0 m 49 ls [.long (lN (x + 8 + ph_n u.1 x))]) rfl ?_
            refine lv_lstore_n (lv' := [(3, .long (lN (x + 8 + ph_n u.1 x))), (5, .int (nI k)), (0, .ref h0), (1, .long (lN a))]) hx hb dX1_takenBlock_49 rfl hl (by decide) rfl (fun ls hl => ?_)
            refine lv_iinc (v := nI (k + 1)) (lv' := [(5, .int (nI (k + 1))), (3, .long (lN (x + 8 + ph_n u.1 x))), (0, .ref h0), (1, .long (lN a))]) hx hb dX1_takenBlock_50 hl (k := 1) rfl (nI_add _ _) (by decide) rfl (fun ls hl => ?_)
            refine lv_goto (tgt := 7) hx hb dX1_takenBlock_53 (by decide) ?_
            exact ih (k + 1) x (x + 8 + ph_n u.1 x) _ _ _ (by omega) (by omega) (by omega) hw (lv_sub hl [0, 1, 2, 3] rfl) hq
          · refine lv_aload_n hx hb dX1_takenBlock_34 rfl (lv_at hl 2 rfl) ?_
            refine lv_lload_n hx hb dX1_takenBlock_35 rfl (lv_at hl 1 rfl) ?_
            refine hx_callV (rest := []) (n := 1) S hw (c_isTaken l hst D tys cJ ht h0 h1 h2 u x ⟨by omega, by omega⟩) gX1_takenBlock_X1_isTaken rfl (by decide +kernel) rfl ⟨Nat.le_of_ble_eq_true rfl, Nat.le_of_ble_eq_true rfl⟩ 0 1 rfl rfl hc_adr hl.1 rfl (Nat.le_of_ble_eq_true rfl) ⟨by decide, by decide⟩ dX1_takenBlock_36 (fun H locs hw => ?_)
            refine W.eq (g2 := F0 m 39 ls [.int (if ph_n u.1 (x + 4) = 1 then nI 1 else nI 0)]) rfl ?_
            refine hn_peq (tgt := 44) hx hb dX1_takenBlock_39 (by decide) (fun hc4 => ?_) (fun hc4 => ?_)
            · rw [if_pos hc2, if_neg (fun z => hc4 z.2)] at hq
              refine lv_aload_n hx hb dX1_takenBlock_44 rfl (lv_at hl 2 rfl) ?_
              refine lv_lload_n hx hb dX1_takenBlock_45 rfl (lv_at hl 1 rfl) ?_
              refine hx_callV (rest := []) (n := 1) S hw (c_next l hst D tys cJ ht h0 h1 h2 u x ⟨by omega, by omega⟩) gX1_takenBlock_X1_next rfl (by decide +kernel) rfl ⟨Nat.le_of_ble_eq_true rfl, Nat.le_of_ble_eq_true rfl⟩ 0 1 rfl rfl hc_adr hl.1 rfl (Nat.le_of_ble_eq_true rfl) ⟨by decide, by decide⟩ dX1_takenBlock_46 (fun H locs hw => ?_)
              refine W.eq (g2 := F0 m 49 ls [.long (lN (x + 8 + ph_n u.1 x))]) rfl ?_
              refine lv_lstore_n (lv' := [(3, .long (lN (x + 8 + ph_n u.1 x))), (5, .int (nI k)), (0, .ref h0), (1, .long (lN a))]) hx hb dX1_takenBlock_49 rfl hl (by decide) rfl (fun ls hl => ?_)
              refine lv_iinc (v := nI (k + 1)) (lv' := [(5, .int (nI (k + 1))), (3, .long (lN (x + 8 + ph_n u.1 x))), (0, .ref h0), (1, .long (lN a))]) hx hb dX1_takenBlock_50 hl (k := 1) rfl (nI_add _ _) (by decide) rfl (fun ls hl => ?_)
              refine lv_goto (tgt := 7) hx hb dX1_takenBlock_53 (by decide) ?_
              exact ih (k + 1) x (x + 8 + ph_n u.1 x) _ _ _ (by omega) (by omega) (by omega) hw (lv_sub hl [0, 1, 2, 3] rfl) hq
            · rw [if_pos hc2, if_pos ⟨hc3, hc4⟩] at hq
              cases hq
  exact loop 8064 0 0 1024 _ _ _ rfl (by decide) (by decide) hw (lv_sub hl [0, 1, 2, 3] rfl) hq0
set_option maxHeartbeats 4000000 in
set_option maxRecDepth 100000 in
theorem c_blockBefore (l : Launch) (hst : l.stackTraces = false) (D : va_G) (tys : List (ClassId × FieldType)) (cJ : ClassId) (ht : tys[0]? = some (cJ, .long)) (h0 h1 h2 : Nat) (u : ph_H) (z r : Nat) (hz : z ≤ 61440) (hq0 : ph_bb u.1 z 8064 0 1024 = r) : hx_R l D tys yX1_blockBefore wsX1_blockBefore 9 151 [.ref h0, .long (lN z)] (hc_W cJ h0 h1 h2 u) (hc_W cJ h0 h1 h2 u) (some (.long (lN r))) := by
  refine hx_R.ofW (cc := cX1_blockBefore) (maxL := 8) (ret := (some .long)) (by decide) rfl (Nat.le_of_ble_eq_true rfl) ?_
  intro p e s m below meth c A ls hr S hw hl
  have S : hx_S p l s m _ meth c cX1_blockBefore 8 wsX1_blockBefore RX1 A D tys := S
  obtain ⟨⟨hx, hb, hml, hown, hts⟩, hK, hA, hE, hlk⟩ := id S
  have hi1 : ∀ w ∈ wsX10, w ∈ wsX1_blockBefore := by decide +kernel
  have hl : lv_has ls 8 [(0, .ref h0), (1, .long (lN z))] := hl
  refine lv_lconst (v := lN 0) hx hb dX1_blockBefore_0 (by decide +kernel) ?_
  refine lv_lstore_n (lv' := [(3, .long (lN 0)), (0, .ref h0), (1, .long (lN z))]) hx hb dX1_blockBefore_1 rfl hl (by decide) rfl (fun ls hl => ?_)
  refine lv_ldc2 (v := lN 1024) hx hb hown (hts (.constantLong RX1 16 (lN 1024)) (by decide +kernel)) dX1_blockBefore_2 ?_
  refine lv_lstore (lv' := [(5, .long (lN 1024)), (3, .long (lN 0)), (0, .ref h0), (1, .long (lN z))]) hx hb dX1_blockBefore_5 hl (by decide) rfl (fun ls hl => ?_)
  refine lv_iconst (v := nI 0) hx hb dX1_blockBefore_7 (by decide +kernel) ?_
  refine lv_istore (lv' := [(7, .int (nI 0)), (5, .long (lN 1024)), (3, .long (lN 0)), (0, .ref h0), (1, .long (lN z))]) hx hb dX1_blockBefore_8 hl (by decide) rfl (fun ls hl => ?_)
  have loop : ∀ (f k pv x : Nat) (H : Heap) (locs : List Loc) (ls : Array Slot), k + f = 8064 → 1024 ≤ x → x < 17179869184 → hx_w D A s.heap (hc_W cJ h0 h1 h2 u) H locs → lv_has ls 8 [(7, .int (nI k)), (5, .long (lN x)), (3, .long (lN pv)), (0, .ref h0), (1, .long (lN z))] → ph_bb u.1 z f pv x = r → W p l e { frames := 9, cells := 0, slots := 0, locals := 151 } s m ([.ref h0, .long (lN z)] : List Value).toArray below meth c H locs 0 0 (MQ below (hx_Q D A (hc_W cJ h0 h1 h2 u) (some (.long (lN r)))) ([.ref h0, .long (lN z)] : List Value).toArray s 0 0 A) (F0 m 10 ls []) := by
    intro f
    induction f with
    | zero =>
      intro k pv x H locs ls hk gb1 gb2 hw hl hq
      refine lv_iload hx hb dX1_blockBefore_10 (lv_at hl 0 rfl) ?_
      refine lv_sipush (v := nI 8064) hx hb dX1_blockBefore_12 (by decide +kernel) ?_
      refine hn_ige (a := k) (b := 8064) (tgt := 42) hx hb (by omega) (by omega) dX1_blockBefore_15 (by decide) (fun hc => ?_) (fun hc => ?_)
      · subst hq
        refine lv_lload_n hx hb dX1_blockBefore_42 rfl (lv_at hl 2 rfl) ?_
        exact hx_lret S hr hw dX1_blockBefore_43
      · exact absurd hc (by omega)
    | succ f ih =>
      intro k pv x H locs ls hk gb1 gb2 hw hl hq
      have gn := ph_n_lt u.1 x
      unfold ph_bb at hq
      refine lv_iload hx hb dX1_blockBefore_10 (lv_at hl 0 rfl) ?_
      refine lv_sipush (v := nI 8064) hx hb dX1_blockBefore_12 (by decide +kernel) ?_
      refine hn_ige (a := k) (b := 8064) (tgt := 42) hx hb (by omega) (by omega) dX1_blockBefore_15 (by decide) (fun hc => ?_) (fun hc => ?_)
      · exact absurd hc (by omega)
      · refine lv_lload hx hb dX1_blockBefore_18 (lv_at hl 1 rfl) ?_
        refine lv_lload_n hx hb dX1_blockBefore_20 rfl (lv_at hl 4 rfl) ?_
        refine hn_lge (a := x) (b := z) (tgt := 42) hx hb (by omega) (by omega) dX1_blockBefore_21 dX1_blockBefore_22 (by decide) (fun hc2 => ?_) (fun hc2 => ?_)
        · rw [if_neg (by omega)] at hq
          subst hq
          refine lv_lload_n hx hb dX1_blockBefore_42 rfl (lv_at hl 2 rfl) ?_
          exact hx_lret S hr hw dX1_blockBefore_43
        · rw [if_pos hc2] at hq
          refine lv_lload hx hb dX1_blockBefore_25 (lv_at hl 1 rfl) ?_
          refine lv_lstore_n (lv' := [(3, .long (lN x)), (7, .int (nI k)), (5, .long (lN x)), (0, .ref h0), (1, .long (lN z))]) hx hb dX1_blockBefore_27 rfl hl (by decide) rfl (fun ls hl => ?_)
          refine lv_aload_n hx hb dX1_blockBefore_28 rfl (lv_at hl 3 rfl) ?_
          refine lv_lload hx hb dX1_blockBefore_29 (lv_at hl 2 rfl) ?_
          refine hx_callV (rest := []) (n := 1) S hw (c_next l hst D tys cJ ht h0 h1 h2 u x ⟨by omega, by omega⟩) gX1_blockBefore_X1_next rfl (by decide +kernel) rfl ⟨Nat.le_of_ble_eq_true rfl, Nat.le_of_ble_eq_true rfl⟩ 0 1 rfl rfl hc_adr hl.1 rfl (Nat.le_of_ble_eq_true rfl) ⟨by decide, by decide⟩ dX1_blockBefore_31 (fun H locs hw => ?_)
          refine W.eq (g2 := F0 m 34 ls [.long (lN (x + 8 + ph_n u.1 x))]) rfl ?_
          refine lv_lstore (lv' := [(5, .long (lN (x + 8 + ph_n u.1 x))), (3, .long (lN x)), (7, .int (nI k)), (0, .ref h0), (1, .long (lN z))]) hx hb dX1_blockBefore_34 hl (by decide) rfl (fun ls hl => ?_)
          refine lv_iinc (v := nI (k + 1)) (lv' := [(7, .int (nI (k + 1))), (5, .long (lN (x + 8 + ph_n u.1 x))), (3, .long (lN x)), (0, .ref h0), (1, .long (lN z))]) hx hb dX1_blockBefore_36 hl (k := 2) rfl (nI_add _ _) (by decide) rfl (fun ls hl => ?_)
          refine lv_goto (tgt := 10) hx hb dX1_blockBefore_39 (by decide) ?_
          exact ih (k + 1) x (x + 8 + ph_n u.1 x) _ _ _ (by omega) (by omega) (by omega) hw (lv_sub hl [0, 1, 2, 3, 4] rfl) hq
  exact loop 8064 0 0 1024 _ _ _ rfl (by decide) (by decide) hw (lv_sub hl [0, 1, 2, 3, 4] rfl) hq0
set_option maxHeartbeats 4000000 in
set_option maxRecDepth 100000 in
theorem c_clear (l : Launch) (hst : l.stackTraces = false) (D : va_G) (tys : List (ClassId × FieldType)) (cJ : ClassId) (ht : tys[0]? = some (cJ, .long)) (h0 h1 h2 : Nat) (u : ph_H) (a n : Nat) (M2 : ph_M) (ha : a < 4294967296) (hn : n < 4294967296) (hq0 : ph_clr n u.1 a = (true, M2)) : hx_R l D tys yX1_clear wsX1_clear 7 108 [.ref h0, .long (lN a), .long (lN n)] (hc_W cJ h0 h1 h2 u) (hc_W cJ h0 h1 h2 (M2, u.2)) (none) := by
  refine hx_R.ofW (cc := cX1_clear) (maxL := 7) (ret := none) (by decide) rfl (Nat.le_of_ble_eq_true rfl) ?_
  intro p e s m below meth c A ls hr S hw hl
  have S : hx_S p l s m _ meth c cX1_clear 7 wsX1_clear RX1 A D tys := S
  obtain ⟨⟨hx, hb, hml, hown, hts⟩, hK, hA, hE, hlk⟩ := id S
  have hi1 : ∀ w ∈ wsX10, w ∈ wsX1_clear := by decide +kernel
  have hl : lv_has ls 7 [(0, .ref h0), (1, .long (lN a)), (3, .long (lN n))] := hl
  refine lv_lconst (v := lN 0) hx hb dX1_clear_0 (by decide +kernel) ?_
  refine lv_lstore (lv' := [(5, .long (lN 0)), (0, .ref h0), (1, .long (lN a)), (3, .long (lN n))]) hx hb dX1_clear_1 hl (by decide) rfl (fun ls hl => ?_)
  have loop : ∀ (f k : Nat) (M : ph_M) (H : Heap) (locs : List Loc) (ls : Array Slot), k + f = n → hx_w D A s.heap (hc_W cJ h0 h1 h2 (M, u.2)) H locs → lv_has ls 7 [(5, .long (lN k)), (0, .ref h0), (1, .long (lN a)), (3, .long (lN n))] → ph_clr f M (a + k) = (true, M2) → W p l e { frames := 7, cells := 0, slots := 0, locals := 108 } s m ([.ref h0, .long (lN a), .long (lN n)] : List Value).toArray below meth c H locs 0 0 (MQ below (hx_Q D A (hc_W cJ h0 h1 h2 (M2, u.2)) (none)) ([.ref h0, .long (lN a), .long (lN n)] : List Value).toArray s 0 0 A) (F0 m 3 ls []) := by
    intro f
    induction f with
    | zero =>
      intro k M H locs ls hk hw hl hq
      cases hq
      refine lv_lload hx hb dX1_clear_3 (lv_at hl 0 rfl) ?_
      refine lv_lload_n hx hb dX1_clear_5 rfl (lv_at hl 3 rfl) ?_
      refine hn_lge (a := k) (b := n) (tgt := 31) hx hb (by omega) (by omega) dX1_clear_6 dX1_clear_7 (by decide) (fun hc => ?_) (fun hc => ?_)
      · exact hx_vret S hr hw dX1_clear_31
      · exact absurd hc (by omega)
    | succ f ih =>
      intro k M H locs ls hk hw hl hq
      unfold ph_clr at hq
      refine lv_lload hx hb dX1_clear_3 (lv_at hl 0 rfl) ?_
      refine lv_lload_n hx hb dX1_clear_5 rfl (lv_at hl 3 rfl) ?_
      refine hn_lge (a := k) (b := n) (tgt := 31) hx hb (by omega) (by omega) dX1_clear_6 dX1_clear_7 (by decide) (fun hc => ?_) (fun hc => ?_)
      · exact absurd hc (by omega)
      · refine lv_aload_n hx hb dX1_clear_10 rfl (lv_at hl 1 rfl) ?_
        refine va_get (D := D) (ci := 1) (v := .ref h1) (C := RX1) (T := TX1) (N := 3) hx hb hts hi1 hown hK hw.1 0 rfl rfl 0 (by decide) (hts (.fieldLink RX1 12 "HeapRow" "memory" "LHeapRow$Memory;") (by decide +kernel)) (fun _ h9 => h9) rfl dX1_clear_11 ?_
        refine lv_lload_n hx hb dX1_clear_14 rfl (lv_at hl 2 rfl) ?_
        refine lv_lload hx hb dX1_clear_15 (lv_at hl 0 rfl) ?_
        refine hn_ladd (v := lN (a + k)) hx hb dX1_clear_17 (lN_add _ _) ?_
        refine lv_lconst (v := lN 0) hx hb dX1_clear_18 (by decide +kernel) ?_
        by_cases hin : ph_in (a + k)
        · rw [if_pos hin] at hq
          refine hx_callV (rest := []) (n := 2) S hw (c_writeN l hst D tys cJ ht h0 h1 h2 (M, u.2) (a + k) 0 (by decide) hin) gX1_clear_X0_write rfl (by decide +kernel) rfl ⟨Nat.le_of_ble_eq_true rfl, Nat.le_of_ble_eq_true rfl⟩ 1 0 rfl rfl hc_adr hl.1 rfl (Nat.le_of_ble_eq_true rfl) ⟨by decide, by decide⟩ dX1_clear_19 (fun H locs hw => ?_)
          refine W.eq (g2 := F0 m 22 ls []) rfl ?_
          refine lv_lload hx hb dX1_clear_22 (lv_at hl 0 rfl) ?_
          refine lv_lconst (v := lN 1) hx hb dX1_clear_24 (by decide +kernel) ?_
          refine hn_ladd (v := lN (k + 1)) hx hb dX1_clear_25 (lN_add _ _) ?_
          refine lv_lstore (lv' := [(5, .long (lN (k + 1))), (0, .ref h0), (1, .long (lN a)), (3, .long (lN n))]) hx hb dX1_clear_26 hl (by decide) rfl (fun ls hl => ?_)
          refine lv_goto (tgt := 3) hx hb dX1_clear_28 (by decide) ?_
          exact ih (k + 1) _ _ _ _ (by omega) hw (lv_sub hl [0, 1, 2, 3] rfl) hq
        · rw [if_neg hin] at hq
          cases hq
  exact loop n 0 _ _ _ _ (by omega) hw (lv_sub hl [0, 1, 2, 3] rfl) hq0
set_option maxHeartbeats 4000000 in
set_option maxRecDepth 100000 in
theorem x_clear (l : Launch) (hst : l.stackTraces = false) (D : va_G) (tys : List (ClassId × FieldType)) (cJ : ClassId) (ht : tys[0]? = some (cJ, .long)) (h0 h1 h2 : Nat) (u : ph_H) (a n : Nat) (M2 : ph_M) (ha : a < 4294967296) (hn : n < 4294967296) (hq0 : ph_clr n u.1 a = (false, M2)) : hx_X l D tys yX1_clear wsX1_clear 7 108 [.ref h0, .long (lN a), .long (lN n)] (hc_W cJ h0 h1 h2 u) (hc_W cJ h0 h1 h2 (M2, u.2)) := by
  refine hx_X.ofW (cc := cX1_clear) (maxL := 7) (ret := none) (by decide) rfl (Nat.le_of_ble_eq_true rfl) ?_
  intro p e s m below meth c A ls hr S hno hw hl
  have S : hx_S p l s m _ meth c cX1_clear 7 wsX1_clear RX1 A D tys := S
  obtain ⟨⟨hx, hb, hml, hown, hts⟩, hK, hA, hE, hlk⟩ := id S
  have hi1 : ∀ w ∈ wsX10, w ∈ wsX1_clear := by decide +kernel
  have hl : lv_has ls 7 [(0, .ref h0), (1, .long (lN a)), (3, .long (lN n))] := hl
  refine lv_lconst (v := lN 0) hx hb dX1_clear_0 (by decide +kernel) ?_
  refine lv_lstore (lv' := [(5, .long (lN 0)), (0, .ref h0), (1, .long (lN a)), (3, .long (lN n))]) hx hb dX1_clear_1 hl (by decide) rfl (fun ls hl => ?_)
  have loop : ∀ (f k : Nat) (M : ph_M) (H : Heap) (locs : List Loc) (ls : Array Slot), k + f = n → hx_w D A s.heap (hc_W cJ h0 h1 h2 (M, u.2)) H locs → lv_has ls 7 [(5, .long (lN k)), (0, .ref h0), (1, .long (lN a)), (3, .long (lN n))] → ph_clr f M (a + k) = (false, M2) → W p l e { frames := 7, cells := 1, slots := 6, locals := 108 } s m ([.ref h0, .long (lN a), .long (lN n)] : List Value).toArray below meth c H locs 0 0 (vx_MQ below hx_no (hx_XC D A (hc_W cJ h0 h1 h2 (M2, u.2))) ([.ref h0, .long (lN a), .long (lN n)] : List Value).toArray s 1 6 A) (F0 m 3 ls []) := by
    intro f
    induction f with
    | zero =>
      intro k M H locs ls hk hw hl hq
      cases hq
    | succ f ih =>
      intro k M H locs ls hk hw hl hq
      unfold ph_clr at hq
      refine lv_lload hx hb dX1_clear_3 (lv_at hl 0 rfl) ?_
      refine lv_lload_n hx hb dX1_clear_5 rfl (lv_at hl 3 rfl) ?_
      refine hn_lge (a := k) (b := n) (tgt := 31) hx hb (by omega) (by omega) dX1_clear_6 dX1_clear_7 (by decide) (fun hc => ?_) (fun hc => ?_)
      · exact absurd hc (by omega)
      · refine lv_aload_n hx hb dX1_clear_10 rfl (lv_at hl 1 rfl) ?_
        refine va_get (D := D) (ci := 1) (v := .ref h1) (C := RX1) (T := TX1) (N := 3) hx hb hts hi1 hown hK hw.1 0 rfl rfl 0 (by decide) (hts (.fieldLink RX1 12 "HeapRow" "memory" "LHeapRow$Memory;") (by decide +kernel)) (fun _ h9 => h9) rfl dX1_clear_11 ?_
        refine lv_lload_n hx hb dX1_clear_14 rfl (lv_at hl 2 rfl) ?_
        refine lv_lload hx hb dX1_clear_15 (lv_at hl 0 rfl) ?_
        refine hn_ladd (v := lN (a + k)) hx hb dX1_clear_17 (lN_add _ _) ?_
        refine lv_lconst (v := lN 0) hx hb dX1_clear_18 (by decide +kernel) ?_
        by_cases hin : ph_in (a + k)
        · rw [if_pos hin] at hq
          refine hx_callV (rest := []) (n := 2) S hw (c_writeN l hst D tys cJ ht h0 h1 h2 (M, u.2) (a + k) 0 (by decide) hin) gX1_clear_X0_write rfl (by decide +kernel) rfl ⟨Nat.le_of_ble_eq_true rfl, Nat.le_of_ble_eq_true rfl⟩ 1 0 rfl rfl hc_adr hl.1 rfl (Nat.le_of_ble_eq_true rfl) ⟨by decide, by decide⟩ dX1_clear_19 (fun H locs hw => ?_)
          refine W.eq (g2 := F0 m 22 ls []) rfl ?_
          refine lv_lload hx hb dX1_clear_22 (lv_at hl 0 rfl) ?_
          refine lv_lconst (v := lN 1) hx hb dX1_clear_24 (by decide +kernel) ?_
          refine hn_ladd (v := lN (k + 1)) hx hb dX1_clear_25 (lN_add _ _) ?_
          refine lv_lstore (lv' := [(5, .long (lN (k + 1))), (0, .ref h0), (1, .long (lN a)), (3, .long (lN n))]) hx hb dX1_clear_26 hl (by decide) rfl (fun ls hl => ?_)
          refine lv_goto (tgt := 3) hx hb dX1_clear_28 (by decide) ?_
          exact ih (k + 1) _ _ _ _ (by omega) hw (lv_sub hl [0, 1, 2, 3] rfl) hq
        · rw [if_neg hin] at hq
          cases hq
          exact hx_thr (rest := []) (n := 2) S hno hw (x_write l hst D tys cJ ht h0 h1 h2 (M2, u.2) (a + k) (lN 0) (by omega) hin) gX1_clear_X0_write rfl (by decide +kernel) rfl ⟨Nat.le_of_ble_eq_true rfl, Nat.le_of_ble_eq_true rfl⟩ 1 0 rfl rfl hc_adr hl.1 rfl (Nat.le_of_ble_eq_true rfl) ⟨by decide, by decide⟩ dX1_clear_19
  exact loop n 0 _ _ _ _ (by omega) hw (lv_sub hl [0, 1, 2, 3] rfl) hq0
set_option maxHeartbeats 4000000 in
set_option maxRecDepth 100000 in
theorem c_copy (l : Launch) (hst : l.stackTraces = false) (D : va_G) (tys : List (ClassId × FieldType)) (cJ : ClassId) (ht : tys[0]? = some (cJ, .long)) (h0 h1 h2 : Nat) (u : ph_H) (a t n : Nat) (M2 : ph_M) (ha : a < 4294967296) (hta : t < 4294967296) (hn : n < 4294967296) (hq0 : ph_cpy n u.1 a t = (true, M2)) : hx_R l D tys yX1_copy wsX1_copy 7 108 [.ref h0, .long (lN a), .long (lN t), .long (lN n)] (hc_W cJ h0 h1 h2 u) (hc_W cJ h0 h1 h2 (M2, u.2)) (none) := by
  refine hx_R.ofW (cc := cX1_copy) (maxL := 9) (ret := none) (by decide) rfl (Nat.le_of_ble_eq_true rfl) ?_
  intro p e s m below meth c A ls hr S hw hl
  have S : hx_S p l s m _ meth c cX1_copy 9 wsX1_copy RX1 A D tys := S
  obtain ⟨⟨hx, hb, hml, hown, hts⟩, hK, hA, hE, hlk⟩ := id S
  have hi1 : ∀ w ∈ wsX10, w ∈ wsX1_copy := by decide +kernel
  have hl : lv_has ls 9 [(0, .ref h0), (1, .long (lN a)), (3, .long (lN t)), (5, .long (lN n))] := hl
  refine lv_lconst (v := lN 0) hx hb dX1_copy_0 (by decide +kernel) ?_
  refine lv_lstore (lv' := [(7, .long (lN 0)), (0, .ref h0), (1, .long (lN a)), (3, .long (lN t)), (5, .long (lN n))]) hx hb dX1_copy_1 hl (by decide) rfl (fun ls hl => ?_)
  have loop : ∀ (f k : Nat) (M : ph_M) (H : Heap) (locs : List Loc) (ls : Array Slot), k + f = n → hx_w D A s.heap (hc_W cJ h0 h1 h2 (M, u.2)) H locs → lv_has ls 9 [(7, .long (lN k)), (0, .ref h0), (1, .long (lN a)), (3, .long (lN t)), (5, .long (lN n))] → ph_cpy f M (a + k) (t + k) = (true, M2) → W p l e { frames := 7, cells := 0, slots := 0, locals := 108 } s m ([.ref h0, .long (lN a), .long (lN t), .long (lN n)] : List Value).toArray below meth c H locs 0 0 (MQ below (hx_Q D A (hc_W cJ h0 h1 h2 (M2, u.2)) (none)) ([.ref h0, .long (lN a), .long (lN t), .long (lN n)] : List Value).toArray s 0 0 A) (F0 m 3 ls []) := by
    intro f
    induction f with
    | zero =>
      intro k M H locs ls hk hw hl hq
      cases hq
      refine lv_lload hx hb dX1_copy_3 (lv_at hl 0 rfl) ?_
      refine lv_lload hx hb dX1_copy_5 (lv_at hl 4 rfl) ?_
      refine hn_lge (a := k) (b := n) (tgt := 43) hx hb (by omega) (by omega) dX1_copy_7 dX1_copy_8 (by decide) (fun hc => ?_) (fun hc => ?_)
      · exact hx_vret S hr hw dX1_copy_43
      · exact absurd hc (by omega)
    | succ f ih =>
      intro k M H locs ls hk hw hl hq
      unfold ph_cpy at hq
      have gb := ph_b_lt M (a + k)
      refine lv_lload hx hb dX1_copy_3 (lv_at hl 0 rfl) ?_
      refine lv_lload hx hb dX1_copy_5 (lv_at hl 4 rfl) ?_
      refine hn_lge (a := k) (b := n) (tgt := 43) hx hb (by omega) (by omega) dX1_copy_7 dX1_copy_8 (by decide) (fun hc => ?_) (fun hc => ?_)
      · exact absurd hc (by omega)
      · refine lv_aload_n hx hb dX1_copy_11 rfl (lv_at hl 1 rfl) ?_
        refine va_get (D := D) (ci := 1) (v := .ref h1) (C := RX1) (T := TX1) (N := 3) hx hb hts hi1 hown hK hw.1 0 rfl rfl 0 (by decide) (hts (.fieldLink RX1 12 "HeapRow" "memory" "LHeapRow$Memory;") (by decide +kernel)) (fun _ h9 => h9) rfl dX1_copy_12 ?_
        refine lv_lload_n hx hb dX1_copy_15 rfl (lv_at hl 3 rfl) ?_
        refine lv_lload hx hb dX1_copy_16 (lv_at hl 0 rfl) ?_
        refine hn_ladd (v := lN (t + k)) hx hb dX1_copy_18 (lN_add _ _) ?_
        refine lv_aload_n hx hb dX1_copy_19 rfl (lv_at hl 1 rfl) ?_
        refine va_get (D := D) (ci := 1) (v := .ref h1) (C := RX1) (T := TX1) (N := 3) hx hb hts hi1 hown hK hw.1 0 rfl rfl 0 (by decide) (hts (.fieldLink RX1 12 "HeapRow" "memory" "LHeapRow$Memory;") (by decide +kernel)) (fun _ h9 => h9) rfl dX1_copy_20 ?_
        refine lv_lload_n hx hb dX1_copy_23 rfl (lv_at hl 2 rfl) ?_
        refine lv_lload hx hb dX1_copy_24 (lv_at hl 0 rfl) ?_
        refine hn_ladd (v := lN (a + k)) hx hb dX1_copy_26 (lN_add _ _) ?_
        by_cases hin : ph_in (a + k)
        · rw [if_pos hin] at hq
          refine hx_callV (rest := [.long (lN (t + k)), .ref h1]) (n := 1) S hw (c_read l hst D tys cJ ht h0 h1 h2 (M, u.2) (a + k) hin) gX1_copy_X0_read rfl (by decide +kernel) rfl ⟨Nat.le_of_ble_eq_true rfl, Nat.le_of_ble_eq_true rfl⟩ 1 0 rfl rfl hc_adr hl.1 rfl (Nat.le_of_ble_eq_true rfl) ⟨by decide, by decide⟩ dX1_copy_27 (fun H locs hw => ?_)
          refine W.eq (g2 := F0 m 30 ls [.int (nI (ph_b M (a + k))), .long (lN (t + k)), .ref h1]) rfl ?_
          refine lv_i2l (v := lN (ph_b M (a + k))) hx hb dX1_copy_30 (nI_l (by omega)) ?_
          by_cases hin2 : ph_in (t + k)
          · rw [if_pos hin2] at hq
            refine hx_callV (rest := []) (n := 2) S hw (c_writeN l hst D tys cJ ht h0 h1 h2 (M, u.2) (t + k) (ph_b M (a + k)) (by omega) hin2) gX1_copy_X0_write rfl (by decide +kernel) rfl ⟨Nat.le_of_ble_eq_true rfl, Nat.le_of_ble_eq_true rfl⟩ 1 0 rfl rfl hc_adr hl.1 rfl (Nat.le_of_ble_eq_true rfl) ⟨by decide, by decide⟩ dX1_copy_31 (fun H locs hw => ?_)
            refine W.eq (g2 := F0 m 34 ls []) rfl ?_
            refine lv_lload hx hb dX1_copy_34 (lv_at hl 0 rfl) ?_
            refine lv_lconst (v := lN 1) hx hb dX1_copy_36 (by decide +kernel) ?_
            refine hn_ladd (v := lN (k + 1)) hx hb dX1_copy_37 (lN_add _ _) ?_
            refine lv_lstore (lv' := [(7, .long (lN (k + 1))), (0, .ref h0), (1, .long (lN a)), (3, .long (lN t)), (5, .long (lN n))]) hx hb dX1_copy_38 hl (by decide) rfl (fun ls hl => ?_)
            refine lv_goto (tgt := 3) hx hb dX1_copy_40 (by decide) ?_
            exact ih (k + 1) _ _ _ _ (by omega) hw (lv_sub hl [0, 1, 2, 3, 4] rfl) hq
          · rw [if_neg hin2] at hq
            cases hq
        · rw [if_neg hin] at hq
          cases hq
  exact loop n 0 _ _ _ _ (by omega) hw (lv_sub hl [0, 1, 2, 3, 4] rfl) hq0
set_option maxHeartbeats 4000000 in
set_option maxRecDepth 100000 in
theorem x_copy (l : Launch) (hst : l.stackTraces = false) (D : va_G) (tys : List (ClassId × FieldType)) (cJ : ClassId) (ht : tys[0]? = some (cJ, .long)) (h0 h1 h2 : Nat) (u : ph_H) (a t n : Nat) (M2 : ph_M) (ha : a < 4294967296) (hta : t < 4294967296) (hn : n < 4294967296) (hq0 : ph_cpy n u.1 a t = (false, M2)) : hx_X l D tys yX1_copy wsX1_copy 7 108 [.ref h0, .long (lN a), .long (lN t), .long (lN n)] (hc_W cJ h0 h1 h2 u) (hc_W cJ h0 h1 h2 (M2, u.2)) := by
  refine hx_X.ofW (cc := cX1_copy) (maxL := 9) (ret := none) (by decide) rfl (Nat.le_of_ble_eq_true rfl) ?_
  intro p e s m below meth c A ls hr S hno hw hl
  have S : hx_S p l s m _ meth c cX1_copy 9 wsX1_copy RX1 A D tys := S
  obtain ⟨⟨hx, hb, hml, hown, hts⟩, hK, hA, hE, hlk⟩ := id S
  have hi1 : ∀ w ∈ wsX10, w ∈ wsX1_copy := by decide +kernel
  have hl : lv_has ls 9 [(0, .ref h0), (1, .long (lN a)), (3, .long (lN t)), (5, .long (lN n))] := hl
  refine lv_lconst (v := lN 0) hx hb dX1_copy_0 (by decide +kernel) ?_
  refine lv_lstore (lv' := [(7, .long (lN 0)), (0, .ref h0), (1, .long (lN a)), (3, .long (lN t)), (5, .long (lN n))]) hx hb dX1_copy_1 hl (by decide) rfl (fun ls hl => ?_)
  have loop : ∀ (f k : Nat) (M : ph_M) (H : Heap) (locs : List Loc) (ls : Array Slot), k + f = n → hx_w D A s.heap (hc_W cJ h0 h1 h2 (M, u.2)) H locs → lv_has ls 9 [(7, .long (lN k)), (0, .ref h0), (1, .long (lN a)), (3, .long (lN t)), (5, .long (lN n))] → ph_cpy f M (a + k) (t + k) = (false, M2) → W p l e { frames := 7, cells := 1, slots := 6, locals := 108 } s m ([.ref h0, .long (lN a), .long (lN t), .long (lN n)] : List Value).toArray below meth c H locs 0 0 (vx_MQ below hx_no (hx_XC D A (hc_W cJ h0 h1 h2 (M2, u.2))) ([.ref h0, .long (lN a), .long (lN t), .long (lN n)] : List Value).toArray s 1 6 A) (F0 m 3 ls []) := by
    intro f
    induction f with
    | zero =>
      intro k M H locs ls hk hw hl hq
      cases hq
    | succ f ih =>
      intro k M H locs ls hk hw hl hq
      unfold ph_cpy at hq
      have gb := ph_b_lt M (a + k)
      refine lv_lload hx hb dX1_copy_3 (lv_at hl 0 rfl) ?_
      refine lv_lload hx hb dX1_copy_5 (lv_at hl 4 rfl) ?_
      refine hn_lge (a := k) (b := n) (tgt := 43) hx hb (by omega) (by omega) dX1_copy_7 dX1_copy_8 (by decide) (fun hc => ?_) (fun hc => ?_)
      · exact absurd hc (by omega)
      · refine lv_aload_n hx hb dX1_copy_11 rfl (lv_at hl 1 rfl) ?_
        refine va_get (D := D) (ci := 1) (v := .ref h1) (C := RX1) (T := TX1) (N := 3) hx hb hts hi1 hown hK hw.1 0 rfl rfl 0 (by decide) (hts (.fieldLink RX1 12 "HeapRow" "memory" "LHeapRow$Memory;") (by decide +kernel)) (fun _ h9 => h9) rfl dX1_copy_12 ?_
        refine lv_lload_n hx hb dX1_copy_15 rfl (lv_at hl 3 rfl) ?_
        refine lv_lload hx hb dX1_copy_16 (lv_at hl 0 rfl) ?_
        refine hn_ladd (v := lN (t + k)) hx hb dX1_copy_18 (lN_add _ _) ?_
        refine lv_aload_n hx hb dX1_copy_19 rfl (lv_at hl 1 rfl) ?_
        refine va_get (D := D) (ci := 1) (v := .ref h1) (C := RX1) (T := TX1) (N := 3) hx hb hts hi1 hown hK hw.1 0 rfl rfl 0 (by decide) (hts (.fieldLink RX1 12 "HeapRow" "memory" "LHeapRow$Memory;") (by decide +kernel)) (fun _ h9 => h9) rfl dX1_copy_20 ?_
        refine lv_lload_n hx hb dX1_copy_23 rfl (lv_at hl 2 rfl) ?_
        refine lv_lload hx hb dX1_copy_24 (lv_at hl 0 rfl) ?_
        refine hn_ladd (v := lN (a + k)) hx hb dX1_copy_26 (lN_add _ _) ?_
        by_cases hin : ph_in (a + k)
        · rw [if_pos hin] at hq
          refine hx_callV (rest := [.long (lN (t + k)), .ref h1]) (n := 1) S hw (c_read l hst D tys cJ ht h0 h1 h2 (M, u.2) (a + k) hin) gX1_copy_X0_read rfl (by decide +kernel) rfl ⟨Nat.le_of_ble_eq_true rfl, Nat.le_of_ble_eq_true rfl⟩ 1 0 rfl rfl hc_adr hl.1 rfl (Nat.le_of_ble_eq_true rfl) ⟨by decide, by decide⟩ dX1_copy_27 (fun H locs hw => ?_)
          refine W.eq (g2 := F0 m 30 ls [.int (nI (ph_b M (a + k))), .long (lN (t + k)), .ref h1]) rfl ?_
          refine lv_i2l (v := lN (ph_b M (a + k))) hx hb dX1_copy_30 (nI_l (by omega)) ?_
          by_cases hin2 : ph_in (t + k)
          · rw [if_pos hin2] at hq
            refine hx_callV (rest := []) (n := 2) S hw (c_writeN l hst D tys cJ ht h0 h1 h2 (M, u.2) (t + k) (ph_b M (a + k)) (by omega) hin2) gX1_copy_X0_write rfl (by decide +kernel) rfl ⟨Nat.le_of_ble_eq_true rfl, Nat.le_of_ble_eq_true rfl⟩ 1 0 rfl rfl hc_adr hl.1 rfl (Nat.le_of_ble_eq_true rfl) ⟨by decide, by decide⟩ dX1_copy_31 (fun H locs hw => ?_)
            refine W.eq (g2 := F0 m 34 ls []) rfl ?_
            refine lv_lload hx hb dX1_copy_34 (lv_at hl 0 rfl) ?_
            refine lv_lconst (v := lN 1) hx hb dX1_copy_36 (by decide +kernel) ?_
            refine hn_ladd (v := lN (k + 1)) hx hb dX1_copy_37 (lN_add _ _) ?_
            refine lv_lstore (lv' := [(7, .long (lN (k + 1))), (0, .ref h0), (1, .long (lN a)), (3, .long (lN t)), (5, .long (lN n))]) hx hb dX1_copy_38 hl (by decide) rfl (fun ls hl => ?_)
            refine lv_goto (tgt := 3) hx hb dX1_copy_40 (by decide) ?_
            exact ih (k + 1) _ _ _ _ (by omega) hw (lv_sub hl [0, 1, 2, 3, 4] rfl) hq
          · rw [if_neg hin2] at hq
            cases hq
            exact hx_thr (rest := []) (n := 2) S hno hw (x_write l hst D tys cJ ht h0 h1 h2 (M2, u.2) (t + k) (lN (ph_b M2 (a + k))) (by omega) hin2) gX1_copy_X0_write rfl (by decide +kernel) rfl ⟨Nat.le_of_ble_eq_true rfl, Nat.le_of_ble_eq_true rfl⟩ 1 0 rfl rfl hc_adr hl.1 rfl (Nat.le_of_ble_eq_true rfl) ⟨by decide, by decide⟩ dX1_copy_31
        · rw [if_neg hin] at hq
          cases hq
          exact hx_thr (rest := [.long (lN (t + k)), .ref h1]) (n := 1) S hno hw (x_read l hst D tys cJ ht h0 h1 h2 (M2, u.2) (a + k) (by omega) hin) gX1_copy_X0_read rfl (by decide +kernel) rfl ⟨Nat.le_of_ble_eq_true rfl, Nat.le_of_ble_eq_true rfl⟩ 1 0 rfl rfl hc_adr hl.1 rfl (Nat.le_of_ble_eq_true rfl) ⟨by decide, by decide⟩ dX1_copy_27
  exact loop n 0 _ _ _ _ (by omega) hw (lv_sub hl [0, 1, 2, 3, 4] rfl) hq0
