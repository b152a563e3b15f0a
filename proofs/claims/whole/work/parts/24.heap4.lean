/-! HeapRow: take, and the methods of the face -/
set_option maxHeartbeats 4000000 in
set_option maxRecDepth 100000 in
theorem c_take (l : Launch) (hst : l.stackTraces = false) (D : va_G) (tys : List (ClassId × FieldType)) (cJ : ClassId) (ht : tys[0]? = some (cJ, .long)) (h0 h1 h2 : Nat) (u : ph_H) (n x : Nat) (u2 : ph_H) (hu : ph_I u) (hn : n < 4294967296) (h : ph_take u n = (some x, u2)) : hx_R l D tys yX1_take wsX1_take 10 184 [.ref h0, .long (lN n)] (hc_W cJ h0 h1 h2 u) (hc_W cJ h0 h1 h2 u2) (some (.long (lN x))) := by
  refine hx_R.ofW (cc := cX1_take) (maxL := 7) (ret := (some .long)) (by decide) rfl (Nat.le_of_ble_eq_true rfl) ?_
  intro p e s m below meth c A ls hr S hw hl
  have S : hx_S p l s m _ meth c cX1_take 7 wsX1_take RX1 A D tys := S
  obtain ⟨⟨hx, hb, hml, hown, hts⟩, hK, hA, hE, hlk⟩ := id S
  have hi1 : ∀ w ∈ wsX10, w ∈ wsX1_take := by decide +kernel
  have hl : lv_has ls 7 [(0, .ref h0), (1, .long (lN n))] := hl
  have hu2 := hu
  obtain ⟨i1, i2, i3, i4⟩ := hu2
  have gu := ph_up_ge n
  have gu2 := ph_up_lt hn
  unfold ph_take at h
  cases hq : ph_ff u.1 u.2.1 (ph_up n) 8064 1024 with
  | some b =>
    rw [hq] at h
    dsimp only at h
    obtain ⟨f1, f2, f3, f4⟩ := ph_ff_some _ _ hq
    have gn := ph_n_lt u.1 b
    by_cases k1 : ph_n u.1 b < ph_up n + 16
    · rw [if_pos k1] at h
      cases h
      refine lv_lload_n hx hb dX1_take_0 rfl (lv_at hl 1 rfl) ?_
      refine hx_callS (rest := []) (n := 1) S hw (c_rounded l hst D tys cJ ht h0 h1 h2 u n (by omega)) gX1_take_X1_rounded rfl (by decide +kernel) rfl ⟨Nat.le_of_ble_eq_true rfl, Nat.le_of_ble_eq_true rfl⟩ hc_adr hl.1 rfl (Nat.le_of_ble_eq_true rfl) ⟨by decide, by decide⟩ dX1_take_1 (fun H locs hw => ?_)
      refine W.eq (g2 := F0 m 4 ls [.long (lN (ph_up n))]) rfl ?_
      refine lv_lstore_n (lv' := [(3, .long (lN (ph_up n))), (0, .ref h0), (1, .long (lN n))]) hx hb dX1_take_4 rfl hl (by decide) rfl (fun ls hl => ?_)
      refine lv_aload_n hx hb dX1_take_5 rfl (lv_at hl 1 rfl) ?_
      refine lv_lload_n hx hb dX1_take_6 rfl (lv_at hl 0 rfl) ?_
      refine hx_callV (rest := []) (n := 1) S hw (c_firstFree l hst D tys cJ ht h0 h1 h2 u (ph_up n) (some b) hu (by omega) hq) gX1_take_X1_firstFree rfl (by decide +kernel) rfl ⟨Nat.le_of_ble_eq_true rfl, Nat.le_of_ble_eq_true rfl⟩ 0 1 rfl rfl hc_adr hl.1 rfl (Nat.le_of_ble_eq_true rfl) ⟨by decide, by decide⟩ dX1_take_7 (fun H locs hw => ?_)
      refine W.eq (g2 := F0 m 10 ls [.long (lN b)]) rfl ?_
      refine lv_lstore (lv' := [(5, .long (lN b)), (3, .long (lN (ph_up n))), (0, .ref h0), (1, .long (lN n))]) hx hb dX1_take_10 hl (by decide) rfl (fun ls hl => ?_)
      refine lv_lload hx hb dX1_take_12 (lv_at hl 0 rfl) ?_
      refine lv_lconst (v := lN 0) hx hb dX1_take_14 (by decide +kernel) ?_
      refine hn_leq (a := b) (b := 0) (tgt := 33) hx hb (by omega) (by omega) dX1_take_15 dX1_take_16 (by decide) (fun hc => ?_) (fun hc => ?_)
      · exact absurd hc (by omega)
      · refine lv_aload_n hx hb dX1_take_19 rfl (lv_at hl 2 rfl) ?_
        refine lv_lload hx hb dX1_take_20 (lv_at hl 0 rfl) ?_
        refine lv_lload_n hx hb dX1_take_22 rfl (lv_at hl 1 rfl) ?_
        refine hx_callV (rest := []) (n := 2) S hw (c_takeFree1 l hst D tys cJ ht h0 h1 h2 u b (ph_up n) (by omega) (by omega) f4 k1) gX1_take_X1_takeFree rfl (by decide +kernel) rfl ⟨Nat.le_of_ble_eq_true rfl, Nat.le_of_ble_eq_true rfl⟩ 0 1 rfl rfl hc_adr hl.1 rfl (Nat.le_of_ble_eq_true rfl) ⟨by decide, by decide⟩ dX1_take_23 (fun H locs hw => ?_)
        refine W.eq (g2 := F0 m 26 ls []) rfl ?_
        refine lv_lload hx hb dX1_take_26 (lv_at hl 0 rfl) ?_
        refine lv_ldc2 (v := lN 8) hx hb hown (hts (.constantLong RX1 72 (lN 8)) (by decide +kernel)) dX1_take_28 ?_
        refine hn_ladd (v := lN (b + 8)) hx hb dX1_take_31 (lN_add _ _) ?_
        exact hx_lret S hr hw dX1_take_32
    · rw [if_neg k1] at h
      by_cases k2 : (ph_wh u.1 (b + 8 + ph_up n) (ph_n u.1 b - ph_up n - 8) 0).1 = true
      · rw [if_pos k2] at h
        cases h
        refine lv_lload_n hx hb dX1_take_0 rfl (lv_at hl 1 rfl) ?_
        refine hx_callS (rest := []) (n := 1) S hw (c_rounded l hst D tys cJ ht h0 h1 h2 u n (by omega)) gX1_take_X1_rounded rfl (by decide +kernel) rfl ⟨Nat.le_of_ble_eq_true rfl, Nat.le_of_ble_eq_true rfl⟩ hc_adr hl.1 rfl (Nat.le_of_ble_eq_true rfl) ⟨by decide, by decide⟩ dX1_take_1 (fun H locs hw => ?_)
        refine W.eq (g2 := F0 m 4 ls [.long (lN (ph_up n))]) rfl ?_
        refine lv_lstore_n (lv' := [(3, .long (lN (ph_up n))), (0, .ref h0), (1, .long (lN n))]) hx hb dX1_take_4 rfl hl (by decide) rfl (fun ls hl => ?_)
        refine lv_aload_n hx hb dX1_take_5 rfl (lv_at hl 1 rfl) ?_
        refine lv_lload_n hx hb dX1_take_6 rfl (lv_at hl 0 rfl) ?_
        refine hx_callV (rest := []) (n := 1) S hw (c_firstFree l hst D tys cJ ht h0 h1 h2 u (ph_up n) (some b) hu (by omega) hq) gX1_take_X1_firstFree rfl (by decide +kernel) rfl ⟨Nat.le_of_ble_eq_true rfl, Nat.le_of_ble_eq_true rfl⟩ 0 1 rfl rfl hc_adr hl.1 rfl (Nat.le_of_ble_eq_true rfl) ⟨by decide, by decide⟩ dX1_take_7 (fun H locs hw => ?_)
        refine W.eq (g2 := F0 m 10 ls [.long (lN b)]) rfl ?_
        refine lv_lstore (lv' := [(5, .long (lN b)), (3, .long (lN (ph_up n))), (0, .ref h0), (1, .long (lN n))]) hx hb dX1_take_10 hl (by decide) rfl (fun ls hl => ?_)
        refine lv_lload hx hb dX1_take_12 (lv_at hl 0 rfl) ?_
        refine lv_lconst (v := lN 0) hx hb dX1_take_14 (by decide +kernel) ?_
        refine hn_leq (a := b) (b := 0) (tgt := 33) hx hb (by omega) (by omega) dX1_take_15 dX1_take_16 (by decide) (fun hc => ?_) (fun hc => ?_)
        · exact absurd hc (by omega)
        · refine lv_aload_n hx hb dX1_take_19 rfl (lv_at hl 2 rfl) ?_
          refine lv_lload hx hb dX1_take_20 (lv_at hl 0 rfl) ?_
          refine lv_lload_n hx hb dX1_take_22 rfl (lv_at hl 1 rfl) ?_
          refine hx_callV (rest := []) (n := 2) S hw (c_takeFree2 l hst D tys cJ ht h0 h1 h2 u b (ph_up n) (by omega) (by omega) f4 k1 k2) gX1_take_X1_takeFree rfl (by decide +kernel) rfl ⟨Nat.le_of_ble_eq_true rfl, Nat.le_of_ble_eq_true rfl⟩ 0 1 rfl rfl hc_adr hl.1 rfl (Nat.le_of_ble_eq_true rfl) ⟨by decide, by decide⟩ dX1_take_23 (fun H locs hw => ?_)
          refine W.eq (g2 := F0 m 26 ls []) rfl ?_
          refine lv_lload hx hb dX1_take_26 (lv_at hl 0 rfl) ?_
          refine lv_ldc2 (v := lN 8) hx hb hown (hts (.constantLong RX1 72 (lN 8)) (by decide +kernel)) dX1_take_28 ?_
          refine hn_ladd (v := lN (b + 8)) hx hb dX1_take_31 (lN_add _ _) ?_
          exact hx_lret S hr hw dX1_take_32
      · rw [if_neg k2] at h
        cases h
  | none =>
    rw [hq] at h
    dsimp only at h
    by_cases k1 : 480000 < n ∨ u.2.2 < u.2.1 + 8 + ph_up n + 4096
    · rw [if_pos k1] at h
      cases h
      refine lv_lload_n hx hb dX1_take_0 rfl (lv_at hl 1 rfl) ?_
      refine hx_callS (rest := []) (n := 1) S hw (c_rounded l hst D tys cJ ht h0 h1 h2 u n (by omega)) gX1_take_X1_rounded rfl (by decide +kernel) rfl ⟨Nat.le_of_ble_eq_true rfl, Nat.le_of_ble_eq_true rfl⟩ hc_adr hl.1 rfl (Nat.le_of_ble_eq_true rfl) ⟨by decide, by decide⟩ dX1_take_1 (fun H locs hw => ?_)
      refine W.eq (g2 := F0 m 4 ls [.long (lN (ph_up n))]) rfl ?_
      refine lv_lstore_n (lv' := [(3, .long (lN (ph_up n))), (0, .ref h0), (1, .long (lN n))]) hx hb dX1_take_4 rfl hl (by decide) rfl (fun ls hl => ?_)
      refine lv_aload_n hx hb dX1_take_5 rfl (lv_at hl 1 rfl) ?_
      refine lv_lload_n hx hb dX1_take_6 rfl (lv_at hl 0 rfl) ?_
      refine hx_callV (rest := []) (n := 1) S hw (c_firstFree l hst D tys cJ ht h0 h1 h2 u (ph_up n) none hu (by omega) hq) gX1_take_X1_firstFree rfl (by decide +kernel) rfl ⟨Nat.le_of_ble_eq_true rfl, Nat.le_of_ble_eq_true rfl⟩ 0 1 rfl rfl hc_adr hl.1 rfl (Nat.le_of_ble_eq_true rfl) ⟨by decide, by decide⟩ dX1_take_7 (fun H locs hw => ?_)
      refine W.eq (g2 := F0 m 10 ls [.long (lN 0)]) rfl ?_
      refine lv_lstore (lv' := [(5, .long (lN 0)), (3, .long (lN (ph_up n))), (0, .ref h0), (1, .long (lN n))]) hx hb dX1_take_10 hl (by decide) rfl (fun ls hl => ?_)
      refine lv_lload hx hb dX1_take_12 (lv_at hl 0 rfl) ?_
      refine lv_lconst (v := lN 0) hx hb dX1_take_14 (by decide +kernel) ?_
      refine hn_leq (a := 0) (b := 0) (tgt := 33) hx hb (by omega) (by omega) dX1_take_15 dX1_take_16 (by decide) (fun hc => ?_) (fun hc => ?_)
      · refine lv_lload_n hx hb dX1_take_33 rfl (lv_at hl 3 rfl) ?_
        refine lv_ldc2 (v := lN 480000) hx hb hown (hts (.constantLong RX1 35 (lN 480000)) (by decide +kernel)) dX1_take_34 ?_
        refine hn_lgt (a := n) (b := 480000) (tgt := 63) hx hb (by omega) (by omega) dX1_take_37 dX1_take_38 (by decide) (fun hc2 => ?_) (fun hc2 => ?_)
        · refine lv_lconst (v := lN 0) hx hb dX1_take_63 (by decide +kernel) ?_
          exact hx_lret S hr hw dX1_take_64
        · refine lv_aload_n hx hb dX1_take_41 rfl (lv_at hl 2 rfl) ?_
          refine va_get (D := D) (ci := 1) (v := .long (lN u.2.1)) (C := RX1) (T := TX1) (N := 3) hx hb hts hi1 hown hK hw.1 0 rfl rfl 1 (by decide) (hts (.fieldLink RX1 18 "HeapRow" "end" "J") (by decide +kernel)) (fun _ h9 => h9) rfl dX1_take_42 ?_
          refine lv_ldc2 (v := lN 8) hx hb hown (hts (.constantLong RX1 72 (lN 8)) (by decide +kernel)) dX1_take_45 ?_
          refine hn_ladd (v := lN (u.2.1 + 8)) hx hb dX1_take_48 (lN_add _ _) ?_
          refine lv_lload_n hx hb dX1_take_49 rfl (lv_at hl 1 rfl) ?_
          refine hn_ladd (v := lN ((u.2.1 + 8) + (ph_up n))) hx hb dX1_take_50 (lN_add _ _) ?_
          refine lv_aload_n hx hb dX1_take_51 rfl (lv_at hl 2 rfl) ?_
          refine va_get (D := D) (ci := 1) (v := .long (lN u.2.2)) (C := RX1) (T := TX1) (N := 3) hx hb hts hi1 hown hK hw.1 0 rfl rfl 2 (by decide) (hts (.fieldLink RX1 24 "HeapRow" "stackEnd" "J") (by decide +kernel)) (fun _ h9 => h9) rfl dX1_take_52 ?_
          refine lv_ldc2 (v := lN 4096) hx hb hown (hts (.constantLong RX1 90 (lN 4096)) (by decide +kernel)) dX1_take_55 ?_
          by_cases k3 : 4096 ≤ u.2.2
          · refine hn_lsub (v := lN (u.2.2 - 4096)) hx hb dX1_take_58 (lN_sub (by omega)) ?_
            refine hn_lle (a := ((u.2.1 + 8) + (ph_up n))) (b := (u.2.2 - 4096)) (tgt := 65) hx hb (by omega) (by omega) dX1_take_59 dX1_take_60 (by decide) (fun hc3 => ?_) (fun hc3 => ?_)
            · exact absurd hc3 (by omega)
            · refine lv_lconst (v := lN 0) hx hb dX1_take_63 (by decide +kernel) ?_
              exact hx_lret S hr hw dX1_take_64
          · refine hn_lsub (v := lN u.2.2 - lN 4096) hx hb dX1_take_58 rfl ?_
            refine W.lcmp hx hb dX1_take_59 ?_
            refine lv_if_le (tgt := 65) hx hb dX1_take_60 (by decide) (fun z => absurd ((lg_cmp_le _ _).mp z) (hp_neg (by omega) (by omega))) (fun _ => ?_)
            refine lv_lconst (v := lN 0) hx hb dX1_take_63 (by decide +kernel) ?_
            exact hx_lret S hr hw dX1_take_64
      · exact absurd rfl hc
    · rw [if_neg k1] at h
      cases h
      refine lv_lload_n hx hb dX1_take_0 rfl (lv_at hl 1 rfl) ?_
      refine hx_callS (rest := []) (n := 1) S hw (c_rounded l hst D tys cJ ht h0 h1 h2 u n (by omega)) gX1_take_X1_rounded rfl (by decide +kernel) rfl ⟨Nat.le_of_ble_eq_true rfl, Nat.le_of_ble_eq_true rfl⟩ hc_adr hl.1 rfl (Nat.le_of_ble_eq_true rfl) ⟨by decide, by decide⟩ dX1_take_1 (fun H locs hw => ?_)
      refine W.eq (g2 := F0 m 4 ls [.long (lN (ph_up n))]) rfl ?_
      refine lv_lstore_n (lv' := [(3, .long (lN (ph_up n))), (0, .ref h0), (1, .long (lN n))]) hx hb dX1_take_4 rfl hl (by decide) rfl (fun ls hl => ?_)
      refine lv_aload_n hx hb dX1_take_5 rfl (lv_at hl 1 rfl) ?_
      refine lv_lload_n hx hb dX1_take_6 rfl (lv_at hl 0 rfl) ?_
      refine hx_callV (rest := []) (n := 1) S hw (c_firstFree l hst D tys cJ ht h0 h1 h2 u (ph_up n) none hu (by omega) hq) gX1_take_X1_firstFree rfl (by decide +kernel) rfl ⟨Nat.le_of_ble_eq_true rfl, Nat.le_of_ble_eq_true rfl⟩ 0 1 rfl rfl hc_adr hl.1 rfl (Nat.le_of_ble_eq_true rfl) ⟨by decide, by decide⟩ dX1_take_7 (fun H locs hw => ?_)
      refine W.eq (g2 := F0 m 10 ls [.long (lN 0)]) rfl ?_
      refine lv_lstore (lv' := [(5, .long (lN 0)), (3, .long (lN (ph_up n))), (0, .ref h0), (1, .long (lN n))]) hx hb dX1_take_10 hl (by decide) rfl (fun ls hl => ?_)
      refine lv_lload hx hb dX1_take_12 (lv_at hl 0 rfl) ?_
      refine lv_lconst (v := lN 0) hx hb dX1_take_14 (by decide +kernel) ?_
      refine hn_leq (a := 0) (b := 0) (tgt := 33) hx hb (by omega) (by omega) dX1_take_15 dX1_take_16 (by decide) (fun hc => ?_) (fun hc => ?_)
      · refine lv_lload_n hx hb dX1_take_33 rfl (lv_at hl 3 rfl) ?_
        refine lv_ldc2 (v := lN 480000) hx hb hown (hts (.constantLong RX1 35 (lN 480000)) (by decide +kernel)) dX1_take_34 ?_
        refine hn_lgt (a := n) (b := 480000) (tgt := 63) hx hb (by omega) (by omega) dX1_take_37 dX1_take_38 (by decide) (fun hc2 => ?_) (fun hc2 => ?_)
        · exact absurd hc2 (by omega)
        · refine lv_aload_n hx hb dX1_take_41 rfl (lv_at hl 2 rfl) ?_
          refine va_get (D := D) (ci := 1) (v := .long (lN u.2.1)) (C := RX1) (T := TX1) (N := 3) hx hb hts hi1 hown hK hw.1 0 rfl rfl 1 (by decide) (hts (.fieldLink RX1 18 "HeapRow" "end" "J") (by decide +kernel)) (fun _ h9 => h9) rfl dX1_take_42 ?_
          refine lv_ldc2 (v := lN 8) hx hb hown (hts (.constantLong RX1 72 (lN 8)) (by decide +kernel)) dX1_take_45 ?_
          refine hn_ladd (v := lN (u.2.1 + 8)) hx hb dX1_take_48 (lN_add _ _) ?_
          refine lv_lload_n hx hb dX1_take_49 rfl (lv_at hl 1 rfl) ?_
          refine hn_ladd (v := lN ((u.2.1 + 8) + (ph_up n))) hx hb dX1_take_50 (lN_add _ _) ?_
          refine lv_aload_n hx hb dX1_take_51 rfl (lv_at hl 2 rfl) ?_
          refine va_get (D := D) (ci := 1) (v := .long (lN u.2.2)) (C := RX1) (T := TX1) (N := 3) hx hb hts hi1 hown hK hw.1 0 rfl rfl 2 (by decide) (hts (.fieldLink RX1 24 "HeapRow" "stackEnd" "J") (by decide +kernel)) (fun _ h9 => h9) rfl dX1_take_52 ?_
          refine lv_ldc2 (v := lN 4096) hx hb hown (hts (.constantLong RX1 90 (lN 4096)) (by decide +kernel)) dX1_take_55 ?_
          refine hn_lsub (v := lN (u.2.2 - 4096)) hx hb dX1_take_58 (lN_sub (by omega)) ?_
          refine hn_lle (a := ((u.2.1 + 8) + (ph_up n))) (b := (u.2.2 - 4096)) (tgt := 65) hx hb (by omega) (by omega) dX1_take_59 dX1_take_60 (by decide) (fun hc3 => ?_) (fun hc3 => ?_)
          · refine lv_aload_n hx hb dX1_take_65 rfl (lv_at hl 2 rfl) ?_
            refine lv_lload_n hx hb dX1_take_66 rfl (lv_at hl 1 rfl) ?_
            refine hx_callV (rest := []) (n := 1) S hw (c_takeAtEnd l hst D tys cJ ht h0 h1 h2 u (ph_up n) hu (by omega)) gX1_take_X1_takeAtEnd rfl (by decide +kernel) rfl ⟨Nat.le_of_ble_eq_true rfl, Nat.le_of_ble_eq_true rfl⟩ 0 1 rfl rfl hc_adr hl.1 rfl (Nat.le_of_ble_eq_true rfl) ⟨by decide, by decide⟩ dX1_take_67 (fun H locs hw => ?_)
            refine W.eq (g2 := F0 m 70 ls [.long (lN (u.2.1 + 8))]) rfl ?_
            exact hx_lret S hr hw dX1_take_70
          · exact absurd hc3 (by omega)
      · exact absurd rfl hc
set_option maxHeartbeats 4000000 in
set_option maxRecDepth 100000 in
theorem x_take (l : Launch) (hst : l.stackTraces = false) (D : va_G) (tys : List (ClassId × FieldType)) (cJ : ClassId) (ht : tys[0]? = some (cJ, .long)) (h0 h1 h2 : Nat) (u : ph_H) (n : Nat) (u2 : ph_H) (hu : ph_I u) (hn : n < 4294967296) (h : ph_take u n = (none, u2)) : hx_X l D tys yX1_take wsX1_take 10 184 [.ref h0, .long (lN n)] (hc_W cJ h0 h1 h2 u) (hc_W cJ h0 h1 h2 u2) := by
  refine hx_X.ofW (cc := cX1_take) (maxL := 7) (ret := (some .long)) (by decide) rfl (Nat.le_of_ble_eq_true rfl) ?_
  intro p e s m below meth c A ls hr S hno hw hl
  have S : hx_S p l s m _ meth c cX1_take 7 wsX1_take RX1 A D tys := S
  obtain ⟨⟨hx, hb, hml, hown, hts⟩, hK, hA, hE, hlk⟩ := id S
  have hi1 : ∀ w ∈ wsX10, w ∈ wsX1_take := by decide +kernel
  have hl : lv_has ls 7 [(0, .ref h0), (1, .long (lN n))] := hl
  have hu2 := hu
  obtain ⟨i1, i2, i3, i4⟩ := hu2
  have gu := ph_up_ge n
  have gu2 := ph_up_lt hn
  unfold ph_take at h
  cases hq : ph_ff u.1 u.2.1 (ph_up n) 8064 1024 with
  | some b =>
    rw [hq] at h
    dsimp only at h
    obtain ⟨f1, f2, f3, f4⟩ := ph_ff_some _ _ hq
    have gn := ph_n_lt u.1 b
    by_cases k1 : ph_n u.1 b < ph_up n + 16
    · rw [if_pos k1] at h
      cases h
    · rw [if_neg k1] at h
      by_cases k2 : (ph_wh u.1 (b + 8 + ph_up n) (ph_n u.1 b - ph_up n - 8) 0).1 = true
      · rw [if_pos k2] at h
        cases h
      · rw [if_neg k2] at h
        cases h
        refine lv_lload_n hx hb dX1_take_0 rfl (lv_at hl 1 rfl) ?_
        refine hx_callS (rest := []) (n := 1) S hw (c_rounded l hst D tys cJ ht h0 h1 h2 u n (by omega)) gX1_take_X1_rounded rfl (by decide +kernel) rfl ⟨Nat.le_of_ble_eq_true rfl, Nat.le_of_ble_eq_true rfl⟩ hc_adr hl.1 rfl (Nat.le_of_ble_eq_true rfl) ⟨by decide, by decide⟩ dX1_take_1 (fun H locs hw => ?_)
        refine W.eq (g2 := F0 m 4 ls [.long (lN (ph_up n))]) rfl ?_
        refine lv_lstore_n (lv' := [(3, .long (lN (ph_up n))), (0, .ref h0), (1, .long (lN n))]) hx hb dX1_take_4 rfl hl (by decide) rfl (fun ls hl => ?_)
        refine lv_aload_n hx hb dX1_take_5 rfl (lv_at hl 1 rfl) ?_
        refine lv_lload_n hx hb dX1_take_6 rfl (lv_at hl 0 rfl) ?_
        refine hx_callV (rest := []) (n := 1) S hw (c_firstFree l hst D tys cJ ht h0 h1 h2 u (ph_up n) (some b) hu (by omega) hq) gX1_take_X1_firstFree rfl (by decide +kernel) rfl ⟨Nat.le_of_ble_eq_true rfl, Nat.le_of_ble_eq_true rfl⟩ 0 1 rfl rfl hc_adr hl.1 rfl (Nat.le_of_ble_eq_true rfl) ⟨by decide, by decide⟩ dX1_take_7 (fun H locs hw => ?_)
        refine W.eq (g2 := F0 m 10 ls [.long (lN b)]) rfl ?_
        refine lv_lstore (lv' := [(5, .long (lN b)), (3, .long (lN (ph_up n))), (0, .ref h0), (1, .long (lN n))]) hx hb dX1_take_10 hl (by decide) rfl (fun ls hl => ?_)
        refine lv_lload hx hb dX1_take_12 (lv_at hl 0 rfl) ?_
        refine lv_lconst (v := lN 0) hx hb dX1_take_14 (by decide +kernel) ?_
        refine hn_leq (a := b) (b := 0) (tgt := 33) hx hb (by omega) (by omega) dX1_take_15 dX1_take_16 (by decide) (fun hc => ?_) (fun hc => ?_)
        · exact absurd hc (by omega)
        · refine lv_aload_n hx hb dX1_take_19 rfl (lv_at hl 2 rfl) ?_
          refine lv_lload hx hb dX1_take_20 (lv_at hl 0 rfl) ?_
          refine lv_lload_n hx hb dX1_take_22 rfl (lv_at hl 1 rfl) ?_
          exact hx_thr (rest := []) (n := 2) S hno hw (x_takeFree l hst D tys cJ ht h0 h1 h2 u b (ph_up n) (by omega) (by omega) f4 k1 k2) gX1_take_X1_takeFree rfl (by decide +kernel) rfl ⟨Nat.le_of_ble_eq_true rfl, Nat.le_of_ble_eq_true rfl⟩ 0 1 rfl rfl hc_adr hl.1 rfl (Nat.le_of_ble_eq_true rfl) ⟨by decide, by decide⟩ dX1_take_23
  | none =>
    rw [hq] at h
    dsimp only at h
    by_cases k1 : 480000 < n ∨ u.2.2 < u.2.1 + 8 + ph_up n + 4096
    · rw [if_pos k1] at h
      cases h
    · rw [if_neg k1] at h
      cases h
set_option maxHeartbeats 4000000 in
set_option maxRecDepth 100000 in
theorem c_allocate (l : Launch) (hst : l.stackTraces = false) (D : va_G) (tys : List (ClassId × FieldType)) (cJ : ClassId) (ht : tys[0]? = some (cJ, .long)) (h0 h1 h2 : Nat) (u : ph_H) (n x : Nat) (u2 : ph_H) (hu : ph_I u) (hn : n < 4294967296) (h : ph_take u n = (some x, u2)) : hx_R l D tys yX1_allocate wsX1_allocate 11 210 [.ref h0, .int (nI n)] (hc_W cJ h0 h1 h2 u) (hc_W cJ h0 h1 h2 u2) (some (.int (nI x))) := by
  refine hx_R.ofW (cc := cX1_allocate) (maxL := 2) (ret := (some .int)) (by decide) rfl (Nat.le_of_ble_eq_true rfl) ?_
  intro p e s m below meth c A ls hr S hw hl
  have S : hx_S p l s m _ meth c cX1_allocate 2 wsX1_allocate RX1 A D tys := S
  obtain ⟨⟨hx, hb, hml, hown, hts⟩, hK, hA, hE, hlk⟩ := id S
  have hi1 : ∀ w ∈ wsX10, w ∈ wsX1_allocate := by decide +kernel
  have hl : lv_has ls 2 [(0, .ref h0), (1, .int (nI n))] := hl
  refine lv_aload_n hx hb dX1_allocate_0 rfl (lv_at hl 0 rfl) ?_
  refine lv_iload_n hx hb dX1_allocate_1 rfl (lv_at hl 1 rfl) ?_
  refine hx_callS (rest := [.ref h0]) (n := 1) S hw (c_unsigned l hst D tys cJ ht h0 h1 h2 u n (by omega)) gX1_allocate_X1_unsigned rfl (by decide +kernel) rfl ⟨Nat.le_of_ble_eq_true rfl, Nat.le_of_ble_eq_true rfl⟩ hc_adr hl.1 rfl (Nat.le_of_ble_eq_true rfl) ⟨by decide, by decide⟩ dX1_allocate_2 (fun H locs hw => ?_)
  refine W.eq (g2 := F0 m 5 ls [.long (lN n), .ref h0]) rfl ?_
  refine hx_callV (rest := []) (n := 1) S hw (c_take l hst D tys cJ ht h0 h1 h2 u n x u2 hu hn h) gX1_allocate_X1_take rfl (by decide +kernel) rfl ⟨Nat.le_of_ble_eq_true rfl, Nat.le_of_ble_eq_true rfl⟩ 0 1 rfl rfl hc_adr hl.1 rfl (Nat.le_of_ble_eq_true rfl) ⟨by decide, by decide⟩ dX1_allocate_5 (fun H locs hw => ?_)
  refine W.eq (g2 := F0 m 8 ls [.long (lN x)]) rfl ?_
  refine lv_l2i (v := nI x) hx hb dX1_allocate_8 (lN_i _) ?_
  exact hx_iret S hr hw dX1_allocate_9
set_option maxHeartbeats 4000000 in
set_option maxRecDepth 100000 in
theorem x_allocate (l : Launch) (hst : l.stackTraces = false) (D : va_G) (tys : List (ClassId × FieldType)) (cJ : ClassId) (ht : tys[0]? = some (cJ, .long)) (h0 h1 h2 : Nat) (u : ph_H) (n : Nat) (u2 : ph_H) (hu : ph_I u) (hn : n < 4294967296) (h : ph_take u n = (none, u2)) : hx_X l D tys yX1_allocate wsX1_allocate 11 210 [.ref h0, .int (nI n)] (hc_W cJ h0 h1 h2 u) (hc_W cJ h0 h1 h2 u2) := by
  refine hx_X.ofW (cc := cX1_allocate) (maxL := 2) (ret := (some .int)) (by decide) rfl (Nat.le_of_ble_eq_true rfl) ?_
  intro p e s m below meth c A ls hr S hno hw hl
  have S : hx_S p l s m _ meth c cX1_allocate 2 wsX1_allocate RX1 A D tys := S
  obtain ⟨⟨hx, hb, hml, hown, hts⟩, hK, hA, hE, hlk⟩ := id S
  have hi1 : ∀ w ∈ wsX10, w ∈ wsX1_allocate := by decide +kernel
  have hl : lv_has ls 2 [(0, .ref h0), (1, .int (nI n))] := hl
  refine lv_aload_n hx hb dX1_allocate_0 rfl (lv_at hl 0 rfl) ?_
  refine lv_iload_n hx hb dX1_allocate_1 rfl (lv_at hl 1 rfl) ?_
  refine hx_callS (rest := [.ref h0]) (n := 1) S hw (c_unsigned l hst D tys cJ ht h0 h1 h2 u n (by omega)) gX1_allocate_X1_unsigned rfl (by decide +kernel) rfl ⟨Nat.le_of_ble_eq_true rfl, Nat.le_of_ble_eq_true rfl⟩ hc_adr hl.1 rfl (Nat.le_of_ble_eq_true rfl) ⟨by decide, by decide⟩ dX1_allocate_2 (fun H locs hw => ?_)
  refine W.eq (g2 := F0 m 5 ls [.long (lN n), .ref h0]) rfl ?_
  exact hx_thr (rest := []) (n := 1) S hno hw (x_take l hst D tys cJ ht h0 h1 h2 u n u2 hu hn h) gX1_allocate_X1_take rfl (by decide +kernel) rfl ⟨Nat.le_of_ble_eq_true rfl, Nat.le_of_ble_eq_true rfl⟩ 0 1 rfl rfl hc_adr hl.1 rfl (Nat.le_of_ble_eq_true rfl) ⟨by decide, by decide⟩ dX1_allocate_5
set_option maxHeartbeats 4000000 in
set_option maxRecDepth 100000 in
theorem c_cleared (l : Launch) (hst : l.stackTraces = false) (D : va_G) (tys : List (ClassId × FieldType)) (cJ : ClassId) (ht : tys[0]? = some (cJ, .long)) (h0 h1 h2 : Nat) (u : ph_H) (n k q x : Nat) (u2 : ph_H) (hu : ph_I u) (hn : n < 4294967296) (hk : k < 4294967296) (hq : n * k = q) (h : ph_clrd u q = (some x, u2)) : hx_R l D tys yX1_cleared wsX1_cleared 11 210 [.ref h0, .int (nI n), .int (nI k)] (hc_W cJ h0 h1 h2 u) (hc_W cJ h0 h1 h2 u2) (some (.int (nI x))) := by
  refine hx_R.ofW (cc := cX1_cleared) (maxL := 7) (ret := (some .int)) (by decide) rfl (Nat.le_of_ble_eq_true rfl) ?_
  intro p e s m below meth c A ls hr S hw hl
  have S : hx_S p l s m _ meth c cX1_cleared 7 wsX1_cleared RX1 A D tys := S
  obtain ⟨⟨hx, hb, hml, hown, hts⟩, hK, hA, hE, hlk⟩ := id S
  have hi1 : ∀ w ∈ wsX10, w ∈ wsX1_cleared := by decide +kernel
  have hl : lv_has ls 7 [(0, .ref h0), (1, .int (nI n)), (2, .int (nI k))] := hl
  have hq64 : q < 18446744073709551616 := by rw [← hq]; exact Nat.mul_lt_mul'' hn hk
  have hu2 := hu
  obtain ⟨i1, i2, i3, i4⟩ := hu2
  refine lv_iload_n hx hb dX1_cleared_0 rfl (lv_at hl 1 rfl) ?_
  refine hx_callS (rest := []) (n := 1) S hw (c_unsigned l hst D tys cJ ht h0 h1 h2 u n (by omega)) gX1_cleared_X1_unsigned rfl (by decide +kernel) rfl ⟨Nat.le_of_ble_eq_true rfl, Nat.le_of_ble_eq_true rfl⟩ hc_adr hl.1 rfl (Nat.le_of_ble_eq_true rfl) ⟨by decide, by decide⟩ dX1_cleared_1 (fun H locs hw => ?_)
  refine W.eq (g2 := F0 m 4 ls [.long (lN n)]) rfl ?_
  refine lv_iload_n hx hb dX1_cleared_4 rfl (lv_at hl 2 rfl) ?_
  refine hx_callS (rest := [.long (lN n)]) (n := 1) S hw (c_unsigned l hst D tys cJ ht h0 h1 h2 u k (by omega)) gX1_cleared_X1_unsigned rfl (by decide +kernel) rfl ⟨Nat.le_of_ble_eq_true rfl, Nat.le_of_ble_eq_true rfl⟩ hc_adr hl.1 rfl (Nat.le_of_ble_eq_true rfl) ⟨by decide, by decide⟩ dX1_cleared_5 (fun H locs hw => ?_)
  refine W.eq (g2 := F0 m 8 ls [.long (lN k), .long (lN n)]) rfl ?_
  refine hn_lmul (v := lN q) hx hb dX1_cleared_8 (by rw [lN_mul, hq]) ?_
  refine lv_lstore_n (lv' := [(3, .long (lN q)), (0, .ref h0), (1, .int (nI n)), (2, .int (nI k))]) hx hb dX1_cleared_9 rfl hl (by decide) rfl (fun ls hl => ?_)
  refine lv_lload_n hx hb dX1_cleared_10 rfl (lv_at hl 0 rfl) ?_
  refine lv_lconst (v := lN 0) hx hb dX1_cleared_11 (by decide +kernel) ?_
  unfold ph_clrd at h
  by_cases kb : 480000 < q
  · rw [if_pos kb] at h
    cases h
    by_cases k63 : q < 9223372036854775808
    · refine hn_llt (a := q) (b := 0) (tgt := 24) hx hb (by omega) (by omega) dX1_cleared_12 dX1_cleared_13 (by decide) (fun hc => ?_) (fun hc => ?_)
      · exact absurd hc (by omega)
      · refine lv_lload_n hx hb dX1_cleared_16 rfl (lv_at hl 0 rfl) ?_
        refine lv_ldc2 (v := lN 480000) hx hb hown (hts (.constantLong RX1 35 (lN 480000)) (by decide +kernel)) dX1_cleared_17 ?_
        refine hn_lle (a := q) (b := 480000) (tgt := 26) hx hb (by omega) (by omega) dX1_cleared_20 dX1_cleared_21 (by decide) (fun hc2 => ?_) (fun hc2 => ?_)
        · exact absurd hc2 (by omega)
        · refine lv_iconst (v := nI 0) hx hb dX1_cleared_24 (by decide +kernel) ?_
          exact hx_iret S hr hw dX1_cleared_25
    · refine W.lcmp hx hb dX1_cleared_12 ?_
      refine lv_if_lt (tgt := 24) hx hb dX1_cleared_13 (by decide) (fun _ => ?_) (fun z => absurd (hp_big (by omega) hq64) z)
      refine lv_iconst (v := nI 0) hx hb dX1_cleared_24 (by decide +kernel) ?_
      exact hx_iret S hr hw dX1_cleared_25
  · rw [if_neg kb] at h
    refine hn_llt (a := q) (b := 0) (tgt := 24) hx hb (by omega) (by omega) dX1_cleared_12 dX1_cleared_13 (by decide) (fun hc => ?_) (fun hc => ?_)
    · exact absurd hc (by omega)
    · refine lv_lload_n hx hb dX1_cleared_16 rfl (lv_at hl 0 rfl) ?_
      refine lv_ldc2 (v := lN 480000) hx hb hown (hts (.constantLong RX1 35 (lN 480000)) (by decide +kernel)) dX1_cleared_17 ?_
      refine hn_lle (a := q) (b := 480000) (tgt := 26) hx hb (by omega) (by omega) dX1_cleared_20 dX1_cleared_21 (by decide) (fun hc2 => ?_) (fun hc2 => ?_)
      · refine lv_aload_n hx hb dX1_cleared_26 rfl (lv_at hl 1 rfl) ?_
        refine lv_lload_n hx hb dX1_cleared_27 rfl (lv_at hl 0 rfl) ?_
        rcases ht2 : ph_take u q with ⟨_ | a, u3⟩
        · rw [ht2] at h
          dsimp only at h
          cases h
        · rw [ht2] at h
          dsimp only at h
          have ga := ph_take_at hu ht2
          refine hx_callV (rest := []) (n := 1) S hw (c_take l hst D tys cJ ht h0 h1 h2 u q a u3 hu (by omega) ht2) gX1_cleared_X1_take rfl (by decide +kernel) rfl ⟨Nat.le_of_ble_eq_true rfl, Nat.le_of_ble_eq_true rfl⟩ 0 1 rfl rfl hc_adr hl.1 rfl (Nat.le_of_ble_eq_true rfl) ⟨by decide, by decide⟩ dX1_cleared_28 (fun H locs hw => ?_)
          refine W.eq (g2 := F0 m 31 ls [.long (lN a)]) rfl ?_
          refine lv_lstore (lv' := [(5, .long (lN a)), (3, .long (lN q)), (0, .ref h0), (1, .int (nI n)), (2, .int (nI k))]) hx hb dX1_cleared_31 hl (by decide) rfl (fun ls hl => ?_)
          refine lv_lload hx hb dX1_cleared_33 (lv_at hl 0 rfl) ?_
          refine lv_lconst (v := lN 0) hx hb dX1_cleared_35 (by decide +kernel) ?_
          refine hn_leq (a := a) (b := 0) (tgt := 47) hx hb (by omega) (by omega) dX1_cleared_36 dX1_cleared_37 (by decide) (fun hc3 => ?_) (fun hc3 => ?_)
          · rw [if_pos hc3] at h
            cases h
            subst hc3
            refine lv_lload hx hb dX1_cleared_47 (lv_at hl 0 rfl) ?_
            refine lv_l2i (v := nI 0) hx hb dX1_cleared_49 (lN_i _) ?_
            exact hx_iret S hr hw dX1_cleared_50
          · rw [if_neg hc3] at h
            refine lv_aload_n hx hb dX1_cleared_40 rfl (lv_at hl 2 rfl) ?_
            refine lv_lload hx hb dX1_cleared_41 (lv_at hl 0 rfl) ?_
            refine lv_lload_n hx hb dX1_cleared_43 rfl (lv_at hl 1 rfl) ?_
            rcases hl2 : ph_clr q u3.1 a with ⟨_ | _, M⟩
            · rw [hl2] at h
              simp only [Bool.false_eq_true, if_false] at h
              cases h
            · rw [hl2] at h
              simp only [if_true] at h
              cases h
              refine hx_callV (rest := []) (n := 2) S hw (c_clear l hst D tys cJ ht h0 h1 h2 u3 x q M (by omega) (by omega) hl2) gX1_cleared_X1_clear rfl (by decide +kernel) rfl ⟨Nat.le_of_ble_eq_true rfl, Nat.le_of_ble_eq_true rfl⟩ 0 1 rfl rfl hc_adr hl.1 rfl (Nat.le_of_ble_eq_true rfl) ⟨by decide, by decide⟩ dX1_cleared_44 (fun H locs hw => ?_)
              refine W.eq (g2 := F0 m 47 ls []) rfl ?_
              refine lv_lload hx hb dX1_cleared_47 (lv_at hl 0 rfl) ?_
              refine lv_l2i (v := nI x) hx hb dX1_cleared_49 (lN_i _) ?_
              exact hx_iret S hr hw dX1_cleared_50
      · exact absurd hc2 (by omega)
set_option maxHeartbeats 4000000 in
set_option maxRecDepth 100000 in
theorem x_cleared (l : Launch) (hst : l.stackTraces = false) (D : va_G) (tys : List (ClassId × FieldType)) (cJ : ClassId) (ht : tys[0]? = some (cJ, .long)) (h0 h1 h2 : Nat) (u : ph_H) (n k q : Nat) (u2 : ph_H) (hu : ph_I u) (hn : n < 4294967296) (hk : k < 4294967296) (hq : n * k = q) (h : ph_clrd u q = (none, u2)) : hx_X l D tys yX1_cleared wsX1_cleared 11 210 [.ref h0, .int (nI n), .int (nI k)] (hc_W cJ h0 h1 h2 u) (hc_W cJ h0 h1 h2 u2) := by
  refine hx_X.ofW (cc := cX1_cleared) (maxL := 7) (ret := (some .int)) (by decide) rfl (Nat.le_of_ble_eq_true rfl) ?_
  intro p e s m below meth c A ls hr S hno hw hl
  have S : hx_S p l s m _ meth c cX1_cleared 7 wsX1_cleared RX1 A D tys := S
  obtain ⟨⟨hx, hb, hml, hown, hts⟩, hK, hA, hE, hlk⟩ := id S
  have hi1 : ∀ w ∈ wsX10, w ∈ wsX1_cleared := by decide +kernel
  have hl : lv_has ls 7 [(0, .ref h0), (1, .int (nI n)), (2, .int (nI k))] := hl
  have hq64 : q < 18446744073709551616 := by rw [← hq]; exact Nat.mul_lt_mul'' hn hk
  have hu2 := hu
  obtain ⟨i1, i2, i3, i4⟩ := hu2
  refine lv_iload_n hx hb dX1_cleared_0 rfl (lv_at hl 1 rfl) ?_
  refine hx_callS (rest := []) (n := 1) S hw (c_unsigned l hst D tys cJ ht h0 h1 h2 u n (by omega)) gX1_cleared_X1_unsigned rfl (by decide +kernel) rfl ⟨Nat.le_of_ble_eq_true rfl, Nat.le_of_ble_eq_true rfl⟩ hc_adr hl.1 rfl (Nat.le_of_ble_eq_true rfl) ⟨by decide, by decide⟩ dX1_cleared_1 (fun H locs hw => ?_)
  refine W.eq (g2 := F0 m 4 ls [.long (lN n)]) rfl ?_
  refine lv_iload_n hx hb dX1_cleared_4 rfl (lv_at hl 2 rfl) ?_
  refine hx_callS (rest := [.long (lN n)]) (n := 1) S hw (c_unsigned l hst D tys cJ ht h0 h1 h2 u k (by omega)) gX1_cleared_X1_unsigned rfl (by decide +kernel) rfl ⟨Nat.le_of_ble_eq_true rfl, Nat.le_of_ble_eq_true rfl⟩ hc_adr hl.1 rfl (Nat.le_of_ble_eq_true rfl) ⟨by decide, by decide⟩ dX1_cleared_5 (fun H locs hw => ?_)
  refine W.eq (g2 := F0 m 8 ls [.long (lN k), .long (lN n)]) rfl ?_
  refine hn_lmul (v := lN q) hx hb dX1_cleared_8 (by rw [lN_mul, hq]) ?_
  refine lv_lstore_n (lv' := [(3, .long (lN q)), (0, .ref h0), (1, .int (nI n)), (2, .int (nI k))]) hx hb dX1_cleared_9 rfl hl (by decide) rfl (fun ls hl => ?_)
  refine lv_lload_n hx hb dX1_cleared_10 rfl (lv_at hl 0 rfl) ?_
  refine lv_lconst (v := lN 0) hx hb dX1_cleared_11 (by decide +kernel) ?_
  unfold ph_clrd at h
  by_cases kb : 480000 < q
  · rw [if_pos kb] at h
    cases h
  · rw [if_neg kb] at h
    refine hn_llt (a := q) (b := 0) (tgt := 24) hx hb (by omega) (by omega) dX1_cleared_12 dX1_cleared_13 (by decide) (fun hc => ?_) (fun hc => ?_)
    · exact absurd hc (by omega)
    · refine lv_lload_n hx hb dX1_cleared_16 rfl (lv_at hl 0 rfl) ?_
      refine lv_ldc2 (v := lN 480000) hx hb hown (hts (.constantLong RX1 35 (lN 480000)) (by decide +kernel)) dX1_cleared_17 ?_
      refine hn_lle (a := q) (b := 480000) (tgt := 26) hx hb (by omega) (by omega) dX1_cleared_20 dX1_cleared_21 (by decide) (fun hc2 => ?_) (fun hc2 => ?_)
      · refine lv_aload_n hx hb dX1_cleared_26 rfl (lv_at hl 1 rfl) ?_
        refine lv_lload_n hx hb dX1_cleared_27 rfl (lv_at hl 0 rfl) ?_
        rcases ht2 : ph_take u q with ⟨_ | a, u3⟩
        · rw [ht2] at h
          dsimp only at h
          cases h
          exact hx_thr (rest := []) (n := 1) S hno hw (x_take l hst D tys cJ ht h0 h1 h2 u q u2 hu (by omega) ht2) gX1_cleared_X1_take rfl (by decide +kernel) rfl ⟨Nat.le_of_ble_eq_true rfl, Nat.le_of_ble_eq_true rfl⟩ 0 1 rfl rfl hc_adr hl.1 rfl (Nat.le_of_ble_eq_true rfl) ⟨by decide, by decide⟩ dX1_cleared_28
        · rw [ht2] at h
          dsimp only at h
          have ga := ph_take_at hu ht2
          refine hx_callV (rest := []) (n := 1) S hw (c_take l hst D tys cJ ht h0 h1 h2 u q a u3 hu (by omega) ht2) gX1_cleared_X1_take rfl (by decide +kernel) rfl ⟨Nat.le_of_ble_eq_true rfl, Nat.le_of_ble_eq_true rfl⟩ 0 1 rfl rfl hc_adr hl.1 rfl (Nat.le_of_ble_eq_true rfl) ⟨by decide, by decide⟩ dX1_cleared_28 (fun H locs hw => ?_)
          refine W.eq (g2 := F0 m 31 ls [.long (lN a)]) rfl ?_
          refine lv_lstore (lv' := [(5, .long (lN a)), (3, .long (lN q)), (0, .ref h0), (1, .int (nI n)), (2, .int (nI k))]) hx hb dX1_cleared_31 hl (by decide) rfl (fun ls hl => ?_)
          refine lv_lload hx hb dX1_cleared_33 (lv_at hl 0 rfl) ?_
          refine lv_lconst (v := lN 0) hx hb dX1_cleared_35 (by decide +kernel) ?_
          refine hn_leq (a := a) (b := 0) (tgt := 47) hx hb (by omega) (by omega) dX1_cleared_36 dX1_cleared_37 (by decide) (fun hc3 => ?_) (fun hc3 => ?_)
          · rw [if_pos hc3] at h
            cases h
          · rw [if_neg hc3] at h
            refine lv_aload_n hx hb dX1_cleared_40 rfl (lv_at hl 2 rfl) ?_
            refine lv_lload hx hb dX1_cleared_41 (lv_at hl 0 rfl) ?_
            refine lv_lload_n hx hb dX1_cleared_43 rfl (lv_at hl 1 rfl) ?_
            rcases hl2 : ph_clr q u3.1 a with ⟨_ | _, M⟩
            · rw [hl2] at h
              simp only [Bool.false_eq_true, if_false] at h
              cases h
              exact hx_thr (rest := []) (n := 2) S hno hw (x_clear l hst D tys cJ ht h0 h1 h2 u3 a q M (by omega) (by omega) hl2) gX1_cleared_X1_clear rfl (by decide +kernel) rfl ⟨Nat.le_of_ble_eq_true rfl, Nat.le_of_ble_eq_true rfl⟩ 0 1 rfl rfl hc_adr hl.1 rfl (Nat.le_of_ble_eq_true rfl) ⟨by decide, by decide⟩ dX1_cleared_44
            · rw [hl2] at h
              simp only [if_true] at h
              cases h
      · exact absurd hc2 (by omega)
set_option maxHeartbeats 4000000 in
set_option maxRecDepth 100000 in
theorem c_free0 (l : Launch) (hst : l.stackTraces = false) (D : va_G) (tys : List (ClassId × FieldType)) (cJ : ClassId) (ht : tys[0]? = some (cJ, .long)) (h0 h1 h2 : Nat) (u : ph_H) : hx_R l D tys yX1_free wsX1_free 11 208 [.ref h0, .int (nI 0)] (hc_W cJ h0 h1 h2 u) (hc_W cJ h0 h1 h2 u) (some (.int (nI 0))) := by
  refine hx_R.ofW (cc := cX1_free) (maxL := 2) (ret := (some .boolean)) (by decide) rfl (Nat.le_of_ble_eq_true rfl) ?_
  intro p e s m below meth c A ls hr S hw hl
  have S : hx_S p l s m _ meth c cX1_free 2 wsX1_free RX1 A D tys := S
  obtain ⟨⟨hx, hb, hml, hown, hts⟩, hK, hA, hE, hlk⟩ := id S
  have hi1 : ∀ w ∈ wsX10, w ∈ wsX1_free := by decide +kernel
  have hl : lv_has ls 2 [(0, .ref h0), (1, .int (nI 0))] := hl
  refine lv_iload_n hx hb dX1_free_0 rfl (lv_at hl 1 rfl) ?_
  refine hn_zne (n := 0) (tgt := 6) hx hb (by omega) dX1_free_1 (by decide) (fun hc => ?_) (fun hc => ?_)
  · exact absurd rfl hc
  · refine lv_iconst (v := nI 0) hx hb dX1_free_4 (by decide +kernel) ?_
    exact hx_zret S hr rfl hw dX1_free_5
set_option maxHeartbeats 4000000 in
set_option maxRecDepth 100000 in
theorem c_free (l : Launch) (hst : l.stackTraces = false) (D : va_G) (tys : List (ClassId × FieldType)) (cJ : ClassId) (ht : tys[0]? = some (cJ, .long)) (h0 h1 h2 : Nat) (u : ph_H) (a : Nat) (u2 : ph_H) (hu : ph_I u) (ha : a < 4294967296) (ha0 : a ≠ 0) (h : ph_give u a = (true, u2)) : hx_R l D tys yX1_free wsX1_free 11 208 [.ref h0, .int (nI a)] (hc_W cJ h0 h1 h2 u) (hc_W cJ h0 h1 h2 u2) (some (.int (nI 1))) := by
  refine hx_R.ofW (cc := cX1_free) (maxL := 2) (ret := (some .boolean)) (by decide) rfl (Nat.le_of_ble_eq_true rfl) ?_
  intro p e s m below meth c A ls hr S hw hl
  have S : hx_S p l s m _ meth c cX1_free 2 wsX1_free RX1 A D tys := S
  obtain ⟨⟨hx, hb, hml, hown, hts⟩, hK, hA, hE, hlk⟩ := id S
  have hi1 : ∀ w ∈ wsX10, w ∈ wsX1_free := by decide +kernel
  have hl : lv_has ls 2 [(0, .ref h0), (1, .int (nI a))] := hl
  unfold ph_give at h
  refine lv_iload_n hx hb dX1_free_0 rfl (lv_at hl 1 rfl) ?_
  refine hn_zne (n := a) (tgt := 6) hx hb (by omega) dX1_free_1 (by decide) (fun hc => ?_) (fun hc => ?_)
  · refine lv_aload_n hx hb dX1_free_6 rfl (lv_at hl 0 rfl) ?_
    refine lv_aload_n hx hb dX1_free_7 rfl (lv_at hl 0 rfl) ?_
    refine lv_iload_n hx hb dX1_free_8 rfl (lv_at hl 1 rfl) ?_
    refine hx_callS (rest := [.ref h0, .ref h0]) (n := 1) S hw (c_unsigned l hst D tys cJ ht h0 h1 h2 u a (by omega)) gX1_free_X1_unsigned rfl (by decide +kernel) rfl ⟨Nat.le_of_ble_eq_true rfl, Nat.le_of_ble_eq_true rfl⟩ hc_adr hl.1 rfl (Nat.le_of_ble_eq_true rfl) ⟨by decide, by decide⟩ dX1_free_9 (fun H locs hw => ?_)
    refine W.eq (g2 := F0 m 12 ls [.long (lN a), .ref h0, .ref h0]) rfl ?_
    rcases hf : ph_fd u.1 u.2.1 a 8064 0 1024 with _ | ⟨b, p0⟩
    · rw [hf] at h
      dsimp only at h
      cases h
    · rw [hf] at h
      dsimp only at h
      cases h
      refine hx_callV (rest := [.ref h0]) (n := 1) S hw (c_takenBlock l hst D tys cJ ht h0 h1 h2 u a b p0 hu (by omega) hf) gX1_free_X1_takenBlock rfl (by decide +kernel) rfl ⟨Nat.le_of_ble_eq_true rfl, Nat.le_of_ble_eq_true rfl⟩ 0 1 rfl rfl hc_adr hl.1 rfl (Nat.le_of_ble_eq_true rfl) ⟨by decide, by decide⟩ dX1_free_12 (fun H locs hw => ?_)
      refine W.eq (g2 := F0 m 15 ls [.long (lN b), .ref h0]) rfl ?_
      refine hx_callV (rest := []) (n := 1) S hw (c_giveBack l hst D tys cJ ht h0 h1 h2 u a b p0 hu hf) gX1_free_X1_giveBack rfl (by decide +kernel) rfl ⟨Nat.le_of_ble_eq_true rfl, Nat.le_of_ble_eq_true rfl⟩ 0 1 rfl rfl hc_adr hl.1 rfl (Nat.le_of_ble_eq_true rfl) ⟨by decide, by decide⟩ dX1_free_15 (fun H locs hw => ?_)
      refine W.eq (g2 := F0 m 18 ls []) rfl ?_
      refine lv_iconst (v := nI 1) hx hb dX1_free_18 (by decide +kernel) ?_
      exact hx_zret S hr rfl hw dX1_free_19
  · exact absurd hc ha0
set_option maxHeartbeats 4000000 in
set_option maxRecDepth 100000 in
theorem x_free (l : Launch) (hst : l.stackTraces = false) (D : va_G) (tys : List (ClassId × FieldType)) (cJ : ClassId) (ht : tys[0]? = some (cJ, .long)) (h0 h1 h2 : Nat) (u : ph_H) (a : Nat) (u2 : ph_H) (hu : ph_I u) (ha : a < 4294967296) (ha0 : a ≠ 0) (h : ph_give u a = (false, u2)) : hx_X l D tys yX1_free wsX1_free 11 208 [.ref h0, .int (nI a)] (hc_W cJ h0 h1 h2 u) (hc_W cJ h0 h1 h2 u2) := by
  refine hx_X.ofW (cc := cX1_free) (maxL := 2) (ret := (some .boolean)) (by decide) rfl (Nat.le_of_ble_eq_true rfl) ?_
  intro p e s m below meth c A ls hr S hno hw hl
  have S : hx_S p l s m _ meth c cX1_free 2 wsX1_free RX1 A D tys := S
  obtain ⟨⟨hx, hb, hml, hown, hts⟩, hK, hA, hE, hlk⟩ := id S
  have hi1 : ∀ w ∈ wsX10, w ∈ wsX1_free := by decide +kernel
  have hl : lv_has ls 2 [(0, .ref h0), (1, .int (nI a))] := hl
  unfold ph_give at h
  refine lv_iload_n hx hb dX1_free_0 rfl (lv_at hl 1 rfl) ?_
  refine hn_zne (n := a) (tgt := 6) hx hb (by omega) dX1_free_1 (by decide) (fun hc => ?_) (fun hc => ?_)
  · refine lv_aload_n hx hb dX1_free_6 rfl (lv_at hl 0 rfl) ?_
    refine lv_aload_n hx hb dX1_free_7 rfl (lv_at hl 0 rfl) ?_
    refine lv_iload_n hx hb dX1_free_8 rfl (lv_at hl 1 rfl) ?_
    refine hx_callS (rest := [.ref h0, .ref h0]) (n := 1) S hw (c_unsigned l hst D tys cJ ht h0 h1 h2 u a (by omega)) gX1_free_X1_unsigned rfl (by decide +kernel) rfl ⟨Nat.le_of_ble_eq_true rfl, Nat.le_of_ble_eq_true rfl⟩ hc_adr hl.1 rfl (Nat.le_of_ble_eq_true rfl) ⟨by decide, by decide⟩ dX1_free_9 (fun H locs hw => ?_)
    refine W.eq (g2 := F0 m 12 ls [.long (lN a), .ref h0, .ref h0]) rfl ?_
    rcases hf : ph_fd u.1 u.2.1 a 8064 0 1024 with _ | ⟨b, p0⟩
    · rw [hf] at h
      dsimp only at h
      cases h
      exact hx_thr (rest := [.ref h0]) (n := 1) S hno hw (x_takenBlock l hst D tys cJ ht h0 h1 h2 u a hu (by omega) hf) gX1_free_X1_takenBlock rfl (by decide +kernel) rfl ⟨Nat.le_of_ble_eq_true rfl, Nat.le_of_ble_eq_true rfl⟩ 0 1 rfl rfl hc_adr hl.1 rfl (Nat.le_of_ble_eq_true rfl) ⟨by decide, by decide⟩ dX1_free_12
    · rw [hf] at h
      dsimp only at h
      cases h
  · exact absurd hc ha0
set_option maxHeartbeats 4000000 in
set_option maxRecDepth 100000 in
theorem c_stack (l : Launch) (hst : l.stackTraces = false) (D : va_G) (tys : List (ClassId × FieldType)) (cJ : ClassId) (ht : tys[0]? = some (cJ, .long)) (h0 h1 h2 : Nat) (u : ph_H) (t : Nat) (hu : ph_I u) (hta : t < 4294967296) : hx_R l D tys yX1_stack wsX1_stack 0 0 [.ref h0, .int (nI t)] (hc_W cJ h0 h1 h2 u) (hc_W cJ h0 h1 h2 (ph_stk u t).2) (some (.int (if (ph_stk u t).1 = true then nI 1 else nI 0))) := by
  refine hx_R.ofW (cc := cX1_stack) (maxL := 2) (ret := (some .boolean)) (by decide) rfl (Nat.le_of_ble_eq_true rfl) ?_
  intro p e s m below meth c A ls hr S hw hl
  have S : hx_S p l s m _ meth c cX1_stack 2 wsX1_stack RX1 A D tys := S
  obtain ⟨⟨hx, hb, hml, hown, hts⟩, hK, hA, hE, hlk⟩ := id S
  have hi1 : ∀ w ∈ wsX10, w ∈ wsX1_stack := by decide +kernel
  have hl : lv_has ls 2 [(0, .ref h0), (1, .int (nI t))] := hl
  obtain ⟨i1, i2, i3, i4⟩ := hu
  unfold ph_stk
  refine lv_iload_n hx hb dX1_stack_0 rfl (lv_at hl 1 rfl) ?_
  refine lv_sipush (v := nI 1024) hx hb dX1_stack_1 (by decide +kernel) ?_
  by_cases kt : t < 2147483648
  · refine hn_ilt (a := t) (b := 1024) (tgt := 23) hx hb (by omega) (by omega) dX1_stack_4 (by decide) (fun hc => ?_) (fun hc => ?_)
    · rw [if_pos (by omega)]
      refine lv_iconst (v := nI 0) hx hb dX1_stack_23 (by decide +kernel) ?_
      exact hx_zret (v := nI 0) S hr rfl hw dX1_stack_24
    · refine lv_iload_n hx hb dX1_stack_7 rfl (lv_at hl 1 rfl) ?_
      refine lv_ldc (v := nI 65536) hx hb hown (hts (.constant RX1 58 (nI 65536)) (by decide +kernel)) dX1_stack_8 ?_
      refine hn_igt (a := t) (b := 65536) (tgt := 23) hx hb (by omega) (by omega) dX1_stack_10 (by decide) (fun hc2 => ?_) (fun hc2 => ?_)
      · rw [if_pos (by omega)]
        refine lv_iconst (v := nI 0) hx hb dX1_stack_23 (by decide +kernel) ?_
        exact hx_zret (v := nI 0) S hr rfl hw dX1_stack_24
      · refine lv_iload_n hx hb dX1_stack_13 rfl (lv_at hl 1 rfl) ?_
        refine lv_i2l (v := lN t) hx hb dX1_stack_14 (nI_l (by omega)) ?_
        refine lv_aload_n hx hb dX1_stack_15 rfl (lv_at hl 0 rfl) ?_
        refine va_get (D := D) (ci := 1) (v := .long (lN u.2.1)) (C := RX1) (T := TX1) (N := 3) hx hb hts hi1 hown hK hw.1 0 rfl rfl 1 (by decide) (hts (.fieldLink RX1 18 "HeapRow" "end" "J") (by decide +kernel)) (fun _ h9 => h9) rfl dX1_stack_16 ?_
        refine hn_lge (a := t) (b := u.2.1) (tgt := 25) hx hb (by omega) (by omega) dX1_stack_19 dX1_stack_20 (by decide) (fun hc3 => ?_) (fun hc3 => ?_)
        · rw [if_neg (by omega)]
          refine lv_aload_n hx hb dX1_stack_25 rfl (lv_at hl 0 rfl) ?_
          refine lv_iload_n hx hb dX1_stack_26 rfl (lv_at hl 1 rfl) ?_
          refine lv_i2l (v := lN t) hx hb dX1_stack_27 (nI_l (by omega)) ?_
          refine va_put (D := D) (ci := 1) (v := .long (lN t)) (ty := .long) (C := RX1) (T := TX1) (N := 3) hx hb hts hi1 tyX1 tyX1_ok nmX1 hown hK hw.1 hw.2.1 hw.2.2 0 rfl rfl 2 (by decide) (hts (.fieldLink RX1 24 "HeapRow" "stackEnd" "J") (by decide +kernel)) (fun _ h9 => h9) rfl (by decide +kernel) rfl rfl (Nat.le_of_ble_eq_true rfl) dX1_stack_28 (fun H locs y1 y2 y3 => ?_)
          have hw : hx_w D A s.heap (hc_W cJ h0 h1 h2 (u.1, u.2.1, t)) H locs := ⟨y1, y2, y3⟩
          refine lv_iconst (v := nI 1) hx hb dX1_stack_31 (by decide +kernel) ?_
          exact hx_zret (v := nI 1) S hr rfl hw dX1_stack_32
        · rw [if_pos (by omega)]
          refine lv_iconst (v := nI 0) hx hb dX1_stack_23 (by decide +kernel) ?_
          exact hx_zret (v := nI 0) S hr rfl hw dX1_stack_24
  · refine lv_icmp_lt (tgt := 23) hx hb dX1_stack_4 (by decide) (fun _ => ?_) (fun z => absurd (hp_ineg (by omega) hta) z)
    rw [if_pos (by omega)]
    refine lv_iconst (v := nI 0) hx hb dX1_stack_23 (by decide +kernel) ?_
    exact hx_zret (v := nI 0) S hr rfl hw dX1_stack_24
set_option maxHeartbeats 4000000 in
set_option maxRecDepth 100000 in
theorem c_put (l : Launch) (hst : l.stackTraces = false) (D : va_G) (tys : List (ClassId × FieldType)) (cJ : ClassId) (ht : tys[0]? = some (cJ, .long)) (h0 h1 h2 : Nat) (u : ph_H) (a v : Nat) (ha : a < 4294967296) (hv : v < 4294967296) : hx_R l D tys yX1_put wsX1_put 7 108 [.ref h0, .int (nI a), .int (nI v)] (hc_W cJ h0 h1 h2 u) (hc_W cJ h0 h1 h2 (if ph_in a then (ph_sb u.1 a v, u.2) else u)) (some (.int (if ph_in a then nI (ph_b u.1 a) else (-1)))) := by
  refine hx_R.ofW (cc := cX1_put) (maxL := 6) (ret := (some .int)) (by decide) rfl (Nat.le_of_ble_eq_true rfl) ?_
  intro p e s m below meth c A ls hr S hw hl
  have S : hx_S p l s m _ meth c cX1_put 6 wsX1_put RX1 A D tys := S
  obtain ⟨⟨hx, hb, hml, hown, hts⟩, hK, hA, hE, hlk⟩ := id S
  have hi1 : ∀ w ∈ wsX10, w ∈ wsX1_put := by decide +kernel
  have hl : lv_has ls 6 [(0, .ref h0), (1, .int (nI a)), (2, .int (nI v))] := hl
  refine lv_iload_n hx hb dX1_put_0 rfl (lv_at hl 1 rfl) ?_
  refine hx_callS (rest := []) (n := 1) S hw (c_unsigned l hst D tys cJ ht h0 h1 h2 u a (by omega)) gX1_put_X1_unsigned rfl (by decide +kernel) rfl ⟨Nat.le_of_ble_eq_true rfl, Nat.le_of_ble_eq_true rfl⟩ hc_adr hl.1 rfl (Nat.le_of_ble_eq_true rfl) ⟨by decide, by decide⟩ dX1_put_1 (fun H locs hw => ?_)
  refine W.eq (g2 := F0 m 4 ls [.long (lN a)]) rfl ?_
  refine lv_lstore_n (lv' := [(3, .long (lN a)), (0, .ref h0), (1, .int (nI a)), (2, .int (nI v))]) hx hb dX1_put_4 rfl hl (by decide) rfl (fun ls hl => ?_)
  refine lv_aload_n hx hb dX1_put_5 rfl (lv_at hl 1 rfl) ?_
  refine va_get (D := D) (ci := 1) (v := .ref h1) (C := RX1) (T := TX1) (N := 3) hx hb hts hi1 hown hK hw.1 0 rfl rfl 0 (by decide) (hts (.fieldLink RX1 12 "HeapRow" "memory" "LHeapRow$Memory;") (by decide +kernel)) (fun _ h9 => h9) rfl dX1_put_6 ?_
  refine lv_lload_n hx hb dX1_put_9 rfl (lv_at hl 0 rfl) ?_
  refine hx_callV (rest := []) (n := 1) S hw (c_has l hst D tys cJ ht h0 h1 h2 u a (by omega)) gX1_put_X0_has rfl (by decide +kernel) rfl ⟨Nat.le_of_ble_eq_true rfl, Nat.le_of_ble_eq_true rfl⟩ 1 0 rfl rfl hc_adr hl.1 rfl (Nat.le_of_ble_eq_true rfl) ⟨by decide, by decide⟩ dX1_put_10 (fun H locs hw => ?_)
  refine W.eq (g2 := F0 m 13 ls [.int (if ph_in a then nI 1 else nI 0)]) rfl ?_
  refine hn_pne (tgt := 18) hx hb dX1_put_13 (by decide) (fun hc => ?_) (fun hc => ?_)
  · rw [if_pos hc, if_pos hc]
    refine lv_aload_n hx hb dX1_put_18 rfl (lv_at hl 1 rfl) ?_
    refine va_get (D := D) (ci := 1) (v := .ref h1) (C := RX1) (T := TX1) (N := 3) hx hb hts hi1 hown hK hw.1 0 rfl rfl 0 (by decide) (hts (.fieldLink RX1 12 "HeapRow" "memory" "LHeapRow$Memory;") (by decide +kernel)) (fun _ h9 => h9) rfl dX1_put_19 ?_
    refine lv_lload_n hx hb dX1_put_22 rfl (lv_at hl 0 rfl) ?_
    refine hx_callV (rest := []) (n := 1) S hw (c_read l hst D tys cJ ht h0 h1 h2 u a hc) gX1_put_X0_read rfl (by decide +kernel) rfl ⟨Nat.le_of_ble_eq_true rfl, Nat.le_of_ble_eq_true rfl⟩ 1 0 rfl rfl hc_adr hl.1 rfl (Nat.le_of_ble_eq_true rfl) ⟨by decide, by decide⟩ dX1_put_23 (fun H locs hw => ?_)
    refine W.eq (g2 := F0 m 26 ls [.int (nI (ph_b u.1 a))]) rfl ?_
    refine lv_istore (lv' := [(5, .int (nI (ph_b u.1 a))), (3, .long (lN a)), (0, .ref h0), (1, .int (nI a)), (2, .int (nI v))]) hx hb dX1_put_26 hl (by decide) rfl (fun ls hl => ?_)
    refine lv_aload_n hx hb dX1_put_28 rfl (lv_at hl 2 rfl) ?_
    refine va_get (D := D) (ci := 1) (v := .ref h1) (C := RX1) (T := TX1) (N := 3) hx hb hts hi1 hown hK hw.1 0 rfl rfl 0 (by decide) (hts (.fieldLink RX1 12 "HeapRow" "memory" "LHeapRow$Memory;") (by decide +kernel)) (fun _ h9 => h9) rfl dX1_put_29 ?_
    refine lv_lload_n hx hb dX1_put_32 rfl (lv_at hl 1 rfl) ?_
    refine lv_iload_n hx hb dX1_put_33 rfl (lv_at hl 4 rfl) ?_
    refine lv_i2l (v := (nI v).toInt64) hx hb dX1_put_34 rfl ?_
    refine hx_callV (rest := []) (n := 2) S hw (c_write l hst D tys cJ ht h0 h1 h2 u a (nI v).toInt64 hc) gX1_put_X0_write rfl (by decide +kernel) rfl ⟨Nat.le_of_ble_eq_true rfl, Nat.le_of_ble_eq_true rfl⟩ 1 0 rfl rfl hc_adr hl.1 rfl (Nat.le_of_ble_eq_true rfl) ⟨by decide, by decide⟩ dX1_put_35 (fun H locs hw => ?_)
    refine W.eq (g2 := F0 m 38 ls []) rfl ?_
    rw [hp_sb u.1 a _ v (hp_low hv)] at hw
    refine lv_iload hx hb dX1_put_38 (lv_at hl 0 rfl) ?_
    exact hx_iret S hr hw dX1_put_40
  · rw [if_neg hc, if_neg hc]
    refine lv_iconst (v := (-1)) hx hb dX1_put_16 (by decide +kernel) ?_
    exact hx_iret S hr hw dX1_put_17
set_option maxHeartbeats 4000000 in
set_option maxRecDepth 100000 in
theorem c_get (l : Launch) (hst : l.stackTraces = false) (D : va_G) (tys : List (ClassId × FieldType)) (cJ : ClassId) (ht : tys[0]? = some (cJ, .long)) (h0 h1 h2 : Nat) (u : ph_H) (a : Nat) (ha : a < 4294967296) : hx_R l D tys yX1_get wsX1_get 7 104 [.ref h0, .int (nI a)] (hc_W cJ h0 h1 h2 u) (hc_W cJ h0 h1 h2 u) (some (.int (if ph_in a then nI (ph_b u.1 a) else (-1)))) := by
  refine hx_R.ofW (cc := cX1_get) (maxL := 4) (ret := (some .int)) (by decide) rfl (Nat.le_of_ble_eq_true rfl) ?_
  intro p e s m below meth c A ls hr S hw hl
  have S : hx_S p l s m _ meth c cX1_get 4 wsX1_get RX1 A D tys := S
  obtain ⟨⟨hx, hb, hml, hown, hts⟩, hK, hA, hE, hlk⟩ := id S
  have hi1 : ∀ w ∈ wsX10, w ∈ wsX1_get := by decide +kernel
  have hl : lv_has ls 4 [(0, .ref h0), (1, .int (nI a))] := hl
  refine lv_iload_n hx hb dX1_get_0 rfl (lv_at hl 1 rfl) ?_
  refine hx_callS (rest := []) (n := 1) S hw (c_unsigned l hst D tys cJ ht h0 h1 h2 u a (by omega)) gX1_get_X1_unsigned rfl (by decide +kernel) rfl ⟨Nat.le_of_ble_eq_true rfl, Nat.le_of_ble_eq_true rfl⟩ hc_adr hl.1 rfl (Nat.le_of_ble_eq_true rfl) ⟨by decide, by decide⟩ dX1_get_1 (fun H locs hw => ?_)
  refine W.eq (g2 := F0 m 4 ls [.long (lN a)]) rfl ?_
  refine lv_lstore_n (lv' := [(2, .long (lN a)), (0, .ref h0), (1, .int (nI a))]) hx hb dX1_get_4 rfl hl (by decide) rfl (fun ls hl => ?_)
  refine lv_aload_n hx hb dX1_get_5 rfl (lv_at hl 1 rfl) ?_
  refine va_get (D := D) (ci := 1) (v := .ref h1) (C := RX1) (T := TX1) (N := 3) hx hb hts hi1 hown hK hw.1 0 rfl rfl 0 (by decide) (hts (.fieldLink RX1 12 "HeapRow" "memory" "LHeapRow$Memory;") (by decide +kernel)) (fun _ h9 => h9) rfl dX1_get_6 ?_
  refine lv_lload_n hx hb dX1_get_9 rfl (lv_at hl 0 rfl) ?_
  refine hx_callV (rest := []) (n := 1) S hw (c_has l hst D tys cJ ht h0 h1 h2 u a (by omega)) gX1_get_X0_has rfl (by decide +kernel) rfl ⟨Nat.le_of_ble_eq_true rfl, Nat.le_of_ble_eq_true rfl⟩ 1 0 rfl rfl hc_adr hl.1 rfl (Nat.le_of_ble_eq_true rfl) ⟨by decide, by decide⟩ dX1_get_10 (fun H locs hw => ?_)
  refine W.eq (g2 := F0 m 13 ls [.int (if ph_in a then nI 1 else nI 0)]) rfl ?_
  refine hn_peq (tgt := 27) hx hb dX1_get_13 (by decide) (fun hc => ?_) (fun hc => ?_)
  · rw [if_neg hc]
    refine lv_iconst (v := (-1)) hx hb dX1_get_27 (by decide +kernel) ?_
    exact hx_iret S hr hw dX1_get_28
  · rw [if_pos hc]
    refine lv_aload_n hx hb dX1_get_16 rfl (lv_at hl 1 rfl) ?_
    refine va_get (D := D) (ci := 1) (v := .ref h1) (C := RX1) (T := TX1) (N := 3) hx hb hts hi1 hown hK hw.1 0 rfl rfl 0 (by decide) (hts (.fieldLink RX1 12 "HeapRow" "memory" "LHeapRow$Memory;") (by decide +kernel)) (fun _ h9 => h9) rfl dX1_get_17 ?_
    refine lv_lload_n hx hb dX1_get_20 rfl (lv_at hl 0 rfl) ?_
    refine hx_callV (rest := []) (n := 1) S hw (c_read l hst D tys cJ ht h0 h1 h2 u a hc) gX1_get_X0_read rfl (by decide +kernel) rfl ⟨Nat.le_of_ble_eq_true rfl, Nat.le_of_ble_eq_true rfl⟩ 1 0 rfl rfl hc_adr hl.1 rfl (Nat.le_of_ble_eq_true rfl) ⟨by decide, by decide⟩ dX1_get_21 (fun H locs hw => ?_)
    refine W.eq (g2 := F0 m 24 ls [.int (nI (ph_b u.1 a))]) rfl ?_
    refine lv_goto (tgt := 28) hx hb dX1_get_24 (by decide) ?_
    exact hx_iret S hr hw dX1_get_28
set_option maxHeartbeats 4000000 in
set_option maxRecDepth 100000 in
theorem c_end (l : Launch) (hst : l.stackTraces = false) (D : va_G) (tys : List (ClassId × FieldType)) (cJ : ClassId) (ht : tys[0]? = some (cJ, .long)) (h0 h1 h2 : Nat) (u : ph_H) : hx_R l D tys yX1_end wsX1_end 0 0 [.ref h0] (hc_W cJ h0 h1 h2 u) (hc_W cJ h0 h1 h2 u) (some (.int (nI u.2.1))) := by
  refine hx_R.ofW (cc := cX1_end) (maxL := 1) (ret := (some .int)) (by decide) rfl (Nat.le_of_ble_eq_true rfl) ?_
  intro p e s m below meth c A ls hr S hw hl
  have S : hx_S p l s m _ meth c cX1_end 1 wsX1_end RX1 A D tys := S
  obtain ⟨⟨hx, hb, hml, hown, hts⟩, hK, hA, hE, hlk⟩ := id S
  have hi1 : ∀ w ∈ wsX10, w ∈ wsX1_end := by decide +kernel
  have hl : lv_has ls 1 [(0, .ref h0)] := hl
  refine lv_aload_n hx hb dX1_end_0 rfl (lv_at hl 0 rfl) ?_
  refine va_get (D := D) (ci := 1) (v := .long (lN u.2.1)) (C := RX1) (T := TX1) (N := 3) hx hb hts hi1 hown hK hw.1 0 rfl rfl 1 (by decide) (hts (.fieldLink RX1 18 "HeapRow" "end" "J") (by decide +kernel)) (fun _ h9 => h9) rfl dX1_end_1 ?_
  refine lv_l2i (v := nI u.2.1) hx hb dX1_end_4 (lN_i _) ?_
  exact hx_iret S hr hw dX1_end_5
