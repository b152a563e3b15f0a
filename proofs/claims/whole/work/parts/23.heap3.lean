/-! HeapRow: taking and giving back -/
set_option maxHeartbeats 4000000 in
set_option maxRecDepth 100000 in
theorem c_takeFree1 (l : Launch) (hst : l.stackTraces = false) (D : va_G) (tys : List (ClassId × FieldType)) (cJ : ClassId) (ht : tys[0]? = some (cJ, .long)) (h0 h1 h2 : Nat) (u : ph_H) (b n : Nat) (g1 : 1024 ≤ b) (g2 : b < 61440) (gs : n ≤ ph_n u.1 b) (h : ph_n u.1 b < n + 16) : hx_R l D tys yX1_takeFree wsX1_takeFree 9 158 [.ref h0, .long (lN b), .long (lN n)] (hc_W cJ h0 h1 h2 u) (hc_W cJ h0 h1 h2 (ph_sn u.1 (b + 4) 1, u.2)) (none) := by
  refine hx_R.ofW (cc := cX1_takeFree) (maxL := 7) (ret := none) (by decide) rfl (Nat.le_of_ble_eq_true rfl) ?_
  intro p e s m below meth c A ls hr S hw hl
  have S : hx_S p l s m _ meth c cX1_takeFree 7 wsX1_takeFree RX1 A D tys := S
  obtain ⟨⟨hx, hb, hml, hown, hts⟩, hK, hA, hE, hlk⟩ := id S
  have hi1 : ∀ w ∈ wsX10, w ∈ wsX1_takeFree := by decide +kernel
  have hl : lv_has ls 7 [(0, .ref h0), (1, .long (lN b)), (3, .long (lN n))] := hl
  have gn := ph_n_lt u.1 b
  refine lv_aload_n hx hb dX1_takeFree_0 rfl (lv_at hl 0 rfl) ?_
  refine lv_lload_n hx hb dX1_takeFree_1 rfl (lv_at hl 1 rfl) ?_
  refine hx_callV (rest := []) (n := 1) S hw (c_size l hst D tys cJ ht h0 h1 h2 u b ⟨by omega, by omega⟩) gX1_takeFree_X1_size rfl (by decide +kernel) rfl ⟨Nat.le_of_ble_eq_true rfl, Nat.le_of_ble_eq_true rfl⟩ 0 1 rfl rfl hc_adr hl.1 rfl (Nat.le_of_ble_eq_true rfl) ⟨by decide, by decide⟩ dX1_takeFree_2 (fun H locs hw => ?_)
  refine W.eq (g2 := F0 m 5 ls [.long (lN (ph_n u.1 b))]) rfl ?_
  refine lv_lstore (lv' := [(5, .long (lN (ph_n u.1 b))), (0, .ref h0), (1, .long (lN b)), (3, .long (lN n))]) hx hb dX1_takeFree_5 hl (by decide) rfl (fun ls hl => ?_)
  refine lv_lload hx hb dX1_takeFree_7 (lv_at hl 0 rfl) ?_
  refine lv_lload_n hx hb dX1_takeFree_9 rfl (lv_at hl 3 rfl) ?_
  refine lv_ldc2 (v := lN 16) hx hb hown (hts (.constantLong RX1 101 (lN 16)) (by decide +kernel)) dX1_takeFree_10 ?_
  refine hn_ladd (v := lN (n + 16)) hx hb dX1_takeFree_13 (lN_add _ _) ?_
  refine hn_lge (a := (ph_n u.1 b)) (b := (n + 16)) (tgt := 27) hx hb (by omega) (by omega) dX1_takeFree_14 dX1_takeFree_15 (by decide) (fun hc => ?_) (fun hc => ?_)
  · exact absurd hc (by omega)
  · have e : (ph_wh u.1 b (ph_n u.1 b) 1).2 = ph_sn u.1 (b + 4) 1 := by rw [ph_wh_of ⟨by omega, by omega⟩ ⟨by omega, by omega⟩]; show ph_sn (ph_sn u.1 b (ph_n u.1 b)) (b + 4) 1 = _; rw [ph_sn_self]
    refine lv_aload_n hx hb dX1_takeFree_18 rfl (lv_at hl 1 rfl) ?_
    refine lv_lload_n hx hb dX1_takeFree_19 rfl (lv_at hl 2 rfl) ?_
    refine lv_lload hx hb dX1_takeFree_20 (lv_at hl 0 rfl) ?_
    refine lv_iconst (v := nI 1) hx hb dX1_takeFree_22 (by decide +kernel) ?_
    refine hx_callV (rest := []) (n := 3) S hw (c_writeHeader l hst D tys cJ ht h0 h1 h2 u (b) (ph_n u.1 b) 1 (by omega) (by decide) (by rw [ph_wh_of ⟨by omega, by omega⟩ ⟨by omega, by omega⟩])) gX1_takeFree_X1_writeHeader rfl (by decide +kernel) rfl ⟨Nat.le_of_ble_eq_true rfl, Nat.le_of_ble_eq_true rfl⟩ 0 1 rfl rfl hc_adr hl.1 rfl (Nat.le_of_ble_eq_true rfl) ⟨by decide, by decide⟩ dX1_takeFree_23 (fun H locs hw => ?_)
    refine W.eq (g2 := F0 m 26 ls []) rfl ?_
    rw [e] at hw
    exact hx_vret S hr hw dX1_takeFree_26
set_option maxHeartbeats 4000000 in
set_option maxRecDepth 100000 in
theorem c_takeFree2 (l : Launch) (hst : l.stackTraces = false) (D : va_G) (tys : List (ClassId × FieldType)) (cJ : ClassId) (ht : tys[0]? = some (cJ, .long)) (h0 h1 h2 : Nat) (u : ph_H) (b n : Nat) (g1 : 1024 ≤ b) (g2 : b < 61440) (gs : n ≤ ph_n u.1 b) (h : ¬ ph_n u.1 b < n + 16) (hp1 : (ph_wh u.1 (b + 8 + n) (ph_n u.1 b - n - 8) 0).1 = true) : hx_R l D tys yX1_takeFree wsX1_takeFree 9 158 [.ref h0, .long (lN b), .long (lN n)] (hc_W cJ h0 h1 h2 u) (hc_W cJ h0 h1 h2 (ph_sn (ph_sn (ph_wh u.1 (b + 8 + n) (ph_n u.1 b - n - 8) 0).2 b n) (b + 4) 1, u.2)) (none) := by
  refine hx_R.ofW (cc := cX1_takeFree) (maxL := 7) (ret := none) (by decide) rfl (Nat.le_of_ble_eq_true rfl) ?_
  intro p e s m below meth c A ls hr S hw hl
  have S : hx_S p l s m _ meth c cX1_takeFree 7 wsX1_takeFree RX1 A D tys := S
  obtain ⟨⟨hx, hb, hml, hown, hts⟩, hK, hA, hE, hlk⟩ := id S
  have hi1 : ∀ w ∈ wsX10, w ∈ wsX1_takeFree := by decide +kernel
  have hl : lv_has ls 7 [(0, .ref h0), (1, .long (lN b)), (3, .long (lN n))] := hl
  have gn := ph_n_lt u.1 b
  refine lv_aload_n hx hb dX1_takeFree_0 rfl (lv_at hl 0 rfl) ?_
  refine lv_lload_n hx hb dX1_takeFree_1 rfl (lv_at hl 1 rfl) ?_
  refine hx_callV (rest := []) (n := 1) S hw (c_size l hst D tys cJ ht h0 h1 h2 u b ⟨by omega, by omega⟩) gX1_takeFree_X1_size rfl (by decide +kernel) rfl ⟨Nat.le_of_ble_eq_true rfl, Nat.le_of_ble_eq_true rfl⟩ 0 1 rfl rfl hc_adr hl.1 rfl (Nat.le_of_ble_eq_true rfl) ⟨by decide, by decide⟩ dX1_takeFree_2 (fun H locs hw => ?_)
  refine W.eq (g2 := F0 m 5 ls [.long (lN (ph_n u.1 b))]) rfl ?_
  refine lv_lstore (lv' := [(5, .long (lN (ph_n u.1 b))), (0, .ref h0), (1, .long (lN b)), (3, .long (lN n))]) hx hb dX1_takeFree_5 hl (by decide) rfl (fun ls hl => ?_)
  refine lv_lload hx hb dX1_takeFree_7 (lv_at hl 0 rfl) ?_
  refine lv_lload_n hx hb dX1_takeFree_9 rfl (lv_at hl 3 rfl) ?_
  refine lv_ldc2 (v := lN 16) hx hb hown (hts (.constantLong RX1 101 (lN 16)) (by decide +kernel)) dX1_takeFree_10 ?_
  refine hn_ladd (v := lN (n + 16)) hx hb dX1_takeFree_13 (lN_add _ _) ?_
  refine hn_lge (a := (ph_n u.1 b)) (b := (n + 16)) (tgt := 27) hx hb (by omega) (by omega) dX1_takeFree_14 dX1_takeFree_15 (by decide) (fun hc => ?_) (fun hc => ?_)
  · have e : (ph_wh (ph_wh u.1 (b + 8 + n) (ph_n u.1 b - n - 8) 0).2 b n 1).2 = ph_sn (ph_sn (ph_wh u.1 (b + 8 + n) (ph_n u.1 b - n - 8) 0).2 b n) (b + 4) 1 := by rw [ph_wh_of (m := (ph_wh u.1 (b + 8 + n) (ph_n u.1 b - n - 8) 0).2) (a := b) ⟨by omega, by omega⟩ ⟨by omega, by omega⟩]
    refine lv_aload_n hx hb dX1_takeFree_27 rfl (lv_at hl 1 rfl) ?_
    refine lv_lload_n hx hb dX1_takeFree_28 rfl (lv_at hl 2 rfl) ?_
    refine lv_ldc2 (v := lN 8) hx hb hown (hts (.constantLong RX1 72 (lN 8)) (by decide +kernel)) dX1_takeFree_29 ?_
    refine hn_ladd (v := lN (b + 8)) hx hb dX1_takeFree_32 (lN_add _ _) ?_
    refine lv_lload_n hx hb dX1_takeFree_33 rfl (lv_at hl 3 rfl) ?_
    refine hn_ladd (v := lN ((b + 8) + n)) hx hb dX1_takeFree_34 (lN_add _ _) ?_
    refine lv_lload hx hb dX1_takeFree_35 (lv_at hl 0 rfl) ?_
    refine lv_lload_n hx hb dX1_takeFree_37 rfl (lv_at hl 3 rfl) ?_
    refine hn_lsub (v := lN ((ph_n u.1 b) - n)) hx hb dX1_takeFree_38 (lN_sub (by omega)) ?_
    refine lv_ldc2 (v := lN 8) hx hb hown (hts (.constantLong RX1 72 (lN 8)) (by decide +kernel)) dX1_takeFree_39 ?_
    refine hn_lsub (v := lN (((ph_n u.1 b) - n) - 8)) hx hb dX1_takeFree_42 (lN_sub (by omega)) ?_
    refine lv_iconst (v := nI 0) hx hb dX1_takeFree_43 (by decide +kernel) ?_
    refine hx_callV (rest := []) (n := 3) S hw (c_writeHeader l hst D tys cJ ht h0 h1 h2 u (b + 8 + n) (ph_n u.1 b - n - 8) 0 (by omega) (by decide) (hp1)) gX1_takeFree_X1_writeHeader rfl (by decide +kernel) rfl ⟨Nat.le_of_ble_eq_true rfl, Nat.le_of_ble_eq_true rfl⟩ 0 1 rfl rfl hc_adr hl.1 rfl (Nat.le_of_ble_eq_true rfl) ⟨by decide, by decide⟩ dX1_takeFree_44 (fun H locs hw => ?_)
    refine W.eq (g2 := F0 m 47 ls []) rfl ?_
    refine lv_aload_n hx hb dX1_takeFree_47 rfl (lv_at hl 1 rfl) ?_
    refine lv_lload_n hx hb dX1_takeFree_48 rfl (lv_at hl 2 rfl) ?_
    refine lv_lload_n hx hb dX1_takeFree_49 rfl (lv_at hl 3 rfl) ?_
    refine lv_iconst (v := nI 1) hx hb dX1_takeFree_50 (by decide +kernel) ?_
    refine hx_callV (rest := []) (n := 3) S hw (c_writeHeader l hst D tys cJ ht h0 h1 h2 ((ph_wh u.1 (b + 8 + n) (ph_n u.1 b - n - 8) 0).2, u.2) (b) (n) 1 (by omega) (by decide) (by show (ph_wh (ph_wh u.1 (b + 8 + n) (ph_n u.1 b - n - 8) 0).2 b n 1).1 = true; rw [ph_wh_of (m := (ph_wh u.1 (b + 8 + n) (ph_n u.1 b - n - 8) 0).2) (a := b) ⟨by omega, by omega⟩ ⟨by omega, by omega⟩])) gX1_takeFree_X1_writeHeader rfl (by decide +kernel) rfl ⟨Nat.le_of_ble_eq_true rfl, Nat.le_of_ble_eq_true rfl⟩ 0 1 rfl rfl hc_adr hl.1 rfl (Nat.le_of_ble_eq_true rfl) ⟨by decide, by decide⟩ dX1_takeFree_51 (fun H locs hw => ?_)
    refine W.eq (g2 := F0 m 54 ls []) rfl ?_
    have hw : hx_w D A s.heap (hc_W cJ h0 h1 h2 (ph_sn (ph_sn (ph_wh u.1 (b + 8 + n) (ph_n u.1 b - n - 8) 0).2 b n) (b + 4) 1, u.2)) H locs := by rw [← e]; exact hw
    exact hx_vret S hr hw dX1_takeFree_54
  · exact absurd hc (by omega)
set_option maxHeartbeats 4000000 in
set_option maxRecDepth 100000 in
theorem x_takeFree (l : Launch) (hst : l.stackTraces = false) (D : va_G) (tys : List (ClassId × FieldType)) (cJ : ClassId) (ht : tys[0]? = some (cJ, .long)) (h0 h1 h2 : Nat) (u : ph_H) (b n : Nat) (g1 : 1024 ≤ b) (g2 : b < 61440) (gs : n ≤ ph_n u.1 b) (h : ¬ ph_n u.1 b < n + 16) (hp1 : ¬ (ph_wh u.1 (b + 8 + n) (ph_n u.1 b - n - 8) 0).1 = true) : hx_X l D tys yX1_takeFree wsX1_takeFree 9 158 [.ref h0, .long (lN b), .long (lN n)] (hc_W cJ h0 h1 h2 u) (hc_W cJ h0 h1 h2 ((ph_wh u.1 (b + 8 + n) (ph_n u.1 b - n - 8) 0).2, u.2)) := by
  refine hx_X.ofW (cc := cX1_takeFree) (maxL := 7) (ret := none) (by decide) rfl (Nat.le_of_ble_eq_true rfl) ?_
  intro p e s m below meth c A ls hr S hno hw hl
  have S : hx_S p l s m _ meth c cX1_takeFree 7 wsX1_takeFree RX1 A D tys := S
  obtain ⟨⟨hx, hb, hml, hown, hts⟩, hK, hA, hE, hlk⟩ := id S
  have hi1 : ∀ w ∈ wsX10, w ∈ wsX1_takeFree := by decide +kernel
  have hl : lv_has ls 7 [(0, .ref h0), (1, .long (lN b)), (3, .long (lN n))] := hl
  have gn := ph_n_lt u.1 b
  refine lv_aload_n hx hb dX1_takeFree_0 rfl (lv_at hl 0 rfl) ?_
  refine lv_lload_n hx hb dX1_takeFree_1 rfl (lv_at hl 1 rfl) ?_
  refine hx_callV (rest := []) (n := 1) S hw (c_size l hst D tys cJ ht h0 h1 h2 u b ⟨by omega, by omega⟩) gX1_takeFree_X1_size rfl (by decide +kernel) rfl ⟨Nat.le_of_ble_eq_true rfl, Nat.le_of_ble_eq_true rfl⟩ 0 1 rfl rfl hc_adr hl.1 rfl (Nat.le_of_ble_eq_true rfl) ⟨by decide, by decide⟩ dX1_takeFree_2 (fun H locs hw => ?_)
  refine W.eq (g2 := F0 m 5 ls [.long (lN (ph_n u.1 b))]) rfl ?_
  refine lv_lstore (lv' := [(5, .long (lN (ph_n u.1 b))), (0, .ref h0), (1, .long (lN b)), (3, .long (lN n))]) hx hb dX1_takeFree_5 hl (by decide) rfl (fun ls hl => ?_)
  refine lv_lload hx hb dX1_takeFree_7 (lv_at hl 0 rfl) ?_
  refine lv_lload_n hx hb dX1_takeFree_9 rfl (lv_at hl 3 rfl) ?_
  refine lv_ldc2 (v := lN 16) hx hb hown (hts (.constantLong RX1 101 (lN 16)) (by decide +kernel)) dX1_takeFree_10 ?_
  refine hn_ladd (v := lN (n + 16)) hx hb dX1_takeFree_13 (lN_add _ _) ?_
  refine hn_lge (a := (ph_n u.1 b)) (b := (n + 16)) (tgt := 27) hx hb (by omega) (by omega) dX1_takeFree_14 dX1_takeFree_15 (by decide) (fun hc => ?_) (fun hc => ?_)
  · refine lv_aload_n hx hb dX1_takeFree_27 rfl (lv_at hl 1 rfl) ?_
    refine lv_lload_n hx hb dX1_takeFree_28 rfl (lv_at hl 2 rfl) ?_
    refine lv_ldc2 (v := lN 8) hx hb hown (hts (.constantLong RX1 72 (lN 8)) (by decide +kernel)) dX1_takeFree_29 ?_
    refine hn_ladd (v := lN (b + 8)) hx hb dX1_takeFree_32 (lN_add _ _) ?_
    refine lv_lload_n hx hb dX1_takeFree_33 rfl (lv_at hl 3 rfl) ?_
    refine hn_ladd (v := lN ((b + 8) + n)) hx hb dX1_takeFree_34 (lN_add _ _) ?_
    refine lv_lload hx hb dX1_takeFree_35 (lv_at hl 0 rfl) ?_
    refine lv_lload_n hx hb dX1_takeFree_37 rfl (lv_at hl 3 rfl) ?_
    refine hn_lsub (v := lN ((ph_n u.1 b) - n)) hx hb dX1_takeFree_38 (lN_sub (by omega)) ?_
    refine lv_ldc2 (v := lN 8) hx hb hown (hts (.constantLong RX1 72 (lN 8)) (by decide +kernel)) dX1_takeFree_39 ?_
    refine hn_lsub (v := lN (((ph_n u.1 b) - n) - 8)) hx hb dX1_takeFree_42 (lN_sub (by omega)) ?_
    refine lv_iconst (v := nI 0) hx hb dX1_takeFree_43 (by decide +kernel) ?_
    exact hx_thr (rest := []) (n := 3) S hno hw (x_writeHeader l hst D tys cJ ht h0 h1 h2 u (b + 8 + n) (ph_n u.1 b - n - 8) 0 (by omega) (by omega) (by decide) hp1) gX1_takeFree_X1_writeHeader rfl (by decide +kernel) rfl ⟨Nat.le_of_ble_eq_true rfl, Nat.le_of_ble_eq_true rfl⟩ 0 1 rfl rfl hc_adr hl.1 rfl (Nat.le_of_ble_eq_true rfl) ⟨by decide, by decide⟩ dX1_takeFree_44
  · exact absurd hc (by omega)
set_option maxHeartbeats 4000000 in
set_option maxRecDepth 100000 in
theorem c_takeAtEnd (l : Launch) (hst : l.stackTraces = false) (D : va_G) (tys : List (ClassId × FieldType)) (cJ : ClassId) (ht : tys[0]? = some (cJ, .long)) (h0 h1 h2 : Nat) (u : ph_H) (n : Nat) (hu : ph_I u) (h : u.2.1 + 8 + n ≤ 61440) : hx_R l D tys yX1_takeAtEnd wsX1_takeAtEnd 9 158 [.ref h0, .long (lN n)] (hc_W cJ h0 h1 h2 u) (hc_W cJ h0 h1 h2 (ph_sn (ph_sn u.1 u.2.1 n) (u.2.1 + 4) 1, u.2.1 + 8 + n, u.2.2)) (some (.long (lN (u.2.1 + 8)))) := by
  refine hx_R.ofW (cc := cX1_takeAtEnd) (maxL := 5) (ret := (some .long)) (by decide) rfl (Nat.le_of_ble_eq_true rfl) ?_
  intro p e s m below meth c A ls hr S hw hl
  have S : hx_S p l s m _ meth c cX1_takeAtEnd 5 wsX1_takeAtEnd RX1 A D tys := S
  obtain ⟨⟨hx, hb, hml, hown, hts⟩, hK, hA, hE, hlk⟩ := id S
  have hi1 : ∀ w ∈ wsX10, w ∈ wsX1_takeAtEnd := by decide +kernel
  have hl : lv_has ls 5 [(0, .ref h0), (1, .long (lN n))] := hl
  obtain ⟨i1, i2, i3, i4⟩ := hu
  have e : (ph_wh u.1 u.2.1 n 1).2 = ph_sn (ph_sn u.1 u.2.1 n) (u.2.1 + 4) 1 := by rw [ph_wh_of ⟨by omega, by omega⟩ ⟨by omega, by omega⟩]
  refine lv_aload_n hx hb dX1_takeAtEnd_0 rfl (lv_at hl 0 rfl) ?_
  refine va_get (D := D) (ci := 1) (v := .long (lN u.2.1)) (C := RX1) (T := TX1) (N := 3) hx hb hts hi1 hown hK hw.1 0 rfl rfl 1 (by decide) (hts (.fieldLink RX1 18 "HeapRow" "end" "J") (by decide +kernel)) (fun _ h9 => h9) rfl dX1_takeAtEnd_1 ?_
  refine lv_ldc2 (v := lN 8) hx hb hown (hts (.constantLong RX1 72 (lN 8)) (by decide +kernel)) dX1_takeAtEnd_4 ?_
  refine hn_ladd (v := lN (u.2.1 + 8)) hx hb dX1_takeAtEnd_7 (lN_add _ _) ?_
  refine lv_lstore_n (lv' := [(3, .long (lN (u.2.1 + 8))), (0, .ref h0), (1, .long (lN n))]) hx hb dX1_takeAtEnd_8 rfl hl (by decide) rfl (fun ls hl => ?_)
  refine lv_aload_n hx hb dX1_takeAtEnd_9 rfl (lv_at hl 1 rfl) ?_
  refine lv_aload_n hx hb dX1_takeAtEnd_10 rfl (lv_at hl 1 rfl) ?_
  refine va_get (D := D) (ci := 1) (v := .long (lN u.2.1)) (C := RX1) (T := TX1) (N := 3) hx hb hts hi1 hown hK hw.1 0 rfl rfl 1 (by decide) (hts (.fieldLink RX1 18 "HeapRow" "end" "J") (by decide +kernel)) (fun _ h9 => h9) rfl dX1_takeAtEnd_11 ?_
  refine lv_lload_n hx hb dX1_takeAtEnd_14 rfl (lv_at hl 2 rfl) ?_
  refine lv_iconst (v := nI 1) hx hb dX1_takeAtEnd_15 (by decide +kernel) ?_
  refine hx_callV (rest := []) (n := 3) S hw (c_writeHeader l hst D tys cJ ht h0 h1 h2 u (u.2.1) (n) 1 (by omega) (by decide) (by rw [ph_wh_of ⟨by omega, by omega⟩ ⟨by omega, by omega⟩])) gX1_takeAtEnd_X1_writeHeader rfl (by decide +kernel) rfl ⟨Nat.le_of_ble_eq_true rfl, Nat.le_of_ble_eq_true rfl⟩ 0 1 rfl rfl hc_adr hl.1 rfl (Nat.le_of_ble_eq_true rfl) ⟨by decide, by decide⟩ dX1_takeAtEnd_16 (fun H locs hw => ?_)
  refine W.eq (g2 := F0 m 19 ls []) rfl ?_
  rw [e] at hw
  refine lv_aload_n hx hb dX1_takeAtEnd_19 rfl (lv_at hl 1 rfl) ?_
  refine lv_lload_n hx hb dX1_takeAtEnd_20 rfl (lv_at hl 0 rfl) ?_
  refine lv_lload_n hx hb dX1_takeAtEnd_21 rfl (lv_at hl 2 rfl) ?_
  refine hn_ladd (v := lN ((u.2.1 + 8) + n)) hx hb dX1_takeAtEnd_22 (lN_add _ _) ?_
  refine va_put (D := D) (ci := 1) (v := .long (lN ((u.2.1 + 8) + n))) (ty := .long) (C := RX1) (T := TX1) (N := 3) hx hb hts hi1 tyX1 tyX1_ok nmX1 hown hK hw.1 hw.2.1 hw.2.2 0 rfl rfl 1 (by decide) (hts (.fieldLink RX1 18 "HeapRow" "end" "J") (by decide +kernel)) (fun _ h9 => h9) rfl (by decide +kernel) rfl rfl (Nat.le_of_ble_eq_true rfl) dX1_takeAtEnd_23 (fun H locs y1 y2 y3 => ?_)
  have hw : hx_w D A s.heap (hc_W cJ h0 h1 h2 (ph_sn (ph_sn u.1 u.2.1 n) (u.2.1 + 4) 1, u.2.1 + 8 + n, u.2.2)) H locs := ⟨y1, y2, y3⟩
  refine lv_lload_n hx hb dX1_takeAtEnd_26 rfl (lv_at hl 0 rfl) ?_
  exact hx_lret S hr hw dX1_takeAtEnd_27
set_option maxHeartbeats 4000000 in
set_option maxRecDepth 100000 in
theorem c_joinNext (l : Launch) (hst : l.stackTraces = false) (D : va_G) (tys : List (ClassId × FieldType)) (cJ : ClassId) (ht : tys[0]? = some (cJ, .long)) (h0 h1 h2 : Nat) (u : ph_H) (b : Nat) (hu : ph_I u) (g1 : 1024 ≤ b) (g2 : b < 61440) : hx_R l D tys yX1_joinNext wsX1_joinNext 9 158 [.ref h0, .long (lN b)] (hc_W cJ h0 h1 h2 u) (hc_W cJ h0 h1 h2 (ph_jn u.1 u.2.1 b, u.2)) (none) := by
  refine hx_R.ofW (cc := cX1_joinNext) (maxL := 5) (ret := none) (by decide) rfl (Nat.le_of_ble_eq_true rfl) ?_
  intro p e s m below meth c A ls hr S hw hl
  have S : hx_S p l s m _ meth c cX1_joinNext 5 wsX1_joinNext RX1 A D tys := S
  obtain ⟨⟨hx, hb, hml, hown, hts⟩, hK, hA, hE, hlk⟩ := id S
  have hi1 : ∀ w ∈ wsX10, w ∈ wsX1_joinNext := by decide +kernel
  have hl : lv_has ls 5 [(0, .ref h0), (1, .long (lN b))] := hl
  obtain ⟨i1, i2, i3, i4⟩ := hu
  have gn := ph_n_lt u.1 b
  refine lv_aload_n hx hb dX1_joinNext_0 rfl (lv_at hl 0 rfl) ?_
  refine lv_lload_n hx hb dX1_joinNext_1 rfl (lv_at hl 1 rfl) ?_
  refine hx_callV (rest := []) (n := 1) S hw (c_next l hst D tys cJ ht h0 h1 h2 u b ⟨by omega, by omega⟩) gX1_joinNext_X1_next rfl (by decide +kernel) rfl ⟨Nat.le_of_ble_eq_true rfl, Nat.le_of_ble_eq_true rfl⟩ 0 1 rfl rfl hc_adr hl.1 rfl (Nat.le_of_ble_eq_true rfl) ⟨by decide, by decide⟩ dX1_joinNext_2 (fun H locs hw => ?_)
  refine W.eq (g2 := F0 m 5 ls [.long (lN (b + 8 + ph_n u.1 b))]) rfl ?_
  refine lv_lstore_n (lv' := [(3, .long (lN (b + 8 + ph_n u.1 b))), (0, .ref h0), (1, .long (lN b))]) hx hb dX1_joinNext_5 rfl hl (by decide) rfl (fun ls hl => ?_)
  refine lv_lload_n hx hb dX1_joinNext_6 rfl (lv_at hl 0 rfl) ?_
  refine lv_aload_n hx hb dX1_joinNext_7 rfl (lv_at hl 1 rfl) ?_
  refine va_get (D := D) (ci := 1) (v := .long (lN u.2.1)) (C := RX1) (T := TX1) (N := 3) hx hb hts hi1 hown hK hw.1 0 rfl rfl 1 (by decide) (hts (.fieldLink RX1 18 "HeapRow" "end" "J") (by decide +kernel)) (fun _ h9 => h9) rfl dX1_joinNext_8 ?_
  refine hn_lge (a := (b + 8 + ph_n u.1 b)) (b := u.2.1) (tgt := 44) hx hb (by omega) (by omega) dX1_joinNext_11 dX1_joinNext_12 (by decide) (fun hc => ?_) (fun hc => ?_)
  · have e : ph_jn u.1 u.2.1 b = u.1 := if_neg (fun z => absurd z.1 (by omega))
    rw [e]
    exact hx_vret S hr hw dX1_joinNext_44
  · have gn2 := ph_n_lt u.1 (b + 8 + ph_n u.1 b)
    refine lv_aload_n hx hb dX1_joinNext_15 rfl (lv_at hl 1 rfl) ?_
    refine lv_lload_n hx hb dX1_joinNext_16 rfl (lv_at hl 0 rfl) ?_
    refine hx_callV (rest := []) (n := 1) S hw (c_isTaken l hst D tys cJ ht h0 h1 h2 u (b + 8 + ph_n u.1 b) ⟨by omega, by omega⟩) gX1_joinNext_X1_isTaken rfl (by decide +kernel) rfl ⟨Nat.le_of_ble_eq_true rfl, Nat.le_of_ble_eq_true rfl⟩ 0 1 rfl rfl hc_adr hl.1 rfl (Nat.le_of_ble_eq_true rfl) ⟨by decide, by decide⟩ dX1_joinNext_17 (fun H locs hw => ?_)
    refine W.eq (g2 := F0 m 20 ls [.int (if ph_n u.1 ((b + 8 + ph_n u.1 b) + 4) = 1 then nI 1 else nI 0)]) rfl ?_
    refine hn_pne (tgt := 44) hx hb dX1_joinNext_20 (by decide) (fun hc2 => ?_) (fun hc2 => ?_)
    · have e : ph_jn u.1 u.2.1 b = u.1 := if_neg (fun z => z.2 hc2)
      rw [e]
      exact hx_vret S hr hw dX1_joinNext_44
    · refine lv_aload_n hx hb dX1_joinNext_23 rfl (lv_at hl 1 rfl) ?_
      refine lv_lload_n hx hb dX1_joinNext_24 rfl (lv_at hl 2 rfl) ?_
      refine lv_aload_n hx hb dX1_joinNext_25 rfl (lv_at hl 1 rfl) ?_
      refine lv_lload_n hx hb dX1_joinNext_26 rfl (lv_at hl 2 rfl) ?_
      refine hx_callV (rest := [.long (lN b), .ref h0]) (n := 1) S hw (c_size l hst D tys cJ ht h0 h1 h2 u b ⟨by omega, by omega⟩) gX1_joinNext_X1_size rfl (by decide +kernel) rfl ⟨Nat.le_of_ble_eq_true rfl, Nat.le_of_ble_eq_true rfl⟩ 0 1 rfl rfl hc_adr hl.1 rfl (Nat.le_of_ble_eq_true rfl) ⟨by decide, by decide⟩ dX1_joinNext_27 (fun H locs hw => ?_)
      refine W.eq (g2 := F0 m 30 ls [.long (lN (ph_n u.1 b)), .long (lN b), .ref h0]) rfl ?_
      refine lv_ldc2 (v := lN 8) hx hb hown (hts (.constantLong RX1 72 (lN 8)) (by decide +kernel)) dX1_joinNext_30 ?_
      refine hn_ladd (v := lN ((ph_n u.1 b) + 8)) hx hb dX1_joinNext_33 (lN_add _ _) ?_
      refine lv_aload_n hx hb dX1_joinNext_34 rfl (lv_at hl 1 rfl) ?_
      refine lv_lload_n hx hb dX1_joinNext_35 rfl (lv_at hl 0 rfl) ?_
      refine hx_callV (rest := [.long (lN ((ph_n u.1 b) + 8)), .long (lN b), .ref h0]) (n := 1) S hw (c_size l hst D tys cJ ht h0 h1 h2 u (b + 8 + ph_n u.1 b) ⟨by omega, by omega⟩) gX1_joinNext_X1_size rfl (by decide +kernel) rfl ⟨Nat.le_of_ble_eq_true rfl, Nat.le_of_ble_eq_true rfl⟩ 0 1 rfl rfl hc_adr hl.1 rfl (Nat.le_of_ble_eq_true rfl) ⟨by decide, by decide⟩ dX1_joinNext_36 (fun H locs hw => ?_)
      refine W.eq (g2 := F0 m 39 ls [.long (lN (ph_n u.1 (b + 8 + ph_n u.1 b))), .long (lN ((ph_n u.1 b) + 8)), .long (lN b), .ref h0]) rfl ?_
      refine hn_ladd (v := lN (((ph_n u.1 b) + 8) + (ph_n u.1 (b + 8 + ph_n u.1 b)))) hx hb dX1_joinNext_39 (lN_add _ _) ?_
      refine lv_iconst (v := nI 0) hx hb dX1_joinNext_40 (by decide +kernel) ?_
      have e : ph_jn u.1 u.2.1 b = (ph_wh u.1 b (ph_n u.1 b + 8 + ph_n u.1 (b + 8 + ph_n u.1 b)) 0).2 := by rw [ph_wh_of ⟨by omega, by omega⟩ ⟨by omega, by omega⟩]; exact if_pos ⟨hc, hc2⟩
      refine hx_callV (rest := []) (n := 3) S hw (c_writeHeader l hst D tys cJ ht h0 h1 h2 u (b) (ph_n u.1 b + 8 + ph_n u.1 (b + 8 + ph_n u.1 b)) 0 (by omega) (by decide) (by rw [ph_wh_of ⟨by omega, by omega⟩ ⟨by omega, by omega⟩])) gX1_joinNext_X1_writeHeader rfl (by decide +kernel) rfl ⟨Nat.le_of_ble_eq_true rfl, Nat.le_of_ble_eq_true rfl⟩ 0 1 rfl rfl hc_adr hl.1 rfl (Nat.le_of_ble_eq_true rfl) ⟨by decide, by decide⟩ dX1_joinNext_41 (fun H locs hw => ?_)
      refine W.eq (g2 := F0 m 44 ls []) rfl ?_
      rw [e]
      exact hx_vret S hr hw dX1_joinNext_44
theorem ph_jn_low (m : ph_M) {e b j : Nat} (h : j < b) : ph_b (ph_jn m e b) j = ph_b m j := by
  unfold ph_jn
  split
  · rw [ph_sn_off _ _ (by omega), ph_sn_off _ _ (by omega)]
  · rfl
theorem ph_g1_low (m : ph_M) {e b j : Nat} (h : j < b) : ph_b (ph_g1 m e b) j = ph_b m j := by
  unfold ph_g1
  rw [ph_jn_low _ h, ph_sn_off _ _ (by omega)]
set_option maxHeartbeats 4000000 in
set_option maxRecDepth 100000 in
theorem c_giveBack (l : Launch) (hst : l.stackTraces = false) (D : va_G) (tys : List (ClassId × FieldType)) (cJ : ClassId) (ht : tys[0]? = some (cJ, .long)) (h0 h1 h2 : Nat) (u : ph_H) (a b p0 : Nat) (hu : ph_I u) (hq : ph_fd u.1 u.2.1 a 8064 0 1024 = some (b, p0)) : hx_R l D tys yX1_giveBack wsX1_giveBack 10 182 [.ref h0, .long (lN b)] (hc_W cJ h0 h1 h2 u) (hc_W cJ h0 h1 h2 (ph_gb u b p0)) (none) := by
  refine hx_R.ofW (cc := cX1_giveBack) (maxL := 7) (ret := none) (by decide) rfl (Nat.le_of_ble_eq_true rfl) ?_
  intro p e s m below meth c A ls hr S hw hl
  have S : hx_S p l s m _ meth c cX1_giveBack 7 wsX1_giveBack RX1 A D tys := S
  obtain ⟨⟨hx, hb, hml, hown, hts⟩, hK, hA, hE, hlk⟩ := id S
  have hi1 : ∀ w ∈ wsX10, w ∈ wsX1_giveBack := by decide +kernel
  have hl : lv_has ls 7 [(0, .ref h0), (1, .long (lN b))] := hl
  obtain ⟨j1, j2, j3, j4, j5, j6⟩ := ph_fd_at hq
  have hbb : ph_bb (ph_g1 u.1 u.2.1 b) b 8064 0 1024 = p0 := ph_bb_fd (fun j hj => ph_g1_low u.1 hj) _ _ _ hq
  have hu2 := hu
  obtain ⟨i1, i2, i3, i4⟩ := hu2
  have gn := ph_n_lt u.1 b
  have e : (ph_wh u.1 b (ph_n u.1 b) 0).2 = ph_sn u.1 (b + 4) 0 := by rw [ph_wh_of ⟨by omega, by omega⟩ ⟨by omega, by omega⟩]; show ph_sn (ph_sn u.1 b (ph_n u.1 b)) (b + 4) 0 = _; rw [ph_sn_self]
  refine lv_aload_n hx hb dX1_giveBack_0 rfl (lv_at hl 0 rfl) ?_
  refine lv_lload_n hx hb dX1_giveBack_1 rfl (lv_at hl 1 rfl) ?_
  refine lv_aload_n hx hb dX1_giveBack_2 rfl (lv_at hl 0 rfl) ?_
  refine lv_lload_n hx hb dX1_giveBack_3 rfl (lv_at hl 1 rfl) ?_
  refine hx_callV (rest := [.long (lN b), .ref h0]) (n := 1) S hw (c_size l hst D tys cJ ht h0 h1 h2 u b ⟨by omega, by omega⟩) gX1_giveBack_X1_size rfl (by decide +kernel) rfl ⟨Nat.le_of_ble_eq_true rfl, Nat.le_of_ble_eq_true rfl⟩ 0 1 rfl rfl hc_adr hl.1 rfl (Nat.le_of_ble_eq_true rfl) ⟨by decide, by decide⟩ dX1_giveBack_4 (fun H locs hw => ?_)
  refine W.eq (g2 := F0 m 7 ls [.long (lN (ph_n u.1 b)), .long (lN b), .ref h0]) rfl ?_
  refine lv_iconst (v := nI 0) hx hb dX1_giveBack_7 (by decide +kernel) ?_
  refine hx_callV (rest := []) (n := 3) S hw (c_writeHeader l hst D tys cJ ht h0 h1 h2 u (b) (ph_n u.1 b) 0 (by omega) (by decide) (by rw [ph_wh_of ⟨by omega, by omega⟩ ⟨by omega, by omega⟩])) gX1_giveBack_X1_writeHeader rfl (by decide +kernel) rfl ⟨Nat.le_of_ble_eq_true rfl, Nat.le_of_ble_eq_true rfl⟩ 0 1 rfl rfl hc_adr hl.1 rfl (Nat.le_of_ble_eq_true rfl) ⟨by decide, by decide⟩ dX1_giveBack_8 (fun H locs hw => ?_)
  refine W.eq (g2 := F0 m 11 ls []) rfl ?_
  rw [e] at hw
  refine lv_aload_n hx hb dX1_giveBack_11 rfl (lv_at hl 0 rfl) ?_
  refine lv_lload_n hx hb dX1_giveBack_12 rfl (lv_at hl 1 rfl) ?_
  refine hx_callV (rest := []) (n := 1) S hw (c_joinNext l hst D tys cJ ht h0 h1 h2 (ph_sn u.1 (b + 4) 0, u.2) b hu (by omega) (by omega)) gX1_giveBack_X1_joinNext rfl (by decide +kernel) rfl ⟨Nat.le_of_ble_eq_true rfl, Nat.le_of_ble_eq_true rfl⟩ 0 1 rfl rfl hc_adr hl.1 rfl (Nat.le_of_ble_eq_true rfl) ⟨by decide, by decide⟩ dX1_giveBack_13 (fun H locs hw => ?_)
  refine W.eq (g2 := F0 m 16 ls []) rfl ?_
  have hw : hx_w D A s.heap (hc_W cJ h0 h1 h2 (ph_g1 u.1 u.2.1 b, u.2)) H locs := hw
  refine lv_lload_n hx hb dX1_giveBack_16 rfl (lv_at hl 1 rfl) ?_
  refine lv_lstore_n (lv' := [(3, .long (lN b)), (0, .ref h0), (1, .long (lN b))]) hx hb dX1_giveBack_17 rfl hl (by decide) rfl (fun ls hl => ?_)
  refine lv_aload_n hx hb dX1_giveBack_18 rfl (lv_at hl 1 rfl) ?_
  refine lv_lload_n hx hb dX1_giveBack_19 rfl (lv_at hl 2 rfl) ?_
  refine hx_callV (rest := []) (n := 1) S hw (c_blockBefore l hst D tys cJ ht h0 h1 h2 (ph_g1 u.1 u.2.1 b, u.2) b p0 (by omega) hbb) gX1_giveBack_X1_blockBefore rfl (by decide +kernel) rfl ⟨Nat.le_of_ble_eq_true rfl, Nat.le_of_ble_eq_true rfl⟩ 0 1 rfl rfl hc_adr hl.1 rfl (Nat.le_of_ble_eq_true rfl) ⟨by decide, by decide⟩ dX1_giveBack_20 (fun H locs hw => ?_)
  refine W.eq (g2 := F0 m 23 ls [.long (lN p0)]) rfl ?_
  refine lv_lstore (lv' := [(5, .long (lN p0)), (3, .long (lN b)), (0, .ref h0), (1, .long (lN b))]) hx hb dX1_giveBack_23 hl (by decide) rfl (fun ls hl => ?_)
  refine lv_lload hx hb dX1_giveBack_25 (lv_at hl 0 rfl) ?_
  refine lv_lconst (v := lN 0) hx hb dX1_giveBack_27 (by decide +kernel) ?_
  refine hn_leq (a := p0) (b := 0) (tgt := 50) hx hb (by omega) (by omega) dX1_giveBack_28 dX1_giveBack_29 (by decide) (fun hc => ?_) (fun hc => ?_)
  · have e1 : ph_gj u.1 u.2.1 b p0 = b := if_neg (fun z => z.1 hc)
    have e2 : ph_g2 u.1 u.2.1 b p0 = ph_g1 u.1 u.2.1 b := if_neg (fun z => z.1 hc)
    have hw : hx_w D A s.heap (hc_W cJ h0 h1 h2 (ph_g2 u.1 u.2.1 b p0, u.2)) H locs := by rw [e2]; exact hw
    have gJ : 1024 ≤ ph_gj u.1 u.2.1 b p0 ∧ ph_gj u.1 u.2.1 b p0 < 61440 := by rw [e1]; omega
    have hl : lv_has ls 7 [(5, .long (lN p0)), (3, .long (lN (ph_gj u.1 u.2.1 b p0))), (0, .ref h0), (1, .long (lN b))] := by rw [e1]; exact hl
    have gj := ph_n_lt (ph_g2 u.1 u.2.1 b p0) (ph_gj u.1 u.2.1 b p0)
    refine lv_aload_n hx hb dX1_giveBack_50 rfl (lv_at hl 2 rfl) ?_
    refine lv_lload_n hx hb dX1_giveBack_51 rfl (lv_at hl 1 rfl) ?_
    refine hx_callV (rest := []) (n := 1) S hw (c_next l hst D tys cJ ht h0 h1 h2 (ph_g2 u.1 u.2.1 b p0, u.2) (ph_gj u.1 u.2.1 b p0) ⟨by omega, by omega⟩) gX1_giveBack_X1_next rfl (by decide +kernel) rfl ⟨Nat.le_of_ble_eq_true rfl, Nat.le_of_ble_eq_true rfl⟩ 0 1 rfl rfl hc_adr hl.1 rfl (Nat.le_of_ble_eq_true rfl) ⟨by decide, by decide⟩ dX1_giveBack_52 (fun H locs hw => ?_)
    refine W.eq (g2 := F0 m 55 ls [.long (lN (ph_gj u.1 u.2.1 b p0 + 8 + ph_n (ph_g2 u.1 u.2.1 b p0) (ph_gj u.1 u.2.1 b p0)))]) rfl ?_
    refine lv_aload_n hx hb dX1_giveBack_55 rfl (lv_at hl 2 rfl) ?_
    refine va_get (D := D) (ci := 1) (v := .long (lN ((ph_g2 u.1 u.2.1 b p0, u.2)).2.1)) (C := RX1) (T := TX1) (N := 3) hx hb hts hi1 hown hK hw.1 0 rfl rfl 1 (by decide) (hts (.fieldLink RX1 18 "HeapRow" "end" "J") (by decide +kernel)) (fun _ h9 => h9) rfl dX1_giveBack_56 ?_
    refine hn_lne (a := (ph_gj u.1 u.2.1 b p0 + 8 + ph_n (ph_g2 u.1 u.2.1 b p0) (ph_gj u.1 u.2.1 b p0))) (b := u.2.1) (tgt := 68) hx hb (by omega) (by omega) dX1_giveBack_59 dX1_giveBack_60 (by decide) (fun hd => ?_) (fun hd => ?_)
    · have e3 : ph_ge u.1 u.2.1 b p0 = u.2.1 := if_neg hd
      have hw : hx_w D A s.heap (hc_W cJ h0 h1 h2 (ph_gb u b p0)) H locs := by unfold ph_gb; rw [e3]; exact hw
      exact hx_vret S hr hw dX1_giveBack_68
    · have e3 : ph_ge u.1 u.2.1 b p0 = ph_gj u.1 u.2.1 b p0 := if_pos hd
      refine lv_aload_n hx hb dX1_giveBack_63 rfl (lv_at hl 2 rfl) ?_
      refine lv_lload_n hx hb dX1_giveBack_64 rfl (lv_at hl 1 rfl) ?_
      refine va_put (D := D) (ci := 1) (v := .long (lN (ph_gj u.1 u.2.1 b p0))) (ty := .long) (C := RX1) (T := TX1) (N := 3) hx hb hts hi1 tyX1 tyX1_ok nmX1 hown hK hw.1 hw.2.1 hw.2.2 0 rfl rfl 1 (by decide) (hts (.fieldLink RX1 18 "HeapRow" "end" "J") (by decide +kernel)) (fun _ h9 => h9) rfl (by decide +kernel) rfl rfl (Nat.le_of_ble_eq_true rfl) dX1_giveBack_65 (fun H locs y1 y2 y3 => ?_)
      have hw : hx_w D A s.heap (hc_W cJ h0 h1 h2 (ph_g2 u.1 u.2.1 b p0, ph_gj u.1 u.2.1 b p0, u.2.2)) H locs := ⟨y1, y2, y3⟩
      have hw : hx_w D A s.heap (hc_W cJ h0 h1 h2 (ph_gb u b p0)) H locs := by unfold ph_gb; rw [e3]; exact hw
      exact hx_vret S hr hw dX1_giveBack_68
  · refine lv_aload_n hx hb dX1_giveBack_32 rfl (lv_at hl 2 rfl) ?_
    refine lv_lload hx hb dX1_giveBack_33 (lv_at hl 0 rfl) ?_
    refine hx_callV (rest := []) (n := 1) S hw (c_isTaken l hst D tys cJ ht h0 h1 h2 (ph_g1 u.1 u.2.1 b, u.2) p0 ⟨by omega, by omega⟩) gX1_giveBack_X1_isTaken rfl (by decide +kernel) rfl ⟨Nat.le_of_ble_eq_true rfl, Nat.le_of_ble_eq_true rfl⟩ 0 1 rfl rfl hc_adr hl.1 rfl (Nat.le_of_ble_eq_true rfl) ⟨by decide, by decide⟩ dX1_giveBack_35 (fun H locs hw => ?_)
    refine W.eq (g2 := F0 m 38 ls [.int (if ph_n (ph_g1 u.1 u.2.1 b) (p0 + 4) = 1 then nI 1 else nI 0)]) rfl ?_
    refine hn_pne (tgt := 50) hx hb dX1_giveBack_38 (by decide) (fun hc2 => ?_) (fun hc2 => ?_)
    · have e1 : ph_gj u.1 u.2.1 b p0 = b := if_neg (fun z => z.2 hc2)
      have e2 : ph_g2 u.1 u.2.1 b p0 = ph_g1 u.1 u.2.1 b := if_neg (fun z => z.2 hc2)
      have hw : hx_w D A s.heap (hc_W cJ h0 h1 h2 (ph_g2 u.1 u.2.1 b p0, u.2)) H locs := by rw [e2]; exact hw
      have gJ : 1024 ≤ ph_gj u.1 u.2.1 b p0 ∧ ph_gj u.1 u.2.1 b p0 < 61440 := by rw [e1]; omega
      have hl : lv_has ls 7 [(5, .long (lN p0)), (3, .long (lN (ph_gj u.1 u.2.1 b p0))), (0, .ref h0), (1, .long (lN b))] := by rw [e1]; exact hl
      have gj := ph_n_lt (ph_g2 u.1 u.2.1 b p0) (ph_gj u.1 u.2.1 b p0)
      refine lv_aload_n hx hb dX1_giveBack_50 rfl (lv_at hl 2 rfl) ?_
      refine lv_lload_n hx hb dX1_giveBack_51 rfl (lv_at hl 1 rfl) ?_
      refine hx_callV (rest := []) (n := 1) S hw (c_next l hst D tys cJ ht h0 h1 h2 (ph_g2 u.1 u.2.1 b p0, u.2) (ph_gj u.1 u.2.1 b p0) ⟨by omega, by omega⟩) gX1_giveBack_X1_next rfl (by decide +kernel) rfl ⟨Nat.le_of_ble_eq_true rfl, Nat.le_of_ble_eq_true rfl⟩ 0 1 rfl rfl hc_adr hl.1 rfl (Nat.le_of_ble_eq_true rfl) ⟨by decide, by decide⟩ dX1_giveBack_52 (fun H locs hw => ?_)
      refine W.eq (g2 := F0 m 55 ls [.long (lN (ph_gj u.1 u.2.1 b p0 + 8 + ph_n (ph_g2 u.1 u.2.1 b p0) (ph_gj u.1 u.2.1 b p0)))]) rfl ?_
      refine lv_aload_n hx hb dX1_giveBack_55 rfl (lv_at hl 2 rfl) ?_
      refine va_get (D := D) (ci := 1) (v := .long (lN ((ph_g2 u.1 u.2.1 b p0, u.2)).2.1)) (C := RX1) (T := TX1) (N := 3) hx hb hts hi1 hown hK hw.1 0 rfl rfl 1 (by decide) (hts (.fieldLink RX1 18 "HeapRow" "end" "J") (by decide +kernel)) (fun _ h9 => h9) rfl dX1_giveBack_56 ?_
      refine hn_lne (a := (ph_gj u.1 u.2.1 b p0 + 8 + ph_n (ph_g2 u.1 u.2.1 b p0) (ph_gj u.1 u.2.1 b p0))) (b := u.2.1) (tgt := 68) hx hb (by omega) (by omega) dX1_giveBack_59 dX1_giveBack_60 (by decide) (fun hd => ?_) (fun hd => ?_)
      · have e3 : ph_ge u.1 u.2.1 b p0 = u.2.1 := if_neg hd
        have hw : hx_w D A s.heap (hc_W cJ h0 h1 h2 (ph_gb u b p0)) H locs := by unfold ph_gb; rw [e3]; exact hw
        exact hx_vret S hr hw dX1_giveBack_68
      · have e3 : ph_ge u.1 u.2.1 b p0 = ph_gj u.1 u.2.1 b p0 := if_pos hd
        refine lv_aload_n hx hb dX1_giveBack_63 rfl (lv_at hl 2 rfl) ?_
        refine lv_lload_n hx hb dX1_giveBack_64 rfl (lv_at hl 1 rfl) ?_
        refine va_put (D := D) (ci := 1) (v := .long (lN (ph_gj u.1 u.2.1 b p0))) (ty := .long) (C := RX1) (T := TX1) (N := 3) hx hb hts hi1 tyX1 tyX1_ok nmX1 hown hK hw.1 hw.2.1 hw.2.2 0 rfl rfl 1 (by decide) (hts (.fieldLink RX1 18 "HeapRow" "end" "J") (by decide +kernel)) (fun _ h9 => h9) rfl (by decide +kernel) rfl rfl (Nat.le_of_ble_eq_true rfl) dX1_giveBack_65 (fun H locs y1 y2 y3 => ?_)
        have hw : hx_w D A s.heap (hc_W cJ h0 h1 h2 (ph_g2 u.1 u.2.1 b p0, ph_gj u.1 u.2.1 b p0, u.2.2)) H locs := ⟨y1, y2, y3⟩
        have hw : hx_w D A s.heap (hc_W cJ h0 h1 h2 (ph_gb u b p0)) H locs := by unfold ph_gb; rw [e3]; exact hw
        exact hx_vret S hr hw dX1_giveBack_68
    · refine lv_aload_n hx hb dX1_giveBack_41 rfl (lv_at hl 2 rfl) ?_
      refine lv_lload hx hb dX1_giveBack_42 (lv_at hl 0 rfl) ?_
      refine hx_callV (rest := []) (n := 1) S hw (c_joinNext l hst D tys cJ ht h0 h1 h2 (ph_g1 u.1 u.2.1 b, u.2) p0 hu (by omega) (by omega)) gX1_giveBack_X1_joinNext rfl (by decide +kernel) rfl ⟨Nat.le_of_ble_eq_true rfl, Nat.le_of_ble_eq_true rfl⟩ 0 1 rfl rfl hc_adr hl.1 rfl (Nat.le_of_ble_eq_true rfl) ⟨by decide, by decide⟩ dX1_giveBack_44 (fun H locs hw => ?_)
      refine W.eq (g2 := F0 m 47 ls []) rfl ?_
      refine lv_lload hx hb dX1_giveBack_47 (lv_at hl 0 rfl) ?_
      refine lv_lstore_n (lv' := [(3, .long (lN p0)), (5, .long (lN p0)), (0, .ref h0), (1, .long (lN b))]) hx hb dX1_giveBack_49 rfl hl (by decide) rfl (fun ls hl => ?_)
      have e1 : ph_gj u.1 u.2.1 b p0 = p0 := if_pos ⟨hc, hc2⟩
      have e2 : ph_g2 u.1 u.2.1 b p0 = ph_jn (ph_g1 u.1 u.2.1 b) u.2.1 p0 := if_pos ⟨hc, hc2⟩
      have hw : hx_w D A s.heap (hc_W cJ h0 h1 h2 (ph_g2 u.1 u.2.1 b p0, u.2)) H locs := by rw [e2]; exact hw
      have gJ : 1024 ≤ ph_gj u.1 u.2.1 b p0 ∧ ph_gj u.1 u.2.1 b p0 < 61440 := by rw [e1]; omega
      have hl : lv_has ls 7 [(3, .long (lN (ph_gj u.1 u.2.1 b p0))), (5, .long (lN p0)), (0, .ref h0), (1, .long (lN b))] := by rw [e1]; exact hl
      have gj := ph_n_lt (ph_g2 u.1 u.2.1 b p0) (ph_gj u.1 u.2.1 b p0)
      refine lv_aload_n hx hb dX1_giveBack_50 rfl (lv_at hl 2 rfl) ?_
      refine lv_lload_n hx hb dX1_giveBack_51 rfl (lv_at hl 0 rfl) ?_
      refine hx_callV (rest := []) (n := 1) S hw (c_next l hst D tys cJ ht h0 h1 h2 (ph_g2 u.1 u.2.1 b p0, u.2) (ph_gj u.1 u.2.1 b p0) ⟨by omega, by omega⟩) gX1_giveBack_X1_next rfl (by decide +kernel) rfl ⟨Nat.le_of_ble_eq_true rfl, Nat.le_of_ble_eq_true rfl⟩ 0 1 rfl rfl hc_adr hl.1 rfl (Nat.le_of_ble_eq_true rfl) ⟨by decide, by decide⟩ dX1_giveBack_52 (fun H locs hw => ?_)
      refine W.eq (g2 := F0 m 55 ls [.long (lN (ph_gj u.1 u.2.1 b p0 + 8 + ph_n (ph_g2 u.1 u.2.1 b p0) (ph_gj u.1 u.2.1 b p0)))]) rfl ?_
      refine lv_aload_n hx hb dX1_giveBack_55 rfl (lv_at hl 2 rfl) ?_
      refine va_get (D := D) (ci := 1) (v := .long (lN ((ph_g2 u.1 u.2.1 b p0, u.2)).2.1)) (C := RX1) (T := TX1) (N := 3) hx hb hts hi1 hown hK hw.1 0 rfl rfl 1 (by decide) (hts (.fieldLink RX1 18 "HeapRow" "end" "J") (by decide +kernel)) (fun _ h9 => h9) rfl dX1_giveBack_56 ?_
      refine hn_lne (a := (ph_gj u.1 u.2.1 b p0 + 8 + ph_n (ph_g2 u.1 u.2.1 b p0) (ph_gj u.1 u.2.1 b p0))) (b := u.2.1) (tgt := 68) hx hb (by omega) (by omega) dX1_giveBack_59 dX1_giveBack_60 (by decide) (fun hd => ?_) (fun hd => ?_)
      · have e3 : ph_ge u.1 u.2.1 b p0 = u.2.1 := if_neg hd
        have hw : hx_w D A s.heap (hc_W cJ h0 h1 h2 (ph_gb u b p0)) H locs := by unfold ph_gb; rw [e3]; exact hw
        exact hx_vret S hr hw dX1_giveBack_68
      · have e3 : ph_ge u.1 u.2.1 b p0 = ph_gj u.1 u.2.1 b p0 := if_pos hd
        refine lv_aload_n hx hb dX1_giveBack_63 rfl (lv_at hl 2 rfl) ?_
        refine lv_lload_n hx hb dX1_giveBack_64 rfl (lv_at hl 0 rfl) ?_
        refine va_put (D := D) (ci := 1) (v := .long (lN (ph_gj u.1 u.2.1 b p0))) (ty := .long) (C := RX1) (T := TX1) (N := 3) hx hb hts hi1 tyX1 tyX1_ok nmX1 hown hK hw.1 hw.2.1 hw.2.2 0 rfl rfl 1 (by decide) (hts (.fieldLink RX1 18 "HeapRow" "end" "J") (by decide +kernel)) (fun _ h9 => h9) rfl (by decide +kernel) rfl rfl (Nat.le_of_ble_eq_true rfl) dX1_giveBack_65 (fun H locs y1 y2 y3 => ?_)
        have hw : hx_w D A s.heap (hc_W cJ h0 h1 h2 (ph_g2 u.1 u.2.1 b p0, ph_gj u.1 u.2.1 b p0, u.2.2)) H locs := ⟨y1, y2, y3⟩
        have hw : hx_w D A s.heap (hc_W cJ h0 h1 h2 (ph_gb u b p0)) H locs := by unfold ph_gb; rw [e3]; exact hw
        exact hx_vret S hr hw dX1_giveBack_68
