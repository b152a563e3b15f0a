/-! the law's own callers: a call, its answer in 'out', or 1 where it throws -/
abbrev hl_X (cJ : ClassId) (h0 h1 h2 : Nat) (u : ph_H) (cO : ClassId) (o : Nat) (out : Nat → Int64) : va_W := [(h0, .inr (1, [.ref h1, .long (lN u.2.1), .long (lN u.2.2)])), (h1, .inr (0, [.ref h2])), (h2, .inl (cJ, 8064, .inr (.inl (pw_w u.1)))), (o, .inl (cO, 1, .inr (.inl out)))]
theorem hl_adr {cJ : ClassId} {h0 h1 h2 : Nat} {u u2 : ph_H} {cO : ClassId} {o : Nat} {out out2 : Nat → Int64} : (hl_X cJ h0 h1 h2 u2 cO o out2).map (fun q => q.1) = (hl_X cJ h0 h1 h2 u cO o out).map (fun q => q.1) := by show [h0, h1, h2, o] = [h0, h1, h2, o]; rfl
set_option maxHeartbeats 4000000 in
set_option maxRecDepth 100000 in
theorem w_allocate (l : Launch) (hst : l.stackTraces = false) (D : va_G) (tys : List (ClassId × FieldType)) (cJ cO : ClassId) (ht : tys[0]? = some (cJ, .long)) (ht2 : tys[2]? = some (cO, .long)) (h0 h1 h2 o : Nat) (u : ph_H) (n x : Nat) (u2 : ph_H) (out : Nat → Int64) (hu : ph_I u) (hn : n < 4294967296) (h : ph_take u n = (some x, u2)) : hx_K l D tys yL_allocate wsL_allocate 12 231 [.ref h0, .int (nI n), .ref o] (hl_X cJ h0 h1 h2 u cO o out) (hl_X cJ h0 h1 h2 u2 cO o (vp_updL out 0 (nI x).toInt64)) (some (.int (nI 0))) := by
  refine hx_K.ofW (cc := cL_allocate) (maxL := 4) (ret := (some .int)) (hh := [(0, 9, 12, 13)]) (by decide) rfl (Nat.le_of_ble_eq_true rfl) ?_
  intro p e s m below meth c A ls hr S htab hw hl
  have S : hx_S p l s m _ meth c cL_allocate 4 wsL_allocate RL A D tys := S
  obtain ⟨⟨hx, hb, hml, hown, hts⟩, hK, hA, hE, hlk⟩ := id S
  have hl : lv_has ls 4 [(0, .ref h0), (1, .int (nI n)), (2, .ref o)] := hl
  refine lv_aload_n hx hb dL_allocate_0 rfl (lv_at hl 2 rfl) ?_
  refine lv_iconst (v := nI 0) hx hb dL_allocate_1 (by decide +kernel) ?_
  refine lv_aload_n hx hb dL_allocate_2 rfl (lv_at hl 0 rfl) ?_
  refine lv_iload_n hx hb dL_allocate_3 rfl (lv_at hl 1 rfl) ?_
  have hwc := hx_cut (w := hc_W cJ h0 h1 h2 u) hw [0, 1, 2] rfl rfl rfl
  refine hx_fV (rest := [.int (nI 0), .ref o]) (n := 1) S hwc (c_allocate l hst D tys cJ ht h0 h1 h2 u n x u2 hu hn h) gL_allocate_X1_allocate rfl (by decide +kernel) rfl ⟨Nat.le_of_ble_eq_true rfl, Nat.le_of_ble_eq_true rfl⟩ 0 1 rfl rfl hc_adr hl.1 rfl (Nat.le_of_ble_eq_true rfl) ⟨by decide, by decide⟩ dL_allocate_4 (fun H locs hw2 hk => ?_)
  have hw : hx_w D A s.heap (hl_X cJ h0 h1 h2 u2 cO o out) H locs := hx_join (wr := [(o, .inl (cO, 1, .inr (.inl out)))]) hA hw hw2 hk hc_adr [0, 1, 2] [3] [1, 2, 3, 0] rfl rfl rfl rfl (by decide) rfl rfl rfl
  refine W.eq (g2 := F0 m 7 ls [.int (nI x), .int (nI 0), .ref o]) rfl ?_
  refine lv_i2l (v := (nI x).toInt64) hx hb dL_allocate_7 rfl ?_
  refine hn_last hx hb hK hw 3 2 rfl ht2 (k := 0) (by decide) (by decide) dL_allocate_8 (fun H locs hw => ?_)
  have hw : hx_w D A s.heap (hl_X cJ h0 h1 h2 u2 cO o (vp_updL out 0 ((nI x).toInt64))) H locs := hw
  refine lv_goto (tgt := 15) hx hb dL_allocate_9 (by decide) ?_
  refine lv_iconst (v := nI 0) hx hb dL_allocate_15 (by decide +kernel) ?_
  refine W.widen (k := 1) (n := 6) (by omega) (by omega) ?_
  exact hx_iret S hr hw dL_allocate_16
set_option maxHeartbeats 4000000 in
set_option maxRecDepth 100000 in
theorem w_allocateX (l : Launch) (hst : l.stackTraces = false) (D : va_G) (tys : List (ClassId × FieldType)) (cJ cO : ClassId) (ht : tys[0]? = some (cJ, .long)) (ht2 : tys[2]? = some (cO, .long)) (h0 h1 h2 o : Nat) (u : ph_H) (n : Nat) (u2 : ph_H) (out : Nat → Int64) (hu : ph_I u) (hn : n < 4294967296) (h : ph_take u n = (none, u2)) : hx_K l D tys yL_allocate wsL_allocate 12 231 [.ref h0, .int (nI n), .ref o] (hl_X cJ h0 h1 h2 u cO o out) (hl_X cJ h0 h1 h2 u2 cO o out) (some (.int (nI 1))) := by
  refine hx_K.ofW (cc := cL_allocate) (maxL := 4) (ret := (some .int)) (hh := [(0, 9, 12, 13)]) (by decide) rfl (Nat.le_of_ble_eq_true rfl) ?_
  intro p e s m below meth c A ls hr S htab hw hl
  have S : hx_S p l s m _ meth c cL_allocate 4 wsL_allocate RL A D tys := S
  obtain ⟨⟨hx, hb, hml, hown, hts⟩, hK, hA, hE, hlk⟩ := id S
  have hl : lv_has ls 4 [(0, .ref h0), (1, .int (nI n)), (2, .ref o)] := hl
  refine lv_aload_n hx hb dL_allocate_0 rfl (lv_at hl 2 rfl) ?_
  refine lv_iconst (v := nI 0) hx hb dL_allocate_1 (by decide +kernel) ?_
  refine lv_aload_n hx hb dL_allocate_2 rfl (lv_at hl 0 rfl) ?_
  refine lv_iload_n hx hb dL_allocate_3 rfl (lv_at hl 1 rfl) ?_
  have hwc := hx_cut (w := hc_W cJ h0 h1 h2 u) hw [0, 1, 2] rfl rfl rfl
  refine hx_fX (rest := [.int (nI 0), .ref o]) (n := 1) (x := ⟨0, 9, 12, 13⟩) S hwc (x_allocate l hst D tys cJ ht h0 h1 h2 u n u2 hu hn h) gL_allocate_X1_allocate rfl (by decide +kernel) rfl ⟨Nat.le_of_ble_eq_true rfl, Nat.le_of_ble_eq_true rfl⟩ 0 1 rfl rfl hc_adr hl.1 rfl (Nat.le_of_ble_eq_true rfl) ⟨by decide, by decide⟩ dL_allocate_4 htab (by decide) (by decide) (by decide +kernel) (fun q9 H locs hw2 hk => ?_)
  have hw : hx_w D A s.heap (hl_X cJ h0 h1 h2 u2 cO o out) H locs := hx_join (wr := [(o, .inl (cO, 1, .inr (.inl out)))]) hA hw hw2 hk hc_adr [0, 1, 2] [3] [1, 2, 3, 0] rfl rfl rfl rfl (by decide) rfl rfl rfl
  refine W.eq (g2 := F0 m 12 ls [.ref q9]) rfl ?_
  refine lv_astore_n (lv' := [(3, .ref q9), (0, .ref h0), (1, .int (nI n)), (2, .ref o)]) hx hb dL_allocate_12 rfl hl (by decide) rfl (fun ls hl => ?_)
  refine lv_iconst (v := nI 1) hx hb dL_allocate_13 (by decide +kernel) ?_
  exact hx_iret S hr hw dL_allocate_14
set_option maxHeartbeats 4000000 in
set_option maxRecDepth 100000 in
theorem w_cleared (l : Launch) (hst : l.stackTraces = false) (D : va_G) (tys : List (ClassId × FieldType)) (cJ cO : ClassId) (ht : tys[0]? = some (cJ, .long)) (ht2 : tys[2]? = some (cO, .long)) (h0 h1 h2 o : Nat) (u : ph_H) (n k q x : Nat) (u2 : ph_H) (out : Nat → Int64) (hu : ph_I u) (hn : n < 4294967296) (hk9 : k < 4294967296) (hq : n * k = q) (h : ph_clrd u q = (some x, u2)) : hx_K l D tys yL_cleared wsL_cleared 12 236 [.ref h0, .int (nI n), .int (nI k), .ref o] (hl_X cJ h0 h1 h2 u cO o out) (hl_X cJ h0 h1 h2 u2 cO o (vp_updL out 0 (nI x).toInt64)) (some (.int (nI 0))) := by
  refine hx_K.ofW (cc := cL_cleared) (maxL := 5) (ret := (some .int)) (hh := [(0, 10, 13, 13)]) (by decide) rfl (Nat.le_of_ble_eq_true rfl) ?_
  intro p e s m below meth c A ls hr S htab hw hl
  have S : hx_S p l s m _ meth c cL_cleared 5 wsL_cleared RL A D tys := S
  obtain ⟨⟨hx, hb, hml, hown, hts⟩, hK, hA, hE, hlk⟩ := id S
  have hl : lv_has ls 5 [(0, .ref h0), (1, .int (nI n)), (2, .int (nI k)), (3, .ref o)] := hl
  refine lv_aload_n hx hb dL_cleared_0 rfl (lv_at hl 3 rfl) ?_
  refine lv_iconst (v := nI 0) hx hb dL_cleared_1 (by decide +kernel) ?_
  refine lv_aload_n hx hb dL_cleared_2 rfl (lv_at hl 0 rfl) ?_
  refine lv_iload_n hx hb dL_cleared_3 rfl (lv_at hl 1 rfl) ?_
  refine lv_iload_n hx hb dL_cleared_4 rfl (lv_at hl 2 rfl) ?_
  have hwc := hx_cut (w := hc_W cJ h0 h1 h2 u) hw [0, 1, 2] rfl rfl rfl
  refine hx_fV (rest := [.int (nI 0), .ref o]) (n := 2) S hwc (c_cleared l hst D tys cJ ht h0 h1 h2 u n k q x u2 hu hn hk9 hq h) gL_cleared_X1_cleared rfl (by decide +kernel) rfl ⟨Nat.le_of_ble_eq_true rfl, Nat.le_of_ble_eq_true rfl⟩ 0 1 rfl rfl hc_adr hl.1 rfl (Nat.le_of_ble_eq_true rfl) ⟨by decide, by decide⟩ dL_cleared_5 (fun H locs hw2 hk => ?_)
  have hw : hx_w D A s.heap (hl_X cJ h0 h1 h2 u2 cO o out) H locs := hx_join (wr := [(o, .inl (cO, 1, .inr (.inl out)))]) hA hw hw2 hk hc_adr [0, 1, 2] [3] [1, 2, 3, 0] rfl rfl rfl rfl (by decide) rfl rfl rfl
  refine W.eq (g2 := F0 m 8 ls [.int (nI x), .int (nI 0), .ref o]) rfl ?_
  refine lv_i2l (v := (nI x).toInt64) hx hb dL_cleared_8 rfl ?_
  refine hn_last hx hb hK hw 3 2 rfl ht2 (k := 0) (by decide) (by decide) dL_cleared_9 (fun H locs hw => ?_)
  have hw : hx_w D A s.heap (hl_X cJ h0 h1 h2 u2 cO o (vp_updL out 0 ((nI x).toInt64))) H locs := hw
  refine lv_goto (tgt := 17) hx hb dL_cleared_10 (by decide) ?_
  refine lv_iconst (v := nI 0) hx hb dL_cleared_17 (by decide +kernel) ?_
  refine W.widen (k := 1) (n := 6) (by omega) (by omega) ?_
  exact hx_iret S hr hw dL_cleared_18
set_option maxHeartbeats 4000000 in
set_option maxRecDepth 100000 in
theorem w_clearedX (l : Launch) (hst : l.stackTraces = false) (D : va_G) (tys : List (ClassId × FieldType)) (cJ cO : ClassId) (ht : tys[0]? = some (cJ, .long)) (ht2 : tys[2]? = some (cO, .long)) (h0 h1 h2 o : Nat) (u : ph_H) (n k q : Nat) (u2 : ph_H) (out : Nat → Int64) (hu : ph_I u) (hn : n < 4294967296) (hk9 : k < 4294967296) (hq : n * k = q) (h : ph_clrd u q = (none, u2)) : hx_K l D tys yL_cleared wsL_cleared 12 236 [.ref h0, .int (nI n), .int (nI k), .ref o] (hl_X cJ h0 h1 h2 u cO o out) (hl_X cJ h0 h1 h2 u2 cO o out) (some (.int (nI 1))) := by
  refine hx_K.ofW (cc := cL_cleared) (maxL := 5) (ret := (some .int)) (hh := [(0, 10, 13, 13)]) (by decide) rfl (Nat.le_of_ble_eq_true rfl) ?_
  intro p e s m below meth c A ls hr S htab hw hl
  have S : hx_S p l s m _ meth c cL_cleared 5 wsL_cleared RL A D tys := S
  obtain ⟨⟨hx, hb, hml, hown, hts⟩, hK, hA, hE, hlk⟩ := id S
  have hl : lv_has ls 5 [(0, .ref h0), (1, .int (nI n)), (2, .int (nI k)), (3, .ref o)] := hl
  refine lv_aload_n hx hb dL_cleared_0 rfl (lv_at hl 3 rfl) ?_
  refine lv_iconst (v := nI 0) hx hb dL_cleared_1 (by decide +kernel) ?_
  refine lv_aload_n hx hb dL_cleared_2 rfl (lv_at hl 0 rfl) ?_
  refine lv_iload_n hx hb dL_cleared_3 rfl (lv_at hl 1 rfl) ?_
  refine lv_iload_n hx hb dL_cleared_4 rfl (lv_at hl 2 rfl) ?_
  have hwc := hx_cut (w := hc_W cJ h0 h1 h2 u) hw [0, 1, 2] rfl rfl rfl
  refine hx_fX (rest := [.int (nI 0), .ref o]) (n := 2) (x := ⟨0, 10, 13, 13⟩) S hwc (x_cleared l hst D tys cJ ht h0 h1 h2 u n k q u2 hu hn hk9 hq h) gL_cleared_X1_cleared rfl (by decide +kernel) rfl ⟨Nat.le_of_ble_eq_true rfl, Nat.le_of_ble_eq_true rfl⟩ 0 1 rfl rfl hc_adr hl.1 rfl (Nat.le_of_ble_eq_true rfl) ⟨by decide, by decide⟩ dL_cleared_5 htab (by decide) (by decide) (by decide +kernel) (fun q9 H locs hw2 hk => ?_)
  have hw : hx_w D A s.heap (hl_X cJ h0 h1 h2 u2 cO o out) H locs := hx_join (wr := [(o, .inl (cO, 1, .inr (.inl out)))]) hA hw hw2 hk hc_adr [0, 1, 2] [3] [1, 2, 3, 0] rfl rfl rfl rfl (by decide) rfl rfl rfl
  refine W.eq (g2 := F0 m 13 ls [.ref q9]) rfl ?_
  refine lv_astore (lv' := [(4, .ref q9), (0, .ref h0), (1, .int (nI n)), (2, .int (nI k)), (3, .ref o)]) hx hb dL_cleared_13 hl (by decide) rfl (fun ls hl => ?_)
  refine lv_iconst (v := nI 1) hx hb dL_cleared_15 (by decide +kernel) ?_
  exact hx_iret S hr hw dL_cleared_16
set_option maxHeartbeats 4000000 in
set_option maxRecDepth 100000 in
theorem w_resize (l : Launch) (hst : l.stackTraces = false) (D : va_G) (tys : List (ClassId × FieldType)) (cJ cO : ClassId) (ht : tys[0]? = some (cJ, .long)) (ht2 : tys[2]? = some (cO, .long)) (h0 h1 h2 o : Nat) (u : ph_H) (a n x : Nat) (u2 : ph_H) (out : Nat → Int64) (hu : ph_I u) (ha : a < 4294967296) (hn : n < 4294967296) (h : ph_rsz u a n = (some x, u2)) : hx_K l D tys yL_resize wsL_resize 12 238 [.ref h0, .int (nI a), .int (nI n), .ref o] (hl_X cJ h0 h1 h2 u cO o out) (hl_X cJ h0 h1 h2 u2 cO o (vp_updL out 0 (nI x).toInt64)) (some (.int (nI 0))) := by
  refine hx_K.ofW (cc := cL_resize) (maxL := 5) (ret := (some .int)) (hh := [(0, 10, 13, 13)]) (by decide) rfl (Nat.le_of_ble_eq_true rfl) ?_
  intro p e s m below meth c A ls hr S htab hw hl
  have S : hx_S p l s m _ meth c cL_resize 5 wsL_resize RL A D tys := S
  obtain ⟨⟨hx, hb, hml, hown, hts⟩, hK, hA, hE, hlk⟩ := id S
  have hl : lv_has ls 5 [(0, .ref h0), (1, .int (nI a)), (2, .int (nI n)), (3, .ref o)] := hl
  refine lv_aload_n hx hb dL_resize_0 rfl (lv_at hl 3 rfl) ?_
  refine lv_iconst (v := nI 0) hx hb dL_resize_1 (by decide +kernel) ?_
  refine lv_aload_n hx hb dL_resize_2 rfl (lv_at hl 0 rfl) ?_
  refine lv_iload_n hx hb dL_resize_3 rfl (lv_at hl 1 rfl) ?_
  refine lv_iload_n hx hb dL_resize_4 rfl (lv_at hl 2 rfl) ?_
  have hwc := hx_cut (w := hc_W cJ h0 h1 h2 u) hw [0, 1, 2] rfl rfl rfl
  refine hx_fV (rest := [.int (nI 0), .ref o]) (n := 2) S hwc (c_resize l hst D tys cJ ht h0 h1 h2 u a n x u2 hu ha hn h) gL_resize_X1_resize rfl (by decide +kernel) rfl ⟨Nat.le_of_ble_eq_true rfl, Nat.le_of_ble_eq_true rfl⟩ 0 1 rfl rfl hc_adr hl.1 rfl (Nat.le_of_ble_eq_true rfl) ⟨by decide, by decide⟩ dL_resize_5 (fun H locs hw2 hk => ?_)
  have hw : hx_w D A s.heap (hl_X cJ h0 h1 h2 u2 cO o out) H locs := hx_join (wr := [(o, .inl (cO, 1, .inr (.inl out)))]) hA hw hw2 hk hc_adr [0, 1, 2] [3] [1, 2, 3, 0] rfl rfl rfl rfl (by decide) rfl rfl rfl
  refine W.eq (g2 := F0 m 8 ls [.int (nI x), .int (nI 0), .ref o]) rfl ?_
  refine lv_i2l (v := (nI x).toInt64) hx hb dL_resize_8 rfl ?_
  refine hn_last hx hb hK hw 3 2 rfl ht2 (k := 0) (by decide) (by decide) dL_resize_9 (fun H locs hw => ?_)
  have hw : hx_w D A s.heap (hl_X cJ h0 h1 h2 u2 cO o (vp_updL out 0 ((nI x).toInt64))) H locs := hw
  refine lv_goto (tgt := 17) hx hb dL_resize_10 (by decide) ?_
  refine lv_iconst (v := nI 0) hx hb dL_resize_17 (by decide +kernel) ?_
  refine W.widen (k := 1) (n := 6) (by omega) (by omega) ?_
  exact hx_iret S hr hw dL_resize_18
set_option maxHeartbeats 4000000 in
set_option maxRecDepth 100000 in
theorem w_resizeX (l : Launch) (hst : l.stackTraces = false) (D : va_G) (tys : List (ClassId × FieldType)) (cJ cO : ClassId) (ht : tys[0]? = some (cJ, .long)) (ht2 : tys[2]? = some (cO, .long)) (h0 h1 h2 o : Nat) (u : ph_H) (a n : Nat) (u2 : ph_H) (out : Nat → Int64) (hu : ph_I u) (ha : a < 4294967296) (hn : n < 4294967296) (h : ph_rsz u a n = (none, u2)) : hx_K l D tys yL_resize wsL_resize 12 238 [.ref h0, .int (nI a), .int (nI n), .ref o] (hl_X cJ h0 h1 h2 u cO o out) (hl_X cJ h0 h1 h2 u2 cO o out) (some (.int (nI 1))) := by
  refine hx_K.ofW (cc := cL_resize) (maxL := 5) (ret := (some .int)) (hh := [(0, 10, 13, 13)]) (by decide) rfl (Nat.le_of_ble_eq_true rfl) ?_
  intro p e s m below meth c A ls hr S htab hw hl
  have S : hx_S p l s m _ meth c cL_resize 5 wsL_resize RL A D tys := S
  obtain ⟨⟨hx, hb, hml, hown, hts⟩, hK, hA, hE, hlk⟩ := id S
  have hl : lv_has ls 5 [(0, .ref h0), (1, .int (nI a)), (2, .int (nI n)), (3, .ref o)] := hl
  refine lv_aload_n hx hb dL_resize_0 rfl (lv_at hl 3 rfl) ?_
  refine lv_iconst (v := nI 0) hx hb dL_resize_1 (by decide +kernel) ?_
  refine lv_aload_n hx hb dL_resize_2 rfl (lv_at hl 0 rfl) ?_
  refine lv_iload_n hx hb dL_resize_3 rfl (lv_at hl 1 rfl) ?_
  refine lv_iload_n hx hb dL_resize_4 rfl (lv_at hl 2 rfl) ?_
  have hwc := hx_cut (w := hc_W cJ h0 h1 h2 u) hw [0, 1, 2] rfl rfl rfl
  refine hx_fX (rest := [.int (nI 0), .ref o]) (n := 2) (x := ⟨0, 10, 13, 13⟩) S hwc (x_resize l hst D tys cJ ht h0 h1 h2 u a n u2 hu ha hn h) gL_resize_X1_resize rfl (by decide +kernel) rfl ⟨Nat.le_of_ble_eq_true rfl, Nat.le_of_ble_eq_true rfl⟩ 0 1 rfl rfl hc_adr hl.1 rfl (Nat.le_of_ble_eq_true rfl) ⟨by decide, by decide⟩ dL_resize_5 htab (by decide) (by decide) (by decide +kernel) (fun q9 H locs hw2 hk => ?_)
  have hw : hx_w D A s.heap (hl_X cJ h0 h1 h2 u2 cO o out) H locs := hx_join (wr := [(o, .inl (cO, 1, .inr (.inl out)))]) hA hw hw2 hk hc_adr [0, 1, 2] [3] [1, 2, 3, 0] rfl rfl rfl rfl (by decide) rfl rfl rfl
  refine W.eq (g2 := F0 m 13 ls [.ref q9]) rfl ?_
  refine lv_astore (lv' := [(4, .ref q9), (0, .ref h0), (1, .int (nI a)), (2, .int (nI n)), (3, .ref o)]) hx hb dL_resize_13 hl (by decide) rfl (fun ls hl => ?_)
  refine lv_iconst (v := nI 1) hx hb dL_resize_15 (by decide +kernel) ?_
  exact hx_iret S hr hw dL_resize_16
set_option maxHeartbeats 4000000 in
set_option maxRecDepth 100000 in
theorem w_free0 (l : Launch) (hst : l.stackTraces = false) (D : va_G) (tys : List (ClassId × FieldType)) (cJ cO : ClassId) (ht : tys[0]? = some (cJ, .long)) (ht2 : tys[2]? = some (cO, .long)) (h0 h1 h2 o : Nat) (u : ph_H) (out : Nat → Int64) : hx_K l D tys yL_free wsL_free 12 229 [.ref h0, .int (nI 0), .ref o] (hl_X cJ h0 h1 h2 u cO o out) (hl_X cJ h0 h1 h2 u cO o (vp_updL out 0 (lN 0))) (some (.int (nI 0))) := by
  refine hx_K.ofW (cc := cL_free) (maxL := 4) (ret := (some .int)) (hh := [(0, 16, 19, 13)]) (by decide) rfl (Nat.le_of_ble_eq_true rfl) ?_
  intro p e s m below meth c A ls hr S htab hw hl
  have S : hx_S p l s m _ meth c cL_free 4 wsL_free RL A D tys := S
  obtain ⟨⟨hx, hb, hml, hown, hts⟩, hK, hA, hE, hlk⟩ := id S
  have hl : lv_has ls 4 [(0, .ref h0), (1, .int (nI 0)), (2, .ref o)] := hl
  refine lv_aload_n hx hb dL_free_0 rfl (lv_at hl 2 rfl) ?_
  refine lv_iconst (v := nI 0) hx hb dL_free_1 (by decide +kernel) ?_
  refine lv_aload_n hx hb dL_free_2 rfl (lv_at hl 0 rfl) ?_
  refine lv_iload_n hx hb dL_free_3 rfl (lv_at hl 1 rfl) ?_
  have hwc := hx_cut (w := hc_W cJ h0 h1 h2 u) hw [0, 1, 2] rfl rfl rfl
  refine hx_fV (rest := [.int (nI 0), .ref o]) (n := 1) S hwc (c_free0 l hst D tys cJ ht h0 h1 h2 u) gL_free_X1_free rfl (by decide +kernel) rfl ⟨Nat.le_of_ble_eq_true rfl, Nat.le_of_ble_eq_true rfl⟩ 0 1 rfl rfl hc_adr hl.1 rfl (Nat.le_of_ble_eq_true rfl) ⟨by decide, by decide⟩ dL_free_4 (fun H locs hw2 hk => ?_)
  have hw : hx_w D A s.heap (hl_X cJ h0 h1 h2 u cO o out) H locs := hx_join (wr := [(o, .inl (cO, 1, .inr (.inl out)))]) hA hw hw2 hk hc_adr [0, 1, 2] [3] [1, 2, 3, 0] rfl rfl rfl rfl (by decide) rfl rfl rfl
  refine W.eq (g2 := F0 m 7 ls [.int (nI 0), .int (nI 0), .ref o]) rfl ?_
  refine hn_zeq (n := 0) (tgt := 14) hx hb (by omega) dL_free_7 (by decide) (fun hc => ?_) (fun hc => ?_)
  · refine lv_lconst (v := lN 0) hx hb dL_free_14 (by decide +kernel) ?_
    refine hn_last hx hb hK hw 3 2 rfl ht2 (k := 0) (by decide) (by decide) dL_free_15 (fun H locs hw => ?_)
    have hw : hx_w D A s.heap (hl_X cJ h0 h1 h2 u cO o (vp_updL out 0 (lN 0))) H locs := hw
    refine lv_goto (tgt := 22) hx hb dL_free_16 (by decide) ?_
    refine lv_iconst (v := nI 0) hx hb dL_free_22 (by decide +kernel) ?_
    refine W.widen (k := 1) (n := 6) (by omega) (by omega) ?_
    exact hx_iret S hr hw dL_free_23
  · exact absurd rfl hc
set_option maxHeartbeats 4000000 in
set_option maxRecDepth 100000 in
theorem w_free (l : Launch) (hst : l.stackTraces = false) (D : va_G) (tys : List (ClassId × FieldType)) (cJ cO : ClassId) (ht : tys[0]? = some (cJ, .long)) (ht2 : tys[2]? = some (cO, .long)) (h0 h1 h2 o : Nat) (u : ph_H) (a : Nat) (u2 : ph_H) (out : Nat → Int64) (hu : ph_I u) (ha : a < 4294967296) (ha0 : a ≠ 0) (h : ph_give u a = (true, u2)) : hx_K l D tys yL_free wsL_free 12 229 [.ref h0, .int (nI a), .ref o] (hl_X cJ h0 h1 h2 u cO o out) (hl_X cJ h0 h1 h2 u2 cO o (vp_updL out 0 (lN 1))) (some (.int (nI 0))) := by
  refine hx_K.ofW (cc := cL_free) (maxL := 4) (ret := (some .int)) (hh := [(0, 16, 19, 13)]) (by decide) rfl (Nat.le_of_ble_eq_true rfl) ?_
  intro p e s m below meth c A ls hr S htab hw hl
  have S : hx_S p l s m _ meth c cL_free 4 wsL_free RL A D tys := S
  obtain ⟨⟨hx, hb, hml, hown, hts⟩, hK, hA, hE, hlk⟩ := id S
  have hl : lv_has ls 4 [(0, .ref h0), (1, .int (nI a)), (2, .ref o)] := hl
  refine lv_aload_n hx hb dL_free_0 rfl (lv_at hl 2 rfl) ?_
  refine lv_iconst (v := nI 0) hx hb dL_free_1 (by decide +kernel) ?_
  refine lv_aload_n hx hb dL_free_2 rfl (lv_at hl 0 rfl) ?_
  refine lv_iload_n hx hb dL_free_3 rfl (lv_at hl 1 rfl) ?_
  have hwc := hx_cut (w := hc_W cJ h0 h1 h2 u) hw [0, 1, 2] rfl rfl rfl
  refine hx_fV (rest := [.int (nI 0), .ref o]) (n := 1) S hwc (c_free l hst D tys cJ ht h0 h1 h2 u a u2 hu ha ha0 h) gL_free_X1_free rfl (by decide +kernel) rfl ⟨Nat.le_of_ble_eq_true rfl, Nat.le_of_ble_eq_true rfl⟩ 0 1 rfl rfl hc_adr hl.1 rfl (Nat.le_of_ble_eq_true rfl) ⟨by decide, by decide⟩ dL_free_4 (fun H locs hw2 hk => ?_)
  have hw : hx_w D A s.heap (hl_X cJ h0 h1 h2 u2 cO o out) H locs := hx_join (wr := [(o, .inl (cO, 1, .inr (.inl out)))]) hA hw hw2 hk hc_adr [0, 1, 2] [3] [1, 2, 3, 0] rfl rfl rfl rfl (by decide) rfl rfl rfl
  refine W.eq (g2 := F0 m 7 ls [.int (nI 1), .int (nI 0), .ref o]) rfl ?_
  refine hn_zeq (n := 1) (tgt := 14) hx hb (by omega) dL_free_7 (by decide) (fun hc => ?_) (fun hc => ?_)
  · exact absurd hc (by decide)
  · refine lv_lconst (v := lN 1) hx hb dL_free_10 (by decide +kernel) ?_
    refine lv_goto (tgt := 15) hx hb dL_free_11 (by decide) ?_
    refine hn_last hx hb hK hw 3 2 rfl ht2 (k := 0) (by decide) (by decide) dL_free_15 (fun H locs hw => ?_)
    have hw : hx_w D A s.heap (hl_X cJ h0 h1 h2 u2 cO o (vp_updL out 0 (lN 1))) H locs := hw
    refine lv_goto (tgt := 22) hx hb dL_free_16 (by decide) ?_
    refine lv_iconst (v := nI 0) hx hb dL_free_22 (by decide +kernel) ?_
    refine W.widen (k := 1) (n := 6) (by omega) (by omega) ?_
    exact hx_iret S hr hw dL_free_23
set_option maxHeartbeats 4000000 in
set_option maxRecDepth 100000 in
theorem w_freeX (l : Launch) (hst : l.stackTraces = false) (D : va_G) (tys : List (ClassId × FieldType)) (cJ cO : ClassId) (ht : tys[0]? = some (cJ, .long)) (ht2 : tys[2]? = some (cO, .long)) (h0 h1 h2 o : Nat) (u : ph_H) (a : Nat) (u2 : ph_H) (out : Nat → Int64) (hu : ph_I u) (ha : a < 4294967296) (ha0 : a ≠ 0) (h : ph_give u a = (false, u2)) : hx_K l D tys yL_free wsL_free 12 229 [.ref h0, .int (nI a), .ref o] (hl_X cJ h0 h1 h2 u cO o out) (hl_X cJ h0 h1 h2 u2 cO o out) (some (.int (nI 1))) := by
  refine hx_K.ofW (cc := cL_free) (maxL := 4) (ret := (some .int)) (hh := [(0, 16, 19, 13)]) (by decide) rfl (Nat.le_of_ble_eq_true rfl) ?_
  intro p e s m below meth c A ls hr S htab hw hl
  have S : hx_S p l s m _ meth c cL_free 4 wsL_free RL A D tys := S
  obtain ⟨⟨hx, hb, hml, hown, hts⟩, hK, hA, hE, hlk⟩ := id S
  have hl : lv_has ls 4 [(0, .ref h0), (1, .int (nI a)), (2, .ref o)] := hl
  refine lv_aload_n hx hb dL_free_0 rfl (lv_at hl 2 rfl) ?_
  refine lv_iconst (v := nI 0) hx hb dL_free_1 (by decide +kernel) ?_
  refine lv_aload_n hx hb dL_free_2 rfl (lv_at hl 0 rfl) ?_
  refine lv_iload_n hx hb dL_free_3 rfl (lv_at hl 1 rfl) ?_
  have hwc := hx_cut (w := hc_W cJ h0 h1 h2 u) hw [0, 1, 2] rfl rfl rfl
  refine hx_fX (rest := [.int (nI 0), .ref o]) (n := 1) (x := ⟨0, 16, 19, 13⟩) S hwc (x_free l hst D tys cJ ht h0 h1 h2 u a u2 hu ha ha0 h) gL_free_X1_free rfl (by decide +kernel) rfl ⟨Nat.le_of_ble_eq_true rfl, Nat.le_of_ble_eq_true rfl⟩ 0 1 rfl rfl hc_adr hl.1 rfl (Nat.le_of_ble_eq_true rfl) ⟨by decide, by decide⟩ dL_free_4 htab (by decide) (by decide) (by decide +kernel) (fun q9 H locs hw2 hk => ?_)
  have hw : hx_w D A s.heap (hl_X cJ h0 h1 h2 u2 cO o out) H locs := hx_join (wr := [(o, .inl (cO, 1, .inr (.inl out)))]) hA hw hw2 hk hc_adr [0, 1, 2] [3] [1, 2, 3, 0] rfl rfl rfl rfl (by decide) rfl rfl rfl
  refine W.eq (g2 := F0 m 19 ls [.ref q9]) rfl ?_
  refine lv_astore_n (lv' := [(3, .ref q9), (0, .ref h0), (1, .int (nI a)), (2, .ref o)]) hx hb dL_free_19 rfl hl (by decide) rfl (fun ls hl => ?_)
  refine lv_iconst (v := nI 1) hx hb dL_free_20 (by decide +kernel) ?_
  exact hx_iret S hr hw dL_free_21
