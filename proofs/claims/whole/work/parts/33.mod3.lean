/-! HeapRowModel: give, resized -/
set_option maxHeartbeats 4000000 in
set_option maxRecDepth 100000 in
theorem m_give0 (l : Launch) (hst : l.stackTraces = false) (D : va_G) (tys : List (ClassId × FieldType)) (cB : ClassId) (ht : tys[1]? = some (cB, .byte)) (k0 k1 : Nat) (u : ph_H) (th : Int32) (bf : Int64) : hx_R l D tys yX2_give wsX2_give 10 176 [.ref k0, .int (nI 0)] (hm_W cB k0 k1 u th bf) (hm_W cB k0 k1 u th bf) (some (.int (nI 0))) := by
  refine hx_R.ofW (cc := cX2_give) (maxL := 10) (ret := (some .boolean)) (by decide) rfl (Nat.le_of_ble_eq_true rfl) ?_
  intro p e s m below meth c A ls hr S hw hl
  have S : hx_S p l s m _ meth c cX2_give 10 wsX2_give RX2 A D tys := S
  obtain ⟨⟨hx, hb, hml, hown, hts⟩, hK, hA, hE, hlk⟩ := id S
  have hl : lv_has ls 10 [(0, .ref k0), (1, .int (nI 0))] := hl
  refine lv_iload_n hx hb dX2_give_0 rfl (lv_at hl 1 rfl) ?_
  refine hn_zne (n := 0) (tgt := 6) hx hb (by omega) dX2_give_1 (by decide) (fun hc => ?_) (fun hc => ?_)
  · exact absurd rfl hc
  · refine lv_iconst (v := nI 0) hx hb dX2_give_4 (by decide +kernel) ?_
    exact hx_zret S hr rfl hw dX2_give_5
set_option maxHeartbeats 4000000 in
set_option maxRecDepth 100000 in
theorem m_give (l : Launch) (hst : l.stackTraces = false) (D : va_G) (tys : List (ClassId × FieldType)) (cB : ClassId) (ht : tys[1]? = some (cB, .byte)) (k0 k1 : Nat) (u : ph_H) (th : Int32) (bf : Int64) (a : Nat) (u2 : ph_H) (hu : ph_I u) (ha : a < 4294967296) (ha0 : a ≠ 0) (h : ph_give u a = (true, u2)) : ∃ bf2 : Int64, hx_R l D tys yX2_give wsX2_give 10 176 [.ref k0, .int (nI a)] (hm_W cB k0 k1 u th bf) (hm_W cB k0 k1 u2 th bf2) (some (.int (nI 1))) := by
  unfold ph_give at h
  rcases hf : ph_fd u.1 u.2.1 a 8064 0 1024 with _ | ⟨b, p0⟩
  · rw [hf] at h; cases h
  · rw [hf] at h
    dsimp only at h
    cases h
    obtain ⟨j1, j2, j3, j4, j5, j6⟩ := ph_fd_at hf
    have hu9 := hu
    obtain ⟨i1, i2, i3, i4⟩ := hu9
    have gn := ph_n_lt u.1 b
    refine ⟨hm_bf p0, ?_⟩
    refine hx_R.ofW (cc := cX2_give) (maxL := 10) (ret := (some .boolean)) (by decide) rfl (Nat.le_of_ble_eq_true rfl) ?_
    intro p e s m below meth c A ls hr S hw hl
    have S : hx_S p l s m _ meth c cX2_give 10 wsX2_give RX2 A D tys := S
    obtain ⟨⟨hx, hb, hml, hown, hts⟩, hK, hA, hE, hlk⟩ := id S
    have hi2 : ∀ w ∈ wsX20, w ∈ wsX2_give := by decide +kernel
    have hl : lv_has ls 10 [(0, .ref k0), (1, .int (nI a))] := hl
    refine lv_iload_n hx hb dX2_give_0 rfl (lv_at hl 1 rfl) ?_
    refine hn_zne (n := a) (tgt := 6) hx hb (by omega) dX2_give_1 (by decide) (fun hc => ?_) (fun hc => ?_)
    · refine lv_aload_n hx hb dX2_give_6 rfl (lv_at hl 0 rfl) ?_
      refine lv_iload_n hx hb dX2_give_7 rfl (lv_at hl 1 rfl) ?_
      refine hx_callV (rest := []) (n := 1) S hw (m_found l hst D tys cB ht k0 k1 u th bf a b p0 hu ha hf) gX2_give_X2_found rfl (by decide +kernel) rfl ⟨Nat.le_of_ble_eq_true rfl, Nat.le_of_ble_eq_true rfl⟩ 0 2 rfl rfl hm_adr hl.1 rfl (Nat.le_of_ble_eq_true rfl) ⟨by decide, by decide⟩ dX2_give_8 (fun H locs hw => ?_)
      refine W.eq (g2 := F0 m 11 ls [.long (lN b)]) rfl ?_
      refine lv_lstore_n (lv' := [(2, .long (lN b)), (0, .ref k0), (1, .int (nI a))]) hx hb dX2_give_11 rfl hl (by decide) rfl (fun ls hl => ?_)
      refine lv_aload_n hx hb dX2_give_12 rfl (lv_at hl 1 rfl) ?_
      refine va_get (D := D) (ci := 2) (v := .long (hm_bf p0)) (C := RX2) (T := TX2) (N := 5) hx hb hts hi2 hown hK hw.1 0 rfl rfl 4 (by decide) (hts (.fieldLink RX2 58 "HeapRowModel" "before" "J") (by decide +kernel)) (fun _ h9 => h9) rfl dX2_give_13 ?_
      refine lv_lstore (lv' := [(4, .long (hm_bf p0)), (2, .long (lN b)), (0, .ref k0), (1, .int (nI a))]) hx hb dX2_give_16 hl (by decide) rfl (fun ls hl => ?_)
      refine lv_aload_n hx hb dX2_give_18 rfl (lv_at hl 2 rfl) ?_
      refine lv_lload_n hx hb dX2_give_19 rfl (lv_at hl 1 rfl) ?_
      refine hx_callV (rest := []) (n := 1) S hw (m_sizeAt l hst D tys cB ht k0 k1 u th (hm_bf p0) b ⟨by omega, by omega⟩) gX2_give_X2_sizeAt rfl (by decide +kernel) rfl ⟨Nat.le_of_ble_eq_true rfl, Nat.le_of_ble_eq_true rfl⟩ 0 2 rfl rfl hm_adr hl.1 rfl (Nat.le_of_ble_eq_true rfl) ⟨by decide, by decide⟩ dX2_give_20 (fun H locs hw => ?_)
      refine W.eq (g2 := F0 m 23 ls [.long (lN (ph_n u.1 b))]) rfl ?_
      refine lv_lstore (lv' := [(6, .long (lN (ph_n u.1 b))), (4, .long (hm_bf p0)), (2, .long (lN b)), (0, .ref k0), (1, .int (nI a))]) hx hb dX2_give_23 hl (by decide) rfl (fun ls hl => ?_)
      refine lv_aload_n hx hb dX2_give_25 rfl (lv_at hl 3 rfl) ?_
      refine lv_lload_n hx hb dX2_give_26 rfl (lv_at hl 2 rfl) ?_
      refine lv_ldc2 (v := lN 4) hx hb hown (hts (.constantLong RX2 54 (lN 4)) (by decide +kernel)) dX2_give_27 ?_
      refine hn_ladd (v := lN (b + 4)) hx hb dX2_give_30 (lN_add _ _) ?_
      refine lv_iconst (v := nI 0) hx hb dX2_give_31 (by decide +kernel) ?_
      refine hx_callV (rest := []) (n := 2) S hw (m_set l hst D tys cB ht k0 k1 u th (hm_bf p0) (b + 4) 0 (by decide) ⟨by omega, by omega⟩) gX2_give_X2_set rfl (by decide +kernel) rfl ⟨Nat.le_of_ble_eq_true rfl, Nat.le_of_ble_eq_true rfl⟩ 0 2 rfl rfl hm_adr hl.1 rfl (Nat.le_of_ble_eq_true rfl) ⟨by decide, by decide⟩ dX2_give_32 (fun H locs hw => ?_)
      refine W.eq (g2 := F0 m 35 ls []) rfl ?_
      refine lv_lload_n hx hb dX2_give_35 rfl (lv_at hl 2 rfl) ?_
      refine lv_ldc2 (v := lN 8) hx hb hown (hts (.constantLong RX2 69 (lN 8)) (by decide +kernel)) dX2_give_36 ?_
      refine hn_ladd (v := lN (b + 8)) hx hb dX2_give_39 (lN_add _ _) ?_
      refine lv_lload hx hb dX2_give_40 (lv_at hl 0 rfl) ?_
      refine hn_ladd (v := lN ((b + 8) + (ph_n u.1 b))) hx hb dX2_give_42 (lN_add _ _) ?_
      refine lv_lstore (lv' := [(8, .long (lN ((b + 8) + (ph_n u.1 b)))), (6, .long (lN (ph_n u.1 b))), (4, .long (hm_bf p0)), (2, .long (lN b)), (0, .ref k0), (1, .int (nI a))]) hx hb dX2_give_43 hl (by decide) rfl (fun ls hl => ?_)
      refine lv_lload hx hb dX2_give_45 (lv_at hl 0 rfl) ?_
      refine lv_aload_n hx hb dX2_give_47 rfl (lv_at hl 4 rfl) ?_
      refine va_get (D := D) (ci := 2) (v := .int (nI u.2.1)) (C := RX2) (T := TX2) (N := 5) hx hb hts hi2 hown hK hw.1 0 rfl rfl 1 (by decide) (hts (.fieldLink RX2 14 "HeapRowModel" "end" "I") (by decide +kernel)) (fun _ h9 => h9) rfl dX2_give_48 ?_
      refine lv_i2l (v := lN u.2.1) hx hb dX2_give_51 (nI_l (by omega)) ?_
      refine hn_lge (a := ((b + 8) + (ph_n u.1 b))) (b := u.2.1) (tgt := 102) hx hb (by omega) (by omega) dX2_give_52 dX2_give_53 (by decide) (fun hc2 => ?_) (fun hc2 => ?_)
      · obtain ⟨e1, e2⟩ := hm_g1b (m := u.1) (e := u.2.1) (b := b) (fun z => absurd z.1 (by omega))
        have hw : hx_w D A s.heap (hm_W cB k0 k1 (ph_g1 u.1 u.2.1 b, u.2) th (hm_bf p0)) H locs := by rw [← e1]; exact hw
        have hl : lv_has ls 10 [(8, .long (lN ((b + 8) + (ph_n u.1 b)))), (6, .long (lN (ph_n (ph_g1 u.1 u.2.1 b) b))), (4, .long (hm_bf p0)), (2, .long (lN b)), (0, .ref k0), (1, .int (nI a))] := by rw [e2]; exact hl
        have gg := ph_n_lt (ph_g1 u.1 u.2.1 b) b
        have gp := ph_n_lt (ph_g1 u.1 u.2.1 b) p0
        refine lv_lload hx hb dX2_give_102 (lv_at hl 2 rfl) ?_
        refine lv_lconst (v := lN 0) hx hb dX2_give_104 (by decide +kernel) ?_
        by_cases kp : p0 = 0
        · have eb : hm_bf p0 = (-1) := if_pos kp
          refine W.lcmp hx hb dX2_give_105 ?_
          refine lv_if_lt (tgt := 160) hx hb dX2_give_106 (by decide) (fun _ => ?_) (fun z => absurd (show lg_cmp (hm_bf p0) (lN 0) < 0 from by rw [eb]; decide +kernel) z)
          obtain ⟨e4, e5⟩ := hm_g2b (m := u.1) (e := u.2.1) (b := b) (p := p0) (fun z => z.1 kp)
          have hw : hx_w D A s.heap (hm_W cB k0 k1 (ph_g2 u.1 u.2.1 b p0, u.2) th (hm_bf p0)) H locs := by rw [← e4]; exact hw
          have gJ : 1024 ≤ ph_gj u.1 u.2.1 b p0 ∧ ph_gj u.1 u.2.1 b p0 < 61440 := by rw [e5]; omega
          have hl : lv_has ls 10 [(8, .long (lN ((b + 8) + (ph_n u.1 b)))), (6, .long (lN (ph_n (ph_g2 u.1 u.2.1 b p0) (ph_gj u.1 u.2.1 b p0)))), (4, .long (hm_bf p0)), (2, .long (lN (ph_gj u.1 u.2.1 b p0))), (0, .ref k0), (1, .int (nI a))] := by rw [e5, ← e4]; exact hl
          have gj := ph_n_lt (ph_g2 u.1 u.2.1 b p0) (ph_gj u.1 u.2.1 b p0)
          refine lv_lload_n hx hb dX2_give_160 rfl (lv_at hl 3 rfl) ?_
          refine lv_ldc2 (v := lN 8) hx hb hown (hts (.constantLong RX2 69 (lN 8)) (by decide +kernel)) dX2_give_161 ?_
          refine hn_ladd (v := lN ((ph_gj u.1 u.2.1 b p0) + 8)) hx hb dX2_give_164 (lN_add _ _) ?_
          refine lv_lload hx hb dX2_give_165 (lv_at hl 1 rfl) ?_
          refine hn_ladd (v := lN (((ph_gj u.1 u.2.1 b p0) + 8) + (ph_n (ph_g2 u.1 u.2.1 b p0) (ph_gj u.1 u.2.1 b p0)))) hx hb dX2_give_167 (lN_add _ _) ?_
          refine lv_aload_n hx hb dX2_give_168 rfl (lv_at hl 4 rfl) ?_
          refine va_get (D := D) (ci := 2) (v := .int (nI u.2.1)) (C := RX2) (T := TX2) (N := 5) hx hb hts hi2 hown hK hw.1 0 rfl rfl 1 (by decide) (hts (.fieldLink RX2 14 "HeapRowModel" "end" "I") (by decide +kernel)) (fun _ h9 => h9) rfl dX2_give_169 ?_
          refine lv_i2l (v := lN u.2.1) hx hb dX2_give_172 (nI_l (by omega)) ?_
          refine hn_lne (a := (((ph_gj u.1 u.2.1 b p0) + 8) + (ph_n (ph_g2 u.1 u.2.1 b p0) (ph_gj u.1 u.2.1 b p0)))) (b := u.2.1) (tgt := 183) hx hb (by omega) (by omega) dX2_give_173 dX2_give_174 (by decide) (fun hd => ?_) (fun hd => ?_)
          · have e3 : ph_ge u.1 u.2.1 b p0 = u.2.1 := if_neg hd
            have hw : hx_w D A s.heap (hm_W cB k0 k1 (ph_gb u b p0) th (hm_bf p0)) H locs := by unfold ph_gb; rw [e3]; exact hw
            refine lv_iconst (v := nI 1) hx hb dX2_give_183 (by decide +kernel) ?_
            exact hx_zret S hr rfl hw dX2_give_184
          · have e3 : ph_ge u.1 u.2.1 b p0 = ph_gj u.1 u.2.1 b p0 := if_pos hd
            refine lv_aload_n hx hb dX2_give_177 rfl (lv_at hl 4 rfl) ?_
            refine lv_lload_n hx hb dX2_give_178 rfl (lv_at hl 3 rfl) ?_
            refine lv_l2i (v := nI (ph_gj u.1 u.2.1 b p0)) hx hb dX2_give_179 (lN_i _) ?_
            refine va_put (D := D) (ci := 2) (v := .int (nI (ph_gj u.1 u.2.1 b p0))) (ty := .int) (C := RX2) (T := TX2) (N := 5) hx hb hts hi2 tyX2 tyX2_ok nmX2 hown hK hw.1 hw.2.1 hw.2.2 0 rfl rfl 1 (by decide) (hts (.fieldLink RX2 14 "HeapRowModel" "end" "I") (by decide +kernel)) (fun _ h9 => h9) rfl (by decide +kernel) rfl rfl (Nat.le_of_ble_eq_true rfl) dX2_give_180 (fun H locs y1 y2 y3 => ?_)
            have hw : hx_w D A s.heap (hm_W cB k0 k1 (ph_g2 u.1 u.2.1 b p0, ph_gj u.1 u.2.1 b p0, u.2.2) th (hm_bf p0)) H locs := ⟨y1, y2, y3⟩
            have hw : hx_w D A s.heap (hm_W cB k0 k1 (ph_gb u b p0) th (hm_bf p0)) H locs := by unfold ph_gb; rw [e3]; exact hw
            refine lv_iconst (v := nI 1) hx hb dX2_give_183 (by decide +kernel) ?_
            exact hx_zret S hr rfl hw dX2_give_184
        · have eb : hm_bf p0 = lN p0 := if_neg kp
          refine W.eq (g2 := F0 m 105 ls [.long (lN 0), .long (lN p0)]) (by rw [eb]) ?_
          refine hn_llt (a := p0) (b := 0) (tgt := 160) hx hb (by omega) (by omega) dX2_give_105 dX2_give_106 (by decide) (fun hc5 => ?_) (fun hc5 => ?_)
          · exact absurd hc5 (by omega)
          · have hl : lv_has ls 10 [(8, .long (lN ((b + 8) + (ph_n u.1 b)))), (6, .long (lN (ph_n (ph_g1 u.1 u.2.1 b) b))), (4, .long (lN p0)), (2, .long (lN b)), (0, .ref k0), (1, .int (nI a))] := by rw [← eb]; exact hl
            refine lv_aload_n hx hb dX2_give_109 rfl (lv_at hl 4 rfl) ?_
            refine lv_lload hx hb dX2_give_110 (lv_at hl 2 rfl) ?_
            refine hx_callV (rest := []) (n := 1) S hw (m_takenAt l hst D tys cB ht k0 k1 (ph_g1 u.1 u.2.1 b, u.2) th (hm_bf p0) p0 ⟨by omega, by omega⟩) gX2_give_X2_takenAt rfl (by decide +kernel) rfl ⟨Nat.le_of_ble_eq_true rfl, Nat.le_of_ble_eq_true rfl⟩ 0 2 rfl rfl hm_adr hl.1 rfl (Nat.le_of_ble_eq_true rfl) ⟨by decide, by decide⟩ dX2_give_112 (fun H locs hw => ?_)
            refine W.eq (g2 := F0 m 115 ls [.int (if ph_n (ph_g1 u.1 u.2.1 b) (p0 + 4) = 1 then nI 1 else nI 0)]) rfl ?_
            refine hn_pne (tgt := 160) hx hb dX2_give_115 (by decide) (fun hc6 => ?_) (fun hc6 => ?_)
            · obtain ⟨e4, e5⟩ := hm_g2b (m := u.1) (e := u.2.1) (b := b) (p := p0) (fun z => z.2 hc6)
              have hw : hx_w D A s.heap (hm_W cB k0 k1 (ph_g2 u.1 u.2.1 b p0, u.2) th (hm_bf p0)) H locs := by rw [← e4]; exact hw
              have gJ : 1024 ≤ ph_gj u.1 u.2.1 b p0 ∧ ph_gj u.1 u.2.1 b p0 < 61440 := by rw [e5]; omega
              have hl : lv_has ls 10 [(8, .long (lN ((b + 8) + (ph_n u.1 b)))), (6, .long (lN (ph_n (ph_g2 u.1 u.2.1 b p0) (ph_gj u.1 u.2.1 b p0)))), (4, .long (lN p0)), (2, .long (lN (ph_gj u.1 u.2.1 b p0))), (0, .ref k0), (1, .int (nI a))] := by rw [e5, ← e4]; exact hl
              have gj := ph_n_lt (ph_g2 u.1 u.2.1 b p0) (ph_gj u.1 u.2.1 b p0)
              refine lv_lload_n hx hb dX2_give_160 rfl (lv_at hl 3 rfl) ?_
              refine lv_ldc2 (v := lN 8) hx hb hown (hts (.constantLong RX2 69 (lN 8)) (by decide +kernel)) dX2_give_161 ?_
              refine hn_ladd (v := lN ((ph_gj u.1 u.2.1 b p0) + 8)) hx hb dX2_give_164 (lN_add _ _) ?_
              refine lv_lload hx hb dX2_give_165 (lv_at hl 1 rfl) ?_
              refine hn_ladd (v := lN (((ph_gj u.1 u.2.1 b p0) + 8) + (ph_n (ph_g2 u.1 u.2.1 b p0) (ph_gj u.1 u.2.1 b p0)))) hx hb dX2_give_167 (lN_add _ _) ?_
              refine lv_aload_n hx hb dX2_give_168 rfl (lv_at hl 4 rfl) ?_
              refine va_get (D := D) (ci := 2) (v := .int (nI u.2.1)) (C := RX2) (T := TX2) (N := 5) hx hb hts hi2 hown hK hw.1 0 rfl rfl 1 (by decide) (hts (.fieldLink RX2 14 "HeapRowModel" "end" "I") (by decide +kernel)) (fun _ h9 => h9) rfl dX2_give_169 ?_
              refine lv_i2l (v := lN u.2.1) hx hb dX2_give_172 (nI_l (by omega)) ?_
              refine hn_lne (a := (((ph_gj u.1 u.2.1 b p0) + 8) + (ph_n (ph_g2 u.1 u.2.1 b p0) (ph_gj u.1 u.2.1 b p0)))) (b := u.2.1) (tgt := 183) hx hb (by omega) (by omega) dX2_give_173 dX2_give_174 (by decide) (fun hd => ?_) (fun hd => ?_)
              · have e3 : ph_ge u.1 u.2.1 b p0 = u.2.1 := if_neg hd
                have hw : hx_w D A s.heap (hm_W cB k0 k1 (ph_gb u b p0) th (hm_bf p0)) H locs := by unfold ph_gb; rw [e3]; exact hw
                refine lv_iconst (v := nI 1) hx hb dX2_give_183 (by decide +kernel) ?_
                exact hx_zret S hr rfl hw dX2_give_184
              · have e3 : ph_ge u.1 u.2.1 b p0 = ph_gj u.1 u.2.1 b p0 := if_pos hd
                refine lv_aload_n hx hb dX2_give_177 rfl (lv_at hl 4 rfl) ?_
                refine lv_lload_n hx hb dX2_give_178 rfl (lv_at hl 3 rfl) ?_
                refine lv_l2i (v := nI (ph_gj u.1 u.2.1 b p0)) hx hb dX2_give_179 (lN_i _) ?_
                refine va_put (D := D) (ci := 2) (v := .int (nI (ph_gj u.1 u.2.1 b p0))) (ty := .int) (C := RX2) (T := TX2) (N := 5) hx hb hts hi2 tyX2 tyX2_ok nmX2 hown hK hw.1 hw.2.1 hw.2.2 0 rfl rfl 1 (by decide) (hts (.fieldLink RX2 14 "HeapRowModel" "end" "I") (by decide +kernel)) (fun _ h9 => h9) rfl (by decide +kernel) rfl rfl (Nat.le_of_ble_eq_true rfl) dX2_give_180 (fun H locs y1 y2 y3 => ?_)
                have hw : hx_w D A s.heap (hm_W cB k0 k1 (ph_g2 u.1 u.2.1 b p0, ph_gj u.1 u.2.1 b p0, u.2.2) th (hm_bf p0)) H locs := ⟨y1, y2, y3⟩
                have hw : hx_w D A s.heap (hm_W cB k0 k1 (ph_gb u b p0) th (hm_bf p0)) H locs := by unfold ph_gb; rw [e3]; exact hw
                refine lv_iconst (v := nI 1) hx hb dX2_give_183 (by decide +kernel) ?_
                exact hx_zret S hr rfl hw dX2_give_184
            · have gpb : p0 + 8 + ph_n u.1 p0 = b := by omega
              obtain ⟨e4, e5, e6⟩ := hm_g2a (m := u.1) (e := u.2.1) (b := b) (p := p0) kp gpb (by omega) hc6
              refine lv_aload_n hx hb dX2_give_118 rfl (lv_at hl 4 rfl) ?_
              refine lv_lload hx hb dX2_give_119 (lv_at hl 2 rfl) ?_
              refine hx_callV (rest := []) (n := 1) S hw (m_sizeAt l hst D tys cB ht k0 k1 (ph_g1 u.1 u.2.1 b, u.2) th (hm_bf p0) p0 ⟨by omega, by omega⟩) gX2_give_X2_sizeAt rfl (by decide +kernel) rfl ⟨Nat.le_of_ble_eq_true rfl, Nat.le_of_ble_eq_true rfl⟩ 0 2 rfl rfl hm_adr hl.1 rfl (Nat.le_of_ble_eq_true rfl) ⟨by decide, by decide⟩ dX2_give_121 (fun H locs hw => ?_)
              refine W.eq (g2 := F0 m 124 ls [.long (lN (ph_n (ph_g1 u.1 u.2.1 b) p0))]) rfl ?_
              refine lv_ldc2 (v := lN 8) hx hb hown (hts (.constantLong RX2 69 (lN 8)) (by decide +kernel)) dX2_give_124 ?_
              refine hn_ladd (v := lN ((ph_n (ph_g1 u.1 u.2.1 b) p0) + 8)) hx hb dX2_give_127 (lN_add _ _) ?_
              refine lv_lload hx hb dX2_give_128 (lv_at hl 1 rfl) ?_
              refine hn_ladd (v := lN (((ph_n (ph_g1 u.1 u.2.1 b) p0) + 8) + (ph_n (ph_g1 u.1 u.2.1 b) b))) hx hb dX2_give_130 (lN_add _ _) ?_
              refine lv_l2i (v := nI ((ph_n (ph_g1 u.1 u.2.1 b) p0 + 8 + ph_n (ph_g1 u.1 u.2.1 b) b) % 4294967296)) hx hb dX2_give_131 (by rw [lN_i]; exact hm_mod _) ?_
              refine hx_callS (rest := []) (n := 1) S hw (m_without l hst D tys cB ht k0 k1 (ph_g1 u.1 u.2.1 b, u.2) th (hm_bf p0) ((ph_n (ph_g1 u.1 u.2.1 b) p0 + 8 + ph_n (ph_g1 u.1 u.2.1 b) b) % 4294967296) (by omega)) gX2_give_X2_without rfl (by decide +kernel) rfl ⟨Nat.le_of_ble_eq_true rfl, Nat.le_of_ble_eq_true rfl⟩ hm_adr hl.1 rfl (Nat.le_of_ble_eq_true rfl) ⟨by decide, by decide⟩ dX2_give_132 (fun H locs hw => ?_)
              refine W.eq (g2 := F0 m 135 ls [.long (lN ((ph_n (ph_g1 u.1 u.2.1 b) p0 + 8 + ph_n (ph_g1 u.1 u.2.1 b) b) % 4294967296))]) rfl ?_
              refine lv_lstore (lv' := [(6, .long (lN ((ph_n (ph_g1 u.1 u.2.1 b) p0 + 8 + ph_n (ph_g1 u.1 u.2.1 b) b) % 4294967296))), (8, .long (lN ((b + 8) + (ph_n u.1 b)))), (4, .long (lN p0)), (2, .long (lN b)), (0, .ref k0), (1, .int (nI a))]) hx hb dX2_give_135 hl (by decide) rfl (fun ls hl => ?_)
              refine lv_aload_n hx hb dX2_give_137 rfl (lv_at hl 4 rfl) ?_
              refine lv_lload hx hb dX2_give_138 (lv_at hl 2 rfl) ?_
              refine lv_lload hx hb dX2_give_140 (lv_at hl 0 rfl) ?_
              refine lv_l2i (v := nI ((ph_n (ph_g1 u.1 u.2.1 b) p0 + 8 + ph_n (ph_g1 u.1 u.2.1 b) b) % 4294967296)) hx hb dX2_give_142 (lN_i _) ?_
              refine hx_callV (rest := []) (n := 2) S hw (m_set l hst D tys cB ht k0 k1 (ph_g1 u.1 u.2.1 b, u.2) th (hm_bf p0) p0 ((ph_n (ph_g1 u.1 u.2.1 b) p0 + 8 + ph_n (ph_g1 u.1 u.2.1 b) b) % 4294967296) (by omega) ⟨by omega, by omega⟩) gX2_give_X2_set rfl (by decide +kernel) rfl ⟨Nat.le_of_ble_eq_true rfl, Nat.le_of_ble_eq_true rfl⟩ 0 2 rfl rfl hm_adr hl.1 rfl (Nat.le_of_ble_eq_true rfl) ⟨by decide, by decide⟩ dX2_give_143 (fun H locs hw => ?_)
              refine W.eq (g2 := F0 m 146 ls []) rfl ?_
              refine lv_aload_n hx hb dX2_give_146 rfl (lv_at hl 4 rfl) ?_
              refine lv_lload hx hb dX2_give_147 (lv_at hl 2 rfl) ?_
              refine lv_ldc2 (v := lN 4) hx hb hown (hts (.constantLong RX2 54 (lN 4)) (by decide +kernel)) dX2_give_149 ?_
              refine hn_ladd (v := lN (p0 + 4)) hx hb dX2_give_152 (lN_add _ _) ?_
              refine lv_iconst (v := nI 0) hx hb dX2_give_153 (by decide +kernel) ?_
              refine hx_callV (rest := []) (n := 2) S hw (m_set l hst D tys cB ht k0 k1 (ph_sn (ph_g1 u.1 u.2.1 b) p0 ((ph_n (ph_g1 u.1 u.2.1 b) p0 + 8 + ph_n (ph_g1 u.1 u.2.1 b) b) % 4294967296), u.2) th (hm_bf p0) (p0 + 4) 0 (by decide) ⟨by omega, by omega⟩) gX2_give_X2_set rfl (by decide +kernel) rfl ⟨Nat.le_of_ble_eq_true rfl, Nat.le_of_ble_eq_true rfl⟩ 0 2 rfl rfl hm_adr hl.1 rfl (Nat.le_of_ble_eq_true rfl) ⟨by decide, by decide⟩ dX2_give_154 (fun H locs hw => ?_)
              refine W.eq (g2 := F0 m 157 ls []) rfl ?_
              have hw : hx_w D A s.heap (hm_W cB k0 k1 (ph_g2 u.1 u.2.1 b p0, u.2) th (hm_bf p0)) H locs := by rw [← e4]; exact hw
              refine lv_lload hx hb dX2_give_157 (lv_at hl 2 rfl) ?_
              refine lv_lstore_n (lv' := [(2, .long (lN p0)), (6, .long (lN ((ph_n (ph_g1 u.1 u.2.1 b) p0 + 8 + ph_n (ph_g1 u.1 u.2.1 b) b) % 4294967296))), (8, .long (lN ((b + 8) + (ph_n u.1 b)))), (4, .long (lN p0)), (0, .ref k0), (1, .int (nI a))]) hx hb dX2_give_159 rfl hl (by decide) rfl (fun ls hl => ?_)
              have gJ : 1024 ≤ ph_gj u.1 u.2.1 b p0 ∧ ph_gj u.1 u.2.1 b p0 < 61440 := by rw [e6]; omega
              have hl : lv_has ls 10 [(2, .long (lN (ph_gj u.1 u.2.1 b p0))), (6, .long (lN (ph_n (ph_g2 u.1 u.2.1 b p0) (ph_gj u.1 u.2.1 b p0)))), (8, .long (lN ((b + 8) + (ph_n u.1 b)))), (4, .long (lN p0)), (0, .ref k0), (1, .int (nI a))] := by rw [e5, e6]; exact hl
              have gj := ph_n_lt (ph_g2 u.1 u.2.1 b p0) (ph_gj u.1 u.2.1 b p0)
              refine lv_lload_n hx hb dX2_give_160 rfl (lv_at hl 0 rfl) ?_
              refine lv_ldc2 (v := lN 8) hx hb hown (hts (.constantLong RX2 69 (lN 8)) (by decide +kernel)) dX2_give_161 ?_
              refine hn_ladd (v := lN ((ph_gj u.1 u.2.1 b p0) + 8)) hx hb dX2_give_164 (lN_add _ _) ?_
              refine lv_lload hx hb dX2_give_165 (lv_at hl 1 rfl) ?_
              refine hn_ladd (v := lN (((ph_gj u.1 u.2.1 b p0) + 8) + (ph_n (ph_g2 u.1 u.2.1 b p0) (ph_gj u.1 u.2.1 b p0)))) hx hb dX2_give_167 (lN_add _ _) ?_
              refine lv_aload_n hx hb dX2_give_168 rfl (lv_at hl 4 rfl) ?_
              refine va_get (D := D) (ci := 2) (v := .int (nI u.2.1)) (C := RX2) (T := TX2) (N := 5) hx hb hts hi2 hown hK hw.1 0 rfl rfl 1 (by decide) (hts (.fieldLink RX2 14 "HeapRowModel" "end" "I") (by decide +kernel)) (fun _ h9 => h9) rfl dX2_give_169 ?_
              refine lv_i2l (v := lN u.2.1) hx hb dX2_give_172 (nI_l (by omega)) ?_
              refine hn_lne (a := (((ph_gj u.1 u.2.1 b p0) + 8) + (ph_n (ph_g2 u.1 u.2.1 b p0) (ph_gj u.1 u.2.1 b p0)))) (b := u.2.1) (tgt := 183) hx hb (by omega) (by omega) dX2_give_173 dX2_give_174 (by decide) (fun hd => ?_) (fun hd => ?_)
              · have e3 : ph_ge u.1 u.2.1 b p0 = u.2.1 := if_neg hd
                have hw : hx_w D A s.heap (hm_W cB k0 k1 (ph_gb u b p0) th (hm_bf p0)) H locs := by unfold ph_gb; rw [e3]; exact hw
                refine lv_iconst (v := nI 1) hx hb dX2_give_183 (by decide +kernel) ?_
                exact hx_zret S hr rfl hw dX2_give_184
              · have e3 : ph_ge u.1 u.2.1 b p0 = ph_gj u.1 u.2.1 b p0 := if_pos hd
                refine lv_aload_n hx hb dX2_give_177 rfl (lv_at hl 4 rfl) ?_
                refine lv_lload_n hx hb dX2_give_178 rfl (lv_at hl 0 rfl) ?_
                refine lv_l2i (v := nI (ph_gj u.1 u.2.1 b p0)) hx hb dX2_give_179 (lN_i _) ?_
                refine va_put (D := D) (ci := 2) (v := .int (nI (ph_gj u.1 u.2.1 b p0))) (ty := .int) (C := RX2) (T := TX2) (N := 5) hx hb hts hi2 tyX2 tyX2_ok nmX2 hown hK hw.1 hw.2.1 hw.2.2 0 rfl rfl 1 (by decide) (hts (.fieldLink RX2 14 "HeapRowModel" "end" "I") (by decide +kernel)) (fun _ h9 => h9) rfl (by decide +kernel) rfl rfl (Nat.le_of_ble_eq_true rfl) dX2_give_180 (fun H locs y1 y2 y3 => ?_)
                have hw : hx_w D A s.heap (hm_W cB k0 k1 (ph_g2 u.1 u.2.1 b p0, ph_gj u.1 u.2.1 b p0, u.2.2) th (hm_bf p0)) H locs := ⟨y1, y2, y3⟩
                have hw : hx_w D A s.heap (hm_W cB k0 k1 (ph_gb u b p0) th (hm_bf p0)) H locs := by unfold ph_gb; rw [e3]; exact hw
                refine lv_iconst (v := nI 1) hx hb dX2_give_183 (by decide +kernel) ?_
                exact hx_zret S hr rfl hw dX2_give_184
      · have gn2 := ph_n_lt (ph_sn u.1 (b + 4) 0) (b + 8 + ph_n u.1 b)
        refine lv_aload_n hx hb dX2_give_56 rfl (lv_at hl 4 rfl) ?_
        refine lv_lload hx hb dX2_give_57 (lv_at hl 0 rfl) ?_
        refine hx_callV (rest := []) (n := 1) S hw (m_takenAt l hst D tys cB ht k0 k1 (ph_sn u.1 (b + 4) 0, u.2) th (hm_bf p0) (b + 8 + ph_n u.1 b) ⟨by omega, by omega⟩) gX2_give_X2_takenAt rfl (by decide +kernel) rfl ⟨Nat.le_of_ble_eq_true rfl, Nat.le_of_ble_eq_true rfl⟩ 0 2 rfl rfl hm_adr hl.1 rfl (Nat.le_of_ble_eq_true rfl) ⟨by decide, by decide⟩ dX2_give_59 (fun H locs hw => ?_)
        refine W.eq (g2 := F0 m 62 ls [.int (if ph_n (ph_sn u.1 (b + 4) 0) ((b + 8 + ph_n u.1 b) + 4) = 1 then nI 1 else nI 0)]) rfl ?_
        refine hn_pne (tgt := 102) hx hb dX2_give_62 (by decide) (fun hc3 => ?_) (fun hc3 => ?_)
        · obtain ⟨e1, e2⟩ := hm_g1b (m := u.1) (e := u.2.1) (b := b) (fun z => z.2 hc3)
          have hw : hx_w D A s.heap (hm_W cB k0 k1 (ph_g1 u.1 u.2.1 b, u.2) th (hm_bf p0)) H locs := by rw [← e1]; exact hw
          have hl : lv_has ls 10 [(8, .long (lN ((b + 8) + (ph_n u.1 b)))), (6, .long (lN (ph_n (ph_g1 u.1 u.2.1 b) b))), (4, .long (hm_bf p0)), (2, .long (lN b)), (0, .ref k0), (1, .int (nI a))] := by rw [e2]; exact hl
          have gg := ph_n_lt (ph_g1 u.1 u.2.1 b) b
          have gp := ph_n_lt (ph_g1 u.1 u.2.1 b) p0
          refine lv_lload hx hb dX2_give_102 (lv_at hl 2 rfl) ?_
          refine lv_lconst (v := lN 0) hx hb dX2_give_104 (by decide +kernel) ?_
          by_cases kp : p0 = 0
          · have eb : hm_bf p0 = (-1) := if_pos kp
            refine W.lcmp hx hb dX2_give_105 ?_
            refine lv_if_lt (tgt := 160) hx hb dX2_give_106 (by decide) (fun _ => ?_) (fun z => absurd (show lg_cmp (hm_bf p0) (lN 0) < 0 from by rw [eb]; decide +kernel) z)
            obtain ⟨e4, e5⟩ := hm_g2b (m := u.1) (e := u.2.1) (b := b) (p := p0) (fun z => z.1 kp)
            have hw : hx_w D A s.heap (hm_W cB k0 k1 (ph_g2 u.1 u.2.1 b p0, u.2) th (hm_bf p0)) H locs := by rw [← e4]; exact hw
            have gJ : 1024 ≤ ph_gj u.1 u.2.1 b p0 ∧ ph_gj u.1 u.2.1 b p0 < 61440 := by rw [e5]; omega
            have hl : lv_has ls 10 [(8, .long (lN ((b + 8) + (ph_n u.1 b)))), (6, .long (lN (ph_n (ph_g2 u.1 u.2.1 b p0) (ph_gj u.1 u.2.1 b p0)))), (4, .long (hm_bf p0)), (2, .long (lN (ph_gj u.1 u.2.1 b p0))), (0, .ref k0), (1, .int (nI a))] := by rw [e5, ← e4]; exact hl
            have gj := ph_n_lt (ph_g2 u.1 u.2.1 b p0) (ph_gj u.1 u.2.1 b p0)
            refine lv_lload_n hx hb dX2_give_160 rfl (lv_at hl 3 rfl) ?_
            refine lv_ldc2 (v := lN 8) hx hb hown (hts (.constantLong RX2 69 (lN 8)) (by decide +kernel)) dX2_give_161 ?_
            refine hn_ladd (v := lN ((ph_gj u.1 u.2.1 b p0) + 8)) hx hb dX2_give_164 (lN_add _ _) ?_
            refine lv_lload hx hb dX2_give_165 (lv_at hl 1 rfl) ?_
            refine hn_ladd (v := lN (((ph_gj u.1 u.2.1 b p0) + 8) + (ph_n (ph_g2 u.1 u.2.1 b p0) (ph_gj u.1 u.2.1 b p0)))) hx hb dX2_give_167 (lN_add _ _) ?_
            refine lv_aload_n hx hb dX2_give_168 rfl (lv_at hl 4 rfl) ?_
            refine va_get (D := D) (ci := 2) (v := .int (nI u.2.1)) (C := RX2) (T := TX2) (N := 5) hx hb hts hi2 hown hK hw.1 0 rfl rfl 1 (by decide) (hts (.fieldLink RX2 14 "HeapRowModel" "end" "I") (by decide +kernel)) (fun _ h9 => h9) rfl dX2_give_169 ?_
            refine lv_i2l (v := lN u.2.1) hx hb dX2_give_172 (nI_l (by omega)) ?_
            refine hn_lne (a := (((ph_gj u.1 u.2.1 b p0) + 8) + (ph_n (ph_g2 u.1 u.2.1 b p0) (ph_gj u.1 u.2.1 b p0)))) (b := u.2.1) (tgt := 183) hx hb (by omega) (by omega) dX2_give_173 dX2_give_174 (by decide) (fun hd => ?_) (fun hd => ?_)
            · have e3 : ph_ge u.1 u.2.1 b p0 = u.2.1 := if_neg hd
              have hw : hx_w D A s.heap (hm_W cB k0 k1 (ph_gb u b p0) th (hm_bf p0)) H locs := by unfold ph_gb; rw [e3]; exact hw
              refine lv_iconst (v := nI 1) hx hb dX2_give_183 (by decide +kernel) ?_
              exact hx_zret S hr rfl hw dX2_give_184
            · have e3 : ph_ge u.1 u.2.1 b p0 = ph_gj u.1 u.2.1 b p0 := if_pos hd
              refine lv_aload_n hx hb dX2_give_177 rfl (lv_at hl 4 rfl) ?_
              refine lv_lload_n hx hb dX2_give_178 rfl (lv_at hl 3 rfl) ?_
              refine lv_l2i (v := nI (ph_gj u.1 u.2.1 b p0)) hx hb dX2_give_179 (lN_i _) ?_
              refine va_put (D := D) (ci := 2) (v := .int (nI (ph_gj u.1 u.2.1 b p0))) (ty := .int) (C := RX2) (T := TX2) (N := 5) hx hb hts hi2 tyX2 tyX2_ok nmX2 hown hK hw.1 hw.2.1 hw.2.2 0 rfl rfl 1 (by decide) (hts (.fieldLink RX2 14 "HeapRowModel" "end" "I") (by decide +kernel)) (fun _ h9 => h9) rfl (by decide +kernel) rfl rfl (Nat.le_of_ble_eq_true rfl) dX2_give_180 (fun H locs y1 y2 y3 => ?_)
              have hw : hx_w D A s.heap (hm_W cB k0 k1 (ph_g2 u.1 u.2.1 b p0, ph_gj u.1 u.2.1 b p0, u.2.2) th (hm_bf p0)) H locs := ⟨y1, y2, y3⟩
              have hw : hx_w D A s.heap (hm_W cB k0 k1 (ph_gb u b p0) th (hm_bf p0)) H locs := by unfold ph_gb; rw [e3]; exact hw
              refine lv_iconst (v := nI 1) hx hb dX2_give_183 (by decide +kernel) ?_
              exact hx_zret S hr rfl hw dX2_give_184
          · have eb : hm_bf p0 = lN p0 := if_neg kp
            refine W.eq (g2 := F0 m 105 ls [.long (lN 0), .long (lN p0)]) (by rw [eb]) ?_
            refine hn_llt (a := p0) (b := 0) (tgt := 160) hx hb (by omega) (by omega) dX2_give_105 dX2_give_106 (by decide) (fun hc5 => ?_) (fun hc5 => ?_)
            · exact absurd hc5 (by omega)
            · have hl : lv_has ls 10 [(8, .long (lN ((b + 8) + (ph_n u.1 b)))), (6, .long (lN (ph_n (ph_g1 u.1 u.2.1 b) b))), (4, .long (lN p0)), (2, .long (lN b)), (0, .ref k0), (1, .int (nI a))] := by rw [← eb]; exact hl
              refine lv_aload_n hx hb dX2_give_109 rfl (lv_at hl 4 rfl) ?_
              refine lv_lload hx hb dX2_give_110 (lv_at hl 2 rfl) ?_
              refine hx_callV (rest := []) (n := 1) S hw (m_takenAt l hst D tys cB ht k0 k1 (ph_g1 u.1 u.2.1 b, u.2) th (hm_bf p0) p0 ⟨by omega, by omega⟩) gX2_give_X2_takenAt rfl (by decide +kernel) rfl ⟨Nat.le_of_ble_eq_true rfl, Nat.le_of_ble_eq_true rfl⟩ 0 2 rfl rfl hm_adr hl.1 rfl (Nat.le_of_ble_eq_true rfl) ⟨by decide, by decide⟩ dX2_give_112 (fun H locs hw => ?_)
              refine W.eq (g2 := F0 m 115 ls [.int (if ph_n (ph_g1 u.1 u.2.1 b) (p0 + 4) = 1 then nI 1 else nI 0)]) rfl ?_
              refine hn_pne (tgt := 160) hx hb dX2_give_115 (by decide) (fun hc6 => ?_) (fun hc6 => ?_)
              · obtain ⟨e4, e5⟩ := hm_g2b (m := u.1) (e := u.2.1) (b := b) (p := p0) (fun z => z.2 hc6)
                have hw : hx_w D A s.heap (hm_W cB k0 k1 (ph_g2 u.1 u.2.1 b p0, u.2) th (hm_bf p0)) H locs := by rw [← e4]; exact hw
                have gJ : 1024 ≤ ph_gj u.1 u.2.1 b p0 ∧ ph_gj u.1 u.2.1 b p0 < 61440 := by rw [e5]; omega
                have hl : lv_has ls 10 [(8, .long (lN ((b + 8) + (ph_n u.1 b)))), (6, .long (lN (ph_n (ph_g2 u.1 u.2.1 b p0) (ph_gj u.1 u.2.1 b p0)))), (4, .long (lN p0)), (2, .long (lN (ph_gj u.1 u.2.1 b p0))), (0, .ref k0), (1, .int (nI a))] := by rw [e5, ← e4]; exact hl
                have gj := ph_n_lt (ph_g2 u.1 u.2.1 b p0) (ph_gj u.1 u.2.1 b p0)
                refine lv_lload_n hx hb dX2_give_160 rfl (lv_at hl 3 rfl) ?_
                refine lv_ldc2 (v := lN 8) hx hb hown (hts (.constantLong RX2 69 (lN 8)) (by decide +kernel)) dX2_give_161 ?_
                refine hn_ladd (v := lN ((ph_gj u.1 u.2.1 b p0) + 8)) hx hb dX2_give_164 (lN_add _ _) ?_
                refine lv_lload hx hb dX2_give_165 (lv_at hl 1 rfl) ?_
                refine hn_ladd (v := lN (((ph_gj u.1 u.2.1 b p0) + 8) + (ph_n (ph_g2 u.1 u.2.1 b p0) (ph_gj u.1 u.2.1 b p0)))) hx hb dX2_give_167 (lN_add _ _) ?_
                refine lv_aload_n hx hb dX2_give_168 rfl (lv_at hl 4 rfl) ?_
                refine va_get (D := D) (ci := 2) (v := .int (nI u.2.1)) (C := RX2) (T := TX2) (N := 5) hx hb hts hi2 hown hK hw.1 0 rfl rfl 1 (by decide) (hts (.fieldLink RX2 14 "HeapRowModel" "end" "I") (by decide +kernel)) (fun _ h9 => h9) rfl dX2_give_169 ?_
                refine lv_i2l (v := lN u.2.1) hx hb dX2_give_172 (nI_l (by omega)) ?_
                refine hn_lne (a := (((ph_gj u.1 u.2.1 b p0) + 8) + (ph_n (ph_g2 u.1 u.2.1 b p0) (ph_gj u.1 u.2.1 b p0)))) (b := u.2.1) (tgt := 183) hx hb (by omega) (by omega) dX2_give_173 dX2_give_174 (by decide) (fun hd => ?_) (fun hd => ?_)
                · have e3 : ph_ge u.1 u.2.1 b p0 = u.2.1 := if_neg hd
                  have hw : hx_w D A s.heap (hm_W cB k0 k1 (ph_gb u b p0) th (hm_bf p0)) H locs := by unfold ph_gb; rw [e3]; exact hw
                  refine lv_iconst (v := nI 1) hx hb dX2_give_183 (by decide +kernel) ?_
                  exact hx_zret S hr rfl hw dX2_give_184
                · have e3 : ph_ge u.1 u.2.1 b p0 = ph_gj u.1 u.2.1 b p0 := if_pos hd
                  refine lv_aload_n hx hb dX2_give_177 rfl (lv_at hl 4 rfl) ?_
                  refine lv_lload_n hx hb dX2_give_178 rfl (lv_at hl 3 rfl) ?_
                  refine lv_l2i (v := nI (ph_gj u.1 u.2.1 b p0)) hx hb dX2_give_179 (lN_i _) ?_
                  refine va_put (D := D) (ci := 2) (v := .int (nI (ph_gj u.1 u.2.1 b p0))) (ty := .int) (C := RX2) (T := TX2) (N := 5) hx hb hts hi2 tyX2 tyX2_ok nmX2 hown hK hw.1 hw.2.1 hw.2.2 0 rfl rfl 1 (by decide) (hts (.fieldLink RX2 14 "HeapRowModel" "end" "I") (by decide +kernel)) (fun _ h9 => h9) rfl (by decide +kernel) rfl rfl (Nat.le_of_ble_eq_true rfl) dX2_give_180 (fun H locs y1 y2 y3 => ?_)
                  have hw : hx_w D A s.heap (hm_W cB k0 k1 (ph_g2 u.1 u.2.1 b p0, ph_gj u.1 u.2.1 b p0, u.2.2) th (hm_bf p0)) H locs := ⟨y1, y2, y3⟩
                  have hw : hx_w D A s.heap (hm_W cB k0 k1 (ph_gb u b p0) th (hm_bf p0)) H locs := by unfold ph_gb; rw [e3]; exact hw
                  refine lv_iconst (v := nI 1) hx hb dX2_give_183 (by decide +kernel) ?_
                  exact hx_zret S hr rfl hw dX2_give_184
              · have gpb : p0 + 8 + ph_n u.1 p0 = b := by omega
                obtain ⟨e4, e5, e6⟩ := hm_g2a (m := u.1) (e := u.2.1) (b := b) (p := p0) kp gpb (by omega) hc6
                refine lv_aload_n hx hb dX2_give_118 rfl (lv_at hl 4 rfl) ?_
                refine lv_lload hx hb dX2_give_119 (lv_at hl 2 rfl) ?_
                refine hx_callV (rest := []) (n := 1) S hw (m_sizeAt l hst D tys cB ht k0 k1 (ph_g1 u.1 u.2.1 b, u.2) th (hm_bf p0) p0 ⟨by omega, by omega⟩) gX2_give_X2_sizeAt rfl (by decide +kernel) rfl ⟨Nat.le_of_ble_eq_true rfl, Nat.le_of_ble_eq_true rfl⟩ 0 2 rfl rfl hm_adr hl.1 rfl (Nat.le_of_ble_eq_true rfl) ⟨by decide, by decide⟩ dX2_give_121 (fun H locs hw => ?_)
                refine W.eq (g2 := F0 m 124 ls [.long (lN (ph_n (ph_g1 u.1 u.2.1 b) p0))]) rfl ?_
                refine lv_ldc2 (v := lN 8) hx hb hown (hts (.constantLong RX2 69 (lN 8)) (by decide +kernel)) dX2_give_124 ?_
                refine hn_ladd (v := lN ((ph_n (ph_g1 u.1 u.2.1 b) p0) + 8)) hx hb dX2_give_127 (lN_add _ _) ?_
                refine lv_lload hx hb dX2_give_128 (lv_at hl 1 rfl) ?_
                refine hn_ladd (v := lN (((ph_n (ph_g1 u.1 u.2.1 b) p0) + 8) + (ph_n (ph_g1 u.1 u.2.1 b) b))) hx hb dX2_give_130 (lN_add _ _) ?_
                refine lv_l2i (v := nI ((ph_n (ph_g1 u.1 u.2.1 b) p0 + 8 + ph_n (ph_g1 u.1 u.2.1 b) b) % 4294967296)) hx hb dX2_give_131 (by rw [lN_i]; exact hm_mod _) ?_
                refine hx_callS (rest := []) (n := 1) S hw (m_without l hst D tys cB ht k0 k1 (ph_g1 u.1 u.2.1 b, u.2) th (hm_bf p0) ((ph_n (ph_g1 u.1 u.2.1 b) p0 + 8 + ph_n (ph_g1 u.1 u.2.1 b) b) % 4294967296) (by omega)) gX2_give_X2_without rfl (by decide +kernel) rfl ⟨Nat.le_of_ble_eq_true rfl, Nat.le_of_ble_eq_true rfl⟩ hm_adr hl.1 rfl (Nat.le_of_ble_eq_true rfl) ⟨by decide, by decide⟩ dX2_give_132 (fun H locs hw => ?_)
                refine W.eq (g2 := F0 m 135 ls [.long (lN ((ph_n (ph_g1 u.1 u.2.1 b) p0 + 8 + ph_n (ph_g1 u.1 u.2.1 b) b) % 4294967296))]) rfl ?_
                refine lv_lstore (lv' := [(6, .long (lN ((ph_n (ph_g1 u.1 u.2.1 b) p0 + 8 + ph_n (ph_g1 u.1 u.2.1 b) b) % 4294967296))), (8, .long (lN ((b + 8) + (ph_n u.1 b)))), (4, .long (lN p0)), (2, .long (lN b)), (0, .ref k0), (1, .int (nI a))]) hx hb dX2_give_135 hl (by decide) rfl (fun ls hl => ?_)
                refine lv_aload_n hx hb dX2_give_137 rfl (lv_at hl 4 rfl) ?_
                refine lv_lload hx hb dX2_give_138 (lv_at hl 2 rfl) ?_
                refine lv_lload hx hb dX2_give_140 (lv_at hl 0 rfl) ?_
                refine lv_l2i (v := nI ((ph_n (ph_g1 u.1 u.2.1 b) p0 + 8 + ph_n (ph_g1 u.1 u.2.1 b) b) % 4294967296)) hx hb dX2_give_142 (lN_i _) ?_
                refine hx_callV (rest := []) (n := 2) S hw (m_set l hst D tys cB ht k0 k1 (ph_g1 u.1 u.2.1 b, u.2) th (hm_bf p0) p0 ((ph_n (ph_g1 u.1 u.2.1 b) p0 + 8 + ph_n (ph_g1 u.1 u.2.1 b) b) % 4294967296) (by omega) ⟨by omega, by omega⟩) gX2_give_X2_set rfl (by decide +kernel) rfl ⟨Nat.le_of_ble_eq_true rfl, Nat.le_of_ble_eq_true rfl⟩ 0 2 rfl rfl hm_adr hl.1 rfl (Nat.le_of_ble_eq_true rfl) ⟨by decide, by decide⟩ dX2_give_143 (fun H locs hw => ?_)
                refine W.eq (g2 := F0 m 146 ls []) rfl ?_
                refine lv_aload_n hx hb dX2_give_146 rfl (lv_at hl 4 rfl) ?_
                refine lv_lload hx hb dX2_give_147 (lv_at hl 2 rfl) ?_
                refine lv_ldc2 (v := lN 4) hx hb hown (hts (.constantLong RX2 54 (lN 4)) (by decide +kernel)) dX2_give_149 ?_
                refine hn_ladd (v := lN (p0 + 4)) hx hb dX2_give_152 (lN_add _ _) ?_
                refine lv_iconst (v := nI 0) hx hb dX2_give_153 (by decide +kernel) ?_
                refine hx_callV (rest := []) (n := 2) S hw (m_set l hst D tys cB ht k0 k1 (ph_sn (ph_g1 u.1 u.2.1 b) p0 ((ph_n (ph_g1 u.1 u.2.1 b) p0 + 8 + ph_n (ph_g1 u.1 u.2.1 b) b) % 4294967296), u.2) th (hm_bf p0) (p0 + 4) 0 (by decide) ⟨by omega, by omega⟩) gX2_give_X2_set rfl (by decide +kernel) rfl ⟨Nat.le_of_ble_eq_true rfl, Nat.le_of_ble_eq_true rfl⟩ 0 2 rfl rfl hm_adr hl.1 rfl (Nat.le_of_ble_eq_true rfl) ⟨by decide, by decide⟩ dX2_give_154 (fun H locs hw => ?_)
                refine W.eq (g2 := F0 m 157 ls []) rfl ?_
                have hw : hx_w D A s.heap (hm_W cB k0 k1 (ph_g2 u.1 u.2.1 b p0, u.2) th (hm_bf p0)) H locs := by rw [← e4]; exact hw
                refine lv_lload hx hb dX2_give_157 (lv_at hl 2 rfl) ?_
                refine lv_lstore_n (lv' := [(2, .long (lN p0)), (6, .long (lN ((ph_n (ph_g1 u.1 u.2.1 b) p0 + 8 + ph_n (ph_g1 u.1 u.2.1 b) b) % 4294967296))), (8, .long (lN ((b + 8) + (ph_n u.1 b)))), (4, .long (lN p0)), (0, .ref k0), (1, .int (nI a))]) hx hb dX2_give_159 rfl hl (by decide) rfl (fun ls hl => ?_)
                have gJ : 1024 ≤ ph_gj u.1 u.2.1 b p0 ∧ ph_gj u.1 u.2.1 b p0 < 61440 := by rw [e6]; omega
                have hl : lv_has ls 10 [(2, .long (lN (ph_gj u.1 u.2.1 b p0))), (6, .long (lN (ph_n (ph_g2 u.1 u.2.1 b p0) (ph_gj u.1 u.2.1 b p0)))), (8, .long (lN ((b + 8) + (ph_n u.1 b)))), (4, .long (lN p0)), (0, .ref k0), (1, .int (nI a))] := by rw [e5, e6]; exact hl
                have gj := ph_n_lt (ph_g2 u.1 u.2.1 b p0) (ph_gj u.1 u.2.1 b p0)
                refine lv_lload_n hx hb dX2_give_160 rfl (lv_at hl 0 rfl) ?_
                refine lv_ldc2 (v := lN 8) hx hb hown (hts (.constantLong RX2 69 (lN 8)) (by decide +kernel)) dX2_give_161 ?_
                refine hn_ladd (v := lN ((ph_gj u.1 u.2.1 b p0) + 8)) hx hb dX2_give_164 (lN_add _ _) ?_
                refine lv_lload hx hb dX2_give_165 (lv_at hl 1 rfl) ?_
                refine hn_ladd (v := lN (((ph_gj u.1 u.2.1 b p0) + 8) + (ph_n (ph_g2 u.1 u.2.1 b p0) (ph_gj u.1 u.2.1 b p0)))) hx hb dX2_give_167 (lN_add _ _) ?_
                refine lv_aload_n hx hb dX2_give_168 rfl (lv_at hl 4 rfl) ?_
                refine va_get (D := D) (ci := 2) (v := .int (nI u.2.1)) (C := RX2) (T := TX2) (N := 5) hx hb hts hi2 hown hK hw.1 0 rfl rfl 1 (by decide) (hts (.fieldLink RX2 14 "HeapRowModel" "end" "I") (by decide +kernel)) (fun _ h9 => h9) rfl dX2_give_169 ?_
                refine lv_i2l (v := lN u.2.1) hx hb dX2_give_172 (nI_l (by omega)) ?_
                refine hn_lne (a := (((ph_gj u.1 u.2.1 b p0) + 8) + (ph_n (ph_g2 u.1 u.2.1 b p0) (ph_gj u.1 u.2.1 b p0)))) (b := u.2.1) (tgt := 183) hx hb (by omega) (by omega) dX2_give_173 dX2_give_174 (by decide) (fun hd => ?_) (fun hd => ?_)
                · have e3 : ph_ge u.1 u.2.1 b p0 = u.2.1 := if_neg hd
                  have hw : hx_w D A s.heap (hm_W cB k0 k1 (ph_gb u b p0) th (hm_bf p0)) H locs := by unfold ph_gb; rw [e3]; exact hw
                  refine lv_iconst (v := nI 1) hx hb dX2_give_183 (by decide +kernel) ?_
                  exact hx_zret S hr rfl hw dX2_give_184
                · have e3 : ph_ge u.1 u.2.1 b p0 = ph_gj u.1 u.2.1 b p0 := if_pos hd
                  refine lv_aload_n hx hb dX2_give_177 rfl (lv_at hl 4 rfl) ?_
                  refine lv_lload_n hx hb dX2_give_178 rfl (lv_at hl 0 rfl) ?_
                  refine lv_l2i (v := nI (ph_gj u.1 u.2.1 b p0)) hx hb dX2_give_179 (lN_i _) ?_
                  refine va_put (D := D) (ci := 2) (v := .int (nI (ph_gj u.1 u.2.1 b p0))) (ty := .int) (C := RX2) (T := TX2) (N := 5) hx hb hts hi2 tyX2 tyX2_ok nmX2 hown hK hw.1 hw.2.1 hw.2.2 0 rfl rfl 1 (by decide) (hts (.fieldLink RX2 14 "HeapRowModel" "end" "I") (by decide +kernel)) (fun _ h9 => h9) rfl (by decide +kernel) rfl rfl (Nat.le_of_ble_eq_true rfl) dX2_give_180 (fun H locs y1 y2 y3 => ?_)
                  have hw : hx_w D A s.heap (hm_W cB k0 k1 (ph_g2 u.1 u.2.1 b p0, ph_gj u.1 u.2.1 b p0, u.2.2) th (hm_bf p0)) H locs := ⟨y1, y2, y3⟩
                  have hw : hx_w D A s.heap (hm_W cB k0 k1 (ph_gb u b p0) th (hm_bf p0)) H locs := by unfold ph_gb; rw [e3]; exact hw
                  refine lv_iconst (v := nI 1) hx hb dX2_give_183 (by decide +kernel) ?_
                  exact hx_zret S hr rfl hw dX2_give_184
        · obtain ⟨e1, e2⟩ := hm_g1a (m := u.1) (e := u.2.1) (b := b) hc2 hc3
          refine lv_lload hx hb dX2_give_65 (lv_at hl 1 rfl) ?_
          refine lv_ldc2 (v := lN 8) hx hb hown (hts (.constantLong RX2 69 (lN 8)) (by decide +kernel)) dX2_give_67 ?_
          refine hn_ladd (v := lN ((ph_n u.1 b) + 8)) hx hb dX2_give_70 (lN_add _ _) ?_
          refine lv_aload_n hx hb dX2_give_71 rfl (lv_at hl 4 rfl) ?_
          refine lv_lload hx hb dX2_give_72 (lv_at hl 0 rfl) ?_
          refine hx_callV (rest := [.long (lN ((ph_n u.1 b) + 8))]) (n := 1) S hw (m_sizeAt l hst D tys cB ht k0 k1 (ph_sn u.1 (b + 4) 0, u.2) th (hm_bf p0) (b + 8 + ph_n u.1 b) ⟨by omega, by omega⟩) gX2_give_X2_sizeAt rfl (by decide +kernel) rfl ⟨Nat.le_of_ble_eq_true rfl, Nat.le_of_ble_eq_true rfl⟩ 0 2 rfl rfl hm_adr hl.1 rfl (Nat.le_of_ble_eq_true rfl) ⟨by decide, by decide⟩ dX2_give_74 (fun H locs hw => ?_)
          refine W.eq (g2 := F0 m 77 ls [.long (lN (ph_n (ph_sn u.1 (b + 4) 0) (b + 8 + ph_n u.1 b))), .long (lN ((ph_n u.1 b) + 8))]) rfl ?_
          refine hn_ladd (v := lN (((ph_n u.1 b) + 8) + (ph_n (ph_sn u.1 (b + 4) 0) (b + 8 + ph_n u.1 b)))) hx hb dX2_give_77 (lN_add _ _) ?_
          refine lv_l2i (v := nI ((ph_n u.1 b + 8 + ph_n (ph_sn u.1 (b + 4) 0) (b + 8 + ph_n u.1 b)) % 4294967296)) hx hb dX2_give_78 (by rw [lN_i]; exact hm_mod _) ?_
          refine hx_callS (rest := []) (n := 1) S hw (m_without l hst D tys cB ht k0 k1 (ph_sn u.1 (b + 4) 0, u.2) th (hm_bf p0) ((ph_n u.1 b + 8 + ph_n (ph_sn u.1 (b + 4) 0) (b + 8 + ph_n u.1 b)) % 4294967296) (by omega)) gX2_give_X2_without rfl (by decide +kernel) rfl ⟨Nat.le_of_ble_eq_true rfl, Nat.le_of_ble_eq_true rfl⟩ hm_adr hl.1 rfl (Nat.le_of_ble_eq_true rfl) ⟨by decide, by decide⟩ dX2_give_79 (fun H locs hw => ?_)
          refine W.eq (g2 := F0 m 82 ls [.long (lN ((ph_n u.1 b + 8 + ph_n (ph_sn u.1 (b + 4) 0) (b + 8 + ph_n u.1 b)) % 4294967296))]) rfl ?_
          refine lv_lstore (lv' := [(6, .long (lN ((ph_n u.1 b + 8 + ph_n (ph_sn u.1 (b + 4) 0) (b + 8 + ph_n u.1 b)) % 4294967296))), (8, .long (lN ((b + 8) + (ph_n u.1 b)))), (4, .long (hm_bf p0)), (2, .long (lN b)), (0, .ref k0), (1, .int (nI a))]) hx hb dX2_give_82 hl (by decide) rfl (fun ls hl => ?_)
          refine lv_aload_n hx hb dX2_give_84 rfl (lv_at hl 4 rfl) ?_
          refine lv_lload_n hx hb dX2_give_85 rfl (lv_at hl 3 rfl) ?_
          refine lv_lload hx hb dX2_give_86 (lv_at hl 0 rfl) ?_
          refine lv_l2i (v := nI ((ph_n u.1 b + 8 + ph_n (ph_sn u.1 (b + 4) 0) (b + 8 + ph_n u.1 b)) % 4294967296)) hx hb dX2_give_88 (lN_i _) ?_
          refine hx_callV (rest := []) (n := 2) S hw (m_set l hst D tys cB ht k0 k1 (ph_sn u.1 (b + 4) 0, u.2) th (hm_bf p0) b ((ph_n u.1 b + 8 + ph_n (ph_sn u.1 (b + 4) 0) (b + 8 + ph_n u.1 b)) % 4294967296) (by omega) ⟨by omega, by omega⟩) gX2_give_X2_set rfl (by decide +kernel) rfl ⟨Nat.le_of_ble_eq_true rfl, Nat.le_of_ble_eq_true rfl⟩ 0 2 rfl rfl hm_adr hl.1 rfl (Nat.le_of_ble_eq_true rfl) ⟨by decide, by decide⟩ dX2_give_89 (fun H locs hw => ?_)
          refine W.eq (g2 := F0 m 92 ls []) rfl ?_
          refine lv_aload_n hx hb dX2_give_92 rfl (lv_at hl 4 rfl) ?_
          refine lv_lload_n hx hb dX2_give_93 rfl (lv_at hl 3 rfl) ?_
          refine lv_ldc2 (v := lN 4) hx hb hown (hts (.constantLong RX2 54 (lN 4)) (by decide +kernel)) dX2_give_94 ?_
          refine hn_ladd (v := lN (b + 4)) hx hb dX2_give_97 (lN_add _ _) ?_
          refine lv_iconst (v := nI 0) hx hb dX2_give_98 (by decide +kernel) ?_
          refine hx_callV (rest := []) (n := 2) S hw (m_set l hst D tys cB ht k0 k1 (ph_sn (ph_sn u.1 (b + 4) 0) b ((ph_n u.1 b + 8 + ph_n (ph_sn u.1 (b + 4) 0) (b + 8 + ph_n u.1 b)) % 4294967296), u.2) th (hm_bf p0) (b + 4) 0 (by decide) ⟨by omega, by omega⟩) gX2_give_X2_set rfl (by decide +kernel) rfl ⟨Nat.le_of_ble_eq_true rfl, Nat.le_of_ble_eq_true rfl⟩ 0 2 rfl rfl hm_adr hl.1 rfl (Nat.le_of_ble_eq_true rfl) ⟨by decide, by decide⟩ dX2_give_99 (fun H locs hw => ?_)
          refine W.eq (g2 := F0 m 102 ls []) rfl ?_
          have hw : hx_w D A s.heap (hm_W cB k0 k1 (ph_g1 u.1 u.2.1 b, u.2) th (hm_bf p0)) H locs := by rw [← e1]; exact hw
          have hl : lv_has ls 10 [(6, .long (lN (ph_n (ph_g1 u.1 u.2.1 b) b))), (8, .long (lN ((b + 8) + (ph_n u.1 b)))), (4, .long (hm_bf p0)), (2, .long (lN b)), (0, .ref k0), (1, .int (nI a))] := by rw [e2]; exact hl
          have gg := ph_n_lt (ph_g1 u.1 u.2.1 b) b
          have gp := ph_n_lt (ph_g1 u.1 u.2.1 b) p0
          refine lv_lload hx hb dX2_give_102 (lv_at hl 2 rfl) ?_
          refine lv_lconst (v := lN 0) hx hb dX2_give_104 (by decide +kernel) ?_
          by_cases kp : p0 = 0
          · have eb : hm_bf p0 = (-1) := if_pos kp
            refine W.lcmp hx hb dX2_give_105 ?_
            refine lv_if_lt (tgt := 160) hx hb dX2_give_106 (by decide) (fun _ => ?_) (fun z => absurd (show lg_cmp (hm_bf p0) (lN 0) < 0 from by rw [eb]; decide +kernel) z)
            obtain ⟨e4, e5⟩ := hm_g2b (m := u.1) (e := u.2.1) (b := b) (p := p0) (fun z => z.1 kp)
            have hw : hx_w D A s.heap (hm_W cB k0 k1 (ph_g2 u.1 u.2.1 b p0, u.2) th (hm_bf p0)) H locs := by rw [← e4]; exact hw
            have gJ : 1024 ≤ ph_gj u.1 u.2.1 b p0 ∧ ph_gj u.1 u.2.1 b p0 < 61440 := by rw [e5]; omega
            have hl : lv_has ls 10 [(6, .long (lN (ph_n (ph_g2 u.1 u.2.1 b p0) (ph_gj u.1 u.2.1 b p0)))), (8, .long (lN ((b + 8) + (ph_n u.1 b)))), (4, .long (hm_bf p0)), (2, .long (lN (ph_gj u.1 u.2.1 b p0))), (0, .ref k0), (1, .int (nI a))] := by rw [e5, ← e4]; exact hl
            have gj := ph_n_lt (ph_g2 u.1 u.2.1 b p0) (ph_gj u.1 u.2.1 b p0)
            refine lv_lload_n hx hb dX2_give_160 rfl (lv_at hl 3 rfl) ?_
            refine lv_ldc2 (v := lN 8) hx hb hown (hts (.constantLong RX2 69 (lN 8)) (by decide +kernel)) dX2_give_161 ?_
            refine hn_ladd (v := lN ((ph_gj u.1 u.2.1 b p0) + 8)) hx hb dX2_give_164 (lN_add _ _) ?_
            refine lv_lload hx hb dX2_give_165 (lv_at hl 0 rfl) ?_
            refine hn_ladd (v := lN (((ph_gj u.1 u.2.1 b p0) + 8) + (ph_n (ph_g2 u.1 u.2.1 b p0) (ph_gj u.1 u.2.1 b p0)))) hx hb dX2_give_167 (lN_add _ _) ?_
            refine lv_aload_n hx hb dX2_give_168 rfl (lv_at hl 4 rfl) ?_
            refine va_get (D := D) (ci := 2) (v := .int (nI u.2.1)) (C := RX2) (T := TX2) (N := 5) hx hb hts hi2 hown hK hw.1 0 rfl rfl 1 (by decide) (hts (.fieldLink RX2 14 "HeapRowModel" "end" "I") (by decide +kernel)) (fun _ h9 => h9) rfl dX2_give_169 ?_
            refine lv_i2l (v := lN u.2.1) hx hb dX2_give_172 (nI_l (by omega)) ?_
            refine hn_lne (a := (((ph_gj u.1 u.2.1 b p0) + 8) + (ph_n (ph_g2 u.1 u.2.1 b p0) (ph_gj u.1 u.2.1 b p0)))) (b := u.2.1) (tgt := 183) hx hb (by omega) (by omega) dX2_give_173 dX2_give_174 (by decide) (fun hd => ?_) (fun hd => ?_)
            · have e3 : ph_ge u.1 u.2.1 b p0 = u.2.1 := if_neg hd
              have hw : hx_w D A s.heap (hm_W cB k0 k1 (ph_gb u b p0) th (hm_bf p0)) H locs := by unfold ph_gb; rw [e3]; exact hw
              refine lv_iconst (v := nI 1) hx hb dX2_give_183 (by decide +kernel) ?_
              exact hx_zret S hr rfl hw dX2_give_184
            · have e3 : ph_ge u.1 u.2.1 b p0 = ph_gj u.1 u.2.1 b p0 := if_pos hd
              refine lv_aload_n hx hb dX2_give_177 rfl (lv_at hl 4 rfl) ?_
              refine lv_lload_n hx hb dX2_give_178 rfl (lv_at hl 3 rfl) ?_
              refine lv_l2i (v := nI (ph_gj u.1 u.2.1 b p0)) hx hb dX2_give_179 (lN_i _) ?_
              refine va_put (D := D) (ci := 2) (v := .int (nI (ph_gj u.1 u.2.1 b p0))) (ty := .int) (C := RX2) (T := TX2) (N := 5) hx hb hts hi2 tyX2 tyX2_ok nmX2 hown hK hw.1 hw.2.1 hw.2.2 0 rfl rfl 1 (by decide) (hts (.fieldLink RX2 14 "HeapRowModel" "end" "I") (by decide +kernel)) (fun _ h9 => h9) rfl (by decide +kernel) rfl rfl (Nat.le_of_ble_eq_true rfl) dX2_give_180 (fun H locs y1 y2 y3 => ?_)
              have hw : hx_w D A s.heap (hm_W cB k0 k1 (ph_g2 u.1 u.2.1 b p0, ph_gj u.1 u.2.1 b p0, u.2.2) th (hm_bf p0)) H locs := ⟨y1, y2, y3⟩
              have hw : hx_w D A s.heap (hm_W cB k0 k1 (ph_gb u b p0) th (hm_bf p0)) H locs := by unfold ph_gb; rw [e3]; exact hw
              refine lv_iconst (v := nI 1) hx hb dX2_give_183 (by decide +kernel) ?_
              exact hx_zret S hr rfl hw dX2_give_184
          · have eb : hm_bf p0 = lN p0 := if_neg kp
            refine W.eq (g2 := F0 m 105 ls [.long (lN 0), .long (lN p0)]) (by rw [eb]) ?_
            refine hn_llt (a := p0) (b := 0) (tgt := 160) hx hb (by omega) (by omega) dX2_give_105 dX2_give_106 (by decide) (fun hc5 => ?_) (fun hc5 => ?_)
            · exact absurd hc5 (by omega)
            · have hl : lv_has ls 10 [(6, .long (lN (ph_n (ph_g1 u.1 u.2.1 b) b))), (8, .long (lN ((b + 8) + (ph_n u.1 b)))), (4, .long (lN p0)), (2, .long (lN b)), (0, .ref k0), (1, .int (nI a))] := by rw [← eb]; exact hl
              refine lv_aload_n hx hb dX2_give_109 rfl (lv_at hl 4 rfl) ?_
              refine lv_lload hx hb dX2_give_110 (lv_at hl 2 rfl) ?_
              refine hx_callV (rest := []) (n := 1) S hw (m_takenAt l hst D tys cB ht k0 k1 (ph_g1 u.1 u.2.1 b, u.2) th (hm_bf p0) p0 ⟨by omega, by omega⟩) gX2_give_X2_takenAt rfl (by decide +kernel) rfl ⟨Nat.le_of_ble_eq_true rfl, Nat.le_of_ble_eq_true rfl⟩ 0 2 rfl rfl hm_adr hl.1 rfl (Nat.le_of_ble_eq_true rfl) ⟨by decide, by decide⟩ dX2_give_112 (fun H locs hw => ?_)
              refine W.eq (g2 := F0 m 115 ls [.int (if ph_n (ph_g1 u.1 u.2.1 b) (p0 + 4) = 1 then nI 1 else nI 0)]) rfl ?_
              refine hn_pne (tgt := 160) hx hb dX2_give_115 (by decide) (fun hc6 => ?_) (fun hc6 => ?_)
              · obtain ⟨e4, e5⟩ := hm_g2b (m := u.1) (e := u.2.1) (b := b) (p := p0) (fun z => z.2 hc6)
                have hw : hx_w D A s.heap (hm_W cB k0 k1 (ph_g2 u.1 u.2.1 b p0, u.2) th (hm_bf p0)) H locs := by rw [← e4]; exact hw
                have gJ : 1024 ≤ ph_gj u.1 u.2.1 b p0 ∧ ph_gj u.1 u.2.1 b p0 < 61440 := by rw [e5]; omega
                have hl : lv_has ls 10 [(6, .long (lN (ph_n (ph_g2 u.1 u.2.1 b p0) (ph_gj u.1 u.2.1 b p0)))), (8, .long (lN ((b + 8) + (ph_n u.1 b)))), (4, .long (lN p0)), (2, .long (lN (ph_gj u.1 u.2.1 b p0))), (0, .ref k0), (1, .int (nI a))] := by rw [e5, ← e4]; exact hl
                have gj := ph_n_lt (ph_g2 u.1 u.2.1 b p0) (ph_gj u.1 u.2.1 b p0)
                refine lv_lload_n hx hb dX2_give_160 rfl (lv_at hl 3 rfl) ?_
                refine lv_ldc2 (v := lN 8) hx hb hown (hts (.constantLong RX2 69 (lN 8)) (by decide +kernel)) dX2_give_161 ?_
                refine hn_ladd (v := lN ((ph_gj u.1 u.2.1 b p0) + 8)) hx hb dX2_give_164 (lN_add _ _) ?_
                refine lv_lload hx hb dX2_give_165 (lv_at hl 0 rfl) ?_
                refine hn_ladd (v := lN (((ph_gj u.1 u.2.1 b p0) + 8) + (ph_n (ph_g2 u.1 u.2.1 b p0) (ph_gj u.1 u.2.1 b p0)))) hx hb dX2_give_167 (lN_add _ _) ?_
                refine lv_aload_n hx hb dX2_give_168 rfl (lv_at hl 4 rfl) ?_
                refine va_get (D := D) (ci := 2) (v := .int (nI u.2.1)) (C := RX2) (T := TX2) (N := 5) hx hb hts hi2 hown hK hw.1 0 rfl rfl 1 (by decide) (hts (.fieldLink RX2 14 "HeapRowModel" "end" "I") (by decide +kernel)) (fun _ h9 => h9) rfl dX2_give_169 ?_
                refine lv_i2l (v := lN u.2.1) hx hb dX2_give_172 (nI_l (by omega)) ?_
                refine hn_lne (a := (((ph_gj u.1 u.2.1 b p0) + 8) + (ph_n (ph_g2 u.1 u.2.1 b p0) (ph_gj u.1 u.2.1 b p0)))) (b := u.2.1) (tgt := 183) hx hb (by omega) (by omega) dX2_give_173 dX2_give_174 (by decide) (fun hd => ?_) (fun hd => ?_)
                · have e3 : ph_ge u.1 u.2.1 b p0 = u.2.1 := if_neg hd
                  have hw : hx_w D A s.heap (hm_W cB k0 k1 (ph_gb u b p0) th (hm_bf p0)) H locs := by unfold ph_gb; rw [e3]; exact hw
                  refine lv_iconst (v := nI 1) hx hb dX2_give_183 (by decide +kernel) ?_
                  exact hx_zret S hr rfl hw dX2_give_184
                · have e3 : ph_ge u.1 u.2.1 b p0 = ph_gj u.1 u.2.1 b p0 := if_pos hd
                  refine lv_aload_n hx hb dX2_give_177 rfl (lv_at hl 4 rfl) ?_
                  refine lv_lload_n hx hb dX2_give_178 rfl (lv_at hl 3 rfl) ?_
                  refine lv_l2i (v := nI (ph_gj u.1 u.2.1 b p0)) hx hb dX2_give_179 (lN_i _) ?_
                  refine va_put (D := D) (ci := 2) (v := .int (nI (ph_gj u.1 u.2.1 b p0))) (ty := .int) (C := RX2) (T := TX2) (N := 5) hx hb hts hi2 tyX2 tyX2_ok nmX2 hown hK hw.1 hw.2.1 hw.2.2 0 rfl rfl 1 (by decide) (hts (.fieldLink RX2 14 "HeapRowModel" "end" "I") (by decide +kernel)) (fun _ h9 => h9) rfl (by decide +kernel) rfl rfl (Nat.le_of_ble_eq_true rfl) dX2_give_180 (fun H locs y1 y2 y3 => ?_)
                  have hw : hx_w D A s.heap (hm_W cB k0 k1 (ph_g2 u.1 u.2.1 b p0, ph_gj u.1 u.2.1 b p0, u.2.2) th (hm_bf p0)) H locs := ⟨y1, y2, y3⟩
                  have hw : hx_w D A s.heap (hm_W cB k0 k1 (ph_gb u b p0) th (hm_bf p0)) H locs := by unfold ph_gb; rw [e3]; exact hw
                  refine lv_iconst (v := nI 1) hx hb dX2_give_183 (by decide +kernel) ?_
                  exact hx_zret S hr rfl hw dX2_give_184
              · have gpb : p0 + 8 + ph_n u.1 p0 = b := by omega
                obtain ⟨e4, e5, e6⟩ := hm_g2a (m := u.1) (e := u.2.1) (b := b) (p := p0) kp gpb (by omega) hc6
                refine lv_aload_n hx hb dX2_give_118 rfl (lv_at hl 4 rfl) ?_
                refine lv_lload hx hb dX2_give_119 (lv_at hl 2 rfl) ?_
                refine hx_callV (rest := []) (n := 1) S hw (m_sizeAt l hst D tys cB ht k0 k1 (ph_g1 u.1 u.2.1 b, u.2) th (hm_bf p0) p0 ⟨by omega, by omega⟩) gX2_give_X2_sizeAt rfl (by decide +kernel) rfl ⟨Nat.le_of_ble_eq_true rfl, Nat.le_of_ble_eq_true rfl⟩ 0 2 rfl rfl hm_adr hl.1 rfl (Nat.le_of_ble_eq_true rfl) ⟨by decide, by decide⟩ dX2_give_121 (fun H locs hw => ?_)
                refine W.eq (g2 := F0 m 124 ls [.long (lN (ph_n (ph_g1 u.1 u.2.1 b) p0))]) rfl ?_
                refine lv_ldc2 (v := lN 8) hx hb hown (hts (.constantLong RX2 69 (lN 8)) (by decide +kernel)) dX2_give_124 ?_
                refine hn_ladd (v := lN ((ph_n (ph_g1 u.1 u.2.1 b) p0) + 8)) hx hb dX2_give_127 (lN_add _ _) ?_
                refine lv_lload hx hb dX2_give_128 (lv_at hl 0 rfl) ?_
                refine hn_ladd (v := lN (((ph_n (ph_g1 u.1 u.2.1 b) p0) + 8) + (ph_n (ph_g1 u.1 u.2.1 b) b))) hx hb dX2_give_130 (lN_add _ _) ?_
                refine lv_l2i (v := nI ((ph_n (ph_g1 u.1 u.2.1 b) p0 + 8 + ph_n (ph_g1 u.1 u.2.1 b) b) % 4294967296)) hx hb dX2_give_131 (by rw [lN_i]; exact hm_mod _) ?_
                refine hx_callS (rest := []) (n := 1) S hw (m_without l hst D tys cB ht k0 k1 (ph_g1 u.1 u.2.1 b, u.2) th (hm_bf p0) ((ph_n (ph_g1 u.1 u.2.1 b) p0 + 8 + ph_n (ph_g1 u.1 u.2.1 b) b) % 4294967296) (by omega)) gX2_give_X2_without rfl (by decide +kernel) rfl ⟨Nat.le_of_ble_eq_true rfl, Nat.le_of_ble_eq_true rfl⟩ hm_adr hl.1 rfl (Nat.le_of_ble_eq_true rfl) ⟨by decide, by decide⟩ dX2_give_132 (fun H locs hw => ?_)
                refine W.eq (g2 := F0 m 135 ls [.long (lN ((ph_n (ph_g1 u.1 u.2.1 b) p0 + 8 + ph_n (ph_g1 u.1 u.2.1 b) b) % 4294967296))]) rfl ?_
                refine lv_lstore (lv' := [(6, .long (lN ((ph_n (ph_g1 u.1 u.2.1 b) p0 + 8 + ph_n (ph_g1 u.1 u.2.1 b) b) % 4294967296))), (8, .long (lN ((b + 8) + (ph_n u.1 b)))), (4, .long (lN p0)), (2, .long (lN b)), (0, .ref k0), (1, .int (nI a))]) hx hb dX2_give_135 hl (by decide) rfl (fun ls hl => ?_)
                refine lv_aload_n hx hb dX2_give_137 rfl (lv_at hl 4 rfl) ?_
                refine lv_lload hx hb dX2_give_138 (lv_at hl 2 rfl) ?_
                refine lv_lload hx hb dX2_give_140 (lv_at hl 0 rfl) ?_
                refine lv_l2i (v := nI ((ph_n (ph_g1 u.1 u.2.1 b) p0 + 8 + ph_n (ph_g1 u.1 u.2.1 b) b) % 4294967296)) hx hb dX2_give_142 (lN_i _) ?_
                refine hx_callV (rest := []) (n := 2) S hw (m_set l hst D tys cB ht k0 k1 (ph_g1 u.1 u.2.1 b, u.2) th (hm_bf p0) p0 ((ph_n (ph_g1 u.1 u.2.1 b) p0 + 8 + ph_n (ph_g1 u.1 u.2.1 b) b) % 4294967296) (by omega) ⟨by omega, by omega⟩) gX2_give_X2_set rfl (by decide +kernel) rfl ⟨Nat.le_of_ble_eq_true rfl, Nat.le_of_ble_eq_true rfl⟩ 0 2 rfl rfl hm_adr hl.1 rfl (Nat.le_of_ble_eq_true rfl) ⟨by decide, by decide⟩ dX2_give_143 (fun H locs hw => ?_)
                refine W.eq (g2 := F0 m 146 ls []) rfl ?_
                refine lv_aload_n hx hb dX2_give_146 rfl (lv_at hl 4 rfl) ?_
                refine lv_lload hx hb dX2_give_147 (lv_at hl 2 rfl) ?_
                refine lv_ldc2 (v := lN 4) hx hb hown (hts (.constantLong RX2 54 (lN 4)) (by decide +kernel)) dX2_give_149 ?_
                refine hn_ladd (v := lN (p0 + 4)) hx hb dX2_give_152 (lN_add _ _) ?_
                refine lv_iconst (v := nI 0) hx hb dX2_give_153 (by decide +kernel) ?_
                refine hx_callV (rest := []) (n := 2) S hw (m_set l hst D tys cB ht k0 k1 (ph_sn (ph_g1 u.1 u.2.1 b) p0 ((ph_n (ph_g1 u.1 u.2.1 b) p0 + 8 + ph_n (ph_g1 u.1 u.2.1 b) b) % 4294967296), u.2) th (hm_bf p0) (p0 + 4) 0 (by decide) ⟨by omega, by omega⟩) gX2_give_X2_set rfl (by decide +kernel) rfl ⟨Nat.le_of_ble_eq_true rfl, Nat.le_of_ble_eq_true rfl⟩ 0 2 rfl rfl hm_adr hl.1 rfl (Nat.le_of_ble_eq_true rfl) ⟨by decide, by decide⟩ dX2_give_154 (fun H locs hw => ?_)
                refine W.eq (g2 := F0 m 157 ls []) rfl ?_
                have hw : hx_w D A s.heap (hm_W cB k0 k1 (ph_g2 u.1 u.2.1 b p0, u.2) th (hm_bf p0)) H locs := by rw [← e4]; exact hw
                refine lv_lload hx hb dX2_give_157 (lv_at hl 2 rfl) ?_
                refine lv_lstore_n (lv' := [(2, .long (lN p0)), (6, .long (lN ((ph_n (ph_g1 u.1 u.2.1 b) p0 + 8 + ph_n (ph_g1 u.1 u.2.1 b) b) % 4294967296))), (8, .long (lN ((b + 8) + (ph_n u.1 b)))), (4, .long (lN p0)), (0, .ref k0), (1, .int (nI a))]) hx hb dX2_give_159 rfl hl (by decide) rfl (fun ls hl => ?_)
                have gJ : 1024 ≤ ph_gj u.1 u.2.1 b p0 ∧ ph_gj u.1 u.2.1 b p0 < 61440 := by rw [e6]; omega
                have hl : lv_has ls 10 [(2, .long (lN (ph_gj u.1 u.2.1 b p0))), (6, .long (lN (ph_n (ph_g2 u.1 u.2.1 b p0) (ph_gj u.1 u.2.1 b p0)))), (8, .long (lN ((b + 8) + (ph_n u.1 b)))), (4, .long (lN p0)), (0, .ref k0), (1, .int (nI a))] := by rw [e5, e6]; exact hl
                have gj := ph_n_lt (ph_g2 u.1 u.2.1 b p0) (ph_gj u.1 u.2.1 b p0)
                refine lv_lload_n hx hb dX2_give_160 rfl (lv_at hl 0 rfl) ?_
                refine lv_ldc2 (v := lN 8) hx hb hown (hts (.constantLong RX2 69 (lN 8)) (by decide +kernel)) dX2_give_161 ?_
                refine hn_ladd (v := lN ((ph_gj u.1 u.2.1 b p0) + 8)) hx hb dX2_give_164 (lN_add _ _) ?_
                refine lv_lload hx hb dX2_give_165 (lv_at hl 1 rfl) ?_
                refine hn_ladd (v := lN (((ph_gj u.1 u.2.1 b p0) + 8) + (ph_n (ph_g2 u.1 u.2.1 b p0) (ph_gj u.1 u.2.1 b p0)))) hx hb dX2_give_167 (lN_add _ _) ?_
                refine lv_aload_n hx hb dX2_give_168 rfl (lv_at hl 4 rfl) ?_
                refine va_get (D := D) (ci := 2) (v := .int (nI u.2.1)) (C := RX2) (T := TX2) (N := 5) hx hb hts hi2 hown hK hw.1 0 rfl rfl 1 (by decide) (hts (.fieldLink RX2 14 "HeapRowModel" "end" "I") (by decide +kernel)) (fun _ h9 => h9) rfl dX2_give_169 ?_
                refine lv_i2l (v := lN u.2.1) hx hb dX2_give_172 (nI_l (by omega)) ?_
                refine hn_lne (a := (((ph_gj u.1 u.2.1 b p0) + 8) + (ph_n (ph_g2 u.1 u.2.1 b p0) (ph_gj u.1 u.2.1 b p0)))) (b := u.2.1) (tgt := 183) hx hb (by omega) (by omega) dX2_give_173 dX2_give_174 (by decide) (fun hd => ?_) (fun hd => ?_)
                · have e3 : ph_ge u.1 u.2.1 b p0 = u.2.1 := if_neg hd
                  have hw : hx_w D A s.heap (hm_W cB k0 k1 (ph_gb u b p0) th (hm_bf p0)) H locs := by unfold ph_gb; rw [e3]; exact hw
                  refine lv_iconst (v := nI 1) hx hb dX2_give_183 (by decide +kernel) ?_
                  exact hx_zret S hr rfl hw dX2_give_184
                · have e3 : ph_ge u.1 u.2.1 b p0 = ph_gj u.1 u.2.1 b p0 := if_pos hd
                  refine lv_aload_n hx hb dX2_give_177 rfl (lv_at hl 4 rfl) ?_
                  refine lv_lload_n hx hb dX2_give_178 rfl (lv_at hl 0 rfl) ?_
                  refine lv_l2i (v := nI (ph_gj u.1 u.2.1 b p0)) hx hb dX2_give_179 (lN_i _) ?_
                  refine va_put (D := D) (ci := 2) (v := .int (nI (ph_gj u.1 u.2.1 b p0))) (ty := .int) (C := RX2) (T := TX2) (N := 5) hx hb hts hi2 tyX2 tyX2_ok nmX2 hown hK hw.1 hw.2.1 hw.2.2 0 rfl rfl 1 (by decide) (hts (.fieldLink RX2 14 "HeapRowModel" "end" "I") (by decide +kernel)) (fun _ h9 => h9) rfl (by decide +kernel) rfl rfl (Nat.le_of_ble_eq_true rfl) dX2_give_180 (fun H locs y1 y2 y3 => ?_)
                  have hw : hx_w D A s.heap (hm_W cB k0 k1 (ph_g2 u.1 u.2.1 b p0, ph_gj u.1 u.2.1 b p0, u.2.2) th (hm_bf p0)) H locs := ⟨y1, y2, y3⟩
                  have hw : hx_w D A s.heap (hm_W cB k0 k1 (ph_gb u b p0) th (hm_bf p0)) H locs := by unfold ph_gb; rw [e3]; exact hw
                  refine lv_iconst (v := nI 1) hx hb dX2_give_183 (by decide +kernel) ?_
                  exact hx_zret S hr rfl hw dX2_give_184
    · exact absurd hc ha0
set_option maxHeartbeats 4000000 in
set_option maxRecDepth 100000 in
theorem mx_give (l : Launch) (hst : l.stackTraces = false) (D : va_G) (tys : List (ClassId × FieldType)) (cB : ClassId) (ht : tys[1]? = some (cB, .byte)) (k0 k1 : Nat) (u : ph_H) (th : Int32) (bf : Int64) (a : Nat) (u2 : ph_H) (hu : ph_I u) (ha : a < 4294967296) (ha0 : a ≠ 0) (h : ph_give u a = (false, u2)) : ∃ bf2 : Int64, hx_X l D tys yX2_give wsX2_give 10 176 [.ref k0, .int (nI a)] (hm_W cB k0 k1 u th bf) (hm_W cB k0 k1 u2 th bf2) := by
  unfold ph_give at h
  rcases hf : ph_fd u.1 u.2.1 a 8064 0 1024 with _ | ⟨b, p0⟩
  · rw [hf] at h
    dsimp only at h
    cases h
    generalize hz : ph_bb u.1 u.2.1 8064 0 1024 = z
    refine ⟨hm_bf z, ?_⟩
    refine hx_X.ofW (cc := cX2_give) (maxL := 10) (ret := (some .boolean)) (by decide) rfl (Nat.le_of_ble_eq_true rfl) ?_
    intro p e s m below meth c A ls hr S hno hw hl
    have S : hx_S p l s m _ meth c cX2_give 10 wsX2_give RX2 A D tys := S
    obtain ⟨⟨hx, hb, hml, hown, hts⟩, hK, hA, hE, hlk⟩ := id S
    have hi2 : ∀ w ∈ wsX20, w ∈ wsX2_give := by decide +kernel
    have hl : lv_has ls 10 [(0, .ref k0), (1, .int (nI a))] := hl
    refine lv_iload_n hx hb dX2_give_0 rfl (lv_at hl 1 rfl) ?_
    refine hn_zne (n := a) (tgt := 6) hx hb (by omega) dX2_give_1 (by decide) (fun hc => ?_) (fun hc => ?_)
    · refine lv_aload_n hx hb dX2_give_6 rfl (lv_at hl 0 rfl) ?_
      refine lv_iload_n hx hb dX2_give_7 rfl (lv_at hl 1 rfl) ?_
      exact hx_thr (rest := []) (n := 1) S hno hw (mx_found l hst D tys cB ht k0 k1 u th bf a z hu ha hz hf) gX2_give_X2_found rfl (by decide +kernel) rfl ⟨Nat.le_of_ble_eq_true rfl, Nat.le_of_ble_eq_true rfl⟩ 0 2 rfl rfl hm_adr hl.1 rfl (Nat.le_of_ble_eq_true rfl) ⟨by decide, by decide⟩ dX2_give_8
    · exact absurd hc ha0
  · rw [hf] at h; cases h
