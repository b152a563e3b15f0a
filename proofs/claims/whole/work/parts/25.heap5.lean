/-! HeapRow.resize -/
set_option maxHeartbeats 4000000 in
set_option maxRecDepth 100000 in
theorem c_resize (l : Launch) (hst : l.stackTraces = false) (D : va_G) (tys : List (ClassId × FieldType)) (cJ : ClassId) (ht : tys[0]? = some (cJ, .long)) (h0 h1 h2 : Nat) (u : ph_H) (a n x : Nat) (u2 : ph_H) (hu : ph_I u) (ha : a < 4294967296) (hn : n < 4294967296) (h : ph_rsz u a n = (some x, u2)) : hx_R l D tys yX1_resize wsX1_resize 11 210 [.ref h0, .int (nI a), .int (nI n)] (hc_W cJ h0 h1 h2 u) (hc_W cJ h0 h1 h2 u2) (some (.int (nI x))) := by
  refine hx_R.ofW (cc := cX1_resize) (maxL := 9) (ret := (some .int)) (by decide) rfl (Nat.le_of_ble_eq_true rfl) ?_
  intro p e s m below meth c A ls hr S hw hl
  have S : hx_S p l s m _ meth c cX1_resize 9 wsX1_resize RX1 A D tys := S
  obtain ⟨⟨hx, hb, hml, hown, hts⟩, hK, hA, hE, hlk⟩ := id S
  have hi1 : ∀ w ∈ wsX10, w ∈ wsX1_resize := by decide +kernel
  have hl : lv_has ls 9 [(0, .ref h0), (1, .int (nI a)), (2, .int (nI n))] := hl
  have hu9 := hu
  obtain ⟨i1, i2, i3, i4⟩ := hu9
  have gu := ph_up_ge n
  have gu2 := ph_up_lt hn
  unfold ph_rsz at h
  by_cases ka : a = 0
  · rw [if_pos ka] at h
    subst ka
    refine lv_iload_n hx hb dX1_resize_0 rfl (lv_at hl 1 rfl) ?_
    refine hn_zne (n := 0) (tgt := 14) hx hb (by omega) dX1_resize_1 (by decide) (fun hc => ?_) (fun hc => ?_)
    · exact absurd rfl hc
    · refine lv_aload_n hx hb dX1_resize_4 rfl (lv_at hl 0 rfl) ?_
      refine lv_iload_n hx hb dX1_resize_5 rfl (lv_at hl 2 rfl) ?_
      refine hx_callS (rest := [.ref h0]) (n := 1) S hw (c_unsigned l hst D tys cJ ht h0 h1 h2 u n (by omega)) gX1_resize_X1_unsigned rfl (by decide +kernel) rfl ⟨Nat.le_of_ble_eq_true rfl, Nat.le_of_ble_eq_true rfl⟩ hc_adr hl.1 rfl (Nat.le_of_ble_eq_true rfl) ⟨by decide, by decide⟩ dX1_resize_6 (fun H locs hw => ?_)
      refine W.eq (g2 := F0 m 9 ls [.long (lN n), .ref h0]) rfl ?_
      refine hx_callV (rest := []) (n := 1) S hw (c_take l hst D tys cJ ht h0 h1 h2 u n x u2 hu hn h) gX1_resize_X1_take rfl (by decide +kernel) rfl ⟨Nat.le_of_ble_eq_true rfl, Nat.le_of_ble_eq_true rfl⟩ 0 1 rfl rfl hc_adr hl.1 rfl (Nat.le_of_ble_eq_true rfl) ⟨by decide, by decide⟩ dX1_resize_9 (fun H locs hw => ?_)
      refine W.eq (g2 := F0 m 12 ls [.long (lN x)]) rfl ?_
      refine lv_l2i (v := nI x) hx hb dX1_resize_12 (lN_i _) ?_
      exact hx_iret S hr hw dX1_resize_13
  · rw [if_neg ka] at h
    refine lv_iload_n hx hb dX1_resize_0 rfl (lv_at hl 1 rfl) ?_
    refine hn_zne (n := a) (tgt := 14) hx hb (by omega) dX1_resize_1 (by decide) (fun hc => ?_) (fun hc => ?_)
    · refine lv_aload_n hx hb dX1_resize_14 rfl (lv_at hl 0 rfl) ?_
      refine lv_iload_n hx hb dX1_resize_15 rfl (lv_at hl 1 rfl) ?_
      refine hx_callS (rest := [.ref h0]) (n := 1) S hw (c_unsigned l hst D tys cJ ht h0 h1 h2 u a (by omega)) gX1_resize_X1_unsigned rfl (by decide +kernel) rfl ⟨Nat.le_of_ble_eq_true rfl, Nat.le_of_ble_eq_true rfl⟩ hc_adr hl.1 rfl (Nat.le_of_ble_eq_true rfl) ⟨by decide, by decide⟩ dX1_resize_16 (fun H locs hw => ?_)
      refine W.eq (g2 := F0 m 19 ls [.long (lN a), .ref h0]) rfl ?_
      by_cases kn : n = 0
      · rw [if_pos kn] at h
        unfold ph_give at h
        rcases hf : ph_fd u.1 u.2.1 a 8064 0 1024 with _ | ⟨b, p0⟩
        · rw [hf] at h
          dsimp only at h
          rw [if_neg Bool.false_ne_true] at h
          cases h
        · rw [hf] at h
          dsimp only at h
          rw [if_pos rfl] at h
          cases h
          refine hx_callV (rest := []) (n := 1) S hw (c_takenBlock l hst D tys cJ ht h0 h1 h2 u a b p0 hu (by omega) hf) gX1_resize_X1_takenBlock rfl (by decide +kernel) rfl ⟨Nat.le_of_ble_eq_true rfl, Nat.le_of_ble_eq_true rfl⟩ 0 1 rfl rfl hc_adr hl.1 rfl (Nat.le_of_ble_eq_true rfl) ⟨by decide, by decide⟩ dX1_resize_19 (fun H locs hw => ?_)
          refine W.eq (g2 := F0 m 22 ls [.long (lN b)]) rfl ?_
          refine lv_lstore_n (lv' := [(3, .long (lN b)), (0, .ref h0), (1, .int (nI a)), (2, .int (nI n))]) hx hb dX1_resize_22 rfl hl (by decide) rfl (fun ls hl => ?_)
          refine lv_iload_n hx hb dX1_resize_23 rfl (lv_at hl 3 rfl) ?_
          refine hn_zne (n := n) (tgt := 34) hx hb (by omega) dX1_resize_24 (by decide) (fun hc2 => ?_) (fun hc2 => ?_)
          · exact absurd kn hc2
          · refine lv_aload_n hx hb dX1_resize_27 rfl (lv_at hl 1 rfl) ?_
            refine lv_lload_n hx hb dX1_resize_28 rfl (lv_at hl 0 rfl) ?_
            refine hx_callV (rest := []) (n := 1) S hw (c_giveBack l hst D tys cJ ht h0 h1 h2 u a b p0 hu hf) gX1_resize_X1_giveBack rfl (by decide +kernel) rfl ⟨Nat.le_of_ble_eq_true rfl, Nat.le_of_ble_eq_true rfl⟩ 0 1 rfl rfl hc_adr hl.1 rfl (Nat.le_of_ble_eq_true rfl) ⟨by decide, by decide⟩ dX1_resize_29 (fun H locs hw => ?_)
            refine W.eq (g2 := F0 m 32 ls []) rfl ?_
            refine lv_iconst (v := nI 0) hx hb dX1_resize_32 (by decide +kernel) ?_
            exact hx_iret S hr hw dX1_resize_33
      · rw [if_neg kn] at h
        rcases hf : ph_fd u.1 u.2.1 a 8064 0 1024 with _ | ⟨b, p0⟩
        · rw [hf] at h
          dsimp only at h
          cases h
        · rw [hf] at h
          dsimp only at h
          obtain ⟨j1, j2, j3, j4, j5, j6⟩ := ph_fd_at hf
          have gn := ph_n_lt u.1 b
          by_cases ks : ph_up n ≤ ph_n u.1 b
          · rw [if_pos ks] at h
            cases h
            refine hx_callV (rest := []) (n := 1) S hw (c_takenBlock l hst D tys cJ ht h0 h1 h2 u a b p0 hu (by omega) hf) gX1_resize_X1_takenBlock rfl (by decide +kernel) rfl ⟨Nat.le_of_ble_eq_true rfl, Nat.le_of_ble_eq_true rfl⟩ 0 1 rfl rfl hc_adr hl.1 rfl (Nat.le_of_ble_eq_true rfl) ⟨by decide, by decide⟩ dX1_resize_19 (fun H locs hw => ?_)
            refine W.eq (g2 := F0 m 22 ls [.long (lN b)]) rfl ?_
            refine lv_lstore_n (lv' := [(3, .long (lN b)), (0, .ref h0), (1, .int (nI a)), (2, .int (nI n))]) hx hb dX1_resize_22 rfl hl (by decide) rfl (fun ls hl => ?_)
            refine lv_iload_n hx hb dX1_resize_23 rfl (lv_at hl 3 rfl) ?_
            refine hn_zne (n := n) (tgt := 34) hx hb (by omega) dX1_resize_24 (by decide) (fun hc2 => ?_) (fun hc2 => ?_)
            · refine lv_aload_n hx hb dX1_resize_34 rfl (lv_at hl 1 rfl) ?_
              refine lv_lload_n hx hb dX1_resize_35 rfl (lv_at hl 0 rfl) ?_
              refine hx_callV (rest := []) (n := 1) S hw (c_size l hst D tys cJ ht h0 h1 h2 u b ⟨by omega, by omega⟩) gX1_resize_X1_size rfl (by decide +kernel) rfl ⟨Nat.le_of_ble_eq_true rfl, Nat.le_of_ble_eq_true rfl⟩ 0 1 rfl rfl hc_adr hl.1 rfl (Nat.le_of_ble_eq_true rfl) ⟨by decide, by decide⟩ dX1_resize_36 (fun H locs hw => ?_)
              refine W.eq (g2 := F0 m 39 ls [.long (lN (ph_n u.1 b))]) rfl ?_
              refine lv_lstore (lv' := [(5, .long (lN (ph_n u.1 b))), (3, .long (lN b)), (0, .ref h0), (1, .int (nI a)), (2, .int (nI n))]) hx hb dX1_resize_39 hl (by decide) rfl (fun ls hl => ?_)
              refine lv_lload hx hb dX1_resize_41 (lv_at hl 0 rfl) ?_
              refine lv_iload_n hx hb dX1_resize_43 rfl (lv_at hl 4 rfl) ?_
              refine hx_callS (rest := [.long (lN (ph_n u.1 b))]) (n := 1) S hw (c_unsigned l hst D tys cJ ht h0 h1 h2 u n (by omega)) gX1_resize_X1_unsigned rfl (by decide +kernel) rfl ⟨Nat.le_of_ble_eq_true rfl, Nat.le_of_ble_eq_true rfl⟩ hc_adr hl.1 rfl (Nat.le_of_ble_eq_true rfl) ⟨by decide, by decide⟩ dX1_resize_44 (fun H locs hw => ?_)
              refine W.eq (g2 := F0 m 47 ls [.long (lN n), .long (lN (ph_n u.1 b))]) rfl ?_
              refine hx_callS (rest := [.long (lN (ph_n u.1 b))]) (n := 1) S hw (c_rounded l hst D tys cJ ht h0 h1 h2 u n (by omega)) gX1_resize_X1_rounded rfl (by decide +kernel) rfl ⟨Nat.le_of_ble_eq_true rfl, Nat.le_of_ble_eq_true rfl⟩ hc_adr hl.1 rfl (Nat.le_of_ble_eq_true rfl) ⟨by decide, by decide⟩ dX1_resize_47 (fun H locs hw => ?_)
              refine W.eq (g2 := F0 m 50 ls [.long (lN (ph_up n)), .long (lN (ph_n u.1 b))]) rfl ?_
              refine hn_llt (a := (ph_n u.1 b)) (b := (ph_up n)) (tgt := 56) hx hb (by omega) (by omega) dX1_resize_50 dX1_resize_51 (by decide) (fun hc3 => ?_) (fun hc3 => ?_)
              · exact absurd hc3 (by omega)
              · refine lv_iload_n hx hb dX1_resize_54 rfl (lv_at hl 3 rfl) ?_
                exact hx_iret S hr hw dX1_resize_55
            · exact absurd hc2 kn
          · rw [if_neg ks] at h
            rcases ht2 : ph_take u n with ⟨_ | t, u3⟩
            · rw [ht2] at h
              dsimp only at h
              cases h
            · rw [ht2] at h
              dsimp only at h
              have ga := ph_take_at hu ht2
              have hu3 : ph_I u3 := by have hz := ph_take_I hu n; rw [ht2] at hz; exact hz
              by_cases k0 : t = 0
              · subst k0
                rw [if_pos rfl] at h
                cases h
                refine hx_callV (rest := []) (n := 1) S hw (c_takenBlock l hst D tys cJ ht h0 h1 h2 u a b p0 hu (by omega) hf) gX1_resize_X1_takenBlock rfl (by decide +kernel) rfl ⟨Nat.le_of_ble_eq_true rfl, Nat.le_of_ble_eq_true rfl⟩ 0 1 rfl rfl hc_adr hl.1 rfl (Nat.le_of_ble_eq_true rfl) ⟨by decide, by decide⟩ dX1_resize_19 (fun H locs hw => ?_)
                refine W.eq (g2 := F0 m 22 ls [.long (lN b)]) rfl ?_
                refine lv_lstore_n (lv' := [(3, .long (lN b)), (0, .ref h0), (1, .int (nI a)), (2, .int (nI n))]) hx hb dX1_resize_22 rfl hl (by decide) rfl (fun ls hl => ?_)
                refine lv_iload_n hx hb dX1_resize_23 rfl (lv_at hl 3 rfl) ?_
                refine hn_zne (n := n) (tgt := 34) hx hb (by omega) dX1_resize_24 (by decide) (fun hc2 => ?_) (fun hc2 => ?_)
                · refine lv_aload_n hx hb dX1_resize_34 rfl (lv_at hl 1 rfl) ?_
                  refine lv_lload_n hx hb dX1_resize_35 rfl (lv_at hl 0 rfl) ?_
                  refine hx_callV (rest := []) (n := 1) S hw (c_size l hst D tys cJ ht h0 h1 h2 u b ⟨by omega, by omega⟩) gX1_resize_X1_size rfl (by decide +kernel) rfl ⟨Nat.le_of_ble_eq_true rfl, Nat.le_of_ble_eq_true rfl⟩ 0 1 rfl rfl hc_adr hl.1 rfl (Nat.le_of_ble_eq_true rfl) ⟨by decide, by decide⟩ dX1_resize_36 (fun H locs hw => ?_)
                  refine W.eq (g2 := F0 m 39 ls [.long (lN (ph_n u.1 b))]) rfl ?_
                  refine lv_lstore (lv' := [(5, .long (lN (ph_n u.1 b))), (3, .long (lN b)), (0, .ref h0), (1, .int (nI a)), (2, .int (nI n))]) hx hb dX1_resize_39 hl (by decide) rfl (fun ls hl => ?_)
                  refine lv_lload hx hb dX1_resize_41 (lv_at hl 0 rfl) ?_
                  refine lv_iload_n hx hb dX1_resize_43 rfl (lv_at hl 4 rfl) ?_
                  refine hx_callS (rest := [.long (lN (ph_n u.1 b))]) (n := 1) S hw (c_unsigned l hst D tys cJ ht h0 h1 h2 u n (by omega)) gX1_resize_X1_unsigned rfl (by decide +kernel) rfl ⟨Nat.le_of_ble_eq_true rfl, Nat.le_of_ble_eq_true rfl⟩ hc_adr hl.1 rfl (Nat.le_of_ble_eq_true rfl) ⟨by decide, by decide⟩ dX1_resize_44 (fun H locs hw => ?_)
                  refine W.eq (g2 := F0 m 47 ls [.long (lN n), .long (lN (ph_n u.1 b))]) rfl ?_
                  refine hx_callS (rest := [.long (lN (ph_n u.1 b))]) (n := 1) S hw (c_rounded l hst D tys cJ ht h0 h1 h2 u n (by omega)) gX1_resize_X1_rounded rfl (by decide +kernel) rfl ⟨Nat.le_of_ble_eq_true rfl, Nat.le_of_ble_eq_true rfl⟩ hc_adr hl.1 rfl (Nat.le_of_ble_eq_true rfl) ⟨by decide, by decide⟩ dX1_resize_47 (fun H locs hw => ?_)
                  refine W.eq (g2 := F0 m 50 ls [.long (lN (ph_up n)), .long (lN (ph_n u.1 b))]) rfl ?_
                  refine hn_llt (a := (ph_n u.1 b)) (b := (ph_up n)) (tgt := 56) hx hb (by omega) (by omega) dX1_resize_50 dX1_resize_51 (by decide) (fun hc3 => ?_) (fun hc3 => ?_)
                  · refine lv_aload_n hx hb dX1_resize_56 rfl (lv_at hl 2 rfl) ?_
                    refine lv_iload_n hx hb dX1_resize_57 rfl (lv_at hl 4 rfl) ?_
                    refine hx_callS (rest := [.ref h0]) (n := 1) S hw (c_unsigned l hst D tys cJ ht h0 h1 h2 u n (by omega)) gX1_resize_X1_unsigned rfl (by decide +kernel) rfl ⟨Nat.le_of_ble_eq_true rfl, Nat.le_of_ble_eq_true rfl⟩ hc_adr hl.1 rfl (Nat.le_of_ble_eq_true rfl) ⟨by decide, by decide⟩ dX1_resize_58 (fun H locs hw => ?_)
                    refine W.eq (g2 := F0 m 61 ls [.long (lN n), .ref h0]) rfl ?_
                    refine hx_callV (rest := []) (n := 1) S hw (c_take l hst D tys cJ ht h0 h1 h2 u n 0 u2 hu hn ht2) gX1_resize_X1_take rfl (by decide +kernel) rfl ⟨Nat.le_of_ble_eq_true rfl, Nat.le_of_ble_eq_true rfl⟩ 0 1 rfl rfl hc_adr hl.1 rfl (Nat.le_of_ble_eq_true rfl) ⟨by decide, by decide⟩ dX1_resize_61 (fun H locs hw => ?_)
                    refine W.eq (g2 := F0 m 64 ls [.long (lN 0)]) rfl ?_
                    refine lv_lstore (lv' := [(7, .long (lN 0)), (5, .long (lN (ph_n u.1 b))), (3, .long (lN b)), (0, .ref h0), (1, .int (nI a)), (2, .int (nI n))]) hx hb dX1_resize_64 hl (by decide) rfl (fun ls hl => ?_)
                    refine lv_lload hx hb dX1_resize_66 (lv_at hl 0 rfl) ?_
                    refine lv_lconst (v := lN 0) hx hb dX1_resize_68 (by decide +kernel) ?_
                    refine hn_leq (a := 0) (b := 0) (tgt := 97) hx hb (by omega) (by omega) dX1_resize_69 dX1_resize_70 (by decide) (fun hc4 => ?_) (fun hc4 => ?_)
                    · refine lv_lload hx hb dX1_resize_97 (lv_at hl 0 rfl) ?_
                      refine lv_l2i (v := nI 0) hx hb dX1_resize_99 (lN_i _) ?_
                      exact hx_iret S hr hw dX1_resize_100
                    · exact absurd rfl hc4
                  · exact absurd hc3 (by omega)
                · exact absurd hc2 kn
              · rw [if_neg k0] at h
                rcases hc9 : ph_cpy (ph_n u.1 b) u3.1 a t with ⟨_ | _, M⟩
                · rw [hc9] at h
                  dsimp only at h
                  rw [if_neg Bool.false_ne_true] at h
                  cases h
                · rw [hc9] at h
                  dsimp only at h
                  rw [if_pos rfl] at h
                  unfold ph_give at h
                  dsimp only at h
                  rcases hf2 : ph_fd M u3.2.1 a 8064 0 1024 with _ | ⟨b2, p2⟩
                  · rw [hf2] at h
                    dsimp only at h
                    rw [if_neg Bool.false_ne_true] at h
                    cases h
                  · rw [hf2] at h
                    dsimp only at h
                    rw [if_pos rfl] at h
                    cases h
                    refine hx_callV (rest := []) (n := 1) S hw (c_takenBlock l hst D tys cJ ht h0 h1 h2 u a b p0 hu (by omega) hf) gX1_resize_X1_takenBlock rfl (by decide +kernel) rfl ⟨Nat.le_of_ble_eq_true rfl, Nat.le_of_ble_eq_true rfl⟩ 0 1 rfl rfl hc_adr hl.1 rfl (Nat.le_of_ble_eq_true rfl) ⟨by decide, by decide⟩ dX1_resize_19 (fun H locs hw => ?_)
                    refine W.eq (g2 := F0 m 22 ls [.long (lN b)]) rfl ?_
                    refine lv_lstore_n (lv' := [(3, .long (lN b)), (0, .ref h0), (1, .int (nI a)), (2, .int (nI n))]) hx hb dX1_resize_22 rfl hl (by decide) rfl (fun ls hl => ?_)
                    refine lv_iload_n hx hb dX1_resize_23 rfl (lv_at hl 3 rfl) ?_
                    refine hn_zne (n := n) (tgt := 34) hx hb (by omega) dX1_resize_24 (by decide) (fun hc2 => ?_) (fun hc2 => ?_)
                    · refine lv_aload_n hx hb dX1_resize_34 rfl (lv_at hl 1 rfl) ?_
                      refine lv_lload_n hx hb dX1_resize_35 rfl (lv_at hl 0 rfl) ?_
                      refine hx_callV (rest := []) (n := 1) S hw (c_size l hst D tys cJ ht h0 h1 h2 u b ⟨by omega, by omega⟩) gX1_resize_X1_size rfl (by decide +kernel) rfl ⟨Nat.le_of_ble_eq_true rfl, Nat.le_of_ble_eq_true rfl⟩ 0 1 rfl rfl hc_adr hl.1 rfl (Nat.le_of_ble_eq_true rfl) ⟨by decide, by decide⟩ dX1_resize_36 (fun H locs hw => ?_)
                      refine W.eq (g2 := F0 m 39 ls [.long (lN (ph_n u.1 b))]) rfl ?_
                      refine lv_lstore (lv' := [(5, .long (lN (ph_n u.1 b))), (3, .long (lN b)), (0, .ref h0), (1, .int (nI a)), (2, .int (nI n))]) hx hb dX1_resize_39 hl (by decide) rfl (fun ls hl => ?_)
                      refine lv_lload hx hb dX1_resize_41 (lv_at hl 0 rfl) ?_
                      refine lv_iload_n hx hb dX1_resize_43 rfl (lv_at hl 4 rfl) ?_
                      refine hx_callS (rest := [.long (lN (ph_n u.1 b))]) (n := 1) S hw (c_unsigned l hst D tys cJ ht h0 h1 h2 u n (by omega)) gX1_resize_X1_unsigned rfl (by decide +kernel) rfl ⟨Nat.le_of_ble_eq_true rfl, Nat.le_of_ble_eq_true rfl⟩ hc_adr hl.1 rfl (Nat.le_of_ble_eq_true rfl) ⟨by decide, by decide⟩ dX1_resize_44 (fun H locs hw => ?_)
                      refine W.eq (g2 := F0 m 47 ls [.long (lN n), .long (lN (ph_n u.1 b))]) rfl ?_
                      refine hx_callS (rest := [.long (lN (ph_n u.1 b))]) (n := 1) S hw (c_rounded l hst D tys cJ ht h0 h1 h2 u n (by omega)) gX1_resize_X1_rounded rfl (by decide +kernel) rfl ⟨Nat.le_of_ble_eq_true rfl, Nat.le_of_ble_eq_true rfl⟩ hc_adr hl.1 rfl (Nat.le_of_ble_eq_true rfl) ⟨by decide, by decide⟩ dX1_resize_47 (fun H locs hw => ?_)
                      refine W.eq (g2 := F0 m 50 ls [.long (lN (ph_up n)), .long (lN (ph_n u.1 b))]) rfl ?_
                      refine hn_llt (a := (ph_n u.1 b)) (b := (ph_up n)) (tgt := 56) hx hb (by omega) (by omega) dX1_resize_50 dX1_resize_51 (by decide) (fun hc3 => ?_) (fun hc3 => ?_)
                      · refine lv_aload_n hx hb dX1_resize_56 rfl (lv_at hl 2 rfl) ?_
                        refine lv_iload_n hx hb dX1_resize_57 rfl (lv_at hl 4 rfl) ?_
                        refine hx_callS (rest := [.ref h0]) (n := 1) S hw (c_unsigned l hst D tys cJ ht h0 h1 h2 u n (by omega)) gX1_resize_X1_unsigned rfl (by decide +kernel) rfl ⟨Nat.le_of_ble_eq_true rfl, Nat.le_of_ble_eq_true rfl⟩ hc_adr hl.1 rfl (Nat.le_of_ble_eq_true rfl) ⟨by decide, by decide⟩ dX1_resize_58 (fun H locs hw => ?_)
                        refine W.eq (g2 := F0 m 61 ls [.long (lN n), .ref h0]) rfl ?_
                        refine hx_callV (rest := []) (n := 1) S hw (c_take l hst D tys cJ ht h0 h1 h2 u n x u3 hu hn ht2) gX1_resize_X1_take rfl (by decide +kernel) rfl ⟨Nat.le_of_ble_eq_true rfl, Nat.le_of_ble_eq_true rfl⟩ 0 1 rfl rfl hc_adr hl.1 rfl (Nat.le_of_ble_eq_true rfl) ⟨by decide, by decide⟩ dX1_resize_61 (fun H locs hw => ?_)
                        refine W.eq (g2 := F0 m 64 ls [.long (lN x)]) rfl ?_
                        refine lv_lstore (lv' := [(7, .long (lN x)), (5, .long (lN (ph_n u.1 b))), (3, .long (lN b)), (0, .ref h0), (1, .int (nI a)), (2, .int (nI n))]) hx hb dX1_resize_64 hl (by decide) rfl (fun ls hl => ?_)
                        refine lv_lload hx hb dX1_resize_66 (lv_at hl 0 rfl) ?_
                        refine lv_lconst (v := lN 0) hx hb dX1_resize_68 (by decide +kernel) ?_
                        refine hn_leq (a := x) (b := 0) (tgt := 97) hx hb (by omega) (by omega) dX1_resize_69 dX1_resize_70 (by decide) (fun hc4 => ?_) (fun hc4 => ?_)
                        · exact absurd hc4 k0
                        · refine lv_aload_n hx hb dX1_resize_73 rfl (lv_at hl 3 rfl) ?_
                          refine lv_iload_n hx hb dX1_resize_74 rfl (lv_at hl 4 rfl) ?_
                          refine hx_callS (rest := [.ref h0]) (n := 1) S hw (c_unsigned l hst D tys cJ ht h0 h1 h2 u3 a (by omega)) gX1_resize_X1_unsigned rfl (by decide +kernel) rfl ⟨Nat.le_of_ble_eq_true rfl, Nat.le_of_ble_eq_true rfl⟩ hc_adr hl.1 rfl (Nat.le_of_ble_eq_true rfl) ⟨by decide, by decide⟩ dX1_resize_75 (fun H locs hw => ?_)
                          refine W.eq (g2 := F0 m 78 ls [.long (lN a), .ref h0]) rfl ?_
                          refine lv_lload hx hb dX1_resize_78 (lv_at hl 0 rfl) ?_
                          refine lv_lload hx hb dX1_resize_80 (lv_at hl 1 rfl) ?_
                          refine hx_callV (rest := []) (n := 3) S hw (c_copy l hst D tys cJ ht h0 h1 h2 u3 a x (ph_n u.1 b) M (by omega) (by omega) (by omega) hc9) gX1_resize_X1_copy rfl (by decide +kernel) rfl ⟨Nat.le_of_ble_eq_true rfl, Nat.le_of_ble_eq_true rfl⟩ 0 1 rfl rfl hc_adr hl.1 rfl (Nat.le_of_ble_eq_true rfl) ⟨by decide, by decide⟩ dX1_resize_82 (fun H locs hw => ?_)
                          refine W.eq (g2 := F0 m 85 ls []) rfl ?_
                          refine lv_aload_n hx hb dX1_resize_85 rfl (lv_at hl 3 rfl) ?_
                          refine lv_aload_n hx hb dX1_resize_86 rfl (lv_at hl 3 rfl) ?_
                          refine lv_iload_n hx hb dX1_resize_87 rfl (lv_at hl 4 rfl) ?_
                          refine hx_callS (rest := [.ref h0, .ref h0]) (n := 1) S hw (c_unsigned l hst D tys cJ ht h0 h1 h2 (M, u3.2) a (by omega)) gX1_resize_X1_unsigned rfl (by decide +kernel) rfl ⟨Nat.le_of_ble_eq_true rfl, Nat.le_of_ble_eq_true rfl⟩ hc_adr hl.1 rfl (Nat.le_of_ble_eq_true rfl) ⟨by decide, by decide⟩ dX1_resize_88 (fun H locs hw => ?_)
                          refine W.eq (g2 := F0 m 91 ls [.long (lN a), .ref h0, .ref h0]) rfl ?_
                          refine hx_callV (rest := [.ref h0]) (n := 1) S hw (c_takenBlock l hst D tys cJ ht h0 h1 h2 (M, u3.2) a b2 p2 hu3 (by omega) hf2) gX1_resize_X1_takenBlock rfl (by decide +kernel) rfl ⟨Nat.le_of_ble_eq_true rfl, Nat.le_of_ble_eq_true rfl⟩ 0 1 rfl rfl hc_adr hl.1 rfl (Nat.le_of_ble_eq_true rfl) ⟨by decide, by decide⟩ dX1_resize_91 (fun H locs hw => ?_)
                          refine W.eq (g2 := F0 m 94 ls [.long (lN b2), .ref h0]) rfl ?_
                          refine hx_callV (rest := []) (n := 1) S hw (c_giveBack l hst D tys cJ ht h0 h1 h2 (M, u3.2) a b2 p2 hu3 hf2) gX1_resize_X1_giveBack rfl (by decide +kernel) rfl ⟨Nat.le_of_ble_eq_true rfl, Nat.le_of_ble_eq_true rfl⟩ 0 1 rfl rfl hc_adr hl.1 rfl (Nat.le_of_ble_eq_true rfl) ⟨by decide, by decide⟩ dX1_resize_94 (fun H locs hw => ?_)
                          refine W.eq (g2 := F0 m 97 ls []) rfl ?_
                          refine lv_lload hx hb dX1_resize_97 (lv_at hl 0 rfl) ?_
                          refine lv_l2i (v := nI x) hx hb dX1_resize_99 (lN_i _) ?_
                          exact hx_iret S hr hw dX1_resize_100
                      · exact absurd hc3 (by omega)
                    · exact absurd hc2 kn
    · exact absurd hc ka
set_option maxHeartbeats 4000000 in
set_option maxRecDepth 100000 in
theorem x_resize (l : Launch) (hst : l.stackTraces = false) (D : va_G) (tys : List (ClassId × FieldType)) (cJ : ClassId) (ht : tys[0]? = some (cJ, .long)) (h0 h1 h2 : Nat) (u : ph_H) (a n : Nat) (u2 : ph_H) (hu : ph_I u) (ha : a < 4294967296) (hn : n < 4294967296) (h : ph_rsz u a n = (none, u2)) : hx_X l D tys yX1_resize wsX1_resize 11 210 [.ref h0, .int (nI a), .int (nI n)] (hc_W cJ h0 h1 h2 u) (hc_W cJ h0 h1 h2 u2) := by
  refine hx_X.ofW (cc := cX1_resize) (maxL := 9) (ret := (some .int)) (by decide) rfl (Nat.le_of_ble_eq_true rfl) ?_
  intro p e s m below meth c A ls hr S hno hw hl
  have S : hx_S p l s m _ meth c cX1_resize 9 wsX1_resize RX1 A D tys := S
  obtain ⟨⟨hx, hb, hml, hown, hts⟩, hK, hA, hE, hlk⟩ := id S
  have hi1 : ∀ w ∈ wsX10, w ∈ wsX1_resize := by decide +kernel
  have hl : lv_has ls 9 [(0, .ref h0), (1, .int (nI a)), (2, .int (nI n))] := hl
  have hu9 := hu
  obtain ⟨i1, i2, i3, i4⟩ := hu9
  have gu := ph_up_ge n
  have gu2 := ph_up_lt hn
  unfold ph_rsz at h
  by_cases ka : a = 0
  · rw [if_pos ka] at h
    subst ka
    refine lv_iload_n hx hb dX1_resize_0 rfl (lv_at hl 1 rfl) ?_
    refine hn_zne (n := 0) (tgt := 14) hx hb (by omega) dX1_resize_1 (by decide) (fun hc => ?_) (fun hc => ?_)
    · exact absurd rfl hc
    · refine lv_aload_n hx hb dX1_resize_4 rfl (lv_at hl 0 rfl) ?_
      refine lv_iload_n hx hb dX1_resize_5 rfl (lv_at hl 2 rfl) ?_
      refine hx_callS (rest := [.ref h0]) (n := 1) S hw (c_unsigned l hst D tys cJ ht h0 h1 h2 u n (by omega)) gX1_resize_X1_unsigned rfl (by decide +kernel) rfl ⟨Nat.le_of_ble_eq_true rfl, Nat.le_of_ble_eq_true rfl⟩ hc_adr hl.1 rfl (Nat.le_of_ble_eq_true rfl) ⟨by decide, by decide⟩ dX1_resize_6 (fun H locs hw => ?_)
      refine W.eq (g2 := F0 m 9 ls [.long (lN n), .ref h0]) rfl ?_
      exact hx_thr (rest := []) (n := 1) S hno hw (x_take l hst D tys cJ ht h0 h1 h2 u n u2 hu hn h) gX1_resize_X1_take rfl (by decide +kernel) rfl ⟨Nat.le_of_ble_eq_true rfl, Nat.le_of_ble_eq_true rfl⟩ 0 1 rfl rfl hc_adr hl.1 rfl (Nat.le_of_ble_eq_true rfl) ⟨by decide, by decide⟩ dX1_resize_9
  · rw [if_neg ka] at h
    refine lv_iload_n hx hb dX1_resize_0 rfl (lv_at hl 1 rfl) ?_
    refine hn_zne (n := a) (tgt := 14) hx hb (by omega) dX1_resize_1 (by decide) (fun hc => ?_) (fun hc => ?_)
    · refine lv_aload_n hx hb dX1_resize_14 rfl (lv_at hl 0 rfl) ?_
      refine lv_iload_n hx hb dX1_resize_15 rfl (lv_at hl 1 rfl) ?_
      refine hx_callS (rest := [.ref h0]) (n := 1) S hw (c_unsigned l hst D tys cJ ht h0 h1 h2 u a (by omega)) gX1_resize_X1_unsigned rfl (by decide +kernel) rfl ⟨Nat.le_of_ble_eq_true rfl, Nat.le_of_ble_eq_true rfl⟩ hc_adr hl.1 rfl (Nat.le_of_ble_eq_true rfl) ⟨by decide, by decide⟩ dX1_resize_16 (fun H locs hw => ?_)
      refine W.eq (g2 := F0 m 19 ls [.long (lN a), .ref h0]) rfl ?_
      by_cases kn : n = 0
      · rw [if_pos kn] at h
        unfold ph_give at h
        rcases hf : ph_fd u.1 u.2.1 a 8064 0 1024 with _ | ⟨b, p0⟩
        · rw [hf] at h
          dsimp only at h
          rw [if_neg Bool.false_ne_true] at h
          cases h
          exact hx_thr (rest := []) (n := 1) S hno hw (x_takenBlock l hst D tys cJ ht h0 h1 h2 u a hu (by omega) hf) gX1_resize_X1_takenBlock rfl (by decide +kernel) rfl ⟨Nat.le_of_ble_eq_true rfl, Nat.le_of_ble_eq_true rfl⟩ 0 1 rfl rfl hc_adr hl.1 rfl (Nat.le_of_ble_eq_true rfl) ⟨by decide, by decide⟩ dX1_resize_19
        · rw [hf] at h
          dsimp only at h
          rw [if_pos rfl] at h
          cases h
      · rw [if_neg kn] at h
        rcases hf : ph_fd u.1 u.2.1 a 8064 0 1024 with _ | ⟨b, p0⟩
        · rw [hf] at h
          dsimp only at h
          cases h
          exact hx_thr (rest := []) (n := 1) S hno hw (x_takenBlock l hst D tys cJ ht h0 h1 h2 u a hu (by omega) hf) gX1_resize_X1_takenBlock rfl (by decide +kernel) rfl ⟨Nat.le_of_ble_eq_true rfl, Nat.le_of_ble_eq_true rfl⟩ 0 1 rfl rfl hc_adr hl.1 rfl (Nat.le_of_ble_eq_true rfl) ⟨by decide, by decide⟩ dX1_resize_19
        · rw [hf] at h
          dsimp only at h
          obtain ⟨j1, j2, j3, j4, j5, j6⟩ := ph_fd_at hf
          have gn := ph_n_lt u.1 b
          by_cases ks : ph_up n ≤ ph_n u.1 b
          · rw [if_pos ks] at h
            cases h
          · rw [if_neg ks] at h
            rcases ht2 : ph_take u n with ⟨_ | t, u3⟩
            · rw [ht2] at h
              dsimp only at h
              cases h
              refine hx_callV (rest := []) (n := 1) S hw (c_takenBlock l hst D tys cJ ht h0 h1 h2 u a b p0 hu (by omega) hf) gX1_resize_X1_takenBlock rfl (by decide +kernel) rfl ⟨Nat.le_of_ble_eq_true rfl, Nat.le_of_ble_eq_true rfl⟩ 0 1 rfl rfl hc_adr hl.1 rfl (Nat.le_of_ble_eq_true rfl) ⟨by decide, by decide⟩ dX1_resize_19 (fun H locs hw => ?_)
              refine W.eq (g2 := F0 m 22 ls [.long (lN b)]) rfl ?_
              refine lv_lstore_n (lv' := [(3, .long (lN b)), (0, .ref h0), (1, .int (nI a)), (2, .int (nI n))]) hx hb dX1_resize_22 rfl hl (by decide) rfl (fun ls hl => ?_)
              refine lv_iload_n hx hb dX1_resize_23 rfl (lv_at hl 3 rfl) ?_
              refine hn_zne (n := n) (tgt := 34) hx hb (by omega) dX1_resize_24 (by decide) (fun hc2 => ?_) (fun hc2 => ?_)
              · refine lv_aload_n hx hb dX1_resize_34 rfl (lv_at hl 1 rfl) ?_
                refine lv_lload_n hx hb dX1_resize_35 rfl (lv_at hl 0 rfl) ?_
                refine hx_callV (rest := []) (n := 1) S hw (c_size l hst D tys cJ ht h0 h1 h2 u b ⟨by omega, by omega⟩) gX1_resize_X1_size rfl (by decide +kernel) rfl ⟨Nat.le_of_ble_eq_true rfl, Nat.le_of_ble_eq_true rfl⟩ 0 1 rfl rfl hc_adr hl.1 rfl (Nat.le_of_ble_eq_true rfl) ⟨by decide, by decide⟩ dX1_resize_36 (fun H locs hw => ?_)
                refine W.eq (g2 := F0 m 39 ls [.long (lN (ph_n u.1 b))]) rfl ?_
                refine lv_lstore (lv' := [(5, .long (lN (ph_n u.1 b))), (3, .long (lN b)), (0, .ref h0), (1, .int (nI a)), (2, .int (nI n))]) hx hb dX1_resize_39 hl (by decide) rfl (fun ls hl => ?_)
                refine lv_lload hx hb dX1_resize_41 (lv_at hl 0 rfl) ?_
                refine lv_iload_n hx hb dX1_resize_43 rfl (lv_at hl 4 rfl) ?_
                refine hx_callS (rest := [.long (lN (ph_n u.1 b))]) (n := 1) S hw (c_unsigned l hst D tys cJ ht h0 h1 h2 u n (by omega)) gX1_resize_X1_unsigned rfl (by decide +kernel) rfl ⟨Nat.le_of_ble_eq_true rfl, Nat.le_of_ble_eq_true rfl⟩ hc_adr hl.1 rfl (Nat.le_of_ble_eq_true rfl) ⟨by decide, by decide⟩ dX1_resize_44 (fun H locs hw => ?_)
                refine W.eq (g2 := F0 m 47 ls [.long (lN n), .long (lN (ph_n u.1 b))]) rfl ?_
                refine hx_callS (rest := [.long (lN (ph_n u.1 b))]) (n := 1) S hw (c_rounded l hst D tys cJ ht h0 h1 h2 u n (by omega)) gX1_resize_X1_rounded rfl (by decide +kernel) rfl ⟨Nat.le_of_ble_eq_true rfl, Nat.le_of_ble_eq_true rfl⟩ hc_adr hl.1 rfl (Nat.le_of_ble_eq_true rfl) ⟨by decide, by decide⟩ dX1_resize_47 (fun H locs hw => ?_)
                refine W.eq (g2 := F0 m 50 ls [.long (lN (ph_up n)), .long (lN (ph_n u.1 b))]) rfl ?_
                refine hn_llt (a := (ph_n u.1 b)) (b := (ph_up n)) (tgt := 56) hx hb (by omega) (by omega) dX1_resize_50 dX1_resize_51 (by decide) (fun hc3 => ?_) (fun hc3 => ?_)
                · refine lv_aload_n hx hb dX1_resize_56 rfl (lv_at hl 2 rfl) ?_
                  refine lv_iload_n hx hb dX1_resize_57 rfl (lv_at hl 4 rfl) ?_
                  refine hx_callS (rest := [.ref h0]) (n := 1) S hw (c_unsigned l hst D tys cJ ht h0 h1 h2 u n (by omega)) gX1_resize_X1_unsigned rfl (by decide +kernel) rfl ⟨Nat.le_of_ble_eq_true rfl, Nat.le_of_ble_eq_true rfl⟩ hc_adr hl.1 rfl (Nat.le_of_ble_eq_true rfl) ⟨by decide, by decide⟩ dX1_resize_58 (fun H locs hw => ?_)
                  refine W.eq (g2 := F0 m 61 ls [.long (lN n), .ref h0]) rfl ?_
                  exact hx_thr (rest := []) (n := 1) S hno hw (x_take l hst D tys cJ ht h0 h1 h2 u n u2 hu hn ht2) gX1_resize_X1_take rfl (by decide +kernel) rfl ⟨Nat.le_of_ble_eq_true rfl, Nat.le_of_ble_eq_true rfl⟩ 0 1 rfl rfl hc_adr hl.1 rfl (Nat.le_of_ble_eq_true rfl) ⟨by decide, by decide⟩ dX1_resize_61
                · exact absurd hc3 (by omega)
              · exact absurd hc2 kn
            · rw [ht2] at h
              dsimp only at h
              have ga := ph_take_at hu ht2
              have hu3 : ph_I u3 := by have hz := ph_take_I hu n; rw [ht2] at hz; exact hz
              by_cases k0 : t = 0
              · subst k0
                rw [if_pos rfl] at h
                cases h
              · rw [if_neg k0] at h
                rcases hc9 : ph_cpy (ph_n u.1 b) u3.1 a t with ⟨_ | _, M⟩
                · rw [hc9] at h
                  dsimp only at h
                  rw [if_neg Bool.false_ne_true] at h
                  cases h
                  refine hx_callV (rest := []) (n := 1) S hw (c_takenBlock l hst D tys cJ ht h0 h1 h2 u a b p0 hu (by omega) hf) gX1_resize_X1_takenBlock rfl (by decide +kernel) rfl ⟨Nat.le_of_ble_eq_true rfl, Nat.le_of_ble_eq_true rfl⟩ 0 1 rfl rfl hc_adr hl.1 rfl (Nat.le_of_ble_eq_true rfl) ⟨by decide, by decide⟩ dX1_resize_19 (fun H locs hw => ?_)
                  refine W.eq (g2 := F0 m 22 ls [.long (lN b)]) rfl ?_
                  refine lv_lstore_n (lv' := [(3, .long (lN b)), (0, .ref h0), (1, .int (nI a)), (2, .int (nI n))]) hx hb dX1_resize_22 rfl hl (by decide) rfl (fun ls hl => ?_)
                  refine lv_iload_n hx hb dX1_resize_23 rfl (lv_at hl 3 rfl) ?_
                  refine hn_zne (n := n) (tgt := 34) hx hb (by omega) dX1_resize_24 (by decide) (fun hc2 => ?_) (fun hc2 => ?_)
                  · refine lv_aload_n hx hb dX1_resize_34 rfl (lv_at hl 1 rfl) ?_
                    refine lv_lload_n hx hb dX1_resize_35 rfl (lv_at hl 0 rfl) ?_
                    refine hx_callV (rest := []) (n := 1) S hw (c_size l hst D tys cJ ht h0 h1 h2 u b ⟨by omega, by omega⟩) gX1_resize_X1_size rfl (by decide +kernel) rfl ⟨Nat.le_of_ble_eq_true rfl, Nat.le_of_ble_eq_true rfl⟩ 0 1 rfl rfl hc_adr hl.1 rfl (Nat.le_of_ble_eq_true rfl) ⟨by decide, by decide⟩ dX1_resize_36 (fun H locs hw => ?_)
                    refine W.eq (g2 := F0 m 39 ls [.long (lN (ph_n u.1 b))]) rfl ?_
                    refine lv_lstore (lv' := [(5, .long (lN (ph_n u.1 b))), (3, .long (lN b)), (0, .ref h0), (1, .int (nI a)), (2, .int (nI n))]) hx hb dX1_resize_39 hl (by decide) rfl (fun ls hl => ?_)
                    refine lv_lload hx hb dX1_resize_41 (lv_at hl 0 rfl) ?_
                    refine lv_iload_n hx hb dX1_resize_43 rfl (lv_at hl 4 rfl) ?_
                    refine hx_callS (rest := [.long (lN (ph_n u.1 b))]) (n := 1) S hw (c_unsigned l hst D tys cJ ht h0 h1 h2 u n (by omega)) gX1_resize_X1_unsigned rfl (by decide +kernel) rfl ⟨Nat.le_of_ble_eq_true rfl, Nat.le_of_ble_eq_true rfl⟩ hc_adr hl.1 rfl (Nat.le_of_ble_eq_true rfl) ⟨by decide, by decide⟩ dX1_resize_44 (fun H locs hw => ?_)
                    refine W.eq (g2 := F0 m 47 ls [.long (lN n), .long (lN (ph_n u.1 b))]) rfl ?_
                    refine hx_callS (rest := [.long (lN (ph_n u.1 b))]) (n := 1) S hw (c_rounded l hst D tys cJ ht h0 h1 h2 u n (by omega)) gX1_resize_X1_rounded rfl (by decide +kernel) rfl ⟨Nat.le_of_ble_eq_true rfl, Nat.le_of_ble_eq_true rfl⟩ hc_adr hl.1 rfl (Nat.le_of_ble_eq_true rfl) ⟨by decide, by decide⟩ dX1_resize_47 (fun H locs hw => ?_)
                    refine W.eq (g2 := F0 m 50 ls [.long (lN (ph_up n)), .long (lN (ph_n u.1 b))]) rfl ?_
                    refine hn_llt (a := (ph_n u.1 b)) (b := (ph_up n)) (tgt := 56) hx hb (by omega) (by omega) dX1_resize_50 dX1_resize_51 (by decide) (fun hc3 => ?_) (fun hc3 => ?_)
                    · refine lv_aload_n hx hb dX1_resize_56 rfl (lv_at hl 2 rfl) ?_
                      refine lv_iload_n hx hb dX1_resize_57 rfl (lv_at hl 4 rfl) ?_
                      refine hx_callS (rest := [.ref h0]) (n := 1) S hw (c_unsigned l hst D tys cJ ht h0 h1 h2 u n (by omega)) gX1_resize_X1_unsigned rfl (by decide +kernel) rfl ⟨Nat.le_of_ble_eq_true rfl, Nat.le_of_ble_eq_true rfl⟩ hc_adr hl.1 rfl (Nat.le_of_ble_eq_true rfl) ⟨by decide, by decide⟩ dX1_resize_58 (fun H locs hw => ?_)
                      refine W.eq (g2 := F0 m 61 ls [.long (lN n), .ref h0]) rfl ?_
                      refine hx_callV (rest := []) (n := 1) S hw (c_take l hst D tys cJ ht h0 h1 h2 u n t u3 hu hn ht2) gX1_resize_X1_take rfl (by decide +kernel) rfl ⟨Nat.le_of_ble_eq_true rfl, Nat.le_of_ble_eq_true rfl⟩ 0 1 rfl rfl hc_adr hl.1 rfl (Nat.le_of_ble_eq_true rfl) ⟨by decide, by decide⟩ dX1_resize_61 (fun H locs hw => ?_)
                      refine W.eq (g2 := F0 m 64 ls [.long (lN t)]) rfl ?_
                      refine lv_lstore (lv' := [(7, .long (lN t)), (5, .long (lN (ph_n u.1 b))), (3, .long (lN b)), (0, .ref h0), (1, .int (nI a)), (2, .int (nI n))]) hx hb dX1_resize_64 hl (by decide) rfl (fun ls hl => ?_)
                      refine lv_lload hx hb dX1_resize_66 (lv_at hl 0 rfl) ?_
                      refine lv_lconst (v := lN 0) hx hb dX1_resize_68 (by decide +kernel) ?_
                      refine hn_leq (a := t) (b := 0) (tgt := 97) hx hb (by omega) (by omega) dX1_resize_69 dX1_resize_70 (by decide) (fun hc4 => ?_) (fun hc4 => ?_)
                      · exact absurd hc4 k0
                      · refine lv_aload_n hx hb dX1_resize_73 rfl (lv_at hl 3 rfl) ?_
                        refine lv_iload_n hx hb dX1_resize_74 rfl (lv_at hl 4 rfl) ?_
                        refine hx_callS (rest := [.ref h0]) (n := 1) S hw (c_unsigned l hst D tys cJ ht h0 h1 h2 u3 a (by omega)) gX1_resize_X1_unsigned rfl (by decide +kernel) rfl ⟨Nat.le_of_ble_eq_true rfl, Nat.le_of_ble_eq_true rfl⟩ hc_adr hl.1 rfl (Nat.le_of_ble_eq_true rfl) ⟨by decide, by decide⟩ dX1_resize_75 (fun H locs hw => ?_)
                        refine W.eq (g2 := F0 m 78 ls [.long (lN a), .ref h0]) rfl ?_
                        refine lv_lload hx hb dX1_resize_78 (lv_at hl 0 rfl) ?_
                        refine lv_lload hx hb dX1_resize_80 (lv_at hl 1 rfl) ?_
                        exact hx_thr (rest := []) (n := 3) S hno hw (x_copy l hst D tys cJ ht h0 h1 h2 u3 a t (ph_n u.1 b) M (by omega) (by omega) (by omega) hc9) gX1_resize_X1_copy rfl (by decide +kernel) rfl ⟨Nat.le_of_ble_eq_true rfl, Nat.le_of_ble_eq_true rfl⟩ 0 1 rfl rfl hc_adr hl.1 rfl (Nat.le_of_ble_eq_true rfl) ⟨by decide, by decide⟩ dX1_resize_82
                    · exact absurd hc3 (by omega)
                  · exact absurd hc2 kn
                · rw [hc9] at h
                  dsimp only at h
                  rw [if_pos rfl] at h
                  unfold ph_give at h
                  dsimp only at h
                  rcases hf2 : ph_fd M u3.2.1 a 8064 0 1024 with _ | ⟨b2, p2⟩
                  · rw [hf2] at h
                    dsimp only at h
                    rw [if_neg Bool.false_ne_true] at h
                    cases h
                    refine hx_callV (rest := []) (n := 1) S hw (c_takenBlock l hst D tys cJ ht h0 h1 h2 u a b p0 hu (by omega) hf) gX1_resize_X1_takenBlock rfl (by decide +kernel) rfl ⟨Nat.le_of_ble_eq_true rfl, Nat.le_of_ble_eq_true rfl⟩ 0 1 rfl rfl hc_adr hl.1 rfl (Nat.le_of_ble_eq_true rfl) ⟨by decide, by decide⟩ dX1_resize_19 (fun H locs hw => ?_)
                    refine W.eq (g2 := F0 m 22 ls [.long (lN b)]) rfl ?_
                    refine lv_lstore_n (lv' := [(3, .long (lN b)), (0, .ref h0), (1, .int (nI a)), (2, .int (nI n))]) hx hb dX1_resize_22 rfl hl (by decide) rfl (fun ls hl => ?_)
                    refine lv_iload_n hx hb dX1_resize_23 rfl (lv_at hl 3 rfl) ?_
                    refine hn_zne (n := n) (tgt := 34) hx hb (by omega) dX1_resize_24 (by decide) (fun hc2 => ?_) (fun hc2 => ?_)
                    · refine lv_aload_n hx hb dX1_resize_34 rfl (lv_at hl 1 rfl) ?_
                      refine lv_lload_n hx hb dX1_resize_35 rfl (lv_at hl 0 rfl) ?_
                      refine hx_callV (rest := []) (n := 1) S hw (c_size l hst D tys cJ ht h0 h1 h2 u b ⟨by omega, by omega⟩) gX1_resize_X1_size rfl (by decide +kernel) rfl ⟨Nat.le_of_ble_eq_true rfl, Nat.le_of_ble_eq_true rfl⟩ 0 1 rfl rfl hc_adr hl.1 rfl (Nat.le_of_ble_eq_true rfl) ⟨by decide, by decide⟩ dX1_resize_36 (fun H locs hw => ?_)
                      refine W.eq (g2 := F0 m 39 ls [.long (lN (ph_n u.1 b))]) rfl ?_
                      refine lv_lstore (lv' := [(5, .long (lN (ph_n u.1 b))), (3, .long (lN b)), (0, .ref h0), (1, .int (nI a)), (2, .int (nI n))]) hx hb dX1_resize_39 hl (by decide) rfl (fun ls hl => ?_)
                      refine lv_lload hx hb dX1_resize_41 (lv_at hl 0 rfl) ?_
                      refine lv_iload_n hx hb dX1_resize_43 rfl (lv_at hl 4 rfl) ?_
                      refine hx_callS (rest := [.long (lN (ph_n u.1 b))]) (n := 1) S hw (c_unsigned l hst D tys cJ ht h0 h1 h2 u n (by omega)) gX1_resize_X1_unsigned rfl (by decide +kernel) rfl ⟨Nat.le_of_ble_eq_true rfl, Nat.le_of_ble_eq_true rfl⟩ hc_adr hl.1 rfl (Nat.le_of_ble_eq_true rfl) ⟨by decide, by decide⟩ dX1_resize_44 (fun H locs hw => ?_)
                      refine W.eq (g2 := F0 m 47 ls [.long (lN n), .long (lN (ph_n u.1 b))]) rfl ?_
                      refine hx_callS (rest := [.long (lN (ph_n u.1 b))]) (n := 1) S hw (c_rounded l hst D tys cJ ht h0 h1 h2 u n (by omega)) gX1_resize_X1_rounded rfl (by decide +kernel) rfl ⟨Nat.le_of_ble_eq_true rfl, Nat.le_of_ble_eq_true rfl⟩ hc_adr hl.1 rfl (Nat.le_of_ble_eq_true rfl) ⟨by decide, by decide⟩ dX1_resize_47 (fun H locs hw => ?_)
                      refine W.eq (g2 := F0 m 50 ls [.long (lN (ph_up n)), .long (lN (ph_n u.1 b))]) rfl ?_
                      refine hn_llt (a := (ph_n u.1 b)) (b := (ph_up n)) (tgt := 56) hx hb (by omega) (by omega) dX1_resize_50 dX1_resize_51 (by decide) (fun hc3 => ?_) (fun hc3 => ?_)
                      · refine lv_aload_n hx hb dX1_resize_56 rfl (lv_at hl 2 rfl) ?_
                        refine lv_iload_n hx hb dX1_resize_57 rfl (lv_at hl 4 rfl) ?_
                        refine hx_callS (rest := [.ref h0]) (n := 1) S hw (c_unsigned l hst D tys cJ ht h0 h1 h2 u n (by omega)) gX1_resize_X1_unsigned rfl (by decide +kernel) rfl ⟨Nat.le_of_ble_eq_true rfl, Nat.le_of_ble_eq_true rfl⟩ hc_adr hl.1 rfl (Nat.le_of_ble_eq_true rfl) ⟨by decide, by decide⟩ dX1_resize_58 (fun H locs hw => ?_)
                        refine W.eq (g2 := F0 m 61 ls [.long (lN n), .ref h0]) rfl ?_
                        refine hx_callV (rest := []) (n := 1) S hw (c_take l hst D tys cJ ht h0 h1 h2 u n t u3 hu hn ht2) gX1_resize_X1_take rfl (by decide +kernel) rfl ⟨Nat.le_of_ble_eq_true rfl, Nat.le_of_ble_eq_true rfl⟩ 0 1 rfl rfl hc_adr hl.1 rfl (Nat.le_of_ble_eq_true rfl) ⟨by decide, by decide⟩ dX1_resize_61 (fun H locs hw => ?_)
                        refine W.eq (g2 := F0 m 64 ls [.long (lN t)]) rfl ?_
                        refine lv_lstore (lv' := [(7, .long (lN t)), (5, .long (lN (ph_n u.1 b))), (3, .long (lN b)), (0, .ref h0), (1, .int (nI a)), (2, .int (nI n))]) hx hb dX1_resize_64 hl (by decide) rfl (fun ls hl => ?_)
                        refine lv_lload hx hb dX1_resize_66 (lv_at hl 0 rfl) ?_
                        refine lv_lconst (v := lN 0) hx hb dX1_resize_68 (by decide +kernel) ?_
                        refine hn_leq (a := t) (b := 0) (tgt := 97) hx hb (by omega) (by omega) dX1_resize_69 dX1_resize_70 (by decide) (fun hc4 => ?_) (fun hc4 => ?_)
                        · exact absurd hc4 k0
                        · refine lv_aload_n hx hb dX1_resize_73 rfl (lv_at hl 3 rfl) ?_
                          refine lv_iload_n hx hb dX1_resize_74 rfl (lv_at hl 4 rfl) ?_
                          refine hx_callS (rest := [.ref h0]) (n := 1) S hw (c_unsigned l hst D tys cJ ht h0 h1 h2 u3 a (by omega)) gX1_resize_X1_unsigned rfl (by decide +kernel) rfl ⟨Nat.le_of_ble_eq_true rfl, Nat.le_of_ble_eq_true rfl⟩ hc_adr hl.1 rfl (Nat.le_of_ble_eq_true rfl) ⟨by decide, by decide⟩ dX1_resize_75 (fun H locs hw => ?_)
                          refine W.eq (g2 := F0 m 78 ls [.long (lN a), .ref h0]) rfl ?_
                          refine lv_lload hx hb dX1_resize_78 (lv_at hl 0 rfl) ?_
                          refine lv_lload hx hb dX1_resize_80 (lv_at hl 1 rfl) ?_
                          refine hx_callV (rest := []) (n := 3) S hw (c_copy l hst D tys cJ ht h0 h1 h2 u3 a t (ph_n u.1 b) M (by omega) (by omega) (by omega) hc9) gX1_resize_X1_copy rfl (by decide +kernel) rfl ⟨Nat.le_of_ble_eq_true rfl, Nat.le_of_ble_eq_true rfl⟩ 0 1 rfl rfl hc_adr hl.1 rfl (Nat.le_of_ble_eq_true rfl) ⟨by decide, by decide⟩ dX1_resize_82 (fun H locs hw => ?_)
                          refine W.eq (g2 := F0 m 85 ls []) rfl ?_
                          refine lv_aload_n hx hb dX1_resize_85 rfl (lv_at hl 3 rfl) ?_
                          refine lv_aload_n hx hb dX1_resize_86 rfl (lv_at hl 3 rfl) ?_
                          refine lv_iload_n hx hb dX1_resize_87 rfl (lv_at hl 4 rfl) ?_
                          refine hx_callS (rest := [.ref h0, .ref h0]) (n := 1) S hw (c_unsigned l hst D tys cJ ht h0 h1 h2 (M, u3.2) a (by omega)) gX1_resize_X1_unsigned rfl (by decide +kernel) rfl ⟨Nat.le_of_ble_eq_true rfl, Nat.le_of_ble_eq_true rfl⟩ hc_adr hl.1 rfl (Nat.le_of_ble_eq_true rfl) ⟨by decide, by decide⟩ dX1_resize_88 (fun H locs hw => ?_)
                          refine W.eq (g2 := F0 m 91 ls [.long (lN a), .ref h0, .ref h0]) rfl ?_
                          exact hx_thr (rest := [.ref h0]) (n := 1) S hno hw (x_takenBlock l hst D tys cJ ht h0 h1 h2 (M, u3.2) a hu3 (by omega) hf2) gX1_resize_X1_takenBlock rfl (by decide +kernel) rfl ⟨Nat.le_of_ble_eq_true rfl, Nat.le_of_ble_eq_true rfl⟩ 0 1 rfl rfl hc_adr hl.1 rfl (Nat.le_of_ble_eq_true rfl) ⟨by decide, by decide⟩ dX1_resize_91
                      · exact absurd hc3 (by omega)
                    · exact absurd hc2 kn
                  · rw [hf2] at h
                    dsimp only at h
                    rw [if_pos rfl] at h
                    cases h
    · exact absurd hc ka
