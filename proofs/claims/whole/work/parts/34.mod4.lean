/-! HeapRowModel: resized -/
set_option maxHeartbeats 4000000 in
set_option maxRecDepth 100000 in
theorem m_resized (l : Launch) (hst : l.stackTraces = false) (D : va_G) (tys : List (ClassId × FieldType)) (cB : ClassId) (ht : tys[1]? = some (cB, .byte)) (k0 k1 : Nat) (u : ph_H) (th : Int32) (bf : Int64) (a n x : Nat) (u2 : ph_H) (hu : ph_I u) (ha : a < 4294967296) (hn : n < 4294967296) (h : ph_rsz u a n = (some x, u2)) : ∃ bf2 : Int64, hx_R l D tys yX2_resized wsX2_resized 11 205 [.ref k0, .int (nI a), .int (nI n)] (hm_W cB k0 k1 u th bf) (hm_W cB k0 k1 u2 th bf2) (some (.int (nI x))) := by
  have hu9 := hu
  obtain ⟨i1, i2, i3, i4⟩ := hu9
  have gu := ph_up_ge n
  have gu2 := ph_up_lt hn
  unfold ph_rsz at h
  by_cases ka : a = 0
  · rw [if_pos ka] at h
    subst ka
    refine ⟨bf, ?_⟩
    refine hx_R.ofW (cc := cX2_resized) (maxL := 8) (ret := (some .int)) (by decide) rfl (Nat.le_of_ble_eq_true rfl) ?_
    intro p e s m below meth c A ls hr S hw hl
    have S : hx_S p l s m _ meth c cX2_resized 8 wsX2_resized RX2 A D tys := S
    obtain ⟨⟨hx, hb, hml, hown, hts⟩, hK, hA, hE, hlk⟩ := id S
    have hl : lv_has ls 8 [(0, .ref k0), (1, .int (nI 0)), (2, .int (nI n))] := hl
    refine lv_iload_n hx hb dX2_resized_0 rfl (lv_at hl 1 rfl) ?_
    refine hn_zne (n := 0) (tgt := 13) hx hb (by omega) dX2_resized_1 (by decide) (fun hc => ?_) (fun hc => ?_)
    · exact absurd rfl hc
    · refine lv_aload_n hx hb dX2_resized_4 rfl (lv_at hl 0 rfl) ?_
      refine lv_iload_n hx hb dX2_resized_5 rfl (lv_at hl 2 rfl) ?_
      refine hx_callS (rest := [.ref k0]) (n := 1) S hw (m_without l hst D tys cB ht k0 k1 u th bf n (by omega)) gX2_resized_X2_without rfl (by decide +kernel) rfl ⟨Nat.le_of_ble_eq_true rfl, Nat.le_of_ble_eq_true rfl⟩ hm_adr hl.1 rfl (Nat.le_of_ble_eq_true rfl) ⟨by decide, by decide⟩ dX2_resized_6 (fun H locs hw => ?_)
      refine W.eq (g2 := F0 m 9 ls [.long (lN n), .ref k0]) rfl ?_
      refine hx_callV (rest := []) (n := 1) S hw (m_take l hst D tys cB ht k0 k1 u th bf n x u2 hu hn h) gX2_resized_X2_take rfl (by decide +kernel) rfl ⟨Nat.le_of_ble_eq_true rfl, Nat.le_of_ble_eq_true rfl⟩ 0 2 rfl rfl hm_adr hl.1 rfl (Nat.le_of_ble_eq_true rfl) ⟨by decide, by decide⟩ dX2_resized_9 (fun H locs hw => ?_)
      refine W.eq (g2 := F0 m 12 ls [.int (nI x)]) rfl ?_
      exact hx_iret S hr hw dX2_resized_12
  · rw [if_neg ka] at h
    by_cases kn : n = 0
    · rw [if_pos kn] at h
      rcases hg : ph_give u a with ⟨_ | _, u3⟩
      · rw [hg] at h
        dsimp only at h
        rw [if_neg Bool.false_ne_true] at h
        cases h
      · rw [hg] at h
        dsimp only at h
        rw [if_pos rfl] at h
        cases h
        obtain ⟨bf3, hM⟩ := m_give l hst D tys cB ht k0 k1 u th bf a u2 hu ha ka hg
        refine ⟨bf3, ?_⟩
        refine hx_R.ofW (cc := cX2_resized) (maxL := 8) (ret := (some .int)) (by decide) rfl (Nat.le_of_ble_eq_true rfl) ?_
        intro p e s m below meth c A ls hr S hw hl
        have S : hx_S p l s m _ meth c cX2_resized 8 wsX2_resized RX2 A D tys := S
        obtain ⟨⟨hx, hb, hml, hown, hts⟩, hK, hA, hE, hlk⟩ := id S
        have hl : lv_has ls 8 [(0, .ref k0), (1, .int (nI a)), (2, .int (nI n))] := hl
        refine lv_iload_n hx hb dX2_resized_0 rfl (lv_at hl 1 rfl) ?_
        refine hn_zne (n := a) (tgt := 13) hx hb (by omega) dX2_resized_1 (by decide) (fun hc => ?_) (fun hc => ?_)
        · refine lv_iload_n hx hb dX2_resized_13 rfl (lv_at hl 2 rfl) ?_
          refine hn_zne (n := n) (tgt := 25) hx hb (by omega) dX2_resized_14 (by decide) (fun hc2 => ?_) (fun hc2 => ?_)
          · exact absurd kn hc2
          · refine lv_aload_n hx hb dX2_resized_17 rfl (lv_at hl 0 rfl) ?_
            refine lv_iload_n hx hb dX2_resized_18 rfl (lv_at hl 1 rfl) ?_
            refine hx_callV (rest := []) (n := 1) S hw (hM) gX2_resized_X2_give rfl (by decide +kernel) rfl ⟨Nat.le_of_ble_eq_true rfl, Nat.le_of_ble_eq_true rfl⟩ 0 2 rfl rfl hm_adr hl.1 rfl (Nat.le_of_ble_eq_true rfl) ⟨by decide, by decide⟩ dX2_resized_19 (fun H locs hw => ?_)
            refine W.eq (g2 := F0 m 22 ls [.int (nI 1)]) rfl ?_
            refine lv_istore_n (lv' := [(3, .int (nI 1)), (0, .ref k0), (1, .int (nI a)), (2, .int (nI n))]) hx hb dX2_resized_22 rfl hl (by decide) rfl (fun ls hl => ?_)
            refine lv_iconst (v := nI 0) hx hb dX2_resized_23 (by decide +kernel) ?_
            exact hx_iret S hr hw dX2_resized_24
        · exact absurd hc ka
    · rw [if_neg kn] at h
      rcases hf : ph_fd u.1 u.2.1 a 8064 0 1024 with _ | ⟨b, p0⟩
      · rw [hf] at h
        dsimp only at h
        cases h
      · rw [hf] at h
        dsimp only at h
        obtain ⟨j1, j2, j3, j4, j5, j6⟩ := ph_fd_at hf
        have gn := ph_n_lt u.1 b
        by_cases ks : ph_up n ≤ ph_n u.1 b
        · rw [if_pos ks] at h
          cases h
          refine ⟨hm_bf p0, ?_⟩
          refine hx_R.ofW (cc := cX2_resized) (maxL := 8) (ret := (some .int)) (by decide) rfl (Nat.le_of_ble_eq_true rfl) ?_
          intro p e s m below meth c A ls hr S hw hl
          have S : hx_S p l s m _ meth c cX2_resized 8 wsX2_resized RX2 A D tys := S
          obtain ⟨⟨hx, hb, hml, hown, hts⟩, hK, hA, hE, hlk⟩ := id S
          have hl : lv_has ls 8 [(0, .ref k0), (1, .int (nI a)), (2, .int (nI n))] := hl
          refine lv_iload_n hx hb dX2_resized_0 rfl (lv_at hl 1 rfl) ?_
          refine hn_zne (n := a) (tgt := 13) hx hb (by omega) dX2_resized_1 (by decide) (fun hc => ?_) (fun hc => ?_)
          · refine lv_iload_n hx hb dX2_resized_13 rfl (lv_at hl 2 rfl) ?_
            refine hn_zne (n := n) (tgt := 25) hx hb (by omega) dX2_resized_14 (by decide) (fun hc2 => ?_) (fun hc2 => ?_)
            · refine lv_aload_n hx hb dX2_resized_25 rfl (lv_at hl 0 rfl) ?_
              refine lv_aload_n hx hb dX2_resized_26 rfl (lv_at hl 0 rfl) ?_
              refine lv_iload_n hx hb dX2_resized_27 rfl (lv_at hl 1 rfl) ?_
              refine hx_callV (rest := [.ref k0]) (n := 1) S hw (m_found l hst D tys cB ht k0 k1 u th bf a b p0 hu ha hf) gX2_resized_X2_found rfl (by decide +kernel) rfl ⟨Nat.le_of_ble_eq_true rfl, Nat.le_of_ble_eq_true rfl⟩ 0 2 rfl rfl hm_adr hl.1 rfl (Nat.le_of_ble_eq_true rfl) ⟨by decide, by decide⟩ dX2_resized_28 (fun H locs hw => ?_)
              refine W.eq (g2 := F0 m 31 ls [.long (lN b), .ref k0]) rfl ?_
              refine hx_callV (rest := []) (n := 1) S hw (m_sizeAt l hst D tys cB ht k0 k1 u th (hm_bf p0) b ⟨by omega, by omega⟩) gX2_resized_X2_sizeAt rfl (by decide +kernel) rfl ⟨Nat.le_of_ble_eq_true rfl, Nat.le_of_ble_eq_true rfl⟩ 0 2 rfl rfl hm_adr hl.1 rfl (Nat.le_of_ble_eq_true rfl) ⟨by decide, by decide⟩ dX2_resized_31 (fun H locs hw => ?_)
              refine W.eq (g2 := F0 m 34 ls [.long (lN (ph_n u.1 b))]) rfl ?_
              refine lv_lstore_n (lv' := [(3, .long (lN (ph_n u.1 b))), (0, .ref k0), (1, .int (nI a)), (2, .int (nI n))]) hx hb dX2_resized_34 rfl hl (by decide) rfl (fun ls hl => ?_)
              refine lv_lload_n hx hb dX2_resized_35 rfl (lv_at hl 0 rfl) ?_
              refine lv_iload_n hx hb dX2_resized_36 rfl (lv_at hl 3 rfl) ?_
              refine hx_callS (rest := [.long (lN (ph_n u.1 b))]) (n := 1) S hw (m_without l hst D tys cB ht k0 k1 u th (hm_bf p0) n (by omega)) gX2_resized_X2_without rfl (by decide +kernel) rfl ⟨Nat.le_of_ble_eq_true rfl, Nat.le_of_ble_eq_true rfl⟩ hm_adr hl.1 rfl (Nat.le_of_ble_eq_true rfl) ⟨by decide, by decide⟩ dX2_resized_37 (fun H locs hw => ?_)
              refine W.eq (g2 := F0 m 40 ls [.long (lN n), .long (lN (ph_n u.1 b))]) rfl ?_
              refine hx_callS (rest := [.long (lN (ph_n u.1 b))]) (n := 1) S hw (m_up l hst D tys cB ht k0 k1 u th (hm_bf p0) n (by omega)) gX2_resized_X2_up rfl (by decide +kernel) rfl ⟨Nat.le_of_ble_eq_true rfl, Nat.le_of_ble_eq_true rfl⟩ hm_adr hl.1 rfl (Nat.le_of_ble_eq_true rfl) ⟨by decide, by decide⟩ dX2_resized_40 (fun H locs hw => ?_)
              refine W.eq (g2 := F0 m 43 ls [.long (lN (ph_up n)), .long (lN (ph_n u.1 b))]) rfl ?_
              refine hn_llt (a := (ph_n u.1 b)) (b := (ph_up n)) (tgt := 49) hx hb (by omega) (by omega) dX2_resized_43 dX2_resized_44 (by decide) (fun hc3 => ?_) (fun hc3 => ?_)
              · exact absurd hc3 (by omega)
              · refine lv_iload_n hx hb dX2_resized_47 rfl (lv_at hl 2 rfl) ?_
                exact hx_iret S hr hw dX2_resized_48
            · exact absurd hc2 kn
          · exact absurd hc ka
        · rw [if_neg ks] at h
          rcases ht2 : ph_take u n with ⟨_ | t, u3⟩
          · rw [ht2] at h
            dsimp only at h
            cases h
          · rw [ht2] at h
            dsimp only at h
            have ga := ph_take_at hu ht2
            have hu3 : ph_I u3 := by have hz := ph_take_I hu n; rw [ht2] at hz; exact hz
            by_cases k9 : t = 0
            · subst k9
              rw [if_pos rfl] at h
              cases h
              refine ⟨hm_bf p0, ?_⟩
              refine hx_R.ofW (cc := cX2_resized) (maxL := 8) (ret := (some .int)) (by decide) rfl (Nat.le_of_ble_eq_true rfl) ?_
              intro p e s m below meth c A ls hr S hw hl
              have S : hx_S p l s m _ meth c cX2_resized 8 wsX2_resized RX2 A D tys := S
              obtain ⟨⟨hx, hb, hml, hown, hts⟩, hK, hA, hE, hlk⟩ := id S
              have hl : lv_has ls 8 [(0, .ref k0), (1, .int (nI a)), (2, .int (nI n))] := hl
              refine lv_iload_n hx hb dX2_resized_0 rfl (lv_at hl 1 rfl) ?_
              refine hn_zne (n := a) (tgt := 13) hx hb (by omega) dX2_resized_1 (by decide) (fun hc => ?_) (fun hc => ?_)
              · refine lv_iload_n hx hb dX2_resized_13 rfl (lv_at hl 2 rfl) ?_
                refine hn_zne (n := n) (tgt := 25) hx hb (by omega) dX2_resized_14 (by decide) (fun hc2 => ?_) (fun hc2 => ?_)
                · refine lv_aload_n hx hb dX2_resized_25 rfl (lv_at hl 0 rfl) ?_
                  refine lv_aload_n hx hb dX2_resized_26 rfl (lv_at hl 0 rfl) ?_
                  refine lv_iload_n hx hb dX2_resized_27 rfl (lv_at hl 1 rfl) ?_
                  refine hx_callV (rest := [.ref k0]) (n := 1) S hw (m_found l hst D tys cB ht k0 k1 u th bf a b p0 hu ha hf) gX2_resized_X2_found rfl (by decide +kernel) rfl ⟨Nat.le_of_ble_eq_true rfl, Nat.le_of_ble_eq_true rfl⟩ 0 2 rfl rfl hm_adr hl.1 rfl (Nat.le_of_ble_eq_true rfl) ⟨by decide, by decide⟩ dX2_resized_28 (fun H locs hw => ?_)
                  refine W.eq (g2 := F0 m 31 ls [.long (lN b), .ref k0]) rfl ?_
                  refine hx_callV (rest := []) (n := 1) S hw (m_sizeAt l hst D tys cB ht k0 k1 u th (hm_bf p0) b ⟨by omega, by omega⟩) gX2_resized_X2_sizeAt rfl (by decide +kernel) rfl ⟨Nat.le_of_ble_eq_true rfl, Nat.le_of_ble_eq_true rfl⟩ 0 2 rfl rfl hm_adr hl.1 rfl (Nat.le_of_ble_eq_true rfl) ⟨by decide, by decide⟩ dX2_resized_31 (fun H locs hw => ?_)
                  refine W.eq (g2 := F0 m 34 ls [.long (lN (ph_n u.1 b))]) rfl ?_
                  refine lv_lstore_n (lv' := [(3, .long (lN (ph_n u.1 b))), (0, .ref k0), (1, .int (nI a)), (2, .int (nI n))]) hx hb dX2_resized_34 rfl hl (by decide) rfl (fun ls hl => ?_)
                  refine lv_lload_n hx hb dX2_resized_35 rfl (lv_at hl 0 rfl) ?_
                  refine lv_iload_n hx hb dX2_resized_36 rfl (lv_at hl 3 rfl) ?_
                  refine hx_callS (rest := [.long (lN (ph_n u.1 b))]) (n := 1) S hw (m_without l hst D tys cB ht k0 k1 u th (hm_bf p0) n (by omega)) gX2_resized_X2_without rfl (by decide +kernel) rfl ⟨Nat.le_of_ble_eq_true rfl, Nat.le_of_ble_eq_true rfl⟩ hm_adr hl.1 rfl (Nat.le_of_ble_eq_true rfl) ⟨by decide, by decide⟩ dX2_resized_37 (fun H locs hw => ?_)
                  refine W.eq (g2 := F0 m 40 ls [.long (lN n), .long (lN (ph_n u.1 b))]) rfl ?_
                  refine hx_callS (rest := [.long (lN (ph_n u.1 b))]) (n := 1) S hw (m_up l hst D tys cB ht k0 k1 u th (hm_bf p0) n (by omega)) gX2_resized_X2_up rfl (by decide +kernel) rfl ⟨Nat.le_of_ble_eq_true rfl, Nat.le_of_ble_eq_true rfl⟩ hm_adr hl.1 rfl (Nat.le_of_ble_eq_true rfl) ⟨by decide, by decide⟩ dX2_resized_40 (fun H locs hw => ?_)
                  refine W.eq (g2 := F0 m 43 ls [.long (lN (ph_up n)), .long (lN (ph_n u.1 b))]) rfl ?_
                  refine hn_llt (a := (ph_n u.1 b)) (b := (ph_up n)) (tgt := 49) hx hb (by omega) (by omega) dX2_resized_43 dX2_resized_44 (by decide) (fun hc3 => ?_) (fun hc3 => ?_)
                  · refine lv_aload_n hx hb dX2_resized_49 rfl (lv_at hl 1 rfl) ?_
                    refine lv_iload_n hx hb dX2_resized_50 rfl (lv_at hl 3 rfl) ?_
                    refine hx_callS (rest := [.ref k0]) (n := 1) S hw (m_without l hst D tys cB ht k0 k1 u th (hm_bf p0) n (by omega)) gX2_resized_X2_without rfl (by decide +kernel) rfl ⟨Nat.le_of_ble_eq_true rfl, Nat.le_of_ble_eq_true rfl⟩ hm_adr hl.1 rfl (Nat.le_of_ble_eq_true rfl) ⟨by decide, by decide⟩ dX2_resized_51 (fun H locs hw => ?_)
                    refine W.eq (g2 := F0 m 54 ls [.long (lN n), .ref k0]) rfl ?_
                    refine hx_callV (rest := []) (n := 1) S hw (m_take l hst D tys cB ht k0 k1 u th (hm_bf p0) n 0 u2 hu hn ht2) gX2_resized_X2_take rfl (by decide +kernel) rfl ⟨Nat.le_of_ble_eq_true rfl, Nat.le_of_ble_eq_true rfl⟩ 0 2 rfl rfl hm_adr hl.1 rfl (Nat.le_of_ble_eq_true rfl) ⟨by decide, by decide⟩ dX2_resized_54 (fun H locs hw => ?_)
                    refine W.eq (g2 := F0 m 57 ls [.int (nI 0)]) rfl ?_
                    refine lv_istore (lv' := [(5, .int (nI 0)), (3, .long (lN (ph_n u.1 b))), (0, .ref k0), (1, .int (nI a)), (2, .int (nI n))]) hx hb dX2_resized_57 hl (by decide) rfl (fun ls hl => ?_)
                    refine lv_iload hx hb dX2_resized_59 (lv_at hl 0 rfl) ?_
                    refine hn_zne (n := 0) (tgt := 66) hx hb (by omega) dX2_resized_61 (by decide) (fun hc4 => ?_) (fun hc4 => ?_)
                    · exact absurd rfl hc4
                    · refine lv_iconst (v := nI 0) hx hb dX2_resized_64 (by decide +kernel) ?_
                      exact hx_iret S hr hw dX2_resized_65
                  · exact absurd hc3 (by omega)
                · exact absurd hc2 kn
              · exact absurd hc ka
            · rw [if_neg k9] at h
              rcases hc9 : ph_cpy (ph_n u.1 b) u3.1 a t with ⟨_ | _, M⟩
              · rw [hc9] at h
                dsimp only at h
                rw [if_neg Bool.false_ne_true] at h
                cases h
              · rw [hc9] at h
                dsimp only at h
                rw [if_pos rfl] at h
                rcases hg : ph_give (M, u3.2.1, u3.2.2) a with ⟨_ | _, u4⟩
                · rw [hg] at h
                  dsimp only at h
                  rw [if_neg Bool.false_ne_true] at h
                  cases h
                · rw [hg] at h
                  dsimp only at h
                  rw [if_pos rfl] at h
                  cases h
                  obtain ⟨bf3, hM⟩ := m_give l hst D tys cB ht k0 k1 (M, u3.2) th (hm_bf p0) a u2 hu3 ha ka hg
                  refine ⟨bf3, ?_⟩
                  refine hx_R.ofW (cc := cX2_resized) (maxL := 8) (ret := (some .int)) (by decide) rfl (Nat.le_of_ble_eq_true rfl) ?_
                  intro p e s m below meth c A ls hr S hw hl
                  have S : hx_S p l s m _ meth c cX2_resized 8 wsX2_resized RX2 A D tys := S
                  obtain ⟨⟨hx, hb, hml, hown, hts⟩, hK, hA, hE, hlk⟩ := id S
                  have hl : lv_has ls 8 [(0, .ref k0), (1, .int (nI a)), (2, .int (nI n))] := hl
                  refine lv_iload_n hx hb dX2_resized_0 rfl (lv_at hl 1 rfl) ?_
                  refine hn_zne (n := a) (tgt := 13) hx hb (by omega) dX2_resized_1 (by decide) (fun hc => ?_) (fun hc => ?_)
                  · refine lv_iload_n hx hb dX2_resized_13 rfl (lv_at hl 2 rfl) ?_
                    refine hn_zne (n := n) (tgt := 25) hx hb (by omega) dX2_resized_14 (by decide) (fun hc2 => ?_) (fun hc2 => ?_)
                    · refine lv_aload_n hx hb dX2_resized_25 rfl (lv_at hl 0 rfl) ?_
                      refine lv_aload_n hx hb dX2_resized_26 rfl (lv_at hl 0 rfl) ?_
                      refine lv_iload_n hx hb dX2_resized_27 rfl (lv_at hl 1 rfl) ?_
                      refine hx_callV (rest := [.ref k0]) (n := 1) S hw (m_found l hst D tys cB ht k0 k1 u th bf a b p0 hu ha hf) gX2_resized_X2_found rfl (by decide +kernel) rfl ⟨Nat.le_of_ble_eq_true rfl, Nat.le_of_ble_eq_true rfl⟩ 0 2 rfl rfl hm_adr hl.1 rfl (Nat.le_of_ble_eq_true rfl) ⟨by decide, by decide⟩ dX2_resized_28 (fun H locs hw => ?_)
                      refine W.eq (g2 := F0 m 31 ls [.long (lN b), .ref k0]) rfl ?_
                      refine hx_callV (rest := []) (n := 1) S hw (m_sizeAt l hst D tys cB ht k0 k1 u th (hm_bf p0) b ⟨by omega, by omega⟩) gX2_resized_X2_sizeAt rfl (by decide +kernel) rfl ⟨Nat.le_of_ble_eq_true rfl, Nat.le_of_ble_eq_true rfl⟩ 0 2 rfl rfl hm_adr hl.1 rfl (Nat.le_of_ble_eq_true rfl) ⟨by decide, by decide⟩ dX2_resized_31 (fun H locs hw => ?_)
                      refine W.eq (g2 := F0 m 34 ls [.long (lN (ph_n u.1 b))]) rfl ?_
                      refine lv_lstore_n (lv' := [(3, .long (lN (ph_n u.1 b))), (0, .ref k0), (1, .int (nI a)), (2, .int (nI n))]) hx hb dX2_resized_34 rfl hl (by decide) rfl (fun ls hl => ?_)
                      refine lv_lload_n hx hb dX2_resized_35 rfl (lv_at hl 0 rfl) ?_
                      refine lv_iload_n hx hb dX2_resized_36 rfl (lv_at hl 3 rfl) ?_
                      refine hx_callS (rest := [.long (lN (ph_n u.1 b))]) (n := 1) S hw (m_without l hst D tys cB ht k0 k1 u th (hm_bf p0) n (by omega)) gX2_resized_X2_without rfl (by decide +kernel) rfl ⟨Nat.le_of_ble_eq_true rfl, Nat.le_of_ble_eq_true rfl⟩ hm_adr hl.1 rfl (Nat.le_of_ble_eq_true rfl) ⟨by decide, by decide⟩ dX2_resized_37 (fun H locs hw => ?_)
                      refine W.eq (g2 := F0 m 40 ls [.long (lN n), .long (lN (ph_n u.1 b))]) rfl ?_
                      refine hx_callS (rest := [.long (lN (ph_n u.1 b))]) (n := 1) S hw (m_up l hst D tys cB ht k0 k1 u th (hm_bf p0) n (by omega)) gX2_resized_X2_up rfl (by decide +kernel) rfl ⟨Nat.le_of_ble_eq_true rfl, Nat.le_of_ble_eq_true rfl⟩ hm_adr hl.1 rfl (Nat.le_of_ble_eq_true rfl) ⟨by decide, by decide⟩ dX2_resized_40 (fun H locs hw => ?_)
                      refine W.eq (g2 := F0 m 43 ls [.long (lN (ph_up n)), .long (lN (ph_n u.1 b))]) rfl ?_
                      refine hn_llt (a := (ph_n u.1 b)) (b := (ph_up n)) (tgt := 49) hx hb (by omega) (by omega) dX2_resized_43 dX2_resized_44 (by decide) (fun hc3 => ?_) (fun hc3 => ?_)
                      · refine lv_aload_n hx hb dX2_resized_49 rfl (lv_at hl 1 rfl) ?_
                        refine lv_iload_n hx hb dX2_resized_50 rfl (lv_at hl 3 rfl) ?_
                        refine hx_callS (rest := [.ref k0]) (n := 1) S hw (m_without l hst D tys cB ht k0 k1 u th (hm_bf p0) n (by omega)) gX2_resized_X2_without rfl (by decide +kernel) rfl ⟨Nat.le_of_ble_eq_true rfl, Nat.le_of_ble_eq_true rfl⟩ hm_adr hl.1 rfl (Nat.le_of_ble_eq_true rfl) ⟨by decide, by decide⟩ dX2_resized_51 (fun H locs hw => ?_)
                        refine W.eq (g2 := F0 m 54 ls [.long (lN n), .ref k0]) rfl ?_
                        refine hx_callV (rest := []) (n := 1) S hw (m_take l hst D tys cB ht k0 k1 u th (hm_bf p0) n x u3 hu hn ht2) gX2_resized_X2_take rfl (by decide +kernel) rfl ⟨Nat.le_of_ble_eq_true rfl, Nat.le_of_ble_eq_true rfl⟩ 0 2 rfl rfl hm_adr hl.1 rfl (Nat.le_of_ble_eq_true rfl) ⟨by decide, by decide⟩ dX2_resized_54 (fun H locs hw => ?_)
                        refine W.eq (g2 := F0 m 57 ls [.int (nI x)]) rfl ?_
                        refine lv_istore (lv' := [(5, .int (nI x)), (3, .long (lN (ph_n u.1 b))), (0, .ref k0), (1, .int (nI a)), (2, .int (nI n))]) hx hb dX2_resized_57 hl (by decide) rfl (fun ls hl => ?_)
                        refine lv_iload hx hb dX2_resized_59 (lv_at hl 0 rfl) ?_
                        refine hn_zne (n := x) (tgt := 66) hx hb (by omega) dX2_resized_61 (by decide) (fun hc4 => ?_) (fun hc4 => ?_)
                        · refine lv_lconst (v := lN 0) hx hb dX2_resized_66 (by decide +kernel) ?_
                          refine lv_lstore (lv' := [(6, .long (lN 0)), (5, .int (nI x)), (3, .long (lN (ph_n u.1 b))), (0, .ref k0), (1, .int (nI a)), (2, .int (nI n))]) hx hb dX2_resized_67 hl (by decide) rfl (fun ls hl => ?_)
                          have loop : ∀ (f k : Nat) (M1 : ph_M) (H : Heap) (locs : List Loc) (ls : Array Slot), k + f = ph_n u.1 b → hx_w D A s.heap (hm_W cB k0 k1 (M1, u3.2) th (hm_bf p0)) H locs → lv_has ls 8 [(6, .long (lN k)), (5, .int (nI x)), (3, .long (lN (ph_n u.1 b))), (0, .ref k0), (1, .int (nI a)), (2, .int (nI n))] → ph_cpy f M1 (a + k) (x + k) = (true, M) → (∀ (H : Heap) (locs : List Loc) (ls : Array Slot), hx_w D A s.heap (hm_W cB k0 k1 (M, u3.2) th (hm_bf p0)) H locs → lv_has ls 8 [(5, .int (nI x)), (3, .long (lN (ph_n u.1 b))), (0, .ref k0), (1, .int (nI a)), (2, .int (nI n))] → W p l e { frames := 11, cells := 0, slots := 0, locals := 205 } s m ([.ref k0, .int (nI a), .int (nI n)] : List Value).toArray below meth c H locs 0 0 (MQ below (hx_Q D A (hm_W cB k0 k1 u2 th bf3) (some (.int (nI x)))) ([.ref k0, .int (nI a), .int (nI n)] : List Value).toArray s 0 0 A) (F0 m 108 ls [])) → W p l e { frames := 11, cells := 0, slots := 0, locals := 205 } s m ([.ref k0, .int (nI a), .int (nI n)] : List Value).toArray below meth c H locs 0 0 (MQ below (hx_Q D A (hm_W cB k0 k1 u2 th bf3) (some (.int (nI x)))) ([.ref k0, .int (nI a), .int (nI n)] : List Value).toArray s 0 0 A) (F0 m 69 ls []) := by
                            intro f
                            induction f with
                            | zero =>
                              intro k M1 H locs ls hk hw hl hq kk
                              have hq : M1 = M := congrArg (fun z => z.2) hq
                              subst hq
                              refine lv_lload hx hb dX2_resized_69 (lv_at hl 0 rfl) ?_
                              refine lv_lload_n hx hb dX2_resized_71 rfl (lv_at hl 2 rfl) ?_
                              refine hn_lge (a := k) (b := (ph_n u.1 b)) (tgt := 108) hx hb (by omega) (by omega) dX2_resized_72 dX2_resized_73 (by decide) (fun hd => ?_) (fun hd => ?_)
                              · exact kk _ _ _ hw (lv_sub hl [1, 2, 3, 4, 5] rfl)
                              · exact absurd hd (by omega)
                            | succ f ih =>
                              intro k M1 H locs ls hk hw hl hq kk
                              unfold ph_cpy at hq
                              have gb := ph_b_lt M1 (a + k)
                              refine lv_lload hx hb dX2_resized_69 (lv_at hl 0 rfl) ?_
                              refine lv_lload_n hx hb dX2_resized_71 rfl (lv_at hl 2 rfl) ?_
                              refine hn_lge (a := k) (b := (ph_n u.1 b)) (tgt := 108) hx hb (by omega) (by omega) dX2_resized_72 dX2_resized_73 (by decide) (fun hd => ?_) (fun hd => ?_)
                              · exact absurd hd (by omega)
                              · refine lv_aload_n hx hb dX2_resized_76 rfl (lv_at hl 3 rfl) ?_
                                refine lv_iload hx hb dX2_resized_77 (lv_at hl 1 rfl) ?_
                                refine hx_callS (rest := [.ref k0]) (n := 1) S hw (m_without l hst D tys cB ht k0 k1 (M1, u3.2) th (hm_bf p0) x (by omega)) gX2_resized_X2_without rfl (by decide +kernel) rfl ⟨Nat.le_of_ble_eq_true rfl, Nat.le_of_ble_eq_true rfl⟩ hm_adr hl.1 rfl (Nat.le_of_ble_eq_true rfl) ⟨by decide, by decide⟩ dX2_resized_79 (fun H locs hw => ?_)
                                refine W.eq (g2 := F0 m 82 ls [.long (lN x), .ref k0]) rfl ?_
                                refine lv_lload hx hb dX2_resized_82 (lv_at hl 0 rfl) ?_
                                refine hn_ladd (v := lN (x + k)) hx hb dX2_resized_84 (lN_add _ _) ?_
                                refine lv_aload_n hx hb dX2_resized_85 rfl (lv_at hl 3 rfl) ?_
                                refine lv_iload_n hx hb dX2_resized_86 rfl (lv_at hl 4 rfl) ?_
                                refine hx_callS (rest := [.ref k0, .long (lN (x + k)), .ref k0]) (n := 1) S hw (m_without l hst D tys cB ht k0 k1 (M1, u3.2) th (hm_bf p0) a (by omega)) gX2_resized_X2_without rfl (by decide +kernel) rfl ⟨Nat.le_of_ble_eq_true rfl, Nat.le_of_ble_eq_true rfl⟩ hm_adr hl.1 rfl (Nat.le_of_ble_eq_true rfl) ⟨by decide, by decide⟩ dX2_resized_87 (fun H locs hw => ?_)
                                refine W.eq (g2 := F0 m 90 ls [.long (lN a), .ref k0, .long (lN (x + k)), .ref k0]) rfl ?_
                                refine lv_lload hx hb dX2_resized_90 (lv_at hl 0 rfl) ?_
                                refine hn_ladd (v := lN (a + k)) hx hb dX2_resized_92 (lN_add _ _) ?_
                                by_cases hin : ph_in (a + k)
                                · rw [if_pos hin] at hq
                                  refine hx_callV (rest := [.long (lN (x + k)), .ref k0]) (n := 1) S hw (m_read l hst D tys cB ht k0 k1 (M1, u3.2) th (hm_bf p0) (a + k) hin) gX2_resized_X2_read rfl (by decide +kernel) rfl ⟨Nat.le_of_ble_eq_true rfl, Nat.le_of_ble_eq_true rfl⟩ 0 2 rfl rfl hm_adr hl.1 rfl (Nat.le_of_ble_eq_true rfl) ⟨by decide, by decide⟩ dX2_resized_93 (fun H locs hw => ?_)
                                  refine W.eq (g2 := F0 m 96 ls [.int (nI (ph_b M1 (a + k))), .long (lN (x + k)), .ref k0]) rfl ?_
                                  by_cases hin2 : ph_in (x + k)
                                  · rw [if_pos hin2] at hq
                                    refine hx_callV (rest := []) (n := 2) S hw (m_writeN l hst D tys cB ht k0 k1 (M1, u3.2) th (hm_bf p0) (x + k) (ph_b M1 (a + k)) (by omega) hin2) gX2_resized_X2_write rfl (by decide +kernel) rfl ⟨Nat.le_of_ble_eq_true rfl, Nat.le_of_ble_eq_true rfl⟩ 0 2 rfl rfl hm_adr hl.1 rfl (Nat.le_of_ble_eq_true rfl) ⟨by decide, by decide⟩ dX2_resized_96 (fun H locs hw => ?_)
                                    refine W.eq (g2 := F0 m 99 ls []) rfl ?_
                                    refine lv_lload hx hb dX2_resized_99 (lv_at hl 0 rfl) ?_
                                    refine lv_lconst (v := lN 1) hx hb dX2_resized_101 (by decide +kernel) ?_
                                    refine hn_ladd (v := lN (k + 1)) hx hb dX2_resized_102 (lN_add _ _) ?_
                                    refine lv_lstore (lv' := [(6, .long (lN (k + 1))), (5, .int (nI x)), (3, .long (lN (ph_n u.1 b))), (0, .ref k0), (1, .int (nI a)), (2, .int (nI n))]) hx hb dX2_resized_103 hl (by decide) rfl (fun ls hl => ?_)
                                    refine lv_goto (tgt := 69) hx hb dX2_resized_105 (by decide) ?_
                                    exact ih (k + 1) _ _ _ _ (by omega) hw (lv_sub hl [0, 1, 2, 3, 4, 5] rfl) hq kk
                                  · rw [if_neg hin2] at hq
                                    exact absurd (congrArg (fun z => z.1) hq) Bool.false_ne_true
                                · rw [if_neg hin] at hq
                                  exact absurd (congrArg (fun z => z.1) hq) Bool.false_ne_true
                          refine loop (ph_n u.1 b) 0 _ _ _ _ (by omega) hw (lv_sub hl [0, 1, 2, 3, 4, 5] rfl) hc9 (fun H locs ls hw hl => ?_)
                          refine lv_aload_n hx hb dX2_resized_108 rfl (lv_at hl 2 rfl) ?_
                          refine lv_iload_n hx hb dX2_resized_109 rfl (lv_at hl 3 rfl) ?_
                          refine hx_callV (rest := []) (n := 1) S hw (hM) gX2_resized_X2_give rfl (by decide +kernel) rfl ⟨Nat.le_of_ble_eq_true rfl, Nat.le_of_ble_eq_true rfl⟩ 0 2 rfl rfl hm_adr hl.1 rfl (Nat.le_of_ble_eq_true rfl) ⟨by decide, by decide⟩ dX2_resized_110 (fun H locs hw => ?_)
                          refine W.eq (g2 := F0 m 113 ls [.int (nI 1)]) rfl ?_
                          refine lv_istore (lv' := [(6, .int (nI 1)), (5, .int (nI x)), (3, .long (lN (ph_n u.1 b))), (0, .ref k0), (1, .int (nI a)), (2, .int (nI n))]) hx hb dX2_resized_113 hl (by decide) rfl (fun ls hl => ?_)
                          refine lv_iload hx hb dX2_resized_115 (lv_at hl 1 rfl) ?_
                          exact hx_iret S hr hw dX2_resized_117
                        · exact absurd hc4 k9
                      · exact absurd hc3 (by omega)
                    · exact absurd hc2 kn
                  · exact absurd hc ka
set_option maxHeartbeats 4000000 in
set_option maxRecDepth 100000 in
theorem mx_resized (l : Launch) (hst : l.stackTraces = false) (D : va_G) (tys : List (ClassId × FieldType)) (cB : ClassId) (ht : tys[1]? = some (cB, .byte)) (k0 k1 : Nat) (u : ph_H) (th : Int32) (bf : Int64) (a n : Nat) (u2 : ph_H) (hu : ph_I u) (ha : a < 4294967296) (hn : n < 4294967296) (h : ph_rsz u a n = (none, u2)) : ∃ bf2 : Int64, hx_X l D tys yX2_resized wsX2_resized 11 205 [.ref k0, .int (nI a), .int (nI n)] (hm_W cB k0 k1 u th bf) (hm_W cB k0 k1 u2 th bf2) := by
  have hu9 := hu
  obtain ⟨i1, i2, i3, i4⟩ := hu9
  have gu := ph_up_ge n
  have gu2 := ph_up_lt hn
  unfold ph_rsz at h
  by_cases ka : a = 0
  · rw [if_pos ka] at h
    subst ka
    refine ⟨bf, ?_⟩
    refine hx_X.ofW (cc := cX2_resized) (maxL := 8) (ret := (some .int)) (by decide) rfl (Nat.le_of_ble_eq_true rfl) ?_
    intro p e s m below meth c A ls hr S hno hw hl
    have S : hx_S p l s m _ meth c cX2_resized 8 wsX2_resized RX2 A D tys := S
    obtain ⟨⟨hx, hb, hml, hown, hts⟩, hK, hA, hE, hlk⟩ := id S
    have hl : lv_has ls 8 [(0, .ref k0), (1, .int (nI 0)), (2, .int (nI n))] := hl
    refine lv_iload_n hx hb dX2_resized_0 rfl (lv_at hl 1 rfl) ?_
    refine hn_zne (n := 0) (tgt := 13) hx hb (by omega) dX2_resized_1 (by decide) (fun hc => ?_) (fun hc => ?_)
    · exact absurd rfl hc
    · refine lv_aload_n hx hb dX2_resized_4 rfl (lv_at hl 0 rfl) ?_
      refine lv_iload_n hx hb dX2_resized_5 rfl (lv_at hl 2 rfl) ?_
      refine hx_callS (rest := [.ref k0]) (n := 1) S hw (m_without l hst D tys cB ht k0 k1 u th bf n (by omega)) gX2_resized_X2_without rfl (by decide +kernel) rfl ⟨Nat.le_of_ble_eq_true rfl, Nat.le_of_ble_eq_true rfl⟩ hm_adr hl.1 rfl (Nat.le_of_ble_eq_true rfl) ⟨by decide, by decide⟩ dX2_resized_6 (fun H locs hw => ?_)
      refine W.eq (g2 := F0 m 9 ls [.long (lN n), .ref k0]) rfl ?_
      exact hx_thr (rest := []) (n := 1) S hno hw (mx_take l hst D tys cB ht k0 k1 u th bf n u2 hu hn h) gX2_resized_X2_take rfl (by decide +kernel) rfl ⟨Nat.le_of_ble_eq_true rfl, Nat.le_of_ble_eq_true rfl⟩ 0 2 rfl rfl hm_adr hl.1 rfl (Nat.le_of_ble_eq_true rfl) ⟨by decide, by decide⟩ dX2_resized_9
  · rw [if_neg ka] at h
    by_cases kn : n = 0
    · rw [if_pos kn] at h
      rcases hg : ph_give u a with ⟨_ | _, u3⟩
      · rw [hg] at h
        dsimp only at h
        rw [if_neg Bool.false_ne_true] at h
        cases h
        obtain ⟨bf3, hM⟩ := mx_give l hst D tys cB ht k0 k1 u th bf a u2 hu ha ka hg
        refine ⟨bf3, ?_⟩
        refine hx_X.ofW (cc := cX2_resized) (maxL := 8) (ret := (some .int)) (by decide) rfl (Nat.le_of_ble_eq_true rfl) ?_
        intro p e s m below meth c A ls hr S hno hw hl
        have S : hx_S p l s m _ meth c cX2_resized 8 wsX2_resized RX2 A D tys := S
        obtain ⟨⟨hx, hb, hml, hown, hts⟩, hK, hA, hE, hlk⟩ := id S
        have hl : lv_has ls 8 [(0, .ref k0), (1, .int (nI a)), (2, .int (nI n))] := hl
        refine lv_iload_n hx hb dX2_resized_0 rfl (lv_at hl 1 rfl) ?_
        refine hn_zne (n := a) (tgt := 13) hx hb (by omega) dX2_resized_1 (by decide) (fun hc => ?_) (fun hc => ?_)
        · refine lv_iload_n hx hb dX2_resized_13 rfl (lv_at hl 2 rfl) ?_
          refine hn_zne (n := n) (tgt := 25) hx hb (by omega) dX2_resized_14 (by decide) (fun hc2 => ?_) (fun hc2 => ?_)
          · exact absurd kn hc2
          · refine lv_aload_n hx hb dX2_resized_17 rfl (lv_at hl 0 rfl) ?_
            refine lv_iload_n hx hb dX2_resized_18 rfl (lv_at hl 1 rfl) ?_
            exact hx_thr (rest := []) (n := 1) S hno hw (hM) gX2_resized_X2_give rfl (by decide +kernel) rfl ⟨Nat.le_of_ble_eq_true rfl, Nat.le_of_ble_eq_true rfl⟩ 0 2 rfl rfl hm_adr hl.1 rfl (Nat.le_of_ble_eq_true rfl) ⟨by decide, by decide⟩ dX2_resized_19
        · exact absurd hc ka
      · rw [hg] at h
        dsimp only at h
        rw [if_pos rfl] at h
        cases h
    · rw [if_neg kn] at h
      rcases hf : ph_fd u.1 u.2.1 a 8064 0 1024 with _ | ⟨b, p0⟩
      · rw [hf] at h
        dsimp only at h
        cases h
        generalize hz : ph_bb u.1 u.2.1 8064 0 1024 = z
        refine ⟨hm_bf z, ?_⟩
        refine hx_X.ofW (cc := cX2_resized) (maxL := 8) (ret := (some .int)) (by decide) rfl (Nat.le_of_ble_eq_true rfl) ?_
        intro p e s m below meth c A ls hr S hno hw hl
        have S : hx_S p l s m _ meth c cX2_resized 8 wsX2_resized RX2 A D tys := S
        obtain ⟨⟨hx, hb, hml, hown, hts⟩, hK, hA, hE, hlk⟩ := id S
        have hl : lv_has ls 8 [(0, .ref k0), (1, .int (nI a)), (2, .int (nI n))] := hl
        refine lv_iload_n hx hb dX2_resized_0 rfl (lv_at hl 1 rfl) ?_
        refine hn_zne (n := a) (tgt := 13) hx hb (by omega) dX2_resized_1 (by decide) (fun hc => ?_) (fun hc => ?_)
        · refine lv_iload_n hx hb dX2_resized_13 rfl (lv_at hl 2 rfl) ?_
          refine hn_zne (n := n) (tgt := 25) hx hb (by omega) dX2_resized_14 (by decide) (fun hc2 => ?_) (fun hc2 => ?_)
          · refine lv_aload_n hx hb dX2_resized_25 rfl (lv_at hl 0 rfl) ?_
            refine lv_aload_n hx hb dX2_resized_26 rfl (lv_at hl 0 rfl) ?_
            refine lv_iload_n hx hb dX2_resized_27 rfl (lv_at hl 1 rfl) ?_
            exact hx_thr (rest := [.ref k0]) (n := 1) S hno hw (mx_found l hst D tys cB ht k0 k1 u th bf a z hu ha hz hf) gX2_resized_X2_found rfl (by decide +kernel) rfl ⟨Nat.le_of_ble_eq_true rfl, Nat.le_of_ble_eq_true rfl⟩ 0 2 rfl rfl hm_adr hl.1 rfl (Nat.le_of_ble_eq_true rfl) ⟨by decide, by decide⟩ dX2_resized_28
          · exact absurd hc2 kn
        · exact absurd hc ka
      · rw [hf] at h
        dsimp only at h
        obtain ⟨j1, j2, j3, j4, j5, j6⟩ := ph_fd_at hf
        have gn := ph_n_lt u.1 b
        by_cases ks : ph_up n ≤ ph_n u.1 b
        · rw [if_pos ks] at h
          cases h
        · rw [if_neg ks] at h
          rcases ht2 : ph_take u n with ⟨_ | t, u3⟩
          · rw [ht2] at h
            dsimp only at h
            cases h
            refine ⟨hm_bf p0, ?_⟩
            refine hx_X.ofW (cc := cX2_resized) (maxL := 8) (ret := (some .int)) (by decide) rfl (Nat.le_of_ble_eq_true rfl) ?_
            intro p e s m below meth c A ls hr S hno hw hl
            have S : hx_S p l s m _ meth c cX2_resized 8 wsX2_resized RX2 A D tys := S
            obtain ⟨⟨hx, hb, hml, hown, hts⟩, hK, hA, hE, hlk⟩ := id S
            have hl : lv_has ls 8 [(0, .ref k0), (1, .int (nI a)), (2, .int (nI n))] := hl
            refine lv_iload_n hx hb dX2_resized_0 rfl (lv_at hl 1 rfl) ?_
            refine hn_zne (n := a) (tgt := 13) hx hb (by omega) dX2_resized_1 (by decide) (fun hc => ?_) (fun hc => ?_)
            · refine lv_iload_n hx hb dX2_resized_13 rfl (lv_at hl 2 rfl) ?_
              refine hn_zne (n := n) (tgt := 25) hx hb (by omega) dX2_resized_14 (by decide) (fun hc2 => ?_) (fun hc2 => ?_)
              · refine lv_aload_n hx hb dX2_resized_25 rfl (lv_at hl 0 rfl) ?_
                refine lv_aload_n hx hb dX2_resized_26 rfl (lv_at hl 0 rfl) ?_
                refine lv_iload_n hx hb dX2_resized_27 rfl (lv_at hl 1 rfl) ?_
                refine hx_callV (rest := [.ref k0]) (n := 1) S hw (m_found l hst D tys cB ht k0 k1 u th bf a b p0 hu ha hf) gX2_resized_X2_found rfl (by decide +kernel) rfl ⟨Nat.le_of_ble_eq_true rfl, Nat.le_of_ble_eq_true rfl⟩ 0 2 rfl rfl hm_adr hl.1 rfl (Nat.le_of_ble_eq_true rfl) ⟨by decide, by decide⟩ dX2_resized_28 (fun H locs hw => ?_)
                refine W.eq (g2 := F0 m 31 ls [.long (lN b), .ref k0]) rfl ?_
                refine hx_callV (rest := []) (n := 1) S hw (m_sizeAt l hst D tys cB ht k0 k1 u th (hm_bf p0) b ⟨by omega, by omega⟩) gX2_resized_X2_sizeAt rfl (by decide +kernel) rfl ⟨Nat.le_of_ble_eq_true rfl, Nat.le_of_ble_eq_true rfl⟩ 0 2 rfl rfl hm_adr hl.1 rfl (Nat.le_of_ble_eq_true rfl) ⟨by decide, by decide⟩ dX2_resized_31 (fun H locs hw => ?_)
                refine W.eq (g2 := F0 m 34 ls [.long (lN (ph_n u.1 b))]) rfl ?_
                refine lv_lstore_n (lv' := [(3, .long (lN (ph_n u.1 b))), (0, .ref k0), (1, .int (nI a)), (2, .int (nI n))]) hx hb dX2_resized_34 rfl hl (by decide) rfl (fun ls hl => ?_)
                refine lv_lload_n hx hb dX2_resized_35 rfl (lv_at hl 0 rfl) ?_
                refine lv_iload_n hx hb dX2_resized_36 rfl (lv_at hl 3 rfl) ?_
                refine hx_callS (rest := [.long (lN (ph_n u.1 b))]) (n := 1) S hw (m_without l hst D tys cB ht k0 k1 u th (hm_bf p0) n (by omega)) gX2_resized_X2_without rfl (by decide +kernel) rfl ⟨Nat.le_of_ble_eq_true rfl, Nat.le_of_ble_eq_true rfl⟩ hm_adr hl.1 rfl (Nat.le_of_ble_eq_true rfl) ⟨by decide, by decide⟩ dX2_resized_37 (fun H locs hw => ?_)
                refine W.eq (g2 := F0 m 40 ls [.long (lN n), .long (lN (ph_n u.1 b))]) rfl ?_
                refine hx_callS (rest := [.long (lN (ph_n u.1 b))]) (n := 1) S hw (m_up l hst D tys cB ht k0 k1 u th (hm_bf p0) n (by omega)) gX2_resized_X2_up rfl (by decide +kernel) rfl ⟨Nat.le_of_ble_eq_true rfl, Nat.le_of_ble_eq_true rfl⟩ hm_adr hl.1 rfl (Nat.le_of_ble_eq_true rfl) ⟨by decide, by decide⟩ dX2_resized_40 (fun H locs hw => ?_)
                refine W.eq (g2 := F0 m 43 ls [.long (lN (ph_up n)), .long (lN (ph_n u.1 b))]) rfl ?_
                refine hn_llt (a := (ph_n u.1 b)) (b := (ph_up n)) (tgt := 49) hx hb (by omega) (by omega) dX2_resized_43 dX2_resized_44 (by decide) (fun hc3 => ?_) (fun hc3 => ?_)
                · refine lv_aload_n hx hb dX2_resized_49 rfl (lv_at hl 1 rfl) ?_
                  refine lv_iload_n hx hb dX2_resized_50 rfl (lv_at hl 3 rfl) ?_
                  refine hx_callS (rest := [.ref k0]) (n := 1) S hw (m_without l hst D tys cB ht k0 k1 u th (hm_bf p0) n (by omega)) gX2_resized_X2_without rfl (by decide +kernel) rfl ⟨Nat.le_of_ble_eq_true rfl, Nat.le_of_ble_eq_true rfl⟩ hm_adr hl.1 rfl (Nat.le_of_ble_eq_true rfl) ⟨by decide, by decide⟩ dX2_resized_51 (fun H locs hw => ?_)
                  refine W.eq (g2 := F0 m 54 ls [.long (lN n), .ref k0]) rfl ?_
                  exact hx_thr (rest := []) (n := 1) S hno hw (mx_take l hst D tys cB ht k0 k1 u th (hm_bf p0) n u2 hu hn ht2) gX2_resized_X2_take rfl (by decide +kernel) rfl ⟨Nat.le_of_ble_eq_true rfl, Nat.le_of_ble_eq_true rfl⟩ 0 2 rfl rfl hm_adr hl.1 rfl (Nat.le_of_ble_eq_true rfl) ⟨by decide, by decide⟩ dX2_resized_54
                · exact absurd hc3 (by omega)
              · exact absurd hc2 kn
            · exact absurd hc ka
          · rw [ht2] at h
            dsimp only at h
            have ga := ph_take_at hu ht2
            have hu3 : ph_I u3 := by have hz := ph_take_I hu n; rw [ht2] at hz; exact hz
            by_cases k9 : t = 0
            · subst k9
              rw [if_pos rfl] at h
              cases h
            · rw [if_neg k9] at h
              rcases hc9 : ph_cpy (ph_n u.1 b) u3.1 a t with ⟨_ | _, M⟩
              · rw [hc9] at h
                dsimp only at h
                rw [if_neg Bool.false_ne_true] at h
                cases h
                refine ⟨hm_bf p0, ?_⟩
                refine hx_X.ofW (cc := cX2_resized) (maxL := 8) (ret := (some .int)) (by decide) rfl (Nat.le_of_ble_eq_true rfl) ?_
                intro p e s m below meth c A ls hr S hno hw hl
                have S : hx_S p l s m _ meth c cX2_resized 8 wsX2_resized RX2 A D tys := S
                obtain ⟨⟨hx, hb, hml, hown, hts⟩, hK, hA, hE, hlk⟩ := id S
                have hl : lv_has ls 8 [(0, .ref k0), (1, .int (nI a)), (2, .int (nI n))] := hl
                refine lv_iload_n hx hb dX2_resized_0 rfl (lv_at hl 1 rfl) ?_
                refine hn_zne (n := a) (tgt := 13) hx hb (by omega) dX2_resized_1 (by decide) (fun hc => ?_) (fun hc => ?_)
                · refine lv_iload_n hx hb dX2_resized_13 rfl (lv_at hl 2 rfl) ?_
                  refine hn_zne (n := n) (tgt := 25) hx hb (by omega) dX2_resized_14 (by decide) (fun hc2 => ?_) (fun hc2 => ?_)
                  · refine lv_aload_n hx hb dX2_resized_25 rfl (lv_at hl 0 rfl) ?_
                    refine lv_aload_n hx hb dX2_resized_26 rfl (lv_at hl 0 rfl) ?_
                    refine lv_iload_n hx hb dX2_resized_27 rfl (lv_at hl 1 rfl) ?_
                    refine hx_callV (rest := [.ref k0]) (n := 1) S hw (m_found l hst D tys cB ht k0 k1 u th bf a b p0 hu ha hf) gX2_resized_X2_found rfl (by decide +kernel) rfl ⟨Nat.le_of_ble_eq_true rfl, Nat.le_of_ble_eq_true rfl⟩ 0 2 rfl rfl hm_adr hl.1 rfl (Nat.le_of_ble_eq_true rfl) ⟨by decide, by decide⟩ dX2_resized_28 (fun H locs hw => ?_)
                    refine W.eq (g2 := F0 m 31 ls [.long (lN b), .ref k0]) rfl ?_
                    refine hx_callV (rest := []) (n := 1) S hw (m_sizeAt l hst D tys cB ht k0 k1 u th (hm_bf p0) b ⟨by omega, by omega⟩) gX2_resized_X2_sizeAt rfl (by decide +kernel) rfl ⟨Nat.le_of_ble_eq_true rfl, Nat.le_of_ble_eq_true rfl⟩ 0 2 rfl rfl hm_adr hl.1 rfl (Nat.le_of_ble_eq_true rfl) ⟨by decide, by decide⟩ dX2_resized_31 (fun H locs hw => ?_)
                    refine W.eq (g2 := F0 m 34 ls [.long (lN (ph_n u.1 b))]) rfl ?_
                    refine lv_lstore_n (lv' := [(3, .long (lN (ph_n u.1 b))), (0, .ref k0), (1, .int (nI a)), (2, .int (nI n))]) hx hb dX2_resized_34 rfl hl (by decide) rfl (fun ls hl => ?_)
                    refine lv_lload_n hx hb dX2_resized_35 rfl (lv_at hl 0 rfl) ?_
                    refine lv_iload_n hx hb dX2_resized_36 rfl (lv_at hl 3 rfl) ?_
                    refine hx_callS (rest := [.long (lN (ph_n u.1 b))]) (n := 1) S hw (m_without l hst D tys cB ht k0 k1 u th (hm_bf p0) n (by omega)) gX2_resized_X2_without rfl (by decide +kernel) rfl ⟨Nat.le_of_ble_eq_true rfl, Nat.le_of_ble_eq_true rfl⟩ hm_adr hl.1 rfl (Nat.le_of_ble_eq_true rfl) ⟨by decide, by decide⟩ dX2_resized_37 (fun H locs hw => ?_)
                    refine W.eq (g2 := F0 m 40 ls [.long (lN n), .long (lN (ph_n u.1 b))]) rfl ?_
                    refine hx_callS (rest := [.long (lN (ph_n u.1 b))]) (n := 1) S hw (m_up l hst D tys cB ht k0 k1 u th (hm_bf p0) n (by omega)) gX2_resized_X2_up rfl (by decide +kernel) rfl ⟨Nat.le_of_ble_eq_true rfl, Nat.le_of_ble_eq_true rfl⟩ hm_adr hl.1 rfl (Nat.le_of_ble_eq_true rfl) ⟨by decide, by decide⟩ dX2_resized_40 (fun H locs hw => ?_)
                    refine W.eq (g2 := F0 m 43 ls [.long (lN (ph_up n)), .long (lN (ph_n u.1 b))]) rfl ?_
                    refine hn_llt (a := (ph_n u.1 b)) (b := (ph_up n)) (tgt := 49) hx hb (by omega) (by omega) dX2_resized_43 dX2_resized_44 (by decide) (fun hc3 => ?_) (fun hc3 => ?_)
                    · refine lv_aload_n hx hb dX2_resized_49 rfl (lv_at hl 1 rfl) ?_
                      refine lv_iload_n hx hb dX2_resized_50 rfl (lv_at hl 3 rfl) ?_
                      refine hx_callS (rest := [.ref k0]) (n := 1) S hw (m_without l hst D tys cB ht k0 k1 u th (hm_bf p0) n (by omega)) gX2_resized_X2_without rfl (by decide +kernel) rfl ⟨Nat.le_of_ble_eq_true rfl, Nat.le_of_ble_eq_true rfl⟩ hm_adr hl.1 rfl (Nat.le_of_ble_eq_true rfl) ⟨by decide, by decide⟩ dX2_resized_51 (fun H locs hw => ?_)
                      refine W.eq (g2 := F0 m 54 ls [.long (lN n), .ref k0]) rfl ?_
                      refine hx_callV (rest := []) (n := 1) S hw (m_take l hst D tys cB ht k0 k1 u th (hm_bf p0) n t u3 hu hn ht2) gX2_resized_X2_take rfl (by decide +kernel) rfl ⟨Nat.le_of_ble_eq_true rfl, Nat.le_of_ble_eq_true rfl⟩ 0 2 rfl rfl hm_adr hl.1 rfl (Nat.le_of_ble_eq_true rfl) ⟨by decide, by decide⟩ dX2_resized_54 (fun H locs hw => ?_)
                      refine W.eq (g2 := F0 m 57 ls [.int (nI t)]) rfl ?_
                      refine lv_istore (lv' := [(5, .int (nI t)), (3, .long (lN (ph_n u.1 b))), (0, .ref k0), (1, .int (nI a)), (2, .int (nI n))]) hx hb dX2_resized_57 hl (by decide) rfl (fun ls hl => ?_)
                      refine lv_iload hx hb dX2_resized_59 (lv_at hl 0 rfl) ?_
                      refine hn_zne (n := t) (tgt := 66) hx hb (by omega) dX2_resized_61 (by decide) (fun hc4 => ?_) (fun hc4 => ?_)
                      · refine lv_lconst (v := lN 0) hx hb dX2_resized_66 (by decide +kernel) ?_
                        refine lv_lstore (lv' := [(6, .long (lN 0)), (5, .int (nI t)), (3, .long (lN (ph_n u.1 b))), (0, .ref k0), (1, .int (nI a)), (2, .int (nI n))]) hx hb dX2_resized_67 hl (by decide) rfl (fun ls hl => ?_)
                        have loop : ∀ (f k : Nat) (M1 : ph_M) (H : Heap) (locs : List Loc) (ls : Array Slot), k + f = ph_n u.1 b → hx_w D A s.heap (hm_W cB k0 k1 (M1, u3.2) th (hm_bf p0)) H locs → lv_has ls 8 [(6, .long (lN k)), (5, .int (nI t)), (3, .long (lN (ph_n u.1 b))), (0, .ref k0), (1, .int (nI a)), (2, .int (nI n))] → ph_cpy f M1 (a + k) (t + k) = (false, M) → W p l e { frames := 11, cells := 1, slots := 6, locals := 205 } s m ([.ref k0, .int (nI a), .int (nI n)] : List Value).toArray below meth c H locs 0 0 (vx_MQ below hx_no (hx_XC D A (hm_W cB k0 k1 (M, u3.2.1, u3.2.2) th (hm_bf p0))) ([.ref k0, .int (nI a), .int (nI n)] : List Value).toArray s 1 6 A) (F0 m 69 ls []) := by
                          intro f
                          induction f with
                          | zero =>
                            intro k M1 H locs ls hk hw hl hq
                            cases hq
                          | succ f ih =>
                            intro k M1 H locs ls hk hw hl hq
                            unfold ph_cpy at hq
                            have gb := ph_b_lt M1 (a + k)
                            refine lv_lload hx hb dX2_resized_69 (lv_at hl 0 rfl) ?_
                            refine lv_lload_n hx hb dX2_resized_71 rfl (lv_at hl 2 rfl) ?_
                            refine hn_lge (a := k) (b := (ph_n u.1 b)) (tgt := 108) hx hb (by omega) (by omega) dX2_resized_72 dX2_resized_73 (by decide) (fun hd => ?_) (fun hd => ?_)
                            · exact absurd hd (by omega)
                            · refine lv_aload_n hx hb dX2_resized_76 rfl (lv_at hl 3 rfl) ?_
                              refine lv_iload hx hb dX2_resized_77 (lv_at hl 1 rfl) ?_
                              refine hx_callS (rest := [.ref k0]) (n := 1) S hw (m_without l hst D tys cB ht k0 k1 (M1, u3.2) th (hm_bf p0) t (by omega)) gX2_resized_X2_without rfl (by decide +kernel) rfl ⟨Nat.le_of_ble_eq_true rfl, Nat.le_of_ble_eq_true rfl⟩ hm_adr hl.1 rfl (Nat.le_of_ble_eq_true rfl) ⟨by decide, by decide⟩ dX2_resized_79 (fun H locs hw => ?_)
                              refine W.eq (g2 := F0 m 82 ls [.long (lN t), .ref k0]) rfl ?_
                              refine lv_lload hx hb dX2_resized_82 (lv_at hl 0 rfl) ?_
                              refine hn_ladd (v := lN (t + k)) hx hb dX2_resized_84 (lN_add _ _) ?_
                              refine lv_aload_n hx hb dX2_resized_85 rfl (lv_at hl 3 rfl) ?_
                              refine lv_iload_n hx hb dX2_resized_86 rfl (lv_at hl 4 rfl) ?_
                              refine hx_callS (rest := [.ref k0, .long (lN (t + k)), .ref k0]) (n := 1) S hw (m_without l hst D tys cB ht k0 k1 (M1, u3.2) th (hm_bf p0) a (by omega)) gX2_resized_X2_without rfl (by decide +kernel) rfl ⟨Nat.le_of_ble_eq_true rfl, Nat.le_of_ble_eq_true rfl⟩ hm_adr hl.1 rfl (Nat.le_of_ble_eq_true rfl) ⟨by decide, by decide⟩ dX2_resized_87 (fun H locs hw => ?_)
                              refine W.eq (g2 := F0 m 90 ls [.long (lN a), .ref k0, .long (lN (t + k)), .ref k0]) rfl ?_
                              refine lv_lload hx hb dX2_resized_90 (lv_at hl 0 rfl) ?_
                              refine hn_ladd (v := lN (a + k)) hx hb dX2_resized_92 (lN_add _ _) ?_
                              by_cases hin : ph_in (a + k)
                              · rw [if_pos hin] at hq
                                refine hx_callV (rest := [.long (lN (t + k)), .ref k0]) (n := 1) S hw (m_read l hst D tys cB ht k0 k1 (M1, u3.2) th (hm_bf p0) (a + k) hin) gX2_resized_X2_read rfl (by decide +kernel) rfl ⟨Nat.le_of_ble_eq_true rfl, Nat.le_of_ble_eq_true rfl⟩ 0 2 rfl rfl hm_adr hl.1 rfl (Nat.le_of_ble_eq_true rfl) ⟨by decide, by decide⟩ dX2_resized_93 (fun H locs hw => ?_)
                                refine W.eq (g2 := F0 m 96 ls [.int (nI (ph_b M1 (a + k))), .long (lN (t + k)), .ref k0]) rfl ?_
                                by_cases hin2 : ph_in (t + k)
                                · rw [if_pos hin2] at hq
                                  refine hx_callV (rest := []) (n := 2) S hw (m_writeN l hst D tys cB ht k0 k1 (M1, u3.2) th (hm_bf p0) (t + k) (ph_b M1 (a + k)) (by omega) hin2) gX2_resized_X2_write rfl (by decide +kernel) rfl ⟨Nat.le_of_ble_eq_true rfl, Nat.le_of_ble_eq_true rfl⟩ 0 2 rfl rfl hm_adr hl.1 rfl (Nat.le_of_ble_eq_true rfl) ⟨by decide, by decide⟩ dX2_resized_96 (fun H locs hw => ?_)
                                  refine W.eq (g2 := F0 m 99 ls []) rfl ?_
                                  refine lv_lload hx hb dX2_resized_99 (lv_at hl 0 rfl) ?_
                                  refine lv_lconst (v := lN 1) hx hb dX2_resized_101 (by decide +kernel) ?_
                                  refine hn_ladd (v := lN (k + 1)) hx hb dX2_resized_102 (lN_add _ _) ?_
                                  refine lv_lstore (lv' := [(6, .long (lN (k + 1))), (5, .int (nI t)), (3, .long (lN (ph_n u.1 b))), (0, .ref k0), (1, .int (nI a)), (2, .int (nI n))]) hx hb dX2_resized_103 hl (by decide) rfl (fun ls hl => ?_)
                                  refine lv_goto (tgt := 69) hx hb dX2_resized_105 (by decide) ?_
                                  exact ih (k + 1) _ _ _ _ (by omega) hw (lv_sub hl [0, 1, 2, 3, 4, 5] rfl) hq
                                · rw [if_neg hin2] at hq
                                  have hq : M1 = M := congrArg (fun z => z.2) hq
                                  subst hq
                                  exact hx_thr (rest := []) (n := 2) S hno hw (mx_write l hst D tys cB ht k0 k1 (M1, u3.2) th (hm_bf p0) (t + k) (nI (ph_b M1 (a + k))) (by omega) hin2) gX2_resized_X2_write rfl (by decide +kernel) rfl ⟨Nat.le_of_ble_eq_true rfl, Nat.le_of_ble_eq_true rfl⟩ 0 2 rfl rfl hm_adr hl.1 rfl (Nat.le_of_ble_eq_true rfl) ⟨by decide, by decide⟩ dX2_resized_96
                              · rw [if_neg hin] at hq
                                have hq : M1 = M := congrArg (fun z => z.2) hq
                                subst hq
                                exact hx_thr (rest := [.long (lN (t + k)), .ref k0]) (n := 1) S hno hw (mx_read l hst D tys cB ht k0 k1 (M1, u3.2) th (hm_bf p0) (a + k) (by omega) hin) gX2_resized_X2_read rfl (by decide +kernel) rfl ⟨Nat.le_of_ble_eq_true rfl, Nat.le_of_ble_eq_true rfl⟩ 0 2 rfl rfl hm_adr hl.1 rfl (Nat.le_of_ble_eq_true rfl) ⟨by decide, by decide⟩ dX2_resized_93
                        exact loop (ph_n u.1 b) 0 _ _ _ _ (by omega) hw (lv_sub hl [0, 1, 2, 3, 4, 5] rfl) hc9
                      · exact absurd hc4 k9
                    · exact absurd hc3 (by omega)
                  · exact absurd hc2 kn
                · exact absurd hc ka
              · rw [hc9] at h
                dsimp only at h
                rw [if_pos rfl] at h
                rcases hg : ph_give (M, u3.2.1, u3.2.2) a with ⟨_ | _, u4⟩
                · rw [hg] at h
                  dsimp only at h
                  rw [if_neg Bool.false_ne_true] at h
                  cases h
                  obtain ⟨bf3, hM⟩ := mx_give l hst D tys cB ht k0 k1 (M, u3.2) th (hm_bf p0) a u2 hu3 ha ka hg
                  refine ⟨bf3, ?_⟩
                  refine hx_X.ofW (cc := cX2_resized) (maxL := 8) (ret := (some .int)) (by decide) rfl (Nat.le_of_ble_eq_true rfl) ?_
                  intro p e s m below meth c A ls hr S hno hw hl
                  have S : hx_S p l s m _ meth c cX2_resized 8 wsX2_resized RX2 A D tys := S
                  obtain ⟨⟨hx, hb, hml, hown, hts⟩, hK, hA, hE, hlk⟩ := id S
                  have hl : lv_has ls 8 [(0, .ref k0), (1, .int (nI a)), (2, .int (nI n))] := hl
                  refine lv_iload_n hx hb dX2_resized_0 rfl (lv_at hl 1 rfl) ?_
                  refine hn_zne (n := a) (tgt := 13) hx hb (by omega) dX2_resized_1 (by decide) (fun hc => ?_) (fun hc => ?_)
                  · refine lv_iload_n hx hb dX2_resized_13 rfl (lv_at hl 2 rfl) ?_
                    refine hn_zne (n := n) (tgt := 25) hx hb (by omega) dX2_resized_14 (by decide) (fun hc2 => ?_) (fun hc2 => ?_)
                    · refine lv_aload_n hx hb dX2_resized_25 rfl (lv_at hl 0 rfl) ?_
                      refine lv_aload_n hx hb dX2_resized_26 rfl (lv_at hl 0 rfl) ?_
                      refine lv_iload_n hx hb dX2_resized_27 rfl (lv_at hl 1 rfl) ?_
                      refine hx_callV (rest := [.ref k0]) (n := 1) S hw (m_found l hst D tys cB ht k0 k1 u th bf a b p0 hu ha hf) gX2_resized_X2_found rfl (by decide +kernel) rfl ⟨Nat.le_of_ble_eq_true rfl, Nat.le_of_ble_eq_true rfl⟩ 0 2 rfl rfl hm_adr hl.1 rfl (Nat.le_of_ble_eq_true rfl) ⟨by decide, by decide⟩ dX2_resized_28 (fun H locs hw => ?_)
                      refine W.eq (g2 := F0 m 31 ls [.long (lN b), .ref k0]) rfl ?_
                      refine hx_callV (rest := []) (n := 1) S hw (m_sizeAt l hst D tys cB ht k0 k1 u th (hm_bf p0) b ⟨by omega, by omega⟩) gX2_resized_X2_sizeAt rfl (by decide +kernel) rfl ⟨Nat.le_of_ble_eq_true rfl, Nat.le_of_ble_eq_true rfl⟩ 0 2 rfl rfl hm_adr hl.1 rfl (Nat.le_of_ble_eq_true rfl) ⟨by decide, by decide⟩ dX2_resized_31 (fun H locs hw => ?_)
                      refine W.eq (g2 := F0 m 34 ls [.long (lN (ph_n u.1 b))]) rfl ?_
                      refine lv_lstore_n (lv' := [(3, .long (lN (ph_n u.1 b))), (0, .ref k0), (1, .int (nI a)), (2, .int (nI n))]) hx hb dX2_resized_34 rfl hl (by decide) rfl (fun ls hl => ?_)
                      refine lv_lload_n hx hb dX2_resized_35 rfl (lv_at hl 0 rfl) ?_
                      refine lv_iload_n hx hb dX2_resized_36 rfl (lv_at hl 3 rfl) ?_
                      refine hx_callS (rest := [.long (lN (ph_n u.1 b))]) (n := 1) S hw (m_without l hst D tys cB ht k0 k1 u th (hm_bf p0) n (by omega)) gX2_resized_X2_without rfl (by decide +kernel) rfl ⟨Nat.le_of_ble_eq_true rfl, Nat.le_of_ble_eq_true rfl⟩ hm_adr hl.1 rfl (Nat.le_of_ble_eq_true rfl) ⟨by decide, by decide⟩ dX2_resized_37 (fun H locs hw => ?_)
                      refine W.eq (g2 := F0 m 40 ls [.long (lN n), .long (lN (ph_n u.1 b))]) rfl ?_
                      refine hx_callS (rest := [.long (lN (ph_n u.1 b))]) (n := 1) S hw (m_up l hst D tys cB ht k0 k1 u th (hm_bf p0) n (by omega)) gX2_resized_X2_up rfl (by decide +kernel) rfl ⟨Nat.le_of_ble_eq_true rfl, Nat.le_of_ble_eq_true rfl⟩ hm_adr hl.1 rfl (Nat.le_of_ble_eq_true rfl) ⟨by decide, by decide⟩ dX2_resized_40 (fun H locs hw => ?_)
                      refine W.eq (g2 := F0 m 43 ls [.long (lN (ph_up n)), .long (lN (ph_n u.1 b))]) rfl ?_
                      refine hn_llt (a := (ph_n u.1 b)) (b := (ph_up n)) (tgt := 49) hx hb (by omega) (by omega) dX2_resized_43 dX2_resized_44 (by decide) (fun hc3 => ?_) (fun hc3 => ?_)
                      · refine lv_aload_n hx hb dX2_resized_49 rfl (lv_at hl 1 rfl) ?_
                        refine lv_iload_n hx hb dX2_resized_50 rfl (lv_at hl 3 rfl) ?_
                        refine hx_callS (rest := [.ref k0]) (n := 1) S hw (m_without l hst D tys cB ht k0 k1 u th (hm_bf p0) n (by omega)) gX2_resized_X2_without rfl (by decide +kernel) rfl ⟨Nat.le_of_ble_eq_true rfl, Nat.le_of_ble_eq_true rfl⟩ hm_adr hl.1 rfl (Nat.le_of_ble_eq_true rfl) ⟨by decide, by decide⟩ dX2_resized_51 (fun H locs hw => ?_)
                        refine W.eq (g2 := F0 m 54 ls [.long (lN n), .ref k0]) rfl ?_
                        refine hx_callV (rest := []) (n := 1) S hw (m_take l hst D tys cB ht k0 k1 u th (hm_bf p0) n t u3 hu hn ht2) gX2_resized_X2_take rfl (by decide +kernel) rfl ⟨Nat.le_of_ble_eq_true rfl, Nat.le_of_ble_eq_true rfl⟩ 0 2 rfl rfl hm_adr hl.1 rfl (Nat.le_of_ble_eq_true rfl) ⟨by decide, by decide⟩ dX2_resized_54 (fun H locs hw => ?_)
                        refine W.eq (g2 := F0 m 57 ls [.int (nI t)]) rfl ?_
                        refine lv_istore (lv' := [(5, .int (nI t)), (3, .long (lN (ph_n u.1 b))), (0, .ref k0), (1, .int (nI a)), (2, .int (nI n))]) hx hb dX2_resized_57 hl (by decide) rfl (fun ls hl => ?_)
                        refine lv_iload hx hb dX2_resized_59 (lv_at hl 0 rfl) ?_
                        refine hn_zne (n := t) (tgt := 66) hx hb (by omega) dX2_resized_61 (by decide) (fun hc4 => ?_) (fun hc4 => ?_)
                        · refine lv_lconst (v := lN 0) hx hb dX2_resized_66 (by decide +kernel) ?_
                          refine lv_lstore (lv' := [(6, .long (lN 0)), (5, .int (nI t)), (3, .long (lN (ph_n u.1 b))), (0, .ref k0), (1, .int (nI a)), (2, .int (nI n))]) hx hb dX2_resized_67 hl (by decide) rfl (fun ls hl => ?_)
                          have loop : ∀ (f k : Nat) (M1 : ph_M) (H : Heap) (locs : List Loc) (ls : Array Slot), k + f = ph_n u.1 b → hx_w D A s.heap (hm_W cB k0 k1 (M1, u3.2) th (hm_bf p0)) H locs → lv_has ls 8 [(6, .long (lN k)), (5, .int (nI t)), (3, .long (lN (ph_n u.1 b))), (0, .ref k0), (1, .int (nI a)), (2, .int (nI n))] → ph_cpy f M1 (a + k) (t + k) = (true, M) → (∀ (H : Heap) (locs : List Loc) (ls : Array Slot), hx_w D A s.heap (hm_W cB k0 k1 (M, u3.2) th (hm_bf p0)) H locs → lv_has ls 8 [(5, .int (nI t)), (3, .long (lN (ph_n u.1 b))), (0, .ref k0), (1, .int (nI a)), (2, .int (nI n))] → W p l e { frames := 11, cells := 1, slots := 6, locals := 205 } s m ([.ref k0, .int (nI a), .int (nI n)] : List Value).toArray below meth c H locs 0 0 (vx_MQ below hx_no (hx_XC D A (hm_W cB k0 k1 u2 th bf3)) ([.ref k0, .int (nI a), .int (nI n)] : List Value).toArray s 1 6 A) (F0 m 108 ls [])) → W p l e { frames := 11, cells := 1, slots := 6, locals := 205 } s m ([.ref k0, .int (nI a), .int (nI n)] : List Value).toArray below meth c H locs 0 0 (vx_MQ below hx_no (hx_XC D A (hm_W cB k0 k1 u2 th bf3)) ([.ref k0, .int (nI a), .int (nI n)] : List Value).toArray s 1 6 A) (F0 m 69 ls []) := by
                            intro f
                            induction f with
                            | zero =>
                              intro k M1 H locs ls hk hw hl hq kk
                              have hq : M1 = M := congrArg (fun z => z.2) hq
                              subst hq
                              refine lv_lload hx hb dX2_resized_69 (lv_at hl 0 rfl) ?_
                              refine lv_lload_n hx hb dX2_resized_71 rfl (lv_at hl 2 rfl) ?_
                              refine hn_lge (a := k) (b := (ph_n u.1 b)) (tgt := 108) hx hb (by omega) (by omega) dX2_resized_72 dX2_resized_73 (by decide) (fun hd => ?_) (fun hd => ?_)
                              · exact kk _ _ _ hw (lv_sub hl [1, 2, 3, 4, 5] rfl)
                              · exact absurd hd (by omega)
                            | succ f ih =>
                              intro k M1 H locs ls hk hw hl hq kk
                              unfold ph_cpy at hq
                              have gb := ph_b_lt M1 (a + k)
                              refine lv_lload hx hb dX2_resized_69 (lv_at hl 0 rfl) ?_
                              refine lv_lload_n hx hb dX2_resized_71 rfl (lv_at hl 2 rfl) ?_
                              refine hn_lge (a := k) (b := (ph_n u.1 b)) (tgt := 108) hx hb (by omega) (by omega) dX2_resized_72 dX2_resized_73 (by decide) (fun hd => ?_) (fun hd => ?_)
                              · exact absurd hd (by omega)
                              · refine lv_aload_n hx hb dX2_resized_76 rfl (lv_at hl 3 rfl) ?_
                                refine lv_iload hx hb dX2_resized_77 (lv_at hl 1 rfl) ?_
                                refine hx_callS (rest := [.ref k0]) (n := 1) S hw (m_without l hst D tys cB ht k0 k1 (M1, u3.2) th (hm_bf p0) t (by omega)) gX2_resized_X2_without rfl (by decide +kernel) rfl ⟨Nat.le_of_ble_eq_true rfl, Nat.le_of_ble_eq_true rfl⟩ hm_adr hl.1 rfl (Nat.le_of_ble_eq_true rfl) ⟨by decide, by decide⟩ dX2_resized_79 (fun H locs hw => ?_)
                                refine W.eq (g2 := F0 m 82 ls [.long (lN t), .ref k0]) rfl ?_
                                refine lv_lload hx hb dX2_resized_82 (lv_at hl 0 rfl) ?_
                                refine hn_ladd (v := lN (t + k)) hx hb dX2_resized_84 (lN_add _ _) ?_
                                refine lv_aload_n hx hb dX2_resized_85 rfl (lv_at hl 3 rfl) ?_
                                refine lv_iload_n hx hb dX2_resized_86 rfl (lv_at hl 4 rfl) ?_
                                refine hx_callS (rest := [.ref k0, .long (lN (t + k)), .ref k0]) (n := 1) S hw (m_without l hst D tys cB ht k0 k1 (M1, u3.2) th (hm_bf p0) a (by omega)) gX2_resized_X2_without rfl (by decide +kernel) rfl ⟨Nat.le_of_ble_eq_true rfl, Nat.le_of_ble_eq_true rfl⟩ hm_adr hl.1 rfl (Nat.le_of_ble_eq_true rfl) ⟨by decide, by decide⟩ dX2_resized_87 (fun H locs hw => ?_)
                                refine W.eq (g2 := F0 m 90 ls [.long (lN a), .ref k0, .long (lN (t + k)), .ref k0]) rfl ?_
                                refine lv_lload hx hb dX2_resized_90 (lv_at hl 0 rfl) ?_
                                refine hn_ladd (v := lN (a + k)) hx hb dX2_resized_92 (lN_add _ _) ?_
                                by_cases hin : ph_in (a + k)
                                · rw [if_pos hin] at hq
                                  refine hx_callV (rest := [.long (lN (t + k)), .ref k0]) (n := 1) S hw (m_read l hst D tys cB ht k0 k1 (M1, u3.2) th (hm_bf p0) (a + k) hin) gX2_resized_X2_read rfl (by decide +kernel) rfl ⟨Nat.le_of_ble_eq_true rfl, Nat.le_of_ble_eq_true rfl⟩ 0 2 rfl rfl hm_adr hl.1 rfl (Nat.le_of_ble_eq_true rfl) ⟨by decide, by decide⟩ dX2_resized_93 (fun H locs hw => ?_)
                                  refine W.eq (g2 := F0 m 96 ls [.int (nI (ph_b M1 (a + k))), .long (lN (t + k)), .ref k0]) rfl ?_
                                  by_cases hin2 : ph_in (t + k)
                                  · rw [if_pos hin2] at hq
                                    refine hx_callV (rest := []) (n := 2) S hw (m_writeN l hst D tys cB ht k0 k1 (M1, u3.2) th (hm_bf p0) (t + k) (ph_b M1 (a + k)) (by omega) hin2) gX2_resized_X2_write rfl (by decide +kernel) rfl ⟨Nat.le_of_ble_eq_true rfl, Nat.le_of_ble_eq_true rfl⟩ 0 2 rfl rfl hm_adr hl.1 rfl (Nat.le_of_ble_eq_true rfl) ⟨by decide, by decide⟩ dX2_resized_96 (fun H locs hw => ?_)
                                    refine W.eq (g2 := F0 m 99 ls []) rfl ?_
                                    refine lv_lload hx hb dX2_resized_99 (lv_at hl 0 rfl) ?_
                                    refine lv_lconst (v := lN 1) hx hb dX2_resized_101 (by decide +kernel) ?_
                                    refine hn_ladd (v := lN (k + 1)) hx hb dX2_resized_102 (lN_add _ _) ?_
                                    refine lv_lstore (lv' := [(6, .long (lN (k + 1))), (5, .int (nI t)), (3, .long (lN (ph_n u.1 b))), (0, .ref k0), (1, .int (nI a)), (2, .int (nI n))]) hx hb dX2_resized_103 hl (by decide) rfl (fun ls hl => ?_)
                                    refine lv_goto (tgt := 69) hx hb dX2_resized_105 (by decide) ?_
                                    exact ih (k + 1) _ _ _ _ (by omega) hw (lv_sub hl [0, 1, 2, 3, 4, 5] rfl) hq kk
                                  · rw [if_neg hin2] at hq
                                    exact absurd (congrArg (fun z => z.1) hq) Bool.false_ne_true
                                · rw [if_neg hin] at hq
                                  exact absurd (congrArg (fun z => z.1) hq) Bool.false_ne_true
                          refine loop (ph_n u.1 b) 0 _ _ _ _ (by omega) hw (lv_sub hl [0, 1, 2, 3, 4, 5] rfl) hc9 (fun H locs ls hw hl => ?_)
                          refine lv_aload_n hx hb dX2_resized_108 rfl (lv_at hl 2 rfl) ?_
                          refine lv_iload_n hx hb dX2_resized_109 rfl (lv_at hl 3 rfl) ?_
                          exact hx_thr (rest := []) (n := 1) S hno hw (hM) gX2_resized_X2_give rfl (by decide +kernel) rfl ⟨Nat.le_of_ble_eq_true rfl, Nat.le_of_ble_eq_true rfl⟩ 0 2 rfl rfl hm_adr hl.1 rfl (Nat.le_of_ble_eq_true rfl) ⟨by decide, by decide⟩ dX2_resized_110
                        · exact absurd hc4 k9
                      · exact absurd hc3 (by omega)
                    · exact absurd hc2 kn
                  · exact absurd hc ka
                · rw [hg] at h
                  dsimp only at h
                  rw [if_pos rfl] at h
                  cases h
