/-! the model's numbers: ints -/
/-- the model's cells: the object, its bytes -/
abbrev hm_W (cB : ClassId) (k0 k1 : Nat) (u : ph_H) (th : Int32) (bf : Int64) : va_W := [(k0, .inr (2, [.ref k1, .int (nI u.2.1), .int (nI u.2.2), .int th, .long bf])), (k1, .inl (cB, 65536, .inl (fun j => sb_b (ph_b u.1 j))))]
theorem hm_adr {cB : ClassId} {k0 k1 : Nat} {u u2 : ph_H} {th th2 : Int32} {bf bf2 : Int64} : (hm_W cB k0 k1 u2 th2 bf2).map (fun q => q.1) = (hm_W cB k0 k1 u th bf).map (fun q => q.1) := by show [k0, k1] = [k0, k1]; rfl
def hm_bf (p : Nat) : Int64 := if p = 0 then (-1) else lN p
theorem hm_i8 (x : Int32) : x.toInt8.toInt32 = sb_b (x.toBitVec.toNat % 256) := by
  have e : x.toInt8 = (nI (x.toBitVec.toNat % 256)).toInt8 := by
    apply Int8.toBitVec_inj.mp
    rw [Int32.toBitVec_toInt8, Int32.toBitVec_toInt8]
    apply BitVec.eq_of_toNat_eq
    rw [BitVec.signExtend_eq_setWidth_of_le _ (by decide), BitVec.signExtend_eq_setWidth_of_le _ (by decide), BitVec.toNat_setWidth, BitVec.toNat_setWidth, pw_nb]
    omega
  unfold sb_b
  rw [e]
theorem hm_store (m : ph_M) (a : Nat) (v : Int32) : upd (fun j => sb_b (ph_b m j)) a (vp_nar .byte v.toInt8.toInt32) = fun j => sb_b (ph_b (ph_sb m a v.toBitVec.toNat) j) := by
  funext j
  by_cases h : j = a
  · subst h
    rw [pk_us, pk_vb, hm_i8, ph_b_eq]
  · rw [pk_un h, ph_b_ne _ _ h]
theorem hm_shl {n k : Nat} (hk : k < 32) (h : n * 2 ^ k < 4294967296) : nI n <<< (nI k &&& 31) = nI (n * 2 ^ k) := by
  have hs : ∀ k, k < 32 → ((nI k &&& 31).toBitVec.smod 32).toNat = k := by decide +kernel
  exact pk_shlN _ k (hs k hk) h
theorem hm_or {a b k : Nat} (ha : a < 2 ^ k) (h : a + b * 2 ^ k < 4294967296) : nI a ||| nI (b * 2 ^ k) = nI (a + b * 2 ^ k) := by
  apply Int32.toBitVec_inj.mp
  rw [Int32.toBitVec_or]
  apply BitVec.eq_of_toNat_eq
  rw [BitVec.toNat_or, pw_nb, pw_nb, pw_nb, Nat.mod_eq_of_lt (show a < 2 ^ 32 by omega), Nat.mod_eq_of_lt (show b * 2 ^ k < 2 ^ 32 by omega), Nat.mod_eq_of_lt (show a + b * 2 ^ k < 2 ^ 32 from h), Nat.or_comm, Nat.mul_comm, ← Nat.two_pow_add_eq_or_of_lt ha]
  omega
theorem hm_shr {x : Nat} (h : x < 4294967296) (k : Nat) (hk : k = 0 ∨ k = 8 ∨ k = 16 ∨ k = 24) : (nI x >>> (nI k &&& 31)).toBitVec.toNat % 256 = x / 2 ^ k % 256 := by
  have hs : ∀ k, k < 32 → ((nI k &&& 31).toBitVec.smod 32).toNat = k := by decide +kernel
  have e := pk_shr (nI x) (nI k &&& 31) k (hs k (by omega))
  rw [hp_nt h, Int.shiftRight_eq_div_pow] at e
  have e2 := BitVec.toInt_eq_toNat_cond (nI x >>> (nI k &&& 31)).toBitVec
  have e3 : (nI x >>> (nI k &&& 31)).toInt = (nI x >>> (nI k &&& 31)).toBitVec.toInt := rfl
  rw [e3, e2] at e
  have hlt := (nI x >>> (nI k &&& 31)).toBitVec.isLt
  generalize (nI x >>> (nI k &&& 31)).toBitVec.toNat = y at e hlt ⊢
  rcases hk with rfl | rfl | rfl | rfl <;> (split at e <;> split at e <;> omega)
theorem hm_eq {n k : Nat} (hn : n < 4294967296) (hk : k < 4294967296) : nI n = nI k ↔ n = k := by
  constructor
  · intro q
    have h1 := pw_nb n
    rw [q, pw_nb] at h1
    omega
  · intro q; rw [q]
theorem hm_div {a : Nat} (ha : a < 9223372036854775808) : lN a / lN 8 = lN (a / 8) := pk_lDiv (show a < 2 ^ 63 from ha) (by decide) (by decide)
theorem hm_mod (n : Nat) : nI n = nI (n % 4294967296) := by
  apply Int32.toBitVec_inj.mp
  apply BitVec.eq_of_toNat_eq
  rw [pw_nb, pw_nb]
  omega
theorem hp_neg2 {t x : Nat} (h : t < 4096) (hx : x < 9223372036854775808) : ¬ lN x ≤ (nI t - nI 4096).toInt64 := by
  rw [Int64.le_iff_toInt_le, Int32.toInt_toInt64, pk_sub_toInt (by omega) (by decide), hp_lt (by omega), if_pos hx]
  omega
/-- the block at b free, and joined with the next one -/
theorem hm_n1 (m : ph_M) (b : Nat) : ph_n (ph_sn m (b + 4) 0) b = ph_n m b := ph_n_off m 0 (by omega)
theorem hm_g1a {m : ph_M} {e b : Nat} (h1 : b + 8 + ph_n m b < e) (h2 : ph_n (ph_sn m (b + 4) 0) (b + 8 + ph_n m b + 4) ≠ 1) :
    ph_sn (ph_sn (ph_sn m (b + 4) 0) b ((ph_n m b + 8 + ph_n (ph_sn m (b + 4) 0) (b + 8 + ph_n m b)) % 4294967296)) (b + 4) 0 = ph_g1 m e b ∧ ph_n (ph_g1 m e b) b = (ph_n m b + 8 + ph_n (ph_sn m (b + 4) 0) (b + 8 + ph_n m b)) % 4294967296 := by
  have e1 : ph_g1 m e b = ph_sn (ph_sn (ph_sn m (b + 4) 0) b (ph_n m b + 8 + ph_n (ph_sn m (b + 4) 0) (b + 8 + ph_n m b))) (b + 4) 0 := by
    unfold ph_g1 ph_jn
    rw [hm_n1]
    exact if_pos ⟨h1, h2⟩
  rw [e1]
  refine ⟨by rw [ph_sn_mod], ?_⟩
  rw [ph_n_off _ _ (by omega), ph_n_sn]
theorem hm_g1b {m : ph_M} {e b : Nat} (h : ¬ (b + 8 + ph_n m b < e ∧ ph_n (ph_sn m (b + 4) 0) (b + 8 + ph_n m b + 4) ≠ 1)) : ph_sn m (b + 4) 0 = ph_g1 m e b ∧ ph_n (ph_g1 m e b) b = ph_n m b := by
  have e1 : ph_g1 m e b = ph_sn m (b + 4) 0 := by
    unfold ph_g1 ph_jn
    rw [hm_n1]
    exact if_neg h
  rw [e1]
  exact ⟨rfl, hm_n1 m b⟩
theorem hm_g14 (m : ph_M) (e b : Nat) : ph_n (ph_g1 m e b) (b + 4) = 0 := by
  unfold ph_g1 ph_jn
  split
  · rw [ph_n_sn]
  · rw [ph_n_sn]
theorem hm_g2a {m : ph_M} {e b p : Nat} (hp0 : p ≠ 0) (hp : p + 8 + ph_n m p = b) (hbe : b < e) (h2 : ph_n (ph_g1 m e b) (p + 4) ≠ 1) :
    ph_sn (ph_sn (ph_g1 m e b) p ((ph_n (ph_g1 m e b) p + 8 + ph_n (ph_g1 m e b) b) % 4294967296)) (p + 4) 0 = ph_g2 m e b p ∧ ph_n (ph_g2 m e b p) (ph_gj m e b p) = (ph_n (ph_g1 m e b) p + 8 + ph_n (ph_g1 m e b) b) % 4294967296 ∧ ph_gj m e b p = p := by
  have ej : ph_gj m e b p = p := if_pos ⟨hp0, h2⟩
  have en : ph_n (ph_g1 m e b) p = ph_n m p := ph_n_ext (fun j _ h4 => ph_g1_low m (by omega))
  have e2 : ph_g2 m e b p = ph_sn (ph_sn (ph_g1 m e b) p (ph_n (ph_g1 m e b) p + 8 + ph_n (ph_g1 m e b) b)) (p + 4) 0 := by
    have e3 : ph_g2 m e b p = ph_jn (ph_g1 m e b) e p := if_pos ⟨hp0, h2⟩
    rw [e3]
    unfold ph_jn
    rw [en, hp]
    exact if_pos ⟨hbe, by rw [hm_g14]; decide⟩
  rw [ej, e2]
  refine ⟨by rw [ph_sn_mod], ?_, rfl⟩
  rw [ph_n_off _ _ (by omega), ph_n_sn]
theorem hm_g2b {m : ph_M} {e b p : Nat} (h : ¬ (p ≠ 0 ∧ ph_n (ph_g1 m e b) (p + 4) ≠ 1)) : ph_g1 m e b = ph_g2 m e b p ∧ ph_gj m e b p = b := ⟨(if_neg h).symm, if_neg h⟩
