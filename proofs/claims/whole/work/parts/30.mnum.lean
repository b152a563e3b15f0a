/-! the model's numbers: ints -/
/-- the model's cells: the object, its bytes -/
abbrev hm_W (cB : ClassId) (k0 k1 : Nat) (u : ph_H) (th : Int32) (bf : Int64) : va_W := [(k0, .inr (2, [.ref k1, .int (nI u.2.1), .int (nI u.2.2), .int th, .long bf])), (k1, .inl (cB, 65536, .inl (fun j => sb_b (ph_b u.1 j))))]
theorem hm_adr {cB : ClassId} {k0 k1 : Nat} {u u2 : ph_H} {th th2 : Int32} {bf bf2 : Int64} : (hm_W cB k0 k1 u2 th2 bf2).map (fun q => q.1) = (hm_W cB k0 k1 u th bf).map (fun q => q.1) := by show [k0, k1] = [k0, k1]; rfl
def hm_bf (p : Nat) : Int64 := if p = 0 then (-1) else lN p
theorem hm_i8 (x : Int32) : x.toInt8.toInt32 = sb_b (x.toBitVec.toNat % 256) := by
  have e : x.toInt8 = (nI (x.toBitVec.toNat % 256)).toInt8 := by
    apply Int8.toBitVec_inj.mp
    rw [Int32.toBitVec_toInt8, Int32.toBitVec_toInt8]
    apply BitVec.eq_of_toNat_eq
    rw [BitVec.signExtend_eq_setWidth_of_le _ (by decide), BitVec.signExtend_eq_setWidth_of_le _ (by decide), BitVec.toNat_setWidth, BitVec.toNat_setWidth, pw_nb]
    omega
  unfold sb_b
  rw [e]
theorem hm_store (m : ph_M) (a : Nat) (v : Int32) : upd (fun j => sb_b (ph_b m j)) a (vp_nar .byte v.toInt8.toInt32) = fun j => sb_b (ph_b (ph_sb m a v.toBitVec.toNat) j) := by
  funext j
  by_cases h : j = a
  · subst h
    rw [pk_us, pk_vb, hm_i8, ph_b_eq]
  · rw [pk_un h, ph_b_ne _ _ h]
theorem hm_shl {n k : Nat} (hk : k < 32) (h : n * 2 ^ k < 4294967296) : nI n <<< (nI k &&& 31) = nI (n * 2 ^ k) := by
  have hs : ∀ k, k < 32 → ((nI k &&& 31).toBitVec.smod 32).toNat = k := by decide +kernel
  exact pk_shlN _ k (hs k hk) h
theorem hm_or {a b k : Nat} (ha : a < 2 ^ k) (h : a + b * 2 ^ k < 4294967296) : nI a ||| nI (b * 2 ^ k) = nI (a + b * 2 ^ k) := by
  apply Int32.toBitVec_inj.mp
  rw [Int32.toBitVec_or]
  apply BitVec.eq_of_toNat_eq
  rw [BitVec.toNat_or, pw_nb, pw_nb, pw_nb, Nat.mod_eq_of_lt (show a < 2 ^ 32 by omega), Nat.mod_eq_of_lt (show b * 2 ^ k < 2 ^ 32 by omega), Nat.mod_eq_of_lt (show a + b * 2 ^ k < 2 ^ 32 from h), Nat.or_comm, Nat.mul_comm, ← Nat.two_pow_add_eq_or_of_lt ha]
  omega
theorem hm_shr {x : Nat} (h : x < 4294967296) (k : Nat) (hk : k = 0 ∨ k = 8 ∨ k = 16 ∨ k = 24) : (nI x >>> (nI k &&& 31)).toBitVec.toNat % 256 = x / 2 ^ k % 256 := by
  have hs : ∀ k, k < 32 → ((nI k &&& 31).toBitVec.smod 32).toNat = k := by decide +kernel
  have e := pk_shr (nI x) (nI k &&& 31) k (hs k (by omega))
  rw [hp_nt h, Int.shiftRight_eq_div_pow] at e
  have e2 := BitVec.toInt_eq_toNat_cond (nI x >>> (nI k &&& 31)).toBitVec
  have e3 : (nI x >>> (nI k &&& 31)).toInt = (nI x >>> (nI k &&& 31)).toBitVec.toInt := rfl
  rw [e3, e2] at e
  have hlt := (nI x >>> (nI k &&& 31)).toBitVec.isLt
  generalize (nI x >>> (nI k &&& 31)).toBitVec.toNat = y at e hlt ⊢
  rcases hk with rfl | rfl | rfl | rfl <;> (split at e <;> split at e <;> omega)
theorem hm_eq {n k : Nat} (hn : n < 4294967296) (hk : k < 4294967296) : nI n = nI k ↔ n = k := by
  constructor
  · intro q
    have h1 := pw_nb n
    rw [q, pw_nb] at h1
    omega
  · intro q; rw [q]
theorem hm_div {a : Nat} (ha : a < 9223372036854775808) : lN a / lN 8 = lN (a / 8) := pk_lDiv (show a < 2 ^ 63 from ha) (by decide) (by decide)
