/-! numbers without sign -/
theorem hp_nt {n : Nat} (h : n < 4294967296) : (nI n).toInt = if n < 2147483648 then (n : Int) else (n : Int) - 4294967296 := by
  have c := BitVec.toInt_eq_toNat_cond (nI n).toBitVec
  rw [pw_nb, Nat.mod_eq_of_lt (show n < 2 ^ 32 from h)] at c
  show (nI n).toBitVec.toInt = _
  rw [c]
  split <;> split <;> omega
theorem hp_lt {m : Nat} (h : m < 18446744073709551616) : (lN m).toInt = if m < 9223372036854775808 then (m : Int) else (m : Int) - 18446744073709551616 := by
  have c := BitVec.toInt_eq_toNat_cond (lN m).toBitVec
  rw [wb_tn (show m < 2 ^ 64 from h)] at c
  show (lN m).toBitVec.toInt = _
  rw [c]
  split <;> split <;> omega
theorem hp_sx {n : Nat} (h : n < 4294967296) : (nI n).toInt64 = if n < 2147483648 then lN n else lN (n + 18446744069414584320) := by
  apply Int64.toInt_inj.mp
  rw [Int32.toInt_toInt64, hp_nt h]
  by_cases h1 : n < 2147483648
  · rw [if_pos h1, if_pos h1, hp_lt (by omega), if_pos (by omega)]
  · rw [if_neg h1, if_neg h1, hp_lt (by omega), if_neg (by omega)]
    omega
theorem hp_uns {n : Nat} (h : n < 4294967296) : (nI n).toInt64 &&& lN 4294967295 = lN n := by
  rw [hp_sx h]
  have e : (4294967295 : Nat) = 2 ^ 32 - 1 := rfl
  by_cases h1 : n < 2147483648
  · rw [if_pos h1, e, wb_mask (by omega) (by decide), Nat.mod_eq_of_lt (by omega)]
  · rw [if_neg h1, e, wb_mask (by omega) (by decide), show (n + 18446744069414584320) % 2 ^ 32 = n from by omega]
/-- the low byte of a number put -/
theorem hp_low {n : Nat} (h : n < 4294967296) : (nI n).toInt64.toBitVec.toNat % 256 = n % 256 := by
  rw [hp_sx h]
  by_cases h1 : n < 2147483648
  · rw [if_pos h1, wb_tn (by omega)]
  · rw [if_neg h1, wb_tn (by omega)]
    omega
theorem hp_and8 {m : Nat} (h : m < 9223372036854775808) : lN m &&& (-8) = lN (m / 8 * 8) := by
  rw [show (-8 : Int64) = lN (2 ^ 3 * (2 ^ 61 - 1)) from by decide +kernel, wb_and (show m < 2 ^ 64 by omega) (by decide)]
  congr 1
  apply Nat.eq_of_testBit_eq
  intro i
  rw [Nat.testBit_and, Nat.testBit_two_pow_mul, Nat.testBit_two_pow_sub_one, show m / 8 * 8 = 2 ^ 3 * (m / 2 ^ 3) from by omega, Nat.testBit_two_pow_mul, Nat.testBit_div_two_pow]
  by_cases h3 : 3 ≤ i
  · have e1 : i - 3 + 3 = i := by omega
    have e2 : 3 + (i - 3) = i := by omega
    by_cases h64 : i - 3 < 61
    · simp [h3, h64, e1, e2]
    · have h5 : m.testBit i = false := Nat.testBit_lt_two_pow (Nat.lt_of_lt_of_le (show m < 2 ^ 63 from h) (Nat.pow_le_pow_right (by decide) (by omega)))
      simp [h3, h64, h5, e1, e2]
  · simp [h3]
theorem hp_max {m : Nat} (h : m < 9223372036854775808) : (if lN m < lN 8 then lN 8 else lN m) = lN (if m < 8 then 8 else m) := by
  by_cases h1 : m < 8
  · rw [if_pos h1, if_pos ((pk_lLT (show m < 2 ^ 63 from h) (by decide)).mpr h1)]
  · rw [if_neg h1, if_neg (fun z => h1 ((pk_lLT (show m < 2 ^ 63 from h) (by decide)).mp z))]
theorem hp_up (n : Nat) : (if (n + 7) / 8 * 8 < 8 then 8 else (n + 7) / 8 * 8) = ph_up n := by
  unfold ph_up
  split <;> split <;> omega
/-- the byte that is stored: its number mod 256 -/
theorem hp_sb (m : ph_M) (a v v' : Nat) (h : v % 256 = v' % 256) : ph_sb m a v = ph_sb m a v' := by
  funext j
  unfold ph_sb
  by_cases hj : j = a
  · rw [if_pos hj, if_pos hj]
    apply BitVec.eq_of_toNat_eq
    rw [BitVec.toNat_ofNat, BitVec.toNat_ofNat]
    exact h
  · rw [if_neg hj, if_neg hj]
theorem ph_wh_t {m : ph_M} {a v k : Nat} (h : (ph_wh m a v k).1 = true) : ph_i4 a ∧ ph_i4 (a + 4) ∧ (ph_wh m a v k).2 = ph_sn (ph_sn m a v) (a + 4) k := by
  unfold ph_wh at h ⊢
  by_cases h1 : ph_i4 a
  · rw [if_pos h1] at h ⊢
    by_cases h2 : ph_i4 (a + 4)
    · rw [if_pos h2]; exact ⟨h1, h2, rfl⟩
    · rw [if_neg h2] at h; cases h
  · rw [if_neg h1] at h; cases h
theorem ph_wh_f {m : ph_M} {a v k : Nat} (h : ¬ (ph_wh m a v k).1 = true) : (¬ ph_i4 a ∧ (ph_wh m a v k).2 = m) ∨ (ph_i4 a ∧ ¬ ph_i4 (a + 4) ∧ (ph_wh m a v k).2 = ph_sn m a v) := by
  unfold ph_wh at h ⊢
  by_cases h1 : ph_i4 a
  · rw [if_pos h1] at h ⊢
    by_cases h2 : ph_i4 (a + 4)
    · rw [if_pos h2] at h; exact absurd rfl h
    · rw [if_neg h2]; exact Or.inr ⟨h1, h2, rfl⟩
  · rw [if_neg h1]; exact Or.inl ⟨h1, rfl⟩
theorem ph_wh_of {m : ph_M} {a v k : Nat} (h1 : ph_i4 a) (h2 : ph_i4 (a + 4)) : ph_wh m a v k = (true, ph_sn (ph_sn m a v) (a + 4) k) := by
  unfold ph_wh
  rw [if_pos h1, if_pos h2]
theorem hp_neg {t x : Nat} (h : t < 4096) (hx : x < 9223372036854775808) : ¬ lN x ≤ lN t - lN 4096 := by
  have e : lN t - lN 4096 = lN (t + 18446744073709547520) := by
    have e1 : lN t = lN (t + 18446744073709547520) + lN 4096 := by
      rw [lN_add, wb_mod (t + 18446744073709547520 + 4096), show (t + 18446744073709547520 + 4096) % 2 ^ 64 = t from by omega]
    rw [e1, Int64.add_sub_cancel]
  rw [e, Int64.le_iff_toInt_le, hp_lt (by omega), hp_lt (by omega), if_pos hx, if_neg (by omega)]
  omega
theorem hp_big {q : Nat} (h1 : 9223372036854775808 ≤ q) (h2 : q < 18446744073709551616) : lg_cmp (lN q) (lN 0) < 0 := by
  rw [lg_cmp_lt, Int64.lt_iff_toInt_lt, hp_lt h2, hp_lt (by decide), if_neg (by omega), if_pos (by decide)]
  omega
theorem hp_ineg {t : Nat} (h1 : 2147483648 ≤ t) (h2 : t < 4294967296) : nI t < nI 1024 := by
  rw [Int32.lt_iff_toInt_lt, hp_nt h2, hp_nt (by decide), if_neg (by omega), if_pos (by decide)]
  omega
def ph_stk (u : ph_H) (t : Nat) : Bool × ph_H := if t < 1024 ∨ 65536 < t ∨ t < u.2.1 then (false, u) else (true, (u.1, u.2.1, t))
