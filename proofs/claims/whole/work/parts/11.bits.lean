/-! ===== lN n to 2^64: shifts, and, or, masks, one bit ===== -/
theorem wb_tb (n : Nat) : (lN n).toBitVec = BitVec.ofNat 64 n := rfl
theorem wb_inj {a b : Int64} (h : a.toBitVec = b.toBitVec) : a = b := Int64.toBitVec_inj.mp h
theorem wb_tn {n : Nat} (h : n < 2 ^ 64) : (lN n).toBitVec.toNat = n := by rw [wb_tb, BitVec.toNat_ofNat, Nat.mod_eq_of_lt h]
theorem wb_of (x : Int64) : ∃ n, n < 2 ^ 64 ∧ x = lN n := ⟨x.toBitVec.toNat, x.toBitVec.isLt, wb_inj (by rw [wb_tb]; simp)⟩
theorem wb_of32 (x : Int32) : ∃ n, n < 2 ^ 32 ∧ x = nI n := ⟨x.toBitVec.toNat, x.toBitVec.isLt, Int32.toBitVec_inj.mp (by show _ = BitVec.ofNat 32 _; simp)⟩
theorem wb_c : ∀ k, k < 64 → ((nI k).toInt64 &&& 63) = lN k := by decide +kernel
theorem wb_cu : ∀ k, k < 64 → ((nI k).toInt64.toUInt64 &&& Int64.toUInt64 63) = UInt64.ofNat k := by decide +kernel
theorem wb_sm : ∀ k, k < 64 → (BitVec.ofNat 64 k).smod 64 = BitVec.ofNat 64 k := by decide +kernel
theorem wb_pw {a b : Nat} (h : a ≤ b) : 2 ^ b = 2 ^ a * 2 ^ (b - a) := by rw [← Nat.pow_add]; congr 1; omega
theorem wb_lt2 {a b : Nat} (h : a < b) : 2 ^ a < 2 ^ b := Nat.pow_lt_pow_right (by decide) h
theorem wb_mod (n : Nat) : lN n = lN (n % 2 ^ 64) := wb_inj (by rw [wb_tb, wb_tb]; apply BitVec.eq_of_toNat_eq; rw [BitVec.toNat_ofNat, BitVec.toNat_ofNat, Nat.mod_mod])
theorem wb_shr {n k : Nat} (hn : n < 2 ^ 64) (hk : k < 64) : ((lN n).toUInt64 >>> ((nI k).toInt64.toUInt64 &&& Int64.toUInt64 63)).toInt64 = lN (n / 2 ^ k) := by
  rw [wb_cu k hk]
  apply wb_inj
  apply BitVec.eq_of_toNat_eq
  show ((lN n).toUInt64 >>> UInt64.ofNat k).toNat = (BitVec.ofNat 64 _).toNat
  have h1 : (UInt64.ofNat k).toNat = k := by
    show (BitVec.ofNat 64 k).toNat = k
    rw [BitVec.toNat_ofNat, Nat.mod_eq_of_lt (by omega)]
  have h2 : (lN n).toUInt64.toNat = n := wb_tn hn
  rw [UInt64.toNat_shiftRight, h1, h2, Nat.mod_eq_of_lt hk, Nat.shiftRight_eq_div_pow, BitVec.toNat_ofNat, Nat.mod_eq_of_lt (Nat.lt_of_le_of_lt (Nat.div_le_self _ _) hn)]
theorem wb_shl (n : Nat) {k : Nat} (hk : k < 64) : lN n <<< ((nI k).toInt64 &&& 63) = lN (n * 2 ^ k) := by
  rw [wb_c k hk]
  apply wb_inj
  rw [Int64.toBitVec_shiftLeft, wb_tb, wb_tb, wb_tb, wb_sm k hk]
  apply BitVec.eq_of_toNat_eq
  rw [BitVec.shiftLeft_eq', BitVec.toNat_shiftLeft, BitVec.toNat_ofNat, BitVec.toNat_ofNat, BitVec.toNat_ofNat, Nat.mod_eq_of_lt (show k < 2 ^ 64 by omega), Nat.shiftLeft_eq, Nat.mul_mod, Nat.mod_mod, ← Nat.mul_mod]
theorem wb_and {a b : Nat} (ha : a < 2 ^ 64) (hb : b < 2 ^ 64) : lN a &&& lN b = lN (a &&& b) := by
  apply wb_inj
  rw [Int64.toBitVec_and, wb_tb, wb_tb, wb_tb]
  apply BitVec.eq_of_toNat_eq
  rw [BitVec.toNat_and, BitVec.toNat_ofNat, BitVec.toNat_ofNat, BitVec.toNat_ofNat, Nat.mod_eq_of_lt ha, Nat.mod_eq_of_lt hb, Nat.mod_eq_of_lt (Nat.and_lt_two_pow _ hb)]
theorem wb_or {a b : Nat} (ha : a < 2 ^ 64) (hb : b < 2 ^ 64) : lN a ||| lN b = lN (a ||| b) := by
  apply wb_inj
  rw [Int64.toBitVec_or, wb_tb, wb_tb, wb_tb]
  apply BitVec.eq_of_toNat_eq
  rw [BitVec.toNat_or, BitVec.toNat_ofNat, BitVec.toNat_ofNat, BitVec.toNat_ofNat, Nat.mod_eq_of_lt ha, Nat.mod_eq_of_lt hb, Nat.mod_eq_of_lt (Nat.or_lt_two_pow ha hb)]
theorem wb_mask {n k : Nat} (hn : n < 2 ^ 64) (hk : k < 64) : lN n &&& lN (2 ^ k - 1) = lN (n % 2 ^ k) := by
  rw [wb_and hn (by have := wb_lt2 hk; omega), Nat.and_two_pow_sub_one_eq_mod]
theorem wb_a1 {n : Nat} (hn : n < 2 ^ 64) : lN n &&& 1 = lN (n % 2) := wb_mask (k := 1) hn (by decide)
theorem wb_bit {n k : Nat} (hn : n < 2 ^ 64) (hk : k < 64) : ((lN n).toUInt64 >>> ((nI k).toInt64.toUInt64 &&& Int64.toUInt64 63)).toInt64 &&& 1 = lN (n / 2 ^ k % 2) := by
  rw [wb_shr hn hk, wb_a1 (Nat.lt_of_le_of_lt (Nat.div_le_self _ _) hn)]
theorem wb_xor {q k : Nat} (hk : k < 63) (h : 2 ^ k ≤ q) (h2 : q < 2 ^ (k + 1)) : lN q ^^^ lN (2 ^ k) = lN (q - 2 ^ k) := by
  obtain ⟨r, rfl⟩ : ∃ r, q = 2 ^ k + r := ⟨q - 2 ^ k, by omega⟩
  have hr : r < 2 ^ k := by rw [Nat.pow_succ] at h2; omega
  have hx : (2 ^ k + r) ^^^ 2 ^ k = r := by
    apply Nat.eq_of_testBit_eq
    intro i
    rw [Nat.testBit_xor, Nat.testBit_two_pow]
    rcases Nat.lt_trichotomy i k with h | h | h
    · rw [Nat.testBit_two_pow_add_gt h]
      simp [show ¬ k = i by omega]
    · subst h
      rw [Nat.testBit_two_pow_add_eq]
      simp
    · have a1 : 2 ^ (k + 1) ≤ 2 ^ i := Nat.pow_le_pow_right (by decide) h
      rw [Nat.testBit_lt_two_pow (show 2 ^ k + r < 2 ^ i by omega), Nat.testBit_lt_two_pow (show r < 2 ^ i by omega)]
      simp [show ¬ k = i by omega]
  have b1 := wb_lt2 (show k + 1 < 64 by omega)
  have b2 := wb_lt2 (show k < 64 by omega)
  apply wb_inj
  rw [Int64.toBitVec_xor, wb_tb, wb_tb, wb_tb]
  apply BitVec.eq_of_toNat_eq
  rw [BitVec.toNat_xor, BitVec.toNat_ofNat, BitVec.toNat_ofNat, BitVec.toNat_ofNat, Nat.mod_eq_of_lt (by omega : 2 ^ k + r < 2 ^ 64), Nat.mod_eq_of_lt b2, hx, Nat.add_sub_cancel_left, Nat.mod_eq_of_lt (by omega)]
/-! ===== eight bytes in a word ===== -/
def pw_r : Nat → (Nat → BitVec 8) → Nat
  | 0, _ => 0
  | k + 1, g => (g 0).toNat + 256 * pw_r k (fun i => g (i + 1))
theorem pw_lt : ∀ (k : Nat) (g : Nat → BitVec 8), pw_r k g < 256 ^ k := by
  intro k
  induction k with
  | zero => intro g; simp [pw_r]
  | succ k ih =>
    intro g
    have h1 : (g 0).toNat < 256 := (g 0).isLt
    have h2 := ih (fun i => g (i + 1))
    rw [Nat.pow_succ]
    unfold pw_r
    omega
theorem pw_congr : ∀ (k : Nat) (g g' : Nat → BitVec 8), (∀ j, j < k → g j = g' j) → pw_r k g = pw_r k g' := by
  intro k
  induction k with
  | zero => intro g g' _; rfl
  | succ k ih =>
    intro g g' h
    unfold pw_r
    rw [h 0 (by omega), ih (fun i => g (i + 1)) (fun i => g' (i + 1)) (fun j hj => h (j + 1) (by omega))]
theorem pw_lt8 (g : Nat → BitVec 8) : pw_r 8 g < 2 ^ 64 := pw_lt 8 g
theorem pw_get : ∀ (j k : Nat) (g : Nat → BitVec 8), j < k → pw_r k g / 2 ^ (8 * j) % 256 = (g j).toNat := by
  intro j
  induction j with
  | zero =>
    intro k g h
    obtain ⟨k, rfl⟩ : ∃ n, k = n + 1 := ⟨k - 1, by omega⟩
    have h1 : (g 0).toNat < 256 := (g 0).isLt
    simp only [pw_r, Nat.mul_zero, Nat.pow_zero, Nat.div_one]
    omega
  | succ j ih =>
    intro k g h
    obtain ⟨k, rfl⟩ : ∃ n, k = n + 1 := ⟨k - 1, by omega⟩
    have h1 : (g 0).toNat < 256 := (g 0).isLt
    have e : 2 ^ (8 * (j + 1)) = 256 * 2 ^ (8 * j) := by
      rw [Nat.mul_add, Nat.pow_add, Nat.mul_comm]
    rw [e, ← Nat.div_div_eq_div_mul]
    have e2 : pw_r (k + 1) g / 256 = pw_r k (fun i => g (i + 1)) := by
      show ((g 0).toNat + 256 * pw_r k (fun i => g (i + 1))) / 256 = pw_r k (fun i => g (i + 1))
      omega
    rw [e2]
    exact ih k _ (by omega)
theorem pw_bit : ∀ (k : Nat) (g : Nat → BitVec 8) (i : Nat), (pw_r k g).testBit i = (decide (i < 8 * k) && (g (i / 8)).toNat.testBit (i % 8)) := by
  intro k
  induction k with
  | zero => intro g i; simp [pw_r]
  | succ k ih =>
    intro g i
    have h1 : (g 0).toNat < 2 ^ 8 := (g 0).isLt
    have e : pw_r (k + 1) g = 2 ^ 8 * pw_r k (fun i => g (i + 1)) + (g 0).toNat := by
      show (g 0).toNat + 256 * _ = _
      omega
    rw [e, Nat.testBit_two_pow_mul_add _ h1]
    by_cases h : i < 8
    · rw [if_pos h]
      have e1 : i / 8 = 0 := by omega
      have e2 : i % 8 = i := by omega
      have e3 : i < 8 * (k + 1) := by omega
      simp [e1, e2, e3]
    · rw [if_neg h, ih]
      have e1 : (i - 8) / 8 + 1 = i / 8 := by omega
      have e2 : (i - 8) % 8 = i % 8 := by omega
      have e3 : (i - 8 < 8 * k) = (i < 8 * (k + 1)) := by
        apply propext; omega
      rw [e1, e2, decide_eq_decide.mpr (by rw [e3])]
theorem pw_set (g : Nat → BitVec 8) (j v : Nat) (hj : j < 8) : (pw_r 8 g &&& ((255 * 2 ^ (8 * j)) ^^^ (2 ^ 64 - 1))) ||| ((v % 256) * 2 ^ (8 * j)) = pw_r 8 (fun i => if i = j then BitVec.ofNat 8 v else g i) := by
  apply Nat.eq_of_testBit_eq
  intro i
  have hv : v % 256 < 2 ^ 8 := Nat.mod_lt _ (by decide)
  rw [Nat.testBit_or, Nat.testBit_and, Nat.testBit_xor, pw_bit, pw_bit, Nat.testBit_two_pow_sub_one, Nat.mul_comm 255, Nat.mul_comm (v % 256), Nat.testBit_two_pow_mul, Nat.testBit_two_pow_mul, show (255 : Nat) = 2 ^ 8 - 1 from rfl, Nat.testBit_two_pow_sub_one]
  by_cases h64 : i < 64
  · by_cases hq : i / 8 = j
    · have h1 : 8 * j ≤ i := by omega
      have h2 : i - 8 * j < 8 := by omega
      have h3 : i - 8 * j = i % 8 := by omega
      have h4 : i % 8 < 8 := by omega
      have h5 : (v % 256).testBit (i % 8) = v.testBit (i % 8) := by
        rw [show (256 : Nat) = 2 ^ 8 from rfl, Nat.testBit_mod_two_pow]
        simp [h4]
      simp [h1, h64, hq, h3, h4, h5, BitVec.toNat_ofNat]
    · have h1 : ¬ (8 * j ≤ i ∧ i - 8 * j < 8) := by omega
      by_cases h2 : 8 * j ≤ i
      · have h3 : ¬ i - 8 * j < 8 := by omega
        have h4 : (v % 256).testBit (i - 8 * j) = false := Nat.testBit_lt_two_pow (Nat.lt_of_lt_of_le hv (Nat.pow_le_pow_right (by decide) (by omega)))
        simp [h2, h3, h64, hq, h4]
      · simp [h2, h64, hq]
  · have h2 : 8 * j ≤ i := by omega
    have h4 : (v % 256).testBit (i - 8 * j) = false := Nat.testBit_lt_two_pow (Nat.lt_of_lt_of_le hv (Nat.pow_le_pow_right (by decide) (by omega)))
    simp [h64, h4]
/-- the words that hold the bytes m from 1024 on -/
def pw_w (m : ph_M) (i : Nat) : Int64 := lN (pw_r 8 (fun j => m (1024 + 8 * i + j)))
theorem pw_lxor (a b : Nat) : lN a ^^^ lN b = lN (a ^^^ b) := by
  apply wb_inj
  rw [Int64.toBitVec_xor, wb_tb, wb_tb, wb_tb]
  apply BitVec.eq_of_toNat_eq
  rw [BitVec.toNat_xor, BitVec.toNat_ofNat, BitVec.toNat_ofNat, BitVec.toNat_ofNat]
  apply Nat.eq_of_testBit_eq
  intro i
  simp only [Nat.testBit_xor, Nat.testBit_mod_two_pow]
  by_cases h : i < 64 <;> simp [h]
theorem pw_nb (n : Nat) : (nI n).toBitVec.toNat = n % 2 ^ 32 := by
  show (BitVec.ofNat 32 n).toNat = _
  rw [BitVec.toNat_ofNat]
/-- a byte read out of its word -/
theorem pw_read (m : ph_M) (a : Nat) (ha : 1024 ≤ a) : (((pw_w m ((a - 1024) / 8)).toUInt64 >>> ((nI ((a - 1024) % 8 * 8)).toInt64.toUInt64 &&& Int64.toUInt64 63)).toInt64).toInt32 &&& 255 = nI (ph_b m a) := by
  have hj : (a - 1024) % 8 < 8 := Nat.mod_lt _ (by decide)
  unfold pw_w
  rw [wb_shr (pw_lt8 _) (by omega), lN_i, pk_and _ 8 (by decide +kernel), pw_nb]
  have h := pw_get ((a - 1024) % 8) 8 (fun j => m (1024 + 8 * ((a - 1024) / 8) + j)) hj
  have e : 1024 + 8 * ((a - 1024) / 8) + (a - 1024) % 8 = a := by omega
  simp only [e] at h
  rw [Nat.mul_comm ((a - 1024) % 8) 8]
  have h2 : ∀ n : Nat, n % 2 ^ 32 % 2 ^ 8 = n % 256 := fun n => by omega
  rw [h2, h]
  rfl
/-- .. and written into it -/
theorem pw_write (m : ph_M) (a : Nat) (v : Int64) (ha : 1024 ≤ a) :
    vp_updL (pw_w m) ((a - 1024) / 8) ((pw_w m ((a - 1024) / 8) &&& ((255 : Int64) <<< ((nI ((a - 1024) % 8 * 8)).toInt64 &&& 63) ^^^ (-1))) ||| ((v &&& 255) <<< ((nI ((a - 1024) % 8 * 8)).toInt64 &&& 63))) = pw_w (ph_sb m a v.toBitVec.toNat) := by
  have hj : (a - 1024) % 8 < 8 := Nat.mod_lt _ (by decide)
  obtain ⟨n, hn, rfl⟩ := wb_of v
  rw [wb_tn hn]
  funext i
  unfold vp_updL
  by_cases hi : i = (a - 1024) / 8
  · subst hi
    rw [if_pos rfl]
    unfold pw_w
    rw [show (255 : Int64) = lN (2 ^ 8 - 1) from by decide +kernel, wb_mask hn (by decide), wb_shl _ (by omega), wb_shl _ (by omega), show (-1 : Int64) = lN (2 ^ 64 - 1) from by decide +kernel, pw_lxor]
    have hp : 2 ^ 8 * 2 ^ ((a - 1024) % 8 * 8) ≤ 2 ^ 64 := by
      rw [← Nat.pow_add]; exact Nat.pow_le_pow_right (by decide) (by omega)
    have hb1 : (2 ^ 8 - 1) * 2 ^ ((a - 1024) % 8 * 8) < 2 ^ 64 := by
      have : (2 ^ 8 - 1) * 2 ^ ((a - 1024) % 8 * 8) < 2 ^ 8 * 2 ^ ((a - 1024) % 8 * 8) := Nat.mul_lt_mul_of_pos_right (by decide) (Nat.pow_pos (by decide))
      omega
    have hb2 : n % 2 ^ 8 * 2 ^ ((a - 1024) % 8 * 8) < 2 ^ 64 := by
      have : n % 2 ^ 8 * 2 ^ ((a - 1024) % 8 * 8) < 2 ^ 8 * 2 ^ ((a - 1024) % 8 * 8) := Nat.mul_lt_mul_of_pos_right (Nat.mod_lt _ (by decide)) (Nat.pow_pos (by decide))
      omega
    have hx : (2 ^ 8 - 1) * 2 ^ ((a - 1024) % 8 * 8) ^^^ (2 ^ 64 - 1) < 2 ^ 64 := Nat.xor_lt_two_pow hb1 (by decide)
    rw [wb_and (pw_lt8 _) hx, wb_or (Nat.and_lt_two_pow _ hx) hb2]
    have hs := pw_set (fun j => m (1024 + 8 * ((a - 1024) / 8) + j)) ((a - 1024) % 8) n hj
    rw [Nat.mul_comm 8 ((a - 1024) % 8)] at hs
    rw [show (2 ^ 8 - 1 : Nat) = 255 from rfl, show (2 ^ 8 : Nat) = 256 from rfl, hs]
    congr 2
    funext j
    unfold ph_sb
    by_cases h : j = (a - 1024) % 8
    · rw [if_pos h, if_pos (by omega)]
    · rw [if_neg h, if_neg (by omega)]
  · rw [if_neg hi]
    unfold pw_w
    rw [pw_congr 8 _ (fun j => ph_sb m a n (1024 + 8 * i + j)) (fun j hj8 => by
      unfold ph_sb
      rw [if_neg (by omega)])]
/-! ===== lN: masks, 'or' of parts that don't overlap is a sum ===== -/
theorem u_tn {n : Nat} (h : n < 2 ^ 64) : (UInt64.ofNat n).toNat = n := Nat.mod_eq_of_lt h
theorem g_and {a b c : Nat} (ha : a < 2 ^ 64) (hb : b < 2 ^ 64) (hc : a &&& b = c) : lN a &&& lN b = lN c := by
  subst hc
  have h : UInt64.ofNat a &&& UInt64.ofNat b = UInt64.ofNat (a &&& b) := UInt64.toNat_inj.mp (by rw [UInt64.toNat_and, u_tn ha, u_tn hb, u_tn (Nat.and_lt_two_pow a hb)])
  have h2 := congrArg UInt64.toInt64 h
  exact h2
theorem g_and1 {a : Nat} (ha : a < 2 ^ 64) : lN a &&& 1 = lN (a % 2) := g_and (b := 1) ha (by decide) (Nat.and_two_pow_sub_one_eq_mod a 1)
theorem g_mask {a s p : Nat} (hp : 2 ^ s = p) (hs : s < 64) (ha : a < 2 ^ 64) : lN a &&& lN (p - 1) = lN (a % p) := by
  subst hp
  have := Nat.pow_lt_pow_right (show 1 < 2 by decide) hs
  exact g_and ha (by omega) (Nat.and_two_pow_sub_one_eq_mod a s)
theorem g_or {k p a b : Nat} (hp : 2 ^ k = p) (ha : a < p) (h : b * p + a < 2 ^ 64) : lN (b * p) ||| lN a = lN (b * p + a) := by
  subst hp
  have h1 : b * 2 ^ k ||| a = b * 2 ^ k + a := by rw [← Nat.shiftLeft_eq, Nat.shiftLeft_add_eq_or_of_lt ha]
  have h3 : UInt64.ofNat (b * 2 ^ k) ||| UInt64.ofNat a = UInt64.ofNat (b * 2 ^ k + a) := UInt64.toNat_inj.mp (by rw [UInt64.toNat_or, u_tn (by omega), u_tn (by omega), u_tn h, h1])
  have h2 := congrArg UInt64.toInt64 h3
  exact h2
theorem g_or' {k p a b : Nat} (hp : 2 ^ k = p) (ha : a < p) (h : a + b * p < 2 ^ 64) : lN a ||| lN (b * p) = lN (a + b * p) := by
  rw [Int64.or_comm, g_or hp ha (by omega), Nat.add_comm]
theorem g_ushr {a k p : Nat} {y : UInt64} (hy : y = UInt64.ofNat k) (hk : k < 64) (hp : 2 ^ k = p) (ha : a < 2 ^ 64) : ((lN a).toUInt64 >>> y).toInt64 = lN (a / p) := by
  subst hy hp
  have h : UInt64.ofNat a >>> UInt64.ofNat k = UInt64.ofNat (a / 2 ^ k) := UInt64.toNat_inj.mp (by rw [UInt64.toNat_shiftRight, u_tn ha, u_tn (by omega), u_tn (Nat.lt_of_le_of_lt (Nat.div_le_self _ _) ha), Nat.mod_eq_of_lt hk, Nat.shiftRight_eq_div_pow])
  have h2 := congrArg UInt64.toInt64 h
  exact h2
theorem g_shl {a k p : Nat} {y : Int64} (hy : y.toBitVec.smod 64 = BitVec.ofNat 64 k) (hk : k < 64) (hp : 2 ^ k = p) (ha : a < 2 ^ 64) : lN a <<< y = lN (a * p) := by
  subst hp
  apply Int64.toBitVec_inj.mp
  rw [Int64.toBitVec_shiftLeft, hy]
  apply BitVec.eq_of_toNat_eq
  have hb : (lN a).toBitVec.toNat = a := Nat.mod_eq_of_lt ha
  have hk' : (BitVec.ofNat 64 k).toNat = k := Nat.mod_eq_of_lt (by omega)
  have h : ((lN a).toBitVec <<< BitVec.ofNat 64 k).toNat = (a * 2 ^ k) % 2 ^ 64 := by simp only [BitVec.shiftLeft_eq', BitVec.toNat_shiftLeft, hb, hk', Nat.shiftLeft_eq]
  exact h
