/-! PURE: the state of a heap row (its bytes, its end, the stack's end), and what each call does to it. Both sides are tied to these. -/
abbrev ph_M : Type := Nat → BitVec 8
abbrev ph_H : Type := ph_M × Nat × Nat
def ph_b (m : ph_M) (a : Nat) : Nat := (m a).toNat
def ph_n (m : ph_M) (a : Nat) : Nat := ph_b m a + 256 * ph_b m (a + 1) + 65536 * ph_b m (a + 2) + 16777216 * ph_b m (a + 3)
def ph_sb (m : ph_M) (a v : Nat) : ph_M := fun j => if j = a then BitVec.ofNat 8 v else m j
def ph_sn (m : ph_M) (a v : Nat) : ph_M := ph_sb (ph_sb (ph_sb (ph_sb m a v) (a + 1) (v / 256)) (a + 2) (v / 65536)) (a + 3) (v / 16777216)
abbrev ph_in (a : Nat) : Prop := 1024 ≤ a ∧ a < 65536
abbrev ph_i4 (a : Nat) : Prop := 1024 ≤ a ∧ a + 3 < 65536
theorem ph_b_lt (m : ph_M) (a : Nat) : ph_b m a < 256 := (m a).isLt
theorem ph_n_lt (m : ph_M) (a : Nat) : ph_n m a < 4294967296 := by
  have h0 := ph_b_lt m a
  have h1 := ph_b_lt m (a + 1)
  have h2 := ph_b_lt m (a + 2)
  have h3 := ph_b_lt m (a + 3)
  unfold ph_n
  omega
theorem ph_b_eq (m : ph_M) (a v : Nat) : ph_b (ph_sb m a v) a = v % 256 := by
  simp [ph_b, ph_sb]
theorem ph_b_ne (m : ph_M) {a j : Nat} (v : Nat) (h : j ≠ a) : ph_b (ph_sb m a v) j = ph_b m j := by
  simp [ph_b, ph_sb, h]
theorem ph_sn_at0 (m : ph_M) (a v : Nat) : ph_b (ph_sn m a v) a = v % 256 := by
  unfold ph_sn
  rw [ph_b_ne _ _ (by omega), ph_b_ne _ _ (by omega), ph_b_ne _ _ (by omega), ph_b_eq]
theorem ph_sn_at1 (m : ph_M) (a v : Nat) : ph_b (ph_sn m a v) (a + 1) = v / 256 % 256 := by
  unfold ph_sn
  rw [ph_b_ne _ _ (by omega), ph_b_ne _ _ (by omega), ph_b_eq]
theorem ph_sn_at2 (m : ph_M) (a v : Nat) : ph_b (ph_sn m a v) (a + 2) = v / 65536 % 256 := by
  unfold ph_sn
  rw [ph_b_ne _ _ (by omega), ph_b_eq]
theorem ph_sn_at3 (m : ph_M) (a v : Nat) : ph_b (ph_sn m a v) (a + 3) = v / 16777216 % 256 := by
  unfold ph_sn
  rw [ph_b_eq]
theorem ph_sn_off (m : ph_M) {a j : Nat} (v : Nat) (h : j < a ∨ a + 3 < j) : ph_b (ph_sn m a v) j = ph_b m j := by
  unfold ph_sn
  rw [ph_b_ne _ _ (by omega), ph_b_ne _ _ (by omega), ph_b_ne _ _ (by omega), ph_b_ne _ _ (by omega)]
theorem ph_n_sn (m : ph_M) (a v : Nat) : ph_n (ph_sn m a v) a = v % 4294967296 := by
  unfold ph_n
  rw [ph_sn_at0, ph_sn_at1, ph_sn_at2, ph_sn_at3]
  omega
theorem ph_n_off (m : ph_M) {a b : Nat} (v : Nat) (h : b + 3 < a ∨ a + 3 < b) : ph_n (ph_sn m a v) b = ph_n m b := by
  unfold ph_n
  rw [ph_sn_off m v (j := b) (by omega), ph_sn_off m v (j := b + 1) (by omega), ph_sn_off m v (j := b + 2) (by omega), ph_sn_off m v (j := b + 3) (by omega)]
theorem ph_n_ext {m m' : ph_M} {b : Nat} (h : ∀ j, b ≤ j → j ≤ b + 3 → ph_b m' j = ph_b m j) : ph_n m' b = ph_n m b := by
  unfold ph_n
  rw [h b (by omega) (by omega), h (b + 1) (by omega) (by omega), h (b + 2) (by omega) (by omega), h (b + 3) (by omega) (by omega)]
theorem ph_ext {m m' : ph_M} (h : ∀ j, ph_b m' j = ph_b m j) : m' = m := funext fun j => BitVec.eq_of_toNat_eq (h j)
theorem ph_sn_self (m : ph_M) (a : Nat) : ph_sn m a (ph_n m a) = m := by
  have h0 := ph_b_lt m a
  have h1 := ph_b_lt m (a + 1)
  have h2 := ph_b_lt m (a + 2)
  have h3 := ph_b_lt m (a + 3)
  refine ph_ext fun j => ?_
  by_cases e0 : j = a
  · subst e0; rw [ph_sn_at0]; unfold ph_n; omega
  by_cases e1 : j = a + 1
  · subst e1; rw [ph_sn_at1]; unfold ph_n; omega
  by_cases e2 : j = a + 2
  · subst e2; rw [ph_sn_at2]; unfold ph_n; omega
  by_cases e3 : j = a + 3
  · subst e3; rw [ph_sn_at3]; unfold ph_n; omega
  exact ph_sn_off m _ (by omega)
theorem ph_sn_mod (m : ph_M) (a v : Nat) : ph_sn m a (v % 4294967296) = ph_sn m a v := by
  refine ph_ext fun j => ?_
  by_cases e0 : j = a
  · subst e0; rw [ph_sn_at0, ph_sn_at0]; omega
  by_cases e1 : j = a + 1
  · subst e1; rw [ph_sn_at1, ph_sn_at1]; omega
  by_cases e2 : j = a + 2
  · subst e2; rw [ph_sn_at2, ph_sn_at2]; omega
  by_cases e3 : j = a + 3
  · subst e3; rw [ph_sn_at3, ph_sn_at3]; omega
  rw [ph_sn_off m _ (by omega), ph_sn_off m _ (by omega)]
/-- the first free block as large, from b on -/
def ph_ff (m : ph_M) (e n : Nat) : Nat → Nat → Option Nat
  | 0, _ => none
  | f + 1, b => if b < e then (if ph_n m (b + 4) ≠ 1 ∧ n ≤ ph_n m b then some b else ph_ff m e n f (b + 8 + ph_n m b)) else none
/-- the taken block whose bytes begin at a, and the one before it (0: none) -/
def ph_fd (m : ph_M) (e a : Nat) : Nat → Nat → Nat → Option (Nat × Nat)
  | 0, _, _ => none
  | f + 1, p, b => if b < e then (if b + 8 = a ∧ ph_n m (b + 4) = 1 then some (b, p) else ph_fd m e a f b (b + 8 + ph_n m b)) else none
/-- the block before 'lim' -/
def ph_bb (m : ph_M) (lim : Nat) : Nat → Nat → Nat → Nat
  | 0, p, _ => p
  | f + 1, p, b => if b < lim then ph_bb m lim f b (b + 8 + ph_n m b) else p
theorem ph_ff_some {m : ph_M} {e n x : Nat} : ∀ (f b : Nat), ph_ff m e n f b = some x → b ≤ x ∧ x < e ∧ ph_n m (x + 4) ≠ 1 ∧ n ≤ ph_n m x := by
  intro f
  induction f with
  | zero => intro b h; simp [ph_ff] at h
  | succ f ih =>
    intro b h
    unfold ph_ff at h
    by_cases h1 : b < e
    · rw [if_pos h1] at h
      by_cases h2 : ph_n m (b + 4) ≠ 1 ∧ n ≤ ph_n m b
      · rw [if_pos h2] at h
        cases h
        exact ⟨Nat.le_refl _, h1, h2.1, h2.2⟩
      · rw [if_neg h2] at h
        obtain ⟨q1, q2, q3, q4⟩ := ih _ h
        exact ⟨by omega, q2, q3, q4⟩
    · rw [if_neg h1] at h
      cases h
theorem ph_fd_some {m : ph_M} {e a x q : Nat} : ∀ (f p b : Nat), ph_fd m e a f p b = some (x, q) → b ≤ x ∧ x < e ∧ x + 8 = a ∧ ph_n m (x + 4) = 1 ∧ ((q = p ∧ x = b) ∨ (b ≤ q ∧ q < x ∧ q + 8 + ph_n m q = x)) := by
  intro f
  induction f with
  | zero => intro p b h; simp [ph_fd] at h
  | succ f ih =>
    intro p b h
    unfold ph_fd at h
    by_cases h1 : b < e
    · rw [if_pos h1] at h
      by_cases h2 : b + 8 = a ∧ ph_n m (b + 4) = 1
      · rw [if_pos h2] at h
        cases h
        exact ⟨Nat.le_refl _, h1, h2.1, h2.2, Or.inl ⟨rfl, rfl⟩⟩
      · rw [if_neg h2] at h
        obtain ⟨q1, q2, q3, q4, q5⟩ := ih _ _ h
        refine ⟨by omega, q2, q3, q4, Or.inr ?_⟩
        rcases q5 with ⟨q5, q6⟩ | ⟨q5, q6, q7⟩
        · subst q5; exact ⟨Nat.le_refl _, by omega, q6.symm⟩
        · exact ⟨by omega, q6, q7⟩
    · rw [if_neg h1] at h
      cases h
theorem ph_bb_fd {m m' : ph_M} {e a x q : Nat} (hm : ∀ j, j < x → ph_b m' j = ph_b m j) : ∀ (f p b : Nat), ph_fd m e a f p b = some (x, q) → ph_bb m' x f p b = q := by
  intro f
  induction f with
  | zero => intro p b h; simp [ph_fd] at h
  | succ f ih =>
    intro p b h
    have hs := ph_fd_some _ _ _ h
    unfold ph_fd at h
    unfold ph_bb
    by_cases h1 : b < e
    · rw [if_pos h1] at h
      by_cases h2 : b + 8 = a ∧ ph_n m (b + 4) = 1
      · rw [if_pos h2] at h
        cases h
        rw [if_neg (Nat.lt_irrefl _)]
      · rw [if_neg h2] at h
        have hs2 := ph_fd_some _ _ _ h
        have hlt : b + 8 ≤ x := by omega
        rw [if_pos (by omega), ph_n_ext (m := m) (m' := m') (b := b) (fun j _ h4 => hm j (by omega))]
        exact ih _ _ h
    · rw [if_neg h1] at h
      cases h
/-- to round up -/
def ph_up (n : Nat) : Nat := if n = 0 then 8 else (n + 7) / 8 * 8
/-- a header written: the size, then the second number; false: thrown -/
def ph_wh (m : ph_M) (a v k : Nat) : Bool × ph_M :=
  if ph_i4 a then (if ph_i4 (a + 4) then (true, ph_sn (ph_sn m a v) (a + 4) k) else (false, ph_sn m a v)) else (false, m)
/-- to take n bytes: none: thrown -/
def ph_take (u : ph_H) (n : Nat) : Option Nat × ph_H :=
  match ph_ff u.1 u.2.1 (ph_up n) 8064 1024 with
  | some b =>
    if ph_n u.1 b < ph_up n + 16 then (some (b + 8), (ph_sn u.1 (b + 4) 1, u.2.1, u.2.2))
    else if (ph_wh u.1 (b + 8 + ph_up n) (ph_n u.1 b - ph_up n - 8) 0).1 = true then
      (some (b + 8), (ph_sn (ph_sn (ph_wh u.1 (b + 8 + ph_up n) (ph_n u.1 b - ph_up n - 8) 0).2 b (ph_up n)) (b + 4) 1, u.2.1, u.2.2))
    else (none, ((ph_wh u.1 (b + 8 + ph_up n) (ph_n u.1 b - ph_up n - 8) 0).2, u.2.1, u.2.2))
  | none => if 480000 < n ∨ u.2.2 < u.2.1 + 8 + ph_up n + 4096 then (some 0, u)
    else (some (u.2.1 + 8), (ph_sn (ph_sn u.1 u.2.1 (ph_up n)) (u.2.1 + 4) 1, u.2.1 + 8 + ph_up n, u.2.2))
/-- n bytes from a on made 0 -/
def ph_clr : Nat → ph_M → Nat → Bool × ph_M
  | 0, m, _ => (true, m)
  | f + 1, m, a => if ph_in a then ph_clr f (ph_sb m a 0) (a + 1) else (false, m)
/-- n bytes copied, upwards -/
def ph_cpy : Nat → ph_M → Nat → Nat → Bool × ph_M
  | 0, m, _, _ => (true, m)
  | f + 1, m, a, b => if ph_in a then (if ph_in b then ph_cpy f (ph_sb m b (ph_b m a)) (a + 1) (b + 1) else (false, m)) else (false, m)
/-- the block at b joined with the next one, if that is free -/
def ph_jn (m : ph_M) (e b : Nat) : ph_M :=
  if b + 8 + ph_n m b < e ∧ ph_n m (b + 8 + ph_n m b + 4) ≠ 1 then ph_sn (ph_sn m b (ph_n m b + 8 + ph_n m (b + 8 + ph_n m b))) (b + 4) 0 else m
/-- the block at b given back; p: the one before it -/
def ph_g1 (m : ph_M) (e b : Nat) : ph_M := ph_jn (ph_sn m (b + 4) 0) e b
def ph_gj (m : ph_M) (e b p : Nat) : Nat := if p ≠ 0 ∧ ph_n (ph_g1 m e b) (p + 4) ≠ 1 then p else b
def ph_g2 (m : ph_M) (e b p : Nat) : ph_M := if p ≠ 0 ∧ ph_n (ph_g1 m e b) (p + 4) ≠ 1 then ph_jn (ph_g1 m e b) e p else ph_g1 m e b
def ph_ge (m : ph_M) (e b p : Nat) : Nat := if ph_gj m e b p + 8 + ph_n (ph_g2 m e b p) (ph_gj m e b p) = e then ph_gj m e b p else e
def ph_gb (u : ph_H) (b p : Nat) : ph_H := (ph_g2 u.1 u.2.1 b p, ph_ge u.1 u.2.1 b p, u.2.2)
/-- free(a), a not 0 -/
def ph_give (u : ph_H) (a : Nat) : Bool × ph_H :=
  match ph_fd u.1 u.2.1 a 8064 0 1024 with
  | some (b, p) => (true, ph_gb u b p)
  | none => (false, u)
def ph_clrd (u : ph_H) (n : Nat) : Option Nat × ph_H :=
  if 480000 < n then (some 0, u)
  else match ph_take u n with
    | (none, u') => (none, u')
    | (some a, u') => if a = 0 then (some 0, u') else if (ph_clr n u'.1 a).1 = true then (some a, ((ph_clr n u'.1 a).2, u'.2.1, u'.2.2)) else (none, ((ph_clr n u'.1 a).2, u'.2.1, u'.2.2))
def ph_rsz (u : ph_H) (a n : Nat) : Option Nat × ph_H :=
  if a = 0 then ph_take u n
  else if n = 0 then (if (ph_give u a).1 = true then (some 0, (ph_give u a).2) else (none, (ph_give u a).2))
  else match ph_fd u.1 u.2.1 a 8064 0 1024 with
    | none => (none, u)
    | some (b, _) => if ph_up n ≤ ph_n u.1 b then (some a, u)
      else match ph_take u n with
        | (none, u') => (none, u')
        | (some t, u') => if t = 0 then (some 0, u')
          else if (ph_cpy (ph_n u.1 b) u'.1 a t).1 = true then
            (if (ph_give ((ph_cpy (ph_n u.1 b) u'.1 a t).2, u'.2.1, u'.2.2) a).1 = true then (some t, (ph_give ((ph_cpy (ph_n u.1 b) u'.1 a t).2, u'.2.1, u'.2.2) a).2)
             else (none, (ph_give ((ph_cpy (ph_n u.1 b) u'.1 a t).2, u'.2.1, u'.2.2) a).2))
          else (none, ((ph_cpy (ph_n u.1 b) u'.1 a t).2, u'.2.1, u'.2.2))
/-- what holds of the state at all times -/
abbrev ph_I (u : ph_H) : Prop := 1024 ≤ u.2.1 ∧ u.2.1 ≤ 61440 ∧ 1024 ≤ u.2.2 ∧ u.2.2 ≤ 65536
theorem ph_up_ge (n : Nat) : 8 ≤ ph_up n := by unfold ph_up; split <;> omega
theorem ph_up_lt {n : Nat} (h : n < 4294967296) : ph_up n ≤ 4294967296 := by unfold ph_up; split <;> omega
theorem ph_take_I {u : ph_H} (h : ph_I u) (n : Nat) : ph_I (ph_take u n).2 := by
  have hu := ph_up_ge n
  unfold ph_take
  split
  · split
    · exact h
    · split
      · exact h
      · exact h
  · split
    · exact h
    · rename_i h2
      refine ⟨?_, ?_, h.2.2.1, h.2.2.2⟩ <;> (have := h.1; have := h.2.2.2; show _ ≤ _; simp only; omega)
/-- what is told is 0, or the address of bytes that have a header below the end -/
theorem ph_take_at {u u' : ph_H} {n x : Nat} (h : ph_I u) (ht : ph_take u n = (some x, u')) : x = 0 ∨ (1032 ≤ x ∧ x ≤ 61448) := by
  unfold ph_take at ht
  split at ht
  · rename_i b hb
    obtain ⟨q1, q2, -, -⟩ := ph_ff_some _ _ hb
    have he := h.2.1
    split at ht
    · cases ht; exact Or.inr ⟨by omega, by omega⟩
    · split at ht
      · cases ht; exact Or.inr ⟨by omega, by omega⟩
      · cases ht
  · split at ht
    · cases ht; exact Or.inl rfl
    · cases ht; exact Or.inr ⟨by have := h.1; omega, by have := h.2.1; omega⟩
theorem ph_gb_I {u : ph_H} {b p : Nat} (h : ph_I u) (hb : 1024 ≤ b) (hp : p = 0 ∨ 1024 ≤ p) (hbe : b < u.2.1) (hpe : p < b) : ph_I (ph_gb u b p) := by
  have hj : 1024 ≤ ph_gj u.1 u.2.1 b p ∧ ph_gj u.1 u.2.1 b p < u.2.1 := by
    unfold ph_gj
    split
    · rename_i h2; omega
    · omega
  have he : 1024 ≤ ph_ge u.1 u.2.1 b p ∧ ph_ge u.1 u.2.1 b p ≤ 61440 := by
    have h1 := h.1
    have h2 := h.2.1
    unfold ph_ge
    split <;> omega
  exact ⟨he.1, he.2, h.2.2.1, h.2.2.2⟩
theorem ph_fd_at {m : ph_M} {e a b p : Nat} (h : ph_fd m e a 8064 0 1024 = some (b, p)) : 1024 ≤ b ∧ b < e ∧ b + 8 = a ∧ ph_n m (b + 4) = 1 ∧ p < b ∧ (p = 0 ∨ (1024 ≤ p ∧ p + 8 + ph_n m p = b)) := by
  obtain ⟨h1, h2, h3, h4, h5⟩ := ph_fd_some _ _ _ h
  rcases h5 with ⟨h5, h6⟩ | ⟨h5, h6, h7⟩
  · exact ⟨h1, h2, h3, h4, by omega, Or.inl h5⟩
  · exact ⟨h1, h2, h3, h4, h6, Or.inr ⟨h5, h7⟩⟩
theorem ph_give_I {u : ph_H} (h : ph_I u) (a : Nat) : ph_I (ph_give u a).2 := by
  unfold ph_give
  split
  · rename_i b p hb
    obtain ⟨h1, h2, -, -, h5, h6⟩ := ph_fd_at hb
    exact ph_gb_I h h1 (by omega) h2 h5
  · exact h
theorem ph_clrd_I {u : ph_H} (h : ph_I u) (n : Nat) : ph_I (ph_clrd u n).2 := by
  have ht := ph_take_I h n
  unfold ph_clrd
  split
  · exact h
  · split
    · rename_i q; rw [q] at ht; exact ht
    · rename_i q; rw [q] at ht
      split
      · exact ht
      · split
        · exact ht
        · exact ht
theorem ph_rsz_I {u : ph_H} (h : ph_I u) (a n : Nat) : ph_I (ph_rsz u a n).2 := by
  have ht := ph_take_I h n
  unfold ph_rsz
  split
  · exact ht
  · split
    · split
      · exact ph_give_I h a
      · exact ph_give_I h a
    · split
      · exact h
      · split
        · exact h
        · split
          · rename_i q; rw [q] at ht; exact ht
          · rename_i q; rw [q] at ht
            split
            · exact ht
            · split
              · split
                · refine ph_give_I ?_ a; exact ht
                · refine ph_give_I ?_ a; exact ht
              · exact ht
