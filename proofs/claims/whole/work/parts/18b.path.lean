/-! numbers in paths are small -/
theorem ps_num_lt {q : Nat → Nat} {len : Nat} : ∀ d j a, (ps_num q len d j a).1 < (a + 1) * 10 ^ d := by
  intro d
  induction d with
  | zero => intro j a; simp [ps_num]
  | succ d ih =>
    intro j a
    simp only [ps_num]
    split
    next h =>
      have h1 := ih (j + 1) (10 * a + (ps_ch q len j - 48))
      have h2 : 10 * a + (ps_ch q len j - 48) + 1 ≤ (a + 1) * 10 := by omega
      have h3 : (10 * a + (ps_ch q len j - 48) + 1) * 10 ^ d ≤ (a + 1) * 10 * 10 ^ d := Nat.mul_le_mul_right _ h2
      rw [Nat.pow_succ, Nat.mul_comm (10 ^ d) 10, ← Nat.mul_assoc]
      omega
    next =>
      have : 1 ≤ 10 ^ (d + 1) := Nat.one_le_pow _ _ (by decide)
      calc a < a + 1 := by omega
        _ = (a + 1) * 1 := by omega
        _ ≤ (a + 1) * 10 ^ (d + 1) := Nat.mul_le_mul_left _ this
theorem ps_num4 {q : Nat → Nat} {len j : Nat} : (ps_num q len 4 j 0).1 < 10000 := by
  have := ps_num_lt (q := q) (len := len) 4 j 0
  simpa using this
theorem ps_num_ge {q : Nat → Nat} {len : Nat} : ∀ d j a, j ≤ (ps_num q len d j a).2 ∧ (ps_num q len d j a).2 ≤ j + d := by
  intro d
  induction d with
  | zero => intro j a; simp [ps_num]
  | succ d ih =>
    intro j a
    simp only [ps_num]
    split
    next => have := ih (j + 1) (10 * a + (ps_ch q len j - 48)); omega
    next => simp
theorem ps_sgn_ne {q : Nat → Nat} {len i a : Nat} (ha : a < 10000) : ¬ ps_sgn q len i a = 10000 := by
  unfold ps_sgn
  split
  · intro h
    have h1 : (-nI a).toInt = (10000 : Int32).toInt := by rw [h]
    rw [sb_negT (by omega)] at h1
    have h2 : (10000 : Int32).toInt = 10000 := by decide
    omega
  · intro h
    have h1 : nI a = nI 10000 := by rw [h]; rfl
    have := (nI_eq (by omega) (by decide)).mp h1
    omega
theorem ps_step_ge {kd vl : Nat → Int32} {q : Nat → Nat} {len i : Nat} {s : Int32} {r : Int32 × Nat} (h : ps_step kd vl q len s i = some r) : i + 2 ≤ r.2 := by
  unfold ps_step at h
  split at h
  · split at h
    · cases h; unfold ps_mv; split <;> simp
    · split at h
      · cases h; unfold ps_mv; split <;> simp
      · split at h
        · unfold ps_cmp at h
          split at h
          · split at h
            · cases h
            · split at h
              · cases h
                have := ps_num_ge (q := q) (len := len) 4 (ps_j q len (i + 2 + 1)) 0
                have h2 : i + 2 + 1 ≤ ps_j q len (i + 2 + 1) := by unfold ps_j; split <;> omega
                show i + 2 ≤ (ps_num q len 4 (ps_j q len (i + 2 + 1)) 0).2 + 1
                omega
              · cases h
          · cases h
        · split at h
          · cases h; simp
          · cases h
  · cases h
theorem ps_ch_pos {q : Nat → Nat} {len i : Nat} (h : ps_ch q len i ≠ 0) : i < len := Classical.byContradiction (fun z => h (ps_out z))
theorem ps_step_le {kd vl : Nat → Int32} {q : Nat → Nat} {len i : Nat} {s : Int32} {r : Int32 × Nat} (hi : i < len) (hl : len ≤ 32) (h : ps_step kd vl q len s i = some r) : r.2 < 2 ^ 20 := by
  unfold ps_step at h
  split at h
  · split at h
    · cases h; unfold ps_mv; split <;> (simp; omega)
    · split at h
      · cases h; unfold ps_mv; split <;> (simp; omega)
      · split at h
        · unfold ps_cmp at h
          split at h
          · split at h
            · cases h
            · split at h
              · cases h
                have := ps_num_ge (q := q) (len := len) 4 (ps_j q len (i + 2 + 1)) 0
                have h2 : ps_j q len (i + 2 + 1) ≤ i + 2 + 2 := by unfold ps_j; split <;> omega
                show (ps_num q len 4 (ps_j q len (i + 2 + 1)) 0).2 + 1 < 2 ^ 20
                omega
              · cases h
          · cases h
        · split at h
          · cases h; simp; omega
          · cases h
  · cases h
