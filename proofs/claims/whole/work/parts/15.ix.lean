/-! numbers that are places -/
def ix (x : Int32) (n : Nat) : Prop := ∃ j, j < n ∧ x = nI j
theorem ix_neg {x : Int32} {n : Nat} (hn : n < 2 ^ 31) (h : x < 0) : ¬ ix x n := by
  rintro ⟨j, hj, rfl⟩
  exact nI_pos (by omega) h
theorem ix_ge {x : Int32} {n : Nat} (hn : n < 2 ^ 31) (h : nI n ≤ x) : ¬ ix x n := by
  rintro ⟨j, hj, rfl⟩
  exact nI_ge hj hn h
theorem ix_in {x : Int32} {n : Nat} (hn : n < 2 ^ 31) (h0 : ¬ x < 0) (h : ¬ nI n ≤ x) : ix x n := by
  rcases pk_ix x hn with h1 | h1 | h1
  · exact absurd h1 h0
  · exact absurd h1 h
  · exact h1
theorem ix_lt {x : Int32} {n : Nat} (hn : n < 2 ^ 31) (h0 : ¬ x < 0) (h : x < nI n) : ix x n := ix_in hn h0 (Int32.not_le.mpr h)
theorem ix_nlt {x : Int32} {n : Nat} (hn : n < 2 ^ 31) (h : ¬ x < nI n) : ¬ ix x n := ix_ge hn (Int32.not_lt.mp h)
theorem ix_le {x : Int32} {n : Nat} (hn : n + 1 < 2 ^ 31) (h0 : ¬ x < 0) (h : x ≤ nI n) : ix x (n + 1) := by
  refine ix_in hn h0 (fun z => ?_)
  have := Int32.le_trans z h
  exact nI_ge (by omega) hn this
theorem ix_nle {x : Int32} {n : Nat} (hn : n + 1 < 2 ^ 31) (h : ¬ x ≤ nI n) : ¬ ix x (n + 1) := by
  rintro ⟨j, hj, rfl⟩
  exact h (nI_le (by omega) (by omega))
