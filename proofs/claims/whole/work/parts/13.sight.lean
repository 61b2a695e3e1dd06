/-! SIGHT: what is in sight on a branch at a moment, as a limit for each branch -/
def mt_min (u f : Int32) : Int32 := if f < u then f else u
theorem mt_min_pos {u f : Int32} (hu : 0 ≤ u) (hf : 0 ≤ f) : 0 ≤ mt_min u f := by unfold mt_min; split <;> assumption
theorem mt_min_le {u f : Int32} : mt_min u f ≤ u := by
  unfold mt_min
  split
  next h => exact Int32.le_of_lt h
  next => exact Int32.le_refl _
theorem mt_min_le2 {u f : Int32} : mt_min u f ≤ f := by
  unfold mt_min
  split
  next => exact Int32.le_refl _
  next h => exact Int32.not_lt.mp h
theorem mt_pos_ne {u : Int32} (hu : 0 ≤ u) : ¬ u = -1 := by
  intro h
  rw [h] at hu
  exact absurd hu (by decide)
/-- the limit for branch j, seen from branch b at moment m; d: at least b -/
def mt_f (pn : Nat → Nat) (fk : Nat → Int32) : Nat → Nat → Int32 → Nat → Int32
  | 0, b, m, j => if j = b then m else -1
  | d + 1, b, m, j => if j = b then m else if b = 0 then -1 else mt_f pn fk d (pn b) (mt_min m (fk b)) j
section MS
variable {pn : Nat → Nat} {fk : Nat → Int32} {nb : Nat}
theorem mt_f_self (d b : Nat) (m : Int32) : mt_f pn fk d b m b = m := by cases d <;> simp [mt_f]
theorem mt_f_step {d b : Nat} {m : Int32} {j : Nat} (hj : j ≠ b) (hb : b ≠ 0) : mt_f pn fk (d + 1) b m j = mt_f pn fk d (pn b) (mt_min m (fk b)) j := by simp [mt_f, hj, hb]
theorem mt_f_0 {d : Nat} {m : Int32} {j : Nat} (hj : j ≠ 0) : mt_f pn fk d 0 m j = -1 := by cases d <;> simp [mt_f, hj]
theorem mt_f_fuel (hp : ∀ b, 0 < b → b < nb → pn b < b) : ∀ (d d' b : Nat) (m : Int32) (j : Nat), b < nb → b ≤ d → b ≤ d' → mt_f pn fk d b m j = mt_f pn fk d' b m j := by
  intro d
  induction d with
  | zero =>
    intro d' b m j hb h1 h2
    have : b = 0 := by omega
    subst this
    by_cases hj : j = 0
    · subst hj; rw [mt_f_self, mt_f_self]
    · rw [mt_f_0 hj, mt_f_0 hj]
  | succ d ih =>
    intro d' b m j hb h1 h2
    by_cases hj : j = b
    · subst hj; rw [mt_f_self, mt_f_self]
    · by_cases h0 : b = 0
      · subst h0; rw [mt_f_0 hj, mt_f_0 hj]
      · obtain ⟨d'', rfl⟩ : ∃ d'', d' = d'' + 1 := ⟨d' - 1, by omega⟩
        rw [mt_f_step hj h0, mt_f_step hj h0]
        have := hp b (by omega) hb
        exact ih d'' (pn b) _ j (by omega) (by omega) (by omega)
theorem mt_f_above (hp : ∀ b, 0 < b → b < nb → pn b < b) : ∀ (d b : Nat) (m : Int32) (j : Nat), b < nb → b ≤ d → b < j → mt_f pn fk d b m j = -1 := by
  intro d
  induction d with
  | zero => intro b m j hb h1 h2; simp [mt_f]; omega
  | succ d ih =>
    intro b m j hb h1 h2
    by_cases h0 : b = 0
    · subst h0; exact mt_f_0 (by omega)
    · rw [mt_f_step (by omega) h0]
      have := hp b (by omega) hb
      exact ih (pn b) _ j (by omega) (by omega) (by omega)
theorem mt_f_le (hp : ∀ b, 0 < b → b < nb → pn b < b) (hf : ∀ b, b < nb → 0 ≤ fk b) : ∀ (d b : Nat) (m : Int32) (j : Nat), b < nb → b ≤ d → 0 ≤ m → mt_f pn fk d b m j ≤ m := by
  intro d
  have h1 : ∀ m : Int32, 0 ≤ m → -1 ≤ m := fun m hm => Int32.le_trans (by decide) hm
  induction d with
  | zero =>
    intro b m j hb h1' h2
    by_cases hj : j = b
    · subst hj; rw [mt_f_self]; exact Int32.le_refl _
    · simp [mt_f, hj]; exact h1 m h2
  | succ d ih =>
    intro b m j hb h1' h2
    by_cases hj : j = b
    · subst hj; rw [mt_f_self]; exact Int32.le_refl _
    · by_cases h0 : b = 0
      · subst h0; rw [mt_f_0 hj]; exact h1 m h2
      · rw [mt_f_step hj h0]
        have h3 := hp b (by omega) hb
        exact Int32.le_trans (ih (pn b) _ j (by omega) (by omega) (mt_min_pos h2 (hf b hb))) mt_min_le
/-- one step of the limits, from child c down -/
theorem mt_f_down (hp : ∀ b, 0 < b → b < nb → pn b < b) {c : Nat} (hc : c < nb) (h0 : 0 < c) {u : Int32} {j : Nat} (hj : j < c) : mt_f pn fk c c u j = mt_f pn fk (pn c) (pn c) (mt_min u (fk c)) j := by
  obtain ⟨c', rfl⟩ : ∃ c', c = c' + 1 := ⟨c - 1, by omega⟩
  rw [mt_f_step (by omega) (by omega)]
  have := hp (c' + 1) h0 hc
  exact mt_f_fuel hp _ _ _ _ _ (by omega) (by omega) (by omega)
end MS
