/-! what a view shows: the last row in sight -/
def sp_last (f : Nat → Bool) : Nat → Option Nat
  | 0 => none
  | n + 1 => if f n = true then some n else sp_last f n
def sp_get (f : Nat → Int32) (d : Int32) : Option Nat → Int32
  | none => d
  | some i => f i
/-- row i is in cell c and within the limits -/
def sp_in (wb wm wc lim : Nat → Int32) (c i : Nat) : Bool := decide (wc i = nI c) && decide (wm i ≤ lim (wb i).toNatClampNeg)
theorem sp_last_s {f : Nat → Bool} {n : Nat} (h : f n = true) : sp_last f (n + 1) = some n := by simp [sp_last, h]
theorem sp_last_n {f : Nat → Bool} {n : Nat} (h : ¬ f n = true) : sp_last f (n + 1) = sp_last f n := by simp [sp_last, h]
theorem sp_last_lt {f : Nat → Bool} {n i : Nat} (h : sp_last f n = some i) : i < n ∧ f i = true := by
  induction n with
  | zero => cases h
  | succ n ih =>
    by_cases hf : f n = true
    · rw [sp_last_s hf] at h; cases h; exact ⟨by omega, hf⟩
    · rw [sp_last_n hf] at h; obtain ⟨h1, h2⟩ := ih h; exact ⟨by omega, h2⟩
theorem sp_last_ge {f : Nat → Bool} {n i j : Nat} (h : sp_last f n = some i) (hj : j < n) (hij : i < j) : ¬ f j = true := by
  induction n with
  | zero => cases h
  | succ n ih =>
    by_cases hf : f n = true
    · rw [sp_last_s hf] at h; cases h; omega
    · rw [sp_last_n hf] at h
      by_cases hjn : j = n
      · subst hjn; exact hf
      · exact ih h (by omega)
theorem sp_last_none {f : Nat → Bool} {n j : Nat} (h : sp_last f n = none) (hj : j < n) : ¬ f j = true := by
  induction n with
  | zero => omega
  | succ n ih =>
    by_cases hf : f n = true
    · rw [sp_last_s hf] at h; cases h
    · rw [sp_last_n hf] at h
      by_cases hjn : j = n
      · subst hjn; exact hf
      · exact ih h (by omega)
theorem sp_last_of {f : Nat → Bool} {n i : Nat} (hi : i < n) (hf : f i = true) (h : ∀ j, i < j → j < n → ¬ f j = true) : sp_last f n = some i := by
  induction n with
  | zero => omega
  | succ n ih =>
    by_cases hin : i = n
    · subst hin; exact sp_last_s hf
    · rw [sp_last_n (h n (by omega) (by omega))]
      exact ih (by omega) (fun j h1 h2 => h j h1 (by omega))
theorem sp_last_congr {f g : Nat → Bool} {n : Nat} (h : ∀ i, i < n → f i = g i) : sp_last f n = sp_last g n := by
  induction n with
  | zero => rfl
  | succ n ih =>
    simp only [sp_last]
    rw [h n (by omega), ih (fun i hi => h i (by omega))]
/-- the rows of the writes are of branches and cells -/
def bp_R (wb wc : Nat → Int32) (nb nw : Nat) : Prop := nw ≤ 120 ∧ ∀ i, i < nw → (∃ b, b < nb ∧ wb i = nI b) ∧ ∃ c, c < 48 ∧ wc i = nI c
