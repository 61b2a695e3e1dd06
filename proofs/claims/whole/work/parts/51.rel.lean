/-! class and model stand alike -/
def RL (M : am_M) (pn : Nat → Nat) (nb nw ck len : Nat) (q : Nat → Nat) : Prop :=
  bpS M pn nb nw ck ∧ moS M pn nb nw ck ∧ (M.1 28 = M.1 2 ∧ M.1 29 = M.1 3 ∧ M.1 31 = M.1 7 ∧ M.1 32 = M.1 8 ∧ M.1 33 = M.1 9 ∧ M.1 34 = M.1 10 ∧ M.1 35 = M.1 11 ∧ M.1 37 = M.1 26) ∧ (∀ b, b < nb → (M.1 30 b = 0 ↔ ¬ M.1 4 b = 0)) ∧ (M.1 27 2 = M.1 0 7 ∧ ∃ h, h ≤ ck ∧ M.1 0 7 = nI h) ∧ iv (M.1 7) (M.1 8) pn (M.1 3) nb nw (nI ck) ∧ (∀ i, i < nw → (M.1 10 i = 0 → M.1 11 i = 0) ∧ (M.1 10 i = 2 → ix (M.1 11 i) 12)) ∧ tx M q len ∧ tm M q len
section RLS
variable {M : am_M} {pn : Nat → Nat} {nb nw ck len : Nat} {q : Nat → Nat}
theorem rl_first (h : RL M pn nb nw ck len q) (b : Nat) : mo_first M b = bp_first M b := by
  obtain ⟨hb, hm, ⟨e1, e2, e3, e4, e5, e6, e7, e8⟩, ho, ⟨eh, _⟩, _⟩ := h
  unfold mo_first bp_first
  rw [e2, eh]
  by_cases h1 : M.1 3 b < M.1 0 7
  · rw [if_pos h1, if_pos (Int32.le_of_lt h1)]
  · rw [if_neg h1]
    by_cases h2 : M.1 3 b ≤ M.1 0 7
    · rw [if_pos h2]
      exact Int32.le_antisymm (Int32.not_lt.mp h1) h2
    · rw [if_neg h2]
theorem rl_ck (h : RL M pn nb nw ck len q) : M.1 27 1 = M.1 0 6 := h.2.1.2.2.2.2.1.trans h.1.2.2.2.2.1.symm
theorem rl_rd (h : RL M pn nb nw ck len q) {b : Nat} (hb : b < nb) (m : Int32) : mo_rd M b m ↔ bp_rd M b m := by
  unfold mo_rd bp_rd
  rw [rl_first h b, rl_ck h, h.2.2.2.1 b hb]
  exact Iff.rfl
theorem rl_row (h : RL M pn nb nw ck len q) (b : Nat) (x : Int32) (c : Nat) : mo_row M pn nw b x c = sp_row (M.1 7) (M.1 8) (M.1 9) pn (M.1 3) nw b x c := by
  obtain ⟨hb, hm, ⟨e1, e2, e3, e4, e5, e6, e7, e8⟩, _⟩ := h
  unfold mo_row
  rw [e2, e3, e4, e5]
theorem rl_gv (h : RL M pn nb nw ck len q) {b j : Nat} (hb : b < nb) (hj : j < nw) : mo_gv M pn nw b j = mk_b M pn nw b j := by
  have hrow := rl_row h b
  have hfi := rl_first h b
  have hck := rl_ck h
  have hop := h.2.2.2.1 b hb
  obtain ⟨hbS, hmS, ⟨e1, e2, e3, e4, e5, e6, e7, e8⟩, ho, ⟨eh, hz, hz1, hz2⟩, hiv, _⟩ := h
  obtain ⟨s1, s2, s3, s4, s5, s6⟩ := hbS
  obtain ⟨h6, hp, hpar, hf⟩ := s2
  obtain ⟨c, hc48, hc⟩ := (s4.2 j hj).2
  have hcl : (M.1 9 j).toNatClampNeg = c := by rw [hc, nI_clamp (by omega)]
  have hf0 : M.1 3 b ≤ bp_first M b := by
    unfold bp_first
    split
    next h1 => exact Int32.le_of_lt h1
    next => exact Int32.le_refl _
  have hfc : bp_first M b ≤ nI ck := by
    unfold bp_first
    split
    next => rw [hz2]; exact nI_le hz1 (by omega)
    next => exact hiv.2.2.1 b hb
  have key := gv_eq hp hf s4 hiv h6 hb hj hc hf0 hfc
  have ea : mo_at M b j = if M.1 8 j ≤ bp_first M b then bp_first M b else M.1 8 j := by
    unfold mo_at
    rw [hfi, e4]
  have hop2 : decide (M.1 30 b = 0) = !decide (M.1 4 b = 0) := by
    by_cases z : M.1 4 b = 0
    · have : ¬ M.1 30 b = 0 := fun y => (hop.mp y) z
      simp [z, this]
    · have : M.1 30 b = 0 := hop.mpr z
      simp [z, this]
  unfold mo_gv mk_b
  rw [hop2, hrow, ea, hfi, hck, e5, hcl, s5, Bool.and_assoc, Bool.and_assoc]
  congr 1
  rw [Bool.eq_iff_iff]
  simp only [Bool.and_eq_true, Bool.or_eq_true, decide_eq_true_eq, Bool.not_eq_true', decide_eq_false_iff_not]
  exact key
end RLS
theorem sp_cnt_but {f : Nat → Bool} {b : Nat} (hf : f b = true) : ∀ n, sp_cnt f n = sp_cnt (fun k => !decide (k = b) && f k) n + (if b < n then 1 else 0) := by
  intro n
  induction n with
  | zero => rfl
  | succ n ih =>
    by_cases hb : n = b
    · subst hb
      rw [← sp_cnt_t hf, ← sp_cnt_f (f := fun k => !decide (k = n) && f k) (by simp), ih, if_neg (by omega), if_pos (by omega)]
    · by_cases hn : f n = true
      · rw [← sp_cnt_t hn, ← sp_cnt_t (f := fun k => !decide (k = b) && f k) (by simp [hb, hn]), ih]
        by_cases h1 : b < n
        · rw [if_pos h1, if_pos (by omega)]
        · rw [if_neg h1, if_neg (by omega)]
      · rw [← sp_cnt_f hn, ← sp_cnt_f (f := fun k => !decide (k = b) && f k) (by simp [hn]), ih]
        by_cases h1 : b < n
        · rw [if_pos h1, if_pos (by omega)]
        · rw [if_neg h1, if_neg (by omega)]
theorem rl_oth {M : am_M} {pn : Nat → Nat} {nb nw ck len : Nat} {q : Nat → Nat} (h : RL M pn nb nw ck len q) {b : Nat} (hb : b < nb) (ho : ¬ M.1 4 b = 0) : sp_cnt (fun b => !decide (M.1 4 b = 0)) nb = sp_cnt (fun k => !decide (k = b) && decide (M.1 30 k = 0)) nb + 1 := by
  rw [sp_cnt_but (f := fun b => !decide (M.1 4 b = 0)) (b := b) (by simp [ho]) nb, if_pos hb]
  congr 1
  refine sp_cnt_congr (fun k hk => ?_)
  have := h.2.2.2.1 k hk
  show (!decide (k = b) && !decide (M.1 4 k = 0)) = (!decide (k = b) && decide (M.1 30 k = 0))
  by_cases z : M.1 4 k = 0
  · have n30 : ¬ M.1 30 k = 0 := fun y => (this.mp y) z
    simp [z, n30]
  · have y30 : M.1 30 k = 0 := this.mpr z
    simp [z, y30]
theorem nj {x : Int32} {b b' n : Nat} (hn : n < 2 ^ 31) (hb : b < n) (h : x = nI b) (hb' : b' < n) (h' : x = nI b') : b' = b := (nI_eq (by omega) (by omega)).mp (h'.symm.trans h)
