/-! what keeps class and model alike -/
/-- M' is M but for places that nobody asks for later -/
def jk (M M' : am_M) : Prop := (∀ p, p ∉ [5, 12, 13, 14, 15, 16, 17, 18, 19, 20, 21, 22, 23, 24, 25, 27, 36] → M'.1 p = M.1 p) ∧ M'.1 25 1 = M.1 25 1 ∧ ∀ s, s ≠ 0 → s ≠ 16 → s ≠ 17 → M'.1 27 s = M.1 27 s
theorem jk.rf {M : am_M} : jk M M := ⟨fun _ _ => rfl, rfl, fun _ _ _ _ => rfl⟩
theorem jk.tr {M M1 M2 : am_M} (h : jk M M1) (g : jk M1 M2) : jk M M2 := ⟨fun p hp => (g.1 p hp).trans (h.1 p hp), g.2.1.trans h.2.1, fun s a b c => (g.2.2 s a b c).trans (h.2.2 s a b c)⟩
theorem jk_fr {M M' : am_M} {S : List Nat} (h : fr S M M') (hs : ∀ p ∈ S, p ∈ [5, 12, 13, 14, 15, 16, 17, 18, 19, 20, 21, 22, 23, 24, 36]) : jk M M' := by
  refine ⟨fun p hp => h.eq p (fun z => ?_), ?_, ?_⟩
  · have := hs p z
    simp at this hp
    omega
  · rw [h.eq 25 (fun z => by have := hs 25 z; simp at this)]
  · intro s _ _ _
    rw [h.eq 27 (fun z => by have := hs 27 z; simp at this)]
theorem jk_cd {M M' : am_M} {v : Int32} (h : cd M M' v) : jk M M' := by
  refine ⟨fun p hp => h.1.eq p (fun z => ?_), ?_, fun s a _ _ => h.2.1 s a⟩
  · simp at z hp
    omega
  · rw [h.1.eq 25 (by decide)]
theorem rl_jk {M M' : am_M} {pn : Nat → Nat} {nb nw ck len : Nat} {q : Nat → Nat} (h : RL M pn nb nw ck len q) (g : jk M M') : RL M' pn nb nw ck len q := by
  obtain ⟨g1, g2, g3⟩ := g
  unfold RL bpS moS tx tm at h ⊢
  rw [g1 0 (by decide), g1 1 (by decide), g1 2 (by decide), g1 3 (by decide), g1 4 (by decide), g1 6 (by decide), g1 7 (by decide), g1 8 (by decide), g1 9 (by decide), g1 10 (by decide), g1 11 (by decide), g1 26 (by decide), g1 28 (by decide), g1 29 (by decide), g1 30 (by decide), g1 31 (by decide), g1 32 (by decide), g1 33 (by decide), g1 34 (by decide), g1 35 (by decide), g1 37 (by decide), g2, g3 1 (by decide) (by decide) (by decide), g3 2 (by decide) (by decide) (by decide), g3 3 (by decide) (by decide) (by decide), g3 7 (by decide) (by decide) (by decide), g3 14 (by decide) (by decide) (by decide)]
  exact h
theorem moS_jk {M M' : am_M} {pn : Nat → Nat} {nb nw ck : Nat} (h : moS M pn nb nw ck) (e : ∀ p, 27 ≤ p → p ≤ 37 → M'.1 p = M.1 p) : moS M' pn nb nw ck := by
  unfold moS at h ⊢
  rw [e 27 (by decide) (by decide), e 28 (by decide) (by decide), e 29 (by decide) (by decide), e 31 (by decide) (by decide), e 32 (by decide) (by decide), e 33 (by decide) (by decide)]
  exact h
/-- behind 'erase' -/
theorem rl_erase {M : am_M} {pn : Nat → Nat} {nb nw ck len : Nat} {q : Nat → Nat} (h : RL M pn nb nw ck len q) : RL (am_set (am_set (am_set M 25 1 0) 27 0 0) 27 14 0) pn nb nw ck 0 q := by
  obtain ⟨h1, h2, h3, h4, h5, h6, h7, h8, h9⟩ := h
  exact ⟨h1, h2, h3, h4, h5, h6, h7, ⟨rfl, by decide, fun i hi => absurd hi (Nat.not_lt_zero _)⟩, ⟨rfl, by decide, fun i hi => absurd hi (Nat.not_lt_zero _)⟩⟩
/-- behind 'close' -/
theorem rl_close {M M' : am_M} {pn : Nat → Nat} {nb nw ck len : Nat} {q : Nat → Nat} (h : RL M pn nb nw ck len q) {b : Nat} (e : ∀ p, p ≠ 4 → p ≠ 30 → p ≠ 27 → M'.1 p = M.1 p) (e27 : ∀ s, s ≠ 0 → M'.1 27 s = M.1 27 s) (e4 : M'.1 4 = upd (M.1 4) b 0) (e30 : M'.1 30 = upd (M.1 30) b 1) : RL M' pn nb nw ck len q := by
  unfold RL bpS moS tx tm at h ⊢
  rw [e 0 (by decide) (by decide) (by decide), e 1 (by decide) (by decide) (by decide), e 2 (by decide) (by decide) (by decide), e 3 (by decide) (by decide) (by decide), e 6 (by decide) (by decide) (by decide), e 7 (by decide) (by decide) (by decide), e 8 (by decide) (by decide) (by decide), e 9 (by decide) (by decide) (by decide), e 10 (by decide) (by decide) (by decide), e 11 (by decide) (by decide) (by decide), e 25 (by decide) (by decide) (by decide), e 26 (by decide) (by decide) (by decide), e 28 (by decide) (by decide) (by decide), e 29 (by decide) (by decide) (by decide), e 31 (by decide) (by decide) (by decide), e 32 (by decide) (by decide) (by decide), e 33 (by decide) (by decide) (by decide), e 34 (by decide) (by decide) (by decide), e 35 (by decide) (by decide) (by decide), e 37 (by decide) (by decide) (by decide), e27 1 (by decide), e27 2 (by decide), e27 3 (by decide), e27 7 (by decide), e27 14 (by decide)]
  obtain ⟨h1, h2, h3, h4, h5⟩ := h
  refine ⟨h1, h2, h3, fun k hk => ?_, h5⟩
  rw [e4, e30]
  by_cases hkb : k = b
  · subst hkb
    rw [pk_us, pk_us]
    decide
  · rw [pk_un hkb, pk_un hkb]
    exact h4 k hk
