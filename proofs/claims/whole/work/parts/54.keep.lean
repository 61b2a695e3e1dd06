/-! rows that are added, moved together; branches, text -/
def PR (wb wm wc wk wv : Nat → Int32) (pn : Nat → Nat) (fk : Nat → Int32) (nb nw ck : Nat) : Prop := bp_R wb wc nb nw ∧ (∀ i, i < nw → 0 ≤ wm i) ∧ iv wb wm pn fk nb nw (nI ck) ∧ ∀ i, i < nw → (wk i = 0 → wv i = 0) ∧ (wk i = 2 → ix (wv i) 12)
theorem PR_add {wb wm wc wk wv : Nat → Int32} {pn : Nat → Nat} {fk : Nat → Int32} {nb nw ck b c : Nat} {kd vl : Int32} (h : PR wb wm wc wk wv pn fk nb nw ck) (hn : nw < 120) (hb : b < nb) (h6 : nb ≤ 6) (hc : c < 48) (hck : ck + 1 < 2 ^ 30) (h0 : kd = 0 → vl = 0) (h2 : kd = 2 → ix vl 12) : PR (upd wb nw (nI b)) (upd wm nw (nI (ck + 1))) (upd wc nw (nI c)) (upd wk nw kd) (upd wv nw vl) pn fk nb (nw + 1) (ck + 1) := by
  obtain ⟨⟨r1, r2⟩, r3, ⟨i1, i2, i3, i4⟩, r5⟩ := h
  have hle : nI ck ≤ nI (ck + 1) := nI_le (by omega) (by omega)
  have hlt : nI ck < nI (ck + 1) := nI_lt (by omega) (by omega)
  refine ⟨⟨by omega, fun i hi => ?_⟩, fun i hi => ?_, ⟨fun i hi => ?_, fun i j hij hj => ?_, fun k hk => Int32.le_trans (i3 k hk) hle, i4⟩, fun i hi => ?_⟩
  · by_cases e : i = nw
    · subst e; rw [pk_us, pk_us]; exact ⟨⟨b, hb, rfl⟩, ⟨c, hc, rfl⟩⟩
    · rw [pk_un e, pk_un e]; exact r2 i (by omega)
  · by_cases e : i = nw
    · subst e; rw [pk_us]; exact nI_pos' (by omega)
    · rw [pk_un e]; exact r3 i (by omega)
  · by_cases e : i = nw
    · subst e
      rw [pk_us, pk_us, nI_clamp (by omega)]
      exact ⟨Int32.lt_of_le_of_lt (nI_pos' (by omega)) hlt, Int32.le_refl _, Int32.lt_of_le_of_lt (i3 b hb) hlt⟩
    · rw [pk_un e, pk_un e]
      obtain ⟨a1, a2, a3⟩ := i1 i (by omega)
      exact ⟨a1, Int32.le_trans a2 hle, a3⟩
  · by_cases e : j = nw
    · subst e
      rw [pk_us, pk_un (by omega)]
      exact Int32.lt_of_le_of_lt (i1 i (by omega)).2.1 hlt
    · rw [pk_un e, pk_un (by omega)]
      exact i2 i j hij (by omega)
  · by_cases e : i = nw
    · subst e; rw [pk_us, pk_us]; exact ⟨h0, h2⟩
    · rw [pk_un e, pk_un e]; exact r5 i (by omega)
theorem PR_jn {wb wm wc wk wv : Nat → Int32} {pn : Nat → Nat} {fk : Nat → Int32} {nb nw ck b : Nat} {car : Nat → Bool} {kd vl : Nat → Int32} (h : PR wb wm wc wk wv pn fk nb nw ck) (hb : b < nb) (h6 : nb ≤ 6) (h120 : nw + sp_cnt car 48 ≤ 120) (hck : ck + 48 < 2 ^ 30) (h0 : ∀ c, kd c = 0 → vl c = 0) (h2 : ∀ c, kd c = 2 → ix (vl c) 12) : ∀ n, n ≤ 48 → PR (jn car (fun _ => nI b) wb nw n) (jn car (fun i => nI (ck + sp_cnt car i + 1)) wm nw n) (jn car nI wc nw n) (jn car kd wk nw n) (jn car vl wv nw n) pn fk nb (nw + sp_cnt car n) (ck + sp_cnt car n) := by
  intro n
  induction n with
  | zero => intro _; exact h
  | succ n ih =>
    intro hn
    have ih := ih (by omega)
    by_cases hc : car n = true
    · rw [jn_t hc, jn_t hc, jn_t hc, jn_t hc, jn_t hc, ← sp_cnt_t hc]
      have q1 := sp_cnt_t hc
      have q2 := sp_cnt_mono car (n + 1) 48 hn
      have q3 := sp_cnt_le car n
      exact PR_add ih (by omega) hb h6 (by omega) (by omega) (h0 n) (h2 n)
    · rw [jn_f hc, jn_f hc, jn_f hc, jn_f hc, jn_f hc, ← sp_cnt_f hc]
      exact ih
/-- the kept rows, in their order -/
theorem cp_ex (keep : Nat → Bool) : ∀ n, ∃ g : Nat → Nat, (∀ j, j < sp_cnt keep n → g j < n) ∧ (∀ i j, i < j → j < sp_cnt keep n → g i < g j) ∧ ∀ a : Nat → Int32, (∀ j, j < sp_cnt keep n → sp_cp keep a n j = a (g j)) ∧ ∀ i, n ≤ i → sp_cp keep a n i = a i := by
  intro n
  induction n with
  | zero => exact ⟨id, fun j h => absurd h (Nat.not_lt_zero _), fun i j _ h => absurd h (Nat.not_lt_zero _), fun a => ⟨fun j h => absurd h (Nat.not_lt_zero _), fun i _ => rfl⟩⟩
  | succ n ih =>
    obtain ⟨g, g1, g2, g3⟩ := ih
    have hle := sp_cnt_le keep n
    by_cases hk : keep n = true
    · refine ⟨fun j => if j = sp_cnt keep n then n else g j, fun j hj => ?_, fun i j hij hj => ?_, fun a => ⟨fun j hj => ?_, fun i hi => ?_⟩⟩
      · rw [← sp_cnt_t hk] at hj
        show (if j = sp_cnt keep n then n else g j) < n + 1
        split
        · omega
        · have := g1 j (by omega); omega
      · rw [← sp_cnt_t hk] at hj
        show (if i = sp_cnt keep n then n else g i) < (if j = sp_cnt keep n then n else g j)
        rw [if_neg (by omega)]
        split
        · exact g1 i (by omega)
        · exact g2 i j hij (by omega)
      · rw [← sp_cnt_t hk] at hj
        rw [sp_cp_t hk]
        show _ = a (if j = sp_cnt keep n then n else g j)
        by_cases e : j = sp_cnt keep n
        · subst e
          rw [pk_us, if_pos rfl]
          exact (g3 a).2 n (Nat.le_refl _)
        · rw [pk_un e, if_neg e]
          exact (g3 a).1 j (by omega)
      · rw [sp_cp_t hk, pk_un (by omega)]
        exact (g3 a).2 i (by omega)
    · refine ⟨g, fun j hj => ?_, fun i j hij hj => ?_, fun a => ⟨fun j hj => ?_, fun i hi => ?_⟩⟩
      · rw [← sp_cnt_f hk] at hj
        have := g1 j hj
        omega
      · rw [← sp_cnt_f hk] at hj
        exact g2 i j hij hj
      · rw [← sp_cnt_f hk] at hj
        rw [sp_cp_f hk]
        exact (g3 a).1 j hj
      · rw [sp_cp_f hk]
        exact (g3 a).2 i (by omega)
theorem PR_cp {wb wm wc wk wv : Nat → Int32} {pn : Nat → Nat} {fk : Nat → Int32} {nb nw ck : Nat} (keep : Nat → Bool) (h : PR wb wm wc wk wv pn fk nb nw ck) : PR (sp_cp keep wb nw) (sp_cp keep wm nw) (sp_cp keep wc nw) (sp_cp keep wk nw) (sp_cp keep wv nw) pn fk nb (sp_cnt keep nw) ck := by
  obtain ⟨⟨r1, r2⟩, r3, ⟨i1, i2, i3, i4⟩, r5⟩ := h
  obtain ⟨g, g1, g2, g3⟩ := cp_ex keep nw
  have hle := sp_cnt_le keep nw
  refine ⟨⟨by omega, fun i hi => ?_⟩, fun i hi => ?_, ⟨fun i hi => ?_, fun i j hij hj => ?_, i3, i4⟩, fun i hi => ?_⟩
  · rw [(g3 wb).1 i hi, (g3 wc).1 i hi]; exact r2 _ (g1 i hi)
  · rw [(g3 wm).1 i hi]; exact r3 _ (g1 i hi)
  · rw [(g3 wm).1 i hi, (g3 wb).1 i hi]; exact i1 _ (g1 i hi)
  · rw [(g3 wm).1 i (by omega), (g3 wm).1 j hj]; exact i2 _ _ (g2 i j hij hj) (g1 j hj)
  · rw [(g3 wk).1 i hi, (g3 wv).1 i hi]; exact r5 _ (g1 i hi)
theorem RL_PR {M : am_M} {pn : Nat → Nat} {nb nw ck len : Nat} {q : Nat → Nat} (h : RL M pn nb nw ck len q) : PR (M.1 7) (M.1 8) (M.1 9) (M.1 10) (M.1 11) pn (M.1 3) nb nw ck := by
  obtain ⟨hb, hm, ⟨e1, e2, e3, e4, e5, e6, e7, e8⟩, ho, hh, hiv, hk, _⟩ := h
  refine ⟨hb.2.2.2.1, ?_, hiv, hk⟩
  rw [← e4]
  exact hm.2.2.2.2.2.2.1
/-- the rows are others, and maybe clock and horizon -/
theorem rl_rows {M M' : am_M} {pn : Nat → Nat} {nb nw ck len nw' ck' : Nat} {q : Nat → Nat} (h : RL M pn nb nw ck len q) (e : ∀ p, p ∉ [0, 5, 6, 7, 8, 9, 10, 11, 12, 14, 15, 16, 18, 19, 20, 22, 23, 24, 27, 31, 32, 33, 34, 35, 36] → M'.1 p = M.1 p) (c6 : M'.1 6 6 = nI nw') (c7 : M'.1 27 7 = nI nw') (k0 : M'.1 0 6 = nI ck') (k1 : M'.1 27 1 = nI ck') (hck : ck' < 2 ^ 30) (f3 : M'.1 27 3 = M.1 27 3) (f14 : M'.1 27 14 = M.1 27 14) (hz : M'.1 27 2 = M'.1 0 7) (hz2 : ∃ h, h ≤ ck' ∧ M'.1 0 7 = nI h) (hP : PR (M'.1 7) (M'.1 8) (M'.1 9) (M'.1 10) (M'.1 11) pn (M.1 3) nb nw' ck') (q1 : M'.1 31 = M'.1 7) (q2 : M'.1 32 = M'.1 8) (q3 : M'.1 33 = M'.1 9) (q4 : M'.1 34 = M'.1 10) (q5 : M'.1 35 = M'.1 11) : RL M' pn nb nw' ck' len q := by
  obtain ⟨⟨s1, s2, s3, s4, s5, s6⟩, ⟨t1, t2, t3, t4, t5, t6, t7, t8, t9⟩, ⟨e1, e2, e3, e4, e5, e6, e7, e8⟩, ho, hh, hiv, hk, x1, x2⟩ := h
  obtain ⟨p1, p2, p3, p4⟩ := hP
  unfold RL bpS moS tx tm
  unfold tx at x1
  unfold tm at x2
  rw [f3, f14, hz, q1, q2, q3, q4, q5, e 1 (by decide), e 2 (by decide), e 3 (by decide), e 4 (by decide), e 25 (by decide), e 26 (by decide), e 28 (by decide), e 29 (by decide), e 30 (by decide), e 37 (by decide)]
  exact ⟨⟨s1, s2, c6, p1, k0, hck⟩, ⟨t1, t2, c7, p1, k1, hck, p2, t8, t9⟩, ⟨e1, e2, rfl, rfl, rfl, rfl, rfl, e8⟩, ho, ⟨rfl, hz2⟩, p3, p4, x1, x2⟩
/-- behind 'branch' -/
theorem rl_branch {M M' : am_M} {pn : Nat → Nat} {nb nw ck len b : Nat} {q : Nat → Nat} {m : Int32} (h : RL M pn nb nw ck len q) (hb : b < nb) (hr : bp_rd M b m) (h6 : nb < 6) (e : ∀ p, p ≠ 1 → p ≠ 2 → p ≠ 3 → p ≠ 4 → p ≠ 27 → p ≠ 28 → p ≠ 29 → p ≠ 30 → M'.1 p = M.1 p) (e27 : ∀ s, s ≠ 0 → s ≠ 3 → M'.1 27 s = M.1 27 s) (c1 : M'.1 1 4 = nI (nb + 1)) (c2 : M'.1 27 3 = nI (nb + 1)) (a2 : M'.1 2 = upd (M.1 2) nb (nI b)) (a3 : M'.1 3 = upd (M.1 3) nb m) (a4 : M'.1 4 = upd (M.1 4) nb 1) (b2 : M'.1 28 = upd (M.1 28) nb (nI b)) (b3 : M'.1 29 = upd (M.1 29) nb m) (b4 : M'.1 30 = upd (M.1 30) nb 0) : RL M' (fun k => if k = nb then b else pn k) (nb + 1) nw ck len q := by
  have hm0 := rd_pos h.1.2.1 hb hr
  have hmf : M.1 3 b ≤ m := by
    refine Int32.le_trans ?_ (Int32.not_lt.mp hr.2.1)
    split
    next z => exact Int32.le_of_lt z
    next => exact Int32.le_refl _
  have hmc : m ≤ nI ck := by rw [← h.1.2.2.2.2.1]; exact hr.2.2
  obtain ⟨⟨s1, s2, s3, s4, s5, s6⟩, ⟨t1, t2, t3, t4, t5, t6, t7, t8, t9⟩, ⟨e1, e2, e3, e4, e5, e6, e7, e8⟩, ho, hh, ⟨i1, i2, i3, i4⟩, hk, x1, x2⟩ := h
  obtain ⟨_, p1, p2, p3⟩ := s2
  have hP : bp_P (upd (M.1 2) nb (nI b)) (upd (M.1 3) nb m) (fun k => if k = nb then b else pn k) (nb + 1) := by
    refine ⟨by omega, fun k k0 hk => ?_, fun k k0 hk => ?_, fun k hk => ?_⟩
    · show (if k = nb then b else pn k) < k
      split
      · omega
      · exact p1 k k0 (by omega)
    · show upd (M.1 2) nb (nI b) k = nI (if k = nb then b else pn k)
      by_cases z : k = nb
      · subst z; rw [pk_us, if_pos rfl]
      · rw [pk_un z, if_neg z]; exact p2 k k0 (by omega)
    · by_cases z : k = nb
      · subst z; rw [pk_us]; exact hm0
      · rw [pk_un z]; exact p3 k (by omega)
  have hR : bp_R (M.1 7) (M.1 9) (nb + 1) nw := ⟨s4.1, fun i hi => by
    obtain ⟨⟨k, k1, k2⟩, k3⟩ := s4.2 i hi
    exact ⟨⟨k, by omega, k2⟩, k3⟩⟩
  have hI : iv (M.1 7) (M.1 8) (fun k => if k = nb then b else pn k) (upd (M.1 3) nb m) (nb + 1) nw (nI ck) := by
    refine ⟨fun i hi => ?_, i2, fun k hk => ?_, fun k k0 hk => ?_⟩
    · obtain ⟨⟨k, k1, k2⟩, _⟩ := s4.2 i hi
      obtain ⟨z1, z2, z3⟩ := i1 i hi
      rw [k2, nI_clamp (by omega)] at z3 ⊢
      rw [pk_un (by omega)]
      exact ⟨z1, z2, z3⟩
    · by_cases z : k = nb
      · subst z; rw [pk_us]; exact hmc
      · rw [pk_un z]; exact i3 k (by omega)
    · show upd (M.1 3) nb m (if k = nb then b else pn k) ≤ upd (M.1 3) nb m k
      by_cases z : k = nb
      · subst z; rw [if_pos rfl, pk_us, pk_un (by omega)]; exact hmf
      · have := p1 k k0 (by omega)
        rw [if_neg z, pk_un z, pk_un (by omega)]
        exact i4 k k0 (by omega)
  unfold RL bpS moS tx tm
  unfold tx at x1
  unfold tm at x2
  rw [e27 1 (by decide) (by decide), e27 2 (by decide) (by decide), e27 7 (by decide) (by decide), e27 14 (by decide) (by decide), a2, a3, a4, b2, b3, b4, e1, e2, e 0 (by decide) (by decide) (by decide) (by decide) (by decide) (by decide) (by decide) (by decide), e 6 (by decide) (by decide) (by decide) (by decide) (by decide) (by decide) (by decide) (by decide), e 7 (by decide) (by decide) (by decide) (by decide) (by decide) (by decide) (by decide) (by decide), e 8 (by decide) (by decide) (by decide) (by decide) (by decide) (by decide) (by decide) (by decide), e 9 (by decide) (by decide) (by decide) (by decide) (by decide) (by decide) (by decide) (by decide), e 10 (by decide) (by decide) (by decide) (by decide) (by decide) (by decide) (by decide) (by decide), e 11 (by decide) (by decide) (by decide) (by decide) (by decide) (by decide) (by decide) (by decide), e 25 (by decide) (by decide) (by decide) (by decide) (by decide) (by decide) (by decide) (by decide), e 26 (by decide) (by decide) (by decide) (by decide) (by decide) (by decide) (by decide) (by decide), e 31 (by decide) (by decide) (by decide) (by decide) (by decide) (by decide) (by decide) (by decide), e 32 (by decide) (by decide) (by decide) (by decide) (by decide) (by decide) (by decide) (by decide), e 33 (by decide) (by decide) (by decide) (by decide) (by decide) (by decide) (by decide) (by decide), e 34 (by decide) (by decide) (by decide) (by decide) (by decide) (by decide) (by decide) (by decide), e 35 (by decide) (by decide) (by decide) (by decide) (by decide) (by decide) (by decide) (by decide), e 37 (by decide) (by decide) (by decide) (by decide) (by decide) (by decide) (by decide) (by decide)]
  refine ⟨⟨c1, hP, s3, hR, s5, s6⟩, ⟨c2, hP, t3, by rw [e3, e5]; exact hR, t5, t6, t7, ?_, by omega⟩, ⟨rfl, rfl, e3, e4, e5, e6, e7, e8⟩, fun k hk' => ?_, hh, hI, hk, x1, x2⟩
  · rw [pk_un (by omega), ← e1]; exact t8
  · by_cases z : k = nb
    · subst z; rw [pk_us, pk_us]; decide
    · rw [pk_un z, pk_un z]; exact ho k (by omega)
/-- behind 'type' -/
theorem ty_ok {w : Int32} {t : Nat → Int32} {len : Nat} (hb : ∀ j, j < 4 → ¬ ty_bad w j = true) (h : ∀ i, i < len → ∃ n, n < 127 ∧ t i = nI n) : ∀ k, k ≤ 4 → ∀ i, i < len + sp_cnt (ty_on w) k → ∃ n, n < 127 ∧ ty_t w t len k i = nI n := by
  intro k
  induction k with
  | zero => intro _ i hi; exact h i hi
  | succ k ih =>
    intro hk i hi
    by_cases ho : ty_on w k = true
    · rw [ty_t_t ho]
      rw [← sp_cnt_t ho] at hi
      by_cases z : i = len + sp_cnt (ty_on w) k
      · subst z
        rw [pk_us]
        obtain ⟨n, hn, e⟩ := by_n w k
        refine ⟨n, ?_, e⟩
        have h1 := hb k (by omega)
        unfold ty_bad at h1
        unfold ty_on at ho
        have h2 : ¬ 126 < by_u w k := fun y => h1 (by simp at ho; simp [ho, y])
        rw [e] at h2
        refine Classical.byContradiction (fun y => h2 ?_)
        exact nI_lt (a := 126) (by omega) (by omega)
      · rw [pk_un z]
        exact ih (by omega) i (by omega)
    · rw [ty_t_f ho]
      rw [← sp_cnt_f ho] at hi
      exact ih (by omega) i hi
theorem rl_type {M M' : am_M} {pn : Nat → Nat} {nb nw ck len : Nat} {q : Nat → Nat} {w : Int32} (h : RL M pn nb nw ck len q) (hb : ∀ j, j < 4 → ¬ ty_bad w j = true) (hl : len + sp_cnt (ty_on w) 4 ≤ 32) (e : ∀ p, p ≠ 25 → p ≠ 26 → p ≠ 27 → p ≠ 37 → M'.1 p = M.1 p) (e27 : ∀ s, s ≠ 0 → s ≠ 14 → M'.1 27 s = M.1 27 s) (c1 : M'.1 25 1 = nI (len + sp_cnt (ty_on w) 4)) (c2 : M'.1 27 14 = nI (len + sp_cnt (ty_on w) 4)) (a1 : M'.1 26 = ty_t w (M.1 26) len 4) (a2 : M'.1 37 = ty_t w (M.1 37) len 4) : RL M' pn nb nw ck (len + sp_cnt (ty_on w) 4) (fun i => (M'.1 26 i).toNatClampNeg) := by
  obtain ⟨hbs, hms, ⟨e1, e2, e3, e4, e5, e6, e7, e8⟩, ho, hh, hiv, hk, x1, x2⟩ := h
  have hch : ∀ i, i < len + sp_cnt (ty_on w) 4 → M'.1 26 i = nI ((M'.1 26 i).toNatClampNeg) ∧ (M'.1 26 i).toNatClampNeg < 127 := by
    intro i hi
    obtain ⟨n, hn, en⟩ := ty_ok hb (fun i hi => ⟨q i, (x1.2.2 i hi).2, (x1.2.2 i hi).1⟩) 4 (Nat.le_refl _) i hi
    rw [a1, en, nI_clamp (by omega)]
    exact ⟨rfl, hn⟩
  have e37 : M'.1 37 = M'.1 26 := by rw [a1, a2, e8]
  refine ⟨?_, ?_, ⟨?_, ?_, ?_, ?_, ?_, ?_, ?_, e37⟩, ?_, ?_, ?_, ?_, ⟨c1, hl, hch⟩, ⟨c2, hl, by rw [e37]; exact hch⟩⟩
  · unfold bpS at hbs ⊢
    rw [e 0 (by decide) (by decide) (by decide) (by decide), e 1 (by decide) (by decide) (by decide) (by decide), e 2 (by decide) (by decide) (by decide) (by decide), e 3 (by decide) (by decide) (by decide) (by decide), e 6 (by decide) (by decide) (by decide) (by decide), e 7 (by decide) (by decide) (by decide) (by decide), e 9 (by decide) (by decide) (by decide) (by decide)]
    exact hbs
  · unfold moS at hms ⊢
    rw [e27 3 (by decide) (by decide), e27 7 (by decide) (by decide), e27 1 (by decide) (by decide), e 28 (by decide) (by decide) (by decide) (by decide), e 29 (by decide) (by decide) (by decide) (by decide), e 31 (by decide) (by decide) (by decide) (by decide), e 32 (by decide) (by decide) (by decide) (by decide), e 33 (by decide) (by decide) (by decide) (by decide)]
    exact hms
  · rw [e 28 (by decide) (by decide) (by decide) (by decide), e 2 (by decide) (by decide) (by decide) (by decide)]; exact e1
  · rw [e 29 (by decide) (by decide) (by decide) (by decide), e 3 (by decide) (by decide) (by decide) (by decide)]; exact e2
  · rw [e 31 (by decide) (by decide) (by decide) (by decide), e 7 (by decide) (by decide) (by decide) (by decide)]; exact e3
  · rw [e 32 (by decide) (by decide) (by decide) (by decide), e 8 (by decide) (by decide) (by decide) (by decide)]; exact e4
  · rw [e 33 (by decide) (by decide) (by decide) (by decide), e 9 (by decide) (by decide) (by decide) (by decide)]; exact e5
  · rw [e 34 (by decide) (by decide) (by decide) (by decide), e 10 (by decide) (by decide) (by decide) (by decide)]; exact e6
  · rw [e 35 (by decide) (by decide) (by decide) (by decide), e 11 (by decide) (by decide) (by decide) (by decide)]; exact e7
  · rw [e 30 (by decide) (by decide) (by decide) (by decide), e 4 (by decide) (by decide) (by decide) (by decide)]; exact ho
  · rw [e27 2 (by decide) (by decide), e 0 (by decide) (by decide) (by decide) (by decide)]; exact hh
  · rw [e 7 (by decide) (by decide) (by decide) (by decide), e 8 (by decide) (by decide) (by decide) (by decide), e 3 (by decide) (by decide) (by decide) (by decide)]; exact hiv
  · rw [e 10 (by decide) (by decide) (by decide) (by decide), e 11 (by decide) (by decide) (by decide) (by decide)]; exact hk
