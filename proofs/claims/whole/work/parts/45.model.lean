/-! the model: trim, along, against, reach -/
theorem moS_36 {M M' : am_M} {pn : Nat → Nat} {nb nw ck : Nat} (h : moS M pn nb nw ck) (c : fr [36] M M') : moS M' pn nb nw ck := by
  unfold moS at h ⊢
  rw [c.eq 27 (by decide), c.eq 28 (by decide), c.eq 29 (by decide), c.eq 31 (by decide), c.eq 32 (by decide), c.eq 33 (by decide)]
  exact h
theorem mo_gv_36 {M M' : am_M} {pn : Nat → Nat} {nw b w : Nat} (h : fr [36] M M') : mo_gv M' pn nw b w = mo_gv M pn nw b w := by
  unfold mo_gv mo_at mo_first mo_row
  rw [h.eq 27 (by decide), h.eq 29 (by decide), h.eq 30 (by decide), h.eq 31 (by decide), h.eq 32 (by decide), h.eq 33 (by decide)]
theorem moS_h {M : am_M} {pn : Nat → Nat} {nb nw ck : Nat} (h : moS M pn nb nw ck) (x : Int32) : moS (am_set (am_set M 27 0 0) 27 2 x) pn nb nw ck := h
theorem mo_gv_h {M : am_M} {x : Int32} {pn : Nat → Nat} {nw b w : Nat} : mo_gv (am_set (am_set M 27 0 0) 27 2 x) pn nw b w = mo_gv (am_set M 27 2 x) pn nw b w := rfl
theorem sp_any_t {f : Nat → Bool} {n : Nat} (h : f n = true) : sp_any f (n + 1) = true := by simp [sp_any, h]
theorem sp_any_f {f : Nat → Bool} {n : Nat} (h : ¬ f n = true) : sp_any f (n + 1) = sp_any f n := by simp [sp_any, h]
theorem sp_any_o {f : Nat → Bool} {n : Nat} (h : sp_any f n = true) : sp_any f (n + 1) = true := by simp [sp_any, h]
set_option maxHeartbeats 1000000 in
theorem q_trim {pn : Nat → Nat} {nb nw ck : Nat} {M : am_M} {Q : am_T} (hS : moS M pn nb nw ck) {x : Int32} (h1 : (x < M.1 27 2 ∨ M.1 27 1 < x) → ∀ M', cd M M' 1 → Q (.inl (some (.int 0))) M') (h0 : ¬ x < M.1 27 2 → x ≤ M.1 27 1 → ∀ M', fr [27, 31, 32, 33, 34, 35, 36] M M' → M'.1 27 0 = 0 → M'.1 27 2 = x → M'.1 27 7 = nI (sp_cnt (fun j => sp_any (fun b => mo_gv (am_set M 27 2 x) pn nw b j) nb) nw) → (∀ s, s ≠ 0 → s ≠ 2 → s ≠ 7 → M'.1 27 s = M.1 27 s) → (∀ p, 31 ≤ p → p ≤ 35 → M'.1 p = sp_cp (fun j => sp_any (fun b => mo_gv (am_set M 27 2 x) pn nw b j) nb) (M.1 p) nw) → Q (.inl (some (.int (nI (nw - sp_cnt (fun j => sp_any (fun b => mo_gv (am_set M 27 2 x) pn nw b j) nb) nw))))) M') : am_W kM_trim 0 (am_in kM_trim [.ref 27, .int x]) [] M Q := by
  have hS0 := hS
  obtain ⟨s1, s2, s3, s4, s5, s6, s7, s8, s9⟩ := hS
  have s26 := s2.1
  have s41 := s4.1
  have T0 := moS_h hS0 x
  have inner : ∀ w, w < nw → (∀ M2 : am_M, fr [36] (am_set (am_set M 27 0 0) 27 2 x) M2 → (∀ j, j < w → M2.1 36 j = if sp_any (fun b => mo_gv (am_set (am_set M 27 0 0) 27 2 x) pn nw b j) nb = true then 1 else 0) → (M2.1 36 w = if sp_any (fun b => mo_gv (am_set (am_set M 27 0 0) 27 2 x) pn nw b w) nb = true then 1 else 0) → am_W kM_trim 101 [.ref 27, .int x, .int (nI w), .int (nI nb)] [] M2 Q) → ∀ i, i ≤ nb → ∀ M2 : am_M, fr [36] (am_set (am_set M 27 0 0) 27 2 x) M2 → (∀ j, j < w → M2.1 36 j = if sp_any (fun b => mo_gv (am_set (am_set M 27 0 0) 27 2 x) pn nw b j) nb = true then 1 else 0) → (M2.1 36 w = if sp_any (fun b => mo_gv (am_set (am_set M 27 0 0) 27 2 x) pn nw b w) i = true then 1 else 0) → am_W kM_trim 58 [.ref 27, .int x, .int (nI w), .int (nI i)] [] M2 Q := by
    intro w h46 nxt
    refine am_loop nb (fun i hi ih => ?_)
    intro M2 f2 I1 I2
    refine am_iload_n d58_58 rfl ?_
    refine am_aload_n d58_59 rfl ?_
    refine am_geti d58_60 fl58_7 sh_27 rfl ?_
    rw [(moS_36 T0 f2).1]
    refine am_icgeN 101 i nb d58_63 (by decide) rfl rfl (by omega) (by omega) (fun h => ?_) (fun h63 => ?_)
    · obtain rfl : i = nb := by omega
      exact nxt M2 f2 I1 I2
    · skip
      refine am_aload_n d58_66 rfl ?_
      refine am_getr d58_67 fl58_39 sh_27 rfl ?_
      refine am_iload_n d58_70 rfl ?_
      refine am_aload_n d58_71 rfl ?_
      refine am_getr d58_72 fl58_39 sh_27 rfl ?_
      refine am_iload_n d58_75 rfl ?_
      refine am_zaldN w d58_76 sh_36 (by omega) (by decide) ?_
      rw [I2]
      by_cases hs : sp_any (fun b => mo_gv (am_set (am_set M 27 0 0) 27 2 x) pn nw b w) i = true
      · rw [if_pos hs]
        refine am_ifne 89 d58_77 (by decide) (fun _ => ?_) (fun h => absurd h (by decide))
        refine am_iconst 1 d58_89 (by decide) ?_
        refine am_goto 94 d58_90 (by decide) ?_
        refine am_zastN w 1 d58_94 sh_36 (by omega) (by decide) (by decide) ?_
        refine am_incN i d58_95 rfl rfl ?_
        refine am_goto 58 d58_98 (by decide) ?_
        exact ih h63 _ (f2.set (by simp)) (fun j hj => by rw [am_set_self, pk_un (by omega)]; exact I1 j hj) (by rw [am_set_self, pk_us, if_pos (sp_any_o hs)])
      · rw [if_neg hs]
        refine am_ifne 89 d58_77 (by decide) (fun h => absurd rfl h) (fun _ => ?_)
        refine am_aload_n d58_80 rfl ?_
        refine am_iload_n d58_81 rfl ?_
        refine am_iload_n d58_82 rfl ?_
        refine am_cv2 43 d58_83 ml58_93 rfl (by decide) sh_27 rfl rfl rfl (Nat.le_of_ble_eq_true rfl) ?_
        refine m_gives (moS_36 T0 f2) h63 h46 (fun gg => ?_) (fun gg => ?_)
        · show am_W 58 86 _ (.int 1 :: _) _ _
          rw [mo_gv_36 f2] at gg
          refine am_ifeq 93 d58_86 (by decide) (fun h => absurd h (by decide)) (fun _ => ?_)
          refine am_iconst 1 d58_89 (by decide) ?_
          refine am_goto 94 d58_90 (by decide) ?_
          refine am_zastN w 1 d58_94 sh_36 (by omega) (by decide) (by decide) ?_
          refine am_incN i d58_95 rfl rfl ?_
          refine am_goto 58 d58_98 (by decide) ?_
          exact ih h63 _ (f2.set (by simp)) (fun j hj => by rw [am_set_self, pk_un (by omega)]; exact I1 j hj) (by rw [am_set_self, pk_us, if_pos (sp_any_t (f := fun b => mo_gv (am_set (am_set M 27 0 0) 27 2 x) pn nw b w) gg)])
        · show am_W 58 86 _ (.int 0 :: _) _ _
          rw [mo_gv_36 f2] at gg
          refine am_ifeq 93 d58_86 (by decide) (fun _ => ?_) (fun h => absurd h (by decide))
          refine am_iconst 0 d58_93 (by decide) ?_
          refine am_zastN w 0 d58_94 sh_36 (by omega) (by decide) (by decide) ?_
          refine am_incN i d58_95 rfl rfl ?_
          refine am_goto 58 d58_98 (by decide) ?_
          exact ih h63 _ (f2.set (by simp)) (fun j hj => by rw [am_set_self, pk_un (by omega)]; exact I1 j hj) (by rw [am_set_self, pk_us, sp_any_f (f := fun b => mo_gv (am_set (am_set M 27 0 0) 27 2 x) pn nw b w) gg, if_neg hs])
  have outer : ¬ x < M.1 27 2 → x ≤ M.1 27 1 → ∀ w, w ≤ nw → ∀ (y : Value) (M1 : am_M), fr [36] (am_set (am_set M 27 0 0) 27 2 x) M1 → (∀ j, j < w → M1.1 36 j = if sp_any (fun b => mo_gv (am_set (am_set M 27 0 0) 27 2 x) pn nw b j) nb = true then 1 else 0) → am_W kM_trim 41 [.ref 27, .int x, .int (nI w), y] [] M1 Q := by
    intro g6 g14
    have part2 : ∀ M1 : am_M, fr [36] (am_set (am_set M 27 0 0) 27 2 x) M1 → (∀ j, j < nw → M1.1 36 j = if sp_any (fun b => mo_gv (am_set (am_set M 27 0 0) 27 2 x) pn nw b j) nb = true then 1 else 0) → ∀ (z : Int32) (y : Value), am_W kM_trim 107 [.ref 27, .int x, .int z, y] [] M1 Q := by
      intro M1 f1 I z y
      have loop : ∀ i, i ≤ nw → ∀ M2 : am_M, fr [31, 32, 33, 34, 35] M1 M2 → (∀ p, 31 ≤ p → p ≤ 35 → M2.1 p = sp_cp (fun i => !decide (M1.1 36 i = 0)) (M1.1 p) i) → am_W kM_trim 111 [.ref 27, .int x, .int (nI (sp_cnt (fun i => !decide (M1.1 36 i = 0)) i)), .int (nI i)] [] M2 Q := by
        refine am_loop nw (fun i hi ih => ?_)
        intro M2 f3 J
        refine am_iload_n d58_111 rfl ?_
        refine am_aload_n d58_112 rfl ?_
        refine am_geti d58_113 fl58_58 sh_27 rfl ?_
        rw [f3.eq 27 (by decide), f1.eq 27 (by decide)]
        rw [show (am_set (am_set M 27 0 0) 27 2 x).1 27 7 = nI nw from s3]
        refine am_icgeN 197 i nw d58_116 (by decide) rfl rfl (by omega) (by omega) (fun h => ?_) (fun h116 => ?_)
        · obtain rfl : i = nw := by omega
          refine am_aload_n d58_197 rfl ?_
          refine am_geti d58_198 fl58_58 sh_27 rfl ?_
          rw [f3.eq 27 (by decide), f1.eq 27 (by decide)]
          rw [show (am_set (am_set M 27 0 0) 27 2 x).1 27 7 = nI i from s3]
          refine am_iload_n d58_201 rfl ?_
          refine am_isub d58_202 ?_
          rw [pk_sub (sp_cnt_le (fun i => !decide (M1.1 36 i = 0)) i)]
          refine am_istore_n d58_203 (Nat.le_of_ble_eq_true rfl) rfl ?_
          refine am_aload_n d58_204 rfl ?_
          refine am_iload_n d58_205 rfl ?_
          refine am_put d58_206 fl58_58 sh_27 rfl rfl rfl rfl ?_
          refine am_iload_n d58_209 rfl ?_
          refine am_iret d58_210 rfl rfl ?_
          have ek : ∀ j, j < i → (fun i => !decide (M1.1 36 i = 0)) j = (fun j => sp_any (fun b => mo_gv (am_set M 27 2 x) pn i b j) nb) j := fun j hj => by
            show (!decide (M1.1 36 j = 0)) = _
            rw [I j hj]
            by_cases p1 : sp_any (fun b => mo_gv (am_set (am_set M 27 0 0) 27 2 x) pn i b j) nb = true
            · rw [if_pos p1]; exact p1.symm
            · rw [if_neg p1]; exact (Bool.eq_false_iff.mpr p1).symm
          rw [sp_cnt_congr ek]
          refine h0 g6 g14 _ (((fr.rf.set (by simp)).set (by simp)).tr (((f1.wk (by simp)).tr (f3.wk (by simp))).set (by simp))) ?_ ?_ ?_ ?_ ?_
          · rw [am_set_self, pk_un (by decide), f3.eq 27 (by decide), f1.eq 27 (by decide)]; rfl
          · rw [am_set_self, pk_un (by decide), f3.eq 27 (by decide), f1.eq 27 (by decide)]; rfl
          · rw [am_set_self, pk_us]
          · intro s q0 q2 q7
            rw [am_set_self, pk_un q7, f3.eq 27 (by decide), f1.eq 27 (by decide), am_set_self, pk_un q2, am_set_self, pk_un q0]
          · intro p q1 q2
            rw [am_set_ne (by omega), J p q1 q2, sp_cp_congr ek, f1.eq p (by simp; omega), am_set_ne (by omega), am_set_ne (by omega)]
        · skip
          refine am_aload_n d58_119 rfl ?_
          refine am_getr d58_120 fl58_39 sh_27 rfl ?_
          refine am_iload_n d58_123 rfl ?_
          refine am_zaldN i d58_124 sh_36 (by omega) (by decide) ?_
          rw [f3.eq 36 (by decide)]
          refine am_ifeq 191 d58_125 (by decide) (fun h => ?_) (fun h => ?_)
          · have hno : ¬ (fun i => !decide (M1.1 36 i = 0)) i = true := by simp [h]
            rw [sp_cnt_f hno]
            refine am_incN i d58_191 rfl rfl ?_
            refine am_goto 111 d58_194 (by decide) ?_
            exact ih h116 M2 f3 (fun p q1 q2 => by rw [J p q1 q2, sp_cp_f hno])
          · have hon : (fun i => !decide (M1.1 36 i = 0)) i = true := by simp [h]
            have lc := sp_cnt_le (fun i => !decide (M1.1 36 i = 0)) i
            refine am_aload_n d58_128 rfl ?_
            refine am_getr d58_129 fl58_24 sh_27 rfl ?_
            refine am_iload_n d58_132 rfl ?_
            refine am_aload_n d58_133 rfl ?_
            refine am_getr d58_134 fl58_24 sh_27 rfl ?_
            refine am_iload_n d58_137 rfl ?_
            refine am_ialdN i d58_138 sh_31 (by omega) (by decide) ?_
            refine am_iastN (sp_cnt (fun i => !decide (M1.1 36 i = 0)) i) d58_139 sh_31 (by omega) (by decide) ?_
            refine am_aload_n d58_140 rfl ?_
            refine am_getr d58_141 fl58_27 sh_27 rfl ?_
            refine am_iload_n d58_144 rfl ?_
            refine am_aload_n d58_145 rfl ?_
            refine am_getr d58_146 fl58_27 sh_27 rfl ?_
            refine am_iload_n d58_149 rfl ?_
            refine am_ialdN i d58_150 sh_32 (by omega) (by decide) ?_
            refine am_iastN (sp_cnt (fun i => !decide (M1.1 36 i = 0)) i) d58_151 sh_32 (by omega) (by decide) ?_
            refine am_aload_n d58_152 rfl ?_
            refine am_getr d58_153 fl58_30 sh_27 rfl ?_
            refine am_iload_n d58_156 rfl ?_
            refine am_aload_n d58_157 rfl ?_
            refine am_getr d58_158 fl58_30 sh_27 rfl ?_
            refine am_iload_n d58_161 rfl ?_
            refine am_ialdN i d58_162 sh_33 (by omega) (by decide) ?_
            refine am_iastN (sp_cnt (fun i => !decide (M1.1 36 i = 0)) i) d58_163 sh_33 (by omega) (by decide) ?_
            refine am_aload_n d58_164 rfl ?_
            refine am_getr d58_165 fl58_33 sh_27 rfl ?_
            refine am_iload_n d58_168 rfl ?_
            refine am_aload_n d58_169 rfl ?_
            refine am_getr d58_170 fl58_33 sh_27 rfl ?_
            refine am_iload_n d58_173 rfl ?_
            refine am_ialdN i d58_174 sh_34 (by omega) (by decide) ?_
            refine am_iastN (sp_cnt (fun i => !decide (M1.1 36 i = 0)) i) d58_175 sh_34 (by omega) (by decide) ?_
            refine am_aload_n d58_176 rfl ?_
            refine am_getr d58_177 fl58_36 sh_27 rfl ?_
            refine am_iload_n d58_180 rfl ?_
            refine am_aload_n d58_181 rfl ?_
            refine am_getr d58_182 fl58_36 sh_27 rfl ?_
            refine am_iload_n d58_185 rfl ?_
            refine am_ialdN i d58_186 sh_35 (by omega) (by decide) ?_
            refine am_iastN (sp_cnt (fun i => !decide (M1.1 36 i = 0)) i) d58_187 sh_35 (by omega) (by decide) ?_
            refine am_incE (sp_cnt (fun i => !decide (M1.1 36 i = 0)) i) (sp_cnt (fun i => !decide (M1.1 36 i = 0)) (i + 1)) (sp_cnt_t hon) d58_188 rfl rfl ?_
            refine am_incN i d58_191 rfl rfl ?_
            refine am_goto 111 d58_194 (by decide) ?_
            refine ih h116 _ (((((f3.set (by simp)).set (by simp)).set (by simp)).set (by simp)).set (by simp)) (fun p q1 q2 => ?_)
            rw [sp_cp_t hon, ← J p q1 q2]
            have hp : p = 31 ∨ p = 32 ∨ p = 33 ∨ p = 34 ∨ p = 35 := by omega
            rcases hp with rfl | rfl | rfl | rfl | rfl <;> rfl
      refine am_iconst (nI 0) d58_107 (by decide) ?_
      refine am_istore_n d58_108 (Nat.le_of_ble_eq_true rfl) rfl ?_
      refine am_iconst (nI 0) d58_109 (by decide) ?_
      refine am_istore_n d58_110 (Nat.le_of_ble_eq_true rfl) rfl ?_
      exact loop 0 (Nat.zero_le _) M1 fr.rf (fun p _ _ => rfl)
    refine am_loop nw (fun w hi ih => ?_)
    intro y M1 f1 I
    refine am_iload_n d58_41 rfl ?_
    refine am_aload_n d58_42 rfl ?_
    refine am_geti d58_43 fl58_58 sh_27 rfl ?_
    rw [(moS_36 T0 f1).2.2.1]
    refine am_icgeN 107 w nw d58_46 (by decide) rfl rfl (by omega) (by omega) (fun h => ?_) (fun h46 => ?_)
    · obtain rfl : w = nw := by omega
      exact part2 M1 f1 I _ _
    · skip
      refine am_aload_n d58_49 rfl ?_
      refine am_getr d58_50 fl58_39 sh_27 rfl ?_
      refine am_iload_n d58_53 rfl ?_
      refine am_iconst 0 d58_54 (by decide) ?_
      refine am_zastN w 0 d58_55 sh_36 (by omega) (by decide) (by decide) ?_
      refine am_iconst (nI 0) d58_56 (by decide) ?_
      refine am_istore_n d58_57 (Nat.le_of_ble_eq_true rfl) rfl ?_
      refine inner w h46 ?_ 0 (Nat.zero_le _) _ (f1.set (by simp)) (fun j hj => by rw [am_set_self, pk_un (by omega)]; exact I j hj) (by rw [am_set_self, pk_us]; simp [sp_any])
      intro M2 f2 I1 I2
      refine am_incN w d58_101 rfl rfl ?_
      refine am_goto 41 d58_104 (by decide) ?_
      exact ih h46 _ _ f2 (fun j hj => by rcases Nat.lt_succ_iff_lt_or_eq.mp hj with q | rfl; exact I1 j q; exact I2)
  show am_W kM_trim 0 _ [] M Q
  refine am_aload_n d58_0 rfl ?_
  refine am_iload_n d58_1 rfl ?_
  refine am_aload_n d58_2 rfl ?_
  refine am_geti d58_3 fl58_48 sh_27 rfl ?_
  refine am_iclt 17 d58_6 (by decide) (fun h6 => ?_) (fun h6 => ?_)
  · refine am_iconst 1 d58_17 (by decide) ?_
    refine am_goto 22 d58_18 (by decide) ?_
    refine am_put d58_22 fl58_45 sh_27 rfl rfl rfl rfl ?_
    refine am_aload_n d58_25 rfl ?_
    refine am_geti d58_26 fl58_45 sh_27 rfl ?_
    show am_W 58 29 _ (.int 1 :: _) _ _
    refine am_ifle 34 d58_29 (by decide) (fun h => absurd h (by decide)) (fun _ => ?_)
    refine am_iconst 0 d58_32 (by decide) ?_
    refine am_iret d58_33 rfl rfl ?_
    first | exact h1 (Or.inl h6) _ (cd_0 M _) | exact h1 (Or.inr (Int32.not_le.mp h14)) _ (cd_0 M _)
  · refine am_iload_n d58_9 rfl ?_
    refine am_aload_n d58_10 rfl ?_
    refine am_geti d58_11 fl58_55 sh_27 rfl ?_
    refine am_icle 21 d58_14 (by decide) (fun h14 => ?_) (fun h14 => ?_)
    · refine am_iconst 0 d58_21 (by decide) ?_
      refine am_put d58_22 fl58_45 sh_27 rfl rfl rfl rfl ?_
      refine am_aload_n d58_25 rfl ?_
      refine am_geti d58_26 fl58_45 sh_27 rfl ?_
      show am_W 58 29 _ (.int 0 :: _) _ _
      refine am_ifle 34 d58_29 (by decide) (fun _ => ?_) (fun h => absurd h (by decide))
      refine am_aload_n d58_34 rfl ?_
      refine am_iload_n d58_35 rfl ?_
      refine am_put d58_36 fl58_48 sh_27 rfl rfl rfl rfl ?_
      refine am_iconst (nI 0) d58_39 (by decide) ?_
      refine am_istore_n d58_40 (Nat.le_of_ble_eq_true rfl) rfl ?_
      exact outer h6 h14 0 (Nat.zero_le _) _ _ fr.rf (fun j hj => absurd hj (Nat.not_lt_zero _))
    · refine am_iconst 1 d58_17 (by decide) ?_
      refine am_goto 22 d58_18 (by decide) ?_
      refine am_put d58_22 fl58_45 sh_27 rfl rfl rfl rfl ?_
      refine am_aload_n d58_25 rfl ?_
      refine am_geti d58_26 fl58_45 sh_27 rfl ?_
      show am_W 58 29 _ (.int 1 :: _) _ _
      refine am_ifle 34 d58_29 (by decide) (fun h => absurd h (by decide)) (fun _ => ?_)
      refine am_iconst 0 d58_32 (by decide) ?_
      refine am_iret d58_33 rfl rfl ?_
      first | exact h1 (Or.inl h6) _ (cd_0 M _) | exact h1 (Or.inr (Int32.not_le.mp h14)) _ (cd_0 M _)
theorem m_along0 {pn : Nat → Nat} {nb nw ck : Nat} {M : am_M} {Q : am_T} (hS : moS M pn nb nw ck) {b f : Nat} {s x : Int32} (hb : b < nb) (hf : f < 4) (hQ : Q (.inl (some (.int (sp_or (fun o => sp_isin s o && decide (sp_get (M.1 34) 0 (mo_row M pn nw b x (4 * o + f)) = 2)) (fun o => (1 : Int32) <<< ((sp_get (M.1 35) 0 (mo_row M pn nw b x (4 * o + f))) &&& 31)) 12)))) M) : am_W kM_along 0 (am_in kM_along [.ref 27, .int s, .int (nI f), .int (nI b), .int x]) [] M Q := by
  have hS0 := hS
  obtain ⟨s1, s2, s3, s4, s5, s6, s7, s8, s9⟩ := hS
  have s26 := s2.1
  have s41 := s4.1
  have loop : ∀ i, i ≤ 12 → ∀ y : Value, am_W kM_along 6 [.ref 27, .int s, .int (nI f), .int (nI b), .int x, .int (sp_or (fun o => sp_isin s o && decide (sp_get (M.1 34) 0 (mo_row M pn nw b x (4 * o + f)) = 2)) (fun o => (1 : Int32) <<< ((sp_get (M.1 35) 0 (mo_row M pn nw b x (4 * o + f))) &&& 31)) i), .int (nI i), y] [] M Q := by
    refine am_loop 12 (fun i hi ih => ?_)
    intro y
    refine am_iload d59_6 rfl ?_
    refine am_bipush (nI 12) d59_8 (by decide) ?_
    refine am_icgeN 72 i 12 d59_10 (by decide) rfl rfl (by omega) (by decide) (fun h10 => ?_) (fun h10 => ?_)
    · refine am_iload d59_72 rfl ?_
      refine am_iret d59_74 rfl rfl ?_
      obtain rfl : i = 12 := by omega
      exact hQ
    · refine am_aload_n d59_13 rfl ?_
      refine am_iload_n d59_14 rfl ?_
      refine am_iload d59_15 rfl ?_
      refine am_iconst (nI 4) d59_17 (by decide) ?_
      refine am_iload d59_18 rfl ?_
      refine am_mulN d59_20 ?_
      refine am_iload_n d59_21 rfl ?_
      refine am_addN d59_22 ?_
      refine am_cv3 39 d59_23 ml59_75 rfl (by decide) sh_27 rfl rfl rfl rfl (Nat.le_of_ble_eq_true rfl) ?_
      refine m_latest hS0 hb ?_
      show am_W 59 26 _ (.int _ :: _) _ _
      refine am_istore d59_26 (Nat.le_of_ble_eq_true rfl) rfl ?_
      refine am_iload_n d59_28 rfl ?_
      refine am_iload d59_29 rfl ?_
      refine am_ishr d59_31 ?_
      refine am_iconst 1 d59_32 (by decide) ?_
      refine am_iand d59_33 ?_
      refine am_iconst 1 d59_34 (by decide) ?_
      refine am_icne 62 d59_35 (by decide) (fun h35 => ?_) (fun h35 => ?_)
      · refine am_iload d59_62 rfl ?_
        refine am_istore d59_64 (Nat.le_of_ble_eq_true rfl) rfl ?_
        refine am_incN i d59_66 rfl rfl ?_
        refine am_goto 6 d59_69 (by decide) ?_
        first | (have hz := ih h10 (.int (lt_v (mo_row M pn nw b x (4 * i + f)))); rw [sp_or_t (c := (fun o => sp_isin s o && decide (sp_get (M.1 34) 0 (mo_row M pn nw b x (4 * o + f)) = 2))) (g := (fun o => (1 : Int32) <<< ((sp_get (M.1 35) 0 (mo_row M pn nw b x (4 * o + f))) &&& 31))) (n := i) (by simp [sp_isin, *])] at hz; exact hz) | (have hz := ih h10 (.int (lt_v (mo_row M pn nw b x (4 * i + f)))); rw [sp_or_f (c := (fun o => sp_isin s o && decide (sp_get (M.1 34) 0 (mo_row M pn nw b x (4 * o + f)) = 2))) (g := (fun o => (1 : Int32) <<< ((sp_get (M.1 35) 0 (mo_row M pn nw b x (4 * o + f))) &&& 31))) (n := i) (by simp [sp_isin, *])] at hz; exact hz)
      · refine am_aload_n d59_38 rfl ?_
        refine am_iload d59_39 rfl ?_
        refine am_cv1 40 d59_41 ml59_65 rfl (by decide) sh_27 rfl rfl (Nat.le_of_ble_eq_true rfl) ?_
        refine m_kindOf (r := (mo_row M pn nw b x (4 * i + f))) (fun i hi => by have := mo_row_lt hi; omega) ?_
        show am_W 59 44 _ (.int _ :: _) _ _
        refine am_iconst 2 d59_44 (by decide) ?_
        refine am_icne 62 d59_45 (by decide) (fun h45 => ?_) (fun h45 => ?_)
        · refine am_iload d59_62 rfl ?_
          refine am_istore d59_64 (Nat.le_of_ble_eq_true rfl) rfl ?_
          refine am_incN i d59_66 rfl rfl ?_
          refine am_goto 6 d59_69 (by decide) ?_
          first | (have hz := ih h10 (.int (lt_v (mo_row M pn nw b x (4 * i + f)))); rw [sp_or_t (c := (fun o => sp_isin s o && decide (sp_get (M.1 34) 0 (mo_row M pn nw b x (4 * o + f)) = 2))) (g := (fun o => (1 : Int32) <<< ((sp_get (M.1 35) 0 (mo_row M pn nw b x (4 * o + f))) &&& 31))) (n := i) (by simp [sp_isin, *])] at hz; exact hz) | (have hz := ih h10 (.int (lt_v (mo_row M pn nw b x (4 * i + f)))); rw [sp_or_f (c := (fun o => sp_isin s o && decide (sp_get (M.1 34) 0 (mo_row M pn nw b x (4 * o + f)) = 2))) (g := (fun o => (1 : Int32) <<< ((sp_get (M.1 35) 0 (mo_row M pn nw b x (4 * o + f))) &&& 31))) (n := i) (by simp [sp_isin, *])] at hz; exact hz)
        · refine am_iload d59_48 rfl ?_
          refine am_iconst 1 d59_50 (by decide) ?_
          refine am_aload_n d59_51 rfl ?_
          refine am_iload d59_52 rfl ?_
          refine am_cv1 41 d59_54 ml59_68 rfl (by decide) sh_27 rfl rfl (Nat.le_of_ble_eq_true rfl) ?_
          refine m_valueOf (r := (mo_row M pn nw b x (4 * i + f))) (fun i hi => by have := mo_row_lt hi; omega) ?_
          show am_W 59 57 _ (.int _ :: _) _ _
          refine am_ishl d59_57 ?_
          refine am_ior d59_58 ?_
          refine am_goto 64 d59_59 (by decide) ?_
          refine am_istore d59_64 (Nat.le_of_ble_eq_true rfl) rfl ?_
          refine am_incN i d59_66 rfl rfl ?_
          refine am_goto 6 d59_69 (by decide) ?_
          first | (have hz := ih h10 (.int (lt_v (mo_row M pn nw b x (4 * i + f)))); rw [sp_or_t (c := (fun o => sp_isin s o && decide (sp_get (M.1 34) 0 (mo_row M pn nw b x (4 * o + f)) = 2))) (g := (fun o => (1 : Int32) <<< ((sp_get (M.1 35) 0 (mo_row M pn nw b x (4 * o + f))) &&& 31))) (n := i) (by simp [sp_isin, *])] at hz; exact hz) | (have hz := ih h10 (.int (lt_v (mo_row M pn nw b x (4 * i + f)))); rw [sp_or_f (c := (fun o => sp_isin s o && decide (sp_get (M.1 34) 0 (mo_row M pn nw b x (4 * o + f)) = 2))) (g := (fun o => (1 : Int32) <<< ((sp_get (M.1 35) 0 (mo_row M pn nw b x (4 * o + f))) &&& 31))) (n := i) (by simp [sp_isin, *])] at hz; exact hz)
  show am_W kM_along 0 _ [] M Q
  refine am_iconst 0 d59_0 (by decide) ?_
  refine am_istore d59_1 (Nat.le_of_ble_eq_true rfl) rfl ?_
  refine am_iconst (nI 0) d59_3 (by decide) ?_
  refine am_istore d59_4 (Nat.le_of_ble_eq_true rfl) rfl ?_
  exact loop 0 (by decide) _
theorem m_against0 {pn : Nat → Nat} {nb nw ck : Nat} {M : am_M} {Q : am_T} (hS : moS M pn nb nw ck) {b f : Nat} {s x : Int32} (hb : b < nb) (hf : f < 4) (hQ : Q (.inl (some (.int (sp_or (fun o => decide (sp_get (M.1 34) 0 (mo_row M pn nw b x (4 * o + f)) = 2) && decide ((s >>> ((sp_get (M.1 35) 0 (mo_row M pn nw b x (4 * o + f))) &&& 31)) &&& 1 = 1)) (fun o => (1 : Int32) <<< (nI o &&& 31)) 12)))) M) : am_W kM_against 0 (am_in kM_against [.ref 27, .int s, .int (nI f), .int (nI b), .int x]) [] M Q := by
  have hS0 := hS
  obtain ⟨s1, s2, s3, s4, s5, s6, s7, s8, s9⟩ := hS
  have s26 := s2.1
  have s41 := s4.1
  have loop : ∀ i, i ≤ 12 → ∀ y : Value, am_W kM_against 6 [.ref 27, .int s, .int (nI f), .int (nI b), .int x, .int (sp_or (fun o => decide (sp_get (M.1 34) 0 (mo_row M pn nw b x (4 * o + f)) = 2) && decide ((s >>> ((sp_get (M.1 35) 0 (mo_row M pn nw b x (4 * o + f))) &&& 31)) &&& 1 = 1)) (fun o => (1 : Int32) <<< (nI o &&& 31)) i), .int (nI i), y] [] M Q := by
    refine am_loop 12 (fun i hi ih => ?_)
    intro y
    refine am_iload d60_6 rfl ?_
    refine am_bipush (nI 12) d60_8 (by decide) ?_
    refine am_icgeN 72 i 12 d60_10 (by decide) rfl rfl (by omega) (by decide) (fun h10 => ?_) (fun h10 => ?_)
    · refine am_iload d60_72 rfl ?_
      refine am_iret d60_74 rfl rfl ?_
      obtain rfl : i = 12 := by omega
      exact hQ
    · refine am_aload_n d60_13 rfl ?_
      refine am_iload_n d60_14 rfl ?_
      refine am_iload d60_15 rfl ?_
      refine am_iconst (nI 4) d60_17 (by decide) ?_
      refine am_iload d60_18 rfl ?_
      refine am_mulN d60_20 ?_
      refine am_iload_n d60_21 rfl ?_
      refine am_addN d60_22 ?_
      refine am_cv3 39 d60_23 ml60_75 rfl (by decide) sh_27 rfl rfl rfl rfl (Nat.le_of_ble_eq_true rfl) ?_
      refine m_latest hS0 hb ?_
      show am_W 60 26 _ (.int _ :: _) _ _
      refine am_istore d60_26 (Nat.le_of_ble_eq_true rfl) rfl ?_
      refine am_aload_n d60_28 rfl ?_
      refine am_iload d60_29 rfl ?_
      refine am_cv1 40 d60_31 ml60_65 rfl (by decide) sh_27 rfl rfl (Nat.le_of_ble_eq_true rfl) ?_
      refine m_kindOf (r := (mo_row M pn nw b x (4 * i + f))) (fun i hi => by have := mo_row_lt hi; omega) ?_
      show am_W 60 34 _ (.int _ :: _) _ _
      refine am_iconst 2 d60_34 (by decide) ?_
      refine am_icne 62 d60_35 (by decide) (fun h35 => ?_) (fun h35 => ?_)
      · refine am_iload d60_62 rfl ?_
        refine am_istore d60_64 (Nat.le_of_ble_eq_true rfl) rfl ?_
        refine am_incN i d60_66 rfl rfl ?_
        refine am_goto 6 d60_69 (by decide) ?_
        first | (have hz := ih h10 (.int (lt_v (mo_row M pn nw b x (4 * i + f)))); rw [sp_or_t (c := (fun o => decide (sp_get (M.1 34) 0 (mo_row M pn nw b x (4 * o + f)) = 2) && decide ((s >>> ((sp_get (M.1 35) 0 (mo_row M pn nw b x (4 * o + f))) &&& 31)) &&& 1 = 1))) (g := (fun o => (1 : Int32) <<< (nI o &&& 31))) (n := i) (by simp [sp_isin, *])] at hz; exact hz) | (have hz := ih h10 (.int (lt_v (mo_row M pn nw b x (4 * i + f)))); rw [sp_or_f (c := (fun o => decide (sp_get (M.1 34) 0 (mo_row M pn nw b x (4 * o + f)) = 2) && decide ((s >>> ((sp_get (M.1 35) 0 (mo_row M pn nw b x (4 * o + f))) &&& 31)) &&& 1 = 1))) (g := (fun o => (1 : Int32) <<< (nI o &&& 31))) (n := i) (by simp [sp_isin, *])] at hz; exact hz)
      · refine am_iload_n d60_38 rfl ?_
        refine am_aload_n d60_39 rfl ?_
        refine am_iload d60_40 rfl ?_
        refine am_cv1 41 d60_42 ml60_68 rfl (by decide) sh_27 rfl rfl (Nat.le_of_ble_eq_true rfl) ?_
        refine m_valueOf (r := (mo_row M pn nw b x (4 * i + f))) (fun i hi => by have := mo_row_lt hi; omega) ?_
        show am_W 60 45 _ (.int _ :: _) _ _
        refine am_ishr d60_45 ?_
        refine am_iconst 1 d60_46 (by decide) ?_
        refine am_iand d60_47 ?_
        refine am_iconst 1 d60_48 (by decide) ?_
        refine am_icne 62 d60_49 (by decide) (fun h49 => ?_) (fun h49 => ?_)
        · refine am_iload d60_62 rfl ?_
          refine am_istore d60_64 (Nat.le_of_ble_eq_true rfl) rfl ?_
          refine am_incN i d60_66 rfl rfl ?_
          refine am_goto 6 d60_69 (by decide) ?_
          first | (have hz := ih h10 (.int (lt_v (mo_row M pn nw b x (4 * i + f)))); rw [sp_or_t (c := (fun o => decide (sp_get (M.1 34) 0 (mo_row M pn nw b x (4 * o + f)) = 2) && decide ((s >>> ((sp_get (M.1 35) 0 (mo_row M pn nw b x (4 * o + f))) &&& 31)) &&& 1 = 1))) (g := (fun o => (1 : Int32) <<< (nI o &&& 31))) (n := i) (by simp [sp_isin, *])] at hz; exact hz) | (have hz := ih h10 (.int (lt_v (mo_row M pn nw b x (4 * i + f)))); rw [sp_or_f (c := (fun o => decide (sp_get (M.1 34) 0 (mo_row M pn nw b x (4 * o + f)) = 2) && decide ((s >>> ((sp_get (M.1 35) 0 (mo_row M pn nw b x (4 * o + f))) &&& 31)) &&& 1 = 1))) (g := (fun o => (1 : Int32) <<< (nI o &&& 31))) (n := i) (by simp [sp_isin, *])] at hz; exact hz)
        · refine am_iload d60_52 rfl ?_
          refine am_iconst 1 d60_54 (by decide) ?_
          refine am_iload d60_55 rfl ?_
          refine am_ishl d60_57 ?_
          refine am_ior d60_58 ?_
          refine am_goto 64 d60_59 (by decide) ?_
          refine am_istore d60_64 (Nat.le_of_ble_eq_true rfl) rfl ?_
          refine am_incN i d60_66 rfl rfl ?_
          refine am_goto 6 d60_69 (by decide) ?_
          first | (have hz := ih h10 (.int (lt_v (mo_row M pn nw b x (4 * i + f)))); rw [sp_or_t (c := (fun o => decide (sp_get (M.1 34) 0 (mo_row M pn nw b x (4 * o + f)) = 2) && decide ((s >>> ((sp_get (M.1 35) 0 (mo_row M pn nw b x (4 * o + f))) &&& 31)) &&& 1 = 1))) (g := (fun o => (1 : Int32) <<< (nI o &&& 31))) (n := i) (by simp [sp_isin, *])] at hz; exact hz) | (have hz := ih h10 (.int (lt_v (mo_row M pn nw b x (4 * i + f)))); rw [sp_or_f (c := (fun o => decide (sp_get (M.1 34) 0 (mo_row M pn nw b x (4 * o + f)) = 2) && decide ((s >>> ((sp_get (M.1 35) 0 (mo_row M pn nw b x (4 * o + f))) &&& 31)) &&& 1 = 1))) (g := (fun o => (1 : Int32) <<< (nI o &&& 31))) (n := i) (by simp [sp_isin, *])] at hz; exact hz)
  show am_W kM_against 0 _ [] M Q
  refine am_iconst 0 d60_0 (by decide) ?_
  refine am_istore d60_1 (Nat.le_of_ble_eq_true rfl) rfl ?_
  refine am_iconst (nI 0) d60_3 (by decide) ?_
  refine am_istore d60_4 (Nat.le_of_ble_eq_true rfl) rfl ?_
  exact loop 0 (by decide) _
