/-! the law: trim, join -/
theorem any_congr {f g : Nat → Bool} : ∀ n, (∀ i, i < n → f i = g i) → sp_any f n = sp_any g n := by
  intro n
  induction n with
  | zero => intro _; rfl
  | succ n ih =>
    intro h
    show (sp_any f n || f n) = (sp_any g n || g n)
    rw [ih (fun i hi => h i (by omega)), h n (by omega)]
theorem gv_c {M M1 : am_M} {pn : Nat → Nat} {nw b j : Nat} (e : ∀ p, 28 ≤ p → p ≤ 33 → M1.1 p = M.1 p) (e1 : M1.1 27 1 = M.1 27 1) (e2 : M1.1 27 2 = M.1 27 2) : mo_gv M1 pn nw b j = mo_gv M pn nw b j := by
  unfold mo_gv mo_at mo_first mo_row
  rw [e 29 (by decide) (by decide), e 30 (by decide) (by decide), e 31 (by decide) (by decide), e 32 (by decide) (by decide), e 33 (by decide) (by decide), e1, e2]
theorem rl_hz {M : am_M} {pn : Nat → Nat} {nb nw ck len : Nat} {q : Nat → Nat} (hR : RL M pn nb nw ck len q) {x : Int32} (h0 : ¬ x < M.1 0 7) (h1 : x ≤ M.1 0 6) : ∃ h, h ≤ ck ∧ x = nI h := by
  obtain ⟨h, a1, a2⟩ := hR.2.2.2.2.1.2
  have hc : ck < 2 ^ 30 := hR.1.2.2.2.2.2
  have h2 : ¬ x < 0 := fun z => h0 (by rw [a2]; exact Int32.lt_of_lt_of_le z (nI_pos' (by omega)))
  rw [hR.1.2.2.2.2.1] at h1
  obtain ⟨j, b1, b2⟩ := ix_le (by omega) h2 h1
  exact ⟨j, by omega, b2⟩
theorem rl_keep {M M1 : am_M} {pn : Nat → Nat} {nb nw ck len : Nat} {q : Nat → Nat} (hR : RL M pn nb nw ck len q) {x : Int32} (h0 : ¬ x < M.1 0 7) (h1 : x ≤ M.1 0 6) (e : ∀ p, 27 ≤ p → p ≤ 37 → M1.1 p = M.1 p) {j : Nat} (hj : j < nw) : sp_any (fun b => mo_gv (am_set M1 27 2 x) pn nw b j) nb = sp_any (fun b => mk_b (am_set M 0 7 x) pn nw b j) nb := by
  have hz := rl_hz hR h0 h1
  have hR2 : RL (am_set (am_set M 0 7 x) 27 2 x) pn nb nw ck len q := by
    refine rl_rows (nw' := nw) (ck' := ck) hR (fun p hp => ?_) hR.1.2.2.1 hR.2.1.2.2.1 hR.1.2.2.2.2.1 hR.2.1.2.2.2.2.1 hR.1.2.2.2.2.2 rfl rfl rfl hz (show PR (M.1 7) (M.1 8) (M.1 9) (M.1 10) (M.1 11) pn (M.1 3) nb nw ck from RL_PR hR) hR.2.2.1.2.2.1 hR.2.2.1.2.2.2.1 hR.2.2.1.2.2.2.2.1 hR.2.2.1.2.2.2.2.2.1 hR.2.2.1.2.2.2.2.2.2.1
    simp at hp
    rw [am_set_ne (by omega), am_set_ne (by omega)]
  refine any_congr nb (fun b hb => ?_)
  have e1 : mo_gv (am_set M1 27 2 x) pn nw b j = mo_gv (am_set (am_set M 0 7 x) 27 2 x) pn nw b j := by
    refine gv_c (fun p p1 p2 => ?_) ?_ ?_
    · rw [am_set_ne (by omega), am_set_ne (by omega), am_set_ne (by omega), e p (by omega) (by omega)]
    · rw [am_set_self, am_set_self, e 27 (by decide) (by decide), am_set_ne (by decide)]
    · rw [am_set_self, am_set_self, pk_us, pk_us]
  show mo_gv (am_set M1 27 2 x) pn nw b j = mk_b (am_set M 0 7 x) pn nw b j
  rw [e1, rl_gv hR2 hb hj]
  rfl
theorem s_trim {M : am_M} {pn : Nat → Nat} {nb nw ck len : Nat} {q : Nat → Nat} {Q : am_T} {i : Nat} (hR : RL M pn nb nw ck len q) (hbud : 0 < M.2.2.1) (hi : i + 6 ≤ M.2.2.2.1) (hl : M.2.2.2.1 < 2 ^ 31) (hck : ck + 48 < 2 ^ 30) (next : nx M ck i Q) (x5 x6 : Value) : am_W kL_law 736 [.ref am_SC, .ref 0, .ref 27, .ref 38, .int (nI i), x5, x6] [] M Q := by
  have h6 : nb ≤ 6 := hR.1.2.1.1
  have hn31 : nb < 2 ^ 31 := by omega
  have hm := hR.2.1
  refine am_aload_n d128_736 rfl ?_
  refine am_aload_n d128_737 rfl ?_
  refine am_iload d128_738 rfl ?_
  refine am_iconst (nI 1) d128_740 (by decide) ?_
  refine am_addN d128_741 ?_
  refine am_saldN (i + 1) d128_742 (by omega) hl ?_
  refine am_aload_n d128_743 rfl ?_
  refine am_cs3 122 d128_744 ml128_104 rfl (by decide) rfl rfl rfl rfl (Nat.le_of_ble_eq_true rfl) ?_
  refine l_trim hR.1 (fun y1 => ?_) (fun y1 y2 M' y3 y4 y5 y6 y7 => ?_) hbud
  · show am_W 128 747 _ (.int 1 :: _) _ _
    refine u_trim (M := M) rfl hi hl ?_
    refine q_trim (M := am_pay M) hm (fun z M2 c => t_trim c.2.2 (fun z => absurd z (by decide)) (nx_p hR next c)) (fun z1 z2 _ _ _ _ _ _ _ => by have e1 := rl_ck hR; have e2 := hR.2.2.2.2.1.1; rcases y1 with y | y; exact absurd (show _ < M.1 27 2 by rw [e2]; exact y) z1; exact absurd (show M.1 27 1 < _ by rw [e1]; exact y) (Int32.not_lt.mpr z2))
  · show am_W 128 747 _ (.int 0 :: _) _ _
    have e27 : ∀ p, 27 ≤ p → p ≤ 37 → (am_setL M' 38 0 (Int32.toInt64 (nI (nw - sp_cnt (fun j => sp_any (fun b => mk_b (am_set M 0 7 (M.2.2.2.2 (i + 1))) pn nw b j) nb) nw)))).1 p = M.1 p := fun p h1 h2 => y3.eq p (by simp; omega)
    have KE : ∀ j, j < nw → (fun j => sp_any (fun b => mo_gv (am_set (am_setL M' 38 0 (Int32.toInt64 (nI (nw - sp_cnt (fun j => sp_any (fun b => mk_b (am_set M 0 7 (M.2.2.2.2 (i + 1))) pn nw b j) nb) nw)))) 27 2 (M.2.2.2.2 (i + 1))) pn nw b j) nb) j = (fun j => sp_any (fun b => mk_b (am_set M 0 7 (M.2.2.2.2 (i + 1))) pn nw b j) nb) j := fun j hj => rl_keep hR y1 y2 e27 hj
    refine u_trim (M := M) (by show M'.2.2.2 = _; rw [y3.2]) hi hl ?_
    refine q_trim (M := (am_setL M' 38 0 (Int32.toInt64 (nI (nw - sp_cnt (fun j => sp_any (fun b => mk_b (am_set M 0 7 (M.2.2.2.2 (i + 1))) pn nw b j) nb) nw))))) (moS_jk hm e27) (fun z _ _ => by have e1 : M.1 27 1 = M.1 0 6 := rl_ck hR; have e2 : M.1 27 2 = M.1 0 7 := hR.2.2.2.2.1.1; rw [e27 27 (by decide) (by decide), e1, e2] at z; rcases z with y | y; exact absurd y y1; exact absurd y2 (Int32.not_le.mpr y)) (fun z1 z2 M2 f z3 z4 z5 z6 z7 => by
      have C : ∀ p, 7 ≤ p → p ≤ 11 → M2.1 p = sp_cp (fun j => sp_any (fun b => mk_b (am_set M 0 7 (M.2.2.2.2 (i + 1))) pn nw b j) nb) (M.1 p) nw := fun p p1 p2 => (f.eq p (by simp; omega)).trans (y7 p p1 p2)
      have D : ∀ p r, 31 ≤ p → p ≤ 35 → M.1 p = M.1 r → M2.1 p = sp_cp (fun j => sp_any (fun b => mk_b (am_set M 0 7 (M.2.2.2.2 (i + 1))) pn nw b j) nb) (M.1 r) nw := fun p r p1 p2 e => by rw [z7 p p1 p2, sp_cp_congr KE, e27 p (by omega) (by omega), e]
      obtain ⟨e1, e2, e3, e4, e5, e6, e7, e8⟩ := hR.2.2.1
      refine t_trim z3 (fun _ => ?_) (fun x5 x6 => ?_)
      · rw [f.2]
        refine setL_get.trans (congrArg Int32.toInt64 ?_)
        rw [sp_cnt_congr KE]
      · refine next M2 pn nb (sp_cnt (fun j => sp_any (fun b => mk_b (am_set M 0 7 (M.2.2.2.2 (i + 1))) pn nw b j) nb) nw) ck len q (rl_rows (nw' := sp_cnt (fun j => sp_any (fun b => mk_b (am_set M 0 7 (M.2.2.2.2 (i + 1))) pn nw b j) nb) nw) (ck' := ck) hR (fun p hp => ?_) ?_ ?_ ?_ ?_ (by omega) ?_ ?_ ?_ ?_ ?_ ?_ ?_ ?_ ?_ ?_) ?_ ?_ (by omega) x5 x6
        · exact (f.eq p (by simp at hp ⊢; omega)).trans (y3.eq p (by simp at hp ⊢; omega))
        · rw [f.eq 6 (by decide)]; exact y6
        · exact z5.trans (congrArg nI (sp_cnt_congr KE))
        · rw [f.eq 0 (by decide)]; exact y4.trans hR.1.2.2.2.2.1
        · rw [z6 1 (by decide) (by decide) (by decide), e27 27 (by decide) (by decide)]; exact hm.2.2.2.2.1
        · rw [z6 3 (by decide) (by decide) (by decide), e27 27 (by decide) (by decide)]
        · rw [z6 14 (by decide) (by decide) (by decide), e27 27 (by decide) (by decide)]
        · rw [z4, f.eq 0 (by decide)]; exact y5.symm
        · rw [f.eq 0 (by decide)]
          show ∃ h, h ≤ ck ∧ M'.1 0 7 = nI h
          rw [y5]
          exact rl_hz hR y1 y2
        · rw [C 7 (by decide) (by decide), C 8 (by decide) (by decide), C 9 (by decide) (by decide), C 10 (by decide) (by decide), C 11 (by decide) (by decide)]
          exact PR_cp _ (RL_PR hR)
        · rw [D 31 7 (by decide) (by decide) e3, C 7 (by decide) (by decide)]
        · rw [D 32 8 (by decide) (by decide) e4, C 8 (by decide) (by decide)]
        · rw [D 33 9 (by decide) (by decide) e5, C 9 (by decide) (by decide)]
        · rw [D 34 10 (by decide) (by decide) e6, C 10 (by decide) (by decide)]
        · rw [D 35 11 (by decide) (by decide) e7, C 11 (by decide) (by decide)]
        · rw [f.2]
          show M'.2.2.2 = _
          rw [y3.2]
        · rw [f.2]
          show _ ≤ M'.2.2.1 + 1
          rw [y3.2]
          omega)
theorem jx_m {M M1 : am_M} {pn : Nat → Nat} {nb nw ck len : Nat} {q : Nat → Nat} (hR : RL M pn nb nw ck len q) (e : ∀ p, 27 ≤ p → p ≤ 37 → M1.1 p = M.1 p) {b d : Nat} (hb : b < nb) (hd : d < nb) : (mo_meet pn (M1.1 29) (nI ck) b d) = (sp_meet pn (M.1 3) 12 (nI ck) b d) := by
  rw [(rl_m hR e).2.2.2.2.2.1]
  exact (meet_mo hR.1.2.1.2.1 hR.2.2.2.2.2.1.2.2.2 hR.1.2.1.2.2.2 (nI_pos' (by have := hR.1.2.2.2.2.2; omega)) hR.2.2.2.2.2.1.2.2.1 hR.1.2.1.1 hb hd).symm
theorem jx_a {M M1 : am_M} {pn : Nat → Nat} {nb nw ck len : Nat} {q : Nat → Nat} (hR : RL M pn nb nw ck len q) (e : ∀ p, 27 ≤ p → p ≤ 37 → M1.1 p = M.1 p) {b d : Nat} (hb : b < nb) (hd : d < nb) : (jca (M1.1 34) (M1.1 35) (mo_row M1 pn nw b (nI ck)) (mo_row M1 pn nw d (nI ck)) (mo_row M1 pn nw b (mo_meet pn (M1.1 29) (nI ck) b d))) = (jca (M.1 10) (M.1 11) (sp_row (M.1 7) (M.1 8) (M.1 9) pn (M.1 3) nw b (nI ck)) (sp_row (M.1 7) (M.1 8) (M.1 9) pn (M.1 3) nw d (nI ck)) (sp_row (M.1 7) (M.1 8) (M.1 9) pn (M.1 3) nw b (sp_meet pn (M.1 3) 12 (nI ck) b d))) := by
  have V := rl_m hR e
  have W : ∀ b x, mo_row M1 pn nw b x = sp_row (M.1 7) (M.1 8) (M.1 9) pn (M.1 3) nw b x := fun b x => funext (V.2.2.2.2.2.2 b x)
  rw [jx_m hR e hb hd, W, W, W, V.1, V.2.1]
theorem jx_f {M M1 : am_M} {pn : Nat → Nat} {nb nw ck len : Nat} {q : Nat → Nat} (hR : RL M pn nb nw ck len q) (e : ∀ p, 27 ≤ p → p ≤ 37 → M1.1 p = M.1 p) {b d : Nat} (hb : b < nb) (hd : d < nb) : (jcg (M1.1 34) (M1.1 35) (mo_row M1 pn nw b (nI ck)) (mo_row M1 pn nw d (nI ck)) (mo_row M1 pn nw b (mo_meet pn (M1.1 29) (nI ck) b d)) (mo_row M1 pn nw d (mo_meet pn (M1.1 29) (nI ck) b d))) = (jcf (M.1 10) (M.1 11) (sp_row (M.1 7) (M.1 8) (M.1 9) pn (M.1 3) nw b (nI ck)) (sp_row (M.1 7) (M.1 8) (M.1 9) pn (M.1 3) nw d (nI ck)) (sp_row (M.1 7) (M.1 8) (M.1 9) pn (M.1 3) nw b (sp_meet pn (M.1 3) 12 (nI ck) b d))) := by
  have V := rl_m hR e
  have W : ∀ b x, mo_row M1 pn nw b x = sp_row (M.1 7) (M.1 8) (M.1 9) pn (M.1 3) nw b x := fun b x => funext (V.2.2.2.2.2.2 b x)
  have hr : (sp_row (M.1 7) (M.1 8) (M.1 9) pn (M.1 3) nw d (sp_meet pn (M.1 3) 12 (nI ck) b d)) = (sp_row (M.1 7) (M.1 8) (M.1 9) pn (M.1 3) nw b (sp_meet pn (M.1 3) 12 (nI ck) b d)) := by
    funext c
    rw [meet_mo hR.1.2.1.2.1 hR.2.2.2.2.2.1.2.2.2 hR.1.2.1.2.2.2 (nI_pos' (by have := hR.1.2.2.2.2.2; omega)) hR.2.2.2.2.2.1.2.2.1 hR.1.2.1.1 hb hd]
    exact (row_met hR.1.2.1.2.1 hR.2.2.2.2.2.1 hb hd).symm
  rw [jx_m hR e hb hd, W, W, W, W, V.1, V.2.1, hr]
  rfl
theorem jx_o {M M1 : am_M} {pn : Nat → Nat} {nb nw ck len : Nat} {q : Nat → Nat} (hR : RL M pn nb nw ck len q) (e : ∀ p, 27 ≤ p → p ≤ 37 → M1.1 p = M.1 p) {b d : Nat} (hb : b < nb) (hd : d < nb) : (M1.1 30 b = 0 ∧ M1.1 30 d = 0 ∧ M1.1 27 2 ≤ (mo_meet pn (M1.1 29) (nI ck) b d)) ↔ (¬ M.1 4 b = 0 ∧ ¬ M.1 4 d = 0 ∧ M.1 0 7 ≤ (sp_meet pn (M.1 3) 12 (nI ck) b d)) := by
  rw [jx_m hR e hb hd, e 30 (by decide) (by decide), e 27 (by decide) (by decide), hR.2.2.2.2.1.1, hR.2.2.2.1 b hb, hR.2.2.2.1 d hd]
theorem jx_n {M M1 : am_M} {pn : Nat → Nat} {nb nw ck len : Nat} {q : Nat → Nat} (hR : RL M pn nb nw ck len q) (e : ∀ p, 27 ≤ p → p ≤ 37 → M1.1 p = M.1 p) {b d : Nat} (hb : b < nb) (hd : d < nb) (h : ¬ M1.1 30 b = 0 ∨ ¬ M1.1 30 d = 0 ∨ (mo_meet pn (M1.1 29) (nI ck) b d) < M1.1 27 2) : ¬ (¬ M.1 4 b = 0 ∧ ¬ M.1 4 d = 0 ∧ M.1 0 7 ≤ (sp_meet pn (M.1 3) 12 (nI ck) b d)) := by
  intro z
  obtain ⟨u, v, w⟩ := (jx_o hR e hb hd).mpr z
  rcases h with y | y | y
  · exact y u
  · exact y v
  · exact absurd w (Int32.not_le.mpr y)
theorem jx_p {M M1 : am_M} {pn : Nat → Nat} {nb nw ck len : Nat} {q : Nat → Nat} (hR : RL M pn nb nw ck len q) (e : ∀ p, 27 ≤ p → p ≤ 37 → M1.1 p = M.1 p) {b d : Nat} (hb : b < nb) (hd : d < nb) : 0 ≤ (mo_meet pn (M1.1 29) (nI ck) b d) ∧ (mo_meet pn (M1.1 29) (nI ck) b d) ≤ nI ck := by
  rw [(rl_m hR e).2.2.2.2.2.1]
  exact mo_meet_bd hR.1.2.1.2.1 hR.1.2.1.2.2.2 (nI_pos' (by have := hR.1.2.2.2.2.2; omega)) hR.2.2.2.2.2.1.2.2.1 hb hd
theorem s_join {M : am_M} {pn : Nat → Nat} {nb nw ck len : Nat} {q : Nat → Nat} {Q : am_T} {i : Nat} (hR : RL M pn nb nw ck len q) (hbud : 0 < M.2.2.1) (hi : i + 6 ≤ M.2.2.2.1) (hl : M.2.2.2.1 < 2 ^ 31) (hck : ck + 48 < 2 ^ 30) (next : nx M ck i Q) (x5 x6 : Value) : am_W kL_law 668 [.ref am_SC, .ref 0, .ref 27, .ref 38, .int (nI i), x5, x6] [] M Q := by
  have h6 : nb ≤ 6 := hR.1.2.1.1
  have hn31 : nb < 2 ^ 31 := by omega
  have hm := hR.2.1
  refine am_aload_n d128_668 rfl ?_
  refine am_aload_n d128_669 rfl ?_
  refine am_iload d128_670 rfl ?_
  refine am_iconst (nI 1) d128_672 (by decide) ?_
  refine am_addN d128_673 ?_
  refine am_saldN (i + 1) d128_674 (by omega) hl ?_
  refine am_aload_n d128_675 rfl ?_
  refine am_iload d128_676 rfl ?_
  refine am_iconst (nI 2) d128_678 (by decide) ?_
  refine am_addN d128_679 ?_
  refine am_saldN (i + 2) d128_680 (by omega) hl ?_
  refine am_aload_n d128_681 rfl ?_
  refine am_cs4 121 d128_682 ml128_101 rfl (by decide) rfl rfl rfl rfl rfl (Nat.le_of_ble_eq_true rfl) ?_
  refine l_join hR.1 (by obtain ⟨h, a1, a2⟩ := hR.2.2.2.2.1.2; rw [a2]; exact nI_pos' (by omega)) (fun y1 => ?_) (fun b d y1 y2 y3 y4 y5 => ?_) (fun b d y1 y2 y3 y4 y5 y6 => ?_) (fun b d y1 y2 y3 y4 y5 y6 y7 y8 y9 y10 M' y11 => ?_) (fun b d y1 y2 y3 y4 y5 y6 y7 y8 y9 M' y10 => ?_) (fun b d y1 y2 y3 y4 y5 y6 y7 y8 y9 y10 M' y11 => ?_) hbud
  · show am_W 128 685 _ (.int 1 :: _) _ _
    refine u_join (M := M) rfl hi hl ?_
    have ep : ∀ p, 27 ≤ p → p ≤ 37 → (am_pay M).1 p = M.1 p := fun _ _ _ => rfl
    refine q_join (M := am_pay M) hm hck (fun b d hb hd => jx_p hR ep hb hd) (fun z M2 c => t_join c.2.2 (fun z => absurd z (by decide)) (nx_p hR next c)) (fun b' d' z1 z2 z3 z4 _ _ _ => absurd (⟨⟨b', z1, z2⟩, ⟨d', z3, z4⟩⟩) (y1)) (fun b' d' z1 z2 z3 z4 _ _ _ _ => absurd (⟨⟨b', z1, z2⟩, ⟨d', z3, z4⟩⟩) (y1)) (fun b' d' z1 z2 z3 z4 _ _ _ _ _ _ _ _ => absurd (⟨⟨b', z1, z2⟩, ⟨d', z3, z4⟩⟩) (y1)) (fun b' d' z1 z2 z3 z4 _ _ _ _ _ _ _ => absurd (⟨⟨b', z1, z2⟩, ⟨d', z3, z4⟩⟩) (y1)) (fun b' d' z1 z2 z3 z4 _ _ _ _ _ _ _ _ => absurd (⟨⟨b', z1, z2⟩, ⟨d', z3, z4⟩⟩) (y1))
  · show am_W 128 685 _ (.int 2 :: _) _ _
    refine u_join (M := M) rfl hi hl ?_
    have ep : ∀ p, 27 ≤ p → p ≤ 37 → (am_pay M).1 p = M.1 p := fun _ _ _ => rfl
    refine q_join (M := am_pay M) hm hck (fun b d hb hd => jx_p hR ep hb hd) (fun z _ _ => absurd (⟨⟨b, y1, y2⟩, ⟨d, y3, y4⟩⟩) (z)) (fun b' d' z1 z2 z3 z4 z5 M2 c => t_join c.2.2 (fun z => absurd z (by decide)) (nx_p hR next c)) (fun b' d' z1 z2 z3 z4 z5 _ _ _ => by have eb := nj hn31 y1 y2 z1 z2; have ed := nj hn31 y3 y4 z3 z4; subst eb; subst ed; exact absurd y5 z5) (fun b' d' z1 z2 z3 z4 z5 _ _ _ _ _ _ _ => by have eb := nj hn31 y1 y2 z1 z2; have ed := nj hn31 y3 y4 z3 z4; subst eb; subst ed; exact absurd y5 z5) (fun b' d' z1 z2 z3 z4 z5 _ _ _ _ _ _ => by have eb := nj hn31 y1 y2 z1 z2; have ed := nj hn31 y3 y4 z3 z4; subst eb; subst ed; exact absurd y5 z5) (fun b' d' z1 z2 z3 z4 z5 _ _ _ _ _ _ _ => by have eb := nj hn31 y1 y2 z1 z2; have ed := nj hn31 y3 y4 z3 z4; subst eb; subst ed; exact absurd y5 z5)
  · show am_W 128 685 _ (.int 3 :: _) _ _
    refine u_join (M := M) rfl hi hl ?_
    have ep : ∀ p, 27 ≤ p → p ≤ 37 → (am_pay M).1 p = M.1 p := fun _ _ _ => rfl
    refine q_join (M := am_pay M) hm hck (fun b d hb hd => jx_p hR ep hb hd) (fun z _ _ => absurd (⟨⟨b, y1, y2⟩, ⟨d, y3, y4⟩⟩) (z)) (fun b' d' z1 z2 z3 z4 z5 _ _ => by have eb := nj hn31 y1 y2 z1 z2; have ed := nj hn31 y3 y4 z3 z4; subst eb; subst ed; exact absurd z5 y5) (fun b' d' z1 z2 z3 z4 z5 z6 M2 c => t_join c.2.2 (fun z => absurd z (by decide)) (nx_p hR next c)) (fun b' d' z1 z2 z3 z4 z5 z6 z7 z8 _ _ _ _ => by have eb := nj hn31 y1 y2 z1 z2; have ed := nj hn31 y3 y4 z3 z4; subst eb; subst ed; exact absurd ((jx_o hR ep z1 z3).mp ⟨z6, z7, z8⟩) (by rintro ⟨u, v, w⟩; rcases y6 with y | y | y; exact u y; exact v y; exact absurd w (Int32.not_le.mpr y))) (fun b' d' z1 z2 z3 z4 z5 z6 z7 z8 _ _ _ => by have eb := nj hn31 y1 y2 z1 z2; have ed := nj hn31 y3 y4 z3 z4; subst eb; subst ed; exact absurd ((jx_o hR ep z1 z3).mp ⟨z6, z7, z8⟩) (by rintro ⟨u, v, w⟩; rcases y6 with y | y | y; exact u y; exact v y; exact absurd w (Int32.not_le.mpr y))) (fun b' d' z1 z2 z3 z4 z5 z6 z7 z8 _ _ _ _ => by have eb := nj hn31 y1 y2 z1 z2; have ed := nj hn31 y3 y4 z3 z4; subst eb; subst ed; exact absurd ((jx_o hR ep z1 z3).mp ⟨z6, z7, z8⟩) (by rintro ⟨u, v, w⟩; rcases y6 with y | y | y; exact u y; exact v y; exact absurd w (Int32.not_le.mpr y)))
  · show am_W 128 685 _ (.int 4 :: _) _ _
    refine u_join (M := M) (by show M'.2.2.2 = _; rw [y11.2]) hi hl ?_
    have ep : ∀ p, 27 ≤ p → p ≤ 37 → (am_pay M').1 p = M.1 p := fun p h1 h2 => y11.eq p (by simp; omega)
    refine q_join (M := am_pay M') (moS_jk hm ep) hck (fun b d hb hd => jx_p hR ep hb hd) (fun z _ _ => absurd (⟨⟨b, y1, y2⟩, ⟨d, y3, y4⟩⟩) (z)) (fun b' d' z1 z2 z3 z4 z5 _ _ => by have eb := nj hn31 y1 y2 z1 z2; have ed := nj hn31 y3 y4 z3 z4; subst eb; subst ed; exact absurd z5 y5) (fun b' d' z1 z2 z3 z4 z5 z6 _ _ => by have eb := nj hn31 y1 y2 z1 z2; have ed := nj hn31 y3 y4 z3 z4; subst eb; subst ed; exact absurd ⟨y6, y7, y8⟩ (jx_n hR ep z1 z3 z6)) (fun b' d' z1 z2 z3 z4 z5 z6 z7 z8 z9 z10 M2 c => t_join c.2.2 (fun z => absurd z (by decide)) (nx_f hR next (M1 := am_pay M') (show jk M M' from jk_fr y11 (by decide)) (by show M'.2.2.2 = _; rw [y11.2]) (by show _ ≤ M'.2.2.1 - 1 + 1; rw [y11.2]; omega) c)) (fun b' d' z1 z2 z3 z4 z5 z6 z7 z8 z9 _ _ => by have eb := nj hn31 y1 y2 z1 z2; have ed := nj hn31 y3 y4 z3 z4; subst eb; subst ed; rw [jx_f hR ep z1 z3] at z9; exact absurd y9 z9) (fun b' d' z1 z2 z3 z4 z5 z6 z7 z8 z9 z10 _ _ => by have eb := nj hn31 y1 y2 z1 z2; have ed := nj hn31 y3 y4 z3 z4; subst eb; subst ed; rw [jx_a hR ep z1 z3] at z10; omega)
  · show am_W 128 685 _ (.int 0 :: _) _ _
    have ep : ∀ p, 27 ≤ p → p ≤ 37 → (am_setL M' 38 0 (Int32.toInt64 (nI (sp_cnt (jcf (M.1 10) (M.1 11) (sp_row (M.1 7) (M.1 8) (M.1 9) pn (M.1 3) nw b (nI ck)) (sp_row (M.1 7) (M.1 8) (M.1 9) pn (M.1 3) nw d (nI ck)) (sp_row (M.1 7) (M.1 8) (M.1 9) pn (M.1 3) nw b (sp_meet pn (M.1 3) 12 (nI ck) b d))) 48)))).1 p = M.1 p := fun p h1 h2 => y10.eq p (by simp; omega)
    refine u_join (M := M) (by show M'.2.2.2 = _; rw [y10.2]) hi hl ?_
    refine q_join (M := (am_setL M' 38 0 (Int32.toInt64 (nI (sp_cnt (jcf (M.1 10) (M.1 11) (sp_row (M.1 7) (M.1 8) (M.1 9) pn (M.1 3) nw b (nI ck)) (sp_row (M.1 7) (M.1 8) (M.1 9) pn (M.1 3) nw d (nI ck)) (sp_row (M.1 7) (M.1 8) (M.1 9) pn (M.1 3) nw b (sp_meet pn (M.1 3) 12 (nI ck) b d))) 48))))) (moS_jk hm ep) hck (fun b d hb hd => jx_p hR ep hb hd) (fun z _ _ => absurd (⟨⟨b, y1, y2⟩, ⟨d, y3, y4⟩⟩) (z)) (fun b' d' z1 z2 z3 z4 z5 _ _ => by have eb := nj hn31 y1 y2 z1 z2; have ed := nj hn31 y3 y4 z3 z4; subst eb; subst ed; exact absurd z5 y5) (fun b' d' z1 z2 z3 z4 z5 z6 _ _ => by have eb := nj hn31 y1 y2 z1 z2; have ed := nj hn31 y3 y4 z3 z4; subst eb; subst ed; exact absurd ⟨y6, y7, y8⟩ (jx_n hR ep z1 z3 z6)) (fun b' d' z1 z2 z3 z4 z5 z6 z7 z8 z9 z10 _ _ => by have eb := nj hn31 y1 y2 z1 z2; have ed := nj hn31 y3 y4 z3 z4; subst eb; subst ed; rw [jx_f hR ep z1 z3] at z9; exact absurd z9 y9) (fun b' d' z1 z2 z3 z4 z5 z6 z7 z8 z9 M2 c => t_join c.2.2 (fun _ => (cd_out c).trans (congrArg Int32.toInt64 (by have eb := nj hn31 y1 y2 z1 z2; have ed := nj hn31 y3 y4 z3 z4; subst eb; subst ed; rw [jx_f hR ep z1 z3]))) (nx_r hR next (show jk M M' from jk_fr y10 (by decide)) y10.2 c)) (fun b' d' z1 z2 z3 z4 z5 z6 z7 z8 z9 z10 _ _ => by have eb := nj hn31 y1 y2 z1 z2; have ed := nj hn31 y3 y4 z3 z4; subst eb; subst ed; rw [jx_f hR ep z1 z3] at z9; exact absurd z9 y9)
  · show am_W 128 685 _ (.int 0 :: _) _ _
    have ep : ∀ p, 27 ≤ p → p ≤ 37 → (am_setL M' 38 0 (Int32.toInt64 (nI (sp_cnt (jcf (M.1 10) (M.1 11) (sp_row (M.1 7) (M.1 8) (M.1 9) pn (M.1 3) nw b (nI ck)) (sp_row (M.1 7) (M.1 8) (M.1 9) pn (M.1 3) nw d (nI ck)) (sp_row (M.1 7) (M.1 8) (M.1 9) pn (M.1 3) nw b (sp_meet pn (M.1 3) 12 (nI ck) b d))) 48)))).1 p = M.1 p := fun p h1 h2 => y11.1.eq p (by simp; omega)
    refine u_join (M := M) (by show M'.2.2.2 = _; rw [y11.1.2]) hi hl ?_
    refine q_join (M := (am_setL M' 38 0 (Int32.toInt64 (nI (sp_cnt (jcf (M.1 10) (M.1 11) (sp_row (M.1 7) (M.1 8) (M.1 9) pn (M.1 3) nw b (nI ck)) (sp_row (M.1 7) (M.1 8) (M.1 9) pn (M.1 3) nw d (nI ck)) (sp_row (M.1 7) (M.1 8) (M.1 9) pn (M.1 3) nw b (sp_meet pn (M.1 3) 12 (nI ck) b d))) 48))))) (moS_jk hm ep) hck (fun b d hb hd => jx_p hR ep hb hd) (fun z _ _ => absurd (⟨⟨b, y1, y2⟩, ⟨d, y3, y4⟩⟩) (z)) (fun b' d' z1 z2 z3 z4 z5 _ _ => by have eb := nj hn31 y1 y2 z1 z2; have ed := nj hn31 y3 y4 z3 z4; subst eb; subst ed; exact absurd z5 y5) (fun b' d' z1 z2 z3 z4 z5 z6 _ _ => by have eb := nj hn31 y1 y2 z1 z2; have ed := nj hn31 y3 y4 z3 z4; subst eb; subst ed; exact absurd ⟨y6, y7, y8⟩ (jx_n hR ep z1 z3 z6)) (fun b' d' z1 z2 z3 z4 z5 z6 z7 z8 z9 z10 _ _ => by have eb := nj hn31 y1 y2 z1 z2; have ed := nj hn31 y3 y4 z3 z4; subst eb; subst ed; rw [jx_a hR ep z1 z3] at z10; omega) (fun b' d' z1 z2 z3 z4 z5 z6 z7 z8 z9 _ _ => by have eb := nj hn31 y1 y2 z1 z2; have ed := nj hn31 y3 y4 z3 z4; subst eb; subst ed; rw [jx_f hR ep z1 z3] at z9; exact absurd y9 z9) (fun b' d' z1 z2 z3 z4 z5 z6 z7 z8 z9 z10 M2 z11 => by
      have eb := nj hn31 y1 y2 z1 z2; have ed := nj hn31 y3 y4 z3 z4; subst eb; subst ed;
      have V := rl_m hR ep
      obtain ⟨f, o1, o2, o3, o4, o5, o6, o7, o8, o9⟩ := z11
      rw [jx_a hR ep z1 z3] at o3 o4 o5 o6 o7 o8 o9
      rw [jx_a hR ep z1 z3] at z10
      obtain ⟨e1, e2, e3, e4, e5, e6, e7, e8⟩ := hR.2.2.1
      obtain ⟨g, g1, g2, g3, g4, g5, g6, g7, g8⟩ := y11
      have C : ∀ p, p ∉ [27, 31, 32, 33, 34, 35] → M2.1 p = M'.1 p := fun p hp => f.eq p hp
      have q48 := sp_cnt_le (jca (M.1 10) (M.1 11) (sp_row (M.1 7) (M.1 8) (M.1 9) pn (M.1 3) nw b' (nI ck)) (sp_row (M.1 7) (M.1 8) (M.1 9) pn (M.1 3) nw d' (nI ck)) (sp_row (M.1 7) (M.1 8) (M.1 9) pn (M.1 3) nw b' (sp_meet pn (M.1 3) 12 (nI ck) b' d'))) 48
      refine t_join o2 (fun _ => ?_) (fun x5 x6 => ?_)
      · rw [f.2]
        refine setL_get.trans (congrArg Int32.toInt64 ?_)
        rw [jx_f hR ep z1 z3]
      · refine next M2 pn nb (nw + sp_cnt (jca (M.1 10) (M.1 11) (sp_row (M.1 7) (M.1 8) (M.1 9) pn (M.1 3) nw b' (nI ck)) (sp_row (M.1 7) (M.1 8) (M.1 9) pn (M.1 3) nw d' (nI ck)) (sp_row (M.1 7) (M.1 8) (M.1 9) pn (M.1 3) nw b' (sp_meet pn (M.1 3) 12 (nI ck) b' d'))) 48) (ck + sp_cnt (jca (M.1 10) (M.1 11) (sp_row (M.1 7) (M.1 8) (M.1 9) pn (M.1 3) nw b' (nI ck)) (sp_row (M.1 7) (M.1 8) (M.1 9) pn (M.1 3) nw d' (nI ck)) (sp_row (M.1 7) (M.1 8) (M.1 9) pn (M.1 3) nw b' (sp_meet pn (M.1 3) 12 (nI ck) b' d'))) 48) len q (rl_rows (nw' := nw + sp_cnt (jca (M.1 10) (M.1 11) (sp_row (M.1 7) (M.1 8) (M.1 9) pn (M.1 3) nw b' (nI ck)) (sp_row (M.1 7) (M.1 8) (M.1 9) pn (M.1 3) nw d' (nI ck)) (sp_row (M.1 7) (M.1 8) (M.1 9) pn (M.1 3) nw b' (sp_meet pn (M.1 3) 12 (nI ck) b' d'))) 48) (ck' := ck + sp_cnt (jca (M.1 10) (M.1 11) (sp_row (M.1 7) (M.1 8) (M.1 9) pn (M.1 3) nw b' (nI ck)) (sp_row (M.1 7) (M.1 8) (M.1 9) pn (M.1 3) nw d' (nI ck)) (sp_row (M.1 7) (M.1 8) (M.1 9) pn (M.1 3) nw b' (sp_meet pn (M.1 3) 12 (nI ck) b' d'))) 48) hR (fun p hp => ?_) ?_ o3 ?_ o4 (by omega) ?_ ?_ ?_ ?_ ?_ ?_ ?_ ?_ ?_ ?_) ?_ ?_ (by omega) x5 x6
        · exact (f.eq p (by simp at hp ⊢; omega)).trans (g.eq p (by simp at hp ⊢; omega))
        · rw [C 6 (by decide)]; exact g2
        · rw [C 0 (by decide)]; exact g3
        · rw [o1 3 (by decide) (by decide) (by decide), ep 27 (by decide) (by decide)]
        · rw [o1 14 (by decide) (by decide) (by decide), ep 27 (by decide) (by decide)]
        · rw [o1 2 (by decide) (by decide) (by decide), ep 27 (by decide) (by decide), C 0 (by decide), g1]; exact hR.2.2.2.2.1.1
        · rw [C 0 (by decide), g1]
          obtain ⟨h, a1, a2⟩ := hR.2.2.2.2.1.2
          exact ⟨h, by omega, a2⟩
        · rw [C 7 (by decide), C 8 (by decide), C 9 (by decide), C 10 (by decide), C 11 (by decide), g4, g5, g6, g7, g8]
          exact PR_jn (RL_PR hR) z3 h6 y10 hck (fun c => (rl_get hR).1) (fun c => (rl_get hR).2) 48 (Nat.le_refl _)
        · rw [o5, C 7 (by decide), g4, V.2.2.2.2.1]
        · rw [o6, C 8 (by decide), g5, V.2.2.1]
        · rw [o7, C 9 (by decide), g6, V.2.2.2.1]
        · rw [o8, C 10 (by decide), g7, V.1]
          simp only [V.2.2.2.2.2.2]
        · rw [o9, C 11 (by decide), g8, V.2.1, V.1]
          simp only [V.2.2.2.2.2.2]
          refine jn_congr (fun _ _ => rfl) (fun c _ _ => ?_)
          split
          next z => exact ((rl_get hR).1 z).symm
          next => rfl
        · rw [f.2]
          show M'.2.2.2 = _
          rw [g.2]
        · rw [f.2]
          show _ ≤ M'.2.2.1 + 1
          rw [g.2]
          omega)
