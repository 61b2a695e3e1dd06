/-! public methods: differs, meeting, join, trim, reach, type, erase, find, state, about -/
theorem p_differs {pn : Nat → Nat} {nb nw ck : Nat} {M : am_M} {Q : am_T} (hS : bpS M pn nb nw ck) {a e k : Int32} (h1 : ¬ (ix a nb ∧ ix e nb) → Q (.inr 0) M) (h2 : ∀ b d, b < nb → a = nI b → d < nb → e = nI d → (M.1 4 b = 0 ∨ M.1 4 d = 0) → Q (.inr 2) M) (h0 : ∀ b d, b < nb → a = nI b → d < nb → e = nI d → ¬ M.1 4 b = 0 → ¬ M.1 4 d = 0 → ∀ M', fr [5, 14, 15, 16, 18, 19, 20] M M' → Q (.inl (some (.int (sp_kth (fun i => !sr (M.1 10) (M.1 11) (sp_row (M.1 7) (M.1 8) (M.1 9) pn (M.1 3) nw b (nI ck) i) (sp_row (M.1 7) (M.1 8) (M.1 9) pn (M.1 3) nw d (nI ck) i)) nI k 48 48 0)))) M') : am_W kX_differs 0 (am_in kX_differs [.ref 0, .int a, .int e, .int k]) [] M Q := by
  obtain ⟨s1, s2, s3, s4, s5, s6⟩ := hS
  have s26 := s2.1
  have s41 := s4.1
  have loop : ∀ {x y : Int32} {b d : Nat} (M1 M2 : am_M), fr [5, 13 + 1, 13 + 2, 13 + 3] M M1 → vw M1 13 (M.1 10) (M.1 11) (M.1 8) (sp_row (M.1 7) (M.1 8) (M.1 9) pn (M.1 3) nw b (nI ck)) → fr [5, 17 + 1, 17 + 2, 17 + 3] M1 M2 → vw M2 17 (M.1 10) (M.1 11) (M.1 8) (sp_row (M.1 7) (M.1 8) (M.1 9) pn (M.1 3) nw d (nI ck)) → ∀ i, i ≤ 48 → ∀ s, Q (.inl (some (.int (sp_kth (fun i => !sr (M.1 10) (M.1 11) (sp_row (M.1 7) (M.1 8) (M.1 9) pn (M.1 3) nw b (nI ck) i) (sp_row (M.1 7) (M.1 8) (M.1 9) pn (M.1 3) nw d (nI ck) i)) nI k 48 (48 - i) s)))) M2 → am_W kX_differs 52 [.ref 0, .int x, .int y, .int k, .int (nI s), .int (nI i)] [] M2 Q := by
    intro x y b d M1 M2 f1 v1 f2 v2
    have v3 : vw M2 13 (M.1 10) (M.1 11) (M.1 8) (sp_row (M.1 7) (M.1 8) (M.1 9) pn (M.1 3) nw b (nI ck)) := fun c hc => by
      rw [f2.eq 14 (by decide), f2.eq 15 (by decide), f2.eq 16 (by decide)]; exact v1 c hc
    refine am_loop 48 (fun i hi ih => ?_)
    intro s hq
    have esm : i < 48 → sm M2 13 17 i = sr (M.1 10) (M.1 11) (sp_row (M.1 7) (M.1 8) (M.1 9) pn (M.1 3) nw b (nI ck) i) (sp_row (M.1 7) (M.1 8) (M.1 9) pn (M.1 3) nw d (nI ck) i) := fun hc => vw_sm v3 v2 hc
    refine am_iload d5_52 rfl ?_
    refine am_bipush (nI 48) d5_54 (by decide) ?_
    refine am_icgeN 93 i 48 d5_56 (by decide) rfl rfl (by omega) (by decide) (fun h56 => ?_) (fun h56 => ?_)
    · refine am_iconst (-1) d5_93 (by decide) ?_
      refine am_iret d5_94 rfl rfl ?_
      first | (rw [sp_kth_t h56 (by simp [gs]) h78] at hq; exact hq) | (rw [show 48 - i = 0 by omega] at hq; exact hq)
    · refine am_aload_n d5_59 rfl ?_
      refine am_getr d5_60 fl5_26 sh_0 rfl ?_
      refine am_aload_n d5_63 rfl ?_
      refine am_getr d5_64 fl5_30 sh_0 rfl ?_
      refine am_iload d5_67 rfl ?_
      refine am_cv2 96 d5_69 ml5_136 rfl (by decide) sh_13 rfl rfl rfl (Nat.le_of_ble_eq_true rfl) ?_
      refine c_same (v := 13) (w := 17) (c := i) (Or.inl rfl) (Or.inr (Or.inl rfl)) (by omega) (fun gs => ?_) (fun gs => ?_)
      · show am_W 5 72 _ (.int 1 :: _) _ _
        rw [esm h56] at gs
        rw [sp_kth_f h56 (by simp [gs])] at hq
        refine am_ifne 87 d5_72 (by decide) (fun _ => ?_) (fun h => absurd h (by decide))
        refine am_incN i d5_87 rfl rfl ?_
        refine am_goto 52 d5_90 (by decide) ?_
        first | exact ih h56 _ hq | (rw [sp_kth_n h56 (by simp [gs]) h78] at hq; exact ih h56 _ hq)
      · show am_W 5 72 _ (.int 0 :: _) _ _
        rw [esm h56] at gs
        refine am_ifne 87 d5_72 (by decide) (fun h => absurd h (by decide)) (fun _ => ?_)
        refine am_iload d5_75 rfl ?_
        refine am_iload_n d5_77 rfl ?_
        refine am_icne 84 d5_78 (by decide) (fun h78 => ?_) (fun h78 => ?_)
        · refine am_incN s d5_84 rfl rfl ?_
          refine am_incN i d5_87 rfl rfl ?_
          refine am_goto 52 d5_90 (by decide) ?_
          first | exact ih h56 _ hq | (rw [sp_kth_n h56 (by simp [gs]) h78] at hq; exact ih h56 _ hq)
        · refine am_iload d5_81 rfl ?_
          refine am_iret d5_83 rfl rfl ?_
          first | (rw [sp_kth_t h56 (by simp [gs]) h78] at hq; exact hq) | (rw [show 48 - i = 0 by omega] at hq; exact hq)
  show am_W kX_differs 0 _ [] M Q
  refine am_aload_n d5_0 rfl ?_
  refine am_iload_n d5_1 rfl ?_
  refine am_cv1 15 d5_2 ml5_50 rfl (by decide) sh_0 rfl rfl (Nat.le_of_ble_eq_true rfl) ?_
  refine c_requireBranch (nb := nb) s1 s26 (fun g1 => ?_) (fun g1 => ?_)
  · show am_W 5 5 _ _ _ _
    obtain ⟨b, hb, rfl⟩ := g1
    refine am_aload_n d5_5 rfl ?_
    refine am_iload_n d5_6 rfl ?_
    refine am_cv1 15 d5_7 ml5_50 rfl (by decide) sh_0 rfl rfl (Nat.le_of_ble_eq_true rfl) ?_
    refine c_requireBranch (nb := nb) s1 s26 (fun g1 => ?_) (fun g1 => ?_)
    · show am_W 5 10 _ _ _ _
      obtain ⟨d, hd, rfl⟩ := g1
      refine am_aload_n d5_10 rfl ?_
      refine am_iload_n d5_11 rfl ?_
      refine am_cv1 20 d5_12 ml5_72 rfl (by decide) sh_0 rfl rfl (Nat.le_of_ble_eq_true rfl) ?_
      refine c_requireOpen (b := b) (by omega) (fun g5 => ?_) (fun g5 => ?_)
      · show am_W 5 15 _ _ _ _
        refine am_aload_n d5_15 rfl ?_
        refine am_iload_n d5_16 rfl ?_
        refine am_cv1 20 d5_17 ml5_72 rfl (by decide) sh_0 rfl rfl (Nat.le_of_ble_eq_true rfl) ?_
        refine c_requireOpen (b := d) (by omega) (fun g8 => ?_) (fun g8 => ?_)
        · show am_W 5 20 _ _ _ _
          refine am_aload_n d5_20 rfl ?_
          refine am_aload_n d5_21 rfl ?_
          refine am_getr d5_22 fl5_26 sh_0 rfl ?_
          refine am_iload_n d5_25 rfl ?_
          refine am_aload_n d5_26 rfl ?_
          refine am_geti d5_27 fl5_43 sh_0 rfl ?_
          rw [s5]
          refine am_cv3 23 d5_30 ml5_113 rfl (by decide) sh_0 rfl rfl rfl rfl (Nat.le_of_ble_eq_true rfl) ?_
          refine c_look (v := 13) (nw := nw) (b := b) (pn := pn) (nb := nb) (Or.inl rfl) s2 s4 s3 hb (nI_pos' (by omega)) (fun M1 f1 v1 => ?_)
          show am_W 5 33 _ _ _ _
          refine am_aload_n d5_33 rfl ?_
          refine am_aload_n d5_34 rfl ?_
          refine am_getr d5_35 fl5_30 sh_0 rfl ?_
          refine am_iload_n d5_38 rfl ?_
          refine am_aload_n d5_39 rfl ?_
          refine am_geti d5_40 fl5_43 sh_0 rfl ?_
          rw [f1.eq 0 (by decide), s5]
          refine am_cv3 23 d5_43 ml5_113 rfl (by decide) sh_0 rfl rfl rfl rfl (Nat.le_of_ble_eq_true rfl) ?_
          refine c_look (v := 17) (nw := nw) (b := d) (pn := pn) (nb := nb) (Or.inr (Or.inl rfl)) (by rw [f1.eq 2 (by decide), f1.eq 3 (by decide)]; exact s2) (by rw [f1.eq 7 (by decide), f1.eq 9 (by decide)]; exact s4) (by rw [f1.eq 6 (by decide)]; exact s3) hd (nI_pos' (by omega)) (fun M2 f2 v2 => ?_)
          rw [f1.eq 10 (by decide), f1.eq 11 (by decide), f1.eq 7 (by decide), f1.eq 8 (by decide), f1.eq 9 (by decide), f1.eq 3 (by decide)] at v2
          show am_W 5 46 _ _ _ _
          refine am_iconst (nI 0) d5_46 (by decide) ?_
          refine am_istore d5_47 (Nat.le_of_ble_eq_true rfl) rfl ?_
          refine am_iconst (nI 0) d5_49 (by decide) ?_
          refine am_istore d5_50 (Nat.le_of_ble_eq_true rfl) rfl ?_
          exact loop M1 M2 f1 v1 f2 v2 0 (by decide) 0 (h0 b d hb rfl hd rfl g5 g8 M2 ((f1.wk (by simp)).tr (f2.wk (by simp))))
        · exact am_af_x (by decide) (by decide) (h2 b d hb rfl hd rfl (Or.inr g8))
      · exact am_af_x (by decide) (by decide) (h2 b d hb rfl hd rfl (Or.inl g5))
    · exact am_af_x (by decide) (by decide) (h1 (fun z => g1 z.2))
  · exact am_af_x (by decide) (by decide) (h1 (fun z => g1 z.1))
theorem p_meeting {pn : Nat → Nat} {nb nw ck : Nat} {M : am_M} {Q : am_T} (hS : bpS M pn nb nw ck) {a e : Int32} (h1 : ¬ (ix a nb ∧ ix e nb) → Q (.inr 0) M) (h0 : ∀ b d, b < nb → a = nI b → d < nb → e = nI d → Q (.inl (some (.int (sp_meet pn (M.1 3) 12 (nI ck) b d)))) M) : am_W kX_meeting 0 (am_in kX_meeting [.ref 0, .int a, .int e]) [] M Q := by
  obtain ⟨s1, s2, s3, s4, s5, s6⟩ := hS
  have s26 := s2.1
  have s41 := s4.1
  show am_W kX_meeting 0 _ [] M Q
  refine am_aload_n d6_0 rfl ?_
  refine am_iload_n d6_1 rfl ?_
  refine am_cv1 15 d6_2 ml6_50 rfl (by decide) sh_0 rfl rfl (Nat.le_of_ble_eq_true rfl) ?_
  refine c_requireBranch (nb := nb) s1 s26 (fun g1 => ?_) (fun g1 => ?_)
  · show am_W 6 5 _ _ _ _
    obtain ⟨b, hb, rfl⟩ := g1
    refine am_aload_n d6_5 rfl ?_
    refine am_iload_n d6_6 rfl ?_
    refine am_cv1 15 d6_7 ml6_50 rfl (by decide) sh_0 rfl rfl (Nat.le_of_ble_eq_true rfl) ?_
    refine c_requireBranch (nb := nb) s1 s26 (fun g1 => ?_) (fun g1 => ?_)
    · show am_W 6 10 _ _ _ _
      obtain ⟨d, hd, rfl⟩ := g1
      refine am_aload_n d6_10 rfl ?_
      refine am_getr d6_11 fl6_12 sh_0 rfl ?_
      refine am_iload_n d6_14 rfl ?_
      refine am_iload_n d6_15 rfl ?_
      refine am_aload_n d6_16 rfl ?_
      refine am_geti d6_17 fl6_43 sh_0 rfl ?_
      rw [s5]
      refine am_cv3 78 d6_20 ml6_140 rfl (by decide) sh_1 rfl rfl rfl rfl (Nat.le_of_ble_eq_true rfl) ?_
      refine c_meet s2 hb hd ?_
      show am_W 6 23 _ (.int _ :: _) _ _
      refine am_iret d6_23 rfl rfl ?_
      exact h0 b d hb rfl hd rfl
    · exact am_af_x (by decide) (by decide) (h1 (fun z => g1 z.2))
  · exact am_af_x (by decide) (by decide) (h1 (fun z => g1 z.1))
/-- the cells that a join is about, and those in conflict -/
def jca (wk wv : Nat → Int32) (r1 r2 r3 : Nat → Option Nat) (c : Nat) : Bool := !sr wk wv (r1 c) (r3 c) && !sr wk wv (r1 c) (r2 c)
def jcf (wk wv : Nat → Int32) (r1 r2 r3 : Nat → Option Nat) (c : Nat) : Bool := jca wk wv r1 r2 r3 c && !sr wk wv (r2 c) (r3 c)
/-- the class's memory behind a join -/
def jf (M M' : am_M) (car : Nat → Bool) (kd vl : Nat → Int32) (b nw ck : Nat) : Prop := fr [0, 5, 6, 7, 8, 9, 10, 11, 14, 15, 16, 18, 19, 20, 22, 23, 24] M M' ∧ M'.1 0 7 = M.1 0 7 ∧ M'.1 6 6 = nI (nw + sp_cnt car 48) ∧ M'.1 0 6 = nI (ck + sp_cnt car 48) ∧ M'.1 7 = jn car (fun _ => nI b) (M.1 7) nw 48 ∧ M'.1 8 = jn car (fun i => nI (ck + sp_cnt car i + 1)) (M.1 8) nw 48 ∧ M'.1 9 = jn car nI (M.1 9) nw 48 ∧ M'.1 10 = jn car kd (M.1 10) nw 48 ∧ M'.1 11 = jn car vl (M.1 11) nw 48
theorem jf_of {M M1 M' : am_M} {car car' : Nat → Bool} {kd vl : Nat → Int32} {b nw ck : Nat} (f : fr [5, 14, 15, 16, 18, 19, 20, 22, 23, 24] M M1) (h : jm M1 M' car' b nw ck 48) (hc : ∀ c, c < 48 → car' c = car c) (hk : ∀ c, c < 48 → M1.1 14 c = kd c) (hv : ∀ c, c < 48 → M1.1 15 c = vl c) : jf M M' car kd vl b nw ck := by
  obtain ⟨a1, a2, a3, a4, a5, a6, a7, a8, a9⟩ := h
  have e := sp_cnt_congr hc
  refine ⟨(f.wk (by simp)).tr (a1.wk (by simp)), ?_, ?_, ?_, ?_, ?_, ?_, ?_, ?_⟩
  · rw [a2, f.eq 0 (by decide)]
  · rw [a3, e]
  · rw [a4, e]
  · rw [a5, f.eq 7 (by decide)]; exact jn_congr hc (fun _ _ _ => rfl)
  · rw [a6, f.eq 8 (by decide)]; exact jn_congr hc (fun c h _ => by rw [sp_cnt_congr (fun i hi => hc i (by omega))])
  · rw [a7, f.eq 9 (by decide)]; exact jn_congr hc (fun _ _ _ => rfl)
  · rw [a8, f.eq 10 (by decide)]; exact jn_congr hc (fun c h _ => hk c h)
  · rw [a9, f.eq 11 (by decide)]; exact jn_congr hc (fun c h _ => hv c h)
set_option maxHeartbeats 1000000 in
theorem p_join {pn : Nat → Nat} {nb nw ck : Nat} {M : am_M} {Q : am_T} (hS : bpS M pn nb nw ck) {a e : Int32} (hz : 0 ≤ M.1 0 7) (h1 : ¬ (ix a nb ∧ ix e nb) → Q (.inr 0) M) (h2 : ∀ b d, b < nb → a = nI b → d < nb → e = nI d → b = d → Q (.inr 1) M) (h3 : ∀ b d, b < nb → a = nI b → d < nb → e = nI d → ¬ b = d → (M.1 4 b = 0 ∨ M.1 4 d = 0 ∨ (sp_meet pn (M.1 3) 12 (nI ck) b d) < M.1 0 7) → Q (.inr 2) M) (h4 : ∀ b d, b < nb → a = nI b → d < nb → e = nI d → ¬ b = d → ¬ M.1 4 b = 0 → ¬ M.1 4 d = 0 → M.1 0 7 ≤ (sp_meet pn (M.1 3) 12 (nI ck) b d) → sp_cnt (jcf (M.1 10) (M.1 11) (sp_row (M.1 7) (M.1 8) (M.1 9) pn (M.1 3) nw b (nI ck)) (sp_row (M.1 7) (M.1 8) (M.1 9) pn (M.1 3) nw d (nI ck)) (sp_row (M.1 7) (M.1 8) (M.1 9) pn (M.1 3) nw b (sp_meet pn (M.1 3) 12 (nI ck) b d))) 48 = 0 → 120 < nw + sp_cnt (jca (M.1 10) (M.1 11) (sp_row (M.1 7) (M.1 8) (M.1 9) pn (M.1 3) nw b (nI ck)) (sp_row (M.1 7) (M.1 8) (M.1 9) pn (M.1 3) nw d (nI ck)) (sp_row (M.1 7) (M.1 8) (M.1 9) pn (M.1 3) nw b (sp_meet pn (M.1 3) 12 (nI ck) b d))) 48 → ∀ M', fr [5, 14, 15, 16, 18, 19, 20, 22, 23, 24] M M' → Q (.inr 3) M') (h5 : ∀ b d, b < nb → a = nI b → d < nb → e = nI d → ¬ b = d → ¬ M.1 4 b = 0 → ¬ M.1 4 d = 0 → M.1 0 7 ≤ (sp_meet pn (M.1 3) 12 (nI ck) b d) → ¬ sp_cnt (jcf (M.1 10) (M.1 11) (sp_row (M.1 7) (M.1 8) (M.1 9) pn (M.1 3) nw b (nI ck)) (sp_row (M.1 7) (M.1 8) (M.1 9) pn (M.1 3) nw d (nI ck)) (sp_row (M.1 7) (M.1 8) (M.1 9) pn (M.1 3) nw b (sp_meet pn (M.1 3) 12 (nI ck) b d))) 48 = 0 → ∀ M', fr [5, 14, 15, 16, 18, 19, 20, 22, 23, 24] M M' → Q (.inl (some (.int (nI (sp_cnt (jcf (M.1 10) (M.1 11) (sp_row (M.1 7) (M.1 8) (M.1 9) pn (M.1 3) nw b (nI ck)) (sp_row (M.1 7) (M.1 8) (M.1 9) pn (M.1 3) nw d (nI ck)) (sp_row (M.1 7) (M.1 8) (M.1 9) pn (M.1 3) nw b (sp_meet pn (M.1 3) 12 (nI ck) b d))) 48))))) M') (h0 : ∀ b d, b < nb → a = nI b → d < nb → e = nI d → ¬ b = d → ¬ M.1 4 b = 0 → ¬ M.1 4 d = 0 → M.1 0 7 ≤ (sp_meet pn (M.1 3) 12 (nI ck) b d) → sp_cnt (jcf (M.1 10) (M.1 11) (sp_row (M.1 7) (M.1 8) (M.1 9) pn (M.1 3) nw b (nI ck)) (sp_row (M.1 7) (M.1 8) (M.1 9) pn (M.1 3) nw d (nI ck)) (sp_row (M.1 7) (M.1 8) (M.1 9) pn (M.1 3) nw b (sp_meet pn (M.1 3) 12 (nI ck) b d))) 48 = 0 → nw + sp_cnt (jca (M.1 10) (M.1 11) (sp_row (M.1 7) (M.1 8) (M.1 9) pn (M.1 3) nw b (nI ck)) (sp_row (M.1 7) (M.1 8) (M.1 9) pn (M.1 3) nw d (nI ck)) (sp_row (M.1 7) (M.1 8) (M.1 9) pn (M.1 3) nw b (sp_meet pn (M.1 3) 12 (nI ck) b d))) 48 ≤ 120 → ∀ M', jf M M' (jca (M.1 10) (M.1 11) (sp_row (M.1 7) (M.1 8) (M.1 9) pn (M.1 3) nw b (nI ck)) (sp_row (M.1 7) (M.1 8) (M.1 9) pn (M.1 3) nw d (nI ck)) (sp_row (M.1 7) (M.1 8) (M.1 9) pn (M.1 3) nw b (sp_meet pn (M.1 3) 12 (nI ck) b d))) (fun c => sp_get (M.1 10) 0 ((sp_row (M.1 7) (M.1 8) (M.1 9) pn (M.1 3) nw b (nI ck)) c)) (fun c => sp_get (M.1 11) 0 ((sp_row (M.1 7) (M.1 8) (M.1 9) pn (M.1 3) nw b (nI ck)) c)) d nw ck → Q (.inl (some (.int (nI (sp_cnt (jcf (M.1 10) (M.1 11) (sp_row (M.1 7) (M.1 8) (M.1 9) pn (M.1 3) nw b (nI ck)) (sp_row (M.1 7) (M.1 8) (M.1 9) pn (M.1 3) nw d (nI ck)) (sp_row (M.1 7) (M.1 8) (M.1 9) pn (M.1 3) nw b (sp_meet pn (M.1 3) 12 (nI ck) b d))) 48))))) M') : am_W kX_join 0 (am_in kX_join [.ref 0, .int a, .int e]) [] M Q := by
  obtain ⟨s1, s2, s3, s4, s5, s6⟩ := hS
  have s26 := s2.1
  have s41 := s4.1
  show am_W kX_join 0 _ [] M Q
  refine am_aload_n d7_0 rfl ?_
  refine am_iload_n d7_1 rfl ?_
  refine am_cv1 15 d7_2 ml7_50 rfl (by decide) sh_0 rfl rfl (Nat.le_of_ble_eq_true rfl) ?_
  refine c_requireBranch (nb := nb) s1 s26 (fun g1 => ?_) (fun g1 => ?_)
  · show am_W 7 5 _ _ _ _
    obtain ⟨b, hb, rfl⟩ := g1
    refine am_aload_n d7_5 rfl ?_
    refine am_iload_n d7_6 rfl ?_
    refine am_cv1 15 d7_7 ml7_50 rfl (by decide) sh_0 rfl rfl (Nat.le_of_ble_eq_true rfl) ?_
    refine c_requireBranch (nb := nb) s1 s26 (fun g1 => ?_) (fun g1 => ?_)
    · show am_W 7 10 _ _ _ _
      obtain ⟨d, hd, rfl⟩ := g1
      refine am_iload_n d7_10 rfl ?_
      refine am_iload_n d7_11 rfl ?_
      refine am_icne 25 d7_12 (by decide) (fun h12 => ?_) (fun h12 => ?_)
      · have nbd : ¬ b = d := fun z => h12 (by rw [z])
        refine am_aload_n d7_25 rfl ?_
        refine am_iload_n d7_26 rfl ?_
        refine am_cv1 20 d7_27 ml7_72 rfl (by decide) sh_0 rfl rfl (Nat.le_of_ble_eq_true rfl) ?_
        refine c_requireOpen (b := b) (by omega) (fun g5 => ?_) (fun g5 => ?_)
        · show am_W 7 30 _ _ _ _
          refine am_aload_n d7_30 rfl ?_
          refine am_iload_n d7_31 rfl ?_
          refine am_cv1 20 d7_32 ml7_72 rfl (by decide) sh_0 rfl rfl (Nat.le_of_ble_eq_true rfl) ?_
          refine c_requireOpen (b := d) (by omega) (fun g8 => ?_) (fun g8 => ?_)
          · show am_W 7 35 _ _ _ _
            refine am_aload_n d7_35 rfl ?_
            refine am_getr d7_36 fl7_12 sh_0 rfl ?_
            refine am_iload_n d7_39 rfl ?_
            refine am_iload_n d7_40 rfl ?_
            refine am_aload_n d7_41 rfl ?_
            refine am_geti d7_42 fl7_43 sh_0 rfl ?_
            rw [s5]
            refine am_cv3 78 d7_45 ml7_140 rfl (by decide) sh_1 rfl rfl rfl rfl (Nat.le_of_ble_eq_true rfl) ?_
            refine c_meet s2 hb hd ?_
            show am_W 7 48 _ (.int _ :: _) _ _
            refine am_istore_n d7_48 (Nat.le_of_ble_eq_true rfl) rfl ?_
            refine am_iload_n d7_49 rfl ?_
            refine am_aload_n d7_50 rfl ?_
            refine am_geti d7_51 fl7_47 sh_0 rfl ?_
            refine am_icge 67 d7_54 (by decide) (fun h54 => ?_) (fun h54 => ?_)
            · refine am_aload_n d7_67 rfl ?_
              refine am_aload_n d7_68 rfl ?_
              refine am_getr d7_69 fl7_26 sh_0 rfl ?_
              refine am_iload_n d7_72 rfl ?_
              refine am_aload_n d7_73 rfl ?_
              refine am_geti d7_74 fl7_43 sh_0 rfl ?_
              rw [s5]
              refine am_cv3 23 d7_77 ml7_113 rfl (by decide) sh_0 rfl rfl rfl rfl (Nat.le_of_ble_eq_true rfl) ?_
              refine c_look (v := 13) (nw := nw) (b := b) (pn := pn) (nb := nb) (Or.inl rfl) s2 s4 s3 hb (nI_pos' (by omega)) (fun M1 f1 v1 => ?_)
              show am_W 7 80 _ _ _ _
              refine am_aload_n d7_80 rfl ?_
              refine am_aload_n d7_81 rfl ?_
              refine am_getr d7_82 fl7_30 sh_0 rfl ?_
              refine am_iload_n d7_85 rfl ?_
              refine am_aload_n d7_86 rfl ?_
              refine am_geti d7_87 fl7_43 sh_0 rfl ?_
              rw [f1.eq 0 (by decide), s5]
              refine am_cv3 23 d7_90 ml7_113 rfl (by decide) sh_0 rfl rfl rfl rfl (Nat.le_of_ble_eq_true rfl) ?_
              refine c_look (v := 17) (nw := nw) (b := d) (pn := pn) (nb := nb) (Or.inr (Or.inl rfl)) (by rw [f1.eq 2 (by decide), f1.eq 3 (by decide)]; exact s2) (by rw [f1.eq 7 (by decide), f1.eq 9 (by decide)]; exact s4) (by rw [f1.eq 6 (by decide)]; exact s3) hd (nI_pos' (by omega)) (fun M2 f2 v2 => ?_)
              rw [f1.eq 10 (by decide), f1.eq 11 (by decide), f1.eq 7 (by decide), f1.eq 8 (by decide), f1.eq 9 (by decide), f1.eq 3 (by decide)] at v2
              have f12 : fr [5, 14, 15, 16, 18, 19, 20] M M2 := (f1.wk (by simp)).tr (f2.wk (by simp))
              show am_W 7 93 _ _ _ _
              refine am_aload_n d7_93 rfl ?_
              refine am_aload_n d7_94 rfl ?_
              refine am_getr d7_95 fl7_33 sh_0 rfl ?_
              refine am_iload_n d7_98 rfl ?_
              refine am_iload_n d7_99 rfl ?_
              refine am_cv3 23 d7_100 ml7_113 rfl (by decide) sh_0 rfl rfl rfl rfl (Nat.le_of_ble_eq_true rfl) ?_
              refine c_look (v := 21) (nw := nw) (b := b) (pn := pn) (nb := nb) (Or.inr (Or.inr rfl)) (by rw [f12.eq 2 (by decide), f12.eq 3 (by decide)]; exact s2) (by rw [f12.eq 7 (by decide), f12.eq 9 (by decide)]; exact s4) (by rw [f12.eq 6 (by decide)]; exact s3) hb (Int32.le_trans hz h54) (fun M3 f3 v3 => ?_)
              rw [f12.eq 10 (by decide), f12.eq 11 (by decide), f12.eq 7 (by decide), f12.eq 8 (by decide), f12.eq 9 (by decide), f12.eq 3 (by decide)] at v3
              have f13 : fr [5, 14, 15, 16, 18, 19, 20, 22, 23, 24] M M3 := (f12.wk (by simp)).tr (f3.wk (by simp))
              have w1 : vw M3 13 (M.1 10) (M.1 11) (M.1 8) (sp_row (M.1 7) (M.1 8) (M.1 9) pn (M.1 3) nw b (nI ck)) := fun c hc => by rw [f3.eq 14 (by decide), f3.eq 15 (by decide), f3.eq 16 (by decide), f2.eq 14 (by decide), f2.eq 15 (by decide), f2.eq 16 (by decide)]; exact v1 c hc
              have w2 : vw M3 17 (M.1 10) (M.1 11) (M.1 8) (sp_row (M.1 7) (M.1 8) (M.1 9) pn (M.1 3) nw d (nI ck)) := fun c hc => by rw [f3.eq 18 (by decide), f3.eq 19 (by decide), f3.eq 20 (by decide)]; exact v2 c hc
              have eca : ∀ c, c < 48 → ca M3 c = (jca (M.1 10) (M.1 11) (sp_row (M.1 7) (M.1 8) (M.1 9) pn (M.1 3) nw b (nI ck)) (sp_row (M.1 7) (M.1 8) (M.1 9) pn (M.1 3) nw d (nI ck)) (sp_row (M.1 7) (M.1 8) (M.1 9) pn (M.1 3) nw b (sp_meet pn (M.1 3) 12 (nI ck) b d))) c := fun c hc => by unfold ca jca; rw [vw_sm w1 v3 hc, vw_sm w1 w2 hc]
              have ecf : sp_cnt (fun c => ca M3 c && !sm M3 17 21 c) 48 = sp_cnt (jcf (M.1 10) (M.1 11) (sp_row (M.1 7) (M.1 8) (M.1 9) pn (M.1 3) nw b (nI ck)) (sp_row (M.1 7) (M.1 8) (M.1 9) pn (M.1 3) nw d (nI ck)) (sp_row (M.1 7) (M.1 8) (M.1 9) pn (M.1 3) nw b (sp_meet pn (M.1 3) 12 (nI ck) b d))) 48 := sp_cnt_congr (fun c hc => by show (ca M3 c && !sm M3 17 21 c) = _; unfold jcf; rw [eca c hc, vw_sm w2 v3 hc])
              have ecn : sp_cnt (ca M3) 48 = sp_cnt (jca (M.1 10) (M.1 11) (sp_row (M.1 7) (M.1 8) (M.1 9) pn (M.1 3) nw b (nI ck)) (sp_row (M.1 7) (M.1 8) (M.1 9) pn (M.1 3) nw d (nI ck)) (sp_row (M.1 7) (M.1 8) (M.1 9) pn (M.1 3) nw b (sp_meet pn (M.1 3) 12 (nI ck) b d))) 48 := sp_cnt_congr eca
              have lcf := sp_cnt_le (jcf (M.1 10) (M.1 11) (sp_row (M.1 7) (M.1 8) (M.1 9) pn (M.1 3) nw b (nI ck)) (sp_row (M.1 7) (M.1 8) (M.1 9) pn (M.1 3) nw d (nI ck)) (sp_row (M.1 7) (M.1 8) (M.1 9) pn (M.1 3) nw b (sp_meet pn (M.1 3) 12 (nI ck) b d))) 48
              have lca := sp_cnt_le (jca (M.1 10) (M.1 11) (sp_row (M.1 7) (M.1 8) (M.1 9) pn (M.1 3) nw b (nI ck)) (sp_row (M.1 7) (M.1 8) (M.1 9) pn (M.1 3) nw d (nI ck)) (sp_row (M.1 7) (M.1 8) (M.1 9) pn (M.1 3) nw b (sp_meet pn (M.1 3) 12 (nI ck) b d))) 48
              show am_W 7 103 _ _ _ _
              refine am_aload_n d7_103 rfl ?_
              refine am_cv0 28 d7_104 ml7_148 rfl (by decide) sh_0 rfl  (Nat.le_of_ble_eq_true rfl) ?_
              refine c_countConflicts ?_
              rw [ecf]
              show am_W 7 107 _ (.int _ :: _) _ _
              refine am_istore d7_107 (Nat.le_of_ble_eq_true rfl) rfl ?_
              refine am_iload d7_109 rfl ?_
              refine am_ifne 127 d7_111 (by decide) (fun h111 => ?_) (fun h111 => ?_)
              · have hk : ¬ sp_cnt (jcf (M.1 10) (M.1 11) (sp_row (M.1 7) (M.1 8) (M.1 9) pn (M.1 3) nw b (nI ck)) (sp_row (M.1 7) (M.1 8) (M.1 9) pn (M.1 3) nw d (nI ck)) (sp_row (M.1 7) (M.1 8) (M.1 9) pn (M.1 3) nw b (sp_meet pn (M.1 3) 12 (nI ck) b d))) 48 = 0 := fun z => h111 (by rw [z]; rfl)
                refine am_iload d7_127 rfl ?_
                refine am_iret d7_129 rfl rfl ?_
                first | exact h5 b d hb rfl hd rfl nbd g5 g8 h54 hk M3 f13 | exact h0 b d hb rfl hd rfl nbd g5 g8 h54 hk g7 M4 (jf_of f13 j4 eca (fun c hc => (w1 c hc).1) (fun c hc => (w1 c hc).2.1))
              · have hk : sp_cnt (jcf (M.1 10) (M.1 11) (sp_row (M.1 7) (M.1 8) (M.1 9) pn (M.1 3) nw b (nI ck)) (sp_row (M.1 7) (M.1 8) (M.1 9) pn (M.1 3) nw d (nI ck)) (sp_row (M.1 7) (M.1 8) (M.1 9) pn (M.1 3) nw b (sp_meet pn (M.1 3) 12 (nI ck) b d))) 48 = 0 := (nI_eq (by omega) (by decide)).mp h111
                refine am_aload_n d7_114 rfl ?_
                refine am_aload_n d7_115 rfl ?_
                refine am_cv0 27 d7_116 ml7_151 rfl (by decide) sh_0 rfl  (Nat.le_of_ble_eq_true rfl) ?_
                refine c_countCarried ?_
                rw [ecn]
                show am_W 7 119 _ (.int _ :: _) _ _
                refine am_cv1 21 d7_119 ml7_100 rfl (by decide) sh_0 rfl rfl (Nat.le_of_ble_eq_true rfl) ?_
                refine c_requireRoomFor (nw := nw) (by rw [f13.eq 6 (by decide)]; exact s3) s41 lca (fun g7 => ?_) (fun g7 => ?_)
                · show am_W 7 122 _ _ _ _
                  refine am_aload_n d7_122 rfl ?_
                  refine am_iload_n d7_123 rfl ?_
                  refine am_cv1 29 d7_124 ml7_154 rfl (by decide) sh_0 rfl rfl (Nat.le_of_ble_eq_true rfl) ?_
                  refine c_carryTo (b := d) (nw := nw) (ck := ck) (by rw [f13.eq 0 (by decide)]; exact s5) (by rw [f13.eq 6 (by decide)]; exact s3) (by rw [ecn]; exact g7) (fun M4 j4 => ?_)
                  show am_W 7 127 _ _ _ _
                  refine am_iload d7_127 rfl ?_
                  refine am_iret d7_129 rfl rfl ?_
                  first | exact h5 b d hb rfl hd rfl nbd g5 g8 h54 hk M3 f13 | exact h0 b d hb rfl hd rfl nbd g5 g8 h54 hk g7 M4 (jf_of f13 j4 eca (fun c hc => (w1 c hc).1) (fun c hc => (w1 c hc).2.1))
                · exact am_af_x (by decide) (by decide) (h4 b d hb rfl hd rfl nbd g5 g8 h54 hk g7 M3 f13)
            · refine am_thr (x := 2) d7_57 (by decide) (Nat.le_of_ble_eq_true rfl) ?_
              exact h3 b d hb rfl hd rfl nbd (Or.inr (Or.inr (Int32.not_le.mp h54)))
          · exact am_af_x (by decide) (by decide) (h3 b d hb rfl hd rfl nbd (Or.inr (Or.inl g8)))
        · exact am_af_x (by decide) (by decide) (h3 b d hb rfl hd rfl nbd (Or.inl g5))
      · have ebd : b = d := (nI_eq (by omega) (by omega)).mp h12
        refine am_thr (x := 1) d7_15 (by decide) (Nat.le_of_ble_eq_true rfl) ?_
        exact h2 b d hb rfl hd rfl ebd
    · exact am_af_x (by decide) (by decide) (h1 (fun z => g1 z.2))
  · exact am_af_x (by decide) (by decide) (h1 (fun z => g1 z.1))
theorem p_reach {pn : Nat → Nat} {nb nw ck : Nat} {M : am_M} {Q : am_T} (hS : bpS M pn nb nw ck) {a m u : Int32} (h1 : ¬ (ix a nb ∧ ix u 12) → Q (.inr 0) M) (h2 : ∀ b o, b < nb → a = nI b → o < 12 → u = nI o → ¬ bp_rd M b m → Q (.inr 1) M) (h0 : ∀ b o, b < nb → a = nI b → o < 12 → u = nI o → bp_rd M b m → ∀ M', fr [5, 14, 15, 16] M M' → Q (.inl (some (.int (sp_clo (sp_fld (fun t f => sp_refd (fun c => sp_get (M.1 10) 0 (sp_row (M.1 7) (M.1 8) (M.1 9) pn (M.1 3) nw b m c)) (fun c => sp_get (M.1 11) 0 (sp_row (M.1 7) (M.1 8) (M.1 9) pn (M.1 3) nw b m c)) t f) 4) 12 ((1 : Int32) <<< (nI o &&& 31)) 0)))) M') : am_W kX_reach 0 (am_in kX_reach [.ref 0, .int a, .int m, .int u]) [] M Q := by
  obtain ⟨s1, s2, s3, s4, s5, s6⟩ := hS
  have s26 := s2.1
  have s41 := s4.1
  show am_W kX_reach 0 _ [] M Q
  refine am_aload_n d9_0 rfl ?_
  refine am_iload_n d9_1 rfl ?_
  refine am_cv1 15 d9_2 ml9_50 rfl (by decide) sh_0 rfl rfl (Nat.le_of_ble_eq_true rfl) ?_
  refine c_requireBranch (nb := nb) s1 s26 (fun g1 => ?_) (fun g1 => ?_)
  · show am_W 9 5 _ _ _ _
    obtain ⟨b, hb, rfl⟩ := g1
    refine am_iload_n d9_5 rfl ?_
    refine am_cs1 16 d9_6 ml9_85 rfl (by decide) rfl rfl (Nat.le_of_ble_eq_true rfl) ?_
    refine c_requireObject (fun g2 => ?_) (fun g2 => ?_)
    · show am_W 9 9 _ _ _ _
      obtain ⟨o, ho, rfl⟩ := g2
      refine am_aload_n d9_9 rfl ?_
      refine am_iload_n d9_10 rfl ?_
      refine am_iload_n d9_11 rfl ?_
      refine am_cv2 19 d9_12 ml9_54 rfl (by decide) sh_0 rfl rfl rfl (Nat.le_of_ble_eq_true rfl) ?_
      refine c_requireReadable (b := b) (by omega) (fun g4 => ?_) (fun g4 => ?_)
      · show am_W 9 15 _ _ _ _
        refine am_aload_n d9_15 rfl ?_
        refine am_aload_n d9_16 rfl ?_
        refine am_getr d9_17 fl9_26 sh_0 rfl ?_
        refine am_iload_n d9_20 rfl ?_
        refine am_iload_n d9_21 rfl ?_
        refine am_cv3 23 d9_22 ml9_113 rfl (by decide) sh_0 rfl rfl rfl rfl (Nat.le_of_ble_eq_true rfl) ?_
        refine c_look (v := 13) (Or.inl rfl) s2 s4 s3 hb (rd_pos s2 hb g4) (fun M1 f1 v1 => ?_)
        show am_W 9 25 _ _ _ _
        refine am_aload_n d9_25 rfl ?_
        refine am_getr d9_26 fl9_26 sh_0 rfl ?_
        refine am_iconst 1 d9_29 (by decide) ?_
        refine am_iload_n d9_30 rfl ?_
        refine am_ishl d9_31 ?_
        refine am_cv1 99 d9_32 ml9_162 rfl (by decide) sh_13 rfl rfl (Nat.le_of_ble_eq_true rfl) ?_
        refine c_allLedTo (v := 13) (Or.inl rfl) ?_
        rw [sp_all_c (fun c hc => (v1 c hc).1) (fun c hc => (v1 c hc).2.1)]
        show am_W 9 35 _ (.int _ :: _) _ _
        refine am_iret d9_35 rfl rfl ?_
        exact h0 b o hb rfl ho rfl g4 M1 f1
      · exact am_af_x (by decide) (by decide) (h2 b o hb rfl ho rfl g4)
    · exact am_af_x (by decide) (by decide) (h1 (fun z => g2 z.2))
  · exact am_af_x (by decide) (by decide) (h1 (fun z => g1 z.1))
theorem p_find {pn : Nat → Nat} {nb nw ck : Nat} {M : am_M} {Q : am_T} (hS : bpS M pn nb nw ck) {a m : Int32} {q : Nat → Nat} {len : Nat} (ht : tx M q len) (h1 : ¬ ix a nb → Q (.inr 0) M) (h2 : ∀ b, b < nb → a = nI b → ¬ bp_rd M b m → Q (.inr 1) M) (h0 : ∀ b, b < nb → a = nI b → bp_rd M b m → ∀ M', fr [5, 14, 15, 16, 25] M M' → M'.1 25 1 = M.1 25 1 → Q (.inl (some (.int (ps_find (fun c => sp_get (M.1 10) 0 (sp_row (M.1 7) (M.1 8) (M.1 9) pn (M.1 3) nw b m c)) (fun c => sp_get (M.1 11) 0 (sp_row (M.1 7) (M.1 8) (M.1 9) pn (M.1 3) nw b m c)) q len)))) M') : am_W kX_find 0 (am_in kX_find [.ref 0, .int a, .int m]) [] M Q := by
  obtain ⟨s1, s2, s3, s4, s5, s6⟩ := hS
  have s26 := s2.1
  have s41 := s4.1
  show am_W kX_find 0 _ [] M Q
  refine am_aload_n d12_0 rfl ?_
  refine am_iload_n d12_1 rfl ?_
  refine am_cv1 15 d12_2 ml12_50 rfl (by decide) sh_0 rfl rfl (Nat.le_of_ble_eq_true rfl) ?_
  refine c_requireBranch (nb := nb) s1 s26 (fun g1 => ?_) (fun g1 => ?_)
  · show am_W 12 5 _ _ _ _
    obtain ⟨b, hb, rfl⟩ := g1
    refine am_aload_n d12_5 rfl ?_
    refine am_iload_n d12_6 rfl ?_
    refine am_iload_n d12_7 rfl ?_
    refine am_cv2 19 d12_8 ml12_54 rfl (by decide) sh_0 rfl rfl rfl (Nat.le_of_ble_eq_true rfl) ?_
    refine c_requireReadable (b := b) (by omega) (fun g4 => ?_) (fun g4 => ?_)
    · show am_W 12 11 _ _ _ _
      refine am_aload_n d12_11 rfl ?_
      refine am_aload_n d12_12 rfl ?_
      refine am_getr d12_13 fl12_26 sh_0 rfl ?_
      refine am_iload_n d12_16 rfl ?_
      refine am_iload_n d12_17 rfl ?_
      refine am_cv3 23 d12_18 ml12_113 rfl (by decide) sh_0 rfl rfl rfl rfl (Nat.le_of_ble_eq_true rfl) ?_
      refine c_look (v := 13) (Or.inl rfl) s2 s4 s3 hb (rd_pos s2 hb g4) (fun M1 f1 v1 => ?_)
      show am_W 12 21 _ _ _ _
      refine am_aload_n d12_21 rfl ?_
      refine am_getr d12_22 fl12_39 sh_0 rfl ?_
      refine am_aload_n d12_25 rfl ?_
      refine am_getr d12_26 fl12_26 sh_0 rfl ?_
      refine am_cv1 84 d12_29 ml12_182 rfl (by decide) sh_25 rfl rfl (Nat.le_of_ble_eq_true rfl) ?_
      refine c_follow (v := 13) (q := q) (len := len) (Or.inl rfl) (by unfold tx at ht ⊢; rw [f1.eq 25 (by decide), f1.eq 26 (by decide)]; exact ht) (fun M2 f2 e2 => ?_)
      rw [ps_find_c (fun c hc => (v1 c hc).1) (fun c hc => (v1 c hc).2.1)]
      show am_W 12 32 _ (.int _ :: _) _ _
      refine am_iret d12_32 rfl rfl ?_
      exact h0 b hb rfl g4 M2 ((f1.wk (by simp)).tr (f2.wk (by simp))) (e2.trans (by rw [f1.eq 25 (by decide)]))
    · exact am_af_x (by decide) (by decide) (h2 b hb rfl g4)
  · exact am_af_x (by decide) (by decide) (h1 g1)
theorem p_type {pn : Nat → Nat} {nb nw ck : Nat} {M : am_M} {Q : am_T} (hS : bpS M pn nb nw ck) {w : Int32} {len : Nat} (hl : M.1 25 1 = nI len) (hl2 : len ≤ 32) (h1 : (∃ j, j < 4 ∧ ty_bad w j = true) → Q (.inr 1) M) (h2 : (∀ j, j < 4 → ¬ ty_bad w j = true) → ¬ len + sp_cnt (ty_on w) 4 ≤ 32 → Q (.inr 2) M) (h0 : (∀ j, j < 4 → ¬ ty_bad w j = true) → len + sp_cnt (ty_on w) 4 ≤ 32 → ∀ M', fr [25, 26] M M' → M'.1 25 1 = nI (len + sp_cnt (ty_on w) 4) → M'.1 26 = ty_t w (M.1 26) len 4 → Q (.inl (some (.int (nI (len + sp_cnt (ty_on w) 4))))) M') : am_W kX_type 0 (am_in kX_type [.ref 0, .int w]) [] M Q := by
  obtain ⟨s1, s2, s3, s4, s5, s6⟩ := hS
  have s26 := s2.1
  have s41 := s4.1
  show am_W kX_type 0 _ [] M Q
  refine am_aload_n d10_0 rfl ?_
  refine am_getr d10_1 fl10_39 sh_0 rfl ?_
  refine am_iload_n d10_4 rfl ?_
  refine am_cv1 80 d10_5 ml10_166 rfl (by decide) sh_25 rfl rfl (Nat.le_of_ble_eq_true rfl) ?_
  refine c_canHold (fun g1 => ?_) (fun g1 => ?_)
  · show am_W 10 8 _ (.int 1 :: _) _ _
    refine am_ifne 21 d10_8 (by decide) (fun _ => ?_) (fun h => absurd h (by decide))
    refine am_aload_n d10_21 rfl ?_
    refine am_getr d10_22 fl10_39 sh_0 rfl ?_
    refine am_iload_n d10_25 rfl ?_
    refine am_cv1 81 d10_26 ml10_172 rfl (by decide) sh_25 rfl rfl (Nat.le_of_ble_eq_true rfl) ?_
    refine c_hasRoomFor hl hl2 (fun g2 => ?_) (fun g2 => ?_)
    · show am_W 10 29 _ (.int 1 :: _) _ _
      refine am_ifne 42 d10_29 (by decide) (fun _ => ?_) (fun h => absurd h (by decide))
      refine am_aload_n d10_42 rfl ?_
      refine am_getr d10_43 fl10_39 sh_0 rfl ?_
      refine am_iload_n d10_46 rfl ?_
      refine am_cv1 82 d10_47 ml10_177 rfl (by decide) sh_25 rfl rfl (Nat.le_of_ble_eq_true rfl) ?_
      refine c_Padd hl g2 (fun M1 f1 e1 e2 => ?_)
      show am_W 10 50 _ (.int _ :: _) _ _
      refine am_iret d10_50 rfl rfl ?_
      exact h0 g1 g2 M1 f1 e1 e2
    · show am_W 10 29 _ (.int 0 :: _) _ _
      refine am_ifne 42 d10_29 (by decide) (fun h => absurd h (by decide)) (fun _ => ?_)
      refine am_thr (x := 2) d10_32 (by decide) (Nat.le_of_ble_eq_true rfl) ?_
      first | exact h2 g1 g2 | exact h1 g1
  · show am_W 10 8 _ (.int 0 :: _) _ _
    refine am_ifne 21 d10_8 (by decide) (fun h => absurd h (by decide)) (fun _ => ?_)
    refine am_thr (x := 1) d10_11 (by decide) (Nat.le_of_ble_eq_true rfl) ?_
    first | exact h2 g1 g2 | exact h1 g1
theorem p_erase {pn : Nat → Nat} {nb nw ck : Nat} {M : am_M} {Q : am_T} (hS : bpS M pn nb nw ck) (hQ : Q (.inl none) (am_set M 25 1 0)) : am_W kX_erase 0 (am_in kX_erase [.ref 0]) [] M Q := by
  obtain ⟨s1, s2, s3, s4, s5, s6⟩ := hS
  have s26 := s2.1
  have s41 := s4.1
  show am_W kX_erase 0 _ [] M Q
  refine am_aload_n d11_0 rfl ?_
  refine am_getr d11_1 fl11_39 sh_0 rfl ?_
  refine am_cv0 83 d11_4 ml11_179 rfl (by decide) sh_25 rfl  (Nat.le_of_ble_eq_true rfl) ?_
  refine c_Pclear ?_
  show am_W 11 7 _ _ _ _
  refine am_vret d11_7 rfl ?_
  exact hQ
theorem p_state {pn : Nat → Nat} {nb nw ck : Nat} {M : am_M} {Q : am_T} (hS : bpS M pn nb nw ck) {w : Int32} (h1 : ¬ ix w 4 → Q (.inr 1) M) (h0 : ix w 4 → Q (.inl (some (.int (if w = 0 then M.1 0 6 else if w = 1 then M.1 0 7 else if w = 2 then nI nw else nI nb)))) M) : am_W kX_state 0 (am_in kX_state [.ref 0, .int w]) [] M Q := by
  obtain ⟨s1, s2, s3, s4, s5, s6⟩ := hS
  have s26 := s2.1
  have s41 := s4.1
  show am_W kX_state 0 _ [] M Q
  refine am_iload_n d13_0 rfl ?_
  refine am_iconst (nI 3) d13_1 (by decide) ?_
  refine am_cs2 18 d13_2 ml13_110 rfl (by decide) rfl rfl rfl (Nat.le_of_ble_eq_true rfl) ?_
  refine c_requireWhat (n := 3) (by decide) (fun g6 => ?_) (fun g6 => ?_)
  · show am_W 13 5 _ _ _ _
    refine am_iload_n d13_5 rfl ?_
    refine am_ifne 14 d13_6 (by decide) (fun h6 => ?_) (fun h6 => ?_)
    · refine am_iload_n d13_14 rfl ?_
      refine am_iconst 1 d13_15 (by decide) ?_
      refine am_icne 24 d13_16 (by decide) (fun h16 => ?_) (fun h16 => ?_)
      · refine am_iload_n d13_24 rfl ?_
        refine am_iconst 2 d13_25 (by decide) ?_
        refine am_icne 39 d13_26 (by decide) (fun h26 => ?_) (fun h26 => ?_)
        · refine am_aload_n d13_39 rfl ?_
          refine am_getr d13_40 fl13_12 sh_0 rfl ?_
          refine am_geti d13_43 fl13_58 sh_1 rfl ?_
          refine am_iret d13_46 rfl rfl ?_
          have hz := h0 g6
          first | (rw [if_pos h6] at hz; exact hz) | (rw [if_neg h6, if_pos h16] at hz; exact hz) | (rw [if_neg h6, if_neg h16, if_pos h26] at hz; rw [s3]; exact hz) | (rw [if_neg h6, if_neg h16, if_neg h26] at hz; rw [s1]; exact hz)
        · refine am_aload_n d13_29 rfl ?_
          refine am_getr d13_30 fl13_19 sh_0 rfl ?_
          refine am_geti d13_33 fl13_186 sh_6 rfl ?_
          refine am_goto 46 d13_36 (by decide) ?_
          refine am_iret d13_46 rfl rfl ?_
          have hz := h0 g6
          first | (rw [if_pos h6] at hz; exact hz) | (rw [if_neg h6, if_pos h16] at hz; exact hz) | (rw [if_neg h6, if_neg h16, if_pos h26] at hz; rw [s3]; exact hz) | (rw [if_neg h6, if_neg h16, if_neg h26] at hz; rw [s1]; exact hz)
      · refine am_aload_n d13_19 rfl ?_
        refine am_geti d13_20 fl13_47 sh_0 rfl ?_
        refine am_iret d13_23 rfl rfl ?_
        have hz := h0 g6
        first | (rw [if_pos h6] at hz; exact hz) | (rw [if_neg h6, if_pos h16] at hz; exact hz) | (rw [if_neg h6, if_neg h16, if_pos h26] at hz; rw [s3]; exact hz) | (rw [if_neg h6, if_neg h16, if_neg h26] at hz; rw [s1]; exact hz)
    · refine am_aload_n d13_9 rfl ?_
      refine am_geti d13_10 fl13_43 sh_0 rfl ?_
      refine am_iret d13_13 rfl rfl ?_
      have hz := h0 g6
      first | (rw [if_pos h6] at hz; exact hz) | (rw [if_neg h6, if_pos h16] at hz; exact hz) | (rw [if_neg h6, if_neg h16, if_pos h26] at hz; rw [s3]; exact hz) | (rw [if_neg h6, if_neg h16, if_neg h26] at hz; rw [s1]; exact hz)
  · exact am_af_x (by decide) (by decide) (h1 g6)
theorem p_about {pn : Nat → Nat} {nb nw ck : Nat} {M : am_M} {Q : am_T} (hS : bpS M pn nb nw ck) {a w : Int32} (h1 : ¬ ix a nb → Q (.inr 0) M) (h2 : ∀ b, b < nb → a = nI b → ¬ ix w 4 → Q (.inr 1) M) (h0 : ∀ b, b < nb → a = nI b → ix w 4 → Q (.inl (some (.int (if w = 0 then (if M.1 4 b = 0 then 0 else 1) else if w = 1 then M.1 2 b else if w = 2 then M.1 3 b else nI (sp_cnt (fun i => decide (M.1 7 i = nI b)) nw))))) M) : am_W kX_about 0 (am_in kX_about [.ref 0, .int a, .int w]) [] M Q := by
  obtain ⟨s1, s2, s3, s4, s5, s6⟩ := hS
  have s26 := s2.1
  have s41 := s4.1
  show am_W kX_about 0 _ [] M Q
  refine am_aload_n d14_0 rfl ?_
  refine am_iload_n d14_1 rfl ?_
  refine am_cv1 15 d14_2 ml14_50 rfl (by decide) sh_0 rfl rfl (Nat.le_of_ble_eq_true rfl) ?_
  refine c_requireBranch (nb := nb) s1 s26 (fun g1 => ?_) (fun g1 => ?_)
  · show am_W 14 5 _ _ _ _
    obtain ⟨b, hb, rfl⟩ := g1
    refine am_iload_n d14_5 rfl ?_
    refine am_iconst (nI 3) d14_6 (by decide) ?_
    refine am_cs2 18 d14_7 ml14_110 rfl (by decide) rfl rfl rfl (Nat.le_of_ble_eq_true rfl) ?_
    refine c_requireWhat (n := 3) (by decide) (fun g6 => ?_) (fun g6 => ?_)
    · show am_W 14 10 _ _ _ _
      refine am_iload_n d14_10 rfl ?_
      refine am_ifne 32 d14_11 (by decide) (fun h11 => ?_) (fun h11 => ?_)
      · refine am_iload_n d14_32 rfl ?_
        refine am_iconst 1 d14_33 (by decide) ?_
        refine am_icne 47 d14_34 (by decide) (fun h34 => ?_) (fun h34 => ?_)
        · refine am_iload_n d14_47 rfl ?_
          refine am_iconst 2 d14_48 (by decide) ?_
          refine am_icne 64 d14_49 (by decide) (fun h49 => ?_) (fun h49 => ?_)
          · refine am_aload_n d14_64 rfl ?_
            refine am_getr d14_65 fl14_19 sh_0 rfl ?_
            refine am_iload_n d14_68 rfl ?_
            refine am_cv1 106 d14_69 ml14_193 rfl (by decide) sh_6 rfl rfl (Nat.le_of_ble_eq_true rfl) ?_
            refine c_countOf s3 s41 ?_
            show am_W 14 72 _ (.int _ :: _) _ _
            refine am_iret d14_72 rfl rfl ?_
            have hz := h0 b hb rfl g6
            first | (rw [if_pos h11, if_pos h23] at hz; exact hz) | (rw [if_pos h11, if_neg h23] at hz; exact hz) | (rw [if_neg h11, if_pos h34] at hz; exact hz) | (rw [if_neg h11, if_neg h34, if_pos h49] at hz; exact hz) | (rw [if_neg h11, if_neg h34, if_neg h49] at hz; exact hz)
          · refine am_aload_n d14_52 rfl ?_
            refine am_getr d14_53 fl14_12 sh_0 rfl ?_
            refine am_getr d14_56 fl14_190 sh_1 rfl ?_
            refine am_iload_n d14_59 rfl ?_
            refine am_ialdN b d14_60 sh_3 (by omega) (by decide) ?_
            refine am_goto 72 d14_61 (by decide) ?_
            refine am_iret d14_72 rfl rfl ?_
            have hz := h0 b hb rfl g6
            first | (rw [if_pos h11, if_pos h23] at hz; exact hz) | (rw [if_pos h11, if_neg h23] at hz; exact hz) | (rw [if_neg h11, if_pos h34] at hz; exact hz) | (rw [if_neg h11, if_neg h34, if_pos h49] at hz; exact hz) | (rw [if_neg h11, if_neg h34, if_neg h49] at hz; exact hz)
        · refine am_aload_n d14_37 rfl ?_
          refine am_getr d14_38 fl14_12 sh_0 rfl ?_
          refine am_getr d14_41 fl14_187 sh_1 rfl ?_
          refine am_iload_n d14_44 rfl ?_
          refine am_ialdN b d14_45 sh_2 (by omega) (by decide) ?_
          refine am_iret d14_46 rfl rfl ?_
          have hz := h0 b hb rfl g6
          first | (rw [if_pos h11, if_pos h23] at hz; exact hz) | (rw [if_pos h11, if_neg h23] at hz; exact hz) | (rw [if_neg h11, if_pos h34] at hz; exact hz) | (rw [if_neg h11, if_neg h34, if_pos h49] at hz; exact hz) | (rw [if_neg h11, if_neg h34, if_neg h49] at hz; exact hz)
      · refine am_aload_n d14_14 rfl ?_
        refine am_getr d14_15 fl14_12 sh_0 rfl ?_
        refine am_getr d14_18 fl14_81 sh_1 rfl ?_
        refine am_iload_n d14_21 rfl ?_
        refine am_zaldN b d14_22 sh_4 (by omega) (by decide) ?_
        refine am_ifeq 30 d14_23 (by decide) (fun h23 => ?_) (fun h23 => ?_)
        · refine am_iconst 0 d14_30 (by decide) ?_
          refine am_iret d14_31 rfl rfl ?_
          have hz := h0 b hb rfl g6
          first | (rw [if_pos h11, if_pos h23] at hz; exact hz) | (rw [if_pos h11, if_neg h23] at hz; exact hz) | (rw [if_neg h11, if_pos h34] at hz; exact hz) | (rw [if_neg h11, if_neg h34, if_pos h49] at hz; exact hz) | (rw [if_neg h11, if_neg h34, if_neg h49] at hz; exact hz)
        · refine am_iconst 1 d14_26 (by decide) ?_
          refine am_goto 31 d14_27 (by decide) ?_
          refine am_iret d14_31 rfl rfl ?_
          have hz := h0 b hb rfl g6
          first | (rw [if_pos h11, if_pos h23] at hz; exact hz) | (rw [if_pos h11, if_neg h23] at hz; exact hz) | (rw [if_neg h11, if_pos h34] at hz; exact hz) | (rw [if_neg h11, if_neg h34, if_pos h49] at hz; exact hz) | (rw [if_neg h11, if_neg h34, if_neg h49] at hz; exact hz)
    · exact am_af_x (by decide) (by decide) (h2 b hb rfl g6)
  · exact am_af_x (by decide) (by decide) (h1 g1)
theorem mk_b_k {M M1 : am_M} {pn : Nat → Nat} {nw b j : Nat} (h : fr [5, 12, 14, 15, 16] M M1) : mk_b M1 pn nw b j = mk_b M pn nw b j := by
  unfold mk_b bp_first
  rw [h.eq 0 (by decide), h.eq 3 (by decide), h.eq 4 (by decide), h.eq 7 (by decide), h.eq 8 (by decide), h.eq 9 (by decide)]
theorem p_trim {pn : Nat → Nat} {nb nw ck : Nat} {M : am_M} {Q : am_T} (hS : bpS M pn nb nw ck) {m : Int32} (h1 : (m < M.1 0 7 ∨ M.1 0 6 < m) → Q (.inr 1) M) (h0 : ¬ m < M.1 0 7 → m ≤ M.1 0 6 → ∀ M', fr [0, 5, 6, 7, 8, 9, 10, 11, 12, 14, 15, 16] M M' → M'.1 0 6 = M.1 0 6 → M'.1 0 7 = m → M'.1 6 6 = nI (sp_cnt (fun j => sp_any (fun b => mk_b (am_set M 0 7 m) pn nw b j) nb) nw) → (∀ p, 7 ≤ p → p ≤ 11 → M'.1 p = sp_cp (fun j => sp_any (fun b => mk_b (am_set M 0 7 m) pn nw b j) nb) (M.1 p) nw) → Q (.inl (some (.int (nI (nw - sp_cnt (fun j => sp_any (fun b => mk_b (am_set M 0 7 m) pn nw b j) nb) nw))))) M') : am_W kX_trim 0 (am_in kX_trim [.ref 0, .int m]) [] M Q := by
  obtain ⟨s1, s2, s3, s4, s5, s6⟩ := hS
  have s26 := s2.1
  have s41 := s4.1
  have loop : ∀ M1 : am_M, fr [12] (am_set M 0 7 m) M1 → ¬ m < M.1 0 7 → m ≤ M.1 0 6 → ∀ i, i ≤ nb → ∀ M2 : am_M, fr [5, 12, 14, 15, 16] M1 M2 → (∀ j, j < nw → M2.1 12 j = if sp_any (fun b => mk_b (am_set M 0 7 m) pn nw b j) i = true then 1 else 0) → am_W kX_trim 40 [.ref 0, .int m, .int (nI i)] [] M2 Q := by
    intro M1 f1 g5 g13
    refine am_loop nb (fun i hi ih => ?_)
    intro M2 f2 I
    have k2 : fr [5, 12, 14, 15, 16] (am_set M 0 7 m) M2 := (f1.wk (by simp)).tr f2
    refine am_iload_n d8_40 rfl ?_
    refine am_aload_n d8_41 rfl ?_
    refine am_getr d8_42 fl8_12 sh_0 rfl ?_
    refine am_geti d8_45 fl8_58 sh_1 rfl ?_
    rw [k2.eq 1 (by decide)]
    rw [show (am_set M 0 7 m).1 1 4 = nI nb from s1]
    refine am_icgeN 62 i nb d8_48 (by decide) rfl rfl (by omega) (by omega) (fun h48 => ?_) (fun h48 => ?_)
    · refine am_aload_n d8_62 rfl ?_
      refine am_getr d8_63 fl8_19 sh_0 rfl ?_
      refine am_cv0 112 d8_66 ml8_159 rfl (by decide) sh_6 rfl  (Nat.le_of_ble_eq_true rfl) ?_
      refine c_dropUnmarked (nw := nw) s41 (by rw [k2.eq 6 (by decide)]; exact s3) (fun M3 f3 e3 c3 => ?_)
      show am_W 8 69 _ (.int _ :: _) _ _
      refine am_iret d8_69 rfl rfl ?_
      obtain rfl : i = nb := by omega
      have ek : ∀ j, j < nw → (fun i => !decide (M2.1 12 i = 0)) j = (fun j => sp_any (fun b => mk_b (am_set M 0 7 m) pn nw b j) i) j := fun j hj => by
        show (!decide (M2.1 12 j = 0)) = _
        rw [I j hj]
        by_cases p1 : sp_any (fun b => mk_b (am_set M 0 7 m) pn nw b j) i = true
        · simp [p1]
        · simp [p1]
      rw [sp_cnt_congr ek]
      refine h0 g5 g13 M3 ((fr.rf.set (by simp)).tr ((k2.wk (by simp)).tr (f3.wk (by simp)))) ?_ ?_ ?_ ?_
      · rw [f3.eq 0 (by decide), k2.eq 0 (by decide)]; rfl
      · rw [f3.eq 0 (by decide), k2.eq 0 (by decide)]; rfl
      · rw [e3, sp_cnt_congr ek]
      · intro p q1 q2
        rw [c3 p q1 q2, sp_cp_congr ek, k2.eq p (by simp; omega), am_set_ne (by omega)]
    · refine am_aload_n d8_51 rfl ?_
      refine am_iload_n d8_52 rfl ?_
      refine am_cv1 25 d8_53 ml8_130 rfl (by decide) sh_0 rfl rfl (Nat.le_of_ble_eq_true rfl) ?_
      refine c_markGiven (nb := nb) (nw := nw) (pn := pn) (b := i) (by rw [k2.eq 2 (by decide), k2.eq 3 (by decide)]; exact s2) (by rw [k2.eq 7 (by decide), k2.eq 9 (by decide)]; exact s4) (by rw [k2.eq 6 (by decide)]; exact s3) (by omega) (first_pos (nb := nb) (pn := pn) (by rw [k2.eq 2 (by decide), k2.eq 3 (by decide)]; exact s2) (by omega)) (fun M3 f3 m3 => ?_)
      show am_W 8 56 _ _ _ _
      refine am_incN i d8_56 rfl rfl ?_
      refine am_goto 40 d8_59 (by decide) ?_
      refine ih h48 M3 (f2.tr f3) (fun j hj => ?_)
      rw [m3 j hj, mk_b_k k2, I j hj]
      simp only [sp_any]
      by_cases p1 : mk_b (am_set M 0 7 m) pn nw i j = true
      · simp [p1]
      · simp [p1]
  show am_W kX_trim 0 _ [] M Q
  refine am_iload_n d8_0 rfl ?_
  refine am_aload_n d8_1 rfl ?_
  refine am_geti d8_2 fl8_47 sh_0 rfl ?_
  refine am_iclt 16 d8_5 (by decide) (fun h5 => ?_) (fun h5 => ?_)
  · refine am_thr (x := 1) d8_16 (by decide) (Nat.le_of_ble_eq_true rfl) ?_
    first | exact h1 (Or.inl h5) | exact h1 (Or.inr (Int32.not_le.mp h13))
  · refine am_iload_n d8_8 rfl ?_
    refine am_aload_n d8_9 rfl ?_
    refine am_geti d8_10 fl8_43 sh_0 rfl ?_
    refine am_icle 26 d8_13 (by decide) (fun h13 => ?_) (fun h13 => ?_)
    · refine am_aload_n d8_26 rfl ?_
      refine am_iload_n d8_27 rfl ?_
      refine am_put d8_28 fl8_47 sh_0 rfl rfl rfl rfl ?_
      refine am_aload_n d8_31 rfl ?_
      refine am_getr d8_32 fl8_19 sh_0 rfl ?_
      refine am_cv0 108 d8_35 ml8_127 rfl (by decide) sh_6 rfl  (Nat.le_of_ble_eq_true rfl) ?_
      refine c_unmarkAll (nw := nw) s3 s41 (fun M1 f1 m1 => ?_)
      show am_W 8 38 _ _ _ _
      refine am_iconst (nI 0) d8_38 (by decide) ?_
      refine am_istore_n d8_39 (Nat.le_of_ble_eq_true rfl) rfl ?_
      refine loop M1 f1 h5 h13 0 (Nat.zero_le _) M1 fr.rf (fun j hj => ?_)
      rw [m1 j hj]
      simp [sp_any]
    · refine am_thr (x := 1) d8_16 (by decide) (Nat.le_of_ble_eq_true rfl) ?_
      first | exact h1 (Or.inl h5) | exact h1 (Or.inr (Int32.not_le.mp h13))
