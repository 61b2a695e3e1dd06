/-! the law: find, type, erase, trim, join -/
theorem rl_m {M M1 : am_M} {pn : Nat → Nat} {nb nw ck len : Nat} {q : Nat → Nat} (hR : RL M pn nb nw ck len q) (e : ∀ p, 27 ≤ p → p ≤ 37 → M1.1 p = M.1 p) : M1.1 34 = M.1 10 ∧ M1.1 35 = M.1 11 ∧ M1.1 32 = M.1 8 ∧ M1.1 33 = M.1 9 ∧ M1.1 31 = M.1 7 ∧ M1.1 29 = M.1 3 ∧ ∀ b x c, mo_row M1 pn nw b x c = sp_row (M.1 7) (M.1 8) (M.1 9) pn (M.1 3) nw b x c := by
  obtain ⟨_, _, ⟨e1, e2, e3, e4, e5, e6, e7, e8⟩, _⟩ := hR
  have f29 := (e 29 (by decide) (by decide)).trans e2
  have f31 := (e 31 (by decide) (by decide)).trans e3
  have f32 := (e 32 (by decide) (by decide)).trans e4
  have f33 := (e 33 (by decide) (by decide)).trans e5
  refine ⟨(e 34 (by decide) (by decide)).trans e6, (e 35 (by decide) (by decide)).trans e7, f32, f33, f31, f29, fun b x c => ?_⟩
  unfold mo_row
  rw [f29, f31, f32, f33]
theorem rl_get {M : am_M} {pn : Nat → Nat} {nb nw ck len : Nat} {q : Nat → Nat} (hR : RL M pn nb nw ck len q) {b c : Nat} {x : Int32} : (sp_get (M.1 10) 0 (sp_row (M.1 7) (M.1 8) (M.1 9) pn (M.1 3) nw b x c) = 0 → sp_get (M.1 11) 0 (sp_row (M.1 7) (M.1 8) (M.1 9) pn (M.1 3) nw b x c) = 0) ∧ (sp_get (M.1 10) 0 (sp_row (M.1 7) (M.1 8) (M.1 9) pn (M.1 3) nw b x c) = 2 → ix (sp_get (M.1 11) 0 (sp_row (M.1 7) (M.1 8) (M.1 9) pn (M.1 3) nw b x c)) 12) := by
  have hk := hR.2.2.2.2.2.2.1
  cases h : sp_row (M.1 7) (M.1 8) (M.1 9) pn (M.1 3) nw b x c with
  | none => exact ⟨fun _ => rfl, fun z => absurd z (show ¬ (0 : Int32) = 2 by decide)⟩
  | some k => exact hk k (sp_last_lt h).1
theorem rl_kv {M M1 : am_M} {pn : Nat → Nat} {nb nw ck len : Nat} {q : Nat → Nat} (hR : RL M pn nb nw ck len q) (e : ∀ p, 27 ≤ p → p ≤ 37 → M1.1 p = M.1 p) (x : Int32) (b : Nat) : kv12 (fun c => sp_get (M1.1 34) 0 (mo_row M1 pn nw b x c)) (fun c => sp_get (M1.1 35) 0 (mo_row M1 pn nw b x c)) := by
  intro c hc
  have V := rl_m hR e
  simp only [V.1, V.2.1, V.2.2.2.2.2.2] at hc ⊢
  exact (rl_get hR).2 hc
theorem s_find {M : am_M} {pn : Nat → Nat} {nb nw ck len : Nat} {q : Nat → Nat} {Q : am_T} {i : Nat} (hR : RL M pn nb nw ck len q) (hbud : 0 < M.2.2.1) (hi : i + 6 ≤ M.2.2.2.1) (hl : M.2.2.2.1 < 2 ^ 31) (hck : ck + 48 < 2 ^ 30) (next : nx M ck i Q) (x5 x6 : Value) : am_W kL_law 939 [.ref am_SC, .ref 0, .ref 27, .ref 38, .int (nI i), x5, x6] [] M Q := by
  have h6 : nb ≤ 6 := hR.1.2.1.1
  have hn31 : nb < 2 ^ 31 := by omega
  have hm := hR.2.1
  refine am_aload_n d128_939 rfl ?_
  refine am_aload_n d128_940 rfl ?_
  refine am_iload d128_941 rfl ?_
  refine am_iconst (nI 1) d128_943 (by decide) ?_
  refine am_addN d128_944 ?_
  refine am_saldN (i + 1) d128_945 (by omega) hl ?_
  refine am_aload_n d128_946 rfl ?_
  refine am_iload d128_947 rfl ?_
  refine am_iconst (nI 2) d128_949 (by decide) ?_
  refine am_addN d128_950 ?_
  refine am_saldN (i + 2) d128_951 (by omega) hl ?_
  refine am_aload_n d128_952 rfl ?_
  refine am_cs4 125 d128_953 ml128_118 rfl (by decide) rfl rfl rfl rfl rfl (Nat.le_of_ble_eq_true rfl) ?_
  refine l_find hR.1 hR.2.2.2.2.2.2.2.1 (fun y1 => ?_) (fun b y1 y2 y3 => ?_) (fun b y1 y2 y3 M' y4 y5 => ?_) hbud
  · show am_W 128 956 _ (.int 1 :: _) _ _
    refine u_find (M := M) rfl hi hl ?_
    refine q_find (M := am_pay M) hm hR.2.2.2.2.2.2.2.2 (fun b _ => rl_kv (M1 := am_pay M) hR (fun _ _ _ => rfl) _ b) (fun z M2 c => t_find c.2.2 (fun z => absurd z (by decide)) (nx_p hR next c)) (fun b' z1 z2 _ _ _ => absurd (⟨b', z1, z2⟩) (y1)) (fun b' z1 z2 _ _ _ _ _ => absurd (⟨b', z1, z2⟩) (y1))
  · show am_W 128 956 _ (.int 2 :: _) _ _
    refine u_find (M := M) rfl hi hl ?_
    refine q_find (M := am_pay M) hm hR.2.2.2.2.2.2.2.2 (fun b _ => rl_kv (M1 := am_pay M) hR (fun _ _ _ => rfl) _ b) (fun z _ _ => absurd (⟨b, y1, y2⟩) (z)) (fun b' z1 z2 z3 M2 c => t_find c.2.2 (fun z => absurd z (by decide)) (nx_p hR next c)) (fun b' z1 z2 z3 _ _ _ _ => by have eb := nj hn31 y1 y2 z1 z2; subst eb; exact absurd ((rl_rd hR z1 _).mp z3) y3)
  · show am_W 128 956 _ (.int 0 :: _) _ _
    have j1 : jk M (am_setL M' 38 0 (Int32.toInt64 (ps_find (fun c => sp_get (M.1 10) 0 (sp_row (M.1 7) (M.1 8) (M.1 9) pn (M.1 3) nw b (M.2.2.2.2 (i + 2)) c)) (fun c => sp_get (M.1 11) 0 (sp_row (M.1 7) (M.1 8) (M.1 9) pn (M.1 3) nw b (M.2.2.2.2 (i + 2)) c)) q len))) := ⟨fun p hp => y4.eq p (by simp at hp ⊢; omega), y5, fun s _ _ _ => by show M'.1 27 s = _; rw [y4.eq 27 (by decide)]⟩
    have hR1 : RL (am_setL M' 38 0 (Int32.toInt64 (ps_find (fun c => sp_get (M.1 10) 0 (sp_row (M.1 7) (M.1 8) (M.1 9) pn (M.1 3) nw b (M.2.2.2.2 (i + 2)) c)) (fun c => sp_get (M.1 11) 0 (sp_row (M.1 7) (M.1 8) (M.1 9) pn (M.1 3) nw b (M.2.2.2.2 (i + 2)) c)) q len))) pn nb nw ck len q := rl_jk hR j1
    have V := rl_v hR1 j1
    refine u_find (M := M) (by show M'.2.2.2 = _; rw [y4.2]) hi hl ?_
    refine q_find (M := (am_setL M' 38 0 (Int32.toInt64 (ps_find (fun c => sp_get (M.1 10) 0 (sp_row (M.1 7) (M.1 8) (M.1 9) pn (M.1 3) nw b (M.2.2.2.2 (i + 2)) c)) (fun c => sp_get (M.1 11) 0 (sp_row (M.1 7) (M.1 8) (M.1 9) pn (M.1 3) nw b (M.2.2.2.2 (i + 2)) c)) q len)))) hR1.2.1 hR1.2.2.2.2.2.2.2.2 (fun b0 _ => rl_kv (M1 := (am_setL M' 38 0 (Int32.toInt64 (ps_find (fun c => sp_get (M.1 10) 0 (sp_row (M.1 7) (M.1 8) (M.1 9) pn (M.1 3) nw b (M.2.2.2.2 (i + 2)) c)) (fun c => sp_get (M.1 11) 0 (sp_row (M.1 7) (M.1 8) (M.1 9) pn (M.1 3) nw b (M.2.2.2.2 (i + 2)) c)) q len)))) hR1 (fun _ _ _ => rfl) _ b0) (fun z _ _ => absurd (⟨b, y1, y2⟩) (z)) (fun b' z1 z2 z3 _ _ => by have eb := nj hn31 y1 y2 z1 z2; subst eb; exact absurd ((rl_rd hR1 z1 _).mpr ((rd_jk j1).mpr y3)) z3) (fun b' z1 z2 z3 M2 z4 z5 z6 => by
      have eb := nj hn31 y1 y2 z1 z2; subst eb;
      have j2 : jk (am_setL M' 38 0 (Int32.toInt64 (ps_find (fun c => sp_get (M.1 10) 0 (sp_row (M.1 7) (M.1 8) (M.1 9) pn (M.1 3) nw b' (M.2.2.2.2 (i + 2)) c)) (fun c => sp_get (M.1 11) 0 (sp_row (M.1 7) (M.1 8) (M.1 9) pn (M.1 3) nw b' (M.2.2.2.2 (i + 2)) c)) q len))) M2 := ⟨fun p hp => z4.eq p (by simp at hp ⊢; omega), by rw [z4.eq 25 (by decide)], z6⟩
      refine t_find z5 (fun _ => ?_) (fun x5 x6 => ?_)
      · rw [z4.2]
        refine setL_get.trans (congrArg Int32.toInt64 ?_)
        simp only [V.1, V.2.1, V.2.2.2.2.2.2]
      · refine next M2 _ _ _ _ _ _ (rl_jk hR (j1.tr j2)) ?_ ?_ (by omega) x5 x6
        · rw [z4.2]
          show M'.2.2.2 = _
          rw [y4.2]
        · rw [z4.2]
          show _ ≤ M'.2.2.1 + 1
          rw [y4.2]
          omega)
theorem s_type {M : am_M} {pn : Nat → Nat} {nb nw ck len : Nat} {q : Nat → Nat} {Q : am_T} {i : Nat} (hR : RL M pn nb nw ck len q) (hbud : 0 < M.2.2.1) (hi : i + 6 ≤ M.2.2.2.1) (hl : M.2.2.2.1 < 2 ^ 31) (hck : ck + 48 < 2 ^ 30) (next : nx M ck i Q) (x5 x6 : Value) : am_W kL_law 872 [.ref am_SC, .ref 0, .ref 27, .ref 38, .int (nI i), x5, x6] [] M Q := by
  have h6 : nb ≤ 6 := hR.1.2.1.1
  have hn31 : nb < 2 ^ 31 := by omega
  have hm := hR.2.1
  refine am_aload_n d128_872 rfl ?_
  refine am_aload_n d128_873 rfl ?_
  refine am_iload d128_874 rfl ?_
  refine am_iconst (nI 1) d128_876 (by decide) ?_
  refine am_addN d128_877 ?_
  refine am_saldN (i + 1) d128_878 (by omega) hl ?_
  refine am_aload_n d128_879 rfl ?_
  refine am_cs3 124 d128_880 ml128_111 rfl (by decide) rfl rfl rfl rfl (Nat.le_of_ble_eq_true rfl) ?_
  refine l_type hR.1 hR.2.2.2.2.2.2.2.1.1 hR.2.2.2.2.2.2.2.1.2.1 (fun y1 => ?_) (fun y1 y2 => ?_) (fun y1 y2 M' y3 y4 y5 => ?_) hbud
  · show am_W 128 883 _ (.int 1 :: _) _ _
    refine u_type (M := M) rfl hi hl ?_
    refine q_type (M := am_pay M) hR.2.2.2.2.2.2.2.2.1 hR.2.2.2.2.2.2.2.2.2.1 (fun z M2 c => t_type c.2.2 (fun z => absurd z (by decide)) (nx_p hR next c)) (fun z _ _ _ => by obtain ⟨k, k1, k2⟩ := y1; exact absurd k2 (z k k1)) (fun z _ _ _ _ _ _ _ => by obtain ⟨k, k1, k2⟩ := y1; exact absurd k2 (z k k1))
  · show am_W 128 883 _ (.int 2 :: _) _ _
    refine u_type (M := M) rfl hi hl ?_
    refine q_type (M := am_pay M) hR.2.2.2.2.2.2.2.2.1 hR.2.2.2.2.2.2.2.2.2.1 (fun z _ _ => by obtain ⟨k, k1, k2⟩ := z; exact absurd k2 (y1 k k1)) (fun z1 z2 M2 c => t_type c.2.2 (fun z => absurd z (by decide)) (nx_p hR next c)) (fun _ z2 _ _ _ _ _ _ => absurd (z2) (y2))
  · show am_W 128 883 _ (.int 0 :: _) _ _
    refine u_type (M := M) (by show M'.2.2.2 = _; rw [y3.2]) hi hl ?_
    refine q_type (M := (am_setL M' 38 0 (Int32.toInt64 (nI (len + sp_cnt (ty_on (M.2.2.2.2 (i + 1))) 4))))) (len := len) (by show M'.1 27 14 = _; rw [y3.eq 27 (by decide)]; exact hR.2.2.2.2.2.2.2.2.1) hR.2.2.2.2.2.2.2.2.2.1 (fun z _ _ => by obtain ⟨k, k1, k2⟩ := z; exact absurd k2 (y1 k k1)) (fun _ z2 _ _ => absurd (y2) (z2)) (fun z1 z2 M2 z3 z4 z5 z6 z7 => by
      refine t_type z4 (fun _ => by rw [z3.2]; exact setL_get) (fun x5 x6 => ?_)
      refine next M2 _ _ _ _ _ _ (rl_type (M' := M2) hR y1 y2 (fun p p1 p2 p3 p4 => ?_) (fun s s0 s14 => ?_) ?_ z5 ?_ ?_) ?_ ?_ (by omega) x5 x6
      · rw [z3.eq p (by simp; omega)]
        show M'.1 p = _
        rw [y3.eq p (by simp; omega)]
      · rw [z7 s s0 s14]
        show M'.1 27 s = _
        rw [y3.eq 27 (by decide)]
      · rw [z3.eq 25 (by decide)]; exact y4
      · rw [z3.eq 26 (by decide)]; exact y5
      · rw [z6]
        show ty_t _ (M'.1 37) _ _ = _
        rw [y3.eq 37 (by decide)]
      · rw [z3.2]
        show M'.2.2.2 = _
        rw [y3.2]
      · rw [z3.2]
        show _ ≤ M'.2.2.1 + 1
        rw [y3.2]
        omega)
theorem s_erase {M : am_M} {pn : Nat → Nat} {nb nw ck len : Nat} {q : Nat → Nat} {Q : am_T} {i : Nat} (hR : RL M pn nb nw ck len q) (next : nx M ck i Q) (x5 x6 : Value) : am_W kL_law 928 [.ref am_SC, .ref 0, .ref 27, .ref 38, .int (nI i), x5, x6] [] M Q := by
  refine am_aload_n d128_928 rfl ?_
  refine am_cv0 11 d128_929 ml128_114 rfl (by decide) sh_0 rfl  (Nat.le_of_ble_eq_true rfl) ?_
  refine p_erase hR.1 ?_
  show am_W 128 932 _ _ _ _
  refine am_aload_n d128_932 rfl ?_
  refine am_cv0 63 d128_933 ml128_117 rfl (by decide) sh_27 rfl  (Nat.le_of_ble_eq_true rfl) ?_
  refine q_erase ?_
  show am_W 128 936 _ _ _ _
  refine am_goto 1131 d128_936 (by decide) ?_
  exact next _ pn nb nw ck 0 q (rl_erase hR) rfl (by show M.2.2.1 ≤ M.2.2.1 + 1; omega) (by omega) x5 x6
