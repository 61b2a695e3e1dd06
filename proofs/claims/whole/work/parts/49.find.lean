/-! the model: stepOf, find, reach -/
theorem mvg_0 {kd vl : Nat → Int32} {f : Nat} : mvg kd vl 0 f = fun t => sp_refd kd vl t f := funext fun t => if_pos rfl
theorem mvg_1 {kd vl : Nat → Int32} {f : Nat} : mvg kd vl 1 f = fun t => sp_refg kd vl t f := funext fun t => if_neg (by decide)
theorem ps_step_b {kd vl : Nat → Int32} {q : Nat → Nat} {len i : Nat} {s : Int32} {r : Int32 × Nat} (hi : i < len) (hl : len ≤ 32) (h : ps_step kd vl q len s i = some r) : r.2 < 2 ^ 10 := by
  unfold ps_step at h
  split at h
  · split at h
    · cases h; unfold ps_mv; split <;> (simp; omega)
    · split at h
      · cases h; unfold ps_mv; split <;> (simp; omega)
      · split at h
        · unfold ps_cmp at h
          split at h
          · split at h
            · cases h
            · split at h
              · cases h
                have := ps_num_ge (q := q) (len := len) 4 (ps_j q len (i + 2 + 1)) 0
                have h2 : ps_j q len (i + 2 + 1) ≤ i + 2 + 2 := by unfold ps_j; split <;> omega
                show (ps_num q len 4 (ps_j q len (i + 2 + 1)) 0).2 + 1 < 2 ^ 10
                omega
              · cases h
          · cases h
        · split at h
          · cases h; simp; omega
          · cases h
  · cases h
theorem m_stepOf {pn : Nat → Nat} {nb nw ck : Nat} {M0 M : am_M} {q : Nat → Nat} {len i b : Nat} {s x : Int32} {Q : am_T} (hS : moS M0 pn nb nw ck) (ht : tm M0 q len) (hp : mp M0 M i true) (hi : i < 2 ^ 16) (hb : b < nb) (hk : kv12 (fun c => sp_get (M0.1 34) 0 (mo_row M0 pn nw b x c)) (fun c => sp_get (M0.1 35) 0 (mo_row M0 pn nw b x c))) (hs : b12 s) (h1 : ∀ w, ps_step (fun c => sp_get (M0.1 34) 0 (mo_row M0 pn nw b x c)) (fun c => sp_get (M0.1 35) 0 (mo_row M0 pn nw b x c)) q len s i = some w → ∀ M', mp M0 M' w.2 true → Q (.inl (some (.int w.1))) M') (h0 : ps_step (fun c => sp_get (M0.1 34) 0 (mo_row M0 pn nw b x c)) (fun c => sp_get (M0.1 35) 0 (mo_row M0 pn nw b x c)) q len s i = none → ∀ M' j v, j < 2 ^ 19 + 10 → mp M0 M' j false → Q (.inl (some (.int v))) M') : am_W kM_stepOf 0 (am_in kM_stepOf [.ref 27, .int s, .int (nI b), .int x]) [] M Q := by
  have hu : ps_step (fun c => sp_get (M0.1 34) 0 (mo_row M0 pn nw b x c)) (fun c => sp_get (M0.1 35) 0 (mo_row M0 pn nw b x c)) q len s i = (if 48 ≤ ps_ch q len (i + 1) ∧ ps_ch q len (i + 1) < 52 then (if ps_ch q len i = 46 then some (ps_mv (fun t => sp_refd (fun c => sp_get (M0.1 34) 0 (mo_row M0 pn nw b x c)) (fun c => sp_get (M0.1 35) 0 (mo_row M0 pn nw b x c)) t (ps_ch q len (i + 1) - 48)) q len s (i + 2)) else if ps_ch q len i = 94 then some (ps_mv (fun t => sp_refg (fun c => sp_get (M0.1 34) 0 (mo_row M0 pn nw b x c)) (fun c => sp_get (M0.1 35) 0 (mo_row M0 pn nw b x c)) t (ps_ch q len (i + 1) - 48)) q len s (i + 2)) else if ps_ch q len i = 91 then ps_cmp (fun c => sp_get (M0.1 34) 0 (mo_row M0 pn nw b x c)) (fun c => sp_get (M0.1 35) 0 (mo_row M0 pn nw b x c)) q len s (ps_ch q len (i + 1) - 48) (i + 2) else if ps_ch q len i = 63 then some (sp_non (fun c => sp_get (M0.1 34) 0 (mo_row M0 pn nw b x c)) s (ps_ch q len (i + 1) - 48), i + 2) else none) else none) := rfl
  show am_W kM_stepOf 0 _ [] M Q
  refine am_aload_n d72_0 rfl ?_
  refine am_bipush (nI 46) d72_1 (by decide) ?_
  refine am_cv1 65 d72_3 ml72_130 rfl (by decide) sh_27 rfl rfl (Nat.le_of_ble_eq_true rfl) ?_
  refine m_eats ht hp (by omega) (c := 46) (by decide) (fun g46 M1 p1 => ?_) (fun g46 M1 p1 => ?_)
  · show am_W 72 6 _ (.int 1 :: _) _ _
    rw [if_pos g46] at hu
    refine am_ifeq 18 d72_6 (by decide) (fun h => absurd h (by decide)) (fun _ => ?_)
    refine am_aload_n d72_9 rfl ?_
    refine am_iload_n d72_10 rfl ?_
    refine am_iconst 0 d72_11 (by decide) ?_
    refine am_iload_n d72_12 rfl ?_
    refine am_iload_n d72_13 rfl ?_
    refine am_cv4 69 d72_14 ml72_146 rfl (by decide) sh_27 rfl rfl rfl rfl rfl (Nat.le_of_ble_eq_true rfl) ?_
    refine m_follow hS ht p1 (by omega) hb hk hs (fun _ hd M2 p2 => ?_) (fun hd M2 j v hj p2 => ?_)
    · show am_W 72 17 _ (.int _ :: _) _ _
      rw [if_pos hd] at hu
      rw [mvg_0] at p2 ⊢
      exact am_iret d72_17 rfl rfl (h1 _ hu M2 p2)
    · show am_W 72 17 _ (.int _ :: _) _ _
      rw [if_neg (fun z => hd ⟨rfl, z⟩)] at hu
      exact am_iret d72_17 rfl rfl (h0 hu M2 _ _ hj p2)
  show am_W 72 6 _ (.int 0 :: _) _ _
  rw [if_neg g46] at hu
  refine am_ifeq 18 d72_6 (by decide) (fun _ => ?_) (fun h => absurd rfl h)
  refine am_aload_n d72_18 rfl ?_
  refine am_bipush (nI 94) d72_19 (by decide) ?_
  refine am_cv1 65 d72_21 ml72_130 rfl (by decide) sh_27 rfl rfl (Nat.le_of_ble_eq_true rfl) ?_
  refine m_eats ht p1 (by omega) (c := 94) (by decide) (fun g94 M2 p2 => ?_) (fun g94 M2 p2 => ?_)
  · show am_W 72 24 _ (.int 1 :: _) _ _
    rw [if_pos g94] at hu
    refine am_ifeq 36 d72_24 (by decide) (fun h => absurd h (by decide)) (fun _ => ?_)
    refine am_aload_n d72_27 rfl ?_
    refine am_iload_n d72_28 rfl ?_
    refine am_iconst 1 d72_29 (by decide) ?_
    refine am_iload_n d72_30 rfl ?_
    refine am_iload_n d72_31 rfl ?_
    refine am_cv4 69 d72_32 ml72_146 rfl (by decide) sh_27 rfl rfl rfl rfl rfl (Nat.le_of_ble_eq_true rfl) ?_
    refine m_follow hS ht p2 (by omega) hb hk hs (fun _ hd M3 p3 => ?_) (fun hd M3 j v hj p3 => ?_)
    · show am_W 72 35 _ (.int _ :: _) _ _
      rw [if_pos hd] at hu
      rw [mvg_1] at p3 ⊢
      exact am_iret d72_35 rfl rfl (h1 _ hu M3 p3)
    · show am_W 72 35 _ (.int _ :: _) _ _
      rw [if_neg (fun z => hd ⟨rfl, z⟩)] at hu
      exact am_iret d72_35 rfl rfl (h0 hu M3 _ _ hj p3)
  show am_W 72 24 _ (.int 0 :: _) _ _
  rw [if_neg g94] at hu
  refine am_ifeq 36 d72_24 (by decide) (fun _ => ?_) (fun h => absurd rfl h)
  refine am_aload_n d72_36 rfl ?_
  refine am_bipush (nI 91) d72_37 (by decide) ?_
  refine am_cv1 65 d72_39 ml72_130 rfl (by decide) sh_27 rfl rfl (Nat.le_of_ble_eq_true rfl) ?_
  refine m_eats ht p2 (by omega) (c := 91) (by decide) (fun g91 M3 p3 => ?_) (fun g91 M3 p3 => ?_)
  · show am_W 72 42 _ (.int 1 :: _) _ _
    rw [if_pos g91] at hu
    refine am_ifeq 53 d72_42 (by decide) (fun h => absurd h (by decide)) (fun _ => ?_)
    refine am_aload_n d72_45 rfl ?_
    refine am_iload_n d72_46 rfl ?_
    refine am_iload_n d72_47 rfl ?_
    refine am_iload_n d72_48 rfl ?_
    refine am_cv3 70 d72_49 ml72_150 rfl (by decide) sh_27 rfl rfl rfl rfl (Nat.le_of_ble_eq_true rfl) ?_
    refine m_filter hS ht p3 (by omega) hb (fun _ hd w hw M4 p4 => ?_) (fun hd M4 j v hj p4 => ?_)
    · show am_W 72 52 _ (.int _ :: _) _ _
      rw [if_pos hd] at hu
      exact am_iret d72_52 rfl rfl (h1 _ (hu.trans hw) M4 p4)
    · show am_W 72 52 _ (.int _ :: _) _ _
      refine am_iret d72_52 rfl rfl (h0 ?_ M4 _ _ hj p4)
      rw [hu]
      by_cases z : 48 ≤ ps_ch q len (i + 1) ∧ ps_ch q len (i + 1) < 52
      · rw [if_pos z]
        exact Classical.byContradiction (fun y => hd ⟨rfl, z.1, z.2, y⟩)
      · rw [if_neg z]
  show am_W 72 42 _ (.int 0 :: _) _ _
  rw [if_neg g91] at hu
  refine am_ifeq 53 d72_42 (by decide) (fun _ => ?_) (fun h => absurd rfl h)
  refine am_aload_n d72_53 rfl ?_
  refine am_aload_n d72_54 rfl ?_
  refine am_geti d72_55 fl72_126 sh_27 rfl ?_
  rw [p3.2.2.2, if_pos rfl]
  refine am_ifeq 74 d72_58 (by decide) (fun h => absurd h (by decide)) (fun _ => ?_)
  refine am_aload_n d72_61 rfl ?_
  refine am_bipush (nI 63) d72_62 (by decide) ?_
  refine am_cv1 65 d72_64 ml72_130 rfl (by decide) sh_27 rfl rfl (Nat.le_of_ble_eq_true rfl) ?_
  refine m_eats ht p3 (by omega) (c := 63) (by decide) (fun g63 M4 p4 => ?_) (fun g63 M4 p4 => ?_)
  · show am_W 72 67 _ (.int 1 :: _) _ _
    rw [if_pos g63] at hu
    refine am_ifeq 74 d72_67 (by decide) (fun h => absurd h (by decide)) (fun _ => ?_)
    refine am_iconst 1 d72_70 (by decide) ?_
    refine am_goto 75 d72_71 (by decide) ?_
    refine am_put d72_75 fl72_126 sh_27 rfl rfl (by decide) (by decide) ?_
    have p5 := p4.rt true (v := 1) rfl
    refine am_aload_n d72_78 rfl ?_
    refine am_geti d72_79 fl72_126 sh_27 rfl ?_
    rw [p5.2.2.2, if_pos rfl]
    refine am_ifeq 95 d72_82 (by decide) (fun h => absurd h (by decide)) (fun _ => ?_)
    refine am_aload_n d72_85 rfl ?_
    refine am_iload_n d72_86 rfl ?_
    refine am_iload_n d72_87 rfl ?_
    refine am_iload_n d72_88 rfl ?_
    refine am_cv3 71 d72_89 ml72_153 rfl (by decide) sh_27 rfl rfl rfl rfl (Nat.le_of_ble_eq_true rfl) ?_
    refine m_empty hS ht p5 (by omega) hb (fun _ hd M6 p6 => ?_) (fun hd M6 j v hj p6 => ?_)
    · show am_W 72 92 _ (.int _ :: _) _ _
      rw [if_pos hd] at hu
      refine am_goto 96 d72_92 (by decide) ?_
      exact am_iret d72_96 rfl rfl (h1 _ hu M6 p6)
    · show am_W 72 92 _ (.int _ :: _) _ _
      rw [if_neg (fun z => hd ⟨rfl, z⟩)] at hu
      refine am_goto 96 d72_92 (by decide) ?_
      exact am_iret d72_96 rfl rfl (h0 hu M6 _ _ hj p6)
  · show am_W 72 67 _ (.int 0 :: _) _ _
    rw [if_neg g63] at hu
    refine am_ifeq 74 d72_67 (by decide) (fun _ => ?_) (fun h => absurd rfl h)
    refine am_iconst 0 d72_74 (by decide) ?_
    refine am_put d72_75 fl72_126 sh_27 rfl rfl (by decide) (by decide) ?_
    have p5 := p4.rt false (v := 0) rfl
    refine am_aload_n d72_78 rfl ?_
    refine am_geti d72_79 fl72_126 sh_27 rfl ?_
    rw [p5.2.2.2, if_neg (by decide)]
    refine am_ifeq 95 d72_82 (by decide) (fun _ => ?_) (fun h => absurd rfl h)
    refine am_iconst 0 d72_95 (by decide) ?_
    refine am_iret d72_96 rfl rfl (h0 ?_ _ i _ (by omega) p5)
    rw [hu]
    split <;> rfl
theorem q_find {pn : Nat → Nat} {nb nw ck : Nat} {M : am_M} {Q : am_T} (hS : moS M pn nb nw ck) {a x : Int32} {q : Nat → Nat} {len : Nat} (ht : tm M q len) (hkv : ∀ b, b < nb → kv12 (fun c => sp_get (M.1 34) 0 (mo_row M pn nw b x c)) (fun c => sp_get (M.1 35) 0 (mo_row M pn nw b x c))) (h1 : ¬ ix a nb → ∀ M', cd M M' 1 → Q (.inl (some (.int 0))) M') (h2 : ∀ b, b < nb → a = nI b → ¬ mo_rd M b x → ∀ M', cd M M' 2 → Q (.inl (some (.int 0))) M') (h0 : ∀ b, b < nb → a = nI b → mo_rd M b x → ∀ M', fr [27] M M' → M'.1 27 0 = 0 → (∀ s, s ≠ 0 → s ≠ 16 → s ≠ 17 → M'.1 27 s = M.1 27 s) → Q (.inl (some (.int (ps_find (fun c => sp_get (M.1 34) 0 (mo_row M pn nw b x c)) (fun c => sp_get (M.1 35) 0 (mo_row M pn nw b x c)) q len)))) M') : am_W kM_find 0 (am_in kM_find [.ref 27, .int a, .int x]) [] M Q := by
  have hS0 := hS
  obtain ⟨s1, s2, s3, s4, s5, s6, s7, s8, s9⟩ := hS
  have s26 := s2.1
  have s41 := s4.1
  have body : ∀ b, b < nb → a = nI b → mo_rd M b x → ∀ M0 : am_M, cd M M0 0 → am_W kM_find 39 [.ref 27, .int (nI b), .int x, .null, .null] [] M0 Q := by
    intro b hb ea gu M0 c0
    have hS1 := moS_cd hS0 c0
    have ht0 : tm M0 q len := by
      unfold tm at ht ⊢
      rw [c0.2.1 14 (by decide), c0.1.eq 37 (by decide)]
      exact ht
    have eK : (fun c => sp_get (M0.1 34) 0 (mo_row M0 pn nw b x c)) = (fun c => sp_get (M.1 34) 0 (mo_row M pn nw b x c)) := by
      funext c
      rw [c0.1.eq 34 (by decide), mo_row_cd c0]
    have eV : (fun c => sp_get (M0.1 35) 0 (mo_row M0 pn nw b x c)) = (fun c => sp_get (M.1 35) 0 (mo_row M pn nw b x c)) := by
      funext c
      rw [c0.1.eq 35 (by decide), mo_row_cd c0]
    have hk0 : kv12 (fun c => sp_get (M0.1 34) 0 (mo_row M0 pn nw b x c)) (fun c => sp_get (M0.1 35) 0 (mo_row M0 pn nw b x c)) := by rw [eK, eV]; exact hkv b hb
    have hq : ∀ M', fr [27] M0 M' → (∀ s, s ≠ 16 → s ≠ 17 → M'.1 27 s = M0.1 27 s) → Q (.inl (some (.int (ps_find (fun c => sp_get (M0.1 34) 0 (mo_row M0 pn nw b x c)) (fun c => sp_get (M0.1 35) 0 (mo_row M0 pn nw b x c)) q len)))) M' := by
      intro M' f' e'
      rw [eK, eV]
      refine h0 b hb ea gu M' (c0.1.tr f') ?_ ?_
      · rw [e' 0 (by decide) (by decide)]; exact c0.2.2
      · intro s q0 q16 q17
        rw [e' s q16 q17]; exact c0.2.1 s q0
    have hl2 := ht0.2.1
    have endF : ∀ (M1 : am_M) (j : Nat) (y z : Int32), mp M0 M1 j false → ps_find (fun c => sp_get (M0.1 34) 0 (mo_row M0 pn nw b x c)) (fun c => sp_get (M0.1 35) 0 (mo_row M0 pn nw b x c)) q len = -1 → am_W kM_find 151 [.ref 27, .int (nI b), .int x, .int y, .int z] [] M1 Q := by
      intro M1 j y z p1 he
      refine am_aload_n d73_151 rfl ?_
      refine am_geti d73_152 fl73_126 sh_27 rfl ?_
      rw [p1.2.2.2, if_neg (by decide)]
      refine am_ifeq 163 d73_155 (by decide) (fun _ => ?_) (fun h => absurd rfl h)
      refine am_iconst (-1) d73_163 (by decide) ?_
      refine am_iret d73_164 rfl rfl ?_
      rw [← he]
      exact hq M1 p1.1 p1.2.1
    have endT : ∀ (M1 : am_M) (j : Nat) (y z : Int32), mp M0 M1 j true → ps_find (fun c => sp_get (M0.1 34) 0 (mo_row M0 pn nw b x c)) (fun c => sp_get (M0.1 35) 0 (mo_row M0 pn nw b x c)) q len = z → am_W kM_find 151 [.ref 27, .int (nI b), .int x, .int y, .int z] [] M1 Q := by
      intro M1 j y z p1 he
      refine am_aload_n d73_151 rfl ?_
      refine am_geti d73_152 fl73_126 sh_27 rfl ?_
      rw [p1.2.2.2, if_pos rfl]
      refine am_ifeq 163 d73_155 (by decide) (fun h => absurd h (by decide)) (fun _ => ?_)
      refine am_iload d73_158 rfl ?_
      refine am_goto 164 d73_160 (by decide) ?_
      refine am_iret d73_164 rfl rfl ?_
      rw [← he]
      exact hq M1 p1.1 p1.2.1
    have stepF : ∀ (M1 : am_M) (j : Nat) (y z : Int32), mp M0 M1 j false → ps_find (fun c => sp_get (M0.1 34) 0 (mo_row M0 pn nw b x c)) (fun c => sp_get (M0.1 35) 0 (mo_row M0 pn nw b x c)) q len = -1 → am_W kM_find 120 [.ref 27, .int (nI b), .int x, .int y, .int z] [] M1 Q := by
      intro M1 j y z p1 he
      refine am_aload_n d73_120 rfl ?_
      refine am_geti d73_121 fl73_126 sh_27 rfl ?_
      rw [p1.2.2.2, if_neg (by decide)]
      refine am_ifeq 151 d73_124 (by decide) (fun _ => ?_) (fun h => absurd rfl h)
      exact endF M1 j y z p1 he
    have loop : ∀ d, ∀ (M1 : am_M) (j : Nat) (y z : Int32), mp M0 M1 j true → j < 2 ^ 16 → len ≤ j + 2 * d → b12 z → ps_find (fun c => sp_get (M0.1 34) 0 (mo_row M0 pn nw b x c)) (fun c => sp_get (M0.1 35) 0 (mo_row M0 pn nw b x c)) q len = ps_run (ps_step (fun c => sp_get (M0.1 34) 0 (mo_row M0 pn nw b x c)) (fun c => sp_get (M0.1 35) 0 (mo_row M0 pn nw b x c)) q len) len d z j → am_W kM_find 120 [.ref 27, .int (nI b), .int x, .int y, .int z] [] M1 Q := by
      intro d
      have ext : ∀ (M1 : am_M) (j : Nat) (y z : Int32), mp M0 M1 j true → j < 2 ^ 16 → ¬ j < len → ps_find (fun c => sp_get (M0.1 34) 0 (mo_row M0 pn nw b x c)) (fun c => sp_get (M0.1 35) 0 (mo_row M0 pn nw b x c)) q len = z → am_W kM_find 120 [.ref 27, .int (nI b), .int x, .int y, .int z] [] M1 Q := by
        intro M1 j y z p1 hj hjl he
        refine am_aload_n d73_120 rfl ?_
        refine am_geti d73_121 fl73_126 sh_27 rfl ?_
        rw [p1.2.2.2, if_pos rfl]
        refine am_ifeq 151 d73_124 (by decide) (fun h => absurd h (by decide)) (fun _ => ?_)
        refine am_aload_n d73_127 rfl ?_
        refine am_geti d73_128 fl73_119 sh_27 rfl ?_
        rw [p1.2.2.1]
        refine am_aload_n d73_131 rfl ?_
        refine am_geti d73_132 fl73_116 sh_27 rfl ?_
        rw [p1.2.1 14 (by decide) (by decide), ht0.1]
        refine am_icgeN 151 j len d73_135 (by decide) rfl rfl (by omega) (by omega) (fun _ => ?_) (fun h => absurd h hjl)
        exact endT M1 j y z p1 he
      induction d with
      | zero =>
        intro M1 j y z p1 hj hd hz he
        exact ext M1 j y z p1 hj (by omega) he
      | succ d ih =>
        intro M1 j y z p1 hj hd hz he
        simp only [ps_run] at he
        by_cases hjl : j < len
        · rw [if_pos hjl] at he
          refine am_aload_n d73_120 rfl ?_
          refine am_geti d73_121 fl73_126 sh_27 rfl ?_
          rw [p1.2.2.2, if_pos rfl]
          refine am_ifeq 151 d73_124 (by decide) (fun h => absurd h (by decide)) (fun _ => ?_)
          refine am_aload_n d73_127 rfl ?_
          refine am_geti d73_128 fl73_119 sh_27 rfl ?_
          rw [p1.2.2.1]
          refine am_aload_n d73_131 rfl ?_
          refine am_geti d73_132 fl73_116 sh_27 rfl ?_
          rw [p1.2.1 14 (by decide) (by decide), ht0.1]
          refine am_icgeN 151 j len d73_135 (by decide) rfl rfl (by omega) (by omega) (fun h => absurd hjl (by omega)) (fun _ => ?_)
          refine am_aload_n d73_138 rfl ?_
          refine am_iload d73_139 rfl ?_
          refine am_iload_n d73_141 rfl ?_
          refine am_iload_n d73_142 rfl ?_
          refine am_cv3 72 d73_143 ml73_156 rfl (by decide) sh_27 rfl rfl rfl rfl (Nat.le_of_ble_eq_true rfl) ?_
          refine m_stepOf hS1 ht0 p1 hj hb hk0 hz (fun w hw M2 p2 => ?_) (fun hw M2 j2 v hj2 p2 => ?_)
          · show am_W 73 146 _ (.int _ :: _) _ _
            rw [hw] at he
            have hge := ps_step_ge hw
            have hle := ps_step_b hjl hl2 hw
            refine am_istore d73_146 (Nat.le_of_ble_eq_true rfl) rfl ?_
            refine am_goto 120 d73_148 (by decide) ?_
            exact ih M2 w.2 _ w.1 p2 (by omega) (by omega) (b12_step hk0 hz hw) he
          · show am_W 73 146 _ (.int _ :: _) _ _
            rw [hw] at he
            refine am_istore d73_146 (Nat.le_of_ble_eq_true rfl) rfl ?_
            refine am_goto 120 d73_148 (by decide) ?_
            exact stepF M2 j2 _ _ p2 he
        · rw [if_neg hjl] at he
          exact ext M1 j y z p1 hj hjl he
    have start : ∀ (M1 : am_M) (c : Nat), c < 127 → ps_ch q len 0 = c → fr [27] M0 M1 → (∀ s, s ≠ 16 → s ≠ 17 → M1.1 27 s = M0.1 27 s) → M1.1 27 16 = nI 1 → am_W kM_find 62 [.ref 27, .int (nI b), .int x, .int (nI c), .null] [] M1 Q := by
      intro M1 c hc hch f1 e1 e16
      have good : ∀ z, ps_start q len = some z → b12 z → ∀ M2 : am_M, mp M0 M2 1 true → am_W kM_find 118 [.ref 27, .int (nI b), .int x, .int (nI c), .null] [.int z] M2 Q := by
        intro z hz hz2 M2 p2
        refine am_istore d73_118 (Nat.le_of_ble_eq_true rfl) rfl ?_
        refine loop 32 M2 1 _ z p2 (by decide) (by omega) hz2 ?_
        unfold ps_find
        rw [hz]
      have hst : ∀ v, mp M0 (am_set M1 27 17 (if v = true then 1 else 0)) 1 v := fun v => ⟨f1.set (by simp), fun s q1 q2 => by rw [am_set_self, pk_un q2]; exact e1 s q1 q2, by rw [am_set_self, pk_un (by decide)]; exact e16, by rw [am_set_self, pk_us]⟩
      have yes : (c = 42 ∨ (97 ≤ c ∧ c < 109)) → am_W kM_find 81 [.ref 27, .int (nI b), .int x, .int (nI c), .null] [.ref 27] M1 Q := by
        intro hy
        have p2 := hst true
        refine am_iconst 1 d73_81 (by decide) ?_
        refine am_goto 86 d73_82 (by decide) ?_
        refine am_put d73_86 fl73_126 sh_27 rfl rfl (by decide) (by decide) ?_
        refine am_iload_n d73_89 rfl ?_
        refine am_bipush (nI 42) d73_90 (by decide) ?_
        refine am_icne 101 d73_92 (by decide) (fun h => ?_) (fun h => ?_)
        · have n42 : ¬ c = 42 := fun z => h (by rw [z])
          have hr : 97 ≤ c ∧ c < 109 := hy.resolve_left n42
          refine am_aload_n d73_101 rfl ?_
          refine am_geti d73_102 fl73_126 sh_27 rfl ?_
          show am_W 73 105 _ (.int 1 :: _) _ _
          refine am_ifeq 117 d73_105 (by decide) (fun h => absurd h (by decide)) (fun _ => ?_)
          refine am_iconst 1 d73_108 (by decide) ?_
          refine am_iload_n d73_109 rfl ?_
          refine am_bipush (nI 97) d73_110 (by decide) ?_
          refine am_isub d73_112 ?_
          rw [pk_sub hr.1]
          refine am_ishl d73_113 ?_
          refine am_goto 118 d73_114 (by decide) ?_
          refine good _ ?_ (b12_1 (by omega)) _ p2
          unfold ps_start
          rw [hch, if_neg n42, if_pos hr]
        · have h42 : c = 42 := (nI_eq (by omega) (by decide)).mp h
          refine am_sipush 4095 d73_95 (by decide) ?_
          refine am_goto 118 d73_98 (by decide) ?_
          refine good _ ?_ b12_a _ p2
          unfold ps_start
          rw [hch, if_pos h42]
      have no : ¬ (c = 42 ∨ (97 ≤ c ∧ c < 109)) → am_W kM_find 85 [.ref 27, .int (nI b), .int x, .int (nI c), .null] [.ref 27] M1 Q := by
        intro hy
        have p2 := hst false
        have hnone : ps_find (fun c => sp_get (M0.1 34) 0 (mo_row M0 pn nw b x c)) (fun c => sp_get (M0.1 35) 0 (mo_row M0 pn nw b x c)) q len = -1 := by
          unfold ps_find ps_start
          rw [hch, if_neg (fun z => hy (Or.inl z)), if_neg (fun z => hy (Or.inr z))]
        refine am_iconst 0 d73_85 (by decide) ?_
        refine am_put d73_86 fl73_126 sh_27 rfl rfl (by decide) (by decide) ?_
        refine am_iload_n d73_89 rfl ?_
        refine am_bipush (nI 42) d73_90 (by decide) ?_
        refine am_icne 101 d73_92 (by decide) (fun _ => ?_) (fun h => absurd (Or.inl ((nI_eq (by omega) (by decide)).mp h)) hy)
        refine am_aload_n d73_101 rfl ?_
        refine am_geti d73_102 fl73_126 sh_27 rfl ?_
        show am_W 73 105 _ (.int 0 :: _) _ _
        refine am_ifeq 117 d73_105 (by decide) (fun _ => ?_) (fun h => absurd rfl h)
        refine am_iconst 0 d73_117 (by decide) ?_
        refine am_istore d73_118 (Nat.le_of_ble_eq_true rfl) rfl ?_
        exact stepF _ 1 _ _ p2 hnone
      refine am_aload_n d73_62 rfl ?_
      refine am_iload_n d73_63 rfl ?_
      refine am_bipush (nI 42) d73_64 (by decide) ?_
      refine am_iceq 81 d73_66 (by decide) (fun h => ?_) (fun h66 => ?_)
      · exact yes (Or.inl ((nI_eq (by omega) (by decide)).mp h))
      have n42 : ¬ c = 42 := fun z => h66 (by rw [z])
      refine am_iload_n d73_69 rfl ?_
      refine am_bipush (nI 97) d73_70 (by decide) ?_
      refine am_icltN 85 c 97 d73_72 (by decide) rfl rfl (by omega) (by decide) (fun h72 => ?_) (fun h72 => ?_)
      · exact no (by omega)
      refine am_iload_n d73_75 rfl ?_
      refine am_bipush (nI 108) d73_76 (by decide) ?_
      refine am_icgt 85 d73_78 (by decide) (fun h => ?_) (fun h => ?_)
      · have := (nI_ltI (by decide) (by omega)).mp h
        exact no (by omega)
      · have : ¬ 108 < c := fun z => h (nI_lt z (by omega))
        exact yes (by omega)
    refine am_aload_n d73_39 rfl ?_
    refine am_iconst (nI 1) d73_40 (by decide) ?_
    refine am_put d73_41 fl73_119 sh_27 rfl rfl rfl rfl ?_
    have es : ∀ s, s ≠ 16 → s ≠ 17 → (am_set M0 27 16 (nI 1)).1 27 s = M0.1 27 s := fun s q1 _ => by rw [am_set_self]; exact pk_un q1
    refine am_aload_n d73_44 rfl ?_
    refine am_geti d73_45 fl73_116 sh_27 rfl ?_
    rw [es 14 (by decide) (by decide), ht0.1]
    by_cases hl0 : 0 < len
    · refine am_ifle 60 d73_48 (by decide) (fun h => absurd h (nI_nle hl0 (by omega))) (fun _ => ?_)
      refine am_aload_n d73_51 rfl ?_
      refine am_getr d73_52 fl73_42 sh_27 rfl ?_
      refine am_iconst (nI 0) d73_55 (by decide) ?_
      refine am_ialdN 0 d73_56 sh_37 (by decide) (by decide) ?_
      rw [am_set_ne (by decide), (ht0.2.2 0 hl0).1]
      refine am_goto 61 d73_57 (by decide) ?_
      refine am_istore_n d73_61 (Nat.le_of_ble_eq_true rfl) rfl ?_
      exact start _ (q 0) (ht0.2.2 0 hl0).2 (ps_in hl0) (fr.rf.set (by simp)) es (by rw [am_set_self, pk_us])
    · obtain rfl : len = 0 := by omega
      refine am_ifle 60 d73_48 (by decide) (fun _ => ?_) (fun h => absurd (by decide) h)
      refine am_iconst (nI 0) d73_60 (by decide) ?_
      refine am_istore_n d73_61 (Nat.le_of_ble_eq_true rfl) rfl ?_
      exact start _ 0 (by decide) (ps_out (by decide)) (fr.rf.set (by simp)) es (by rw [am_set_self, pk_us])
  show am_W kM_find 0 _ [] M Q
  refine am_aload_n d73_0 rfl ?_
  refine am_aload_n d73_1 rfl ?_
  refine am_iload_n d73_2 rfl ?_
  refine am_cv1 34 d73_3 ml73_79 rfl (by decide) sh_27 rfl rfl (Nat.le_of_ble_eq_true rfl) ?_
  refine m_noBranch hS0 (fun g1 => ?_) (fun g1 => ?_)
  · show am_W 73 6 _ (.int 1 :: _) _ _
    refine am_ifeq 13 d73_6 (by decide) (fun h => absurd h (by decide)) (fun _ => ?_)
    refine am_iconst 1 d73_9 (by decide) ?_
    refine am_goto 27 d73_10 (by decide) ?_
    refine am_put d73_27 fl73_45 sh_27 rfl rfl rfl rfl ?_
    refine am_aload_n d73_30 rfl ?_
    refine am_geti d73_31 fl73_45 sh_27 rfl ?_
    show am_W 73 34 _ (.int 1 :: _) _ _
    refine am_ifle 39 d73_34 (by decide) (fun h => absurd h (by decide)) (fun _ => ?_)
    refine am_iconst 0 d73_37 (by decide) ?_
    refine am_iret d73_38 rfl rfl ?_
    first | exact h2 b hb rfl gu _ (cd_0 M _) | exact h1 g1 _ (cd_0 M _)
  · show am_W 73 6 _ (.int 0 :: _) _ _
    obtain ⟨b, hb, rfl⟩ := g1
    refine am_ifeq 13 d73_6 (by decide) (fun _ => ?_) (fun h => absurd h (by decide))
    refine am_aload_n d73_13 rfl ?_
    refine am_iload_n d73_14 rfl ?_
    refine am_iload_n d73_15 rfl ?_
    refine am_cv2 37 d73_16 ml73_71 rfl (by decide) sh_27 rfl rfl rfl (Nat.le_of_ble_eq_true rfl) ?_
    refine m_unreadable (b := b) (by omega) (fun gu => ?_) (fun gu => ?_)
    · show am_W 73 19 _ (.int 1 :: _) _ _
      refine am_ifeq 26 d73_19 (by decide) (fun h => absurd h (by decide)) (fun _ => ?_)
      refine am_iconst 2 d73_22 (by decide) ?_
      refine am_goto 27 d73_23 (by decide) ?_
      refine am_put d73_27 fl73_45 sh_27 rfl rfl rfl rfl ?_
      refine am_aload_n d73_30 rfl ?_
      refine am_geti d73_31 fl73_45 sh_27 rfl ?_
      show am_W 73 34 _ (.int 2 :: _) _ _
      refine am_ifle 39 d73_34 (by decide) (fun h => absurd h (by decide)) (fun _ => ?_)
      refine am_iconst 0 d73_37 (by decide) ?_
      refine am_iret d73_38 rfl rfl ?_
      first | exact h2 b hb rfl gu _ (cd_0 M _) | exact h1 g1 _ (cd_0 M _)
    · show am_W 73 19 _ (.int 0 :: _) _ _
      refine am_ifeq 26 d73_19 (by decide) (fun _ => ?_) (fun h => absurd h (by decide))
      refine am_iconst 0 d73_26 (by decide) ?_
      refine am_put d73_27 fl73_45 sh_27 rfl rfl rfl rfl ?_
      refine am_aload_n d73_30 rfl ?_
      refine am_geti d73_31 fl73_45 sh_27 rfl ?_
      show am_W 73 34 _ (.int 0 :: _) _ _
      refine am_ifle 39 d73_34 (by decide) (fun _ => ?_) (fun h => absurd h (by decide))
      exact body b hb rfl gu _ (cd_0 M 0)
theorem q_reach {pn : Nat → Nat} {nb nw ck : Nat} {M : am_M} {Q : am_T} (hS : moS M pn nb nw ck) {a x u : Int32} (h1 : ¬ (ix a nb ∧ ix u 12) → ∀ M', cd M M' 1 → Q (.inl (some (.int 0))) M') (h2 : ∀ b, b < nb → a = nI b → ix u 12 → ¬ mo_rd M b x → ∀ M', cd M M' 2 → Q (.inl (some (.int 0))) M') (h0 : ∀ b o, b < nb → a = nI b → o < 12 → u = nI o → mo_rd M b x → ∀ M', cd M M' 0 → Q (.inl (some (.int (it (sp_fld (fun t f => sp_refd (fun c => sp_get (M.1 34) 0 (mo_row M pn nw b x c)) (fun c => sp_get (M.1 35) 0 (mo_row M pn nw b x c)) t f) 4) 12 ((1 : Int32) <<< (nI o &&& 31)))))) M') : am_W kM_reach 0 (am_in kM_reach [.ref 27, .int a, .int x, .int u]) [] M Q := by
  have hS0 := hS
  obtain ⟨s1, s2, s3, s4, s5, s6, s7, s8, s9⟩ := hS
  have s26 := s2.1
  have s41 := s4.1
  have loop : ∀ b o, b < nb → ∀ M0 : am_M, cd M M0 0 → Q (.inl (some (.int (it (sp_fld (fun t f => sp_refd (fun c => sp_get (M.1 34) 0 (mo_row M pn nw b x c)) (fun c => sp_get (M.1 35) 0 (mo_row M pn nw b x c)) t f) 4) 12 ((1 : Int32) <<< (nI o &&& 31)))))) M0 → ∀ d, d ≤ 12 → ∀ y : Value, am_W kM_reach 57 [.ref 27, .int (nI b), .int x, .int (nI o), .int (it (sp_fld (fun t f => sp_refd (fun c => sp_get (M.1 34) 0 (mo_row M pn nw b x c)) (fun c => sp_get (M.1 35) 0 (mo_row M pn nw b x c)) t f) 4) d ((1 : Int32) <<< (nI o &&& 31))), .int (nI d), y] [] M0 Q := by
    intro b o hb M0 c0 hq
    have hS1 := moS_cd hS0 c0
    have p0 : ∀ (t : Int32) (f : Nat), f < 4 → ∀ {Q' : am_T}, Q' (.inl (some (.int (sp_refd (fun c => sp_get (M.1 34) 0 (mo_row M pn nw b x c)) (fun c => sp_get (M.1 35) 0 (mo_row M pn nw b x c)) t f)))) M0 → am_W kM_along 0 (am_in kM_along [.ref 27, .int t, .int (nI f), .int (nI b), .int x]) [] M0 Q' := by
      intro t f hf Q' hQ
      refine m_along0 hS1 hb hf ?_
      have e := al_eq (kd := (fun c => sp_get (M.1 34) 0 (mo_row M pn nw b x c))) (vl := (fun c => sp_get (M.1 35) 0 (mo_row M pn nw b x c))) (s := t) (f := f) 12
      simp only [mo_row_cd c0, c0.1.eq 34 (by decide), c0.1.eq 35 (by decide)]
      have e2 : sp_or (sp_isin t) (fun o => sp_tg (fun c => sp_get (M.1 34) 0 (mo_row M pn nw b x c)) (fun c => sp_get (M.1 35) 0 (mo_row M pn nw b x c)) (4 * o + f)) 12 = sp_refd (fun c => sp_get (M.1 34) 0 (mo_row M pn nw b x c)) (fun c => sp_get (M.1 35) 0 (mo_row M pn nw b x c)) t f := rfl
      rw [e2] at e
      rw [← e] at hQ
      exact hQ
    refine am_loop 12 (fun d hd ih => ?_)
    intro y
    refine am_iload d61_57 rfl ?_
    refine am_bipush (nI 12) d61_59 (by decide) ?_
    refine am_icgeN 100 d 12 d61_61 (by decide) rfl rfl (by omega) (by decide) (fun h => ?_) (fun h61 => ?_)
    · obtain rfl : d = 12 := by omega
      refine am_iload d61_100 rfl ?_
      exact am_iret d61_102 rfl rfl hq
    · have inner : ∀ f, f ≤ 4 → am_W kM_reach 67 [.ref 27, .int (nI b), .int x, .int (nI o), .int (sp_fld (fun t f => sp_refd (fun c => sp_get (M.1 34) 0 (mo_row M pn nw b x c)) (fun c => sp_get (M.1 35) 0 (mo_row M pn nw b x c)) t f) f (it (sp_fld (fun t f => sp_refd (fun c => sp_get (M.1 34) 0 (mo_row M pn nw b x c)) (fun c => sp_get (M.1 35) 0 (mo_row M pn nw b x c)) t f) 4) d ((1 : Int32) <<< (nI o &&& 31)))), .int (nI d), .int (nI f)] [] M0 Q := by
        refine am_loop 4 (fun f hf ihf => ?_)
        refine am_iload d61_67 rfl ?_
        refine am_iconst (nI 4) d61_69 (by decide) ?_
        refine am_icgeN 94 f 4 d61_70 (by decide) rfl rfl (by omega) (by decide) (fun h => ?_) (fun h70 => ?_)
        · obtain rfl : f = 4 := by omega
          refine am_incN d d61_94 rfl rfl ?_
          refine am_goto 57 d61_97 (by decide) ?_
          have hz := ih h61 (.int (nI 4))
          rw [it_s] at hz
          exact hz
        · refine am_iload d61_73 rfl ?_
          refine am_aload_n d61_75 rfl ?_
          refine am_iload d61_76 rfl ?_
          refine am_iload d61_78 rfl ?_
          refine am_iload_n d61_80 rfl ?_
          refine am_iload_n d61_81 rfl ?_
          refine am_cv4 59 d61_82 ml61_112 rfl (by decide) sh_27 rfl rfl rfl rfl rfl (Nat.le_of_ble_eq_true rfl) ?_
          refine p0 _ f h70 ?_
          show am_W 61 85 _ (.int _ :: _) _ _
          refine am_ior d61_85 ?_
          refine am_istore d61_86 (Nat.le_of_ble_eq_true rfl) rfl ?_
          refine am_incN f d61_88 rfl rfl ?_
          refine am_goto 67 d61_91 (by decide) ?_
          exact ihf h70
      refine am_iconst (nI 0) d61_64 (by decide) ?_
      refine am_istore d61_65 (Nat.le_of_ble_eq_true rfl) rfl ?_
      exact inner 0 (by decide)
  show am_W kM_reach 0 _ [] M Q
  refine am_aload_n d61_0 rfl ?_
  refine am_aload_n d61_1 rfl ?_
  refine am_iload_n d61_2 rfl ?_
  refine am_cv1 34 d61_3 ml61_79 rfl (by decide) sh_27 rfl rfl (Nat.le_of_ble_eq_true rfl) ?_
  refine m_noBranch hS0 (fun g1 => ?_) (fun g1 => ?_)
  · show am_W 61 6 _ (.int 1 :: _) _ _
    refine am_ifne 19 d61_6 (by decide) (fun _ => ?_) (fun h => absurd h (by decide))
    refine am_iconst 1 d61_19 (by decide) ?_
    refine am_goto 37 d61_20 (by decide) ?_
    refine am_put d61_37 fl61_45 sh_27 rfl rfl rfl rfl ?_
    refine am_aload_n d61_40 rfl ?_
    refine am_geti d61_41 fl61_45 sh_27 rfl ?_
    show am_W 61 44 _ (.int 1 :: _) _ _
    refine am_ifle 49 d61_44 (by decide) (fun h => absurd h (by decide)) (fun _ => ?_)
    refine am_iconst 0 d61_47 (by decide) ?_
    refine am_iret d61_48 rfl rfl ?_
    first | exact h2 b hb rfl (ix_le (n := 11) (by decide) h10 h16) gu _ (cd_0 M _) | exact h1 (fun z => ix_neg (by decide) h10 z.2) _ (cd_0 M _) | exact h1 (fun z => ix_nle (n := 11) (by decide) h16 z.2) _ (cd_0 M _) | exact h1 (fun z => g1 z.1) _ (cd_0 M _)
  · show am_W 61 6 _ (.int 0 :: _) _ _
    obtain ⟨b, hb, rfl⟩ := g1
    refine am_ifne 19 d61_6 (by decide) (fun h => absurd h (by decide)) (fun _ => ?_)
    refine am_iload_n d61_9 rfl ?_
    refine am_iflt 19 d61_10 (by decide) (fun h10 => ?_) (fun h10 => ?_)
    · refine am_iconst 1 d61_19 (by decide) ?_
      refine am_goto 37 d61_20 (by decide) ?_
      refine am_put d61_37 fl61_45 sh_27 rfl rfl rfl rfl ?_
      refine am_aload_n d61_40 rfl ?_
      refine am_geti d61_41 fl61_45 sh_27 rfl ?_
      show am_W 61 44 _ (.int 1 :: _) _ _
      refine am_ifle 49 d61_44 (by decide) (fun h => absurd h (by decide)) (fun _ => ?_)
      refine am_iconst 0 d61_47 (by decide) ?_
      refine am_iret d61_48 rfl rfl ?_
      first | exact h2 b hb rfl (ix_le (n := 11) (by decide) h10 h16) gu _ (cd_0 M _) | exact h1 (fun z => ix_neg (by decide) h10 z.2) _ (cd_0 M _) | exact h1 (fun z => ix_nle (n := 11) (by decide) h16 z.2) _ (cd_0 M _) | exact h1 (fun z => g1 z.1) _ (cd_0 M _)
    · refine am_iload_n d61_13 rfl ?_
      refine am_bipush (nI 11) d61_14 (by decide) ?_
      refine am_icle 23 d61_16 (by decide) (fun h16 => ?_) (fun h16 => ?_)
      · refine am_aload_n d61_23 rfl ?_
        refine am_iload_n d61_24 rfl ?_
        refine am_iload_n d61_25 rfl ?_
        refine am_cv2 37 d61_26 ml61_71 rfl (by decide) sh_27 rfl rfl rfl (Nat.le_of_ble_eq_true rfl) ?_
        refine m_unreadable (b := b) (by omega) (fun gu => ?_) (fun gu => ?_)
        · show am_W 61 29 _ (.int 1 :: _) _ _
          refine am_ifeq 36 d61_29 (by decide) (fun h => absurd h (by decide)) (fun _ => ?_)
          refine am_iconst 2 d61_32 (by decide) ?_
          refine am_goto 37 d61_33 (by decide) ?_
          refine am_put d61_37 fl61_45 sh_27 rfl rfl rfl rfl ?_
          refine am_aload_n d61_40 rfl ?_
          refine am_geti d61_41 fl61_45 sh_27 rfl ?_
          show am_W 61 44 _ (.int 2 :: _) _ _
          refine am_ifle 49 d61_44 (by decide) (fun h => absurd h (by decide)) (fun _ => ?_)
          refine am_iconst 0 d61_47 (by decide) ?_
          refine am_iret d61_48 rfl rfl ?_
          first | exact h2 b hb rfl (ix_le (n := 11) (by decide) h10 h16) gu _ (cd_0 M _) | exact h1 (fun z => ix_neg (by decide) h10 z.2) _ (cd_0 M _) | exact h1 (fun z => ix_nle (n := 11) (by decide) h16 z.2) _ (cd_0 M _) | exact h1 (fun z => g1 z.1) _ (cd_0 M _)
        · show am_W 61 29 _ (.int 0 :: _) _ _
          refine am_ifeq 36 d61_29 (by decide) (fun _ => ?_) (fun h => absurd h (by decide))
          refine am_iconst 0 d61_36 (by decide) ?_
          refine am_put d61_37 fl61_45 sh_27 rfl rfl rfl rfl ?_
          refine am_aload_n d61_40 rfl ?_
          refine am_geti d61_41 fl61_45 sh_27 rfl ?_
          show am_W 61 44 _ (.int 0 :: _) _ _
          refine am_ifle 49 d61_44 (by decide) (fun _ => ?_) (fun h => absurd h (by decide))
          obtain ⟨o, ho, rfl⟩ := ix_le (n := 11) (by decide) h10 h16
          refine am_iconst 1 d61_49 (by decide) ?_
          refine am_iload_n d61_50 rfl ?_
          refine am_ishl d61_51 ?_
          refine am_istore d61_52 (Nat.le_of_ble_eq_true rfl) rfl ?_
          refine am_iconst (nI 0) d61_54 (by decide) ?_
          refine am_istore d61_55 (Nat.le_of_ble_eq_true rfl) rfl ?_
          exact loop b o hb _ (cd_0 M 0) (h0 b o hb rfl ho rfl gu _ (cd_0 M 0)) 0 (by decide) .null
      · refine am_iconst 1 d61_19 (by decide) ?_
        refine am_goto 37 d61_20 (by decide) ?_
        refine am_put d61_37 fl61_45 sh_27 rfl rfl rfl rfl ?_
        refine am_aload_n d61_40 rfl ?_
        refine am_geti d61_41 fl61_45 sh_27 rfl ?_
        show am_W 61 44 _ (.int 1 :: _) _ _
        refine am_ifle 49 d61_44 (by decide) (fun h => absurd h (by decide)) (fun _ => ?_)
        refine am_iconst 0 d61_47 (by decide) ?_
        refine am_iret d61_48 rfl rfl ?_
        first | exact h2 b hb rfl (ix_le (n := 11) (by decide) h10 h16) gu _ (cd_0 M _) | exact h1 (fun z => ix_neg (by decide) h10 z.2) _ (cd_0 M _) | exact h1 (fun z => ix_nle (n := 11) (by decide) h16 z.2) _ (cd_0 M _) | exact h1 (fun z => g1 z.1) _ (cd_0 M _)
