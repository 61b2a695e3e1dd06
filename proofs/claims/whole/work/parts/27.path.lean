/-! Path: following -/
theorem c_move {v f : Nat} {fw : Int32} {M0 M : am_M} {q : Nat → Nat} {len i : Nat} {s : Int32} {Q : am_T} (hv : bv v) (hf : f < 4) (ht : tx M0 q len) (hp : pm M0 M i s) (hi : i < 2 ^ 29)
    (hQ : ∀ M', pm M0 M' (ps_mv (fun t => if fw = 0 then sp_refg (M0.1 (v + 1)) (M0.1 (v + 2)) t f else sp_refd (M0.1 (v + 1)) (M0.1 (v + 2)) t f) q len s i).2 (ps_mv (fun t => if fw = 0 then sp_refg (M0.1 (v + 1)) (M0.1 (v + 2)) t f else sp_refd (M0.1 (v + 1)) (M0.1 (v + 2)) t f) q len s i).1 → Q (.inl none) M') : am_W kP_move 0 (am_in kP_move [.ref 25, .ref v, .int fw, .int (nI f)]) [] M Q := by
  have loop : ∀ r, r ≤ 12 → ∀ (Mk : am_M) (sk old : Int32), pm M0 Mk (i + 1) sk → (∀ M', pm M0 M' (i + 1) (sp_clo (fun t => t ||| (fun t => if fw = 0 then sp_refg (M0.1 (v + 1)) (M0.1 (v + 2)) t f else sp_refd (M0.1 (v + 1)) (M0.1 (v + 2)) t f) t) (12 - r) sk old) → Q (.inl none) M') → am_W kP_move 27 [.ref 25, .ref v, .int fw, .int (nI f), .int old, .int (nI r)] [] Mk Q := by
    refine am_loop 12 (fun r hr ih => ?_)
    intro Mk sk old hk hq
    have es : Mk.1 25 3 = sk := hk.2.2.2
    refine am_iload d87_27 rfl ?_
    refine am_bipush (nI 12) d87_29 (by decide) ?_
    refine am_icgeN 71 r 12 d87_31 (by decide) rfl rfl (by omega) (by decide) (fun h31 => ?_) (fun h31 => ?_)
    · obtain rfl : r = 12 := by omega
      exact am_vret d87_71 rfl (hq Mk hk)
    · have hd : 12 - r = (12 - (r + 1)) + 1 := by omega
      rw [hd] at hq
      refine am_aload_n d87_34 rfl ?_
      refine am_geti d87_35 fl87_22 sh_25 rfl ?_
      refine am_iload d87_38 rfl ?_
      refine am_iceq 71 d87_40 (by decide) (fun h40 => ?_) (fun h40 => ?_)
      · simp only [sp_clo, if_pos (es.symm.trans h40)] at hq
        exact am_vret d87_71 rfl (hq Mk hk)
      · simp only [sp_clo, if_neg (fun z : sk = old => h40 (es.trans z))] at hq
        refine am_aload_n d87_43 rfl ?_
        refine am_geti d87_44 fl87_22 sh_25 rfl ?_
        refine am_istore d87_47 (Nat.le_of_ble_eq_true rfl) rfl ?_
        refine am_aload_n d87_49 rfl ?_
        refine am_dup d87_50 rfl ?_
        refine am_geti d87_51 fl87_22 sh_25 rfl ?_
        refine am_aload_n d87_54 rfl ?_
        refine am_aload_n d87_55 rfl ?_
        refine am_iload_n d87_56 rfl ?_
        refine am_iload_n d87_57 rfl ?_
        refine am_cv3 88 d87_58 ml87_62 rfl (by decide) sh_25 rfl rfl rfl rfl (Nat.le_of_ble_eq_true rfl) ?_
        have fin : ∀ x : Int32, x = (fun t => if fw = 0 then sp_refg (M0.1 (v + 1)) (M0.1 (v + 2)) t f else sp_refd (M0.1 (v + 1)) (M0.1 (v + 2)) t f) sk → am_W 87 61 [.ref 25, .ref v, .int fw, .int (nI f), .int (Mk.1 25 3), .int (nI r)] (.int x :: .int (Mk.1 25 3) :: [.ref 25]) Mk Q := by
          intro x hx
          refine am_ior d87_61 ?_
          refine am_put d87_62 fl87_22 sh_25 rfl rfl rfl rfl ?_
          refine am_incN r d87_65 rfl rfl ?_
          refine am_goto 27 d87_68 (by decide) ?_
          rw [es, hx]
          exact ih h31 _ _ _ (hk.st _) hq
        refine c_moved hv hf hk (fun h => fin _ (if_neg h).symm) (fun h => fin _ (if_pos h).symm)
  show am_W kP_move 0 _ [] M Q
  refine am_aload_n d87_0 rfl ?_
  refine am_bipush (nI 126) d87_1 (by decide) ?_
  refine am_cv1 92 d87_3 ml87_58 rfl (by decide) sh_25 rfl rfl (Nat.le_of_ble_eq_true rfl) ?_
  refine c_takes ht hp (by omega) (by decide) (fun h1 h2 M1 p1 => ?_) (fun h0 => ?_)
  · show am_W 87 6 _ (.int 1 :: _) _ _
    refine am_ifne 21 d87_6 (by decide) (fun _ => ?_) (fun h => absurd h (by decide))
    refine am_iconst 0 d87_21 (by decide) ?_
    refine am_istore d87_22 (Nat.le_of_ble_eq_true rfl) rfl ?_
    refine am_iconst (nI 0) d87_24 (by decide) ?_
    refine am_istore d87_25 (Nat.le_of_ble_eq_true rfl) rfl ?_
    refine loop 0 (by decide) M1 s 0 p1 (fun M' p' => hQ M' ?_)
    have hc : ps_ch q len i = 126 := by rw [ps_in h1]; exact h2
    unfold ps_mv
    rw [if_pos hc]
    exact p'
  · show am_W 87 6 _ (.int 0 :: _) _ _
    refine am_ifne 21 d87_6 (by decide) (fun h => absurd rfl h) (fun _ => ?_)
    refine am_aload_n d87_9 rfl ?_
    refine am_aload_n d87_10 rfl ?_
    refine am_aload_n d87_11 rfl ?_
    refine am_iload_n d87_12 rfl ?_
    refine am_iload_n d87_13 rfl ?_
    have hc : ¬ ps_ch q len i = 126 := by
      intro z
      by_cases h : i < len
      · exact h0 ⟨h, by rw [← ps_in (q := q) h]; exact z⟩
      · rw [ps_out h] at z; cases z
    have fin : ∀ x : Int32, x = (fun t => if fw = 0 then sp_refg (M0.1 (v + 1)) (M0.1 (v + 2)) t f else sp_refd (M0.1 (v + 1)) (M0.1 (v + 2)) t f) s → am_W 87 17 [.ref 25, .ref v, .int fw, .int (nI f), .null, .null] (.int x :: [.ref 25]) M Q := by
      intro x hx
      refine am_put d87_17 fl87_22 sh_25 rfl rfl rfl rfl ?_
      refine am_vret d87_20 rfl (hQ _ ?_)
      unfold ps_mv
      rw [if_neg hc, hx]
      exact hp.st _
    refine am_cv3 88 d87_14 ml87_62 rfl (by decide) sh_25 rfl rfl rfl rfl (Nat.le_of_ble_eq_true rfl) ?_
    exact c_moved hv hf hp (fun h => fin _ (if_neg h).symm) (fun h => fin _ (if_pos h).symm)
theorem c_takeNumber {M0 M : am_M} {q : Nat → Nat} {len i : Nat} {s : Int32} {Q : am_T} (ht : tx M0 q len) (hp : pm M0 M i s) (hi : i < 2 ^ 29)
    (hQ : ∀ M', pm M0 M' (ps_num q len 4 (ps_j q len i) 0).2 s → Q (.inl (some (.int (if (ps_num q len 4 (ps_j q len i) 0).2 = ps_j q len i then 10000 else ps_sgn q len i (ps_num q len 4 (ps_j q len i) 0).1)))) M') : am_W kP_takeNumber 0 (am_in kP_takeNumber [.ref 25]) [] M Q := by
  have htx := ht
  obtain ⟨t1, t2, t3⟩ := ht
  have loop : ∀ d, d ≤ 4 → ∀ (M1 : am_M) (a : Nat) (neg : Int32), pm M0 M1 (ps_j q len i + d) s → (neg = 0 ↔ ¬ ps_ch q len i = 45) → (∀ M', pm M0 M' (ps_num q len (4 - d) (ps_j q len i + d) a).2 s → Q (.inl (some (.int (if (ps_num q len (4 - d) (ps_j q len i + d) a).2 = ps_j q len i then 10000 else ps_sgn q len i (ps_num q len (4 - d) (ps_j q len i + d) a).1)))) M') →
      am_W kP_takeNumber 11 [.ref 25, .int neg, .int (nI a), .int (nI d)] [] M1 Q := by
    refine am_loop 4 (fun d hd ih => ?_)
    intro M1 a neg h1 hneg hq
    have hj30 : ps_j q len i + d < 2 ^ 30 := by unfold ps_j; split <;> omega
    have e26 : M1.1 26 = M0.1 26 := h1.1.eq 26 (by decide)
    have el : M1.1 25 1 = nI len := h1.2.1.trans t1
    have ea : M1.1 25 2 = nI (ps_j q len i + d) := h1.2.2.1
    have fin : ps_num q len (4 - d) (ps_j q len i + d) a = (a, ps_j q len i + d) → am_W kP_takeNumber 76 [.ref 25, .int neg, .int (nI a), .int (nI d)] [] M1 Q := by
      intro he
      rw [he] at hq
      have hq := hq M1 h1
      refine am_iload_n d90_76 rfl ?_
      refine am_ifne 84 d90_77 (by decide) (fun h77 => ?_) (fun h77 => ?_)
      · have hd0 : ¬ ps_j q len i + d = ps_j q len i := fun z => h77 (by rw [show d = 0 by omega]; rfl)
        rw [if_neg hd0] at hq
        unfold ps_sgn at hq
        refine am_iload_n d90_84 rfl ?_
        refine am_ifeq 93 d90_85 (by decide) (fun h85 => ?_) (fun h85 => ?_)
        · rw [if_neg (hneg.mp h85)] at hq
          refine am_iload_n d90_93 rfl ?_
          exact am_iret d90_94 rfl rfl hq
        · rw [if_pos (Classical.byContradiction (fun z => h85 (hneg.mpr z)))] at hq
          refine am_iload_n d90_88 rfl ?_
          refine am_ineg d90_89 ?_
          refine am_goto 94 d90_90 (by decide) ?_
          exact am_iret d90_94 rfl rfl hq
      · have hd0 : d = 0 := by
          have : nI d = nI 0 := h77
          exact (nI_eq (by omega) (by decide)).mp this
        rw [if_pos (by omega)] at hq
        refine am_sipush 10000 d90_80 (by decide) ?_
        exact am_iret d90_83 rfl rfl hq
    refine am_iload_n d90_11 rfl ?_
    refine am_iconst (nI 4) d90_12 (by decide) ?_
    refine am_icgeN 76 d 4 d90_13 (by decide) rfl rfl (by omega) (by decide) (fun h13 => ?_) (fun h13 => ?_)
    · exact fin (by rw [show 4 - d = 0 by omega]; rfl)
    · have hs : 4 - d = (4 - (d + 1)) + 1 := by omega
      refine am_aload_n d90_16 rfl ?_
      refine am_geti d90_17 fl90_19 sh_25 rfl ?_
      rw [ea]
      refine am_aload_n d90_20 rfl ?_
      refine am_geti d90_21 fl90_15 sh_25 rfl ?_
      rw [el]
      refine am_icgeN 76 (ps_j q len i + d) len d90_24 (by decide) rfl rfl (by omega) (by omega) (fun h24 => ?_) (fun h24 => ?_)
      · exact fin (by rw [hs]; simp only [ps_num]; rw [if_neg (by rw [ps_out (by omega)]; omega)])
      · obtain ⟨c1, c2⟩ := t3 _ h24
        refine am_aload_n d90_27 rfl ?_
        refine am_getr d90_28 fl90_9 sh_25 rfl ?_
        refine am_aload_n d90_31 rfl ?_
        refine am_geti d90_32 fl90_19 sh_25 rfl ?_
        rw [ea]
        refine am_caldN (ps_j q len i + d) d90_35 sh_26 (by omega) (by decide) ?_
        rw [e26, c1]
        refine am_cs1 93 d90_36 ml90_80 rfl (by decide) rfl rfl (Nat.le_of_ble_eq_true rfl) ?_
        refine c_isDigit (by omega) (fun g1 g2 => ?_) (fun g0 => ?_)
        · show am_W 90 39 _ (.int 1 :: _) _ _
          refine am_ifeq 76 d90_39 (by decide) (fun h => absurd h (by decide)) (fun _ => ?_)
          refine am_bipush (nI 10) d90_42 (by decide) ?_
          refine am_iload_n d90_44 rfl ?_
          refine am_mulN d90_45 ?_
          refine am_aload_n d90_46 rfl ?_
          refine am_getr d90_47 fl90_9 sh_25 rfl ?_
          refine am_aload_n d90_50 rfl ?_
          refine am_geti d90_51 fl90_19 sh_25 rfl ?_
          rw [ea]
          refine am_caldN (ps_j q len i + d) d90_54 sh_26 (by omega) (by decide) ?_
          rw [e26, c1]
          refine am_bipush (nI 48) d90_55 (by decide) ?_
          refine am_isub d90_57 ?_
          rw [pk_sub g1]
          refine am_addN d90_58 ?_
          refine am_istore_n d90_59 (Nat.le_of_ble_eq_true rfl) rfl ?_
          refine am_incN d d90_60 rfl rfl ?_
          refine am_aload_n d90_63 rfl ?_
          refine am_dup d90_64 rfl ?_
          refine am_geti d90_65 fl90_19 sh_25 rfl ?_
          rw [ea]
          refine am_iconst 1 d90_68 (by decide) ?_
          refine am_iadd d90_69 ?_
          rw [nI_1]
          refine am_put d90_70 fl90_19 sh_25 rfl rfl rfl rfl ?_
          refine am_goto 11 d90_73 (by decide) ?_
          refine ih h13 _ _ _ (h1.at _) hneg ?_
          have hst : ps_num q len (4 - d) (ps_j q len i + d) a = ps_num q len (4 - (d + 1)) (ps_j q len i + (d + 1)) (10 * a + (q (ps_j q len i + d) - 48)) := by
            rw [hs]
            simp only [ps_num]
            rw [ps_in h24, if_pos ⟨g1, g2⟩, show ps_j q len i + d + 1 = ps_j q len i + (d + 1) by omega]
          rw [hst] at hq
          exact hq
        · show am_W 90 39 _ (.int 0 :: _) _ _
          refine am_ifeq 76 d90_39 (by decide) (fun _ => ?_) (fun h => absurd rfl h)
          exact fin (by rw [hs]; simp only [ps_num]; rw [ps_in h24, if_neg g0])
  show am_W kP_takeNumber 0 _ [] M Q
  refine am_aload_n d90_0 rfl ?_
  refine am_bipush (nI 45) d90_1 (by decide) ?_
  refine am_cv1 92 d90_3 ml90_58 rfl (by decide) sh_25 rfl rfl (Nat.le_of_ble_eq_true rfl) ?_
  refine c_takes htx hp (by omega) (by decide) (fun h1 h2 M1 p1 => ?_) (fun h0 => ?_)
  · show am_W 90 6 _ (.int 1 :: _) _ _
    have hc : ps_ch q len i = 45 := by rw [ps_in h1]; exact h2
    have hj : ps_j q len i = i + 1 := if_pos hc
    refine am_istore_n d90_6 (Nat.le_of_ble_eq_true rfl) rfl ?_
    refine am_iconst (nI 0) d90_7 (by decide) ?_
    refine am_istore_n d90_8 (Nat.le_of_ble_eq_true rfl) rfl ?_
    refine am_iconst (nI 0) d90_9 (by decide) ?_
    refine am_istore_n d90_10 (Nat.le_of_ble_eq_true rfl) rfl ?_
    exact loop 0 (by decide) M1 0 1 (by rw [hj]; exact p1) ⟨fun z => absurd z (by decide), fun z => absurd hc z⟩ hQ
  · show am_W 90 6 _ (.int 0 :: _) _ _
    have hc : ¬ ps_ch q len i = 45 := by
      intro z
      by_cases h : i < len
      · exact h0 ⟨h, by rw [← ps_in (q := q) h]; exact z⟩
      · rw [ps_out h] at z; cases z
    have hj : ps_j q len i = i := if_neg hc
    refine am_istore_n d90_6 (Nat.le_of_ble_eq_true rfl) rfl ?_
    refine am_iconst (nI 0) d90_7 (by decide) ?_
    refine am_istore_n d90_8 (Nat.le_of_ble_eq_true rfl) rfl ?_
    refine am_iconst (nI 0) d90_9 (by decide) ?_
    refine am_istore_n d90_10 (Nat.le_of_ble_eq_true rfl) rfl ?_
    exact loop 0 (by decide) M 0 0 (by rw [hj]; exact hp) ⟨fun _ => hc, fun _ => rfl⟩ hQ
