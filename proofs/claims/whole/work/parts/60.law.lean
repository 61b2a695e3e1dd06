/-! the law: its loop -/
theorem sl_gt {l i : Nat} (hl : l < 2 ^ 31) (hi : i < 2 ^ 31) (h : l < i + 6) : Int32.ofNat l - nI 6 < nI i := by
  have e1 : (nI i).toInt = i := nI_toInt hi
  have e2 : (Int32.ofNat l).toInt = l := nI_toInt hl
  have e3 : (nI 6).toInt = 6 := by decide
  rw [Int32.lt_iff_toInt_lt, Int32.toInt_sub, e1, e2, e3]
  rw [Int.bmod_eq_of_le (by omega) (by omega)]
  omega
theorem lw_loop {Q : am_T} (hQ : ∀ M', Q (.inl (some (.int 1))) M') : ∀ (n i : Nat) (M : am_M) (pn : Nat → Nat) (nb nw ck len : Nat) (q : Nat → Nat) (x5 x6 : Value), RL M pn nb nw ck len q → M.2.2.2.1 < i + 6 * n + 6 → M.2.2.2.1 < 2 ^ 31 → i < 2 ^ 31 → n ≤ M.2.2.1 → ck + 48 * n < 2 ^ 30 → am_W kL_law 23 [.ref am_SC, .ref 0, .ref 27, .ref 38, .int (nI i), x5, x6] [] M Q := by
  intro n
  induction n with
  | zero =>
    intro i M pn nb nw ck len q x5 x6 hR hn hl hi31 hb hck
    refine am_iload d128_23 rfl ?_
    refine am_aload_n d128_25 rfl ?_
    refine am_slen d128_26 ?_
    refine am_bipush (nI 6) d128_27 (by decide) ?_
    refine am_isub d128_29 ?_
    refine am_icgt 1137 d128_30 (by decide) (fun _ => ?_) (fun h => absurd ?_ h)
    · refine am_iconst (nI 1) d128_1137 (by decide) ?_
      exact am_iret d128_1138 rfl rfl (hQ _)
    · exact sl_gt hl hi31 (by omega)
  | succ n ih =>
    intro i M pn nb nw ck len q x5 x6 hR hn hl hi31 hb hck
    refine am_iload d128_23 rfl ?_
    refine am_aload_n d128_25 rfl ?_
    refine am_slen d128_26 ?_
    refine am_bipush (nI 6) d128_27 (by decide) ?_
    refine am_isub d128_29 ?_
    refine am_icgt 1137 d128_30 (by decide) (fun _ => ?_) (fun h => ?_)
    · refine am_iconst (nI 1) d128_1137 (by decide) ?_
      exact am_iret d128_1138 rfl rfl (hQ _)
    have hi : i + 6 ≤ M.2.2.2.1 := Classical.byContradiction (fun z => h (sl_gt hl hi31 (by omega)))
    have hbud : 0 < M.2.2.1 := by omega
    refine am_aload_n d128_33 rfl ?_
    refine am_iload d128_34 rfl ?_
    refine am_saldN i d128_36 (by omega) hl ?_
    refine am_bipush (nI 15) d128_37 (by decide) ?_
    refine am_iand d128_39 ?_
    have next : nx M ck i Q := by
      intro M2 pn2 nb2 nw2 ck2 len2 q2 hR2 e2 eb ec x5 x6
      refine am_iinc (nI (i + 6)) d128_1131 rfl (nI_add i 6) rfl ?_
      refine am_goto 23 d128_1134 (by decide) ?_
      exact ih (i + 6) M2 pn2 nb2 nw2 ck2 len2 q2 x5 x6 hR2 (by rw [e2]; omega) (by rw [e2]; exact hl) (by omega) (by omega) (by omega)
    obtain ⟨j, hj, ej⟩ : ∃ j, j < 16 ∧ M.2.2.2.2 i &&& nI 15 = nI j := pk_andE _ 4 (by decide)
    have hc : j = 0 ∨ j = 1 ∨ j = 2 ∨ j = 3 ∨ j = 4 ∨ j = 5 ∨ j = 6 ∨ j = 7 ∨ j = 8 ∨ j = 9 ∨ j = 10 ∨ j = 11 ∨ j = 12 ∨ j = 13 ∨ j = 14 ∨ j = 15 := by omega
    rcases hc with rfl | rfl | rfl | rfl | rfl | rfl | rfl | rfl | rfl | rfl | rfl | rfl | rfl | rfl | rfl | rfl
    · exact am_s d128_40 ⟨_, _, rfl, fun h => absurd h (by rw [ej]; decide), fun _ _ => ⟨76, 116, by rw [ej]; decide, by decide, s_branch hR hbud hi hl (by omega) next x5 x6⟩⟩
    · exact am_s d128_40 ⟨_, _, rfl, fun h => absurd h (by rw [ej]; decide), fun _ _ => ⟨144, 184, by rw [ej]; decide, by decide, s_close hR hbud hi hl (by omega) next x5 x6⟩⟩
    · exact am_s d128_40 ⟨_, _, rfl, fun h => absurd h (by rw [ej]; decide), fun _ _ => ⟨180, 220, by rw [ej]; decide, by decide, s_write hR hbud hi hl (by omega) next x5 x6⟩⟩
    · exact am_s d128_40 ⟨_, _, rfl, fun h => absurd h (by rw [ej]; decide), fun _ _ => ⟨284, 324, by rw [ej]; decide, by decide, s_read hR hbud hi hl (by omega) next x5 x6⟩⟩
    · exact am_s d128_40 ⟨_, _, rfl, fun h => absurd h (by rw [ej]; decide), fun _ _ => ⟨388, 428, by rw [ej]; decide, by decide, s_history hR hbud hi hl (by omega) next x5 x6⟩⟩
    · exact am_s d128_40 ⟨_, _, rfl, fun h => absurd h (by rw [ej]; decide), fun _ _ => ⟨480, 520, by rw [ej]; decide, by decide, s_differs hR hbud hi hl (by omega) next x5 x6⟩⟩
    · exact am_s d128_40 ⟨_, _, rfl, fun h => absurd h (by rw [ej]; decide), fun _ _ => ⟨560, 600, by rw [ej]; decide, by decide, s_meeting hR hbud hi hl (by omega) next x5 x6⟩⟩
    · exact am_s d128_40 ⟨_, _, rfl, fun h => absurd h (by rw [ej]; decide), fun _ _ => ⟨628, 668, by rw [ej]; decide, by decide, s_join hR hbud hi hl (by omega) next x5 x6⟩⟩
    · exact am_s d128_40 ⟨_, _, rfl, fun h => absurd h (by rw [ej]; decide), fun _ _ => ⟨696, 736, by rw [ej]; decide, by decide, s_trim hR hbud hi hl (by omega) next x5 x6⟩⟩
    · exact am_s d128_40 ⟨_, _, rfl, fun h => absurd h (by rw [ej]; decide), fun _ _ => ⟨752, 792, by rw [ej]; decide, by decide, s_reach hR hbud hi hl (by omega) next x5 x6⟩⟩
    · exact am_s d128_40 ⟨_, _, rfl, fun h => absurd h (by rw [ej]; decide), fun _ _ => ⟨832, 872, by rw [ej]; decide, by decide, s_type hR hbud hi hl (by omega) next x5 x6⟩⟩
    · exact am_s d128_40 ⟨_, _, rfl, fun h => absurd h (by rw [ej]; decide), fun _ _ => ⟨888, 928, by rw [ej]; decide, by decide, s_erase hR next x5 x6⟩⟩
    · exact am_s d128_40 ⟨_, _, rfl, fun h => absurd h (by rw [ej]; decide), fun _ _ => ⟨899, 939, by rw [ej]; decide, by decide, s_find hR hbud hi hl (by omega) next x5 x6⟩⟩
    · exact am_s d128_40 ⟨_, _, rfl, fun h => absurd h (by rw [ej]; decide), fun _ _ => ⟨967, 1007, by rw [ej]; decide, by decide, s_state hR hbud hi hl (by omega) next x5 x6⟩⟩
    · exact am_s d128_40 ⟨_, _, rfl, fun h => absurd h (by rw [ej]; decide), fun _ _ => ⟨1023, 1063, by rw [ej]; decide, by decide, s_about hR hbud hi hl (by omega) next x5 x6⟩⟩
    · refine am_s d128_40 ⟨_, _, rfl, fun _ => ⟨1131, by decide, ?_⟩, fun _ h => absurd (show (14 : Int) < _ by rw [ej]; decide) h⟩
      exact next M pn nb nw ck len q hR rfl (by omega) (by omega) x5 x6
