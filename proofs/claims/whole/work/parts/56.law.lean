/-! the law: each case keeps class and model alike -/
theorem setL_get {M : am_M} {x : Int64} : (am_setL M 38 0 x).2.1 38 0 = x := by
  show va_up M.2.1 38 (vp_updL (M.2.1 38) 0 x) 38 0 = x
  rw [va_up_self, pk_uLs]
section NX
variable {M : am_M} {pn : Nat → Nat} {nb nw ck len : Nat} {q : Nat → Nat} {Q : am_T} {i : Nat}
theorem nx_f (hR : RL M pn nb nw ck len q) (next : nx M ck i Q) {M1 M2 : am_M} {v : Int32} (hj : jk M M1) (e2 : M1.2.2.2 = M.2.2.2) (eb : M.2.2.1 ≤ M1.2.2.1 + 1) (c : cd M1 M2 v) : ∀ x5 x6 : Value, am_W kL_law 1131 [.ref am_SC, .ref 0, .ref 27, .ref 38, .int (nI i), x5, x6] [] M2 Q := fun x5 x6 => next M2 _ _ _ _ _ _ (rl_jk hR (hj.tr (jk_cd c))) (by rw [c.1.2]; exact e2) (by rw [c.1.2]; exact eb) (by omega) x5 x6
theorem nx_p (hR : RL M pn nb nw ck len q) (next : nx M ck i Q) {M2 : am_M} {v : Int32} (c : cd (am_pay M) M2 v) : ∀ x5 x6 : Value, am_W kL_law 1131 [.ref am_SC, .ref 0, .ref 27, .ref 38, .int (nI i), x5, x6] [] M2 Q := nx_f hR next (M1 := am_pay M) jk.rf rfl (by show M.2.2.1 ≤ M.2.2.1 - 1 + 1; omega) c
theorem nx_r (hR : RL M pn nb nw ck len q) (next : nx M ck i Q) {M' M2 : am_M} {v : Int32} {x : Int64} (hj : jk M M') (f : M'.2 = M.2) (c : cd (am_setL M' 38 0 x) M2 v) : ∀ x5 x6 : Value, am_W kL_law 1131 [.ref am_SC, .ref 0, .ref 27, .ref 38, .int (nI i), x5, x6] [] M2 Q := nx_f hR next (M1 := am_setL M' 38 0 x) hj (by show M'.2.2.2 = _; rw [f]) (by show _ ≤ M'.2.2.1 + 1; rw [f]; omega) c
theorem cd_out {M' M2 : am_M} {v : Int32} {x : Int64} (c : cd (am_setL M' 38 0 x) M2 v) : M2.2.1 38 0 = x := by rw [c.1.2]; exact setL_get
end NX
theorem s_branch {M : am_M} {pn : Nat → Nat} {nb nw ck len : Nat} {q : Nat → Nat} {Q : am_T} {i : Nat} (hR : RL M pn nb nw ck len q) (hbud : 0 < M.2.2.1) (hi : i + 6 ≤ M.2.2.2.1) (hl : M.2.2.2.1 < 2 ^ 31) (hck : ck + 48 < 2 ^ 30) (next : nx M ck i Q) (x5 x6 : Value) : am_W kL_law 116 [.ref am_SC, .ref 0, .ref 27, .ref 38, .int (nI i), x5, x6] [] M Q := by
  have h6 : nb ≤ 6 := hR.1.2.1.1
  have hn31 : nb < 2 ^ 31 := by omega
  have hm := hR.2.1
  refine am_aload_n d128_116 rfl ?_
  refine am_aload_n d128_117 rfl ?_
  refine am_iload d128_118 rfl ?_
  refine am_iconst (nI 1) d128_120 (by decide) ?_
  refine am_addN d128_121 ?_
  refine am_saldN (i + 1) d128_122 (by omega) hl ?_
  refine am_aload_n d128_123 rfl ?_
  refine am_iload d128_124 rfl ?_
  refine am_iconst (nI 2) d128_126 (by decide) ?_
  refine am_addN d128_127 ?_
  refine am_saldN (i + 2) d128_128 (by omega) hl ?_
  refine am_aload_n d128_129 rfl ?_
  refine am_cs4 114 d128_130 ml128_69 rfl (by decide) rfl rfl rfl rfl rfl (Nat.le_of_ble_eq_true rfl) ?_
  refine l_branch hR.1 (fun y1 => ?_) (fun b y1 y2 y3 => ?_) (fun b y1 y2 y3 y4 => ?_) (fun b y1 y2 y3 y4 => ?_) hbud
  · show am_W 128 133 _ (.int 1 :: _) _ _
    refine u_branch (M := M) rfl hi hl ?_
    refine q_branch (M := am_pay M) hm (fun z M2 c => t_branch c.2.2 (fun z => absurd z (by decide)) (nx_p hR next c)) (fun b' z1 z2 _ _ _ => absurd (⟨b', z1, z2⟩) (y1)) (fun b' z1 z2 _ _ _ _ => absurd (⟨b', z1, z2⟩) (y1)) (fun b' z1 z2 _ _ => absurd (⟨b', z1, z2⟩) (y1))
  · show am_W 128 133 _ (.int 2 :: _) _ _
    refine u_branch (M := M) rfl hi hl ?_
    refine q_branch (M := am_pay M) hm (fun z _ _ => absurd (⟨b, y1, y2⟩) (z)) (fun b' z1 z2 z3 M2 c => t_branch c.2.2 (fun z => absurd z (by decide)) (nx_p hR next c)) (fun b' z1 z2 z3 _ _ _ => by have eb := nj hn31 y1 y2 z1 z2; subst eb; exact absurd ((rl_rd hR z1 _).mp z3) y3) (fun b' z1 z2 z3 _ => by have eb := nj hn31 y1 y2 z1 z2; subst eb; exact absurd ((rl_rd hR z1 _).mp z3) y3)
  · show am_W 128 133 _ (.int 3 :: _) _ _
    refine u_branch (M := M) rfl hi hl ?_
    refine q_branch (M := am_pay M) hm (fun z _ _ => absurd (⟨b, y1, y2⟩) (z)) (fun b' z1 z2 z3 _ _ => by have eb := nj hn31 y1 y2 z1 z2; subst eb; exact absurd ((rl_rd hR z1 _).mpr y3) z3) (fun b' z1 z2 z3 z4 M2 c => t_branch c.2.2 (fun z => absurd z (by decide)) (nx_p hR next c)) (fun b' _ _ _ z4 => by omega)
  · show am_W 128 133 _ (.int 0 :: _) _ _
    refine u_branch (M := M) rfl hi hl ?_
    refine q_branch (M := (am_setL (am_set (am_set (am_set (am_set M 2 nb (nI b)) 3 nb (M.2.2.2.2 (i + 2))) 4 nb 1) 1 4 (nI (nb + 1))) 38 0 (Int32.toInt64 (nI nb)))) (moS_jk hm (fun p h1 h2 => by show va_up _ 1 _ p = _; rw [va_up_ne _ _ (by omega), am_set_ne (by omega), am_set_ne (by omega), am_set_ne (by omega)])) (fun z _ _ => absurd (⟨b, y1, y2⟩) (z)) (fun b' z1 z2 z3 _ _ => by have eb := nj hn31 y1 y2 z1 z2; subst eb; exact absurd ((rl_rd hR z1 _).mpr y3) z3) (fun b' _ _ _ z4 _ _ => by omega) (fun b' z1 z2 z3 z4 => by
      have eb := nj hn31 y1 y2 z1 z2; subst eb;
      refine t_branch rfl (fun _ => setL_get) (fun x5 x6 => ?_)
      refine next _ (fun k => if k = nb then b' else pn k) (nb + 1) nw ck len q (rl_branch (b := b') (m := M.2.2.2.2 (i + 2)) hR z1 y3 z4 (fun p p1 p2 p3 p4 p27 p28 p29 p30 => ?_) (fun s s0 s3 => ?_) ?_ ?_ ?_ ?_ ?_ ?_ ?_ ?_) ?_ ?_ (by omega) x5 x6
      · show va_up _ 27 _ p = _
        rw [va_up_ne _ _ p27, am_set_ne p30, am_set_ne p29, am_set_ne p28, am_set_ne p27]
        show va_up _ 1 _ p = _
        rw [va_up_ne _ _ p1, am_set_ne p4, am_set_ne p3, am_set_ne p2]
      · rw [am_set_self, pk_un s3, am_set_ne (by decide), am_set_ne (by decide), am_set_ne (by decide), am_set_self, pk_un s0]
        rfl
      · rfl
      · rfl
      · rfl
      · rfl
      · rfl
      · rfl
      · rfl
      · rfl
      · rfl
      · show M.2.2.1 ≤ M.2.2.1 + 1
        omega)
theorem s_close {M : am_M} {pn : Nat → Nat} {nb nw ck len : Nat} {q : Nat → Nat} {Q : am_T} {i : Nat} (hR : RL M pn nb nw ck len q) (hbud : 0 < M.2.2.1) (hi : i + 6 ≤ M.2.2.2.1) (hl : M.2.2.2.1 < 2 ^ 31) (hck : ck + 48 < 2 ^ 30) (next : nx M ck i Q) (x5 x6 : Value) : am_W kL_law 184 [.ref am_SC, .ref 0, .ref 27, .ref 38, .int (nI i), x5, x6] [] M Q := by
  have h6 : nb ≤ 6 := hR.1.2.1.1
  have hn31 : nb < 2 ^ 31 := by omega
  have hm := hR.2.1
  refine am_aload_n d128_184 rfl ?_
  refine am_aload_n d128_185 rfl ?_
  refine am_iload d128_186 rfl ?_
  refine am_iconst (nI 1) d128_188 (by decide) ?_
  refine am_addN d128_189 ?_
  refine am_saldN (i + 1) d128_190 (by omega) hl ?_
  refine am_cs2 115 d128_191 ml128_79 rfl (by decide) rfl rfl rfl (Nat.le_of_ble_eq_true rfl) ?_
  refine l_close hR.1 (fun y1 => ?_) (fun b y1 y2 y3 => ?_) (fun b y1 y2 y3 y4 => ?_) (fun b y1 y2 y3 y4 => ?_) hbud
  · show am_W 128 194 _ (.int 1 :: _) _ _
    refine u_close (M := M) rfl hi hl ?_
    refine q_close (M := am_pay M) hm (fun z M2 c => t_close c.2.2 (nx_p hR next c)) (fun b' z1 z2 _ _ _ => absurd (⟨b', z1, z2⟩) (y1)) (fun b' z1 z2 _ _ => absurd (⟨b', z1, z2⟩) (y1))
  · show am_W 128 194 _ (.int 2 :: _) _ _
    refine u_close (M := M) rfl hi hl ?_
    refine q_close (M := am_pay M) hm (fun z _ _ => absurd (⟨b, y1, y2⟩) (z)) (fun b' z1 z2 z3 M2 c => t_close c.2.2 (nx_p hR next c)) (fun b' z1 z2 z3 _ => by have eb := nj hn31 y1 y2 z1 z2; subst eb; exact absurd y3 ((hR.2.2.2.1 _ z1).mp z3))
  · show am_W 128 194 _ (.int 2 :: _) _ _
    refine u_close (M := M) rfl hi hl ?_
    refine q_close (M := am_pay M) hm (fun z _ _ => absurd (⟨b, y1, y2⟩) (z)) (fun b' z1 z2 z3 M2 c => t_close c.2.2 (nx_p hR next c)) (fun b' z1 z2 z3 z4 => by have eb := nj hn31 y1 y2 z1 z2; subst eb; exfalso; have e := rl_oth hR z1 y3; have z5 : ¬ sp_cnt (fun k => !decide (k = b') && decide (M.1 30 k = 0)) nb = 0 := z4; omega)
  · show am_W 128 194 _ (.int 0 :: _) _ _
    refine u_close (M := M) rfl hi hl ?_
    refine q_close (M := am_set M 4 b 0) (moS_jk hm (fun p h1 h2 => am_set_ne (by omega))) (fun z _ _ => absurd (⟨b, y1, y2⟩) (z)) (fun b' z1 z2 z3 _ _ => by have eb := nj hn31 y1 y2 z1 z2; subst eb; have e := rl_oth hR z1 y3; exact absurd (by rcases z3 with z | z; exact absurd ((hR.2.2.2.1 _ z1).mpr y3) z; (have z5 : sp_cnt (fun k => !decide (k = b') && decide (M.1 30 k = 0)) nb = 0 := z; omega)) y4) (fun b' z1 z2 z3 z4 => by
      have eb := nj hn31 y1 y2 z1 z2; subst eb;
      refine t_close rfl (fun x5 x6 => ?_)
      refine next _ pn nb nw ck len q (rl_close (b := b') hR (fun p p4 p30 p27 => ?_) (fun s s0 => ?_) ?_ ?_) ?_ ?_ (by omega) x5 x6
      · rw [am_set_ne p30, am_set_ne p27, am_set_ne p4]
      · rw [am_set_ne (by decide), am_set_self, pk_un s0]; rfl
      · rfl
      · rfl
      · rfl
      · show M.2.2.1 ≤ M.2.2.1 + 1
        omega)
theorem s_write {M : am_M} {pn : Nat → Nat} {nb nw ck len : Nat} {q : Nat → Nat} {Q : am_T} {i : Nat} (hR : RL M pn nb nw ck len q) (hbud : 0 < M.2.2.1) (hi : i + 6 ≤ M.2.2.2.1) (hl : M.2.2.2.1 < 2 ^ 31) (hck : ck + 48 < 2 ^ 30) (next : nx M ck i Q) (x5 x6 : Value) : am_W kL_law 220 [.ref am_SC, .ref 0, .ref 27, .ref 38, .int (nI i), x5, x6] [] M Q := by
  have h6 : nb ≤ 6 := hR.1.2.1.1
  have hn31 : nb < 2 ^ 31 := by omega
  have hm := hR.2.1
  refine am_aload_n d128_220 rfl ?_
  refine am_aload_n d128_221 rfl ?_
  refine am_iload d128_222 rfl ?_
  refine am_iconst (nI 1) d128_224 (by decide) ?_
  refine am_addN d128_225 ?_
  refine am_saldN (i + 1) d128_226 (by omega) hl ?_
  refine am_aload_n d128_227 rfl ?_
  refine am_iload d128_228 rfl ?_
  refine am_iconst (nI 2) d128_230 (by decide) ?_
  refine am_addN d128_231 ?_
  refine am_saldN (i + 2) d128_232 (by omega) hl ?_
  refine am_aload_n d128_233 rfl ?_
  refine am_iload d128_234 rfl ?_
  refine am_iconst (nI 3) d128_236 (by decide) ?_
  refine am_addN d128_237 ?_
  refine am_saldN (i + 3) d128_238 (by omega) hl ?_
  refine am_aload_n d128_239 rfl ?_
  refine am_iload d128_240 rfl ?_
  refine am_iconst (nI 4) d128_242 (by decide) ?_
  refine am_addN d128_243 ?_
  refine am_saldN (i + 4) d128_244 (by omega) hl ?_
  refine am_aload_n d128_245 rfl ?_
  refine am_iload d128_246 rfl ?_
  refine am_iconst (nI 5) d128_248 (by decide) ?_
  refine am_addN d128_249 ?_
  refine am_saldN (i + 5) d128_250 (by omega) hl ?_
  refine am_aload_n d128_251 rfl ?_
  refine am_cs7 116 d128_252 ml128_83 rfl (by decide) rfl rfl rfl rfl rfl rfl rfl rfl (Nat.le_of_ble_eq_true rfl) ?_
  refine l_write hR.1 (fun y1 => ?_) (fun b o f y1 y2 y3 y4 y5 y6 y7 => ?_) (fun b o f y1 y2 y3 y4 y5 y6 y7 y8 => ?_) (fun b o f y1 y2 y3 y4 y5 y6 y7 y8 y9 => ?_) (fun b o f y1 y2 y3 y4 y5 y6 y7 y8 y9 => ?_) hbud
  · show am_W 128 255 _ (.int 1 :: _) _ _
    refine u_write (M := M) rfl hi hl ?_
    refine q_write (M := am_pay M) hm (fun z M2 c => t_write c.2.2 (fun z => absurd z (by decide)) (nx_p hR next c)) (fun b' o' f' z1 z2 z3 z4 z5 z6 _ _ _ => absurd (⟨⟨b', z1, z2⟩, ⟨o', z3, z4⟩, ⟨f', z5, z6⟩⟩) (y1)) (fun b' o' f' z1 z2 z3 z4 z5 z6 _ _ _ _ => absurd (⟨⟨b', z1, z2⟩, ⟨o', z3, z4⟩, ⟨f', z5, z6⟩⟩) (y1)) (fun b' o' f' z1 z2 z3 z4 z5 z6 _ _ _ _ _ => absurd (⟨⟨b', z1, z2⟩, ⟨o', z3, z4⟩, ⟨f', z5, z6⟩⟩) (y1)) (fun b' o' f' z1 z2 z3 z4 z5 z6 _ _ _ => absurd (⟨⟨b', z1, z2⟩, ⟨o', z3, z4⟩, ⟨f', z5, z6⟩⟩) (y1))
  · show am_W 128 255 _ (.int 2 :: _) _ _
    refine u_write (M := M) rfl hi hl ?_
    refine q_write (M := am_pay M) hm (fun z _ _ => absurd (⟨⟨b, y1, y2⟩, ⟨o, y3, y4⟩, ⟨f, y5, y6⟩⟩) (z)) (fun b' o' f' z1 z2 z3 z4 z5 z6 z7 M2 c => t_write c.2.2 (fun z => absurd z (by decide)) (nx_p hR next c)) (fun b' o' f' z1 z2 z3 z4 z5 z6 z7 _ _ _ => absurd (z7) (y7)) (fun b' o' f' z1 z2 z3 z4 z5 z6 z7 _ _ _ _ => absurd (z7) (y7)) (fun b' o' f' z1 z2 z3 z4 z5 z6 z7 _ _ => absurd (z7) (y7))
  · show am_W 128 255 _ (.int 3 :: _) _ _
    refine u_write (M := M) rfl hi hl ?_
    refine q_write (M := am_pay M) hm (fun z _ _ => absurd (⟨⟨b, y1, y2⟩, ⟨o, y3, y4⟩, ⟨f, y5, y6⟩⟩) (z)) (fun b' o' f' z1 z2 z3 z4 z5 z6 z7 _ _ => absurd (y7) (z7)) (fun b' o' f' z1 z2 z3 z4 z5 z6 z7 z8 M2 c => t_write c.2.2 (fun z => absurd z (by decide)) (nx_p hR next c)) (fun b' o' f' z1 z2 z3 z4 z5 z6 z7 z8 _ _ _ => by have eb := nj hn31 y1 y2 z1 z2; subst eb; exact absurd y8 ((hR.2.2.2.1 _ z1).mp z8)) (fun b' o' f' z1 z2 z3 z4 z5 z6 z7 z8 _ => by have eb := nj hn31 y1 y2 z1 z2; subst eb; exact absurd y8 ((hR.2.2.2.1 _ z1).mp z8))
  · show am_W 128 255 _ (.int 4 :: _) _ _
    refine u_write (M := M) rfl hi hl ?_
    refine q_write (M := am_pay M) hm (fun z _ _ => absurd (⟨⟨b, y1, y2⟩, ⟨o, y3, y4⟩, ⟨f, y5, y6⟩⟩) (z)) (fun b' o' f' z1 z2 z3 z4 z5 z6 z7 _ _ => absurd (y7) (z7)) (fun b' o' f' z1 z2 z3 z4 z5 z6 z7 z8 _ _ => by have eb := nj hn31 y1 y2 z1 z2; subst eb; exact absurd ((hR.2.2.2.1 _ z1).mpr y8) z8) (fun b' o' f' z1 z2 z3 z4 z5 z6 z7 z8 z9 M2 c => t_write c.2.2 (fun z => absurd z (by decide)) (nx_p hR next c)) (fun b' o' f' z1 z2 z3 z4 z5 z6 z7 z8 z9 => by omega)
  · show am_W 128 255 _ (.int 0 :: _) _ _
    refine u_write (M := M) rfl hi hl ?_
    refine q_write (M := (am_setL (sp_add (am_set M 0 6 (nI (ck + 1))) nw (nI b) (nI (ck + 1)) (nI (4 * o + f)) (M.2.2.2.2 (i + 4)) (if M.2.2.2.2 (i + 4) = 0 then 0 else M.2.2.2.2 (i + 5))) 38 0 (Int32.toInt64 (nI (ck + 1))))) (moS_jk hm (fun p h1 h2 => by show (sp_add _ _ _ _ _ _ _).1 p = _; unfold sp_add; rw [am_set_ne (by omega), am_set_ne (by omega), am_set_ne (by omega), am_set_ne (by omega), am_set_ne (by omega), am_set_ne (by omega), am_set_ne (by omega)])) (fun z _ _ => absurd (⟨⟨b, y1, y2⟩, ⟨o, y3, y4⟩, ⟨f, y5, y6⟩⟩) (z)) (fun b' o' f' z1 z2 z3 z4 z5 z6 z7 _ _ => absurd (y7) (z7)) (fun b' o' f' z1 z2 z3 z4 z5 z6 z7 z8 _ _ => by have eb := nj hn31 y1 y2 z1 z2; subst eb; exact absurd ((hR.2.2.2.1 _ z1).mpr y8) z8) (fun b' o' f' z1 z2 z3 z4 z5 z6 z7 z8 z9 _ _ => by omega) (fun b' o' f' z1 z2 z3 z4 z5 z6 z7 z8 z9 => by
      have eb := nj hn31 y1 y2 z1 z2; subst eb;
      have eo := nj (n := 12) (by decide) y3 y4 z3 z4; subst eo
      have ef := nj (n := 4) (by decide) y5 y6 z5 z6; subst ef
      refine t_write rfl (fun _ => setL_get) (fun x5 x6 => ?_)
      obtain ⟨hb, hmm, ⟨e1, e2, e3, e4, e5, e6, e7, e8⟩, hop, ⟨eh, hz, hz1, hz2⟩, hrest⟩ := id hR
      have hP := PR_add (kd := M.2.2.2.2 (i + 4)) (vl := if M.2.2.2.2 (i + 4) = 0 then 0 else M.2.2.2.2 (i + 5)) (c := 4 * o' + f') (RL_PR hR) z9 z1 h6 (by omega) (by omega) (fun z => by rw [if_pos z]) (fun z => by rw [if_neg (by rw [z]; decide)]; rcases z7 with y | y | y; exact absurd (z.symm.trans y) (by decide); exact absurd (z.symm.trans y) (by decide); exact y.2)
      refine next _ pn nb (nw + 1) (ck + 1) len q (rl_rows (nw' := nw + 1) (ck' := ck + 1) hR (fun p hp => ?_) ?_ ?_ ?_ ?_ (by omega) ?_ ?_ ?_ ?_ ?_ ?_ ?_ ?_ ?_ ?_) ?_ ?_ (by omega) x5 x6
      · simp at hp
        unfold mo_add
        rw [am_set_ne (by omega), am_set_ne (by omega), am_set_ne (by omega), am_set_ne (by omega), am_set_ne (by omega), am_set_ne (by omega), am_set_ne (by omega), am_set_ne (by omega)]
        show (sp_add _ _ _ _ _ _ _).1 p = _
        unfold sp_add
        rw [am_set_ne (by omega), am_set_ne (by omega), am_set_ne (by omega), am_set_ne (by omega), am_set_ne (by omega), am_set_ne (by omega), am_set_ne (by omega)]
      · rfl
      · rfl
      · rfl
      · rfl
      · rfl
      · rfl
      · exact eh
      · exact ⟨hz, by omega, hz2⟩
      · exact hP
      · show upd (M.1 31) nw _ = upd (M.1 7) nw _
        rw [e3]
      · show upd (M.1 32) nw _ = upd (M.1 8) nw _
        rw [e4]
      · show upd (M.1 33) nw _ = upd (M.1 9) nw _
        rw [e5]
      · show upd (M.1 34) nw _ = upd (M.1 10) nw _
        rw [e6]
      · show upd (M.1 35) nw _ = upd (M.1 11) nw _
        rw [e7]
      · rfl
      · show M.2.2.1 ≤ M.2.2.1 + 1
        omega)
