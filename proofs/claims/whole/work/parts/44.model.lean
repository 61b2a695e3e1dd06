/-! the model: join, trim -/
def jcg (wk wv : Nat → Int32) (r1 r2 r3 r4 : Nat → Option Nat) (c : Nat) : Bool := jca wk wv r1 r2 r3 c && !sr wk wv (r2 c) (r4 c)
/-- the model's memory behind c cells of a join -/
def jo (M M' : am_M) (car : Nat → Bool) (kd vl : Nat → Int32) (b nw ck c : Nat) : Prop := fr [27, 31, 32, 33, 34, 35] M M' ∧ (∀ s, s ≠ 0 → s ≠ 1 → s ≠ 7 → M'.1 27 s = M.1 27 s) ∧ M'.1 27 0 = 0 ∧ M'.1 27 7 = nI (nw + sp_cnt car c) ∧ M'.1 27 1 = nI (ck + sp_cnt car c) ∧ M'.1 31 = jn car (fun _ => nI b) (M.1 31) nw c ∧ M'.1 32 = jn car (fun i => nI (ck + sp_cnt car i + 1)) (M.1 32) nw c ∧ M'.1 33 = jn car nI (M.1 33) nw c ∧ M'.1 34 = jn car kd (M.1 34) nw c ∧ M'.1 35 = jn car (fun i => if kd i = 0 then 0 else vl i) (M.1 35) nw c
theorem jo_t {M M' : am_M} {car : Nat → Bool} {kd vl : Nat → Int32} {b nw ck c : Nat} (h : jo M M' car kd vl b nw ck c) (hc : car c = true) : jo M (mo_add M' (nw + sp_cnt car c) (ck + sp_cnt car c) (nI b) (nI c) (kd c) (vl c)) car kd vl b nw ck (c + 1) := by
  obtain ⟨a1, a2, a3, a4, a5, a6, a7, a8, a9, a10⟩ := h
  unfold mo_add
  refine ⟨((((((a1.set (by simp)).set (by simp)).set (by simp)).set (by simp)).set (by simp)).set (by simp)).set (by simp), ?_, ?_, ?_, ?_, ?_, ?_, ?_, ?_, ?_⟩
  · intro s h0 h1 h7
    rw [am_set_self, pk_un h7, am_set_ne (by decide), am_set_ne (by decide), am_set_ne (by decide), am_set_ne (by decide), am_set_ne (by decide), am_set_self, pk_un h1]
    exact a2 s h0 h1 h7
  · exact a3
  · rw [am_set_self, pk_us, ← sp_cnt_t hc]; rfl
  · rw [← sp_cnt_t hc]; rfl
  · rw [jn_t hc, ← a6]; rfl
  · rw [jn_t hc, ← a7]; rfl
  · rw [jn_t hc, ← a8]; rfl
  · rw [jn_t hc, ← a9]; rfl
  · rw [jn_t hc, ← a10]; rfl
theorem jo_f {M M' : am_M} {car : Nat → Bool} {kd vl : Nat → Int32} {b nw ck c : Nat} (h : jo M M' car kd vl b nw ck c) (hc : ¬ car c = true) : jo M M' car kd vl b nw ck (c + 1) := by
  obtain ⟨a1, a2, a3, a4, a5, a6, a7, a8, a9, a10⟩ := h
  unfold jo
  rw [jn_f hc, jn_f hc, jn_f hc, jn_f hc, jn_f hc, ← sp_cnt_f hc]
  exact ⟨a1, a2, a3, a4, a5, a6, a7, a8, a9, a10⟩
theorem jn_lt {car : Nat → Bool} {f a : Nat → Int32} {nw i : Nat} (hi : i < nw) : ∀ c, jn car f a nw c i = a i := by
  intro c
  induction c with
  | zero => rfl
  | succ c ih =>
    by_cases h : car c = true
    · rw [jn_t h, pk_un (by omega)]; exact ih
    · rw [jn_f h]; exact ih
/-- the rows that a join has put there -/
theorem jn_ge {car : Nat → Bool} {f a : Nat → Int32} {nw : Nat} : ∀ c j, j < sp_cnt car c → ∃ e, e < c ∧ car e = true ∧ sp_cnt car e = j ∧ jn car f a nw c (nw + j) = f e := by
  intro c
  induction c with
  | zero => intro j hj; exact absurd hj (Nat.not_lt_zero _)
  | succ c ih =>
    intro j hj
    by_cases h : car c = true
    · rw [jn_t h]
      rw [← sp_cnt_t h] at hj
      by_cases hje : j = sp_cnt car c
      · subst hje
        exact ⟨c, by omega, h, rfl, pk_us⟩
      · obtain ⟨e, e1, e2, e3, e4⟩ := ih j (by omega)
        exact ⟨e, by omega, e2, e3, by rw [pk_un (by omega)]; exact e4⟩
    · rw [jn_f h]
      rw [← sp_cnt_f h] at hj
      obtain ⟨e, e1, e2, e3, e4⟩ := ih j hj
      exact ⟨e, by omega, e2, e3, e4⟩
/-- rows that are later than m change nothing at m -/
theorem row_more {wb wm wc wb' wm' wc' : Nat → Int32} {pn : Nat → Nat} {fk : Nat → Int32} {nb nw n' b c : Nat} {m : Int32} (hp : ∀ b, 0 < b → b < nb → pn b < b) (hf : ∀ b, b < nb → 0 ≤ fk b) (hb : b < nb) (hm : 0 ≤ m) (h1 : ∀ i, i < nw → wb' i = wb i ∧ wm' i = wm i ∧ wc' i = wc i) (h2 : ∀ i, nw ≤ i → i < nw + n' → m < wm' i) : sp_row wb' wm' wc' pn fk (nw + n') b m c = sp_row wb wm wc pn fk nw b m c := by
  unfold sp_row
  induction n' with
  | zero =>
    refine sp_last_congr (fun i hi => ?_)
    unfold sp_in
    rw [(h1 i hi).1, (h1 i hi).2.1, (h1 i hi).2.2]
  | succ k ih =>
    rw [← Nat.add_assoc, sp_last_n]
    · exact ih (fun i q1 q2 => h2 i q1 (by omega))
    · unfold sp_in
      have h3 := h2 (nw + k) (by omega) (by omega)
      have h4 := mt_f_le (nb := nb) hp hf b b m ((wb' (nw + k)).toNatClampNeg) hb (Nat.le_refl _) hm
      have h5 : ¬ wm' (nw + k) ≤ mt_f pn fk b b m ((wb' (nw + k)).toNatClampNeg) := fun z => absurd (Int32.le_trans z h4) (Int32.not_le.mpr h3)
      simp [h5]
theorem jo_moS {M M' : am_M} {car : Nat → Bool} {kd vl : Nat → Int32} {pn : Nat → Nat} {nb b nw ck c : Nat} (hS : moS M pn nb nw ck) (h : jo M M' car kd vl b nw ck c) (hb : b < nb) (hc : c ≤ 48) (h120 : nw + sp_cnt car c ≤ 120) : moS M' pn nb (nw + sp_cnt car c) (ck + sp_cnt car c) ∨ 2 ^ 30 ≤ ck + sp_cnt car c := by
  obtain ⟨s1, s2, s3, s4, s5, s6, s7, s8, s9⟩ := hS
  obtain ⟨a1, a2, a3, a4, a5, a6, a7, a8, a9, a10⟩ := h
  by_cases hlt : ck + sp_cnt car c < 2 ^ 30
  · left
    refine ⟨?_, ?_, a4, ⟨h120, ?_⟩, a5, hlt, ?_, ?_, s9⟩
    · rw [a2 3 (by decide) (by decide) (by decide)]; exact s1
    · rw [a1.eq 28 (by decide), a1.eq 29 (by decide)]; exact s2
    · intro i hi
      rw [a6, a8]
      by_cases hin : i < nw
      · rw [jn_lt hin, jn_lt hin]; exact s4.2 i hin
      · obtain ⟨j, rfl⟩ : ∃ j, i = nw + j := ⟨i - nw, by omega⟩
        obtain ⟨e, e1, e2, e3, e4⟩ := jn_ge (car := car) (f := nI) (a := M.1 33) (nw := nw) c j (by omega)
        obtain ⟨e', _, _, _, e4'⟩ := jn_ge (car := car) (f := fun _ => nI b) (a := M.1 31) (nw := nw) c j (by omega)
        exact ⟨⟨b, hb, e4'⟩, ⟨e, by omega, e4⟩⟩
    · intro i hi
      rw [a7]
      by_cases hin : i < nw
      · rw [jn_lt hin]; exact s7 i hin
      · obtain ⟨j, rfl⟩ : ∃ j, i = nw + j := ⟨i - nw, by omega⟩
        obtain ⟨e, e1, e2, e3, e4⟩ := jn_ge (car := car) (f := fun i => nI (ck + sp_cnt car i + 1)) (a := M.1 32) (nw := nw) c j (by omega)
        rw [e4]
        exact nI_pos' (by have := sp_cnt_mono car e c (by omega); omega)
    · rw [a1.eq 28 (by decide)]; exact s8
  · right; omega
theorem jo_row {M M' : am_M} {car : Nat → Bool} {kd vl : Nat → Int32} {pn : Nat → Nat} {nb b b' nw ck c e : Nat} {x : Int32} (hS : moS M pn nb nw ck) (h : jo M M' car kd vl b nw ck c) (hb : b' < nb) (hx : 0 ≤ x) (hx2 : x ≤ nI ck) (hlt : ck + 48 < 2 ^ 30) (hc : c ≤ 48) : mo_row M' pn (nw + sp_cnt car c) b' x e = mo_row M pn nw b' x e := by
  obtain ⟨s1, s2, s3, s4, s5, s6, s7, s8, s9⟩ := hS
  obtain ⟨a1, a2, a3, a4, a5, a6, a7, a8, a9, a10⟩ := h
  unfold mo_row
  rw [a1.eq 29 (by decide), a6, a7, a8]
  refine row_more (nb := nb) s2.2.1 s2.2.2.2 hb hx (fun i hi => ⟨jn_lt hi c, jn_lt hi c, jn_lt hi c⟩) (fun i h1 h2 => ?_)
  obtain ⟨j, rfl⟩ : ∃ j, i = nw + j := ⟨i - nw, by omega⟩
  obtain ⟨e, e1, e2, e3, e4⟩ := jn_ge (car := car) (f := fun i => nI (ck + sp_cnt car i + 1)) (a := M.1 32) (nw := nw) c j (by omega)
  rw [e4]
  have := sp_cnt_le car e
  exact Int32.lt_of_le_of_lt hx2 (nI_lt (by omega) (by omega))
theorem jo_get {car : Nat → Bool} {f a : Nat → Int32} {nw c : Nat} {r : Option Nat} {v : Int32} (hr : ∀ i, r = some i → i < nw) : sp_get (jn car f a nw c) v r = sp_get a v r := by
  cases r with
  | none => rfl
  | some i => exact jn_lt (hr i rfl) c
theorem jo_sr {M M' : am_M} {car : Nat → Bool} {kd vl : Nat → Int32} {b nw ck c : Nat} {r s : Option Nat} (h : jo M M' car kd vl b nw ck c) (hr : ∀ i, r = some i → i < nw) (hs : ∀ i, s = some i → i < nw) : sr (M'.1 34) (M'.1 35) r s = sr (M.1 34) (M.1 35) r s := by
  unfold sr
  rw [h.2.2.2.2.2.2.2.2.1, h.2.2.2.2.2.2.2.2.2, jo_get hr, jo_get hs, jo_get hr, jo_get hs]
set_option maxHeartbeats 2000000 in
theorem q_join {pn : Nat → Nat} {nb nw ck : Nat} {M : am_M} {Q : am_T} (hS : moS M pn nb nw ck) {a e : Int32} (hck : ck + 48 < 2 ^ 30) (hmp : ∀ b d, b < nb → d < nb → 0 ≤ (mo_meet pn (M.1 29) (nI ck) b d) ∧ (mo_meet pn (M.1 29) (nI ck) b d) ≤ nI ck) (h1 : ¬ (ix a nb ∧ ix e nb) → ∀ M', cd M M' 1 → Q (.inl (some (.int 0))) M') (h2 : ∀ b d, b < nb → a = nI b → d < nb → e = nI d → b = d → ∀ M', cd M M' 2 → Q (.inl (some (.int 0))) M') (h3 : ∀ b d, b < nb → a = nI b → d < nb → e = nI d → ¬ b = d → (¬ M.1 30 b = 0 ∨ ¬ M.1 30 d = 0 ∨ (mo_meet pn (M.1 29) (nI ck) b d) < M.1 27 2) → ∀ M', cd M M' 3 → Q (.inl (some (.int 0))) M') (h4 : ∀ b d, b < nb → a = nI b → d < nb → e = nI d → ¬ b = d → M.1 30 b = 0 → M.1 30 d = 0 → M.1 27 2 ≤ (mo_meet pn (M.1 29) (nI ck) b d) → sp_cnt (jcg (M.1 34) (M.1 35) (mo_row M pn nw b (nI ck)) (mo_row M pn nw d (nI ck)) (mo_row M pn nw b (mo_meet pn (M.1 29) (nI ck) b d)) (mo_row M pn nw d (mo_meet pn (M.1 29) (nI ck) b d))) 48 = 0 → 120 < nw + sp_cnt (jca (M.1 34) (M.1 35) (mo_row M pn nw b (nI ck)) (mo_row M pn nw d (nI ck)) (mo_row M pn nw b (mo_meet pn (M.1 29) (nI ck) b d))) 48 → ∀ M', cd M M' 4 → Q (.inl (some (.int 0))) M') (h5 : ∀ b d, b < nb → a = nI b → d < nb → e = nI d → ¬ b = d → M.1 30 b = 0 → M.1 30 d = 0 → M.1 27 2 ≤ (mo_meet pn (M.1 29) (nI ck) b d) → ¬ sp_cnt (jcg (M.1 34) (M.1 35) (mo_row M pn nw b (nI ck)) (mo_row M pn nw d (nI ck)) (mo_row M pn nw b (mo_meet pn (M.1 29) (nI ck) b d)) (mo_row M pn nw d (mo_meet pn (M.1 29) (nI ck) b d))) 48 = 0 → ∀ M', cd M M' 0 → Q (.inl (some (.int (nI (sp_cnt (jcg (M.1 34) (M.1 35) (mo_row M pn nw b (nI ck)) (mo_row M pn nw d (nI ck)) (mo_row M pn nw b (mo_meet pn (M.1 29) (nI ck) b d)) (mo_row M pn nw d (mo_meet pn (M.1 29) (nI ck) b d))) 48))))) M') (h0 : ∀ b d, b < nb → a = nI b → d < nb → e = nI d → ¬ b = d → M.1 30 b = 0 → M.1 30 d = 0 → M.1 27 2 ≤ (mo_meet pn (M.1 29) (nI ck) b d) → sp_cnt (jcg (M.1 34) (M.1 35) (mo_row M pn nw b (nI ck)) (mo_row M pn nw d (nI ck)) (mo_row M pn nw b (mo_meet pn (M.1 29) (nI ck) b d)) (mo_row M pn nw d (mo_meet pn (M.1 29) (nI ck) b d))) 48 = 0 → nw + sp_cnt (jca (M.1 34) (M.1 35) (mo_row M pn nw b (nI ck)) (mo_row M pn nw d (nI ck)) (mo_row M pn nw b (mo_meet pn (M.1 29) (nI ck) b d))) 48 ≤ 120 → ∀ M', jo M M' (jca (M.1 34) (M.1 35) (mo_row M pn nw b (nI ck)) (mo_row M pn nw d (nI ck)) (mo_row M pn nw b (mo_meet pn (M.1 29) (nI ck) b d))) (fun c => sp_get (M.1 34) 0 ((mo_row M pn nw b (nI ck)) c)) (fun c => sp_get (M.1 35) 0 ((mo_row M pn nw b (nI ck)) c)) d nw ck 48 → Q (.inl (some (.int (nI (sp_cnt (jcg (M.1 34) (M.1 35) (mo_row M pn nw b (nI ck)) (mo_row M pn nw d (nI ck)) (mo_row M pn nw b (mo_meet pn (M.1 29) (nI ck) b d)) (mo_row M pn nw d (mo_meet pn (M.1 29) (nI ck) b d))) 48))))) M') : am_W kM_join 0 (am_in kM_join [.ref 27, .int a, .int e]) [] M Q := by
  have hS0 := hS
  obtain ⟨s1, s2, s3, s4, s5, s6, s7, s8, s9⟩ := hS
  have s26 := s2.1
  have s41 := s4.1
  have body : ∀ b d, b < nb → d < nb → ¬ b = d → M.1 30 b = 0 → M.1 30 d = 0 → M.1 27 2 ≤ (mo_meet pn (M.1 29) (nI ck) b d) → ∀ (x7 x8 : Value) (M0 : am_M), cd M M0 0 → a = nI b → e = nI d → am_W kM_join 103 [.ref 27, .int (nI b), .int (nI d), .int (mo_meet pn (M.1 29) (nI ck) b d), .int (nI 0), .int (nI 0), .int (nI 0), x7, x8] [] M0 Q := by
    intro b d hb hd nbd g5 g8 h54 x7 x8 M0 c0 ea ee
    subst ea
    subst ee
    obtain ⟨hm0, hm1⟩ := hmp b d hb hd
    have t0 := moS_cd hS0 c0
    have lo1 := sp_cnt_le (jcg (M.1 34) (M.1 35) (mo_row M pn nw b (nI ck)) (mo_row M pn nw d (nI ck)) (mo_row M pn nw b (mo_meet pn (M.1 29) (nI ck) b d)) (mo_row M pn nw d (mo_meet pn (M.1 29) (nI ck) b d))) 48
    have lo2 := sp_cnt_le (jca (M.1 34) (M.1 35) (mo_row M pn nw b (nI ck)) (mo_row M pn nw d (nI ck)) (mo_row M pn nw b (mo_meet pn (M.1 29) (nI ck) b d))) 48
    have loop2 : ∀ {M1 : am_M}, cd M M1 0 → sp_cnt (jcg (M.1 34) (M.1 35) (mo_row M pn nw b (nI ck)) (mo_row M pn nw d (nI ck)) (mo_row M pn nw b (mo_meet pn (M.1 29) (nI ck) b d)) (mo_row M pn nw d (mo_meet pn (M.1 29) (nI ck) b d))) 48 = 0 → nw + sp_cnt (jca (M.1 34) (M.1 35) (mo_row M pn nw b (nI ck)) (mo_row M pn nw d (nI ck)) (mo_row M pn nw b (mo_meet pn (M.1 29) (nI ck) b d))) 48 ≤ 120 → ∀ (x5 : Int32) (x8 : Value), am_W kM_join 250 [.ref 27, .int (nI b), .int (nI d), .int (mo_meet pn (M.1 29) (nI ck) b d), .int (nI (sp_cnt (jcg (M.1 34) (M.1 35) (mo_row M pn nw b (nI ck)) (mo_row M pn nw d (nI ck)) (mo_row M pn nw b (mo_meet pn (M.1 29) (nI ck) b d)) (mo_row M pn nw d (mo_meet pn (M.1 29) (nI ck) b d))) 48)), .int x5, .int (nI ck), .int (nI 0), x8] [] M1 Q := by
      intro M1 c1 hk hle x5 x8
      have hq : ∀ M', jo M M' (jca (M.1 34) (M.1 35) (mo_row M pn nw b (nI ck)) (mo_row M pn nw d (nI ck)) (mo_row M pn nw b (mo_meet pn (M.1 29) (nI ck) b d))) (fun c => sp_get (M.1 34) 0 ((mo_row M pn nw b (nI ck)) c)) (fun c => sp_get (M.1 35) 0 ((mo_row M pn nw b (nI ck)) c)) d nw ck 48 → Q (.inl (some (.int (nI (sp_cnt (jcg (M.1 34) (M.1 35) (mo_row M pn nw b (nI ck)) (mo_row M pn nw d (nI ck)) (mo_row M pn nw b (mo_meet pn (M.1 29) (nI ck) b d)) (mo_row M pn nw d (mo_meet pn (M.1 29) (nI ck) b d))) 48))))) M' := h0 b d hb rfl hd rfl nbd g5 g8 h54 hk hle
      rw [hk] at hq ⊢
      have L2 : ∀ i, i ≤ 48 → ∀ (x8 : Value) (M1 : am_M), jo M M1 (jca (M.1 34) (M.1 35) (mo_row M pn nw b (nI ck)) (mo_row M pn nw d (nI ck)) (mo_row M pn nw b (mo_meet pn (M.1 29) (nI ck) b d))) (fun c => sp_get (M.1 34) 0 ((mo_row M pn nw b (nI ck)) c)) (fun c => sp_get (M.1 35) 0 ((mo_row M pn nw b (nI ck)) c)) d nw ck i → am_W kM_join 250 [.ref 27, .int (nI b), .int (nI d), .int (mo_meet pn (M.1 29) (nI ck) b d), .int (nI 0), .int x5, .int (nI ck), .int (nI i), x8] [] M1 Q := by
        refine am_loop 48 (fun i hi ih => ?_)
        intro x8 M1 J
        have hcm := sp_cnt_mono (jca (M.1 34) (M.1 35) (mo_row M pn nw b (nI ck)) (mo_row M pn nw d (nI ck)) (mo_row M pn nw b (mo_meet pn (M.1 29) (nI ck) b d))) i 48 hi
        have T : moS M1 pn nb (nw + sp_cnt (jca (M.1 34) (M.1 35) (mo_row M pn nw b (nI ck)) (mo_row M pn nw d (nI ck)) (mo_row M pn nw b (mo_meet pn (M.1 29) (nI ck) b d))) i) (ck + sp_cnt (jca (M.1 34) (M.1 35) (mo_row M pn nw b (nI ck)) (mo_row M pn nw d (nI ck)) (mo_row M pn nw b (mo_meet pn (M.1 29) (nI ck) b d))) i) := (jo_moS hS0 J hd hi (by omega)).resolve_right (by omega)
        have hS := hS0
        refine am_iload d57_250 rfl ?_
        refine am_bipush (nI 48) d57_252 (by decide) ?_
        refine am_icgeN 333 i 48 d57_254 (by decide) rfl rfl (by omega) (by decide) (fun h => ?_) (fun h254 => ?_)
        · obtain rfl : i = 48 := by omega
          refine am_iload d57_333 rfl ?_
          refine am_iret d57_335 rfl rfl ?_
          exact hq M1 J
        · skip
          refine am_iload d57_257 rfl ?_
          refine am_ifne 333 d57_259 (by decide) (fun h => absurd rfl h) (fun _ => ?_)
          refine am_aload_n d57_262 rfl ?_
          refine am_iload_n d57_263 rfl ?_
          refine am_iload d57_264 rfl ?_
          refine am_iload d57_266 rfl ?_
          refine am_cv3 39 d57_268 ml57_75 rfl (by decide) sh_27 rfl rfl rfl rfl (Nat.le_of_ble_eq_true rfl) ?_
          refine m_latest T hb ?_
          rw [jo_row hS0 J hb (nI_pos' (by omega)) (Int32.le_refl _) hck hi]
          show am_W 57 271 _ (.int _ :: _) _ _
          refine am_istore d57_271 (Nat.le_of_ble_eq_true rfl) rfl ?_
          refine am_aload_n d57_273 rfl ?_
          refine am_iload d57_274 rfl ?_
          refine am_aload_n d57_276 rfl ?_
          refine am_iload_n d57_277 rfl ?_
          refine am_iload_n d57_278 rfl ?_
          refine am_iload d57_279 rfl ?_
          refine am_cv3 39 d57_281 ml57_75 rfl (by decide) sh_27 rfl rfl rfl rfl (Nat.le_of_ble_eq_true rfl) ?_
          refine m_latest T hb ?_
          rw [jo_row hS0 J hb hm0 hm1 hck hi]
          show am_W 57 284 _ (.int _ :: _) _ _
          refine am_cv2 42 d57_284 ml57_96 rfl (by decide) sh_27 rfl rfl rfl (Nat.le_of_ble_eq_true rfl) ?_
          refine m_alike (r := (mo_row M pn nw b (nI ck)) i) (s := (mo_row M pn nw b (mo_meet pn (M.1 29) (nI ck) b d)) i) (fun i hi => by have := mo_row_lt hi; omega) (fun i hi => by have := mo_row_lt hi; omega) (fun gs => ?_) (fun gs => ?_)
          · show am_W 57 287 _ (.int 1 :: _) _ _
            rw [jo_sr J (fun i hi => mo_row_lt hi) (fun i hi => mo_row_lt hi)] at gs
            refine am_ifne 327 d57_287 (by decide) (fun _ => ?_) (fun h => absurd h (by decide))
            refine am_incN i d57_327 rfl rfl ?_
            refine am_goto 250 d57_330 (by decide) ?_
            first | exact ih h254 _ _ (jo_t J hin) | exact ih h254 _ _ (jo_f J (fun z => absurd z (by simp [jca, *])))
          · show am_W 57 287 _ (.int 0 :: _) _ _
            rw [jo_sr J (fun i hi => mo_row_lt hi) (fun i hi => mo_row_lt hi)] at gs
            refine am_ifne 327 d57_287 (by decide) (fun h => absurd h (by decide)) (fun _ => ?_)
            refine am_aload_n d57_290 rfl ?_
            refine am_iload d57_291 rfl ?_
            refine am_aload_n d57_293 rfl ?_
            refine am_iload_n d57_294 rfl ?_
            refine am_iload d57_295 rfl ?_
            refine am_iload d57_297 rfl ?_
            refine am_cv3 39 d57_299 ml57_75 rfl (by decide) sh_27 rfl rfl rfl rfl (Nat.le_of_ble_eq_true rfl) ?_
            refine m_latest T hd ?_
            rw [jo_row hS0 J hd (nI_pos' (by omega)) (Int32.le_refl _) hck hi]
            show am_W 57 302 _ (.int _ :: _) _ _
            refine am_cv2 42 d57_302 ml57_96 rfl (by decide) sh_27 rfl rfl rfl (Nat.le_of_ble_eq_true rfl) ?_
            refine m_alike (r := (mo_row M pn nw b (nI ck)) i) (s := (mo_row M pn nw d (nI ck)) i) (fun i hi => by have := mo_row_lt hi; omega) (fun i hi => by have := mo_row_lt hi; omega) (fun gt => ?_) (fun gt => ?_)
            · show am_W 57 305 _ (.int 1 :: _) _ _
              rw [jo_sr J (fun i hi => mo_row_lt hi) (fun i hi => mo_row_lt hi)] at gt
              refine am_ifne 327 d57_305 (by decide) (fun _ => ?_) (fun h => absurd h (by decide))
              refine am_incN i d57_327 rfl rfl ?_
              refine am_goto 250 d57_330 (by decide) ?_
              first | exact ih h254 _ _ (jo_t J hin) | exact ih h254 _ _ (jo_f J (fun z => absurd z (by simp [jca, *])))
            · show am_W 57 305 _ (.int 0 :: _) _ _
              rw [jo_sr J (fun i hi => mo_row_lt hi) (fun i hi => mo_row_lt hi)] at gt
              have hin : (jca (M.1 34) (M.1 35) (mo_row M pn nw b (nI ck)) (mo_row M pn nw d (nI ck)) (mo_row M pn nw b (mo_meet pn (M.1 29) (nI ck) b d))) i = true := by simp [jca, gs, gt]
              refine am_ifne 327 d57_305 (by decide) (fun h => absurd h (by decide)) (fun _ => ?_)
              refine am_aload_n d57_308 rfl ?_
              refine am_iload_n d57_309 rfl ?_
              refine am_iload d57_310 rfl ?_
              refine am_aload_n d57_312 rfl ?_
              refine am_iload d57_313 rfl ?_
              refine am_cv1 40 d57_315 ml57_65 rfl (by decide) sh_27 rfl rfl (Nat.le_of_ble_eq_true rfl) ?_
              refine m_kindOf (r := (mo_row M pn nw b (nI ck)) i) (fun i hi => by have := mo_row_lt hi; omega) ?_
              rw [J.2.2.2.2.2.2.2.2.1, jo_get (fun i hi => mo_row_lt hi)]
              show am_W 57 318 _ (.int _ :: _) _ _
              refine am_aload_n d57_318 rfl ?_
              refine am_iload d57_319 rfl ?_
              refine am_cv1 41 d57_321 ml57_68 rfl (by decide) sh_27 rfl rfl (Nat.le_of_ble_eq_true rfl) ?_
              refine m_valueOf (r := (mo_row M pn nw b (nI ck)) i) (fun i hi => by have := mo_row_lt hi; omega) ?_
              rw [J.2.2.2.2.2.2.2.2.2, jo_get (fun i hi => mo_row_lt hi)]
              show am_W 57 324 _ (.int _ :: _) _ _
              refine am_cv4 47 d57_324 ml57_89 rfl (by decide) sh_27 rfl rfl rfl rfl rfl (Nat.le_of_ble_eq_true rfl) ?_
              refine m_enter (nw := nw + sp_cnt (jca (M.1 34) (M.1 35) (mo_row M pn nw b (nI ck)) (mo_row M pn nw d (nI ck)) (mo_row M pn nw b (mo_meet pn (M.1 29) (nI ck) b d))) i) (ck := ck + sp_cnt (jca (M.1 34) (M.1 35) (mo_row M pn nw b (nI ck)) (mo_row M pn nw d (nI ck)) (mo_row M pn nw b (mo_meet pn (M.1 29) (nI ck) b d))) i) J.2.2.2.1 J.2.2.2.2.1 (by have q1 := sp_cnt_t hin; have q2 := sp_cnt_mono (jca (M.1 34) (M.1 35) (mo_row M pn nw b (nI ck)) (mo_row M pn nw d (nI ck)) (mo_row M pn nw b (mo_meet pn (M.1 29) (nI ck) b d))) (i + 1) 48 (by omega); omega) ?_
              show am_W 57 327 _ _ _ _
              refine am_incN i d57_327 rfl rfl ?_
              refine am_goto 250 d57_330 (by decide) ?_
              first | exact ih h254 _ _ (jo_t J hin) | exact ih h254 _ _ (jo_f J (fun z => absurd z (by simp [jca, *])))
      exact L2 0 (by decide) _ _ ⟨c1.1.wk (by simp), fun s q0 q1 q7 => c1.2.1 s q0, c1.2.2, (c1.2.1 7 (by decide)).trans s3, (c1.2.1 1 (by decide)).trans s5, c1.1.eq 31 (by decide), c1.1.eq 32 (by decide), c1.1.eq 33 (by decide), c1.1.eq 34 (by decide), c1.1.eq 35 (by decide)⟩
    have conf : ∀ {M1 : am_M}, cd M M1 0 → ¬ sp_cnt (jcg (M.1 34) (M.1 35) (mo_row M pn nw b (nI ck)) (mo_row M pn nw d (nI ck)) (mo_row M pn nw b (mo_meet pn (M.1 29) (nI ck) b d)) (mo_row M pn nw d (mo_meet pn (M.1 29) (nI ck) b d))) 48 = 0 → ∀ (x5 x6 : Int32) (x7 x8 : Value), x7 = .int (nI 0) → am_W kM_join 250 [.ref 27, .int (nI b), .int (nI d), .int (mo_meet pn (M.1 29) (nI ck) b d), .int (nI (sp_cnt (jcg (M.1 34) (M.1 35) (mo_row M pn nw b (nI ck)) (mo_row M pn nw d (nI ck)) (mo_row M pn nw b (mo_meet pn (M.1 29) (nI ck) b d)) (mo_row M pn nw d (mo_meet pn (M.1 29) (nI ck) b d))) 48)), .int x5, .int x6, x7, x8] [] M1 Q := by
      intro M1 c1 hk x5 x6 x7 x8 e7
      subst e7
      refine am_iload d57_250 rfl ?_
      refine am_bipush (nI 48) d57_252 (by decide) ?_
      refine am_icgeN 333 0 48 d57_254 (by decide) rfl rfl (by omega) (by decide) (fun h => absurd h (by decide)) (fun _ => ?_)
      refine am_iload d57_257 rfl ?_
      refine am_ifne 333 d57_259 (by decide) (fun _ => ?_) (fun h => absurd ((nI_eq (by omega) (by decide)).mp h) hk)
      refine am_iload d57_333 rfl ?_
      exact am_iret d57_335 rfl rfl (h5 b d hb rfl hd rfl nbd g5 g8 h54 hk _ c1)
    have fin : ∀ (x6 : Int32) (x7 x8 : Value) (M0 : am_M), cd M M0 0 → am_W kM_join 206 [.ref 27, .int (nI b), .int (nI d), .int (mo_meet pn (M.1 29) (nI ck) b d), .int (nI (sp_cnt (jcg (M.1 34) (M.1 35) (mo_row M pn nw b (nI ck)) (mo_row M pn nw d (nI ck)) (mo_row M pn nw b (mo_meet pn (M.1 29) (nI ck) b d)) (mo_row M pn nw d (mo_meet pn (M.1 29) (nI ck) b d))) 48)), .int (nI (sp_cnt (jca (M.1 34) (M.1 35) (mo_row M pn nw b (nI ck)) (mo_row M pn nw d (nI ck)) (mo_row M pn nw b (mo_meet pn (M.1 29) (nI ck) b d))) 48)), .int x6, x7, x8] [] M0 Q := by
      intro x6 x7 x8 M0 c0
      refine am_aload_n d57_206 rfl ?_
      refine am_iload d57_207 rfl ?_
      refine am_ifne 228 d57_209 (by decide) (fun h => ?_) (fun h => ?_)
      · have hk : ¬ sp_cnt (jcg (M.1 34) (M.1 35) (mo_row M pn nw b (nI ck)) (mo_row M pn nw d (nI ck)) (mo_row M pn nw b (mo_meet pn (M.1 29) (nI ck) b d)) (mo_row M pn nw d (mo_meet pn (M.1 29) (nI ck) b d))) 48 = 0 := fun z => h (by rw [z]; rfl)
        refine am_iconst 0 d57_228 (by decide) ?_
        refine am_put d57_229 fl57_45 sh_27 rfl rfl rfl rfl ?_
        refine am_aload_n d57_232 rfl ?_
        refine am_geti d57_233 fl57_45 sh_27 rfl ?_
        show am_W 57 236 _ (.int 0 :: _) _ _
        refine am_ifle 241 d57_236 (by decide) (fun _ => ?_) (fun h => absurd h (by decide))
        refine am_aload_n d57_241 rfl ?_
        refine am_geti d57_242 fl57_55 sh_27 rfl ?_
        show am_W 57 245 _ (.int (M0.1 27 1) :: _) _ _
        rw [c0.2.1 1 (by decide), s5]
        refine am_istore d57_245 (Nat.le_of_ble_eq_true rfl) rfl ?_
        refine am_iconst (nI 0) d57_247 (by decide) ?_
        refine am_istore d57_248 (Nat.le_of_ble_eq_true rfl) rfl ?_
        first | exact loop2 (cd.tr c0 0) hk hle _ _ | exact conf (cd.tr c0 0) hk _ _ _ _ rfl
      · have hk : sp_cnt (jcg (M.1 34) (M.1 35) (mo_row M pn nw b (nI ck)) (mo_row M pn nw d (nI ck)) (mo_row M pn nw b (mo_meet pn (M.1 29) (nI ck) b d)) (mo_row M pn nw d (mo_meet pn (M.1 29) (nI ck) b d))) 48 = 0 := (nI_eq (by omega) (by decide)).mp h
        refine am_aload_n d57_212 rfl ?_
        refine am_geti d57_213 fl57_58 sh_27 rfl ?_
        rw [c0.2.1 7 (by decide), s3]
        refine am_iload d57_216 rfl ?_
        refine am_addN d57_218 ?_
        refine am_bipush (nI 120) d57_219 (by decide) ?_
        refine am_icle 228 d57_221 (by decide) (fun h => ?_) (fun h => ?_)
        · have hle : nw + sp_cnt (jca (M.1 34) (M.1 35) (mo_row M pn nw b (nI ck)) (mo_row M pn nw d (nI ck)) (mo_row M pn nw b (mo_meet pn (M.1 29) (nI ck) b d))) 48 ≤ 120 := (nI_leI (by omega) (by decide)).mp h
          refine am_iconst 0 d57_228 (by decide) ?_
          refine am_put d57_229 fl57_45 sh_27 rfl rfl rfl rfl ?_
          refine am_aload_n d57_232 rfl ?_
          refine am_geti d57_233 fl57_45 sh_27 rfl ?_
          show am_W 57 236 _ (.int 0 :: _) _ _
          refine am_ifle 241 d57_236 (by decide) (fun _ => ?_) (fun h => absurd h (by decide))
          refine am_aload_n d57_241 rfl ?_
          refine am_geti d57_242 fl57_55 sh_27 rfl ?_
          show am_W 57 245 _ (.int (M0.1 27 1) :: _) _ _
          rw [c0.2.1 1 (by decide), s5]
          refine am_istore d57_245 (Nat.le_of_ble_eq_true rfl) rfl ?_
          refine am_iconst (nI 0) d57_247 (by decide) ?_
          refine am_istore d57_248 (Nat.le_of_ble_eq_true rfl) rfl ?_
          first | exact loop2 (cd.tr c0 0) hk hle _ _ | exact conf (cd.tr c0 0) hk _ _ _ _ rfl
        · have hle : ¬ nw + sp_cnt (jca (M.1 34) (M.1 35) (mo_row M pn nw b (nI ck)) (mo_row M pn nw d (nI ck)) (mo_row M pn nw b (mo_meet pn (M.1 29) (nI ck) b d))) 48 ≤ 120 := fun z => h (nI_le z (by decide))
          refine am_iconst 4 d57_224 (by decide) ?_
          refine am_goto 229 d57_225 (by decide) ?_
          refine am_put d57_229 fl57_45 sh_27 rfl rfl rfl rfl ?_
          refine am_aload_n d57_232 rfl ?_
          refine am_geti d57_233 fl57_45 sh_27 rfl ?_
          show am_W 57 236 _ (.int 4 :: _) _ _
          refine am_ifle 241 d57_236 (by decide) (fun h => absurd h (by decide)) (fun _ => ?_)
          refine am_iconst 0 d57_239 (by decide) ?_
          refine am_iret d57_240 rfl rfl ?_
          exact h4 b d hb rfl hd rfl nbd g5 g8 h54 hk (by omega) _ (cd.tr c0 4)
    have L1 : ∀ i, i ≤ 48 → ∀ (x7 x8 : Value) (M0 : am_M), cd M M0 0 → moS M0 pn nb nw ck → am_W kM_join 103 [.ref 27, .int (nI b), .int (nI d), .int (mo_meet pn (M.1 29) (nI ck) b d), .int (nI (sp_cnt (jcg (M.1 34) (M.1 35) (mo_row M pn nw b (nI ck)) (mo_row M pn nw d (nI ck)) (mo_row M pn nw b (mo_meet pn (M.1 29) (nI ck) b d)) (mo_row M pn nw d (mo_meet pn (M.1 29) (nI ck) b d))) i)), .int (nI (sp_cnt (jca (M.1 34) (M.1 35) (mo_row M pn nw b (nI ck)) (mo_row M pn nw d (nI ck)) (mo_row M pn nw b (mo_meet pn (M.1 29) (nI ck) b d))) i)), .int (nI i), x7, x8] [] M0 Q := by
      refine am_loop 48 (fun i hi ih => ?_)
      intro x7 x8 M0 c0 t0
      refine am_iload d57_103 rfl ?_
      refine am_bipush (nI 48) d57_105 (by decide) ?_
      refine am_icgeN 206 i 48 d57_107 (by decide) rfl rfl (by omega) (by decide) (fun h => ?_) (fun h107 => ?_)
      · obtain rfl : i = 48 := by omega
        exact fin _ _ _ _ c0
      · skip
        refine am_aload_n d57_110 rfl ?_
        refine am_iload_n d57_111 rfl ?_
        refine am_iload d57_112 rfl ?_
        refine am_iload_n d57_114 rfl ?_
        refine am_cv3 56 d57_115 ml57_109 rfl (by decide) sh_27 rfl rfl rfl rfl (Nat.le_of_ble_eq_true rfl) ?_
        refine m_changed t0 hb (fun gc => ?_) (fun gc => ?_)
        · show am_W 57 118 _ (.int 1 :: _) _ _
          rw [c0.1.eq 34 (by decide), c0.1.eq 35 (by decide), mo_row_cd c0, mo_row_cd c0] at gc
          refine am_ifeq 154 d57_118 (by decide) (fun h => absurd h (by decide)) (fun _ => ?_)
          refine am_aload_n d57_121 rfl ?_
          refine am_aload_n d57_122 rfl ?_
          refine am_iload_n d57_123 rfl ?_
          refine am_aload_n d57_124 rfl ?_
          refine am_geti d57_125 fl57_55 sh_27 rfl ?_
          rw [t0.2.2.2.2.1]
          refine am_iload d57_128 rfl ?_
          refine am_cv3 39 d57_130 ml57_75 rfl (by decide) sh_27 rfl rfl rfl rfl (Nat.le_of_ble_eq_true rfl) ?_
          refine m_latest t0 hb ?_
          rw [mo_row_cd c0]
          show am_W 57 133 _ (.int _ :: _) _ _
          refine am_aload_n d57_133 rfl ?_
          refine am_iload_n d57_134 rfl ?_
          refine am_aload_n d57_135 rfl ?_
          refine am_geti d57_136 fl57_55 sh_27 rfl ?_
          rw [t0.2.2.2.2.1]
          refine am_iload d57_139 rfl ?_
          refine am_cv3 39 d57_141 ml57_75 rfl (by decide) sh_27 rfl rfl rfl rfl (Nat.le_of_ble_eq_true rfl) ?_
          refine m_latest t0 hd ?_
          rw [mo_row_cd c0]
          show am_W 57 144 _ (.int _ :: _) _ _
          refine am_cv2 42 d57_144 ml57_96 rfl (by decide) sh_27 rfl rfl rfl (Nat.le_of_ble_eq_true rfl) ?_
          refine m_alike (r := (mo_row M pn nw b (nI ck)) i) (s := (mo_row M pn nw d (nI ck)) i) (fun i hi => by have := mo_row_lt hi; omega) (fun i hi => by have := mo_row_lt hi; omega) (fun gt => ?_) (fun gt => ?_)
          · show am_W 57 147 _ (.int 1 :: _) _ _
            rw [c0.1.eq 34 (by decide), c0.1.eq 35 (by decide)] at gt
            refine am_ifne 154 d57_147 (by decide) (fun _ => ?_) (fun h => absurd h (by decide))
            refine am_iconst 0 d57_154 (by decide) ?_
            refine am_istore d57_155 (Nat.le_of_ble_eq_true rfl) rfl ?_
            refine am_iload d57_157 rfl ?_
            refine am_ifeq 169 d57_159 (by decide) (fun _ => ?_) (fun h => absurd h (by decide))
            refine am_iload d57_169 rfl ?_
            refine am_istore d57_171 (Nat.le_of_ble_eq_true rfl) rfl ?_
            refine am_iload d57_173 rfl ?_
            refine am_ifeq 196 d57_175 (by decide) (fun _ => ?_) (fun h => absurd h (by decide))
            refine am_iload d57_196 rfl ?_
            refine am_istore d57_198 (Nat.le_of_ble_eq_true rfl) rfl ?_
            refine am_incN i d57_200 rfl rfl ?_
            refine am_goto 103 d57_203 (by decide) ?_
            have hz := ih h107
            first | (have q1 : (jca (M.1 34) (M.1 35) (mo_row M pn nw b (nI ck)) (mo_row M pn nw d (nI ck)) (mo_row M pn nw b (mo_meet pn (M.1 29) (nI ck) b d))) i = true := by simp [jca, *]) | (have q1 : ¬ (jca (M.1 34) (M.1 35) (mo_row M pn nw b (nI ck)) (mo_row M pn nw d (nI ck)) (mo_row M pn nw b (mo_meet pn (M.1 29) (nI ck) b d))) i = true := by simp [jca, *])
            first | (have q2 : (jcg (M.1 34) (M.1 35) (mo_row M pn nw b (nI ck)) (mo_row M pn nw d (nI ck)) (mo_row M pn nw b (mo_meet pn (M.1 29) (nI ck) b d)) (mo_row M pn nw d (mo_meet pn (M.1 29) (nI ck) b d))) i = true := by simp [jcg, *]) | (have q2 : ¬ (jcg (M.1 34) (M.1 35) (mo_row M pn nw b (nI ck)) (mo_row M pn nw d (nI ck)) (mo_row M pn nw b (mo_meet pn (M.1 29) (nI ck) b d)) (mo_row M pn nw d (mo_meet pn (M.1 29) (nI ck) b d))) i = true := by simp [jcg, *])
            first | rw [← sp_cnt_t q1] at hz | rw [← sp_cnt_f q1] at hz
            first | rw [← sp_cnt_t q2] at hz | rw [← sp_cnt_f q2] at hz
            exact hz _ _ M0 c0 t0
          · show am_W 57 147 _ (.int 0 :: _) _ _
            rw [c0.1.eq 34 (by decide), c0.1.eq 35 (by decide)] at gt
            refine am_ifne 154 d57_147 (by decide) (fun h => absurd h (by decide)) (fun _ => ?_)
            refine am_iconst 1 d57_150 (by decide) ?_
            refine am_goto 155 d57_151 (by decide) ?_
            refine am_istore d57_155 (Nat.le_of_ble_eq_true rfl) rfl ?_
            refine am_iload d57_157 rfl ?_
            refine am_ifeq 169 d57_159 (by decide) (fun h => absurd h (by decide)) (fun _ => ?_)
            refine am_iload d57_162 rfl ?_
            refine am_iconst (nI 1) d57_164 (by decide) ?_
            refine am_addN d57_165 ?_
            refine am_goto 171 d57_166 (by decide) ?_
            refine am_istore d57_171 (Nat.le_of_ble_eq_true rfl) rfl ?_
            refine am_iload d57_173 rfl ?_
            refine am_ifeq 196 d57_175 (by decide) (fun h => absurd h (by decide)) (fun _ => ?_)
            refine am_aload_n d57_178 rfl ?_
            refine am_iload_n d57_179 rfl ?_
            refine am_iload d57_180 rfl ?_
            refine am_iload_n d57_182 rfl ?_
            refine am_cv3 56 d57_183 ml57_109 rfl (by decide) sh_27 rfl rfl rfl rfl (Nat.le_of_ble_eq_true rfl) ?_
            refine m_changed t0 hd (fun ge => ?_) (fun ge => ?_)
            · show am_W 57 186 _ (.int 1 :: _) _ _
              rw [c0.1.eq 34 (by decide), c0.1.eq 35 (by decide), mo_row_cd c0, mo_row_cd c0] at ge
              refine am_ifeq 196 d57_186 (by decide) (fun h => absurd h (by decide)) (fun _ => ?_)
              refine am_iload d57_189 rfl ?_
              refine am_iconst (nI 1) d57_191 (by decide) ?_
              refine am_addN d57_192 ?_
              refine am_goto 198 d57_193 (by decide) ?_
              refine am_istore d57_198 (Nat.le_of_ble_eq_true rfl) rfl ?_
              refine am_incN i d57_200 rfl rfl ?_
              refine am_goto 103 d57_203 (by decide) ?_
              have hz := ih h107
              first | (have q1 : (jca (M.1 34) (M.1 35) (mo_row M pn nw b (nI ck)) (mo_row M pn nw d (nI ck)) (mo_row M pn nw b (mo_meet pn (M.1 29) (nI ck) b d))) i = true := by simp [jca, *]) | (have q1 : ¬ (jca (M.1 34) (M.1 35) (mo_row M pn nw b (nI ck)) (mo_row M pn nw d (nI ck)) (mo_row M pn nw b (mo_meet pn (M.1 29) (nI ck) b d))) i = true := by simp [jca, *])
              first | (have q2 : (jcg (M.1 34) (M.1 35) (mo_row M pn nw b (nI ck)) (mo_row M pn nw d (nI ck)) (mo_row M pn nw b (mo_meet pn (M.1 29) (nI ck) b d)) (mo_row M pn nw d (mo_meet pn (M.1 29) (nI ck) b d))) i = true := by simp [jcg, *]) | (have q2 : ¬ (jcg (M.1 34) (M.1 35) (mo_row M pn nw b (nI ck)) (mo_row M pn nw d (nI ck)) (mo_row M pn nw b (mo_meet pn (M.1 29) (nI ck) b d)) (mo_row M pn nw d (mo_meet pn (M.1 29) (nI ck) b d))) i = true := by simp [jcg, *])
              first | rw [← sp_cnt_t q1] at hz | rw [← sp_cnt_f q1] at hz
              first | rw [← sp_cnt_t q2] at hz | rw [← sp_cnt_f q2] at hz
              exact hz _ _ M0 c0 t0
            · show am_W 57 186 _ (.int 0 :: _) _ _
              rw [c0.1.eq 34 (by decide), c0.1.eq 35 (by decide), mo_row_cd c0, mo_row_cd c0] at ge
              refine am_ifeq 196 d57_186 (by decide) (fun _ => ?_) (fun h => absurd h (by decide))
              refine am_iload d57_196 rfl ?_
              refine am_istore d57_198 (Nat.le_of_ble_eq_true rfl) rfl ?_
              refine am_incN i d57_200 rfl rfl ?_
              refine am_goto 103 d57_203 (by decide) ?_
              have hz := ih h107
              first | (have q1 : (jca (M.1 34) (M.1 35) (mo_row M pn nw b (nI ck)) (mo_row M pn nw d (nI ck)) (mo_row M pn nw b (mo_meet pn (M.1 29) (nI ck) b d))) i = true := by simp [jca, *]) | (have q1 : ¬ (jca (M.1 34) (M.1 35) (mo_row M pn nw b (nI ck)) (mo_row M pn nw d (nI ck)) (mo_row M pn nw b (mo_meet pn (M.1 29) (nI ck) b d))) i = true := by simp [jca, *])
              first | (have q2 : (jcg (M.1 34) (M.1 35) (mo_row M pn nw b (nI ck)) (mo_row M pn nw d (nI ck)) (mo_row M pn nw b (mo_meet pn (M.1 29) (nI ck) b d)) (mo_row M pn nw d (mo_meet pn (M.1 29) (nI ck) b d))) i = true := by simp [jcg, *]) | (have q2 : ¬ (jcg (M.1 34) (M.1 35) (mo_row M pn nw b (nI ck)) (mo_row M pn nw d (nI ck)) (mo_row M pn nw b (mo_meet pn (M.1 29) (nI ck) b d)) (mo_row M pn nw d (mo_meet pn (M.1 29) (nI ck) b d))) i = true := by simp [jcg, *])
              first | rw [← sp_cnt_t q1] at hz | rw [← sp_cnt_f q1] at hz
              first | rw [← sp_cnt_t q2] at hz | rw [← sp_cnt_f q2] at hz
              exact hz _ _ M0 c0 t0
        · show am_W 57 118 _ (.int 0 :: _) _ _
          rw [c0.1.eq 34 (by decide), c0.1.eq 35 (by decide), mo_row_cd c0, mo_row_cd c0] at gc
          refine am_ifeq 154 d57_118 (by decide) (fun _ => ?_) (fun h => absurd h (by decide))
          refine am_iconst 0 d57_154 (by decide) ?_
          refine am_istore d57_155 (Nat.le_of_ble_eq_true rfl) rfl ?_
          refine am_iload d57_157 rfl ?_
          refine am_ifeq 169 d57_159 (by decide) (fun _ => ?_) (fun h => absurd h (by decide))
          refine am_iload d57_169 rfl ?_
          refine am_istore d57_171 (Nat.le_of_ble_eq_true rfl) rfl ?_
          refine am_iload d57_173 rfl ?_
          refine am_ifeq 196 d57_175 (by decide) (fun _ => ?_) (fun h => absurd h (by decide))
          refine am_iload d57_196 rfl ?_
          refine am_istore d57_198 (Nat.le_of_ble_eq_true rfl) rfl ?_
          refine am_incN i d57_200 rfl rfl ?_
          refine am_goto 103 d57_203 (by decide) ?_
          have hz := ih h107
          first | (have q1 : (jca (M.1 34) (M.1 35) (mo_row M pn nw b (nI ck)) (mo_row M pn nw d (nI ck)) (mo_row M pn nw b (mo_meet pn (M.1 29) (nI ck) b d))) i = true := by simp [jca, *]) | (have q1 : ¬ (jca (M.1 34) (M.1 35) (mo_row M pn nw b (nI ck)) (mo_row M pn nw d (nI ck)) (mo_row M pn nw b (mo_meet pn (M.1 29) (nI ck) b d))) i = true := by simp [jca, *])
          first | (have q2 : (jcg (M.1 34) (M.1 35) (mo_row M pn nw b (nI ck)) (mo_row M pn nw d (nI ck)) (mo_row M pn nw b (mo_meet pn (M.1 29) (nI ck) b d)) (mo_row M pn nw d (mo_meet pn (M.1 29) (nI ck) b d))) i = true := by simp [jcg, *]) | (have q2 : ¬ (jcg (M.1 34) (M.1 35) (mo_row M pn nw b (nI ck)) (mo_row M pn nw d (nI ck)) (mo_row M pn nw b (mo_meet pn (M.1 29) (nI ck) b d)) (mo_row M pn nw d (mo_meet pn (M.1 29) (nI ck) b d))) i = true := by simp [jcg, *])
          first | rw [← sp_cnt_t q1] at hz | rw [← sp_cnt_f q1] at hz
          first | rw [← sp_cnt_t q2] at hz | rw [← sp_cnt_f q2] at hz
          exact hz _ _ M0 c0 t0
    exact L1 0 (by decide) x7 x8 M0 c0 t0
  show am_W kM_join 0 _ [] M Q
  refine am_aload_n d57_0 rfl ?_
  refine am_aload_n d57_1 rfl ?_
  refine am_iload_n d57_2 rfl ?_
  refine am_cv1 34 d57_3 ml57_79 rfl (by decide) sh_27 rfl rfl (Nat.le_of_ble_eq_true rfl) ?_
  refine m_noBranch hS0 (fun g1 => ?_) (fun g1 => ?_)
  · show am_W 57 6 _ (.int 1 :: _) _ _
    refine am_ifne 17 d57_6 (by decide) (fun _ => ?_) (fun h => absurd h (by decide))
    refine am_iconst 1 d57_17 (by decide) ?_
    refine am_goto 31 d57_18 (by decide) ?_
    refine am_put d57_31 fl57_45 sh_27 rfl rfl rfl rfl ?_
    refine am_aload_n d57_34 rfl ?_
    refine am_geti d57_35 fl57_45 sh_27 rfl ?_
    show am_W 57 38 _ (.int 1 :: _) _ _
    refine am_ifle 43 d57_38 (by decide) (fun h => absurd h (by decide)) (fun _ => ?_)
    refine am_iconst 0 d57_41 (by decide) ?_
    refine am_iret d57_42 rfl rfl ?_
    first | exact h3 b d hb rfl hd rfl nbd (Or.inr (Or.inr (Int32.not_le.mp h74))) _ (cd.tr (cd_0 M 0) 3) | exact h3 b d hb rfl hd rfl nbd (Or.inr (Or.inl h66)) _ (cd.tr (cd_0 M 0) 3) | exact h3 b d hb rfl hd rfl nbd (Or.inl h57) _ (cd.tr (cd_0 M 0) 3) | exact h2 b d hb rfl hd rfl ebd _ (cd_0 M _) | exact h1 (fun z => g2 z.2) _ (cd_0 M _) | exact h1 (fun z => g1 z.1) _ (cd_0 M _)
  · show am_W 57 6 _ (.int 0 :: _) _ _
    obtain ⟨b, hb, rfl⟩ := g1
    refine am_ifne 17 d57_6 (by decide) (fun h => absurd h (by decide)) (fun _ => ?_)
    refine am_aload_n d57_9 rfl ?_
    refine am_iload_n d57_10 rfl ?_
    refine am_cv1 34 d57_11 ml57_79 rfl (by decide) sh_27 rfl rfl (Nat.le_of_ble_eq_true rfl) ?_
    refine m_noBranch hS0 (fun g2 => ?_) (fun g2 => ?_)
    · show am_W 57 14 _ (.int 1 :: _) _ _
      refine am_ifeq 21 d57_14 (by decide) (fun h => absurd h (by decide)) (fun _ => ?_)
      refine am_iconst 1 d57_17 (by decide) ?_
      refine am_goto 31 d57_18 (by decide) ?_
      refine am_put d57_31 fl57_45 sh_27 rfl rfl rfl rfl ?_
      refine am_aload_n d57_34 rfl ?_
      refine am_geti d57_35 fl57_45 sh_27 rfl ?_
      show am_W 57 38 _ (.int 1 :: _) _ _
      refine am_ifle 43 d57_38 (by decide) (fun h => absurd h (by decide)) (fun _ => ?_)
      refine am_iconst 0 d57_41 (by decide) ?_
      refine am_iret d57_42 rfl rfl ?_
      first | exact h3 b d hb rfl hd rfl nbd (Or.inr (Or.inr (Int32.not_le.mp h74))) _ (cd.tr (cd_0 M 0) 3) | exact h3 b d hb rfl hd rfl nbd (Or.inr (Or.inl h66)) _ (cd.tr (cd_0 M 0) 3) | exact h3 b d hb rfl hd rfl nbd (Or.inl h57) _ (cd.tr (cd_0 M 0) 3) | exact h2 b d hb rfl hd rfl ebd _ (cd_0 M _) | exact h1 (fun z => g2 z.2) _ (cd_0 M _) | exact h1 (fun z => g1 z.1) _ (cd_0 M _)
    · show am_W 57 14 _ (.int 0 :: _) _ _
      obtain ⟨d, hd, rfl⟩ := g2
      refine am_ifeq 21 d57_14 (by decide) (fun _ => ?_) (fun h => absurd h (by decide))
      refine am_iload_n d57_21 rfl ?_
      refine am_iload_n d57_22 rfl ?_
      refine am_icne 30 d57_23 (by decide) (fun h => ?_) (fun h => ?_)
      · have nbd : ¬ b = d := fun z => h (by rw [z])
        refine am_iconst 0 d57_30 (by decide) ?_
        refine am_put d57_31 fl57_45 sh_27 rfl rfl rfl rfl ?_
        refine am_aload_n d57_34 rfl ?_
        refine am_geti d57_35 fl57_45 sh_27 rfl ?_
        show am_W 57 38 _ (.int 0 :: _) _ _
        refine am_ifle 43 d57_38 (by decide) (fun _ => ?_) (fun h => absurd h (by decide))
        refine am_aload_n d57_43 rfl ?_
        refine am_iload_n d57_44 rfl ?_
        refine am_iload_n d57_45 rfl ?_
        refine am_cv2 54 d57_46 ml57_106 rfl (by decide) sh_27 rfl rfl rfl (Nat.le_of_ble_eq_true rfl) ?_
        refine m_meet (moS_cd hS0 (cd_0 M 0)) hb hd ?_
        show am_W 57 49 _ (.int _ :: _) _ _
        refine am_istore_n d57_49 (Nat.le_of_ble_eq_true rfl) rfl ?_
        refine am_aload_n d57_50 rfl ?_
        refine am_aload_n d57_51 rfl ?_
        refine am_getr d57_52 fl57_20 sh_27 rfl ?_
        refine am_iload_n d57_55 rfl ?_
        refine am_zaldN b d57_56 sh_30 (by omega) (by decide) ?_
        refine am_ifne 77 d57_57 (by decide) (fun h57 => ?_) (fun h57 => ?_)
        · refine am_iconst 3 d57_77 (by decide) ?_
          refine am_goto 82 d57_78 (by decide) ?_
          refine am_put d57_82 fl57_45 sh_27 rfl rfl rfl rfl ?_
          refine am_aload_n d57_85 rfl ?_
          refine am_geti d57_86 fl57_45 sh_27 rfl ?_
          show am_W 57 89 _ (.int 3 :: _) _ _
          refine am_ifle 94 d57_89 (by decide) (fun h => absurd h (by decide)) (fun _ => ?_)
          refine am_iconst 0 d57_92 (by decide) ?_
          refine am_iret d57_93 rfl rfl ?_
          first | exact h3 b d hb rfl hd rfl nbd (Or.inr (Or.inr (Int32.not_le.mp h74))) _ (cd.tr (cd_0 M 0) 3) | exact h3 b d hb rfl hd rfl nbd (Or.inr (Or.inl h66)) _ (cd.tr (cd_0 M 0) 3) | exact h3 b d hb rfl hd rfl nbd (Or.inl h57) _ (cd.tr (cd_0 M 0) 3) | exact h2 b d hb rfl hd rfl ebd _ (cd_0 M _) | exact h1 (fun z => g2 z.2) _ (cd_0 M _) | exact h1 (fun z => g1 z.1) _ (cd_0 M _)
        · refine am_aload_n d57_60 rfl ?_
          refine am_getr d57_61 fl57_20 sh_27 rfl ?_
          refine am_iload_n d57_64 rfl ?_
          refine am_zaldN d d57_65 sh_30 (by omega) (by decide) ?_
          refine am_ifne 77 d57_66 (by decide) (fun h66 => ?_) (fun h66 => ?_)
          · refine am_iconst 3 d57_77 (by decide) ?_
            refine am_goto 82 d57_78 (by decide) ?_
            refine am_put d57_82 fl57_45 sh_27 rfl rfl rfl rfl ?_
            refine am_aload_n d57_85 rfl ?_
            refine am_geti d57_86 fl57_45 sh_27 rfl ?_
            show am_W 57 89 _ (.int 3 :: _) _ _
            refine am_ifle 94 d57_89 (by decide) (fun h => absurd h (by decide)) (fun _ => ?_)
            refine am_iconst 0 d57_92 (by decide) ?_
            refine am_iret d57_93 rfl rfl ?_
            first | exact h3 b d hb rfl hd rfl nbd (Or.inr (Or.inr (Int32.not_le.mp h74))) _ (cd.tr (cd_0 M 0) 3) | exact h3 b d hb rfl hd rfl nbd (Or.inr (Or.inl h66)) _ (cd.tr (cd_0 M 0) 3) | exact h3 b d hb rfl hd rfl nbd (Or.inl h57) _ (cd.tr (cd_0 M 0) 3) | exact h2 b d hb rfl hd rfl ebd _ (cd_0 M _) | exact h1 (fun z => g2 z.2) _ (cd_0 M _) | exact h1 (fun z => g1 z.1) _ (cd_0 M _)
          · refine am_iload_n d57_69 rfl ?_
            refine am_aload_n d57_70 rfl ?_
            refine am_geti d57_71 fl57_48 sh_27 rfl ?_
            refine am_icge 81 d57_74 (by decide) (fun h74 => ?_) (fun h74 => ?_)
            · refine am_iconst 0 d57_81 (by decide) ?_
              refine am_put d57_82 fl57_45 sh_27 rfl rfl rfl rfl ?_
              refine am_aload_n d57_85 rfl ?_
              refine am_geti d57_86 fl57_45 sh_27 rfl ?_
              show am_W 57 89 _ (.int 0 :: _) _ _
              refine am_ifle 94 d57_89 (by decide) (fun _ => ?_) (fun h => absurd h (by decide))
              refine am_iconst (nI 0) d57_94 (by decide) ?_
              refine am_istore d57_95 (Nat.le_of_ble_eq_true rfl) rfl ?_
              refine am_iconst (nI 0) d57_97 (by decide) ?_
              refine am_istore d57_98 (Nat.le_of_ble_eq_true rfl) rfl ?_
              refine am_iconst (nI 0) d57_100 (by decide) ?_
              refine am_istore d57_101 (Nat.le_of_ble_eq_true rfl) rfl ?_
              exact body b d hb hd nbd h57 h66 h74 _ _ _ (cd.tr (cd_0 M 0) 0) rfl rfl
            · refine am_iconst 3 d57_77 (by decide) ?_
              refine am_goto 82 d57_78 (by decide) ?_
              refine am_put d57_82 fl57_45 sh_27 rfl rfl rfl rfl ?_
              refine am_aload_n d57_85 rfl ?_
              refine am_geti d57_86 fl57_45 sh_27 rfl ?_
              show am_W 57 89 _ (.int 3 :: _) _ _
              refine am_ifle 94 d57_89 (by decide) (fun h => absurd h (by decide)) (fun _ => ?_)
              refine am_iconst 0 d57_92 (by decide) ?_
              refine am_iret d57_93 rfl rfl ?_
              first | exact h3 b d hb rfl hd rfl nbd (Or.inr (Or.inr (Int32.not_le.mp h74))) _ (cd.tr (cd_0 M 0) 3) | exact h3 b d hb rfl hd rfl nbd (Or.inr (Or.inl h66)) _ (cd.tr (cd_0 M 0) 3) | exact h3 b d hb rfl hd rfl nbd (Or.inl h57) _ (cd.tr (cd_0 M 0) 3) | exact h2 b d hb rfl hd rfl ebd _ (cd_0 M _) | exact h1 (fun z => g2 z.2) _ (cd_0 M _) | exact h1 (fun z => g1 z.1) _ (cd_0 M _)
      · have ebd : b = d := (nI_eq (by omega) (by omega)).mp h
        refine am_iconst 2 d57_26 (by decide) ?_
        refine am_goto 31 d57_27 (by decide) ?_
        refine am_put d57_31 fl57_45 sh_27 rfl rfl rfl rfl ?_
        refine am_aload_n d57_34 rfl ?_
        refine am_geti d57_35 fl57_45 sh_27 rfl ?_
        show am_W 57 38 _ (.int 2 :: _) _ _
        refine am_ifle 43 d57_38 (by decide) (fun h => absurd h (by decide)) (fun _ => ?_)
        refine am_iconst 0 d57_41 (by decide) ?_
        refine am_iret d57_42 rfl rfl ?_
        first | exact h3 b d hb rfl hd rfl nbd (Or.inr (Or.inr (Int32.not_le.mp h74))) _ (cd.tr (cd_0 M 0) 3) | exact h3 b d hb rfl hd rfl nbd (Or.inr (Or.inl h66)) _ (cd.tr (cd_0 M 0) 3) | exact h3 b d hb rfl hd rfl nbd (Or.inl h57) _ (cd.tr (cd_0 M 0) 3) | exact h2 b d hb rfl hd rfl ebd _ (cd_0 M _) | exact h1 (fun z => g2 z.2) _ (cd_0 M _) | exact h1 (fun z => g1 z.1) _ (cd_0 M _)
