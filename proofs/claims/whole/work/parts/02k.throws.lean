/-! exceptions: what the tables say of the throws and of the handlers -/
def am_hq (k r : Nat) : Nat × Nat × Nat × Nat := (am_et k).getD r (0, 0, 0, 0)
def am_hcode (k h alen v : Nat) : Bool := (match decode (am_bytes k) h with
    | .ok (.astore j, 2) => alen == 2 && decide (j < am_nL k)
    | .ok (.astore_n j, 1) => alen == 1 && decide ((j : Nat) < am_nL k)
    | _ => false) && decide (decode (am_bytes k) (h + alen) = .ok (.iconst (v : Int), 1)) && decide (decode (am_bytes k) (h + alen + 1) = .ok (.ireturn, 1)) && decide (Int32.ofInt (v : Int) = Int32.ofNat v)
def am_hchk (e : Nat × Nat × Nat × Nat × Nat × Nat × Nat) : Bool := match e with
  | (k, pc, x, v, r, alen, ps) => decide (r < (am_et k).length) && decide ((am_hq k r).1 ≤ pc) && decide (pc < (am_hq k r).2.1) && decide ((am_hq k r).2.2.2 ≠ 0) && decide (lw_tbl[ps]? = some (.classLink (am_y k).cls (am_hq k r).2.2.2 (am_xn x))) && decide (x < 4) &&
    decide (lw_tbl[am_xc.getD x 0]? = some (.castable (am_xn x) (am_xn x))) && am_hcode k (am_hq k r).2.2.1 alen v && ((List.range r).all fun j => am_HT.any fun e' => e'.1 == k && e'.2.2.2.2.1 == j && e'.2.2.1 != x) && decide (am_rt k = some .int)
set_option maxRecDepth 100000 in
theorem am_HT_ok : am_HT.all am_hchk = true := by decide +kernel
theorem am_hd_ok {k pc x : Nat} {a : Int32} (h : am_hd k pc x = some a) : ∃ (v r alen ps : Nat), a = Int32.ofNat v ∧ am_hchk (k, pc, x, v, r, alen, ps) = true := by
  unfold am_hd at h
  cases he : am_HT.find? (fun e => e.1 == k && e.2.1 == pc && e.2.2.1 == x) with
  | none => rw [he] at h; cases h
  | some e =>
    rw [he] at h
    have h1 := List.find?_some he
    have h2 := List.all_eq_true.mp am_HT_ok e (List.mem_of_find?_eq_some he)
    simp only [Bool.and_eq_true, beq_iff_eq] at h1
    obtain ⟨e0, e1, e2, e3, e4, e5, e6⟩ := e
    dsimp only at h1
    obtain ⟨⟨rfl, rfl⟩, rfl⟩ := h1
    exact ⟨e3, e4, e5, e6, (Option.some.inj h).symm, h2⟩
theorem am_hrow {k r x : Nat} (h : ((List.range r).all fun j => am_HT.any fun e' => e'.1 == k && e'.2.2.2.2.1 == j && e'.2.2.1 != x) = true) {j : Nat} (hj : j < r) : ∃ x', x' ≠ x ∧ x' < 4 ∧ (am_hq k j).2.2.2 ≠ 0 ∧ Cond.classLink (am_y k).cls (am_hq k j).2.2.2 (am_xn x') ∈ am_tbl := by
  have h1 := List.all_eq_true.mp h j (List.mem_range.mpr hj)
  obtain ⟨e, he, h2⟩ := List.any_eq_true.mp h1
  have h3 := List.all_eq_true.mp am_HT_ok e he
  simp only [Bool.and_eq_true, beq_iff_eq, bne_iff_ne] at h2
  obtain ⟨e0, e1, e2, e3, e4, e5, e6⟩ := e
  dsimp only at h2
  obtain ⟨⟨rfl, rfl⟩, h2⟩ := h2
  unfold am_hchk at h3
  simp only [Bool.and_eq_true, decide_eq_true_eq] at h3
  obtain ⟨⟨⟨⟨⟨⟨⟨⟨⟨-, -⟩, -⟩, g4⟩, g5⟩, g6⟩, -⟩, -⟩, -⟩, -⟩ := h3
  exact ⟨e2, h2, g6, g4, am_in_t g5 rfl⟩
abbrev am_sup : List String := ["java/lang/RuntimeException", "java/lang/Exception"]
def am_xic : List Nat := [200, 99, 65, 221]
set_option maxRecDepth 100000 in
theorem am_at_0 : ((vx_atS "BranchedPast" 200 (am_xn 0) am_sup).all fun w => decide (w ∈ lw_tbl) && am_mv w && vx_ot w) = true := by decide +kernel
set_option maxRecDepth 100000 in
theorem am_at_1 : ((vx_atS "BranchedPast" 99 (am_xn 1) am_sup).all fun w => decide (w ∈ lw_tbl) && am_mv w && vx_ot w) = true := by decide +kernel
set_option maxRecDepth 100000 in
theorem am_at_2 : ((vx_atS "BranchedPast" 65 (am_xn 2) am_sup).all fun w => decide (w ∈ lw_tbl) && am_mv w && vx_ot w) = true := by decide +kernel
set_option maxRecDepth 100000 in
theorem am_at_3 : ((vx_atS "BranchedPast" 221 (am_xn 3) am_sup).all fun w => decide (w ∈ lw_tbl) && am_mv w && vx_ot w) = true := by decide +kernel
theorem am_at {x : Nat} (hx : x < 4) : ∀ w ∈ vx_atS "BranchedPast" (am_xic.getD x 0) (am_xn x) am_sup, w ∈ am_tbl ∧ vx_ot w = true := by
  have h : ((vx_atS "BranchedPast" (am_xic.getD x 0) (am_xn x) am_sup).all fun w => decide (w ∈ lw_tbl) && am_mv w && vx_ot w) = true := by
    rcases x with _ | _ | _ | _ | x
    · exact am_at_0
    · exact am_at_1
    · exact am_at_2
    · exact am_at_3
    · omega
  intro w hw
  have h1 := List.all_eq_true.mp h w hw
  simp only [Bool.and_eq_true, decide_eq_true_eq] at h1
  exact ⟨List.mem_filter.mpr ⟨h1.1.1, h1.1.2⟩, h1.2⟩
def am_xchk (e : Nat × Nat × Nat × Nat × Nat × Nat × Nat × Nat × String) : Bool := match e with
  | (k, pc, ix, x, is, ic, pl, ps, tx) => decide ((am_y k).cls = "BranchedPast") && decide (am_et k = []) && decide (6 ≤ am_rk k) && decide (x < 4) && decide (ic = am_xic.getD x 0) && decide (decode (am_bytes k) (pc + 3) = .ok (.dup, 1)) && decide (decode (am_bytes k) (pc + 4) = .ok (.ldc is, 2)) && decide (decode (am_bytes k) (pc + 6) = .ok (.invokespecial ic, 3)) && decide (decode (am_bytes k) (pc + 9) = .ok (.athrow, 1)) &&
    decide (lw_tbl[pl]? = some (.classLink "BranchedPast" ix (am_xn x))) && decide (lw_tbl[am_xi.getD x 0]? = some (.initialized (am_xn x))) && decide (lw_tbl[ps]? = some (.stringRef "BranchedPast" is tx)) && Bundle.fit (am_xn x) && am_sup.all Bundle.fit
set_option maxRecDepth 100000 in
theorem am_XT_ok : am_XT.all am_xchk = true := by decide +kernel
theorem am_exc_ok {k pc ix x : Nat} (h : am_exc k pc ix = some x) : ∃ (is ic pl ps : Nat) (tx : String), am_xchk (k, pc, ix, x, is, ic, pl, ps, tx) = true := by
  unfold am_exc at h
  cases he : am_XT.find? (fun e => e.1 == k && e.2.1 == pc && e.2.2.1 == ix) with
  | none => rw [he] at h; cases h
  | some e =>
    rw [he] at h
    have h1 := List.find?_some he
    have h2 := List.all_eq_true.mp am_XT_ok e (List.mem_of_find?_eq_some he)
    simp only [Bool.and_eq_true, beq_iff_eq] at h1
    obtain ⟨e0, e1, e2, e3, e4, e5, e6, e7, e8⟩ := e
    dsimp only at h1
    obtain ⟨⟨rfl, rfl⟩, rfl⟩ := h1
    cases h
    exact ⟨e4, e5, e6, e7, e8, h2⟩
theorem am_str {own tx : String} {k : Nat} {args : Array Value} {s : State} (h : (Cond.stringRef own k tx).before args s = true) : ∃ a, vk_R own k tx a s := by
  have h0 := h
  simp only [Cond.before, Cond.holds, Cond.value] at h
  cases hc : s.vm.findClass own with
  | none => simp [hc] at h
  | some cur =>
    cases hr : s.resolvedAt? own k with
    | none => simp [hc, hr] at h
    | some r =>
      cases r with
      | string a =>
        refine ⟨a, vk_R.of h0 ?_⟩
        cases hk : s.vm.classes[cur]? with
        | none => simp [State.resolvedAt?, hc, hk] at hr
        | some kk =>
          have hr' : kk.resolved[k]?.join = some (Resolved.string a) := by simpa [State.resolvedAt?, hc, hk] using hr
          simp [Term.eval, hc, hk, hr']
      | _ => simp [hc, hr] at h
