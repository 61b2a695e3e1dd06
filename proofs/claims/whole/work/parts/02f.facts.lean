/-! what the tables say, checked against the Statement's words -/
def am_mv : Cond → Bool
  | .fieldLinkNest .. => true
  | .methodLinkNest .. => true
  | .stringRef .. => true
  | .castable .. => true
  | .declares _ => true
  | w => goodWord w
def am_tbl : List Cond := lw_tbl.filter am_mv
theorem am_in_t {i : Nat} {w : Cond} (h : lw_tbl[i]? = some w) (hm : am_mv w = true) : w ∈ am_tbl := List.mem_filter.mpr ⟨List.mem_of_getElem? h, hm⟩
theorem am_word {w : Cond} (hm : am_mv w = true) {args a' : Array Value} {s U : State} (hW : s.WarmedH U.vm) (h : w.before args s = true) : w.before a' U = true := by
  cases w
  case fieldLinkNest => exact va_Nw.use rfl (va_Nw.warmF hW (va_Nw.of rfl h))
  case methodLinkNest => exact va_Nw.use rfl (va_Nw.warmM hW (va_Nw.of rfl h))
  case declares => exact va_Nw.use rfl (va_Nw.warmD hW (va_Nw.of rfl h))
  case stringRef own k tx =>
    have h1 : (Cond.stringRef own k tx).before args (s.setVm U.vm) = true := Cond.stringRef_warmed hW h
    simp only [Cond.before, Cond.holds, Cond.value, State.names, State.poolOf?, State.resolvedAt?] at h1 ⊢
    exact h1
  case castable C T =>
    obtain ⟨c1, c2, h1, h2, h3⟩ := Cond.castable_spec h
    have e1 : U.vm.findClass C = some c1 := by rw [hW.alike.findClass]; exact h1
    have e2 : U.vm.findClass T = some c2 := by rw [hW.alike.findClass]; exact h2
    have e3 : U.vm.assignable c1 c2 = true := by rw [hW.alike.assignable]; exact h3
    simp [Cond.before, Cond.holds, Cond.value, e1, e2, e3]
  all_goals exact word_at hW (good_of_word hm) h
def am_q (c : Nat) : vw_C := am_cl.getD c ("", am_F0, 0)
def am_fcw (e : Nat × Nat × Nat × Nat × Nat × Nat) : Cond := if e.2.2.2.2.1 = 0 then .fieldLink (am_on.getD e.1 "BranchedPast$Branches") e.2.1 (am_q e.2.2.1).1 ((am_q e.2.2.1).2.1 e.2.2.2.1).2.1 ((am_q e.2.2.1).2.1 e.2.2.2.1).2.2.1
  else .fieldLinkNest (am_on.getD e.1 "BranchedPast$Branches") e.2.1 (am_q e.2.2.1).1 ((am_q e.2.2.1).2.1 e.2.2.2.1).2.1 ((am_q e.2.2.1).2.1 e.2.2.2.1).2.2.1 "BranchedPast"
set_option maxRecDepth 100000 in
theorem am_FT_ok : (am_FT.all fun e => decide (lw_tbl[e.2.2.2.2.2]? = some (am_fcw e)) && am_mv (am_fcw e) && decide (e.2.2.1 < 6) && decide (e.2.2.2.1 < (am_q e.2.2.1).2.2) && decide (((am_q e.2.2.1).2.1 e.2.2.2.1).1 = (am_q e.2.2.1).1)) = true := by decide +kernel
set_option maxRecDepth 100000 in
theorem am_lay_ok : ((List.range 6).all fun c => decide ((am_lay.getD c []).map (fun i => lw_tbl[i]?) = (u_ws (am_q c).1 (am_q c).2.1 (am_q c).2.2).map some) && (u_ws (am_q c).1 (am_q c).2.1 (am_q c).2.2).all am_mv) = true := by decide +kernel
theorem am_lay_in {c : Nat} (hc : c < 6) : ∀ w ∈ u_ws (am_q c).1 (am_q c).2.1 (am_q c).2.2, w ∈ am_tbl := by
  intro w hw
  have h := List.all_eq_true.mp am_lay_ok c (List.mem_range.mpr hc)
  rw [Bool.and_eq_true, decide_eq_true_eq] at h
  obtain ⟨j, hj⟩ := List.getElem?_of_mem hw
  have h2 : ((am_lay.getD c []).map (fun i => lw_tbl[i]?))[j]? = some (some w) := by rw [h.1, List.getElem?_map, hj]; rfl
  rw [List.getElem?_map] at h2
  cases hi : (am_lay.getD c [])[j]? with
  | none => rw [hi] at h2; cases h2
  | some i =>
    rw [hi] at h2
    exact am_in_t (Option.some.inj h2) (List.all_eq_true.mp h.2 w hw)
theorem am_q_of {c : Nat} (hc : c < 6) : am_cl[c]? = some (am_q c) := by
  unfold am_q
  rw [List.getD_eq_getElem?_getD]
  have : c < am_cl.length := hc
  rw [List.getElem?_eq_getElem this]
  rfl
theorem am_fld_ok {k ix c f : Nat} (h : am_fld k ix = some (c, f)) : ∃ (C : String) (T : u_T) (N : Nat), am_cl[c]? = some (C, T, N) ∧ f < N ∧ (T f).1 = C ∧ (∀ w ∈ u_ws C T N, w ∈ am_tbl) ∧
    (Cond.fieldLink (am_y k).cls ix C (T f).2.1 (T f).2.2.1 ∈ am_tbl ∨ ∃ host, Cond.fieldLinkNest (am_y k).cls ix C (T f).2.1 (T f).2.2.1 host ∈ am_tbl) := by
  unfold am_fld at h
  cases he : am_FT.find? (fun e => e.1 == am_oc k && e.2.1 == ix) with
  | none => rw [he] at h; cases h
  | some e =>
    rw [he] at h
    have h1 := List.find?_some he
    have h2 := List.all_eq_true.mp am_FT_ok e (List.mem_of_find?_eq_some he)
    simp only [Bool.and_eq_true, beq_iff_eq, decide_eq_true_eq] at h1 h2
    obtain ⟨⟨⟨⟨g1, g2⟩, g3⟩, g4⟩, g5⟩ := h2
    obtain ⟨e0, e1, e2, e3, e4, e5⟩ := e
    dsimp only at h1 g1 g2 g3 g4 g5
    cases h
    obtain ⟨rfl, rfl⟩ := h1
    refine ⟨_, _, _, am_q_of g3, g4, g5, am_lay_in g3, ?_⟩
    have hm := am_in_t g1 g2
    unfold am_fcw at hm
    dsimp only at hm
    by_cases hz : e4 = 0
    · rw [if_pos hz] at hm; exact Or.inl hm
    · rw [if_neg hz] at hm; exact Or.inr ⟨_, hm⟩
theorem am_cls_ok {c : Nat} {C : String} {T : u_T} {N : Nat} (h : am_cl[c]? = some (C, T, N)) : ∃ ty0 : Nat → FieldType, (∀ k, k < N → parseFieldDescriptor (T k).2.2.1 = some (ty0 k)) ∧ (∀ a, a < N → ∀ b, b < N → a ≠ b → (T a).2.1 ≠ (T b).2.1) := by
  rcases c with _ | _ | _ | _ | _ | _ | c
  · cases h; exact ⟨am_ty0, am_tyok0, am_nm0⟩
  · cases h; exact ⟨am_ty1, am_tyok1, am_nm1⟩
  · cases h; exact ⟨am_ty2, am_tyok2, am_nm2⟩
  · cases h; exact ⟨am_ty3, am_tyok3, am_nm3⟩
  · cases h; exact ⟨am_ty4, am_tyok4, am_nm4⟩
  · cases h; exact ⟨am_ty5, am_tyok5, am_nm5⟩
  · cases h
set_option maxRecDepth 100000 in
theorem am_ft_ok : ((List.range 6).all fun c => (List.range 18).all fun f => match am_fty c f with | some ty => decide (((am_q c).2.1 f).2.2.2 = false ∧ parseFieldDescriptor ((am_q c).2.1 f).2.2.1 = some ty) | none => true) = true := by decide +kernel
theorem am_fty_ok {c f : Nat} {C : String} {T : u_T} {N : Nat} {ty : FieldType} (h : am_cl[c]? = some (C, T, N)) (hf : f < N) (ht : am_fty c f = some ty) : ∃ ty0 : Nat → FieldType, (∀ k, k < N → parseFieldDescriptor (T k).2.2.1 = some (ty0 k)) ∧ (∀ a, a < N → ∀ b, b < N → a ≠ b → (T a).2.1 ≠ (T b).2.1) ∧ (T f).2.2.2 = false ∧ parseFieldDescriptor (T f).2.2.1 = some ty := by
  obtain ⟨ty0, t1, t2⟩ := am_cls_ok h
  have hc : c < 6 := (List.getElem?_eq_some_iff.mp h).1
  have hq := am_q_of hc
  have hq : am_q c = (C, T, N) := Option.some.inj (hq.symm.trans h)
  have hN : N ≤ 18 := by
    rcases c with _ | _ | _ | _ | _ | _ | c
    all_goals first | (cases h; decide) | (cases h)
  have h0 := List.all_eq_true.mp (List.all_eq_true.mp am_ft_ok c (List.mem_range.mpr hc)) f (List.mem_range.mpr (by omega))
  rw [ht, hq] at h0
  have h0 := decide_eq_true_eq.mp h0
  exact ⟨ty0, t1, t2, h0.1, h0.2⟩
def am_lcw (e : Nat × Nat × Nat × Nat × Nat) : Cond := if e.2.2.2.1 = 0 then .methodLink (am_on.getD e.1 "BranchedPast$Branches") e.2.1 (am_y e.2.2.1) else .methodLinkNest (am_on.getD e.1 "BranchedPast$Branches") e.2.1 (am_y e.2.2.1) "BranchedPast"
set_option maxRecDepth 100000 in
theorem am_MT_ok : (am_MT.all fun e => decide (lw_tbl[e.2.2.2.2]? = some (am_lcw e)) && am_mv (am_lcw e) && decide (e.2.2.1 < 130) && decide (e.2.2.1 ≠ kL_law)) = true := by decide +kernel
def am_kt (k : Nat) : Nat × Nat × Nat × Nat := am_KT.getD k (0, 0, 0, 0)
def am_isw (k : Nat) : Cond := match am_rc k with
  | none => .static (am_y k)
  | some _ => .instanceMethod (am_y k)
def am_plus (k : Nat) : Nat := match am_rc k with
  | none => 0
  | some _ => 1
def am_kchk (k : Nat) : Bool := decide (lw_tbl[(am_kt k).1]? = some (am_cd k)) && am_mv (am_cd k) && decide (lw_tbl[(am_kt k).2.1]? = some (am_isw k)) && am_mv (am_isw k) &&
  (match am_rc k with
    | none => true
    | some c => decide (lw_tbl[(am_kt k).2.2.1]? = some (.selects (am_y k).cls (am_y k) (am_y k))) && decide ((am_q c).1 = (am_y k).cls) && decide (c < 6)) &&
  decide (lw_tbl[(am_kt k).2.2.2]? = some (.initialized (am_y k).cls)) && decide ((am_y k).cls ≠ "java/lang/invoke/MethodHandle") && decide ((am_y k).cls ≠ "java/lang/invoke/VarHandle") &&
  decide ((parseMethodDescriptor (am_y k).desc).map (fun d => d.parameters.length + am_plus k) = some (am_na k)) && decide (am_na k ≤ am_nL k) && plainName (am_y k).cls
