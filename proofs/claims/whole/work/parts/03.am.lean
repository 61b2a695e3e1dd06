/-! THE ABSTRACT MACHINE. Places stand for addresses ('.ref p' is the cell at place p); the memory M: ints by place and slot; longs; how many exceptions may still be caught; the script's length and ints. -/
abbrev am_M : Type := (Nat → Nat → Int32) × (Nat → Nat → Int64) × Nat × Nat × (Nat → Int32)
abbrev am_R : Type := Option Value ⊕ Nat
abbrev am_T : Type := am_R → am_M → Prop
abbrev am_K : Type := Nat → Nat → List Value → List Value → am_M → am_T → Prop
def am_set (M : am_M) (p i : Nat) (x : Int32) : am_M := (va_up M.1 p (upd (M.1 p) i x), M.2)
def am_setL (M : am_M) (p i : Nat) (x : Int64) : am_M := (M.1, va_up M.2.1 p (vp_updL (M.2.1 p) i x), M.2.2)
def am_pay (M : am_M) : am_M := (M.1, M.2.1, M.2.2.1 - 1, M.2.2.2)
def am_fv (M : am_M) (p f : Nat) : Option Nat → Value
  | none => .int (M.1 p f)
  | some q => .ref q
def am_cmp : Jvm.ClassFile.Cond → Int32 → Int32 → Prop
  | .eq, x, y => x = y
  | .ne, x, y => ¬ x = y
  | .lt, x, y => x < y
  | .ge, x, y => y ≤ x
  | .gt, x, y => y < x
  | .le, x, y => x ≤ y
/-- the locals with which a method begins -/
def am_in (k : Nat) (as : List Value) : List Value := as ++ List.replicate (am_nL k - as.length) .null
/-- behind a call: the answer, or an exception, which the method's own handler may catch -/
def am_af (w : am_K) (k pc : Nat) (L r : List Value) (Q : am_T) : am_T := fun res M => match res with
  | .inl v => w k (pc + 3) L (v.toList ++ r) M Q
  | .inr x => match am_hd k pc x with
    | none => am_et k = [] ∧ Q (.inr x) M
    | some v => 0 < M.2.2.1 ∧ Q (.inl (some (.int v))) (am_pay M)
/-- one instruction -/
def am_do (w : am_K) (k pc : Nat) (i : Instr) (len : Nat) (L st : List Value) (M : am_M) (Q : am_T) : Prop :=
  match i with
  | .iconst n => len = 1 ∧ ∃ v, Int32.ofInt n = v ∧ w k (pc + 1) L (.int v :: st) M Q
  | .bipush n => len = 2 ∧ ∃ v, (Int8.ofInt n).toInt32 = v ∧ w k (pc + 2) L (.int v :: st) M Q
  | .sipush n => len = 3 ∧ ∃ v, (Int16.ofInt n).toInt32 = v ∧ w k (pc + 3) L (.int v :: st) M Q
  | .iload_n j => len = 1 ∧ ∃ x, L[(j : Nat)]? = some (.int x) ∧ w k (pc + 1) L (.int x :: st) M Q
  | .iload j => len = 2 ∧ ∃ x, L[j]? = some (.int x) ∧ w k (pc + 2) L (.int x :: st) M Q
  | .aload_n j => len = 1 ∧ ∃ x, L[(j : Nat)]? = some (.ref x) ∧ w k (pc + 1) L (.ref x :: st) M Q
  | .aload j => len = 2 ∧ ∃ x, L[j]? = some (.ref x) ∧ w k (pc + 2) L (.ref x :: st) M Q
  | .istore_n j => len = 1 ∧ ∃ x r, st = .int x :: r ∧ (j : Nat) < L.length ∧ w k (pc + 1) (L.set j (.int x)) r M Q
  | .istore j => len = 2 ∧ ∃ x r, st = .int x :: r ∧ j < L.length ∧ w k (pc + 2) (L.set j (.int x)) r M Q
  | .iinc j n => len = 3 ∧ ∃ x v, L[j]? = some (.int x) ∧ x + Int32.ofInt n = v ∧ w k (pc + 3) (L.set j (.int v)) st M Q
  | .iadd => len = 1 ∧ ∃ y x r, st = .int y :: .int x :: r ∧ w k (pc + 1) L (.int (x + y) :: r) M Q
  | .isub => len = 1 ∧ ∃ y x r, st = .int y :: .int x :: r ∧ w k (pc + 1) L (.int (x - y) :: r) M Q
  | .imul => len = 1 ∧ ∃ y x r, st = .int y :: .int x :: r ∧ w k (pc + 1) L (.int (x * y) :: r) M Q
  | .iand => len = 1 ∧ ∃ y x r, st = .int y :: .int x :: r ∧ w k (pc + 1) L (.int (x &&& y) :: r) M Q
  | .ior => len = 1 ∧ ∃ y x r, st = .int y :: .int x :: r ∧ w k (pc + 1) L (.int (x ||| y) :: r) M Q
  | .ishl => len = 1 ∧ ∃ y x r, st = .int y :: .int x :: r ∧ w k (pc + 1) L (.int (x <<< (y &&& 31)) :: r) M Q
  | .ishr => len = 1 ∧ ∃ y x r, st = .int y :: .int x :: r ∧ w k (pc + 1) L (.int (x >>> (y &&& 31)) :: r) M Q
  | .iushr => len = 1 ∧ ∃ y x r, st = .int y :: .int x :: r ∧ w k (pc + 1) L (.int (x.toUInt32 >>> (y.toUInt32 &&& Int32.toUInt32 31)).toInt32 :: r) M Q
  | .ineg => len = 1 ∧ ∃ x r, st = .int x :: r ∧ w k (pc + 1) L (.int (-x) :: r) M Q
  | .i2l => len = 1 ∧ ∃ x r, st = .int x :: r ∧ w k (pc + 1) L (.long x.toInt64 :: r) M Q
  | .i2c => len = 1 ∧ ∃ x r, st = .int x :: r ∧ w k (pc + 1) L (.int (x.toUInt32 % 65536).toInt32 :: r) M Q
  | .lcmp => len = 1 ∧ ∃ y x r, st = .long y :: .long x :: r ∧ w k (pc + 1) L (.int (lg_cmp x y) :: r) M Q
  | .dup => len = 1 ∧ ∃ v r, st = v :: r ∧ am_ok v = true ∧ w k (pc + 1) L (v :: v :: r) M Q
  | .goto off => len = 3 ∧ ∃ t : Nat, (pc : Int) + off = t ∧ w k t L st M Q
  | .ifCond c off => len = 3 ∧ ∃ (t : Nat) (x : Int32) (r : List Value), st = .int x :: r ∧ (pc : Int) + off = t ∧ (am_cmp c x 0 → w k t L r M Q) ∧ (¬ am_cmp c x 0 → w k (pc + 3) L r M Q)
  | .if_icmp c off => len = 3 ∧ ∃ (t : Nat) (y x : Int32) (r : List Value), st = .int y :: .int x :: r ∧ (pc : Int) + off = t ∧ (am_cmp c x y → w k t L r M Q) ∧ (¬ am_cmp c x y → w k (pc + 3) L r M Q)
  | .tableswitch d lo hi offs => ∃ (x : Int32) (r : List Value), st = .int x :: r ∧
      (x.toInt < lo ∨ hi < x.toInt → ∃ t : Nat, (pc : Int) + d = t ∧ w k t L r M Q) ∧
      (¬ x.toInt < lo → ¬ hi < x.toInt → ∃ (off : Int) (t : Nat), offs[(x.toInt - lo).toNat]? = some off ∧ (pc : Int) + off = t ∧ w k t L r M Q)
  | .iaload => len = 1 ∧ ∃ (x : Int32) (p : Nat) (r : List Value), st = .int x :: .ref p :: r ∧
      ((p = am_SC ∧ vp_in x M.2.2.2.1 ∧ w k (pc + 1) L (.int (M.2.2.2.2 x.toNatClampNeg) :: r) M Q) ∨
       ∃ n, am_sh p = some (.inl (.int, n)) ∧ vp_in x n ∧ w k (pc + 1) L (.int (M.1 p x.toNatClampNeg) :: r) M Q)
  | .baload => len = 1 ∧ ∃ (x : Int32) (p n : Nat) (r : List Value), st = .int x :: .ref p :: r ∧ am_sh p = some (.inl (.boolean, n)) ∧ vp_in x n ∧ w k (pc + 1) L (.int (M.1 p x.toNatClampNeg) :: r) M Q
  | .caload => len = 1 ∧ ∃ (x : Int32) (p n : Nat) (r : List Value), st = .int x :: .ref p :: r ∧ am_sh p = some (.inl (.char, n)) ∧ vp_in x n ∧ w k (pc + 1) L (.int (M.1 p x.toNatClampNeg) :: r) M Q
  | .laload => len = 1 ∧ ∃ (x : Int32) (p n : Nat) (r : List Value), st = .int x :: .ref p :: r ∧ am_sh p = some (.inl (.long, n)) ∧ vp_in x n ∧ w k (pc + 1) L (.long (M.2.1 p x.toNatClampNeg) :: r) M Q
  | .iastore => len = 1 ∧ ∃ (v x : Int32) (p n : Nat) (r : List Value), st = .int v :: .int x :: .ref p :: r ∧ am_sh p = some (.inl (.int, n)) ∧ vp_in x n ∧ w k (pc + 1) L r (am_set M p x.toNatClampNeg v) Q
  | .bastore => len = 1 ∧ ∃ (v x : Int32) (p n : Nat) (r : List Value), st = .int v :: .int x :: .ref p :: r ∧ am_sh p = some (.inl (.boolean, n)) ∧ vp_in x n ∧ w k (pc + 1) L r (am_set M p x.toNatClampNeg (vp_nar .boolean v)) Q
  | .castore => len = 1 ∧ ∃ (v x : Int32) (p n : Nat) (r : List Value), st = .int v :: .int x :: .ref p :: r ∧ am_sh p = some (.inl (.char, n)) ∧ vp_in x n ∧ w k (pc + 1) L r (am_set M p x.toNatClampNeg (vp_nar .char v)) Q
  | .lastore => len = 1 ∧ ∃ (v : Int64) (x : Int32) (p n : Nat) (r : List Value), st = .long v :: .int x :: .ref p :: r ∧ am_sh p = some (.inl (.long, n)) ∧ vp_in x n ∧ w k (pc + 1) L r (am_setL M p x.toNatClampNeg v) Q
  | .arraylength => len = 1 ∧ ∃ (p : Nat) (r : List Value), st = .ref p :: r ∧
      ((p = am_SC ∧ w k (pc + 1) L (.int (Int32.ofNat M.2.2.2.1) :: r) M Q) ∨ ∃ (ty : FieldType) (n : Nat), am_sh p = some (.inl (ty, n)) ∧ ty ∈ am_tyL ∧ w k (pc + 1) L (.int (Int32.ofNat n) :: r) M Q)
  | .getfield ix => len = 3 ∧ ∃ (p c f : Nat) (r : List Value) (fs : List (Option Nat)) (o : Option Nat), st = .ref p :: r ∧ am_fld k ix = some (c, f) ∧ am_sh p = some (.inr (c, fs)) ∧ fs[f]? = some o ∧ w k (pc + 3) L (am_fv M p f o :: r) M Q
  | .putfield ix => len = 3 ∧ ∃ (v : Int32) (p c f : Nat) (r : List Value) (fs : List (Option Nat)) (ty : FieldType), st = .int v :: .ref p :: r ∧ am_fld k ix = some (c, f) ∧ am_sh p = some (.inr (c, fs)) ∧ fs[f]? = some none ∧ am_fty c f = some ty ∧ narrow ty (.int v) = .int v ∧ fits ty (.int v) = true ∧ w k (pc + 3) L r (am_set M p f v) Q
  | .ireturn => len = 1 ∧ ∃ (v : Int32) (ty : FieldType), st = [.int v] ∧ am_rt k = some ty ∧ narrow ty (.int v) = .int v ∧ Q (.inl (some (.int v))) M
  | .return_ => len = 1 ∧ st = [] ∧ am_rt k = none ∧ Q (.inl none) M
  | .invokevirtual ix => len = 3 ∧ ∃ (kc p c : Nat) (As r : List Value) (fs : List (Option Nat)), am_mth k ix = some kc ∧ st = As.reverse ++ .ref p :: r ∧ am_na kc = As.length + 1 ∧ am_rk kc < am_rk k ∧ am_sh p = some (.inr (c, fs)) ∧ am_rc kc = some c ∧ (As.all am_ok) = true ∧ (r.map fun v => v.category).sum ≤ 8 ∧
      w kc 0 (am_in kc (.ref p :: As)) [] M (am_af w k pc L r Q)
  | .invokestatic ix => len = 3 ∧
      ((∃ (y x : Int32) (r : List Value), am_mx k ix = some true ∧ 0 < am_rk k ∧ st = .int y :: .int x :: r ∧ (r.map fun v => v.category).sum ≤ 8 ∧ w k (pc + 3) L (.int (if x < y then y else x) :: r) M Q) ∨
       (∃ (y x : Int32) (r : List Value), am_mx k ix = some false ∧ 0 < am_rk k ∧ st = .int y :: .int x :: r ∧ (r.map fun v => v.category).sum ≤ 8 ∧ w k (pc + 3) L (.int (if y < x then y else x) :: r) M Q) ∨
       ∃ (kc : Nat) (As r : List Value), am_mth k ix = some kc ∧ st = As.reverse ++ r ∧ am_na kc = As.length ∧ am_rk kc < am_rk k ∧ am_rc kc = none ∧ (As.all am_ok) = true ∧ (r.map fun v => v.category).sum ≤ 8 ∧ w kc 0 (am_in kc As) [] M (am_af w k pc L r Q))
  | .new ix => len = 3 ∧ ∃ (x : Nat), am_exc k pc ix = some x ∧ (st.map fun v => v.category).sum ≤ 8 ∧ Q (.inr x) M
  | _ => False
/-- a predicate that every instruction carries backwards -/
def am_Cl (X : am_K) : Prop := ∀ (k pc : Nat) (L st : List Value) (M : am_M) (Q : am_T) (i : Instr) (len : Nat), decode (am_bytes k) pc = .ok (i, len) → am_do X k pc i len L st M Q → X k pc L st M Q
/-- method k, from pc with locals L, stack st and memory M, comes to an end with Q: the least such predicate -/
def am_W (k pc : Nat) (L st : List Value) (M : am_M) (Q : am_T) : Prop := ∀ X : am_K, am_Cl X → X k pc L st M Q
theorem am_af_mono {w w' : am_K} (hw : ∀ (k pc : Nat) (L st : List Value) (M : am_M) (Q Q' : am_T), w k pc L st M Q → (∀ r m, Q r m → Q' r m) → w' k pc L st M Q') {k pc : Nat} {L r : List Value} {Q Q' : am_T} (hQ : ∀ r m, Q r m → Q' r m) : ∀ (res : am_R) (M : am_M), am_af w k pc L r Q res M → am_af w' k pc L r Q' res M := by
  intro res M h
  cases res with
  | inl v => exact hw _ _ _ _ _ _ _ h hQ
  | inr x =>
    simp only [am_af] at h ⊢
    cases hh : am_hd k pc x with
    | none => rw [hh] at h; exact ⟨h.1, hQ _ _ h.2⟩
    | some v => rw [hh] at h; exact ⟨h.1, hQ _ _ h.2⟩
set_option maxHeartbeats 4000000 in
theorem am_do_mono {w w' : am_K} (hw : ∀ (k pc : Nat) (L st : List Value) (M : am_M) (Q Q' : am_T), w k pc L st M Q → (∀ r m, Q r m → Q' r m) → w' k pc L st M Q') {k pc : Nat} {i : Instr} {len : Nat} {L st : List Value} {M : am_M} {Q Q' : am_T} (hQ : ∀ r m, Q r m → Q' r m) (h : am_do w k pc i len L st M Q) : am_do w' k pc i len L st M Q' := by
  have hg : ∀ (k pc : Nat) (L st : List Value) (M : am_M), w k pc L st M Q → w' k pc L st M Q' := fun k pc L st M h => hw k pc L st M Q Q' h hQ
  have ha : ∀ (kc : Nat) (Lc : List Value) (L r : List Value) (M : am_M), w kc 0 Lc [] M (am_af w k pc L r Q) → w' kc 0 Lc [] M (am_af w' k pc L r Q') := fun kc Lc L r M h => hw _ _ _ _ _ _ _ h (am_af_mono hw hQ)
  cases i
  case iconst n => obtain ⟨h1, v, h2, h⟩ := h; exact ⟨h1, v, h2, hg _ _ _ _ _ h⟩
  case bipush n => obtain ⟨h1, v, h2, h⟩ := h; exact ⟨h1, v, h2, hg _ _ _ _ _ h⟩
  case sipush n => obtain ⟨h1, v, h2, h⟩ := h; exact ⟨h1, v, h2, hg _ _ _ _ _ h⟩
  case iload_n j => obtain ⟨h1, v, h2, h⟩ := h; exact ⟨h1, v, h2, hg _ _ _ _ _ h⟩
  case iload j => obtain ⟨h1, v, h2, h⟩ := h; exact ⟨h1, v, h2, hg _ _ _ _ _ h⟩
  case aload_n j => obtain ⟨h1, v, h2, h⟩ := h; exact ⟨h1, v, h2, hg _ _ _ _ _ h⟩
  case aload j => obtain ⟨h1, v, h2, h⟩ := h; exact ⟨h1, v, h2, hg _ _ _ _ _ h⟩
  case istore_n j => obtain ⟨h1, x, r, h2, h3, h⟩ := h; exact ⟨h1, x, r, h2, h3, hg _ _ _ _ _ h⟩
  case istore j => obtain ⟨h1, x, r, h2, h3, h⟩ := h; exact ⟨h1, x, r, h2, h3, hg _ _ _ _ _ h⟩
  case iinc j n => obtain ⟨h1, x, r, h2, h3, h⟩ := h; exact ⟨h1, x, r, h2, h3, hg _ _ _ _ _ h⟩
  case iadd => obtain ⟨h1, y, x, r, h2, h⟩ := h; exact ⟨h1, y, x, r, h2, hg _ _ _ _ _ h⟩
  case isub => obtain ⟨h1, y, x, r, h2, h⟩ := h; exact ⟨h1, y, x, r, h2, hg _ _ _ _ _ h⟩
  case imul => obtain ⟨h1, y, x, r, h2, h⟩ := h; exact ⟨h1, y, x, r, h2, hg _ _ _ _ _ h⟩
  case iand => obtain ⟨h1, y, x, r, h2, h⟩ := h; exact ⟨h1, y, x, r, h2, hg _ _ _ _ _ h⟩
  case ior => obtain ⟨h1, y, x, r, h2, h⟩ := h; exact ⟨h1, y, x, r, h2, hg _ _ _ _ _ h⟩
  case ishl => obtain ⟨h1, y, x, r, h2, h⟩ := h; exact ⟨h1, y, x, r, h2, hg _ _ _ _ _ h⟩
  case ishr => obtain ⟨h1, y, x, r, h2, h⟩ := h; exact ⟨h1, y, x, r, h2, hg _ _ _ _ _ h⟩
  case iushr => obtain ⟨h1, y, x, r, h2, h⟩ := h; exact ⟨h1, y, x, r, h2, hg _ _ _ _ _ h⟩
  case ineg => obtain ⟨h1, x, r, h2, h⟩ := h; exact ⟨h1, x, r, h2, hg _ _ _ _ _ h⟩
  case i2l => obtain ⟨h1, x, r, h2, h⟩ := h; exact ⟨h1, x, r, h2, hg _ _ _ _ _ h⟩
  case i2c => obtain ⟨h1, x, r, h2, h⟩ := h; exact ⟨h1, x, r, h2, hg _ _ _ _ _ h⟩
  case lcmp => obtain ⟨h1, y, x, r, h2, h⟩ := h; exact ⟨h1, y, x, r, h2, hg _ _ _ _ _ h⟩
  case dup => obtain ⟨h1, x, r, h2, h3, h⟩ := h; exact ⟨h1, x, r, h2, h3, hg _ _ _ _ _ h⟩
  case goto off => obtain ⟨h1, v, h2, h⟩ := h; exact ⟨h1, v, h2, hg _ _ _ _ _ h⟩
  case ifCond c off => obtain ⟨h1, t, x, r, h2, h3, ha', hb⟩ := h; exact ⟨h1, t, x, r, h2, h3, fun q => hg _ _ _ _ _ (ha' q), fun q => hg _ _ _ _ _ (hb q)⟩
  case if_icmp c off => obtain ⟨h1, t, y, x, r, h2, h3, ha', hb⟩ := h; exact ⟨h1, t, y, x, r, h2, h3, fun q => hg _ _ _ _ _ (ha' q), fun q => hg _ _ _ _ _ (hb q)⟩
  case tableswitch d lo hi offs =>
    obtain ⟨x, r, h2, h3, h4⟩ := h
    refine ⟨x, r, h2, fun q => ?_, fun q q' => ?_⟩
    · obtain ⟨t, e1, h5⟩ := h3 q; exact ⟨t, e1, hg _ _ _ _ _ h5⟩
    · obtain ⟨off, t, e1, e2, h5⟩ := h4 q q'; exact ⟨off, t, e1, e2, hg _ _ _ _ _ h5⟩
  case iaload =>
    obtain ⟨h1, x, p, r, h2, h | ⟨n, h3, h4, h⟩⟩ := h
    · exact ⟨h1, x, p, r, h2, Or.inl ⟨h.1, h.2.1, hg _ _ _ _ _ h.2.2⟩⟩
    · exact ⟨h1, x, p, r, h2, Or.inr ⟨n, h3, h4, hg _ _ _ _ _ h⟩⟩
  case baload => obtain ⟨h1, x, p, n, r, h2, h3, h4, h⟩ := h; exact ⟨h1, x, p, n, r, h2, h3, h4, hg _ _ _ _ _ h⟩
  case caload => obtain ⟨h1, x, p, n, r, h2, h3, h4, h⟩ := h; exact ⟨h1, x, p, n, r, h2, h3, h4, hg _ _ _ _ _ h⟩
  case laload => obtain ⟨h1, x, p, n, r, h2, h3, h4, h⟩ := h; exact ⟨h1, x, p, n, r, h2, h3, h4, hg _ _ _ _ _ h⟩
  case iastore => obtain ⟨h1, v, x, p, n, r, h2, h3, h4, h⟩ := h; exact ⟨h1, v, x, p, n, r, h2, h3, h4, hg _ _ _ _ _ h⟩
  case bastore => obtain ⟨h1, v, x, p, n, r, h2, h3, h4, h⟩ := h; exact ⟨h1, v, x, p, n, r, h2, h3, h4, hg _ _ _ _ _ h⟩
  case castore => obtain ⟨h1, v, x, p, n, r, h2, h3, h4, h⟩ := h; exact ⟨h1, v, x, p, n, r, h2, h3, h4, hg _ _ _ _ _ h⟩
  case lastore => obtain ⟨h1, v, x, p, n, r, h2, h3, h4, h⟩ := h; exact ⟨h1, v, x, p, n, r, h2, h3, h4, hg _ _ _ _ _ h⟩
  case arraylength =>
    obtain ⟨h1, p, r, h2, h | ⟨ty, n, h3, h4, h⟩⟩ := h
    · exact ⟨h1, p, r, h2, Or.inl ⟨h.1, hg _ _ _ _ _ h.2⟩⟩
    · exact ⟨h1, p, r, h2, Or.inr ⟨ty, n, h3, h4, hg _ _ _ _ _ h⟩⟩
  case getfield ix => obtain ⟨h1, p, c, f, r, fs, o, h2, h3, h4, h5, h⟩ := h; exact ⟨h1, p, c, f, r, fs, o, h2, h3, h4, h5, hg _ _ _ _ _ h⟩
  case putfield ix => obtain ⟨h1, v, p, c, f, r, fs, ty, h2, h3, h4, h5, h6, h7, h8, h⟩ := h; exact ⟨h1, v, p, c, f, r, fs, ty, h2, h3, h4, h5, h6, h7, h8, hg _ _ _ _ _ h⟩
  case ireturn => obtain ⟨h1, v, ty, h2, h3, h4, h⟩ := h; exact ⟨h1, v, ty, h2, h3, h4, hQ _ _ h⟩
  case return_ => obtain ⟨h1, h2, h3, h⟩ := h; exact ⟨h1, h2, h3, hQ _ _ h⟩
  case invokevirtual ix => obtain ⟨h1, kc, p, c, As, r, fs, h2, h3, h4, h5, h6, h7, h8, h9, h⟩ := h; exact ⟨h1, kc, p, c, As, r, fs, h2, h3, h4, h5, h6, h7, h8, h9, ha _ _ _ _ _ h⟩
  case invokestatic ix =>
    obtain ⟨h1, ⟨y, x, r, h2, h0, h3, h4, h⟩ | ⟨y, x, r, h2, h0, h3, h4, h⟩ | ⟨kc, As, r, h2, h3, h4, h5, h6, h7, h8, h⟩⟩ := h
    · exact ⟨h1, Or.inl ⟨y, x, r, h2, h0, h3, h4, hg _ _ _ _ _ h⟩⟩
    · exact ⟨h1, Or.inr (Or.inl ⟨y, x, r, h2, h0, h3, h4, hg _ _ _ _ _ h⟩)⟩
    · exact ⟨h1, Or.inr (Or.inr ⟨kc, As, r, h2, h3, h4, h5, h6, h7, h8, ha _ _ _ _ _ h⟩)⟩
  case new ix => obtain ⟨h1, x, h2, h3, h⟩ := h; exact ⟨h1, x, h2, h3, hQ _ _ h⟩
  all_goals exact False.elim h
theorem am_W_to {X : am_K} (hX : am_Cl X) {k pc : Nat} {L st : List Value} {M : am_M} {Q Q' : am_T} (h : am_W k pc L st M Q) (hQ : ∀ r m, Q r m → Q' r m) : X k pc L st M Q' := by
  have hc : am_Cl (fun k pc L st M Q => ∀ Q' : am_T, (∀ r m, Q r m → Q' r m) → X k pc L st M Q') := by
    intro k pc L st M Q i len hd h Q' hQ
    exact hX _ _ _ _ _ _ _ _ hd (am_do_mono (fun _ _ _ _ _ _ Q2 h1 h2 => h1 Q2 h2) hQ h)
  exact h _ hc Q' hQ
theorem am_mono {k pc : Nat} {L st : List Value} {M : am_M} {Q Q' : am_T} (h : am_W k pc L st M Q) (hQ : ∀ r m, Q r m → Q' r m) : am_W k pc L st M Q' := fun _ hX => am_W_to hX h hQ
theorem am_s {k pc : Nat} {L st : List Value} {M : am_M} {Q : am_T} {i : Instr} {len : Nat} (hd : decode (am_bytes k) pc = .ok (i, len)) (h : am_do am_W k pc i len L st M Q) : am_W k pc L st M Q :=
  fun X hX => hX _ _ _ _ _ _ _ _ hd (am_do_mono (w := am_W) (w' := X) (fun _ _ _ _ _ _ _ h1 h2 => am_W_to hX h1 h2) (fun _ _ h => h) h)
