/-! the law from its entry to the loop, and the claim -/
theorem cw_50 : Cond.initialized "BranchedPast" ∈ cn_G := cn_in (i := 50) (by decide +kernel) rfl
theorem cw_55 : Cond.initialized "BranchedPastModel" ∈ cn_G := cn_in (i := 55) (by decide +kernel) rfl
theorem cw_65 : Cond.classLink "BranchedPastLaw" 8 "BranchedPast" ∈ cn_G := cn_in (i := 65) (by decide +kernel) rfl
theorem cw_66 : Cond.instantiable "BranchedPast" 8 ∈ cn_G := cn_in (i := 66) (by decide +kernel) rfl
theorem cw_67 : Cond.methodLink "BranchedPastLaw" 65 ⟨"BranchedPast", "<init>", "()V"⟩ ∈ cn_G := cn_in (i := 67) (by decide +kernel) rfl
theorem cw_68 : Cond.instanceMethod ⟨"BranchedPast", "<init>", "()V"⟩ ∈ cn_G := cn_in (i := 68) (by decide +kernel) rfl
theorem cw_660 : Cond.classLink "BranchedPastLaw" 66 "BranchedPastModel" ∈ cn_G := cn_in (i := 660) (by decide +kernel) rfl
theorem cw_661 : Cond.instantiable "BranchedPastModel" 18 ∈ cn_G := cn_in (i := 661) (by decide +kernel) rfl
theorem cw_662 : Cond.methodLink "BranchedPastLaw" 68 ⟨"BranchedPastModel", "<init>", "()V"⟩ ∈ cn_G := cn_in (i := 662) (by decide +kernel) rfl
theorem cw_663 : Cond.instanceMethod ⟨"BranchedPastModel", "<init>", "()V"⟩ ∈ cn_G := cn_in (i := 663) (by decide +kernel) rfl
theorem cw_892 : Cond.arrayClass .long ∈ cn_G := cn_in (i := 892) (by decide +kernel) rfl
theorem d128_4 : decode (am_bytes 128) 4 = .ok (.invokespecial 65, 3) := by decide +kernel
theorem d128_12 : decode (am_bytes 128) 12 = .ok (.invokespecial 68, 3) := by decide +kernel
def R_law : String := "BranchedPastLaw"
def lw_P (b : Addr) (xs : List Int32) (args : Array Value) (s : State) : Prop := args = #[.ref b] ∧ s.IntsAt b xs ∧ xs.length ≤ 3072 ∧ (Jvm.Cond.and given_1 narrow_1).before args s = true
def lw_Q (_ : Array Value) (s : State) (o : Outcome) (t : State) : Prop := o = .returned (some (.int 1)) ∧ Framed s o t [] 1078 10312
def lw_Z (below : List Frame) (a : Array Value) (s : State) : State → Prop := fun t => ∃ o, t.status = .running ∧ Ended t below o ∧ lw_Q a s o t
/-- the law's own end, with 1 on the stack, nothing written that was there before, its room as the claim has it -/
theorem lw_ret {p : Program} {l : Launch} {e : Env} {s : State} {m : MethodId} {below : List Frame} {meth : Method} {c : Code} {b : Nat} (hx : p.tables.exec = Jvm.exec) (hb : c.code = code) (hr : meth.sig.returnType = ret) (hlocks : meth.locks = false) {pc : Nat} {H : Heap} {ls : Array Slot} (hdg : decode code pc = .ok (.ireturn, 1)) : W p l e room_1 s m #[Value.ref b] below meth c H [] 1078 10312 (lw_Z below #[Value.ref b] s) (F0 m pc ls [.int 1]) := by
  intro T hT X
  obtain ⟨fs, hret, hrun, hended, hW, hframe⟩ := X.leave (v := some (.int 1)) (hlocks := hlocks) (fun h => by rw [hr] at h; cases h)
  have hmeth' : T.vm.method? m = some meth := X.method'
  refine ⟨T.setFrames fs, ?_, .returned (some (.int 1)), hrun, hended, rfl, ⟨_, rfl⟩, hW, hframe⟩
  jvm_step X.here [X.here.top, hx, hb, hdg, hmeth', hr, ret, narrow_b1]
  (try refine ⟨rfl, ?_⟩); (try refine ⟨rfl, ?_⟩)
  first | (intro acts; rw [hret _ acts rfl rfl rfl]) | rw [hret _ _ rfl rfl rfl]
  exact Steps.refl _
/-- what holds at the law's entry: the machine, the code, the tables' words (any of lw_tbl by 'hts w (by decide +kernel)'), the script of L ints xs at the cell b, what the Statement gives of the start (any of its parts by flat_of_before) -/
def lw_At (p : Program) (s : State) (m : MethodId) (meth : Method) (c : Code) (b L : Nat) (xs : Nat → Int32) : Prop :=
  p.tables.exec = Jvm.exec ∧ c.code = code ∧ meth.sig.returnType = ret ∧ c.maxLocals = 7 ∧ s.vm.findClass R_law = some m.cls ∧ (∀ w ∈ lw_tbl, w.before #[Value.ref b] s = true) ∧ va_X b L xs s s.heap ∧ b < s.heap.size ∧ meth.locks = false ∧ (Jvm.Cond.and given_1 narrow_1).before #[Value.ref b] s = true
theorem cn_arr {args : Array Value} {s : State} {ty : FieldType} (h : (Cond.arrayClass ty).before args s = true) : ∃ cA, ArrOfT s cA ty ∧ s.vm.findClass ("[" ++ ty.toString) = some cA := by
  obtain ⟨cA, kA, comp, h1, h2, h3⟩ := Cond.arrayClass_spec h
  exact ⟨cA, fun n z => ⟨fun k h => (by cases h), kA, h2, comp, h3⟩, h1⟩
theorem cn_known {args : Array Value} {s : State} (hg : ∀ w ∈ cn_G, w.before args s = true) : ∃ (D : va_G) (cA : FieldType → ClassId), va_K D am_cl (am_tys cA) s := by
  obtain ⟨c0, i0, k0⟩ := u_known hg (cn_lay (c := 0) (by decide)) (hg _ cw_74)
  obtain ⟨c1, i1, k1⟩ := u_known hg (cn_lay (c := 1) (by decide)) (hg _ cw_154)
  obtain ⟨c2, i2, k2⟩ := u_known hg (cn_lay (c := 2) (by decide)) (hg _ cw_132)
  obtain ⟨c3, i3, k3⟩ := u_known hg (cn_lay (c := 3) (by decide)) (hg _ cw_103)
  obtain ⟨c4, i4, k4⟩ := u_known hg (cn_lay (c := 4) (by decide)) (hg _ cw_66)
  obtain ⟨c5, i5, k5⟩ := u_known hg (cn_lay (c := 5) (by decide)) (hg _ cw_661)
  obtain ⟨aint, rint, fint⟩ := cn_arr (hg _ cw_100)
  obtain ⟨aboolean, rboolean, fboolean⟩ := cn_arr (hg _ cw_101)
  obtain ⟨achar, rchar, fchar⟩ := cn_arr (hg _ cw_172)
  obtain ⟨along, rlong, flong⟩ := cn_arr (hg _ cw_892)
  refine ⟨(fun c => match c with | 0 => c0 | 1 => c1 | 2 => c2 | 3 => c3 | 4 => c4 | _ => c5, fun c => match c with | 0 => i0 | 1 => i1 | 2 => i2 | 3 => i3 | 4 => i4 | _ => i5), fun t => match t with | .int => aint | .boolean => aboolean | .char => achar | _ => along, fun c q hq => ?_, fun k q hq => ?_⟩
  · have hc : c < 6 := (List.getElem?_eq_some_iff.mp hq).1
    rcases (show c = 0 ∨ c = 1 ∨ c = 2 ∨ c = 3 ∨ c = 4 ∨ c = 5 by omega) with rfl | rfl | rfl | rfl | rfl | rfl
    · cases hq; exact k0
    · cases hq; exact k1
    · cases hq; exact k2
    · cases hq; exact k3
    · cases hq; exact k4
    · cases hq; exact k5
  · have hc : k < 4 := (List.getElem?_eq_some_iff.mp hq).1
    rcases (show k = 0 ∨ k = 1 ∨ k = 2 ∨ k = 3 by omega) with rfl | rfl | rfl | rfl
    · cases hq; exact ⟨rint, fint⟩
    · cases hq; exact ⟨rboolean, fboolean⟩
    · cases hq; exact ⟨rchar, fchar⟩
    · cases hq; exact ⟨rlong, flong⟩
/-- the memory with which the law's loop begins -/
def cn_M1 : Nat → Nat → Int32 := fun p => if p = 1 then (fun f => if f = 4 then 1 else 0) else if p = 2 then upd (fun _ => 0) 0 (-1) else if p = 4 then upd (fun _ => 0) 0 (vp_nar .boolean 1) else if p = 27 then (fun f => if f = 3 then 1 else 0) else if p = 28 then upd (fun _ => 0) 0 (-1) else fun _ => 0
def cn_M (L : Nat) (xs : Nat → Int32) : am_M := (cn_M1, fun _ _ => 0, 512, L, xs)
def cn_ad (b : Nat) (l : List Nat) : Nat → Nat := fun p => if p = am_SC then b else l.getD p 0
theorem cn_RL (L : Nat) (xs : Nat → Int32) : RL (cn_M L xs) (fun _ => 0) 1 0 0 0 (fun _ => 0) := by
  have hz : ∀ (P : Nat → Prop) i, i < 0 → P i := fun P i h => absurd h (Nat.not_lt_zero i)
  have h1 : ∀ (P : Nat → Prop) i, 0 < i → i < 1 → P i := fun P i a b => by omega
  have p1 : bp_P (upd (fun _ => 0) 0 (-1)) (fun _ => 0) (fun _ => 0) 1 := ⟨by decide, fun b h0 h => by omega, fun b h0 h => by omega, fun b h => Int32.le_refl _⟩
  have r1 : bp_R (fun _ => 0) (fun _ => 0) 1 0 := ⟨by decide, fun i h => absurd h (Nat.not_lt_zero i)⟩
  refine ⟨⟨rfl, p1, rfl, r1, rfl, by decide⟩, ⟨rfl, p1, rfl, r1, rfl, by decide, fun i h => absurd h (Nat.not_lt_zero i), rfl, by decide⟩, ⟨rfl, rfl, rfl, rfl, rfl, rfl, rfl, rfl⟩, fun b hb => ?_, ⟨rfl, 0, Nat.le_refl _, rfl⟩, ⟨fun i h => absurd h (Nat.not_lt_zero i), fun i j _ h => absurd h (Nat.not_lt_zero j), fun k _ => Int32.le_refl _, fun k _ _ => Int32.le_refl _⟩, fun i h => absurd h (Nat.not_lt_zero i), ⟨rfl, by decide, fun i h => absurd h (Nat.not_lt_zero i)⟩, ⟨rfl, by decide, fun i h => absurd h (Nat.not_lt_zero i)⟩⟩
  obtain rfl : b = 0 := by omega
  show ((0 : Int32) = 0 ↔ ¬ vp_nar .boolean 1 = 0)
  decide
theorem cn_ncs {args : Array Value} {s : State} (h : (Jvm.Cond.and given_1 narrow_1).before args s = true) : am_ncs s := by
  have hs := flat_of_before _ h
  intro x y hx hy hxy
  rcases (show x = 0 ∨ x = 1 ∨ x = 2 ∨ x = 3 by omega) with rfl | rfl | rfl | rfl <;> rcases (show y = 0 ∨ y = 1 ∨ y = 2 ∨ y = 3 by omega) with rfl | rfl | rfl | rfl
  all_goals first | exact absurd rfl hxy | exact va_Nc.of (hs _ (by decide +kernel))
theorem cn_sta {args : Array Value} {s : State} {A : Nat → Prop} (hts : ∀ w ∈ lw_tbl, w.before args s = true) (h : (Jvm.Cond.and given_1 narrow_1).before args s = true) (hA : ∀ a : Nat, a < s.heap.size → ¬ A a) : am_sta A s := by
  have hs := flat_of_before _ h
  have hi : (Cond.initialized "java/lang/Throwable").before args s = true := hts _ (List.mem_of_getElem? (i := 56) (by decide +kernel))
  refine ⟨vx_Zqof (hts _ (List.mem_of_getElem? (i := 247) (by decide +kernel))) hi (hs (.isRef (.static "java/lang/Throwable" "UNASSIGNED_STACK" "[Ljava/lang/StackTraceElement;")) (by decide +kernel)) hA, vx_Zqof (hts _ (List.mem_of_getElem? (i := 249) (by decide +kernel))) hi (hs (.isRef (.static "java/lang/Throwable" "SUPPRESSED_SENTINEL" "Ljava/util/List;")) (by decide +kernel)) hA⟩
set_option maxRecDepth 100000 in
theorem cn_w (cA : FieldType → ClassId) (b L : Nat) (xs : Nat → Int32) (x0 x1 x2 x3 x4 x5 x6 x7 x8 x9 x10 x11 x12 x13 x14 x15 x16 x17 x18 x19 x20 x21 x22 x23 x24 x25 x26 y0 y1 y2 y3 y4 y5 y6 y7 y8 y9 y10 z0 : Nat) : am_w (cn_ad b [x0, x1, x2, x3, x4, x5, x6, x7, x8, x9, x10, x11, x12, x13, x14, x15, x16, x17, x18, x19, x20, x21, x22, x23, x24, x25, x26, y0, y1, y2, y3, y4, y5, y6, y7, y8, y9, y10, z0]) cA (cn_M L xs) = [(x0, .inr (4, [.ref x1, .ref x6, .ref x13, .ref x17, .ref x21, .ref x25, .int 0, .int 0])), (x1, .inr (0, [.ref x2, .ref x3, .ref x4, .ref x5, .int 1])), (x2, .inl (cA .int, 6, .inl (upd (fun _ => 0) 0 (-1)))), (x3, .inl (cA .int, 6, .inl (fun _ => 0))), (x4, .inl (cA .boolean, 6, .inl (upd (fun _ => 0) 0 (vp_nar .boolean 1)))), (x5, .inl (cA .int, 6, .inl (fun _ => 0))), (x6, .inr (3, [.ref x7, .ref x8, .ref x9, .ref x10, .ref x11, .ref x12, .int 0])), (x7, .inl (cA .int, 120, .inl (fun _ => 0))), (x8, .inl (cA .int, 120, .inl (fun _ => 0))), (x9, .inl (cA .int, 120, .inl (fun _ => 0))), (x10, .inl (cA .int, 120, .inl (fun _ => 0))), (x11, .inl (cA .int, 120, .inl (fun _ => 0))), (x12, .inl (cA .boolean, 120, .inl (fun _ => 0))), (x13, .inr (2, [.ref x14, .ref x15, .ref x16])), (x14, .inl (cA .int, 48, .inl (fun _ => 0))), (x15, .inl (cA .int, 48, .inl (fun _ => 0))), (x16, .inl (cA .int, 48, .inl (fun _ => 0))), (x17, .inr (2, [.ref x18, .ref x19, .ref x20])), (x18, .inl (cA .int, 48, .inl (fun _ => 0))), (x19, .inl (cA .int, 48, .inl (fun _ => 0))), (x20, .inl (cA .int, 48, .inl (fun _ => 0))), (x21, .inr (2, [.ref x22, .ref x23, .ref x24])), (x22, .inl (cA .int, 48, .inl (fun _ => 0))), (x23, .inl (cA .int, 48, .inl (fun _ => 0))), (x24, .inl (cA .int, 48, .inl (fun _ => 0))), (x25, .inr (1, [.ref x26, .int 0, .int 0, .int 0])), (x26, .inl (cA .char, 32, .inl (fun _ => 0))), (y0, .inr (5, [.int 0, .int 0, .int 0, .int 1, .ref y1, .ref y2, .ref y3, .int 0, .ref y4, .ref y5, .ref y6, .ref y7, .ref y8, .ref y9, .int 0, .ref y10, .int 0, .int 0])), (y1, .inl (cA .int, 6, .inl (upd (fun _ => 0) 0 (-1)))), (y2, .inl (cA .int, 6, .inl (fun _ => 0))), (y3, .inl (cA .boolean, 6, .inl (fun _ => 0))), (y4, .inl (cA .int, 120, .inl (fun _ => 0))), (y5, .inl (cA .int, 120, .inl (fun _ => 0))), (y6, .inl (cA .int, 120, .inl (fun _ => 0))), (y7, .inl (cA .int, 120, .inl (fun _ => 0))), (y8, .inl (cA .int, 120, .inl (fun _ => 0))), (y9, .inl (cA .boolean, 120, .inl (fun _ => 0))), (y10, .inl (cA .int, 32, .inl (fun _ => 0))), (z0, .inl (cA .long, 1, .inr (.inl (fun _ => 0))))] := by rfl
theorem cn_E {l : Launch} {D : va_G} {ad : Nat → Nat} {cA : FieldType → ClassId} {A : Nat → Prop} {p : Program} {e : Env} {s : State} {m : MethodId} {below : List Frame} {meth : Method} {c : Code} {b : Nat} {scr : Nat × (Nat → Int32)} (hx : p.tables.exec = Jvm.exec) (hb : c.code = code) (hr : meth.sig.returnType = ret) (hlk : meth.locks = false) (hA : ∀ q, A q → s.heap.size ≤ q) : am_E l D ad cA A 128 p e room_1 s m #[Value.ref b] below meth c scr (fun r _ => r = .inl (some (.int 1))) (39 + 512) (2030 + 6 * 512) (lw_Z below #[Value.ref b] s) := by
  refine ⟨?_, ?_, ?_⟩
  · intro v ty pc M H locs cells slots ls h1 h2 hd hQ hscr hP hS hb1 hb2
    have hv : v = 1 := by
      have h3 := Sum.inl.inj hQ
      have h4 := Option.some.inj h3
      injection h4
    subst hv
    refine va_forget (fun q hq => hA _ (hS.2.2 q hq)) (W.widen (k := 1078) (n := 10312) (by omega) (by omega) ?_)
    exact lw_ret hx hb hr hlk hd
  · intro pc M H locs cells slots ls h1
    exact absurd h1 (by decide)
  · intro x a M U locs _ _ _ hQ
    cases hQ
set_option maxHeartbeats 4000000 in
set_option maxRecDepth 100000 in
theorem whole_start {p : Program} {e : Env} {s : State} {m : MethodId} {below : List Frame} {meth : Method} {c : Code} (l : Launch) (hfl : l.flags = flags0) {b L : Nat} {xs : Nat → Int32} (hL : L ≤ 3072) (C0 : lw_At p s m meth c b L xs) (het : c.exceptionTable.toList = []) : W p l e room_1 s m #[Value.ref b] below meth c s.heap [] 0 0 (lw_Z below #[Value.ref b] s) (entryFrame m ([Value.ref b] : List Value).toArray 7) := by
  obtain ⟨hx, hb0, hr, hml, hown, hts, hX, hbl, hlk, hgv⟩ := C0
  have hb : c.code = am_bytes 128 := hb0
  have hown : s.vm.findClass "BranchedPastLaw" = some m.cls := hown
  have hg : ∀ w ∈ cn_G, w.before #[Value.ref b] s = true := fun w h => hts w (List.mem_filter.mp h).1
  obtain ⟨D, cA, hK⟩ := cn_known hg
  obtain ⟨A, hAe⟩ : ∃ A : Nat → Prop, A = fun q => s.heap.size ≤ q := ⟨_, rfl⟩
  have hA : ∀ q : Nat, s.heap.size ≤ q → A q := fun q h => by rw [hAe]; exact h
  have hA2 : ∀ q : Nat, A q → s.heap.size ≤ q := fun q h => by rw [hAe] at h; exact h
  have hS : va_S A s.heap s.heap [] := va_S.rf
  have hP : va_P D am_cl [] s.heap := fun k q h => by cases h
  have hD : va_D A [] := ⟨(fun i j p q h => by cases h), (fun k q h => by cases h)⟩
  have hl := lv_entry ([.ref b]) (n := 7) (Nat.le_of_ble_eq_true rfl)
  rw [lg_entry_eq]
  generalize (lg_sl ([.ref b]) ++ List.replicate (7 - (lg_sl ([.ref b])).length) Slot.unset).toArray = ls at hl ⊢
  have hl : lv_has ls 7 [(0, .ref b)] := hl
  refine va_new (D := D) (ci := 4) (fs := [.null, .null, .null, .null, .null, .null, .int 0, .int 0]) (C := "BranchedPast") (T := am_F4) (N := 8) hx hb hg (cn_lay (c := 4) (by decide)) am_ty4 am_tyok4 hown (hg _ cw_65) (hg _ cw_66) (hg _ cw_50) hK hP hD hS hA rfl (fun j hj => by rcases (show j = 0 ∨ j = 1 ∨ j = 2 ∨ j = 3 ∨ j = 4 ∨ j = 5 ∨ j = 6 ∨ j = 7 by omega) with rfl | rfl | rfl | rfl | rfl | rfl | rfl | rfl <;> rfl) (show 0 + 1 ≤ 1078 by decide) (show 0 + 8 ≤ 10312 by decide) d128_0 (fun x0 H hP hD hS => ?_)
  have hP : va_P D am_cl [(x0, .inr (4, [.null, .null, .null, .null, .null, .null, .int 0, .int 0]))] H := hP
  have hD : va_D A [(x0, .inr (4, [.null, .null, .null, .null, .null, .null, .int 0, .int 0]))] := hD
  refine W.widen (k := 1) (n := 8) (by decide) (by decide) ?_
  refine lv_dup hx hb d128_3 rfl ?_
  have hPc := hP.sub (ws' := [(x0, .inr (4, [.null, .null, .null, .null, .null, .null, .int 0, .int 0]))]) [0] rfl
  have hDc := hD.sub (ws' := [(x0, .inr (4, [.null, .null, .null, .null, .null, .null, .int 0, .int 0]))]) [0] (by decide) rfl
  have hFc := va_free (wc := [(x0, .inr (4, [.null, .null, .null, .null, .null, .null, .int 0, .int 0]))]) hD hS hA [0] rfl
  refine va_callv (va_runI (As := []) (rest := [.ref x0]) ⟨hx, hb, hml, hown, hg⟩ (n_Past l D cA x0 H.size) (cwI 0 hg (cn_good ck_4_in) rfl rfl rfl (hg _ cw_50) (hg _ cw_67) (hg _ cw_68) rfl (by decide +kernel) ⟨Nat.le_of_ble_eq_true rfl, Nat.le_of_ble_eq_true rfl⟩) ⟨fun a U g mk q => by obtain ⟨q0, q1, qP, qK, qD⟩ := q; exact ⟨q0, q1, qP, va_K.moved (u := U) (U := U.calling g mk a) (Vm.Alike.refl U.vm) qK, qD⟩, fun U hU hW => ⟨rfl, by rw [hU], by rw [hU]; exact hPc, va_K.moved hW.alike hK, hDc.weaken (fun _ _ _ _ => trivial)⟩⟩ rfl rfl hl.1 rfl (lv_room (Nat.le_of_ble_eq_true rfl)) d128_4 ⟨show 1 + 26 ≤ 1078 by decide, show 8 + 1233 ≤ 10312 by decide⟩) hS (fun q _ h => hFc q h) hFc (fun u t H1 locs ht hvm hu hB hz1 hk1 hS => ?_)
  obtain ⟨x1, x2, x3, x4, x5, x6, x7, x8, x9, x10, x11, x12, x13, x14, x15, x16, x17, x18, x19, x20, x21, x22, x23, x24, x25, x26, hP1, hD1⟩ := hB
  rw [ht] at hP1
  obtain ⟨hP, hD⟩ := va_join (wr := []) (w1 := [(x0, .inr (4, [.ref x1, .ref x6, .ref x13, .ref x17, .ref x21, .ref x25, .int 0, .int 0])), (x1, .inr (0, [.ref x2, .ref x3, .ref x4, .ref x5, .int 1])), (x2, .inl (cA .int, 6, .inl (upd (fun _ => 0) 0 (-1)))), (x3, .inl (cA .int, 6, .inl (fun _ => 0))), (x4, .inl (cA .boolean, 6, .inl (upd (fun _ => 0) 0 (vp_nar .boolean 1)))), (x5, .inl (cA .int, 6, .inl (fun _ => 0))), (x6, .inr (3, [.ref x7, .ref x8, .ref x9, .ref x10, .ref x11, .ref x12, .int 0])), (x7, .inl (cA .int, 120, .inl (fun _ => 0))), (x8, .inl (cA .int, 120, .inl (fun _ => 0))), (x9, .inl (cA .int, 120, .inl (fun _ => 0))), (x10, .inl (cA .int, 120, .inl (fun _ => 0))), (x11, .inl (cA .int, 120, .inl (fun _ => 0))), (x12, .inl (cA .boolean, 120, .inl (fun _ => 0))), (x13, .inr (2, [.ref x14, .ref x15, .ref x16])), (x14, .inl (cA .int, 48, .inl (fun _ => 0))), (x15, .inl (cA .int, 48, .inl (fun _ => 0))), (x16, .inl (cA .int, 48, .inl (fun _ => 0))), (x17, .inr (2, [.ref x18, .ref x19, .ref x20])), (x18, .inl (cA .int, 48, .inl (fun _ => 0))), (x19, .inl (cA .int, 48, .inl (fun _ => 0))), (x20, .inl (cA .int, 48, .inl (fun _ => 0))), (x21, .inr (2, [.ref x22, .ref x23, .ref x24])), (x22, .inl (cA .int, 48, .inl (fun _ => 0))), (x23, .inl (cA .int, 48, .inl (fun _ => 0))), (x24, .inl (cA .int, 48, .inl (fun _ => 0))), (x25, .inr (1, [.ref x26, .int 0, .int 0, .int 0])), (x26, .inl (cA .char, 32, .inl (fun _ => 0)))]) hP hD [0] [] rfl rfl (by decide) (by decide) hk1 hFc hP1 hD1
  generalize H1 = H at hP hS ⊢
  have hP : va_P D am_cl [(x0, .inr (4, [.ref x1, .ref x6, .ref x13, .ref x17, .ref x21, .ref x25, .int 0, .int 0])), (x1, .inr (0, [.ref x2, .ref x3, .ref x4, .ref x5, .int 1])), (x2, .inl (cA .int, 6, .inl (upd (fun _ => 0) 0 (-1)))), (x3, .inl (cA .int, 6, .inl (fun _ => 0))), (x4, .inl (cA .boolean, 6, .inl (upd (fun _ => 0) 0 (vp_nar .boolean 1)))), (x5, .inl (cA .int, 6, .inl (fun _ => 0))), (x6, .inr (3, [.ref x7, .ref x8, .ref x9, .ref x10, .ref x11, .ref x12, .int 0])), (x7, .inl (cA .int, 120, .inl (fun _ => 0))), (x8, .inl (cA .int, 120, .inl (fun _ => 0))), (x9, .inl (cA .int, 120, .inl (fun _ => 0))), (x10, .inl (cA .int, 120, .inl (fun _ => 0))), (x11, .inl (cA .int, 120, .inl (fun _ => 0))), (x12, .inl (cA .boolean, 120, .inl (fun _ => 0))), (x13, .inr (2, [.ref x14, .ref x15, .ref x16])), (x14, .inl (cA .int, 48, .inl (fun _ => 0))), (x15, .inl (cA .int, 48, .inl (fun _ => 0))), (x16, .inl (cA .int, 48, .inl (fun _ => 0))), (x17, .inr (2, [.ref x18, .ref x19, .ref x20])), (x18, .inl (cA .int, 48, .inl (fun _ => 0))), (x19, .inl (cA .int, 48, .inl (fun _ => 0))), (x20, .inl (cA .int, 48, .inl (fun _ => 0))), (x21, .inr (2, [.ref x22, .ref x23, .ref x24])), (x22, .inl (cA .int, 48, .inl (fun _ => 0))), (x23, .inl (cA .int, 48, .inl (fun _ => 0))), (x24, .inl (cA .int, 48, .inl (fun _ => 0))), (x25, .inr (1, [.ref x26, .int 0, .int 0, .int 0])), (x26, .inl (cA .char, 32, .inl (fun _ => 0)))] H := hP
  have hD : va_D A [(x0, .inr (4, [.ref x1, .ref x6, .ref x13, .ref x17, .ref x21, .ref x25, .int 0, .int 0])), (x1, .inr (0, [.ref x2, .ref x3, .ref x4, .ref x5, .int 1])), (x2, .inl (cA .int, 6, .inl (upd (fun _ => 0) 0 (-1)))), (x3, .inl (cA .int, 6, .inl (fun _ => 0))), (x4, .inl (cA .boolean, 6, .inl (upd (fun _ => 0) 0 (vp_nar .boolean 1)))), (x5, .inl (cA .int, 6, .inl (fun _ => 0))), (x6, .inr (3, [.ref x7, .ref x8, .ref x9, .ref x10, .ref x11, .ref x12, .int 0])), (x7, .inl (cA .int, 120, .inl (fun _ => 0))), (x8, .inl (cA .int, 120, .inl (fun _ => 0))), (x9, .inl (cA .int, 120, .inl (fun _ => 0))), (x10, .inl (cA .int, 120, .inl (fun _ => 0))), (x11, .inl (cA .int, 120, .inl (fun _ => 0))), (x12, .inl (cA .boolean, 120, .inl (fun _ => 0))), (x13, .inr (2, [.ref x14, .ref x15, .ref x16])), (x14, .inl (cA .int, 48, .inl (fun _ => 0))), (x15, .inl (cA .int, 48, .inl (fun _ => 0))), (x16, .inl (cA .int, 48, .inl (fun _ => 0))), (x17, .inr (2, [.ref x18, .ref x19, .ref x20])), (x18, .inl (cA .int, 48, .inl (fun _ => 0))), (x19, .inl (cA .int, 48, .inl (fun _ => 0))), (x20, .inl (cA .int, 48, .inl (fun _ => 0))), (x21, .inr (2, [.ref x22, .ref x23, .ref x24])), (x22, .inl (cA .int, 48, .inl (fun _ => 0))), (x23, .inl (cA .int, 48, .inl (fun _ => 0))), (x24, .inl (cA .int, 48, .inl (fun _ => 0))), (x25, .inr (1, [.ref x26, .int 0, .int 0, .int 0])), (x26, .inl (cA .char, 32, .inl (fun _ => 0)))] := hD
  refine W.widen (k := 27) (n := 1241) (by decide) (by decide) ?_
  refine lv_astore_n hx hb d128_7 rfl hl (by decide) rfl (fun ls hl => ?_)
  have hl : lv_has ls 7 [(1, .ref x0), (0, .ref b)] := hl
  refine va_new (D := D) (ci := 5) (fs := [.int 0, .int 0, .int 0, .int 0, .null, .null, .null, .int 0, .null, .null, .null, .null, .null, .null, .int 0, .null, .int 0, .int 0]) (C := "BranchedPastModel") (T := am_F5) (N := 18) hx hb hg (cn_lay (c := 5) (by decide)) am_ty5 am_tyok5 hown (hg _ cw_660) (hg _ cw_661) (hg _ cw_55) hK hP hD hS hA rfl (fun j hj => by rcases (show j = 0 ∨ j = 1 ∨ j = 2 ∨ j = 3 ∨ j = 4 ∨ j = 5 ∨ j = 6 ∨ j = 7 ∨ j = 8 ∨ j = 9 ∨ j = 10 ∨ j = 11 ∨ j = 12 ∨ j = 13 ∨ j = 14 ∨ j = 15 ∨ j = 16 ∨ j = 17 by omega) with rfl | rfl | rfl | rfl | rfl | rfl | rfl | rfl | rfl | rfl | rfl | rfl | rfl | rfl | rfl | rfl | rfl | rfl <;> rfl) (show 27 + 1 ≤ 1078 by decide) (show 1241 + 18 ≤ 10312 by decide) d128_8 (fun y0 H hP hD hS => ?_)
  have hP : va_P D am_cl [(x0, .inr (4, [.ref x1, .ref x6, .ref x13, .ref x17, .ref x21, .ref x25, .int 0, .int 0])), (x1, .inr (0, [.ref x2, .ref x3, .ref x4, .ref x5, .int 1])), (x2, .inl (cA .int, 6, .inl (upd (fun _ => 0) 0 (-1)))), (x3, .inl (cA .int, 6, .inl (fun _ => 0))), (x4, .inl (cA .boolean, 6, .inl (upd (fun _ => 0) 0 (vp_nar .boolean 1)))), (x5, .inl (cA .int, 6, .inl (fun _ => 0))), (x6, .inr (3, [.ref x7, .ref x8, .ref x9, .ref x10, .ref x11, .ref x12, .int 0])), (x7, .inl (cA .int, 120, .inl (fun _ => 0))), (x8, .inl (cA .int, 120, .inl (fun _ => 0))), (x9, .inl (cA .int, 120, .inl (fun _ => 0))), (x10, .inl (cA .int, 120, .inl (fun _ => 0))), (x11, .inl (cA .int, 120, .inl (fun _ => 0))), (x12, .inl (cA .boolean, 120, .inl (fun _ => 0))), (x13, .inr (2, [.ref x14, .ref x15, .ref x16])), (x14, .inl (cA .int, 48, .inl (fun _ => 0))), (x15, .inl (cA .int, 48, .inl (fun _ => 0))), (x16, .inl (cA .int, 48, .inl (fun _ => 0))), (x17, .inr (2, [.ref x18, .ref x19, .ref x20])), (x18, .inl (cA .int, 48, .inl (fun _ => 0))), (x19, .inl (cA .int, 48, .inl (fun _ => 0))), (x20, .inl (cA .int, 48, .inl (fun _ => 0))), (x21, .inr (2, [.ref x22, .ref x23, .ref x24])), (x22, .inl (cA .int, 48, .inl (fun _ => 0))), (x23, .inl (cA .int, 48, .inl (fun _ => 0))), (x24, .inl (cA .int, 48, .inl (fun _ => 0))), (x25, .inr (1, [.ref x26, .int 0, .int 0, .int 0])), (x26, .inl (cA .char, 32, .inl (fun _ => 0))), (y0, .inr (5, [.int 0, .int 0, .int 0, .int 0, .null, .null, .null, .int 0, .null, .null, .null, .null, .null, .null, .int 0, .null, .int 0, .int 0]))] H := hP
  have hD : va_D A [(x0, .inr (4, [.ref x1, .ref x6, .ref x13, .ref x17, .ref x21, .ref x25, .int 0, .int 0])), (x1, .inr (0, [.ref x2, .ref x3, .ref x4, .ref x5, .int 1])), (x2, .inl (cA .int, 6, .inl (upd (fun _ => 0) 0 (-1)))), (x3, .inl (cA .int, 6, .inl (fun _ => 0))), (x4, .inl (cA .boolean, 6, .inl (upd (fun _ => 0) 0 (vp_nar .boolean 1)))), (x5, .inl (cA .int, 6, .inl (fun _ => 0))), (x6, .inr (3, [.ref x7, .ref x8, .ref x9, .ref x10, .ref x11, .ref x12, .int 0])), (x7, .inl (cA .int, 120, .inl (fun _ => 0))), (x8, .inl (cA .int, 120, .inl (fun _ => 0))), (x9, .inl (cA .int, 120, .inl (fun _ => 0))), (x10, .inl (cA .int, 120, .inl (fun _ => 0))), (x11, .inl (cA .int, 120, .inl (fun _ => 0))), (x12, .inl (cA .boolean, 120, .inl (fun _ => 0))), (x13, .inr (2, [.ref x14, .ref x15, .ref x16])), (x14, .inl (cA .int, 48, .inl (fun _ => 0))), (x15, .inl (cA .int, 48, .inl (fun _ => 0))), (x16, .inl (cA .int, 48, .inl (fun _ => 0))), (x17, .inr (2, [.ref x18, .ref x19, .ref x20])), (x18, .inl (cA .int, 48, .inl (fun _ => 0))), (x19, .inl (cA .int, 48, .inl (fun _ => 0))), (x20, .inl (cA .int, 48, .inl (fun _ => 0))), (x21, .inr (2, [.ref x22, .ref x23, .ref x24])), (x22, .inl (cA .int, 48, .inl (fun _ => 0))), (x23, .inl (cA .int, 48, .inl (fun _ => 0))), (x24, .inl (cA .int, 48, .inl (fun _ => 0))), (x25, .inr (1, [.ref x26, .int 0, .int 0, .int 0])), (x26, .inl (cA .char, 32, .inl (fun _ => 0))), (y0, .inr (5, [.int 0, .int 0, .int 0, .int 0, .null, .null, .null, .int 0, .null, .null, .null, .null, .null, .null, .int 0, .null, .int 0, .int 0]))] := hD
  refine W.widen (k := 28) (n := 1259) (by decide) (by decide) ?_
  refine lv_dup hx hb d128_11 rfl ?_
  have hPc := hP.sub (ws' := [(y0, .inr (5, [.int 0, .int 0, .int 0, .int 0, .null, .null, .null, .int 0, .null, .null, .null, .null, .null, .null, .int 0, .null, .int 0, .int 0]))]) [27] rfl
  have hDc := hD.sub (ws' := [(y0, .inr (5, [.int 0, .int 0, .int 0, .int 0, .null, .null, .null, .int 0, .null, .null, .null, .null, .null, .null, .int 0, .null, .int 0, .int 0]))]) [27] (by decide) rfl
  have hFc := va_free (wc := [(y0, .inr (5, [.int 0, .int 0, .int 0, .int 0, .null, .null, .null, .int 0, .null, .null, .null, .null, .null, .null, .int 0, .null, .int 0, .int 0]))]) hD hS hA [27] rfl
  refine va_callv (va_runI (As := []) (rest := [.ref y0]) ⟨hx, hb, hml, hown, hg⟩ (n_Model l D cA y0 H.size) (cwI 0 hg (cn_good ck_5_in) rfl rfl rfl (hg _ cw_55) (hg _ cw_662) (hg _ cw_663) rfl (by decide +kernel) ⟨Nat.le_of_ble_eq_true rfl, Nat.le_of_ble_eq_true rfl⟩) ⟨fun a U g mk q => by obtain ⟨q0, q1, qP, qK, qD⟩ := q; exact ⟨q0, q1, qP, va_K.moved (u := U) (U := U.calling g mk a) (Vm.Alike.refl U.vm) qK, qD⟩, fun U hU hW => ⟨rfl, by rw [hU], by rw [hU]; exact hPc, va_K.moved hW.alike hK, hDc.weaken (fun _ _ _ _ => trivial)⟩⟩ rfl rfl hl.1 rfl (lv_room (Nat.le_of_ble_eq_true rfl)) d128_12 ⟨show 28 + 10 ≤ 1078 by decide, show 1259 + 770 ≤ 10312 by decide⟩) hS (fun q _ h => hFc q h) hFc (fun u t H1 locs ht hvm hu hB hz1 hk1 hS => ?_)
  obtain ⟨y1, y2, y3, y4, y5, y6, y7, y8, y9, y10, hP1, hD1⟩ := hB
  rw [ht] at hP1
  obtain ⟨hP, hD⟩ := va_join (wr := [(x0, .inr (4, [.ref x1, .ref x6, .ref x13, .ref x17, .ref x21, .ref x25, .int 0, .int 0])), (x1, .inr (0, [.ref x2, .ref x3, .ref x4, .ref x5, .int 1])), (x2, .inl (cA .int, 6, .inl (upd (fun _ => 0) 0 (-1)))), (x3, .inl (cA .int, 6, .inl (fun _ => 0))), (x4, .inl (cA .boolean, 6, .inl (upd (fun _ => 0) 0 (vp_nar .boolean 1)))), (x5, .inl (cA .int, 6, .inl (fun _ => 0))), (x6, .inr (3, [.ref x7, .ref x8, .ref x9, .ref x10, .ref x11, .ref x12, .int 0])), (x7, .inl (cA .int, 120, .inl (fun _ => 0))), (x8, .inl (cA .int, 120, .inl (fun _ => 0))), (x9, .inl (cA .int, 120, .inl (fun _ => 0))), (x10, .inl (cA .int, 120, .inl (fun _ => 0))), (x11, .inl (cA .int, 120, .inl (fun _ => 0))), (x12, .inl (cA .boolean, 120, .inl (fun _ => 0))), (x13, .inr (2, [.ref x14, .ref x15, .ref x16])), (x14, .inl (cA .int, 48, .inl (fun _ => 0))), (x15, .inl (cA .int, 48, .inl (fun _ => 0))), (x16, .inl (cA .int, 48, .inl (fun _ => 0))), (x17, .inr (2, [.ref x18, .ref x19, .ref x20])), (x18, .inl (cA .int, 48, .inl (fun _ => 0))), (x19, .inl (cA .int, 48, .inl (fun _ => 0))), (x20, .inl (cA .int, 48, .inl (fun _ => 0))), (x21, .inr (2, [.ref x22, .ref x23, .ref x24])), (x22, .inl (cA .int, 48, .inl (fun _ => 0))), (x23, .inl (cA .int, 48, .inl (fun _ => 0))), (x24, .inl (cA .int, 48, .inl (fun _ => 0))), (x25, .inr (1, [.ref x26, .int 0, .int 0, .int 0])), (x26, .inl (cA .char, 32, .inl (fun _ => 0)))]) (w1 := [(y0, .inr (5, [.int 0, .int 0, .int 0, .int 1, .ref y1, .ref y2, .ref y3, .int 0, .ref y4, .ref y5, .ref y6, .ref y7, .ref y8, .ref y9, .int 0, .ref y10, .int 0, .int 0])), (y1, .inl (cA .int, 6, .inl (upd (fun _ => 0) 0 (-1)))), (y2, .inl (cA .int, 6, .inl (fun _ => 0))), (y3, .inl (cA .boolean, 6, .inl (fun _ => 0))), (y4, .inl (cA .int, 120, .inl (fun _ => 0))), (y5, .inl (cA .int, 120, .inl (fun _ => 0))), (y6, .inl (cA .int, 120, .inl (fun _ => 0))), (y7, .inl (cA .int, 120, .inl (fun _ => 0))), (y8, .inl (cA .int, 120, .inl (fun _ => 0))), (y9, .inl (cA .boolean, 120, .inl (fun _ => 0))), (y10, .inl (cA .int, 32, .inl (fun _ => 0)))]) hP hD [27] [0, 1, 2, 3, 4, 5, 6, 7, 8, 9, 10, 11, 12, 13, 14, 15, 16, 17, 18, 19, 20, 21, 22, 23, 24, 25, 26] rfl rfl (by decide) (by decide) hk1 hFc hP1 hD1
  generalize H1 = H at hP hS ⊢
  have hP : va_P D am_cl [(x0, .inr (4, [.ref x1, .ref x6, .ref x13, .ref x17, .ref x21, .ref x25, .int 0, .int 0])), (x1, .inr (0, [.ref x2, .ref x3, .ref x4, .ref x5, .int 1])), (x2, .inl (cA .int, 6, .inl (upd (fun _ => 0) 0 (-1)))), (x3, .inl (cA .int, 6, .inl (fun _ => 0))), (x4, .inl (cA .boolean, 6, .inl (upd (fun _ => 0) 0 (vp_nar .boolean 1)))), (x5, .inl (cA .int, 6, .inl (fun _ => 0))), (x6, .inr (3, [.ref x7, .ref x8, .ref x9, .ref x10, .ref x11, .ref x12, .int 0])), (x7, .inl (cA .int, 120, .inl (fun _ => 0))), (x8, .inl (cA .int, 120, .inl (fun _ => 0))), (x9, .inl (cA .int, 120, .inl (fun _ => 0))), (x10, .inl (cA .int, 120, .inl (fun _ => 0))), (x11, .inl (cA .int, 120, .inl (fun _ => 0))), (x12, .inl (cA .boolean, 120, .inl (fun _ => 0))), (x13, .inr (2, [.ref x14, .ref x15, .ref x16])), (x14, .inl (cA .int, 48, .inl (fun _ => 0))), (x15, .inl (cA .int, 48, .inl (fun _ => 0))), (x16, .inl (cA .int, 48, .inl (fun _ => 0))), (x17, .inr (2, [.ref x18, .ref x19, .ref x20])), (x18, .inl (cA .int, 48, .inl (fun _ => 0))), (x19, .inl (cA .int, 48, .inl (fun _ => 0))), (x20, .inl (cA .int, 48, .inl (fun _ => 0))), (x21, .inr (2, [.ref x22, .ref x23, .ref x24])), (x22, .inl (cA .int, 48, .inl (fun _ => 0))), (x23, .inl (cA .int, 48, .inl (fun _ => 0))), (x24, .inl (cA .int, 48, .inl (fun _ => 0))), (x25, .inr (1, [.ref x26, .int 0, .int 0, .int 0])), (x26, .inl (cA .char, 32, .inl (fun _ => 0))), (y0, .inr (5, [.int 0, .int 0, .int 0, .int 1, .ref y1, .ref y2, .ref y3, .int 0, .ref y4, .ref y5, .ref y6, .ref y7, .ref y8, .ref y9, .int 0, .ref y10, .int 0, .int 0])), (y1, .inl (cA .int, 6, .inl (upd (fun _ => 0) 0 (-1)))), (y2, .inl (cA .int, 6, .inl (fun _ => 0))), (y3, .inl (cA .boolean, 6, .inl (fun _ => 0))), (y4, .inl (cA .int, 120, .inl (fun _ => 0))), (y5, .inl (cA .int, 120, .inl (fun _ => 0))), (y6, .inl (cA .int, 120, .inl (fun _ => 0))), (y7, .inl (cA .int, 120, .inl (fun _ => 0))), (y8, .inl (cA .int, 120, .inl (fun _ => 0))), (y9, .inl (cA .boolean, 120, .inl (fun _ => 0))), (y10, .inl (cA .int, 32, .inl (fun _ => 0)))] H := hP
  have hD : va_D A [(x0, .inr (4, [.ref x1, .ref x6, .ref x13, .ref x17, .ref x21, .ref x25, .int 0, .int 0])), (x1, .inr (0, [.ref x2, .ref x3, .ref x4, .ref x5, .int 1])), (x2, .inl (cA .int, 6, .inl (upd (fun _ => 0) 0 (-1)))), (x3, .inl (cA .int, 6, .inl (fun _ => 0))), (x4, .inl (cA .boolean, 6, .inl (upd (fun _ => 0) 0 (vp_nar .boolean 1)))), (x5, .inl (cA .int, 6, .inl (fun _ => 0))), (x6, .inr (3, [.ref x7, .ref x8, .ref x9, .ref x10, .ref x11, .ref x12, .int 0])), (x7, .inl (cA .int, 120, .inl (fun _ => 0))), (x8, .inl (cA .int, 120, .inl (fun _ => 0))), (x9, .inl (cA .int, 120, .inl (fun _ => 0))), (x10, .inl (cA .int, 120, .inl (fun _ => 0))), (x11, .inl (cA .int, 120, .inl (fun _ => 0))), (x12, .inl (cA .boolean, 120, .inl (fun _ => 0))), (x13, .inr (2, [.ref x14, .ref x15, .ref x16])), (x14, .inl (cA .int, 48, .inl (fun _ => 0))), (x15, .inl (cA .int, 48, .inl (fun _ => 0))), (x16, .inl (cA .int, 48, .inl (fun _ => 0))), (x17, .inr (2, [.ref x18, .ref x19, .ref x20])), (x18, .inl (cA .int, 48, .inl (fun _ => 0))), (x19, .inl (cA .int, 48, .inl (fun _ => 0))), (x20, .inl (cA .int, 48, .inl (fun _ => 0))), (x21, .inr (2, [.ref x22, .ref x23, .ref x24])), (x22, .inl (cA .int, 48, .inl (fun _ => 0))), (x23, .inl (cA .int, 48, .inl (fun _ => 0))), (x24, .inl (cA .int, 48, .inl (fun _ => 0))), (x25, .inr (1, [.ref x26, .int 0, .int 0, .int 0])), (x26, .inl (cA .char, 32, .inl (fun _ => 0))), (y0, .inr (5, [.int 0, .int 0, .int 0, .int 1, .ref y1, .ref y2, .ref y3, .int 0, .ref y4, .ref y5, .ref y6, .ref y7, .ref y8, .ref y9, .int 0, .ref y10, .int 0, .int 0])), (y1, .inl (cA .int, 6, .inl (upd (fun _ => 0) 0 (-1)))), (y2, .inl (cA .int, 6, .inl (fun _ => 0))), (y3, .inl (cA .boolean, 6, .inl (fun _ => 0))), (y4, .inl (cA .int, 120, .inl (fun _ => 0))), (y5, .inl (cA .int, 120, .inl (fun _ => 0))), (y6, .inl (cA .int, 120, .inl (fun _ => 0))), (y7, .inl (cA .int, 120, .inl (fun _ => 0))), (y8, .inl (cA .int, 120, .inl (fun _ => 0))), (y9, .inl (cA .boolean, 120, .inl (fun _ => 0))), (y10, .inl (cA .int, 32, .inl (fun _ => 0)))] := hD
  refine W.widen (k := 38) (n := 2029) (by decide) (by decide) ?_
  refine lv_astore_n hx hb d128_15 rfl hl (by decide) rfl (fun ls hl => ?_)
  have hl : lv_has ls 7 [(2, .ref y0), (1, .ref x0), (0, .ref b)] := hl
  refine lv_iconst (v := 1) hx hb d128_16 (by decide) ?_
  refine cn_newa (D := D) (atype := .long) (cT := cA .long) (ty := .long) (N' := 1) (a0 := (1, .inr (.inl (fun _ => 0)))) hx hb (hg _ cw_892) rfl hK hP hD hS hA 3 rfl (fun _ h => h) (fun _ => rfl) (by decide) (by decide) (by decide) (show 38 + 1 ≤ 1078 by decide) (show 2029 + 1 ≤ 10312 by decide) d128_17 (fun z0 H hP hD hS => ?_)
  have hP : va_P D am_cl [(x0, .inr (4, [.ref x1, .ref x6, .ref x13, .ref x17, .ref x21, .ref x25, .int 0, .int 0])), (x1, .inr (0, [.ref x2, .ref x3, .ref x4, .ref x5, .int 1])), (x2, .inl (cA .int, 6, .inl (upd (fun _ => 0) 0 (-1)))), (x3, .inl (cA .int, 6, .inl (fun _ => 0))), (x4, .inl (cA .boolean, 6, .inl (upd (fun _ => 0) 0 (vp_nar .boolean 1)))), (x5, .inl (cA .int, 6, .inl (fun _ => 0))), (x6, .inr (3, [.ref x7, .ref x8, .ref x9, .ref x10, .ref x11, .ref x12, .int 0])), (x7, .inl (cA .int, 120, .inl (fun _ => 0))), (x8, .inl (cA .int, 120, .inl (fun _ => 0))), (x9, .inl (cA .int, 120, .inl (fun _ => 0))), (x10, .inl (cA .int, 120, .inl (fun _ => 0))), (x11, .inl (cA .int, 120, .inl (fun _ => 0))), (x12, .inl (cA .boolean, 120, .inl (fun _ => 0))), (x13, .inr (2, [.ref x14, .ref x15, .ref x16])), (x14, .inl (cA .int, 48, .inl (fun _ => 0))), (x15, .inl (cA .int, 48, .inl (fun _ => 0))), (x16, .inl (cA .int, 48, .inl (fun _ => 0))), (x17, .inr (2, [.ref x18, .ref x19, .ref x20])), (x18, .inl (cA .int, 48, .inl (fun _ => 0))), (x19, .inl (cA .int, 48, .inl (fun _ => 0))), (x20, .inl (cA .int, 48, .inl (fun _ => 0))), (x21, .inr (2, [.ref x22, .ref x23, .ref x24])), (x22, .inl (cA .int, 48, .inl (fun _ => 0))), (x23, .inl (cA .int, 48, .inl (fun _ => 0))), (x24, .inl (cA .int, 48, .inl (fun _ => 0))), (x25, .inr (1, [.ref x26, .int 0, .int 0, .int 0])), (x26, .inl (cA .char, 32, .inl (fun _ => 0))), (y0, .inr (5, [.int 0, .int 0, .int 0, .int 1, .ref y1, .ref y2, .ref y3, .int 0, .ref y4, .ref y5, .ref y6, .ref y7, .ref y8, .ref y9, .int 0, .ref y10, .int 0, .int 0])), (y1, .inl (cA .int, 6, .inl (upd (fun _ => 0) 0 (-1)))), (y2, .inl (cA .int, 6, .inl (fun _ => 0))), (y3, .inl (cA .boolean, 6, .inl (fun _ => 0))), (y4, .inl (cA .int, 120, .inl (fun _ => 0))), (y5, .inl (cA .int, 120, .inl (fun _ => 0))), (y6, .inl (cA .int, 120, .inl (fun _ => 0))), (y7, .inl (cA .int, 120, .inl (fun _ => 0))), (y8, .inl (cA .int, 120, .inl (fun _ => 0))), (y9, .inl (cA .boolean, 120, .inl (fun _ => 0))), (y10, .inl (cA .int, 32, .inl (fun _ => 0))), (z0, .inl (cA .long, 1, .inr (.inl (fun _ => 0))))] H := hP
  have hD : va_D A [(x0, .inr (4, [.ref x1, .ref x6, .ref x13, .ref x17, .ref x21, .ref x25, .int 0, .int 0])), (x1, .inr (0, [.ref x2, .ref x3, .ref x4, .ref x5, .int 1])), (x2, .inl (cA .int, 6, .inl (upd (fun _ => 0) 0 (-1)))), (x3, .inl (cA .int, 6, .inl (fun _ => 0))), (x4, .inl (cA .boolean, 6, .inl (upd (fun _ => 0) 0 (vp_nar .boolean 1)))), (x5, .inl (cA .int, 6, .inl (fun _ => 0))), (x6, .inr (3, [.ref x7, .ref x8, .ref x9, .ref x10, .ref x11, .ref x12, .int 0])), (x7, .inl (cA .int, 120, .inl (fun _ => 0))), (x8, .inl (cA .int, 120, .inl (fun _ => 0))), (x9, .inl (cA .int, 120, .inl (fun _ => 0))), (x10, .inl (cA .int, 120, .inl (fun _ => 0))), (x11, .inl (cA .int, 120, .inl (fun _ => 0))), (x12, .inl (cA .boolean, 120, .inl (fun _ => 0))), (x13, .inr (2, [.ref x14, .ref x15, .ref x16])), (x14, .inl (cA .int, 48, .inl (fun _ => 0))), (x15, .inl (cA .int, 48, .inl (fun _ => 0))), (x16, .inl (cA .int, 48, .inl (fun _ => 0))), (x17, .inr (2, [.ref x18, .ref x19, .ref x20])), (x18, .inl (cA .int, 48, .inl (fun _ => 0))), (x19, .inl (cA .int, 48, .inl (fun _ => 0))), (x20, .inl (cA .int, 48, .inl (fun _ => 0))), (x21, .inr (2, [.ref x22, .ref x23, .ref x24])), (x22, .inl (cA .int, 48, .inl (fun _ => 0))), (x23, .inl (cA .int, 48, .inl (fun _ => 0))), (x24, .inl (cA .int, 48, .inl (fun _ => 0))), (x25, .inr (1, [.ref x26, .int 0, .int 0, .int 0])), (x26, .inl (cA .char, 32, .inl (fun _ => 0))), (y0, .inr (5, [.int 0, .int 0, .int 0, .int 1, .ref y1, .ref y2, .ref y3, .int 0, .ref y4, .ref y5, .ref y6, .ref y7, .ref y8, .ref y9, .int 0, .ref y10, .int 0, .int 0])), (y1, .inl (cA .int, 6, .inl (upd (fun _ => 0) 0 (-1)))), (y2, .inl (cA .int, 6, .inl (fun _ => 0))), (y3, .inl (cA .boolean, 6, .inl (fun _ => 0))), (y4, .inl (cA .int, 120, .inl (fun _ => 0))), (y5, .inl (cA .int, 120, .inl (fun _ => 0))), (y6, .inl (cA .int, 120, .inl (fun _ => 0))), (y7, .inl (cA .int, 120, .inl (fun _ => 0))), (y8, .inl (cA .int, 120, .inl (fun _ => 0))), (y9, .inl (cA .boolean, 120, .inl (fun _ => 0))), (y10, .inl (cA .int, 32, .inl (fun _ => 0))), (z0, .inl (cA .long, 1, .inr (.inl (fun _ => 0))))] := hD
  refine W.widen (k := 39) (n := 2030) (by decide) (by decide) ?_
  refine lv_astore_n hx hb d128_19 rfl hl (by decide) rfl (fun ls hl => ?_)
  have hl : lv_has ls 7 [(3, .ref z0), (2, .ref y0), (1, .ref x0), (0, .ref b)] := hl
  refine lv_iconst (v := nI 0) hx hb d128_20 (by decide) ?_
  refine lv_istore hx hb d128_21 hl (by decide) rfl (fun ls hl => ?_)
  have hl : lv_has ls 7 [(4, .int (nI 0)), (3, .ref z0), (2, .ref y0), (1, .ref x0), (0, .ref b)] := hl
  rw [← cn_w cA b L xs] at hP hD
  have hgo := am_go (l := l) (lw_loop (Q := fun r _ => r = .inl (some (.int 1))) (fun _ => rfl) 512 0 (cn_M L xs) (fun _ => 0) 1 0 0 0 (fun _ => 0) .null .null (cn_RL L xs) (by show L < _; omega) (by show L < _; omega) (by decide) (Nat.le_refl 512) (by decide))
  refine hgo D (cn_ad b [x0, x1, x2, x3, x4, x5, x6, x7, x8, x9, x10, x11, x12, x13, x14, x15, x16, x17, x18, x19, x20, x21, x22, x23, x24, x25, x26, y0, y1, y2, y3, y4, y5, y6, y7, y8, y9, y10, z0]) cA A p e room_1 s m #[Value.ref b] below meth c (39 + 512) (2030 + 6 * 512) (lw_Z below #[Value.ref b] s) _ _ 39 2030 ls ?_ (cn_E hx hb0 hr hlk hA2) ?_ hP hS rfl rfl
  · refine ⟨hx, hb, hr, hml, hown, fun w h => hts w (List.mem_filter.mp h).1, hlk, by rw [het]; rfl, hK, fun M => am_D hD, hA, hfl, by decide, by decide, by decide, by decide, hX, hbl, fun h => ?_, cn_sta hts hgv (fun a h1 h2 => ?_), cn_ncs hgv⟩
    · have := hA2 _ h
      have hbl : (cn_ad b [x0, x1, x2, x3, x4, x5, x6, x7, x8, x9, x10, x11, x12, x13, x14, x15, x16, x17, x18, x19, x20, x21, x22, x23, x24, x25, x26, y0, y1, y2, y3, y4, y5, y6, y7, y8, y9, y10, z0]) am_SC < s.heap.size := hbl
      omega
    · have := hA2 _ h2
      omega
  · refine ⟨rfl, hl.1, hl.2.1, fun q hq => hl.2.2 q ?_⟩
    have e : am_al (cn_ad b [x0, x1, x2, x3, x4, x5, x6, x7, x8, x9, x10, x11, x12, x13, x14, x15, x16, x17, x18, x19, x20, x21, x22, x23, x24, x25, x26, y0, y1, y2, y3, y4, y5, y6, y7, y8, y9, y10, z0]) [.ref am_SC, .ref 0, .ref 27, .ref 38, .int (nI 0), .null, .null] = [(0, .ref b), (1, .ref x0), (2, .ref y0), (3, .ref z0), (4, .int (nI 0))] := rfl
    rw [e] at hq
    simp only [List.mem_cons, List.not_mem_nil, or_false] at hq ⊢
    rcases hq with h | h | h | h | h
    · exact Or.inr (Or.inr (Or.inr (Or.inr h)))
    · exact Or.inr (Or.inr (Or.inr (Or.inl h)))
    · exact Or.inr (Or.inr (Or.inl h))
    · exact Or.inr (Or.inl h)
    · exact Or.inl h
set_option maxHeartbeats 4000000 in
theorem lw_walk (l : Launch) (hfl : l.flags = flags0) (b : Addr) (xs : List Int32) : MetFree l x (headSpec (Jvm.Cond.code x code maxLocals ret :: tables_1) room_1) (lw_P b xs) (fun _ _ _ _ _ => True) lw_Q := by
  refine MetFree.of_bodyS (code := code) (maxLocals := maxLocals) (ret := ret) (by decide) ?_ ?_
  · intro args s m h hn
    obtain ⟨meth, c, h1, h2, h3, h4, h5, h6, -, -⟩ := Cond.code_spec hn (atoms_spec (ws := Jvm.Cond.code x code maxLocals ret :: tables_1) h _ List.mem_cons_self)
    exact ⟨meth, c, h1, h2, h3, h4, h5, h6⟩
  · intro p e s m args below meth c s₁ B hml0 hP _
    obtain ⟨rfl, hx, hbd, hgv⟩ := hP
    obtain ⟨scr, harrAt, hlist, hof, hsmall⟩ := hx
    obtain ⟨hcb, hkn, -, -⟩ := State.arrayAt?_spec harrAt
    have hown : s.vm.findClass R_law = some m.cls := findClass_of_methodNamed B.named
    have hts0 : ∀ c ∈ (Jvm.Cond.code x code maxLocals ret :: tables_1), c.before #[Value.ref b] s = true := atoms_spec (ws := Jvm.Cond.code x code maxLocals ret :: tables_1) B.pre
    have hts : ∀ w ∈ lw_tbl, w.before #[Value.ref b] s = true := k2_hts_sels lw_privs (fun w hw => hts0 w (List.mem_cons_of_mem _ hw)) lw_privs_ok
    have het : c.exceptionTable.toList = [] := by
      obtain ⟨meth9, c9, h1, h2, -, -, -, -, h7, -⟩ := Cond.code_spec B.named (hts0 _ List.mem_cons_self)
      cases B.method.symm.trans h1
      have h8 := B.here.code
      rw [B.state] at h8
      have h9 : s.code? m = some c := h8
      have h10 : c9 = c := by
        rw [State.code?_eq, h1] at h9
        exact Option.some.inj (h2.symm.trans h9)
      subst h10
      have h7 : c9.exceptionTable.isEmpty = true := h7
      simpa using h7
    have hml : c.maxLocals = 7 := B.maxLocals_eq (hts0 _ List.mem_cons_self)
    have X₀ : Stand p l e room_1 s m #[Value.ref b] below meth c s₁ [] 0 0 := Stand.of_body B
    have hh0 : s₁.heap = s.heap := by rw [B.state]; rfl
    have hsz : scr.slots.size = xs.length := by rw [← Array.length_toList, hlist, List.length_map]
    have hval : ∀ j : Nat, j < xs.length → scr.slots[j]? = some (.int (xs.getD j 0)) := fun j hj => by
      rw [← Array.getElem?_toList, hlist]
      simp [hj]
    have hbl : b < s.heap.size := (Array.getElem?_eq_some_iff.mp hcb).1
    have hX : va_X b xs.length (fun j => xs.getD j 0) s s.heap := ⟨scr, hcb, hof, hkn, hsz, hval⟩
    have K : W p l e room_1 s m #[Value.ref b] below meth c s₁.heap [] 0 0 (lw_Z below #[Value.ref b] s) (entryFrame m ([Value.ref b] : List Value).toArray 7) := by
      rw [hh0]
      exact whole_start l hfl hbd ⟨B.exec, B.bytes, B.returns, hml, hown, hts, hX, hbl, B.notSynchronized, hgv⟩ het
    obtain ⟨t, a1, o, b1, b2, b3⟩ := K s₁ rfl X₀
    exact ⟨t, o, a1, b1, b2, b3⟩
theorem lw_pre_spec {args : Array Value} {s : State} (h : (Jvm.Cond.and given_1 narrow_1).before args s = true) (hr : rest_1_c.before args s = true) : ∃ (b : Addr) (xs : List Int32), lw_P b xs args s := by
  have hs := flat_of_before _ h
  have hq := flat_of_before _ hr
  have hc : (Cond.count 1).before args s = true := hs _ (by decide +kernel)
  have harr : (Cond.arrayOf (.arg 0) .int).before args s = true := hs _ (by decide +kernel)
  have hle : (Cond.le (.length (.arg 0)) (.int 3072)).before args s = true := hs _ (by decide +kernel)
  have hlen : (Cond.isInt (.length (.arg 0))).before args s = true := hq _ (by decide +kernel)
  have hall : (Cond.all (.arg 0) (.isInt (.elem (.arg 0) (.index 0)))).before args s = true := hq _ (by decide +kernel)
  obtain ⟨b, xs, hb, hx⟩ := State.ints_of_pre rfl harr hlen hall
  have hsm : xs.length < 2 ^ 31 := hx.choose_spec.2.2.2
  have hev : (Term.length (.arg 0)).eval args s none [] s = some (.int xs.length.toInt32) := hx.length_eval hb
  have hv := Cond.le_ints hev (show (Term.int 3072).eval args s none [] s = some (.int 3072) from rfl)
  have hd : xs.length.toInt32 ≤ 3072 := by
    simpa [Cond.before, Cond.holds, hv] using hle
  have hN : xs.length ≤ 3072 := (Int32.ofNat_le_ofNat hsm (by decide)).mp (show Int32.ofNat xs.length ≤ Int32.ofNat 3072 from hd)
  exact ⟨b, xs, Cond.one_arg hc (show args[0]? = some (.ref b) from hb), hx, hN, h⟩
theorem lw_comes (l : Launch) (hfl : l.flags = flags0) : Comes l x (Jvm.Cond.code x code maxLocals ret :: tables_1) room_1 (fun tb e args s => Calls_1 tb e args s ∧ rest_1 tb e args s ∧ Pre_1 tb e args s)
    (fun _ _ args s o t => lw_Q args s o t) := by
  intro p e ha hc hk s m args below hf hfit hheap happ hpre
  obtain ⟨b, xs, hP⟩ := lw_pre_spec hpre.2.2 hpre.2.1
  obtain ⟨k, o, h1, h2, h3, hQ⟩ := lw_walk l hfl b xs p e ha hc hk s m args below hf ((Spec.applies_iff_loose hf).mp happ).1 hP trivial
  exact ⟨k, o, h1, h2, h3, hQ⟩
theorem lw_frame {s t : State} {o : Outcome} {args : Array Value} (h : Framed s o t [] 1078 10312) :
    Framed s o t (fieldLocs frame_1_writes args s ++ arrayLocs frame_1_arrays args s ++ staticLocs frame_1_statics s) 1078 10312 := h
theorem lw_limb (L : Cond) (hL : ∀ (args : Array Value) (s t : State), L.after args s (.returned (some (.int 1))) t = true) :
    ArmFor flags0 classFile x code maxLocals ret World_1 tables_1 room_1 Calls_1 rest_1 Pre_1
      (fun tb e a s o t => postC L tb e a s o t ∧ Framed s o t (fieldLocs frame_1_writes a s ++ arrayLocs frame_1_arrays a s ++ staticLocs frame_1_statics s) 1078 10312) := by
  intro l hfl _ _ p e ha hc hk s m args below hf hfit hheap happ hpre
  obtain ⟨k, o, h1, h2, h3, rfl, hF⟩ := lw_comes l hfl p e ha hc hk s m args below hf hfit hheap happ hpre
  exact ⟨k, _, h1, h2, h3, hL args s _, lw_frame hF⟩
theorem i_vc : Claimed_1_1 ∧ Claimed_1_2 := ⟨lw_limb limb_1_1 (fun args s t => by simp [limb_1_1, Cond.after, Cond.holds, Cond.value]), lw_limb limb_1_2 (fun args s t => Cond.after_iff.mpr (by
  first | (rw [show limb_1_2 = Cond.eq .result (.int 1) from rfl, Cond.eq_ints (x := 1) (y := 1) rfl rfl]; simp; done) | (simp [limb_1_2, Cond.value, Term.eval]; done)))⟩
