/-! calls and exceptions of the abstract machine on the real one -/
def am_out (ad : Nat → Nat) (s : State) (t : State) : am_R → Outcome → Prop
  | .inl v, o => o = .returned (v.map (am_v ad))
  | .inr x, o => ∃ a, o = .threw a ∧ am_ex x s a t.heap
def am_Z (D : va_G) (ad : Nat → Nat) (cA : FieldType → ClassId) (A : Nat → Prop) (s : State) (below : List Frame) (scr : Nat × (Nat → Int32)) (Q : am_T) (Bc Bs : Nat) : State → Prop := fun t =>
  ∃ (r : am_R) (o : Outcome) (M : am_M) (locs : List Loc), t.status = .running ∧ Ended t below o ∧ am_out ad s t r o ∧ Q r M ∧ M.2.2.2 = scr ∧ M.2.2.1 ≤ Bc ∧ va_P D am_cl (am_w ad cA M) t.heap ∧ va_S A s.heap t.heap locs ∧ s.WarmedH t.vm ∧
    s.sameButNew ({ t with vm := s.vm } : State) locs (Bc + am_x r - M.2.2.1) (Bs + 6 * am_x r - 6 * M.2.2.1)
section AMZ
variable {l : Launch} {D : va_G} {ad : Nat → Nat} {cA : FieldType → ClassId} {A : Nat → Prop} {p : Program} {e : Env} {R : Room} {s : State} {m : MethodId} {args : Array Value} {below : List Frame} {meth : Method} {c : Code} {Bc Bs : Nat} {Z : State → Prop} {H : Heap} {locs : List Loc} {cells slots : Nat} {ls : Array Slot}
variable {k pc : Nat} {L st : List Value} {M : am_M} {Q : am_T}
theorem am_E_Z (hx : p.tables.exec = Jvm.exec) (hb : c.code = am_bytes k) (hr : meth.sig.returnType = am_rt k) (hlk : meth.locks = false) {scr : Nat × (Nat → Int32)} : am_E l D ad cA A k p e R s m args below meth c scr Q Bc Bs (am_Z D ad cA A s below scr Q Bc Bs) := by
  refine ⟨?_, ?_, ?_⟩
  · intro v ty pc M H locs cells slots ls h1 h2 hd hQ hscr hP hS hb1 hb2
    intro T hT X
    obtain ⟨t, st, o, hrun, hend, ⟨ho, hh⟩, L, ⟨-, hW, hsame⟩, hfree⟩ := W.zret (Qc := fun _ _ o t => o = .returned (some (.int v)) ∧ t.heap = H) (free := A) (v := v) (ty := ty) hx hb (by rw [hr]; exact h1) h2 (fun t ht _ => ⟨rfl, ht⟩) hS.2.2 hd hlk T hT X
    refine ⟨t, st, .inl (some (.int v)), o, M, L, hrun, hend, ho, hQ, hscr, by omega, by rw [hh]; exact hP, ⟨by rw [hh]; exact hS.1, by rw [hh]; exact hS.2.1, hfree⟩, hW, hsame.mono ?_ ?_⟩
    · simp only [am_x]; omega
    · simp only [am_x]; omega
  · intro pc M H locs cells slots ls h1 hd hQ hscr hP hS hb1 hb2
    intro T hT X
    obtain ⟨t, st, o, hrun, hend, ⟨ho, hh⟩, L, ⟨-, hW, hsame⟩, hfree⟩ := W.vret (Qc := fun _ _ o t => o = .returned none ∧ t.heap = H) (free := A) hx hb (by rw [hr]; exact h1) (fun t ht _ => ⟨rfl, ht⟩) hS.2.2 hd hlk T hT X
    refine ⟨t, st, .inl none, o, M, L, hrun, hend, ho, hQ, hscr, by omega, by rw [hh]; exact hP, ⟨by rw [hh]; exact hS.1, by rw [hh]; exact hS.2.1, hfree⟩, hW, hsame.mono ?_ ?_⟩
    · simp only [am_x]; omega
    · simp only [am_x]; omega
  · intro x a M U locs hrun hend hex hQ hscr hP hS hW hle hsame
    exact ⟨.inr x, .threw a, M, locs, hrun, hend, ⟨a, rfl, hex⟩, hQ, hscr, hle, hP, hS, hW, hsame⟩
theorem am_A_sub {M : am_M} {T : State} (hDA : ∀ M, va_D A (am_w ad cA M)) (hA : ∀ q, s.heap.size ≤ q → A q) (hS : va_S A s.heap T.heap locs) : ∀ q, va_A (am_w ad cA M) T.heap.size q → A q := by
  intro q hq
  rcases hq with ⟨j, e0, h1⟩ | h1
  · exact (hDA M).2 j _ h1
  · exact hA q (Nat.le_trans hS.1 h1)
/-- the room of method k when b exceptions may still be caught -/
def am_rm (k b : Nat) : Room := { frames := am_rk k, cells := b + 1, slots := 6 * b + 6, locals := am_rk k * 34 }
/-- a method that the abstract machine ends, called from a state that holds the memory -/
theorem am_callee {T : State} {g : JFrame} {mk : MethodId} {methk : Method} {ck : Code} {as : List Value}
    (hC : am_C l D ad cA A k p R s m args meth c M.2.2.2 Bc Bs) (hS : va_S A s.heap T.heap locs) (hW : s.WarmedH T.vm) (hcur : True)
    {kc : Nat} (hok : ∀ v ∈ as, am_ok v = true) (hna : as.length ≤ am_nL kc) (hnamed : s.methodNamed? (am_y kc) = some mk) (hck : ck.code = am_bytes kc) (hml : ck.maxLocals = am_nL kc) (hr : methk.sig.returnType = am_rt kc) (hlk : methk.locks = false)
    (het : ck.exceptionTable.toList.map (fun h => (h.startPc, h.endPc, h.handlerPc, h.catchType)) = am_et kc) (hP : va_P D am_cl (am_w ad cA M) T.heap) (hX : am_X l kc 0 (am_in kc as) [] M Q) :
    W p l e (am_rm kc M.2.2.1) (T.calling g mk (as.map (am_v ad)).toArray) mk (as.map (am_v ad)).toArray (.java g :: below) methk ck T.heap [] 0 0
      (am_Z D ad cA (va_A (am_w ad cA M) T.heap.size) (T.calling g mk (as.map (am_v ad)).toArray) (.java g :: below) M.2.2.2 Q M.2.2.1 (6 * M.2.2.1)) (entryFrame mk (as.map (am_v ad)).toArray ck.maxLocals) := by
  obtain ⟨hx, -, -, -, -, hts, -, -, hK, hDA, hA, hfl, -, -, -, -, hX1, hX2, hX3, hsta, hnc⟩ := hC
  have hvm : (T.calling g mk (as.map (am_v ad)).toArray).vm = T.vm := rfl
  have hhe : (T.calling g mk (as.map (am_v ad)).toArray).heap = T.heap := rfl
  have hW' : s.WarmedH (T.calling g mk (as.map (am_v ad)).toArray).vm := hW
  have hT0 : T.heap[ad am_SC]? = s.heap[ad am_SC]? := hS.2.1 _ hX2 hX3
  rw [hml]
  rw [lg_entry_eq]
  have hl := lv_entry (as.map (am_v ad)) (n := am_nL kc) (by rw [am_lgsl hok]; exact hna)
  refine hX D ad cA _ p e _ _ mk _ _ methk ck M.2.2.1 (6 * M.2.2.1) _ T.heap [] 0 0 _ ⟨hx, hck, hr, hml, ?_, ?_, hlk, het, va_K.moved hW'.alike hK, fun M' => am_D ((hDA M).self), fun q h => Or.inr h, hfl, Nat.le_refl _, Nat.le_refl _, Nat.le_refl _, Nat.le_refl _, ?_, ?_, ?_, ?_, ?_⟩ (am_E_Z hx hck hr hlk) (am_entry hok hna hl) hP va_S.rf (by omega) (by omega)
  · rw [hvm, hW.alike.findClass]
    exact findClass_of_methodNamed hnamed
  · intro w hw
    exact am_word (List.mem_filter.mp hw).2 hW' (hts w hw)
  · exact va_X.moved hW'.alike (hX1.kept hT0)
  · exact Nat.lt_of_lt_of_le hX2 hS.1
  · intro hq
    rcases hq with ⟨j, e0, h1⟩ | h1
    · exact hX3 ((hDA M).2 j _ h1)
    · have h1 : T.heap.size ≤ ad am_SC := h1
      have := Nat.lt_of_lt_of_le hX2 hS.1
      omega
  · exact ⟨(vx_Zq.moved hW'.alike (hsta.1.kept hS.2.1)).narrow (am_A_sub hDA hA hS), (vx_Zq.moved hW'.alike (hsta.2.kept hS.2.1)).narrow (am_A_sub hDA hA hS)⟩
  · exact fun x y h1 h2 h3 => va_Nc.moved hW'.alike (hnc x y h1 h2 h3)
theorem am_S_app {H0 H1 H2 : Heap} {A A' : Nat → Prop} {l1 l2 : List Loc} (h1 : va_S A H0 H1 l1) (h2 : va_S A' H1 H2 l2) (hA : ∀ q, A' q → A q) : va_S A H0 H2 (l1 ++ l2) := by
  refine ⟨Nat.le_trans h1.1 h2.1, fun q hq hn => ?_, fun q hq => ?_⟩
  · rw [h2.2.1 q (Nat.lt_of_lt_of_le hq h1.1) (fun z => hn (hA q z))]
    exact h1.2.1 q hq hn
  · rcases List.mem_append.mp hq with h | h
    · exact h1.2.2 q h
    · exact hA _ (h2.2.2 q h)
theorem am_rest {v : Option Value} {r : List Value} : (v.toList ++ r).map (am_v ad) = (v.map (am_v ad)).toList ++ r.map (am_v ad) := by cases v <;> rfl
/-- the object at a place, as the receiver of a call -/
theorem am_obj {q ci : Nat} {fs : List Value} {H : Heap} {C : String} (h : va_at D am_cl (q, .inr (ci, fs)) H) (hK : va_K D am_cl (am_tys cA) s) (hc : ∃ T N, am_cl[ci]? = some (C, T, N)) : ∃ cellB : Cell, H[q]? = some cellB ∧ cellB.vm.isStatics = false ∧ s.vm.findClass C = some cellB.cls := by
  obtain ⟨T, N, hc⟩ := hc
  obtain ⟨r, h1, cell, h2, h3, h4, -⟩ := h
  have h6 := (hK.1 ci _ hc).2.1
  refine ⟨cell, h2, by rw [h4]; rfl, ?_⟩
  rw [h3]
  exact h6
/-- an exception of class x, caught by the method's own handler: it answers v -/
theorem am_catch {T : State} {r : List Value} {x : Nat} {v : Int32} {aa : Nat} {M' : am_M} (hC : am_C l D ad cA A k p R s m args meth c M.2.2.2 Bc Bs) (hE : am_E l D ad cA A k p e R s m args below meth c M.2.2.2 Q Bc Bs Z) (hL : am_L ad ls (am_nL k) L)
    (hh : am_hd k pc x = some v) (hex : am_ex x s aa T.heap) (X : Stand p l e R s m args below meth c T locs cells slots) (hpos : 0 < M'.2.2.1) (hQ : Q (.inl (some (.int v))) (am_pay M')) (hscr : M'.2.2.2 = M.2.2.2) (hP : va_P D am_cl (am_w ad cA M') T.heap) (hS : va_S A s.heap T.heap locs)
    (hb1 : cells + M'.2.2.1 = Bc + 1) (hb2 : slots + 6 * M'.2.2.1 = Bs + 6) :
    ∃ t, Steps p.tables e below ((T.setTop (F0 m pc ls (r.map (am_v ad)))).pushFrame (.throwing aa)) t ∧ Z t := by
  obtain ⟨hx, hb, hr, hml, hown, hts, hlk, het, hK, hDA, hA, hfl, hRl, hRf, hRc, hRs, hX1, hX2, hX3, hsta, hnc⟩ := id hC
  obtain ⟨n, row, alen, ps, rfl, hchk⟩ := am_hd_ok hh
  unfold am_hchk at hchk
  simp only [Bool.and_eq_true, decide_eq_true_eq] at hchk
  obtain ⟨⟨⟨⟨⟨⟨⟨⟨⟨g1, g2⟩, g3⟩, g4⟩, g5⟩, g6⟩, g7⟩, g8⟩, g9⟩, g10⟩ := hchk
  obtain ⟨ce, x1, x2, x3⟩ := hex
  have quad : ∀ (j : Nat) (z : ExceptionTableEntry), c.exceptionTable.toList[j]? = some z → am_hq k j = (z.startPc, z.endPc, z.handlerPc, z.catchType) := by
    intro j z hz
    unfold am_hq
    rw [← het, List.getD_eq_getElem?_getD, List.getElem?_map, hz]
    rfl
  have hlen : row < c.exceptionTable.toList.length := by
    have h0 := congrArg List.length het
    rw [List.length_map] at h0
    omega
  obtain ⟨z, hz⟩ : ∃ z, c.exceptionTable.toList[row]? = some z := ⟨_, List.getElem?_eq_getElem hlen⟩
  have hq := quad row z hz
  have hsplit : c.exceptionTable.toList = c.exceptionTable.toList.take row ++ z :: c.exceptionTable.toList.drop (row + 1) := by
    have h1 := List.getElem_cons_drop hlen
    rw [(List.getElem?_eq_some_iff.mp hz).2] at h1
    rw [h1, List.take_append_drop]
  unfold am_hcode at g8
  simp only [Bool.and_eq_true, decide_eq_true_eq] at g8
  obtain ⟨⟨⟨k1, k2⟩, k3⟩, k4⟩ := g8
  rw [hq] at g2 g3 g4 g5 k1 k2 k3
  have hend : ∀ ls' : Array Slot, W p l e R s m args below meth c T.heap locs cells slots Z (F0 m (z.handlerPc + alen) ls' []) := by
    intro ls'
    refine lv_iconst hx hb k2 k4 ?_
    refine hE.1 _ .int _ (am_pay M') T.heap locs cells slots ls' g10 rfl k3 hQ hscr hP hS ?_ ?_
    · show cells + (M'.2.2.1 - 1) = Bc
      omega
    · show slots + 6 * (M'.2.2.1 - 1) = Bs
      omega
  have hw : W p l e R s m args below meth c T.heap locs cells slots Z (F0 m z.handlerPc ls [.ref aa]) := by
    split at k1
    next j hj =>
      simp only [Bool.and_eq_true, beq_iff_eq, decide_eq_true_eq] at k1
      obtain ⟨rfl, k1⟩ := k1
      exact lv_astore hx hb hj hL.2 k1 rfl (fun ls' _ => hend ls')
    next j hj =>
      simp only [Bool.and_eq_true, beq_iff_eq, decide_eq_true_eq] at k1
      obtain ⟨rfl, k1⟩ := k1
      exact lv_astore_n hx hb hj rfl hL.2 k1 rfl (fun ls' _ => hend ls')
    next => cases k1
  refine vx_catch (E := am_xn x) hown (c.exceptionTable.toList.take row) z (c.exceptionTable.toList.drop (row + 1)) hsplit ?_ ?_ g4 (hts _ (am_in_t g5 rfl)) (hts _ (am_in_t g7 rfl)) x1 x2 x3 hw T rfl X
  · intro z' hz'
    obtain ⟨j, hj⟩ := List.getElem?_of_mem hz'
    have hjl : j < row := by
      have h1 := (List.getElem?_eq_some_iff.mp hj).1
      rw [List.length_take] at h1
      omega
    rw [List.getElem?_take_of_lt hjl] at hj
    obtain ⟨x', y1, y2, y3, y4⟩ := am_hrow g9 hjl
    rw [quad j z' hj] at y3 y4
    exact Or.inr ⟨y3, _, hts _ y4, hnc x x' g6 y2 (fun q => y1 q.symm)⟩
  · simp only [covers, Bool.and_eq_true, decide_eq_true_eq]
    exact ⟨g2, g3⟩
/-- behind the call: the walk goes on with what the callee came to -/
theorem am_back {T : State} {g : JFrame} {mk : MethodId} {a : Array Value} {r : List Value} {ig : Instr}
    (hC : am_C l D ad cA A k p R s m args meth c M.2.2.2 Bc Bs) (hE : am_E l D ad cA A k p e R s m args below meth c M.2.2.2 Q Bc Bs Z) (hL : am_L ad ls (am_nL k) L) (hS : va_S A s.heap T.heap locs) (hb1 : cells + M.2.2.1 = Bc) (hb2 : slots + 6 * M.2.2.1 = Bs)
    (X : Stand p l e R s m args below meth c T locs cells slots) (hg : g = F0 m pc ls (r.map (am_v ad))) (hdg : decode c.code g.pc = .ok (ig, 3)) {t : State}
    (ht : am_Z D ad cA (va_A (am_w ad cA M) T.heap.size) (T.calling g mk a) (.java g :: below) M.2.2.2 (am_af (am_X l) k pc L r Q) M.2.2.1 (6 * M.2.2.1) t) :
    ∃ t', Steps p.tables e below t t' ∧ Z t' := by
  obtain ⟨res, o, M', Lc, hrun, hend, hout, hQ, hscr, hle, hP', hS', hW', hsame⟩ := ht
  obtain ⟨hx, hb, hr, hml, hown, hts, hlk, het, hK, hDA, hA, hfl, hRl, hRf, hRc, hRs, hX1, hX2, hX3, hsta, hnc⟩ := id hC
  have hSS := am_S_app hS hS' (am_A_sub hDA hA hS)
  have hgm : g.method = m := by rw [hg]
  cases res with
  | inl v =>
    have ho : o = .returned (v.map (am_v ad)) := hout
    subst ho
    obtain ⟨T', X', hWT, -, ht⟩ := X.outOf hgm hdg hend hW' hsame
    have hth : t.heap = T'.heap := by rw [ht]; rfl
    rw [hth] at hP' hSS
    have hgo : am_X l k (pc + 3) L (v.toList ++ r) M' Q := hQ
    have hw := hgo D ad cA A p e R s m args below meth c Bc Bs Z T'.heap (locs ++ Lc) (cells + (M.2.2.1 + am_x (.inl v) - M'.2.2.1)) (slots + (6 * M.2.2.1 + 6 * am_x (.inl v) - 6 * M'.2.2.1)) ls (by rw [hscr]; exact hC) (by rw [hscr]; exact hE) hL hP' hSS (by simp only [am_x]; omega) (by simp only [am_x]; omega)
    obtain ⟨t', a1, b1⟩ := hw T' rfl X'
    refine ⟨t', ?_, b1⟩
    rw [ht, hg, am_rest] at *
    exact a1
  | inr x =>
    obtain ⟨aa, ho, hex⟩ := hout
    subst ho
    obtain ⟨T', X', hWT, -, ht⟩ := X.outOfThrown hgm hend hW' hsame
    have hth : t.heap = T'.heap := by rw [ht]; exact Stand.throwing_heap T' g aa
    rw [hth] at hP' hSS hex
    have hex' : am_ex x s aa T'.heap := by
      obtain ⟨cell, h1, h2, h3⟩ := hex
      refine ⟨cell, h1, h2, ?_⟩
      have : (T.calling g mk a).vm = T.vm := rfl
      rw [this, X.warmed.alike.findClass] at h3
      exact h3
    cases hh : am_hd k pc x with
    | none =>
      have hQ : am_et k = [] ∧ Q (.inr x) M' := by
        have h0 : (match am_hd k pc x with | none => am_et k = [] ∧ Q (.inr x) M' | some v => 0 < M'.2.2.1 ∧ Q (.inl (some (.int v))) (am_pay M')) := hQ
        rw [hh] at h0
        exact h0
      obtain ⟨he, hQ⟩ := hQ
      have htab : c.exceptionTable.toList = [] := by
        rw [he] at het
        exact List.map_eq_nil_iff.mp het
      obtain ⟨hwalk, hrun', hended, hWU, hsameU⟩ := X'.leaveThrown aa (g := g) hgm (by rw [hg]) (by rw [hg]) (fun z hz => by rw [htab] at hz; cases hz) hlk
      refine ⟨_, by rw [ht]; exact hwalk, hE.2.2 x aa M' _ (locs ++ Lc) hrun' hended hex' hQ hscr hP' hSS hWU (by omega) (hsameU.mono ?_ ?_)⟩
      · simp only [am_x]; omega
      · simp only [am_x]; omega
    | some v =>
      have hQ : 0 < M'.2.2.1 ∧ Q (.inl (some (.int v))) (am_pay M') := by
        have h0 : (match am_hd k pc x with | none => am_et k = [] ∧ Q (.inr x) M' | some v => 0 < M'.2.2.1 ∧ Q (.inl (some (.int v))) (am_pay M')) := hQ
        rw [hh] at h0
        exact h0
      obtain ⟨hpos, hQ⟩ := hQ
      have hw := am_catch (ls := ls) (r := r) hC hE hL hh hex' X' hpos hQ hscr hP' hSS (by simp only [am_x]; omega) (by simp only [am_x]; omega)
      obtain ⟨t', a1, b1⟩ := hw
      refine ⟨t', ?_, b1⟩
      rw [ht, hg]
      exact a1
theorem am_right_v {ix len : Nat} (hd : decode (am_bytes k) pc = .ok (.invokevirtual ix, len)) (h : am_do (am_X l) k pc (.invokevirtual ix) len L st M Q)
    (hC : am_C l D ad cA A k p R s m args meth c M.2.2.2 Bc Bs) (hE : am_E l D ad cA A k p e R s m args below meth c M.2.2.2 Q Bc Bs Z) (hL : am_L ad ls (am_nL k) L) (hP : va_P D am_cl (am_w ad cA M) H) (hS : va_S A s.heap H locs) (hb1 : cells + M.2.2.1 = Bc) (hb2 : slots + 6 * M.2.2.1 = Bs) :
    W p l e R s m args below meth c H locs cells slots Z (F0 m pc ls (st.map (am_v ad))) := by
  obtain ⟨rfl, kc, q, ci, As, r, fs, h2, rfl, h4, h5, h6, h7, h8, h9, h⟩ := h
  obtain ⟨hx, hb, hr, hml, hown, hts, hlk, het, hK, hDA, hA, hfl, hRl, hRf, hRc, hRs, hX1, hX2, hX3, hsta, hnc⟩ := id hC
  obtain ⟨y1, y2, y3, y4, y5, y6, y7, y8, y9⟩ := am_mth_v h2 h7
  obtain ⟨mk, methk, ck, n1, n2, n3, n4, n5, n6, n7, n8, n9⟩ := am_code_of (hts _ y1)
  intro T hT X
  subst hT
  have hok : ∀ v ∈ (Value.ref q :: As), am_ok v = true := by
    intro v hv
    rcases List.mem_cons.mp hv with rfl | hv
    · rfl
    · exact List.all_eq_true.mp h8 v hv
  obtain ⟨cellB, c1, c2, c3⟩ := am_obj (hP q _ (am_w_at h6)) hK y8
  have hlen : (As.map (am_v ad)).length = methk.sig.parameters.length := by
    have h0 := y6
    rw [n9] at h0
    have h0 : methk.sig.parameters.length + 1 = am_na kc := Option.some.inj h0
    rw [List.length_map]
    omega
  have hsz : ls.size = c.maxLocals := by rw [hml]; exact hL.2.1
  obtain ⟨vm₁, X₁, st1⟩ := am_goV X hx (g := F0 m pc ls ((As.reverse ++ .ref q :: r).map (am_v ad))) hown (y2.imp (fun z => hts _ z) (fun ⟨host, z⟩ => ⟨host, hts _ z⟩)) (hts _ y3) (hts _ y4) y5 n1 n2 c1 c2 c3 rfl (argsL := As.map (am_v ad)) (rest := r.map (am_v ad)) hlen (by simp [am_v, List.map_append, List.map_reverse]) (by rw [hb]; exact hd)
  have hcal := am_callee (T := T.setVm vm₁) (g := F0 m pc ls (r.map (am_v ad))) (mk := mk) (methk := methk) (ck := ck) (as := .ref q :: As) (e := e) (below := below) hC hS X₁.warmed trivial (kc := kc) hok (by rw [List.length_cons, ← h4]; exact y7) n1 n4 n5 n7 n8 n6 hP h
  obtain ⟨t, st2, hz⟩ := am_into X₁ (g := F0 m pc ls (r.map (am_v ad))) rfl hsz (by rw [hb]; exact hd) (as := (Value.ref q :: As).map (am_v ad)) (R' := am_rm kc M.2.2.1) y9 n1 n2 n3 n8 (by simp only [am_rm]; omega) (by
      have hw8 : ((r.map (am_v ad)).map fun v => v.category).sum ≤ 8 := by
        rw [List.map_map]
        have : ((fun v : Value => v.category) ∘ am_v ad) = fun v : Value => v.category := by funext v; cases v <;> rfl
        rw [this]; exact h9
      have hl21 := am_nL_le kc
      simp only [am_rm]
      rw [n5]
      have : 2 * (F0 m pc ls (r.map (am_v ad))).monitorRoom + ((F0 m pc ls (r.map (am_v ad))).stack.map fun v => v.category).sum ≤ 8 := lv_room (m := m) (pc := pc) (ls := ls) (rest := r.map (am_v ad)) hw8
      have h5' : (am_rk kc + 1) * 34 ≤ am_rk k * 34 := Nat.mul_le_mul_right 34 h5
      omega) (by simp only [am_rm]; omega) (by simp only [am_rm]; omega) hcal
  obtain ⟨t', a1, b1⟩ := am_back (T := T.setVm vm₁) (ls := ls) (r := r) (g := F0 m pc ls (r.map (am_v ad))) (mk := mk) hC hE hL hS hb1 hb2 X₁ rfl (by rw [hb]; exact hd) hz
  exact ⟨t', st1 _ (st2.trans a1), b1⟩
theorem am_right_s {ix len : Nat} (hd : decode (am_bytes k) pc = .ok (.invokestatic ix, len)) (h : am_do (am_X l) k pc (.invokestatic ix) len L st M Q)
    (hC : am_C l D ad cA A k p R s m args meth c M.2.2.2 Bc Bs) (hE : am_E l D ad cA A k p e R s m args below meth c M.2.2.2 Q Bc Bs Z) (hL : am_L ad ls (am_nL k) L) (hP : va_P D am_cl (am_w ad cA M) H) (hS : va_S A s.heap H locs) (hb1 : cells + M.2.2.1 = Bc) (hb2 : slots + 6 * M.2.2.1 = Bs) :
    W p l e R s m args below meth c H locs cells slots Z (F0 m pc ls (st.map (am_v ad))) := by
  obtain ⟨hx, hb, hr, hml, hown, hts, hlk, het, hK, hDA, hA, hfl, hRl, hRf, hRc, hRs, hX1, hX2, hX3, hsta, hnc⟩ := id hC
  have hw8 : ∀ r : List Value, (r.map fun v => v.category).sum ≤ 8 → ((r.map (am_v ad)).map fun v => v.category).sum ≤ 8 := by
    intro r h9
    rw [List.map_map]
    have : ((fun v : Value => v.category) ∘ am_v ad) = fun v : Value => v.category := by funext v; cases v <;> rfl
    rw [this]; exact h9
  have hsz : ls.size = c.maxLocals := by rw [hml]; exact hL.2.1
  obtain ⟨rfl, ⟨y, x, r, h2, h0, rfl, h9, h⟩ | ⟨y, x, r, h2, h0, rfl, h9, h⟩ | ⟨kc, As, r, h2, rfl, h4, h5, h7, h8, h9, h⟩⟩ := h
  · obtain ⟨y1, y2, y3, y4⟩ := am_mx_t h2
    have h9' := hw8 r h9
    exact va_mmax hx hb hsz.symm hown (hts _ y1) (hts _ y2) (hts _ y3) (hts _ y4) (by omega) (by omega) (by omega) (by omega) hd (h D ad cA A p e R s m args below meth c Bc Bs Z H locs cells slots _ hC hE hL hP hS hb1 hb2)
  · obtain ⟨y1, y2, y3, y4⟩ := am_mx_f h2
    have h9' := hw8 r h9
    exact va_mmin hx hb hsz.symm hown (hts _ y1) (hts _ y2) (hts _ y3) (hts _ y4) (by omega) (by omega) (by omega) (by omega) hd (h D ad cA A p e R s m args below meth c Bc Bs Z H locs cells slots _ hC hE hL hP hS hb1 hb2)
  · obtain ⟨y1, y2, y3, y4, y5, y6, y7, y9⟩ := am_mth_s h2 h7
    obtain ⟨mk, methk, ck, n1, n2, n3, n4, n5, n6, n7, n8, n9⟩ := am_code_of (hts _ y1)
    intro T hT X
    subst hT
    have hok : ∀ v ∈ As, am_ok v = true := fun v hv => List.all_eq_true.mp h8 v hv
    have hlen : (As.map (am_v ad)).length = methk.sig.parameters.length := by
      have h0 := y6
      rw [n9] at h0
      have h0 : methk.sig.parameters.length = am_na kc := Option.some.inj h0
      rw [List.length_map]
      omega
    obtain ⟨vm₁, X₁, st1⟩ := am_goS X hx (g := F0 m pc ls ((As.reverse ++ r).map (am_v ad))) hown (y2.imp (fun z => hts _ z) (fun ⟨host, z⟩ => ⟨host, hts _ z⟩)) (hts _ y3) (hts _ y4) y5 n1 n2 rfl (argsL := As.map (am_v ad)) (rest := r.map (am_v ad)) hlen (by simp [List.map_append, List.map_reverse]) (by rw [hb]; exact hd)
    have hcal := am_callee (T := T.setVm vm₁) (g := F0 m pc ls (r.map (am_v ad))) (mk := mk) (methk := methk) (ck := ck) (as := As) (e := e) (below := below) hC hS X₁.warmed trivial (kc := kc) hok (by rw [← h4]; exact y7) n1 n4 n5 n7 n8 n6 hP h
    have hw9 := hw8 r h9
    obtain ⟨t, st2, hz⟩ := am_into X₁ (g := F0 m pc ls (r.map (am_v ad))) rfl hsz (by rw [hb]; exact hd) (as := As.map (am_v ad)) (R' := am_rm kc M.2.2.1) y9 n1 n2 n3 n8 (by simp only [am_rm]; omega) (by
        have hl21 := am_nL_le kc
        simp only [am_rm]
        rw [n5]
        have : 2 * (F0 m pc ls (r.map (am_v ad))).monitorRoom + ((F0 m pc ls (r.map (am_v ad))).stack.map fun v => v.category).sum ≤ 8 := lv_room (m := m) (pc := pc) (ls := ls) (rest := r.map (am_v ad)) (hw8 r h9)
        have h5' : (am_rk kc + 1) * 34 ≤ am_rk k * 34 := Nat.mul_le_mul_right 34 h5
        omega) (by simp only [am_rm]; omega) (by simp only [am_rm]; omega) hcal
    obtain ⟨t', a1, b1⟩ := am_back (T := T.setVm vm₁) (ls := ls) (r := r) (g := F0 m pc ls (r.map (am_v ad))) (mk := mk) hC hE hL hS hb1 hb2 X₁ rfl (by rw [hb]; exact hd) hz
    exact ⟨t', st1 _ (st2.trans a1), b1⟩
theorem am_catW {r : List Value} (h : (r.map fun v => v.category).sum ≤ 8) : ((r.map (am_v ad)).map fun v => v.category).sum ≤ 8 := by
  rw [List.map_map]
  have : ((fun v : Value => v.category) ∘ am_v ad) = fun v : Value => v.category := by funext v; cases v <;> rfl
  rw [this]; exact h
theorem am_right_n {ix len : Nat} (hd : decode (am_bytes k) pc = .ok (.new ix, len)) (h : am_do (am_X l) k pc (.new ix) len L st M Q)
    (hC : am_C l D ad cA A k p R s m args meth c M.2.2.2 Bc Bs) (hE : am_E l D ad cA A k p e R s m args below meth c M.2.2.2 Q Bc Bs Z) (hL : am_L ad ls (am_nL k) L) (hP : va_P D am_cl (am_w ad cA M) H) (hS : va_S A s.heap H locs) (hb1 : cells + M.2.2.1 = Bc) (hb2 : slots + 6 * M.2.2.1 = Bs) :
    W p l e R s m args below meth c H locs cells slots Z (F0 m pc ls (st.map (am_v ad))) := by
  obtain ⟨rfl, x, hx0, hw8, hQ⟩ := h
  obtain ⟨hx, hb, hr, hml, hown, hts, hlk, het, hK, hDA, hA, hfl, hRl, hRf, hRc, hRs, hX1, hX2, hX3, hsta, hnc⟩ := id hC
  obtain ⟨is, ic, pl, ps, tx, hchk⟩ := am_exc_ok hx0
  unfold am_xchk at hchk
  simp only [Bool.and_eq_true, decide_eq_true_eq] at hchk
  obtain ⟨⟨⟨⟨⟨⟨⟨⟨⟨⟨⟨⟨⟨g1, g2⟩, g3⟩, g4⟩, g5⟩, g6⟩, g7⟩, g8⟩, g9⟩, g10⟩, g11⟩, g12⟩, g13⟩, g14⟩ := hchk
  subst g5
  rw [g1] at hown
  obtain ⟨sa, hstr⟩ := am_str (hts _ (am_in_t g12 rfl))
  have htab : c.exceptionTable.toList = [] := by rw [g2] at het; exact List.map_eq_nil_iff.mp het
  have hsz : ls.size = c.maxLocals := by rw [hml]; exact hL.2.1
  have h8 := am_catW (ad := ad) hw8
  have hl : l.stackTraces = false := by unfold Launch.stackTraces; rw [hfl]; decide
  intro T hT X
  obtain ⟨U, st, o, hrun, hend, hq⟩ := vx_throwS (rest := st.map (am_v ad)) (ls := ls) (names := am_sup) (own := "BranchedPast") (cls := am_xn x) (text := tx) (ik := ix) (is := is) (sa := sa) (A := A) (mc := cells + 1) (ms := slots + 6) (free := A) (Qc := fun _ _ _ _ => False) (XC := fun E _ t => E = am_xn x ∧ H.size ≤ t.heap.size ∧ ∀ q : Nat, q < H.size → t.heap[q]? = H[q]?)
    hx hb hl hown g13 (fun n hn => List.all_eq_true.mp g14 n hn) (hts _ (am_in_t g10 rfl)) (hts _ (am_in_t g11 rfl)) hstr (fun w hw => hts w (am_at g4 w hw).1)
    (fun w hw => by
      rcases List.mem_cons.mp hw with rfl | hw
      · rfl
      · rcases List.mem_cons.mp hw with rfl | hw
        · rfl
        · exact (am_at g4 w hw).2)
    hsta.1 hsta.2 hS hsz hd g6 g7 g8 g9 (fun z hz => by rw [htab] at hz; cases hz) (by show 2 + 3 < R.frames; omega) (by show _ + (13 * (2 + 1) + 43) ≤ R.locals; omega) (by omega) (by omega) hlk (fun t _ h1 h2 => ⟨rfl, h1, h2⟩) hS.2.2 (Nat.le_refl _) (Nat.le_refl _) T hT X
  rcases hq with ⟨hf, -⟩ | ⟨q, rfl, E, ce, L9, ⟨rfl, f1, f2⟩, hce, hv, hcl, hW, hsame, hfr⟩
  · exact hf.elim
  · refine ⟨U, st, hE.2.2 x q M U L9 hrun hend ⟨ce, hce, hv, hcl⟩ hQ rfl (hP.kept (fun j z hz => f2 _ (hP j z hz).lt)) ⟨Nat.le_trans hS.1 f1, fun z hz hn => ?_, hfr⟩ hW (by omega) (hsame.mono (by omega) (by omega))⟩
    rw [f2 z (Nat.lt_of_lt_of_le hz hS.1)]
    exact hS.2.1 z hz hn
theorem am_right (l : Launch) : am_Cl (am_X l) := by
  intro k pc L st M Q i len hd h D ad cA A p e R s m args below meth c Bc Bs Z H locs cells slots ls hC hE hL hP hS hb1 hb2
  by_cases h1 : ∃ ix, i = .invokevirtual ix
  · obtain ⟨ix, rfl⟩ := h1
    exact am_right_v hd h hC hE hL hP hS hb1 hb2
  · by_cases h2 : ∃ ix, i = .invokestatic ix
    · obtain ⟨ix, rfl⟩ := h2
      exact am_right_s hd h hC hE hL hP hS hb1 hb2
    · by_cases h3 : ∃ ix, i = .new ix
      · obtain ⟨ix, rfl⟩ := h3
        exact am_right_n hd h hC hE hL hP hS hb1 hb2
      · exact am_right_simple hd h (fun ix z => h1 ⟨ix, z⟩) (fun ix z => h2 ⟨ix, z⟩) (fun ix z => h3 ⟨ix, z⟩) hC hE hL hP hS hb1 hb2
/-- what the abstract machine ends, the real one ends -/
theorem am_go {l : Launch} (h : am_W k pc L st M Q) : am_X l k pc L st M Q := h _ (am_right l)
end AMZ
