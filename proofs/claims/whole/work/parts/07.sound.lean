/-! THE ABSTRACT MACHINE IS RIGHT: what comes to an end there does so on the real one -/
/-- the two statics that every throw reads, outside of what may change -/
def am_sta (A : Nat → Prop) (s : State) : Prop := vx_Zq Bundle.tN "UNASSIGNED_STACK" Bundle.steD A s s.heap ∧ vx_Zq Bundle.tN "SUPPRESSED_SENTINEL" Bundle.listD A s s.heap
/-- no exception is another one's kind -/
def am_ncs (s : State) : Prop := ∀ x y : Nat, x < 4 → y < 4 → x ≠ y → va_Nc (am_xn x) (am_xn y) s
/-- where the walk stands: the method k, its tables, the cells that it may change, its room -/
def am_C (l : Launch) (D : va_G) (ad : Nat → Nat) (cA : FieldType → ClassId) (A : Nat → Prop) (k : Nat) (p : Program) (R : Room) (s : State) (m : MethodId) (args : Array Value) (meth : Method) (c : Code) (scr : Nat × (Nat → Int32)) (Bc Bs : Nat) : Prop :=
  p.tables.exec = Jvm.exec ∧ c.code = am_bytes k ∧ meth.sig.returnType = am_rt k ∧ c.maxLocals = am_nL k ∧ s.vm.findClass (am_y k).cls = some m.cls ∧ (∀ w ∈ am_tbl, w.before args s = true) ∧ meth.locks = false ∧
  c.exceptionTable.toList.map (fun h => (h.startPc, h.endPc, h.handlerPc, h.catchType)) = am_et k ∧ va_K D am_cl (am_tys cA) s ∧ (∀ M, va_D A (am_w ad cA M)) ∧ (∀ q, s.heap.size ≤ q → A q) ∧
  l.flags = pinnedFlags ++ [noTraceFlag] ∧ am_rk k * 34 ≤ R.locals ∧ am_rk k ≤ R.frames ∧ Bc + 1 ≤ R.cells ∧ Bs + 6 ≤ R.slots ∧
  va_X (ad am_SC) scr.1 scr.2 s s.heap ∧ ad am_SC < s.heap.size ∧ ¬ A (ad am_SC) ∧ am_sta A s ∧ am_ncs s
def am_x : am_R → Nat
  | .inl _ => 0
  | .inr _ => 1
/-- what an exception of class x is -/
def am_ex (x : Nat) (s : State) (a : Nat) (H : Heap) : Prop := ∃ cell : Cell, H[a]? = some cell ∧ cell.vm = .none ∧ s.vm.findClass (am_xn x) = some cell.cls
/-- how a method ends that was walked: Z is what is wanted of its last state -/
def am_E (l : Launch) (D : va_G) (ad : Nat → Nat) (cA : FieldType → ClassId) (A : Nat → Prop) (k : Nat) (p : Program) (e : Env) (R : Room) (s : State) (m : MethodId) (args : Array Value) (below : List Frame) (meth : Method) (c : Code) (scr : Nat × (Nat → Int32)) (Q : am_T) (Bc Bs : Nat) (Z : State → Prop) : Prop :=
  (∀ (v : Int32) (ty : FieldType) (pc : Nat) (M : am_M) (H : Heap) (locs : List Loc) (cells slots : Nat) (ls : Array Slot), am_rt k = some ty → narrow ty (.int v) = .int v → decode (am_bytes k) pc = .ok (.ireturn, 1) → Q (.inl (some (.int v))) M → M.2.2.2 = scr → va_P D am_cl (am_w ad cA M) H → va_S A s.heap H locs → cells + M.2.2.1 = Bc → slots + 6 * M.2.2.1 = Bs →
    W p l e R s m args below meth c H locs cells slots Z (F0 m pc ls [.int v])) ∧
  (∀ (pc : Nat) (M : am_M) (H : Heap) (locs : List Loc) (cells slots : Nat) (ls : Array Slot), am_rt k = none → decode (am_bytes k) pc = .ok (.return_, 1) → Q (.inl none) M → M.2.2.2 = scr → va_P D am_cl (am_w ad cA M) H → va_S A s.heap H locs → cells + M.2.2.1 = Bc → slots + 6 * M.2.2.1 = Bs →
    W p l e R s m args below meth c H locs cells slots Z (F0 m pc ls [])) ∧
  (∀ (x a : Nat) (M : am_M) (U : State) (locs : List Loc), U.status = .running → Ended U below (.threw a) → am_ex x s a U.heap → Q (.inr x) M → M.2.2.2 = scr → va_P D am_cl (am_w ad cA M) U.heap → va_S A s.heap U.heap locs → s.WarmedH U.vm → M.2.2.1 ≤ Bc → s.sameButNew ({ U with vm := s.vm } : State) locs (Bc + 1 - M.2.2.1) (Bs + 6 - 6 * M.2.2.1) → Z U)
def am_X (l : Launch) : am_K := fun k pc L st M Q =>
  ∀ (D : va_G) (ad : Nat → Nat) (cA : FieldType → ClassId) (A : Nat → Prop) (p : Program) (e : Env) (R : Room) (s : State) (m : MethodId) (args : Array Value) (below : List Frame) (meth : Method) (c : Code) (Bc Bs : Nat) (Z : State → Prop) (H : Heap) (locs : List Loc) (cells slots : Nat) (ls : Array Slot),
    am_C l D ad cA A k p R s m args meth c M.2.2.2 Bc Bs → am_E l D ad cA A k p e R s m args below meth c M.2.2.2 Q Bc Bs Z → am_L ad ls (am_nL k) L → va_P D am_cl (am_w ad cA M) H → va_S A s.heap H locs → cells + M.2.2.1 = Bc → slots + 6 * M.2.2.1 = Bs →
    W p l e R s m args below meth c H locs cells slots Z (F0 m pc ls (st.map (am_v ad)))
section AMX
variable {l : Launch} {D : va_G} {ad : Nat → Nat} {cA : FieldType → ClassId} {A : Nat → Prop} {p : Program} {e : Env} {R : Room} {s : State} {m : MethodId} {args : Array Value} {below : List Frame} {meth : Method} {c : Code} {Bc Bs : Nat} {Z : State → Prop} {H : Heap} {locs : List Loc} {cells slots : Nat} {ls : Array Slot}
variable {k pc : Nat} {L st : List Value} {M : am_M} {Q : am_T}
theorem am_ic {cd : Jvm.ClassFile.Cond} {off : Int} {t : Nat} {x y : Int32} {rest : List Value} {cc : ByteArray} (hx : p.tables.exec = Jvm.exec) (hb : c.code = cc) (hd : decode cc pc = .ok (.if_icmp cd off, 3)) (ht : (pc : Int) + off = t)
    (kt : am_cmp cd x y → W p l e R s m args below meth c H locs cells slots Z (F0 m t ls rest)) (kf : ¬ am_cmp cd x y → W p l e R s m args below meth c H locs cells slots Z (F0 m (pc + 3) ls rest)) :
    W p l e R s m args below meth c H locs cells slots Z (F0 m pc ls (.int y :: .int x :: rest)) := by
  cases cd
  · exact lv_icmp_eq hx hb hd ht kt kf
  · exact lv_icmp_ne hx hb hd ht kt (fun q => kf (fun z => z q))
  · exact lv_icmp_lt hx hb hd ht kt kf
  · exact lv_icmp_ge hx hb hd ht kt kf
  · exact lv_icmp_gt hx hb hd ht kt kf
  · exact lv_icmp_le hx hb hd ht kt kf
theorem am_if {cd : Jvm.ClassFile.Cond} {off : Int} {t : Nat} {x : Int32} {rest : List Value} {cc : ByteArray} (hx : p.tables.exec = Jvm.exec) (hb : c.code = cc) (hd : decode cc pc = .ok (.ifCond cd off, 3)) (ht : (pc : Int) + off = t)
    (kt : am_cmp cd x 0 → W p l e R s m args below meth c H locs cells slots Z (F0 m t ls rest)) (kf : ¬ am_cmp cd x 0 → W p l e R s m args below meth c H locs cells slots Z (F0 m (pc + 3) ls rest)) :
    W p l e R s m args below meth c H locs cells slots Z (F0 m pc ls (.int x :: rest)) := by
  cases cd
  · exact lv_if_eq hx hb hd ht kt kf
  · exact lv_if_ne hx hb hd ht kt (fun q => kf (fun z => z q))
  · exact lv_if_lt hx hb hd ht kt kf
  · exact lv_if_ge hx hb hd ht kt kf
  · exact lv_if_gt hx hb hd ht kt kf
  · exact lv_if_le hx hb hd ht kt kf
theorem am_w_set {p i : Nat} {x : Int32} {sh : am_Sh} (h : am_sh p = some sh) : (am_w ad cA M).set p (ad p, am_cell ad cA (am_set M p i x) p sh) = am_w ad cA (am_set M p i x) :=
  am_w_up (M' := am_set M p i x) h (fun _ hz => va_up_ne _ _ hz) (fun _ _ => rfl)
theorem am_w_setL {p i : Nat} {x : Int64} {sh : am_Sh} (h : am_sh p = some sh) : (am_w ad cA M).set p (ad p, am_cell ad cA (am_setL M p i x) p sh) = am_w ad cA (am_setL M p i x) :=
  am_w_up (M' := am_setL M p i x) h (fun _ _ => rfl) (fun _ hz => va_up_ne _ _ hz)
set_option maxHeartbeats 4000000 in
theorem am_right_simple {i : Instr} {len : Nat} (hd : decode (am_bytes k) pc = .ok (i, len)) (h : am_do (am_X l) k pc i len L st M Q) (hn1 : ∀ ix, i ≠ .invokevirtual ix) (hn2 : ∀ ix, i ≠ .invokestatic ix) (hn3 : ∀ ix, i ≠ .new ix)
    (hC : am_C l D ad cA A k p R s m args meth c M.2.2.2 Bc Bs) (hE : am_E l D ad cA A k p e R s m args below meth c M.2.2.2 Q Bc Bs Z) (hL : am_L ad ls (am_nL k) L) (hP : va_P D am_cl (am_w ad cA M) H) (hS : va_S A s.heap H locs) (hb1 : cells + M.2.2.1 = Bc) (hb2 : slots + 6 * M.2.2.1 = Bs) :
    W p l e R s m args below meth c H locs cells slots Z (F0 m pc ls (st.map (am_v ad))) := by
  have go : ∀ {pc' : Nat} {L' st' : List Value} {ls' : Array Slot}, am_X l k pc' L' st' M Q → am_L ad ls' (am_nL k) L' → W p l e R s m args below meth c H locs cells slots Z (F0 m pc' ls' (st'.map (am_v ad))) :=
    fun h1 h2 => h1 D ad cA A p e R s m args below meth c Bc Bs Z H locs cells slots _ hC hE h2 hP hS hb1 hb2
  have go2 : ∀ {pc' : Nat} {L' st' : List Value} {M' : am_M} {H' : Heap} {locs' : List Loc}, am_X l k pc' L' st' M' Q → M'.2.2 = M.2.2 → am_L ad ls (am_nL k) L' → va_P D am_cl (am_w ad cA M') H' → va_S A s.heap H' locs' → W p l e R s m args below meth c H' locs' cells slots Z (F0 m pc' ls (st'.map (am_v ad))) :=
    fun {pc' L' st' M' H' locs'} h1 he h2 hP' hS' => h1 D ad cA A p e R s m args below meth c Bc Bs Z H' locs' cells slots _ (by rw [he]; exact hC) (by rw [he]; exact hE) h2 hP' hS' (by rw [he]; exact hb1) (by rw [he]; exact hb2)
  obtain ⟨hx, hb, hr, hml, hown, hts, hlk, het, hK, hDA, hA, hfl, hRl, hRf, hRc, hRs, hX1, hX2, hX3, hsta, hnc⟩ := id hC
  have hD := hDA M
  cases i
  case iconst n => obtain ⟨rfl, v, hv, h⟩ := h; exact lv_iconst hx hb hd hv (go h hL)
  case bipush n => obtain ⟨rfl, v, hv, h⟩ := h; exact lv_bipush hx hb hd hv (go h hL)
  case sipush n => obtain ⟨rfl, v, hv, h⟩ := h; exact lv_sipush hx hb hd hv (go h hL)
  case iload_n j => obtain ⟨rfl, v, hv, h⟩ := h; exact lv_iload_n hx hb hd rfl (hL.at hv rfl) (go h hL)
  case iload j => obtain ⟨rfl, v, hv, h⟩ := h; exact lv_iload hx hb hd (hL.at hv rfl) (go h hL)
  case aload_n j => obtain ⟨rfl, v, hv, h⟩ := h; exact lv_aload_n hx hb hd rfl (hL.at hv rfl) (go h hL)
  case aload j => obtain ⟨rfl, v, hv, h⟩ := h; exact lv_aload hx hb hd (hL.at hv rfl) (go h hL)
  case istore_n j => obtain ⟨rfl, x, r, rfl, hj, h⟩ := h; exact lv_istore_n hx hb hd rfl hL.2 (by rw [← hL.1]; exact hj) rfl (fun ls' h' => go h (hL.put (v := .int x) rfl h'))
  case istore j => obtain ⟨rfl, x, r, rfl, hj, h⟩ := h; exact lv_istore hx hb hd hL.2 (by rw [← hL.1]; exact hj) rfl (fun ls' h' => go h (hL.put (v := .int x) rfl h'))
  case iinc j n =>
    obtain ⟨rfl, x, v, hl, hv, h⟩ := h
    obtain ⟨q, hq⟩ := List.getElem?_of_mem (am_al_in (ad := ad) hl rfl)
    exact lv_iinc hx hb hd hL.2 hq hv (by rw [← hL.1]; exact (List.getElem?_eq_some_iff.mp hl).1) rfl (fun ls' h' => go h (hL.put (v := .int v) rfl h'))
  case iadd => obtain ⟨rfl, y, x, r, rfl, h⟩ := h; exact lv_iadd hx hb hd (go h hL)
  case isub => obtain ⟨rfl, y, x, r, rfl, h⟩ := h; exact lv_isub hx hb hd (go h hL)
  case imul => obtain ⟨rfl, y, x, r, rfl, h⟩ := h; exact lv_imul hx hb hd (go h hL)
  case iand => obtain ⟨rfl, y, x, r, rfl, h⟩ := h; exact lv_iand hx hb hd (go h hL)
  case ior => obtain ⟨rfl, y, x, r, rfl, h⟩ := h; exact lv_ior hx hb hd (go h hL)
  case ishl => obtain ⟨rfl, y, x, r, rfl, h⟩ := h; exact lv_ishl hx hb hd (go h hL)
  case ishr => obtain ⟨rfl, y, x, r, rfl, h⟩ := h; exact lv_ishr hx hb hd (go h hL)
  case iushr => obtain ⟨rfl, y, x, r, rfl, h⟩ := h; exact lv_iushr hx hb hd rfl (go h hL)
  case ineg => obtain ⟨rfl, x, r, rfl, h⟩ := h; exact lv_ineg hx hb hd (go h hL)
  case i2l => obtain ⟨rfl, x, r, rfl, h⟩ := h; exact lv_i2l hx hb hd rfl (go h hL)
  case i2c => obtain ⟨rfl, x, r, rfl, h⟩ := h; exact lv_i2c hx hb hd rfl (go h hL)
  case lcmp => obtain ⟨rfl, y, x, r, rfl, h⟩ := h; exact W.lcmp hx hb hd (go h hL)
  case dup => obtain ⟨rfl, v, r, rfl, hv, h⟩ := h; exact lv_dup hx hb hd (am_ok_cat hv) (go h hL)
  case goto off => obtain ⟨rfl, t, ht, h⟩ := h; exact lv_goto hx hb hd ht (go h hL)
  case ifCond cd off => obtain ⟨rfl, t, x, r, rfl, ht, h1, h2⟩ := h; exact am_if hx hb hd ht (fun q => go (h1 q) hL) (fun q => go (h2 q) hL)
  case if_icmp cd off => obtain ⟨rfl, t, y, x, r, rfl, ht, h1, h2⟩ := h; exact am_ic hx hb hd ht (fun q => go (h1 q) hL) (fun q => go (h2 q) hL)
  case tableswitch d lo hi offs =>
    obtain ⟨x, r, rfl, h1, h2⟩ := h
    by_cases hlo : x.toInt < lo
    · obtain ⟨t, ht, h⟩ := h1 (Or.inl hlo)
      exact lv_tableOut hx hb hd (Or.inl hlo) ht (go h hL)
    · by_cases hhi : hi < x.toInt
      · obtain ⟨t, ht, h⟩ := h1 (Or.inr hhi)
        exact lv_tableOut hx hb hd (Or.inr hhi) ht (go h hL)
      · obtain ⟨off, t, ho, ht, h⟩ := h2 hlo hhi
        exact lv_tableIn hx hb hd hlo hhi ho ht (go h hL)
  case iaload =>
    obtain ⟨rfl, x, q, r, rfl, ⟨rfl, hi, h⟩ | ⟨n, hs, hi, h⟩⟩ := h
    · exact va_sld hx hb hX1 hX2 hX3 hS hi hd (go h hL)
    · exact va_iald hx hb hK hP q 0 (am_w_at hs) rfl hi hd (go h hL)
  case baload => obtain ⟨rfl, x, q, n, r, rfl, hs, hi, h⟩ := h; exact va_zald hx hb hK hP q 1 (am_w_at hs) rfl hi hd (go h hL)
  case caload => obtain ⟨rfl, x, q, n, r, rfl, hs, hi, h⟩ := h; exact va_cald hx hb hK hP q 2 (am_w_at hs) rfl hi hd (go h hL)
  case laload => obtain ⟨rfl, x, q, n, r, rfl, hs, hi, h⟩ := h; exact va_lald hx hb hK hP q 3 (am_w_at hs) rfl hi hd (go h hL)
  case iastore =>
    obtain ⟨rfl, v, x, q, n, r, rfl, hs, hi, h⟩ := h
    refine va_iast hx hb hK hP hD hS q 0 (am_w_at hs) rfl hi hd (fun H1 locs1 hP1 _ hS1 => go2 h rfl hL ?_ hS1)
    rw [← am_w_set hs]
    rw [show am_cell ad cA (am_set M q x.toNatClampNeg v) q (.inl (.int, n)) = .inl (cA .int, n, .inl (upd (M.1 q) x.toNatClampNeg v)) by simp [am_cell, am_set, va_up_self]]
    exact hP1
  case bastore =>
    obtain ⟨rfl, v, x, q, n, r, rfl, hs, hi, h⟩ := h
    refine va_zast hx hb hK hP hD hS q 1 (am_w_at hs) rfl hi hd (fun H1 locs1 hP1 _ hS1 => go2 h rfl hL ?_ hS1)
    rw [← am_w_set hs]
    rw [show am_cell ad cA (am_set M q x.toNatClampNeg (vp_nar .boolean v)) q (.inl (.boolean, n)) = .inl (cA .boolean, n, .inl (upd (M.1 q) x.toNatClampNeg (vp_nar .boolean v))) by simp [am_cell, am_set, va_up_self]]
    exact hP1
  case castore =>
    obtain ⟨rfl, v, x, q, n, r, rfl, hs, hi, h⟩ := h
    refine va_cast hx hb hK hP hD hS q 2 (am_w_at hs) rfl hi hd (fun H1 locs1 hP1 _ hS1 => go2 h rfl hL ?_ hS1)
    rw [← am_w_set hs]
    rw [show am_cell ad cA (am_set M q x.toNatClampNeg (vp_nar .char v)) q (.inl (.char, n)) = .inl (cA .char, n, .inl (upd (M.1 q) x.toNatClampNeg (vp_nar .char v))) by simp [am_cell, am_set, va_up_self]]
    exact hP1
  case lastore =>
    obtain ⟨rfl, v, x, q, n, r, rfl, hs, hi, h⟩ := h
    refine va_last hx hb hK hP hD hS q 3 (am_w_at hs) rfl hi hd (fun H1 locs1 hP1 _ hS1 => go2 h rfl hL ?_ hS1)
    rw [← am_w_setL hs]
    rw [show am_cell ad cA (am_setL M q x.toNatClampNeg v) q (.inl (.long, n)) = .inl (cA .long, n, .inr (.inl (vp_updL (M.2.1 q) x.toNatClampNeg v))) by simp [am_cell, am_setL, va_up_self]]
    exact hP1
  case arraylength =>
    obtain ⟨rfl, q, r, rfl, ⟨rfl, h⟩ | ⟨ty, n, hs, hy, h⟩⟩ := h
    · exact va_slen hx hb hX1 hX2 hX3 hS hd (go h hL)
    · have hh : ∃ (t0 : Nat) (xx : vp_A), (am_tys cA)[t0]? = some (cA ty, ty) ∧ xx.1 = n ∧ am_cell ad cA M q (.inl (ty, n)) = .inl (cA ty, xx) := by
        simp only [am_tyL, List.mem_cons, List.not_mem_nil, or_false] at hy
        rcases hy with rfl | rfl | rfl | rfl
        · exact ⟨0, (n, .inl (M.1 q)), rfl, rfl, rfl⟩
        · exact ⟨1, (n, .inl (M.1 q)), rfl, rfl, rfl⟩
        · exact ⟨2, (n, .inl (M.1 q)), rfl, rfl, rfl⟩
        · exact ⟨3, (n, .inr (.inl (M.2.1 q))), rfl, rfl, rfl⟩
      obtain ⟨t0, xx, h1, h2, h3⟩ := hh
      exact va_alen hx hb hK hP q t0 (x := xx) (by rw [am_w_at hs, h3]) h1 (by rw [h2]) hd (go h hL)
  case getfield ix =>
    obtain ⟨rfl, q, ci, f, r, fs, o, rfl, hf, hs, ho, h⟩ := h
    obtain ⟨CC, TT, NN, g1, g2, g3, g4, g5⟩ := am_fld_ok hf
    have hlen : f < fs.length := (List.getElem?_eq_some_iff.mp ho).1
    have hgd : fs.getD f none = o := by rw [List.getD_eq_getElem?_getD, ho]; rfl
    have hv : ((List.range fs.length).map fun f => am_v ad (am_fv M q f (fs.getD f none)))[f]? = some (am_v ad (am_fv M q f o)) := by
      rw [List.getElem?_map, List.getElem?_range hlen]
      show some (am_v ad (am_fv M q f (fs.getD f none))) = _
      rw [hgd]
    rcases g5 with g5 | ⟨host, g5⟩
    · exact va_get (D := D) hx hb hts g4 hown hK hP q (am_w_at hs) g1 f g2 (hts _ g5) (fun z hz => by rw [← g3]; exact hz) hv hd (go h hL)
    · exact va_getN (D := D) hx hb hts g4 hown hK hP q (am_w_at hs) g1 f g2 (hts _ g5) (fun z hz => by rw [← g3]; exact hz) hv hd (go h hL)
  case putfield ix =>
    obtain ⟨rfl, v, q, ci, f, r, fs, ty, rfl, hf, hs, ho, hty, hnw, hft, h⟩ := h
    obtain ⟨CC, TT, NN, g1, g2, g3, g4, g5⟩ := am_fld_ok hf
    obtain ⟨ty0, t1, t2, t3, t4⟩ := am_fty_ok g1 g2 hty
    have hlen : f < fs.length := (List.getElem?_eq_some_iff.mp ho).1
    have hgd : fs.getD f none = none := by rw [List.getD_eq_getElem?_getD, ho]; rfl
    have hcell : (Sum.inr (ci, (((List.range fs.length).map fun f => am_v ad (am_fv M q f (fs.getD f none))).set f (.int v))) : va_E) = am_cell ad cA (am_set M q f v) q (.inr (ci, fs)) := by
      simp only [am_cell]
      congr 2
      apply List.ext_getElem?
      intro j
      by_cases hj : j = f
      · subst hj
        rw [List.getElem?_set_self (by simpa using hlen), List.getElem?_map, List.getElem?_range hlen]
        simp only [Option.map_some, hgd, am_fv, am_v, am_set, va_up_self, upd, if_true]
      · rw [List.getElem?_set_ne (fun z => hj z.symm), List.getElem?_map, List.getElem?_map]
        cases hr : (List.range fs.length)[j]? with
        | none => rfl
        | some j' =>
          have hj' : j' = j := by
            have hl := (List.getElem?_eq_some_iff.mp hr).1
            rw [List.getElem?_range (by simpa using hl)] at hr
            exact (Option.some.inj hr).symm
          subst hj'
          show some (am_v ad (am_fv M q j' (fs.getD j' none))) = some (am_v ad (am_fv (am_set M q f v) q j' (fs.getD j' none)))
          cases fs.getD j' none with
          | none => simp only [am_fv, am_set, va_up_self, upd, if_neg hj]
          | some z => rfl
    have kk : ∀ (H1 : Heap) (locs1 : List Loc), va_P D am_cl ((am_w ad cA M).set q (ad q, .inr (ci, (((List.range fs.length).map fun f => am_v ad (am_fv M q f (fs.getD f none))).set f (.int v))))) H1 → va_D A ((am_w ad cA M).set q (ad q, .inr (ci, (((List.range fs.length).map fun f => am_v ad (am_fv M q f (fs.getD f none))).set f (.int v))))) → va_S A s.heap H1 locs1 → W p l e R s m args below meth c H1 locs1 cells slots Z (F0 m (pc + 3) ls (r.map (am_v ad))) := by
      intro H1 locs1 hP1 _ hS1
      refine go2 h rfl hL ?_ hS1
      rw [← am_w_set hs, ← hcell]
      exact hP1
    rcases g5 with g5 | ⟨host, g5⟩
    · exact va_put (D := D) (v := .int v) hx hb hts g4 ty0 t1 t2 hown hK hP hD hS q (am_w_at hs) g1 f g2 (hts _ g5) (fun z hz => by rw [← g3]; exact hz) t3 t4 hnw hft (by simpa using hlen) hd kk
    · exact va_putN (D := D) (v := .int v) hx hb hts g4 ty0 t1 t2 hown hK hP hD hS q (am_w_at hs) g1 f g2 (hts _ g5) (fun z hz => by rw [← g3]; exact hz) t3 t4 hnw hft (by simpa using hlen) hd kk
  case ireturn => obtain ⟨rfl, v, ty, rfl, h1, h2, h⟩ := h; exact hE.1 v ty pc M H locs cells slots ls h1 h2 hd h rfl hP hS hb1 hb2
  case return_ => obtain ⟨rfl, rfl, h1, h⟩ := h; exact hE.2.1 pc M H locs cells slots ls h1 hd h rfl hP hS hb1 hb2
  case invokevirtual ix => exact absurd rfl (hn1 ix)
  case invokestatic ix => exact absurd rfl (hn2 ix)
  case new ix => exact absurd rfl (hn3 ix)
  all_goals exact False.elim h
end AMX
