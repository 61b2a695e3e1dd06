/-! the model: lines, meet, changed, join -/
def on_l (pn : Nat → Nat) : Nat → Nat → Nat → Bool
  | 0, b, a => decide (b = a)
  | d + 1, b, a => if b = a then true else if b = 0 then false else on_l pn d (pn b) a
def lf (pn : Nat → Nat) (fk : Nat → Int32) : Nat → Nat → Nat → Int32 → Int32
  | 0, _, _, w => w
  | d + 1, b, a, w => if b = a then w else lf pn fk d (pn b) a (fk b)
def lca (pn : Nat → Nat) : Nat → Nat → Nat → Nat
  | 0, a, _ => a
  | d + 1, a, t => if on_l pn t t a = true then a else lca pn d (pn a) t
def mo_meet (pn : Nat → Nat) (fk : Nat → Int32) (w : Int32) (a t : Nat) : Int32 := if lf pn fk t t (lca pn a a t) w ≤ lf pn fk a a (lca pn a a t) w then lf pn fk t t (lca pn a a t) w else lf pn fk a a (lca pn a a t) w
section ML
variable {pn : Nat → Nat} {fk : Nat → Int32} {nb : Nat}
theorem on_l_self (d b : Nat) : on_l pn d b b = true := by cases d <;> simp [on_l]
theorem on_l_step {d b a : Nat} (h : b ≠ a) (h0 : b ≠ 0) : on_l pn (d + 1) b a = on_l pn d (pn b) a := by simp [on_l, h, h0]
theorem on_l_z {d a : Nat} (h : 0 ≠ a) : on_l pn d 0 a = false := by cases d <;> simp [on_l, h]
theorem on_l_fuel (hp : ∀ b, 0 < b → b < nb → pn b < b) {a : Nat} : ∀ d d' b, b < nb → b ≤ d → b ≤ d' → on_l pn d b a = on_l pn d' b a := by
  intro d
  induction d with
  | zero =>
    intro d' b hb h1 h2
    obtain rfl : b = 0 := by omega
    by_cases h : 0 = a
    · subst h; rw [on_l_self, on_l_self]
    · rw [on_l_z h, on_l_z h]
  | succ d ih =>
    intro d' b hb h1 h2
    by_cases h : b = a
    · subst h; rw [on_l_self, on_l_self]
    · by_cases h0 : b = 0
      · subst h0; rw [on_l_z h, on_l_z h]
      · obtain ⟨e, rfl⟩ : ∃ e, d' = e + 1 := ⟨d' - 1, by omega⟩
        have := hp b (by omega) hb
        rw [on_l_step h h0, on_l_step h h0]
        exact ih e (pn b) (by omega) (by omega) (by omega)
theorem on_l_down (hp : ∀ b, 0 < b → b < nb → pn b < b) {a b : Nat} (hb : b < nb) (h : b ≠ a) (h0 : 0 < b) : on_l pn b b a = on_l pn (pn b) (pn b) a := by
  obtain ⟨e, rfl⟩ : ∃ e, b = e + 1 := ⟨b - 1, by omega⟩
  have := hp (e + 1) h0 hb
  rw [on_l_step h (by omega)]
  exact on_l_fuel hp _ _ _ (by omega) (by omega) (by omega)
theorem on_l_0 (hp : ∀ b, 0 < b → b < nb → pn b < b) : ∀ n b, b ≤ n → b < nb → on_l pn b b 0 = true := by
  intro n
  induction n with
  | zero => intro b h _; obtain rfl : b = 0 := by omega
            exact on_l_self _ _
  | succ n ih =>
    intro b h hb
    by_cases h0 : b = 0
    · subst h0; exact on_l_self _ _
    · rw [on_l_down hp hb h0 (by omega)]
      have := hp b (by omega) hb
      exact ih _ (by omega) (by omega)
theorem on_l_par (hp : ∀ b, 0 < b → b < nb → pn b < b) {a : Nat} (ha : 0 < a) (han : a < nb) : ∀ n b, b ≤ n → b < nb → on_l pn b b a = true → on_l pn b b (pn a) = true := by
  have hpa := hp a ha han
  intro n
  induction n with
  | zero => intro b h _ h1
            obtain rfl : b = 0 := by omega
            rw [on_l_z (by omega)] at h1
            cases h1
  | succ n ih =>
    intro b h hb h1
    by_cases hba : b = a
    · subst hba
      rw [on_l_down hp hb (by omega) ha]
      exact on_l_self _ _
    · by_cases h0 : b = 0
      · subst h0; rw [on_l_z hba] at h1; cases h1
      · have hpb := hp b (by omega) hb
        rw [on_l_down hp hb hba (by omega)] at h1
        have h2 := ih _ (by omega) (by omega) h1
        by_cases hbp : b = pn a
        · rw [← hbp]; exact on_l_self _ _
        · rw [on_l_down hp hb hbp (by omega)]; exact h2
theorem lf_self (d b : Nat) (w : Int32) : lf pn fk d b b w = w := by cases d <;> simp [lf]
theorem lf_step {d b a : Nat} {w : Int32} (h : b ≠ a) : lf pn fk (d + 1) b a w = lf pn fk d (pn b) a (fk b) := by simp [lf, h]
theorem lf_fuel (hp : ∀ b, 0 < b → b < nb → pn b < b) {a : Nat} : ∀ d d' b w, b < nb → b ≤ d → b ≤ d' → on_l pn b b a = true → lf pn fk d b a w = lf pn fk d' b a w := by
  intro d
  induction d with
  | zero =>
    intro d' b w hb h1 h2 ho
    obtain rfl : b = 0 := by omega
    by_cases h : 0 = a
    · subst h; rw [lf_self, lf_self]
    · rw [on_l_z h] at ho; cases ho
  | succ d ih =>
    intro d' b w hb h1 h2 ho
    by_cases h : b = a
    · subst h; rw [lf_self, lf_self]
    · by_cases h0 : b = 0
      · subst h0; rw [on_l_z h] at ho; cases ho
      · obtain ⟨e, rfl⟩ : ∃ e, d' = e + 1 := ⟨d' - 1, by omega⟩
        have := hp b (by omega) hb
        rw [lf_step h, lf_step h]
        rw [on_l_down hp hb h (by omega)] at ho
        exact ih e (pn b) _ (by omega) (by omega) (by omega) ho
theorem lf_down (hp : ∀ b, 0 < b → b < nb → pn b < b) {a b : Nat} {w : Int32} (hb : b < nb) (h : b ≠ a) (h0 : 0 < b) (ho : on_l pn b b a = true) : lf pn fk b b a w = lf pn fk (pn b) (pn b) a (fk b) := by
  obtain ⟨e, rfl⟩ : ∃ e, b = e + 1 := ⟨b - 1, by omega⟩
  have := hp (e + 1) h0 hb
  rw [lf_step h]
  rw [on_l_down hp hb h h0] at ho
  exact lf_fuel hp _ _ _ _ (by omega) (by omega) (by omega) ho
theorem lca_fuel (hp : ∀ b, 0 < b → b < nb → pn b < b) {t : Nat} (ht : t < nb) : ∀ d d' a, a < nb → a ≤ d → a ≤ d' → lca pn d a t = lca pn d' a t := by
  intro d
  have z : ∀ d, lca pn d 0 t = 0 := fun d => by
    cases d with
    | zero => rfl
    | succ d => simp only [lca]; rw [if_pos (on_l_0 hp t t (Nat.le_refl _) ht)]
  induction d with
  | zero => intro d' a ha h1 h2
            obtain rfl : a = 0 := by omega
            rw [z, z]
  | succ d ih =>
    intro d' a ha h1 h2
    by_cases h0 : a = 0
    · subst h0; rw [z, z]
    · obtain ⟨e, rfl⟩ : ∃ e, d' = e + 1 := ⟨d' - 1, by omega⟩
      have := hp a (by omega) ha
      simp only [lca]
      split
      · rfl
      · exact ih e (pn a) (by omega) (by omega) (by omega)
theorem lca_t {a t : Nat} (h : on_l pn t t a = true) : lca pn a a t = a := by
  cases a with
  | zero => rfl
  | succ a => simp only [lca]; rw [if_pos h]
theorem lca_f (hp : ∀ b, 0 < b → b < nb → pn b < b) {a t : Nat} (ht : t < nb) (ha : a < nb) (h0 : 0 < a) (h : ¬ on_l pn t t a = true) : lca pn a a t = lca pn (pn a) (pn a) t := by
  obtain ⟨e, rfl⟩ : ∃ e, a = e + 1 := ⟨a - 1, by omega⟩
  have := hp (e + 1) h0 ha
  simp only [lca]
  rw [if_neg h]
  exact lca_fuel hp ht _ _ _ (by omega) (by omega) (by omega)
end ML
theorem m_isOnLine {pn : Nat → Nat} {nb nw ck : Nat} {M : am_M} {Q : am_T} (hS : moS M pn nb nw ck) {b a : Nat} (hb : b < nb) (ha : a < nb) (h1 : on_l pn b b a = true → Q (.inl (some (.int 1))) M) (h0 : ¬ on_l pn b b a = true → Q (.inl (some (.int 0))) M) : am_W kM_isOnLine 0 (am_in kM_isOnLine [.ref 27, .int (nI b), .int (nI a)]) [] M Q := by
  have hS0 := hS
  obtain ⟨s1, s2, s3, s4, s5, s6, s7, s8, s9⟩ := hS
  have s26 := s2.1
  have s41 := s4.1
  obtain ⟨_, hpn, hpar, hfk⟩ := s2
  have e1 : ∀ x1 x3 : Int32, x3 = nI a → on_l pn b b a = true → am_W kM_isOnLine 21 [.ref 27, .int x1, .int (nI a), .int x3] [] M Q := by
    intro x1 x3 hx ho
    refine am_iload_n d52_21 rfl ?_
    refine am_iload_n d52_22 rfl ?_
    refine am_icne 30 d52_23 (by decide) (fun h => absurd hx h) (fun _ => ?_)
    refine am_iconst 1 d52_26 (by decide) ?_
    refine am_goto 31 d52_27 (by decide) ?_
    exact am_iret d52_31 rfl (by decide) (h1 ho)
  have e0 : ∀ x1 x3 : Int32, ¬ x3 = nI a → ¬ on_l pn b b a = true → am_W kM_isOnLine 21 [.ref 27, .int x1, .int (nI a), .int x3] [] M Q := by
    intro x1 x3 hx ho
    refine am_iload_n d52_21 rfl ?_
    refine am_iload_n d52_22 rfl ?_
    refine am_icne 30 d52_23 (by decide) (fun _ => ?_) (fun h => absurd h hx)
    refine am_iconst 0 d52_30 (by decide) ?_
    exact am_iret d52_31 rfl (by decide) (h0 ho)
  have loop : ∀ n on, on ≤ n → on < nb → on_l pn on on a = on_l pn b b a → ∀ x1 : Int32, am_W kM_isOnLine 2 [.ref 27, .int x1, .int (nI a), .int (nI on)] [] M Q := by
    intro n
    induction n with
    | zero =>
      intro on hon hnb he x1
      obtain rfl : on = 0 := by omega
      refine am_iload_n d52_2 rfl ?_
      refine am_iflt 21 d52_3 (by decide) (fun h => absurd h (nI_pos (by omega))) (fun _ => ?_)
      refine am_iload_n d52_6 rfl ?_
      refine am_iload_n d52_7 rfl ?_
      refine am_iceq 21 d52_8 (by decide) (fun h => ?_) (fun h => ?_)
      · refine e1 _ _ h ?_
        rw [← he, ← (nI_eq (by omega) (by omega)).mp h]
        exact on_l_self _ _
      · refine am_aload_n d52_11 rfl ?_
        refine am_getr d52_12 fl52_13 sh_27 rfl ?_
        refine am_iload_n d52_15 rfl ?_
        refine am_ialdN 0 d52_16 sh_28 (by omega) (by decide) ?_
        rw [s8]
        refine am_istore_n d52_17 (Nat.le_of_ble_eq_true rfl) rfl ?_
        refine am_goto 2 d52_18 (by decide) ?_
        refine am_iload_n d52_2 rfl ?_
        refine am_iflt 21 d52_3 (by decide) (fun _ => ?_) (fun h => absurd (by decide) h)
        refine e0 _ _ (fun z => ?_) ?_
        · have h3 : nI a < 0 := by rw [← z]; decide
          exact absurd h3 (nI_pos (by omega))
        · rw [← he, on_l_z (fun z => h (by rw [z]))]
          exact fun z => by cases z
    | succ n ih =>
      intro on hon hnb he x1
      by_cases hz : on ≤ n
      · exact ih on hz hnb he x1
      have hpos : 0 < on := by omega
      have hlt := hpn on hpos hnb
      refine am_iload_n d52_2 rfl ?_
      refine am_iflt 21 d52_3 (by decide) (fun h => absurd h (nI_pos (by omega))) (fun _ => ?_)
      refine am_iload_n d52_6 rfl ?_
      refine am_iload_n d52_7 rfl ?_
      refine am_iceq 21 d52_8 (by decide) (fun h => ?_) (fun h => ?_)
      · refine e1 _ _ h ?_
        rw [← he, ← (nI_eq (by omega) (by omega)).mp h]
        exact on_l_self _ _
      · refine am_aload_n d52_11 rfl ?_
        refine am_getr d52_12 fl52_13 sh_27 rfl ?_
        refine am_iload_n d52_15 rfl ?_
        refine am_ialdN on d52_16 sh_28 (by omega) (by decide) ?_
        rw [hpar on hpos hnb]
        refine am_istore_n d52_17 (Nat.le_of_ble_eq_true rfl) rfl ?_
        refine am_goto 2 d52_18 (by decide) ?_
        refine ih (pn on) (by omega) (by omega) ?_ _
        rw [← on_l_down hpn hnb (fun z => h (by rw [z])) hpos]
        exact he
  show am_W kM_isOnLine 0 _ [] M Q
  refine am_iload_n d52_0 rfl ?_
  refine am_istore_n d52_1 (Nat.le_of_ble_eq_true rfl) rfl ?_
  exact loop b b (Nat.le_refl _) hb rfl _
theorem m_left {pn : Nat → Nat} {nb nw ck : Nat} {M : am_M} {Q : am_T} (hS : moS M pn nb nw ck) {b a : Nat} (hb : b < nb) (ha : a < nb) (ho : on_l pn b b a = true) (hQ : Q (.inl (some (.int (lf pn (M.1 29) b b a (nI ck))))) M) : am_W kM_left 0 (am_in kM_left [.ref 27, .int (nI b), .int (nI a)]) [] M Q := by
  have hS0 := hS
  obtain ⟨s1, s2, s3, s4, s5, s6, s7, s8, s9⟩ := hS
  have s26 := s2.1
  have s41 := s4.1
  obtain ⟨_, hpn, hpar, hfk⟩ := s2
  have loop : ∀ n on, on ≤ n → on < nb → on_l pn on on a = true → ∀ (x1 w : Int32), Q (.inl (some (.int (lf pn (M.1 29) on on a w)))) M → am_W kM_left 8 [.ref 27, .int x1, .int (nI a), .int w, .int (nI on)] [] M Q := by
    intro n
    induction n with
    | zero =>
      intro on hon hnb he x1 w hq
      obtain rfl : on = 0 := by omega
      have h0a : 0 = a := Classical.byContradiction (fun z => by rw [on_l_z z] at he; cases he)
      subst h0a
      rw [lf_self] at hq
      refine am_iload d53_8 rfl ?_
      refine am_iload_n d53_10 rfl ?_
      refine am_iceq 34 d53_11 (by decide) (fun _ => ?_) (fun h => absurd rfl h)
      refine am_iload_n d53_34 rfl ?_
      exact am_iret d53_35 rfl rfl hq
    | succ n ih =>
      intro on hon hnb he x1 w hq
      by_cases hz : on ≤ n
      · exact ih on hz hnb he x1 w hq
      have hpos : 0 < on := by omega
      have hlt := hpn on hpos hnb
      refine am_iload d53_8 rfl ?_
      refine am_iload_n d53_10 rfl ?_
      refine am_iceq 34 d53_11 (by decide) (fun h => ?_) (fun h => ?_)
      · have hoa := (nI_eq (by omega) (by omega)).mp h
        subst hoa
        rw [lf_self] at hq
        refine am_iload_n d53_34 rfl ?_
        exact am_iret d53_35 rfl rfl hq
      · have hne : on ≠ a := fun z => h (by rw [z])
        refine am_aload_n d53_14 rfl ?_
        refine am_getr d53_15 fl53_17 sh_27 rfl ?_
        refine am_iload d53_18 rfl ?_
        refine am_ialdN on d53_20 sh_29 (by omega) (by decide) ?_
        refine am_istore_n d53_21 (Nat.le_of_ble_eq_true rfl) rfl ?_
        refine am_aload_n d53_22 rfl ?_
        refine am_getr d53_23 fl53_13 sh_27 rfl ?_
        refine am_iload d53_26 rfl ?_
        refine am_ialdN on d53_28 sh_28 (by omega) (by decide) ?_
        rw [hpar on hpos hnb]
        refine am_istore d53_29 (Nat.le_of_ble_eq_true rfl) rfl ?_
        refine am_goto 8 d53_31 (by decide) ?_
        rw [lf_down hpn hnb hne hpos he] at hq
        rw [on_l_down hpn hnb hne hpos] at he
        exact ih (pn on) (by omega) (by omega) he _ _ hq
  show am_W kM_left 0 _ [] M Q
  refine am_aload_n d53_0 rfl ?_
  refine am_geti d53_1 fl53_55 sh_27 rfl ?_
  rw [s5]
  refine am_istore_n d53_4 (Nat.le_of_ble_eq_true rfl) rfl ?_
  refine am_iload_n d53_5 rfl ?_
  refine am_istore d53_6 (Nat.le_of_ble_eq_true rfl) rfl ?_
  exact loop b b (Nat.le_refl _) hb ho _ _ hQ
theorem m_meet {pn : Nat → Nat} {nb nw ck : Nat} {M : am_M} {Q : am_T} (hS : moS M pn nb nw ck) {a t : Nat} (ha : a < nb) (ht : t < nb) (hQ : Q (.inl (some (.int (mo_meet pn (M.1 29) (nI ck) a t)))) M) : am_W kM_meet 0 (am_in kM_meet [.ref 27, .int (nI a), .int (nI t)]) [] M Q := by
  have hS0 := hS
  obtain ⟨s1, s2, s3, s4, s5, s6, s7, s8, s9⟩ := hS
  have s26 := s2.1
  have s41 := s4.1
  have hB := s2
  obtain ⟨_, hpn, hpar, hfk⟩ := s2
  have fin : ∀ x, x < nb → on_l pn a a x = true → on_l pn t t x = true → x = lca pn a a t → am_W kM_meet 21 [.ref 27, .int (nI a), .int (nI t), .int (nI x), .null, .null] [] M Q := by
    intro x hx hon hot he
    refine am_aload_n d54_21 rfl ?_
    refine am_iload_n d54_22 rfl ?_
    refine am_iload_n d54_23 rfl ?_
    refine am_cv2 53 d54_24 ml54_102 rfl (by decide) sh_27 rfl rfl rfl (Nat.le_of_ble_eq_true rfl) ?_
    refine m_left hS0 ha hx hon ?_
    show am_W 54 27 _ (.int _ :: _) _ _
    refine am_istore d54_27 (Nat.le_of_ble_eq_true rfl) rfl ?_
    refine am_aload_n d54_29 rfl ?_
    refine am_iload_n d54_30 rfl ?_
    refine am_iload_n d54_31 rfl ?_
    refine am_cv2 53 d54_32 ml54_102 rfl (by decide) sh_27 rfl rfl rfl (Nat.le_of_ble_eq_true rfl) ?_
    refine m_left hS0 ht hx hot ?_
    show am_W 54 35 _ (.int _ :: _) _ _
    refine am_istore d54_35 (Nat.le_of_ble_eq_true rfl) rfl ?_
    refine am_iload d54_37 rfl ?_
    refine am_iload d54_39 rfl ?_
    refine am_icge 49 d54_41 (by decide) (fun h41 => ?_) (fun h41 => ?_)
    · refine am_iload d54_49 rfl ?_
      refine am_iret d54_51 rfl rfl ?_
      unfold mo_meet at hQ
      rw [← he] at hQ
      first | (rw [if_pos h41] at hQ; exact hQ) | (rw [if_neg h41] at hQ; exact hQ)
    · refine am_iload d54_44 rfl ?_
      refine am_goto 51 d54_46 (by decide) ?_
      refine am_iret d54_51 rfl rfl ?_
      unfold mo_meet at hQ
      rw [← he] at hQ
      first | (rw [if_pos h41] at hQ; exact hQ) | (rw [if_neg h41] at hQ; exact hQ)
  have loop : ∀ n x, x ≤ n → x < nb → on_l pn a a x = true → lca pn x x t = lca pn a a t → am_W kM_meet 2 [.ref 27, .int (nI a), .int (nI t), .int (nI x), .null, .null] [] M Q := by
    intro n
    induction n with
    | zero =>
      intro x hxn hx hon he
      obtain rfl : x = 0 := by omega
      have h0 := on_l_0 hpn t t (Nat.le_refl _) ht
      refine am_aload_n d54_2 rfl ?_
      refine am_iload_n d54_3 rfl ?_
      refine am_iload_n d54_4 rfl ?_
      refine am_cv2 52 d54_5 ml54_99 rfl (by decide) sh_27 rfl rfl rfl (Nat.le_of_ble_eq_true rfl) ?_
      refine m_isOnLine hS0 ht hx (fun hot => ?_) (fun hot => absurd h0 hot)
      show am_W 54 8 _ (.int 1 :: _) _ _
      refine am_ifne 21 d54_8 (by decide) (fun _ => ?_) (fun h => absurd h (by decide))
      exact fin 0 hx hon hot ((lca_t hot).symm.trans he)
    | succ n ih =>
      intro x hxn hx hon he
      by_cases hz : x ≤ n
      · exact ih x hz hx hon he
      have hpos : 0 < x := by omega
      have hlt := hpn x hpos hx
      refine am_aload_n d54_2 rfl ?_
      refine am_iload_n d54_3 rfl ?_
      refine am_iload_n d54_4 rfl ?_
      refine am_cv2 52 d54_5 ml54_99 rfl (by decide) sh_27 rfl rfl rfl (Nat.le_of_ble_eq_true rfl) ?_
      refine m_isOnLine hS0 ht hx (fun hot => ?_) (fun hot => ?_)
      · show am_W 54 8 _ (.int 1 :: _) _ _
        refine am_ifne 21 d54_8 (by decide) (fun _ => ?_) (fun h => absurd h (by decide))
        exact fin x hx hon hot ((lca_t hot).symm.trans he)
      · show am_W 54 8 _ (.int 0 :: _) _ _
        refine am_ifne 21 d54_8 (by decide) (fun h => absurd rfl h) (fun _ => ?_)
        refine am_aload_n d54_11 rfl ?_
        refine am_getr d54_12 fl54_13 sh_27 rfl ?_
        refine am_iload_n d54_15 rfl ?_
        refine am_ialdN x d54_16 sh_28 (by omega) (by decide) ?_
        rw [hpar x hpos hx]
        refine am_istore_n d54_17 (Nat.le_of_ble_eq_true rfl) rfl ?_
        refine am_goto 2 d54_18 (by decide) ?_
        exact ih (pn x) (by omega) (by omega) (on_l_par hpn hpos hx a a (Nat.le_refl _) ha hon) ((lca_f hpn ht hx hpos hot).symm.trans he)
  show am_W kM_meet 0 _ [] M Q
  refine am_iload_n d54_0 rfl ?_
  refine am_istore_n d54_1 (Nat.le_of_ble_eq_true rfl) rfl ?_
  exact loop a a (Nat.le_refl _) ha (on_l_self _ _) rfl
theorem q_meeting {pn : Nat → Nat} {nb nw ck : Nat} {M : am_M} {Q : am_T} (hS : moS M pn nb nw ck) {a e : Int32} (h1 : ¬ (ix a nb ∧ ix e nb) → ∀ M', cd M M' 1 → Q (.inl (some (.int 0))) M') (h0 : ∀ b d, b < nb → a = nI b → d < nb → e = nI d → ∀ M', cd M M' 0 → Q (.inl (some (.int (mo_meet pn (M.1 29) (nI ck) b d)))) M') : am_W kM_meeting 0 (am_in kM_meeting [.ref 27, .int a, .int e]) [] M Q := by
  have hS0 := hS
  obtain ⟨s1, s2, s3, s4, s5, s6, s7, s8, s9⟩ := hS
  have s26 := s2.1
  have s41 := s4.1
  show am_W kM_meeting 0 _ [] M Q
  refine am_aload_n d55_0 rfl ?_
  refine am_aload_n d55_1 rfl ?_
  refine am_iload_n d55_2 rfl ?_
  refine am_cv1 34 d55_3 ml55_79 rfl (by decide) sh_27 rfl rfl (Nat.le_of_ble_eq_true rfl) ?_
  refine m_noBranch hS0 (fun g1 => ?_) (fun g1 => ?_)
  · show am_W 55 6 _ (.int 1 :: _) _ _
    refine am_ifne 17 d55_6 (by decide) (fun _ => ?_) (fun h => absurd h (by decide))
    refine am_iconst 1 d55_17 (by decide) ?_
    refine am_goto 22 d55_18 (by decide) ?_
    refine am_put d55_22 fl55_45 sh_27 rfl rfl rfl rfl ?_
    refine am_aload_n d55_25 rfl ?_
    refine am_geti d55_26 fl55_45 sh_27 rfl ?_
    show am_W 55 29 _ (.int 1 :: _) _ _
    refine am_ifle 36 d55_29 (by decide) (fun h => absurd h (by decide)) (fun _ => ?_)
    refine am_iconst 0 d55_32 (by decide) ?_
    refine am_goto 42 d55_33 (by decide) ?_
    refine am_iret d55_42 rfl rfl ?_
    first | exact h0 b d hb rfl hd rfl _ (cd_0 M 0) | exact h1 (fun z => g2 z.2) _ (cd_0 M _) | exact h1 (fun z => g1 z.1) _ (cd_0 M _)
  · show am_W 55 6 _ (.int 0 :: _) _ _
    obtain ⟨b, hb, rfl⟩ := g1
    refine am_ifne 17 d55_6 (by decide) (fun h => absurd h (by decide)) (fun _ => ?_)
    refine am_aload_n d55_9 rfl ?_
    refine am_iload_n d55_10 rfl ?_
    refine am_cv1 34 d55_11 ml55_79 rfl (by decide) sh_27 rfl rfl (Nat.le_of_ble_eq_true rfl) ?_
    refine m_noBranch hS0 (fun g2 => ?_) (fun g2 => ?_)
    · show am_W 55 14 _ (.int 1 :: _) _ _
      refine am_ifeq 21 d55_14 (by decide) (fun h => absurd h (by decide)) (fun _ => ?_)
      refine am_iconst 1 d55_17 (by decide) ?_
      refine am_goto 22 d55_18 (by decide) ?_
      refine am_put d55_22 fl55_45 sh_27 rfl rfl rfl rfl ?_
      refine am_aload_n d55_25 rfl ?_
      refine am_geti d55_26 fl55_45 sh_27 rfl ?_
      show am_W 55 29 _ (.int 1 :: _) _ _
      refine am_ifle 36 d55_29 (by decide) (fun h => absurd h (by decide)) (fun _ => ?_)
      refine am_iconst 0 d55_32 (by decide) ?_
      refine am_goto 42 d55_33 (by decide) ?_
      refine am_iret d55_42 rfl rfl ?_
      first | exact h0 b d hb rfl hd rfl _ (cd_0 M 0) | exact h1 (fun z => g2 z.2) _ (cd_0 M _) | exact h1 (fun z => g1 z.1) _ (cd_0 M _)
    · show am_W 55 14 _ (.int 0 :: _) _ _
      obtain ⟨d, hd, rfl⟩ := g2
      refine am_ifeq 21 d55_14 (by decide) (fun _ => ?_) (fun h => absurd h (by decide))
      refine am_iconst 0 d55_21 (by decide) ?_
      refine am_put d55_22 fl55_45 sh_27 rfl rfl rfl rfl ?_
      refine am_aload_n d55_25 rfl ?_
      refine am_geti d55_26 fl55_45 sh_27 rfl ?_
      show am_W 55 29 _ (.int 0 :: _) _ _
      refine am_ifle 36 d55_29 (by decide) (fun _ => ?_) (fun h => absurd h (by decide))
      refine am_aload_n d55_36 rfl ?_
      refine am_iload_n d55_37 rfl ?_
      refine am_iload_n d55_38 rfl ?_
      refine am_cv2 54 d55_39 ml55_106 rfl (by decide) sh_27 rfl rfl rfl (Nat.le_of_ble_eq_true rfl) ?_
      refine m_meet (moS_cd hS0 (cd_0 M 0)) hb hd ?_
      show am_W 55 42 _ (.int _ :: _) _ _
      refine am_iret d55_42 rfl rfl ?_
      first | exact h0 b d hb rfl hd rfl _ (cd_0 M 0) | exact h1 (fun z => g2 z.2) _ (cd_0 M _) | exact h1 (fun z => g1 z.1) _ (cd_0 M _)
theorem m_changed {pn : Nat → Nat} {nb nw ck : Nat} {M : am_M} {Q : am_T} (hS : moS M pn nb nw ck) {b c : Nat} {x : Int32} (hb : b < nb) (h1 : ¬ sr (M.1 34) (M.1 35) (mo_row M pn nw b (nI ck) c) (mo_row M pn nw b x c) = true → Q (.inl (some (.int 1))) M) (h0 : sr (M.1 34) (M.1 35) (mo_row M pn nw b (nI ck) c) (mo_row M pn nw b x c) = true → Q (.inl (some (.int 0))) M) : am_W kM_changed 0 (am_in kM_changed [.ref 27, .int (nI b), .int (nI c), .int x]) [] M Q := by
  have hS0 := hS
  obtain ⟨s1, s2, s3, s4, s5, s6, s7, s8, s9⟩ := hS
  have s26 := s2.1
  have s41 := s4.1
  show am_W kM_changed 0 _ [] M Q
  refine am_aload_n d56_0 rfl ?_
  refine am_aload_n d56_1 rfl ?_
  refine am_iload_n d56_2 rfl ?_
  refine am_aload_n d56_3 rfl ?_
  refine am_geti d56_4 fl56_55 sh_27 rfl ?_
  rw [s5]
  refine am_iload_n d56_7 rfl ?_
  refine am_cv3 39 d56_8 ml56_75 rfl (by decide) sh_27 rfl rfl rfl rfl (Nat.le_of_ble_eq_true rfl) ?_
  refine m_latest hS0 hb ?_
  show am_W 56 11 _ (.int _ :: _) _ _
  refine am_aload_n d56_11 rfl ?_
  refine am_iload_n d56_12 rfl ?_
  refine am_iload_n d56_13 rfl ?_
  refine am_iload_n d56_14 rfl ?_
  refine am_cv3 39 d56_15 ml56_75 rfl (by decide) sh_27 rfl rfl rfl rfl (Nat.le_of_ble_eq_true rfl) ?_
  refine m_latest hS0 hb ?_
  show am_W 56 18 _ (.int _ :: _) _ _
  refine am_cv2 42 d56_18 ml56_96 rfl (by decide) sh_27 rfl rfl rfl (Nat.le_of_ble_eq_true rfl) ?_
  refine m_alike (r := (mo_row M pn nw b (nI ck) c)) (s := (mo_row M pn nw b x c)) (fun i hi => by have := mo_row_lt hi; omega) (fun i hi => by have := mo_row_lt hi; omega) (fun gs => ?_) (fun gs => ?_)
  · show am_W 56 21 _ (.int 1 :: _) _ _
    refine am_ifne 28 d56_21 (by decide) (fun _ => ?_) (fun h => absurd h (by decide))
    refine am_iconst 0 d56_28 (by decide) ?_
    refine am_iret d56_29 rfl (by decide) ?_
    first | exact h1 gs | exact h0 gs
  · show am_W 56 21 _ (.int 0 :: _) _ _
    refine am_ifne 28 d56_21 (by decide) (fun h => absurd h (by decide)) (fun _ => ?_)
    refine am_iconst 1 d56_24 (by decide) ?_
    refine am_goto 29 d56_25 (by decide) ?_
    refine am_iret d56_29 rfl (by decide) ?_
    first | exact h1 gs | exact h0 gs
