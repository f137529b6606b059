/-! ===== County: term, weight, month, how many, the persons ===== -/
abbrev CY : Type := Nat × Nat × Nat × Nat × (Nat → PT)
def CR (s : ST) (C : Nat) (c : CY) : Prop := s.1 C 0 = nI c.1 ∧ s.1 C 1 = nI c.2.1 ∧ s.1 C 2 = nI c.2.2.1 ∧ s.1 C 3 = nI c.2.2.2.1 ∧ c.2.2.2.1 ≤ 6 ∧ ∀ i, i < c.2.2.2.1 → PR s (C + 2 + 3 * i) (c.2.2.2.2 i)
def cyOk (c : CY) : Prop := c.1 < 2 ^ 20 ∧ c.2.1 < 2 ^ 20 ∧ c.2.2.1 < 2 ^ 20 ∧ ∀ i, i < c.2.2.2.1 → pOk (c.2.2.2.2 i)
/-- the places of a county, without the persons' numbers -/
def FrC (s s' : ST) (C : Nat) : Prop := s'.2 = s.2 ∧ (∀ a k, a < C ∨ C + 20 ≤ a → s'.1 a k = s.1 a k) ∧ ∀ i, i < 6 → s'.1 (C + 2 + 3 * i) 0 = s.1 (C + 2 + 3 * i) 0
theorem FrC.rf (s : ST) (C : Nat) : FrC s s C := ⟨rfl, fun _ _ _ => rfl, fun _ _ => rfl⟩
theorem FrC.tr {s s1 s2 : ST} {C : Nat} (h : FrC s s1 C) (h2 : FrC s1 s2 C) : FrC s s2 C := ⟨h2.1.trans h.1, fun a k g => (h2.2.1 a k g).trans (h.2.1 a k g), fun i g => (h2.2.2 i g).trans (h.2.2 i g)⟩
theorem FrC.u {s : ST} {C k : Nat} {x : Int32} : FrC s (u2 s C k x) C := ⟨rfl, fun a k' g => u2_oth s x (by omega), fun i g => u2_oth s x (by omega)⟩
theorem FrP.c {s s1 : ST} {C i : Nat} (hi : i < 6) (h : FrP s s1 (C + 2 + 3 * i)) : FrC s s1 C := ⟨h.1, fun a k g => h.2 a k (by omega) (by omega) (by omega), fun j g => h.2 (C + 2 + 3 * j) 0 (by omega) (by omega) (by omega)⟩
theorem PR_fr {s s1 : ST} {P Q : Nat} {p : PT} (h : PR s Q p) (hF : FrP s s1 P) (hne : Q + 2 < P ∨ P + 2 < Q) : PR s1 Q p := by
  have g : ∀ a, a = Q ∨ a = Q + 1 ∨ a = Q + 2 → ∀ j, s1.1 a j = s.1 a j := fun a ha j => hF.2 a j (by omega) (by omega) (by omega)
  obtain ⟨h1, h2, h3, h4, h5, h6, h7, h8, h9⟩ := h
  refine ⟨by rw [g Q (by omega)]; exact h1, by rw [g Q (by omega)]; exact h2, by rw [g Q (by omega)]; exact h3, by rw [g Q (by omega)]; exact h4, by rw [g Q (by omega)]; exact h5, by rw [g Q (by omega)]; exact h6, by rw [g Q (by omega)]; exact h7, h8, fun i hi => ?_⟩
  rw [g (Q + 1) (by omega), g (Q + 2) (by omega)]
  exact h9 i hi
theorem CR_p {s s1 : ST} {C i : Nat} {t w m n : Nat} {f : Nat → PT} {p : PT} (h : CR s C (t, w, m, n, f)) (hF : FrP s s1 (C + 2 + 3 * i)) (hp : PR s1 (C + 2 + 3 * i) p) : CR s1 C (t, w, m, n, fun j => if j = i then p else f j) := by
  obtain ⟨h1, h2, h3, h4, h5, h6⟩ := h
  have g : ∀ j, s1.1 C j = s.1 C j := fun j => hF.2 C j (by omega) (by omega) (by omega)
  refine ⟨by rw [g]; exact h1, by rw [g]; exact h2, by rw [g]; exact h3, by rw [g]; exact h4, h5, fun j hj => ?_⟩
  show PR s1 (C + 2 + 3 * j) (if j = i then p else f j)
  by_cases e : j = i
  · subst e
    rw [if_pos rfl]
    exact hp
  · rw [if_neg e]
    exact PR_fr (h6 j hj) hF (by omega)
theorem CR_f {s : ST} {C : Nat} {t w m n : Nat} {f g : Nat → PT} (h : CR s C (t, w, m, n, f)) (e : ∀ i, i < n → f i = g i) : CR s C (t, w, m, n, g) := by
  obtain ⟨h1, h2, h3, h4, h5, h6⟩ := h
  exact ⟨h1, h2, h3, h4, h5, fun i hi => by
    have := h6 i hi
    have e1 : f i = g i := e i hi
    simp only at this
    rw [e1] at this
    exact this⟩
theorem PR_u {s : ST} {Q a k : Nat} {x : Int32} {p : PT} (h : PR s Q p) (hne : a < Q ∨ Q + 2 < a) : PR (u2 s a k x) Q p := by
  obtain ⟨h1, h2, h3, h4, h5, h6, h7, h8, h9⟩ := h
  refine ⟨by rw [u2_adr _ _ (by omega)]; exact h1, by rw [u2_adr _ _ (by omega)]; exact h2, by rw [u2_adr _ _ (by omega)]; exact h3, by rw [u2_adr _ _ (by omega)]; exact h4, by rw [u2_adr _ _ (by omega)]; exact h5, by rw [u2_adr _ _ (by omega)]; exact h6, by rw [u2_adr _ _ (by omega)]; exact h7, h8, fun i hi => ?_⟩
  rw [u2_adr _ _ (by omega), u2_adr _ _ (by omega)]
  exact h9 i hi
section CM
variable {scr : Nat × (Nat → Int32)} {s : ST} {C : Nat}
theorem cty_g (hC : cty C) (k : Nat) (hk : k < 4) (s : ST) : getF (mkH scr s) 2 k C = some (.int (s.1 C k)) := gI hC.1 (by
  match k, hk with
  | 0, _ => rfl
  | 1, _ => rfl
  | 2, _ => rfl
  | 3, _ => rfl)
theorem cty_p (hC : cty C) (k : Nat) (hk : k < 4) (s : ST) (x : Int32) : putF (mkH scr s) 2 k C (.int x) = some (mkH scr (u2 s C k x)) := pI hC.1 (by
  match k, hk with
  | 0, _ => rfl
  | 1, _ => rfl
  | 2, _ => rfl
  | 3, _ => rfl) (ft_cty k hk x)
theorem cty_a (hC : cty C) (s : ST) : getF (mkH scr s) 2 4 C = some (.ref (C + 1)) := gR hC.1 rfl
theorem cty_cl (hC : cty C) (s : ST) : clsB (mkH scr s) C 2 = true := cB hC.1
theorem cty_l (hC : cty C) {i : Nat} (hi : i < 6) (s : ST) : aaldF (mkH scr s) (C + 1) (nI i) = some (C + 2 + 3 * i) := aL hC.2.1 (Or.inr (Or.inl rfl)) (in6 hi) (by
  rw [cl6 hi]
  match i, hi with
  | 0, _ => rfl
  | 1, _ => rfl
  | 2, _ => rfl
  | 3, _ => rfl
  | 4, _ => rfl
  | 5, _ => rfl)
def sumN (f : Nat → Nat) : Nat → Nat
  | 0 => 0
  | n + 1 => sumN f n + f n
/-- County.unspentOfAll -/
theorem c_cUnsp (d : Nat) (hC : cty C) {c : CY} (hc : CR s C c) : EvM (d + 2) 20 [.ref C] (mkH scr s) = some (nI (sumN (fun i => sumD (c.2.2.2.2 i).2.2.2.2.2.2) c.2.2.2.1), mkH scr s) := by
  obtain ⟨t, w, m, n, f⟩ := c
  obtain ⟨h0, h1, h2, h3, h6, hp⟩ := hc
  simp only at h0 h1 h2 h3 h6 hp ⊢
  have lp : ∀ q j : Nat, j + q = n → EvI (EvM (d + 1)) C20 1 4 [.ref C, .int (nI (sumN (fun i => sumD (f i).2.2.2.2.2.2) j)), .int (nI j)] [] (mkH scr s) = some (nI (sumN (fun i => sumD (f i).2.2.2.2.2.2) n), mkH scr s) := by
    intro q
    induction q with
    | zero =>
      intro j hj
      have e : j = n := by omega
      subst e
      rw [e20_4]
      simp only [e20_0, e20_1, e20_2, e20_3, e20_5, e20_6, e20_9, e20_12, e20_13, e20_14, e20_17, e20_18, e20_19, e20_22, e20_23, e20_24, e20_27, e20_30, e20_31, lGet, lSet, asI, asR, asL, popI, popI2, popL, popL2, popR, popV, okS, isLg, Bool.not_false, Bool.not_true, Bool.false_eq_true, if_true, if_false, Option.bind_some, Option.bind_none, catS, okR1, okR20, okR21, okR2b, List.length_cons, List.length_nil, List.drop_succ_cons, List.drop_zero, List.drop_nil, List.take_succ_cons, List.take_zero, List.reverse_cons, List.reverse_nil, List.nil_append, List.cons_append, and_self, true_and, and_true, Nat.reduceAdd, Nat.reduceLeDiff, Nat.zero_add, Nat.le_refl, Nat.zero_le, ite_self, pushR, reduceCtorEq, or_self, or_false, false_or, cty_g hC 3 (by decide), h3, Int32.le_refl]
    | succ q ih =>
      intro j hj
      have hlt : ¬ nI n ≤ nI j := nI_ge (by omega) (by omega)
      have hu := c_unspent d (scr := scr) (hC.2.2 j (by omega)) (hp j (by omega)).2.2.2.2.2.2
      rw [e20_4]
      simp only [e20_0, e20_1, e20_2, e20_3, e20_5, e20_6, e20_9, e20_12, e20_13, e20_14, e20_17, e20_18, e20_19, e20_22, e20_23, e20_24, e20_27, e20_30, e20_31, lGet, lSet, asI, asR, asL, popI, popI2, popL, popL2, popR, popV, okS, isLg, Bool.not_false, Bool.not_true, Bool.false_eq_true, if_true, if_false, Option.bind_some, Option.bind_none, catS, okR1, okR20, okR21, okR2b, List.length_cons, List.length_nil, List.drop_succ_cons, List.drop_zero, List.drop_nil, List.take_succ_cons, List.take_zero, List.reverse_cons, List.reverse_nil, List.nil_append, List.cons_append, and_self, true_and, and_true, Nat.reduceAdd, Nat.reduceLeDiff, Nat.zero_add, Nat.le_refl, Nat.zero_le, ite_self, pushR, reduceCtorEq, or_self, or_false, false_or, cty_g hC 3 (by decide), cty_a hC, cty_l hC (show j < 6 by omega), per_cl (hC.2.2 j (by omega)), h3, hlt, hu, nI_add, nI_1]
      exact ih (j + 1) (by omega)
  rw [ev20, e20_0]
  simp only [e20_1, e20_2, e20_3, lGet, lSet, asI, asR, asL, popI, popI2, popL, popL2, popR, popV, okS, isLg, Bool.not_false, Bool.not_true, Bool.false_eq_true, if_true, if_false, Option.bind_some, Option.bind_none, catS, okR1, okR20, okR21, okR2b, List.length_cons, List.length_nil, List.drop_succ_cons, List.drop_zero, List.drop_nil, List.take_succ_cons, List.take_zero, List.reverse_cons, List.reverse_nil, List.nil_append, List.cons_append, and_self, true_and, and_true, Nat.reduceAdd, Nat.reduceLeDiff, Nat.zero_add, Nat.le_refl, Nat.zero_le, ite_self, pushR, reduceCtorEq, or_self, or_false, false_or]
  exact lp n 0 (by omega)
/-- County.owedByAll -/
theorem c_cOwe (d : Nat) (hC : cty C) {c : CY} (hc : CR s C c) : EvM (d + 1) 21 [.ref C] (mkH scr s) = some (nI (sumN (fun i => (c.2.2.2.2 i).2.2.2.2.1) c.2.2.2.1), mkH scr s) := by
  obtain ⟨t, w, m, n, f⟩ := c
  obtain ⟨h0, h1, h2, h3, h6, hp⟩ := hc
  simp only at h0 h1 h2 h3 h6 hp ⊢
  have lp : ∀ q j : Nat, j + q = n → EvI (EvM d) C21 1 4 [.ref C, .int (nI (sumN (fun i => (f i).2.2.2.2.1) j)), .int (nI j)] [] (mkH scr s) = some (nI (sumN (fun i => (f i).2.2.2.2.1) n), mkH scr s) := by
    intro q
    induction q with
    | zero =>
      intro j hj
      have e : j = n := by omega
      subst e
      rw [e21_4]
      simp only [e21_0, e21_1, e21_2, e21_3, e21_5, e21_6, e21_9, e21_12, e21_13, e21_14, e21_17, e21_18, e21_19, e21_22, e21_23, e21_24, e21_27, e21_30, e21_31, lGet, lSet, asI, asR, asL, popI, popI2, popL, popL2, popR, popV, okS, isLg, Bool.not_false, Bool.not_true, Bool.false_eq_true, if_true, if_false, Option.bind_some, Option.bind_none, catS, okR1, okR20, okR21, okR2b, List.length_cons, List.length_nil, List.drop_succ_cons, List.drop_zero, List.drop_nil, List.take_succ_cons, List.take_zero, List.reverse_cons, List.reverse_nil, List.nil_append, List.cons_append, and_self, true_and, and_true, Nat.reduceAdd, Nat.reduceLeDiff, Nat.zero_add, Nat.le_refl, Nat.zero_le, ite_self, pushR, reduceCtorEq, or_self, or_false, false_or, cty_g hC 3 (by decide), h3, Int32.le_refl]
    | succ q ih =>
      intro j hj
      have hlt : ¬ nI n ≤ nI j := nI_ge (by omega) (by omega)
      rw [e21_4]
      simp only [e21_0, e21_1, e21_2, e21_3, e21_5, e21_6, e21_9, e21_12, e21_13, e21_14, e21_17, e21_18, e21_19, e21_22, e21_23, e21_24, e21_27, e21_30, e21_31, lGet, lSet, asI, asR, asL, popI, popI2, popL, popL2, popR, popV, okS, isLg, Bool.not_false, Bool.not_true, Bool.false_eq_true, if_true, if_false, Option.bind_some, Option.bind_none, catS, okR1, okR20, okR21, okR2b, List.length_cons, List.length_nil, List.drop_succ_cons, List.drop_zero, List.drop_nil, List.take_succ_cons, List.take_zero, List.reverse_cons, List.reverse_nil, List.nil_append, List.cons_append, and_self, true_and, and_true, Nat.reduceAdd, Nat.reduceLeDiff, Nat.zero_add, Nat.le_refl, Nat.zero_le, ite_self, pushR, reduceCtorEq, or_self, or_false, false_or, cty_g hC 3 (by decide), cty_a hC, cty_l hC (show j < 6 by omega), per_g (hC.2.2 j (by omega)) 5 (by decide), h3, hlt, (hp j (by omega)).2.2.2.2.1, nI_add, nI_1]
      exact ih (j + 1) (by omega)
  rw [ev21, e21_0]
  simp only [e21_1, e21_2, e21_3, lGet, lSet, asI, asR, asL, popI, popI2, popL, popL2, popR, popV, okS, isLg, Bool.not_false, Bool.not_true, Bool.false_eq_true, if_true, if_false, Option.bind_some, Option.bind_none, catS, okR1, okR20, okR21, okR2b, List.length_cons, List.length_nil, List.drop_succ_cons, List.drop_zero, List.drop_nil, List.take_succ_cons, List.take_zero, List.reverse_cons, List.reverse_nil, List.nil_append, List.cons_append, and_self, true_and, and_true, Nat.reduceAdd, Nat.reduceLeDiff, Nat.zero_add, Nat.le_refl, Nat.zero_le, ite_self, pushR, reduceCtorEq, or_self, or_false, false_or]
  exact lp n 0 (by omega)
def pLose (p : PT) : PT := match p with
  | (k, le, wo, ca, ow, dn, _) => (k, le, wo, ca, ow, dn, [])
/-- County.loseLots -/
theorem c_lose (d : Nat) (hC : cty C) {t w m n : Nat} {f : Nat → PT} (hc : CR s C (t, w, m, n, f)) : ∃ s', EvM (d + 1) 22 [.ref C] (mkH scr s) = some (0, mkH scr s') ∧ CR s' C (t, w, m, n, fun i => pLose (f i)) ∧ FrC s s' C := by
  have lp : ∀ q j : Nat, j + q = n → ∀ s1 : ST, FrC s s1 C → CR s1 C (t, w, m, n, fun i => if i < j then pLose (f i) else f i) → ∃ s', EvI (EvM d) C22 0 2 [.ref C, .int (nI j)] [] (mkH scr s1) = some (0, mkH scr s') ∧ CR s' C (t, w, m, n, fun i => pLose (f i)) ∧ FrC s s' C := by
    intro q
    induction q with
    | zero =>
      intro j hj s1 hF hc1
      have e : j = n := by omega
      subst e
      refine ⟨s1, ?_, CR_f hc1 (fun i hi => if_pos hi), hF⟩
      rw [e22_2]
      simp only [e22_0, e22_1, e22_3, e22_4, e22_7, e22_10, e22_11, e22_14, e22_15, e22_16, e22_17, e22_20, e22_23, e22_26, lGet, lSet, asI, asR, asL, popI, popI2, popL, popL2, popR, popV, okS, isLg, Bool.not_false, Bool.not_true, Bool.false_eq_true, if_true, if_false, Option.bind_some, Option.bind_none, catS, okR1, okR20, okR21, okR2b, List.length_cons, List.length_nil, List.drop_succ_cons, List.drop_zero, List.drop_nil, List.take_succ_cons, List.take_zero, List.reverse_cons, List.reverse_nil, List.nil_append, List.cons_append, and_self, true_and, and_true, Nat.reduceAdd, Nat.reduceLeDiff, Nat.zero_add, Nat.le_refl, Nat.zero_le, ite_self, pushR, reduceCtorEq, or_self, or_false, false_or, cty_g hC 3 (by decide), hc1.2.2.2.1, Int32.le_refl]
    | succ q ih =>
      intro j hj s1 hF hc1
      have h6 : n ≤ 6 := hc.2.2.2.2.1
      have hlt : ¬ nI n ≤ nI j := nI_ge (by omega) (by omega)
      have hj6 : j < 6 := by omega
      have hpj := hc1.2.2.2.2.2 j (by show j < n; omega)
      simp only [Nat.lt_irrefl, if_false] at hpj
      have hP := hC.2.2 j hj6
      have hp2 : PR (u2 s1 (C + 2 + 3 * j) 7 0) (C + 2 + 3 * j) (pLose (f j)) := by
        obtain ⟨h1, h2, h3, h4, h5, h6', -⟩ := hpj
        unfold pLose
        exact ⟨by rw [u2_oth _ _ (by omega)]; exact h1, by rw [u2_oth _ _ (by omega)]; exact h2, by rw [u2_oth _ _ (by omega)]; exact h3, by rw [u2_oth _ _ (by omega)]; exact h4, by rw [u2_oth _ _ (by omega)]; exact h5, by rw [u2_oth _ _ (by omega)]; exact h6', by rw [u2_same]; rfl, by simp, fun i hi => absurd hi (by simp)⟩
      have hFp : FrP s1 (u2 s1 (C + 2 + 3 * j) 7 0) (C + 2 + 3 * j) := FrP.n (by decide)
      obtain ⟨s', e1, e2, e3⟩ := ih (j + 1) (by omega) _ (hF.tr (FrP.c hj6 hFp)) (CR_f (CR_p hc1 hFp hp2) (fun i hi => by
        by_cases e : i = j
        · subst e
          simp
        · by_cases e2 : i < j
          · simp [e, e2, Nat.lt_succ_of_lt e2]
          · simp [e, e2, show ¬ i < j + 1 by omega]))
      refine ⟨s', ?_, e2, e3⟩
      rw [e22_2]
      simp only [e22_0, e22_1, e22_3, e22_4, e22_7, e22_10, e22_11, e22_14, e22_15, e22_16, e22_17, e22_20, e22_23, e22_26, lGet, lSet, asI, asR, asL, popI, popI2, popL, popL2, popR, popV, okS, isLg, Bool.not_false, Bool.not_true, Bool.false_eq_true, if_true, if_false, Option.bind_some, Option.bind_none, catS, okR1, okR20, okR21, okR2b, List.length_cons, List.length_nil, List.drop_succ_cons, List.drop_zero, List.drop_nil, List.take_succ_cons, List.take_zero, List.reverse_cons, List.reverse_nil, List.nil_append, List.cons_append, and_self, true_and, and_true, Nat.reduceAdd, Nat.reduceLeDiff, Nat.zero_add, Nat.le_refl, Nat.zero_le, ite_self, pushR, reduceCtorEq, or_self, or_false, false_or, cty_g hC 3 (by decide), hc1.2.2.2.1, hlt, cty_a hC, cty_l hC hj6, per_p hP 7 (by decide), nI_1]
      exact e1
  obtain ⟨s', e1, e2, e3⟩ := lp n 0 (by omega) s (FrC.rf s C) (CR_f hc (fun i hi => by simp))
  refine ⟨s', ?_, e2, e3⟩
  rw [ev22, e22_0]
  simp only [e22_1, lGet, lSet, asI, asR, asL, popI, popI2, popL, popL2, popR, popV, okS, isLg, Bool.not_false, Bool.not_true, Bool.false_eq_true, if_true, if_false, Option.bind_some, Option.bind_none, catS, okR1, okR20, okR21, okR2b, List.length_cons, List.length_nil, List.drop_succ_cons, List.drop_zero, List.drop_nil, List.take_succ_cons, List.take_zero, List.reverse_cons, List.reverse_nil, List.nil_append, List.cons_append, and_self, true_and, and_true, Nat.reduceAdd, Nat.reduceLeDiff, Nat.zero_add, Nat.le_refl, Nat.zero_le, ite_self, pushR, reduceCtorEq, or_self, or_false, false_or]
  exact e1
def cEnd (c : CY) : CY := match c with
  | (t, w, m, n, f) => (t, w, m + 1, n, fun i => pEnd (nI m) (nI t) (f i))
/-- County.endMonth -/
theorem c_cEnd (d : Nat) (hC : cty C) {t w m n : Nat} {f : Nat → PT} (hc : CR s C (t, w, m, n, f)) (hok : cyOk (t, w, m, n, f)) : ∃ s', EvM (d + 4) 25 [.ref C] (mkH scr s) = some (0, mkH scr s') ∧ CR s' C (cEnd (t, w, m, n, f)) ∧ FrC s s' C := by
  have lp : ∀ q j : Nat, j + q = n → ∀ s1 : ST, FrC s s1 C → CR s1 C (t, w, m, n, fun i => if i < j then pEnd (nI m) (nI t) (f i) else f i) → ∃ s', EvI (EvM (d + 3)) C25 0 2 [.ref C, .int (nI j)] [] (mkH scr s1) = some (0, mkH scr s') ∧ CR s' C (cEnd (t, w, m, n, f)) ∧ FrC s s' C := by
    intro q
    induction q with
    | zero =>
      intro j hj s1 hF hc1
      have e : j = n := by omega
      subst e
      have hc2 := CR_f (g := fun i => pEnd (nI m) (nI t) (f i)) hc1 (fun i hi => if_pos hi)
      refine ⟨u2 s1 C 2 (nI (m + 1)), ?_, ?_, hF.tr FrC.u⟩
      · rw [e25_2]
        simp only [e25_0, e25_1, e25_3, e25_4, e25_7, e25_10, e25_11, e25_14, e25_15, e25_16, e25_17, e25_20, e25_21, e25_24, e25_27, e25_30, e25_33, e25_34, e25_35, e25_38, e25_39, e25_40, e25_43, lGet, lSet, asI, asR, asL, popI, popI2, popL, popL2, popR, popV, okS, isLg, Bool.not_false, Bool.not_true, Bool.false_eq_true, if_true, if_false, Option.bind_some, Option.bind_none, catS, okR1, okR20, okR21, okR2b, List.length_cons, List.length_nil, List.drop_succ_cons, List.drop_zero, List.drop_nil, List.take_succ_cons, List.take_zero, List.reverse_cons, List.reverse_nil, List.nil_append, List.cons_append, and_self, true_and, and_true, Nat.reduceAdd, Nat.reduceLeDiff, Nat.zero_add, Nat.le_refl, Nat.zero_le, ite_self, pushR, reduceCtorEq, or_self, or_false, false_or, cty_g hC 3 (by decide), cty_g hC 2 (by decide), cty_p hC 2 (by decide), hc1.2.2.2.1, hc1.2.2.1, Int32.le_refl, nI_1]
      · obtain ⟨h1, h2, h3, h4, h5, h6⟩ := hc2
        exact ⟨by rw [u2_oth _ _ (by omega)]; exact h1, by rw [u2_oth _ _ (by omega)]; exact h2, by rw [u2_same]; rfl, by rw [u2_oth _ _ (by omega)]; exact h4, h5, fun i hi => PR_u (h6 i hi) (by omega)⟩
    | succ q ih =>
      intro j hj s1 hF hc1
      have h6 : n ≤ 6 := hc.2.2.2.2.1
      have hlt : ¬ nI n ≤ nI j := nI_ge (by omega) (by omega)
      have hj6 : j < 6 := by omega
      have hpj := hc1.2.2.2.2.2 j (by show j < n; omega)
      simp only [Nat.lt_irrefl, if_false] at hpj
      have hP := hC.2.2 j hj6
      obtain ⟨s2, a1, a2, a3⟩ := c_endMonth d (scr := scr) (mo := nI m) (tm := nI t) hP hpj (hok.2.2.2 j (by show j < n; omega))
      obtain ⟨s', e1, e2, e3⟩ := ih (j + 1) (by omega) _ (hF.tr (FrP.c hj6 a3)) (CR_f (CR_p hc1 a3 a2) (fun i hi => by
        by_cases e : i = j
        · subst e
          simp
        · by_cases e2 : i < j
          · simp [e, e2, Nat.lt_succ_of_lt e2]
          · simp [e, e2, show ¬ i < j + 1 by omega]))
      refine ⟨s', ?_, e2, e3⟩
      rw [e25_2]
      simp only [e25_0, e25_1, e25_3, e25_4, e25_7, e25_10, e25_11, e25_14, e25_15, e25_16, e25_17, e25_20, e25_21, e25_24, e25_27, e25_30, e25_33, e25_34, e25_35, e25_38, e25_39, e25_40, e25_43, lGet, lSet, asI, asR, asL, popI, popI2, popL, popL2, popR, popV, okS, isLg, Bool.not_false, Bool.not_true, Bool.false_eq_true, if_true, if_false, Option.bind_some, Option.bind_none, catS, okR1, okR20, okR21, okR2b, List.length_cons, List.length_nil, List.drop_succ_cons, List.drop_zero, List.drop_nil, List.take_succ_cons, List.take_zero, List.reverse_cons, List.reverse_nil, List.nil_append, List.cons_append, and_self, true_and, and_true, Nat.reduceAdd, Nat.reduceLeDiff, Nat.zero_add, Nat.le_refl, Nat.zero_le, ite_self, pushR, reduceCtorEq, or_self, or_false, false_or, cty_g hC 3 (by decide), cty_g hC 2 (by decide), cty_g hC 0 (by decide), hc1.1, hc1.2.2.1, hc1.2.2.2.1, hlt, cty_a hC, cty_l hC hj6, per_cl hP, a1, nI_1]
      exact e1
  obtain ⟨s', e1, e2, e3⟩ := lp n 0 (by omega) s (FrC.rf s C) (CR_f hc (fun i hi => by simp))
  refine ⟨s', ?_, e2, e3⟩
  rw [ev25, e25_0]
  simp only [e25_1, lGet, lSet, asI, asR, asL, popI, popI2, popL, popL2, popR, popV, okS, isLg, Bool.not_false, Bool.not_true, Bool.false_eq_true, if_true, if_false, Option.bind_some, Option.bind_none, catS, okR1, okR20, okR21, okR2b, List.length_cons, List.length_nil, List.drop_succ_cons, List.drop_zero, List.drop_nil, List.take_succ_cons, List.take_zero, List.reverse_cons, List.reverse_nil, List.nil_append, List.cons_append, and_self, true_and, and_true, Nat.reduceAdd, Nat.reduceLeDiff, Nat.zero_add, Nat.le_refl, Nat.zero_le, ite_self, pushR, reduceCtorEq, or_self, or_false, false_or]
  exact e1
end CM
