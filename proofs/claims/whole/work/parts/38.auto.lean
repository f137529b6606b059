/-! ===== tools: numbers compared, loops, frames ===== -/
theorem ltT {a b : Nat} (h : a < b) (hb : b < 2147483648) : (nI a < nI b) = True := eq_true (nI_lt h (by omega))
theorem ltF {a b : Nat} (h : b ≤ a) (hb : a < 2147483648) : (nI a < nI b) = False := eq_false (nI_nlt h (by omega))
theorem leT {a b : Nat} (h : a ≤ b) (hb : b < 2147483648) : (nI a ≤ nI b) = True := eq_true (nI_le h (by omega))
theorem leF {a b : Nat} (h : b < a) (hb : a < 2147483648) : (nI a ≤ nI b) = False := eq_false (nI_ge h (by omega))
theorem eqF {a b : Nat} (h : a ≠ b) (ha : a < 2147483648) (hb : b < 2147483648) : (nI a = nI b) = False := eq_false (fun z => h ((nI_eq (by omega) (by omega)).mp z))
theorem eqT {a b : Nat} (h : a = b) : (nI a = nI b) = True := eq_true (by rw [h])
theorem lt0F {a : Nat} (h : a < 2147483648) : (nI a < 0) = False := eq_false (nI_pos (by omega))
theorem ge0T {a : Nat} (h : a < 2147483648) : (0 ≤ nI a) = True := eq_true (nI_pos' (by omega))
theorem le0T {a : Nat} (h : a = 0) : (nI a ≤ 0) = True := eq_true (by rw [h]; exact Int32.le_refl _)
theorem le0F {a : Nat} (h : 0 < a) (hb : a < 2147483648) : (nI a ≤ 0) = False := eq_false (nI_nle h (by omega))
theorem eq0T {a : Nat} (h : a = 0) : (nI a = 0) = True := eq_true (by rw [h]; rfl)
theorem eq0F {a : Nat} (h : 0 < a) (hb : a < 2147483648) : (nI a = 0) = False := eq_false (nI_ne0 h (by omega))
theorem gt0T {a : Nat} (h : 0 < a) (hb : a < 2147483648) : (0 < nI a) = True := eq_true (nI_lt (a := 0) h (by omega))
theorem gt0F {a : Nat} (h : a = 0) : (0 < nI a) = False := eq_false (by rw [h]; exact fun z => Int32.lt_irrefl z)
theorem subT {a b : Nat} (h : b ≤ a) : nI a - nI b = nI (a - b) := pk_sub h
theorem sub1 {a : Nat} (h : 1 ≤ a) : nI a - 1 = nI (a - 1) := pk_sub (b := 1) h
theorem divT {a d : Nat} (ha : a < 2147483648) (h0 : 0 < d) (hd : d < 2147483648) : nI a / nI d = nI (a / d) := pk_div (by omega) h0 (by omega)
theorem remT {a d : Nat} (ha : a < 2147483648) (h0 : 0 < d) (hd : d < 2147483648) : nI a - nI a / nI d * nI d = nI (a % d) := pk_rem (by omega) h0 (by omega)
theorem remN (a d : Nat) : nI a - nI (a / d * d) = nI (a % d) := by
  have h : a / d * d ≤ a := Nat.div_mul_le_self a d
  rw [pk_sub h]
  have := Nat.div_add_mod a d
  rw [Nat.mul_comm] at this
  exact congrArg nI (by omega)
theorem natRem (a d : Nat) : a - a / d * d = a % d := by
  have := Nat.div_add_mod a d
  rw [Nat.mul_comm] at this
  omega
theorem forRd {R : Type} (n : Nat) (T : Nat → R) (h : ∀ j, j < n → T j = T (j + 1)) : T 0 = T n := by
  have g : ∀ m, m ≤ n → T 0 = T m := by
    intro m
    induction m with
    | zero => intro _; rfl
    | succ m ih => intro hm; rw [ih (by omega), h m (by omega)]
  exact g n (Nat.le_refl n)
theorem forUp {X R : Type} (n : Nat) (T : Nat → X → R) (I : Nat → X → Prop) (P : R → Prop) (st : ∀ j x, j < n → I j x → ∃ x', I (j + 1) x' ∧ T j x = T (j + 1) x') (fin : ∀ x, I n x → P (T n x)) {x : X} (h : I 0 x) : P (T 0 x) := by
  have g : ∀ m j x, j + m = n → I j x → P (T j x) := by
    intro m
    induction m with
    | zero => intro j x hj hI; have e : j = n := by omega
              subst e; exact fin x hI
    | succ m ih =>
      intro j x hj hI
      obtain ⟨x', h1, h2⟩ := st j x (by omega) hI
      rw [h2]
      exact ih (j + 1) x' (by omega) h1
  exact g n 0 x (by omega) h
theorem PR_ext {s s1 : ST} {Q : Nat} {p : PT} (h : PR s Q p) (g : ∀ a k, Q ≤ a → a ≤ Q + 2 → s1.1 a k = s.1 a k) : PR s1 Q p := by
  obtain ⟨h1, h2, h3, h4, h5, h6, h7, h8, h9⟩ := h
  refine ⟨by rw [g Q _ (by omega) (by omega)]; exact h1, by rw [g Q _ (by omega) (by omega)]; exact h2, by rw [g Q _ (by omega) (by omega)]; exact h3, by rw [g Q _ (by omega) (by omega)]; exact h4, by rw [g Q _ (by omega) (by omega)]; exact h5, by rw [g Q _ (by omega) (by omega)]; exact h6, by rw [g Q _ (by omega) (by omega)]; exact h7, h8, fun i hi => ?_⟩
  rw [g (Q + 1) _ (by omega) (by omega), g (Q + 2) _ (by omega) (by omega)]
  exact h9 i hi
theorem CR_ext {s s1 : ST} {D : Nat} {c : CY} (h : CR s D c) (g : ∀ a k, D ≤ a → a < D + 20 → s1.1 a k = s.1 a k) : CR s1 D c := by
  obtain ⟨h0, h1, h2, h3, h6, hp⟩ := h
  exact ⟨by rw [g D _ (by omega) (by omega)]; exact h0, by rw [g D _ (by omega) (by omega)]; exact h1, by rw [g D _ (by omega) (by omega)]; exact h2, by rw [g D _ (by omega) (by omega)]; exact h3, h6, fun i hi => PR_ext (hp i hi) (fun a k ha hb => g a k (by omega) (by omega))⟩
theorem CR_fr {s s1 : ST} {C D : Nat} {c : CY} (h : CR s D c) (hF : FrC s s1 C) (hd : C + 20 ≤ D ∨ D + 20 ≤ C) : CR s1 D c := CR_ext h (fun a k h1 h2 => hF.2.1 a k (by omega))
section CM2
variable {scr : Nat × (Nat → Int32)} {s : ST} {C : Nat}
/-- County.copyFrom -/
theorem c_cCopy (d : Nat) {D : Nat} (hC : cty C) (hD : cty D) (hd : C + 20 ≤ D ∨ D + 20 ≤ C) {c : CY} (hc : CR s D c) : ∃ s', EvM (d + 2) 19 [.ref C, .ref D] (mkH scr s) = some (0, mkH scr s') ∧ CR s' C c ∧ FrC s s' C := by
  obtain ⟨t, w, m, n, f⟩ := c
  have hn : n ≤ 6 := hc.2.2.2.2.1
  have hDC : D ≠ C := by omega
  have h := forUp (X := ST) n (fun j x => EvI (EvM (d + 1)) C19 0 34 [.ref C, .ref D, .int (nI j)] [] (mkH scr x))
    (fun j x => FrC s x C ∧ x.1 C 0 = nI t ∧ x.1 C 1 = nI w ∧ x.1 C 2 = nI m ∧ x.1 C 3 = nI n ∧ ∀ i, i < j → PR x (C + 2 + 3 * i) (f i))
    (fun r => ∃ s', r = some (0, mkH scr s') ∧ CR s' C (t, w, m, n, f) ∧ FrC s s' C) ?_ ?_ (x := u2 (u2 (u2 (u2 s C 0 (nI t)) C 1 (nI w)) C 2 (nI m)) C 3 (nI n)) ?_
  · obtain ⟨s', e1, e2, e3⟩ := h
    refine ⟨s', ?_, e2, e3⟩
    rw [ev19, e19_0]
    obtain ⟨g0, g1, g2, g3, -⟩ := hc
    simp only [e19_0, e19_1, e19_2, e19_5, e19_8, e19_9, e19_10, e19_13, e19_16, e19_17, e19_18, e19_21, e19_24, e19_25, e19_26, e19_29, e19_32, e19_33, e19_35, e19_36, e19_39, e19_42, e19_43, e19_46, e19_47, e19_48, e19_49, e19_52, e19_53, e19_54, e19_57, e19_60, e19_63, lGet, lSet, asI, asR, asL, popI, popI2, popL, popL2, popR, popV, okS, isLg, Bool.not_false, Bool.not_true, Bool.false_eq_true, if_true, if_false, Option.bind_some, Option.bind_none, catS, okR1, okR20, okR21, okR2b, List.length_cons, List.length_nil, List.drop_succ_cons, List.drop_zero, List.drop_nil, List.take_succ_cons, List.take_zero, List.reverse_cons, List.reverse_nil, List.nil_append, List.cons_append, and_self, true_and, and_true, Nat.reduceAdd, Nat.reduceLeDiff, Nat.zero_add, Nat.le_refl, Nat.zero_le, ite_self, pushR, reduceCtorEq, or_self, or_false, false_or, cty_g hD 0 (by decide), cty_g hD 1 (by decide), cty_g hD 2 (by decide), cty_g hD 3 (by decide), cty_p hC 0 (by decide), cty_p hC 1 (by decide), cty_p hC 2 (by decide), cty_p hC 3 (by decide), u2_adr _ _ hDC, g0, g1, g2, g3]
    exact e1
  · intro j x hj ⟨hF, g0, g1, g2, g3, gp⟩
    have hj6 : j < 6 := by omega
    have hcx := CR_fr hc hF hd
    obtain ⟨x1, a1, a2, a3⟩ := c_copy d (scr := scr) (hC.2.2 j hj6) (hD.2.2 j hj6) (by omega) (hcx.2.2.2.2.2 j hj)
    have gC : ∀ k, x1.1 C k = x.1 C k := fun k => a3.2 C k (by omega) (by omega) (by omega)
    refine ⟨x1, ⟨hF.tr (FrP.c hj6 a3), by rw [gC]; exact g0, by rw [gC]; exact g1, by rw [gC]; exact g2, by rw [gC]; exact g3, fun i hi => ?_⟩, ?_⟩
    · by_cases e : i = j
      · subst e; exact a2
      · exact PR_fr (gp i (by omega)) a3 (by omega)
    · rw [e19_34]
      simp (disch := omega) only [e19_0, e19_1, e19_2, e19_5, e19_8, e19_9, e19_10, e19_13, e19_16, e19_17, e19_18, e19_21, e19_24, e19_25, e19_26, e19_29, e19_32, e19_33, e19_35, e19_36, e19_39, e19_42, e19_43, e19_46, e19_47, e19_48, e19_49, e19_52, e19_53, e19_54, e19_57, e19_60, e19_63, lGet, lSet, asI, asR, asL, popI, popI2, popL, popL2, popR, popV, okS, isLg, Bool.not_false, Bool.not_true, Bool.false_eq_true, if_true, if_false, Option.bind_some, Option.bind_none, catS, okR1, okR20, okR21, okR2b, List.length_cons, List.length_nil, List.drop_succ_cons, List.drop_zero, List.drop_nil, List.take_succ_cons, List.take_zero, List.reverse_cons, List.reverse_nil, List.nil_append, List.cons_append, and_self, true_and, and_true, Nat.reduceAdd, Nat.reduceLeDiff, Nat.zero_add, Nat.le_refl, Nat.zero_le, ite_self, pushR, reduceCtorEq, or_self, or_false, false_or, ltT, ltF, leT, leF, eqF, eqT, lt0F, ge0T, le0T, le0F, eq0T, eq0F, gt0T, gt0F, nI_add, nI_1, pk_mul, subT, sub1, divT, remN, natRem, cty_g hC 3 (by decide), g3, cty_a hC, cty_a hD, cty_l hC hj6, cty_l hD hj6, per_cl (hC.2.2 j hj6), a1]
  · intro x ⟨hF, g0, g1, g2, g3, gp⟩
    refine ⟨x, ?_, ⟨g0, g1, g2, g3, hn, gp⟩, hF⟩
    rw [e19_34]
    simp (disch := omega) only [e19_0, e19_1, e19_2, e19_5, e19_8, e19_9, e19_10, e19_13, e19_16, e19_17, e19_18, e19_21, e19_24, e19_25, e19_26, e19_29, e19_32, e19_33, e19_35, e19_36, e19_39, e19_42, e19_43, e19_46, e19_47, e19_48, e19_49, e19_52, e19_53, e19_54, e19_57, e19_60, e19_63, lGet, lSet, asI, asR, asL, popI, popI2, popL, popL2, popR, popV, okS, isLg, Bool.not_false, Bool.not_true, Bool.false_eq_true, if_true, if_false, Option.bind_some, Option.bind_none, catS, okR1, okR20, okR21, okR2b, List.length_cons, List.length_nil, List.drop_succ_cons, List.drop_zero, List.drop_nil, List.take_succ_cons, List.take_zero, List.reverse_cons, List.reverse_nil, List.nil_append, List.cons_append, and_self, true_and, and_true, Nat.reduceAdd, Nat.reduceLeDiff, Nat.zero_add, Nat.le_refl, Nat.zero_le, ite_self, pushR, reduceCtorEq, or_self, or_false, false_or, ltT, ltF, leT, leF, eqF, eqT, lt0F, ge0T, le0T, le0F, eq0T, eq0F, gt0T, gt0F, nI_add, nI_1, pk_mul, subT, sub1, divT, remN, natRem, cty_g hC 3 (by decide), g3]
  · refine ⟨FrC.u.tr (FrC.u.tr (FrC.u.tr FrC.u)), ?_, ?_, ?_, ?_, fun i hi => absurd hi (Nat.not_lt_zero i)⟩ <;> simp [u2]
/-- County.clear: nobody, month 0; the persons up to 6 are as new -/
theorem c_cClear (d : Nat) (hC : cty C) : ∃ s', EvM (d + 2) 18 [.ref C] (mkH scr s) = some (0, mkH scr s') ∧ s'.1 C 2 = 0 ∧ s'.1 C 3 = 0 ∧ (∀ i, i < 6 → PR s' (C + 2 + 3 * i) (0, 0, 0, 0, 0, 0, [])) ∧ FrC s s' C := by
  have h := forUp (X := ST) 6 (fun j x => EvI (EvM (d + 1)) C18 0 12 [.ref C, .int (nI j)] [] (mkH scr x))
    (fun j x => FrC s x C ∧ x.1 C 2 = 0 ∧ x.1 C 3 = 0 ∧ ∀ i, i < j → PR x (C + 2 + 3 * i) (0, 0, 0, 0, 0, 0, []))
    (fun r => ∃ s', r = some (0, mkH scr s') ∧ s'.1 C 2 = 0 ∧ s'.1 C 3 = 0 ∧ (∀ i, i < 6 → PR s' (C + 2 + 3 * i) (0, 0, 0, 0, 0, 0, [])) ∧ FrC s s' C) ?_ ?_ (x := u2 (u2 s C 2 0) C 3 0) ?_
  · obtain ⟨s', e1, e2⟩ := h
    refine ⟨s', ?_, e2⟩
    rw [ev18, e18_0]
    simp only [e18_0, e18_1, e18_2, e18_5, e18_6, e18_7, e18_10, e18_11, e18_13, e18_15, e18_18, e18_19, e18_22, e18_23, e18_24, e18_27, e18_30, e18_33, lGet, lSet, asI, asR, asL, popI, popI2, popL, popL2, popR, popV, okS, isLg, Bool.not_false, Bool.not_true, Bool.false_eq_true, if_true, if_false, Option.bind_some, Option.bind_none, catS, okR1, okR20, okR21, okR2b, List.length_cons, List.length_nil, List.drop_succ_cons, List.drop_zero, List.drop_nil, List.take_succ_cons, List.take_zero, List.reverse_cons, List.reverse_nil, List.nil_append, List.cons_append, and_self, true_and, and_true, Nat.reduceAdd, Nat.reduceLeDiff, Nat.zero_add, Nat.le_refl, Nat.zero_le, ite_self, pushR, reduceCtorEq, or_self, or_false, false_or, cty_p hC 2 (by decide), cty_p hC 3 (by decide)]
    exact e1
  · intro j x hj ⟨hF, g2, g3, gp⟩
    obtain ⟨x1, a1, a2, a3⟩ := c_clear d (scr := scr) (hC.2.2 j hj) x
    have gC : ∀ k, x1.1 C k = x.1 C k := fun k => a3.2 C k (by omega) (by omega) (by omega)
    refine ⟨x1, ⟨hF.tr (FrP.c hj a3), by rw [gC]; exact g2, by rw [gC]; exact g3, fun i hi => ?_⟩, ?_⟩
    · by_cases e : i = j
      · subst e; exact a2
      · exact PR_fr (gp i (by omega)) a3 (by omega)
    · rw [e18_12]
      simp (disch := omega) only [e18_0, e18_1, e18_2, e18_5, e18_6, e18_7, e18_10, e18_11, e18_13, e18_15, e18_18, e18_19, e18_22, e18_23, e18_24, e18_27, e18_30, e18_33, lGet, lSet, asI, asR, asL, popI, popI2, popL, popL2, popR, popV, okS, isLg, Bool.not_false, Bool.not_true, Bool.false_eq_true, if_true, if_false, Option.bind_some, Option.bind_none, catS, okR1, okR20, okR21, okR2b, List.length_cons, List.length_nil, List.drop_succ_cons, List.drop_zero, List.drop_nil, List.take_succ_cons, List.take_zero, List.reverse_cons, List.reverse_nil, List.nil_append, List.cons_append, and_self, true_and, and_true, Nat.reduceAdd, Nat.reduceLeDiff, Nat.zero_add, Nat.le_refl, Nat.zero_le, ite_self, pushR, reduceCtorEq, or_self, or_false, false_or, ltT, ltF, leT, leF, eqF, eqT, lt0F, ge0T, le0T, le0F, eq0T, eq0F, gt0T, gt0F, nI_add, nI_1, pk_mul, subT, sub1, divT, remN, natRem, show (6 : Int32) = nI 6 from rfl, cty_a hC, cty_l hC hj, per_cl (hC.2.2 j hj), a1]
  · intro x ⟨hF, g2, g3, gp⟩
    refine ⟨x, ?_, g2, g3, gp, hF⟩
    rw [e18_12]
    simp (disch := omega) only [e18_0, e18_1, e18_2, e18_5, e18_6, e18_7, e18_10, e18_11, e18_13, e18_15, e18_18, e18_19, e18_22, e18_23, e18_24, e18_27, e18_30, e18_33, lGet, lSet, asI, asR, asL, popI, popI2, popL, popL2, popR, popV, okS, isLg, Bool.not_false, Bool.not_true, Bool.false_eq_true, if_true, if_false, Option.bind_some, Option.bind_none, catS, okR1, okR20, okR21, okR2b, List.length_cons, List.length_nil, List.drop_succ_cons, List.drop_zero, List.drop_nil, List.take_succ_cons, List.take_zero, List.reverse_cons, List.reverse_nil, List.nil_append, List.cons_append, and_self, true_and, and_true, Nat.reduceAdd, Nat.reduceLeDiff, Nat.zero_add, Nat.le_refl, Nat.zero_le, ite_self, pushR, reduceCtorEq, or_self, or_false, false_or, ltT, ltF, leT, leF, eqF, eqT, lt0F, ge0T, le0T, le0F, eq0T, eq0F, gt0T, gt0F, nI_add, nI_1, pk_mul, subT, sub1, divT, remN, natRem, show (6 : Int32) = nI 6 from rfl]
  · refine ⟨FrC.u.tr FrC.u, ?_, ?_, fun i hi => absurd hi (Nat.not_lt_zero i)⟩ <;> simp [u2]
end CM2
