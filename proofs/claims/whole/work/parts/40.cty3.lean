/-! ===== County.passMonths ===== -/
theorem l16 : Int32.toInt64 16807 = lN 16807 := by decide
theorem l21 : Int32.toInt64 2147483647 = lN 2147483647 := by decide
theorem l21z : (lN 2147483647 = 0) = False := by decide
theorem lDrw {x : Nat} (h : x < 2147483647) : lN x * lN 16807 - lN x * lN 16807 / lN 2147483647 * lN 2147483647 = lN (drw x) := by
  rw [lN_mul]
  exact pk_lRem (by omega) (by decide) (by decide)
section CM4
variable {scr : Nat × (Nat → Int32)} {s : ST} {C : Nat}
theorem c_pass (d : Nat) (hC : cty C) {c : CY} {N x : Nat} (hc : CR s C c) (hok : cyOk c) (hw : 0 < c.2.1) (hm : c.2.2.1 + N < 2 ^ 20) (hx : x < 2147483647) : ∃ s', EvM (d + 5) 23 [.ref C, .int (nI N), .int (nI x)] (mkH scr s) = some (nI (mths c x N).2.2, mkH scr s') ∧ CR s' C (mths c x N).1 ∧ FrC s s' C := by
  have h := forUp (X := ST × Value) N (fun k y => EvI (EvM (d + 4)) C23 1 9 [.ref C, .int (nI N), .int (nI x), .long (lN (mths c x k).2.1), jk, .int (nI (mths c x k).2.2), .int (nI k), y.2] [] (mkH scr y.1))
    (fun k y => CR y.1 C (mths c x k).1 ∧ FrC s y.1 C ∧ isLg y.2 = false)
    (fun r => ∃ s', r = some (nI (mths c x N).2.2, mkH scr s') ∧ CR s' C (mths c x N).1 ∧ FrC s s' C) ?_ ?_ (x := (s, jk)) ⟨hc, FrC.rf s C, rfl⟩
  · obtain ⟨s', e1, e2, e3⟩ := h
    refine ⟨s', ?_, e2, e3⟩
    rw [ev23, e23_0]
    have hxl := nI_l (n := x) (by omega)
    simp (disch := omega) only [e23_0, e23_1, e23_2, e23_3, e23_4, e23_6, e23_7, e23_11, e23_12, e23_15, e23_16, e23_20, e23_21, e23_24, e23_27, e23_28, e23_31, e23_32, e23_35, e23_36, e23_37, e23_39, e23_40, e23_41, e23_44, e23_46, e23_47, e23_48, e23_49, e23_52, e23_53, e23_55, e23_58, e23_61, e23_62, e23_65, e23_68, e23_71, e23_73, ↓reduceIte, ↓gi0, ↓gr0, ↓gl0, ↓gi1, ↓gr1, ↓gl1, ↓gi2, ↓gr2, ↓gl2, ↓gi3, ↓gr3, ↓gl3, ↓gi4, ↓gr4, ↓gl4, ↓gi5, ↓gr5, ↓gl5, ↓gi6, ↓gr6, ↓gl6, ↓gi7, ↓gr7, ↓gl7, ↓gi8, ↓gr8, ↓gl8, ↓gi9, ↓gr9, ↓gl9, ↓qI, ↓qI2, ↓qL, ↓qL2, ↓qR, ↓qV, ↓pd0, ↓ta0, ↓ts0, ↓pd1, ↓ta1, ↓ts1, ↓pd2, ↓ta2, ↓ts2, ↓pd3, ↓ta3, ↓ts3, ↓pd4, ↓ta4, ↓ts4, ↓pd5, ↓ta5, ↓ts5, ↓pd6, ↓ta6, ↓ts6, lGet, lSet, okS, isLg, Bool.not_false, Bool.not_true, Bool.false_eq_true, not_false_eq_true, not_true_eq_false, catS, okR1, okR20, okR21, okR2b, List.length_cons, List.length_nil, List.drop_succ_cons, List.drop_zero, List.drop_nil, and_self, true_and, and_true, false_and, and_false, Nat.reduceAdd, Nat.reduceLeDiff, Nat.zero_add, Nat.le_refl, Nat.zero_le, pushR, reduceCtorEq, or_self, or_false, false_or, true_or, or_true, hxl]
    exact e1
  · intro k y hk ⟨hcy, hF, hlg⟩
    have hokk := mths_ok (x := x) hok k (by omega)
    have hxk := mths_x (c := c) hx k
    obtain ⟨hm1, hn1, ht1, hw1⟩ := mths_m c x k
    have hst : mths c x (k + 1) = (cEnd (cDraw (mths c x k).2.1 (mths c x k).1), itD (mths c x k).1.2.2.2.1 (mths c x k).2.1, (mths c x k).2.2 + cCnt (mths c x k).2.1 (mths c x k).1 (mths c x k).1.2.2.2.1) := rfl
    rw [hst]
    generalize hq : mths c x k = q at *
    obtain ⟨⟨t, w, m, n, f⟩, X, A⟩ := q
    simp only at hm1 hn1 ht1 hw1 hcy hokk hxk ⊢
    have hn6 : n ≤ 6 := hcy.2.2.2.2.1
    have h2 := forUp (X := ST) n (fun j z => EvI (EvM (d + 4)) C23 1 18 [.ref C, .int (nI N), .int (nI x), .long (lN (itD j X)), jk, .int (nI (A + cCnt X (t, w, m, n, f) j)), .int (nI k), .int (nI j)] [] (mkH scr z))
      (fun j z => CR z C (t, w, m, n, cDrawN w X f j) ∧ FrC s z C)
      (fun r => ∃ z : ST, r = EvI (EvM (d + 4)) C23 1 9 [.ref C, .int (nI N), .int (nI x), .long (lN (itD n X)), jk, .int (nI (A + cCnt X (t, w, m, n, f) n)), .int (nI (k + 1)), .int (nI n)] [] (mkH scr z) ∧ CR z C (cEnd (cDraw X (t, w, m, n, f))) ∧ FrC s z C) ?_ ?_ (x := y.1) ⟨CR_f hcy (fun i hi => by simp [cDrawN]), hF⟩
    · obtain ⟨z, e1, e2, e3⟩ := h2
      refine ⟨(z, .int (nI n)), ⟨e2, e3, rfl⟩, ?_⟩
      rw [e23_9]
      simp (disch := omega) only [e23_0, e23_1, e23_2, e23_3, e23_4, e23_6, e23_7, e23_11, e23_12, e23_15, e23_16, e23_20, e23_21, e23_24, e23_27, e23_28, e23_31, e23_32, e23_35, e23_36, e23_37, e23_39, e23_40, e23_41, e23_44, e23_46, e23_47, e23_48, e23_49, e23_52, e23_53, e23_55, e23_58, e23_61, e23_62, e23_65, e23_68, e23_71, e23_73, ↓reduceIte, ↓gi0, ↓gr0, ↓gl0, ↓gi1, ↓gr1, ↓gl1, ↓gi2, ↓gr2, ↓gl2, ↓gi3, ↓gr3, ↓gl3, ↓gi4, ↓gr4, ↓gl4, ↓gi5, ↓gr5, ↓gl5, ↓gi6, ↓gr6, ↓gl6, ↓gi7, ↓gr7, ↓gl7, ↓gi8, ↓gr8, ↓gl8, ↓gi9, ↓gr9, ↓gl9, ↓qI, ↓qI2, ↓qL, ↓qL2, ↓qR, ↓qV, ↓pd0, ↓ta0, ↓ts0, ↓pd1, ↓ta1, ↓ts1, ↓pd2, ↓ta2, ↓ts2, ↓pd3, ↓ta3, ↓ts3, ↓pd4, ↓ta4, ↓ts4, ↓pd5, ↓ta5, ↓ts5, ↓pd6, ↓ta6, ↓ts6, lGet, lSet, okS, isLg, Bool.not_false, Bool.not_true, Bool.false_eq_true, not_false_eq_true, not_true_eq_false, catS, okR1, okR20, okR21, okR2b, List.length_cons, List.length_nil, List.drop_succ_cons, List.drop_zero, List.drop_nil, and_self, true_and, and_true, false_and, and_false, Nat.reduceAdd, Nat.reduceLeDiff, Nat.zero_add, Nat.le_refl, Nat.zero_le, pushR, reduceCtorEq, or_self, or_false, false_or, true_or, or_true, ltT, ltF, leT, leF, eqF, eqT, lt0F, ge0T, le0T, le0F, eq0T, eq0F, gt0T, gt0F, nI_add, nI_1, pk_mul, subT, sub1, divT, remN, natRem]
      exact e1
    · intro j z hj ⟨hz, hFz⟩
      have hj6 : j < 6 := by omega
      have hpj := hz.2.2.2.2.2 j hj
      have hdj : cDrawN w X f j j = f j := by simp [cDrawN]
      simp only [hdj] at hpj
      have hX := itD_lt hxk j
      obtain ⟨z1, a1, a2, a3⟩ := c_draw d (scr := scr) (x := drw (itD j X)) hC (hC.2.2 j hj6) hz.2.1 (by rw [hw1]; exact hw) hokk.2.1 hpj (hokk.2.2.2 j hj) (drw_lt _)
      refine ⟨z1, ⟨CR_f (CR_p hz a3 a2) (fun i hi => ?_), hFz.tr (FrP.c hj6 a3)⟩, ?_⟩
      · unfold cDrawN
        by_cases e : i = j
        · subst e
          simp [itD]
        · by_cases e2 : i < j
          · simp [e, e2, Nat.lt_succ_of_lt e2]
          · simp [e, e2, show ¬ i < j + 1 by omega]
      · rw [e23_18]
        have hD := lDrw hX
        have h3 := hz.2.2.2.1
        simp only at h3
        simp (disch := omega) only [e23_0, e23_1, e23_2, e23_3, e23_4, e23_6, e23_7, e23_11, e23_12, e23_15, e23_16, e23_20, e23_21, e23_24, e23_27, e23_28, e23_31, e23_32, e23_35, e23_36, e23_37, e23_39, e23_40, e23_41, e23_44, e23_46, e23_47, e23_48, e23_49, e23_52, e23_53, e23_55, e23_58, e23_61, e23_62, e23_65, e23_68, e23_71, e23_73, ↓reduceIte, ↓gi0, ↓gr0, ↓gl0, ↓gi1, ↓gr1, ↓gl1, ↓gi2, ↓gr2, ↓gl2, ↓gi3, ↓gr3, ↓gl3, ↓gi4, ↓gr4, ↓gl4, ↓gi5, ↓gr5, ↓gl5, ↓gi6, ↓gr6, ↓gl6, ↓gi7, ↓gr7, ↓gl7, ↓gi8, ↓gr8, ↓gl8, ↓gi9, ↓gr9, ↓gl9, ↓qI, ↓qI2, ↓qL, ↓qL2, ↓qR, ↓qV, ↓pd0, ↓ta0, ↓ts0, ↓pd1, ↓ta1, ↓ts1, ↓pd2, ↓ta2, ↓ts2, ↓pd3, ↓ta3, ↓ts3, ↓pd4, ↓ta4, ↓ts4, ↓pd5, ↓ta5, ↓ts5, ↓pd6, ↓ta6, ↓ts6, lGet, lSet, okS, isLg, Bool.not_false, Bool.not_true, Bool.false_eq_true, not_false_eq_true, not_true_eq_false, catS, okR1, okR20, okR21, okR2b, List.length_cons, List.length_nil, List.drop_succ_cons, List.drop_zero, List.drop_nil, and_self, true_and, and_true, false_and, and_false, Nat.reduceAdd, Nat.reduceLeDiff, Nat.zero_add, Nat.le_refl, Nat.zero_le, pushR, reduceCtorEq, or_self, or_false, false_or, true_or, or_true, ltT, ltF, leT, leF, eqF, eqT, lt0F, ge0T, le0T, le0F, eq0T, eq0F, gt0T, gt0F, nI_add, nI_1, pk_mul, subT, sub1, divT, remN, natRem, ↓cty_gb hC 3 (by decide), h3, l16, l21, l21z, hD, lN_i, ↓cty_ab hC, ↓cty_lb hC, cty_cl hC, ↓bnd a1, Nat.add_assoc A]
        rfl
    · intro z ⟨hz, hFz⟩
      have hc2 : CR z C (cDraw X (t, w, m, n, f)) := CR_f hz (fun i hi => by simp [cDrawN, hi])
      obtain ⟨z1, a1, a2, a3⟩ := c_cEnd d (scr := scr) hC hc2 (cDraw_ok hokk)
      refine ⟨z1, ?_, a2, hFz.tr a3⟩
      rw [e23_18]
      have h3 := hz.2.2.2.1
      simp only at h3
      simp (disch := omega) only [e23_0, e23_1, e23_2, e23_3, e23_4, e23_6, e23_7, e23_11, e23_12, e23_15, e23_16, e23_20, e23_21, e23_24, e23_27, e23_28, e23_31, e23_32, e23_35, e23_36, e23_37, e23_39, e23_40, e23_41, e23_44, e23_46, e23_47, e23_48, e23_49, e23_52, e23_53, e23_55, e23_58, e23_61, e23_62, e23_65, e23_68, e23_71, e23_73, ↓reduceIte, ↓gi0, ↓gr0, ↓gl0, ↓gi1, ↓gr1, ↓gl1, ↓gi2, ↓gr2, ↓gl2, ↓gi3, ↓gr3, ↓gl3, ↓gi4, ↓gr4, ↓gl4, ↓gi5, ↓gr5, ↓gl5, ↓gi6, ↓gr6, ↓gl6, ↓gi7, ↓gr7, ↓gl7, ↓gi8, ↓gr8, ↓gl8, ↓gi9, ↓gr9, ↓gl9, ↓qI, ↓qI2, ↓qL, ↓qL2, ↓qR, ↓qV, ↓pd0, ↓ta0, ↓ts0, ↓pd1, ↓ta1, ↓ts1, ↓pd2, ↓ta2, ↓ts2, ↓pd3, ↓ta3, ↓ts3, ↓pd4, ↓ta4, ↓ts4, ↓pd5, ↓ta5, ↓ts5, ↓pd6, ↓ta6, ↓ts6, lGet, lSet, okS, isLg, Bool.not_false, Bool.not_true, Bool.false_eq_true, not_false_eq_true, not_true_eq_false, catS, okR1, okR20, okR21, okR2b, List.length_cons, List.length_nil, List.drop_succ_cons, List.drop_zero, List.drop_nil, and_self, true_and, and_true, false_and, and_false, Nat.reduceAdd, Nat.reduceLeDiff, Nat.zero_add, Nat.le_refl, Nat.zero_le, pushR, reduceCtorEq, or_self, or_false, false_or, true_or, or_true, ltT, ltF, leT, leF, eqF, eqT, lt0F, ge0T, le0T, le0F, eq0T, eq0F, gt0T, gt0F, nI_add, nI_1, pk_mul, subT, sub1, divT, remN, natRem, ↓cty_gb hC 3 (by decide), h3, cty_cl hC, ↓bnd a1]
  · intro y ⟨hcy, hF, hlg⟩
    refine ⟨y.1, ?_, hcy, hF⟩
    rw [e23_9]
    simp (disch := omega) only [e23_0, e23_1, e23_2, e23_3, e23_4, e23_6, e23_7, e23_11, e23_12, e23_15, e23_16, e23_20, e23_21, e23_24, e23_27, e23_28, e23_31, e23_32, e23_35, e23_36, e23_37, e23_39, e23_40, e23_41, e23_44, e23_46, e23_47, e23_48, e23_49, e23_52, e23_53, e23_55, e23_58, e23_61, e23_62, e23_65, e23_68, e23_71, e23_73, ↓reduceIte, ↓gi0, ↓gr0, ↓gl0, ↓gi1, ↓gr1, ↓gl1, ↓gi2, ↓gr2, ↓gl2, ↓gi3, ↓gr3, ↓gl3, ↓gi4, ↓gr4, ↓gl4, ↓gi5, ↓gr5, ↓gl5, ↓gi6, ↓gr6, ↓gl6, ↓gi7, ↓gr7, ↓gl7, ↓gi8, ↓gr8, ↓gl8, ↓gi9, ↓gr9, ↓gl9, ↓qI, ↓qI2, ↓qL, ↓qL2, ↓qR, ↓qV, ↓pd0, ↓ta0, ↓ts0, ↓pd1, ↓ta1, ↓ts1, ↓pd2, ↓ta2, ↓ts2, ↓pd3, ↓ta3, ↓ts3, ↓pd4, ↓ta4, ↓ts4, ↓pd5, ↓ta5, ↓ts5, ↓pd6, ↓ta6, ↓ts6, lGet, lSet, okS, isLg, Bool.not_false, Bool.not_true, Bool.false_eq_true, not_false_eq_true, not_true_eq_false, catS, okR1, okR20, okR21, okR2b, List.length_cons, List.length_nil, List.drop_succ_cons, List.drop_zero, List.drop_nil, and_self, true_and, and_true, false_and, and_false, Nat.reduceAdd, Nat.reduceLeDiff, Nat.zero_add, Nat.le_refl, Nat.zero_le, pushR, reduceCtorEq, or_self, or_false, false_or, true_or, or_true, ltT, ltF, leT, leF, eqF, eqT, lt0F, ge0T, le0T, le0F, eq0T, eq0F, gt0T, gt0F, nI_add, nI_1, pk_mul, subT, sub1, divT, remN, natRem]
end CM4
