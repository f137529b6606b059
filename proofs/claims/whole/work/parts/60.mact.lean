/-! ===== the reference's calls: acts ===== -/
section MSA
variable {scr : Nat × (Nat → Int32)} {s : ST}
theorem m_copyRow (d : Nat) {a b : Nat} (h : a + 119 ≤ b ∨ b + 119 ≤ a) (ha : a + 119 ≤ 476) (hb : b + 119 ≤ 476) : ∃ s', EvM (d + 1) 176 [.ref 614, .int (nI a), .int (nI b)] (mkH scr s) = some (0, mkH scr s') ∧ FrA s s' 615 b (b + 119) ∧ ∀ i, i < 119 → s'.1 615 (b + i) = s.1 615 (a + i) := by
  have h := forUp (X := ST) 119 (fun j x => EvI (EvM d) C176 0 2 [.ref 614, .int (nI a), .int (nI b), .int (nI j)] [] (mkH scr x))
    (fun j x => FrA s x 615 b (b + j) ∧ ∀ i, i < j → x.1 615 (b + i) = s.1 615 (a + i))
    (fun r => ∃ s', r = some (0, mkH scr s') ∧ FrA s s' 615 b (b + 119) ∧ ∀ i, i < 119 → s'.1 615 (b + i) = s.1 615 (a + i)) ?_ ?_ (x := s) ⟨FrA.rf _ _ _ _, fun i hi => absurd hi (Nat.not_lt_zero i)⟩
  · obtain ⟨s', e1, e2⟩ := h
    refine ⟨s', ?_, e2⟩
    rw [← e1, ev176, e176_0]
    simp (disch := omega) only [e176_0, e176_1, e176_3, e176_5, e176_8, e176_9, e176_12, e176_13, e176_14, e176_15, e176_16, e176_19, e176_20, e176_21, e176_22, e176_23, e176_24, e176_27, e176_30, ↓reduceIte, ↓gi0, ↓gr0, ↓gl0, ↓gi1, ↓gr1, ↓gl1, ↓gi2, ↓gr2, ↓gl2, ↓gi3, ↓gr3, ↓gl3, ↓gi4, ↓gr4, ↓gl4, ↓gi5, ↓gr5, ↓gl5, ↓gi6, ↓gr6, ↓gl6, ↓gi7, ↓gr7, ↓gl7, ↓gi8, ↓gr8, ↓gl8, ↓gi9, ↓gr9, ↓gl9, ↓qI, ↓qI2, ↓qL, ↓qL2, ↓qR, ↓qV, ↓pd0, ↓ta0, ↓ts0, ↓pd1, ↓ta1, ↓ts1, ↓pd2, ↓ta2, ↓ts2, ↓pd3, ↓ta3, ↓ts3, ↓pd4, ↓ta4, ↓ts4, ↓pd5, ↓ta5, ↓ts5, ↓pd6, ↓ta6, ↓ts6, lGet, lSet, okS, isLg, Bool.not_false, Bool.not_true, Bool.false_eq_true, not_false_eq_true, not_true_eq_false, catS, okR1, okR20, okR21, okR2b, List.length_cons, List.length_nil, List.drop_succ_cons, List.drop_zero, List.drop_nil, and_self, true_and, and_true, false_and, and_false, Nat.reduceAdd, Nat.reduceLeDiff, Nat.zero_add, Nat.le_refl, Nat.zero_le, pushR, reduceCtorEq, or_self, or_false, false_or, true_or, or_true, show nI 0 = 0 from rfl]
  · intro j x hj ⟨g1, g2⟩
    refine ⟨u2 x 615 (b + j) (x.1 615 (a + j)), ⟨(g1.w (Nat.le_refl _) (by omega)).tr (FrA.u (by omega) (by omega)), fun i hi => ?_⟩, ?_⟩
    · by_cases e : i = j
      · rw [e, u2_same, g1.2 _ _ (by omega)]
      · rw [u2_oth _ _ (by omega), g2 i (by omega)]
    · rw [e176_2]
      simp (disch := omega) only [e176_0, e176_1, e176_3, e176_5, e176_8, e176_9, e176_12, e176_13, e176_14, e176_15, e176_16, e176_19, e176_20, e176_21, e176_22, e176_23, e176_24, e176_27, e176_30, ↓reduceIte, ↓gi0, ↓gr0, ↓gl0, ↓gi1, ↓gr1, ↓gl1, ↓gi2, ↓gr2, ↓gl2, ↓gi3, ↓gr3, ↓gl3, ↓gi4, ↓gr4, ↓gl4, ↓gi5, ↓gr5, ↓gl5, ↓gi6, ↓gr6, ↓gl6, ↓gi7, ↓gr7, ↓gl7, ↓gi8, ↓gr8, ↓gl8, ↓gi9, ↓gr9, ↓gl9, ↓qI, ↓qI2, ↓qL, ↓qL2, ↓qR, ↓qV, ↓pd0, ↓ta0, ↓ts0, ↓pd1, ↓ta1, ↓ts1, ↓pd2, ↓ta2, ↓ts2, ↓pd3, ↓ta3, ↓ts3, ↓pd4, ↓ta4, ↓ts4, ↓pd5, ↓ta5, ↓ts5, ↓pd6, ↓ta6, ↓ts6, lGet, lSet, okS, isLg, Bool.not_false, Bool.not_true, Bool.false_eq_true, not_false_eq_true, not_true_eq_false, catS, okR1, okR20, okR21, okR2b, List.length_cons, List.length_nil, List.drop_succ_cons, List.drop_zero, List.drop_nil, and_self, true_and, and_true, false_and, and_false, Nat.reduceAdd, Nat.reduceLeDiff, Nat.zero_add, Nat.le_refl, Nat.zero_le, pushR, reduceCtorEq, or_self, or_false, false_or, true_or, or_true, ltT, ltF, leT, leF, eqF, eqT, lt0F, ge0T, le0T, le0F, eq0T, eq0F, gt0T, gt0F, nI_add, nI_1, pk_mul, subT, sub1, divT, remN, natRem, n2, n3, n4, n5, n6, n7, n8, n9, n10, n12, n16, n22, n23, n24, n40, n48, n57, n60, n97, n99, n100, n119, n120, n238, n357, n999, n9999, n2231, Int32.add_zero, K614, ↓G614_0, ↓G614_1, ↓G614_2, ↓U614_2, ↓G614_3, ↓G614_4, ↓U614_4, ↓G614_5, ↓U614_5, ↓G614_6, ↓U614_6, ↓G614_7, ↓G614_8, ↓G614_9, ↓G614_10, ↓G614_11, ↓U614_11, ↓G614_12, ↓U614_12, ↓G614_13, ↓U614_13, ↓G614_14, ↓U614_14, ↓G614_15, ↓G614_16, ↓U614_16, ↓G614_18, ↓U614_18, ↓G614_19, ↓I615, ↓S615]
  · intro x ⟨g1, g2⟩
    refine ⟨x, ?_, g1, g2⟩
    rw [e176_2]
    simp (disch := omega) only [e176_0, e176_1, e176_3, e176_5, e176_8, e176_9, e176_12, e176_13, e176_14, e176_15, e176_16, e176_19, e176_20, e176_21, e176_22, e176_23, e176_24, e176_27, e176_30, ↓reduceIte, ↓gi0, ↓gr0, ↓gl0, ↓gi1, ↓gr1, ↓gl1, ↓gi2, ↓gr2, ↓gl2, ↓gi3, ↓gr3, ↓gl3, ↓gi4, ↓gr4, ↓gl4, ↓gi5, ↓gr5, ↓gl5, ↓gi6, ↓gr6, ↓gl6, ↓gi7, ↓gr7, ↓gl7, ↓gi8, ↓gr8, ↓gl8, ↓gi9, ↓gr9, ↓gl9, ↓qI, ↓qI2, ↓qL, ↓qL2, ↓qR, ↓qV, ↓pd0, ↓ta0, ↓ts0, ↓pd1, ↓ta1, ↓ts1, ↓pd2, ↓ta2, ↓ts2, ↓pd3, ↓ta3, ↓ts3, ↓pd4, ↓ta4, ↓ts4, ↓pd5, ↓ta5, ↓ts5, ↓pd6, ↓ta6, ↓ts6, lGet, lSet, okS, isLg, Bool.not_false, Bool.not_true, Bool.false_eq_true, not_false_eq_true, not_true_eq_false, catS, okR1, okR20, okR21, okR2b, List.length_cons, List.length_nil, List.drop_succ_cons, List.drop_zero, List.drop_nil, and_self, true_and, and_true, false_and, and_false, Nat.reduceAdd, Nat.reduceLeDiff, Nat.zero_add, Nat.le_refl, Nat.zero_le, pushR, reduceCtorEq, or_self, or_false, false_or, true_or, or_true, ltT, ltF, leT, leF, eqF, eqT, lt0F, ge0T, le0T, le0F, eq0T, eq0F, gt0T, gt0F, nI_add, nI_1, pk_mul, subT, sub1, divT, remN, natRem, n2, n3, n4, n5, n6, n7, n8, n9, n10, n12, n16, n22, n23, n24, n40, n48, n57, n60, n97, n99, n100, n119, n120, n238, n357, n999, n9999, n2231, Int32.add_zero, K614, ↓G614_0, ↓G614_1, ↓G614_2, ↓U614_2, ↓G614_3, ↓G614_4, ↓U614_4, ↓G614_5, ↓U614_5, ↓G614_6, ↓U614_6, ↓G614_7, ↓G614_8, ↓G614_9, ↓G614_10, ↓G614_11, ↓U614_11, ↓G614_12, ↓U614_12, ↓G614_13, ↓U614_13, ↓G614_14, ↓U614_14, ↓G614_15, ↓G614_16, ↓U614_16, ↓G614_18, ↓U614_18, ↓G614_19, ↓I615, ↓S615]
theorem kp_tail (d : Nat) {pa1 : List CY} {c : CY} {s2 : ST} (h2 : s2.1 614 2 = nI pa1.length) (hl : pa1.length ≤ 23) (hq : ∀ q c, pa1[q]? = some c → c.2.2.2.1 ≤ 6 ∧ MVA s2 616 (97 * q) c) (h6 : c.2.2.2.1 ≤ 6) (hV : MV s2 0 c) : ∃ s', EvI (EvM d) C161 0 64 [.ref 614, .int 0] [] (mkH scr s2) = some (0, mkH scr s') ∧ PAm s' (pa1 ++ [c]) ∧ s'.2 = s2.2 ∧ ∀ a k, ¬ (a = 614 ∧ k = 2) → a ≠ 616 → s'.1 a k = s2.1 a k := by
  have h := forUp (X := ST) 97 (fun j x => EvI (EvM d) C161 0 64 [.ref 614, .int (nI j)] [] (mkH scr x))
    (fun j x => FrA s2 x 616 (97 * pa1.length) (97 * pa1.length + j) ∧ ∀ i, i < j → x.1 616 (97 * pa1.length + i) = s2.1 615 (22 + i))
    (fun r => ∃ s', r = some (0, mkH scr s') ∧ PAm s' (pa1 ++ [c]) ∧ s'.2 = s2.2 ∧ ∀ a k, ¬ (a = 614 ∧ k = 2) → a ≠ 616 → s'.1 a k = s2.1 a k) ?_ ?_ (x := s2) ⟨FrA.rf _ _ _ _, fun i hi => absurd hi (Nat.not_lt_zero i)⟩
  · exact h
  · intro j x hj ⟨g1, g2⟩
    have x2 : x.1 614 2 = nI pa1.length := by rw [g1.2 _ _ (by omega)]; exact h2
    refine ⟨u2 x 616 (97 * pa1.length + j) (x.1 615 (22 + j)), ⟨(g1.w (Nat.le_refl _) (by omega)).tr (FrA.u (by omega) (by omega)), fun i hi => ?_⟩, ?_⟩
    · by_cases e : i = j
      · rw [e, u2_same, g1.2 _ _ (by omega)]
      · rw [u2_oth _ _ (by omega), g2 i (by omega)]
    · rw [e161_64]
      simp (disch := omega) only [e161_0, e161_1, e161_2, e161_3, e161_6, e161_9, e161_10, e161_13, e161_15, e161_18, e161_19, e161_22, e161_23, e161_24, e161_27, e161_28, e161_30, e161_31, e161_32, e161_33, e161_36, e161_39, e161_40, e161_41, e161_44, e161_45, e161_48, e161_50, e161_53, e161_54, e161_57, e161_58, e161_59, e161_62, e161_63, e161_65, e161_67, e161_70, e161_71, e161_74, e161_76, e161_77, e161_80, e161_81, e161_82, e161_83, e161_84, e161_87, e161_89, e161_90, e161_91, e161_92, e161_93, e161_96, e161_99, e161_100, e161_101, e161_104, e161_105, e161_106, e161_109, ↓reduceIte, ↓gi0, ↓gr0, ↓gl0, ↓gi1, ↓gr1, ↓gl1, ↓gi2, ↓gr2, ↓gl2, ↓gi3, ↓gr3, ↓gl3, ↓gi4, ↓gr4, ↓gl4, ↓gi5, ↓gr5, ↓gl5, ↓gi6, ↓gr6, ↓gl6, ↓gi7, ↓gr7, ↓gl7, ↓gi8, ↓gr8, ↓gl8, ↓gi9, ↓gr9, ↓gl9, ↓qI, ↓qI2, ↓qL, ↓qL2, ↓qR, ↓qV, ↓pd0, ↓ta0, ↓ts0, ↓pd1, ↓ta1, ↓ts1, ↓pd2, ↓ta2, ↓ts2, ↓pd3, ↓ta3, ↓ts3, ↓pd4, ↓ta4, ↓ts4, ↓pd5, ↓ta5, ↓ts5, ↓pd6, ↓ta6, ↓ts6, lGet, lSet, okS, isLg, Bool.not_false, Bool.not_true, Bool.false_eq_true, not_false_eq_true, not_true_eq_false, catS, okR1, okR20, okR21, okR2b, List.length_cons, List.length_nil, List.drop_succ_cons, List.drop_zero, List.drop_nil, and_self, true_and, and_true, false_and, and_false, Nat.reduceAdd, Nat.reduceLeDiff, Nat.zero_add, Nat.le_refl, Nat.zero_le, pushR, reduceCtorEq, or_self, or_false, false_or, true_or, or_true, ltT, ltF, leT, leF, eqF, eqT, lt0F, ge0T, le0T, le0F, eq0T, eq0F, gt0T, gt0F, nI_add, nI_1, pk_mul, subT, sub1, divT, remN, natRem, n2, n3, n4, n5, n6, n7, n8, n9, n10, n12, n16, n22, n23, n24, n40, n48, n57, n60, n97, n99, n100, n119, n120, n238, n357, n999, n9999, n2231, Int32.add_zero, K614, ↓G614_0, ↓G614_1, ↓G614_2, ↓U614_2, ↓G614_3, ↓G614_4, ↓U614_4, ↓G614_5, ↓U614_5, ↓G614_6, ↓U614_6, ↓G614_7, ↓G614_8, ↓G614_9, ↓G614_10, ↓G614_11, ↓U614_11, ↓G614_12, ↓U614_12, ↓G614_13, ↓U614_13, ↓G614_14, ↓U614_14, ↓G614_15, ↓G614_16, ↓U614_16, ↓G614_18, ↓U614_18, ↓G614_19, ↓I615, ↓S615, ↓I616, ↓S616, x2]
  · intro x ⟨g1, g2⟩
    have x2 : x.1 614 2 = nI pa1.length := by rw [g1.2 _ _ (by omega)]; exact h2
    refine ⟨u2 x 614 2 (nI (pa1.length + 1)), ?_, ⟨by rw [u2_same, List.length_append, List.length_singleton], by rw [List.length_append, List.length_singleton]; omega, fun q c' hq' => ?_⟩, g1.1, fun a k x_ y => by rw [u2_oth _ _ (by omega), g1.2 _ _ (by omega)]⟩
    · rw [e161_64]
      simp (disch := omega) only [e161_0, e161_1, e161_2, e161_3, e161_6, e161_9, e161_10, e161_13, e161_15, e161_18, e161_19, e161_22, e161_23, e161_24, e161_27, e161_28, e161_30, e161_31, e161_32, e161_33, e161_36, e161_39, e161_40, e161_41, e161_44, e161_45, e161_48, e161_50, e161_53, e161_54, e161_57, e161_58, e161_59, e161_62, e161_63, e161_65, e161_67, e161_70, e161_71, e161_74, e161_76, e161_77, e161_80, e161_81, e161_82, e161_83, e161_84, e161_87, e161_89, e161_90, e161_91, e161_92, e161_93, e161_96, e161_99, e161_100, e161_101, e161_104, e161_105, e161_106, e161_109, ↓reduceIte, ↓gi0, ↓gr0, ↓gl0, ↓gi1, ↓gr1, ↓gl1, ↓gi2, ↓gr2, ↓gl2, ↓gi3, ↓gr3, ↓gl3, ↓gi4, ↓gr4, ↓gl4, ↓gi5, ↓gr5, ↓gl5, ↓gi6, ↓gr6, ↓gl6, ↓gi7, ↓gr7, ↓gl7, ↓gi8, ↓gr8, ↓gl8, ↓gi9, ↓gr9, ↓gl9, ↓qI, ↓qI2, ↓qL, ↓qL2, ↓qR, ↓qV, ↓pd0, ↓ta0, ↓ts0, ↓pd1, ↓ta1, ↓ts1, ↓pd2, ↓ta2, ↓ts2, ↓pd3, ↓ta3, ↓ts3, ↓pd4, ↓ta4, ↓ts4, ↓pd5, ↓ta5, ↓ts5, ↓pd6, ↓ta6, ↓ts6, lGet, lSet, okS, isLg, Bool.not_false, Bool.not_true, Bool.false_eq_true, not_false_eq_true, not_true_eq_false, catS, okR1, okR20, okR21, okR2b, List.length_cons, List.length_nil, List.drop_succ_cons, List.drop_zero, List.drop_nil, and_self, true_and, and_true, false_and, and_false, Nat.reduceAdd, Nat.reduceLeDiff, Nat.zero_add, Nat.le_refl, Nat.zero_le, pushR, reduceCtorEq, or_self, or_false, false_or, true_or, or_true, ltT, ltF, leT, leF, eqF, eqT, lt0F, ge0T, le0T, le0F, eq0T, eq0F, gt0T, gt0F, nI_add, nI_1, pk_mul, subT, sub1, divT, remN, natRem, n2, n3, n4, n5, n6, n7, n8, n9, n10, n12, n16, n22, n23, n24, n40, n48, n57, n60, n97, n99, n100, n119, n120, n238, n357, n999, n9999, n2231, Int32.add_zero, K614, ↓G614_0, ↓G614_1, ↓G614_2, ↓U614_2, ↓G614_3, ↓G614_4, ↓U614_4, ↓G614_5, ↓U614_5, ↓G614_6, ↓U614_6, ↓G614_7, ↓G614_8, ↓G614_9, ↓G614_10, ↓G614_11, ↓U614_11, ↓G614_12, ↓U614_12, ↓G614_13, ↓U614_13, ↓G614_14, ↓U614_14, ↓G614_15, ↓G614_16, ↓U614_16, ↓G614_18, ↓U614_18, ↓G614_19, ↓I615, ↓S615, ↓I616, ↓S616, x2]
    · by_cases e : q < pa1.length
      · rw [List.getElem?_append_left e] at hq'
        obtain ⟨w1, w2⟩ := hq q c' hq'
        exact ⟨w1, w2.ext w1 (fun k hk => by rw [u2_oth _ _ (by omega), g1.2 _ _ (by omega)])⟩
      · have e1 : q = pa1.length := by
          have := (List.getElem?_eq_some_iff.mp hq').1
          rw [List.length_append, List.length_singleton] at this
          omega
        subst e1
        rw [List.getElem?_append_right (Nat.le_refl _), Nat.sub_self] at hq'
        cases hq'
        exact ⟨h6, (MVA_V.mpr hV).ext h6 (fun k hk => by rw [u2_oth _ _ (by omega), g2 k hk])⟩
theorem m_keepPast (d : Nat) {pa : List CY} {c : CY} (hP : PAm s pa) (h6 : c.2.2.2.1 ≤ 6) (hV : MV s 0 c) : ∃ s', EvM (d + 1) 161 [.ref 614] (mkH scr s) = some (0, mkH scr s') ∧ PAm s' (keepP pa c) ∧ s'.2 = s.2 ∧ ∀ a k, ¬ (a = 614 ∧ k = 2) → a ≠ 616 → s'.1 a k = s.1 a k := by
  obtain ⟨p1, p2, p3⟩ := hP
  rw [ev161, e161_0]
  by_cases h24 : pa.length < 24
  · obtain ⟨s', a1, a2, a3, a4⟩ := kp_tail d (scr := scr) (pa1 := pa) (c := c) (s2 := u2 s 614 2 (nI pa.length)) (u2_same _ _ _ _) (by omega) (fun q c hq => ⟨(p3 q c hq).1, (p3 q c hq).2.ext (p3 q c hq).1 (fun k hk => u2_oth _ _ (by omega))⟩) h6 (MVA_V.mp ((MVA_V.mpr hV).ext h6 (fun k hk => u2_oth _ _ (by omega))))
    refine ⟨s', ?_, by unfold keepP; rw [if_pos h24]; exact a2, a3, fun a k x y => by rw [a4 a k x y, u2_oth _ _ (by omega)]⟩
    rw [← a1]
    simp (disch := omega) only [e161_0, e161_1, e161_2, e161_3, e161_6, e161_9, e161_10, e161_13, e161_15, e161_18, e161_19, e161_22, e161_23, e161_24, e161_27, e161_28, e161_30, e161_31, e161_32, e161_33, e161_36, e161_39, e161_40, e161_41, e161_44, e161_45, e161_48, e161_50, e161_53, e161_54, e161_57, e161_58, e161_59, e161_62, e161_63, e161_65, e161_67, e161_70, e161_71, e161_74, e161_76, e161_77, e161_80, e161_81, e161_82, e161_83, e161_84, e161_87, e161_89, e161_90, e161_91, e161_92, e161_93, e161_96, e161_99, e161_100, e161_101, e161_104, e161_105, e161_106, e161_109, ↓reduceIte, ↓gi0, ↓gr0, ↓gl0, ↓gi1, ↓gr1, ↓gl1, ↓gi2, ↓gr2, ↓gl2, ↓gi3, ↓gr3, ↓gl3, ↓gi4, ↓gr4, ↓gl4, ↓gi5, ↓gr5, ↓gl5, ↓gi6, ↓gr6, ↓gl6, ↓gi7, ↓gr7, ↓gl7, ↓gi8, ↓gr8, ↓gl8, ↓gi9, ↓gr9, ↓gl9, ↓qI, ↓qI2, ↓qL, ↓qL2, ↓qR, ↓qV, ↓pd0, ↓ta0, ↓ts0, ↓pd1, ↓ta1, ↓ts1, ↓pd2, ↓ta2, ↓ts2, ↓pd3, ↓ta3, ↓ts3, ↓pd4, ↓ta4, ↓ts4, ↓pd5, ↓ta5, ↓ts5, ↓pd6, ↓ta6, ↓ts6, lGet, lSet, okS, isLg, Bool.not_false, Bool.not_true, Bool.false_eq_true, not_false_eq_true, not_true_eq_false, catS, okR1, okR20, okR21, okR2b, List.length_cons, List.length_nil, List.drop_succ_cons, List.drop_zero, List.drop_nil, and_self, true_and, and_true, false_and, and_false, Nat.reduceAdd, Nat.reduceLeDiff, Nat.zero_add, Nat.le_refl, Nat.zero_le, pushR, reduceCtorEq, or_self, or_false, false_or, true_or, or_true, ltT, ltF, leT, leF, eqF, eqT, lt0F, ge0T, le0T, le0F, eq0T, eq0F, gt0T, gt0F, nI_add, nI_1, pk_mul, subT, sub1, divT, remN, natRem, n2, n3, n4, n5, n6, n7, n8, n9, n10, n12, n16, n22, n23, n24, n40, n48, n57, n60, n97, n99, n100, n119, n120, n238, n357, n999, n9999, n2231, Int32.add_zero, show (0 : Int32) = nI 0 from rfl, K614, ↓G614_0, ↓G614_1, ↓G614_2, ↓U614_2, ↓G614_3, ↓G614_4, ↓U614_4, ↓G614_5, ↓U614_5, ↓G614_6, ↓U614_6, ↓G614_7, ↓G614_8, ↓G614_9, ↓G614_10, ↓G614_11, ↓U614_11, ↓G614_12, ↓U614_12, ↓G614_13, ↓U614_13, ↓G614_14, ↓U614_14, ↓G614_15, ↓G614_16, ↓U614_16, ↓G614_18, ↓U614_18, ↓G614_19, ↓I615, ↓S615, ↓I616, ↓S616, p1, Nat.sub_zero]
  · have e24 : pa.length = 24 := by omega
    rw [e24] at p1
    have h := forUp (X := ST) 2231 (fun j x => EvI (EvM d) C161 0 2 [.ref 614, .int (nI j)] [] (mkH scr x))
      (fun j x => FrA s x 616 0 j ∧ ∀ i, i < j → x.1 616 i = s.1 616 (i + 97))
      (fun r => ∃ s1, r = EvI (EvM d) C161 0 39 [.ref 614, .int (nI 2231)] [] (mkH scr s1) ∧ FrA s s1 616 0 2231 ∧ ∀ i, i < 2231 → s1.1 616 i = s.1 616 (i + 97)) ?_ ?_ (x := s) ⟨FrA.rf _ _ _ _, fun i hi => absurd hi (Nat.not_lt_zero i)⟩
    · obtain ⟨s1, e1, g1, g2⟩ := h
      have l23 : (pa.drop 1).length = 23 := by rw [List.length_drop]; omega
      obtain ⟨s', a1, a2, a3, a4⟩ := kp_tail d (scr := scr) (pa1 := pa.drop 1) (c := c) (s2 := u2 s1 614 2 (nI 23)) (by rw [u2_same, l23]) (by omega) (fun q c hq => by
        rw [List.getElem?_drop] at hq
        obtain ⟨w1, w2⟩ := p3 (1 + q) c hq
        have hq24 := (List.getElem?_eq_some_iff.mp hq).1
        exact ⟨w1, w2.ext w1 (fun k hk => by rw [u2_oth _ _ (by omega), g2 _ (by omega)]; exact congrArg _ (by omega))⟩) h6 (MVA_V.mp ((MVA_V.mpr hV).ext h6 (fun k hk => by rw [u2_oth _ _ (by omega), g1.2 _ _ (by omega)])))
      refine ⟨s', ?_, by unfold keepP; rw [if_neg h24]; exact a2, a3.trans g1.1, fun a k x y => by rw [a4 a k x y, u2_oth _ _ (by omega), g1.2 _ _ (by omega)]⟩
      have x2 : s1.1 614 2 = nI 24 := by rw [g1.2 _ _ (by omega)]; exact p1
      rw [← a1]
      have e0 : EvI (EvM d) C161 0 2 [.ref 614, .int 0] [] (mkH scr s) = _ := e1
      simp (disch := omega) only [e161_0, e161_1, ↓reduceIte, ↓gi0, ↓gr0, ↓gl0, ↓gi1, ↓gr1, ↓gl1, ↓gi2, ↓gr2, ↓gl2, ↓gi3, ↓gr3, ↓gl3, ↓gi4, ↓gr4, ↓gl4, ↓gi5, ↓gr5, ↓gl5, ↓gi6, ↓gr6, ↓gl6, ↓gi7, ↓gr7, ↓gl7, ↓gi8, ↓gr8, ↓gl8, ↓gi9, ↓gr9, ↓gl9, ↓qI, ↓qI2, ↓qL, ↓qL2, ↓qR, ↓qV, ↓pd0, ↓ta0, ↓ts0, ↓pd1, ↓ta1, ↓ts1, ↓pd2, ↓ta2, ↓ts2, ↓pd3, ↓ta3, ↓ts3, ↓pd4, ↓ta4, ↓ts4, ↓pd5, ↓ta5, ↓ts5, ↓pd6, ↓ta6, ↓ts6, lGet, lSet, okS, isLg, Bool.not_false, Bool.not_true, Bool.false_eq_true, not_false_eq_true, not_true_eq_false, catS, okR1, okR20, okR21, okR2b, List.length_cons, List.length_nil, List.drop_succ_cons, List.drop_zero, List.drop_nil, and_self, true_and, and_true, false_and, and_false, Nat.reduceAdd, Nat.reduceLeDiff, Nat.zero_add, Nat.le_refl, Nat.zero_le, pushR, reduceCtorEq, or_self, or_false, false_or, true_or, or_true]
      rw [e0, e161_39]
      simp (disch := omega) only [e161_0, e161_1, e161_2, e161_3, e161_6, e161_9, e161_10, e161_13, e161_15, e161_18, e161_19, e161_22, e161_23, e161_24, e161_27, e161_28, e161_30, e161_31, e161_32, e161_33, e161_36, e161_40, e161_41, e161_44, e161_45, e161_48, e161_50, e161_53, e161_54, e161_57, e161_58, e161_59, e161_62, e161_63, e161_65, e161_67, e161_70, e161_71, e161_74, e161_76, e161_77, e161_80, e161_81, e161_82, e161_83, e161_84, e161_87, e161_89, e161_90, e161_91, e161_92, e161_93, e161_96, e161_99, e161_100, e161_101, e161_104, e161_105, e161_106, e161_109, ↓reduceIte, ↓gi0, ↓gr0, ↓gl0, ↓gi1, ↓gr1, ↓gl1, ↓gi2, ↓gr2, ↓gl2, ↓gi3, ↓gr3, ↓gl3, ↓gi4, ↓gr4, ↓gl4, ↓gi5, ↓gr5, ↓gl5, ↓gi6, ↓gr6, ↓gl6, ↓gi7, ↓gr7, ↓gl7, ↓gi8, ↓gr8, ↓gl8, ↓gi9, ↓gr9, ↓gl9, ↓qI, ↓qI2, ↓qL, ↓qL2, ↓qR, ↓qV, ↓pd0, ↓ta0, ↓ts0, ↓pd1, ↓ta1, ↓ts1, ↓pd2, ↓ta2, ↓ts2, ↓pd3, ↓ta3, ↓ts3, ↓pd4, ↓ta4, ↓ts4, ↓pd5, ↓ta5, ↓ts5, ↓pd6, ↓ta6, ↓ts6, lGet, lSet, okS, isLg, Bool.not_false, Bool.not_true, Bool.false_eq_true, not_false_eq_true, not_true_eq_false, catS, okR1, okR20, okR21, okR2b, List.length_cons, List.length_nil, List.drop_succ_cons, List.drop_zero, List.drop_nil, and_self, true_and, and_true, false_and, and_false, Nat.reduceAdd, Nat.reduceLeDiff, Nat.zero_add, Nat.le_refl, Nat.zero_le, pushR, reduceCtorEq, or_self, or_false, false_or, true_or, or_true, ltT, ltF, leT, leF, eqF, eqT, lt0F, ge0T, le0T, le0F, eq0T, eq0F, gt0T, gt0F, nI_add, nI_1, pk_mul, subT, sub1, divT, remN, natRem, n2, n3, n4, n5, n6, n7, n8, n9, n10, n12, n16, n22, n23, n24, n40, n48, n57, n60, n97, n99, n100, n119, n120, n238, n357, n999, n9999, n2231, Int32.add_zero, K614, ↓G614_0, ↓G614_1, ↓G614_2, ↓U614_2, ↓G614_3, ↓G614_4, ↓U614_4, ↓G614_5, ↓U614_5, ↓G614_6, ↓U614_6, ↓G614_7, ↓G614_8, ↓G614_9, ↓G614_10, ↓G614_11, ↓U614_11, ↓G614_12, ↓U614_12, ↓G614_13, ↓U614_13, ↓G614_14, ↓U614_14, ↓G614_15, ↓G614_16, ↓U614_16, ↓G614_18, ↓U614_18, ↓G614_19, ↓I615, ↓S615, ↓I616, ↓S616, x2, Nat.reduceSub]
    · intro j x hj ⟨g1, g2⟩
      have x2 : x.1 614 2 = nI 24 := by rw [g1.2 _ _ (by omega)]; exact p1
      refine ⟨u2 x 616 j (x.1 616 (j + 97)), ⟨(g1.w (Nat.le_refl _) (by omega)).tr (FrA.u (by omega) (by omega)), fun i hi => ?_⟩, ?_⟩
      · by_cases e : i = j
        · rw [e, u2_same, g1.2 _ _ (by omega)]
        · rw [u2_oth _ _ (by omega), g2 i (by omega)]
      · rw [e161_2]
        simp (disch := omega) only [e161_0, e161_1, e161_3, e161_6, e161_9, e161_10, e161_13, e161_15, e161_18, e161_19, e161_22, e161_23, e161_24, e161_27, e161_28, e161_30, e161_31, e161_32, e161_33, e161_36, e161_40, e161_41, e161_44, e161_45, e161_48, e161_50, e161_53, e161_54, e161_57, e161_58, e161_59, e161_62, e161_63, e161_64, e161_65, e161_67, e161_70, e161_71, e161_74, e161_76, e161_77, e161_80, e161_81, e161_82, e161_83, e161_84, e161_87, e161_89, e161_90, e161_91, e161_92, e161_93, e161_96, e161_99, e161_100, e161_101, e161_104, e161_105, e161_106, e161_109, ↓reduceIte, ↓gi0, ↓gr0, ↓gl0, ↓gi1, ↓gr1, ↓gl1, ↓gi2, ↓gr2, ↓gl2, ↓gi3, ↓gr3, ↓gl3, ↓gi4, ↓gr4, ↓gl4, ↓gi5, ↓gr5, ↓gl5, ↓gi6, ↓gr6, ↓gl6, ↓gi7, ↓gr7, ↓gl7, ↓gi8, ↓gr8, ↓gl8, ↓gi9, ↓gr9, ↓gl9, ↓qI, ↓qI2, ↓qL, ↓qL2, ↓qR, ↓qV, ↓pd0, ↓ta0, ↓ts0, ↓pd1, ↓ta1, ↓ts1, ↓pd2, ↓ta2, ↓ts2, ↓pd3, ↓ta3, ↓ts3, ↓pd4, ↓ta4, ↓ts4, ↓pd5, ↓ta5, ↓ts5, ↓pd6, ↓ta6, ↓ts6, lGet, lSet, okS, isLg, Bool.not_false, Bool.not_true, Bool.false_eq_true, not_false_eq_true, not_true_eq_false, catS, okR1, okR20, okR21, okR2b, List.length_cons, List.length_nil, List.drop_succ_cons, List.drop_zero, List.drop_nil, and_self, true_and, and_true, false_and, and_false, Nat.reduceAdd, Nat.reduceLeDiff, Nat.zero_add, Nat.le_refl, Nat.zero_le, pushR, reduceCtorEq, or_self, or_false, false_or, true_or, or_true, ltT, ltF, leT, leF, eqF, eqT, lt0F, ge0T, le0T, le0F, eq0T, eq0F, gt0T, gt0F, nI_add, nI_1, pk_mul, subT, sub1, divT, remN, natRem, n2, n3, n4, n5, n6, n7, n8, n9, n10, n12, n16, n22, n23, n24, n40, n48, n57, n60, n97, n99, n100, n119, n120, n238, n357, n999, n9999, n2231, Int32.add_zero, K614, ↓G614_0, ↓G614_1, ↓G614_2, ↓U614_2, ↓G614_3, ↓G614_4, ↓U614_4, ↓G614_5, ↓U614_5, ↓G614_6, ↓U614_6, ↓G614_7, ↓G614_8, ↓G614_9, ↓G614_10, ↓G614_11, ↓U614_11, ↓G614_12, ↓U614_12, ↓G614_13, ↓U614_13, ↓G614_14, ↓U614_14, ↓G614_15, ↓G614_16, ↓U614_16, ↓G614_18, ↓U614_18, ↓G614_19, ↓I615, ↓S615, ↓I616, ↓S616, x2]
    · intro x ⟨g1, g2⟩
      refine ⟨x, ?_, g1, g2⟩
      rw [e161_2]
      simp (disch := omega) only [e161_0, e161_1, e161_3, e161_6, e161_9, e161_10, e161_13, e161_15, e161_18, e161_19, e161_22, e161_23, e161_24, e161_27, e161_28, e161_30, e161_31, e161_32, e161_33, e161_36, e161_40, e161_41, e161_44, e161_45, e161_48, e161_50, e161_53, e161_54, e161_57, e161_58, e161_59, e161_62, e161_63, e161_64, e161_65, e161_67, e161_70, e161_71, e161_74, e161_76, e161_77, e161_80, e161_81, e161_82, e161_83, e161_84, e161_87, e161_89, e161_90, e161_91, e161_92, e161_93, e161_96, e161_99, e161_100, e161_101, e161_104, e161_105, e161_106, e161_109, ↓reduceIte, ↓gi0, ↓gr0, ↓gl0, ↓gi1, ↓gr1, ↓gl1, ↓gi2, ↓gr2, ↓gl2, ↓gi3, ↓gr3, ↓gl3, ↓gi4, ↓gr4, ↓gl4, ↓gi5, ↓gr5, ↓gl5, ↓gi6, ↓gr6, ↓gl6, ↓gi7, ↓gr7, ↓gl7, ↓gi8, ↓gr8, ↓gl8, ↓gi9, ↓gr9, ↓gl9, ↓qI, ↓qI2, ↓qL, ↓qL2, ↓qR, ↓qV, ↓pd0, ↓ta0, ↓ts0, ↓pd1, ↓ta1, ↓ts1, ↓pd2, ↓ta2, ↓ts2, ↓pd3, ↓ta3, ↓ts3, ↓pd4, ↓ta4, ↓ts4, ↓pd5, ↓ta5, ↓ts5, ↓pd6, ↓ta6, ↓ts6, lGet, lSet, okS, isLg, Bool.not_false, Bool.not_true, Bool.false_eq_true, not_false_eq_true, not_true_eq_false, catS, okR1, okR20, okR21, okR2b, List.length_cons, List.length_nil, List.drop_succ_cons, List.drop_zero, List.drop_nil, and_self, true_and, and_true, false_and, and_false, Nat.reduceAdd, Nat.reduceLeDiff, Nat.zero_add, Nat.le_refl, Nat.zero_le, pushR, reduceCtorEq, or_self, or_false, false_or, true_or, or_true, ltT, ltF, leT, leF, eqF, eqT, lt0F, ge0T, le0T, le0F, eq0T, eq0F, gt0T, gt0F, nI_add, nI_1, pk_mul, subT, sub1, divT, remN, natRem, n2, n3, n4, n5, n6, n7, n8, n9, n10, n12, n16, n22, n23, n24, n40, n48, n57, n60, n97, n99, n100, n119, n120, n238, n357, n999, n9999, n2231, Int32.add_zero, K614, ↓G614_0, ↓G614_1, ↓G614_2, ↓U614_2, ↓G614_3, ↓G614_4, ↓U614_4, ↓G614_5, ↓U614_5, ↓G614_6, ↓U614_6, ↓G614_7, ↓G614_8, ↓G614_9, ↓G614_10, ↓G614_11, ↓U614_11, ↓G614_12, ↓U614_12, ↓G614_13, ↓U614_13, ↓G614_14, ↓U614_14, ↓G614_15, ↓G614_16, ↓U614_16, ↓G614_18, ↓U614_18, ↓G614_19, ↓I615, ↓S615, ↓I616, ↓S616]
/-- one of the people has moved behind keepPast -/
theorem InvM.up {s s1 s2 : ST} {rw_ : RW} {tp : List Nat} {fl : Nat} {st : Int32} {hs : Bool} {t w m N : Nat} {f : Nat → PT} {im : Nat → Option CY} {pa pa' : List CY} {tr : List Nat} {i : Nat} {p : PT} (h : InvM s (rw_, tp, fl, st, hs, (t, w, m, N, f), im, pa, tr)) (hi : i < 6) (hA : PAm s1 pa') (g1 : ∀ a k, ¬ (a = 614 ∧ k = 2) → a ≠ 616 → s1.1 a k = s.1 a k) (hF : FrA s1 s2 615 (23 + 16 * i) (23 + 16 * i + 16)) (hp : MP s2 615 (23 + 16 * i) p) (e1 : p.1 = (f i).1) (e2 : p.2.1 = (f i).2.1) (e3 : p.2.2.1 = (f i).2.2.1) : InvM s2 (rw_, tp, fl, st, hs, cUp (t, w, m, N, f) i p, im, pa', tr) ∧ FrLo s s2 := by
  have hV : MV s 0 (t, w, m, N, f) := h.2.2.2.2.1.2.2.2.2
  have h6 : N ≤ 6 := h.2.2.2.2.1.2.2.1
  refine ⟨h.act ⟨rfl, rfl, rfl, fun j hj => ?_⟩ ⟨?_, fun j hj => ?_⟩ (hA.ext (hF.2 _ _ (by omega)) (fun k => hF.2 _ _ (by omega))) (fun a k x y z w => by rw [hF.2 _ _ (by omega), g1 _ _ (by omega) (by omega)]), fun a k x => by rw [hF.2 _ _ (by omega), g1 _ _ (by omega) (by omega)]⟩
  · show (if j = i then p else f j).1 = _ ∧ (if j = i then p else f j).2.1 = _ ∧ (if j = i then p else f j).2.2.1 = _
    by_cases e : j = i
    · subst e
      rw [if_pos rfl]
      exact ⟨e1, e2, e3⟩
    · rw [if_neg e]
      exact ⟨rfl, rfl, rfl⟩
  · rw [hF.2 _ _ (by omega), g1 _ _ (by omega) (by omega)]; exact hV.1
  · show MP s2 615 (0 + 23 + 16 * j) (if j = i then p else f j)
    by_cases e : j = i
    · subst e
      rw [if_pos rfl]
      rw [Nat.zero_add]
      exact hp
    · rw [if_neg e]
      exact MP.ext2 (hV.2 j hj) (fun k x y => by rw [hF.2 _ _ (by omega), g1 _ _ (by omega) (by omega)])
theorem ms_sent (d : Nat) {A : AS} (hI : InvM s A) (hG : Gd A) (p n : Int32) : ∃ s', EvM (d + 5) 163 [.ref 614, .int p, .int n] (mkH scr s) = some ((oSent p n A).1, mkH scr s') ∧ InvM s' (oSent p n A).2 ∧ FrLo s s' := by
  obtain ⟨rw_, tp, fl, st, hs, ⟨t, w, m, N, f⟩, im, pa, tr⟩ := A
  obtain ⟨q0, q3, h6, qS, hVV⟩ : CTm s hs (t, w, m, N, f) := hI.2.2.2.2.1
  have q3 : s.1 615 3 = nI N := q3
  have h6 : N ≤ 6 := h6
  have q0 : s.1 615 0 = bI hs := q0
  have q22 : s.1 615 22 = nI m := hVV.1
  have hcg : cyGd 9999 (t, w, m, N, f) := hG.2.1.1
  have hm : m ≤ 999 := hG.2.1.2.2
  have hok : cyOk (t, w, m, N, f) := hcg.ok (by decide) (by show m < 2 ^ 20; omega)
  have hP : PAm s pa := hI.2.2.2.2.2.2.1
  have w1 := m_isOne (d + 2) (scr := scr) p q3 h6
  have w2 : EvM (d + 4) 131 [.long n.toInt64, .long (Int32.toInt64 1), .long (nI 999).toInt64] (mkH scr s) = some (bI (inR n 1 999), mkH scr s) := m_inN (d + 3) n 1 999
  rw [ev163, e163_0]
  cases g1 : inB p N
  · rw [g1] at w1
    refine ⟨s, ?_, ?_, FrLo.rf s⟩ <;> simp only [oSent, nPe, g1, Bool.false_eq_true, false_and, if_false, bad]
    · simp (disch := omega) only [e163_0, e163_1, e163_2, e163_5, e163_8, e163_9, e163_10, e163_11, e163_14, e163_17, e163_20, e163_22, e163_23, e163_24, e163_25, e163_26, e163_29, e163_30, e163_31, e163_34, e163_37, e163_39, e163_40, e163_41, e163_44, e163_45, e163_46, e163_47, e163_48, e163_51, e163_52, e163_53, e163_54, e163_57, ↓reduceIte, ↓gi0, ↓gr0, ↓gl0, ↓gi1, ↓gr1, ↓gl1, ↓gi2, ↓gr2, ↓gl2, ↓gi3, ↓gr3, ↓gl3, ↓gi4, ↓gr4, ↓gl4, ↓gi5, ↓gr5, ↓gl5, ↓gi6, ↓gr6, ↓gl6, ↓gi7, ↓gr7, ↓gl7, ↓gi8, ↓gr8, ↓gl8, ↓gi9, ↓gr9, ↓gl9, ↓qI, ↓qI2, ↓qL, ↓qL2, ↓qR, ↓qV, ↓pd0, ↓ta0, ↓ts0, ↓pd1, ↓ta1, ↓ts1, ↓pd2, ↓ta2, ↓ts2, ↓pd3, ↓ta3, ↓ts3, ↓pd4, ↓ta4, ↓ts4, ↓pd5, ↓ta5, ↓ts5, ↓pd6, ↓ta6, ↓ts6, lGet, lSet, okS, isLg, Bool.not_false, Bool.not_true, Bool.false_eq_true, not_false_eq_true, not_true_eq_false, catS, okR1, okR20, okR21, okR2b, List.length_cons, List.length_nil, List.drop_succ_cons, List.drop_zero, List.drop_nil, and_self, true_and, and_true, false_and, and_false, Nat.reduceAdd, Nat.reduceLeDiff, Nat.zero_add, Nat.le_refl, Nat.zero_le, pushR, reduceCtorEq, or_self, or_false, false_or, true_or, or_true, ltT, ltF, leT, leF, eqF, eqT, lt0F, ge0T, le0T, le0F, eq0T, eq0F, gt0T, gt0F, nI_add, nI_1, pk_mul, subT, sub1, divT, remN, natRem, n2, n3, n4, n5, n6, n7, n8, n9, n10, n12, n16, n22, n23, n24, n40, n48, n57, n60, n97, n99, n100, n119, n120, n238, n357, n999, n9999, n2231, Int32.add_zero, bI_t, bI_f, one_ne, K614, ↓G614_0, ↓G614_1, ↓G614_2, ↓U614_2, ↓G614_3, ↓G614_4, ↓U614_4, ↓G614_5, ↓U614_5, ↓G614_6, ↓U614_6, ↓G614_7, ↓G614_8, ↓G614_9, ↓G614_10, ↓G614_11, ↓U614_11, ↓G614_12, ↓U614_12, ↓G614_13, ↓U614_13, ↓G614_14, ↓U614_14, ↓G614_15, ↓G614_16, ↓U614_16, ↓G614_18, ↓U614_18, ↓G614_19, ↓bnd w1]
    · exact hI
  cases g2 : inR n 1 999
  · rw [g1] at w1; rw [g2] at w2
    refine ⟨s, ?_, ?_, FrLo.rf s⟩ <;> simp only [oSent, nPe, g1, g2, Bool.false_eq_true, and_false, if_false, bad]
    · simp (disch := omega) only [e163_0, e163_1, e163_2, e163_5, e163_8, e163_9, e163_10, e163_11, e163_14, e163_17, e163_20, e163_22, e163_23, e163_24, e163_25, e163_26, e163_29, e163_30, e163_31, e163_34, e163_37, e163_39, e163_40, e163_41, e163_44, e163_45, e163_46, e163_47, e163_48, e163_51, e163_52, e163_53, e163_54, e163_57, ↓reduceIte, ↓gi0, ↓gr0, ↓gl0, ↓gi1, ↓gr1, ↓gl1, ↓gi2, ↓gr2, ↓gl2, ↓gi3, ↓gr3, ↓gl3, ↓gi4, ↓gr4, ↓gl4, ↓gi5, ↓gr5, ↓gl5, ↓gi6, ↓gr6, ↓gl6, ↓gi7, ↓gr7, ↓gl7, ↓gi8, ↓gr8, ↓gl8, ↓gi9, ↓gr9, ↓gl9, ↓qI, ↓qI2, ↓qL, ↓qL2, ↓qR, ↓qV, ↓pd0, ↓ta0, ↓ts0, ↓pd1, ↓ta1, ↓ts1, ↓pd2, ↓ta2, ↓ts2, ↓pd3, ↓ta3, ↓ts3, ↓pd4, ↓ta4, ↓ts4, ↓pd5, ↓ta5, ↓ts5, ↓pd6, ↓ta6, ↓ts6, lGet, lSet, okS, isLg, Bool.not_false, Bool.not_true, Bool.false_eq_true, not_false_eq_true, not_true_eq_false, catS, okR1, okR20, okR21, okR2b, List.length_cons, List.length_nil, List.drop_succ_cons, List.drop_zero, List.drop_nil, and_self, true_and, and_true, false_and, and_false, Nat.reduceAdd, Nat.reduceLeDiff, Nat.zero_add, Nat.le_refl, Nat.zero_le, pushR, reduceCtorEq, or_self, or_false, false_or, true_or, or_true, ltT, ltF, leT, leF, eqF, eqT, lt0F, ge0T, le0T, le0F, eq0T, eq0F, gt0T, gt0F, nI_add, nI_1, pk_mul, subT, sub1, divT, remN, natRem, n2, n3, n4, n5, n6, n7, n8, n9, n10, n12, n16, n22, n23, n24, n40, n48, n57, n60, n97, n99, n100, n119, n120, n238, n357, n999, n9999, n2231, Int32.add_zero, bI_t, bI_f, one_ne, K614, ↓G614_0, ↓G614_1, ↓G614_2, ↓U614_2, ↓G614_3, ↓G614_4, ↓U614_4, ↓G614_5, ↓U614_5, ↓G614_6, ↓U614_6, ↓G614_7, ↓G614_8, ↓G614_9, ↓G614_10, ↓G614_11, ↓U614_11, ↓G614_12, ↓U614_12, ↓G614_13, ↓U614_13, ↓G614_14, ↓U614_14, ↓G614_15, ↓G614_16, ↓U614_16, ↓G614_18, ↓U614_18, ↓G614_19, ↓bnd w1, ↓bnd w2]
    · exact hI
  rw [g1] at w1; rw [g2] at w2
  obtain ⟨j, hj, rfl⟩ := inB_of (by omega) g1
  have ej : (nI j).toNatClampNeg = j := nI_clamp (by omega)
  have hj6 : j < 6 := by omega
  have hst : hs = true := by
    cases hs with
    | true => rfl
    | false => have : N = 0 := hG.2.2.1 rfl; omega
  have hMS := qS hst
  have hkd : s.1 615 (4 + 3 * j) = nI (f j).1 := (hMS.2.2.2.2 j hj).1
  have hp : MP s 615 (23 + 16 * j) (f j) := hVV.2 j hj
  have hpo : pOk (f j) := hok.2.2.2 j hj
  have hsl : sumD (f j).2.2.2.2.2.2 < 2 ^ 23 := sumD_lt hp.2.2.2.2.1 (fun i hi => (hpo.2.2.1 i hi).1)
  obtain ⟨k, hk1, hk2, rfl⟩ := inR_of (by decide) (by decide) g2
  have ek : (nI k).toNatClampNeg = k := nI_clamp (by omega)
  have hu : EvM (d + 4) 154 [.ref 614, .int 0, .int (nI j)] (mkH scr s) = some (nI (sumD (f j).2.2.2.2.2.2), mkH scr s) := m_unspent (d + 2) (b := 0) (p := j) hp.2.2.2 (by omega)
  by_cases g3 : 9999 < sumD (f j).2.2.2.2.2.2 + k
  · refine ⟨s, ?_, ?_, FrLo.rf s⟩ <;> simp only [oSent, nPe, pOf, ctyOf, lotsP, g1, g2, and_self, if_true, ej, ek, g3, cl]
    · simp (disch := omega) only [e163_0, e163_1, e163_2, e163_5, e163_8, e163_9, e163_10, e163_11, e163_14, e163_17, e163_20, e163_22, e163_23, e163_24, e163_25, e163_26, e163_29, e163_30, e163_31, e163_34, e163_37, e163_39, e163_40, e163_41, e163_44, e163_45, e163_46, e163_47, e163_48, e163_51, e163_52, e163_53, e163_54, e163_57, ↓reduceIte, ↓gi0, ↓gr0, ↓gl0, ↓gi1, ↓gr1, ↓gl1, ↓gi2, ↓gr2, ↓gl2, ↓gi3, ↓gr3, ↓gl3, ↓gi4, ↓gr4, ↓gl4, ↓gi5, ↓gr5, ↓gl5, ↓gi6, ↓gr6, ↓gl6, ↓gi7, ↓gr7, ↓gl7, ↓gi8, ↓gr8, ↓gl8, ↓gi9, ↓gr9, ↓gl9, ↓qI, ↓qI2, ↓qL, ↓qL2, ↓qR, ↓qV, ↓pd0, ↓ta0, ↓ts0, ↓pd1, ↓ta1, ↓ts1, ↓pd2, ↓ta2, ↓ts2, ↓pd3, ↓ta3, ↓ts3, ↓pd4, ↓ta4, ↓ts4, ↓pd5, ↓ta5, ↓ts5, ↓pd6, ↓ta6, ↓ts6, lGet, lSet, okS, isLg, Bool.not_false, Bool.not_true, Bool.false_eq_true, not_false_eq_true, not_true_eq_false, catS, okR1, okR20, okR21, okR2b, List.length_cons, List.length_nil, List.drop_succ_cons, List.drop_zero, List.drop_nil, and_self, true_and, and_true, false_and, and_false, Nat.reduceAdd, Nat.reduceLeDiff, Nat.zero_add, Nat.le_refl, Nat.zero_le, pushR, reduceCtorEq, or_self, or_false, false_or, true_or, or_true, ltT, ltF, leT, leF, eqF, eqT, lt0F, ge0T, le0T, le0F, eq0T, eq0F, gt0T, gt0F, nI_add, nI_1, pk_mul, subT, sub1, divT, remN, natRem, n2, n3, n4, n5, n6, n7, n8, n9, n10, n12, n16, n22, n23, n24, n40, n48, n57, n60, n97, n99, n100, n119, n120, n238, n357, n999, n9999, n2231, Int32.add_zero, bI_t, bI_f, one_ne, K614, ↓G614_0, ↓G614_1, ↓G614_2, ↓U614_2, ↓G614_3, ↓G614_4, ↓U614_4, ↓G614_5, ↓U614_5, ↓G614_6, ↓U614_6, ↓G614_7, ↓G614_8, ↓G614_9, ↓G614_10, ↓G614_11, ↓U614_11, ↓G614_12, ↓U614_12, ↓G614_13, ↓U614_13, ↓G614_14, ↓U614_14, ↓G614_15, ↓G614_16, ↓U614_16, ↓G614_18, ↓U614_18, ↓G614_19, ↓I615, ↓S615, ↓bnd w1, ↓bnd w2, ↓bnd hu]
    · exact hI
  obtain ⟨s1, a1, a2, a3, a4⟩ := m_keepPast (d + 3) (scr := scr) hP h6 hVV
  have hp1 : MP s1 615 (23 + 16 * j) (f j) := MP.ext2 hp (fun k x y => a4 _ _ (by omega) (by omega))
  have m1 : s1.1 615 22 = nI m := by rw [a4 _ _ (by omega) (by omega)]; exact q22
  have hkd1 : s1.1 615 (4 + 3 * j) = nI (f j).1 := by rw [a4 _ _ (by omega) (by omega)]; exact hkd
  obtain ⟨s2, b1, b2, b3⟩ := m_come (d + 2) (scr := scr) (b := 0) (p := j) hp1.2.2.2 (by omega) m1 k
  have b1' : EvM (d + 4) 155 [.ref 614, .int 0, .int (nI j), .int (nI k)] (mkH scr s1) = some (0, mkH scr s2) := b1
  have b3' : FrA s1 s2 615 (23 + 16 * j) (23 + 16 * j + 16) := b3.w (by omega) (by omega)
  have hu2 : EvM (d + 4) 154 [.ref 614, .int 0, .int (nI j)] (mkH scr s2) = some (nI (sumD (f j).2.2.2.2.2.2 + k), mkH scr s2) := by
    rw [← sum_gain (mo := m) hp.2.2.2.2.1]
    exact m_unspent (d + 2) (b := 0) (p := j) b2 (by omega)
  have hin := hI.up hj6 a2 a4 b3' (MP.lots (k := (f j).1) (le := (f j).2.1) (w := (f j).2.2.1) (ca := (f j).2.2.2.1) (ow := (f j).2.2.2.2.1) (dn := (f j).2.2.2.2.2.1) hp1 (b3.w (by omega) (by omega)) (show ML s2 615 (23 + 16 * j) (pGain k m (f j).2.2.2.2.2.2) by rw [Nat.zero_add] at b2; exact b2)) rfl rfl rfl
  refine ⟨s2, ?_, ?_, hin.2⟩ <;> simp only [oSent, nPe, pOf, ctyOf, lotsP, g1, g2, and_self, if_true, ej, ek, g3, cl, if_false]
  · simp (disch := omega) only [e163_0, e163_1, e163_2, e163_5, e163_8, e163_9, e163_10, e163_11, e163_14, e163_17, e163_20, e163_22, e163_23, e163_24, e163_25, e163_26, e163_29, e163_30, e163_31, e163_34, e163_37, e163_39, e163_40, e163_41, e163_44, e163_45, e163_46, e163_47, e163_48, e163_51, e163_52, e163_53, e163_54, e163_57, ↓reduceIte, ↓gi0, ↓gr0, ↓gl0, ↓gi1, ↓gr1, ↓gl1, ↓gi2, ↓gr2, ↓gl2, ↓gi3, ↓gr3, ↓gl3, ↓gi4, ↓gr4, ↓gl4, ↓gi5, ↓gr5, ↓gl5, ↓gi6, ↓gr6, ↓gl6, ↓gi7, ↓gr7, ↓gl7, ↓gi8, ↓gr8, ↓gl8, ↓gi9, ↓gr9, ↓gl9, ↓qI, ↓qI2, ↓qL, ↓qL2, ↓qR, ↓qV, ↓pd0, ↓ta0, ↓ts0, ↓pd1, ↓ta1, ↓ts1, ↓pd2, ↓ta2, ↓ts2, ↓pd3, ↓ta3, ↓ts3, ↓pd4, ↓ta4, ↓ts4, ↓pd5, ↓ta5, ↓ts5, ↓pd6, ↓ta6, ↓ts6, lGet, lSet, okS, isLg, Bool.not_false, Bool.not_true, Bool.false_eq_true, not_false_eq_true, not_true_eq_false, catS, okR1, okR20, okR21, okR2b, List.length_cons, List.length_nil, List.drop_succ_cons, List.drop_zero, List.drop_nil, and_self, true_and, and_true, false_and, and_false, Nat.reduceAdd, Nat.reduceLeDiff, Nat.zero_add, Nat.le_refl, Nat.zero_le, pushR, reduceCtorEq, or_self, or_false, false_or, true_or, or_true, ltT, ltF, leT, leF, eqF, eqT, lt0F, ge0T, le0T, le0F, eq0T, eq0F, gt0T, gt0F, nI_add, nI_1, pk_mul, subT, sub1, divT, remN, natRem, n2, n3, n4, n5, n6, n7, n8, n9, n10, n12, n16, n22, n23, n24, n40, n48, n57, n60, n97, n99, n100, n119, n120, n238, n357, n999, n9999, n2231, Int32.add_zero, bI_t, bI_f, one_ne, K614, ↓G614_0, ↓G614_1, ↓G614_2, ↓U614_2, ↓G614_3, ↓G614_4, ↓U614_4, ↓G614_5, ↓U614_5, ↓G614_6, ↓U614_6, ↓G614_7, ↓G614_8, ↓G614_9, ↓G614_10, ↓G614_11, ↓U614_11, ↓G614_12, ↓U614_12, ↓G614_13, ↓U614_13, ↓G614_14, ↓U614_14, ↓G614_15, ↓G614_16, ↓U614_16, ↓G614_18, ↓U614_18, ↓G614_19, ↓I615, ↓S615, ↓bnd w1, ↓bnd w2, ↓bnd hu, ↓bnd a1, ↓bnd b1', ↓bnd hu2]
  · exact hin.1
theorem ms_deed (d : Nat) {A : AS} (hI : InvM s A) (hG : Gd A) (p n : Int32) : ∃ s', EvM (d + 6) 164 [.ref 614, .int p, .int n] (mkH scr s) = some ((oDeed p n A).1, mkH scr s') ∧ InvM s' (oDeed p n A).2 ∧ FrLo s s' := by
  obtain ⟨rw_, tp, fl, st, hs, ⟨t, w, m, N, f⟩, im, pa, tr⟩ := A
  obtain ⟨q0, q3, h6, qS, hVV⟩ : CTm s hs (t, w, m, N, f) := hI.2.2.2.2.1
  have q3 : s.1 615 3 = nI N := q3
  have h6 : N ≤ 6 := h6
  have q0 : s.1 615 0 = bI hs := q0
  have q22 : s.1 615 22 = nI m := hVV.1
  have hcg : cyGd 9999 (t, w, m, N, f) := hG.2.1.1
  have hm : m ≤ 999 := hG.2.1.2.2
  have hok : cyOk (t, w, m, N, f) := hcg.ok (by decide) (by show m < 2 ^ 20; omega)
  have hP : PAm s pa := hI.2.2.2.2.2.2.1
  have w1 := m_isOne (d + 3) (scr := scr) p q3 h6
  have w2 : EvM (d + 5) 131 [.long n.toInt64, .long (Int32.toInt64 1), .long (nI 999).toInt64] (mkH scr s) = some (bI (inR n 1 999), mkH scr s) := m_inN (d + 4) n 1 999
  rw [ev164, e164_0]
  cases g1 : inB p N
  · rw [g1] at w1
    refine ⟨s, ?_, ?_, FrLo.rf s⟩ <;> simp only [oDeed, nPe, g1, Bool.false_eq_true, false_and, if_false, bad]
    · simp (disch := omega) only [e164_0, e164_1, e164_2, e164_5, e164_8, e164_9, e164_10, e164_11, e164_14, e164_17, e164_20, e164_22, e164_23, e164_24, e164_27, e164_28, e164_29, e164_30, e164_31, e164_34, e164_35, e164_38, e164_39, e164_40, e164_43, e164_44, e164_45, e164_46, ↓reduceIte, ↓gi0, ↓gr0, ↓gl0, ↓gi1, ↓gr1, ↓gl1, ↓gi2, ↓gr2, ↓gl2, ↓gi3, ↓gr3, ↓gl3, ↓gi4, ↓gr4, ↓gl4, ↓gi5, ↓gr5, ↓gl5, ↓gi6, ↓gr6, ↓gl6, ↓gi7, ↓gr7, ↓gl7, ↓gi8, ↓gr8, ↓gl8, ↓gi9, ↓gr9, ↓gl9, ↓qI, ↓qI2, ↓qL, ↓qL2, ↓qR, ↓qV, ↓pd0, ↓ta0, ↓ts0, ↓pd1, ↓ta1, ↓ts1, ↓pd2, ↓ta2, ↓ts2, ↓pd3, ↓ta3, ↓ts3, ↓pd4, ↓ta4, ↓ts4, ↓pd5, ↓ta5, ↓ts5, ↓pd6, ↓ta6, ↓ts6, lGet, lSet, okS, isLg, Bool.not_false, Bool.not_true, Bool.false_eq_true, not_false_eq_true, not_true_eq_false, catS, okR1, okR20, okR21, okR2b, List.length_cons, List.length_nil, List.drop_succ_cons, List.drop_zero, List.drop_nil, and_self, true_and, and_true, false_and, and_false, Nat.reduceAdd, Nat.reduceLeDiff, Nat.zero_add, Nat.le_refl, Nat.zero_le, pushR, reduceCtorEq, or_self, or_false, false_or, true_or, or_true, ltT, ltF, leT, leF, eqF, eqT, lt0F, ge0T, le0T, le0F, eq0T, eq0F, gt0T, gt0F, nI_add, nI_1, pk_mul, subT, sub1, divT, remN, natRem, n2, n3, n4, n5, n6, n7, n8, n9, n10, n12, n16, n22, n23, n24, n40, n48, n57, n60, n97, n99, n100, n119, n120, n238, n357, n999, n9999, n2231, Int32.add_zero, bI_t, bI_f, one_ne, K614, ↓G614_0, ↓G614_1, ↓G614_2, ↓U614_2, ↓G614_3, ↓G614_4, ↓U614_4, ↓G614_5, ↓U614_5, ↓G614_6, ↓U614_6, ↓G614_7, ↓G614_8, ↓G614_9, ↓G614_10, ↓G614_11, ↓U614_11, ↓G614_12, ↓U614_12, ↓G614_13, ↓U614_13, ↓G614_14, ↓U614_14, ↓G614_15, ↓G614_16, ↓U614_16, ↓G614_18, ↓U614_18, ↓G614_19, ↓bnd w1]
    · exact hI
  cases g2 : inR n 1 999
  · rw [g1] at w1; rw [g2] at w2
    refine ⟨s, ?_, ?_, FrLo.rf s⟩ <;> simp only [oDeed, nPe, g1, g2, Bool.false_eq_true, and_false, if_false, bad]
    · simp (disch := omega) only [e164_0, e164_1, e164_2, e164_5, e164_8, e164_9, e164_10, e164_11, e164_14, e164_17, e164_20, e164_22, e164_23, e164_24, e164_27, e164_28, e164_29, e164_30, e164_31, e164_34, e164_35, e164_38, e164_39, e164_40, e164_43, e164_44, e164_45, e164_46, ↓reduceIte, ↓gi0, ↓gr0, ↓gl0, ↓gi1, ↓gr1, ↓gl1, ↓gi2, ↓gr2, ↓gl2, ↓gi3, ↓gr3, ↓gl3, ↓gi4, ↓gr4, ↓gl4, ↓gi5, ↓gr5, ↓gl5, ↓gi6, ↓gr6, ↓gl6, ↓gi7, ↓gr7, ↓gl7, ↓gi8, ↓gr8, ↓gl8, ↓gi9, ↓gr9, ↓gl9, ↓qI, ↓qI2, ↓qL, ↓qL2, ↓qR, ↓qV, ↓pd0, ↓ta0, ↓ts0, ↓pd1, ↓ta1, ↓ts1, ↓pd2, ↓ta2, ↓ts2, ↓pd3, ↓ta3, ↓ts3, ↓pd4, ↓ta4, ↓ts4, ↓pd5, ↓ta5, ↓ts5, ↓pd6, ↓ta6, ↓ts6, lGet, lSet, okS, isLg, Bool.not_false, Bool.not_true, Bool.false_eq_true, not_false_eq_true, not_true_eq_false, catS, okR1, okR20, okR21, okR2b, List.length_cons, List.length_nil, List.drop_succ_cons, List.drop_zero, List.drop_nil, and_self, true_and, and_true, false_and, and_false, Nat.reduceAdd, Nat.reduceLeDiff, Nat.zero_add, Nat.le_refl, Nat.zero_le, pushR, reduceCtorEq, or_self, or_false, false_or, true_or, or_true, ltT, ltF, leT, leF, eqF, eqT, lt0F, ge0T, le0T, le0F, eq0T, eq0F, gt0T, gt0F, nI_add, nI_1, pk_mul, subT, sub1, divT, remN, natRem, n2, n3, n4, n5, n6, n7, n8, n9, n10, n12, n16, n22, n23, n24, n40, n48, n57, n60, n97, n99, n100, n119, n120, n238, n357, n999, n9999, n2231, Int32.add_zero, bI_t, bI_f, one_ne, K614, ↓G614_0, ↓G614_1, ↓G614_2, ↓U614_2, ↓G614_3, ↓G614_4, ↓U614_4, ↓G614_5, ↓U614_5, ↓G614_6, ↓U614_6, ↓G614_7, ↓G614_8, ↓G614_9, ↓G614_10, ↓G614_11, ↓U614_11, ↓G614_12, ↓U614_12, ↓G614_13, ↓U614_13, ↓G614_14, ↓U614_14, ↓G614_15, ↓G614_16, ↓U614_16, ↓G614_18, ↓U614_18, ↓G614_19, ↓bnd w1, ↓bnd w2]
    · exact hI
  rw [g1] at w1; rw [g2] at w2
  obtain ⟨j, hj, rfl⟩ := inB_of (by omega) g1
  have ej : (nI j).toNatClampNeg = j := nI_clamp (by omega)
  have hj6 : j < 6 := by omega
  have hst : hs = true := by
    cases hs with
    | true => rfl
    | false => have : N = 0 := hG.2.2.1 rfl; omega
  have hMS := qS hst
  have hkd : s.1 615 (4 + 3 * j) = nI (f j).1 := (hMS.2.2.2.2 j hj).1
  have hp : MP s 615 (23 + 16 * j) (f j) := hVV.2 j hj
  have hpo : pOk (f j) := hok.2.2.2 j hj
  have hsl : sumD (f j).2.2.2.2.2.2 < 2 ^ 23 := sumD_lt hp.2.2.2.2.1 (fun i hi => (hpo.2.2.1 i hi).1)
  obtain ⟨k, hk1, hk2, rfl⟩ := inR_of (by decide) (by decide) g2
  have ek : (nI k).toNatClampNeg = k := nI_clamp (by omega)
  obtain ⟨s1, a1, a2, a3, a4⟩ := m_keepPast (d + 4) (scr := scr) hP h6 hVV
  have hp1 : MP s1 615 (23 + 16 * j) (f j) := MP.ext2 hp (fun k x y => a4 _ _ (by omega) (by omega))
  have m1 : s1.1 615 22 = nI m := by rw [a4 _ _ (by omega) (by omega)]; exact q22
  have hkd1 : s1.1 615 (4 + 3 * j) = nI (f j).1 := by rw [a4 _ _ (by omega) (by omega)]; exact hkd
  obtain ⟨s2, b1, b2, b3⟩ := m_doDeed (d + 1) (scr := scr) (b := 0) (p := j) (w := k) hj6 hkd1 (by rw [Nat.zero_add]; exact hp1) hpo (by omega) (by omega)
  have b1' : EvM (d + 5) 158 [.ref 614, .int 0, .int (nI j), .int (nI k)] (mkH scr s1) = some (0, mkH scr s2) := b1
  rw [Nat.zero_add] at b2 b3
  have hat : EvM (d + 5) 153 [.int 0, .int (nI j)] (mkH scr s2) = some (nI (23 + 16 * j), mkH scr s2) := m_at (d + 4) 0 j
  have hin := hI.up hj6 a2 a4 b3 b2 rfl rfl rfl
  have ho := b2.1
  refine ⟨s2, ?_, ?_, hin.2⟩ <;> simp only [oDeed, nPe, pOf, ctyOf, g1, g2, and_self, if_true, ej, ek, cl]
  · simp (disch := omega) only [e164_0, e164_1, e164_2, e164_5, e164_8, e164_9, e164_10, e164_11, e164_14, e164_17, e164_20, e164_22, e164_23, e164_24, e164_27, e164_28, e164_29, e164_30, e164_31, e164_34, e164_35, e164_38, e164_39, e164_40, e164_43, e164_44, e164_45, e164_46, ↓reduceIte, ↓gi0, ↓gr0, ↓gl0, ↓gi1, ↓gr1, ↓gl1, ↓gi2, ↓gr2, ↓gl2, ↓gi3, ↓gr3, ↓gl3, ↓gi4, ↓gr4, ↓gl4, ↓gi5, ↓gr5, ↓gl5, ↓gi6, ↓gr6, ↓gl6, ↓gi7, ↓gr7, ↓gl7, ↓gi8, ↓gr8, ↓gl8, ↓gi9, ↓gr9, ↓gl9, ↓qI, ↓qI2, ↓qL, ↓qL2, ↓qR, ↓qV, ↓pd0, ↓ta0, ↓ts0, ↓pd1, ↓ta1, ↓ts1, ↓pd2, ↓ta2, ↓ts2, ↓pd3, ↓ta3, ↓ts3, ↓pd4, ↓ta4, ↓ts4, ↓pd5, ↓ta5, ↓ts5, ↓pd6, ↓ta6, ↓ts6, lGet, lSet, okS, isLg, Bool.not_false, Bool.not_true, Bool.false_eq_true, not_false_eq_true, not_true_eq_false, catS, okR1, okR20, okR21, okR2b, List.length_cons, List.length_nil, List.drop_succ_cons, List.drop_zero, List.drop_nil, and_self, true_and, and_true, false_and, and_false, Nat.reduceAdd, Nat.reduceLeDiff, Nat.zero_add, Nat.le_refl, Nat.zero_le, pushR, reduceCtorEq, or_self, or_false, false_or, true_or, or_true, ltT, ltF, leT, leF, eqF, eqT, lt0F, ge0T, le0T, le0F, eq0T, eq0F, gt0T, gt0F, nI_add, nI_1, pk_mul, subT, sub1, divT, remN, natRem, n2, n3, n4, n5, n6, n7, n8, n9, n10, n12, n16, n22, n23, n24, n40, n48, n57, n60, n97, n99, n100, n119, n120, n238, n357, n999, n9999, n2231, Int32.add_zero, bI_t, bI_f, one_ne, K614, ↓G614_0, ↓G614_1, ↓G614_2, ↓U614_2, ↓G614_3, ↓G614_4, ↓U614_4, ↓G614_5, ↓U614_5, ↓G614_6, ↓U614_6, ↓G614_7, ↓G614_8, ↓G614_9, ↓G614_10, ↓G614_11, ↓U614_11, ↓G614_12, ↓U614_12, ↓G614_13, ↓U614_13, ↓G614_14, ↓U614_14, ↓G614_15, ↓G614_16, ↓U614_16, ↓G614_18, ↓U614_18, ↓G614_19, ↓I615, ↓S615, ↓bnd w1, ↓bnd w2, ↓bnd a1, ↓bnd b1', ↓bnd hat, ho]
  · exact hin.1
theorem ms_pays (d : Nat) {A : AS} (hI : InvM s A) (hG : Gd A) (p n : Int32) : ∃ s', EvM (d + 5) 169 [.ref 614, .int p, .int n] (mkH scr s) = some ((oPays p n A).1, mkH scr s') ∧ InvM s' (oPays p n A).2 ∧ FrLo s s' := by
  obtain ⟨rw_, tp, fl, st, hs, ⟨t, w, m, N, f⟩, im, pa, tr⟩ := A
  obtain ⟨q0, q3, h6, qS, hVV⟩ : CTm s hs (t, w, m, N, f) := hI.2.2.2.2.1
  have q3 : s.1 615 3 = nI N := q3
  have h6 : N ≤ 6 := h6
  have q0 : s.1 615 0 = bI hs := q0
  have q22 : s.1 615 22 = nI m := hVV.1
  have hcg : cyGd 9999 (t, w, m, N, f) := hG.2.1.1
  have hm : m ≤ 999 := hG.2.1.2.2
  have hok : cyOk (t, w, m, N, f) := hcg.ok (by decide) (by show m < 2 ^ 20; omega)
  have hP : PAm s pa := hI.2.2.2.2.2.2.1
  have w1 := m_isOne (d + 2) (scr := scr) p q3 h6
  have w2 : EvM (d + 4) 131 [.long n.toInt64, .long (Int32.toInt64 1), .long (nI 999).toInt64] (mkH scr s) = some (bI (inR n 1 999), mkH scr s) := m_inN (d + 3) n 1 999
  rw [ev169, e169_0]
  cases g1 : inB p N
  · rw [g1] at w1
    refine ⟨s, ?_, ?_, FrLo.rf s⟩ <;> simp only [oPays, nPe, g1, Bool.false_eq_true, false_and, if_false, bad]
    · simp (disch := omega) only [e169_0, e169_1, e169_2, e169_5, e169_8, e169_9, e169_10, e169_11, e169_14, e169_17, e169_20, e169_22, e169_23, e169_24, e169_25, e169_26, e169_29, e169_30, e169_33, e169_34, e169_37, e169_38, e169_39, e169_42, e169_43, e169_44, e169_45, e169_46, e169_49, e169_51, e169_52, e169_53, e169_56, e169_57, e169_58, e169_59, e169_60, e169_63, e169_64, e169_67, e169_68, e169_69, e169_72, e169_73, e169_74, e169_75, e169_76, e169_77, e169_78, e169_79, e169_80, e169_83, e169_84, e169_85, e169_88, e169_89, e169_90, e169_91, ↓reduceIte, ↓gi0, ↓gr0, ↓gl0, ↓gi1, ↓gr1, ↓gl1, ↓gi2, ↓gr2, ↓gl2, ↓gi3, ↓gr3, ↓gl3, ↓gi4, ↓gr4, ↓gl4, ↓gi5, ↓gr5, ↓gl5, ↓gi6, ↓gr6, ↓gl6, ↓gi7, ↓gr7, ↓gl7, ↓gi8, ↓gr8, ↓gl8, ↓gi9, ↓gr9, ↓gl9, ↓qI, ↓qI2, ↓qL, ↓qL2, ↓qR, ↓qV, ↓pd0, ↓ta0, ↓ts0, ↓pd1, ↓ta1, ↓ts1, ↓pd2, ↓ta2, ↓ts2, ↓pd3, ↓ta3, ↓ts3, ↓pd4, ↓ta4, ↓ts4, ↓pd5, ↓ta5, ↓ts5, ↓pd6, ↓ta6, ↓ts6, lGet, lSet, okS, isLg, Bool.not_false, Bool.not_true, Bool.false_eq_true, not_false_eq_true, not_true_eq_false, catS, okR1, okR20, okR21, okR2b, List.length_cons, List.length_nil, List.drop_succ_cons, List.drop_zero, List.drop_nil, and_self, true_and, and_true, false_and, and_false, Nat.reduceAdd, Nat.reduceLeDiff, Nat.zero_add, Nat.le_refl, Nat.zero_le, pushR, reduceCtorEq, or_self, or_false, false_or, true_or, or_true, ltT, ltF, leT, leF, eqF, eqT, lt0F, ge0T, le0T, le0F, eq0T, eq0F, gt0T, gt0F, nI_add, nI_1, pk_mul, subT, sub1, divT, remN, natRem, n2, n3, n4, n5, n6, n7, n8, n9, n10, n12, n16, n22, n23, n24, n40, n48, n57, n60, n97, n99, n100, n119, n120, n238, n357, n999, n9999, n2231, Int32.add_zero, bI_t, bI_f, one_ne, K614, ↓G614_0, ↓G614_1, ↓G614_2, ↓U614_2, ↓G614_3, ↓G614_4, ↓U614_4, ↓G614_5, ↓U614_5, ↓G614_6, ↓U614_6, ↓G614_7, ↓G614_8, ↓G614_9, ↓G614_10, ↓G614_11, ↓U614_11, ↓G614_12, ↓U614_12, ↓G614_13, ↓U614_13, ↓G614_14, ↓U614_14, ↓G614_15, ↓G614_16, ↓U614_16, ↓G614_18, ↓U614_18, ↓G614_19, ↓bnd w1]
    · exact hI
  cases g2 : inR n 1 999
  · rw [g1] at w1; rw [g2] at w2
    refine ⟨s, ?_, ?_, FrLo.rf s⟩ <;> simp only [oPays, nPe, g1, g2, Bool.false_eq_true, and_false, if_false, bad]
    · simp (disch := omega) only [e169_0, e169_1, e169_2, e169_5, e169_8, e169_9, e169_10, e169_11, e169_14, e169_17, e169_20, e169_22, e169_23, e169_24, e169_25, e169_26, e169_29, e169_30, e169_33, e169_34, e169_37, e169_38, e169_39, e169_42, e169_43, e169_44, e169_45, e169_46, e169_49, e169_51, e169_52, e169_53, e169_56, e169_57, e169_58, e169_59, e169_60, e169_63, e169_64, e169_67, e169_68, e169_69, e169_72, e169_73, e169_74, e169_75, e169_76, e169_77, e169_78, e169_79, e169_80, e169_83, e169_84, e169_85, e169_88, e169_89, e169_90, e169_91, ↓reduceIte, ↓gi0, ↓gr0, ↓gl0, ↓gi1, ↓gr1, ↓gl1, ↓gi2, ↓gr2, ↓gl2, ↓gi3, ↓gr3, ↓gl3, ↓gi4, ↓gr4, ↓gl4, ↓gi5, ↓gr5, ↓gl5, ↓gi6, ↓gr6, ↓gl6, ↓gi7, ↓gr7, ↓gl7, ↓gi8, ↓gr8, ↓gl8, ↓gi9, ↓gr9, ↓gl9, ↓qI, ↓qI2, ↓qL, ↓qL2, ↓qR, ↓qV, ↓pd0, ↓ta0, ↓ts0, ↓pd1, ↓ta1, ↓ts1, ↓pd2, ↓ta2, ↓ts2, ↓pd3, ↓ta3, ↓ts3, ↓pd4, ↓ta4, ↓ts4, ↓pd5, ↓ta5, ↓ts5, ↓pd6, ↓ta6, ↓ts6, lGet, lSet, okS, isLg, Bool.not_false, Bool.not_true, Bool.false_eq_true, not_false_eq_true, not_true_eq_false, catS, okR1, okR20, okR21, okR2b, List.length_cons, List.length_nil, List.drop_succ_cons, List.drop_zero, List.drop_nil, and_self, true_and, and_true, false_and, and_false, Nat.reduceAdd, Nat.reduceLeDiff, Nat.zero_add, Nat.le_refl, Nat.zero_le, pushR, reduceCtorEq, or_self, or_false, false_or, true_or, or_true, ltT, ltF, leT, leF, eqF, eqT, lt0F, ge0T, le0T, le0F, eq0T, eq0F, gt0T, gt0F, nI_add, nI_1, pk_mul, subT, sub1, divT, remN, natRem, n2, n3, n4, n5, n6, n7, n8, n9, n10, n12, n16, n22, n23, n24, n40, n48, n57, n60, n97, n99, n100, n119, n120, n238, n357, n999, n9999, n2231, Int32.add_zero, bI_t, bI_f, one_ne, K614, ↓G614_0, ↓G614_1, ↓G614_2, ↓U614_2, ↓G614_3, ↓G614_4, ↓U614_4, ↓G614_5, ↓U614_5, ↓G614_6, ↓U614_6, ↓G614_7, ↓G614_8, ↓G614_9, ↓G614_10, ↓G614_11, ↓U614_11, ↓G614_12, ↓U614_12, ↓G614_13, ↓U614_13, ↓G614_14, ↓U614_14, ↓G614_15, ↓G614_16, ↓U614_16, ↓G614_18, ↓U614_18, ↓G614_19, ↓bnd w1, ↓bnd w2]
    · exact hI
  rw [g1] at w1; rw [g2] at w2
  obtain ⟨j, hj, rfl⟩ := inB_of (by omega) g1
  have ej : (nI j).toNatClampNeg = j := nI_clamp (by omega)
  have hj6 : j < 6 := by omega
  have hst : hs = true := by
    cases hs with
    | true => rfl
    | false => have : N = 0 := hG.2.2.1 rfl; omega
  have hMS := qS hst
  have hkd : s.1 615 (4 + 3 * j) = nI (f j).1 := (hMS.2.2.2.2 j hj).1
  have hp : MP s 615 (23 + 16 * j) (f j) := hVV.2 j hj
  have hpo : pOk (f j) := hok.2.2.2 j hj
  have hsl : sumD (f j).2.2.2.2.2.2 < 2 ^ 23 := sumD_lt hp.2.2.2.2.1 (fun i hi => (hpo.2.2.1 i hi).1)
  obtain ⟨k, hk1, hk2, rfl⟩ := inR_of (by decide) (by decide) g2
  have ek : (nI k).toNatClampNeg = k := nI_clamp (by omega)
  have hu : EvM (d + 4) 154 [.ref 614, .int 0, .int (nI j)] (mkH scr s) = some (nI (sumD (f j).2.2.2.2.2.2), mkH scr s) := m_unspent (d + 2) (b := 0) (p := j) hp.2.2.2 (by omega)
  have hat : ∀ x : ST, EvM (d + 4) 153 [.int 0, .int (nI j)] (mkH scr x) = some (nI (23 + 16 * j), mkH scr x) := fun x => m_at (d + 3) 0 j
  have hat0 := hat s
  have how := hp.1
  have h99 := hpo.2.1
  by_cases g3 : k ≤ sumD (f j).2.2.2.2.2.2
  case neg =>
    refine ⟨s, ?_, ?_, FrLo.rf s⟩ <;> simp only [oPays, nPe, pOf, ctyOf, lotsP, g1, g2, and_self, if_true, ej, ek, g3, cl, false_and, if_false]
    · simp (disch := omega) only [e169_0, e169_1, e169_2, e169_5, e169_8, e169_9, e169_10, e169_11, e169_14, e169_17, e169_20, e169_22, e169_23, e169_24, e169_25, e169_26, e169_29, e169_30, e169_33, e169_34, e169_37, e169_38, e169_39, e169_42, e169_43, e169_44, e169_45, e169_46, e169_49, e169_51, e169_52, e169_53, e169_56, e169_57, e169_58, e169_59, e169_60, e169_63, e169_64, e169_67, e169_68, e169_69, e169_72, e169_73, e169_74, e169_75, e169_76, e169_77, e169_78, e169_79, e169_80, e169_83, e169_84, e169_85, e169_88, e169_89, e169_90, e169_91, ↓reduceIte, ↓gi0, ↓gr0, ↓gl0, ↓gi1, ↓gr1, ↓gl1, ↓gi2, ↓gr2, ↓gl2, ↓gi3, ↓gr3, ↓gl3, ↓gi4, ↓gr4, ↓gl4, ↓gi5, ↓gr5, ↓gl5, ↓gi6, ↓gr6, ↓gl6, ↓gi7, ↓gr7, ↓gl7, ↓gi8, ↓gr8, ↓gl8, ↓gi9, ↓gr9, ↓gl9, ↓qI, ↓qI2, ↓qL, ↓qL2, ↓qR, ↓qV, ↓pd0, ↓ta0, ↓ts0, ↓pd1, ↓ta1, ↓ts1, ↓pd2, ↓ta2, ↓ts2, ↓pd3, ↓ta3, ↓ts3, ↓pd4, ↓ta4, ↓ts4, ↓pd5, ↓ta5, ↓ts5, ↓pd6, ↓ta6, ↓ts6, lGet, lSet, okS, isLg, Bool.not_false, Bool.not_true, Bool.false_eq_true, not_false_eq_true, not_true_eq_false, catS, okR1, okR20, okR21, okR2b, List.length_cons, List.length_nil, List.drop_succ_cons, List.drop_zero, List.drop_nil, and_self, true_and, and_true, false_and, and_false, Nat.reduceAdd, Nat.reduceLeDiff, Nat.zero_add, Nat.le_refl, Nat.zero_le, pushR, reduceCtorEq, or_self, or_false, false_or, true_or, or_true, ltT, ltF, leT, leF, eqF, eqT, lt0F, ge0T, le0T, le0F, eq0T, eq0F, gt0T, gt0F, nI_add, nI_1, pk_mul, subT, sub1, divT, remN, natRem, n2, n3, n4, n5, n6, n7, n8, n9, n10, n12, n16, n22, n23, n24, n40, n48, n57, n60, n97, n99, n100, n119, n120, n238, n357, n999, n9999, n2231, Int32.add_zero, bI_t, bI_f, one_ne, K614, ↓G614_0, ↓G614_1, ↓G614_2, ↓U614_2, ↓G614_3, ↓G614_4, ↓U614_4, ↓G614_5, ↓U614_5, ↓G614_6, ↓U614_6, ↓G614_7, ↓G614_8, ↓G614_9, ↓G614_10, ↓G614_11, ↓U614_11, ↓G614_12, ↓U614_12, ↓G614_13, ↓U614_13, ↓G614_14, ↓U614_14, ↓G614_15, ↓G614_16, ↓U614_16, ↓G614_18, ↓U614_18, ↓G614_19, ↓I615, ↓S615, ↓bnd w1, ↓bnd w2, ↓bnd hu]
    · exact hI
  by_cases g4 : k ≤ (f j).2.2.2.2.1
  case neg =>
    refine ⟨s, ?_, ?_, FrLo.rf s⟩ <;> simp only [oPays, nPe, pOf, ctyOf, lotsP, g1, g2, and_self, if_true, ej, ek, g3, g4, cl, and_false, if_false]
    · simp (disch := omega) only [e169_0, e169_1, e169_2, e169_5, e169_8, e169_9, e169_10, e169_11, e169_14, e169_17, e169_20, e169_22, e169_23, e169_24, e169_25, e169_26, e169_29, e169_30, e169_33, e169_34, e169_37, e169_38, e169_39, e169_42, e169_43, e169_44, e169_45, e169_46, e169_49, e169_51, e169_52, e169_53, e169_56, e169_57, e169_58, e169_59, e169_60, e169_63, e169_64, e169_67, e169_68, e169_69, e169_72, e169_73, e169_74, e169_75, e169_76, e169_77, e169_78, e169_79, e169_80, e169_83, e169_84, e169_85, e169_88, e169_89, e169_90, e169_91, ↓reduceIte, ↓gi0, ↓gr0, ↓gl0, ↓gi1, ↓gr1, ↓gl1, ↓gi2, ↓gr2, ↓gl2, ↓gi3, ↓gr3, ↓gl3, ↓gi4, ↓gr4, ↓gl4, ↓gi5, ↓gr5, ↓gl5, ↓gi6, ↓gr6, ↓gl6, ↓gi7, ↓gr7, ↓gl7, ↓gi8, ↓gr8, ↓gl8, ↓gi9, ↓gr9, ↓gl9, ↓qI, ↓qI2, ↓qL, ↓qL2, ↓qR, ↓qV, ↓pd0, ↓ta0, ↓ts0, ↓pd1, ↓ta1, ↓ts1, ↓pd2, ↓ta2, ↓ts2, ↓pd3, ↓ta3, ↓ts3, ↓pd4, ↓ta4, ↓ts4, ↓pd5, ↓ta5, ↓ts5, ↓pd6, ↓ta6, ↓ts6, lGet, lSet, okS, isLg, Bool.not_false, Bool.not_true, Bool.false_eq_true, not_false_eq_true, not_true_eq_false, catS, okR1, okR20, okR21, okR2b, List.length_cons, List.length_nil, List.drop_succ_cons, List.drop_zero, List.drop_nil, and_self, true_and, and_true, false_and, and_false, Nat.reduceAdd, Nat.reduceLeDiff, Nat.zero_add, Nat.le_refl, Nat.zero_le, pushR, reduceCtorEq, or_self, or_false, false_or, true_or, or_true, ltT, ltF, leT, leF, eqF, eqT, lt0F, ge0T, le0T, le0F, eq0T, eq0F, gt0T, gt0F, nI_add, nI_1, pk_mul, subT, sub1, divT, remN, natRem, n2, n3, n4, n5, n6, n7, n8, n9, n10, n12, n16, n22, n23, n24, n40, n48, n57, n60, n97, n99, n100, n119, n120, n238, n357, n999, n9999, n2231, Int32.add_zero, bI_t, bI_f, one_ne, K614, ↓G614_0, ↓G614_1, ↓G614_2, ↓U614_2, ↓G614_3, ↓G614_4, ↓U614_4, ↓G614_5, ↓U614_5, ↓G614_6, ↓U614_6, ↓G614_7, ↓G614_8, ↓G614_9, ↓G614_10, ↓G614_11, ↓U614_11, ↓G614_12, ↓U614_12, ↓G614_13, ↓U614_13, ↓G614_14, ↓U614_14, ↓G614_15, ↓G614_16, ↓U614_16, ↓G614_18, ↓U614_18, ↓G614_19, ↓I615, ↓S615, ↓bnd w1, ↓bnd w2, ↓bnd hu, ↓bnd hat0, how]
    · exact hI
  obtain ⟨s1, a1, a2, a3, a4⟩ := m_keepPast (d + 3) (scr := scr) hP h6 hVV
  have hp1 : MP s1 615 (23 + 16 * j) (f j) := MP.ext2 hp (fun k x y => a4 _ _ (by omega) (by omega))
  have m1 : s1.1 615 22 = nI m := by rw [a4 _ _ (by omega) (by omega)]; exact q22
  have hkd1 : s1.1 615 (4 + 3 * j) = nI (f j).1 := by rw [a4 _ _ (by omega) (by omega)]; exact hkd
  obtain ⟨s2, b1, b2, b3⟩ := m_spend (d + 1) (scr := scr) (b := 0) (p := j) (n := k) hj6 hkd1 hpo.1 hp1.2.2.2 (by omega) (fun i hi => by have := (hpo.2.2.1 i hi).1; omega) (by omega)
  have b1' : EvM (d + 4) 157 [.ref 614, .int 0, .int (nI j), .int (nI k)] (mkH scr s1) = some (0, mkH scr s2) := b1
  rw [Nat.zero_add] at b2 b3
  have hp2 := MP.lots (k := (f j).1) (le := (f j).2.1) (w := (f j).2.2.1) (ca := (f j).2.2.2.1) (ow := (f j).2.2.2.2.1) (dn := (f j).2.2.2.2.2.1) hp1 b3 b2
  have how2 : s2.1 615 (23 + 16 * j) = nI (f j).2.2.2.2.1 := hp2.1
  have hat2 := hat s2
  have hat3 := hat (u2 s2 615 (23 + 16 * j) (nI ((f j).2.2.2.2.1 - k)))
  have hp3 : MP (u2 s2 615 (23 + 16 * j) (nI ((f j).2.2.2.2.1 - k))) 615 (23 + 16 * j) (pOwe (pLots (f j) (spend (isOfB (f j).1 4) k (f j).2.2.2.2.2.2).1) ((f j).2.2.2.2.1 - k)) := ⟨u2_same _ _ _ _, by rw [u2_oth _ _ (by omega)]; exact hp2.2.1, by rw [u2_oth _ _ (by omega)]; exact hp2.2.2.1, ML.ext hp2.2.2.2 (fun i g3 hi => u2_oth _ _ (by omega))⟩
  have hin := hI.up hj6 a2 a4 ((b3.w (by omega) (by omega)).tr (FrA.u (by omega) (by omega))) hp3 rfl rfl rfl
  refine ⟨_, ?_, ?_, hin.2⟩ <;> simp only [oPays, nPe, pOf, ctyOf, lotsP, g1, g2, g3, g4, and_self, if_true, ej, ek, cl]
  · simp (disch := omega) only [e169_0, e169_1, e169_2, e169_5, e169_8, e169_9, e169_10, e169_11, e169_14, e169_17, e169_20, e169_22, e169_23, e169_24, e169_25, e169_26, e169_29, e169_30, e169_33, e169_34, e169_37, e169_38, e169_39, e169_42, e169_43, e169_44, e169_45, e169_46, e169_49, e169_51, e169_52, e169_53, e169_56, e169_57, e169_58, e169_59, e169_60, e169_63, e169_64, e169_67, e169_68, e169_69, e169_72, e169_73, e169_74, e169_75, e169_76, e169_77, e169_78, e169_79, e169_80, e169_83, e169_84, e169_85, e169_88, e169_89, e169_90, e169_91, ↓reduceIte, ↓gi0, ↓gr0, ↓gl0, ↓gi1, ↓gr1, ↓gl1, ↓gi2, ↓gr2, ↓gl2, ↓gi3, ↓gr3, ↓gl3, ↓gi4, ↓gr4, ↓gl4, ↓gi5, ↓gr5, ↓gl5, ↓gi6, ↓gr6, ↓gl6, ↓gi7, ↓gr7, ↓gl7, ↓gi8, ↓gr8, ↓gl8, ↓gi9, ↓gr9, ↓gl9, ↓qI, ↓qI2, ↓qL, ↓qL2, ↓qR, ↓qV, ↓pd0, ↓ta0, ↓ts0, ↓pd1, ↓ta1, ↓ts1, ↓pd2, ↓ta2, ↓ts2, ↓pd3, ↓ta3, ↓ts3, ↓pd4, ↓ta4, ↓ts4, ↓pd5, ↓ta5, ↓ts5, ↓pd6, ↓ta6, ↓ts6, lGet, lSet, okS, isLg, Bool.not_false, Bool.not_true, Bool.false_eq_true, not_false_eq_true, not_true_eq_false, catS, okR1, okR20, okR21, okR2b, List.length_cons, List.length_nil, List.drop_succ_cons, List.drop_zero, List.drop_nil, and_self, true_and, and_true, false_and, and_false, Nat.reduceAdd, Nat.reduceLeDiff, Nat.zero_add, Nat.le_refl, Nat.zero_le, pushR, reduceCtorEq, or_self, or_false, false_or, true_or, or_true, ltT, ltF, leT, leF, eqF, eqT, lt0F, ge0T, le0T, le0F, eq0T, eq0F, gt0T, gt0F, nI_add, nI_1, pk_mul, subT, sub1, divT, remN, natRem, n2, n3, n4, n5, n6, n7, n8, n9, n10, n12, n16, n22, n23, n24, n40, n48, n57, n60, n97, n99, n100, n119, n120, n238, n357, n999, n9999, n2231, Int32.add_zero, bI_t, bI_f, one_ne, K614, ↓G614_0, ↓G614_1, ↓G614_2, ↓U614_2, ↓G614_3, ↓G614_4, ↓U614_4, ↓G614_5, ↓U614_5, ↓G614_6, ↓U614_6, ↓G614_7, ↓G614_8, ↓G614_9, ↓G614_10, ↓G614_11, ↓U614_11, ↓G614_12, ↓U614_12, ↓G614_13, ↓U614_13, ↓G614_14, ↓U614_14, ↓G614_15, ↓G614_16, ↓U614_16, ↓G614_18, ↓U614_18, ↓G614_19, ↓I615, ↓S615, ↓bnd w1, ↓bnd w2, ↓bnd hu, how, ↓bnd a1, ↓bnd b1', ↓bnd hat0, ↓bnd hat2, ↓bnd hat3, how2, u2_same]
  · exact hin.1
theorem ms_pardon (d : Nat) {A : AS} (hI : InvM s A) (hG : Gd A) (p : Int32) : ∃ s', EvM (d + 4) 171 [.ref 614, .int p] (mkH scr s) = some ((oPardon p A).1, mkH scr s') ∧ InvM s' (oPardon p A).2 ∧ FrLo s s' := by
  obtain ⟨rw_, tp, fl, st, hs, ⟨t, w, m, N, f⟩, im, pa, tr⟩ := A
  obtain ⟨q0, q3, h6, qS, hVV⟩ : CTm s hs (t, w, m, N, f) := hI.2.2.2.2.1
  have q3 : s.1 615 3 = nI N := q3
  have h6 : N ≤ 6 := h6
  have q0 : s.1 615 0 = bI hs := q0
  have q22 : s.1 615 22 = nI m := hVV.1
  have hcg : cyGd 9999 (t, w, m, N, f) := hG.2.1.1
  have hm : m ≤ 999 := hG.2.1.2.2
  have hok : cyOk (t, w, m, N, f) := hcg.ok (by decide) (by show m < 2 ^ 20; omega)
  have hP : PAm s pa := hI.2.2.2.2.2.2.1
  have w1 := m_isOne (d + 1) (scr := scr) p q3 h6
  rw [ev171, e171_0]
  cases g1 : inB p N
  · rw [g1] at w1
    refine ⟨s, ?_, ?_, FrLo.rf s⟩ <;> simp only [oPardon, nPe, g1, Bool.false_eq_true, if_false, bad]
    · simp (disch := omega) only [e171_0, e171_1, e171_2, e171_5, e171_8, e171_10, e171_11, e171_12, e171_15, e171_16, e171_19, e171_20, e171_21, e171_24, e171_25, e171_26, e171_27, e171_28, e171_29, e171_32, e171_33, e171_34, e171_37, e171_38, e171_39, e171_40, e171_41, e171_42, ↓reduceIte, ↓gi0, ↓gr0, ↓gl0, ↓gi1, ↓gr1, ↓gl1, ↓gi2, ↓gr2, ↓gl2, ↓gi3, ↓gr3, ↓gl3, ↓gi4, ↓gr4, ↓gl4, ↓gi5, ↓gr5, ↓gl5, ↓gi6, ↓gr6, ↓gl6, ↓gi7, ↓gr7, ↓gl7, ↓gi8, ↓gr8, ↓gl8, ↓gi9, ↓gr9, ↓gl9, ↓qI, ↓qI2, ↓qL, ↓qL2, ↓qR, ↓qV, ↓pd0, ↓ta0, ↓ts0, ↓pd1, ↓ta1, ↓ts1, ↓pd2, ↓ta2, ↓ts2, ↓pd3, ↓ta3, ↓ts3, ↓pd4, ↓ta4, ↓ts4, ↓pd5, ↓ta5, ↓ts5, ↓pd6, ↓ta6, ↓ts6, lGet, lSet, okS, isLg, Bool.not_false, Bool.not_true, Bool.false_eq_true, not_false_eq_true, not_true_eq_false, catS, okR1, okR20, okR21, okR2b, List.length_cons, List.length_nil, List.drop_succ_cons, List.drop_zero, List.drop_nil, and_self, true_and, and_true, false_and, and_false, Nat.reduceAdd, Nat.reduceLeDiff, Nat.zero_add, Nat.le_refl, Nat.zero_le, pushR, reduceCtorEq, or_self, or_false, false_or, true_or, or_true, ltT, ltF, leT, leF, eqF, eqT, lt0F, ge0T, le0T, le0F, eq0T, eq0F, gt0T, gt0F, nI_add, nI_1, pk_mul, subT, sub1, divT, remN, natRem, n2, n3, n4, n5, n6, n7, n8, n9, n10, n12, n16, n22, n23, n24, n40, n48, n57, n60, n97, n99, n100, n119, n120, n238, n357, n999, n9999, n2231, Int32.add_zero, bI_t, bI_f, one_ne, K614, ↓G614_0, ↓G614_1, ↓G614_2, ↓U614_2, ↓G614_3, ↓G614_4, ↓U614_4, ↓G614_5, ↓U614_5, ↓G614_6, ↓U614_6, ↓G614_7, ↓G614_8, ↓G614_9, ↓G614_10, ↓G614_11, ↓U614_11, ↓G614_12, ↓U614_12, ↓G614_13, ↓U614_13, ↓G614_14, ↓U614_14, ↓G614_15, ↓G614_16, ↓U614_16, ↓G614_18, ↓U614_18, ↓G614_19, ↓bnd w1]
    · exact hI
  rw [g1] at w1
  obtain ⟨j, hj, rfl⟩ := inB_of (by omega) g1
  have ej : (nI j).toNatClampNeg = j := nI_clamp (by omega)
  have hj6 : j < 6 := by omega
  have hst : hs = true := by
    cases hs with
    | true => rfl
    | false => have : N = 0 := hG.2.2.1 rfl; omega
  have hMS := qS hst
  have hkd : s.1 615 (4 + 3 * j) = nI (f j).1 := (hMS.2.2.2.2 j hj).1
  have hp : MP s 615 (23 + 16 * j) (f j) := hVV.2 j hj
  have hpo : pOk (f j) := hok.2.2.2 j hj
  have hsl : sumD (f j).2.2.2.2.2.2 < 2 ^ 23 := sumD_lt hp.2.2.2.2.1 (fun i hi => (hpo.2.2.1 i hi).1)
  obtain ⟨s1, a1, a2, a3, a4⟩ := m_keepPast (d + 2) (scr := scr) hP h6 hVV
  have hp1 : MP s1 615 (23 + 16 * j) (f j) := MP.ext2 hp (fun k x y => a4 _ _ (by omega) (by omega))
  have m1 : s1.1 615 22 = nI m := by rw [a4 _ _ (by omega) (by omega)]; exact q22
  have hkd1 : s1.1 615 (4 + 3 * j) = nI (f j).1 := by rw [a4 _ _ (by omega) (by omega)]; exact hkd
  have hat1 : EvM (d + 3) 153 [.int 0, .int (nI j)] (mkH scr s1) = some (nI (23 + 16 * j), mkH scr s1) := m_at (d + 2) 0 j
  have how1 := hp1.1
  have hp3 : MP (u2 s1 615 (23 + 16 * j) 0) 615 (23 + 16 * j) (pOwe (f j) 0) := ⟨u2_same _ _ _ _, by rw [u2_oth _ _ (by omega)]; exact hp1.2.1, by rw [u2_oth _ _ (by omega)]; exact hp1.2.2.1, ML.ext hp1.2.2.2 (fun i g3 hi => u2_oth _ _ (by omega))⟩
  have hin := hI.up hj6 a2 a4 (FrA.u (by omega) (by omega)) hp3 rfl rfl rfl
  refine ⟨_, ?_, ?_, hin.2⟩ <;> simp only [oPardon, nPe, pOf, ctyOf, g1, if_true, ej, cl]
  · simp (disch := omega) only [e171_0, e171_1, e171_2, e171_5, e171_8, e171_10, e171_11, e171_12, e171_15, e171_16, e171_19, e171_20, e171_21, e171_24, e171_25, e171_26, e171_27, e171_28, e171_29, e171_32, e171_33, e171_34, e171_37, e171_38, e171_39, e171_40, e171_41, e171_42, ↓reduceIte, ↓gi0, ↓gr0, ↓gl0, ↓gi1, ↓gr1, ↓gl1, ↓gi2, ↓gr2, ↓gl2, ↓gi3, ↓gr3, ↓gl3, ↓gi4, ↓gr4, ↓gl4, ↓gi5, ↓gr5, ↓gl5, ↓gi6, ↓gr6, ↓gl6, ↓gi7, ↓gr7, ↓gl7, ↓gi8, ↓gr8, ↓gl8, ↓gi9, ↓gr9, ↓gl9, ↓qI, ↓qI2, ↓qL, ↓qL2, ↓qR, ↓qV, ↓pd0, ↓ta0, ↓ts0, ↓pd1, ↓ta1, ↓ts1, ↓pd2, ↓ta2, ↓ts2, ↓pd3, ↓ta3, ↓ts3, ↓pd4, ↓ta4, ↓ts4, ↓pd5, ↓ta5, ↓ts5, ↓pd6, ↓ta6, ↓ts6, lGet, lSet, okS, isLg, Bool.not_false, Bool.not_true, Bool.false_eq_true, not_false_eq_true, not_true_eq_false, catS, okR1, okR20, okR21, okR2b, List.length_cons, List.length_nil, List.drop_succ_cons, List.drop_zero, List.drop_nil, and_self, true_and, and_true, false_and, and_false, Nat.reduceAdd, Nat.reduceLeDiff, Nat.zero_add, Nat.le_refl, Nat.zero_le, pushR, reduceCtorEq, or_self, or_false, false_or, true_or, or_true, ltT, ltF, leT, leF, eqF, eqT, lt0F, ge0T, le0T, le0F, eq0T, eq0F, gt0T, gt0F, nI_add, nI_1, pk_mul, subT, sub1, divT, remN, natRem, n2, n3, n4, n5, n6, n7, n8, n9, n10, n12, n16, n22, n23, n24, n40, n48, n57, n60, n97, n99, n100, n119, n120, n238, n357, n999, n9999, n2231, Int32.add_zero, bI_t, bI_f, one_ne, K614, ↓G614_0, ↓G614_1, ↓G614_2, ↓U614_2, ↓G614_3, ↓G614_4, ↓U614_4, ↓G614_5, ↓U614_5, ↓G614_6, ↓U614_6, ↓G614_7, ↓G614_8, ↓G614_9, ↓G614_10, ↓G614_11, ↓U614_11, ↓G614_12, ↓U614_12, ↓G614_13, ↓U614_13, ↓G614_14, ↓U614_14, ↓G614_15, ↓G614_16, ↓U614_16, ↓G614_18, ↓U614_18, ↓G614_19, ↓I615, ↓S615, ↓bnd w1, ↓bnd a1, ↓bnd hat1, how1]
  · exact hin.1
theorem ms_undo (d : Nat) {A : AS} (hI : InvM s A) (hG : Gd A) : ∃ s', EvM (d + 1) 162 [.ref 614] (mkH scr s) = some ((oUndo A).1, mkH scr s') ∧ InvM s' (oUndo A).2 ∧ FrLo s s' := by
  obtain ⟨rw_, tp, fl, st, hs, ⟨t, w, m, N, f⟩, im, pa, tr⟩ := A
  obtain ⟨q0, q3, h6, qS, hVV⟩ : CTm s hs (t, w, m, N, f) := hI.2.2.2.2.1
  have q3 : s.1 615 3 = nI N := q3
  have h6 : N ≤ 6 := h6
  have q0 : s.1 615 0 = bI hs := q0
  have q22 : s.1 615 22 = nI m := hVV.1
  have hcg : cyGd 9999 (t, w, m, N, f) := hG.2.1.1
  have hm : m ≤ 999 := hG.2.1.2.2
  have hok : cyOk (t, w, m, N, f) := hcg.ok (by decide) (by show m < 2 ^ 20; omega)
  have hP : PAm s pa := hI.2.2.2.2.2.2.1
  obtain ⟨p1, p2, p3⟩ := hP
  rw [ev162, e162_0]
  rcases List.eq_nil_or_concat pa with rfl | ⟨l, c', rfl⟩
  · refine ⟨s, ?_, ?_, FrLo.rf s⟩ <;> simp only [oUndo, List.getLast?_nil]
    · simp only [List.length_nil] at p1
      simp (disch := omega) only [e162_0, e162_1, e162_4, e162_7, e162_9, e162_10, e162_11, e162_12, e162_15, e162_16, e162_17, e162_20, e162_21, e162_22, e162_23, e162_25, e162_28, e162_29, e162_32, e162_34, e162_35, e162_36, e162_37, e162_40, e162_42, e162_43, e162_46, e162_47, e162_48, e162_49, e162_50, e162_51, e162_54, e162_57, e162_58, e162_61, ↓reduceIte, ↓gi0, ↓gr0, ↓gl0, ↓gi1, ↓gr1, ↓gl1, ↓gi2, ↓gr2, ↓gl2, ↓gi3, ↓gr3, ↓gl3, ↓gi4, ↓gr4, ↓gl4, ↓gi5, ↓gr5, ↓gl5, ↓gi6, ↓gr6, ↓gl6, ↓gi7, ↓gr7, ↓gl7, ↓gi8, ↓gr8, ↓gl8, ↓gi9, ↓gr9, ↓gl9, ↓qI, ↓qI2, ↓qL, ↓qL2, ↓qR, ↓qV, ↓pd0, ↓ta0, ↓ts0, ↓pd1, ↓ta1, ↓ts1, ↓pd2, ↓ta2, ↓ts2, ↓pd3, ↓ta3, ↓ts3, ↓pd4, ↓ta4, ↓ts4, ↓pd5, ↓ta5, ↓ts5, ↓pd6, ↓ta6, ↓ts6, lGet, lSet, okS, isLg, Bool.not_false, Bool.not_true, Bool.false_eq_true, not_false_eq_true, not_true_eq_false, catS, okR1, okR20, okR21, okR2b, List.length_cons, List.length_nil, List.drop_succ_cons, List.drop_zero, List.drop_nil, and_self, true_and, and_true, false_and, and_false, Nat.reduceAdd, Nat.reduceLeDiff, Nat.zero_add, Nat.le_refl, Nat.zero_le, pushR, reduceCtorEq, or_self, or_false, false_or, true_or, or_true, ltT, ltF, leT, leF, eqF, eqT, lt0F, ge0T, le0T, le0F, eq0T, eq0F, gt0T, gt0F, nI_add, nI_1, pk_mul, subT, sub1, divT, remN, natRem, n2, n3, n4, n5, n6, n7, n8, n9, n10, n12, n16, n22, n23, n24, n40, n48, n57, n60, n97, n99, n100, n119, n120, n238, n357, n999, n9999, n2231, Int32.add_zero, bI_t, bI_f, one_ne, K614, ↓G614_0, ↓G614_1, ↓G614_2, ↓U614_2, ↓G614_3, ↓G614_4, ↓U614_4, ↓G614_5, ↓U614_5, ↓G614_6, ↓U614_6, ↓G614_7, ↓G614_8, ↓G614_9, ↓G614_10, ↓G614_11, ↓U614_11, ↓G614_12, ↓U614_12, ↓G614_13, ↓U614_13, ↓G614_14, ↓U614_14, ↓G614_15, ↓G614_16, ↓U614_16, ↓G614_18, ↓U614_18, ↓G614_19, p1]
    · exact hI
  · rw [List.concat_eq_append] at *
    rw [List.length_append, List.length_singleton] at p1 p2
    obtain ⟨c6, cV⟩ := p3 l.length c' (by simp)
    have hE : stE (t, w, m, N, f) c' := (hG.2.2.2.2 c' (by simp)).2
    have h := forUp (X := ST) 97 (fun j x => EvI (EvM d) C162 1 22 [.ref 614, .int (nI j)] [] (mkH scr x))
      (fun j x => (∀ a k, ¬ (a = 614 ∧ k = 2) → ¬ (a = 615 ∧ 22 ≤ k ∧ k < 22 + j) → x.1 a k = s.1 a k) ∧ x.1 614 2 = nI l.length ∧ ∀ i, i < j → x.1 615 (22 + i) = s.1 616 (97 * l.length + i))
      (fun r => ∃ s1, r = some (nI l.length, mkH scr s1) ∧ (∀ a k, ¬ (a = 614 ∧ k = 2) → ¬ (a = 615 ∧ 22 ≤ k ∧ k < 22 + 97) → s1.1 a k = s.1 a k) ∧ s1.1 614 2 = nI l.length ∧ ∀ i, i < 97 → s1.1 615 (22 + i) = s.1 616 (97 * l.length + i)) ?_ ?_ (x := u2 s 614 2 (nI l.length)) ⟨fun a k x y => u2_oth _ _ (by omega), u2_same _ _ _ _, fun i hi => absurd hi (Nat.not_lt_zero i)⟩
    · obtain ⟨s1, e1, g1, g2, g3⟩ := h
      refine ⟨s1, ?_, ?_, fun a k x => g1 _ _ (by omega) (by omega)⟩ <;> simp only [oUndo, List.getLast?_append, List.getLast?_singleton, Option.some_or, List.dropLast_concat, List.length_append, List.length_singleton, Nat.add_sub_cancel]
      · rw [← e1]
        simp (disch := omega) only [e162_0, e162_1, e162_4, e162_7, e162_9, e162_10, e162_11, e162_12, e162_15, e162_16, e162_17, e162_20, e162_21, e162_23, e162_25, e162_28, e162_29, e162_32, e162_34, e162_35, e162_36, e162_37, e162_40, e162_42, e162_43, e162_46, e162_47, e162_48, e162_49, e162_50, e162_51, e162_54, e162_57, e162_58, e162_61, ↓reduceIte, ↓gi0, ↓gr0, ↓gl0, ↓gi1, ↓gr1, ↓gl1, ↓gi2, ↓gr2, ↓gl2, ↓gi3, ↓gr3, ↓gl3, ↓gi4, ↓gr4, ↓gl4, ↓gi5, ↓gr5, ↓gl5, ↓gi6, ↓gr6, ↓gl6, ↓gi7, ↓gr7, ↓gl7, ↓gi8, ↓gr8, ↓gl8, ↓gi9, ↓gr9, ↓gl9, ↓qI, ↓qI2, ↓qL, ↓qL2, ↓qR, ↓qV, ↓pd0, ↓ta0, ↓ts0, ↓pd1, ↓ta1, ↓ts1, ↓pd2, ↓ta2, ↓ts2, ↓pd3, ↓ta3, ↓ts3, ↓pd4, ↓ta4, ↓ts4, ↓pd5, ↓ta5, ↓ts5, ↓pd6, ↓ta6, ↓ts6, lGet, lSet, okS, isLg, Bool.not_false, Bool.not_true, Bool.false_eq_true, not_false_eq_true, not_true_eq_false, catS, okR1, okR20, okR21, okR2b, List.length_cons, List.length_nil, List.drop_succ_cons, List.drop_zero, List.drop_nil, and_self, true_and, and_true, false_and, and_false, Nat.reduceAdd, Nat.reduceLeDiff, Nat.zero_add, Nat.le_refl, Nat.zero_le, pushR, reduceCtorEq, or_self, or_false, false_or, true_or, or_true, ltT, ltF, leT, leF, eqF, eqT, lt0F, ge0T, le0T, le0F, eq0T, eq0F, gt0T, gt0F, nI_add, nI_1, pk_mul, subT, sub1, divT, remN, natRem, K614, ↓G614_0, ↓G614_1, ↓G614_2, ↓U614_2, ↓G614_3, ↓G614_4, ↓U614_4, ↓G614_5, ↓U614_5, ↓G614_6, ↓U614_6, ↓G614_7, ↓G614_8, ↓G614_9, ↓G614_10, ↓G614_11, ↓U614_11, ↓G614_12, ↓U614_12, ↓G614_13, ↓U614_13, ↓G614_14, ↓U614_14, ↓G614_15, ↓G614_16, ↓U614_16, ↓G614_18, ↓U614_18, ↓G614_19, p1, show nI 0 = 0 from rfl, Nat.add_sub_cancel]
      · refine hI.act hE (MVA_V.mp (cV.ext c6 (fun k hk => by rw [show 0 + 22 + k = 22 + k from rfl, g3 k hk]))) ⟨g2, by omega, fun q c hq => ?_⟩ (fun a k x y z w => g1 _ _ (by omega) (by omega))
        have hlt := (List.getElem?_eq_some_iff.mp hq).1
        obtain ⟨w1, w2⟩ := p3 q c (by rw [List.getElem?_append_left hlt]; exact hq)
        exact ⟨w1, w2.ext w1 (fun k hk => g1 _ _ (by omega) (by omega))⟩
    · intro j x hj ⟨g1, g2, g3⟩
      refine ⟨u2 x 615 (22 + j) (x.1 616 (97 * l.length + j)), ⟨fun a k y z => ?_, by rw [u2_oth _ _ (by omega)]; exact g2, fun i hi => ?_⟩, ?_⟩
      · rw [u2_oth _ _ (by omega), g1 _ _ y (by omega)]
      · by_cases e : i = j
        · rw [e, u2_same, g1 _ _ (by omega) (by omega)]
        · rw [u2_oth _ _ (by omega), g3 i (by omega)]
      · rw [e162_22]
        simp (disch := omega) only [e162_0, e162_1, e162_4, e162_7, e162_9, e162_10, e162_11, e162_12, e162_15, e162_16, e162_17, e162_20, e162_21, e162_23, e162_25, e162_28, e162_29, e162_32, e162_34, e162_35, e162_36, e162_37, e162_40, e162_42, e162_43, e162_46, e162_47, e162_48, e162_49, e162_50, e162_51, e162_54, e162_57, e162_58, e162_61, ↓reduceIte, ↓gi0, ↓gr0, ↓gl0, ↓gi1, ↓gr1, ↓gl1, ↓gi2, ↓gr2, ↓gl2, ↓gi3, ↓gr3, ↓gl3, ↓gi4, ↓gr4, ↓gl4, ↓gi5, ↓gr5, ↓gl5, ↓gi6, ↓gr6, ↓gl6, ↓gi7, ↓gr7, ↓gl7, ↓gi8, ↓gr8, ↓gl8, ↓gi9, ↓gr9, ↓gl9, ↓qI, ↓qI2, ↓qL, ↓qL2, ↓qR, ↓qV, ↓pd0, ↓ta0, ↓ts0, ↓pd1, ↓ta1, ↓ts1, ↓pd2, ↓ta2, ↓ts2, ↓pd3, ↓ta3, ↓ts3, ↓pd4, ↓ta4, ↓ts4, ↓pd5, ↓ta5, ↓ts5, ↓pd6, ↓ta6, ↓ts6, lGet, lSet, okS, isLg, Bool.not_false, Bool.not_true, Bool.false_eq_true, not_false_eq_true, not_true_eq_false, catS, okR1, okR20, okR21, okR2b, List.length_cons, List.length_nil, List.drop_succ_cons, List.drop_zero, List.drop_nil, and_self, true_and, and_true, false_and, and_false, Nat.reduceAdd, Nat.reduceLeDiff, Nat.zero_add, Nat.le_refl, Nat.zero_le, pushR, reduceCtorEq, or_self, or_false, false_or, true_or, or_true, ltT, ltF, leT, leF, eqF, eqT, lt0F, ge0T, le0T, le0F, eq0T, eq0F, gt0T, gt0F, nI_add, nI_1, pk_mul, subT, sub1, divT, remN, natRem, n2, n3, n4, n5, n6, n7, n8, n9, n10, n12, n16, n22, n23, n24, n40, n48, n57, n60, n97, n99, n100, n119, n120, n238, n357, n999, n9999, n2231, Int32.add_zero, K614, ↓G614_0, ↓G614_1, ↓G614_2, ↓U614_2, ↓G614_3, ↓G614_4, ↓U614_4, ↓G614_5, ↓U614_5, ↓G614_6, ↓U614_6, ↓G614_7, ↓G614_8, ↓G614_9, ↓G614_10, ↓G614_11, ↓U614_11, ↓G614_12, ↓U614_12, ↓G614_13, ↓U614_13, ↓G614_14, ↓U614_14, ↓G614_15, ↓G614_16, ↓U614_16, ↓G614_18, ↓U614_18, ↓G614_19, ↓I615, ↓S615, ↓I616, ↓S616, g2]
    · intro x ⟨g1, g2, g3⟩
      refine ⟨x, ?_, g1, g2, g3⟩
      rw [e162_22]
      simp (disch := omega) only [e162_0, e162_1, e162_4, e162_7, e162_9, e162_10, e162_11, e162_12, e162_15, e162_16, e162_17, e162_20, e162_21, e162_23, e162_25, e162_28, e162_29, e162_32, e162_34, e162_35, e162_36, e162_37, e162_40, e162_42, e162_43, e162_46, e162_47, e162_48, e162_49, e162_50, e162_51, e162_54, e162_57, e162_58, e162_61, ↓reduceIte, ↓gi0, ↓gr0, ↓gl0, ↓gi1, ↓gr1, ↓gl1, ↓gi2, ↓gr2, ↓gl2, ↓gi3, ↓gr3, ↓gl3, ↓gi4, ↓gr4, ↓gl4, ↓gi5, ↓gr5, ↓gl5, ↓gi6, ↓gr6, ↓gl6, ↓gi7, ↓gr7, ↓gl7, ↓gi8, ↓gr8, ↓gl8, ↓gi9, ↓gr9, ↓gl9, ↓qI, ↓qI2, ↓qL, ↓qL2, ↓qR, ↓qV, ↓pd0, ↓ta0, ↓ts0, ↓pd1, ↓ta1, ↓ts1, ↓pd2, ↓ta2, ↓ts2, ↓pd3, ↓ta3, ↓ts3, ↓pd4, ↓ta4, ↓ts4, ↓pd5, ↓ta5, ↓ts5, ↓pd6, ↓ta6, ↓ts6, lGet, lSet, okS, isLg, Bool.not_false, Bool.not_true, Bool.false_eq_true, not_false_eq_true, not_true_eq_false, catS, okR1, okR20, okR21, okR2b, List.length_cons, List.length_nil, List.drop_succ_cons, List.drop_zero, List.drop_nil, and_self, true_and, and_true, false_and, and_false, Nat.reduceAdd, Nat.reduceLeDiff, Nat.zero_add, Nat.le_refl, Nat.zero_le, pushR, reduceCtorEq, or_self, or_false, false_or, true_or, or_true, ltT, ltF, leT, leF, eqF, eqT, lt0F, ge0T, le0T, le0F, eq0T, eq0F, gt0T, gt0F, nI_add, nI_1, pk_mul, subT, sub1, divT, remN, natRem, n2, n3, n4, n5, n6, n7, n8, n9, n10, n12, n16, n22, n23, n24, n40, n48, n57, n60, n97, n99, n100, n119, n120, n238, n357, n999, n9999, n2231, Int32.add_zero, K614, ↓G614_0, ↓G614_1, ↓G614_2, ↓U614_2, ↓G614_3, ↓G614_4, ↓U614_4, ↓G614_5, ↓U614_5, ↓G614_6, ↓U614_6, ↓G614_7, ↓G614_8, ↓G614_9, ↓G614_10, ↓G614_11, ↓U614_11, ↓G614_12, ↓U614_12, ↓G614_13, ↓U614_13, ↓G614_14, ↓U614_14, ↓G614_15, ↓G614_16, ↓U614_16, ↓G614_18, ↓U614_18, ↓G614_19, ↓I615, ↓S615, ↓I616, ↓S616, g2]
end MSA
