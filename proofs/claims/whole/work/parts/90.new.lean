/-! ===== Tape.readPerson, readInto ===== -/
theorem gD_ge {α : Type} {l : List α} {i : Nat} {d : α} (h : l.length ≤ i) : l.getD i d = d := by rw [List.getD_eq_getElem?_getD, List.getElem?_eq_none h]; rfl
theorem gD_lt {α : Type} {l l' : List α} {i : Nat} {d : α} (h : i < l.length) : (l ++ l').getD i d = l.getD i d := by rw [List.getD_eq_getElem?_getD, List.getD_eq_getElem?_getD, List.getElem?_append_left h]
theorem gD_at {α : Type} {l : List α} {x d : α} : (l ++ [x]).getD l.length d = x := by simp [List.getD_eq_getElem?_getD]
section RD2
variable {scr : Nat × (Nat → Int32)} {s : ST} {tp : List Nat}
theorem FrQ.tpc {s s' : ST} {n : Nat} (h : TPc s tp) (g : FrQ s s' n) : TPc s' tp := h.ext (g.2 15 1 (by omega) (by omega) (by omega)) (fun k => g.2 16 k (by omega) (by omega) (by omega))
theorem st79_68 (d : Nat) (hT : TPc s tp) {p : Nat} (h4 : s.1 15 4 = nI p) (hp : p ≤ tp.length) (v2 v3 : Value) : ∃ s2, (EvI (EvM (d + 2)) C79 2 68 [.ref 15, .ref 551, v2, v3] [] (mkH scr s) = if (rNB tp p 0 9 44).1 = 0 then EvI (EvM (d + 2)) C79 2 89 [.ref 15, .ref 551, v2, v3] [] (mkH scr s2) else some (0, mkH scr s2)) ∧ FrA s s2 15 2 6 ∧ TRd s2 (rNB tp p 0 9 44).1 (rNB tp p 0 9 44).2.1 (nI (rNB tp p 0 9 44).2.2) := by
  obtain ⟨s1, a1, f1, t1⟩ := c_readNumber d (scr := scr) (lo := 0) (hi := 9) hT h4 hp (by decide) (by decide)
  have i1 : EvM (d + 2) 83 [.ref 15, .int 0, .int (nI 9)] (mkH scr s) = _ := a1
  rw [e79_68]
  by_cases c1 : (rNum tp p 0 9).1 = 0
  · rw [decide_eq_true c1] at i1
    obtain ⟨s2, a2, f2, t2⟩ := c_readByte d (scr := scr) (c := 44) (hT.fr f1) t1.1 (rNum_le hp).1 (by decide) (t1.2.1 c1)
    refine ⟨s2, ?_, f1.tr f2, by rw [rNB_ok c1]; exact t2⟩
    by_cases c2 : (rByte tp (rNum tp p 0 9).2.1 44).1 = 0
    · rw [decide_eq_true c2] at a2
      simp only [rNB_ok c1, c2, ↓reduceIte]
      simp (disch := omega) only [e79_0, e79_1, e79_4, e79_7, e79_8, e79_9, e79_12, e79_13, e79_14, e79_17, e79_18, e79_19, e79_22, e79_24, e79_27, e79_28, e79_29, e79_32, e79_33, e79_34, e79_35, e79_38, e79_39, e79_40, e79_43, e79_44, e79_47, e79_48, e79_51, e79_52, e79_53, e79_54, e79_55, e79_58, e79_59, e79_60, e79_63, e79_64, e79_65, e79_69, e79_70, e79_72, e79_75, e79_78, e79_79, e79_81, e79_84, e79_87, e79_88, e79_90, e79_91, e79_94, e79_97, e79_98, e79_99, e79_101, e79_104, e79_107, e79_108, e79_110, e79_113, e79_116, e79_117, e79_118, e79_119, e79_120, e79_123, e79_126, e79_127, e79_128, e79_130, e79_133, e79_136, e79_137, e79_139, e79_142, e79_145, e79_146, e79_147, e79_148, e79_149, e79_152, e79_155, e79_156, ↓reduceIte, ↓gi0, ↓gr0, ↓gl0, ↓gi1, ↓gr1, ↓gl1, ↓gi2, ↓gr2, ↓gl2, ↓gi3, ↓gr3, ↓gl3, ↓gi4, ↓gr4, ↓gl4, ↓gi5, ↓gr5, ↓gl5, ↓gi6, ↓gr6, ↓gl6, ↓gi7, ↓gr7, ↓gl7, ↓gi8, ↓gr8, ↓gl8, ↓gi9, ↓gr9, ↓gl9, ↓qI, ↓qI2, ↓qL, ↓qL2, ↓qR, ↓qV, ↓pd0, ↓ta0, ↓ts0, ↓pd1, ↓ta1, ↓ts1, ↓pd2, ↓ta2, ↓ts2, ↓pd3, ↓ta3, ↓ts3, ↓pd4, ↓ta4, ↓ts4, ↓pd5, ↓ta5, ↓ts5, ↓pd6, ↓ta6, ↓ts6, lGet, lSet, okS, isLg, Bool.not_false, Bool.not_true, Bool.false_eq_true, not_false_eq_true, not_true_eq_false, catS, okR1, okR20, okR21, okR2b, List.length_cons, List.length_nil, List.drop_succ_cons, List.drop_zero, List.drop_nil, and_self, true_and, and_true, false_and, and_false, Nat.reduceAdd, Nat.reduceLeDiff, Nat.zero_add, Nat.le_refl, Nat.zero_le, pushR, reduceCtorEq, or_self, or_false, false_or, true_or, or_true, ltT, ltF, leT, leF, eqF, eqT, lt0F, ge0T, le0T, le0F, eq0T, eq0F, gt0T, gt0F, nI_add, nI_1, pk_mul, subT, sub1, divT, remN, natRem, n2, n3, n4, n5, n6, n7, n8, n9, n10, n12, n16, n22, n23, n24, n40, n48, n57, n60, n97, n99, n100, n119, n120, n238, n357, n999, n9999, n2231, Int32.add_zero, bI_t, bI_f, one_ne, K15, ↓G15_0, ↓G15_1, ↓U15_1, ↓G15_2, ↓U15_2, ↓G15_3, ↓U15_3, ↓G15_4, ↓U15_4, ↓G15_5, ↓U15_5, n44, n59, ↓bnd i1, ↓bnd a2]
    · rw [decide_eq_false c2] at a2
      simp only [rNB_ok c1, c2, ↓reduceIte]
      simp (disch := omega) only [e79_0, e79_1, e79_4, e79_7, e79_8, e79_9, e79_12, e79_13, e79_14, e79_17, e79_18, e79_19, e79_22, e79_24, e79_27, e79_28, e79_29, e79_32, e79_33, e79_34, e79_35, e79_38, e79_39, e79_40, e79_43, e79_44, e79_47, e79_48, e79_51, e79_52, e79_53, e79_54, e79_55, e79_58, e79_59, e79_60, e79_63, e79_64, e79_65, e79_69, e79_70, e79_72, e79_75, e79_78, e79_79, e79_81, e79_84, e79_87, e79_88, e79_90, e79_91, e79_94, e79_97, e79_98, e79_99, e79_101, e79_104, e79_107, e79_108, e79_110, e79_113, e79_116, e79_117, e79_118, e79_119, e79_120, e79_123, e79_126, e79_127, e79_128, e79_130, e79_133, e79_136, e79_137, e79_139, e79_142, e79_145, e79_146, e79_147, e79_148, e79_149, e79_152, e79_155, e79_156, ↓reduceIte, ↓gi0, ↓gr0, ↓gl0, ↓gi1, ↓gr1, ↓gl1, ↓gi2, ↓gr2, ↓gl2, ↓gi3, ↓gr3, ↓gl3, ↓gi4, ↓gr4, ↓gl4, ↓gi5, ↓gr5, ↓gl5, ↓gi6, ↓gr6, ↓gl6, ↓gi7, ↓gr7, ↓gl7, ↓gi8, ↓gr8, ↓gl8, ↓gi9, ↓gr9, ↓gl9, ↓qI, ↓qI2, ↓qL, ↓qL2, ↓qR, ↓qV, ↓pd0, ↓ta0, ↓ts0, ↓pd1, ↓ta1, ↓ts1, ↓pd2, ↓ta2, ↓ts2, ↓pd3, ↓ta3, ↓ts3, ↓pd4, ↓ta4, ↓ts4, ↓pd5, ↓ta5, ↓ts5, ↓pd6, ↓ta6, ↓ts6, lGet, lSet, okS, isLg, Bool.not_false, Bool.not_true, Bool.false_eq_true, not_false_eq_true, not_true_eq_false, catS, okR1, okR20, okR21, okR2b, List.length_cons, List.length_nil, List.drop_succ_cons, List.drop_zero, List.drop_nil, and_self, true_and, and_true, false_and, and_false, Nat.reduceAdd, Nat.reduceLeDiff, Nat.zero_add, Nat.le_refl, Nat.zero_le, pushR, reduceCtorEq, or_self, or_false, false_or, true_or, or_true, ltT, ltF, leT, leF, eqF, eqT, lt0F, ge0T, le0T, le0F, eq0T, eq0F, gt0T, gt0F, nI_add, nI_1, pk_mul, subT, sub1, divT, remN, natRem, n2, n3, n4, n5, n6, n7, n8, n9, n10, n12, n16, n22, n23, n24, n40, n48, n57, n60, n97, n99, n100, n119, n120, n238, n357, n999, n9999, n2231, Int32.add_zero, bI_t, bI_f, one_ne, K15, ↓G15_0, ↓G15_1, ↓U15_1, ↓G15_2, ↓U15_2, ↓G15_3, ↓U15_3, ↓G15_4, ↓U15_4, ↓G15_5, ↓U15_5, n44, n59, ↓bnd i1, ↓bnd a2]
  · rw [decide_eq_false c1] at i1
    refine ⟨s1, ?_, f1, by rw [rNB_no c1]; exact t1⟩
    rw [rNB_no c1, if_neg c1]
    simp (disch := omega) only [e79_0, e79_1, e79_4, e79_7, e79_8, e79_9, e79_12, e79_13, e79_14, e79_17, e79_18, e79_19, e79_22, e79_24, e79_27, e79_28, e79_29, e79_32, e79_33, e79_34, e79_35, e79_38, e79_39, e79_40, e79_43, e79_44, e79_47, e79_48, e79_51, e79_52, e79_53, e79_54, e79_55, e79_58, e79_59, e79_60, e79_63, e79_64, e79_65, e79_69, e79_70, e79_72, e79_75, e79_78, e79_79, e79_81, e79_84, e79_87, e79_88, e79_90, e79_91, e79_94, e79_97, e79_98, e79_99, e79_101, e79_104, e79_107, e79_108, e79_110, e79_113, e79_116, e79_117, e79_118, e79_119, e79_120, e79_123, e79_126, e79_127, e79_128, e79_130, e79_133, e79_136, e79_137, e79_139, e79_142, e79_145, e79_146, e79_147, e79_148, e79_149, e79_152, e79_155, e79_156, ↓reduceIte, ↓gi0, ↓gr0, ↓gl0, ↓gi1, ↓gr1, ↓gl1, ↓gi2, ↓gr2, ↓gl2, ↓gi3, ↓gr3, ↓gl3, ↓gi4, ↓gr4, ↓gl4, ↓gi5, ↓gr5, ↓gl5, ↓gi6, ↓gr6, ↓gl6, ↓gi7, ↓gr7, ↓gl7, ↓gi8, ↓gr8, ↓gl8, ↓gi9, ↓gr9, ↓gl9, ↓qI, ↓qI2, ↓qL, ↓qL2, ↓qR, ↓qV, ↓pd0, ↓ta0, ↓ts0, ↓pd1, ↓ta1, ↓ts1, ↓pd2, ↓ta2, ↓ts2, ↓pd3, ↓ta3, ↓ts3, ↓pd4, ↓ta4, ↓ts4, ↓pd5, ↓ta5, ↓ts5, ↓pd6, ↓ta6, ↓ts6, lGet, lSet, okS, isLg, Bool.not_false, Bool.not_true, Bool.false_eq_true, not_false_eq_true, not_true_eq_false, catS, okR1, okR20, okR21, okR2b, List.length_cons, List.length_nil, List.drop_succ_cons, List.drop_zero, List.drop_nil, and_self, true_and, and_true, false_and, and_false, Nat.reduceAdd, Nat.reduceLeDiff, Nat.zero_add, Nat.le_refl, Nat.zero_le, pushR, reduceCtorEq, or_self, or_false, false_or, true_or, or_true, ltT, ltF, leT, leF, eqF, eqT, lt0F, ge0T, le0T, le0F, eq0T, eq0F, gt0T, gt0F, nI_add, nI_1, pk_mul, subT, sub1, divT, remN, natRem, n2, n3, n4, n5, n6, n7, n8, n9, n10, n12, n16, n22, n23, n24, n40, n48, n57, n60, n97, n99, n100, n119, n120, n238, n357, n999, n9999, n2231, Int32.add_zero, bI_t, bI_f, one_ne, K15, ↓G15_0, ↓G15_1, ↓U15_1, ↓G15_2, ↓U15_2, ↓G15_3, ↓U15_3, ↓G15_4, ↓U15_4, ↓G15_5, ↓U15_5, ↓bnd i1]
theorem st79_97 (d : Nat) (hT : TPc s tp) {p : Nat} (h4 : s.1 15 4 = nI p) (hp : p ≤ tp.length) (v2 v3 : Value) : ∃ s2, (EvI (EvM (d + 2)) C79 2 97 [.ref 15, .ref 551, v2, v3] [] (mkH scr s) = if (rNB tp p 0 99 44).1 = 0 then EvI (EvM (d + 2)) C79 2 118 [.ref 15, .ref 551, v2, v3] [] (mkH scr s2) else some (0, mkH scr s2)) ∧ FrA s s2 15 2 6 ∧ TRd s2 (rNB tp p 0 99 44).1 (rNB tp p 0 99 44).2.1 (nI (rNB tp p 0 99 44).2.2) := by
  obtain ⟨s1, a1, f1, t1⟩ := c_readNumber d (scr := scr) (lo := 0) (hi := 99) hT h4 hp (by decide) (by decide)
  have i1 : EvM (d + 2) 83 [.ref 15, .int 0, .int (nI 99)] (mkH scr s) = _ := a1
  rw [e79_97]
  by_cases c1 : (rNum tp p 0 99).1 = 0
  · rw [decide_eq_true c1] at i1
    obtain ⟨s2, a2, f2, t2⟩ := c_readByte d (scr := scr) (c := 44) (hT.fr f1) t1.1 (rNum_le hp).1 (by decide) (t1.2.1 c1)
    refine ⟨s2, ?_, f1.tr f2, by rw [rNB_ok c1]; exact t2⟩
    by_cases c2 : (rByte tp (rNum tp p 0 99).2.1 44).1 = 0
    · rw [decide_eq_true c2] at a2
      simp only [rNB_ok c1, c2, ↓reduceIte]
      simp (disch := omega) only [e79_0, e79_1, e79_4, e79_7, e79_8, e79_9, e79_12, e79_13, e79_14, e79_17, e79_18, e79_19, e79_22, e79_24, e79_27, e79_28, e79_29, e79_32, e79_33, e79_34, e79_35, e79_38, e79_39, e79_40, e79_43, e79_44, e79_47, e79_48, e79_51, e79_52, e79_53, e79_54, e79_55, e79_58, e79_59, e79_60, e79_63, e79_64, e79_65, e79_68, e79_69, e79_70, e79_72, e79_75, e79_78, e79_79, e79_81, e79_84, e79_87, e79_88, e79_89, e79_90, e79_91, e79_94, e79_98, e79_99, e79_101, e79_104, e79_107, e79_108, e79_110, e79_113, e79_116, e79_117, e79_119, e79_120, e79_123, e79_126, e79_127, e79_128, e79_130, e79_133, e79_136, e79_137, e79_139, e79_142, e79_145, e79_146, e79_147, e79_148, e79_149, e79_152, e79_155, e79_156, ↓reduceIte, ↓gi0, ↓gr0, ↓gl0, ↓gi1, ↓gr1, ↓gl1, ↓gi2, ↓gr2, ↓gl2, ↓gi3, ↓gr3, ↓gl3, ↓gi4, ↓gr4, ↓gl4, ↓gi5, ↓gr5, ↓gl5, ↓gi6, ↓gr6, ↓gl6, ↓gi7, ↓gr7, ↓gl7, ↓gi8, ↓gr8, ↓gl8, ↓gi9, ↓gr9, ↓gl9, ↓qI, ↓qI2, ↓qL, ↓qL2, ↓qR, ↓qV, ↓pd0, ↓ta0, ↓ts0, ↓pd1, ↓ta1, ↓ts1, ↓pd2, ↓ta2, ↓ts2, ↓pd3, ↓ta3, ↓ts3, ↓pd4, ↓ta4, ↓ts4, ↓pd5, ↓ta5, ↓ts5, ↓pd6, ↓ta6, ↓ts6, lGet, lSet, okS, isLg, Bool.not_false, Bool.not_true, Bool.false_eq_true, not_false_eq_true, not_true_eq_false, catS, okR1, okR20, okR21, okR2b, List.length_cons, List.length_nil, List.drop_succ_cons, List.drop_zero, List.drop_nil, and_self, true_and, and_true, false_and, and_false, Nat.reduceAdd, Nat.reduceLeDiff, Nat.zero_add, Nat.le_refl, Nat.zero_le, pushR, reduceCtorEq, or_self, or_false, false_or, true_or, or_true, ltT, ltF, leT, leF, eqF, eqT, lt0F, ge0T, le0T, le0F, eq0T, eq0F, gt0T, gt0F, nI_add, nI_1, pk_mul, subT, sub1, divT, remN, natRem, n2, n3, n4, n5, n6, n7, n8, n9, n10, n12, n16, n22, n23, n24, n40, n48, n57, n60, n97, n99, n100, n119, n120, n238, n357, n999, n9999, n2231, Int32.add_zero, bI_t, bI_f, one_ne, K15, ↓G15_0, ↓G15_1, ↓U15_1, ↓G15_2, ↓U15_2, ↓G15_3, ↓U15_3, ↓G15_4, ↓U15_4, ↓G15_5, ↓U15_5, n44, n59, ↓bnd i1, ↓bnd a2]
    · rw [decide_eq_false c2] at a2
      simp only [rNB_ok c1, c2, ↓reduceIte]
      simp (disch := omega) only [e79_0, e79_1, e79_4, e79_7, e79_8, e79_9, e79_12, e79_13, e79_14, e79_17, e79_18, e79_19, e79_22, e79_24, e79_27, e79_28, e79_29, e79_32, e79_33, e79_34, e79_35, e79_38, e79_39, e79_40, e79_43, e79_44, e79_47, e79_48, e79_51, e79_52, e79_53, e79_54, e79_55, e79_58, e79_59, e79_60, e79_63, e79_64, e79_65, e79_68, e79_69, e79_70, e79_72, e79_75, e79_78, e79_79, e79_81, e79_84, e79_87, e79_88, e79_89, e79_90, e79_91, e79_94, e79_98, e79_99, e79_101, e79_104, e79_107, e79_108, e79_110, e79_113, e79_116, e79_117, e79_119, e79_120, e79_123, e79_126, e79_127, e79_128, e79_130, e79_133, e79_136, e79_137, e79_139, e79_142, e79_145, e79_146, e79_147, e79_148, e79_149, e79_152, e79_155, e79_156, ↓reduceIte, ↓gi0, ↓gr0, ↓gl0, ↓gi1, ↓gr1, ↓gl1, ↓gi2, ↓gr2, ↓gl2, ↓gi3, ↓gr3, ↓gl3, ↓gi4, ↓gr4, ↓gl4, ↓gi5, ↓gr5, ↓gl5, ↓gi6, ↓gr6, ↓gl6, ↓gi7, ↓gr7, ↓gl7, ↓gi8, ↓gr8, ↓gl8, ↓gi9, ↓gr9, ↓gl9, ↓qI, ↓qI2, ↓qL, ↓qL2, ↓qR, ↓qV, ↓pd0, ↓ta0, ↓ts0, ↓pd1, ↓ta1, ↓ts1, ↓pd2, ↓ta2, ↓ts2, ↓pd3, ↓ta3, ↓ts3, ↓pd4, ↓ta4, ↓ts4, ↓pd5, ↓ta5, ↓ts5, ↓pd6, ↓ta6, ↓ts6, lGet, lSet, okS, isLg, Bool.not_false, Bool.not_true, Bool.false_eq_true, not_false_eq_true, not_true_eq_false, catS, okR1, okR20, okR21, okR2b, List.length_cons, List.length_nil, List.drop_succ_cons, List.drop_zero, List.drop_nil, and_self, true_and, and_true, false_and, and_false, Nat.reduceAdd, Nat.reduceLeDiff, Nat.zero_add, Nat.le_refl, Nat.zero_le, pushR, reduceCtorEq, or_self, or_false, false_or, true_or, or_true, ltT, ltF, leT, leF, eqF, eqT, lt0F, ge0T, le0T, le0F, eq0T, eq0F, gt0T, gt0F, nI_add, nI_1, pk_mul, subT, sub1, divT, remN, natRem, n2, n3, n4, n5, n6, n7, n8, n9, n10, n12, n16, n22, n23, n24, n40, n48, n57, n60, n97, n99, n100, n119, n120, n238, n357, n999, n9999, n2231, Int32.add_zero, bI_t, bI_f, one_ne, K15, ↓G15_0, ↓G15_1, ↓U15_1, ↓G15_2, ↓U15_2, ↓G15_3, ↓U15_3, ↓G15_4, ↓U15_4, ↓G15_5, ↓U15_5, n44, n59, ↓bnd i1, ↓bnd a2]
  · rw [decide_eq_false c1] at i1
    refine ⟨s1, ?_, f1, by rw [rNB_no c1]; exact t1⟩
    rw [rNB_no c1, if_neg c1]
    simp (disch := omega) only [e79_0, e79_1, e79_4, e79_7, e79_8, e79_9, e79_12, e79_13, e79_14, e79_17, e79_18, e79_19, e79_22, e79_24, e79_27, e79_28, e79_29, e79_32, e79_33, e79_34, e79_35, e79_38, e79_39, e79_40, e79_43, e79_44, e79_47, e79_48, e79_51, e79_52, e79_53, e79_54, e79_55, e79_58, e79_59, e79_60, e79_63, e79_64, e79_65, e79_68, e79_69, e79_70, e79_72, e79_75, e79_78, e79_79, e79_81, e79_84, e79_87, e79_88, e79_89, e79_90, e79_91, e79_94, e79_98, e79_99, e79_101, e79_104, e79_107, e79_108, e79_110, e79_113, e79_116, e79_117, e79_119, e79_120, e79_123, e79_126, e79_127, e79_128, e79_130, e79_133, e79_136, e79_137, e79_139, e79_142, e79_145, e79_146, e79_147, e79_148, e79_149, e79_152, e79_155, e79_156, ↓reduceIte, ↓gi0, ↓gr0, ↓gl0, ↓gi1, ↓gr1, ↓gl1, ↓gi2, ↓gr2, ↓gl2, ↓gi3, ↓gr3, ↓gl3, ↓gi4, ↓gr4, ↓gl4, ↓gi5, ↓gr5, ↓gl5, ↓gi6, ↓gr6, ↓gl6, ↓gi7, ↓gr7, ↓gl7, ↓gi8, ↓gr8, ↓gl8, ↓gi9, ↓gr9, ↓gl9, ↓qI, ↓qI2, ↓qL, ↓qL2, ↓qR, ↓qV, ↓pd0, ↓ta0, ↓ts0, ↓pd1, ↓ta1, ↓ts1, ↓pd2, ↓ta2, ↓ts2, ↓pd3, ↓ta3, ↓ts3, ↓pd4, ↓ta4, ↓ts4, ↓pd5, ↓ta5, ↓ts5, ↓pd6, ↓ta6, ↓ts6, lGet, lSet, okS, isLg, Bool.not_false, Bool.not_true, Bool.false_eq_true, not_false_eq_true, not_true_eq_false, catS, okR1, okR20, okR21, okR2b, List.length_cons, List.length_nil, List.drop_succ_cons, List.drop_zero, List.drop_nil, and_self, true_and, and_true, false_and, and_false, Nat.reduceAdd, Nat.reduceLeDiff, Nat.zero_add, Nat.le_refl, Nat.zero_le, pushR, reduceCtorEq, or_self, or_false, false_or, true_or, or_true, ltT, ltF, leT, leF, eqF, eqT, lt0F, ge0T, le0T, le0F, eq0T, eq0F, gt0T, gt0F, nI_add, nI_1, pk_mul, subT, sub1, divT, remN, natRem, n2, n3, n4, n5, n6, n7, n8, n9, n10, n12, n16, n22, n23, n24, n40, n48, n57, n60, n97, n99, n100, n119, n120, n238, n357, n999, n9999, n2231, Int32.add_zero, bI_t, bI_f, one_ne, K15, ↓G15_0, ↓G15_1, ↓U15_1, ↓G15_2, ↓U15_2, ↓G15_3, ↓U15_3, ↓G15_4, ↓U15_4, ↓G15_5, ↓U15_5, ↓bnd i1]
theorem st79_126 (d : Nat) (hT : TPc s tp) {p : Nat} (h4 : s.1 15 4 = nI p) (hp : p ≤ tp.length) (v2 v3 : Value) : ∃ s2, (EvI (EvM (d + 2)) C79 2 126 [.ref 15, .ref 551, v2, v3] [] (mkH scr s) = if (rNB tp p 0 99 59).1 = 0 then EvI (EvM (d + 2)) C79 2 147 [.ref 15, .ref 551, v2, v3] [] (mkH scr s2) else some (0, mkH scr s2)) ∧ FrA s s2 15 2 6 ∧ TRd s2 (rNB tp p 0 99 59).1 (rNB tp p 0 99 59).2.1 (nI (rNB tp p 0 99 59).2.2) := by
  obtain ⟨s1, a1, f1, t1⟩ := c_readNumber d (scr := scr) (lo := 0) (hi := 99) hT h4 hp (by decide) (by decide)
  have i1 : EvM (d + 2) 83 [.ref 15, .int 0, .int (nI 99)] (mkH scr s) = _ := a1
  rw [e79_126]
  by_cases c1 : (rNum tp p 0 99).1 = 0
  · rw [decide_eq_true c1] at i1
    obtain ⟨s2, a2, f2, t2⟩ := c_readByte d (scr := scr) (c := 59) (hT.fr f1) t1.1 (rNum_le hp).1 (by decide) (t1.2.1 c1)
    refine ⟨s2, ?_, f1.tr f2, by rw [rNB_ok c1]; exact t2⟩
    by_cases c2 : (rByte tp (rNum tp p 0 99).2.1 59).1 = 0
    · rw [decide_eq_true c2] at a2
      simp only [rNB_ok c1, c2, ↓reduceIte]
      simp (disch := omega) only [e79_0, e79_1, e79_4, e79_7, e79_8, e79_9, e79_12, e79_13, e79_14, e79_17, e79_18, e79_19, e79_22, e79_24, e79_27, e79_28, e79_29, e79_32, e79_33, e79_34, e79_35, e79_38, e79_39, e79_40, e79_43, e79_44, e79_47, e79_48, e79_51, e79_52, e79_53, e79_54, e79_55, e79_58, e79_59, e79_60, e79_63, e79_64, e79_65, e79_68, e79_69, e79_70, e79_72, e79_75, e79_78, e79_79, e79_81, e79_84, e79_87, e79_88, e79_89, e79_90, e79_91, e79_94, e79_97, e79_98, e79_99, e79_101, e79_104, e79_107, e79_108, e79_110, e79_113, e79_116, e79_117, e79_118, e79_119, e79_120, e79_123, e79_127, e79_128, e79_130, e79_133, e79_136, e79_137, e79_139, e79_142, e79_145, e79_146, e79_148, e79_149, e79_152, e79_155, e79_156, ↓reduceIte, ↓gi0, ↓gr0, ↓gl0, ↓gi1, ↓gr1, ↓gl1, ↓gi2, ↓gr2, ↓gl2, ↓gi3, ↓gr3, ↓gl3, ↓gi4, ↓gr4, ↓gl4, ↓gi5, ↓gr5, ↓gl5, ↓gi6, ↓gr6, ↓gl6, ↓gi7, ↓gr7, ↓gl7, ↓gi8, ↓gr8, ↓gl8, ↓gi9, ↓gr9, ↓gl9, ↓qI, ↓qI2, ↓qL, ↓qL2, ↓qR, ↓qV, ↓pd0, ↓ta0, ↓ts0, ↓pd1, ↓ta1, ↓ts1, ↓pd2, ↓ta2, ↓ts2, ↓pd3, ↓ta3, ↓ts3, ↓pd4, ↓ta4, ↓ts4, ↓pd5, ↓ta5, ↓ts5, ↓pd6, ↓ta6, ↓ts6, lGet, lSet, okS, isLg, Bool.not_false, Bool.not_true, Bool.false_eq_true, not_false_eq_true, not_true_eq_false, catS, okR1, okR20, okR21, okR2b, List.length_cons, List.length_nil, List.drop_succ_cons, List.drop_zero, List.drop_nil, and_self, true_and, and_true, false_and, and_false, Nat.reduceAdd, Nat.reduceLeDiff, Nat.zero_add, Nat.le_refl, Nat.zero_le, pushR, reduceCtorEq, or_self, or_false, false_or, true_or, or_true, ltT, ltF, leT, leF, eqF, eqT, lt0F, ge0T, le0T, le0F, eq0T, eq0F, gt0T, gt0F, nI_add, nI_1, pk_mul, subT, sub1, divT, remN, natRem, n2, n3, n4, n5, n6, n7, n8, n9, n10, n12, n16, n22, n23, n24, n40, n48, n57, n60, n97, n99, n100, n119, n120, n238, n357, n999, n9999, n2231, Int32.add_zero, bI_t, bI_f, one_ne, K15, ↓G15_0, ↓G15_1, ↓U15_1, ↓G15_2, ↓U15_2, ↓G15_3, ↓U15_3, ↓G15_4, ↓U15_4, ↓G15_5, ↓U15_5, n44, n59, ↓bnd i1, ↓bnd a2]
    · rw [decide_eq_false c2] at a2
      simp only [rNB_ok c1, c2, ↓reduceIte]
      simp (disch := omega) only [e79_0, e79_1, e79_4, e79_7, e79_8, e79_9, e79_12, e79_13, e79_14, e79_17, e79_18, e79_19, e79_22, e79_24, e79_27, e79_28, e79_29, e79_32, e79_33, e79_34, e79_35, e79_38, e79_39, e79_40, e79_43, e79_44, e79_47, e79_48, e79_51, e79_52, e79_53, e79_54, e79_55, e79_58, e79_59, e79_60, e79_63, e79_64, e79_65, e79_68, e79_69, e79_70, e79_72, e79_75, e79_78, e79_79, e79_81, e79_84, e79_87, e79_88, e79_89, e79_90, e79_91, e79_94, e79_97, e79_98, e79_99, e79_101, e79_104, e79_107, e79_108, e79_110, e79_113, e79_116, e79_117, e79_118, e79_119, e79_120, e79_123, e79_127, e79_128, e79_130, e79_133, e79_136, e79_137, e79_139, e79_142, e79_145, e79_146, e79_148, e79_149, e79_152, e79_155, e79_156, ↓reduceIte, ↓gi0, ↓gr0, ↓gl0, ↓gi1, ↓gr1, ↓gl1, ↓gi2, ↓gr2, ↓gl2, ↓gi3, ↓gr3, ↓gl3, ↓gi4, ↓gr4, ↓gl4, ↓gi5, ↓gr5, ↓gl5, ↓gi6, ↓gr6, ↓gl6, ↓gi7, ↓gr7, ↓gl7, ↓gi8, ↓gr8, ↓gl8, ↓gi9, ↓gr9, ↓gl9, ↓qI, ↓qI2, ↓qL, ↓qL2, ↓qR, ↓qV, ↓pd0, ↓ta0, ↓ts0, ↓pd1, ↓ta1, ↓ts1, ↓pd2, ↓ta2, ↓ts2, ↓pd3, ↓ta3, ↓ts3, ↓pd4, ↓ta4, ↓ts4, ↓pd5, ↓ta5, ↓ts5, ↓pd6, ↓ta6, ↓ts6, lGet, lSet, okS, isLg, Bool.not_false, Bool.not_true, Bool.false_eq_true, not_false_eq_true, not_true_eq_false, catS, okR1, okR20, okR21, okR2b, List.length_cons, List.length_nil, List.drop_succ_cons, List.drop_zero, List.drop_nil, and_self, true_and, and_true, false_and, and_false, Nat.reduceAdd, Nat.reduceLeDiff, Nat.zero_add, Nat.le_refl, Nat.zero_le, pushR, reduceCtorEq, or_self, or_false, false_or, true_or, or_true, ltT, ltF, leT, leF, eqF, eqT, lt0F, ge0T, le0T, le0F, eq0T, eq0F, gt0T, gt0F, nI_add, nI_1, pk_mul, subT, sub1, divT, remN, natRem, n2, n3, n4, n5, n6, n7, n8, n9, n10, n12, n16, n22, n23, n24, n40, n48, n57, n60, n97, n99, n100, n119, n120, n238, n357, n999, n9999, n2231, Int32.add_zero, bI_t, bI_f, one_ne, K15, ↓G15_0, ↓G15_1, ↓U15_1, ↓G15_2, ↓U15_2, ↓G15_3, ↓U15_3, ↓G15_4, ↓U15_4, ↓G15_5, ↓U15_5, n44, n59, ↓bnd i1, ↓bnd a2]
  · rw [decide_eq_false c1] at i1
    refine ⟨s1, ?_, f1, by rw [rNB_no c1]; exact t1⟩
    rw [rNB_no c1, if_neg c1]
    simp (disch := omega) only [e79_0, e79_1, e79_4, e79_7, e79_8, e79_9, e79_12, e79_13, e79_14, e79_17, e79_18, e79_19, e79_22, e79_24, e79_27, e79_28, e79_29, e79_32, e79_33, e79_34, e79_35, e79_38, e79_39, e79_40, e79_43, e79_44, e79_47, e79_48, e79_51, e79_52, e79_53, e79_54, e79_55, e79_58, e79_59, e79_60, e79_63, e79_64, e79_65, e79_68, e79_69, e79_70, e79_72, e79_75, e79_78, e79_79, e79_81, e79_84, e79_87, e79_88, e79_89, e79_90, e79_91, e79_94, e79_97, e79_98, e79_99, e79_101, e79_104, e79_107, e79_108, e79_110, e79_113, e79_116, e79_117, e79_118, e79_119, e79_120, e79_123, e79_127, e79_128, e79_130, e79_133, e79_136, e79_137, e79_139, e79_142, e79_145, e79_146, e79_148, e79_149, e79_152, e79_155, e79_156, ↓reduceIte, ↓gi0, ↓gr0, ↓gl0, ↓gi1, ↓gr1, ↓gl1, ↓gi2, ↓gr2, ↓gl2, ↓gi3, ↓gr3, ↓gl3, ↓gi4, ↓gr4, ↓gl4, ↓gi5, ↓gr5, ↓gl5, ↓gi6, ↓gr6, ↓gl6, ↓gi7, ↓gr7, ↓gl7, ↓gi8, ↓gr8, ↓gl8, ↓gi9, ↓gr9, ↓gl9, ↓qI, ↓qI2, ↓qL, ↓qL2, ↓qR, ↓qV, ↓pd0, ↓ta0, ↓ts0, ↓pd1, ↓ta1, ↓ts1, ↓pd2, ↓ta2, ↓ts2, ↓pd3, ↓ta3, ↓ts3, ↓pd4, ↓ta4, ↓ts4, ↓pd5, ↓ta5, ↓ts5, ↓pd6, ↓ta6, ↓ts6, lGet, lSet, okS, isLg, Bool.not_false, Bool.not_true, Bool.false_eq_true, not_false_eq_true, not_true_eq_false, catS, okR1, okR20, okR21, okR2b, List.length_cons, List.length_nil, List.drop_succ_cons, List.drop_zero, List.drop_nil, and_self, true_and, and_true, false_and, and_false, Nat.reduceAdd, Nat.reduceLeDiff, Nat.zero_add, Nat.le_refl, Nat.zero_le, pushR, reduceCtorEq, or_self, or_false, false_or, true_or, or_true, ltT, ltF, leT, leF, eqF, eqT, lt0F, ge0T, le0T, le0F, eq0T, eq0F, gt0T, gt0F, nI_add, nI_1, pk_mul, subT, sub1, divT, remN, natRem, n2, n3, n4, n5, n6, n7, n8, n9, n10, n12, n16, n22, n23, n24, n40, n48, n57, n60, n97, n99, n100, n119, n120, n238, n357, n999, n9999, n2231, Int32.add_zero, bI_t, bI_f, one_ne, K15, ↓G15_0, ↓G15_1, ↓U15_1, ↓G15_2, ↓U15_2, ↓G15_3, ↓U15_3, ↓G15_4, ↓U15_4, ↓G15_5, ↓U15_5, ↓bnd i1]
theorem p0_lr {P : Nat} : PR s P p0 ↔ s.1 P 1 = 0 ∧ s.1 P 2 = 0 ∧ s.1 P 3 = 0 ∧ s.1 P 4 = 0 ∧ s.1 P 5 = 0 ∧ s.1 P 6 = 0 ∧ s.1 P 7 = 0 := by
  constructor
  · intro h
    exact ⟨h.1, h.2.1, h.2.2.1, h.2.2.2.1, h.2.2.2.2.1, h.2.2.2.2.2.1, h.2.2.2.2.2.2.1⟩
  · intro ⟨h1, h2, h3, h4, h5, h6, h7⟩
    exact ⟨h1, h2, h3, h4, h5, h6, h7, by simp [p0], fun i hi => absurd hi (by simp [p0])⟩
set_option maxHeartbeats 8000000 in
theorem c_readPerson (d : Nat) (hT : TPc s tp) {p n : Nat} (h4 : s.1 15 4 = nI p) (hp : p < tp.length) (h3 : s.1 551 3 = nI n) (hn : n ≤ 6) (hz : n < 6 → PR s (553 + 3 * n) p0) : ∃ s', EvM (d + 3) 79 [.ref 15, .ref 551] (mkH scr s) = some (bI (decide ((rPer tp p n).1 = 0)), mkH scr s') ∧ FrQ s s' n ∧ s'.1 15 4 = nI (rPer tp p n).2.1 ∧ ((rPer tp p n).1 = 0 → s'.1 551 3 = nI (n + 1) ∧ PR s' (553 + 3 * n) (rPer tp p n).2.2) ∧ ((rPer tp p n).1 ≠ 0 → s'.1 15 2 = nI (rPer tp p n).1 ∧ s'.1 15 3 = nI (rPer tp p n).2.1) := by
  have hnb := c_nextByte (d + 1) (scr := scr) hT h4 (Nat.le_of_lt hp)
  rw [if_pos hp] at hnb
  have hc := (hT.2.2 p hp).2
  have hk := c_kindOf (d + 1) (h := mkH scr s) hc
  have hk6 := kdOf_lt (tp.getD p 0)
  have hf1 := c_fails (d + 1) (scr := scr) (s := s) 1
  have hf3 := c_fails (d + 1) (scr := scr) (s := s) (nI 3)
  have l120 := hT.2.1
  rw [ev79, e79_0]
  by_cases k0 : kdOf (tp.getD p 0) = 0
  · have hr : rPer tp p n = (1, p, (0, 0, 0, 0, 0, 0, [])) := if_pos k0
    rw [hr]
    refine ⟨_, ?_, (FrA_fails 1 (s.1 15 4)).q, ?_, fun z => absurd z (by simp), fun _ => ⟨?_, ?_⟩⟩
    · simp (disch := omega) only [e79_0, e79_1, e79_4, e79_7, e79_8, e79_9, e79_12, e79_13, e79_14, e79_17, e79_18, e79_19, e79_22, e79_24, e79_27, e79_28, e79_29, e79_32, e79_33, e79_34, e79_35, e79_38, e79_39, e79_40, e79_43, e79_44, e79_47, e79_48, e79_51, e79_52, e79_53, e79_54, e79_55, e79_58, e79_59, e79_60, e79_63, e79_64, e79_65, e79_68, e79_69, e79_70, e79_72, e79_75, e79_78, e79_79, e79_81, e79_84, e79_87, e79_88, e79_89, e79_90, e79_91, e79_94, e79_97, e79_98, e79_99, e79_101, e79_104, e79_107, e79_108, e79_110, e79_113, e79_116, e79_117, e79_118, e79_119, e79_120, e79_123, e79_126, e79_127, e79_128, e79_130, e79_133, e79_136, e79_137, e79_139, e79_142, e79_145, e79_146, e79_147, e79_148, e79_149, e79_152, e79_155, e79_156, ↓reduceIte, ↓gi0, ↓gr0, ↓gl0, ↓gi1, ↓gr1, ↓gl1, ↓gi2, ↓gr2, ↓gl2, ↓gi3, ↓gr3, ↓gl3, ↓gi4, ↓gr4, ↓gl4, ↓gi5, ↓gr5, ↓gl5, ↓gi6, ↓gr6, ↓gl6, ↓gi7, ↓gr7, ↓gl7, ↓gi8, ↓gr8, ↓gl8, ↓gi9, ↓gr9, ↓gl9, ↓qI, ↓qI2, ↓qL, ↓qL2, ↓qR, ↓qV, ↓pd0, ↓ta0, ↓ts0, ↓pd1, ↓ta1, ↓ts1, ↓pd2, ↓ta2, ↓ts2, ↓pd3, ↓ta3, ↓ts3, ↓pd4, ↓ta4, ↓ts4, ↓pd5, ↓ta5, ↓ts5, ↓pd6, ↓ta6, ↓ts6, lGet, lSet, okS, isLg, Bool.not_false, Bool.not_true, Bool.false_eq_true, not_false_eq_true, not_true_eq_false, catS, okR1, okR20, okR21, okR2b, List.length_cons, List.length_nil, List.drop_succ_cons, List.drop_zero, List.drop_nil, and_self, true_and, and_true, false_and, and_false, Nat.reduceAdd, Nat.reduceLeDiff, Nat.zero_add, Nat.le_refl, Nat.zero_le, pushR, reduceCtorEq, or_self, or_false, false_or, true_or, or_true, ltT, ltF, leT, leF, eqF, eqT, lt0F, ge0T, le0T, le0F, eq0T, eq0F, gt0T, gt0F, nI_add, nI_1, pk_mul, subT, sub1, divT, remN, natRem, K15, ↓bnd hnb, ↓bnd hk, k0, ↓bnd hf1, Nat.one_ne_zero, decide_false, bI_f]
    · rw [u2_oth _ _ (by omega), u2_oth _ _ (by omega)]; exact h4
    · rw [u2_oth _ _ (by omega), u2_same]; rfl
    · rw [u2_same]; exact h4
  · by_cases n6_ : 6 ≤ n
    · have hr : rPer tp p n = (3, p, (0, 0, 0, 0, 0, 0, [])) := (if_neg k0).trans (if_pos n6_)
      rw [hr]
      refine ⟨_, ?_, (FrA_fails (nI 3) (s.1 15 4)).q, ?_, fun z => absurd z (by simp), fun _ => ⟨?_, ?_⟩⟩
      · simp (disch := omega) only [e79_0, e79_1, e79_4, e79_7, e79_8, e79_9, e79_12, e79_13, e79_14, e79_17, e79_18, e79_19, e79_22, e79_24, e79_27, e79_28, e79_29, e79_32, e79_33, e79_34, e79_35, e79_38, e79_39, e79_40, e79_43, e79_44, e79_47, e79_48, e79_51, e79_52, e79_53, e79_54, e79_55, e79_58, e79_59, e79_60, e79_63, e79_64, e79_65, e79_68, e79_69, e79_70, e79_72, e79_75, e79_78, e79_79, e79_81, e79_84, e79_87, e79_88, e79_89, e79_90, e79_91, e79_94, e79_97, e79_98, e79_99, e79_101, e79_104, e79_107, e79_108, e79_110, e79_113, e79_116, e79_117, e79_118, e79_119, e79_120, e79_123, e79_126, e79_127, e79_128, e79_130, e79_133, e79_136, e79_137, e79_139, e79_142, e79_145, e79_146, e79_147, e79_148, e79_149, e79_152, e79_155, e79_156, ↓reduceIte, ↓gi0, ↓gr0, ↓gl0, ↓gi1, ↓gr1, ↓gl1, ↓gi2, ↓gr2, ↓gl2, ↓gi3, ↓gr3, ↓gl3, ↓gi4, ↓gr4, ↓gl4, ↓gi5, ↓gr5, ↓gl5, ↓gi6, ↓gr6, ↓gl6, ↓gi7, ↓gr7, ↓gl7, ↓gi8, ↓gr8, ↓gl8, ↓gi9, ↓gr9, ↓gl9, ↓qI, ↓qI2, ↓qL, ↓qL2, ↓qR, ↓qV, ↓pd0, ↓ta0, ↓ts0, ↓pd1, ↓ta1, ↓ts1, ↓pd2, ↓ta2, ↓ts2, ↓pd3, ↓ta3, ↓ts3, ↓pd4, ↓ta4, ↓ts4, ↓pd5, ↓ta5, ↓ts5, ↓pd6, ↓ta6, ↓ts6, lGet, lSet, okS, isLg, Bool.not_false, Bool.not_true, Bool.false_eq_true, not_false_eq_true, not_true_eq_false, catS, okR1, okR20, okR21, okR2b, List.length_cons, List.length_nil, List.drop_succ_cons, List.drop_zero, List.drop_nil, and_self, true_and, and_true, false_and, and_false, Nat.reduceAdd, Nat.reduceLeDiff, Nat.zero_add, Nat.le_refl, Nat.zero_le, pushR, reduceCtorEq, or_self, or_false, false_or, true_or, or_true, ltT, ltF, leT, leF, eqF, eqT, lt0F, ge0T, le0T, le0F, eq0T, eq0F, gt0T, gt0F, nI_add, nI_1, pk_mul, subT, sub1, divT, remN, natRem, n2, n3, n4, n5, n6, n7, n8, n9, n10, n12, n16, n22, n23, n24, n40, n48, n57, n60, n97, n99, n100, n119, n120, n238, n357, n999, n9999, n2231, Int32.add_zero, K15, ↓bnd hnb, ↓bnd hk, ↓sc_g 3 (by decide), h3, ↓bnd hf3]
        rfl
      · rw [u2_oth _ _ (by omega), u2_oth _ _ (by omega)]; exact h4
      · rw [u2_oth _ _ (by omega), u2_same]
      · rw [u2_same]; exact h4
    · have hn6 : n < 6 := by omega
      obtain ⟨z1, z2, z3, z4, z5, z6, z7⟩ := p0_lr.mp (hz hn6)
      have q4 : (u2 s 15 4 (nI (p + 1))).1 551 3 = nI n := by rw [u2_oth _ _ (by omega)]; exact h3
      have hs0 : ∃ s0, s0 = u2 (u2 (u2 s 15 4 (nI (p + 1))) 551 3 (nI (n + 1))) (553 + 3 * n) 1 (nI (kdOf (tp.getD p 0))) := ⟨_, rfl⟩
      obtain ⟨s0, es0⟩ := hs0
      have F0 : FrQ s s0 n := by
        rw [es0]
        exact ⟨rfl, fun a k x y z => by rw [u2_oth _ _ (by omega), u2_oth _ _ (by omega), u2_oth _ _ (by omega)]⟩
      have T0 := FrQ.tpc hT F0
      have p0_ : s0.1 15 4 = nI (p + 1) := by rw [es0, u2_oth _ _ (by omega), u2_oth _ _ (by omega), u2_same]
      have m0_ : s0.1 551 3 = nI (n + 1) := by rw [es0, u2_oth _ _ (by omega), u2_same]
      have k0_ : s0.1 (553 + 3 * n) 1 = nI (kdOf (tp.getD p 0)) := by rw [es0, u2_same]
      have o0_ : ∀ k, 2 ≤ k → s0.1 (553 + 3 * n) k = s.1 (553 + 3 * n) k := fun k hk => by rw [es0, u2_oth _ _ (by omega), u2_oth _ _ (by omega), u2_oth _ _ (by omega)]
      have hgo : ∀ r, EvI (EvM (d + 2)) C79 2 68 [.ref 15, .ref 551, .int (nI (kdOf (tp.getD p 0))), .ref (553 + 3 * n)] [] (mkH scr s0) = r → EvI (EvM (d + 2)) C79 2 1 [.ref 15, .ref 551, jk, jk] [.ref 15] (mkH scr s) = r := by
        intro r hr
        rw [← hr, es0]
        simp (disch := omega) only [e79_0, e79_1, e79_4, e79_7, e79_8, e79_9, e79_12, e79_13, e79_14, e79_17, e79_18, e79_19, e79_22, e79_24, e79_27, e79_28, e79_29, e79_32, e79_33, e79_34, e79_35, e79_38, e79_39, e79_40, e79_43, e79_44, e79_47, e79_48, e79_51, e79_52, e79_53, e79_54, e79_55, e79_58, e79_59, e79_60, e79_63, e79_64, e79_65, e79_69, e79_70, e79_72, e79_75, e79_78, e79_79, e79_81, e79_84, e79_87, e79_88, e79_89, e79_90, e79_91, e79_94, e79_97, e79_98, e79_99, e79_101, e79_104, e79_107, e79_108, e79_110, e79_113, e79_116, e79_117, e79_118, e79_119, e79_120, e79_123, e79_126, e79_127, e79_128, e79_130, e79_133, e79_136, e79_137, e79_139, e79_142, e79_145, e79_146, e79_147, e79_148, e79_149, e79_152, e79_155, e79_156, ↓reduceIte, ↓gi0, ↓gr0, ↓gl0, ↓gi1, ↓gr1, ↓gl1, ↓gi2, ↓gr2, ↓gl2, ↓gi3, ↓gr3, ↓gl3, ↓gi4, ↓gr4, ↓gl4, ↓gi5, ↓gr5, ↓gl5, ↓gi6, ↓gr6, ↓gl6, ↓gi7, ↓gr7, ↓gl7, ↓gi8, ↓gr8, ↓gl8, ↓gi9, ↓gr9, ↓gl9, ↓qI, ↓qI2, ↓qL, ↓qL2, ↓qR, ↓qV, ↓pd0, ↓ta0, ↓ts0, ↓pd1, ↓ta1, ↓ts1, ↓pd2, ↓ta2, ↓ts2, ↓pd3, ↓ta3, ↓ts3, ↓pd4, ↓ta4, ↓ts4, ↓pd5, ↓ta5, ↓ts5, ↓pd6, ↓ta6, ↓ts6, lGet, lSet, okS, isLg, Bool.not_false, Bool.not_true, Bool.false_eq_true, not_false_eq_true, not_true_eq_false, catS, okR1, okR20, okR21, okR2b, List.length_cons, List.length_nil, List.drop_succ_cons, List.drop_zero, List.drop_nil, and_self, true_and, and_true, false_and, and_false, Nat.reduceAdd, Nat.reduceLeDiff, Nat.zero_add, Nat.le_refl, Nat.zero_le, pushR, reduceCtorEq, or_self, or_false, false_or, true_or, or_true, ltT, ltF, leT, leF, eqF, eqT, lt0F, ge0T, le0T, le0F, eq0T, eq0F, gt0T, gt0F, nI_add, nI_1, pk_mul, subT, sub1, divT, remN, natRem, n2, n3, n4, n5, n6, n7, n8, n9, n10, n12, n16, n22, n23, n24, n40, n48, n57, n60, n97, n99, n100, n119, n120, n238, n357, n999, n9999, n2231, Int32.add_zero, K15, ↓G15_0, ↓G15_1, ↓U15_1, ↓G15_2, ↓U15_2, ↓G15_3, ↓U15_3, ↓G15_4, ↓U15_4, ↓G15_5, ↓U15_5, ↓bnd hnb, ↓bnd hk, ↓sc_g 3 (by decide), ↓sc_p 3 (by decide), h3, h4, q4, ↓sc_a, ↓sc_l, ↓ps_p 1 (by decide)]
      have hR : rPer tp p n = if (rNB tp (p + 1) 0 9 44).1 = 0 then
          if (rNB tp (rNB tp (p + 1) 0 9 44).2.1 0 99 44).1 = 0 then
            ((rNB tp (rNB tp (rNB tp (p + 1) 0 9 44).2.1 0 99 44).2.1 0 99 59).1, (rNB tp (rNB tp (rNB tp (p + 1) 0 9 44).2.1 0 99 44).2.1 0 99 59).2.1, (kdOf (tp.getD p 0), (rNB tp (p + 1) 0 9 44).2.2, (rNB tp (rNB tp (p + 1) 0 9 44).2.1 0 99 44).2.2, nI (rNB tp (rNB tp (rNB tp (p + 1) 0 9 44).2.1 0 99 44).2.1 0 99 59).2.2, 0, 0, []))
          else ((rNB tp (rNB tp (p + 1) 0 9 44).2.1 0 99 44).1, (rNB tp (rNB tp (p + 1) 0 9 44).2.1 0 99 44).2.1, (0, 0, 0, 0, 0, 0, []))
        else ((rNB tp (p + 1) 0 9 44).1, (rNB tp (p + 1) 0 9 44).2.1, (0, 0, 0, 0, 0, 0, [])) := (if_neg k0).trans (if_neg n6_)
      have pP := perS hn6
      obtain ⟨s1, e1, f1, t1⟩ := st79_68 d (scr := scr) T0 p0_ hp (.int (nI (kdOf (tp.getD p 0)))) (.ref (553 + 3 * n))
      have l1 := (rNB_le (lo := 0) (hi := 9) (c := 44) (show p + 1 ≤ tp.length from hp)).1
      by_cases c1 : (rNB tp (p + 1) 0 9 44).1 = 0
      case neg =>
        rw [if_neg c1] at hR e1
        rw [hR]
        refine ⟨s1, hgo _ ?_, F0.tr f1.q, t1.1, fun z => absurd z c1, t1.2.2⟩
        rw [e1, decide_eq_false c1]
        rfl
      rw [if_pos c1] at hR e1
      have F1 : FrQ s (u2 s1 (553 + 3 * n) 2 (s1.1 15 5)) n := (F0.tr f1.q).tr (FrQ.u (by decide) hn6)
      obtain ⟨s2, e2, f2, t2⟩ := st79_97 d (scr := scr) (FrQ.tpc hT F1) (by rw [u2_oth _ _ (by omega)]; exact t1.1) l1 (.int (nI (kdOf (tp.getD p 0)))) (.ref (553 + 3 * n))
      have l2 := (rNB_le (lo := 0) (hi := 99) (c := 44) l1).1
      have g1 : EvI (EvM (d + 2)) C79 2 89 [.ref 15, .ref 551, .int (nI (kdOf (tp.getD p 0))), .ref (553 + 3 * n)] [] (mkH scr s1) = EvI (EvM (d + 2)) C79 2 97 [.ref 15, .ref 551, .int (nI (kdOf (tp.getD p 0))), .ref (553 + 3 * n)] [] (mkH scr (u2 s1 (553 + 3 * n) 2 (s1.1 15 5))) := by
        rw [e79_89]
        simp (disch := omega) only [e79_0, e79_1, e79_4, e79_7, e79_8, e79_9, e79_12, e79_13, e79_14, e79_17, e79_18, e79_19, e79_22, e79_24, e79_27, e79_28, e79_29, e79_32, e79_33, e79_34, e79_35, e79_38, e79_39, e79_40, e79_43, e79_44, e79_47, e79_48, e79_51, e79_52, e79_53, e79_54, e79_55, e79_58, e79_59, e79_60, e79_63, e79_64, e79_65, e79_68, e79_69, e79_70, e79_72, e79_75, e79_78, e79_79, e79_81, e79_84, e79_87, e79_88, e79_89, e79_90, e79_91, e79_94, e79_98, e79_99, e79_101, e79_104, e79_107, e79_108, e79_110, e79_113, e79_116, e79_117, e79_118, e79_119, e79_120, e79_123, e79_126, e79_127, e79_128, e79_130, e79_133, e79_136, e79_137, e79_139, e79_142, e79_145, e79_146, e79_147, e79_148, e79_149, e79_152, e79_155, e79_156, ↓reduceIte, ↓gi0, ↓gr0, ↓gl0, ↓gi1, ↓gr1, ↓gl1, ↓gi2, ↓gr2, ↓gl2, ↓gi3, ↓gr3, ↓gl3, ↓gi4, ↓gr4, ↓gl4, ↓gi5, ↓gr5, ↓gl5, ↓gi6, ↓gr6, ↓gl6, ↓gi7, ↓gr7, ↓gl7, ↓gi8, ↓gr8, ↓gl8, ↓gi9, ↓gr9, ↓gl9, ↓qI, ↓qI2, ↓qL, ↓qL2, ↓qR, ↓qV, ↓pd0, ↓ta0, ↓ts0, ↓pd1, ↓ta1, ↓ts1, ↓pd2, ↓ta2, ↓ts2, ↓pd3, ↓ta3, ↓ts3, ↓pd4, ↓ta4, ↓ts4, ↓pd5, ↓ta5, ↓ts5, ↓pd6, ↓ta6, ↓ts6, lGet, lSet, okS, isLg, Bool.not_false, Bool.not_true, Bool.false_eq_true, not_false_eq_true, not_true_eq_false, catS, okR1, okR20, okR21, okR2b, List.length_cons, List.length_nil, List.drop_succ_cons, List.drop_zero, List.drop_nil, and_self, true_and, and_true, false_and, and_false, Nat.reduceAdd, Nat.reduceLeDiff, Nat.zero_add, Nat.le_refl, Nat.zero_le, pushR, reduceCtorEq, or_self, or_false, false_or, true_or, or_true, K15, ↓G15_0, ↓G15_1, ↓U15_1, ↓G15_2, ↓U15_2, ↓G15_3, ↓U15_3, ↓G15_4, ↓U15_4, ↓G15_5, ↓U15_5, ↓ps_p 2 (by decide)]
      by_cases c2 : (rNB tp (rNB tp (p + 1) 0 9 44).2.1 0 99 44).1 = 0
      case neg =>
        rw [if_neg c2] at hR e2
        rw [hR]
        refine ⟨s2, hgo _ ?_, F1.tr f2.q, t2.1, fun z => absurd z c2, t2.2.2⟩
        rw [e1, g1, e2, decide_eq_false c2]
        rfl
      rw [if_pos c2] at hR e2
      have F2 : FrQ s (u2 s2 (553 + 3 * n) 3 (s2.1 15 5)) n := (F1.tr f2.q).tr (FrQ.u (by decide) hn6)
      obtain ⟨s3, e3, f3, t3⟩ := st79_126 d (scr := scr) (FrQ.tpc hT F2) (by rw [u2_oth _ _ (by omega)]; exact t2.1) l2 (.int (nI (kdOf (tp.getD p 0)))) (.ref (553 + 3 * n))
      have g2 : EvI (EvM (d + 2)) C79 2 118 [.ref 15, .ref 551, .int (nI (kdOf (tp.getD p 0))), .ref (553 + 3 * n)] [] (mkH scr s2) = EvI (EvM (d + 2)) C79 2 126 [.ref 15, .ref 551, .int (nI (kdOf (tp.getD p 0))), .ref (553 + 3 * n)] [] (mkH scr (u2 s2 (553 + 3 * n) 3 (s2.1 15 5))) := by
        rw [e79_118]
        simp (disch := omega) only [e79_0, e79_1, e79_4, e79_7, e79_8, e79_9, e79_12, e79_13, e79_14, e79_17, e79_18, e79_19, e79_22, e79_24, e79_27, e79_28, e79_29, e79_32, e79_33, e79_34, e79_35, e79_38, e79_39, e79_40, e79_43, e79_44, e79_47, e79_48, e79_51, e79_52, e79_53, e79_54, e79_55, e79_58, e79_59, e79_60, e79_63, e79_64, e79_65, e79_68, e79_69, e79_70, e79_72, e79_75, e79_78, e79_79, e79_81, e79_84, e79_87, e79_88, e79_89, e79_90, e79_91, e79_94, e79_97, e79_98, e79_99, e79_101, e79_104, e79_107, e79_108, e79_110, e79_113, e79_116, e79_117, e79_118, e79_119, e79_120, e79_123, e79_127, e79_128, e79_130, e79_133, e79_136, e79_137, e79_139, e79_142, e79_145, e79_146, e79_147, e79_148, e79_149, e79_152, e79_155, e79_156, ↓reduceIte, ↓gi0, ↓gr0, ↓gl0, ↓gi1, ↓gr1, ↓gl1, ↓gi2, ↓gr2, ↓gl2, ↓gi3, ↓gr3, ↓gl3, ↓gi4, ↓gr4, ↓gl4, ↓gi5, ↓gr5, ↓gl5, ↓gi6, ↓gr6, ↓gl6, ↓gi7, ↓gr7, ↓gl7, ↓gi8, ↓gr8, ↓gl8, ↓gi9, ↓gr9, ↓gl9, ↓qI, ↓qI2, ↓qL, ↓qL2, ↓qR, ↓qV, ↓pd0, ↓ta0, ↓ts0, ↓pd1, ↓ta1, ↓ts1, ↓pd2, ↓ta2, ↓ts2, ↓pd3, ↓ta3, ↓ts3, ↓pd4, ↓ta4, ↓ts4, ↓pd5, ↓ta5, ↓ts5, ↓pd6, ↓ta6, ↓ts6, lGet, lSet, okS, isLg, Bool.not_false, Bool.not_true, Bool.false_eq_true, not_false_eq_true, not_true_eq_false, catS, okR1, okR20, okR21, okR2b, List.length_cons, List.length_nil, List.drop_succ_cons, List.drop_zero, List.drop_nil, and_self, true_and, and_true, false_and, and_false, Nat.reduceAdd, Nat.reduceLeDiff, Nat.zero_add, Nat.le_refl, Nat.zero_le, pushR, reduceCtorEq, or_self, or_false, false_or, true_or, or_true, K15, ↓G15_0, ↓G15_1, ↓U15_1, ↓G15_2, ↓U15_2, ↓G15_3, ↓U15_3, ↓G15_4, ↓U15_4, ↓G15_5, ↓U15_5, ↓ps_p 3 (by decide)]
      by_cases c3 : (rNB tp (rNB tp (rNB tp (p + 1) 0 9 44).2.1 0 99 44).2.1 0 99 59).1 = 0
      case neg =>
        rw [if_neg c3] at e3
        rw [hR]
        refine ⟨s3, hgo _ ?_, F2.tr f3.q, t3.1, fun z => absurd z c3, t3.2.2⟩
        rw [e1, g1, e2, g2, e3, decide_eq_false c3]
        rfl
      rw [if_pos c3] at e3
      have v1 := t1.2.1 c1
      have v2 := t2.2.1 c2
      have v3 := t3.2.1 c3
      rw [hR]
      refine ⟨u2 s3 (553 + 3 * n) 4 (s3.1 15 5), hgo _ ?_, (F2.tr f3.q).tr (FrQ.u (by decide) hn6), ?_, fun _ => ⟨?_, ?_⟩, fun z => absurd c3 z⟩
      · rw [e1, g1, e2, g2, e3, decide_eq_true c3, e79_147]
        simp (disch := omega) only [e79_0, e79_1, e79_4, e79_7, e79_8, e79_9, e79_12, e79_13, e79_14, e79_17, e79_18, e79_19, e79_22, e79_24, e79_27, e79_28, e79_29, e79_32, e79_33, e79_34, e79_35, e79_38, e79_39, e79_40, e79_43, e79_44, e79_47, e79_48, e79_51, e79_52, e79_53, e79_54, e79_55, e79_58, e79_59, e79_60, e79_63, e79_64, e79_65, e79_68, e79_69, e79_70, e79_72, e79_75, e79_78, e79_79, e79_81, e79_84, e79_87, e79_88, e79_89, e79_90, e79_91, e79_94, e79_97, e79_98, e79_99, e79_101, e79_104, e79_107, e79_108, e79_110, e79_113, e79_116, e79_117, e79_118, e79_119, e79_120, e79_123, e79_127, e79_128, e79_130, e79_133, e79_136, e79_137, e79_139, e79_142, e79_145, e79_146, e79_147, e79_148, e79_149, e79_152, e79_155, e79_156, ↓reduceIte, ↓gi0, ↓gr0, ↓gl0, ↓gi1, ↓gr1, ↓gl1, ↓gi2, ↓gr2, ↓gl2, ↓gi3, ↓gr3, ↓gl3, ↓gi4, ↓gr4, ↓gl4, ↓gi5, ↓gr5, ↓gl5, ↓gi6, ↓gr6, ↓gl6, ↓gi7, ↓gr7, ↓gl7, ↓gi8, ↓gr8, ↓gl8, ↓gi9, ↓gr9, ↓gl9, ↓qI, ↓qI2, ↓qL, ↓qL2, ↓qR, ↓qV, ↓pd0, ↓ta0, ↓ts0, ↓pd1, ↓ta1, ↓ts1, ↓pd2, ↓ta2, ↓ts2, ↓pd3, ↓ta3, ↓ts3, ↓pd4, ↓ta4, ↓ts4, ↓pd5, ↓ta5, ↓ts5, ↓pd6, ↓ta6, ↓ts6, lGet, lSet, okS, isLg, Bool.not_false, Bool.not_true, Bool.false_eq_true, not_false_eq_true, not_true_eq_false, catS, okR1, okR20, okR21, okR2b, List.length_cons, List.length_nil, List.drop_succ_cons, List.drop_zero, List.drop_nil, and_self, true_and, and_true, false_and, and_false, Nat.reduceAdd, Nat.reduceLeDiff, Nat.zero_add, Nat.le_refl, Nat.zero_le, pushR, reduceCtorEq, or_self, or_false, false_or, true_or, or_true, K15, ↓G15_0, ↓G15_1, ↓U15_1, ↓G15_2, ↓U15_2, ↓G15_3, ↓U15_3, ↓G15_4, ↓U15_4, ↓G15_5, ↓U15_5, ↓ps_p 4 (by decide), bI_t]
      · rw [u2_oth _ _ (by omega)]; exact t3.1
      · simp (disch := omega) only [u2_oth, f3.2, f2.2, f1.2, m0_]
      · refine ⟨?_, ?_, ?_, ?_, ?_, ?_, ?_, by simp, fun i hi => absurd hi (by simp)⟩
        · simp (disch := omega) only [u2_oth, f3.2, f2.2, f1.2, k0_]
        · simp (disch := omega) only [u2_oth, u2_same, f3.2, f2.2, v1]
        · simp (disch := omega) only [u2_oth, u2_same, f3.2, v2]
        · simp (disch := omega) only [u2_same, v3]
        · simp (disch := omega) only [u2_oth, f3.2, f2.2, f1.2, o0_, z5]; rfl
        · simp (disch := omega) only [u2_oth, f3.2, f2.2, f1.2, o0_, z6]
        · simp (disch := omega) only [u2_oth, f3.2, f2.2, f1.2, o0_, z7]; rfl
/-- what reading may touch -/
def FrR (s s' : ST) : Prop := s'.2 = s.2 ∧ ∀ a k, ¬ (a = 15 ∧ 2 ≤ k ∧ k < 6) → ¬ (551 ≤ a ∧ a < 571) → s'.1 a k = s.1 a k
theorem FrR.tr {s s1 s2 : ST} (h : FrR s s1) (g : FrR s1 s2) : FrR s s2 := ⟨g.1.trans h.1, fun a k x y => (g.2 a k x y).trans (h.2 a k x y)⟩
theorem FrR.tpc {s s' : ST} (h : TPc s tp) (g : FrR s s') : TPc s' tp := h.ext (g.2 15 1 (by omega) (by omega)) (fun k => g.2 16 k (by omega) (by omega))
theorem FrQ.r {s s' : ST} {n : Nat} (hn : n < 6) (g : FrQ s s' n) : FrR s s' := ⟨g.1, fun a k x y => g.2 a k x (by omega) (by omega)⟩
set_option maxHeartbeats 4000000 in
theorem rd_loop (d : Nat) : ∀ (k j : Nat) (s : ST) (ps : List PT) (p : Nat), j + k = 7 → TPc s tp → s.1 15 4 = nI p → p ≤ tp.length → RdC s ps → ps.length = j → ∃ s', EvI (EvM (d + 3)) C77 2 21 [.ref 15, .ref 551, .int (nI j)] [] (mkH scr s) = some (bI (decide ((rAll tp k p ps).1 = 0)), mkH scr s') ∧ (FrR s s' ∧ ∀ m, m ≠ 3 → s'.1 551 m = s.1 551 m) ∧ ((rAll tp k p ps).1 = 0 → RdC s' (rAll tp k p ps).2.2) ∧ ((rAll tp k p ps).1 ≠ 0 → s'.1 15 2 = nI (rAll tp k p ps).1 ∧ s'.1 15 3 = nI (rAll tp k p ps).2.1)
  | 0, j, s, ps, p, hj, hT, h4, hp, hR, hl => by have := hR.2.2.1; omega
  | k + 1, j, s, ps, p, hj, hT, h4, hp, hR, hl => by
    have l120 := hT.2.1
    have h1 := hT.1
    have l6 := hR.2.2.1
    have hA : rAll tp (k + 1) p ps = if p < tp.length then (if (rPer tp p ps.length).1 = 0 then rAll tp k (rPer tp p ps.length).2.1 (ps ++ [(rPer tp p ps.length).2.2]) else ((rPer tp p ps.length).1, (rPer tp p ps.length).2.1, ps)) else (0, p, ps) := rfl
    rw [e77_21]
    by_cases hlt : p < tp.length
    case neg =>
      rw [hA, if_neg hlt]
      refine ⟨s, ?_, ⟨⟨rfl, fun _ _ _ _ => rfl⟩, fun _ _ => rfl⟩, fun _ => hR, fun z => absurd rfl z⟩
      simp (disch := omega) only [e77_0, e77_1, e77_2, e77_5, e77_6, e77_9, e77_10, e77_11, e77_14, e77_17, e77_18, e77_19, e77_20, e77_22, e77_24, e77_27, e77_28, e77_31, e77_32, e77_35, e77_38, e77_39, e77_40, e77_43, e77_46, e77_47, e77_48, e77_51, e77_54, e77_55, ↓reduceIte, ↓gi0, ↓gr0, ↓gl0, ↓gi1, ↓gr1, ↓gl1, ↓gi2, ↓gr2, ↓gl2, ↓gi3, ↓gr3, ↓gl3, ↓gi4, ↓gr4, ↓gl4, ↓gi5, ↓gr5, ↓gl5, ↓gi6, ↓gr6, ↓gl6, ↓gi7, ↓gr7, ↓gl7, ↓gi8, ↓gr8, ↓gl8, ↓gi9, ↓gr9, ↓gl9, ↓qI, ↓qI2, ↓qL, ↓qL2, ↓qR, ↓qV, ↓pd0, ↓ta0, ↓ts0, ↓pd1, ↓ta1, ↓ts1, ↓pd2, ↓ta2, ↓ts2, ↓pd3, ↓ta3, ↓ts3, ↓pd4, ↓ta4, ↓ts4, ↓pd5, ↓ta5, ↓ts5, ↓pd6, ↓ta6, ↓ts6, lGet, lSet, okS, isLg, Bool.not_false, Bool.not_true, Bool.false_eq_true, not_false_eq_true, not_true_eq_false, catS, okR1, okR20, okR21, okR2b, List.length_cons, List.length_nil, List.drop_succ_cons, List.drop_zero, List.drop_nil, and_self, true_and, and_true, false_and, and_false, Nat.reduceAdd, Nat.reduceLeDiff, Nat.zero_add, Nat.le_refl, Nat.zero_le, pushR, reduceCtorEq, or_self, or_false, false_or, true_or, or_true, ltT, ltF, leT, leF, eqF, eqT, lt0F, ge0T, le0T, le0F, eq0T, eq0F, gt0T, gt0F, nI_add, nI_1, pk_mul, subT, sub1, divT, remN, natRem, n2, n3, n4, n5, n6, n7, n8, n9, n10, n12, n16, n22, n23, n24, n40, n48, n57, n60, n97, n99, n100, n119, n120, n238, n357, n999, n9999, n2231, Int32.add_zero, bI_t, bI_f, one_ne, K15, ↓G15_0, ↓G15_1, ↓U15_1, ↓G15_2, ↓U15_2, ↓G15_3, ↓U15_3, ↓G15_4, ↓U15_4, ↓G15_5, ↓U15_5, h4, h1, decide_true]
    rw [if_pos hlt] at hA
    obtain ⟨s1, a1, a2, a3, a4, a5⟩ := c_readPerson d (scr := scr) hT h4 hlt hR.2.1 l6 (fun z => by
      have := hR.2.2.2 ps.length z
      rwa [gD_ge (Nat.le_refl _)] at this)
    by_cases hc : (rPer tp p ps.length).1 = 0
    case neg =>
      rw [if_neg hc] at hA
      rw [hA]
      rw [decide_eq_false hc] at a1
      refine ⟨s1, ?_, ⟨⟨a2.1, fun a k x y => a2.2 a k x (by omega) (fun z => y (by omega))⟩, fun m hm => a2.2 551 m (by omega) (by omega) (by omega)⟩, fun z => absurd z hc, fun z => a5 hc⟩
      rw [decide_eq_false hc]
      simp (disch := omega) only [e77_0, e77_1, e77_2, e77_5, e77_6, e77_9, e77_10, e77_11, e77_14, e77_17, e77_18, e77_19, e77_20, e77_22, e77_24, e77_27, e77_28, e77_31, e77_32, e77_35, e77_38, e77_39, e77_40, e77_43, e77_46, e77_47, e77_48, e77_51, e77_54, e77_55, ↓reduceIte, ↓gi0, ↓gr0, ↓gl0, ↓gi1, ↓gr1, ↓gl1, ↓gi2, ↓gr2, ↓gl2, ↓gi3, ↓gr3, ↓gl3, ↓gi4, ↓gr4, ↓gl4, ↓gi5, ↓gr5, ↓gl5, ↓gi6, ↓gr6, ↓gl6, ↓gi7, ↓gr7, ↓gl7, ↓gi8, ↓gr8, ↓gl8, ↓gi9, ↓gr9, ↓gl9, ↓qI, ↓qI2, ↓qL, ↓qL2, ↓qR, ↓qV, ↓pd0, ↓ta0, ↓ts0, ↓pd1, ↓ta1, ↓ts1, ↓pd2, ↓ta2, ↓ts2, ↓pd3, ↓ta3, ↓ts3, ↓pd4, ↓ta4, ↓ts4, ↓pd5, ↓ta5, ↓ts5, ↓pd6, ↓ta6, ↓ts6, lGet, lSet, okS, isLg, Bool.not_false, Bool.not_true, Bool.false_eq_true, not_false_eq_true, not_true_eq_false, catS, okR1, okR20, okR21, okR2b, List.length_cons, List.length_nil, List.drop_succ_cons, List.drop_zero, List.drop_nil, and_self, true_and, and_true, false_and, and_false, Nat.reduceAdd, Nat.reduceLeDiff, Nat.zero_add, Nat.le_refl, Nat.zero_le, pushR, reduceCtorEq, or_self, or_false, false_or, true_or, or_true, ltT, ltF, leT, leF, eqF, eqT, lt0F, ge0T, le0T, le0F, eq0T, eq0F, gt0T, gt0F, nI_add, nI_1, pk_mul, subT, sub1, divT, remN, natRem, n2, n3, n4, n5, n6, n7, n8, n9, n10, n12, n16, n22, n23, n24, n40, n48, n57, n60, n97, n99, n100, n119, n120, n238, n357, n999, n9999, n2231, Int32.add_zero, bI_t, bI_f, one_ne, K15, ↓G15_0, ↓G15_1, ↓U15_1, ↓G15_2, ↓U15_2, ↓G15_3, ↓U15_3, ↓G15_4, ↓U15_4, ↓G15_5, ↓U15_5, h4, h1, ↓bnd a1]
    rw [if_pos hc] at hA
    rw [hA]
    rw [decide_eq_true hc] at a1
    have n6_ := rPer_n hc
    obtain ⟨b1, b2⟩ := a4 hc
    have hR1 : RdC s1 (ps ++ [(rPer tp p ps.length).2.2]) := by
      refine ⟨by rw [a2.2 551 2 (by omega) (by omega) (by omega)]; exact hR.1, by rw [List.length_append]; exact b1, by rw [List.length_append, List.length_singleton]; omega, fun i hi => ?_⟩
      by_cases e : i = ps.length
      · subst e
        rw [gD_at]
        exact b2
      · have h0 := hR.2.2.2 i hi
        have e2 : (ps ++ [(rPer tp p ps.length).2.2]).getD i p0 = ps.getD i p0 := by
          by_cases e3 : i < ps.length
          · rw [gD_lt e3]
          · rw [gD_ge (by rw [List.length_append, List.length_singleton]; omega), gD_ge (by omega)]
        rw [e2]
        exact PR_ext h0 (fun a k x y => a2.2 a k (by omega) (by omega) (by omega))
    obtain ⟨s2, c1, c2, c3, c4⟩ := rd_loop d k (j + 1) s1 (ps ++ [(rPer tp p ps.length).2.2]) (rPer tp p ps.length).2.1 (by omega) (FrQ.tpc hT a2) a3 (rPer_le hlt).1 hR1 (by rw [List.length_append, List.length_singleton, hl])
    refine ⟨s2, ?_, ⟨(a2.r n6_).tr c2.1, fun m hm => (c2.2 m hm).trans (a2.2 551 m (by omega) (by omega) (by omega))⟩, c3, c4⟩
    rw [← c1]
    simp (disch := omega) only [e77_0, e77_1, e77_2, e77_5, e77_6, e77_9, e77_10, e77_11, e77_14, e77_17, e77_18, e77_19, e77_20, e77_22, e77_24, e77_27, e77_28, e77_31, e77_32, e77_35, e77_38, e77_39, e77_40, e77_43, e77_46, e77_47, e77_48, e77_51, e77_54, e77_55, ↓reduceIte, ↓gi0, ↓gr0, ↓gl0, ↓gi1, ↓gr1, ↓gl1, ↓gi2, ↓gr2, ↓gl2, ↓gi3, ↓gr3, ↓gl3, ↓gi4, ↓gr4, ↓gl4, ↓gi5, ↓gr5, ↓gl5, ↓gi6, ↓gr6, ↓gl6, ↓gi7, ↓gr7, ↓gl7, ↓gi8, ↓gr8, ↓gl8, ↓gi9, ↓gr9, ↓gl9, ↓qI, ↓qI2, ↓qL, ↓qL2, ↓qR, ↓qV, ↓pd0, ↓ta0, ↓ts0, ↓pd1, ↓ta1, ↓ts1, ↓pd2, ↓ta2, ↓ts2, ↓pd3, ↓ta3, ↓ts3, ↓pd4, ↓ta4, ↓ts4, ↓pd5, ↓ta5, ↓ts5, ↓pd6, ↓ta6, ↓ts6, lGet, lSet, okS, isLg, Bool.not_false, Bool.not_true, Bool.false_eq_true, not_false_eq_true, not_true_eq_false, catS, okR1, okR20, okR21, okR2b, List.length_cons, List.length_nil, List.drop_succ_cons, List.drop_zero, List.drop_nil, and_self, true_and, and_true, false_and, and_false, Nat.reduceAdd, Nat.reduceLeDiff, Nat.zero_add, Nat.le_refl, Nat.zero_le, pushR, reduceCtorEq, or_self, or_false, false_or, true_or, or_true, ltT, ltF, leT, leF, eqF, eqT, lt0F, ge0T, le0T, le0F, eq0T, eq0F, gt0T, gt0F, nI_add, nI_1, pk_mul, subT, sub1, divT, remN, natRem, n2, n3, n4, n5, n6, n7, n8, n9, n10, n12, n16, n22, n23, n24, n40, n48, n57, n60, n97, n99, n100, n119, n120, n238, n357, n999, n9999, n2231, Int32.add_zero, bI_t, bI_f, one_ne, K15, ↓G15_0, ↓G15_1, ↓U15_1, ↓G15_2, ↓U15_2, ↓G15_3, ↓U15_3, ↓G15_4, ↓U15_4, ↓G15_5, ↓U15_5, h4, h1, ↓bnd a1]
theorem c_readInto (d : Nat) (hT : TPc s tp) : ∃ s', EvM (d + 4) 77 [.ref 15, .ref 551] (mkH scr s) = some (bI (decide ((rCty tp).1 = 0)), mkH scr s') ∧ FrR s s' ∧ ((rCty tp).1 = 0 → CR s' 551 (rCty tp).2.2) ∧ ((rCty tp).1 ≠ 0 → s'.1 15 2 = nI (rCty tp).1 ∧ s'.1 15 3 = nI (rCty tp).2.1) := by
  obtain ⟨s1, a1, a2, a3, a4, a5⟩ := c_cClear (d + 1) (scr := scr) (s := u2 s 15 4 0) cty551
  have r1 : FrR s s1 := ⟨a5.1, fun a k x y => by rw [a5.2.1 a k (by omega), u2_oth _ _ (by omega)]⟩
  have T1 := FrR.tpc hT r1
  obtain ⟨s2, b1, b2, b3, b4, b5⟩ := c_readLaw d (scr := scr) T1 (by rw [a5.2.1 15 4 (by omega), u2_same]; rfl)
  have r2 : FrR s s2 := r1.tr ⟨b2.1, fun a k x y => b2.2 a k x (by omega)⟩
  rw [ev77, e77_0]
  by_cases hc : (rLaw tp).1 = 0
  case neg =>
    have hr : rCty tp = ((rLaw tp).1, (rLaw tp).2.1, (1, 1, 0, 0, fun _ => p0)) := if_neg hc
    rw [hr]
    rw [decide_eq_false hc] at b1
    refine ⟨s2, ?_, r2, fun z => absurd z hc, fun z => b5 hc⟩
    rw [decide_eq_false hc]
    simp (disch := omega) only [e77_0, e77_1, e77_2, e77_5, e77_6, e77_9, e77_10, e77_11, e77_14, e77_17, e77_18, e77_19, e77_20, e77_22, e77_24, e77_27, e77_28, e77_31, e77_32, e77_35, e77_38, e77_39, e77_40, e77_43, e77_46, e77_47, e77_48, e77_51, e77_54, e77_55, ↓reduceIte, ↓gi0, ↓gr0, ↓gl0, ↓gi1, ↓gr1, ↓gl1, ↓gi2, ↓gr2, ↓gl2, ↓gi3, ↓gr3, ↓gl3, ↓gi4, ↓gr4, ↓gl4, ↓gi5, ↓gr5, ↓gl5, ↓gi6, ↓gr6, ↓gl6, ↓gi7, ↓gr7, ↓gl7, ↓gi8, ↓gr8, ↓gl8, ↓gi9, ↓gr9, ↓gl9, ↓qI, ↓qI2, ↓qL, ↓qL2, ↓qR, ↓qV, ↓pd0, ↓ta0, ↓ts0, ↓pd1, ↓ta1, ↓ts1, ↓pd2, ↓ta2, ↓ts2, ↓pd3, ↓ta3, ↓ts3, ↓pd4, ↓ta4, ↓ts4, ↓pd5, ↓ta5, ↓ts5, ↓pd6, ↓ta6, ↓ts6, lGet, lSet, okS, isLg, Bool.not_false, Bool.not_true, Bool.false_eq_true, not_false_eq_true, not_true_eq_false, catS, okR1, okR20, okR21, okR2b, List.length_cons, List.length_nil, List.drop_succ_cons, List.drop_zero, List.drop_nil, and_self, true_and, and_true, false_and, and_false, Nat.reduceAdd, Nat.reduceLeDiff, Nat.zero_add, Nat.le_refl, Nat.zero_le, pushR, reduceCtorEq, or_self, or_false, false_or, true_or, or_true, ltT, ltF, leT, leF, eqF, eqT, lt0F, ge0T, le0T, le0F, eq0T, eq0F, gt0T, gt0F, nI_add, nI_1, pk_mul, subT, sub1, divT, remN, natRem, n2, n3, n4, n5, n6, n7, n8, n9, n10, n12, n16, n22, n23, n24, n40, n48, n57, n60, n97, n99, n100, n119, n120, n238, n357, n999, n9999, n2231, Int32.add_zero, bI_t, bI_f, one_ne, K15, ↓G15_0, ↓G15_1, ↓U15_1, ↓G15_2, ↓U15_2, ↓G15_3, ↓U15_3, ↓G15_4, ↓U15_4, ↓G15_5, ↓U15_5, ↓sc_a, ↓sc_l, kS, k551, ↓bnd a1, ↓bnd b1]
  have hr : rCty tp = ((rAll tp 7 (rLaw tp).2.1 []).1, (rAll tp 7 (rLaw tp).2.1 []).2.1, ((rLaw tp).2.2.1, (rLaw tp).2.2.2, 0, (rAll tp 7 (rLaw tp).2.1 []).2.2.length, fun i => (rAll tp 7 (rLaw tp).2.1 []).2.2.getD i p0)) := if_pos hc
  rw [hr]
  rw [decide_eq_true hc] at b1
  have hR : RdC s2 [] := ⟨by rw [b2.2 551 2 (by omega) (by omega)]; exact a2, by rw [b2.2 551 3 (by omega) (by omega)]; exact a3, by simp, fun i hi => by
    have := a4 i hi
    exact PR_ext this (fun a k x y => b2.2 a k (by omega) (by omega))⟩
  obtain ⟨s3, c1, c2, c3, c4⟩ := rd_loop d (scr := scr) 7 0 s2 [] (rLaw tp).2.1 rfl (FrR.tpc hT r2) b3 (rLaw_le tp).1 hR rfl
  obtain ⟨e1, e2⟩ := b4 hc
  refine ⟨s3, ?_, r2.tr c2.1, fun z => ?_, c4⟩
  · rw [← c1]
    simp (disch := omega) only [e77_0, e77_1, e77_2, e77_5, e77_6, e77_9, e77_10, e77_11, e77_14, e77_17, e77_18, e77_19, e77_20, e77_22, e77_24, e77_27, e77_28, e77_31, e77_32, e77_35, e77_38, e77_39, e77_40, e77_43, e77_46, e77_47, e77_48, e77_51, e77_54, e77_55, ↓reduceIte, ↓gi0, ↓gr0, ↓gl0, ↓gi1, ↓gr1, ↓gl1, ↓gi2, ↓gr2, ↓gl2, ↓gi3, ↓gr3, ↓gl3, ↓gi4, ↓gr4, ↓gl4, ↓gi5, ↓gr5, ↓gl5, ↓gi6, ↓gr6, ↓gl6, ↓gi7, ↓gr7, ↓gl7, ↓gi8, ↓gr8, ↓gl8, ↓gi9, ↓gr9, ↓gl9, ↓qI, ↓qI2, ↓qL, ↓qL2, ↓qR, ↓qV, ↓pd0, ↓ta0, ↓ts0, ↓pd1, ↓ta1, ↓ts1, ↓pd2, ↓ta2, ↓ts2, ↓pd3, ↓ta3, ↓ts3, ↓pd4, ↓ta4, ↓ts4, ↓pd5, ↓ta5, ↓ts5, ↓pd6, ↓ta6, ↓ts6, lGet, lSet, okS, isLg, Bool.not_false, Bool.not_true, Bool.false_eq_true, not_false_eq_true, not_true_eq_false, catS, okR1, okR20, okR21, okR2b, List.length_cons, List.length_nil, List.drop_succ_cons, List.drop_zero, List.drop_nil, and_self, true_and, and_true, false_and, and_false, Nat.reduceAdd, Nat.reduceLeDiff, Nat.zero_add, Nat.le_refl, Nat.zero_le, pushR, reduceCtorEq, or_self, or_false, false_or, true_or, or_true, ltT, ltF, leT, leF, eqF, eqT, lt0F, ge0T, le0T, le0F, eq0T, eq0F, gt0T, gt0F, nI_add, nI_1, pk_mul, subT, sub1, divT, remN, natRem, n2, n3, n4, n5, n6, n7, n8, n9, n10, n12, n16, n22, n23, n24, n40, n48, n57, n60, n97, n99, n100, n119, n120, n238, n357, n999, n9999, n2231, Int32.add_zero, bI_t, bI_f, one_ne, K15, ↓G15_0, ↓G15_1, ↓U15_1, ↓G15_2, ↓U15_2, ↓G15_3, ↓U15_3, ↓G15_4, ↓U15_4, ↓G15_5, ↓U15_5, ↓sc_a, ↓sc_l, kS, k551, ↓bnd a1, ↓bnd b1, show nI 0 = 0 from rfl]
  · obtain ⟨g1, g2, g3, g4⟩ := c3 z
    exact ⟨by rw [c2.2 0 (by decide)]; exact e1, by rw [c2.2 1 (by decide)]; exact e2, g1, g2, g3, fun i hi => g4 i (Nat.lt_of_lt_of_le hi g3)⟩
end RD2
/-! ===== the state that both sides hold: rows, tape, fault, finding, is there a county, the county, images, pasts, traces ===== -/
abbrev AS : Type := RW × List Nat × Nat × Int32 × Bool × CY × (Nat → Option CY) × List CY × List Nat
def IMc (s : ST) (im : Nat → Option CY) : Prop := ∀ k, k < 2 → s.1 612 k = bI (im k).isSome ∧ ∀ c, im k = some c → CR s (572 + 20 * k) c
def TRc (s : ST) (tr : List Nat) : Prop := s.1 499 1 = nI tr.length ∧ tr.length ≤ 16 ∧ ∀ i, i < tr.length → s.1 500 i = nI (tr.getD i 0)
def InvC (s : ST) (A : AS) : Prop := RWc s A.1 ∧ TPc s A.2.1 ∧ s.1 2 12 = nI A.2.2.1 ∧ s.1 2 13 = A.2.2.2.1 ∧ s.1 2 11 = bI A.2.2.2.2.1 ∧ CR s 531 A.2.2.2.2.2.1 ∧ IMc s A.2.2.2.2.2.2.1 ∧ AR s A.2.2.2.2.2.2.2.1 ∧ TRc s A.2.2.2.2.2.2.2.2 ∧ ∀ i, i < 6 → s.1 (533 + 3 * i) 0 = nI i
/-- scratch places of the class may change -/
def KpC (s s' : ST) : Prop := ∀ a k, a < 614 → ¬ (a = 15 ∧ 2 ≤ k) → ¬ (501 ≤ a ∧ a < 531) → ¬ (551 ≤ a ∧ a < 571) → a ≠ 613 → s'.1 a k = s.1 a k
def FrHi (s s' : ST) : Prop := ∀ a k, 614 ≤ a → s'.1 a k = s.1 a k
def FrLo (s s' : ST) : Prop := ∀ a k, a < 614 → s'.1 a k = s.1 a k
theorem FrHi.rf (s : ST) : FrHi s s := fun _ _ _ => rfl
theorem FrLo.rf (s : ST) : FrLo s s := fun _ _ _ => rfl
theorem FrHi.tr {s s1 s2 : ST} (h : FrHi s s1) (g : FrHi s1 s2) : FrHi s s2 := fun a k x => (g a k x).trans (h a k x)
theorem FrLo.tr {s s1 s2 : ST} (h : FrLo s s1) (g : FrLo s1 s2) : FrLo s s2 := fun a k x => (g a k x).trans (h a k x)
theorem KpC.tr {s s1 s2 : ST} (h : KpC s s1) (g : KpC s1 s2) : KpC s s2 := fun a k x y z w v => (g a k x y z w v).trans (h a k x y z w v)
theorem RWc.ext {s s' : ST} {r : RW} (h : RWc s r) (g : ∀ a k, 4 ≤ a → a < 15 → s'.1 a k = s.1 a k) : RWc s' r := fun i hi => by
  rw [g 4 i (by omega) (by omega), g 5 i (by omega) (by omega)]
  exact ⟨(h i hi).1, (h i hi).2.1, fun k hk => by rw [g (7 + i) k (by omega) (by omega)]; exact (h i hi).2.2 k hk⟩
theorem IMc.ext {s s' : ST} {im : Nat → Option CY} (h : IMc s im) (g : ∀ a k, 572 ≤ a → a < 613 → s'.1 a k = s.1 a k) : IMc s' im := fun i hi => by
  rw [g 612 i (by omega) (by omega)]
  exact ⟨(h i hi).1, fun c hc => CR_ext ((h i hi).2 c hc) (fun a k x y => g a k (by omega) (by omega))⟩
theorem AR.ext {s s' : ST} {pa : List CY} (h : AR s pa) (g : ∀ a k, 17 ≤ a → a < 499 → s'.1 a k = s.1 a k) : AR s' pa := by
  obtain ⟨nx, h1, h2, h3, h4, h5⟩ := h
  refine ⟨nx, h1, by rw [g 17 1 (by omega) (by omega)]; exact h2, by rw [g 17 2 (by omega) (by omega)]; exact h3, h4, fun q c hq => CR_ext (h5 q c hq) (fun a k x y => g a k (by omega) ?_)⟩
  have : ringAt nx pa.length q < 24 := Nat.mod_lt _ (by decide)
  omega
theorem TRc.ext {s s' : ST} {tr : List Nat} (h : TRc s tr) (g : ∀ a k, 499 ≤ a → a < 501 → s'.1 a k = s.1 a k) : TRc s' tr := ⟨by rw [g 499 1 (by omega) (by omega)]; exact h.1, h.2.1, fun i hi => by rw [g 500 i (by omega) (by omega)]; exact h.2.2 i hi⟩
theorem InvC.ext {s s' : ST} {A : AS} (h : InvC s A) (g : KpC s s') : InvC s' A := by
  obtain ⟨h1, h2, h3, h4, h5, h6, h7, h8, h9, h10⟩ := h
  refine ⟨h1.ext (fun a k x y => g a k (by omega) (by omega) (by omega) (by omega) (by omega)), h2.ext (g 15 1 (by omega) (by omega) (by omega) (by omega) (by omega)) (fun k => g 16 k (by omega) (by omega) (by omega) (by omega) (by omega)), ?_, ?_, ?_, CR_ext h6 (fun a k x y => g a k (by omega) (by omega) (by omega) (by omega) (by omega)), h7.ext (fun a k x y => g a k (by omega) (by omega) (by omega) (by omega) (by omega)), h8.ext (fun a k x y => g a k (by omega) (by omega) (by omega) (by omega) (by omega)), h9.ext (fun a k x y => g a k (by omega) (by omega) (by omega) (by omega) (by omega)), fun i hi => ?_⟩
  · rw [g 2 12 (by omega) (by omega) (by omega) (by omega) (by omega)]; exact h3
  · rw [g 2 13 (by omega) (by omega) (by omega) (by omega) (by omega)]; exact h4
  · rw [g 2 11 (by omega) (by omega) (by omega) (by omega) (by omega)]; exact h5
  · rw [g (533 + 3 * i) 0 (by omega) (by omega) (by omega) (by omega) (by omega)]; exact h10 i hi
theorem InvC.lo {s s' : ST} {A : AS} (h : InvC s A) (g : FrLo s s') : InvC s' A := h.ext (fun a k x _ _ _ _ => g a k x)
theorem InvC.stt {s : ST} {rw_ : RW} {tp : List Nat} {fl : Nat} {st x : Int32} {q : Bool × CY × (Nat → Option CY) × List CY × List Nat} (h : InvC s (rw_, tp, fl, st, q)) : InvC (u2 s 2 13 x) (rw_, tp, fl, x, q) := by
  obtain ⟨h1, h2, h3, h4, h5, h6, h7, h8, h9, h10⟩ := h
  refine ⟨h1.ext (fun a k x y => u2_oth _ _ (by omega)), h2.ext (u2_oth _ _ (by omega)) (fun k => u2_oth _ _ (by omega)), ?_, u2_same _ _ _ _, ?_, CR_ext h6 (fun a k x y => u2_oth _ _ (by omega)), h7.ext (fun a k x y => u2_oth _ _ (by omega)), h8.ext (fun a k x y => u2_oth _ _ (by omega)), h9.ext (fun a k x y => u2_oth _ _ (by omega)), fun i hi => ?_⟩
  · rw [u2_oth _ _ (by omega)]; exact h3
  · rw [u2_oth _ _ (by omega)]; exact h5
  · rw [u2_oth _ _ (by omega)]; exact h10 i hi
/-- the county and its pasts move -/
theorem InvC.act {s s' : ST} {rw_ : RW} {tp : List Nat} {fl : Nat} {st : Int32} {hs : Bool} {c c' : CY} {im : Nat → Option CY} {pa pa' : List CY} {tr : List Nat} (h : InvC s (rw_, tp, fl, st, hs, c, im, pa, tr)) (hc : CR s' 531 c') (ha : AR s' pa') (g : ∀ a k, a < 17 ∨ 499 ≤ a → a < 531 ∨ 551 ≤ a → a < 614 → s'.1 a k = s.1 a k) (gn : ∀ i, i < 6 → s'.1 (533 + 3 * i) 0 = s.1 (533 + 3 * i) 0) : InvC s' (rw_, tp, fl, st, hs, c', im, pa', tr) := by
  obtain ⟨h1, h2, h3, h4, h5, h6, h7, h8, h9, h10⟩ := h
  refine ⟨h1.ext (fun a k x y => g a k (by omega) (by omega) (by omega)), h2.ext (g 15 1 (by omega) (by omega) (by omega)) (fun k => g 16 k (by omega) (by omega) (by omega)), ?_, ?_, ?_, hc, h7.ext (fun a k x y => g a k (by omega) (by omega) (by omega)), ha, h9.ext (fun a k x y => g a k (by omega) (by omega) (by omega)), fun i hi => ?_⟩
  · rw [g 2 12 (by omega) (by omega) (by omega)]; exact h3
  · rw [g 2 13 (by omega) (by omega) (by omega)]; exact h4
  · rw [g 2 11 (by omega) (by omega) (by omega)]; exact h5
  · rw [gn i hi]; exact h10 i hi
/-! the reference's -/
def lnM : Option Nat → Int32
  | none => -1000000
  | some l => nI l
def RWm (s : ST) (r : RW) : Prop := ∀ i, i < 8 → s.1 618 i = lnM (r.1 i) ∧ s.1 619 i = nI (r.2.1 i) ∧ ∀ k, k < 40 → s.1 620 (40 * i + k) = r.2.2 i k
def TPm (s : ST) (tp : List Nat) : Prop := s.1 614 4 = nI tp.length ∧ tp.length ≤ 120 ∧ ∀ i, i < tp.length → s.1 617 i = nI (tp.getD i 0) ∧ tp.getD i 0 < 256
/-- what moves of a county, in the array A from o on -/
def MVA (s : ST) (A o : Nat) (c : CY) : Prop := s.1 A o = nI c.2.2.1 ∧ ∀ i, i < c.2.2.2.1 → MP s A (o + 1 + 16 * i) (c.2.2.2.2 i)
/-- what does not, from b on -/
def MSb (s : ST) (b : Nat) (c : CY) : Prop := s.1 615 (b + 1) = nI c.1 ∧ s.1 615 (b + 2) = nI c.2.1 ∧ s.1 615 (b + 3) = nI c.2.2.2.1 ∧ c.2.2.2.1 ≤ 6 ∧ ∀ i, i < c.2.2.2.1 → s.1 615 (b + (4 + 3 * i)) = nI (c.2.2.2.2 i).1 ∧ s.1 615 (b + (4 + 3 * i + 1)) = nI (c.2.2.2.2 i).2.1 ∧ s.1 615 (b + (4 + 3 * i + 2)) = nI (c.2.2.2.2 i).2.2.1
theorem MSb_0 {s : ST} {c : CY} : MSb s 0 c ↔ MS s c := by
  unfold MSb MS
  simp only [Nat.zero_add]
theorem MVA_V {s : ST} {b : Nat} {c : CY} : MVA s 615 (b + 22) c ↔ MV s b c := Iff.rfl
theorem MVA.ext {s s' : ST} {A A' o o' : Nat} {c : CY} (h : MVA s A o c) (h6 : c.2.2.2.1 ≤ 6) (g : ∀ k, k < 97 → s'.1 A' (o' + k) = s.1 A (o + k)) : MVA s' A' o' c := by
  refine ⟨by rw [show o' = o' + 0 from rfl, g 0 (by omega)]; exact h.1, fun i hi => MP.ext (h.2 i hi) (fun k hk => ?_)⟩
  rw [show o' + 1 + 16 * i + k = o' + (1 + 16 * i + k) by omega, g _ (by omega)]
  exact congrArg _ (by omega)
theorem MSb.ext {s s' : ST} {b b' : Nat} {c : CY} (h : MSb s b c) (g : ∀ k, k < 22 → s'.1 615 (b' + k) = s.1 615 (b + k)) : MSb s' b' c := by
  obtain ⟨h1, h2, h3, h6, h7⟩ := h
  refine ⟨by rw [g 1 (by omega)]; exact h1, by rw [g 2 (by omega)]; exact h2, by rw [g 3 (by omega)]; exact h3, h6, fun i hi => ?_⟩
  rw [g _ (by omega), g _ (by omega), g _ (by omega)]
  exact h7 i hi
def IMm (s : ST) (im : Nat → Option CY) : Prop := ∀ k, k < 2 → s.1 615 (119 * (1 + k)) = bI (im k).isSome ∧ ∀ c, im k = some c → MSb s (119 * (1 + k)) c ∧ MVA s 615 (119 * (1 + k) + 22) c
def PAm (s : ST) (pa : List CY) : Prop := s.1 614 2 = nI pa.length ∧ pa.length ≤ 24 ∧ ∀ q c, pa[q]? = some c → c.2.2.2.1 ≤ 6 ∧ MVA s 616 (97 * q) c
def TRm (s : ST) (tr : List Nat) : Prop := s.1 614 11 = nI tr.length ∧ tr.length ≤ 16 ∧ ∀ i, i < tr.length → s.1 621 i = nI (tr.getD i 0)
def CTm (s : ST) (hs : Bool) (c : CY) : Prop := s.1 615 0 = bI hs ∧ s.1 615 3 = nI c.2.2.2.1 ∧ c.2.2.2.1 ≤ 6 ∧ (hs = true → MS s c) ∧ MV s 0 c
def InvM (s : ST) (A : AS) : Prop := RWm s A.1 ∧ TPm s A.2.1 ∧ s.1 614 5 = nI A.2.2.1 ∧ s.1 614 6 = A.2.2.2.1 ∧ CTm s A.2.2.2.2.1 A.2.2.2.2.2.1 ∧ IMm s A.2.2.2.2.2.2.1 ∧ PAm s A.2.2.2.2.2.2.2.1 ∧ TRm s A.2.2.2.2.2.2.2.2
def KpM (s s' : ST) : Prop := ∀ a k, 614 ≤ a → ¬ (a = 614 ∧ 12 ≤ k) → ¬ (a = 615 ∧ 357 ≤ k) → a ≠ 622 → a ≠ 623 → s'.1 a k = s.1 a k
theorem KpM.tr {s s1 s2 : ST} (h : KpM s s1) (g : KpM s1 s2) : KpM s s2 := fun a k x y z w v => (g a k x y z w v).trans (h a k x y z w v)
theorem KpM.rf (s : ST) : KpM s s := fun _ _ _ _ _ _ _ => rfl
theorem KpC.rf (s : ST) : KpC s s := fun _ _ _ _ _ _ _ => rfl
theorem RWm.ext {s s' : ST} {r : RW} (h : RWm s r) (g : ∀ a k, 618 ≤ a → a < 621 → s'.1 a k = s.1 a k) : RWm s' r := fun i hi => by
  rw [g 618 i (by omega) (by omega), g 619 i (by omega) (by omega)]
  exact ⟨(h i hi).1, (h i hi).2.1, fun k hk => by rw [g 620 _ (by omega) (by omega)]; exact (h i hi).2.2 k hk⟩
theorem TPm.ext {s s' : ST} {tp : List Nat} (h : TPm s tp) (g1 : s'.1 614 4 = s.1 614 4) (g2 : ∀ k, s'.1 617 k = s.1 617 k) : TPm s' tp := ⟨by rw [g1]; exact h.1, h.2.1, fun i hi => by rw [g2]; exact h.2.2 i hi⟩
theorem CTm.ext {s s' : ST} {hs : Bool} {c : CY} (h : CTm s hs c) (g : ∀ k, k < 119 → s'.1 615 k = s.1 615 k) : CTm s' hs c := by
  obtain ⟨h1, h2, h3, h4, h5⟩ := h
  refine ⟨by rw [g 0 (by omega)]; exact h1, by rw [g 3 (by omega)]; exact h2, h3, fun z => (h4 z).ext (fun k hk => g k (by omega)), ?_⟩
  exact MVA_V.mp ((MVA_V.mpr h5).ext h3 (fun k hk => g _ (by omega)))
theorem IMm.ext {s s' : ST} {im : Nat → Option CY} (h : IMm s im) (g : ∀ k, 119 ≤ k → k < 357 → s'.1 615 k = s.1 615 k) : IMm s' im := fun i hi => by
  rw [g _ (by omega) (by omega)]
  refine ⟨(h i hi).1, fun c hc => ?_⟩
  obtain ⟨h1, h2⟩ := (h i hi).2 c hc
  exact ⟨h1.ext (fun k hk => g _ (by omega) (by omega)), h2.ext h1.2.2.2.1 (fun k hk => g _ (by omega) (by omega))⟩
theorem PAm.ext {s s' : ST} {pa : List CY} (h : PAm s pa) (g1 : s'.1 614 2 = s.1 614 2) (g : ∀ k, s'.1 616 k = s.1 616 k) : PAm s' pa := by
  obtain ⟨h1, h2, h3⟩ := h
  refine ⟨by rw [g1]; exact h1, h2, fun q c hq => ?_⟩
  exact ⟨(h3 q c hq).1, (h3 q c hq).2.ext (h3 q c hq).1 (fun k hk => g _)⟩
theorem TRm.ext {s s' : ST} {tr : List Nat} (h : TRm s tr) (g1 : s'.1 614 11 = s.1 614 11) (g : ∀ k, s'.1 621 k = s.1 621 k) : TRm s' tr := ⟨by rw [g1]; exact h.1, h.2.1, fun i hi => by rw [g]; exact h.2.2 i hi⟩
theorem InvM.ext {s s' : ST} {A : AS} (h : InvM s A) (g : KpM s s') : InvM s' A := by
  obtain ⟨h1, h2, h3, h4, h5, h6, h7, h8⟩ := h
  have g' : ∀ a k, 614 ≤ a → ¬ (a = 614 ∧ 12 ≤ k) → ¬ (a = 615 ∧ 357 ≤ k) ∧ a ≠ 622 ∧ a ≠ 623 → s'.1 a k = s.1 a k := fun a k x y z => g a k x y z.1 z.2.1 z.2.2
  exact ⟨h1.ext (fun a k x y => g' a k (by omega) (by omega) (by omega)), h2.ext (g' 614 4 (by omega) (by omega) (by omega)) (fun k => g' 617 k (by omega) (by omega) (by omega)), by rw [g' 614 5 (by omega) (by omega) (by omega)]; exact h3, by rw [g' 614 6 (by omega) (by omega) (by omega)]; exact h4, h5.ext (fun k hk => g' _ _ (by omega) (by omega) (by omega)), h6.ext (fun k x y => g' _ _ (by omega) (by omega) (by omega)), h7.ext (g' _ _ (by omega) (by omega) (by omega)) (fun k => g' _ _ (by omega) (by omega) (by omega)), h8.ext (g' _ _ (by omega) (by omega) (by omega)) (fun k => g' _ _ (by omega) (by omega) (by omega))⟩
theorem InvM.hi {s s' : ST} {A : AS} (h : InvM s A) (g : FrHi s s') : InvM s' A := h.ext (fun a k x _ _ _ _ => g a k x)
theorem InvM.stt {s : ST} {rw_ : RW} {tp : List Nat} {fl : Nat} {st x : Int32} {q : Bool × CY × (Nat → Option CY) × List CY × List Nat} (h : InvM s (rw_, tp, fl, st, q)) : InvM (u2 s 614 6 x) (rw_, tp, fl, x, q) := by
  obtain ⟨h1, h2, h3, h4, h5, h6, h7, h8⟩ := h
  exact ⟨h1.ext (fun a k x y => u2_oth _ _ (by omega)), h2.ext (u2_oth _ _ (by omega)) (fun k => u2_oth _ _ (by omega)), by rw [u2_oth _ _ (by omega)]; exact h3, u2_same _ _ _ _, h5.ext (fun k hk => u2_oth _ _ (by omega)), h6.ext (fun k x y => u2_oth _ _ (by omega)), h7.ext (u2_oth _ _ (by omega)) (fun k => u2_oth _ _ (by omega)), h8.ext (u2_oth _ _ (by omega)) (fun k => u2_oth _ _ (by omega))⟩
/-- the county and its pasts move; what does not move of it stands -/
theorem InvM.act {s s' : ST} {rw_ : RW} {tp : List Nat} {fl : Nat} {st : Int32} {hs : Bool} {c c' : CY} {im : Nat → Option CY} {pa pa' : List CY} {tr : List Nat} (h : InvM s (rw_, tp, fl, st, hs, c, im, pa, tr)) (hE : stE c c') (hv : MV s' 0 c') (ha : PAm s' pa') (g : ∀ a k, 614 ≤ a → ¬ (a = 614 ∧ (k = 2 ∨ 12 ≤ k)) → ¬ (a = 615 ∧ (22 ≤ k ∧ k < 119 ∨ 357 ≤ k)) → a ≠ 616 ∧ a ≠ 622 ∧ a ≠ 623 → s'.1 a k = s.1 a k) : InvM s' (rw_, tp, fl, st, hs, c', im, pa', tr) := by
  obtain ⟨h1, h2, h3, h4, h5, h6, h7, h8⟩ := h
  refine ⟨h1.ext (fun a k x y => g a k (by omega) (by omega) (by omega) (by omega)), h2.ext (g 614 4 (by omega) (by omega) (by omega) (by omega)) (fun k => g 617 k (by omega) (by omega) (by omega) (by omega)), by rw [g 614 5 (by omega) (by omega) (by omega) (by omega)]; exact h3, by rw [g 614 6 (by omega) (by omega) (by omega) (by omega)]; exact h4, ?_, h6.ext (fun k x y => g _ _ (by omega) (by omega) (by omega) (by omega)), ha, h8.ext (g _ _ (by omega) (by omega) (by omega) (by omega)) (fun k => g _ _ (by omega) (by omega) (by omega) (by omega))⟩
  obtain ⟨q1, q2, q3, q4, q5⟩ := h5
  refine ⟨by rw [g 615 0 (by omega) (by omega) (by omega) (by omega)]; exact q1, ?_, ?_, fun z => ((q4 z).st hE).ext (fun k hk => g _ _ (by omega) (by omega) (by omega) (by omega)), hv⟩
  · rw [g 615 3 (by omega) (by omega) (by omega) (by omega)]
    show s.1 615 3 = nI c'.2.2.2.1
    rw [hE.2.2.1]
    exact q2
  · show c'.2.2.2.1 ≤ 6
    rw [hE.2.2.1]
    exact q3
/-! ===== what each call does: answer and state ===== -/
abbrev cl (x : Int32) : Nat := x.toNatClampNeg
def bad (A : AS) : Int32 × AS := (-1000001, A)
def fnd (x : Int32) (A : AS) : Int32 × AS := match A with
  | (rw_, tp, fl, _, q) => (-1000010 - x, (rw_, tp, fl, x, q))
def fin (x : Int32) (A : AS) : Int32 × AS := match A with
  | (rw_, tp, fl, _, q) => (x, (rw_, tp, fl, 0, q))
def rwMake (r : RW) (k l n : Nat) : RW := (fun i => if i = k then some l else r.1 i, fun i => if i = k then n else r.2.1 i, fun i j => if i = k ∧ j < n then 0 else r.2.2 i j)
def rwDrop (r : RW) (k : Nat) : RW := (fun i => if i = k then none else r.1 i, r.2.1, r.2.2)
def rwPut (r : RW) (k i : Nat) (v : Int32) : RW := (r.1, r.2.1, fun a j => if a = k ∧ j = i then v else r.2.2 a j)
def rwCopy (r : RW) (a i b j n : Nat) : RW := (r.1, r.2.1, fun x k => if x = b ∧ j ≤ k ∧ k < j + n then r.2.2 a (i + (k - j)) else r.2.2 x k)
def cutL (o : Option Nat) (v : Int32) : Int32 := if o = some 0 then v.toInt8.toInt32 else if o = some 1 then v.toInt16.toInt32 else v
def oRow (r l n : Int32) (A : AS) : Int32 × AS := if inB r 8 = true ∧ inR l 0 2 = true ∧ n ≤ 40 then (if n < 0 then fnd 4 A else fin n (rwMake A.1 (cl r) (cl l) (cl n), A.2)) else bad A
def oSet (r i v : Int32) (A : AS) : Int32 × AS := if inB r 8 = true then (if fndC (A.1.1 (cl r)) (A.1.2.1 (cl r)) i 1 = 0 then fin (cutL (A.1.1 (cl r)) v) (rwPut A.1 (cl r) (cl i) (cutL (A.1.1 (cl r)) v), A.2) else fnd (fndC (A.1.1 (cl r)) (A.1.2.1 (cl r)) i 1) A) else bad A
def oCopy (a i b j n : Int32) (A : AS) : Int32 × AS := if inB a 8 = true ∧ inB b 8 = true then (if A.1.1 (cl a) = none ∨ A.1.1 (cl b) = none then fnd 1 A else if A.1.1 (cl a) = A.1.1 (cl b) then (if spanB i n (A.1.2.1 (cl a)) = true ∧ spanB j n (A.1.2.1 (cl b)) = true then fin n (rwCopy A.1 (cl a) (cl i) (cl b) (cl j) (cl n), A.2) else fnd 2 A) else fnd 5 A) else bad A
def oDrop (r : Int32) (A : AS) : Int32 × AS := if inB r 8 = true then (if A.1.1 (cl r) = none then fnd 1 A else fin (nI (A.1.2.1 (cl r))) (rwDrop A.1 (cl r), A.2)) else bad A
def oFeed (x : Int32) (A : AS) : Int32 × AS := match A with
  | (rw_, tp, q) => if inR x 0 255 = true then (if 120 ≤ tp.length then (-1000003, (rw_, tp, q)) else (nI (tp.length + 1), (rw_, tp ++ [cl x], q))) else bad (rw_, tp, q)
def oCounty (A : AS) : Int32 × AS := match A with
  | (rw_, tp, fl, st, hs, c, im, pa, tr) => if (rCty tp).1 = 0 then (nI (rCty tp).2.2.2.2.2.1, (rw_, [], fl, st, true, (rCty tp).2.2, im, [], tr)) else (-1000100 - nI (rCty tp).2.1, (rw_, [], (rCty tp).1, st, hs, c, im, pa, tr))
def oUndo (A : AS) : Int32 × AS := match A with
  | (rw_, tp, fl, st, hs, c, im, pa, tr) => match pa.getLast? with
    | none => (-1000002, (rw_, tp, fl, st, hs, c, im, pa, tr))
    | some c' => (nI (pa.length - 1), (rw_, tp, fl, st, hs, c', im, pa.dropLast, tr))
/-- the people of a state -/
def nPe (A : AS) : Nat := A.2.2.2.2.2.1.2.2.2.1
def pOf (A : AS) (i : Nat) : PT := A.2.2.2.2.2.1.2.2.2.2 i
def cUp (c : CY) (i : Nat) (p : PT) : CY := (c.1, c.2.1, c.2.2.1, c.2.2.2.1, fun j => if j = i then p else c.2.2.2.2 j)
/-- an act: what was is kept, the county is another -/
def actS (A : AS) (c' : CY) : AS := match A with
  | (rw_, tp, fl, st, hs, c, im, pa, tr) => (rw_, tp, fl, st, hs, c', im, keepP pa c, tr)
def ctyOf (A : AS) : CY := A.2.2.2.2.2.1
def lotsP (p : PT) : LT := p.2.2.2.2.2.2
def pLots (p : PT) (l : LT) : PT := (p.1, p.2.1, p.2.2.1, p.2.2.2.1, p.2.2.2.2.1, p.2.2.2.2.2.1, l)
def pOwe (p : PT) (o : Nat) : PT := (p.1, p.2.1, p.2.2.1, p.2.2.2.1, o, p.2.2.2.2.2.1, p.2.2.2.2.2.2)
def oSent (p n : Int32) (A : AS) : Int32 × AS := if inB p (nPe A) = true ∧ inR n 1 999 = true then (if 9999 < sumD (lotsP (pOf A (cl p))) + cl n then (-1000003, A) else (nI (sumD (lotsP (pOf A (cl p))) + cl n), actS A (cUp (ctyOf A) (cl p) (pLots (pOf A (cl p)) (pGain (cl n) (ctyOf A).2.2.1 (lotsP (pOf A (cl p)))))))) else bad A
def oDeed (p n : Int32) (A : AS) : Int32 × AS := if inB p (nPe A) = true ∧ inR n 1 999 = true then (nI (pCommit (cl n) (pOf A (cl p))).2.2.2.2.1, actS A (cUp (ctyOf A) (cl p) (pCommit (cl n) (pOf A (cl p))))) else bad A
def oSale (a b n m : Int32) (A : AS) : Int32 × AS := if saleB (nPe A) a b n m = true then (if refS (cl n) (pOf A (cl a)) (pOf A (cl b)) = 0 then (nI (sumD (lotsP (pOf A (cl b))) + cl n), actS A (cSell (cl a) (cl b) (cl n) m (ctyOf A))) else (refS (cl n) (pOf A (cl a)) (pOf A (cl b)), A)) else bad A
def oPays (p n : Int32) (A : AS) : Int32 × AS := if inB p (nPe A) = true ∧ inR n 1 999 = true then (if cl n ≤ sumD (lotsP (pOf A (cl p))) ∧ cl n ≤ (pOf A (cl p)).2.2.2.2.1 then (nI ((pOf A (cl p)).2.2.2.2.1 - cl n), actS A (cUp (ctyOf A) (cl p) (pOwe (pLots (pOf A (cl p)) (spend (isOfB (pOf A (cl p)).1 4) (cl n) (lotsP (pOf A (cl p)))).1) ((pOf A (cl p)).2.2.2.2.1 - cl n)))) else (-1000002, A)) else bad A
def pDead (p : PT) : PT := (p.1, p.2.1, p.2.2.1, 0, 0, p.2.2.2.2.2.1, [])
def pHeir (mo : Nat) (p h : PT) : PT := (h.1, h.2.1, h.2.2.1, h.2.2.2.1 + p.2.2.2.1, h.2.2.2.2.1, h.2.2.2.2.2.1, gainAll mo (lotsP p) (lotsP h) (lotsP p).length)
def oDies (p h : Int32) (A : AS) : Int32 × AS := if inB p (nPe A) = true ∧ inB h (nPe A) = true ∧ p ≠ h then (if 9999 < sumD (lotsP (pOf A (cl p))) + sumD (lotsP (pOf A (cl h))) then (-1000003, A) else (nI (sumD (lotsP (pOf A (cl p))) + sumD (lotsP (pOf A (cl h)))), actS A (cUp (cUp (ctyOf A) (cl h) (pHeir (ctyOf A).2.2.1 (pOf A (cl p)) (pOf A (cl h)))) (cl p) (pDead (pOf A (cl p)))))) else bad A
def oPardon (p : Int32) (A : AS) : Int32 × AS := if inB p (nPe A) = true then (nI (pOf A (cl p)).2.2.2.2.1, actS A (cUp (ctyOf A) (cl p) (pOwe (pOf A (cl p)) 0))) else bad A
def hasC (A : AS) : Bool := A.2.2.2.2.1
def oMonth (x : Int32) (A : AS) : Int32 × AS := if hasC A = true then (if inR x 1 999999 = true then (if 999 ≤ (ctyOf A).2.2.1 then (-1000003, A) else (nI (mths (ctyOf A) (cl x) 1).2.2, actS A (mths (ctyOf A) (cl x) 1).1)) else bad A) else (-1000002, A)
def oPerson (p w : Int32) (A : AS) : Int32 × AS := if inB p (nPe A) = true then (if inR w 0 3 = true then amt (pOf A (cl p)) (cl w) else if w = 4 then nI (pOf A (cl p)).2.1 else if w = 5 then nI (pOf A (cl p)).2.2.1 else if w = 6 then nI (lotsP (pOf A (cl p))).length else -1000001, A) else bad A
def oLot (p l w : Int32) (A : AS) : Int32 × AS := if inB p (nPe A) = true ∧ inR w 0 1 = true ∧ inB l (lotsP (pOf A (cl p))).length = true then (if w = 0 then nI (lt_d (lotsP (pOf A (cl p))) (cl l)) else nI (lt_m (lotsP (pOf A (cl p))) (cl l)), A) else bad A
def oAhead (p n x w : Int32) (A : AS) : Int32 × AS := if inB p (nPe A) = true ∧ inR n 0 60 = true ∧ inR x 1 999999 = true ∧ inR w 0 3 = true then (amt ((mths (ctyOf A) (cl x) (cl n)).1.2.2.2.2 (cl p)) (cl w), A) else bad A
def oLapsed (p n : Int32) (A : AS) : Int32 × AS := if inB p (nPe A) = true ∧ inR n 0 60 = true then (nI (lapS (pOf A (cl p)).1 (lotsP (pOf A (cl p))) (nI (ctyOf A).2.2.1 + n - 1) (nI (ctyOf A).1) (lotsP (pOf A (cl p))).length), A) else bad A
def cLose (c : CY) : CY := (c.1, c.2.1, c.2.2.1, c.2.2.2.1, fun i => pLose (c.2.2.2.2 i))
def owedA (c : CY) : Nat := sumN (fun i => (c.2.2.2.2 i).2.2.2.2.1) c.2.2.2.1
def oTried (n x w : Int32) (A : AS) : Int32 × AS := if hasC A = true then (if inR n 0 60 = true ∧ inR x 1 999999 = true ∧ inR w 0 1 = true then (if w = 0 then nI (mths (cLose (ctyOf A)) (cl x) (cl n)).2.2 else nI (owedA (mths (cLose (ctyOf A)) (cl x) (cl n)).1) - nI (owedA (ctyOf A)), A) else bad A) else (-1000002, A)
def oMarket (p w : Int32) (A : AS) : Int32 × AS := if hasC A = true then (if inR p 0 99 = true ∧ inR w 0 1 = true then (if w = 0 then nI (supply (ctyOf A) (cl p)) else nI (demand (ctyOf A) (cl p)), A) else bad A) else (-1000002, A)
def oRest (w : Int32) (A : AS) : Int32 × AS := if hasC A = true then (if inR w 0 2 = true then (match rest (ctyOf A) 100 0 with
    | none => -1000000
    | some pr => if w = 0 then nI pr else if w = 1 then bitsI (fun i => decide (0 < offer pr (pOf A i))) (nPe A) else bitsI (fun i => decide (0 < want pr (pOf A i))) (nPe A), A) else bad A) else (-1000002, A)
def oImage (k : Int32) (A : AS) : Int32 × AS := match A with
  | (rw_, tp, fl, st, hs, c, im, pa, tr) => if inR k 0 1 = true then (if hs = true then (1, (rw_, tp, fl, st, hs, c, fun j => if j = cl k then some c else im j, pa, tr)) else (-1000002, (rw_, tp, fl, st, hs, c, im, pa, tr))) else bad (rw_, tp, fl, st, hs, c, im, pa, tr)
def oRestore (k : Int32) (A : AS) : Int32 × AS := match A with
  | (rw_, tp, fl, st, hs, c, im, pa, tr) => if inR k 0 1 = true then (match im (cl k) with
    | some c' => (1, (rw_, tp, fl, st, hs, c', im, [], tr))
    | none => (-1000002, (rw_, tp, fl, st, hs, c, im, pa, tr))) else bad (rw_, tp, fl, st, hs, c, im, pa, tr)
def oKind (p : Int32) (A : AS) : Int32 × AS := if inB p (nPe A) = true then (nI (pOf A (cl p)).1, A) else bad A
def oAs (p k : Int32) (A : AS) : Int32 × AS := if inB p (nPe A) = true ∧ inR k 0 5 = true then (if isOfB (pOf A (cl p)).1 (cl k) = true then fin p A else fnd 3 A) else bad A
def oTrace (i : Int32) (A : AS) : Int32 × AS := match A with
  | (rw_, tp, fl, st, hs, c, im, pa, tr) => (if inB i tr.length = true then nI (tr.getD (cl i) 0) else -1000000, (rw_, tp, fl, st, hs, c, im, pa, tr))
def oCount (w : Int32) (A : AS) : Int32 × AS := match A with
  | (rw_, tp, fl, st, hs, c, im, pa, tr) => (if w = 0 then nI (sumN (fun i => if rw_.1 i = none then 0 else 1) 8) else if w = 1 then nI c.2.2.2.1 else if w = 2 then nI c.2.2.1 else if w = 3 then nI (sumN (fun i => sumD (c.2.2.2.2 i).2.2.2.2.2.2) c.2.2.2.1) else if w = 4 then nI (owedA c) else if w = 5 then nI pa.length else if w = 6 then nI tp.length else -1000001, (rw_, tp, fl, st, hs, c, im, pa, tr))
/-! what holds at all times -/
def ptF (t m : Nat) (p : PT) : Prop := p.1 ≠ 3 → ∀ q, q ∈ p.2.2.2.2.2.2 → m ≤ q.2 + t
def cyF (c : CY) : Prop := ∀ i, i < c.2.2.2.1 → ptF c.1 c.2.2.1 (c.2.2.2.2 i)
def cyG (c : CY) : Prop := cyGd 9999 c ∧ cyF c ∧ c.2.2.1 ≤ 999
def Gd (A : AS) : Prop := rwOk A.1 ∧ cyG A.2.2.2.2.2.1 ∧ (A.2.2.2.2.1 = false → A.2.2.2.2.2.1.2.2.2.1 = 0) ∧ (∀ k c', A.2.2.2.2.2.2.1 k = some c' → cyG c' ∧ A.2.2.2.2.1 = true) ∧ ∀ c', c' ∈ A.2.2.2.2.2.2.2.1 → cyG c' ∧ stE A.2.2.2.2.2.1 c'
theorem len_gainAll {mo : Nat} {l h : LT} (h6 : h.length ≤ 6) : ∀ j, (gainAll mo l h j).length ≤ 6
  | 0 => h6
  | j + 1 => len_gain (len_gainAll h6 j)
theorem sum_gainAllN {mo : Nat} {l h : LT} (h6 : h.length ≤ 6) : ∀ j, sumD (gainAll mo l h j) = sumD h + sumN (lt_d l) j
  | 0 => rfl
  | j + 1 => by
    show sumD (pGain (lt_d l j) mo (gainAll mo l h j)) = _
    rw [sum_gain (len_gainAll h6 j), sum_gainAllN h6 j, Nat.add_assoc]
    rfl
theorem sum_gainAll {mo : Nat} {l h : LT} (h6 : h.length ≤ 6) : sumD (gainAll mo l h l.length) = sumD h + sumD l := by rw [sum_gainAllN h6, ← sumD_eq]
