/-! ===== Tape.readPerson ===== -/
section RD2
variable {scr : Nat × (Nat → Int32)} {s : ST} {tp : List Nat}
theorem FrQ.tp {s s' : ST} {n : Nat} (h : TPc s tp) (g : FrQ s s' n) : TPc s' tp := h.ext (g.2 15 1 (by omega) (by omega) (by omega)) (fun k => g.2 16 k (by omega) (by omega) (by omega))
theorem c_readPerson (d : Nat) (hT : TPc s tp) {p n : Nat} (h4 : s.1 15 4 = nI p) (hp : p < tp.length) (h3 : s.1 551 3 = nI n) (hn : n ≤ 6) (hz : n < 6 → PR s (553 + 3 * n) p0) : ∃ s', EvM (d + 3) 79 [.ref 15, .ref 551] (mkH scr s) = some (bI (decide ((rPer tp p n).1 = 0)), mkH scr s') ∧ FrQ s s' n ∧ s'.1 15 4 = nI (rPer tp p n).2.1 ∧ ((rPer tp p n).1 = 0 → s'.1 551 3 = nI (n + 1) ∧ PR s' (553 + 3 * n) (rPer tp p n).2.2) ∧ ((rPer tp p n).1 ≠ 0 → s'.1 15 2 = nI (rPer tp p n).1 ∧ s'.1 15 3 = nI (rPer tp p n).2.1) := by
  have hnb := c_nextByte (d + 1) (scr := scr) hT h4 (Nat.le_of_lt hp)
  rw [if_pos hp] at hnb
  have hc := (hT.2.2 p hp).2
  have hk := c_kindOf (d + 1) (h := mkH scr s) hc
  have hk6 := kdOf_lt (tp.getD p 0)
  have hf1 := c_fails (d + 1) (scr := scr) (s := s) 1
  have hf3 := c_fails (d + 1) (scr := scr) (s := s) (nI 3)
  have l120 := hT.2.1
  rw [ev79, e79_0]
  by_cases k0 : kdOf (tp.getD p 0) = 0
  · have hr : rPer tp p n = (1, p, (0, 0, 0, 0, 0, 0, [])) := if_pos k0
    rw [hr]
    refine ⟨_, ?_, (FrA_fails 1 (s.1 15 4)).q, ?_, fun z => absurd z (by simp), fun _ => ⟨?_, ?_⟩⟩
    · simp (disch := omega) only [e79_0, e79_1, e79_4, e79_7, e79_8, e79_9, e79_12, e79_13, e79_14, e79_17, e79_18, e79_19, e79_22, e79_24, e79_27, e79_28, e79_29, e79_32, e79_33, e79_34, e79_35, e79_38, e79_39, e79_40, e79_43, e79_44, e79_47, e79_48, e79_51, e79_52, e79_53, e79_54, e79_55, e79_58, e79_59, e79_60, e79_63, e79_64, e79_65, e79_68, e79_69, e79_70, e79_72, e79_75, e79_78, e79_79, e79_81, e79_84, e79_87, e79_88, e79_89, e79_90, e79_91, e79_94, e79_97, e79_98, e79_99, e79_101, e79_104, e79_107, e79_108, e79_110, e79_113, e79_116, e79_117, e79_118, e79_119, e79_120, e79_123, e79_126, e79_127, e79_128, e79_130, e79_133, e79_136, e79_137, e79_139, e79_142, e79_145, e79_146, e79_147, e79_148, e79_149, e79_152, e79_155, e79_156, ↓reduceIte, ↓gi0, ↓gr0, ↓gl0, ↓gi1, ↓gr1, ↓gl1, ↓gi2, ↓gr2, ↓gl2, ↓gi3, ↓gr3, ↓gl3, ↓gi4, ↓gr4, ↓gl4, ↓gi5, ↓gr5, ↓gl5, ↓gi6, ↓gr6, ↓gl6, ↓gi7, ↓gr7, ↓gl7, ↓gi8, ↓gr8, ↓gl8, ↓gi9, ↓gr9, ↓gl9, ↓qI, ↓qI2, ↓qL, ↓qL2, ↓qR, ↓qV, ↓pd0, ↓ta0, ↓ts0, ↓pd1, ↓ta1, ↓ts1, ↓pd2, ↓ta2, ↓ts2, ↓pd3, ↓ta3, ↓ts3, ↓pd4, ↓ta4, ↓ts4, ↓pd5, ↓ta5, ↓ts5, ↓pd6, ↓ta6, ↓ts6, lGet, lSet, okS, isLg, Bool.not_false, Bool.not_true, Bool.false_eq_true, not_false_eq_true, not_true_eq_false, catS, okR1, okR20, okR21, okR2b, List.length_cons, List.length_nil, List.drop_succ_cons, List.drop_zero, List.drop_nil, and_self, true_and, and_true, false_and, and_false, Nat.reduceAdd, Nat.reduceLeDiff, Nat.zero_add, Nat.le_refl, Nat.zero_le, pushR, reduceCtorEq, or_self, or_false, false_or, true_or, or_true, ltT, ltF, leT, leF, eqF, eqT, lt0F, ge0T, le0T, le0F, eq0T, eq0F, gt0T, gt0F, nI_add, nI_1, pk_mul, subT, sub1, divT, remN, natRem, K15, ↓bnd hnb, ↓bnd hk, k0, ↓bnd hf1, Nat.one_ne_zero, decide_false, bI_f]
    · rw [u2_oth _ _ (by omega), u2_oth _ _ (by omega)]; exact h4
    · rw [u2_oth _ _ (by omega), u2_same]; rfl
    · rw [u2_same]; exact h4
  · by_cases n6 : 6 ≤ n
    · have hr : rPer tp p n = (3, p, (0, 0, 0, 0, 0, 0, [])) := (if_neg k0).trans (if_pos n6)
      rw [hr]
      refine ⟨_, ?_, (FrA_fails (nI 3) (s.1 15 4)).q, ?_, fun z => absurd z (by simp), fun _ => ⟨?_, ?_⟩⟩
      · simp (disch := omega) only [e79_0, e79_1, e79_4, e79_7, e79_8, e79_9, e79_12, e79_13, e79_14, e79_17, e79_18, e79_19, e79_22, e79_24, e79_27, e79_28, e79_29, e79_32, e79_33, e79_34, e79_35, e79_38, e79_39, e79_40, e79_43, e79_44, e79_47, e79_48, e79_51, e79_52, e79_53, e79_54, e79_55, e79_58, e79_59, e79_60, e79_63, e79_64, e79_65, e79_68, e79_69, e79_70, e79_72, e79_75, e79_78, e79_79, e79_81, e79_84, e79_87, e79_88, e79_89, e79_90, e79_91, e79_94, e79_97, e79_98, e79_99, e79_101, e79_104, e79_107, e79_108, e79_110, e79_113, e79_116, e79_117, e79_118, e79_119, e79_120, e79_123, e79_126, e79_127, e79_128, e79_130, e79_133, e79_136, e79_137, e79_139, e79_142, e79_145, e79_146, e79_147, e79_148, e79_149, e79_152, e79_155, e79_156, ↓reduceIte, ↓gi0, ↓gr0, ↓gl0, ↓gi1, ↓gr1, ↓gl1, ↓gi2, ↓gr2, ↓gl2, ↓gi3, ↓gr3, ↓gl3, ↓gi4, ↓gr4, ↓gl4, ↓gi5, ↓gr5, ↓gl5, ↓gi6, ↓gr6, ↓gl6, ↓gi7, ↓gr7, ↓gl7, ↓gi8, ↓gr8, ↓gl8, ↓gi9, ↓gr9, ↓gl9, ↓qI, ↓qI2, ↓qL, ↓qL2, ↓qR, ↓qV, ↓pd0, ↓ta0, ↓ts0, ↓pd1, ↓ta1, ↓ts1, ↓pd2, ↓ta2, ↓ts2, ↓pd3, ↓ta3, ↓ts3, ↓pd4, ↓ta4, ↓ts4, ↓pd5, ↓ta5, ↓ts5, ↓pd6, ↓ta6, ↓ts6, lGet, lSet, okS, isLg, Bool.not_false, Bool.not_true, Bool.false_eq_true, not_false_eq_true, not_true_eq_false, catS, okR1, okR20, okR21, okR2b, List.length_cons, List.length_nil, List.drop_succ_cons, List.drop_zero, List.drop_nil, and_self, true_and, and_true, false_and, and_false, Nat.reduceAdd, Nat.reduceLeDiff, Nat.zero_add, Nat.le_refl, Nat.zero_le, pushR, reduceCtorEq, or_self, or_false, false_or, true_or, or_true, ltT, ltF, leT, leF, eqF, eqT, lt0F, ge0T, le0T, le0F, eq0T, eq0F, gt0T, gt0F, nI_add, nI_1, pk_mul, subT, sub1, divT, remN, natRem, n2, n3, n4, n5, n6, n7, n8, n9, n10, n12, n16, n22, n23, n24, n40, n48, n57, n60, n97, n99, n100, n119, n120, n238, n357, n999, n9999, n2231, Int32.add_zero, K15, ↓bnd hnb, ↓bnd hk, ↓sc_g 3 (by decide), h3, ↓bnd hf3]
        rfl
      · rw [u2_oth _ _ (by omega), u2_oth _ _ (by omega)]; exact h4
      · rw [u2_oth _ _ (by omega), u2_same]
      · rw [u2_same]; exact h4
    · have hn6 : n < 6 := by omega
      have hz6 := hz hn6
      have q4 : (u2 s 15 4 (nI (p + 1))).1 551 3 = nI n := by rw [u2_oth _ _ (by omega)]; exact h3
      -- behind the kind
      have hs0 : ∃ s0, s0 = u2 (u2 (u2 s 15 4 (nI (p + 1))) 551 3 (nI (n + 1))) (553 + 3 * n) 1 (nI (kdOf (tp.getD p 0))) := ⟨_, rfl⟩
      obtain ⟨s0, es0⟩ := hs0
      have F0 : FrQ s s0 n := by
        rw [es0]
        exact ⟨rfl, fun a k x y z => by rw [u2_oth _ _ (by omega), u2_oth _ _ (by omega), u2_oth _ _ (by omega)]⟩
      have T0 := FrQ.tp hT F0
      have p0_ : s0.1 15 4 = nI (p + 1) := by rw [es0, u2_oth _ _ (by omega), u2_oth _ _ (by omega), u2_same]
      have m0_ : s0.1 551 3 = nI (n + 1) := by rw [es0, u2_oth _ _ (by omega), u2_same]
      have P0 : PR s0 (553 + 3 * n) (kdOf (tp.getD p 0), 0, 0, 0, 0, 0, []) := by
        obtain ⟨z1, z2, z3, z4, z5, z6, z7, z8, z9⟩ := hz6
        rw [es0]
        refine ⟨u2_same _ _ _ _, ?_, ?_, ?_, ?_, ?_, ?_, by simp, fun i hi => absurd hi (by simp)⟩
        all_goals rw [u2_oth _ _ (by omega), u2_oth _ _ (by omega), u2_oth _ _ (by omega)]
        · exact z2
        · exact z3
        · exact z4
        · exact z5
        · exact z6
        · exact z7
      obtain ⟨s1, a1, f1, t1⟩ := c_readNumber d (scr := scr) (lo := 0) (hi := 9) T0 p0_ hp (by decide) (by decide)
      have i1 : EvM (d + 2) 83 [.ref 15, .int 0, .int (nI 9)] (mkH scr s0) = _ := a1
      have l1 := rNum_le (tp := tp) (p := p + 1) (lo := 0) (hi := 9) hp
      have hgo : ∀ r, EvI (EvM (d + 2)) C79 2 68 [.ref 15, .ref 551, .int (nI (kdOf (tp.getD p 0))), .ref (553 + 3 * n)] [] (mkH scr s0) = r → EvI (EvM (d + 2)) C79 2 1 [.ref 15, .ref 551, jk, jk] [.ref 15] (mkH scr s) = r := by
        intro r hr
        rw [← hr, es0]
        simp (disch := omega) only [e79_0, e79_1, e79_4, e79_7, e79_8, e79_9, e79_12, e79_13, e79_14, e79_17, e79_18, e79_19, e79_22, e79_24, e79_27, e79_28, e79_29, e79_32, e79_33, e79_34, e79_35, e79_38, e79_39, e79_40, e79_43, e79_44, e79_47, e79_48, e79_51, e79_52, e79_53, e79_54, e79_55, e79_58, e79_59, e79_60, e79_63, e79_64, e79_65, e79_69, e79_70, e79_72, e79_75, e79_78, e79_79, e79_81, e79_84, e79_87, e79_88, e79_89, e79_90, e79_91, e79_94, e79_97, e79_98, e79_99, e79_101, e79_104, e79_107, e79_108, e79_110, e79_113, e79_116, e79_117, e79_118, e79_119, e79_120, e79_123, e79_126, e79_127, e79_128, e79_130, e79_133, e79_136, e79_137, e79_139, e79_142, e79_145, e79_146, e79_147, e79_148, e79_149, e79_152, e79_155, e79_156, ↓reduceIte, ↓gi0, ↓gr0, ↓gl0, ↓gi1, ↓gr1, ↓gl1, ↓gi2, ↓gr2, ↓gl2, ↓gi3, ↓gr3, ↓gl3, ↓gi4, ↓gr4, ↓gl4, ↓gi5, ↓gr5, ↓gl5, ↓gi6, ↓gr6, ↓gl6, ↓gi7, ↓gr7, ↓gl7, ↓gi8, ↓gr8, ↓gl8, ↓gi9, ↓gr9, ↓gl9, ↓qI, ↓qI2, ↓qL, ↓qL2, ↓qR, ↓qV, ↓pd0, ↓ta0, ↓ts0, ↓pd1, ↓ta1, ↓ts1, ↓pd2, ↓ta2, ↓ts2, ↓pd3, ↓ta3, ↓ts3, ↓pd4, ↓ta4, ↓ts4, ↓pd5, ↓ta5, ↓ts5, ↓pd6, ↓ta6, ↓ts6, lGet, lSet, okS, isLg, Bool.not_false, Bool.not_true, Bool.false_eq_true, not_false_eq_true, not_true_eq_false, catS, okR1, okR20, okR21, okR2b, List.length_cons, List.length_nil, List.drop_succ_cons, List.drop_zero, List.drop_nil, and_self, true_and, and_true, false_and, and_false, Nat.reduceAdd, Nat.reduceLeDiff, Nat.zero_add, Nat.le_refl, Nat.zero_le, pushR, reduceCtorEq, or_self, or_false, false_or, true_or, or_true, ltT, ltF, leT, leF, eqF, eqT, lt0F, ge0T, le0T, le0F, eq0T, eq0F, gt0T, gt0F, nI_add, nI_1, pk_mul, subT, sub1, divT, remN, natRem, n2, n3, n4, n5, n6, n7, n8, n9, n10, n12, n16, n22, n23, n24, n40, n48, n57, n60, n97, n99, n100, n119, n120, n238, n357, n999, n9999, n2231, Int32.add_zero, K15, ↓G15_0, ↓G15_1, ↓U15_1, ↓G15_2, ↓U15_2, ↓G15_3, ↓U15_3, ↓G15_4, ↓U15_4, ↓G15_5, ↓U15_5, ↓bnd hnb, ↓bnd hk, ↓sc_g 3 (by decide), ↓sc_p 3 (by decide), h3, h4, q4, ↓sc_a, ↓sc_l, ↓ps_p 1 (by decide)]
      have hR : rPer tp p n = if (rNB tp (p + 1) 0 9 44).1 = 0 then
          if (rNB tp (rNB tp (p + 1) 0 9 44).2.1 0 99 44).1 = 0 then
            ((rNB tp (rNB tp (rNB tp (p + 1) 0 9 44).2.1 0 99 44).2.1 0 99 59).1, (rNB tp (rNB tp (rNB tp (p + 1) 0 9 44).2.1 0 99 44).2.1 0 99 59).2.1, (kdOf (tp.getD p 0), (rNB tp (p + 1) 0 9 44).2.2, (rNB tp (rNB tp (p + 1) 0 9 44).2.1 0 99 44).2.2, nI (rNB tp (rNB tp (rNB tp (p + 1) 0 9 44).2.1 0 99 44).2.1 0 99 59).2.2, 0, 0, []))
          else ((rNB tp (rNB tp (p + 1) 0 9 44).2.1 0 99 44).1, (rNB tp (rNB tp (p + 1) 0 9 44).2.1 0 99 44).2.1, (0, 0, 0, 0, 0, 0, []))
        else ((rNB tp (p + 1) 0 9 44).1, (rNB tp (p + 1) 0 9 44).2.1, (0, 0, 0, 0, 0, 0, [])) := (if_neg k0).trans (if_neg n6)
      sorry
end RD2
