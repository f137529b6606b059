/-! ===== the class's calls: acts ===== -/
theorem InvC.upC {s s1 s2 : ST} {rw_ : RW} {tp : List Nat} {fl : Nat} {st : Int32} {hs : Bool} {c c' : CY} {im : Nat → Option CY} {pa pa' : List CY} {tr : List Nat} (h : InvC s (rw_, tp, fl, st, hs, c, im, pa, tr)) (hA : AR s1 pa') (g1 : ∀ a k, a < 17 ∨ 499 ≤ a → s1.1 a k = s.1 a k) (hc : CR s2 531 c') (hF : FrC s1 s2 531) : InvC s2 (rw_, tp, fl, st, hs, c', im, pa', tr) ∧ FrHi s s2 := by
  refine ⟨h.act hc (hA.ext (fun a k x y => hF.2.1 a k (by omega))) (fun a k x y z => ?_) (fun i hi => ?_), fun a k x => ?_⟩
  · rw [hF.2.1 a k (by omega), g1 a k x]
  · rw [show 533 + 3 * i = 531 + 2 + 3 * i from rfl, hF.2.2 i hi, g1 _ _ (by omega)]
  · rw [hF.2.1 a k (by omega), g1 a k (by omega)]
theorem InvC.up {s s1 s2 : ST} {rw_ : RW} {tp : List Nat} {fl : Nat} {st : Int32} {hs : Bool} {c : CY} {im : Nat → Option CY} {pa pa' : List CY} {tr : List Nat} {i : Nat} {p : PT} (h : InvC s (rw_, tp, fl, st, hs, c, im, pa, tr)) (hi : i < 6) (hA : AR s1 pa') (g1 : ∀ a k, a < 17 ∨ 499 ≤ a → s1.1 a k = s.1 a k) (hF : FrP s1 s2 (533 + 3 * i)) (hp : PR s2 (533 + 3 * i) p) : InvC s2 (rw_, tp, fl, st, hs, cUp c i p, im, pa', tr) ∧ FrHi s s2 := by
  have hc1 : CR s1 531 c := CR_ext h.2.2.2.2.2.1 (fun a k x y => g1 a k (by omega))
  obtain ⟨t, w, m, N, f⟩ := c
  exact h.upC hA g1 (CR_p hc1 hF hp) (FrP.c hi hF)
theorem CR.pr {s : ST} {t w m N : Nat} {f : Nat → PT} (h : CR s 531 (t, w, m, N, f)) {i : Nat} (hi : i < N) : PR s (533 + 3 * i) (f i) := h.2.2.2.2.2 i hi
theorem FrP.gC {s s1 : ST} {i k : Nat} (h : FrP s s1 (533 + 3 * i)) : s1.1 531 k = s.1 531 k := h.2 531 k (by omega) (by omega) (by omega)
section CSA
variable {scr : Nat × (Nat → Int32)} {s : ST}
theorem cs_sent (d : Nat) {A : AS} (hI : InvC s A) (hG : Gd A) (p n : Int32) : ∃ s', EvM (d + 6) 94 [.ref 2, .int p, .int n] (mkH scr s) = some ((oSent p n A).1, mkH scr s') ∧ InvC s' (oSent p n A).2 ∧ FrHi s s' := by
  obtain ⟨rw_, tp, fl, st, hs, ⟨t, w, m, N, f⟩, im, pa, tr⟩ := A
  have hC : CR s 531 (t, w, m, N, f) := hI.2.2.2.2.2.1
  have hN : s.1 531 3 = nI N := hC.2.2.2.1
  have h6 : N ≤ 6 := hC.2.2.2.2.1
  have hcg : cyGd 9999 (t, w, m, N, f) := hG.2.1.1
  have hm : m ≤ 999 := hG.2.1.2.2
  have hmo : s.1 531 2 = nI m := hC.2.2.1
  have hok : cyOk (t, w, m, N, f) := hcg.ok (by decide) (by show m < 2 ^ 20; omega)
  have w1 := c_isPerson (d + 3) (scr := scr) p hN h6
  have w2 : EvM (d + 5) 121 [.int n, .int 1, .int (nI 999)] (mkH scr s) = some (bI (inR n 1 999), mkH scr s) := c_withinN (d + 4) n 1 999
  rw [ev94, e94_0]
  cases g1 : inB p N
  · rw [g1] at w1
    refine ⟨s, ?_, ?_, FrHi.rf s⟩ <;> simp only [oSent, nPe, g1, Bool.false_eq_true, false_and, if_false, bad]
    · simp (disch := omega) only [e94_0, e94_1, e94_2, e94_5, e94_8, e94_9, e94_10, e94_13, e94_16, e94_19, e94_21, e94_22, e94_23, e94_26, e94_29, e94_30, e94_31, e94_32, e94_33, e94_36, e94_37, e94_38, e94_41, e94_44, e94_46, e94_47, e94_48, e94_51, e94_52, e94_55, e94_58, e94_59, e94_60, e94_61, e94_64, e94_67, e94_70, e94_71, e94_74, ↓reduceIte, ↓gi0, ↓gr0, ↓gl0, ↓gi1, ↓gr1, ↓gl1, ↓gi2, ↓gr2, ↓gl2, ↓gi3, ↓gr3, ↓gl3, ↓gi4, ↓gr4, ↓gl4, ↓gi5, ↓gr5, ↓gl5, ↓gi6, ↓gr6, ↓gl6, ↓gi7, ↓gr7, ↓gl7, ↓gi8, ↓gr8, ↓gl8, ↓gi9, ↓gr9, ↓gl9, ↓qI, ↓qI2, ↓qL, ↓qL2, ↓qR, ↓qV, ↓pd0, ↓ta0, ↓ts0, ↓pd1, ↓ta1, ↓ts1, ↓pd2, ↓ta2, ↓ts2, ↓pd3, ↓ta3, ↓ts3, ↓pd4, ↓ta4, ↓ts4, ↓pd5, ↓ta5, ↓ts5, ↓pd6, ↓ta6, ↓ts6, lGet, lSet, okS, isLg, Bool.not_false, Bool.not_true, Bool.false_eq_true, not_false_eq_true, not_true_eq_false, catS, okR1, okR20, okR21, okR2b, List.length_cons, List.length_nil, List.drop_succ_cons, List.drop_zero, List.drop_nil, and_self, true_and, and_true, false_and, and_false, Nat.reduceAdd, Nat.reduceLeDiff, Nat.zero_add, Nat.le_refl, Nat.zero_le, pushR, reduceCtorEq, or_self, or_false, false_or, true_or, or_true, ltT, ltF, leT, leF, eqF, eqT, lt0F, ge0T, le0T, le0F, eq0T, eq0F, gt0T, gt0F, nI_add, nI_1, pk_mul, subT, sub1, divT, remN, natRem, n2, n3, n4, n5, n6, n7, n8, n9, n10, n12, n16, n22, n23, n24, n40, n48, n57, n60, n97, n99, n100, n119, n120, n238, n357, n999, n9999, n2231, Int32.add_zero, bI_t, bI_f, one_ne, K2, ↓G2_0, ↓G2_1, ↓G2_2, ↓G2_3, ↓G2_4, ↓G2_5, ↓G2_6, ↓G2_7, ↓G2_8, ↓G2_9, ↓G2_10, ↓G2_11, ↓G2_12, ↓U2_12, ↓G2_13, ↓U2_13, ↓U2_11, ↓nw_a, ↓nw_l, kN, k531, ↓nw_g 0 (by decide), ↓nw_g 1 (by decide), ↓nw_g 2 (by decide), ↓nw_g 3 (by decide), ↓bnd w1]
    · exact hI
  cases g2 : inR n 1 999
  · rw [g1] at w1; rw [g2] at w2
    refine ⟨s, ?_, ?_, FrHi.rf s⟩ <;> simp only [oSent, nPe, g1, g2, Bool.false_eq_true, and_false, if_false, bad]
    · simp (disch := omega) only [e94_0, e94_1, e94_2, e94_5, e94_8, e94_9, e94_10, e94_13, e94_16, e94_19, e94_21, e94_22, e94_23, e94_26, e94_29, e94_30, e94_31, e94_32, e94_33, e94_36, e94_37, e94_38, e94_41, e94_44, e94_46, e94_47, e94_48, e94_51, e94_52, e94_55, e94_58, e94_59, e94_60, e94_61, e94_64, e94_67, e94_70, e94_71, e94_74, ↓reduceIte, ↓gi0, ↓gr0, ↓gl0, ↓gi1, ↓gr1, ↓gl1, ↓gi2, ↓gr2, ↓gl2, ↓gi3, ↓gr3, ↓gl3, ↓gi4, ↓gr4, ↓gl4, ↓gi5, ↓gr5, ↓gl5, ↓gi6, ↓gr6, ↓gl6, ↓gi7, ↓gr7, ↓gl7, ↓gi8, ↓gr8, ↓gl8, ↓gi9, ↓gr9, ↓gl9, ↓qI, ↓qI2, ↓qL, ↓qL2, ↓qR, ↓qV, ↓pd0, ↓ta0, ↓ts0, ↓pd1, ↓ta1, ↓ts1, ↓pd2, ↓ta2, ↓ts2, ↓pd3, ↓ta3, ↓ts3, ↓pd4, ↓ta4, ↓ts4, ↓pd5, ↓ta5, ↓ts5, ↓pd6, ↓ta6, ↓ts6, lGet, lSet, okS, isLg, Bool.not_false, Bool.not_true, Bool.false_eq_true, not_false_eq_true, not_true_eq_false, catS, okR1, okR20, okR21, okR2b, List.length_cons, List.length_nil, List.drop_succ_cons, List.drop_zero, List.drop_nil, and_self, true_and, and_true, false_and, and_false, Nat.reduceAdd, Nat.reduceLeDiff, Nat.zero_add, Nat.le_refl, Nat.zero_le, pushR, reduceCtorEq, or_self, or_false, false_or, true_or, or_true, ltT, ltF, leT, leF, eqF, eqT, lt0F, ge0T, le0T, le0F, eq0T, eq0F, gt0T, gt0F, nI_add, nI_1, pk_mul, subT, sub1, divT, remN, natRem, n2, n3, n4, n5, n6, n7, n8, n9, n10, n12, n16, n22, n23, n24, n40, n48, n57, n60, n97, n99, n100, n119, n120, n238, n357, n999, n9999, n2231, Int32.add_zero, bI_t, bI_f, one_ne, K2, ↓G2_0, ↓G2_1, ↓G2_2, ↓G2_3, ↓G2_4, ↓G2_5, ↓G2_6, ↓G2_7, ↓G2_8, ↓G2_9, ↓G2_10, ↓G2_11, ↓G2_12, ↓U2_12, ↓G2_13, ↓U2_13, ↓U2_11, ↓nw_a, ↓nw_l, kN, k531, ↓nw_g 0 (by decide), ↓nw_g 1 (by decide), ↓nw_g 2 (by decide), ↓nw_g 3 (by decide), ↓bnd w1, ↓bnd w2]
    · exact hI
  rw [g1] at w1; rw [g2] at w2
  obtain ⟨j, hj, rfl⟩ := inB_of (by omega) g1
  obtain ⟨k, hk1, hk2, rfl⟩ := inR_of (by decide) (by decide) g2
  have ej : (nI j).toNatClampNeg = j := nI_clamp (by omega)
  have ek : (nI k).toNatClampNeg = k := nI_clamp (by omega)
  have hj6 : j < 6 := by omega
  have hp := hC.pr hj
  have hpo : pOk (f j) := hok.2.2.2 j hj
  have hsl := pOk_sum hp hpo
  have hu := c_unspent (d + 4) (scr := scr) (perN hj6) hp.2.2.2.2.2.2
  by_cases g3 : 9999 < sumD (lotsP (f j)) + k
  · refine ⟨s, ?_, ?_, FrHi.rf s⟩ <;> simp only [oSent, nPe, pOf, ctyOf, g1, g2, and_self, if_true, ej, ek, g3, cl]
    · unfold lotsP at g3
      simp (disch := omega) only [e94_0, e94_1, e94_2, e94_5, e94_8, e94_9, e94_10, e94_13, e94_16, e94_19, e94_21, e94_22, e94_23, e94_26, e94_29, e94_30, e94_31, e94_32, e94_33, e94_36, e94_37, e94_38, e94_41, e94_44, e94_46, e94_47, e94_48, e94_51, e94_52, e94_55, e94_58, e94_59, e94_60, e94_61, e94_64, e94_67, e94_70, e94_71, e94_74, ↓reduceIte, ↓gi0, ↓gr0, ↓gl0, ↓gi1, ↓gr1, ↓gl1, ↓gi2, ↓gr2, ↓gl2, ↓gi3, ↓gr3, ↓gl3, ↓gi4, ↓gr4, ↓gl4, ↓gi5, ↓gr5, ↓gl5, ↓gi6, ↓gr6, ↓gl6, ↓gi7, ↓gr7, ↓gl7, ↓gi8, ↓gr8, ↓gl8, ↓gi9, ↓gr9, ↓gl9, ↓qI, ↓qI2, ↓qL, ↓qL2, ↓qR, ↓qV, ↓pd0, ↓ta0, ↓ts0, ↓pd1, ↓ta1, ↓ts1, ↓pd2, ↓ta2, ↓ts2, ↓pd3, ↓ta3, ↓ts3, ↓pd4, ↓ta4, ↓ts4, ↓pd5, ↓ta5, ↓ts5, ↓pd6, ↓ta6, ↓ts6, lGet, lSet, okS, isLg, Bool.not_false, Bool.not_true, Bool.false_eq_true, not_false_eq_true, not_true_eq_false, catS, okR1, okR20, okR21, okR2b, List.length_cons, List.length_nil, List.drop_succ_cons, List.drop_zero, List.drop_nil, and_self, true_and, and_true, false_and, and_false, Nat.reduceAdd, Nat.reduceLeDiff, Nat.zero_add, Nat.le_refl, Nat.zero_le, pushR, reduceCtorEq, or_self, or_false, false_or, true_or, or_true, ltT, ltF, leT, leF, eqF, eqT, lt0F, ge0T, le0T, le0F, eq0T, eq0F, gt0T, gt0F, nI_add, nI_1, pk_mul, subT, sub1, divT, remN, natRem, n2, n3, n4, n5, n6, n7, n8, n9, n10, n12, n16, n22, n23, n24, n40, n48, n57, n60, n97, n99, n100, n119, n120, n238, n357, n999, n9999, n2231, Int32.add_zero, bI_t, bI_f, one_ne, K2, ↓G2_0, ↓G2_1, ↓G2_2, ↓G2_3, ↓G2_4, ↓G2_5, ↓G2_6, ↓G2_7, ↓G2_8, ↓G2_9, ↓G2_10, ↓G2_11, ↓G2_12, ↓U2_12, ↓G2_13, ↓U2_13, ↓U2_11, ↓nw_a, ↓nw_l, kN, k531, ↓nw_g 0 (by decide), ↓nw_g 1 (by decide), ↓nw_g 2 (by decide), ↓nw_g 3 (by decide), ↓bnd w1, ↓bnd w2, ↓bnd hu]
    · exact hI
  obtain ⟨s1, a1, a2, a3, a4⟩ := c_remember (d + 2) (scr := scr) hI.2.2.2.2.2.2.2.1 hC
  have hp1 : PR s1 (533 + 3 * j) (f j) := PR_ext hp (fun a k x y => a4 a k (by omega))
  obtain ⟨s2, b1, b2, b3⟩ := c_gain (d + 4) (scr := scr) (perN hj6) hp1.2.2.2.2.2.2 k m
  have hu2 := c_unspent (d + 4) (scr := scr) (perN hj6) b2
  rw [sum_gain hp.2.2.2.2.2.2.2.1] at hu2
  have hmo1 : s1.1 531 2 = nI m := by rw [a4 531 2 (by omega)]; exact hmo
  have hin := hI.up hj6 a2 a4 b3.p (PR.lots (k := (f j).1) (le := (f j).2.1) (w := (f j).2.2.1) (ca := (f j).2.2.2.1) (ow := (f j).2.2.2.2.1) (dn := (f j).2.2.2.2.2.1) hp1 b3 b2)
  refine ⟨s2, ?_, ?_, hin.2⟩ <;> simp only [oSent, nPe, pOf, ctyOf, g1, g2, and_self, if_true, ej, ek, g3, cl, if_false]
  · unfold lotsP at g3 ⊢
    simp (disch := omega) only [e94_0, e94_1, e94_2, e94_5, e94_8, e94_9, e94_10, e94_13, e94_16, e94_19, e94_21, e94_22, e94_23, e94_26, e94_29, e94_30, e94_31, e94_32, e94_33, e94_36, e94_37, e94_38, e94_41, e94_44, e94_46, e94_47, e94_48, e94_51, e94_52, e94_55, e94_58, e94_59, e94_60, e94_61, e94_64, e94_67, e94_70, e94_71, e94_74, ↓reduceIte, ↓gi0, ↓gr0, ↓gl0, ↓gi1, ↓gr1, ↓gl1, ↓gi2, ↓gr2, ↓gl2, ↓gi3, ↓gr3, ↓gl3, ↓gi4, ↓gr4, ↓gl4, ↓gi5, ↓gr5, ↓gl5, ↓gi6, ↓gr6, ↓gl6, ↓gi7, ↓gr7, ↓gl7, ↓gi8, ↓gr8, ↓gl8, ↓gi9, ↓gr9, ↓gl9, ↓qI, ↓qI2, ↓qL, ↓qL2, ↓qR, ↓qV, ↓pd0, ↓ta0, ↓ts0, ↓pd1, ↓ta1, ↓ts1, ↓pd2, ↓ta2, ↓ts2, ↓pd3, ↓ta3, ↓ts3, ↓pd4, ↓ta4, ↓ts4, ↓pd5, ↓ta5, ↓ts5, ↓pd6, ↓ta6, ↓ts6, lGet, lSet, okS, isLg, Bool.not_false, Bool.not_true, Bool.false_eq_true, not_false_eq_true, not_true_eq_false, catS, okR1, okR20, okR21, okR2b, List.length_cons, List.length_nil, List.drop_succ_cons, List.drop_zero, List.drop_nil, and_self, true_and, and_true, false_and, and_false, Nat.reduceAdd, Nat.reduceLeDiff, Nat.zero_add, Nat.le_refl, Nat.zero_le, pushR, reduceCtorEq, or_self, or_false, false_or, true_or, or_true, ltT, ltF, leT, leF, eqF, eqT, lt0F, ge0T, le0T, le0F, eq0T, eq0F, gt0T, gt0F, nI_add, nI_1, pk_mul, subT, sub1, divT, remN, natRem, n2, n3, n4, n5, n6, n7, n8, n9, n10, n12, n16, n22, n23, n24, n40, n48, n57, n60, n97, n99, n100, n119, n120, n238, n357, n999, n9999, n2231, Int32.add_zero, bI_t, bI_f, one_ne, K2, ↓G2_0, ↓G2_1, ↓G2_2, ↓G2_3, ↓G2_4, ↓G2_5, ↓G2_6, ↓G2_7, ↓G2_8, ↓G2_9, ↓G2_10, ↓G2_11, ↓G2_12, ↓U2_12, ↓G2_13, ↓U2_13, ↓U2_11, K17, ↓G17_0, ↓G17_1, ↓U17_1, ↓G17_2, ↓U17_2, ↓nw_a, ↓nw_l, kN, k531, ↓nw_g 0 (by decide), ↓nw_g 1 (by decide), ↓nw_g 2 (by decide), ↓nw_g 3 (by decide), ↓bnd w1, ↓bnd w2, ↓bnd hu, ↓bnd a1, ↓bnd b1, ↓bnd hu2, hmo1]
  · exact hin.1
theorem cs_deed (d : Nat) {A : AS} (hI : InvC s A) (hG : Gd A) (p n : Int32) : ∃ s', EvM (d + 6) 95 [.ref 2, .int p, .int n] (mkH scr s) = some ((oDeed p n A).1, mkH scr s') ∧ InvC s' (oDeed p n A).2 ∧ FrHi s s' := by
  obtain ⟨rw_, tp, fl, st, hs, ⟨t, w, m, N, f⟩, im, pa, tr⟩ := A
  have hC : CR s 531 (t, w, m, N, f) := hI.2.2.2.2.2.1
  have hN : s.1 531 3 = nI N := hC.2.2.2.1
  have h6 : N ≤ 6 := hC.2.2.2.2.1
  have hcg : cyGd 9999 (t, w, m, N, f) := hG.2.1.1
  have hm : m ≤ 999 := hG.2.1.2.2
  have hmo : s.1 531 2 = nI m := hC.2.2.1
  have hok : cyOk (t, w, m, N, f) := hcg.ok (by decide) (by show m < 2 ^ 20; omega)
  have w1 := c_isPerson (d + 3) (scr := scr) p hN h6
  have w2 : EvM (d + 5) 121 [.int n, .int 1, .int (nI 999)] (mkH scr s) = some (bI (inR n 1 999), mkH scr s) := c_withinN (d + 4) n 1 999
  rw [ev95, e95_0]
  cases g1 : inB p N
  · rw [g1] at w1
    refine ⟨s, ?_, ?_, FrHi.rf s⟩ <;> simp only [oDeed, nPe, g1, Bool.false_eq_true, false_and, if_false, bad]
    · simp (disch := omega) only [e95_0, e95_1, e95_2, e95_5, e95_8, e95_9, e95_10, e95_13, e95_16, e95_19, e95_21, e95_22, e95_23, e95_26, e95_27, e95_30, e95_33, e95_34, e95_37, e95_40, e95_41, e95_42, e95_43, e95_46, e95_47, e95_50, e95_53, e95_54, e95_55, e95_58, ↓reduceIte, ↓gi0, ↓gr0, ↓gl0, ↓gi1, ↓gr1, ↓gl1, ↓gi2, ↓gr2, ↓gl2, ↓gi3, ↓gr3, ↓gl3, ↓gi4, ↓gr4, ↓gl4, ↓gi5, ↓gr5, ↓gl5, ↓gi6, ↓gr6, ↓gl6, ↓gi7, ↓gr7, ↓gl7, ↓gi8, ↓gr8, ↓gl8, ↓gi9, ↓gr9, ↓gl9, ↓qI, ↓qI2, ↓qL, ↓qL2, ↓qR, ↓qV, ↓pd0, ↓ta0, ↓ts0, ↓pd1, ↓ta1, ↓ts1, ↓pd2, ↓ta2, ↓ts2, ↓pd3, ↓ta3, ↓ts3, ↓pd4, ↓ta4, ↓ts4, ↓pd5, ↓ta5, ↓ts5, ↓pd6, ↓ta6, ↓ts6, lGet, lSet, okS, isLg, Bool.not_false, Bool.not_true, Bool.false_eq_true, not_false_eq_true, not_true_eq_false, catS, okR1, okR20, okR21, okR2b, List.length_cons, List.length_nil, List.drop_succ_cons, List.drop_zero, List.drop_nil, and_self, true_and, and_true, false_and, and_false, Nat.reduceAdd, Nat.reduceLeDiff, Nat.zero_add, Nat.le_refl, Nat.zero_le, pushR, reduceCtorEq, or_self, or_false, false_or, true_or, or_true, ltT, ltF, leT, leF, eqF, eqT, lt0F, ge0T, le0T, le0F, eq0T, eq0F, gt0T, gt0F, nI_add, nI_1, pk_mul, subT, sub1, divT, remN, natRem, n2, n3, n4, n5, n6, n7, n8, n9, n10, n12, n16, n22, n23, n24, n40, n48, n57, n60, n97, n99, n100, n119, n120, n238, n357, n999, n9999, n2231, Int32.add_zero, bI_t, bI_f, one_ne, K2, ↓G2_0, ↓G2_1, ↓G2_2, ↓G2_3, ↓G2_4, ↓G2_5, ↓G2_6, ↓G2_7, ↓G2_8, ↓G2_9, ↓G2_10, ↓G2_11, ↓G2_12, ↓U2_12, ↓G2_13, ↓U2_13, ↓U2_11, ↓nw_a, ↓nw_l, kN, k531, ↓nw_g 0 (by decide), ↓nw_g 1 (by decide), ↓nw_g 2 (by decide), ↓nw_g 3 (by decide), ↓bnd w1]
    · exact hI
  cases g2 : inR n 1 999
  · rw [g1] at w1; rw [g2] at w2
    refine ⟨s, ?_, ?_, FrHi.rf s⟩ <;> simp only [oDeed, nPe, g1, g2, Bool.false_eq_true, and_false, if_false, bad]
    · simp (disch := omega) only [e95_0, e95_1, e95_2, e95_5, e95_8, e95_9, e95_10, e95_13, e95_16, e95_19, e95_21, e95_22, e95_23, e95_26, e95_27, e95_30, e95_33, e95_34, e95_37, e95_40, e95_41, e95_42, e95_43, e95_46, e95_47, e95_50, e95_53, e95_54, e95_55, e95_58, ↓reduceIte, ↓gi0, ↓gr0, ↓gl0, ↓gi1, ↓gr1, ↓gl1, ↓gi2, ↓gr2, ↓gl2, ↓gi3, ↓gr3, ↓gl3, ↓gi4, ↓gr4, ↓gl4, ↓gi5, ↓gr5, ↓gl5, ↓gi6, ↓gr6, ↓gl6, ↓gi7, ↓gr7, ↓gl7, ↓gi8, ↓gr8, ↓gl8, ↓gi9, ↓gr9, ↓gl9, ↓qI, ↓qI2, ↓qL, ↓qL2, ↓qR, ↓qV, ↓pd0, ↓ta0, ↓ts0, ↓pd1, ↓ta1, ↓ts1, ↓pd2, ↓ta2, ↓ts2, ↓pd3, ↓ta3, ↓ts3, ↓pd4, ↓ta4, ↓ts4, ↓pd5, ↓ta5, ↓ts5, ↓pd6, ↓ta6, ↓ts6, lGet, lSet, okS, isLg, Bool.not_false, Bool.not_true, Bool.false_eq_true, not_false_eq_true, not_true_eq_false, catS, okR1, okR20, okR21, okR2b, List.length_cons, List.length_nil, List.drop_succ_cons, List.drop_zero, List.drop_nil, and_self, true_and, and_true, false_and, and_false, Nat.reduceAdd, Nat.reduceLeDiff, Nat.zero_add, Nat.le_refl, Nat.zero_le, pushR, reduceCtorEq, or_self, or_false, false_or, true_or, or_true, ltT, ltF, leT, leF, eqF, eqT, lt0F, ge0T, le0T, le0F, eq0T, eq0F, gt0T, gt0F, nI_add, nI_1, pk_mul, subT, sub1, divT, remN, natRem, n2, n3, n4, n5, n6, n7, n8, n9, n10, n12, n16, n22, n23, n24, n40, n48, n57, n60, n97, n99, n100, n119, n120, n238, n357, n999, n9999, n2231, Int32.add_zero, bI_t, bI_f, one_ne, K2, ↓G2_0, ↓G2_1, ↓G2_2, ↓G2_3, ↓G2_4, ↓G2_5, ↓G2_6, ↓G2_7, ↓G2_8, ↓G2_9, ↓G2_10, ↓G2_11, ↓G2_12, ↓U2_12, ↓G2_13, ↓U2_13, ↓U2_11, ↓nw_a, ↓nw_l, kN, k531, ↓nw_g 0 (by decide), ↓nw_g 1 (by decide), ↓nw_g 2 (by decide), ↓nw_g 3 (by decide), ↓bnd w1, ↓bnd w2]
    · exact hI
  rw [g1] at w1; rw [g2] at w2
  obtain ⟨j, hj, rfl⟩ := inB_of (by omega) g1
  obtain ⟨k, hk1, hk2, rfl⟩ := inR_of (by decide) (by decide) g2
  have ej : (nI j).toNatClampNeg = j := nI_clamp (by omega)
  have ek : (nI k).toNatClampNeg = k := nI_clamp (by omega)
  have hj6 : j < 6 := by omega
  have hp := hC.pr hj
  have hpo : pOk (f j) := hok.2.2.2 j hj
  have hsl := pOk_sum hp hpo
  obtain ⟨s1, a1, a2, a3, a4⟩ := c_remember (d + 2) (scr := scr) hI.2.2.2.2.2.2.2.1 hC
  have hp1 : PR s1 (533 + 3 * j) (f j) := PR_ext hp (fun a k x y => a4 a k (by omega))
  obtain ⟨s2, b1, b2, b3⟩ := c_commit (d + 2) (scr := scr) (perN hj6) hp1 hpo (w := k) (by omega)
  have ho := b2.2.2.2.2.1
  have hin := hI.up hj6 a2 a4 b3 b2
  refine ⟨s2, ?_, ?_, hin.2⟩ <;> simp only [oDeed, nPe, pOf, ctyOf, g1, g2, and_self, if_true, ej, ek, cl]
  · simp (disch := omega) only [e95_0, e95_1, e95_2, e95_5, e95_8, e95_9, e95_10, e95_13, e95_16, e95_19, e95_21, e95_22, e95_23, e95_26, e95_27, e95_30, e95_33, e95_34, e95_37, e95_40, e95_41, e95_42, e95_43, e95_46, e95_47, e95_50, e95_53, e95_54, e95_55, e95_58, ↓reduceIte, ↓gi0, ↓gr0, ↓gl0, ↓gi1, ↓gr1, ↓gl1, ↓gi2, ↓gr2, ↓gl2, ↓gi3, ↓gr3, ↓gl3, ↓gi4, ↓gr4, ↓gl4, ↓gi5, ↓gr5, ↓gl5, ↓gi6, ↓gr6, ↓gl6, ↓gi7, ↓gr7, ↓gl7, ↓gi8, ↓gr8, ↓gl8, ↓gi9, ↓gr9, ↓gl9, ↓qI, ↓qI2, ↓qL, ↓qL2, ↓qR, ↓qV, ↓pd0, ↓ta0, ↓ts0, ↓pd1, ↓ta1, ↓ts1, ↓pd2, ↓ta2, ↓ts2, ↓pd3, ↓ta3, ↓ts3, ↓pd4, ↓ta4, ↓ts4, ↓pd5, ↓ta5, ↓ts5, ↓pd6, ↓ta6, ↓ts6, lGet, lSet, okS, isLg, Bool.not_false, Bool.not_true, Bool.false_eq_true, not_false_eq_true, not_true_eq_false, catS, okR1, okR20, okR21, okR2b, List.length_cons, List.length_nil, List.drop_succ_cons, List.drop_zero, List.drop_nil, and_self, true_and, and_true, false_and, and_false, Nat.reduceAdd, Nat.reduceLeDiff, Nat.zero_add, Nat.le_refl, Nat.zero_le, pushR, reduceCtorEq, or_self, or_false, false_or, true_or, or_true, ltT, ltF, leT, leF, eqF, eqT, lt0F, ge0T, le0T, le0F, eq0T, eq0F, gt0T, gt0F, nI_add, nI_1, pk_mul, subT, sub1, divT, remN, natRem, n2, n3, n4, n5, n6, n7, n8, n9, n10, n12, n16, n22, n23, n24, n40, n48, n57, n60, n97, n99, n100, n119, n120, n238, n357, n999, n9999, n2231, Int32.add_zero, bI_t, bI_f, one_ne, K2, ↓G2_0, ↓G2_1, ↓G2_2, ↓G2_3, ↓G2_4, ↓G2_5, ↓G2_6, ↓G2_7, ↓G2_8, ↓G2_9, ↓G2_10, ↓G2_11, ↓G2_12, ↓U2_12, ↓G2_13, ↓U2_13, ↓U2_11, K17, ↓G17_0, ↓G17_1, ↓U17_1, ↓G17_2, ↓U17_2, ↓nw_a, ↓nw_l, kN, k531, ↓nw_g 0 (by decide), ↓nw_g 1 (by decide), ↓nw_g 2 (by decide), ↓nw_g 3 (by decide), ↓bnd w1, ↓bnd w2, ↓bnd a1, ↓bnd b1, ↓pn_g 5 (by decide), ho]
  · exact hin.1
theorem cs_pays (d : Nat) {A : AS} (hI : InvC s A) (hG : Gd A) (p n : Int32) : ∃ s', EvM (d + 6) 97 [.ref 2, .int p, .int n] (mkH scr s) = some ((oPays p n A).1, mkH scr s') ∧ InvC s' (oPays p n A).2 ∧ FrHi s s' := by
  obtain ⟨rw_, tp, fl, st, hs, ⟨t, w, m, N, f⟩, im, pa, tr⟩ := A
  have hC : CR s 531 (t, w, m, N, f) := hI.2.2.2.2.2.1
  have hN : s.1 531 3 = nI N := hC.2.2.2.1
  have h6 : N ≤ 6 := hC.2.2.2.2.1
  have hcg : cyGd 9999 (t, w, m, N, f) := hG.2.1.1
  have hm : m ≤ 999 := hG.2.1.2.2
  have hmo : s.1 531 2 = nI m := hC.2.2.1
  have hok : cyOk (t, w, m, N, f) := hcg.ok (by decide) (by show m < 2 ^ 20; omega)
  have w1 := c_isPerson (d + 3) (scr := scr) p hN h6
  have w2 : EvM (d + 5) 121 [.int n, .int 1, .int (nI 999)] (mkH scr s) = some (bI (inR n 1 999), mkH scr s) := c_withinN (d + 4) n 1 999
  rw [ev97, e97_0]
  cases g1 : inB p N
  · rw [g1] at w1
    refine ⟨s, ?_, ?_, FrHi.rf s⟩ <;> simp only [oPays, nPe, g1, Bool.false_eq_true, false_and, if_false, bad]
    · simp (disch := omega) only [e97_0, e97_1, e97_2, e97_5, e97_8, e97_9, e97_10, e97_13, e97_16, e97_19, e97_21, e97_22, e97_23, e97_26, e97_29, e97_30, e97_31, e97_32, e97_33, e97_36, e97_37, e97_40, e97_41, e97_44, e97_45, e97_48, e97_50, e97_51, e97_52, e97_55, e97_56, e97_59, e97_62, e97_63, e97_64, e97_67, e97_68, e97_69, e97_70, e97_73, e97_74, e97_75, e97_78, e97_79, e97_82, ↓reduceIte, ↓gi0, ↓gr0, ↓gl0, ↓gi1, ↓gr1, ↓gl1, ↓gi2, ↓gr2, ↓gl2, ↓gi3, ↓gr3, ↓gl3, ↓gi4, ↓gr4, ↓gl4, ↓gi5, ↓gr5, ↓gl5, ↓gi6, ↓gr6, ↓gl6, ↓gi7, ↓gr7, ↓gl7, ↓gi8, ↓gr8, ↓gl8, ↓gi9, ↓gr9, ↓gl9, ↓qI, ↓qI2, ↓qL, ↓qL2, ↓qR, ↓qV, ↓pd0, ↓ta0, ↓ts0, ↓pd1, ↓ta1, ↓ts1, ↓pd2, ↓ta2, ↓ts2, ↓pd3, ↓ta3, ↓ts3, ↓pd4, ↓ta4, ↓ts4, ↓pd5, ↓ta5, ↓ts5, ↓pd6, ↓ta6, ↓ts6, lGet, lSet, okS, isLg, Bool.not_false, Bool.not_true, Bool.false_eq_true, not_false_eq_true, not_true_eq_false, catS, okR1, okR20, okR21, okR2b, List.length_cons, List.length_nil, List.drop_succ_cons, List.drop_zero, List.drop_nil, and_self, true_and, and_true, false_and, and_false, Nat.reduceAdd, Nat.reduceLeDiff, Nat.zero_add, Nat.le_refl, Nat.zero_le, pushR, reduceCtorEq, or_self, or_false, false_or, true_or, or_true, ltT, ltF, leT, leF, eqF, eqT, lt0F, ge0T, le0T, le0F, eq0T, eq0F, gt0T, gt0F, nI_add, nI_1, pk_mul, subT, sub1, divT, remN, natRem, n2, n3, n4, n5, n6, n7, n8, n9, n10, n12, n16, n22, n23, n24, n40, n48, n57, n60, n97, n99, n100, n119, n120, n238, n357, n999, n9999, n2231, Int32.add_zero, bI_t, bI_f, one_ne, K2, ↓G2_0, ↓G2_1, ↓G2_2, ↓G2_3, ↓G2_4, ↓G2_5, ↓G2_6, ↓G2_7, ↓G2_8, ↓G2_9, ↓G2_10, ↓G2_11, ↓G2_12, ↓U2_12, ↓G2_13, ↓U2_13, ↓U2_11, ↓nw_a, ↓nw_l, kN, k531, ↓nw_g 0 (by decide), ↓nw_g 1 (by decide), ↓nw_g 2 (by decide), ↓nw_g 3 (by decide), ↓bnd w1]
    · exact hI
  cases g2 : inR n 1 999
  · rw [g1] at w1; rw [g2] at w2
    refine ⟨s, ?_, ?_, FrHi.rf s⟩ <;> simp only [oPays, nPe, g1, g2, Bool.false_eq_true, and_false, if_false, bad]
    · simp (disch := omega) only [e97_0, e97_1, e97_2, e97_5, e97_8, e97_9, e97_10, e97_13, e97_16, e97_19, e97_21, e97_22, e97_23, e97_26, e97_29, e97_30, e97_31, e97_32, e97_33, e97_36, e97_37, e97_40, e97_41, e97_44, e97_45, e97_48, e97_50, e97_51, e97_52, e97_55, e97_56, e97_59, e97_62, e97_63, e97_64, e97_67, e97_68, e97_69, e97_70, e97_73, e97_74, e97_75, e97_78, e97_79, e97_82, ↓reduceIte, ↓gi0, ↓gr0, ↓gl0, ↓gi1, ↓gr1, ↓gl1, ↓gi2, ↓gr2, ↓gl2, ↓gi3, ↓gr3, ↓gl3, ↓gi4, ↓gr4, ↓gl4, ↓gi5, ↓gr5, ↓gl5, ↓gi6, ↓gr6, ↓gl6, ↓gi7, ↓gr7, ↓gl7, ↓gi8, ↓gr8, ↓gl8, ↓gi9, ↓gr9, ↓gl9, ↓qI, ↓qI2, ↓qL, ↓qL2, ↓qR, ↓qV, ↓pd0, ↓ta0, ↓ts0, ↓pd1, ↓ta1, ↓ts1, ↓pd2, ↓ta2, ↓ts2, ↓pd3, ↓ta3, ↓ts3, ↓pd4, ↓ta4, ↓ts4, ↓pd5, ↓ta5, ↓ts5, ↓pd6, ↓ta6, ↓ts6, lGet, lSet, okS, isLg, Bool.not_false, Bool.not_true, Bool.false_eq_true, not_false_eq_true, not_true_eq_false, catS, okR1, okR20, okR21, okR2b, List.length_cons, List.length_nil, List.drop_succ_cons, List.drop_zero, List.drop_nil, and_self, true_and, and_true, false_and, and_false, Nat.reduceAdd, Nat.reduceLeDiff, Nat.zero_add, Nat.le_refl, Nat.zero_le, pushR, reduceCtorEq, or_self, or_false, false_or, true_or, or_true, ltT, ltF, leT, leF, eqF, eqT, lt0F, ge0T, le0T, le0F, eq0T, eq0F, gt0T, gt0F, nI_add, nI_1, pk_mul, subT, sub1, divT, remN, natRem, n2, n3, n4, n5, n6, n7, n8, n9, n10, n12, n16, n22, n23, n24, n40, n48, n57, n60, n97, n99, n100, n119, n120, n238, n357, n999, n9999, n2231, Int32.add_zero, bI_t, bI_f, one_ne, K2, ↓G2_0, ↓G2_1, ↓G2_2, ↓G2_3, ↓G2_4, ↓G2_5, ↓G2_6, ↓G2_7, ↓G2_8, ↓G2_9, ↓G2_10, ↓G2_11, ↓G2_12, ↓U2_12, ↓G2_13, ↓U2_13, ↓U2_11, ↓nw_a, ↓nw_l, kN, k531, ↓nw_g 0 (by decide), ↓nw_g 1 (by decide), ↓nw_g 2 (by decide), ↓nw_g 3 (by decide), ↓bnd w1, ↓bnd w2]
    · exact hI
  rw [g1] at w1; rw [g2] at w2
  obtain ⟨j, hj, rfl⟩ := inB_of (by omega) g1
  obtain ⟨k, hk1, hk2, rfl⟩ := inR_of (by decide) (by decide) g2
  have ej : (nI j).toNatClampNeg = j := nI_clamp (by omega)
  have ek : (nI k).toNatClampNeg = k := nI_clamp (by omega)
  have hj6 : j < 6 := by omega
  have hp := hC.pr hj
  have hpo : pOk (f j) := hok.2.2.2 j hj
  have hsl := pOk_sum hp hpo
  have hu := c_unspent (d + 4) (scr := scr) (perN hj6) hp.2.2.2.2.2.2
  have how := hp.2.2.2.2.1
  have h99 := hpo.2.1
  by_cases g3 : k ≤ sumD (f j).2.2.2.2.2.2
  case neg =>
    refine ⟨s, ?_, ?_, FrHi.rf s⟩ <;> simp only [oPays, nPe, pOf, ctyOf, lotsP, g1, g2, and_self, if_true, ej, ek, g3, cl, false_and, if_false]
    · simp (disch := omega) only [e97_0, e97_1, e97_2, e97_5, e97_8, e97_9, e97_10, e97_13, e97_16, e97_19, e97_21, e97_22, e97_23, e97_26, e97_29, e97_30, e97_31, e97_32, e97_33, e97_36, e97_37, e97_40, e97_41, e97_44, e97_45, e97_48, e97_50, e97_51, e97_52, e97_55, e97_56, e97_59, e97_62, e97_63, e97_64, e97_67, e97_68, e97_69, e97_70, e97_73, e97_74, e97_75, e97_78, e97_79, e97_82, ↓reduceIte, ↓gi0, ↓gr0, ↓gl0, ↓gi1, ↓gr1, ↓gl1, ↓gi2, ↓gr2, ↓gl2, ↓gi3, ↓gr3, ↓gl3, ↓gi4, ↓gr4, ↓gl4, ↓gi5, ↓gr5, ↓gl5, ↓gi6, ↓gr6, ↓gl6, ↓gi7, ↓gr7, ↓gl7, ↓gi8, ↓gr8, ↓gl8, ↓gi9, ↓gr9, ↓gl9, ↓qI, ↓qI2, ↓qL, ↓qL2, ↓qR, ↓qV, ↓pd0, ↓ta0, ↓ts0, ↓pd1, ↓ta1, ↓ts1, ↓pd2, ↓ta2, ↓ts2, ↓pd3, ↓ta3, ↓ts3, ↓pd4, ↓ta4, ↓ts4, ↓pd5, ↓ta5, ↓ts5, ↓pd6, ↓ta6, ↓ts6, lGet, lSet, okS, isLg, Bool.not_false, Bool.not_true, Bool.false_eq_true, not_false_eq_true, not_true_eq_false, catS, okR1, okR20, okR21, okR2b, List.length_cons, List.length_nil, List.drop_succ_cons, List.drop_zero, List.drop_nil, and_self, true_and, and_true, false_and, and_false, Nat.reduceAdd, Nat.reduceLeDiff, Nat.zero_add, Nat.le_refl, Nat.zero_le, pushR, reduceCtorEq, or_self, or_false, false_or, true_or, or_true, ltT, ltF, leT, leF, eqF, eqT, lt0F, ge0T, le0T, le0F, eq0T, eq0F, gt0T, gt0F, nI_add, nI_1, pk_mul, subT, sub1, divT, remN, natRem, n2, n3, n4, n5, n6, n7, n8, n9, n10, n12, n16, n22, n23, n24, n40, n48, n57, n60, n97, n99, n100, n119, n120, n238, n357, n999, n9999, n2231, Int32.add_zero, bI_t, bI_f, one_ne, K2, ↓G2_0, ↓G2_1, ↓G2_2, ↓G2_3, ↓G2_4, ↓G2_5, ↓G2_6, ↓G2_7, ↓G2_8, ↓G2_9, ↓G2_10, ↓G2_11, ↓G2_12, ↓U2_12, ↓G2_13, ↓U2_13, ↓U2_11, ↓nw_a, ↓nw_l, kN, k531, ↓nw_g 0 (by decide), ↓nw_g 1 (by decide), ↓nw_g 2 (by decide), ↓nw_g 3 (by decide), ↓bnd w1, ↓bnd w2, ↓bnd hu]
    · exact hI
  by_cases g4 : k ≤ (f j).2.2.2.2.1
  case neg =>
    refine ⟨s, ?_, ?_, FrHi.rf s⟩ <;> simp only [oPays, nPe, pOf, ctyOf, lotsP, g1, g2, and_self, if_true, ej, ek, g3, g4, cl, and_false, if_false]
    · simp (disch := omega) only [e97_0, e97_1, e97_2, e97_5, e97_8, e97_9, e97_10, e97_13, e97_16, e97_19, e97_21, e97_22, e97_23, e97_26, e97_29, e97_30, e97_31, e97_32, e97_33, e97_36, e97_37, e97_40, e97_41, e97_44, e97_45, e97_48, e97_50, e97_51, e97_52, e97_55, e97_56, e97_59, e97_62, e97_63, e97_64, e97_67, e97_68, e97_69, e97_70, e97_73, e97_74, e97_75, e97_78, e97_79, e97_82, ↓reduceIte, ↓gi0, ↓gr0, ↓gl0, ↓gi1, ↓gr1, ↓gl1, ↓gi2, ↓gr2, ↓gl2, ↓gi3, ↓gr3, ↓gl3, ↓gi4, ↓gr4, ↓gl4, ↓gi5, ↓gr5, ↓gl5, ↓gi6, ↓gr6, ↓gl6, ↓gi7, ↓gr7, ↓gl7, ↓gi8, ↓gr8, ↓gl8, ↓gi9, ↓gr9, ↓gl9, ↓qI, ↓qI2, ↓qL, ↓qL2, ↓qR, ↓qV, ↓pd0, ↓ta0, ↓ts0, ↓pd1, ↓ta1, ↓ts1, ↓pd2, ↓ta2, ↓ts2, ↓pd3, ↓ta3, ↓ts3, ↓pd4, ↓ta4, ↓ts4, ↓pd5, ↓ta5, ↓ts5, ↓pd6, ↓ta6, ↓ts6, lGet, lSet, okS, isLg, Bool.not_false, Bool.not_true, Bool.false_eq_true, not_false_eq_true, not_true_eq_false, catS, okR1, okR20, okR21, okR2b, List.length_cons, List.length_nil, List.drop_succ_cons, List.drop_zero, List.drop_nil, and_self, true_and, and_true, false_and, and_false, Nat.reduceAdd, Nat.reduceLeDiff, Nat.zero_add, Nat.le_refl, Nat.zero_le, pushR, reduceCtorEq, or_self, or_false, false_or, true_or, or_true, ltT, ltF, leT, leF, eqF, eqT, lt0F, ge0T, le0T, le0F, eq0T, eq0F, gt0T, gt0F, nI_add, nI_1, pk_mul, subT, sub1, divT, remN, natRem, n2, n3, n4, n5, n6, n7, n8, n9, n10, n12, n16, n22, n23, n24, n40, n48, n57, n60, n97, n99, n100, n119, n120, n238, n357, n999, n9999, n2231, Int32.add_zero, bI_t, bI_f, one_ne, K2, ↓G2_0, ↓G2_1, ↓G2_2, ↓G2_3, ↓G2_4, ↓G2_5, ↓G2_6, ↓G2_7, ↓G2_8, ↓G2_9, ↓G2_10, ↓G2_11, ↓G2_12, ↓U2_12, ↓G2_13, ↓U2_13, ↓U2_11, ↓nw_a, ↓nw_l, kN, k531, ↓nw_g 0 (by decide), ↓nw_g 1 (by decide), ↓nw_g 2 (by decide), ↓nw_g 3 (by decide), ↓bnd w1, ↓bnd w2, ↓bnd hu, ↓pn_g 5 (by decide), how]
    · exact hI
  obtain ⟨s1, a1, a2, a3, a4⟩ := c_remember (d + 2) (scr := scr) hI.2.2.2.2.2.2.2.1 hC
  have hp1 : PR s1 (533 + 3 * j) (f j) := PR_ext hp (fun a k x y => a4 a k (by omega))
  obtain ⟨s2, b1, b2, b3⟩ := c_spend (d + 3) (scr := scr) (perN hj6) (n := k) hp1.1 hpo.1 hp1.2.2.2.2.2.2 (fun i hi => by have := (hpo.2.2.1 i hi).1; omega) (by omega)
  have hp2 := PR.lots (k := (f j).1) (le := (f j).2.1) (w := (f j).2.2.1) (ca := (f j).2.2.2.1) (ow := (f j).2.2.2.2.1) (dn := (f j).2.2.2.2.2.1) hp1 b3 b2
  have how2 := hp2.2.2.2.2.1
  have hp3 := PR_owe hp2 ((f j).2.2.2.2.1 - k)
  have hin := hI.up hj6 a2 a4 (b3.p.tr (FrP.n (by decide))) hp3
  refine ⟨_, ?_, ?_, hin.2⟩ <;> simp only [oPays, nPe, pOf, ctyOf, lotsP, g1, g2, g3, g4, and_self, if_true, ej, ek, cl]
  · simp only at how2
    simp (disch := omega) only [e97_0, e97_1, e97_2, e97_5, e97_8, e97_9, e97_10, e97_13, e97_16, e97_19, e97_21, e97_22, e97_23, e97_26, e97_29, e97_30, e97_31, e97_32, e97_33, e97_36, e97_37, e97_40, e97_41, e97_44, e97_45, e97_48, e97_50, e97_51, e97_52, e97_55, e97_56, e97_59, e97_62, e97_63, e97_64, e97_67, e97_68, e97_69, e97_70, e97_73, e97_74, e97_75, e97_78, e97_79, e97_82, ↓reduceIte, ↓gi0, ↓gr0, ↓gl0, ↓gi1, ↓gr1, ↓gl1, ↓gi2, ↓gr2, ↓gl2, ↓gi3, ↓gr3, ↓gl3, ↓gi4, ↓gr4, ↓gl4, ↓gi5, ↓gr5, ↓gl5, ↓gi6, ↓gr6, ↓gl6, ↓gi7, ↓gr7, ↓gl7, ↓gi8, ↓gr8, ↓gl8, ↓gi9, ↓gr9, ↓gl9, ↓qI, ↓qI2, ↓qL, ↓qL2, ↓qR, ↓qV, ↓pd0, ↓ta0, ↓ts0, ↓pd1, ↓ta1, ↓ts1, ↓pd2, ↓ta2, ↓ts2, ↓pd3, ↓ta3, ↓ts3, ↓pd4, ↓ta4, ↓ts4, ↓pd5, ↓ta5, ↓ts5, ↓pd6, ↓ta6, ↓ts6, lGet, lSet, okS, isLg, Bool.not_false, Bool.not_true, Bool.false_eq_true, not_false_eq_true, not_true_eq_false, catS, okR1, okR20, okR21, okR2b, List.length_cons, List.length_nil, List.drop_succ_cons, List.drop_zero, List.drop_nil, and_self, true_and, and_true, false_and, and_false, Nat.reduceAdd, Nat.reduceLeDiff, Nat.zero_add, Nat.le_refl, Nat.zero_le, pushR, reduceCtorEq, or_self, or_false, false_or, true_or, or_true, ltT, ltF, leT, leF, eqF, eqT, lt0F, ge0T, le0T, le0F, eq0T, eq0F, gt0T, gt0F, nI_add, nI_1, pk_mul, subT, sub1, divT, remN, natRem, n2, n3, n4, n5, n6, n7, n8, n9, n10, n12, n16, n22, n23, n24, n40, n48, n57, n60, n97, n99, n100, n119, n120, n238, n357, n999, n9999, n2231, Int32.add_zero, bI_t, bI_f, one_ne, K2, ↓G2_0, ↓G2_1, ↓G2_2, ↓G2_3, ↓G2_4, ↓G2_5, ↓G2_6, ↓G2_7, ↓G2_8, ↓G2_9, ↓G2_10, ↓G2_11, ↓G2_12, ↓U2_12, ↓G2_13, ↓U2_13, ↓U2_11, K17, ↓G17_0, ↓G17_1, ↓U17_1, ↓G17_2, ↓U17_2, ↓nw_a, ↓nw_l, kN, k531, ↓nw_g 0 (by decide), ↓nw_g 1 (by decide), ↓nw_g 2 (by decide), ↓nw_g 3 (by decide), ↓bnd w1, ↓bnd w2, ↓bnd hu, how, ↓bnd a1, ↓bnd b1, ↓pn_g 5 (by decide), ↓pn_p 5 (by decide), how2, u2_same]
  · exact hin.1
theorem cs_pardon (d : Nat) {A : AS} (hI : InvC s A) (hG : Gd A) (p : Int32) : ∃ s', EvM (d + 6) 99 [.ref 2, .int p] (mkH scr s) = some ((oPardon p A).1, mkH scr s') ∧ InvC s' (oPardon p A).2 ∧ FrHi s s' := by
  obtain ⟨rw_, tp, fl, st, hs, ⟨t, w, m, N, f⟩, im, pa, tr⟩ := A
  have hC : CR s 531 (t, w, m, N, f) := hI.2.2.2.2.2.1
  have hN : s.1 531 3 = nI N := hC.2.2.2.1
  have h6 : N ≤ 6 := hC.2.2.2.2.1
  have hcg : cyGd 9999 (t, w, m, N, f) := hG.2.1.1
  have hm : m ≤ 999 := hG.2.1.2.2
  have hmo : s.1 531 2 = nI m := hC.2.2.1
  have hok : cyOk (t, w, m, N, f) := hcg.ok (by decide) (by show m < 2 ^ 20; omega)
  have w1 := c_isPerson (d + 3) (scr := scr) p hN h6
  rw [ev99, e99_0]
  cases g1 : inB p N
  · rw [g1] at w1
    refine ⟨s, ?_, ?_, FrHi.rf s⟩ <;> simp only [oPardon, nPe, g1, Bool.false_eq_true, if_false, bad]
    · simp (disch := omega) only [e99_0, e99_1, e99_2, e99_5, e99_8, e99_10, e99_11, e99_12, e99_15, e99_16, e99_19, e99_22, e99_23, e99_26, e99_29, e99_30, e99_31, e99_34, e99_35, e99_36, e99_39, e99_42, e99_43, e99_44, e99_45, e99_48, e99_49, ↓reduceIte, ↓gi0, ↓gr0, ↓gl0, ↓gi1, ↓gr1, ↓gl1, ↓gi2, ↓gr2, ↓gl2, ↓gi3, ↓gr3, ↓gl3, ↓gi4, ↓gr4, ↓gl4, ↓gi5, ↓gr5, ↓gl5, ↓gi6, ↓gr6, ↓gl6, ↓gi7, ↓gr7, ↓gl7, ↓gi8, ↓gr8, ↓gl8, ↓gi9, ↓gr9, ↓gl9, ↓qI, ↓qI2, ↓qL, ↓qL2, ↓qR, ↓qV, ↓pd0, ↓ta0, ↓ts0, ↓pd1, ↓ta1, ↓ts1, ↓pd2, ↓ta2, ↓ts2, ↓pd3, ↓ta3, ↓ts3, ↓pd4, ↓ta4, ↓ts4, ↓pd5, ↓ta5, ↓ts5, ↓pd6, ↓ta6, ↓ts6, lGet, lSet, okS, isLg, Bool.not_false, Bool.not_true, Bool.false_eq_true, not_false_eq_true, not_true_eq_false, catS, okR1, okR20, okR21, okR2b, List.length_cons, List.length_nil, List.drop_succ_cons, List.drop_zero, List.drop_nil, and_self, true_and, and_true, false_and, and_false, Nat.reduceAdd, Nat.reduceLeDiff, Nat.zero_add, Nat.le_refl, Nat.zero_le, pushR, reduceCtorEq, or_self, or_false, false_or, true_or, or_true, ltT, ltF, leT, leF, eqF, eqT, lt0F, ge0T, le0T, le0F, eq0T, eq0F, gt0T, gt0F, nI_add, nI_1, pk_mul, subT, sub1, divT, remN, natRem, n2, n3, n4, n5, n6, n7, n8, n9, n10, n12, n16, n22, n23, n24, n40, n48, n57, n60, n97, n99, n100, n119, n120, n238, n357, n999, n9999, n2231, Int32.add_zero, bI_t, bI_f, one_ne, K2, ↓G2_0, ↓G2_1, ↓G2_2, ↓G2_3, ↓G2_4, ↓G2_5, ↓G2_6, ↓G2_7, ↓G2_8, ↓G2_9, ↓G2_10, ↓G2_11, ↓G2_12, ↓U2_12, ↓G2_13, ↓U2_13, ↓U2_11, ↓nw_a, ↓nw_l, kN, k531, ↓nw_g 0 (by decide), ↓nw_g 1 (by decide), ↓nw_g 2 (by decide), ↓nw_g 3 (by decide), ↓bnd w1]
    · exact hI
  rw [g1] at w1
  obtain ⟨j, hj, rfl⟩ := inB_of (by omega) g1
  have ej : (nI j).toNatClampNeg = j := nI_clamp (by omega)
  have hj6 : j < 6 := by omega
  have hp := hC.pr hj
  obtain ⟨s1, a1, a2, a3, a4⟩ := c_remember (d + 2) (scr := scr) hI.2.2.2.2.2.2.2.1 hC
  have hp1 : PR s1 (533 + 3 * j) (f j) := PR_ext hp (fun a k x y => a4 a k (by omega))
  have ho := hp1.2.2.2.2.1
  have hp3 := PR_owe (k := (f j).1) (le := (f j).2.1) (wo := (f j).2.2.1) (ca := (f j).2.2.2.1) (ow := (f j).2.2.2.2.1) (dn := (f j).2.2.2.2.2.1) (l := (f j).2.2.2.2.2.2) hp1 0
  have hin := hI.up hj6 a2 a4 (FrP.n (by decide)) hp3
  refine ⟨_, ?_, ?_, hin.2⟩ <;> simp only [oPardon, nPe, pOf, ctyOf, g1, if_true, ej, cl]
  · simp (disch := omega) only [e99_0, e99_1, e99_2, e99_5, e99_8, e99_10, e99_11, e99_12, e99_15, e99_16, e99_19, e99_22, e99_23, e99_26, e99_29, e99_30, e99_31, e99_34, e99_35, e99_36, e99_39, e99_42, e99_43, e99_44, e99_45, e99_48, e99_49, ↓reduceIte, ↓gi0, ↓gr0, ↓gl0, ↓gi1, ↓gr1, ↓gl1, ↓gi2, ↓gr2, ↓gl2, ↓gi3, ↓gr3, ↓gl3, ↓gi4, ↓gr4, ↓gl4, ↓gi5, ↓gr5, ↓gl5, ↓gi6, ↓gr6, ↓gl6, ↓gi7, ↓gr7, ↓gl7, ↓gi8, ↓gr8, ↓gl8, ↓gi9, ↓gr9, ↓gl9, ↓qI, ↓qI2, ↓qL, ↓qL2, ↓qR, ↓qV, ↓pd0, ↓ta0, ↓ts0, ↓pd1, ↓ta1, ↓ts1, ↓pd2, ↓ta2, ↓ts2, ↓pd3, ↓ta3, ↓ts3, ↓pd4, ↓ta4, ↓ts4, ↓pd5, ↓ta5, ↓ts5, ↓pd6, ↓ta6, ↓ts6, lGet, lSet, okS, isLg, Bool.not_false, Bool.not_true, Bool.false_eq_true, not_false_eq_true, not_true_eq_false, catS, okR1, okR20, okR21, okR2b, List.length_cons, List.length_nil, List.drop_succ_cons, List.drop_zero, List.drop_nil, and_self, true_and, and_true, false_and, and_false, Nat.reduceAdd, Nat.reduceLeDiff, Nat.zero_add, Nat.le_refl, Nat.zero_le, pushR, reduceCtorEq, or_self, or_false, false_or, true_or, or_true, ltT, ltF, leT, leF, eqF, eqT, lt0F, ge0T, le0T, le0F, eq0T, eq0F, gt0T, gt0F, nI_add, nI_1, pk_mul, subT, sub1, divT, remN, natRem, n2, n3, n4, n5, n6, n7, n8, n9, n10, n12, n16, n22, n23, n24, n40, n48, n57, n60, n97, n99, n100, n119, n120, n238, n357, n999, n9999, n2231, Int32.add_zero, bI_t, bI_f, one_ne, K2, ↓G2_0, ↓G2_1, ↓G2_2, ↓G2_3, ↓G2_4, ↓G2_5, ↓G2_6, ↓G2_7, ↓G2_8, ↓G2_9, ↓G2_10, ↓G2_11, ↓G2_12, ↓U2_12, ↓G2_13, ↓U2_13, ↓U2_11, K17, ↓G17_0, ↓G17_1, ↓U17_1, ↓G17_2, ↓U17_2, ↓nw_a, ↓nw_l, kN, k531, ↓nw_g 0 (by decide), ↓nw_g 1 (by decide), ↓nw_g 2 (by decide), ↓nw_g 3 (by decide), ↓bnd w1, ↓bnd a1, ↓pn_g 5 (by decide), ↓pn_p 5 (by decide), ho, show nI 0 = 0 from rfl]
  · exact hin.1
theorem cs_dies (d : Nat) {A : AS} (hI : InvC s A) (hG : Gd A) (p h : Int32) : ∃ s', EvM (d + 6) 98 [.ref 2, .int p, .int h] (mkH scr s) = some ((oDies p h A).1, mkH scr s') ∧ InvC s' (oDies p h A).2 ∧ FrHi s s' := by
  obtain ⟨rw_, tp, fl, st, hs, ⟨t, w, m, N, f⟩, im, pa, tr⟩ := A
  have hC : CR s 531 (t, w, m, N, f) := hI.2.2.2.2.2.1
  have hN : s.1 531 3 = nI N := hC.2.2.2.1
  have h6 : N ≤ 6 := hC.2.2.2.2.1
  have hcg : cyGd 9999 (t, w, m, N, f) := hG.2.1.1
  have hm : m ≤ 999 := hG.2.1.2.2
  have hmo : s.1 531 2 = nI m := hC.2.2.1
  have hok : cyOk (t, w, m, N, f) := hcg.ok (by decide) (by show m < 2 ^ 20; omega)
  have w1 := c_isPerson (d + 3) (scr := scr) p hN h6
  have w2 := c_isPerson (d + 3) (scr := scr) h hN h6
  rw [ev98, e98_0]
  cases g1 : inB p N
  · rw [g1] at w1
    refine ⟨s, ?_, ?_, FrHi.rf s⟩ <;> simp only [oDies, nPe, g1, Bool.false_eq_true, false_and, if_false, bad]
    · simp (disch := omega) only [e98_0, e98_1, e98_2, e98_5, e98_8, e98_9, e98_10, e98_13, e98_16, e98_17, e98_18, e98_21, e98_23, e98_24, e98_25, e98_28, e98_31, e98_32, e98_33, e98_34, e98_35, e98_38, e98_41, e98_42, e98_43, e98_45, e98_46, e98_49, e98_51, e98_54, e98_55, e98_58, e98_61, e98_63, e98_64, e98_65, e98_68, e98_69, e98_72, e98_75, e98_76, e98_78, e98_79, e98_82, e98_85, e98_88, e98_90, e98_93, ↓reduceIte, ↓gi0, ↓gr0, ↓gl0, ↓gi1, ↓gr1, ↓gl1, ↓gi2, ↓gr2, ↓gl2, ↓gi3, ↓gr3, ↓gl3, ↓gi4, ↓gr4, ↓gl4, ↓gi5, ↓gr5, ↓gl5, ↓gi6, ↓gr6, ↓gl6, ↓gi7, ↓gr7, ↓gl7, ↓gi8, ↓gr8, ↓gl8, ↓gi9, ↓gr9, ↓gl9, ↓qI, ↓qI2, ↓qL, ↓qL2, ↓qR, ↓qV, ↓pd0, ↓ta0, ↓ts0, ↓pd1, ↓ta1, ↓ts1, ↓pd2, ↓ta2, ↓ts2, ↓pd3, ↓ta3, ↓ts3, ↓pd4, ↓ta4, ↓ts4, ↓pd5, ↓ta5, ↓ts5, ↓pd6, ↓ta6, ↓ts6, lGet, lSet, okS, isLg, Bool.not_false, Bool.not_true, Bool.false_eq_true, not_false_eq_true, not_true_eq_false, catS, okR1, okR20, okR21, okR2b, List.length_cons, List.length_nil, List.drop_succ_cons, List.drop_zero, List.drop_nil, and_self, true_and, and_true, false_and, and_false, Nat.reduceAdd, Nat.reduceLeDiff, Nat.zero_add, Nat.le_refl, Nat.zero_le, pushR, reduceCtorEq, or_self, or_false, false_or, true_or, or_true, ltT, ltF, leT, leF, eqF, eqT, lt0F, ge0T, le0T, le0F, eq0T, eq0F, gt0T, gt0F, nI_add, nI_1, pk_mul, subT, sub1, divT, remN, natRem, n2, n3, n4, n5, n6, n7, n8, n9, n10, n12, n16, n22, n23, n24, n40, n48, n57, n60, n97, n99, n100, n119, n120, n238, n357, n999, n9999, n2231, Int32.add_zero, bI_t, bI_f, one_ne, K2, ↓G2_0, ↓G2_1, ↓G2_2, ↓G2_3, ↓G2_4, ↓G2_5, ↓G2_6, ↓G2_7, ↓G2_8, ↓G2_9, ↓G2_10, ↓G2_11, ↓G2_12, ↓U2_12, ↓G2_13, ↓U2_13, ↓U2_11, ↓nw_a, ↓nw_l, kN, k531, ↓nw_g 0 (by decide), ↓nw_g 1 (by decide), ↓nw_g 2 (by decide), ↓nw_g 3 (by decide), ↓bnd w1]
    · exact hI
  cases g2 : inB h N
  · rw [g1] at w1; rw [g2] at w2
    refine ⟨s, ?_, ?_, FrHi.rf s⟩ <;> simp only [oDies, nPe, g1, g2, Bool.false_eq_true, false_and, and_false, if_false, bad]
    · simp (disch := omega) only [e98_0, e98_1, e98_2, e98_5, e98_8, e98_9, e98_10, e98_13, e98_16, e98_17, e98_18, e98_21, e98_23, e98_24, e98_25, e98_28, e98_31, e98_32, e98_33, e98_34, e98_35, e98_38, e98_41, e98_42, e98_43, e98_45, e98_46, e98_49, e98_51, e98_54, e98_55, e98_58, e98_61, e98_63, e98_64, e98_65, e98_68, e98_69, e98_72, e98_75, e98_76, e98_78, e98_79, e98_82, e98_85, e98_88, e98_90, e98_93, ↓reduceIte, ↓gi0, ↓gr0, ↓gl0, ↓gi1, ↓gr1, ↓gl1, ↓gi2, ↓gr2, ↓gl2, ↓gi3, ↓gr3, ↓gl3, ↓gi4, ↓gr4, ↓gl4, ↓gi5, ↓gr5, ↓gl5, ↓gi6, ↓gr6, ↓gl6, ↓gi7, ↓gr7, ↓gl7, ↓gi8, ↓gr8, ↓gl8, ↓gi9, ↓gr9, ↓gl9, ↓qI, ↓qI2, ↓qL, ↓qL2, ↓qR, ↓qV, ↓pd0, ↓ta0, ↓ts0, ↓pd1, ↓ta1, ↓ts1, ↓pd2, ↓ta2, ↓ts2, ↓pd3, ↓ta3, ↓ts3, ↓pd4, ↓ta4, ↓ts4, ↓pd5, ↓ta5, ↓ts5, ↓pd6, ↓ta6, ↓ts6, lGet, lSet, okS, isLg, Bool.not_false, Bool.not_true, Bool.false_eq_true, not_false_eq_true, not_true_eq_false, catS, okR1, okR20, okR21, okR2b, List.length_cons, List.length_nil, List.drop_succ_cons, List.drop_zero, List.drop_nil, and_self, true_and, and_true, false_and, and_false, Nat.reduceAdd, Nat.reduceLeDiff, Nat.zero_add, Nat.le_refl, Nat.zero_le, pushR, reduceCtorEq, or_self, or_false, false_or, true_or, or_true, ltT, ltF, leT, leF, eqF, eqT, lt0F, ge0T, le0T, le0F, eq0T, eq0F, gt0T, gt0F, nI_add, nI_1, pk_mul, subT, sub1, divT, remN, natRem, n2, n3, n4, n5, n6, n7, n8, n9, n10, n12, n16, n22, n23, n24, n40, n48, n57, n60, n97, n99, n100, n119, n120, n238, n357, n999, n9999, n2231, Int32.add_zero, bI_t, bI_f, one_ne, K2, ↓G2_0, ↓G2_1, ↓G2_2, ↓G2_3, ↓G2_4, ↓G2_5, ↓G2_6, ↓G2_7, ↓G2_8, ↓G2_9, ↓G2_10, ↓G2_11, ↓G2_12, ↓U2_12, ↓G2_13, ↓U2_13, ↓U2_11, ↓nw_a, ↓nw_l, kN, k531, ↓nw_g 0 (by decide), ↓nw_g 1 (by decide), ↓nw_g 2 (by decide), ↓nw_g 3 (by decide), ↓bnd w1, ↓bnd w2]
    · exact hI
  rw [g1] at w1; rw [g2] at w2
  by_cases g3 : p = h
  · refine ⟨s, ?_, ?_, FrHi.rf s⟩ <;> simp only [oDies, nPe, g1, g2, g3, ne_eq, not_true_eq_false, and_false, if_false, bad]
    · rw [g3] at w1
      simp (disch := omega) only [e98_0, e98_1, e98_2, e98_5, e98_8, e98_9, e98_10, e98_13, e98_16, e98_17, e98_18, e98_21, e98_23, e98_24, e98_25, e98_28, e98_31, e98_32, e98_33, e98_34, e98_35, e98_38, e98_41, e98_42, e98_43, e98_45, e98_46, e98_49, e98_51, e98_54, e98_55, e98_58, e98_61, e98_63, e98_64, e98_65, e98_68, e98_69, e98_72, e98_75, e98_76, e98_78, e98_79, e98_82, e98_85, e98_88, e98_90, e98_93, ↓reduceIte, ↓gi0, ↓gr0, ↓gl0, ↓gi1, ↓gr1, ↓gl1, ↓gi2, ↓gr2, ↓gl2, ↓gi3, ↓gr3, ↓gl3, ↓gi4, ↓gr4, ↓gl4, ↓gi5, ↓gr5, ↓gl5, ↓gi6, ↓gr6, ↓gl6, ↓gi7, ↓gr7, ↓gl7, ↓gi8, ↓gr8, ↓gl8, ↓gi9, ↓gr9, ↓gl9, ↓qI, ↓qI2, ↓qL, ↓qL2, ↓qR, ↓qV, ↓pd0, ↓ta0, ↓ts0, ↓pd1, ↓ta1, ↓ts1, ↓pd2, ↓ta2, ↓ts2, ↓pd3, ↓ta3, ↓ts3, ↓pd4, ↓ta4, ↓ts4, ↓pd5, ↓ta5, ↓ts5, ↓pd6, ↓ta6, ↓ts6, lGet, lSet, okS, isLg, Bool.not_false, Bool.not_true, Bool.false_eq_true, not_false_eq_true, not_true_eq_false, catS, okR1, okR20, okR21, okR2b, List.length_cons, List.length_nil, List.drop_succ_cons, List.drop_zero, List.drop_nil, and_self, true_and, and_true, false_and, and_false, Nat.reduceAdd, Nat.reduceLeDiff, Nat.zero_add, Nat.le_refl, Nat.zero_le, pushR, reduceCtorEq, or_self, or_false, false_or, true_or, or_true, ltT, ltF, leT, leF, eqF, eqT, lt0F, ge0T, le0T, le0F, eq0T, eq0F, gt0T, gt0F, nI_add, nI_1, pk_mul, subT, sub1, divT, remN, natRem, n2, n3, n4, n5, n6, n7, n8, n9, n10, n12, n16, n22, n23, n24, n40, n48, n57, n60, n97, n99, n100, n119, n120, n238, n357, n999, n9999, n2231, Int32.add_zero, bI_t, bI_f, one_ne, K2, ↓G2_0, ↓G2_1, ↓G2_2, ↓G2_3, ↓G2_4, ↓G2_5, ↓G2_6, ↓G2_7, ↓G2_8, ↓G2_9, ↓G2_10, ↓G2_11, ↓G2_12, ↓U2_12, ↓G2_13, ↓U2_13, ↓U2_11, ↓nw_a, ↓nw_l, kN, k531, ↓nw_g 0 (by decide), ↓nw_g 1 (by decide), ↓nw_g 2 (by decide), ↓nw_g 3 (by decide), ↓bnd w1, ↓bnd w2]
    · exact hI
  obtain ⟨j, hj, rfl⟩ := inB_of (by omega) g1
  obtain ⟨k, hk, rfl⟩ := inB_of (by omega) g2
  have ej : (nI j).toNatClampNeg = j := nI_clamp (by omega)
  have ek : (nI k).toNatClampNeg = k := nI_clamp (by omega)
  have hj6 : j < 6 := by omega
  have hk6 : k < 6 := by omega
  have hjk : j ≠ k := fun z => g3 (by rw [z])
  have hpj := hC.pr hj
  have hpk := hC.pr hk
  have uj := c_unspent (d + 4) (scr := scr) (perN hj6) hpj.2.2.2.2.2.2
  have uk := c_unspent (d + 4) (scr := scr) (perN hk6) hpk.2.2.2.2.2.2
  have sj : sumD (f j).2.2.2.2.2.2 < 2 ^ 23 := pOk_sum hpj (hok.2.2.2 j hj)
  have sk : sumD (f k).2.2.2.2.2.2 < 2 ^ 23 := pOk_sum hpk (hok.2.2.2 k hk)
  by_cases g4 : 9999 < sumD (f j).2.2.2.2.2.2 + sumD (f k).2.2.2.2.2.2
  · refine ⟨s, ?_, ?_, FrHi.rf s⟩ <;> simp only [oDies, nPe, pOf, ctyOf, lotsP, g1, g2, g3, ne_eq, not_false_eq_true, and_self, if_true, ej, ek, g4, cl]
    · simp (disch := omega) only [e98_0, e98_1, e98_2, e98_5, e98_8, e98_9, e98_10, e98_13, e98_16, e98_17, e98_18, e98_21, e98_23, e98_24, e98_25, e98_28, e98_31, e98_32, e98_33, e98_34, e98_35, e98_38, e98_41, e98_42, e98_43, e98_45, e98_46, e98_49, e98_51, e98_54, e98_55, e98_58, e98_61, e98_63, e98_64, e98_65, e98_68, e98_69, e98_72, e98_75, e98_76, e98_78, e98_79, e98_82, e98_85, e98_88, e98_90, e98_93, ↓reduceIte, ↓gi0, ↓gr0, ↓gl0, ↓gi1, ↓gr1, ↓gl1, ↓gi2, ↓gr2, ↓gl2, ↓gi3, ↓gr3, ↓gl3, ↓gi4, ↓gr4, ↓gl4, ↓gi5, ↓gr5, ↓gl5, ↓gi6, ↓gr6, ↓gl6, ↓gi7, ↓gr7, ↓gl7, ↓gi8, ↓gr8, ↓gl8, ↓gi9, ↓gr9, ↓gl9, ↓qI, ↓qI2, ↓qL, ↓qL2, ↓qR, ↓qV, ↓pd0, ↓ta0, ↓ts0, ↓pd1, ↓ta1, ↓ts1, ↓pd2, ↓ta2, ↓ts2, ↓pd3, ↓ta3, ↓ts3, ↓pd4, ↓ta4, ↓ts4, ↓pd5, ↓ta5, ↓ts5, ↓pd6, ↓ta6, ↓ts6, lGet, lSet, okS, isLg, Bool.not_false, Bool.not_true, Bool.false_eq_true, not_false_eq_true, not_true_eq_false, catS, okR1, okR20, okR21, okR2b, List.length_cons, List.length_nil, List.drop_succ_cons, List.drop_zero, List.drop_nil, and_self, true_and, and_true, false_and, and_false, Nat.reduceAdd, Nat.reduceLeDiff, Nat.zero_add, Nat.le_refl, Nat.zero_le, pushR, reduceCtorEq, or_self, or_false, false_or, true_or, or_true, ltT, ltF, leT, leF, eqF, eqT, lt0F, ge0T, le0T, le0F, eq0T, eq0F, gt0T, gt0F, nI_add, nI_1, pk_mul, subT, sub1, divT, remN, natRem, n2, n3, n4, n5, n6, n7, n8, n9, n10, n12, n16, n22, n23, n24, n40, n48, n57, n60, n97, n99, n100, n119, n120, n238, n357, n999, n9999, n2231, Int32.add_zero, bI_t, bI_f, one_ne, K2, ↓G2_0, ↓G2_1, ↓G2_2, ↓G2_3, ↓G2_4, ↓G2_5, ↓G2_6, ↓G2_7, ↓G2_8, ↓G2_9, ↓G2_10, ↓G2_11, ↓G2_12, ↓U2_12, ↓G2_13, ↓U2_13, ↓U2_11, ↓nw_a, ↓nw_l, kN, k531, ↓nw_g 0 (by decide), ↓nw_g 1 (by decide), ↓nw_g 2 (by decide), ↓nw_g 3 (by decide), ↓bnd w1, ↓bnd w2, g3, ↓bnd uj, ↓bnd uk]
    · exact hI
  obtain ⟨s1, a1, a2, a3, a4⟩ := c_remember (d + 2) (scr := scr) hI.2.2.2.2.2.2.2.1 hC
  have qj : PR s1 (533 + 3 * j) (f j) := PR_ext hpj (fun a k x y => a4 a k (by omega))
  have qk : PR s1 (533 + 3 * k) (f k) := PR_ext hpk (fun a k x y => a4 a k (by omega))
  obtain ⟨s2, s3, b1, b2, b3, b4, b5⟩ := c_leave (d + 3) (scr := scr) (perN hj6) (perN hk6) (by omega) (k := (f j).1) (le := (f j).2.1) (wo := (f j).2.2.1) (ca := (f j).2.2.2.1) (ow := (f j).2.2.2.2.1) (dn := (f j).2.2.2.2.2.1) (l := (f j).2.2.2.2.2.2) (k' := (f k).1) (le' := (f k).2.1) (wo' := (f k).2.2.1) (ca' := (f k).2.2.2.1) (ow' := (f k).2.2.2.2.1) (dn' := (f k).2.2.2.2.2.1) (l' := (f k).2.2.2.2.2.2) qj qk m
  have hmo1 : s1.1 531 2 = nI m := by rw [a4 531 2 (by omega)]; exact hmo
  have b6 := PR_fr b5 b3 (by omega)
  have u3 := c_unspent (d + 4) (scr := scr) (perN hk6) b6.2.2.2.2.2.2
  rw [sum_gainAll hpk.2.2.2.2.2.2.2.1, Nat.add_comm (sumD (f k).2.2.2.2.2.2)] at u3
  have hc1 : CR s1 531 (t, w, m, N, f) := CR_ext hC (fun a k x y => a4 a k (by omega))
  have hc3 := CR_p (CR_p hc1 b2 b5) b3 b4
  have hin := hI.upC a2 a4 hc3 ((FrP.c hk6 b2).tr (FrP.c hj6 b3))
  refine ⟨s3, ?_, ?_, hin.2⟩ <;> simp only [oDies, nPe, pOf, ctyOf, lotsP, g1, g2, g3, ne_eq, not_false_eq_true, and_self, if_true, ej, ek, g4, cl, if_false]
  · simp (disch := omega) only [e98_0, e98_1, e98_2, e98_5, e98_8, e98_9, e98_10, e98_13, e98_16, e98_17, e98_18, e98_21, e98_23, e98_24, e98_25, e98_28, e98_31, e98_32, e98_33, e98_34, e98_35, e98_38, e98_41, e98_42, e98_43, e98_45, e98_46, e98_49, e98_51, e98_54, e98_55, e98_58, e98_61, e98_63, e98_64, e98_65, e98_68, e98_69, e98_72, e98_75, e98_76, e98_78, e98_79, e98_82, e98_85, e98_88, e98_90, e98_93, ↓reduceIte, ↓gi0, ↓gr0, ↓gl0, ↓gi1, ↓gr1, ↓gl1, ↓gi2, ↓gr2, ↓gl2, ↓gi3, ↓gr3, ↓gl3, ↓gi4, ↓gr4, ↓gl4, ↓gi5, ↓gr5, ↓gl5, ↓gi6, ↓gr6, ↓gl6, ↓gi7, ↓gr7, ↓gl7, ↓gi8, ↓gr8, ↓gl8, ↓gi9, ↓gr9, ↓gl9, ↓qI, ↓qI2, ↓qL, ↓qL2, ↓qR, ↓qV, ↓pd0, ↓ta0, ↓ts0, ↓pd1, ↓ta1, ↓ts1, ↓pd2, ↓ta2, ↓ts2, ↓pd3, ↓ta3, ↓ts3, ↓pd4, ↓ta4, ↓ts4, ↓pd5, ↓ta5, ↓ts5, ↓pd6, ↓ta6, ↓ts6, lGet, lSet, okS, isLg, Bool.not_false, Bool.not_true, Bool.false_eq_true, not_false_eq_true, not_true_eq_false, catS, okR1, okR20, okR21, okR2b, List.length_cons, List.length_nil, List.drop_succ_cons, List.drop_zero, List.drop_nil, and_self, true_and, and_true, false_and, and_false, Nat.reduceAdd, Nat.reduceLeDiff, Nat.zero_add, Nat.le_refl, Nat.zero_le, pushR, reduceCtorEq, or_self, or_false, false_or, true_or, or_true, ltT, ltF, leT, leF, eqF, eqT, lt0F, ge0T, le0T, le0F, eq0T, eq0F, gt0T, gt0F, nI_add, nI_1, pk_mul, subT, sub1, divT, remN, natRem, n2, n3, n4, n5, n6, n7, n8, n9, n10, n12, n16, n22, n23, n24, n40, n48, n57, n60, n97, n99, n100, n119, n120, n238, n357, n999, n9999, n2231, Int32.add_zero, bI_t, bI_f, one_ne, K2, ↓G2_0, ↓G2_1, ↓G2_2, ↓G2_3, ↓G2_4, ↓G2_5, ↓G2_6, ↓G2_7, ↓G2_8, ↓G2_9, ↓G2_10, ↓G2_11, ↓G2_12, ↓U2_12, ↓G2_13, ↓U2_13, ↓U2_11, K17, ↓G17_0, ↓G17_1, ↓U17_1, ↓G17_2, ↓U17_2, ↓nw_a, ↓nw_l, kN, k531, ↓nw_g 0 (by decide), ↓nw_g 1 (by decide), ↓nw_g 2 (by decide), ↓nw_g 3 (by decide), ↓bnd w1, ↓bnd w2, g3, ↓bnd uj, ↓bnd uk, ↓bnd a1, ↓bnd b1, ↓bnd u3, hmo1]
  · exact hin.1
theorem cs_sale (d : Nat) {A : AS} (hI : InvC s A) (hG : Gd A) (a b n x : Int32) : ∃ s', EvM (d + 6) 96 [.ref 2, .int a, .int b, .int n, .int x] (mkH scr s) = some ((oSale a b n x A).1, mkH scr s') ∧ InvC s' (oSale a b n x A).2 ∧ FrHi s s' := by
  obtain ⟨rw_, tp, fl, st, hs, ⟨t, w, m, N, f⟩, im, pa, tr⟩ := A
  have hC : CR s 531 (t, w, m, N, f) := hI.2.2.2.2.2.1
  have hN : s.1 531 3 = nI N := hC.2.2.2.1
  have h6 : N ≤ 6 := hC.2.2.2.2.1
  have hcg : cyGd 9999 (t, w, m, N, f) := hG.2.1.1
  have hm : m ≤ 999 := hG.2.1.2.2
  have hmo : s.1 531 2 = nI m := hC.2.2.1
  have hok : cyOk (t, w, m, N, f) := hcg.ok (by decide) (by show m < 2 ^ 20; omega)
  have w1 := c_isSale (d + 2) (scr := scr) a b n x hN h6
  rw [ev96, e96_0]
  cases g1 : saleB N a b n x
  · rw [g1] at w1
    refine ⟨s, ?_, ?_, FrHi.rf s⟩ <;> simp only [oSale, nPe, g1, Bool.false_eq_true, if_false, bad]
    · simp (disch := omega) only [e96_0, e96_1, e96_2, e96_3, e96_4, e96_6, e96_9, e96_12, e96_14, e96_15, e96_16, e96_19, e96_20, e96_21, e96_22, e96_25, e96_27, e96_29, e96_32, e96_34, e96_35, e96_36, e96_39, e96_40, e96_43, e96_46, e96_47, e96_50, e96_51, e96_52, e96_53, e96_55, e96_58, e96_59, e96_62, e96_65, e96_66, e96_67, e96_70, ↓reduceIte, ↓gi0, ↓gr0, ↓gl0, ↓gi1, ↓gr1, ↓gl1, ↓gi2, ↓gr2, ↓gl2, ↓gi3, ↓gr3, ↓gl3, ↓gi4, ↓gr4, ↓gl4, ↓gi5, ↓gr5, ↓gl5, ↓gi6, ↓gr6, ↓gl6, ↓gi7, ↓gr7, ↓gl7, ↓gi8, ↓gr8, ↓gl8, ↓gi9, ↓gr9, ↓gl9, ↓qI, ↓qI2, ↓qL, ↓qL2, ↓qR, ↓qV, ↓pd0, ↓ta0, ↓ts0, ↓pd1, ↓ta1, ↓ts1, ↓pd2, ↓ta2, ↓ts2, ↓pd3, ↓ta3, ↓ts3, ↓pd4, ↓ta4, ↓ts4, ↓pd5, ↓ta5, ↓ts5, ↓pd6, ↓ta6, ↓ts6, lGet, lSet, okS, isLg, Bool.not_false, Bool.not_true, Bool.false_eq_true, not_false_eq_true, not_true_eq_false, catS, okR1, okR20, okR21, okR2b, List.length_cons, List.length_nil, List.drop_succ_cons, List.drop_zero, List.drop_nil, and_self, true_and, and_true, false_and, and_false, Nat.reduceAdd, Nat.reduceLeDiff, Nat.zero_add, Nat.le_refl, Nat.zero_le, pushR, reduceCtorEq, or_self, or_false, false_or, true_or, or_true, ltT, ltF, leT, leF, eqF, eqT, lt0F, ge0T, le0T, le0F, eq0T, eq0F, gt0T, gt0F, nI_add, nI_1, pk_mul, subT, sub1, divT, remN, natRem, n2, n3, n4, n5, n6, n7, n8, n9, n10, n12, n16, n22, n23, n24, n40, n48, n57, n60, n97, n99, n100, n119, n120, n238, n357, n999, n9999, n2231, Int32.add_zero, bI_t, bI_f, one_ne, K2, ↓G2_0, ↓G2_1, ↓G2_2, ↓G2_3, ↓G2_4, ↓G2_5, ↓G2_6, ↓G2_7, ↓G2_8, ↓G2_9, ↓G2_10, ↓G2_11, ↓G2_12, ↓U2_12, ↓G2_13, ↓U2_13, ↓U2_11, ↓nw_a, ↓nw_l, kN, k531, ↓nw_g 0 (by decide), ↓nw_g 1 (by decide), ↓nw_g 2 (by decide), ↓nw_g 3 (by decide), ↓bnd w1]
    · exact hI
  rw [g1] at w1
  obtain ⟨a, b, n, x, ha, hb, hab, hn1, hn2, hx, rfl, rfl, rfl, rfl⟩ := saleB_of h6 g1
  have ea : (nI a).toNatClampNeg = a := nI_clamp (by omega)
  have eb : (nI b).toNatClampNeg = b := nI_clamp (by omega)
  have en : (nI n).toNatClampNeg = n := nI_clamp (by omega)
  have hb6 : b < 6 := by omega
  have r1 := c_refS (d + 3) (scr := scr) cty531 hC hok (a := a) (b := b) (n := n) ha hb (by omega)
  simp only at r1
  by_cases g2 : refS n (f a) (f b) = 0
  case neg =>
    refine ⟨s, ?_, ?_, FrHi.rf s⟩ <;> simp only [oSale, nPe, pOf, g1, if_true, ea, eb, en, g2, cl, if_false]
    · simp (disch := omega) only [e96_0, e96_1, e96_2, e96_3, e96_4, e96_6, e96_9, e96_12, e96_14, e96_15, e96_16, e96_19, e96_20, e96_21, e96_22, e96_25, e96_27, e96_29, e96_32, e96_34, e96_35, e96_36, e96_39, e96_40, e96_43, e96_46, e96_47, e96_50, e96_51, e96_52, e96_53, e96_55, e96_58, e96_59, e96_62, e96_65, e96_66, e96_67, e96_70, ↓reduceIte, ↓gi0, ↓gr0, ↓gl0, ↓gi1, ↓gr1, ↓gl1, ↓gi2, ↓gr2, ↓gl2, ↓gi3, ↓gr3, ↓gl3, ↓gi4, ↓gr4, ↓gl4, ↓gi5, ↓gr5, ↓gl5, ↓gi6, ↓gr6, ↓gl6, ↓gi7, ↓gr7, ↓gl7, ↓gi8, ↓gr8, ↓gl8, ↓gi9, ↓gr9, ↓gl9, ↓qI, ↓qI2, ↓qL, ↓qL2, ↓qR, ↓qV, ↓pd0, ↓ta0, ↓ts0, ↓pd1, ↓ta1, ↓ts1, ↓pd2, ↓ta2, ↓ts2, ↓pd3, ↓ta3, ↓ts3, ↓pd4, ↓ta4, ↓ts4, ↓pd5, ↓ta5, ↓ts5, ↓pd6, ↓ta6, ↓ts6, lGet, lSet, okS, isLg, Bool.not_false, Bool.not_true, Bool.false_eq_true, not_false_eq_true, not_true_eq_false, catS, okR1, okR20, okR21, okR2b, List.length_cons, List.length_nil, List.drop_succ_cons, List.drop_zero, List.drop_nil, and_self, true_and, and_true, false_and, and_false, Nat.reduceAdd, Nat.reduceLeDiff, Nat.zero_add, Nat.le_refl, Nat.zero_le, pushR, reduceCtorEq, or_self, or_false, false_or, true_or, or_true, ltT, ltF, leT, leF, eqF, eqT, lt0F, ge0T, le0T, le0F, eq0T, eq0F, gt0T, gt0F, nI_add, nI_1, pk_mul, subT, sub1, divT, remN, natRem, n2, n3, n4, n5, n6, n7, n8, n9, n10, n12, n16, n22, n23, n24, n40, n48, n57, n60, n97, n99, n100, n119, n120, n238, n357, n999, n9999, n2231, Int32.add_zero, bI_t, bI_f, one_ne, K2, ↓G2_0, ↓G2_1, ↓G2_2, ↓G2_3, ↓G2_4, ↓G2_5, ↓G2_6, ↓G2_7, ↓G2_8, ↓G2_9, ↓G2_10, ↓G2_11, ↓G2_12, ↓U2_12, ↓G2_13, ↓U2_13, ↓U2_11, ↓nw_a, ↓nw_l, kN, k531, ↓nw_g 0 (by decide), ↓nw_g 1 (by decide), ↓nw_g 2 (by decide), ↓nw_g 3 (by decide), ↓bnd w1, ↓bnd r1, g2]
    · exact hI
  rw [g2] at r1
  obtain ⟨s1, a1, a2, a3, a4⟩ := c_remember (d + 2) (scr := scr) hI.2.2.2.2.2.2.2.1 hC
  have hc1 : CR s1 531 (t, w, m, N, f) := CR_ext hC (fun a k x y => a4 a k (by omega))
  obtain ⟨s2, b1, b2, b3⟩ := c_sell (d + 2) (scr := scr) cty531 hc1 hok (a := a) (b := b) (n := n) (pr := nI x) ha hb hab (by omega)
  have hpb := CR.pr (f := (cSell a b n (nI x) (t, w, m, N, f)).2.2.2.2) b2 hb
  have hlb : ((cSell a b n (nI x) (t, w, m, N, f)).2.2.2.2 b).2.2.2.2.2.2 = pGain n m (f b).2.2.2.2.2.2 := by
    show (if b = b then pBuy n m (nI x) (f b) else _).2.2.2.2.2.2 = _
    rw [if_pos rfl]
    rfl
  have hl := hpb.2.2.2.2.2.2
  rw [hlb] at hl
  have u2_ := c_unspent (d + 4) (scr := scr) (perN hb6) hl
  rw [sum_gain (hC.pr hb).2.2.2.2.2.2.2.1] at u2_
  have hin := hI.upC a2 a4 b2 b3
  refine ⟨s2, ?_, ?_, hin.2⟩ <;> simp only [oSale, nPe, pOf, ctyOf, lotsP, g1, if_true, ea, eb, en, g2, cl]
  · simp (disch := omega) only [e96_0, e96_1, e96_2, e96_3, e96_4, e96_6, e96_9, e96_12, e96_14, e96_15, e96_16, e96_19, e96_20, e96_21, e96_22, e96_25, e96_27, e96_29, e96_32, e96_34, e96_35, e96_36, e96_39, e96_40, e96_43, e96_46, e96_47, e96_50, e96_51, e96_52, e96_53, e96_55, e96_58, e96_59, e96_62, e96_65, e96_66, e96_67, e96_70, ↓reduceIte, ↓gi0, ↓gr0, ↓gl0, ↓gi1, ↓gr1, ↓gl1, ↓gi2, ↓gr2, ↓gl2, ↓gi3, ↓gr3, ↓gl3, ↓gi4, ↓gr4, ↓gl4, ↓gi5, ↓gr5, ↓gl5, ↓gi6, ↓gr6, ↓gl6, ↓gi7, ↓gr7, ↓gl7, ↓gi8, ↓gr8, ↓gl8, ↓gi9, ↓gr9, ↓gl9, ↓qI, ↓qI2, ↓qL, ↓qL2, ↓qR, ↓qV, ↓pd0, ↓ta0, ↓ts0, ↓pd1, ↓ta1, ↓ts1, ↓pd2, ↓ta2, ↓ts2, ↓pd3, ↓ta3, ↓ts3, ↓pd4, ↓ta4, ↓ts4, ↓pd5, ↓ta5, ↓ts5, ↓pd6, ↓ta6, ↓ts6, lGet, lSet, okS, isLg, Bool.not_false, Bool.not_true, Bool.false_eq_true, not_false_eq_true, not_true_eq_false, catS, okR1, okR20, okR21, okR2b, List.length_cons, List.length_nil, List.drop_succ_cons, List.drop_zero, List.drop_nil, and_self, true_and, and_true, false_and, and_false, Nat.reduceAdd, Nat.reduceLeDiff, Nat.zero_add, Nat.le_refl, Nat.zero_le, pushR, reduceCtorEq, or_self, or_false, false_or, true_or, or_true, ltT, ltF, leT, leF, eqF, eqT, lt0F, ge0T, le0T, le0F, eq0T, eq0F, gt0T, gt0F, nI_add, nI_1, pk_mul, subT, sub1, divT, remN, natRem, n2, n3, n4, n5, n6, n7, n8, n9, n10, n12, n16, n22, n23, n24, n40, n48, n57, n60, n97, n99, n100, n119, n120, n238, n357, n999, n9999, n2231, Int32.add_zero, bI_t, bI_f, one_ne, K2, ↓G2_0, ↓G2_1, ↓G2_2, ↓G2_3, ↓G2_4, ↓G2_5, ↓G2_6, ↓G2_7, ↓G2_8, ↓G2_9, ↓G2_10, ↓G2_11, ↓G2_12, ↓U2_12, ↓G2_13, ↓U2_13, ↓U2_11, K17, ↓G17_0, ↓G17_1, ↓U17_1, ↓G17_2, ↓U17_2, ↓nw_a, ↓nw_l, kN, k531, ↓nw_g 0 (by decide), ↓nw_g 1 (by decide), ↓nw_g 2 (by decide), ↓nw_g 3 (by decide), ↓bnd w1, ↓bnd r1, ↓bnd a1, ↓bnd b1, ↓bnd u2_]
  · exact hin.1
theorem cs_month (d : Nat) {A : AS} (hI : InvC s A) (hG : Gd A) (x : Int32) : ∃ s', EvM (d + 7) 100 [.ref 2, .int x] (mkH scr s) = some ((oMonth x A).1, mkH scr s') ∧ InvC s' (oMonth x A).2 ∧ FrHi s s' := by
  obtain ⟨rw_, tp, fl, st, hs, ⟨t, w, m, N, f⟩, im, pa, tr⟩ := A
  have hC : CR s 531 (t, w, m, N, f) := hI.2.2.2.2.2.1
  have hN : s.1 531 3 = nI N := hC.2.2.2.1
  have h6 : N ≤ 6 := hC.2.2.2.2.1
  have hcg : cyGd 9999 (t, w, m, N, f) := hG.2.1.1
  have hm : m ≤ 999 := hG.2.1.2.2
  have hmo : s.1 531 2 = nI m := hC.2.2.1
  have hok : cyOk (t, w, m, N, f) := hcg.ok (by decide) (by show m < 2 ^ 20; omega)
  have w1 : EvM (d + 6) 121 [.int x, .int 1, .int 999999] (mkH scr s) = some (bI (inR x 1 999999), mkH scr s) := c_withinN (d + 5) x 1 999999
  have hh : s.1 2 11 = bI hs := hI.2.2.2.2.1
  rw [ev100, e100_0]
  cases g0 : hs
  · rw [g0] at hh
    refine ⟨s, ?_, ?_, FrHi.rf s⟩ <;> simp only [oMonth, hasC, Bool.false_eq_true, if_false]
    · simp (disch := omega) only [e100_0, e100_1, e100_4, e100_7, e100_9, e100_10, e100_11, e100_12, e100_14, e100_17, e100_20, e100_22, e100_23, e100_24, e100_27, e100_30, e100_33, e100_36, e100_38, e100_39, e100_40, e100_43, e100_44, e100_47, e100_50, e100_51, e100_54, e100_55, e100_56, e100_59, ↓reduceIte, ↓gi0, ↓gr0, ↓gl0, ↓gi1, ↓gr1, ↓gl1, ↓gi2, ↓gr2, ↓gl2, ↓gi3, ↓gr3, ↓gl3, ↓gi4, ↓gr4, ↓gl4, ↓gi5, ↓gr5, ↓gl5, ↓gi6, ↓gr6, ↓gl6, ↓gi7, ↓gr7, ↓gl7, ↓gi8, ↓gr8, ↓gl8, ↓gi9, ↓gr9, ↓gl9, ↓qI, ↓qI2, ↓qL, ↓qL2, ↓qR, ↓qV, ↓pd0, ↓ta0, ↓ts0, ↓pd1, ↓ta1, ↓ts1, ↓pd2, ↓ta2, ↓ts2, ↓pd3, ↓ta3, ↓ts3, ↓pd4, ↓ta4, ↓ts4, ↓pd5, ↓ta5, ↓ts5, ↓pd6, ↓ta6, ↓ts6, lGet, lSet, okS, isLg, Bool.not_false, Bool.not_true, Bool.false_eq_true, not_false_eq_true, not_true_eq_false, catS, okR1, okR20, okR21, okR2b, List.length_cons, List.length_nil, List.drop_succ_cons, List.drop_zero, List.drop_nil, and_self, true_and, and_true, false_and, and_false, Nat.reduceAdd, Nat.reduceLeDiff, Nat.zero_add, Nat.le_refl, Nat.zero_le, pushR, reduceCtorEq, or_self, or_false, false_or, true_or, or_true, ltT, ltF, leT, leF, eqF, eqT, lt0F, ge0T, le0T, le0F, eq0T, eq0F, gt0T, gt0F, nI_add, nI_1, pk_mul, subT, sub1, divT, remN, natRem, n2, n3, n4, n5, n6, n7, n8, n9, n10, n12, n16, n22, n23, n24, n40, n48, n57, n60, n97, n99, n100, n119, n120, n238, n357, n999, n9999, n2231, Int32.add_zero, bI_t, bI_f, one_ne, K2, ↓G2_0, ↓G2_1, ↓G2_2, ↓G2_3, ↓G2_4, ↓G2_5, ↓G2_6, ↓G2_7, ↓G2_8, ↓G2_9, ↓G2_10, ↓G2_11, ↓G2_12, ↓U2_12, ↓G2_13, ↓U2_13, ↓U2_11, ↓nw_a, ↓nw_l, kN, k531, ↓nw_g 0 (by decide), ↓nw_g 1 (by decide), ↓nw_g 2 (by decide), ↓nw_g 3 (by decide), hh]
    · rw [← g0]; exact hI
  rw [g0] at hh
  cases g1 : inR x 1 999999
  · rw [g1] at w1
    refine ⟨s, ?_, ?_, FrHi.rf s⟩ <;> simp only [oMonth, hasC, g1, Bool.false_eq_true, if_true, if_false, bad]
    · simp (disch := omega) only [e100_0, e100_1, e100_4, e100_7, e100_9, e100_10, e100_11, e100_12, e100_14, e100_17, e100_20, e100_22, e100_23, e100_24, e100_27, e100_30, e100_33, e100_36, e100_38, e100_39, e100_40, e100_43, e100_44, e100_47, e100_50, e100_51, e100_54, e100_55, e100_56, e100_59, ↓reduceIte, ↓gi0, ↓gr0, ↓gl0, ↓gi1, ↓gr1, ↓gl1, ↓gi2, ↓gr2, ↓gl2, ↓gi3, ↓gr3, ↓gl3, ↓gi4, ↓gr4, ↓gl4, ↓gi5, ↓gr5, ↓gl5, ↓gi6, ↓gr6, ↓gl6, ↓gi7, ↓gr7, ↓gl7, ↓gi8, ↓gr8, ↓gl8, ↓gi9, ↓gr9, ↓gl9, ↓qI, ↓qI2, ↓qL, ↓qL2, ↓qR, ↓qV, ↓pd0, ↓ta0, ↓ts0, ↓pd1, ↓ta1, ↓ts1, ↓pd2, ↓ta2, ↓ts2, ↓pd3, ↓ta3, ↓ts3, ↓pd4, ↓ta4, ↓ts4, ↓pd5, ↓ta5, ↓ts5, ↓pd6, ↓ta6, ↓ts6, lGet, lSet, okS, isLg, Bool.not_false, Bool.not_true, Bool.false_eq_true, not_false_eq_true, not_true_eq_false, catS, okR1, okR20, okR21, okR2b, List.length_cons, List.length_nil, List.drop_succ_cons, List.drop_zero, List.drop_nil, and_self, true_and, and_true, false_and, and_false, Nat.reduceAdd, Nat.reduceLeDiff, Nat.zero_add, Nat.le_refl, Nat.zero_le, pushR, reduceCtorEq, or_self, or_false, false_or, true_or, or_true, ltT, ltF, leT, leF, eqF, eqT, lt0F, ge0T, le0T, le0F, eq0T, eq0F, gt0T, gt0F, nI_add, nI_1, pk_mul, subT, sub1, divT, remN, natRem, n2, n3, n4, n5, n6, n7, n8, n9, n10, n12, n16, n22, n23, n24, n40, n48, n57, n60, n97, n99, n100, n119, n120, n238, n357, n999, n9999, n2231, Int32.add_zero, bI_t, bI_f, one_ne, K2, ↓G2_0, ↓G2_1, ↓G2_2, ↓G2_3, ↓G2_4, ↓G2_5, ↓G2_6, ↓G2_7, ↓G2_8, ↓G2_9, ↓G2_10, ↓G2_11, ↓G2_12, ↓U2_12, ↓G2_13, ↓U2_13, ↓U2_11, ↓nw_a, ↓nw_l, kN, k531, ↓nw_g 0 (by decide), ↓nw_g 1 (by decide), ↓nw_g 2 (by decide), ↓nw_g 3 (by decide), hh, ↓bnd w1]
    · rw [← g0]; exact hI
  rw [g1] at w1
  obtain ⟨k, hk1, hk2, rfl⟩ := inR_of (by decide) (by decide) g1
  have ek : (nI k).toNatClampNeg = k := nI_clamp (by omega)
  by_cases g2 : 999 ≤ m
  · refine ⟨s, ?_, ?_, FrHi.rf s⟩ <;> simp only [oMonth, hasC, ctyOf, g1, if_true, g2]
    · simp (disch := omega) only [e100_0, e100_1, e100_4, e100_7, e100_9, e100_10, e100_11, e100_12, e100_14, e100_17, e100_20, e100_22, e100_23, e100_24, e100_27, e100_30, e100_33, e100_36, e100_38, e100_39, e100_40, e100_43, e100_44, e100_47, e100_50, e100_51, e100_54, e100_55, e100_56, e100_59, ↓reduceIte, ↓gi0, ↓gr0, ↓gl0, ↓gi1, ↓gr1, ↓gl1, ↓gi2, ↓gr2, ↓gl2, ↓gi3, ↓gr3, ↓gl3, ↓gi4, ↓gr4, ↓gl4, ↓gi5, ↓gr5, ↓gl5, ↓gi6, ↓gr6, ↓gl6, ↓gi7, ↓gr7, ↓gl7, ↓gi8, ↓gr8, ↓gl8, ↓gi9, ↓gr9, ↓gl9, ↓qI, ↓qI2, ↓qL, ↓qL2, ↓qR, ↓qV, ↓pd0, ↓ta0, ↓ts0, ↓pd1, ↓ta1, ↓ts1, ↓pd2, ↓ta2, ↓ts2, ↓pd3, ↓ta3, ↓ts3, ↓pd4, ↓ta4, ↓ts4, ↓pd5, ↓ta5, ↓ts5, ↓pd6, ↓ta6, ↓ts6, lGet, lSet, okS, isLg, Bool.not_false, Bool.not_true, Bool.false_eq_true, not_false_eq_true, not_true_eq_false, catS, okR1, okR20, okR21, okR2b, List.length_cons, List.length_nil, List.drop_succ_cons, List.drop_zero, List.drop_nil, and_self, true_and, and_true, false_and, and_false, Nat.reduceAdd, Nat.reduceLeDiff, Nat.zero_add, Nat.le_refl, Nat.zero_le, pushR, reduceCtorEq, or_self, or_false, false_or, true_or, or_true, ltT, ltF, leT, leF, eqF, eqT, lt0F, ge0T, le0T, le0F, eq0T, eq0F, gt0T, gt0F, nI_add, nI_1, pk_mul, subT, sub1, divT, remN, natRem, n2, n3, n4, n5, n6, n7, n8, n9, n10, n12, n16, n22, n23, n24, n40, n48, n57, n60, n97, n99, n100, n119, n120, n238, n357, n999, n9999, n2231, Int32.add_zero, bI_t, bI_f, one_ne, K2, ↓G2_0, ↓G2_1, ↓G2_2, ↓G2_3, ↓G2_4, ↓G2_5, ↓G2_6, ↓G2_7, ↓G2_8, ↓G2_9, ↓G2_10, ↓G2_11, ↓G2_12, ↓U2_12, ↓G2_13, ↓U2_13, ↓U2_11, ↓nw_a, ↓nw_l, kN, k531, ↓nw_g 0 (by decide), ↓nw_g 1 (by decide), ↓nw_g 2 (by decide), ↓nw_g 3 (by decide), hh, ↓bnd w1, hmo]
    · rw [← g0]; exact hI
  obtain ⟨s1, a1, a2, a3, a4⟩ := c_remember (d + 3) (scr := scr) hI.2.2.2.2.2.2.2.1 hC
  have hc1 : CR s1 531 (t, w, m, N, f) := CR_ext hC (fun a k x y => a4 a k (by omega))
  obtain ⟨s2, b1, b2, b3⟩ := c_pass (d + 1) (scr := scr) (N := 1) (x := k) cty531 hc1 hok hcg.2.2.1 (by show m + 1 < 2 ^ 20; omega) (by omega)
  have i1 : EvM (d + 6) 23 [.ref 531, .int 1, .int (nI k)] (mkH scr s1) = _ := b1
  have hin := hI.upC a2 a4 b2 b3
  refine ⟨s2, ?_, ?_, hin.2⟩ <;> simp only [oMonth, hasC, ctyOf, g1, if_true, g2, if_false, ek, cl]
  · simp (disch := omega) only [e100_0, e100_1, e100_4, e100_7, e100_9, e100_10, e100_11, e100_12, e100_14, e100_17, e100_20, e100_22, e100_23, e100_24, e100_27, e100_30, e100_33, e100_36, e100_38, e100_39, e100_40, e100_43, e100_44, e100_47, e100_50, e100_51, e100_54, e100_55, e100_56, e100_59, ↓reduceIte, ↓gi0, ↓gr0, ↓gl0, ↓gi1, ↓gr1, ↓gl1, ↓gi2, ↓gr2, ↓gl2, ↓gi3, ↓gr3, ↓gl3, ↓gi4, ↓gr4, ↓gl4, ↓gi5, ↓gr5, ↓gl5, ↓gi6, ↓gr6, ↓gl6, ↓gi7, ↓gr7, ↓gl7, ↓gi8, ↓gr8, ↓gl8, ↓gi9, ↓gr9, ↓gl9, ↓qI, ↓qI2, ↓qL, ↓qL2, ↓qR, ↓qV, ↓pd0, ↓ta0, ↓ts0, ↓pd1, ↓ta1, ↓ts1, ↓pd2, ↓ta2, ↓ts2, ↓pd3, ↓ta3, ↓ts3, ↓pd4, ↓ta4, ↓ts4, ↓pd5, ↓ta5, ↓ts5, ↓pd6, ↓ta6, ↓ts6, lGet, lSet, okS, isLg, Bool.not_false, Bool.not_true, Bool.false_eq_true, not_false_eq_true, not_true_eq_false, catS, okR1, okR20, okR21, okR2b, List.length_cons, List.length_nil, List.drop_succ_cons, List.drop_zero, List.drop_nil, and_self, true_and, and_true, false_and, and_false, Nat.reduceAdd, Nat.reduceLeDiff, Nat.zero_add, Nat.le_refl, Nat.zero_le, pushR, reduceCtorEq, or_self, or_false, false_or, true_or, or_true, ltT, ltF, leT, leF, eqF, eqT, lt0F, ge0T, le0T, le0F, eq0T, eq0F, gt0T, gt0F, nI_add, nI_1, pk_mul, subT, sub1, divT, remN, natRem, n2, n3, n4, n5, n6, n7, n8, n9, n10, n12, n16, n22, n23, n24, n40, n48, n57, n60, n97, n99, n100, n119, n120, n238, n357, n999, n9999, n2231, Int32.add_zero, bI_t, bI_f, one_ne, K2, ↓G2_0, ↓G2_1, ↓G2_2, ↓G2_3, ↓G2_4, ↓G2_5, ↓G2_6, ↓G2_7, ↓G2_8, ↓G2_9, ↓G2_10, ↓G2_11, ↓G2_12, ↓U2_12, ↓G2_13, ↓U2_13, ↓U2_11, K17, ↓G17_0, ↓G17_1, ↓U17_1, ↓G17_2, ↓U17_2, ↓nw_a, ↓nw_l, kN, k531, ↓nw_g 0 (by decide), ↓nw_g 1 (by decide), ↓nw_g 2 (by decide), ↓nw_g 3 (by decide), hh, ↓bnd w1, hmo, ↓bnd a1, ↓bnd i1]
  · rw [← g0]; exact hin.1
theorem cs_undo (d : Nat) {A : AS} (hI : InvC s A) (hG : Gd A) : ∃ s', EvM (d + 5) 93 [.ref 2] (mkH scr s) = some ((oUndo A).1, mkH scr s') ∧ InvC s' (oUndo A).2 ∧ FrHi s s' := by
  obtain ⟨rw_, tp, fl, st, hs, ⟨t, w, m, N, f⟩, im, pa, tr⟩ := A
  have hC : CR s 531 (t, w, m, N, f) := hI.2.2.2.2.2.1
  have hN : s.1 531 3 = nI N := hC.2.2.2.1
  have h6 : N ≤ 6 := hC.2.2.2.2.1
  have hcg : cyGd 9999 (t, w, m, N, f) := hG.2.1.1
  have hm : m ≤ 999 := hG.2.1.2.2
  have hmo : s.1 531 2 = nI m := hC.2.2.1
  have hok : cyOk (t, w, m, N, f) := hcg.ok (by decide) (by show m < 2 ^ 20; omega)
  have hA : AR s pa := hI.2.2.2.2.2.2.2.1
  obtain ⟨nx, n1, n2_, n3_, n4_, n5_⟩ := hA
  rw [ev93, e93_0]
  rcases List.eq_nil_or_concat pa with rfl | ⟨l, c', rfl⟩
  · refine ⟨s, ?_, ?_, FrHi.rf s⟩ <;> simp only [oUndo, List.getLast?_nil]
    · simp only [List.length_nil] at n3_
      simp (disch := omega) only [e93_0, e93_1, e93_4, e93_7, e93_8, e93_11, e93_13, e93_14, e93_15, e93_18, e93_19, e93_22, e93_25, e93_26, e93_29, e93_32, ↓reduceIte, ↓gi0, ↓gr0, ↓gl0, ↓gi1, ↓gr1, ↓gl1, ↓gi2, ↓gr2, ↓gl2, ↓gi3, ↓gr3, ↓gl3, ↓gi4, ↓gr4, ↓gl4, ↓gi5, ↓gr5, ↓gl5, ↓gi6, ↓gr6, ↓gl6, ↓gi7, ↓gr7, ↓gl7, ↓gi8, ↓gr8, ↓gl8, ↓gi9, ↓gr9, ↓gl9, ↓qI, ↓qI2, ↓qL, ↓qL2, ↓qR, ↓qV, ↓pd0, ↓ta0, ↓ts0, ↓pd1, ↓ta1, ↓ts1, ↓pd2, ↓ta2, ↓ts2, ↓pd3, ↓ta3, ↓ts3, ↓pd4, ↓ta4, ↓ts4, ↓pd5, ↓ta5, ↓ts5, ↓pd6, ↓ta6, ↓ts6, lGet, lSet, okS, isLg, Bool.not_false, Bool.not_true, Bool.false_eq_true, not_false_eq_true, not_true_eq_false, catS, okR1, okR20, okR21, okR2b, List.length_cons, List.length_nil, List.drop_succ_cons, List.drop_zero, List.drop_nil, and_self, true_and, and_true, false_and, and_false, Nat.reduceAdd, Nat.reduceLeDiff, Nat.zero_add, Nat.le_refl, Nat.zero_le, pushR, reduceCtorEq, or_self, or_false, false_or, true_or, or_true, ltT, ltF, leT, leF, eqF, eqT, lt0F, ge0T, le0T, le0F, eq0T, eq0F, gt0T, gt0F, nI_add, nI_1, pk_mul, subT, sub1, divT, remN, natRem, K2, ↓G2_0, ↓G2_1, ↓G2_2, ↓G2_3, ↓G2_4, ↓G2_5, ↓G2_6, ↓G2_7, ↓G2_8, ↓G2_9, ↓G2_10, ↓G2_11, ↓G2_12, ↓U2_12, ↓G2_13, ↓U2_13, ↓U2_11, K17, ↓G17_0, ↓G17_1, ↓U17_1, ↓G17_2, ↓U17_2, n3_, show (1 : Int32) = nI 1 from rfl]
    · exact hI
  · rw [List.concat_eq_append] at *
    obtain ⟨s1, a1, a2, a3, a4, a5, a6⟩ := c_takeBack (d + 1) (scr := scr) hI.2.2.2.2.2.2.2.1
    obtain ⟨nx', m1, m2, m3, m4, m5⟩ := a2
    rw [List.length_append, List.length_singleton] at n3_ n4_
    refine ⟨s1, ?_, ?_, fun a k x => a5 a k (by omega) (by omega)⟩ <;> simp only [oUndo, List.getLast?_append, List.getLast?_singleton, Option.some_or, List.dropLast_concat, List.length_append, List.length_singleton, Nat.add_sub_cancel]
    · simp (disch := omega) only [e93_0, e93_1, e93_4, e93_7, e93_8, e93_11, e93_13, e93_14, e93_15, e93_18, e93_19, e93_22, e93_25, e93_26, e93_29, e93_32, ↓reduceIte, ↓gi0, ↓gr0, ↓gl0, ↓gi1, ↓gr1, ↓gl1, ↓gi2, ↓gr2, ↓gl2, ↓gi3, ↓gr3, ↓gl3, ↓gi4, ↓gr4, ↓gl4, ↓gi5, ↓gr5, ↓gl5, ↓gi6, ↓gr6, ↓gl6, ↓gi7, ↓gr7, ↓gl7, ↓gi8, ↓gr8, ↓gl8, ↓gi9, ↓gr9, ↓gl9, ↓qI, ↓qI2, ↓qL, ↓qL2, ↓qR, ↓qV, ↓pd0, ↓ta0, ↓ts0, ↓pd1, ↓ta1, ↓ts1, ↓pd2, ↓ta2, ↓ts2, ↓pd3, ↓ta3, ↓ts3, ↓pd4, ↓ta4, ↓ts4, ↓pd5, ↓ta5, ↓ts5, ↓pd6, ↓ta6, ↓ts6, lGet, lSet, okS, isLg, Bool.not_false, Bool.not_true, Bool.false_eq_true, not_false_eq_true, not_true_eq_false, catS, okR1, okR20, okR21, okR2b, List.length_cons, List.length_nil, List.drop_succ_cons, List.drop_zero, List.drop_nil, and_self, true_and, and_true, false_and, and_false, Nat.reduceAdd, Nat.reduceLeDiff, Nat.zero_add, Nat.le_refl, Nat.zero_le, pushR, reduceCtorEq, or_self, or_false, false_or, true_or, or_true, ltT, ltF, leT, leF, eqF, eqT, lt0F, ge0T, le0T, le0F, eq0T, eq0F, gt0T, gt0F, nI_add, nI_1, pk_mul, subT, sub1, divT, remN, natRem, K2, ↓G2_0, ↓G2_1, ↓G2_2, ↓G2_3, ↓G2_4, ↓G2_5, ↓G2_6, ↓G2_7, ↓G2_8, ↓G2_9, ↓G2_10, ↓G2_11, ↓G2_12, ↓U2_12, ↓G2_13, ↓U2_13, ↓U2_11, K17, ↓G17_0, ↓G17_1, ↓U17_1, ↓G17_2, ↓U17_2, n3_, show (1 : Int32) = nI 1 from rfl, ↓bnd a1, m3]
    · exact hI.act a3 ⟨nx', m1, m2, m3, m4, m5⟩ (fun a k x y z => a5 a k x y) a6
end CSA
