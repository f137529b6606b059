/-! ===== the class's calls: rows, the tape ===== -/
theorem InvC.rws {s s' : ST} {rw_ r' : RW} {q : List Nat × Nat × Int32 × Bool × CY × (Nat → Option CY) × List CY × List Nat} (h : InvC s (rw_, q)) (hr : RWc s' r') (g : ∀ a k, ¬ (4 ≤ a ∧ a < 15) → s'.1 a k = s.1 a k) : InvC s' (r', q) := by
  obtain ⟨h1, h2, h3, h4, h5, h6, h7, h8, h9, h10⟩ := h
  refine ⟨hr, h2.ext (g _ _ (by omega)) (fun k => g _ _ (by omega)), ?_, ?_, ?_, CR_ext h6 (fun a k x y => g _ _ (by omega)), h7.ext (fun a k x y => g _ _ (by omega)), h8.ext (fun a k x y => g _ _ (by omega)), h9.ext (fun a k x y => g _ _ (by omega)), fun i hi => ?_⟩
  · rw [g _ _ (by omega)]; exact h3
  · rw [g _ _ (by omega)]; exact h4
  · rw [g _ _ (by omega)]; exact h5
  · rw [g _ _ (by omega)]; exact h10 i hi
theorem FrHi.st {s s' : ST} {x : Int32} (h : FrHi s s') : FrHi s (u2 s' 2 13 x) := fun a k g => (u2_oth _ _ (by omega)).trans (h a k g)
section CSR
variable {scr : Nat × (Nat → Int32)} {s : ST}
/-- Rows.make -/
theorem c_make (d : Nat) {r : RW} (hr : RWc s r) (ho : rwOk r) {k l n : Nat} (hk : k < 8) (hl : l < 3) (hn : n ≤ 40) : ∃ s', EvM (d + 1) 62 [.ref 3, .int (nI k), .int (nI l), .int (nI n)] (mkH scr s) = some (0, mkH scr s') ∧ RWc s' (rwMake r k l n) ∧ ∀ a j, ¬ (4 ≤ a ∧ a < 15) → s'.1 a j = s.1 a j := by
  have h := forUp (X := ST) n (fun j x => EvI (EvM d) C62 0 17 [.ref 3, .int (nI k), .int (nI l), .int (nI n), .int (nI j)] [] (mkH scr x))
    (fun j x => (∀ a i, ¬ (a = 7 + k ∧ i < j) → x.1 a i = (u2 (u2 s 4 k (nI l)) 5 k (nI n)).1 a i) ∧ ∀ i, i < j → x.1 (7 + k) i = 0)
    (fun z => ∃ s', z = some (0, mkH scr s') ∧ RWc s' (rwMake r k l n) ∧ ∀ a j, ¬ (4 ≤ a ∧ a < 15) → s'.1 a j = s.1 a j) ?_ ?_ (x := u2 (u2 s 4 k (nI l)) 5 k (nI n)) ⟨fun _ _ _ => rfl, fun i hi => absurd hi (Nat.not_lt_zero i)⟩
  · obtain ⟨s', e1, e2⟩ := h
    refine ⟨s', ?_, e2⟩
    rw [← e1, ev62, e62_0]
    simp (disch := omega) only [e62_0, e62_1, e62_4, e62_5, e62_6, e62_7, e62_8, e62_11, e62_12, e62_13, e62_14, e62_15, e62_19, e62_20, e62_23, e62_24, e62_27, e62_28, e62_29, e62_31, e62_32, e62_33, e62_36, e62_39, ↓reduceIte, ↓gi0, ↓gr0, ↓gl0, ↓gi1, ↓gr1, ↓gl1, ↓gi2, ↓gr2, ↓gl2, ↓gi3, ↓gr3, ↓gl3, ↓gi4, ↓gr4, ↓gl4, ↓gi5, ↓gr5, ↓gl5, ↓gi6, ↓gr6, ↓gl6, ↓gi7, ↓gr7, ↓gl7, ↓gi8, ↓gr8, ↓gl8, ↓gi9, ↓gr9, ↓gl9, ↓qI, ↓qI2, ↓qL, ↓qL2, ↓qR, ↓qV, ↓pd0, ↓ta0, ↓ts0, ↓pd1, ↓ta1, ↓ts1, ↓pd2, ↓ta2, ↓ts2, ↓pd3, ↓ta3, ↓ts3, ↓pd4, ↓ta4, ↓ts4, ↓pd5, ↓ta5, ↓ts5, ↓pd6, ↓ta6, ↓ts6, lGet, lSet, okS, isLg, Bool.not_false, Bool.not_true, Bool.false_eq_true, not_false_eq_true, not_true_eq_false, catS, okR1, okR20, okR21, okR2b, List.length_cons, List.length_nil, List.drop_succ_cons, List.drop_zero, List.drop_nil, and_self, true_and, and_true, false_and, and_false, Nat.reduceAdd, Nat.reduceLeDiff, Nat.zero_add, Nat.le_refl, Nat.zero_le, pushR, reduceCtorEq, or_self, or_false, false_or, true_or, or_true, K3, ↓G3_0, ↓G3_1, ↓G3_2, ↓I4, ↓S4, ↓I5, ↓S5, show nI 0 = 0 from rfl]
  · intro j x hj ⟨g1, g2⟩
    refine ⟨u2 x (7 + k) j 0, ⟨fun a i z => ?_, fun i hi => ?_⟩, ?_⟩
    · rw [u2_oth _ _ (by omega), g1 a i (by omega)]
    · by_cases e : i = j
      · rw [e, u2_same]
      · rw [u2_oth _ _ (by omega), g2 i (by omega)]
    · rw [e62_17]
      simp (disch := omega) only [e62_0, e62_1, e62_4, e62_5, e62_6, e62_7, e62_8, e62_11, e62_12, e62_13, e62_14, e62_15, e62_19, e62_20, e62_23, e62_24, e62_27, e62_28, e62_29, e62_31, e62_32, e62_33, e62_36, e62_39, ↓reduceIte, ↓gi0, ↓gr0, ↓gl0, ↓gi1, ↓gr1, ↓gl1, ↓gi2, ↓gr2, ↓gl2, ↓gi3, ↓gr3, ↓gl3, ↓gi4, ↓gr4, ↓gl4, ↓gi5, ↓gr5, ↓gl5, ↓gi6, ↓gr6, ↓gl6, ↓gi7, ↓gr7, ↓gl7, ↓gi8, ↓gr8, ↓gl8, ↓gi9, ↓gr9, ↓gl9, ↓qI, ↓qI2, ↓qL, ↓qL2, ↓qR, ↓qV, ↓pd0, ↓ta0, ↓ts0, ↓pd1, ↓ta1, ↓ts1, ↓pd2, ↓ta2, ↓ts2, ↓pd3, ↓ta3, ↓ts3, ↓pd4, ↓ta4, ↓ts4, ↓pd5, ↓ta5, ↓ts5, ↓pd6, ↓ta6, ↓ts6, lGet, lSet, okS, isLg, Bool.not_false, Bool.not_true, Bool.false_eq_true, not_false_eq_true, not_true_eq_false, catS, okR1, okR20, okR21, okR2b, List.length_cons, List.length_nil, List.drop_succ_cons, List.drop_zero, List.drop_nil, and_self, true_and, and_true, false_and, and_false, Nat.reduceAdd, Nat.reduceLeDiff, Nat.zero_add, Nat.le_refl, Nat.zero_le, pushR, reduceCtorEq, or_self, or_false, false_or, true_or, or_true, ltT, ltF, leT, leF, eqF, eqT, lt0F, ge0T, le0T, le0F, eq0T, eq0F, gt0T, gt0F, nI_add, nI_1, pk_mul, subT, sub1, divT, remN, natRem, K3, ↓G3_0, ↓G3_1, ↓G3_2, ↓I4, ↓S4, ↓I5, ↓S5, ↓A6, ↓IR, ↓SR]
  · intro x ⟨g1, g2⟩
    refine ⟨x, ?_, fun i hi => ?_, fun a j z => ?_⟩
    · rw [e62_17]
      simp (disch := omega) only [e62_0, e62_1, e62_4, e62_5, e62_6, e62_7, e62_8, e62_11, e62_12, e62_13, e62_14, e62_15, e62_19, e62_20, e62_23, e62_24, e62_27, e62_28, e62_29, e62_31, e62_32, e62_33, e62_36, e62_39, ↓reduceIte, ↓gi0, ↓gr0, ↓gl0, ↓gi1, ↓gr1, ↓gl1, ↓gi2, ↓gr2, ↓gl2, ↓gi3, ↓gr3, ↓gl3, ↓gi4, ↓gr4, ↓gl4, ↓gi5, ↓gr5, ↓gl5, ↓gi6, ↓gr6, ↓gl6, ↓gi7, ↓gr7, ↓gl7, ↓gi8, ↓gr8, ↓gl8, ↓gi9, ↓gr9, ↓gl9, ↓qI, ↓qI2, ↓qL, ↓qL2, ↓qR, ↓qV, ↓pd0, ↓ta0, ↓ts0, ↓pd1, ↓ta1, ↓ts1, ↓pd2, ↓ta2, ↓ts2, ↓pd3, ↓ta3, ↓ts3, ↓pd4, ↓ta4, ↓ts4, ↓pd5, ↓ta5, ↓ts5, ↓pd6, ↓ta6, ↓ts6, lGet, lSet, okS, isLg, Bool.not_false, Bool.not_true, Bool.false_eq_true, not_false_eq_true, not_true_eq_false, catS, okR1, okR20, okR21, okR2b, List.length_cons, List.length_nil, List.drop_succ_cons, List.drop_zero, List.drop_nil, and_self, true_and, and_true, false_and, and_false, Nat.reduceAdd, Nat.reduceLeDiff, Nat.zero_add, Nat.le_refl, Nat.zero_le, pushR, reduceCtorEq, or_self, or_false, false_or, true_or, or_true, ltT, ltF, leT, leF, eqF, eqT, lt0F, ge0T, le0T, le0F, eq0T, eq0F, gt0T, gt0F, nI_add, nI_1, pk_mul, subT, sub1, divT, remN, natRem, K3, ↓G3_0, ↓G3_1, ↓G3_2, ↓I4, ↓S4, ↓I5, ↓S5, ↓A6, ↓IR, ↓SR]
    · obtain ⟨q1, q2, q3⟩ := hr i hi
      unfold rwMake
      simp only
      refine ⟨?_, ?_, fun j hj => ?_⟩
      · rw [g1 _ _ (by omega)]
        by_cases e : i = k
        · rw [if_pos e, e, u2_oth _ _ (by omega), u2_same]; rfl
        · rw [if_neg e, u2_oth _ _ (by omega), u2_oth _ _ (by omega)]; exact q1
      · rw [g1 _ _ (by omega)]
        by_cases e : i = k
        · rw [if_pos e, e, u2_same]
        · rw [if_neg e, u2_oth _ _ (by omega), u2_oth _ _ (by omega)]; exact q2
      · by_cases e : i = k ∧ j < n
        · rw [if_pos e, e.1]; exact g2 j e.2
        · rw [if_neg e, g1 _ _ (by omega), u2_oth _ _ (by omega), u2_oth _ _ (by omega)]; exact q3 j hj
    · rw [g1 _ _ (by omega), u2_oth _ _ (by omega), u2_oth _ _ (by omega)]
theorem cs_row (d : Nat) {A : AS} (hI : InvC s A) (hG : Gd A) (r l n : Int32) : ∃ s', EvM (d + 3) 86 [.ref 2, .int r, .int l, .int n] (mkH scr s) = some ((oRow r l n A).1, mkH scr s') ∧ InvC s' (oRow r l n A).2 ∧ FrHi s s' := by
  obtain ⟨rw_, tp, fl, st, q⟩ := A
  have hr : RWc s rw_ := hI.1
  have ho : rwOk rw_ := hG.1
  have w1 := c_isRow (d) (h := mkH scr s) r
  have w2 : EvM (d + 2) 121 [.int l, .int 0, .int (nI 2)] (mkH scr s) = some (bI (inR l 0 2), mkH scr s) := c_withinN (d + 1) l 0 2
  have n40' : (nI 40) = 40 := by decide
  rw [ev86, e86_0]
  cases g1 : inB r 8
  · rw [g1] at w1
    refine ⟨s, ?_, ?_, FrHi.rf s⟩ <;> simp only [oRow, g1, Bool.false_eq_true, false_and, if_false, bad]
    · simp (disch := omega) only [e86_0, e86_1, e86_4, e86_7, e86_8, e86_9, e86_10, e86_13, e86_16, e86_17, e86_19, e86_22, e86_24, e86_25, e86_26, e86_29, e86_30, e86_31, e86_34, e86_35, e86_36, e86_39, e86_40, e86_41, e86_42, e86_45, e86_46, e86_47, e86_50, ↓reduceIte, ↓gi0, ↓gr0, ↓gl0, ↓gi1, ↓gr1, ↓gl1, ↓gi2, ↓gr2, ↓gl2, ↓gi3, ↓gr3, ↓gl3, ↓gi4, ↓gr4, ↓gl4, ↓gi5, ↓gr5, ↓gl5, ↓gi6, ↓gr6, ↓gl6, ↓gi7, ↓gr7, ↓gl7, ↓gi8, ↓gr8, ↓gl8, ↓gi9, ↓gr9, ↓gl9, ↓qI, ↓qI2, ↓qL, ↓qL2, ↓qR, ↓qV, ↓pd0, ↓ta0, ↓ts0, ↓pd1, ↓ta1, ↓ts1, ↓pd2, ↓ta2, ↓ts2, ↓pd3, ↓ta3, ↓ts3, ↓pd4, ↓ta4, ↓ts4, ↓pd5, ↓ta5, ↓ts5, ↓pd6, ↓ta6, ↓ts6, lGet, lSet, okS, isLg, Bool.not_false, Bool.not_true, Bool.false_eq_true, not_false_eq_true, not_true_eq_false, catS, okR1, okR20, okR21, okR2b, List.length_cons, List.length_nil, List.drop_succ_cons, List.drop_zero, List.drop_nil, and_self, true_and, and_true, false_and, and_false, Nat.reduceAdd, Nat.reduceLeDiff, Nat.zero_add, Nat.le_refl, Nat.zero_le, pushR, reduceCtorEq, or_self, or_false, false_or, true_or, or_true, ltT, ltF, leT, leF, eqF, eqT, lt0F, ge0T, le0T, le0F, eq0T, eq0F, gt0T, gt0F, nI_add, nI_1, pk_mul, subT, sub1, divT, remN, natRem, n2, n3, n4, n5, n6, n7, n8, n9, n10, n12, n16, n22, n23, n24, n40, n48, n57, n60, n97, n99, n100, n119, n120, n238, n357, n999, n9999, n2231, Int32.add_zero, bI_t, bI_f, one_ne, K2, ↓G2_0, ↓G2_1, ↓G2_2, ↓G2_3, ↓G2_4, ↓G2_5, ↓G2_6, ↓G2_7, ↓G2_8, ↓G2_9, ↓G2_10, ↓G2_11, ↓G2_12, ↓U2_12, ↓G2_13, ↓U2_13, ↓U2_11, ↓bnd w1]
    · exact hI
  cases g2 : inR l 0 2
  · rw [g1] at w1; rw [g2] at w2
    refine ⟨s, ?_, ?_, FrHi.rf s⟩ <;> simp only [oRow, g1, g2, Bool.false_eq_true, false_and, and_false, if_false, bad]
    · simp (disch := omega) only [e86_0, e86_1, e86_4, e86_7, e86_8, e86_9, e86_10, e86_13, e86_16, e86_17, e86_19, e86_22, e86_24, e86_25, e86_26, e86_29, e86_30, e86_31, e86_34, e86_35, e86_36, e86_39, e86_40, e86_41, e86_42, e86_45, e86_46, e86_47, e86_50, ↓reduceIte, ↓gi0, ↓gr0, ↓gl0, ↓gi1, ↓gr1, ↓gl1, ↓gi2, ↓gr2, ↓gl2, ↓gi3, ↓gr3, ↓gl3, ↓gi4, ↓gr4, ↓gl4, ↓gi5, ↓gr5, ↓gl5, ↓gi6, ↓gr6, ↓gl6, ↓gi7, ↓gr7, ↓gl7, ↓gi8, ↓gr8, ↓gl8, ↓gi9, ↓gr9, ↓gl9, ↓qI, ↓qI2, ↓qL, ↓qL2, ↓qR, ↓qV, ↓pd0, ↓ta0, ↓ts0, ↓pd1, ↓ta1, ↓ts1, ↓pd2, ↓ta2, ↓ts2, ↓pd3, ↓ta3, ↓ts3, ↓pd4, ↓ta4, ↓ts4, ↓pd5, ↓ta5, ↓ts5, ↓pd6, ↓ta6, ↓ts6, lGet, lSet, okS, isLg, Bool.not_false, Bool.not_true, Bool.false_eq_true, not_false_eq_true, not_true_eq_false, catS, okR1, okR20, okR21, okR2b, List.length_cons, List.length_nil, List.drop_succ_cons, List.drop_zero, List.drop_nil, and_self, true_and, and_true, false_and, and_false, Nat.reduceAdd, Nat.reduceLeDiff, Nat.zero_add, Nat.le_refl, Nat.zero_le, pushR, reduceCtorEq, or_self, or_false, false_or, true_or, or_true, ltT, ltF, leT, leF, eqF, eqT, lt0F, ge0T, le0T, le0F, eq0T, eq0F, gt0T, gt0F, nI_add, nI_1, pk_mul, subT, sub1, divT, remN, natRem, n2, n3, n4, n5, n6, n7, n8, n9, n10, n12, n16, n22, n23, n24, n40, n48, n57, n60, n97, n99, n100, n119, n120, n238, n357, n999, n9999, n2231, Int32.add_zero, bI_t, bI_f, one_ne, K2, ↓G2_0, ↓G2_1, ↓G2_2, ↓G2_3, ↓G2_4, ↓G2_5, ↓G2_6, ↓G2_7, ↓G2_8, ↓G2_9, ↓G2_10, ↓G2_11, ↓G2_12, ↓U2_12, ↓G2_13, ↓U2_13, ↓U2_11, ↓bnd w1, ↓bnd w2]
    · exact hI
  rw [g1] at w1; rw [g2] at w2
  by_cases g3 : n ≤ 40
  case neg =>
    refine ⟨s, ?_, ?_, FrHi.rf s⟩ <;> simp only [oRow, g1, g2, g3, and_false, if_false, bad]
    · rw [← n40'] at g3
      simp (disch := omega) only [e86_0, e86_1, e86_4, e86_7, e86_8, e86_9, e86_10, e86_13, e86_16, e86_17, e86_19, e86_22, e86_24, e86_25, e86_26, e86_29, e86_30, e86_31, e86_34, e86_35, e86_36, e86_39, e86_40, e86_41, e86_42, e86_45, e86_46, e86_47, e86_50, ↓reduceIte, ↓gi0, ↓gr0, ↓gl0, ↓gi1, ↓gr1, ↓gl1, ↓gi2, ↓gr2, ↓gl2, ↓gi3, ↓gr3, ↓gl3, ↓gi4, ↓gr4, ↓gl4, ↓gi5, ↓gr5, ↓gl5, ↓gi6, ↓gr6, ↓gl6, ↓gi7, ↓gr7, ↓gl7, ↓gi8, ↓gr8, ↓gl8, ↓gi9, ↓gr9, ↓gl9, ↓qI, ↓qI2, ↓qL, ↓qL2, ↓qR, ↓qV, ↓pd0, ↓ta0, ↓ts0, ↓pd1, ↓ta1, ↓ts1, ↓pd2, ↓ta2, ↓ts2, ↓pd3, ↓ta3, ↓ts3, ↓pd4, ↓ta4, ↓ts4, ↓pd5, ↓ta5, ↓ts5, ↓pd6, ↓ta6, ↓ts6, lGet, lSet, okS, isLg, Bool.not_false, Bool.not_true, Bool.false_eq_true, not_false_eq_true, not_true_eq_false, catS, okR1, okR20, okR21, okR2b, List.length_cons, List.length_nil, List.drop_succ_cons, List.drop_zero, List.drop_nil, and_self, true_and, and_true, false_and, and_false, Nat.reduceAdd, Nat.reduceLeDiff, Nat.zero_add, Nat.le_refl, Nat.zero_le, pushR, reduceCtorEq, or_self, or_false, false_or, true_or, or_true, ltT, ltF, leT, leF, eqF, eqT, lt0F, ge0T, le0T, le0F, eq0T, eq0F, gt0T, gt0F, nI_add, nI_1, pk_mul, subT, sub1, divT, remN, natRem, n2, n3, n4, n5, n6, n7, n8, n9, n10, n12, n16, n22, n23, n24, n40, n48, n57, n60, n97, n99, n100, n119, n120, n238, n357, n999, n9999, n2231, Int32.add_zero, bI_t, bI_f, one_ne, K2, ↓G2_0, ↓G2_1, ↓G2_2, ↓G2_3, ↓G2_4, ↓G2_5, ↓G2_6, ↓G2_7, ↓G2_8, ↓G2_9, ↓G2_10, ↓G2_11, ↓G2_12, ↓U2_12, ↓G2_13, ↓U2_13, ↓U2_11, ↓bnd w1, ↓bnd w2, g3]
    · exact hI
  have g3' := g3
  rw [← n40'] at g3'
  by_cases g4 : n < 0
  · have k4 := c_found (d + 1) (scr := scr) (s := s) (nI 4)
    have g5 : ¬ 0 ≤ n := Int32.not_le.mpr g4
    refine ⟨_, ?_, ?_, (FrHi.rf s).st (x := 4)⟩ <;> simp only [oRow, g1, g2, g3, g4, and_self, if_true, fnd]
    · simp (disch := omega) only [e86_0, e86_1, e86_4, e86_7, e86_8, e86_9, e86_10, e86_13, e86_16, e86_17, e86_19, e86_22, e86_24, e86_25, e86_26, e86_29, e86_30, e86_31, e86_34, e86_35, e86_36, e86_39, e86_40, e86_41, e86_42, e86_45, e86_46, e86_47, e86_50, ↓reduceIte, ↓gi0, ↓gr0, ↓gl0, ↓gi1, ↓gr1, ↓gl1, ↓gi2, ↓gr2, ↓gl2, ↓gi3, ↓gr3, ↓gl3, ↓gi4, ↓gr4, ↓gl4, ↓gi5, ↓gr5, ↓gl5, ↓gi6, ↓gr6, ↓gl6, ↓gi7, ↓gr7, ↓gl7, ↓gi8, ↓gr8, ↓gl8, ↓gi9, ↓gr9, ↓gl9, ↓qI, ↓qI2, ↓qL, ↓qL2, ↓qR, ↓qV, ↓pd0, ↓ta0, ↓ts0, ↓pd1, ↓ta1, ↓ts1, ↓pd2, ↓ta2, ↓ts2, ↓pd3, ↓ta3, ↓ts3, ↓pd4, ↓ta4, ↓ts4, ↓pd5, ↓ta5, ↓ts5, ↓pd6, ↓ta6, ↓ts6, lGet, lSet, okS, isLg, Bool.not_false, Bool.not_true, Bool.false_eq_true, not_false_eq_true, not_true_eq_false, catS, okR1, okR20, okR21, okR2b, List.length_cons, List.length_nil, List.drop_succ_cons, List.drop_zero, List.drop_nil, and_self, true_and, and_true, false_and, and_false, Nat.reduceAdd, Nat.reduceLeDiff, Nat.zero_add, Nat.le_refl, Nat.zero_le, pushR, reduceCtorEq, or_self, or_false, false_or, true_or, or_true, ltT, ltF, leT, leF, eqF, eqT, lt0F, ge0T, le0T, le0F, eq0T, eq0F, gt0T, gt0F, nI_add, nI_1, pk_mul, subT, sub1, divT, remN, natRem, n2, n3, n4, n5, n6, n7, n8, n9, n10, n12, n16, n22, n23, n24, n40, n48, n57, n60, n97, n99, n100, n119, n120, n238, n357, n999, n9999, n2231, Int32.add_zero, bI_t, bI_f, one_ne, K2, ↓G2_0, ↓G2_1, ↓G2_2, ↓G2_3, ↓G2_4, ↓G2_5, ↓G2_6, ↓G2_7, ↓G2_8, ↓G2_9, ↓G2_10, ↓G2_11, ↓G2_12, ↓U2_12, ↓G2_13, ↓U2_13, ↓U2_11, ↓bnd w1, ↓bnd w2, g3', g5, ↓bnd k4]
    · exact hI.stt
  obtain ⟨k, hk, rfl⟩ := inB_of (by omega) g1
  obtain ⟨i, hi1, hi2, rfl⟩ := inR_of (by decide) (by decide) g2
  obtain ⟨j, hj, rfl⟩ := nI_of g4
  have hj4 : j ≤ 40 := (nI_leI hj (by decide)).mp g3'
  obtain ⟨s1, a1, a2, a3⟩ := c_make (d + 1) (scr := scr) hr ho hk (l := i) (by omega) hj4
  have k4 := c_fine (d + 1) (scr := scr) (s := s1) (nI j)
  refine ⟨_, ?_, ?_, FrHi.st (x := 0) (s' := s1) (fun a k x => a3 a k (by omega))⟩ <;> simp only [oRow, g1, g2, g3, g4, and_self, if_true, if_false, fin]
  · simp (disch := omega) only [e86_0, e86_1, e86_4, e86_7, e86_8, e86_9, e86_10, e86_13, e86_16, e86_17, e86_19, e86_22, e86_24, e86_25, e86_26, e86_29, e86_30, e86_31, e86_34, e86_35, e86_36, e86_39, e86_40, e86_41, e86_42, e86_45, e86_46, e86_47, e86_50, ↓reduceIte, ↓gi0, ↓gr0, ↓gl0, ↓gi1, ↓gr1, ↓gl1, ↓gi2, ↓gr2, ↓gl2, ↓gi3, ↓gr3, ↓gl3, ↓gi4, ↓gr4, ↓gl4, ↓gi5, ↓gr5, ↓gl5, ↓gi6, ↓gr6, ↓gl6, ↓gi7, ↓gr7, ↓gl7, ↓gi8, ↓gr8, ↓gl8, ↓gi9, ↓gr9, ↓gl9, ↓qI, ↓qI2, ↓qL, ↓qL2, ↓qR, ↓qV, ↓pd0, ↓ta0, ↓ts0, ↓pd1, ↓ta1, ↓ts1, ↓pd2, ↓ta2, ↓ts2, ↓pd3, ↓ta3, ↓ts3, ↓pd4, ↓ta4, ↓ts4, ↓pd5, ↓ta5, ↓ts5, ↓pd6, ↓ta6, ↓ts6, lGet, lSet, okS, isLg, Bool.not_false, Bool.not_true, Bool.false_eq_true, not_false_eq_true, not_true_eq_false, catS, okR1, okR20, okR21, okR2b, List.length_cons, List.length_nil, List.drop_succ_cons, List.drop_zero, List.drop_nil, and_self, true_and, and_true, false_and, and_false, Nat.reduceAdd, Nat.reduceLeDiff, Nat.zero_add, Nat.le_refl, Nat.zero_le, pushR, reduceCtorEq, or_self, or_false, false_or, true_or, or_true, ltT, ltF, leT, leF, eqF, eqT, lt0F, ge0T, le0T, le0F, eq0T, eq0F, gt0T, gt0F, nI_add, nI_1, pk_mul, subT, sub1, divT, remN, natRem, n2, n3, n4, n5, n6, n7, n8, n9, n10, n12, n16, n22, n23, n24, n40, n48, n57, n60, n97, n99, n100, n119, n120, n238, n357, n999, n9999, n2231, Int32.add_zero, bI_t, bI_f, one_ne, K2, ↓G2_0, ↓G2_1, ↓G2_2, ↓G2_3, ↓G2_4, ↓G2_5, ↓G2_6, ↓G2_7, ↓G2_8, ↓G2_9, ↓G2_10, ↓G2_11, ↓G2_12, ↓U2_12, ↓G2_13, ↓U2_13, ↓U2_11, K3, ↓G3_0, ↓G3_1, ↓G3_2, ↓bnd w1, ↓bnd w2, g3', ↓bnd a1, ↓bnd k4]
  · have e1 : (nI k).toNatClampNeg = k := nI_clamp (by omega)
    have e2 : (nI i).toNatClampNeg = i := nI_clamp (by omega)
    have e3 : (nI j).toNatClampNeg = j := nI_clamp (by omega)
    simp only [cl, e1, e2, e3]
    exact (hI.rws a2 a3).stt
/-- Rows.put -/
theorem c_put (d : Nat) {r : RW} (hr : RWc s r) {k i l : Nat} (v : Int32) (hk : k < 8) (hi : i < 40) (hl : r.1 k = some l) (hl3 : l < 3) : EvM (d + 1) 64 [.ref 3, .int (nI k), .int (nI i), .int v] (mkH scr s) = some (cutL (r.1 k) v, mkH scr (u2 s (7 + k) i (cutL (r.1 k) v))) := by
  have h4 : s.1 4 k = nI l := by rw [(hr k hk).1, hl]; rfl
  rw [ev64, e64_0, hl]
  match l, hl3 with
  | 0, _ => simp (disch := omega) only [e64_0, e64_1, e64_3, e64_4, e64_7, e64_8, e64_9, e64_12, e64_13, e64_14, e64_16, e64_19, e64_20, e64_23, e64_24, e64_25, e64_26, e64_29, e64_30, e64_31, e64_33, e64_34, e64_37, e64_38, e64_39, e64_40, e64_42, e64_43, e64_45, ↓reduceIte, ↓gi0, ↓gr0, ↓gl0, ↓gi1, ↓gr1, ↓gl1, ↓gi2, ↓gr2, ↓gl2, ↓gi3, ↓gr3, ↓gl3, ↓gi4, ↓gr4, ↓gl4, ↓gi5, ↓gr5, ↓gl5, ↓gi6, ↓gr6, ↓gl6, ↓gi7, ↓gr7, ↓gl7, ↓gi8, ↓gr8, ↓gl8, ↓gi9, ↓gr9, ↓gl9, ↓qI, ↓qI2, ↓qL, ↓qL2, ↓qR, ↓qV, ↓pd0, ↓ta0, ↓ts0, ↓pd1, ↓ta1, ↓ts1, ↓pd2, ↓ta2, ↓ts2, ↓pd3, ↓ta3, ↓ts3, ↓pd4, ↓ta4, ↓ts4, ↓pd5, ↓ta5, ↓ts5, ↓pd6, ↓ta6, ↓ts6, lGet, lSet, okS, isLg, Bool.not_false, Bool.not_true, Bool.false_eq_true, not_false_eq_true, not_true_eq_false, catS, okR1, okR20, okR21, okR2b, List.length_cons, List.length_nil, List.drop_succ_cons, List.drop_zero, List.drop_nil, and_self, true_and, and_true, false_and, and_false, Nat.reduceAdd, Nat.reduceLeDiff, Nat.zero_add, Nat.le_refl, Nat.zero_le, pushR, reduceCtorEq, or_self, or_false, false_or, true_or, or_true, ltT, ltF, leT, leF, eqF, eqT, lt0F, ge0T, le0T, le0F, eq0T, eq0F, gt0T, gt0F, nI_add, nI_1, pk_mul, subT, sub1, divT, remN, natRem, K3, ↓G3_0, ↓G3_1, ↓G3_2, ↓I4, ↓S4, ↓A6, ↓IR, ↓SR, h4, cutL, if_true]
  | 1, _ => simp (disch := omega) only [e64_0, e64_1, e64_3, e64_4, e64_7, e64_8, e64_9, e64_12, e64_13, e64_14, e64_16, e64_19, e64_20, e64_23, e64_24, e64_25, e64_26, e64_29, e64_30, e64_31, e64_33, e64_34, e64_37, e64_38, e64_39, e64_40, e64_42, e64_43, e64_45, ↓reduceIte, ↓gi0, ↓gr0, ↓gl0, ↓gi1, ↓gr1, ↓gl1, ↓gi2, ↓gr2, ↓gl2, ↓gi3, ↓gr3, ↓gl3, ↓gi4, ↓gr4, ↓gl4, ↓gi5, ↓gr5, ↓gl5, ↓gi6, ↓gr6, ↓gl6, ↓gi7, ↓gr7, ↓gl7, ↓gi8, ↓gr8, ↓gl8, ↓gi9, ↓gr9, ↓gl9, ↓qI, ↓qI2, ↓qL, ↓qL2, ↓qR, ↓qV, ↓pd0, ↓ta0, ↓ts0, ↓pd1, ↓ta1, ↓ts1, ↓pd2, ↓ta2, ↓ts2, ↓pd3, ↓ta3, ↓ts3, ↓pd4, ↓ta4, ↓ts4, ↓pd5, ↓ta5, ↓ts5, ↓pd6, ↓ta6, ↓ts6, lGet, lSet, okS, isLg, Bool.not_false, Bool.not_true, Bool.false_eq_true, not_false_eq_true, not_true_eq_false, catS, okR1, okR20, okR21, okR2b, List.length_cons, List.length_nil, List.drop_succ_cons, List.drop_zero, List.drop_nil, and_self, true_and, and_true, false_and, and_false, Nat.reduceAdd, Nat.reduceLeDiff, Nat.zero_add, Nat.le_refl, Nat.zero_le, pushR, reduceCtorEq, or_self, or_false, false_or, true_or, or_true, ltT, ltF, leT, leF, eqF, eqT, lt0F, ge0T, le0T, le0F, eq0T, eq0F, gt0T, gt0F, nI_add, nI_1, pk_mul, subT, sub1, divT, remN, natRem, K3, ↓G3_0, ↓G3_1, ↓G3_2, ↓I4, ↓S4, ↓A6, ↓IR, ↓SR, h4, cutL, show (1 : Int32) = nI 1 from rfl, Option.some.injEq, Nat.one_ne_zero, if_true, if_false]
  | 2, _ => simp (disch := omega) only [e64_0, e64_1, e64_3, e64_4, e64_7, e64_8, e64_9, e64_12, e64_13, e64_14, e64_16, e64_19, e64_20, e64_23, e64_24, e64_25, e64_26, e64_29, e64_30, e64_31, e64_33, e64_34, e64_37, e64_38, e64_39, e64_40, e64_42, e64_43, e64_45, ↓reduceIte, ↓gi0, ↓gr0, ↓gl0, ↓gi1, ↓gr1, ↓gl1, ↓gi2, ↓gr2, ↓gl2, ↓gi3, ↓gr3, ↓gl3, ↓gi4, ↓gr4, ↓gl4, ↓gi5, ↓gr5, ↓gl5, ↓gi6, ↓gr6, ↓gl6, ↓gi7, ↓gr7, ↓gl7, ↓gi8, ↓gr8, ↓gl8, ↓gi9, ↓gr9, ↓gl9, ↓qI, ↓qI2, ↓qL, ↓qL2, ↓qR, ↓qV, ↓pd0, ↓ta0, ↓ts0, ↓pd1, ↓ta1, ↓ts1, ↓pd2, ↓ta2, ↓ts2, ↓pd3, ↓ta3, ↓ts3, ↓pd4, ↓ta4, ↓ts4, ↓pd5, ↓ta5, ↓ts5, ↓pd6, ↓ta6, ↓ts6, lGet, lSet, okS, isLg, Bool.not_false, Bool.not_true, Bool.false_eq_true, not_false_eq_true, not_true_eq_false, catS, okR1, okR20, okR21, okR2b, List.length_cons, List.length_nil, List.drop_succ_cons, List.drop_zero, List.drop_nil, and_self, true_and, and_true, false_and, and_false, Nat.reduceAdd, Nat.reduceLeDiff, Nat.zero_add, Nat.le_refl, Nat.zero_le, pushR, reduceCtorEq, or_self, or_false, false_or, true_or, or_true, ltT, ltF, leT, leF, eqF, eqT, lt0F, ge0T, le0T, le0F, eq0T, eq0F, gt0T, gt0F, nI_add, nI_1, pk_mul, subT, sub1, divT, remN, natRem, K3, ↓G3_0, ↓G3_1, ↓G3_2, ↓I4, ↓S4, ↓A6, ↓IR, ↓SR, h4, cutL, show (1 : Int32) = nI 1 from rfl, Option.some.injEq, Nat.reduceEqDiff, if_false]
theorem fndC_0 {o : Option Nat} {z : Nat} {i n : Int32} (h : fndC o z i n = 0) : o ≠ none ∧ spanB i n z = true := by
  unfold fndC at h
  split at h
  · exact absurd h (by decide)
  · rename_i g
    split at h
    · rename_i g2; exact ⟨g, g2⟩
    · exact absurd h (by decide)
theorem RWc_put {r : RW} (hr : RWc s r) {k i : Nat} {v : Int32} (hk : k < 8) (hi : i < 40) : RWc (u2 s (7 + k) i v) (rwPut r k i v) := fun a ha => by
  obtain ⟨q1, q2, q3⟩ := hr a ha
  refine ⟨by rw [u2_oth _ _ (by omega)]; exact q1, by rw [u2_oth _ _ (by omega)]; exact q2, fun j hj => ?_⟩
  unfold rwPut
  simp only
  by_cases e : a = k ∧ j = i
  · rw [if_pos e, e.1, e.2, u2_same]
  · rw [if_neg e, u2_oth _ _ (by omega)]; exact q3 j hj
theorem cs_set (d : Nat) {A : AS} (hI : InvC s A) (hG : Gd A) (r i v : Int32) : ∃ s', EvM (d + 4) 87 [.ref 2, .int r, .int i, .int v] (mkH scr s) = some ((oSet r i v A).1, mkH scr s') ∧ InvC s' (oSet r i v A).2 ∧ FrHi s s' := by
  obtain ⟨rw_, tp, fl, st, q⟩ := A
  have hr : RWc s rw_ := hI.1
  have ho : rwOk rw_ := hG.1
  have w1 := c_isRow (d + 1) (h := mkH scr s) r
  rw [ev87, e87_0]
  cases g1 : inB r 8
  · rw [g1] at w1
    refine ⟨s, ?_, ?_, FrHi.rf s⟩ <;> simp only [oSet, g1, Bool.false_eq_true, if_false, bad]
    · simp (disch := omega) only [e87_0, e87_1, e87_4, e87_7, e87_9, e87_10, e87_11, e87_14, e87_15, e87_16, e87_17, e87_20, e87_22, e87_24, e87_27, e87_28, e87_30, e87_33, e87_36, e87_37, e87_38, e87_41, e87_42, e87_43, e87_44, e87_47, e87_50, ↓reduceIte, ↓gi0, ↓gr0, ↓gl0, ↓gi1, ↓gr1, ↓gl1, ↓gi2, ↓gr2, ↓gl2, ↓gi3, ↓gr3, ↓gl3, ↓gi4, ↓gr4, ↓gl4, ↓gi5, ↓gr5, ↓gl5, ↓gi6, ↓gr6, ↓gl6, ↓gi7, ↓gr7, ↓gl7, ↓gi8, ↓gr8, ↓gl8, ↓gi9, ↓gr9, ↓gl9, ↓qI, ↓qI2, ↓qL, ↓qL2, ↓qR, ↓qV, ↓pd0, ↓ta0, ↓ts0, ↓pd1, ↓ta1, ↓ts1, ↓pd2, ↓ta2, ↓ts2, ↓pd3, ↓ta3, ↓ts3, ↓pd4, ↓ta4, ↓ts4, ↓pd5, ↓ta5, ↓ts5, ↓pd6, ↓ta6, ↓ts6, lGet, lSet, okS, isLg, Bool.not_false, Bool.not_true, Bool.false_eq_true, not_false_eq_true, not_true_eq_false, catS, okR1, okR20, okR21, okR2b, List.length_cons, List.length_nil, List.drop_succ_cons, List.drop_zero, List.drop_nil, and_self, true_and, and_true, false_and, and_false, Nat.reduceAdd, Nat.reduceLeDiff, Nat.zero_add, Nat.le_refl, Nat.zero_le, pushR, reduceCtorEq, or_self, or_false, false_or, true_or, or_true, ltT, ltF, leT, leF, eqF, eqT, lt0F, ge0T, le0T, le0F, eq0T, eq0F, gt0T, gt0F, nI_add, nI_1, pk_mul, subT, sub1, divT, remN, natRem, n2, n3, n4, n5, n6, n7, n8, n9, n10, n12, n16, n22, n23, n24, n40, n48, n57, n60, n97, n99, n100, n119, n120, n238, n357, n999, n9999, n2231, Int32.add_zero, bI_t, bI_f, one_ne, K2, ↓G2_0, ↓G2_1, ↓G2_2, ↓G2_3, ↓G2_4, ↓G2_5, ↓G2_6, ↓G2_7, ↓G2_8, ↓G2_9, ↓G2_10, ↓G2_11, ↓G2_12, ↓U2_12, ↓G2_13, ↓U2_13, ↓U2_11, ↓bnd w1]
    · exact hI
  rw [g1] at w1
  obtain ⟨k, hk, rfl⟩ := inB_of (by omega) g1
  have e1 : (nI k).toNatClampNeg = k := nI_clamp (by omega)
  have w2 := c_findingOf (d + 1) (scr := scr) hr ho hk i 1
  by_cases g2 : fndC (rw_.1 k) (rw_.2.1 k) i 1 = 0
  case neg =>
    have k4 := c_found (d + 2) (scr := scr) (s := s) (fndC (rw_.1 k) (rw_.2.1 k) i 1)
    refine ⟨_, ?_, ?_, (FrHi.rf s).st (x := fndC (rw_.1 k) (rw_.2.1 k) i 1)⟩ <;> simp only [oSet, g1, e1, g2, if_true, if_false, fnd, cl]
    · simp (disch := omega) only [e87_0, e87_1, e87_4, e87_7, e87_9, e87_10, e87_11, e87_14, e87_15, e87_16, e87_17, e87_20, e87_22, e87_24, e87_27, e87_28, e87_30, e87_33, e87_36, e87_37, e87_38, e87_41, e87_42, e87_43, e87_44, e87_47, e87_50, ↓reduceIte, ↓gi0, ↓gr0, ↓gl0, ↓gi1, ↓gr1, ↓gl1, ↓gi2, ↓gr2, ↓gl2, ↓gi3, ↓gr3, ↓gl3, ↓gi4, ↓gr4, ↓gl4, ↓gi5, ↓gr5, ↓gl5, ↓gi6, ↓gr6, ↓gl6, ↓gi7, ↓gr7, ↓gl7, ↓gi8, ↓gr8, ↓gl8, ↓gi9, ↓gr9, ↓gl9, ↓qI, ↓qI2, ↓qL, ↓qL2, ↓qR, ↓qV, ↓pd0, ↓ta0, ↓ts0, ↓pd1, ↓ta1, ↓ts1, ↓pd2, ↓ta2, ↓ts2, ↓pd3, ↓ta3, ↓ts3, ↓pd4, ↓ta4, ↓ts4, ↓pd5, ↓ta5, ↓ts5, ↓pd6, ↓ta6, ↓ts6, lGet, lSet, okS, isLg, Bool.not_false, Bool.not_true, Bool.false_eq_true, not_false_eq_true, not_true_eq_false, catS, okR1, okR20, okR21, okR2b, List.length_cons, List.length_nil, List.drop_succ_cons, List.drop_zero, List.drop_nil, and_self, true_and, and_true, false_and, and_false, Nat.reduceAdd, Nat.reduceLeDiff, Nat.zero_add, Nat.le_refl, Nat.zero_le, pushR, reduceCtorEq, or_self, or_false, false_or, true_or, or_true, ltT, ltF, leT, leF, eqF, eqT, lt0F, ge0T, le0T, le0F, eq0T, eq0F, gt0T, gt0F, nI_add, nI_1, pk_mul, subT, sub1, divT, remN, natRem, n2, n3, n4, n5, n6, n7, n8, n9, n10, n12, n16, n22, n23, n24, n40, n48, n57, n60, n97, n99, n100, n119, n120, n238, n357, n999, n9999, n2231, Int32.add_zero, bI_t, bI_f, one_ne, K2, ↓G2_0, ↓G2_1, ↓G2_2, ↓G2_3, ↓G2_4, ↓G2_5, ↓G2_6, ↓G2_7, ↓G2_8, ↓G2_9, ↓G2_10, ↓G2_11, ↓G2_12, ↓U2_12, ↓G2_13, ↓U2_13, ↓U2_11, K3, ↓G3_0, ↓G3_1, ↓G3_2, ↓bnd w1, ↓bnd w2, g2, ↓bnd k4]
    · exact hI.stt
  obtain ⟨h1, h2⟩ := fndC_0 g2
  obtain ⟨a, b, hab, rfl, hb⟩ := spanB_of (by have := (ho k hk).2; omega) h2
  have hz := (ho k hk).2
  have e2 : (nI a).toNatClampNeg = a := nI_clamp (by omega)
  have hb1 : b = 1 := ((nI_eq (a := b) (b := 1) (by omega) (by decide)).mp hb.symm)
  obtain ⟨l, hl⟩ := Option.ne_none_iff_exists'.mp h1
  have w3 := c_put (d + 2) (scr := scr) hr v hk (i := a) (by omega) hl ((ho k hk).1 l hl)
  rw [g2] at w2
  have k4 := c_fine (d + 2) (scr := scr) (s := u2 s (7 + k) a (cutL (rw_.1 k) v)) (cutL (rw_.1 k) v)
  refine ⟨_, ?_, ?_, FrHi.st (x := 0) (s' := u2 s (7 + k) a (cutL (rw_.1 k) v)) (fun a k x => u2_oth _ _ (by omega))⟩ <;> simp only [oSet, g1, e1, e2, g2, if_true, fin, cl]
  · simp (disch := omega) only [e87_0, e87_1, e87_4, e87_7, e87_9, e87_10, e87_11, e87_14, e87_15, e87_16, e87_17, e87_20, e87_22, e87_24, e87_27, e87_28, e87_30, e87_33, e87_36, e87_37, e87_38, e87_41, e87_42, e87_43, e87_44, e87_47, e87_50, ↓reduceIte, ↓gi0, ↓gr0, ↓gl0, ↓gi1, ↓gr1, ↓gl1, ↓gi2, ↓gr2, ↓gl2, ↓gi3, ↓gr3, ↓gl3, ↓gi4, ↓gr4, ↓gl4, ↓gi5, ↓gr5, ↓gl5, ↓gi6, ↓gr6, ↓gl6, ↓gi7, ↓gr7, ↓gl7, ↓gi8, ↓gr8, ↓gl8, ↓gi9, ↓gr9, ↓gl9, ↓qI, ↓qI2, ↓qL, ↓qL2, ↓qR, ↓qV, ↓pd0, ↓ta0, ↓ts0, ↓pd1, ↓ta1, ↓ts1, ↓pd2, ↓ta2, ↓ts2, ↓pd3, ↓ta3, ↓ts3, ↓pd4, ↓ta4, ↓ts4, ↓pd5, ↓ta5, ↓ts5, ↓pd6, ↓ta6, ↓ts6, lGet, lSet, okS, isLg, Bool.not_false, Bool.not_true, Bool.false_eq_true, not_false_eq_true, not_true_eq_false, catS, okR1, okR20, okR21, okR2b, List.length_cons, List.length_nil, List.drop_succ_cons, List.drop_zero, List.drop_nil, and_self, true_and, and_true, false_and, and_false, Nat.reduceAdd, Nat.reduceLeDiff, Nat.zero_add, Nat.le_refl, Nat.zero_le, pushR, reduceCtorEq, or_self, or_false, false_or, true_or, or_true, ltT, ltF, leT, leF, eqF, eqT, lt0F, ge0T, le0T, le0F, eq0T, eq0F, gt0T, gt0F, nI_add, nI_1, pk_mul, subT, sub1, divT, remN, natRem, n2, n3, n4, n5, n6, n7, n8, n9, n10, n12, n16, n22, n23, n24, n40, n48, n57, n60, n97, n99, n100, n119, n120, n238, n357, n999, n9999, n2231, Int32.add_zero, bI_t, bI_f, one_ne, K2, ↓G2_0, ↓G2_1, ↓G2_2, ↓G2_3, ↓G2_4, ↓G2_5, ↓G2_6, ↓G2_7, ↓G2_8, ↓G2_9, ↓G2_10, ↓G2_11, ↓G2_12, ↓U2_12, ↓G2_13, ↓U2_13, ↓U2_11, K3, ↓G3_0, ↓G3_1, ↓G3_2, ↓bnd w1, ↓bnd w2, ↓bnd w3, ↓bnd k4]
  · exact (hI.rws (RWc_put hr hk (by omega)) (fun a k x => u2_oth _ _ (by omega))).stt
theorem cs_drop (d : Nat) {A : AS} (hI : InvC s A) (hG : Gd A) (r : Int32) : ∃ s', EvM (d + 4) 89 [.ref 2, .int r] (mkH scr s) = some ((oDrop r A).1, mkH scr s') ∧ InvC s' (oDrop r A).2 ∧ FrHi s s' := by
  obtain ⟨rw_, tp, fl, st, q⟩ := A
  have hr : RWc s rw_ := hI.1
  have ho : rwOk rw_ := hG.1
  have w1 := c_isRow (d + 1) (h := mkH scr s) r
  rw [ev89, e89_0]
  cases g1 : inB r 8
  · rw [g1] at w1
    refine ⟨s, ?_, ?_, FrHi.rf s⟩ <;> simp only [oDrop, g1, Bool.false_eq_true, if_false, bad]
    · simp (disch := omega) only [e89_0, e89_1, e89_4, e89_7, e89_9, e89_10, e89_11, e89_14, e89_15, e89_18, e89_21, e89_22, e89_23, e89_26, e89_29, e89_30, e89_31, e89_34, e89_35, e89_38, e89_41, ↓reduceIte, ↓gi0, ↓gr0, ↓gl0, ↓gi1, ↓gr1, ↓gl1, ↓gi2, ↓gr2, ↓gl2, ↓gi3, ↓gr3, ↓gl3, ↓gi4, ↓gr4, ↓gl4, ↓gi5, ↓gr5, ↓gl5, ↓gi6, ↓gr6, ↓gl6, ↓gi7, ↓gr7, ↓gl7, ↓gi8, ↓gr8, ↓gl8, ↓gi9, ↓gr9, ↓gl9, ↓qI, ↓qI2, ↓qL, ↓qL2, ↓qR, ↓qV, ↓pd0, ↓ta0, ↓ts0, ↓pd1, ↓ta1, ↓ts1, ↓pd2, ↓ta2, ↓ts2, ↓pd3, ↓ta3, ↓ts3, ↓pd4, ↓ta4, ↓ts4, ↓pd5, ↓ta5, ↓ts5, ↓pd6, ↓ta6, ↓ts6, lGet, lSet, okS, isLg, Bool.not_false, Bool.not_true, Bool.false_eq_true, not_false_eq_true, not_true_eq_false, catS, okR1, okR20, okR21, okR2b, List.length_cons, List.length_nil, List.drop_succ_cons, List.drop_zero, List.drop_nil, and_self, true_and, and_true, false_and, and_false, Nat.reduceAdd, Nat.reduceLeDiff, Nat.zero_add, Nat.le_refl, Nat.zero_le, pushR, reduceCtorEq, or_self, or_false, false_or, true_or, or_true, ltT, ltF, leT, leF, eqF, eqT, lt0F, ge0T, le0T, le0F, eq0T, eq0F, gt0T, gt0F, nI_add, nI_1, pk_mul, subT, sub1, divT, remN, natRem, n2, n3, n4, n5, n6, n7, n8, n9, n10, n12, n16, n22, n23, n24, n40, n48, n57, n60, n97, n99, n100, n119, n120, n238, n357, n999, n9999, n2231, Int32.add_zero, bI_t, bI_f, one_ne, K2, ↓G2_0, ↓G2_1, ↓G2_2, ↓G2_3, ↓G2_4, ↓G2_5, ↓G2_6, ↓G2_7, ↓G2_8, ↓G2_9, ↓G2_10, ↓G2_11, ↓G2_12, ↓U2_12, ↓G2_13, ↓U2_13, ↓U2_11, ↓bnd w1]
    · exact hI
  rw [g1] at w1
  obtain ⟨k, hk, rfl⟩ := inB_of (by omega) g1
  have e1 : (nI k).toNatClampNeg = k := nI_clamp (by omega)
  have w2 := c_isMissing (d + 2) (scr := scr) hr ho hk
  by_cases g2 : rw_.1 k = none
  · rw [decide_eq_true g2] at w2
    have k4 := c_found (d + 2) (scr := scr) (s := s) 1
    refine ⟨_, ?_, ?_, (FrHi.rf s).st (x := 1)⟩ <;> simp only [oDrop, g1, e1, g2, if_true, fnd, cl]
    · simp (disch := omega) only [e89_0, e89_1, e89_4, e89_7, e89_9, e89_10, e89_11, e89_14, e89_15, e89_18, e89_21, e89_22, e89_23, e89_26, e89_29, e89_30, e89_31, e89_34, e89_35, e89_38, e89_41, ↓reduceIte, ↓gi0, ↓gr0, ↓gl0, ↓gi1, ↓gr1, ↓gl1, ↓gi2, ↓gr2, ↓gl2, ↓gi3, ↓gr3, ↓gl3, ↓gi4, ↓gr4, ↓gl4, ↓gi5, ↓gr5, ↓gl5, ↓gi6, ↓gr6, ↓gl6, ↓gi7, ↓gr7, ↓gl7, ↓gi8, ↓gr8, ↓gl8, ↓gi9, ↓gr9, ↓gl9, ↓qI, ↓qI2, ↓qL, ↓qL2, ↓qR, ↓qV, ↓pd0, ↓ta0, ↓ts0, ↓pd1, ↓ta1, ↓ts1, ↓pd2, ↓ta2, ↓ts2, ↓pd3, ↓ta3, ↓ts3, ↓pd4, ↓ta4, ↓ts4, ↓pd5, ↓ta5, ↓ts5, ↓pd6, ↓ta6, ↓ts6, lGet, lSet, okS, isLg, Bool.not_false, Bool.not_true, Bool.false_eq_true, not_false_eq_true, not_true_eq_false, catS, okR1, okR20, okR21, okR2b, List.length_cons, List.length_nil, List.drop_succ_cons, List.drop_zero, List.drop_nil, and_self, true_and, and_true, false_and, and_false, Nat.reduceAdd, Nat.reduceLeDiff, Nat.zero_add, Nat.le_refl, Nat.zero_le, pushR, reduceCtorEq, or_self, or_false, false_or, true_or, or_true, ltT, ltF, leT, leF, eqF, eqT, lt0F, ge0T, le0T, le0F, eq0T, eq0F, gt0T, gt0F, nI_add, nI_1, pk_mul, subT, sub1, divT, remN, natRem, n2, n3, n4, n5, n6, n7, n8, n9, n10, n12, n16, n22, n23, n24, n40, n48, n57, n60, n97, n99, n100, n119, n120, n238, n357, n999, n9999, n2231, Int32.add_zero, bI_t, bI_f, one_ne, K2, ↓G2_0, ↓G2_1, ↓G2_2, ↓G2_3, ↓G2_4, ↓G2_5, ↓G2_6, ↓G2_7, ↓G2_8, ↓G2_9, ↓G2_10, ↓G2_11, ↓G2_12, ↓U2_12, ↓G2_13, ↓U2_13, ↓U2_11, K3, ↓G3_0, ↓G3_1, ↓G3_2, ↓bnd w1, ↓bnd w2, ↓bnd k4]
    · exact hI.stt
  rw [decide_eq_false g2] at w2
  have h5 := (hr k hk).2.1
  have w3 : EvM (d + 3) 63 [.ref 3, .int (nI k)] (mkH scr s) = some (nI (rw_.2.1 k), mkH scr (u2 s 4 k (-1))) := by
    rw [ev63, e63_0]
    have : (u2 s 4 k (-1)).1 5 k = nI (rw_.2.1 k) := by rw [u2_oth _ _ (by omega)]; exact h5
    simp (disch := omega) only [e63_0, e63_1, e63_4, e63_5, e63_6, e63_7, e63_8, e63_11, e63_12, e63_13, ↓reduceIte, ↓gi0, ↓gr0, ↓gl0, ↓gi1, ↓gr1, ↓gl1, ↓gi2, ↓gr2, ↓gl2, ↓gi3, ↓gr3, ↓gl3, ↓gi4, ↓gr4, ↓gl4, ↓gi5, ↓gr5, ↓gl5, ↓gi6, ↓gr6, ↓gl6, ↓gi7, ↓gr7, ↓gl7, ↓gi8, ↓gr8, ↓gl8, ↓gi9, ↓gr9, ↓gl9, ↓qI, ↓qI2, ↓qL, ↓qL2, ↓qR, ↓qV, ↓pd0, ↓ta0, ↓ts0, ↓pd1, ↓ta1, ↓ts1, ↓pd2, ↓ta2, ↓ts2, ↓pd3, ↓ta3, ↓ts3, ↓pd4, ↓ta4, ↓ts4, ↓pd5, ↓ta5, ↓ts5, ↓pd6, ↓ta6, ↓ts6, lGet, lSet, okS, isLg, Bool.not_false, Bool.not_true, Bool.false_eq_true, not_false_eq_true, not_true_eq_false, catS, okR1, okR20, okR21, okR2b, List.length_cons, List.length_nil, List.drop_succ_cons, List.drop_zero, List.drop_nil, and_self, true_and, and_true, false_and, and_false, Nat.reduceAdd, Nat.reduceLeDiff, Nat.zero_add, Nat.le_refl, Nat.zero_le, pushR, reduceCtorEq, or_self, or_false, false_or, true_or, or_true, K3, ↓G3_0, ↓G3_1, ↓G3_2, ↓I4, ↓S4, ↓I5, ↓S5, this]
  have k4 := c_fine (d + 2) (scr := scr) (s := u2 s 4 k (-1)) (nI (rw_.2.1 k))
  have hr' : RWc (u2 s 4 k (-1)) (rwDrop rw_ k) := fun i hi => by
    obtain ⟨q1, q2, q3⟩ := hr i hi
    refine ⟨?_, by rw [u2_oth _ _ (by omega)]; exact q2, fun j hj => by rw [u2_oth _ _ (by omega)]; exact q3 j hj⟩
    unfold rwDrop
    simp only
    by_cases e : i = k
    · rw [if_pos e, e, u2_same]; rfl
    · rw [if_neg e, u2_oth _ _ (by omega)]; exact q1
  refine ⟨_, ?_, ?_, FrHi.st (x := 0) (s' := u2 s 4 k (-1)) (fun a k x => u2_oth _ _ (by omega))⟩ <;> simp only [oDrop, g1, e1, g2, if_true, if_false, fin, cl]
  · simp (disch := omega) only [e89_0, e89_1, e89_4, e89_7, e89_9, e89_10, e89_11, e89_14, e89_15, e89_18, e89_21, e89_22, e89_23, e89_26, e89_29, e89_30, e89_31, e89_34, e89_35, e89_38, e89_41, ↓reduceIte, ↓gi0, ↓gr0, ↓gl0, ↓gi1, ↓gr1, ↓gl1, ↓gi2, ↓gr2, ↓gl2, ↓gi3, ↓gr3, ↓gl3, ↓gi4, ↓gr4, ↓gl4, ↓gi5, ↓gr5, ↓gl5, ↓gi6, ↓gr6, ↓gl6, ↓gi7, ↓gr7, ↓gl7, ↓gi8, ↓gr8, ↓gl8, ↓gi9, ↓gr9, ↓gl9, ↓qI, ↓qI2, ↓qL, ↓qL2, ↓qR, ↓qV, ↓pd0, ↓ta0, ↓ts0, ↓pd1, ↓ta1, ↓ts1, ↓pd2, ↓ta2, ↓ts2, ↓pd3, ↓ta3, ↓ts3, ↓pd4, ↓ta4, ↓ts4, ↓pd5, ↓ta5, ↓ts5, ↓pd6, ↓ta6, ↓ts6, lGet, lSet, okS, isLg, Bool.not_false, Bool.not_true, Bool.false_eq_true, not_false_eq_true, not_true_eq_false, catS, okR1, okR20, okR21, okR2b, List.length_cons, List.length_nil, List.drop_succ_cons, List.drop_zero, List.drop_nil, and_self, true_and, and_true, false_and, and_false, Nat.reduceAdd, Nat.reduceLeDiff, Nat.zero_add, Nat.le_refl, Nat.zero_le, pushR, reduceCtorEq, or_self, or_false, false_or, true_or, or_true, ltT, ltF, leT, leF, eqF, eqT, lt0F, ge0T, le0T, le0F, eq0T, eq0F, gt0T, gt0F, nI_add, nI_1, pk_mul, subT, sub1, divT, remN, natRem, n2, n3, n4, n5, n6, n7, n8, n9, n10, n12, n16, n22, n23, n24, n40, n48, n57, n60, n97, n99, n100, n119, n120, n238, n357, n999, n9999, n2231, Int32.add_zero, bI_t, bI_f, one_ne, K2, ↓G2_0, ↓G2_1, ↓G2_2, ↓G2_3, ↓G2_4, ↓G2_5, ↓G2_6, ↓G2_7, ↓G2_8, ↓G2_9, ↓G2_10, ↓G2_11, ↓G2_12, ↓U2_12, ↓G2_13, ↓U2_13, ↓U2_11, K3, ↓G3_0, ↓G3_1, ↓G3_2, ↓bnd w1, ↓bnd w2, ↓bnd w3, ↓bnd k4]
  · exact (hI.rws hr' (fun a k x => u2_oth _ _ (by omega))).stt
theorem lnC_inj {o o' : Option Nat} (h : ∀ l, o = some l → l < 3) (h' : ∀ l, o' = some l → l < 3) : lnC o = lnC o' ↔ o = o' := by
  cases o with
  | none =>
    cases o' with
    | none => simp
    | some l => exact ⟨fun z => absurd z.symm (fun y => by have := (lnC_m h').mp y; cases this), fun z => by cases z⟩
  | some l =>
    cases o' with
    | none => exact ⟨fun z => (by have := (lnC_m h).mp z; cases this), fun z => (by cases z)⟩
    | some l' =>
      have := h l rfl
      have := h' l' rfl
      exact ⟨fun z => congrArg some ((nI_eq (by omega) (by omega)).mp z), fun z => by rw [z]⟩
theorem cs_copy (d : Nat) {A : AS} (hI : InvC s A) (hG : Gd A) (a i b j n : Int32) : ∃ s', EvM (d + 4) 88 [.ref 2, .int a, .int i, .int b, .int j, .int n] (mkH scr s) = some ((oCopy a i b j n A).1, mkH scr s') ∧ InvC s' (oCopy a i b j n A).2 ∧ FrHi s s' := by
  obtain ⟨rw_, tp, fl, st, q⟩ := A
  have hr : RWc s rw_ := hI.1
  have ho : rwOk rw_ := hG.1
  have w1 := c_isRow (d + 1) (h := mkH scr s) a
  have w2 := c_isRow (d + 1) (h := mkH scr s) b
  rw [ev88, e88_0]
  cases g1 : inB a 8
  · rw [g1] at w1
    refine ⟨s, ?_, ?_, FrHi.rf s⟩ <;> simp only [oCopy, g1, Bool.false_eq_true, false_and, if_false, bad]
    · simp (disch := omega) only [e88_0, e88_1, e88_4, e88_7, e88_8, e88_11, e88_14, e88_16, e88_17, e88_18, e88_21, e88_22, e88_25, e88_28, e88_29, e88_32, e88_33, e88_36, e88_39, e88_40, e88_41, e88_44, e88_45, e88_46, e88_49, e88_52, e88_53, e88_54, e88_55, e88_58, e88_61, e88_62, e88_63, e88_66, e88_67, e88_68, e88_71, e88_72, e88_73, e88_76, e88_77, e88_78, e88_80, e88_83, e88_86, e88_87, e88_90, e88_91, e88_93, e88_95, e88_98, e88_101, e88_102, e88_103, e88_106, e88_107, e88_108, e88_111, e88_114, e88_115, e88_116, e88_117, e88_118, e88_121, e88_124, e88_125, e88_126, e88_128, e88_130, e88_133, e88_134, e88_136, e88_139, ↓reduceIte, ↓gi0, ↓gr0, ↓gl0, ↓gi1, ↓gr1, ↓gl1, ↓gi2, ↓gr2, ↓gl2, ↓gi3, ↓gr3, ↓gl3, ↓gi4, ↓gr4, ↓gl4, ↓gi5, ↓gr5, ↓gl5, ↓gi6, ↓gr6, ↓gl6, ↓gi7, ↓gr7, ↓gl7, ↓gi8, ↓gr8, ↓gl8, ↓gi9, ↓gr9, ↓gl9, ↓qI, ↓qI2, ↓qL, ↓qL2, ↓qR, ↓qV, ↓pd0, ↓ta0, ↓ts0, ↓pd1, ↓ta1, ↓ts1, ↓pd2, ↓ta2, ↓ts2, ↓pd3, ↓ta3, ↓ts3, ↓pd4, ↓ta4, ↓ts4, ↓pd5, ↓ta5, ↓ts5, ↓pd6, ↓ta6, ↓ts6, lGet, lSet, okS, isLg, Bool.not_false, Bool.not_true, Bool.false_eq_true, not_false_eq_true, not_true_eq_false, catS, okR1, okR20, okR21, okR2b, List.length_cons, List.length_nil, List.drop_succ_cons, List.drop_zero, List.drop_nil, and_self, true_and, and_true, false_and, and_false, Nat.reduceAdd, Nat.reduceLeDiff, Nat.zero_add, Nat.le_refl, Nat.zero_le, pushR, reduceCtorEq, or_self, or_false, false_or, true_or, or_true, ltT, ltF, leT, leF, eqF, eqT, lt0F, ge0T, le0T, le0F, eq0T, eq0F, gt0T, gt0F, nI_add, nI_1, pk_mul, subT, sub1, divT, remN, natRem, n2, n3, n4, n5, n6, n7, n8, n9, n10, n12, n16, n22, n23, n24, n40, n48, n57, n60, n97, n99, n100, n119, n120, n238, n357, n999, n9999, n2231, Int32.add_zero, bI_t, bI_f, one_ne, K2, ↓G2_0, ↓G2_1, ↓G2_2, ↓G2_3, ↓G2_4, ↓G2_5, ↓G2_6, ↓G2_7, ↓G2_8, ↓G2_9, ↓G2_10, ↓G2_11, ↓G2_12, ↓U2_12, ↓G2_13, ↓U2_13, ↓U2_11, ↓bnd w1]
    · exact hI
  cases g2 : inB b 8
  · rw [g1] at w1; rw [g2] at w2
    refine ⟨s, ?_, ?_, FrHi.rf s⟩ <;> simp only [oCopy, g1, g2, Bool.false_eq_true, and_false, if_false, bad]
    · simp (disch := omega) only [e88_0, e88_1, e88_4, e88_7, e88_8, e88_11, e88_14, e88_16, e88_17, e88_18, e88_21, e88_22, e88_25, e88_28, e88_29, e88_32, e88_33, e88_36, e88_39, e88_40, e88_41, e88_44, e88_45, e88_46, e88_49, e88_52, e88_53, e88_54, e88_55, e88_58, e88_61, e88_62, e88_63, e88_66, e88_67, e88_68, e88_71, e88_72, e88_73, e88_76, e88_77, e88_78, e88_80, e88_83, e88_86, e88_87, e88_90, e88_91, e88_93, e88_95, e88_98, e88_101, e88_102, e88_103, e88_106, e88_107, e88_108, e88_111, e88_114, e88_115, e88_116, e88_117, e88_118, e88_121, e88_124, e88_125, e88_126, e88_128, e88_130, e88_133, e88_134, e88_136, e88_139, ↓reduceIte, ↓gi0, ↓gr0, ↓gl0, ↓gi1, ↓gr1, ↓gl1, ↓gi2, ↓gr2, ↓gl2, ↓gi3, ↓gr3, ↓gl3, ↓gi4, ↓gr4, ↓gl4, ↓gi5, ↓gr5, ↓gl5, ↓gi6, ↓gr6, ↓gl6, ↓gi7, ↓gr7, ↓gl7, ↓gi8, ↓gr8, ↓gl8, ↓gi9, ↓gr9, ↓gl9, ↓qI, ↓qI2, ↓qL, ↓qL2, ↓qR, ↓qV, ↓pd0, ↓ta0, ↓ts0, ↓pd1, ↓ta1, ↓ts1, ↓pd2, ↓ta2, ↓ts2, ↓pd3, ↓ta3, ↓ts3, ↓pd4, ↓ta4, ↓ts4, ↓pd5, ↓ta5, ↓ts5, ↓pd6, ↓ta6, ↓ts6, lGet, lSet, okS, isLg, Bool.not_false, Bool.not_true, Bool.false_eq_true, not_false_eq_true, not_true_eq_false, catS, okR1, okR20, okR21, okR2b, List.length_cons, List.length_nil, List.drop_succ_cons, List.drop_zero, List.drop_nil, and_self, true_and, and_true, false_and, and_false, Nat.reduceAdd, Nat.reduceLeDiff, Nat.zero_add, Nat.le_refl, Nat.zero_le, pushR, reduceCtorEq, or_self, or_false, false_or, true_or, or_true, ltT, ltF, leT, leF, eqF, eqT, lt0F, ge0T, le0T, le0F, eq0T, eq0F, gt0T, gt0F, nI_add, nI_1, pk_mul, subT, sub1, divT, remN, natRem, n2, n3, n4, n5, n6, n7, n8, n9, n10, n12, n16, n22, n23, n24, n40, n48, n57, n60, n97, n99, n100, n119, n120, n238, n357, n999, n9999, n2231, Int32.add_zero, bI_t, bI_f, one_ne, K2, ↓G2_0, ↓G2_1, ↓G2_2, ↓G2_3, ↓G2_4, ↓G2_5, ↓G2_6, ↓G2_7, ↓G2_8, ↓G2_9, ↓G2_10, ↓G2_11, ↓G2_12, ↓U2_12, ↓G2_13, ↓U2_13, ↓U2_11, ↓bnd w1, ↓bnd w2]
    · exact hI
  rw [g1] at w1; rw [g2] at w2
  obtain ⟨a, ha, rfl⟩ := inB_of (by omega) g1
  obtain ⟨b, hb, rfl⟩ := inB_of (by omega) g2
  have ea : (nI a).toNatClampNeg = a := nI_clamp (by omega)
  have eb : (nI b).toNatClampNeg = b := nI_clamp (by omega)
  have m1 := c_isMissing (d + 2) (scr := scr) hr ho ha
  have m2 := c_isMissing (d + 2) (scr := scr) hr ho hb
  have k1 := c_found (d + 2) (scr := scr) (s := s) 1
  have k2 := c_found (d + 2) (scr := scr) (s := s) (nI 2)
  have k5 := c_found (d + 2) (scr := scr) (s := s) (nI 5)
  by_cases g3 : rw_.1 a = none
  · rw [decide_eq_true g3] at m1
    refine ⟨_, ?_, ?_, (FrHi.rf s).st (x := 1)⟩ <;> simp only [oCopy, g1, g2, ea, eb, g3, and_self, true_or, if_true, fnd, cl]
    · simp (disch := omega) only [e88_0, e88_1, e88_4, e88_7, e88_8, e88_11, e88_14, e88_16, e88_17, e88_18, e88_21, e88_22, e88_25, e88_28, e88_29, e88_32, e88_33, e88_36, e88_39, e88_40, e88_41, e88_44, e88_45, e88_46, e88_49, e88_52, e88_53, e88_54, e88_55, e88_58, e88_61, e88_62, e88_63, e88_66, e88_67, e88_68, e88_71, e88_72, e88_73, e88_76, e88_77, e88_78, e88_80, e88_83, e88_86, e88_87, e88_90, e88_91, e88_93, e88_95, e88_98, e88_101, e88_102, e88_103, e88_106, e88_107, e88_108, e88_111, e88_114, e88_115, e88_116, e88_117, e88_118, e88_121, e88_124, e88_125, e88_126, e88_128, e88_130, e88_133, e88_134, e88_136, e88_139, ↓reduceIte, ↓gi0, ↓gr0, ↓gl0, ↓gi1, ↓gr1, ↓gl1, ↓gi2, ↓gr2, ↓gl2, ↓gi3, ↓gr3, ↓gl3, ↓gi4, ↓gr4, ↓gl4, ↓gi5, ↓gr5, ↓gl5, ↓gi6, ↓gr6, ↓gl6, ↓gi7, ↓gr7, ↓gl7, ↓gi8, ↓gr8, ↓gl8, ↓gi9, ↓gr9, ↓gl9, ↓qI, ↓qI2, ↓qL, ↓qL2, ↓qR, ↓qV, ↓pd0, ↓ta0, ↓ts0, ↓pd1, ↓ta1, ↓ts1, ↓pd2, ↓ta2, ↓ts2, ↓pd3, ↓ta3, ↓ts3, ↓pd4, ↓ta4, ↓ts4, ↓pd5, ↓ta5, ↓ts5, ↓pd6, ↓ta6, ↓ts6, lGet, lSet, okS, isLg, Bool.not_false, Bool.not_true, Bool.false_eq_true, not_false_eq_true, not_true_eq_false, catS, okR1, okR20, okR21, okR2b, List.length_cons, List.length_nil, List.drop_succ_cons, List.drop_zero, List.drop_nil, and_self, true_and, and_true, false_and, and_false, Nat.reduceAdd, Nat.reduceLeDiff, Nat.zero_add, Nat.le_refl, Nat.zero_le, pushR, reduceCtorEq, or_self, or_false, false_or, true_or, or_true, ltT, ltF, leT, leF, eqF, eqT, lt0F, ge0T, le0T, le0F, eq0T, eq0F, gt0T, gt0F, nI_add, nI_1, pk_mul, subT, sub1, divT, remN, natRem, n2, n3, n4, n5, n6, n7, n8, n9, n10, n12, n16, n22, n23, n24, n40, n48, n57, n60, n97, n99, n100, n119, n120, n238, n357, n999, n9999, n2231, Int32.add_zero, bI_t, bI_f, one_ne, K2, ↓G2_0, ↓G2_1, ↓G2_2, ↓G2_3, ↓G2_4, ↓G2_5, ↓G2_6, ↓G2_7, ↓G2_8, ↓G2_9, ↓G2_10, ↓G2_11, ↓G2_12, ↓U2_12, ↓G2_13, ↓U2_13, ↓U2_11, K3, ↓G3_0, ↓G3_1, ↓G3_2, ↓bnd w1, ↓bnd w2, ↓bnd m1, ↓bnd k1]
    · exact hI.stt
  rw [decide_eq_false g3] at m1
  by_cases g4 : rw_.1 b = none
  · rw [decide_eq_true g4] at m2
    refine ⟨_, ?_, ?_, (FrHi.rf s).st (x := 1)⟩ <;> simp only [oCopy, g1, g2, ea, eb, g4, and_self, or_true, if_true, fnd, cl]
    · simp (disch := omega) only [e88_0, e88_1, e88_4, e88_7, e88_8, e88_11, e88_14, e88_16, e88_17, e88_18, e88_21, e88_22, e88_25, e88_28, e88_29, e88_32, e88_33, e88_36, e88_39, e88_40, e88_41, e88_44, e88_45, e88_46, e88_49, e88_52, e88_53, e88_54, e88_55, e88_58, e88_61, e88_62, e88_63, e88_66, e88_67, e88_68, e88_71, e88_72, e88_73, e88_76, e88_77, e88_78, e88_80, e88_83, e88_86, e88_87, e88_90, e88_91, e88_93, e88_95, e88_98, e88_101, e88_102, e88_103, e88_106, e88_107, e88_108, e88_111, e88_114, e88_115, e88_116, e88_117, e88_118, e88_121, e88_124, e88_125, e88_126, e88_128, e88_130, e88_133, e88_134, e88_136, e88_139, ↓reduceIte, ↓gi0, ↓gr0, ↓gl0, ↓gi1, ↓gr1, ↓gl1, ↓gi2, ↓gr2, ↓gl2, ↓gi3, ↓gr3, ↓gl3, ↓gi4, ↓gr4, ↓gl4, ↓gi5, ↓gr5, ↓gl5, ↓gi6, ↓gr6, ↓gl6, ↓gi7, ↓gr7, ↓gl7, ↓gi8, ↓gr8, ↓gl8, ↓gi9, ↓gr9, ↓gl9, ↓qI, ↓qI2, ↓qL, ↓qL2, ↓qR, ↓qV, ↓pd0, ↓ta0, ↓ts0, ↓pd1, ↓ta1, ↓ts1, ↓pd2, ↓ta2, ↓ts2, ↓pd3, ↓ta3, ↓ts3, ↓pd4, ↓ta4, ↓ts4, ↓pd5, ↓ta5, ↓ts5, ↓pd6, ↓ta6, ↓ts6, lGet, lSet, okS, isLg, Bool.not_false, Bool.not_true, Bool.false_eq_true, not_false_eq_true, not_true_eq_false, catS, okR1, okR20, okR21, okR2b, List.length_cons, List.length_nil, List.drop_succ_cons, List.drop_zero, List.drop_nil, and_self, true_and, and_true, false_and, and_false, Nat.reduceAdd, Nat.reduceLeDiff, Nat.zero_add, Nat.le_refl, Nat.zero_le, pushR, reduceCtorEq, or_self, or_false, false_or, true_or, or_true, ltT, ltF, leT, leF, eqF, eqT, lt0F, ge0T, le0T, le0F, eq0T, eq0F, gt0T, gt0F, nI_add, nI_1, pk_mul, subT, sub1, divT, remN, natRem, n2, n3, n4, n5, n6, n7, n8, n9, n10, n12, n16, n22, n23, n24, n40, n48, n57, n60, n97, n99, n100, n119, n120, n238, n357, n999, n9999, n2231, Int32.add_zero, bI_t, bI_f, one_ne, K2, ↓G2_0, ↓G2_1, ↓G2_2, ↓G2_3, ↓G2_4, ↓G2_5, ↓G2_6, ↓G2_7, ↓G2_8, ↓G2_9, ↓G2_10, ↓G2_11, ↓G2_12, ↓U2_12, ↓G2_13, ↓U2_13, ↓U2_11, K3, ↓G3_0, ↓G3_1, ↓G3_2, ↓bnd w1, ↓bnd w2, ↓bnd m1, ↓bnd m2, ↓bnd k1]
    · exact hI.stt
  rw [decide_eq_false g4] at m2
  have hla := (hr a ha).1
  have hlb := (hr b hb).1
  have hll := lnC_inj (ho a ha).1 (ho b hb).1
  by_cases g5 : rw_.1 a = rw_.1 b
  case neg =>
    have g5' : ¬ lnC (rw_.1 a) = lnC (rw_.1 b) := fun z => g5 (hll.mp z)
    refine ⟨_, ?_, ?_, (FrHi.rf s).st (x := 5)⟩ <;> simp only [oCopy, g1, g2, ea, eb, g3, g4, g5, and_self, or_self, if_true, if_false, fnd, cl]
    · simp (disch := omega) only [e88_0, e88_1, e88_4, e88_7, e88_8, e88_11, e88_14, e88_16, e88_17, e88_18, e88_21, e88_22, e88_25, e88_28, e88_29, e88_32, e88_33, e88_36, e88_39, e88_40, e88_41, e88_44, e88_45, e88_46, e88_49, e88_52, e88_53, e88_54, e88_55, e88_58, e88_61, e88_62, e88_63, e88_66, e88_67, e88_68, e88_71, e88_72, e88_73, e88_76, e88_77, e88_78, e88_80, e88_83, e88_86, e88_87, e88_90, e88_91, e88_93, e88_95, e88_98, e88_101, e88_102, e88_103, e88_106, e88_107, e88_108, e88_111, e88_114, e88_115, e88_116, e88_117, e88_118, e88_121, e88_124, e88_125, e88_126, e88_128, e88_130, e88_133, e88_134, e88_136, e88_139, ↓reduceIte, ↓gi0, ↓gr0, ↓gl0, ↓gi1, ↓gr1, ↓gl1, ↓gi2, ↓gr2, ↓gl2, ↓gi3, ↓gr3, ↓gl3, ↓gi4, ↓gr4, ↓gl4, ↓gi5, ↓gr5, ↓gl5, ↓gi6, ↓gr6, ↓gl6, ↓gi7, ↓gr7, ↓gl7, ↓gi8, ↓gr8, ↓gl8, ↓gi9, ↓gr9, ↓gl9, ↓qI, ↓qI2, ↓qL, ↓qL2, ↓qR, ↓qV, ↓pd0, ↓ta0, ↓ts0, ↓pd1, ↓ta1, ↓ts1, ↓pd2, ↓ta2, ↓ts2, ↓pd3, ↓ta3, ↓ts3, ↓pd4, ↓ta4, ↓ts4, ↓pd5, ↓ta5, ↓ts5, ↓pd6, ↓ta6, ↓ts6, lGet, lSet, okS, isLg, Bool.not_false, Bool.not_true, Bool.false_eq_true, not_false_eq_true, not_true_eq_false, catS, okR1, okR20, okR21, okR2b, List.length_cons, List.length_nil, List.drop_succ_cons, List.drop_zero, List.drop_nil, and_self, true_and, and_true, false_and, and_false, Nat.reduceAdd, Nat.reduceLeDiff, Nat.zero_add, Nat.le_refl, Nat.zero_le, pushR, reduceCtorEq, or_self, or_false, false_or, true_or, or_true, ltT, ltF, leT, leF, eqF, eqT, lt0F, ge0T, le0T, le0F, eq0T, eq0F, gt0T, gt0F, nI_add, nI_1, pk_mul, subT, sub1, divT, remN, natRem, n2, n3, n4, n5, n6, n7, n8, n9, n10, n12, n16, n22, n23, n24, n40, n48, n57, n60, n97, n99, n100, n119, n120, n238, n357, n999, n9999, n2231, Int32.add_zero, bI_t, bI_f, one_ne, K2, ↓G2_0, ↓G2_1, ↓G2_2, ↓G2_3, ↓G2_4, ↓G2_5, ↓G2_6, ↓G2_7, ↓G2_8, ↓G2_9, ↓G2_10, ↓G2_11, ↓G2_12, ↓U2_12, ↓G2_13, ↓U2_13, ↓U2_11, K3, ↓G3_0, ↓G3_1, ↓G3_2, ↓I4, ↓S4, ↓bnd w1, ↓bnd w2, ↓bnd m1, ↓bnd m2, hla, hlb, g5', ↓bnd k5]
    · exact hI.stt
  have f1 := c_findingOf (d + 1) (scr := scr) hr ho ha i n
  have f2 := c_findingOf (d + 1) (scr := scr) hr ho hb j n
  cases g6 : spanB i n (rw_.2.1 a)
  · have e6 : fndC (rw_.1 a) (rw_.2.1 a) i n = nI 2 := by
      unfold fndC
      rw [if_neg g3, g6]
      rfl
    rw [e6] at f1
    refine ⟨_, ?_, ?_, (FrHi.rf s).st (x := 2)⟩ <;> simp only [oCopy, g1, g2, ea, eb, g3, g4, g5, g6, and_self, or_self, if_true, if_false, fnd, cl, Bool.false_eq_true, false_and]
    · rw [g5] at hla
      simp (disch := omega) only [e88_0, e88_1, e88_4, e88_7, e88_8, e88_11, e88_14, e88_16, e88_17, e88_18, e88_21, e88_22, e88_25, e88_28, e88_29, e88_32, e88_33, e88_36, e88_39, e88_40, e88_41, e88_44, e88_45, e88_46, e88_49, e88_52, e88_53, e88_54, e88_55, e88_58, e88_61, e88_62, e88_63, e88_66, e88_67, e88_68, e88_71, e88_72, e88_73, e88_76, e88_77, e88_78, e88_80, e88_83, e88_86, e88_87, e88_90, e88_91, e88_93, e88_95, e88_98, e88_101, e88_102, e88_103, e88_106, e88_107, e88_108, e88_111, e88_114, e88_115, e88_116, e88_117, e88_118, e88_121, e88_124, e88_125, e88_126, e88_128, e88_130, e88_133, e88_134, e88_136, e88_139, ↓reduceIte, ↓gi0, ↓gr0, ↓gl0, ↓gi1, ↓gr1, ↓gl1, ↓gi2, ↓gr2, ↓gl2, ↓gi3, ↓gr3, ↓gl3, ↓gi4, ↓gr4, ↓gl4, ↓gi5, ↓gr5, ↓gl5, ↓gi6, ↓gr6, ↓gl6, ↓gi7, ↓gr7, ↓gl7, ↓gi8, ↓gr8, ↓gl8, ↓gi9, ↓gr9, ↓gl9, ↓qI, ↓qI2, ↓qL, ↓qL2, ↓qR, ↓qV, ↓pd0, ↓ta0, ↓ts0, ↓pd1, ↓ta1, ↓ts1, ↓pd2, ↓ta2, ↓ts2, ↓pd3, ↓ta3, ↓ts3, ↓pd4, ↓ta4, ↓ts4, ↓pd5, ↓ta5, ↓ts5, ↓pd6, ↓ta6, ↓ts6, lGet, lSet, okS, isLg, Bool.not_false, Bool.not_true, Bool.false_eq_true, not_false_eq_true, not_true_eq_false, catS, okR1, okR20, okR21, okR2b, List.length_cons, List.length_nil, List.drop_succ_cons, List.drop_zero, List.drop_nil, and_self, true_and, and_true, false_and, and_false, Nat.reduceAdd, Nat.reduceLeDiff, Nat.zero_add, Nat.le_refl, Nat.zero_le, pushR, reduceCtorEq, or_self, or_false, false_or, true_or, or_true, ltT, ltF, leT, leF, eqF, eqT, lt0F, ge0T, le0T, le0F, eq0T, eq0F, gt0T, gt0F, nI_add, nI_1, pk_mul, subT, sub1, divT, remN, natRem, n2, n3, n4, n5, n6, n7, n8, n9, n10, n12, n16, n22, n23, n24, n40, n48, n57, n60, n97, n99, n100, n119, n120, n238, n357, n999, n9999, n2231, Int32.add_zero, bI_t, bI_f, one_ne, K2, ↓G2_0, ↓G2_1, ↓G2_2, ↓G2_3, ↓G2_4, ↓G2_5, ↓G2_6, ↓G2_7, ↓G2_8, ↓G2_9, ↓G2_10, ↓G2_11, ↓G2_12, ↓U2_12, ↓G2_13, ↓U2_13, ↓U2_11, K3, ↓G3_0, ↓G3_1, ↓G3_2, ↓I4, ↓S4, ↓bnd w1, ↓bnd w2, ↓bnd m1, ↓bnd m2, hla, hlb, ↓bnd f1, ↓bnd k2]
    · exact hI.stt
  have e6 : fndC (rw_.1 a) (rw_.2.1 a) i n = 0 := by
    unfold fndC
    rw [if_neg g3, g6]
    rfl
  rw [e6] at f1
  cases g7 : spanB j n (rw_.2.1 b)
  · have e7 : fndC (rw_.1 b) (rw_.2.1 b) j n = nI 2 := by
      unfold fndC
      rw [if_neg g4, g7]
      rfl
    rw [e7] at f2
    refine ⟨_, ?_, ?_, (FrHi.rf s).st (x := 2)⟩ <;> simp only [oCopy, g1, g2, ea, eb, g3, g4, g5, g6, g7, and_self, or_self, if_true, if_false, fnd, cl, Bool.false_eq_true, and_false]
    · rw [g5] at hla
      simp (disch := omega) only [e88_0, e88_1, e88_4, e88_7, e88_8, e88_11, e88_14, e88_16, e88_17, e88_18, e88_21, e88_22, e88_25, e88_28, e88_29, e88_32, e88_33, e88_36, e88_39, e88_40, e88_41, e88_44, e88_45, e88_46, e88_49, e88_52, e88_53, e88_54, e88_55, e88_58, e88_61, e88_62, e88_63, e88_66, e88_67, e88_68, e88_71, e88_72, e88_73, e88_76, e88_77, e88_78, e88_80, e88_83, e88_86, e88_87, e88_90, e88_91, e88_93, e88_95, e88_98, e88_101, e88_102, e88_103, e88_106, e88_107, e88_108, e88_111, e88_114, e88_115, e88_116, e88_117, e88_118, e88_121, e88_124, e88_125, e88_126, e88_128, e88_130, e88_133, e88_134, e88_136, e88_139, ↓reduceIte, ↓gi0, ↓gr0, ↓gl0, ↓gi1, ↓gr1, ↓gl1, ↓gi2, ↓gr2, ↓gl2, ↓gi3, ↓gr3, ↓gl3, ↓gi4, ↓gr4, ↓gl4, ↓gi5, ↓gr5, ↓gl5, ↓gi6, ↓gr6, ↓gl6, ↓gi7, ↓gr7, ↓gl7, ↓gi8, ↓gr8, ↓gl8, ↓gi9, ↓gr9, ↓gl9, ↓qI, ↓qI2, ↓qL, ↓qL2, ↓qR, ↓qV, ↓pd0, ↓ta0, ↓ts0, ↓pd1, ↓ta1, ↓ts1, ↓pd2, ↓ta2, ↓ts2, ↓pd3, ↓ta3, ↓ts3, ↓pd4, ↓ta4, ↓ts4, ↓pd5, ↓ta5, ↓ts5, ↓pd6, ↓ta6, ↓ts6, lGet, lSet, okS, isLg, Bool.not_false, Bool.not_true, Bool.false_eq_true, not_false_eq_true, not_true_eq_false, catS, okR1, okR20, okR21, okR2b, List.length_cons, List.length_nil, List.drop_succ_cons, List.drop_zero, List.drop_nil, and_self, true_and, and_true, false_and, and_false, Nat.reduceAdd, Nat.reduceLeDiff, Nat.zero_add, Nat.le_refl, Nat.zero_le, pushR, reduceCtorEq, or_self, or_false, false_or, true_or, or_true, ltT, ltF, leT, leF, eqF, eqT, lt0F, ge0T, le0T, le0F, eq0T, eq0F, gt0T, gt0F, nI_add, nI_1, pk_mul, subT, sub1, divT, remN, natRem, n2, n3, n4, n5, n6, n7, n8, n9, n10, n12, n16, n22, n23, n24, n40, n48, n57, n60, n97, n99, n100, n119, n120, n238, n357, n999, n9999, n2231, Int32.add_zero, bI_t, bI_f, one_ne, K2, ↓G2_0, ↓G2_1, ↓G2_2, ↓G2_3, ↓G2_4, ↓G2_5, ↓G2_6, ↓G2_7, ↓G2_8, ↓G2_9, ↓G2_10, ↓G2_11, ↓G2_12, ↓U2_12, ↓G2_13, ↓U2_13, ↓U2_11, K3, ↓G3_0, ↓G3_1, ↓G3_2, ↓I4, ↓S4, ↓bnd w1, ↓bnd w2, ↓bnd m1, ↓bnd m2, hla, hlb, ↓bnd f1, ↓bnd f2, ↓bnd k2]
    · exact hI.stt
  have e7 : fndC (rw_.1 b) (rw_.2.1 b) j n = 0 := by
    unfold fndC
    rw [if_neg g4, g7]
    rfl
  rw [e7] at f2
  have za := (ho a ha).2
  have zb := (ho b hb).2
  obtain ⟨i, n, hin, rfl, rfl⟩ := spanB_of (by omega) g6
  obtain ⟨j, n', hjn, rfl, hn'⟩ := spanB_of (by omega) g7
  have en' : n' = n := ((nI_eq (by omega) (by omega)).mp hn').symm
  subst en'
  have ei : (nI i).toNatClampNeg = i := nI_clamp (by omega)
  have ej : (nI j).toNatClampNeg = j := nI_clamp (by omega)
  have en : (nI n').toNatClampNeg = n' := nI_clamp (by omega)
  have cp := cpyS (scr := scr) (s := s) (sp := nI i) (dp := nI j) (n := nI n') (shRow ha) (shRow hb) ⟨nI_pos (by omega), nI_pos (by omega), nI_pos (by omega), by rw [ei, en]; omega, by rw [ej, en]; omega⟩
  rw [ei, ej, en] at cp
  have k4 := c_fine (d + 2) (scr := scr) (s := uA s (7 + b) (va_cpy (s.1 (7 + a)) (s.1 (7 + b)) i j n')) (nI n')
  have hr' : RWc (uA s (7 + b) (va_cpy (s.1 (7 + a)) (s.1 (7 + b)) i j n')) (rwCopy rw_ a i b j n') := fun x hx => by
    obtain ⟨q1, q2, q3⟩ := hr x hx
    refine ⟨?_, ?_, fun k hk => ?_⟩
    · show (if 4 = 7 + b then _ else s.1 4) x = _
      rw [if_neg (by omega)]; exact q1
    · show (if 5 = 7 + b then _ else s.1 5) x = _
      rw [if_neg (by omega)]; exact q2
    · show (if 7 + x = 7 + b then va_cpy (s.1 (7 + a)) (s.1 (7 + b)) i j n' else s.1 (7 + x)) k = _
      unfold rwCopy
      simp only
      by_cases e : x = b
      · subst e
        rw [if_pos rfl]
        by_cases e2 : j ≤ k ∧ k < j + n'
        · rw [if_pos ⟨rfl, e2⟩, pk_cpy_in e2.1 e2.2]
          exact (hr a ha).2.2 _ (by omega)
        · rw [if_neg (fun z => e2 z.2), pk_cpy_out (by omega)]
          exact q3 k hk
      · rw [if_neg (by omega), if_neg (fun z => e z.1)]
        exact q3 k hk
  have fr : ∀ x k, ¬ (4 ≤ x ∧ x < 15) → (uA s (7 + b) (va_cpy (s.1 (7 + a)) (s.1 (7 + b)) i j n')).1 x k = s.1 x k := fun x k z => by
    show (if x = 7 + b then _ else s.1 x) k = _
    rw [if_neg (by omega)]
  refine ⟨_, ?_, ?_, FrHi.st (x := 0) (s' := uA s (7 + b) (va_cpy (s.1 (7 + a)) (s.1 (7 + b)) i j n')) (fun x k z => fr x k (by omega))⟩ <;> simp only [oCopy, g1, g2, ea, eb, ei, ej, en, g3, g4, g5, g6, g7, and_self, or_self, if_true, if_false, fin, cl]
  · rw [g5] at hla
    simp (disch := omega) only [e88_0, e88_1, e88_4, e88_7, e88_8, e88_11, e88_14, e88_16, e88_17, e88_18, e88_21, e88_22, e88_25, e88_28, e88_29, e88_32, e88_33, e88_36, e88_39, e88_40, e88_41, e88_44, e88_45, e88_46, e88_49, e88_52, e88_53, e88_54, e88_55, e88_58, e88_61, e88_62, e88_63, e88_66, e88_67, e88_68, e88_71, e88_72, e88_73, e88_76, e88_77, e88_78, e88_80, e88_83, e88_86, e88_87, e88_90, e88_91, e88_93, e88_95, e88_98, e88_101, e88_102, e88_103, e88_106, e88_107, e88_108, e88_111, e88_114, e88_115, e88_116, e88_117, e88_118, e88_121, e88_124, e88_125, e88_126, e88_128, e88_130, e88_133, e88_134, e88_136, e88_139, ↓reduceIte, ↓gi0, ↓gr0, ↓gl0, ↓gi1, ↓gr1, ↓gl1, ↓gi2, ↓gr2, ↓gl2, ↓gi3, ↓gr3, ↓gl3, ↓gi4, ↓gr4, ↓gl4, ↓gi5, ↓gr5, ↓gl5, ↓gi6, ↓gr6, ↓gl6, ↓gi7, ↓gr7, ↓gl7, ↓gi8, ↓gr8, ↓gl8, ↓gi9, ↓gr9, ↓gl9, ↓qI, ↓qI2, ↓qL, ↓qL2, ↓qR, ↓qV, ↓pd0, ↓ta0, ↓ts0, ↓pd1, ↓ta1, ↓ts1, ↓pd2, ↓ta2, ↓ts2, ↓pd3, ↓ta3, ↓ts3, ↓pd4, ↓ta4, ↓ts4, ↓pd5, ↓ta5, ↓ts5, ↓pd6, ↓ta6, ↓ts6, lGet, lSet, okS, isLg, Bool.not_false, Bool.not_true, Bool.false_eq_true, not_false_eq_true, not_true_eq_false, catS, okR1, okR20, okR21, okR2b, List.length_cons, List.length_nil, List.drop_succ_cons, List.drop_zero, List.drop_nil, and_self, true_and, and_true, false_and, and_false, Nat.reduceAdd, Nat.reduceLeDiff, Nat.zero_add, Nat.le_refl, Nat.zero_le, pushR, reduceCtorEq, or_self, or_false, false_or, true_or, or_true, ltT, ltF, leT, leF, eqF, eqT, lt0F, ge0T, le0T, le0F, eq0T, eq0F, gt0T, gt0F, nI_add, nI_1, pk_mul, subT, sub1, divT, remN, natRem, n2, n3, n4, n5, n6, n7, n8, n9, n10, n12, n16, n22, n23, n24, n40, n48, n57, n60, n97, n99, n100, n119, n120, n238, n357, n999, n9999, n2231, Int32.add_zero, bI_t, bI_f, one_ne, K2, ↓G2_0, ↓G2_1, ↓G2_2, ↓G2_3, ↓G2_4, ↓G2_5, ↓G2_6, ↓G2_7, ↓G2_8, ↓G2_9, ↓G2_10, ↓G2_11, ↓G2_12, ↓U2_12, ↓G2_13, ↓U2_13, ↓U2_11, K3, ↓G3_0, ↓G3_1, ↓G3_2, ↓I4, ↓S4, ↓A6, ↓IR, ↓SR, ↓bnd w1, ↓bnd w2, ↓bnd m1, ↓bnd m2, hla, hlb, ↓bnd f1, ↓bnd f2, ↓bnd cp, ↓bnd k4]
  · exact (hI.rws hr' fr).stt
theorem cs_feed (d : Nat) {A : AS} (hI : InvC s A) (hG : Gd A) (x : Int32) : ∃ s', EvM (d + 2) 90 [.ref 2, .int x] (mkH scr s) = some ((oFeed x A).1, mkH scr s') ∧ InvC s' (oFeed x A).2 ∧ FrHi s s' := by
  obtain ⟨rw_, tp, fl, st, q⟩ := A
  have hT : TPc s tp := hI.2.1
  have h1 := hT.1
  have h120 := hT.2.1
  have w1 : EvM (d + 1) 121 [.int x, .int 0, .int 255] (mkH scr s) = some (bI (inR x 0 255), mkH scr s) := c_withinN d x 0 255
  rw [ev90, e90_0]
  cases g1 : inR x 0 255
  · rw [g1] at w1
    refine ⟨s, ?_, ?_, FrHi.rf s⟩ <;> simp only [oFeed, g1, Bool.false_eq_true, if_false, bad]
    · simp (disch := omega) only [e90_0, e90_1, e90_2, e90_5, e90_8, e90_11, e90_13, e90_14, e90_15, e90_18, e90_21, e90_23, e90_26, e90_28, e90_31, e90_32, e90_35, e90_36, e90_39, ↓reduceIte, ↓gi0, ↓gr0, ↓gl0, ↓gi1, ↓gr1, ↓gl1, ↓gi2, ↓gr2, ↓gl2, ↓gi3, ↓gr3, ↓gl3, ↓gi4, ↓gr4, ↓gl4, ↓gi5, ↓gr5, ↓gl5, ↓gi6, ↓gr6, ↓gl6, ↓gi7, ↓gr7, ↓gl7, ↓gi8, ↓gr8, ↓gl8, ↓gi9, ↓gr9, ↓gl9, ↓qI, ↓qI2, ↓qL, ↓qL2, ↓qR, ↓qV, ↓pd0, ↓ta0, ↓ts0, ↓pd1, ↓ta1, ↓ts1, ↓pd2, ↓ta2, ↓ts2, ↓pd3, ↓ta3, ↓ts3, ↓pd4, ↓ta4, ↓ts4, ↓pd5, ↓ta5, ↓ts5, ↓pd6, ↓ta6, ↓ts6, lGet, lSet, okS, isLg, Bool.not_false, Bool.not_true, Bool.false_eq_true, not_false_eq_true, not_true_eq_false, catS, okR1, okR20, okR21, okR2b, List.length_cons, List.length_nil, List.drop_succ_cons, List.drop_zero, List.drop_nil, and_self, true_and, and_true, false_and, and_false, Nat.reduceAdd, Nat.reduceLeDiff, Nat.zero_add, Nat.le_refl, Nat.zero_le, pushR, reduceCtorEq, or_self, or_false, false_or, true_or, or_true, ltT, ltF, leT, leF, eqF, eqT, lt0F, ge0T, le0T, le0F, eq0T, eq0F, gt0T, gt0F, nI_add, nI_1, pk_mul, subT, sub1, divT, remN, natRem, n2, n3, n4, n5, n6, n7, n8, n9, n10, n12, n16, n22, n23, n24, n40, n48, n57, n60, n97, n99, n100, n119, n120, n238, n357, n999, n9999, n2231, Int32.add_zero, bI_t, bI_f, one_ne, K2, ↓G2_0, ↓G2_1, ↓G2_2, ↓G2_3, ↓G2_4, ↓G2_5, ↓G2_6, ↓G2_7, ↓G2_8, ↓G2_9, ↓G2_10, ↓G2_11, ↓G2_12, ↓U2_12, ↓G2_13, ↓U2_13, ↓U2_11, K15, ↓G15_0, ↓G15_1, ↓U15_1, ↓G15_2, ↓U15_2, ↓G15_3, ↓U15_3, ↓G15_4, ↓U15_4, ↓G15_5, ↓U15_5, ↓bnd w1]
    · exact hI
  rw [g1] at w1
  by_cases g2 : 120 ≤ tp.length
  · refine ⟨s, ?_, ?_, FrHi.rf s⟩ <;> simp only [oFeed, g1, g2, if_true]
    · simp (disch := omega) only [e90_0, e90_1, e90_2, e90_5, e90_8, e90_11, e90_13, e90_14, e90_15, e90_18, e90_21, e90_23, e90_26, e90_28, e90_31, e90_32, e90_35, e90_36, e90_39, ↓reduceIte, ↓gi0, ↓gr0, ↓gl0, ↓gi1, ↓gr1, ↓gl1, ↓gi2, ↓gr2, ↓gl2, ↓gi3, ↓gr3, ↓gl3, ↓gi4, ↓gr4, ↓gl4, ↓gi5, ↓gr5, ↓gl5, ↓gi6, ↓gr6, ↓gl6, ↓gi7, ↓gr7, ↓gl7, ↓gi8, ↓gr8, ↓gl8, ↓gi9, ↓gr9, ↓gl9, ↓qI, ↓qI2, ↓qL, ↓qL2, ↓qR, ↓qV, ↓pd0, ↓ta0, ↓ts0, ↓pd1, ↓ta1, ↓ts1, ↓pd2, ↓ta2, ↓ts2, ↓pd3, ↓ta3, ↓ts3, ↓pd4, ↓ta4, ↓ts4, ↓pd5, ↓ta5, ↓ts5, ↓pd6, ↓ta6, ↓ts6, lGet, lSet, okS, isLg, Bool.not_false, Bool.not_true, Bool.false_eq_true, not_false_eq_true, not_true_eq_false, catS, okR1, okR20, okR21, okR2b, List.length_cons, List.length_nil, List.drop_succ_cons, List.drop_zero, List.drop_nil, and_self, true_and, and_true, false_and, and_false, Nat.reduceAdd, Nat.reduceLeDiff, Nat.zero_add, Nat.le_refl, Nat.zero_le, pushR, reduceCtorEq, or_self, or_false, false_or, true_or, or_true, ltT, ltF, leT, leF, eqF, eqT, lt0F, ge0T, le0T, le0F, eq0T, eq0F, gt0T, gt0F, nI_add, nI_1, pk_mul, subT, sub1, divT, remN, natRem, n2, n3, n4, n5, n6, n7, n8, n9, n10, n12, n16, n22, n23, n24, n40, n48, n57, n60, n97, n99, n100, n119, n120, n238, n357, n999, n9999, n2231, Int32.add_zero, bI_t, bI_f, one_ne, K2, ↓G2_0, ↓G2_1, ↓G2_2, ↓G2_3, ↓G2_4, ↓G2_5, ↓G2_6, ↓G2_7, ↓G2_8, ↓G2_9, ↓G2_10, ↓G2_11, ↓G2_12, ↓U2_12, ↓G2_13, ↓U2_13, ↓U2_11, K15, ↓G15_0, ↓G15_1, ↓U15_1, ↓G15_2, ↓U15_2, ↓G15_3, ↓U15_3, ↓G15_4, ↓U15_4, ↓G15_5, ↓U15_5, ↓bnd w1, h1]
    · exact hI
  obtain ⟨k, hk1, hk2, rfl⟩ := inR_of (by decide) (by decide) g1
  have ek : (nI k).toNatClampNeg = k := nI_clamp (by omega)
  have a1 : EvM (d + 1) 76 [.ref 15, .int (nI k)] (mkH scr s) = some (nI (tp.length + 1), mkH scr (u2 (u2 s 16 tp.length (nI k)) 15 1 (nI (tp.length + 1)))) := by
    have e1 : (u2 s 16 tp.length (nI k)).1 15 1 = nI tp.length := by rw [u2_oth _ _ (by omega)]; exact h1
    rw [ev76, e76_0]
    simp (disch := omega) only [e76_0, e76_1, e76_4, e76_5, e76_8, e76_9, e76_10, e76_11, e76_12, e76_15, e76_16, e76_17, e76_20, e76_21, e76_24, ↓reduceIte, ↓gi0, ↓gr0, ↓gl0, ↓gi1, ↓gr1, ↓gl1, ↓gi2, ↓gr2, ↓gl2, ↓gi3, ↓gr3, ↓gl3, ↓gi4, ↓gr4, ↓gl4, ↓gi5, ↓gr5, ↓gl5, ↓gi6, ↓gr6, ↓gl6, ↓gi7, ↓gr7, ↓gl7, ↓gi8, ↓gr8, ↓gl8, ↓gi9, ↓gr9, ↓gl9, ↓qI, ↓qI2, ↓qL, ↓qL2, ↓qR, ↓qV, ↓pd0, ↓ta0, ↓ts0, ↓pd1, ↓ta1, ↓ts1, ↓pd2, ↓ta2, ↓ts2, ↓pd3, ↓ta3, ↓ts3, ↓pd4, ↓ta4, ↓ts4, ↓pd5, ↓ta5, ↓ts5, ↓pd6, ↓ta6, ↓ts6, lGet, lSet, okS, isLg, Bool.not_false, Bool.not_true, Bool.false_eq_true, not_false_eq_true, not_true_eq_false, catS, okR1, okR20, okR21, okR2b, List.length_cons, List.length_nil, List.drop_succ_cons, List.drop_zero, List.drop_nil, and_self, true_and, and_true, false_and, and_false, Nat.reduceAdd, Nat.reduceLeDiff, Nat.zero_add, Nat.le_refl, Nat.zero_le, pushR, reduceCtorEq, or_self, or_false, false_or, true_or, or_true, ltT, ltF, leT, leF, eqF, eqT, lt0F, ge0T, le0T, le0F, eq0T, eq0F, gt0T, gt0F, nI_add, nI_1, pk_mul, subT, sub1, divT, remN, natRem, K15, ↓G15_0, ↓G15_1, ↓U15_1, ↓G15_2, ↓U15_2, ↓G15_3, ↓U15_3, ↓G15_4, ↓U15_4, ↓G15_5, ↓U15_5, ↓I16, ↓S16, h1, e1, u2_same]
  have fr : ∀ a k', ¬ (a = 15 ∧ k' = 1) → a ≠ 16 → (u2 (u2 s 16 tp.length (nI k)) 15 1 (nI (tp.length + 1))).1 a k' = s.1 a k' := fun a k' x y => by rw [u2_oth _ _ (by omega), u2_oth _ _ (by omega)]
  refine ⟨_, ?_, ?_, fun a k' x => fr a k' (by omega) (by omega)⟩ <;> simp only [oFeed, g1, g2, if_true, if_false, ek, cl]
  · simp (disch := omega) only [e90_0, e90_1, e90_2, e90_5, e90_8, e90_11, e90_13, e90_14, e90_15, e90_18, e90_21, e90_23, e90_26, e90_28, e90_31, e90_32, e90_35, e90_36, e90_39, ↓reduceIte, ↓gi0, ↓gr0, ↓gl0, ↓gi1, ↓gr1, ↓gl1, ↓gi2, ↓gr2, ↓gl2, ↓gi3, ↓gr3, ↓gl3, ↓gi4, ↓gr4, ↓gl4, ↓gi5, ↓gr5, ↓gl5, ↓gi6, ↓gr6, ↓gl6, ↓gi7, ↓gr7, ↓gl7, ↓gi8, ↓gr8, ↓gl8, ↓gi9, ↓gr9, ↓gl9, ↓qI, ↓qI2, ↓qL, ↓qL2, ↓qR, ↓qV, ↓pd0, ↓ta0, ↓ts0, ↓pd1, ↓ta1, ↓ts1, ↓pd2, ↓ta2, ↓ts2, ↓pd3, ↓ta3, ↓ts3, ↓pd4, ↓ta4, ↓ts4, ↓pd5, ↓ta5, ↓ts5, ↓pd6, ↓ta6, ↓ts6, lGet, lSet, okS, isLg, Bool.not_false, Bool.not_true, Bool.false_eq_true, not_false_eq_true, not_true_eq_false, catS, okR1, okR20, okR21, okR2b, List.length_cons, List.length_nil, List.drop_succ_cons, List.drop_zero, List.drop_nil, and_self, true_and, and_true, false_and, and_false, Nat.reduceAdd, Nat.reduceLeDiff, Nat.zero_add, Nat.le_refl, Nat.zero_le, pushR, reduceCtorEq, or_self, or_false, false_or, true_or, or_true, ltT, ltF, leT, leF, eqF, eqT, lt0F, ge0T, le0T, le0F, eq0T, eq0F, gt0T, gt0F, nI_add, nI_1, pk_mul, subT, sub1, divT, remN, natRem, n2, n3, n4, n5, n6, n7, n8, n9, n10, n12, n16, n22, n23, n24, n40, n48, n57, n60, n97, n99, n100, n119, n120, n238, n357, n999, n9999, n2231, Int32.add_zero, bI_t, bI_f, one_ne, K2, ↓G2_0, ↓G2_1, ↓G2_2, ↓G2_3, ↓G2_4, ↓G2_5, ↓G2_6, ↓G2_7, ↓G2_8, ↓G2_9, ↓G2_10, ↓G2_11, ↓G2_12, ↓U2_12, ↓G2_13, ↓U2_13, ↓U2_11, K15, ↓G15_0, ↓G15_1, ↓U15_1, ↓G15_2, ↓U15_2, ↓G15_3, ↓U15_3, ↓G15_4, ↓U15_4, ↓G15_5, ↓U15_5, ↓bnd w1, h1, ↓bnd a1]
  · obtain ⟨h1, h2, h3, h4, h5, h6, h7, h8, h9, h10⟩ := hI
    refine ⟨h1.ext (fun a k x y => fr _ _ (by omega) (by omega)), ⟨?_, ?_, fun i hi => ?_⟩, ?_, ?_, ?_, CR_ext h6 (fun a k x y => fr _ _ (by omega) (by omega)), h7.ext (fun a k x y => fr _ _ (by omega) (by omega)), h8.ext (fun a k x y => fr _ _ (by omega) (by omega)), h9.ext (fun a k x y => fr _ _ (by omega) (by omega)), fun i hi => ?_⟩
    · rw [u2_same]; simp
    · simp; omega
    · simp only [List.length_append, List.length_singleton] at hi
      rw [u2_oth _ _ (by omega)]
      by_cases e : i = tp.length
      · subst e
        rw [u2_same]
        simp
        omega
      · rw [u2_oth _ _ (by omega)]
        simp only [gD_lt (show i < tp.length by omega)]
        exact h2.2.2 i (show i < tp.length by omega)
    · rw [fr _ _ (by omega) (by omega)]; exact h3
    · rw [fr _ _ (by omega) (by omega)]; exact h4
    · rw [fr _ _ (by omega) (by omega)]; exact h5
    · rw [fr _ _ (by omega) (by omega)]; exact h10 i hi
theorem cs_county (d : Nat) {A : AS} (hI : InvC s A) (hG : Gd A) : ∃ s', EvM (d + 5) 91 [.ref 2] (mkH scr s) = some ((oCounty A).1, mkH scr s') ∧ InvC s' (oCounty A).2 ∧ FrHi s s' := by
  obtain ⟨rw_, tp, fl, st, hs, c, im, pa, tr⟩ := A
  have hT : TPc s tp := hI.2.1
  obtain ⟨s1, a1, a2, a3, a4⟩ := c_readInto d (scr := scr) hT
  have nil : ∀ {x : ST}, x.1 15 1 = 0 → TPc x [] := fun h => ⟨h, by simp, fun i hi => absurd hi (by simp)⟩
  rw [ev91, e91_0]
  by_cases g1 : (rCty tp).1 = 0
  case neg =>
    rw [decide_eq_false g1] at a1
    obtain ⟨b1, b2⟩ := a4 g1
    have q2 : (u2 s1 15 1 0).1 15 2 = nI (rCty tp).1 := by rw [u2_oth _ _ (by omega)]; exact b1
    have q3 : (u2 (u2 s1 15 1 0) 2 12 (nI (rCty tp).1)).1 15 3 = nI (rCty tp).2.1 := by rw [u2_oth _ _ (by omega), u2_oth _ _ (by omega)]; exact b2
    have fr : ∀ a k, ¬ (a = 15) → ¬ (a = 2 ∧ k = 12) → ¬ (551 ≤ a ∧ a < 571) → (u2 (u2 s1 15 1 0) 2 12 (nI (rCty tp).1)).1 a k = s.1 a k := fun a k x y z => by rw [u2_oth _ _ (by omega), u2_oth _ _ (by omega), a2.2 a k (by omega) (by omega)]
    refine ⟨_, ?_, ?_, fun a k x => fr a k (by omega) (by omega) (by omega)⟩ <;> simp only [oCounty, g1, if_false]
    · simp (disch := omega) only [e91_0, e91_1, e91_4, e91_5, e91_8, e91_11, e91_12, e91_13, e91_16, e91_17, e91_20, e91_21, e91_24, e91_25, e91_26, e91_29, e91_32, e91_35, e91_37, e91_38, e91_41, e91_44, e91_45, e91_46, e91_47, e91_50, e91_51, e91_54, e91_57, e91_58, e91_59, e91_62, e91_63, e91_66, e91_67, e91_70, e91_71, e91_74, e91_77, ↓reduceIte, ↓gi0, ↓gr0, ↓gl0, ↓gi1, ↓gr1, ↓gl1, ↓gi2, ↓gr2, ↓gl2, ↓gi3, ↓gr3, ↓gl3, ↓gi4, ↓gr4, ↓gl4, ↓gi5, ↓gr5, ↓gl5, ↓gi6, ↓gr6, ↓gl6, ↓gi7, ↓gr7, ↓gl7, ↓gi8, ↓gr8, ↓gl8, ↓gi9, ↓gr9, ↓gl9, ↓qI, ↓qI2, ↓qL, ↓qL2, ↓qR, ↓qV, ↓pd0, ↓ta0, ↓ts0, ↓pd1, ↓ta1, ↓ts1, ↓pd2, ↓ta2, ↓ts2, ↓pd3, ↓ta3, ↓ts3, ↓pd4, ↓ta4, ↓ts4, ↓pd5, ↓ta5, ↓ts5, ↓pd6, ↓ta6, ↓ts6, lGet, lSet, okS, isLg, Bool.not_false, Bool.not_true, Bool.false_eq_true, not_false_eq_true, not_true_eq_false, catS, okR1, okR20, okR21, okR2b, List.length_cons, List.length_nil, List.drop_succ_cons, List.drop_zero, List.drop_nil, and_self, true_and, and_true, false_and, and_false, Nat.reduceAdd, Nat.reduceLeDiff, Nat.zero_add, Nat.le_refl, Nat.zero_le, pushR, reduceCtorEq, or_self, or_false, false_or, true_or, or_true, ltT, ltF, leT, leF, eqF, eqT, lt0F, ge0T, le0T, le0F, eq0T, eq0F, gt0T, gt0F, nI_add, nI_1, pk_mul, subT, sub1, divT, remN, natRem, n2, n3, n4, n5, n6, n7, n8, n9, n10, n12, n16, n22, n23, n24, n40, n48, n57, n60, n97, n99, n100, n119, n120, n238, n357, n999, n9999, n2231, Int32.add_zero, bI_t, bI_f, one_ne, K2, ↓G2_0, ↓G2_1, ↓G2_2, ↓G2_3, ↓G2_4, ↓G2_5, ↓G2_6, ↓G2_7, ↓G2_8, ↓G2_9, ↓G2_10, ↓G2_11, ↓G2_12, ↓U2_12, ↓G2_13, ↓U2_13, ↓U2_11, K15, ↓G15_0, ↓G15_1, ↓U15_1, ↓G15_2, ↓U15_2, ↓G15_3, ↓U15_3, ↓G15_4, ↓U15_4, ↓G15_5, ↓U15_5, ↓bnd a1, q2, q3]
    · obtain ⟨h1, h2, h3, h4, h5, h6, h7, h8, h9, h10⟩ := hI
      refine ⟨h1.ext (fun a k x y => fr _ _ (by omega) (by omega) (by omega)), nil (by rw [u2_oth _ _ (by omega), u2_same]), u2_same _ _ _ _, ?_, ?_, CR_ext h6 (fun a k x y => fr _ _ (by omega) (by omega) (by omega)), h7.ext (fun a k x y => fr _ _ (by omega) (by omega) (by omega)), h8.ext (fun a k x y => fr _ _ (by omega) (by omega) (by omega)), h9.ext (fun a k x y => fr _ _ (by omega) (by omega) (by omega)), fun i hi => ?_⟩
      · rw [fr _ _ (by omega) (by omega) (by omega)]; exact h4
      · rw [fr _ _ (by omega) (by omega) (by omega)]; exact h5
      · rw [fr _ _ (by omega) (by omega) (by omega)]; exact h10 i hi
  rw [decide_eq_true g1] at a1
  have c1 : CR (u2 s1 15 1 0) 551 (rCty tp).2.2 := CR_ext (a3 g1) (fun a k x y => u2_oth _ _ (by omega))
  obtain ⟨s2, b1, b2, b3⟩ := c_cCopy (d + 2) (scr := scr) cty531 cty551 (by omega) c1
  have fr : ∀ a k, ¬ (a = 15) → ¬ (a = 2 ∧ k = 11) → ¬ (531 ≤ a ∧ a < 571) → a ≠ 17 → (u2 (u2 s2 2 11 1) 17 2 0).1 a k = s.1 a k := fun a k x y z w => by rw [u2_oth _ _ (by omega), u2_oth _ _ (by omega), b3.2.1 a k (by omega), u2_oth _ _ (by omega), a2.2 a k (by omega) (by omega)]
  have q3 : (u2 (u2 s2 2 11 1) 17 2 0).1 531 3 = nI (rCty tp).2.2.2.2.2.1 := by rw [u2_oth _ _ (by omega), u2_oth _ _ (by omega)]; exact b2.2.2.2.1
  refine ⟨_, ?_, ?_, fun a k x => fr a k (by omega) (by omega) (by omega) (by omega)⟩ <;> simp only [oCounty, g1, if_true]
  · simp (disch := omega) only [e91_0, e91_1, e91_4, e91_5, e91_8, e91_11, e91_12, e91_13, e91_16, e91_17, e91_20, e91_21, e91_24, e91_25, e91_26, e91_29, e91_32, e91_35, e91_37, e91_38, e91_41, e91_44, e91_45, e91_46, e91_47, e91_50, e91_51, e91_54, e91_57, e91_58, e91_59, e91_62, e91_63, e91_66, e91_67, e91_70, e91_71, e91_74, e91_77, ↓reduceIte, ↓gi0, ↓gr0, ↓gl0, ↓gi1, ↓gr1, ↓gl1, ↓gi2, ↓gr2, ↓gl2, ↓gi3, ↓gr3, ↓gl3, ↓gi4, ↓gr4, ↓gl4, ↓gi5, ↓gr5, ↓gl5, ↓gi6, ↓gr6, ↓gl6, ↓gi7, ↓gr7, ↓gl7, ↓gi8, ↓gr8, ↓gl8, ↓gi9, ↓gr9, ↓gl9, ↓qI, ↓qI2, ↓qL, ↓qL2, ↓qR, ↓qV, ↓pd0, ↓ta0, ↓ts0, ↓pd1, ↓ta1, ↓ts1, ↓pd2, ↓ta2, ↓ts2, ↓pd3, ↓ta3, ↓ts3, ↓pd4, ↓ta4, ↓ts4, ↓pd5, ↓ta5, ↓ts5, ↓pd6, ↓ta6, ↓ts6, lGet, lSet, okS, isLg, Bool.not_false, Bool.not_true, Bool.false_eq_true, not_false_eq_true, not_true_eq_false, catS, okR1, okR20, okR21, okR2b, List.length_cons, List.length_nil, List.drop_succ_cons, List.drop_zero, List.drop_nil, and_self, true_and, and_true, false_and, and_false, Nat.reduceAdd, Nat.reduceLeDiff, Nat.zero_add, Nat.le_refl, Nat.zero_le, pushR, reduceCtorEq, or_self, or_false, false_or, true_or, or_true, ltT, ltF, leT, leF, eqF, eqT, lt0F, ge0T, le0T, le0F, eq0T, eq0F, gt0T, gt0F, nI_add, nI_1, pk_mul, subT, sub1, divT, remN, natRem, n2, n3, n4, n5, n6, n7, n8, n9, n10, n12, n16, n22, n23, n24, n40, n48, n57, n60, n97, n99, n100, n119, n120, n238, n357, n999, n9999, n2231, Int32.add_zero, bI_t, bI_f, one_ne, K2, ↓G2_0, ↓G2_1, ↓G2_2, ↓G2_3, ↓G2_4, ↓G2_5, ↓G2_6, ↓G2_7, ↓G2_8, ↓G2_9, ↓G2_10, ↓G2_11, ↓G2_12, ↓U2_12, ↓G2_13, ↓U2_13, ↓U2_11, K15, ↓G15_0, ↓G15_1, ↓U15_1, ↓G15_2, ↓U15_2, ↓G15_3, ↓U15_3, ↓G15_4, ↓U15_4, ↓G15_5, ↓U15_5, K17, ↓G17_0, ↓G17_1, ↓U17_1, ↓G17_2, ↓U17_2, ↓nw_a, ↓nw_l, kN, k531, ↓nw_g 0 (by decide), ↓nw_g 1 (by decide), ↓nw_g 2 (by decide), ↓nw_g 3 (by decide), ↓U2_11, ↓bnd a1, ↓bnd b1, q3]
  · obtain ⟨h1, h2, h3, h4, h5, h6, h7, h8, h9, h10⟩ := hI
    obtain ⟨nx, n1, n2_, n3_, n4_, n5_⟩ := h8
    refine ⟨h1.ext (fun a k x y => fr _ _ (by omega) (by omega) (by omega) (by omega)), nil ?_, ?_, ?_, ?_, CR_ext b2 (fun a k x y => by rw [u2_oth _ _ (by omega), u2_oth _ _ (by omega)]), h7.ext (fun a k x y => fr _ _ (by omega) (by omega) (by omega) (by omega)), ⟨nx, n1, ?_, u2_same _ _ _ _, by simp, fun q c hq => by simp at hq⟩, h9.ext (fun a k x y => fr _ _ (by omega) (by omega) (by omega) (by omega)), fun i hi => ?_⟩
    · rw [u2_oth _ _ (by omega), u2_oth _ _ (by omega), b3.2.1 _ _ (by omega), u2_same]
    · rw [fr _ _ (by omega) (by omega) (by omega) (by omega)]; exact h3
    · rw [fr _ _ (by omega) (by omega) (by omega) (by omega)]; exact h4
    · rw [u2_oth _ _ (by omega), u2_same]; rfl
    · rw [u2_oth _ _ (by omega), u2_oth _ _ (by omega), b3.2.1 _ _ (by omega), u2_oth _ _ (by omega), a2.2 _ _ (by omega) (by omega)]; exact n2_
    · rw [u2_oth _ _ (by omega), u2_oth _ _ (by omega), show 533 + 3 * i = 531 + 2 + 3 * i from rfl, b3.2.2 i hi, u2_oth _ _ (by omega), a2.2 _ _ (by omega) (by omega)]; exact h10 i hi
theorem cs_fault (d : Nat) {A : AS} (hI : InvC s A) : EvM (d + 1) 92 [.ref 2] (mkH scr s) = some (nI A.2.2.1, mkH scr s) := by
  rw [ev92, e92_0]
  simp (disch := omega) only [e92_0, e92_1, e92_4, ↓reduceIte, ↓gi0, ↓gr0, ↓gl0, ↓gi1, ↓gr1, ↓gl1, ↓gi2, ↓gr2, ↓gl2, ↓gi3, ↓gr3, ↓gl3, ↓gi4, ↓gr4, ↓gl4, ↓gi5, ↓gr5, ↓gl5, ↓gi6, ↓gr6, ↓gl6, ↓gi7, ↓gr7, ↓gl7, ↓gi8, ↓gr8, ↓gl8, ↓gi9, ↓gr9, ↓gl9, ↓qI, ↓qI2, ↓qL, ↓qL2, ↓qR, ↓qV, ↓pd0, ↓ta0, ↓ts0, ↓pd1, ↓ta1, ↓ts1, ↓pd2, ↓ta2, ↓ts2, ↓pd3, ↓ta3, ↓ts3, ↓pd4, ↓ta4, ↓ts4, ↓pd5, ↓ta5, ↓ts5, ↓pd6, ↓ta6, ↓ts6, lGet, lSet, okS, isLg, Bool.not_false, Bool.not_true, Bool.false_eq_true, not_false_eq_true, not_true_eq_false, catS, okR1, okR20, okR21, okR2b, List.length_cons, List.length_nil, List.drop_succ_cons, List.drop_zero, List.drop_nil, and_self, true_and, and_true, false_and, and_false, Nat.reduceAdd, Nat.reduceLeDiff, Nat.zero_add, Nat.le_refl, Nat.zero_le, pushR, reduceCtorEq, or_self, or_false, false_or, true_or, or_true, K2, ↓G2_0, ↓G2_1, ↓G2_2, ↓G2_3, ↓G2_4, ↓G2_5, ↓G2_6, ↓G2_7, ↓G2_8, ↓G2_9, ↓G2_10, ↓G2_11, ↓G2_12, ↓U2_12, ↓G2_13, ↓U2_13, ↓U2_11, hI.2.2.1]
theorem cs_status (d : Nat) {A : AS} (hI : InvC s A) : EvM (d + 1) 120 [.ref 2] (mkH scr s) = some (A.2.2.2.1, mkH scr s) := by
  rw [ev120, e120_0]
  simp (disch := omega) only [e120_0, e120_1, e120_4, ↓reduceIte, ↓gi0, ↓gr0, ↓gl0, ↓gi1, ↓gr1, ↓gl1, ↓gi2, ↓gr2, ↓gl2, ↓gi3, ↓gr3, ↓gl3, ↓gi4, ↓gr4, ↓gl4, ↓gi5, ↓gr5, ↓gl5, ↓gi6, ↓gr6, ↓gl6, ↓gi7, ↓gr7, ↓gl7, ↓gi8, ↓gr8, ↓gl8, ↓gi9, ↓gr9, ↓gl9, ↓qI, ↓qI2, ↓qL, ↓qL2, ↓qR, ↓qV, ↓pd0, ↓ta0, ↓ts0, ↓pd1, ↓ta1, ↓ts1, ↓pd2, ↓ta2, ↓ts2, ↓pd3, ↓ta3, ↓ts3, ↓pd4, ↓ta4, ↓ts4, ↓pd5, ↓ta5, ↓ts5, ↓pd6, ↓ta6, ↓ts6, lGet, lSet, okS, isLg, Bool.not_false, Bool.not_true, Bool.false_eq_true, not_false_eq_true, not_true_eq_false, catS, okR1, okR20, okR21, okR2b, List.length_cons, List.length_nil, List.drop_succ_cons, List.drop_zero, List.drop_nil, and_self, true_and, and_true, false_and, and_false, Nat.reduceAdd, Nat.reduceLeDiff, Nat.zero_add, Nat.le_refl, Nat.zero_le, pushR, reduceCtorEq, or_self, or_false, false_or, true_or, or_true, K2, ↓G2_0, ↓G2_1, ↓G2_2, ↓G2_3, ↓G2_4, ↓G2_5, ↓G2_6, ↓G2_7, ↓G2_8, ↓G2_9, ↓G2_10, ↓G2_11, ↓G2_12, ↓U2_12, ↓G2_13, ↓U2_13, ↓U2_11, hI.2.2.2.1]
end CSR
