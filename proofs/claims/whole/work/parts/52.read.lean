/-! ===== Tape: the law, persons, a county ===== -/
def FrL1 (s s' : ST) : Prop := s'.2 = s.2 ∧ ∀ a k, ¬ (a = 15 ∧ 2 ≤ k ∧ k < 6) → ¬ (a = 551 ∧ k < 2) → s'.1 a k = s.1 a k
theorem FrL1.tr {s s1 s2 : ST} (h : FrL1 s s1) (g : FrL1 s1 s2) : FrL1 s s2 := ⟨g.1.trans h.1, fun a k x y => (g.2 a k x y).trans (h.2 a k x y)⟩
theorem FrA.l1 {s s1 : ST} (h : FrA s s1 15 2 6) : FrL1 s s1 := ⟨h.1, fun a k x _ => h.2 a k x⟩
theorem FrL1.u {s : ST} {k : Nat} {x : Int32} (hk : k < 2) : FrL1 s (u2 s 551 k x) := ⟨rfl, fun a k' _ y => u2_oth _ _ (by omega)⟩
theorem FrL1.tp {s s' : ST} {tp : List Nat} (h : TPc s tp) (g : FrL1 s s') : TPc s' tp := h.ext (g.2 15 1 (by omega) (by omega)) (fun k => g.2 16 k (by omega) (by omega))
theorem rNB_ok {tp : List Nat} {p lo hi c : Nat} (h : (rNum tp p lo hi).1 = 0) : rNB tp p lo hi c = ((rByte tp (rNum tp p lo hi).2.1 c).1, (rByte tp (rNum tp p lo hi).2.1 c).2, (rNum tp p lo hi).2.2) := if_pos h
theorem rNB_no {tp : List Nat} {p lo hi c : Nat} (h : ¬ (rNum tp p lo hi).1 = 0) : rNB tp p lo hi c = rNum tp p lo hi := if_neg h
theorem TPc_u {s : ST} {tp : List Nat} {a k : Nat} {x : Int32} (h : TPc s tp) (ha : ¬ (a = 15 ∧ k = 1)) (h2 : a ≠ 16) : TPc (u2 s a k x) tp := h.ext (u2_oth _ _ (by omega)) (fun j => u2_oth _ _ (by omega))
section RD
variable {scr : Nat × (Nat → Int32)} {s : ST} {tp : List Nat}
theorem sc_p (k : Nat) (hk : k < 4) (s : ST) (x : Int32) {ρ : Type} (f : Hp → Option ρ) : (putF (mkH scr s) 2 k 551 (.int x)).bind f = f (mkH scr (u2 s 551 k x)) := cty_pb cty551 k hk s x f
theorem sc_g (k : Nat) (hk : k < 4) (s : ST) {ρ : Type} (f : Value → Option ρ) : (getF (mkH scr s) 2 k 551).bind f = f (.int (s.1 551 k)) := cty_gb cty551 k hk s f
theorem ps_p (k : Nat) (hk : k < 8) (s : ST) (x : Int32) {ρ : Type} (f : Hp → Option ρ) {i : Nat} (hi : i < 6) : (putF (mkH scr s) 4 k (553 + 3 * i) (.int x)).bind f = f (mkH scr (u2 s (553 + 3 * i) k x)) := per_pb (perS hi) k hk s x f
theorem n121 : (121 : Int32) = nI 121 := by decide
theorem n44 : (44 : Int32) = nI 44 := by decide
theorem n59 : (59 : Int32) = nI 59 := by decide
theorem n30 : (30 : Int32) = nI 30 := by decide
theorem c_readLaw (d : Nat) (hT : TPc s tp) (h4 : s.1 15 4 = nI 0) : ∃ s', EvM (d + 3) 78 [.ref 15, .ref 551] (mkH scr s) = some (bI (decide ((rLaw tp).1 = 0)), mkH scr s') ∧ FrL1 s s' ∧ s'.1 15 4 = nI (rLaw tp).2.1 ∧ ((rLaw tp).1 = 0 → s'.1 551 0 = nI (rLaw tp).2.2.1 ∧ s'.1 551 1 = nI (rLaw tp).2.2.2) ∧ ((rLaw tp).1 ≠ 0 → s'.1 15 2 = nI (rLaw tp).1 ∧ s'.1 15 3 = nI (rLaw tp).2.1) := by
  obtain ⟨s1, a1, f1, t1⟩ := c_readByte d (scr := scr) (c := 121) hT h4 (Nat.zero_le _) (by decide) rfl
  have l1 := rByte_le (tp := tp) (c := 121) (Nat.zero_le tp.length)
  rw [ev78, e78_0]
  by_cases c1 : (rByte tp 0 121).1 = 0
  · rw [decide_eq_true c1] at a1
    have T1 := hT.fr f1
    obtain ⟨s2, a2, f2, t2⟩ := c_readNumber d (scr := scr) (lo := 1) (hi := 24) T1 t1.1 l1.1 (by decide) (by decide)
    have l2 := rNum_le (lo := 1) (hi := 24) l1.1
    have i1 : EvM (d + 2) 83 [.ref 15, .int 1, .int (nI 24)] (mkH scr s1) = _ := a2
    by_cases c2 : (rNum tp (rByte tp 0 121).2 1 24).1 = 0
    · rw [decide_eq_true c2] at i1
      have T2 := (T1.fr f2)
      have e5 := t2.2.1 c2
      have T3 : TPc (u2 s2 551 0 (nI (rNum tp (rByte tp 0 121).2 1 24).2.2)) tp := TPc_u T2 (by omega) (by omega)
      obtain ⟨s3, a3, f3, t3⟩ := c_readByte d (scr := scr) (c := 44) T3 (by rw [u2_oth _ _ (by omega)]; exact t2.1) l2.1 (by decide) rfl
      have l3 := rByte_le (c := 44) l2.1
      have o1 := rNB_ok (c := 44) c2
      by_cases c3 : (rByte tp (rNum tp (rByte tp 0 121).2 1 24).2.1 44).1 = 0
      · rw [decide_eq_true c3] at a3
        have T4 := T3.fr f3
        obtain ⟨s4, a4, f4, t4⟩ := c_readNumber d (scr := scr) (lo := 1) (hi := 30) T4 t3.1 l3.1 (by decide) (by decide)
        have i4 : EvM (d + 2) 83 [.ref 15, .int 1, .int (nI 30)] (mkH scr s3) = _ := a4
        have l4 := rNum_le (lo := 1) (hi := 30) l3.1
        have e51 : s3.1 551 0 = nI (rNum tp (rByte tp 0 121).2 1 24).2.2 := by rw [f3.2 551 0 (by omega), u2_same]
        by_cases c4 : (rNum tp (rByte tp (rNum tp (rByte tp 0 121).2 1 24).2.1 44).2 1 30).1 = 0
        · rw [decide_eq_true c4] at i4
          have o2 := rNB_ok (c := 59) c4
          have T5 : TPc (u2 s4 551 1 (nI (rNum tp (rByte tp (rNum tp (rByte tp 0 121).2 1 24).2.1 44).2 1 30).2.2)) tp := TPc_u (T4.fr f4) (by omega) (by omega)
          have e6 := t4.2.1 c4
          obtain ⟨s5, a5, f5, t5⟩ := c_readByte d (scr := scr) (c := 59) T5 (by rw [u2_oth _ _ (by omega)]; exact t4.1) l4.1 (by decide) rfl
          have hr : rLaw tp = ((rByte tp (rNum tp (rByte tp (rNum tp (rByte tp 0 121).2 1 24).2.1 44).2 1 30).2.1 59).1, (rByte tp (rNum tp (rByte tp (rNum tp (rByte tp 0 121).2 1 24).2.1 44).2 1 30).2.1 59).2, (rNum tp (rByte tp 0 121).2 1 24).2.2, (rNum tp (rByte tp (rNum tp (rByte tp 0 121).2 1 24).2.1 44).2 1 30).2.2) := by
            unfold rLaw
            rw [if_pos c1, o1]
            simp only
            rw [if_pos c3, o2]
          rw [hr]
          refine ⟨s5, ?_, ((f1.l1.tr f2.l1).tr ((FrL1.u (by decide)).tr f3.l1)).tr (f4.l1.tr ((FrL1.u (by decide)).tr f5.l1)), t5.1, fun _ => ⟨?_, ?_⟩, fun z => t5.2.2 z⟩
          · simp (disch := omega) only [e78_0, e78_1, e78_3, e78_6, e78_9, e78_10, e78_11, e78_13, e78_16, e78_19, e78_20, e78_21, e78_22, e78_23, e78_26, e78_29, e78_30, e78_32, e78_35, e78_38, e78_39, e78_40, e78_42, e78_45, e78_48, e78_49, e78_50, e78_51, e78_52, e78_55, e78_58, e78_59, e78_61, e78_64, ↓reduceIte, ↓gi0, ↓gr0, ↓gl0, ↓gi1, ↓gr1, ↓gl1, ↓gi2, ↓gr2, ↓gl2, ↓gi3, ↓gr3, ↓gl3, ↓gi4, ↓gr4, ↓gl4, ↓gi5, ↓gr5, ↓gl5, ↓gi6, ↓gr6, ↓gl6, ↓gi7, ↓gr7, ↓gl7, ↓gi8, ↓gr8, ↓gl8, ↓gi9, ↓gr9, ↓gl9, ↓qI, ↓qI2, ↓qL, ↓qL2, ↓qR, ↓qV, ↓pd0, ↓ta0, ↓ts0, ↓pd1, ↓ta1, ↓ts1, ↓pd2, ↓ta2, ↓ts2, ↓pd3, ↓ta3, ↓ts3, ↓pd4, ↓ta4, ↓ts4, ↓pd5, ↓ta5, ↓ts5, ↓pd6, ↓ta6, ↓ts6, lGet, lSet, okS, isLg, Bool.not_false, Bool.not_true, Bool.false_eq_true, not_false_eq_true, not_true_eq_false, catS, okR1, okR20, okR21, okR2b, List.length_cons, List.length_nil, List.drop_succ_cons, List.drop_zero, List.drop_nil, and_self, true_and, and_true, false_and, and_false, Nat.reduceAdd, Nat.reduceLeDiff, Nat.zero_add, Nat.le_refl, Nat.zero_le, pushR, reduceCtorEq, or_self, or_false, false_or, true_or, or_true, K15, ↓G15_0, ↓G15_1, ↓U15_1, ↓G15_2, ↓U15_2, ↓G15_3, ↓U15_3, ↓G15_4, ↓U15_4, ↓G15_5, ↓U15_5, n121, n44, n59, n30, n24, ↓bnd a1, bI_t, one_ne, ↓bnd i1, e5, ↓sc_p 0 (by decide), ↓sc_p 1 (by decide), ↓bnd a3, ↓bnd i4, e6, ↓bnd a5]
          · rw [f5.2 551 0 (by omega), u2_oth _ _ (by omega), f4.2 551 0 (by omega)]; exact e51
          · rw [f5.2 551 1 (by omega), u2_same]
        · rw [decide_eq_false c4] at i4
          have o2 := rNB_no (c := 59) c4
          have hr : rLaw tp = ((rNum tp (rByte tp (rNum tp (rByte tp 0 121).2 1 24).2.1 44).2 1 30).1, (rNum tp (rByte tp (rNum tp (rByte tp 0 121).2 1 24).2.1 44).2 1 30).2.1, (rNum tp (rByte tp 0 121).2 1 24).2.2, (rNum tp (rByte tp (rNum tp (rByte tp 0 121).2 1 24).2.1 44).2 1 30).2.2) := by
            unfold rLaw
            rw [if_pos c1, o1]
            simp only
            rw [if_pos c3, o2]
          rw [hr]
          refine ⟨s4, ?_, ((f1.l1.tr f2.l1).tr ((FrL1.u (by decide)).tr f3.l1)).tr f4.l1, t4.1, fun z => absurd z c4, fun z => t4.2.2 z⟩
          simp (disch := omega) only [e78_0, e78_1, e78_3, e78_6, e78_9, e78_10, e78_11, e78_13, e78_16, e78_19, e78_20, e78_21, e78_22, e78_23, e78_26, e78_29, e78_30, e78_32, e78_35, e78_38, e78_39, e78_40, e78_42, e78_45, e78_48, e78_49, e78_50, e78_51, e78_52, e78_55, e78_58, e78_59, e78_61, e78_64, ↓reduceIte, ↓gi0, ↓gr0, ↓gl0, ↓gi1, ↓gr1, ↓gl1, ↓gi2, ↓gr2, ↓gl2, ↓gi3, ↓gr3, ↓gl3, ↓gi4, ↓gr4, ↓gl4, ↓gi5, ↓gr5, ↓gl5, ↓gi6, ↓gr6, ↓gl6, ↓gi7, ↓gr7, ↓gl7, ↓gi8, ↓gr8, ↓gl8, ↓gi9, ↓gr9, ↓gl9, ↓qI, ↓qI2, ↓qL, ↓qL2, ↓qR, ↓qV, ↓pd0, ↓ta0, ↓ts0, ↓pd1, ↓ta1, ↓ts1, ↓pd2, ↓ta2, ↓ts2, ↓pd3, ↓ta3, ↓ts3, ↓pd4, ↓ta4, ↓ts4, ↓pd5, ↓ta5, ↓ts5, ↓pd6, ↓ta6, ↓ts6, lGet, lSet, okS, isLg, Bool.not_false, Bool.not_true, Bool.false_eq_true, not_false_eq_true, not_true_eq_false, catS, okR1, okR20, okR21, okR2b, List.length_cons, List.length_nil, List.drop_succ_cons, List.drop_zero, List.drop_nil, and_self, true_and, and_true, false_and, and_false, Nat.reduceAdd, Nat.reduceLeDiff, Nat.zero_add, Nat.le_refl, Nat.zero_le, pushR, reduceCtorEq, or_self, or_false, false_or, true_or, or_true, K15, ↓G15_0, ↓G15_1, ↓U15_1, ↓G15_2, ↓U15_2, ↓G15_3, ↓U15_3, ↓G15_4, ↓U15_4, ↓G15_5, ↓U15_5, n121, n44, n59, n30, n24, ↓bnd a1, bI_t, one_ne, ↓bnd i1, e5, ↓sc_p 0 (by decide), ↓bnd a3, ↓bnd i4, bI_f, c4, decide_false]
      · rw [decide_eq_false c3] at a3
        have hr : rLaw tp = ((rByte tp (rNum tp (rByte tp 0 121).2 1 24).2.1 44).1, (rByte tp (rNum tp (rByte tp 0 121).2 1 24).2.1 44).2, 0, 0) := by
          unfold rLaw
          rw [if_pos c1, o1]
          simp only
          rw [if_neg c3]
        rw [hr]
        refine ⟨s3, ?_, (f1.l1.tr f2.l1).tr ((FrL1.u (by decide)).tr f3.l1), t3.1, fun z => absurd z c3, fun z => t3.2.2 z⟩
        simp (disch := omega) only [e78_0, e78_1, e78_3, e78_6, e78_9, e78_10, e78_11, e78_13, e78_16, e78_19, e78_20, e78_21, e78_22, e78_23, e78_26, e78_29, e78_30, e78_32, e78_35, e78_38, e78_39, e78_40, e78_42, e78_45, e78_48, e78_49, e78_50, e78_51, e78_52, e78_55, e78_58, e78_59, e78_61, e78_64, ↓reduceIte, ↓gi0, ↓gr0, ↓gl0, ↓gi1, ↓gr1, ↓gl1, ↓gi2, ↓gr2, ↓gl2, ↓gi3, ↓gr3, ↓gl3, ↓gi4, ↓gr4, ↓gl4, ↓gi5, ↓gr5, ↓gl5, ↓gi6, ↓gr6, ↓gl6, ↓gi7, ↓gr7, ↓gl7, ↓gi8, ↓gr8, ↓gl8, ↓gi9, ↓gr9, ↓gl9, ↓qI, ↓qI2, ↓qL, ↓qL2, ↓qR, ↓qV, ↓pd0, ↓ta0, ↓ts0, ↓pd1, ↓ta1, ↓ts1, ↓pd2, ↓ta2, ↓ts2, ↓pd3, ↓ta3, ↓ts3, ↓pd4, ↓ta4, ↓ts4, ↓pd5, ↓ta5, ↓ts5, ↓pd6, ↓ta6, ↓ts6, lGet, lSet, okS, isLg, Bool.not_false, Bool.not_true, Bool.false_eq_true, not_false_eq_true, not_true_eq_false, catS, okR1, okR20, okR21, okR2b, List.length_cons, List.length_nil, List.drop_succ_cons, List.drop_zero, List.drop_nil, and_self, true_and, and_true, false_and, and_false, Nat.reduceAdd, Nat.reduceLeDiff, Nat.zero_add, Nat.le_refl, Nat.zero_le, pushR, reduceCtorEq, or_self, or_false, false_or, true_or, or_true, K15, ↓G15_0, ↓G15_1, ↓U15_1, ↓G15_2, ↓U15_2, ↓G15_3, ↓U15_3, ↓G15_4, ↓U15_4, ↓G15_5, ↓U15_5, n121, n44, n59, n30, n24, ↓bnd a1, bI_t, one_ne, ↓bnd i1, e5, ↓sc_p 0 (by decide), ↓bnd a3, bI_f, c3, decide_false]
    · rw [decide_eq_false c2] at i1
      have hr : rLaw tp = ((rNum tp (rByte tp 0 121).2 1 24).1, (rNum tp (rByte tp 0 121).2 1 24).2.1, 0, 0) := by
        unfold rLaw
        rw [if_pos c1, rNB_no c2, if_neg c2]
      rw [hr]
      refine ⟨s2, ?_, f1.l1.tr f2.l1, t2.1, fun z => absurd z c2, fun z => t2.2.2 z⟩
      simp (disch := omega) only [e78_0, e78_1, e78_3, e78_6, e78_9, e78_10, e78_11, e78_13, e78_16, e78_19, e78_20, e78_21, e78_22, e78_23, e78_26, e78_29, e78_30, e78_32, e78_35, e78_38, e78_39, e78_40, e78_42, e78_45, e78_48, e78_49, e78_50, e78_51, e78_52, e78_55, e78_58, e78_59, e78_61, e78_64, ↓reduceIte, ↓gi0, ↓gr0, ↓gl0, ↓gi1, ↓gr1, ↓gl1, ↓gi2, ↓gr2, ↓gl2, ↓gi3, ↓gr3, ↓gl3, ↓gi4, ↓gr4, ↓gl4, ↓gi5, ↓gr5, ↓gl5, ↓gi6, ↓gr6, ↓gl6, ↓gi7, ↓gr7, ↓gl7, ↓gi8, ↓gr8, ↓gl8, ↓gi9, ↓gr9, ↓gl9, ↓qI, ↓qI2, ↓qL, ↓qL2, ↓qR, ↓qV, ↓pd0, ↓ta0, ↓ts0, ↓pd1, ↓ta1, ↓ts1, ↓pd2, ↓ta2, ↓ts2, ↓pd3, ↓ta3, ↓ts3, ↓pd4, ↓ta4, ↓ts4, ↓pd5, ↓ta5, ↓ts5, ↓pd6, ↓ta6, ↓ts6, lGet, lSet, okS, isLg, Bool.not_false, Bool.not_true, Bool.false_eq_true, not_false_eq_true, not_true_eq_false, catS, okR1, okR20, okR21, okR2b, List.length_cons, List.length_nil, List.drop_succ_cons, List.drop_zero, List.drop_nil, and_self, true_and, and_true, false_and, and_false, Nat.reduceAdd, Nat.reduceLeDiff, Nat.zero_add, Nat.le_refl, Nat.zero_le, pushR, reduceCtorEq, or_self, or_false, false_or, true_or, or_true, K15, ↓G15_0, ↓G15_1, ↓U15_1, ↓G15_2, ↓U15_2, ↓G15_3, ↓U15_3, ↓G15_4, ↓U15_4, ↓G15_5, ↓U15_5, n121, n44, n59, n30, n24, ↓bnd a1, bI_t, one_ne, ↓bnd i1, bI_f, c2, decide_false]
  · rw [decide_eq_false c1] at a1
    have hb : rByte tp 0 121 = (1, 0) := by
      unfold rByte at c1 ⊢
      split at c1
      · exact absurd rfl c1
      · rename_i z
        rw [if_neg z]
    have hr : rLaw tp = (1, 0, 0, 0) := by
      unfold rLaw
      rw [if_neg c1]
    rw [hb] at t1
    rw [hr]
    refine ⟨s1, ?_, f1.l1, t1.1, fun z => absurd z (by simp), fun z => t1.2.2 (by simp)⟩
    simp (disch := omega) only [e78_0, e78_1, e78_3, e78_6, e78_9, e78_10, e78_11, e78_13, e78_16, e78_19, e78_20, e78_21, e78_22, e78_23, e78_26, e78_29, e78_30, e78_32, e78_35, e78_38, e78_39, e78_40, e78_42, e78_45, e78_48, e78_49, e78_50, e78_51, e78_52, e78_55, e78_58, e78_59, e78_61, e78_64, ↓reduceIte, ↓gi0, ↓gr0, ↓gl0, ↓gi1, ↓gr1, ↓gl1, ↓gi2, ↓gr2, ↓gl2, ↓gi3, ↓gr3, ↓gl3, ↓gi4, ↓gr4, ↓gl4, ↓gi5, ↓gr5, ↓gl5, ↓gi6, ↓gr6, ↓gl6, ↓gi7, ↓gr7, ↓gl7, ↓gi8, ↓gr8, ↓gl8, ↓gi9, ↓gr9, ↓gl9, ↓qI, ↓qI2, ↓qL, ↓qL2, ↓qR, ↓qV, ↓pd0, ↓ta0, ↓ts0, ↓pd1, ↓ta1, ↓ts1, ↓pd2, ↓ta2, ↓ts2, ↓pd3, ↓ta3, ↓ts3, ↓pd4, ↓ta4, ↓ts4, ↓pd5, ↓ta5, ↓ts5, ↓pd6, ↓ta6, ↓ts6, lGet, lSet, okS, isLg, Bool.not_false, Bool.not_true, Bool.false_eq_true, not_false_eq_true, not_true_eq_false, catS, okR1, okR20, okR21, okR2b, List.length_cons, List.length_nil, List.drop_succ_cons, List.drop_zero, List.drop_nil, and_self, true_and, and_true, false_and, and_false, Nat.reduceAdd, Nat.reduceLeDiff, Nat.zero_add, Nat.le_refl, Nat.zero_le, pushR, reduceCtorEq, or_self, or_false, false_or, true_or, or_true, K15, ↓G15_0, ↓G15_1, ↓U15_1, ↓G15_2, ↓U15_2, ↓G15_3, ↓U15_3, ↓G15_4, ↓U15_4, ↓G15_5, ↓U15_5, n121, n44, n59, n30, n24, ↓bnd a1, bI_f, Nat.one_ne_zero, decide_false]
/-- what reading the n-th person may touch -/
def FrQ (s s' : ST) (n : Nat) : Prop := s'.2 = s.2 ∧ ∀ a k, ¬ (a = 15 ∧ 2 ≤ k ∧ k < 6) → ¬ (a = 551 ∧ k = 3) → ¬ (a = 553 + 3 * n ∧ 1 ≤ k ∧ n < 6) → s'.1 a k = s.1 a k
theorem FrQ.tr {s s1 s2 : ST} {n : Nat} (h : FrQ s s1 n) (g : FrQ s1 s2 n) : FrQ s s2 n := ⟨g.1.trans h.1, fun a k x y z => (g.2 a k x y z).trans (h.2 a k x y z)⟩
theorem FrA.q {s s1 : ST} {n : Nat} (h : FrA s s1 15 2 6) : FrQ s s1 n := ⟨h.1, fun a k x _ _ => h.2 a k x⟩
theorem FrQ.u {s : ST} {n k : Nat} {x : Int32} (hk : 1 ≤ k) (hn : n < 6) : FrQ s (u2 s (553 + 3 * n) k x) n := ⟨rfl, fun a k' _ _ z => u2_oth _ _ (by omega)⟩
/-- the scratch's persons: the first are read, the others are as new -/
def RdC (s : ST) (ps : List PT) : Prop := s.1 551 2 = nI 0 ∧ s.1 551 3 = nI ps.length ∧ ps.length ≤ 6 ∧ ∀ i, i < 6 → PR s (553 + 3 * i) (ps.getD i p0)
end RD
