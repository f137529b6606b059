/-! ===== Tape: reading ===== -/
def TPc (s : ST) (tp : List Nat) : Prop := s.1 15 1 = nI tp.length ∧ tp.length ≤ 120 ∧ ∀ i, i < tp.length → s.1 16 i = nI (tp.getD i 0) ∧ tp.getD i 0 < 256
theorem TPc.ext {s s' : ST} {tp : List Nat} (h : TPc s tp) (g1 : s'.1 15 1 = s.1 15 1) (g2 : ∀ k, s'.1 16 k = s.1 16 k) : TPc s' tp := ⟨by rw [g1]; exact h.1, h.2.1, fun i hi => by rw [g2]; exact h.2.2 i hi⟩
theorem TPc.fr {s s' : ST} {tp : List Nat} (h : TPc s tp) (g : FrA s s' 15 2 6) : TPc s' tp := h.ext (g.2 15 1 (by omega)) (fun k => g.2 16 k (by omega))
section TPM
variable {scr : Nat × (Nat → Int32)} {s : ST} {tp : List Nat}
theorem c_kindOf (d : Nat) {h : Hp} {c : Nat} (hc : c < 256) : EvM (d + 1) 80 [.int (nI c)] h = some (nI (kdOf c), h) := by
  rw [ev80, e80_0]
  unfold kdOf
  by_cases h1 : c = 99
  · subst h1
    simp only [↓reduceIte, ↓gi0, ↓gr0, ↓gl0, ↓gi1, ↓gr1, ↓gl1, ↓gi2, ↓gr2, ↓gl2, ↓gi3, ↓gr3, ↓gl3, ↓gi4, ↓gr4, ↓gl4, ↓gi5, ↓gr5, ↓gl5, ↓gi6, ↓gr6, ↓gl6, ↓gi7, ↓gr7, ↓gl7, ↓gi8, ↓gr8, ↓gl8, ↓gi9, ↓gr9, ↓gl9, ↓qI, ↓qI2, ↓qL, ↓qL2, ↓qR, ↓qV, ↓pd0, ↓ta0, ↓ts0, ↓pd1, ↓ta1, ↓ts1, ↓pd2, ↓ta2, ↓ts2, ↓pd3, ↓ta3, ↓ts3, ↓pd4, ↓ta4, ↓ts4, ↓pd5, ↓ta5, ↓ts5, ↓pd6, ↓ta6, ↓ts6, lGet, lSet, okS, isLg, Bool.not_false, Bool.not_true, Bool.false_eq_true, not_false_eq_true, not_true_eq_false, catS, okR1, okR20, okR21, okR2b, List.length_cons, List.length_nil, List.drop_succ_cons, List.drop_zero, List.drop_nil, and_self, true_and, and_true, false_and, and_false, Nat.reduceAdd, Nat.reduceLeDiff, Nat.zero_add, Nat.le_refl, Nat.zero_le, pushR, reduceCtorEq, or_self, or_false, false_or, true_or, or_true, T80_99, e80_52, e80_53, if_true]
    rfl
  · rw [if_neg h1]
    by_cases h2 : c = 115
    · subst h2
      simp only [↓reduceIte, ↓gi0, ↓gr0, ↓gl0, ↓gi1, ↓gr1, ↓gl1, ↓gi2, ↓gr2, ↓gl2, ↓gi3, ↓gr3, ↓gl3, ↓gi4, ↓gr4, ↓gl4, ↓gi5, ↓gr5, ↓gl5, ↓gi6, ↓gr6, ↓gl6, ↓gi7, ↓gr7, ↓gl7, ↓gi8, ↓gr8, ↓gl8, ↓gi9, ↓gr9, ↓gl9, ↓qI, ↓qI2, ↓qL, ↓qL2, ↓qR, ↓qV, ↓pd0, ↓ta0, ↓ts0, ↓pd1, ↓ta1, ↓ts1, ↓pd2, ↓ta2, ↓ts2, ↓pd3, ↓ta3, ↓ts3, ↓pd4, ↓ta4, ↓ts4, ↓pd5, ↓ta5, ↓ts5, ↓pd6, ↓ta6, ↓ts6, lGet, lSet, okS, isLg, Bool.not_false, Bool.not_true, Bool.false_eq_true, not_false_eq_true, not_true_eq_false, catS, okR1, okR20, okR21, okR2b, List.length_cons, List.length_nil, List.drop_succ_cons, List.drop_zero, List.drop_nil, and_self, true_and, and_true, false_and, and_false, Nat.reduceAdd, Nat.reduceLeDiff, Nat.zero_add, Nat.le_refl, Nat.zero_le, pushR, reduceCtorEq, or_self, or_false, false_or, true_or, or_true, T80_115, e80_54, e80_55, if_true]
      rfl
    · rw [if_neg h2]
      by_cases h3 : c = 104
      · subst h3
        simp only [↓reduceIte, ↓gi0, ↓gr0, ↓gl0, ↓gi1, ↓gr1, ↓gl1, ↓gi2, ↓gr2, ↓gl2, ↓gi3, ↓gr3, ↓gl3, ↓gi4, ↓gr4, ↓gl4, ↓gi5, ↓gr5, ↓gl5, ↓gi6, ↓gr6, ↓gl6, ↓gi7, ↓gr7, ↓gl7, ↓gi8, ↓gr8, ↓gl8, ↓gi9, ↓gr9, ↓gl9, ↓qI, ↓qI2, ↓qL, ↓qL2, ↓qR, ↓qV, ↓pd0, ↓ta0, ↓ts0, ↓pd1, ↓ta1, ↓ts1, ↓pd2, ↓ta2, ↓ts2, ↓pd3, ↓ta3, ↓ts3, ↓pd4, ↓ta4, ↓ts4, ↓pd5, ↓ta5, ↓ts5, ↓pd6, ↓ta6, ↓ts6, lGet, lSet, okS, isLg, Bool.not_false, Bool.not_true, Bool.false_eq_true, not_false_eq_true, not_true_eq_false, catS, okR1, okR20, okR21, okR2b, List.length_cons, List.length_nil, List.drop_succ_cons, List.drop_zero, List.drop_nil, and_self, true_and, and_true, false_and, and_false, Nat.reduceAdd, Nat.reduceLeDiff, Nat.zero_add, Nat.le_refl, Nat.zero_le, pushR, reduceCtorEq, or_self, or_false, false_or, true_or, or_true, T80_104, e80_56, e80_57, if_true]
        rfl
      · rw [if_neg h3]
        by_cases h4 : c = 116
        · subst h4
          simp only [↓reduceIte, ↓gi0, ↓gr0, ↓gl0, ↓gi1, ↓gr1, ↓gl1, ↓gi2, ↓gr2, ↓gl2, ↓gi3, ↓gr3, ↓gl3, ↓gi4, ↓gr4, ↓gl4, ↓gi5, ↓gr5, ↓gl5, ↓gi6, ↓gr6, ↓gl6, ↓gi7, ↓gr7, ↓gl7, ↓gi8, ↓gr8, ↓gl8, ↓gi9, ↓gr9, ↓gl9, ↓qI, ↓qI2, ↓qL, ↓qL2, ↓qR, ↓qV, ↓pd0, ↓ta0, ↓ts0, ↓pd1, ↓ta1, ↓ts1, ↓pd2, ↓ta2, ↓ts2, ↓pd3, ↓ta3, ↓ts3, ↓pd4, ↓ta4, ↓ts4, ↓pd5, ↓ta5, ↓ts5, ↓pd6, ↓ta6, ↓ts6, lGet, lSet, okS, isLg, Bool.not_false, Bool.not_true, Bool.false_eq_true, not_false_eq_true, not_true_eq_false, catS, okR1, okR20, okR21, okR2b, List.length_cons, List.length_nil, List.drop_succ_cons, List.drop_zero, List.drop_nil, and_self, true_and, and_true, false_and, and_false, Nat.reduceAdd, Nat.reduceLeDiff, Nat.zero_add, Nat.le_refl, Nat.zero_le, pushR, reduceCtorEq, or_self, or_false, false_or, true_or, or_true, T80_116, e80_58, e80_59, if_true]
          rfl
        · rw [if_neg h4]
          by_cases h5 : c = 112
          · subst h5
            simp only [↓reduceIte, ↓gi0, ↓gr0, ↓gl0, ↓gi1, ↓gr1, ↓gl1, ↓gi2, ↓gr2, ↓gl2, ↓gi3, ↓gr3, ↓gl3, ↓gi4, ↓gr4, ↓gl4, ↓gi5, ↓gr5, ↓gl5, ↓gi6, ↓gr6, ↓gl6, ↓gi7, ↓gr7, ↓gl7, ↓gi8, ↓gr8, ↓gl8, ↓gi9, ↓gr9, ↓gl9, ↓qI, ↓qI2, ↓qL, ↓qL2, ↓qR, ↓qV, ↓pd0, ↓ta0, ↓ts0, ↓pd1, ↓ta1, ↓ts1, ↓pd2, ↓ta2, ↓ts2, ↓pd3, ↓ta3, ↓ts3, ↓pd4, ↓ta4, ↓ts4, ↓pd5, ↓ta5, ↓ts5, ↓pd6, ↓ta6, ↓ts6, lGet, lSet, okS, isLg, Bool.not_false, Bool.not_true, Bool.false_eq_true, not_false_eq_true, not_true_eq_false, catS, okR1, okR20, okR21, okR2b, List.length_cons, List.length_nil, List.drop_succ_cons, List.drop_zero, List.drop_nil, and_self, true_and, and_true, false_and, and_false, Nat.reduceAdd, Nat.reduceLeDiff, Nat.zero_add, Nat.le_refl, Nat.zero_le, pushR, reduceCtorEq, or_self, or_false, false_or, true_or, or_true, T80_112, e80_60, e80_61, if_true]
            rfl
          · rw [if_neg h5]
            have ht : (nI c).toInt = (c : Int) := nI_toInt (by omega)
            have hd := fun (L st : List Value) => T80_d (d := d) (rk := 1) (L := L) (st := st) (h := h) (x := nI c) (by rw [ht]; omega) (by rw [ht]; omega) (by rw [ht]; omega) (by rw [ht]; omega) (by rw [ht]; omega)
            simp only [↓reduceIte, ↓gi0, ↓gr0, ↓gl0, ↓gi1, ↓gr1, ↓gl1, ↓gi2, ↓gr2, ↓gl2, ↓gi3, ↓gr3, ↓gl3, ↓gi4, ↓gr4, ↓gl4, ↓gi5, ↓gr5, ↓gl5, ↓gi6, ↓gr6, ↓gl6, ↓gi7, ↓gr7, ↓gl7, ↓gi8, ↓gr8, ↓gl8, ↓gi9, ↓gr9, ↓gl9, ↓qI, ↓qI2, ↓qL, ↓qL2, ↓qR, ↓qV, ↓pd0, ↓ta0, ↓ts0, ↓pd1, ↓ta1, ↓ts1, ↓pd2, ↓ta2, ↓ts2, ↓pd3, ↓ta3, ↓ts3, ↓pd4, ↓ta4, ↓ts4, ↓pd5, ↓ta5, ↓ts5, ↓pd6, ↓ta6, ↓ts6, lGet, lSet, okS, isLg, Bool.not_false, Bool.not_true, Bool.false_eq_true, not_false_eq_true, not_true_eq_false, catS, okR1, okR20, okR21, okR2b, List.length_cons, List.length_nil, List.drop_succ_cons, List.drop_zero, List.drop_nil, and_self, true_and, and_true, false_and, and_false, Nat.reduceAdd, Nat.reduceLeDiff, Nat.zero_add, Nat.le_refl, Nat.zero_le, pushR, reduceCtorEq, or_self, or_false, false_or, true_or, or_true, hd, e80_62, e80_63]
            rfl
theorem c_fails (d : Nat) (x : Int32) : EvM (d + 1) 84 [.ref 15, .int x] (mkH scr s) = some (0, mkH scr (u2 (u2 s 15 2 x) 15 3 (s.1 15 4))) := by
  rw [ev84, e84_0]
  have g : (u2 s 15 2 x).1 15 4 = s.1 15 4 := u2_oth _ _ (by omega)
  simp (disch := omega) only [e84_0, e84_1, e84_2, e84_5, e84_6, e84_7, e84_10, e84_13, e84_14, ↓reduceIte, ↓gi0, ↓gr0, ↓gl0, ↓gi1, ↓gr1, ↓gl1, ↓gi2, ↓gr2, ↓gl2, ↓gi3, ↓gr3, ↓gl3, ↓gi4, ↓gr4, ↓gl4, ↓gi5, ↓gr5, ↓gl5, ↓gi6, ↓gr6, ↓gl6, ↓gi7, ↓gr7, ↓gl7, ↓gi8, ↓gr8, ↓gl8, ↓gi9, ↓gr9, ↓gl9, ↓qI, ↓qI2, ↓qL, ↓qL2, ↓qR, ↓qV, ↓pd0, ↓ta0, ↓ts0, ↓pd1, ↓ta1, ↓ts1, ↓pd2, ↓ta2, ↓ts2, ↓pd3, ↓ta3, ↓ts3, ↓pd4, ↓ta4, ↓ts4, ↓pd5, ↓ta5, ↓ts5, ↓pd6, ↓ta6, ↓ts6, lGet, lSet, okS, isLg, Bool.not_false, Bool.not_true, Bool.false_eq_true, not_false_eq_true, not_true_eq_false, catS, okR1, okR20, okR21, okR2b, List.length_cons, List.length_nil, List.drop_succ_cons, List.drop_zero, List.drop_nil, and_self, true_and, and_true, false_and, and_false, Nat.reduceAdd, Nat.reduceLeDiff, Nat.zero_add, Nat.le_refl, Nat.zero_le, pushR, reduceCtorEq, or_self, or_false, false_or, true_or, or_true, K15, ↓G15_0, ↓G15_1, ↓U15_1, ↓G15_2, ↓U15_2, ↓G15_3, ↓U15_3, ↓G15_4, ↓U15_4, ↓G15_5, ↓U15_5, g]
theorem FrA_fails (x y : Int32) : FrA s (u2 (u2 s 15 2 x) 15 3 y) 15 2 6 := (FrA.u (by omega) (by omega)).tr (FrA.u (by omega) (by omega))
theorem c_nextByte (d : Nat) (hT : TPc s tp) {p : Nat} (hp : s.1 15 4 = nI p) (hl : p ≤ tp.length) : EvM (d + 1) 81 [.ref 15] (mkH scr s) = some (if p < tp.length then nI (tp.getD p 0) else -1, mkH scr s) := by
  obtain ⟨h1, h2, h3⟩ := hT
  rw [ev81, e81_0]
  by_cases hc : p < tp.length
  · have h4 := (h3 p hc).1
    simp (disch := omega) only [e81_0, e81_1, e81_4, e81_5, e81_8, e81_11, e81_12, e81_15, e81_16, e81_19, e81_20, e81_23, e81_24, ↓reduceIte, ↓gi0, ↓gr0, ↓gl0, ↓gi1, ↓gr1, ↓gl1, ↓gi2, ↓gr2, ↓gl2, ↓gi3, ↓gr3, ↓gl3, ↓gi4, ↓gr4, ↓gl4, ↓gi5, ↓gr5, ↓gl5, ↓gi6, ↓gr6, ↓gl6, ↓gi7, ↓gr7, ↓gl7, ↓gi8, ↓gr8, ↓gl8, ↓gi9, ↓gr9, ↓gl9, ↓qI, ↓qI2, ↓qL, ↓qL2, ↓qR, ↓qV, ↓pd0, ↓ta0, ↓ts0, ↓pd1, ↓ta1, ↓ts1, ↓pd2, ↓ta2, ↓ts2, ↓pd3, ↓ta3, ↓ts3, ↓pd4, ↓ta4, ↓ts4, ↓pd5, ↓ta5, ↓ts5, ↓pd6, ↓ta6, ↓ts6, lGet, lSet, okS, isLg, Bool.not_false, Bool.not_true, Bool.false_eq_true, not_false_eq_true, not_true_eq_false, catS, okR1, okR20, okR21, okR2b, List.length_cons, List.length_nil, List.drop_succ_cons, List.drop_zero, List.drop_nil, and_self, true_and, and_true, false_and, and_false, Nat.reduceAdd, Nat.reduceLeDiff, Nat.zero_add, Nat.le_refl, Nat.zero_le, pushR, reduceCtorEq, or_self, or_false, false_or, true_or, or_true, ltT, ltF, leT, leF, eqF, eqT, lt0F, ge0T, le0T, le0F, eq0T, eq0F, gt0T, gt0F, nI_add, nI_1, pk_mul, subT, sub1, divT, remN, natRem, K15, ↓G15_0, ↓G15_1, ↓U15_1, ↓G15_2, ↓U15_2, ↓G15_3, ↓U15_3, ↓G15_4, ↓U15_4, ↓G15_5, ↓U15_5, ↓I16, ↓S16, h1, hp, h4, hc]
  · simp (disch := omega) only [e81_0, e81_1, e81_4, e81_5, e81_8, e81_11, e81_12, e81_15, e81_16, e81_19, e81_20, e81_23, e81_24, ↓reduceIte, ↓gi0, ↓gr0, ↓gl0, ↓gi1, ↓gr1, ↓gl1, ↓gi2, ↓gr2, ↓gl2, ↓gi3, ↓gr3, ↓gl3, ↓gi4, ↓gr4, ↓gl4, ↓gi5, ↓gr5, ↓gl5, ↓gi6, ↓gr6, ↓gl6, ↓gi7, ↓gr7, ↓gl7, ↓gi8, ↓gr8, ↓gl8, ↓gi9, ↓gr9, ↓gl9, ↓qI, ↓qI2, ↓qL, ↓qL2, ↓qR, ↓qV, ↓pd0, ↓ta0, ↓ts0, ↓pd1, ↓ta1, ↓ts1, ↓pd2, ↓ta2, ↓ts2, ↓pd3, ↓ta3, ↓ts3, ↓pd4, ↓ta4, ↓ts4, ↓pd5, ↓ta5, ↓ts5, ↓pd6, ↓ta6, ↓ts6, lGet, lSet, okS, isLg, Bool.not_false, Bool.not_true, Bool.false_eq_true, not_false_eq_true, not_true_eq_false, catS, okR1, okR20, okR21, okR2b, List.length_cons, List.length_nil, List.drop_succ_cons, List.drop_zero, List.drop_nil, and_self, true_and, and_true, false_and, and_false, Nat.reduceAdd, Nat.reduceLeDiff, Nat.zero_add, Nat.le_refl, Nat.zero_le, pushR, reduceCtorEq, or_self, or_false, false_or, true_or, or_true, ltT, ltF, leT, leF, eqF, eqT, lt0F, ge0T, le0T, le0F, eq0T, eq0F, gt0T, gt0F, nI_add, nI_1, pk_mul, subT, sub1, divT, remN, natRem, K15, ↓G15_0, ↓G15_1, ↓U15_1, ↓G15_2, ↓U15_2, ↓G15_3, ↓U15_3, ↓G15_4, ↓U15_4, ↓G15_5, ↓U15_5, ↓I16, ↓S16, h1, hp, hc]
/-- the tape's cells behind a reading: a fault, the place, a value -/
def TRd (s : ST) (f p : Nat) (v : Int32) : Prop := s.1 15 4 = nI p ∧ (f = 0 → s.1 15 5 = v) ∧ (f ≠ 0 → s.1 15 2 = nI f ∧ s.1 15 3 = nI p)
theorem c_readByte (d : Nat) (hT : TPc s tp) {p c : Nat} {v : Int32} (hp : s.1 15 4 = nI p) (hl : p ≤ tp.length) (hc : c < 256) (hv : s.1 15 5 = v) : ∃ s', EvM (d + 2) 82 [.ref 15, .int (nI c)] (mkH scr s) = some (bI (decide ((rByte tp p c).1 = 0)), mkH scr s') ∧ FrA s s' 15 2 6 ∧ TRd s' (rByte tp p c).1 (rByte tp p c).2 v := by
  have hn := c_nextByte d (scr := scr) hT hp hl
  have hf := c_fails d (scr := scr) (s := s) 1
  unfold rByte
  rw [ev82, e82_0]
  by_cases h1 : p < tp.length
  · rw [if_pos h1] at hn
    have h256 := (hT.2.2 p h1).2
    by_cases h2 : tp.getD p 0 = c
    · rw [if_pos ⟨h1, h2⟩]
      refine ⟨u2 s 15 4 (nI (p + 1)), ?_, FrA.u (by omega) (by omega), u2_same _ _ _ _, fun _ => by rw [u2_oth _ _ (by omega)]; exact hv, fun z => absurd rfl z⟩
      simp (disch := omega) only [e82_0, e82_1, e82_4, e82_5, e82_8, e82_9, e82_10, e82_13, e82_14, e82_15, e82_16, e82_19, e82_20, e82_21, e82_24, e82_25, ↓reduceIte, ↓gi0, ↓gr0, ↓gl0, ↓gi1, ↓gr1, ↓gl1, ↓gi2, ↓gr2, ↓gl2, ↓gi3, ↓gr3, ↓gl3, ↓gi4, ↓gr4, ↓gl4, ↓gi5, ↓gr5, ↓gl5, ↓gi6, ↓gr6, ↓gl6, ↓gi7, ↓gr7, ↓gl7, ↓gi8, ↓gr8, ↓gl8, ↓gi9, ↓gr9, ↓gl9, ↓qI, ↓qI2, ↓qL, ↓qL2, ↓qR, ↓qV, ↓pd0, ↓ta0, ↓ts0, ↓pd1, ↓ta1, ↓ts1, ↓pd2, ↓ta2, ↓ts2, ↓pd3, ↓ta3, ↓ts3, ↓pd4, ↓ta4, ↓ts4, ↓pd5, ↓ta5, ↓ts5, ↓pd6, ↓ta6, ↓ts6, lGet, lSet, okS, isLg, Bool.not_false, Bool.not_true, Bool.false_eq_true, not_false_eq_true, not_true_eq_false, catS, okR1, okR20, okR21, okR2b, List.length_cons, List.length_nil, List.drop_succ_cons, List.drop_zero, List.drop_nil, and_self, true_and, and_true, false_and, and_false, Nat.reduceAdd, Nat.reduceLeDiff, Nat.zero_add, Nat.le_refl, Nat.zero_le, pushR, reduceCtorEq, or_self, or_false, false_or, true_or, or_true, ltT, ltF, leT, leF, eqF, eqT, lt0F, ge0T, le0T, le0F, eq0T, eq0F, gt0T, gt0F, nI_add, nI_1, pk_mul, subT, sub1, divT, remN, natRem, K15, ↓G15_0, ↓G15_1, ↓U15_1, ↓G15_2, ↓U15_2, ↓G15_3, ↓U15_3, ↓G15_4, ↓U15_4, ↓G15_5, ↓U15_5, ↓bnd hn, h2, hp, decide_true, bI_t]
    · rw [if_neg (fun z => h2 z.2)]
      refine ⟨_, ?_, FrA_fails 1 (s.1 15 4), ?_, fun z => absurd z (by simp), fun _ => ⟨?_, ?_⟩⟩
      · simp (disch := omega) only [e82_0, e82_1, e82_4, e82_5, e82_8, e82_9, e82_10, e82_13, e82_14, e82_15, e82_16, e82_19, e82_20, e82_21, e82_24, e82_25, ↓reduceIte, ↓gi0, ↓gr0, ↓gl0, ↓gi1, ↓gr1, ↓gl1, ↓gi2, ↓gr2, ↓gl2, ↓gi3, ↓gr3, ↓gl3, ↓gi4, ↓gr4, ↓gl4, ↓gi5, ↓gr5, ↓gl5, ↓gi6, ↓gr6, ↓gl6, ↓gi7, ↓gr7, ↓gl7, ↓gi8, ↓gr8, ↓gl8, ↓gi9, ↓gr9, ↓gl9, ↓qI, ↓qI2, ↓qL, ↓qL2, ↓qR, ↓qV, ↓pd0, ↓ta0, ↓ts0, ↓pd1, ↓ta1, ↓ts1, ↓pd2, ↓ta2, ↓ts2, ↓pd3, ↓ta3, ↓ts3, ↓pd4, ↓ta4, ↓ts4, ↓pd5, ↓ta5, ↓ts5, ↓pd6, ↓ta6, ↓ts6, lGet, lSet, okS, isLg, Bool.not_false, Bool.not_true, Bool.false_eq_true, not_false_eq_true, not_true_eq_false, catS, okR1, okR20, okR21, okR2b, List.length_cons, List.length_nil, List.drop_succ_cons, List.drop_zero, List.drop_nil, and_self, true_and, and_true, false_and, and_false, Nat.reduceAdd, Nat.reduceLeDiff, Nat.zero_add, Nat.le_refl, Nat.zero_le, pushR, reduceCtorEq, or_self, or_false, false_or, true_or, or_true, ltT, ltF, leT, leF, eqF, eqT, lt0F, ge0T, le0T, le0F, eq0T, eq0F, gt0T, gt0F, nI_add, nI_1, pk_mul, subT, sub1, divT, remN, natRem, K15, ↓G15_0, ↓G15_1, ↓U15_1, ↓G15_2, ↓U15_2, ↓G15_3, ↓U15_3, ↓G15_4, ↓U15_4, ↓G15_5, ↓U15_5, ↓bnd hn, h2, ↓bnd hf, Nat.one_ne_zero, decide_false, bI_f]
      · rw [u2_oth _ _ (by omega), u2_oth _ _ (by omega)]; exact hp
      · rw [u2_oth _ _ (by omega), u2_same]; rfl
      · rw [u2_same]; exact hp
  · rw [if_neg h1] at hn
    rw [if_neg (fun z => h1 z.1)]
    have hm : ((-1 : Int32) = nI c) = False := eq_false (fun z => by
      have h2 : (-1 : Int32).toInt = (nI c).toInt := congrArg Int32.toInt z
      rw [nI_toInt (by omega)] at h2
      have h3 : (-1 : Int32).toInt = -1 := by decide
      omega)
    refine ⟨_, ?_, FrA_fails 1 (s.1 15 4), ?_, fun z => absurd z (by simp), fun _ => ⟨?_, ?_⟩⟩
    · simp (disch := omega) only [e82_0, e82_1, e82_4, e82_5, e82_8, e82_9, e82_10, e82_13, e82_14, e82_15, e82_16, e82_19, e82_20, e82_21, e82_24, e82_25, ↓reduceIte, ↓gi0, ↓gr0, ↓gl0, ↓gi1, ↓gr1, ↓gl1, ↓gi2, ↓gr2, ↓gl2, ↓gi3, ↓gr3, ↓gl3, ↓gi4, ↓gr4, ↓gl4, ↓gi5, ↓gr5, ↓gl5, ↓gi6, ↓gr6, ↓gl6, ↓gi7, ↓gr7, ↓gl7, ↓gi8, ↓gr8, ↓gl8, ↓gi9, ↓gr9, ↓gl9, ↓qI, ↓qI2, ↓qL, ↓qL2, ↓qR, ↓qV, ↓pd0, ↓ta0, ↓ts0, ↓pd1, ↓ta1, ↓ts1, ↓pd2, ↓ta2, ↓ts2, ↓pd3, ↓ta3, ↓ts3, ↓pd4, ↓ta4, ↓ts4, ↓pd5, ↓ta5, ↓ts5, ↓pd6, ↓ta6, ↓ts6, lGet, lSet, okS, isLg, Bool.not_false, Bool.not_true, Bool.false_eq_true, not_false_eq_true, not_true_eq_false, catS, okR1, okR20, okR21, okR2b, List.length_cons, List.length_nil, List.drop_succ_cons, List.drop_zero, List.drop_nil, and_self, true_and, and_true, false_and, and_false, Nat.reduceAdd, Nat.reduceLeDiff, Nat.zero_add, Nat.le_refl, Nat.zero_le, pushR, reduceCtorEq, or_self, or_false, false_or, true_or, or_true, ltT, ltF, leT, leF, eqF, eqT, lt0F, ge0T, le0T, le0F, eq0T, eq0F, gt0T, gt0F, nI_add, nI_1, pk_mul, subT, sub1, divT, remN, natRem, K15, ↓G15_0, ↓G15_1, ↓U15_1, ↓G15_2, ↓U15_2, ↓G15_3, ↓U15_3, ↓G15_4, ↓U15_4, ↓G15_5, ↓U15_5, ↓bnd hn, hm, ↓bnd hf, Nat.one_ne_zero, decide_false, bI_f]
    · rw [u2_oth _ _ (by omega), u2_oth _ _ (by omega)]; exact hp
    · rw [u2_oth _ _ (by omega), u2_same]; rfl
    · rw [u2_same]; exact hp
theorem inR_fg {c : Nat} (hc : c < 256) : inR (nI c) 48 57 = isFg c := by
  unfold isFg
  by_cases h1 : 48 ≤ c
  · by_cases h2 : c ≤ 57
    · rw [inR_T h1 h2 (by decide), decide_eq_true ⟨h1, h2⟩]
    · rw [inR_F2 (by omega) (by omega), decide_eq_false (fun z => h2 z.2)]
  · rw [inR_F1 (by omega) (by decide), decide_eq_false (fun z => h1 z.1)]
theorem inR_n {c a b : Nat} (hc : c < 2147483648) (ha : a < 2147483648) (hb : b < 2147483648) : inR (nI c) a b = decide (a ≤ c ∧ c ≤ b) := by
  by_cases h1 : a ≤ c
  · by_cases h2 : c ≤ b
    · rw [inR_T h1 h2 hb, decide_eq_true ⟨h1, h2⟩]
    · rw [inR_F2 (by omega) (by omega), decide_eq_false (fun z => h2 z.2)]
  · rw [inR_F1 (by omega) ha, decide_eq_false (fun z => h1 z.1)]
theorem c_readNumber (d : Nat) (hT : TPc s tp) {p lo hi : Nat} (hp : s.1 15 4 = nI p) (hl : p ≤ tp.length) (hlo : lo < 1000) (hhi : hi < 1000) : ∃ s', EvM (d + 2) 83 [.ref 15, .int (nI lo), .int (nI hi)] (mkH scr s) = some (bI (decide ((rNum tp p lo hi).1 = 0)), mkH scr s') ∧ FrA s s' 15 2 6 ∧ TRd s' (rNum tp p lo hi).1 (rNum tp p lo hi).2.1 (nI (rNum tp p lo hi).2.2) := by
  have hT0 := hT
  obtain ⟨h1, h2, h3⟩ := hT
  have hw := fun (x : Int32) (a b : Nat) => c_withinN (h := mkH scr s) d x a b
  have hw1 : ∀ x : Nat, x < 256 → EvM (d + 1) 121 [.int (nI x), .int (nI 48), .int (nI 57)] (mkH scr s) = some (bI (isFg x), mkH scr s) := fun x hx => by rw [hw, inR_fg hx]
  have hf1 := c_fails d (scr := scr) (s := s) 1
  have hf2 := c_fails d (scr := scr) (s := s) (nI 2)
  have hgo : EvI (EvM (d + 1)) C83 2 11 [.ref 15, .int (nI lo), .int (nI hi), .int 0, .int 0, .int (nI p)] [] (mkH scr s) = EvI (EvM (d + 1)) C83 2 69 [.ref 15, .int (nI lo), .int (nI hi), .int (nI (min 3 (figs tp p))), .int (nI (numAt tp p (min 3 (figs tp p)))), .int (nI (p + min 3 (figs tp p)))] [] (mkH scr s) := by
    refine (forRd (min 3 (figs tp p)) (fun j => EvI (EvM (d + 1)) C83 2 11 [.ref 15, .int (nI lo), .int (nI hi), .int (nI j), .int (nI (numAt tp p j)), .int (nI (p + j))] [] (mkH scr s)) ?_).trans ?_
    · intro j hj
      have hjf : j < figs tp p := by omega
      obtain ⟨g1, g2⟩ := figs_in tp p hjf
      obtain ⟨g3, g4⟩ := h3 (p + j) g1
      have g5 := hw1 _ g4
      rw [g2] at g5
      have g6 : 48 ≤ tp.getD (p + j) 0 ∧ tp.getD (p + j) 0 ≤ 57 := of_decide_eq_true g2
      have hn := numAt_lt (tp := tp) (p := p) j (by omega)
      have hn2 : numAt tp p j < 10 ^ 3 := Nat.lt_of_lt_of_le hn (Nat.pow_le_pow_right (by decide) (by omega))
      have hnum : numAt tp p (j + 1) = 10 * numAt tp p j + tp.getD (p + j) 0 - 48 := rfl
      simp only [hnum]
      rw [e83_11]
      simp (disch := omega) only [e83_0, e83_1, e83_2, e83_3, e83_5, e83_6, e83_9, e83_13, e83_14, e83_17, e83_20, e83_21, e83_24, e83_26, e83_27, e83_29, e83_31, e83_34, e83_37, e83_38, e83_39, e83_42, e83_44, e83_46, e83_47, e83_48, e83_51, e83_53, e83_54, e83_55, e83_57, e83_58, e83_60, e83_63, e83_66, e83_69, e83_70, e83_71, e83_72, e83_75, e83_78, e83_79, e83_80, e83_83, e83_84, e83_86, e83_87, e83_88, e83_91, e83_94, e83_95, e83_96, e83_99, e83_100, e83_101, e83_102, e83_105, e83_106, e83_107, e83_110, e83_111, e83_113, e83_116, e83_117, ↓reduceIte, ↓gi0, ↓gr0, ↓gl0, ↓gi1, ↓gr1, ↓gl1, ↓gi2, ↓gr2, ↓gl2, ↓gi3, ↓gr3, ↓gl3, ↓gi4, ↓gr4, ↓gl4, ↓gi5, ↓gr5, ↓gl5, ↓gi6, ↓gr6, ↓gl6, ↓gi7, ↓gr7, ↓gl7, ↓gi8, ↓gr8, ↓gl8, ↓gi9, ↓gr9, ↓gl9, ↓qI, ↓qI2, ↓qL, ↓qL2, ↓qR, ↓qV, ↓pd0, ↓ta0, ↓ts0, ↓pd1, ↓ta1, ↓ts1, ↓pd2, ↓ta2, ↓ts2, ↓pd3, ↓ta3, ↓ts3, ↓pd4, ↓ta4, ↓ts4, ↓pd5, ↓ta5, ↓ts5, ↓pd6, ↓ta6, ↓ts6, lGet, lSet, okS, isLg, Bool.not_false, Bool.not_true, Bool.false_eq_true, not_false_eq_true, not_true_eq_false, catS, okR1, okR20, okR21, okR2b, List.length_cons, List.length_nil, List.drop_succ_cons, List.drop_zero, List.drop_nil, and_self, true_and, and_true, false_and, and_false, Nat.reduceAdd, Nat.reduceLeDiff, Nat.zero_add, Nat.le_refl, Nat.zero_le, pushR, reduceCtorEq, or_self, or_false, false_or, true_or, or_true, ltT, ltF, leT, leF, eqF, eqT, lt0F, ge0T, le0T, le0F, eq0T, eq0F, gt0T, gt0F, nI_add, nI_1, pk_mul, subT, sub1, divT, remN, natRem, n2, n3, n4, n5, n6, n7, n8, n9, n10, n12, n16, n22, n23, n24, n40, n48, n57, n60, n97, n99, n100, n119, n120, n238, n357, n999, n9999, n2231, Int32.add_zero, K15, ↓G15_0, ↓G15_1, ↓U15_1, ↓G15_2, ↓U15_2, ↓G15_3, ↓U15_3, ↓G15_4, ↓U15_4, ↓G15_5, ↓U15_5, ↓I16, ↓S16, h1, g3, ↓bnd g5, bI_t, one_ne, Nat.mul_comm (numAt tp p j) 10, Nat.add_assoc p]
    · have ho := figs_out tp p
      rw [e83_11]
      by_cases hlt : p + min 3 (figs tp p) < tp.length
      · obtain ⟨g3, g4⟩ := h3 _ hlt
        have g5 := hw1 _ g4
        cases hfg : isFg (tp.getD (p + min 3 (figs tp p)) 0) with
        | false =>
          rw [hfg] at g5
          simp (disch := omega) only [e83_0, e83_1, e83_2, e83_3, e83_5, e83_6, e83_9, e83_13, e83_14, e83_17, e83_20, e83_21, e83_24, e83_26, e83_27, e83_29, e83_31, e83_34, e83_37, e83_38, e83_39, e83_42, e83_44, e83_46, e83_47, e83_48, e83_51, e83_53, e83_54, e83_55, e83_57, e83_58, e83_60, e83_63, e83_66, e83_70, e83_71, e83_72, e83_75, e83_78, e83_79, e83_80, e83_83, e83_84, e83_86, e83_87, e83_88, e83_91, e83_94, e83_95, e83_96, e83_99, e83_100, e83_101, e83_102, e83_105, e83_106, e83_107, e83_110, e83_111, e83_113, e83_116, e83_117, ↓reduceIte, ↓gi0, ↓gr0, ↓gl0, ↓gi1, ↓gr1, ↓gl1, ↓gi2, ↓gr2, ↓gl2, ↓gi3, ↓gr3, ↓gl3, ↓gi4, ↓gr4, ↓gl4, ↓gi5, ↓gr5, ↓gl5, ↓gi6, ↓gr6, ↓gl6, ↓gi7, ↓gr7, ↓gl7, ↓gi8, ↓gr8, ↓gl8, ↓gi9, ↓gr9, ↓gl9, ↓qI, ↓qI2, ↓qL, ↓qL2, ↓qR, ↓qV, ↓pd0, ↓ta0, ↓ts0, ↓pd1, ↓ta1, ↓ts1, ↓pd2, ↓ta2, ↓ts2, ↓pd3, ↓ta3, ↓ts3, ↓pd4, ↓ta4, ↓ts4, ↓pd5, ↓ta5, ↓ts5, ↓pd6, ↓ta6, ↓ts6, lGet, lSet, okS, isLg, Bool.not_false, Bool.not_true, Bool.false_eq_true, not_false_eq_true, not_true_eq_false, catS, okR1, okR20, okR21, okR2b, List.length_cons, List.length_nil, List.drop_succ_cons, List.drop_zero, List.drop_nil, and_self, true_and, and_true, false_and, and_false, Nat.reduceAdd, Nat.reduceLeDiff, Nat.zero_add, Nat.le_refl, Nat.zero_le, pushR, reduceCtorEq, or_self, or_false, false_or, true_or, or_true, ltT, ltF, leT, leF, eqF, eqT, lt0F, ge0T, le0T, le0F, eq0T, eq0F, gt0T, gt0F, nI_add, nI_1, pk_mul, subT, sub1, divT, remN, natRem, n2, n3, n4, n5, n6, n7, n8, n9, n10, n12, n16, n22, n23, n24, n40, n48, n57, n60, n97, n99, n100, n119, n120, n238, n357, n999, n9999, n2231, Int32.add_zero, K15, ↓G15_0, ↓G15_1, ↓U15_1, ↓G15_2, ↓U15_2, ↓G15_3, ↓U15_3, ↓G15_4, ↓U15_4, ↓G15_5, ↓U15_5, ↓I16, ↓S16, h1, g3, ↓bnd g5, bI_f]
        | true =>
          rw [hfg] at g5
          have h3f : 3 ≤ figs tp p := by
            by_cases q : 3 ≤ figs tp p
            · exact q
            · exfalso
              have e : min 3 (figs tp p) = figs tp p := by omega
              rw [e] at hlt hfg
              exact ho ⟨hlt, hfg⟩
          have e3 : min 3 (figs tp p) = 3 := by omega
          rw [e3] at g3 g5 hlt ⊢
          simp (disch := omega) only [e83_0, e83_1, e83_2, e83_3, e83_5, e83_6, e83_9, e83_13, e83_14, e83_17, e83_20, e83_21, e83_24, e83_26, e83_27, e83_29, e83_31, e83_34, e83_37, e83_38, e83_39, e83_42, e83_44, e83_46, e83_47, e83_48, e83_51, e83_53, e83_54, e83_55, e83_57, e83_58, e83_60, e83_63, e83_66, e83_70, e83_71, e83_72, e83_75, e83_78, e83_79, e83_80, e83_83, e83_84, e83_86, e83_87, e83_88, e83_91, e83_94, e83_95, e83_96, e83_99, e83_100, e83_101, e83_102, e83_105, e83_106, e83_107, e83_110, e83_111, e83_113, e83_116, e83_117, ↓reduceIte, ↓gi0, ↓gr0, ↓gl0, ↓gi1, ↓gr1, ↓gl1, ↓gi2, ↓gr2, ↓gl2, ↓gi3, ↓gr3, ↓gl3, ↓gi4, ↓gr4, ↓gl4, ↓gi5, ↓gr5, ↓gl5, ↓gi6, ↓gr6, ↓gl6, ↓gi7, ↓gr7, ↓gl7, ↓gi8, ↓gr8, ↓gl8, ↓gi9, ↓gr9, ↓gl9, ↓qI, ↓qI2, ↓qL, ↓qL2, ↓qR, ↓qV, ↓pd0, ↓ta0, ↓ts0, ↓pd1, ↓ta1, ↓ts1, ↓pd2, ↓ta2, ↓ts2, ↓pd3, ↓ta3, ↓ts3, ↓pd4, ↓ta4, ↓ts4, ↓pd5, ↓ta5, ↓ts5, ↓pd6, ↓ta6, ↓ts6, lGet, lSet, okS, isLg, Bool.not_false, Bool.not_true, Bool.false_eq_true, not_false_eq_true, not_true_eq_false, catS, okR1, okR20, okR21, okR2b, List.length_cons, List.length_nil, List.drop_succ_cons, List.drop_zero, List.drop_nil, and_self, true_and, and_true, false_and, and_false, Nat.reduceAdd, Nat.reduceLeDiff, Nat.zero_add, Nat.le_refl, Nat.zero_le, pushR, reduceCtorEq, or_self, or_false, false_or, true_or, or_true, ltT, ltF, leT, leF, eqF, eqT, lt0F, ge0T, le0T, le0F, eq0T, eq0F, gt0T, gt0F, nI_add, nI_1, pk_mul, subT, sub1, divT, remN, natRem, n2, n3, n4, n5, n6, n7, n8, n9, n10, n12, n16, n22, n23, n24, n40, n48, n57, n60, n97, n99, n100, n119, n120, n238, n357, n999, n9999, n2231, Int32.add_zero, K15, ↓G15_0, ↓G15_1, ↓U15_1, ↓G15_2, ↓U15_2, ↓G15_3, ↓U15_3, ↓G15_4, ↓U15_4, ↓G15_5, ↓U15_5, ↓I16, ↓S16, h1, g3, ↓bnd g5, bI_t, one_ne]
      · simp (disch := omega) only [e83_0, e83_1, e83_2, e83_3, e83_5, e83_6, e83_9, e83_13, e83_14, e83_17, e83_20, e83_21, e83_24, e83_26, e83_27, e83_29, e83_31, e83_34, e83_37, e83_38, e83_39, e83_42, e83_44, e83_46, e83_47, e83_48, e83_51, e83_53, e83_54, e83_55, e83_57, e83_58, e83_60, e83_63, e83_66, e83_70, e83_71, e83_72, e83_75, e83_78, e83_79, e83_80, e83_83, e83_84, e83_86, e83_87, e83_88, e83_91, e83_94, e83_95, e83_96, e83_99, e83_100, e83_101, e83_102, e83_105, e83_106, e83_107, e83_110, e83_111, e83_113, e83_116, e83_117, ↓reduceIte, ↓gi0, ↓gr0, ↓gl0, ↓gi1, ↓gr1, ↓gl1, ↓gi2, ↓gr2, ↓gl2, ↓gi3, ↓gr3, ↓gl3, ↓gi4, ↓gr4, ↓gl4, ↓gi5, ↓gr5, ↓gl5, ↓gi6, ↓gr6, ↓gl6, ↓gi7, ↓gr7, ↓gl7, ↓gi8, ↓gr8, ↓gl8, ↓gi9, ↓gr9, ↓gl9, ↓qI, ↓qI2, ↓qL, ↓qL2, ↓qR, ↓qV, ↓pd0, ↓ta0, ↓ts0, ↓pd1, ↓ta1, ↓ts1, ↓pd2, ↓ta2, ↓ts2, ↓pd3, ↓ta3, ↓ts3, ↓pd4, ↓ta4, ↓ts4, ↓pd5, ↓ta5, ↓ts5, ↓pd6, ↓ta6, ↓ts6, lGet, lSet, okS, isLg, Bool.not_false, Bool.not_true, Bool.false_eq_true, not_false_eq_true, not_true_eq_false, catS, okR1, okR20, okR21, okR2b, List.length_cons, List.length_nil, List.drop_succ_cons, List.drop_zero, List.drop_nil, and_self, true_and, and_true, false_and, and_false, Nat.reduceAdd, Nat.reduceLeDiff, Nat.zero_add, Nat.le_refl, Nat.zero_le, pushR, reduceCtorEq, or_self, or_false, false_or, true_or, or_true, ltT, ltF, leT, leF, eqF, eqT, lt0F, ge0T, le0T, le0F, eq0T, eq0F, gt0T, gt0F, nI_add, nI_1, pk_mul, subT, sub1, divT, remN, natRem, n2, n3, n4, n5, n6, n7, n8, n9, n10, n12, n16, n22, n23, n24, n40, n48, n57, n60, n97, n99, n100, n119, n120, n238, n357, n999, n9999, n2231, Int32.add_zero, K15, ↓G15_0, ↓G15_1, ↓U15_1, ↓G15_2, ↓U15_2, ↓G15_3, ↓U15_3, ↓G15_4, ↓U15_4, ↓G15_5, ↓U15_5, ↓I16, ↓S16, h1]
  unfold rNum
  rw [ev83, e83_0]
  have hA : EvI (EvM (d + 1)) C83 2 1 [.ref 15, .int (nI lo), .int (nI hi), jk, jk, jk] [.int 0] (mkH scr s) = EvI (EvM (d + 1)) C83 2 69 [.ref 15, .int (nI lo), .int (nI hi), .int (nI (min 3 (figs tp p))), .int (nI (numAt tp p (min 3 (figs tp p)))), .int (nI (p + min 3 (figs tp p)))] [] (mkH scr s) := by
    rw [← hgo]
    simp (disch := omega) only [e83_0, e83_1, e83_2, e83_3, e83_5, e83_6, e83_9, e83_13, e83_14, e83_17, e83_20, e83_21, e83_24, e83_26, e83_27, e83_29, e83_31, e83_34, e83_37, e83_38, e83_39, e83_42, e83_44, e83_46, e83_47, e83_48, e83_51, e83_53, e83_54, e83_55, e83_57, e83_58, e83_60, e83_63, e83_66, e83_70, e83_71, e83_72, e83_75, e83_78, e83_79, e83_80, e83_83, e83_84, e83_86, e83_87, e83_88, e83_91, e83_94, e83_95, e83_96, e83_99, e83_100, e83_101, e83_102, e83_105, e83_106, e83_107, e83_110, e83_111, e83_113, e83_116, e83_117, ↓reduceIte, ↓gi0, ↓gr0, ↓gl0, ↓gi1, ↓gr1, ↓gl1, ↓gi2, ↓gr2, ↓gl2, ↓gi3, ↓gr3, ↓gl3, ↓gi4, ↓gr4, ↓gl4, ↓gi5, ↓gr5, ↓gl5, ↓gi6, ↓gr6, ↓gl6, ↓gi7, ↓gr7, ↓gl7, ↓gi8, ↓gr8, ↓gl8, ↓gi9, ↓gr9, ↓gl9, ↓qI, ↓qI2, ↓qL, ↓qL2, ↓qR, ↓qV, ↓pd0, ↓ta0, ↓ts0, ↓pd1, ↓ta1, ↓ts1, ↓pd2, ↓ta2, ↓ts2, ↓pd3, ↓ta3, ↓ts3, ↓pd4, ↓ta4, ↓ts4, ↓pd5, ↓ta5, ↓ts5, ↓pd6, ↓ta6, ↓ts6, lGet, lSet, okS, isLg, Bool.not_false, Bool.not_true, Bool.false_eq_true, not_false_eq_true, not_true_eq_false, catS, okR1, okR20, okR21, okR2b, List.length_cons, List.length_nil, List.drop_succ_cons, List.drop_zero, List.drop_nil, and_self, true_and, and_true, false_and, and_false, Nat.reduceAdd, Nat.reduceLeDiff, Nat.zero_add, Nat.le_refl, Nat.zero_le, pushR, reduceCtorEq, or_self, or_false, false_or, true_or, or_true, K15, ↓G15_0, ↓G15_1, ↓U15_1, ↓G15_2, ↓U15_2, ↓G15_3, ↓U15_3, ↓G15_4, ↓U15_4, ↓G15_5, ↓U15_5, hp]
  rw [hA, e83_69]
  have g7 := hw (nI (min 3 (figs tp p))) 1 2
  rw [inR_n (by omega) (by decide) (by decide)] at g7
  have w12 : EvM (d + 1) 121 [.int (nI (min 3 (figs tp p))), .int 1, .int (nI 2)] (mkH scr s) = some (bI (decide (1 ≤ min 3 (figs tp p) ∧ min 3 (figs tp p) ≤ 2)), mkH scr s) := g7
  by_cases hc : figs tp p = 0 ∨ 2 < figs tp p
  · rw [if_pos hc]
    have hd : ¬ (1 ≤ min 3 (figs tp p) ∧ min 3 (figs tp p) ≤ 2) := by omega
    rw [decide_eq_false hd] at w12
    refine ⟨_, ?_, FrA_fails 1 (s.1 15 4), ?_, fun z => absurd z (by simp), fun _ => ⟨?_, ?_⟩⟩
    · simp (disch := omega) only [e83_0, e83_1, e83_2, e83_3, e83_5, e83_6, e83_9, e83_13, e83_14, e83_17, e83_20, e83_21, e83_24, e83_26, e83_27, e83_29, e83_31, e83_34, e83_37, e83_38, e83_39, e83_42, e83_44, e83_46, e83_47, e83_48, e83_51, e83_53, e83_54, e83_55, e83_57, e83_58, e83_60, e83_63, e83_66, e83_70, e83_71, e83_72, e83_75, e83_78, e83_79, e83_80, e83_83, e83_84, e83_86, e83_87, e83_88, e83_91, e83_94, e83_95, e83_96, e83_99, e83_100, e83_101, e83_102, e83_105, e83_106, e83_107, e83_110, e83_111, e83_113, e83_116, e83_117, ↓reduceIte, ↓gi0, ↓gr0, ↓gl0, ↓gi1, ↓gr1, ↓gl1, ↓gi2, ↓gr2, ↓gl2, ↓gi3, ↓gr3, ↓gl3, ↓gi4, ↓gr4, ↓gl4, ↓gi5, ↓gr5, ↓gl5, ↓gi6, ↓gr6, ↓gl6, ↓gi7, ↓gr7, ↓gl7, ↓gi8, ↓gr8, ↓gl8, ↓gi9, ↓gr9, ↓gl9, ↓qI, ↓qI2, ↓qL, ↓qL2, ↓qR, ↓qV, ↓pd0, ↓ta0, ↓ts0, ↓pd1, ↓ta1, ↓ts1, ↓pd2, ↓ta2, ↓ts2, ↓pd3, ↓ta3, ↓ts3, ↓pd4, ↓ta4, ↓ts4, ↓pd5, ↓ta5, ↓ts5, ↓pd6, ↓ta6, ↓ts6, lGet, lSet, okS, isLg, Bool.not_false, Bool.not_true, Bool.false_eq_true, not_false_eq_true, not_true_eq_false, catS, okR1, okR20, okR21, okR2b, List.length_cons, List.length_nil, List.drop_succ_cons, List.drop_zero, List.drop_nil, and_self, true_and, and_true, false_and, and_false, Nat.reduceAdd, Nat.reduceLeDiff, Nat.zero_add, Nat.le_refl, Nat.zero_le, pushR, reduceCtorEq, or_self, or_false, false_or, true_or, or_true, n2, n3, n4, n5, n6, n7, n8, n9, n10, n12, n16, n22, n23, n24, n40, n48, n57, n60, n97, n99, n100, n119, n120, n238, n357, n999, n9999, n2231, Int32.add_zero, K15, ↓bnd w12, bI_f, ↓bnd hf1, Nat.one_ne_zero, decide_false]
    · rw [u2_oth _ _ (by omega), u2_oth _ _ (by omega)]; exact hp
    · rw [u2_oth _ _ (by omega), u2_same]; rfl
    · rw [u2_same]; exact hp
  · rw [if_neg hc]
    have e3 : min 3 (figs tp p) = figs tp p := by omega
    have hd : 1 ≤ min 3 (figs tp p) ∧ min 3 (figs tp p) ≤ 2 := by omega
    rw [decide_eq_true hd] at w12
    rw [e3] at w12 ⊢
    have hn := numAt_lt (tp := tp) (p := p) _ (Nat.le_refl _)
    have hn2 : numAt tp p (figs tp p) < 10 ^ 3 := Nat.lt_of_lt_of_le hn (Nat.pow_le_pow_right (by decide) (by omega))
    have g8 := hw (nI (numAt tp p (figs tp p))) lo hi
    rw [inR_n (by omega) (by omega) (by omega)] at g8
    by_cases hv : lo ≤ numAt tp p (figs tp p) ∧ numAt tp p (figs tp p) ≤ hi
    · rw [if_pos hv]
      rw [decide_eq_true hv] at g8
      refine ⟨u2 (u2 s 15 4 (nI (p + figs tp p))) 15 5 (nI (numAt tp p (figs tp p))), ?_, (FrA.u (by omega) (by omega)).tr (FrA.u (by omega) (by omega)), ?_, fun _ => u2_same _ _ _ _, fun z => absurd rfl z⟩
      · simp (disch := omega) only [e83_0, e83_1, e83_2, e83_3, e83_5, e83_6, e83_9, e83_13, e83_14, e83_17, e83_20, e83_21, e83_24, e83_26, e83_27, e83_29, e83_31, e83_34, e83_37, e83_38, e83_39, e83_42, e83_44, e83_46, e83_47, e83_48, e83_51, e83_53, e83_54, e83_55, e83_57, e83_58, e83_60, e83_63, e83_66, e83_70, e83_71, e83_72, e83_75, e83_78, e83_79, e83_80, e83_83, e83_84, e83_86, e83_87, e83_88, e83_91, e83_94, e83_95, e83_96, e83_99, e83_100, e83_101, e83_102, e83_105, e83_106, e83_107, e83_110, e83_111, e83_113, e83_116, e83_117, ↓reduceIte, ↓gi0, ↓gr0, ↓gl0, ↓gi1, ↓gr1, ↓gl1, ↓gi2, ↓gr2, ↓gl2, ↓gi3, ↓gr3, ↓gl3, ↓gi4, ↓gr4, ↓gl4, ↓gi5, ↓gr5, ↓gl5, ↓gi6, ↓gr6, ↓gl6, ↓gi7, ↓gr7, ↓gl7, ↓gi8, ↓gr8, ↓gl8, ↓gi9, ↓gr9, ↓gl9, ↓qI, ↓qI2, ↓qL, ↓qL2, ↓qR, ↓qV, ↓pd0, ↓ta0, ↓ts0, ↓pd1, ↓ta1, ↓ts1, ↓pd2, ↓ta2, ↓ts2, ↓pd3, ↓ta3, ↓ts3, ↓pd4, ↓ta4, ↓ts4, ↓pd5, ↓ta5, ↓ts5, ↓pd6, ↓ta6, ↓ts6, lGet, lSet, okS, isLg, Bool.not_false, Bool.not_true, Bool.false_eq_true, not_false_eq_true, not_true_eq_false, catS, okR1, okR20, okR21, okR2b, List.length_cons, List.length_nil, List.drop_succ_cons, List.drop_zero, List.drop_nil, and_self, true_and, and_true, false_and, and_false, Nat.reduceAdd, Nat.reduceLeDiff, Nat.zero_add, Nat.le_refl, Nat.zero_le, pushR, reduceCtorEq, or_self, or_false, false_or, true_or, or_true, ltT, ltF, leT, leF, eqF, eqT, lt0F, ge0T, le0T, le0F, eq0T, eq0F, gt0T, gt0F, nI_add, nI_1, pk_mul, subT, sub1, divT, remN, natRem, n2, n3, n4, n5, n6, n7, n8, n9, n10, n12, n16, n22, n23, n24, n40, n48, n57, n60, n97, n99, n100, n119, n120, n238, n357, n999, n9999, n2231, Int32.add_zero, K15, ↓G15_0, ↓G15_1, ↓U15_1, ↓G15_2, ↓U15_2, ↓G15_3, ↓U15_3, ↓G15_4, ↓U15_4, ↓G15_5, ↓U15_5, ↓bnd w12, bI_t, one_ne, ↓bnd g8, hp, decide_true]
      · rw [u2_oth _ _ (by omega), u2_same]
    · rw [if_neg hv]
      rw [decide_eq_false hv] at g8
      refine ⟨_, ?_, FrA_fails (nI 2) (s.1 15 4), ?_, fun z => absurd z (by simp), fun _ => ⟨?_, ?_⟩⟩
      · simp (disch := omega) only [e83_0, e83_1, e83_2, e83_3, e83_5, e83_6, e83_9, e83_13, e83_14, e83_17, e83_20, e83_21, e83_24, e83_26, e83_27, e83_29, e83_31, e83_34, e83_37, e83_38, e83_39, e83_42, e83_44, e83_46, e83_47, e83_48, e83_51, e83_53, e83_54, e83_55, e83_57, e83_58, e83_60, e83_63, e83_66, e83_70, e83_71, e83_72, e83_75, e83_78, e83_79, e83_80, e83_83, e83_84, e83_86, e83_87, e83_88, e83_91, e83_94, e83_95, e83_96, e83_99, e83_100, e83_101, e83_102, e83_105, e83_106, e83_107, e83_110, e83_111, e83_113, e83_116, e83_117, ↓reduceIte, ↓gi0, ↓gr0, ↓gl0, ↓gi1, ↓gr1, ↓gl1, ↓gi2, ↓gr2, ↓gl2, ↓gi3, ↓gr3, ↓gl3, ↓gi4, ↓gr4, ↓gl4, ↓gi5, ↓gr5, ↓gl5, ↓gi6, ↓gr6, ↓gl6, ↓gi7, ↓gr7, ↓gl7, ↓gi8, ↓gr8, ↓gl8, ↓gi9, ↓gr9, ↓gl9, ↓qI, ↓qI2, ↓qL, ↓qL2, ↓qR, ↓qV, ↓pd0, ↓ta0, ↓ts0, ↓pd1, ↓ta1, ↓ts1, ↓pd2, ↓ta2, ↓ts2, ↓pd3, ↓ta3, ↓ts3, ↓pd4, ↓ta4, ↓ts4, ↓pd5, ↓ta5, ↓ts5, ↓pd6, ↓ta6, ↓ts6, lGet, lSet, okS, isLg, Bool.not_false, Bool.not_true, Bool.false_eq_true, not_false_eq_true, not_true_eq_false, catS, okR1, okR20, okR21, okR2b, List.length_cons, List.length_nil, List.drop_succ_cons, List.drop_zero, List.drop_nil, and_self, true_and, and_true, false_and, and_false, Nat.reduceAdd, Nat.reduceLeDiff, Nat.zero_add, Nat.le_refl, Nat.zero_le, pushR, reduceCtorEq, or_self, or_false, false_or, true_or, or_true, n2, n3, n4, n5, n6, n7, n8, n9, n10, n12, n16, n22, n23, n24, n40, n48, n57, n60, n97, n99, n100, n119, n120, n238, n357, n999, n9999, n2231, Int32.add_zero, K15, ↓bnd w12, bI_t, one_ne, ↓bnd g8, bI_f, ↓bnd hf2]
        rfl
      · rw [u2_oth _ _ (by omega), u2_oth _ _ (by omega)]; exact hp
      · rw [u2_oth _ _ (by omega), u2_same]
      · rw [u2_same]; exact hp
end TPM
