/-! ===== Person.leaveTo; County: sales, offers, wants, told verdicts ===== -/
def gainAll (mo : Nat) (l : LT) (h : LT) : Nat → LT
  | 0 => h
  | j + 1 => pGain (lt_d l j) mo (gainAll mo l h j)
theorem PR_set {s : ST} {P k le wo ow : Nat} {ca dn : Int32} {l : LT} (h : PR s P (k, le, wo, ca, ow, dn, l)) (x : Int32) : PR (u2 s P 4 x) P (k, le, wo, x, ow, dn, l) := by
  obtain ⟨h1, h2, h3, h4, h5, h6, h7⟩ := h
  exact ⟨by rw [u2_oth _ _ (by omega)]; exact h1, by rw [u2_oth _ _ (by omega)]; exact h2, by rw [u2_oth _ _ (by omega)]; exact h3, by rw [u2_same], by rw [u2_oth _ _ (by omega)]; exact h5, by rw [u2_oth _ _ (by omega)]; exact h6, LR_u h7 (by decide)⟩
theorem PR_owe {s : ST} {P k le wo ow : Nat} {ca dn : Int32} {l : LT} (h : PR s P (k, le, wo, ca, ow, dn, l)) (x : Nat) : PR (u2 s P 5 (nI x)) P (k, le, wo, ca, x, dn, l) := by
  obtain ⟨h1, h2, h3, h4, h5, h6, h7⟩ := h
  exact ⟨by rw [u2_oth _ _ (by omega)]; exact h1, by rw [u2_oth _ _ (by omega)]; exact h2, by rw [u2_oth _ _ (by omega)]; exact h3, by rw [u2_oth _ _ (by omega)]; exact h4, by rw [u2_same], by rw [u2_oth _ _ (by omega)]; exact h6, LR_u h7 (by decide)⟩
theorem PR_nil {s : ST} {P k le wo ow : Nat} {ca dn : Int32} {l : LT} (h : PR s P (k, le, wo, ca, ow, dn, l)) : PR (u2 s P 7 0) P (k, le, wo, ca, ow, dn, []) := by
  obtain ⟨h1, h2, h3, h4, h5, h6, h7⟩ := h
  exact ⟨by rw [u2_oth _ _ (by omega)]; exact h1, by rw [u2_oth _ _ (by omega)]; exact h2, by rw [u2_oth _ _ (by omega)]; exact h3, by rw [u2_oth _ _ (by omega)]; exact h4, by rw [u2_oth _ _ (by omega)]; exact h5, by rw [u2_oth _ _ (by omega)]; exact h6, by rw [u2_same]; rfl, by simp, fun i hi => absurd hi (by simp)⟩
section CM5
variable {scr : Nat × (Nat → Int32)} {s : ST} {C P H : Nat}
/-- Person.leaveTo -/
theorem c_leave (d : Nat) (hP : per P) (hH : per H) (hne : H + 2 < P ∨ P + 2 < H) {k le wo ow : Nat} {ca dn : Int32} {l : LT} {k' le' wo' ow' : Nat} {ca' dn' : Int32} {l' : LT} (hp : PR s P (k, le, wo, ca, ow, dn, l)) (hh : PR s H (k', le', wo', ca', ow', dn', l')) (mo : Nat) : ∃ s1 s', EvM (d + 2) 55 [.ref P, .ref H, .int (nI mo)] (mkH scr s) = some (0, mkH scr s') ∧ FrP s s1 H ∧ FrP s1 s' P ∧ PR s' P (k, le, wo, 0, 0, dn, []) ∧ PR s1 H (k', le', wo', ca' + ca, ow', dn', gainAll mo l l' l.length) := by
  have hl6 : l.length ≤ 6 := hp.2.2.2.2.2.2.2.1
  have h := forUp (X := ST) l.length (fun j x => EvI (EvM (d + 1)) C55 0 2 [.ref P, .ref H, .int (nI mo), .int (nI j)] [] (mkH scr x))
    (fun j x => FrP s x H ∧ PR x H (k', le', wo', ca', ow', dn', gainAll mo l l' j))
    (fun r => ∃ s1 s', r = some (0, mkH scr s') ∧ FrP s s1 H ∧ FrP s1 s' P ∧ PR s' P (k, le, wo, 0, 0, dn, []) ∧ PR s1 H (k', le', wo', ca' + ca, ow', dn', gainAll mo l l' l.length)) ?_ ?_ (x := s) ⟨FrP.rf s H, hh⟩
  · obtain ⟨s1, s', e1, e2⟩ := h
    refine ⟨s1, s', ?_, e2⟩
    rw [ev55, e55_0]
    simp (disch := omega) only [e55_0, e55_1, e55_3, e55_4, e55_7, e55_10, e55_11, e55_12, e55_15, e55_16, e55_17, e55_18, e55_21, e55_24, e55_27, e55_28, e55_29, e55_32, e55_33, e55_36, e55_37, e55_40, e55_41, e55_42, e55_45, e55_46, e55_47, e55_50, e55_51, e55_52, e55_55, ↓reduceIte, ↓gi0, ↓gr0, ↓gl0, ↓gi1, ↓gr1, ↓gl1, ↓gi2, ↓gr2, ↓gl2, ↓gi3, ↓gr3, ↓gl3, ↓gi4, ↓gr4, ↓gl4, ↓gi5, ↓gr5, ↓gl5, ↓gi6, ↓gr6, ↓gl6, ↓gi7, ↓gr7, ↓gl7, ↓gi8, ↓gr8, ↓gl8, ↓gi9, ↓gr9, ↓gl9, ↓qI, ↓qI2, ↓qL, ↓qL2, ↓qR, ↓qV, ↓pd0, ↓ta0, ↓ts0, ↓pd1, ↓ta1, ↓ts1, ↓pd2, ↓ta2, ↓ts2, ↓pd3, ↓ta3, ↓ts3, ↓pd4, ↓ta4, ↓ts4, ↓pd5, ↓ta5, ↓ts5, ↓pd6, ↓ta6, ↓ts6, lGet, lSet, okS, isLg, Bool.not_false, Bool.not_true, Bool.false_eq_true, not_false_eq_true, not_true_eq_false, catS, okR1, okR20, okR21, okR2b, List.length_cons, List.length_nil, List.drop_succ_cons, List.drop_zero, List.drop_nil, and_self, true_and, and_true, false_and, and_false, Nat.reduceAdd, Nat.reduceLeDiff, Nat.zero_add, Nat.le_refl, Nat.zero_le, pushR, reduceCtorEq, or_self, or_false, false_or, true_or, or_true]
    exact e1
  · intro j x hj ⟨hF, hx⟩
    have hpx := PR_fr hp hF (by omega)
    obtain ⟨x1, a1, a2, a3⟩ := c_gain d (scr := scr) hH hx.2.2.2.2.2.2 (lt_d l j) mo
    refine ⟨x1, ⟨hF.tr a3.p, hx.lots a3 a2⟩, ?_⟩
    have h7 := hpx.2.2.2.2.2.2.1
    have hd := (hpx.2.2.2.2.2.2.2.2 j hj).1
    simp only at h7 hd
    rw [e55_2]
    simp (disch := omega) only [e55_0, e55_1, e55_3, e55_4, e55_7, e55_10, e55_11, e55_12, e55_15, e55_16, e55_17, e55_18, e55_21, e55_24, e55_27, e55_28, e55_29, e55_32, e55_33, e55_36, e55_37, e55_40, e55_41, e55_42, e55_45, e55_46, e55_47, e55_50, e55_51, e55_52, e55_55, ↓reduceIte, ↓gi0, ↓gr0, ↓gl0, ↓gi1, ↓gr1, ↓gl1, ↓gi2, ↓gr2, ↓gl2, ↓gi3, ↓gr3, ↓gl3, ↓gi4, ↓gr4, ↓gl4, ↓gi5, ↓gr5, ↓gl5, ↓gi6, ↓gr6, ↓gl6, ↓gi7, ↓gr7, ↓gl7, ↓gi8, ↓gr8, ↓gl8, ↓gi9, ↓gr9, ↓gl9, ↓qI, ↓qI2, ↓qL, ↓qL2, ↓qR, ↓qV, ↓pd0, ↓ta0, ↓ts0, ↓pd1, ↓ta1, ↓ts1, ↓pd2, ↓ta2, ↓ts2, ↓pd3, ↓ta3, ↓ts3, ↓pd4, ↓ta4, ↓ts4, ↓pd5, ↓ta5, ↓ts5, ↓pd6, ↓ta6, ↓ts6, lGet, lSet, okS, isLg, Bool.not_false, Bool.not_true, Bool.false_eq_true, not_false_eq_true, not_true_eq_false, catS, okR1, okR20, okR21, okR2b, List.length_cons, List.length_nil, List.drop_succ_cons, List.drop_zero, List.drop_nil, and_self, true_and, and_true, false_and, and_false, Nat.reduceAdd, Nat.reduceLeDiff, Nat.zero_add, Nat.le_refl, Nat.zero_le, pushR, reduceCtorEq, or_self, or_false, false_or, true_or, or_true, ltT, ltF, leT, leF, eqF, eqT, lt0F, ge0T, le0T, le0F, eq0T, eq0F, gt0T, gt0F, nI_add, nI_1, pk_mul, subT, sub1, divT, remN, natRem, ↓per_gb hP 7 (by decide), h7, ↓per_db hP, ↓per_dlb hP, hd, per_cl hH, ↓bnd a1]
  · intro x ⟨hF, hx⟩
    have hpx := PR_fr hp hF (by omega)
    have hF1 : FrP s (u2 x H 4 (ca' + ca)) H := hF.tr (FrP.n (by decide))
    refine ⟨u2 x H 4 (ca' + ca), u2 (u2 (u2 (u2 x H 4 (ca' + ca)) P 7 0) P 4 0) P 5 0, ?_, hF1, (FrP.n (by decide)).tr ((FrP.n (by decide)).tr (FrP.n (by decide))), ?_, ?_⟩
    · have h7 := hpx.2.2.2.2.2.2.1
      have h4 := hpx.2.2.2.1
      have h4' := hx.2.2.2.1
      simp only at h7 h4 h4'
      rw [e55_2]
      simp (disch := omega) only [e55_0, e55_1, e55_3, e55_4, e55_7, e55_10, e55_11, e55_12, e55_15, e55_16, e55_17, e55_18, e55_21, e55_24, e55_27, e55_28, e55_29, e55_32, e55_33, e55_36, e55_37, e55_40, e55_41, e55_42, e55_45, e55_46, e55_47, e55_50, e55_51, e55_52, e55_55, ↓reduceIte, ↓gi0, ↓gr0, ↓gl0, ↓gi1, ↓gr1, ↓gl1, ↓gi2, ↓gr2, ↓gl2, ↓gi3, ↓gr3, ↓gl3, ↓gi4, ↓gr4, ↓gl4, ↓gi5, ↓gr5, ↓gl5, ↓gi6, ↓gr6, ↓gl6, ↓gi7, ↓gr7, ↓gl7, ↓gi8, ↓gr8, ↓gl8, ↓gi9, ↓gr9, ↓gl9, ↓qI, ↓qI2, ↓qL, ↓qL2, ↓qR, ↓qV, ↓pd0, ↓ta0, ↓ts0, ↓pd1, ↓ta1, ↓ts1, ↓pd2, ↓ta2, ↓ts2, ↓pd3, ↓ta3, ↓ts3, ↓pd4, ↓ta4, ↓ts4, ↓pd5, ↓ta5, ↓ts5, ↓pd6, ↓ta6, ↓ts6, lGet, lSet, okS, isLg, Bool.not_false, Bool.not_true, Bool.false_eq_true, not_false_eq_true, not_true_eq_false, catS, okR1, okR20, okR21, okR2b, List.length_cons, List.length_nil, List.drop_succ_cons, List.drop_zero, List.drop_nil, and_self, true_and, and_true, false_and, and_false, Nat.reduceAdd, Nat.reduceLeDiff, Nat.zero_add, Nat.le_refl, Nat.zero_le, pushR, reduceCtorEq, or_self, or_false, false_or, true_or, or_true, ltT, ltF, leT, leF, eqF, eqT, lt0F, ge0T, le0T, le0F, eq0T, eq0F, gt0T, gt0F, nI_add, nI_1, pk_mul, subT, sub1, divT, remN, natRem, ↓per_gb hP 7 (by decide), h7, ↓per_gb hP 4 (by decide), ↓per_gb hH 4 (by decide), h4, h4', ↓per_pb hH 4 (by decide), ↓per_pb hP 4 (by decide), ↓per_pb hP 5 (by decide), ↓per_pb hP 7 (by decide)]
    · have g := PR_fr hp hF1 (by omega)
      exact PR_owe (PR_set (PR_nil g) 0) 0
    · exact PR_set hx _
/-- County.refusalOfSale -/
def refS (n : Nat) (ps pb : PT) : Int32 := if sumD ps.2.2.2.2.2.2 < n then -1000002 else if 9999 < sumD pb.2.2.2.2.2.2 + n then -1000003 else 0
theorem sumD_lt {l : LT} (h6 : l.length ≤ 6) (h : ∀ i, i < l.length → lt_d l i < 2 ^ 20) : sumD l < 2 ^ 23 := by
  have g : ∀ k, k ≤ l.length → sumD (l.take k) ≤ k * 2 ^ 20 := by
    intro k
    induction k with
    | zero => intro _; simp [sumD]
    | succ k ih =>
      intro hk
      rw [sumD_take l (by omega)]
      have := ih (by omega)
      have := h k (by omega)
      omega
  have := g l.length (Nat.le_refl _)
  rw [List.take_length] at this
  omega
theorem pOk_sum {p : PT} {s : ST} (hp : PR s P p) (h : pOk p) : sumD p.2.2.2.2.2.2 < 2 ^ 23 := sumD_lt hp.2.2.2.2.2.2.2.1 (fun i hi => (h.2.2.1 i hi).1)
theorem c_refS (d : Nat) (hC : cty C) {c : CY} (hc : CR s C c) (hok : cyOk c) {a b n : Nat} (ha : a < c.2.2.2.1) (hb : b < c.2.2.2.1) (hn : n < 2 ^ 20) : EvM (d + 2) 26 [.ref C, .int (nI a), .int (nI b), .int (nI n)] (mkH scr s) = some (refS n (c.2.2.2.2 a) (c.2.2.2.2 b), mkH scr s) := by
  have h6 := hc.2.2.2.2.1
  have ha6 : a < 6 := by omega
  have hb6 : b < 6 := by omega
  have hpa := hc.2.2.2.2.2 a ha
  have hpb := hc.2.2.2.2.2 b hb
  have hua := c_unspent d (scr := scr) (hC.2.2 a ha6) hpa.2.2.2.2.2.2
  have hub := c_unspent d (scr := scr) (hC.2.2 b hb6) hpb.2.2.2.2.2.2
  have hsa := pOk_sum hpa (hok.2.2.2 a ha)
  have hsb := pOk_sum hpb (hok.2.2.2 b hb)
  rw [ev26, e26_0]
  unfold refS
  by_cases h1 : sumD (c.2.2.2.2 a).2.2.2.2.2.2 < n
  · simp (disch := omega) only [e26_0, e26_1, e26_4, e26_5, e26_6, e26_9, e26_10, e26_13, e26_15, e26_16, e26_17, e26_20, e26_21, e26_22, e26_25, e26_26, e26_27, e26_30, e26_33, e26_35, e26_38, e26_39, ↓reduceIte, ↓gi0, ↓gr0, ↓gl0, ↓gi1, ↓gr1, ↓gl1, ↓gi2, ↓gr2, ↓gl2, ↓gi3, ↓gr3, ↓gl3, ↓gi4, ↓gr4, ↓gl4, ↓gi5, ↓gr5, ↓gl5, ↓gi6, ↓gr6, ↓gl6, ↓gi7, ↓gr7, ↓gl7, ↓gi8, ↓gr8, ↓gl8, ↓gi9, ↓gr9, ↓gl9, ↓qI, ↓qI2, ↓qL, ↓qL2, ↓qR, ↓qV, ↓pd0, ↓ta0, ↓ts0, ↓pd1, ↓ta1, ↓ts1, ↓pd2, ↓ta2, ↓ts2, ↓pd3, ↓ta3, ↓ts3, ↓pd4, ↓ta4, ↓ts4, ↓pd5, ↓ta5, ↓ts5, ↓pd6, ↓ta6, ↓ts6, lGet, lSet, okS, isLg, Bool.not_false, Bool.not_true, Bool.false_eq_true, not_false_eq_true, not_true_eq_false, catS, okR1, okR20, okR21, okR2b, List.length_cons, List.length_nil, List.drop_succ_cons, List.drop_zero, List.drop_nil, and_self, true_and, and_true, false_and, and_false, Nat.reduceAdd, Nat.reduceLeDiff, Nat.zero_add, Nat.le_refl, Nat.zero_le, pushR, reduceCtorEq, or_self, or_false, false_or, true_or, or_true, ltT, ltF, leT, leF, eqF, eqT, lt0F, ge0T, le0T, le0F, eq0T, eq0F, gt0T, gt0F, nI_add, nI_1, pk_mul, subT, sub1, divT, remN, natRem, ↓cty_ab hC, ↓cty_lb hC, per_cl (hC.2.2 a ha6), ↓bnd hua, h1]
  · by_cases h2 : 9999 < sumD (c.2.2.2.2 b).2.2.2.2.2.2 + n
    · simp (disch := omega) only [e26_0, e26_1, e26_4, e26_5, e26_6, e26_9, e26_10, e26_13, e26_15, e26_16, e26_17, e26_20, e26_21, e26_22, e26_25, e26_26, e26_27, e26_30, e26_33, e26_35, e26_38, e26_39, ↓reduceIte, ↓gi0, ↓gr0, ↓gl0, ↓gi1, ↓gr1, ↓gl1, ↓gi2, ↓gr2, ↓gl2, ↓gi3, ↓gr3, ↓gl3, ↓gi4, ↓gr4, ↓gl4, ↓gi5, ↓gr5, ↓gl5, ↓gi6, ↓gr6, ↓gl6, ↓gi7, ↓gr7, ↓gl7, ↓gi8, ↓gr8, ↓gl8, ↓gi9, ↓gr9, ↓gl9, ↓qI, ↓qI2, ↓qL, ↓qL2, ↓qR, ↓qV, ↓pd0, ↓ta0, ↓ts0, ↓pd1, ↓ta1, ↓ts1, ↓pd2, ↓ta2, ↓ts2, ↓pd3, ↓ta3, ↓ts3, ↓pd4, ↓ta4, ↓ts4, ↓pd5, ↓ta5, ↓ts5, ↓pd6, ↓ta6, ↓ts6, lGet, lSet, okS, isLg, Bool.not_false, Bool.not_true, Bool.false_eq_true, not_false_eq_true, not_true_eq_false, catS, okR1, okR20, okR21, okR2b, List.length_cons, List.length_nil, List.drop_succ_cons, List.drop_zero, List.drop_nil, and_self, true_and, and_true, false_and, and_false, Nat.reduceAdd, Nat.reduceLeDiff, Nat.zero_add, Nat.le_refl, Nat.zero_le, pushR, reduceCtorEq, or_self, or_false, false_or, true_or, or_true, ltT, ltF, leT, leF, eqF, eqT, lt0F, ge0T, le0T, le0F, eq0T, eq0F, gt0T, gt0F, nI_add, nI_1, pk_mul, subT, sub1, divT, remN, natRem, show (9999 : Int32) = nI 9999 from rfl, ↓cty_ab hC, ↓cty_lb hC, per_cl (hC.2.2 a ha6), per_cl (hC.2.2 b hb6), ↓bnd hua, ↓bnd hub, h1, h2]
    · simp (disch := omega) only [e26_0, e26_1, e26_4, e26_5, e26_6, e26_9, e26_10, e26_13, e26_15, e26_16, e26_17, e26_20, e26_21, e26_22, e26_25, e26_26, e26_27, e26_30, e26_33, e26_35, e26_38, e26_39, ↓reduceIte, ↓gi0, ↓gr0, ↓gl0, ↓gi1, ↓gr1, ↓gl1, ↓gi2, ↓gr2, ↓gl2, ↓gi3, ↓gr3, ↓gl3, ↓gi4, ↓gr4, ↓gl4, ↓gi5, ↓gr5, ↓gl5, ↓gi6, ↓gr6, ↓gl6, ↓gi7, ↓gr7, ↓gl7, ↓gi8, ↓gr8, ↓gl8, ↓gi9, ↓gr9, ↓gl9, ↓qI, ↓qI2, ↓qL, ↓qL2, ↓qR, ↓qV, ↓pd0, ↓ta0, ↓ts0, ↓pd1, ↓ta1, ↓ts1, ↓pd2, ↓ta2, ↓ts2, ↓pd3, ↓ta3, ↓ts3, ↓pd4, ↓ta4, ↓ts4, ↓pd5, ↓ta5, ↓ts5, ↓pd6, ↓ta6, ↓ts6, lGet, lSet, okS, isLg, Bool.not_false, Bool.not_true, Bool.false_eq_true, not_false_eq_true, not_true_eq_false, catS, okR1, okR20, okR21, okR2b, List.length_cons, List.length_nil, List.drop_succ_cons, List.drop_zero, List.drop_nil, and_self, true_and, and_true, false_and, and_false, Nat.reduceAdd, Nat.reduceLeDiff, Nat.zero_add, Nat.le_refl, Nat.zero_le, pushR, reduceCtorEq, or_self, or_false, false_or, true_or, or_true, ltT, ltF, leT, leF, eqF, eqT, lt0F, ge0T, le0T, le0F, eq0T, eq0F, gt0T, gt0F, nI_add, nI_1, pk_mul, subT, sub1, divT, remN, natRem, show (9999 : Int32) = nI 9999 from rfl, ↓cty_ab hC, ↓cty_lb hC, per_cl (hC.2.2 a ha6), per_cl (hC.2.2 b hb6), ↓bnd hua, ↓bnd hub, h1, h2]
end CM5
