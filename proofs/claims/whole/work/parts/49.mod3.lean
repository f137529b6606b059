/-! ===== the reference: the end of a month, a month ===== -/
/-- what does not move of a county, at the row's begin -/
def MS (s : ST) (c : CY) : Prop := s.1 615 1 = nI c.1 ∧ s.1 615 2 = nI c.2.1 ∧ s.1 615 3 = nI c.2.2.2.1 ∧ c.2.2.2.1 ≤ 6 ∧ ∀ i, i < c.2.2.2.1 → s.1 615 (4 + 3 * i) = nI (c.2.2.2.2 i).1 ∧ s.1 615 (4 + 3 * i + 1) = nI (c.2.2.2.2 i).2.1 ∧ s.1 615 (4 + 3 * i + 2) = nI (c.2.2.2.2 i).2.2.1
/-- what moves of it, from the place b on -/
def MV (s : ST) (b : Nat) (c : CY) : Prop := s.1 615 (b + 22) = nI c.2.2.1 ∧ ∀ i, i < c.2.2.2.1 → MP s 615 (b + 23 + 16 * i) (c.2.2.2.2 i)
theorem MS.ext {s s' : ST} {c : CY} (h : MS s c) (g : ∀ k, k < 22 → s'.1 615 k = s.1 615 k) : MS s' c := by
  obtain ⟨h1, h2, h3, h6, h4⟩ := h
  refine ⟨by rw [g 1 (by omega)]; exact h1, by rw [g 2 (by omega)]; exact h2, by rw [g 3 (by omega)]; exact h3, h6, fun i hi => ?_⟩
  rw [g _ (by omega), g _ (by omega), g _ (by omega)]
  exact h4 i hi
/-- the same in what does not move -/
def stE (c c' : CY) : Prop := c'.1 = c.1 ∧ c'.2.1 = c.2.1 ∧ c'.2.2.2.1 = c.2.2.2.1 ∧ ∀ i, i < c.2.2.2.1 → (c'.2.2.2.2 i).1 = (c.2.2.2.2 i).1 ∧ (c'.2.2.2.2 i).2.1 = (c.2.2.2.2 i).2.1 ∧ (c'.2.2.2.2 i).2.2.1 = (c.2.2.2.2 i).2.2.1
theorem stE.rf (c : CY) : stE c c := ⟨rfl, rfl, rfl, fun _ _ => ⟨rfl, rfl, rfl⟩⟩
theorem stE.tr {a b c : CY} (h : stE a b) (g : stE b c) : stE a c := ⟨g.1.trans h.1, g.2.1.trans h.2.1, g.2.2.1.trans h.2.2.1, fun i hi => by
  have h1 := h.2.2.2 i hi
  have h2 := g.2.2.2 i (by rw [h.2.2.1]; exact hi)
  exact ⟨h2.1.trans h1.1, h2.2.1.trans h1.2.1, h2.2.2.trans h1.2.2⟩⟩
theorem stE.sy {a b : CY} (h : stE a b) : stE b a := ⟨h.1.symm, h.2.1.symm, h.2.2.1.symm, fun i hi => by
  have h1 := h.2.2.2 i (by rw [← h.2.2.1]; exact hi)
  exact ⟨h1.1.symm, h1.2.1.symm, h1.2.2.symm⟩⟩
theorem MS.st {s : ST} {c c' : CY} (h : MS s c) (e : stE c c') : MS s c' := by
  obtain ⟨h1, h2, h3, h6, h4⟩ := h
  obtain ⟨e1, e2, e3, e4⟩ := e
  refine ⟨by rw [e1]; exact h1, by rw [e2]; exact h2, by rw [e3]; exact h3, by rw [e3]; exact h6, fun i hi => ?_⟩
  rw [e3] at hi
  rw [(e4 i hi).1, (e4 i hi).2.1, (e4 i hi).2.2]
  exact h4 i hi
theorem stE_end (c : CY) : stE c (cEnd c) := ⟨rfl, rfl, rfl, fun _ _ => ⟨rfl, rfl, rfl⟩⟩
theorem pDraw_st (w x : Nat) (p : PT) : (pDraw w x p).1 = p.1 ∧ (pDraw w x p).2.1 = p.2.1 ∧ (pDraw w x p).2.2.1 = p.2.2.1 := by
  unfold pDraw
  split <;> exact ⟨rfl, rfl, rfl⟩
theorem stE_draw (x : Nat) (c : CY) : stE c (cDraw x c) := ⟨rfl, rfl, rfl, fun i _ => pDraw_st _ _ _⟩
theorem stE_mths (c : CY) (x : Nat) : ∀ k, stE c (mths c x k).1
  | 0 => stE.rf c
  | k + 1 => (stE_mths c x k).tr ((stE_draw _ _).tr (stE_end _))
theorem zap_h {k : Nat} {l : LT} {mo tm : Int32} (h : isOfB k 3 = true) : ∀ j, zap k l mo tm j = l
  | 0 => rfl
  | j + 1 => by
    show (if lapB k l j mo tm then _ else zap k l mo tm j) = l
    have : lapB k l j mo tm = false := by unfold lapB; rw [h]; rfl
    rw [this]
    exact zap_h h j
section MM3
variable {scr : Nat × (Nat → Int32)} {s : ST}
theorem m_endMonth (d : Nat) {b : Nat} {t w m n : Nat} {f : Nat → PT} (hS : MS s (t, w, m, n, f)) (hV : MV s b (t, w, m, n, f)) (hok : cyOk (t, w, m, n, f)) (hb : b + 119 ≤ 476) : ∃ s', EvM (d + 3) 159 [.ref 614, .int (nI b)] (mkH scr s) = some (0, mkH scr s') ∧ MV s' b (cEnd (t, w, m, n, f)) ∧ FrA s s' 615 (b + 22) (b + 119) := by
  obtain ⟨st1, -, st3, h6, stk⟩ := hS
  obtain ⟨vm, vp⟩ := hV
  simp only at st1 st3 h6 stk vm vp
  have h := forUp (X := ST × Value × Value × Value) n (fun p y => EvI (EvM (d + 2)) C159 0 2 [.ref 614, .int (nI b), .int (nI p), y.2.1, y.2.2.1, y.2.2.2] [] (mkH scr y.1))
    (fun p y => FrA s y.1 615 (b + 22) (b + 119) ∧ y.1.1 615 (b + 22) = nI m ∧ ∀ i, i < n → MP y.1 615 (b + 23 + 16 * i) (if i < p then pEnd (nI m) (nI t) (f i) else f i))
    (fun r => ∃ s', r = some (0, mkH scr s') ∧ MV s' b (cEnd (t, w, m, n, f)) ∧ FrA s s' 615 (b + 22) (b + 119)) ?_ ?_ (x := (s, jk, jk, jk)) ⟨FrA.rf s 615 _ _, vm, fun i hi => vp i hi⟩
  · obtain ⟨s', e1, e2⟩ := h
    refine ⟨s', ?_, e2⟩
    rw [ev159, e159_0]
    simp (disch := omega) only [e159_0, e159_1, e159_3, e159_4, e159_7, e159_8, e159_9, e159_12, e159_13, e159_14, e159_17, e159_18, e159_19, e159_21, e159_23, e159_24, e159_27, e159_28, e159_29, e159_30, e159_31, e159_34, e159_35, e159_36, e159_39, e159_40, e159_43, e159_44, e159_47, e159_48, e159_50, e159_51, e159_52, e159_53, e159_56, e159_57, e159_58, e159_59, e159_60, e159_62, e159_63, e159_64, e159_65, e159_66, e159_67, e159_68, e159_69, e159_72, e159_73, e159_74, e159_77, e159_78, e159_81, e159_82, e159_84, e159_85, e159_88, e159_89, e159_90, e159_91, e159_92, e159_94, e159_95, e159_96, e159_98, e159_101, e159_102, e159_105, e159_106, e159_109, e159_110, e159_111, e159_112, e159_113, e159_115, e159_116, e159_117, e159_118, e159_119, e159_122, e159_125, e159_126, e159_127, e159_128, e159_131, e159_132, e159_135, e159_136, e159_137, e159_138, e159_139, e159_140, e159_143, e159_144, e159_147, e159_148, e159_151, e159_152, e159_153, e159_154, e159_155, e159_156, e159_157, e159_160, e159_161, e159_164, e159_165, e159_166, e159_167, e159_168, e159_169, e159_172, e159_175, e159_176, e159_179, e159_180, e159_182, e159_183, e159_184, e159_185, e159_186, e159_187, e159_188, ↓reduceIte, ↓gi0, ↓gr0, ↓gl0, ↓gi1, ↓gr1, ↓gl1, ↓gi2, ↓gr2, ↓gl2, ↓gi3, ↓gr3, ↓gl3, ↓gi4, ↓gr4, ↓gl4, ↓gi5, ↓gr5, ↓gl5, ↓gi6, ↓gr6, ↓gl6, ↓gi7, ↓gr7, ↓gl7, ↓gi8, ↓gr8, ↓gl8, ↓gi9, ↓gr9, ↓gl9, ↓qI, ↓qI2, ↓qL, ↓qL2, ↓qR, ↓qV, ↓pd0, ↓ta0, ↓ts0, ↓pd1, ↓ta1, ↓ts1, ↓pd2, ↓ta2, ↓ts2, ↓pd3, ↓ta3, ↓ts3, ↓pd4, ↓ta4, ↓ts4, ↓pd5, ↓ta5, ↓ts5, ↓pd6, ↓ta6, ↓ts6, lGet, lSet, okS, isLg, Bool.not_false, Bool.not_true, Bool.false_eq_true, not_false_eq_true, not_true_eq_false, catS, okR1, okR20, okR21, okR2b, List.length_cons, List.length_nil, List.drop_succ_cons, List.drop_zero, List.drop_nil, and_self, true_and, and_true, false_and, and_false, Nat.reduceAdd, Nat.reduceLeDiff, Nat.zero_add, Nat.le_refl, Nat.zero_le, pushR, reduceCtorEq, or_self, or_false, false_or, true_or, or_true]
    exact e1
  · intro p y hp ⟨hF, gm, gp⟩
    obtain ⟨s1, x3, x4, x5⟩ := y
    simp only at hF gm gp ⊢
    have hp6 : p < 6 := by omega
    have hpm := gp p hp
    rw [if_neg (Nat.lt_irrefl p)] at hpm
    have hopk := hok.2.2.2 p hp
    have hkp := (stk p hp).1
    simp only at hopk
    generalize hfp : f p = pt at *
    obtain ⟨k, le, wo, ca, ow, dn, l⟩ := pt
    obtain ⟨m0, m1, m2, mL⟩ := hpm
    obtain ⟨k6, o9, hd, -, -⟩ := hopk
    simp only at hkp m0 m1 m2 mL k6 o9 hd
    have h3 := mL.1
    have hl6 := mL.2.1
    have ho : b + 23 + 16 * p + 16 ≤ b + 119 := by omega
    have hat := m_at (h := mkH scr s1) (d + 1) b p
    have q3 : s1.1 615 3 = nI n := by rw [hF.2 615 3 (by omega)]; exact st3
    have hgo : ∃ s2 x4' x5', EvI (EvM (d + 2)) C159 0 21 [.ref 614, .int (nI b), .int (nI p), .int (nI (b + 23 + 16 * p)), .int 0, x5] [] (mkH scr s1) = EvI (EvM (d + 2)) C159 0 125 [.ref 614, .int (nI b), .int (nI p), .int (nI (b + 23 + 16 * p)), x4', x5'] [] (mkH scr s2) ∧ FrA s1 s2 615 (b + 23 + 16 * p + 3) (b + 23 + 16 * p + 16) ∧ ML s2 615 (b + 23 + 16 * p) (zap k l (nI m) (nI t) l.length) := by
      have hkd := m_kindOf (d + 1) (scr := scr) (s := s1) hp6 ((hF.2 615 (4 + 3 * p) (by omega)).trans hkp)
      by_cases hk3 : k = 3
      · refine ⟨s1, .int 0, x5, ?_, FrA.rf _ _ _ _, ?_⟩
        · rw [e159_21]
          by_cases hl0 : l.length = 0
          · simp (disch := omega) only [e159_0, e159_1, e159_3, e159_4, e159_7, e159_8, e159_9, e159_12, e159_13, e159_14, e159_17, e159_18, e159_19, e159_21, e159_23, e159_24, e159_27, e159_28, e159_29, e159_30, e159_31, e159_34, e159_35, e159_36, e159_39, e159_40, e159_43, e159_44, e159_47, e159_48, e159_50, e159_51, e159_52, e159_53, e159_56, e159_57, e159_58, e159_59, e159_60, e159_62, e159_63, e159_64, e159_65, e159_66, e159_67, e159_68, e159_69, e159_72, e159_73, e159_74, e159_77, e159_78, e159_81, e159_82, e159_84, e159_85, e159_88, e159_89, e159_90, e159_91, e159_92, e159_94, e159_95, e159_96, e159_98, e159_101, e159_102, e159_105, e159_106, e159_109, e159_110, e159_111, e159_112, e159_113, e159_115, e159_116, e159_117, e159_118, e159_119, e159_122, e159_126, e159_127, e159_128, e159_131, e159_132, e159_135, e159_136, e159_137, e159_138, e159_139, e159_140, e159_143, e159_144, e159_147, e159_148, e159_151, e159_152, e159_153, e159_154, e159_155, e159_156, e159_157, e159_160, e159_161, e159_164, e159_165, e159_166, e159_167, e159_168, e159_169, e159_172, e159_175, e159_176, e159_179, e159_180, e159_182, e159_183, e159_184, e159_185, e159_186, e159_187, e159_188, ↓reduceIte, ↓gi0, ↓gr0, ↓gl0, ↓gi1, ↓gr1, ↓gl1, ↓gi2, ↓gr2, ↓gl2, ↓gi3, ↓gr3, ↓gl3, ↓gi4, ↓gr4, ↓gl4, ↓gi5, ↓gr5, ↓gl5, ↓gi6, ↓gr6, ↓gl6, ↓gi7, ↓gr7, ↓gl7, ↓gi8, ↓gr8, ↓gl8, ↓gi9, ↓gr9, ↓gl9, ↓qI, ↓qI2, ↓qL, ↓qL2, ↓qR, ↓qV, ↓pd0, ↓ta0, ↓ts0, ↓pd1, ↓ta1, ↓ts1, ↓pd2, ↓ta2, ↓ts2, ↓pd3, ↓ta3, ↓ts3, ↓pd4, ↓ta4, ↓ts4, ↓pd5, ↓ta5, ↓ts5, ↓pd6, ↓ta6, ↓ts6, lGet, lSet, okS, isLg, Bool.not_false, Bool.not_true, Bool.false_eq_true, not_false_eq_true, not_true_eq_false, catS, okR1, okR20, okR21, okR2b, List.length_cons, List.length_nil, List.drop_succ_cons, List.drop_zero, List.drop_nil, and_self, true_and, and_true, false_and, and_false, Nat.reduceAdd, Nat.reduceLeDiff, Nat.zero_add, Nat.le_refl, Nat.zero_le, pushR, reduceCtorEq, or_self, or_false, false_or, true_or, or_true, ltT, ltF, leT, leF, eqF, eqT, lt0F, ge0T, le0T, le0F, eq0T, eq0F, gt0T, gt0F, nI_add, nI_1, pk_mul, subT, sub1, divT, remN, natRem, n2, n3, n4, n5, n6, n7, n8, n9, n10, n12, n16, n22, n23, n24, n40, n48, n57, n60, n97, n99, n100, n119, n120, n238, n357, n999, n9999, n2231, Int32.add_zero, K614, ↓G614_0, ↓G614_1, ↓G614_2, ↓U614_2, ↓G614_3, ↓G614_4, ↓U614_4, ↓G614_5, ↓U614_5, ↓G614_6, ↓U614_6, ↓G614_7, ↓G614_8, ↓G614_9, ↓G614_10, ↓G614_11, ↓U614_11, ↓G614_12, ↓U614_12, ↓G614_13, ↓U614_13, ↓G614_14, ↓U614_14, ↓G614_15, ↓G614_16, ↓U614_16, ↓G614_18, ↓U614_18, ↓G614_19, ↓I615, ↓S615, h3, hl0, show (0 : Int32) = nI 0 from rfl]
          · simp (disch := omega) only [e159_0, e159_1, e159_3, e159_4, e159_7, e159_8, e159_9, e159_12, e159_13, e159_14, e159_17, e159_18, e159_19, e159_21, e159_23, e159_24, e159_27, e159_28, e159_29, e159_30, e159_31, e159_34, e159_35, e159_36, e159_39, e159_40, e159_43, e159_44, e159_47, e159_48, e159_50, e159_51, e159_52, e159_53, e159_56, e159_57, e159_58, e159_59, e159_60, e159_62, e159_63, e159_64, e159_65, e159_66, e159_67, e159_68, e159_69, e159_72, e159_73, e159_74, e159_77, e159_78, e159_81, e159_82, e159_84, e159_85, e159_88, e159_89, e159_90, e159_91, e159_92, e159_94, e159_95, e159_96, e159_98, e159_101, e159_102, e159_105, e159_106, e159_109, e159_110, e159_111, e159_112, e159_113, e159_115, e159_116, e159_117, e159_118, e159_119, e159_122, e159_126, e159_127, e159_128, e159_131, e159_132, e159_135, e159_136, e159_137, e159_138, e159_139, e159_140, e159_143, e159_144, e159_147, e159_148, e159_151, e159_152, e159_153, e159_154, e159_155, e159_156, e159_157, e159_160, e159_161, e159_164, e159_165, e159_166, e159_167, e159_168, e159_169, e159_172, e159_175, e159_176, e159_179, e159_180, e159_182, e159_183, e159_184, e159_185, e159_186, e159_187, e159_188, ↓reduceIte, ↓gi0, ↓gr0, ↓gl0, ↓gi1, ↓gr1, ↓gl1, ↓gi2, ↓gr2, ↓gl2, ↓gi3, ↓gr3, ↓gl3, ↓gi4, ↓gr4, ↓gl4, ↓gi5, ↓gr5, ↓gl5, ↓gi6, ↓gr6, ↓gl6, ↓gi7, ↓gr7, ↓gl7, ↓gi8, ↓gr8, ↓gl8, ↓gi9, ↓gr9, ↓gl9, ↓qI, ↓qI2, ↓qL, ↓qL2, ↓qR, ↓qV, ↓pd0, ↓ta0, ↓ts0, ↓pd1, ↓ta1, ↓ts1, ↓pd2, ↓ta2, ↓ts2, ↓pd3, ↓ta3, ↓ts3, ↓pd4, ↓ta4, ↓ts4, ↓pd5, ↓ta5, ↓ts5, ↓pd6, ↓ta6, ↓ts6, lGet, lSet, okS, isLg, Bool.not_false, Bool.not_true, Bool.false_eq_true, not_false_eq_true, not_true_eq_false, catS, okR1, okR20, okR21, okR2b, List.length_cons, List.length_nil, List.drop_succ_cons, List.drop_zero, List.drop_nil, and_self, true_and, and_true, false_and, and_false, Nat.reduceAdd, Nat.reduceLeDiff, Nat.zero_add, Nat.le_refl, Nat.zero_le, pushR, reduceCtorEq, or_self, or_false, false_or, true_or, or_true, ltT, ltF, leT, leF, eqF, eqT, lt0F, ge0T, le0T, le0F, eq0T, eq0F, gt0T, gt0F, nI_add, nI_1, pk_mul, subT, sub1, divT, remN, natRem, n2, n3, n4, n5, n6, n7, n8, n9, n10, n12, n16, n22, n23, n24, n40, n48, n57, n60, n97, n99, n100, n119, n120, n238, n357, n999, n9999, n2231, Int32.add_zero, K614, ↓G614_0, ↓G614_1, ↓G614_2, ↓U614_2, ↓G614_3, ↓G614_4, ↓U614_4, ↓G614_5, ↓U614_5, ↓G614_6, ↓U614_6, ↓G614_7, ↓G614_8, ↓G614_9, ↓G614_10, ↓G614_11, ↓U614_11, ↓G614_12, ↓U614_12, ↓G614_13, ↓U614_13, ↓G614_14, ↓U614_14, ↓G614_15, ↓G614_16, ↓U614_16, ↓G614_18, ↓U614_18, ↓G614_19, ↓I615, ↓S615, h3, ↓bnd hkd, hk3, show (0 : Int32) = nI 0 from rfl]
        · rw [zap_h (by rw [is3 k k6]; exact decide_eq_true hk3)]
          exact mL
      · have h2 := forUp (X := ST × Value) l.length (fun j z => EvI (EvM (d + 2)) C159 0 21 [.ref 614, .int (nI b), .int (nI p), .int (nI (b + 23 + 16 * p)), .int (nI j), z.2] [] (mkH scr z.1))
          (fun j z => FrA s1 z.1 615 (b + 23 + 16 * p + 3) (b + 23 + 16 * p + 16) ∧ ML z.1 615 (b + 23 + 16 * p) (zap k l (nI m) (nI t) j))
          (fun r => ∃ s2 x4' x5', r = EvI (EvM (d + 2)) C159 0 125 [.ref 614, .int (nI b), .int (nI p), .int (nI (b + 23 + 16 * p)), x4', x5'] [] (mkH scr s2) ∧ FrA s1 s2 615 (b + 23 + 16 * p + 3) (b + 23 + 16 * p + 16) ∧ ML s2 615 (b + 23 + 16 * p) (zap k l (nI m) (nI t) l.length)) ?_ ?_ (x := (s1, x5)) ⟨FrA.rf _ _ _ _, mL⟩
        · exact h2
        · intro j z hj ⟨hFz, hz⟩
          obtain ⟨s3, y5⟩ := z
          simp only at hFz hz ⊢
          have hkd3 := m_kindOf (d + 1) (scr := scr) (s := s3) hp6 ((hFz.2 615 (4 + 3 * p) (by omega)).trans ((hF.2 615 (4 + 3 * p) (by omega)).trans hkp))
          have z3 := hz.1
          have hzj := hz.2.2 j (by rw [zap_len]; exact hj)
          rw [zap_m] at hzj
          rw [zap_len] at z3
          have z22 : s3.1 615 (b + 22) = nI m := by rw [hFz.2 615 (b + 22) (by omega)]; exact gm
          have z1 : s3.1 615 1 = nI t := by rw [hFz.2 615 1 (by omega), hF.2 615 1 (by omega)]; exact st1
          have hzap : zap k l (nI m) (nI t) (j + 1) = if lapB k l j (nI m) (nI t) then (zap k l (nI m) (nI t) j).set j (0, lt_m l j) else zap k l (nI m) (nI t) j := rfl
          have hlb : lapB k l j (nI m) (nI t) = !(decide (nI m - nI (lt_m l j) < nI t)) := by
            unfold lapB
            rw [is3 k k6, decide_eq_false hk3]
            rfl
          by_cases hc : nI m - nI (lt_m l j) < nI t
          · refine ⟨(s3, .int 0), ⟨hFz, ?_⟩, ?_⟩
            · simp only
              rw [hzap, hlb, decide_eq_true hc]
              exact hz
            · simp only
              rw [e159_21]
              have hs := u2_self (s := s3) (a := 615) (k := b + 23 + 16 * p + 4 + 2 * j) rfl
              simp (disch := omega) only [e159_0, e159_1, e159_3, e159_4, e159_7, e159_8, e159_9, e159_12, e159_13, e159_14, e159_17, e159_18, e159_19, e159_23, e159_24, e159_27, e159_28, e159_29, e159_30, e159_31, e159_34, e159_35, e159_36, e159_39, e159_40, e159_43, e159_44, e159_47, e159_48, e159_50, e159_51, e159_52, e159_53, e159_56, e159_57, e159_58, e159_59, e159_60, e159_62, e159_63, e159_64, e159_65, e159_66, e159_67, e159_68, e159_69, e159_72, e159_73, e159_74, e159_77, e159_78, e159_81, e159_82, e159_84, e159_85, e159_88, e159_89, e159_90, e159_91, e159_92, e159_94, e159_95, e159_96, e159_98, e159_101, e159_102, e159_105, e159_106, e159_109, e159_110, e159_111, e159_112, e159_113, e159_115, e159_116, e159_117, e159_118, e159_119, e159_122, e159_126, e159_127, e159_128, e159_131, e159_132, e159_135, e159_136, e159_137, e159_138, e159_139, e159_140, e159_143, e159_144, e159_147, e159_148, e159_151, e159_152, e159_153, e159_154, e159_155, e159_156, e159_157, e159_160, e159_161, e159_164, e159_165, e159_166, e159_167, e159_168, e159_169, e159_172, e159_175, e159_176, e159_179, e159_180, e159_182, e159_183, e159_184, e159_185, e159_186, e159_187, e159_188, ↓reduceIte, ↓gi0, ↓gr0, ↓gl0, ↓gi1, ↓gr1, ↓gl1, ↓gi2, ↓gr2, ↓gl2, ↓gi3, ↓gr3, ↓gl3, ↓gi4, ↓gr4, ↓gl4, ↓gi5, ↓gr5, ↓gl5, ↓gi6, ↓gr6, ↓gl6, ↓gi7, ↓gr7, ↓gl7, ↓gi8, ↓gr8, ↓gl8, ↓gi9, ↓gr9, ↓gl9, ↓qI, ↓qI2, ↓qL, ↓qL2, ↓qR, ↓qV, ↓pd0, ↓ta0, ↓ts0, ↓pd1, ↓ta1, ↓ts1, ↓pd2, ↓ta2, ↓ts2, ↓pd3, ↓ta3, ↓ts3, ↓pd4, ↓ta4, ↓ts4, ↓pd5, ↓ta5, ↓ts5, ↓pd6, ↓ta6, ↓ts6, lGet, lSet, okS, isLg, Bool.not_false, Bool.not_true, Bool.false_eq_true, not_false_eq_true, not_true_eq_false, catS, okR1, okR20, okR21, okR2b, List.length_cons, List.length_nil, List.drop_succ_cons, List.drop_zero, List.drop_nil, and_self, true_and, and_true, false_and, and_false, Nat.reduceAdd, Nat.reduceLeDiff, Nat.zero_add, Nat.le_refl, Nat.zero_le, pushR, reduceCtorEq, or_self, or_false, false_or, true_or, or_true, ltT, ltF, leT, leF, eqF, eqT, nI_add, nI_1, pk_mul, show (1 : Int32) = nI 1 from rfl, n2, n3, n4, n5, n6, n7, n8, n9, n10, n12, n16, n22, n23, n24, n40, n48, n57, n60, n97, n99, n100, n119, n120, n238, n357, n999, n9999, n2231, Int32.add_zero, K614, ↓G614_0, ↓G614_1, ↓G614_2, ↓U614_2, ↓G614_3, ↓G614_4, ↓U614_4, ↓G614_5, ↓U614_5, ↓G614_6, ↓U614_6, ↓G614_7, ↓G614_8, ↓G614_9, ↓G614_10, ↓G614_11, ↓U614_11, ↓G614_12, ↓U614_12, ↓G614_13, ↓U614_13, ↓G614_14, ↓U614_14, ↓G614_15, ↓G614_16, ↓U614_16, ↓G614_18, ↓U614_18, ↓G614_19, ↓I615, ↓S615, z3, ↓bnd hkd3, z22, z1, hzj.2, hc, hs]
          · refine ⟨(u2 s3 615 (b + 23 + 16 * p + 4 + 2 * j) 0, .int 1), ⟨hFz.tr (FrA.u (by omega) (by omega)), ?_⟩, ?_⟩
            · simp only
              rw [hzap, hlb, decide_eq_false hc]
              have := ML_set (x := 0) hz (i := j) (by rw [zap_len]; exact hj)
              rw [zap_m] at this
              exact this
            · simp only
              rw [e159_21]
              simp (disch := omega) only [e159_0, e159_1, e159_3, e159_4, e159_7, e159_8, e159_9, e159_12, e159_13, e159_14, e159_17, e159_18, e159_19, e159_23, e159_24, e159_27, e159_28, e159_29, e159_30, e159_31, e159_34, e159_35, e159_36, e159_39, e159_40, e159_43, e159_44, e159_47, e159_48, e159_50, e159_51, e159_52, e159_53, e159_56, e159_57, e159_58, e159_59, e159_60, e159_62, e159_63, e159_64, e159_65, e159_66, e159_67, e159_68, e159_69, e159_72, e159_73, e159_74, e159_77, e159_78, e159_81, e159_82, e159_84, e159_85, e159_88, e159_89, e159_90, e159_91, e159_92, e159_94, e159_95, e159_96, e159_98, e159_101, e159_102, e159_105, e159_106, e159_109, e159_110, e159_111, e159_112, e159_113, e159_115, e159_116, e159_117, e159_118, e159_119, e159_122, e159_126, e159_127, e159_128, e159_131, e159_132, e159_135, e159_136, e159_137, e159_138, e159_139, e159_140, e159_143, e159_144, e159_147, e159_148, e159_151, e159_152, e159_153, e159_154, e159_155, e159_156, e159_157, e159_160, e159_161, e159_164, e159_165, e159_166, e159_167, e159_168, e159_169, e159_172, e159_175, e159_176, e159_179, e159_180, e159_182, e159_183, e159_184, e159_185, e159_186, e159_187, e159_188, ↓reduceIte, ↓gi0, ↓gr0, ↓gl0, ↓gi1, ↓gr1, ↓gl1, ↓gi2, ↓gr2, ↓gl2, ↓gi3, ↓gr3, ↓gl3, ↓gi4, ↓gr4, ↓gl4, ↓gi5, ↓gr5, ↓gl5, ↓gi6, ↓gr6, ↓gl6, ↓gi7, ↓gr7, ↓gl7, ↓gi8, ↓gr8, ↓gl8, ↓gi9, ↓gr9, ↓gl9, ↓qI, ↓qI2, ↓qL, ↓qL2, ↓qR, ↓qV, ↓pd0, ↓ta0, ↓ts0, ↓pd1, ↓ta1, ↓ts1, ↓pd2, ↓ta2, ↓ts2, ↓pd3, ↓ta3, ↓ts3, ↓pd4, ↓ta4, ↓ts4, ↓pd5, ↓ta5, ↓ts5, ↓pd6, ↓ta6, ↓ts6, lGet, lSet, okS, isLg, Bool.not_false, Bool.not_true, Bool.false_eq_true, not_false_eq_true, not_true_eq_false, catS, okR1, okR20, okR21, okR2b, List.length_cons, List.length_nil, List.drop_succ_cons, List.drop_zero, List.drop_nil, and_self, true_and, and_true, false_and, and_false, Nat.reduceAdd, Nat.reduceLeDiff, Nat.zero_add, Nat.le_refl, Nat.zero_le, pushR, reduceCtorEq, or_self, or_false, false_or, true_or, or_true, ltT, ltF, leT, leF, eqF, eqT, nI_add, nI_1, pk_mul, show (1 : Int32) = nI 1 from rfl, eq0F, n2, n3, n4, n5, n6, n7, n8, n9, n10, n12, n16, n22, n23, n24, n40, n48, n57, n60, n97, n99, n100, n119, n120, n238, n357, n999, n9999, n2231, Int32.add_zero, K614, ↓G614_0, ↓G614_1, ↓G614_2, ↓U614_2, ↓G614_3, ↓G614_4, ↓U614_4, ↓G614_5, ↓U614_5, ↓G614_6, ↓U614_6, ↓G614_7, ↓G614_8, ↓G614_9, ↓G614_10, ↓G614_11, ↓U614_11, ↓G614_12, ↓U614_12, ↓G614_13, ↓U614_13, ↓G614_14, ↓U614_14, ↓G614_15, ↓G614_16, ↓U614_16, ↓G614_18, ↓U614_18, ↓G614_19, ↓I615, ↓S615, z3, ↓bnd hkd3, z22, z1, hzj.2, hc]
        · intro z ⟨hFz, hz⟩
          obtain ⟨s3, y5⟩ := z
          simp only at hFz hz ⊢
          refine ⟨s3, .int (nI l.length), y5, ?_, hFz, hz⟩
          have z3 := hz.1
          rw [zap_len] at z3
          rw [e159_21]
          simp (disch := omega) only [e159_0, e159_1, e159_3, e159_4, e159_7, e159_8, e159_9, e159_12, e159_13, e159_14, e159_17, e159_18, e159_19, e159_23, e159_24, e159_27, e159_28, e159_29, e159_30, e159_31, e159_34, e159_35, e159_36, e159_39, e159_40, e159_43, e159_44, e159_47, e159_48, e159_50, e159_51, e159_52, e159_53, e159_56, e159_57, e159_58, e159_59, e159_60, e159_62, e159_63, e159_64, e159_65, e159_66, e159_67, e159_68, e159_69, e159_72, e159_73, e159_74, e159_77, e159_78, e159_81, e159_82, e159_84, e159_85, e159_88, e159_89, e159_90, e159_91, e159_92, e159_94, e159_95, e159_96, e159_98, e159_101, e159_102, e159_105, e159_106, e159_109, e159_110, e159_111, e159_112, e159_113, e159_115, e159_116, e159_117, e159_118, e159_119, e159_122, e159_126, e159_127, e159_128, e159_131, e159_132, e159_135, e159_136, e159_137, e159_138, e159_139, e159_140, e159_143, e159_144, e159_147, e159_148, e159_151, e159_152, e159_153, e159_154, e159_155, e159_156, e159_157, e159_160, e159_161, e159_164, e159_165, e159_166, e159_167, e159_168, e159_169, e159_172, e159_175, e159_176, e159_179, e159_180, e159_182, e159_183, e159_184, e159_185, e159_186, e159_187, e159_188, ↓reduceIte, ↓gi0, ↓gr0, ↓gl0, ↓gi1, ↓gr1, ↓gl1, ↓gi2, ↓gr2, ↓gl2, ↓gi3, ↓gr3, ↓gl3, ↓gi4, ↓gr4, ↓gl4, ↓gi5, ↓gr5, ↓gl5, ↓gi6, ↓gr6, ↓gl6, ↓gi7, ↓gr7, ↓gl7, ↓gi8, ↓gr8, ↓gl8, ↓gi9, ↓gr9, ↓gl9, ↓qI, ↓qI2, ↓qL, ↓qL2, ↓qR, ↓qV, ↓pd0, ↓ta0, ↓ts0, ↓pd1, ↓ta1, ↓ts1, ↓pd2, ↓ta2, ↓ts2, ↓pd3, ↓ta3, ↓ts3, ↓pd4, ↓ta4, ↓ts4, ↓pd5, ↓ta5, ↓ts5, ↓pd6, ↓ta6, ↓ts6, lGet, lSet, okS, isLg, Bool.not_false, Bool.not_true, Bool.false_eq_true, not_false_eq_true, not_true_eq_false, catS, okR1, okR20, okR21, okR2b, List.length_cons, List.length_nil, List.drop_succ_cons, List.drop_zero, List.drop_nil, and_self, true_and, and_true, false_and, and_false, Nat.reduceAdd, Nat.reduceLeDiff, Nat.zero_add, Nat.le_refl, Nat.zero_le, pushR, reduceCtorEq, or_self, or_false, false_or, true_or, or_true, ltT, ltF, leT, leF, eqF, eqT, lt0F, ge0T, le0T, le0F, eq0T, eq0F, gt0T, gt0F, nI_add, nI_1, pk_mul, subT, sub1, divT, remN, natRem, n2, n3, n4, n5, n6, n7, n8, n9, n10, n12, n16, n22, n23, n24, n40, n48, n57, n60, n97, n99, n100, n119, n120, n238, n357, n999, n9999, n2231, Int32.add_zero, K614, ↓G614_0, ↓G614_1, ↓G614_2, ↓U614_2, ↓G614_3, ↓G614_4, ↓U614_4, ↓G614_5, ↓U614_5, ↓G614_6, ↓U614_6, ↓G614_7, ↓G614_8, ↓G614_9, ↓G614_10, ↓G614_11, ↓U614_11, ↓G614_12, ↓U614_12, ↓G614_13, ↓U614_13, ↓G614_14, ↓U614_14, ↓G614_15, ↓G614_16, ↓U614_16, ↓G614_18, ↓U614_18, ↓G614_19, ↓I615, ↓S615, z3]
    obtain ⟨s2, x4', x5', e1, e2, e3⟩ := hgo
    obtain ⟨s4, a1, a2, a3⟩ := m_closeUp d (scr := scr) e3 (by omega) (fun i hi => by
      rw [zap_len] at hi
      have := (hd i hi).1
      have := zap_d (k := k) (l := l) (mo := nI m) (tm := nI t) l.length i
      omega)
    have f4 := e2.tr a3
    have hkd4 := m_kindOf (d + 1) (scr := scr) (s := s4) hp6 ((f4.2 615 (4 + 3 * p) (by omega)).trans ((hF.2 615 (4 + 3 * p) (by omega)).trans hkp))
    have w0 : s4.1 615 (b + 23 + 16 * p) = nI ow := by rw [f4.2 615 _ (by omega)]; exact m0
    have w1 : s4.1 615 (b + 23 + 16 * p + 1) = ca := by rw [f4.2 615 _ (by omega)]; exact m1
    have w2 : s4.1 615 (b + 23 + 16 * p + 2) = dn := by rw [f4.2 615 _ (by omega)]; exact m2
    have h5 := is5 k k6
    refine ⟨(u2 s4 615 (b + 23 + 16 * p) (nI (if isOfB k 5 then ow / 2 else ow)), .int (nI (b + 23 + 16 * p)), x4', x5'), ⟨hF.tr ((f4.w (by omega) (by omega)).tr (FrA.u (by omega) (by omega))), ?_, fun i hi => ?_⟩, ?_⟩
    · show (u2 s4 615 _ _).1 615 (b + 22) = _
      rw [u2_oth _ _ (by omega), f4.2 615 _ (by omega)]
      exact gm
    · show MP (u2 s4 615 _ _) 615 _ _
      by_cases hip : i = p
      · subst hip
        have e1 : (if i < i + 1 then pEnd (nI m) (nI t) (f i) else f i) = pEnd (nI m) (nI t) (k, le, wo, ca, ow, dn, l) := by rw [if_pos (Nat.lt_succ_self i), hfp]
        rw [e1]
        exact ⟨u2_same _ _ _ _, by rw [u2_oth _ _ (by omega)]; exact w1, by rw [u2_oth _ _ (by omega)]; exact w2, ML.ext a2 (fun j g3 hj => u2_oth _ _ (by omega))⟩
      · have := gp i hi
        have e : (if i < p + 1 then pEnd (nI m) (nI t) (f i) else f i) = if i < p then pEnd (nI m) (nI t) (f i) else f i := by
          by_cases q : i < p
          · rw [if_pos q, if_pos (by omega)]
          · rw [if_neg q, if_neg (by omega)]
        rw [e]
        exact MP.ext this (fun j hj => by rw [u2_oth _ _ (by omega), f4.2 615 _ (by omega)])
    · simp only
      rw [e159_2]
      by_cases hk5 : k = 5
      · rw [h5, decide_eq_true hk5]
        simp (disch := omega) only [e159_0, e159_1, e159_3, e159_4, e159_7, e159_8, e159_9, e159_12, e159_13, e159_14, e159_17, e159_18, e159_19, e159_23, e159_24, e159_27, e159_28, e159_29, e159_30, e159_31, e159_34, e159_35, e159_36, e159_39, e159_40, e159_43, e159_44, e159_47, e159_48, e159_50, e159_51, e159_52, e159_53, e159_56, e159_57, e159_58, e159_59, e159_60, e159_62, e159_63, e159_64, e159_65, e159_66, e159_67, e159_68, e159_69, e159_72, e159_73, e159_74, e159_77, e159_78, e159_81, e159_82, e159_84, e159_85, e159_88, e159_89, e159_90, e159_91, e159_92, e159_94, e159_95, e159_96, e159_98, e159_101, e159_102, e159_105, e159_106, e159_109, e159_110, e159_111, e159_112, e159_113, e159_115, e159_116, e159_117, e159_118, e159_119, e159_122, e159_126, e159_127, e159_128, e159_131, e159_132, e159_135, e159_136, e159_137, e159_138, e159_139, e159_140, e159_143, e159_144, e159_147, e159_148, e159_151, e159_152, e159_153, e159_154, e159_155, e159_156, e159_157, e159_160, e159_161, e159_164, e159_165, e159_166, e159_167, e159_168, e159_169, e159_172, e159_175, e159_176, e159_179, e159_180, e159_182, e159_183, e159_184, e159_185, e159_186, e159_187, e159_188, ↓reduceIte, ↓gi0, ↓gr0, ↓gl0, ↓gi1, ↓gr1, ↓gl1, ↓gi2, ↓gr2, ↓gl2, ↓gi3, ↓gr3, ↓gl3, ↓gi4, ↓gr4, ↓gl4, ↓gi5, ↓gr5, ↓gl5, ↓gi6, ↓gr6, ↓gl6, ↓gi7, ↓gr7, ↓gl7, ↓gi8, ↓gr8, ↓gl8, ↓gi9, ↓gr9, ↓gl9, ↓qI, ↓qI2, ↓qL, ↓qL2, ↓qR, ↓qV, ↓pd0, ↓ta0, ↓ts0, ↓pd1, ↓ta1, ↓ts1, ↓pd2, ↓ta2, ↓ts2, ↓pd3, ↓ta3, ↓ts3, ↓pd4, ↓ta4, ↓ts4, ↓pd5, ↓ta5, ↓ts5, ↓pd6, ↓ta6, ↓ts6, lGet, lSet, okS, isLg, Bool.not_false, Bool.not_true, Bool.false_eq_true, not_false_eq_true, not_true_eq_false, catS, okR1, okR20, okR21, okR2b, List.length_cons, List.length_nil, List.drop_succ_cons, List.drop_zero, List.drop_nil, and_self, true_and, and_true, false_and, and_false, Nat.reduceAdd, Nat.reduceLeDiff, Nat.zero_add, Nat.le_refl, Nat.zero_le, pushR, reduceCtorEq, or_self, or_false, false_or, true_or, or_true, ltT, ltF, leT, leF, eqF, eqT, lt0F, ge0T, le0T, le0F, eq0T, eq0F, gt0T, gt0F, nI_add, nI_1, pk_mul, subT, sub1, divT, remN, natRem, n2, n3, n4, n5, n6, n7, n8, n9, n10, n12, n16, n22, n23, n24, n40, n48, n57, n60, n97, n99, n100, n119, n120, n238, n357, n999, n9999, n2231, Int32.add_zero, K614, ↓G614_0, ↓G614_1, ↓G614_2, ↓U614_2, ↓G614_3, ↓G614_4, ↓U614_4, ↓G614_5, ↓U614_5, ↓G614_6, ↓U614_6, ↓G614_7, ↓G614_8, ↓G614_9, ↓G614_10, ↓G614_11, ↓U614_11, ↓G614_12, ↓U614_12, ↓G614_13, ↓U614_13, ↓G614_14, ↓U614_14, ↓G614_15, ↓G614_16, ↓U614_16, ↓G614_18, ↓U614_18, ↓G614_19, ↓I615, ↓S615, q3, ↓bnd hat]
        rw [e1]
        rw [e159_125]
        simp (disch := omega) only [e159_0, e159_1, e159_3, e159_4, e159_7, e159_8, e159_9, e159_12, e159_13, e159_14, e159_17, e159_18, e159_19, e159_23, e159_24, e159_27, e159_28, e159_29, e159_30, e159_31, e159_34, e159_35, e159_36, e159_39, e159_40, e159_43, e159_44, e159_47, e159_48, e159_50, e159_51, e159_52, e159_53, e159_56, e159_57, e159_58, e159_59, e159_60, e159_62, e159_63, e159_64, e159_65, e159_66, e159_67, e159_68, e159_69, e159_72, e159_73, e159_74, e159_77, e159_78, e159_81, e159_82, e159_84, e159_85, e159_88, e159_89, e159_90, e159_91, e159_92, e159_94, e159_95, e159_96, e159_98, e159_101, e159_102, e159_105, e159_106, e159_109, e159_110, e159_111, e159_112, e159_113, e159_115, e159_116, e159_117, e159_118, e159_119, e159_122, e159_126, e159_127, e159_128, e159_131, e159_132, e159_135, e159_136, e159_137, e159_138, e159_139, e159_140, e159_143, e159_144, e159_147, e159_148, e159_151, e159_152, e159_153, e159_154, e159_155, e159_156, e159_157, e159_160, e159_161, e159_164, e159_165, e159_166, e159_167, e159_168, e159_169, e159_172, e159_175, e159_176, e159_179, e159_180, e159_182, e159_183, e159_184, e159_185, e159_186, e159_187, e159_188, ↓reduceIte, ↓gi0, ↓gr0, ↓gl0, ↓gi1, ↓gr1, ↓gl1, ↓gi2, ↓gr2, ↓gl2, ↓gi3, ↓gr3, ↓gl3, ↓gi4, ↓gr4, ↓gl4, ↓gi5, ↓gr5, ↓gl5, ↓gi6, ↓gr6, ↓gl6, ↓gi7, ↓gr7, ↓gl7, ↓gi8, ↓gr8, ↓gl8, ↓gi9, ↓gr9, ↓gl9, ↓qI, ↓qI2, ↓qL, ↓qL2, ↓qR, ↓qV, ↓pd0, ↓ta0, ↓ts0, ↓pd1, ↓ta1, ↓ts1, ↓pd2, ↓ta2, ↓ts2, ↓pd3, ↓ta3, ↓ts3, ↓pd4, ↓ta4, ↓ts4, ↓pd5, ↓ta5, ↓ts5, ↓pd6, ↓ta6, ↓ts6, lGet, lSet, okS, isLg, Bool.not_false, Bool.not_true, Bool.false_eq_true, not_false_eq_true, not_true_eq_false, catS, okR1, okR20, okR21, okR2b, List.length_cons, List.length_nil, List.drop_succ_cons, List.drop_zero, List.drop_nil, and_self, true_and, and_true, false_and, and_false, Nat.reduceAdd, Nat.reduceLeDiff, Nat.zero_add, Nat.le_refl, Nat.zero_le, pushR, reduceCtorEq, or_self, or_false, false_or, true_or, or_true, ltT, ltF, leT, leF, eqF, eqT, lt0F, ge0T, le0T, le0F, eq0T, eq0F, gt0T, gt0F, nI_add, nI_1, pk_mul, subT, sub1, divT, remN, natRem, n2, n3, n4, n5, n6, n7, n8, n9, n10, n12, n16, n22, n23, n24, n40, n48, n57, n60, n97, n99, n100, n119, n120, n238, n357, n999, n9999, n2231, Int32.add_zero, K614, ↓G614_0, ↓G614_1, ↓G614_2, ↓U614_2, ↓G614_3, ↓G614_4, ↓U614_4, ↓G614_5, ↓U614_5, ↓G614_6, ↓U614_6, ↓G614_7, ↓G614_8, ↓G614_9, ↓G614_10, ↓G614_11, ↓U614_11, ↓G614_12, ↓U614_12, ↓G614_13, ↓U614_13, ↓G614_14, ↓U614_14, ↓G614_15, ↓G614_16, ↓U614_16, ↓G614_18, ↓U614_18, ↓G614_19, ↓I615, ↓S615, ↓bnd a1, ↓bnd hkd4, w0, hk5]
      · rw [h5, decide_eq_false hk5]
        simp (disch := omega) only [e159_0, e159_1, e159_3, e159_4, e159_7, e159_8, e159_9, e159_12, e159_13, e159_14, e159_17, e159_18, e159_19, e159_23, e159_24, e159_27, e159_28, e159_29, e159_30, e159_31, e159_34, e159_35, e159_36, e159_39, e159_40, e159_43, e159_44, e159_47, e159_48, e159_50, e159_51, e159_52, e159_53, e159_56, e159_57, e159_58, e159_59, e159_60, e159_62, e159_63, e159_64, e159_65, e159_66, e159_67, e159_68, e159_69, e159_72, e159_73, e159_74, e159_77, e159_78, e159_81, e159_82, e159_84, e159_85, e159_88, e159_89, e159_90, e159_91, e159_92, e159_94, e159_95, e159_96, e159_98, e159_101, e159_102, e159_105, e159_106, e159_109, e159_110, e159_111, e159_112, e159_113, e159_115, e159_116, e159_117, e159_118, e159_119, e159_122, e159_126, e159_127, e159_128, e159_131, e159_132, e159_135, e159_136, e159_137, e159_138, e159_139, e159_140, e159_143, e159_144, e159_147, e159_148, e159_151, e159_152, e159_153, e159_154, e159_155, e159_156, e159_157, e159_160, e159_161, e159_164, e159_165, e159_166, e159_167, e159_168, e159_169, e159_172, e159_175, e159_176, e159_179, e159_180, e159_182, e159_183, e159_184, e159_185, e159_186, e159_187, e159_188, ↓reduceIte, ↓gi0, ↓gr0, ↓gl0, ↓gi1, ↓gr1, ↓gl1, ↓gi2, ↓gr2, ↓gl2, ↓gi3, ↓gr3, ↓gl3, ↓gi4, ↓gr4, ↓gl4, ↓gi5, ↓gr5, ↓gl5, ↓gi6, ↓gr6, ↓gl6, ↓gi7, ↓gr7, ↓gl7, ↓gi8, ↓gr8, ↓gl8, ↓gi9, ↓gr9, ↓gl9, ↓qI, ↓qI2, ↓qL, ↓qL2, ↓qR, ↓qV, ↓pd0, ↓ta0, ↓ts0, ↓pd1, ↓ta1, ↓ts1, ↓pd2, ↓ta2, ↓ts2, ↓pd3, ↓ta3, ↓ts3, ↓pd4, ↓ta4, ↓ts4, ↓pd5, ↓ta5, ↓ts5, ↓pd6, ↓ta6, ↓ts6, lGet, lSet, okS, isLg, Bool.not_false, Bool.not_true, Bool.false_eq_true, not_false_eq_true, not_true_eq_false, catS, okR1, okR20, okR21, okR2b, List.length_cons, List.length_nil, List.drop_succ_cons, List.drop_zero, List.drop_nil, and_self, true_and, and_true, false_and, and_false, Nat.reduceAdd, Nat.reduceLeDiff, Nat.zero_add, Nat.le_refl, Nat.zero_le, pushR, reduceCtorEq, or_self, or_false, false_or, true_or, or_true, ltT, ltF, leT, leF, eqF, eqT, lt0F, ge0T, le0T, le0F, eq0T, eq0F, gt0T, gt0F, nI_add, nI_1, pk_mul, subT, sub1, divT, remN, natRem, n2, n3, n4, n5, n6, n7, n8, n9, n10, n12, n16, n22, n23, n24, n40, n48, n57, n60, n97, n99, n100, n119, n120, n238, n357, n999, n9999, n2231, Int32.add_zero, K614, ↓G614_0, ↓G614_1, ↓G614_2, ↓U614_2, ↓G614_3, ↓G614_4, ↓U614_4, ↓G614_5, ↓U614_5, ↓G614_6, ↓U614_6, ↓G614_7, ↓G614_8, ↓G614_9, ↓G614_10, ↓G614_11, ↓U614_11, ↓G614_12, ↓U614_12, ↓G614_13, ↓U614_13, ↓G614_14, ↓U614_14, ↓G614_15, ↓G614_16, ↓U614_16, ↓G614_18, ↓U614_18, ↓G614_19, ↓I615, ↓S615, q3, ↓bnd hat]
        rw [e1]
        rw [e159_125]
        simp (disch := omega) only [e159_0, e159_1, e159_3, e159_4, e159_7, e159_8, e159_9, e159_12, e159_13, e159_14, e159_17, e159_18, e159_19, e159_23, e159_24, e159_27, e159_28, e159_29, e159_30, e159_31, e159_34, e159_35, e159_36, e159_39, e159_40, e159_43, e159_44, e159_47, e159_48, e159_50, e159_51, e159_52, e159_53, e159_56, e159_57, e159_58, e159_59, e159_60, e159_62, e159_63, e159_64, e159_65, e159_66, e159_67, e159_68, e159_69, e159_72, e159_73, e159_74, e159_77, e159_78, e159_81, e159_82, e159_84, e159_85, e159_88, e159_89, e159_90, e159_91, e159_92, e159_94, e159_95, e159_96, e159_98, e159_101, e159_102, e159_105, e159_106, e159_109, e159_110, e159_111, e159_112, e159_113, e159_115, e159_116, e159_117, e159_118, e159_119, e159_122, e159_126, e159_127, e159_128, e159_131, e159_132, e159_135, e159_136, e159_137, e159_138, e159_139, e159_140, e159_143, e159_144, e159_147, e159_148, e159_151, e159_152, e159_153, e159_154, e159_155, e159_156, e159_157, e159_160, e159_161, e159_164, e159_165, e159_166, e159_167, e159_168, e159_169, e159_172, e159_175, e159_176, e159_179, e159_180, e159_182, e159_183, e159_184, e159_185, e159_186, e159_187, e159_188, ↓reduceIte, ↓gi0, ↓gr0, ↓gl0, ↓gi1, ↓gr1, ↓gl1, ↓gi2, ↓gr2, ↓gl2, ↓gi3, ↓gr3, ↓gl3, ↓gi4, ↓gr4, ↓gl4, ↓gi5, ↓gr5, ↓gl5, ↓gi6, ↓gr6, ↓gl6, ↓gi7, ↓gr7, ↓gl7, ↓gi8, ↓gr8, ↓gl8, ↓gi9, ↓gr9, ↓gl9, ↓qI, ↓qI2, ↓qL, ↓qL2, ↓qR, ↓qV, ↓pd0, ↓ta0, ↓ts0, ↓pd1, ↓ta1, ↓ts1, ↓pd2, ↓ta2, ↓ts2, ↓pd3, ↓ta3, ↓ts3, ↓pd4, ↓ta4, ↓ts4, ↓pd5, ↓ta5, ↓ts5, ↓pd6, ↓ta6, ↓ts6, lGet, lSet, okS, isLg, Bool.not_false, Bool.not_true, Bool.false_eq_true, not_false_eq_true, not_true_eq_false, catS, okR1, okR20, okR21, okR2b, List.length_cons, List.length_nil, List.drop_succ_cons, List.drop_zero, List.drop_nil, and_self, true_and, and_true, false_and, and_false, Nat.reduceAdd, Nat.reduceLeDiff, Nat.zero_add, Nat.le_refl, Nat.zero_le, pushR, reduceCtorEq, or_self, or_false, false_or, true_or, or_true, ltT, ltF, leT, leF, eqF, eqT, lt0F, ge0T, le0T, le0F, eq0T, eq0F, gt0T, gt0F, nI_add, nI_1, pk_mul, subT, sub1, divT, remN, natRem, n2, n3, n4, n5, n6, n7, n8, n9, n10, n12, n16, n22, n23, n24, n40, n48, n57, n60, n97, n99, n100, n119, n120, n238, n357, n999, n9999, n2231, Int32.add_zero, K614, ↓G614_0, ↓G614_1, ↓G614_2, ↓U614_2, ↓G614_3, ↓G614_4, ↓U614_4, ↓G614_5, ↓U614_5, ↓G614_6, ↓U614_6, ↓G614_7, ↓G614_8, ↓G614_9, ↓G614_10, ↓G614_11, ↓U614_11, ↓G614_12, ↓U614_12, ↓G614_13, ↓U614_13, ↓G614_14, ↓U614_14, ↓G614_15, ↓G614_16, ↓U614_16, ↓G614_18, ↓U614_18, ↓G614_19, ↓I615, ↓S615, ↓bnd a1, ↓bnd hkd4, w0]
  · intro y ⟨hF, gm, gp⟩
    obtain ⟨s1, x3, x4, x5⟩ := y
    simp only at hF gm gp ⊢
    have q3 : s1.1 615 3 = nI n := by rw [hF.2 615 3 (by omega)]; exact st3
    refine ⟨u2 s1 615 (b + 22) (nI (m + 1)), ?_, ⟨u2_same _ _ _ _, fun i hi => ?_⟩, hF.tr (FrA.u (by omega) (by omega))⟩
    · rw [e159_2]
      simp (disch := omega) only [e159_0, e159_1, e159_3, e159_4, e159_7, e159_8, e159_9, e159_12, e159_13, e159_14, e159_17, e159_18, e159_19, e159_23, e159_24, e159_27, e159_28, e159_29, e159_30, e159_31, e159_34, e159_35, e159_36, e159_39, e159_40, e159_43, e159_44, e159_47, e159_48, e159_50, e159_51, e159_52, e159_53, e159_56, e159_57, e159_58, e159_59, e159_60, e159_62, e159_63, e159_64, e159_65, e159_66, e159_67, e159_68, e159_69, e159_72, e159_73, e159_74, e159_77, e159_78, e159_81, e159_82, e159_84, e159_85, e159_88, e159_89, e159_90, e159_91, e159_92, e159_94, e159_95, e159_96, e159_98, e159_101, e159_102, e159_105, e159_106, e159_109, e159_110, e159_111, e159_112, e159_113, e159_115, e159_116, e159_117, e159_118, e159_119, e159_122, e159_125, e159_126, e159_127, e159_128, e159_131, e159_132, e159_135, e159_136, e159_137, e159_138, e159_139, e159_140, e159_143, e159_144, e159_147, e159_148, e159_151, e159_152, e159_153, e159_154, e159_155, e159_156, e159_157, e159_160, e159_161, e159_164, e159_165, e159_166, e159_167, e159_168, e159_169, e159_172, e159_175, e159_176, e159_179, e159_180, e159_182, e159_183, e159_184, e159_185, e159_186, e159_187, e159_188, ↓reduceIte, ↓gi0, ↓gr0, ↓gl0, ↓gi1, ↓gr1, ↓gl1, ↓gi2, ↓gr2, ↓gl2, ↓gi3, ↓gr3, ↓gl3, ↓gi4, ↓gr4, ↓gl4, ↓gi5, ↓gr5, ↓gl5, ↓gi6, ↓gr6, ↓gl6, ↓gi7, ↓gr7, ↓gl7, ↓gi8, ↓gr8, ↓gl8, ↓gi9, ↓gr9, ↓gl9, ↓qI, ↓qI2, ↓qL, ↓qL2, ↓qR, ↓qV, ↓pd0, ↓ta0, ↓ts0, ↓pd1, ↓ta1, ↓ts1, ↓pd2, ↓ta2, ↓ts2, ↓pd3, ↓ta3, ↓ts3, ↓pd4, ↓ta4, ↓ts4, ↓pd5, ↓ta5, ↓ts5, ↓pd6, ↓ta6, ↓ts6, lGet, lSet, okS, isLg, Bool.not_false, Bool.not_true, Bool.false_eq_true, not_false_eq_true, not_true_eq_false, catS, okR1, okR20, okR21, okR2b, List.length_cons, List.length_nil, List.drop_succ_cons, List.drop_zero, List.drop_nil, and_self, true_and, and_true, false_and, and_false, Nat.reduceAdd, Nat.reduceLeDiff, Nat.zero_add, Nat.le_refl, Nat.zero_le, pushR, reduceCtorEq, or_self, or_false, false_or, true_or, or_true, ltT, ltF, leT, leF, eqF, eqT, lt0F, ge0T, le0T, le0F, eq0T, eq0F, gt0T, gt0F, nI_add, nI_1, pk_mul, subT, sub1, divT, remN, natRem, n2, n3, n4, n5, n6, n7, n8, n9, n10, n12, n16, n22, n23, n24, n40, n48, n57, n60, n97, n99, n100, n119, n120, n238, n357, n999, n9999, n2231, Int32.add_zero, K614, ↓G614_0, ↓G614_1, ↓G614_2, ↓U614_2, ↓G614_3, ↓G614_4, ↓U614_4, ↓G614_5, ↓U614_5, ↓G614_6, ↓U614_6, ↓G614_7, ↓G614_8, ↓G614_9, ↓G614_10, ↓G614_11, ↓U614_11, ↓G614_12, ↓U614_12, ↓G614_13, ↓U614_13, ↓G614_14, ↓U614_14, ↓G614_15, ↓G614_16, ↓U614_16, ↓G614_18, ↓U614_18, ↓G614_19, ↓I615, ↓S615, q3, gm]
    · have := gp i hi
      have hi : i < n := hi
      rw [if_pos hi] at this
      exact MP.ext this (fun j hj => u2_oth _ _ (by omega))
/-- what a month may touch: the county's places from b on, the draw, the count of deeds -/
def FrB (s s' : ST) (b : Nat) : Prop := ∀ a k, ¬ (a = 615 ∧ b + 22 ≤ k ∧ k < b + 119) → ¬ (a = 614 ∧ k = 18) → s'.1 a k = s.1 a k
theorem FrB.rf (s : ST) (b : Nat) : FrB s s b := fun _ _ _ _ => rfl
theorem FrB.tr {s s1 s2 : ST} {b : Nat} (h : FrB s s1 b) (g : FrB s1 s2 b) : FrB s s2 b := fun a k x y => (g a k x y).trans (h a k x y)
theorem FrA.b {s s1 : ST} {b lo hi : Nat} (h : FrA s s1 615 lo hi) (h1 : b + 22 ≤ lo) (h2 : hi ≤ b + 119) : FrB s s1 b := fun a k x _ => h.2 a k (fun z => x ⟨z.1, by omega, by omega⟩)
theorem l10 : (nI 10).toInt64 = lN 10 := nI_l (by decide)
theorem l10z : (lN 10 = 0) = False := by decide
theorem MP.ext2 {s s' : ST} {A o : Nat} {p : PT} (h : MP s A o p) (g : ∀ k, o ≤ k → k < o + 16 → s'.1 A k = s.1 A k) : MP s' A o p := MP.ext h (fun k hk => g (o + k) (by omega) (by omega))
theorem m_month (d : Nat) {b : Nat} {t w m n x : Nat} {f : Nat → PT} (hS : MS s (t, w, m, n, f)) (hV : MV s b (t, w, m, n, f)) (hok : cyOk (t, w, m, n, f)) (hb : b + 119 ≤ 476) (hw : 0 < w) (hx : s.2 = lN x) (hx2 : x < 2147483647) : ∃ s', EvM (d + 5) 160 [.ref 614, .int (nI b)] (mkH scr s) = some (0, mkH scr s') ∧ MV s' b (cEnd (cDraw x (t, w, m, n, f))) ∧ s'.2 = lN (itD n x) ∧ s'.1 614 18 = nI (cCnt x (t, w, m, n, f) n) ∧ FrB s s' b := by
  have hS0 := hS
  obtain ⟨st1, st2, st3, h6, stk⟩ := hS
  obtain ⟨vm, vp⟩ := hV
  have hw20 := hok.2.1
  simp only at st1 st2 st3 h6 stk vm vp hw20
  have h := forUp (X := ST) n (fun p y => EvI (EvM (d + 4)) C160 0 7 [.ref 614, .int (nI b), .int (nI p)] [] (mkH scr y))
    (fun p y => FrB s y b ∧ y.2 = lN (itD p x) ∧ y.1 614 18 = nI (cCnt x (t, w, m, n, f) p) ∧ y.1 615 (b + 22) = nI m ∧ ∀ i, i < n → MP y 615 (b + 23 + 16 * i) (cDrawN w x f p i))
    (fun r => ∃ s', r = some (0, mkH scr s') ∧ MV s' b (cEnd (cDraw x (t, w, m, n, f))) ∧ s'.2 = lN (itD n x) ∧ s'.1 614 18 = nI (cCnt x (t, w, m, n, f) n) ∧ FrB s s' b) ?_ ?_ (x := u2 s 614 18 0) ⟨fun a k _ h2 => u2_oth _ _ h2, hx, u2_same _ _ _ _, by rw [u2_oth _ _ (by omega)]; exact vm, fun i hi => ?_⟩
  · obtain ⟨s', e1, e2⟩ := h
    refine ⟨s', ?_, e2⟩
    rw [ev160, e160_0]
    simp (disch := omega) only [e160_0, e160_1, e160_2, e160_5, e160_6, e160_8, e160_9, e160_12, e160_13, e160_14, e160_17, e160_18, e160_19, e160_22, e160_25, e160_26, e160_29, e160_30, e160_33, e160_34, e160_35, e160_38, e160_39, e160_42, e160_43, e160_46, e160_49, e160_50, e160_51, e160_54, e160_55, e160_56, e160_57, e160_58, e160_59, e160_60, e160_61, e160_62, e160_63, e160_64, e160_67, e160_68, e160_69, e160_70, e160_71, e160_72, e160_75, e160_78, e160_79, e160_80, e160_83, e160_84, e160_85, e160_86, e160_87, e160_88, e160_89, e160_92, e160_93, e160_94, e160_97, e160_98, e160_99, e160_102, e160_105, e160_108, e160_109, e160_110, e160_113, ↓reduceIte, ↓gi0, ↓gr0, ↓gl0, ↓gi1, ↓gr1, ↓gl1, ↓gi2, ↓gr2, ↓gl2, ↓gi3, ↓gr3, ↓gl3, ↓gi4, ↓gr4, ↓gl4, ↓gi5, ↓gr5, ↓gl5, ↓gi6, ↓gr6, ↓gl6, ↓gi7, ↓gr7, ↓gl7, ↓gi8, ↓gr8, ↓gl8, ↓gi9, ↓gr9, ↓gl9, ↓qI, ↓qI2, ↓qL, ↓qL2, ↓qR, ↓qV, ↓pd0, ↓ta0, ↓ts0, ↓pd1, ↓ta1, ↓ts1, ↓pd2, ↓ta2, ↓ts2, ↓pd3, ↓ta3, ↓ts3, ↓pd4, ↓ta4, ↓ts4, ↓pd5, ↓ta5, ↓ts5, ↓pd6, ↓ta6, ↓ts6, lGet, lSet, okS, isLg, Bool.not_false, Bool.not_true, Bool.false_eq_true, not_false_eq_true, not_true_eq_false, catS, okR1, okR20, okR21, okR2b, List.length_cons, List.length_nil, List.drop_succ_cons, List.drop_zero, List.drop_nil, and_self, true_and, and_true, false_and, and_false, Nat.reduceAdd, Nat.reduceLeDiff, Nat.zero_add, Nat.le_refl, Nat.zero_le, pushR, reduceCtorEq, or_self, or_false, false_or, true_or, or_true, K614, ↓G614_0, ↓G614_1, ↓G614_2, ↓U614_2, ↓G614_3, ↓G614_4, ↓U614_4, ↓G614_5, ↓U614_5, ↓G614_6, ↓U614_6, ↓G614_7, ↓G614_8, ↓G614_9, ↓G614_10, ↓G614_11, ↓U614_11, ↓G614_12, ↓U614_12, ↓G614_13, ↓U614_13, ↓G614_14, ↓U614_14, ↓G614_15, ↓G614_16, ↓U614_16, ↓G614_18, ↓U614_18, ↓G614_19]
    exact e1
  · intro p y hp ⟨hF, gx, gc, gm, gp⟩
    have hp6 : p < 6 := by omega
    have hpm := gp p hp
    have hdp : cDrawN w x f p p = f p := by simp [cDrawN]
    rw [hdp] at hpm
    have hopk := hok.2.2.2 p hp
    have hkp := (stk p hp).1
    have hlp := (stk p hp).2.1
    simp only at hopk
    have hle20 : (f p).2.1 < 2 ^ 20 := hopk.2.2.2.1
    have hk6 : (f p).1 < 6 := hopk.1
    have hX := itD_lt hx2 p
    have hX1 := drw_lt (itD p x)
    have hD := lDrw hX
    have hit : itD (p + 1) x = drw (itD p x) := rfl
    generalize itD p x = X at *
    have hR10 : lN (drw X) - lN (drw X) / lN 10 * lN 10 = lN (drw X % 10) := pk_lRem (by omega) (by decide) (by decide)
    have hD10 : lN (drw X) / lN 10 = lN (drw X / 10) := pk_lDiv (by omega) (by decide) (by decide)
    have hR10' : lN (drw X) - lN (drw X / 10) * lN 10 = lN (drw X % 10) := by rw [← hD10]; exact hR10
    have hRw : lN (drw X / 10) - lN (drw X / 10) / lN w * lN w = lN (drw X / 10 % w) := pk_lRem (by omega) hw (by omega)
    have hw0 : (lN w = 0) = False := eq_false (fun z => by have := (pk_lEQ (a := w) (b := 0) (by omega) (by decide)).mp z; omega)
    have hlw := nI_l (n := w) (by omega)
    have hll := nI_l (n := (f p).2.1) (by omega)
    have q3 : y.1 615 3 = nI n := by rw [hF 615 3 (by omega) (by omega)]; exact st3
    have q2 : y.1 615 2 = nI w := by rw [hF 615 2 (by omega) (by omega)]; exact st2
    have qk : y.1 615 (4 + 3 * p) = nI (f p).1 := by rw [hF 615 _ (by omega) (by omega)]; exact hkp
    have ql : y.1 615 (4 + 3 * p + 1) = nI (f p).2.1 := by rw [hF 615 _ (by omega) (by omega)]; exact hlp
    have hkd := m_kindOf (d + 3) (scr := scr) (s := (y.1, lN (drw X))) hp6 qk
    have hcc : cCnt x (t, w, m, n, f) (p + 1) = cCnt x (t, w, m, n, f) p + nB (dB (drw X) (f p)) := by
      show cCnt x (t, w, m, n, f) p + nB (dB (itD (p + 1) x) (f p)) = _
      rw [hit]
    have hrest : ∀ i, i < n → i ≠ p → cDrawN w x f (p + 1) i = cDrawN w x f p i := by
      intro i hi hne
      unfold cDrawN
      by_cases q : i < p
      · rw [if_pos q, if_pos (by omega)]
      · rw [if_neg q, if_neg (by omega)]
    have hpp : cDrawN w x f (p + 1) p = pDraw w (drw X) (f p) := by
      unfold cDrawN
      rw [if_pos (by omega), hit]
    have hi2 := is2 (f p).1 hopk.1
    have hcl : (0 ≤ lg_cmp (lN (drw X % 10)) (lN (f p).2.1)) ↔ (f p).2.1 ≤ drw X % 10 := (lg_cmp_ge _ _).trans (pk_lLE (by omega) (by omega))
    cases hb : dB (drw X) (f p) with
    | true =>
      have hb' := hb
      unfold dB at hb'
      rw [hi2, Bool.and_eq_true] at hb'
      have hk2 : ¬ (f p).1 = 2 := by simpa using hb'.1
      have hlt : drw X % 10 < (f p).2.1 := of_decide_eq_true hb'.2
      have hlt2 : ¬ (f p).2.1 ≤ drw X % 10 := by omega
      have hmw : drw X / 10 % w < w := Nat.mod_lt _ hw
      obtain ⟨y1, a1, a2, a3⟩ := m_doDeed d (scr := scr) (s := (y.1, lN (drw X))) (b := b) (w := 1 + drw X / 10 % w) hp6 qk (MP.ext hpm (fun _ _ => rfl)) hopk (by omega) (by omega)
      have g18 : y1.1 614 18 = nI (cCnt x (t, w, m, n, f) p) := by rw [a3.2 614 18 (by omega)]; exact gc
      have hF1 : FrB y y1 b := fun a k h1 h2 => a3.2 a k (fun z => h1 ⟨z.1, by omega, by omega⟩)
      refine ⟨u2 y1 614 18 (nI (cCnt x (t, w, m, n, f) p + 1)), ⟨(hF.tr hF1).tr (fun a k _ h2 => u2_oth _ _ h2), ?_, ?_, ?_, fun i hi => ?_⟩, ?_⟩
      · rw [hit]
        exact a3.1
      · rw [hcc, hb]
        exact u2_same _ _ _ _
      · rw [u2_oth _ _ (by omega), a3.2 615 _ (by omega)]
        exact gm
      · by_cases hip : i = p
        · subst hip
          rw [hpp]
          unfold pDraw
          rw [hb]
          exact MP.ext2 a2 (fun k h1 h2 => u2_oth _ _ (by omega))
        · rw [hrest i hi hip]
          exact MP.ext2 (gp i hi) (fun k h1 h2 => by rw [u2_oth _ _ (by omega), a3.2 615 _ (by omega)])
      · rw [e160_7]
        simp (disch := omega) only [e160_0, e160_1, e160_2, e160_5, e160_6, e160_8, e160_9, e160_12, e160_13, e160_14, e160_17, e160_18, e160_19, e160_22, e160_25, e160_26, e160_29, e160_30, e160_33, e160_34, e160_35, e160_38, e160_39, e160_42, e160_43, e160_46, e160_49, e160_50, e160_51, e160_54, e160_55, e160_56, e160_57, e160_58, e160_59, e160_60, e160_61, e160_62, e160_63, e160_64, e160_67, e160_68, e160_69, e160_70, e160_71, e160_72, e160_75, e160_78, e160_79, e160_80, e160_83, e160_84, e160_85, e160_86, e160_87, e160_88, e160_89, e160_92, e160_93, e160_94, e160_97, e160_98, e160_99, e160_102, e160_105, e160_108, e160_109, e160_110, e160_113, ↓reduceIte, ↓gi0, ↓gr0, ↓gl0, ↓gi1, ↓gr1, ↓gl1, ↓gi2, ↓gr2, ↓gl2, ↓gi3, ↓gr3, ↓gl3, ↓gi4, ↓gr4, ↓gl4, ↓gi5, ↓gr5, ↓gl5, ↓gi6, ↓gr6, ↓gl6, ↓gi7, ↓gr7, ↓gl7, ↓gi8, ↓gr8, ↓gl8, ↓gi9, ↓gr9, ↓gl9, ↓qI, ↓qI2, ↓qL, ↓qL2, ↓qR, ↓qV, ↓pd0, ↓ta0, ↓ts0, ↓pd1, ↓ta1, ↓ts1, ↓pd2, ↓ta2, ↓ts2, ↓pd3, ↓ta3, ↓ts3, ↓pd4, ↓ta4, ↓ts4, ↓pd5, ↓ta5, ↓ts5, ↓pd6, ↓ta6, ↓ts6, lGet, lSet, okS, isLg, Bool.not_false, Bool.not_true, Bool.false_eq_true, not_false_eq_true, not_true_eq_false, catS, okR1, okR20, okR21, okR2b, List.length_cons, List.length_nil, List.drop_succ_cons, List.drop_zero, List.drop_nil, and_self, true_and, and_true, false_and, and_false, Nat.reduceAdd, Nat.reduceLeDiff, Nat.zero_add, Nat.le_refl, Nat.zero_le, pushR, reduceCtorEq, or_self, or_false, false_or, true_or, or_true, ltT, ltF, leT, leF, eqF, eqT, lt0F, ge0T, le0T, le0F, eq0T, eq0F, gt0T, gt0F, nI_add, nI_1, pk_mul, subT, sub1, divT, remN, natRem, n2, n3, n4, n5, n6, n7, n8, n9, n10, n12, n16, n22, n23, n24, n40, n48, n57, n60, n97, n99, n100, n119, n120, n238, n357, n999, n9999, n2231, Int32.add_zero, K614, ↓G614_0, ↓G614_1, ↓G614_2, ↓U614_2, ↓G614_3, ↓G614_4, ↓U614_4, ↓G614_5, ↓U614_5, ↓G614_6, ↓U614_6, ↓G614_7, ↓G614_8, ↓G614_9, ↓G614_10, ↓G614_11, ↓U614_11, ↓G614_12, ↓U614_12, ↓G614_13, ↓U614_13, ↓G614_14, ↓U614_14, ↓G614_15, ↓G614_16, ↓U614_16, ↓G614_18, ↓U614_18, ↓G614_19, ↓I615, ↓S615, ↓gJ, ↓pJ, q3, gx, l16, l21, l21z, hD, ↓bnd hkd, hk2, l10, l10z, hR10', ql, hll, hcl, hlt2, hD10, q2, hlw, hw0, hRw, lN_i, i1a, ↓bnd a1, g18]
    | false =>
      have hF1 : FrB y (y.1, lN (drw X)) b := fun a k _ _ => rfl
      refine ⟨(y.1, lN (drw X)), ⟨hF.tr hF1, by rw [hit], ?_, gm, fun i hi => ?_⟩, ?_⟩
      · rw [hcc, hb]
        exact gc
      · by_cases hip : i = p
        · subst hip
          rw [hpp]
          unfold pDraw
          rw [hb]
          exact MP.ext hpm (fun _ _ => rfl)
        · rw [hrest i hi hip]
          exact MP.ext (gp i hi) (fun _ _ => rfl)
      · rw [e160_7]
        by_cases hk2 : (f p).1 = 2
        · simp (disch := omega) only [e160_0, e160_1, e160_2, e160_5, e160_6, e160_8, e160_9, e160_12, e160_13, e160_14, e160_17, e160_18, e160_19, e160_22, e160_25, e160_26, e160_29, e160_30, e160_33, e160_34, e160_35, e160_38, e160_39, e160_42, e160_43, e160_46, e160_49, e160_50, e160_51, e160_54, e160_55, e160_56, e160_57, e160_58, e160_59, e160_60, e160_61, e160_62, e160_63, e160_64, e160_67, e160_68, e160_69, e160_70, e160_71, e160_72, e160_75, e160_78, e160_79, e160_80, e160_83, e160_84, e160_85, e160_86, e160_87, e160_88, e160_89, e160_92, e160_93, e160_94, e160_97, e160_98, e160_99, e160_102, e160_105, e160_108, e160_109, e160_110, e160_113, ↓reduceIte, ↓gi0, ↓gr0, ↓gl0, ↓gi1, ↓gr1, ↓gl1, ↓gi2, ↓gr2, ↓gl2, ↓gi3, ↓gr3, ↓gl3, ↓gi4, ↓gr4, ↓gl4, ↓gi5, ↓gr5, ↓gl5, ↓gi6, ↓gr6, ↓gl6, ↓gi7, ↓gr7, ↓gl7, ↓gi8, ↓gr8, ↓gl8, ↓gi9, ↓gr9, ↓gl9, ↓qI, ↓qI2, ↓qL, ↓qL2, ↓qR, ↓qV, ↓pd0, ↓ta0, ↓ts0, ↓pd1, ↓ta1, ↓ts1, ↓pd2, ↓ta2, ↓ts2, ↓pd3, ↓ta3, ↓ts3, ↓pd4, ↓ta4, ↓ts4, ↓pd5, ↓ta5, ↓ts5, ↓pd6, ↓ta6, ↓ts6, lGet, lSet, okS, isLg, Bool.not_false, Bool.not_true, Bool.false_eq_true, not_false_eq_true, not_true_eq_false, catS, okR1, okR20, okR21, okR2b, List.length_cons, List.length_nil, List.drop_succ_cons, List.drop_zero, List.drop_nil, and_self, true_and, and_true, false_and, and_false, Nat.reduceAdd, Nat.reduceLeDiff, Nat.zero_add, Nat.le_refl, Nat.zero_le, pushR, reduceCtorEq, or_self, or_false, false_or, true_or, or_true, ltT, ltF, leT, leF, eqF, eqT, lt0F, ge0T, le0T, le0F, eq0T, eq0F, gt0T, gt0F, nI_add, nI_1, pk_mul, subT, sub1, divT, remN, natRem, n2, n3, n4, n5, n6, n7, n8, n9, n10, n12, n16, n22, n23, n24, n40, n48, n57, n60, n97, n99, n100, n119, n120, n238, n357, n999, n9999, n2231, Int32.add_zero, K614, ↓G614_0, ↓G614_1, ↓G614_2, ↓U614_2, ↓G614_3, ↓G614_4, ↓U614_4, ↓G614_5, ↓U614_5, ↓G614_6, ↓U614_6, ↓G614_7, ↓G614_8, ↓G614_9, ↓G614_10, ↓G614_11, ↓U614_11, ↓G614_12, ↓U614_12, ↓G614_13, ↓U614_13, ↓G614_14, ↓U614_14, ↓G614_15, ↓G614_16, ↓U614_16, ↓G614_18, ↓U614_18, ↓G614_19, ↓I615, ↓S615, ↓gJ, ↓pJ, q3, gx, l16, l21, l21z, hD, ↓bnd hkd, hk2]
        · have hb' := hb
          unfold dB at hb'
          rw [hi2, decide_eq_false hk2] at hb'
          have hlt2 : (f p).2.1 ≤ drw X % 10 := by simpa using hb'
          simp (disch := omega) only [e160_0, e160_1, e160_2, e160_5, e160_6, e160_8, e160_9, e160_12, e160_13, e160_14, e160_17, e160_18, e160_19, e160_22, e160_25, e160_26, e160_29, e160_30, e160_33, e160_34, e160_35, e160_38, e160_39, e160_42, e160_43, e160_46, e160_49, e160_50, e160_51, e160_54, e160_55, e160_56, e160_57, e160_58, e160_59, e160_60, e160_61, e160_62, e160_63, e160_64, e160_67, e160_68, e160_69, e160_70, e160_71, e160_72, e160_75, e160_78, e160_79, e160_80, e160_83, e160_84, e160_85, e160_86, e160_87, e160_88, e160_89, e160_92, e160_93, e160_94, e160_97, e160_98, e160_99, e160_102, e160_105, e160_108, e160_109, e160_110, e160_113, ↓reduceIte, ↓gi0, ↓gr0, ↓gl0, ↓gi1, ↓gr1, ↓gl1, ↓gi2, ↓gr2, ↓gl2, ↓gi3, ↓gr3, ↓gl3, ↓gi4, ↓gr4, ↓gl4, ↓gi5, ↓gr5, ↓gl5, ↓gi6, ↓gr6, ↓gl6, ↓gi7, ↓gr7, ↓gl7, ↓gi8, ↓gr8, ↓gl8, ↓gi9, ↓gr9, ↓gl9, ↓qI, ↓qI2, ↓qL, ↓qL2, ↓qR, ↓qV, ↓pd0, ↓ta0, ↓ts0, ↓pd1, ↓ta1, ↓ts1, ↓pd2, ↓ta2, ↓ts2, ↓pd3, ↓ta3, ↓ts3, ↓pd4, ↓ta4, ↓ts4, ↓pd5, ↓ta5, ↓ts5, ↓pd6, ↓ta6, ↓ts6, lGet, lSet, okS, isLg, Bool.not_false, Bool.not_true, Bool.false_eq_true, not_false_eq_true, not_true_eq_false, catS, okR1, okR20, okR21, okR2b, List.length_cons, List.length_nil, List.drop_succ_cons, List.drop_zero, List.drop_nil, and_self, true_and, and_true, false_and, and_false, Nat.reduceAdd, Nat.reduceLeDiff, Nat.zero_add, Nat.le_refl, Nat.zero_le, pushR, reduceCtorEq, or_self, or_false, false_or, true_or, or_true, ltT, ltF, leT, leF, eqF, eqT, lt0F, ge0T, le0T, le0F, eq0T, eq0F, gt0T, gt0F, nI_add, nI_1, pk_mul, subT, sub1, divT, remN, natRem, n2, n3, n4, n5, n6, n7, n8, n9, n10, n12, n16, n22, n23, n24, n40, n48, n57, n60, n97, n99, n100, n119, n120, n238, n357, n999, n9999, n2231, Int32.add_zero, K614, ↓G614_0, ↓G614_1, ↓G614_2, ↓U614_2, ↓G614_3, ↓G614_4, ↓U614_4, ↓G614_5, ↓U614_5, ↓G614_6, ↓U614_6, ↓G614_7, ↓G614_8, ↓G614_9, ↓G614_10, ↓G614_11, ↓U614_11, ↓G614_12, ↓U614_12, ↓G614_13, ↓U614_13, ↓G614_14, ↓U614_14, ↓G614_15, ↓G614_16, ↓U614_16, ↓G614_18, ↓U614_18, ↓G614_19, ↓I615, ↓S615, ↓gJ, ↓pJ, q3, gx, l16, l21, l21z, hD, ↓bnd hkd, hk2, l10, l10z, hR10, ql, hll, hcl, hlt2]
  · intro y ⟨hF, gx, gc, gm, gp⟩
    have q3 : y.1 615 3 = nI n := by rw [hF 615 3 (by omega) (by omega)]; exact st3
    have hSy : MS y (cDraw x (t, w, m, n, f)) := (hS0.ext (fun k hk => hF 615 k (by omega) (by omega))).st (stE_draw x _)
    have hVy : MV y b (cDraw x (t, w, m, n, f)) := ⟨gm, fun i hi => by
      have := gp i hi
      have e : cDrawN w x f n i = pDraw w (itD (i + 1) x) (f i) := by
        unfold cDrawN
        exact if_pos hi
      rw [e] at this
      exact this⟩
    obtain ⟨s', a1, a2, a3⟩ := m_endMonth (d + 1) (scr := scr) hSy hVy (cDraw_ok hok) hb
    refine ⟨s', ?_, a2, a3.1.trans gx, by rw [a3.2 614 18 (by omega)]; exact gc, hF.tr (a3.b (by omega) (by omega))⟩
    rw [e160_7]
    simp (disch := omega) only [e160_0, e160_1, e160_2, e160_5, e160_6, e160_8, e160_9, e160_12, e160_13, e160_14, e160_17, e160_18, e160_19, e160_22, e160_25, e160_26, e160_29, e160_30, e160_33, e160_34, e160_35, e160_38, e160_39, e160_42, e160_43, e160_46, e160_49, e160_50, e160_51, e160_54, e160_55, e160_56, e160_57, e160_58, e160_59, e160_60, e160_61, e160_62, e160_63, e160_64, e160_67, e160_68, e160_69, e160_70, e160_71, e160_72, e160_75, e160_78, e160_79, e160_80, e160_83, e160_84, e160_85, e160_86, e160_87, e160_88, e160_89, e160_92, e160_93, e160_94, e160_97, e160_98, e160_99, e160_102, e160_105, e160_108, e160_109, e160_110, e160_113, ↓reduceIte, ↓gi0, ↓gr0, ↓gl0, ↓gi1, ↓gr1, ↓gl1, ↓gi2, ↓gr2, ↓gl2, ↓gi3, ↓gr3, ↓gl3, ↓gi4, ↓gr4, ↓gl4, ↓gi5, ↓gr5, ↓gl5, ↓gi6, ↓gr6, ↓gl6, ↓gi7, ↓gr7, ↓gl7, ↓gi8, ↓gr8, ↓gl8, ↓gi9, ↓gr9, ↓gl9, ↓qI, ↓qI2, ↓qL, ↓qL2, ↓qR, ↓qV, ↓pd0, ↓ta0, ↓ts0, ↓pd1, ↓ta1, ↓ts1, ↓pd2, ↓ta2, ↓ts2, ↓pd3, ↓ta3, ↓ts3, ↓pd4, ↓ta4, ↓ts4, ↓pd5, ↓ta5, ↓ts5, ↓pd6, ↓ta6, ↓ts6, lGet, lSet, okS, isLg, Bool.not_false, Bool.not_true, Bool.false_eq_true, not_false_eq_true, not_true_eq_false, catS, okR1, okR20, okR21, okR2b, List.length_cons, List.length_nil, List.drop_succ_cons, List.drop_zero, List.drop_nil, and_self, true_and, and_true, false_and, and_false, Nat.reduceAdd, Nat.reduceLeDiff, Nat.zero_add, Nat.le_refl, Nat.zero_le, pushR, reduceCtorEq, or_self, or_false, false_or, true_or, or_true, ltT, ltF, leT, leF, eqF, eqT, lt0F, ge0T, le0T, le0F, eq0T, eq0F, gt0T, gt0F, nI_add, nI_1, pk_mul, subT, sub1, divT, remN, natRem, n2, n3, n4, n5, n6, n7, n8, n9, n10, n12, n16, n22, n23, n24, n40, n48, n57, n60, n97, n99, n100, n119, n120, n238, n357, n999, n9999, n2231, Int32.add_zero, K614, ↓G614_0, ↓G614_1, ↓G614_2, ↓U614_2, ↓G614_3, ↓G614_4, ↓U614_4, ↓G614_5, ↓U614_5, ↓G614_6, ↓U614_6, ↓G614_7, ↓G614_8, ↓G614_9, ↓G614_10, ↓G614_11, ↓U614_11, ↓G614_12, ↓U614_12, ↓G614_13, ↓U614_13, ↓G614_14, ↓U614_14, ↓G614_15, ↓G614_16, ↓U614_16, ↓G614_18, ↓U614_18, ↓G614_19, ↓I615, ↓S615, q3, ↓bnd a1]
  · have e : cDrawN w x f 0 i = f i := by
      unfold cDrawN
      exact if_neg (by omega)
    rw [e]
    exact MP.ext2 (vp i hi) (fun k h1 h2 => u2_oth _ _ (by omega))
end MM3
