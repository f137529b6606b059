/-! ===== the reference's county ===== -/
def pFr (q : PT) : Prop := q.2.2.2.2 = (0, 0, [])
theorem rPer_fr {tp : List Nat} {p n : Nat} : pFr (rPer tp p n).2.2 := by
  unfold rPer pFr
  split
  · rfl
  · split
    · rfl
    · split
      · split
        · rfl
        · rfl
      · rfl
theorem rAll_fr (tp : List Nat) : ∀ k p ps, (∀ q, q ∈ ps → pFr q) → ∀ q, q ∈ (rAll tp k p ps).2.2 → pFr q
  | 0, p, ps, h, q, hq => h q hq
  | k + 1, p, ps, h, q, hq => by
    have hA : rAll tp (k + 1) p ps = if p < tp.length then (if (rPer tp p ps.length).1 = 0 then rAll tp k (rPer tp p ps.length).2.1 (ps ++ [(rPer tp p ps.length).2.2]) else ((rPer tp p ps.length).1, (rPer tp p ps.length).2.1, ps)) else (0, p, ps) := rfl
    rw [hA] at hq
    split at hq
    · split at hq
      · refine rAll_fr tp k _ _ (fun x hx => ?_) q hq
        rcases List.mem_append.mp hx with hx | hx
        · exact h x hx
        · rw [List.mem_singleton] at hx
          rw [hx]
          exact rPer_fr
      · exact h q hq
    · exact h q hq
section MCT
variable {scr : Nat × (Nat → Int32)} {s : ST}
theorem z0I : (0 : Int32) = nI 0 := rfl
set_option maxHeartbeats 4000000 in
theorem ms_county (d : Nat) {A : AS} (hI : InvM s A) (hG : Gd A) : ∃ s', EvM (d + 5) 149 [.ref 614] (mkH scr s) = some ((oCounty A).1, mkH scr s') ∧ InvM s' (oCounty A).2 ∧ FrLo s s' := by
  obtain ⟨rw_, tp, fl, st, hs, c, im, pa, tr⟩ := A
  have hT : TPm s tp := hI.2.1
  obtain ⟨s1, a1, a2, a3, a4⟩ := m_readsAll d (scr := scr) hT
  have nil : ∀ {x : ST}, x.1 614 4 = 0 → TPm x [] := fun h => ⟨h, by simp, fun i hi => absurd hi (by simp)⟩
  rw [ev149, e149_0]
  by_cases g1 : (rCty tp).1 = 0
  case neg =>
    rw [decide_eq_false g1] at a1
    have q12 : (u2 s1 614 4 0).1 614 12 = nI (rCty tp).2.1 := by rw [u2_oth _ _ (by omega)]; exact a3.1
    have fr : ∀ a k, ¬ (a = 614 ∧ (k = 4 ∨ k = 5 ∨ 12 ≤ k)) → a ≠ 622 → (u2 s1 614 4 0).1 a k = s.1 a k := fun a k x y => by rw [u2_oth _ _ (by omega), a2.2 a k (by omega) y]
    refine ⟨_, ?_, ?_, fun a k x => fr a k (by omega) (by omega)⟩ <;> simp only [oCounty, g1, if_false]
    · simp (disch := omega) only [e149_0, e149_1, e149_4, e149_5, e149_6, e149_7, e149_10, e149_11, e149_14, e149_16, e149_17, e149_20, e149_21, e149_22, e149_23, e149_26, e149_27, e149_28, e149_29, e149_30, e149_33, e149_34, e149_35, e149_38, e149_39, e149_40, e149_43, e149_44, e149_45, e149_48, e149_49, e149_50, e149_53, e149_54, e149_55, e149_58, e149_59, e149_60, e149_62, e149_64, e149_67, e149_68, e149_71, e149_73, e149_74, e149_75, e149_76, e149_77, e149_80, e149_83, e149_84, e149_86, e149_87, e149_90, e149_93, e149_94, e149_96, e149_97, e149_100, e149_101, e149_104, e149_105, e149_106, e149_107, e149_108, e149_109, e149_110, e149_111, e149_112, e149_115, e149_116, e149_117, e149_118, e149_119, e149_120, e149_121, e149_122, e149_125, e149_128, e149_129, e149_132, e149_134, e149_136, e149_137, e149_138, e149_139, e149_140, e149_141, e149_142, e149_145, e149_146, e149_147, e149_148, e149_149, e149_150, e149_151, e149_152, e149_155, e149_158, e149_159, e149_160, e149_163, e149_164, e149_167, ↓reduceIte, ↓gi0, ↓gr0, ↓gl0, ↓gi1, ↓gr1, ↓gl1, ↓gi2, ↓gr2, ↓gl2, ↓gi3, ↓gr3, ↓gl3, ↓gi4, ↓gr4, ↓gl4, ↓gi5, ↓gr5, ↓gl5, ↓gi6, ↓gr6, ↓gl6, ↓gi7, ↓gr7, ↓gl7, ↓gi8, ↓gr8, ↓gl8, ↓gi9, ↓gr9, ↓gl9, ↓qI, ↓qI2, ↓qL, ↓qL2, ↓qR, ↓qV, ↓pd0, ↓ta0, ↓ts0, ↓pd1, ↓ta1, ↓ts1, ↓pd2, ↓ta2, ↓ts2, ↓pd3, ↓ta3, ↓ts3, ↓pd4, ↓ta4, ↓ts4, ↓pd5, ↓ta5, ↓ts5, ↓pd6, ↓ta6, ↓ts6, lGet, lSet, okS, isLg, Bool.not_false, Bool.not_true, Bool.false_eq_true, not_false_eq_true, not_true_eq_false, catS, okR1, okR20, okR21, okR2b, List.length_cons, List.length_nil, List.drop_succ_cons, List.drop_zero, List.drop_nil, and_self, true_and, and_true, false_and, and_false, Nat.reduceAdd, Nat.reduceLeDiff, Nat.zero_add, Nat.le_refl, Nat.zero_le, pushR, reduceCtorEq, or_self, or_false, false_or, true_or, or_true, ltT, ltF, leT, leF, eqF, eqT, lt0F, ge0T, le0T, le0F, eq0T, eq0F, gt0T, gt0F, nI_add, nI_1, pk_mul, subT, sub1, divT, remN, natRem, n2, n3, n4, n5, n6, n7, n8, n9, n10, n12, n16, n22, n23, n24, n40, n48, n57, n60, n97, n99, n100, n119, n120, n238, n357, n999, n9999, n2231, Int32.add_zero, bI_t, bI_f, one_ne, K614, ↓G614_0, ↓G614_1, ↓G614_2, ↓U614_2, ↓G614_3, ↓G614_4, ↓U614_4, ↓G614_5, ↓U614_5, ↓G614_6, ↓U614_6, ↓G614_7, ↓G614_8, ↓G614_9, ↓G614_10, ↓G614_11, ↓U614_11, ↓G614_12, ↓U614_12, ↓G614_13, ↓U614_13, ↓G614_14, ↓U614_14, ↓G614_15, ↓G614_16, ↓U614_16, ↓G614_18, ↓U614_18, ↓G614_19, ↓bnd a1, q12]
    · obtain ⟨h1, h2, h3, h4, h5, h6, h7, h8⟩ := hI
      exact ⟨h1.ext (fun a k x y => fr _ _ (by omega) (by omega)), nil (u2_same _ _ _ _), by rw [u2_oth _ _ (by omega)]; exact a3.2.2 g1, by rw [fr _ _ (by omega) (by omega)]; exact h4, h5.ext (fun k hk => fr _ _ (by omega) (by omega)), h6.ext (fun k x y => fr _ _ (by omega) (by omega)), h7.ext (fr _ _ (by omega) (by omega)) (fun k => fr _ _ (by omega) (by omega)), h8.ext (fr _ _ (by omega) (by omega)) (fun k => fr _ _ (by omega) (by omega))⟩
  rw [decide_eq_true g1] at a1
  obtain ⟨b1, b2, b3, b4⟩ := a4 g1
  have hr : rCty tp = ((rAll tp 7 (rLaw tp).2.1 []).1, (rAll tp 7 (rLaw tp).2.1 []).2.1, ((rLaw tp).2.2.1, (rLaw tp).2.2.2, 0, (rAll tp 7 (rLaw tp).2.1 []).2.2.length, fun i => (rAll tp 7 (rLaw tp).2.1 []).2.2.getD i p0)) := if_pos b2
  have hfr := rAll_fr tp 7 (rLaw tp).2.1 [] (fun q hq => absurd hq (by simp))
  generalize hps : (rAll tp 7 (rLaw tp).2.1 []).2.2 = ps at *
  generalize (rLaw tp).2.2.1 = t at *
  generalize (rLaw tp).2.2.2 = w at *
  obtain ⟨n1, n2_, n3_⟩ := b1
  have ec : (rCty tp).2.2 = (t, w, 0, ps.length, fun i => ps.getD i p0) := by rw [hr]
  have hs3 : ∃ s3, s3 = u2 (u2 (u2 (u2 (u2 s1 614 4 0) 615 0 1) 615 1 (nI t)) 615 2 (nI w)) 615 3 (nI ps.length) := ⟨_, rfl⟩
  obtain ⟨s3, es3⟩ := hs3
  have o3 : ∀ a k, ¬ (a = 615 ∧ k < 4) → ¬ (a = 614 ∧ k = 4) → s3.1 a k = s1.1 a k := fun a k x y => by rw [es3, u2_oth _ _ (by omega), u2_oth _ _ (by omega), u2_oth _ _ (by omega), u2_oth _ _ (by omega), u2_oth _ _ (by omega)]
  have z0 := forUp (X := ST) 97 (fun j x => EvI (EvM (d + 4)) C149 1 61 [.ref 614, .int 1, .int (nI j), jk] [] (mkH scr x))
    (fun j x => FrA s3 x 615 22 (22 + j) ∧ ∀ i, i < j → x.1 615 (22 + i) = 0)
    (fun r => ∃ x, r = EvI (EvM (d + 4)) C149 1 85 [.ref 614, .int 1, .int (nI 0), jk] [] (mkH scr x) ∧ FrA s3 x 615 22 119 ∧ ∀ i, i < 97 → x.1 615 (22 + i) = 0) ?_ ?_ (x := s3) ⟨FrA.rf _ _ _ _, fun i hi => absurd hi (Nat.not_lt_zero i)⟩
  rotate_left
  · intro j x hj ⟨c1, c2⟩
    refine ⟨u2 x 615 (22 + j) 0, ⟨(c1.w (by omega) (by omega)).tr (FrA.u (by omega) (by omega)), fun i hi => ?_⟩, ?_⟩
    · by_cases e : i = j
      · rw [e, u2_same]
      · rw [u2_oth _ _ (by omega), c2 i (by omega)]
    · rw [e149_61]
      simp (disch := omega) only [e149_0, e149_1, e149_4, e149_5, e149_6, e149_7, e149_10, e149_11, e149_14, e149_16, e149_17, e149_20, e149_21, e149_22, e149_23, e149_26, e149_27, e149_28, e149_29, e149_30, e149_33, e149_34, e149_35, e149_38, e149_39, e149_40, e149_43, e149_44, e149_45, e149_48, e149_49, e149_50, e149_53, e149_54, e149_55, e149_58, e149_59, e149_60, e149_62, e149_64, e149_67, e149_68, e149_71, e149_73, e149_74, e149_75, e149_76, e149_77, e149_80, e149_83, e149_84, e149_86, e149_87, e149_90, e149_93, e149_94, e149_96, e149_97, e149_100, e149_101, e149_104, e149_105, e149_106, e149_107, e149_108, e149_109, e149_110, e149_111, e149_112, e149_115, e149_116, e149_117, e149_118, e149_119, e149_120, e149_121, e149_122, e149_125, e149_128, e149_129, e149_132, e149_134, e149_136, e149_137, e149_138, e149_139, e149_140, e149_141, e149_142, e149_145, e149_146, e149_147, e149_148, e149_149, e149_150, e149_151, e149_152, e149_155, e149_158, e149_159, e149_160, e149_163, e149_164, e149_167, ↓reduceIte, ↓gi0, ↓gr0, ↓gl0, ↓gi1, ↓gr1, ↓gl1, ↓gi2, ↓gr2, ↓gl2, ↓gi3, ↓gr3, ↓gl3, ↓gi4, ↓gr4, ↓gl4, ↓gi5, ↓gr5, ↓gl5, ↓gi6, ↓gr6, ↓gl6, ↓gi7, ↓gr7, ↓gl7, ↓gi8, ↓gr8, ↓gl8, ↓gi9, ↓gr9, ↓gl9, ↓qI, ↓qI2, ↓qL, ↓qL2, ↓qR, ↓qV, ↓pd0, ↓ta0, ↓ts0, ↓pd1, ↓ta1, ↓ts1, ↓pd2, ↓ta2, ↓ts2, ↓pd3, ↓ta3, ↓ts3, ↓pd4, ↓ta4, ↓ts4, ↓pd5, ↓ta5, ↓ts5, ↓pd6, ↓ta6, ↓ts6, lGet, lSet, okS, isLg, Bool.not_false, Bool.not_true, Bool.false_eq_true, not_false_eq_true, not_true_eq_false, catS, okR1, okR20, okR21, okR2b, List.length_cons, List.length_nil, List.drop_succ_cons, List.drop_zero, List.drop_nil, and_self, true_and, and_true, false_and, and_false, Nat.reduceAdd, Nat.reduceLeDiff, Nat.zero_add, Nat.le_refl, Nat.zero_le, pushR, reduceCtorEq, or_self, or_false, false_or, true_or, or_true, ltT, ltF, leT, leF, eqF, eqT, lt0F, ge0T, le0T, le0F, eq0T, eq0F, gt0T, gt0F, nI_add, nI_1, pk_mul, subT, sub1, divT, remN, natRem, n2, n3, n4, n5, n6, n7, n8, n9, n10, n12, n16, n22, n23, n24, n40, n48, n57, n60, n97, n99, n100, n119, n120, n238, n357, n999, n9999, n2231, Int32.add_zero, bI_t, bI_f, one_ne, K614, ↓G614_0, ↓G614_1, ↓G614_2, ↓U614_2, ↓G614_3, ↓G614_4, ↓U614_4, ↓G614_5, ↓U614_5, ↓G614_6, ↓U614_6, ↓G614_7, ↓G614_8, ↓G614_9, ↓G614_10, ↓G614_11, ↓U614_11, ↓G614_12, ↓U614_12, ↓G614_13, ↓U614_13, ↓G614_14, ↓U614_14, ↓G614_15, ↓G614_16, ↓U614_16, ↓G614_18, ↓U614_18, ↓G614_19, ↓I615, ↓S615, a2]
  · intro x ⟨c1, c2⟩
    refine ⟨x, ?_, c1, c2⟩
    rw [e149_61]
    simp (disch := omega) only [e149_0, e149_1, e149_4, e149_5, e149_6, e149_7, e149_10, e149_11, e149_14, e149_16, e149_17, e149_20, e149_21, e149_22, e149_23, e149_26, e149_27, e149_28, e149_29, e149_30, e149_33, e149_34, e149_35, e149_38, e149_39, e149_40, e149_43, e149_44, e149_45, e149_48, e149_49, e149_50, e149_53, e149_54, e149_55, e149_58, e149_59, e149_60, e149_62, e149_64, e149_67, e149_68, e149_71, e149_73, e149_74, e149_75, e149_76, e149_77, e149_80, e149_83, e149_84, e149_86, e149_87, e149_90, e149_93, e149_94, e149_96, e149_97, e149_100, e149_101, e149_104, e149_105, e149_106, e149_107, e149_108, e149_109, e149_110, e149_111, e149_112, e149_115, e149_116, e149_117, e149_118, e149_119, e149_120, e149_121, e149_122, e149_125, e149_128, e149_129, e149_132, e149_134, e149_136, e149_137, e149_138, e149_139, e149_140, e149_141, e149_142, e149_145, e149_146, e149_147, e149_148, e149_149, e149_150, e149_151, e149_152, e149_155, e149_158, e149_159, e149_160, e149_163, e149_164, e149_167, ↓reduceIte, ↓gi0, ↓gr0, ↓gl0, ↓gi1, ↓gr1, ↓gl1, ↓gi2, ↓gr2, ↓gl2, ↓gi3, ↓gr3, ↓gl3, ↓gi4, ↓gr4, ↓gl4, ↓gi5, ↓gr5, ↓gl5, ↓gi6, ↓gr6, ↓gl6, ↓gi7, ↓gr7, ↓gl7, ↓gi8, ↓gr8, ↓gl8, ↓gi9, ↓gr9, ↓gl9, ↓qI, ↓qI2, ↓qL, ↓qL2, ↓qR, ↓qV, ↓pd0, ↓ta0, ↓ts0, ↓pd1, ↓ta1, ↓ts1, ↓pd2, ↓ta2, ↓ts2, ↓pd3, ↓ta3, ↓ts3, ↓pd4, ↓ta4, ↓ts4, ↓pd5, ↓ta5, ↓ts5, ↓pd6, ↓ta6, ↓ts6, lGet, lSet, okS, isLg, Bool.not_false, Bool.not_true, Bool.false_eq_true, not_false_eq_true, not_true_eq_false, catS, okR1, okR20, okR21, okR2b, List.length_cons, List.length_nil, List.drop_succ_cons, List.drop_zero, List.drop_nil, and_self, true_and, and_true, false_and, and_false, Nat.reduceAdd, Nat.reduceLeDiff, Nat.zero_add, Nat.le_refl, Nat.zero_le, pushR, reduceCtorEq, or_self, or_false, false_or, true_or, or_true, ltT, ltF, leT, leF, eqF, eqT, lt0F, ge0T, le0T, le0F, eq0T, eq0F, gt0T, gt0F, nI_add, nI_1, pk_mul, subT, sub1, divT, remN, natRem, n2, n3, n4, n5, n6, n7, n8, n9, n10, n12, n16, n22, n23, n24, n40, n48, n57, n60, n97, n99, n100, n119, n120, n238, n357, n999, n9999, n2231, Int32.add_zero, bI_t, bI_f, one_ne, K614, ↓G614_0, ↓G614_1, ↓G614_2, ↓U614_2, ↓G614_3, ↓G614_4, ↓U614_4, ↓G614_5, ↓U614_5, ↓G614_6, ↓U614_6, ↓G614_7, ↓G614_8, ↓G614_9, ↓G614_10, ↓G614_11, ↓U614_11, ↓G614_12, ↓U614_12, ↓G614_13, ↓U614_13, ↓G614_14, ↓U614_14, ↓G614_15, ↓G614_16, ↓U614_16, ↓G614_18, ↓U614_18, ↓G614_19, ↓I615, ↓S615, a2]
    rfl
  obtain ⟨s4, e4, f4, y4⟩ := z0
  have hp := forUp (X := ST × Value) ps.length (fun p x => EvI (EvM (d + 4)) C149 1 85 [.ref 614, .int 1, .int (nI p), x.2] [] (mkH scr x.1))
    (fun p x => isLg x.2 = false ∧ (∀ a k, ¬ (a = 615 ∧ 4 ≤ k ∧ k < 119) → x.1.1 a k = s4.1 a k) ∧ (∀ i, i < p → x.1.1 615 (4 + 3 * i) = nI (ps.getD i p0).1 ∧ x.1.1 615 (4 + 3 * i + 1) = nI (ps.getD i p0).2.1 ∧ x.1.1 615 (4 + 3 * i + 2) = nI (ps.getD i p0).2.2.1 ∧ x.1.1 615 (23 + 16 * i + 1) = (ps.getD i p0).2.2.2.1) ∧ ∀ k, 22 ≤ k → k < 119 → (∀ i, i < p → k ≠ 23 + 16 * i + 1) → x.1.1 615 k = 0)
    (fun r => ∃ x, r = some (nI ps.length, mkH scr (u2 x 614 2 0)) ∧ (∀ a k, ¬ (a = 615 ∧ 4 ≤ k ∧ k < 119) → x.1 a k = s4.1 a k) ∧ (∀ i, i < ps.length → x.1 615 (4 + 3 * i) = nI (ps.getD i p0).1 ∧ x.1 615 (4 + 3 * i + 1) = nI (ps.getD i p0).2.1 ∧ x.1 615 (4 + 3 * i + 2) = nI (ps.getD i p0).2.2.1 ∧ x.1 615 (23 + 16 * i + 1) = (ps.getD i p0).2.2.2.1) ∧ ∀ k, 22 ≤ k → k < 119 → (∀ i, i < ps.length → k ≠ 23 + 16 * i + 1) → x.1 615 k = 0) ?_ ?_ (x := (s4, jk)) ⟨rfl, fun _ _ _ => rfl, fun i hi => absurd hi (Nat.not_lt_zero i), fun k x y _ => by have := y4 (k - 22) (by omega); rw [show 22 + (k - 22) = k by omega] at this; exact this⟩
  rotate_left
  · intro p ⟨x, v⟩ hp ⟨c0, c1, c2, c3⟩
    simp only at c0 c1 c2 c3 ⊢
    have m16 : x.1 614 16 = nI ps.length := by rw [c1 _ _ (by omega), f4.2 _ _ (by omega), o3 _ _ (by omega) (by omega)]; exact n1
    have rd : ∀ k, x.1 622 k = s1.1 622 k := fun k => by rw [c1 _ _ (by omega), f4.2 _ _ (by omega), o3 _ _ (by omega) (by omega)]
    obtain ⟨d0, d1, d2, d3⟩ := n3_ p hp
    rw [← rd] at d0 d1 d2 d3
    refine ⟨(u2 (u2 (u2 (u2 x 615 (4 + 3 * p) (nI (ps.getD p p0).1)) 615 (4 + 3 * p + 1) (nI (ps.getD p p0).2.1)) 615 (4 + 3 * p + 2) (nI (ps.getD p p0).2.2.1)) 615 (23 + 16 * p + 1) (ps.getD p p0).2.2.2.1, .int (nI 3)), ⟨rfl, fun a k y => ?_, fun i hi => ?_, fun k h1 h2 h3 => ?_⟩, ?_⟩
    · simp only
      rw [u2_oth _ _ (by omega), u2_oth _ _ (by omega), u2_oth _ _ (by omega), u2_oth _ _ (by omega), c1 _ _ (by omega)]
    · simp only
      by_cases e : i = p
      · subst e
        refine ⟨?_, ?_, ?_, u2_same _ _ _ _⟩
        · rw [u2_oth _ _ (by omega), u2_oth _ _ (by omega), u2_oth _ _ (by omega), u2_same]
        · rw [u2_oth _ _ (by omega), u2_oth _ _ (by omega), u2_same]
        · rw [u2_oth _ _ (by omega), u2_same]
      · have hi' : i < p := by omega
        obtain ⟨k0, k1, k2, k3⟩ := c2 i hi'
        refine ⟨?_, ?_, ?_, ?_⟩
        · rw [u2_oth _ _ (by omega), u2_oth _ _ (by omega), u2_oth _ _ (by omega), u2_oth _ _ (by omega)]; exact k0
        · rw [u2_oth _ _ (by omega), u2_oth _ _ (by omega), u2_oth _ _ (by omega), u2_oth _ _ (by omega)]; exact k1
        · rw [u2_oth _ _ (by omega), u2_oth _ _ (by omega), u2_oth _ _ (by omega), u2_oth _ _ (by omega)]; exact k2
        · rw [u2_oth _ _ (by omega), u2_oth _ _ (by omega), u2_oth _ _ (by omega), u2_oth _ _ (by omega)]; exact k3
    · simp only
      have := h3 p (by omega)
      rw [u2_oth _ _ (by omega), u2_oth _ _ (by omega), u2_oth _ _ (by omega), u2_oth _ _ (by omega)]
      exact c3 k h1 h2 (fun i hi => h3 i (by omega))
    · simp only
      rw [e149_85]
      simp (disch := omega) only [e149_0, e149_1, e149_4, e149_5, e149_6, e149_7, e149_10, e149_11, e149_14, e149_16, e149_17, e149_20, e149_21, e149_22, e149_23, e149_26, e149_27, e149_28, e149_29, e149_30, e149_33, e149_34, e149_35, e149_38, e149_39, e149_40, e149_43, e149_44, e149_45, e149_48, e149_49, e149_50, e149_53, e149_54, e149_55, e149_58, e149_59, e149_60, e149_62, e149_64, e149_67, e149_68, e149_71, e149_73, e149_74, e149_75, e149_76, e149_77, e149_80, e149_83, e149_84, e149_86, e149_87, e149_90, e149_93, e149_94, e149_95, e149_96, e149_97, e149_100, e149_101, e149_104, e149_105, e149_106, e149_107, e149_108, e149_109, e149_110, e149_111, e149_112, e149_115, e149_116, e149_117, e149_118, e149_119, e149_120, e149_121, e149_122, e149_125, e149_128, e149_129, e149_132, e149_134, e149_136, e149_137, e149_138, e149_139, e149_140, e149_141, e149_142, e149_145, e149_146, e149_147, e149_148, e149_149, e149_150, e149_151, e149_152, e149_155, e149_158, e149_159, e149_160, e149_163, e149_164, e149_167, ↓reduceIte, ↓gi0, ↓gr0, ↓gl0, ↓gi1, ↓gr1, ↓gl1, ↓gi2, ↓gr2, ↓gl2, ↓gi3, ↓gr3, ↓gl3, ↓gi4, ↓gr4, ↓gl4, ↓gi5, ↓gr5, ↓gl5, ↓gi6, ↓gr6, ↓gl6, ↓gi7, ↓gr7, ↓gl7, ↓gi8, ↓gr8, ↓gl8, ↓gi9, ↓gr9, ↓gl9, ↓qI, ↓qI2, ↓qL, ↓qL2, ↓qR, ↓qV, ↓pd0, ↓ta0, ↓ts0, ↓pd1, ↓ta1, ↓ts1, ↓pd2, ↓ta2, ↓ts2, ↓pd3, ↓ta3, ↓ts3, ↓pd4, ↓ta4, ↓ts4, ↓pd5, ↓ta5, ↓ts5, ↓pd6, ↓ta6, ↓ts6, lGet, lSet, okS, isLg, Bool.not_false, Bool.not_true, Bool.false_eq_true, not_false_eq_true, not_true_eq_false, catS, okR1, okR20, okR21, okR2b, List.length_cons, List.length_nil, List.drop_succ_cons, List.drop_zero, List.drop_nil, and_self, true_and, and_true, false_and, and_false, Nat.reduceAdd, Nat.reduceLeDiff, Nat.zero_add, Nat.le_refl, Nat.zero_le, pushR, reduceCtorEq, or_self, or_false, false_or, true_or, or_true, ltT, ltF, leT, leF, eqF, eqT, lt0F, ge0T, le0T, le0F, eq0T, eq0F, gt0T, gt0F, nI_add, nI_1, pk_mul, subT, sub1, divT, remN, natRem, n2, n3, n4, n5, n6, n7, n8, n9, n10, n12, n16, n22, n23, n24, n40, n48, n57, n60, n97, n99, n100, n119, n120, n238, n357, n999, n9999, n2231, Int32.add_zero, K614, ↓G614_0, ↓G614_1, ↓G614_2, ↓U614_2, ↓G614_3, ↓G614_4, ↓U614_4, ↓G614_5, ↓U614_5, ↓G614_6, ↓U614_6, ↓G614_7, ↓G614_8, ↓G614_9, ↓G614_10, ↓G614_11, ↓U614_11, ↓G614_12, ↓U614_12, ↓G614_13, ↓U614_13, ↓G614_14, ↓U614_14, ↓G614_15, ↓G614_16, ↓U614_16, ↓G614_18, ↓U614_18, ↓G614_19, ↓I615, ↓S615, ↓I622, ↓S622, m16, d0, d1, d2, d3, u2_oth, z0I, Nat.add_zero, show (1 : Int32) = nI 1 from rfl]
  · intro ⟨x, v⟩ ⟨c0, c1, c2, c3⟩
    simp only at c1 c2 c3 ⊢
    have m16 : x.1 614 16 = nI ps.length := by rw [c1 _ _ (by omega), f4.2 _ _ (by omega), o3 _ _ (by omega) (by omega)]; exact n1
    have m16' : (u2 x 614 2 0).1 614 16 = nI ps.length := by rw [u2_oth _ _ (by omega)]; exact m16
    refine ⟨x, ?_, c1, c2, c3⟩
    rw [e149_85]
    simp (disch := omega) only [e149_0, e149_1, e149_4, e149_5, e149_6, e149_7, e149_10, e149_11, e149_14, e149_16, e149_17, e149_20, e149_21, e149_22, e149_23, e149_26, e149_27, e149_28, e149_29, e149_30, e149_33, e149_34, e149_35, e149_38, e149_39, e149_40, e149_43, e149_44, e149_45, e149_48, e149_49, e149_50, e149_53, e149_54, e149_55, e149_58, e149_59, e149_60, e149_62, e149_64, e149_67, e149_68, e149_71, e149_73, e149_74, e149_75, e149_76, e149_77, e149_80, e149_83, e149_84, e149_86, e149_87, e149_90, e149_93, e149_94, e149_96, e149_97, e149_100, e149_101, e149_104, e149_105, e149_106, e149_107, e149_108, e149_109, e149_110, e149_111, e149_112, e149_115, e149_116, e149_117, e149_118, e149_119, e149_120, e149_121, e149_122, e149_125, e149_128, e149_129, e149_132, e149_134, e149_136, e149_137, e149_138, e149_139, e149_140, e149_141, e149_142, e149_145, e149_146, e149_147, e149_148, e149_149, e149_150, e149_151, e149_152, e149_155, e149_158, e149_159, e149_160, e149_163, e149_164, e149_167, ↓reduceIte, ↓gi0, ↓gr0, ↓gl0, ↓gi1, ↓gr1, ↓gl1, ↓gi2, ↓gr2, ↓gl2, ↓gi3, ↓gr3, ↓gl3, ↓gi4, ↓gr4, ↓gl4, ↓gi5, ↓gr5, ↓gl5, ↓gi6, ↓gr6, ↓gl6, ↓gi7, ↓gr7, ↓gl7, ↓gi8, ↓gr8, ↓gl8, ↓gi9, ↓gr9, ↓gl9, ↓qI, ↓qI2, ↓qL, ↓qL2, ↓qR, ↓qV, ↓pd0, ↓ta0, ↓ts0, ↓pd1, ↓ta1, ↓ts1, ↓pd2, ↓ta2, ↓ts2, ↓pd3, ↓ta3, ↓ts3, ↓pd4, ↓ta4, ↓ts4, ↓pd5, ↓ta5, ↓ts5, ↓pd6, ↓ta6, ↓ts6, lGet, lSet, okS, isLg, Bool.not_false, Bool.not_true, Bool.false_eq_true, not_false_eq_true, not_true_eq_false, catS, okR1, okR20, okR21, okR2b, List.length_cons, List.length_nil, List.drop_succ_cons, List.drop_zero, List.drop_nil, and_self, true_and, and_true, false_and, and_false, Nat.reduceAdd, Nat.reduceLeDiff, Nat.zero_add, Nat.le_refl, Nat.zero_le, pushR, reduceCtorEq, or_self, or_false, false_or, true_or, or_true, ltT, ltF, leT, leF, eqF, eqT, lt0F, ge0T, le0T, le0F, eq0T, eq0F, gt0T, gt0F, nI_add, nI_1, pk_mul, subT, sub1, divT, remN, natRem, n2, n3, n4, n5, n6, n7, n8, n9, n10, n12, n16, n22, n23, n24, n40, n48, n57, n60, n97, n99, n100, n119, n120, n238, n357, n999, n9999, n2231, Int32.add_zero, bI_t, bI_f, one_ne, K614, ↓G614_0, ↓G614_1, ↓G614_2, ↓U614_2, ↓G614_3, ↓G614_4, ↓U614_4, ↓G614_5, ↓U614_5, ↓G614_6, ↓U614_6, ↓G614_7, ↓G614_8, ↓G614_9, ↓G614_10, ↓G614_11, ↓U614_11, ↓G614_12, ↓U614_12, ↓G614_13, ↓U614_13, ↓G614_14, ↓U614_14, ↓G614_15, ↓G614_16, ↓U614_16, ↓G614_18, ↓U614_18, ↓G614_19, ↓I615, ↓S615, ↓I622, ↓S622, m16, m16']
  obtain ⟨s5, e5, c1, c2, c3⟩ := hp
  have F : ∀ a k, ¬ (a = 615 ∧ k < 119) → ¬ (a = 614 ∧ (k = 2 ∨ k = 4 ∨ k = 5 ∨ 12 ≤ k)) → a ≠ 622 → (u2 s5 614 2 0).1 a k = s.1 a k := fun a k x y z => by rw [u2_oth _ _ (by omega), c1 _ _ (by omega), f4.2 _ _ (by omega), o3 _ _ (by omega) (by omega), a2.2 _ _ (by omega) z]
  have G : ∀ k, k < 4 → (u2 s5 614 2 0).1 615 k = s3.1 615 k := fun k hk => by rw [u2_oth _ _ (by omega), c1 _ _ (by omega), f4.2 _ _ (by omega)]
  have D : ∀ k, (u2 s5 614 2 0).1 615 k = s5.1 615 k := fun k => u2_oth _ _ (by omega)
  refine ⟨u2 s5 614 2 0, ?_, ?_, fun a k x => F _ _ (by omega) (by omega) (by omega)⟩ <;> simp only [oCounty, g1, if_true]
  · rw [ec]
    simp only
    rw [← e5]
    have e4' : EvI (EvM (d + 4)) C149 1 61 [.ref 614, .int 1, .int 0, jk] [] (mkH scr s3) = _ := e4
    have m13 : (u2 (u2 s1 614 4 0) 615 0 1).1 614 13 = nI t := by rw [u2_oth _ _ (by omega), u2_oth _ _ (by omega)]; exact b3
    have m14 : (u2 (u2 (u2 s1 614 4 0) 615 0 1) 615 1 (nI t)).1 614 14 = nI w := by rw [u2_oth _ _ (by omega), u2_oth _ _ (by omega), u2_oth _ _ (by omega)]; exact b4
    have m16 : (u2 (u2 (u2 (u2 s1 614 4 0) 615 0 1) 615 1 (nI t)) 615 2 (nI w)).1 614 16 = nI ps.length := by rw [u2_oth _ _ (by omega), u2_oth _ _ (by omega), u2_oth _ _ (by omega), u2_oth _ _ (by omega)]; exact n1
    have i0 : ∀ (x : ST) (v : Int32) (f : Hp → Rs), (iastF (mkH scr x) 615 0 v).bind f = f (mkH scr (u2 x 615 0 v)) := fun x v f => S615 (i := 0) x v f (by omega)
    have i1 : ∀ (x : ST) (v : Int32) (f : Hp → Rs), (iastF (mkH scr x) 615 1 v).bind f = f (mkH scr (u2 x 615 1 v)) := fun x v f => S615 (i := 1) x v f (by omega)
    simp (disch := omega) only [e149_0, e149_1, e149_4, e149_5, e149_6, e149_7, e149_10, e149_11, e149_14, e149_16, e149_17, e149_20, e149_21, e149_22, e149_23, e149_26, e149_27, e149_28, e149_29, e149_30, e149_33, e149_34, e149_35, e149_38, e149_39, e149_40, e149_43, e149_44, e149_45, e149_48, e149_49, e149_50, e149_53, e149_54, e149_55, e149_58, e149_59, e149_60, e149_62, e149_64, e149_67, e149_68, e149_71, e149_73, e149_74, e149_75, e149_76, e149_77, e149_80, e149_83, e149_84, e149_86, e149_87, e149_90, e149_93, e149_94, e149_95, e149_96, e149_97, e149_100, e149_101, e149_104, e149_105, e149_106, e149_107, e149_108, e149_109, e149_110, e149_111, e149_112, e149_115, e149_116, e149_117, e149_118, e149_119, e149_120, e149_121, e149_122, e149_125, e149_128, e149_129, e149_132, e149_134, e149_136, e149_137, e149_138, e149_139, e149_140, e149_141, e149_142, e149_145, e149_146, e149_147, e149_148, e149_149, e149_150, e149_151, e149_152, e149_155, e149_158, e149_159, e149_160, e149_163, e149_164, e149_167, ↓reduceIte, ↓gi0, ↓gr0, ↓gl0, ↓gi1, ↓gr1, ↓gl1, ↓gi2, ↓gr2, ↓gl2, ↓gi3, ↓gr3, ↓gl3, ↓gi4, ↓gr4, ↓gl4, ↓gi5, ↓gr5, ↓gl5, ↓gi6, ↓gr6, ↓gl6, ↓gi7, ↓gr7, ↓gl7, ↓gi8, ↓gr8, ↓gl8, ↓gi9, ↓gr9, ↓gl9, ↓qI, ↓qI2, ↓qL, ↓qL2, ↓qR, ↓qV, ↓pd0, ↓ta0, ↓ts0, ↓pd1, ↓ta1, ↓ts1, ↓pd2, ↓ta2, ↓ts2, ↓pd3, ↓ta3, ↓ts3, ↓pd4, ↓ta4, ↓ts4, ↓pd5, ↓ta5, ↓ts5, ↓pd6, ↓ta6, ↓ts6, lGet, lSet, okS, isLg, Bool.not_false, Bool.not_true, Bool.false_eq_true, not_false_eq_true, not_true_eq_false, catS, okR1, okR20, okR21, okR2b, List.length_cons, List.length_nil, List.drop_succ_cons, List.drop_zero, List.drop_nil, and_self, true_and, and_true, false_and, and_false, Nat.reduceAdd, Nat.reduceLeDiff, Nat.zero_add, Nat.le_refl, Nat.zero_le, pushR, reduceCtorEq, or_self, or_false, false_or, true_or, or_true, n2, n3, K614, ↓G614_0, ↓G614_1, ↓G614_2, ↓U614_2, ↓G614_3, ↓G614_4, ↓U614_4, ↓G614_5, ↓U614_5, ↓G614_6, ↓U614_6, ↓G614_7, ↓G614_8, ↓G614_9, ↓G614_10, ↓G614_11, ↓U614_11, ↓G614_12, ↓U614_12, ↓G614_13, ↓U614_13, ↓G614_14, ↓U614_14, ↓G614_15, ↓G614_16, ↓U614_16, ↓G614_18, ↓U614_18, ↓G614_19, ↓I615, ↓S615, ↓bnd a1, bI_t, one_ne, ↓i0, ↓i1, m13, m14, m16, ← es3]
    exact e4'
  · rw [ec]
    obtain ⟨h1, h2, h3, h4, h5, h6, h7, h8⟩ := hI
    refine ⟨h1.ext (fun a k x y => F _ _ (by omega) (by omega) (by omega)), nil ?_, ?_, by rw [F _ _ (by omega) (by omega) (by omega)]; exact h4, ⟨?_, ?_, n2_, fun _ => ⟨?_, ?_, ?_, n2_, fun i hi => ?_⟩, ?_, fun i hi => ?_⟩, h6.ext (fun k x y => F _ _ (by omega) (by omega) (by omega)), ⟨u2_same _ _ _ _, by simp, fun q c hq => by simp at hq⟩, h8.ext (F _ _ (by omega) (by omega) (by omega)) (fun k => F _ _ (by omega) (by omega) (by omega))⟩
    · rw [u2_oth _ _ (by omega), c1 _ _ (by omega), f4.2 _ _ (by omega), es3, u2_oth _ _ (by omega), u2_oth _ _ (by omega), u2_oth _ _ (by omega), u2_oth _ _ (by omega), u2_same]
    · rw [u2_oth _ _ (by omega), c1 _ _ (by omega), f4.2 _ _ (by omega), o3 _ _ (by omega) (by omega), a3.2.1 g1]; exact h3
    · rw [G _ (by omega), es3, u2_oth _ _ (by omega), u2_oth _ _ (by omega), u2_oth _ _ (by omega), u2_same]; rfl
    · rw [G _ (by omega), es3, u2_same]
    · rw [G _ (by omega), es3, u2_oth _ _ (by omega), u2_oth _ _ (by omega), u2_same]
    · rw [G _ (by omega), es3, u2_oth _ _ (by omega), u2_same]
    · rw [G _ (by omega), es3, u2_same]
    · rw [D, D, D]
      exact ⟨(c2 i hi).1, (c2 i hi).2.1, (c2 i hi).2.2.1⟩
    · rw [D, c3 _ (by omega) (by omega) (fun i hi => by omega)]; rfl
    · have hi : i < ps.length := hi
      have hm : ps.getD i p0 ∈ ps := by
        rw [List.getD_eq_getElem?_getD, List.getElem?_eq_getElem hi]
        exact List.getElem_mem hi
      have hf : (ps.getD i p0).2.2.2.2 = (0, 0, []) := hfr _ hm
      show MP (u2 s5 614 2 0) 615 (0 + 23 + 16 * i) (ps.getD i p0)
      rw [Nat.zero_add]
      refine ⟨?_, ?_, ?_, ?_⟩
      · rw [D, c3 _ (by omega) (by omega) (fun i hi => by omega), hf]; rfl
      · rw [D]; exact (c2 i hi).2.2.2
      · rw [D, c3 _ (by omega) (by omega) (fun i hi => by omega), hf]
      · rw [hf]
        exact ⟨by rw [D, c3 _ (by omega) (by omega) (fun i hi => by omega)]; rfl, by simp, fun i hi => absurd hi (by simp)⟩
end MCT
