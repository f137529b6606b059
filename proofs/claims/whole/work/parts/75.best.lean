/-! ===== the best order ===== -/
def coO (t m : Nat) (ws : Nat → Nat) (p : PT) (n : Nat) (o : List Nat) : Nat := (pD t m (fun k => ws (o.getD k 0)) p n).2.2.2.2.1
theorem pD_cg {t m : Nat} {ws ws' : Nat → Nat} {p : PT} : ∀ {k : Nat}, (∀ i, i < k → ws i = ws' i) → pD t m ws p k = pD t m ws' p k
  | 0, _ => rfl
  | k + 1, h => by
    show pEnd _ _ (pCommit (ws k) (pD t m ws p k)) = pEnd _ _ (pCommit (ws' k) (pD t m ws' p k))
    rw [h k (by omega), pD_cg (fun i hi => h i (by omega))]
def oBest (p r i n k : Int32) (A : AS) : Int32 × AS := if inB p (nPe A) = true ∧ inB r 8 = true ∧ inR n 1 6 = true ∧ (k = -1 ∨ inB k (cl n) = true) then oTold r i n 1 999 A (fun q => fin (if k = -1 then nI (bestS (cl n) (coO (ctyOf A).1 (ctyOf A).2.2.1 (wts q) (pOf A (cl p)) (cl n)) (fun _ => 0)).1 else (bestS (cl n) (coO (ctyOf A).1 (ctyOf A).2.2.1 (wts q) (pOf A (cl p)) (cl n)) (fun _ => 0)).2 (cl k)) A) else bad A
def BSc (s : ST) (n : Nat) (st : BS) : Prop := s.1 501 1 = nI st.1 ∧ st.1 ≤ 10000 ∧ ∀ i, i < n → s.1 502 i = st.2 i
/-- what trying from a depth on may touch -/
def FrY (s s' : ST) (e : Nat) : Prop := s'.2 = s.2 ∧ ∀ a k, ¬ (506 + 3 * (e + 1) ≤ a ∧ a < 527) → ¬ (a = 501 ∧ k = 1) → a ≠ 502 → ¬ (a = 503 ∧ e ≤ k) → s'.1 a k = s.1 a k
theorem FrY.tr {s s1 s2 : ST} {e : Nat} (h : FrY s s1 e) (g : FrY s1 s2 e) : FrY s s2 e := ⟨g.1.trans h.1, fun a k x y z w => (g.2 a k x y z w).trans (h.2 a k x y z w)⟩
theorem FrY.rf (s : ST) (e : Nat) : FrY s s e := ⟨rfl, fun _ _ _ _ _ _ => rfl⟩
theorem FrY.up {s s1 : ST} {e : Nat} (h : FrY s s1 (e + 1)) : FrY s s1 e := ⟨h.1, fun a k x y z w => h.2 a k (by omega) y z (by omega)⟩
theorem FrY.d {s s1 : ST} {e : Nat} (h : FrY s s1 e) : FrD s s1 := ⟨h.1, fun a k x y z => h.2 a k (by omega) y (by omega) (by omega)⟩
section BST
variable {scr : Nat × (Nat → Int32)} {s : ST} {n m t : Nat} {ws : Nat → Nat} {p : PT}
theorem c_keepIf (d : Nat) (hn : n ≤ 6) (hD : DS s n m t ws) {pre : List Nat} {st : BS} (hl : pre.length = n) (hpo : pOk p) (hp : PR s (506 + 3 * n) (pD t m (fun k => ws (pre.getD k 0)) p n)) (hO : ∀ i, i < n → s.1 503 i = nI (pre.getD i 0)) (hB : BSc s n st) : ∃ s', EvM (d + 1) 45 [.ref 501] (mkH scr s) = some (0, mkH scr s') ∧ BSc s' n (kp (coO t m ws p n) st pre) ∧ s'.2 = s.2 ∧ ∀ a k, ¬ (a = 501 ∧ k = 1) → a ≠ 502 → s'.1 a k = s.1 a k := by
  obtain ⟨b1, b2, b3⟩ := hB
  have h5 := hD.1
  have how : s.1 (506 + 3 * n) 5 = nI (coO t m ws p n pre) := hp.2.2.2.2.1
  have h99 : coO t m ws p n pre ≤ 9999 := (pD_ok (t := t) (m := m) (ws := fun k => ws (pre.getD k 0)) hpo n).2.1
  have pst := perSt (k := n) (by omega)
  rw [ev45, e45_0]
  unfold kp
  by_cases g : coO t m ws p n pre < st.1
  · rw [if_pos g]
    have cp := cpyS (scr := scr) (s := u2 s 501 1 (nI (coO t m ws p n pre))) (a0 := 503) (a1 := 502) (sp := 0) (dp := 0) (n := nI n) sh_503 sh_502 ⟨by decide, by decide, nI_pos (by omega), by rw [nI_clamp (by omega)]; show 0 + n ≤ 6; omega, by rw [nI_clamp (by omega)]; show 0 + n ≤ 6; omega⟩
    rw [nI_clamp (show n < 2 ^ 31 by omega)] at cp
    have hs1 : ∃ s1, s1 = uA (u2 s 501 1 (nI (coO t m ws p n pre))) 502 (va_cpy ((u2 s 501 1 (nI (coO t m ws p n pre))).1 503) ((u2 s 501 1 (nI (coO t m ws p n pre))).1 502) (0 : Int32).toNatClampNeg (0 : Int32).toNatClampNeg n) := ⟨_, rfl⟩
    obtain ⟨s1, es1⟩ := hs1
    rw [← es1] at cp
    have o1 : ∀ a k, a ≠ 502 → s1.1 a k = (u2 s 501 1 (nI (coO t m ws p n pre))).1 a k := fun a k ha => by
      rw [es1]
      show (if a = 502 then _ else (u2 s 501 1 (nI (coO t m ws p n pre))).1 a) k = _
      rw [if_neg ha]
    have o2 : ∀ j, j < n → s1.1 502 j = nI (pre.getD j 0) := fun j hj => by
      rw [es1]
      show (if 502 = 502 then va_cpy ((u2 s 501 1 (nI (coO t m ws p n pre))).1 503) ((u2 s 501 1 (nI (coO t m ws p n pre))).1 502) 0 0 n else (u2 s 501 1 (nI (coO t m ws p n pre))).1 502) j = _
      rw [if_pos rfl, pk_cpy_in (Nat.zero_le j) (by omega), Nat.sub_zero, Nat.zero_add, u2_oth _ _ (by omega)]
      exact hO j hj
    have h5' : (u2 s 501 1 (nI (coO t m ws p n pre))).1 501 5 = nI n := by rw [u2_oth _ _ (by omega)]; exact h5
    refine ⟨s1, ?_, ⟨by rw [o1 _ _ (by omega), u2_same], by show coO t m ws p n pre ≤ 10000; omega, o2⟩, by rw [es1]; rfl, fun a k x y => by rw [o1 _ _ y, u2_oth _ _ (by omega)]⟩
    simp (disch := omega) only [e45_0, e45_1, e45_4, e45_5, e45_8, e45_9, e45_12, e45_13, e45_16, e45_19, e45_20, e45_21, e45_24, e45_25, e45_28, e45_29, e45_32, e45_35, e45_36, e45_39, e45_40, e45_41, e45_44, e45_45, e45_46, e45_49, e45_52, ↓reduceIte, ↓gi0, ↓gr0, ↓gl0, ↓gi1, ↓gr1, ↓gl1, ↓gi2, ↓gr2, ↓gl2, ↓gi3, ↓gr3, ↓gl3, ↓gi4, ↓gr4, ↓gl4, ↓gi5, ↓gr5, ↓gl5, ↓gi6, ↓gr6, ↓gl6, ↓gi7, ↓gr7, ↓gl7, ↓gi8, ↓gr8, ↓gl8, ↓gi9, ↓gr9, ↓gl9, ↓qI, ↓qI2, ↓qL, ↓qL2, ↓qR, ↓qV, ↓pd0, ↓ta0, ↓ts0, ↓pd1, ↓ta1, ↓ts1, ↓pd2, ↓ta2, ↓ts2, ↓pd3, ↓ta3, ↓ts3, ↓pd4, ↓ta4, ↓ts4, ↓pd5, ↓ta5, ↓ts5, ↓pd6, ↓ta6, ↓ts6, lGet, lSet, okS, isLg, Bool.not_false, Bool.not_true, Bool.false_eq_true, not_false_eq_true, not_true_eq_false, catS, okR1, okR20, okR21, okR2b, List.length_cons, List.length_nil, List.drop_succ_cons, List.drop_zero, List.drop_nil, and_self, true_and, and_true, false_and, and_false, Nat.reduceAdd, Nat.reduceLeDiff, Nat.zero_add, Nat.le_refl, Nat.zero_le, pushR, reduceCtorEq, or_self, or_false, false_or, true_or, or_true, ltT, ltF, leT, leF, eqF, eqT, lt0F, ge0T, le0T, le0F, eq0T, eq0F, gt0T, gt0F, nI_add, nI_1, pk_mul, subT, sub1, divT, remN, natRem, n2, n3, n4, n5, n6, n7, n8, n9, n10, n12, n16, n22, n23, n24, n40, n48, n57, n60, n97, n99, n100, n119, n120, n238, n357, n999, n9999, n2231, Int32.add_zero, bI_t, bI_f, one_ne, K501, ↓G501_0, ↓G501_1, ↓U501_1, ↓G501_2, ↓G501_3, ↓G501_4, ↓G501_5, ↓U501_5, ↓G501_6, ↓U501_6, ↓G501_7, ↓U501_7, ↓A504, kT, h5, h5', b1, ↓per_gb pst 5 (by decide), how, ↓bnd cp]
  · rw [if_neg g]
    refine ⟨s, ?_, ⟨b1, b2, b3⟩, rfl, fun _ _ _ _ => rfl⟩
    simp (disch := omega) only [e45_0, e45_1, e45_4, e45_5, e45_8, e45_9, e45_12, e45_13, e45_16, e45_19, e45_20, e45_21, e45_24, e45_25, e45_28, e45_29, e45_32, e45_35, e45_36, e45_39, e45_40, e45_41, e45_44, e45_45, e45_46, e45_49, e45_52, ↓reduceIte, ↓gi0, ↓gr0, ↓gl0, ↓gi1, ↓gr1, ↓gl1, ↓gi2, ↓gr2, ↓gl2, ↓gi3, ↓gr3, ↓gl3, ↓gi4, ↓gr4, ↓gl4, ↓gi5, ↓gr5, ↓gl5, ↓gi6, ↓gr6, ↓gl6, ↓gi7, ↓gr7, ↓gl7, ↓gi8, ↓gr8, ↓gl8, ↓gi9, ↓gr9, ↓gl9, ↓qI, ↓qI2, ↓qL, ↓qL2, ↓qR, ↓qV, ↓pd0, ↓ta0, ↓ts0, ↓pd1, ↓ta1, ↓ts1, ↓pd2, ↓ta2, ↓ts2, ↓pd3, ↓ta3, ↓ts3, ↓pd4, ↓ta4, ↓ts4, ↓pd5, ↓ta5, ↓ts5, ↓pd6, ↓ta6, ↓ts6, lGet, lSet, okS, isLg, Bool.not_false, Bool.not_true, Bool.false_eq_true, not_false_eq_true, not_true_eq_false, catS, okR1, okR20, okR21, okR2b, List.length_cons, List.length_nil, List.drop_succ_cons, List.drop_zero, List.drop_nil, and_self, true_and, and_true, false_and, and_false, Nat.reduceAdd, Nat.reduceLeDiff, Nat.zero_add, Nat.le_refl, Nat.zero_le, pushR, reduceCtorEq, or_self, or_false, false_or, true_or, or_true, ltT, ltF, leT, leF, eqF, eqT, lt0F, ge0T, le0T, le0F, eq0T, eq0F, gt0T, gt0F, nI_add, nI_1, pk_mul, subT, sub1, divT, remN, natRem, n2, n3, n4, n5, n6, n7, n8, n9, n10, n12, n16, n22, n23, n24, n40, n48, n57, n60, n97, n99, n100, n119, n120, n238, n357, n999, n9999, n2231, Int32.add_zero, bI_t, bI_f, one_ne, K501, ↓G501_0, ↓G501_1, ↓U501_1, ↓G501_2, ↓G501_3, ↓G501_4, ↓G501_5, ↓U501_5, ↓G501_6, ↓U501_6, ↓G501_7, ↓U501_7, ↓A504, kT, h5, b1, ↓per_gb pst 5 (by decide), how]
set_option maxHeartbeats 4000000 in
theorem c_try (hn : n ≤ 6) (hpo : pOk p) (hm : m ≤ 999) (d : Nat) : ∀ (f : Nat) (pre : List Nat) (s : ST) (st : BS) (U : Nat), pre.length + f = n → DS s n m t ws → PR s (506 + 3 * pre.length) (pD t m (fun k => ws (pre.getD k 0)) p pre.length) → (∀ i, i < pre.length → s.1 503 i = nI (pre.getD i 0)) → U < 64 → (∀ x, x < 6 → U.testBit x = pre.contains x) → BSc s n st → ∃ s', EvM (d + 5 + f) 44 [.ref 501, .int (nI pre.length), .int (nI U)] (mkH scr s) = some (0, mkH scr s') ∧ BSc s' n (trO n (coO t m ws p n) f pre st) ∧ FrY s s' pre.length
  | 0, pre, s, st, U, hl, hD, hp, hO, hU, hbits, hB => by
    have hl : pre.length = n := hl
    rw [hl] at hp hO ⊢
    obtain ⟨s1, a1, a2, a3, a4⟩ := c_keepIf (d + 3) (scr := scr) hn hD hl hpo hp hO hB
    have h5 := hD.1
    refine ⟨s1, ?_, a2, a3, fun a k x y z w => a4 a k y z⟩
    rw [Nat.add_zero, ev44, e44_0]
    simp (disch := omega) only [e44_0, e44_1, e44_2, e44_5, e44_8, e44_9, e44_11, e44_14, e44_15, e44_18, e44_19, e44_20, e44_23, e44_24, e44_25, e44_26, e44_27, e44_28, e44_29, e44_33, e44_34, e44_37, e44_40, e44_41, e44_43, e44_44, e44_45, e44_46, e44_47, e44_50, e44_53, e44_54, e44_57, e44_58, e44_60, e44_61, e44_62, e44_63, e44_66, e44_67, e44_68, e44_71, e44_72, e44_73, e44_76, e44_78, e44_79, e44_82, e44_83, e44_84, e44_87, e44_88, e44_89, e44_90, e44_93, e44_96, e44_97, e44_98, e44_99, e44_100, e44_101, e44_102, e44_104, e44_105, e44_106, e44_109, e44_112, e44_115, ↓reduceIte, ↓gi0, ↓gr0, ↓gl0, ↓gi1, ↓gr1, ↓gl1, ↓gi2, ↓gr2, ↓gl2, ↓gi3, ↓gr3, ↓gl3, ↓gi4, ↓gr4, ↓gl4, ↓gi5, ↓gr5, ↓gl5, ↓gi6, ↓gr6, ↓gl6, ↓gi7, ↓gr7, ↓gl7, ↓gi8, ↓gr8, ↓gl8, ↓gi9, ↓gr9, ↓gl9, ↓qI, ↓qI2, ↓qL, ↓qL2, ↓qR, ↓qV, ↓pd0, ↓ta0, ↓ts0, ↓pd1, ↓ta1, ↓ts1, ↓pd2, ↓ta2, ↓ts2, ↓pd3, ↓ta3, ↓ts3, ↓pd4, ↓ta4, ↓ts4, ↓pd5, ↓ta5, ↓ts5, ↓pd6, ↓ta6, ↓ts6, lGet, lSet, okS, isLg, Bool.not_false, Bool.not_true, Bool.false_eq_true, not_false_eq_true, not_true_eq_false, catS, okR1, okR20, okR21, okR2b, List.length_cons, List.length_nil, List.drop_succ_cons, List.drop_zero, List.drop_nil, and_self, true_and, and_true, false_and, and_false, Nat.reduceAdd, Nat.reduceLeDiff, Nat.zero_add, Nat.le_refl, Nat.zero_le, pushR, reduceCtorEq, or_self, or_false, false_or, true_or, or_true, ltT, ltF, leT, leF, eqF, eqT, lt0F, ge0T, le0T, le0F, eq0T, eq0F, gt0T, gt0F, nI_add, nI_1, pk_mul, subT, sub1, divT, remN, natRem, n2, n3, n4, n5, n6, n7, n8, n9, n10, n12, n16, n22, n23, n24, n40, n48, n57, n60, n97, n99, n100, n119, n120, n238, n357, n999, n9999, n2231, Int32.add_zero, bI_t, bI_f, one_ne, K501, ↓G501_0, ↓G501_1, ↓U501_1, ↓G501_2, ↓G501_3, ↓G501_4, ↓G501_5, ↓U501_5, ↓G501_6, ↓U501_6, ↓G501_7, ↓U501_7, h5, ↓bnd a1]
  | f + 1, pre, s, st, U, hl, hD, hp, hO, hU, hbits, hB => by
    have hd6 : pre.length < 6 := by omega
    have h5 := hD.1
    have hF : trO n (coO t m ws p n) (f + 1) pre st = foldN n (fun q st => if pre.contains q = true then st else trO n (coO t m ws p n) f (pre ++ [q]) st) st := by
      show (List.range n).foldl _ st = _
      rw [foldl_N, List.length_range]
      refine foldN_cg (fun i s hi => ?_)
      have e : (List.range n).getD i 0 = i := by rw [List.getD_eq_getElem?_getD, List.getElem?_range hi]; rfl
      rw [e]
    rw [hF]
    have pdp := perSt (k := pre.length) (by omega)
    have pdn := perSt (k := pre.length + 1) (by omega)
    have hlp := forUp (X := ST) n (fun j x => EvI (EvM (d + 5 + f)) C44 0 31 [.ref 501, .int (nI pre.length), .int (nI U), .ref (506 + 3 * (pre.length + 1)), .int (nI j)] [] (mkH scr x))
      (fun j x => FrY s x pre.length ∧ BSc x n (foldN j (fun q st => if pre.contains q = true then st else trO n (coO t m ws p n) f (pre ++ [q]) st) st))
      (fun r => ∃ x, r = some (0, mkH scr x) ∧ BSc x n (foldN n (fun q st => if pre.contains q = true then st else trO n (coO t m ws p n) f (pre ++ [q]) st) st) ∧ FrY s x pre.length) ?_ ?_ (x := s) ⟨FrY.rf _ _, hB⟩
    · obtain ⟨x, e1, e2, e3⟩ := hlp
      refine ⟨x, ?_, e2, e3⟩
      rw [← e1]
      show EvM (d + 5 + f + 1) 44 _ _ = _
      rw [ev44, e44_0]
      simp (disch := omega) only [e44_0, e44_1, e44_2, e44_5, e44_8, e44_9, e44_11, e44_14, e44_15, e44_18, e44_19, e44_20, e44_23, e44_24, e44_25, e44_26, e44_27, e44_28, e44_29, e44_33, e44_34, e44_37, e44_40, e44_41, e44_43, e44_44, e44_45, e44_46, e44_47, e44_50, e44_53, e44_54, e44_57, e44_58, e44_60, e44_61, e44_62, e44_63, e44_66, e44_67, e44_68, e44_71, e44_72, e44_73, e44_76, e44_78, e44_79, e44_82, e44_83, e44_84, e44_87, e44_88, e44_89, e44_90, e44_93, e44_96, e44_97, e44_98, e44_99, e44_100, e44_101, e44_102, e44_104, e44_105, e44_106, e44_109, e44_112, e44_115, ↓reduceIte, ↓gi0, ↓gr0, ↓gl0, ↓gi1, ↓gr1, ↓gl1, ↓gi2, ↓gr2, ↓gl2, ↓gi3, ↓gr3, ↓gl3, ↓gi4, ↓gr4, ↓gl4, ↓gi5, ↓gr5, ↓gl5, ↓gi6, ↓gr6, ↓gl6, ↓gi7, ↓gr7, ↓gl7, ↓gi8, ↓gr8, ↓gl8, ↓gi9, ↓gr9, ↓gl9, ↓qI, ↓qI2, ↓qL, ↓qL2, ↓qR, ↓qV, ↓pd0, ↓ta0, ↓ts0, ↓pd1, ↓ta1, ↓ts1, ↓pd2, ↓ta2, ↓ts2, ↓pd3, ↓ta3, ↓ts3, ↓pd4, ↓ta4, ↓ts4, ↓pd5, ↓ta5, ↓ts5, ↓pd6, ↓ta6, ↓ts6, lGet, lSet, okS, isLg, Bool.not_false, Bool.not_true, Bool.false_eq_true, not_false_eq_true, not_true_eq_false, catS, okR1, okR20, okR21, okR2b, List.length_cons, List.length_nil, List.drop_succ_cons, List.drop_zero, List.drop_nil, and_self, true_and, and_true, false_and, and_false, Nat.reduceAdd, Nat.reduceLeDiff, Nat.zero_add, Nat.le_refl, Nat.zero_le, pushR, reduceCtorEq, or_self, or_false, false_or, true_or, or_true, ltT, ltF, leT, leF, eqF, eqT, lt0F, ge0T, le0T, le0F, eq0T, eq0F, gt0T, gt0F, nI_add, nI_1, pk_mul, subT, sub1, divT, remN, natRem, n2, n3, n4, n5, n6, n7, n8, n9, n10, n12, n16, n22, n23, n24, n40, n48, n57, n60, n97, n99, n100, n119, n120, n238, n357, n999, n9999, n2231, Int32.add_zero, bI_t, bI_f, one_ne, K501, ↓G501_0, ↓G501_1, ↓U501_1, ↓G501_2, ↓G501_3, ↓G501_4, ↓G501_5, ↓U501_5, ↓G501_6, ↓U501_6, ↓G501_7, ↓U501_7, ↓A504, kT, h5]
      rfl
    · intro j x hj ⟨c1, c2⟩
      have y5 := (hD.fr c1.d).1
      have hj6 : j < 6 := by omega
      have hbt := bit_tab U hU j hj6
      rw [hbits j hj6] at hbt
      have eF : foldN (j + 1) (fun q st => if pre.contains q = true then st else trO n (coO t m ws p n) f (pre ++ [q]) st) st = if pre.contains j = true then foldN j (fun q st => if pre.contains q = true then st else trO n (coO t m ws p n) f (pre ++ [q]) st) st else trO n (coO t m ws p n) f (pre ++ [j]) (foldN j (fun q st => if pre.contains q = true then st else trO n (coO t m ws p n) f (pre ++ [q]) st) st) := rfl
      rw [eF]
      by_cases g : pre.contains j = true
      · have g' := hbt.mpr g
        rw [if_pos g]
        refine ⟨x, ⟨c1, c2⟩, ?_⟩
        rw [e44_31]
        simp (disch := omega) only [e44_0, e44_1, e44_2, e44_5, e44_8, e44_9, e44_11, e44_14, e44_15, e44_18, e44_19, e44_20, e44_23, e44_24, e44_25, e44_26, e44_27, e44_28, e44_29, e44_33, e44_34, e44_37, e44_40, e44_41, e44_43, e44_44, e44_45, e44_46, e44_47, e44_50, e44_53, e44_54, e44_57, e44_58, e44_60, e44_61, e44_62, e44_63, e44_66, e44_67, e44_68, e44_71, e44_72, e44_73, e44_76, e44_78, e44_79, e44_82, e44_83, e44_84, e44_87, e44_88, e44_89, e44_90, e44_93, e44_96, e44_97, e44_98, e44_99, e44_100, e44_101, e44_102, e44_104, e44_105, e44_106, e44_109, e44_112, e44_115, ↓reduceIte, ↓gi0, ↓gr0, ↓gl0, ↓gi1, ↓gr1, ↓gl1, ↓gi2, ↓gr2, ↓gl2, ↓gi3, ↓gr3, ↓gl3, ↓gi4, ↓gr4, ↓gl4, ↓gi5, ↓gr5, ↓gl5, ↓gi6, ↓gr6, ↓gl6, ↓gi7, ↓gr7, ↓gl7, ↓gi8, ↓gr8, ↓gl8, ↓gi9, ↓gr9, ↓gl9, ↓qI, ↓qI2, ↓qL, ↓qL2, ↓qR, ↓qV, ↓pd0, ↓ta0, ↓ts0, ↓pd1, ↓ta1, ↓ts1, ↓pd2, ↓ta2, ↓ts2, ↓pd3, ↓ta3, ↓ts3, ↓pd4, ↓ta4, ↓ts4, ↓pd5, ↓ta5, ↓ts5, ↓pd6, ↓ta6, ↓ts6, lGet, lSet, okS, isLg, Bool.not_false, Bool.not_true, Bool.false_eq_true, not_false_eq_true, not_true_eq_false, catS, okR1, okR20, okR21, okR2b, List.length_cons, List.length_nil, List.drop_succ_cons, List.drop_zero, List.drop_nil, and_self, true_and, and_true, false_and, and_false, Nat.reduceAdd, Nat.reduceLeDiff, Nat.zero_add, Nat.le_refl, Nat.zero_le, pushR, reduceCtorEq, or_self, or_false, false_or, true_or, or_true, ltT, leF, nI_1, K501, ↓G501_0, ↓G501_1, ↓U501_1, ↓G501_2, ↓G501_3, ↓G501_4, ↓G501_5, ↓U501_5, ↓G501_6, ↓U501_6, ↓G501_7, ↓U501_7, y5, g']
      · have g' : ¬ ((nI U >>> (nI j &&& 31)) &&& 1 = 1) := fun z => g (hbt.mp z)
        rw [if_neg g]
        obtain ⟨o1, o2⟩ := or_tab U hU j hj6
        have x1f : FrY s (u2 x 503 pre.length (nI j)) pre.length := c1.tr ⟨rfl, fun a k x y z w => u2_oth _ _ (by omega)⟩
        have hp1 : PR (u2 x 503 pre.length (nI j)) (506 + 3 * pre.length) (pD t m (fun k => ws (pre.getD k 0)) p pre.length) := PR_ext hp (fun a k h1 h2 => x1f.2 _ _ (by omega) (by omega) (by omega) (by omega))
        obtain ⟨x2, a1, a2, a3⟩ := c_copy (d + 4 + f) (scr := scr) pdn pdp (by omega) hp1
        have x2f : FrY s x2 pre.length := x1f.tr ⟨a3.1, fun a k x y z w => a3.2 _ _ (by omega) (by omega) (by omega)⟩
        have hD2 := hD.fr x2f.d
        obtain ⟨w1, w2⟩ := hD2.2.2.2 j hj
        have hokk := pD_ok (t := t) (m := m) (ws := fun k => ws (pre.getD k 0)) hpo pre.length
        obtain ⟨x3, b1, b2, b3⟩ := c_commit (d + 2 + f) (scr := scr) pdn a2 hokk (w := ws j) (by omega)
        have x3f : FrY s x3 pre.length := x2f.tr ⟨b3.1, fun a k x y z w => b3.2 _ _ (by omega) (by omega) (by omega)⟩
        obtain ⟨x4, d1, d2, d3⟩ := c_endMonth (d + 2 + f) (scr := scr) pdn b2 (pCommit_ok hokk) (mo := nI (m + pre.length)) (tm := nI t)
        have x4f : FrY s x4 pre.length := x3f.tr ⟨d3.1, fun a k x y z w => d3.2 _ _ (by omega) (by omega) (by omega)⟩
        have z6 : x3.1 501 6 = nI m := (hD.fr x3f.d).2.1
        have z7 : x3.1 501 7 = nI t := (hD.fr x3f.d).2.2.1
        have hl1 : (pre ++ [j]).length = pre.length + 1 := by rw [List.length_append, List.length_singleton]
        rw [show d + 4 + f + 1 = d + 5 + f by omega] at a1
        rw [show d + 2 + f + 3 = d + 5 + f by omega] at b1 d1
        have hp4 : PR x4 (506 + 3 * (pre ++ [j]).length) (pD t m (fun k => ws ((pre ++ [j]).getD k 0)) p (pre ++ [j]).length) := by
          rw [hl1]
          show PR x4 _ (pEnd (nI (m + pre.length)) (nI t) (pCommit (ws ((pre ++ [j]).getD pre.length 0)) (pD t m (fun k => ws ((pre ++ [j]).getD k 0)) p pre.length)))
          rw [gD_at, pD_cg (ws := fun k => ws ((pre ++ [j]).getD k 0)) (ws' := fun k => ws (pre.getD k 0)) (fun i hi => show ws ((pre ++ [j]).getD i 0) = ws (pre.getD i 0) by rw [gD_lt hi])]
          exact d2
        have hO4 : ∀ i, i < (pre ++ [j]).length → x4.1 503 i = nI ((pre ++ [j]).getD i 0) := fun i hi => by
          rw [hl1] at hi
          rw [d3.2 _ _ (by omega) (by omega) (by omega), b3.2 _ _ (by omega) (by omega) (by omega), a3.2 _ _ (by omega) (by omega) (by omega)]
          by_cases e : i = pre.length
          · subst e; rw [u2_same, gD_at]
          · rw [u2_oth _ _ (by omega), gD_lt (show i < pre.length by omega), c1.2 _ _ (by omega) (by omega) (by omega) (by omega)]
            exact hO i (by omega)
        have hbits4 : ∀ y, y < 6 → (U ||| (1 <<< j)).testBit y = (pre ++ [j]).contains y := fun y hy => by
          rw [or_tab2 U hU j hj6 y hy, hbits y hy, List.contains_eq_mem, List.contains_eq_mem]
          by_cases h1 : y ∈ pre
          · simp [h1]
          · by_cases h2 : y = j
            · simp [h2]
            · simp [h1, h2]
        have hB4 : BSc x4 n (foldN j (fun q st => if pre.contains q = true then st else trO n (coO t m ws p n) f (pre ++ [q]) st) st) := by
          obtain ⟨k1, k2, k3⟩ := c2
          have o : ∀ a k, a = 501 ∨ a = 502 → x4.1 a k = x.1 a k := fun a k ha => by rw [d3.2 _ _ (by omega) (by omega) (by omega), b3.2 _ _ (by omega) (by omega) (by omega), a3.2 _ _ (by omega) (by omega) (by omega), u2_oth _ _ (by omega)]
          exact ⟨by rw [o _ _ (by omega)]; exact k1, k2, fun i hi => by rw [o _ _ (by omega)]; exact k3 i hi⟩
        obtain ⟨x5, e1, e2, e3⟩ := c_try hn hpo hm d f (pre ++ [j]) x4 _ (U ||| (1 <<< j)) (by rw [hl1]; omega) (hD.fr x4f.d) hp4 hO4 o2 hbits4 hB4
        rw [hl1] at e1 e3
        refine ⟨x5, ⟨x4f.tr e3.up, e2⟩, ?_⟩
        have n1 : pre.length < 7 := by omega
        rw [e44_31]
        simp (disch := omega) only [e44_0, e44_1, e44_2, e44_5, e44_8, e44_9, e44_11, e44_14, e44_15, e44_18, e44_19, e44_20, e44_23, e44_24, e44_25, e44_26, e44_27, e44_28, e44_29, e44_33, e44_34, e44_37, e44_40, e44_41, e44_43, e44_44, e44_45, e44_46, e44_47, e44_50, e44_53, e44_54, e44_57, e44_58, e44_60, e44_61, e44_62, e44_63, e44_66, e44_67, e44_68, e44_71, e44_72, e44_73, e44_76, e44_78, e44_79, e44_82, e44_83, e44_84, e44_87, e44_88, e44_89, e44_90, e44_93, e44_96, e44_97, e44_98, e44_99, e44_100, e44_101, e44_102, e44_104, e44_105, e44_106, e44_109, e44_112, e44_115, ↓reduceIte, ↓gi0, ↓gr0, ↓gl0, ↓gi1, ↓gr1, ↓gl1, ↓gi2, ↓gr2, ↓gl2, ↓gi3, ↓gr3, ↓gl3, ↓gi4, ↓gr4, ↓gl4, ↓gi5, ↓gr5, ↓gl5, ↓gi6, ↓gr6, ↓gl6, ↓gi7, ↓gr7, ↓gl7, ↓gi8, ↓gr8, ↓gl8, ↓gi9, ↓gr9, ↓gl9, ↓qI, ↓qI2, ↓qL, ↓qL2, ↓qR, ↓qV, ↓pd0, ↓ta0, ↓ts0, ↓pd1, ↓ta1, ↓ts1, ↓pd2, ↓ta2, ↓ts2, ↓pd3, ↓ta3, ↓ts3, ↓pd4, ↓ta4, ↓ts4, ↓pd5, ↓ta5, ↓ts5, ↓pd6, ↓ta6, ↓ts6, lGet, lSet, okS, isLg, Bool.not_false, Bool.not_true, Bool.false_eq_true, not_false_eq_true, not_true_eq_false, catS, okR1, okR20, okR21, okR2b, List.length_cons, List.length_nil, List.drop_succ_cons, List.drop_zero, List.drop_nil, and_self, true_and, and_true, false_and, and_false, Nat.reduceAdd, Nat.reduceLeDiff, Nat.zero_add, Nat.le_refl, Nat.zero_le, pushR, reduceCtorEq, or_self, or_false, false_or, true_or, or_true, ltT, leF, nI_1, nI_add, K501, ↓G501_0, ↓G501_1, ↓U501_1, ↓G501_2, ↓G501_3, ↓G501_4, ↓G501_5, ↓U501_5, ↓G501_6, ↓U501_6, ↓G501_7, ↓U501_7, ↓I503, ↓S503, ↓I505, ↓S505, ↓A504, kT, y5, g', ↓bnd a1, w1, ↓bnd b1, z6, z7, ↓bnd d1, o1, ↓bnd e1]
    · intro x ⟨c1, c2⟩
      have y5 := (hD.fr c1.d).1
      refine ⟨x, ?_, c2, c1⟩
      rw [e44_31]
      simp (disch := omega) only [e44_0, e44_1, e44_2, e44_5, e44_8, e44_9, e44_11, e44_14, e44_15, e44_18, e44_19, e44_20, e44_23, e44_24, e44_25, e44_26, e44_27, e44_28, e44_29, e44_33, e44_34, e44_37, e44_40, e44_41, e44_43, e44_44, e44_45, e44_46, e44_47, e44_50, e44_53, e44_54, e44_57, e44_58, e44_60, e44_61, e44_62, e44_63, e44_66, e44_67, e44_68, e44_71, e44_72, e44_73, e44_76, e44_78, e44_79, e44_82, e44_83, e44_84, e44_87, e44_88, e44_89, e44_90, e44_93, e44_96, e44_97, e44_98, e44_99, e44_100, e44_101, e44_102, e44_104, e44_105, e44_106, e44_109, e44_112, e44_115, ↓reduceIte, ↓gi0, ↓gr0, ↓gl0, ↓gi1, ↓gr1, ↓gl1, ↓gi2, ↓gr2, ↓gl2, ↓gi3, ↓gr3, ↓gl3, ↓gi4, ↓gr4, ↓gl4, ↓gi5, ↓gr5, ↓gl5, ↓gi6, ↓gr6, ↓gl6, ↓gi7, ↓gr7, ↓gl7, ↓gi8, ↓gr8, ↓gl8, ↓gi9, ↓gr9, ↓gl9, ↓qI, ↓qI2, ↓qL, ↓qL2, ↓qR, ↓qV, ↓pd0, ↓ta0, ↓ts0, ↓pd1, ↓ta1, ↓ts1, ↓pd2, ↓ta2, ↓ts2, ↓pd3, ↓ta3, ↓ts3, ↓pd4, ↓ta4, ↓ts4, ↓pd5, ↓ta5, ↓ts5, ↓pd6, ↓ta6, ↓ts6, lGet, lSet, okS, isLg, Bool.not_false, Bool.not_true, Bool.false_eq_true, not_false_eq_true, not_true_eq_false, catS, okR1, okR20, okR21, okR2b, List.length_cons, List.length_nil, List.drop_succ_cons, List.drop_zero, List.drop_nil, and_self, true_and, and_true, false_and, and_false, Nat.reduceAdd, Nat.reduceLeDiff, Nat.zero_add, Nat.le_refl, Nat.zero_le, pushR, reduceCtorEq, or_self, or_false, false_or, true_or, or_true, ltT, ltF, leT, leF, eqF, eqT, lt0F, ge0T, le0T, le0F, eq0T, eq0F, gt0T, gt0F, nI_add, nI_1, pk_mul, subT, sub1, divT, remN, natRem, n2, n3, n4, n5, n6, n7, n8, n9, n10, n12, n16, n22, n23, n24, n40, n48, n57, n60, n97, n99, n100, n119, n120, n238, n357, n999, n9999, n2231, Int32.add_zero, bI_t, bI_f, one_ne, K501, ↓G501_0, ↓G501_1, ↓U501_1, ↓G501_2, ↓G501_3, ↓G501_4, ↓G501_5, ↓U501_5, ↓G501_6, ↓U501_6, ↓G501_7, ↓U501_7, y5]
theorem c_findBest (d : Nat) {P : Nat} (hP : per P) (hP5 : 531 ≤ P) (hp : PR s P p) (hpo : pOk p) (hm : m ≤ 999) (hn : n ≤ 6) (hD : DS s n m t ws) : ∃ s', EvM (d + 12) 43 [.ref 501, .ref P] (mkH scr s) = some (0, mkH scr s') ∧ BSc s' n (bestS n (coO t m ws p n) (fun _ => 0)) ∧ FrD s s' := by
  have hst : per 506 := perSt (k := 0) (by omega)
  obtain ⟨s1, a1, a2, a3⟩ := c_copy (d + 10) (scr := scr) hst hP (by omega) hp
  have F1 : FrD s s1 := FrD.p (i := 0) (by omega) a3
  have F2 : FrD s (u2 s1 501 1 (nI 10000)) := F1.tr ⟨rfl, fun a k x y z => u2_oth _ _ (by omega)⟩
  obtain ⟨s2, b1, b2, b3⟩ := c_try (scr := scr) (n := n) (m := m) (t := t) (ws := ws) (p := p) hn hpo hm (d + 6 - n) n [] (u2 s1 501 1 (nI 10000)) (10000, fun i => s1.1 502 i) 0 (by simp) (hD.fr F2) (PR_ext a2 (fun a k x y => u2_oth _ _ (by omega))) (fun i hi => absurd hi (by simp)) (by decide) (fun x hx => by simp) ⟨u2_same _ _ _ _, Nat.le_refl _, fun i hi => u2_oth _ _ (by omega)⟩
  rw [trO_best, bestS_0 (fun o => by have := (pD_ok (t := t) (m := m) (ws := fun k => ws (o.getD k 0)) hpo n).2.1; unfold coO; omega) _ (fun _ => 0)] at b2
  have b1' : EvM (d + 11) 44 [.ref 501, .int 0, .int 0] (mkH scr (u2 s1 501 1 (nI 10000))) = some (0, mkH scr s2) := by
    have e : d + 6 - n + 5 + n = d + 11 := by omega
    rw [e] at b1
    exact b1
  have i504 : ∀ (y : ST) (g : Nat → Rs), (aaldF (mkH scr y) 504 0).bind g = g 506 := fun y g => A504 (i := 0) y g (by omega)
  refine ⟨s2, ?_, b2, F2.tr b3.d⟩
  rw [ev43, e43_0]
  simp (disch := omega) only [e43_0, e43_1, e43_4, e43_5, e43_6, e43_7, e43_10, e43_11, e43_14, e43_17, e43_18, e43_19, e43_20, e43_23, ↓reduceIte, ↓gi0, ↓gr0, ↓gl0, ↓gi1, ↓gr1, ↓gl1, ↓gi2, ↓gr2, ↓gl2, ↓gi3, ↓gr3, ↓gl3, ↓gi4, ↓gr4, ↓gl4, ↓gi5, ↓gr5, ↓gl5, ↓gi6, ↓gr6, ↓gl6, ↓gi7, ↓gr7, ↓gl7, ↓gi8, ↓gr8, ↓gl8, ↓gi9, ↓gr9, ↓gl9, ↓qI, ↓qI2, ↓qL, ↓qL2, ↓qR, ↓qV, ↓pd0, ↓ta0, ↓ts0, ↓pd1, ↓ta1, ↓ts1, ↓pd2, ↓ta2, ↓ts2, ↓pd3, ↓ta3, ↓ts3, ↓pd4, ↓ta4, ↓ts4, ↓pd5, ↓ta5, ↓ts5, ↓pd6, ↓ta6, ↓ts6, lGet, lSet, okS, isLg, Bool.not_false, Bool.not_true, Bool.false_eq_true, not_false_eq_true, not_true_eq_false, catS, okR1, okR20, okR21, okR2b, List.length_cons, List.length_nil, List.drop_succ_cons, List.drop_zero, List.drop_nil, and_self, true_and, and_true, false_and, and_false, Nat.reduceAdd, Nat.reduceLeDiff, Nat.zero_add, Nat.le_refl, Nat.zero_le, pushR, reduceCtorEq, or_self, or_false, false_or, true_or, or_true, show (10000 : Int32) = nI 10000 from by decide, K501, ↓G501_0, ↓G501_1, ↓U501_1, ↓G501_2, ↓G501_3, ↓G501_4, ↓G501_5, ↓U501_5, ↓G501_6, ↓U501_6, ↓G501_7, ↓U501_7, ↓i504, per_cl hst, ↓bnd a1, ↓bnd b1']
theorem cb_ref (d : Nat) {j k b : Nat} {i q x : Int32} {s1 : ST} (w1 : EvM (d + 13) 123 [.ref 2, .int (nI j)] (mkH scr s) = some (1, mkH scr s)) (w2 : EvM (d + 13) 122 [.int (nI k)] (mkH scr s) = some (1, mkH scr s)) (w3 : EvM (d + 13) 121 [.int (nI b), .int 1, .int (nI 6)] (mkH scr s) = some (1, mkH scr s)) (w4 : EvM (d + 13) 121 [.int q, .int (-1), .int (nI b - 1)] (mkH scr s) = some (1, mkH scr s)) (a1 : EvM (d + 13) 126 [.ref 2, .int (nI k), .int i, .int (nI b), .int 1, .int (nI 999)] (mkH scr s) = some (x, mkH scr s1)) (gx : ¬ x = 0) : EvM (d + 14) 107 [.ref 2, .int (nI j), .int (nI k), .int i, .int (nI b), .int q] (mkH scr s) = some (x, mkH scr s1) := by
  rw [ev107, e107_0]
  simp (disch := omega) only [e107_0, e107_1, e107_2, e107_5, e107_8, e107_9, e107_12, e107_15, e107_17, e107_18, e107_20, e107_23, e107_26, e107_28, e107_29, e107_31, e107_32, e107_33, e107_36, e107_39, e107_41, e107_42, e107_43, e107_44, e107_45, e107_47, e107_48, e107_51, e107_54, e107_56, e107_58, e107_61, e107_63, e107_64, e107_65, e107_68, e107_69, e107_72, e107_73, e107_76, e107_78, e107_81, e107_82, e107_85, e107_86, e107_89, e107_92, e107_93, e107_94, e107_97, e107_98, e107_100, e107_103, e107_104, e107_107, e107_110, e107_113, e107_114, e107_117, e107_120, e107_122, e107_123, e107_126, ↓reduceIte, ↓gi0, ↓gr0, ↓gl0, ↓gi1, ↓gr1, ↓gl1, ↓gi2, ↓gr2, ↓gl2, ↓gi3, ↓gr3, ↓gl3, ↓gi4, ↓gr4, ↓gl4, ↓gi5, ↓gr5, ↓gl5, ↓gi6, ↓gr6, ↓gl6, ↓gi7, ↓gr7, ↓gl7, ↓gi8, ↓gr8, ↓gl8, ↓gi9, ↓gr9, ↓gl9, ↓qI, ↓qI2, ↓qL, ↓qL2, ↓qR, ↓qV, ↓pd0, ↓ta0, ↓ts0, ↓pd1, ↓ta1, ↓ts1, ↓pd2, ↓ta2, ↓ts2, ↓pd3, ↓ta3, ↓ts3, ↓pd4, ↓ta4, ↓ts4, ↓pd5, ↓ta5, ↓ts5, ↓pd6, ↓ta6, ↓ts6, lGet, lSet, okS, isLg, Bool.not_false, Bool.not_true, Bool.false_eq_true, not_false_eq_true, not_true_eq_false, catS, okR1, okR20, okR21, okR2b, List.length_cons, List.length_nil, List.drop_succ_cons, List.drop_zero, List.drop_nil, and_self, true_and, and_true, false_and, and_false, Nat.reduceAdd, Nat.reduceLeDiff, Nat.zero_add, Nat.le_refl, Nat.zero_le, pushR, reduceCtorEq, or_self, or_false, false_or, true_or, or_true, n6, n999, K2, ↓G2_0, ↓G2_1, ↓G2_2, ↓G2_3, ↓G2_4, ↓G2_5, ↓G2_6, ↓G2_7, ↓G2_8, ↓G2_9, ↓G2_10, ↓G2_11, ↓G2_12, ↓U2_12, ↓G2_13, ↓U2_13, ↓U2_11, ↓nw_a, ↓nw_l, kN, k531, ↓nw_g 0 (by decide), ↓nw_g 1 (by decide), ↓nw_g 2 (by decide), ↓nw_g 3 (by decide), one_ne, ↓bnd w1, ↓bnd w2, ↓bnd w3, ↓bnd w4, ↓bnd a1, gx]
theorem cs_best (d : Nat) {A : AS} (hI : InvC s A) (hG : Gd A) (p r i n q : Int32) : ∃ s', EvM (d + 14) 107 [.ref 2, .int p, .int r, .int i, .int n, .int q] (mkH scr s) = some ((oBest p r i n q A).1, mkH scr s') ∧ InvC s' (oBest p r i n q A).2 ∧ FrHi s s' := by
  obtain ⟨rw_, tp, fl, st, hs, ⟨t, w, m, N, f⟩, im, pa, tr⟩ := A
  have hC : CR s 531 (t, w, m, N, f) := hI.2.2.2.2.2.1
  have hN : s.1 531 3 = nI N := hC.2.2.2.1
  have h6 : N ≤ 6 := hC.2.2.2.2.1
  have hcg : cyGd 9999 (t, w, m, N, f) := hG.2.1.1
  have hm : m ≤ 999 := hG.2.1.2.2
  have hok : cyOk (t, w, m, N, f) := hcg.ok (by decide) (by show m < 2 ^ 20; omega)
  have hr : RWc s rw_ := hI.1
  have ho : rwOk rw_ := hG.1
  have w1 := c_isPerson (d + 11) (scr := scr) p hN h6
  have w2 := c_isRow (d + 11) (h := mkH scr s) r
  have w3 : EvM (d + 13) 121 [.int n, .int 1, .int (nI 6)] (mkH scr s) = some (bI (inR n 1 6), mkH scr s) := c_withinN (d + 12) n 1 6
  cases g1 : inB p N
  · rw [g1] at w1
    refine ⟨s, ?_, ?_, FrHi.rf s⟩ <;> simp only [oBest, nPe, g1, Bool.false_eq_true, false_and, if_false, bad]
    · rw [ev107, e107_0]
      simp (disch := omega) only [e107_0, e107_1, e107_2, e107_5, e107_8, e107_9, e107_12, e107_15, e107_17, e107_18, e107_20, e107_23, e107_26, e107_28, e107_29, e107_31, e107_32, e107_33, e107_36, e107_39, e107_41, e107_42, e107_43, e107_44, e107_45, e107_47, e107_48, e107_51, e107_54, e107_56, e107_58, e107_61, e107_63, e107_64, e107_65, e107_68, e107_69, e107_72, e107_73, e107_76, e107_78, e107_81, e107_82, e107_85, e107_86, e107_89, e107_92, e107_93, e107_94, e107_97, e107_98, e107_100, e107_103, e107_104, e107_107, e107_110, e107_113, e107_114, e107_117, e107_120, e107_122, e107_123, e107_126, ↓reduceIte, ↓gi0, ↓gr0, ↓gl0, ↓gi1, ↓gr1, ↓gl1, ↓gi2, ↓gr2, ↓gl2, ↓gi3, ↓gr3, ↓gl3, ↓gi4, ↓gr4, ↓gl4, ↓gi5, ↓gr5, ↓gl5, ↓gi6, ↓gr6, ↓gl6, ↓gi7, ↓gr7, ↓gl7, ↓gi8, ↓gr8, ↓gl8, ↓gi9, ↓gr9, ↓gl9, ↓qI, ↓qI2, ↓qL, ↓qL2, ↓qR, ↓qV, ↓pd0, ↓ta0, ↓ts0, ↓pd1, ↓ta1, ↓ts1, ↓pd2, ↓ta2, ↓ts2, ↓pd3, ↓ta3, ↓ts3, ↓pd4, ↓ta4, ↓ts4, ↓pd5, ↓ta5, ↓ts5, ↓pd6, ↓ta6, ↓ts6, lGet, lSet, okS, isLg, Bool.not_false, Bool.not_true, Bool.false_eq_true, not_false_eq_true, not_true_eq_false, catS, okR1, okR20, okR21, okR2b, List.length_cons, List.length_nil, List.drop_succ_cons, List.drop_zero, List.drop_nil, and_self, true_and, and_true, false_and, and_false, Nat.reduceAdd, Nat.reduceLeDiff, Nat.zero_add, Nat.le_refl, Nat.zero_le, pushR, reduceCtorEq, or_self, or_false, false_or, true_or, or_true, ltT, ltF, leT, leF, eqF, eqT, lt0F, ge0T, le0T, le0F, eq0T, eq0F, gt0T, gt0F, nI_add, nI_1, pk_mul, subT, sub1, divT, remN, natRem, n2, n3, n4, n5, n6, n7, n8, n9, n10, n12, n16, n22, n23, n24, n40, n48, n57, n60, n97, n99, n100, n119, n120, n238, n357, n999, n9999, n2231, Int32.add_zero, bI_t, bI_f, one_ne, K2, ↓G2_0, ↓G2_1, ↓G2_2, ↓G2_3, ↓G2_4, ↓G2_5, ↓G2_6, ↓G2_7, ↓G2_8, ↓G2_9, ↓G2_10, ↓G2_11, ↓G2_12, ↓U2_12, ↓G2_13, ↓U2_13, ↓U2_11, ↓nw_a, ↓nw_l, kN, k531, ↓nw_g 0 (by decide), ↓nw_g 1 (by decide), ↓nw_g 2 (by decide), ↓nw_g 3 (by decide), ↓bnd w1]
    · exact hI
  rw [g1] at w1
  cases g2 : inB r 8
  · rw [g2] at w2
    refine ⟨s, ?_, ?_, FrHi.rf s⟩ <;> simp only [oBest, nPe, g1, g2, Bool.false_eq_true, false_and, and_false, if_false, bad]
    · rw [ev107, e107_0]
      simp (disch := omega) only [e107_0, e107_1, e107_2, e107_5, e107_8, e107_9, e107_12, e107_15, e107_17, e107_18, e107_20, e107_23, e107_26, e107_28, e107_29, e107_31, e107_32, e107_33, e107_36, e107_39, e107_41, e107_42, e107_43, e107_44, e107_45, e107_47, e107_48, e107_51, e107_54, e107_56, e107_58, e107_61, e107_63, e107_64, e107_65, e107_68, e107_69, e107_72, e107_73, e107_76, e107_78, e107_81, e107_82, e107_85, e107_86, e107_89, e107_92, e107_93, e107_94, e107_97, e107_98, e107_100, e107_103, e107_104, e107_107, e107_110, e107_113, e107_114, e107_117, e107_120, e107_122, e107_123, e107_126, ↓reduceIte, ↓gi0, ↓gr0, ↓gl0, ↓gi1, ↓gr1, ↓gl1, ↓gi2, ↓gr2, ↓gl2, ↓gi3, ↓gr3, ↓gl3, ↓gi4, ↓gr4, ↓gl4, ↓gi5, ↓gr5, ↓gl5, ↓gi6, ↓gr6, ↓gl6, ↓gi7, ↓gr7, ↓gl7, ↓gi8, ↓gr8, ↓gl8, ↓gi9, ↓gr9, ↓gl9, ↓qI, ↓qI2, ↓qL, ↓qL2, ↓qR, ↓qV, ↓pd0, ↓ta0, ↓ts0, ↓pd1, ↓ta1, ↓ts1, ↓pd2, ↓ta2, ↓ts2, ↓pd3, ↓ta3, ↓ts3, ↓pd4, ↓ta4, ↓ts4, ↓pd5, ↓ta5, ↓ts5, ↓pd6, ↓ta6, ↓ts6, lGet, lSet, okS, isLg, Bool.not_false, Bool.not_true, Bool.false_eq_true, not_false_eq_true, not_true_eq_false, catS, okR1, okR20, okR21, okR2b, List.length_cons, List.length_nil, List.drop_succ_cons, List.drop_zero, List.drop_nil, and_self, true_and, and_true, false_and, and_false, Nat.reduceAdd, Nat.reduceLeDiff, Nat.zero_add, Nat.le_refl, Nat.zero_le, pushR, reduceCtorEq, or_self, or_false, false_or, true_or, or_true, ltT, ltF, leT, leF, eqF, eqT, lt0F, ge0T, le0T, le0F, eq0T, eq0F, gt0T, gt0F, nI_add, nI_1, pk_mul, subT, sub1, divT, remN, natRem, n2, n3, n4, n5, n6, n7, n8, n9, n10, n12, n16, n22, n23, n24, n40, n48, n57, n60, n97, n99, n100, n119, n120, n238, n357, n999, n9999, n2231, Int32.add_zero, bI_t, bI_f, one_ne, K2, ↓G2_0, ↓G2_1, ↓G2_2, ↓G2_3, ↓G2_4, ↓G2_5, ↓G2_6, ↓G2_7, ↓G2_8, ↓G2_9, ↓G2_10, ↓G2_11, ↓G2_12, ↓U2_12, ↓G2_13, ↓U2_13, ↓U2_11, ↓nw_a, ↓nw_l, kN, k531, ↓nw_g 0 (by decide), ↓nw_g 1 (by decide), ↓nw_g 2 (by decide), ↓nw_g 3 (by decide), ↓bnd w1, ↓bnd w2]
    · exact hI
  rw [g2] at w2
  cases g3 : inR n 1 6
  · rw [g3] at w3
    refine ⟨s, ?_, ?_, FrHi.rf s⟩ <;> simp only [oBest, nPe, g1, g2, g3, Bool.false_eq_true, false_and, and_false, if_false, bad]
    · rw [ev107, e107_0]
      simp (disch := omega) only [e107_0, e107_1, e107_2, e107_5, e107_8, e107_9, e107_12, e107_15, e107_17, e107_18, e107_20, e107_23, e107_26, e107_28, e107_29, e107_31, e107_32, e107_33, e107_36, e107_39, e107_41, e107_42, e107_43, e107_44, e107_45, e107_47, e107_48, e107_51, e107_54, e107_56, e107_58, e107_61, e107_63, e107_64, e107_65, e107_68, e107_69, e107_72, e107_73, e107_76, e107_78, e107_81, e107_82, e107_85, e107_86, e107_89, e107_92, e107_93, e107_94, e107_97, e107_98, e107_100, e107_103, e107_104, e107_107, e107_110, e107_113, e107_114, e107_117, e107_120, e107_122, e107_123, e107_126, ↓reduceIte, ↓gi0, ↓gr0, ↓gl0, ↓gi1, ↓gr1, ↓gl1, ↓gi2, ↓gr2, ↓gl2, ↓gi3, ↓gr3, ↓gl3, ↓gi4, ↓gr4, ↓gl4, ↓gi5, ↓gr5, ↓gl5, ↓gi6, ↓gr6, ↓gl6, ↓gi7, ↓gr7, ↓gl7, ↓gi8, ↓gr8, ↓gl8, ↓gi9, ↓gr9, ↓gl9, ↓qI, ↓qI2, ↓qL, ↓qL2, ↓qR, ↓qV, ↓pd0, ↓ta0, ↓ts0, ↓pd1, ↓ta1, ↓ts1, ↓pd2, ↓ta2, ↓ts2, ↓pd3, ↓ta3, ↓ts3, ↓pd4, ↓ta4, ↓ts4, ↓pd5, ↓ta5, ↓ts5, ↓pd6, ↓ta6, ↓ts6, lGet, lSet, okS, isLg, Bool.not_false, Bool.not_true, Bool.false_eq_true, not_false_eq_true, not_true_eq_false, catS, okR1, okR20, okR21, okR2b, List.length_cons, List.length_nil, List.drop_succ_cons, List.drop_zero, List.drop_nil, and_self, true_and, and_true, false_and, and_false, Nat.reduceAdd, Nat.reduceLeDiff, Nat.zero_add, Nat.le_refl, Nat.zero_le, pushR, reduceCtorEq, or_self, or_false, false_or, true_or, or_true, ltT, ltF, leT, leF, eqF, eqT, lt0F, ge0T, le0T, le0F, eq0T, eq0F, gt0T, gt0F, nI_add, nI_1, pk_mul, subT, sub1, divT, remN, natRem, n2, n3, n4, n5, n6, n7, n8, n9, n10, n12, n16, n22, n23, n24, n40, n48, n57, n60, n97, n99, n100, n119, n120, n238, n357, n999, n9999, n2231, Int32.add_zero, bI_t, bI_f, one_ne, K2, ↓G2_0, ↓G2_1, ↓G2_2, ↓G2_3, ↓G2_4, ↓G2_5, ↓G2_6, ↓G2_7, ↓G2_8, ↓G2_9, ↓G2_10, ↓G2_11, ↓G2_12, ↓U2_12, ↓G2_13, ↓U2_13, ↓U2_11, ↓nw_a, ↓nw_l, kN, k531, ↓nw_g 0 (by decide), ↓nw_g 1 (by decide), ↓nw_g 2 (by decide), ↓nw_g 3 (by decide), ↓bnd w1, ↓bnd w2, ↓bnd w3]
    · exact hI
  rw [g3] at w3
  obtain ⟨j, hj, rfl⟩ := inB_of (by omega) g1
  obtain ⟨k, hk, rfl⟩ := inB_of (by omega) g2
  obtain ⟨b, hb1, hb2, rfl⟩ := inR_of (by decide) (by decide) g3
  have ej : (nI j).toNatClampNeg = j := nI_clamp (by omega)
  have ek : (nI k).toNatClampNeg = k := nI_clamp (by omega)
  have eb : (nI b).toNatClampNeg = b := nI_clamp (by omega)
  have hj6 : j < 6 := by omega
  have w4 := c_within (d + 12) (h := mkH scr s) q (-1) (nI b - 1)
  rw [within_m1 hb2] at w4
  cases g4 : (decide (q = -1) || inB q b)
  · rw [g4] at w4
    have g3' : ¬ (q = -1 ∨ inB q b = true) := by
      intro z
      rw [Bool.or_eq_false_iff] at g4
      rcases z with z | z
      · exact of_decide_eq_false g4.1 z
      · rw [z] at g4; cases g4.2
    refine ⟨s, ?_, ?_, FrHi.rf s⟩ <;> simp only [oBest, nPe, g1, g2, g3, eb, cl, g3', and_false, if_false, bad]
    · rw [ev107, e107_0]
      simp (disch := omega) only [e107_0, e107_1, e107_2, e107_5, e107_8, e107_9, e107_12, e107_15, e107_17, e107_18, e107_20, e107_23, e107_26, e107_28, e107_29, e107_31, e107_32, e107_33, e107_36, e107_39, e107_41, e107_42, e107_43, e107_44, e107_45, e107_47, e107_48, e107_51, e107_54, e107_56, e107_58, e107_61, e107_63, e107_64, e107_65, e107_68, e107_69, e107_72, e107_73, e107_76, e107_78, e107_81, e107_82, e107_85, e107_86, e107_89, e107_92, e107_93, e107_94, e107_97, e107_98, e107_100, e107_103, e107_104, e107_107, e107_110, e107_113, e107_114, e107_117, e107_120, e107_122, e107_123, e107_126, ↓reduceIte, ↓gi0, ↓gr0, ↓gl0, ↓gi1, ↓gr1, ↓gl1, ↓gi2, ↓gr2, ↓gl2, ↓gi3, ↓gr3, ↓gl3, ↓gi4, ↓gr4, ↓gl4, ↓gi5, ↓gr5, ↓gl5, ↓gi6, ↓gr6, ↓gl6, ↓gi7, ↓gr7, ↓gl7, ↓gi8, ↓gr8, ↓gl8, ↓gi9, ↓gr9, ↓gl9, ↓qI, ↓qI2, ↓qL, ↓qL2, ↓qR, ↓qV, ↓pd0, ↓ta0, ↓ts0, ↓pd1, ↓ta1, ↓ts1, ↓pd2, ↓ta2, ↓ts2, ↓pd3, ↓ta3, ↓ts3, ↓pd4, ↓ta4, ↓ts4, ↓pd5, ↓ta5, ↓ts5, ↓pd6, ↓ta6, ↓ts6, lGet, lSet, okS, isLg, Bool.not_false, Bool.not_true, Bool.false_eq_true, not_false_eq_true, not_true_eq_false, catS, okR1, okR20, okR21, okR2b, List.length_cons, List.length_nil, List.drop_succ_cons, List.drop_zero, List.drop_nil, and_self, true_and, and_true, false_and, and_false, Nat.reduceAdd, Nat.reduceLeDiff, Nat.zero_add, Nat.le_refl, Nat.zero_le, pushR, reduceCtorEq, or_self, or_false, false_or, true_or, or_true, n6, K2, ↓G2_0, ↓G2_1, ↓G2_2, ↓G2_3, ↓G2_4, ↓G2_5, ↓G2_6, ↓G2_7, ↓G2_8, ↓G2_9, ↓G2_10, ↓G2_11, ↓G2_12, ↓U2_12, ↓G2_13, ↓U2_13, ↓U2_11, ↓nw_a, ↓nw_l, kN, k531, ↓nw_g 0 (by decide), ↓nw_g 1 (by decide), ↓nw_g 2 (by decide), ↓nw_g 3 (by decide), bI_t, bI_f, one_ne, ↓bnd w1, ↓bnd w2, ↓bnd w3, ↓bnd w4]
    · exact hI
  rw [g4] at w4
  have gq : q = -1 ∨ inB q b = true := by
    rw [Bool.or_eq_true] at g4
    rcases g4 with z | z
    · exact Or.inl (of_decide_eq_true z)
    · exact Or.inr z
  by_cases g5 : fndC (rw_.1 k) (rw_.2.1 k) i (nI b) = 0
  case neg =>
    have key := cb_ref d w1 w2 w3 w4 (c_toldF (d + 10) (scr := scr) hr ho hk i (nI b) 1 (nI 999) g5) fnd_ne
    have eo : oBest (nI j) (nI k) i (nI b) q (rw_, tp, fl, st, hs, (t, w, m, N, f), im, pa, tr) = fnd (fndC (rw_.1 k) (rw_.2.1 k) i (nI b)) (rw_, tp, fl, st, hs, (t, w, m, N, f), im, pa, tr) := by simp only [oBest, oTold, nPe, g1, g2, g3, gq, ek, eb, g5, cl, and_self, if_true, if_false]
    rw [eo, fnd_1, fnd_2]
    exact ⟨_, key, hI.stt, (FrHi.rf s).st⟩
  have z4 := (ho k hk).2
  obtain ⟨a, b', hab, rfl, hb⟩ := spanB_of (by omega) (fndC_0 g5).2
  have ebN : b' = b := ((nI_eq (by omega) (by omega)).mp hb).symm
  subst ebN
  have ea : (nI a).toNatClampNeg = a := nI_clamp (by omega)
  obtain ⟨s1, a1, a2, a3, a4⟩ := c_told (d + 10) (scr := scr) hr ho (k := k) (a := a) (n := b') (lo := 1) (hi := 999) hk g5 (by omega)
  have a1' : EvM (d + 13) 126 [.ref 2, .int (nI k), .int (nI a), .int (nI b'), .int 1, .int (nI 999)] (mkH scr s) = _ := a1
  have eo : oBest (nI j) (nI k) (nI a) (nI b') q (rw_, tp, fl, st, hs, (t, w, m, N, f), im, pa, tr) = if allIn (itm rw_ k a) 1 999 b' = true then fin (if q = -1 then nI (bestS b' (coO t m (wts (itm rw_ k a)) (f j) b') (fun _ => 0)).1 else (bestS b' (coO t m (wts (itm rw_ k a)) (f j) b') (fun _ => 0)).2 (cl q)) (rw_, tp, fl, st, hs, (t, w, m, N, f), im, pa, tr) else bad (rw_, tp, fl, st, hs, (t, w, m, N, f), im, pa, tr) := by simp only [oBest, oTold, nPe, pOf, ctyOf, g1, g2, g3, gq, ej, ek, ea, eb, g5, cl, and_self, if_true]
  rw [eo]
  cases g6 : allIn (itm rw_ k a) 1 999 b'
  · rw [g6] at a1'
    simp only [Bool.false_eq_true, if_false] at a1'
    have key := cb_ref d w1 w2 w3 w4 a1' (by decide)
    exact ⟨s1, key, hI.ext (KpC.t6 a3), FrHi.t6 a3⟩
  rw [g6] at a1'
  simp only [if_true] at a1' ⊢
  have hC1 : CR s1 531 (t, w, m, N, f) := CR_ext hC (fun a k x y => a3 _ _ (by omega))
  obtain ⟨s2, b1, b2, b3, b4, b5, b6⟩ := c_dbegin (d + 12) (scr := scr) (n := b') hC1 (by omega)
  have hC2 : CR s2 531 (t, w, m, N, f) := CR_ext hC1 (fun a k x y => b2 _ _ (by omega) (by omega))
  have hw := wts_ok g6
  have hD : DS s2 b' m t (wts (itm rw_ k a)) := ⟨b3, b4, b5, fun q hq => by rw [b6 q hq, a4 q hq]; exact hw q hq⟩
  obtain ⟨s3, c1, c2, c3⟩ := c_findBest (d + 1) (scr := scr) (perN hj6) (by omega) (hC2.pr hj) (hok.2.2.2 j hj) hm hb2 hD
  have kpp : KpC s s3 := (KpC.t6 a3).tr (fun a k x y z w v => by rw [c3.2 _ _ (by omega) (by omega) (by omega), b2 _ _ (by omega) (by omega)])
  have hfr : FrHi s s3 := fun a k x => by rw [c3.2 _ _ (by omega) (by omega) (by omega), b2 _ _ (by omega) (by omega), a3 _ _ (by omega)]
  obtain ⟨d1, d2, d3⟩ := c2
  generalize bestS b' (coO t m (wts (itm rw_ k a)) (f j) b') (fun _ => 0) = bb at *
  have ke : ∀ x, EvM (d + 13) 129 [.ref 2, .int x] (mkH scr s3) = some (x, mkH scr (u2 s3 2 13 0)) := fun x => c_fine (d + 12) x
  refine ⟨u2 s3 2 13 0, ?_, (hI.ext kpp).stt, hfr.st⟩
  rw [ev107, e107_0]
  rcases gq with rfl | gq
  · have k4 := ke (nI bb.1)
    have n1 : ¬ ((0 : Int32) ≤ -1) := by decide
    simp (disch := omega) only [e107_0, e107_1, e107_2, e107_5, e107_8, e107_9, e107_12, e107_15, e107_17, e107_18, e107_20, e107_23, e107_26, e107_28, e107_29, e107_31, e107_32, e107_33, e107_36, e107_39, e107_41, e107_42, e107_43, e107_44, e107_45, e107_47, e107_48, e107_51, e107_54, e107_56, e107_58, e107_61, e107_63, e107_64, e107_65, e107_68, e107_69, e107_72, e107_73, e107_76, e107_78, e107_81, e107_82, e107_85, e107_86, e107_89, e107_92, e107_93, e107_94, e107_97, e107_98, e107_100, e107_103, e107_104, e107_107, e107_110, e107_113, e107_114, e107_117, e107_120, e107_122, e107_123, e107_126, ↓reduceIte, ↓gi0, ↓gr0, ↓gl0, ↓gi1, ↓gr1, ↓gl1, ↓gi2, ↓gr2, ↓gl2, ↓gi3, ↓gr3, ↓gl3, ↓gi4, ↓gr4, ↓gl4, ↓gi5, ↓gr5, ↓gl5, ↓gi6, ↓gr6, ↓gl6, ↓gi7, ↓gr7, ↓gl7, ↓gi8, ↓gr8, ↓gl8, ↓gi9, ↓gr9, ↓gl9, ↓qI, ↓qI2, ↓qL, ↓qL2, ↓qR, ↓qV, ↓pd0, ↓ta0, ↓ts0, ↓pd1, ↓ta1, ↓ts1, ↓pd2, ↓ta2, ↓ts2, ↓pd3, ↓ta3, ↓ts3, ↓pd4, ↓ta4, ↓ts4, ↓pd5, ↓ta5, ↓ts5, ↓pd6, ↓ta6, ↓ts6, lGet, lSet, okS, isLg, Bool.not_false, Bool.not_true, Bool.false_eq_true, not_false_eq_true, not_true_eq_false, catS, okR1, okR20, okR21, okR2b, List.length_cons, List.length_nil, List.drop_succ_cons, List.drop_zero, List.drop_nil, and_self, true_and, and_true, false_and, and_false, Nat.reduceAdd, Nat.reduceLeDiff, Nat.zero_add, Nat.le_refl, Nat.zero_le, pushR, reduceCtorEq, or_self, or_false, false_or, true_or, or_true, n6, n999, K2, ↓G2_0, ↓G2_1, ↓G2_2, ↓G2_3, ↓G2_4, ↓G2_5, ↓G2_6, ↓G2_7, ↓G2_8, ↓G2_9, ↓G2_10, ↓G2_11, ↓G2_12, ↓U2_12, ↓G2_13, ↓U2_13, ↓U2_11, K501, ↓G501_0, ↓G501_1, ↓U501_1, ↓G501_2, ↓G501_3, ↓G501_4, ↓G501_5, ↓U501_5, ↓G501_6, ↓U501_6, ↓G501_7, ↓U501_7, ↓nw_a, ↓nw_l, kN, k531, ↓nw_g 0 (by decide), ↓nw_g 1 (by decide), ↓nw_g 2 (by decide), ↓nw_g 3 (by decide), bI_t, one_ne, ↓bnd w1, ↓bnd w2, ↓bnd w3, ↓bnd w4, ↓bnd a1', ↓bnd b1, ↓bnd c1, n1, d1, ↓bnd k4, fin]
  · obtain ⟨c, hc, rfl⟩ := inB_of (by omega) gq
    have ec : (nI c).toNatClampNeg = c := nI_clamp (by omega)
    have n1 : (nI c = -1) = False := eq_false (fun z => nI_pos (n := c) (by omega) (by rw [z]; decide))
    have d3c := d3 c hc
    have k4 := ke (bb.2 c)
    simp (disch := omega) only [e107_0, e107_1, e107_2, e107_5, e107_8, e107_9, e107_12, e107_15, e107_17, e107_18, e107_20, e107_23, e107_26, e107_28, e107_29, e107_31, e107_32, e107_33, e107_36, e107_39, e107_41, e107_42, e107_43, e107_44, e107_45, e107_47, e107_48, e107_51, e107_54, e107_56, e107_58, e107_61, e107_63, e107_64, e107_65, e107_68, e107_69, e107_72, e107_73, e107_76, e107_78, e107_81, e107_82, e107_85, e107_86, e107_89, e107_92, e107_93, e107_94, e107_97, e107_98, e107_100, e107_103, e107_104, e107_107, e107_110, e107_113, e107_114, e107_117, e107_120, e107_122, e107_123, e107_126, ↓reduceIte, ↓gi0, ↓gr0, ↓gl0, ↓gi1, ↓gr1, ↓gl1, ↓gi2, ↓gr2, ↓gl2, ↓gi3, ↓gr3, ↓gl3, ↓gi4, ↓gr4, ↓gl4, ↓gi5, ↓gr5, ↓gl5, ↓gi6, ↓gr6, ↓gl6, ↓gi7, ↓gr7, ↓gl7, ↓gi8, ↓gr8, ↓gl8, ↓gi9, ↓gr9, ↓gl9, ↓qI, ↓qI2, ↓qL, ↓qL2, ↓qR, ↓qV, ↓pd0, ↓ta0, ↓ts0, ↓pd1, ↓ta1, ↓ts1, ↓pd2, ↓ta2, ↓ts2, ↓pd3, ↓ta3, ↓ts3, ↓pd4, ↓ta4, ↓ts4, ↓pd5, ↓ta5, ↓ts5, ↓pd6, ↓ta6, ↓ts6, lGet, lSet, okS, isLg, Bool.not_false, Bool.not_true, Bool.false_eq_true, not_false_eq_true, not_true_eq_false, catS, okR1, okR20, okR21, okR2b, List.length_cons, List.length_nil, List.drop_succ_cons, List.drop_zero, List.drop_nil, and_self, true_and, and_true, false_and, and_false, Nat.reduceAdd, Nat.reduceLeDiff, Nat.zero_add, Nat.le_refl, Nat.zero_le, pushR, reduceCtorEq, or_self, or_false, false_or, true_or, or_true, n6, n999, ge0T, K2, ↓G2_0, ↓G2_1, ↓G2_2, ↓G2_3, ↓G2_4, ↓G2_5, ↓G2_6, ↓G2_7, ↓G2_8, ↓G2_9, ↓G2_10, ↓G2_11, ↓G2_12, ↓U2_12, ↓G2_13, ↓U2_13, ↓U2_11, K501, ↓G501_0, ↓G501_1, ↓U501_1, ↓G501_2, ↓G501_3, ↓G501_4, ↓G501_5, ↓U501_5, ↓G501_6, ↓U501_6, ↓G501_7, ↓U501_7, ↓I502, ↓S502, ↓nw_a, ↓nw_l, kN, k531, ↓nw_g 0 (by decide), ↓nw_g 1 (by decide), ↓nw_g 2 (by decide), ↓nw_g 3 (by decide), bI_t, one_ne, ↓bnd w1, ↓bnd w2, ↓bnd w3, ↓bnd w4, ↓bnd a1', ↓bnd b1, ↓bnd c1, n1, d3c, ec, cl, ↓bnd k4, fin]
end BST
