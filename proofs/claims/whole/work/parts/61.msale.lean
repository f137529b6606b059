/-! ===== the reference's calls: sales, who dies, months ===== -/
section MSB
variable {scr : Nat × (Nat → Int32)} {s : ST}
theorem m_refS (d : Nat) {b : Nat} {c : CY} (hV : MV s b c) (hok : cyOk c) (h6 : c.2.2.2.1 ≤ 6) (hb : b + 119 ≤ 476) {x y n : Nat} (hx : x < c.2.2.2.1) (hy : y < c.2.2.2.1) (hn : n < 2 ^ 20) : EvM (d + 3) 166 [.ref 614, .int (nI b), .int (nI x), .int (nI y), .int (nI n)] (mkH scr s) = some (refS n (c.2.2.2.2 x) (c.2.2.2.2 y), mkH scr s) := by
  have hpx := hV.2 x hx
  have hpy := hV.2 y hy
  have ux := m_unspent d (scr := scr) hpx.2.2.2 (by omega)
  have uy := m_unspent d (scr := scr) hpy.2.2.2 (by omega)
  have sx := sumD_lt hpx.2.2.2.2.1 (fun i hi => ((hok.2.2.2 x hx).2.2.1 i hi).1)
  have sy := sumD_lt hpy.2.2.2.2.1 (fun i hi => ((hok.2.2.2 y hy).2.2.1 i hi).1)
  rw [ev166, e166_0]
  unfold refS
  by_cases g1 : sumD (c.2.2.2.2 x).2.2.2.2.2.2 < n
  · rw [if_pos g1]
    simp (disch := omega) only [e166_0, e166_1, e166_2, e166_3, e166_6, e166_8, e166_11, e166_13, e166_16, e166_17, e166_18, e166_19, e166_22, e166_24, e166_25, e166_28, e166_31, e166_33, e166_36, e166_37, ↓reduceIte, ↓gi0, ↓gr0, ↓gl0, ↓gi1, ↓gr1, ↓gl1, ↓gi2, ↓gr2, ↓gl2, ↓gi3, ↓gr3, ↓gl3, ↓gi4, ↓gr4, ↓gl4, ↓gi5, ↓gr5, ↓gl5, ↓gi6, ↓gr6, ↓gl6, ↓gi7, ↓gr7, ↓gl7, ↓gi8, ↓gr8, ↓gl8, ↓gi9, ↓gr9, ↓gl9, ↓qI, ↓qI2, ↓qL, ↓qL2, ↓qR, ↓qV, ↓pd0, ↓ta0, ↓ts0, ↓pd1, ↓ta1, ↓ts1, ↓pd2, ↓ta2, ↓ts2, ↓pd3, ↓ta3, ↓ts3, ↓pd4, ↓ta4, ↓ts4, ↓pd5, ↓ta5, ↓ts5, ↓pd6, ↓ta6, ↓ts6, lGet, lSet, okS, isLg, Bool.not_false, Bool.not_true, Bool.false_eq_true, not_false_eq_true, not_true_eq_false, catS, okR1, okR20, okR21, okR2b, List.length_cons, List.length_nil, List.drop_succ_cons, List.drop_zero, List.drop_nil, and_self, true_and, and_true, false_and, and_false, Nat.reduceAdd, Nat.reduceLeDiff, Nat.zero_add, Nat.le_refl, Nat.zero_le, pushR, reduceCtorEq, or_self, or_false, false_or, true_or, or_true, ltT, ltF, leT, leF, eqF, eqT, lt0F, ge0T, le0T, le0F, eq0T, eq0F, gt0T, gt0F, nI_add, nI_1, pk_mul, subT, sub1, divT, remN, natRem, n2, n3, n4, n5, n6, n7, n8, n9, n10, n12, n16, n22, n23, n24, n40, n48, n57, n60, n97, n99, n100, n119, n120, n238, n357, n999, n9999, n2231, Int32.add_zero, bI_t, bI_f, one_ne, K614, ↓G614_0, ↓G614_1, ↓G614_2, ↓U614_2, ↓G614_3, ↓G614_4, ↓U614_4, ↓G614_5, ↓U614_5, ↓G614_6, ↓U614_6, ↓G614_7, ↓G614_8, ↓G614_9, ↓G614_10, ↓G614_11, ↓U614_11, ↓G614_12, ↓U614_12, ↓G614_13, ↓U614_13, ↓G614_14, ↓U614_14, ↓G614_15, ↓G614_16, ↓U614_16, ↓G614_18, ↓U614_18, ↓G614_19, ↓bnd ux]
  · rw [if_neg g1]
    by_cases g2 : 9999 < sumD (c.2.2.2.2 y).2.2.2.2.2.2 + n
    · rw [if_pos g2]
      simp (disch := omega) only [e166_0, e166_1, e166_2, e166_3, e166_6, e166_8, e166_11, e166_13, e166_16, e166_17, e166_18, e166_19, e166_22, e166_24, e166_25, e166_28, e166_31, e166_33, e166_36, e166_37, ↓reduceIte, ↓gi0, ↓gr0, ↓gl0, ↓gi1, ↓gr1, ↓gl1, ↓gi2, ↓gr2, ↓gl2, ↓gi3, ↓gr3, ↓gl3, ↓gi4, ↓gr4, ↓gl4, ↓gi5, ↓gr5, ↓gl5, ↓gi6, ↓gr6, ↓gl6, ↓gi7, ↓gr7, ↓gl7, ↓gi8, ↓gr8, ↓gl8, ↓gi9, ↓gr9, ↓gl9, ↓qI, ↓qI2, ↓qL, ↓qL2, ↓qR, ↓qV, ↓pd0, ↓ta0, ↓ts0, ↓pd1, ↓ta1, ↓ts1, ↓pd2, ↓ta2, ↓ts2, ↓pd3, ↓ta3, ↓ts3, ↓pd4, ↓ta4, ↓ts4, ↓pd5, ↓ta5, ↓ts5, ↓pd6, ↓ta6, ↓ts6, lGet, lSet, okS, isLg, Bool.not_false, Bool.not_true, Bool.false_eq_true, not_false_eq_true, not_true_eq_false, catS, okR1, okR20, okR21, okR2b, List.length_cons, List.length_nil, List.drop_succ_cons, List.drop_zero, List.drop_nil, and_self, true_and, and_true, false_and, and_false, Nat.reduceAdd, Nat.reduceLeDiff, Nat.zero_add, Nat.le_refl, Nat.zero_le, pushR, reduceCtorEq, or_self, or_false, false_or, true_or, or_true, ltT, ltF, leT, leF, eqF, eqT, lt0F, ge0T, le0T, le0F, eq0T, eq0F, gt0T, gt0F, nI_add, nI_1, pk_mul, subT, sub1, divT, remN, natRem, n2, n3, n4, n5, n6, n7, n8, n9, n10, n12, n16, n22, n23, n24, n40, n48, n57, n60, n97, n99, n100, n119, n120, n238, n357, n999, n9999, n2231, Int32.add_zero, bI_t, bI_f, one_ne, K614, ↓G614_0, ↓G614_1, ↓G614_2, ↓U614_2, ↓G614_3, ↓G614_4, ↓U614_4, ↓G614_5, ↓U614_5, ↓G614_6, ↓U614_6, ↓G614_7, ↓G614_8, ↓G614_9, ↓G614_10, ↓G614_11, ↓U614_11, ↓G614_12, ↓U614_12, ↓G614_13, ↓U614_13, ↓G614_14, ↓U614_14, ↓G614_15, ↓G614_16, ↓U614_16, ↓G614_18, ↓U614_18, ↓G614_19, ↓bnd ux, ↓bnd uy]
    · rw [if_neg g2]
      simp (disch := omega) only [e166_0, e166_1, e166_2, e166_3, e166_6, e166_8, e166_11, e166_13, e166_16, e166_17, e166_18, e166_19, e166_22, e166_24, e166_25, e166_28, e166_31, e166_33, e166_36, e166_37, ↓reduceIte, ↓gi0, ↓gr0, ↓gl0, ↓gi1, ↓gr1, ↓gl1, ↓gi2, ↓gr2, ↓gl2, ↓gi3, ↓gr3, ↓gl3, ↓gi4, ↓gr4, ↓gl4, ↓gi5, ↓gr5, ↓gl5, ↓gi6, ↓gr6, ↓gl6, ↓gi7, ↓gr7, ↓gl7, ↓gi8, ↓gr8, ↓gl8, ↓gi9, ↓gr9, ↓gl9, ↓qI, ↓qI2, ↓qL, ↓qL2, ↓qR, ↓qV, ↓pd0, ↓ta0, ↓ts0, ↓pd1, ↓ta1, ↓ts1, ↓pd2, ↓ta2, ↓ts2, ↓pd3, ↓ta3, ↓ts3, ↓pd4, ↓ta4, ↓ts4, ↓pd5, ↓ta5, ↓ts5, ↓pd6, ↓ta6, ↓ts6, lGet, lSet, okS, isLg, Bool.not_false, Bool.not_true, Bool.false_eq_true, not_false_eq_true, not_true_eq_false, catS, okR1, okR20, okR21, okR2b, List.length_cons, List.length_nil, List.drop_succ_cons, List.drop_zero, List.drop_nil, and_self, true_and, and_true, false_and, and_false, Nat.reduceAdd, Nat.reduceLeDiff, Nat.zero_add, Nat.le_refl, Nat.zero_le, pushR, reduceCtorEq, or_self, or_false, false_or, true_or, or_true, ltT, ltF, leT, leF, eqF, eqT, lt0F, ge0T, le0T, le0F, eq0T, eq0F, gt0T, gt0F, nI_add, nI_1, pk_mul, subT, sub1, divT, remN, natRem, n2, n3, n4, n5, n6, n7, n8, n9, n10, n12, n16, n22, n23, n24, n40, n48, n57, n60, n97, n99, n100, n119, n120, n238, n357, n999, n9999, n2231, Int32.add_zero, bI_t, bI_f, one_ne, K614, ↓G614_0, ↓G614_1, ↓G614_2, ↓U614_2, ↓G614_3, ↓G614_4, ↓U614_4, ↓G614_5, ↓U614_5, ↓G614_6, ↓U614_6, ↓G614_7, ↓G614_8, ↓G614_9, ↓G614_10, ↓G614_11, ↓U614_11, ↓G614_12, ↓U614_12, ↓G614_13, ↓U614_13, ↓G614_14, ↓U614_14, ↓G614_15, ↓G614_16, ↓U614_16, ↓G614_18, ↓U614_18, ↓G614_19, ↓bnd ux, ↓bnd uy]
theorem m_sell (d : Nat) {b : Nat} {t w m N : Nat} {f : Nat → PT} (hS : MS s (t, w, m, N, f)) (hV : MV s b (t, w, m, N, f)) (hok : cyOk (t, w, m, N, f)) (hb : b + 119 ≤ 476) {x y n : Nat} {pr : Int32} (hx : x < N) (hy : y < N) (hxy : x ≠ y) (hn : n < 2 ^ 20) : ∃ s', EvM (d + 4) 167 [.ref 614, .int (nI b), .int (nI x), .int (nI y), .int (nI n), .int pr] (mkH scr s) = some (0, mkH scr s') ∧ MV s' b (cSell x y n pr (t, w, m, N, f)) ∧ FrA s s' 615 (b + 22) (b + 119) := by
  have h6 : N ≤ 6 := hS.2.2.2.1
  have hpx : MP s 615 (b + 23 + 16 * x) (f x) := hV.2 x hx
  have hpy : MP s 615 (b + 23 + 16 * y) (f y) := hV.2 y hy
  have hkx : s.1 615 (4 + 3 * x) = nI (f x).1 := (hS.2.2.2.2 x hx).1
  have hox : pOk (f x) := hok.2.2.2 x hx
  obtain ⟨s1, a1, a2, a3⟩ := m_spend d (scr := scr) (b := b) (p := x) (n := n) (by omega) hkx hox.1 hpx.2.2.2 (by omega) (fun i hi => by have := (hox.2.2.1 i hi).1; omega) (by omega)
  have hpy1 : ML s1 615 (b + 23 + 16 * y) (f y).2.2.2.2.2.2 := ML.ext hpy.2.2.2 (fun k h3 hk => a3.2 _ _ (by omega))
  have m1 : s1.1 615 (b + 22) = nI m := by rw [a3.2 _ _ (by omega)]; exact hV.1
  obtain ⟨s2, b1, b2, b3⟩ := m_come (d + 1) (scr := scr) (b := b) (p := y) hpy1 (by omega) m1 n
  have hatx : EvM (d + 3) 153 [.int (nI b), .int (nI x)] (mkH scr s2) = some (nI (b + 23 + 16 * x), mkH scr s2) := m_at (d + 2) b x
  have cx : s2.1 615 (b + 23 + 16 * x + 1) = (f x).2.2.2.1 := by rw [b3.2 _ _ (by omega), a3.2 _ _ (by omega)]; exact hpx.2.1
  have haty : EvM (d + 3) 153 [.int (nI b), .int (nI y)] (mkH scr (u2 s2 615 (b + 23 + 16 * x + 1) ((f x).2.2.2.1 + pr))) = some (nI (b + 23 + 16 * y), mkH scr (u2 s2 615 (b + 23 + 16 * x + 1) ((f x).2.2.2.1 + pr))) := m_at (d + 2) b y
  have cy : (u2 s2 615 (b + 23 + 16 * x + 1) ((f x).2.2.2.1 + pr)).1 615 (b + 23 + 16 * y + 1) = (f y).2.2.2.1 := by rw [u2_oth _ _ (by omega), b3.2 _ _ (by omega), a3.2 _ _ (by omega)]; exact hpy.2.1
  refine ⟨u2 (u2 s2 615 (b + 23 + 16 * x + 1) ((f x).2.2.2.1 + pr)) 615 (b + 23 + 16 * y + 1) ((f y).2.2.2.1 - pr), ?_, ⟨?_, fun i hi => ?_⟩, ?_⟩
  · rw [ev167, e167_0]
    simp (disch := omega) only [e167_0, e167_1, e167_2, e167_3, e167_5, e167_8, e167_9, e167_10, e167_11, e167_13, e167_16, e167_17, e167_20, e167_21, e167_22, e167_25, e167_26, e167_27, e167_28, e167_29, e167_31, e167_32, e167_33, e167_34, e167_37, e167_38, e167_39, e167_42, e167_43, e167_44, e167_45, e167_46, e167_48, e167_49, e167_50, ↓reduceIte, ↓gi0, ↓gr0, ↓gl0, ↓gi1, ↓gr1, ↓gl1, ↓gi2, ↓gr2, ↓gl2, ↓gi3, ↓gr3, ↓gl3, ↓gi4, ↓gr4, ↓gl4, ↓gi5, ↓gr5, ↓gl5, ↓gi6, ↓gr6, ↓gl6, ↓gi7, ↓gr7, ↓gl7, ↓gi8, ↓gr8, ↓gl8, ↓gi9, ↓gr9, ↓gl9, ↓qI, ↓qI2, ↓qL, ↓qL2, ↓qR, ↓qV, ↓pd0, ↓ta0, ↓ts0, ↓pd1, ↓ta1, ↓ts1, ↓pd2, ↓ta2, ↓ts2, ↓pd3, ↓ta3, ↓ts3, ↓pd4, ↓ta4, ↓ts4, ↓pd5, ↓ta5, ↓ts5, ↓pd6, ↓ta6, ↓ts6, lGet, lSet, okS, isLg, Bool.not_false, Bool.not_true, Bool.false_eq_true, not_false_eq_true, not_true_eq_false, catS, okR1, okR20, okR21, okR2b, List.length_cons, List.length_nil, List.drop_succ_cons, List.drop_zero, List.drop_nil, and_self, true_and, and_true, false_and, and_false, Nat.reduceAdd, Nat.reduceLeDiff, Nat.zero_add, Nat.le_refl, Nat.zero_le, pushR, reduceCtorEq, or_self, or_false, false_or, true_or, or_true, ltT, ltF, leT, leF, eqF, eqT, lt0F, ge0T, le0T, le0F, eq0T, eq0F, gt0T, gt0F, nI_add, nI_1, pk_mul, subT, sub1, divT, remN, natRem, n2, n3, n4, n5, n6, n7, n8, n9, n10, n12, n16, n22, n23, n24, n40, n48, n57, n60, n97, n99, n100, n119, n120, n238, n357, n999, n9999, n2231, Int32.add_zero, bI_t, bI_f, one_ne, K614, ↓G614_0, ↓G614_1, ↓G614_2, ↓U614_2, ↓G614_3, ↓G614_4, ↓U614_4, ↓G614_5, ↓U614_5, ↓G614_6, ↓U614_6, ↓G614_7, ↓G614_8, ↓G614_9, ↓G614_10, ↓G614_11, ↓U614_11, ↓G614_12, ↓U614_12, ↓G614_13, ↓U614_13, ↓G614_14, ↓U614_14, ↓G614_15, ↓G614_16, ↓U614_16, ↓G614_18, ↓U614_18, ↓G614_19, ↓I615, ↓S615, ↓bnd a1, ↓bnd b1, ↓bnd hatx, cx, ↓bnd haty, cy]
  · rw [u2_oth _ _ (by omega), u2_oth _ _ (by omega), b3.2 _ _ (by omega), a3.2 _ _ (by omega)]; exact hV.1
  · show MP _ 615 (b + 23 + 16 * i) (if i = y then pBuy n m pr (f y) else if i = x then pSold n pr (f x) else f i)
    have hi : i < N := hi
    by_cases e : i = y
    · subst e
      rw [if_pos rfl]
      refine ⟨?_, ?_, ?_, ML.ext b2 (fun k h3 hk => by rw [u2_oth _ _ (by omega), u2_oth _ _ (by omega)])⟩
      · rw [u2_oth _ _ (by omega), u2_oth _ _ (by omega), b3.2 _ _ (by omega), a3.2 _ _ (by omega)]; exact hpy.1
      · rw [u2_same]; rfl
      · rw [u2_oth _ _ (by omega), u2_oth _ _ (by omega), b3.2 _ _ (by omega), a3.2 _ _ (by omega)]; exact hpy.2.2.1
    · rw [if_neg e]
      by_cases e2 : i = x
      · subst e2
        rw [if_pos rfl]
        refine ⟨?_, ?_, ?_, ML.ext a2 (fun k h3 hk => by rw [u2_oth _ _ (by omega), u2_oth _ _ (by omega), b3.2 _ _ (by omega)])⟩
        · rw [u2_oth _ _ (by omega), u2_oth _ _ (by omega), b3.2 _ _ (by omega), a3.2 _ _ (by omega)]; exact hpx.1
        · rw [u2_oth _ _ (by omega), u2_same]; rfl
        · rw [u2_oth _ _ (by omega), u2_oth _ _ (by omega), b3.2 _ _ (by omega), a3.2 _ _ (by omega)]; exact hpx.2.2.1
      · rw [if_neg e2]
        exact MP.ext2 (hV.2 i hi) (fun k h1 h2 => by rw [u2_oth _ _ (by omega), u2_oth _ _ (by omega), b3.2 _ _ (by omega), a3.2 _ _ (by omega)])
  · exact ((a3.w (by omega) (by omega)).tr (b3.w (by omega) (by omega))).tr ((FrA.u (by omega) (by omega)).tr (FrA.u (by omega) (by omega)))
theorem stE_sell (x y n : Nat) (pr : Int32) (c : CY) : stE c (cSell x y n pr c) := ⟨rfl, rfl, rfl, fun i hi => by
  obtain ⟨t, w, m, N, f⟩ := c
  show (if i = y then pBuy n m pr (f y) else if i = x then pSold n pr (f x) else f i).1 = _ ∧ (if i = y then pBuy n m pr (f y) else if i = x then pSold n pr (f x) else f i).2.1 = _ ∧ (if i = y then pBuy n m pr (f y) else if i = x then pSold n pr (f x) else f i).2.2.1 = _
  by_cases e : i = y
  · subst e; rw [if_pos rfl]; exact ⟨rfl, rfl, rfl⟩
  · rw [if_neg e]
    by_cases e2 : i = x
    · subst e2; rw [if_pos rfl]; exact ⟨rfl, rfl, rfl⟩
    · rw [if_neg e2]; exact ⟨rfl, rfl, rfl⟩⟩
theorem hs_of {A : AS} (hG : Gd A) {j : Nat} (h : j < nPe A) : hasC A = true := by
  cases g : hasC A with
  | true => rfl
  | false => have : nPe A = 0 := hG.2.2.1 g; omega
theorem ms_sale (d : Nat) {A : AS} (hI : InvM s A) (hG : Gd A) (a b n x : Int32) : ∃ s', EvM (d + 6) 168 [.ref 614, .int a, .int b, .int n, .int x] (mkH scr s) = some ((oSale a b n x A).1, mkH scr s') ∧ InvM s' (oSale a b n x A).2 ∧ FrLo s s' := by
  obtain ⟨rw_, tp, fl, st, hs, ⟨t, w, m, N, f⟩, im, pa, tr⟩ := A
  obtain ⟨q0, q3, h6, qS, hVV⟩ : CTm s hs (t, w, m, N, f) := hI.2.2.2.2.1
  have q3 : s.1 615 3 = nI N := q3
  have h6 : N ≤ 6 := h6
  have q0 : s.1 615 0 = bI hs := q0
  have q22 : s.1 615 22 = nI m := hVV.1
  have hcg : cyGd 9999 (t, w, m, N, f) := hG.2.1.1
  have hm : m ≤ 999 := hG.2.1.2.2
  have hok : cyOk (t, w, m, N, f) := hcg.ok (by decide) (by show m < 2 ^ 20; omega)
  have hP : PAm s pa := hI.2.2.2.2.2.2.1
  have w1 := m_canBeAsked (d + 2) (scr := scr) a b n x q3 h6
  rw [ev168, e168_0]
  cases g1 : saleB N a b n x
  · rw [g1] at w1
    refine ⟨s, ?_, ?_, FrLo.rf s⟩ <;> simp only [oSale, nPe, g1, Bool.false_eq_true, if_false, bad]
    · simp (disch := omega) only [e168_0, e168_1, e168_2, e168_3, e168_4, e168_6, e168_9, e168_12, e168_14, e168_15, e168_16, e168_17, e168_18, e168_19, e168_20, e168_23, e168_25, e168_27, e168_30, e168_32, e168_33, e168_34, e168_37, e168_38, e168_39, e168_40, e168_41, e168_42, e168_44, e168_47, e168_48, e168_49, e168_50, e168_53, ↓reduceIte, ↓gi0, ↓gr0, ↓gl0, ↓gi1, ↓gr1, ↓gl1, ↓gi2, ↓gr2, ↓gl2, ↓gi3, ↓gr3, ↓gl3, ↓gi4, ↓gr4, ↓gl4, ↓gi5, ↓gr5, ↓gl5, ↓gi6, ↓gr6, ↓gl6, ↓gi7, ↓gr7, ↓gl7, ↓gi8, ↓gr8, ↓gl8, ↓gi9, ↓gr9, ↓gl9, ↓qI, ↓qI2, ↓qL, ↓qL2, ↓qR, ↓qV, ↓pd0, ↓ta0, ↓ts0, ↓pd1, ↓ta1, ↓ts1, ↓pd2, ↓ta2, ↓ts2, ↓pd3, ↓ta3, ↓ts3, ↓pd4, ↓ta4, ↓ts4, ↓pd5, ↓ta5, ↓ts5, ↓pd6, ↓ta6, ↓ts6, lGet, lSet, okS, isLg, Bool.not_false, Bool.not_true, Bool.false_eq_true, not_false_eq_true, not_true_eq_false, catS, okR1, okR20, okR21, okR2b, List.length_cons, List.length_nil, List.drop_succ_cons, List.drop_zero, List.drop_nil, and_self, true_and, and_true, false_and, and_false, Nat.reduceAdd, Nat.reduceLeDiff, Nat.zero_add, Nat.le_refl, Nat.zero_le, pushR, reduceCtorEq, or_self, or_false, false_or, true_or, or_true, ltT, ltF, leT, leF, eqF, eqT, lt0F, ge0T, le0T, le0F, eq0T, eq0F, gt0T, gt0F, nI_add, nI_1, pk_mul, subT, sub1, divT, remN, natRem, n2, n3, n4, n5, n6, n7, n8, n9, n10, n12, n16, n22, n23, n24, n40, n48, n57, n60, n97, n99, n100, n119, n120, n238, n357, n999, n9999, n2231, Int32.add_zero, bI_t, bI_f, one_ne, K614, ↓G614_0, ↓G614_1, ↓G614_2, ↓U614_2, ↓G614_3, ↓G614_4, ↓U614_4, ↓G614_5, ↓U614_5, ↓G614_6, ↓U614_6, ↓G614_7, ↓G614_8, ↓G614_9, ↓G614_10, ↓G614_11, ↓U614_11, ↓G614_12, ↓U614_12, ↓G614_13, ↓U614_13, ↓G614_14, ↓U614_14, ↓G614_15, ↓G614_16, ↓U614_16, ↓G614_18, ↓U614_18, ↓G614_19, ↓bnd w1]
    · exact hI
  rw [g1] at w1
  obtain ⟨a, b, n, x, ha, hb, hab, hn1, hn2, hx, rfl, rfl, rfl, rfl⟩ := saleB_of h6 g1
  have ea : (nI a).toNatClampNeg = a := nI_clamp (by omega)
  have eb : (nI b).toNatClampNeg = b := nI_clamp (by omega)
  have en : (nI n).toNatClampNeg = n := nI_clamp (by omega)
  have hb6 : b < 6 := by omega
  have r1 : EvM (d + 5) 166 [.ref 614, .int 0, .int (nI a), .int (nI b), .int (nI n)] (mkH scr s) = some (refS n (f a) (f b), mkH scr s) := m_refS (d + 2) hVV hok h6 (by omega) ha hb (by omega)
  by_cases g2 : refS n (f a) (f b) = 0
  case neg =>
    refine ⟨s, ?_, ?_, FrLo.rf s⟩ <;> simp only [oSale, nPe, pOf, g1, if_true, ea, eb, en, g2, cl, if_false]
    · simp (disch := omega) only [e168_0, e168_1, e168_2, e168_3, e168_4, e168_6, e168_9, e168_12, e168_14, e168_15, e168_16, e168_17, e168_18, e168_19, e168_20, e168_23, e168_25, e168_27, e168_30, e168_32, e168_33, e168_34, e168_37, e168_38, e168_39, e168_40, e168_41, e168_42, e168_44, e168_47, e168_48, e168_49, e168_50, e168_53, ↓reduceIte, ↓gi0, ↓gr0, ↓gl0, ↓gi1, ↓gr1, ↓gl1, ↓gi2, ↓gr2, ↓gl2, ↓gi3, ↓gr3, ↓gl3, ↓gi4, ↓gr4, ↓gl4, ↓gi5, ↓gr5, ↓gl5, ↓gi6, ↓gr6, ↓gl6, ↓gi7, ↓gr7, ↓gl7, ↓gi8, ↓gr8, ↓gl8, ↓gi9, ↓gr9, ↓gl9, ↓qI, ↓qI2, ↓qL, ↓qL2, ↓qR, ↓qV, ↓pd0, ↓ta0, ↓ts0, ↓pd1, ↓ta1, ↓ts1, ↓pd2, ↓ta2, ↓ts2, ↓pd3, ↓ta3, ↓ts3, ↓pd4, ↓ta4, ↓ts4, ↓pd5, ↓ta5, ↓ts5, ↓pd6, ↓ta6, ↓ts6, lGet, lSet, okS, isLg, Bool.not_false, Bool.not_true, Bool.false_eq_true, not_false_eq_true, not_true_eq_false, catS, okR1, okR20, okR21, okR2b, List.length_cons, List.length_nil, List.drop_succ_cons, List.drop_zero, List.drop_nil, and_self, true_and, and_true, false_and, and_false, Nat.reduceAdd, Nat.reduceLeDiff, Nat.zero_add, Nat.le_refl, Nat.zero_le, pushR, reduceCtorEq, or_self, or_false, false_or, true_or, or_true, ltT, ltF, leT, leF, eqF, eqT, lt0F, ge0T, le0T, le0F, eq0T, eq0F, gt0T, gt0F, nI_add, nI_1, pk_mul, subT, sub1, divT, remN, natRem, n2, n3, n4, n5, n6, n7, n8, n9, n10, n12, n16, n22, n23, n24, n40, n48, n57, n60, n97, n99, n100, n119, n120, n238, n357, n999, n9999, n2231, Int32.add_zero, bI_t, bI_f, one_ne, K614, ↓G614_0, ↓G614_1, ↓G614_2, ↓U614_2, ↓G614_3, ↓G614_4, ↓U614_4, ↓G614_5, ↓U614_5, ↓G614_6, ↓U614_6, ↓G614_7, ↓G614_8, ↓G614_9, ↓G614_10, ↓G614_11, ↓U614_11, ↓G614_12, ↓U614_12, ↓G614_13, ↓U614_13, ↓G614_14, ↓U614_14, ↓G614_15, ↓G614_16, ↓U614_16, ↓G614_18, ↓U614_18, ↓G614_19, ↓bnd w1, ↓bnd r1, g2]
    · exact hI
  rw [g2] at r1
  have hst : hs = true := hs_of hG (j := a) ha
  have hMS := qS hst
  obtain ⟨s1, a1, a2, a3, a4⟩ := m_keepPast (d + 4) (scr := scr) hP h6 hVV
  have MS1 : MS s1 (t, w, m, N, f) := hMS.ext (fun k hk => a4 _ _ (by omega) (by omega))
  have MV1 : MV s1 0 (t, w, m, N, f) := MVA_V.mp ((MVA_V.mpr hVV).ext h6 (fun k hk => a4 _ _ (by omega) (by omega)))
  obtain ⟨s2, b1, b2, b3⟩ := m_sell (d + 1) (scr := scr) (b := 0) (pr := nI x) MS1 MV1 hok (by omega) ha hb hab (show n < 2 ^ 20 by omega)
  have b1' : EvM (d + 5) 167 [.ref 614, .int 0, .int (nI a), .int (nI b), .int (nI n), .int (nI x)] (mkH scr s1) = some (0, mkH scr s2) := b1
  have hlb : ((cSell a b n (nI x) (t, w, m, N, f)).2.2.2.2 b).2.2.2.2.2.2 = pGain n m (f b).2.2.2.2.2.2 := by
    show (if b = b then pBuy n m (nI x) (f b) else _).2.2.2.2.2.2 = _
    rw [if_pos rfl]
    rfl
  have hl := (b2.2 b hb).2.2.2
  rw [hlb] at hl
  have u2_ : EvM (d + 5) 154 [.ref 614, .int 0, .int (nI b)] (mkH scr s2) = some (nI (sumD (f b).2.2.2.2.2.2 + n), mkH scr s2) := by
    rw [← sum_gain (mo := m) (hVV.2 b hb).2.2.2.2.1]
    exact m_unspent (d + 3) (b := 0) (p := b) hl (by omega)
  have hin := hI.act (stE_sell a b n (nI x) _) b2 (a2.ext (b3.2 _ _ (by omega)) (fun k => b3.2 _ _ (by omega))) (fun a k x y z w => by rw [b3.2 _ _ (by omega), a4 _ _ (by omega) (by omega)])
  refine ⟨s2, ?_, ?_, fun a k x => by rw [b3.2 _ _ (by omega), a4 _ _ (by omega) (by omega)]⟩ <;> simp only [oSale, nPe, pOf, ctyOf, lotsP, g1, if_true, ea, eb, en, g2, cl]
  · simp (disch := omega) only [e168_0, e168_1, e168_2, e168_3, e168_4, e168_6, e168_9, e168_12, e168_14, e168_15, e168_16, e168_17, e168_18, e168_19, e168_20, e168_23, e168_25, e168_27, e168_30, e168_32, e168_33, e168_34, e168_37, e168_38, e168_39, e168_40, e168_41, e168_42, e168_44, e168_47, e168_48, e168_49, e168_50, e168_53, ↓reduceIte, ↓gi0, ↓gr0, ↓gl0, ↓gi1, ↓gr1, ↓gl1, ↓gi2, ↓gr2, ↓gl2, ↓gi3, ↓gr3, ↓gl3, ↓gi4, ↓gr4, ↓gl4, ↓gi5, ↓gr5, ↓gl5, ↓gi6, ↓gr6, ↓gl6, ↓gi7, ↓gr7, ↓gl7, ↓gi8, ↓gr8, ↓gl8, ↓gi9, ↓gr9, ↓gl9, ↓qI, ↓qI2, ↓qL, ↓qL2, ↓qR, ↓qV, ↓pd0, ↓ta0, ↓ts0, ↓pd1, ↓ta1, ↓ts1, ↓pd2, ↓ta2, ↓ts2, ↓pd3, ↓ta3, ↓ts3, ↓pd4, ↓ta4, ↓ts4, ↓pd5, ↓ta5, ↓ts5, ↓pd6, ↓ta6, ↓ts6, lGet, lSet, okS, isLg, Bool.not_false, Bool.not_true, Bool.false_eq_true, not_false_eq_true, not_true_eq_false, catS, okR1, okR20, okR21, okR2b, List.length_cons, List.length_nil, List.drop_succ_cons, List.drop_zero, List.drop_nil, and_self, true_and, and_true, false_and, and_false, Nat.reduceAdd, Nat.reduceLeDiff, Nat.zero_add, Nat.le_refl, Nat.zero_le, pushR, reduceCtorEq, or_self, or_false, false_or, true_or, or_true, ltT, ltF, leT, leF, eqF, eqT, lt0F, ge0T, le0T, le0F, eq0T, eq0F, gt0T, gt0F, nI_add, nI_1, pk_mul, subT, sub1, divT, remN, natRem, n2, n3, n4, n5, n6, n7, n8, n9, n10, n12, n16, n22, n23, n24, n40, n48, n57, n60, n97, n99, n100, n119, n120, n238, n357, n999, n9999, n2231, Int32.add_zero, bI_t, bI_f, one_ne, K614, ↓G614_0, ↓G614_1, ↓G614_2, ↓U614_2, ↓G614_3, ↓G614_4, ↓U614_4, ↓G614_5, ↓U614_5, ↓G614_6, ↓U614_6, ↓G614_7, ↓G614_8, ↓G614_9, ↓G614_10, ↓G614_11, ↓U614_11, ↓G614_12, ↓U614_12, ↓G614_13, ↓U614_13, ↓G614_14, ↓U614_14, ↓G614_15, ↓G614_16, ↓U614_16, ↓G614_18, ↓U614_18, ↓G614_19, ↓I615, ↓S615, ↓bnd w1, ↓bnd r1, ↓bnd a1, ↓bnd b1', ↓bnd u2_]
  · exact hin
theorem ms_month (d : Nat) {A : AS} (hI : InvM s A) (hG : Gd A) (x : Int32) : ∃ s', EvM (d + 7) 173 [.ref 614, .int x] (mkH scr s) = some ((oMonth x A).1, mkH scr s') ∧ InvM s' (oMonth x A).2 ∧ FrLo s s' := by
  obtain ⟨rw_, tp, fl, st, hs, ⟨t, w, m, N, f⟩, im, pa, tr⟩ := A
  obtain ⟨q0, q3, h6, qS, hVV⟩ : CTm s hs (t, w, m, N, f) := hI.2.2.2.2.1
  have q3 : s.1 615 3 = nI N := q3
  have h6 : N ≤ 6 := h6
  have q0 : s.1 615 0 = bI hs := q0
  have q22 : s.1 615 22 = nI m := hVV.1
  have hcg : cyGd 9999 (t, w, m, N, f) := hG.2.1.1
  have hm : m ≤ 999 := hG.2.1.2.2
  have hok : cyOk (t, w, m, N, f) := hcg.ok (by decide) (by show m < 2 ^ 20; omega)
  have hP : PAm s pa := hI.2.2.2.2.2.2.1
  have w1 := m_isSeed (d + 4) (h := mkH scr s) x
  rw [ev173, e173_0]
  cases g0 : hs
  · rw [g0] at q0
    refine ⟨s, ?_, ?_, FrLo.rf s⟩ <;> simp only [oMonth, hasC, Bool.false_eq_true, if_false]
    · simp (disch := omega) only [e173_0, e173_1, e173_4, e173_5, e173_6, e173_9, e173_11, e173_12, e173_13, e173_16, e173_19, e173_21, e173_22, e173_23, e173_26, e173_28, e173_29, e173_32, e173_35, e173_37, e173_38, e173_39, e173_42, e173_43, e173_44, e173_45, e173_48, e173_49, e173_50, e173_53, e173_54, e173_57, ↓reduceIte, ↓gi0, ↓gr0, ↓gl0, ↓gi1, ↓gr1, ↓gl1, ↓gi2, ↓gr2, ↓gl2, ↓gi3, ↓gr3, ↓gl3, ↓gi4, ↓gr4, ↓gl4, ↓gi5, ↓gr5, ↓gl5, ↓gi6, ↓gr6, ↓gl6, ↓gi7, ↓gr7, ↓gl7, ↓gi8, ↓gr8, ↓gl8, ↓gi9, ↓gr9, ↓gl9, ↓qI, ↓qI2, ↓qL, ↓qL2, ↓qR, ↓qV, ↓pd0, ↓ta0, ↓ts0, ↓pd1, ↓ta1, ↓ts1, ↓pd2, ↓ta2, ↓ts2, ↓pd3, ↓ta3, ↓ts3, ↓pd4, ↓ta4, ↓ts4, ↓pd5, ↓ta5, ↓ts5, ↓pd6, ↓ta6, ↓ts6, lGet, lSet, okS, isLg, Bool.not_false, Bool.not_true, Bool.false_eq_true, not_false_eq_true, not_true_eq_false, catS, okR1, okR20, okR21, okR2b, List.length_cons, List.length_nil, List.drop_succ_cons, List.drop_zero, List.drop_nil, and_self, true_and, and_true, false_and, and_false, Nat.reduceAdd, Nat.reduceLeDiff, Nat.zero_add, Nat.le_refl, Nat.zero_le, pushR, reduceCtorEq, or_self, or_false, false_or, true_or, or_true, show (0 : Int32) = nI 0 from rfl, K614, ↓G614_0, ↓G614_1, ↓G614_2, ↓U614_2, ↓G614_3, ↓G614_4, ↓U614_4, ↓G614_5, ↓U614_5, ↓G614_6, ↓U614_6, ↓G614_7, ↓G614_8, ↓G614_9, ↓G614_10, ↓G614_11, ↓U614_11, ↓G614_12, ↓U614_12, ↓G614_13, ↓U614_13, ↓G614_14, ↓U614_14, ↓G614_15, ↓G614_16, ↓U614_16, ↓G614_18, ↓U614_18, ↓G614_19, ↓I615, ↓S615, q0, bI_f]
    · rw [← g0]; exact hI
  have q0' : s.1 615 0 = nI 1 := by rw [q0, g0]; rfl
  cases g1 : inR x 1 999999
  · rw [g1] at w1
    refine ⟨s, ?_, ?_, FrLo.rf s⟩ <;> simp only [oMonth, hasC, g1, Bool.false_eq_true, if_true, if_false, bad]
    · simp (disch := omega) only [e173_0, e173_1, e173_4, e173_5, e173_6, e173_9, e173_11, e173_12, e173_13, e173_16, e173_19, e173_21, e173_22, e173_23, e173_26, e173_28, e173_29, e173_32, e173_35, e173_37, e173_38, e173_39, e173_42, e173_43, e173_44, e173_45, e173_48, e173_49, e173_50, e173_53, e173_54, e173_57, ↓reduceIte, ↓gi0, ↓gr0, ↓gl0, ↓gi1, ↓gr1, ↓gl1, ↓gi2, ↓gr2, ↓gl2, ↓gi3, ↓gr3, ↓gl3, ↓gi4, ↓gr4, ↓gl4, ↓gi5, ↓gr5, ↓gl5, ↓gi6, ↓gr6, ↓gl6, ↓gi7, ↓gr7, ↓gl7, ↓gi8, ↓gr8, ↓gl8, ↓gi9, ↓gr9, ↓gl9, ↓qI, ↓qI2, ↓qL, ↓qL2, ↓qR, ↓qV, ↓pd0, ↓ta0, ↓ts0, ↓pd1, ↓ta1, ↓ts1, ↓pd2, ↓ta2, ↓ts2, ↓pd3, ↓ta3, ↓ts3, ↓pd4, ↓ta4, ↓ts4, ↓pd5, ↓ta5, ↓ts5, ↓pd6, ↓ta6, ↓ts6, lGet, lSet, okS, isLg, Bool.not_false, Bool.not_true, Bool.false_eq_true, not_false_eq_true, not_true_eq_false, catS, okR1, okR20, okR21, okR2b, List.length_cons, List.length_nil, List.drop_succ_cons, List.drop_zero, List.drop_nil, and_self, true_and, and_true, false_and, and_false, Nat.reduceAdd, Nat.reduceLeDiff, Nat.zero_add, Nat.le_refl, Nat.zero_le, pushR, reduceCtorEq, or_self, or_false, false_or, true_or, or_true, ltT, ltF, leT, leF, eqF, eqT, lt0F, ge0T, le0T, le0F, eq0T, eq0F, gt0T, gt0F, nI_add, nI_1, pk_mul, subT, sub1, divT, remN, natRem, show (0 : Int32) = nI 0 from rfl, K614, ↓G614_0, ↓G614_1, ↓G614_2, ↓U614_2, ↓G614_3, ↓G614_4, ↓U614_4, ↓G614_5, ↓U614_5, ↓G614_6, ↓U614_6, ↓G614_7, ↓G614_8, ↓G614_9, ↓G614_10, ↓G614_11, ↓U614_11, ↓G614_12, ↓U614_12, ↓G614_13, ↓U614_13, ↓G614_14, ↓U614_14, ↓G614_15, ↓G614_16, ↓U614_16, ↓G614_18, ↓U614_18, ↓G614_19, ↓I615, ↓S615, q0', ↓bnd w1, bI_f]
    · rw [← g0]; exact hI
  rw [g1] at w1
  obtain ⟨k, hk1, hk2, rfl⟩ := inR_of (by decide) (by decide) g1
  have ek : (nI k).toNatClampNeg = k := nI_clamp (by omega)
  by_cases g2 : 999 ≤ m
  · have e9 : m = 999 := by omega
    refine ⟨s, ?_, ?_, FrLo.rf s⟩ <;> simp only [oMonth, hasC, ctyOf, g1, if_true, g2]
    · simp (disch := omega) only [e173_0, e173_1, e173_4, e173_5, e173_6, e173_9, e173_11, e173_12, e173_13, e173_16, e173_19, e173_21, e173_22, e173_23, e173_26, e173_28, e173_29, e173_32, e173_35, e173_37, e173_38, e173_39, e173_42, e173_43, e173_44, e173_45, e173_48, e173_49, e173_50, e173_53, e173_54, e173_57, ↓reduceIte, ↓gi0, ↓gr0, ↓gl0, ↓gi1, ↓gr1, ↓gl1, ↓gi2, ↓gr2, ↓gl2, ↓gi3, ↓gr3, ↓gl3, ↓gi4, ↓gr4, ↓gl4, ↓gi5, ↓gr5, ↓gl5, ↓gi6, ↓gr6, ↓gl6, ↓gi7, ↓gr7, ↓gl7, ↓gi8, ↓gr8, ↓gl8, ↓gi9, ↓gr9, ↓gl9, ↓qI, ↓qI2, ↓qL, ↓qL2, ↓qR, ↓qV, ↓pd0, ↓ta0, ↓ts0, ↓pd1, ↓ta1, ↓ts1, ↓pd2, ↓ta2, ↓ts2, ↓pd3, ↓ta3, ↓ts3, ↓pd4, ↓ta4, ↓ts4, ↓pd5, ↓ta5, ↓ts5, ↓pd6, ↓ta6, ↓ts6, lGet, lSet, okS, isLg, Bool.not_false, Bool.not_true, Bool.false_eq_true, not_false_eq_true, not_true_eq_false, catS, okR1, okR20, okR21, okR2b, List.length_cons, List.length_nil, List.drop_succ_cons, List.drop_zero, List.drop_nil, and_self, true_and, and_true, false_and, and_false, Nat.reduceAdd, Nat.reduceLeDiff, Nat.zero_add, Nat.le_refl, Nat.zero_le, pushR, reduceCtorEq, or_self, or_false, false_or, true_or, or_true, ltT, ltF, leT, leF, eqF, eqT, lt0F, ge0T, le0T, le0F, eq0T, eq0F, gt0T, gt0F, nI_add, nI_1, pk_mul, subT, sub1, divT, remN, natRem, n2, n3, n4, n5, n6, n7, n8, n9, n10, n12, n16, n22, n23, n24, n40, n48, n57, n60, n97, n99, n100, n119, n120, n238, n357, n999, n9999, n2231, Int32.add_zero, show (0 : Int32) = nI 0 from rfl, K614, ↓G614_0, ↓G614_1, ↓G614_2, ↓U614_2, ↓G614_3, ↓G614_4, ↓U614_4, ↓G614_5, ↓U614_5, ↓G614_6, ↓U614_6, ↓G614_7, ↓G614_8, ↓G614_9, ↓G614_10, ↓G614_11, ↓U614_11, ↓G614_12, ↓U614_12, ↓G614_13, ↓U614_13, ↓G614_14, ↓U614_14, ↓G614_15, ↓G614_16, ↓U614_16, ↓G614_18, ↓U614_18, ↓G614_19, ↓I615, ↓S615, q0', ↓bnd w1, bI_t, show (1 : Int32) = nI 1 from rfl, q22, e9]
    · rw [← g0]; exact hI
  have hMS := qS g0
  obtain ⟨s1, a1, a2, a3, a4⟩ := m_keepPast (d + 5) (scr := scr) hP h6 hVV
  have MS1 : MS (s1.1, (nI k).toInt64) (t, w, m, N, f) := hMS.ext (fun k hk => a4 _ _ (by omega) (by omega))
  have MV1 : MV (s1.1, (nI k).toInt64) 0 (t, w, m, N, f) := MVA_V.mp ((MVA_V.mpr hVV).ext h6 (fun k hk => a4 _ _ (by omega) (by omega)))
  obtain ⟨s2, b1, b2, b3, b4, b5⟩ := m_month (d + 1) (scr := scr) (b := 0) (x := k) MS1 MV1 hok (by omega) hcg.2.2.1 (nI_l (by omega)) (by omega)
  have b1' : EvM (d + 6) 160 [.ref 614, .int (nI 0)] (mkH scr (s1.1, (nI k).toInt64)) = some (0, mkH scr s2) := b1
  have fr : ∀ a k, ¬ (a = 614 ∧ (k = 2 ∨ k = 18)) → ¬ (a = 615 ∧ 22 ≤ k ∧ k < 119) → a ≠ 616 → s2.1 a k = s.1 a k := fun a k x y z => by rw [b5 _ _ (by omega) (by omega)]; exact a4 _ _ (by omega) (by omega)
  have p2 : PAm s2 (keepP pa (t, w, m, N, f)) := a2.ext (b5 _ _ (by omega) (by omega)) (fun k => b5 _ _ (by omega) (by omega))
  have hin := hI.act ((stE_draw k _).tr (stE_end _)) b2 p2 (fun a k x y z w => fr _ _ (by omega) (by omega) (by omega))
  have em : (mths (t, w, m, N, f) k 1).2.2 = cCnt k (t, w, m, N, f) N := Nat.zero_add _
  refine ⟨s2, ?_, ?_, fun a k x => fr _ _ (by omega) (by omega) (by omega)⟩ <;> simp only [oMonth, hasC, ctyOf, g1, if_true, g2, if_false, ek, cl]
  · rw [em]
    simp (disch := omega) only [e173_0, e173_1, e173_4, e173_5, e173_6, e173_9, e173_11, e173_12, e173_13, e173_16, e173_19, e173_21, e173_22, e173_23, e173_26, e173_28, e173_29, e173_32, e173_35, e173_37, e173_38, e173_39, e173_42, e173_43, e173_44, e173_45, e173_48, e173_49, e173_50, e173_53, e173_54, e173_57, ↓reduceIte, ↓gi0, ↓gr0, ↓gl0, ↓gi1, ↓gr1, ↓gl1, ↓gi2, ↓gr2, ↓gl2, ↓gi3, ↓gr3, ↓gl3, ↓gi4, ↓gr4, ↓gl4, ↓gi5, ↓gr5, ↓gl5, ↓gi6, ↓gr6, ↓gl6, ↓gi7, ↓gr7, ↓gl7, ↓gi8, ↓gr8, ↓gl8, ↓gi9, ↓gr9, ↓gl9, ↓qI, ↓qI2, ↓qL, ↓qL2, ↓qR, ↓qV, ↓pd0, ↓ta0, ↓ts0, ↓pd1, ↓ta1, ↓ts1, ↓pd2, ↓ta2, ↓ts2, ↓pd3, ↓ta3, ↓ts3, ↓pd4, ↓ta4, ↓ts4, ↓pd5, ↓ta5, ↓ts5, ↓pd6, ↓ta6, ↓ts6, lGet, lSet, okS, isLg, Bool.not_false, Bool.not_true, Bool.false_eq_true, not_false_eq_true, not_true_eq_false, catS, okR1, okR20, okR21, okR2b, List.length_cons, List.length_nil, List.drop_succ_cons, List.drop_zero, List.drop_nil, and_self, true_and, and_true, false_and, and_false, Nat.reduceAdd, Nat.reduceLeDiff, Nat.zero_add, Nat.le_refl, Nat.zero_le, pushR, reduceCtorEq, or_self, or_false, false_or, true_or, or_true, ltT, ltF, leT, leF, eqF, eqT, lt0F, ge0T, le0T, le0F, eq0T, eq0F, gt0T, gt0F, nI_add, nI_1, pk_mul, subT, sub1, divT, remN, natRem, n2, n3, n4, n5, n6, n7, n8, n9, n10, n12, n16, n22, n23, n24, n40, n48, n57, n60, n97, n99, n100, n119, n120, n238, n357, n999, n9999, n2231, Int32.add_zero, show (0 : Int32) = nI 0 from rfl, K614, ↓G614_0, ↓G614_1, ↓G614_2, ↓U614_2, ↓G614_3, ↓G614_4, ↓U614_4, ↓G614_5, ↓U614_5, ↓G614_6, ↓U614_6, ↓G614_7, ↓G614_8, ↓G614_9, ↓G614_10, ↓G614_11, ↓U614_11, ↓G614_12, ↓U614_12, ↓G614_13, ↓U614_13, ↓G614_14, ↓U614_14, ↓G614_15, ↓G614_16, ↓U614_16, ↓G614_18, ↓U614_18, ↓G614_19, ↓I615, ↓S615, ↓gJ, ↓pJ, q0', ↓bnd w1, bI_t, show (1 : Int32) = nI 1 from rfl, q22, ↓bnd a1, ↓bnd b1', b4]
  · rw [← g0]; exact hin
theorem keep_z {l : LT} (h : ∀ i, i < l.length → lt_d l i = 0) : keepL l = [] := keep_0 (by rw [sumD_eq]; exact sumN_0 h)
def zl (l : LT) (j : Nat) : LT := (l.take j).map (fun q => (0, q.2)) ++ l.drop j
theorem zl_len (l : LT) (j : Nat) (h : j ≤ l.length) : (zl l j).length = l.length := by
  unfold zl
  rw [List.length_append, List.length_map, List.length_take, List.length_drop]
  omega
theorem zl_get {l : LT} {j i : Nat} (hj : j ≤ l.length) : lt_d (zl l j) i = (if i < j then 0 else lt_d l i) ∧ lt_m (zl l j) i = lt_m l i := by
  unfold lt_d lt_m zl
  simp only [List.getD_eq_getElem?_getD]
  by_cases h : i < j
  · rw [List.getElem?_append_left (by rw [List.length_map, List.length_take]; omega), List.getElem?_map, List.getElem?_take_of_lt h, if_pos h]
    have hl : i < l.length := by omega
    rw [List.getElem?_eq_getElem hl]
    exact ⟨rfl, rfl⟩
  · rw [List.getElem?_append_right (by rw [List.length_map, List.length_take]; omega), List.length_map, List.length_take, List.getElem?_drop, if_neg h]
    have e : j + (i - min j l.length) = i := by omega
    rw [e]
    exact ⟨rfl, rfl⟩
theorem ms_dies (d : Nat) {A : AS} (hI : InvM s A) (hG : Gd A) (p h : Int32) : ∃ s', EvM (d + 5) 170 [.ref 614, .int p, .int h] (mkH scr s) = some ((oDies p h A).1, mkH scr s') ∧ InvM s' (oDies p h A).2 ∧ FrLo s s' := by
  obtain ⟨rw_, tp, fl, st, hs, ⟨t, w, m, N, f⟩, im, pa, tr⟩ := A
  obtain ⟨q0, q3, h6, qS, hVV⟩ : CTm s hs (t, w, m, N, f) := hI.2.2.2.2.1
  have q3 : s.1 615 3 = nI N := q3
  have h6 : N ≤ 6 := h6
  have q0 : s.1 615 0 = bI hs := q0
  have q22 : s.1 615 22 = nI m := hVV.1
  have hcg : cyGd 9999 (t, w, m, N, f) := hG.2.1.1
  have hm : m ≤ 999 := hG.2.1.2.2
  have hok : cyOk (t, w, m, N, f) := hcg.ok (by decide) (by show m < 2 ^ 20; omega)
  have hP : PAm s pa := hI.2.2.2.2.2.2.1
  have w1 := m_isOne (d + 2) (scr := scr) p q3 h6
  have w2 := m_isOne (d + 2) (scr := scr) h q3 h6
  rw [ev170, e170_0]
  cases g1 : inB p N
  · rw [g1] at w1
    refine ⟨s, ?_, ?_, FrLo.rf s⟩ <;> simp only [oDies, nPe, g1, Bool.false_eq_true, false_and, if_false, bad]
    · simp (disch := omega) only [e170_0, e170_1, e170_2, e170_5, e170_8, e170_9, e170_10, e170_13, e170_16, e170_17, e170_18, e170_21, e170_23, e170_24, e170_25, e170_26, e170_27, e170_30, e170_31, e170_32, e170_33, e170_36, e170_37, e170_40, e170_43, e170_45, e170_46, e170_47, e170_50, e170_51, e170_52, e170_55, e170_56, e170_57, e170_61, e170_62, e170_65, e170_66, e170_67, e170_68, e170_69, e170_72, e170_73, e170_74, e170_75, e170_76, e170_79, e170_80, e170_81, e170_82, e170_83, e170_85, e170_86, e170_87, e170_88, e170_91, e170_92, e170_95, e170_96, e170_97, e170_98, e170_99, e170_101, e170_102, e170_103, e170_104, e170_105, e170_108, e170_111, e170_112, e170_113, e170_114, e170_117, e170_118, e170_121, e170_122, e170_123, e170_126, e170_127, e170_128, e170_129, e170_130, e170_131, e170_134, e170_135, e170_136, e170_137, e170_138, e170_139, e170_140, e170_141, e170_144, e170_145, e170_146, e170_147, e170_148, e170_149, e170_150, e170_153, e170_154, e170_155, e170_156, e170_157, e170_158, e170_159, e170_160, e170_161, e170_164, ↓reduceIte, ↓gi0, ↓gr0, ↓gl0, ↓gi1, ↓gr1, ↓gl1, ↓gi2, ↓gr2, ↓gl2, ↓gi3, ↓gr3, ↓gl3, ↓gi4, ↓gr4, ↓gl4, ↓gi5, ↓gr5, ↓gl5, ↓gi6, ↓gr6, ↓gl6, ↓gi7, ↓gr7, ↓gl7, ↓gi8, ↓gr8, ↓gl8, ↓gi9, ↓gr9, ↓gl9, ↓qI, ↓qI2, ↓qL, ↓qL2, ↓qR, ↓qV, ↓pd0, ↓ta0, ↓ts0, ↓pd1, ↓ta1, ↓ts1, ↓pd2, ↓ta2, ↓ts2, ↓pd3, ↓ta3, ↓ts3, ↓pd4, ↓ta4, ↓ts4, ↓pd5, ↓ta5, ↓ts5, ↓pd6, ↓ta6, ↓ts6, lGet, lSet, okS, isLg, Bool.not_false, Bool.not_true, Bool.false_eq_true, not_false_eq_true, not_true_eq_false, catS, okR1, okR20, okR21, okR2b, List.length_cons, List.length_nil, List.drop_succ_cons, List.drop_zero, List.drop_nil, and_self, true_and, and_true, false_and, and_false, Nat.reduceAdd, Nat.reduceLeDiff, Nat.zero_add, Nat.le_refl, Nat.zero_le, pushR, reduceCtorEq, or_self, or_false, false_or, true_or, or_true, ltT, ltF, leT, leF, eqF, eqT, lt0F, ge0T, le0T, le0F, eq0T, eq0F, gt0T, gt0F, nI_add, nI_1, pk_mul, subT, sub1, divT, remN, natRem, n2, n3, n4, n5, n6, n7, n8, n9, n10, n12, n16, n22, n23, n24, n40, n48, n57, n60, n97, n99, n100, n119, n120, n238, n357, n999, n9999, n2231, Int32.add_zero, bI_t, bI_f, one_ne, K614, ↓G614_0, ↓G614_1, ↓G614_2, ↓U614_2, ↓G614_3, ↓G614_4, ↓U614_4, ↓G614_5, ↓U614_5, ↓G614_6, ↓U614_6, ↓G614_7, ↓G614_8, ↓G614_9, ↓G614_10, ↓G614_11, ↓U614_11, ↓G614_12, ↓U614_12, ↓G614_13, ↓U614_13, ↓G614_14, ↓U614_14, ↓G614_15, ↓G614_16, ↓U614_16, ↓G614_18, ↓U614_18, ↓G614_19, ↓bnd w1]
    · exact hI
  cases g2 : inB h N
  · rw [g1] at w1; rw [g2] at w2
    refine ⟨s, ?_, ?_, FrLo.rf s⟩ <;> simp only [oDies, nPe, g1, g2, Bool.false_eq_true, false_and, and_false, if_false, bad]
    · simp (disch := omega) only [e170_0, e170_1, e170_2, e170_5, e170_8, e170_9, e170_10, e170_13, e170_16, e170_17, e170_18, e170_21, e170_23, e170_24, e170_25, e170_26, e170_27, e170_30, e170_31, e170_32, e170_33, e170_36, e170_37, e170_40, e170_43, e170_45, e170_46, e170_47, e170_50, e170_51, e170_52, e170_55, e170_56, e170_57, e170_61, e170_62, e170_65, e170_66, e170_67, e170_68, e170_69, e170_72, e170_73, e170_74, e170_75, e170_76, e170_79, e170_80, e170_81, e170_82, e170_83, e170_85, e170_86, e170_87, e170_88, e170_91, e170_92, e170_95, e170_96, e170_97, e170_98, e170_99, e170_101, e170_102, e170_103, e170_104, e170_105, e170_108, e170_111, e170_112, e170_113, e170_114, e170_117, e170_118, e170_121, e170_122, e170_123, e170_126, e170_127, e170_128, e170_129, e170_130, e170_131, e170_134, e170_135, e170_136, e170_137, e170_138, e170_139, e170_140, e170_141, e170_144, e170_145, e170_146, e170_147, e170_148, e170_149, e170_150, e170_153, e170_154, e170_155, e170_156, e170_157, e170_158, e170_159, e170_160, e170_161, e170_164, ↓reduceIte, ↓gi0, ↓gr0, ↓gl0, ↓gi1, ↓gr1, ↓gl1, ↓gi2, ↓gr2, ↓gl2, ↓gi3, ↓gr3, ↓gl3, ↓gi4, ↓gr4, ↓gl4, ↓gi5, ↓gr5, ↓gl5, ↓gi6, ↓gr6, ↓gl6, ↓gi7, ↓gr7, ↓gl7, ↓gi8, ↓gr8, ↓gl8, ↓gi9, ↓gr9, ↓gl9, ↓qI, ↓qI2, ↓qL, ↓qL2, ↓qR, ↓qV, ↓pd0, ↓ta0, ↓ts0, ↓pd1, ↓ta1, ↓ts1, ↓pd2, ↓ta2, ↓ts2, ↓pd3, ↓ta3, ↓ts3, ↓pd4, ↓ta4, ↓ts4, ↓pd5, ↓ta5, ↓ts5, ↓pd6, ↓ta6, ↓ts6, lGet, lSet, okS, isLg, Bool.not_false, Bool.not_true, Bool.false_eq_true, not_false_eq_true, not_true_eq_false, catS, okR1, okR20, okR21, okR2b, List.length_cons, List.length_nil, List.drop_succ_cons, List.drop_zero, List.drop_nil, and_self, true_and, and_true, false_and, and_false, Nat.reduceAdd, Nat.reduceLeDiff, Nat.zero_add, Nat.le_refl, Nat.zero_le, pushR, reduceCtorEq, or_self, or_false, false_or, true_or, or_true, ltT, ltF, leT, leF, eqF, eqT, lt0F, ge0T, le0T, le0F, eq0T, eq0F, gt0T, gt0F, nI_add, nI_1, pk_mul, subT, sub1, divT, remN, natRem, n2, n3, n4, n5, n6, n7, n8, n9, n10, n12, n16, n22, n23, n24, n40, n48, n57, n60, n97, n99, n100, n119, n120, n238, n357, n999, n9999, n2231, Int32.add_zero, bI_t, bI_f, one_ne, K614, ↓G614_0, ↓G614_1, ↓G614_2, ↓U614_2, ↓G614_3, ↓G614_4, ↓U614_4, ↓G614_5, ↓U614_5, ↓G614_6, ↓U614_6, ↓G614_7, ↓G614_8, ↓G614_9, ↓G614_10, ↓G614_11, ↓U614_11, ↓G614_12, ↓U614_12, ↓G614_13, ↓U614_13, ↓G614_14, ↓U614_14, ↓G614_15, ↓G614_16, ↓U614_16, ↓G614_18, ↓U614_18, ↓G614_19, ↓bnd w1, ↓bnd w2]
    · exact hI
  rw [g1] at w1; rw [g2] at w2
  by_cases g3 : p = h
  · refine ⟨s, ?_, ?_, FrLo.rf s⟩ <;> simp only [oDies, nPe, g1, g2, g3, ne_eq, not_true_eq_false, and_false, if_false, bad]
    · rw [g3] at w1
      simp (disch := omega) only [e170_0, e170_1, e170_2, e170_5, e170_8, e170_9, e170_10, e170_13, e170_16, e170_17, e170_18, e170_21, e170_23, e170_24, e170_25, e170_26, e170_27, e170_30, e170_31, e170_32, e170_33, e170_36, e170_37, e170_40, e170_43, e170_45, e170_46, e170_47, e170_50, e170_51, e170_52, e170_55, e170_56, e170_57, e170_61, e170_62, e170_65, e170_66, e170_67, e170_68, e170_69, e170_72, e170_73, e170_74, e170_75, e170_76, e170_79, e170_80, e170_81, e170_82, e170_83, e170_85, e170_86, e170_87, e170_88, e170_91, e170_92, e170_95, e170_96, e170_97, e170_98, e170_99, e170_101, e170_102, e170_103, e170_104, e170_105, e170_108, e170_111, e170_112, e170_113, e170_114, e170_117, e170_118, e170_121, e170_122, e170_123, e170_126, e170_127, e170_128, e170_129, e170_130, e170_131, e170_134, e170_135, e170_136, e170_137, e170_138, e170_139, e170_140, e170_141, e170_144, e170_145, e170_146, e170_147, e170_148, e170_149, e170_150, e170_153, e170_154, e170_155, e170_156, e170_157, e170_158, e170_159, e170_160, e170_161, e170_164, ↓reduceIte, ↓gi0, ↓gr0, ↓gl0, ↓gi1, ↓gr1, ↓gl1, ↓gi2, ↓gr2, ↓gl2, ↓gi3, ↓gr3, ↓gl3, ↓gi4, ↓gr4, ↓gl4, ↓gi5, ↓gr5, ↓gl5, ↓gi6, ↓gr6, ↓gl6, ↓gi7, ↓gr7, ↓gl7, ↓gi8, ↓gr8, ↓gl8, ↓gi9, ↓gr9, ↓gl9, ↓qI, ↓qI2, ↓qL, ↓qL2, ↓qR, ↓qV, ↓pd0, ↓ta0, ↓ts0, ↓pd1, ↓ta1, ↓ts1, ↓pd2, ↓ta2, ↓ts2, ↓pd3, ↓ta3, ↓ts3, ↓pd4, ↓ta4, ↓ts4, ↓pd5, ↓ta5, ↓ts5, ↓pd6, ↓ta6, ↓ts6, lGet, lSet, okS, isLg, Bool.not_false, Bool.not_true, Bool.false_eq_true, not_false_eq_true, not_true_eq_false, catS, okR1, okR20, okR21, okR2b, List.length_cons, List.length_nil, List.drop_succ_cons, List.drop_zero, List.drop_nil, and_self, true_and, and_true, false_and, and_false, Nat.reduceAdd, Nat.reduceLeDiff, Nat.zero_add, Nat.le_refl, Nat.zero_le, pushR, reduceCtorEq, or_self, or_false, false_or, true_or, or_true, ltT, ltF, leT, leF, eqF, eqT, lt0F, ge0T, le0T, le0F, eq0T, eq0F, gt0T, gt0F, nI_add, nI_1, pk_mul, subT, sub1, divT, remN, natRem, n2, n3, n4, n5, n6, n7, n8, n9, n10, n12, n16, n22, n23, n24, n40, n48, n57, n60, n97, n99, n100, n119, n120, n238, n357, n999, n9999, n2231, Int32.add_zero, bI_t, bI_f, one_ne, K614, ↓G614_0, ↓G614_1, ↓G614_2, ↓U614_2, ↓G614_3, ↓G614_4, ↓U614_4, ↓G614_5, ↓U614_5, ↓G614_6, ↓U614_6, ↓G614_7, ↓G614_8, ↓G614_9, ↓G614_10, ↓G614_11, ↓U614_11, ↓G614_12, ↓U614_12, ↓G614_13, ↓U614_13, ↓G614_14, ↓U614_14, ↓G614_15, ↓G614_16, ↓U614_16, ↓G614_18, ↓U614_18, ↓G614_19, ↓bnd w1, ↓bnd w2]
    · exact hI
  obtain ⟨j, hj, rfl⟩ := inB_of (by omega) g1
  obtain ⟨k, hk, rfl⟩ := inB_of (by omega) g2
  have ej : (nI j).toNatClampNeg = j := nI_clamp (by omega)
  have ek : (nI k).toNatClampNeg = k := nI_clamp (by omega)
  have hj6 : j < 6 := by omega
  have hk6 : k < 6 := by omega
  have hjk : j ≠ k := fun z => g3 (by rw [z])
  have hpj : MP s 615 (23 + 16 * j) (f j) := hVV.2 j hj
  have hpk : MP s 615 (23 + 16 * k) (f k) := hVV.2 k hk
  have uj : EvM (d + 4) 154 [.ref 614, .int 0, .int (nI j)] (mkH scr s) = some (nI (sumD (f j).2.2.2.2.2.2), mkH scr s) := m_unspent (d + 2) (b := 0) (p := j) hpj.2.2.2 (by omega)
  have uk : EvM (d + 4) 154 [.ref 614, .int 0, .int (nI k)] (mkH scr s) = some (nI (sumD (f k).2.2.2.2.2.2), mkH scr s) := m_unspent (d + 2) (b := 0) (p := k) hpk.2.2.2 (by omega)
  have sj : sumD (f j).2.2.2.2.2.2 < 2 ^ 23 := sumD_lt hpj.2.2.2.2.1 (fun i hi => ((hok.2.2.2 j hj).2.2.1 i hi).1)
  have sk : sumD (f k).2.2.2.2.2.2 < 2 ^ 23 := sumD_lt hpk.2.2.2.2.1 (fun i hi => ((hok.2.2.2 k hk).2.2.1 i hi).1)
  by_cases g4 : 9999 < sumD (f j).2.2.2.2.2.2 + sumD (f k).2.2.2.2.2.2
  · refine ⟨s, ?_, ?_, FrLo.rf s⟩ <;> simp only [oDies, nPe, pOf, ctyOf, lotsP, g1, g2, g3, ne_eq, not_false_eq_true, and_self, if_true, ej, ek, g4, cl]
    · simp (disch := omega) only [e170_0, e170_1, e170_2, e170_5, e170_8, e170_9, e170_10, e170_13, e170_16, e170_17, e170_18, e170_21, e170_23, e170_24, e170_25, e170_26, e170_27, e170_30, e170_31, e170_32, e170_33, e170_36, e170_37, e170_40, e170_43, e170_45, e170_46, e170_47, e170_50, e170_51, e170_52, e170_55, e170_56, e170_57, e170_61, e170_62, e170_65, e170_66, e170_67, e170_68, e170_69, e170_72, e170_73, e170_74, e170_75, e170_76, e170_79, e170_80, e170_81, e170_82, e170_83, e170_85, e170_86, e170_87, e170_88, e170_91, e170_92, e170_95, e170_96, e170_97, e170_98, e170_99, e170_101, e170_102, e170_103, e170_104, e170_105, e170_108, e170_111, e170_112, e170_113, e170_114, e170_117, e170_118, e170_121, e170_122, e170_123, e170_126, e170_127, e170_128, e170_129, e170_130, e170_131, e170_134, e170_135, e170_136, e170_137, e170_138, e170_139, e170_140, e170_141, e170_144, e170_145, e170_146, e170_147, e170_148, e170_149, e170_150, e170_153, e170_154, e170_155, e170_156, e170_157, e170_158, e170_159, e170_160, e170_161, e170_164, ↓reduceIte, ↓gi0, ↓gr0, ↓gl0, ↓gi1, ↓gr1, ↓gl1, ↓gi2, ↓gr2, ↓gl2, ↓gi3, ↓gr3, ↓gl3, ↓gi4, ↓gr4, ↓gl4, ↓gi5, ↓gr5, ↓gl5, ↓gi6, ↓gr6, ↓gl6, ↓gi7, ↓gr7, ↓gl7, ↓gi8, ↓gr8, ↓gl8, ↓gi9, ↓gr9, ↓gl9, ↓qI, ↓qI2, ↓qL, ↓qL2, ↓qR, ↓qV, ↓pd0, ↓ta0, ↓ts0, ↓pd1, ↓ta1, ↓ts1, ↓pd2, ↓ta2, ↓ts2, ↓pd3, ↓ta3, ↓ts3, ↓pd4, ↓ta4, ↓ts4, ↓pd5, ↓ta5, ↓ts5, ↓pd6, ↓ta6, ↓ts6, lGet, lSet, okS, isLg, Bool.not_false, Bool.not_true, Bool.false_eq_true, not_false_eq_true, not_true_eq_false, catS, okR1, okR20, okR21, okR2b, List.length_cons, List.length_nil, List.drop_succ_cons, List.drop_zero, List.drop_nil, and_self, true_and, and_true, false_and, and_false, Nat.reduceAdd, Nat.reduceLeDiff, Nat.zero_add, Nat.le_refl, Nat.zero_le, pushR, reduceCtorEq, or_self, or_false, false_or, true_or, or_true, ltT, ltF, leT, leF, eqF, eqT, lt0F, ge0T, le0T, le0F, eq0T, eq0F, gt0T, gt0F, nI_add, nI_1, pk_mul, subT, sub1, divT, remN, natRem, n2, n3, n4, n5, n6, n7, n8, n9, n10, n12, n16, n22, n23, n24, n40, n48, n57, n60, n97, n99, n100, n119, n120, n238, n357, n999, n9999, n2231, Int32.add_zero, bI_t, bI_f, one_ne, K614, ↓G614_0, ↓G614_1, ↓G614_2, ↓U614_2, ↓G614_3, ↓G614_4, ↓U614_4, ↓G614_5, ↓U614_5, ↓G614_6, ↓U614_6, ↓G614_7, ↓G614_8, ↓G614_9, ↓G614_10, ↓G614_11, ↓U614_11, ↓G614_12, ↓U614_12, ↓G614_13, ↓U614_13, ↓G614_14, ↓U614_14, ↓G614_15, ↓G614_16, ↓U614_16, ↓G614_18, ↓U614_18, ↓G614_19, ↓bnd w1, ↓bnd w2, g3, ↓bnd uj, ↓bnd uk]
    · exact hI
  obtain ⟨s1, a1, a2, a3, a4⟩ := m_keepPast (d + 3) (scr := scr) hP h6 hVV
  have qj : MP s1 615 (23 + 16 * j) (f j) := MP.ext2 hpj (fun k x y => a4 _ _ (by omega) (by omega))
  have qk : MP s1 615 (23 + 16 * k) (f k) := MP.ext2 hpk (fun k x y => a4 _ _ (by omega) (by omega))
  have m1 : s1.1 615 22 = nI m := by rw [a4 _ _ (by omega) (by omega)]; exact q22
  have hat1 : EvM (d + 4) 153 [.int 0, .int (nI j)] (mkH scr s1) = some (nI (23 + 16 * j), mkH scr s1) := m_at (d + 3) 0 j
  generalize hlj : (f j).2.2.2.2.2.2 = l at *
  have qjL : ML s1 615 (23 + 16 * j) l := by rw [← hlj]; exact qj.2.2.2
  have l6 : l.length ≤ 6 := qjL.2.1
  have hlp := forUp (X := ST) l.length (fun i x => EvI (EvM (d + 4)) C170 1 59 [.ref 614, .int (nI j), .int (nI k), .int (nI (23 + 16 * j)), .int (nI i)] [] (mkH scr x))
    (fun i x => (∀ a c, ¬ (a = 615 ∧ 23 + 16 * j + 3 ≤ c ∧ c < 23 + 16 * j + 16) → ¬ (a = 615 ∧ 23 + 16 * k + 3 ≤ c ∧ c < 23 + 16 * k + 16) → x.1 a c = s1.1 a c) ∧ ML x 615 (23 + 16 * k) (gainAll m l (f k).2.2.2.2.2.2 i) ∧ ML x 615 (23 + 16 * j) (zl l i))
    (fun r => ∃ x, r = EvI (EvM (d + 4)) C170 1 111 [.ref 614, .int (nI j), .int (nI k), .int (nI (23 + 16 * j)), .int (nI l.length)] [] (mkH scr x) ∧ (∀ a c, ¬ (a = 615 ∧ 23 + 16 * j + 3 ≤ c ∧ c < 23 + 16 * j + 16) → ¬ (a = 615 ∧ 23 + 16 * k + 3 ≤ c ∧ c < 23 + 16 * k + 16) → x.1 a c = s1.1 a c) ∧ ML x 615 (23 + 16 * k) (gainAll m l (f k).2.2.2.2.2.2 l.length) ∧ ML x 615 (23 + 16 * j) (zl l l.length)) ?_ ?_ (x := s1) ⟨fun _ _ _ _ => rfl, qk.2.2.2, qjL⟩
  · obtain ⟨s2, e1, c1, c2, c3⟩ := hlp
    have e1' : EvI (EvM (d + 4)) C170 1 59 [.ref 614, .int (nI j), .int (nI k), .int (nI (23 + 16 * j)), .int 0] [] (mkH scr s1) = _ := e1
    obtain ⟨s3, b1, b2, b3⟩ := m_closeUp (d + 2) (scr := scr) (b := 0) (p := j) (l := zl l l.length) (by rw [Nat.zero_add]; exact c3) (by omega) (fun i hi => by rw [(zl_get (Nat.le_refl _)).1]; rw [zl_len _ _ (Nat.le_refl _)] at hi; rw [if_pos hi]; omega)
    rw [Nat.zero_add] at b2 b3
    have b1' : EvM (d + 4) 156 [.ref 614, .int 0, .int (nI j)] (mkH scr s2) = some (0, mkH scr s3) := b1
    rw [keep_z (fun i hi => by rw [(zl_get (Nat.le_refl _)).1]; rw [zl_len _ _ (Nat.le_refl _)] at hi; rw [if_pos hi])] at b2
    have fr3 : ∀ a c, ¬ (a = 615 ∧ 23 + 16 * j + 3 ≤ c ∧ c < 23 + 16 * j + 16) → ¬ (a = 615 ∧ 23 + 16 * k + 3 ≤ c ∧ c < 23 + 16 * k + 16) → s3.1 a c = s1.1 a c := fun a c x y => by rw [b3.2 _ _ x, c1 _ _ x y]
    have hatk : EvM (d + 4) 153 [.int 0, .int (nI k)] (mkH scr s3) = some (nI (23 + 16 * k), mkH scr s3) := m_at (d + 3) 0 k
    have ck : s3.1 615 (23 + 16 * k + 1) = (f k).2.2.2.1 := by rw [fr3 _ _ (by omega) (by omega)]; exact qk.2.1
    have cj : s3.1 615 (23 + 16 * j + 1) = (f j).2.2.2.1 := by rw [fr3 _ _ (by omega) (by omega)]; exact qj.2.1
    have hs4 : ∃ s4, s4 = u2 (u2 (u2 s3 615 (23 + 16 * k + 1) ((f k).2.2.2.1 + (f j).2.2.2.1)) 615 (23 + 16 * j + 1) 0) 615 (23 + 16 * j) 0 := ⟨_, rfl⟩
    obtain ⟨s4, es4⟩ := hs4
    have fr4 : ∀ a c, ¬ (a = 615 ∧ 23 + 16 * j ≤ c ∧ c < 23 + 16 * j + 16) → ¬ (a = 615 ∧ 23 + 16 * k ≤ c ∧ c < 23 + 16 * k + 16) → s4.1 a c = s1.1 a c := fun a c x y => by rw [es4, u2_oth _ _ (by omega), u2_oth _ _ (by omega), u2_oth _ _ (by omega), fr3 _ _ (by omega) (by omega)]
    have pk4 : MP s4 615 (23 + 16 * k) (pHeir m (f j) (f k)) := by
      rw [es4]
      refine ⟨?_, ?_, ?_, ?_⟩
      · rw [u2_oth _ _ (by omega), u2_oth _ _ (by omega), u2_oth _ _ (by omega), fr3 _ _ (by omega) (by omega)]; exact qk.1
      · rw [u2_oth _ _ (by omega), u2_oth _ _ (by omega), u2_same]; rfl
      · rw [u2_oth _ _ (by omega), u2_oth _ _ (by omega), u2_oth _ _ (by omega), fr3 _ _ (by omega) (by omega)]; exact qk.2.2.1
      · show ML _ 615 _ (gainAll m (lotsP (f j)) (lotsP (f k)) (lotsP (f j)).length)
        unfold lotsP
        rw [hlj]
        exact ML.ext c2 (fun i h3 hi => by rw [u2_oth _ _ (by omega), u2_oth _ _ (by omega), u2_oth _ _ (by omega), b3.2 _ _ (by omega)])
    have pj4 : MP s4 615 (23 + 16 * j) (pDead (f j)) := by
      rw [es4]
      refine ⟨u2_same _ _ _ _, ?_, ?_, ML.ext b2 (fun i h3 hi => by rw [u2_oth _ _ (by omega), u2_oth _ _ (by omega), u2_oth _ _ (by omega)])⟩
      · rw [u2_oth _ _ (by omega), u2_same]; rfl
      · rw [u2_oth _ _ (by omega), u2_oth _ _ (by omega), u2_oth _ _ (by omega), fr3 _ _ (by omega) (by omega)]; exact qj.2.2.1
    have uk4 : EvM (d + 4) 154 [.ref 614, .int 0, .int (nI k)] (mkH scr s4) = some (nI (sumD l + sumD (f k).2.2.2.2.2.2), mkH scr s4) := by
      have h0 := m_unspent (d + 2) (scr := scr) (s := s4) (b := 0) (p := k) (l := gainAll m l (f k).2.2.2.2.2.2 l.length) (by rw [Nat.zero_add]; have := pk4.2.2.2; unfold pHeir lotsP at this; simp only at this; rw [hlj] at this; exact this) (by omega)
      rw [sum_gainAll qk.2.2.2.2.1, Nat.add_comm (sumD (f k).2.2.2.2.2.2)] at h0
      exact h0
    have hE : stE (t, w, m, N, f) (cUp (cUp (t, w, m, N, f) k (pHeir m (f j) (f k))) j (pDead (f j))) := ⟨rfl, rfl, rfl, fun i hi => by
      show (if i = j then pDead (f j) else if i = k then pHeir m (f j) (f k) else f i).1 = _ ∧ (if i = j then pDead (f j) else if i = k then pHeir m (f j) (f k) else f i).2.1 = _ ∧ (if i = j then pDead (f j) else if i = k then pHeir m (f j) (f k) else f i).2.2.1 = _
      by_cases e : i = j
      · subst e; rw [if_pos rfl]; exact ⟨rfl, rfl, rfl⟩
      · rw [if_neg e]
        by_cases e2 : i = k
        · subst e2; rw [if_pos rfl]; exact ⟨rfl, rfl, rfl⟩
        · rw [if_neg e2]; exact ⟨rfl, rfl, rfl⟩⟩
    have hin := hI.act hE (s' := s4) (pa' := keepP pa (t, w, m, N, f)) ⟨by rw [fr4 _ _ (by omega) (by omega)]; exact m1, fun i hi => by
      show MP s4 615 (0 + 23 + 16 * i) (if i = j then pDead (f j) else if i = k then pHeir m (f j) (f k) else f i)
      rw [Nat.zero_add]
      by_cases e : i = j
      · subst e; rw [if_pos rfl]; exact pj4
      · rw [if_neg e]
        by_cases e2 : i = k
        · subst e2; rw [if_pos rfl]; exact pk4
        · rw [if_neg e2]
          exact MP.ext2 (show MP s 615 (23 + 16 * i) (f i) from hVV.2 i hi) (fun c x y => by rw [fr4 _ _ (by omega) (by omega), a4 _ _ (by omega) (by omega)])⟩ (a2.ext (fr4 _ _ (by omega) (by omega)) (fun k => fr4 _ _ (by omega) (by omega))) (fun a c x y z w => by rw [fr4 _ _ (by omega) (by omega), a4 _ _ (by omega) (by omega)])
    refine ⟨s4, ?_, ?_, fun a c x => by rw [fr4 _ _ (by omega) (by omega), a4 _ _ (by omega) (by omega)]⟩ <;> simp only [oDies, nPe, pOf, ctyOf, lotsP, hlj, g1, g2, g3, ne_eq, not_false_eq_true, and_self, if_true, ej, ek, g4, cl, if_false]
    · have cj' : (u2 s3 615 (23 + 16 * k + 1) ((f k).2.2.2.1 + (f j).2.2.2.1)).1 615 (23 + 16 * j) = s3.1 615 (23 + 16 * j) := u2_oth _ _ (by omega)
      simp (disch := omega) only [e170_0, e170_1, e170_2, e170_5, e170_8, e170_9, e170_10, e170_13, e170_16, e170_17, e170_18, e170_21, e170_23, e170_24, e170_25, e170_26, e170_27, e170_30, e170_31, e170_32, e170_33, e170_36, e170_37, e170_40, e170_43, e170_45, e170_46, e170_47, e170_50, e170_51, e170_52, e170_55, e170_56, e170_57, e170_61, e170_62, e170_65, e170_66, e170_67, e170_68, e170_69, e170_72, e170_73, e170_74, e170_75, e170_76, e170_79, e170_80, e170_81, e170_82, e170_83, e170_85, e170_86, e170_87, e170_88, e170_91, e170_92, e170_95, e170_96, e170_97, e170_98, e170_99, e170_101, e170_102, e170_103, e170_104, e170_105, e170_108, e170_112, e170_113, e170_114, e170_117, e170_118, e170_121, e170_122, e170_123, e170_126, e170_127, e170_128, e170_129, e170_130, e170_131, e170_134, e170_135, e170_136, e170_137, e170_138, e170_139, e170_140, e170_141, e170_144, e170_145, e170_146, e170_147, e170_148, e170_149, e170_150, e170_153, e170_154, e170_155, e170_156, e170_157, e170_158, e170_159, e170_160, e170_161, e170_164, ↓reduceIte, ↓gi0, ↓gr0, ↓gl0, ↓gi1, ↓gr1, ↓gl1, ↓gi2, ↓gr2, ↓gl2, ↓gi3, ↓gr3, ↓gl3, ↓gi4, ↓gr4, ↓gl4, ↓gi5, ↓gr5, ↓gl5, ↓gi6, ↓gr6, ↓gl6, ↓gi7, ↓gr7, ↓gl7, ↓gi8, ↓gr8, ↓gl8, ↓gi9, ↓gr9, ↓gl9, ↓qI, ↓qI2, ↓qL, ↓qL2, ↓qR, ↓qV, ↓pd0, ↓ta0, ↓ts0, ↓pd1, ↓ta1, ↓ts1, ↓pd2, ↓ta2, ↓ts2, ↓pd3, ↓ta3, ↓ts3, ↓pd4, ↓ta4, ↓ts4, ↓pd5, ↓ta5, ↓ts5, ↓pd6, ↓ta6, ↓ts6, lGet, lSet, okS, isLg, Bool.not_false, Bool.not_true, Bool.false_eq_true, not_false_eq_true, not_true_eq_false, catS, okR1, okR20, okR21, okR2b, List.length_cons, List.length_nil, List.drop_succ_cons, List.drop_zero, List.drop_nil, and_self, true_and, and_true, false_and, and_false, Nat.reduceAdd, Nat.reduceLeDiff, Nat.zero_add, Nat.le_refl, Nat.zero_le, pushR, reduceCtorEq, or_self, or_false, false_or, true_or, or_true, ltT, ltF, leT, leF, eqF, eqT, lt0F, ge0T, le0T, le0F, eq0T, eq0F, gt0T, gt0F, nI_add, nI_1, pk_mul, subT, sub1, divT, remN, natRem, n2, n3, n4, n5, n6, n7, n8, n9, n10, n12, n16, n22, n23, n24, n40, n48, n57, n60, n97, n99, n100, n119, n120, n238, n357, n999, n9999, n2231, Int32.add_zero, bI_t, bI_f, one_ne, K614, ↓G614_0, ↓G614_1, ↓G614_2, ↓U614_2, ↓G614_3, ↓G614_4, ↓U614_4, ↓G614_5, ↓U614_5, ↓G614_6, ↓U614_6, ↓G614_7, ↓G614_8, ↓G614_9, ↓G614_10, ↓G614_11, ↓U614_11, ↓G614_12, ↓U614_12, ↓G614_13, ↓U614_13, ↓G614_14, ↓U614_14, ↓G614_15, ↓G614_16, ↓U614_16, ↓G614_18, ↓U614_18, ↓G614_19, ↓I615, ↓S615, ↓bnd w1, ↓bnd w2, g3, ↓bnd uj, ↓bnd uk, ↓bnd a1, ↓bnd hat1]
      rw [e1', e170_111]
      rw [es4] at uk4 ⊢
      simp (disch := omega) only [e170_0, e170_1, e170_2, e170_5, e170_8, e170_9, e170_10, e170_13, e170_16, e170_17, e170_18, e170_21, e170_23, e170_24, e170_25, e170_26, e170_27, e170_30, e170_31, e170_32, e170_33, e170_36, e170_37, e170_40, e170_43, e170_45, e170_46, e170_47, e170_50, e170_51, e170_52, e170_55, e170_56, e170_57, e170_61, e170_62, e170_65, e170_66, e170_67, e170_68, e170_69, e170_72, e170_73, e170_74, e170_75, e170_76, e170_79, e170_80, e170_81, e170_82, e170_83, e170_85, e170_86, e170_87, e170_88, e170_91, e170_92, e170_95, e170_96, e170_97, e170_98, e170_99, e170_101, e170_102, e170_103, e170_104, e170_105, e170_108, e170_112, e170_113, e170_114, e170_117, e170_118, e170_121, e170_122, e170_123, e170_126, e170_127, e170_128, e170_129, e170_130, e170_131, e170_134, e170_135, e170_136, e170_137, e170_138, e170_139, e170_140, e170_141, e170_144, e170_145, e170_146, e170_147, e170_148, e170_149, e170_150, e170_153, e170_154, e170_155, e170_156, e170_157, e170_158, e170_159, e170_160, e170_161, e170_164, ↓reduceIte, ↓gi0, ↓gr0, ↓gl0, ↓gi1, ↓gr1, ↓gl1, ↓gi2, ↓gr2, ↓gl2, ↓gi3, ↓gr3, ↓gl3, ↓gi4, ↓gr4, ↓gl4, ↓gi5, ↓gr5, ↓gl5, ↓gi6, ↓gr6, ↓gl6, ↓gi7, ↓gr7, ↓gl7, ↓gi8, ↓gr8, ↓gl8, ↓gi9, ↓gr9, ↓gl9, ↓qI, ↓qI2, ↓qL, ↓qL2, ↓qR, ↓qV, ↓pd0, ↓ta0, ↓ts0, ↓pd1, ↓ta1, ↓ts1, ↓pd2, ↓ta2, ↓ts2, ↓pd3, ↓ta3, ↓ts3, ↓pd4, ↓ta4, ↓ts4, ↓pd5, ↓ta5, ↓ts5, ↓pd6, ↓ta6, ↓ts6, lGet, lSet, okS, isLg, Bool.not_false, Bool.not_true, Bool.false_eq_true, not_false_eq_true, not_true_eq_false, catS, okR1, okR20, okR21, okR2b, List.length_cons, List.length_nil, List.drop_succ_cons, List.drop_zero, List.drop_nil, and_self, true_and, and_true, false_and, and_false, Nat.reduceAdd, Nat.reduceLeDiff, Nat.zero_add, Nat.le_refl, Nat.zero_le, pushR, reduceCtorEq, or_self, or_false, false_or, true_or, or_true, ltT, ltF, leT, leF, eqF, eqT, lt0F, ge0T, le0T, le0F, eq0T, eq0F, gt0T, gt0F, nI_add, nI_1, pk_mul, subT, sub1, divT, remN, natRem, n2, n3, n4, n5, n6, n7, n8, n9, n10, n12, n16, n22, n23, n24, n40, n48, n57, n60, n97, n99, n100, n119, n120, n238, n357, n999, n9999, n2231, Int32.add_zero, bI_t, bI_f, one_ne, K614, ↓G614_0, ↓G614_1, ↓G614_2, ↓U614_2, ↓G614_3, ↓G614_4, ↓U614_4, ↓G614_5, ↓U614_5, ↓G614_6, ↓U614_6, ↓G614_7, ↓G614_8, ↓G614_9, ↓G614_10, ↓G614_11, ↓U614_11, ↓G614_12, ↓U614_12, ↓G614_13, ↓U614_13, ↓G614_14, ↓U614_14, ↓G614_15, ↓G614_16, ↓U614_16, ↓G614_18, ↓U614_18, ↓G614_19, ↓I615, ↓S615, ↓bnd b1', ↓bnd hatk, ck, cj, ↓bnd uk4]
    · exact hin
  · intro i x hi ⟨c1, c2, c3⟩
    have z3 := c3.1
    rw [zl_len _ _ (by omega)] at z3
    have zi := (c3.2.2 i (by rw [zl_len _ _ (by omega)]; exact hi)).1
    rw [(zl_get (show i ≤ l.length by omega)).1, if_neg (Nat.lt_irrefl i)] at zi
    have mx : x.1 615 22 = nI m := by rw [c1 _ _ (by omega) (by omega)]; exact m1
    obtain ⟨x1, b1, b2, b3⟩ := m_come (d + 2) (scr := scr) (b := 0) (p := k) (by rw [Nat.zero_add]; exact c2) (by omega) mx (lt_d l i)
    rw [Nat.zero_add] at b2 b3
    have b1' : EvM (d + 4) 155 [.ref 614, .int 0, .int (nI k), .int (nI (lt_d l i))] (mkH scr x) = some (0, mkH scr x1) := b1
    refine ⟨u2 x1 615 (23 + 16 * j + 4 + 2 * i) 0, ⟨fun a c y z => ?_, ML.ext b2 (fun c h3 hc => u2_oth _ _ (by omega)), ?_⟩, ?_⟩
    · rw [u2_oth _ _ (by omega), b3.2 _ _ (by omega), c1 _ _ y z]
    · refine ⟨?_, by rw [zl_len _ _ (by omega)]; exact l6, fun q hq => ?_⟩
      · rw [u2_oth _ _ (by omega), b3.2 _ _ (by omega), zl_len _ _ (by omega)]; exact z3
      · rw [zl_len _ _ (by omega)] at hq
        obtain ⟨d1, d2⟩ := c3.2.2 q (by rw [zl_len _ _ (by omega)]; exact hq)
        rw [(zl_get (show i ≤ l.length by omega)).1] at d1
        rw [(zl_get (show i ≤ l.length by omega)).2] at d2
        rw [(zl_get (show i + 1 ≤ l.length by omega)).1, (zl_get (show i + 1 ≤ l.length by omega)).2]
        constructor
        · by_cases e : q = i
          · subst e
            rw [u2_same, if_pos (Nat.lt_succ_self q)]; rfl
          · rw [u2_oth _ _ (by omega), b3.2 _ _ (by omega), d1]
            by_cases e2 : q < i
            · rw [if_pos e2, if_pos (by omega)]
            · rw [if_neg e2, if_neg (by omega)]
        · rw [u2_oth _ _ (by omega), b3.2 _ _ (by omega), d2]
    · rw [e170_59]
      simp (disch := omega) only [e170_0, e170_1, e170_2, e170_5, e170_8, e170_9, e170_10, e170_13, e170_16, e170_17, e170_18, e170_21, e170_23, e170_24, e170_25, e170_26, e170_27, e170_30, e170_31, e170_32, e170_33, e170_36, e170_37, e170_40, e170_43, e170_45, e170_46, e170_47, e170_50, e170_51, e170_52, e170_55, e170_56, e170_57, e170_61, e170_62, e170_65, e170_66, e170_67, e170_68, e170_69, e170_72, e170_73, e170_74, e170_75, e170_76, e170_79, e170_80, e170_81, e170_82, e170_83, e170_85, e170_86, e170_87, e170_88, e170_91, e170_92, e170_95, e170_96, e170_97, e170_98, e170_99, e170_101, e170_102, e170_103, e170_104, e170_105, e170_108, e170_112, e170_113, e170_114, e170_117, e170_118, e170_121, e170_122, e170_123, e170_126, e170_127, e170_128, e170_129, e170_130, e170_131, e170_134, e170_135, e170_136, e170_137, e170_138, e170_139, e170_140, e170_141, e170_144, e170_145, e170_146, e170_147, e170_148, e170_149, e170_150, e170_153, e170_154, e170_155, e170_156, e170_157, e170_158, e170_159, e170_160, e170_161, e170_164, ↓reduceIte, ↓gi0, ↓gr0, ↓gl0, ↓gi1, ↓gr1, ↓gl1, ↓gi2, ↓gr2, ↓gl2, ↓gi3, ↓gr3, ↓gl3, ↓gi4, ↓gr4, ↓gl4, ↓gi5, ↓gr5, ↓gl5, ↓gi6, ↓gr6, ↓gl6, ↓gi7, ↓gr7, ↓gl7, ↓gi8, ↓gr8, ↓gl8, ↓gi9, ↓gr9, ↓gl9, ↓qI, ↓qI2, ↓qL, ↓qL2, ↓qR, ↓qV, ↓pd0, ↓ta0, ↓ts0, ↓pd1, ↓ta1, ↓ts1, ↓pd2, ↓ta2, ↓ts2, ↓pd3, ↓ta3, ↓ts3, ↓pd4, ↓ta4, ↓ts4, ↓pd5, ↓ta5, ↓ts5, ↓pd6, ↓ta6, ↓ts6, lGet, lSet, okS, isLg, Bool.not_false, Bool.not_true, Bool.false_eq_true, not_false_eq_true, not_true_eq_false, catS, okR1, okR20, okR21, okR2b, List.length_cons, List.length_nil, List.drop_succ_cons, List.drop_zero, List.drop_nil, and_self, true_and, and_true, false_and, and_false, Nat.reduceAdd, Nat.reduceLeDiff, Nat.zero_add, Nat.le_refl, Nat.zero_le, pushR, reduceCtorEq, or_self, or_false, false_or, true_or, or_true, ltT, ltF, leT, leF, eqF, eqT, lt0F, ge0T, le0T, le0F, eq0T, eq0F, gt0T, gt0F, nI_add, nI_1, pk_mul, subT, sub1, divT, remN, natRem, n2, n3, n4, n5, n6, n7, n8, n9, n10, n12, n16, n22, n23, n24, n40, n48, n57, n60, n97, n99, n100, n119, n120, n238, n357, n999, n9999, n2231, Int32.add_zero, bI_t, bI_f, one_ne, K614, ↓G614_0, ↓G614_1, ↓G614_2, ↓U614_2, ↓G614_3, ↓G614_4, ↓U614_4, ↓G614_5, ↓U614_5, ↓G614_6, ↓U614_6, ↓G614_7, ↓G614_8, ↓G614_9, ↓G614_10, ↓G614_11, ↓U614_11, ↓G614_12, ↓U614_12, ↓G614_13, ↓U614_13, ↓G614_14, ↓U614_14, ↓G614_15, ↓G614_16, ↓U614_16, ↓G614_18, ↓U614_18, ↓G614_19, ↓I615, ↓S615, z3, zi, ↓bnd b1']
  · intro x ⟨c1, c2, c3⟩
    refine ⟨x, ?_, c1, c2, c3⟩
    have z3 := c3.1
    rw [zl_len _ _ (Nat.le_refl _)] at z3
    rw [e170_59]
    simp (disch := omega) only [e170_0, e170_1, e170_2, e170_5, e170_8, e170_9, e170_10, e170_13, e170_16, e170_17, e170_18, e170_21, e170_23, e170_24, e170_25, e170_26, e170_27, e170_30, e170_31, e170_32, e170_33, e170_36, e170_37, e170_40, e170_43, e170_45, e170_46, e170_47, e170_50, e170_51, e170_52, e170_55, e170_56, e170_57, e170_61, e170_62, e170_65, e170_66, e170_67, e170_68, e170_69, e170_72, e170_73, e170_74, e170_75, e170_76, e170_79, e170_80, e170_81, e170_82, e170_83, e170_85, e170_86, e170_87, e170_88, e170_91, e170_92, e170_95, e170_96, e170_97, e170_98, e170_99, e170_101, e170_102, e170_103, e170_104, e170_105, e170_108, e170_112, e170_113, e170_114, e170_117, e170_118, e170_121, e170_122, e170_123, e170_126, e170_127, e170_128, e170_129, e170_130, e170_131, e170_134, e170_135, e170_136, e170_137, e170_138, e170_139, e170_140, e170_141, e170_144, e170_145, e170_146, e170_147, e170_148, e170_149, e170_150, e170_153, e170_154, e170_155, e170_156, e170_157, e170_158, e170_159, e170_160, e170_161, e170_164, ↓reduceIte, ↓gi0, ↓gr0, ↓gl0, ↓gi1, ↓gr1, ↓gl1, ↓gi2, ↓gr2, ↓gl2, ↓gi3, ↓gr3, ↓gl3, ↓gi4, ↓gr4, ↓gl4, ↓gi5, ↓gr5, ↓gl5, ↓gi6, ↓gr6, ↓gl6, ↓gi7, ↓gr7, ↓gl7, ↓gi8, ↓gr8, ↓gl8, ↓gi9, ↓gr9, ↓gl9, ↓qI, ↓qI2, ↓qL, ↓qL2, ↓qR, ↓qV, ↓pd0, ↓ta0, ↓ts0, ↓pd1, ↓ta1, ↓ts1, ↓pd2, ↓ta2, ↓ts2, ↓pd3, ↓ta3, ↓ts3, ↓pd4, ↓ta4, ↓ts4, ↓pd5, ↓ta5, ↓ts5, ↓pd6, ↓ta6, ↓ts6, lGet, lSet, okS, isLg, Bool.not_false, Bool.not_true, Bool.false_eq_true, not_false_eq_true, not_true_eq_false, catS, okR1, okR20, okR21, okR2b, List.length_cons, List.length_nil, List.drop_succ_cons, List.drop_zero, List.drop_nil, and_self, true_and, and_true, false_and, and_false, Nat.reduceAdd, Nat.reduceLeDiff, Nat.zero_add, Nat.le_refl, Nat.zero_le, pushR, reduceCtorEq, or_self, or_false, false_or, true_or, or_true, ltT, ltF, leT, leF, eqF, eqT, lt0F, ge0T, le0T, le0F, eq0T, eq0F, gt0T, gt0F, nI_add, nI_1, pk_mul, subT, sub1, divT, remN, natRem, n2, n3, n4, n5, n6, n7, n8, n9, n10, n12, n16, n22, n23, n24, n40, n48, n57, n60, n97, n99, n100, n119, n120, n238, n357, n999, n9999, n2231, Int32.add_zero, bI_t, bI_f, one_ne, K614, ↓G614_0, ↓G614_1, ↓G614_2, ↓U614_2, ↓G614_3, ↓G614_4, ↓U614_4, ↓G614_5, ↓U614_5, ↓G614_6, ↓U614_6, ↓G614_7, ↓G614_8, ↓G614_9, ↓G614_10, ↓G614_11, ↓U614_11, ↓G614_12, ↓U614_12, ↓G614_13, ↓U614_13, ↓G614_14, ↓U614_14, ↓G614_15, ↓G614_16, ↓U614_16, ↓G614_18, ↓U614_18, ↓G614_19, ↓I615, ↓S615, z3]
end MSB
