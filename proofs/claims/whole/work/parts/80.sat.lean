theorem lsF_lt {P : Nat → Bool} {x : Nat} : ∀ n k, lsF P n k = some x → x < k + n
  | 0, _, h => by cases h
  | n + 1, k, h => by
    have h : (if P k = true then some k else lsF P n (k + 1)) = some x := h
    split at h
    · injection h with h; omega
    · have := lsF_lt n (k + 1) h; omega
section CSET3
variable {scr : Nat × (Nat → Int32)} {s : ST} {W : Nat → Nat}
def orO (o o' : Option Nat) : Option Nat := match o with | some x => some x | none => o'
def lsV (o : Option Nat) : Int32 := (o.map nI).getD (-1000000)
theorem lsV_ne {x : Nat} (h : x < 100000) : ¬ (nI x = -1000000) := fun z => nI_pos (n := x) (by omega) (by rw [z]; decide)
theorem c_matchN (d : Nat) {x y z : Int32} (hx : x < 0) : EvM (d + 2) 73 [.ref 527, .int y, .int x, .int z] (mkH scr s) = some (0, mkH scr s) := by
  have g : ¬ (0 ≤ x) := by
    rw [Int32.le_iff_toInt_le]
    rw [Int32.lt_iff_toInt_lt] at hx
    omega
  rw [ev73, e73_0]
  simp (disch := omega) only [e73_0, e73_1, e73_4, e73_5, e73_6, e73_7, e73_8, e73_11, e73_13, e73_14, e73_15, e73_16, e73_17, e73_18, e73_21, e73_23, e73_24, e73_26, e73_27, e73_30, e73_32, e73_35, e73_37, e73_40, e73_41, e73_42, e73_43, e73_46, e73_48, e73_49, e73_52, e73_53, e73_54, e73_57, e73_58, e73_59, e73_62, e73_64, e73_65, e73_68, ↓reduceIte, ↓gi0, ↓gr0, ↓gl0, ↓gi1, ↓gr1, ↓gl1, ↓gi2, ↓gr2, ↓gl2, ↓gi3, ↓gr3, ↓gl3, ↓gi4, ↓gr4, ↓gl4, ↓gi5, ↓gr5, ↓gl5, ↓gi6, ↓gr6, ↓gl6, ↓gi7, ↓gr7, ↓gl7, ↓gi8, ↓gr8, ↓gl8, ↓gi9, ↓gr9, ↓gl9, ↓qI, ↓qI2, ↓qL, ↓qL2, ↓qR, ↓qV, ↓pd0, ↓ta0, ↓ts0, ↓pd1, ↓ta1, ↓ts1, ↓pd2, ↓ta2, ↓ts2, ↓pd3, ↓ta3, ↓ts3, ↓pd4, ↓ta4, ↓ts4, ↓pd5, ↓ta5, ↓ts5, ↓pd6, ↓ta6, ↓ts6, lGet, lSet, okS, isLg, Bool.not_false, Bool.not_true, Bool.false_eq_true, not_false_eq_true, not_true_eq_false, catS, okR1, okR20, okR21, okR2b, List.length_cons, List.length_nil, List.drop_succ_cons, List.drop_zero, List.drop_nil, and_self, true_and, and_true, false_and, and_false, Nat.reduceAdd, Nat.reduceLeDiff, Nat.zero_add, Nat.le_refl, Nat.zero_le, pushR, reduceCtorEq, or_self, or_false, false_or, true_or, or_true, ltT, ltF, leT, leF, eqF, eqT, lt0F, ge0T, le0T, le0F, eq0T, eq0F, gt0T, gt0F, nI_add, nI_1, pk_mul, subT, sub1, divT, remN, natRem, n2, n3, n4, n5, n6, n7, n8, n9, n10, n12, n16, n22, n23, n24, n40, n48, n57, n60, n97, n99, n100, n119, n120, n238, n357, n999, n9999, n2231, Int32.add_zero, bI_t, bI_f, one_ne, K527, ↓G527_0, ↓U527_0, ↓G527_1, ↓U527_1, ↓G527_2, ↓G527_3, ↓G527_4, g]
theorem c_match (d : Nat) {q r a h : Nat} {o : Option Nat} (ha : a ≤ 8) (hq : q < 256) (hr : r ≤ 9999) (hW : ∀ j, j < a → W j ≤ 999) (hH : Holds s 528 (lw W a)) (h0 : s.1 527 0 = nI h) (hh : h ≤ 65536) (h1 : s.1 527 1 = lsV o) (ho : ∀ x, o = some x → x < 65536) : ∃ s', EvM (d + 2) 73 [.ref 527, .int (nI (q * 2 ^ a)), .int (nI r), .int (nI (2 ^ a))] (mkH scr s) = some (0, mkH scr s') ∧ s'.1 527 0 = nI (h + sumN (fun l => nB (decide (sm W a l = r))) (2 ^ a)) ∧ s'.1 527 1 = lsV (orO o ((lsF (fun l => decide (sm W a l = r)) (2 ^ a) 0).map (q * 2 ^ a + ·))) ∧ s'.2 = s.2 ∧ ∀ a k, a ≠ 527 → s'.1 a k = s.1 a k := by
  have h8 := pw8 ha
  have hlen := lw_len W a
  have hbd : ∀ i, i < (lw W a).length → (lw W a).getD i 0 < 1000000000 := fun i hi => by
    have := lw_bd (W := W) (n := a) hW a ha (Nat.le_refl _) _ (getD_mem (L := lw W a) hi)
    omega
  have p1 : EvM (d + 1) 74 [.ref 527, .int (nI r), .int (nI (2 ^ a))] (mkH scr s) = some (nI (plc W a r), mkH scr s) := c_place d ha hlen (lw_srt W a ha) hbd hH (by omega)
  have p2 : EvM (d + 1) 74 [.ref 527, .int (nI (r + 1)), .int (nI (2 ^ a))] (mkH scr s) = some (nI (plc W a (r + 1)), mkH scr s) := c_place d ha hlen (lw_srt W a ha) hbd hH (by omega)
  have hpt := plc_two (W := W) (r := r) ha
  have hple : plc W a (r + 1) ≤ 2 ^ a := by
    have := List.countP_le_length (p := fun x => decide (x < (r + 1) * 256)) (l := lw W a)
    rw [hlen] at this
    exact this
  have hpa := plc_at (W := W) (r := r) ha
  have hc0 := cnt_ls (P := fun l => decide (sm W a l = r)) (n := 2 ^ a)
  generalize sumN (fun l => nB (decide (sm W a l = r))) (2 ^ a) = c at *
  rw [hpt] at p2
  have hq2 : q * 2 ^ a ≤ 65536 := Nat.le_trans (Nat.mul_le_mul (Nat.le_of_lt hq) h8) (by decide)
  by_cases g : c = 0
  · rw [hc0.mp g]
    subst g
    refine ⟨u2 s 527 0 (nI (h + 0)), ?_, u2_same _ _ _ _, ?_, rfl, fun a k z => u2_oth _ _ (by omega)⟩
    · rw [ev73, e73_0]
      by_cases g1 : lsV o = -1000000
      · simp (disch := omega) only [e73_0, e73_1, e73_4, e73_5, e73_6, e73_7, e73_8, e73_11, e73_13, e73_14, e73_15, e73_16, e73_17, e73_18, e73_21, e73_23, e73_24, e73_26, e73_27, e73_30, e73_32, e73_35, e73_37, e73_40, e73_41, e73_42, e73_43, e73_46, e73_48, e73_49, e73_52, e73_53, e73_54, e73_57, e73_58, e73_59, e73_62, e73_64, e73_65, e73_68, ↓reduceIte, ↓gi0, ↓gr0, ↓gl0, ↓gi1, ↓gr1, ↓gl1, ↓gi2, ↓gr2, ↓gl2, ↓gi3, ↓gr3, ↓gl3, ↓gi4, ↓gr4, ↓gl4, ↓gi5, ↓gr5, ↓gl5, ↓gi6, ↓gr6, ↓gl6, ↓gi7, ↓gr7, ↓gl7, ↓gi8, ↓gr8, ↓gl8, ↓gi9, ↓gr9, ↓gl9, ↓qI, ↓qI2, ↓qL, ↓qL2, ↓qR, ↓qV, ↓pd0, ↓ta0, ↓ts0, ↓pd1, ↓ta1, ↓ts1, ↓pd2, ↓ta2, ↓ts2, ↓pd3, ↓ta3, ↓ts3, ↓pd4, ↓ta4, ↓ts4, ↓pd5, ↓ta5, ↓ts5, ↓pd6, ↓ta6, ↓ts6, lGet, lSet, okS, isLg, Bool.not_false, Bool.not_true, Bool.false_eq_true, not_false_eq_true, not_true_eq_false, catS, okR1, okR20, okR21, okR2b, List.length_cons, List.length_nil, List.drop_succ_cons, List.drop_zero, List.drop_nil, and_self, true_and, and_true, false_and, and_false, Nat.reduceAdd, Nat.reduceLeDiff, Nat.zero_add, Nat.le_refl, Nat.zero_le, pushR, reduceCtorEq, or_self, or_false, false_or, true_or, or_true, ltT, ltF, leT, leF, eqF, eqT, lt0F, ge0T, le0T, le0F, eq0T, eq0F, gt0T, gt0F, nI_add, nI_1, pk_mul, subT, sub1, divT, remN, natRem, n2, n3, n4, n5, n6, n7, n8, n9, n10, n12, n16, n22, n23, n24, n40, n48, n57, n60, n97, n99, n100, n119, n120, n238, n357, n999, n9999, n2231, Int32.add_zero, bI_t, bI_f, one_ne, K527, ↓G527_0, ↓U527_0, ↓G527_1, ↓U527_1, ↓G527_2, ↓G527_3, ↓G527_4, ↓bnd p1, ↓bnd p2, h0, h1, g1, Nat.sub_self, Nat.add_zero]
      · simp (disch := omega) only [e73_0, e73_1, e73_4, e73_5, e73_6, e73_7, e73_8, e73_11, e73_13, e73_14, e73_15, e73_16, e73_17, e73_18, e73_21, e73_23, e73_24, e73_26, e73_27, e73_30, e73_32, e73_35, e73_37, e73_40, e73_41, e73_42, e73_43, e73_46, e73_48, e73_49, e73_52, e73_53, e73_54, e73_57, e73_58, e73_59, e73_62, e73_64, e73_65, e73_68, ↓reduceIte, ↓gi0, ↓gr0, ↓gl0, ↓gi1, ↓gr1, ↓gl1, ↓gi2, ↓gr2, ↓gl2, ↓gi3, ↓gr3, ↓gl3, ↓gi4, ↓gr4, ↓gl4, ↓gi5, ↓gr5, ↓gl5, ↓gi6, ↓gr6, ↓gl6, ↓gi7, ↓gr7, ↓gl7, ↓gi8, ↓gr8, ↓gl8, ↓gi9, ↓gr9, ↓gl9, ↓qI, ↓qI2, ↓qL, ↓qL2, ↓qR, ↓qV, ↓pd0, ↓ta0, ↓ts0, ↓pd1, ↓ta1, ↓ts1, ↓pd2, ↓ta2, ↓ts2, ↓pd3, ↓ta3, ↓ts3, ↓pd4, ↓ta4, ↓ts4, ↓pd5, ↓ta5, ↓ts5, ↓pd6, ↓ta6, ↓ts6, lGet, lSet, okS, isLg, Bool.not_false, Bool.not_true, Bool.false_eq_true, not_false_eq_true, not_true_eq_false, catS, okR1, okR20, okR21, okR2b, List.length_cons, List.length_nil, List.drop_succ_cons, List.drop_zero, List.drop_nil, and_self, true_and, and_true, false_and, and_false, Nat.reduceAdd, Nat.reduceLeDiff, Nat.zero_add, Nat.le_refl, Nat.zero_le, pushR, reduceCtorEq, or_self, or_false, false_or, true_or, or_true, ltT, ltF, leT, leF, eqF, eqT, lt0F, ge0T, le0T, le0F, eq0T, eq0F, gt0T, gt0F, nI_add, nI_1, pk_mul, subT, sub1, divT, remN, natRem, n2, n3, n4, n5, n6, n7, n8, n9, n10, n12, n16, n22, n23, n24, n40, n48, n57, n60, n97, n99, n100, n119, n120, n238, n357, n999, n9999, n2231, Int32.add_zero, bI_t, bI_f, one_ne, K527, ↓G527_0, ↓U527_0, ↓G527_1, ↓U527_1, ↓G527_2, ↓G527_3, ↓G527_4, ↓bnd p1, ↓bnd p2, h0, h1, g1, Nat.sub_self, Nat.add_zero]
    · rw [u2_oth _ _ (by omega), h1]
      cases o <;> rfl
  · obtain ⟨q1, l, q2, q3, q4⟩ := hpa (by omega)
    rw [q3]
    have hv := hH (plc W a r) (by omega)
    rw [q4] at hv
    have hmod : (r * 256 + l) % 256 = l := by omega
    have hor := orQ (q := q) q2
    have hpl : plc W a r < 256 := by omega
    cases o with
    | some x =>
      have hne := lsV_ne (x := x) (by have := ho x rfl; omega)
      have h1 : s.1 527 1 = nI x := h1
      refine ⟨u2 s 527 0 (nI (h + c)), ?_, u2_same _ _ _ _, ?_, rfl, fun a k z => u2_oth _ _ (by omega)⟩
      · rw [ev73, e73_0]
        simp (disch := omega) only [e73_0, e73_1, e73_4, e73_5, e73_6, e73_7, e73_8, e73_11, e73_13, e73_14, e73_15, e73_16, e73_17, e73_18, e73_21, e73_23, e73_24, e73_26, e73_27, e73_30, e73_32, e73_35, e73_37, e73_40, e73_41, e73_42, e73_43, e73_46, e73_48, e73_49, e73_52, e73_53, e73_54, e73_57, e73_58, e73_59, e73_62, e73_64, e73_65, e73_68, ↓reduceIte, ↓gi0, ↓gr0, ↓gl0, ↓gi1, ↓gr1, ↓gl1, ↓gi2, ↓gr2, ↓gl2, ↓gi3, ↓gr3, ↓gl3, ↓gi4, ↓gr4, ↓gl4, ↓gi5, ↓gr5, ↓gl5, ↓gi6, ↓gr6, ↓gl6, ↓gi7, ↓gr7, ↓gl7, ↓gi8, ↓gr8, ↓gl8, ↓gi9, ↓gr9, ↓gl9, ↓qI, ↓qI2, ↓qL, ↓qL2, ↓qR, ↓qV, ↓pd0, ↓ta0, ↓ts0, ↓pd1, ↓ta1, ↓ts1, ↓pd2, ↓ta2, ↓ts2, ↓pd3, ↓ta3, ↓ts3, ↓pd4, ↓ta4, ↓ts4, ↓pd5, ↓ta5, ↓ts5, ↓pd6, ↓ta6, ↓ts6, lGet, lSet, okS, isLg, Bool.not_false, Bool.not_true, Bool.false_eq_true, not_false_eq_true, not_true_eq_false, catS, okR1, okR20, okR21, okR2b, List.length_cons, List.length_nil, List.drop_succ_cons, List.drop_zero, List.drop_nil, and_self, true_and, and_true, false_and, and_false, Nat.reduceAdd, Nat.reduceLeDiff, Nat.zero_add, Nat.le_refl, Nat.zero_le, pushR, reduceCtorEq, or_self, or_false, false_or, true_or, or_true, ltT, ltF, leT, leF, eqF, eqT, lt0F, ge0T, le0T, le0F, eq0T, eq0F, gt0T, gt0F, nI_add, nI_1, pk_mul, subT, sub1, divT, remN, natRem, n2, n3, n4, n5, n6, n7, n8, n9, n10, n12, n16, n22, n23, n24, n40, n48, n57, n60, n97, n99, n100, n119, n120, n238, n357, n999, n9999, n2231, Int32.add_zero, bI_t, bI_f, one_ne, K527, ↓G527_0, ↓U527_0, ↓G527_1, ↓U527_1, ↓G527_2, ↓G527_3, ↓G527_4, ↓bnd p1, ↓bnd p2, h0, h1, hne, Nat.add_sub_cancel_left]
      · rw [u2_oth _ _ (by omega), h1]; rfl
    | none =>
      have h1 : s.1 527 1 = -1000000 := h1
      have h0' : (u2 s 527 1 (nI (q * 2 ^ a + l))).1 527 0 = nI h := by rw [u2_oth _ _ (by omega)]; exact h0
      refine ⟨u2 (u2 s 527 1 (nI (q * 2 ^ a + l))) 527 0 (nI (h + c)), ?_, u2_same _ _ _ _, ?_, rfl, fun a k z => by rw [u2_oth _ _ (by omega), u2_oth _ _ (by omega)]⟩
      · rw [ev73, e73_0]
        simp (disch := omega) only [e73_0, e73_1, e73_4, e73_5, e73_6, e73_7, e73_8, e73_11, e73_13, e73_14, e73_15, e73_16, e73_17, e73_18, e73_21, e73_23, e73_24, e73_26, e73_27, e73_30, e73_32, e73_35, e73_37, e73_40, e73_41, e73_42, e73_43, e73_46, e73_48, e73_49, e73_52, e73_53, e73_54, e73_57, e73_58, e73_59, e73_62, e73_64, e73_65, e73_68, ↓reduceIte, ↓gi0, ↓gr0, ↓gl0, ↓gi1, ↓gr1, ↓gl1, ↓gi2, ↓gr2, ↓gl2, ↓gi3, ↓gr3, ↓gl3, ↓gi4, ↓gr4, ↓gl4, ↓gi5, ↓gr5, ↓gl5, ↓gi6, ↓gr6, ↓gl6, ↓gi7, ↓gr7, ↓gl7, ↓gi8, ↓gr8, ↓gl8, ↓gi9, ↓gr9, ↓gl9, ↓qI, ↓qI2, ↓qL, ↓qL2, ↓qR, ↓qV, ↓pd0, ↓ta0, ↓ts0, ↓pd1, ↓ta1, ↓ts1, ↓pd2, ↓ta2, ↓ts2, ↓pd3, ↓ta3, ↓ts3, ↓pd4, ↓ta4, ↓ts4, ↓pd5, ↓ta5, ↓ts5, ↓pd6, ↓ta6, ↓ts6, lGet, lSet, okS, isLg, Bool.not_false, Bool.not_true, Bool.false_eq_true, not_false_eq_true, not_true_eq_false, catS, okR1, okR20, okR21, okR2b, List.length_cons, List.length_nil, List.drop_succ_cons, List.drop_zero, List.drop_nil, and_self, true_and, and_true, false_and, and_false, Nat.reduceAdd, Nat.reduceLeDiff, Nat.zero_add, Nat.le_refl, Nat.zero_le, pushR, reduceCtorEq, or_self, or_false, false_or, true_or, or_true, ltT, ltF, leT, leF, eqF, eqT, lt0F, ge0T, le0T, le0F, eq0T, eq0F, gt0T, gt0F, nI_add, nI_1, pk_mul, subT, sub1, divT, remN, natRem, n2, n3, n4, n5, n6, n7, n8, n9, n10, n12, n16, n22, n23, n24, n40, n48, n57, n60, n97, n99, n100, n119, n120, n238, n357, n999, n9999, n2231, Int32.add_zero, bI_t, bI_f, one_ne, K527, ↓G527_0, ↓U527_0, ↓G527_1, ↓U527_1, ↓G527_2, ↓G527_3, ↓G527_4, ↓I528, ↓S528, ↓bnd p1, ↓bnd p2, h0', h1, hv, n256, hmod, hor, Nat.add_sub_cancel_left]
      · rw [u2_oth _ _ (by omega), u2_same]; rfl
theorem c_find (d : Nat) {n days : Nat} (hn : n ≤ 16) (hd : days ≤ 9999) (hw : ∀ j, j < n → s.1 613 j = nI (W j) ∧ W j ≤ 999) : ∃ s', EvM (d + 3) 69 [.ref 527, .ref 613, .int (nI n), .int (nI days)] (mkH scr s) = some (0, mkH scr s') ∧ s'.1 527 0 = nI (sumN (fun x => nB (decide (sm W n x = days))) (2 ^ n)) ∧ s'.1 527 1 = lsV (lsF (fun x => decide (sm W n x = days)) (2 ^ n) 0) ∧ FrS s s' := by
  obtain ⟨a, b, ha, hb, hab, ea, eb⟩ : ∃ a b, a ≤ 8 ∧ b ≤ 8 ∧ n = a + b ∧ min n 8 = a ∧ min (n - a) 8 = b := by
    by_cases h : n ≤ 8
    · exact ⟨n, 0, h, by omega, rfl, by omega, by omega⟩
    · exact ⟨8, n - 8, by omega, by omega, by omega, by omega, by omega⟩
  have m1 : (if nI 8 < nI n then nI 8 else nI n) = nI a := by rw [min_nI (by omega) (by omega), ea]
  have m2 : (if nI 8 < nI (n - a) then nI 8 else nI (n - a)) = nI b := by rw [min_nI (by omega) (by omega), eb]
  have m3 : n - a = b := by omega
  have hA := pw8 ha
  have hB := pw8 hb
  have hA1 := pw1 a
  have sha := shl1 a (by omega)
  have shb := shl1 b (by omega)
  obtain ⟨s1, a1, a2, a3⟩ := c_sort d (scr := scr) (W := W) (n := n) (a := a) ha (by omega) (by omega) hw
  have hw1 : ∀ j, j < n → s1.1 613 j = nI (W j) ∧ W j ≤ 999 := fun j hj => ⟨(a3.2 _ _ (by omega)).trans (hw j hj).1, (hw j hj).2⟩
  obtain ⟨s2, b1, b2, b3, b4⟩ := c_high (d + 1) (scr := scr) (W := W) (n := n) (a := a) (b := b) hb (by omega) (by omega) hw1
  have hLo2 : Holds s2 528 (lw W a) := fun i hi => (b4 _ _ (by omega)).trans (a2 i hi)
  have hF2 : FrS s s2 := a3.tr ⟨b3, fun a k x => b4 _ _ (by omega)⟩
  have hpw : 2 ^ n = 2 ^ b * 2 ^ a := by rw [hab, Nat.pow_add, Nat.mul_comm]
  have hlp := forUp (X := ST) (2 ^ b) (fun q z => EvI (EvM (d + 2)) C69 0 49 [.ref 527, .ref 613, .int (nI n), .int (nI days), .int (nI a), .int (nI b), .int (nI q)] [] (mkH scr z))
    (fun q z => FrS s z ∧ (∀ a k, a ≠ 527 → z.1 a k = s2.1 a k) ∧ z.1 527 0 = nI (sumN (fun x => nB (decide (sm W n x = days))) (q * 2 ^ a)) ∧ z.1 527 1 = lsV (lsF (fun x => decide (sm W n x = days)) (q * 2 ^ a) 0))
    (fun r => ∃ s', r = some (0, mkH scr s') ∧ s'.1 527 0 = nI (sumN (fun x => nB (decide (sm W n x = days))) (2 ^ n)) ∧ s'.1 527 1 = lsV (lsF (fun x => decide (sm W n x = days)) (2 ^ n) 0) ∧ FrS s s') ?_ ?_ (x := u2 (u2 s2 527 0 0) 527 1 (-1000000)) ⟨hF2.tr ((FrS.u s2 (by omega)).tr (FrS.u _ (by omega))), fun a k z => by rw [u2_oth _ _ (by omega), u2_oth _ _ (by omega)], by rw [u2_oth _ _ (by omega), u2_same, Nat.zero_mul]; rfl, by rw [u2_same, Nat.zero_mul]; rfl⟩
  · obtain ⟨s', e1, e2⟩ := hlp
    refine ⟨s', ?_, e2⟩
    rw [← e1, ev69, e69_0]
    simp (disch := omega) only [e69_0, e69_1, e69_3, e69_6, e69_8, e69_9, e69_11, e69_12, e69_14, e69_17, e69_19, e69_20, e69_21, e69_23, e69_26, e69_27, e69_28, e69_30, e69_32, e69_35, e69_36, e69_37, e69_40, e69_41, e69_43, e69_46, e69_47, e69_51, e69_52, e69_54, e69_55, e69_58, e69_59, e69_61, e69_63, e69_64, e69_65, e69_66, e69_69, e69_71, e69_72, e69_73, e69_74, e69_76, e69_77, e69_80, e69_83, e69_86, ↓reduceIte, ↓gi0, ↓gr0, ↓gl0, ↓gi1, ↓gr1, ↓gl1, ↓gi2, ↓gr2, ↓gl2, ↓gi3, ↓gr3, ↓gl3, ↓gi4, ↓gr4, ↓gl4, ↓gi5, ↓gr5, ↓gl5, ↓gi6, ↓gr6, ↓gl6, ↓gi7, ↓gr7, ↓gl7, ↓gi8, ↓gr8, ↓gl8, ↓gi9, ↓gr9, ↓gl9, ↓qI, ↓qI2, ↓qL, ↓qL2, ↓qR, ↓qV, ↓pd0, ↓ta0, ↓ts0, ↓pd1, ↓ta1, ↓ts1, ↓pd2, ↓ta2, ↓ts2, ↓pd3, ↓ta3, ↓ts3, ↓pd4, ↓ta4, ↓ts4, ↓pd5, ↓ta5, ↓ts5, ↓pd6, ↓ta6, ↓ts6, lGet, lSet, okS, isLg, Bool.not_false, Bool.not_true, Bool.false_eq_true, not_false_eq_true, not_true_eq_false, catS, okR1, okR20, okR21, okR2b, List.length_cons, List.length_nil, List.drop_succ_cons, List.drop_zero, List.drop_nil, and_self, true_and, and_true, false_and, and_false, Nat.reduceAdd, Nat.reduceLeDiff, Nat.zero_add, Nat.le_refl, Nat.zero_le, pushR, reduceCtorEq, or_self, or_false, false_or, true_or, or_true, ltT, ltF, leT, leF, eqF, eqT, lt0F, ge0T, le0T, le0F, eq0T, eq0F, gt0T, gt0F, nI_add, nI_1, pk_mul, subT, sub1, divT, remN, natRem, n2, n3, n4, n5, n6, n7, n8, n9, n10, n12, n16, n22, n23, n24, n40, n48, n57, n60, n97, n99, n100, n119, n120, n238, n357, n999, n9999, n2231, Int32.add_zero, bI_t, bI_f, one_ne, K527, ↓G527_0, ↓U527_0, ↓G527_1, ↓U527_1, ↓G527_2, ↓G527_3, ↓G527_4, m1, m2, m3, ↓bnd a1, ↓bnd b1]
    rfl
  · intro q z hq ⟨c1, c2, c3, c4⟩
    have hhq : z.1 530 q = nI (sm (fun k => W (a + k)) b q) := (c2 _ _ (by omega)).trans (b2 q hq)
    have hLo : Holds z 528 (lw W a) := fun i hi => (c2 _ _ (by omega)).trans (hLo2 i hi)
    have hsb : sm (fun k => W (a + k)) b q ≤ b * 999 := sm_bd (fun j hj => (hw (a + j) (by omega)).2)
    have hbb : b * 999 ≤ 8 * 999 := Nat.mul_le_mul_right _ hb
    have shq := shlT q (by omega) a (by omega)
    have hpt : ∀ l, l < 2 ^ a → sm W n (q * 2 ^ a + l) = sm W a l + sm (fun k => W (a + k)) b q := fun l hl => by rw [hab]; exact sm_two hl
    have eS : sumN (fun x => nB (decide (sm W n x = days))) ((q + 1) * 2 ^ a) = sumN (fun x => nB (decide (sm W n x = days))) (q * 2 ^ a) + sumN (fun l => nB (decide (sm W a l + sm (fun k => W (a + k)) b q = days))) (2 ^ a) := by
      rw [Nat.succ_mul, sumN_add]
      exact add2 rfl (sumN_eq (fun l hl => by show nB (decide (sm W n (q * 2 ^ a + l) = days)) = _; rw [hpt l hl]))
    have eL : lsF (fun x => decide (sm W n x = days)) ((q + 1) * 2 ^ a) 0 = orO (lsF (fun x => decide (sm W n x = days)) (q * 2 ^ a) 0) ((lsF (fun l => decide (sm W a l + sm (fun k => W (a + k)) b q = days)) (2 ^ a) 0).map (q * 2 ^ a + ·)) := by
      rw [Nat.succ_mul, lsF_app, Nat.zero_add]
      have := lsF_sh (P := fun x => decide (sm W n x = days)) (q * 2 ^ a) (2 ^ a) 0
      rw [Nat.add_zero] at this
      rw [this]
      show orO _ _ = _
      rw [lsF_cg (Q := fun l => decide (sm W a l + sm (fun k => W (a + k)) b q = days)) (2 ^ a) 0 (fun l _ hl => by show decide (sm W n (q * 2 ^ a + l) = days) = _; rw [hpt l (by omega)])]
    have hle : sumN (fun x => nB (decide (sm W n x = days))) (q * 2 ^ a) ≤ q * 2 ^ a * 1 := sumN_lt (fun i hi => by unfold nB; split <;> omega)
    have hq2 : q * 2 ^ a ≤ 65536 := Nat.le_trans (Nat.mul_le_mul (show q ≤ 256 by omega) hA) (by decide)
    have hls : ∀ x, lsF (fun x => decide (sm W n x = days)) (q * 2 ^ a) 0 = some x → x < 65536 := fun x hx => by
      have := lsF_lt _ _ hx
      omega
    rw [eS, eL]
    generalize lsF (fun x => decide (sm W n x = days)) (q * 2 ^ a) 0 = o at *
    generalize sumN (fun x => nB (decide (sm W n x = days))) (q * 2 ^ a) = h at *
    by_cases g : sm (fun k => W (a + k)) b q ≤ days
    · have eP : ∀ l, (sm W a l + sm (fun k => W (a + k)) b q = days) = (sm W a l = days - sm (fun k => W (a + k)) b q) := fun l => propext ⟨fun z => by omega, fun z => by omega⟩
      simp only [eP]
      generalize sm (fun k => W (a + k)) b q = v at *
      obtain ⟨z', d1, d2, d3, d4, d5⟩ := c_match d (scr := scr) (s := z) (W := W) (q := q) (r := days - v) (a := a) (h := h) (o := o) ha (by omega) (by omega) (fun j hj => (hw j (by omega)).2) hLo c3 (by omega) c4 hls
      refine ⟨z', ⟨c1.tr ⟨d4, fun a k x => d5 _ _ (by omega)⟩, fun a k x => (d5 a k x).trans (c2 a k x), d2, d3⟩, ?_⟩
      rw [e69_49]
      simp (disch := omega) only [e69_0, e69_1, e69_3, e69_6, e69_8, e69_9, e69_11, e69_12, e69_14, e69_17, e69_19, e69_20, e69_21, e69_23, e69_26, e69_27, e69_28, e69_30, e69_32, e69_35, e69_36, e69_37, e69_40, e69_41, e69_43, e69_46, e69_47, e69_51, e69_52, e69_54, e69_55, e69_58, e69_59, e69_61, e69_63, e69_64, e69_65, e69_66, e69_69, e69_71, e69_72, e69_73, e69_74, e69_76, e69_77, e69_80, e69_83, e69_86, ↓reduceIte, ↓gi0, ↓gr0, ↓gl0, ↓gi1, ↓gr1, ↓gl1, ↓gi2, ↓gr2, ↓gl2, ↓gi3, ↓gr3, ↓gl3, ↓gi4, ↓gr4, ↓gl4, ↓gi5, ↓gr5, ↓gl5, ↓gi6, ↓gr6, ↓gl6, ↓gi7, ↓gr7, ↓gl7, ↓gi8, ↓gr8, ↓gl8, ↓gi9, ↓gr9, ↓gl9, ↓qI, ↓qI2, ↓qL, ↓qL2, ↓qR, ↓qV, ↓pd0, ↓ta0, ↓ts0, ↓pd1, ↓ta1, ↓ts1, ↓pd2, ↓ta2, ↓ts2, ↓pd3, ↓ta3, ↓ts3, ↓pd4, ↓ta4, ↓ts4, ↓pd5, ↓ta5, ↓ts5, ↓pd6, ↓ta6, ↓ts6, lGet, lSet, okS, isLg, Bool.not_false, Bool.not_true, Bool.false_eq_true, not_false_eq_true, not_true_eq_false, catS, okR1, okR20, okR21, okR2b, List.length_cons, List.length_nil, List.drop_succ_cons, List.drop_zero, List.drop_nil, and_self, true_and, and_true, false_and, and_false, Nat.reduceAdd, Nat.reduceLeDiff, Nat.zero_add, Nat.le_refl, Nat.zero_le, pushR, reduceCtorEq, or_self, or_false, false_or, true_or, or_true, ltT, ltF, leT, leF, eqF, eqT, lt0F, ge0T, le0T, le0F, eq0T, eq0F, gt0T, gt0F, nI_add, nI_1, pk_mul, subT, sub1, divT, remN, natRem, n2, n3, n4, n5, n6, n7, n8, n9, n10, n12, n16, n22, n23, n24, n40, n48, n57, n60, n97, n99, n100, n119, n120, n238, n357, n999, n9999, n2231, Int32.add_zero, bI_t, bI_f, one_ne, K527, ↓G527_0, ↓U527_0, ↓G527_1, ↓U527_1, ↓G527_2, ↓G527_3, ↓G527_4, ↓I530, ↓S530, sha, shb, shq, hhq, ↓bnd d1]
    · have eP : ∀ l, (sm W a l + sm (fun k => W (a + k)) b q = days) = False := fun l => eq_false (fun z => by omega)
      simp only [eP, decide_false]
      have e0 : sumN (fun _ => nB false) (2 ^ a) = 0 := sumN_0 (fun _ _ => rfl)
      have e1 : lsF (fun _ => false) (2 ^ a) 0 = none := lsF_no _ _ (fun _ _ _ => rfl)
      rw [e0, e1, Nat.add_zero]
      generalize sm (fun k => W (a + k)) b q = v at *
      have hneg : nI days - nI v < 0 := pk_sneg (by omega) (by omega)
      have d1 := c_matchN d (scr := scr) (s := z) (y := nI (q * 2 ^ a)) (z := nI (2 ^ a)) hneg
      refine ⟨z, ⟨c1, c2, c3, by rw [c4]; cases o <;> rfl⟩, ?_⟩
      rw [e69_49]
      simp (disch := omega) only [e69_0, e69_1, e69_3, e69_6, e69_8, e69_9, e69_11, e69_12, e69_14, e69_17, e69_19, e69_20, e69_21, e69_23, e69_26, e69_27, e69_28, e69_30, e69_32, e69_35, e69_36, e69_37, e69_40, e69_41, e69_43, e69_46, e69_47, e69_51, e69_52, e69_54, e69_55, e69_58, e69_59, e69_61, e69_63, e69_64, e69_65, e69_66, e69_69, e69_71, e69_72, e69_73, e69_74, e69_76, e69_77, e69_80, e69_83, e69_86, ↓reduceIte, ↓gi0, ↓gr0, ↓gl0, ↓gi1, ↓gr1, ↓gl1, ↓gi2, ↓gr2, ↓gl2, ↓gi3, ↓gr3, ↓gl3, ↓gi4, ↓gr4, ↓gl4, ↓gi5, ↓gr5, ↓gl5, ↓gi6, ↓gr6, ↓gl6, ↓gi7, ↓gr7, ↓gl7, ↓gi8, ↓gr8, ↓gl8, ↓gi9, ↓gr9, ↓gl9, ↓qI, ↓qI2, ↓qL, ↓qL2, ↓qR, ↓qV, ↓pd0, ↓ta0, ↓ts0, ↓pd1, ↓ta1, ↓ts1, ↓pd2, ↓ta2, ↓ts2, ↓pd3, ↓ta3, ↓ts3, ↓pd4, ↓ta4, ↓ts4, ↓pd5, ↓ta5, ↓ts5, ↓pd6, ↓ta6, ↓ts6, lGet, lSet, okS, isLg, Bool.not_false, Bool.not_true, Bool.false_eq_true, not_false_eq_true, not_true_eq_false, catS, okR1, okR20, okR21, okR2b, List.length_cons, List.length_nil, List.drop_succ_cons, List.drop_zero, List.drop_nil, and_self, true_and, and_true, false_and, and_false, Nat.reduceAdd, Nat.reduceLeDiff, Nat.zero_add, Nat.le_refl, Nat.zero_le, pushR, reduceCtorEq, or_self, or_false, false_or, true_or, or_true, ltT, ltF, leT, leF, eqF, eqT, lt0F, ge0T, le0T, le0F, eq0T, eq0F, gt0T, gt0F, nI_add, nI_1, pk_mul, subT, sub1, divT, remN, natRem, n2, n3, n4, n5, n6, n7, n8, n9, n10, n12, n16, n22, n23, n24, n40, n48, n57, n60, n97, n99, n100, n119, n120, n238, n357, n999, n9999, n2231, Int32.add_zero, bI_t, bI_f, one_ne, K527, ↓G527_0, ↓U527_0, ↓G527_1, ↓U527_1, ↓G527_2, ↓G527_3, ↓G527_4, ↓I530, ↓S530, sha, shb, shq, hhq, ↓bnd d1]
  · intro z ⟨c1, c2, c3, c4⟩
    rw [← hpw] at c3 c4
    refine ⟨z, ?_, c3, c4, c1⟩
    rw [e69_49]
    simp (disch := omega) only [e69_0, e69_1, e69_3, e69_6, e69_8, e69_9, e69_11, e69_12, e69_14, e69_17, e69_19, e69_20, e69_21, e69_23, e69_26, e69_27, e69_28, e69_30, e69_32, e69_35, e69_36, e69_37, e69_40, e69_41, e69_43, e69_46, e69_47, e69_51, e69_52, e69_54, e69_55, e69_58, e69_59, e69_61, e69_63, e69_64, e69_65, e69_66, e69_69, e69_71, e69_72, e69_73, e69_74, e69_76, e69_77, e69_80, e69_83, e69_86, ↓reduceIte, ↓gi0, ↓gr0, ↓gl0, ↓gi1, ↓gr1, ↓gl1, ↓gi2, ↓gr2, ↓gl2, ↓gi3, ↓gr3, ↓gl3, ↓gi4, ↓gr4, ↓gl4, ↓gi5, ↓gr5, ↓gl5, ↓gi6, ↓gr6, ↓gl6, ↓gi7, ↓gr7, ↓gl7, ↓gi8, ↓gr8, ↓gl8, ↓gi9, ↓gr9, ↓gl9, ↓qI, ↓qI2, ↓qL, ↓qL2, ↓qR, ↓qV, ↓pd0, ↓ta0, ↓ts0, ↓pd1, ↓ta1, ↓ts1, ↓pd2, ↓ta2, ↓ts2, ↓pd3, ↓ta3, ↓ts3, ↓pd4, ↓ta4, ↓ts4, ↓pd5, ↓ta5, ↓ts5, ↓pd6, ↓ta6, ↓ts6, lGet, lSet, okS, isLg, Bool.not_false, Bool.not_true, Bool.false_eq_true, not_false_eq_true, not_true_eq_false, catS, okR1, okR20, okR21, okR2b, List.length_cons, List.length_nil, List.drop_succ_cons, List.drop_zero, List.drop_nil, and_self, true_and, and_true, false_and, and_false, Nat.reduceAdd, Nat.reduceLeDiff, Nat.zero_add, Nat.le_refl, Nat.zero_le, pushR, reduceCtorEq, or_self, or_false, false_or, true_or, or_true, ltT, ltF, leT, leF, eqF, eqT, lt0F, ge0T, le0T, le0F, eq0T, eq0F, gt0T, gt0F, nI_add, nI_1, pk_mul, subT, sub1, divT, remN, natRem, n2, n3, n4, n5, n6, n7, n8, n9, n10, n12, n16, n22, n23, n24, n40, n48, n57, n60, n97, n99, n100, n119, n120, n238, n357, n999, n9999, n2231, Int32.add_zero, bI_t, bI_f, one_ne, K527, ↓G527_0, ↓U527_0, ↓G527_1, ↓U527_1, ↓G527_2, ↓G527_3, ↓G527_4, shb]
end CSET3
