/-! ===== the reference: spending, deeds, the end of a month, a month ===== -/
theorem is4 : ∀ k, k < 6 → isOfB k 4 = decide (4 ≤ k) := by decide
theorem is3 : ∀ k, k < 6 → isOfB k 3 = decide (k = 3) := by decide
theorem is2 : ∀ k, k < 6 → isOfB k 2 = decide (k = 2) := by decide
theorem is5 : ∀ k, k < 6 → isOfB k 5 = decide (k = 5) := by decide
theorem u2_self {s : ST} {a k : Nat} {x : Int32} (h : s.1 a k = x) : u2 s a k x = s := by
  refine Prod.ext ?_ rfl
  funext a' k'
  show (if a' = a ∧ k' = k then x else s.1 a' k') = s.1 a' k'
  split
  · rename_i hc
    rw [hc.1, hc.2, h]
  · rfl
theorem i1a (a : Nat) : (1 : Int32) + nI a = nI (1 + a) := nI_add 1 a
/-! how much is left behind spending -/
theorem sum_set_d {l : LT} {i x m : Nat} (hi : i < l.length) : sumD (l.set i (x, m)) + lt_d l i = sumD l + x := by
  induction l generalizing i with
  | nil => simp at hi
  | cons q l ih =>
    cases i with
    | zero =>
      show sumD ((x, m) :: l) + q.1 = sumD (q :: l) + x
      unfold sumD
      simp only [List.map_cons, List.sum_cons]
      omega
    | succ i =>
      have h := ih (i := i) (by simpa using hi)
      show sumD (q :: l.set i (x, m)) + lt_d l i = sumD (q :: l) + x
      unfold sumD at *
      simp only [List.map_cons, List.sum_cons]
      omega
theorem spIt_bal {last : Bool} {L n : Nat} {l : LT} (hL : L = l.length) : ∀ k, k ≤ L → sumD (spIt last L (l, n) k).1 + n = sumD l + (spIt last L (l, n) k).2
  | 0, _ => rfl
  | k + 1, hk => by
    have ih := spIt_bal (last := last) (n := n) hL k (by omega)
    have hlen := spIt_len (last := last) (L := L) (q := (l, n)) k
    show sumD ((spIt last L (l, n) k).1.set (spI last L k) (lt_d (spIt last L (l, n) k).1 (spI last L k) - min (spIt last L (l, n) k).2 (lt_d (spIt last L (l, n) k).1 (spI last L k)), _)) + n = sumD l + ((spIt last L (l, n) k).2 - min (spIt last L (l, n) k).2 (lt_d (spIt last L (l, n) k).1 (spI last L k)))
    have hi : spI last L k < (spIt last L (l, n) k).1.length := by
      rw [hlen]
      show spI last L k < l.length
      unfold spI
      split <;> omega
    have h2 := sum_set_d (x := lt_d (spIt last L (l, n) k).1 (spI last L k) - min (spIt last L (l, n) k).2 (lt_d (spIt last L (l, n) k).1 (spI last L k))) (m := lt_m (spIt last L (l, n) k).1 (spI last L k)) hi
    omega
theorem spIt_emp {last : Bool} {L n : Nat} {l : LT} (hL : L = l.length) : ∀ k, k ≤ L → 0 < (spIt last L (l, n) k).2 → ∀ j, j < k → lt_d (spIt last L (l, n) k).1 (spI last L j) = 0
  | 0, _, _, j, hj => absurd hj (by omega)
  | k + 1, hk, hp, j, hj => by
    have hp' : 0 < (spIt last L (l, n) k).2 - min (spIt last L (l, n) k).2 (lt_d (spIt last L (l, n) k).1 (spI last L k)) := hp
    have hlen := spIt_len (last := last) (L := L) (q := (l, n)) k
    have hi : spI last L k < (spIt last L (l, n) k).1.length := by
      rw [hlen]
      show spI last L k < l.length
      unfold spI
      split <;> omega
    show lt_d ((spIt last L (l, n) k).1.set (spI last L k) (lt_d (spIt last L (l, n) k).1 (spI last L k) - min (spIt last L (l, n) k).2 (lt_d (spIt last L (l, n) k).1 (spI last L k)), _)) (spI last L j) = 0
    rw [lt_set_d]
    split
    · omega
    · rename_i hne
      have hjk : j ≠ k := fun e => hne ⟨by rw [e], hi⟩
      exact spIt_emp (last := last) (n := n) hL k (by omega) (by omega) j (by omega)
theorem sumN_0 {f : Nat → Nat} : ∀ {n : Nat}, (∀ i, i < n → f i = 0) → sumN f n = 0
  | 0, _ => rfl
  | n + 1, h => by
    show sumN f n + f n = 0
    rw [sumN_0 (fun i hi => h i (by omega)), h n (by omega)]
theorem spIt_end {last : Bool} {n : Nat} {l : LT} : (spIt last l.length (l, n) l.length).2 = 0 ∨ sumD (spIt last l.length (l, n) l.length).1 = 0 := by
  by_cases h : 0 < (spIt last l.length (l, n) l.length).2
  · right
    rw [sumD_eq, spIt_len]
    refine sumN_0 (fun i hi => ?_)
    have hi : i < l.length := hi
    have h2 := spIt_emp (last := last) rfl l.length (Nat.le_refl _) h
    cases hl : last with
    | false =>
      have := h2 i hi
      rw [hl] at this
      exact this
    | true =>
      have := h2 (l.length - 1 - i) (by omega)
      rw [hl] at this
      have e : spI true l.length (l.length - 1 - i) = i := by unfold spI; simp only [if_true]; omega
      rw [e] at this
      exact this
  · left; omega
theorem spend_left (b : Bool) (n : Nat) (l : LT) : (spend b n l).2 = n - sumD l := by
  have h1 := spIt_bal (last := b) (n := n) (l := l) rfl l.length (Nat.le_refl _)
  have h2 := spIt_end (last := b) (n := n) (l := l)
  show (spIt b l.length (l, n) l.length).2 = n - sumD l
  omega
theorem keep_0 {l : LT} (h : sumD l = 0) : keepL l = [] := by
  unfold keepL
  rw [List.filter_eq_nil_iff]
  intro q hq
  obtain ⟨i, hi, rfl⟩ := mem_lt hq
  have := one_le_sum hi
  simp
  omega
theorem spend_all {b : Bool} {n : Nat} {l : LT} (h : sumD l ≤ n) : (spend b n l).1 = [] := by
  have h1 := spIt_bal (last := b) (n := n) (l := l) rfl l.length (Nat.le_refl _)
  have h2 := spend_left b n l
  have h3 : (spIt b l.length (l, n) l.length).2 = n - sumD l := h2
  exact keep_0 (by omega)
theorem spend_min (b : Bool) (n : Nat) (l : LT) : (spend b (min n (sumD l)) l).1 = (spend b n l).1 := by
  by_cases h : n ≤ sumD l
  · rw [Nat.min_eq_left h]
  · rw [Nat.min_eq_right (by omega), spend_all (Nat.le_refl _), spend_all (by omega)]
theorem ML_set {s : ST} {A o : Nat} {l : LT} {i x : Nat} (h : ML s A o l) (hi : i < l.length) : ML (u2 s A (o + 4 + 2 * i) (nI x)) A o (l.set i (x, lt_m l i)) := by
  obtain ⟨h3, h6, hl⟩ := h
  refine ⟨by rw [u2_oth _ _ (by omega), List.length_set, h3], by rw [List.length_set]; exact h6, fun j hj => ?_⟩
  rw [List.length_set] at hj
  rw [lt_set_d, lt_set_m, u2_oth _ _ (show ¬ (A = A ∧ o + 4 + 2 * j + 1 = o + 4 + 2 * i) by omega)]
  by_cases hji : j = i
  · subst hji
    rw [if_pos ⟨rfl, hi⟩, if_pos ⟨rfl, hi⟩, u2_same]
    exact ⟨rfl, (hl j hi).2⟩
  · rw [if_neg (fun z => hji z.1), if_neg (fun z => hji z.1), u2_oth _ _ (by omega)]
    exact hl j hj
section MM2
variable {scr : Nat × (Nat → Int32)} {s : ST}
theorem m_spend (d : Nat) {b p kd n : Nat} {l : LT} (hp : p < 6) (hk : s.1 615 (4 + 3 * p) = nI kd) (hk6 : kd < 6) (hm : ML s 615 (b + 23 + 16 * p) l) (hb : b + 23 + 16 * p + 16 ≤ 476) (hd : ∀ i, i < l.length → lt_d l i < 2 ^ 30) (hn : n < 2 ^ 30) : ∃ s', EvM (d + 3) 157 [.ref 614, .int (nI b), .int (nI p), .int (nI n)] (mkH scr s) = some (0, mkH scr s') ∧ ML s' 615 (b + 23 + 16 * p) (spend (isOfB kd 4) n l).1 ∧ FrA s s' 615 (b + 23 + 16 * p + 3) (b + 23 + 16 * p + 16) := by
  have hat := m_at (h := mkH scr s) (d + 1) b p
  have hcl := fun (s1 : ST) (l1 : LT) => m_closeUp d (scr := scr) (s := s1) (b := b) (p := p) (l := l1)
  have ho4 : 4 + 3 * p < b + 23 + 16 * p := by omega
  generalize ho : b + 23 + 16 * p = o at *
  have h6 := hm.2.1
  have h3 := hm.1
  generalize hlast : isOfB kd 4 = last
  have h4 := is4 kd hk6
  rw [hlast] at h4
  have h := forUp (X := ST × Value × Value) l.length (fun k y => EvI (EvM (d + 2)) C157 0 24 [.ref 614, .int (nI b), .int (nI p), .int (nI n), .int (nI o), .int (nI l.length), .int (nI (spIt last l.length (l, n) k).2), .int (nI k), y.2.1, y.2.2] [] (mkH scr y.1))
    (fun k y => ML y.1 615 o (spIt last l.length (l, n) k).1 ∧ FrA s y.1 615 (o + 3) (o + 16))
    (fun r => ∃ s', r = some (0, mkH scr s') ∧ ML s' 615 o (spend last n l).1 ∧ FrA s s' 615 (o + 3) (o + 16)) ?_ ?_ (x := (s, jk, jk)) ⟨hm, FrA.rf s 615 _ _⟩
  · obtain ⟨s', e1, e2⟩ := h
    refine ⟨s', ?_, e2⟩
    rw [ev157, e157_0]
    simp (disch := omega) only [e157_0, e157_1, e157_2, e157_5, e157_7, e157_8, e157_11, e157_13, e157_14, e157_15, e157_16, e157_18, e157_19, e157_21, e157_22, e157_26, e157_28, e157_31, e157_33, e157_34, e157_35, e157_36, e157_37, e157_38, e157_41, e157_42, e157_45, e157_47, e157_48, e157_49, e157_51, e157_52, e157_55, e157_57, e157_58, e157_59, e157_61, e157_62, e157_65, e157_67, e157_68, e157_70, e157_73, e157_74, e157_77, e157_79, e157_80, e157_83, e157_85, e157_87, e157_88, e157_91, e157_93, e157_94, e157_95, e157_97, e157_98, e157_99, e157_101, e157_103, e157_104, e157_106, e157_109, e157_112, e157_113, e157_114, e157_115, e157_118, ↓reduceIte, ↓gi0, ↓gr0, ↓gl0, ↓gi1, ↓gr1, ↓gl1, ↓gi2, ↓gr2, ↓gl2, ↓gi3, ↓gr3, ↓gl3, ↓gi4, ↓gr4, ↓gl4, ↓gi5, ↓gr5, ↓gl5, ↓gi6, ↓gr6, ↓gl6, ↓gi7, ↓gr7, ↓gl7, ↓gi8, ↓gr8, ↓gl8, ↓gi9, ↓gr9, ↓gl9, ↓qI, ↓qI2, ↓qL, ↓qL2, ↓qR, ↓qV, ↓pd0, ↓ta0, ↓ts0, ↓pd1, ↓ta1, ↓ts1, ↓pd2, ↓ta2, ↓ts2, ↓pd3, ↓ta3, ↓ts3, ↓pd4, ↓ta4, ↓ts4, ↓pd5, ↓ta5, ↓ts5, ↓pd6, ↓ta6, ↓ts6, lGet, lSet, okS, isLg, Bool.not_false, Bool.not_true, Bool.false_eq_true, not_false_eq_true, not_true_eq_false, catS, okR1, okR20, okR21, okR2b, List.length_cons, List.length_nil, List.drop_succ_cons, List.drop_zero, List.drop_nil, and_self, true_and, and_true, false_and, and_false, Nat.reduceAdd, Nat.reduceLeDiff, Nat.zero_add, Nat.le_refl, Nat.zero_le, pushR, reduceCtorEq, or_self, or_false, false_or, true_or, or_true, ltT, ltF, leT, leF, eqF, eqT, lt0F, ge0T, le0T, le0F, eq0T, eq0F, gt0T, gt0F, nI_add, nI_1, pk_mul, subT, sub1, divT, remN, natRem, n2, n3, n4, n5, n6, n7, n8, n9, n10, n12, n16, n22, n23, n24, n40, n48, n57, n60, n97, n99, n100, n119, n120, n238, n357, n999, n9999, n2231, Int32.add_zero, K614, ↓G614_0, ↓G614_1, ↓G614_2, ↓U614_2, ↓G614_3, ↓G614_4, ↓U614_4, ↓G614_5, ↓U614_5, ↓G614_6, ↓U614_6, ↓G614_7, ↓G614_8, ↓G614_9, ↓G614_10, ↓G614_11, ↓U614_11, ↓G614_12, ↓U614_12, ↓G614_13, ↓U614_13, ↓G614_14, ↓U614_14, ↓G614_15, ↓G614_16, ↓U614_16, ↓G614_18, ↓U614_18, ↓G614_19, ↓I615, ↓S615, ↓bnd hat, h3]
    exact e1
  · intro k y hk1 ⟨hM, hF⟩
    obtain ⟨s1, x8, x9⟩ := y
    simp only at hM hF ⊢
    have hlt := spIt_lt (last := last) (L := l.length) (q := (l, n)) (B := 2 ^ 30) hd k
    have hle := spIt_le (last := last) (L := l.length) (q := (l, n)) k
    have hlen := spIt_len (last := last) (L := l.length) (q := (l, n)) k
    have hst : spIt last l.length (l, n) (k + 1) = spStep (spI last l.length k) (spIt last l.length (l, n) k) := rfl
    rw [hst]
    generalize spIt last l.length (l, n) k = q at *
    obtain ⟨lq, left⟩ := q
    simp only at hM hlt hle hlen ⊢
    have hkd := m_kindOf (d + 1) (scr := scr) (s := s1) hp ((hF.2 615 (4 + 3 * p) (by omega)).trans hk)
    have hix : spI last l.length k < lq.length := by rw [hlen]; unfold spI; split <;> omega
    have hdi := (hM.2.2 _ hix).1
    have hdb := hlt _ (by rw [← hlen]; exact hix)
    have hset := ML_set (x := lt_d lq (spI last l.length k) - min left (lt_d lq (spI last l.length k))) hM hix
    unfold spStep
    simp only
    refine ⟨(u2 s1 615 (o + 4 + 2 * spI last l.length k) (nI (lt_d lq (spI last l.length k) - min left (lt_d lq (spI last l.length k)))), .int (nI (o + 4 + 2 * spI last l.length k)), .int (nI (min left (lt_d lq (spI last l.length k))))), ⟨hset, hF.tr (FrA.u (by omega) (by omega))⟩, ?_⟩
    simp only
    rw [e157_24]
    have hmin : min left (lt_d lq (spI last l.length k)) ≤ left := Nat.min_le_left _ _
    have hmin2 : min left (lt_d lq (spI last l.length k)) ≤ lt_d lq (spI last l.length k) := Nat.min_le_right _ _
    by_cases h5 : 4 ≤ kd
    · have hl : last = true := by rw [h4]; exact decide_eq_true h5
      subst hl
      have hsp : spI true l.length k = l.length - 1 - k := rfl
      rw [hsp] at hdi hdb hmin hmin2 ⊢
      by_cases hc : left ≤ lt_d lq (l.length - 1 - k)
      · have hmn : min left (lt_d lq (l.length - 1 - k)) = left := Nat.min_eq_left hc
        simp (disch := omega) only [e157_0, e157_1, e157_2, e157_5, e157_7, e157_8, e157_11, e157_13, e157_14, e157_15, e157_16, e157_18, e157_19, e157_21, e157_22, e157_26, e157_28, e157_31, e157_33, e157_34, e157_35, e157_36, e157_37, e157_38, e157_41, e157_42, e157_45, e157_47, e157_48, e157_49, e157_51, e157_52, e157_55, e157_57, e157_58, e157_59, e157_61, e157_62, e157_65, e157_67, e157_68, e157_70, e157_73, e157_74, e157_77, e157_79, e157_80, e157_83, e157_85, e157_87, e157_88, e157_91, e157_93, e157_94, e157_95, e157_97, e157_98, e157_99, e157_101, e157_103, e157_104, e157_106, e157_109, e157_112, e157_113, e157_114, e157_115, e157_118, ↓reduceIte, ↓gi0, ↓gr0, ↓gl0, ↓gi1, ↓gr1, ↓gl1, ↓gi2, ↓gr2, ↓gl2, ↓gi3, ↓gr3, ↓gl3, ↓gi4, ↓gr4, ↓gl4, ↓gi5, ↓gr5, ↓gl5, ↓gi6, ↓gr6, ↓gl6, ↓gi7, ↓gr7, ↓gl7, ↓gi8, ↓gr8, ↓gl8, ↓gi9, ↓gr9, ↓gl9, ↓qI, ↓qI2, ↓qL, ↓qL2, ↓qR, ↓qV, ↓pd0, ↓ta0, ↓ts0, ↓pd1, ↓ta1, ↓ts1, ↓pd2, ↓ta2, ↓ts2, ↓pd3, ↓ta3, ↓ts3, ↓pd4, ↓ta4, ↓ts4, ↓pd5, ↓ta5, ↓ts5, ↓pd6, ↓ta6, ↓ts6, lGet, lSet, okS, isLg, Bool.not_false, Bool.not_true, Bool.false_eq_true, not_false_eq_true, not_true_eq_false, catS, okR1, okR20, okR21, okR2b, List.length_cons, List.length_nil, List.drop_succ_cons, List.drop_zero, List.drop_nil, and_self, true_and, and_true, false_and, and_false, Nat.reduceAdd, Nat.reduceLeDiff, Nat.zero_add, Nat.le_refl, Nat.zero_le, pushR, reduceCtorEq, or_self, or_false, false_or, true_or, or_true, ltT, ltF, leT, leF, eqF, eqT, lt0F, ge0T, le0T, le0F, eq0T, eq0F, gt0T, gt0F, nI_add, nI_1, pk_mul, subT, sub1, divT, remN, natRem, n2, n3, n4, n5, n6, n7, n8, n9, n10, n12, n16, n22, n23, n24, n40, n48, n57, n60, n97, n99, n100, n119, n120, n238, n357, n999, n9999, n2231, Int32.add_zero, K614, ↓G614_0, ↓G614_1, ↓G614_2, ↓U614_2, ↓G614_3, ↓G614_4, ↓U614_4, ↓G614_5, ↓U614_5, ↓G614_6, ↓U614_6, ↓G614_7, ↓G614_8, ↓G614_9, ↓G614_10, ↓G614_11, ↓U614_11, ↓G614_12, ↓U614_12, ↓G614_13, ↓U614_13, ↓G614_14, ↓U614_14, ↓G614_15, ↓G614_16, ↓U614_16, ↓G614_18, ↓U614_18, ↓G614_19, ↓I615, ↓S615, ↓bnd hkd, hdi, hmn]
      · have hmn : min left (lt_d lq (l.length - 1 - k)) = lt_d lq (l.length - 1 - k) := Nat.min_eq_right (by omega)
        simp (disch := omega) only [e157_0, e157_1, e157_2, e157_5, e157_7, e157_8, e157_11, e157_13, e157_14, e157_15, e157_16, e157_18, e157_19, e157_21, e157_22, e157_26, e157_28, e157_31, e157_33, e157_34, e157_35, e157_36, e157_37, e157_38, e157_41, e157_42, e157_45, e157_47, e157_48, e157_49, e157_51, e157_52, e157_55, e157_57, e157_58, e157_59, e157_61, e157_62, e157_65, e157_67, e157_68, e157_70, e157_73, e157_74, e157_77, e157_79, e157_80, e157_83, e157_85, e157_87, e157_88, e157_91, e157_93, e157_94, e157_95, e157_97, e157_98, e157_99, e157_101, e157_103, e157_104, e157_106, e157_109, e157_112, e157_113, e157_114, e157_115, e157_118, ↓reduceIte, ↓gi0, ↓gr0, ↓gl0, ↓gi1, ↓gr1, ↓gl1, ↓gi2, ↓gr2, ↓gl2, ↓gi3, ↓gr3, ↓gl3, ↓gi4, ↓gr4, ↓gl4, ↓gi5, ↓gr5, ↓gl5, ↓gi6, ↓gr6, ↓gl6, ↓gi7, ↓gr7, ↓gl7, ↓gi8, ↓gr8, ↓gl8, ↓gi9, ↓gr9, ↓gl9, ↓qI, ↓qI2, ↓qL, ↓qL2, ↓qR, ↓qV, ↓pd0, ↓ta0, ↓ts0, ↓pd1, ↓ta1, ↓ts1, ↓pd2, ↓ta2, ↓ts2, ↓pd3, ↓ta3, ↓ts3, ↓pd4, ↓ta4, ↓ts4, ↓pd5, ↓ta5, ↓ts5, ↓pd6, ↓ta6, ↓ts6, lGet, lSet, okS, isLg, Bool.not_false, Bool.not_true, Bool.false_eq_true, not_false_eq_true, not_true_eq_false, catS, okR1, okR20, okR21, okR2b, List.length_cons, List.length_nil, List.drop_succ_cons, List.drop_zero, List.drop_nil, and_self, true_and, and_true, false_and, and_false, Nat.reduceAdd, Nat.reduceLeDiff, Nat.zero_add, Nat.le_refl, Nat.zero_le, pushR, reduceCtorEq, or_self, or_false, false_or, true_or, or_true, ltT, ltF, leT, leF, eqF, eqT, lt0F, ge0T, le0T, le0F, eq0T, eq0F, gt0T, gt0F, nI_add, nI_1, pk_mul, subT, sub1, divT, remN, natRem, n2, n3, n4, n5, n6, n7, n8, n9, n10, n12, n16, n22, n23, n24, n40, n48, n57, n60, n97, n99, n100, n119, n120, n238, n357, n999, n9999, n2231, Int32.add_zero, K614, ↓G614_0, ↓G614_1, ↓G614_2, ↓U614_2, ↓G614_3, ↓G614_4, ↓U614_4, ↓G614_5, ↓U614_5, ↓G614_6, ↓U614_6, ↓G614_7, ↓G614_8, ↓G614_9, ↓G614_10, ↓G614_11, ↓U614_11, ↓G614_12, ↓U614_12, ↓G614_13, ↓U614_13, ↓G614_14, ↓U614_14, ↓G614_15, ↓G614_16, ↓U614_16, ↓G614_18, ↓U614_18, ↓G614_19, ↓I615, ↓S615, ↓bnd hkd, hdi, hmn]
    · have hl : last = false := by rw [h4]; exact decide_eq_false h5
      subst hl
      have hsp : spI false l.length k = k := rfl
      rw [hsp] at hdi hdb hmin hmin2 ⊢
      by_cases hc : left ≤ lt_d lq k
      · have hmn : min left (lt_d lq k) = left := Nat.min_eq_left hc
        simp (disch := omega) only [e157_0, e157_1, e157_2, e157_5, e157_7, e157_8, e157_11, e157_13, e157_14, e157_15, e157_16, e157_18, e157_19, e157_21, e157_22, e157_26, e157_28, e157_31, e157_33, e157_34, e157_35, e157_36, e157_37, e157_38, e157_41, e157_42, e157_45, e157_47, e157_48, e157_49, e157_51, e157_52, e157_55, e157_57, e157_58, e157_59, e157_61, e157_62, e157_65, e157_67, e157_68, e157_70, e157_73, e157_74, e157_77, e157_79, e157_80, e157_83, e157_85, e157_87, e157_88, e157_91, e157_93, e157_94, e157_95, e157_97, e157_98, e157_99, e157_101, e157_103, e157_104, e157_106, e157_109, e157_112, e157_113, e157_114, e157_115, e157_118, ↓reduceIte, ↓gi0, ↓gr0, ↓gl0, ↓gi1, ↓gr1, ↓gl1, ↓gi2, ↓gr2, ↓gl2, ↓gi3, ↓gr3, ↓gl3, ↓gi4, ↓gr4, ↓gl4, ↓gi5, ↓gr5, ↓gl5, ↓gi6, ↓gr6, ↓gl6, ↓gi7, ↓gr7, ↓gl7, ↓gi8, ↓gr8, ↓gl8, ↓gi9, ↓gr9, ↓gl9, ↓qI, ↓qI2, ↓qL, ↓qL2, ↓qR, ↓qV, ↓pd0, ↓ta0, ↓ts0, ↓pd1, ↓ta1, ↓ts1, ↓pd2, ↓ta2, ↓ts2, ↓pd3, ↓ta3, ↓ts3, ↓pd4, ↓ta4, ↓ts4, ↓pd5, ↓ta5, ↓ts5, ↓pd6, ↓ta6, ↓ts6, lGet, lSet, okS, isLg, Bool.not_false, Bool.not_true, Bool.false_eq_true, not_false_eq_true, not_true_eq_false, catS, okR1, okR20, okR21, okR2b, List.length_cons, List.length_nil, List.drop_succ_cons, List.drop_zero, List.drop_nil, and_self, true_and, and_true, false_and, and_false, Nat.reduceAdd, Nat.reduceLeDiff, Nat.zero_add, Nat.le_refl, Nat.zero_le, pushR, reduceCtorEq, or_self, or_false, false_or, true_or, or_true, ltT, ltF, leT, leF, eqF, eqT, lt0F, ge0T, le0T, le0F, eq0T, eq0F, gt0T, gt0F, nI_add, nI_1, pk_mul, subT, sub1, divT, remN, natRem, n2, n3, n4, n5, n6, n7, n8, n9, n10, n12, n16, n22, n23, n24, n40, n48, n57, n60, n97, n99, n100, n119, n120, n238, n357, n999, n9999, n2231, Int32.add_zero, K614, ↓G614_0, ↓G614_1, ↓G614_2, ↓U614_2, ↓G614_3, ↓G614_4, ↓U614_4, ↓G614_5, ↓U614_5, ↓G614_6, ↓U614_6, ↓G614_7, ↓G614_8, ↓G614_9, ↓G614_10, ↓G614_11, ↓U614_11, ↓G614_12, ↓U614_12, ↓G614_13, ↓U614_13, ↓G614_14, ↓U614_14, ↓G614_15, ↓G614_16, ↓U614_16, ↓G614_18, ↓U614_18, ↓G614_19, ↓I615, ↓S615, ↓bnd hkd, hdi, hmn]
      · have hmn : min left (lt_d lq k) = lt_d lq k := Nat.min_eq_right (by omega)
        simp (disch := omega) only [e157_0, e157_1, e157_2, e157_5, e157_7, e157_8, e157_11, e157_13, e157_14, e157_15, e157_16, e157_18, e157_19, e157_21, e157_22, e157_26, e157_28, e157_31, e157_33, e157_34, e157_35, e157_36, e157_37, e157_38, e157_41, e157_42, e157_45, e157_47, e157_48, e157_49, e157_51, e157_52, e157_55, e157_57, e157_58, e157_59, e157_61, e157_62, e157_65, e157_67, e157_68, e157_70, e157_73, e157_74, e157_77, e157_79, e157_80, e157_83, e157_85, e157_87, e157_88, e157_91, e157_93, e157_94, e157_95, e157_97, e157_98, e157_99, e157_101, e157_103, e157_104, e157_106, e157_109, e157_112, e157_113, e157_114, e157_115, e157_118, ↓reduceIte, ↓gi0, ↓gr0, ↓gl0, ↓gi1, ↓gr1, ↓gl1, ↓gi2, ↓gr2, ↓gl2, ↓gi3, ↓gr3, ↓gl3, ↓gi4, ↓gr4, ↓gl4, ↓gi5, ↓gr5, ↓gl5, ↓gi6, ↓gr6, ↓gl6, ↓gi7, ↓gr7, ↓gl7, ↓gi8, ↓gr8, ↓gl8, ↓gi9, ↓gr9, ↓gl9, ↓qI, ↓qI2, ↓qL, ↓qL2, ↓qR, ↓qV, ↓pd0, ↓ta0, ↓ts0, ↓pd1, ↓ta1, ↓ts1, ↓pd2, ↓ta2, ↓ts2, ↓pd3, ↓ta3, ↓ts3, ↓pd4, ↓ta4, ↓ts4, ↓pd5, ↓ta5, ↓ts5, ↓pd6, ↓ta6, ↓ts6, lGet, lSet, okS, isLg, Bool.not_false, Bool.not_true, Bool.false_eq_true, not_false_eq_true, not_true_eq_false, catS, okR1, okR20, okR21, okR2b, List.length_cons, List.length_nil, List.drop_succ_cons, List.drop_zero, List.drop_nil, and_self, true_and, and_true, false_and, and_false, Nat.reduceAdd, Nat.reduceLeDiff, Nat.zero_add, Nat.le_refl, Nat.zero_le, pushR, reduceCtorEq, or_self, or_false, false_or, true_or, or_true, ltT, ltF, leT, leF, eqF, eqT, lt0F, ge0T, le0T, le0F, eq0T, eq0F, gt0T, gt0F, nI_add, nI_1, pk_mul, subT, sub1, divT, remN, natRem, n2, n3, n4, n5, n6, n7, n8, n9, n10, n12, n16, n22, n23, n24, n40, n48, n57, n60, n97, n99, n100, n119, n120, n238, n357, n999, n9999, n2231, Int32.add_zero, K614, ↓G614_0, ↓G614_1, ↓G614_2, ↓U614_2, ↓G614_3, ↓G614_4, ↓U614_4, ↓G614_5, ↓U614_5, ↓G614_6, ↓U614_6, ↓G614_7, ↓G614_8, ↓G614_9, ↓G614_10, ↓G614_11, ↓U614_11, ↓G614_12, ↓U614_12, ↓G614_13, ↓U614_13, ↓G614_14, ↓U614_14, ↓G614_15, ↓G614_16, ↓U614_16, ↓G614_18, ↓U614_18, ↓G614_19, ↓I615, ↓S615, ↓bnd hkd, hdi, hmn]
  · intro y ⟨hM, hF⟩
    obtain ⟨s1, x8, x9⟩ := y
    simp only at hM hF ⊢
    have hlt := spIt_lt (last := last) (L := l.length) (q := (l, n)) (B := 2 ^ 30) hd l.length
    obtain ⟨s2, a1, a2, a3⟩ := hcl s1 _ hM hb (fun i hi => by
      rw [spIt_len] at hi
      have := hlt i hi
      omega)
    refine ⟨s2, ?_, a2, hF.tr a3⟩
    rw [e157_24]
    simp (disch := omega) only [e157_0, e157_1, e157_2, e157_5, e157_7, e157_8, e157_11, e157_13, e157_14, e157_15, e157_16, e157_18, e157_19, e157_21, e157_22, e157_26, e157_28, e157_31, e157_33, e157_34, e157_35, e157_36, e157_37, e157_38, e157_41, e157_42, e157_45, e157_47, e157_48, e157_49, e157_51, e157_52, e157_55, e157_57, e157_58, e157_59, e157_61, e157_62, e157_65, e157_67, e157_68, e157_70, e157_73, e157_74, e157_77, e157_79, e157_80, e157_83, e157_85, e157_87, e157_88, e157_91, e157_93, e157_94, e157_95, e157_97, e157_98, e157_99, e157_101, e157_103, e157_104, e157_106, e157_109, e157_112, e157_113, e157_114, e157_115, e157_118, ↓reduceIte, ↓gi0, ↓gr0, ↓gl0, ↓gi1, ↓gr1, ↓gl1, ↓gi2, ↓gr2, ↓gl2, ↓gi3, ↓gr3, ↓gl3, ↓gi4, ↓gr4, ↓gl4, ↓gi5, ↓gr5, ↓gl5, ↓gi6, ↓gr6, ↓gl6, ↓gi7, ↓gr7, ↓gl7, ↓gi8, ↓gr8, ↓gl8, ↓gi9, ↓gr9, ↓gl9, ↓qI, ↓qI2, ↓qL, ↓qL2, ↓qR, ↓qV, ↓pd0, ↓ta0, ↓ts0, ↓pd1, ↓ta1, ↓ts1, ↓pd2, ↓ta2, ↓ts2, ↓pd3, ↓ta3, ↓ts3, ↓pd4, ↓ta4, ↓ts4, ↓pd5, ↓ta5, ↓ts5, ↓pd6, ↓ta6, ↓ts6, lGet, lSet, okS, isLg, Bool.not_false, Bool.not_true, Bool.false_eq_true, not_false_eq_true, not_true_eq_false, catS, okR1, okR20, okR21, okR2b, List.length_cons, List.length_nil, List.drop_succ_cons, List.drop_zero, List.drop_nil, and_self, true_and, and_true, false_and, and_false, Nat.reduceAdd, Nat.reduceLeDiff, Nat.zero_add, Nat.le_refl, Nat.zero_le, pushR, reduceCtorEq, or_self, or_false, false_or, true_or, or_true, ltT, ltF, leT, leF, eqF, eqT, lt0F, ge0T, le0T, le0F, eq0T, eq0F, gt0T, gt0F, nI_add, nI_1, pk_mul, subT, sub1, divT, remN, natRem, n2, n3, n4, n5, n6, n7, n8, n9, n10, n12, n16, n22, n23, n24, n40, n48, n57, n60, n97, n99, n100, n119, n120, n238, n357, n999, n9999, n2231, Int32.add_zero, K614, ↓bnd a1]
theorem m_doDeed (d : Nat) {b p w : Nat} {pt : PT} (hp : p < 6) (hk : s.1 615 (4 + 3 * p) = nI pt.1) (hm : MP s 615 (b + 23 + 16 * p) pt) (hok : pOk pt) (hb : b + 23 + 16 * p + 16 ≤ 476) (hw : w < 2 ^ 20) : ∃ s', EvM (d + 4) 158 [.ref 614, .int (nI b), .int (nI p), .int (nI w)] (mkH scr s) = some (0, mkH scr s') ∧ MP s' 615 (b + 23 + 16 * p) (pCommit w pt) ∧ FrA s s' 615 (b + 23 + 16 * p) (b + 23 + 16 * p + 16) := by
  obtain ⟨k, le, wo, ca, ow, dn, l⟩ := pt
  obtain ⟨m0, m1, m2, mL⟩ := hm
  obtain ⟨k6, o9, hd, -, -⟩ := hok
  simp only at hk m0 m1 m2 mL k6 o9 hd
  have hat := m_at (h := mkH scr s) (d + 2) b p
  have hun := m_unspent (d + 1) (scr := scr) mL hb
  have hsl : sumD l < 2 ^ 23 := sumD_lt mL.2.1 (fun i hi => (hd i hi).1)
  have hmin : min w (sumD l) ≤ w := Nat.min_le_left _ _
  have hmin2 : min w (sumD l) ≤ sumD l := Nat.min_le_right _ _
  obtain ⟨s1, a1, a2, a3⟩ := m_spend d (scr := scr) (n := min w (sumD l)) hp hk k6 mL hb (fun i hi => by have := (hd i hi).1; omega) (by omega)
  rw [spend_min] at a2
  have hleft : (spend (isOfB k 4) w l).2 = w - min w (sumD l) := by rw [spend_left]; omega
  generalize ho : b + 23 + 16 * p = o at *
  have g0 : s1.1 615 o = nI ow := by rw [a3.2 615 o (by omega)]; exact m0
  have g1 : s1.1 615 (o + 1) = ca := by rw [a3.2 615 (o + 1) (by omega)]; exact m1
  have g2 : s1.1 615 (o + 2) = dn := by rw [a3.2 615 (o + 2) (by omega)]; exact m2
  refine ⟨u2 (u2 s1 615 o (nI (min 9999 (ow + (spend (isOfB k 4) w l).2)))) 615 (o + 2) (dn + 1), ?_, ⟨?_, ?_, ?_, ?_⟩, ?_⟩
  · have g2' : ∀ x, (u2 s1 615 o x).1 615 (o + 2) = dn := fun x => by rw [u2_oth _ _ (by omega), g2]
    have e9 : ow + w - min w (sumD l) = ow + (spend (isOfB k 4) w l).2 := by rw [hleft]; omega
    have hlt2 : ow + (spend (isOfB k 4) w l).2 < 2 ^ 30 := by rw [hleft]; omega
    rw [ev158, e158_0]
    by_cases h1 : w < sumD l
    · have hm1 : min w (sumD l) = w := Nat.min_eq_left (by omega)
      rw [hm1] at a1 e9 hleft
      have hz : ow + (spend (isOfB k 4) w l).2 ≤ 9999 := by omega
      have hm9 : min 9999 (ow + (spend (isOfB k 4) w l).2) = ow + (spend (isOfB k 4) w l).2 := Nat.min_eq_right hz
      simp (disch := omega) only [e158_0, e158_1, e158_2, e158_5, e158_7, e158_8, e158_9, e158_10, e158_13, e158_15, e158_16, e158_18, e158_21, e158_22, e158_25, e158_27, e158_29, e158_30, e158_31, e158_32, e158_34, e158_37, e158_38, e158_41, e158_43, e158_44, e158_45, e158_46, e158_47, e158_48, e158_50, e158_51, e158_53, e158_54, e158_57, e158_59, e158_60, e158_61, e158_63, e158_66, e158_69, e158_72, e158_75, e158_77, e158_78, e158_79, e158_82, e158_84, e158_85, e158_86, e158_87, e158_88, e158_89, e158_90, e158_91, ↓reduceIte, ↓gi0, ↓gr0, ↓gl0, ↓gi1, ↓gr1, ↓gl1, ↓gi2, ↓gr2, ↓gl2, ↓gi3, ↓gr3, ↓gl3, ↓gi4, ↓gr4, ↓gl4, ↓gi5, ↓gr5, ↓gl5, ↓gi6, ↓gr6, ↓gl6, ↓gi7, ↓gr7, ↓gl7, ↓gi8, ↓gr8, ↓gl8, ↓gi9, ↓gr9, ↓gl9, ↓qI, ↓qI2, ↓qL, ↓qL2, ↓qR, ↓qV, ↓pd0, ↓ta0, ↓ts0, ↓pd1, ↓ta1, ↓ts1, ↓pd2, ↓ta2, ↓ts2, ↓pd3, ↓ta3, ↓ts3, ↓pd4, ↓ta4, ↓ts4, ↓pd5, ↓ta5, ↓ts5, ↓pd6, ↓ta6, ↓ts6, lGet, lSet, okS, isLg, Bool.not_false, Bool.not_true, Bool.false_eq_true, not_false_eq_true, not_true_eq_false, catS, okR1, okR20, okR21, okR2b, List.length_cons, List.length_nil, List.drop_succ_cons, List.drop_zero, List.drop_nil, and_self, true_and, and_true, false_and, and_false, Nat.reduceAdd, Nat.reduceLeDiff, Nat.zero_add, Nat.le_refl, Nat.zero_le, pushR, reduceCtorEq, or_self, or_false, false_or, true_or, or_true, ltT, ltF, leT, leF, eqF, eqT, lt0F, ge0T, le0T, le0F, eq0T, eq0F, gt0T, gt0F, nI_add, nI_1, pk_mul, subT, sub1, divT, remN, natRem, n2, n3, n4, n5, n6, n7, n8, n9, n10, n12, n16, n22, n23, n24, n40, n48, n57, n60, n97, n99, n100, n119, n120, n238, n357, n999, n9999, n2231, Int32.add_zero, K614, ↓G614_0, ↓G614_1, ↓G614_2, ↓U614_2, ↓G614_3, ↓G614_4, ↓U614_4, ↓G614_5, ↓U614_5, ↓G614_6, ↓U614_6, ↓G614_7, ↓G614_8, ↓G614_9, ↓G614_10, ↓G614_11, ↓U614_11, ↓G614_12, ↓U614_12, ↓G614_13, ↓U614_13, ↓G614_14, ↓U614_14, ↓G614_15, ↓G614_16, ↓U614_16, ↓G614_18, ↓U614_18, ↓G614_19, ↓I615, ↓S615, ↓bnd hat, ↓bnd hun, ↓bnd a1, g0, g2', e9, hm9]
    · have hm1 : min w (sumD l) = sumD l := Nat.min_eq_right (by omega)
      rw [hm1] at a1 e9 hleft
      by_cases hz : ow + (spend (isOfB k 4) w l).2 ≤ 9999
      · have hm9 : min 9999 (ow + (spend (isOfB k 4) w l).2) = ow + (spend (isOfB k 4) w l).2 := Nat.min_eq_right hz
        simp (disch := omega) only [e158_0, e158_1, e158_2, e158_5, e158_7, e158_8, e158_9, e158_10, e158_13, e158_15, e158_16, e158_18, e158_21, e158_22, e158_25, e158_27, e158_29, e158_30, e158_31, e158_32, e158_34, e158_37, e158_38, e158_41, e158_43, e158_44, e158_45, e158_46, e158_47, e158_48, e158_50, e158_51, e158_53, e158_54, e158_57, e158_59, e158_60, e158_61, e158_63, e158_66, e158_69, e158_72, e158_75, e158_77, e158_78, e158_79, e158_82, e158_84, e158_85, e158_86, e158_87, e158_88, e158_89, e158_90, e158_91, ↓reduceIte, ↓gi0, ↓gr0, ↓gl0, ↓gi1, ↓gr1, ↓gl1, ↓gi2, ↓gr2, ↓gl2, ↓gi3, ↓gr3, ↓gl3, ↓gi4, ↓gr4, ↓gl4, ↓gi5, ↓gr5, ↓gl5, ↓gi6, ↓gr6, ↓gl6, ↓gi7, ↓gr7, ↓gl7, ↓gi8, ↓gr8, ↓gl8, ↓gi9, ↓gr9, ↓gl9, ↓qI, ↓qI2, ↓qL, ↓qL2, ↓qR, ↓qV, ↓pd0, ↓ta0, ↓ts0, ↓pd1, ↓ta1, ↓ts1, ↓pd2, ↓ta2, ↓ts2, ↓pd3, ↓ta3, ↓ts3, ↓pd4, ↓ta4, ↓ts4, ↓pd5, ↓ta5, ↓ts5, ↓pd6, ↓ta6, ↓ts6, lGet, lSet, okS, isLg, Bool.not_false, Bool.not_true, Bool.false_eq_true, not_false_eq_true, not_true_eq_false, catS, okR1, okR20, okR21, okR2b, List.length_cons, List.length_nil, List.drop_succ_cons, List.drop_zero, List.drop_nil, and_self, true_and, and_true, false_and, and_false, Nat.reduceAdd, Nat.reduceLeDiff, Nat.zero_add, Nat.le_refl, Nat.zero_le, pushR, reduceCtorEq, or_self, or_false, false_or, true_or, or_true, ltT, ltF, leT, leF, eqF, eqT, lt0F, ge0T, le0T, le0F, eq0T, eq0F, gt0T, gt0F, nI_add, nI_1, pk_mul, subT, sub1, divT, remN, natRem, n2, n3, n4, n5, n6, n7, n8, n9, n10, n12, n16, n22, n23, n24, n40, n48, n57, n60, n97, n99, n100, n119, n120, n238, n357, n999, n9999, n2231, Int32.add_zero, K614, ↓G614_0, ↓G614_1, ↓G614_2, ↓U614_2, ↓G614_3, ↓G614_4, ↓U614_4, ↓G614_5, ↓U614_5, ↓G614_6, ↓U614_6, ↓G614_7, ↓G614_8, ↓G614_9, ↓G614_10, ↓G614_11, ↓U614_11, ↓G614_12, ↓U614_12, ↓G614_13, ↓U614_13, ↓G614_14, ↓U614_14, ↓G614_15, ↓G614_16, ↓U614_16, ↓G614_18, ↓U614_18, ↓G614_19, ↓I615, ↓S615, ↓bnd hat, ↓bnd hun, ↓bnd a1, g0, g2', e9, hm9]
      · have hm9 : min 9999 (ow + (spend (isOfB k 4) w l).2) = 9999 := Nat.min_eq_left (by omega)
        simp (disch := omega) only [e158_0, e158_1, e158_2, e158_5, e158_7, e158_8, e158_9, e158_10, e158_13, e158_15, e158_16, e158_18, e158_21, e158_22, e158_25, e158_27, e158_29, e158_30, e158_31, e158_32, e158_34, e158_37, e158_38, e158_41, e158_43, e158_44, e158_45, e158_46, e158_47, e158_48, e158_50, e158_51, e158_53, e158_54, e158_57, e158_59, e158_60, e158_61, e158_63, e158_66, e158_69, e158_72, e158_75, e158_77, e158_78, e158_79, e158_82, e158_84, e158_85, e158_86, e158_87, e158_88, e158_89, e158_90, e158_91, ↓reduceIte, ↓gi0, ↓gr0, ↓gl0, ↓gi1, ↓gr1, ↓gl1, ↓gi2, ↓gr2, ↓gl2, ↓gi3, ↓gr3, ↓gl3, ↓gi4, ↓gr4, ↓gl4, ↓gi5, ↓gr5, ↓gl5, ↓gi6, ↓gr6, ↓gl6, ↓gi7, ↓gr7, ↓gl7, ↓gi8, ↓gr8, ↓gl8, ↓gi9, ↓gr9, ↓gl9, ↓qI, ↓qI2, ↓qL, ↓qL2, ↓qR, ↓qV, ↓pd0, ↓ta0, ↓ts0, ↓pd1, ↓ta1, ↓ts1, ↓pd2, ↓ta2, ↓ts2, ↓pd3, ↓ta3, ↓ts3, ↓pd4, ↓ta4, ↓ts4, ↓pd5, ↓ta5, ↓ts5, ↓pd6, ↓ta6, ↓ts6, lGet, lSet, okS, isLg, Bool.not_false, Bool.not_true, Bool.false_eq_true, not_false_eq_true, not_true_eq_false, catS, okR1, okR20, okR21, okR2b, List.length_cons, List.length_nil, List.drop_succ_cons, List.drop_zero, List.drop_nil, and_self, true_and, and_true, false_and, and_false, Nat.reduceAdd, Nat.reduceLeDiff, Nat.zero_add, Nat.le_refl, Nat.zero_le, pushR, reduceCtorEq, or_self, or_false, false_or, true_or, or_true, ltT, ltF, leT, leF, eqF, eqT, lt0F, ge0T, le0T, le0F, eq0T, eq0F, gt0T, gt0F, nI_add, nI_1, pk_mul, subT, sub1, divT, remN, natRem, n2, n3, n4, n5, n6, n7, n8, n9, n10, n12, n16, n22, n23, n24, n40, n48, n57, n60, n97, n99, n100, n119, n120, n238, n357, n999, n9999, n2231, Int32.add_zero, K614, ↓G614_0, ↓G614_1, ↓G614_2, ↓U614_2, ↓G614_3, ↓G614_4, ↓U614_4, ↓G614_5, ↓U614_5, ↓G614_6, ↓U614_6, ↓G614_7, ↓G614_8, ↓G614_9, ↓G614_10, ↓G614_11, ↓U614_11, ↓G614_12, ↓U614_12, ↓G614_13, ↓U614_13, ↓G614_14, ↓U614_14, ↓G614_15, ↓G614_16, ↓U614_16, ↓G614_18, ↓U614_18, ↓G614_19, ↓I615, ↓S615, ↓bnd hat, ↓bnd hun, ↓bnd a1, g0, g2', e9, hm9]
  · show (u2 (u2 s1 _ _ _) _ _ _).1 615 o = _
    rw [u2_oth _ _ (by omega), u2_same]
    rfl
  · rw [u2_oth _ _ (by omega), u2_oth _ _ (by omega)]; exact g1
  · rw [u2_same]; rfl
  · exact ML.ext a2 (fun j h3 hj => by rw [u2_oth _ _ (by omega), u2_oth _ _ (by omega)])
  · exact (a3.w (by omega) (by omega)).tr ((FrA.u (by omega) (by omega)).tr (FrA.u (by omega) (by omega)))
end MM2
