/-! ===== Person: dropEmptyLots, spend, commit ===== -/
def keepL (l : LT) : LT := l.filter (fun q => decide (0 < q.1))
theorem keep_take (l : LT) {k : Nat} (hk : k < l.length) : keepL (l.take (k + 1)) = if 0 < lt_d l k then keepL (l.take k) ++ [(lt_d l k, lt_m l k)] else keepL (l.take k) := by
  unfold keepL lt_d lt_m
  rw [List.take_succ, List.filter_append, List.getD_eq_getElem?_getD]
  cases h : l[k]? with
  | none => exact absurd (List.getElem?_eq_none_iff.mp h) (by omega)
  | some q =>
    by_cases hq : 0 < q.1
    · simp [hq]
    · simp [hq]
theorem keep_le (l : LT) (k : Nat) : (keepL (l.take k)).length ≤ k := Nat.le_trans (List.length_filter_le _ _) (by rw [List.length_take]; omega)
/-- the first part of the lots is kept, the rest from k on is as it was -/
def DR (s : ST) (P : Nat) (f l : LT) (k : Nat) : Prop := s.1 P 7 = nI l.length ∧ (∀ i, i < f.length → s.1 (P + 1) i = nI (lt_d f i) ∧ s.1 (P + 2) i = nI (lt_m f i)) ∧ ∀ i, k ≤ i → i < l.length → s.1 (P + 1) i = nI (lt_d l i) ∧ s.1 (P + 2) i = nI (lt_m l i)
section PM3
variable {scr : Nat × (Nat → Int32)} {P : Nat}
theorem c_drop (d : Nat) (hP : per P) {s : ST} {l : LT} (hL : LR s P l) (hd : ∀ i, i < l.length → lt_d l i < 2 ^ 31) : ∃ s', EvM (d + 1) 59 [.ref P] (mkH scr s) = some (0, mkH scr s') ∧ LR s' P (keepL l) ∧ FrL s s' P := by
  obtain ⟨h7, h6, hl⟩ := hL
  have lp : ∀ m k : Nat, k + m = l.length → ∀ s1 : ST, DR s1 P (keepL (l.take k)) l k → ∃ s', EvI (EvM d) C59 0 4 [.ref P, .int (nI (keepL (l.take k)).length), .int (nI k)] [] (mkH scr s1) = some (0, mkH scr s') ∧ LR s' P (keepL l) ∧ FrL s1 s' P := by
    intro m
    induction m with
    | zero =>
      intro k hk s1 hD
      have e : k = l.length := by omega
      subst e
      rw [List.take_length] at hD ⊢
      refine ⟨u2 s1 P 7 (nI (keepL l).length), ?_, ⟨u2_same _ _ _ _, ?_, fun i hi => ?_⟩, FrL.n⟩
      · rw [e59_4]
        simp only [e59_0, e59_1, e59_2, e59_3, e59_5, e59_6, e59_9, e59_12, e59_13, e59_16, e59_17, e59_18, e59_21, e59_22, e59_25, e59_26, e59_27, e59_30, e59_31, e59_32, e59_33, e59_34, e59_37, e59_38, e59_39, e59_42, e59_43, e59_44, e59_45, e59_48, e59_51, e59_54, e59_55, e59_56, e59_59, lGet, lSet, asI, asR, asL, popI, popI2, popL, popL2, popR, popV, okS, isLg, Bool.not_false, Bool.not_true, Bool.false_eq_true, if_true, if_false, Option.bind_some, Option.bind_none, catS, okR1, okR20, okR21, okR2b, List.length_cons, List.length_nil, List.drop_succ_cons, List.drop_zero, List.drop_nil, List.take_succ_cons, List.take_zero, List.reverse_cons, List.reverse_nil, List.nil_append, List.cons_append, and_self, true_and, and_true, Nat.reduceAdd, Nat.reduceLeDiff, Nat.zero_add, Nat.le_refl, Nat.zero_le, ite_self, pushR, reduceCtorEq, or_self, or_false, false_or, per_g hP 7 (by decide), per_p hP 7 (by decide), hD.1, Int32.le_refl]
      · have := keep_le l l.length
        rw [List.take_length] at this
        omega
      · rw [u2_adr _ _ (by omega), u2_adr _ _ (by omega)]
        exact hD.2.1 i hi
    | succ m ih =>
      intro k hk s1 hD
      obtain ⟨g7, gf, gl⟩ := hD
      have hlt : ¬ nI l.length ≤ nI k := nI_ge (by omega) (by omega)
      have hk6 : k < 6 := by omega
      have hle := keep_le l k
      have hq6 : (keepL (l.take k)).length < 6 := by omega
      obtain ⟨gd, gm⟩ := gl k (Nat.le_refl k) (by omega)
      have hkt := keep_take l (k := k) (by omega)
      by_cases hpos : 0 < lt_d l k
      · rw [if_pos hpos] at hkt
        have hc : ¬ nI (lt_d l k) ≤ 0 := nI_nle hpos (hd k (by omega))
        have hD1 : DR (u2 (u2 s1 (P + 1) (keepL (l.take k)).length (nI (lt_d l k))) (P + 2) (keepL (l.take k)).length (nI (lt_m l k))) P (keepL (l.take (k + 1))) l (k + 1) := by
          refine ⟨by rw [u2_oth _ _ (by omega), u2_oth _ _ (by omega)]; exact g7, fun i hi => ?_, fun i h1 h2 => ?_⟩
          · rw [hkt, List.length_append, List.length_singleton] at hi
            rw [hkt, lt_app_d, lt_app_m]
            by_cases hi2 : i < (keepL (l.take k)).length
            · rw [if_pos hi2, if_pos hi2, u2_oth _ _ (by omega), u2_oth _ _ (by omega), u2_oth _ _ (by omega), u2_oth _ _ (by omega)]
              exact gf i hi2
            · have e : i = (keepL (l.take k)).length := by omega
              subst e
              rw [if_neg hi2, if_neg hi2, if_pos rfl, if_pos rfl, u2_oth _ _ (by omega), u2_same, u2_same]
              exact ⟨rfl, rfl⟩
          · rw [u2_oth _ _ (by omega), u2_oth _ _ (by omega), u2_oth _ _ (by omega), u2_oth _ _ (by omega)]
            exact gl i (by omega) h2
        obtain ⟨s', e1, e2, e3⟩ := ih (k + 1) (by omega) _ hD1
        refine ⟨s', ?_, e2, (FrL.d.tr FrL.m).tr e3⟩
        rw [e59_4]
        have gm' : ∀ x, (u2 s1 (P + 1) (keepL (l.take k)).length x).1 (P + 2) k = nI (lt_m l k) := fun x => by rw [u2_oth _ _ (by omega), gm]
        simp only [e59_0, e59_1, e59_2, e59_3, e59_5, e59_6, e59_9, e59_12, e59_13, e59_16, e59_17, e59_18, e59_21, e59_22, e59_25, e59_26, e59_27, e59_30, e59_31, e59_32, e59_33, e59_34, e59_37, e59_38, e59_39, e59_42, e59_43, e59_44, e59_45, e59_48, e59_51, e59_54, e59_55, e59_56, e59_59, lGet, lSet, asI, asR, asL, popI, popI2, popL, popL2, popR, popV, okS, isLg, Bool.not_false, Bool.not_true, Bool.false_eq_true, if_true, if_false, Option.bind_some, Option.bind_none, catS, okR1, okR20, okR21, okR2b, List.length_cons, List.length_nil, List.drop_succ_cons, List.drop_zero, List.drop_nil, List.take_succ_cons, List.take_zero, List.reverse_cons, List.reverse_nil, List.nil_append, List.cons_append, and_self, true_and, and_true, Nat.reduceAdd, Nat.reduceLeDiff, Nat.zero_add, Nat.le_refl, Nat.zero_le, ite_self, pushR, reduceCtorEq, or_self, or_false, false_or, per_g hP 7 (by decide), per_d hP, per_c hP, per_dl hP hk6, per_ml hP hk6, per_ds hP hq6, per_ms hP hq6, g7, hlt, gd, gm, gm', hc, nI_1]
        rw [hkt, List.length_append] at e1
        exact e1
      · rw [if_neg hpos] at hkt
        have e0 : lt_d l k = 0 := by omega
        have hc : nI (lt_d l k) ≤ 0 := by rw [e0]; exact Int32.le_refl _
        have hD1 : DR s1 P (keepL (l.take (k + 1))) l (k + 1) := ⟨g7, by rw [hkt]; exact gf, fun i h1 h2 => gl i (by omega) h2⟩
        obtain ⟨s', e1, e2, e3⟩ := ih (k + 1) (by omega) _ hD1
        refine ⟨s', ?_, e2, e3⟩
        rw [e59_4]
        simp only [e59_0, e59_1, e59_2, e59_3, e59_5, e59_6, e59_9, e59_12, e59_13, e59_16, e59_17, e59_18, e59_21, e59_22, e59_25, e59_26, e59_27, e59_30, e59_31, e59_32, e59_33, e59_34, e59_37, e59_38, e59_39, e59_42, e59_43, e59_44, e59_45, e59_48, e59_51, e59_54, e59_55, e59_56, e59_59, lGet, lSet, asI, asR, asL, popI, popI2, popL, popL2, popR, popV, okS, isLg, Bool.not_false, Bool.not_true, Bool.false_eq_true, if_true, if_false, Option.bind_some, Option.bind_none, catS, okR1, okR20, okR21, okR2b, List.length_cons, List.length_nil, List.drop_succ_cons, List.drop_zero, List.drop_nil, List.take_succ_cons, List.take_zero, List.reverse_cons, List.reverse_nil, List.nil_append, List.cons_append, and_self, true_and, and_true, Nat.reduceAdd, Nat.reduceLeDiff, Nat.zero_add, Nat.le_refl, Nat.zero_le, ite_self, pushR, reduceCtorEq, or_self, or_false, false_or, per_g hP 7 (by decide), per_d hP, per_dl hP hk6, g7, hlt, gd, hc, nI_1]
        rw [hkt] at e1
        exact e1
  obtain ⟨s', e1, e2, e3⟩ := lp l.length 0 (by omega) s ⟨h7, fun i hi => by simp [keepL] at hi, fun i _ h2 => hl i h2⟩
  refine ⟨s', ?_, e2, e3⟩
  rw [ev59, e59_0]
  simp only [e59_1, e59_2, e59_3, lGet, lSet, asI, asR, asL, popI, popI2, popL, popL2, popR, popV, okS, isLg, Bool.not_false, Bool.not_true, Bool.false_eq_true, if_true, if_false, Option.bind_some, Option.bind_none, catS, okR1, okR20, okR21, okR2b, List.length_cons, List.length_nil, List.drop_succ_cons, List.drop_zero, List.drop_nil, List.take_succ_cons, List.take_zero, List.reverse_cons, List.reverse_nil, List.nil_append, List.cons_append, and_self, true_and, and_true, Nat.reduceAdd, Nat.reduceLeDiff, Nat.zero_add, Nat.le_refl, Nat.zero_le, ite_self, pushR, reduceCtorEq, or_self, or_false, false_or]
  exact e1
end PM3
/-! spending: lot by lot, from the first or from the last -/
def spStep (i : Nat) (q : LT × Nat) : LT × Nat := (q.1.set i (lt_d q.1 i - min q.2 (lt_d q.1 i), lt_m q.1 i), q.2 - min q.2 (lt_d q.1 i))
def spI (last : Bool) (L k : Nat) : Nat := if last then L - 1 - k else k
def spIt (last : Bool) (L : Nat) (q : LT × Nat) : Nat → LT × Nat
  | 0 => q
  | k + 1 => spStep (spI last L k) (spIt last L q k)
theorem lt_get {l : LT} {i : Nat} (h : i < l.length) : l[i]? = some (lt_d l i, lt_m l i) := by
  unfold lt_d lt_m
  rw [List.getD_eq_getElem?_getD, List.getElem?_eq_getElem h]
  rfl
theorem set_same {l : LT} {i : Nat} : l.set i (lt_d l i, lt_m l i) = l := by
  apply List.ext_getElem?
  intro j
  rw [List.getElem?_set]
  by_cases h : i = j
  · subst h
    by_cases h2 : i < l.length
    · rw [if_pos rfl, if_pos h2, lt_get h2]
    · rw [if_pos rfl, if_neg h2, List.getElem?_eq_none (by omega)]
  · rw [if_neg h]
theorem spStep_0 {i : Nat} {q : LT × Nat} (h : q.2 = 0) : spStep i q = q := by
  obtain ⟨l, n⟩ := q
  simp only at h
  subst h
  unfold spStep
  simp only [Nat.zero_min, Nat.sub_zero]
  rw [set_same]
theorem spIt_0 {last : Bool} {L : Nat} {q : LT × Nat} {k : Nat} (h : (spIt last L q k).2 = 0) : ∀ j, spIt last L q (k + j) = spIt last L q k
  | 0 => rfl
  | j + 1 => by
    show spStep _ (spIt last L q (k + j)) = _
    rw [spIt_0 h j, spStep_0 h]
theorem spIt_len {last : Bool} {L : Nat} {q : LT × Nat} : ∀ k, (spIt last L q k).1.length = q.1.length
  | 0 => rfl
  | k + 1 => by
    show ((spIt last L q k).1.set _ _).length = _
    rw [List.length_set, spIt_len k]
theorem spIt_lt {last : Bool} {L : Nat} {q : LT × Nat} {B : Nat} (h : ∀ i, i < q.1.length → lt_d q.1 i < B) : ∀ k i, i < q.1.length → lt_d (spIt last L q k).1 i < B
  | 0, i, hi => h i hi
  | k + 1, i, hi => by
    show lt_d ((spIt last L q k).1.set _ _) i < B
    have ih := spIt_lt (last := last) (L := L) h k i hi
    rw [lt_set_d]
    split
    · rename_i hc
      rw [← hc.1]
      have : lt_d (spIt last L q k).1 i - min (spIt last L q k).2 (lt_d (spIt last L q k).1 i) ≤ lt_d (spIt last L q k).1 i := Nat.sub_le _ _
      omega
    · exact ih
theorem spIt_le {last : Bool} {L : Nat} {q : LT × Nat} : ∀ k, (spIt last L q k).2 ≤ q.2
  | 0 => Nat.le_refl _
  | k + 1 => Nat.le_trans (Nat.sub_le _ _) (spIt_le k)
def spend (last : Bool) (n : Nat) (l : LT) : LT × Nat := (keepL (spIt last l.length (l, n) l.length).1, (spIt last l.length (l, n) l.length).2)
section PM4
variable {scr : Nat × (Nat → Int32)} {P : Nat}
theorem min_nI {a b : Nat} (ha : a < 2 ^ 31) (hb : b < 2 ^ 31) : (if nI b < nI a then nI b else nI a) = nI (min a b) := by
  rcases Nat.lt_or_ge b a with h | h
  · rw [if_pos (nI_lt h ha), Nat.min_eq_right (Nat.le_of_lt h)]
  · rw [if_neg (nI_nlt h hb), Nat.min_eq_left h]
theorem LR_set {s : ST} {l : LT} {i x : Nat} (h : LR s P l) (hi : i < l.length) : LR (u2 s (P + 1) i (nI x)) P (l.set i (x, lt_m l i)) := by
  obtain ⟨h7, h6, hl⟩ := h
  refine ⟨by rw [u2_oth _ _ (by omega), List.length_set, h7], by rw [List.length_set]; exact h6, fun j hj => ?_⟩
  rw [List.length_set] at hj
  rw [lt_set_d, lt_set_m, u2_oth _ _ (show ¬ (P + 2 = P + 1 ∧ j = i) by omega)]
  by_cases hji : j = i
  · subst hji
    rw [if_pos ⟨rfl, hi⟩, if_pos ⟨rfl, hi⟩, u2_same]
    exact ⟨rfl, (hl j hi).2⟩
  · rw [if_neg (fun z => hji z.1), if_neg (fun z => hji z.1), u2_oth _ _ (by omega)]
    exact hl j hj
/-- Person.spend -/
theorem c_spend (d : Nat) (hP : per P) {s : ST} {l : LT} {kd n : Nat} (hkd : s.1 P 1 = nI kd) (hk6 : kd < 6) (hL : LR s P l) (hd : ∀ i, i < l.length → lt_d l i < 2 ^ 30) (hn : n < 2 ^ 30) : ∃ s', EvM (d + 2) 53 [.ref P, .int (nI n)] (mkH scr s) = some (nI (spend (isOfB kd 4) n l).2, mkH scr s') ∧ LR s' P (spend (isOfB kd 4) n l).1 ∧ FrL s s' P := by
  have fin : ∀ s1 : ST, FrL s s1 P → LR s1 P (spIt (isOfB kd 4) l.length (l, n) l.length).1 → ∀ x4 x5 x6 : Value, ∃ s', EvI (EvM (d + 1)) C53 1 80 [.ref P, .int (nI n), .int (bI (isOfB kd 4)), .int (nI (spIt (isOfB kd 4) l.length (l, n) l.length).2), x4, x5, x6] [] (mkH scr s1) = some (nI (spend (isOfB kd 4) n l).2, mkH scr s') ∧ LR s' P (spend (isOfB kd 4) n l).1 ∧ FrL s s' P := by
    intro s1 hF hL1 x4 x5 x6
    obtain ⟨s', e1, e2, e3⟩ := c_drop d (scr := scr) hP hL1 (fun i hi => by
      rw [spIt_len] at hi
      have := spIt_lt (last := isOfB kd 4) (L := l.length) (q := (l, n)) hd l.length i hi
      omega)
    refine ⟨s', ?_, e2, hF.tr e3⟩
    rw [e53_80]
    simp only [e53_0, e53_1, e53_2, e53_5, e53_6, e53_7, e53_8, e53_9, e53_13, e53_14, e53_17, e53_20, e53_21, e53_24, e53_25, e53_28, e53_29, e53_32, e53_33, e53_34, e53_36, e53_37, e53_40, e53_42, e53_44, e53_45, e53_46, e53_49, e53_51, e53_52, e53_55, e53_57, e53_58, e53_61, e53_63, e53_64, e53_65, e53_67, e53_68, e53_69, e53_70, e53_72, e53_73, e53_74, e53_77, e53_81, e53_84, e53_85, lGet, lSet, asI, asR, asL, popI, popI2, popL, popL2, popR, popV, okS, isLg, Bool.not_false, Bool.not_true, Bool.false_eq_true, if_true, if_false, Option.bind_some, Option.bind_none, catS, okR1, okR20, okR21, okR2b, List.length_cons, List.length_nil, List.drop_succ_cons, List.drop_zero, List.drop_nil, List.take_succ_cons, List.take_zero, List.reverse_cons, List.reverse_nil, List.nil_append, List.cons_append, and_self, true_and, and_true, Nat.reduceAdd, Nat.reduceLeDiff, Nat.zero_add, Nat.le_refl, Nat.zero_le, ite_self, pushR, reduceCtorEq, or_self, or_false, false_or, per_cl hP, e1]
    rfl
  have lp : ∀ m k : Nat, k + m = l.length → ∀ s1 : ST, FrL s s1 P → LR s1 P (spIt (isOfB kd 4) l.length (l, n) k).1 → ∀ x5 x6 : Value, isLg x5 = false → isLg x6 = false → ∃ s', EvI (EvM (d + 1)) C53 1 11 [.ref P, .int (nI n), .int (bI (isOfB kd 4)), .int (nI (spIt (isOfB kd 4) l.length (l, n) k).2), .int (nI k), x5, x6] [] (mkH scr s1) = some (nI (spend (isOfB kd 4) n l).2, mkH scr s') ∧ LR s' P (spend (isOfB kd 4) n l).1 ∧ FrL s s' P := by
    intro m
    induction m with
    | zero =>
      intro k hk s1 hF hL1 x5 x6 h5 h6'
      have e : k = l.length := by omega
      subst e
      obtain ⟨s', e1, e2, e3⟩ := fin s1 hF hL1 (.int (nI l.length)) x5 x6
      refine ⟨s', ?_, e2, e3⟩
      have h7 := hL1.1
      rw [spIt_len] at h7
      rw [e53_11]
      simp only [e53_0, e53_1, e53_2, e53_5, e53_6, e53_7, e53_8, e53_9, e53_13, e53_14, e53_17, e53_20, e53_21, e53_24, e53_25, e53_28, e53_29, e53_32, e53_33, e53_34, e53_36, e53_37, e53_40, e53_42, e53_44, e53_45, e53_46, e53_49, e53_51, e53_52, e53_55, e53_57, e53_58, e53_61, e53_63, e53_64, e53_65, e53_67, e53_68, e53_69, e53_70, e53_72, e53_73, e53_74, e53_77, e53_81, e53_84, e53_85, lGet, lSet, asI, asR, asL, popI, popI2, popL, popL2, popR, popV, okS, isLg, Bool.not_false, Bool.not_true, Bool.false_eq_true, if_true, if_false, Option.bind_some, Option.bind_none, catS, okR1, okR20, okR21, okR2b, List.length_cons, List.length_nil, List.drop_succ_cons, List.drop_zero, List.drop_nil, List.take_succ_cons, List.take_zero, List.reverse_cons, List.reverse_nil, List.nil_append, List.cons_append, and_self, true_and, and_true, Nat.reduceAdd, Nat.reduceLeDiff, Nat.zero_add, Nat.le_refl, Nat.zero_le, ite_self, pushR, reduceCtorEq, or_self, or_false, false_or, per_g hP 7 (by decide), h7, Int32.le_refl]
      exact e1
    | succ m ih =>
      intro k hk s1 hF hL1 x5 x6 h5 h6'
      generalize hq : spIt (isOfB kd 4) l.length (l, n) k = q at *
      have hlen : q.1.length = l.length := by rw [← hq, spIt_len]
      have h7 : s1.1 P 7 = nI l.length := by rw [hL1.1, hlen]
      have h6 : l.length ≤ 6 := hL.2.1
      have hlt : ¬ nI l.length ≤ nI k := nI_ge (by omega) (by omega)
      have hqn : q.2 ≤ n := by rw [← hq]; exact spIt_le k
      by_cases h0 : q.2 = 0
      · have hall : spIt (isOfB kd 4) l.length (l, n) l.length = q := by
          have := spIt_0 (last := isOfB kd 4) (L := l.length) (q := (l, n)) (k := k) (by rw [hq]; exact h0) (m + 1)
          rw [hk, hq] at this
          exact this
        obtain ⟨s', e1, e2, e3⟩ := fin s1 hF (by rw [hall]; exact hL1) (.int (nI k)) x5 x6
        refine ⟨s', ?_, e2, e3⟩
        rw [hall] at e1
        have hz : nI q.2 ≤ 0 := by rw [h0]; exact Int32.le_refl _
        rw [e53_11]
        simp only [e53_0, e53_1, e53_2, e53_5, e53_6, e53_7, e53_8, e53_9, e53_13, e53_14, e53_17, e53_20, e53_21, e53_24, e53_25, e53_28, e53_29, e53_32, e53_33, e53_34, e53_36, e53_37, e53_40, e53_42, e53_44, e53_45, e53_46, e53_49, e53_51, e53_52, e53_55, e53_57, e53_58, e53_61, e53_63, e53_64, e53_65, e53_67, e53_68, e53_69, e53_70, e53_72, e53_73, e53_74, e53_77, e53_81, e53_84, e53_85, lGet, lSet, asI, asR, asL, popI, popI2, popL, popL2, popR, popV, okS, isLg, Bool.not_false, Bool.not_true, Bool.false_eq_true, if_true, if_false, Option.bind_some, Option.bind_none, catS, okR1, okR20, okR21, okR2b, List.length_cons, List.length_nil, List.drop_succ_cons, List.drop_zero, List.drop_nil, List.take_succ_cons, List.take_zero, List.reverse_cons, List.reverse_nil, List.nil_append, List.cons_append, and_self, true_and, and_true, Nat.reduceAdd, Nat.reduceLeDiff, Nat.zero_add, Nat.le_refl, Nat.zero_le, ite_self, pushR, reduceCtorEq, or_self, or_false, false_or, per_g hP 7 (by decide), h7, hlt, hz]
        exact e1
      · have hz : ¬ nI q.2 ≤ 0 := nI_nle (by omega) (by omega)
        have hi : spI (isOfB kd 4) l.length k < l.length := by unfold spI; split <;> omega
        have hi6 : spI (isOfB kd 4) l.length k < 6 := by omega
        have hdi : lt_d q.1 (spI (isOfB kd 4) l.length k) < 2 ^ 30 := by
          rw [← hq]
          exact spIt_lt (last := isOfB kd 4) (L := l.length) (q := (l, n)) hd k _ hi
        obtain ⟨gd, -⟩ := hL1.2.2 (spI (isOfB kd 4) l.length k) (by rw [hlen]; exact hi)
        have hmn := min_nI (a := q.2) (b := lt_d q.1 (spI (isOfB kd 4) l.length k)) (by omega) (by omega)
        have hsub1 : nI (lt_d q.1 (spI (isOfB kd 4) l.length k)) - nI (min q.2 (lt_d q.1 (spI (isOfB kd 4) l.length k))) = nI (lt_d q.1 (spI (isOfB kd 4) l.length k) - min q.2 (lt_d q.1 (spI (isOfB kd 4) l.length k))) := pk_sub (Nat.min_le_right _ _)
        have hsub2 : nI q.2 - nI (min q.2 (lt_d q.1 (spI (isOfB kd 4) l.length k))) = nI (q.2 - min q.2 (lt_d q.1 (spI (isOfB kd 4) l.length k))) := pk_sub (Nat.min_le_left _ _)
        have hq1 : spIt (isOfB kd 4) l.length (l, n) (k + 1) = spStep (spI (isOfB kd 4) l.length k) q := by rw [← hq]; rfl
        have hL2 : LR (u2 s1 (P + 1) (spI (isOfB kd 4) l.length k) (nI (lt_d q.1 (spI (isOfB kd 4) l.length k) - min q.2 (lt_d q.1 (spI (isOfB kd 4) l.length k))))) P (spIt (isOfB kd 4) l.length (l, n) (k + 1)).1 := by
          rw [hq1]
          exact LR_set hL1 (by rw [hlen]; exact hi)
        obtain ⟨s', e1, e2, e3⟩ := ih (k + 1) (by omega) _ (hF.tr FrL.d) hL2 (.int (nI (spI (isOfB kd 4) l.length k))) (.int (nI (min q.2 (lt_d q.1 (spI (isOfB kd 4) l.length k))))) rfl rfl
        refine ⟨s', ?_, e2, e3⟩
        rw [hq1] at e1
        rw [e53_11]
        have hix : (isOfB kd 4 = true ∧ nI l.length - 1 - nI k = nI (spI (isOfB kd 4) l.length k)) ∨ (isOfB kd 4 = false ∧ spI (isOfB kd 4) l.length k = k) := by
          cases hb : isOfB kd 4 with
          | true =>
            refine Or.inl ⟨rfl, ?_⟩
            show nI l.length - nI 1 - nI k = nI (l.length - 1 - k)
            rw [pk_sub (by omega), pk_sub (by omega)]
          | false => exact Or.inr ⟨rfl, rfl⟩
        generalize spI (isOfB kd 4) l.length k = ix at *
        rcases hix with ⟨hb, hx⟩ | ⟨hb, hx⟩
        · simp only [e53_0, e53_1, e53_2, e53_5, e53_6, e53_7, e53_8, e53_9, e53_13, e53_14, e53_17, e53_20, e53_21, e53_24, e53_25, e53_28, e53_29, e53_32, e53_33, e53_34, e53_36, e53_37, e53_40, e53_42, e53_44, e53_45, e53_46, e53_49, e53_51, e53_52, e53_55, e53_57, e53_58, e53_61, e53_63, e53_64, e53_65, e53_67, e53_68, e53_69, e53_70, e53_72, e53_73, e53_74, e53_77, e53_81, e53_84, e53_85, lGet, lSet, asI, asR, asL, popI, popI2, popL, popL2, popR, popV, okS, isLg, Bool.not_false, Bool.not_true, Bool.false_eq_true, if_true, if_false, Option.bind_some, Option.bind_none, catS, okR1, okR20, okR21, okR2b, List.length_cons, List.length_nil, List.drop_succ_cons, List.drop_zero, List.drop_nil, List.take_succ_cons, List.take_zero, List.reverse_cons, List.reverse_nil, List.nil_append, List.cons_append, and_self, true_and, and_true, Nat.reduceAdd, Nat.reduceLeDiff, Nat.zero_add, Nat.le_refl, Nat.zero_le, ite_self, pushR, reduceCtorEq, or_self, or_false, false_or, per_g hP 7 (by decide), per_d hP, per_dl hP hi6, per_ds hP hi6, h7, hlt, hz, hb, bI, hx, gd, hmn, hsub1, hsub2, nI_1, show ((1 : Int32) = 0) = False from by decide, h5, h6']
          rw [hb] at e1
          exact e1
        · subst hx
          simp only [e53_0, e53_1, e53_2, e53_5, e53_6, e53_7, e53_8, e53_9, e53_13, e53_14, e53_17, e53_20, e53_21, e53_24, e53_25, e53_28, e53_29, e53_32, e53_33, e53_34, e53_36, e53_37, e53_40, e53_42, e53_44, e53_45, e53_46, e53_49, e53_51, e53_52, e53_55, e53_57, e53_58, e53_61, e53_63, e53_64, e53_65, e53_67, e53_68, e53_69, e53_70, e53_72, e53_73, e53_74, e53_77, e53_81, e53_84, e53_85, lGet, lSet, asI, asR, asL, popI, popI2, popL, popL2, popR, popV, okS, isLg, Bool.not_false, Bool.not_true, Bool.false_eq_true, if_true, if_false, Option.bind_some, Option.bind_none, catS, okR1, okR20, okR21, okR2b, List.length_cons, List.length_nil, List.drop_succ_cons, List.drop_zero, List.drop_nil, List.take_succ_cons, List.take_zero, List.reverse_cons, List.reverse_nil, List.nil_append, List.cons_append, and_self, true_and, and_true, Nat.reduceAdd, Nat.reduceLeDiff, Nat.zero_add, Nat.le_refl, Nat.zero_le, ite_self, pushR, reduceCtorEq, or_self, or_false, false_or, per_g hP 7 (by decide), per_d hP, per_dl hP hi6, per_ds hP hi6, h7, hlt, hz, hb, bI, gd, hmn, hsub1, hsub2, nI_1, h5, h6']
          rw [hb] at e1
          exact e1
  obtain ⟨s', e1, e2, e3⟩ := lp l.length 0 (by omega) s (FrL.rf s P) hL jk jk rfl rfl
  refine ⟨s', ?_, e2, e3⟩
  have hio := c_isOf d (scr := scr) (s := s) hP (w := 4) hkd hk6 (by decide)
  rw [ev53, e53_0]
  simp only [e53_1, e53_2, e53_5, e53_6, e53_7, e53_8, e53_9, lGet, lSet, asI, asR, asL, popI, popI2, popL, popL2, popR, popV, okS, isLg, Bool.not_false, Bool.not_true, Bool.false_eq_true, if_true, if_false, Option.bind_some, Option.bind_none, catS, okR1, okR20, okR21, okR2b, List.length_cons, List.length_nil, List.drop_succ_cons, List.drop_zero, List.drop_nil, List.take_succ_cons, List.take_zero, List.reverse_cons, List.reverse_nil, List.nil_append, List.cons_append, and_self, true_and, and_true, Nat.reduceAdd, Nat.reduceLeDiff, Nat.zero_add, Nat.le_refl, Nat.zero_le, ite_self, pushR, reduceCtorEq, or_self, or_false, false_or, per_cl hP, show (4 : Int32) = nI 4 from rfl, hio]
  exact e1
/-- the places of a person without his number -/
def FrP (s s' : ST) (P : Nat) : Prop := s'.2 = s.2 ∧ ∀ a k, a ≠ P + 1 → a ≠ P + 2 → ¬ (a = P ∧ 1 ≤ k) → s'.1 a k = s.1 a k
theorem FrP.rf (s : ST) (P : Nat) : FrP s s P := ⟨rfl, fun _ _ _ _ _ => rfl⟩
theorem FrP.tr {s s1 s2 : ST} {P : Nat} (h : FrP s s1 P) (h2 : FrP s1 s2 P) : FrP s s2 P := ⟨h2.1.trans h.1, fun a k g1 g2 g3 => (h2.2 a k g1 g2 g3).trans (h.2 a k g1 g2 g3)⟩
theorem FrL.p {s s1 : ST} {P : Nat} (h : FrL s s1 P) : FrP s s1 P := ⟨h.1, fun a k g1 g2 g3 => h.2 a k g1 g2 (fun z => g3 ⟨z.1, by omega⟩)⟩
theorem FrP.n {s : ST} {P k : Nat} {x : Int32} (hk : 1 ≤ k) : FrP s (u2 s P k x) P := ⟨rfl, fun a k' _ _ g3 => u2_oth s x (fun z => g3 ⟨z.1, by omega⟩)⟩
abbrev PT : Type := Nat × Nat × Nat × Int32 × Nat × Int32 × LT
/-- a person: kind, lean, worth, cash, owes, done, lots -/
def PR (s : ST) (P : Nat) (p : PT) : Prop := s.1 P 1 = nI p.1 ∧ s.1 P 2 = nI p.2.1 ∧ s.1 P 3 = nI p.2.2.1 ∧ s.1 P 4 = p.2.2.2.1 ∧ s.1 P 5 = nI p.2.2.2.2.1 ∧ s.1 P 6 = p.2.2.2.2.2.1 ∧ LR s P p.2.2.2.2.2.2
/-- what numbers a person may hold -/
def pOk (p : PT) : Prop := p.1 < 6 ∧ p.2.2.2.2.1 ≤ 9999 ∧ (∀ i, i < p.2.2.2.2.2.2.length → lt_d p.2.2.2.2.2.2 i < 2 ^ 20 ∧ lt_m p.2.2.2.2.2.2 i < 2 ^ 20) ∧ p.2.1 < 2 ^ 20 ∧ p.2.2.1 < 2 ^ 20
theorem PR.lots {s s1 : ST} {k le w : Nat} {ca : Int32} {ow : Nat} {dn : Int32} {l l1 : LT} (h : PR s P (k, le, w, ca, ow, dn, l)) (hF : FrL s s1 P) (hL : LR s1 P l1) : PR s1 P (k, le, w, ca, ow, dn, l1) := by
  obtain ⟨h1, h2, h3, h4, h5, h6, -⟩ := h
  have g : ∀ j, j ≠ 7 → s1.1 P j = s.1 P j := fun j hj => hF.2 P j (by omega) (by omega) (fun z => hj z.2)
  exact ⟨by rw [g 1 (by decide)]; exact h1, by rw [g 2 (by decide)]; exact h2, by rw [g 3 (by decide)]; exact h3, by rw [g 4 (by decide)]; exact h4, by rw [g 5 (by decide)]; exact h5, by rw [g 6 (by decide)]; exact h6, hL⟩
theorem LR_u {s : ST} {l : LT} {k : Nat} {x : Int32} (h : LR s P l) (hk : k ≠ 7) : LR (u2 s P k x) P l := by
  obtain ⟨h7, h6, hl⟩ := h
  exact ⟨by rw [u2_oth _ _ (by omega)]; exact h7, h6, fun i hi => by rw [u2_adr _ _ (by omega), u2_adr _ _ (by omega)]; exact hl i hi⟩
/-- a DEED of a weight, done by a person -/
def pCommit (w : Nat) (p : PT) : PT := match p with
  | (k, le, wo, ca, ow, dn, l) => (k, le, wo, ca, min 9999 (ow + (spend (isOfB k 4) w l).2), dn + 1, (spend (isOfB k 4) w l).1)
theorem spend_le (b : Bool) (n : Nat) (l : LT) : (spend b n l).2 ≤ n := spIt_le _
/-- Person.commit -/
theorem c_commit (d : Nat) (hP : per P) {s : ST} {p : PT} {w : Nat} (hp : PR s P p) (hok : pOk p) (hw : w < 2 ^ 20) : ∃ s', EvM (d + 3) 54 [.ref P, .int (nI w)] (mkH scr s) = some (0, mkH scr s') ∧ PR s' P (pCommit w p) ∧ FrP s s' P := by
  obtain ⟨k, le, wo, ca, ow, dn, l⟩ := p
  obtain ⟨k6, ho, hd, -⟩ := hok
  simp only at k6 ho hd
  obtain ⟨s1, e1, e2, e3⟩ := c_spend d (scr := scr) hP (l := l) (n := w) hp.1 k6 hp.2.2.2.2.2.2 (fun i hi => Nat.lt_trans (hd i hi).1 (by decide)) (by omega)
  have hp1 := hp.lots e3 e2
  have hsl := spend_le (isOfB k 4) w l
  refine ⟨u2 (u2 s1 P 5 (nI (min 9999 (ow + (spend (isOfB k 4) w l).2)))) P 6 (dn + 1), ?_, ?_, e3.p.tr ((FrP.n (by decide)).tr (FrP.n (by decide)))⟩
  · rw [ev54, e54_0]
    have hmn := min_nI (a := 9999) (b := ow + (spend (isOfB k 4) w l).2) (by decide) (by omega)
    have h9 : (9999 : Int32) = nI 9999 := rfl
    have g6 : (u2 s1 P 5 (nI (min 9999 (ow + (spend (isOfB k 4) w l).2)))).1 P 6 = dn := by rw [u2_oth _ _ (by omega)]; exact hp1.2.2.2.2.2.1
    simp only [e54_0, e54_1, e54_4, e54_5, e54_8, e54_9, e54_10, e54_13, e54_14, e54_17, e54_20, e54_21, e54_22, e54_25, e54_26, e54_27, e54_30, lGet, lSet, asI, asR, asL, popI, popI2, popL, popL2, popR, popV, okS, isLg, Bool.not_false, Bool.not_true, Bool.false_eq_true, if_true, if_false, Option.bind_some, Option.bind_none, catS, okR1, okR20, okR21, okR2b, List.length_cons, List.length_nil, List.drop_succ_cons, List.drop_zero, List.drop_nil, List.take_succ_cons, List.take_zero, List.reverse_cons, List.reverse_nil, List.nil_append, List.cons_append, and_self, true_and, and_true, Nat.reduceAdd, Nat.reduceLeDiff, Nat.zero_add, Nat.le_refl, Nat.zero_le, ite_self, pushR, reduceCtorEq, or_self, or_false, false_or, per_cl hP, per_g hP 5 (by decide), per_g hP 6 (by decide), per_p hP 5 (by decide), per_p hP 6 (by decide), hp.2.2.2.2.1, e1, nI_add, h9, hmn, g6]
  · obtain ⟨h1, h2, h3, h4, h5, h6, h7⟩ := hp1
    exact ⟨by rw [u2_oth _ _ (by omega), u2_oth _ _ (by omega)]; exact h1, by rw [u2_oth _ _ (by omega), u2_oth _ _ (by omega)]; exact h2, by rw [u2_oth _ _ (by omega), u2_oth _ _ (by omega)]; exact h3, by rw [u2_oth _ _ (by omega), u2_oth _ _ (by omega)]; exact h4, by rw [u2_oth _ _ (by omega), u2_same]; rfl, by rw [u2_same]; rfl, LR_u (LR_u h7 (by decide)) (by decide)⟩
end PM4
