/-! ===== Person: lapses, lapsing, endMonth, leaveTo, clear, copyFrom, fortune ===== -/
def lapB (k : Nat) (l : LT) (i : Nat) (mo tm : Int32) : Bool := !(isOfB k 3) && !(decide (mo - nI (lt_m l i) < tm))
def lapS (k : Nat) (l : LT) (mo tm : Int32) : Nat → Nat
  | 0 => 0
  | j + 1 => lapS k l mo tm j + if lapB k l j mo tm then lt_d l j else 0
def zap (k : Nat) (l : LT) (mo tm : Int32) : Nat → LT
  | 0 => l
  | j + 1 => if lapB k l j mo tm then (zap k l mo tm j).set j (0, lt_m l j) else zap k l mo tm j
theorem zap_len {k : Nat} {l : LT} {mo tm : Int32} : ∀ j, (zap k l mo tm j).length = l.length
  | 0 => rfl
  | j + 1 => by
    rw [zap]
    split
    · rw [List.length_set, zap_len j]
    · exact zap_len j
theorem zap_m {k : Nat} {l : LT} {mo tm : Int32} : ∀ j i, lt_m (zap k l mo tm j) i = lt_m l i
  | 0, _ => rfl
  | j + 1, i => by
    rw [zap]
    split
    · rw [lt_set_m]
      split
      · rename_i hc
        rw [hc.1]
      · exact zap_m j i
    · exact zap_m j i
theorem zap_d {k : Nat} {l : LT} {mo tm : Int32} : ∀ j i, lt_d (zap k l mo tm j) i ≤ lt_d l i
  | 0, _ => Nat.le_refl _
  | j + 1, i => by
    rw [zap]
    split
    · rw [lt_set_d]
      split
      · exact Nat.zero_le _
      · exact zap_d j i
    · exact zap_d j i
section PM5
variable {scr : Nat × (Nat → Int32)} {P : Nat}
theorem bI_f : bI false = 0 := rfl
theorem bI_t : bI true = 1 := rfl
theorem one_ne : ((1 : Int32) = 0) = False := by decide
/-- Person.lapses -/
theorem c_lapses (d : Nat) (hP : per P) {s : ST} {l : LT} {k i : Nat} {mo tm : Int32} (hk : s.1 P 1 = nI k) (h6 : k < 6) (hL : LR s P l) (hi : i < l.length) : EvM (d + 2) 58 [.ref P, .int (nI i), .int mo, .int tm] (mkH scr s) = some (bI (lapB k l i mo tm), mkH scr s) := by
  have hio := c_isOf d (scr := scr) (s := s) hP (w := 3) hk h6 (by decide)
  obtain ⟨-, h6', hl⟩ := hL
  have hi6 : i < 6 := by omega
  rw [ev58, e58_0]
  unfold lapB
  cases hb : isOfB k 3 with
  | true => simp only [e58_0, e58_1, e58_2, e58_5, e58_8, e58_9, e58_10, e58_13, e58_14, e58_15, e58_16, e58_17, e58_20, e58_21, e58_24, e58_25, lGet, lSet, asI, asR, asL, popI, popI2, popL, popL2, popR, popV, okS, isLg, Bool.not_false, Bool.not_true, Bool.false_eq_true, if_true, if_false, Option.bind_some, Option.bind_none, catS, okR1, okR20, okR21, okR2b, List.length_cons, List.length_nil, List.drop_succ_cons, List.drop_zero, List.drop_nil, List.take_succ_cons, List.take_zero, List.reverse_cons, List.reverse_nil, List.nil_append, List.cons_append, and_self, true_and, and_true, Nat.reduceAdd, Nat.reduceLeDiff, Nat.zero_add, Nat.le_refl, Nat.zero_le, ite_self, pushR, reduceCtorEq, or_self, or_false, false_or, per_cl hP, show (3 : Int32) = nI 3 from rfl, hio, hb, bI_t, one_ne, Bool.false_and, bI_f]
  | false =>
    by_cases hc : mo - nI (lt_m l i) < tm
    · simp only [e58_0, e58_1, e58_2, e58_5, e58_8, e58_9, e58_10, e58_13, e58_14, e58_15, e58_16, e58_17, e58_20, e58_21, e58_24, e58_25, lGet, lSet, asI, asR, asL, popI, popI2, popL, popL2, popR, popV, okS, isLg, Bool.not_false, Bool.not_true, Bool.false_eq_true, if_true, if_false, Option.bind_some, Option.bind_none, catS, okR1, okR20, okR21, okR2b, List.length_cons, List.length_nil, List.drop_succ_cons, List.drop_zero, List.drop_nil, List.take_succ_cons, List.take_zero, List.reverse_cons, List.reverse_nil, List.nil_append, List.cons_append, and_self, true_and, and_true, Nat.reduceAdd, Nat.reduceLeDiff, Nat.zero_add, Nat.le_refl, Nat.zero_le, ite_self, pushR, reduceCtorEq, or_self, or_false, false_or, per_cl hP, show (3 : Int32) = nI 3 from rfl, hio, hb, bI_f, per_c hP, per_ml hP hi6, (hl i hi).2, hc, decide_true, Bool.true_and, Bool.not_true]
    · simp only [e58_0, e58_1, e58_2, e58_5, e58_8, e58_9, e58_10, e58_13, e58_14, e58_15, e58_16, e58_17, e58_20, e58_21, e58_24, e58_25, lGet, lSet, asI, asR, asL, popI, popI2, popL, popL2, popR, popV, okS, isLg, Bool.not_false, Bool.not_true, Bool.false_eq_true, if_true, if_false, Option.bind_some, Option.bind_none, catS, okR1, okR20, okR21, okR2b, List.length_cons, List.length_nil, List.drop_succ_cons, List.drop_zero, List.drop_nil, List.take_succ_cons, List.take_zero, List.reverse_cons, List.reverse_nil, List.nil_append, List.cons_append, and_self, true_and, and_true, Nat.reduceAdd, Nat.reduceLeDiff, Nat.zero_add, Nat.le_refl, Nat.zero_le, ite_self, pushR, reduceCtorEq, or_self, or_false, false_or, per_cl hP, show (3 : Int32) = nI 3 from rfl, hio, hb, bI_f, per_c hP, per_ml hP hi6, (hl i hi).2, hc, decide_false, Bool.true_and, Bool.not_false, bI_t]
/-- Person.lapsing -/
theorem c_lapsing (d : Nat) (hP : per P) {s : ST} {l : LT} {k : Nat} {mo tm : Int32} (hk : s.1 P 1 = nI k) (h6 : k < 6) (hL : LR s P l) : EvM (d + 3) 56 [.ref P, .int mo, .int tm] (mkH scr s) = some (nI (lapS k l mo tm l.length), mkH scr s) := by
  obtain ⟨h7, hle, hl⟩ := id hL
  have lp : ∀ m j : Nat, j + m = l.length → EvI (EvM (d + 2)) C56 1 5 [.ref P, .int mo, .int tm, .int (nI (lapS k l mo tm j)), .int (nI j)] [] (mkH scr s) = some (nI (lapS k l mo tm l.length), mkH scr s) := by
    intro m
    induction m with
    | zero =>
      intro j hj
      have e : j = l.length := by omega
      subst e
      rw [e56_5]
      simp only [e56_0, e56_1, e56_2, e56_3, e56_7, e56_8, e56_11, e56_14, e56_15, e56_16, e56_18, e56_19, e56_20, e56_23, e56_26, e56_27, e56_30, e56_32, e56_33, e56_36, e56_37, e56_38, e56_39, e56_42, e56_45, e56_46, lGet, lSet, asI, asR, asL, popI, popI2, popL, popL2, popR, popV, okS, isLg, Bool.not_false, Bool.not_true, Bool.false_eq_true, if_true, if_false, Option.bind_some, Option.bind_none, catS, okR1, okR20, okR21, okR2b, List.length_cons, List.length_nil, List.drop_succ_cons, List.drop_zero, List.drop_nil, List.take_succ_cons, List.take_zero, List.reverse_cons, List.reverse_nil, List.nil_append, List.cons_append, and_self, true_and, and_true, Nat.reduceAdd, Nat.reduceLeDiff, Nat.zero_add, Nat.le_refl, Nat.zero_le, ite_self, pushR, reduceCtorEq, or_self, or_false, false_or, per_g hP 7 (by decide), h7, Int32.le_refl]
    | succ m ih =>
      intro j hj
      have hlt : ¬ nI l.length ≤ nI j := nI_ge (by omega) (by omega)
      have hj6 : j < 6 := by omega
      have hc := c_lapses d (scr := scr) (mo := mo) (tm := tm) hP hk h6 hL (i := j) (by omega)
      have ih' := ih (j + 1) (by omega)
      rw [lapS] at ih'
      rw [e56_5]
      cases hb : lapB k l j mo tm with
      | true =>
        rw [hb] at hc ih'
        simp only [e56_0, e56_1, e56_2, e56_3, e56_7, e56_8, e56_11, e56_14, e56_15, e56_16, e56_18, e56_19, e56_20, e56_23, e56_26, e56_27, e56_30, e56_32, e56_33, e56_36, e56_37, e56_38, e56_39, e56_42, e56_45, e56_46, lGet, lSet, asI, asR, asL, popI, popI2, popL, popL2, popR, popV, okS, isLg, Bool.not_false, Bool.not_true, Bool.false_eq_true, if_true, if_false, Option.bind_some, Option.bind_none, catS, okR1, okR20, okR21, okR2b, List.length_cons, List.length_nil, List.drop_succ_cons, List.drop_zero, List.drop_nil, List.take_succ_cons, List.take_zero, List.reverse_cons, List.reverse_nil, List.nil_append, List.cons_append, and_self, true_and, and_true, Nat.reduceAdd, Nat.reduceLeDiff, Nat.zero_add, Nat.le_refl, Nat.zero_le, ite_self, pushR, reduceCtorEq, or_self, or_false, false_or, per_g hP 7 (by decide), per_cl hP, per_d hP, per_dl hP hj6, h7, hlt, hc, bI_t, one_ne, (hl j (by omega)).1, nI_add, nI_1]
        simpa only [if_true] using ih'
      | false =>
        rw [hb] at hc ih'
        simp only [e56_0, e56_1, e56_2, e56_3, e56_7, e56_8, e56_11, e56_14, e56_15, e56_16, e56_18, e56_19, e56_20, e56_23, e56_26, e56_27, e56_30, e56_32, e56_33, e56_36, e56_37, e56_38, e56_39, e56_42, e56_45, e56_46, lGet, lSet, asI, asR, asL, popI, popI2, popL, popL2, popR, popV, okS, isLg, Bool.not_false, Bool.not_true, Bool.false_eq_true, if_true, if_false, Option.bind_some, Option.bind_none, catS, okR1, okR20, okR21, okR2b, List.length_cons, List.length_nil, List.drop_succ_cons, List.drop_zero, List.drop_nil, List.take_succ_cons, List.take_zero, List.reverse_cons, List.reverse_nil, List.nil_append, List.cons_append, and_self, true_and, and_true, Nat.reduceAdd, Nat.reduceLeDiff, Nat.zero_add, Nat.le_refl, Nat.zero_le, ite_self, pushR, reduceCtorEq, or_self, or_false, false_or, per_g hP 7 (by decide), per_cl hP, h7, hlt, hc, bI_f, nI_1, Int32.add_zero]
        simpa only [Bool.false_eq_true, if_false, Nat.add_zero] using ih'
  rw [ev56, e56_0]
  simp only [e56_1, e56_2, e56_3, lGet, lSet, asI, asR, asL, popI, popI2, popL, popL2, popR, popV, okS, isLg, Bool.not_false, Bool.not_true, Bool.false_eq_true, if_true, if_false, Option.bind_some, Option.bind_none, catS, okR1, okR20, okR21, okR2b, List.length_cons, List.length_nil, List.drop_succ_cons, List.drop_zero, List.drop_nil, List.take_succ_cons, List.take_zero, List.reverse_cons, List.reverse_nil, List.nil_append, List.cons_append, and_self, true_and, and_true, Nat.reduceAdd, Nat.reduceLeDiff, Nat.zero_add, Nat.le_refl, Nat.zero_le, ite_self, pushR, reduceCtorEq, or_self, or_false, false_or]
  exact lp l.length 0 (by omega)
/-- the end of a MONTH for a person -/
def pEnd (mo tm : Int32) (p : PT) : PT := match p with
  | (k, le, wo, ca, ow, dn, l) => (k, le, wo, ca, if isOfB k 5 then ow / 2 else ow, dn, keepL (zap k l mo tm l.length))
/-- Person.endMonth -/
theorem c_endMonth (d : Nat) (hP : per P) {s : ST} {p : PT} {mo tm : Int32} (hp : PR s P p) (hok : pOk p) : ∃ s', EvM (d + 3) 57 [.ref P, .int mo, .int tm] (mkH scr s) = some (0, mkH scr s') ∧ PR s' P (pEnd mo tm p) ∧ FrP s s' P := by
  obtain ⟨k, le, wo, ca, ow, dn, l⟩ := p
  obtain ⟨k6, ho, hd, -⟩ := hok
  simp only at k6 ho hd
  have hL := hp.2.2.2.2.2.2
  obtain ⟨h7, hle, hl⟩ := id hL
  simp only at h7 hle hl hL
  have fin : ∀ s1 : ST, FrL s s1 P → LR s1 P (zap k l mo tm l.length) → ∀ x3 : Value, ∃ s', EvI (EvM (d + 2)) C57 0 33 [.ref P, .int mo, .int tm, x3] [] (mkH scr s1) = some (0, mkH scr s') ∧ PR s' P (pEnd mo tm (k, le, wo, ca, ow, dn, l)) ∧ FrP s s' P := by
    intro s1 hF hL1 x3
    obtain ⟨s2, e1, e2, e3⟩ := c_drop (d + 1) (scr := scr) hP hL1 (fun i hi => by
      rw [zap_len] at hi
      have h1 := zap_d (k := k) (l := l) (mo := mo) (tm := tm) l.length i
      have h2 := (hd i hi).1
      omega)
    have hp2 : PR s2 P (k, le, wo, ca, ow, dn, keepL (zap k l mo tm l.length)) := hp.lots (hF.tr e3) e2
    have hio := c_isOf (d + 1) (scr := scr) (s := s2) hP (w := 5) hp2.1 k6 (by decide)
    cases hb : isOfB k 5 with
    | false =>
      rw [hb] at hio
      refine ⟨s2, ?_, ?_, (hF.tr e3).p⟩
      · rw [e57_33]
        simp only [e57_0, e57_1, e57_3, e57_4, e57_7, e57_10, e57_11, e57_12, e57_13, e57_14, e57_17, e57_20, e57_21, e57_24, e57_25, e57_26, e57_27, e57_30, e57_34, e57_37, e57_38, e57_39, e57_42, e57_45, e57_46, e57_47, e57_50, e57_51, e57_52, e57_55, lGet, lSet, asI, asR, asL, popI, popI2, popL, popL2, popR, popV, okS, isLg, Bool.not_false, Bool.not_true, Bool.false_eq_true, if_true, if_false, Option.bind_some, Option.bind_none, catS, okR1, okR20, okR21, okR2b, List.length_cons, List.length_nil, List.drop_succ_cons, List.drop_zero, List.drop_nil, List.take_succ_cons, List.take_zero, List.reverse_cons, List.reverse_nil, List.nil_append, List.cons_append, and_self, true_and, and_true, Nat.reduceAdd, Nat.reduceLeDiff, Nat.zero_add, Nat.le_refl, Nat.zero_le, ite_self, pushR, reduceCtorEq, or_self, or_false, false_or, per_cl hP, e1, show (5 : Int32) = nI 5 from rfl, hio, bI_f]
      · unfold pEnd
        simp only [hb, Bool.false_eq_true, if_false]
        exact hp2
    | true =>
      rw [hb] at hio
      refine ⟨u2 s2 P 5 (nI (ow / 2)), ?_, ?_, (hF.tr e3).p.tr (FrP.n (by decide))⟩
      · rw [e57_33]
        have hdv : nI ow / 2 = nI (ow / 2) := pk_div (a := ow) (d := 2) (by omega) (by decide) (by decide)
        simp only [e57_0, e57_1, e57_3, e57_4, e57_7, e57_10, e57_11, e57_12, e57_13, e57_14, e57_17, e57_20, e57_21, e57_24, e57_25, e57_26, e57_27, e57_30, e57_34, e57_37, e57_38, e57_39, e57_42, e57_45, e57_46, e57_47, e57_50, e57_51, e57_52, e57_55, lGet, lSet, asI, asR, asL, popI, popI2, popL, popL2, popR, popV, okS, isLg, Bool.not_false, Bool.not_true, Bool.false_eq_true, if_true, if_false, Option.bind_some, Option.bind_none, catS, okR1, okR20, okR21, okR2b, List.length_cons, List.length_nil, List.drop_succ_cons, List.drop_zero, List.drop_nil, List.take_succ_cons, List.take_zero, List.reverse_cons, List.reverse_nil, List.nil_append, List.cons_append, and_self, true_and, and_true, Nat.reduceAdd, Nat.reduceLeDiff, Nat.zero_add, Nat.le_refl, Nat.zero_le, ite_self, pushR, reduceCtorEq, or_self, or_false, false_or, per_cl hP, e1, show (5 : Int32) = nI 5 from rfl, hio, bI_t, one_ne, per_g hP 5 (by decide), per_p hP 5 (by decide), hp2.2.2.2.2.1, hdv, show ((2 : Int32) = 0) = False from by decide]
      · unfold pEnd
        simp only [hb, if_true]
        obtain ⟨h1, h2, h3, h4, h5, h6, h7⟩ := hp2
        exact ⟨by rw [u2_oth _ _ (by omega)]; exact h1, by rw [u2_oth _ _ (by omega)]; exact h2, by rw [u2_oth _ _ (by omega)]; exact h3, by rw [u2_oth _ _ (by omega)]; exact h4, by rw [u2_same], by rw [u2_oth _ _ (by omega)]; exact h6, LR_u h7 (by decide)⟩
  have lp : ∀ m j : Nat, j + m = l.length → ∀ s1 : ST, FrL s s1 P → LR s1 P (zap k l mo tm j) → ∃ s', EvI (EvM (d + 2)) C57 0 2 [.ref P, .int mo, .int tm, .int (nI j)] [] (mkH scr s1) = some (0, mkH scr s') ∧ PR s' P (pEnd mo tm (k, le, wo, ca, ow, dn, l)) ∧ FrP s s' P := by
    intro m
    induction m with
    | zero =>
      intro j hj s1 hF hL1
      have e : j = l.length := by omega
      subst e
      obtain ⟨s', e1, e2, e3⟩ := fin s1 hF hL1 (.int (nI l.length))
      refine ⟨s', ?_, e2, e3⟩
      have g7 := hL1.1
      rw [zap_len] at g7
      rw [e57_2]
      simp only [e57_0, e57_1, e57_3, e57_4, e57_7, e57_10, e57_11, e57_12, e57_13, e57_14, e57_17, e57_20, e57_21, e57_24, e57_25, e57_26, e57_27, e57_30, e57_34, e57_37, e57_38, e57_39, e57_42, e57_45, e57_46, e57_47, e57_50, e57_51, e57_52, e57_55, lGet, lSet, asI, asR, asL, popI, popI2, popL, popL2, popR, popV, okS, isLg, Bool.not_false, Bool.not_true, Bool.false_eq_true, if_true, if_false, Option.bind_some, Option.bind_none, catS, okR1, okR20, okR21, okR2b, List.length_cons, List.length_nil, List.drop_succ_cons, List.drop_zero, List.drop_nil, List.take_succ_cons, List.take_zero, List.reverse_cons, List.reverse_nil, List.nil_append, List.cons_append, and_self, true_and, and_true, Nat.reduceAdd, Nat.reduceLeDiff, Nat.zero_add, Nat.le_refl, Nat.zero_le, ite_self, pushR, reduceCtorEq, or_self, or_false, false_or, per_g hP 7 (by decide), g7, Int32.le_refl]
      exact e1
    | succ m ih =>
      intro j hj s1 hF hL1
      have hlt : ¬ nI l.length ≤ nI j := nI_ge (by omega) (by omega)
      have hj6 : j < 6 := by omega
      have g7 := hL1.1
      rw [zap_len] at g7
      have hk1 : s1.1 P 1 = nI k := by rw [hF.2 P 1 (by omega) (by omega) (by omega)]; exact hp.1
      have hc := c_lapses d (scr := scr) (mo := mo) (tm := tm) hP hk1 k6 hL1 (i := j) (by rw [zap_len]; omega)
      have hlb : lapB k (zap k l mo tm j) j mo tm = lapB k l j mo tm := by unfold lapB; rw [zap_m]
      rw [hlb] at hc
      cases hb : lapB k l j mo tm with
      | true =>
        rw [hb] at hc
        have hz : zap k l mo tm (j + 1) = (zap k l mo tm j).set j (0, lt_m (zap k l mo tm j) j) := by rw [zap, if_pos hb, zap_m]
        have hL2 : LR (u2 s1 (P + 1) j 0) P (zap k l mo tm (j + 1)) := by
          rw [hz]
          exact LR_set (x := 0) hL1 (by rw [zap_len]; omega)
        obtain ⟨s', e1, e2, e3⟩ := ih (j + 1) (by omega) _ (hF.tr FrL.d) hL2
        refine ⟨s', ?_, e2, e3⟩
        rw [e57_2]
        simp only [e57_0, e57_1, e57_3, e57_4, e57_7, e57_10, e57_11, e57_12, e57_13, e57_14, e57_17, e57_20, e57_21, e57_24, e57_25, e57_26, e57_27, e57_30, e57_34, e57_37, e57_38, e57_39, e57_42, e57_45, e57_46, e57_47, e57_50, e57_51, e57_52, e57_55, lGet, lSet, asI, asR, asL, popI, popI2, popL, popL2, popR, popV, okS, isLg, Bool.not_false, Bool.not_true, Bool.false_eq_true, if_true, if_false, Option.bind_some, Option.bind_none, catS, okR1, okR20, okR21, okR2b, List.length_cons, List.length_nil, List.drop_succ_cons, List.drop_zero, List.drop_nil, List.take_succ_cons, List.take_zero, List.reverse_cons, List.reverse_nil, List.nil_append, List.cons_append, and_self, true_and, and_true, Nat.reduceAdd, Nat.reduceLeDiff, Nat.zero_add, Nat.le_refl, Nat.zero_le, ite_self, pushR, reduceCtorEq, or_self, or_false, false_or, per_g hP 7 (by decide), per_cl hP, per_d hP, per_ds hP hj6, g7, hlt, hc, bI_t, one_ne, nI_1]
        exact e1
      | false =>
        rw [hb] at hc
        have hz : zap k l mo tm (j + 1) = zap k l mo tm j := by rw [zap, if_neg (by rw [hb]; decide)]
        obtain ⟨s', e1, e2, e3⟩ := ih (j + 1) (by omega) s1 hF (by rw [hz]; exact hL1)
        refine ⟨s', ?_, e2, e3⟩
        rw [e57_2]
        simp only [e57_0, e57_1, e57_3, e57_4, e57_7, e57_10, e57_11, e57_12, e57_13, e57_14, e57_17, e57_20, e57_21, e57_24, e57_25, e57_26, e57_27, e57_30, e57_34, e57_37, e57_38, e57_39, e57_42, e57_45, e57_46, e57_47, e57_50, e57_51, e57_52, e57_55, lGet, lSet, asI, asR, asL, popI, popI2, popL, popL2, popR, popV, okS, isLg, Bool.not_false, Bool.not_true, Bool.false_eq_true, if_true, if_false, Option.bind_some, Option.bind_none, catS, okR1, okR20, okR21, okR2b, List.length_cons, List.length_nil, List.drop_succ_cons, List.drop_zero, List.drop_nil, List.take_succ_cons, List.take_zero, List.reverse_cons, List.reverse_nil, List.nil_append, List.cons_append, and_self, true_and, and_true, Nat.reduceAdd, Nat.reduceLeDiff, Nat.zero_add, Nat.le_refl, Nat.zero_le, ite_self, pushR, reduceCtorEq, or_self, or_false, false_or, per_g hP 7 (by decide), per_cl hP, g7, hlt, hc, bI_f, nI_1]
        exact e1
  obtain ⟨s', e1, e2, e3⟩ := lp l.length 0 (by omega) s (FrL.rf s P) hL
  refine ⟨s', ?_, e2, e3⟩
  rw [ev57, e57_0]
  simp only [e57_1, lGet, lSet, asI, asR, asL, popI, popI2, popL, popL2, popR, popV, okS, isLg, Bool.not_false, Bool.not_true, Bool.false_eq_true, if_true, if_false, Option.bind_some, Option.bind_none, catS, okR1, okR20, okR21, okR2b, List.length_cons, List.length_nil, List.drop_succ_cons, List.drop_zero, List.drop_nil, List.take_succ_cons, List.take_zero, List.reverse_cons, List.reverse_nil, List.nil_append, List.cons_append, and_self, true_and, and_true, Nat.reduceAdd, Nat.reduceLeDiff, Nat.zero_add, Nat.le_refl, Nat.zero_le, ite_self, pushR, reduceCtorEq, or_self, or_false, false_or]
  exact e1
/-- Person.clear -/
theorem c_clear (d : Nat) (hP : per P) (s : ST) : ∃ s', EvM (d + 1) 47 [.ref P] (mkH scr s) = some (0, mkH scr s') ∧ PR s' P (0, 0, 0, 0, 0, 0, []) ∧ FrP s s' P := by
  refine ⟨u2 (u2 (u2 (u2 (u2 (u2 (u2 s P 1 0) P 2 0) P 3 0) P 4 0) P 5 0) P 6 0) P 7 0, ?_, ?_, ?_⟩
  · rw [ev47, e47_0]
    simp only [e47_0, e47_1, e47_2, e47_5, e47_6, e47_7, e47_10, e47_11, e47_12, e47_15, e47_16, e47_17, e47_20, e47_21, e47_22, e47_25, e47_26, e47_27, e47_30, e47_31, e47_32, e47_35, lGet, lSet, asI, asR, asL, popI, popI2, popL, popL2, popR, popV, okS, isLg, Bool.not_false, Bool.not_true, Bool.false_eq_true, if_true, if_false, Option.bind_some, Option.bind_none, catS, okR1, okR20, okR21, okR2b, List.length_cons, List.length_nil, List.drop_succ_cons, List.drop_zero, List.drop_nil, List.take_succ_cons, List.take_zero, List.reverse_cons, List.reverse_nil, List.nil_append, List.cons_append, and_self, true_and, and_true, Nat.reduceAdd, Nat.reduceLeDiff, Nat.zero_add, Nat.le_refl, Nat.zero_le, ite_self, pushR, reduceCtorEq, or_self, or_false, false_or, per_p hP 1 (by decide), per_p hP 2 (by decide), per_p hP 3 (by decide), per_p hP 4 (by decide), per_p hP 5 (by decide), per_p hP 6 (by decide), per_p hP 7 (by decide)]
  · refine ⟨by simp [u2, nI_0], by simp [u2, nI_0], by simp [u2, nI_0], by simp [u2], by simp [u2, nI_0], by simp [u2], by simp [u2, nI_0], by decide, fun i hi => ?_⟩
    exact absurd hi (Nat.not_lt_zero i)
  · exact (((((FrP.n (by decide)).tr (FrP.n (by decide))).tr (FrP.n (by decide))).tr (FrP.n (by decide))).tr (FrP.n (by decide))).tr ((FrP.n (by decide)).tr (FrP.n (by decide)))
/-- Person.fortune -/
theorem c_fortune (d : Nat) (hP : per P) {s : ST} {p : PT} (hp : PR s P p) : EvM (d + 2) 51 [.ref P] (mkH scr s) = some (nI p.2.2.1 * nI (sumD p.2.2.2.2.2.2) + p.2.2.2.1, mkH scr s) := by
  have hu := c_unspent d (scr := scr) hP hp.2.2.2.2.2.2
  rw [ev51, e51_0]
  simp only [e51_0, e51_1, e51_4, e51_5, e51_8, e51_9, e51_10, e51_13, e51_14, lGet, lSet, asI, asR, asL, popI, popI2, popL, popL2, popR, popV, okS, isLg, Bool.not_false, Bool.not_true, Bool.false_eq_true, if_true, if_false, Option.bind_some, Option.bind_none, catS, okR1, okR20, okR21, okR2b, List.length_cons, List.length_nil, List.drop_succ_cons, List.drop_zero, List.drop_nil, List.take_succ_cons, List.take_zero, List.reverse_cons, List.reverse_nil, List.nil_append, List.cons_append, and_self, true_and, and_true, Nat.reduceAdd, Nat.reduceLeDiff, Nat.zero_add, Nat.le_refl, Nat.zero_le, ite_self, pushR, reduceCtorEq, or_self, or_false, false_or, per_cl hP, per_g hP 3 (by decide), per_g hP 4 (by decide), hp.2.2.1, hp.2.2.2.1, hu]
/-- Person.copyFrom: the other person's values come over -/
theorem c_copy (d : Nat) {O : Nat} (hP : per P) (hO : per O) (hne : O + 2 < P ∨ P + 2 < O) {s : ST} {p : PT} (hp : PR s O p) : ∃ s', EvM (d + 1) 48 [.ref P, .ref O] (mkH scr s) = some (0, mkH scr s') ∧ PR s' P p ∧ FrP s s' P := by
  obtain ⟨k, le, wo, ca, ow, dn, l⟩ := p
  obtain ⟨h1, h2, h3, h4, h5, h6, h7, hle, hl⟩ := hp
  simp only at h1 h2 h3 h4 h5 h6 h7 hle hl
  -- the loop over the lots
  have lp : ∀ m j : Nat, j + m = l.length → ∀ s1 : ST, (∀ a, a ≠ P → a ≠ P + 1 → a ≠ P + 2 → s1.1 a = s.1 a) → FrP s s1 P → PR s1 P (k, le, wo, ca, ow, dn, l.take j) ∨ True → s1.1 P 7 = nI l.length → (∀ i, i < j → s1.1 (P + 1) i = nI (lt_d l i) ∧ s1.1 (P + 2) i = nI (lt_m l i)) → ∃ s', EvI (EvM d) C48 0 58 [.ref P, .ref O, .int (nI j)] [] (mkH scr s1) = some (0, mkH scr s') ∧ (∀ i, i < l.length → s'.1 (P + 1) i = nI (lt_d l i) ∧ s'.1 (P + 2) i = nI (lt_m l i)) ∧ s'.1 P = s1.1 P ∧ FrP s s' P := by
    intro m
    induction m with
    | zero =>
      intro j hj s1 hF hFr _ g7 hlo
      have e : j = l.length := by omega
      subst e
      refine ⟨s1, ?_, hlo, rfl, hFr⟩
      rw [e48_58]
      simp only [e48_0, e48_1, e48_2, e48_5, e48_8, e48_9, e48_10, e48_13, e48_16, e48_17, e48_18, e48_21, e48_24, e48_25, e48_26, e48_29, e48_32, e48_33, e48_34, e48_37, e48_40, e48_41, e48_42, e48_45, e48_48, e48_49, e48_50, e48_53, e48_56, e48_57, e48_59, e48_60, e48_63, e48_66, e48_67, e48_70, e48_71, e48_72, e48_75, e48_76, e48_77, e48_78, e48_79, e48_82, e48_83, e48_84, e48_87, e48_88, e48_89, e48_90, e48_93, e48_96, lGet, lSet, asI, asR, asL, popI, popI2, popL, popL2, popR, popV, okS, isLg, Bool.not_false, Bool.not_true, Bool.false_eq_true, if_true, if_false, Option.bind_some, Option.bind_none, catS, okR1, okR20, okR21, okR2b, List.length_cons, List.length_nil, List.drop_succ_cons, List.drop_zero, List.drop_nil, List.take_succ_cons, List.take_zero, List.reverse_cons, List.reverse_nil, List.nil_append, List.cons_append, and_self, true_and, and_true, Nat.reduceAdd, Nat.reduceLeDiff, Nat.zero_add, Nat.le_refl, Nat.zero_le, ite_self, pushR, reduceCtorEq, or_self, or_false, false_or, per_g hP 7 (by decide), g7, Int32.le_refl]
    | succ m ih =>
      intro j hj s1 hF hFr _ g7 hlo
      have hlt : ¬ nI l.length ≤ nI j := nI_ge (by omega) (by omega)
      have hj6 : j < 6 := by omega
      have hO1 : s1.1 (O + 1) j = nI (lt_d l j) := by rw [hF (O + 1) (by omega) (by omega) (by omega)]; exact (hl j (by omega)).1
      have hO2 : s1.1 (O + 2) j = nI (lt_m l j) := by rw [hF (O + 2) (by omega) (by omega) (by omega)]; exact (hl j (by omega)).2
      obtain ⟨s', e1, e2, e3, e4⟩ := ih (j + 1) (by omega) (u2 (u2 s1 (P + 1) j (nI (lt_d l j))) (P + 2) j (nI (lt_m l j)))
        (fun a b1 b2 b3 => by rw [u2_adr _ _ b3, u2_adr _ _ b2]; exact hF a b1 b2 b3)
        (hFr.tr ((FrL.d.tr FrL.m).p)) (Or.inr trivial) (by rw [u2_oth _ _ (by omega), u2_oth _ _ (by omega)]; exact g7)
        (fun i hi => by
          by_cases hij : i = j
          · subst hij
            rw [u2_oth _ _ (by omega), u2_same, u2_same]
            exact ⟨rfl, rfl⟩
          · rw [u2_oth _ _ (by omega), u2_oth _ _ (by omega), u2_oth _ _ (by omega), u2_oth _ _ (by omega)]
            exact hlo i (by omega))
      refine ⟨s', ?_, e2, by rw [e3, u2_adr _ _ (by omega), u2_adr _ _ (by omega)], e4⟩
      have hO2' : ∀ x, (u2 s1 (P + 1) j x).1 (O + 2) j = nI (lt_m l j) := fun x => by rw [u2_adr _ _ (by omega)]; exact hO2
      rw [e48_58]
      simp only [e48_0, e48_1, e48_2, e48_5, e48_8, e48_9, e48_10, e48_13, e48_16, e48_17, e48_18, e48_21, e48_24, e48_25, e48_26, e48_29, e48_32, e48_33, e48_34, e48_37, e48_40, e48_41, e48_42, e48_45, e48_48, e48_49, e48_50, e48_53, e48_56, e48_57, e48_59, e48_60, e48_63, e48_66, e48_67, e48_70, e48_71, e48_72, e48_75, e48_76, e48_77, e48_78, e48_79, e48_82, e48_83, e48_84, e48_87, e48_88, e48_89, e48_90, e48_93, e48_96, lGet, lSet, asI, asR, asL, popI, popI2, popL, popL2, popR, popV, okS, isLg, Bool.not_false, Bool.not_true, Bool.false_eq_true, if_true, if_false, Option.bind_some, Option.bind_none, catS, okR1, okR20, okR21, okR2b, List.length_cons, List.length_nil, List.drop_succ_cons, List.drop_zero, List.drop_nil, List.take_succ_cons, List.take_zero, List.reverse_cons, List.reverse_nil, List.nil_append, List.cons_append, and_self, true_and, and_true, Nat.reduceAdd, Nat.reduceLeDiff, Nat.zero_add, Nat.le_refl, Nat.zero_le, ite_self, pushR, reduceCtorEq, or_self, or_false, false_or, per_g hP 7 (by decide), per_d hP, per_c hP, per_d hO, per_c hO, per_dl hO hj6, per_ml hO hj6, per_ds hP hj6, per_ms hP hj6, g7, hlt, hO1, hO2', nI_1]
      exact e1
  have hOk : ∀ s0 : ST, ∀ x j q, j ≠ 0 → (u2 s0 P j x).1 O q = s0.1 O q := fun s0 x j q _ => by rw [u2_adr _ _ (by omega)]
  obtain ⟨s', e1, e2, e3, e4⟩ := lp l.length 0 (by omega) (u2 (u2 (u2 (u2 (u2 (u2 (u2 s P 1 (nI k)) P 2 (nI le)) P 3 (nI wo)) P 4 ca) P 5 (nI ow)) P 6 dn) P 7 (nI l.length))
    (fun a b1 _ _ => by rw [u2_adr _ _ b1, u2_adr _ _ b1, u2_adr _ _ b1, u2_adr _ _ b1, u2_adr _ _ b1, u2_adr _ _ b1, u2_adr _ _ b1])
    ((((((FrP.n (by decide)).tr (FrP.n (by decide))).tr (FrP.n (by decide))).tr (FrP.n (by decide))).tr (FrP.n (by decide))).tr ((FrP.n (by decide)).tr (FrP.n (by decide)))) (Or.inr trivial) (u2_same _ _ _ _) (fun i hi => absurd hi (Nat.not_lt_zero i))
  refine ⟨s', ?_, ⟨by rw [e3]; simp [u2], by rw [e3]; simp [u2], by rw [e3]; simp [u2], by rw [e3]; simp [u2], by rw [e3]; simp [u2], by rw [e3]; simp [u2], by rw [e3]; simp [u2], hle, e2⟩, e4⟩
  rw [ev48, e48_0]
  have hPO : O ≠ P := by omega
  simp only [e48_0, e48_1, e48_2, e48_5, e48_8, e48_9, e48_10, e48_13, e48_16, e48_17, e48_18, e48_21, e48_24, e48_25, e48_26, e48_29, e48_32, e48_33, e48_34, e48_37, e48_40, e48_41, e48_42, e48_45, e48_48, e48_49, e48_50, e48_53, e48_56, e48_57, e48_59, e48_60, e48_63, e48_66, e48_67, e48_70, e48_71, e48_72, e48_75, e48_76, e48_77, e48_78, e48_79, e48_82, e48_83, e48_84, e48_87, e48_88, e48_89, e48_90, e48_93, e48_96, lGet, lSet, asI, asR, asL, popI, popI2, popL, popL2, popR, popV, okS, isLg, Bool.not_false, Bool.not_true, Bool.false_eq_true, if_true, if_false, Option.bind_some, Option.bind_none, catS, okR1, okR20, okR21, okR2b, List.length_cons, List.length_nil, List.drop_succ_cons, List.drop_zero, List.drop_nil, List.take_succ_cons, List.take_zero, List.reverse_cons, List.reverse_nil, List.nil_append, List.cons_append, and_self, true_and, and_true, Nat.reduceAdd, Nat.reduceLeDiff, Nat.zero_add, Nat.le_refl, Nat.zero_le, ite_self, pushR, reduceCtorEq, or_self, or_false, false_or, per_g hO 1 (by decide), per_g hO 2 (by decide), per_g hO 3 (by decide), per_g hO 4 (by decide), per_g hO 5 (by decide), per_g hO 6 (by decide), per_g hO 7 (by decide), per_p hP 1 (by decide), per_p hP 2 (by decide), per_p hP 3 (by decide), per_p hP 4 (by decide), per_p hP 5 (by decide), per_p hP 6 (by decide), per_p hP 7 (by decide), u2_adr _ _ hPO, h1, h2, h3, h4, h5, h6, h7]
  exact e1
end PM5
