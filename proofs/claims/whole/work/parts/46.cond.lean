/-! ===== what the calls share: bounds ===== -/
/-- between two numbers -/
def inR (x : Int32) (a b : Nat) : Bool := decide (nI a ≤ x ∧ x ≤ nI b)
theorem inR_of {x : Int32} {a b : Nat} (ha : a < 2147483648) (hb : b < 2147483648) (h : inR x a b = true) : ∃ j, a ≤ j ∧ j ≤ b ∧ x = nI j := by
  unfold inR at h
  obtain ⟨h1, h2⟩ := of_decide_eq_true h
  have h1' := Int32.le_iff_toInt_le.mp h1
  have h2' := Int32.le_iff_toInt_le.mp h2
  rw [nI_toInt (by omega)] at h1' h2'
  have h3 : ¬ x < 0 := by
    rw [Int32.lt_iff_toInt_lt]
    show ¬ x.toInt < 0
    omega
  obtain ⟨j, hj, rfl⟩ := nI_of h3
  rw [nI_toInt (by omega)] at h1' h2'
  exact ⟨j, by omega, by omega, rfl⟩
theorem inR_T {j a b : Nat} (h1 : a ≤ j) (h2 : j ≤ b) (hb : b < 2147483648) : inR (nI j) a b = true := decide_eq_true ⟨nI_le h1 (by omega), nI_le h2 (by omega)⟩
theorem inR_F1 {j a b : Nat} (h1 : j < a) (ha : a < 2147483648) : inR (nI j) a b = false := decide_eq_false (fun z => nI_ge h1 (by omega) z.1)
theorem inR_F2 {j a b : Nat} (h1 : b < j) (ha : j < 2147483648) : inR (nI j) a b = false := decide_eq_false (fun z => nI_ge h1 (by omega) z.2)
/-- one of n: none, or x is its number -/
theorem inB_of {x : Int32} {n : Nat} (hn : n < 2147483648) (h : inB x n = true) : ∃ j, j < n ∧ x = nI j := vp_in_of (inB_iff.mp h) (by omega)
theorem inB_T {j n : Nat} (h : j < n) (hn : n < 2147483648) : inB (nI j) n = true := in_nI h hn
theorem inB_F {j n : Nat} (h : n ≤ j) (hn : j < 2147483648) : inB (nI j) n = false := by
  cases hb : inB (nI j) n with
  | false => rfl
  | true =>
    obtain ⟨i, hi, e⟩ := inB_of (by omega) hb
    have := (nI_eq (by omega) (by omega)).mp e
    omega
theorem inB_R {x : Int32} {n : Nat} (hn : n < 2147483648) : inB x n = decide (0 ≤ x ∧ x ≤ nI n - 1) := by
  have h1 := inB_iff (i := x) (n := n)
  rw [vp_in_iff] at h1
  have h2 : (nI n - 1).toInt = (n : Int) - 1 := by
    rw [Int32.toInt_sub, nI_toInt (by omega)]
    show Int.bmod ((n : Int) - 1) (2 ^ 32) = _
    exact Int.bmod_eq_of_le (by omega) (by omega)
  have h3 : (0 ≤ x ∧ x ≤ nI n - 1) ↔ (0 ≤ x.toInt ∧ x.toInt < n) := by
    rw [Int32.le_iff_toInt_le, Int32.le_iff_toInt_le, h2]
    show (0 ≤ x.toInt ∧ _) ↔ _
    omega
  cases hb : inB x n with
  | true => exact (decide_eq_true (h3.mpr (h1.mp hb))).symm
  | false => exact (decide_eq_false (fun z => by rw [h1.mpr (h3.mp z)] at hb; cases hb)).symm
/-- places i .. i + n of a row of z -/
def spanB (i n : Int32) (z : Nat) : Bool := decide (0 ≤ i.toInt ∧ 0 ≤ n.toInt ∧ i.toInt + n.toInt ≤ z)
theorem spanB_of {i n : Int32} {z : Nat} (hz : z < 2147483648) (h : spanB i n z = true) : ∃ a b, a + b ≤ z ∧ i = nI a ∧ n = nI b := by
  obtain ⟨h1, h2, h3⟩ := of_decide_eq_true h
  have g1 : ¬ i < 0 := by rw [Int32.lt_iff_toInt_lt]; show ¬ i.toInt < 0; omega
  have g2 : ¬ n < 0 := by rw [Int32.lt_iff_toInt_lt]; show ¬ n.toInt < 0; omega
  obtain ⟨a, ha, rfl⟩ := nI_of g1
  obtain ⟨b, hb, rfl⟩ := nI_of g2
  rw [nI_toInt ha, nI_toInt hb] at h3
  exact ⟨a, b, by omega, rfl, rfl⟩
theorem spanB_T {a b z : Nat} (h : a + b ≤ z) (hz : z < 2147483648) : spanB (nI a) (nI b) z = true := decide_eq_true (by rw [nI_toInt (by omega), nI_toInt (by omega)]; omega)
section CND
variable {scr : Nat × (Nat → Int32)} {s : ST} {h : Hp}
theorem c_within (d : Nat) (x a b : Int32) : EvM (d + 1) 121 [.int x, .int a, .int b] h = some (bI (decide (a ≤ x ∧ x ≤ b)), h) := by
  rw [ev121, e121_0]
  by_cases h1 : x < a
  · have : ¬ a ≤ x := Int32.not_le.mpr h1
    simp (disch := omega) only [e121_0, e121_1, e121_2, e121_5, e121_6, e121_7, e121_10, e121_11, e121_14, e121_15, ↓reduceIte, ↓gi0, ↓gr0, ↓gl0, ↓gi1, ↓gr1, ↓gl1, ↓gi2, ↓gr2, ↓gl2, ↓gi3, ↓gr3, ↓gl3, ↓gi4, ↓gr4, ↓gl4, ↓gi5, ↓gr5, ↓gl5, ↓gi6, ↓gr6, ↓gl6, ↓gi7, ↓gr7, ↓gl7, ↓gi8, ↓gr8, ↓gl8, ↓gi9, ↓gr9, ↓gl9, ↓qI, ↓qI2, ↓qL, ↓qL2, ↓qR, ↓qV, ↓pd0, ↓ta0, ↓ts0, ↓pd1, ↓ta1, ↓ts1, ↓pd2, ↓ta2, ↓ts2, ↓pd3, ↓ta3, ↓ts3, ↓pd4, ↓ta4, ↓ts4, ↓pd5, ↓ta5, ↓ts5, ↓pd6, ↓ta6, ↓ts6, lGet, lSet, okS, isLg, Bool.not_false, Bool.not_true, Bool.false_eq_true, not_false_eq_true, not_true_eq_false, catS, okR1, okR20, okR21, okR2b, List.length_cons, List.length_nil, List.drop_succ_cons, List.drop_zero, List.drop_nil, and_self, true_and, and_true, false_and, and_false, Nat.reduceAdd, Nat.reduceLeDiff, Nat.zero_add, Nat.le_refl, Nat.zero_le, pushR, reduceCtorEq, or_self, or_false, false_or, true_or, or_true, h1, this, decide_false, bI_f]
  · have h1' : a ≤ x := Int32.not_lt.mp h1
    by_cases h2 : b < x
    · have : ¬ x ≤ b := Int32.not_le.mpr h2
      simp (disch := omega) only [e121_0, e121_1, e121_2, e121_5, e121_6, e121_7, e121_10, e121_11, e121_14, e121_15, ↓reduceIte, ↓gi0, ↓gr0, ↓gl0, ↓gi1, ↓gr1, ↓gl1, ↓gi2, ↓gr2, ↓gl2, ↓gi3, ↓gr3, ↓gl3, ↓gi4, ↓gr4, ↓gl4, ↓gi5, ↓gr5, ↓gl5, ↓gi6, ↓gr6, ↓gl6, ↓gi7, ↓gr7, ↓gl7, ↓gi8, ↓gr8, ↓gl8, ↓gi9, ↓gr9, ↓gl9, ↓qI, ↓qI2, ↓qL, ↓qL2, ↓qR, ↓qV, ↓pd0, ↓ta0, ↓ts0, ↓pd1, ↓ta1, ↓ts1, ↓pd2, ↓ta2, ↓ts2, ↓pd3, ↓ta3, ↓ts3, ↓pd4, ↓ta4, ↓ts4, ↓pd5, ↓ta5, ↓ts5, ↓pd6, ↓ta6, ↓ts6, lGet, lSet, okS, isLg, Bool.not_false, Bool.not_true, Bool.false_eq_true, not_false_eq_true, not_true_eq_false, catS, okR1, okR20, okR21, okR2b, List.length_cons, List.length_nil, List.drop_succ_cons, List.drop_zero, List.drop_nil, and_self, true_and, and_true, false_and, and_false, Nat.reduceAdd, Nat.reduceLeDiff, Nat.zero_add, Nat.le_refl, Nat.zero_le, pushR, reduceCtorEq, or_self, or_false, false_or, true_or, or_true, h1, h2, this, decide_false, bI_f]
    · have h2' : x ≤ b := Int32.not_lt.mp h2
      simp (disch := omega) only [e121_0, e121_1, e121_2, e121_5, e121_6, e121_7, e121_10, e121_11, e121_14, e121_15, ↓reduceIte, ↓gi0, ↓gr0, ↓gl0, ↓gi1, ↓gr1, ↓gl1, ↓gi2, ↓gr2, ↓gl2, ↓gi3, ↓gr3, ↓gl3, ↓gi4, ↓gr4, ↓gl4, ↓gi5, ↓gr5, ↓gl5, ↓gi6, ↓gr6, ↓gl6, ↓gi7, ↓gr7, ↓gl7, ↓gi8, ↓gr8, ↓gl8, ↓gi9, ↓gr9, ↓gl9, ↓qI, ↓qI2, ↓qL, ↓qL2, ↓qR, ↓qV, ↓pd0, ↓ta0, ↓ts0, ↓pd1, ↓ta1, ↓ts1, ↓pd2, ↓ta2, ↓ts2, ↓pd3, ↓ta3, ↓ts3, ↓pd4, ↓ta4, ↓ts4, ↓pd5, ↓ta5, ↓ts5, ↓pd6, ↓ta6, ↓ts6, lGet, lSet, okS, isLg, Bool.not_false, Bool.not_true, Bool.false_eq_true, not_false_eq_true, not_true_eq_false, catS, okR1, okR20, okR21, okR2b, List.length_cons, List.length_nil, List.drop_succ_cons, List.drop_zero, List.drop_nil, and_self, true_and, and_true, false_and, and_false, Nat.reduceAdd, Nat.reduceLeDiff, Nat.zero_add, Nat.le_refl, Nat.zero_le, pushR, reduceCtorEq, or_self, or_false, false_or, true_or, or_true, h1, h2, h1', h2', decide_true, bI_t]
theorem c_withinN (d : Nat) (x : Int32) (a b : Nat) : EvM (d + 1) 121 [.int x, .int (nI a), .int (nI b)] h = some (bI (inR x a b), h) := c_within d x (nI a) (nI b)
theorem c_isRow (d : Nat) (x : Int32) : EvM (d + 2) 122 [.int x] h = some (bI (inB x 8), h) := by
  have hw := c_within (h := h) d x 0 7
  rw [ev122, e122_0]
  have e : decide (0 ≤ x ∧ x ≤ 7) = inB x 8 := (inB_R (x := x) (n := 8) (by decide)).symm
  rw [e] at hw
  simp (disch := omega) only [e122_0, e122_1, e122_2, e122_4, e122_7, ↓reduceIte, ↓gi0, ↓gr0, ↓gl0, ↓gi1, ↓gr1, ↓gl1, ↓gi2, ↓gr2, ↓gl2, ↓gi3, ↓gr3, ↓gl3, ↓gi4, ↓gr4, ↓gl4, ↓gi5, ↓gr5, ↓gl5, ↓gi6, ↓gr6, ↓gl6, ↓gi7, ↓gr7, ↓gl7, ↓gi8, ↓gr8, ↓gl8, ↓gi9, ↓gr9, ↓gl9, ↓qI, ↓qI2, ↓qL, ↓qL2, ↓qR, ↓qV, ↓pd0, ↓ta0, ↓ts0, ↓pd1, ↓ta1, ↓ts1, ↓pd2, ↓ta2, ↓ts2, ↓pd3, ↓ta3, ↓ts3, ↓pd4, ↓ta4, ↓ts4, ↓pd5, ↓ta5, ↓ts5, ↓pd6, ↓ta6, ↓ts6, lGet, lSet, okS, isLg, Bool.not_false, Bool.not_true, Bool.false_eq_true, not_false_eq_true, not_true_eq_false, catS, okR1, okR20, okR21, okR2b, List.length_cons, List.length_nil, List.drop_succ_cons, List.drop_zero, List.drop_nil, and_self, true_and, and_true, false_and, and_false, Nat.reduceAdd, Nat.reduceLeDiff, Nat.zero_add, Nat.le_refl, Nat.zero_le, pushR, reduceCtorEq, or_self, or_false, false_or, true_or, or_true, ↓bnd hw]
theorem c_isPerson (d : Nat) (x : Int32) {n : Nat} (hn : s.1 531 3 = nI n) (h6 : n ≤ 6) : EvM (d + 2) 123 [.ref 2, .int x] (mkH scr s) = some (bI (inB x n), mkH scr s) := by
  have hw := c_within (h := mkH scr s) d x 0 (nI n - 1)
  rw [← inB_R (by omega)] at hw
  rw [ev123, e123_0]
  simp (disch := omega) only [e123_0, e123_1, e123_2, e123_3, e123_6, e123_9, e123_10, e123_11, e123_14, ↓reduceIte, ↓gi0, ↓gr0, ↓gl0, ↓gi1, ↓gr1, ↓gl1, ↓gi2, ↓gr2, ↓gl2, ↓gi3, ↓gr3, ↓gl3, ↓gi4, ↓gr4, ↓gl4, ↓gi5, ↓gr5, ↓gl5, ↓gi6, ↓gr6, ↓gl6, ↓gi7, ↓gr7, ↓gl7, ↓gi8, ↓gr8, ↓gl8, ↓gi9, ↓gr9, ↓gl9, ↓qI, ↓qI2, ↓qL, ↓qL2, ↓qR, ↓qV, ↓pd0, ↓ta0, ↓ts0, ↓pd1, ↓ta1, ↓ts1, ↓pd2, ↓ta2, ↓ts2, ↓pd3, ↓ta3, ↓ts3, ↓pd4, ↓ta4, ↓ts4, ↓pd5, ↓ta5, ↓ts5, ↓pd6, ↓ta6, ↓ts6, lGet, lSet, okS, isLg, Bool.not_false, Bool.not_true, Bool.false_eq_true, not_false_eq_true, not_true_eq_false, catS, okR1, okR20, okR21, okR2b, List.length_cons, List.length_nil, List.drop_succ_cons, List.drop_zero, List.drop_nil, and_self, true_and, and_true, false_and, and_false, Nat.reduceAdd, Nat.reduceLeDiff, Nat.zero_add, Nat.le_refl, Nat.zero_le, pushR, reduceCtorEq, or_self, or_false, false_or, true_or, or_true, K2, ↓G2_0, ↓G2_1, ↓G2_2, ↓G2_3, ↓G2_4, ↓G2_5, ↓G2_6, ↓G2_7, ↓G2_8, ↓G2_9, ↓G2_10, ↓G2_11, ↓G2_12, ↓U2_12, ↓G2_13, ↓U2_13, ↓U2_11, ↓nw_a, ↓nw_l, kN, k531, ↓nw_g 0 (by decide), ↓nw_g 1 (by decide), ↓nw_g 2 (by decide), ↓nw_g 3 (by decide), hn, ↓bnd hw]
theorem c_areMonths (d : Nat) (x y : Int32) : EvM (d + 2) 125 [.int x, .int y] h = some (bI (inR x 0 60 && inR y 1 999999), h) := by
  have w1 : EvM (d + 1) 121 [.int x, .int 0, .int 60] h = some (bI (inR x 0 60), h) := c_withinN d x 0 60
  have w2 : EvM (d + 1) 121 [.int y, .int 1, .int 999999] h = some (bI (inR y 1 999999), h) := c_withinN d y 1 999999
  rw [ev125, e125_0]
  cases h1 : inR x 0 60 <;> rw [h1] at w1 <;> cases h2 : inR y 1 999999 <;> rw [h2] at w2 <;> simp (disch := omega) only [e125_0, e125_1, e125_2, e125_4, e125_7, e125_10, e125_11, e125_12, e125_14, e125_17, e125_20, e125_21, e125_24, e125_25, ↓reduceIte, ↓gi0, ↓gr0, ↓gl0, ↓gi1, ↓gr1, ↓gl1, ↓gi2, ↓gr2, ↓gl2, ↓gi3, ↓gr3, ↓gl3, ↓gi4, ↓gr4, ↓gl4, ↓gi5, ↓gr5, ↓gl5, ↓gi6, ↓gr6, ↓gl6, ↓gi7, ↓gr7, ↓gl7, ↓gi8, ↓gr8, ↓gl8, ↓gi9, ↓gr9, ↓gl9, ↓qI, ↓qI2, ↓qL, ↓qL2, ↓qR, ↓qV, ↓pd0, ↓ta0, ↓ts0, ↓pd1, ↓ta1, ↓ts1, ↓pd2, ↓ta2, ↓ts2, ↓pd3, ↓ta3, ↓ts3, ↓pd4, ↓ta4, ↓ts4, ↓pd5, ↓ta5, ↓ts5, ↓pd6, ↓ta6, ↓ts6, lGet, lSet, okS, isLg, Bool.not_false, Bool.not_true, Bool.false_eq_true, not_false_eq_true, not_true_eq_false, catS, okR1, okR20, okR21, okR2b, List.length_cons, List.length_nil, List.drop_succ_cons, List.drop_zero, List.drop_nil, and_self, true_and, and_true, false_and, and_false, Nat.reduceAdd, Nat.reduceLeDiff, Nat.zero_add, Nat.le_refl, Nat.zero_le, pushR, reduceCtorEq, or_self, or_false, false_or, true_or, or_true, ↓bnd w1, ↓bnd w2, bI_f, bI_t, one_ne, Bool.and_false, Bool.false_and, Bool.and_self]
theorem c_found (d : Nat) (x : Int32) : EvM (d + 1) 128 [.ref 2, .int x] (mkH scr s) = some (-1000010 - x, mkH scr (u2 s 2 13 x)) := by
  rw [ev128, e128_0]
  simp (disch := omega) only [e128_0, e128_1, e128_2, e128_5, e128_8, e128_9, e128_10, ↓reduceIte, ↓gi0, ↓gr0, ↓gl0, ↓gi1, ↓gr1, ↓gl1, ↓gi2, ↓gr2, ↓gl2, ↓gi3, ↓gr3, ↓gl3, ↓gi4, ↓gr4, ↓gl4, ↓gi5, ↓gr5, ↓gl5, ↓gi6, ↓gr6, ↓gl6, ↓gi7, ↓gr7, ↓gl7, ↓gi8, ↓gr8, ↓gl8, ↓gi9, ↓gr9, ↓gl9, ↓qI, ↓qI2, ↓qL, ↓qL2, ↓qR, ↓qV, ↓pd0, ↓ta0, ↓ts0, ↓pd1, ↓ta1, ↓ts1, ↓pd2, ↓ta2, ↓ts2, ↓pd3, ↓ta3, ↓ts3, ↓pd4, ↓ta4, ↓ts4, ↓pd5, ↓ta5, ↓ts5, ↓pd6, ↓ta6, ↓ts6, lGet, lSet, okS, isLg, Bool.not_false, Bool.not_true, Bool.false_eq_true, not_false_eq_true, not_true_eq_false, catS, okR1, okR20, okR21, okR2b, List.length_cons, List.length_nil, List.drop_succ_cons, List.drop_zero, List.drop_nil, and_self, true_and, and_true, false_and, and_false, Nat.reduceAdd, Nat.reduceLeDiff, Nat.zero_add, Nat.le_refl, Nat.zero_le, pushR, reduceCtorEq, or_self, or_false, false_or, true_or, or_true, K2, ↓G2_0, ↓G2_1, ↓G2_2, ↓G2_3, ↓G2_4, ↓G2_5, ↓G2_6, ↓G2_7, ↓G2_8, ↓G2_9, ↓G2_10, ↓G2_11, ↓G2_12, ↓U2_12, ↓G2_13, ↓U2_13, ↓U2_11, ↓nw_a, ↓nw_l, kN, k531, ↓nw_g 0 (by decide), ↓nw_g 1 (by decide), ↓nw_g 2 (by decide), ↓nw_g 3 (by decide)]
theorem c_fine (d : Nat) (x : Int32) : EvM (d + 1) 129 [.ref 2, .int x] (mkH scr s) = some (x, mkH scr (u2 s 2 13 0)) := by
  rw [ev129, e129_0]
  simp (disch := omega) only [e129_0, e129_1, e129_2, e129_5, e129_6, ↓reduceIte, ↓gi0, ↓gr0, ↓gl0, ↓gi1, ↓gr1, ↓gl1, ↓gi2, ↓gr2, ↓gl2, ↓gi3, ↓gr3, ↓gl3, ↓gi4, ↓gr4, ↓gl4, ↓gi5, ↓gr5, ↓gl5, ↓gi6, ↓gr6, ↓gl6, ↓gi7, ↓gr7, ↓gl7, ↓gi8, ↓gr8, ↓gl8, ↓gi9, ↓gr9, ↓gl9, ↓qI, ↓qI2, ↓qL, ↓qL2, ↓qR, ↓qV, ↓pd0, ↓ta0, ↓ts0, ↓pd1, ↓ta1, ↓ts1, ↓pd2, ↓ta2, ↓ts2, ↓pd3, ↓ta3, ↓ts3, ↓pd4, ↓ta4, ↓ts4, ↓pd5, ↓ta5, ↓ts5, ↓pd6, ↓ta6, ↓ts6, lGet, lSet, okS, isLg, Bool.not_false, Bool.not_true, Bool.false_eq_true, not_false_eq_true, not_true_eq_false, catS, okR1, okR20, okR21, okR2b, List.length_cons, List.length_nil, List.drop_succ_cons, List.drop_zero, List.drop_nil, and_self, true_and, and_true, false_and, and_false, Nat.reduceAdd, Nat.reduceLeDiff, Nat.zero_add, Nat.le_refl, Nat.zero_le, pushR, reduceCtorEq, or_self, or_false, false_or, true_or, or_true, K2, ↓G2_0, ↓G2_1, ↓G2_2, ↓G2_3, ↓G2_4, ↓G2_5, ↓G2_6, ↓G2_7, ↓G2_8, ↓G2_9, ↓G2_10, ↓G2_11, ↓G2_12, ↓U2_12, ↓G2_13, ↓U2_13, ↓U2_11, ↓nw_a, ↓nw_l, kN, k531, ↓nw_g 0 (by decide), ↓nw_g 1 (by decide), ↓nw_g 2 (by decide), ↓nw_g 3 (by decide)]
/-- an amount of one: unspent, owes, cash, done -/
def amt (p : PT) (w : Nat) : Int32 := if w = 0 then nI (sumD p.2.2.2.2.2.2) else if w = 1 then nI p.2.2.2.2.1 else if w = 2 then p.2.2.2.1 else p.2.2.2.2.2.1
theorem c_amt (d : Nat) {P w : Nat} {p : PT} (hP : per P) (hp : PR s P p) (hw : w < 4) : EvM (d + 2) 127 [.ref P, .int (nI w)] (mkH scr s) = some (amt p w, mkH scr s) := by
  have hu := c_unspent d (scr := scr) hP hp.2.2.2.2.2.2
  obtain ⟨h1, h2, h3, h4, h5, h6, h7⟩ := hp
  rw [ev127, e127_0]
  unfold amt
  match w, hw with
  | 0, _ => simp (disch := omega) only [e127_0, e127_32, e127_33, e127_36, e127_37, e127_38, e127_41, e127_42, e127_43, e127_46, e127_47, e127_48, e127_51, e127_52, e127_54, ↓reduceIte, ↓gi0, ↓gr0, ↓gl0, ↓gi1, ↓gr1, ↓gl1, ↓gi2, ↓gr2, ↓gl2, ↓gi3, ↓gr3, ↓gl3, ↓gi4, ↓gr4, ↓gl4, ↓gi5, ↓gr5, ↓gl5, ↓gi6, ↓gr6, ↓gl6, ↓gi7, ↓gr7, ↓gl7, ↓gi8, ↓gr8, ↓gl8, ↓gi9, ↓gr9, ↓gl9, ↓qI, ↓qI2, ↓qL, ↓qL2, ↓qR, ↓qV, ↓pd0, ↓ta0, ↓ts0, ↓pd1, ↓ta1, ↓ts1, ↓pd2, ↓ta2, ↓ts2, ↓pd3, ↓ta3, ↓ts3, ↓pd4, ↓ta4, ↓ts4, ↓pd5, ↓ta5, ↓ts5, ↓pd6, ↓ta6, ↓ts6, lGet, lSet, okS, isLg, Bool.not_false, Bool.not_true, Bool.false_eq_true, not_false_eq_true, not_true_eq_false, catS, okR1, okR20, okR21, okR2b, List.length_cons, List.length_nil, List.drop_succ_cons, List.drop_zero, List.drop_nil, and_self, true_and, and_true, false_and, and_false, Nat.reduceAdd, Nat.reduceLeDiff, Nat.zero_add, Nat.le_refl, Nat.zero_le, pushR, reduceCtorEq, or_self, or_false, false_or, true_or, or_true, T127_0, per_cl hP, ↓bnd hu, if_true]
  | 1, _ => simp (disch := omega) only [e127_0, e127_32, e127_33, e127_36, e127_37, e127_38, e127_41, e127_42, e127_43, e127_46, e127_47, e127_48, e127_51, e127_52, e127_54, ↓reduceIte, ↓gi0, ↓gr0, ↓gl0, ↓gi1, ↓gr1, ↓gl1, ↓gi2, ↓gr2, ↓gl2, ↓gi3, ↓gr3, ↓gl3, ↓gi4, ↓gr4, ↓gl4, ↓gi5, ↓gr5, ↓gl5, ↓gi6, ↓gr6, ↓gl6, ↓gi7, ↓gr7, ↓gl7, ↓gi8, ↓gr8, ↓gl8, ↓gi9, ↓gr9, ↓gl9, ↓qI, ↓qI2, ↓qL, ↓qL2, ↓qR, ↓qV, ↓pd0, ↓ta0, ↓ts0, ↓pd1, ↓ta1, ↓ts1, ↓pd2, ↓ta2, ↓ts2, ↓pd3, ↓ta3, ↓ts3, ↓pd4, ↓ta4, ↓ts4, ↓pd5, ↓ta5, ↓ts5, ↓pd6, ↓ta6, ↓ts6, lGet, lSet, okS, isLg, Bool.not_false, Bool.not_true, Bool.false_eq_true, not_false_eq_true, not_true_eq_false, catS, okR1, okR20, okR21, okR2b, List.length_cons, List.length_nil, List.drop_succ_cons, List.drop_zero, List.drop_nil, and_self, true_and, and_true, false_and, and_false, Nat.reduceAdd, Nat.reduceLeDiff, Nat.zero_add, Nat.le_refl, Nat.zero_le, pushR, reduceCtorEq, or_self, or_false, false_or, true_or, or_true, T127_1, ↓per_gb hP 5 (by decide), h5, Nat.one_ne_zero, if_false, if_true]
  | 2, _ => simp (disch := omega) only [e127_0, e127_32, e127_33, e127_36, e127_37, e127_38, e127_41, e127_42, e127_43, e127_46, e127_47, e127_48, e127_51, e127_52, e127_54, ↓reduceIte, ↓gi0, ↓gr0, ↓gl0, ↓gi1, ↓gr1, ↓gl1, ↓gi2, ↓gr2, ↓gl2, ↓gi3, ↓gr3, ↓gl3, ↓gi4, ↓gr4, ↓gl4, ↓gi5, ↓gr5, ↓gl5, ↓gi6, ↓gr6, ↓gl6, ↓gi7, ↓gr7, ↓gl7, ↓gi8, ↓gr8, ↓gl8, ↓gi9, ↓gr9, ↓gl9, ↓qI, ↓qI2, ↓qL, ↓qL2, ↓qR, ↓qV, ↓pd0, ↓ta0, ↓ts0, ↓pd1, ↓ta1, ↓ts1, ↓pd2, ↓ta2, ↓ts2, ↓pd3, ↓ta3, ↓ts3, ↓pd4, ↓ta4, ↓ts4, ↓pd5, ↓ta5, ↓ts5, ↓pd6, ↓ta6, ↓ts6, lGet, lSet, okS, isLg, Bool.not_false, Bool.not_true, Bool.false_eq_true, not_false_eq_true, not_true_eq_false, catS, okR1, okR20, okR21, okR2b, List.length_cons, List.length_nil, List.drop_succ_cons, List.drop_zero, List.drop_nil, and_self, true_and, and_true, false_and, and_false, Nat.reduceAdd, Nat.reduceLeDiff, Nat.zero_add, Nat.le_refl, Nat.zero_le, pushR, reduceCtorEq, or_self, or_false, false_or, true_or, or_true, T127_2, ↓per_gb hP 4 (by decide), h4, Nat.reduceEqDiff, if_false, if_true]
  | 3, _ => simp (disch := omega) only [e127_0, e127_32, e127_33, e127_36, e127_37, e127_38, e127_41, e127_42, e127_43, e127_46, e127_47, e127_48, e127_51, e127_52, e127_54, ↓reduceIte, ↓gi0, ↓gr0, ↓gl0, ↓gi1, ↓gr1, ↓gl1, ↓gi2, ↓gr2, ↓gl2, ↓gi3, ↓gr3, ↓gl3, ↓gi4, ↓gr4, ↓gl4, ↓gi5, ↓gr5, ↓gl5, ↓gi6, ↓gr6, ↓gl6, ↓gi7, ↓gr7, ↓gl7, ↓gi8, ↓gr8, ↓gl8, ↓gi9, ↓gr9, ↓gl9, ↓qI, ↓qI2, ↓qL, ↓qL2, ↓qR, ↓qV, ↓pd0, ↓ta0, ↓ts0, ↓pd1, ↓ta1, ↓ts1, ↓pd2, ↓ta2, ↓ts2, ↓pd3, ↓ta3, ↓ts3, ↓pd4, ↓ta4, ↓ts4, ↓pd5, ↓ta5, ↓ts5, ↓pd6, ↓ta6, ↓ts6, lGet, lSet, okS, isLg, Bool.not_false, Bool.not_true, Bool.false_eq_true, not_false_eq_true, not_true_eq_false, catS, okR1, okR20, okR21, okR2b, List.length_cons, List.length_nil, List.drop_succ_cons, List.drop_zero, List.drop_nil, and_self, true_and, and_true, false_and, and_false, Nat.reduceAdd, Nat.reduceLeDiff, Nat.zero_add, Nat.le_refl, Nat.zero_le, pushR, reduceCtorEq, or_self, or_false, false_or, true_or, or_true, T127_3, ↓per_gb hP 6 (by decide), h6, Nat.reduceEqDiff, if_false, if_true]
theorem c_amtD (d : Nat) {P : Nat} {w : Int32} (hw : w.toInt < 0 ∨ 3 < w.toInt) : EvM (d + 2) 127 [.ref P, .int w] h = some (-1000001, h) := by
  rw [ev127, e127_0]
  simp only [e127_52, e127_54, ↓reduceIte, ↓gi0, ↓gr0, ↓gl0, ↓gi1, ↓gr1, ↓gl1, ↓gi2, ↓gr2, ↓gl2, ↓gi3, ↓gr3, ↓gl3, ↓gi4, ↓gr4, ↓gl4, ↓gi5, ↓gr5, ↓gl5, ↓gi6, ↓gr6, ↓gl6, ↓gi7, ↓gr7, ↓gl7, ↓gi8, ↓gr8, ↓gl8, ↓gi9, ↓gr9, ↓gl9, ↓qI, ↓qI2, ↓qL, ↓qL2, ↓qR, ↓qV, ↓pd0, ↓ta0, ↓ts0, ↓pd1, ↓ta1, ↓ts1, ↓pd2, ↓ta2, ↓ts2, ↓pd3, ↓ta3, ↓ts3, ↓pd4, ↓ta4, ↓ts4, ↓pd5, ↓ta5, ↓ts5, ↓pd6, ↓ta6, ↓ts6, lGet, lSet, okS, isLg, Bool.not_false, Bool.not_true, Bool.false_eq_true, not_false_eq_true, not_true_eq_false, catS, okR1, okR20, okR21, okR2b, List.length_cons, List.length_nil, List.drop_succ_cons, List.drop_zero, List.drop_nil, and_self, true_and, and_true, false_and, and_false, Nat.reduceAdd, Nat.reduceLeDiff, Nat.zero_add, Nat.le_refl, Nat.zero_le, pushR, reduceCtorEq, or_self, or_false, false_or, true_or, or_true, T127_d hw]
/-- a sale that can be asked for -/
def saleB (N : Nat) (a b n c : Int32) : Bool := inB a N && inB b N && !(decide (a = b)) && inR n 1 999 && inR c 0 999
theorem c_isSale (d : Nat) (a b n c : Int32) {N : Nat} (hn : s.1 531 3 = nI N) (h6 : N ≤ 6) : EvM (d + 3) 124 [.ref 2, .int a, .int b, .int n, .int c] (mkH scr s) = some (bI (saleB N a b n c), mkH scr s) := by
  have w1 := c_isPerson d (scr := scr) a hn h6
  have w2 := c_isPerson d (scr := scr) b hn h6
  have w3 : EvM (d + 2) 121 [.int n, .int 1, .int 999] (mkH scr s) = some (bI (inR n 1 999), mkH scr s) := c_withinN (d + 1) n 1 999
  have w4 : EvM (d + 2) 121 [.int c, .int 0, .int 999] (mkH scr s) = some (bI (inR c 0 999), mkH scr s) := c_withinN (d + 1) c 0 999
  rw [ev124, e124_0]
  unfold saleB
  cases h1 : inB a N <;> rw [h1] at w1
  · simp (disch := omega) only [e124_0, e124_1, e124_2, e124_5, e124_8, e124_9, e124_10, e124_13, e124_16, e124_17, e124_18, e124_21, e124_22, e124_23, e124_26, e124_29, e124_32, e124_34, e124_35, e124_38, e124_41, e124_44, e124_45, e124_48, e124_49, ↓reduceIte, ↓gi0, ↓gr0, ↓gl0, ↓gi1, ↓gr1, ↓gl1, ↓gi2, ↓gr2, ↓gl2, ↓gi3, ↓gr3, ↓gl3, ↓gi4, ↓gr4, ↓gl4, ↓gi5, ↓gr5, ↓gl5, ↓gi6, ↓gr6, ↓gl6, ↓gi7, ↓gr7, ↓gl7, ↓gi8, ↓gr8, ↓gl8, ↓gi9, ↓gr9, ↓gl9, ↓qI, ↓qI2, ↓qL, ↓qL2, ↓qR, ↓qV, ↓pd0, ↓ta0, ↓ts0, ↓pd1, ↓ta1, ↓ts1, ↓pd2, ↓ta2, ↓ts2, ↓pd3, ↓ta3, ↓ts3, ↓pd4, ↓ta4, ↓ts4, ↓pd5, ↓ta5, ↓ts5, ↓pd6, ↓ta6, ↓ts6, lGet, lSet, okS, isLg, Bool.not_false, Bool.not_true, Bool.false_eq_true, not_false_eq_true, not_true_eq_false, catS, okR1, okR20, okR21, okR2b, List.length_cons, List.length_nil, List.drop_succ_cons, List.drop_zero, List.drop_nil, and_self, true_and, and_true, false_and, and_false, Nat.reduceAdd, Nat.reduceLeDiff, Nat.zero_add, Nat.le_refl, Nat.zero_le, pushR, reduceCtorEq, or_self, or_false, false_or, true_or, or_true, K2, ↓bnd w1, bI_f, Bool.false_and]
  · cases h2 : inB b N <;> rw [h2] at w2
    · simp (disch := omega) only [e124_0, e124_1, e124_2, e124_5, e124_8, e124_9, e124_10, e124_13, e124_16, e124_17, e124_18, e124_21, e124_22, e124_23, e124_26, e124_29, e124_32, e124_34, e124_35, e124_38, e124_41, e124_44, e124_45, e124_48, e124_49, ↓reduceIte, ↓gi0, ↓gr0, ↓gl0, ↓gi1, ↓gr1, ↓gl1, ↓gi2, ↓gr2, ↓gl2, ↓gi3, ↓gr3, ↓gl3, ↓gi4, ↓gr4, ↓gl4, ↓gi5, ↓gr5, ↓gl5, ↓gi6, ↓gr6, ↓gl6, ↓gi7, ↓gr7, ↓gl7, ↓gi8, ↓gr8, ↓gl8, ↓gi9, ↓gr9, ↓gl9, ↓qI, ↓qI2, ↓qL, ↓qL2, ↓qR, ↓qV, ↓pd0, ↓ta0, ↓ts0, ↓pd1, ↓ta1, ↓ts1, ↓pd2, ↓ta2, ↓ts2, ↓pd3, ↓ta3, ↓ts3, ↓pd4, ↓ta4, ↓ts4, ↓pd5, ↓ta5, ↓ts5, ↓pd6, ↓ta6, ↓ts6, lGet, lSet, okS, isLg, Bool.not_false, Bool.not_true, Bool.false_eq_true, not_false_eq_true, not_true_eq_false, catS, okR1, okR20, okR21, okR2b, List.length_cons, List.length_nil, List.drop_succ_cons, List.drop_zero, List.drop_nil, and_self, true_and, and_true, false_and, and_false, Nat.reduceAdd, Nat.reduceLeDiff, Nat.zero_add, Nat.le_refl, Nat.zero_le, pushR, reduceCtorEq, or_self, or_false, false_or, true_or, or_true, K2, ↓bnd w1, ↓bnd w2, bI_f, bI_t, one_ne, Bool.false_and, Bool.and_false]
    · by_cases h3 : a = b
      · simp (disch := omega) only [e124_0, e124_1, e124_2, e124_5, e124_8, e124_9, e124_10, e124_13, e124_16, e124_17, e124_18, e124_21, e124_22, e124_23, e124_26, e124_29, e124_32, e124_34, e124_35, e124_38, e124_41, e124_44, e124_45, e124_48, e124_49, ↓reduceIte, ↓gi0, ↓gr0, ↓gl0, ↓gi1, ↓gr1, ↓gl1, ↓gi2, ↓gr2, ↓gl2, ↓gi3, ↓gr3, ↓gl3, ↓gi4, ↓gr4, ↓gl4, ↓gi5, ↓gr5, ↓gl5, ↓gi6, ↓gr6, ↓gl6, ↓gi7, ↓gr7, ↓gl7, ↓gi8, ↓gr8, ↓gl8, ↓gi9, ↓gr9, ↓gl9, ↓qI, ↓qI2, ↓qL, ↓qL2, ↓qR, ↓qV, ↓pd0, ↓ta0, ↓ts0, ↓pd1, ↓ta1, ↓ts1, ↓pd2, ↓ta2, ↓ts2, ↓pd3, ↓ta3, ↓ts3, ↓pd4, ↓ta4, ↓ts4, ↓pd5, ↓ta5, ↓ts5, ↓pd6, ↓ta6, ↓ts6, lGet, lSet, okS, isLg, Bool.not_false, Bool.not_true, Bool.false_eq_true, not_false_eq_true, not_true_eq_false, catS, okR1, okR20, okR21, okR2b, List.length_cons, List.length_nil, List.drop_succ_cons, List.drop_zero, List.drop_nil, and_self, true_and, and_true, false_and, and_false, Nat.reduceAdd, Nat.reduceLeDiff, Nat.zero_add, Nat.le_refl, Nat.zero_le, pushR, reduceCtorEq, or_self, or_false, false_or, true_or, or_true, K2, ↓bnd w1, ↓bnd w2, bI_f, bI_t, one_ne, h3, decide_true, Bool.false_and, Bool.and_false]
      · cases h4 : inR n 1 999 <;> rw [h4] at w3
        · simp (disch := omega) only [e124_0, e124_1, e124_2, e124_5, e124_8, e124_9, e124_10, e124_13, e124_16, e124_17, e124_18, e124_21, e124_22, e124_23, e124_26, e124_29, e124_32, e124_34, e124_35, e124_38, e124_41, e124_44, e124_45, e124_48, e124_49, ↓reduceIte, ↓gi0, ↓gr0, ↓gl0, ↓gi1, ↓gr1, ↓gl1, ↓gi2, ↓gr2, ↓gl2, ↓gi3, ↓gr3, ↓gl3, ↓gi4, ↓gr4, ↓gl4, ↓gi5, ↓gr5, ↓gl5, ↓gi6, ↓gr6, ↓gl6, ↓gi7, ↓gr7, ↓gl7, ↓gi8, ↓gr8, ↓gl8, ↓gi9, ↓gr9, ↓gl9, ↓qI, ↓qI2, ↓qL, ↓qL2, ↓qR, ↓qV, ↓pd0, ↓ta0, ↓ts0, ↓pd1, ↓ta1, ↓ts1, ↓pd2, ↓ta2, ↓ts2, ↓pd3, ↓ta3, ↓ts3, ↓pd4, ↓ta4, ↓ts4, ↓pd5, ↓ta5, ↓ts5, ↓pd6, ↓ta6, ↓ts6, lGet, lSet, okS, isLg, Bool.not_false, Bool.not_true, Bool.false_eq_true, not_false_eq_true, not_true_eq_false, catS, okR1, okR20, okR21, okR2b, List.length_cons, List.length_nil, List.drop_succ_cons, List.drop_zero, List.drop_nil, and_self, true_and, and_true, false_and, and_false, Nat.reduceAdd, Nat.reduceLeDiff, Nat.zero_add, Nat.le_refl, Nat.zero_le, pushR, reduceCtorEq, or_self, or_false, false_or, true_or, or_true, K2, ↓bnd w1, ↓bnd w2, ↓bnd w3, bI_f, bI_t, one_ne, h3, decide_false, Bool.false_and, Bool.and_false]
        · cases h5 : inR c 0 999 <;> rw [h5] at w4
          · simp (disch := omega) only [e124_0, e124_1, e124_2, e124_5, e124_8, e124_9, e124_10, e124_13, e124_16, e124_17, e124_18, e124_21, e124_22, e124_23, e124_26, e124_29, e124_32, e124_34, e124_35, e124_38, e124_41, e124_44, e124_45, e124_48, e124_49, ↓reduceIte, ↓gi0, ↓gr0, ↓gl0, ↓gi1, ↓gr1, ↓gl1, ↓gi2, ↓gr2, ↓gl2, ↓gi3, ↓gr3, ↓gl3, ↓gi4, ↓gr4, ↓gl4, ↓gi5, ↓gr5, ↓gl5, ↓gi6, ↓gr6, ↓gl6, ↓gi7, ↓gr7, ↓gl7, ↓gi8, ↓gr8, ↓gl8, ↓gi9, ↓gr9, ↓gl9, ↓qI, ↓qI2, ↓qL, ↓qL2, ↓qR, ↓qV, ↓pd0, ↓ta0, ↓ts0, ↓pd1, ↓ta1, ↓ts1, ↓pd2, ↓ta2, ↓ts2, ↓pd3, ↓ta3, ↓ts3, ↓pd4, ↓ta4, ↓ts4, ↓pd5, ↓ta5, ↓ts5, ↓pd6, ↓ta6, ↓ts6, lGet, lSet, okS, isLg, Bool.not_false, Bool.not_true, Bool.false_eq_true, not_false_eq_true, not_true_eq_false, catS, okR1, okR20, okR21, okR2b, List.length_cons, List.length_nil, List.drop_succ_cons, List.drop_zero, List.drop_nil, and_self, true_and, and_true, false_and, and_false, Nat.reduceAdd, Nat.reduceLeDiff, Nat.zero_add, Nat.le_refl, Nat.zero_le, pushR, reduceCtorEq, or_self, or_false, false_or, true_or, or_true, K2, ↓bnd w1, ↓bnd w2, ↓bnd w3, ↓bnd w4, bI_f, bI_t, one_ne, h3, decide_false, Bool.false_and, Bool.and_false]
          · simp (disch := omega) only [e124_0, e124_1, e124_2, e124_5, e124_8, e124_9, e124_10, e124_13, e124_16, e124_17, e124_18, e124_21, e124_22, e124_23, e124_26, e124_29, e124_32, e124_34, e124_35, e124_38, e124_41, e124_44, e124_45, e124_48, e124_49, ↓reduceIte, ↓gi0, ↓gr0, ↓gl0, ↓gi1, ↓gr1, ↓gl1, ↓gi2, ↓gr2, ↓gl2, ↓gi3, ↓gr3, ↓gl3, ↓gi4, ↓gr4, ↓gl4, ↓gi5, ↓gr5, ↓gl5, ↓gi6, ↓gr6, ↓gl6, ↓gi7, ↓gr7, ↓gl7, ↓gi8, ↓gr8, ↓gl8, ↓gi9, ↓gr9, ↓gl9, ↓qI, ↓qI2, ↓qL, ↓qL2, ↓qR, ↓qV, ↓pd0, ↓ta0, ↓ts0, ↓pd1, ↓ta1, ↓ts1, ↓pd2, ↓ta2, ↓ts2, ↓pd3, ↓ta3, ↓ts3, ↓pd4, ↓ta4, ↓ts4, ↓pd5, ↓ta5, ↓ts5, ↓pd6, ↓ta6, ↓ts6, lGet, lSet, okS, isLg, Bool.not_false, Bool.not_true, Bool.false_eq_true, not_false_eq_true, not_true_eq_false, catS, okR1, okR20, okR21, okR2b, List.length_cons, List.length_nil, List.drop_succ_cons, List.drop_zero, List.drop_nil, and_self, true_and, and_true, false_and, and_false, Nat.reduceAdd, Nat.reduceLeDiff, Nat.zero_add, Nat.le_refl, Nat.zero_le, pushR, reduceCtorEq, or_self, or_false, false_or, true_or, or_true, K2, ↓bnd w1, ↓bnd w2, ↓bnd w3, ↓bnd w4, bI_f, bI_t, one_ne, h3, decide_false, Bool.and_self]
theorem saleB_of {N : Nat} (hN : N ≤ 6) {a b n c : Int32} (h : saleB N a b n c = true) : ∃ a' b' n' c', a' < N ∧ b' < N ∧ a' ≠ b' ∧ 1 ≤ n' ∧ n' ≤ 999 ∧ c' ≤ 999 ∧ a = nI a' ∧ b = nI b' ∧ n = nI n' ∧ c = nI c' := by
  unfold saleB at h
  simp only [Bool.and_eq_true, Bool.not_eq_true', decide_eq_false_iff_not] at h
  obtain ⟨⟨⟨⟨h1, h2⟩, h3⟩, h4⟩, h5⟩ := h
  obtain ⟨a', ha, rfl⟩ := inB_of (by omega) h1
  obtain ⟨b', hb, rfl⟩ := inB_of (by omega) h2
  obtain ⟨n', hn1, hn2, rfl⟩ := inR_of (by decide) (by decide) h4
  obtain ⟨c', -, hc2, rfl⟩ := inR_of (by decide) (by decide) h5
  exact ⟨a', b', n', c', ha, hb, fun e => h3 (by rw [e]), hn1, hn2, hc2, rfl, rfl, rfl, rfl⟩
end CND
/-! ===== Rows ===== -/
abbrev RW : Type := (Nat → Option Nat) × (Nat → Nat) × (Nat → Nat → Int32)
def lnC : Option Nat → Int32
  | none => -1
  | some l => nI l
def rwOk (r : RW) : Prop := ∀ i, i < 8 → (∀ l, r.1 i = some l → l < 3) ∧ r.2.1 i ≤ 40
def RWc (s : ST) (r : RW) : Prop := ∀ i, i < 8 → s.1 4 i = lnC (r.1 i) ∧ s.1 5 i = nI (r.2.1 i) ∧ ∀ k, k < 40 → s.1 (7 + i) k = r.2.2 i k
theorem lnC_m {o : Option Nat} (h : ∀ l, o = some l → l < 3) : (lnC o = -1) ↔ o = none := by
  cases o with
  | none => exact ⟨fun _ => rfl, fun _ => rfl⟩
  | some l =>
    have := h l rfl
    constructor
    · intro e
      exfalso
      have h2 : (nI l).toInt = (-1 : Int32).toInt := congrArg Int32.toInt e
      rw [nI_toInt (by omega)] at h2
      have h3 : (-1 : Int32).toInt = -1 := by decide
      omega
    · intro e; cases e
/-- what is found of n places from i on: nothing 0 -/
def fndC (o : Option Nat) (z : Nat) (i n : Int32) : Int32 := if o = none then 1 else if spanB i n z = true then 0 else 2
section RWS
variable {scr : Nat × (Nat → Int32)} {s : ST} {r : RW}
theorem c_isMissing (d : Nat) (hr : RWc s r) (ho : rwOk r) {i : Nat} (hi : i < 8) : EvM (d + 1) 61 [.ref 3, .int (nI i)] (mkH scr s) = some (bI (decide (r.1 i = none)), mkH scr s) := by
  have h1 := (hr i hi).1
  have h2 := lnC_m (ho i hi).1
  rw [ev61, e61_0]
  by_cases h : r.1 i = none
  · simp (disch := omega) only [e61_0, e61_1, e61_4, e61_5, e61_6, e61_7, e61_10, e61_11, e61_14, e61_15, ↓reduceIte, ↓gi0, ↓gr0, ↓gl0, ↓gi1, ↓gr1, ↓gl1, ↓gi2, ↓gr2, ↓gl2, ↓gi3, ↓gr3, ↓gl3, ↓gi4, ↓gr4, ↓gl4, ↓gi5, ↓gr5, ↓gl5, ↓gi6, ↓gr6, ↓gl6, ↓gi7, ↓gr7, ↓gl7, ↓gi8, ↓gr8, ↓gl8, ↓gi9, ↓gr9, ↓gl9, ↓qI, ↓qI2, ↓qL, ↓qL2, ↓qR, ↓qV, ↓pd0, ↓ta0, ↓ts0, ↓pd1, ↓ta1, ↓ts1, ↓pd2, ↓ta2, ↓ts2, ↓pd3, ↓ta3, ↓ts3, ↓pd4, ↓ta4, ↓ts4, ↓pd5, ↓ta5, ↓ts5, ↓pd6, ↓ta6, ↓ts6, lGet, lSet, okS, isLg, Bool.not_false, Bool.not_true, Bool.false_eq_true, not_false_eq_true, not_true_eq_false, catS, okR1, okR20, okR21, okR2b, List.length_cons, List.length_nil, List.drop_succ_cons, List.drop_zero, List.drop_nil, and_self, true_and, and_true, false_and, and_false, Nat.reduceAdd, Nat.reduceLeDiff, Nat.zero_add, Nat.le_refl, Nat.zero_le, pushR, reduceCtorEq, or_self, or_false, false_or, true_or, or_true, K3, ↓G3_0, ↓G3_1, ↓G3_2, ↓I4, ↓S4, h1, h, show lnC none = -1 from rfl, decide_true, bI_t]
  · have h3 : ¬ lnC (r.1 i) = -1 := fun z => h (h2.mp z)
    simp (disch := omega) only [e61_0, e61_1, e61_4, e61_5, e61_6, e61_7, e61_10, e61_11, e61_14, e61_15, ↓reduceIte, ↓gi0, ↓gr0, ↓gl0, ↓gi1, ↓gr1, ↓gl1, ↓gi2, ↓gr2, ↓gl2, ↓gi3, ↓gr3, ↓gl3, ↓gi4, ↓gr4, ↓gl4, ↓gi5, ↓gr5, ↓gl5, ↓gi6, ↓gr6, ↓gl6, ↓gi7, ↓gr7, ↓gl7, ↓gi8, ↓gr8, ↓gl8, ↓gi9, ↓gr9, ↓gl9, ↓qI, ↓qI2, ↓qL, ↓qL2, ↓qR, ↓qV, ↓pd0, ↓ta0, ↓ts0, ↓pd1, ↓ta1, ↓ts1, ↓pd2, ↓ta2, ↓ts2, ↓pd3, ↓ta3, ↓ts3, ↓pd4, ↓ta4, ↓ts4, ↓pd5, ↓ta5, ↓ts5, ↓pd6, ↓ta6, ↓ts6, lGet, lSet, okS, isLg, Bool.not_false, Bool.not_true, Bool.false_eq_true, not_false_eq_true, not_true_eq_false, catS, okR1, okR20, okR21, okR2b, List.length_cons, List.length_nil, List.drop_succ_cons, List.drop_zero, List.drop_nil, and_self, true_and, and_true, false_and, and_false, Nat.reduceAdd, Nat.reduceLeDiff, Nat.zero_add, Nat.le_refl, Nat.zero_le, pushR, reduceCtorEq, or_self, or_false, false_or, true_or, or_true, K3, ↓G3_0, ↓G3_1, ↓G3_2, ↓I4, ↓S4, h1, h3, h, decide_false, bI_f]
theorem c_findingOf (d : Nat) (hr : RWc s r) (ho : rwOk r) {k : Nat} (hk : k < 8) (i n : Int32) : EvM (d + 2) 65 [.ref 3, .int (nI k), .int i, .int n] (mkH scr s) = some (fndC (r.1 k) (r.2.1 k) i n, mkH scr s) := by
  have hm := c_isMissing d (scr := scr) hr ho hk
  have hz := (ho k hk).2
  rw [ev65, e65_0]
  unfold fndC
  by_cases h : r.1 k = none
  · simp only [h, decide_true] at hm
    simp (disch := omega) only [e65_0, e65_1, e65_2, e65_5, e65_8, e65_9, e65_10, e65_11, e65_14, e65_15, e65_18, e65_19, e65_20, e65_23, e65_24, e65_25, e65_26, e65_27, e65_30, e65_31, e65_34, e65_35, ↓reduceIte, ↓gi0, ↓gr0, ↓gl0, ↓gi1, ↓gr1, ↓gl1, ↓gi2, ↓gr2, ↓gl2, ↓gi3, ↓gr3, ↓gl3, ↓gi4, ↓gr4, ↓gl4, ↓gi5, ↓gr5, ↓gl5, ↓gi6, ↓gr6, ↓gl6, ↓gi7, ↓gr7, ↓gl7, ↓gi8, ↓gr8, ↓gl8, ↓gi9, ↓gr9, ↓gl9, ↓qI, ↓qI2, ↓qL, ↓qL2, ↓qR, ↓qV, ↓pd0, ↓ta0, ↓ts0, ↓pd1, ↓ta1, ↓ts1, ↓pd2, ↓ta2, ↓ts2, ↓pd3, ↓ta3, ↓ts3, ↓pd4, ↓ta4, ↓ts4, ↓pd5, ↓ta5, ↓ts5, ↓pd6, ↓ta6, ↓ts6, lGet, lSet, okS, isLg, Bool.not_false, Bool.not_true, Bool.false_eq_true, not_false_eq_true, not_true_eq_false, catS, okR1, okR20, okR21, okR2b, List.length_cons, List.length_nil, List.drop_succ_cons, List.drop_zero, List.drop_nil, and_self, true_and, and_true, false_and, and_false, Nat.reduceAdd, Nat.reduceLeDiff, Nat.zero_add, Nat.le_refl, Nat.zero_le, pushR, reduceCtorEq, or_self, or_false, false_or, true_or, or_true, K3, ↓bnd hm, bI_t, one_ne, h]
  · simp only [h, decide_false] at hm
    rw [if_neg h]
    by_cases h1 : i < 0
    · have hs : spanB i n (r.2.1 k) = false := decide_eq_false (fun z => by rw [Int32.lt_iff_toInt_lt] at h1; have h2 : i.toInt < 0 := h1; omega)
      simp (disch := omega) only [e65_0, e65_1, e65_2, e65_5, e65_8, e65_9, e65_10, e65_11, e65_14, e65_15, e65_18, e65_19, e65_20, e65_23, e65_24, e65_25, e65_26, e65_27, e65_30, e65_31, e65_34, e65_35, ↓reduceIte, ↓gi0, ↓gr0, ↓gl0, ↓gi1, ↓gr1, ↓gl1, ↓gi2, ↓gr2, ↓gl2, ↓gi3, ↓gr3, ↓gl3, ↓gi4, ↓gr4, ↓gl4, ↓gi5, ↓gr5, ↓gl5, ↓gi6, ↓gr6, ↓gl6, ↓gi7, ↓gr7, ↓gl7, ↓gi8, ↓gr8, ↓gl8, ↓gi9, ↓gr9, ↓gl9, ↓qI, ↓qI2, ↓qL, ↓qL2, ↓qR, ↓qV, ↓pd0, ↓ta0, ↓ts0, ↓pd1, ↓ta1, ↓ts1, ↓pd2, ↓ta2, ↓ts2, ↓pd3, ↓ta3, ↓ts3, ↓pd4, ↓ta4, ↓ts4, ↓pd5, ↓ta5, ↓ts5, ↓pd6, ↓ta6, ↓ts6, lGet, lSet, okS, isLg, Bool.not_false, Bool.not_true, Bool.false_eq_true, not_false_eq_true, not_true_eq_false, catS, okR1, okR20, okR21, okR2b, List.length_cons, List.length_nil, List.drop_succ_cons, List.drop_zero, List.drop_nil, and_self, true_and, and_true, false_and, and_false, Nat.reduceAdd, Nat.reduceLeDiff, Nat.zero_add, Nat.le_refl, Nat.zero_le, pushR, reduceCtorEq, or_self, or_false, false_or, true_or, or_true, K3, ↓bnd hm, bI_f, h1, hs]
    · by_cases h2 : n < 0
      · have hs : spanB i n (r.2.1 k) = false := decide_eq_false (fun z => by rw [Int32.lt_iff_toInt_lt] at h2; have h3 : n.toInt < 0 := h2; omega)
        simp (disch := omega) only [e65_0, e65_1, e65_2, e65_5, e65_8, e65_9, e65_10, e65_11, e65_14, e65_15, e65_18, e65_19, e65_20, e65_23, e65_24, e65_25, e65_26, e65_27, e65_30, e65_31, e65_34, e65_35, ↓reduceIte, ↓gi0, ↓gr0, ↓gl0, ↓gi1, ↓gr1, ↓gl1, ↓gi2, ↓gr2, ↓gl2, ↓gi3, ↓gr3, ↓gl3, ↓gi4, ↓gr4, ↓gl4, ↓gi5, ↓gr5, ↓gl5, ↓gi6, ↓gr6, ↓gl6, ↓gi7, ↓gr7, ↓gl7, ↓gi8, ↓gr8, ↓gl8, ↓gi9, ↓gr9, ↓gl9, ↓qI, ↓qI2, ↓qL, ↓qL2, ↓qR, ↓qV, ↓pd0, ↓ta0, ↓ts0, ↓pd1, ↓ta1, ↓ts1, ↓pd2, ↓ta2, ↓ts2, ↓pd3, ↓ta3, ↓ts3, ↓pd4, ↓ta4, ↓ts4, ↓pd5, ↓ta5, ↓ts5, ↓pd6, ↓ta6, ↓ts6, lGet, lSet, okS, isLg, Bool.not_false, Bool.not_true, Bool.false_eq_true, not_false_eq_true, not_true_eq_false, catS, okR1, okR20, okR21, okR2b, List.length_cons, List.length_nil, List.drop_succ_cons, List.drop_zero, List.drop_nil, and_self, true_and, and_true, false_and, and_false, Nat.reduceAdd, Nat.reduceLeDiff, Nat.zero_add, Nat.le_refl, Nat.zero_le, pushR, reduceCtorEq, or_self, or_false, false_or, true_or, or_true, K3, ↓bnd hm, bI_f, h1, h2, hs]
      · obtain ⟨a, ha, rfl⟩ := nI_of h1
        obtain ⟨b, hb, rfl⟩ := nI_of h2
        have h5 := (hr k hk).2.1
        have hs : (nI (r.2.1 k) - nI b).toInt = (r.2.1 k : Int) - b := by
          rw [Int32.toInt_sub, nI_toInt (by omega), nI_toInt hb]
          exact Int.bmod_eq_of_le (by omega) (by omega)
        have hle : (nI a ≤ nI (r.2.1 k) - nI b) ↔ a + b ≤ r.2.1 k := by
          rw [Int32.le_iff_toInt_le, hs, nI_toInt ha]
          omega
        by_cases h3 : a + b ≤ r.2.1 k
        · have h4 := hle.mpr h3
          have h6 := spanB_T h3 (by omega)
          simp (disch := omega) only [e65_0, e65_1, e65_2, e65_5, e65_8, e65_9, e65_10, e65_11, e65_14, e65_15, e65_18, e65_19, e65_20, e65_23, e65_24, e65_25, e65_26, e65_27, e65_30, e65_31, e65_34, e65_35, ↓reduceIte, ↓gi0, ↓gr0, ↓gl0, ↓gi1, ↓gr1, ↓gl1, ↓gi2, ↓gr2, ↓gl2, ↓gi3, ↓gr3, ↓gl3, ↓gi4, ↓gr4, ↓gl4, ↓gi5, ↓gr5, ↓gl5, ↓gi6, ↓gr6, ↓gl6, ↓gi7, ↓gr7, ↓gl7, ↓gi8, ↓gr8, ↓gl8, ↓gi9, ↓gr9, ↓gl9, ↓qI, ↓qI2, ↓qL, ↓qL2, ↓qR, ↓qV, ↓pd0, ↓ta0, ↓ts0, ↓pd1, ↓ta1, ↓ts1, ↓pd2, ↓ta2, ↓ts2, ↓pd3, ↓ta3, ↓ts3, ↓pd4, ↓ta4, ↓ts4, ↓pd5, ↓ta5, ↓ts5, ↓pd6, ↓ta6, ↓ts6, lGet, lSet, okS, isLg, Bool.not_false, Bool.not_true, Bool.false_eq_true, not_false_eq_true, not_true_eq_false, catS, okR1, okR20, okR21, okR2b, List.length_cons, List.length_nil, List.drop_succ_cons, List.drop_zero, List.drop_nil, and_self, true_and, and_true, false_and, and_false, Nat.reduceAdd, Nat.reduceLeDiff, Nat.zero_add, Nat.le_refl, Nat.zero_le, pushR, reduceCtorEq, or_self, or_false, false_or, true_or, or_true, K3, ↓G3_0, ↓G3_1, ↓G3_2, ↓I5, ↓S5, ↓bnd hm, bI_f, h1, h2, h5, h4, h6]
        · have h4 : ¬ (nI a ≤ nI (r.2.1 k) - nI b) := fun z => h3 (hle.mp z)
          have h6 : spanB (nI a) (nI b) (r.2.1 k) = false := decide_eq_false (fun z => by rw [nI_toInt ha, nI_toInt hb] at z; omega)
          simp (disch := omega) only [e65_0, e65_1, e65_2, e65_5, e65_8, e65_9, e65_10, e65_11, e65_14, e65_15, e65_18, e65_19, e65_20, e65_23, e65_24, e65_25, e65_26, e65_27, e65_30, e65_31, e65_34, e65_35, ↓reduceIte, ↓gi0, ↓gr0, ↓gl0, ↓gi1, ↓gr1, ↓gl1, ↓gi2, ↓gr2, ↓gl2, ↓gi3, ↓gr3, ↓gl3, ↓gi4, ↓gr4, ↓gl4, ↓gi5, ↓gr5, ↓gl5, ↓gi6, ↓gr6, ↓gl6, ↓gi7, ↓gr7, ↓gl7, ↓gi8, ↓gr8, ↓gl8, ↓gi9, ↓gr9, ↓gl9, ↓qI, ↓qI2, ↓qL, ↓qL2, ↓qR, ↓qV, ↓pd0, ↓ta0, ↓ts0, ↓pd1, ↓ta1, ↓ts1, ↓pd2, ↓ta2, ↓ts2, ↓pd3, ↓ta3, ↓ts3, ↓pd4, ↓ta4, ↓ts4, ↓pd5, ↓ta5, ↓ts5, ↓pd6, ↓ta6, ↓ts6, lGet, lSet, okS, isLg, Bool.not_false, Bool.not_true, Bool.false_eq_true, not_false_eq_true, not_true_eq_false, catS, okR1, okR20, okR21, okR2b, List.length_cons, List.length_nil, List.drop_succ_cons, List.drop_zero, List.drop_nil, and_self, true_and, and_true, false_and, and_false, Nat.reduceAdd, Nat.reduceLeDiff, Nat.zero_add, Nat.le_refl, Nat.zero_le, pushR, reduceCtorEq, or_self, or_false, false_or, true_or, or_true, K3, ↓G3_0, ↓G3_1, ↓G3_2, ↓I5, ↓S5, ↓bnd hm, bI_f, h1, h2, h5, h4, h6]
/-- Rows.tell: n items come into the told row -/
theorem c_tell (d : Nat) {k a n : Nat} (hk : k < 8) (hn : a + n ≤ 40) : EvM (d + 1) 66 [.ref 3, .int (nI k), .int (nI a), .int (nI n), .ref 613] (mkH scr s) = some (0, mkH scr (uA s 613 (va_cpy (s.1 (7 + k)) (s.1 613) a 0 n))) := by
  have hc := cpyS (scr := scr) (s := s) (sp := nI a) (dp := 0) (n := nI n) (shRow hk) sh_613 ⟨nI_pos (by omega), by decide, nI_pos (by omega), by rw [nI_clamp (by omega), nI_clamp (by omega)]; omega, by rw [nI_clamp (by omega)]; show 0 + n ≤ 40; omega⟩
  rw [nI_clamp (by omega), nI_clamp (by omega)] at hc
  rw [ev66, e66_0]
  simp (disch := omega) only [e66_0, e66_1, e66_4, e66_5, e66_6, e66_7, e66_9, e66_10, e66_11, e66_14, ↓reduceIte, ↓gi0, ↓gr0, ↓gl0, ↓gi1, ↓gr1, ↓gl1, ↓gi2, ↓gr2, ↓gl2, ↓gi3, ↓gr3, ↓gl3, ↓gi4, ↓gr4, ↓gl4, ↓gi5, ↓gr5, ↓gl5, ↓gi6, ↓gr6, ↓gl6, ↓gi7, ↓gr7, ↓gl7, ↓gi8, ↓gr8, ↓gl8, ↓gi9, ↓gr9, ↓gl9, ↓qI, ↓qI2, ↓qL, ↓qL2, ↓qR, ↓qV, ↓pd0, ↓ta0, ↓ts0, ↓pd1, ↓ta1, ↓ts1, ↓pd2, ↓ta2, ↓ts2, ↓pd3, ↓ta3, ↓ts3, ↓pd4, ↓ta4, ↓ts4, ↓pd5, ↓ta5, ↓ts5, ↓pd6, ↓ta6, ↓ts6, lGet, lSet, okS, isLg, Bool.not_false, Bool.not_true, Bool.false_eq_true, not_false_eq_true, not_true_eq_false, catS, okR1, okR20, okR21, okR2b, List.length_cons, List.length_nil, List.drop_succ_cons, List.drop_zero, List.drop_nil, and_self, true_and, and_true, false_and, and_false, Nat.reduceAdd, Nat.reduceLeDiff, Nat.zero_add, Nat.le_refl, Nat.zero_le, pushR, reduceCtorEq, or_self, or_false, false_or, true_or, or_true, K3, ↓G3_0, ↓G3_1, ↓G3_2, ↓A6, ↓IR, ↓SR, ↓bnd hc]
  rfl
/-- Rows.howMany -/
theorem c_howMany (d : Nat) (hr : RWc s r) (ho : rwOk r) : EvM (d + 2) 67 [.ref 3] (mkH scr s) = some (nI (sumN (fun i => if r.1 i = none then 0 else 1) 8), mkH scr s) := by
  rw [ev67, e67_0]
  simp (disch := omega) only [e67_0, e67_1, e67_2, e67_3, e67_5, e67_7, e67_10, e67_11, e67_12, e67_13, e67_16, e67_19, e67_20, e67_23, e67_24, e67_25, e67_26, e67_29, e67_32, e67_33, ↓reduceIte, ↓gi0, ↓gr0, ↓gl0, ↓gi1, ↓gr1, ↓gl1, ↓gi2, ↓gr2, ↓gl2, ↓gi3, ↓gr3, ↓gl3, ↓gi4, ↓gr4, ↓gl4, ↓gi5, ↓gr5, ↓gl5, ↓gi6, ↓gr6, ↓gl6, ↓gi7, ↓gr7, ↓gl7, ↓gi8, ↓gr8, ↓gl8, ↓gi9, ↓gr9, ↓gl9, ↓qI, ↓qI2, ↓qL, ↓qL2, ↓qR, ↓qV, ↓pd0, ↓ta0, ↓ts0, ↓pd1, ↓ta1, ↓ts1, ↓pd2, ↓ta2, ↓ts2, ↓pd3, ↓ta3, ↓ts3, ↓pd4, ↓ta4, ↓ts4, ↓pd5, ↓ta5, ↓ts5, ↓pd6, ↓ta6, ↓ts6, lGet, lSet, okS, isLg, Bool.not_false, Bool.not_true, Bool.false_eq_true, not_false_eq_true, not_true_eq_false, catS, okR1, okR20, okR21, okR2b, List.length_cons, List.length_nil, List.drop_succ_cons, List.drop_zero, List.drop_nil, and_self, true_and, and_true, false_and, and_false, Nat.reduceAdd, Nat.reduceLeDiff, Nat.zero_add, Nat.le_refl, Nat.zero_le, pushR, reduceCtorEq, or_self, or_false, false_or, true_or, or_true]
  refine (forRd 8 (fun j => EvI (EvM (d + 1)) C67 1 4 [.ref 3, .int (nI (sumN (fun i => if r.1 i = none then 0 else 1) j)), .int (nI j)] [] (mkH scr s)) ?_).trans ?_
  · intro j hj
    have hm := c_isMissing d (scr := scr) hr ho hj
    rw [e67_4]
    by_cases h : r.1 j = none
    · simp only [h, decide_true] at hm
      simp (disch := omega) only [e67_0, e67_1, e67_2, e67_3, e67_5, e67_7, e67_10, e67_11, e67_12, e67_13, e67_16, e67_19, e67_20, e67_23, e67_24, e67_25, e67_26, e67_29, e67_32, e67_33, ↓reduceIte, ↓gi0, ↓gr0, ↓gl0, ↓gi1, ↓gr1, ↓gl1, ↓gi2, ↓gr2, ↓gl2, ↓gi3, ↓gr3, ↓gl3, ↓gi4, ↓gr4, ↓gl4, ↓gi5, ↓gr5, ↓gl5, ↓gi6, ↓gr6, ↓gl6, ↓gi7, ↓gr7, ↓gl7, ↓gi8, ↓gr8, ↓gl8, ↓gi9, ↓gr9, ↓gl9, ↓qI, ↓qI2, ↓qL, ↓qL2, ↓qR, ↓qV, ↓pd0, ↓ta0, ↓ts0, ↓pd1, ↓ta1, ↓ts1, ↓pd2, ↓ta2, ↓ts2, ↓pd3, ↓ta3, ↓ts3, ↓pd4, ↓ta4, ↓ts4, ↓pd5, ↓ta5, ↓ts5, ↓pd6, ↓ta6, ↓ts6, lGet, lSet, okS, isLg, Bool.not_false, Bool.not_true, Bool.false_eq_true, not_false_eq_true, not_true_eq_false, catS, okR1, okR20, okR21, okR2b, List.length_cons, List.length_nil, List.drop_succ_cons, List.drop_zero, List.drop_nil, and_self, true_and, and_true, false_and, and_false, Nat.reduceAdd, Nat.reduceLeDiff, Nat.zero_add, Nat.le_refl, Nat.zero_le, pushR, reduceCtorEq, or_self, or_false, false_or, true_or, or_true, ltT, ltF, leT, leF, eqF, eqT, lt0F, ge0T, le0T, le0F, eq0T, eq0F, gt0T, gt0F, nI_add, nI_1, pk_mul, subT, sub1, divT, remN, natRem, K3, show (8 : Int32) = nI 8 from rfl, ↓bnd hm, bI_t, one_ne, sumN, h, Int32.add_zero, Nat.add_zero]
    · simp only [h, decide_false] at hm
      simp (disch := omega) only [e67_0, e67_1, e67_2, e67_3, e67_5, e67_7, e67_10, e67_11, e67_12, e67_13, e67_16, e67_19, e67_20, e67_23, e67_24, e67_25, e67_26, e67_29, e67_32, e67_33, ↓reduceIte, ↓gi0, ↓gr0, ↓gl0, ↓gi1, ↓gr1, ↓gl1, ↓gi2, ↓gr2, ↓gl2, ↓gi3, ↓gr3, ↓gl3, ↓gi4, ↓gr4, ↓gl4, ↓gi5, ↓gr5, ↓gl5, ↓gi6, ↓gr6, ↓gl6, ↓gi7, ↓gr7, ↓gl7, ↓gi8, ↓gr8, ↓gl8, ↓gi9, ↓gr9, ↓gl9, ↓qI, ↓qI2, ↓qL, ↓qL2, ↓qR, ↓qV, ↓pd0, ↓ta0, ↓ts0, ↓pd1, ↓ta1, ↓ts1, ↓pd2, ↓ta2, ↓ts2, ↓pd3, ↓ta3, ↓ts3, ↓pd4, ↓ta4, ↓ts4, ↓pd5, ↓ta5, ↓ts5, ↓pd6, ↓ta6, ↓ts6, lGet, lSet, okS, isLg, Bool.not_false, Bool.not_true, Bool.false_eq_true, not_false_eq_true, not_true_eq_false, catS, okR1, okR20, okR21, okR2b, List.length_cons, List.length_nil, List.drop_succ_cons, List.drop_zero, List.drop_nil, and_self, true_and, and_true, false_and, and_false, Nat.reduceAdd, Nat.reduceLeDiff, Nat.zero_add, Nat.le_refl, Nat.zero_le, pushR, reduceCtorEq, or_self, or_false, false_or, true_or, or_true, ltT, ltF, leT, leF, eqF, eqT, lt0F, ge0T, le0T, le0F, eq0T, eq0F, gt0T, gt0F, nI_add, nI_1, pk_mul, subT, sub1, divT, remN, natRem, K3, show (8 : Int32) = nI 8 from rfl, ↓bnd hm, bI_f, sumN, h]
  · rw [e67_4]
    simp (disch := omega) only [e67_0, e67_1, e67_2, e67_3, e67_5, e67_7, e67_10, e67_11, e67_12, e67_13, e67_16, e67_19, e67_20, e67_23, e67_24, e67_25, e67_26, e67_29, e67_32, e67_33, ↓reduceIte, ↓gi0, ↓gr0, ↓gl0, ↓gi1, ↓gr1, ↓gl1, ↓gi2, ↓gr2, ↓gl2, ↓gi3, ↓gr3, ↓gl3, ↓gi4, ↓gr4, ↓gl4, ↓gi5, ↓gr5, ↓gl5, ↓gi6, ↓gr6, ↓gl6, ↓gi7, ↓gr7, ↓gl7, ↓gi8, ↓gr8, ↓gl8, ↓gi9, ↓gr9, ↓gl9, ↓qI, ↓qI2, ↓qL, ↓qL2, ↓qR, ↓qV, ↓pd0, ↓ta0, ↓ts0, ↓pd1, ↓ta1, ↓ts1, ↓pd2, ↓ta2, ↓ts2, ↓pd3, ↓ta3, ↓ts3, ↓pd4, ↓ta4, ↓ts4, ↓pd5, ↓ta5, ↓ts5, ↓pd6, ↓ta6, ↓ts6, lGet, lSet, okS, isLg, Bool.not_false, Bool.not_true, Bool.false_eq_true, not_false_eq_true, not_true_eq_false, catS, okR1, okR20, okR21, okR2b, List.length_cons, List.length_nil, List.drop_succ_cons, List.drop_zero, List.drop_nil, and_self, true_and, and_true, false_and, and_false, Nat.reduceAdd, Nat.reduceLeDiff, Nat.zero_add, Nat.le_refl, Nat.zero_le, pushR, reduceCtorEq, or_self, or_false, false_or, true_or, or_true, ltT, ltF, leT, leF, eqF, eqT, lt0F, ge0T, le0T, le0F, eq0T, eq0F, gt0T, gt0F, nI_add, nI_1, pk_mul, subT, sub1, divT, remN, natRem, show (8 : Int32) = nI 8 from rfl]
end RWS
