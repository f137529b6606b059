/-! ===== Person: isOf, gain, dropEmptyLots ===== -/
def isOfB (k w : Nat) : Bool := (([1, 3, 7, 11, 17, 49] : List Nat).getD k 0).testBit w
theorem isOf_tab : ∀ k, k < 6 → ∀ w, w < 6 → ((isToo k >>> (nI w &&& 31)) &&& 1 = 1 ↔ isOfB k w = true) := by decide
/-- lots only: the places that a change of lots may touch -/
def FrL (s s' : ST) (P : Nat) : Prop := s'.2 = s.2 ∧ ∀ a k, a ≠ P + 1 → a ≠ P + 2 → ¬ (a = P ∧ k = 7) → s'.1 a k = s.1 a k
theorem FrL.rf (s : ST) (P : Nat) : FrL s s P := ⟨rfl, fun _ _ _ _ _ => rfl⟩
theorem FrL.tr {s s1 s2 : ST} {P : Nat} (h : FrL s s1 P) (h2 : FrL s1 s2 P) : FrL s s2 P := ⟨h2.1.trans h.1, fun a k g1 g2 g3 => (h2.2 a k g1 g2 g3).trans (h.2 a k g1 g2 g3)⟩
theorem FrL.d {s : ST} {P k : Nat} {x : Int32} : FrL s (u2 s (P + 1) k x) P := ⟨rfl, fun a k' g1 _ _ => u2_oth s x (fun z => g1 z.1)⟩
theorem FrL.m {s : ST} {P k : Nat} {x : Int32} : FrL s (u2 s (P + 2) k x) P := ⟨rfl, fun a k' _ g2 _ => u2_oth s x (fun z => g2 z.1)⟩
theorem FrL.n {s : ST} {P : Nat} {x : Int32} : FrL s (u2 s P 7 x) P := ⟨rfl, fun a k' _ _ g3 => u2_oth s x (fun z => g3 z)⟩
def pGain (n mo : Nat) (l : LT) : LT := if l.length < 6 then l ++ [(n, mo)] else l.set 5 (lt_d l 5 + n, lt_m l 5)
theorem lt_app_d (l : LT) (q : Nat × Nat) {i : Nat} : lt_d (l ++ [q]) i = if i < l.length then lt_d l i else if i = l.length then q.1 else 0 := by
  unfold lt_d
  rw [List.getD_eq_getElem?_getD, List.getD_eq_getElem?_getD, List.getElem?_append]
  by_cases h : i < l.length
  · simp [h]
  · by_cases h2 : i = l.length
    · subst h2
      simp
    · simp [h, h2, show ¬ i - l.length < 1 by omega, List.getElem?_eq_none]
theorem lt_app_m (l : LT) (q : Nat × Nat) {i : Nat} : lt_m (l ++ [q]) i = if i < l.length then lt_m l i else if i = l.length then q.2 else 0 := by
  unfold lt_m
  rw [List.getD_eq_getElem?_getD, List.getD_eq_getElem?_getD, List.getElem?_append]
  by_cases h : i < l.length
  · simp [h]
  · by_cases h2 : i = l.length
    · subst h2
      simp
    · simp [h, h2, show ¬ i - l.length < 1 by omega, List.getElem?_eq_none]
theorem lt_set_d (l : LT) (j : Nat) (q : Nat × Nat) {i : Nat} : lt_d (l.set j q) i = if i = j ∧ j < l.length then q.1 else lt_d l i := by
  unfold lt_d
  rw [List.getD_eq_getElem?_getD, List.getD_eq_getElem?_getD, List.getElem?_set]
  by_cases h : j = i
  · subst h
    by_cases h2 : j < l.length <;> simp [h2, List.getElem?_eq_none]
  · rw [if_neg h, if_neg (fun z => h z.1.symm)]
theorem lt_set_m (l : LT) (j : Nat) (q : Nat × Nat) {i : Nat} : lt_m (l.set j q) i = if i = j ∧ j < l.length then q.2 else lt_m l i := by
  unfold lt_m
  rw [List.getD_eq_getElem?_getD, List.getD_eq_getElem?_getD, List.getElem?_set]
  by_cases h : j = i
  · subst h
    by_cases h2 : j < l.length <;> simp [h2, List.getElem?_eq_none]
  · rw [if_neg h, if_neg (fun z => h z.1.symm)]
section PM2
variable {scr : Nat × (Nat → Int32)} {s : ST} {P : Nat} {l : LT}
theorem too_ld {k : Nat} (hk : k < 6) (s : ST) : ialdF (mkH scr s) 0 (nI k) = some (isToo k) := by
  show (if inB (nI k) 6 = true then some (isToo (nI k).toNatClampNeg) else none) = _
  rw [if_pos (in6 hk), cl6 hk]
/-- Person.isOf -/
theorem c_isOf (d : Nat) (hP : per P) {k w : Nat} (hk : s.1 P 1 = nI k) (h1 : k < 6) (h2 : w < 6) : EvM (d + 1) 49 [.ref P, .int (nI w)] (mkH scr s) = some (bI (isOfB k w), mkH scr s) := by
  have ht := isOf_tab k h1 w h2
  rw [ev49, e49_0]
  by_cases hb : isOfB k w = true
  · have hc := ht.mpr hb
    simp only [e49_0, e49_3, e49_4, e49_7, e49_8, e49_9, e49_10, e49_11, e49_12, e49_13, e49_16, e49_17, e49_20, e49_21, lGet, lSet, asI, asR, asL, popI, popI2, popL, popL2, popR, popV, okS, isLg, Bool.not_false, Bool.not_true, Bool.false_eq_true, if_true, if_false, Option.bind_some, Option.bind_none, catS, okR1, okR20, okR21, okR2b, List.length_cons, List.length_nil, List.drop_succ_cons, List.drop_zero, List.drop_nil, List.take_succ_cons, List.take_zero, List.reverse_cons, List.reverse_nil, List.nil_append, List.cons_append, and_self, true_and, and_true, Nat.reduceAdd, Nat.reduceLeDiff, Nat.zero_add, Nat.le_refl, Nat.zero_le, ite_self, pushR, reduceCtorEq, or_self, or_false, false_or, per_g hP 1 (by decide), hk, too_ld h1, hc, hb]
    rfl
  · have hc : ¬ ((isToo k >>> (nI w &&& 31)) &&& 1 = 1) := fun z => hb (ht.mp z)
    have hb2 : isOfB k w = false := by simpa using hb
    simp only [e49_0, e49_3, e49_4, e49_7, e49_8, e49_9, e49_10, e49_11, e49_12, e49_13, e49_16, e49_17, e49_20, e49_21, lGet, lSet, asI, asR, asL, popI, popI2, popL, popL2, popR, popV, okS, isLg, Bool.not_false, Bool.not_true, Bool.false_eq_true, if_true, if_false, Option.bind_some, Option.bind_none, catS, okR1, okR20, okR21, okR2b, List.length_cons, List.length_nil, List.drop_succ_cons, List.drop_zero, List.drop_nil, List.take_succ_cons, List.take_zero, List.reverse_cons, List.reverse_nil, List.nil_append, List.cons_append, and_self, true_and, and_true, Nat.reduceAdd, Nat.reduceLeDiff, Nat.zero_add, Nat.le_refl, Nat.zero_le, ite_self, pushR, reduceCtorEq, or_self, or_false, false_or, per_g hP 1 (by decide), hk, too_ld h1, hc, hb2]
    rfl
/-- Person.gain -/
theorem c_gain (d : Nat) (hP : per P) (hL : LR s P l) (n mo : Nat) : ∃ s', EvM (d + 1) 52 [.ref P, .int (nI n), .int (nI mo)] (mkH scr s) = some (0, mkH scr s') ∧ LR s' P (pGain n mo l) ∧ FrL s s' P := by
  obtain ⟨h7, h6, hl⟩ := hL
  by_cases hlt : l.length < 6
  · have hc : nI l.length < 6 := nI_lt (b := 6) hlt (by decide)
    refine ⟨u2 (u2 (u2 s (P + 1) l.length (nI n)) (P + 2) l.length (nI mo)) P 7 (nI (l.length + 1)), ?_, ?_, ?_⟩
    · rw [ev52, e52_0]
      have g7 : ∀ x y, (u2 (u2 s (P + 1) l.length x) (P + 2) l.length y).1 P 7 = nI l.length := fun x y => by rw [u2_oth _ _ (by omega), u2_oth _ _ (by omega), h7]
      have g7' : ∀ x, (u2 s (P + 1) l.length x).1 P 7 = nI l.length := fun x => by rw [u2_oth _ _ (by omega), h7]
      simp only [e52_0, e52_1, e52_4, e52_6, e52_9, e52_10, e52_13, e52_14, e52_15, e52_16, e52_17, e52_18, e52_19, e52_20, e52_21, e52_24, e52_25, e52_28, e52_29, e52_30, e52_31, e52_34, e52_35, e52_38, e52_39, e52_40, e52_41, e52_42, e52_45, e52_46, e52_47, e52_50, lGet, lSet, asI, asR, asL, popI, popI2, popL, popL2, popR, popV, okS, isLg, Bool.not_false, Bool.not_true, Bool.false_eq_true, if_true, if_false, Option.bind_some, Option.bind_none, catS, okR1, okR20, okR21, okR2b, List.length_cons, List.length_nil, List.drop_succ_cons, List.drop_zero, List.drop_nil, List.take_succ_cons, List.take_zero, List.reverse_cons, List.reverse_nil, List.nil_append, List.cons_append, and_self, true_and, and_true, Nat.reduceAdd, Nat.reduceLeDiff, Nat.zero_add, Nat.le_refl, Nat.zero_le, ite_self, pushR, reduceCtorEq, or_self, or_false, false_or, per_g hP 7 (by decide), per_p hP 7 (by decide), per_d hP, per_c hP, per_ds hP hlt, per_ms hP hlt, h7, hc, g7, g7', nI_1]
    · unfold pGain
      rw [if_pos hlt]
      refine ⟨by rw [u2_same, List.length_append]; rfl, by rw [List.length_append]; simp; omega, fun i hi => ?_⟩
      rw [List.length_append, List.length_singleton] at hi
      rw [lt_app_d, lt_app_m]
      by_cases hi2 : i < l.length
      · rw [if_pos hi2, if_pos hi2, u2_oth _ _ (by omega), u2_oth _ _ (by omega), u2_oth _ _ (by omega), u2_oth _ _ (by omega), u2_oth _ _ (by omega), u2_oth _ _ (by omega)]
        exact hl i hi2
      · have e : i = l.length := by omega
        subst e
        rw [if_neg hi2, if_neg hi2, if_pos rfl, if_pos rfl]
        constructor
        · rw [u2_oth _ _ (by omega), u2_oth _ _ (by omega), u2_same]
        · rw [u2_oth _ _ (by omega), u2_same]
    · exact (FrL.d.tr FrL.m).tr FrL.n
  · have e6 : l.length = 6 := by omega
    have hc : ¬ nI l.length < 6 := nI_nlt (a := l.length) (b := 6) (by omega) (by omega)
    refine ⟨u2 s (P + 1) 5 (nI (lt_d l 5 + n)), ?_, ?_, FrL.d⟩
    · rw [ev52, e52_0]
      have h5 := (hl 5 (by omega)).1
      simp only [e52_0, e52_1, e52_4, e52_6, e52_9, e52_10, e52_13, e52_14, e52_15, e52_16, e52_17, e52_18, e52_19, e52_20, e52_21, e52_24, e52_25, e52_28, e52_29, e52_30, e52_31, e52_34, e52_35, e52_38, e52_39, e52_40, e52_41, e52_42, e52_45, e52_46, e52_47, e52_50, lGet, lSet, asI, asR, asL, popI, popI2, popL, popL2, popR, popV, okS, isLg, Bool.not_false, Bool.not_true, Bool.false_eq_true, if_true, if_false, Option.bind_some, Option.bind_none, catS, okR1, okR20, okR21, okR2b, List.length_cons, List.length_nil, List.drop_succ_cons, List.drop_zero, List.drop_nil, List.take_succ_cons, List.take_zero, List.reverse_cons, List.reverse_nil, List.nil_append, List.cons_append, and_self, true_and, and_true, Nat.reduceAdd, Nat.reduceLeDiff, Nat.zero_add, Nat.le_refl, Nat.zero_le, ite_self, pushR, reduceCtorEq, or_self, or_false, false_or, per_g hP 7 (by decide), per_d hP, show (5 : Int32) = nI 5 from rfl, per_dl hP (show 5 < 6 by decide), per_ds hP (show 5 < 6 by decide), h7, hc, h5, nI_add]
    · unfold pGain
      rw [if_neg hlt]
      refine ⟨by rw [u2_oth _ _ (by omega), List.length_set, h7], by rw [List.length_set]; exact h6, fun i hi => ?_⟩
      rw [List.length_set] at hi
      rw [lt_set_d, lt_set_m, u2_oth _ _ (show ¬ (P + 2 = P + 1 ∧ i = 5) by omega)]
      by_cases hi5 : i = 5
      · subst hi5
        rw [if_pos ⟨rfl, by omega⟩, if_pos ⟨rfl, by omega⟩, u2_same]
        exact ⟨rfl, (hl 5 (by omega)).2⟩
      · rw [if_neg (fun z => hi5 z.1), if_neg (fun z => hi5 z.1), u2_oth _ _ (by omega)]
        exact hl i hi
end PM2
