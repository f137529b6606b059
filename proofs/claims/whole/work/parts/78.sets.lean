/-! ===== the class's sets ===== -/
theorem n256 : (256 : Int32) = nI 256 := by decide
theorem nMT : (-1000000 : Int32) = -1000000 := rfl
set_option maxRecDepth 20000 in
theorem shl1 : ∀ k, k < 17 → (1 : Int32) <<< (nI k &&& 31) = nI (2 ^ k) := by decide +kernel
set_option maxRecDepth 20000 in
theorem shlT : ∀ h, h < 256 → ∀ a, a < 9 → nI h <<< (nI a &&& 31) = nI (h * 2 ^ a) := by decide +kernel
theorem orN (a b : Nat) : nI a ||| nI b = nI (a ||| b) := by
  apply Int32.toBitVec_inj.mp
  show BitVec.ofNat 32 a ||| BitVec.ofNat 32 b = BitVec.ofNat 32 (a ||| b)
  apply BitVec.eq_of_toNat_eq
  simp [BitVec.toNat_or, BitVec.toNat_ofNat, Nat.or_mod_two_pow]
theorem orS {k x : Nat} (h : x < 2 ^ k) : nI x ||| nI (2 ^ k) = nI (2 ^ k + x) := by
  have := Nat.two_pow_add_eq_or_of_lt h 1
  rw [Nat.mul_one] at this
  rw [orN, Nat.or_comm, this]
theorem orQ {k x q : Nat} (h : x < 2 ^ k) : nI (q * 2 ^ k) ||| nI x = nI (q * 2 ^ k + x) := by
  have := Nat.two_pow_add_eq_or_of_lt h q
  rw [orN, Nat.mul_comm q, this]
theorem pw8 {a : Nat} (h : a ≤ 8) : 2 ^ a ≤ 256 := Nat.pow_le_pow_right (n := 2) (by decide) h
theorem pw1 (a : Nat) : 1 ≤ 2 ^ a := Nat.one_le_two_pow
def FrS (s s' : ST) : Prop := s'.2 = s.2 ∧ ∀ a k, ¬ (527 ≤ a ∧ a < 531) → s'.1 a k = s.1 a k
theorem FrS.tr {s s1 s2 : ST} (h : FrS s s1) (g : FrS s1 s2) : FrS s s2 := ⟨g.1.trans h.1, fun a k x => (g.2 a k x).trans (h.2 a k x)⟩
theorem FrS.rf (s : ST) : FrS s s := ⟨rfl, fun _ _ _ => rfl⟩
theorem FrS.u (s : ST) {a k : Nat} {x : Int32} (h : 527 ≤ a ∧ a < 531) : FrS s (u2 s a k x) := ⟨rfl, fun a' k' y => u2_oth _ _ (by omega)⟩
theorem dropC {L : List Nat} {i : Nat} (h : i < L.length) : L.drop i = L.getD i 0 :: L.drop (i + 1) := by
  rw [List.drop_eq_getElem_cons h, List.getD_eq_getElem?_getD, List.getElem?_eq_getElem h]
  rfl
theorem gD_map {L : List Nat} {f : Nat → Nat} {i : Nat} (h : i < L.length) : (L.map f).getD i 0 = f (L.getD i 0) := by
  rw [List.getD_eq_getElem?_getD, List.getElem?_map, List.getElem?_eq_getElem h, List.getD_eq_getElem?_getD, List.getElem?_eq_getElem h]
  rfl
theorem mg_l {f : Nat} {x : Nat} {xs ys : List Nat} (h : ∀ y r, ys = y :: r → x < y) : mg (f + 1) (x :: xs) ys = x :: mg f xs ys := by
  cases ys with
  | nil => rfl
  | cons y r =>
    show (if x < y then x :: mg f xs (y :: r) else _) = _
    rw [if_pos (h y r rfl)]
theorem mg_r {f : Nat} {y : Nat} {xs ys : List Nat} (h : ∀ x r, xs = x :: r → ¬ x < y) : mg (f + 1) xs (y :: ys) = y :: mg f xs ys := by
  cases xs with
  | nil => rfl
  | cons x r =>
    show (if x < y then _ else y :: mg f (x :: r) ys) = _
    rw [if_neg (h x r rfl)]
def Holds (s : ST) (a : Nat) (Z : List Nat) : Prop := ∀ i, i < Z.length → s.1 a i = nI (Z.getD i 0)
section CSET
variable {scr : Nat × (Nat → Int32)} {s : ST}
set_option maxHeartbeats 2000000 in
theorem c_merge (d : Nat) {x c : Nat} {Z : List Nat} (hc : c ≤ 128) (hZ : Z.length = c) (hx : x < 1000000) (hb : ∀ i, i < c → Z.getD i 0 < 1000000000) (hH : Holds s 528 Z) : ∃ s', EvM (d + 1) 71 [.ref 527, .int (nI x), .int (nI c)] (mkH scr s) = some (0, mkH scr s') ∧ Holds s' 528 (mg (2 * c) Z (Z.map (· + x))) ∧ FrS s s' ∧ (∀ k, s'.1 527 k = s.1 527 k) ∧ ∀ k, s'.1 530 k = s.1 530 k := by
  have hY : (Z.map (· + x)).length = c := by rw [List.length_map, hZ]
  have hml : (mg (2 * c) Z (Z.map (· + x))).length = 2 * c := mg_len _ _ _ (by omega)
  have hlp := forUp (X := ST × Nat × Nat × List Nat) (2 * c) (fun k z => EvI (EvM d) C71 0 8 [.ref 527, .int (nI x), .int (nI c), .int (nI z.2.1), .int (nI z.2.2.1), .int (nI k)] [] (mkH scr z.1))
    (fun k z => z.2.1 + z.2.2.1 = k ∧ z.2.1 ≤ c ∧ z.2.2.1 ≤ c ∧ z.2.2.2.length = k ∧ mg (2 * c) Z (Z.map (· + x)) = z.2.2.2 ++ mg (2 * c - k) (Z.drop z.2.1) ((Z.map (· + x)).drop z.2.2.1) ∧ Holds z.1 529 z.2.2.2 ∧ z.1.2 = s.2 ∧ ∀ a k, a ≠ 529 → z.1.1 a k = s.1 a k)
    (fun r => ∃ s', r = some (0, mkH scr s') ∧ Holds s' 528 (mg (2 * c) Z (Z.map (· + x))) ∧ FrS s s' ∧ (∀ k, s'.1 527 k = s.1 527 k) ∧ ∀ k, s'.1 530 k = s.1 530 k) ?_ ?_ (x := (s, 0, 0, [])) ⟨rfl, Nat.zero_le _, Nat.zero_le _, rfl, rfl, fun i hi => absurd hi (by simp), rfl, fun _ _ _ => rfl⟩
  · obtain ⟨s', e1, e2⟩ := hlp
    refine ⟨s', ?_, e2⟩
    rw [← e1, ev71, e71_0]
    simp (disch := omega) only [e71_0, e71_1, e71_2, e71_3, e71_5, e71_6, e71_10, e71_11, e71_12, e71_13, e71_16, e71_18, e71_19, e71_22, e71_23, e71_24, e71_27, e71_28, e71_31, e71_32, e71_33, e71_34, e71_37, e71_39, e71_40, e71_41, e71_42, e71_45, e71_46, e71_49, e71_51, e71_52, e71_55, e71_56, e71_57, e71_58, e71_61, e71_64, e71_65, e71_68, e71_70, e71_71, e71_74, e71_76, e71_77, e71_78, e71_79, e71_80, e71_83, e71_86, e71_89, e71_90, e71_93, e71_94, e71_95, e71_98, e71_99, e71_100, e71_101, e71_102, e71_105, ↓reduceIte, ↓gi0, ↓gr0, ↓gl0, ↓gi1, ↓gr1, ↓gl1, ↓gi2, ↓gr2, ↓gl2, ↓gi3, ↓gr3, ↓gl3, ↓gi4, ↓gr4, ↓gl4, ↓gi5, ↓gr5, ↓gl5, ↓gi6, ↓gr6, ↓gl6, ↓gi7, ↓gr7, ↓gl7, ↓gi8, ↓gr8, ↓gl8, ↓gi9, ↓gr9, ↓gl9, ↓qI, ↓qI2, ↓qL, ↓qL2, ↓qR, ↓qV, ↓pd0, ↓ta0, ↓ts0, ↓pd1, ↓ta1, ↓ts1, ↓pd2, ↓ta2, ↓ts2, ↓pd3, ↓ta3, ↓ts3, ↓pd4, ↓ta4, ↓ts4, ↓pd5, ↓ta5, ↓ts5, ↓pd6, ↓ta6, ↓ts6, lGet, lSet, okS, isLg, Bool.not_false, Bool.not_true, Bool.false_eq_true, not_false_eq_true, not_true_eq_false, catS, okR1, okR20, okR21, okR2b, List.length_cons, List.length_nil, List.drop_succ_cons, List.drop_zero, List.drop_nil, and_self, true_and, and_true, false_and, and_false, Nat.reduceAdd, Nat.reduceLeDiff, Nat.zero_add, Nat.le_refl, Nat.zero_le, pushR, reduceCtorEq, or_self, or_false, false_or, true_or, or_true, ltT, ltF, leT, leF, eqF, eqT, lt0F, ge0T, le0T, le0F, eq0T, eq0F, gt0T, gt0F, nI_add, nI_1, pk_mul, subT, sub1, divT, remN, natRem, n2, n3, n4, n5, n6, n7, n8, n9, n10, n12, n16, n22, n23, n24, n40, n48, n57, n60, n97, n99, n100, n119, n120, n238, n357, n999, n9999, n2231, Int32.add_zero, bI_t, bI_f, one_ne, K527, ↓G527_0, ↓U527_0, ↓G527_1, ↓U527_1, ↓G527_2, ↓G527_3, ↓G527_4]
    rfl
  · rintro k ⟨z, i, j, R⟩ hk ⟨h1, h2, h3, h4, h5, h6, h7, h8⟩
    have h1 : i + j = k := h1
    have h2 : i ≤ c := h2
    have h3 : j ≤ c := h3
    have h4 : R.length = k := h4
    have h5 : mg (2 * c) Z (Z.map (· + x)) = R ++ mg (2 * c - k) (Z.drop i) ((Z.map (· + x)).drop j) := h5
    have h6 : Holds z 529 R := h6
    have h7 : z.2 = s.2 := h7
    have h8 : ∀ a k, a ≠ 529 → z.1 a k = s.1 a k := h8
    have ef : 2 * c - k = (2 * c - (k + 1)) + 1 := by omega
    have hk6 : k < 256 := by omega
    have stp : ∀ v, (fun z : ST => Holds z 529 (R ++ [v]) ∧ z.2 = s.2 ∧ ∀ a k, a ≠ 529 → z.1 a k = s.1 a k) (u2 z 529 k (nI v)) := fun v => by
      refine ⟨fun q hq => ?_, h7, fun a k' ha => by rw [u2_oth _ _ (by omega)]; exact h8 a k' ha⟩
      rw [List.length_append, List.length_singleton] at hq
      by_cases e : q = k
      · subst e
        rw [u2_same, ← h4, gD_at]
      · rw [u2_oth _ _ (by omega), gD_lt (by omega)]
        exact h6 q (by omega)
    have eR : ∀ (v : Nat) (T : List Nat), R ++ v :: T = (R ++ [v]) ++ T := fun v T => by rw [List.append_assoc]; rfl
    have hlen : ∀ v, (R ++ [v]).length = k + 1 := fun v => by rw [List.length_append, List.length_singleton, h4]
    by_cases gj : j < c
    · have lj : z.1 528 j = nI (Z.getD j 0) := (h8 _ _ (by omega)).trans (hH j (by omega))
      have bj := hb j gj
      have dj := dropC (L := Z.map (· + x)) (i := j) (by omega)
      rw [gD_map (by omega)] at dj
      have dj : (Z.map (· + x)).drop j = (Z.getD j 0 + x) :: (Z.map (· + x)).drop (j + 1) := dj
      by_cases gi : i < c
      · have li : z.1 528 i = nI (Z.getD i 0) := (h8 _ _ (by omega)).trans (hH i (by omega))
        have bi := hb i gi
        have di := dropC (L := Z) (i := i) (by omega)
        by_cases gl : Z.getD i 0 < Z.getD j 0 + x
        · obtain ⟨p1, p2, p3⟩ := stp (Z.getD i 0)
          refine ⟨(u2 z 529 k (nI (Z.getD i 0)), i + 1, j, R ++ [Z.getD i 0]), ⟨by show i + 1 + j = k + 1; omega, by show i + 1 ≤ c; omega, h3, hlen _, ?_, p1, p2, p3⟩, ?_⟩
          · show _ = (R ++ [Z.getD i 0]) ++ mg (2 * c - (k + 1)) (Z.drop (i + 1)) ((Z.map (· + x)).drop j)
            rw [← eR, h5, ef, di, mg_l (fun y r e => by rw [dj] at e; injection e with e1 e2; omega)]
          · show EvI (EvM d) C71 0 8 [.ref 527, .int (nI x), .int (nI c), .int (nI i), .int (nI j), .int (nI k)] [] (mkH scr z) = _
            rw [e71_8]
            simp (disch := omega) only [e71_0, e71_1, e71_2, e71_3, e71_5, e71_6, e71_10, e71_11, e71_12, e71_13, e71_16, e71_18, e71_19, e71_22, e71_23, e71_24, e71_27, e71_28, e71_31, e71_32, e71_33, e71_34, e71_37, e71_39, e71_40, e71_41, e71_42, e71_45, e71_46, e71_49, e71_51, e71_52, e71_55, e71_56, e71_57, e71_58, e71_61, e71_64, e71_65, e71_68, e71_70, e71_71, e71_74, e71_76, e71_77, e71_78, e71_79, e71_80, e71_83, e71_86, e71_89, e71_90, e71_93, e71_94, e71_95, e71_98, e71_99, e71_100, e71_101, e71_102, e71_105, ↓reduceIte, ↓gi0, ↓gr0, ↓gl0, ↓gi1, ↓gr1, ↓gl1, ↓gi2, ↓gr2, ↓gl2, ↓gi3, ↓gr3, ↓gl3, ↓gi4, ↓gr4, ↓gl4, ↓gi5, ↓gr5, ↓gl5, ↓gi6, ↓gr6, ↓gl6, ↓gi7, ↓gr7, ↓gl7, ↓gi8, ↓gr8, ↓gl8, ↓gi9, ↓gr9, ↓gl9, ↓qI, ↓qI2, ↓qL, ↓qL2, ↓qR, ↓qV, ↓pd0, ↓ta0, ↓ts0, ↓pd1, ↓ta1, ↓ts1, ↓pd2, ↓ta2, ↓ts2, ↓pd3, ↓ta3, ↓ts3, ↓pd4, ↓ta4, ↓ts4, ↓pd5, ↓ta5, ↓ts5, ↓pd6, ↓ta6, ↓ts6, lGet, lSet, okS, isLg, Bool.not_false, Bool.not_true, Bool.false_eq_true, not_false_eq_true, not_true_eq_false, catS, okR1, okR20, okR21, okR2b, List.length_cons, List.length_nil, List.drop_succ_cons, List.drop_zero, List.drop_nil, and_self, true_and, and_true, false_and, and_false, Nat.reduceAdd, Nat.reduceLeDiff, Nat.zero_add, Nat.le_refl, Nat.zero_le, pushR, reduceCtorEq, or_self, or_false, false_or, true_or, or_true, ltT, ltF, leT, leF, eqF, eqT, lt0F, ge0T, le0T, le0F, eq0T, eq0F, gt0T, gt0F, nI_add, nI_1, pk_mul, subT, sub1, divT, remN, natRem, n2, n3, n4, n5, n6, n7, n8, n9, n10, n12, n16, n22, n23, n24, n40, n48, n57, n60, n97, n99, n100, n119, n120, n238, n357, n999, n9999, n2231, Int32.add_zero, bI_t, bI_f, one_ne, K527, ↓G527_0, ↓U527_0, ↓G527_1, ↓U527_1, ↓G527_2, ↓G527_3, ↓G527_4, ↓I528, ↓S528, ↓I529, ↓S529, li, lj]
        · obtain ⟨p1, p2, p3⟩ := stp (Z.getD j 0 + x)
          refine ⟨(u2 z 529 k (nI (Z.getD j 0 + x)), i, j + 1, R ++ [Z.getD j 0 + x]), ⟨by show i + (j + 1) = k + 1; omega, h2, by show j + 1 ≤ c; omega, hlen _, ?_, p1, p2, p3⟩, ?_⟩
          · show _ = (R ++ [Z.getD j 0 + x]) ++ mg (2 * c - (k + 1)) (Z.drop i) ((Z.map (· + x)).drop (j + 1))
            rw [← eR, h5, ef, dj, mg_r (fun y r e => by rw [di] at e; injection e with e1 e2; omega)]
          · show EvI (EvM d) C71 0 8 [.ref 527, .int (nI x), .int (nI c), .int (nI i), .int (nI j), .int (nI k)] [] (mkH scr z) = _
            rw [e71_8]
            simp (disch := omega) only [e71_0, e71_1, e71_2, e71_3, e71_5, e71_6, e71_10, e71_11, e71_12, e71_13, e71_16, e71_18, e71_19, e71_22, e71_23, e71_24, e71_27, e71_28, e71_31, e71_32, e71_33, e71_34, e71_37, e71_39, e71_40, e71_41, e71_42, e71_45, e71_46, e71_49, e71_51, e71_52, e71_55, e71_56, e71_57, e71_58, e71_61, e71_64, e71_65, e71_68, e71_70, e71_71, e71_74, e71_76, e71_77, e71_78, e71_79, e71_80, e71_83, e71_86, e71_89, e71_90, e71_93, e71_94, e71_95, e71_98, e71_99, e71_100, e71_101, e71_102, e71_105, ↓reduceIte, ↓gi0, ↓gr0, ↓gl0, ↓gi1, ↓gr1, ↓gl1, ↓gi2, ↓gr2, ↓gl2, ↓gi3, ↓gr3, ↓gl3, ↓gi4, ↓gr4, ↓gl4, ↓gi5, ↓gr5, ↓gl5, ↓gi6, ↓gr6, ↓gl6, ↓gi7, ↓gr7, ↓gl7, ↓gi8, ↓gr8, ↓gl8, ↓gi9, ↓gr9, ↓gl9, ↓qI, ↓qI2, ↓qL, ↓qL2, ↓qR, ↓qV, ↓pd0, ↓ta0, ↓ts0, ↓pd1, ↓ta1, ↓ts1, ↓pd2, ↓ta2, ↓ts2, ↓pd3, ↓ta3, ↓ts3, ↓pd4, ↓ta4, ↓ts4, ↓pd5, ↓ta5, ↓ts5, ↓pd6, ↓ta6, ↓ts6, lGet, lSet, okS, isLg, Bool.not_false, Bool.not_true, Bool.false_eq_true, not_false_eq_true, not_true_eq_false, catS, okR1, okR20, okR21, okR2b, List.length_cons, List.length_nil, List.drop_succ_cons, List.drop_zero, List.drop_nil, and_self, true_and, and_true, false_and, and_false, Nat.reduceAdd, Nat.reduceLeDiff, Nat.zero_add, Nat.le_refl, Nat.zero_le, pushR, reduceCtorEq, or_self, or_false, false_or, true_or, or_true, ltT, ltF, leT, leF, eqF, eqT, lt0F, ge0T, le0T, le0F, eq0T, eq0F, gt0T, gt0F, nI_add, nI_1, pk_mul, subT, sub1, divT, remN, natRem, n2, n3, n4, n5, n6, n7, n8, n9, n10, n12, n16, n22, n23, n24, n40, n48, n57, n60, n97, n99, n100, n119, n120, n238, n357, n999, n9999, n2231, Int32.add_zero, bI_t, bI_f, one_ne, K527, ↓G527_0, ↓U527_0, ↓G527_1, ↓U527_1, ↓G527_2, ↓G527_3, ↓G527_4, ↓I528, ↓S528, ↓I529, ↓S529, li, lj]
      · have di : Z.drop i = [] := List.drop_eq_nil_of_le (by omega)
        obtain ⟨p1, p2, p3⟩ := stp (Z.getD j 0 + x)
        refine ⟨(u2 z 529 k (nI (Z.getD j 0 + x)), i, j + 1, R ++ [Z.getD j 0 + x]), ⟨by show i + (j + 1) = k + 1; omega, h2, by show j + 1 ≤ c; omega, hlen _, ?_, p1, p2, p3⟩, ?_⟩
        · show _ = (R ++ [Z.getD j 0 + x]) ++ mg (2 * c - (k + 1)) (Z.drop i) ((Z.map (· + x)).drop (j + 1))
          rw [← eR, h5, ef, dj, mg_r (fun y r e => by rw [di] at e; cases e)]
        · show EvI (EvM d) C71 0 8 [.ref 527, .int (nI x), .int (nI c), .int (nI i), .int (nI j), .int (nI k)] [] (mkH scr z) = _
          rw [e71_8]
          simp (disch := omega) only [e71_0, e71_1, e71_2, e71_3, e71_5, e71_6, e71_10, e71_11, e71_12, e71_13, e71_16, e71_18, e71_19, e71_22, e71_23, e71_24, e71_27, e71_28, e71_31, e71_32, e71_33, e71_34, e71_37, e71_39, e71_40, e71_41, e71_42, e71_45, e71_46, e71_49, e71_51, e71_52, e71_55, e71_56, e71_57, e71_58, e71_61, e71_64, e71_65, e71_68, e71_70, e71_71, e71_74, e71_76, e71_77, e71_78, e71_79, e71_80, e71_83, e71_86, e71_89, e71_90, e71_93, e71_94, e71_95, e71_98, e71_99, e71_100, e71_101, e71_102, e71_105, ↓reduceIte, ↓gi0, ↓gr0, ↓gl0, ↓gi1, ↓gr1, ↓gl1, ↓gi2, ↓gr2, ↓gl2, ↓gi3, ↓gr3, ↓gl3, ↓gi4, ↓gr4, ↓gl4, ↓gi5, ↓gr5, ↓gl5, ↓gi6, ↓gr6, ↓gl6, ↓gi7, ↓gr7, ↓gl7, ↓gi8, ↓gr8, ↓gl8, ↓gi9, ↓gr9, ↓gl9, ↓qI, ↓qI2, ↓qL, ↓qL2, ↓qR, ↓qV, ↓pd0, ↓ta0, ↓ts0, ↓pd1, ↓ta1, ↓ts1, ↓pd2, ↓ta2, ↓ts2, ↓pd3, ↓ta3, ↓ts3, ↓pd4, ↓ta4, ↓ts4, ↓pd5, ↓ta5, ↓ts5, ↓pd6, ↓ta6, ↓ts6, lGet, lSet, okS, isLg, Bool.not_false, Bool.not_true, Bool.false_eq_true, not_false_eq_true, not_true_eq_false, catS, okR1, okR20, okR21, okR2b, List.length_cons, List.length_nil, List.drop_succ_cons, List.drop_zero, List.drop_nil, and_self, true_and, and_true, false_and, and_false, Nat.reduceAdd, Nat.reduceLeDiff, Nat.zero_add, Nat.le_refl, Nat.zero_le, pushR, reduceCtorEq, or_self, or_false, false_or, true_or, or_true, ltT, ltF, leT, leF, eqF, eqT, lt0F, ge0T, le0T, le0F, eq0T, eq0F, gt0T, gt0F, nI_add, nI_1, pk_mul, subT, sub1, divT, remN, natRem, n2, n3, n4, n5, n6, n7, n8, n9, n10, n12, n16, n22, n23, n24, n40, n48, n57, n60, n97, n99, n100, n119, n120, n238, n357, n999, n9999, n2231, Int32.add_zero, bI_t, bI_f, one_ne, K527, ↓G527_0, ↓U527_0, ↓G527_1, ↓U527_1, ↓G527_2, ↓G527_3, ↓G527_4, ↓I528, ↓S528, ↓I529, ↓S529, lj]
    · have dj : (Z.map (· + x)).drop j = [] := List.drop_eq_nil_of_le (by omega)
      have gi : i < c := by omega
      have li : z.1 528 i = nI (Z.getD i 0) := (h8 _ _ (by omega)).trans (hH i (by omega))
      have bi := hb i gi
      have di := dropC (L := Z) (i := i) (by omega)
      obtain ⟨p1, p2, p3⟩ := stp (Z.getD i 0)
      refine ⟨(u2 z 529 k (nI (Z.getD i 0)), i + 1, j, R ++ [Z.getD i 0]), ⟨by show i + 1 + j = k + 1; omega, by show i + 1 ≤ c; omega, h3, hlen _, ?_, p1, p2, p3⟩, ?_⟩
      · show _ = (R ++ [Z.getD i 0]) ++ mg (2 * c - (k + 1)) (Z.drop (i + 1)) ((Z.map (· + x)).drop j)
        rw [← eR, h5, ef, di, mg_l (fun y r e => by rw [dj] at e; cases e)]
      · show EvI (EvM d) C71 0 8 [.ref 527, .int (nI x), .int (nI c), .int (nI i), .int (nI j), .int (nI k)] [] (mkH scr z) = _
        rw [e71_8]
        simp (disch := omega) only [e71_0, e71_1, e71_2, e71_3, e71_5, e71_6, e71_10, e71_11, e71_12, e71_13, e71_16, e71_18, e71_19, e71_22, e71_23, e71_24, e71_27, e71_28, e71_31, e71_32, e71_33, e71_34, e71_37, e71_39, e71_40, e71_41, e71_42, e71_45, e71_46, e71_49, e71_51, e71_52, e71_55, e71_56, e71_57, e71_58, e71_61, e71_64, e71_65, e71_68, e71_70, e71_71, e71_74, e71_76, e71_77, e71_78, e71_79, e71_80, e71_83, e71_86, e71_89, e71_90, e71_93, e71_94, e71_95, e71_98, e71_99, e71_100, e71_101, e71_102, e71_105, ↓reduceIte, ↓gi0, ↓gr0, ↓gl0, ↓gi1, ↓gr1, ↓gl1, ↓gi2, ↓gr2, ↓gl2, ↓gi3, ↓gr3, ↓gl3, ↓gi4, ↓gr4, ↓gl4, ↓gi5, ↓gr5, ↓gl5, ↓gi6, ↓gr6, ↓gl6, ↓gi7, ↓gr7, ↓gl7, ↓gi8, ↓gr8, ↓gl8, ↓gi9, ↓gr9, ↓gl9, ↓qI, ↓qI2, ↓qL, ↓qL2, ↓qR, ↓qV, ↓pd0, ↓ta0, ↓ts0, ↓pd1, ↓ta1, ↓ts1, ↓pd2, ↓ta2, ↓ts2, ↓pd3, ↓ta3, ↓ts3, ↓pd4, ↓ta4, ↓ts4, ↓pd5, ↓ta5, ↓ts5, ↓pd6, ↓ta6, ↓ts6, lGet, lSet, okS, isLg, Bool.not_false, Bool.not_true, Bool.false_eq_true, not_false_eq_true, not_true_eq_false, catS, okR1, okR20, okR21, okR2b, List.length_cons, List.length_nil, List.drop_succ_cons, List.drop_zero, List.drop_nil, and_self, true_and, and_true, false_and, and_false, Nat.reduceAdd, Nat.reduceLeDiff, Nat.zero_add, Nat.le_refl, Nat.zero_le, pushR, reduceCtorEq, or_self, or_false, false_or, true_or, or_true, ltT, ltF, leT, leF, eqF, eqT, lt0F, ge0T, le0T, le0F, eq0T, eq0F, gt0T, gt0F, nI_add, nI_1, pk_mul, subT, sub1, divT, remN, natRem, n2, n3, n4, n5, n6, n7, n8, n9, n10, n12, n16, n22, n23, n24, n40, n48, n57, n60, n97, n99, n100, n119, n120, n238, n357, n999, n9999, n2231, Int32.add_zero, bI_t, bI_f, one_ne, K527, ↓G527_0, ↓U527_0, ↓G527_1, ↓U527_1, ↓G527_2, ↓G527_3, ↓G527_4, ↓I528, ↓S528, ↓I529, ↓S529, li]
  · rintro ⟨z, i, j, R⟩ ⟨h1, h2, h3, h4, h5, h6, h7, h8⟩
    have h4 : R.length = 2 * c := h4
    have h5 : mg (2 * c) Z (Z.map (· + x)) = R ++ mg (2 * c - 2 * c) (Z.drop i) ((Z.map (· + x)).drop j) := h5
    have h6 : Holds z 529 R := h6
    have h7 : z.2 = s.2 := h7
    have h8 : ∀ a k, a ≠ 529 → z.1 a k = s.1 a k := h8
    rw [Nat.sub_self] at h5
    have h5 : mg (2 * c) Z (Z.map (· + x)) = R := h5.trans (List.append_nil R)
    rw [h5]
    have cp := cpyS (scr := scr) (s := z) (a0 := 529) (a1 := 528) (sp := 0) (dp := 0) (n := nI (2 * c)) sh_529 sh_528 ⟨by decide, by decide, nI_pos (by omega), by rw [nI_clamp (by omega)]; show 0 + 2 * c ≤ 256; omega, by rw [nI_clamp (by omega)]; show 0 + 2 * c ≤ 256; omega⟩
    rw [nI_clamp (show 2 * c < 2 ^ 31 by omega)] at cp
    have hs1 : ∃ s1, s1 = uA z 528 (va_cpy (z.1 529) (z.1 528) (0 : Int32).toNatClampNeg (0 : Int32).toNatClampNeg (2 * c)) := ⟨_, rfl⟩
    obtain ⟨s1, es1⟩ := hs1
    rw [← es1] at cp
    have o1 : ∀ a k, a ≠ 528 → s1.1 a k = z.1 a k := fun a k ha => by
      rw [es1]
      show (if a = 528 then _ else z.1 a) k = _
      rw [if_neg ha]
    have o2 : Holds s1 528 R := fun q hq => by
      rw [es1]
      show (if 528 = 528 then va_cpy (z.1 529) (z.1 528) 0 0 (2 * c) else z.1 528) q = _
      rw [if_pos rfl, pk_cpy_in (Nat.zero_le q) (by omega), Nat.sub_zero, Nat.zero_add]
      exact h6 q hq
    refine ⟨s1, ?_, o2, ⟨by rw [es1]; exact h7, fun a k y => by rw [o1 _ _ (by omega), h8 _ _ (by omega)]⟩, fun k => by rw [o1 _ _ (by omega), h8 _ _ (by omega)], fun k => by rw [o1 _ _ (by omega), h8 _ _ (by omega)]⟩
    show EvI (EvM d) C71 0 8 [.ref 527, .int (nI x), .int (nI c), .int (nI i), .int (nI j), .int (nI (2 * c))] [] (mkH scr z) = _
    rw [e71_8]
    simp (disch := omega) only [e71_0, e71_1, e71_2, e71_3, e71_5, e71_6, e71_10, e71_11, e71_12, e71_13, e71_16, e71_18, e71_19, e71_22, e71_23, e71_24, e71_27, e71_28, e71_31, e71_32, e71_33, e71_34, e71_37, e71_39, e71_40, e71_41, e71_42, e71_45, e71_46, e71_49, e71_51, e71_52, e71_55, e71_56, e71_57, e71_58, e71_61, e71_64, e71_65, e71_68, e71_70, e71_71, e71_74, e71_76, e71_77, e71_78, e71_79, e71_80, e71_83, e71_86, e71_89, e71_90, e71_93, e71_94, e71_95, e71_98, e71_99, e71_100, e71_101, e71_102, e71_105, ↓reduceIte, ↓gi0, ↓gr0, ↓gl0, ↓gi1, ↓gr1, ↓gl1, ↓gi2, ↓gr2, ↓gl2, ↓gi3, ↓gr3, ↓gl3, ↓gi4, ↓gr4, ↓gl4, ↓gi5, ↓gr5, ↓gl5, ↓gi6, ↓gr6, ↓gl6, ↓gi7, ↓gr7, ↓gl7, ↓gi8, ↓gr8, ↓gl8, ↓gi9, ↓gr9, ↓gl9, ↓qI, ↓qI2, ↓qL, ↓qL2, ↓qR, ↓qV, ↓pd0, ↓ta0, ↓ts0, ↓pd1, ↓ta1, ↓ts1, ↓pd2, ↓ta2, ↓ts2, ↓pd3, ↓ta3, ↓ts3, ↓pd4, ↓ta4, ↓ts4, ↓pd5, ↓ta5, ↓ts5, ↓pd6, ↓ta6, ↓ts6, lGet, lSet, okS, isLg, Bool.not_false, Bool.not_true, Bool.false_eq_true, not_false_eq_true, not_true_eq_false, catS, okR1, okR20, okR21, okR2b, List.length_cons, List.length_nil, List.drop_succ_cons, List.drop_zero, List.drop_nil, and_self, true_and, and_true, false_and, and_false, Nat.reduceAdd, Nat.reduceLeDiff, Nat.zero_add, Nat.le_refl, Nat.zero_le, pushR, reduceCtorEq, or_self, or_false, false_or, true_or, or_true, ltT, ltF, leT, leF, eqF, eqT, lt0F, ge0T, le0T, le0F, eq0T, eq0F, gt0T, gt0F, nI_add, nI_1, pk_mul, subT, sub1, divT, remN, natRem, n2, n3, n4, n5, n6, n7, n8, n9, n10, n12, n16, n22, n23, n24, n40, n48, n57, n60, n97, n99, n100, n119, n120, n238, n357, n999, n9999, n2231, Int32.add_zero, bI_t, bI_f, one_ne, K527, ↓G527_0, ↓U527_0, ↓G527_1, ↓U527_1, ↓G527_2, ↓G527_3, ↓G527_4, ↓I528, ↓S528, ↓I529, ↓S529, ↓bnd cp]
end CSET
