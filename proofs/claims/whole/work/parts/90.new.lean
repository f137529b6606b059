/-! ===== what lapses in so many months ===== -/
def lapq (k : Nat) (mo tm : Int32) (q : Nat × Nat) : Bool := !(isOfB k 3) && !(decide (mo - nI q.2 < tm))
theorem zap_dd {k : Nat} {l : LT} {mo tm : Int32} : ∀ j i, j ≤ l.length → lt_d (zap k l mo tm j) i = if i < j ∧ lapB k l i mo tm = true then 0 else lt_d l i
  | 0, i, _ => by rw [if_neg (fun z => absurd z.1 (Nat.not_lt_zero i))]; rfl
  | j + 1, i, hj => by
    have e : zap k l mo tm (j + 1) = if lapB k l j mo tm then (zap k l mo tm j).set j (0, lt_m l j) else zap k l mo tm j := rfl
    rw [e]
    by_cases h : lapB k l j mo tm = true
    · rw [if_pos h, lt_set_d, zap_len, zap_dd j i (by omega)]
      by_cases hi : i = j
      · subst hi
        rw [if_pos ⟨rfl, by omega⟩, if_pos ⟨by omega, h⟩]
      · rw [if_neg (fun z => hi z.1)]
        by_cases h2 : i < j ∧ lapB k l i mo tm = true
        · rw [if_pos h2, if_pos ⟨by omega, h2.2⟩]
        · rw [if_neg h2, if_neg (fun z => h2 ⟨by omega, z.2⟩)]
    · rw [if_neg h, zap_dd j i (by omega)]
      by_cases h2 : i < j ∧ lapB k l i mo tm = true
      · rw [if_pos h2, if_pos ⟨by omega, h2.2⟩]
      · rw [if_neg h2, if_neg (fun z => h2 ⟨by
          by_cases e : i = j
          · subst e; exact absurd z.2 h
          · omega, z.2⟩)]
theorem zap_map {k : Nat} {l : LT} {mo tm : Int32} : zap k l mo tm l.length = l.map (fun q => if lapq k mo tm q = true then (0, q.2) else q) := by
  apply List.ext_getElem?
  intro i
  by_cases hi : i < l.length
  · rw [lt_get (by rw [zap_len]; exact hi), List.getElem?_map, lt_get hi, zap_dd _ _ (Nat.le_refl _), zap_m]
    have e : lapB k l i mo tm = lapq k mo tm (lt_d l i, lt_m l i) := rfl
    rw [e]
    show some _ = some (if lapq k mo tm (lt_d l i, lt_m l i) = true then (0, lt_m l i) else (lt_d l i, lt_m l i))
    by_cases h : lapq k mo tm (lt_d l i, lt_m l i) = true
    · rw [if_pos ⟨hi, h⟩, if_pos h]
    · rw [if_neg (fun z => h z.2), if_neg h]
  · rw [List.getElem?_eq_none (by rw [zap_len]; omega), List.getElem?_eq_none (by rw [List.length_map]; omega)]
theorem keep_zap {k : Nat} {l : LT} {mo tm : Int32} (h : ∀ q, q ∈ l → 1 ≤ q.1) : keepL (zap k l mo tm l.length) = l.filter (fun q => !(lapq k mo tm q)) := by
  rw [zap_map]
  unfold keepL
  induction l with
  | nil => rfl
  | cons q l ih =>
    have hq := h q List.mem_cons_self
    have ih' := ih (fun x hx => h x (List.mem_cons_of_mem _ hx))
    rw [List.map_cons, List.filter_cons, List.filter_cons]
    cases hl : lapq k mo tm q with
    | true =>
      simp only [if_true, Nat.lt_irrefl, decide_false, Bool.false_eq_true, if_false, Bool.not_true]
      exact ih'
    | false =>
      simp only [Bool.false_eq_true, if_false, Bool.not_false, if_true]
      rw [if_pos (decide_eq_true (show 0 < q.1 by omega)), ih']
theorem lapS_f {k : Nat} {l : LT} {mo tm : Int32} : ∀ j, j ≤ l.length → lapS k l mo tm j = sumD ((l.take j).filter (lapq k mo tm))
  | 0, _ => rfl
  | j + 1, hj => by
    have e : lapS k l mo tm (j + 1) = lapS k l mo tm j + if lapB k l j mo tm then lt_d l j else 0 := rfl
    have e2 : lapB k l j mo tm = lapq k mo tm (lt_d l j, lt_m l j) := rfl
    rw [e, lapS_f j (by omega), List.take_add_one, lt_get (show j < l.length by omega), List.filter_append, e2]
    unfold sumD
    rw [List.map_append, List.sum_append]
    cases h : lapq k mo tm (lt_d l j, lt_m l j) <;> simp [List.filter, h]
theorem sum_split (l : LT) (P : Nat × Nat → Bool) : sumD l = sumD (l.filter P) + sumD (l.filter (fun q => !(P q))) := by
  induction l with
  | nil => rfl
  | cons q l ih =>
    unfold sumD at *
    rw [List.map_cons, List.sum_cons, List.filter_cons, List.filter_cons]
    cases P q <;> simp <;> omega
/-- n ends of months of one -/
def pE (t m : Nat) (p : PT) : Nat → PT
  | 0 => p
  | n + 1 => pEnd (nI (m + n)) (nI t) (pE t m p n)
def cEs (c : CY) : Nat → CY
  | 0 => c
  | n + 1 => cEnd (cEs c n)
theorem cEs_f (c : CY) : ∀ n, cEs c n = (c.1, c.2.1, c.2.2.1 + n, c.2.2.2.1, fun i => pE c.1 c.2.2.1 (c.2.2.2.2 i) n)
  | 0 => rfl
  | n + 1 => by
    show cEnd (cEs c n) = _
    rw [cEs_f c n]
    rfl
def lapN (k t j : Nat) (q : Nat × Nat) : Bool := decide (k ≠ 3 ∧ t + q.2 < j)
theorem lapq_N {k t M : Nat} {x : Int32} {q : Nat × Nat} (hk : k < 6) (hx : x.toInt = (M : Int) - 1) (hM : M ≤ 2000) (ht : t ≤ 24) (hq : q.2 ≤ 2000) : lapq k x (nI t) q = lapN k t M q := by
  unfold lapq lapN
  rw [is3 k hk]
  have e : (x - nI q.2).toInt = (M : Int) - 1 - q.2 := by
    rw [Int32.toInt_sub, hx, nI_toInt (by omega)]
    exact Int.bmod_eq_of_le (by omega) (by omega)
  have e2 : (x - nI q.2 < nI t) ↔ M ≤ t + q.2 := by
    rw [Int32.lt_iff_toInt_lt, e, nI_toInt (by omega)]
    omega
  by_cases h3 : k = 3
  · have z1 : decide (k ≠ 3 ∧ t + q.2 < M) = false := decide_eq_false (fun z => z.1 h3)
    rw [decide_eq_true h3, z1]
    rfl
  · rw [decide_eq_false h3]
    by_cases h4 : M ≤ t + q.2
    · have z1 : decide (k ≠ 3 ∧ t + q.2 < M) = false := decide_eq_false (fun z => by omega)
      rw [decide_eq_true (e2.mpr h4), z1]
      rfl
    · have z1 : decide (k ≠ 3 ∧ t + q.2 < M) = true := decide_eq_true ⟨h3, by omega⟩
      have z2 : decide (x - nI q.2 < nI t) = false := decide_eq_false (fun z => h4 (e2.mp z))
      rw [z2, z1]
      rfl
theorem pE_1 (t m : Nat) (p : PT) : ∀ n, (pE t m p n).1 = p.1
  | 0 => rfl
  | n + 1 => pE_1 t m p n
theorem pE_l {t m : Nat} {p : PT} (hk : p.1 < 6) (hm : m ≤ 999) (ht : t ≤ 24) (hd : ∀ q, q ∈ lotsP p → 1 ≤ q.1 ∧ q.2 ≤ m) (hf : ptF t m p) : ∀ n, n ≤ 60 → lotsP (pE t m p n) = (lotsP p).filter (fun q => !(lapN p.1 t (m + n) q))
  | 0, _ => by
    show lotsP p = _
    refine (List.filter_eq_self.mpr (fun q hq => ?_)).symm
    have : lapN p.1 t (m + 0) q = false := decide_eq_false (fun z => by have := hf z.1 q hq; omega)
    rw [this]
    rfl
  | n + 1, hn => by
    have ih := pE_l hk hm ht hd hf n (by omega)
    have e : lotsP (pE t m p (n + 1)) = keepL (zap (pE t m p n).1 (lotsP (pE t m p n)) (nI (m + n)) (nI t) (lotsP (pE t m p n)).length) := rfl
    rw [e, ih, pE_1]
    rw [keep_zap (fun q hq => (hd q (List.mem_filter.mp hq).1).1), List.filter_filter]
    refine List.filter_congr (fun q hq => ?_)
    have hq2 := (hd q hq).2
    rw [lapq_N (M := m + n + 1) hk (by rw [nI_toInt (by omega)]; omega) (by omega) ht (by omega)]
    unfold lapN
    by_cases h3 : p.1 = 3
    · simp [h3]
    · by_cases h4 : t + q.2 < m + n + 1
      · have h5 : t + q.2 < m + (n + 1) := by omega
        simp [h3, h4, h5]
      · have h5 : ¬ t + q.2 < m + (n + 1) := by omega
        have h6 : ¬ t + q.2 < m + n := by omega
        simp [h3, h4, h5, h6]
theorem lap_all {t m n : Nat} {p : PT} (hk : p.1 < 6) (hm : m ≤ 999) (ht : t ≤ 24) (hd : ∀ q, q ∈ lotsP p → 1 ≤ q.1 ∧ q.2 ≤ m) (hf : ptF t m p) (hn : n ≤ 60) : lapS p.1 (lotsP p) (nI m + nI n - 1) (nI t) (lotsP p).length + sumD (lotsP (pE t m p n)) = sumD (lotsP p) := by
  rw [pE_l hk hm ht hd hf n hn, lapS_f _ (Nat.le_refl _), List.take_length, sum_split (lotsP p) (lapN p.1 t (m + n))]
  refine congrArg (· + _) (congrArg sumD (List.filter_congr (fun q hq => ?_)))
  refine lapq_N hk ?_ (by omega) ht (by have := (hd q hq).2; omega)
  rw [nI_add, Int32.toInt_sub, nI_toInt (by omega)]
  exact Int.bmod_eq_of_le (by show _ ≤ ((m + n : Nat) : Int) - 1; omega) (by show ((m + n : Nat) : Int) - 1 < _; omega)
/-! ===== the reference's calls: what is asked ===== -/
section MSQ
variable {scr : Nat × (Nat → Int32)} {s : ST}
theorem ms_person (d : Nat) {A : AS} (hI : InvM s A) (hG : Gd A) (p v : Int32) : ∃ s', EvM (d + 4) 174 [.ref 614, .int p, .int v] (mkH scr s) = some ((oPerson p v A).1, mkH scr s') ∧ InvM s' (oPerson p v A).2 ∧ FrLo s s' := by
  obtain ⟨rw_, tp, fl, st, hs, ⟨t, w, m, N, f⟩, im, pa, tr⟩ := A
  obtain ⟨q0, q3, h6, qS, hVV⟩ : CTm s hs (t, w, m, N, f) := hI.2.2.2.2.1
  have q3 : s.1 615 3 = nI N := q3
  have h6 : N ≤ 6 := h6
  have q0 : s.1 615 0 = bI hs := q0
  have q22 : s.1 615 22 = nI m := hVV.1
  have hcg : cyGd 9999 (t, w, m, N, f) := hG.2.1.1
  have hm : m ≤ 999 := hG.2.1.2.2
  have hok : cyOk (t, w, m, N, f) := hcg.ok (by decide) (by show m < 2 ^ 20; omega)
  have w1 := m_isOne (d + 1) (scr := scr) p q3 h6
  rw [ev174, e174_0]
  cases g1 : inB p N
  · rw [g1] at w1
    refine ⟨s, ?_, ?_, FrLo.rf s⟩ <;> simp only [oPerson, nPe, hasC, g1, Bool.false_eq_true, false_and, and_false, if_false, if_true, bad]
    · simp (disch := omega) only [e174_0, e174_1, e174_2, e174_5, e174_8, e174_10, e174_11, e174_12, e174_56, e174_57, e174_58, e174_59, e174_62, e174_63, e174_64, e174_67, e174_68, e174_69, e174_72, e174_73, e174_74, e174_75, e174_76, e174_77, e174_78, e174_79, e174_82, e174_83, e174_84, e174_85, e174_86, e174_87, e174_88, e174_89, e174_90, e174_91, e174_92, e174_93, e174_94, e174_97, e174_98, e174_99, e174_102, e174_103, e174_104, e174_105, e174_106, e174_108, ↓reduceIte, ↓gi0, ↓gr0, ↓gl0, ↓gi1, ↓gr1, ↓gl1, ↓gi2, ↓gr2, ↓gl2, ↓gi3, ↓gr3, ↓gl3, ↓gi4, ↓gr4, ↓gl4, ↓gi5, ↓gr5, ↓gl5, ↓gi6, ↓gr6, ↓gl6, ↓gi7, ↓gr7, ↓gl7, ↓gi8, ↓gr8, ↓gl8, ↓gi9, ↓gr9, ↓gl9, ↓qI, ↓qI2, ↓qL, ↓qL2, ↓qR, ↓qV, ↓pd0, ↓ta0, ↓ts0, ↓pd1, ↓ta1, ↓ts1, ↓pd2, ↓ta2, ↓ts2, ↓pd3, ↓ta3, ↓ts3, ↓pd4, ↓ta4, ↓ts4, ↓pd5, ↓ta5, ↓ts5, ↓pd6, ↓ta6, ↓ts6, lGet, lSet, okS, isLg, Bool.not_false, Bool.not_true, Bool.false_eq_true, not_false_eq_true, not_true_eq_false, catS, okR1, okR20, okR21, okR2b, List.length_cons, List.length_nil, List.drop_succ_cons, List.drop_zero, List.drop_nil, and_self, true_and, and_true, false_and, and_false, Nat.reduceAdd, Nat.reduceLeDiff, Nat.zero_add, Nat.le_refl, Nat.zero_le, pushR, reduceCtorEq, or_self, or_false, false_or, true_or, or_true, ltT, ltF, leT, leF, eqF, eqT, lt0F, ge0T, le0T, le0F, eq0T, eq0F, gt0T, gt0F, nI_add, nI_1, pk_mul, subT, sub1, divT, remN, natRem, n2, n3, n4, n5, n6, n7, n8, n9, n10, n12, n16, n22, n23, n24, n40, n48, n57, n60, n97, n99, n100, n119, n120, n238, n357, n999, n9999, n2231, Int32.add_zero, bI_t, bI_f, one_ne, K614, ↓G614_0, ↓G614_1, ↓G614_2, ↓U614_2, ↓G614_3, ↓G614_4, ↓U614_4, ↓G614_5, ↓U614_5, ↓G614_6, ↓U614_6, ↓G614_7, ↓G614_8, ↓G614_9, ↓G614_10, ↓G614_11, ↓U614_11, ↓G614_12, ↓U614_12, ↓G614_13, ↓U614_13, ↓G614_14, ↓U614_14, ↓G614_15, ↓G614_16, ↓U614_16, ↓G614_18, ↓U614_18, ↓G614_19, ↓I615, ↓S615, ↓bnd w1]
    · exact hI
  rw [g1] at w1
  obtain ⟨j, hj, rfl⟩ := inB_of (by omega) g1
  have ej : (nI j).toNatClampNeg = j := nI_clamp (by omega)
  have hj6 : j < 6 := by omega
  have hst : hs = true := hs_of hG (j := j) hj
  have hMS := qS hst
  have hkd : s.1 615 (4 + 3 * j) = nI (f j).1 := (hMS.2.2.2.2 j hj).1
  have hp : MP s 615 (23 + 16 * j) (f j) := hVV.2 j hj
  have hpo : pOk (f j) := hok.2.2.2 j hj
  have hu : EvM (d + 3) 154 [.ref 614, .int 0, .int (nI j)] (mkH scr s) = some (nI (sumD (f j).2.2.2.2.2.2), mkH scr s) := m_unspent (d + 1) (b := 0) (p := j) hp.2.2.2 (by omega)
  have hat : EvM (d + 3) 153 [.int 0, .int (nI j)] (mkH scr s) = some (nI (23 + 16 * j), mkH scr s) := m_at (d + 2) 0 j
  obtain ⟨p0_, p1_, p2_, pL⟩ := hp
  have p3_ := pL.1
  obtain ⟨-, k2_, k3_⟩ := hMS.2.2.2.2 j hj
  simp only at k2_ k3_
  refine ⟨s, ?_, ?_, FrLo.rf s⟩ <;> simp only [oPerson, nPe, pOf, lotsP, g1, if_true, ej, cl]
  rotate_left
  · exact hI
  rcases w_cases v with ⟨k, hk, rfl⟩ | rfl | rfl | rfl | hv
  · have ek : (nI k).toNatClampNeg = k := nI_clamp (by omega)
    rw [inR_T (by omega) (show k ≤ 3 by omega) (by decide), ek]
    unfold amt
    match k, hk with
    | 0, _ => simp (disch := omega) only [e174_0, e174_1, e174_2, e174_5, e174_8, e174_10, e174_11, e174_56, e174_57, e174_58, e174_59, e174_62, e174_63, e174_64, e174_67, e174_68, e174_69, e174_72, e174_73, e174_74, e174_75, e174_76, e174_77, e174_78, e174_79, e174_82, e174_83, e174_84, e174_85, e174_86, e174_87, e174_88, e174_89, e174_90, e174_91, e174_92, e174_93, e174_94, e174_97, e174_98, e174_99, e174_102, e174_103, e174_104, e174_105, e174_106, e174_108, ↓reduceIte, ↓gi0, ↓gr0, ↓gl0, ↓gi1, ↓gr1, ↓gl1, ↓gi2, ↓gr2, ↓gl2, ↓gi3, ↓gr3, ↓gl3, ↓gi4, ↓gr4, ↓gl4, ↓gi5, ↓gr5, ↓gl5, ↓gi6, ↓gr6, ↓gl6, ↓gi7, ↓gr7, ↓gl7, ↓gi8, ↓gr8, ↓gl8, ↓gi9, ↓gr9, ↓gl9, ↓qI, ↓qI2, ↓qL, ↓qL2, ↓qR, ↓qV, ↓pd0, ↓ta0, ↓ts0, ↓pd1, ↓ta1, ↓ts1, ↓pd2, ↓ta2, ↓ts2, ↓pd3, ↓ta3, ↓ts3, ↓pd4, ↓ta4, ↓ts4, ↓pd5, ↓ta5, ↓ts5, ↓pd6, ↓ta6, ↓ts6, lGet, lSet, okS, isLg, Bool.not_false, Bool.not_true, Bool.false_eq_true, not_false_eq_true, not_true_eq_false, catS, okR1, okR20, okR21, okR2b, List.length_cons, List.length_nil, List.drop_succ_cons, List.drop_zero, List.drop_nil, and_self, true_and, and_true, false_and, and_false, Nat.reduceAdd, Nat.reduceLeDiff, Nat.zero_add, Nat.le_refl, Nat.zero_le, pushR, reduceCtorEq, or_self, or_false, false_or, true_or, or_true, T174_0, K614, ↓G614_0, ↓G614_1, ↓G614_2, ↓U614_2, ↓G614_3, ↓G614_4, ↓U614_4, ↓G614_5, ↓U614_5, ↓G614_6, ↓U614_6, ↓G614_7, ↓G614_8, ↓G614_9, ↓G614_10, ↓G614_11, ↓U614_11, ↓G614_12, ↓U614_12, ↓G614_13, ↓U614_13, ↓G614_14, ↓U614_14, ↓G614_15, ↓G614_16, ↓U614_16, ↓G614_18, ↓U614_18, ↓G614_19, ↓I615, ↓S615, ↓bnd w1, bI_t, one_ne, ↓bnd hu, if_true]
    | 1, _ => simp (disch := omega) only [e174_0, e174_1, e174_2, e174_5, e174_8, e174_10, e174_11, e174_56, e174_57, e174_58, e174_59, e174_62, e174_63, e174_64, e174_67, e174_68, e174_69, e174_72, e174_73, e174_74, e174_75, e174_76, e174_77, e174_78, e174_79, e174_82, e174_83, e174_84, e174_85, e174_86, e174_87, e174_88, e174_89, e174_90, e174_91, e174_92, e174_93, e174_94, e174_97, e174_98, e174_99, e174_102, e174_103, e174_104, e174_105, e174_106, e174_108, ↓reduceIte, ↓gi0, ↓gr0, ↓gl0, ↓gi1, ↓gr1, ↓gl1, ↓gi2, ↓gr2, ↓gl2, ↓gi3, ↓gr3, ↓gl3, ↓gi4, ↓gr4, ↓gl4, ↓gi5, ↓gr5, ↓gl5, ↓gi6, ↓gr6, ↓gl6, ↓gi7, ↓gr7, ↓gl7, ↓gi8, ↓gr8, ↓gl8, ↓gi9, ↓gr9, ↓gl9, ↓qI, ↓qI2, ↓qL, ↓qL2, ↓qR, ↓qV, ↓pd0, ↓ta0, ↓ts0, ↓pd1, ↓ta1, ↓ts1, ↓pd2, ↓ta2, ↓ts2, ↓pd3, ↓ta3, ↓ts3, ↓pd4, ↓ta4, ↓ts4, ↓pd5, ↓ta5, ↓ts5, ↓pd6, ↓ta6, ↓ts6, lGet, lSet, okS, isLg, Bool.not_false, Bool.not_true, Bool.false_eq_true, not_false_eq_true, not_true_eq_false, catS, okR1, okR20, okR21, okR2b, List.length_cons, List.length_nil, List.drop_succ_cons, List.drop_zero, List.drop_nil, and_self, true_and, and_true, false_and, and_false, Nat.reduceAdd, Nat.reduceLeDiff, Nat.zero_add, Nat.le_refl, Nat.zero_le, pushR, reduceCtorEq, or_self, or_false, false_or, true_or, or_true, T174_1, K614, ↓G614_0, ↓G614_1, ↓G614_2, ↓U614_2, ↓G614_3, ↓G614_4, ↓U614_4, ↓G614_5, ↓U614_5, ↓G614_6, ↓U614_6, ↓G614_7, ↓G614_8, ↓G614_9, ↓G614_10, ↓G614_11, ↓U614_11, ↓G614_12, ↓U614_12, ↓G614_13, ↓U614_13, ↓G614_14, ↓U614_14, ↓G614_15, ↓G614_16, ↓U614_16, ↓G614_18, ↓U614_18, ↓G614_19, ↓I615, ↓S615, ↓bnd w1, bI_t, one_ne, ↓bnd hat, nI_add, sub1, Nat.add_sub_cancel, p0_, Nat.one_ne_zero, if_true, if_false]
    | 2, _ => simp (disch := omega) only [e174_0, e174_1, e174_2, e174_5, e174_8, e174_10, e174_11, e174_56, e174_57, e174_58, e174_59, e174_62, e174_63, e174_64, e174_67, e174_68, e174_69, e174_72, e174_73, e174_74, e174_75, e174_76, e174_77, e174_78, e174_79, e174_82, e174_83, e174_84, e174_85, e174_86, e174_87, e174_88, e174_89, e174_90, e174_91, e174_92, e174_93, e174_94, e174_97, e174_98, e174_99, e174_102, e174_103, e174_104, e174_105, e174_106, e174_108, ↓reduceIte, ↓gi0, ↓gr0, ↓gl0, ↓gi1, ↓gr1, ↓gl1, ↓gi2, ↓gr2, ↓gl2, ↓gi3, ↓gr3, ↓gl3, ↓gi4, ↓gr4, ↓gl4, ↓gi5, ↓gr5, ↓gl5, ↓gi6, ↓gr6, ↓gl6, ↓gi7, ↓gr7, ↓gl7, ↓gi8, ↓gr8, ↓gl8, ↓gi9, ↓gr9, ↓gl9, ↓qI, ↓qI2, ↓qL, ↓qL2, ↓qR, ↓qV, ↓pd0, ↓ta0, ↓ts0, ↓pd1, ↓ta1, ↓ts1, ↓pd2, ↓ta2, ↓ts2, ↓pd3, ↓ta3, ↓ts3, ↓pd4, ↓ta4, ↓ts4, ↓pd5, ↓ta5, ↓ts5, ↓pd6, ↓ta6, ↓ts6, lGet, lSet, okS, isLg, Bool.not_false, Bool.not_true, Bool.false_eq_true, not_false_eq_true, not_true_eq_false, catS, okR1, okR20, okR21, okR2b, List.length_cons, List.length_nil, List.drop_succ_cons, List.drop_zero, List.drop_nil, and_self, true_and, and_true, false_and, and_false, Nat.reduceAdd, Nat.reduceLeDiff, Nat.zero_add, Nat.le_refl, Nat.zero_le, pushR, reduceCtorEq, or_self, or_false, false_or, true_or, or_true, T174_2, K614, ↓G614_0, ↓G614_1, ↓G614_2, ↓U614_2, ↓G614_3, ↓G614_4, ↓U614_4, ↓G614_5, ↓U614_5, ↓G614_6, ↓U614_6, ↓G614_7, ↓G614_8, ↓G614_9, ↓G614_10, ↓G614_11, ↓U614_11, ↓G614_12, ↓U614_12, ↓G614_13, ↓U614_13, ↓G614_14, ↓U614_14, ↓G614_15, ↓G614_16, ↓U614_16, ↓G614_18, ↓U614_18, ↓G614_19, ↓I615, ↓S615, ↓bnd w1, bI_t, one_ne, ↓bnd hat, nI_add, sub1, show 23 + 16 * j + 2 - 1 = 23 + 16 * j + 1 from rfl, p1_, Nat.reduceEqDiff, if_true, if_false]
    | 3, _ => simp (disch := omega) only [e174_0, e174_1, e174_2, e174_5, e174_8, e174_10, e174_11, e174_56, e174_57, e174_58, e174_59, e174_62, e174_63, e174_64, e174_67, e174_68, e174_69, e174_72, e174_73, e174_74, e174_75, e174_76, e174_77, e174_78, e174_79, e174_82, e174_83, e174_84, e174_85, e174_86, e174_87, e174_88, e174_89, e174_90, e174_91, e174_92, e174_93, e174_94, e174_97, e174_98, e174_99, e174_102, e174_103, e174_104, e174_105, e174_106, e174_108, ↓reduceIte, ↓gi0, ↓gr0, ↓gl0, ↓gi1, ↓gr1, ↓gl1, ↓gi2, ↓gr2, ↓gl2, ↓gi3, ↓gr3, ↓gl3, ↓gi4, ↓gr4, ↓gl4, ↓gi5, ↓gr5, ↓gl5, ↓gi6, ↓gr6, ↓gl6, ↓gi7, ↓gr7, ↓gl7, ↓gi8, ↓gr8, ↓gl8, ↓gi9, ↓gr9, ↓gl9, ↓qI, ↓qI2, ↓qL, ↓qL2, ↓qR, ↓qV, ↓pd0, ↓ta0, ↓ts0, ↓pd1, ↓ta1, ↓ts1, ↓pd2, ↓ta2, ↓ts2, ↓pd3, ↓ta3, ↓ts3, ↓pd4, ↓ta4, ↓ts4, ↓pd5, ↓ta5, ↓ts5, ↓pd6, ↓ta6, ↓ts6, lGet, lSet, okS, isLg, Bool.not_false, Bool.not_true, Bool.false_eq_true, not_false_eq_true, not_true_eq_false, catS, okR1, okR20, okR21, okR2b, List.length_cons, List.length_nil, List.drop_succ_cons, List.drop_zero, List.drop_nil, and_self, true_and, and_true, false_and, and_false, Nat.reduceAdd, Nat.reduceLeDiff, Nat.zero_add, Nat.le_refl, Nat.zero_le, pushR, reduceCtorEq, or_self, or_false, false_or, true_or, or_true, T174_3, K614, ↓G614_0, ↓G614_1, ↓G614_2, ↓U614_2, ↓G614_3, ↓G614_4, ↓U614_4, ↓G614_5, ↓U614_5, ↓G614_6, ↓U614_6, ↓G614_7, ↓G614_8, ↓G614_9, ↓G614_10, ↓G614_11, ↓U614_11, ↓G614_12, ↓U614_12, ↓G614_13, ↓U614_13, ↓G614_14, ↓U614_14, ↓G614_15, ↓G614_16, ↓U614_16, ↓G614_18, ↓U614_18, ↓G614_19, ↓I615, ↓S615, ↓bnd w1, bI_t, one_ne, ↓bnd hat, nI_add, sub1, show 23 + 16 * j + 3 - 1 = 23 + 16 * j + 2 from rfl, p2_, Nat.reduceEqDiff, if_true, if_false]
  · rw [show inR (nI 4) 0 3 = false from by decide]
    simp (disch := omega) only [e174_0, e174_1, e174_2, e174_5, e174_8, e174_10, e174_11, e174_56, e174_57, e174_58, e174_59, e174_62, e174_63, e174_64, e174_67, e174_68, e174_69, e174_72, e174_73, e174_74, e174_75, e174_76, e174_77, e174_78, e174_79, e174_82, e174_83, e174_84, e174_85, e174_86, e174_87, e174_88, e174_89, e174_90, e174_91, e174_92, e174_93, e174_94, e174_97, e174_98, e174_99, e174_102, e174_103, e174_104, e174_105, e174_106, e174_108, ↓reduceIte, ↓gi0, ↓gr0, ↓gl0, ↓gi1, ↓gr1, ↓gl1, ↓gi2, ↓gr2, ↓gl2, ↓gi3, ↓gr3, ↓gl3, ↓gi4, ↓gr4, ↓gl4, ↓gi5, ↓gr5, ↓gl5, ↓gi6, ↓gr6, ↓gl6, ↓gi7, ↓gr7, ↓gl7, ↓gi8, ↓gr8, ↓gl8, ↓gi9, ↓gr9, ↓gl9, ↓qI, ↓qI2, ↓qL, ↓qL2, ↓qR, ↓qV, ↓pd0, ↓ta0, ↓ts0, ↓pd1, ↓ta1, ↓ts1, ↓pd2, ↓ta2, ↓ts2, ↓pd3, ↓ta3, ↓ts3, ↓pd4, ↓ta4, ↓ts4, ↓pd5, ↓ta5, ↓ts5, ↓pd6, ↓ta6, ↓ts6, lGet, lSet, okS, isLg, Bool.not_false, Bool.not_true, Bool.false_eq_true, not_false_eq_true, not_true_eq_false, catS, okR1, okR20, okR21, okR2b, List.length_cons, List.length_nil, List.drop_succ_cons, List.drop_zero, List.drop_nil, and_self, true_and, and_true, false_and, and_false, Nat.reduceAdd, Nat.reduceLeDiff, Nat.zero_add, Nat.le_refl, Nat.zero_le, pushR, reduceCtorEq, or_self, or_false, false_or, true_or, or_true, T174_4, K614, ↓G614_0, ↓G614_1, ↓G614_2, ↓U614_2, ↓G614_3, ↓G614_4, ↓U614_4, ↓G614_5, ↓U614_5, ↓G614_6, ↓U614_6, ↓G614_7, ↓G614_8, ↓G614_9, ↓G614_10, ↓G614_11, ↓U614_11, ↓G614_12, ↓U614_12, ↓G614_13, ↓U614_13, ↓G614_14, ↓U614_14, ↓G614_15, ↓G614_16, ↓U614_16, ↓G614_18, ↓U614_18, ↓G614_19, ↓I615, ↓S615, ↓bnd w1, bI_t, one_ne, nI_add, pk_mul, subT, n3, n4, show 4 + 3 * j + 4 - 3 = 4 + 3 * j + 1 from rfl, k2_, Bool.false_eq_true, if_true, if_false]
  · rw [show inR (nI 5) 0 3 = false from by decide]
    simp (disch := omega) only [e174_0, e174_1, e174_2, e174_5, e174_8, e174_10, e174_11, e174_56, e174_57, e174_58, e174_59, e174_62, e174_63, e174_64, e174_67, e174_68, e174_69, e174_72, e174_73, e174_74, e174_75, e174_76, e174_77, e174_78, e174_79, e174_82, e174_83, e174_84, e174_85, e174_86, e174_87, e174_88, e174_89, e174_90, e174_91, e174_92, e174_93, e174_94, e174_97, e174_98, e174_99, e174_102, e174_103, e174_104, e174_105, e174_106, e174_108, ↓reduceIte, ↓gi0, ↓gr0, ↓gl0, ↓gi1, ↓gr1, ↓gl1, ↓gi2, ↓gr2, ↓gl2, ↓gi3, ↓gr3, ↓gl3, ↓gi4, ↓gr4, ↓gl4, ↓gi5, ↓gr5, ↓gl5, ↓gi6, ↓gr6, ↓gl6, ↓gi7, ↓gr7, ↓gl7, ↓gi8, ↓gr8, ↓gl8, ↓gi9, ↓gr9, ↓gl9, ↓qI, ↓qI2, ↓qL, ↓qL2, ↓qR, ↓qV, ↓pd0, ↓ta0, ↓ts0, ↓pd1, ↓ta1, ↓ts1, ↓pd2, ↓ta2, ↓ts2, ↓pd3, ↓ta3, ↓ts3, ↓pd4, ↓ta4, ↓ts4, ↓pd5, ↓ta5, ↓ts5, ↓pd6, ↓ta6, ↓ts6, lGet, lSet, okS, isLg, Bool.not_false, Bool.not_true, Bool.false_eq_true, not_false_eq_true, not_true_eq_false, catS, okR1, okR20, okR21, okR2b, List.length_cons, List.length_nil, List.drop_succ_cons, List.drop_zero, List.drop_nil, and_self, true_and, and_true, false_and, and_false, Nat.reduceAdd, Nat.reduceLeDiff, Nat.zero_add, Nat.le_refl, Nat.zero_le, pushR, reduceCtorEq, or_self, or_false, false_or, true_or, or_true, T174_5, K614, ↓G614_0, ↓G614_1, ↓G614_2, ↓U614_2, ↓G614_3, ↓G614_4, ↓U614_4, ↓G614_5, ↓U614_5, ↓G614_6, ↓U614_6, ↓G614_7, ↓G614_8, ↓G614_9, ↓G614_10, ↓G614_11, ↓U614_11, ↓G614_12, ↓U614_12, ↓G614_13, ↓U614_13, ↓G614_14, ↓U614_14, ↓G614_15, ↓G614_16, ↓U614_16, ↓G614_18, ↓U614_18, ↓G614_19, ↓I615, ↓S615, ↓bnd w1, bI_t, one_ne, nI_add, pk_mul, subT, n3, n4, n5, show 4 + 3 * j + 5 - 3 = 4 + 3 * j + 2 from rfl, k3_, show (nI 5 = nI 4) = False from by decide, Bool.false_eq_true, if_true, if_false]
  · rw [show inR (nI 6) 0 3 = false from by decide]
    simp (disch := omega) only [e174_0, e174_1, e174_2, e174_5, e174_8, e174_10, e174_11, e174_56, e174_57, e174_58, e174_59, e174_62, e174_63, e174_64, e174_67, e174_68, e174_69, e174_72, e174_73, e174_74, e174_75, e174_76, e174_77, e174_78, e174_79, e174_82, e174_83, e174_84, e174_85, e174_86, e174_87, e174_88, e174_89, e174_90, e174_91, e174_92, e174_93, e174_94, e174_97, e174_98, e174_99, e174_102, e174_103, e174_104, e174_105, e174_106, e174_108, ↓reduceIte, ↓gi0, ↓gr0, ↓gl0, ↓gi1, ↓gr1, ↓gl1, ↓gi2, ↓gr2, ↓gl2, ↓gi3, ↓gr3, ↓gl3, ↓gi4, ↓gr4, ↓gl4, ↓gi5, ↓gr5, ↓gl5, ↓gi6, ↓gr6, ↓gl6, ↓gi7, ↓gr7, ↓gl7, ↓gi8, ↓gr8, ↓gl8, ↓gi9, ↓gr9, ↓gl9, ↓qI, ↓qI2, ↓qL, ↓qL2, ↓qR, ↓qV, ↓pd0, ↓ta0, ↓ts0, ↓pd1, ↓ta1, ↓ts1, ↓pd2, ↓ta2, ↓ts2, ↓pd3, ↓ta3, ↓ts3, ↓pd4, ↓ta4, ↓ts4, ↓pd5, ↓ta5, ↓ts5, ↓pd6, ↓ta6, ↓ts6, lGet, lSet, okS, isLg, Bool.not_false, Bool.not_true, Bool.false_eq_true, not_false_eq_true, not_true_eq_false, catS, okR1, okR20, okR21, okR2b, List.length_cons, List.length_nil, List.drop_succ_cons, List.drop_zero, List.drop_nil, and_self, true_and, and_true, false_and, and_false, Nat.reduceAdd, Nat.reduceLeDiff, Nat.zero_add, Nat.le_refl, Nat.zero_le, pushR, reduceCtorEq, or_self, or_false, false_or, true_or, or_true, T174_6, K614, ↓G614_0, ↓G614_1, ↓G614_2, ↓U614_2, ↓G614_3, ↓G614_4, ↓U614_4, ↓G614_5, ↓U614_5, ↓G614_6, ↓U614_6, ↓G614_7, ↓G614_8, ↓G614_9, ↓G614_10, ↓G614_11, ↓U614_11, ↓G614_12, ↓U614_12, ↓G614_13, ↓U614_13, ↓G614_14, ↓U614_14, ↓G614_15, ↓G614_16, ↓U614_16, ↓G614_18, ↓U614_18, ↓G614_19, ↓I615, ↓S615, ↓bnd w1, bI_t, one_ne, ↓bnd hat, nI_add, n3, p3_, show (nI 6 = 4) = False from by decide, show (nI 6 = 5) = False from by decide, show (nI 6 = 6) = True from by decide, Bool.false_eq_true, if_true, if_false]
  · obtain ⟨o1, o2, o3, o4, -⟩ := w_out hv
    rw [o1]
    simp (disch := omega) only [e174_0, e174_1, e174_2, e174_5, e174_8, e174_10, e174_11, e174_56, e174_57, e174_58, e174_59, e174_62, e174_63, e174_64, e174_67, e174_68, e174_69, e174_72, e174_73, e174_74, e174_75, e174_76, e174_77, e174_78, e174_79, e174_82, e174_83, e174_84, e174_85, e174_86, e174_87, e174_88, e174_89, e174_90, e174_91, e174_92, e174_93, e174_94, e174_97, e174_98, e174_99, e174_102, e174_103, e174_104, e174_105, e174_106, e174_108, ↓reduceIte, ↓gi0, ↓gr0, ↓gl0, ↓gi1, ↓gr1, ↓gl1, ↓gi2, ↓gr2, ↓gl2, ↓gi3, ↓gr3, ↓gl3, ↓gi4, ↓gr4, ↓gl4, ↓gi5, ↓gr5, ↓gl5, ↓gi6, ↓gr6, ↓gl6, ↓gi7, ↓gr7, ↓gl7, ↓gi8, ↓gr8, ↓gl8, ↓gi9, ↓gr9, ↓gl9, ↓qI, ↓qI2, ↓qL, ↓qL2, ↓qR, ↓qV, ↓pd0, ↓ta0, ↓ts0, ↓pd1, ↓ta1, ↓ts1, ↓pd2, ↓ta2, ↓ts2, ↓pd3, ↓ta3, ↓ts3, ↓pd4, ↓ta4, ↓ts4, ↓pd5, ↓ta5, ↓ts5, ↓pd6, ↓ta6, ↓ts6, lGet, lSet, okS, isLg, Bool.not_false, Bool.not_true, Bool.false_eq_true, not_false_eq_true, not_true_eq_false, catS, okR1, okR20, okR21, okR2b, List.length_cons, List.length_nil, List.drop_succ_cons, List.drop_zero, List.drop_nil, and_self, true_and, and_true, false_and, and_false, Nat.reduceAdd, Nat.reduceLeDiff, Nat.zero_add, Nat.le_refl, Nat.zero_le, pushR, reduceCtorEq, or_self, or_false, false_or, true_or, or_true, T174_d hv, K614, ↓G614_0, ↓G614_1, ↓G614_2, ↓U614_2, ↓G614_3, ↓G614_4, ↓U614_4, ↓G614_5, ↓U614_5, ↓G614_6, ↓U614_6, ↓G614_7, ↓G614_8, ↓G614_9, ↓G614_10, ↓G614_11, ↓U614_11, ↓G614_12, ↓U614_12, ↓G614_13, ↓U614_13, ↓G614_14, ↓U614_14, ↓G614_15, ↓G614_16, ↓U614_16, ↓G614_18, ↓U614_18, ↓G614_19, ↓I615, ↓S615, ↓bnd w1, bI_t, one_ne, o2, o3, o4, Bool.false_eq_true, if_false]
theorem ms_lot (d : Nat) {A : AS} (hI : InvM s A) (hG : Gd A) (p l v : Int32) : ∃ s', EvM (d + 4) 175 [.ref 614, .int p, .int l, .int v] (mkH scr s) = some ((oLot p l v A).1, mkH scr s') ∧ InvM s' (oLot p l v A).2 ∧ FrLo s s' := by
  obtain ⟨rw_, tp, fl, st, hs, ⟨t, w, m, N, f⟩, im, pa, tr⟩ := A
  obtain ⟨q0, q3, h6, qS, hVV⟩ : CTm s hs (t, w, m, N, f) := hI.2.2.2.2.1
  have q3 : s.1 615 3 = nI N := q3
  have h6 : N ≤ 6 := h6
  have q0 : s.1 615 0 = bI hs := q0
  have q22 : s.1 615 22 = nI m := hVV.1
  have hcg : cyGd 9999 (t, w, m, N, f) := hG.2.1.1
  have hm : m ≤ 999 := hG.2.1.2.2
  have hok : cyOk (t, w, m, N, f) := hcg.ok (by decide) (by show m < 2 ^ 20; omega)
  have w1 := m_isOne (d + 1) (scr := scr) p q3 h6
  have w2 : EvM (d + 3) 131 [.long v.toInt64, .long (Int32.toInt64 0), .long (Int32.toInt64 1)] (mkH scr s) = some (bI (inR v 0 1), mkH scr s) := m_inN (d + 2) v 0 1
  rw [ev175, e175_0]
  cases g1 : inB p N
  · rw [g1] at w1
    refine ⟨s, ?_, ?_, FrLo.rf s⟩ <;> simp only [oLot, nPe, hasC, g1, Bool.false_eq_true, false_and, and_false, if_false, if_true, bad]
    · simp (disch := omega) only [e175_0, e175_1, e175_2, e175_5, e175_8, e175_9, e175_10, e175_11, e175_12, e175_15, e175_16, e175_17, e175_20, e175_21, e175_22, e175_23, e175_24, e175_25, e175_26, e175_29, e175_32, e175_33, e175_34, e175_35, e175_36, e175_39, e175_42, e175_43, e175_46, e175_47, e175_48, e175_51, e175_52, e175_53, e175_54, e175_55, e175_56, e175_57, e175_58, e175_59, e175_60, e175_63, e175_65, ↓reduceIte, ↓gi0, ↓gr0, ↓gl0, ↓gi1, ↓gr1, ↓gl1, ↓gi2, ↓gr2, ↓gl2, ↓gi3, ↓gr3, ↓gl3, ↓gi4, ↓gr4, ↓gl4, ↓gi5, ↓gr5, ↓gl5, ↓gi6, ↓gr6, ↓gl6, ↓gi7, ↓gr7, ↓gl7, ↓gi8, ↓gr8, ↓gl8, ↓gi9, ↓gr9, ↓gl9, ↓qI, ↓qI2, ↓qL, ↓qL2, ↓qR, ↓qV, ↓pd0, ↓ta0, ↓ts0, ↓pd1, ↓ta1, ↓ts1, ↓pd2, ↓ta2, ↓ts2, ↓pd3, ↓ta3, ↓ts3, ↓pd4, ↓ta4, ↓ts4, ↓pd5, ↓ta5, ↓ts5, ↓pd6, ↓ta6, ↓ts6, lGet, lSet, okS, isLg, Bool.not_false, Bool.not_true, Bool.false_eq_true, not_false_eq_true, not_true_eq_false, catS, okR1, okR20, okR21, okR2b, List.length_cons, List.length_nil, List.drop_succ_cons, List.drop_zero, List.drop_nil, and_self, true_and, and_true, false_and, and_false, Nat.reduceAdd, Nat.reduceLeDiff, Nat.zero_add, Nat.le_refl, Nat.zero_le, pushR, reduceCtorEq, or_self, or_false, false_or, true_or, or_true, ltT, ltF, leT, leF, eqF, eqT, lt0F, ge0T, le0T, le0F, eq0T, eq0F, gt0T, gt0F, nI_add, nI_1, pk_mul, subT, sub1, divT, remN, natRem, n2, n3, n4, n5, n6, n7, n8, n9, n10, n12, n16, n22, n23, n24, n40, n48, n57, n60, n97, n99, n100, n119, n120, n238, n357, n999, n9999, n2231, Int32.add_zero, bI_t, bI_f, one_ne, K614, ↓G614_0, ↓G614_1, ↓G614_2, ↓U614_2, ↓G614_3, ↓G614_4, ↓U614_4, ↓G614_5, ↓U614_5, ↓G614_6, ↓U614_6, ↓G614_7, ↓G614_8, ↓G614_9, ↓G614_10, ↓G614_11, ↓U614_11, ↓G614_12, ↓U614_12, ↓G614_13, ↓U614_13, ↓G614_14, ↓U614_14, ↓G614_15, ↓G614_16, ↓U614_16, ↓G614_18, ↓U614_18, ↓G614_19, ↓I615, ↓S615, ↓bnd w1]
    · exact hI
  rw [g1] at w1
  obtain ⟨j, hj, rfl⟩ := inB_of (by omega) g1
  have ej : (nI j).toNatClampNeg = j := nI_clamp (by omega)
  have hj6 : j < 6 := by omega
  have hst : hs = true := hs_of hG (j := j) hj
  have hMS := qS hst
  have hkd : s.1 615 (4 + 3 * j) = nI (f j).1 := (hMS.2.2.2.2 j hj).1
  have hp : MP s 615 (23 + 16 * j) (f j) := hVV.2 j hj
  have hpo : pOk (f j) := hok.2.2.2 j hj
  have hat : EvM (d + 3) 153 [.int 0, .int (nI j)] (mkH scr s) = some (nI (23 + 16 * j), mkH scr s) := m_at (d + 2) 0 j
  have hn := hp.2.2.2.1
  have hl6 := hp.2.2.2.2.1
  have w3 := m_in (d + 2) (h := mkH scr s) l 0 (nI (f j).2.2.2.2.2.2.length - 1)
  rw [← inB_R (by omega)] at w3
  cases g3 : inB l (f j).2.2.2.2.2.2.length
  · rw [g3] at w3
    refine ⟨s, ?_, ?_, FrLo.rf s⟩ <;> simp only [oLot, nPe, pOf, lotsP, ej, cl, g1, g3, Bool.false_eq_true, and_false, if_false, bad]
    · simp (disch := omega) only [e175_0, e175_1, e175_2, e175_5, e175_8, e175_9, e175_10, e175_11, e175_12, e175_15, e175_16, e175_17, e175_20, e175_21, e175_22, e175_23, e175_24, e175_25, e175_26, e175_29, e175_32, e175_33, e175_34, e175_35, e175_36, e175_39, e175_42, e175_43, e175_46, e175_47, e175_48, e175_51, e175_52, e175_53, e175_54, e175_55, e175_56, e175_57, e175_58, e175_59, e175_60, e175_63, e175_65, ↓reduceIte, ↓gi0, ↓gr0, ↓gl0, ↓gi1, ↓gr1, ↓gl1, ↓gi2, ↓gr2, ↓gl2, ↓gi3, ↓gr3, ↓gl3, ↓gi4, ↓gr4, ↓gl4, ↓gi5, ↓gr5, ↓gl5, ↓gi6, ↓gr6, ↓gl6, ↓gi7, ↓gr7, ↓gl7, ↓gi8, ↓gr8, ↓gl8, ↓gi9, ↓gr9, ↓gl9, ↓qI, ↓qI2, ↓qL, ↓qL2, ↓qR, ↓qV, ↓pd0, ↓ta0, ↓ts0, ↓pd1, ↓ta1, ↓ts1, ↓pd2, ↓ta2, ↓ts2, ↓pd3, ↓ta3, ↓ts3, ↓pd4, ↓ta4, ↓ts4, ↓pd5, ↓ta5, ↓ts5, ↓pd6, ↓ta6, ↓ts6, lGet, lSet, okS, isLg, Bool.not_false, Bool.not_true, Bool.false_eq_true, not_false_eq_true, not_true_eq_false, catS, okR1, okR20, okR21, okR2b, List.length_cons, List.length_nil, List.drop_succ_cons, List.drop_zero, List.drop_nil, and_self, true_and, and_true, false_and, and_false, Nat.reduceAdd, Nat.reduceLeDiff, Nat.zero_add, Nat.le_refl, Nat.zero_le, pushR, reduceCtorEq, or_self, or_false, false_or, true_or, or_true, K614, ↓G614_0, ↓G614_1, ↓G614_2, ↓U614_2, ↓G614_3, ↓G614_4, ↓U614_4, ↓G614_5, ↓U614_5, ↓G614_6, ↓U614_6, ↓G614_7, ↓G614_8, ↓G614_9, ↓G614_10, ↓G614_11, ↓U614_11, ↓G614_12, ↓U614_12, ↓G614_13, ↓U614_13, ↓G614_14, ↓U614_14, ↓G614_15, ↓G614_16, ↓U614_16, ↓G614_18, ↓U614_18, ↓G614_19, ↓I615, ↓S615, nI_add, n3, ↓bnd w1, bI_t, bI_f, one_ne, ↓bnd hat, hn, ↓bnd w3]
    · exact hI
  rw [g3] at w3
  cases g2 : inR v 0 1
  · rw [g2] at w2
    refine ⟨s, ?_, ?_, FrLo.rf s⟩ <;> simp only [oLot, nPe, pOf, lotsP, ej, cl, g1, g2, g3, Bool.false_eq_true, and_false, false_and, if_false, bad]
    · simp (disch := omega) only [e175_0, e175_1, e175_2, e175_5, e175_8, e175_9, e175_10, e175_11, e175_12, e175_15, e175_16, e175_17, e175_20, e175_21, e175_22, e175_23, e175_24, e175_25, e175_26, e175_29, e175_32, e175_33, e175_34, e175_35, e175_36, e175_39, e175_42, e175_43, e175_46, e175_47, e175_48, e175_51, e175_52, e175_53, e175_54, e175_55, e175_56, e175_57, e175_58, e175_59, e175_60, e175_63, e175_65, ↓reduceIte, ↓gi0, ↓gr0, ↓gl0, ↓gi1, ↓gr1, ↓gl1, ↓gi2, ↓gr2, ↓gl2, ↓gi3, ↓gr3, ↓gl3, ↓gi4, ↓gr4, ↓gl4, ↓gi5, ↓gr5, ↓gl5, ↓gi6, ↓gr6, ↓gl6, ↓gi7, ↓gr7, ↓gl7, ↓gi8, ↓gr8, ↓gl8, ↓gi9, ↓gr9, ↓gl9, ↓qI, ↓qI2, ↓qL, ↓qL2, ↓qR, ↓qV, ↓pd0, ↓ta0, ↓ts0, ↓pd1, ↓ta1, ↓ts1, ↓pd2, ↓ta2, ↓ts2, ↓pd3, ↓ta3, ↓ts3, ↓pd4, ↓ta4, ↓ts4, ↓pd5, ↓ta5, ↓ts5, ↓pd6, ↓ta6, ↓ts6, lGet, lSet, okS, isLg, Bool.not_false, Bool.not_true, Bool.false_eq_true, not_false_eq_true, not_true_eq_false, catS, okR1, okR20, okR21, okR2b, List.length_cons, List.length_nil, List.drop_succ_cons, List.drop_zero, List.drop_nil, and_self, true_and, and_true, false_and, and_false, Nat.reduceAdd, Nat.reduceLeDiff, Nat.zero_add, Nat.le_refl, Nat.zero_le, pushR, reduceCtorEq, or_self, or_false, false_or, true_or, or_true, K614, ↓G614_0, ↓G614_1, ↓G614_2, ↓U614_2, ↓G614_3, ↓G614_4, ↓U614_4, ↓G614_5, ↓U614_5, ↓G614_6, ↓U614_6, ↓G614_7, ↓G614_8, ↓G614_9, ↓G614_10, ↓G614_11, ↓U614_11, ↓G614_12, ↓U614_12, ↓G614_13, ↓U614_13, ↓G614_14, ↓U614_14, ↓G614_15, ↓G614_16, ↓U614_16, ↓G614_18, ↓U614_18, ↓G614_19, ↓I615, ↓S615, nI_add, n3, ↓bnd w1, bI_t, bI_f, one_ne, ↓bnd hat, hn, ↓bnd w3, ↓bnd w2]
    · exact hI
  rw [g2] at w2
  obtain ⟨i, hi, rfl⟩ := inB_of (by omega) g3
  have ei : (nI i).toNatClampNeg = i := nI_clamp (by omega)
  obtain ⟨b, hb1, hb2, rfl⟩ := inR_of (by decide) (by decide) g2
  obtain ⟨d1, d2⟩ := hp.2.2.2.2.2 i hi
  refine ⟨s, ?_, ?_, FrLo.rf s⟩ <;> simp only [oLot, nPe, pOf, lotsP, ej, ei, cl, g1, g2, g3, and_self, if_true]
  · have : b = 0 ∨ b = 1 := by omega
    rcases this with rfl | rfl
    · simp (disch := omega) only [e175_0, e175_1, e175_2, e175_5, e175_8, e175_9, e175_10, e175_11, e175_12, e175_15, e175_16, e175_17, e175_20, e175_21, e175_22, e175_23, e175_24, e175_25, e175_26, e175_29, e175_32, e175_33, e175_34, e175_35, e175_36, e175_39, e175_42, e175_43, e175_46, e175_47, e175_48, e175_51, e175_52, e175_53, e175_54, e175_55, e175_56, e175_57, e175_58, e175_59, e175_60, e175_63, e175_65, ↓reduceIte, ↓gi0, ↓gr0, ↓gl0, ↓gi1, ↓gr1, ↓gl1, ↓gi2, ↓gr2, ↓gl2, ↓gi3, ↓gr3, ↓gl3, ↓gi4, ↓gr4, ↓gl4, ↓gi5, ↓gr5, ↓gl5, ↓gi6, ↓gr6, ↓gl6, ↓gi7, ↓gr7, ↓gl7, ↓gi8, ↓gr8, ↓gl8, ↓gi9, ↓gr9, ↓gl9, ↓qI, ↓qI2, ↓qL, ↓qL2, ↓qR, ↓qV, ↓pd0, ↓ta0, ↓ts0, ↓pd1, ↓ta1, ↓ts1, ↓pd2, ↓ta2, ↓ts2, ↓pd3, ↓ta3, ↓ts3, ↓pd4, ↓ta4, ↓ts4, ↓pd5, ↓ta5, ↓ts5, ↓pd6, ↓ta6, ↓ts6, lGet, lSet, okS, isLg, Bool.not_false, Bool.not_true, Bool.false_eq_true, not_false_eq_true, not_true_eq_false, catS, okR1, okR20, okR21, okR2b, List.length_cons, List.length_nil, List.drop_succ_cons, List.drop_zero, List.drop_nil, and_self, true_and, and_true, false_and, and_false, Nat.reduceAdd, Nat.reduceLeDiff, Nat.zero_add, Nat.le_refl, Nat.zero_le, pushR, reduceCtorEq, or_self, or_false, false_or, true_or, or_true, K614, ↓G614_0, ↓G614_1, ↓G614_2, ↓U614_2, ↓G614_3, ↓G614_4, ↓U614_4, ↓G614_5, ↓U614_5, ↓G614_6, ↓U614_6, ↓G614_7, ↓G614_8, ↓G614_9, ↓G614_10, ↓G614_11, ↓U614_11, ↓G614_12, ↓U614_12, ↓G614_13, ↓U614_13, ↓G614_14, ↓U614_14, ↓G614_15, ↓G614_16, ↓U614_16, ↓G614_18, ↓U614_18, ↓G614_19, ↓I615, ↓S615, nI_add, pk_mul, n2, n3, n4, ↓bnd w1, ↓bnd w2, bI_t, bI_f, one_ne, ↓bnd hat, hn, ↓bnd w3, Nat.add_zero, d1, show (nI 0 = 0) = True from by decide, if_true]
    · simp (disch := omega) only [e175_0, e175_1, e175_2, e175_5, e175_8, e175_9, e175_10, e175_11, e175_12, e175_15, e175_16, e175_17, e175_20, e175_21, e175_22, e175_23, e175_24, e175_25, e175_26, e175_29, e175_32, e175_33, e175_34, e175_35, e175_36, e175_39, e175_42, e175_43, e175_46, e175_47, e175_48, e175_51, e175_52, e175_53, e175_54, e175_55, e175_56, e175_57, e175_58, e175_59, e175_60, e175_63, e175_65, ↓reduceIte, ↓gi0, ↓gr0, ↓gl0, ↓gi1, ↓gr1, ↓gl1, ↓gi2, ↓gr2, ↓gl2, ↓gi3, ↓gr3, ↓gl3, ↓gi4, ↓gr4, ↓gl4, ↓gi5, ↓gr5, ↓gl5, ↓gi6, ↓gr6, ↓gl6, ↓gi7, ↓gr7, ↓gl7, ↓gi8, ↓gr8, ↓gl8, ↓gi9, ↓gr9, ↓gl9, ↓qI, ↓qI2, ↓qL, ↓qL2, ↓qR, ↓qV, ↓pd0, ↓ta0, ↓ts0, ↓pd1, ↓ta1, ↓ts1, ↓pd2, ↓ta2, ↓ts2, ↓pd3, ↓ta3, ↓ts3, ↓pd4, ↓ta4, ↓ts4, ↓pd5, ↓ta5, ↓ts5, ↓pd6, ↓ta6, ↓ts6, lGet, lSet, okS, isLg, Bool.not_false, Bool.not_true, Bool.false_eq_true, not_false_eq_true, not_true_eq_false, catS, okR1, okR20, okR21, okR2b, List.length_cons, List.length_nil, List.drop_succ_cons, List.drop_zero, List.drop_nil, and_self, true_and, and_true, false_and, and_false, Nat.reduceAdd, Nat.reduceLeDiff, Nat.zero_add, Nat.le_refl, Nat.zero_le, pushR, reduceCtorEq, or_self, or_false, false_or, true_or, or_true, K614, ↓G614_0, ↓G614_1, ↓G614_2, ↓U614_2, ↓G614_3, ↓G614_4, ↓U614_4, ↓G614_5, ↓U614_5, ↓G614_6, ↓U614_6, ↓G614_7, ↓G614_8, ↓G614_9, ↓G614_10, ↓G614_11, ↓U614_11, ↓G614_12, ↓U614_12, ↓G614_13, ↓U614_13, ↓G614_14, ↓U614_14, ↓G614_15, ↓G614_16, ↓U614_16, ↓G614_18, ↓U614_18, ↓G614_19, ↓I615, ↓S615, nI_add, pk_mul, n2, n3, n4, ↓bnd w1, ↓bnd w2, bI_t, bI_f, one_ne, ↓bnd hat, hn, ↓bnd w3, d2, show (nI 1 = 0) = False from by decide, if_false]
  · exact hI
theorem ms_kind (d : Nat) {A : AS} (hI : InvM s A) (hG : Gd A) (p : Int32) : ∃ s', EvM (d + 3) 204 [.ref 614, .int p] (mkH scr s) = some ((oKind p A).1, mkH scr s') ∧ InvM s' (oKind p A).2 ∧ FrLo s s' := by
  obtain ⟨rw_, tp, fl, st, hs, ⟨t, w, m, N, f⟩, im, pa, tr⟩ := A
  obtain ⟨q0, q3, h6, qS, hVV⟩ : CTm s hs (t, w, m, N, f) := hI.2.2.2.2.1
  have q3 : s.1 615 3 = nI N := q3
  have h6 : N ≤ 6 := h6
  have q0 : s.1 615 0 = bI hs := q0
  have q22 : s.1 615 22 = nI m := hVV.1
  have hcg : cyGd 9999 (t, w, m, N, f) := hG.2.1.1
  have hm : m ≤ 999 := hG.2.1.2.2
  have hok : cyOk (t, w, m, N, f) := hcg.ok (by decide) (by show m < 2 ^ 20; omega)
  have w1 := m_isOne (d) (scr := scr) p q3 h6
  rw [ev204, e204_0]
  cases g1 : inB p N
  · rw [g1] at w1
    refine ⟨s, ?_, ?_, FrLo.rf s⟩ <;> simp only [oKind, nPe, hasC, g1, Bool.false_eq_true, false_and, and_false, if_false, if_true, bad]
    · simp (disch := omega) only [e204_0, e204_1, e204_2, e204_5, e204_8, e204_9, e204_10, e204_13, e204_16, e204_18, ↓reduceIte, ↓gi0, ↓gr0, ↓gl0, ↓gi1, ↓gr1, ↓gl1, ↓gi2, ↓gr2, ↓gl2, ↓gi3, ↓gr3, ↓gl3, ↓gi4, ↓gr4, ↓gl4, ↓gi5, ↓gr5, ↓gl5, ↓gi6, ↓gr6, ↓gl6, ↓gi7, ↓gr7, ↓gl7, ↓gi8, ↓gr8, ↓gl8, ↓gi9, ↓gr9, ↓gl9, ↓qI, ↓qI2, ↓qL, ↓qL2, ↓qR, ↓qV, ↓pd0, ↓ta0, ↓ts0, ↓pd1, ↓ta1, ↓ts1, ↓pd2, ↓ta2, ↓ts2, ↓pd3, ↓ta3, ↓ts3, ↓pd4, ↓ta4, ↓ts4, ↓pd5, ↓ta5, ↓ts5, ↓pd6, ↓ta6, ↓ts6, lGet, lSet, okS, isLg, Bool.not_false, Bool.not_true, Bool.false_eq_true, not_false_eq_true, not_true_eq_false, catS, okR1, okR20, okR21, okR2b, List.length_cons, List.length_nil, List.drop_succ_cons, List.drop_zero, List.drop_nil, and_self, true_and, and_true, false_and, and_false, Nat.reduceAdd, Nat.reduceLeDiff, Nat.zero_add, Nat.le_refl, Nat.zero_le, pushR, reduceCtorEq, or_self, or_false, false_or, true_or, or_true, ltT, ltF, leT, leF, eqF, eqT, lt0F, ge0T, le0T, le0F, eq0T, eq0F, gt0T, gt0F, nI_add, nI_1, pk_mul, subT, sub1, divT, remN, natRem, n2, n3, n4, n5, n6, n7, n8, n9, n10, n12, n16, n22, n23, n24, n40, n48, n57, n60, n97, n99, n100, n119, n120, n238, n357, n999, n9999, n2231, Int32.add_zero, bI_t, bI_f, one_ne, K614, ↓G614_0, ↓G614_1, ↓G614_2, ↓U614_2, ↓G614_3, ↓G614_4, ↓U614_4, ↓G614_5, ↓U614_5, ↓G614_6, ↓U614_6, ↓G614_7, ↓G614_8, ↓G614_9, ↓G614_10, ↓G614_11, ↓U614_11, ↓G614_12, ↓U614_12, ↓G614_13, ↓U614_13, ↓G614_14, ↓U614_14, ↓G614_15, ↓G614_16, ↓U614_16, ↓G614_18, ↓U614_18, ↓G614_19, ↓I615, ↓S615, ↓bnd w1]
    · exact hI
  rw [g1] at w1
  obtain ⟨j, hj, rfl⟩ := inB_of (by omega) g1
  have ej : (nI j).toNatClampNeg = j := nI_clamp (by omega)
  have hj6 : j < 6 := by omega
  have hst : hs = true := hs_of hG (j := j) hj
  have hMS := qS hst
  have hkd : s.1 615 (4 + 3 * j) = nI (f j).1 := (hMS.2.2.2.2 j hj).1
  have hp : MP s 615 (23 + 16 * j) (f j) := hVV.2 j hj
  have hpo : pOk (f j) := hok.2.2.2 j hj
  have a1 := m_kindOf (d + 1) (scr := scr) hj6 hkd
  refine ⟨s, ?_, ?_, FrLo.rf s⟩ <;> simp only [oKind, nPe, pOf, ej, cl, g1, if_true]
  · simp (disch := omega) only [e204_0, e204_1, e204_2, e204_5, e204_8, e204_9, e204_10, e204_13, e204_16, e204_18, ↓reduceIte, ↓gi0, ↓gr0, ↓gl0, ↓gi1, ↓gr1, ↓gl1, ↓gi2, ↓gr2, ↓gl2, ↓gi3, ↓gr3, ↓gl3, ↓gi4, ↓gr4, ↓gl4, ↓gi5, ↓gr5, ↓gl5, ↓gi6, ↓gr6, ↓gl6, ↓gi7, ↓gr7, ↓gl7, ↓gi8, ↓gr8, ↓gl8, ↓gi9, ↓gr9, ↓gl9, ↓qI, ↓qI2, ↓qL, ↓qL2, ↓qR, ↓qV, ↓pd0, ↓ta0, ↓ts0, ↓pd1, ↓ta1, ↓ts1, ↓pd2, ↓ta2, ↓ts2, ↓pd3, ↓ta3, ↓ts3, ↓pd4, ↓ta4, ↓ts4, ↓pd5, ↓ta5, ↓ts5, ↓pd6, ↓ta6, ↓ts6, lGet, lSet, okS, isLg, Bool.not_false, Bool.not_true, Bool.false_eq_true, not_false_eq_true, not_true_eq_false, catS, okR1, okR20, okR21, okR2b, List.length_cons, List.length_nil, List.drop_succ_cons, List.drop_zero, List.drop_nil, and_self, true_and, and_true, false_and, and_false, Nat.reduceAdd, Nat.reduceLeDiff, Nat.zero_add, Nat.le_refl, Nat.zero_le, pushR, reduceCtorEq, or_self, or_false, false_or, true_or, or_true, ltT, ltF, leT, leF, eqF, eqT, lt0F, ge0T, le0T, le0F, eq0T, eq0F, gt0T, gt0F, nI_add, nI_1, pk_mul, subT, sub1, divT, remN, natRem, n2, n3, n4, n5, n6, n7, n8, n9, n10, n12, n16, n22, n23, n24, n40, n48, n57, n60, n97, n99, n100, n119, n120, n238, n357, n999, n9999, n2231, Int32.add_zero, bI_t, bI_f, one_ne, K614, ↓G614_0, ↓G614_1, ↓G614_2, ↓U614_2, ↓G614_3, ↓G614_4, ↓U614_4, ↓G614_5, ↓U614_5, ↓G614_6, ↓U614_6, ↓G614_7, ↓G614_8, ↓G614_9, ↓G614_10, ↓G614_11, ↓U614_11, ↓G614_12, ↓U614_12, ↓G614_13, ↓U614_13, ↓G614_14, ↓U614_14, ↓G614_15, ↓G614_16, ↓U614_16, ↓G614_18, ↓U614_18, ↓G614_19, ↓bnd w1, ↓bnd a1]
  · exact hI
theorem isK_tab : ∀ k, k < 6 → 1 ≤ k → ∀ v, v < 6 → isOfB k v = (decide (v = 0) || decide (v = k) || (decide (v = 1) && decide (k < 4)) || (decide (v = 4) && decide (k = 5))) := by decide
theorem m_isKind (d : Nat) {h : Hp} {k v : Nat} (hk : k < 6) (h1 : 1 ≤ k) (hv : v < 6) : EvM (d + 1) 205 [.int (nI k), .int (nI v)] h = some (bI (isOfB k v), h) := by
  rw [ev205, e205_0, isK_tab k hk h1 v hv]
  match v, hv with
  | 0, _ => simp (disch := omega) only [e205_0, e205_1, e205_4, e205_5, e205_6, e205_9, e205_10, e205_11, e205_14, e205_15, e205_16, e205_19, e205_20, e205_21, e205_24, e205_25, e205_26, e205_29, e205_30, e205_33, e205_34, ↓reduceIte, ↓gi0, ↓gr0, ↓gl0, ↓gi1, ↓gr1, ↓gl1, ↓gi2, ↓gr2, ↓gl2, ↓gi3, ↓gr3, ↓gl3, ↓gi4, ↓gr4, ↓gl4, ↓gi5, ↓gr5, ↓gl5, ↓gi6, ↓gr6, ↓gl6, ↓gi7, ↓gr7, ↓gl7, ↓gi8, ↓gr8, ↓gl8, ↓gi9, ↓gr9, ↓gl9, ↓qI, ↓qI2, ↓qL, ↓qL2, ↓qR, ↓qV, ↓pd0, ↓ta0, ↓ts0, ↓pd1, ↓ta1, ↓ts1, ↓pd2, ↓ta2, ↓ts2, ↓pd3, ↓ta3, ↓ts3, ↓pd4, ↓ta4, ↓ts4, ↓pd5, ↓ta5, ↓ts5, ↓pd6, ↓ta6, ↓ts6, lGet, lSet, okS, isLg, Bool.not_false, Bool.not_true, Bool.false_eq_true, not_false_eq_true, not_true_eq_false, catS, okR1, okR20, okR21, okR2b, List.length_cons, List.length_nil, List.drop_succ_cons, List.drop_zero, List.drop_nil, and_self, true_and, and_true, false_and, and_false, Nat.reduceAdd, Nat.reduceLeDiff, Nat.zero_add, Nat.le_refl, Nat.zero_le, pushR, reduceCtorEq, or_self, or_false, false_or, true_or, or_true, ltT, ltF, leT, leF, eqF, eqT, lt0F, ge0T, le0T, le0F, eq0T, eq0F, gt0T, gt0F, nI_add, nI_1, pk_mul, subT, sub1, divT, remN, natRem, n2, n3, n4, n5, n6, n7, n8, n9, n10, n12, n16, n22, n23, n24, n40, n48, n57, n60, n97, n99, n100, n119, n120, n238, n357, n999, n9999, n2231, Int32.add_zero]; rfl
  | 1, _ =>
    by_cases c : k < 4
    · rw [decide_eq_true c]
      by_cases e : k = 1
      · subst e
        simp (disch := omega) only [e205_0, e205_1, e205_4, e205_5, e205_6, e205_9, e205_10, e205_11, e205_14, e205_15, e205_16, e205_19, e205_20, e205_21, e205_24, e205_25, e205_26, e205_29, e205_30, e205_33, e205_34, ↓reduceIte, ↓gi0, ↓gr0, ↓gl0, ↓gi1, ↓gr1, ↓gl1, ↓gi2, ↓gr2, ↓gl2, ↓gi3, ↓gr3, ↓gl3, ↓gi4, ↓gr4, ↓gl4, ↓gi5, ↓gr5, ↓gl5, ↓gi6, ↓gr6, ↓gl6, ↓gi7, ↓gr7, ↓gl7, ↓gi8, ↓gr8, ↓gl8, ↓gi9, ↓gr9, ↓gl9, ↓qI, ↓qI2, ↓qL, ↓qL2, ↓qR, ↓qV, ↓pd0, ↓ta0, ↓ts0, ↓pd1, ↓ta1, ↓ts1, ↓pd2, ↓ta2, ↓ts2, ↓pd3, ↓ta3, ↓ts3, ↓pd4, ↓ta4, ↓ts4, ↓pd5, ↓ta5, ↓ts5, ↓pd6, ↓ta6, ↓ts6, lGet, lSet, okS, isLg, Bool.not_false, Bool.not_true, Bool.false_eq_true, not_false_eq_true, not_true_eq_false, catS, okR1, okR20, okR21, okR2b, List.length_cons, List.length_nil, List.drop_succ_cons, List.drop_zero, List.drop_nil, and_self, true_and, and_true, false_and, and_false, Nat.reduceAdd, Nat.reduceLeDiff, Nat.zero_add, Nat.le_refl, Nat.zero_le, pushR, reduceCtorEq, or_self, or_false, false_or, true_or, or_true, ltT, ltF, leT, leF, eqF, eqT, lt0F, ge0T, le0T, le0F, eq0T, eq0F, gt0T, gt0F, nI_add, nI_1, pk_mul, subT, sub1, divT, remN, natRem, n2, n3, n4, n5, n6, n7, n8, n9, n10, n12, n16, n22, n23, n24, n40, n48, n57, n60, n97, n99, n100, n119, n120, n238, n357, n999, n9999, n2231, Int32.add_zero]; rfl
      · simp (disch := omega) only [e205_0, e205_1, e205_4, e205_5, e205_6, e205_9, e205_10, e205_11, e205_14, e205_15, e205_16, e205_19, e205_20, e205_21, e205_24, e205_25, e205_26, e205_29, e205_30, e205_33, e205_34, ↓reduceIte, ↓gi0, ↓gr0, ↓gl0, ↓gi1, ↓gr1, ↓gl1, ↓gi2, ↓gr2, ↓gl2, ↓gi3, ↓gr3, ↓gl3, ↓gi4, ↓gr4, ↓gl4, ↓gi5, ↓gr5, ↓gl5, ↓gi6, ↓gr6, ↓gl6, ↓gi7, ↓gr7, ↓gl7, ↓gi8, ↓gr8, ↓gl8, ↓gi9, ↓gr9, ↓gl9, ↓qI, ↓qI2, ↓qL, ↓qL2, ↓qR, ↓qV, ↓pd0, ↓ta0, ↓ts0, ↓pd1, ↓ta1, ↓ts1, ↓pd2, ↓ta2, ↓ts2, ↓pd3, ↓ta3, ↓ts3, ↓pd4, ↓ta4, ↓ts4, ↓pd5, ↓ta5, ↓ts5, ↓pd6, ↓ta6, ↓ts6, lGet, lSet, okS, isLg, Bool.not_false, Bool.not_true, Bool.false_eq_true, not_false_eq_true, not_true_eq_false, catS, okR1, okR20, okR21, okR2b, List.length_cons, List.length_nil, List.drop_succ_cons, List.drop_zero, List.drop_nil, and_self, true_and, and_true, false_and, and_false, Nat.reduceAdd, Nat.reduceLeDiff, Nat.zero_add, Nat.le_refl, Nat.zero_le, pushR, reduceCtorEq, or_self, or_false, false_or, true_or, or_true, ltT, ltF, leT, leF, eqF, eqT, lt0F, ge0T, le0T, le0F, eq0T, eq0F, gt0T, gt0F, nI_add, nI_1, pk_mul, subT, sub1, divT, remN, natRem, n2, n3, n4, n5, n6, n7, n8, n9, n10, n12, n16, n22, n23, n24, n40, n48, n57, n60, n97, n99, n100, n119, n120, n238, n357, n999, n9999, n2231, Int32.add_zero, show (nI 1 = (1 : Int32)) = True from by decide, Bool.or_true, Bool.true_and, Bool.and_true, decide_true, Bool.true_or]; rfl
    · have e : ¬ 1 = k := by omega
      rw [decide_eq_false c, decide_eq_false e]
      simp (disch := omega) only [e205_0, e205_1, e205_4, e205_5, e205_6, e205_9, e205_10, e205_11, e205_14, e205_15, e205_16, e205_19, e205_20, e205_21, e205_24, e205_25, e205_26, e205_29, e205_30, e205_33, e205_34, ↓reduceIte, ↓gi0, ↓gr0, ↓gl0, ↓gi1, ↓gr1, ↓gl1, ↓gi2, ↓gr2, ↓gl2, ↓gi3, ↓gr3, ↓gl3, ↓gi4, ↓gr4, ↓gl4, ↓gi5, ↓gr5, ↓gl5, ↓gi6, ↓gr6, ↓gl6, ↓gi7, ↓gr7, ↓gl7, ↓gi8, ↓gr8, ↓gl8, ↓gi9, ↓gr9, ↓gl9, ↓qI, ↓qI2, ↓qL, ↓qL2, ↓qR, ↓qV, ↓pd0, ↓ta0, ↓ts0, ↓pd1, ↓ta1, ↓ts1, ↓pd2, ↓ta2, ↓ts2, ↓pd3, ↓ta3, ↓ts3, ↓pd4, ↓ta4, ↓ts4, ↓pd5, ↓ta5, ↓ts5, ↓pd6, ↓ta6, ↓ts6, lGet, lSet, okS, isLg, Bool.not_false, Bool.not_true, Bool.false_eq_true, not_false_eq_true, not_true_eq_false, catS, okR1, okR20, okR21, okR2b, List.length_cons, List.length_nil, List.drop_succ_cons, List.drop_zero, List.drop_nil, and_self, true_and, and_true, false_and, and_false, Nat.reduceAdd, Nat.reduceLeDiff, Nat.zero_add, Nat.le_refl, Nat.zero_le, pushR, reduceCtorEq, or_self, or_false, false_or, true_or, or_true, ltT, ltF, leT, leF, eqF, eqT, lt0F, ge0T, le0T, le0F, eq0T, eq0F, gt0T, gt0F, nI_add, nI_1, pk_mul, subT, sub1, divT, remN, natRem, n2, n3, n4, n5, n6, n7, n8, n9, n10, n12, n16, n22, n23, n24, n40, n48, n57, n60, n97, n99, n100, n119, n120, n238, n357, n999, n9999, n2231, Int32.add_zero, show (nI 1 = (1 : Int32)) = True from by decide]; rfl
  | 2, _ =>
    by_cases e : 2 = k
    · subst e
      simp (disch := omega) only [e205_0, e205_1, e205_4, e205_5, e205_6, e205_9, e205_10, e205_11, e205_14, e205_15, e205_16, e205_19, e205_20, e205_21, e205_24, e205_25, e205_26, e205_29, e205_30, e205_33, e205_34, ↓reduceIte, ↓gi0, ↓gr0, ↓gl0, ↓gi1, ↓gr1, ↓gl1, ↓gi2, ↓gr2, ↓gl2, ↓gi3, ↓gr3, ↓gl3, ↓gi4, ↓gr4, ↓gl4, ↓gi5, ↓gr5, ↓gl5, ↓gi6, ↓gr6, ↓gl6, ↓gi7, ↓gr7, ↓gl7, ↓gi8, ↓gr8, ↓gl8, ↓gi9, ↓gr9, ↓gl9, ↓qI, ↓qI2, ↓qL, ↓qL2, ↓qR, ↓qV, ↓pd0, ↓ta0, ↓ts0, ↓pd1, ↓ta1, ↓ts1, ↓pd2, ↓ta2, ↓ts2, ↓pd3, ↓ta3, ↓ts3, ↓pd4, ↓ta4, ↓ts4, ↓pd5, ↓ta5, ↓ts5, ↓pd6, ↓ta6, ↓ts6, lGet, lSet, okS, isLg, Bool.not_false, Bool.not_true, Bool.false_eq_true, not_false_eq_true, not_true_eq_false, catS, okR1, okR20, okR21, okR2b, List.length_cons, List.length_nil, List.drop_succ_cons, List.drop_zero, List.drop_nil, and_self, true_and, and_true, false_and, and_false, Nat.reduceAdd, Nat.reduceLeDiff, Nat.zero_add, Nat.le_refl, Nat.zero_le, pushR, reduceCtorEq, or_self, or_false, false_or, true_or, or_true, ltT, ltF, leT, leF, eqF, eqT, lt0F, ge0T, le0T, le0F, eq0T, eq0F, gt0T, gt0F, nI_add, nI_1, pk_mul, subT, sub1, divT, remN, natRem, n2, n3, n4, n5, n6, n7, n8, n9, n10, n12, n16, n22, n23, n24, n40, n48, n57, n60, n97, n99, n100, n119, n120, n238, n357, n999, n9999, n2231, Int32.add_zero]; rfl
    · rw [decide_eq_false e]
      simp (disch := omega) only [e205_0, e205_1, e205_4, e205_5, e205_6, e205_9, e205_10, e205_11, e205_14, e205_15, e205_16, e205_19, e205_20, e205_21, e205_24, e205_25, e205_26, e205_29, e205_30, e205_33, e205_34, ↓reduceIte, ↓gi0, ↓gr0, ↓gl0, ↓gi1, ↓gr1, ↓gl1, ↓gi2, ↓gr2, ↓gl2, ↓gi3, ↓gr3, ↓gl3, ↓gi4, ↓gr4, ↓gl4, ↓gi5, ↓gr5, ↓gl5, ↓gi6, ↓gr6, ↓gl6, ↓gi7, ↓gr7, ↓gl7, ↓gi8, ↓gr8, ↓gl8, ↓gi9, ↓gr9, ↓gl9, ↓qI, ↓qI2, ↓qL, ↓qL2, ↓qR, ↓qV, ↓pd0, ↓ta0, ↓ts0, ↓pd1, ↓ta1, ↓ts1, ↓pd2, ↓ta2, ↓ts2, ↓pd3, ↓ta3, ↓ts3, ↓pd4, ↓ta4, ↓ts4, ↓pd5, ↓ta5, ↓ts5, ↓pd6, ↓ta6, ↓ts6, lGet, lSet, okS, isLg, Bool.not_false, Bool.not_true, Bool.false_eq_true, not_false_eq_true, not_true_eq_false, catS, okR1, okR20, okR21, okR2b, List.length_cons, List.length_nil, List.drop_succ_cons, List.drop_zero, List.drop_nil, and_self, true_and, and_true, false_and, and_false, Nat.reduceAdd, Nat.reduceLeDiff, Nat.zero_add, Nat.le_refl, Nat.zero_le, pushR, reduceCtorEq, or_self, or_false, false_or, true_or, or_true, ltT, ltF, leT, leF, eqF, eqT, lt0F, ge0T, le0T, le0F, eq0T, eq0F, gt0T, gt0F, nI_add, nI_1, pk_mul, subT, sub1, divT, remN, natRem, n2, n3, n4, n5, n6, n7, n8, n9, n10, n12, n16, n22, n23, n24, n40, n48, n57, n60, n97, n99, n100, n119, n120, n238, n357, n999, n9999, n2231, Int32.add_zero, show (nI 2 = (1 : Int32)) = False from by decide]; rfl
  | 3, _ =>
    by_cases e : 3 = k
    · subst e
      simp (disch := omega) only [e205_0, e205_1, e205_4, e205_5, e205_6, e205_9, e205_10, e205_11, e205_14, e205_15, e205_16, e205_19, e205_20, e205_21, e205_24, e205_25, e205_26, e205_29, e205_30, e205_33, e205_34, ↓reduceIte, ↓gi0, ↓gr0, ↓gl0, ↓gi1, ↓gr1, ↓gl1, ↓gi2, ↓gr2, ↓gl2, ↓gi3, ↓gr3, ↓gl3, ↓gi4, ↓gr4, ↓gl4, ↓gi5, ↓gr5, ↓gl5, ↓gi6, ↓gr6, ↓gl6, ↓gi7, ↓gr7, ↓gl7, ↓gi8, ↓gr8, ↓gl8, ↓gi9, ↓gr9, ↓gl9, ↓qI, ↓qI2, ↓qL, ↓qL2, ↓qR, ↓qV, ↓pd0, ↓ta0, ↓ts0, ↓pd1, ↓ta1, ↓ts1, ↓pd2, ↓ta2, ↓ts2, ↓pd3, ↓ta3, ↓ts3, ↓pd4, ↓ta4, ↓ts4, ↓pd5, ↓ta5, ↓ts5, ↓pd6, ↓ta6, ↓ts6, lGet, lSet, okS, isLg, Bool.not_false, Bool.not_true, Bool.false_eq_true, not_false_eq_true, not_true_eq_false, catS, okR1, okR20, okR21, okR2b, List.length_cons, List.length_nil, List.drop_succ_cons, List.drop_zero, List.drop_nil, and_self, true_and, and_true, false_and, and_false, Nat.reduceAdd, Nat.reduceLeDiff, Nat.zero_add, Nat.le_refl, Nat.zero_le, pushR, reduceCtorEq, or_self, or_false, false_or, true_or, or_true, ltT, ltF, leT, leF, eqF, eqT, lt0F, ge0T, le0T, le0F, eq0T, eq0F, gt0T, gt0F, nI_add, nI_1, pk_mul, subT, sub1, divT, remN, natRem, n2, n3, n4, n5, n6, n7, n8, n9, n10, n12, n16, n22, n23, n24, n40, n48, n57, n60, n97, n99, n100, n119, n120, n238, n357, n999, n9999, n2231, Int32.add_zero]; rfl
    · rw [decide_eq_false e]
      simp (disch := omega) only [e205_0, e205_1, e205_4, e205_5, e205_6, e205_9, e205_10, e205_11, e205_14, e205_15, e205_16, e205_19, e205_20, e205_21, e205_24, e205_25, e205_26, e205_29, e205_30, e205_33, e205_34, ↓reduceIte, ↓gi0, ↓gr0, ↓gl0, ↓gi1, ↓gr1, ↓gl1, ↓gi2, ↓gr2, ↓gl2, ↓gi3, ↓gr3, ↓gl3, ↓gi4, ↓gr4, ↓gl4, ↓gi5, ↓gr5, ↓gl5, ↓gi6, ↓gr6, ↓gl6, ↓gi7, ↓gr7, ↓gl7, ↓gi8, ↓gr8, ↓gl8, ↓gi9, ↓gr9, ↓gl9, ↓qI, ↓qI2, ↓qL, ↓qL2, ↓qR, ↓qV, ↓pd0, ↓ta0, ↓ts0, ↓pd1, ↓ta1, ↓ts1, ↓pd2, ↓ta2, ↓ts2, ↓pd3, ↓ta3, ↓ts3, ↓pd4, ↓ta4, ↓ts4, ↓pd5, ↓ta5, ↓ts5, ↓pd6, ↓ta6, ↓ts6, lGet, lSet, okS, isLg, Bool.not_false, Bool.not_true, Bool.false_eq_true, not_false_eq_true, not_true_eq_false, catS, okR1, okR20, okR21, okR2b, List.length_cons, List.length_nil, List.drop_succ_cons, List.drop_zero, List.drop_nil, and_self, true_and, and_true, false_and, and_false, Nat.reduceAdd, Nat.reduceLeDiff, Nat.zero_add, Nat.le_refl, Nat.zero_le, pushR, reduceCtorEq, or_self, or_false, false_or, true_or, or_true, ltT, ltF, leT, leF, eqF, eqT, lt0F, ge0T, le0T, le0F, eq0T, eq0F, gt0T, gt0F, nI_add, nI_1, pk_mul, subT, sub1, divT, remN, natRem, n2, n3, n4, n5, n6, n7, n8, n9, n10, n12, n16, n22, n23, n24, n40, n48, n57, n60, n97, n99, n100, n119, n120, n238, n357, n999, n9999, n2231, Int32.add_zero, show (nI 3 = (1 : Int32)) = False from by decide]; rfl
  | 4, _ =>
    by_cases e : 4 = k
    · subst e
      simp (disch := omega) only [e205_0, e205_1, e205_4, e205_5, e205_6, e205_9, e205_10, e205_11, e205_14, e205_15, e205_16, e205_19, e205_20, e205_21, e205_24, e205_25, e205_26, e205_29, e205_30, e205_33, e205_34, ↓reduceIte, ↓gi0, ↓gr0, ↓gl0, ↓gi1, ↓gr1, ↓gl1, ↓gi2, ↓gr2, ↓gl2, ↓gi3, ↓gr3, ↓gl3, ↓gi4, ↓gr4, ↓gl4, ↓gi5, ↓gr5, ↓gl5, ↓gi6, ↓gr6, ↓gl6, ↓gi7, ↓gr7, ↓gl7, ↓gi8, ↓gr8, ↓gl8, ↓gi9, ↓gr9, ↓gl9, ↓qI, ↓qI2, ↓qL, ↓qL2, ↓qR, ↓qV, ↓pd0, ↓ta0, ↓ts0, ↓pd1, ↓ta1, ↓ts1, ↓pd2, ↓ta2, ↓ts2, ↓pd3, ↓ta3, ↓ts3, ↓pd4, ↓ta4, ↓ts4, ↓pd5, ↓ta5, ↓ts5, ↓pd6, ↓ta6, ↓ts6, lGet, lSet, okS, isLg, Bool.not_false, Bool.not_true, Bool.false_eq_true, not_false_eq_true, not_true_eq_false, catS, okR1, okR20, okR21, okR2b, List.length_cons, List.length_nil, List.drop_succ_cons, List.drop_zero, List.drop_nil, and_self, true_and, and_true, false_and, and_false, Nat.reduceAdd, Nat.reduceLeDiff, Nat.zero_add, Nat.le_refl, Nat.zero_le, pushR, reduceCtorEq, or_self, or_false, false_or, true_or, or_true, ltT, ltF, leT, leF, eqF, eqT, lt0F, ge0T, le0T, le0F, eq0T, eq0F, gt0T, gt0F, nI_add, nI_1, pk_mul, subT, sub1, divT, remN, natRem, n2, n3, n4, n5, n6, n7, n8, n9, n10, n12, n16, n22, n23, n24, n40, n48, n57, n60, n97, n99, n100, n119, n120, n238, n357, n999, n9999, n2231, Int32.add_zero]; rfl
    · rw [decide_eq_false e]
      by_cases e5 : k = 5
      · subst e5
        simp (disch := omega) only [e205_0, e205_1, e205_4, e205_5, e205_6, e205_9, e205_10, e205_11, e205_14, e205_15, e205_16, e205_19, e205_20, e205_21, e205_24, e205_25, e205_26, e205_29, e205_30, e205_33, e205_34, ↓reduceIte, ↓gi0, ↓gr0, ↓gl0, ↓gi1, ↓gr1, ↓gl1, ↓gi2, ↓gr2, ↓gl2, ↓gi3, ↓gr3, ↓gl3, ↓gi4, ↓gr4, ↓gl4, ↓gi5, ↓gr5, ↓gl5, ↓gi6, ↓gr6, ↓gl6, ↓gi7, ↓gr7, ↓gl7, ↓gi8, ↓gr8, ↓gl8, ↓gi9, ↓gr9, ↓gl9, ↓qI, ↓qI2, ↓qL, ↓qL2, ↓qR, ↓qV, ↓pd0, ↓ta0, ↓ts0, ↓pd1, ↓ta1, ↓ts1, ↓pd2, ↓ta2, ↓ts2, ↓pd3, ↓ta3, ↓ts3, ↓pd4, ↓ta4, ↓ts4, ↓pd5, ↓ta5, ↓ts5, ↓pd6, ↓ta6, ↓ts6, lGet, lSet, okS, isLg, Bool.not_false, Bool.not_true, Bool.false_eq_true, not_false_eq_true, not_true_eq_false, catS, okR1, okR20, okR21, okR2b, List.length_cons, List.length_nil, List.drop_succ_cons, List.drop_zero, List.drop_nil, and_self, true_and, and_true, false_and, and_false, Nat.reduceAdd, Nat.reduceLeDiff, Nat.zero_add, Nat.le_refl, Nat.zero_le, pushR, reduceCtorEq, or_self, or_false, false_or, true_or, or_true, ltT, ltF, leT, leF, eqF, eqT, lt0F, ge0T, le0T, le0F, eq0T, eq0F, gt0T, gt0F, nI_add, nI_1, pk_mul, subT, sub1, divT, remN, natRem, n2, n3, n4, n5, n6, n7, n8, n9, n10, n12, n16, n22, n23, n24, n40, n48, n57, n60, n97, n99, n100, n119, n120, n238, n357, n999, n9999, n2231, Int32.add_zero, show (nI 4 = (1 : Int32)) = False from by decide]; rfl
      · rw [decide_eq_false e5]
        simp (disch := omega) only [e205_0, e205_1, e205_4, e205_5, e205_6, e205_9, e205_10, e205_11, e205_14, e205_15, e205_16, e205_19, e205_20, e205_21, e205_24, e205_25, e205_26, e205_29, e205_30, e205_33, e205_34, ↓reduceIte, ↓gi0, ↓gr0, ↓gl0, ↓gi1, ↓gr1, ↓gl1, ↓gi2, ↓gr2, ↓gl2, ↓gi3, ↓gr3, ↓gl3, ↓gi4, ↓gr4, ↓gl4, ↓gi5, ↓gr5, ↓gl5, ↓gi6, ↓gr6, ↓gl6, ↓gi7, ↓gr7, ↓gl7, ↓gi8, ↓gr8, ↓gl8, ↓gi9, ↓gr9, ↓gl9, ↓qI, ↓qI2, ↓qL, ↓qL2, ↓qR, ↓qV, ↓pd0, ↓ta0, ↓ts0, ↓pd1, ↓ta1, ↓ts1, ↓pd2, ↓ta2, ↓ts2, ↓pd3, ↓ta3, ↓ts3, ↓pd4, ↓ta4, ↓ts4, ↓pd5, ↓ta5, ↓ts5, ↓pd6, ↓ta6, ↓ts6, lGet, lSet, okS, isLg, Bool.not_false, Bool.not_true, Bool.false_eq_true, not_false_eq_true, not_true_eq_false, catS, okR1, okR20, okR21, okR2b, List.length_cons, List.length_nil, List.drop_succ_cons, List.drop_zero, List.drop_nil, and_self, true_and, and_true, false_and, and_false, Nat.reduceAdd, Nat.reduceLeDiff, Nat.zero_add, Nat.le_refl, Nat.zero_le, pushR, reduceCtorEq, or_self, or_false, false_or, true_or, or_true, ltT, ltF, leT, leF, eqF, eqT, lt0F, ge0T, le0T, le0F, eq0T, eq0F, gt0T, gt0F, nI_add, nI_1, pk_mul, subT, sub1, divT, remN, natRem, n2, n3, n4, n5, n6, n7, n8, n9, n10, n12, n16, n22, n23, n24, n40, n48, n57, n60, n97, n99, n100, n119, n120, n238, n357, n999, n9999, n2231, Int32.add_zero, show (nI 4 = (1 : Int32)) = False from by decide]; rfl
  | 5, _ =>
    by_cases e : 5 = k
    · subst e
      simp (disch := omega) only [e205_0, e205_1, e205_4, e205_5, e205_6, e205_9, e205_10, e205_11, e205_14, e205_15, e205_16, e205_19, e205_20, e205_21, e205_24, e205_25, e205_26, e205_29, e205_30, e205_33, e205_34, ↓reduceIte, ↓gi0, ↓gr0, ↓gl0, ↓gi1, ↓gr1, ↓gl1, ↓gi2, ↓gr2, ↓gl2, ↓gi3, ↓gr3, ↓gl3, ↓gi4, ↓gr4, ↓gl4, ↓gi5, ↓gr5, ↓gl5, ↓gi6, ↓gr6, ↓gl6, ↓gi7, ↓gr7, ↓gl7, ↓gi8, ↓gr8, ↓gl8, ↓gi9, ↓gr9, ↓gl9, ↓qI, ↓qI2, ↓qL, ↓qL2, ↓qR, ↓qV, ↓pd0, ↓ta0, ↓ts0, ↓pd1, ↓ta1, ↓ts1, ↓pd2, ↓ta2, ↓ts2, ↓pd3, ↓ta3, ↓ts3, ↓pd4, ↓ta4, ↓ts4, ↓pd5, ↓ta5, ↓ts5, ↓pd6, ↓ta6, ↓ts6, lGet, lSet, okS, isLg, Bool.not_false, Bool.not_true, Bool.false_eq_true, not_false_eq_true, not_true_eq_false, catS, okR1, okR20, okR21, okR2b, List.length_cons, List.length_nil, List.drop_succ_cons, List.drop_zero, List.drop_nil, and_self, true_and, and_true, false_and, and_false, Nat.reduceAdd, Nat.reduceLeDiff, Nat.zero_add, Nat.le_refl, Nat.zero_le, pushR, reduceCtorEq, or_self, or_false, false_or, true_or, or_true, ltT, ltF, leT, leF, eqF, eqT, lt0F, ge0T, le0T, le0F, eq0T, eq0F, gt0T, gt0F, nI_add, nI_1, pk_mul, subT, sub1, divT, remN, natRem, n2, n3, n4, n5, n6, n7, n8, n9, n10, n12, n16, n22, n23, n24, n40, n48, n57, n60, n97, n99, n100, n119, n120, n238, n357, n999, n9999, n2231, Int32.add_zero]; rfl
    · rw [decide_eq_false e]
      simp (disch := omega) only [e205_0, e205_1, e205_4, e205_5, e205_6, e205_9, e205_10, e205_11, e205_14, e205_15, e205_16, e205_19, e205_20, e205_21, e205_24, e205_25, e205_26, e205_29, e205_30, e205_33, e205_34, ↓reduceIte, ↓gi0, ↓gr0, ↓gl0, ↓gi1, ↓gr1, ↓gl1, ↓gi2, ↓gr2, ↓gl2, ↓gi3, ↓gr3, ↓gl3, ↓gi4, ↓gr4, ↓gl4, ↓gi5, ↓gr5, ↓gl5, ↓gi6, ↓gr6, ↓gl6, ↓gi7, ↓gr7, ↓gl7, ↓gi8, ↓gr8, ↓gl8, ↓gi9, ↓gr9, ↓gl9, ↓qI, ↓qI2, ↓qL, ↓qL2, ↓qR, ↓qV, ↓pd0, ↓ta0, ↓ts0, ↓pd1, ↓ta1, ↓ts1, ↓pd2, ↓ta2, ↓ts2, ↓pd3, ↓ta3, ↓ts3, ↓pd4, ↓ta4, ↓ts4, ↓pd5, ↓ta5, ↓ts5, ↓pd6, ↓ta6, ↓ts6, lGet, lSet, okS, isLg, Bool.not_false, Bool.not_true, Bool.false_eq_true, not_false_eq_true, not_true_eq_false, catS, okR1, okR20, okR21, okR2b, List.length_cons, List.length_nil, List.drop_succ_cons, List.drop_zero, List.drop_nil, and_self, true_and, and_true, false_and, and_false, Nat.reduceAdd, Nat.reduceLeDiff, Nat.zero_add, Nat.le_refl, Nat.zero_le, pushR, reduceCtorEq, or_self, or_false, false_or, true_or, or_true, ltT, ltF, leT, leF, eqF, eqT, lt0F, ge0T, le0T, le0F, eq0T, eq0F, gt0T, gt0F, nI_add, nI_1, pk_mul, subT, sub1, divT, remN, natRem, n2, n3, n4, n5, n6, n7, n8, n9, n10, n12, n16, n22, n23, n24, n40, n48, n57, n60, n97, n99, n100, n119, n120, n238, n357, n999, n9999, n2231, Int32.add_zero, show (nI 5 = (1 : Int32)) = False from by decide]; rfl
theorem ms_as (d : Nat) {A : AS} (hI : InvM s A) (hG : Gd A) (p v : Int32) : ∃ s', EvM (d + 3) 206 [.ref 614, .int p, .int v] (mkH scr s) = some ((oAs p v A).1, mkH scr s') ∧ InvM s' (oAs p v A).2 ∧ FrLo s s' := by
  obtain ⟨rw_, tp, fl, st, hs, ⟨t, w, m, N, f⟩, im, pa, tr⟩ := A
  obtain ⟨q0, q3, h6, qS, hVV⟩ : CTm s hs (t, w, m, N, f) := hI.2.2.2.2.1
  have q3 : s.1 615 3 = nI N := q3
  have h6 : N ≤ 6 := h6
  have q0 : s.1 615 0 = bI hs := q0
  have q22 : s.1 615 22 = nI m := hVV.1
  have hcg : cyGd 9999 (t, w, m, N, f) := hG.2.1.1
  have hm : m ≤ 999 := hG.2.1.2.2
  have hok : cyOk (t, w, m, N, f) := hcg.ok (by decide) (by show m < 2 ^ 20; omega)
  have w1 := m_isOne (d) (scr := scr) p q3 h6
  have w2 : EvM (d + 2) 131 [.long v.toInt64, .long (Int32.toInt64 0), .long (nI 5).toInt64] (mkH scr s) = some (bI (inR v 0 5), mkH scr s) := m_inN (d + 1) v 0 5
  rw [ev206, e206_0]
  cases g1 : inB p N
  · rw [g1] at w1
    refine ⟨s, ?_, ?_, FrLo.rf s⟩ <;> simp only [oAs, nPe, hasC, g1, Bool.false_eq_true, false_and, and_false, if_false, if_true, bad]
    · simp (disch := omega) only [e206_0, e206_1, e206_2, e206_5, e206_8, e206_9, e206_10, e206_11, e206_14, e206_17, e206_20, e206_22, e206_23, e206_24, e206_25, e206_28, e206_29, e206_32, e206_35, e206_36, e206_37, e206_40, e206_43, e206_44, e206_45, e206_48, ↓reduceIte, ↓gi0, ↓gr0, ↓gl0, ↓gi1, ↓gr1, ↓gl1, ↓gi2, ↓gr2, ↓gl2, ↓gi3, ↓gr3, ↓gl3, ↓gi4, ↓gr4, ↓gl4, ↓gi5, ↓gr5, ↓gl5, ↓gi6, ↓gr6, ↓gl6, ↓gi7, ↓gr7, ↓gl7, ↓gi8, ↓gr8, ↓gl8, ↓gi9, ↓gr9, ↓gl9, ↓qI, ↓qI2, ↓qL, ↓qL2, ↓qR, ↓qV, ↓pd0, ↓ta0, ↓ts0, ↓pd1, ↓ta1, ↓ts1, ↓pd2, ↓ta2, ↓ts2, ↓pd3, ↓ta3, ↓ts3, ↓pd4, ↓ta4, ↓ts4, ↓pd5, ↓ta5, ↓ts5, ↓pd6, ↓ta6, ↓ts6, lGet, lSet, okS, isLg, Bool.not_false, Bool.not_true, Bool.false_eq_true, not_false_eq_true, not_true_eq_false, catS, okR1, okR20, okR21, okR2b, List.length_cons, List.length_nil, List.drop_succ_cons, List.drop_zero, List.drop_nil, and_self, true_and, and_true, false_and, and_false, Nat.reduceAdd, Nat.reduceLeDiff, Nat.zero_add, Nat.le_refl, Nat.zero_le, pushR, reduceCtorEq, or_self, or_false, false_or, true_or, or_true, ltT, ltF, leT, leF, eqF, eqT, lt0F, ge0T, le0T, le0F, eq0T, eq0F, gt0T, gt0F, nI_add, nI_1, pk_mul, subT, sub1, divT, remN, natRem, n2, n3, n4, n5, n6, n7, n8, n9, n10, n12, n16, n22, n23, n24, n40, n48, n57, n60, n97, n99, n100, n119, n120, n238, n357, n999, n9999, n2231, Int32.add_zero, bI_t, bI_f, one_ne, K614, ↓G614_0, ↓G614_1, ↓G614_2, ↓U614_2, ↓G614_3, ↓G614_4, ↓U614_4, ↓G614_5, ↓U614_5, ↓G614_6, ↓U614_6, ↓G614_7, ↓G614_8, ↓G614_9, ↓G614_10, ↓G614_11, ↓U614_11, ↓G614_12, ↓U614_12, ↓G614_13, ↓U614_13, ↓G614_14, ↓U614_14, ↓G614_15, ↓G614_16, ↓U614_16, ↓G614_18, ↓U614_18, ↓G614_19, ↓I615, ↓S615, ↓bnd w1]
    · exact hI
  rw [g1] at w1
  cases g2 : inR v 0 5
  · rw [g2] at w2
    refine ⟨s, ?_, ?_, FrLo.rf s⟩ <;> simp only [oAs, nPe, hasC, g1, g2, Bool.false_eq_true, false_and, and_false, if_false, if_true, bad]
    · simp (disch := omega) only [e206_0, e206_1, e206_2, e206_5, e206_8, e206_9, e206_10, e206_11, e206_14, e206_17, e206_20, e206_22, e206_23, e206_24, e206_25, e206_28, e206_29, e206_32, e206_35, e206_36, e206_37, e206_40, e206_43, e206_44, e206_45, e206_48, ↓reduceIte, ↓gi0, ↓gr0, ↓gl0, ↓gi1, ↓gr1, ↓gl1, ↓gi2, ↓gr2, ↓gl2, ↓gi3, ↓gr3, ↓gl3, ↓gi4, ↓gr4, ↓gl4, ↓gi5, ↓gr5, ↓gl5, ↓gi6, ↓gr6, ↓gl6, ↓gi7, ↓gr7, ↓gl7, ↓gi8, ↓gr8, ↓gl8, ↓gi9, ↓gr9, ↓gl9, ↓qI, ↓qI2, ↓qL, ↓qL2, ↓qR, ↓qV, ↓pd0, ↓ta0, ↓ts0, ↓pd1, ↓ta1, ↓ts1, ↓pd2, ↓ta2, ↓ts2, ↓pd3, ↓ta3, ↓ts3, ↓pd4, ↓ta4, ↓ts4, ↓pd5, ↓ta5, ↓ts5, ↓pd6, ↓ta6, ↓ts6, lGet, lSet, okS, isLg, Bool.not_false, Bool.not_true, Bool.false_eq_true, not_false_eq_true, not_true_eq_false, catS, okR1, okR20, okR21, okR2b, List.length_cons, List.length_nil, List.drop_succ_cons, List.drop_zero, List.drop_nil, and_self, true_and, and_true, false_and, and_false, Nat.reduceAdd, Nat.reduceLeDiff, Nat.zero_add, Nat.le_refl, Nat.zero_le, pushR, reduceCtorEq, or_self, or_false, false_or, true_or, or_true, ltT, ltF, leT, leF, eqF, eqT, lt0F, ge0T, le0T, le0F, eq0T, eq0F, gt0T, gt0F, nI_add, nI_1, pk_mul, subT, sub1, divT, remN, natRem, n2, n3, n4, n5, n6, n7, n8, n9, n10, n12, n16, n22, n23, n24, n40, n48, n57, n60, n97, n99, n100, n119, n120, n238, n357, n999, n9999, n2231, Int32.add_zero, bI_t, bI_f, one_ne, K614, ↓G614_0, ↓G614_1, ↓G614_2, ↓U614_2, ↓G614_3, ↓G614_4, ↓U614_4, ↓G614_5, ↓U614_5, ↓G614_6, ↓U614_6, ↓G614_7, ↓G614_8, ↓G614_9, ↓G614_10, ↓G614_11, ↓U614_11, ↓G614_12, ↓U614_12, ↓G614_13, ↓U614_13, ↓G614_14, ↓U614_14, ↓G614_15, ↓G614_16, ↓U614_16, ↓G614_18, ↓U614_18, ↓G614_19, ↓I615, ↓S615, ↓bnd w1, ↓bnd w2]
    · exact hI
  rw [g2] at w2
  obtain ⟨j, hj, rfl⟩ := inB_of (by omega) g1
  have ej : (nI j).toNatClampNeg = j := nI_clamp (by omega)
  have hj6 : j < 6 := by omega
  have hst : hs = true := hs_of hG (j := j) hj
  have hMS := qS hst
  have hkd : s.1 615 (4 + 3 * j) = nI (f j).1 := (hMS.2.2.2.2 j hj).1
  have hp : MP s 615 (23 + 16 * j) (f j) := hVV.2 j hj
  have hpo : pOk (f j) := hok.2.2.2 j hj
  obtain ⟨k, hk1, hk2, rfl⟩ := inR_of (by decide) (by decide) g2
  have ek : (nI k).toNatClampNeg = k := nI_clamp (by omega)
  have a0 := m_kindOf (d + 1) (scr := scr) hj6 hkd
  have a1 := m_isKind (d + 1) (h := mkH scr s) (k := (f j).1) (v := k) hpo.1 (hcg.2.2.2.2.2 j hj).1 (by omega)
  have k1 := m_give (d + 1) (scr := scr) (s := s) (nI j)
  have k3 := m_find (d + 1) (scr := scr) (s := s) (nI 3)
  cases g3 : isOfB (f j).1 k
  · rw [g3] at a1
    refine ⟨_, ?_, ?_, (FrLo.rf s).st (x := 3)⟩ <;> simp only [oAs, nPe, pOf, ej, ek, cl, g1, g2, g3, and_self, if_true, Bool.false_eq_true, if_false, fnd]
    · simp (disch := omega) only [e206_0, e206_1, e206_2, e206_5, e206_8, e206_9, e206_10, e206_11, e206_14, e206_17, e206_20, e206_22, e206_23, e206_24, e206_25, e206_28, e206_29, e206_32, e206_35, e206_36, e206_37, e206_40, e206_43, e206_44, e206_45, e206_48, ↓reduceIte, ↓gi0, ↓gr0, ↓gl0, ↓gi1, ↓gr1, ↓gl1, ↓gi2, ↓gr2, ↓gl2, ↓gi3, ↓gr3, ↓gl3, ↓gi4, ↓gr4, ↓gl4, ↓gi5, ↓gr5, ↓gl5, ↓gi6, ↓gr6, ↓gl6, ↓gi7, ↓gr7, ↓gl7, ↓gi8, ↓gr8, ↓gl8, ↓gi9, ↓gr9, ↓gl9, ↓qI, ↓qI2, ↓qL, ↓qL2, ↓qR, ↓qV, ↓pd0, ↓ta0, ↓ts0, ↓pd1, ↓ta1, ↓ts1, ↓pd2, ↓ta2, ↓ts2, ↓pd3, ↓ta3, ↓ts3, ↓pd4, ↓ta4, ↓ts4, ↓pd5, ↓ta5, ↓ts5, ↓pd6, ↓ta6, ↓ts6, lGet, lSet, okS, isLg, Bool.not_false, Bool.not_true, Bool.false_eq_true, not_false_eq_true, not_true_eq_false, catS, okR1, okR20, okR21, okR2b, List.length_cons, List.length_nil, List.drop_succ_cons, List.drop_zero, List.drop_nil, and_self, true_and, and_true, false_and, and_false, Nat.reduceAdd, Nat.reduceLeDiff, Nat.zero_add, Nat.le_refl, Nat.zero_le, pushR, reduceCtorEq, or_self, or_false, false_or, true_or, or_true, ltT, ltF, leT, leF, eqF, eqT, lt0F, ge0T, le0T, le0F, eq0T, eq0F, gt0T, gt0F, nI_add, nI_1, pk_mul, subT, sub1, divT, remN, natRem, n2, n3, n4, n5, n6, n7, n8, n9, n10, n12, n16, n22, n23, n24, n40, n48, n57, n60, n97, n99, n100, n119, n120, n238, n357, n999, n9999, n2231, Int32.add_zero, bI_t, bI_f, one_ne, K614, ↓G614_0, ↓G614_1, ↓G614_2, ↓U614_2, ↓G614_3, ↓G614_4, ↓U614_4, ↓G614_5, ↓U614_5, ↓G614_6, ↓U614_6, ↓G614_7, ↓G614_8, ↓G614_9, ↓G614_10, ↓G614_11, ↓U614_11, ↓G614_12, ↓U614_12, ↓G614_13, ↓U614_13, ↓G614_14, ↓U614_14, ↓G614_15, ↓G614_16, ↓U614_16, ↓G614_18, ↓U614_18, ↓G614_19, ↓bnd w1, ↓bnd w2, ↓bnd a0, ↓bnd a1, ↓bnd k3]
    · exact hI.stt
  · rw [g3] at a1
    refine ⟨_, ?_, ?_, (FrLo.rf s).st (x := 0)⟩ <;> simp only [oAs, nPe, pOf, ej, ek, cl, g1, g2, g3, and_self, if_true, fin]
    · simp (disch := omega) only [e206_0, e206_1, e206_2, e206_5, e206_8, e206_9, e206_10, e206_11, e206_14, e206_17, e206_20, e206_22, e206_23, e206_24, e206_25, e206_28, e206_29, e206_32, e206_35, e206_36, e206_37, e206_40, e206_43, e206_44, e206_45, e206_48, ↓reduceIte, ↓gi0, ↓gr0, ↓gl0, ↓gi1, ↓gr1, ↓gl1, ↓gi2, ↓gr2, ↓gl2, ↓gi3, ↓gr3, ↓gl3, ↓gi4, ↓gr4, ↓gl4, ↓gi5, ↓gr5, ↓gl5, ↓gi6, ↓gr6, ↓gl6, ↓gi7, ↓gr7, ↓gl7, ↓gi8, ↓gr8, ↓gl8, ↓gi9, ↓gr9, ↓gl9, ↓qI, ↓qI2, ↓qL, ↓qL2, ↓qR, ↓qV, ↓pd0, ↓ta0, ↓ts0, ↓pd1, ↓ta1, ↓ts1, ↓pd2, ↓ta2, ↓ts2, ↓pd3, ↓ta3, ↓ts3, ↓pd4, ↓ta4, ↓ts4, ↓pd5, ↓ta5, ↓ts5, ↓pd6, ↓ta6, ↓ts6, lGet, lSet, okS, isLg, Bool.not_false, Bool.not_true, Bool.false_eq_true, not_false_eq_true, not_true_eq_false, catS, okR1, okR20, okR21, okR2b, List.length_cons, List.length_nil, List.drop_succ_cons, List.drop_zero, List.drop_nil, and_self, true_and, and_true, false_and, and_false, Nat.reduceAdd, Nat.reduceLeDiff, Nat.zero_add, Nat.le_refl, Nat.zero_le, pushR, reduceCtorEq, or_self, or_false, false_or, true_or, or_true, ltT, ltF, leT, leF, eqF, eqT, lt0F, ge0T, le0T, le0F, eq0T, eq0F, gt0T, gt0F, nI_add, nI_1, pk_mul, subT, sub1, divT, remN, natRem, n2, n3, n4, n5, n6, n7, n8, n9, n10, n12, n16, n22, n23, n24, n40, n48, n57, n60, n97, n99, n100, n119, n120, n238, n357, n999, n9999, n2231, Int32.add_zero, bI_t, bI_f, one_ne, K614, ↓G614_0, ↓G614_1, ↓G614_2, ↓U614_2, ↓G614_3, ↓G614_4, ↓U614_4, ↓G614_5, ↓U614_5, ↓G614_6, ↓U614_6, ↓G614_7, ↓G614_8, ↓G614_9, ↓G614_10, ↓G614_11, ↓U614_11, ↓G614_12, ↓U614_12, ↓G614_13, ↓U614_13, ↓G614_14, ↓U614_14, ↓G614_15, ↓G614_16, ↓U614_16, ↓G614_18, ↓U614_18, ↓G614_19, ↓bnd w1, ↓bnd w2, ↓bnd a0, ↓bnd a1, ↓bnd k1]
    · exact hI.stt
theorem ms_trace (d : Nat) {A : AS} (hI : InvM s A) (hG : Gd A) (x : Int32) : ∃ s', EvM (d + 3) 218 [.ref 614, .int x] (mkH scr s) = some ((oTrace x A).1, mkH scr s') ∧ InvM s' (oTrace x A).2 ∧ FrLo s s' := by
  obtain ⟨rw_, tp, fl, st, hs, ⟨t, w, m, N, f⟩, im, pa, tr⟩ := A
  obtain ⟨q0, q3, h6, qS, hVV⟩ : CTm s hs (t, w, m, N, f) := hI.2.2.2.2.1
  have q3 : s.1 615 3 = nI N := q3
  have h6 : N ≤ 6 := h6
  have q0 : s.1 615 0 = bI hs := q0
  have q22 : s.1 615 22 = nI m := hVV.1
  have hcg : cyGd 9999 (t, w, m, N, f) := hG.2.1.1
  have hm : m ≤ 999 := hG.2.1.2.2
  have hok : cyOk (t, w, m, N, f) := hcg.ok (by decide) (by show m < 2 ^ 20; omega)
  have hT : TRm s tr := hI.2.2.2.2.2.2.2
  obtain ⟨t1, t2, t3⟩ := hT
  have w1 := m_in (d + 1) (h := mkH scr s) x 0 (nI tr.length - 1)
  rw [← inB_R (by omega)] at w1
  rw [ev218, e218_0]
  refine ⟨s, ?_, hI, FrLo.rf s⟩
  simp only [oTrace]
  cases g1 : inB x tr.length
  · rw [g1] at w1
    simp (disch := omega) only [e218_0, e218_1, e218_2, e218_3, e218_4, e218_7, e218_8, e218_9, e218_10, e218_13, e218_16, e218_17, e218_20, e218_21, e218_22, e218_25, e218_27, ↓reduceIte, ↓gi0, ↓gr0, ↓gl0, ↓gi1, ↓gr1, ↓gl1, ↓gi2, ↓gr2, ↓gl2, ↓gi3, ↓gr3, ↓gl3, ↓gi4, ↓gr4, ↓gl4, ↓gi5, ↓gr5, ↓gl5, ↓gi6, ↓gr6, ↓gl6, ↓gi7, ↓gr7, ↓gl7, ↓gi8, ↓gr8, ↓gl8, ↓gi9, ↓gr9, ↓gl9, ↓qI, ↓qI2, ↓qL, ↓qL2, ↓qR, ↓qV, ↓pd0, ↓ta0, ↓ts0, ↓pd1, ↓ta1, ↓ts1, ↓pd2, ↓ta2, ↓ts2, ↓pd3, ↓ta3, ↓ts3, ↓pd4, ↓ta4, ↓ts4, ↓pd5, ↓ta5, ↓ts5, ↓pd6, ↓ta6, ↓ts6, lGet, lSet, okS, isLg, Bool.not_false, Bool.not_true, Bool.false_eq_true, not_false_eq_true, not_true_eq_false, catS, okR1, okR20, okR21, okR2b, List.length_cons, List.length_nil, List.drop_succ_cons, List.drop_zero, List.drop_nil, and_self, true_and, and_true, false_and, and_false, Nat.reduceAdd, Nat.reduceLeDiff, Nat.zero_add, Nat.le_refl, Nat.zero_le, pushR, reduceCtorEq, or_self, or_false, false_or, true_or, or_true, K614, ↓G614_0, ↓G614_1, ↓G614_2, ↓U614_2, ↓G614_3, ↓G614_4, ↓U614_4, ↓G614_5, ↓U614_5, ↓G614_6, ↓U614_6, ↓G614_7, ↓G614_8, ↓G614_9, ↓G614_10, ↓G614_11, ↓U614_11, ↓G614_12, ↓U614_12, ↓G614_13, ↓U614_13, ↓G614_14, ↓U614_14, ↓G614_15, ↓G614_16, ↓U614_16, ↓G614_18, ↓U614_18, ↓G614_19, ↓I621, ↓S621, t1, ↓bnd w1, bI_f, Bool.false_eq_true, if_false]
  · rw [g1] at w1
    obtain ⟨i, hi, rfl⟩ := inB_of (by omega) g1
    have ei : (nI i).toNatClampNeg = i := nI_clamp (by omega)
    have t3' := t3 i hi
    simp (disch := omega) only [e218_0, e218_1, e218_2, e218_3, e218_4, e218_7, e218_8, e218_9, e218_10, e218_13, e218_16, e218_17, e218_20, e218_21, e218_22, e218_25, e218_27, ↓reduceIte, ↓gi0, ↓gr0, ↓gl0, ↓gi1, ↓gr1, ↓gl1, ↓gi2, ↓gr2, ↓gl2, ↓gi3, ↓gr3, ↓gl3, ↓gi4, ↓gr4, ↓gl4, ↓gi5, ↓gr5, ↓gl5, ↓gi6, ↓gr6, ↓gl6, ↓gi7, ↓gr7, ↓gl7, ↓gi8, ↓gr8, ↓gl8, ↓gi9, ↓gr9, ↓gl9, ↓qI, ↓qI2, ↓qL, ↓qL2, ↓qR, ↓qV, ↓pd0, ↓ta0, ↓ts0, ↓pd1, ↓ta1, ↓ts1, ↓pd2, ↓ta2, ↓ts2, ↓pd3, ↓ta3, ↓ts3, ↓pd4, ↓ta4, ↓ts4, ↓pd5, ↓ta5, ↓ts5, ↓pd6, ↓ta6, ↓ts6, lGet, lSet, okS, isLg, Bool.not_false, Bool.not_true, Bool.false_eq_true, not_false_eq_true, not_true_eq_false, catS, okR1, okR20, okR21, okR2b, List.length_cons, List.length_nil, List.drop_succ_cons, List.drop_zero, List.drop_nil, and_self, true_and, and_true, false_and, and_false, Nat.reduceAdd, Nat.reduceLeDiff, Nat.zero_add, Nat.le_refl, Nat.zero_le, pushR, reduceCtorEq, or_self, or_false, false_or, true_or, or_true, K614, ↓G614_0, ↓G614_1, ↓G614_2, ↓U614_2, ↓G614_3, ↓G614_4, ↓U614_4, ↓G614_5, ↓U614_5, ↓G614_6, ↓U614_6, ↓G614_7, ↓G614_8, ↓G614_9, ↓G614_10, ↓G614_11, ↓U614_11, ↓G614_12, ↓U614_12, ↓G614_13, ↓U614_13, ↓G614_14, ↓U614_14, ↓G614_15, ↓G614_16, ↓U614_16, ↓G614_18, ↓U614_18, ↓G614_19, ↓I621, ↓S621, t1, ↓bnd w1, bI_t, one_ne, t3', if_true, cl, ei]
theorem ms_image (d : Nat) {A : AS} (hI : InvM s A) (hG : Gd A) (x : Int32) : ∃ s', EvM (d + 3) 202 [.ref 614, .int x] (mkH scr s) = some ((oImage x A).1, mkH scr s') ∧ InvM s' (oImage x A).2 ∧ FrLo s s' := by
  obtain ⟨rw_, tp, fl, st, hs, ⟨t, w, m, N, f⟩, im, pa, tr⟩ := A
  obtain ⟨q0, q3, h6, qS, hVV⟩ : CTm s hs (t, w, m, N, f) := hI.2.2.2.2.1
  have q3 : s.1 615 3 = nI N := q3
  have h6 : N ≤ 6 := h6
  have q0 : s.1 615 0 = bI hs := q0
  have q22 : s.1 615 22 = nI m := hVV.1
  have hcg : cyGd 9999 (t, w, m, N, f) := hG.2.1.1
  have hm : m ≤ 999 := hG.2.1.2.2
  have hok : cyOk (t, w, m, N, f) := hcg.ok (by decide) (by show m < 2 ^ 20; omega)
  have i0 : ∀ (x : ST) (g : Int32 → Rs), (ialdF (mkH scr x) 615 0).bind g = g (x.1 615 0) := fun x g => I615 (i := 0) x g (by omega)
  have w1 : EvM (d + 2) 131 [.long x.toInt64, .long (Int32.toInt64 0), .long (Int32.toInt64 1)] (mkH scr s) = some (bI (inR x 0 1), mkH scr s) := m_inN (d + 1) x 0 1
  rw [ev202, e202_0]
  cases g1 : inR x 0 1
  · rw [g1] at w1
    refine ⟨s, ?_, ?_, FrLo.rf s⟩ <;> simp only [oImage, nPe, hasC, g1, Bool.false_eq_true, false_and, and_false, if_false, if_true, bad]
    · simp (disch := omega) only [e202_0, e202_1, e202_2, e202_3, e202_4, e202_7, e202_10, e202_12, e202_13, e202_14, e202_17, e202_18, e202_19, e202_22, e202_24, e202_25, e202_26, e202_27, e202_29, e202_30, e202_31, e202_32, e202_33, e202_36, e202_37, ↓reduceIte, ↓gi0, ↓gr0, ↓gl0, ↓gi1, ↓gr1, ↓gl1, ↓gi2, ↓gr2, ↓gl2, ↓gi3, ↓gr3, ↓gl3, ↓gi4, ↓gr4, ↓gl4, ↓gi5, ↓gr5, ↓gl5, ↓gi6, ↓gr6, ↓gl6, ↓gi7, ↓gr7, ↓gl7, ↓gi8, ↓gr8, ↓gl8, ↓gi9, ↓gr9, ↓gl9, ↓qI, ↓qI2, ↓qL, ↓qL2, ↓qR, ↓qV, ↓pd0, ↓ta0, ↓ts0, ↓pd1, ↓ta1, ↓ts1, ↓pd2, ↓ta2, ↓ts2, ↓pd3, ↓ta3, ↓ts3, ↓pd4, ↓ta4, ↓ts4, ↓pd5, ↓ta5, ↓ts5, ↓pd6, ↓ta6, ↓ts6, lGet, lSet, okS, isLg, Bool.not_false, Bool.not_true, Bool.false_eq_true, not_false_eq_true, not_true_eq_false, catS, okR1, okR20, okR21, okR2b, List.length_cons, List.length_nil, List.drop_succ_cons, List.drop_zero, List.drop_nil, and_self, true_and, and_true, false_and, and_false, Nat.reduceAdd, Nat.reduceLeDiff, Nat.zero_add, Nat.le_refl, Nat.zero_le, pushR, reduceCtorEq, or_self, or_false, false_or, true_or, or_true, ltT, ltF, leT, leF, eqF, eqT, lt0F, ge0T, le0T, le0F, eq0T, eq0F, gt0T, gt0F, nI_add, nI_1, pk_mul, subT, sub1, divT, remN, natRem, n2, n3, n4, n5, n6, n7, n8, n9, n10, n12, n16, n22, n23, n24, n40, n48, n57, n60, n97, n99, n100, n119, n120, n238, n357, n999, n9999, n2231, Int32.add_zero, bI_t, bI_f, one_ne, K614, ↓G614_0, ↓G614_1, ↓G614_2, ↓U614_2, ↓G614_3, ↓G614_4, ↓U614_4, ↓G614_5, ↓U614_5, ↓G614_6, ↓U614_6, ↓G614_7, ↓G614_8, ↓G614_9, ↓G614_10, ↓G614_11, ↓U614_11, ↓G614_12, ↓U614_12, ↓G614_13, ↓U614_13, ↓G614_14, ↓U614_14, ↓G614_15, ↓G614_16, ↓U614_16, ↓G614_18, ↓U614_18, ↓G614_19, ↓I615, ↓S615, ↓bnd w1]
    · exact hI
  rw [g1] at w1
  cases g0 : hs
  · rw [g0] at q0
    refine ⟨s, ?_, ?_, FrLo.rf s⟩ <;> simp only [oImage, g1, Bool.false_eq_true, if_true, if_false]
    · simp (disch := omega) only [e202_0, e202_1, e202_2, e202_3, e202_4, e202_7, e202_10, e202_12, e202_13, e202_14, e202_17, e202_18, e202_19, e202_22, e202_24, e202_25, e202_26, e202_27, e202_29, e202_30, e202_31, e202_32, e202_33, e202_36, e202_37, ↓reduceIte, ↓gi0, ↓gr0, ↓gl0, ↓gi1, ↓gr1, ↓gl1, ↓gi2, ↓gr2, ↓gl2, ↓gi3, ↓gr3, ↓gl3, ↓gi4, ↓gr4, ↓gl4, ↓gi5, ↓gr5, ↓gl5, ↓gi6, ↓gr6, ↓gl6, ↓gi7, ↓gr7, ↓gl7, ↓gi8, ↓gr8, ↓gl8, ↓gi9, ↓gr9, ↓gl9, ↓qI, ↓qI2, ↓qL, ↓qL2, ↓qR, ↓qV, ↓pd0, ↓ta0, ↓ts0, ↓pd1, ↓ta1, ↓ts1, ↓pd2, ↓ta2, ↓ts2, ↓pd3, ↓ta3, ↓ts3, ↓pd4, ↓ta4, ↓ts4, ↓pd5, ↓ta5, ↓ts5, ↓pd6, ↓ta6, ↓ts6, lGet, lSet, okS, isLg, Bool.not_false, Bool.not_true, Bool.false_eq_true, not_false_eq_true, not_true_eq_false, catS, okR1, okR20, okR21, okR2b, List.length_cons, List.length_nil, List.drop_succ_cons, List.drop_zero, List.drop_nil, and_self, true_and, and_true, false_and, and_false, Nat.reduceAdd, Nat.reduceLeDiff, Nat.zero_add, Nat.le_refl, Nat.zero_le, pushR, reduceCtorEq, or_self, or_false, false_or, true_or, or_true, ltT, ltF, leT, leF, eqF, eqT, lt0F, ge0T, le0T, le0F, eq0T, eq0F, gt0T, gt0F, nI_add, nI_1, pk_mul, subT, sub1, divT, remN, natRem, n2, n3, n4, n5, n6, n7, n8, n9, n10, n12, n16, n22, n23, n24, n40, n48, n57, n60, n97, n99, n100, n119, n120, n238, n357, n999, n9999, n2231, Int32.add_zero, bI_t, bI_f, one_ne, K614, ↓G614_0, ↓G614_1, ↓G614_2, ↓U614_2, ↓G614_3, ↓G614_4, ↓U614_4, ↓G614_5, ↓U614_5, ↓G614_6, ↓U614_6, ↓G614_7, ↓G614_8, ↓G614_9, ↓G614_10, ↓G614_11, ↓U614_11, ↓G614_12, ↓U614_12, ↓G614_13, ↓U614_13, ↓G614_14, ↓U614_14, ↓G614_15, ↓G614_16, ↓U614_16, ↓G614_18, ↓U614_18, ↓G614_19, ↓I615, ↓S615, ↓bnd w1, ↓i0, q0]
    · rw [← g0]; exact hI
  subst g0
  obtain ⟨k, hk1, hk2, rfl⟩ := inR_of (by decide) (by decide) g1
  have ek : (nI k).toNatClampNeg = k := nI_clamp (by omega)
  obtain ⟨s1, a1, a2, a3⟩ := m_copyRow (d + 1) (scr := scr) (s := s) (a := 0) (b := 119 * (1 + k)) (by omega) (by omega) (by omega)
  have a1' : EvM (d + 2) 176 [.ref 614, .int 0, .int (nI (119 * (1 + k)))] (mkH scr s) = some (0, mkH scr s1) := a1
  have hMS := qS rfl
  have hi : IMm s1 (fun j => if j = k then some (t, w, m, N, f) else im j) := fun i hi => by
    by_cases e : i = k
    · subst e
      simp only [if_true]
      refine ⟨by have := a3 0 (by omega); simp only [Nat.add_zero, Nat.zero_add] at this; rw [this]; exact q0, fun c hc => ?_⟩
      cases hc
      exact ⟨(MSb_0.mpr hMS).ext (fun k hk => a3 k (by omega)), (MVA_V.mpr hVV).ext h6 (fun k hk => by rw [Nat.add_assoc, a3 _ (by omega)]; exact congrArg _ (by omega))⟩
    · have h7 : IMm s im := hI.2.2.2.2.2.1
      simp only [e, if_false]
      rw [a2.2 _ _ (by omega)]
      refine ⟨(h7 i hi).1, fun c hc => ?_⟩
      obtain ⟨r1, r2⟩ := (h7 i hi).2 c hc
      exact ⟨r1.ext (fun k hk => a2.2 _ _ (by omega)), r2.ext r1.2.2.2.1 (fun k hk => a2.2 _ _ (by omega))⟩
  refine ⟨s1, ?_, ?_, fun a j x => a2.2 _ _ (by omega)⟩ <;> simp only [oImage, g1, if_true, ek, cl]
  · simp (disch := omega) only [e202_0, e202_1, e202_2, e202_3, e202_4, e202_7, e202_10, e202_12, e202_13, e202_14, e202_17, e202_18, e202_19, e202_22, e202_24, e202_25, e202_26, e202_27, e202_29, e202_30, e202_31, e202_32, e202_33, e202_36, e202_37, ↓reduceIte, ↓gi0, ↓gr0, ↓gl0, ↓gi1, ↓gr1, ↓gl1, ↓gi2, ↓gr2, ↓gl2, ↓gi3, ↓gr3, ↓gl3, ↓gi4, ↓gr4, ↓gl4, ↓gi5, ↓gr5, ↓gl5, ↓gi6, ↓gr6, ↓gl6, ↓gi7, ↓gr7, ↓gl7, ↓gi8, ↓gr8, ↓gl8, ↓gi9, ↓gr9, ↓gl9, ↓qI, ↓qI2, ↓qL, ↓qL2, ↓qR, ↓qV, ↓pd0, ↓ta0, ↓ts0, ↓pd1, ↓ta1, ↓ts1, ↓pd2, ↓ta2, ↓ts2, ↓pd3, ↓ta3, ↓ts3, ↓pd4, ↓ta4, ↓ts4, ↓pd5, ↓ta5, ↓ts5, ↓pd6, ↓ta6, ↓ts6, lGet, lSet, okS, isLg, Bool.not_false, Bool.not_true, Bool.false_eq_true, not_false_eq_true, not_true_eq_false, catS, okR1, okR20, okR21, okR2b, List.length_cons, List.length_nil, List.drop_succ_cons, List.drop_zero, List.drop_nil, and_self, true_and, and_true, false_and, and_false, Nat.reduceAdd, Nat.reduceLeDiff, Nat.zero_add, Nat.le_refl, Nat.zero_le, pushR, reduceCtorEq, or_self, or_false, false_or, true_or, or_true, K614, ↓G614_0, ↓G614_1, ↓G614_2, ↓U614_2, ↓G614_3, ↓G614_4, ↓U614_4, ↓G614_5, ↓U614_5, ↓G614_6, ↓U614_6, ↓G614_7, ↓G614_8, ↓G614_9, ↓G614_10, ↓G614_11, ↓U614_11, ↓G614_12, ↓U614_12, ↓G614_13, ↓U614_13, ↓G614_14, ↓U614_14, ↓G614_15, ↓G614_16, ↓U614_16, ↓G614_18, ↓U614_18, ↓G614_19, ↓I615, ↓S615, ↓bnd w1, bI_t, one_ne, ↓i0, q0, n119, i1a, pk_mul, ↓bnd a1']
  · obtain ⟨h1, h2, h3, h4, h5, h6_, h7, h8⟩ := hI
    exact ⟨h1.ext (fun a k x y => a2.2 _ _ (by omega)), h2.ext (a2.2 _ _ (by omega)) (fun k => a2.2 _ _ (by omega)), by rw [a2.2 _ _ (by omega)]; exact h3, by rw [a2.2 _ _ (by omega)]; exact h4, h5.ext (fun k hk => a2.2 _ _ (by omega)), hi, h7.ext (a2.2 _ _ (by omega)) (fun k => a2.2 _ _ (by omega)), h8.ext (a2.2 _ _ (by omega)) (fun k => a2.2 _ _ (by omega))⟩
theorem ms_restore (d : Nat) {A : AS} (hI : InvM s A) (hG : Gd A) (x : Int32) : ∃ s', EvM (d + 3) 203 [.ref 614, .int x] (mkH scr s) = some ((oRestore x A).1, mkH scr s') ∧ InvM s' (oRestore x A).2 ∧ FrLo s s' := by
  obtain ⟨rw_, tp, fl, st, hs, ⟨t, w, m, N, f⟩, im, pa, tr⟩ := A
  obtain ⟨q0, q3, h6, qS, hVV⟩ : CTm s hs (t, w, m, N, f) := hI.2.2.2.2.1
  have q3 : s.1 615 3 = nI N := q3
  have h6 : N ≤ 6 := h6
  have q0 : s.1 615 0 = bI hs := q0
  have q22 : s.1 615 22 = nI m := hVV.1
  have hcg : cyGd 9999 (t, w, m, N, f) := hG.2.1.1
  have hm : m ≤ 999 := hG.2.1.2.2
  have hok : cyOk (t, w, m, N, f) := hcg.ok (by decide) (by show m < 2 ^ 20; omega)
  have w1 : EvM (d + 2) 131 [.long x.toInt64, .long (Int32.toInt64 0), .long (Int32.toInt64 1)] (mkH scr s) = some (bI (inR x 0 1), mkH scr s) := m_inN (d + 1) x 0 1
  rw [ev203, e203_0]
  cases g1 : inR x 0 1
  · rw [g1] at w1
    refine ⟨s, ?_, ?_, FrLo.rf s⟩ <;> simp only [oRestore, nPe, hasC, g1, Bool.false_eq_true, false_and, and_false, if_false, if_true, bad]
    · simp (disch := omega) only [e203_0, e203_1, e203_2, e203_3, e203_4, e203_7, e203_10, e203_12, e203_13, e203_14, e203_17, e203_19, e203_20, e203_21, e203_22, e203_23, e203_24, e203_25, e203_26, e203_29, e203_31, e203_32, e203_33, e203_35, e203_36, e203_37, e203_38, e203_39, e203_40, e203_43, e203_44, e203_45, e203_48, e203_49, ↓reduceIte, ↓gi0, ↓gr0, ↓gl0, ↓gi1, ↓gr1, ↓gl1, ↓gi2, ↓gr2, ↓gl2, ↓gi3, ↓gr3, ↓gl3, ↓gi4, ↓gr4, ↓gl4, ↓gi5, ↓gr5, ↓gl5, ↓gi6, ↓gr6, ↓gl6, ↓gi7, ↓gr7, ↓gl7, ↓gi8, ↓gr8, ↓gl8, ↓gi9, ↓gr9, ↓gl9, ↓qI, ↓qI2, ↓qL, ↓qL2, ↓qR, ↓qV, ↓pd0, ↓ta0, ↓ts0, ↓pd1, ↓ta1, ↓ts1, ↓pd2, ↓ta2, ↓ts2, ↓pd3, ↓ta3, ↓ts3, ↓pd4, ↓ta4, ↓ts4, ↓pd5, ↓ta5, ↓ts5, ↓pd6, ↓ta6, ↓ts6, lGet, lSet, okS, isLg, Bool.not_false, Bool.not_true, Bool.false_eq_true, not_false_eq_true, not_true_eq_false, catS, okR1, okR20, okR21, okR2b, List.length_cons, List.length_nil, List.drop_succ_cons, List.drop_zero, List.drop_nil, and_self, true_and, and_true, false_and, and_false, Nat.reduceAdd, Nat.reduceLeDiff, Nat.zero_add, Nat.le_refl, Nat.zero_le, pushR, reduceCtorEq, or_self, or_false, false_or, true_or, or_true, ltT, ltF, leT, leF, eqF, eqT, lt0F, ge0T, le0T, le0F, eq0T, eq0F, gt0T, gt0F, nI_add, nI_1, pk_mul, subT, sub1, divT, remN, natRem, n2, n3, n4, n5, n6, n7, n8, n9, n10, n12, n16, n22, n23, n24, n40, n48, n57, n60, n97, n99, n100, n119, n120, n238, n357, n999, n9999, n2231, Int32.add_zero, bI_t, bI_f, one_ne, K614, ↓G614_0, ↓G614_1, ↓G614_2, ↓U614_2, ↓G614_3, ↓G614_4, ↓U614_4, ↓G614_5, ↓U614_5, ↓G614_6, ↓U614_6, ↓G614_7, ↓G614_8, ↓G614_9, ↓G614_10, ↓G614_11, ↓U614_11, ↓G614_12, ↓U614_12, ↓G614_13, ↓U614_13, ↓G614_14, ↓U614_14, ↓G614_15, ↓G614_16, ↓U614_16, ↓G614_18, ↓U614_18, ↓G614_19, ↓I615, ↓S615, ↓bnd w1]
    · exact hI
  rw [g1] at w1
  obtain ⟨k, hk1, hk2, rfl⟩ := inR_of (by decide) (by decide) g1
  have ek : (nI k).toNatClampNeg = k := nI_clamp (by omega)
  have h7 : IMm s im := hI.2.2.2.2.2.1
  obtain ⟨r1, r2⟩ := h7 k (by omega)
  cases g0 : im k with
  | none =>
    rw [g0] at r1
    have r1' : s.1 615 (119 * (1 + k)) = 0 := r1
    refine ⟨s, ?_, ?_, FrLo.rf s⟩ <;> simp only [oRestore, g1, if_true, ek, cl, g0]
    · simp (disch := omega) only [e203_0, e203_1, e203_2, e203_3, e203_4, e203_7, e203_10, e203_12, e203_13, e203_14, e203_17, e203_19, e203_20, e203_21, e203_22, e203_23, e203_24, e203_25, e203_26, e203_29, e203_31, e203_32, e203_33, e203_35, e203_36, e203_37, e203_38, e203_39, e203_40, e203_43, e203_44, e203_45, e203_48, e203_49, ↓reduceIte, ↓gi0, ↓gr0, ↓gl0, ↓gi1, ↓gr1, ↓gl1, ↓gi2, ↓gr2, ↓gl2, ↓gi3, ↓gr3, ↓gl3, ↓gi4, ↓gr4, ↓gl4, ↓gi5, ↓gr5, ↓gl5, ↓gi6, ↓gr6, ↓gl6, ↓gi7, ↓gr7, ↓gl7, ↓gi8, ↓gr8, ↓gl8, ↓gi9, ↓gr9, ↓gl9, ↓qI, ↓qI2, ↓qL, ↓qL2, ↓qR, ↓qV, ↓pd0, ↓ta0, ↓ts0, ↓pd1, ↓ta1, ↓ts1, ↓pd2, ↓ta2, ↓ts2, ↓pd3, ↓ta3, ↓ts3, ↓pd4, ↓ta4, ↓ts4, ↓pd5, ↓ta5, ↓ts5, ↓pd6, ↓ta6, ↓ts6, lGet, lSet, okS, isLg, Bool.not_false, Bool.not_true, Bool.false_eq_true, not_false_eq_true, not_true_eq_false, catS, okR1, okR20, okR21, okR2b, List.length_cons, List.length_nil, List.drop_succ_cons, List.drop_zero, List.drop_nil, and_self, true_and, and_true, false_and, and_false, Nat.reduceAdd, Nat.reduceLeDiff, Nat.zero_add, Nat.le_refl, Nat.zero_le, pushR, reduceCtorEq, or_self, or_false, false_or, true_or, or_true, K614, ↓G614_0, ↓G614_1, ↓G614_2, ↓U614_2, ↓G614_3, ↓G614_4, ↓U614_4, ↓G614_5, ↓U614_5, ↓G614_6, ↓U614_6, ↓G614_7, ↓G614_8, ↓G614_9, ↓G614_10, ↓G614_11, ↓U614_11, ↓G614_12, ↓U614_12, ↓G614_13, ↓U614_13, ↓G614_14, ↓U614_14, ↓G614_15, ↓G614_16, ↓U614_16, ↓G614_18, ↓U614_18, ↓G614_19, ↓I615, ↓S615, ↓bnd w1, bI_t, one_ne, n119, i1a, pk_mul, Int32.add_zero, r1']
    · exact hI
  | some c' =>
    rw [g0] at r1
    have r1' : s.1 615 (119 * (1 + k)) = 1 := r1
    obtain ⟨b1, b2⟩ := r2 c' g0
    have hs1 : hs = true := (hG.2.2.2.1 k c' g0).2
    obtain ⟨s1, a1, a2, a3⟩ := m_copyRow (d + 1) (scr := scr) (s := s) (a := 119 * (1 + k)) (b := 0) (by omega) (by omega) (by omega)
    have a1' : EvM (d + 2) 176 [.ref 614, .int (nI (119 * (1 + k))), .int 0] (mkH scr s) = some (0, mkH scr s1) := a1
    have D : ∀ i, i < 119 → (u2 s1 614 2 0).1 615 i = s.1 615 (119 * (1 + k) + i) := fun i hi => by
      have := a3 i hi
      rw [Nat.zero_add] at this
      rw [u2_oth _ _ (by omega)]
      exact this
    have MS1 : MS (u2 s1 614 2 0) c' := MSb_0.mp (b1.ext (fun k hk => by rw [Nat.zero_add]; exact D _ (by omega)))
    have fr : ∀ a i, ¬ (a = 614 ∧ i = 2) → ¬ (a = 615 ∧ i < 119) → (u2 s1 614 2 0).1 a i = s.1 a i := fun a i x y => by rw [u2_oth _ _ (by omega), a2.2 _ _ (by omega)]
    refine ⟨u2 s1 614 2 0, ?_, ?_, fun a j x => fr _ _ (by omega) (by omega)⟩ <;> simp only [oRestore, g1, if_true, ek, cl, g0]
    · simp (disch := omega) only [e203_0, e203_1, e203_2, e203_3, e203_4, e203_7, e203_10, e203_12, e203_13, e203_14, e203_17, e203_19, e203_20, e203_21, e203_22, e203_23, e203_24, e203_25, e203_26, e203_29, e203_31, e203_32, e203_33, e203_35, e203_36, e203_37, e203_38, e203_39, e203_40, e203_43, e203_44, e203_45, e203_48, e203_49, ↓reduceIte, ↓gi0, ↓gr0, ↓gl0, ↓gi1, ↓gr1, ↓gl1, ↓gi2, ↓gr2, ↓gl2, ↓gi3, ↓gr3, ↓gl3, ↓gi4, ↓gr4, ↓gl4, ↓gi5, ↓gr5, ↓gl5, ↓gi6, ↓gr6, ↓gl6, ↓gi7, ↓gr7, ↓gl7, ↓gi8, ↓gr8, ↓gl8, ↓gi9, ↓gr9, ↓gl9, ↓qI, ↓qI2, ↓qL, ↓qL2, ↓qR, ↓qV, ↓pd0, ↓ta0, ↓ts0, ↓pd1, ↓ta1, ↓ts1, ↓pd2, ↓ta2, ↓ts2, ↓pd3, ↓ta3, ↓ts3, ↓pd4, ↓ta4, ↓ts4, ↓pd5, ↓ta5, ↓ts5, ↓pd6, ↓ta6, ↓ts6, lGet, lSet, okS, isLg, Bool.not_false, Bool.not_true, Bool.false_eq_true, not_false_eq_true, not_true_eq_false, catS, okR1, okR20, okR21, okR2b, List.length_cons, List.length_nil, List.drop_succ_cons, List.drop_zero, List.drop_nil, and_self, true_and, and_true, false_and, and_false, Nat.reduceAdd, Nat.reduceLeDiff, Nat.zero_add, Nat.le_refl, Nat.zero_le, pushR, reduceCtorEq, or_self, or_false, false_or, true_or, or_true, K614, ↓G614_0, ↓G614_1, ↓G614_2, ↓U614_2, ↓G614_3, ↓G614_4, ↓U614_4, ↓G614_5, ↓U614_5, ↓G614_6, ↓U614_6, ↓G614_7, ↓G614_8, ↓G614_9, ↓G614_10, ↓G614_11, ↓U614_11, ↓G614_12, ↓U614_12, ↓G614_13, ↓U614_13, ↓G614_14, ↓U614_14, ↓G614_15, ↓G614_16, ↓U614_16, ↓G614_18, ↓U614_18, ↓G614_19, ↓I615, ↓S615, ↓bnd w1, bI_t, one_ne, n119, i1a, pk_mul, Int32.add_zero, r1', ↓bnd a1']
    · obtain ⟨h1, h2, h3, h4, h5, h6_, h7, h8⟩ := hI
      refine ⟨h1.ext (fun a k x y => fr _ _ (by omega) (by omega)), h2.ext (fr _ _ (by omega) (by omega)) (fun k => fr _ _ (by omega) (by omega)), by rw [fr _ _ (by omega) (by omega)]; exact h3, by rw [fr _ _ (by omega) (by omega)]; exact h4, ⟨?_, MS1.2.2.1, MS1.2.2.2.1, fun _ => MS1, ?_⟩, h6_.ext (fun k x y => fr _ _ (by omega) (by omega)), ⟨u2_same _ _ _ _, by simp, fun q c hq => by simp at hq⟩, h8.ext (fr _ _ (by omega) (by omega)) (fun k => fr _ _ (by omega) (by omega))⟩
      · rw [D 0 (by omega), Nat.add_zero]
        show _ = bI hs
        rw [hs1]
        exact r1'
      · exact MVA_V.mp (b2.ext MS1.2.2.2.1 (fun i hi => by rw [Nat.zero_add, D _ (by omega)]; exact congrArg _ (by omega)))
end MSQ
