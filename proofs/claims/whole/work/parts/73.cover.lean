/-! ===== the least sentence that covers ===== -/
def wts (q : Nat → Int32) : Nat → Nat := fun j => cl (q j)
def oCover (p r i n : Int32) (A : AS) : Int32 × AS := if inB p (nPe A) = true ∧ inB r 8 = true ∧ inR n 1 12 = true then oTold r i n 1 999 A (fun q => fin (((lsF (cvB (ctyOf A).1 (ctyOf A).2.2.1 (wts q) (cl n) (pOf A (cl p))) 1000 0).map nI).getD (-1000000)) A) else bad A
theorem wts_ok {q : Nat → Int32} {n : Nat} (h : allIn q 1 999 n = true) : ∀ j, j < n → q j = nI (wts q j) ∧ wts q j ≤ 999 := fun j hj => by
  obtain ⟨x, -, hx2, hx⟩ := inR_of (by decide) (by decide) (allB_t.mp h j hj)
  unfold wts
  have : cl (q j) = x := by rw [hx]; exact nI_clamp (by omega)
  rw [this]
  exact ⟨hx, hx2⟩
theorem gainP_gd {d m : Nat} {p : PT} (h : pGd 9999 m p) (hd : d ≤ 999) : pGd 10998 m (gainP d m p) := by
  unfold gainP
  obtain ⟨h1, h2, h3, h4, h5, h6⟩ := h
  split
  · exact ⟨h1, h2, h3, h4, h5, gd_gain h6 (by omega) (by have := h6.2.1; show sumD (lotsP p) + d ≤ _; unfold lotsP; omega)⟩
  · exact ⟨h1, h2, h3, h4, h5, gd_mono h6 (by omega) (Nat.le_refl _)⟩
theorem pD_ok {t m : Nat} {ws : Nat → Nat} {p : PT} (h : pOk p) : ∀ k, pOk (pD t m ws p k)
  | 0 => h
  | k + 1 => pEnd_ok (pCommit_ok (pD_ok h k))
theorem pE_ok {t m : Nat} {p : PT} (h : pOk p) : ∀ k, pOk (pE t m p k)
  | 0 => h
  | k + 1 => pEnd_ok (pE_ok h k)
/-- what told deeds stand in the class's Deeds -/
def DS (s : ST) (n m t : Nat) (ws : Nat → Nat) : Prop := s.1 501 5 = nI n ∧ s.1 501 6 = nI m ∧ s.1 501 7 = nI t ∧ ∀ j, j < n → s.1 505 j = nI (ws j) ∧ ws j ≤ 999
/-- what trying may touch -/
def FrD (s s' : ST) : Prop := s'.2 = s.2 ∧ ∀ a k, ¬ (506 ≤ a ∧ a < 527) → ¬ (a = 501 ∧ k = 1) → ¬ (a = 502 ∨ a = 503) → s'.1 a k = s.1 a k
theorem FrD.tr {s s1 s2 : ST} (h : FrD s s1) (g : FrD s1 s2) : FrD s s2 := ⟨g.1.trans h.1, fun a k x y z => (g.2 a k x y z).trans (h.2 a k x y z)⟩
theorem FrD.rf (s : ST) : FrD s s := ⟨rfl, fun _ _ _ _ _ => rfl⟩
theorem FrD.p {s s1 : ST} {i : Nat} (hi : i < 7) (h : FrP s s1 (506 + 3 * i)) : FrD s s1 := ⟨h.1, fun a k x y z => h.2 a k (by omega) (by omega) (by omega)⟩
theorem DS.fr {s s' : ST} {n m t : Nat} {ws : Nat → Nat} (h : DS s n m t ws) (g : FrD s s') : DS s' n m t ws := ⟨by rw [g.2 _ _ (by omega) (by omega) (by omega)]; exact h.1, by rw [g.2 _ _ (by omega) (by omega) (by omega)]; exact h.2.1, by rw [g.2 _ _ (by omega) (by omega) (by omega)]; exact h.2.2.1, fun j hj => by rw [g.2 _ _ (by omega) (by omega) (by omega)]; exact h.2.2.2 j hj⟩
section CVR
variable {scr : Nat × (Nat → Int32)} {s : ST}
theorem c_dbegin (d : Nat) {t w m N n : Nat} {f : Nat → PT} (hC : CR s 531 (t, w, m, N, f)) (hn : n ≤ 12) : ∃ s', EvM (d + 1) 40 [.ref 501, .ref 531, .ref 613, .int (nI n)] (mkH scr s) = some (0, mkH scr s') ∧ (∀ a k, a ≠ 501 → a ≠ 505 → s'.1 a k = s.1 a k) ∧ s'.1 501 5 = nI n ∧ s'.1 501 6 = nI m ∧ s'.1 501 7 = nI t ∧ ∀ j, j < n → s'.1 505 j = s.1 613 j := by
  have cp := cpyS (scr := scr) (s := s) (a0 := 613) (a1 := 505) (sp := 0) (dp := 0) (n := nI n) sh_613 sh_505 ⟨by decide, by decide, nI_pos (by omega), by rw [nI_clamp (by omega)]; show 0 + n ≤ 40; omega, by rw [nI_clamp (by omega)]; show 0 + n ≤ 12; omega⟩
  rw [nI_clamp (show n < 2 ^ 31 by omega)] at cp
  have hs1 : ∃ s1, s1 = uA s 505 (va_cpy (s.1 613) (s.1 505) (0 : Int32).toNatClampNeg (0 : Int32).toNatClampNeg n) := ⟨_, rfl⟩
  obtain ⟨s1, es1⟩ := hs1
  rw [← es1] at cp
  have o1 : ∀ a k, a ≠ 505 → s1.1 a k = s.1 a k := fun a k ha => by
    rw [es1]
    show (if a = 505 then _ else s.1 a) k = _
    rw [if_neg ha]
  have o2 : ∀ j, j < n → s1.1 505 j = s.1 613 j := fun j hj => by
    rw [es1]
    show (if 505 = 505 then va_cpy (s.1 613) (s.1 505) 0 0 n else s.1 505) j = _
    rw [if_pos rfl, pk_cpy_in (Nat.zero_le j) (by omega), Nat.sub_zero, Nat.zero_add]
  have m1 : (u2 s1 501 5 (nI n)).1 531 2 = nI m := by rw [u2_oth _ _ (by omega), o1 _ _ (by omega)]; exact hC.2.2.1
  have t1 : (u2 (u2 s1 501 5 (nI n)) 501 6 (nI m)).1 531 0 = nI t := by rw [u2_oth _ _ (by omega), u2_oth _ _ (by omega), o1 _ _ (by omega)]; exact hC.1
  refine ⟨u2 (u2 (u2 s1 501 5 (nI n)) 501 6 (nI m)) 501 7 (nI t), ?_, fun a k x y => by rw [u2_oth _ _ (by omega), u2_oth _ _ (by omega), u2_oth _ _ (by omega), o1 _ _ y], by rw [u2_oth _ _ (by omega), u2_oth _ _ (by omega), u2_same], by rw [u2_oth _ _ (by omega), u2_same], u2_same _ _ _ _, fun j hj => by rw [u2_oth _ _ (by omega), u2_oth _ _ (by omega), u2_oth _ _ (by omega), o2 j hj]⟩
  rw [ev40, e40_0]
  simp (disch := omega) only [e40_0, e40_1, e40_2, e40_3, e40_6, e40_7, e40_8, e40_11, e40_12, e40_13, e40_16, e40_17, e40_18, e40_21, e40_24, e40_25, e40_26, e40_29, e40_32, ↓reduceIte, ↓gi0, ↓gr0, ↓gl0, ↓gi1, ↓gr1, ↓gl1, ↓gi2, ↓gr2, ↓gl2, ↓gi3, ↓gr3, ↓gl3, ↓gi4, ↓gr4, ↓gl4, ↓gi5, ↓gr5, ↓gl5, ↓gi6, ↓gr6, ↓gl6, ↓gi7, ↓gr7, ↓gl7, ↓gi8, ↓gr8, ↓gl8, ↓gi9, ↓gr9, ↓gl9, ↓qI, ↓qI2, ↓qL, ↓qL2, ↓qR, ↓qV, ↓pd0, ↓ta0, ↓ts0, ↓pd1, ↓ta1, ↓ts1, ↓pd2, ↓ta2, ↓ts2, ↓pd3, ↓ta3, ↓ts3, ↓pd4, ↓ta4, ↓ts4, ↓pd5, ↓ta5, ↓ts5, ↓pd6, ↓ta6, ↓ts6, lGet, lSet, okS, isLg, Bool.not_false, Bool.not_true, Bool.false_eq_true, not_false_eq_true, not_true_eq_false, catS, okR1, okR20, okR21, okR2b, List.length_cons, List.length_nil, List.drop_succ_cons, List.drop_zero, List.drop_nil, and_self, true_and, and_true, false_and, and_false, Nat.reduceAdd, Nat.reduceLeDiff, Nat.zero_add, Nat.le_refl, Nat.zero_le, pushR, reduceCtorEq, or_self, or_false, false_or, true_or, or_true, K501, ↓G501_0, ↓G501_1, ↓U501_1, ↓G501_2, ↓G501_3, ↓G501_4, ↓G501_5, ↓U501_5, ↓G501_6, ↓U501_6, ↓G501_7, ↓U501_7, ↓nw_a, ↓nw_l, kN, k531, ↓nw_g 0 (by decide), ↓nw_g 1 (by decide), ↓nw_g 2 (by decide), ↓nw_g 3 (by decide), ↓bnd cp, m1, t1]
theorem c_covers (d : Nat) {P n m t dd : Nat} {ws : Nat → Nat} {p : PT} (hP : per P) (hP5 : 531 ≤ P) (hp : PR s P p) (hg : pGd 9999 m p) (hm : m ≤ 999) (hD : DS s n m t ws) (hn : n ≤ 12) (hdd : dd ≤ 999) : ∃ s', EvM (d + 4) 42 [.ref 501, .ref P, .int (nI dd)] (mkH scr s) = some (bI (cvB t m ws n p dd), mkH scr s') ∧ FrD s s' := by
  have hst := perSt (k := 0) (by omega)
  have hst : per 506 := hst
  obtain ⟨s1, a1, a2, a3⟩ := c_copy (d + 2) (scr := scr) hst hP (by omega) hp
  have F1 : FrD s s1 := FrD.p (i := 0) (by omega) a3
  have hgo : ∃ s2, EvI (EvM (d + 3)) C42 2 12 [.ref 501, .ref P, .int (nI dd), .ref 506, jk] [] (mkH scr s1) = EvI (EvM (d + 3)) C42 2 28 [.ref 501, .ref P, .int (nI dd), .ref 506, .int (nI 0)] [] (mkH scr s2) ∧ PR s2 506 (gainP dd m p) ∧ FrD s s2 := by
    by_cases g : 0 < dd
    · obtain ⟨s2, b1, b2, b3⟩ := c_gain (d + 2) (scr := scr) hst a2.2.2.2.2.2.2 dd m
      have F2 : FrD s s2 := F1.tr (FrD.p (i := 0) (by omega) b3.p)
      have m6 : s1.1 501 6 = nI m := (hD.fr F1).2.1
      refine ⟨s2, ?_, ?_, F2⟩
      · rw [e42_12]
        simp (disch := omega) only [e42_0, e42_1, e42_4, e42_5, e42_6, e42_7, e42_8, e42_9, e42_13, e42_16, e42_17, e42_18, e42_19, e42_22, e42_25, e42_26, e42_30, e42_31, e42_34, e42_37, e42_38, e42_39, e42_42, e42_44, e42_45, e42_48, e42_49, e42_50, e42_53, e42_55, e42_56, e42_57, e42_60, e42_63, e42_66, e42_69, e42_70, e42_73, e42_74, e42_77, e42_80, e42_81, e42_84, e42_85, ↓reduceIte, ↓gi0, ↓gr0, ↓gl0, ↓gi1, ↓gr1, ↓gl1, ↓gi2, ↓gr2, ↓gl2, ↓gi3, ↓gr3, ↓gl3, ↓gi4, ↓gr4, ↓gl4, ↓gi5, ↓gr5, ↓gl5, ↓gi6, ↓gr6, ↓gl6, ↓gi7, ↓gr7, ↓gl7, ↓gi8, ↓gr8, ↓gl8, ↓gi9, ↓gr9, ↓gl9, ↓qI, ↓qI2, ↓qL, ↓qL2, ↓qR, ↓qV, ↓pd0, ↓ta0, ↓ts0, ↓pd1, ↓ta1, ↓ts1, ↓pd2, ↓ta2, ↓ts2, ↓pd3, ↓ta3, ↓ts3, ↓pd4, ↓ta4, ↓ts4, ↓pd5, ↓ta5, ↓ts5, ↓pd6, ↓ta6, ↓ts6, lGet, lSet, okS, isLg, Bool.not_false, Bool.not_true, Bool.false_eq_true, not_false_eq_true, not_true_eq_false, catS, okR1, okR20, okR21, okR2b, List.length_cons, List.length_nil, List.drop_succ_cons, List.drop_zero, List.drop_nil, and_self, true_and, and_true, false_and, and_false, Nat.reduceAdd, Nat.reduceLeDiff, Nat.zero_add, Nat.le_refl, Nat.zero_le, pushR, reduceCtorEq, or_self, or_false, false_or, true_or, or_true, le0F, per_cl hst, K501, ↓G501_0, ↓G501_1, ↓U501_1, ↓G501_2, ↓G501_3, ↓G501_4, ↓G501_5, ↓U501_5, ↓G501_6, ↓U501_6, ↓G501_7, ↓U501_7, m6, ↓bnd b1]
        rfl
      · unfold gainP
        rw [if_pos g]
        exact PR.lots (k := p.1) (le := p.2.1) (w := p.2.2.1) (ca := p.2.2.2.1) (ow := p.2.2.2.2.1) (dn := p.2.2.2.2.2.1) a2 b3 b2
    · refine ⟨s1, ?_, ?_, F1⟩
      · rw [e42_12]
        simp (disch := omega) only [e42_0, e42_1, e42_4, e42_5, e42_6, e42_7, e42_8, e42_9, e42_13, e42_16, e42_17, e42_18, e42_19, e42_22, e42_25, e42_26, e42_30, e42_31, e42_34, e42_37, e42_38, e42_39, e42_42, e42_44, e42_45, e42_48, e42_49, e42_50, e42_53, e42_55, e42_56, e42_57, e42_60, e42_63, e42_66, e42_69, e42_70, e42_73, e42_74, e42_77, e42_80, e42_81, e42_84, e42_85, ↓reduceIte, ↓gi0, ↓gr0, ↓gl0, ↓gi1, ↓gr1, ↓gl1, ↓gi2, ↓gr2, ↓gl2, ↓gi3, ↓gr3, ↓gl3, ↓gi4, ↓gr4, ↓gl4, ↓gi5, ↓gr5, ↓gl5, ↓gi6, ↓gr6, ↓gl6, ↓gi7, ↓gr7, ↓gl7, ↓gi8, ↓gr8, ↓gl8, ↓gi9, ↓gr9, ↓gl9, ↓qI, ↓qI2, ↓qL, ↓qL2, ↓qR, ↓qV, ↓pd0, ↓ta0, ↓ts0, ↓pd1, ↓ta1, ↓ts1, ↓pd2, ↓ta2, ↓ts2, ↓pd3, ↓ta3, ↓ts3, ↓pd4, ↓ta4, ↓ts4, ↓pd5, ↓ta5, ↓ts5, ↓pd6, ↓ta6, ↓ts6, lGet, lSet, okS, isLg, Bool.not_false, Bool.not_true, Bool.false_eq_true, not_false_eq_true, not_true_eq_false, catS, okR1, okR20, okR21, okR2b, List.length_cons, List.length_nil, List.drop_succ_cons, List.drop_zero, List.drop_nil, and_self, true_and, and_true, false_and, and_false, Nat.reduceAdd, Nat.reduceLeDiff, Nat.zero_add, Nat.le_refl, Nat.zero_le, pushR, reduceCtorEq, or_self, or_false, false_or, true_or, or_true, le0T]
        rfl
      · unfold gainP
        rw [if_neg g]
        exact a2
  obtain ⟨s2, e2, p2, F2⟩ := hgo
  have hok := (gainP_gd (d := dd) hg hdd).ok (by decide) (by omega)
  have hlp := forUp (X := ST) n (fun k x => EvI (EvM (d + 3)) C42 2 28 [.ref 501, .ref P, .int (nI dd), .ref 506, .int (nI k)] [] (mkH scr x))
    (fun k x => FrD s x ∧ PR x 506 (pD t m ws (gainP dd m p) k))
    (fun r => ∃ x, r = some (bI (cvB t m ws n p dd), mkH scr x) ∧ FrD s x) ?_ ?_ (x := s2) ⟨F2, p2⟩
  · obtain ⟨x, e3, e4⟩ := hlp
    refine ⟨x, ?_, e4⟩
    have i504 : ∀ (y : ST) (g : Nat → Rs), (aaldF (mkH scr y) 504 0).bind g = g 506 := fun y g => A504 (i := 0) y g (by omega)
    rw [← e3, ← e2, ev42, e42_0]
    simp (disch := omega) only [e42_0, e42_1, e42_4, e42_5, e42_6, e42_7, e42_8, e42_9, e42_13, e42_16, e42_17, e42_18, e42_19, e42_22, e42_25, e42_26, e42_30, e42_31, e42_34, e42_37, e42_38, e42_39, e42_42, e42_44, e42_45, e42_48, e42_49, e42_50, e42_53, e42_55, e42_56, e42_57, e42_60, e42_63, e42_66, e42_69, e42_70, e42_73, e42_74, e42_77, e42_80, e42_81, e42_84, e42_85, ↓reduceIte, ↓gi0, ↓gr0, ↓gl0, ↓gi1, ↓gr1, ↓gl1, ↓gi2, ↓gr2, ↓gl2, ↓gi3, ↓gr3, ↓gl3, ↓gi4, ↓gr4, ↓gl4, ↓gi5, ↓gr5, ↓gl5, ↓gi6, ↓gr6, ↓gl6, ↓gi7, ↓gr7, ↓gl7, ↓gi8, ↓gr8, ↓gl8, ↓gi9, ↓gr9, ↓gl9, ↓qI, ↓qI2, ↓qL, ↓qL2, ↓qR, ↓qV, ↓pd0, ↓ta0, ↓ts0, ↓pd1, ↓ta1, ↓ts1, ↓pd2, ↓ta2, ↓ts2, ↓pd3, ↓ta3, ↓ts3, ↓pd4, ↓ta4, ↓ts4, ↓pd5, ↓ta5, ↓ts5, ↓pd6, ↓ta6, ↓ts6, lGet, lSet, okS, isLg, Bool.not_false, Bool.not_true, Bool.false_eq_true, not_false_eq_true, not_true_eq_false, catS, okR1, okR20, okR21, okR2b, List.length_cons, List.length_nil, List.drop_succ_cons, List.drop_zero, List.drop_nil, and_self, true_and, and_true, false_and, and_false, Nat.reduceAdd, Nat.reduceLeDiff, Nat.zero_add, Nat.le_refl, Nat.zero_le, pushR, reduceCtorEq, or_self, or_false, false_or, true_or, or_true, K501, ↓G501_0, ↓G501_1, ↓U501_1, ↓G501_2, ↓G501_3, ↓G501_4, ↓G501_5, ↓U501_5, ↓G501_6, ↓U501_6, ↓G501_7, ↓U501_7, ↓i504, per_cl hst, ↓bnd a1]
  · intro k x hk ⟨c1, c2⟩
    obtain ⟨y1, y2, y3, y4⟩ := hD.fr c1
    obtain ⟨y5, y6⟩ := y4 k hk
    have hokk := pD_ok (t := t) (m := m) (ws := ws) hok k
    obtain ⟨x1, b1, b2, b3⟩ := c_commit d (scr := scr) hst c2 hokk (w := ws k) (by omega)
    have G1 : FrD x x1 := FrD.p (i := 0) (by omega) b3
    obtain ⟨x2, d1, d2, d3⟩ := c_endMonth d (scr := scr) hst b2 (pCommit_ok hokk) (mo := nI (m + k)) (tm := nI t)
    have z6 : x1.1 501 6 = nI m := (hD.fr (c1.tr G1)).2.1
    have z7 : x1.1 501 7 = nI t := (hD.fr (c1.tr G1)).2.2.1
    refine ⟨x2, ⟨(c1.tr G1).tr (FrD.p (i := 0) (by omega) d3), d2⟩, ?_⟩
    rw [e42_28]
    simp (disch := omega) only [e42_0, e42_1, e42_4, e42_5, e42_6, e42_7, e42_8, e42_9, e42_13, e42_16, e42_17, e42_18, e42_19, e42_22, e42_25, e42_26, e42_30, e42_31, e42_34, e42_37, e42_38, e42_39, e42_42, e42_44, e42_45, e42_48, e42_49, e42_50, e42_53, e42_55, e42_56, e42_57, e42_60, e42_63, e42_66, e42_69, e42_70, e42_73, e42_74, e42_77, e42_80, e42_81, e42_84, e42_85, ↓reduceIte, ↓gi0, ↓gr0, ↓gl0, ↓gi1, ↓gr1, ↓gl1, ↓gi2, ↓gr2, ↓gl2, ↓gi3, ↓gr3, ↓gl3, ↓gi4, ↓gr4, ↓gl4, ↓gi5, ↓gr5, ↓gl5, ↓gi6, ↓gr6, ↓gl6, ↓gi7, ↓gr7, ↓gl7, ↓gi8, ↓gr8, ↓gl8, ↓gi9, ↓gr9, ↓gl9, ↓qI, ↓qI2, ↓qL, ↓qL2, ↓qR, ↓qV, ↓pd0, ↓ta0, ↓ts0, ↓pd1, ↓ta1, ↓ts1, ↓pd2, ↓ta2, ↓ts2, ↓pd3, ↓ta3, ↓ts3, ↓pd4, ↓ta4, ↓ts4, ↓pd5, ↓ta5, ↓ts5, ↓pd6, ↓ta6, ↓ts6, lGet, lSet, okS, isLg, Bool.not_false, Bool.not_true, Bool.false_eq_true, not_false_eq_true, not_true_eq_false, catS, okR1, okR20, okR21, okR2b, List.length_cons, List.length_nil, List.drop_succ_cons, List.drop_zero, List.drop_nil, and_self, true_and, and_true, false_and, and_false, Nat.reduceAdd, Nat.reduceLeDiff, Nat.zero_add, Nat.le_refl, Nat.zero_le, pushR, reduceCtorEq, or_self, or_false, false_or, true_or, or_true, ltT, ltF, leT, leF, eqF, eqT, lt0F, ge0T, le0T, le0F, eq0T, eq0F, gt0T, gt0F, nI_add, nI_1, pk_mul, subT, sub1, divT, remN, natRem, n2, n3, n4, n5, n6, n7, n8, n9, n10, n12, n16, n22, n23, n24, n40, n48, n57, n60, n97, n99, n100, n119, n120, n238, n357, n999, n9999, n2231, Int32.add_zero, bI_t, bI_f, one_ne, K501, ↓G501_0, ↓G501_1, ↓U501_1, ↓G501_2, ↓G501_3, ↓G501_4, ↓G501_5, ↓U501_5, ↓G501_6, ↓U501_6, ↓G501_7, ↓U501_7, ↓I505, ↓S505, y1, y5, per_cl hst, ↓bnd b1, z6, z7, ↓bnd d1]
  · intro x ⟨c1, c2⟩
    refine ⟨x, ?_, c1⟩
    have y1 := (hD.fr c1).1
    have o1 : x.1 506 5 = nI (pD t m ws (gainP dd m p) n).2.2.2.2.1 := c2.2.2.2.2.1
    have o2 : x.1 P 5 = nI p.2.2.2.2.1 := by rw [c1.2 _ _ (by omega) (by omega) (by omega)]; exact hp.2.2.2.2.1
    have h99 := (pD_ok (t := t) (m := m) (ws := ws) hok n).2.1
    have h98 := hg.2.2.2.2.1
    rw [e42_28]
    unfold cvB
    by_cases g : (pD t m ws (gainP dd m p) n).2.2.2.2.1 ≤ p.2.2.2.2.1
    · rw [decide_eq_true g]
      simp (disch := omega) only [e42_0, e42_1, e42_4, e42_5, e42_6, e42_7, e42_8, e42_9, e42_13, e42_16, e42_17, e42_18, e42_19, e42_22, e42_25, e42_26, e42_30, e42_31, e42_34, e42_37, e42_38, e42_39, e42_42, e42_44, e42_45, e42_48, e42_49, e42_50, e42_53, e42_55, e42_56, e42_57, e42_60, e42_63, e42_66, e42_69, e42_70, e42_73, e42_74, e42_77, e42_80, e42_81, e42_84, e42_85, ↓reduceIte, ↓gi0, ↓gr0, ↓gl0, ↓gi1, ↓gr1, ↓gl1, ↓gi2, ↓gr2, ↓gl2, ↓gi3, ↓gr3, ↓gl3, ↓gi4, ↓gr4, ↓gl4, ↓gi5, ↓gr5, ↓gl5, ↓gi6, ↓gr6, ↓gl6, ↓gi7, ↓gr7, ↓gl7, ↓gi8, ↓gr8, ↓gl8, ↓gi9, ↓gr9, ↓gl9, ↓qI, ↓qI2, ↓qL, ↓qL2, ↓qR, ↓qV, ↓pd0, ↓ta0, ↓ts0, ↓pd1, ↓ta1, ↓ts1, ↓pd2, ↓ta2, ↓ts2, ↓pd3, ↓ta3, ↓ts3, ↓pd4, ↓ta4, ↓ts4, ↓pd5, ↓ta5, ↓ts5, ↓pd6, ↓ta6, ↓ts6, lGet, lSet, okS, isLg, Bool.not_false, Bool.not_true, Bool.false_eq_true, not_false_eq_true, not_true_eq_false, catS, okR1, okR20, okR21, okR2b, List.length_cons, List.length_nil, List.drop_succ_cons, List.drop_zero, List.drop_nil, and_self, true_and, and_true, false_and, and_false, Nat.reduceAdd, Nat.reduceLeDiff, Nat.zero_add, Nat.le_refl, Nat.zero_le, pushR, reduceCtorEq, or_self, or_false, false_or, true_or, or_true, ltT, ltF, leT, leF, eqF, eqT, lt0F, ge0T, le0T, le0F, eq0T, eq0F, gt0T, gt0F, nI_add, nI_1, pk_mul, subT, sub1, divT, remN, natRem, n2, n3, n4, n5, n6, n7, n8, n9, n10, n12, n16, n22, n23, n24, n40, n48, n57, n60, n97, n99, n100, n119, n120, n238, n357, n999, n9999, n2231, Int32.add_zero, bI_t, bI_f, one_ne, K501, ↓G501_0, ↓G501_1, ↓U501_1, ↓G501_2, ↓G501_3, ↓G501_4, ↓G501_5, ↓U501_5, ↓G501_6, ↓U501_6, ↓G501_7, ↓U501_7, y1, ↓per_gb hst 5 (by decide), ↓per_gb hP 5 (by decide), o1, o2]
    · rw [decide_eq_false g]
      simp (disch := omega) only [e42_0, e42_1, e42_4, e42_5, e42_6, e42_7, e42_8, e42_9, e42_13, e42_16, e42_17, e42_18, e42_19, e42_22, e42_25, e42_26, e42_30, e42_31, e42_34, e42_37, e42_38, e42_39, e42_42, e42_44, e42_45, e42_48, e42_49, e42_50, e42_53, e42_55, e42_56, e42_57, e42_60, e42_63, e42_66, e42_69, e42_70, e42_73, e42_74, e42_77, e42_80, e42_81, e42_84, e42_85, ↓reduceIte, ↓gi0, ↓gr0, ↓gl0, ↓gi1, ↓gr1, ↓gl1, ↓gi2, ↓gr2, ↓gl2, ↓gi3, ↓gr3, ↓gl3, ↓gi4, ↓gr4, ↓gl4, ↓gi5, ↓gr5, ↓gl5, ↓gi6, ↓gr6, ↓gl6, ↓gi7, ↓gr7, ↓gl7, ↓gi8, ↓gr8, ↓gl8, ↓gi9, ↓gr9, ↓gl9, ↓qI, ↓qI2, ↓qL, ↓qL2, ↓qR, ↓qV, ↓pd0, ↓ta0, ↓ts0, ↓pd1, ↓ta1, ↓ts1, ↓pd2, ↓ta2, ↓ts2, ↓pd3, ↓ta3, ↓ts3, ↓pd4, ↓ta4, ↓ts4, ↓pd5, ↓ta5, ↓ts5, ↓pd6, ↓ta6, ↓ts6, lGet, lSet, okS, isLg, Bool.not_false, Bool.not_true, Bool.false_eq_true, not_false_eq_true, not_true_eq_false, catS, okR1, okR20, okR21, okR2b, List.length_cons, List.length_nil, List.drop_succ_cons, List.drop_zero, List.drop_nil, and_self, true_and, and_true, false_and, and_false, Nat.reduceAdd, Nat.reduceLeDiff, Nat.zero_add, Nat.le_refl, Nat.zero_le, pushR, reduceCtorEq, or_self, or_false, false_or, true_or, or_true, ltT, ltF, leT, leF, eqF, eqT, lt0F, ge0T, le0T, le0F, eq0T, eq0F, gt0T, gt0F, nI_add, nI_1, pk_mul, subT, sub1, divT, remN, natRem, n2, n3, n4, n5, n6, n7, n8, n9, n10, n12, n16, n22, n23, n24, n40, n48, n57, n60, n97, n99, n100, n119, n120, n238, n357, n999, n9999, n2231, Int32.add_zero, bI_t, bI_f, one_ne, K501, ↓G501_0, ↓G501_1, ↓U501_1, ↓G501_2, ↓G501_3, ↓G501_4, ↓G501_5, ↓U501_5, ↓G501_6, ↓U501_6, ↓G501_7, ↓U501_7, y1, ↓per_gb hst 5 (by decide), ↓per_gb hP 5 (by decide), o1, o2]
theorem c_least (d : Nat) {P n m t : Nat} {ws : Nat → Nat} {p : PT} (hP : per P) (hP5 : 531 ≤ P) (hp : PR s P p) (hg : pGd 9999 m p) (hm : m ≤ 999) (hD : DS s n m t ws) (hn : n ≤ 12) : ∃ s', EvM (d + 5) 41 [.ref 501, .ref P] (mkH scr s) = some (((lsF (cvB t m ws n p) 1000 0).map nI).getD (-1000000), mkH scr s') ∧ FrD s s' := by
  have hmono : ∀ {a b : Nat}, a ≤ b → cvB t m ws n p a = true → cvB t m ws n p b = true := fun h1 h2 => cv_mono (fun q hq => (hg.2.2.2.2.2.2.2 q hq).1) h1 h2
  have cov : ∀ (x : ST) (dd : Nat), FrD s x → dd ≤ 999 → ∃ x', EvM (d + 4) 42 [.ref 501, .ref P, .int (nI dd)] (mkH scr x) = some (bI (cvB t m ws n p dd), mkH scr x') ∧ FrD s x' := fun x dd hF hdd => by
    obtain ⟨x', b1, b2⟩ := c_covers d (scr := scr) (s := x) (dd := dd) hP hP5 (PR_ext hp (fun a k h1 h2 => hF.2 _ _ (by omega) (by omega) (by omega))) hg hm (hD.fr hF) hn hdd
    exact ⟨x', b1, hF.tr b2⟩
  obtain ⟨s1, a1, a2⟩ := cov s 999 (FrD.rf s) (Nat.le_refl _)
  rw [ev41, e41_0]
  cases g : cvB t m ws n p 999
  · rw [g] at a1
    have e : lsF (cvB t m ws n p) 1000 0 = none := lsF_no 1000 0 (fun j h1 h2 => by
      cases z : cvB t m ws n p j with
      | false => rfl
      | true => rw [hmono (show j ≤ 999 by omega) z] at g; cases g)
    rw [e]
    refine ⟨s1, ?_, a2⟩
    simp (disch := omega) only [e41_0, e41_1, e41_2, e41_5, e41_8, e41_11, e41_13, e41_14, e41_15, e41_16, e41_19, e41_20, e41_21, e41_25, e41_27, e41_30, e41_31, e41_32, e41_35, e41_36, e41_37, e41_38, e41_39, e41_40, e41_42, e41_43, e41_44, e41_46, e41_49, e41_52, e41_54, e41_55, e41_58, e41_60, e41_61, e41_62, e41_63, e41_66, e41_69, e41_70, ↓reduceIte, ↓gi0, ↓gr0, ↓gl0, ↓gi1, ↓gr1, ↓gl1, ↓gi2, ↓gr2, ↓gl2, ↓gi3, ↓gr3, ↓gl3, ↓gi4, ↓gr4, ↓gl4, ↓gi5, ↓gr5, ↓gl5, ↓gi6, ↓gr6, ↓gl6, ↓gi7, ↓gr7, ↓gl7, ↓gi8, ↓gr8, ↓gl8, ↓gi9, ↓gr9, ↓gl9, ↓qI, ↓qI2, ↓qL, ↓qL2, ↓qR, ↓qV, ↓pd0, ↓ta0, ↓ts0, ↓pd1, ↓ta1, ↓ts1, ↓pd2, ↓ta2, ↓ts2, ↓pd3, ↓ta3, ↓ts3, ↓pd4, ↓ta4, ↓ts4, ↓pd5, ↓ta5, ↓ts5, ↓pd6, ↓ta6, ↓ts6, lGet, lSet, okS, isLg, Bool.not_false, Bool.not_true, Bool.false_eq_true, not_false_eq_true, not_true_eq_false, catS, okR1, okR20, okR21, okR2b, List.length_cons, List.length_nil, List.drop_succ_cons, List.drop_zero, List.drop_nil, and_self, true_and, and_true, false_and, and_false, Nat.reduceAdd, Nat.reduceLeDiff, Nat.zero_add, Nat.le_refl, Nat.zero_le, pushR, reduceCtorEq, or_self, or_false, false_or, true_or, or_true, ltT, ltF, leT, leF, eqF, eqT, lt0F, ge0T, le0T, le0F, eq0T, eq0F, gt0T, gt0F, nI_add, nI_1, pk_mul, subT, sub1, divT, remN, natRem, n2, n3, n4, n5, n6, n7, n8, n9, n10, n12, n16, n22, n23, n24, n40, n48, n57, n60, n97, n99, n100, n119, n120, n238, n357, n999, n9999, n2231, Int32.add_zero, bI_t, bI_f, one_ne, K501, ↓G501_0, ↓G501_1, ↓U501_1, ↓G501_2, ↓G501_3, ↓G501_4, ↓G501_5, ↓U501_5, ↓G501_6, ↓U501_6, ↓G501_7, ↓U501_7, ↓bnd a1]
    rfl
  rw [g] at a1
  have hlp : ∀ fu st lo hi (x : ST) (x5 : Value), isLg x5 = false → st + fu = 10 → lo ≤ hi → hi ≤ 999 → hi - lo < 2 ^ fu → cvB t m ws n p hi = true → (∀ j, j < lo → cvB t m ws n p j = false) → FrD s x → ∃ x', EvI (EvM (d + 4)) C41 1 23 [.ref 501, .ref P, .int (nI lo), .int (nI hi), .int (nI st), x5] [] (mkH scr x) = some (((lsF (cvB t m ws n p) 1000 0).map nI).getD (-1000000), mkH scr x') ∧ FrD s x' := by
    intro fu
    induction fu with
    | zero =>
      intro st lo hi x x5 h5 hst hlh hh hw hP1 hP0 hF
      have e1 : lo = hi := by
        have : (2 : Nat) ^ 0 = 1 := rfl
        omega
      subst e1
      rw [lsF_at hP1 1000 0 (Nat.zero_le _) (by omega) (fun j _ hj => hP0 j hj)]
      refine ⟨x, ?_, hF⟩
      have e2 : st = 10 := by omega
      subst e2
      rw [e41_23]
      simp (disch := omega) only [e41_0, e41_1, e41_2, e41_5, e41_8, e41_11, e41_13, e41_14, e41_15, e41_16, e41_19, e41_20, e41_21, e41_25, e41_27, e41_30, e41_31, e41_32, e41_35, e41_36, e41_37, e41_38, e41_39, e41_40, e41_42, e41_43, e41_44, e41_46, e41_49, e41_52, e41_54, e41_55, e41_58, e41_60, e41_61, e41_62, e41_63, e41_66, e41_69, e41_70, ↓reduceIte, ↓gi0, ↓gr0, ↓gl0, ↓gi1, ↓gr1, ↓gl1, ↓gi2, ↓gr2, ↓gl2, ↓gi3, ↓gr3, ↓gl3, ↓gi4, ↓gr4, ↓gl4, ↓gi5, ↓gr5, ↓gl5, ↓gi6, ↓gr6, ↓gl6, ↓gi7, ↓gr7, ↓gl7, ↓gi8, ↓gr8, ↓gl8, ↓gi9, ↓gr9, ↓gl9, ↓qI, ↓qI2, ↓qL, ↓qL2, ↓qR, ↓qV, ↓pd0, ↓ta0, ↓ts0, ↓pd1, ↓ta1, ↓ts1, ↓pd2, ↓ta2, ↓ts2, ↓pd3, ↓ta3, ↓ts3, ↓pd4, ↓ta4, ↓ts4, ↓pd5, ↓ta5, ↓ts5, ↓pd6, ↓ta6, ↓ts6, lGet, lSet, okS, isLg, Bool.not_false, Bool.not_true, Bool.false_eq_true, not_false_eq_true, not_true_eq_false, catS, okR1, okR20, okR21, okR2b, List.length_cons, List.length_nil, List.drop_succ_cons, List.drop_zero, List.drop_nil, and_self, true_and, and_true, false_and, and_false, Nat.reduceAdd, Nat.reduceLeDiff, Nat.zero_add, Nat.le_refl, Nat.zero_le, pushR, reduceCtorEq, or_self, or_false, false_or, true_or, or_true, ltT, ltF, leT, leF, eqF, eqT, lt0F, ge0T, le0T, le0F, eq0T, eq0F, gt0T, gt0F, nI_add, nI_1, pk_mul, subT, sub1, divT, remN, natRem, n2, n3, n4, n5, n6, n7, n8, n9, n10, n12, n16, n22, n23, n24, n40, n48, n57, n60, n97, n99, n100, n119, n120, n238, n357, n999, n9999, n2231, Int32.add_zero, bI_t, bI_f, one_ne, K501, ↓G501_0, ↓G501_1, ↓U501_1, ↓G501_2, ↓G501_3, ↓G501_4, ↓G501_5, ↓U501_5, ↓G501_6, ↓U501_6, ↓G501_7, ↓U501_7, hn]
      rfl
    | succ fu ih =>
      intro st lo hi x x5 h5 hst hlh hh hw hP1 hP0 hF
      have hp2 : (2 : Nat) ^ (fu + 1) = 2 * 2 ^ fu := by rw [Nat.pow_succ]; omega
      by_cases e1 : lo = hi
      · subst e1
        rw [lsF_at hP1 1000 0 (Nat.zero_le _) (by omega) (fun j _ hj => hP0 j hj)]
        refine ⟨x, ?_, hF⟩
        rw [e41_23]
        simp (disch := omega) only [e41_0, e41_1, e41_2, e41_5, e41_8, e41_11, e41_13, e41_14, e41_15, e41_16, e41_19, e41_20, e41_21, e41_25, e41_27, e41_30, e41_31, e41_32, e41_35, e41_36, e41_37, e41_38, e41_39, e41_40, e41_42, e41_43, e41_44, e41_46, e41_49, e41_52, e41_54, e41_55, e41_58, e41_60, e41_61, e41_62, e41_63, e41_66, e41_69, e41_70, ↓reduceIte, ↓gi0, ↓gr0, ↓gl0, ↓gi1, ↓gr1, ↓gl1, ↓gi2, ↓gr2, ↓gl2, ↓gi3, ↓gr3, ↓gl3, ↓gi4, ↓gr4, ↓gl4, ↓gi5, ↓gr5, ↓gl5, ↓gi6, ↓gr6, ↓gl6, ↓gi7, ↓gr7, ↓gl7, ↓gi8, ↓gr8, ↓gl8, ↓gi9, ↓gr9, ↓gl9, ↓qI, ↓qI2, ↓qL, ↓qL2, ↓qR, ↓qV, ↓pd0, ↓ta0, ↓ts0, ↓pd1, ↓ta1, ↓ts1, ↓pd2, ↓ta2, ↓ts2, ↓pd3, ↓ta3, ↓ts3, ↓pd4, ↓ta4, ↓ts4, ↓pd5, ↓ta5, ↓ts5, ↓pd6, ↓ta6, ↓ts6, lGet, lSet, okS, isLg, Bool.not_false, Bool.not_true, Bool.false_eq_true, not_false_eq_true, not_true_eq_false, catS, okR1, okR20, okR21, okR2b, List.length_cons, List.length_nil, List.drop_succ_cons, List.drop_zero, List.drop_nil, and_self, true_and, and_true, false_and, and_false, Nat.reduceAdd, Nat.reduceLeDiff, Nat.zero_add, Nat.le_refl, Nat.zero_le, pushR, reduceCtorEq, or_self, or_false, false_or, true_or, or_true, ltT, ltF, leT, leF, eqF, eqT, lt0F, ge0T, le0T, le0F, eq0T, eq0F, gt0T, gt0F, nI_add, nI_1, pk_mul, subT, sub1, divT, remN, natRem, n2, n3, n4, n5, n6, n7, n8, n9, n10, n12, n16, n22, n23, n24, n40, n48, n57, n60, n97, n99, n100, n119, n120, n238, n357, n999, n9999, n2231, Int32.add_zero, bI_t, bI_f, one_ne, K501, ↓G501_0, ↓G501_1, ↓U501_1, ↓G501_2, ↓G501_3, ↓G501_4, ↓G501_5, ↓U501_5, ↓G501_6, ↓U501_6, ↓G501_7, ↓U501_7, hn]
        rfl
      · have hlt : lo < hi := by omega
        have hmid : (lo + hi) / 2 ≤ 999 := by omega
        obtain ⟨x1, b1, b2⟩ := cov x ((lo + hi) / 2) hF hmid
        cases gm : cvB t m ws n p ((lo + hi) / 2)
        · rw [gm] at b1
          obtain ⟨x2, c1, c2⟩ := ih (st + 1) ((lo + hi) / 2 + 1) hi x1 (.int (nI ((lo + hi) / 2))) rfl (by omega) (by omega) hh (by omega) hP1 (fun j hj => by
            cases z : cvB t m ws n p j with
            | false => rfl
            | true => rw [hmono (show j ≤ (lo + hi) / 2 by omega) z] at gm; cases gm) b2
          refine ⟨x2, ?_, c2⟩
          rw [← c1, e41_23]
          match x5, h5 with
          | .int _, _ => simp (disch := omega) only [e41_0, e41_1, e41_2, e41_5, e41_8, e41_11, e41_13, e41_14, e41_15, e41_16, e41_19, e41_20, e41_21, e41_25, e41_27, e41_30, e41_31, e41_32, e41_35, e41_36, e41_37, e41_38, e41_39, e41_40, e41_42, e41_43, e41_44, e41_46, e41_49, e41_52, e41_54, e41_55, e41_58, e41_60, e41_61, e41_62, e41_63, e41_66, e41_69, e41_70, ↓reduceIte, ↓gi0, ↓gr0, ↓gl0, ↓gi1, ↓gr1, ↓gl1, ↓gi2, ↓gr2, ↓gl2, ↓gi3, ↓gr3, ↓gl3, ↓gi4, ↓gr4, ↓gl4, ↓gi5, ↓gr5, ↓gl5, ↓gi6, ↓gr6, ↓gl6, ↓gi7, ↓gr7, ↓gl7, ↓gi8, ↓gr8, ↓gl8, ↓gi9, ↓gr9, ↓gl9, ↓qI, ↓qI2, ↓qL, ↓qL2, ↓qR, ↓qV, ↓pd0, ↓ta0, ↓ts0, ↓pd1, ↓ta1, ↓ts1, ↓pd2, ↓ta2, ↓ts2, ↓pd3, ↓ta3, ↓ts3, ↓pd4, ↓ta4, ↓ts4, ↓pd5, ↓ta5, ↓ts5, ↓pd6, ↓ta6, ↓ts6, lGet, lSet, okS, isLg, Bool.not_false, Bool.not_true, Bool.false_eq_true, not_false_eq_true, not_true_eq_false, catS, okR1, okR20, okR21, okR2b, List.length_cons, List.length_nil, List.drop_succ_cons, List.drop_zero, List.drop_nil, and_self, true_and, and_true, false_and, and_false, Nat.reduceAdd, Nat.reduceLeDiff, Nat.zero_add, Nat.le_refl, Nat.zero_le, pushR, reduceCtorEq, or_self, or_false, false_or, true_or, or_true, ltT, ltF, leT, leF, eqF, eqT, lt0F, ge0T, le0T, le0F, eq0T, eq0F, gt0T, gt0F, nI_add, nI_1, pk_mul, subT, sub1, divT, remN, natRem, n2, n3, n4, n5, n6, n7, n8, n9, n10, n12, n16, n22, n23, n24, n40, n48, n57, n60, n97, n99, n100, n119, n120, n238, n357, n999, n9999, n2231, Int32.add_zero, bI_t, bI_f, one_ne, K501, ↓G501_0, ↓G501_1, ↓U501_1, ↓G501_2, ↓G501_3, ↓G501_4, ↓G501_5, ↓U501_5, ↓G501_6, ↓U501_6, ↓G501_7, ↓U501_7, ↓bnd b1]
          | .retAddr _, _ => simp (disch := omega) only [e41_0, e41_1, e41_2, e41_5, e41_8, e41_11, e41_13, e41_14, e41_15, e41_16, e41_19, e41_20, e41_21, e41_25, e41_27, e41_30, e41_31, e41_32, e41_35, e41_36, e41_37, e41_38, e41_39, e41_40, e41_42, e41_43, e41_44, e41_46, e41_49, e41_52, e41_54, e41_55, e41_58, e41_60, e41_61, e41_62, e41_63, e41_66, e41_69, e41_70, ↓reduceIte, ↓gi0, ↓gr0, ↓gl0, ↓gi1, ↓gr1, ↓gl1, ↓gi2, ↓gr2, ↓gl2, ↓gi3, ↓gr3, ↓gl3, ↓gi4, ↓gr4, ↓gl4, ↓gi5, ↓gr5, ↓gl5, ↓gi6, ↓gr6, ↓gl6, ↓gi7, ↓gr7, ↓gl7, ↓gi8, ↓gr8, ↓gl8, ↓gi9, ↓gr9, ↓gl9, ↓qI, ↓qI2, ↓qL, ↓qL2, ↓qR, ↓qV, ↓pd0, ↓ta0, ↓ts0, ↓pd1, ↓ta1, ↓ts1, ↓pd2, ↓ta2, ↓ts2, ↓pd3, ↓ta3, ↓ts3, ↓pd4, ↓ta4, ↓ts4, ↓pd5, ↓ta5, ↓ts5, ↓pd6, ↓ta6, ↓ts6, lGet, lSet, okS, isLg, Bool.not_false, Bool.not_true, Bool.false_eq_true, not_false_eq_true, not_true_eq_false, catS, okR1, okR20, okR21, okR2b, List.length_cons, List.length_nil, List.drop_succ_cons, List.drop_zero, List.drop_nil, and_self, true_and, and_true, false_and, and_false, Nat.reduceAdd, Nat.reduceLeDiff, Nat.zero_add, Nat.le_refl, Nat.zero_le, pushR, reduceCtorEq, or_self, or_false, false_or, true_or, or_true, ltT, ltF, leT, leF, eqF, eqT, lt0F, ge0T, le0T, le0F, eq0T, eq0F, gt0T, gt0F, nI_add, nI_1, pk_mul, subT, sub1, divT, remN, natRem, n2, n3, n4, n5, n6, n7, n8, n9, n10, n12, n16, n22, n23, n24, n40, n48, n57, n60, n97, n99, n100, n119, n120, n238, n357, n999, n9999, n2231, Int32.add_zero, bI_t, bI_f, one_ne, K501, ↓G501_0, ↓G501_1, ↓U501_1, ↓G501_2, ↓G501_3, ↓G501_4, ↓G501_5, ↓U501_5, ↓G501_6, ↓U501_6, ↓G501_7, ↓U501_7, ↓bnd b1]
          | .ref _, _ => simp (disch := omega) only [e41_0, e41_1, e41_2, e41_5, e41_8, e41_11, e41_13, e41_14, e41_15, e41_16, e41_19, e41_20, e41_21, e41_25, e41_27, e41_30, e41_31, e41_32, e41_35, e41_36, e41_37, e41_38, e41_39, e41_40, e41_42, e41_43, e41_44, e41_46, e41_49, e41_52, e41_54, e41_55, e41_58, e41_60, e41_61, e41_62, e41_63, e41_66, e41_69, e41_70, ↓reduceIte, ↓gi0, ↓gr0, ↓gl0, ↓gi1, ↓gr1, ↓gl1, ↓gi2, ↓gr2, ↓gl2, ↓gi3, ↓gr3, ↓gl3, ↓gi4, ↓gr4, ↓gl4, ↓gi5, ↓gr5, ↓gl5, ↓gi6, ↓gr6, ↓gl6, ↓gi7, ↓gr7, ↓gl7, ↓gi8, ↓gr8, ↓gl8, ↓gi9, ↓gr9, ↓gl9, ↓qI, ↓qI2, ↓qL, ↓qL2, ↓qR, ↓qV, ↓pd0, ↓ta0, ↓ts0, ↓pd1, ↓ta1, ↓ts1, ↓pd2, ↓ta2, ↓ts2, ↓pd3, ↓ta3, ↓ts3, ↓pd4, ↓ta4, ↓ts4, ↓pd5, ↓ta5, ↓ts5, ↓pd6, ↓ta6, ↓ts6, lGet, lSet, okS, isLg, Bool.not_false, Bool.not_true, Bool.false_eq_true, not_false_eq_true, not_true_eq_false, catS, okR1, okR20, okR21, okR2b, List.length_cons, List.length_nil, List.drop_succ_cons, List.drop_zero, List.drop_nil, and_self, true_and, and_true, false_and, and_false, Nat.reduceAdd, Nat.reduceLeDiff, Nat.zero_add, Nat.le_refl, Nat.zero_le, pushR, reduceCtorEq, or_self, or_false, false_or, true_or, or_true, ltT, ltF, leT, leF, eqF, eqT, lt0F, ge0T, le0T, le0F, eq0T, eq0F, gt0T, gt0F, nI_add, nI_1, pk_mul, subT, sub1, divT, remN, natRem, n2, n3, n4, n5, n6, n7, n8, n9, n10, n12, n16, n22, n23, n24, n40, n48, n57, n60, n97, n99, n100, n119, n120, n238, n357, n999, n9999, n2231, Int32.add_zero, bI_t, bI_f, one_ne, K501, ↓G501_0, ↓G501_1, ↓U501_1, ↓G501_2, ↓G501_3, ↓G501_4, ↓G501_5, ↓U501_5, ↓G501_6, ↓U501_6, ↓G501_7, ↓U501_7, ↓bnd b1]
          | .float _, _ => simp (disch := omega) only [e41_0, e41_1, e41_2, e41_5, e41_8, e41_11, e41_13, e41_14, e41_15, e41_16, e41_19, e41_20, e41_21, e41_25, e41_27, e41_30, e41_31, e41_32, e41_35, e41_36, e41_37, e41_38, e41_39, e41_40, e41_42, e41_43, e41_44, e41_46, e41_49, e41_52, e41_54, e41_55, e41_58, e41_60, e41_61, e41_62, e41_63, e41_66, e41_69, e41_70, ↓reduceIte, ↓gi0, ↓gr0, ↓gl0, ↓gi1, ↓gr1, ↓gl1, ↓gi2, ↓gr2, ↓gl2, ↓gi3, ↓gr3, ↓gl3, ↓gi4, ↓gr4, ↓gl4, ↓gi5, ↓gr5, ↓gl5, ↓gi6, ↓gr6, ↓gl6, ↓gi7, ↓gr7, ↓gl7, ↓gi8, ↓gr8, ↓gl8, ↓gi9, ↓gr9, ↓gl9, ↓qI, ↓qI2, ↓qL, ↓qL2, ↓qR, ↓qV, ↓pd0, ↓ta0, ↓ts0, ↓pd1, ↓ta1, ↓ts1, ↓pd2, ↓ta2, ↓ts2, ↓pd3, ↓ta3, ↓ts3, ↓pd4, ↓ta4, ↓ts4, ↓pd5, ↓ta5, ↓ts5, ↓pd6, ↓ta6, ↓ts6, lGet, lSet, okS, isLg, Bool.not_false, Bool.not_true, Bool.false_eq_true, not_false_eq_true, not_true_eq_false, catS, okR1, okR20, okR21, okR2b, List.length_cons, List.length_nil, List.drop_succ_cons, List.drop_zero, List.drop_nil, and_self, true_and, and_true, false_and, and_false, Nat.reduceAdd, Nat.reduceLeDiff, Nat.zero_add, Nat.le_refl, Nat.zero_le, pushR, reduceCtorEq, or_self, or_false, false_or, true_or, or_true, ltT, ltF, leT, leF, eqF, eqT, lt0F, ge0T, le0T, le0F, eq0T, eq0F, gt0T, gt0F, nI_add, nI_1, pk_mul, subT, sub1, divT, remN, natRem, n2, n3, n4, n5, n6, n7, n8, n9, n10, n12, n16, n22, n23, n24, n40, n48, n57, n60, n97, n99, n100, n119, n120, n238, n357, n999, n9999, n2231, Int32.add_zero, bI_t, bI_f, one_ne, K501, ↓G501_0, ↓G501_1, ↓U501_1, ↓G501_2, ↓G501_3, ↓G501_4, ↓G501_5, ↓U501_5, ↓G501_6, ↓U501_6, ↓G501_7, ↓U501_7, ↓bnd b1]
          | .null, _ => simp (disch := omega) only [e41_0, e41_1, e41_2, e41_5, e41_8, e41_11, e41_13, e41_14, e41_15, e41_16, e41_19, e41_20, e41_21, e41_25, e41_27, e41_30, e41_31, e41_32, e41_35, e41_36, e41_37, e41_38, e41_39, e41_40, e41_42, e41_43, e41_44, e41_46, e41_49, e41_52, e41_54, e41_55, e41_58, e41_60, e41_61, e41_62, e41_63, e41_66, e41_69, e41_70, ↓reduceIte, ↓gi0, ↓gr0, ↓gl0, ↓gi1, ↓gr1, ↓gl1, ↓gi2, ↓gr2, ↓gl2, ↓gi3, ↓gr3, ↓gl3, ↓gi4, ↓gr4, ↓gl4, ↓gi5, ↓gr5, ↓gl5, ↓gi6, ↓gr6, ↓gl6, ↓gi7, ↓gr7, ↓gl7, ↓gi8, ↓gr8, ↓gl8, ↓gi9, ↓gr9, ↓gl9, ↓qI, ↓qI2, ↓qL, ↓qL2, ↓qR, ↓qV, ↓pd0, ↓ta0, ↓ts0, ↓pd1, ↓ta1, ↓ts1, ↓pd2, ↓ta2, ↓ts2, ↓pd3, ↓ta3, ↓ts3, ↓pd4, ↓ta4, ↓ts4, ↓pd5, ↓ta5, ↓ts5, ↓pd6, ↓ta6, ↓ts6, lGet, lSet, okS, isLg, Bool.not_false, Bool.not_true, Bool.false_eq_true, not_false_eq_true, not_true_eq_false, catS, okR1, okR20, okR21, okR2b, List.length_cons, List.length_nil, List.drop_succ_cons, List.drop_zero, List.drop_nil, and_self, true_and, and_true, false_and, and_false, Nat.reduceAdd, Nat.reduceLeDiff, Nat.zero_add, Nat.le_refl, Nat.zero_le, pushR, reduceCtorEq, or_self, or_false, false_or, true_or, or_true, ltT, ltF, leT, leF, eqF, eqT, lt0F, ge0T, le0T, le0F, eq0T, eq0F, gt0T, gt0F, nI_add, nI_1, pk_mul, subT, sub1, divT, remN, natRem, n2, n3, n4, n5, n6, n7, n8, n9, n10, n12, n16, n22, n23, n24, n40, n48, n57, n60, n97, n99, n100, n119, n120, n238, n357, n999, n9999, n2231, Int32.add_zero, bI_t, bI_f, one_ne, K501, ↓G501_0, ↓G501_1, ↓U501_1, ↓G501_2, ↓G501_3, ↓G501_4, ↓G501_5, ↓U501_5, ↓G501_6, ↓U501_6, ↓G501_7, ↓U501_7, ↓bnd b1]
        · rw [gm] at b1
          obtain ⟨x2, c1, c2⟩ := ih (st + 1) lo ((lo + hi) / 2) x1 (.int (nI ((lo + hi) / 2))) rfl (by omega) (by omega) hmid (by omega) gm hP0 b2
          refine ⟨x2, ?_, c2⟩
          rw [← c1, e41_23]
          match x5, h5 with
          | .int _, _ => simp (disch := omega) only [e41_0, e41_1, e41_2, e41_5, e41_8, e41_11, e41_13, e41_14, e41_15, e41_16, e41_19, e41_20, e41_21, e41_25, e41_27, e41_30, e41_31, e41_32, e41_35, e41_36, e41_37, e41_38, e41_39, e41_40, e41_42, e41_43, e41_44, e41_46, e41_49, e41_52, e41_54, e41_55, e41_58, e41_60, e41_61, e41_62, e41_63, e41_66, e41_69, e41_70, ↓reduceIte, ↓gi0, ↓gr0, ↓gl0, ↓gi1, ↓gr1, ↓gl1, ↓gi2, ↓gr2, ↓gl2, ↓gi3, ↓gr3, ↓gl3, ↓gi4, ↓gr4, ↓gl4, ↓gi5, ↓gr5, ↓gl5, ↓gi6, ↓gr6, ↓gl6, ↓gi7, ↓gr7, ↓gl7, ↓gi8, ↓gr8, ↓gl8, ↓gi9, ↓gr9, ↓gl9, ↓qI, ↓qI2, ↓qL, ↓qL2, ↓qR, ↓qV, ↓pd0, ↓ta0, ↓ts0, ↓pd1, ↓ta1, ↓ts1, ↓pd2, ↓ta2, ↓ts2, ↓pd3, ↓ta3, ↓ts3, ↓pd4, ↓ta4, ↓ts4, ↓pd5, ↓ta5, ↓ts5, ↓pd6, ↓ta6, ↓ts6, lGet, lSet, okS, isLg, Bool.not_false, Bool.not_true, Bool.false_eq_true, not_false_eq_true, not_true_eq_false, catS, okR1, okR20, okR21, okR2b, List.length_cons, List.length_nil, List.drop_succ_cons, List.drop_zero, List.drop_nil, and_self, true_and, and_true, false_and, and_false, Nat.reduceAdd, Nat.reduceLeDiff, Nat.zero_add, Nat.le_refl, Nat.zero_le, pushR, reduceCtorEq, or_self, or_false, false_or, true_or, or_true, ltT, ltF, leT, leF, eqF, eqT, lt0F, ge0T, le0T, le0F, eq0T, eq0F, gt0T, gt0F, nI_add, nI_1, pk_mul, subT, sub1, divT, remN, natRem, n2, n3, n4, n5, n6, n7, n8, n9, n10, n12, n16, n22, n23, n24, n40, n48, n57, n60, n97, n99, n100, n119, n120, n238, n357, n999, n9999, n2231, Int32.add_zero, bI_t, bI_f, one_ne, K501, ↓G501_0, ↓G501_1, ↓U501_1, ↓G501_2, ↓G501_3, ↓G501_4, ↓G501_5, ↓U501_5, ↓G501_6, ↓U501_6, ↓G501_7, ↓U501_7, ↓bnd b1]
          | .retAddr _, _ => simp (disch := omega) only [e41_0, e41_1, e41_2, e41_5, e41_8, e41_11, e41_13, e41_14, e41_15, e41_16, e41_19, e41_20, e41_21, e41_25, e41_27, e41_30, e41_31, e41_32, e41_35, e41_36, e41_37, e41_38, e41_39, e41_40, e41_42, e41_43, e41_44, e41_46, e41_49, e41_52, e41_54, e41_55, e41_58, e41_60, e41_61, e41_62, e41_63, e41_66, e41_69, e41_70, ↓reduceIte, ↓gi0, ↓gr0, ↓gl0, ↓gi1, ↓gr1, ↓gl1, ↓gi2, ↓gr2, ↓gl2, ↓gi3, ↓gr3, ↓gl3, ↓gi4, ↓gr4, ↓gl4, ↓gi5, ↓gr5, ↓gl5, ↓gi6, ↓gr6, ↓gl6, ↓gi7, ↓gr7, ↓gl7, ↓gi8, ↓gr8, ↓gl8, ↓gi9, ↓gr9, ↓gl9, ↓qI, ↓qI2, ↓qL, ↓qL2, ↓qR, ↓qV, ↓pd0, ↓ta0, ↓ts0, ↓pd1, ↓ta1, ↓ts1, ↓pd2, ↓ta2, ↓ts2, ↓pd3, ↓ta3, ↓ts3, ↓pd4, ↓ta4, ↓ts4, ↓pd5, ↓ta5, ↓ts5, ↓pd6, ↓ta6, ↓ts6, lGet, lSet, okS, isLg, Bool.not_false, Bool.not_true, Bool.false_eq_true, not_false_eq_true, not_true_eq_false, catS, okR1, okR20, okR21, okR2b, List.length_cons, List.length_nil, List.drop_succ_cons, List.drop_zero, List.drop_nil, and_self, true_and, and_true, false_and, and_false, Nat.reduceAdd, Nat.reduceLeDiff, Nat.zero_add, Nat.le_refl, Nat.zero_le, pushR, reduceCtorEq, or_self, or_false, false_or, true_or, or_true, ltT, ltF, leT, leF, eqF, eqT, lt0F, ge0T, le0T, le0F, eq0T, eq0F, gt0T, gt0F, nI_add, nI_1, pk_mul, subT, sub1, divT, remN, natRem, n2, n3, n4, n5, n6, n7, n8, n9, n10, n12, n16, n22, n23, n24, n40, n48, n57, n60, n97, n99, n100, n119, n120, n238, n357, n999, n9999, n2231, Int32.add_zero, bI_t, bI_f, one_ne, K501, ↓G501_0, ↓G501_1, ↓U501_1, ↓G501_2, ↓G501_3, ↓G501_4, ↓G501_5, ↓U501_5, ↓G501_6, ↓U501_6, ↓G501_7, ↓U501_7, ↓bnd b1]
          | .ref _, _ => simp (disch := omega) only [e41_0, e41_1, e41_2, e41_5, e41_8, e41_11, e41_13, e41_14, e41_15, e41_16, e41_19, e41_20, e41_21, e41_25, e41_27, e41_30, e41_31, e41_32, e41_35, e41_36, e41_37, e41_38, e41_39, e41_40, e41_42, e41_43, e41_44, e41_46, e41_49, e41_52, e41_54, e41_55, e41_58, e41_60, e41_61, e41_62, e41_63, e41_66, e41_69, e41_70, ↓reduceIte, ↓gi0, ↓gr0, ↓gl0, ↓gi1, ↓gr1, ↓gl1, ↓gi2, ↓gr2, ↓gl2, ↓gi3, ↓gr3, ↓gl3, ↓gi4, ↓gr4, ↓gl4, ↓gi5, ↓gr5, ↓gl5, ↓gi6, ↓gr6, ↓gl6, ↓gi7, ↓gr7, ↓gl7, ↓gi8, ↓gr8, ↓gl8, ↓gi9, ↓gr9, ↓gl9, ↓qI, ↓qI2, ↓qL, ↓qL2, ↓qR, ↓qV, ↓pd0, ↓ta0, ↓ts0, ↓pd1, ↓ta1, ↓ts1, ↓pd2, ↓ta2, ↓ts2, ↓pd3, ↓ta3, ↓ts3, ↓pd4, ↓ta4, ↓ts4, ↓pd5, ↓ta5, ↓ts5, ↓pd6, ↓ta6, ↓ts6, lGet, lSet, okS, isLg, Bool.not_false, Bool.not_true, Bool.false_eq_true, not_false_eq_true, not_true_eq_false, catS, okR1, okR20, okR21, okR2b, List.length_cons, List.length_nil, List.drop_succ_cons, List.drop_zero, List.drop_nil, and_self, true_and, and_true, false_and, and_false, Nat.reduceAdd, Nat.reduceLeDiff, Nat.zero_add, Nat.le_refl, Nat.zero_le, pushR, reduceCtorEq, or_self, or_false, false_or, true_or, or_true, ltT, ltF, leT, leF, eqF, eqT, lt0F, ge0T, le0T, le0F, eq0T, eq0F, gt0T, gt0F, nI_add, nI_1, pk_mul, subT, sub1, divT, remN, natRem, n2, n3, n4, n5, n6, n7, n8, n9, n10, n12, n16, n22, n23, n24, n40, n48, n57, n60, n97, n99, n100, n119, n120, n238, n357, n999, n9999, n2231, Int32.add_zero, bI_t, bI_f, one_ne, K501, ↓G501_0, ↓G501_1, ↓U501_1, ↓G501_2, ↓G501_3, ↓G501_4, ↓G501_5, ↓U501_5, ↓G501_6, ↓U501_6, ↓G501_7, ↓U501_7, ↓bnd b1]
          | .float _, _ => simp (disch := omega) only [e41_0, e41_1, e41_2, e41_5, e41_8, e41_11, e41_13, e41_14, e41_15, e41_16, e41_19, e41_20, e41_21, e41_25, e41_27, e41_30, e41_31, e41_32, e41_35, e41_36, e41_37, e41_38, e41_39, e41_40, e41_42, e41_43, e41_44, e41_46, e41_49, e41_52, e41_54, e41_55, e41_58, e41_60, e41_61, e41_62, e41_63, e41_66, e41_69, e41_70, ↓reduceIte, ↓gi0, ↓gr0, ↓gl0, ↓gi1, ↓gr1, ↓gl1, ↓gi2, ↓gr2, ↓gl2, ↓gi3, ↓gr3, ↓gl3, ↓gi4, ↓gr4, ↓gl4, ↓gi5, ↓gr5, ↓gl5, ↓gi6, ↓gr6, ↓gl6, ↓gi7, ↓gr7, ↓gl7, ↓gi8, ↓gr8, ↓gl8, ↓gi9, ↓gr9, ↓gl9, ↓qI, ↓qI2, ↓qL, ↓qL2, ↓qR, ↓qV, ↓pd0, ↓ta0, ↓ts0, ↓pd1, ↓ta1, ↓ts1, ↓pd2, ↓ta2, ↓ts2, ↓pd3, ↓ta3, ↓ts3, ↓pd4, ↓ta4, ↓ts4, ↓pd5, ↓ta5, ↓ts5, ↓pd6, ↓ta6, ↓ts6, lGet, lSet, okS, isLg, Bool.not_false, Bool.not_true, Bool.false_eq_true, not_false_eq_true, not_true_eq_false, catS, okR1, okR20, okR21, okR2b, List.length_cons, List.length_nil, List.drop_succ_cons, List.drop_zero, List.drop_nil, and_self, true_and, and_true, false_and, and_false, Nat.reduceAdd, Nat.reduceLeDiff, Nat.zero_add, Nat.le_refl, Nat.zero_le, pushR, reduceCtorEq, or_self, or_false, false_or, true_or, or_true, ltT, ltF, leT, leF, eqF, eqT, lt0F, ge0T, le0T, le0F, eq0T, eq0F, gt0T, gt0F, nI_add, nI_1, pk_mul, subT, sub1, divT, remN, natRem, n2, n3, n4, n5, n6, n7, n8, n9, n10, n12, n16, n22, n23, n24, n40, n48, n57, n60, n97, n99, n100, n119, n120, n238, n357, n999, n9999, n2231, Int32.add_zero, bI_t, bI_f, one_ne, K501, ↓G501_0, ↓G501_1, ↓U501_1, ↓G501_2, ↓G501_3, ↓G501_4, ↓G501_5, ↓U501_5, ↓G501_6, ↓U501_6, ↓G501_7, ↓U501_7, ↓bnd b1]
          | .null, _ => simp (disch := omega) only [e41_0, e41_1, e41_2, e41_5, e41_8, e41_11, e41_13, e41_14, e41_15, e41_16, e41_19, e41_20, e41_21, e41_25, e41_27, e41_30, e41_31, e41_32, e41_35, e41_36, e41_37, e41_38, e41_39, e41_40, e41_42, e41_43, e41_44, e41_46, e41_49, e41_52, e41_54, e41_55, e41_58, e41_60, e41_61, e41_62, e41_63, e41_66, e41_69, e41_70, ↓reduceIte, ↓gi0, ↓gr0, ↓gl0, ↓gi1, ↓gr1, ↓gl1, ↓gi2, ↓gr2, ↓gl2, ↓gi3, ↓gr3, ↓gl3, ↓gi4, ↓gr4, ↓gl4, ↓gi5, ↓gr5, ↓gl5, ↓gi6, ↓gr6, ↓gl6, ↓gi7, ↓gr7, ↓gl7, ↓gi8, ↓gr8, ↓gl8, ↓gi9, ↓gr9, ↓gl9, ↓qI, ↓qI2, ↓qL, ↓qL2, ↓qR, ↓qV, ↓pd0, ↓ta0, ↓ts0, ↓pd1, ↓ta1, ↓ts1, ↓pd2, ↓ta2, ↓ts2, ↓pd3, ↓ta3, ↓ts3, ↓pd4, ↓ta4, ↓ts4, ↓pd5, ↓ta5, ↓ts5, ↓pd6, ↓ta6, ↓ts6, lGet, lSet, okS, isLg, Bool.not_false, Bool.not_true, Bool.false_eq_true, not_false_eq_true, not_true_eq_false, catS, okR1, okR20, okR21, okR2b, List.length_cons, List.length_nil, List.drop_succ_cons, List.drop_zero, List.drop_nil, and_self, true_and, and_true, false_and, and_false, Nat.reduceAdd, Nat.reduceLeDiff, Nat.zero_add, Nat.le_refl, Nat.zero_le, pushR, reduceCtorEq, or_self, or_false, false_or, true_or, or_true, ltT, ltF, leT, leF, eqF, eqT, lt0F, ge0T, le0T, le0F, eq0T, eq0F, gt0T, gt0F, nI_add, nI_1, pk_mul, subT, sub1, divT, remN, natRem, n2, n3, n4, n5, n6, n7, n8, n9, n10, n12, n16, n22, n23, n24, n40, n48, n57, n60, n97, n99, n100, n119, n120, n238, n357, n999, n9999, n2231, Int32.add_zero, bI_t, bI_f, one_ne, K501, ↓G501_0, ↓G501_1, ↓U501_1, ↓G501_2, ↓G501_3, ↓G501_4, ↓G501_5, ↓U501_5, ↓G501_6, ↓U501_6, ↓G501_7, ↓U501_7, ↓bnd b1]
  obtain ⟨x, e1, e2⟩ := hlp 10 0 0 999 s1 jk rfl rfl (by omega) (Nat.le_refl _) (by decide) g (fun j hj => absurd hj (Nat.not_lt_zero j)) a2
  refine ⟨x, ?_, e2⟩
  rw [← e1]
  simp (disch := omega) only [e41_0, e41_1, e41_2, e41_5, e41_8, e41_11, e41_13, e41_14, e41_15, e41_16, e41_19, e41_20, e41_21, e41_25, e41_27, e41_30, e41_31, e41_32, e41_35, e41_36, e41_37, e41_38, e41_39, e41_40, e41_42, e41_43, e41_44, e41_46, e41_49, e41_52, e41_54, e41_55, e41_58, e41_60, e41_61, e41_62, e41_63, e41_66, e41_69, e41_70, ↓reduceIte, ↓gi0, ↓gr0, ↓gl0, ↓gi1, ↓gr1, ↓gl1, ↓gi2, ↓gr2, ↓gl2, ↓gi3, ↓gr3, ↓gl3, ↓gi4, ↓gr4, ↓gl4, ↓gi5, ↓gr5, ↓gl5, ↓gi6, ↓gr6, ↓gl6, ↓gi7, ↓gr7, ↓gl7, ↓gi8, ↓gr8, ↓gl8, ↓gi9, ↓gr9, ↓gl9, ↓qI, ↓qI2, ↓qL, ↓qL2, ↓qR, ↓qV, ↓pd0, ↓ta0, ↓ts0, ↓pd1, ↓ta1, ↓ts1, ↓pd2, ↓ta2, ↓ts2, ↓pd3, ↓ta3, ↓ts3, ↓pd4, ↓ta4, ↓ts4, ↓pd5, ↓ta5, ↓ts5, ↓pd6, ↓ta6, ↓ts6, lGet, lSet, okS, isLg, Bool.not_false, Bool.not_true, Bool.false_eq_true, not_false_eq_true, not_true_eq_false, catS, okR1, okR20, okR21, okR2b, List.length_cons, List.length_nil, List.drop_succ_cons, List.drop_zero, List.drop_nil, and_self, true_and, and_true, false_and, and_false, Nat.reduceAdd, Nat.reduceLeDiff, Nat.zero_add, Nat.le_refl, Nat.zero_le, pushR, reduceCtorEq, or_self, or_false, false_or, true_or, or_true, ltT, ltF, leT, leF, eqF, eqT, lt0F, ge0T, le0T, le0F, eq0T, eq0F, gt0T, gt0F, nI_add, nI_1, pk_mul, subT, sub1, divT, remN, natRem, n2, n3, n4, n5, n6, n7, n8, n9, n10, n12, n16, n22, n23, n24, n40, n48, n57, n60, n97, n99, n100, n119, n120, n238, n357, n999, n9999, n2231, Int32.add_zero, bI_t, bI_f, one_ne, K501, ↓G501_0, ↓G501_1, ↓U501_1, ↓G501_2, ↓G501_3, ↓G501_4, ↓G501_5, ↓U501_5, ↓G501_6, ↓U501_6, ↓G501_7, ↓U501_7, ↓bnd a1]
  rfl
theorem cc_ref (d : Nat) {j k : Nat} {i n x : Int32} {s1 : ST} (w1 : EvM (d + 6) 123 [.ref 2, .int (nI j)] (mkH scr s) = some (1, mkH scr s)) (w2 : EvM (d + 6) 122 [.int (nI k)] (mkH scr s) = some (1, mkH scr s)) (w3 : EvM (d + 6) 121 [.int n, .int 1, .int (nI 12)] (mkH scr s) = some (1, mkH scr s)) (a1 : EvM (d + 6) 126 [.ref 2, .int (nI k), .int i, .int n, .int 1, .int (nI 999)] (mkH scr s) = some (x, mkH scr s1)) (gx : ¬ x = 0) : EvM (d + 7) 106 [.ref 2, .int (nI j), .int (nI k), .int i, .int n] (mkH scr s) = some (x, mkH scr s1) := by
  rw [ev106, e106_0]
  simp (disch := omega) only [e106_0, e106_1, e106_2, e106_5, e106_8, e106_9, e106_12, e106_15, e106_17, e106_18, e106_20, e106_23, e106_26, e106_28, e106_29, e106_30, e106_31, e106_32, e106_34, e106_35, e106_38, e106_41, e106_43, e106_45, e106_48, e106_50, e106_51, e106_52, e106_55, e106_56, e106_59, e106_60, e106_63, e106_65, e106_68, e106_69, e106_70, e106_73, e106_74, e106_77, e106_80, e106_81, e106_82, e106_85, e106_88, ↓reduceIte, ↓gi0, ↓gr0, ↓gl0, ↓gi1, ↓gr1, ↓gl1, ↓gi2, ↓gr2, ↓gl2, ↓gi3, ↓gr3, ↓gl3, ↓gi4, ↓gr4, ↓gl4, ↓gi5, ↓gr5, ↓gl5, ↓gi6, ↓gr6, ↓gl6, ↓gi7, ↓gr7, ↓gl7, ↓gi8, ↓gr8, ↓gl8, ↓gi9, ↓gr9, ↓gl9, ↓qI, ↓qI2, ↓qL, ↓qL2, ↓qR, ↓qV, ↓pd0, ↓ta0, ↓ts0, ↓pd1, ↓ta1, ↓ts1, ↓pd2, ↓ta2, ↓ts2, ↓pd3, ↓ta3, ↓ts3, ↓pd4, ↓ta4, ↓ts4, ↓pd5, ↓ta5, ↓ts5, ↓pd6, ↓ta6, ↓ts6, lGet, lSet, okS, isLg, Bool.not_false, Bool.not_true, Bool.false_eq_true, not_false_eq_true, not_true_eq_false, catS, okR1, okR20, okR21, okR2b, List.length_cons, List.length_nil, List.drop_succ_cons, List.drop_zero, List.drop_nil, and_self, true_and, and_true, false_and, and_false, Nat.reduceAdd, Nat.reduceLeDiff, Nat.zero_add, Nat.le_refl, Nat.zero_le, pushR, reduceCtorEq, or_self, or_false, false_or, true_or, or_true, n12, n999, K2, ↓G2_0, ↓G2_1, ↓G2_2, ↓G2_3, ↓G2_4, ↓G2_5, ↓G2_6, ↓G2_7, ↓G2_8, ↓G2_9, ↓G2_10, ↓G2_11, ↓G2_12, ↓U2_12, ↓G2_13, ↓U2_13, ↓U2_11, ↓nw_a, ↓nw_l, kN, k531, ↓nw_g 0 (by decide), ↓nw_g 1 (by decide), ↓nw_g 2 (by decide), ↓nw_g 3 (by decide), one_ne, ↓bnd w1, ↓bnd w2, ↓bnd w3, ↓bnd a1, gx]
theorem cs_cover (d : Nat) {A : AS} (hI : InvC s A) (hG : Gd A) (p r i n : Int32) : ∃ s', EvM (d + 7) 106 [.ref 2, .int p, .int r, .int i, .int n] (mkH scr s) = some ((oCover p r i n A).1, mkH scr s') ∧ InvC s' (oCover p r i n A).2 ∧ FrHi s s' := by
  obtain ⟨rw_, tp, fl, st, hs, ⟨t, w, m, N, f⟩, im, pa, tr⟩ := A
  have hC : CR s 531 (t, w, m, N, f) := hI.2.2.2.2.2.1
  have hN : s.1 531 3 = nI N := hC.2.2.2.1
  have h6 : N ≤ 6 := hC.2.2.2.2.1
  have hcg : cyGd 9999 (t, w, m, N, f) := hG.2.1.1
  have hm : m ≤ 999 := hG.2.1.2.2
  have hok : cyOk (t, w, m, N, f) := hcg.ok (by decide) (by show m < 2 ^ 20; omega)
  have hr : RWc s rw_ := hI.1
  have ho : rwOk rw_ := hG.1
  have w1 := c_isPerson (d + 4) (scr := scr) p hN h6
  have w2 := c_isRow (d + 4) (h := mkH scr s) r
  have w3 : EvM (d + 6) 121 [.int n, .int 1, .int (nI 12)] (mkH scr s) = some (bI (inR n 1 12), mkH scr s) := c_withinN (d + 5) n 1 12
  cases g1 : inB p N
  · rw [g1] at w1
    refine ⟨s, ?_, ?_, FrHi.rf s⟩ <;> simp only [oCover, nPe, g1, Bool.false_eq_true, false_and, if_false, bad]
    · rw [ev106, e106_0]
      simp (disch := omega) only [e106_0, e106_1, e106_2, e106_5, e106_8, e106_9, e106_12, e106_15, e106_17, e106_18, e106_20, e106_23, e106_26, e106_28, e106_29, e106_30, e106_31, e106_32, e106_34, e106_35, e106_38, e106_41, e106_43, e106_45, e106_48, e106_50, e106_51, e106_52, e106_55, e106_56, e106_59, e106_60, e106_63, e106_65, e106_68, e106_69, e106_70, e106_73, e106_74, e106_77, e106_80, e106_81, e106_82, e106_85, e106_88, ↓reduceIte, ↓gi0, ↓gr0, ↓gl0, ↓gi1, ↓gr1, ↓gl1, ↓gi2, ↓gr2, ↓gl2, ↓gi3, ↓gr3, ↓gl3, ↓gi4, ↓gr4, ↓gl4, ↓gi5, ↓gr5, ↓gl5, ↓gi6, ↓gr6, ↓gl6, ↓gi7, ↓gr7, ↓gl7, ↓gi8, ↓gr8, ↓gl8, ↓gi9, ↓gr9, ↓gl9, ↓qI, ↓qI2, ↓qL, ↓qL2, ↓qR, ↓qV, ↓pd0, ↓ta0, ↓ts0, ↓pd1, ↓ta1, ↓ts1, ↓pd2, ↓ta2, ↓ts2, ↓pd3, ↓ta3, ↓ts3, ↓pd4, ↓ta4, ↓ts4, ↓pd5, ↓ta5, ↓ts5, ↓pd6, ↓ta6, ↓ts6, lGet, lSet, okS, isLg, Bool.not_false, Bool.not_true, Bool.false_eq_true, not_false_eq_true, not_true_eq_false, catS, okR1, okR20, okR21, okR2b, List.length_cons, List.length_nil, List.drop_succ_cons, List.drop_zero, List.drop_nil, and_self, true_and, and_true, false_and, and_false, Nat.reduceAdd, Nat.reduceLeDiff, Nat.zero_add, Nat.le_refl, Nat.zero_le, pushR, reduceCtorEq, or_self, or_false, false_or, true_or, or_true, ltT, ltF, leT, leF, eqF, eqT, lt0F, ge0T, le0T, le0F, eq0T, eq0F, gt0T, gt0F, nI_add, nI_1, pk_mul, subT, sub1, divT, remN, natRem, n2, n3, n4, n5, n6, n7, n8, n9, n10, n12, n16, n22, n23, n24, n40, n48, n57, n60, n97, n99, n100, n119, n120, n238, n357, n999, n9999, n2231, Int32.add_zero, bI_t, bI_f, one_ne, K2, ↓G2_0, ↓G2_1, ↓G2_2, ↓G2_3, ↓G2_4, ↓G2_5, ↓G2_6, ↓G2_7, ↓G2_8, ↓G2_9, ↓G2_10, ↓G2_11, ↓G2_12, ↓U2_12, ↓G2_13, ↓U2_13, ↓U2_11, ↓nw_a, ↓nw_l, kN, k531, ↓nw_g 0 (by decide), ↓nw_g 1 (by decide), ↓nw_g 2 (by decide), ↓nw_g 3 (by decide), ↓bnd w1]
    · exact hI
  rw [g1] at w1
  cases g2 : inB r 8
  · rw [g2] at w2
    refine ⟨s, ?_, ?_, FrHi.rf s⟩ <;> simp only [oCover, nPe, g1, g2, Bool.false_eq_true, false_and, and_false, if_false, bad]
    · rw [ev106, e106_0]
      simp (disch := omega) only [e106_0, e106_1, e106_2, e106_5, e106_8, e106_9, e106_12, e106_15, e106_17, e106_18, e106_20, e106_23, e106_26, e106_28, e106_29, e106_30, e106_31, e106_32, e106_34, e106_35, e106_38, e106_41, e106_43, e106_45, e106_48, e106_50, e106_51, e106_52, e106_55, e106_56, e106_59, e106_60, e106_63, e106_65, e106_68, e106_69, e106_70, e106_73, e106_74, e106_77, e106_80, e106_81, e106_82, e106_85, e106_88, ↓reduceIte, ↓gi0, ↓gr0, ↓gl0, ↓gi1, ↓gr1, ↓gl1, ↓gi2, ↓gr2, ↓gl2, ↓gi3, ↓gr3, ↓gl3, ↓gi4, ↓gr4, ↓gl4, ↓gi5, ↓gr5, ↓gl5, ↓gi6, ↓gr6, ↓gl6, ↓gi7, ↓gr7, ↓gl7, ↓gi8, ↓gr8, ↓gl8, ↓gi9, ↓gr9, ↓gl9, ↓qI, ↓qI2, ↓qL, ↓qL2, ↓qR, ↓qV, ↓pd0, ↓ta0, ↓ts0, ↓pd1, ↓ta1, ↓ts1, ↓pd2, ↓ta2, ↓ts2, ↓pd3, ↓ta3, ↓ts3, ↓pd4, ↓ta4, ↓ts4, ↓pd5, ↓ta5, ↓ts5, ↓pd6, ↓ta6, ↓ts6, lGet, lSet, okS, isLg, Bool.not_false, Bool.not_true, Bool.false_eq_true, not_false_eq_true, not_true_eq_false, catS, okR1, okR20, okR21, okR2b, List.length_cons, List.length_nil, List.drop_succ_cons, List.drop_zero, List.drop_nil, and_self, true_and, and_true, false_and, and_false, Nat.reduceAdd, Nat.reduceLeDiff, Nat.zero_add, Nat.le_refl, Nat.zero_le, pushR, reduceCtorEq, or_self, or_false, false_or, true_or, or_true, ltT, ltF, leT, leF, eqF, eqT, lt0F, ge0T, le0T, le0F, eq0T, eq0F, gt0T, gt0F, nI_add, nI_1, pk_mul, subT, sub1, divT, remN, natRem, n2, n3, n4, n5, n6, n7, n8, n9, n10, n12, n16, n22, n23, n24, n40, n48, n57, n60, n97, n99, n100, n119, n120, n238, n357, n999, n9999, n2231, Int32.add_zero, bI_t, bI_f, one_ne, K2, ↓G2_0, ↓G2_1, ↓G2_2, ↓G2_3, ↓G2_4, ↓G2_5, ↓G2_6, ↓G2_7, ↓G2_8, ↓G2_9, ↓G2_10, ↓G2_11, ↓G2_12, ↓U2_12, ↓G2_13, ↓U2_13, ↓U2_11, ↓nw_a, ↓nw_l, kN, k531, ↓nw_g 0 (by decide), ↓nw_g 1 (by decide), ↓nw_g 2 (by decide), ↓nw_g 3 (by decide), ↓bnd w1, ↓bnd w2]
    · exact hI
  rw [g2] at w2
  cases g3 : inR n 1 12
  · rw [g3] at w3
    refine ⟨s, ?_, ?_, FrHi.rf s⟩ <;> simp only [oCover, nPe, g1, g2, g3, Bool.false_eq_true, and_false, if_false, bad]
    · rw [ev106, e106_0]
      simp (disch := omega) only [e106_0, e106_1, e106_2, e106_5, e106_8, e106_9, e106_12, e106_15, e106_17, e106_18, e106_20, e106_23, e106_26, e106_28, e106_29, e106_30, e106_31, e106_32, e106_34, e106_35, e106_38, e106_41, e106_43, e106_45, e106_48, e106_50, e106_51, e106_52, e106_55, e106_56, e106_59, e106_60, e106_63, e106_65, e106_68, e106_69, e106_70, e106_73, e106_74, e106_77, e106_80, e106_81, e106_82, e106_85, e106_88, ↓reduceIte, ↓gi0, ↓gr0, ↓gl0, ↓gi1, ↓gr1, ↓gl1, ↓gi2, ↓gr2, ↓gl2, ↓gi3, ↓gr3, ↓gl3, ↓gi4, ↓gr4, ↓gl4, ↓gi5, ↓gr5, ↓gl5, ↓gi6, ↓gr6, ↓gl6, ↓gi7, ↓gr7, ↓gl7, ↓gi8, ↓gr8, ↓gl8, ↓gi9, ↓gr9, ↓gl9, ↓qI, ↓qI2, ↓qL, ↓qL2, ↓qR, ↓qV, ↓pd0, ↓ta0, ↓ts0, ↓pd1, ↓ta1, ↓ts1, ↓pd2, ↓ta2, ↓ts2, ↓pd3, ↓ta3, ↓ts3, ↓pd4, ↓ta4, ↓ts4, ↓pd5, ↓ta5, ↓ts5, ↓pd6, ↓ta6, ↓ts6, lGet, lSet, okS, isLg, Bool.not_false, Bool.not_true, Bool.false_eq_true, not_false_eq_true, not_true_eq_false, catS, okR1, okR20, okR21, okR2b, List.length_cons, List.length_nil, List.drop_succ_cons, List.drop_zero, List.drop_nil, and_self, true_and, and_true, false_and, and_false, Nat.reduceAdd, Nat.reduceLeDiff, Nat.zero_add, Nat.le_refl, Nat.zero_le, pushR, reduceCtorEq, or_self, or_false, false_or, true_or, or_true, ltT, ltF, leT, leF, eqF, eqT, lt0F, ge0T, le0T, le0F, eq0T, eq0F, gt0T, gt0F, nI_add, nI_1, pk_mul, subT, sub1, divT, remN, natRem, n2, n3, n4, n5, n6, n7, n8, n9, n10, n12, n16, n22, n23, n24, n40, n48, n57, n60, n97, n99, n100, n119, n120, n238, n357, n999, n9999, n2231, Int32.add_zero, bI_t, bI_f, one_ne, K2, ↓G2_0, ↓G2_1, ↓G2_2, ↓G2_3, ↓G2_4, ↓G2_5, ↓G2_6, ↓G2_7, ↓G2_8, ↓G2_9, ↓G2_10, ↓G2_11, ↓G2_12, ↓U2_12, ↓G2_13, ↓U2_13, ↓U2_11, ↓nw_a, ↓nw_l, kN, k531, ↓nw_g 0 (by decide), ↓nw_g 1 (by decide), ↓nw_g 2 (by decide), ↓nw_g 3 (by decide), ↓bnd w1, ↓bnd w2, ↓bnd w3]
    · exact hI
  rw [g3] at w3
  obtain ⟨j, hj, rfl⟩ := inB_of (by omega) g1
  obtain ⟨k, hk, rfl⟩ := inB_of (by omega) g2
  obtain ⟨b, hb1, hb2, rfl⟩ := inR_of (by decide) (by decide) g3
  have ej : (nI j).toNatClampNeg = j := nI_clamp (by omega)
  have ek : (nI k).toNatClampNeg = k := nI_clamp (by omega)
  have eb : (nI b).toNatClampNeg = b := nI_clamp (by omega)
  have hj6 : j < 6 := by omega
  by_cases g4 : fndC (rw_.1 k) (rw_.2.1 k) i (nI b) = 0
  case neg =>
    have key := cc_ref d w1 w2 w3 (c_toldF (d + 3) (scr := scr) hr ho hk i (nI b) 1 (nI 999) g4) fnd_ne
    have eo : oCover (nI j) (nI k) i (nI b) (rw_, tp, fl, st, hs, (t, w, m, N, f), im, pa, tr) = fnd (fndC (rw_.1 k) (rw_.2.1 k) i (nI b)) (rw_, tp, fl, st, hs, (t, w, m, N, f), im, pa, tr) := by simp only [oCover, oTold, nPe, g1, g2, g3, ek, g4, cl, and_self, if_true, if_false]
    rw [eo, fnd_1, fnd_2]
    exact ⟨_, key, hI.stt, (FrHi.rf s).st⟩
  have z4 := (ho k hk).2
  obtain ⟨a, b', hab, rfl, hb⟩ := spanB_of (by omega) (fndC_0 g4).2
  have ebN : b' = b := ((nI_eq (by omega) (by omega)).mp hb).symm
  subst ebN
  have ea : (nI a).toNatClampNeg = a := nI_clamp (by omega)
  obtain ⟨s1, a1, a2, a3, a4⟩ := c_told (d + 3) (scr := scr) hr ho (k := k) (a := a) (n := b') (lo := 1) (hi := 999) hk g4 (by omega)
  have a1' : EvM (d + 6) 126 [.ref 2, .int (nI k), .int (nI a), .int (nI b'), .int 1, .int (nI 999)] (mkH scr s) = _ := a1
  have eo : oCover (nI j) (nI k) (nI a) (nI b') (rw_, tp, fl, st, hs, (t, w, m, N, f), im, pa, tr) = if allIn (itm rw_ k a) 1 999 b' = true then fin (((lsF (cvB t m (wts (itm rw_ k a)) b' (f j)) 1000 0).map nI).getD (-1000000)) (rw_, tp, fl, st, hs, (t, w, m, N, f), im, pa, tr) else bad (rw_, tp, fl, st, hs, (t, w, m, N, f), im, pa, tr) := by simp only [oCover, oTold, nPe, pOf, ctyOf, g1, g2, g3, ej, ek, ea, eb, g4, cl, and_self, if_true]
  rw [eo]
  cases g5 : allIn (itm rw_ k a) 1 999 b'
  · rw [g5] at a1'
    simp only [Bool.false_eq_true, if_false] at a1'
    have key := cc_ref d w1 w2 w3 a1' (by decide)
    exact ⟨s1, key, hI.ext (KpC.t6 a3), FrHi.t6 a3⟩
  rw [g5] at a1'
  simp only [if_true] at a1' ⊢
  have hC1 : CR s1 531 (t, w, m, N, f) := CR_ext hC (fun a k x y => a3 _ _ (by omega))
  obtain ⟨s2, b1, b2, b3, b4, b5, b6⟩ := c_dbegin (d + 5) (scr := scr) (n := b') hC1 hb2
  have hC2 : CR s2 531 (t, w, m, N, f) := CR_ext hC1 (fun a k x y => b2 _ _ (by omega) (by omega))
  have hw := wts_ok g5
  have hD : DS s2 b' m t (wts (itm rw_ k a)) := ⟨b3, b4, b5, fun q hq => by rw [b6 q hq, a4 q hq]; exact hw q hq⟩
  obtain ⟨s3, c1, c2⟩ := c_least (d + 1) (scr := scr) (perN hj6) (by omega) (hC2.pr hj) (hcg.2.2.2.2.2 j hj) hm hD hb2
  generalize ((lsF (cvB t m (wts (itm rw_ k a)) b' (f j)) 1000 0).map nI).getD (-1000000) = xx at *
  have k4 := c_fine (d + 5) (scr := scr) (s := s3) xx
  have kp : KpC s s3 := (KpC.t6 a3).tr (fun a k x y z w v => by rw [c2.2 _ _ (by omega) (by omega) (by omega), b2 _ _ (by omega) (by omega)])
  refine ⟨u2 s3 2 13 0, ?_, (hI.ext kp).stt, FrHi.st (fun a k x => by rw [c2.2 _ _ (by omega) (by omega) (by omega), b2 _ _ (by omega) (by omega), a3 _ _ (by omega)])⟩
  rw [ev106, e106_0]
  simp (disch := omega) only [e106_0, e106_1, e106_2, e106_5, e106_8, e106_9, e106_12, e106_15, e106_17, e106_18, e106_20, e106_23, e106_26, e106_28, e106_29, e106_30, e106_31, e106_32, e106_34, e106_35, e106_38, e106_41, e106_43, e106_45, e106_48, e106_50, e106_51, e106_52, e106_55, e106_56, e106_59, e106_60, e106_63, e106_65, e106_68, e106_69, e106_70, e106_73, e106_74, e106_77, e106_80, e106_81, e106_82, e106_85, e106_88, ↓reduceIte, ↓gi0, ↓gr0, ↓gl0, ↓gi1, ↓gr1, ↓gl1, ↓gi2, ↓gr2, ↓gl2, ↓gi3, ↓gr3, ↓gl3, ↓gi4, ↓gr4, ↓gl4, ↓gi5, ↓gr5, ↓gl5, ↓gi6, ↓gr6, ↓gl6, ↓gi7, ↓gr7, ↓gl7, ↓gi8, ↓gr8, ↓gl8, ↓gi9, ↓gr9, ↓gl9, ↓qI, ↓qI2, ↓qL, ↓qL2, ↓qR, ↓qV, ↓pd0, ↓ta0, ↓ts0, ↓pd1, ↓ta1, ↓ts1, ↓pd2, ↓ta2, ↓ts2, ↓pd3, ↓ta3, ↓ts3, ↓pd4, ↓ta4, ↓ts4, ↓pd5, ↓ta5, ↓ts5, ↓pd6, ↓ta6, ↓ts6, lGet, lSet, okS, isLg, Bool.not_false, Bool.not_true, Bool.false_eq_true, not_false_eq_true, not_true_eq_false, catS, okR1, okR20, okR21, okR2b, List.length_cons, List.length_nil, List.drop_succ_cons, List.drop_zero, List.drop_nil, and_self, true_and, and_true, false_and, and_false, Nat.reduceAdd, Nat.reduceLeDiff, Nat.zero_add, Nat.le_refl, Nat.zero_le, pushR, reduceCtorEq, or_self, or_false, false_or, true_or, or_true, n12, n999, K2, ↓G2_0, ↓G2_1, ↓G2_2, ↓G2_3, ↓G2_4, ↓G2_5, ↓G2_6, ↓G2_7, ↓G2_8, ↓G2_9, ↓G2_10, ↓G2_11, ↓G2_12, ↓U2_12, ↓G2_13, ↓U2_13, ↓U2_11, K501, ↓G501_0, ↓G501_1, ↓U501_1, ↓G501_2, ↓G501_3, ↓G501_4, ↓G501_5, ↓U501_5, ↓G501_6, ↓U501_6, ↓G501_7, ↓U501_7, ↓nw_a, ↓nw_l, kN, k531, ↓nw_g 0 (by decide), ↓nw_g 1 (by decide), ↓nw_g 2 (by decide), ↓nw_g 3 (by decide), bI_t, one_ne, ↓bnd w1, ↓bnd w2, ↓bnd w3, ↓bnd a1', ↓bnd b1, ↓bnd c1, ↓bnd k4, fin]
/-! the reference's -/
theorem MV.cg {s : ST} {b t w m N : Nat} {f g : Nat → PT} (h : MV s b (t, w, m, N, f)) (e : ∀ i, i < N → f i = g i) : MV s b (t, w, m, N, g) := ⟨h.1, fun i hi => by
  have := h.2 i hi
  simp only at this ⊢
  rw [← e i hi]
  exact this⟩
/-- told deeds of one in the scratch part: the county behind k of them -/
def cK (c : CY) (j : Nat) (ws : Nat → Nat) (p1 : PT) (k : Nat) : CY := (c.1, c.2.1, c.2.2.1 + k, c.2.2.2.1, fun i => if i = j then pD c.1 c.2.2.1 ws p1 k else pE c.1 c.2.2.1 (c.2.2.2.2 i) k)
theorem pE_st (t m : Nat) (p : PT) : ∀ k, (pE t m p k).1 = p.1 ∧ (pE t m p k).2.1 = p.2.1 ∧ (pE t m p k).2.2.1 = p.2.2.1
  | 0 => ⟨rfl, rfl, rfl⟩
  | k + 1 => pE_st t m p k
theorem gainP_st (d m : Nat) (p : PT) : (gainP d m p).1 = p.1 ∧ (gainP d m p).2.1 = p.2.1 ∧ (gainP d m p).2.2.1 = p.2.2.1 := by
  unfold gainP
  split <;> exact ⟨rfl, rfl, rfl⟩
theorem pD_st0 (t m : Nat) (ws : Nat → Nat) (p : PT) : ∀ k, (pD t m ws p k).1 = p.1 ∧ (pD t m ws p k).2.1 = p.2.1 ∧ (pD t m ws p k).2.2.1 = p.2.2.1
  | 0 => ⟨rfl, rfl, rfl⟩
  | k + 1 => pD_st0 t m ws p k
theorem pD_st (t m : Nat) (ws : Nat → Nat) (p : PT) (k : Nat) (q : PT) (h : p.1 = q.1 ∧ p.2.1 = q.2.1 ∧ p.2.2.1 = q.2.2.1) (w : Nat) : (pCommit w (pD t m ws p k)).1 = q.1 ∧ (pCommit w (pD t m ws p k)).2.1 = q.2.1 ∧ (pCommit w (pD t m ws p k)).2.2.1 = q.2.2.1 := by
  obtain ⟨h1, h2, h3⟩ := pD_st0 t m ws p k
  exact ⟨h1.trans h.1, h2.trans h.2.1, h3.trans h.2.2⟩
theorem m_behind (d : Nat) {t w m N n dd j base : Nat} {f : Nat → PT} {ws o : Nat → Nat} (hS : MS s (t, w, m, N, f)) (hV : MV s 0 (t, w, m, N, f)) (hg : cyGd 9999 (t, w, m, N, f)) (hm : m ≤ 999) (hj : j < N) (hn : n ≤ 12) (hdd : dd ≤ 999) (hO : ∀ k, k < n → s.1 623 k = nI (o k) ∧ base + o k < 320 ∧ s.1 620 (base + o k) = nI (ws k) ∧ ws k ≤ 999) : ∃ s', EvM (d + 5) 184 [.ref 614, .int (nI j), .int (nI base), .int (nI n), .int (nI dd)] (mkH scr s) = some (nI (pD t m ws (gainP dd m (f j)) n).2.2.2.2.1, mkH scr s') ∧ FrA s s' 615 357 476 := by
  have h6 : N ≤ 6 := hS.2.2.2.1
  obtain ⟨s1, a1, a2, a3, a4⟩ := m_tried (d + 3) (scr := scr) hS hV
  have hp1 : MP s1 615 (357 + 23 + 16 * j) (f j) := a4.2 j hj
  have hpg : pGd 9999 m (f j) := hg.2.2.2.2.2 j hj
  have hok1 := (gainP_gd (d := dd) hpg hdd).ok (by decide) (by omega)
  have hgo : ∃ s2, EvI (EvM (d + 4)) C184 1 8 [.ref 614, .int (nI j), .int (nI base), .int (nI n), .int (nI dd), jk] [] (mkH scr s1) = EvI (EvM (d + 4)) C184 1 26 [.ref 614, .int (nI j), .int (nI base), .int (nI n), .int (nI dd), .int (nI 0)] [] (mkH scr s2) ∧ FrA s s2 615 357 476 ∧ MV s2 357 (cK (t, w, m, N, f) j ws (gainP dd m (f j)) 0) := by
    by_cases g : 0 < dd
    · obtain ⟨s2, b1, b2, b3⟩ := m_come (d + 2) (scr := scr) (b := 357) (p := j) hp1.2.2.2 (by omega) a4.1 dd
      have hb3 : FrA s1 s2 615 357 476 := b3.w (by omega) (by omega)
      refine ⟨s2, ?_, a2.tr hb3, ?_, fun i hi => ?_⟩
      · rw [e184_8]
        simp (disch := omega) only [e184_0, e184_1, e184_2, e184_5, e184_10, e184_13, e184_14, e184_17, e184_18, e184_20, e184_23, e184_24, e184_28, e184_29, e184_32, e184_33, e184_36, e184_37, e184_38, e184_41, e184_42, e184_43, e184_46, e184_48, e184_49, e184_50, e184_51, e184_54, e184_55, e184_58, e184_61, e184_64, e184_67, e184_68, e184_71, e184_74, e184_75, e184_78, e184_79, e184_80, e184_81, ↓reduceIte, ↓gi0, ↓gr0, ↓gl0, ↓gi1, ↓gr1, ↓gl1, ↓gi2, ↓gr2, ↓gl2, ↓gi3, ↓gr3, ↓gl3, ↓gi4, ↓gr4, ↓gl4, ↓gi5, ↓gr5, ↓gl5, ↓gi6, ↓gr6, ↓gl6, ↓gi7, ↓gr7, ↓gl7, ↓gi8, ↓gr8, ↓gl8, ↓gi9, ↓gr9, ↓gl9, ↓qI, ↓qI2, ↓qL, ↓qL2, ↓qR, ↓qV, ↓pd0, ↓ta0, ↓ts0, ↓pd1, ↓ta1, ↓ts1, ↓pd2, ↓ta2, ↓ts2, ↓pd3, ↓ta3, ↓ts3, ↓pd4, ↓ta4, ↓ts4, ↓pd5, ↓ta5, ↓ts5, ↓pd6, ↓ta6, ↓ts6, lGet, lSet, okS, isLg, Bool.not_false, Bool.not_true, Bool.false_eq_true, not_false_eq_true, not_true_eq_false, catS, okR1, okR20, okR21, okR2b, List.length_cons, List.length_nil, List.drop_succ_cons, List.drop_zero, List.drop_nil, and_self, true_and, and_true, false_and, and_false, Nat.reduceAdd, Nat.reduceLeDiff, Nat.zero_add, Nat.le_refl, Nat.zero_le, pushR, reduceCtorEq, or_self, or_false, false_or, true_or, or_true, n357, le0F, K614, ↓G614_0, ↓G614_1, ↓G614_2, ↓U614_2, ↓G614_3, ↓G614_4, ↓U614_4, ↓G614_5, ↓U614_5, ↓G614_6, ↓U614_6, ↓G614_7, ↓G614_8, ↓G614_9, ↓G614_10, ↓G614_11, ↓U614_11, ↓G614_12, ↓U614_12, ↓G614_13, ↓U614_13, ↓G614_14, ↓U614_14, ↓G614_15, ↓G614_16, ↓U614_16, ↓G614_18, ↓U614_18, ↓G614_19, ↓bnd b1]
        rfl
      · rw [b3.2 _ _ (by omega)]; exact a4.1
      · show MP s2 615 (357 + 23 + 16 * i) (if i = j then gainP dd m (f j) else f i)
        by_cases e : i = j
        · subst e
          rw [if_pos rfl]
          unfold gainP
          rw [if_pos g]
          exact MP.lots (k := (f i).1) (le := (f i).2.1) (w := (f i).2.2.1) (ca := (f i).2.2.2.1) (ow := (f i).2.2.2.2.1) (dn := (f i).2.2.2.2.2.1) hp1 b3 b2
        · rw [if_neg e]
          exact MP.ext2 (a4.2 i hi) (fun c x y => b3.2 _ _ (by omega))
    · refine ⟨s1, ?_, a2, a4.1, fun i hi => ?_⟩
      · rw [e184_8]
        simp (disch := omega) only [e184_0, e184_1, e184_2, e184_5, e184_10, e184_13, e184_14, e184_17, e184_18, e184_20, e184_23, e184_24, e184_28, e184_29, e184_32, e184_33, e184_36, e184_37, e184_38, e184_41, e184_42, e184_43, e184_46, e184_48, e184_49, e184_50, e184_51, e184_54, e184_55, e184_58, e184_61, e184_64, e184_67, e184_68, e184_71, e184_74, e184_75, e184_78, e184_79, e184_80, e184_81, ↓reduceIte, ↓gi0, ↓gr0, ↓gl0, ↓gi1, ↓gr1, ↓gl1, ↓gi2, ↓gr2, ↓gl2, ↓gi3, ↓gr3, ↓gl3, ↓gi4, ↓gr4, ↓gl4, ↓gi5, ↓gr5, ↓gl5, ↓gi6, ↓gr6, ↓gl6, ↓gi7, ↓gr7, ↓gl7, ↓gi8, ↓gr8, ↓gl8, ↓gi9, ↓gr9, ↓gl9, ↓qI, ↓qI2, ↓qL, ↓qL2, ↓qR, ↓qV, ↓pd0, ↓ta0, ↓ts0, ↓pd1, ↓ta1, ↓ts1, ↓pd2, ↓ta2, ↓ts2, ↓pd3, ↓ta3, ↓ts3, ↓pd4, ↓ta4, ↓ts4, ↓pd5, ↓ta5, ↓ts5, ↓pd6, ↓ta6, ↓ts6, lGet, lSet, okS, isLg, Bool.not_false, Bool.not_true, Bool.false_eq_true, not_false_eq_true, not_true_eq_false, catS, okR1, okR20, okR21, okR2b, List.length_cons, List.length_nil, List.drop_succ_cons, List.drop_zero, List.drop_nil, and_self, true_and, and_true, false_and, and_false, Nat.reduceAdd, Nat.reduceLeDiff, Nat.zero_add, Nat.le_refl, Nat.zero_le, pushR, reduceCtorEq, or_self, or_false, false_or, true_or, or_true, le0T]
        rfl
      · show MP s1 615 (357 + 23 + 16 * i) (if i = j then gainP dd m (f j) else f i)
        unfold gainP
        rw [if_neg g]
        by_cases e : i = j
        · subst e; rw [if_pos rfl]; exact hp1
        · rw [if_neg e]; exact a4.2 i hi
  obtain ⟨s2, e2, f2, v2⟩ := hgo
  have hlp := forUp (X := ST) n (fun k x => EvI (EvM (d + 4)) C184 1 26 [.ref 614, .int (nI j), .int (nI base), .int (nI n), .int (nI dd), .int (nI k)] [] (mkH scr x))
    (fun k x => FrA s x 615 357 476 ∧ MV x 357 (cK (t, w, m, N, f) j ws (gainP dd m (f j)) k))
    (fun r => ∃ x, r = some (nI (pD t m ws (gainP dd m (f j)) n).2.2.2.2.1, mkH scr x) ∧ FrA s x 615 357 476) ?_ ?_ (x := s2) ⟨f2, v2⟩
  · obtain ⟨x, e3, e4⟩ := hlp
    refine ⟨x, ?_, e4⟩
    rw [← e3, ← e2, ev184, e184_0]
    simp (disch := omega) only [e184_0, e184_1, e184_2, e184_5, e184_10, e184_13, e184_14, e184_17, e184_18, e184_20, e184_23, e184_24, e184_28, e184_29, e184_32, e184_33, e184_36, e184_37, e184_38, e184_41, e184_42, e184_43, e184_46, e184_48, e184_49, e184_50, e184_51, e184_54, e184_55, e184_58, e184_61, e184_64, e184_67, e184_68, e184_71, e184_74, e184_75, e184_78, e184_79, e184_80, e184_81, ↓reduceIte, ↓gi0, ↓gr0, ↓gl0, ↓gi1, ↓gr1, ↓gl1, ↓gi2, ↓gr2, ↓gl2, ↓gi3, ↓gr3, ↓gl3, ↓gi4, ↓gr4, ↓gl4, ↓gi5, ↓gr5, ↓gl5, ↓gi6, ↓gr6, ↓gl6, ↓gi7, ↓gr7, ↓gl7, ↓gi8, ↓gr8, ↓gl8, ↓gi9, ↓gr9, ↓gl9, ↓qI, ↓qI2, ↓qL, ↓qL2, ↓qR, ↓qV, ↓pd0, ↓ta0, ↓ts0, ↓pd1, ↓ta1, ↓ts1, ↓pd2, ↓ta2, ↓ts2, ↓pd3, ↓ta3, ↓ts3, ↓pd4, ↓ta4, ↓ts4, ↓pd5, ↓ta5, ↓ts5, ↓pd6, ↓ta6, ↓ts6, lGet, lSet, okS, isLg, Bool.not_false, Bool.not_true, Bool.false_eq_true, not_false_eq_true, not_true_eq_false, catS, okR1, okR20, okR21, okR2b, List.length_cons, List.length_nil, List.drop_succ_cons, List.drop_zero, List.drop_nil, and_self, true_and, and_true, false_and, and_false, Nat.reduceAdd, Nat.reduceLeDiff, Nat.zero_add, Nat.le_refl, Nat.zero_le, pushR, reduceCtorEq, or_self, or_false, false_or, true_or, or_true, n357, K614, ↓G614_0, ↓G614_1, ↓G614_2, ↓U614_2, ↓G614_3, ↓G614_4, ↓U614_4, ↓G614_5, ↓U614_5, ↓G614_6, ↓U614_6, ↓G614_7, ↓G614_8, ↓G614_9, ↓G614_10, ↓G614_11, ↓U614_11, ↓G614_12, ↓U614_12, ↓G614_13, ↓U614_13, ↓G614_14, ↓U614_14, ↓G614_15, ↓G614_16, ↓U614_16, ↓G614_18, ↓U614_18, ↓G614_19, ↓bnd a1]
  · intro k x hk ⟨c1, c2⟩
    obtain ⟨o1, o2, o3, o4⟩ := hO k hk
    have o1x : x.1 623 k = nI (o k) := by rw [c1.2 _ _ (by omega)]; exact o1
    have o3x : x.1 620 (base + o k) = nI (ws k) := by rw [c1.2 _ _ (by omega)]; exact o3
    have hSx : MS x (t, w, m, N, f) := hS.ext (fun k hk => c1.2 _ _ (by omega))
    have hkd : x.1 615 (4 + 3 * j) = nI (pD t m ws (gainP dd m (f j)) k).1 := by rw [pD_k, (gainP_k _ _ _).1]; exact (hSx.2.2.2.2 j hj).1
    have hpj : MP x 615 (357 + 23 + 16 * j) (pD t m ws (gainP dd m (f j)) k) := by
      have := c2.2 j hj
      simp only [cK, if_true] at this
      exact this
    have hokk := pD_ok (t := t) (m := m) (ws := ws) hok1 k
    obtain ⟨x1, b1, b2, b3⟩ := m_doDeed d (scr := scr) (b := 357) (p := j) (w := ws k) (by omega) hkd hpj hokk (by omega) (by omega)
    have hstE : stE (t, w, m, N, f) (t, w, m + k, N, fun i => if i = j then pCommit (ws k) (pD t m ws (gainP dd m (f j)) k) else pE t m (f i) k) := ⟨rfl, rfl, rfl, fun i hi => by
      show (if i = j then pCommit (ws k) (pD t m ws (gainP dd m (f j)) k) else pE t m (f i) k).1 = _ ∧ (if i = j then pCommit (ws k) (pD t m ws (gainP dd m (f j)) k) else pE t m (f i) k).2.1 = _ ∧ (if i = j then pCommit (ws k) (pD t m ws (gainP dd m (f j)) k) else pE t m (f i) k).2.2.1 = _
      by_cases e : i = j
      · subst e
        rw [if_pos rfl]
        exact pD_st t m ws (gainP dd m (f i)) k (f i) (gainP_st _ _ _) (ws k)
      · rw [if_neg e]
        exact pE_st t m (f i) k⟩
    have v1 : MV x1 357 (t, w, m + k, N, fun i => if i = j then pCommit (ws k) (pD t m ws (gainP dd m (f j)) k) else pE t m (f i) k) := by
      refine ⟨by rw [b3.2 _ _ (by omega)]; exact c2.1, fun i hi => ?_⟩
      show MP x1 615 (357 + 23 + 16 * i) (if i = j then pCommit (ws k) (pD t m ws (gainP dd m (f j)) k) else pE t m (f i) k)
      by_cases e : i = j
      · subst e; rw [if_pos rfl]; exact b2
      · rw [if_neg e]
        have h0 := c2.2 i hi
        simp only [cK, e, if_false] at h0
        exact MP.ext2 h0 (fun c x y => b3.2 _ _ (by omega))
    have hokc : cyOk (t, w, m + k, N, fun i => if i = j then pCommit (ws k) (pD t m ws (gainP dd m (f j)) k) else pE t m (f i) k) := by
      refine ⟨by have := hg.2.1; simp only at this ⊢; omega, by have := hg.2.2.2.1; simp only at this ⊢; omega, by show m + k < 2 ^ 20; omega, fun i hi => ?_⟩
      show pOk (if i = j then pCommit (ws k) (pD t m ws (gainP dd m (f j)) k) else pE t m (f i) k)
      by_cases e : i = j
      · rw [if_pos e]; exact pCommit_ok hokk
      · rw [if_neg e]; exact pE_ok ((hg.2.2.2.2.2 i hi).ok (by decide) (by show m < 2 ^ 20; omega)) k
    obtain ⟨x2, d1, d2, d3⟩ := m_endMonth (d + 1) (scr := scr) (b := 357) ((hSx.ext (fun k hk => b3.2 _ _ (by omega))).st hstE) v1 hokc (by omega)
    refine ⟨x2, ⟨(c1.tr (b3.w (by omega) (by omega))).tr (d3.w (by omega) (by omega)), ?_⟩, ?_⟩
    · refine MV.cg d2 (fun i hi => ?_)
      show pEnd (nI (m + k)) (nI t) (if i = j then pCommit (ws k) (pD t m ws (gainP dd m (f j)) k) else pE t m (f i) k) = if i = j then pD t m ws (gainP dd m (f j)) (k + 1) else pE t m (f i) (k + 1)
      by_cases e : i = j
      · rw [if_pos e, if_pos e]; rfl
      · rw [if_neg e, if_neg e]; rfl
    · rw [e184_26]
      simp (disch := omega) only [e184_0, e184_1, e184_2, e184_5, e184_10, e184_13, e184_14, e184_17, e184_18, e184_20, e184_23, e184_24, e184_28, e184_29, e184_32, e184_33, e184_36, e184_37, e184_38, e184_41, e184_42, e184_43, e184_46, e184_48, e184_49, e184_50, e184_51, e184_54, e184_55, e184_58, e184_61, e184_64, e184_67, e184_68, e184_71, e184_74, e184_75, e184_78, e184_79, e184_80, e184_81, ↓reduceIte, ↓gi0, ↓gr0, ↓gl0, ↓gi1, ↓gr1, ↓gl1, ↓gi2, ↓gr2, ↓gl2, ↓gi3, ↓gr3, ↓gl3, ↓gi4, ↓gr4, ↓gl4, ↓gi5, ↓gr5, ↓gl5, ↓gi6, ↓gr6, ↓gl6, ↓gi7, ↓gr7, ↓gl7, ↓gi8, ↓gr8, ↓gl8, ↓gi9, ↓gr9, ↓gl9, ↓qI, ↓qI2, ↓qL, ↓qL2, ↓qR, ↓qV, ↓pd0, ↓ta0, ↓ts0, ↓pd1, ↓ta1, ↓ts1, ↓pd2, ↓ta2, ↓ts2, ↓pd3, ↓ta3, ↓ts3, ↓pd4, ↓ta4, ↓ts4, ↓pd5, ↓ta5, ↓ts5, ↓pd6, ↓ta6, ↓ts6, lGet, lSet, okS, isLg, Bool.not_false, Bool.not_true, Bool.false_eq_true, not_false_eq_true, not_true_eq_false, catS, okR1, okR20, okR21, okR2b, List.length_cons, List.length_nil, List.drop_succ_cons, List.drop_zero, List.drop_nil, and_self, true_and, and_true, false_and, and_false, Nat.reduceAdd, Nat.reduceLeDiff, Nat.zero_add, Nat.le_refl, Nat.zero_le, pushR, reduceCtorEq, or_self, or_false, false_or, true_or, or_true, ltT, ltF, leT, leF, eqF, eqT, lt0F, ge0T, le0T, le0F, eq0T, eq0F, gt0T, gt0F, nI_add, nI_1, pk_mul, subT, sub1, divT, remN, natRem, n2, n3, n4, n5, n6, n7, n8, n9, n10, n12, n16, n22, n23, n24, n40, n48, n57, n60, n97, n99, n100, n119, n120, n238, n357, n999, n9999, n2231, Int32.add_zero, bI_t, bI_f, one_ne, K614, ↓G614_0, ↓G614_1, ↓G614_2, ↓U614_2, ↓G614_3, ↓G614_4, ↓U614_4, ↓G614_5, ↓U614_5, ↓G614_6, ↓U614_6, ↓G614_7, ↓G614_8, ↓G614_9, ↓G614_10, ↓G614_11, ↓U614_11, ↓G614_12, ↓U614_12, ↓G614_13, ↓U614_13, ↓G614_14, ↓U614_14, ↓G614_15, ↓G614_16, ↓U614_16, ↓G614_18, ↓U614_18, ↓G614_19, ↓I615, ↓S615, ↓I620, ↓S620, ↓I623, ↓S623, o1x, o3x, ↓bnd b1, ↓bnd d1]
  · intro x ⟨c1, c2⟩
    refine ⟨x, ?_, c1⟩
    have hpj : MP x 615 (357 + 23 + 16 * j) (pD t m ws (gainP dd m (f j)) n) := by
      have := c2.2 j hj
      simp only [cK, if_true] at this
      exact this
    have how : x.1 615 (380 + 16 * j) = _ := hpj.1
    have hat : EvM (d + 4) 153 [.int (nI 357), .int (nI j)] (mkH scr x) = some (nI (380 + 16 * j), mkH scr x) := m_at (d + 3) 357 j
    rw [e184_26]
    simp (disch := omega) only [e184_0, e184_1, e184_2, e184_5, e184_10, e184_13, e184_14, e184_17, e184_18, e184_20, e184_23, e184_24, e184_28, e184_29, e184_32, e184_33, e184_36, e184_37, e184_38, e184_41, e184_42, e184_43, e184_46, e184_48, e184_49, e184_50, e184_51, e184_54, e184_55, e184_58, e184_61, e184_64, e184_67, e184_68, e184_71, e184_74, e184_75, e184_78, e184_79, e184_80, e184_81, ↓reduceIte, ↓gi0, ↓gr0, ↓gl0, ↓gi1, ↓gr1, ↓gl1, ↓gi2, ↓gr2, ↓gl2, ↓gi3, ↓gr3, ↓gl3, ↓gi4, ↓gr4, ↓gl4, ↓gi5, ↓gr5, ↓gl5, ↓gi6, ↓gr6, ↓gl6, ↓gi7, ↓gr7, ↓gl7, ↓gi8, ↓gr8, ↓gl8, ↓gi9, ↓gr9, ↓gl9, ↓qI, ↓qI2, ↓qL, ↓qL2, ↓qR, ↓qV, ↓pd0, ↓ta0, ↓ts0, ↓pd1, ↓ta1, ↓ts1, ↓pd2, ↓ta2, ↓ts2, ↓pd3, ↓ta3, ↓ts3, ↓pd4, ↓ta4, ↓ts4, ↓pd5, ↓ta5, ↓ts5, ↓pd6, ↓ta6, ↓ts6, lGet, lSet, okS, isLg, Bool.not_false, Bool.not_true, Bool.false_eq_true, not_false_eq_true, not_true_eq_false, catS, okR1, okR20, okR21, okR2b, List.length_cons, List.length_nil, List.drop_succ_cons, List.drop_zero, List.drop_nil, and_self, true_and, and_true, false_and, and_false, Nat.reduceAdd, Nat.reduceLeDiff, Nat.zero_add, Nat.le_refl, Nat.zero_le, pushR, reduceCtorEq, or_self, or_false, false_or, true_or, or_true, ltT, ltF, leT, leF, eqF, eqT, lt0F, ge0T, le0T, le0F, eq0T, eq0F, gt0T, gt0F, nI_add, nI_1, pk_mul, subT, sub1, divT, remN, natRem, n2, n3, n4, n5, n6, n7, n8, n9, n10, n12, n16, n22, n23, n24, n40, n48, n57, n60, n97, n99, n100, n119, n120, n238, n357, n999, n9999, n2231, Int32.add_zero, bI_t, bI_f, one_ne, K614, ↓G614_0, ↓G614_1, ↓G614_2, ↓U614_2, ↓G614_3, ↓G614_4, ↓U614_4, ↓G614_5, ↓U614_5, ↓G614_6, ↓U614_6, ↓G614_7, ↓G614_8, ↓G614_9, ↓G614_10, ↓G614_11, ↓U614_11, ↓G614_12, ↓U614_12, ↓G614_13, ↓U614_13, ↓G614_14, ↓U614_14, ↓G614_15, ↓G614_16, ↓U614_16, ↓G614_18, ↓U614_18, ↓G614_19, ↓I615, ↓S615, ↓bnd hat, how]
theorem m_plain (d : Nat) : ∃ s', EvM (d + 1) 185 [.ref 614] (mkH scr s) = some (0, mkH scr s') ∧ FrA s s' 623 0 12 ∧ ∀ k, k < 12 → s'.1 623 k = nI k := by
  have h := forUp (X := ST) 12 (fun j x => EvI (EvM d) C185 0 2 [.ref 614, .int (nI j)] [] (mkH scr x))
    (fun j x => FrA s x 623 0 12 ∧ ∀ i, i < j → x.1 623 i = nI i)
    (fun r => ∃ s', r = some (0, mkH scr s') ∧ FrA s s' 623 0 12 ∧ ∀ i, i < 12 → s'.1 623 i = nI i) ?_ ?_ (x := s) ⟨FrA.rf _ _ _ _, fun i hi => absurd hi (Nat.not_lt_zero i)⟩
  · obtain ⟨s', e1, e2⟩ := h
    refine ⟨s', ?_, e2⟩
    rw [← e1, ev185, e185_0]
    simp (disch := omega) only [e185_0, e185_1, e185_3, e185_5, e185_8, e185_9, e185_12, e185_13, e185_14, e185_15, e185_18, e185_21, ↓reduceIte, ↓gi0, ↓gr0, ↓gl0, ↓gi1, ↓gr1, ↓gl1, ↓gi2, ↓gr2, ↓gl2, ↓gi3, ↓gr3, ↓gl3, ↓gi4, ↓gr4, ↓gl4, ↓gi5, ↓gr5, ↓gl5, ↓gi6, ↓gr6, ↓gl6, ↓gi7, ↓gr7, ↓gl7, ↓gi8, ↓gr8, ↓gl8, ↓gi9, ↓gr9, ↓gl9, ↓qI, ↓qI2, ↓qL, ↓qL2, ↓qR, ↓qV, ↓pd0, ↓ta0, ↓ts0, ↓pd1, ↓ta1, ↓ts1, ↓pd2, ↓ta2, ↓ts2, ↓pd3, ↓ta3, ↓ts3, ↓pd4, ↓ta4, ↓ts4, ↓pd5, ↓ta5, ↓ts5, ↓pd6, ↓ta6, ↓ts6, lGet, lSet, okS, isLg, Bool.not_false, Bool.not_true, Bool.false_eq_true, not_false_eq_true, not_true_eq_false, catS, okR1, okR20, okR21, okR2b, List.length_cons, List.length_nil, List.drop_succ_cons, List.drop_zero, List.drop_nil, and_self, true_and, and_true, false_and, and_false, Nat.reduceAdd, Nat.reduceLeDiff, Nat.zero_add, Nat.le_refl, Nat.zero_le, pushR, reduceCtorEq, or_self, or_false, false_or, true_or, or_true]
    rfl
  · intro j x hj ⟨g1, g2⟩
    refine ⟨u2 x 623 j (nI j), ⟨g1.tr (FrA.u (by omega) (by omega)), fun i hi => ?_⟩, ?_⟩
    · by_cases e : i = j
      · rw [e, u2_same]
      · rw [u2_oth _ _ (by omega), g2 i (by omega)]
    · rw [e185_2]
      simp (disch := omega) only [e185_0, e185_1, e185_3, e185_5, e185_8, e185_9, e185_12, e185_13, e185_14, e185_15, e185_18, e185_21, ↓reduceIte, ↓gi0, ↓gr0, ↓gl0, ↓gi1, ↓gr1, ↓gl1, ↓gi2, ↓gr2, ↓gl2, ↓gi3, ↓gr3, ↓gl3, ↓gi4, ↓gr4, ↓gl4, ↓gi5, ↓gr5, ↓gl5, ↓gi6, ↓gr6, ↓gl6, ↓gi7, ↓gr7, ↓gl7, ↓gi8, ↓gr8, ↓gl8, ↓gi9, ↓gr9, ↓gl9, ↓qI, ↓qI2, ↓qL, ↓qL2, ↓qR, ↓qV, ↓pd0, ↓ta0, ↓ts0, ↓pd1, ↓ta1, ↓ts1, ↓pd2, ↓ta2, ↓ts2, ↓pd3, ↓ta3, ↓ts3, ↓pd4, ↓ta4, ↓ts4, ↓pd5, ↓ta5, ↓ts5, ↓pd6, ↓ta6, ↓ts6, lGet, lSet, okS, isLg, Bool.not_false, Bool.not_true, Bool.false_eq_true, not_false_eq_true, not_true_eq_false, catS, okR1, okR20, okR21, okR2b, List.length_cons, List.length_nil, List.drop_succ_cons, List.drop_zero, List.drop_nil, and_self, true_and, and_true, false_and, and_false, Nat.reduceAdd, Nat.reduceLeDiff, Nat.zero_add, Nat.le_refl, Nat.zero_le, pushR, reduceCtorEq, or_self, or_false, false_or, true_or, or_true, ltT, ltF, leT, leF, eqF, eqT, lt0F, ge0T, le0T, le0F, eq0T, eq0F, gt0T, gt0F, nI_add, nI_1, pk_mul, subT, sub1, divT, remN, natRem, n2, n3, n4, n5, n6, n7, n8, n9, n10, n12, n16, n22, n23, n24, n40, n48, n57, n60, n97, n99, n100, n119, n120, n238, n357, n999, n9999, n2231, Int32.add_zero, bI_t, bI_f, one_ne, K614, ↓G614_0, ↓G614_1, ↓G614_2, ↓U614_2, ↓G614_3, ↓G614_4, ↓U614_4, ↓G614_5, ↓U614_5, ↓G614_6, ↓U614_6, ↓G614_7, ↓G614_8, ↓G614_9, ↓G614_10, ↓G614_11, ↓U614_11, ↓G614_12, ↓U614_12, ↓G614_13, ↓U614_13, ↓G614_14, ↓U614_14, ↓G614_15, ↓G614_16, ↓U614_16, ↓G614_18, ↓U614_18, ↓G614_19, ↓I623, ↓S623, hj]
  · intro x ⟨g1, g2⟩
    refine ⟨x, ?_, g1, g2⟩
    rw [e185_2]
    simp (disch := omega) only [e185_0, e185_1, e185_3, e185_5, e185_8, e185_9, e185_12, e185_13, e185_14, e185_15, e185_18, e185_21, ↓reduceIte, ↓gi0, ↓gr0, ↓gl0, ↓gi1, ↓gr1, ↓gl1, ↓gi2, ↓gr2, ↓gl2, ↓gi3, ↓gr3, ↓gl3, ↓gi4, ↓gr4, ↓gl4, ↓gi5, ↓gr5, ↓gl5, ↓gi6, ↓gr6, ↓gl6, ↓gi7, ↓gr7, ↓gl7, ↓gi8, ↓gr8, ↓gl8, ↓gi9, ↓gr9, ↓gl9, ↓qI, ↓qI2, ↓qL, ↓qL2, ↓qR, ↓qV, ↓pd0, ↓ta0, ↓ts0, ↓pd1, ↓ta1, ↓ts1, ↓pd2, ↓ta2, ↓ts2, ↓pd3, ↓ta3, ↓ts3, ↓pd4, ↓ta4, ↓ts4, ↓pd5, ↓ta5, ↓ts5, ↓pd6, ↓ta6, ↓ts6, lGet, lSet, okS, isLg, Bool.not_false, Bool.not_true, Bool.false_eq_true, not_false_eq_true, not_true_eq_false, catS, okR1, okR20, okR21, okR2b, List.length_cons, List.length_nil, List.drop_succ_cons, List.drop_zero, List.drop_nil, and_self, true_and, and_true, false_and, and_false, Nat.reduceAdd, Nat.reduceLeDiff, Nat.zero_add, Nat.le_refl, Nat.zero_le, pushR, reduceCtorEq, or_self, or_false, false_or, true_or, or_true, ltT, ltF, leT, leF, eqF, eqT, lt0F, ge0T, le0T, le0F, eq0T, eq0F, gt0T, gt0F, nI_add, nI_1, pk_mul, subT, sub1, divT, remN, natRem, n2, n3, n4, n5, n6, n7, n8, n9, n10, n12, n16, n22, n23, n24, n40, n48, n57, n60, n97, n99, n100, n119, n120, n238, n357, n999, n9999, n2231, Int32.add_zero, bI_t, bI_f, one_ne, K614, ↓G614_0, ↓G614_1, ↓G614_2, ↓U614_2, ↓G614_3, ↓G614_4, ↓U614_4, ↓G614_5, ↓U614_5, ↓G614_6, ↓U614_6, ↓G614_7, ↓G614_8, ↓G614_9, ↓G614_10, ↓G614_11, ↓U614_11, ↓G614_12, ↓U614_12, ↓G614_13, ↓U614_13, ↓G614_14, ↓U614_14, ↓G614_15, ↓G614_16, ↓U614_16, ↓G614_18, ↓U614_18, ↓G614_19, ↓I623, ↓S623, g1]
theorem mc_ref (d : Nat) {j k : Nat} {i n x : Int32} {s1 : ST} (w1 : EvM (d + 6) 151 [.ref 614, .int (nI j)] (mkH scr s) = some (1, mkH scr s)) (w2 : EvM (d + 6) 135 [.int (nI k)] (mkH scr s) = some (1, mkH scr s)) (w3 : EvM (d + 6) 131 [.long n.toInt64, .long (Int32.toInt64 1), .long (nI 12).toInt64] (mkH scr s) = some (1, mkH scr s)) (a1 : EvM (d + 6) 183 [.ref 614, .int (nI k), .int i, .int n] (mkH scr s) = some (x, mkH scr s1)) (gx : ¬ x = 0) : EvM (d + 7) 186 [.ref 614, .int (nI j), .int (nI k), .int i, .int n] (mkH scr s) = some (x, mkH scr s1) := by
  rw [ev186, e186_0]
  simp (disch := omega) only [e186_0, e186_1, e186_2, e186_5, e186_8, e186_9, e186_12, e186_15, e186_17, e186_18, e186_19, e186_22, e186_25, e186_28, e186_30, e186_31, e186_32, e186_33, e186_34, e186_36, e186_39, e186_41, e186_43, e186_46, e186_48, e186_49, e186_50, e186_53, e186_54, e186_58, e186_61, e186_64, e186_65, e186_66, e186_68, e186_69, e186_70, e186_71, e186_72, e186_74, e186_76, e186_79, e186_80, e186_83, e186_84, e186_85, e186_88, e186_89, e186_90, e186_91, e186_94, e186_95, e186_97, e186_100, e186_101, e186_104, e186_107, e186_108, e186_110, e186_113, ↓reduceIte, ↓gi0, ↓gr0, ↓gl0, ↓gi1, ↓gr1, ↓gl1, ↓gi2, ↓gr2, ↓gl2, ↓gi3, ↓gr3, ↓gl3, ↓gi4, ↓gr4, ↓gl4, ↓gi5, ↓gr5, ↓gl5, ↓gi6, ↓gr6, ↓gl6, ↓gi7, ↓gr7, ↓gl7, ↓gi8, ↓gr8, ↓gl8, ↓gi9, ↓gr9, ↓gl9, ↓qI, ↓qI2, ↓qL, ↓qL2, ↓qR, ↓qV, ↓pd0, ↓ta0, ↓ts0, ↓pd1, ↓ta1, ↓ts1, ↓pd2, ↓ta2, ↓ts2, ↓pd3, ↓ta3, ↓ts3, ↓pd4, ↓ta4, ↓ts4, ↓pd5, ↓ta5, ↓ts5, ↓pd6, ↓ta6, ↓ts6, lGet, lSet, okS, isLg, Bool.not_false, Bool.not_true, Bool.false_eq_true, not_false_eq_true, not_true_eq_false, catS, okR1, okR20, okR21, okR2b, List.length_cons, List.length_nil, List.drop_succ_cons, List.drop_zero, List.drop_nil, and_self, true_and, and_true, false_and, and_false, Nat.reduceAdd, Nat.reduceLeDiff, Nat.zero_add, Nat.le_refl, Nat.zero_le, pushR, reduceCtorEq, or_self, or_false, false_or, true_or, or_true, n12, K614, ↓G614_0, ↓G614_1, ↓G614_2, ↓U614_2, ↓G614_3, ↓G614_4, ↓U614_4, ↓G614_5, ↓U614_5, ↓G614_6, ↓U614_6, ↓G614_7, ↓G614_8, ↓G614_9, ↓G614_10, ↓G614_11, ↓U614_11, ↓G614_12, ↓U614_12, ↓G614_13, ↓U614_13, ↓G614_14, ↓U614_14, ↓G614_15, ↓G614_16, ↓U614_16, ↓G614_18, ↓U614_18, ↓G614_19, one_ne, ↓bnd w1, ↓bnd w2, ↓bnd w3, ↓bnd a1, gx]
theorem ms_cover (d : Nat) {A : AS} (hI : InvM s A) (hG : Gd A) (p r i n : Int32) : ∃ s', EvM (d + 7) 186 [.ref 614, .int p, .int r, .int i, .int n] (mkH scr s) = some ((oCover p r i n A).1, mkH scr s') ∧ InvM s' (oCover p r i n A).2 ∧ FrLo s s' := by
  obtain ⟨rw_, tp, fl, st, hs, ⟨t, w, m, N, f⟩, im, pa, tr⟩ := A
  obtain ⟨q0, q3, h6, qS, hVV⟩ : CTm s hs (t, w, m, N, f) := hI.2.2.2.2.1
  have q3 : s.1 615 3 = nI N := q3
  have h6 : N ≤ 6 := h6
  have hcg : cyGd 9999 (t, w, m, N, f) := hG.2.1.1
  have hm : m ≤ 999 := hG.2.1.2.2
  have hok : cyOk (t, w, m, N, f) := hcg.ok (by decide) (by show m < 2 ^ 20; omega)
  have hr : RWm s rw_ := hI.1
  have ho : rwOk rw_ := hG.1
  have w1 := m_isOne (d + 4) (scr := scr) p q3 h6
  have w2 := m_isRow (d + 4) (h := mkH scr s) r
  have w3 : EvM (d + 6) 131 [.long n.toInt64, .long (Int32.toInt64 1), .long (nI 12).toInt64] (mkH scr s) = some (bI (inR n 1 12), mkH scr s) := m_inN (d + 5) n 1 12
  cases g1 : inB p N
  · rw [g1] at w1
    refine ⟨s, ?_, ?_, FrLo.rf s⟩ <;> simp only [oCover, nPe, g1, Bool.false_eq_true, false_and, if_false, bad]
    · rw [ev186, e186_0]
      simp (disch := omega) only [e186_0, e186_1, e186_2, e186_5, e186_8, e186_9, e186_12, e186_15, e186_17, e186_18, e186_19, e186_22, e186_25, e186_28, e186_30, e186_31, e186_32, e186_33, e186_34, e186_36, e186_39, e186_41, e186_43, e186_46, e186_48, e186_49, e186_50, e186_53, e186_54, e186_58, e186_61, e186_64, e186_65, e186_66, e186_68, e186_69, e186_70, e186_71, e186_72, e186_74, e186_76, e186_79, e186_80, e186_83, e186_84, e186_85, e186_88, e186_89, e186_90, e186_91, e186_94, e186_95, e186_97, e186_100, e186_101, e186_104, e186_107, e186_108, e186_110, e186_113, ↓reduceIte, ↓gi0, ↓gr0, ↓gl0, ↓gi1, ↓gr1, ↓gl1, ↓gi2, ↓gr2, ↓gl2, ↓gi3, ↓gr3, ↓gl3, ↓gi4, ↓gr4, ↓gl4, ↓gi5, ↓gr5, ↓gl5, ↓gi6, ↓gr6, ↓gl6, ↓gi7, ↓gr7, ↓gl7, ↓gi8, ↓gr8, ↓gl8, ↓gi9, ↓gr9, ↓gl9, ↓qI, ↓qI2, ↓qL, ↓qL2, ↓qR, ↓qV, ↓pd0, ↓ta0, ↓ts0, ↓pd1, ↓ta1, ↓ts1, ↓pd2, ↓ta2, ↓ts2, ↓pd3, ↓ta3, ↓ts3, ↓pd4, ↓ta4, ↓ts4, ↓pd5, ↓ta5, ↓ts5, ↓pd6, ↓ta6, ↓ts6, lGet, lSet, okS, isLg, Bool.not_false, Bool.not_true, Bool.false_eq_true, not_false_eq_true, not_true_eq_false, catS, okR1, okR20, okR21, okR2b, List.length_cons, List.length_nil, List.drop_succ_cons, List.drop_zero, List.drop_nil, and_self, true_and, and_true, false_and, and_false, Nat.reduceAdd, Nat.reduceLeDiff, Nat.zero_add, Nat.le_refl, Nat.zero_le, pushR, reduceCtorEq, or_self, or_false, false_or, true_or, or_true, ltT, ltF, leT, leF, eqF, eqT, lt0F, ge0T, le0T, le0F, eq0T, eq0F, gt0T, gt0F, nI_add, nI_1, pk_mul, subT, sub1, divT, remN, natRem, n2, n3, n4, n5, n6, n7, n8, n9, n10, n12, n16, n22, n23, n24, n40, n48, n57, n60, n97, n99, n100, n119, n120, n238, n357, n999, n9999, n2231, Int32.add_zero, bI_t, bI_f, one_ne, K614, ↓G614_0, ↓G614_1, ↓G614_2, ↓U614_2, ↓G614_3, ↓G614_4, ↓U614_4, ↓G614_5, ↓U614_5, ↓G614_6, ↓U614_6, ↓G614_7, ↓G614_8, ↓G614_9, ↓G614_10, ↓G614_11, ↓U614_11, ↓G614_12, ↓U614_12, ↓G614_13, ↓U614_13, ↓G614_14, ↓U614_14, ↓G614_15, ↓G614_16, ↓U614_16, ↓G614_18, ↓U614_18, ↓G614_19, ↓bnd w1]
    · exact hI
  rw [g1] at w1
  cases g2 : inB r 8
  · rw [g2] at w2
    refine ⟨s, ?_, ?_, FrLo.rf s⟩ <;> simp only [oCover, nPe, g1, g2, Bool.false_eq_true, false_and, and_false, if_false, bad]
    · rw [ev186, e186_0]
      simp (disch := omega) only [e186_0, e186_1, e186_2, e186_5, e186_8, e186_9, e186_12, e186_15, e186_17, e186_18, e186_19, e186_22, e186_25, e186_28, e186_30, e186_31, e186_32, e186_33, e186_34, e186_36, e186_39, e186_41, e186_43, e186_46, e186_48, e186_49, e186_50, e186_53, e186_54, e186_58, e186_61, e186_64, e186_65, e186_66, e186_68, e186_69, e186_70, e186_71, e186_72, e186_74, e186_76, e186_79, e186_80, e186_83, e186_84, e186_85, e186_88, e186_89, e186_90, e186_91, e186_94, e186_95, e186_97, e186_100, e186_101, e186_104, e186_107, e186_108, e186_110, e186_113, ↓reduceIte, ↓gi0, ↓gr0, ↓gl0, ↓gi1, ↓gr1, ↓gl1, ↓gi2, ↓gr2, ↓gl2, ↓gi3, ↓gr3, ↓gl3, ↓gi4, ↓gr4, ↓gl4, ↓gi5, ↓gr5, ↓gl5, ↓gi6, ↓gr6, ↓gl6, ↓gi7, ↓gr7, ↓gl7, ↓gi8, ↓gr8, ↓gl8, ↓gi9, ↓gr9, ↓gl9, ↓qI, ↓qI2, ↓qL, ↓qL2, ↓qR, ↓qV, ↓pd0, ↓ta0, ↓ts0, ↓pd1, ↓ta1, ↓ts1, ↓pd2, ↓ta2, ↓ts2, ↓pd3, ↓ta3, ↓ts3, ↓pd4, ↓ta4, ↓ts4, ↓pd5, ↓ta5, ↓ts5, ↓pd6, ↓ta6, ↓ts6, lGet, lSet, okS, isLg, Bool.not_false, Bool.not_true, Bool.false_eq_true, not_false_eq_true, not_true_eq_false, catS, okR1, okR20, okR21, okR2b, List.length_cons, List.length_nil, List.drop_succ_cons, List.drop_zero, List.drop_nil, and_self, true_and, and_true, false_and, and_false, Nat.reduceAdd, Nat.reduceLeDiff, Nat.zero_add, Nat.le_refl, Nat.zero_le, pushR, reduceCtorEq, or_self, or_false, false_or, true_or, or_true, ltT, ltF, leT, leF, eqF, eqT, lt0F, ge0T, le0T, le0F, eq0T, eq0F, gt0T, gt0F, nI_add, nI_1, pk_mul, subT, sub1, divT, remN, natRem, n2, n3, n4, n5, n6, n7, n8, n9, n10, n12, n16, n22, n23, n24, n40, n48, n57, n60, n97, n99, n100, n119, n120, n238, n357, n999, n9999, n2231, Int32.add_zero, bI_t, bI_f, one_ne, K614, ↓G614_0, ↓G614_1, ↓G614_2, ↓U614_2, ↓G614_3, ↓G614_4, ↓U614_4, ↓G614_5, ↓U614_5, ↓G614_6, ↓U614_6, ↓G614_7, ↓G614_8, ↓G614_9, ↓G614_10, ↓G614_11, ↓U614_11, ↓G614_12, ↓U614_12, ↓G614_13, ↓U614_13, ↓G614_14, ↓U614_14, ↓G614_15, ↓G614_16, ↓U614_16, ↓G614_18, ↓U614_18, ↓G614_19, ↓bnd w1, ↓bnd w2]
    · exact hI
  rw [g2] at w2
  cases g3 : inR n 1 12
  · rw [g3] at w3
    refine ⟨s, ?_, ?_, FrLo.rf s⟩ <;> simp only [oCover, nPe, g1, g2, g3, Bool.false_eq_true, and_false, if_false, bad]
    · rw [ev186, e186_0]
      simp (disch := omega) only [e186_0, e186_1, e186_2, e186_5, e186_8, e186_9, e186_12, e186_15, e186_17, e186_18, e186_19, e186_22, e186_25, e186_28, e186_30, e186_31, e186_32, e186_33, e186_34, e186_36, e186_39, e186_41, e186_43, e186_46, e186_48, e186_49, e186_50, e186_53, e186_54, e186_58, e186_61, e186_64, e186_65, e186_66, e186_68, e186_69, e186_70, e186_71, e186_72, e186_74, e186_76, e186_79, e186_80, e186_83, e186_84, e186_85, e186_88, e186_89, e186_90, e186_91, e186_94, e186_95, e186_97, e186_100, e186_101, e186_104, e186_107, e186_108, e186_110, e186_113, ↓reduceIte, ↓gi0, ↓gr0, ↓gl0, ↓gi1, ↓gr1, ↓gl1, ↓gi2, ↓gr2, ↓gl2, ↓gi3, ↓gr3, ↓gl3, ↓gi4, ↓gr4, ↓gl4, ↓gi5, ↓gr5, ↓gl5, ↓gi6, ↓gr6, ↓gl6, ↓gi7, ↓gr7, ↓gl7, ↓gi8, ↓gr8, ↓gl8, ↓gi9, ↓gr9, ↓gl9, ↓qI, ↓qI2, ↓qL, ↓qL2, ↓qR, ↓qV, ↓pd0, ↓ta0, ↓ts0, ↓pd1, ↓ta1, ↓ts1, ↓pd2, ↓ta2, ↓ts2, ↓pd3, ↓ta3, ↓ts3, ↓pd4, ↓ta4, ↓ts4, ↓pd5, ↓ta5, ↓ts5, ↓pd6, ↓ta6, ↓ts6, lGet, lSet, okS, isLg, Bool.not_false, Bool.not_true, Bool.false_eq_true, not_false_eq_true, not_true_eq_false, catS, okR1, okR20, okR21, okR2b, List.length_cons, List.length_nil, List.drop_succ_cons, List.drop_zero, List.drop_nil, and_self, true_and, and_true, false_and, and_false, Nat.reduceAdd, Nat.reduceLeDiff, Nat.zero_add, Nat.le_refl, Nat.zero_le, pushR, reduceCtorEq, or_self, or_false, false_or, true_or, or_true, ltT, ltF, leT, leF, eqF, eqT, lt0F, ge0T, le0T, le0F, eq0T, eq0F, gt0T, gt0F, nI_add, nI_1, pk_mul, subT, sub1, divT, remN, natRem, n2, n3, n4, n5, n6, n7, n8, n9, n10, n12, n16, n22, n23, n24, n40, n48, n57, n60, n97, n99, n100, n119, n120, n238, n357, n999, n9999, n2231, Int32.add_zero, bI_t, bI_f, one_ne, K614, ↓G614_0, ↓G614_1, ↓G614_2, ↓U614_2, ↓G614_3, ↓G614_4, ↓U614_4, ↓G614_5, ↓U614_5, ↓G614_6, ↓U614_6, ↓G614_7, ↓G614_8, ↓G614_9, ↓G614_10, ↓G614_11, ↓U614_11, ↓G614_12, ↓U614_12, ↓G614_13, ↓U614_13, ↓G614_14, ↓U614_14, ↓G614_15, ↓G614_16, ↓U614_16, ↓G614_18, ↓U614_18, ↓G614_19, ↓bnd w1, ↓bnd w2, ↓bnd w3]
    · exact hI
  rw [g3] at w3
  obtain ⟨j, hj, rfl⟩ := inB_of (by omega) g1
  obtain ⟨k, hk, rfl⟩ := inB_of (by omega) g2
  obtain ⟨b, hb1, hb2, rfl⟩ := inR_of (by decide) (by decide) g3
  have ej : (nI j).toNatClampNeg = j := nI_clamp (by omega)
  have ek : (nI k).toNatClampNeg = k := nI_clamp (by omega)
  have eb : (nI b).toNatClampNeg = b := nI_clamp (by omega)
  have hst : hs = true := hs_of hG (j := j) hj
  have hMS := qS hst
  by_cases g4 : fndC (rw_.1 k) (rw_.2.1 k) i (nI b) = 0
  case neg =>
    have key := mc_ref d w1 w2 w3 (m_weiN (d + 3) (scr := scr) hr ho hk i (nI b) g4) fnd_ne
    have eo : oCover (nI j) (nI k) i (nI b) (rw_, tp, fl, st, hs, (t, w, m, N, f), im, pa, tr) = fnd (fndC (rw_.1 k) (rw_.2.1 k) i (nI b)) (rw_, tp, fl, st, hs, (t, w, m, N, f), im, pa, tr) := by simp only [oCover, oTold, nPe, g1, g2, g3, ek, g4, cl, and_self, if_true, if_false]
    rw [eo, fnd_1, fnd_2]
    exact ⟨_, key, hI.stt, (FrLo.rf s).st⟩
  have z4 := (ho k hk).2
  obtain ⟨a, b', hab, rfl, hb⟩ := spanB_of (by omega) (fndC_0 g4).2
  have ebN : b' = b := ((nI_eq (by omega) (by omega)).mp hb).symm
  subst ebN
  have ea : (nI a).toNatClampNeg = a := nI_clamp (by omega)
  have a1 := m_wei0 (d + 3) (scr := scr) hr ho hk g4 (show a + b' ≤ 40 by omega)
  have eo : oCover (nI j) (nI k) (nI a) (nI b') (rw_, tp, fl, st, hs, (t, w, m, N, f), im, pa, tr) = if allIn (itm rw_ k a) 1 999 b' = true then fin (((lsF (cvB t m (wts (itm rw_ k a)) b' (f j)) 1000 0).map nI).getD (-1000000)) (rw_, tp, fl, st, hs, (t, w, m, N, f), im, pa, tr) else bad (rw_, tp, fl, st, hs, (t, w, m, N, f), im, pa, tr) := by simp only [oCover, oTold, nPe, pOf, ctyOf, g1, g2, g3, ej, ek, ea, eb, g4, cl, and_self, if_true]
  rw [eo]
  cases g5 : allIn (itm rw_ k a) 1 999 b'
  · rw [g5] at a1
    simp only [Bool.false_eq_true, if_false] at a1
    have key := mc_ref d w1 w2 w3 a1 (by decide)
    exact ⟨s, key, hI, FrLo.rf s⟩
  rw [g5] at a1
  simp only [if_true] at a1 ⊢
  have hw := wts_ok g5
  obtain ⟨s1, b1, b2, b3⟩ := m_plain (d + 5) (scr := scr) (s := s)
  have hwI : ∀ (x : ST), FrA s1 x 615 357 476 → ∀ q, q < b' → x.1 623 q = nI q ∧ 40 * k + a + q < 320 ∧ x.1 620 (40 * k + a + q) = nI (wts (itm rw_ k a) q) ∧ wts (itm rw_ k a) q ≤ 999 := fun x hF q hq => by
    refine ⟨by rw [hF.2 _ _ (by omega)]; exact b3 q (by omega), by omega, ?_, (hw q hq).2⟩
    rw [hF.2 _ _ (by omega), b2.2 _ _ (by omega), ← (hw q hq).1, Nat.add_assoc]
    exact (hr k hk).2.2 _ (by omega)
  have hlp : ∀ fu dd (x : ST), dd + fu = 1000 → FrA s1 x 615 357 476 → ∃ x', EvI (EvM (d + 6)) C186 1 56 [.ref 614, .int (nI j), .int (nI k), .int (nI a), .int (nI b'), .int 0, .int (nI dd)] [] (mkH scr x) = some (((lsF (cvB t m (wts (itm rw_ k a)) b' (f j)) fu dd).map nI).getD (-1000000), mkH scr (u2 x' 614 6 0)) ∧ FrA s1 x' 615 357 476 := by
    intro fu
    induction fu with
    | zero =>
      intro dd x hdd hF
      have e : dd = 1000 := by omega
      subst e
      have k4 := m_give (d + 5) (scr := scr) (s := x) (-1000000)
      refine ⟨x, ?_, hF⟩
      rw [e186_56]
      simp (disch := omega) only [e186_0, e186_1, e186_2, e186_5, e186_8, e186_9, e186_12, e186_15, e186_17, e186_18, e186_19, e186_22, e186_25, e186_28, e186_30, e186_31, e186_32, e186_33, e186_34, e186_36, e186_39, e186_41, e186_43, e186_46, e186_48, e186_49, e186_50, e186_53, e186_54, e186_58, e186_61, e186_64, e186_65, e186_66, e186_68, e186_69, e186_70, e186_71, e186_72, e186_74, e186_76, e186_79, e186_80, e186_83, e186_84, e186_85, e186_88, e186_89, e186_90, e186_91, e186_94, e186_95, e186_97, e186_100, e186_101, e186_104, e186_107, e186_108, e186_110, e186_113, ↓reduceIte, ↓gi0, ↓gr0, ↓gl0, ↓gi1, ↓gr1, ↓gl1, ↓gi2, ↓gr2, ↓gl2, ↓gi3, ↓gr3, ↓gl3, ↓gi4, ↓gr4, ↓gl4, ↓gi5, ↓gr5, ↓gl5, ↓gi6, ↓gr6, ↓gl6, ↓gi7, ↓gr7, ↓gl7, ↓gi8, ↓gr8, ↓gl8, ↓gi9, ↓gr9, ↓gl9, ↓qI, ↓qI2, ↓qL, ↓qL2, ↓qR, ↓qV, ↓pd0, ↓ta0, ↓ts0, ↓pd1, ↓ta1, ↓ts1, ↓pd2, ↓ta2, ↓ts2, ↓pd3, ↓ta3, ↓ts3, ↓pd4, ↓ta4, ↓ts4, ↓pd5, ↓ta5, ↓ts5, ↓pd6, ↓ta6, ↓ts6, lGet, lSet, okS, isLg, Bool.not_false, Bool.not_true, Bool.false_eq_true, not_false_eq_true, not_true_eq_false, catS, okR1, okR20, okR21, okR2b, List.length_cons, List.length_nil, List.drop_succ_cons, List.drop_zero, List.drop_nil, and_self, true_and, and_true, false_and, and_false, Nat.reduceAdd, Nat.reduceLeDiff, Nat.zero_add, Nat.le_refl, Nat.zero_le, pushR, reduceCtorEq, or_self, or_false, false_or, true_or, or_true, show (1000 : Int32) = nI 1000 from by decide, leT, K614, ↓G614_0, ↓G614_1, ↓G614_2, ↓U614_2, ↓G614_3, ↓G614_4, ↓U614_4, ↓G614_5, ↓U614_5, ↓G614_6, ↓U614_6, ↓G614_7, ↓G614_8, ↓G614_9, ↓G614_10, ↓G614_11, ↓U614_11, ↓G614_12, ↓U614_12, ↓G614_13, ↓U614_13, ↓G614_14, ↓U614_14, ↓G614_15, ↓G614_16, ↓U614_16, ↓G614_18, ↓U614_18, ↓G614_19, ↓bnd k4]
      rfl
    | succ fu ih =>
      intro dd x hdd hF
      have hSx : MS x (t, w, m, N, f) := hMS.ext (fun k hk => by rw [hF.2 _ _ (by omega), b2.2 _ _ (by omega)])
      have hVx : MV x 0 (t, w, m, N, f) := MVA_V.mp ((MVA_V.mpr hVV).ext h6 (fun k hk => by rw [hF.2 _ _ (by omega), b2.2 _ _ (by omega)]))
      obtain ⟨x1, c1, c2⟩ := m_behind (d + 1) (scr := scr) (dd := dd) (base := 40 * k + a) (n := b') (ws := wts (itm rw_ k a)) (o := fun q => q) hSx hVx hcg hm hj hb2 (by omega) (hwI x hF)
      have hat : EvM (d + 6) 153 [.int 0, .int (nI j)] (mkH scr x1) = some (nI (23 + 16 * j), mkH scr x1) := m_at (d + 5) 0 j
      have how : x1.1 615 (23 + 16 * j) = nI (f j).2.2.2.2.1 := by
        have hp : MP x 615 (23 + 16 * j) (f j) := hVx.2 j hj
        rw [c2.2 _ _ (by omega)]
        exact hp.1
      have h99 : (pD t m (wts (itm rw_ k a)) (gainP dd m (f j)) b').2.2.2.2.1 ≤ 9999 := (pD_ok (t := t) (m := m) (ws := wts (itm rw_ k a)) ((gainP_gd (d := dd) (hcg.2.2.2.2.2 j hj) (by omega)).ok (by decide) (show m < 2 ^ 20 by omega)) b').2.1
      have h98 : (f j).2.2.2.2.1 ≤ 9999 := (hcg.2.2.2.2.2 j hj).2.2.2.2.1
      have e : lsF (cvB t m (wts (itm rw_ k a)) b' (f j)) (fu + 1) dd = if cvB t m (wts (itm rw_ k a)) b' (f j) dd = true then some dd else lsF (cvB t m (wts (itm rw_ k a)) b' (f j)) fu (dd + 1) := rfl
      have ec : cvB t m (wts (itm rw_ k a)) b' (f j) dd = decide ((pD t m (wts (itm rw_ k a)) (gainP dd m (f j)) b').2.2.2.2.1 ≤ (f j).2.2.2.2.1) := rfl
      rw [e, e186_56, ec]
      by_cases g : (pD t m (wts (itm rw_ k a)) (gainP dd m (f j)) b').2.2.2.2.1 ≤ (f j).2.2.2.2.1
      · have k4 := m_give (d + 5) (scr := scr) (s := x1) (nI dd)
        rw [if_pos (decide_eq_true g)]
        refine ⟨x1, ?_, hF.tr c2⟩
        simp (disch := omega) only [e186_0, e186_1, e186_2, e186_5, e186_8, e186_9, e186_12, e186_15, e186_17, e186_18, e186_19, e186_22, e186_25, e186_28, e186_30, e186_31, e186_32, e186_33, e186_34, e186_36, e186_39, e186_41, e186_43, e186_46, e186_48, e186_49, e186_50, e186_53, e186_54, e186_58, e186_61, e186_64, e186_65, e186_66, e186_68, e186_69, e186_70, e186_71, e186_72, e186_74, e186_76, e186_79, e186_80, e186_83, e186_84, e186_85, e186_88, e186_89, e186_90, e186_91, e186_94, e186_95, e186_97, e186_100, e186_101, e186_104, e186_107, e186_108, e186_110, e186_113, ↓reduceIte, ↓gi0, ↓gr0, ↓gl0, ↓gi1, ↓gr1, ↓gl1, ↓gi2, ↓gr2, ↓gl2, ↓gi3, ↓gr3, ↓gl3, ↓gi4, ↓gr4, ↓gl4, ↓gi5, ↓gr5, ↓gl5, ↓gi6, ↓gr6, ↓gl6, ↓gi7, ↓gr7, ↓gl7, ↓gi8, ↓gr8, ↓gl8, ↓gi9, ↓gr9, ↓gl9, ↓qI, ↓qI2, ↓qL, ↓qL2, ↓qR, ↓qV, ↓pd0, ↓ta0, ↓ts0, ↓pd1, ↓ta1, ↓ts1, ↓pd2, ↓ta2, ↓ts2, ↓pd3, ↓ta3, ↓ts3, ↓pd4, ↓ta4, ↓ts4, ↓pd5, ↓ta5, ↓ts5, ↓pd6, ↓ta6, ↓ts6, lGet, lSet, okS, isLg, Bool.not_false, Bool.not_true, Bool.false_eq_true, not_false_eq_true, not_true_eq_false, catS, okR1, okR20, okR21, okR2b, List.length_cons, List.length_nil, List.drop_succ_cons, List.drop_zero, List.drop_nil, and_self, true_and, and_true, false_and, and_false, Nat.reduceAdd, Nat.reduceLeDiff, Nat.zero_add, Nat.le_refl, Nat.zero_le, pushR, reduceCtorEq, or_self, or_false, false_or, true_or, or_true, ltT, ltF, leT, leF, eqF, eqT, lt0F, ge0T, le0T, le0F, eq0T, eq0F, gt0T, gt0F, nI_add, nI_1, pk_mul, subT, sub1, divT, remN, natRem, n2, n3, n4, n5, n6, n7, n8, n9, n10, n12, n16, n22, n23, n24, n40, n48, n57, n60, n97, n99, n100, n119, n120, n238, n357, n999, n9999, n2231, Int32.add_zero, show (1000 : Int32) = nI 1000 from by decide, K614, ↓G614_0, ↓G614_1, ↓G614_2, ↓U614_2, ↓G614_3, ↓G614_4, ↓U614_4, ↓G614_5, ↓U614_5, ↓G614_6, ↓U614_6, ↓G614_7, ↓G614_8, ↓G614_9, ↓G614_10, ↓G614_11, ↓U614_11, ↓G614_12, ↓U614_12, ↓G614_13, ↓U614_13, ↓G614_14, ↓U614_14, ↓G614_15, ↓G614_16, ↓U614_16, ↓G614_18, ↓U614_18, ↓G614_19, ↓I615, ↓S615, ↓bnd c1, ↓bnd hat, how, ↓bnd k4]
        rfl
      · rw [if_neg (by simp [g])]
        obtain ⟨x2, d1, d2⟩ := ih (dd + 1) x1 (by omega) (hF.tr c2)
        refine ⟨x2, ?_, d2⟩
        rw [← d1]
        simp (disch := omega) only [e186_0, e186_1, e186_2, e186_5, e186_8, e186_9, e186_12, e186_15, e186_17, e186_18, e186_19, e186_22, e186_25, e186_28, e186_30, e186_31, e186_32, e186_33, e186_34, e186_36, e186_39, e186_41, e186_43, e186_46, e186_48, e186_49, e186_50, e186_53, e186_54, e186_58, e186_61, e186_64, e186_65, e186_66, e186_68, e186_69, e186_70, e186_71, e186_72, e186_74, e186_76, e186_79, e186_80, e186_83, e186_84, e186_85, e186_88, e186_89, e186_90, e186_91, e186_94, e186_95, e186_97, e186_100, e186_101, e186_104, e186_107, e186_108, e186_110, e186_113, ↓reduceIte, ↓gi0, ↓gr0, ↓gl0, ↓gi1, ↓gr1, ↓gl1, ↓gi2, ↓gr2, ↓gl2, ↓gi3, ↓gr3, ↓gl3, ↓gi4, ↓gr4, ↓gl4, ↓gi5, ↓gr5, ↓gl5, ↓gi6, ↓gr6, ↓gl6, ↓gi7, ↓gr7, ↓gl7, ↓gi8, ↓gr8, ↓gl8, ↓gi9, ↓gr9, ↓gl9, ↓qI, ↓qI2, ↓qL, ↓qL2, ↓qR, ↓qV, ↓pd0, ↓ta0, ↓ts0, ↓pd1, ↓ta1, ↓ts1, ↓pd2, ↓ta2, ↓ts2, ↓pd3, ↓ta3, ↓ts3, ↓pd4, ↓ta4, ↓ts4, ↓pd5, ↓ta5, ↓ts5, ↓pd6, ↓ta6, ↓ts6, lGet, lSet, okS, isLg, Bool.not_false, Bool.not_true, Bool.false_eq_true, not_false_eq_true, not_true_eq_false, catS, okR1, okR20, okR21, okR2b, List.length_cons, List.length_nil, List.drop_succ_cons, List.drop_zero, List.drop_nil, and_self, true_and, and_true, false_and, and_false, Nat.reduceAdd, Nat.reduceLeDiff, Nat.zero_add, Nat.le_refl, Nat.zero_le, pushR, reduceCtorEq, or_self, or_false, false_or, true_or, or_true, ltT, ltF, leT, leF, eqF, eqT, lt0F, ge0T, le0T, le0F, eq0T, eq0F, gt0T, gt0F, nI_add, nI_1, pk_mul, subT, sub1, divT, remN, natRem, n2, n3, n4, n5, n6, n7, n8, n9, n10, n12, n16, n22, n23, n24, n40, n48, n57, n60, n97, n99, n100, n119, n120, n238, n357, n999, n9999, n2231, Int32.add_zero, show (1000 : Int32) = nI 1000 from by decide, K614, ↓G614_0, ↓G614_1, ↓G614_2, ↓U614_2, ↓G614_3, ↓G614_4, ↓U614_4, ↓G614_5, ↓U614_5, ↓G614_6, ↓U614_6, ↓G614_7, ↓G614_8, ↓G614_9, ↓G614_10, ↓G614_11, ↓U614_11, ↓G614_12, ↓U614_12, ↓G614_13, ↓U614_13, ↓G614_14, ↓U614_14, ↓G614_15, ↓G614_16, ↓U614_16, ↓G614_18, ↓U614_18, ↓G614_19, ↓I615, ↓S615, ↓bnd c1, ↓bnd hat, how]
  obtain ⟨x, e1, e2⟩ := hlp 1000 0 s1 rfl (FrA.rf _ _ _ _)
  have e1' : EvI (EvM (d + 6)) C186 1 56 [.ref 614, .int (nI j), .int (nI k), .int (nI a), .int (nI b'), .int 0, .int 0] [] (mkH scr s1) = _ := e1
  generalize ((lsF (cvB t m (wts (itm rw_ k a)) b' (f j)) 1000 0).map nI).getD (-1000000) = xx at *
  have kp : KpM s x := fun a k y z w v u => by rw [e2.2 _ _ (by omega), b2.2 _ _ (by omega)]
  refine ⟨u2 x 614 6 0, ?_, (hI.ext kp).stt, FrLo.st (fun a k y => by rw [e2.2 _ _ (by omega), b2.2 _ _ (by omega)])⟩
  rw [ev186, e186_0]
  simp (disch := omega) only [e186_0, e186_1, e186_2, e186_5, e186_8, e186_9, e186_12, e186_15, e186_17, e186_18, e186_19, e186_22, e186_25, e186_28, e186_30, e186_31, e186_32, e186_33, e186_34, e186_36, e186_39, e186_41, e186_43, e186_46, e186_48, e186_49, e186_50, e186_53, e186_54, e186_58, e186_61, e186_64, e186_65, e186_66, e186_68, e186_69, e186_70, e186_71, e186_72, e186_74, e186_76, e186_79, e186_80, e186_83, e186_84, e186_85, e186_88, e186_89, e186_90, e186_91, e186_94, e186_95, e186_97, e186_100, e186_101, e186_104, e186_107, e186_108, e186_110, e186_113, ↓reduceIte, ↓gi0, ↓gr0, ↓gl0, ↓gi1, ↓gr1, ↓gl1, ↓gi2, ↓gr2, ↓gl2, ↓gi3, ↓gr3, ↓gl3, ↓gi4, ↓gr4, ↓gl4, ↓gi5, ↓gr5, ↓gl5, ↓gi6, ↓gr6, ↓gl6, ↓gi7, ↓gr7, ↓gl7, ↓gi8, ↓gr8, ↓gl8, ↓gi9, ↓gr9, ↓gl9, ↓qI, ↓qI2, ↓qL, ↓qL2, ↓qR, ↓qV, ↓pd0, ↓ta0, ↓ts0, ↓pd1, ↓ta1, ↓ts1, ↓pd2, ↓ta2, ↓ts2, ↓pd3, ↓ta3, ↓ts3, ↓pd4, ↓ta4, ↓ts4, ↓pd5, ↓ta5, ↓ts5, ↓pd6, ↓ta6, ↓ts6, lGet, lSet, okS, isLg, Bool.not_false, Bool.not_true, Bool.false_eq_true, not_false_eq_true, not_true_eq_false, catS, okR1, okR20, okR21, okR2b, List.length_cons, List.length_nil, List.drop_succ_cons, List.drop_zero, List.drop_nil, and_self, true_and, and_true, false_and, and_false, Nat.reduceAdd, Nat.reduceLeDiff, Nat.zero_add, Nat.le_refl, Nat.zero_le, pushR, reduceCtorEq, or_self, or_false, false_or, true_or, or_true, n12, K614, ↓G614_0, ↓G614_1, ↓G614_2, ↓U614_2, ↓G614_3, ↓G614_4, ↓U614_4, ↓G614_5, ↓U614_5, ↓G614_6, ↓U614_6, ↓G614_7, ↓G614_8, ↓G614_9, ↓G614_10, ↓G614_11, ↓U614_11, ↓G614_12, ↓U614_12, ↓G614_13, ↓U614_13, ↓G614_14, ↓U614_14, ↓G614_15, ↓G614_16, ↓U614_16, ↓G614_18, ↓U614_18, ↓G614_19, bI_t, one_ne, ↓bnd w1, ↓bnd w2, ↓bnd w3, ↓bnd a1, ↓bnd b1, fin]
  exact e1'
end CVR
