/-! ===== Acts: the ring of counties; Rows ===== -/
theorem FrC_u {s : ST} {a k : Nat} {x : Int32} {C D : Nat} {c : CY} (h : CR s D c) (ha : a < D ∨ D + 20 ≤ a) : CR (u2 s a k x) D c := CR_ext h (fun a' k' h1 h2 => u2_oth s x (by omega))
/-- the pasts, the newest last: where the q-th lies when the next place is nx and there are z -/
def ringAt (nx z q : Nat) : Nat := (nx + 24 - z + q) % 24
def AR (s : ST) (pa : List CY) : Prop := ∃ nx, nx < 24 ∧ s.1 17 1 = nI nx ∧ s.1 17 2 = nI pa.length ∧ pa.length ≤ 24 ∧ ∀ q c, pa[q]? = some c → CR s (19 + 20 * ringAt nx pa.length q) c
def keepP (pa : List CY) (c : CY) : List CY := if pa.length < 24 then pa ++ [c] else pa.drop 1 ++ [c]
section ACT
variable {scr : Nat × (Nat → Int32)} {s : ST}
/-- Acts.remember -/
theorem c_remember (d : Nat) {pa : List CY} {c : CY} (hA : AR s pa) (hc : CR s 531 c) : ∃ s', EvM (d + 3) 1 [.ref 17, .ref 531] (mkH scr s) = some (0, mkH scr s') ∧ AR s' (keepP pa c) ∧ s'.2 = s.2 ∧ ∀ a k, a < 17 ∨ 499 ≤ a → s'.1 a k = s.1 a k := by
  obtain ⟨nx, hnx, h1, h2, hle, hp⟩ := hA
  obtain ⟨s1, a1, a2, a3⟩ := c_cCopy d (scr := scr) (ctyActs hnx) cty531 (by omega) hc
  have g1 : s1.1 17 1 = nI nx := by rw [a3.2.1 17 1 (by omega)]; exact h1
  have g2 : s1.1 17 2 = nI pa.length := by rw [a3.2.1 17 2 (by omega)]; exact h2
  have hmin : (if nI (pa.length + 1) < nI 24 then nI (pa.length + 1) else nI 24) = nI (min 24 (pa.length + 1)) := min_nI (by decide) (by omega)
  refine ⟨u2 (u2 s1 17 1 (nI ((nx + 1) % 24))) 17 2 (nI (min 24 (pa.length + 1))), ?_, ?_, ?_, ?_⟩
  · rw [ev1, e1_0]
    simp (disch := omega) only [e1_0, e1_1, e1_4, e1_5, e1_8, e1_9, e1_10, e1_13, e1_14, e1_15, e1_18, e1_19, e1_20, e1_22, e1_23, e1_26, e1_27, e1_29, e1_30, e1_33, e1_34, e1_35, e1_38, e1_41, ↓reduceIte, ↓gi0, ↓gr0, ↓gl0, ↓gi1, ↓gr1, ↓gl1, ↓gi2, ↓gr2, ↓gl2, ↓gi3, ↓gr3, ↓gl3, ↓gi4, ↓gr4, ↓gl4, ↓gi5, ↓gr5, ↓gl5, ↓gi6, ↓gr6, ↓gl6, ↓gi7, ↓gr7, ↓gl7, ↓gi8, ↓gr8, ↓gl8, ↓gi9, ↓gr9, ↓gl9, ↓qI, ↓qI2, ↓qL, ↓qL2, ↓qR, ↓qV, ↓pd0, ↓ta0, ↓ts0, ↓pd1, ↓ta1, ↓ts1, ↓pd2, ↓ta2, ↓ts2, ↓pd3, ↓ta3, ↓ts3, ↓pd4, ↓ta4, ↓ts4, ↓pd5, ↓ta5, ↓ts5, ↓pd6, ↓ta6, ↓ts6, lGet, lSet, okS, isLg, Bool.not_false, Bool.not_true, Bool.false_eq_true, not_false_eq_true, not_true_eq_false, catS, okR1, okR20, okR21, okR2b, List.length_cons, List.length_nil, List.drop_succ_cons, List.drop_zero, List.drop_nil, and_self, true_and, and_true, false_and, and_false, Nat.reduceAdd, Nat.reduceLeDiff, Nat.zero_add, Nat.le_refl, Nat.zero_le, pushR, reduceCtorEq, or_self, or_false, false_or, true_or, or_true, ltT, ltF, leT, leF, eqF, eqT, lt0F, ge0T, le0T, le0F, eq0T, eq0F, gt0T, gt0F, nI_add, nI_1, pk_mul, subT, sub1, divT, remN, natRem, K2, ↓G2_0, ↓G2_1, ↓G2_2, ↓G2_3, ↓G2_4, ↓G2_5, ↓G2_6, ↓G2_7, ↓G2_8, ↓G2_9, ↓G2_10, ↓G2_11, ↓G2_12, ↓U2_12, ↓G2_13, ↓U2_13, K3, ↓G3_0, ↓G3_1, ↓G3_2, K15, ↓G15_0, ↓G15_1, ↓U15_1, ↓G15_2, ↓U15_2, ↓G15_3, ↓U15_3, ↓G15_4, ↓U15_4, ↓G15_5, ↓U15_5, K17, ↓G17_0, ↓G17_1, ↓U17_1, ↓G17_2, ↓U17_2, K499, ↓G499_0, ↓G499_1, ↓U499_1, K501, ↓G501_0, ↓G501_1, ↓U501_1, ↓G501_2, ↓G501_3, ↓G501_4, ↓G501_5, ↓U501_5, ↓G501_6, ↓U501_6, ↓G501_7, ↓U501_7, K527, ↓G527_0, ↓U527_0, ↓G527_1, ↓U527_1, ↓G527_2, ↓G527_3, ↓G527_4, ↓I4, ↓S4, ↓I5, ↓S5, ↓I7, ↓S7, ↓I8, ↓S8, ↓I9, ↓S9, ↓I10, ↓S10, ↓I11, ↓S11, ↓I12, ↓S12, ↓I13, ↓S13, ↓I14, ↓S14, ↓I16, ↓S16, ↓I500, ↓S500, ↓I502, ↓S502, ↓I503, ↓S503, ↓I505, ↓S505, ↓I528, ↓S528, ↓I529, ↓S529, ↓I530, ↓S530, ↓I613, ↓S613, ↓A18, ↓A6, ↓A504, ↓A571, ↓IR, ↓SR, ↓I612, ↓S612, ↓U2_11, ↓nw_a, ↓nw_l, ↓sc_a, ↓sc_l, kN, kS, kT, k531, k551, ↓nw_g 0 (by decide), ↓nw_g 1 (by decide), ↓nw_g 2 (by decide), ↓nw_g 3 (by decide), h1, cty_cl (ctyActs hnx), ↓bnd a1, g1, g2, show (24 : Int32) = nI 24 from rfl, u2_oth, hmin]
  · have hkl : (keepP pa c).length = min 24 (pa.length + 1) := by
      unfold keepP
      split
      · simp; omega
      · simp; omega
    refine ⟨(nx + 1) % 24, Nat.mod_lt _ (by decide), by rw [u2_oth _ _ (by omega), u2_same], by rw [u2_same, hkl], by rw [hkl]; omega, fun q c' hq => ?_⟩
    have hql : q < (keepP pa c).length := (List.getElem?_eq_some_iff.mp hq).1
    have hr : ringAt ((nx + 1) % 24) (keepP pa c).length q < 24 := Nat.mod_lt _ (by decide)
    refine FrC_u (C := 0) (FrC_u (C := 0) ?_ (by omega)) (by omega)
    rw [hkl] at hql hr ⊢
    by_cases hlast : q + 1 = min 24 (pa.length + 1)
    · have e : c' = c := by
        unfold keepP at hq
        split at hq
        · have : q = pa.length := by omega
          subst this
          simpa using hq.symm
        · have : q = (pa.drop 1).length := by simp; omega
          rw [this] at hq
          simpa using hq.symm
      have e2 : ringAt ((nx + 1) % 24) (min 24 (pa.length + 1)) q = nx := by unfold ringAt; omega
      rw [e2, e]
      exact a2
    · have hq' : ∃ q', pa[q']? = some c' ∧ ringAt ((nx + 1) % 24) (min 24 (pa.length + 1)) q = ringAt nx pa.length q' ∧ ringAt nx pa.length q' ≠ nx := by
        unfold keepP at hq
        split at hq
        · refine ⟨q, ?_, ?_, ?_⟩
          · rw [List.getElem?_append_left (by omega)] at hq
            exact hq
          · unfold ringAt; omega
          · unfold ringAt; omega
        · refine ⟨q + 1, ?_, ?_, ?_⟩
          · rw [List.getElem?_append_left (by simp; omega), List.getElem?_drop] at hq
            rw [Nat.add_comm]
            exact hq
          · unfold ringAt; omega
          · unfold ringAt; omega
      obtain ⟨q', hq1, hq2, hq3⟩ := hq'
      have hr2 : ringAt nx pa.length q' < 24 := Nat.mod_lt _ (by decide)
      rw [hq2]
      exact CR_fr (hp q' c' hq1) a3 (by omega)
  · show s1.2 = s.2
    exact a3.1
  · intro a k ha
    rw [u2_oth _ _ (by omega), u2_oth _ _ (by omega)]
    exact a3.2.1 a k (by omega)
/-- Acts.takeBack -/
theorem c_takeBack (d : Nat) {pa : List CY} {c : CY} (hA : AR s (pa ++ [c])) : ∃ s', EvM (d + 3) 2 [.ref 17, .ref 531] (mkH scr s) = some (0, mkH scr s') ∧ AR s' pa ∧ CR s' 531 c ∧ s'.2 = s.2 ∧ (∀ a k, (a < 17 ∨ 499 ≤ a) → (a < 531 ∨ 551 ≤ a) → s'.1 a k = s.1 a k) ∧ ∀ i, i < 6 → s'.1 (533 + 3 * i) 0 = s.1 (533 + 3 * i) 0 := by
  obtain ⟨nx, hnx, h1, h2, hle, hp⟩ := hA
  simp only [List.length_append, List.length_singleton] at h2 hle hp
  have hy : (nx + 24 - 1) % 24 < 24 := Nat.mod_lt _ (by decide)
  have hc := hp pa.length c (by simp)
  have e2 : ringAt nx (pa.length + 1) pa.length = (nx + 24 - 1) % 24 := by unfold ringAt; omega
  rw [e2] at hc
  have hc1 : CR (u2 (u2 s 17 1 (nI ((nx + 24 - 1) % 24))) 17 2 (nI pa.length)) (19 + 20 * ((nx + 24 - 1) % 24)) c := FrC_u (C := 0) (FrC_u (C := 0) hc (by omega)) (by omega)
  obtain ⟨s1, a1, a2, a3⟩ := c_cCopy d (scr := scr) cty531 (ctyActs hy) (by omega) hc1
  refine ⟨s1, ?_, ⟨(nx + 24 - 1) % 24, hy, ?_, ?_, by omega, fun q c' hq => ?_⟩, a2, ?_, ?_, ?_⟩
  · rw [ev2, e2_0]
    simp (disch := omega) only [e2_0, e2_1, e2_2, e2_5, e2_7, e2_8, e2_9, e2_10, e2_12, e2_13, e2_16, e2_17, e2_18, e2_21, e2_22, e2_23, e2_26, e2_27, e2_28, e2_31, e2_32, e2_35, e2_36, e2_39, ↓reduceIte, ↓gi0, ↓gr0, ↓gl0, ↓gi1, ↓gr1, ↓gl1, ↓gi2, ↓gr2, ↓gl2, ↓gi3, ↓gr3, ↓gl3, ↓gi4, ↓gr4, ↓gl4, ↓gi5, ↓gr5, ↓gl5, ↓gi6, ↓gr6, ↓gl6, ↓gi7, ↓gr7, ↓gl7, ↓gi8, ↓gr8, ↓gl8, ↓gi9, ↓gr9, ↓gl9, ↓qI, ↓qI2, ↓qL, ↓qL2, ↓qR, ↓qV, ↓pd0, ↓ta0, ↓ts0, ↓pd1, ↓ta1, ↓ts1, ↓pd2, ↓ta2, ↓ts2, ↓pd3, ↓ta3, ↓ts3, ↓pd4, ↓ta4, ↓ts4, ↓pd5, ↓ta5, ↓ts5, ↓pd6, ↓ta6, ↓ts6, lGet, lSet, okS, isLg, Bool.not_false, Bool.not_true, Bool.false_eq_true, not_false_eq_true, not_true_eq_false, catS, okR1, okR20, okR21, okR2b, List.length_cons, List.length_nil, List.drop_succ_cons, List.drop_zero, List.drop_nil, and_self, true_and, and_true, false_and, and_false, Nat.reduceAdd, Nat.reduceLeDiff, Nat.zero_add, Nat.le_refl, Nat.zero_le, pushR, reduceCtorEq, or_self, or_false, false_or, true_or, or_true, ltT, ltF, leT, leF, eqF, eqT, lt0F, ge0T, le0T, le0F, eq0T, eq0F, gt0T, gt0F, nI_add, nI_1, pk_mul, subT, sub1, divT, remN, natRem, K2, ↓G2_0, ↓G2_1, ↓G2_2, ↓G2_3, ↓G2_4, ↓G2_5, ↓G2_6, ↓G2_7, ↓G2_8, ↓G2_9, ↓G2_10, ↓G2_11, ↓G2_12, ↓U2_12, ↓G2_13, ↓U2_13, K3, ↓G3_0, ↓G3_1, ↓G3_2, K15, ↓G15_0, ↓G15_1, ↓U15_1, ↓G15_2, ↓U15_2, ↓G15_3, ↓U15_3, ↓G15_4, ↓U15_4, ↓G15_5, ↓U15_5, K17, ↓G17_0, ↓G17_1, ↓U17_1, ↓G17_2, ↓U17_2, K499, ↓G499_0, ↓G499_1, ↓U499_1, K501, ↓G501_0, ↓G501_1, ↓U501_1, ↓G501_2, ↓G501_3, ↓G501_4, ↓G501_5, ↓U501_5, ↓G501_6, ↓U501_6, ↓G501_7, ↓U501_7, K527, ↓G527_0, ↓U527_0, ↓G527_1, ↓U527_1, ↓G527_2, ↓G527_3, ↓G527_4, ↓I4, ↓S4, ↓I5, ↓S5, ↓I7, ↓S7, ↓I8, ↓S8, ↓I9, ↓S9, ↓I10, ↓S10, ↓I11, ↓S11, ↓I12, ↓S12, ↓I13, ↓S13, ↓I14, ↓S14, ↓I16, ↓S16, ↓I500, ↓S500, ↓I502, ↓S502, ↓I503, ↓S503, ↓I505, ↓S505, ↓I528, ↓S528, ↓I529, ↓S529, ↓I530, ↓S530, ↓I613, ↓S613, ↓A18, ↓A6, ↓A504, ↓A571, ↓IR, ↓SR, ↓I612, ↓S612, ↓U2_11, ↓nw_a, ↓nw_l, ↓sc_a, ↓sc_l, kN, kS, kT, k531, k551, ↓nw_g 0 (by decide), ↓nw_g 1 (by decide), ↓nw_g 2 (by decide), ↓nw_g 3 (by decide), h1, h2, show (24 : Int32) = nI 24 from rfl, u2_oth, u2_same, Nat.add_sub_cancel, ↓bnd a1]
  · rw [a3.2.1 17 1 (by omega), u2_oth _ _ (by omega), u2_same]
  · rw [a3.2.1 17 2 (by omega), u2_same]
  · have hql : q < pa.length := (List.getElem?_eq_some_iff.mp hq).1
    have h3 := hp q c' (by rw [List.getElem?_append_left hql]; exact hq)
    have e3 : ringAt ((nx + 24 - 1) % 24) pa.length q = ringAt nx (pa.length + 1) q := by unfold ringAt; omega
    have hr : ringAt nx (pa.length + 1) q < 24 := Nat.mod_lt _ (by decide)
    rw [e3]
    exact CR_fr (FrC_u (C := 0) (FrC_u (C := 0) h3 (by omega)) (by omega)) a3 (by omega)
  · exact a3.1
  · intro a k ha hb
    rw [a3.2.1 a k (by omega), u2_oth _ _ (by omega), u2_oth _ _ (by omega)]
  · intro i hi
    have := a3.2.2 i hi
    rw [this, u2_oth _ _ (by omega), u2_oth _ _ (by omega)]
end ACT
