/-! ===== County: draws, months ===== -/
def drw (x : Nat) : Nat := x * 16807 % 2147483647
def itD : Nat → Nat → Nat
  | 0, x => x
  | k + 1, x => drw (itD k x)
theorem drw_lt (x : Nat) : drw x < 2147483647 := Nat.mod_lt _ (by decide)
/-- does a draw lead to a DEED -/
def dB (x : Nat) (p : PT) : Bool := !(isOfB p.1 2) && decide (x % 10 < p.2.1)
def pDraw (w x : Nat) (p : PT) : PT := if dB x p then pCommit (1 + x / 10 % w) p else p
def nB (b : Bool) : Nat := if b then 1 else 0
/-- the draws of a MONTH, behind the first j persons -/
def cDrawN (w x : Nat) (f : Nat → PT) (j : Nat) : Nat → PT := fun i => if i < j then pDraw w (itD (i + 1) x) (f i) else f i
def cDraw (x : Nat) (c : CY) : CY := match c with
  | (t, w, m, n, f) => (t, w, m, n, fun i => pDraw w (itD (i + 1) x) (f i))
def cCnt (x : Nat) (c : CY) (j : Nat) : Nat := sumN (fun i => nB (dB (itD (i + 1) x) (c.2.2.2.2 i))) j
/-- k MONTHS from the draw x on: the COUNTY, the draw, the DEEDS -/
def mths (c : CY) (x : Nat) : Nat → CY × Nat × Nat
  | 0 => (c, x, 0)
  | k + 1 => (cEnd (cDraw (mths c x k).2.1 (mths c x k).1), itD (mths c x k).1.2.2.2.1 (mths c x k).2.1, (mths c x k).2.2 + cCnt (mths c x k).2.1 (mths c x k).1 (mths c x k).1.2.2.2.1)
section CM3
variable {scr : Nat × (Nat → Int32)} {s : ST} {C : Nat}
/-- County.drawFor -/
theorem c_draw (d : Nat) {P : Nat} {w x : Nat} {p : PT} (hC : cty C) (hP : per P) (hw : s.1 C 1 = nI w) (hw0 : 0 < w) (hw1 : w < 2 ^ 20) (hp : PR s P p) (hok : pOk p) (hx : x < 2147483647) : ∃ s', EvM (d + 4) 24 [.ref C, .ref P, .int (nI x)] (mkH scr s) = some (nI (nB (dB x p)), mkH scr s') ∧ PR s' P (pDraw w x p) ∧ FrP s s' P := by
  have hio := c_isOf (d + 2) (scr := scr) (s := s) hP (w := 2) hp.1 hok.1 (by decide)
  have hle : p.2.1 < 2 ^ 20 := hok.2.2.2.1
  have hx10 : x % 10 < 10 := Nat.mod_lt _ (by decide)
  have hlw : x / 10 % w < w := Nat.mod_lt _ hw0
  unfold pDraw
  rw [ev24, e24_0]
  cases h1 : isOfB p.1 2 with
  | true =>
    have hd : dB x p = false := by unfold dB; rw [h1]; rfl
    rw [h1] at hio
    rw [hd]
    refine ⟨s, ?_, hp, FrP.rf s P⟩
    simp (disch := omega) only [e24_0, e24_1, e24_2, e24_5, e24_8, e24_9, e24_11, e24_12, e24_13, e24_16, e24_19, e24_20, e24_23, e24_24, e24_27, e24_28, e24_29, e24_30, e24_31, e24_32, e24_34, e24_35, e24_36, e24_39, e24_40, e24_41, e24_44, e24_45, ↓reduceIte, ↓gi0, ↓gr0, ↓gl0, ↓gi1, ↓gr1, ↓gl1, ↓gi2, ↓gr2, ↓gl2, ↓gi3, ↓gr3, ↓gl3, ↓gi4, ↓gr4, ↓gl4, ↓gi5, ↓gr5, ↓gl5, ↓gi6, ↓gr6, ↓gl6, ↓gi7, ↓gr7, ↓gl7, ↓gi8, ↓gr8, ↓gl8, ↓gi9, ↓gr9, ↓gl9, ↓qI, ↓qI2, ↓qL, ↓qL2, ↓qR, ↓qV, ↓pd0, ↓ta0, ↓ts0, ↓pd1, ↓ta1, ↓ts1, ↓pd2, ↓ta2, ↓ts2, ↓pd3, ↓ta3, ↓ts3, ↓pd4, ↓ta4, ↓ts4, ↓pd5, ↓ta5, ↓ts5, ↓pd6, ↓ta6, ↓ts6, lGet, lSet, okS, isLg, Bool.not_false, Bool.not_true, Bool.false_eq_true, not_false_eq_true, not_true_eq_false, catS, okR1, okR20, okR21, okR2b, List.length_cons, List.length_nil, List.drop_succ_cons, List.drop_zero, List.drop_nil, and_self, true_and, and_true, false_and, and_false, Nat.reduceAdd, Nat.reduceLeDiff, Nat.zero_add, Nat.le_refl, Nat.zero_le, pushR, reduceCtorEq, or_self, or_false, false_or, true_or, or_true, ltT, ltF, leT, leF, eqF, eqT, lt0F, ge0T, le0T, le0F, eq0T, eq0F, gt0T, gt0F, nI_add, nI_1, pk_mul, subT, sub1, divT, remN, natRem, per_cl hP, show (2 : Int32) = nI 2 from rfl, ↓bnd hio, bI_t, one_ne]
    rfl
  | false =>
    rw [h1] at hio
    by_cases h2 : x % 10 < p.2.1
    · have hd : dB x p = true := by unfold dB; rw [h1]; simpa using h2
      rw [hd]
      obtain ⟨s', a1, a2, a3⟩ := c_commit d (scr := scr) (w := 1 + x / 10 % w) hP hp hok (by omega)
      refine ⟨s', ?_, a2, a3⟩
      simp (disch := omega) only [e24_0, e24_1, e24_2, e24_5, e24_8, e24_9, e24_11, e24_12, e24_13, e24_16, e24_19, e24_20, e24_23, e24_24, e24_27, e24_28, e24_29, e24_30, e24_31, e24_32, e24_34, e24_35, e24_36, e24_39, e24_40, e24_41, e24_44, e24_45, ↓reduceIte, ↓gi0, ↓gr0, ↓gl0, ↓gi1, ↓gr1, ↓gl1, ↓gi2, ↓gr2, ↓gl2, ↓gi3, ↓gr3, ↓gl3, ↓gi4, ↓gr4, ↓gl4, ↓gi5, ↓gr5, ↓gl5, ↓gi6, ↓gr6, ↓gl6, ↓gi7, ↓gr7, ↓gl7, ↓gi8, ↓gr8, ↓gl8, ↓gi9, ↓gr9, ↓gl9, ↓qI, ↓qI2, ↓qL, ↓qL2, ↓qR, ↓qV, ↓pd0, ↓ta0, ↓ts0, ↓pd1, ↓ta1, ↓ts1, ↓pd2, ↓ta2, ↓ts2, ↓pd3, ↓ta3, ↓ts3, ↓pd4, ↓ta4, ↓ts4, ↓pd5, ↓ta5, ↓ts5, ↓pd6, ↓ta6, ↓ts6, lGet, lSet, okS, isLg, Bool.not_false, Bool.not_true, Bool.false_eq_true, not_false_eq_true, not_true_eq_false, catS, okR1, okR20, okR21, okR2b, List.length_cons, List.length_nil, List.drop_succ_cons, List.drop_zero, List.drop_nil, and_self, true_and, and_true, false_and, and_false, Nat.reduceAdd, Nat.reduceLeDiff, Nat.zero_add, Nat.le_refl, Nat.zero_le, pushR, reduceCtorEq, or_self, or_false, false_or, true_or, or_true, per_cl hP, ↓bnd hio, bI_f, ↓per_gb hP 2 (by decide), hp.2.1, ↓cty_gb hC 1 (by decide), hw, ltT, ltF, leT, leF, eqF, eqT, lt0F, ge0T, le0T, le0F, eq0T, eq0F, gt0T, gt0F, nI_add, nI_1, pk_mul, subT, sub1, divT, remN, natRem, show (10 : Int32) = nI 10 from rfl, show (2 : Int32) = nI 2 from rfl, show (1 : Int32) = nI 1 from rfl, ↓bnd a1]
      rfl
    · have hd : dB x p = false := by unfold dB; rw [h1]; simpa using h2
      rw [hd]
      refine ⟨s, ?_, hp, FrP.rf s P⟩
      simp (disch := omega) only [e24_0, e24_1, e24_2, e24_5, e24_8, e24_9, e24_11, e24_12, e24_13, e24_16, e24_19, e24_20, e24_23, e24_24, e24_27, e24_28, e24_29, e24_30, e24_31, e24_32, e24_34, e24_35, e24_36, e24_39, e24_40, e24_41, e24_44, e24_45, ↓reduceIte, ↓gi0, ↓gr0, ↓gl0, ↓gi1, ↓gr1, ↓gl1, ↓gi2, ↓gr2, ↓gl2, ↓gi3, ↓gr3, ↓gl3, ↓gi4, ↓gr4, ↓gl4, ↓gi5, ↓gr5, ↓gl5, ↓gi6, ↓gr6, ↓gl6, ↓gi7, ↓gr7, ↓gl7, ↓gi8, ↓gr8, ↓gl8, ↓gi9, ↓gr9, ↓gl9, ↓qI, ↓qI2, ↓qL, ↓qL2, ↓qR, ↓qV, ↓pd0, ↓ta0, ↓ts0, ↓pd1, ↓ta1, ↓ts1, ↓pd2, ↓ta2, ↓ts2, ↓pd3, ↓ta3, ↓ts3, ↓pd4, ↓ta4, ↓ts4, ↓pd5, ↓ta5, ↓ts5, ↓pd6, ↓ta6, ↓ts6, lGet, lSet, okS, isLg, Bool.not_false, Bool.not_true, Bool.false_eq_true, not_false_eq_true, not_true_eq_false, catS, okR1, okR20, okR21, okR2b, List.length_cons, List.length_nil, List.drop_succ_cons, List.drop_zero, List.drop_nil, and_self, true_and, and_true, false_and, and_false, Nat.reduceAdd, Nat.reduceLeDiff, Nat.zero_add, Nat.le_refl, Nat.zero_le, pushR, reduceCtorEq, or_self, or_false, false_or, true_or, or_true, per_cl hP, ↓bnd hio, bI_f, ↓per_gb hP 2 (by decide), hp.2.1, ltT, ltF, leT, leF, eqF, eqT, lt0F, ge0T, le0T, le0F, eq0T, eq0F, gt0T, gt0F, nI_add, nI_1, pk_mul, subT, sub1, divT, remN, natRem, show (10 : Int32) = nI 10 from rfl, show (2 : Int32) = nI 2 from rfl]
      rfl
end CM3
/-! what numbers are kept -/
theorem lk_iff {l : LT} {B : Nat} : (∀ i, i < l.length → lt_d l i < B ∧ lt_m l i < B) ↔ ∀ q, q ∈ l → q.1 < B ∧ q.2 < B := by
  constructor
  · intro h q hq
    obtain ⟨i, hi, e⟩ := List.getElem_of_mem hq
    have := h i hi
    unfold lt_d lt_m at this
    rw [List.getD_eq_getElem?_getD, List.getElem?_eq_getElem hi, e] at this
    exact this
  · intro h i hi
    have := h l[i] (List.getElem_mem hi)
    unfold lt_d lt_m
    rw [List.getD_eq_getElem?_getD, List.getElem?_eq_getElem hi]
    exact this
theorem spIt_m {last : Bool} {L : Nat} {q : LT × Nat} : ∀ k i, lt_m (spIt last L q k).1 i = lt_m q.1 i
  | 0, _ => rfl
  | k + 1, i => by
    show lt_m ((spIt last L q k).1.set _ _) i = _
    rw [lt_set_m]
    split
    · rename_i hc
      rw [← hc.1, spIt_m k i]
    · exact spIt_m k i
theorem spIt_d {last : Bool} {L : Nat} {q : LT × Nat} : ∀ k i, lt_d (spIt last L q k).1 i ≤ lt_d q.1 i
  | 0, _ => Nat.le_refl _
  | k + 1, i => by
    show lt_d ((spIt last L q k).1.set _ _) i ≤ _
    rw [lt_set_d]
    have ih := spIt_d (last := last) (L := L) (q := q) k i
    split
    · rename_i hc
      rw [← hc.1]
      omega
    · exact ih
theorem keep_mem {l : LT} {q : Nat × Nat} (h : q ∈ keepL l) : q ∈ l ∧ 0 < q.1 := by
  unfold keepL at h
  rw [List.mem_filter] at h
  exact ⟨h.1, of_decide_eq_true h.2⟩
theorem keep_ok {l : LT} {B : Nat} (h : ∀ i, i < l.length → lt_d l i < B ∧ lt_m l i < B) : ∀ i, i < (keepL l).length → lt_d (keepL l) i < B ∧ lt_m (keepL l) i < B := lk_iff.mpr (fun q hq => lk_iff.mp h q (keep_mem hq).1)
theorem pCommit_ok {w : Nat} {p : PT} (h : pOk p) : pOk (pCommit w p) := by
  obtain ⟨k, le, wo, ca, ow, dn, l⟩ := p
  obtain ⟨h1, h2, h3, h4, h5⟩ := h
  refine ⟨h1, Nat.min_le_left _ _, ?_, h4, h5⟩
  show ∀ i, i < (keepL _).length → lt_d (keepL _) i < 2 ^ 20 ∧ lt_m (keepL _) i < 2 ^ 20
  refine keep_ok (fun i hi => ?_)
  rw [spIt_len] at hi
  have := h3 i hi
  have h6 := spIt_d (last := isOfB k 4) (L := l.length) (q := (l, w)) l.length i
  rw [spIt_m]
  simp only at this h6 ⊢
  omega
theorem pEnd_ok {mo tm : Int32} {p : PT} (h : pOk p) : pOk (pEnd mo tm p) := by
  obtain ⟨k, le, wo, ca, ow, dn, l⟩ := p
  obtain ⟨h1, h2, h3, h4, h5⟩ := h
  refine ⟨h1, ?_, ?_, h4, h5⟩
  · show (if isOfB k 5 then ow / 2 else ow) ≤ 9999
    simp only at h2
    split <;> omega
  · show ∀ i, i < (keepL _).length → lt_d (keepL _) i < 2 ^ 20 ∧ lt_m (keepL _) i < 2 ^ 20
    refine keep_ok (fun i hi => ?_)
    rw [zap_len] at hi
    have := h3 i hi
    have h6 := zap_d (k := k) (l := l) (mo := mo) (tm := tm) l.length i
    rw [zap_m]
    simp only at this h6 ⊢
    omega
theorem pDraw_ok {w x : Nat} {p : PT} (h : pOk p) : pOk (pDraw w x p) := by
  unfold pDraw
  split
  · exact pCommit_ok h
  · exact h
theorem cDraw_ok {x : Nat} {c : CY} (h : cyOk c) : cyOk (cDraw x c) := ⟨h.1, h.2.1, h.2.2.1, fun i hi => pDraw_ok (h.2.2.2 i hi)⟩
theorem cEnd_ok {c : CY} (h : cyOk c) (hm : c.2.2.1 + 1 < 2 ^ 20) : cyOk (cEnd c) := ⟨h.1, h.2.1, hm, fun i hi => pEnd_ok (h.2.2.2 i hi)⟩
theorem mths_m (c : CY) (x : Nat) : ∀ k, (mths c x k).1.2.2.1 = c.2.2.1 + k ∧ (mths c x k).1.2.2.2.1 = c.2.2.2.1 ∧ (mths c x k).1.1 = c.1 ∧ (mths c x k).1.2.1 = c.2.1
  | 0 => ⟨rfl, rfl, rfl, rfl⟩
  | k + 1 => by
    obtain ⟨h1, h2, h3, h4⟩ := mths_m c x k
    refine ⟨?_, h2, h3, h4⟩
    show (mths c x k).1.2.2.1 + 1 = _
    omega
theorem mths_ok {c : CY} {x : Nat} (h : cyOk c) : ∀ k, c.2.2.1 + k < 2 ^ 20 → cyOk (mths c x k).1
  | 0, _ => h
  | k + 1, hk => cEnd_ok (cDraw_ok (mths_ok h k (by omega))) (by
      show (mths c x k).1.2.2.1 + 1 < 2 ^ 20
      rw [(mths_m c x k).1]
      omega)
theorem itD_lt {x : Nat} (h : x < 2147483647) : ∀ k, itD k x < 2147483647
  | 0 => h
  | k + 1 => drw_lt _
theorem mths_x {c : CY} {x : Nat} (h : x < 2147483647) : ∀ k, (mths c x k).2.1 < 2147483647
  | 0 => h
  | k + 1 => itD_lt (mths_x h k) _
