/-! ===== constructors: what they lay behind the cells that are there ===== -/
theorem okR1 (v : Int32) : okR 1 v = true := by simp [okR]
theorem okR20 : okR 2 0 = true := rfl
theorem okR21 : okR 2 1 = true := rfl
def bI (b : Bool) : Int32 := if b then 1 else 0
theorem okR2b (b : Bool) : okR 2 (bI b) = true := by cases b <;> rfl
/-- a heap: the cells l, the cell a of them now an object of class ci with the fields fs, and t behind them -/
def HH (scr : Nat × (Nat → Int32)) (l : List HC) (a ci : Nat) (fs : List Value) (t : List HC) : Hp := (scr, l.set a (.inr (ci, fs)) ++ t)
section HHS
variable {scr : Nat × (Nat → Int32)} {l t : List HC} {a ci : Nat} {fs : List Value}
theorem HH_start (h : l[a]? = some (.inr (ci, fs))) : (scr, l) = HH scr l a ci fs [] := by
  unfold HH
  rw [List.append_nil]
  refine Prod.ext rfl ?_
  show l = l.set a _
  apply List.ext_getElem?
  intro j
  rw [List.getElem?_set]
  have hb := (List.getElem?_eq_some_iff.mp h).1
  by_cases hj : a = j
  · subst hj
    rw [if_pos rfl, if_pos hb, h]
  · rw [if_neg hj]
theorem HH_get (hl : a < l.length) : hGet (HH scr l a ci fs t) (a + 2) = some (.inr (ci, fs)) := by
  show (l.set a (.inr (ci, fs)) ++ t)[a]? = _
  rw [List.getElem?_append_left (by rw [List.length_set]; exact hl), List.getElem?_set, if_pos rfl, if_pos hl]
theorem HH_getF (hl : a < l.length) (k : Nat) : getF (HH scr l a ci fs t) ci k (a + 2) = fs[k]? := by
  unfold getF
  rw [HH_get hl]
  simp
theorem HH_putF (hl : a < l.length) (k : Nat) (v : Value) : putF (HH scr l a ci fs t) ci k (a + 2) v = if k < fs.length ∧ okF (fTy ci k) v = true then some (HH scr l a ci (fs.set k v) t) else none := by
  unfold putF
  rw [HH_get hl]
  simp only [true_and]
  congr 2
  unfold hSet HH
  refine Prod.ext rfl ?_
  show (l.set a (.inr (ci, fs)) ++ t).set (a + 2 - 2) _ = _
  rw [Nat.add_sub_cancel, List.set_append_left _ _ (by rw [List.length_set]; exact hl), List.set_set]
theorem HH_new (es : List HC) : hNew (HH scr l a ci fs t) es = HH scr l a ci fs (t ++ es) := by
  unfold hNew HH
  rw [List.append_assoc]
theorem HH_len : (HH scr l a ci fs t).2.length = l.length + t.length := by
  unfold HH
  simp
theorem HH_tail (i : Nat) : hGet (HH scr l a ci fs t) (l.length + i + 2) = t[i]? := by
  show (l.set a (.inr (ci, fs)) ++ t)[l.length + i]? = _
  rw [List.getElem?_append_right (by rw [List.length_set]; omega), List.length_set, Nat.add_sub_cancel_left]
theorem HH_tset (i : Nat) (e : HC) : hSet (HH scr l a ci fs t) (l.length + i + 2) e = HH scr l a ci fs (t.set i e) := by
  unfold hSet HH
  refine Prod.ext rfl ?_
  show (l.set a (.inr (ci, fs)) ++ t).set (l.length + i + 2 - 2) _ = _
  rw [Nat.add_sub_cancel, List.set_append_right _ _ (by rw [List.length_set]; omega), List.length_set, Nat.add_sub_cancel_left]
theorem HH_aast {tg m j ci' : Nat} {f : Nat → Option Nat} {vs : List Value} {i : Int32} (i0 : Nat) (ht : t[i0]? = some (.inl (tg, m, .inr (.inr (.inr (.inr f)))))) (hv : t[j]? = some (.inr (ci', vs))) (hc : (tg = 3 ∧ ci' = 4) ∨ (tg = 4 ∧ ci' = 2)) (hi : inB i m = true) : aastF (HH scr l a ci fs t) (l.length + i0 + 2) i (l.length + j + 2) = some (HH scr l a ci fs (t.set i0 (.inl (tg, m, .inr (.inr (.inr (.inr (va_up f i.toNatClampNeg (some (l.length + j + 2))))))))) ) := by
  unfold aastF
  rw [HH_tail, HH_tail, ht, hv]
  simp only [hc, hi, and_self, if_true]
  rw [HH_tset]
theorem HH_iast {m : Nat} {f : Nat → Int32} {i x : Int32} (i0 : Nat) (ht : t[i0]? = some (.inl (0, m, .inl f))) (hi : inB i m = true) : iastF (HH scr l a ci fs t) (l.length + i0 + 2) i x = some (HH scr l a ci fs (t.set i0 (.inl (0, m, .inl (upd f i.toNatClampNeg x))))) := by
  unfold iastF
  rw [HH_tail, ht]
  simp only [hi, and_self, if_true, show 2 ≤ l.length + i0 + 2 by omega]
  rw [HH_tset]
end HHS
/-- a constructor lays F into its object's fields, T behind all cells -/
def CtO (d y : Nat) (as : List Value) (ci : Nat) (F : Nat → List Value) (T : Nat → List HC) : Prop := ∀ (scr : Nat × (Nat → Int32)) (l : List HC) (a : Nat), l[a]? = some (.inr (ci, dflt ci)) → EvM d y (.ref (a + 2) :: as) (scr, l) = some (0, (scr, l.set a (.inr (ci, F l.length)) ++ T l.length))
theorem ct_tail {d y : Nat} {as : List Value} {ci' : Nat} {F : Nat → List Value} {T : Nat → List HC} (h : CtO d y as ci' F T) {scr : Nat × (Nat → Int32)} {l : List HC} {a ci : Nat} {fs : List Value} (t : List HC) : EvM d y (.ref (l.length + t.length + 2) :: as) (HH scr l a ci fs (t ++ [.inr (ci', dflt ci')])) = some (0, HH scr l a ci fs (t ++ (.inr (ci', F (l.length + t.length + 1)) :: T (l.length + t.length + 1)))) := by
  have h1 := h scr (l.set a (.inr (ci, fs)) ++ (t ++ [.inr (ci', dflt ci')])) (l.length + t.length) (by
    rw [List.getElem?_append_right (by rw [List.length_set]; omega), List.length_set, List.getElem?_append_right (by omega), show l.length + t.length - l.length - t.length = 0 by omega]
    rfl)
  have e : (l.set a ((.inr (ci, fs)) : HC) ++ (t ++ [(.inr (ci', dflt ci') : HC)])).length = l.length + t.length + 1 := by simp; omega
  rw [e] at h1
  unfold HH
  rw [h1]
  refine congrArg some (Prod.ext rfl (Prod.ext rfl ?_))
  show (l.set a _ ++ (t ++ [_])).set (l.length + t.length) _ ++ _ = _
  rw [List.set_append_right _ _ (by rw [List.length_set]; omega), List.length_set, List.set_append_right _ _ (by omega), show l.length + t.length - l.length - t.length = 0 by omega, List.append_assoc, List.append_assoc]
  rfl
abbrev a0 (n : Nat) : HC := .inl (0, n, .inl (fun _ => 0))
def perF (x : Int32) (n : Nat) : List Value := [.int x, .int 0, .int 0, .int 0, .int 0, .int 0, .int 0, .int 0, .ref (n + 2), .ref (n + 3)]
theorem d_per : dflt 4 = [.int 0, .int 0, .int 0, .int 0, .int 0, .int 0, .int 0, .int 0, .null, .null] := rfl
theorem ft_per (k : Nat) (hk : k < 8) (x : Int32) : okF (fTy 4 k) (.int x) = true := by
  match k, hk with
  | 0, _ => rfl
  | 1, _ => rfl
  | 2, _ => rfl
  | 3, _ => rfl
  | 4, _ => rfl
  | 5, _ => rfl
  | 6, _ => rfl
  | 7, _ => rfl
theorem fr_per8 (r : Nat) : okF (fTy 4 8) (.ref r) = true := rfl
theorem fr_per9 (r : Nat) : okF (fTy 4 9) (.ref r) = true := rfl
theorem i6 : (6 : Int32).toNatClampNeg = 6 := rfl
theorem i6p : (0 : Int32) ≤ 6 := by decide
theorem ct_per (d : Nat) (x : Int32) : CtO (d + 1) 46 [.int x] 4 (perF x) (fun _ => [a0 6, a0 6]) := by
  intro scr l a h
  have hl := (List.getElem?_eq_some_iff.mp h).1
  rw [HH_start h, ev46, d_per]
  rw [e46_0]
  simp only [e46_0, e46_1, e46_4, e46_5, e46_6, e46_9, e46_10, e46_11, e46_14, e46_15, e46_16, e46_19, e46_20, e46_21, e46_24, e46_25, e46_26, e46_29, e46_30, e46_31, e46_34, e46_35, e46_36, e46_39, e46_40, e46_42, e46_44, e46_47, e46_48, e46_50, e46_52, e46_55, e46_56, e46_57, e46_60, lGet, lSet, asI, asR, asL, popI, popI2, popL, popL2, popR, popV, okS, isLg, Bool.not_false, Bool.not_true, Bool.false_eq_true, if_true, if_false, Option.bind_some, Option.bind_none, catS, okR1, okR20, okR21, okR2b, List.length_cons, List.length_nil, List.drop_succ_cons, List.drop_zero, List.drop_nil, List.take_succ_cons, List.take_zero, List.reverse_cons, List.reverse_nil, List.nil_append, List.cons_append, and_self, true_and, and_true, Nat.reduceAdd, Nat.reduceLeDiff, Nat.zero_add, Nat.le_refl, Nat.zero_le, ite_self, pushR, reduceCtorEq, or_self, or_false, false_or, HH_putF hl, HH_new, HH_len, ft_per, fr_per8, fr_per9, List.set_cons_zero, List.set_cons_succ, i6p, i6, Nat.reduceLT]
  rfl
def arrR (t m : Nat) (f : Nat → Option Nat) : HC := .inl (t, m, .inr (.inr (.inr (.inr f))))
/-- k persons of a county whose array of persons is the cell n -/
def cpF (n : Nat) : Nat → Nat → Option Nat
  | 0 => fun _ => none
  | k + 1 => va_up (cpF n k) k (some (n + 3 + 3 * k))
def cpB (n : Nat) : Nat → List HC
  | 0 => []
  | k + 1 => cpB n k ++ [.inr (4, perF (nI k) (n + 1 + 3 * k + 1)), a0 6, a0 6]
def cpT (n k : Nat) : List HC := arrR 3 6 (cpF n k) :: cpB n k
theorem cpB_len (n : Nat) : ∀ k, (cpB n k).length = 3 * k
  | 0 => rfl
  | k + 1 => by rw [cpB, List.length_append, cpB_len n k]; simp; omega
def ctyF (n : Nat) : List Value := [.int 1, .int 1, .int 0, .int 0, .ref (n + 2)]
def ctyT (n : Nat) : List HC := cpT n 6
theorem d_cty : dflt 2 = [.int 0, .int 0, .int 0, .int 0, .null] := rfl
theorem ft_cty (k : Nat) (hk : k < 4) (x : Int32) : okF (fTy 2 k) (.int x) = true := by
  match k, hk with
  | 0, _ => rfl
  | 1, _ => rfl
  | 2, _ => rfl
  | 3, _ => rfl
theorem fr_cty4 (r : Nat) : okF (fTy 2 4) (.ref r) = true := rfl
/-- one person more, at the place k of the array -/
theorem cp_step (d : Nat) {scr : Nat × (Nat → Int32)} {l : List HC} {a : Nat} {fs : List Value} (k : Nat) (hk : k < 6) :
    EvM (d + 1) 46 [.ref ((HH scr l a 2 fs (cpT l.length k)).2.length + 2), .int (nI k)] (hNew (HH scr l a 2 fs (cpT l.length k)) [.inr (4, dflt 4)]) = some (0, HH scr l a 2 fs (cpT l.length k ++ [.inr (4, perF (nI k) (l.length + 1 + 3 * k + 1)), a0 6, a0 6]))
    ∧ aastF (HH scr l a 2 fs (cpT l.length k ++ [.inr (4, perF (nI k) (l.length + 1 + 3 * k + 1)), a0 6, a0 6])) (l.length + 0 + 2) (nI k) ((HH scr l a 2 fs (cpT l.length k)).2.length + 2) = some (HH scr l a 2 fs (cpT l.length (k + 1))) := by
  have hlen : (cpT l.length k).length = 1 + 3 * k := by unfold cpT; rw [List.length_cons, cpB_len]; omega
  constructor
  · rw [HH_len, HH_new, ct_tail (ct_per d (nI k)) (cpT l.length k), hlen]
    rw [show l.length + (1 + 3 * k) + 1 = l.length + 1 + 3 * k + 1 by omega]
  · rw [HH_len, HH_aast 0 (tg := 3) (m := 6) (f := cpF l.length k) (j := (cpT l.length k).length) (ci' := 4) (vs := perF (nI k) (l.length + 1 + 3 * k + 1)) rfl (by rw [List.getElem?_append_right (Nat.le_refl _), Nat.sub_self]; rfl) (Or.inl ⟨rfl, rfl⟩) (inB_iff.mpr (vp_in_nI hk (by decide)))]
    rw [nI_clamp (by omega), hlen]
    show some (HH scr l a 2 fs (arrR 3 6 (va_up (cpF l.length k) k (some (l.length + (1 + 3 * k) + 2))) :: (cpB l.length k ++ _))) = _
    rw [show l.length + (1 + 3 * k) + 2 = l.length + 3 + 3 * k by omega]
    rfl
theorem ct_cty (d : Nat) : CtO (d + 2) 17 [] 2 ctyF ctyT := by
  intro scr l a h
  have hl := (List.getElem?_eq_some_iff.mp h).1
  rw [HH_start h, ev17, d_cty]
  rw [e17_0]
  have a0 := fun fs => (cp_step d (scr := scr) (l := l) (a := a) (fs := fs) 0 (by decide)).1
  have b0 := fun fs => (cp_step d (scr := scr) (l := l) (a := a) (fs := fs) 0 (by decide)).2
  simp only [show nI 0 = (0 : Int32) from rfl] at a0 b0
  have a1 := fun fs => (cp_step d (scr := scr) (l := l) (a := a) (fs := fs) 1 (by decide)).1
  have b1 := fun fs => (cp_step d (scr := scr) (l := l) (a := a) (fs := fs) 1 (by decide)).2
  simp only [show nI 1 = (1 : Int32) from rfl] at a1 b1
  have a2 := fun fs => (cp_step d (scr := scr) (l := l) (a := a) (fs := fs) 2 (by decide)).1
  have b2 := fun fs => (cp_step d (scr := scr) (l := l) (a := a) (fs := fs) 2 (by decide)).2
  simp only [show nI 2 = (2 : Int32) from rfl] at a2 b2
  have a3 := fun fs => (cp_step d (scr := scr) (l := l) (a := a) (fs := fs) 3 (by decide)).1
  have b3 := fun fs => (cp_step d (scr := scr) (l := l) (a := a) (fs := fs) 3 (by decide)).2
  simp only [show nI 3 = (3 : Int32) from rfl] at a3 b3
  have a4 := fun fs => (cp_step d (scr := scr) (l := l) (a := a) (fs := fs) 4 (by decide)).1
  have b4 := fun fs => (cp_step d (scr := scr) (l := l) (a := a) (fs := fs) 4 (by decide)).2
  simp only [show nI 4 = (4 : Int32) from rfl] at a4 b4
  have a5 := fun fs => (cp_step d (scr := scr) (l := l) (a := a) (fs := fs) 5 (by decide)).1
  have b5 := fun fs => (cp_step d (scr := scr) (l := l) (a := a) (fs := fs) 5 (by decide)).2
  simp only [show nI 5 = (5 : Int32) from rfl] at a5 b5
  have z : ∀ fs, HH scr l a 2 fs ([] ++ [mkArr 3 6]) = HH scr l a 2 fs (cpT l.length 0) := fun _ => rfl
  simp only [e17_1, e17_4, e17_5, e17_6, e17_9, e17_10, e17_11, e17_14, e17_15, e17_16, e17_19, e17_20, e17_21, e17_24, e17_25, e17_27, lGet, lSet, asI, asR, asL, popI, popI2, popL, popL2, popR, popV, okS, isLg, Bool.not_false, Bool.not_true, Bool.false_eq_true, if_true, if_false, Option.bind_some, Option.bind_none, catS, okR1, okR20, okR21, okR2b, List.length_cons, List.length_nil, List.drop_succ_cons, List.drop_zero, List.drop_nil, List.take_succ_cons, List.take_zero, List.reverse_cons, List.reverse_nil, and_self, true_and, and_true, Nat.reduceAdd, Nat.reduceLeDiff, Nat.zero_add, Nat.le_refl, Nat.zero_le, ite_self, reduceCtorEq, or_self, or_false, false_or, HH_putF hl, HH_new, HH_len, ft_cty, fr_cty4, List.set_cons_zero, List.set_cons_succ, i6p, i6, Nat.reduceLT, true_or, z]
  simp only [e17_30, e17_31, e17_32, e17_35, e17_36, e17_37, e17_40, lGet, lSet, asI, asR, asL, popI, popI2, popL, popL2, popR, popV, okS, isLg, Bool.not_false, Bool.not_true, Bool.false_eq_true, if_true, if_false, Option.bind_some, Option.bind_none, catS, okR1, okR20, okR21, okR2b, List.length_cons, List.length_nil, List.drop_succ_cons, List.drop_zero, List.drop_nil, List.take_succ_cons, List.take_zero, List.reverse_cons, List.reverse_nil, and_self, true_and, and_true, Nat.reduceAdd, Nat.reduceLeDiff, Nat.zero_add, Nat.le_refl, Nat.zero_le, ite_self, reduceCtorEq, or_self, or_false, false_or, a0, b0, List.nil_append, List.cons_append]
  simp only [e17_41, e17_42, e17_43, e17_46, e17_47, e17_48, e17_51, lGet, lSet, asI, asR, asL, popI, popI2, popL, popL2, popR, popV, okS, isLg, Bool.not_false, Bool.not_true, Bool.false_eq_true, if_true, if_false, Option.bind_some, Option.bind_none, catS, okR1, okR20, okR21, okR2b, List.length_cons, List.length_nil, List.drop_succ_cons, List.drop_zero, List.drop_nil, List.take_succ_cons, List.take_zero, List.reverse_cons, List.reverse_nil, and_self, true_and, and_true, Nat.reduceAdd, Nat.reduceLeDiff, Nat.zero_add, Nat.le_refl, Nat.zero_le, ite_self, reduceCtorEq, or_self, or_false, false_or, a1, b1, List.nil_append, List.cons_append]
  simp only [e17_52, e17_53, e17_54, e17_57, e17_58, e17_59, e17_62, lGet, lSet, asI, asR, asL, popI, popI2, popL, popL2, popR, popV, okS, isLg, Bool.not_false, Bool.not_true, Bool.false_eq_true, if_true, if_false, Option.bind_some, Option.bind_none, catS, okR1, okR20, okR21, okR2b, List.length_cons, List.length_nil, List.drop_succ_cons, List.drop_zero, List.drop_nil, List.take_succ_cons, List.take_zero, List.reverse_cons, List.reverse_nil, and_self, true_and, and_true, Nat.reduceAdd, Nat.reduceLeDiff, Nat.zero_add, Nat.le_refl, Nat.zero_le, ite_self, reduceCtorEq, or_self, or_false, false_or, a2, b2, List.nil_append, List.cons_append]
  simp only [e17_63, e17_64, e17_65, e17_68, e17_69, e17_70, e17_73, lGet, lSet, asI, asR, asL, popI, popI2, popL, popL2, popR, popV, okS, isLg, Bool.not_false, Bool.not_true, Bool.false_eq_true, if_true, if_false, Option.bind_some, Option.bind_none, catS, okR1, okR20, okR21, okR2b, List.length_cons, List.length_nil, List.drop_succ_cons, List.drop_zero, List.drop_nil, List.take_succ_cons, List.take_zero, List.reverse_cons, List.reverse_nil, and_self, true_and, and_true, Nat.reduceAdd, Nat.reduceLeDiff, Nat.zero_add, Nat.le_refl, Nat.zero_le, ite_self, reduceCtorEq, or_self, or_false, false_or, a3, b3, List.nil_append, List.cons_append]
  simp only [e17_74, e17_75, e17_76, e17_79, e17_80, e17_81, e17_84, lGet, lSet, asI, asR, asL, popI, popI2, popL, popL2, popR, popV, okS, isLg, Bool.not_false, Bool.not_true, Bool.false_eq_true, if_true, if_false, Option.bind_some, Option.bind_none, catS, okR1, okR20, okR21, okR2b, List.length_cons, List.length_nil, List.drop_succ_cons, List.drop_zero, List.drop_nil, List.take_succ_cons, List.take_zero, List.reverse_cons, List.reverse_nil, and_self, true_and, and_true, Nat.reduceAdd, Nat.reduceLeDiff, Nat.zero_add, Nat.le_refl, Nat.zero_le, ite_self, reduceCtorEq, or_self, or_false, false_or, a4, b4, List.nil_append, List.cons_append]
  simp only [e17_85, e17_86, e17_87, e17_90, e17_91, e17_92, e17_95, lGet, lSet, asI, asR, asL, popI, popI2, popL, popL2, popR, popV, okS, isLg, Bool.not_false, Bool.not_true, Bool.false_eq_true, if_true, if_false, Option.bind_some, Option.bind_none, catS, okR1, okR20, okR21, okR2b, List.length_cons, List.length_nil, List.drop_succ_cons, List.drop_zero, List.drop_nil, List.take_succ_cons, List.take_zero, List.reverse_cons, List.reverse_nil, and_self, true_and, and_true, Nat.reduceAdd, Nat.reduceLeDiff, Nat.zero_add, Nat.le_refl, Nat.zero_le, ite_self, reduceCtorEq, or_self, or_false, false_or, a5, b5, List.nil_append, List.cons_append]
  simp only [e17_96, e17_99, lGet, lSet, asI, asR, asL, popI, popI2, popL, popL2, popR, popV, okS, isLg, Bool.not_false, Bool.not_true, Bool.false_eq_true, if_true, if_false, Option.bind_some, Option.bind_none, catS, okR1, okR20, okR21, okR2b, List.length_cons, List.length_nil, List.drop_succ_cons, List.drop_zero, List.drop_nil, List.take_succ_cons, List.take_zero, List.reverse_cons, List.reverse_nil, and_self, true_and, and_true, Nat.reduceAdd, Nat.reduceLeDiff, Nat.zero_add, Nat.le_refl, Nat.zero_le, ite_self, reduceCtorEq, or_self, or_false, false_or, HH_putF hl, fr_cty4, List.set_cons_zero, List.set_cons_succ, Nat.reduceLT]
  trace_state
  rfl
