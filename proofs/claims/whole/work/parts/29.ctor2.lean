/-! ===== the other constructors ===== -/
section HH2
variable {scr : Nat × (Nat → Int32)} {l t : List HC} {a ci : Nat} {fs : List Value}
theorem HH_iastE (i0 : Nat) (i x : Int32) : iastF (HH scr l a ci fs t) (l.length + i0 + 2) i x = match t[i0]? with
    | some (.inl (0, m, .inl f)) => if inB i m = true then some (HH scr l a ci fs (t.set i0 (.inl (0, m, .inl (upd f i.toNatClampNeg x))))) else none
    | _ => none := by
  unfold iastF
  rw [HH_tail]
  split
  · rename_i m f h
    rw [h]
    simp only [show 2 ≤ l.length + i0 + 2 by omega, true_and, HH_tset]
  · rename_i h
    split
    · rename_i m f h2
      exact absurd h2 (h m f)
    · rfl
end HH2
theorem c_n (n : Nat) (x : Int32) (hx : x = nI n) (hn : n < 2 ^ 31) : (0 : Int32) ≤ x ∧ x.toNatClampNeg = n := by
  subst hx
  exact ⟨nI_pos' hn, nI_clamp hn⟩
theorem p16 : (0 : Int32) ≤ 16 := by decide
theorem t16 : (16 : Int32).toNatClampNeg = 16 := rfl
theorem p8 : (0 : Int32) ≤ 8 := by decide
theorem t8 : (8 : Int32).toNatClampNeg = 8 := rfl
theorem p40 : (0 : Int32) ≤ 40 := by decide
theorem t40 : (40 : Int32).toNatClampNeg = 40 := rfl
theorem p256 : (0 : Int32) ≤ 256 := by decide
theorem t256 : (256 : Int32).toNatClampNeg = 256 := rfl
theorem p120 : (0 : Int32) ≤ 120 := by decide
theorem t120 : (120 : Int32).toNatClampNeg = 120 := rfl
theorem p24 : (0 : Int32) ≤ 24 := by decide
theorem t24 : (24 : Int32).toNatClampNeg = 24 := rfl
theorem p7 : (0 : Int32) ≤ 7 := by decide
theorem t7 : (7 : Int32).toNatClampNeg = 7 := rfl
theorem p12 : (0 : Int32) ≤ 12 := by decide
theorem t12 : (12 : Int32).toNatClampNeg = 12 := rfl
theorem p2 : (0 : Int32) ≤ 2 := by decide
theorem t2 : (2 : Int32).toNatClampNeg = 2 := rfl
theorem p476 : (0 : Int32) ≤ 476 := by decide
theorem t476 : (476 : Int32).toNatClampNeg = 476 := rfl
theorem p2328 : (0 : Int32) ≤ 2328 := by decide
theorem t2328 : (2328 : Int32).toNatClampNeg = 2328 := rfl
theorem p320 : (0 : Int32) ≤ 320 := by decide
theorem t320 : (320 : Int32).toNatClampNeg = 320 := rfl
theorem t0 : (0 : Int32).toNatClampNeg = 0 := rfl
theorem t1 : (1 : Int32).toNatClampNeg = 1 := rfl
theorem t3 : (3 : Int32).toNatClampNeg = 3 := rfl
theorem t4 : (4 : Int32).toNatClampNeg = 4 := rfl
theorem t5 : (5 : Int32).toNatClampNeg = 5 := rfl
theorem t9 : (9 : Int32).toNatClampNeg = 9 := rfl
theorem t10 : (10 : Int32).toNatClampNeg = 10 := rfl
theorem t11 : (11 : Int32).toNatClampNeg = 11 := rfl
theorem mk0 (n : Nat) : mkArr 0 n = .inl (0, n, .inl (fun _ => 0)) := rfl
theorem mk1 (n : Nat) : mkArr 1 n = .inl (1, n, .inl (fun _ => 0)) := rfl
-- Asks
def askF (n : Nat) : List Value := [.ref (n + 2), .int 0]
theorem ct_ask (d : Nat) : CtO (d + 1) 3 [] 1 askF (fun _ => [a0 16]) := by
  intro scr l a h
  have hl := (List.getElem?_eq_some_iff.mp h).1
  rw [HH_start h, ev3, show dflt 1 = [.null, .int 0] from rfl]
  rw [e3_0]
  simp only [e3_0, e3_1, e3_4, e3_5, e3_7, e3_9, e3_12, e3_13, e3_14, e3_17, lGet, lSet, asI, asR, asL, popI, popI2, popL, popL2, popR, popV, okS, isLg, Bool.not_false, Bool.not_true, Bool.false_eq_true, if_true, if_false, Option.bind_some, Option.bind_none, catS, okR1, okR20, okR21, okR2b, List.length_cons, List.length_nil, List.drop_succ_cons, List.drop_zero, List.drop_nil, List.take_succ_cons, List.take_zero, List.reverse_cons, List.reverse_nil, List.nil_append, List.cons_append, and_self, true_and, and_true, Nat.reduceAdd, Nat.reduceLeDiff, Nat.zero_add, Nat.le_refl, Nat.zero_le, ite_self, pushR, reduceCtorEq, or_self, or_false, false_or, HH_putF hl, HH_new, HH_len, show ∀ r, okF (fTy 1 0) (.ref r) = true from fun _ => rfl, show ∀ x, okF (fTy 1 1) (.int x) = true from fun _ => rfl, List.set_cons_zero, List.set_cons_succ, p16, t16, Nat.reduceLT, mk0]
  rfl
-- Tape
def tapF (n : Nat) : List Value := [.ref (n + 2), .int 0, .int 0, .int 0, .int 0, .int 0]
theorem ct_tap (d : Nat) : CtO (d + 1) 75 [] 7 tapF (fun _ => [a0 120]) := by
  intro scr l a h
  have hl := (List.getElem?_eq_some_iff.mp h).1
  rw [HH_start h, ev75, show dflt 7 = [.null, .int 0, .int 0, .int 0, .int 0, .int 0] from rfl]
  rw [e75_0]
  simp only [e75_0, e75_1, e75_4, e75_5, e75_7, e75_9, e75_12, e75_13, e75_14, e75_17, e75_18, e75_19, e75_22, e75_23, e75_24, e75_27, e75_28, e75_29, e75_32, e75_33, e75_34, e75_37, lGet, lSet, asI, asR, asL, popI, popI2, popL, popL2, popR, popV, okS, isLg, Bool.not_false, Bool.not_true, Bool.false_eq_true, if_true, if_false, Option.bind_some, Option.bind_none, catS, okR1, okR20, okR21, okR2b, List.length_cons, List.length_nil, List.drop_succ_cons, List.drop_zero, List.drop_nil, List.take_succ_cons, List.take_zero, List.reverse_cons, List.reverse_nil, List.nil_append, List.cons_append, and_self, true_and, and_true, Nat.reduceAdd, Nat.reduceLeDiff, Nat.zero_add, Nat.le_refl, Nat.zero_le, ite_self, pushR, reduceCtorEq, or_self, or_false, false_or, HH_putF hl, HH_new, HH_len, show ∀ r, okF (fTy 7 0) (.ref r) = true from fun _ => rfl, show ∀ x, okF (fTy 7 1) (.int x) = true from fun _ => rfl, show ∀ x, okF (fTy 7 2) (.int x) = true from fun _ => rfl, show ∀ x, okF (fTy 7 3) (.int x) = true from fun _ => rfl, show ∀ x, okF (fTy 7 4) (.int x) = true from fun _ => rfl, show ∀ x, okF (fTy 7 5) (.int x) = true from fun _ => rfl, List.set_cons_zero, List.set_cons_succ, p120, t120, Nat.reduceLT, mk0]
  rfl
-- Sets
def setF (n : Nat) : List Value := [.int 0, .int (-1000000), .ref (n + 2), .ref (n + 3), .ref (n + 4)]
theorem ct_set (d : Nat) : CtO (d + 1) 68 [] 6 setF (fun _ => [a0 256, a0 256, a0 256]) := by
  intro scr l a h
  have hl := (List.getElem?_eq_some_iff.mp h).1
  rw [HH_start h, ev68, show dflt 6 = [.int 0, .int 0, .null, .null, .null] from rfl]
  rw [e68_0]
  simp only [e68_0, e68_1, e68_4, e68_5, e68_6, e68_9, e68_10, e68_12, e68_15, e68_16, e68_19, e68_21, e68_24, e68_25, e68_28, e68_30, e68_33, e68_34, e68_37, e68_39, e68_42, lGet, lSet, asI, asR, asL, popI, popI2, popL, popL2, popR, popV, okS, isLg, Bool.not_false, Bool.not_true, Bool.false_eq_true, if_true, if_false, Option.bind_some, Option.bind_none, catS, okR1, okR20, okR21, okR2b, List.length_cons, List.length_nil, List.drop_succ_cons, List.drop_zero, List.drop_nil, List.take_succ_cons, List.take_zero, List.reverse_cons, List.reverse_nil, List.nil_append, List.cons_append, and_self, true_and, and_true, Nat.reduceAdd, Nat.reduceLeDiff, Nat.zero_add, Nat.le_refl, Nat.zero_le, ite_self, pushR, reduceCtorEq, or_self, or_false, false_or, HH_putF hl, HH_new, HH_len, show ∀ x, okF (fTy 6 0) (.int x) = true from fun _ => rfl, show ∀ x, okF (fTy 6 1) (.int x) = true from fun _ => rfl, show ∀ x, okF (fTy 6 2) (.ref x) = true from fun _ => rfl, show ∀ x, okF (fTy 6 3) (.ref x) = true from fun _ => rfl, show ∀ x, okF (fTy 6 4) (.ref x) = true from fun _ => rfl, List.set_cons_zero, List.set_cons_succ, p256, t256, Nat.reduceLT, mk0]
  rfl
-- Rows
def m8 (z : Int32) : Nat → Int32 := upd (upd (upd (upd (upd (upd (upd (upd (fun _ => 0) 0 z) 1 z) 2 z) 3 z) 4 z) 5 z) 6 z) 7 z
def rowF (n : Nat) : List Value := [.ref (n + 2), .ref (n + 3), .ref (n + 4)]
def rowT (n : Nat) : List HC := [.inl (0, 8, .inl (m8 (-1))), a0 8, arrR 2 8 (fun i => if i < 8 then some (n + 2 + 2 + 1 + i) else none), a0 40, a0 40, a0 40, a0 40, a0 40, a0 40, a0 40, a0 40]
theorem ct_row (d : Nat) : CtO (d + 1) 60 [] 5 rowF rowT := by
  intro scr l a h
  have hl := (List.getElem?_eq_some_iff.mp h).1
  rw [HH_start h, ev60, show dflt 5 = [.null, .null, .null] from rfl]
  rw [e60_0]
  simp only [e60_0, e60_1, e60_4, e60_5, e60_7, e60_9, e60_10, e60_11, e60_12, e60_13, e60_14, e60_15, e60_16, e60_17, e60_18, e60_19, e60_20, e60_21, e60_22, e60_23, e60_24, e60_25, e60_26, e60_27, e60_28, e60_29, e60_30, e60_31, e60_32, e60_33, e60_34, e60_36, e60_37, e60_38, e60_39, e60_41, e60_42, e60_43, e60_46, e60_47, e60_49, e60_51, e60_54, e60_55, e60_57, e60_59, e60_63, e60_66, lGet, lSet, asI, asR, asL, popI, popI2, popL, popL2, popR, popV, okS, isLg, Bool.not_false, Bool.not_true, Bool.false_eq_true, if_true, if_false, Option.bind_some, Option.bind_none, catS, okR1, okR20, okR21, okR2b, List.length_cons, List.length_nil, List.drop_succ_cons, List.drop_zero, List.drop_nil, List.take_succ_cons, List.take_zero, List.reverse_cons, List.reverse_nil, List.nil_append, List.cons_append, and_self, true_and, and_true, Nat.reduceAdd, Nat.reduceLeDiff, Nat.zero_add, Nat.le_refl, Nat.zero_le, ite_self, pushR, reduceCtorEq, or_self, or_false, false_or, HH_putF hl, HH_new, HH_len, show ∀ x, okF (fTy 5 0) (.ref x) = true from fun _ => rfl, show ∀ x, okF (fTy 5 1) (.ref x) = true from fun _ => rfl, show ∀ x, okF (fTy 5 2) (.ref x) = true from fun _ => rfl, List.set_cons_zero, List.set_cons_succ, p8, t8, p40, t40, Nat.reduceLT, mk0, HH_iastE (l := l) 0, List.getElem?_cons_zero, t0, t1, t2, t3, t4, t5, t7, i6, show inB 0 8 = true from rfl, show inB 1 8 = true from rfl, show inB 2 8 = true from rfl, show inB 3 8 = true from rfl, show inB 4 8 = true from rfl, show inB 5 8 = true from rfl, show inB 6 8 = true from rfl, show inB 7 8 = true from rfl, mkMulti]
  rfl
-- Acts
def acF (n : Nat) : Nat → Nat → Option Nat
  | 0 => fun _ => none
  | k + 1 => va_up (acF n k) k (some (n + 3 + 20 * k))
def acB (n : Nat) : Nat → List HC
  | 0 => []
  | k + 1 => acB n k ++ (.inr (2, ctyF (n + 1 + 20 * k + 1)) :: ctyT (n + 1 + 20 * k + 1))
def acT (n k : Nat) : List HC := arrR 4 24 (acF n k) :: acB n k
theorem ctyT_len (n : Nat) : (ctyT n).length = 19 := by unfold ctyT cpT; rw [List.length_cons, cpB_len]
theorem acB_len (n : Nat) : ∀ k, (acB n k).length = 20 * k
  | 0 => rfl
  | k + 1 => by rw [acB, List.length_append, acB_len n k, List.length_cons, ctyT_len]; omega
theorem ac_step (d : Nat) {scr : Nat × (Nat → Int32)} {l : List HC} {a : Nat} {fs : List Value} (k : Nat) (hk : k < 24) :
    EvM (d + 2) 17 [.ref ((HH scr l a 0 fs (acT l.length k)).2.length + 2)] (hNew (HH scr l a 0 fs (acT l.length k)) [.inr (2, dflt 2)]) = some (0, HH scr l a 0 fs (acT l.length k ++ (.inr (2, ctyF (l.length + 1 + 20 * k + 1)) :: ctyT (l.length + 1 + 20 * k + 1))))
    ∧ aastF (HH scr l a 0 fs (acT l.length k ++ (.inr (2, ctyF (l.length + 1 + 20 * k + 1)) :: ctyT (l.length + 1 + 20 * k + 1)))) (l.length + 0 + 2) (nI k) ((HH scr l a 0 fs (acT l.length k)).2.length + 2) = some (HH scr l a 0 fs (acT l.length (k + 1))) := by
  have hlen : (acT l.length k).length = 1 + 20 * k := by unfold acT; rw [List.length_cons, acB_len]; omega
  constructor
  · rw [HH_len, HH_new, ct_tail (ct_cty d) (acT l.length k), hlen]
    rw [show l.length + (1 + 20 * k) + 1 = l.length + 1 + 20 * k + 1 by omega]
  · rw [HH_len, HH_aast 0 (tg := 4) (m := 24) (f := acF l.length k) (j := (acT l.length k).length) (ci' := 2) (vs := ctyF (l.length + 1 + 20 * k + 1)) rfl (by rw [List.getElem?_append_right (Nat.le_refl _), Nat.sub_self]; rfl) (Or.inr ⟨rfl, rfl⟩) (inB_iff.mpr (vp_in_nI hk (by decide)))]
    rw [nI_clamp (by omega), hlen]
    show some (HH scr l a 0 fs (arrR 4 24 (va_up (acF l.length k) k (some (l.length + (1 + 20 * k) + 2))) :: (acB l.length k ++ _))) = _
    rw [show l.length + (1 + 20 * k) + 2 = l.length + 3 + 20 * k by omega]
    rfl
def actF (n : Nat) : List Value := [.ref (n + 2), .int 0, .int 0]
theorem ct_act (d : Nat) : CtO (d + 3) 0 [] 0 actF (fun n => acT n 24) := by
  intro scr l a h
  have hl := (List.getElem?_eq_some_iff.mp h).1
  rw [HH_start h, ev0, show dflt 0 = [.null, .int 0, .int 0] from rfl]
  have lp : ∀ m k : Nat, k + m = 24 → EvI (EvM (d + 2)) C0 0 25 [.ref (a + 2), .int (nI k)] [] (HH scr l a 0 (actF l.length) (acT l.length k)) = some (0, HH scr l a 0 (actF l.length) (acT l.length 24)) := by
    intro m
    induction m with
    | zero =>
      intro k hk
      have e : k = 24 := by omega
      subst e
      rw [e0_25]
      simp only [e0_0, e0_1, e0_4, e0_5, e0_7, e0_10, e0_13, e0_14, e0_15, e0_18, e0_19, e0_20, e0_23, e0_24, e0_26, e0_28, e0_31, e0_32, e0_35, e0_36, e0_39, e0_40, e0_43, e0_44, e0_47, e0_50, lGet, lSet, asI, asR, asL, popI, popI2, popL, popL2, popR, popV, okS, isLg, Bool.not_false, Bool.not_true, Bool.false_eq_true, if_true, if_false, Option.bind_some, Option.bind_none, catS, okR1, okR20, okR21, okR2b, List.length_cons, List.length_nil, List.drop_succ_cons, List.drop_zero, List.drop_nil, List.take_succ_cons, List.take_zero, List.reverse_cons, List.reverse_nil, List.nil_append, List.cons_append, and_self, true_and, and_true, Nat.reduceAdd, Nat.reduceLeDiff, Nat.zero_add, Nat.le_refl, Nat.zero_le, ite_self, pushR, reduceCtorEq, or_self, or_false, false_or, show (24 : Int32) ≤ nI 24 from by decide]
    | succ m ih =>
      intro k hk
      obtain ⟨s1, s2⟩ := ac_step d (scr := scr) (l := l) (a := a) (fs := actF l.length) k (by omega)
      rw [e0_25]
      have hlt : ¬ (24 : Int32) ≤ nI k := nI_ge (a := k) (b := 24) (by omega) (by decide)
      have hg : getF (HH scr l a 0 (actF l.length) (acT l.length k)) 0 0 (a + 2) = some (.ref (l.length + 0 + 2)) := by rw [HH_getF hl]; rfl
      simp only [e0_0, e0_1, e0_4, e0_5, e0_7, e0_10, e0_13, e0_14, e0_15, e0_18, e0_19, e0_20, e0_23, e0_24, e0_26, e0_28, e0_31, e0_32, e0_35, e0_36, e0_39, e0_40, e0_43, e0_44, e0_47, e0_50, lGet, lSet, asI, asR, asL, popI, popI2, popL, popL2, popR, popV, okS, isLg, Bool.not_false, Bool.not_true, Bool.false_eq_true, if_true, if_false, Option.bind_some, Option.bind_none, catS, okR1, okR20, okR21, okR2b, List.length_cons, List.length_nil, List.drop_succ_cons, List.drop_zero, List.drop_nil, List.take_succ_cons, List.take_zero, List.reverse_cons, List.reverse_nil, List.nil_append, List.cons_append, and_self, true_and, and_true, Nat.reduceAdd, Nat.reduceLeDiff, Nat.zero_add, Nat.le_refl, Nat.zero_le, ite_self, pushR, reduceCtorEq, or_self, or_false, false_or, hlt, hg, s1, s2, nI_1]
      exact ih (k + 1) (by omega)
  rw [e0_0]
  simp only [e0_1, e0_4, e0_5, e0_7, e0_10, e0_13, e0_14, e0_15, e0_18, e0_19, e0_20, e0_23, e0_24, lGet, lSet, asI, asR, asL, popI, popI2, popL, popL2, popR, popV, okS, isLg, Bool.not_false, Bool.not_true, Bool.false_eq_true, if_true, if_false, Option.bind_some, Option.bind_none, catS, okR1, okR20, okR21, okR2b, List.length_cons, List.length_nil, List.drop_succ_cons, List.drop_zero, List.drop_nil, List.take_succ_cons, List.take_zero, List.reverse_cons, List.reverse_nil, List.nil_append, List.cons_append, and_self, true_and, and_true, Nat.reduceAdd, Nat.reduceLeDiff, Nat.zero_add, Nat.le_refl, Nat.zero_le, ite_self, pushR, reduceCtorEq, or_self, or_false, false_or, HH_putF hl, HH_new, HH_len, show ∀ x, okF (fTy 0 0) (.ref x) = true from fun _ => rfl, show ∀ x, okF (fTy 0 1) (.int x) = true from fun _ => rfl, show ∀ x, okF (fTy 0 2) (.int x) = true from fun _ => rfl, List.set_cons_zero, List.set_cons_succ, p24, t24, Nat.reduceLT, or_true]
  exact lp 24 0 rfl
-- Deeds
def deF (n : Nat) : Nat → Nat → Option Nat
  | 0 => fun _ => none
  | k + 1 => va_up (deF n k) k (some (n + 6 + 3 * k))
def deB (n : Nat) : Nat → List HC
  | 0 => []
  | k + 1 => deB n k ++ [.inr (4, perF (nI k) (n + 4 + 3 * k + 1)), a0 6, a0 6]
def deT (n k : Nat) : List HC := a0 6 :: a0 6 :: arrR 3 7 (deF n k) :: a0 12 :: deB n k
theorem deB_len (n : Nat) : ∀ k, (deB n k).length = 3 * k
  | 0 => rfl
  | k + 1 => by rw [deB, List.length_append, deB_len n k]; simp; omega
theorem de_step (d : Nat) {scr : Nat × (Nat → Int32)} {l : List HC} {a : Nat} {fs : List Value} (k : Nat) (hk : k < 7) :
    EvM (d + 1) 46 [.ref ((HH scr l a 3 fs (deT l.length k)).2.length + 2), .int (nI k)] (hNew (HH scr l a 3 fs (deT l.length k)) [.inr (4, dflt 4)]) = some (0, HH scr l a 3 fs (deT l.length k ++ [.inr (4, perF (nI k) (l.length + 4 + 3 * k + 1)), a0 6, a0 6]))
    ∧ aastF (HH scr l a 3 fs (deT l.length k ++ [.inr (4, perF (nI k) (l.length + 4 + 3 * k + 1)), a0 6, a0 6])) (l.length + 2 + 2) (nI k) ((HH scr l a 3 fs (deT l.length k)).2.length + 2) = some (HH scr l a 3 fs (deT l.length (k + 1))) := by
  have hlen : (deT l.length k).length = 4 + 3 * k := by unfold deT; rw [List.length_cons, List.length_cons, List.length_cons, List.length_cons, deB_len]; omega
  constructor
  · rw [HH_len, HH_new, ct_tail (ct_per d (nI k)) (deT l.length k), hlen]
    rw [show l.length + (4 + 3 * k) + 1 = l.length + 4 + 3 * k + 1 by omega]
  · rw [HH_len, HH_aast 2 (tg := 3) (m := 7) (f := deF l.length k) (j := (deT l.length k).length) (ci' := 4) (vs := perF (nI k) (l.length + 4 + 3 * k + 1)) rfl (by rw [List.getElem?_append_right (Nat.le_refl _), Nat.sub_self]; rfl) (Or.inl ⟨rfl, rfl⟩) (inB_iff.mpr (vp_in_nI hk (by decide)))]
    rw [nI_clamp (by omega), hlen]
    show some (HH scr l a 3 fs (a0 6 :: a0 6 :: arrR 3 7 (va_up (deF l.length k) k (some (l.length + (4 + 3 * k) + 2))) :: a0 12 :: (deB l.length k ++ _))) = _
    rw [show l.length + (4 + 3 * k) + 2 = l.length + 6 + 3 * k by omega]
    rfl
def deedF (n : Nat) : List Value := [.ref (n + 2), .int 0, .ref (n + 3), .ref (n + 4), .ref (n + 5), .int 0, .int 0, .int 1]
theorem ct_deed (d : Nat) : CtO (d + 2) 39 [] 3 deedF (fun n => deT n 7) := by
  intro scr l a h
  have hl := (List.getElem?_eq_some_iff.mp h).1
  rw [HH_start h, ev39, show dflt 3 = [.null, .int 0, .null, .null, .null, .int 0, .int 0, .int 0] from rfl]
  have lp : ∀ m k : Nat, k + m = 7 → EvI (EvM (d + 1)) C39 0 59 [.ref (a + 2), .int (nI k)] [] (HH scr l a 3 (deedF l.length) (deT l.length k)) = some (0, HH scr l a 3 (deedF l.length) (deT l.length 7)) := by
    intro m
    induction m with
    | zero =>
      intro k hk
      have e : k = 7 := by omega
      subst e
      rw [e39_59]
      simp only [e39_0, e39_1, e39_4, e39_5, e39_7, e39_9, e39_12, e39_13, e39_14, e39_17, e39_18, e39_20, e39_22, e39_25, e39_26, e39_28, e39_31, e39_34, e39_35, e39_37, e39_39, e39_42, e39_43, e39_44, e39_47, e39_48, e39_49, e39_52, e39_53, e39_54, e39_57, e39_58, e39_60, e39_62, e39_65, e39_66, e39_69, e39_70, e39_73, e39_74, e39_75, e39_78, e39_79, e39_82, e39_85, lGet, lSet, asI, asR, asL, popI, popI2, popL, popL2, popR, popV, okS, isLg, Bool.not_false, Bool.not_true, Bool.false_eq_true, if_true, if_false, Option.bind_some, Option.bind_none, catS, okR1, okR20, okR21, okR2b, List.length_cons, List.length_nil, List.drop_succ_cons, List.drop_zero, List.drop_nil, List.take_succ_cons, List.take_zero, List.reverse_cons, List.reverse_nil, List.nil_append, List.cons_append, and_self, true_and, and_true, Nat.reduceAdd, Nat.reduceLeDiff, Nat.zero_add, Nat.le_refl, Nat.zero_le, ite_self, pushR, reduceCtorEq, or_self, or_false, false_or, show (6 : Int32) < nI 7 from by decide]
    | succ m ih =>
      intro k hk
      obtain ⟨s1, s2⟩ := de_step d (scr := scr) (l := l) (a := a) (fs := deedF l.length) k (by omega)
      rw [e39_59]
      have hlt : ¬ (6 : Int32) < nI k := nI_nlt (a := 6) (b := k) (by omega) (by decide)
      have hg : getF (HH scr l a 3 (deedF l.length) (deT l.length k)) 3 3 (a + 2) = some (.ref (l.length + 2 + 2)) := by rw [HH_getF hl]; rfl
      simp only [e39_0, e39_1, e39_4, e39_5, e39_7, e39_9, e39_12, e39_13, e39_14, e39_17, e39_18, e39_20, e39_22, e39_25, e39_26, e39_28, e39_31, e39_34, e39_35, e39_37, e39_39, e39_42, e39_43, e39_44, e39_47, e39_48, e39_49, e39_52, e39_53, e39_54, e39_57, e39_58, e39_60, e39_62, e39_65, e39_66, e39_69, e39_70, e39_73, e39_74, e39_75, e39_78, e39_79, e39_82, e39_85, lGet, lSet, asI, asR, asL, popI, popI2, popL, popL2, popR, popV, okS, isLg, Bool.not_false, Bool.not_true, Bool.false_eq_true, if_true, if_false, Option.bind_some, Option.bind_none, catS, okR1, okR20, okR21, okR2b, List.length_cons, List.length_nil, List.drop_succ_cons, List.drop_zero, List.drop_nil, List.take_succ_cons, List.take_zero, List.reverse_cons, List.reverse_nil, List.nil_append, List.cons_append, and_self, true_and, and_true, Nat.reduceAdd, Nat.reduceLeDiff, Nat.zero_add, Nat.le_refl, Nat.zero_le, ite_self, pushR, reduceCtorEq, or_self, or_false, false_or, hlt, hg, s1, s2, nI_1]
      exact ih (k + 1) (by omega)
  rw [e39_0]
  simp only [e39_1, e39_4, e39_5, e39_7, e39_9, e39_12, e39_13, e39_14, e39_17, e39_18, e39_20, e39_22, e39_25, e39_26, e39_28, e39_31, e39_34, e39_35, e39_37, e39_39, e39_42, e39_43, e39_44, e39_47, e39_48, e39_49, e39_52, e39_53, e39_54, e39_57, e39_58, lGet, lSet, asI, asR, asL, popI, popI2, popL, popL2, popR, popV, okS, isLg, Bool.not_false, Bool.not_true, Bool.false_eq_true, if_true, if_false, Option.bind_some, Option.bind_none, catS, okR1, okR20, okR21, okR2b, List.length_cons, List.length_nil, List.drop_succ_cons, List.drop_zero, List.drop_nil, List.take_succ_cons, List.take_zero, List.reverse_cons, List.reverse_nil, List.nil_append, List.cons_append, and_self, true_and, and_true, Nat.reduceAdd, Nat.reduceLeDiff, Nat.zero_add, Nat.le_refl, Nat.zero_le, ite_self, pushR, reduceCtorEq, or_self, or_false, false_or, HH_putF hl, HH_new, HH_len, show ∀ x, okF (fTy 3 0) (.ref x) = true from fun _ => rfl, show ∀ x, okF (fTy 3 1) (.int x) = true from fun _ => rfl, show ∀ x, okF (fTy 3 2) (.ref x) = true from fun _ => rfl, show ∀ x, okF (fTy 3 3) (.ref x) = true from fun _ => rfl, show ∀ x, okF (fTy 3 4) (.ref x) = true from fun _ => rfl, show ∀ x, okF (fTy 3 5) (.int x) = true from fun _ => rfl, show ∀ x, okF (fTy 3 6) (.int x) = true from fun _ => rfl, show ∀ x, okF (fTy 3 7) (.int x) = true from fun _ => rfl, List.set_cons_zero, List.set_cons_succ, p7, t7, p12, t12, i6p, i6, Nat.reduceLT, true_or, mk0]
  exact lp 7 0 rfl
