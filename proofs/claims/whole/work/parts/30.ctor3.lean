/-! ===== the class's and the model's constructors ===== -/
def nx (n : Nat) (t : List HC) (ci : Nat) (F : Nat → List Value) (T : Nat → List HC) : List HC := t ++ (.inr (ci, F (n + t.length + 1)) :: T (n + t.length + 1))
theorem nx_step {d y : Nat} {ci' : Nat} {F : Nat → List Value} {T : Nat → List HC} (h : CtO d y [] ci' F T) {scr : Nat × (Nat → Int32)} {l : List HC} {a ci : Nat} {fs : List Value} (t : List HC) : EvM d y [.ref (l.length + t.length + 2)] (HH scr l a ci fs (t ++ [.inr (ci', dflt ci')])) = some (0, HH scr l a ci fs (nx l.length t ci' F T)) := ct_tail h t
theorem nx_at (n : Nat) (t : List HC) (ci : Nat) (F : Nat → List Value) (T : Nat → List HC) : (nx n t ci F T)[t.length]? = some (.inr (ci, F (n + t.length + 1))) := by
  unfold nx
  rw [List.getElem?_append_right (Nat.le_refl _), Nat.sub_self]
  rfl
theorem nx_lo (n : Nat) (t : List HC) (ci : Nat) (F : Nat → List Value) (T : Nat → List HC) {i : Nat} (h : i < t.length) : (nx n t ci F T)[i]? = t[i]? := by
  unfold nx
  rw [List.getElem?_append_left h]
def tZ : List HC := []
def wA (n : Nat) : List HC := nx n tZ 5 rowF rowT
def wB (n : Nat) : List HC := nx n (wA n) 7 tapF (fun _ => [a0 120])
def wC (n : Nat) : List HC := nx n (wB n) 0 actF (fun n => acT n 24)
def wD (n : Nat) : List HC := nx n (wC n) 1 askF (fun _ => [a0 16])
def wE (n : Nat) : List HC := nx n (wD n) 3 deedF (fun n => deT n 7)
def wF (n : Nat) : List HC := nx n (wE n) 6 setF (fun _ => [a0 256, a0 256, a0 256])
def wG (n : Nat) : List HC := nx n (wF n) 2 ctyF ctyT
def wH (n : Nat) : List HC := nx n (wG n) 2 ctyF ctyT
def wI (n : Nat) : List HC := wH n ++ [mkArr 4 2]
def wJ (n : Nat) : List HC := nx n (wI n) 2 ctyF ctyT
def wK (n : Nat) : List HC := (wJ n).set (wH n).length (arrR 4 2 (va_up (fun _ => none) 0 (some (n + (wI n).length + 2))))
def wL (n : Nat) : List HC := nx n (wK n) 2 ctyF ctyT
def wM (n : Nat) : List HC := (wL n).set (wH n).length (arrR 4 2 (va_up (va_up (fun _ => none) 0 (some (n + (wI n).length + 2))) 1 (some (n + (wK n).length + 2))))
def wN (n : Nat) : List HC := wM n ++ [mkArr 1 2]
def wO (n : Nat) : List HC := wN n ++ [mkArr 0 40]
def swF (n : Nat) : List Value := [.ref (n + tZ.length + 2), .ref (n + (wA n).length + 2), .ref (n + (wB n).length + 2), .ref (n + (wC n).length + 2), .ref (n + (wD n).length + 2), .ref (n + (wE n).length + 2), .ref (n + (wF n).length + 2), .ref (n + (wG n).length + 2), .ref (n + (wH n).length + 2), .ref (n + (wM n).length + 2), .ref (n + (wN n).length + 2), .int 0, .int 0, .int 0]
theorem wI_at (n : Nat) : (wI n)[(wH n).length]? = some (mkArr 4 2) := by
  unfold wI
  rw [List.getElem?_append_right (Nat.le_refl _), Nat.sub_self]
  rfl
theorem wI_len (n : Nat) : (wI n).length = (wH n).length + 1 := by unfold wI; simp
theorem wJ_lt (n : Nat) : (wH n).length < (wJ n).length := by unfold wJ nx; rw [List.length_append, wI_len]; omega
theorem wK_len (n : Nat) : (wK n).length = (wJ n).length := by unfold wK; rw [List.length_set]
set_option maxRecDepth 100000 in
set_option maxHeartbeats 4000000 in
theorem ct_sw (d : Nat) : CtO (d + 4) 85 [] 8 swF wO := by
  intro scr l a h
  have hl := (List.getElem?_eq_some_iff.mp h).1
  rw [HH_start h, ev85, show dflt 8 = [.null, .null, .null, .null, .null, .null, .null, .null, .null, .null, .null, .int 0, .int 0, .int 0] from rfl]
  show EvI _ _ _ _ _ _ (HH scr l a 8 _ tZ) = _
  have g1 : ∀ fs, aastF (HH scr l a 8 fs (wJ l.length)) (l.length + (wH l.length).length + 2) 0 (l.length + (wI l.length).length + 2) = some (HH scr l a 8 fs (wK l.length)) := fun fs => HH_aast (wH l.length).length (tg := 4) (m := 2) (f := fun _ => none) (ci' := 2) (vs := ctyF (l.length + (wI l.length).length + 1)) (by
    unfold wJ
    rw [nx_lo _ _ _ _ _ (by rw [wI_len]; omega), wI_at]
    rfl) (nx_at _ _ _ _ _) (Or.inr ⟨rfl, rfl⟩) rfl
  have g2 : ∀ fs, aastF (HH scr l a 8 fs (wL l.length)) (l.length + (wH l.length).length + 2) 1 (l.length + (wK l.length).length + 2) = some (HH scr l a 8 fs (wM l.length)) := fun fs => HH_aast (wH l.length).length (tg := 4) (m := 2) (f := va_up (fun _ => none) 0 (some (l.length + (wI l.length).length + 2))) (ci' := 2) (vs := ctyF (l.length + (wK l.length).length + 1)) (by
    unfold wL
    rw [nx_lo _ _ _ _ _ (by rw [wK_len]; exact wJ_lt _)]
    unfold wK
    rw [List.getElem?_set, if_pos rfl, if_pos (wJ_lt _)]
    rfl) (nx_at _ _ _ _ _) (Or.inr ⟨rfl, rfl⟩) rfl
  have k1 := fun fs => nx_step (ct_row (d + 2)) (scr := scr) (l := l) (a := a) (ci := 8) (fs := fs) tZ
  have k2 := fun fs => nx_step (ct_tap (d + 2)) (scr := scr) (l := l) (a := a) (ci := 8) (fs := fs) (wA l.length)
  have k3 := fun fs => nx_step (ct_act d) (scr := scr) (l := l) (a := a) (ci := 8) (fs := fs) (wB l.length)
  have k4 := fun fs => nx_step (ct_ask (d + 2)) (scr := scr) (l := l) (a := a) (ci := 8) (fs := fs) (wC l.length)
  have k5 := fun fs => nx_step (ct_deed (d + 1)) (scr := scr) (l := l) (a := a) (ci := 8) (fs := fs) (wD l.length)
  have k6 := fun fs => nx_step (ct_set (d + 2)) (scr := scr) (l := l) (a := a) (ci := 8) (fs := fs) (wE l.length)
  have k7 := fun fs => nx_step (ct_cty (d + 1)) (scr := scr) (l := l) (a := a) (ci := 8) (fs := fs) (wF l.length)
  have k8 := fun fs => nx_step (ct_cty (d + 1)) (scr := scr) (l := l) (a := a) (ci := 8) (fs := fs) (wG l.length)
  have k9 := fun fs => nx_step (ct_cty (d + 1)) (scr := scr) (l := l) (a := a) (ci := 8) (fs := fs) (wI l.length)
  have k10 := fun fs => nx_step (ct_cty (d + 1)) (scr := scr) (l := l) (a := a) (ci := 8) (fs := fs) (wK l.length)
  rw [show nx l.length tZ 5 rowF rowT = wA l.length from rfl] at k1
  rw [show nx l.length (wA l.length) 7 tapF (fun _ => [a0 120]) = wB l.length from rfl] at k2
  rw [show nx l.length (wB l.length) 0 actF (fun n => acT n 24) = wC l.length from rfl] at k3
  rw [show nx l.length (wC l.length) 1 askF (fun _ => [a0 16]) = wD l.length from rfl] at k4
  rw [show nx l.length (wD l.length) 3 deedF (fun n => deT n 7) = wE l.length from rfl] at k5
  rw [show nx l.length (wE l.length) 6 setF (fun _ => [a0 256, a0 256, a0 256]) = wF l.length from rfl] at k6
  rw [show nx l.length (wF l.length) 2 ctyF ctyT = wG l.length from rfl] at k7
  rw [show nx l.length (wG l.length) 2 ctyF ctyT = wH l.length from rfl] at k8
  rw [show nx l.length (wI l.length) 2 ctyF ctyT = wJ l.length from rfl] at k9
  rw [show nx l.length (wK l.length) 2 ctyF ctyT = wL l.length from rfl] at k10
  have zI : wH l.length ++ [mkArr 4 2] = wI l.length := rfl
  have zN : wM l.length ++ [mkArr 1 2] = wN l.length := rfl
  have zO : wN l.length ++ [mkArr 0 40] = wO l.length := rfl
  have fr : ∀ k r, k < 11 → okF (fTy 8 k) (.ref r) = true := fun k r hk => by
    match k, hk with
    | 0, _ => rfl
    | 1, _ => rfl
    | 2, _ => rfl
    | 3, _ => rfl
    | 4, _ => rfl
    | 5, _ => rfl
    | 6, _ => rfl
    | 7, _ => rfl
    | 8, _ => rfl
    | 9, _ => rfl
    | 10, _ => rfl
  rw [e85_0]
  simp only [e85_0, e85_1, e85_4, e85_5, e85_8, e85_9, e85_12, e85_15, e85_16, e85_19, e85_20, e85_23, e85_26, e85_27, e85_30, e85_31, e85_34, e85_37, e85_38, e85_41, e85_42, e85_45, e85_48, e85_49, e85_52, e85_53, e85_56, e85_59, e85_60, e85_63, e85_64, e85_67, e85_70, e85_71, e85_74, e85_75, e85_78, e85_81, e85_82, e85_85, e85_86, e85_89, e85_92, e85_93, e85_94, e85_97, e85_98, e85_99, e85_102, e85_103, e85_106, e85_107, e85_108, e85_109, e85_112, e85_113, e85_116, e85_117, e85_120, e85_121, e85_122, e85_124, e85_127, e85_128, e85_130, e85_132, e85_135, e85_136, e85_137, e85_140, e85_141, e85_142, e85_145, e85_146, e85_147, e85_150, lGet, lSet, asI, asR, asL, popI, popI2, popL, popL2, popR, popV, okS, isLg, Bool.not_false, Bool.not_true, Bool.false_eq_true, if_true, if_false, Option.bind_some, Option.bind_none, catS, okR1, okR20, okR21, okR2b, List.length_cons, List.length_nil, List.drop_succ_cons, List.drop_zero, List.drop_nil, List.take_succ_cons, List.take_zero, List.reverse_cons, List.reverse_nil, and_self, true_and, and_true, Nat.reduceAdd, Nat.reduceLeDiff, Nat.zero_add, Nat.le_refl, Nat.zero_le, ite_self, reduceCtorEq, or_self, or_false, false_or, HH_putF hl, HH_new, HH_len, k1, k2, k3, k4, k5, k6, k7, k8, k9, k10, g1, g2, zI, zN, zO, fr, show okF (fTy 8 11) (.int 0) = true from rfl, show okF (fTy 8 12) (.int 0) = true from rfl, show okF (fTy 8 13) (.int 0) = true from rfl, List.set_cons_zero, List.set_cons_succ, Nat.reduceLT, p2, t2, p40, t40, true_or, or_true]
  rfl
def o12 : Nat → Int32 := upd (upd (upd (upd (upd (upd (upd (upd (upd (upd (upd (upd (fun _ => 0) 0 0) 1 1) 2 2) 3 3) 4 4) 5 5) 6 6) 7 7) 8 8) 9 9) 10 10) 11 11
def modF (n : Nat) : List Value := [.ref (n + 2), .ref (n + 3), .int 0, .ref (n + 4), .int 0, .int 0, .int 0, .ref (n + 5), .ref (n + 6), .ref (n + 7), .ref (n + 8), .int 0, .int 0, .int 0, .int 0, .ref (n + 9), .int 0, .long 0, .int 0, .ref (n + 10)]
def modT (_ : Nat) : List HC := [a0 476, a0 2328, a0 120, .inl (0, 8, .inl (m8 (-1000000))), a0 8, a0 320, a0 16, a0 24, .inl (0, 12, .inl o12)]
set_option maxRecDepth 100000 in
set_option maxHeartbeats 4000000 in
theorem ct_mod (d : Nat) : CtO (d + 1) 130 [] 9 modF modT := by
  intro scr l a h
  have hl := (List.getElem?_eq_some_iff.mp h).1
  rw [HH_start h, ev130, show dflt 9 = [.null, .null, .int 0, .null, .int 0, .int 0, .int 0, .null, .null, .null, .null, .int 0, .int 0, .int 0, .int 0, .null, .int 0, .long 0, .int 0, .null] from rfl]
  have fr : ∀ r, okF (fTy 9 0) (.ref r) = true ∧ okF (fTy 9 1) (.ref r) = true ∧ okF (fTy 9 3) (.ref r) = true ∧ okF (fTy 9 7) (.ref r) = true ∧ okF (fTy 9 8) (.ref r) = true ∧ okF (fTy 9 9) (.ref r) = true ∧ okF (fTy 9 10) (.ref r) = true ∧ okF (fTy 9 15) (.ref r) = true ∧ okF (fTy 9 19) (.ref r) = true := fun _ => ⟨rfl, rfl, rfl, rfl, rfl, rfl, rfl, rfl, rfl⟩
  rw [e130_0]
  simp only [e130_1, e130_4, e130_5, e130_8, e130_10, e130_13, e130_14, e130_17, e130_19, e130_22, e130_23, e130_25, e130_27, lGet, lSet, asI, asR, asL, popI, popI2, popL, popL2, popR, popV, okS, isLg, Bool.not_false, Bool.not_true, Bool.false_eq_true, if_true, if_false, Option.bind_some, Option.bind_none, catS, okR1, okR20, okR21, okR2b, List.length_cons, List.length_nil, List.drop_succ_cons, List.drop_zero, List.drop_nil, List.take_succ_cons, List.take_zero, List.reverse_cons, List.reverse_nil, List.nil_append, List.cons_append, and_self, true_and, and_true, Nat.reduceAdd, Nat.reduceLeDiff, Nat.zero_add, Nat.le_refl, Nat.zero_le, ite_self, pushR, reduceCtorEq, or_self, or_false, false_or, HH_putF hl, HH_new, HH_len, fr, List.set_cons_zero, List.set_cons_succ, Nat.reduceLT, mk0, p476, t476, p2328, t2328, p120, t120]
  simp only [e130_30, e130_31, e130_33, e130_35, e130_36, e130_37, e130_39, e130_40, e130_41, e130_42, e130_44, lGet, lSet, asI, asR, asL, popI, popI2, popL, popL2, popR, popV, okS, isLg, Bool.not_false, Bool.not_true, Bool.false_eq_true, if_true, if_false, Option.bind_some, Option.bind_none, catS, okR1, okR20, okR21, okR2b, List.length_cons, List.length_nil, List.drop_succ_cons, List.drop_zero, List.drop_nil, List.take_succ_cons, List.take_zero, List.reverse_cons, List.reverse_nil, List.nil_append, List.cons_append, and_self, true_and, and_true, Nat.reduceAdd, Nat.reduceLeDiff, Nat.zero_add, Nat.le_refl, Nat.zero_le, ite_self, pushR, reduceCtorEq, or_self, or_false, false_or, HH_putF hl, HH_new, HH_len, fr, List.set_cons_zero, List.set_cons_succ, Nat.reduceLT, mk0, p8, t8, HH_iastE (l := l) 3, List.getElem?_cons_zero, List.getElem?_cons_succ, t0, t1, show inB 0 8 = true from rfl, show inB 1 8 = true from rfl]
  simp only [e130_45, e130_46, e130_47, e130_49, e130_50, e130_51, e130_52, e130_54, e130_55, e130_56, e130_57, e130_59, lGet, lSet, asI, asR, asL, popI, popI2, popL, popL2, popR, popV, okS, isLg, Bool.not_false, Bool.not_true, Bool.false_eq_true, if_true, if_false, Option.bind_some, Option.bind_none, catS, okR1, okR20, okR21, okR2b, List.length_cons, List.length_nil, List.drop_succ_cons, List.drop_zero, List.drop_nil, List.take_succ_cons, List.take_zero, List.reverse_cons, List.reverse_nil, List.nil_append, List.cons_append, and_self, true_and, and_true, Nat.reduceAdd, Nat.reduceLeDiff, Nat.zero_add, Nat.le_refl, Nat.zero_le, ite_self, pushR, reduceCtorEq, or_self, or_false, false_or, HH_putF hl, HH_new, HH_len, fr, List.set_cons_zero, List.set_cons_succ, Nat.reduceLT, mk0, HH_iastE (l := l) 3, List.getElem?_cons_zero, List.getElem?_cons_succ, t2, t3, t4, show inB 2 8 = true from rfl, show inB 3 8 = true from rfl, show inB 4 8 = true from rfl]
  simp only [e130_60, e130_61, e130_62, e130_64, e130_65, e130_66, e130_68, e130_70, e130_71, e130_72, e130_74, e130_76, e130_77, lGet, lSet, asI, asR, asL, popI, popI2, popL, popL2, popR, popV, okS, isLg, Bool.not_false, Bool.not_true, Bool.false_eq_true, if_true, if_false, Option.bind_some, Option.bind_none, catS, okR1, okR20, okR21, okR2b, List.length_cons, List.length_nil, List.drop_succ_cons, List.drop_zero, List.drop_nil, List.take_succ_cons, List.take_zero, List.reverse_cons, List.reverse_nil, List.nil_append, List.cons_append, and_self, true_and, and_true, Nat.reduceAdd, Nat.reduceLeDiff, Nat.zero_add, Nat.le_refl, Nat.zero_le, ite_self, pushR, reduceCtorEq, or_self, or_false, false_or, HH_putF hl, HH_new, HH_len, fr, List.set_cons_zero, List.set_cons_succ, Nat.reduceLT, mk0, HH_iastE (l := l) 3, List.getElem?_cons_zero, List.getElem?_cons_succ, t5, i6, t7, show inB 5 8 = true from rfl, show inB 6 8 = true from rfl, show inB 7 8 = true from rfl]
  simp only [e130_80, e130_81, e130_83, e130_85, e130_88, e130_89, e130_92, e130_94, e130_97, e130_98, e130_100, e130_102, e130_105, e130_106, e130_108, e130_110, e130_113, e130_114, e130_116, lGet, lSet, asI, asR, asL, popI, popI2, popL, popL2, popR, popV, okS, isLg, Bool.not_false, Bool.not_true, Bool.false_eq_true, if_true, if_false, Option.bind_some, Option.bind_none, catS, okR1, okR20, okR21, okR2b, List.length_cons, List.length_nil, List.drop_succ_cons, List.drop_zero, List.drop_nil, List.take_succ_cons, List.take_zero, List.reverse_cons, List.reverse_nil, List.nil_append, List.cons_append, and_self, true_and, and_true, Nat.reduceAdd, Nat.reduceLeDiff, Nat.zero_add, Nat.le_refl, Nat.zero_le, ite_self, pushR, reduceCtorEq, or_self, or_false, false_or, HH_putF hl, HH_new, HH_len, fr, List.set_cons_zero, List.set_cons_succ, Nat.reduceLT, mk0, p8, t8, p320, t320, p16, t16, p24, t24, p12, t12]
  simp only [e130_118, e130_119, e130_120, e130_121, e130_122, e130_123, e130_124, e130_125, e130_126, e130_127, e130_128, e130_129, e130_130, e130_131, e130_132, e130_133, e130_134, e130_135, e130_136, e130_137, lGet, lSet, asI, asR, asL, popI, popI2, popL, popL2, popR, popV, okS, isLg, Bool.not_false, Bool.not_true, Bool.false_eq_true, if_true, if_false, Option.bind_some, Option.bind_none, catS, okR1, okR20, okR21, okR2b, List.length_cons, List.length_nil, List.drop_succ_cons, List.drop_zero, List.drop_nil, List.take_succ_cons, List.take_zero, List.reverse_cons, List.reverse_nil, List.nil_append, List.cons_append, and_self, true_and, and_true, Nat.reduceAdd, Nat.reduceLeDiff, Nat.zero_add, Nat.le_refl, Nat.zero_le, ite_self, pushR, reduceCtorEq, or_self, or_false, false_or, HH_putF hl, HH_new, HH_len, fr, List.set_cons_zero, List.set_cons_succ, Nat.reduceLT, mk0, HH_iastE (l := l) 8, List.getElem?_cons_zero, List.getElem?_cons_succ, t0, t1, t2, t3, t4, show inB 0 12 = true from rfl, show inB 1 12 = true from rfl, show inB 2 12 = true from rfl, show inB 3 12 = true from rfl, show inB 4 12 = true from rfl]
  simp only [e130_138, e130_139, e130_140, e130_141, e130_142, e130_143, e130_145, e130_147, e130_148, e130_149, e130_151, e130_153, e130_154, e130_155, e130_157, e130_159, lGet, lSet, asI, asR, asL, popI, popI2, popL, popL2, popR, popV, okS, isLg, Bool.not_false, Bool.not_true, Bool.false_eq_true, if_true, if_false, Option.bind_some, Option.bind_none, catS, okR1, okR20, okR21, okR2b, List.length_cons, List.length_nil, List.drop_succ_cons, List.drop_zero, List.drop_nil, List.take_succ_cons, List.take_zero, List.reverse_cons, List.reverse_nil, List.nil_append, List.cons_append, and_self, true_and, and_true, Nat.reduceAdd, Nat.reduceLeDiff, Nat.zero_add, Nat.le_refl, Nat.zero_le, ite_self, pushR, reduceCtorEq, or_self, or_false, false_or, HH_putF hl, HH_new, HH_len, fr, List.set_cons_zero, List.set_cons_succ, Nat.reduceLT, mk0, HH_iastE (l := l) 8, List.getElem?_cons_zero, List.getElem?_cons_succ, t5, i6, t7, t8, show inB 5 12 = true from rfl, show inB 6 12 = true from rfl, show inB 7 12 = true from rfl, show inB 8 12 = true from rfl]
  simp only [e130_160, e130_161, e130_163, e130_165, e130_166, e130_167, e130_169, e130_171, e130_172, e130_173, e130_175, e130_177, e130_178, e130_181, lGet, lSet, asI, asR, asL, popI, popI2, popL, popL2, popR, popV, okS, isLg, Bool.not_false, Bool.not_true, Bool.false_eq_true, if_true, if_false, Option.bind_some, Option.bind_none, catS, okR1, okR20, okR21, okR2b, List.length_cons, List.length_nil, List.drop_succ_cons, List.drop_zero, List.drop_nil, List.take_succ_cons, List.take_zero, List.reverse_cons, List.reverse_nil, List.nil_append, List.cons_append, and_self, true_and, and_true, Nat.reduceAdd, Nat.reduceLeDiff, Nat.zero_add, Nat.le_refl, Nat.zero_le, ite_self, pushR, reduceCtorEq, or_self, or_false, false_or, HH_putF hl, HH_new, HH_len, fr, List.set_cons_zero, List.set_cons_succ, Nat.reduceLT, mk0, HH_iastE (l := l) 8, List.getElem?_cons_zero, List.getElem?_cons_succ, t9, t10, t11, show inB 9 12 = true from rfl, show inB 10 12 = true from rfl, show inB 11 12 = true from rfl]
  rfl
/-! the heap behind both -/
def L1 : List HC := .inr (8, swF 1) :: wO 1
def L2 : List HC := L1 ++ (.inr (9, modF 613) :: modT 613)
