/-! ===== more of the store: whole arrays, the long field; persons and counties by their addresses ===== -/
def uA (s : ST) (a : Nat) (f : Nat → Int32) : ST := (fun a' => if a' = a then f else s.1 a', s.2)
section ST2
variable {scr : Nat × (Nat → Int32)} {s : ST}
theorem uA_ne {a : Nat} {f : Nat → Int32} {j : Nat} {e' : HC} (hj : j + 2 ≠ a) : mkC (uA s a f) j e' = mkC s j e' := by
  have h0 : (uA s a f).1 (j + 2) = s.1 (j + 2) := if_neg hj
  have hv : ∀ m v, mkV (uA s a f) j m v = mkV s j m v := by
    intro m v
    cases v <;> simp only [mkV]
    rw [h0]
    rfl
  unfold mkC
  split
  · rw [h0]
  · rfl
  · rw [funext fun m => funext fun v => hv m v]
theorem st_arrA {a t n : Nat} {f : Nat → Int32} (h : sh a = some (0, t, n, [])) : hSet (mkH scr s) a (.inl (t, n, .inl f)) = mkH scr (uA s a f) := by
  obtain ⟨b, e, rfl, h1, h2⟩ := sh_cell h
  refine mk_set h1 ?_ (fun j e' hj => uA_ne (by omega))
  unfold shC at h2
  split at h2 <;> simp only [Prod.mk.injEq] at h2
  · obtain ⟨-, rfl, rfl, -⟩ := h2
    show (Sum.inl (_, _, .inl ((uA s (b + 2) f).1 (b + 2))) : HC) = _
    rw [show (uA s (b + 2) f).1 (b + 2) = f from if_pos rfl]
  all_goals exact absurd h2.1 (by decide)
theorem cpyS {a0 a1 n0 n1 : Nat} {sp dp n : Int32} (h0 : sh a0 = some (0, 0, n0, [])) (h1 : sh a1 = some (0, 0, n1, [])) (hc : ¬ sp < 0 ∧ ¬ dp < 0 ∧ ¬ n < 0 ∧ sp.toNatClampNeg + n.toNatClampNeg ≤ n0 ∧ dp.toNatClampNeg + n.toNatClampNeg ≤ n1) : acopyF (mkH scr s) a0 a1 sp dp n = some (mkH scr (uA s a1 (va_cpy (s.1 a0) (s.1 a1) sp.toNatClampNeg dp.toNatClampNeg n.toNatClampNeg))) := by
  unfold acopyF
  rw [sh_ints h0, sh_ints h1]
  simp only [sh_ge h0, sh_ge h1, hc, not_false_eq_true, and_self, if_true, true_and]
  rw [st_arrA h1]
end ST2
/-- a person at P, its days at P + 1, its months at P + 2 -/
def per (P : Nat) : Prop := sh P = some (2, 4, 10, [1, 1, 1, 1, 1, 1, 1, 1, P + 3, P + 4]) ∧ sh (P + 1) = some (0, 0, 6, []) ∧ sh (P + 2) = some (0, 0, 6, [])
/-- a county at C, its row of persons at C + 1, person i at C + 2 + 3 i -/
def cty (C : Nat) : Prop := sh C = some (2, 2, 5, [1, 1, 1, 1, C + 3]) ∧ sh (C + 1) = some (1, 3, 6, [C + 4, C + 7, C + 10, C + 13, C + 16, C + 19]) ∧ ∀ i, i < 6 → per (C + 2 + 3 * i)
section PRS
variable {scr : Nat × (Nat → Int32)} {s : ST} {P C : Nat}
theorem in6 {k : Nat} (h : k < 6) : inB (nI k) 6 = true := inB_iff.mpr (vp_in_nI h (by decide))
theorem cl6 {k : Nat} (h : k < 6) : (nI k).toNatClampNeg = k := nI_clamp (by omega)
theorem per_g (hP : per P) (k : Nat) (hk : k < 8) (s : ST) : getF (mkH scr s) 4 k P = some (.int (s.1 P k)) := gI hP.1 (by
  match k, hk with
  | 0, _ => rfl
  | 1, _ => rfl
  | 2, _ => rfl
  | 3, _ => rfl
  | 4, _ => rfl
  | 5, _ => rfl
  | 6, _ => rfl
  | 7, _ => rfl)
theorem per_p (hP : per P) (k : Nat) (hk : k < 8) (s : ST) (x : Int32) : putF (mkH scr s) 4 k P (.int x) = some (mkH scr (u2 s P k x)) := pI hP.1 (by
  match k, hk with
  | 0, _ => rfl
  | 1, _ => rfl
  | 2, _ => rfl
  | 3, _ => rfl
  | 4, _ => rfl
  | 5, _ => rfl
  | 6, _ => rfl
  | 7, _ => rfl) (ft_per k hk x)
theorem per_d (hP : per P) (s : ST) : getF (mkH scr s) 4 8 P = some (.ref (P + 1)) := gR hP.1 rfl
theorem per_c (hP : per P) (s : ST) : getF (mkH scr s) 4 9 P = some (.ref (P + 2)) := gR hP.1 rfl
theorem per_cl (hP : per P) (s : ST) : clsB (mkH scr s) P 4 = true := cB hP.1
theorem per_dl (hP : per P) {k : Nat} (hk : k < 6) (s : ST) : ialdF (mkH scr s) (P + 1) (nI k) = some (s.1 (P + 1) k) := by rw [iL hP.2.1 (in6 hk), cl6 hk]
theorem per_ml (hP : per P) {k : Nat} (hk : k < 6) (s : ST) : ialdF (mkH scr s) (P + 2) (nI k) = some (s.1 (P + 2) k) := by rw [iL hP.2.2 (in6 hk), cl6 hk]
theorem per_ds (hP : per P) {k : Nat} (hk : k < 6) (s : ST) (x : Int32) : iastF (mkH scr s) (P + 1) (nI k) x = some (mkH scr (u2 s (P + 1) k x)) := by rw [iS hP.2.1 (in6 hk), cl6 hk]
theorem per_ms (hP : per P) {k : Nat} (hk : k < 6) (s : ST) (x : Int32) : iastF (mkH scr s) (P + 2) (nI k) x = some (mkH scr (u2 s (P + 2) k x)) := by rw [iS hP.2.2 (in6 hk), cl6 hk]
theorem u2_same (s : ST) (a k : Nat) (x : Int32) : (u2 s a k x).1 a k = x := if_pos ⟨rfl, rfl⟩
theorem u2_oth (s : ST) {a k a' k' : Nat} (x : Int32) (h : ¬ (a' = a ∧ k' = k)) : (u2 s a k x).1 a' k' = s.1 a' k' := if_neg h
theorem u2_adr (s : ST) {a k a' : Nat} (x : Int32) (h : a' ≠ a) : (u2 s a k x).1 a' = s.1 a' := by
  funext k'
  exact if_neg (fun z => h z.1)
end PRS
/-! ===== persons: lots as a list of (days, month) ===== -/
abbrev LT : Type := List (Nat × Nat)
def lt_d (l : LT) (i : Nat) : Nat := (l.getD i (0, 0)).1
def lt_m (l : LT) (i : Nat) : Nat := (l.getD i (0, 0)).2
def LR (s : ST) (P : Nat) (l : LT) : Prop := s.1 P 7 = nI l.length ∧ l.length ≤ 6 ∧ ∀ i, i < l.length → s.1 (P + 1) i = nI (lt_d l i) ∧ s.1 (P + 2) i = nI (lt_m l i)
def sumD (l : LT) : Nat := (l.map (fun q => q.1)).sum
theorem sumD_take (l : LT) {k : Nat} (hk : k < l.length) : sumD (l.take (k + 1)) = sumD (l.take k) + lt_d l k := by
  unfold sumD lt_d
  rw [List.take_succ, List.map_append, List.sum_append, List.getD_eq_getElem?_getD]
  cases h : l[k]? with
  | none => exact absurd (List.getElem?_eq_none_iff.mp h) (by omega)
  | some q => simp
section PM
variable {scr : Nat × (Nat → Int32)} {s : ST} {P : Nat} {l : LT}
/-- Person.unspent -/
theorem c_unspent (d : Nat) (hP : per P) (hL : LR s P l) : EvM (d + 1) 50 [.ref P] (mkH scr s) = some (nI (sumD l), mkH scr s) := by
  obtain ⟨h7, h6, hl⟩ := hL
  have lp : ∀ m k : Nat, k + m = l.length → EvI (EvM d) C50 1 4 [.ref P, .int (nI (sumD (l.take k))), .int (nI k)] [] (mkH scr s) = some (nI (sumD l), mkH scr s) := by
    intro m
    induction m with
    | zero =>
      intro k hk
      have e : k = l.length := by omega
      subst e
      rw [e50_4]
      simp only [e50_0, e50_1, e50_2, e50_3, e50_5, e50_6, e50_9, e50_12, e50_13, e50_14, e50_17, e50_18, e50_19, e50_20, e50_21, e50_24, e50_27, e50_28, lGet, lSet, asI, asR, asL, popI, popI2, popL, popL2, popR, popV, okS, isLg, Bool.not_false, Bool.not_true, Bool.false_eq_true, if_true, if_false, Option.bind_some, Option.bind_none, catS, okR1, okR20, okR21, okR2b, List.length_cons, List.length_nil, List.drop_succ_cons, List.drop_zero, List.drop_nil, List.take_succ_cons, List.take_zero, List.reverse_cons, List.reverse_nil, List.nil_append, List.cons_append, and_self, true_and, and_true, Nat.reduceAdd, Nat.reduceLeDiff, Nat.zero_add, Nat.le_refl, Nat.zero_le, ite_self, pushR, reduceCtorEq, or_self, or_false, false_or, per_g hP 7 (by decide), h7, Int32.le_refl, List.take_length]
    | succ m ih =>
      intro k hk
      rw [e50_4]
      have hlt : ¬ nI l.length ≤ nI k := nI_ge (by omega) (by omega)
      simp only [e50_0, e50_1, e50_2, e50_3, e50_5, e50_6, e50_9, e50_12, e50_13, e50_14, e50_17, e50_18, e50_19, e50_20, e50_21, e50_24, e50_27, e50_28, lGet, lSet, asI, asR, asL, popI, popI2, popL, popL2, popR, popV, okS, isLg, Bool.not_false, Bool.not_true, Bool.false_eq_true, if_true, if_false, Option.bind_some, Option.bind_none, catS, okR1, okR20, okR21, okR2b, List.length_cons, List.length_nil, List.drop_succ_cons, List.drop_zero, List.drop_nil, List.take_succ_cons, List.take_zero, List.reverse_cons, List.reverse_nil, List.nil_append, List.cons_append, and_self, true_and, and_true, Nat.reduceAdd, Nat.reduceLeDiff, Nat.zero_add, Nat.le_refl, Nat.zero_le, ite_self, pushR, reduceCtorEq, or_self, or_false, false_or, per_g hP 7 (by decide), per_d hP, per_dl hP (show k < 6 by omega), h7, hlt, (hl k (by omega)).1, nI_add, nI_1]
      rw [← sumD_take l (by omega)]
      exact ih (k + 1) (by omega)
  rw [ev50, e50_0]
  simp only [e50_1, e50_2, e50_3, lGet, lSet, asI, asR, asL, popI, popI2, popL, popL2, popR, popV, okS, isLg, Bool.not_false, Bool.not_true, Bool.false_eq_true, if_true, if_false, Option.bind_some, Option.bind_none, catS, okR1, okR20, okR21, okR2b, List.length_cons, List.length_nil, List.drop_succ_cons, List.drop_zero, List.drop_nil, List.take_succ_cons, List.take_zero, List.reverse_cons, List.reverse_nil, List.nil_append, List.cons_append, and_self, true_and, and_true, Nat.reduceAdd, Nat.reduceLeDiff, Nat.zero_add, Nat.le_refl, Nat.zero_le, ite_self, pushR, reduceCtorEq, or_self, or_false, false_or]
  exact lp l.length 0 (by omega)
end PM
