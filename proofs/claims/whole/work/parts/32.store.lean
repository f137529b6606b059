/-! ===== behind the constructors: the heap is a shape and a store of ints ===== -/
abbrev ST : Type := (Nat → Nat → Int32) × Int64
def u2 (s : ST) (a k : Nat) (x : Int32) : ST := (fun a' k' => if a' = a ∧ k' = k then x else s.1 a' k', s.2)
def mkV (s : ST) (i k : Nat) (v : Value) : Value := match v with
  | .int _ => .int (s.1 (i + 2) k)
  | .long _ => .long s.2
  | v => v
def mkC (s : ST) (i : Nat) (e : HC) : HC := match e with
  | .inl (t, n, .inl _) => .inl (t, n, .inl (s.1 (i + 2)))
  | .inl q => .inl q
  | .inr (ci, fs) => .inr (ci, fs.mapIdx (mkV s i))
/-- the list behind a choice, so that no check of types runs the constructors -/
theorem L2s_ex : ∃ L : List HC, L = L2 := ⟨L2, rfl⟩
noncomputable def L2s : List HC := Classical.choose L2s_ex
theorem L2s_eq : L2s = L2 := Classical.choose_spec L2s_ex
noncomputable def mkH (scr : Nat × (Nat → Int32)) (s : ST) : Hp := (scr, L2s.mapIdx (mkC s))
def sh (a : Nat) : Option (Nat × Nat × Nat × List Nat) := match a with
  | 0 => none
  | 1 => none
  | a + 2 => shL[a]?
theorem hGet_2 (scr : Nat × (Nat → Int32)) (L : List HC) (b : Nat) : hGet (scr, L) (b + 2) = L[b]? := rfl
theorem hSet_2 (scr : Nat × (Nat → Int32)) (L : List HC) (b : Nat) (e : HC) : hSet (scr, L) (b + 2) e = (scr, L.set b e) := rfl
section STO
variable {scr : Nat × (Nat → Int32)} {s : ST}
theorem sh_cell {a : Nat} {q : Nat × Nat × Nat × List Nat} (h : sh a = some q) : ∃ b e, a = b + 2 ∧ L2[b]? = some e ∧ shC e = q := by
  match a, h with
  | 0, h => cases h
  | 1, h => cases h
  | b + 2, h =>
    have h : shL[b]? = some q := h
    rw [← shL_ok, List.getElem?_map] at h
    obtain ⟨e, h1, h2⟩ := Option.map_eq_some_iff.mp h
    exact ⟨b, e, rfl, h1, h2⟩
theorem mk_get {b : Nat} {e : HC} (h : L2[b]? = some e) : hGet (mkH scr s) (b + 2) = some (mkC s b e) := by
  unfold mkH
  rw [L2s_eq]
  rw [hGet_2, List.getElem?_mapIdx, h]
  rfl
theorem sh_ints {a t n : Nat} (h : sh a = some (0, t, n, [])) : hGet (mkH scr s) a = some (.inl (t, n, .inl (s.1 a))) := by
  obtain ⟨b, e, rfl, h1, h2⟩ := sh_cell h
  rw [mk_get h1]
  unfold shC at h2
  split at h2 <;> simp only [Prod.mk.injEq] at h2
  · obtain ⟨-, rfl, rfl, -⟩ := h2
    rfl
  all_goals exact absurd h2.1 (by decide)
theorem sh_refs {a t n : Nat} {l : List Nat} (h : sh a = some (1, t, n, l)) : ∃ f : Nat → Option Nat, hGet (mkH scr s) a = some (.inl (t, n, .inr (.inr (.inr (.inr f))))) ∧ (List.range n).map (fun i => match f i with
    | some a => a + 2
    | none => 0) = l := by
  obtain ⟨b, e, rfl, h1, h2⟩ := sh_cell h
  rw [mk_get h1]
  unfold shC at h2
  split at h2 <;> simp only [Prod.mk.injEq] at h2
  · exact absurd h2.1 (by decide)
  · rename_i t' n' f
    obtain ⟨-, rfl, rfl, h3⟩ := h2
    exact ⟨f, rfl, h3⟩
  all_goals exact absurd h2.1 (by decide)
theorem sh_obj {a ci n : Nat} {l : List Nat} (h : sh a = some (2, ci, n, l)) : ∃ fs : List Value, (∃ b, a = b + 2 ∧ L2[b]? = some (.inr (ci, fs)) ∧ ∀ s', hGet (mkH scr s') a = some (.inr (ci, fs.mapIdx (mkV s' b)))) ∧ fs.length = n ∧ fs.map shV = l := by
  obtain ⟨b, e, rfl, h1, h2⟩ := sh_cell h
  unfold shC at h2
  split at h2 <;> simp only [Prod.mk.injEq] at h2
  · exact absurd h2.1 (by decide)
  · exact absurd h2.1 (by decide)
  · exact absurd h2.1 (by decide)
  · rename_i ci' fs
    obtain ⟨-, rfl, rfl, h3⟩ := h2
    exact ⟨fs, ⟨b, rfl, h1, fun s' => by rw [mk_get h1]; rfl⟩, rfl, h3⟩
theorem mk_set {b : Nat} {e e1 : HC} {s1 : ST} (h : L2[b]? = some e) (he : mkC s1 b e = e1) (ho : ∀ j e', j ≠ b → mkC s1 j e' = mkC s j e') : hSet (mkH scr s) (b + 2) e1 = mkH scr s1 := by
  unfold mkH
  rw [L2s_eq]
  rw [hSet_2]
  refine congrArg (Prod.mk scr) ?_
  apply List.ext_getElem?
  intro j
  have hb : b < L2.length := (List.getElem?_eq_some_iff.mp h).1
  rw [List.getElem?_set, List.getElem?_mapIdx, List.getElem?_mapIdx, List.length_mapIdx]
  by_cases hj : b = j
  · subst hj
    rw [if_pos rfl, if_pos hb, h, ← he]
    rfl
  · rw [if_neg hj]
    cases hl : L2[j]? with
    | none => rfl
    | some e' =>
      show some (mkC s j e') = some (mkC s1 j e')
      rw [ho j e' (Ne.symm hj)]
theorem u2_ne {a k : Nat} {x : Int32} {j : Nat} {e' : HC} (hj : j + 2 ≠ a) : mkC (u2 s a k x) j e' = mkC s j e' := by
  have h0 : (u2 s a k x).1 (j + 2) = s.1 (j + 2) := by
    funext m
    show (if j + 2 = a ∧ m = k then x else s.1 (j + 2) m) = _
    rw [if_neg (fun z => hj z.1)]
  have hv : ∀ m v, mkV (u2 s a k x) j m v = mkV s j m v := by
    intro m v
    cases v <;> simp only [mkV]
    rw [h0]
    rfl
  unfold mkC
  split
  · rw [h0]
  · rfl
  · rw [funext fun m => funext fun v => hv m v]
theorem shV_int {v : Value} (h : shV v = 1) : ∃ x, v = .int x := by
  cases v <;> simp [shV] at h
  exact ⟨_, rfl⟩
theorem shV_ref {v : Value} {r : Nat} (h : shV v = r + 2) : v = .ref r := by
  cases v <;> simp [shV] at h
  rw [h]
theorem fld_at {fs : List Value} {l : List Nat} {k c : Nat} (h3 : fs.map shV = l) (hk : l[k]? = some c) : ∃ v, fs[k]? = some v ∧ shV v = c := by
  rw [← h3, List.getElem?_map] at hk
  exact Option.map_eq_some_iff.mp hk
theorem gI {a ci n k : Nat} {l : List Nat} (h : sh a = some (2, ci, n, l)) (hk : l[k]? = some 1) : getF (mkH scr s) ci k a = some (.int (s.1 a k)) := by
  obtain ⟨fs, ⟨b, rfl, hl, hg⟩, -, h3⟩ := sh_obj (scr := scr) h
  obtain ⟨v, hv, hc⟩ := fld_at h3 hk
  obtain ⟨x, rfl⟩ := shV_int hc
  unfold getF
  rw [hg s]
  simp only [if_true]
  rw [List.getElem?_mapIdx, hv]
  rfl
theorem gR {a ci n k r : Nat} {l : List Nat} (h : sh a = some (2, ci, n, l)) (hk : l[k]? = some (r + 2)) : getF (mkH scr s) ci k a = some (.ref r) := by
  obtain ⟨fs, ⟨b, rfl, hl, hg⟩, -, h3⟩ := sh_obj (scr := scr) h
  obtain ⟨v, hv, hc⟩ := fld_at h3 hk
  have := shV_ref hc
  subst this
  unfold getF
  rw [hg s]
  simp only [if_true]
  rw [List.getElem?_mapIdx, hv]
  rfl
theorem pI {a ci n k : Nat} {l : List Nat} {x : Int32} (h : sh a = some (2, ci, n, l)) (hk : l[k]? = some 1) (hok : okF (fTy ci k) (.int x) = true) : putF (mkH scr s) ci k a (.int x) = some (mkH scr (u2 s a k x)) := by
  obtain ⟨fs, ⟨b, rfl, hl, hg⟩, -, h3⟩ := sh_obj (scr := scr) h
  obtain ⟨v, hv, hc⟩ := fld_at h3 hk
  obtain ⟨y, rfl⟩ := shV_int hc
  have hlt : k < fs.length := (List.getElem?_eq_some_iff.mp hv).1
  unfold putF
  rw [hg s]
  simp only [List.length_mapIdx, hlt, hok, and_self, if_true]
  refine congrArg some (mk_set hl ?_ (fun j e' hj => u2_ne (by omega)))
  show (Sum.inr (ci, fs.mapIdx (mkV (u2 s (b + 2) k x) b)) : HC) = .inr (ci, (fs.mapIdx (mkV s b)).set k (.int x))
  refine congrArg (fun z => (Sum.inr (ci, z) : HC)) ?_
  apply List.ext_getElem?
  intro m
  rw [List.getElem?_set, List.getElem?_mapIdx, List.getElem?_mapIdx, List.length_mapIdx]
  by_cases hm : k = m
  · subst hm
    rw [if_pos rfl, if_pos hlt, hv]
    show some (Value.int (if b + 2 = b + 2 ∧ k = k then x else s.1 (b + 2) k)) = _
    rw [if_pos ⟨rfl, rfl⟩]
  · rw [if_neg hm]
    cases hw : fs[m]? with
    | none => rfl
    | some w =>
      show some (mkV (u2 s (b + 2) k x) b m w) = some (mkV s b m w)
      refine congrArg some ?_
      cases w <;> simp only [mkV]
      · show Value.int (if b + 2 = b + 2 ∧ m = k then x else s.1 (b + 2) m) = _
        rw [if_neg (fun z => hm z.2.symm)]
      · rfl
theorem iL {a n : Nat} {i : Int32} (h : sh a = some (0, 0, n, [])) (hi : inB i n = true) : ialdF (mkH scr s) a i = some (s.1 a i.toNatClampNeg) := by
  unfold ialdF
  rw [sh_ints h]
  simp only [hi, if_true]
theorem bL {a n : Nat} {i : Int32} (h : sh a = some (0, 1, n, [])) (hi : inB i n = true) : baldF (mkH scr s) a i = some (s.1 a i.toNatClampNeg) := by
  unfold baldF
  rw [sh_ints h]
  simp only [hi, if_true]
theorem st_arr {a t n k : Nat} {x : Int32} (h : sh a = some (0, t, n, [])) : hSet (mkH scr s) a (.inl (t, n, .inl (upd (s.1 a) k x))) = mkH scr (u2 s a k x) := by
  obtain ⟨b, e, rfl, h1, h2⟩ := sh_cell h
  refine mk_set h1 ?_ (fun j e' hj => u2_ne (by omega))
  unfold shC at h2
  split at h2 <;> simp only [Prod.mk.injEq] at h2
  · obtain ⟨-, rfl, rfl, -⟩ := h2
    show (Sum.inl (_, _, .inl ((u2 s (b + 2) k x).1 (b + 2))) : HC) = _
    refine congrArg (fun z => (Sum.inl (_, _, .inl z) : HC)) ?_
    funext m
    show (if b + 2 = b + 2 ∧ m = k then x else s.1 (b + 2) m) = if m = k then x else s.1 (b + 2) m
    by_cases hm : m = k <;> simp [hm]
  all_goals exact absurd h2.1 (by decide)
theorem iS {a n : Nat} {i x : Int32} (h : sh a = some (0, 0, n, [])) (hi : inB i n = true) : iastF (mkH scr s) a i x = some (mkH scr (u2 s a i.toNatClampNeg x)) := by
  have h2 : 2 ≤ a := by obtain ⟨b, e, rfl, -⟩ := sh_cell h; omega
  unfold iastF
  rw [sh_ints h]
  simp only [hi, h2, and_self, if_true]
  rw [st_arr h]
theorem bS {a n : Nat} {i x : Int32} (h : sh a = some (0, 1, n, [])) (hi : inB i n = true) (hx : x = 0 ∨ x = 1) : bastF (mkH scr s) a i x = some (mkH scr (u2 s a i.toNatClampNeg x)) := by
  unfold bastF
  rw [sh_ints h]
  simp only [hi, hx, and_self, if_true]
  rw [st_arr h]
theorem aL {a t n r : Nat} {l : List Nat} {i : Int32} (h : sh a = some (1, t, n, l)) (ht : t = 2 ∨ t = 3 ∨ t = 4) (hi : inB i n = true) (hr : l[i.toNatClampNeg]? = some (r + 2)) : aaldF (mkH scr s) a i = some r := by
  obtain ⟨f, hg, hl⟩ := sh_refs (scr := scr) (s := s) h
  unfold aaldF
  rw [hg]
  simp only [hi, ht, and_self, if_true]
  rw [← hl, List.getElem?_map] at hr
  obtain ⟨q, h1, h2⟩ := Option.map_eq_some_iff.mp hr
  have hlt : i.toNatClampNeg < n := by
    have := (List.getElem?_eq_some_iff.mp h1).1
    rwa [List.length_range] at this
  rw [List.getElem?_range hlt] at h1
  cases h1
  cases hf : f i.toNatClampNeg with
  | none => rw [hf] at h2; cases h2
  | some y => rw [hf] at h2; simp at h2; rw [h2]
theorem cB {a ci n : Nat} {l : List Nat} (h : sh a = some (2, ci, n, l)) : clsB (mkH scr s) a ci = true := by
  obtain ⟨fs, ⟨b, rfl, hl, hg⟩, -, h3⟩ := sh_obj (scr := scr) h
  unfold clsB
  rw [hg s]
  simp
theorem sh_ge {a : Nat} {q : Nat × Nat × Nat × List Nat} (h : sh a = some q) : 2 ≤ a := by
  obtain ⟨b, e, rfl, -⟩ := sh_cell h
  omega
end STO
