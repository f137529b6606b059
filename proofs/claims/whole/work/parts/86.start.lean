/-! ===== the state behind the constructors ===== -/
def vA (a k : Nat) : Int32 := match L2[a - 2]? with
  | some (.inl (_, _, .inl f)) => f k
  | some (.inr (_, fs)) => match fs[k]? with
    | some (.int x) => x
    | _ => 0
  | _ => 0
noncomputable def s0 : ST := (fun a k => match L2s[a - 2]? with
  | some (.inl (_, _, .inl f)) => f k
  | some (.inr (_, fs)) => match fs[k]? with
    | some (.int x) => x
    | _ => 0
  | _ => 0, 0)
theorem s0_v (a k : Nat) : s0.1 a k = vA a k := by
  unfold s0 vA
  rw [L2s_eq]
def lgOk : HC → Bool
  | .inr (_, fs) => fs.all (fun v => match v with
    | .long x => x == 0
    | _ => true)
  | _ => true
set_option maxRecDepth 1000000 in
theorem lg_all : L2.all lgOk = true := by decide +kernel
theorem mk_s0 (scr : Nat × (Nat → Int32)) : mkH scr s0 = (scr, L2) := by
  unfold mkH
  rw [L2s_eq]
  refine congrArg (Prod.mk scr) (List.ext_getElem? (fun i => ?_))
  rw [List.getElem?_mapIdx]
  cases h : L2[i]? with
  | none => rfl
  | some e =>
    have hl : lgOk e = true := List.all_eq_true.mp lg_all e (List.mem_of_getElem? h)
    have hv : ∀ k, s0.1 (i + 2) k = match (some e : Option HC) with
      | some (.inl (_, _, .inl f)) => f k
      | some (.inr (_, fs)) => match fs[k]? with
        | some (.int x) => x
        | _ => 0
      | _ => 0 := fun k => by
      rw [s0_v]
      unfold vA
      rw [Nat.add_sub_cancel, h]
    refine congrArg some ?_
    match e, hl, hv with
    | .inl (t, n, .inl f), _, hv =>
      show (Sum.inl (t, n, Sum.inl (s0.1 (i + 2))) : HC) = _
      rw [funext hv]
    | .inl (t, n, .inr q), _, _ => rfl
    | .inr (ci, fs), hl, hv =>
      refine congrArg Sum.inr (congrArg (Prod.mk ci) (List.ext_getElem? (fun k => ?_)))
      rw [List.getElem?_mapIdx]
      cases g : fs[k]? with
      | none => rfl
      | some v =>
        refine congrArg some ?_
        have hv := hv k
        have hv : s0.1 (i + 2) k = match fs[k]? with
          | some (.int x) => x
          | _ => 0 := hv
        rw [g] at hv
        have hl := List.all_eq_true.mp hl v (List.mem_of_getElem? g)
        match v, hv, hl with
        | .int x, hv, _ => show Value.int (s0.1 (i + 2) k) = _; rw [hv]
        | .long x, _, hl =>
          have hl : (x == 0) = true := hl
          show Value.long 0 = _
          rw [eq_of_beq hl]
        | .float _, _, _ => rfl
        | .double _, _, _ => rfl
        | .ref _, _, _ => rfl
        | .null, _, _ => rfl
        | .retAddr _, _, _ => rfl
set_option maxRecDepth 1000000 in
theorem v_rowA : ∀ i, i < 8 → vA 4 i = -1 ∧ vA 5 i = 0 ∧ vA 618 i = -1000000 ∧ vA 619 i = 0 := by decide +kernel
set_option maxRecDepth 1000000 in
theorem v_rowB : ∀ i, i < 8 → ∀ k, k < 40 → vA (7 + i) k = 0 := by decide +kernel
set_option maxRecDepth 1000000 in
theorem v_rowC : ∀ i, i < 320 → vA 620 i = 0 := by decide +kernel
set_option maxRecDepth 1000000 in
theorem v_num : ∀ i, i < 6 → vA (533 + 3 * i) 0 = nI i := by decide +kernel
set_option maxRecDepth 1000000 in
theorem v_one : vA 15 1 = 0 ∧ vA 2 12 = 0 ∧ vA 2 13 = 0 ∧ vA 2 11 = 0 ∧ vA 531 0 = 1 ∧ vA 531 1 = 1 ∧ vA 531 2 = 0 ∧ vA 531 3 = 0 ∧ vA 612 0 = 0 ∧ vA 612 1 = 0 ∧ vA 17 1 = 0 ∧ vA 17 2 = 0 ∧ vA 499 1 = 0 := by decide +kernel
set_option maxRecDepth 1000000 in
theorem v_two : vA 614 4 = 0 ∧ vA 614 5 = 0 ∧ vA 614 6 = 0 ∧ vA 615 0 = 0 ∧ vA 615 3 = 0 ∧ vA 615 22 = 0 ∧ vA 615 119 = 0 ∧ vA 615 238 = 0 ∧ vA 614 2 = 0 ∧ vA 614 11 = 0 := by decide +kernel
def A0 : AS := ((fun _ => none, fun _ => 0, fun _ _ => 0), [], 0, 0, false, (1, 1, 0, 0, fun _ => p0), fun _ => none, [], [])
theorem gd_0 : Gd A0 := ⟨fun i _ => ⟨fun l h => (by cases h), Nat.zero_le _⟩, ⟨⟨Nat.le_refl _, by decide, Nat.le_refl _, by decide, Nat.zero_le _, fun i hi => absurd hi (Nat.not_lt_zero _)⟩, fun i hi => absurd hi (Nat.not_lt_zero _), Nat.zero_le _⟩, fun _ => rfl, fun k c h => (by cases h), fun c h => (by cases h)⟩
theorem ic_0 : InvC s0 A0 := by
  obtain ⟨a1, a2, a3, a4, a5, a6, a7, a8, a9, a10, a11, a12, a13⟩ := v_one
  refine ⟨fun i hi => ?_, ⟨(s0_v _ _).trans a1, Nat.zero_le _, fun i hi => absurd hi (Nat.not_lt_zero _)⟩, (s0_v _ _).trans a2, (s0_v _ _).trans a3, (s0_v _ _).trans a4, ⟨(s0_v _ _).trans a5, (s0_v _ _).trans a6, (s0_v _ _).trans a7, (s0_v _ _).trans a8, Nat.zero_le _, fun i hi => absurd hi (Nat.not_lt_zero _)⟩, fun k hk => ⟨?_, fun c h => (by cases h)⟩, ⟨0, by decide, (s0_v _ _).trans a11, (s0_v _ _).trans a12, Nat.zero_le _, fun q c h => (by cases h)⟩, ⟨(s0_v _ _).trans a13, Nat.zero_le _, fun i hi => absurd hi (Nat.not_lt_zero _)⟩, fun i hi => (s0_v _ _).trans (v_num i hi)⟩
  · obtain ⟨b1, b2, -, -⟩ := v_rowA i hi
    exact ⟨(s0_v _ _).trans b1, (s0_v _ _).trans b2, fun k hk => (s0_v _ _).trans (v_rowB i hi k hk)⟩
  · rcases (show k = 0 ∨ k = 1 by omega) with rfl | rfl
    · exact (s0_v _ _).trans a9
    · exact (s0_v _ _).trans a10
theorem im_0 : InvM s0 A0 := by
  obtain ⟨a1, a2, a3, a4, a5, a6, a7, a8, a9, a10⟩ := v_two
  refine ⟨fun i hi => ?_, ⟨(s0_v _ _).trans a1, Nat.zero_le _, fun i hi => absurd hi (Nat.not_lt_zero _)⟩, (s0_v _ _).trans a2, (s0_v _ _).trans a3, ⟨(s0_v _ _).trans a4, (s0_v _ _).trans a5, Nat.zero_le _, fun z => (by cases z), ⟨(s0_v _ _).trans a6, fun i hi => absurd hi (Nat.not_lt_zero _)⟩⟩, fun k hk => ⟨?_, fun c h => (by cases h)⟩, ⟨(s0_v _ _).trans a9, Nat.zero_le _, fun q c h => (by cases h)⟩, ⟨(s0_v _ _).trans a10, Nat.zero_le _, fun i hi => absurd hi (Nat.not_lt_zero _)⟩⟩
  · obtain ⟨-, -, b3, b4⟩ := v_rowA i hi
    exact ⟨(s0_v _ _).trans b3, (s0_v _ _).trans b4, fun k hk => (s0_v _ _).trans (v_rowC _ (by omega))⟩
  · rcases (show k = 0 ∨ k = 1 by omega) with rfl | rfl
    · exact (s0_v _ _).trans a7
    · exact (s0_v _ _).trans a8
