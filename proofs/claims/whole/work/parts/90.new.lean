/-! ===== the state behind the constructors ===== -/
def vA (a k : Nat) : Int32 := match L2[a - 2]? with
  | some (.inl (_, _, .inl f)) => f k
  | some (.inr (_, fs)) => match fs[k]? with
    | some (.int x) => x
    | _ => 0
  | _ => 0
noncomputable def s0 : ST := (fun a k => match L2s[a - 2]? with
  | some (.inl (_, _, .inl f)) => f k
  | some (.inr (_, fs)) => match fs[k]? with
    | some (.int x) => x
    | _ => 0
  | _ => 0, 0)
theorem s0_v (a k : Nat) : s0.1 a k = vA a k := by
  unfold s0 vA
  rw [L2s_eq]
def lgOk : HC → Bool
  | .inr (_, fs) => fs.all (fun v => match v with
    | .long x => x == 0
    | _ => true)
  | _ => true
set_option maxRecDepth 1000000 in
theorem lg_all : L2.all lgOk = true := by decide +kernel
theorem mk_s0 (scr : Nat × (Nat → Int32)) : mkH scr s0 = (scr, L2) := by
  unfold mkH
  rw [L2s_eq]
  refine congrArg (Prod.mk scr) (List.ext_getElem? (fun i => ?_))
  rw [List.getElem?_mapIdx]
  cases h : L2[i]? with
  | none => rfl
  | some e =>
    have hl : lgOk e = true := List.all_eq_true.mp lg_all e (List.mem_of_getElem? h)
    have hv : ∀ k, s0.1 (i + 2) k = match (some e : Option HC) with
      | some (.inl (_, _, .inl f)) => f k
      | some (.inr (_, fs)) => match fs[k]? with
        | some (.int x) => x
        | _ => 0
      | _ => 0 := fun k => by
      rw [s0_v]
      unfold vA
      rw [Nat.add_sub_cancel, h]
    refine congrArg some ?_
    match e, hl, hv with
    | .inl (t, n, .inl f), _, hv =>
      show (Sum.inl (t, n, Sum.inl (s0.1 (i + 2))) : HC) = _
      rw [funext hv]
    | .inl (t, n, .inr q), _, _ => rfl
    | .inr (ci, fs), hl, hv =>
      refine congrArg Sum.inr (congrArg (Prod.mk ci) (List.ext_getElem? (fun k => ?_)))
      rw [List.getElem?_mapIdx]
      cases g : fs[k]? with
      | none => rfl
      | some v =>
        refine congrArg some ?_
        have hv := hv k
        have hv : s0.1 (i + 2) k = match fs[k]? with
          | some (.int x) => x
          | _ => 0 := hv
        rw [g] at hv
        have hl := List.all_eq_true.mp hl v (List.mem_of_getElem? g)
        match v, hv, hl with
        | .int x, hv, _ => show Value.int (s0.1 (i + 2) k) = _; rw [hv]
        | .long x, _, hl =>
          have hl : (x == 0) = true := hl
          show Value.long 0 = _
          rw [eq_of_beq hl]
        | .float _, _, _ => rfl
        | .double _, _, _ => rfl
        | .ref _, _, _ => rfl
        | .null, _, _ => rfl
        | .retAddr _, _, _ => rfl
set_option maxRecDepth 1000000 in
theorem v_rowA : ∀ i, i < 8 → vA 4 i = -1 ∧ vA 5 i = 0 ∧ vA 618 i = -1000000 ∧ vA 619 i = 0 := by decide +kernel
set_option maxRecDepth 1000000 in
theorem v_rowB : ∀ i, i < 8 → ∀ k, k < 40 → vA (7 + i) k = 0 := by decide +kernel
set_option maxRecDepth 1000000 in
theorem v_rowC : ∀ i, i < 320 → vA 620 i = 0 := by decide +kernel
set_option maxRecDepth 1000000 in
theorem v_num : ∀ i, i < 6 → vA (533 + 3 * i) 0 = nI i := by decide +kernel
set_option maxRecDepth 1000000 in
theorem v_one : vA 15 1 = 0 ∧ vA 2 12 = 0 ∧ vA 2 13 = 0 ∧ vA 2 11 = 0 ∧ vA 531 0 = 1 ∧ vA 531 1 = 1 ∧ vA 531 2 = 0 ∧ vA 531 3 = 0 ∧ vA 612 0 = 0 ∧ vA 612 1 = 0 ∧ vA 17 1 = 0 ∧ vA 17 2 = 0 ∧ vA 499 1 = 0 := by decide +kernel
set_option maxRecDepth 1000000 in
theorem v_two : vA 614 4 = 0 ∧ vA 614 5 = 0 ∧ vA 614 6 = 0 ∧ vA 615 0 = 0 ∧ vA 615 3 = 0 ∧ vA 615 22 = 0 ∧ vA 615 119 = 0 ∧ vA 615 238 = 0 ∧ vA 614 2 = 0 ∧ vA 614 11 = 0 := by decide +kernel
def A0 : AS := ((fun _ => none, fun _ => 0, fun _ _ => 0), [], 0, 0, false, (1, 1, 0, 0, fun _ => p0), fun _ => none, [], [])
theorem gd_0 : Gd A0 := ⟨fun i _ => ⟨fun l h => (by cases h), Nat.zero_le _⟩, ⟨⟨Nat.le_refl _, by decide, Nat.le_refl _, by decide, Nat.zero_le _, fun i hi => absurd hi (Nat.not_lt_zero _)⟩, fun i hi => absurd hi (Nat.not_lt_zero _), Nat.zero_le _⟩, fun _ => rfl, fun k c h => (by cases h), fun c h => (by cases h)⟩
theorem ic_0 : InvC s0 A0 := by
  obtain ⟨a1, a2, a3, a4, a5, a6, a7, a8, a9, a10, a11, a12, a13⟩ := v_one
  refine ⟨fun i hi => ?_, ⟨(s0_v _ _).trans a1, Nat.zero_le _, fun i hi => absurd hi (Nat.not_lt_zero _)⟩, (s0_v _ _).trans a2, (s0_v _ _).trans a3, (s0_v _ _).trans a4, ⟨(s0_v _ _).trans a5, (s0_v _ _).trans a6, (s0_v _ _).trans a7, (s0_v _ _).trans a8, Nat.zero_le _, fun i hi => absurd hi (Nat.not_lt_zero _)⟩, fun k hk => ⟨?_, fun c h => (by cases h)⟩, ⟨0, by decide, (s0_v _ _).trans a11, (s0_v _ _).trans a12, Nat.zero_le _, fun q c h => (by cases h)⟩, ⟨(s0_v _ _).trans a13, Nat.zero_le _, fun i hi => absurd hi (Nat.not_lt_zero _)⟩, fun i hi => (s0_v _ _).trans (v_num i hi)⟩
  · obtain ⟨b1, b2, -, -⟩ := v_rowA i hi
    exact ⟨(s0_v _ _).trans b1, (s0_v _ _).trans b2, fun k hk => (s0_v _ _).trans (v_rowB i hi k hk)⟩
  · rcases (show k = 0 ∨ k = 1 by omega) with rfl | rfl
    · exact (s0_v _ _).trans a9
    · exact (s0_v _ _).trans a10
theorem im_0 : InvM s0 A0 := by
  obtain ⟨a1, a2, a3, a4, a5, a6, a7, a8, a9, a10⟩ := v_two
  refine ⟨fun i hi => ?_, ⟨(s0_v _ _).trans a1, Nat.zero_le _, fun i hi => absurd hi (Nat.not_lt_zero _)⟩, (s0_v _ _).trans a2, (s0_v _ _).trans a3, ⟨(s0_v _ _).trans a4, (s0_v _ _).trans a5, Nat.zero_le _, fun z => (by cases z), ⟨(s0_v _ _).trans a6, fun i hi => absurd hi (Nat.not_lt_zero _)⟩⟩, fun k hk => ⟨?_, fun c h => (by cases h)⟩, ⟨(s0_v _ _).trans a9, Nat.zero_le _, fun q c h => (by cases h)⟩, ⟨(s0_v _ _).trans a10, Nat.zero_le _, fun i hi => absurd hi (Nat.not_lt_zero _)⟩⟩
  · obtain ⟨-, -, b3, b4⟩ := v_rowA i hi
    exact ⟨(s0_v _ _).trans b3, (s0_v _ _).trans b4, fun k hk => (s0_v _ _).trans (v_rowC _ (by omega))⟩
  · rcases (show k = 0 ∨ k = 1 by omega) with rfl | rfl
    · exact (s0_v _ _).trans a7
    · exact (s0_v _ _).trans a8
/-! ===== the law's loop ===== -/
def swT (k : Nat) : Nat := if 34 < k then 1383 else ([188, 231, 274, 337, 360, 383, 396, 409, 422, 455, 488, 541, 574, 607, 630, 653, 686, 729, 782, 815, 858, 911, 974, 1007, 1030, 1083, 1126, 1189, 1212, 1235, 1258, 1291, 1324, 1347, 1370] : List Nat).getD k 0
theorem law_sw {L : List Value} {h : Hp} {k : Nat} (hk : k < 64) : EvI (EvM 40) CL 2 33 L [.int (nI k)] h = EvI (EvM 40) CL 2 (swT k) L [] h := by
  have e : (nI k).toInt = (k : Int) := nI_toInt (by omega)
  rw [eL_33]
  show (if (nI k).toInt < 0 ∨ 34 < (nI k).toInt then _ else _) = _
  rw [e]
  unfold swT
  by_cases g : 34 < k
  · rw [if_pos (show (k : Int) < 0 ∨ 34 < (k : Int) from Or.inr (by omega)), if_pos g]
    rfl
  · rw [if_neg (show ¬ ((k : Int) < 0 ∨ 34 < (k : Int)) by omega), if_neg g]
    obtain rfl | rfl | rfl | rfl | rfl | rfl | rfl | rfl | rfl | rfl | rfl | rfl | rfl | rfl | rfl | rfl | rfl | rfl | rfl | rfl | rfl | rfl | rfl | rfl | rfl | rfl | rfl | rfl | rfl | rfl | rfl | rfl | rfl | rfl | rfl : k = 0 ∨ k = 1 ∨ k = 2 ∨ k = 3 ∨ k = 4 ∨ k = 5 ∨ k = 6 ∨ k = 7 ∨ k = 8 ∨ k = 9 ∨ k = 10 ∨ k = 11 ∨ k = 12 ∨ k = 13 ∨ k = 14 ∨ k = 15 ∨ k = 16 ∨ k = 17 ∨ k = 18 ∨ k = 19 ∨ k = 20 ∨ k = 21 ∨ k = 22 ∨ k = 23 ∨ k = 24 ∨ k = 25 ∨ k = 26 ∨ k = 27 ∨ k = 28 ∨ k = 29 ∨ k = 30 ∨ k = 31 ∨ k = 32 ∨ k = 33 ∨ k = 34 := by omega
    all_goals rfl
theorem nI_all (y : Int32) : nI y.toBitVec.toNat = y := by
  apply Int32.toBitVec_inj.mp
  show BitVec.ofNat 32 y.toBitVec.toNat = y.toBitVec
  simp
theorem and63 (y : Int32) : ∃ k, k < 64 ∧ y &&& 63 = nI k := by
  have h := pk_andN (n := y.toBitVec.toNat) (BitVec.isLt _) (m := 63) 6 (by decide)
  rw [nI_all] at h
  exact ⟨_, Nat.mod_lt _ (by decide), h⟩
section LOOP
variable {scr : Nat × (Nat → Int32)} {s : ST} {A : AS} {i : Nat}
theorem law_one {k : Nat} (hk : k < 64) (hL : scr.1 ≤ 384) (hi : i + 5 < scr.1) (hC : InvC s A) (hM : InvM s A) (hG : Gd A) : ∃ s2 A2, InvC s2 A2 ∧ InvM s2 A2 ∧ Gd A2 ∧ EvI (EvM 40) CL 2 (swT k) [.ref 1, .ref 2, .ref 614, .int (nI i)] [] (mkH scr s) = EvI (EvM 40) CL 2 1383 [.ref 1, .ref 2, .ref 614, .int (nI i)] [] (mkH scr s2) := by
  by_cases g : 34 < k
  · refine ⟨s, A, hC, hM, hG, ?_⟩
    unfold swT
    rw [if_pos g]
  · obtain rfl | rfl | rfl | rfl | rfl | rfl | rfl | rfl | rfl | rfl | rfl | rfl | rfl | rfl | rfl | rfl | rfl | rfl | rfl | rfl | rfl | rfl | rfl | rfl | rfl | rfl | rfl | rfl | rfl | rfl | rfl | rfl | rfl | rfl | rfl : k = 0 ∨ k = 1 ∨ k = 2 ∨ k = 3 ∨ k = 4 ∨ k = 5 ∨ k = 6 ∨ k = 7 ∨ k = 8 ∨ k = 9 ∨ k = 10 ∨ k = 11 ∨ k = 12 ∨ k = 13 ∨ k = 14 ∨ k = 15 ∨ k = 16 ∨ k = 17 ∨ k = 18 ∨ k = 19 ∨ k = 20 ∨ k = 21 ∨ k = 22 ∨ k = 23 ∨ k = 24 ∨ k = 25 ∨ k = 26 ∨ k = 27 ∨ k = 28 ∨ k = 29 ∨ k = 30 ∨ k = 31 ∨ k = 32 ∨ k = 33 ∨ k = 34 := by omega
    · exact lw_row hL hi hC hM hG
    · exact lw_set hL hi hC hM hG
    · exact lw_copy hL hi hC hM hG
    · exact lw_drop hL hi hC hM hG
    · exact lw_feed hL hi hC hM hG
    · exact lw_county hL hi hC hM hG
    · exact lw_fault hL hi hC hM hG
    · exact lw_undo hL hi hC hM hG
    · exact lw_sent hL hi hC hM hG
    · exact lw_deed hL hi hC hM hG
    · exact lw_sale hL hi hC hM hG
    · exact lw_pays hL hi hC hM hG
    · exact lw_dies hL hi hC hM hG
    · exact lw_pardon hL hi hC hM hG
    · exact lw_month hL hi hC hM hG
    · exact lw_person hL hi hC hM hG
    · exact lw_lot hL hi hC hM hG
    · exact lw_ahead hL hi hC hM hG
    · exact lw_lapsed hL hi hC hM hG
    · exact lw_tried hL hi hC hM hG
    · exact lw_cover hL hi hC hM hG
    · exact lw_best hL hi hC hM hG
    · exact lw_market hL hi hC hM hG
    · exact lw_rest hL hi hC hM hG
    · exact lw_ring hL hi hC hM hG
    · exact lw_wrong hL hi hC hM hG
    · exact lw_sat hL hi hC hM hG
    · exact lw_image hL hi hC hM hG
    · exact lw_restore hL hi hC hM hG
    · exact lw_kind hL hi hC hM hG
    · exact lw_as hL hi hC hM hG
    · exact lw_ask hL hi hC hM hG
    · exact lw_trace hL hi hC hM hG
    · exact lw_count hL hi hC hM hG
    · exact lw_status hL hi hC hM hG
theorem sl_b {ρ : Type} (f : Nat → Option ρ) : (alenF (mkH scr s) 1).bind f = f scr.1 := rfl
theorem law_loop (hL : scr.1 ≤ 384) : ∀ f i (s : ST) (A : AS), scr.1 < i + 6 * f + 6 → i < 10000 → InvC s A → InvM s A → Gd A → ∃ s2, EvI (EvM 40) CL 2 18 [.ref 1, .ref 2, .ref 614, .int (nI i)] [] (mkH scr s) = some (1, mkH scr s2) := by
  intro f
  have stop : ∀ i (s : ST), scr.1 < i + 6 → i < 10000 → EvI (EvM 40) CL 2 18 [.ref 1, .ref 2, .ref 614, .int (nI i)] [] (mkH scr s) = some (1, mkH scr s) := by
    intro i s h hi
    have hlt : nI scr.1 - nI 6 < nI i := by
      rw [Int32.lt_iff_toInt_lt, pk_sub_toInt (by omega) (by omega), nI_toInt (by omega)]
      omega
    have e0 : ∀ n, Int32.ofNat n = nI n := fun _ => rfl
    simp (disch := omega) only [eL_18, eL_19, eL_20, eL_21, eL_23, eL_24, eL_1389, eL_1390, ↓reduceIte, ↓gi0, ↓gr0, ↓gl0, ↓gi1, ↓gr1, ↓gl1, ↓gi2, ↓gr2, ↓gl2, ↓gi3, ↓gr3, ↓gl3, ↓gi4, ↓gr4, ↓gl4, ↓gi5, ↓gr5, ↓gl5, ↓gi6, ↓gr6, ↓gl6, ↓gi7, ↓gr7, ↓gl7, ↓gi8, ↓gr8, ↓gl8, ↓gi9, ↓gr9, ↓gl9, ↓qI, ↓qI2, ↓qL, ↓qL2, ↓qR, ↓qV, ↓pd0, ↓ta0, ↓ts0, ↓pd1, ↓ta1, ↓ts1, ↓pd2, ↓ta2, ↓ts2, ↓pd3, ↓ta3, ↓ts3, ↓pd4, ↓ta4, ↓ts4, ↓pd5, ↓ta5, ↓ts5, ↓pd6, ↓ta6, ↓ts6, lGet, lSet, okS, isLg, Bool.not_false, Bool.not_true, Bool.false_eq_true, not_false_eq_true, not_true_eq_false, catS, okR1, okR20, okR21, okR2b, List.length_cons, List.length_nil, List.drop_succ_cons, List.drop_zero, List.drop_nil, and_self, true_and, and_true, false_and, and_false, Nat.reduceAdd, Nat.reduceLeDiff, Nat.zero_add, Nat.le_refl, Nat.zero_le, pushR, reduceCtorEq, or_self, or_false, false_or, true_or, or_true, ↓sl_b, e0, n6, hlt, if_true]
  induction f with
  | zero =>
    intro i s A h hi hC hM hG
    exact ⟨s, stop i s (by omega) hi⟩
  | succ f ih =>
    intro i s A h hi hC hM hG
    by_cases g : scr.1 < i + 6
    · exact ⟨s, stop i s g hi⟩
    · obtain ⟨k, hk, ek⟩ := and63 (scr.2 i)
      obtain ⟨s2, A2, c1, c2, c3, c4⟩ := law_one (s := s) (A := A) (i := i) hk hL (by omega) hC hM hG
      obtain ⟨s3, d1⟩ := ih (i + 6) s2 A2 (by omega) (by omega) c1 c2 c3
      refine ⟨s3, ?_⟩
      have e0 : ∀ n, Int32.ofNat n = nI n := fun _ => rfl
      have hge : ¬ (nI scr.1 - nI 6 < nI i) := by
        rw [Int32.lt_iff_toInt_lt, pk_sub_toInt (by omega) (by omega), nI_toInt (by omega)]
        omega
      have st1 : EvI (EvM 40) CL 2 18 [.ref 1, .ref 2, .ref 614, .int (nI i)] [] (mkH scr s) = EvI (EvM 40) CL 2 33 [.ref 1, .ref 2, .ref 614, .int (nI i)] [.int (nI k)] (mkH scr s) := by
        simp (disch := omega) only [eL_18, eL_19, eL_20, eL_21, eL_23, eL_24, eL_27, eL_28, eL_29, eL_30, eL_32, ↓reduceIte, ↓gi0, ↓gr0, ↓gl0, ↓gi1, ↓gr1, ↓gl1, ↓gi2, ↓gr2, ↓gl2, ↓gi3, ↓gr3, ↓gl3, ↓gi4, ↓gr4, ↓gl4, ↓gi5, ↓gr5, ↓gl5, ↓gi6, ↓gr6, ↓gl6, ↓gi7, ↓gr7, ↓gl7, ↓gi8, ↓gr8, ↓gl8, ↓gi9, ↓gr9, ↓gl9, ↓qI, ↓qI2, ↓qL, ↓qL2, ↓qR, ↓qV, ↓pd0, ↓ta0, ↓ts0, ↓pd1, ↓ta1, ↓ts1, ↓pd2, ↓ta2, ↓ts2, ↓pd3, ↓ta3, ↓ts3, ↓pd4, ↓ta4, ↓ts4, ↓pd5, ↓ta5, ↓ts5, ↓pd6, ↓ta6, ↓ts6, lGet, lSet, okS, isLg, Bool.not_false, Bool.not_true, Bool.false_eq_true, not_false_eq_true, not_true_eq_false, catS, okR1, okR20, okR21, okR2b, List.length_cons, List.length_nil, List.drop_succ_cons, List.drop_zero, List.drop_nil, and_self, true_and, and_true, false_and, and_false, Nat.reduceAdd, Nat.reduceLeDiff, Nat.zero_add, Nat.le_refl, Nat.zero_le, pushR, reduceCtorEq, or_self, or_false, false_or, true_or, or_true, ↓sl_b, e0, n6, hge, if_false, ↓scl (show i < scr.1 by omega) hL, ek]
      have st2 : EvI (EvM 40) CL 2 1383 [.ref 1, .ref 2, .ref 614, .int (nI i)] [] (mkH scr s2) = EvI (EvM 40) CL 2 18 [.ref 1, .ref 2, .ref 614, .int (nI (i + 6))] [] (mkH scr s2) := by
        simp (disch := omega) only [eL_1383, eL_1386, ↓reduceIte, ↓gi0, ↓gr0, ↓gl0, ↓gi1, ↓gr1, ↓gl1, ↓gi2, ↓gr2, ↓gl2, ↓gi3, ↓gr3, ↓gl3, ↓gi4, ↓gr4, ↓gl4, ↓gi5, ↓gr5, ↓gl5, ↓gi6, ↓gr6, ↓gl6, ↓gi7, ↓gr7, ↓gl7, ↓gi8, ↓gr8, ↓gl8, ↓gi9, ↓gr9, ↓gl9, ↓qI, ↓qI2, ↓qL, ↓qL2, ↓qR, ↓qV, ↓pd0, ↓ta0, ↓ts0, ↓pd1, ↓ta1, ↓ts1, ↓pd2, ↓ta2, ↓ts2, ↓pd3, ↓ta3, ↓ts3, ↓pd4, ↓ta4, ↓ts4, ↓pd5, ↓ta5, ↓ts5, ↓pd6, ↓ta6, ↓ts6, lGet, lSet, okS, isLg, Bool.not_false, Bool.not_true, Bool.false_eq_true, not_false_eq_true, not_true_eq_false, catS, okR1, okR20, okR21, okR2b, List.length_cons, List.length_nil, List.drop_succ_cons, List.drop_zero, List.drop_nil, and_self, true_and, and_true, false_and, and_false, Nat.reduceAdd, Nat.reduceLeDiff, Nat.zero_add, Nat.le_refl, Nat.zero_le, pushR, reduceCtorEq, or_self, or_false, false_or, true_or, or_true, n6, nI_add]
      rw [st1, law_sw hk, c4, st2, d1]
end LOOP
theorem mkH_len (scr : Nat × (Nat → Int32)) (s : ST) : (mkH scr s).2.length = L2.length := by
  unfold mkH
  rw [L2s_eq, List.length_mapIdx]
theorem csz_mk (s : ST) (i : Nat) (e : HC) : csz (mkC s i e) = csz e := by
  match e with
  | .inl (t, n, .inl f) => rfl
  | .inl (t, n, .inr q) => rfl
  | .inr (ci, fs) => show (fs.mapIdx (mkV s i)).length = fs.length; rw [List.length_mapIdx]
theorem mkH_slots (scr : Nat × (Nat → Int32)) (s : ST) : slotsOf (mkH scr s) = (L2.map csz).sum := by
  unfold slotsOf mkH
  rw [L2s_eq]
  refine congrArg List.sum (List.ext_getElem? (fun i => ?_))
  rw [List.getElem?_map, List.getElem?_mapIdx, List.getElem?_map]
  cases L2[i]? with
  | none => rfl
  | some e => exact congrArg some (csz_mk s i e)
set_option maxRecDepth 1000000 in
theorem L2_sz : L2.length ≤ 600000 ∧ (L2.map csz).sum ≤ 7302250 := by decide +kernel
theorem law_all (scr : Nat × (Nat → Int32)) (hL : scr.1 ≤ 384) : ∃ s9, EvI (EvM 40) CL 2 0 [.ref 1, jk, jk, jk] [] (scr, []) = some (1, mkH scr s9) := by
  obtain ⟨s9, h9⟩ := law_loop (scr := scr) hL 64 0 s0 A0 (by omega) (by omega) ic_0 im_0 gd_0
  refine ⟨s9, ?_⟩
  rw [← h9]
  have c1 : EvM 40 85 [.ref 2] (scr, [.inr (8, dflt 8)]) = some (0, (scr, L1)) := new_class 36 scr
  have c2 : EvM 40 130 [.ref 614] (scr, L1 ++ [.inr (9, dflt 9)]) = some (0, (scr, L2)) := new_model 39 scr
  rw [← mk_s0 scr] at c2
  have n1 : hNew (scr, []) [.inr (8, dflt 8)] = (scr, [.inr (8, dflt 8)]) := rfl
  have n2' : hNew (scr, L1) [.inr (9, dflt 9)] = (scr, L1 ++ [.inr (9, dflt 9)]) := rfl
  have l1 : ((scr, L1) : Hp).2.length = 612 := L1_len
  have l0 : ((scr, []) : Hp).2.length = 0 := rfl
  have p1 : EvI (EvM 40) CL 2 0 [.ref 1, jk, jk, jk] [] (scr, []) = EvI (EvM 40) CL 2 8 [.ref 1, .ref 2, jk, jk] [] (scr, L1) := by
    simp (disch := omega) only [eL_0, eL_3, eL_4, eL_7, ↓reduceIte, ↓gi0, ↓gr0, ↓gl0, ↓gi1, ↓gr1, ↓gl1, ↓gi2, ↓gr2, ↓gl2, ↓gi3, ↓gr3, ↓gl3, ↓gi4, ↓gr4, ↓gl4, ↓gi5, ↓gr5, ↓gl5, ↓gi6, ↓gr6, ↓gl6, ↓gi7, ↓gr7, ↓gl7, ↓gi8, ↓gr8, ↓gl8, ↓gi9, ↓gr9, ↓gl9, ↓qI, ↓qI2, ↓qL, ↓qL2, ↓qR, ↓qV, ↓pd0, ↓ta0, ↓ts0, ↓pd1, ↓ta1, ↓ts1, ↓pd2, ↓ta2, ↓ts2, ↓pd3, ↓ta3, ↓ts3, ↓pd4, ↓ta4, ↓ts4, ↓pd5, ↓ta5, ↓ts5, ↓pd6, ↓ta6, ↓ts6, lGet, lSet, okS, isLg, Bool.not_false, Bool.not_true, Bool.false_eq_true, not_false_eq_true, not_true_eq_false, catS, okR1, okR20, okR21, okR2b, List.length_cons, List.length_nil, List.drop_succ_cons, List.drop_zero, List.drop_nil, and_self, true_and, and_true, false_and, and_false, Nat.reduceAdd, Nat.reduceLeDiff, Nat.zero_add, Nat.le_refl, Nat.zero_le, pushR, reduceCtorEq, or_self, or_false, false_or, true_or, or_true, l0, n1, ↓bnd c1]
  have p2 : EvI (EvM 40) CL 2 8 [.ref 1, .ref 2, jk, jk] [] (scr, L1) = EvI (EvM 40) CL 2 18 [.ref 1, .ref 2, .ref 614, .int (nI 0)] [] (mkH scr s0) := by
    simp (disch := omega) only [eL_8, eL_11, eL_12, eL_15, eL_16, eL_17, ↓reduceIte, ↓gi0, ↓gr0, ↓gl0, ↓gi1, ↓gr1, ↓gl1, ↓gi2, ↓gr2, ↓gl2, ↓gi3, ↓gr3, ↓gl3, ↓gi4, ↓gr4, ↓gl4, ↓gi5, ↓gr5, ↓gl5, ↓gi6, ↓gr6, ↓gl6, ↓gi7, ↓gr7, ↓gl7, ↓gi8, ↓gr8, ↓gl8, ↓gi9, ↓gr9, ↓gl9, ↓qI, ↓qI2, ↓qL, ↓qL2, ↓qR, ↓qV, ↓pd0, ↓ta0, ↓ts0, ↓pd1, ↓ta1, ↓ts1, ↓pd2, ↓ta2, ↓ts2, ↓pd3, ↓ta3, ↓ts3, ↓pd4, ↓ta4, ↓ts4, ↓pd5, ↓ta5, ↓ts5, ↓pd6, ↓ta6, ↓ts6, lGet, lSet, okS, isLg, Bool.not_false, Bool.not_true, Bool.false_eq_true, not_false_eq_true, not_true_eq_false, catS, okR1, okR20, okR21, okR2b, List.length_cons, List.length_nil, List.drop_succ_cons, List.drop_zero, List.drop_nil, and_self, true_and, and_true, false_and, and_false, Nat.reduceAdd, Nat.reduceLeDiff, Nat.zero_add, Nat.le_refl, Nat.zero_le, pushR, reduceCtorEq, or_self, or_false, false_or, true_or, or_true, l1, n2', ↓bnd c2]
    rfl
  exact p1.trans p2
theorem whole_start {p : Program} {e : Env} {s : State} {m : MethodId} {below : List Frame} {meth : Method} {c : Code} (l : Launch) (_ : l.flags = flags0) {b L : Nat} {xs : Nat → Int32} (hbd : L ≤ 384) (C0 : lw_At p s m meth c b L xs) :
    W p l e room_1 s m #[Value.ref b] below meth c s.heap [] 0 0 (lw_Z below #[Value.ref b] s) (entryFrame m ([Value.ref b] : List Value).toArray 4) := by
  obtain ⟨s9, h9⟩ := law_all (L, xs) hbd
  exact law_sound l C0 h9 (by rw [mkH_len]; exact L2_sz.1) (by rw [mkH_slots]; exact L2_sz.2)
set_option maxHeartbeats 4000000 in
theorem lw_walk (l : Launch) (hflags : l.flags = flags0) (b : Addr) (xs : List Int32) : MetFree l x (headSpec (Jvm.Cond.code x code maxLocals ret :: tables_1) room_1) (lw_P b xs) (fun _ _ _ _ _ => True) lw_Q := by
  refine MetFree.of_bodyS (code := code) (maxLocals := maxLocals) (ret := ret) (by decide) ?_ ?_
  · intro args s m h hn
    obtain ⟨meth, c, h1, h2, h3, h4, h5, h6, -, -⟩ := Cond.code_spec hn (atoms_spec (ws := Jvm.Cond.code x code maxLocals ret :: tables_1) h _ List.mem_cons_self)
    exact ⟨meth, c, h1, h2, h3, h4, h5, h6⟩
  · intro p e s m args below meth c s₁ B hml0 hP _
    obtain ⟨rfl, hx, hbd, hgv⟩ := hP
    obtain ⟨scr, harrAt, hlist, hof, hsmall⟩ := hx
    obtain ⟨hcb, hkn, -, -⟩ := State.arrayAt?_spec harrAt
    have hown : s.vm.findClass R_law = some m.cls := findClass_of_methodNamed B.named
    have hts0 : ∀ c ∈ (Jvm.Cond.code x code maxLocals ret :: tables_1), c.before #[Value.ref b] s = true := atoms_spec (ws := Jvm.Cond.code x code maxLocals ret :: tables_1) B.pre
    have hts : ∀ w ∈ lw_tbl, w.before #[Value.ref b] s = true := k2_hts_sels lw_privs (fun w hw => hts0 w (List.mem_cons_of_mem _ hw)) lw_privs_ok
    have hml : c.maxLocals = 4 := B.maxLocals_eq (hts0 _ List.mem_cons_self)
    have X₀ : Stand p l e room_1 s m #[Value.ref b] below meth c s₁ [] 0 0 := Stand.of_body B
    have hh0 : s₁.heap = s.heap := by rw [B.state]; rfl
    have hsz : scr.slots.size = xs.length := by rw [← Array.length_toList, hlist, List.length_map]
    have hval : ∀ j : Nat, j < xs.length → scr.slots[j]? = some (.int (xs.getD j 0)) := fun j hj => by
      rw [← Array.getElem?_toList, hlist]
      simp [hj]
    have hbl : b < s.heap.size := (Array.getElem?_eq_some_iff.mp hcb).1
    have hX : va_X b xs.length (fun j => xs.getD j 0) s s.heap := ⟨scr, hcb, hof, hkn, hsz, hval⟩
    have K : W p l e room_1 s m #[Value.ref b] below meth c s₁.heap [] 0 0 (lw_Z below #[Value.ref b] s) (entryFrame m ([Value.ref b] : List Value).toArray 4) := by
      rw [hh0]
      exact whole_start l hflags hbd ⟨B.exec, B.bytes, B.returns, hml, hown, hts, hX, hbl, B.notSynchronized, hgv⟩
    obtain ⟨t, a1, o, b1, b2, b3⟩ := K s₁ rfl X₀
    exact ⟨t, o, a1, b1, b2, b3⟩
theorem lw_pre_spec {args : Array Value} {s : State} (h : (Jvm.Cond.and given_1 narrow_1).before args s = true) (hr : rest_1_c.before args s = true) : ∃ (b : Addr) (xs : List Int32), lw_P b xs args s := by
  have hs := flat_of_before _ h
  have hq := flat_of_before _ hr
  have hc : (Cond.count 1).before args s = true := hs _ (by decide +kernel)
  have harr : (Cond.arrayOf (.arg 0) .int).before args s = true := hs _ (by decide +kernel)
  have hle : (Cond.le (.length (.arg 0)) (.int 384)).before args s = true := hs _ (by decide +kernel)
  have hlen : (Cond.isInt (.length (.arg 0))).before args s = true := hq _ (by decide +kernel)
  have hall : (Cond.all (.arg 0) (.isInt (.elem (.arg 0) (.index 0)))).before args s = true := hq _ (by decide +kernel)
  obtain ⟨b, xs, hb, hx⟩ := State.ints_of_pre rfl harr hlen hall
  have hsm : xs.length < 2 ^ 31 := hx.choose_spec.2.2.2
  have hev : (Term.length (.arg 0)).eval args s none [] s = some (.int xs.length.toInt32) := hx.length_eval hb
  have hv := Cond.le_ints hev (show (Term.int 384).eval args s none [] s = some (.int 384) from rfl)
  have hd : xs.length.toInt32 ≤ 384 := by
    simpa [Cond.before, Cond.holds, hv] using hle
  have hN : xs.length ≤ 384 := (Int32.ofNat_le_ofNat hsm (by decide)).mp (show Int32.ofNat xs.length ≤ Int32.ofNat 384 from hd)
  exact ⟨b, xs, Cond.one_arg hc (show args[0]? = some (.ref b) from hb), hx, hN, h⟩
theorem lw_comes (l : Launch) (hflags : l.flags = flags0) : Comes l x (Jvm.Cond.code x code maxLocals ret :: tables_1) room_1 (fun tb e args s => Calls_1 tb e args s ∧ rest_1 tb e args s ∧ Pre_1 tb e args s)
    (fun _ _ args s o t => lw_Q args s o t) := by
  intro p e ha hc hk s m args below hf hfit hheap happ hpre
  obtain ⟨b, xs, hP⟩ := lw_pre_spec hpre.2.2 hpre.2.1
  obtain ⟨k, o, h1, h2, h3, hQ⟩ := lw_walk l hflags b xs p e ha hc hk s m args below hf ((Spec.applies_iff_loose hf).mp happ).1 hP trivial
  exact ⟨k, o, h1, h2, h3, hQ⟩
theorem lw_frame {s t : State} {o : Outcome} {args : Array Value} (h : Framed s o t [] 600000 7302250) :
    Framed s o t (fieldLocs frame_1_writes args s ++ arrayLocs frame_1_arrays args s ++ staticLocs frame_1_statics s) 600000 7302250 := h
theorem lw_limb (L : Cond) (hL : ∀ (args : Array Value) (s t : State), L.after args s (.returned (some (.int 1))) t = true) :
    ArmFor flags0 classFile x code maxLocals ret World_1 tables_1 room_1 Calls_1 rest_1 Pre_1
      (fun tb e a s o t => postC L tb e a s o t ∧ Framed s o t (fieldLocs frame_1_writes a s ++ arrayLocs frame_1_arrays a s ++ staticLocs frame_1_statics s) 600000 7302250) := by
  intro l hflags _ _ p e ha hc hk s m args below hf hfit hheap happ hpre
  obtain ⟨k, o, h1, h2, h3, rfl, hF⟩ := lw_comes l hflags p e ha hc hk s m args below hf hfit hheap happ hpre
  exact ⟨k, _, h1, h2, h3, hL args s _, lw_frame hF⟩
theorem i_vc : Claimed_1_1 ∧ Claimed_1_2 := ⟨lw_limb limb_1_1 (fun args s t => by simp [limb_1_1, Cond.after, Cond.holds, Cond.value]), lw_limb limb_1_2 (fun args s t => Cond.after_iff.mpr (by
  first | (rw [show limb_1_2 = Cond.eq .result (.int 1) from rfl, Cond.eq_ints (x := 1) (y := 1) rfl rfl]; simp; done) | (simp [limb_1_2, Cond.value, Term.eval]; done)))⟩

