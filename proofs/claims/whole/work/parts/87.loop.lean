/-! ===== the law's loop ===== -/
def swT (k : Nat) : Nat := if 34 < k then 1383 else ([188, 231, 274, 337, 360, 383, 396, 409, 422, 455, 488, 541, 574, 607, 630, 653, 686, 729, 782, 815, 858, 911, 974, 1007, 1030, 1083, 1126, 1189, 1212, 1235, 1258, 1291, 1324, 1347, 1370] : List Nat).getD k 0
theorem law_sw {L : List Value} {h : Hp} {k : Nat} (hk : k < 64) : EvI (EvM 40) CL 2 33 L [.int (nI k)] h = EvI (EvM 40) CL 2 (swT k) L [] h := by
  have e : (nI k).toInt = (k : Int) := nI_toInt (by omega)
  rw [eL_33]
  show (if (nI k).toInt < 0 ∨ 34 < (nI k).toInt then _ else _) = _
  rw [e]
  unfold swT
  by_cases g : 34 < k
  · rw [if_pos (show (k : Int) < 0 ∨ 34 < (k : Int) from Or.inr (by omega)), if_pos g]
    rfl
  · rw [if_neg (show ¬ ((k : Int) < 0 ∨ 34 < (k : Int)) by omega), if_neg g]
    obtain rfl | rfl | rfl | rfl | rfl | rfl | rfl | rfl | rfl | rfl | rfl | rfl | rfl | rfl | rfl | rfl | rfl | rfl | rfl | rfl | rfl | rfl | rfl | rfl | rfl | rfl | rfl | rfl | rfl | rfl | rfl | rfl | rfl | rfl | rfl : k = 0 ∨ k = 1 ∨ k = 2 ∨ k = 3 ∨ k = 4 ∨ k = 5 ∨ k = 6 ∨ k = 7 ∨ k = 8 ∨ k = 9 ∨ k = 10 ∨ k = 11 ∨ k = 12 ∨ k = 13 ∨ k = 14 ∨ k = 15 ∨ k = 16 ∨ k = 17 ∨ k = 18 ∨ k = 19 ∨ k = 20 ∨ k = 21 ∨ k = 22 ∨ k = 23 ∨ k = 24 ∨ k = 25 ∨ k = 26 ∨ k = 27 ∨ k = 28 ∨ k = 29 ∨ k = 30 ∨ k = 31 ∨ k = 32 ∨ k = 33 ∨ k = 34 := by omega
    all_goals rfl
theorem nI_all (y : Int32) : nI y.toBitVec.toNat = y := by
  apply Int32.toBitVec_inj.mp
  show BitVec.ofNat 32 y.toBitVec.toNat = y.toBitVec
  simp
theorem and63 (y : Int32) : ∃ k, k < 64 ∧ y &&& 63 = nI k := by
  have h := pk_andN (n := y.toBitVec.toNat) (BitVec.isLt _) (m := 63) 6 (by decide)
  rw [nI_all] at h
  exact ⟨_, Nat.mod_lt _ (by decide), h⟩
section LOOP
variable {scr : Nat × (Nat → Int32)} {s : ST} {A : AS} {i : Nat}
theorem law_one {k : Nat} (hk : k < 64) (hL : scr.1 ≤ 384) (hi : i + 5 < scr.1) (hC : InvC s A) (hM : InvM s A) (hG : Gd A) : ∃ s2 A2, InvC s2 A2 ∧ InvM s2 A2 ∧ Gd A2 ∧ EvI (EvM 40) CL 2 (swT k) [.ref 1, .ref 2, .ref 614, .int (nI i)] [] (mkH scr s) = EvI (EvM 40) CL 2 1383 [.ref 1, .ref 2, .ref 614, .int (nI i)] [] (mkH scr s2) := by
  by_cases g : 34 < k
  · refine ⟨s, A, hC, hM, hG, ?_⟩
    unfold swT
    rw [if_pos g]
  · obtain rfl | rfl | rfl | rfl | rfl | rfl | rfl | rfl | rfl | rfl | rfl | rfl | rfl | rfl | rfl | rfl | rfl | rfl | rfl | rfl | rfl | rfl | rfl | rfl | rfl | rfl | rfl | rfl | rfl | rfl | rfl | rfl | rfl | rfl | rfl : k = 0 ∨ k = 1 ∨ k = 2 ∨ k = 3 ∨ k = 4 ∨ k = 5 ∨ k = 6 ∨ k = 7 ∨ k = 8 ∨ k = 9 ∨ k = 10 ∨ k = 11 ∨ k = 12 ∨ k = 13 ∨ k = 14 ∨ k = 15 ∨ k = 16 ∨ k = 17 ∨ k = 18 ∨ k = 19 ∨ k = 20 ∨ k = 21 ∨ k = 22 ∨ k = 23 ∨ k = 24 ∨ k = 25 ∨ k = 26 ∨ k = 27 ∨ k = 28 ∨ k = 29 ∨ k = 30 ∨ k = 31 ∨ k = 32 ∨ k = 33 ∨ k = 34 := by omega
    · exact lw_row hL hi hC hM hG
    · exact lw_set hL hi hC hM hG
    · exact lw_copy hL hi hC hM hG
    · exact lw_drop hL hi hC hM hG
    · exact lw_feed hL hi hC hM hG
    · exact lw_county hL hi hC hM hG
    · exact lw_fault hL hi hC hM hG
    · exact lw_undo hL hi hC hM hG
    · exact lw_sent hL hi hC hM hG
    · exact lw_deed hL hi hC hM hG
    · exact lw_sale hL hi hC hM hG
    · exact lw_pays hL hi hC hM hG
    · exact lw_dies hL hi hC hM hG
    · exact lw_pardon hL hi hC hM hG
    · exact lw_month hL hi hC hM hG
    · exact lw_person hL hi hC hM hG
    · exact lw_lot hL hi hC hM hG
    · exact lw_ahead hL hi hC hM hG
    · exact lw_lapsed hL hi hC hM hG
    · exact lw_tried hL hi hC hM hG
    · exact lw_cover hL hi hC hM hG
    · exact lw_best hL hi hC hM hG
    · exact lw_market hL hi hC hM hG
    · exact lw_rest hL hi hC hM hG
    · exact lw_ring hL hi hC hM hG
    · exact lw_wrong hL hi hC hM hG
    · exact lw_sat hL hi hC hM hG
    · exact lw_image hL hi hC hM hG
    · exact lw_restore hL hi hC hM hG
    · exact lw_kind hL hi hC hM hG
    · exact lw_as hL hi hC hM hG
    · exact lw_ask hL hi hC hM hG
    · exact lw_trace hL hi hC hM hG
    · exact lw_count hL hi hC hM hG
    · exact lw_status hL hi hC hM hG
theorem sl_b {ρ : Type} (f : Nat → Option ρ) : (alenF (mkH scr s) 1).bind f = f scr.1 := rfl
theorem law_loop (hL : scr.1 ≤ 384) : ∀ f i (s : ST) (A : AS), scr.1 < i + 6 * f + 6 → i < 10000 → InvC s A → InvM s A → Gd A → ∃ s2, EvI (EvM 40) CL 2 18 [.ref 1, .ref 2, .ref 614, .int (nI i)] [] (mkH scr s) = some (1, mkH scr s2) := by
  intro f
  have stop : ∀ i (s : ST), scr.1 < i + 6 → i < 10000 → EvI (EvM 40) CL 2 18 [.ref 1, .ref 2, .ref 614, .int (nI i)] [] (mkH scr s) = some (1, mkH scr s) := by
    intro i s h hi
    have hlt : nI scr.1 - nI 6 < nI i := by
      rw [Int32.lt_iff_toInt_lt, pk_sub_toInt (by omega) (by omega), nI_toInt (by omega)]
      omega
    have e0 : ∀ n, Int32.ofNat n = nI n := fun _ => rfl
    simp (disch := omega) only [eL_18, eL_19, eL_20, eL_21, eL_23, eL_24, eL_1389, eL_1390, ↓reduceIte, ↓gi0, ↓gr0, ↓gl0, ↓gi1, ↓gr1, ↓gl1, ↓gi2, ↓gr2, ↓gl2, ↓gi3, ↓gr3, ↓gl3, ↓gi4, ↓gr4, ↓gl4, ↓gi5, ↓gr5, ↓gl5, ↓gi6, ↓gr6, ↓gl6, ↓gi7, ↓gr7, ↓gl7, ↓gi8, ↓gr8, ↓gl8, ↓gi9, ↓gr9, ↓gl9, ↓qI, ↓qI2, ↓qL, ↓qL2, ↓qR, ↓qV, ↓pd0, ↓ta0, ↓ts0, ↓pd1, ↓ta1, ↓ts1, ↓pd2, ↓ta2, ↓ts2, ↓pd3, ↓ta3, ↓ts3, ↓pd4, ↓ta4, ↓ts4, ↓pd5, ↓ta5, ↓ts5, ↓pd6, ↓ta6, ↓ts6, lGet, lSet, okS, isLg, Bool.not_false, Bool.not_true, Bool.false_eq_true, not_false_eq_true, not_true_eq_false, catS, okR1, okR20, okR21, okR2b, List.length_cons, List.length_nil, List.drop_succ_cons, List.drop_zero, List.drop_nil, and_self, true_and, and_true, false_and, and_false, Nat.reduceAdd, Nat.reduceLeDiff, Nat.zero_add, Nat.le_refl, Nat.zero_le, pushR, reduceCtorEq, or_self, or_false, false_or, true_or, or_true, ↓sl_b, e0, n6, hlt, if_true]
  induction f with
  | zero =>
    intro i s A h hi hC hM hG
    exact ⟨s, stop i s (by omega) hi⟩
  | succ f ih =>
    intro i s A h hi hC hM hG
    by_cases g : scr.1 < i + 6
    · exact ⟨s, stop i s g hi⟩
    · obtain ⟨k, hk, ek⟩ := and63 (scr.2 i)
      obtain ⟨s2, A2, c1, c2, c3, c4⟩ := law_one (s := s) (A := A) (i := i) hk hL (by omega) hC hM hG
      obtain ⟨s3, d1⟩ := ih (i + 6) s2 A2 (by omega) (by omega) c1 c2 c3
      refine ⟨s3, ?_⟩
      have e0 : ∀ n, Int32.ofNat n = nI n := fun _ => rfl
      have hge : ¬ (nI scr.1 - nI 6 < nI i) := by
        rw [Int32.lt_iff_toInt_lt, pk_sub_toInt (by omega) (by omega), nI_toInt (by omega)]
        omega
      have st1 : EvI (EvM 40) CL 2 18 [.ref 1, .ref 2, .ref 614, .int (nI i)] [] (mkH scr s) = EvI (EvM 40) CL 2 33 [.ref 1, .ref 2, .ref 614, .int (nI i)] [.int (nI k)] (mkH scr s) := by
        simp (disch := omega) only [eL_18, eL_19, eL_20, eL_21, eL_23, eL_24, eL_27, eL_28, eL_29, eL_30, eL_32, ↓reduceIte, ↓gi0, ↓gr0, ↓gl0, ↓gi1, ↓gr1, ↓gl1, ↓gi2, ↓gr2, ↓gl2, ↓gi3, ↓gr3, ↓gl3, ↓gi4, ↓gr4, ↓gl4, ↓gi5, ↓gr5, ↓gl5, ↓gi6, ↓gr6, ↓gl6, ↓gi7, ↓gr7, ↓gl7, ↓gi8, ↓gr8, ↓gl8, ↓gi9, ↓gr9, ↓gl9, ↓qI, ↓qI2, ↓qL, ↓qL2, ↓qR, ↓qV, ↓pd0, ↓ta0, ↓ts0, ↓pd1, ↓ta1, ↓ts1, ↓pd2, ↓ta2, ↓ts2, ↓pd3, ↓ta3, ↓ts3, ↓pd4, ↓ta4, ↓ts4, ↓pd5, ↓ta5, ↓ts5, ↓pd6, ↓ta6, ↓ts6, lGet, lSet, okS, isLg, Bool.not_false, Bool.not_true, Bool.false_eq_true, not_false_eq_true, not_true_eq_false, catS, okR1, okR20, okR21, okR2b, List.length_cons, List.length_nil, List.drop_succ_cons, List.drop_zero, List.drop_nil, and_self, true_and, and_true, false_and, and_false, Nat.reduceAdd, Nat.reduceLeDiff, Nat.zero_add, Nat.le_refl, Nat.zero_le, pushR, reduceCtorEq, or_self, or_false, false_or, true_or, or_true, ↓sl_b, e0, n6, hge, if_false, ↓scl (show i < scr.1 by omega) hL, ek]
      have st2 : EvI (EvM 40) CL 2 1383 [.ref 1, .ref 2, .ref 614, .int (nI i)] [] (mkH scr s2) = EvI (EvM 40) CL 2 18 [.ref 1, .ref 2, .ref 614, .int (nI (i + 6))] [] (mkH scr s2) := by
        simp (disch := omega) only [eL_1383, eL_1386, ↓reduceIte, ↓gi0, ↓gr0, ↓gl0, ↓gi1, ↓gr1, ↓gl1, ↓gi2, ↓gr2, ↓gl2, ↓gi3, ↓gr3, ↓gl3, ↓gi4, ↓gr4, ↓gl4, ↓gi5, ↓gr5, ↓gl5, ↓gi6, ↓gr6, ↓gl6, ↓gi7, ↓gr7, ↓gl7, ↓gi8, ↓gr8, ↓gl8, ↓gi9, ↓gr9, ↓gl9, ↓qI, ↓qI2, ↓qL, ↓qL2, ↓qR, ↓qV, ↓pd0, ↓ta0, ↓ts0, ↓pd1, ↓ta1, ↓ts1, ↓pd2, ↓ta2, ↓ts2, ↓pd3, ↓ta3, ↓ts3, ↓pd4, ↓ta4, ↓ts4, ↓pd5, ↓ta5, ↓ts5, ↓pd6, ↓ta6, ↓ts6, lGet, lSet, okS, isLg, Bool.not_false, Bool.not_true, Bool.false_eq_true, not_false_eq_true, not_true_eq_false, catS, okR1, okR20, okR21, okR2b, List.length_cons, List.length_nil, List.drop_succ_cons, List.drop_zero, List.drop_nil, and_self, true_and, and_true, false_and, and_false, Nat.reduceAdd, Nat.reduceLeDiff, Nat.zero_add, Nat.le_refl, Nat.zero_le, pushR, reduceCtorEq, or_self, or_false, false_or, true_or, or_true, n6, nI_add]
      rw [st1, law_sw hk, c4, st2, d1]
end LOOP
theorem mkH_len (scr : Nat × (Nat → Int32)) (s : ST) : (mkH scr s).2.length = L2.length := by
  unfold mkH
  rw [L2s_eq, List.length_mapIdx]
theorem csz_mk (s : ST) (i : Nat) (e : HC) : csz (mkC s i e) = csz e := by
  match e with
  | .inl (t, n, .inl f) => rfl
  | .inl (t, n, .inr q) => rfl
  | .inr (ci, fs) => show (fs.mapIdx (mkV s i)).length = fs.length; rw [List.length_mapIdx]
theorem mkH_slots (scr : Nat × (Nat → Int32)) (s : ST) : slotsOf (mkH scr s) = (L2.map csz).sum := by
  unfold slotsOf mkH
  rw [L2s_eq]
  refine congrArg List.sum (List.ext_getElem? (fun i => ?_))
  rw [List.getElem?_map, List.getElem?_mapIdx, List.getElem?_map]
  cases L2[i]? with
  | none => rfl
  | some e => exact congrArg some (csz_mk s i e)
set_option maxRecDepth 1000000 in
theorem L2_sz : L2.length ≤ 600000 ∧ (L2.map csz).sum ≤ 7302250 := by decide +kernel
theorem law_all (scr : Nat × (Nat → Int32)) (hL : scr.1 ≤ 384) : ∃ s9, EvI (EvM 40) CL 2 0 [.ref 1, jk, jk, jk] [] (scr, []) = some (1, mkH scr s9) := by
  obtain ⟨s9, h9⟩ := law_loop (scr := scr) hL 64 0 s0 A0 (by omega) (by omega) ic_0 im_0 gd_0
  refine ⟨s9, ?_⟩
  rw [← h9]
  have c1 : EvM 40 85 [.ref 2] (scr, [.inr (8, dflt 8)]) = some (0, (scr, L1)) := new_class 36 scr
  have c2 : EvM 40 130 [.ref 614] (scr, L1 ++ [.inr (9, dflt 9)]) = some (0, (scr, L2)) := new_model 39 scr
  rw [← mk_s0 scr] at c2
  have n1 : hNew (scr, []) [.inr (8, dflt 8)] = (scr, [.inr (8, dflt 8)]) := rfl
  have n2' : hNew (scr, L1) [.inr (9, dflt 9)] = (scr, L1 ++ [.inr (9, dflt 9)]) := rfl
  have l1 : ((scr, L1) : Hp).2.length = 612 := L1_len
  have l0 : ((scr, []) : Hp).2.length = 0 := rfl
  have p1 : EvI (EvM 40) CL 2 0 [.ref 1, jk, jk, jk] [] (scr, []) = EvI (EvM 40) CL 2 8 [.ref 1, .ref 2, jk, jk] [] (scr, L1) := by
    simp (disch := omega) only [eL_0, eL_3, eL_4, eL_7, ↓reduceIte, ↓gi0, ↓gr0, ↓gl0, ↓gi1, ↓gr1, ↓gl1, ↓gi2, ↓gr2, ↓gl2, ↓gi3, ↓gr3, ↓gl3, ↓gi4, ↓gr4, ↓gl4, ↓gi5, ↓gr5, ↓gl5, ↓gi6, ↓gr6, ↓gl6, ↓gi7, ↓gr7, ↓gl7, ↓gi8, ↓gr8, ↓gl8, ↓gi9, ↓gr9, ↓gl9, ↓qI, ↓qI2, ↓qL, ↓qL2, ↓qR, ↓qV, ↓pd0, ↓ta0, ↓ts0, ↓pd1, ↓ta1, ↓ts1, ↓pd2, ↓ta2, ↓ts2, ↓pd3, ↓ta3, ↓ts3, ↓pd4, ↓ta4, ↓ts4, ↓pd5, ↓ta5, ↓ts5, ↓pd6, ↓ta6, ↓ts6, lGet, lSet, okS, isLg, Bool.not_false, Bool.not_true, Bool.false_eq_true, not_false_eq_true, not_true_eq_false, catS, okR1, okR20, okR21, okR2b, List.length_cons, List.length_nil, List.drop_succ_cons, List.drop_zero, List.drop_nil, and_self, true_and, and_true, false_and, and_false, Nat.reduceAdd, Nat.reduceLeDiff, Nat.zero_add, Nat.le_refl, Nat.zero_le, pushR, reduceCtorEq, or_self, or_false, false_or, true_or, or_true, l0, n1, ↓bnd c1]
  have p2 : EvI (EvM 40) CL 2 8 [.ref 1, .ref 2, jk, jk] [] (scr, L1) = EvI (EvM 40) CL 2 18 [.ref 1, .ref 2, .ref 614, .int (nI 0)] [] (mkH scr s0) := by
    simp (disch := omega) only [eL_8, eL_11, eL_12, eL_15, eL_16, eL_17, ↓reduceIte, ↓gi0, ↓gr0, ↓gl0, ↓gi1, ↓gr1, ↓gl1, ↓gi2, ↓gr2, ↓gl2, ↓gi3, ↓gr3, ↓gl3, ↓gi4, ↓gr4, ↓gl4, ↓gi5, ↓gr5, ↓gl5, ↓gi6, ↓gr6, ↓gl6, ↓gi7, ↓gr7, ↓gl7, ↓gi8, ↓gr8, ↓gl8, ↓gi9, ↓gr9, ↓gl9, ↓qI, ↓qI2, ↓qL, ↓qL2, ↓qR, ↓qV, ↓pd0, ↓ta0, ↓ts0, ↓pd1, ↓ta1, ↓ts1, ↓pd2, ↓ta2, ↓ts2, ↓pd3, ↓ta3, ↓ts3, ↓pd4, ↓ta4, ↓ts4, ↓pd5, ↓ta5, ↓ts5, ↓pd6, ↓ta6, ↓ts6, lGet, lSet, okS, isLg, Bool.not_false, Bool.not_true, Bool.false_eq_true, not_false_eq_true, not_true_eq_false, catS, okR1, okR20, okR21, okR2b, List.length_cons, List.length_nil, List.drop_succ_cons, List.drop_zero, List.drop_nil, and_self, true_and, and_true, false_and, and_false, Nat.reduceAdd, Nat.reduceLeDiff, Nat.zero_add, Nat.le_refl, Nat.zero_le, pushR, reduceCtorEq, or_self, or_false, false_or, true_or, or_true, l1, n2', ↓bnd c2]
    rfl
  exact p1.trans p2
theorem whole_start {p : Program} {e : Env} {s : State} {m : MethodId} {below : List Frame} {meth : Method} {c : Code} (l : Launch) (_ : l.flags = flags0) {b L : Nat} {xs : Nat → Int32} (hbd : L ≤ 384) (C0 : lw_At p s m meth c b L xs) :
    W p l e room_1 s m #[Value.ref b] below meth c s.heap [] 0 0 (lw_Z below #[Value.ref b] s) (entryFrame m ([Value.ref b] : List Value).toArray 4) := by
  obtain ⟨s9, h9⟩ := law_all (L, xs) hbd
  exact law_sound l C0 h9 (by rw [mkH_len]; exact L2_sz.1) (by rw [mkH_slots]; exact L2_sz.2)
