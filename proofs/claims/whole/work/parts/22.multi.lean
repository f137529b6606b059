/-! ===== new int[n][m] ===== -/
theorem ml_outer (c : ClassId) (N h0 : Nat) : ∀ i : Nat, Jvm.Free.Multi.outerC c N h0 i = arrV c N (fun j => va_rf (if j < i then some (h0 + 1 + j) else none))
  | 0 => by
    show ({ cls := c, slots := Array.replicate N .null, vm := .none } : Cell) = _
    rw [arrV_new]
    refine congrArg (arrV c N) (funext fun j => ?_)
    simp [va_rf]
  | i + 1 => by
    show (Jvm.Free.Multi.outerC c N h0 i).setSlot i (.ref (h0 + 1 + i)) = _
    rw [ml_outer c N h0 i, arrV_store]
    refine congrArg (arrV c N) (funext fun j => ?_)
    by_cases e : j = i
    · subst e
      simp [updV, va_rf]
    · by_cases h : j < i
      · simp [updV, e, h, Nat.lt_succ_of_lt h]
      · simp [updV, e, h, show ¬ j < i + 1 by omega]
section ML
variable {p : Program} {l : Launch} {e : Env} {R : Room} {s : State} {m : MethodId} {args : Array Value} {below : List Frame} {meth : Method} {c : Code} {Q : State → Prop} {own : String} {cc : ByteArray} {nL : Nat} {mn : String} {d base S b : Nat} {dC : Nat → ClassId} {dI : Nat → Nat → Nat} {cA : Nat → ClassId} {scr : Nat × (Nat → Int32)} {n0 z0 : Nat}
theorem ml_len (h : Hp) (n k : Nat) : (hNew h (mkMulti h n k)).2.length = h.2.length + 1 + n ∧ slotsOf (hNew h (mkMulti h n k)) = slotsOf h + n + n * k := by
  refine ⟨by simp [hNew, mkMulti]; omega, ?_⟩
  show ((h.2 ++ mkMulti h n k).map csz).sum = _
  simp [mkMulti, csz, slotsOf, List.map_replicate, List.sum_replicate_nat]
  omega
theorem sn_multi (C : Cx p R s m args meth c own cc nL mn d base S b dC dI cA scr) (i pc : Nat) (L st : List Value) (h : Hp) (x y : Int32) (hd : decode cc pc = .ok (.multianewarray i 2, 4)) (hw : Cond.classLink own i "[[I" ∈ tblG) (hx0 : 0 ≤ x) (hy0 : 0 ≤ y) (hx1 : x.toNatClampNeg ≤ 10000) (hy1 : y.toNatClampNeg ≤ 10000) (hz1 : n0 ≤ h.2.length ∧ z0 ≤ slotsOf h) (hlim : (hNew h (mkMulti h x.toNatClampNeg y.toNatClampNeg)).2.length - n0 ≤ R.cells ∧ slotsOf (hNew h (mkMulti h x.toNatClampNeg y.toNatClampNeg)) - z0 ≤ R.slots)
    (kk : Sn p l e R s m args below meth c Q nL base S b dC dI cA n0 z0 (pc + 4) L (.ref (h.2.length + 2) :: st) (hNew h (mkMulti h x.toNatClampNeg y.toNatClampNeg))) : Sn p l e R s m args below meth c Q nL base S b dC dI cA n0 z0 pc L (.int y :: .int x :: st) h := by
  intro H locs ls hl hG hS
  obtain ⟨hx, hb, hml, hown, hts, hin, hR, hT, hF, hz⟩ := C
  obtain ⟨s1, s2⟩ := ml_len h x.toNatClampNeg y.toNatClampNeg
  rw [s1, s2] at hlim
  have hnm : "[[I" = "[" ++ (FieldType.array .int).toString := by decide
  rw [hnm] at hw
  generalize hN : x.toNatClampNeg = N at *
  generalize hK : y.toNatClampNeg = K at *
  have hmul : N * K ≤ 10000 * 10000 := Nat.mul_le_mul hx1 hy1
  intro T hT2 Xs
  obtain ⟨vm₁, cA', comp, -, fA, fC, hO, hI, X', step⟩ := Xs.multianewarray2F hx hown (hts _ hw) hT.2.2.2.2 (hts _ w_aI) (g := F0 m pc ls ((Value.int y :: .int x :: st).map (tv (adr base S b)))) rfl (by rw [hb]; exact hd) rfl (Int32.not_lt.mpr hx0) (Int32.not_lt.mpr hy0) (by rw [hN]; omega) (by rw [hK]; show K * 4 ≤ _; omega) (by rw [hK]; omega) rfl rfl (by rw [hN]; omega) (by rw [hN, hK]; omega)
  rw [hN, hK] at X' step
  have eA : cA' = cA 2 := Option.some.inj (fA.symm.trans (hT.1.2 2 (cA 2, .array .int) rfl).2)
  have eC : comp = cA 0 := Option.some.inj (fC.symm.trans (hT.1.2 0 (cA 0, .int) rfl).2)
  subst eA
  subst eC
  generalize hFg : Jvm.Free.Multi.fill (T.setVm vm₁) (cA 2) (cA 0) N K (defaultValue .int) N = F at X' step
  have hTh : (T.setVm vm₁).heap = H := hT2
  obtain ⟨f1, f2, -, -⟩ := Jvm.Free.Multi.fill_facts (T.setVm vm₁) (cA 2) (cA 0) N K (defaultValue .int) N
  rw [hFg, hTh] at f1 f2
  have hold : ∀ q : Nat, q < H.size → F.heap[q]? = H[q]? := fun q hq => by
    have := Jvm.Free.Multi.fill_old (T.setVm vm₁) (cA 2) (cA 0) N K (defaultValue .int) (a := q) (by rw [hTh]; exact hq) N
    rw [hFg, hTh] at this
    exact this
  have hrow : ∀ j : Nat, j < N → F.heap[H.size + 1 + j]? = some (vp_cell (cA 0) (K, .inl (fun _ => 0))) := fun j hj => by
    have := Jvm.Free.Multi.fill_inner (T.setVm vm₁) (cA 2) (cA 0) N K (defaultValue .int) N j hj
    rw [hFg, hTh] at this
    rw [this]
    show some ({ cls := cA 0, slots := Array.replicate K (defaultValue .int), vm := .none } : Cell) = some (arrV (cA 0) K (fun _ => .int 0))
    rw [arrV_new]
    rfl
  have hG1 : GH base S b dC dI cA (hNew h (mkMulti h N K)) F.heap := by
    refine ⟨by rw [f1, s1, hG.1]; omega, fun k q hq => ?_⟩
    rw [wsO_get] at hq
    obtain ⟨ce, hce, rfl⟩ := Option.map_eq_some_iff.mp hq
    have hce : (h.2 ++ mkMulti h N K)[k]? = some ce := hce
    rcases Nat.lt_or_ge k h.2.length with g | g
    · rw [List.getElem?_append_left g] at hce
      have h0 : (wsO base (adr base S b) cA h.2)[k]? = some (base + k, tE (adr base S b) cA ce) := by rw [wsO_get, hce]; rfl
      exact (hG.2 k _ h0).kept (hold _ ((hG.2 k _ h0).lt))
    · rw [List.getElem?_append_right g] at hce
      rcases Nat.eq_or_lt_of_le g with g1 | g1
      · rw [← g1, Nat.sub_self] at hce
        cases hce
        rw [← g1, ← hG.1]
        show F.heap[H.size]? = some (vp_cell (cA 2) (N, .inr (.inr (.inr (.inr (fun q => (if q < N then some (h.2.length + 2 + 1 + q) else none).map (adr base S b)))))))
        rw [f2, ml_outer, vp_cell_q]
        refine congrArg some (congrArg (arrV (cA 2) N) (funext fun j => ?_))
        by_cases hj : j < N
        · rw [if_pos hj, if_pos hj]
          show va_rf (some _) = va_rf (some (adr base S b (h.2.length + 2 + 1 + j)))
          rw [show h.2.length + 2 + 1 + j = (h.2.length + 1 + j) + 2 by omega, hG.1]
          show va_rf (some _) = va_rf (some (base + (h.2.length + 1 + j)))
          rw [show base + h.2.length + 1 + j = base + (h.2.length + 1 + j) by omega]
        · rw [if_neg hj, if_neg hj]
          rfl
      · obtain ⟨j, rfl⟩ : ∃ j, k = h.2.length + 1 + j := ⟨k - h.2.length - 1, by omega⟩
        rw [show h.2.length + 1 + j - h.2.length = j + 1 by omega, mkMulti, List.getElem?_cons_succ] at hce
        rw [List.getElem?_replicate] at hce
        obtain ⟨hj, hce⟩ := if_inv hce
        cases hce
        show F.heap[base + (h.2.length + 1 + j)]? = some (vp_cell (cA 0) (K, .inl (fun _ => 0)))
        rw [show base + (h.2.length + 1 + j) = H.size + 1 + j by rw [hG.1]; omega]
        exact hrow j hj
  have hS1 : va_S (AB base) s.heap F.heap locs := ⟨by rw [f1]; have := hS.1; omega, fun q g1 g2 => (hold q (Nat.lt_of_lt_of_le g1 hS.1)).trans (hS.2.1 q g1 g2), hS.2.2⟩
  have key := kk F.heap locs ls hl hG1 hS1
  rw [s1, s2, List.map_cons, show tv (adr base S b) (.ref (h.2.length + 2)) = .ref H.size by rw [hG.1]; rfl] at key
  obtain ⟨t, a1, b1⟩ := key F rfl (by
    rw [show h.2.length + 1 + N - n0 = h.2.length - n0 + 1 + N by omega, show slotsOf h + N + N * K - z0 = slotsOf h - z0 + N + N * K by omega]
    exact X')
  refine ⟨t, step t ?_, b1⟩
  rw [show T.heap.size = H.size by rw [hT2]]
  exact a1
end ML
