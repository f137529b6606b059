/-! ===== making cells, and calls ===== -/
theorem tv_dflt (ad : Nat → Nat) (t : FieldType) : tv ad (defaultValue t) = defaultValue t := by cases t <;> rfl
theorem dflt_map (ad : Nat → Nat) (ci : Nat) : (dflt ci).map (tv ad) = dflt ci := by
  unfold dflt
  rw [List.map_map]
  apply List.map_congr_left
  intro k _
  exact tv_dflt ad _
section SC
variable {p : Program} {l : Launch} {e : Env} {R : Room} {s : State} {m : MethodId} {args : Array Value} {below : List Frame} {meth : Method} {c : Code} {Q : State → Prop} {own : String} {cc : ByteArray} {nL : Nat} {mn : String} {d base S b : Nat} {dC : Nat → ClassId} {dI : Nat → Nat → Nat} {cA : Nat → ClassId} {scr : Nat × (Nat → Int32)} {n0 z0 pc : Nat} {L st : List Value} {h : Hp}
theorem GH_new {H H1 : Heap} {locs : List Loc} {e1 : HC} (hG : GH base S b dC dI cA h H) (hS : va_S (AB base) s.heap H locs) (he : va_at (dC, dI) vwCl (H.size, tE (adr base S b) cA e1) H1) (z : H1.size = H.size + 1) (oq : ∀ q : Nat, q < H.size → H1[q]? = H[q]?) : GH base S b dC dI cA (hNew h [e1]) H1 ∧ va_S (AB base) s.heap H1 locs := by
  refine ⟨⟨?_, ?_⟩, ⟨Nat.le_trans hS.1 (by omega), fun x g1 g2 => (oq x (Nat.lt_of_lt_of_le g1 hS.1)).trans (hS.2.1 x g1 g2), hS.2.2⟩⟩
  · rw [z, hG.1]
    simp [hNew]
    omega
  · show va_P (dC, dI) vwCl (wsO base (adr base S b) cA (h.2 ++ [e1])) H1
    rw [wsO_app]
    refine (hG.2.kept (fun k x hx => oq x.1 ((hG.2 k x hx).lt))).app (fun k x hx => ?_)
    have hz : k < 1 := (List.getElem?_eq_some_iff.mp hx).1
    rw [show k = 0 by omega] at hx
    cases hx
    rw [← hG.1]
    exact he
theorem sl_new {e1 : HC} : slotsOf (hNew h [e1]) = slotsOf h + csz e1 ∧ (hNew h [e1]).2.length = h.2.length + 1 := by
  refine ⟨?_, by simp [hNew]⟩
  show ((h.2 ++ [e1]).map csz).sum = _
  simp [slotsOf]
theorem sn_new (C : Cx p R s m args meth c own cc nL mn d base S b dC dI cA scr) {i ci : Nat} (hd : decode cc pc = .ok (.new i, 3)) {Cn : String} {T : u_T} {N : Nat} (hcl : vwCl[ci]? = some (Cn, T, N)) (hw : Cond.classLink own i Cn ∈ tblG) (hz1 : n0 ≤ h.2.length ∧ z0 ≤ slotsOf h) (hlim : (hNew h [.inr (ci, dflt ci)]).2.length - n0 ≤ R.cells ∧ slotsOf (hNew h [.inr (ci, dflt ci)]) - z0 ≤ R.slots)
    (kk : Sn p l e R s m args below meth c Q nL base S b dC dI cA n0 z0 (pc + 3) L (.ref (h.2.length + 2) :: st) (hNew h [.inr (ci, dflt ci)])) : Sn p l e R s m args below meth c Q nL base S b dC dI cA n0 z0 pc L st h := by
  intro H locs ls hl hG hS
  obtain ⟨hx, hb, hml, hown, hts, hin, hR, hT, hF, hz⟩ := C
  obtain ⟨w1, w2, hN⟩ := cl_inst hcl
  obtain ⟨hty, hnm⟩ := cl_ty hcl
  have hKn := hT.1.1 ci _ hcl
  have hcs : csz (.inr (ci, dflt ci)) = N := by simp [csz, dflt, hN]
  obtain ⟨s1, s2⟩ := sl_new (h := h) (e1 := .inr (ci, dflt ci))
  rw [hcs] at s1
  rw [s1, s2] at hlim
  refine W.newcK hx hb hown (hts _ hw) (hts _ w1) (hts _ w2) rfl hd (by omega) (by omega) hKn.2.1 rfl fun H1 kC hkC e1 z1 o1 => ?_
  have he : va_at (dC, dI) vwCl (H.size, tE (adr base S b) cA (.inr (ci, dflt ci))) H1 := by
    refine ⟨_, hcl, ?_⟩
    show t_OB _ _ _ _ _ (vp_V ((dflt ci).map (tv (adr base S b))))
    rw [dflt_map]
    refine (u_born (fTy ci) hts (cl_ws hcl) hKn hkC e1 hty).to (fun k hk => ?_)
    unfold vp_V dflt
    rw [List.getD_eq_getElem?_getD, List.getElem?_map, List.getElem?_range (by omega)]
    rfl
  obtain ⟨hG1, hS1⟩ := GH_new hG hS he z1 o1
  refine W.cs (cells' := (hNew h [.inr (ci, dflt ci)]).2.length - n0) (slots' := slotsOf (hNew h [.inr (ci, dflt ci)]) - z0) (by rw [s2]; omega) (by rw [s1]; omega) ?_
  have := kk H1 locs ls hl hG1 hS1
  rw [List.map_cons, show tv (adr base S b) (.ref (h.2.length + 2)) = .ref H.size by rw [hG.1]; rfl] at this
  exact this
theorem sn_newarray (C : Cx p R s m args meth c own cc nL mn d base S b dC dI cA scr) {ty : ArrayType} {a : Nat} (hd : decode cc pc = .ok (.newarray ty, 2)) (hty : (ty = .int ∧ a = 0) ∨ (ty = .boolean ∧ a = 1)) {n : Int32} (hn : 0 ≤ n) (hn2 : n.toNatClampNeg ≤ 10000) (hz1 : n0 ≤ h.2.length ∧ z0 ≤ slotsOf h) (hlim : (hNew h [mkArr a n.toNatClampNeg]).2.length - n0 ≤ R.cells ∧ slotsOf (hNew h [mkArr a n.toNatClampNeg]) - z0 ≤ R.slots)
    (kk : Sn p l e R s m args below meth c Q nL base S b dC dI cA n0 z0 (pc + 2) L (.ref (h.2.length + 2) :: st) (hNew h [mkArr a n.toNatClampNeg])) : Sn p l e R s m args below meth c Q nL base S b dC dI cA n0 z0 pc L (.int n :: st) h := by
  intro H locs ls hl hG hS
  obtain ⟨hx, hb, hml, hown, hts, hin, hR, hT, hF, hz⟩ := C
  obtain ⟨s1, s2⟩ := sl_new (h := h) (e1 := mkArr a n.toNatClampNeg)
  have hcs : csz (mkArr a n.toNatClampNeg) = n.toNatClampNeg := by rcases hty with ⟨-, rfl⟩ | ⟨-, rfl⟩ <;> rfl
  rw [hcs] at s1
  rw [s1, s2] at hlim
  have hneg : ¬ n < 0 := Int32.not_lt.mpr hn
  have fin : ∀ (H1 : Heap), va_at (dC, dI) vwCl (H.size, tE (adr base S b) cA (mkArr a n.toNatClampNeg)) H1 → H1.size = H.size + 1 → (∀ q : Nat, q < H.size → H1[q]? = H[q]?) → W p l e R s m args below meth c H1 locs (h.2.length - n0 + 1) (slotsOf h - z0 + n.toNatClampNeg) Q (F0 m (pc + 2) ls (.ref H.size :: st.map (tv (adr base S b)))) := by
    intro H1 he z1 o1
    obtain ⟨hG1, hS1⟩ := GH_new hG hS he z1 o1
    refine W.cs (cells' := (hNew h [mkArr a n.toNatClampNeg]).2.length - n0) (slots' := slotsOf (hNew h [mkArr a n.toNatClampNeg]) - z0) (by rw [s2]; omega) (by rw [s1]; omega) ?_
    have := kk H1 locs ls hl hG1 hS1
    rw [List.map_cons, show tv (adr base S b) (.ref (h.2.length + 2)) = .ref H.size by rw [hG.1]; rfl] at this
    exact this
  rcases hty with ⟨rfl, rfl⟩ | ⟨rfl, rfl⟩
  · refine va_newaK (atype := .int) hx hb (hts _ w_aI) rfl hd rfl hneg rfl (by show n.toNatClampNeg * 4 ≤ 536870912; omega) (by omega) (by omega) rfl fun H1 cA' e1 z1 o1 hAr hNm => ?_
    have hcA : cA' = cA 0 := Option.some.inj (hNm.symm.trans (hT.1.2 0 (cA 0, .int) rfl).2)
    subst hcA
    exact fin H1 e1 z1 o1
  · refine va_newaK (atype := .boolean) hx hb (hts _ w_aZ) rfl hd rfl hneg rfl (by show n.toNatClampNeg * 1 ≤ 536870912; omega) (by omega) (by omega) rfl fun H1 cA' e1 z1 o1 hAr hNm => ?_
    have hcA : cA' = cA 1 := Option.some.inj (hNm.symm.trans (hT.1.2 1 (cA 1, .boolean) rfl).2)
    subst hcA
    exact fin H1 e1 z1 o1
theorem sn_anewarray (C : Cx p R s m args meth c own cc nL mn d base S b dC dI cA scr) {i a : Nat} (hd : decode cc pc = .ok (.anewarray i, 3)) (ha : a = 3 ∨ a = 4) (hw : Cond.classLink own i (tgE a) ∈ tblG) {n : Int32} (hn : 0 ≤ n) (hn2 : n.toNatClampNeg ≤ 10000) (hz1 : n0 ≤ h.2.length ∧ z0 ≤ slotsOf h) (hlim : (hNew h [mkArr a n.toNatClampNeg]).2.length - n0 ≤ R.cells ∧ slotsOf (hNew h [mkArr a n.toNatClampNeg]) - z0 ≤ R.slots)
    (kk : Sn p l e R s m args below meth c Q nL base S b dC dI cA n0 z0 (pc + 3) L (.ref (h.2.length + 2) :: st) (hNew h [mkArr a n.toNatClampNeg])) : Sn p l e R s m args below meth c Q nL base S b dC dI cA n0 z0 pc L (.int n :: st) h := by
  intro H locs ls hl hG hS
  obtain ⟨hx, hb, hml, hown, hts, hin, hR, hT, hF, hz⟩ := C
  obtain ⟨s1, s2⟩ := sl_new (h := h) (e1 := mkArr a n.toNatClampNeg)
  have hcs : csz (mkArr a n.toNatClampNeg) = n.toNatClampNeg := by rcases ha with rfl | rfl <;> rfl
  rw [hcs] at s1
  rw [s1, s2] at hlim
  have hneg : ¬ n < 0 := Int32.not_lt.mpr hn
  have go : ∀ Cn : String, tgE a = Cn → va_AO Cn s → (tysG cA)[a]? = some (cA a, .object Cn) → mkArr a n.toNatClampNeg = .inl (a, n.toNatClampNeg, .inr (.inr (.inr (.inr (fun _ => none))))) → W p l e R s m args below meth c H locs (h.2.length - n0) (slotsOf h - z0) Q (F0 m pc ls (.int n :: st.map (tv (adr base S b)))) := by
    intro Cn hCn hover hty hmk
    subst hCn
    refine W.anew hx hb hown (hts _ hw) (va_AO.use hover) rfl hd rfl hneg (by omega) (by omega) (by omega) fun cA' kA comp f1 f2 f3 f4 => ?_
    obtain ⟨kA2, comp2, k1, k2, k3, k4⟩ := (hT.1.2 a _ hty).2
    have hcA : cA' = cA a := Option.some.inj (f1.symm.trans k4)
    subst hcA
    have he : va_at (dC, dI) vwCl (H.size, tE (adr base S b) cA (mkArr a n.toNatClampNeg)) (H.push ({ cls := cA a, slots := Array.replicate n.toNatClampNeg .null, vm := .none } : Cell)) := by
      rw [hmk]
      show (H.push _)[H.size]? = some (vp_cell (cA a) (n.toNatClampNeg, .inr (.inr (.inr (.inr (fun _ => none))))))
      rw [vp_cell_q, Array.getElem?_push_size, ← arrV_new]
      rfl
    obtain ⟨hG1, hS1⟩ := GH_new hG hS he (by rw [Array.size_push]) (fun q hq => by rw [Array.getElem?_push, if_neg (Nat.ne_of_lt hq)])
    refine W.cs (cells' := (hNew h [mkArr a n.toNatClampNeg]).2.length - n0) (slots' := slotsOf (hNew h [mkArr a n.toNatClampNeg]) - z0) (by rw [s2]; omega) (by rw [s1]; omega) ?_
    have := kk _ locs ls hl hG1 hS1
    rw [List.map_cons, show tv (adr base S b) (.ref (h.2.length + 2)) = .ref H.size by rw [hG.1]; rfl] at this
    exact this
  rcases ha with rfl | rfl
  · exact go RX4 rfl hT.2.2.1 rfl rfl
  · exact go RX2 rfl hT.2.2.2.1 rfl rfl
/-- the facts of a method, out of the check -/
theorem m_code {y : Nat} (hy : y < 221) : plainName (mI y).1.cls = true ∧ (mI y).1.cls ≠ "java/lang/invoke/MethodHandle" ∧ (mI y).1.cls ≠ "java/lang/invoke/VarHandle" ∧ Cond.initialized (mI y).1.cls ∈ tblG ∧ (mI y).2.2.1 ≤ 20 ∧ (mI y).2.2.2.1 ≤ 2 ∧ ∃ T N, vwCl[(mI y).2.2.2.2]? = some ((mI y).1.cls, T, N) := by
  have hk := mOk_at hy
  simp only [mOk, Bool.and_eq_true, decide_eq_true_eq] at hk
  obtain ⟨⟨⟨⟨⟨⟨⟨⟨⟨h1, h2⟩, h3⟩, h4⟩, h5⟩, h6⟩, h7⟩, h8⟩, h9⟩, h10⟩ := hk
  refine ⟨h5, h6, h7, wd_in h4, h9, h10, ?_⟩
  split at h8
  · rename_i C T N hq
    exact ⟨T, N, by rw [hq, ← of_decide_eq_true h8]⟩
  · cases h8
theorem m_static {y : Nat} (hy : y < 221) (hs : mSt y = true) : Cond.static (mI y).1 ∈ tblG := by
  have hk := mOk_at hy
  simp only [mOk, Bool.and_eq_true, decide_eq_true_eq] at hk
  obtain ⟨⟨⟨⟨⟨⟨⟨⟨⟨h1, h2⟩, h3⟩, h4⟩, h5⟩, h6⟩, h7⟩, h8⟩, h9⟩, h10⟩ := hk
  rw [if_pos hs] at h2
  exact wd_in h2
theorem m_inst {y : Nat} (hy : y < 221) (hs : mSt y = false) : Cond.instanceMethod (mI y).1 ∈ tblG := by
  have hk := mOk_at hy
  simp only [mOk, Bool.and_eq_true, decide_eq_true_eq] at hk
  obtain ⟨⟨⟨⟨⟨⟨⟨⟨⟨h1, h2⟩, h3⟩, h4⟩, h5⟩, h6⟩, h7⟩, h8⟩, h9⟩, h10⟩ := hk
  rw [if_neg (by rw [hs]; decide)] at h2
  exact wd_in h2
theorem m_sel {y : Nat} (hy : y < 221) (hs : mSt y = false) (hn : (mI y).1.name ≠ "<init>") : Cond.selects (mI y).1.cls (mI y).1 (mI y).1 ∈ tblG := by
  have hk := mOk_at hy
  simp only [mOk, Bool.and_eq_true, decide_eq_true_eq] at hk
  obtain ⟨⟨⟨⟨⟨⟨⟨⟨⟨h1, h2⟩, h3⟩, h4⟩, h5⟩, h6⟩, h7⟩, h8⟩, h9⟩, h10⟩ := hk
  rw [if_neg (by rw [hs]; simp [hn])] at h3
  exact wd_in h3
theorem rv_push (ad : Nat → Nat) (rk : Nat) (r : Int32) (st : List Value) : (rv rk r).toList ++ st.map (tv ad) = (pushR rk r st).map (tv ad) := by
  unfold rv pushR
  by_cases h : rk = 0 <;> simp [h, tv]
/-- what a call's room asks -/
theorem call_room (hR : d + 1 ≤ R.frames ∧ 40 * (d + 1) ≤ R.locals) {y : Nat} (hy : y < 221) {h1 : Hp} : (rmX d h h1).frames + 1 ≤ R.frames ∧ 8 + ((mI y).2.2.1 + 11) + (rmX d h h1).locals ≤ R.locals := by
  obtain ⟨-, -, -, -, h9, -⟩ := m_code hy
  refine ⟨hR.1, ?_⟩
  show 8 + ((mI y).2.2.1 + 11) + 40 * d ≤ R.locals
  omega
theorem sn_static (C : Cx p R s m args meth c own cc nL mn d base S b dC dI cA scr) (hscr : h.1 = scr) {i y : Nat} {as : List Value} {r : Int32} {h1 : Hp} (hM : MetX l base S b dC dI cA d y as h r h1) (hy : y < 221) (hst : mSt y = true) (hd : decode cc pc = .ok (.invokestatic i, 3)) (hw : Cond.methodLink own i (mI y).1 ∈ tblG ∨ Cond.methodLinkNest own i (mI y).1 "SpentWeeks" ∈ lw_tbl) (hnp : npar (mI y).1.desc = some as.length) (hcat : catS st ≤ 8) (hle : hLe h h1) (hz1 : n0 ≤ h.2.length ∧ z0 ≤ slotsOf h) (hlim : h1.2.length - n0 ≤ R.cells ∧ slotsOf h1 - z0 ≤ R.slots)
    (kk : Sn p l e R s m args below meth c Q nL base S b dC dI cA n0 z0 (pc + 3) L (pushR (mI y).2.2.2.1 r st) h1) : Sn p l e R s m args below meth c Q nL base S b dC dI cA n0 z0 pc L (as.reverse ++ st) h := by
  intro H locs ls hl hG hS
  obtain ⟨hx, hb, hml, hown, hts, hin, hR, hT, hF, hz⟩ := C
  obtain ⟨-, c1, c2, ci, -⟩ := m_code hy
  have hp : PreS s H (va_Pc (as.map (tv (adr base S b))) (GW base S b dC dI cA h)) (as.map (tv (adr base S b))) := ⟨GW_blind, fun U hU hW => ⟨rfl, GW_of hG hS hT (by rw [hscr]; exact hF) hz hU hW⟩⟩
  have hstk : (as.reverse ++ st).map (tv (adr base S b)) = (as.map (tv (adr base S b))).reverse ++ st.map (tv (adr base S b)) := by rw [List.map_append, List.map_reverse]
  have hlen : (as.map (tv (adr base S b))).length = as.length := List.length_map _
  have hf : h.2.length - n0 + (h1.2.length - h.2.length) ≤ R.cells ∧ slotsOf h - z0 + (slotsOf h1 - slotsOf h) ≤ R.slots := by obtain ⟨-, a1, a2⟩ := hle; omega
  have hrun : va_Run p l e R s m args below meth c H locs (h.2.length - n0) (slotsOf h - z0) (h1.2.length - h.2.length) (slotsOf h1 - slotsOf h) (F0 m pc ls ((as.reverse ++ st).map (tv (adr base S b)))) (st.map (tv (adr base S b))) (QX base S b dC dI cA (mI y).2.2.2.1 r h1 (as.map (tv (adr base S b))).toArray) (AB base) := by
    rcases hw with hw | hw
    · exact va_runS (Ts := tblG) ⟨hx, hb, hml, hown, hts⟩ hM ⟨callB_of as.length hts (wsG_good hy) rfl rfl rfl (hts _ ci) (hts _ hw) ⟨c1, c2, hnp⟩ (call_room hR hy), hts _ (m_static hy hst)⟩ hp rfl hlen hl.1 hstk (lv_room (by rw [catS_eq]; exact hcat)) hd hf
    · exact va_runSN (Ts := tblG) ⟨hx, hb, hml, hown, hts⟩ hM ⟨va_cnB as.length hts (wsG_good hy) rfl rfl rfl (hT.2.1 _ (List.mem_filter.mpr ⟨hw, rfl⟩)) (hts _ ci) ⟨c1, c2, hnp⟩ (call_room hR hy), hts _ (m_static hy hst), trivial⟩ hp rfl hlen hl.1 hstk (lv_room (by rw [catS_eq]; exact hcat)) hd hf
  refine callX hrun hS (fun H1 locs1 hG1 hS1 => ?_)
  rw [rv_push]
  obtain ⟨-, a1, a2⟩ := hle
  exact W.cs (by omega) (by omega) (kk H1 locs1 ls hl hG1 hS1)
theorem sn_virtual (C : Cx p R s m args meth c own cc nL mn d base S b dC dI cA scr) (hscr : h.1 = scr) {i y q : Nat} {as fs : List Value} {r : Int32} {h1 : Hp} (hM : MetX l base S b dC dI cA d y (.ref q :: as) h r h1) (hy : y < 221) (hst : mSt y = false) (hn : (mI y).1.name ≠ "<init>") (hd : decode cc pc = .ok (.invokevirtual i, 3)) (hw : Cond.methodLink own i (mI y).1 ∈ tblG) (hnp : npar (mI y).1.desc = some as.length) (hrc : hGet h q = some (.inr ((mI y).2.2.2.2, fs))) (hcat : catS st ≤ 8) (hle : hLe h h1) (hz1 : n0 ≤ h.2.length ∧ z0 ≤ slotsOf h) (hlim : h1.2.length - n0 ≤ R.cells ∧ slotsOf h1 - z0 ≤ R.slots)
    (kk : Sn p l e R s m args below meth c Q nL base S b dC dI cA n0 z0 (pc + 3) L (pushR (mI y).2.2.2.1 r st) h1) : Sn p l e R s m args below meth c Q nL base S b dC dI cA n0 z0 pc L (as.reverse ++ .ref q :: st) h := by
  intro H locs ls hl hG hS
  obtain ⟨j, rfl⟩ := ge2 (obj_ge hrc)
  have hrc : h.2[j]? = some (.inr ((mI y).2.2.2.2, fs)) := hrc
  obtain ⟨hx, hb, hml, hown, hts, hin, hR, hT, hF, hz⟩ := C
  obtain ⟨-, c1, c2, ci, -, -, T, N, hcl⟩ := m_code hy
  have hp : PreV s H (mI y).1.cls (base + j) (va_Pc ((Value.ref (j + 2) :: as).map (tv (adr base S b))) (GW base S b dC dI cA h)) (as.map (tv (adr base S b))) := ⟨GW_blind, va_recv (ci := (mI y).2.2.2.2) (q0 := j) (fs := fs.map (tv (adr base S b))) hT.1 hG.2 hcl (by rw [wsO_get, hrc]; rfl), fun U hU hW => ⟨rfl, GW_of hG hS hT (by rw [hscr]; exact hF) hz hU hW⟩⟩
  have hstk : (as.reverse ++ .ref (j + 2) :: st).map (tv (adr base S b)) = (as.map (tv (adr base S b))).reverse ++ .ref (base + j) :: st.map (tv (adr base S b)) := by rw [List.map_append, List.map_reverse, List.map_cons]; rfl
  have hlen : (as.map (tv (adr base S b))).length = as.length := List.length_map _
  have hf : h.2.length - n0 + (h1.2.length - h.2.length) ≤ R.cells ∧ slotsOf h - z0 + (slotsOf h1 - slotsOf h) ≤ R.slots := by obtain ⟨-, a1, a2⟩ := hle; omega
  have hrun := va_runV (l := l) (p := p) (e := e) (below := below) (meth := meth) (locs := locs) (cells := h.2.length - n0) (slots := slotsOf h - z0) (g := F0 m pc ls ((as.reverse ++ .ref (j + 2) :: st).map (tv (adr base S b)))) (rest := st.map (tv (adr base S b))) (Ts := tblG) ⟨hx, hb, hml, hown, hts⟩ hM ⟨callB_of as.length hts (wsG_good hy) rfl rfl rfl (hts _ ci) (hts _ hw) ⟨c1, c2, hnp⟩ (call_room hR hy), hts _ (m_inst hy hst), hts _ (m_sel hy hst hn)⟩ hp rfl hlen hl.1 hstk (lv_room (by rw [catS_eq]; exact hcat)) hd hf
  refine callX hrun hS (fun H1 locs1 hG1 hS1 => ?_)
  rw [rv_push]
  obtain ⟨-, a1, a2⟩ := hle
  exact W.cs (by omega) (by omega) (kk H1 locs1 ls hl hG1 hS1)
theorem sn_special (C : Cx p R s m args meth c own cc nL mn d base S b dC dI cA scr) (hscr : h.1 = scr) {i y q : Nat} {as : List Value} {r : Int32} {h1 : Hp} (hM : MetX l base S b dC dI cA d y (.ref q :: as) h r h1) (hy : y < 221) (hst : mSt y = false) (hn : (mI y).1.name = "<init>") (hrk : (mI y).2.2.2.1 = 0) (hd : decode cc pc = .ok (.invokespecial i, 3)) (hw : Cond.methodLink own i (mI y).1 ∈ tblG ∨ Cond.methodLinkNest own i (mI y).1 "SpentWeeks" ∈ lw_tbl) (hnp : npar (mI y).1.desc = some as.length) (hcat : catS st ≤ 8) (hle : hLe h h1) (hz1 : n0 ≤ h.2.length ∧ z0 ≤ slotsOf h) (hlim : h1.2.length - n0 ≤ R.cells ∧ slotsOf h1 - z0 ≤ R.slots)
    (kk : Sn p l e R s m args below meth c Q nL base S b dC dI cA n0 z0 (pc + 3) L st h1) : Sn p l e R s m args below meth c Q nL base S b dC dI cA n0 z0 pc L (as.reverse ++ .ref q :: st) h := by
  intro H locs ls hl hG hS
  obtain ⟨hx, hb, hml, hown, hts, hin, hR, hT, hF, hz⟩ := C
  obtain ⟨-, c1, c2, ci, -⟩ := m_code hy
  unfold MetX at hM
  have hws : wsG y = Cond.code (mI y).1 (mI y).2.1 (mI y).2.2.1 none :: tblG := by unfold wsG; rw [hrk]; rfl
  have hp : PreS s H (va_Pc ((Value.ref q :: as).map (tv (adr base S b))) (GW base S b dC dI cA h)) (.ref (adr base S b q) :: as.map (tv (adr base S b))) := ⟨GW_blind, fun U hU hW => ⟨rfl, GW_of hG hS hT (by rw [hscr]; exact hF) hz hU hW⟩⟩
  have hstk : (as.reverse ++ .ref q :: st).map (tv (adr base S b)) = (as.map (tv (adr base S b))).reverse ++ .ref (adr base S b q) :: st.map (tv (adr base S b)) := by rw [List.map_append, List.map_reverse, List.map_cons]; rfl
  have hlen : (as.map (tv (adr base S b))).length = as.length := List.length_map _
  have hf : h.2.length - n0 + (h1.2.length - h.2.length) ≤ R.cells ∧ slotsOf h - z0 + (slotsOf h1 - slotsOf h) ≤ R.slots := by obtain ⟨-, a1, a2⟩ := hle; omega
  have hrun : va_Run p l e R s m args below meth c H locs (h.2.length - n0) (slotsOf h - z0) (h1.2.length - h.2.length) (slotsOf h1 - slotsOf h) (F0 m pc ls ((as.reverse ++ .ref q :: st).map (tv (adr base S b)))) (st.map (tv (adr base S b))) (QX base S b dC dI cA (mI y).2.2.2.1 r h1 (Value.ref (adr base S b q) :: as.map (tv (adr base S b))).toArray) (AB base) := by
    rcases hw with hw | hw
    · exact va_runI (Ts := tblG) ⟨hx, hb, hml, hown, hts⟩ hM ⟨callB_of as.length hts (wsG_good hy) hws rfl rfl (hts _ ci) (hts _ hw) ⟨c1, c2, hnp⟩ (call_room hR hy), hn, hts _ (m_inst hy hst)⟩ hp rfl hlen hl.1 hstk (lv_room (by rw [catS_eq]; exact hcat)) hd hf
    · exact va_runIN (Ts := tblG) ⟨hx, hb, hml, hown, hts⟩ hM ⟨va_cnB as.length hts (wsG_good hy) hws rfl rfl (hT.2.1 _ (List.mem_filter.mpr ⟨hw, rfl⟩)) (hts _ ci) ⟨c1, c2, hnp⟩ (call_room hR hy), hn, hts _ (m_inst hy hst)⟩ hp rfl hlen hl.1 hstk (lv_room (by rw [catS_eq]; exact hcat)) hd hf
  refine callX hrun hS (fun H1 locs1 hG1 hS1 => ?_)
  rw [rv_push, hrk]
  obtain ⟨-, a1, a2⟩ := hle
  exact W.cs (by omega) (by omega) (kk H1 locs1 ls hl hG1 hS1)
theorem sn_acopy (C : Cx p R s m args meth c own cc nL mn d base S b dC dI cA scr) {i a0 a1 k0 k1 : Nat} {f g : Nat → Int32} {sp dp n : Int32} (hd : decode cc pc = .ok (.invokestatic i, 3)) (hw : Cond.methodLink own i arraycopyName ∈ tblG) (hg0 : hGet h a0 = some (.inl (0, k0, .inl f))) (hg1 : hGet h a1 = some (.inl (0, k1, .inl g))) (hc : 2 ≤ a0 ∧ 2 ≤ a1 ∧ ¬ sp < 0 ∧ ¬ dp < 0 ∧ ¬ n < 0 ∧ sp.toNatClampNeg + n.toNatClampNeg ≤ k0 ∧ dp.toNatClampNeg + n.toNatClampNeg ≤ k1) (hcat : catS st ≤ 8)
    (kk : Sn p l e R s m args below meth c Q nL base S b dC dI cA n0 z0 (pc + 3) L st (hSet h a1 (.inl (0, k1, .inl (va_cpy f g sp.toNatClampNeg dp.toNatClampNeg n.toNatClampNeg))))) : Sn p l e R s m args below meth c Q nL base S b dC dI cA n0 z0 pc L (.int n :: .int dp :: .ref a1 :: .int sp :: .ref a0 :: st) h := by
  intro H locs ls hl hG hS
  obtain ⟨hx, hb, hml, hown, hts, hin, hR, hT, hF, hz⟩ := C
  obtain ⟨g2, g3, h1, h2, h3, h4, h5⟩ := hc
  obtain ⟨j0, rfl⟩ := ge2 g2
  obtain ⟨j1, rfl⟩ := ge2 g3
  have hg0 : h.2[j0]? = some (.inl (0, k0, .inl f)) := hg0
  have hg1 : h.2[j1]? = some (.inl (0, k1, .inl g)) := hg1
  have hc0 : H[base + j0]? = some (vp_cell (cA 0) (k0, .inl f)) := hG.2 j0 (base + j0, .inl (cA 0, k0, .inl f)) (by rw [wsO_get, hg0]; rfl)
  have hc1 : H[base + j1]? = some (vp_cell (cA 0) (k1, .inl g)) := hG.2 j1 (base + j1, .inl (cA 0, k1, .inl g)) (by rw [wsO_get, hg1]; rfl)
  have nn : ∀ z : Int32, ¬ z < 0 → z.toInt = (z.toNatClampNeg : Int) := by
    intro z hz
    have hz0 : (0 : Int) ≤ z.toInt := by
      have := Int32.not_lt.mp hz
      simpa using Int32.le_iff_toInt_le.mp this
    show z.toInt = ((z.toInt.toNat : Nat) : Int)
    omega
  have hA0 := (hT.1.2 0 (cA 0, .int) rfl).1
  intro T hTh X
  obtain ⟨-, kk0, hk0, cm0, hkk0⟩ := hA0 k0 (fun j => .int (f j))
  have hlen : (st.map (tv (adr base S b))).map (fun v => v.category) = (st.map (tv (adr base S b))).map fun v => v.category := rfl
  obtain ⟨vm', X', step⟩ := X.arraycopy hx hown (hts _ hw) (hts _ w_nat) (hts _ w_sac) (hts _ w_iS) (src := base + j0) (dst := base + j1) (cs := vp_cell (cA 0) (k0, .inl f)) (cd := vp_cell (cA 0) (k1, .inl g)) (srcPos := sp) (destPos := dp) (n := n) (by rw [hTh]; exact hc0) (by rw [hTh]; exact hc1)
    (fun _ h => by cases h) (fun _ h => by cases h) (fun h => by cases h) (fun h => by cases h) hk0 hk0 hkk0 hkk0 rfl h1 h2 h3
    (by rw [nn sp h1, nn n h3]; show ¬ _ > ((arrV (cA 0) k0 (fun j => .int (f j))).slots.size : Int); rw [arrV_size]; omega)
    (by rw [nn dp h2, nn n h3]; show ¬ _ > ((arrV (cA 0) k1 (fun j => .int (g j))).slots.size : Int); rw [arrV_size]; omega)
    (fun vm₁ _ i hi => by
      have e : (vp_cell (cA 0) (k0, .inl f)).slots.getD (sp.toNatClampNeg + i) .null = .int (f (sp.toNatClampNeg + i)) := by
        show (arrV (cA 0) k0 (fun j => .int (f j))).slots.getD _ _ = _
        rw [Array.getD_eq_getD_getElem?, arrV_read _ _ (by omega)]
        rfl
      rw [e]
      exact ⟨rfl, trivial⟩)
    (g := F0 m pc ls ((Value.int n :: .int dp :: .ref (j1 + 2) :: .int sp :: .ref (j0 + 2) :: st).map (tv (adr base S b)))) rfl (by rw [hml]; exact hl.1) (rest := st.map (tv (adr base S b))) rfl (by rw [hb]; exact hd) (by omega) (by
      show 2 * 0 + _ + _ ≤ _
      rw [catS_eq, show nativeFrameWords "java/lang/System" "arraycopy" 5 = 7 by decide]
      omega)
  have e1 : copied (vp_cell (cA 0) (k0, .inl f)) (vp_cell (cA 0) (k1, .inl g)) sp dp n = vp_cell (cA 0) (k1, .inl (va_cpy f g sp.toNatClampNeg dp.toNatClampNeg n.toNatClampNeg)) := va_copied (fun z => .int z) (cA 0) (cA 0) f g h4
  rw [e1] at X' step
  have hlt : base + j1 < H.size := (Array.getElem?_eq_some_iff.mp hc1).1
  generalize hH1 : H.setIfInBounds (base + j1) (vp_cell (cA 0) (k1, .inl (va_cpy f g sp.toNatClampNeg dp.toNatClampNeg n.toNatClampNeg))) = H1
  have hheap : ((T.setVm vm').setCell (base + j1) (vp_cell (cA 0) (k1, .inl (va_cpy f g sp.toNatClampNeg dp.toNatClampNeg n.toNatClampNeg)))).heap = H1 := by rw [← hH1, ← hTh]; rfl
  have oq : ∀ q : Nat, q ≠ base + j1 → H1[q]? = H[q]? := fun q hq => by rw [← hH1]; simp [Array.getElem?_setIfInBounds, Ne.symm hq]
  have z1 : H1.size = H.size := by rw [← hH1]; simp
  have he : va_at (dC, dI) vwCl (base + j1, tE (adr base S b) cA (.inl (0, k1, .inl (va_cpy f g sp.toNatClampNeg dp.toNatClampNeg n.toNatClampNeg)))) H1 := by
    show H1[base + j1]? = some _
    rw [← hH1]
    simp [Array.getElem?_setIfInBounds, hlt]
    rfl
  obtain ⟨hG1, hS1⟩ := GH_set (k := 0) hG hS hg1 he z1 oq
  obtain ⟨s1, s2⟩ := sl_set (e1 := .inl (0, k1, .inl (va_cpy f g sp.toNatClampNeg dp.toNatClampNeg n.toNatClampNeg))) hg1 rfl
  have hS2 : va_S (AB base) s.heap H1 (locs ++ ((vp_cell (cA 0) (k0, .inl f)).stretch sp.toNatClampNeg n.toNatClampNeg).zipIdx.map fun q => ⟨base + j1, dp.toNatClampNeg + q.2⟩) := ⟨hS1.1, hS1.2.1, fun q hq => by
    rcases List.mem_append.mp hq with g | g
    · exact hS.2.2 q g
    · obtain ⟨z, -, hz⟩ := List.mem_map.mp g
      rw [← hz]
      exact Nat.le_add_right base j1⟩
  have := kk H1 _ ls hl hG1 hS2
  rw [s1, s2] at this
  obtain ⟨t, a1, b1⟩ := this _ hheap X'
  exact ⟨t, step t a1, b1⟩
end SC
