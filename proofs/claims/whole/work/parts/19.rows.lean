/-! ===== one row an instruction that touches the heap ===== -/
def Sn (p : Program) (l : Launch) (e : Env) (R : Room) (s : State) (m : MethodId) (args : Array Value) (below : List Frame) (meth : Method) (c : Code) (Q : State → Prop) (nL base S b : Nat) (dC : Nat → ClassId) (dI : Nat → Nat → Nat) (cA : Nat → ClassId) (n0 z0 : Nat) (pc : Nat) (L st : List Value) (h : Hp) : Prop :=
  ∀ (H : Heap) (locs : List Loc) (ls : Array Slot), lsR (adr base S b) ls nL L → GH base S b dC dI cA h H → va_S (AB base) s.heap H locs → W p l e R s m args below meth c H locs (h.2.length - n0) (slotsOf h - z0) Q (F0 m pc ls (st.map (tv (adr base S b))))
theorem cl_ty {ci : Nat} {C : String} {T : u_T} {N : Nat} (h : vwCl[ci]? = some (C, T, N)) : (∀ k, k < N → parseFieldDescriptor (T k).2.2.1 = some (fTy ci k)) ∧ (∀ a, a < N → ∀ b, b < N → a ≠ b → (T a).2.1 ≠ (T b).2.1) := by
  have hl := cl_at h
  match ci, hl, h with
  | 0, _, h => cases h; exact ⟨tyX0_ok, nmX0⟩
  | 1, _, h => cases h; exact ⟨tyX1_ok, nmX1⟩
  | 2, _, h => cases h; exact ⟨tyX2_ok, nmX2⟩
  | 3, _, h => cases h; exact ⟨tyX3_ok, nmX3⟩
  | 4, _, h => cases h; exact ⟨tyX4_ok, nmX4⟩
  | 5, _, h => cases h; exact ⟨tyX5_ok, nmX5⟩
  | 6, _, h => cases h; exact ⟨tyX6_ok, nmX6⟩
  | 7, _, h => cases h; exact ⟨tyX7_ok, nmX7⟩
  | 8, _, h => cases h; exact ⟨tyX8_ok, nmX8⟩
  | 9, _, h => cases h; exact ⟨tyX9_ok, nmX9⟩
  | n + 10, hl, _ => omega
theorem okF_ok (ad : Nat → Nat) {ty : FieldType} {v : Value} (h : okF ty v = true) : narrow ty (tv ad v) = tv ad v ∧ fits ty (tv ad v) = true := by
  unfold okF at h
  split at h
  · exact ⟨rfl, rfl⟩
  · rename_i x
    simp only [Bool.or_eq_true, beq_iff_eq] at h
    rcases h with rfl | rfl <;> exact ⟨rfl, rfl⟩
  · exact ⟨rfl, rfl⟩
  · exact ⟨rfl, rfl⟩
  · exact ⟨rfl, rfl⟩
  · cases h
theorem tag_ty {cA : Nat → ClassId} {t : Nat} (h : t < 5) : ∃ ty, (tysG cA)[t]? = some (cA t, ty) := by
  match t, h with
  | 0, _ => exact ⟨_, rfl⟩
  | 1, _ => exact ⟨_, rfl⟩
  | 2, _ => exact ⟨_, rfl⟩
  | 3, _ => exact ⟨_, rfl⟩
  | 4, _ => exact ⟨_, rfl⟩
section SR
variable {p : Program} {l : Launch} {e : Env} {R : Room} {s : State} {m : MethodId} {args : Array Value} {below : List Frame} {meth : Method} {c : Code} {Q : State → Prop} {own : String} {cc : ByteArray} {nL : Nat} {mn : String} {d base S b : Nat} {dC : Nat → ClassId} {dI : Nat → Nat → Nat} {cA : Nat → ClassId} {scr : Nat × (Nat → Int32)} {n0 z0 pc : Nat} {L st : List Value} {h : Hp}
theorem ge2 {i : Nat} (h2 : 2 ≤ i) : ∃ j, i = j + 2 := ⟨i - 2, by omega⟩
/-- the world behind a store in one cell -/
theorem GH_set {H H1 : Heap} {locs : List Loc} {i k : Nat} {e0 e1 : HC} (hG : GH base S b dC dI cA h H) (hS : va_S (AB base) s.heap H locs) (hg : h.2[i]? = some e0) (he : va_at (dC, dI) vwCl (base + i, tE (adr base S b) cA e1) H1) (z : H1.size = H.size) (oq : ∀ q : Nat, q ≠ base + i → H1[q]? = H[q]?) : GH base S b dC dI cA (hSet h (i + 2) e1) H1 ∧ va_S (AB base) s.heap H1 (locs ++ [⟨base + i, k⟩]) := by
  have hw : (wsO base (adr base S b) cA h.2)[i]? = some (base + i, tE (adr base S b) cA e0) := by rw [wsO_get, hg]; rfl
  refine ⟨⟨?_, ?_⟩, hS.put z oq (Nat.le_add_right base i)⟩
  · rw [z, hG.1]
    simp [hSet]
  · show va_P (dC, dI) vwCl (wsO base (adr base S b) cA (h.2.set (i + 2 - 2) e1)) H1
    rw [Nat.add_sub_cancel, wsO_set]
    exact hG.2.set wsO_D hw he oq
theorem sl_set {i : Nat} {e0 e1 : HC} (hg : h.2[i]? = some e0) (hz : csz e1 = csz e0) : slotsOf (hSet h (i + 2) e1) = slotsOf h ∧ (hSet h (i + 2) e1).2.length = h.2.length := by
  refine ⟨?_, by simp [hSet]⟩
  show ((h.2.set (i + 2 - 2) e1).map csz).sum = _
  rw [Nat.add_sub_cancel]
  exact sum_set hg hz
theorem sn_getfield (C : Cx p R s m args meth c own cc nL mn d base S b dC dI cA scr) {i ci k r : Nat} (hd : decode cc pc = .ok (.getfield i, 3)) {Cn : String} {T : u_T} {N : Nat} (hcl : vwCl[ci]? = some (Cn, T, N)) (hk : k < N) (hw : Cond.fieldLink own i (T k).1 (T k).2.1 (T k).2.2.1 ∈ tblG) {fs : List Value} {v : Value} (hg : hGet h r = some (.inr (ci, fs))) (hv : fs[k]? = some v)
    (kk : Sn p l e R s m args below meth c Q nL base S b dC dI cA n0 z0 (pc + 3) L (v :: st) h) : Sn p l e R s m args below meth c Q nL base S b dC dI cA n0 z0 pc L (.ref r :: st) h := by
  intro H locs ls hl hG hS
  obtain ⟨j, rfl⟩ := ge2 (obj_ge hg)
  have hg : h.2[j]? = some (.inr (ci, fs)) := hg
  obtain ⟨hx, hb, hml, hown, hts, hin, hR, hT, hF, hz⟩ := C
  exact va_get (D := (dC, dI)) (ci := ci) (v := tv _ v) (C := Cn) (T := T) (N := N) hx hb hts (cl_ws hcl) hown hT.1 hG.2 j (by rw [wsO_get, hg]; rfl) hcl k hk (hts _ hw) (fun _ h9 => h9) (by rw [List.getElem?_map, hv]; rfl) hd (kk H locs ls hl hG hS)
theorem sn_putfield (C : Cx p R s m args meth c own cc nL mn d base S b dC dI cA scr) {i ci k r : Nat} (hd : decode cc pc = .ok (.putfield i, 3)) {Cn : String} {T : u_T} {N : Nat} (hcl : vwCl[ci]? = some (Cn, T, N)) (hk : k < N) (hw : Cond.fieldLink own i (T k).1 (T k).2.1 (T k).2.2.1 ∈ tblG) (hfin : (T k).2.2.2 = false ∨ (mn = "<init>" ∧ (T k).1 = own)) {fs : List Value} {v : Value} (hg : hGet h r = some (.inr (ci, fs))) (hkl : k < fs.length) (hok : okF (fTy ci k) v = true)
    (kk : Sn p l e R s m args below meth c Q nL base S b dC dI cA n0 z0 (pc + 3) L st (hSet h r (.inr (ci, fs.set k v)))) : Sn p l e R s m args below meth c Q nL base S b dC dI cA n0 z0 pc L (v :: .ref r :: st) h := by
  intro H locs ls hl hG hS
  obtain ⟨j, rfl⟩ := ge2 (obj_ge hg)
  have hg : h.2[j]? = some (.inr (ci, fs)) := hg
  obtain ⟨hx, hb, hml, hown, hts, hin, hR, hT, hF, hz⟩ := C
  obtain ⟨hty, hnm⟩ := cl_ty hcl
  obtain ⟨hn, hfit⟩ := okF_ok (adr base S b) hok
  have hap := va_apart (own := own) hts (cl_ws hcl) (fTy ci) hty hnm hT.1 hcl
  obtain ⟨r0, g1, cell, q1, q2, q3, q4⟩ := hG.2 j (base + j, .inr (ci, fs.map (tv (adr base S b)))) (by rw [wsO_get, hg]; rfl)
  have hr : r0 = (Cn, T, N) := Option.some.inj (g1.symm.trans hcl)
  subst hr
  obtain ⟨hSl, hfc, kC, hkC, hkind⟩ := hT.1.1 ci _ hcl
  obtain ⟨cf, kf, fi, f, hi, hsl⟩ := hSl k hk
  have hst := (u_facts hfc hkC (u_lays hts (cl_ws hcl) hk) hi).1
  have hlay := hts _ (cl_ws hcl _ (u_in_lay hk))
  have hkl' : k < (fs.map (tv (adr base S b))).length := by rw [List.length_map]; exact hkl
  have hmap : (fs.set k v).map (tv (adr base S b)) = (fs.map (tv (adr base S b))).set k (tv (adr base S b) v) := List.map_set
  have fin : ∀ H' : Heap, H'[base + j]? = some (cell.setSlot f.slot (tv (adr base S b) v)) → H'.size = H.size → (∀ q, q ≠ base + j → H'[q]? = H[q]?) → W p l e R s m args below meth c H' (locs ++ [⟨base + j, f.slot⟩]) (h.2.length - n0) (slotsOf h - z0) Q (F0 m (pc + 3) ls (st.map (tv (adr base S b)))) := by
    intro H' e1 e2 e3
    rw [hsl] at e1
    have he : va_at (dC, dI) vwCl (base + j, tE (adr base S b) cA (.inr (ci, fs.set k v))) H' := by
      refine ⟨_, hcl, ?_⟩
      show t_OB _ _ _ _ _ (vp_V ((fs.set k v).map (tv (adr base S b))))
      rw [hmap]
      exact t_OB.to (V := updV (vp_V (fs.map (tv (adr base S b)))) k (tv (adr base S b) v)) ⟨_, e1, q2, q3, t_set q4 hap hk _⟩ (fun y _ => vp_updV_set hkl' _ y)
    obtain ⟨hG1, hS1⟩ := GH_set (k := f.slot) hG hS hg he e2 e3
    obtain ⟨s1, s2⟩ := sl_set (e1 := .inr (ci, fs.set k v)) hg (by simp [csz])
    have := kk H' _ ls hl hG1 hS1
    rw [s1, s2] at this
    exact this
  by_cases hf : (T k).2.2.2 = false
  · unfold u_lay at hlay
    rw [if_neg (by rw [hf]; decide)] at hlay
    have h6 := u_store hfc hkC hkind hlay hi (hty k hk) hn hfit
    exact W.putK hx hb (f := f) ⟨hown, hts _ hw, ⟨_, _, _, hi⟩, hst⟩ (by rw [q2]; exact h6) q1 q3 (by rw [hsl]; exact k2_hasslot (q4 k hk)) rfl rfl hd fin
  · rcases hfin with hf2 | ⟨hm, hdecl⟩
    · exact absurd hf2 hf
    · have hf3 : (T k).2.2.2 = true := by simpa using hf
      unfold u_lay at hlay
      rw [if_pos hf3] at hlay
      have hcf : m.cls = cf := by
        obtain ⟨_, _, c', _, _, _, -, -, hf', -, -, -, hown2, -⟩ := Cond.laysFinal_spec hlay
        have e1 : c' = cf := by have := hi.symm.trans hf'; simp at this; exact this.1.symm
        rw [hdecl] at hown2
        rw [← e1]; exact Option.some.inj (hown.symm.trans hown2)
      have h6 := u_fits hfc hkC hkind (Or.inr hlay) hi (hty k hk) hn hfit
      exact W.putFinK hx hb hown (hts _ hw) hi hst hcf (hin hm) (by rw [q2]; exact h6) q1 q3 (by rw [hsl]; exact k2_hasslot (q4 k hk)) rfl rfl hd fin
theorem sn_getstatic (C : Cx p R s m args meth c own cc nL mn d base S b dC dI cA scr) {i : Nat} (hd : decode cc pc = .ok (.getstatic i, 3)) (hw : Cond.fieldLinkNest own i "SpentWeeks" "IS_TOO" "[I" "SpentWeeks" ∈ lw_tbl)
    (kk : Sn p l e R s m args below meth c Q nL base S b dC dI cA n0 z0 (pc + 3) L (.ref 0 :: st) h) : Sn p l e R s m args below meth c Q nL base S b dC dI cA n0 z0 pc L st h := by
  intro H locs ls hl hG hS
  obtain ⟨hx, hb, hml, hown, hts, hin, hR, hT, hF, hz⟩ := C
  exact va_getsN (A := AB base) hx hb hF.2.2.1 hS hown (va_Nw.use rfl (hT.2.1 _ (List.mem_filter.mpr ⟨hw, rfl⟩))) (fun _ h9 => h9) hd (kk H locs ls hl hG hS)
/-- an array of ints, our own or a foreign one -/
theorem ints_at (C : Cx p R s m args meth c own cc nL mn d base S b dC dI cA scr) (hscr : h.1 = scr) {r n : Nat} {f : Nat → Int32} {H : Heap} {locs : List Loc} (hG : GH base S b dC dI cA h H) (hS : va_S (AB base) s.heap H locs) (hg : hGet h r = some (.inl (0, n, .inl f))) : ∃ cell : Cell, H[adr base S b r]? = some cell ∧ s.isArrayOf cell .int ∧ cell.vm ≠ .unknown ∧ n ≤ cell.slots.size ∧ cell.slots.size.toInt32 = Int32.ofNat n ∧ ∀ j : Nat, j < n → cell.slots[j]? = some (.int (f j)) := by
  obtain ⟨hx, hb, hml, hown, hts, hin, hR, hT, hF, hz⟩ := C
  match r, hg with
  | 0, hg =>
    simp only [hGet, Option.some.injEq, Sum.inl.injEq, Prod.mk.injEq, true_and] at hg
    obtain ⟨rfl, rfl⟩ := hg
    obtain ⟨cell, g1, g2, g3, g4, g5, g6, g7⟩ := hF.1.kept hS.2.1
    exact ⟨cell, g1, g2, g3, g4, g5, g6⟩
  | 1, hg =>
    simp only [hGet, Option.some.injEq, Sum.inl.injEq, Prod.mk.injEq, true_and] at hg
    obtain ⟨rfl, rfl⟩ := hg
    rw [hscr]
    obtain ⟨cell, g1, g2, g3, g4, g5⟩ := hF.2.1.kept (hS.2.1 b (by have := hF.2.2.2.2; omega) (Nat.not_le.mpr hF.2.2.2.2))
    exact ⟨cell, g1, g2, g3, by omega, by rw [g4] <;> rfl, g5⟩
  | j + 2, hg =>
    have hg : h.2[j]? = some (.inl (0, n, .inl f)) := hg
    have hc : H[base + j]? = some (vp_cell (cA 0) (n, .inl f)) := hG.2 j (base + j, .inl (cA 0, n, .inl f)) (by rw [wsO_get, hg]; rfl)
    have hc2 : H[base + j]? = some (arrV (cA 0) n (fun j => .int (f j))) := hc
    refine ⟨_, hc2, (hT.1.2 0 (cA 0, .int) rfl).1 n (fun j => .int (f j)), ?_, ?_, ?_, ?_⟩
    · intro q
      cases q
    · rw [arrV_size]
      exact Nat.le_refl _
    · rw [arrV_size] <;> rfl
    · intro k hk
      rw [arrV_read _ _ hk]
theorem sn_iaload (C : Cx p R s m args meth c own cc nL mn d base S b dC dI cA scr) (hscr : h.1 = scr) (hd : decode cc pc = .ok (.iaload, 1)) {r n : Nat} {f : Nat → Int32} {i : Int32} (hg : hGet h r = some (.inl (0, n, .inl f))) (hi : vp_in i n)
    (kk : Sn p l e R s m args below meth c Q nL base S b dC dI cA n0 z0 (pc + 1) L (.int (f i.toNatClampNeg) :: st) h) : Sn p l e R s m args below meth c Q nL base S b dC dI cA n0 z0 pc L (.int i :: .ref r :: st) h := by
  intro H locs ls hl hG hS
  obtain ⟨cell, h1, h2, h3, h4, h5, h6⟩ := ints_at C hscr hG hS hg
  have hlt : i.toNatClampNeg < n := Nat.not_le.mp fun q => hi (Or.inr q)
  have hin' : ¬ (i < 0 ∨ cell.slots.size ≤ i.toNatClampNeg) := by
    intro q
    rcases q with q | q
    · exact hi (Or.inl q)
    · omega
  exact W.iald (v := .int (f i.toNatClampNeg)) C.1 C.2.1 h1 h2 h3 hin' (h6 _ hlt) rfl rfl hd (kk H locs ls hl hG hS)
theorem sn_alen (C : Cx p R s m args meth c own cc nL mn d base S b dC dI cA scr) (hscr : h.1 = scr) (hd : decode cc pc = .ok (.arraylength, 1)) {r n : Nat} {f : Nat → Int32} (hg : hGet h r = some (.inl (0, n, .inl f)))
    (kk : Sn p l e R s m args below meth c Q nL base S b dC dI cA n0 z0 (pc + 1) L (.int (Int32.ofNat n) :: st) h) : Sn p l e R s m args below meth c Q nL base S b dC dI cA n0 z0 pc L (.ref r :: st) h := by
  intro H locs ls hl hG hS
  obtain ⟨cell, h1, h2, h3, h4, h5, h6⟩ := ints_at C hscr hG hS hg
  exact W.alen (n := Int32.ofNat n) C.1 C.2.1 h1 h2 h5 rfl rfl hd (kk H locs ls hl hG hS)
theorem sn_iastore (C : Cx p R s m args meth c own cc nL mn d base S b dC dI cA scr) (hd : decode cc pc = .ok (.iastore, 1)) {r n : Nat} {f : Nat → Int32} {i x : Int32} (hg : hGet h r = some (.inl (0, n, .inl f))) (h2 : 2 ≤ r) (hi : vp_in i n)
    (kk : Sn p l e R s m args below meth c Q nL base S b dC dI cA n0 z0 (pc + 1) L st (hSet h r (.inl (0, n, .inl (upd f i.toNatClampNeg x))))) : Sn p l e R s m args below meth c Q nL base S b dC dI cA n0 z0 pc L (.int x :: .int i :: .ref r :: st) h := by
  intro H locs ls hl hG hS
  obtain ⟨j, rfl⟩ := ge2 h2
  have hg : h.2[j]? = some (.inl (0, n, .inl f)) := hg
  have hc : H[base + j]? = some (vp_cell (cA 0) (n, .inl f)) := hG.2 j (base + j, .inl (cA 0, n, .inl f)) (by rw [wsO_get, hg]; rfl)
  obtain ⟨hx, hb, hml, hown, hts, hin, hR, hT, hF, hz⟩ := C
  refine W.iast hx hb hc ((hT.1.2 0 (cA 0, .int) rfl).1 n (fun j => .int (f j))) (fun q => by cases q) (by show ¬ (i < 0 ∨ (arrV _ _ _).slots.size ≤ _); rw [arrV_size]; exact hi) rfl rfl hd fun H1 e1 z oq => ?_
  have he : va_at (dC, dI) vwCl (base + j, tE (adr base S b) cA (.inl (0, n, .inl (upd f i.toNatClampNeg x)))) H1 := by
    show H1[base + j]? = some (vp_cell (cA 0) (n, .inl (upd f i.toNatClampNeg x)))
    rw [e1, vp_cell_i, vp_cell_i, arrV_store]
    congr 2
    funext q
    by_cases hq : q = i.toNatClampNeg
    · subst hq
      simp [updV, upd]
    · simp [updV, upd, hq]
  obtain ⟨hG1, hS1⟩ := GH_set (k := i.toNatClampNeg) hG hS hg he z oq
  obtain ⟨s1, s2⟩ := sl_set (e1 := .inl (0, n, .inl (upd f i.toNatClampNeg x))) hg rfl
  have := kk H1 _ ls hl hG1 hS1
  rw [s1, s2] at this
  exact this
theorem sn_baload (C : Cx p R s m args meth c own cc nL mn d base S b dC dI cA scr) (hd : decode cc pc = .ok (.baload, 1)) {r n : Nat} {f : Nat → Int32} {i : Int32} (hg : hGet h r = some (.inl (1, n, .inl f))) (hi : vp_in i n)
    (kk : Sn p l e R s m args below meth c Q nL base S b dC dI cA n0 z0 (pc + 1) L (.int (f i.toNatClampNeg) :: st) h) : Sn p l e R s m args below meth c Q nL base S b dC dI cA n0 z0 pc L (.int i :: .ref r :: st) h := by
  intro H locs ls hl hG hS
  obtain ⟨j, rfl⟩ := ge2 (tag_ge hg (by decide))
  have hg : h.2[j]? = some (.inl (1, n, .inl f)) := hg
  exact va_zald (D := (dC, dI)) (cl := vwCl) C.1 C.2.1 C.2.2.2.2.2.2.2.1.1 hG.2 j 1 (by rw [wsO_get, hg]; rfl) rfl hi hd (kk H locs ls hl hG hS)
theorem sn_bastore (C : Cx p R s m args meth c own cc nL mn d base S b dC dI cA scr) (hd : decode cc pc = .ok (.bastore, 1)) {r n : Nat} {f : Nat → Int32} {i x : Int32} (hg : hGet h r = some (.inl (1, n, .inl f))) (hx01 : x = 0 ∨ x = 1) (hi : vp_in i n)
    (kk : Sn p l e R s m args below meth c Q nL base S b dC dI cA n0 z0 (pc + 1) L st (hSet h r (.inl (1, n, .inl (upd f i.toNatClampNeg x))))) : Sn p l e R s m args below meth c Q nL base S b dC dI cA n0 z0 pc L (.int x :: .int i :: .ref r :: st) h := by
  intro H locs ls hl hG hS
  obtain ⟨j, rfl⟩ := ge2 (tag_ge hg (by decide))
  have hg : h.2[j]? = some (.inl (1, n, .inl f)) := hg
  have hc : H[base + j]? = some (vp_cell (cA 1) (n, .inl f)) := hG.2 j (base + j, .inl (cA 1, n, .inl f)) (by rw [wsO_get, hg]; rfl)
  obtain ⟨hx, hb, hml, hown, hts, hin, hR, hT, hF, hz⟩ := C
  refine W.zast hx hb hc ((hT.1.2 1 (cA 1, .boolean) rfl).1 n (fun j => .int (f j))) (fun q => by cases q) (by show ¬ (i < 0 ∨ (arrV _ _ _).slots.size ≤ _); rw [arrV_size]; exact hi) rfl rfl hd fun H1 e1 z oq => ?_
  have hnar : narrow .boolean (.int x) = .int x := by rcases hx01 with rfl | rfl <;> rfl
  rw [hnar] at e1
  have he : va_at (dC, dI) vwCl (base + j, tE (adr base S b) cA (.inl (1, n, .inl (upd f i.toNatClampNeg x)))) H1 := by
    show H1[base + j]? = some (vp_cell (cA 1) (n, .inl (upd f i.toNatClampNeg x)))
    rw [e1, vp_cell_i, vp_cell_i, arrV_store]
    congr 2
    funext q
    by_cases hq : q = i.toNatClampNeg
    · subst hq
      simp [updV, upd]
    · simp [updV, upd, hq]
  obtain ⟨hG1, hS1⟩ := GH_set (k := i.toNatClampNeg) hG hS hg he z oq
  obtain ⟨s1, s2⟩ := sl_set (e1 := .inl (1, n, .inl (upd f i.toNatClampNeg x))) hg rfl
  have := kk H1 _ ls hl hG1 hS1
  rw [s1, s2] at this
  exact this
theorem sn_aaload (C : Cx p R s m args meth c own cc nL mn d base S b dC dI cA scr) (hd : decode cc pc = .ok (.aaload, 1)) {r n t x : Nat} {f : Nat → Option Nat} {i : Int32} (hg : hGet h r = some (.inl (t, n, .inr (.inr (.inr (.inr f)))))) (ht : t = 2 ∨ t = 3 ∨ t = 4) (hi : vp_in i n) (hv : f i.toNatClampNeg = some x)
    (kk : Sn p l e R s m args below meth c Q nL base S b dC dI cA n0 z0 (pc + 1) L (.ref x :: st) h) : Sn p l e R s m args below meth c Q nL base S b dC dI cA n0 z0 pc L (.int i :: .ref r :: st) h := by
  intro H locs ls hl hG hS
  obtain ⟨j, rfl⟩ := ge2 (tag_ge hg (by omega))
  have hg : h.2[j]? = some (.inl (t, n, .inr (.inr (.inr (.inr f))))) := hg
  have hc : H[base + j]? = some (vp_cell (cA t) (n, .inr (.inr (.inr (.inr (fun q => (f q).map (adr base S b))))))) := hG.2 j (base + j, .inl (cA t, n, .inr (.inr (.inr (.inr (fun q => (f q).map (adr base S b))))))) (by rw [wsO_get, hg]; rfl)
  obtain ⟨hx, hb, hml, hown, hts, hin, hR, hT, hF, hz⟩ := C
  have hlt : i.toNatClampNeg < n := Nat.not_le.mp fun q => hi (Or.inr q)
  have go : ∀ ty : FieldType, (tysG cA)[t]? = some (cA t, ty) → ty.isReference = true → W p l e R s m args below meth c H locs (h.2.length - n0) (slotsOf h - z0) Q (F0 m pc ls (.int i :: .ref (base + j) :: st.map (tv (adr base S b)))) := by
    intro ty hty href
    refine W.aald (v := .ref (adr base S b x)) (ty := ty) hx hb hc ((hT.1.2 t _ hty).1 n (fun q => va_rf ((f q).map (adr base S b)))) href (fun q => by cases q) (by show ¬ (i < 0 ∨ (arrV _ _ _).slots.size ≤ _); rw [arrV_size]; exact hi) ?_ rfl rfl hd (kk H locs ls hl hG hS)
    show (arrV _ _ _).slots[_]? = _
    rw [arrV_read _ _ hlt]
    show some (va_rf ((f i.toNatClampNeg).map (adr base S b))) = _
    rw [hv]
    rfl
  rcases ht with rfl | rfl | rfl
  · exact go (.array .int) rfl rfl
  · exact go (.object RX4) rfl rfl
  · exact go (.object RX2) rfl rfl
theorem sn_aastore (C : Cx p R s m args meth c own cc nL mn d base S b dC dI cA scr) (hd : decode cc pc = .ok (.aastore, 1)) {r n t ci v : Nat} {f : Nat → Option Nat} {fs : List Value} {i : Int32} (hg : hGet h r = some (.inl (t, n, .inr (.inr (.inr (.inr f)))))) (hgv : hGet h v = some (.inr (ci, fs))) (ht : (t = 3 ∧ ci = 4) ∨ (t = 4 ∧ ci = 2)) (hi : vp_in i n)
    (kk : Sn p l e R s m args below meth c Q nL base S b dC dI cA n0 z0 (pc + 1) L st (hSet h r (.inl (t, n, .inr (.inr (.inr (.inr (va_up f i.toNatClampNeg (some v))))))))) : Sn p l e R s m args below meth c Q nL base S b dC dI cA n0 z0 pc L (.ref v :: .int i :: .ref r :: st) h := by
  intro H locs ls hl hG hS
  obtain ⟨j, rfl⟩ := ge2 (tag_ge hg (by omega))
  obtain ⟨jv, rfl⟩ := ge2 (obj_ge hgv)
  have hg : h.2[j]? = some (.inl (t, n, .inr (.inr (.inr (.inr f))))) := hg
  have hgv : h.2[jv]? = some (.inr (ci, fs)) := hgv
  have hc : H[base + j]? = some (vp_cell (cA t) (n, .inr (.inr (.inr (.inr (fun q => (f q).map (adr base S b))))))) := hG.2 j (base + j, .inl (cA t, n, .inr (.inr (.inr (.inr (fun q => (f q).map (adr base S b))))))) (by rw [wsO_get, hg]; rfl)
  obtain ⟨r', hr', cellV, g1, g2, g3, -⟩ := hG.2 jv (base + jv, .inr (ci, fs.map (tv (adr base S b)))) (by rw [wsO_get, hgv]; rfl)
  obtain ⟨hx, hb, hml, hown, hts, hin, hR, hT, hF, hz⟩ := C
  have hlt : i.toNatClampNeg < n := Nat.not_le.mp fun q => hi (Or.inr q)
  have h0 : ¬ i < 0 := fun q => hi (Or.inl q)
  have go : ∀ q : vw_C, vwCl[ci]? = some q → (tysG cA)[t]? = some (cA t, .object q.1) → W p l e R s m args below meth c H locs (h.2.length - n0) (slotsOf h - z0) Q (F0 m pc ls (.ref (base + jv) :: .int i :: .ref (base + j) :: st.map (tv (adr base S b)))) := by
    intro q hq hty
    have hcls := (hT.1.1 ci q hq).2
    obtain ⟨kA, comp, k1, k2, k3, -⟩ := (hT.1.2 t _ hty).2
    have hcomp : comp = dC ci := Option.some.inj (k3.symm.trans hcls.1)
    subst hcomp
    obtain ⟨kC, hkC, -⟩ := hcls.2
    refine W.aast hx hb hc (fun q h => by cases h) (fun h => by cases h) k1 k2 rfl hkC ⟨h0, by show _ < (arrV _ _ _).slots.size; rw [arrV_size]; exact hlt⟩ g1 (fun q h => by rw [g3] at h; cases h) (by rw [g2]; exact hkC) (by rw [g2]; exact va_assign hcls) rfl rfl hd fun H1 e1 z oq => ?_
    have he : va_at (dC, dI) vwCl (base + j, tE (adr base S b) cA (.inl (t, n, .inr (.inr (.inr (.inr (va_up f i.toNatClampNeg (some (jv + 2))))))))) H1 := by
      show H1[base + j]? = some (vp_cell (cA t) (n, .inr (.inr (.inr (.inr (fun q => (va_up f i.toNatClampNeg (some (jv + 2)) q).map (adr base S b)))))))
      rw [e1, vp_cell_q, vp_cell_q, arrV_store]
      congr 2
      funext q
      by_cases hq : q = i.toNatClampNeg
      · subst hq
        simp [updV, va_up, va_rf, adr]
      · simp [updV, va_up, hq]
    obtain ⟨hG1, hS1⟩ := GH_set (k := i.toNatClampNeg) hG hS hg he z oq
    obtain ⟨s1, s2⟩ := sl_set (e1 := .inl (t, n, .inr (.inr (.inr (.inr (va_up f i.toNatClampNeg (some (jv + 2)))))))) hg rfl
    have := kk H1 _ ls hl hG1 hS1
    rw [s1, s2] at this
    exact this
  rcases ht with ⟨rfl, rfl⟩ | ⟨rfl, rfl⟩
  · exact go _ rfl rfl
  · exact go _ rfl rfl
end SR
