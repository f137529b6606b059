/-! ===== the law's entry: the world, and the walk out of the abstract machine's answer ===== -/
theorem tab_int {args : Array Value} {s : State} {ty : FieldType} (hne : ∀ C, ty ≠ .object C) (h : (Cond.arrayClass ty).before args s = true) : ∃ cA : ClassId, ArrOfT s cA ty ∧ va_RA s cA ty := by
  obtain ⟨cA, kA, comp, hfind, hk, hkind⟩ := Cond.arrayClass_spec h
  refine ⟨cA, fun n z => ⟨(fun k h => by cases h), kA, hk, comp, hkind⟩, ?_⟩
  cases ty <;> first | exact hfind | exact absurd rfl (hne _)
theorem tab_obj {s : State} {C : String} (h : va_AO C s) : ∃ cA : ClassId, ArrOfT s cA (.object C) ∧ va_RA s cA (.object C) := by
  obtain ⟨comp, c, k, h1, h2, h3, h4, h5⟩ := Cond.arrayOver_spec h
  exact ⟨c, fun n z => ⟨fun k h => (by cases h), k, h3, comp, h4⟩, k, comp, h3, h4, h1, h5⟩
theorem tab_arr {s : State} (h : aoI s) : ∃ cA : ClassId, ArrOfT s cA (.array .int) ∧ va_RA s cA (.array .int) := by
  obtain ⟨comp, c, k, h1, h2, h3, h4, h5⟩ := arrayOverA_spec h
  exact ⟨c, fun n z => ⟨fun k h => (by cases h), k, h3, comp, h4⟩, h5⟩
theorem tbl_sub {w : Cond} (h : w ∈ tblG) : w ∈ lw_tbl := (List.mem_filter.mp h).1
theorem kn_all {s : State} {args : Array Value} (hts : ∀ w ∈ lw_tbl, w.before args s = true) : ∃ (dC : Nat → ClassId) (dI : Nat → Nat → Nat), ∀ (k : Nat) (q : vw_C), vwCl[k]? = some q → u_Kn s q.1 q.2.1 q.2.2 (dC k) (dI k) := by
  have h : ∀ k : Nat, ∃ (cC : ClassId) (iS : Nat → Nat), ∀ q : vw_C, vwCl[k]? = some q → u_Kn s q.1 q.2.1 q.2.2 cC iS := by
    intro k
    cases hk : vwCl[k]? with
    | none => exact ⟨0, fun _ => 0, fun q hq => by cases hq⟩
    | some q =>
      obtain ⟨C, T, N⟩ := q
      obtain ⟨w1, -, -⟩ := cl_inst hk
      obtain ⟨cC, iS, h1⟩ := u_known (C := C) (T := T) (N := N) (n := N) hts (fun w hw => tbl_sub (cl_ws hk w hw)) (hts _ (tbl_sub w1))
      exact ⟨cC, iS, fun q hq => by cases hq; exact h1⟩
  exact ⟨fun k => Classical.choose (h k), fun k => Classical.choose (Classical.choose_spec (h k)), fun k q hq => Classical.choose_spec (Classical.choose_spec (h k)) q hq⟩
theorem tbl_int {s : State} {args : Array Value} (hts : ∀ w ∈ lw_tbl, w.before args s = true) : ∃ (dC : Nat → ClassId) (dI : Nat → Nat → Nat) (cA : Nat → ClassId), GT dC dI cA s := by
  obtain ⟨dC, dI, hk⟩ := kn_all hts
  have hP : va_AO RX4 s := va_AO.of (hts _ w_oP)
  have hC : va_AO RX2 s := va_AO.of (hts _ w_oC)
  have hI : aoI s := hts _ w_oI
  obtain ⟨c0, a0⟩ := tab_int (ty := .int) (fun _ => by simp) (hts _ (tbl_sub w_aI))
  obtain ⟨c1, a1⟩ := tab_int (ty := .boolean) (fun _ => by simp) (hts _ (tbl_sub w_aZ))
  obtain ⟨c2, a2⟩ := tab_arr hI
  obtain ⟨c3, a3⟩ := tab_obj hP
  obtain ⟨c4, a4⟩ := tab_obj hC
  refine ⟨dC, dI, fun t => if t = 0 then c0 else if t = 1 then c1 else if t = 2 then c2 else if t = 3 then c3 else c4, ⟨hk, fun k q hq => ?_⟩, fun w hw => ?_, hP, hC, hI⟩
  · match k, hq with
    | 0, hq => cases hq; exact a0
    | 1, hq => cases hq; exact a1
    | 2, hq => cases hq; exact a2
    | 3, hq => cases hq; exact a3
    | 4, hq => cases hq; exact a4
    | k + 5, hq => simp [tysG] at hq
  · have := List.mem_filter.mp hw
    exact va_Nw.of (nest_tab this.2) (hts _ this.1)
set_option maxRecDepth 20000 in
theorem too_at {s : State} {b : Nat} (hts : ∀ w ∈ lw_tbl, w.before #[Value.ref b] s = true) (hgv : (Jvm.Cond.and given_1 narrow_1).before #[Value.ref b] s = true) : ∃ S : Nat, S < s.heap.size ∧ va_T .int S 6 (fun j => .int (isToo j)) (AB s.heap.size) s s.heap ∧ va_Z "SpentWeeks" "IS_TOO" "[I" (.ref S) (AB s.heap.size) s s.heap := by
  have hs := flat_of_before _ hgv
  have hA : ∀ a : Nat, a < s.heap.size → ¬ AB s.heap.size a := fun a h => Nat.not_le.mpr h
  have harr : (Cond.arrayOf (.static "SpentWeeks" "IS_TOO" "[I") .int).before #[Value.ref b] s = true := hs _ (by decide +kernel)
  have hlen := va_eqt (s := s) (args := #[Value.ref b]) (t := Term.length (.static "SpentWeeks" "IS_TOO" "[I")) (z := 6) (hs _ (by decide +kernel))
  have e0 := va_eqt (s := s) (args := #[Value.ref b]) (t := Term.elem (.static "SpentWeeks" "IS_TOO" "[I") (.int 0)) (z := 1) (hs _ (by decide +kernel))
  have e1 := va_eqt (s := s) (args := #[Value.ref b]) (t := Term.elem (.static "SpentWeeks" "IS_TOO" "[I") (.int 1)) (z := 3) (hs _ (by decide +kernel))
  have e2 := va_eqt (s := s) (args := #[Value.ref b]) (t := Term.elem (.static "SpentWeeks" "IS_TOO" "[I") (.int 2)) (z := 7) (hs _ (by decide +kernel))
  have e3 := va_eqt (s := s) (args := #[Value.ref b]) (t := Term.elem (.static "SpentWeeks" "IS_TOO" "[I") (.int 3)) (z := 11) (hs _ (by decide +kernel))
  have e4 := va_eqt (s := s) (args := #[Value.ref b]) (t := Term.elem (.static "SpentWeeks" "IS_TOO" "[I") (.int 4)) (z := 17) (hs _ (by decide +kernel))
  have e5 := va_eqt (s := s) (args := #[Value.ref b]) (t := Term.elem (.static "SpentWeeks" "IS_TOO" "[I") (.int 5)) (z := 49) (hs _ (by decide +kernel))
  obtain ⟨S, h1, h2⟩ := va_Tof (s := s) (args := #[Value.ref b]) (tm := .static "SpentWeeks" "IS_TOO" "[I") (ty := .int) (N := 6) (f := fun j => .int (isToo j)) (A := AB s.heap.size) (by decide) harr hlen (fun j hj => by
    match j, hj with
    | 0, _ => exact e0
    | 1, _ => exact e1
    | 2, _ => exact e2
    | 3, _ => exact e3
    | 4, _ => exact e4
    | 5, _ => exact e5) hA
  have hS : S < s.heap.size := by
    obtain ⟨cell, g1, -⟩ := h2
    exact (Array.getElem?_eq_some_iff.mp g1).1
  exact ⟨S, hS, h2, va_Zref (hts _ w_ls) (hts _ (tbl_sub w_iW)) h1 hA⟩
/-- if the abstract machine answers 1, the law ends with true -/
theorem law_sound {p : Program} {e : Env} {s : State} {m : MethodId} {below : List Frame} {meth : Method} {c : Code} (l : Launch) {b L : Nat} {xs : Nat → Int32} (C0 : lw_At p s m meth c b L xs) {h9 : Hp} (hev : EvI (EvM 40) CL 2 0 [.ref 1, jk, jk, jk] [] ((L, xs), []) = some (1, h9)) (hz1 : h9.2.length ≤ 600000) (hz2 : slotsOf h9 ≤ 7302250) :
    W p l e room_1 s m #[Value.ref b] below meth c s.heap [] 0 0 (lw_Z below #[Value.ref b] s) (entryFrame m ([Value.ref b] : List Value).toArray 4) := by
  obtain ⟨hx, hb, hr, hml, hown, hts, hX, hbl, hlocks, hgv⟩ := C0
  obtain ⟨dC, dI, cA, hT⟩ := tbl_int hts
  obtain ⟨S, hS, hTS, hZ⟩ := too_at hts hgv
  obtain ⟨n, hn⟩ := EvI_inv hev
  have C : Cx p room_1 s m #[Value.ref b] meth c "SpentWeeksLaw" code 4 "law" 40 s.heap.size S b dC dI cA (L, xs) :=
    ⟨hx, hb, hml, hown, fun w hw => hts w (tbl_sub hw), fun q => absurd q (by decide), ⟨by decide, by decide⟩, hT, ⟨hTS, hX, hZ, hS, hbl⟩, Nat.le_refl _⟩
  have key := run_sound (l := l) (e := e) (below := below) (Q := lw_Z below #[Value.ref b] s) (n0 := 0) (z0 := 0) (rk := 2) (r := 1) (h9 := h9) C (snd_all l s.heap.size S b dC dI cA (L, xs) 40) ckL c2L ⟨by show h9.2.length - 0 ≤ 600000; omega, by show slotsOf h9 - 0 ≤ 7302250; omega⟩
    (fun pc Lc hd hok H locs ls hl hG hSx => va_forget (fun q hq => hSx.2.2 q hq) (W.widen (k := 600000) (n := 7302250) (by omega) (by omega) (lw_ret hx hb hr hlocks hd)))
    (fun pc Lc hd h0 => by cases h0)
    n 0 _ [] ((L, xs), []) hn rfl ⟨Nat.zero_le _, Nat.zero_le _⟩ s.heap [] _ (lsR_ent (adr s.heap.size S b) [.ref 1] 4 (by decide)) ⟨by simp, fun k q h => by simp [wsO] at h⟩ va_S.rf
  rw [lg_entry_eq]
  exact W.cs rfl rfl key
