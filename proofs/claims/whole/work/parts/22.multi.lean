/-! ===== new int[n][m], out of the machine's own meaning of the instruction ===== -/
/-- the outer array when i of its rows are in -/
def ml_oc (c : ClassId) (N h0 i : Nat) : Cell := arrV c N (fun j => va_rf (if j < i then some (h0 + 1 + j) else none))
def ml_ic (c : ClassId) (K : Nat) : Cell := arrV c K (fun _ => .int 0)
theorem ml_oc0 (c : ClassId) (N h0 : Nat) : ({ cls := c, slots := Array.replicate N .null, vm := .none } : Cell) = ml_oc c N h0 0 := by
  rw [arrV_new]
  refine congrArg (arrV c N) (funext fun j => ?_)
  simp [va_rf]
theorem ml_ocS (c : ClassId) (N h0 i : Nat) : (ml_oc c N h0 i).setSlot i (.ref (h0 + 1 + i)) = ml_oc c N h0 (i + 1) := by
  unfold ml_oc
  rw [arrV_store]
  refine congrArg (arrV c N) (funext fun j => ?_)
  by_cases e : j = i
  · subst e
    simp [updV, va_rf]
  · by_cases h : j < i
    · simp [updV, e, h, Nat.lt_succ_of_lt h]
    · simp [updV, e, h, show ¬ j < i + 1 by omega]
theorem ml_ic0 (c : ClassId) (K : Nat) : ({ cls := c, slots := Array.replicate K (defaultValue .int), vm := .none } : Cell) = ml_ic c K := by
  rw [arrV_new]
  rfl
/-- the state when i rows are in -/
def ml_G (U : State) (cO cI : ClassId) (N K : Nat) : Nat → State
  | 0 => U.pushCell (ml_oc cO N U.heap.size 0)
  | i + 1 => ((ml_G U cO cI N K i).pushCell (ml_ic cI K)).setCell U.heap.size (ml_oc cO N U.heap.size (i + 1))
section MG
variable (U : State) (cO cI : ClassId) (N K : Nat)
theorem ml_Gsz : ∀ i : Nat, (ml_G U cO cI N K i).heap.size = U.heap.size + 1 + i
  | 0 => by simp [ml_G]
  | i + 1 => by
    show (((ml_G U cO cI N K i).heap.push _).setIfInBounds _ _).size = _
    rw [Array.size_setIfInBounds, Array.size_push, ml_Gsz i]
    omega
theorem ml_Go : ∀ i : Nat, (ml_G U cO cI N K i).heap[U.heap.size]? = some (ml_oc cO N U.heap.size i)
  | 0 => by
    show (U.heap.push _)[U.heap.size]? = _
    rw [Array.getElem?_push_size]
  | i + 1 => by
    show (((ml_G U cO cI N K i).heap.push _).setIfInBounds _ _)[U.heap.size]? = _
    rw [Array.getElem?_setIfInBounds, if_pos rfl, if_pos (by rw [Array.size_push, ml_Gsz]; omega)]
theorem ml_Gold (q : Nat) (hq : q < U.heap.size) : ∀ i : Nat, (ml_G U cO cI N K i).heap[q]? = U.heap[q]?
  | 0 => by
    show (U.heap.push _)[q]? = _
    rw [Array.getElem?_push, if_neg (by omega)]
  | i + 1 => by
    show (((ml_G U cO cI N K i).heap.push _).setIfInBounds _ _)[q]? = _
    rw [Array.getElem?_setIfInBounds, if_neg (by omega), Array.getElem?_push, if_neg (by rw [ml_Gsz]; omega), ml_Gold q hq i]
theorem ml_Grow (j : Nat) : ∀ i : Nat, j < i → (ml_G U cO cI N K i).heap[U.heap.size + 1 + j]? = some (ml_ic cI K)
  | 0, h => by omega
  | i + 1, h => by
    show (((ml_G U cO cI N K i).heap.push _).setIfInBounds _ _)[U.heap.size + 1 + j]? = _
    rw [Array.getElem?_setIfInBounds, if_neg (by omega), Array.getElem?_push]
    by_cases e : j = i
    · subst e
      rw [if_pos (by rw [ml_Gsz])]
    · rw [if_neg (by rw [ml_Gsz]; omega), ml_Grow j i (by omega)]
theorem ml_Gvm : ∀ i : Nat, (ml_G U cO cI N K i).vm = U.vm
  | 0 => rfl
  | i + 1 => by
    show (ml_G U cO cI N K i).vm = _
    exact ml_Gvm i
theorem ml_Gsl : ∀ i : Nat, (ml_G U cO cI N K i).slotsUsed = U.slotsUsed + N + i * K
  | 0 => by
    show U.slotsUsed + (ml_oc cO N U.heap.size 0).slots.size = _
    rw [ml_oc, arrV_size, Nat.zero_mul, Nat.add_zero]
  | i + 1 => by
    show (ml_G U cO cI N K i).slotsUsed + (ml_ic cI K).slots.size = _
    rw [ml_ic, arrV_size, ml_Gsl i, Nat.succ_mul]
    omega
theorem ml_Gtop : ∀ i : Nat, (ml_G U cO cI N K i).topJava? = U.topJava?
  | 0 => rfl
  | i + 1 => by
    show (ml_G U cO cI N K i).topJava? = _
    exact ml_Gtop i
theorem ml_Gt (f : JFrame) : ∀ i : Nat, ml_G (U.setTop f) cO cI N K i = (ml_G U cO cI N K i).setTop f
  | 0 => rfl
  | i + 1 => by
    show ((ml_G (U.setTop f) cO cI N K i).pushCell _).setCell _ _ = _
    rw [ml_Gt f i]
    rfl
end MG
section MW
variable {E : CtlPost} {e : Env}
/-- one row -/
theorem ml_wpin {d : Bool} {acts : List Action} {u : State} {Q : Addr → Pre} {c comp : ClassId} {k : Class} {y : Int32} (hk : u.vm.classes[c]? = some k) (hkind : k.kind = .array comp .int) (hy : ¬ y < 0) (hl : ¬ y.toNatClampNeg > e.platform.arrayLengthLimit) (hb : ¬ y.toNatClampNeg * componentBytes .int > e.platform.maxHeapBytes) (hc : u.heap.size < e.platform.maxCells) (hs : u.slotsUsed + y.toNatClampNeg ≤ e.platform.maxSlots)
    (hq : ∀ acts', Q u.heap.size d acts' (u.pushCell (ml_ic c y.toNatClampNeg))) : wp (Op.multianewarray.make c [y]) Q E e d acts u := by
  rw [Op.multianewarray.make]
  simp only [wp_bind', Jvm.W.ite, hy, if_false, wp_pure', Jvm.W.theClass, hk, Option.some.injEq, exists_eq_left', hkind]
  refine Jvm.W.newArray_of hk hkind hl hb hc hs rfl (fun acts' => ?_)
  have := hq acts'
  rw [← ml_ic0] at this
  exact this
/-- the loop over the rows -/
theorem ml_wplp {U : State} {cO cI comp : ClassId} {kO kI : Class} {N : Nat} {y : Int32} (hkO : U.vm.classes[cO]? = some kO) (hkindO : kO.kind = .array cI (.array .int)) (hkI : U.vm.classes[cI]? = some kI) (hkindI : kI.kind = .array comp .int) (hy : ¬ y < 0) (hl : ¬ y.toNatClampNeg > e.platform.arrayLengthLimit) (hb : ¬ y.toNatClampNeg * componentBytes .int > e.platform.maxHeapBytes) (hc : U.heap.size + (1 + N) ≤ e.platform.maxCells) (hs : U.slotsUsed + (N + N * y.toNatClampNeg) ≤ e.platform.maxSlots)
    {f : Nat → PUnit → Sem (ForInStep PUnit)} (hf : ∀ i u, f i u = (do let a ← Op.multianewarray.make cI [y]; Jvm.writeLoc U.heap.size i (.ref a); Pure.pure (ForInStep.yield PUnit.unit))) {Q : PUnit → Pre} (hq : ∀ d acts, Q PUnit.unit d acts (ml_G U cO cI N y.toNatClampNeg N)) :
    ∀ (j i : Nat) (d : Bool) (acts : List Action), i + j = N → wp (forIn (List.range' i j 1) PUnit.unit f) Q E e d acts (ml_G U cO cI N y.toNatClampNeg i)
  | 0, i, d, acts, h => by
    obtain rfl : i = N := by omega
    simp only [List.range'_zero, List.forIn_nil, wp_pure']
    exact hq d acts
  | j + 1, i, d, acts, h => by
    have hmul : (i + 1) * y.toNatClampNeg ≤ N * y.toNatClampNeg := Nat.mul_le_mul_right _ (by omega)
    rw [Nat.succ_mul] at hmul
    rw [List.range'_succ]
    simp only [List.forIn_cons, hf, wp_bind']
    refine ml_wpin (k := kI) (comp := comp) (by rw [ml_Gvm]; exact hkI) hkindI hy hl hb (by rw [ml_Gsz]; omega) (by rw [ml_Gsl]; omega) (fun acts' => ?_)
    simp only [wp_bind', Jvm.W.writeLoc, wp_pure']
    refine ⟨ml_oc cO N U.heap.size i, ?_, (fun hh => by cases hh), by rw [ml_oc, arrV_size]; omega, ?_, ?_⟩
    · show ((ml_G U cO cI N y.toNatClampNeg i).heap.push _)[U.heap.size]? = _
      rw [Array.getElem?_push, if_neg (by rw [ml_Gsz]; omega)]
      exact ml_Go U cO cI N _ i
    · have hv : (ml_G U cO cI N y.toNatClampNeg i).vm.classes[cO]? = some kO := by
        rw [ml_Gvm]
        exact hkO
      have hc1 : (ml_oc cO N U.heap.size i).cls = cO := rfl
      have hc2 : (ml_oc cO N U.heap.size i).vm = .none := rfl
      simp [State.fitsSlot, State.slotType?, hc1, hc2, hv, hkindO, fits]
    · rw [show (ml_G U cO cI N y.toNatClampNeg i).heap.size = U.heap.size + 1 + i from ml_Gsz U cO cI N _ i, ml_ocS]
      exact ml_wplp hkO hkindO hkI hkindI hy hl hb hc hs hf hq j (i + 1) _ _ (by omega)
end MW
section MS
variable {E : CtlPost} {e : Env}
/-- the whole array -/
theorem ml_wpmk {d : Bool} {acts : List Action} {U : State} {Q : Addr → Pre} {cO cI comp : ClassId} {kO kI : Class} {x y : Int32} (hkO : U.vm.classes[cO]? = some kO) (hkindO : kO.kind = .array cI (.array .int)) (hkI : U.vm.classes[cI]? = some kI) (hkindI : kI.kind = .array comp .int) (hx : ¬ x < 0) (hy : ¬ y < 0) (hlx : ¬ x.toNatClampNeg > e.platform.arrayLengthLimit) (hbx : ¬ x.toNatClampNeg * componentBytes (.array .int) > e.platform.maxHeapBytes) (hl : ¬ y.toNatClampNeg > e.platform.arrayLengthLimit) (hb : ¬ y.toNatClampNeg * componentBytes .int > e.platform.maxHeapBytes) (hc : U.heap.size + (1 + x.toNatClampNeg) ≤ e.platform.maxCells) (hs : U.slotsUsed + (x.toNatClampNeg + x.toNatClampNeg * y.toNatClampNeg) ≤ e.platform.maxSlots)
    (hq : ∀ d acts', Q U.heap.size d acts' (ml_G U cO cI x.toNatClampNeg y.toNatClampNeg x.toNatClampNeg)) : wp (Op.multianewarray.make cO [x, y]) Q E e d acts U := by
  have hfind : List.find? (fun z : Int32 => decide (z < 0)) [y] = none := by simp [hy]
  rw [Op.multianewarray.make]
  simp only [wp_bind', Jvm.W.ite, hx, if_false, wp_pure', Jvm.W.theClass, hkO, Option.some.injEq, exists_eq_left', hkindO]
  refine Jvm.W.newArray_of hkO hkindO hlx hbx (by omega) (by omega) rfl (fun acts' => ?_)
  have key : ∀ d acts, wp (forIn (List.range' 0 x.toNatClampNeg 1) PUnit.unit (fun (i : Nat) (_ : PUnit) => (do let a ← Op.multianewarray.make cI [y]; Jvm.writeLoc U.heap.size i (.ref a); Pure.pure (ForInStep.yield PUnit.unit) : Sem (ForInStep PUnit)))) (fun _ d acts s => Q U.heap.size d acts s) E e d acts (ml_G U cO cI x.toNatClampNeg y.toNatClampNeg 0) := fun d acts =>
    ml_wplp hkO hkindO hkI hkindI hy hl hb hc hs (fun _ _ => rfl) (fun d acts => hq d acts) x.toNatClampNeg 0 d acts (Nat.zero_add _)
  have e0 : U.pushCell ({ cls := cO, slots := Array.replicate x.toNatClampNeg .null, vm := .none } : Cell) = ml_G U cO cI x.toNatClampNeg y.toNatClampNeg 0 := by
    rw [ml_oc0 cO x.toNatClampNeg U.heap.size]
    rfl
  rw [e0]
  simp only [hfind, Std.Legacy.Range.forIn_eq_forIn_range', Std.Legacy.Range.size, Nat.sub_zero, Nat.add_sub_cancel, Nat.div_one]
  by_cases h0 : (x == 0) = true
  · rw [if_pos h0]
    simp only [wp_bind', wp_pure']
    exact key _ _
  · rw [if_neg h0]
    simp only [wp_bind', wp_pure']
    exact key _ _
/-- the instruction -/
theorem ml_wp {d : Bool} {acts : List Action} {U : State} {g : JFrame} {index : Nat} {rest : List Value} {Q : Unit → Pre} {cO cI comp : ClassId} {kO kI : Class} {x y : Int32} (ht : U.topJava?.isSome) (hr : U.vm.classReady g.method.cls index cO) (hstack : g.stack = .int y :: .int x :: rest) (hkO : U.vm.classes[cO]? = some kO) (hkindO : kO.kind = .array cI (.array .int)) (hkI : U.vm.classes[cI]? = some kI) (hkindI : kI.kind = .array comp .int) (hx : ¬ x < 0) (hy : ¬ y < 0) (hlx : ¬ x.toNatClampNeg > e.platform.arrayLengthLimit) (hbx : ¬ x.toNatClampNeg * componentBytes (.array .int) > e.platform.maxHeapBytes) (hl : ¬ y.toNatClampNeg > e.platform.arrayLengthLimit) (hb : ¬ y.toNatClampNeg * componentBytes .int > e.platform.maxHeapBytes) (hc : U.heap.size + (1 + x.toNatClampNeg) ≤ e.platform.maxCells) (hs : U.slotsUsed + (x.toNatClampNeg + x.toNatClampNeg * y.toNatClampNeg) ≤ e.platform.maxSlots)
    (hq : ∀ acts', Q () true acts' ((ml_G U cO cI x.toNatClampNeg y.toNatClampNeg x.toNatClampNeg).setTop { g with stack := .ref U.heap.size :: rest })) : wp (Op.multianewarray.sem index 2) Q E e d acts (U.setTop g) := by
  simp only [Op.multianewarray.sem, wp_bind', Jvm.W.resolveClassAt_ready (State.method?_setTop g ht) hr]
  have hp := fun (Q' : List Value → Pre) => (Op.popN_top (E := E) (e := e) (d := d) (acts := acts) (Q := Q') (args := [Value.int x, .int y]) (rest := rest) ht (f := g) (by rw [hstack]; rfl))
  rw [show (2 : Nat) = ([Value.int x, .int y] : List Value).length from rfl, hp]
  simp only [List.mapM_cons, List.mapM_nil, wp_bind', wp_pure']
  refine ml_wpmk (U := U.setTop { g with stack := rest }) (kO := kO) (kI := kI) (comp := comp) hkO hkindO hkI hkindI hx hy hlx hbx hl hb hc hs (fun d1 acts1 => ?_)
  simp only [wp_bind', Jvm.W.mark, Jvm.W.pushRef]
  rw [ml_Gt]
  exact ⟨_, State.topJava?_setTop' _ (by rw [ml_Gtop]; exact ht), by rw [State.setTop_setTop]; exact hq _⟩
end MS
section ML
variable {p : Program} {l : Launch} {e : Env} {R : Room} {s : State} {m : MethodId} {args : Array Value} {below : List Frame} {meth : Method} {c : Code} {Q : State → Prop} {own : String} {cc : ByteArray} {nL : Nat} {mn : String} {d base S b : Nat} {dC : Nat → ClassId} {dI : Nat → Nat → Nat} {cA : Nat → ClassId} {scr : Nat × (Nat → Int32)} {n0 z0 : Nat}
/-- where the rows are stored -/
def ml_lc (h0 N : Nat) : List Loc := (List.range N).map (fun j => (⟨h0, j⟩ : Loc))
theorem ml_X {U : State} {locs : List Loc} {cells slots : Nat} (X : Stand p l e R s m args below meth c U locs cells slots) (cO cI : ClassId) (N K : Nat) : ∀ i : Nat, Stand p l e R s m args below meth c (ml_G U cO cI N K i) (locs ++ ml_lc U.heap.size i) (cells + 1 + i) (slots + N + i * K)
  | 0 => by
    have h := X.pushed (ml_oc cO N U.heap.size 0)
    rw [show (ml_oc cO N U.heap.size 0).slots.size = N from arrV_size _ _ _] at h
    rw [show ml_lc U.heap.size 0 = [] from rfl, List.append_nil, Nat.zero_mul]
    exact h
  | i + 1 => by
    have h := (ml_X X cO cI N K i).pushed (ml_ic cI K)
    rw [show (ml_ic cI K).slots.size = K from arrV_size _ _ _] at h
    have h2 := h.stored (a := U.heap.size) (cell := ml_oc cO N U.heap.size i) (by
      show ((ml_G U cO cI N K i).heap.push _)[U.heap.size]? = _
      rw [Array.getElem?_push, if_neg (by rw [ml_Gsz]; omega)]
      exact ml_Go U cO cI N K i) i (.ref (U.heap.size + 1 + i))
    rw [ml_ocS] at h2
    rw [show ml_lc U.heap.size (i + 1) = ml_lc U.heap.size i ++ [⟨U.heap.size, i⟩] by simp [ml_lc, List.range_succ], ← List.append_assoc, Nat.succ_mul, ← Nat.add_assoc, ← Nat.add_assoc]
    exact h2
theorem ml_over {A : Array Value} {u : State} (h : (Cond.arrayOver (.array .int)).before A u = true) : ∃ comp cO kO, u.vm.findClass (FieldType.array .int).toString = some comp ∧ u.vm.classes[cO]? = some kO ∧ kO.kind = .array comp (.array .int) ∧ u.vm.findClass ("[" ++ (FieldType.array .int).toString) = some cO := by
  simp only [Cond.before, Cond.holds, Cond.value, beq_iff_eq] at h
  generalize hn : (FieldType.array .int).toString = nm at h ⊢
  cases hc : u.vm.findClass nm with
  | none => simp [hc] at h
  | some comp =>
    simp only [hc, Option.bind_some, Option.bind_eq_some_iff, Option.map_eq_some_iff] at h
    obtain ⟨cO, hi, k, hk, hb⟩ := h
    obtain ⟨hlt, hp, -⟩ := Array.findIdx?_eq_some_iff_getElem.mp hi
    have hkk : u.vm.classes[cO] = k := (Array.getElem?_eq_some_iff.mp hk).2
    rw [hkk] at hp
    cases hkind : k.kind with
    | array component ty =>
      rw [hkind] at hb hp
      simp at hb hp
      exact ⟨comp, cO, k, rfl, hk, by rw [hkind, hp, hb.1], hb.2⟩
    | _ => rw [hkind] at hb; simp at hb
theorem ml_step {T : State} {locs : List Loc} {cells slots : Nat} (X : Stand p l e R s m args below meth c T locs cells slots) (hexec : p.tables.exec = Jvm.exec) {index : Nat} (hown : s.vm.findClass own = some m.cls) (hclink : (Cond.classLink own index ("[" ++ (FieldType.array .int).toString)).before args s = true) (hover : (Cond.arrayOver (.array .int)).before args s = true) (harr : (Cond.arrayClass .int).before args s = true)
    {g : JFrame} (hg : g.method = m) (hdg : decode c.code g.pc = .ok (.multianewarray index 2, 4)) {x y : Int32} {rest : List Value} (hstack : g.stack = .int y :: .int x :: rest) (hx : ¬ x < 0) (hy : ¬ y < 0) (hbx : x.toNatClampNeg * 4 ≤ 536870912) (hby : y.toNatClampNeg * 4 ≤ 536870912) (hcells : cells + (1 + x.toNatClampNeg) ≤ R.cells) (hslots : slots + (x.toNatClampNeg + x.toNatClampNeg * y.toNatClampNeg) ≤ R.slots) :
    ∃ (vm₁ : Vm) (cO cI : ClassId), s.vm.findClass ("[" ++ (FieldType.array .int).toString) = some cO ∧ s.vm.findClass ("[" ++ FieldType.int.toString) = some cI ∧
      Stand p l e R s m args below meth c (ml_G (T.setVm vm₁) cO cI x.toNatClampNeg y.toNatClampNeg x.toNatClampNeg) (locs ++ ml_lc T.heap.size x.toNatClampNeg) (cells + 1 + x.toNatClampNeg) (slots + x.toNatClampNeg + x.toNatClampNeg * y.toNatClampNeg) ∧
      ∀ target, Steps p.tables e below ((ml_G (T.setVm vm₁) cO cI x.toNatClampNeg y.toNatClampNeg x.toNatClampNeg).setTop { g with pc := g.pc + 4, stack := .ref T.heap.size :: rest }) target → Steps p.tables e below (T.setTop g) target := by
  subst hg
  have hpl : e.platform.magicAccessors = ({} : Platform).magicAccessors := by rw [X.admits.platform]
  obtain ⟨cI, cO, kO, hfI, hkO, hkindO, hfO⟩ := ml_over hover
  obtain ⟨cI', kI, comp, hfI', hkI, hkindI⟩ := Cond.arrayClass_spec harr
  have hnm : "[" ++ FieldType.int.toString = (FieldType.array .int).toString := by decide +kernel
  rw [hnm] at hfI'
  cases hfI.symm.trans hfI'
  obtain ⟨c1, hf1, hcl⟩ := Cond.classLink_spec hown hclink e.platform hpl
  cases hfO.symm.trans hf1
  obtain ⟨hg₁, hwarm₁, hready₁⟩ := State.classEntry (e := e) X.warmed hcl
  generalize T.vm.noted g.method.cls index (.cls cO) = vm₁ at hg₁ hwarm₁ hready₁
  have hal : s.vm.Alike vm₁ := hwarm₁.alike
  obtain ⟨kO₁, hkO₁, heO⟩ := hal.2.2 _ _ hkO
  obtain ⟨kI₁, hkI₁, heI⟩ := hal.2.2 _ _ hkI
  have hkindO₁ : kO₁.kind = .array cI (.array .int) := by rw [heO]; exact hkindO
  have hkindI₁ : kI₁.kind = .array comp .int := by rw [heI]; exact hkindI
  obtain ⟨hr1, hr2⟩ := X.roomAbove hcells hslots
  refine ⟨vm₁, cO, cI, hfO, by rw [hnm]; exact hfI, ml_X (X.noted hwarm₁) cO cI _ _ _, fun target hrest => ?_⟩
  refine Steps.instr (c := c) X.here ?_
  rw [hdg]
  show wpRun (p.tables.exec (.multianewarray index 2)) _ _ e (T.setTop g)
  rw [hexec]
  show wp (Op.multianewarray.sem index 2) _ _ e false [] (T.setTop g)
  have hcold : ∀ (Q' : Unit → Pre) (E' : CtlPost), wp (Op.multianewarray.sem index 2) Q' E' e false [] ((T.setVm vm₁).setTop g) → wp (Op.multianewarray.sem index 2) Q' E' e false [] (T.setTop g) := by
    intro Q' E' hw
    simp only [Op.multianewarray.sem, wp_bind'] at hw ⊢
    exact (Jvm.W.resolveClassAt_transfer (s := T.setTop g) (State.method?_setTop g X.here.top) hg₁ hready₁ (Vm.Alike.size_le (X.warmed.alike.symm.trans hal))).mpr hw
  refine hcold _ _ ?_
  refine ml_wp (U := T.setVm vm₁) (kO := kO₁) (kI := kI₁) (comp := comp) X.here.top hready₁ hstack hkO₁ hkindO₁ hkI₁ hkindI₁ hx hy (by rw [Launch.admits_arrayLengthLimit X.admits]; omega) (by rw [Launch.admits_maxHeapBytes X.admits]; show ¬ x.toNatClampNeg * 4 > 536870912; omega) (by rw [Launch.admits_arrayLengthLimit X.admits]; omega) (by rw [Launch.admits_maxHeapBytes X.admits]; show ¬ y.toNatClampNeg * 4 > 536870912; omega) hr1 hr2 (fun acts' acts'' => ?_)
  rw [afterInstr_ok]
  exact hrest
theorem ml_len (h : Hp) (n k : Nat) : (hNew h (mkMulti h n k)).2.length = h.2.length + 1 + n ∧ slotsOf (hNew h (mkMulti h n k)) = slotsOf h + n + n * k := by
  refine ⟨by simp [hNew, mkMulti]; omega, ?_⟩
  show ((h.2 ++ mkMulti h n k).map csz).sum = _
  simp [mkMulti, csz, slotsOf, List.map_replicate, List.sum_replicate_nat]
  omega
theorem sn_multi (C : Cx p R s m args meth c own cc nL mn d base S b dC dI cA scr) (i pc : Nat) (L st : List Value) (h : Hp) (x y : Int32) (hd : decode cc pc = .ok (.multianewarray i 2, 4)) (hw : Cond.classLink own i "[[I" ∈ tblG) (hx0 : 0 ≤ x) (hy0 : 0 ≤ y) (hx1 : x.toNatClampNeg ≤ 10000) (hy1 : y.toNatClampNeg ≤ 10000) (hz1 : n0 ≤ h.2.length ∧ z0 ≤ slotsOf h) (hlim : (hNew h (mkMulti h x.toNatClampNeg y.toNatClampNeg)).2.length - n0 ≤ R.cells ∧ slotsOf (hNew h (mkMulti h x.toNatClampNeg y.toNatClampNeg)) - z0 ≤ R.slots)
    (kk : Sn p l e R s m args below meth c Q nL base S b dC dI cA n0 z0 (pc + 4) L (.ref (h.2.length + 2) :: st) (hNew h (mkMulti h x.toNatClampNeg y.toNatClampNeg))) : Sn p l e R s m args below meth c Q nL base S b dC dI cA n0 z0 pc L (.int y :: .int x :: st) h := by
  intro H locs ls hl hG hS
  obtain ⟨hx, hb, hml, hown, hts, hin, hR, hT, hF, hz⟩ := C
  obtain ⟨s1, s2⟩ := ml_len h x.toNatClampNeg y.toNatClampNeg
  rw [s1, s2] at hlim
  have hnm : "[[I" = "[" ++ (FieldType.array .int).toString := by decide +kernel
  rw [hnm] at hw
  intro T hT2 Xs
  subst hT2
  obtain ⟨vm₁, cA', comp, fA, fC, X', step⟩ := ml_step Xs hx hown (hts _ hw) hT.2.2.2.2 (hts _ w_aI) (g := F0 m pc ls ((Value.int y :: .int x :: st).map (tv (adr base S b)))) rfl (by rw [hb]; exact hd) rfl (Int32.not_lt.mpr hx0) (Int32.not_lt.mpr hy0) (by omega) (by omega) (by omega) (by omega)
  have eA : cA' = cA 2 := Option.some.inj (fA.symm.trans (hT.1.2 2 (cA 2, .array .int) rfl).2)
  have eC : comp = cA 0 := Option.some.inj (fC.symm.trans (hT.1.2 0 (cA 0, .int) rfl).2)
  subst eA
  subst eC
  generalize hN : x.toNatClampNeg = N at *
  generalize hK : y.toNatClampNeg = K at *
  have f1 := ml_Gsz (T.setVm vm₁) (cA 2) (cA 0) N K N
  have f2 := ml_Go (T.setVm vm₁) (cA 2) (cA 0) N K N
  have hold0 := fun (q : Nat) (hq : q < (T.setVm vm₁).heap.size) => ml_Gold (T.setVm vm₁) (cA 2) (cA 0) N K q hq N
  have hrow0 := fun (j : Nat) (hj : j < N) => ml_Grow (T.setVm vm₁) (cA 2) (cA 0) N K j N hj
  generalize hFg : ml_G (T.setVm vm₁) (cA 2) (cA 0) N K N = F at *
  have hTh : (T.setVm vm₁).heap = T.heap := rfl
  rw [hTh] at f1 f2
  have hold : ∀ q : Nat, q < T.heap.size → F.heap[q]? = T.heap[q]? := hold0
  have hrow : ∀ j : Nat, j < N → F.heap[T.heap.size + 1 + j]? = some (vp_cell (cA 0) (K, .inl (fun _ => 0))) := hrow0
  have hG1 : GH base S b dC dI cA (hNew h (mkMulti h N K)) F.heap := by
    refine ⟨by rw [f1, s1, hG.1]; omega, fun k q hq => ?_⟩
    rw [wsO_get] at hq
    obtain ⟨ce, hce, rfl⟩ := Option.map_eq_some_iff.mp hq
    have hce : (h.2 ++ mkMulti h N K)[k]? = some ce := hce
    rcases Nat.lt_or_ge k h.2.length with g | g
    · rw [List.getElem?_append_left g] at hce
      have h0 : (wsO base (adr base S b) cA h.2)[k]? = some (base + k, tE (adr base S b) cA ce) := by rw [wsO_get, hce]; rfl
      exact (hG.2 k _ h0).kept (hold _ ((hG.2 k _ h0).lt))
    · rw [List.getElem?_append_right g] at hce
      rcases Nat.eq_or_lt_of_le g with g1 | g1
      · rw [← g1, Nat.sub_self] at hce
        cases hce
        rw [← g1, ← hG.1]
        show F.heap[T.heap.size]? = some (vp_cell (cA 2) (N, .inr (.inr (.inr (.inr (fun q => (if q < N then some (h.2.length + 2 + 1 + q) else none).map (adr base S b)))))))
        rw [f2, ml_oc, vp_cell_q]
        refine congrArg some (congrArg (arrV (cA 2) N) (funext fun j => ?_))
        by_cases hj : j < N
        · rw [if_pos hj, if_pos hj]
          show va_rf (some _) = va_rf (some (adr base S b (h.2.length + 2 + 1 + j)))
          rw [show h.2.length + 2 + 1 + j = (h.2.length + 1 + j) + 2 by omega, hG.1]
          show va_rf (some _) = va_rf (some (base + (h.2.length + 1 + j)))
          rw [show base + h.2.length + 1 + j = base + (h.2.length + 1 + j) by omega]
        · rw [if_neg hj, if_neg hj]
          rfl
      · obtain ⟨j, rfl⟩ : ∃ j, k = h.2.length + 1 + j := ⟨k - h.2.length - 1, by omega⟩
        rw [show h.2.length + 1 + j - h.2.length = j + 1 by omega, mkMulti, List.getElem?_cons_succ] at hce
        rw [List.getElem?_replicate] at hce
        obtain ⟨hj, hce⟩ := if_inv hce
        cases hce
        show F.heap[base + (h.2.length + 1 + j)]? = some (vp_cell (cA 0) (K, .inl (fun _ => 0)))
        rw [show base + (h.2.length + 1 + j) = T.heap.size + 1 + j by rw [hG.1]; omega]
        exact hrow j hj
  have hS1 : va_S (AB base) s.heap F.heap (locs ++ ml_lc T.heap.size N) := by
    refine ⟨by rw [f1]; have := hS.1; omega, fun q g1 g2 => (hold q (Nat.lt_of_lt_of_le g1 hS.1)).trans (hS.2.1 q g1 g2), fun q hq => ?_⟩
    rcases List.mem_append.mp hq with g | g
    · exact hS.2.2 q g
    · obtain ⟨j, -, rfl⟩ := List.mem_map.mp g
      show base ≤ T.heap.size
      rw [hG.1]
      omega
  have key := kk F.heap (locs ++ ml_lc T.heap.size N) ls hl hG1 hS1
  rw [s1, s2, List.map_cons, show tv (adr base S b) (.ref (h.2.length + 2)) = .ref T.heap.size by rw [hG.1]; rfl] at key
  obtain ⟨t, a1, b1⟩ := key F rfl (by
    rw [show h.2.length + 1 + N - n0 = h.2.length - n0 + 1 + N by omega, show slotsOf h + N + N * K - z0 = slotsOf h - z0 + N + N * K by omega]
    exact X')
  exact ⟨t, step t a1, b1⟩
end ML
