def tysG (cA : Nat → ClassId) : List (ClassId × FieldType) := [(cA 0, .int), (cA 1, .boolean), (cA 2, .array .int), (cA 3, .object RX4), (cA 4, .object RX2)]
abbrev AB (base : Nat) : Nat → Prop := fun q => base ≤ q
def aoI (U : State) : Prop := (Cond.arrayOver (.array .int)).before #[] U = true
theorem aoI_moved {u U : State} (hvm : u.vm.Alike U.vm) (h : aoI u) : aoI U := over_moved hvm h
def GT (dC : Nat → ClassId) (dI : Nat → Nat → Nat) (cA : Nat → ClassId) (U : State) : Prop := va_K (dC, dI) vwCl (tysG cA) U ∧ (∀ w ∈ nestW, va_Nw w U) ∧ va_AO RX4 U ∧ va_AO RX2 U ∧ aoI U
def GF (base S b : Nat) (scr : Nat × (Nat → Int32)) (U : State) (H : Heap) : Prop := va_T .int S 6 (fun j => .int (isToo j)) (AB base) U H ∧ va_X b scr.1 scr.2 U H ∧ va_Z "SpentWeeks" "IS_TOO" "[I" (.ref S) (AB base) U H ∧ S < base ∧ b < base
def GH (base S b : Nat) (dC : Nat → ClassId) (dI : Nat → Nat → Nat) (cA : Nat → ClassId) (h : Hp) (H : Heap) : Prop := H.size = base + h.2.length ∧ va_P (dC, dI) vwCl (wsO base (adr base S b) cA h.2) H
def GW (base S b : Nat) (dC : Nat → ClassId) (dI : Nat → Nat → Nat) (cA : Nat → ClassId) (h : Hp) (U : State) : Prop := GH base S b dC dI cA h U.heap ∧ GT dC dI cA U ∧ GF base S b h.1 U U.heap
theorem nest_warm {w : Cond} (hw : isNst w = true) {s U : State} (hW : s.WarmedH U.vm) (h : va_Nw w s) : va_Nw w U := by
  cases w <;> first | (simp [isNst] at hw; done) | exact va_Nw.warmF hW h | exact va_Nw.warmM hW h
theorem nest_tab {w : Cond} (hw : isNst w = true) : w.onTables = true := by
  cases w <;> first | (simp [isNst] at hw; done) | rfl
section GG
variable {dC : Nat → ClassId} {dI : Nat → Nat → Nat} {cA : Nat → ClassId} {base S b : Nat}
theorem GT_warm {s U : State} (hW : s.WarmedH U.vm) (h : GT dC dI cA s) : GT dC dI cA U :=
  ⟨va_K.moved hW.alike h.1, fun w hw => nest_warm (List.mem_filter.mp hw).2 hW (h.2.1 w hw), h.2.2.1.moved hW.alike, h.2.2.2.1.moved hW.alike, aoI_moved hW.alike h.2.2.2.2⟩
theorem GT_same {s U : State} (hvm : s.vm = U.vm) (h : GT dC dI cA s) : GT dC dI cA U := by
  have ha : s.vm.Alike U.vm := by rw [← hvm]; exact Vm.Alike.refl s.vm
  exact ⟨va_K.moved ha h.1, fun w hw => va_Nw.same (nest_tab (List.mem_filter.mp hw).2) hvm (h.2.1 w hw), h.2.2.1.moved ha, h.2.2.2.1.moved ha, aoI_moved ha h.2.2.2.2⟩
theorem GF_kept {scr : Nat × (Nat → Int32)} {s U : State} {H0 H : Heap} (ha : s.vm.Alike U.vm) (hq : ∀ q : Nat, q < H0.size → ¬ AB base q → H[q]? = H0[q]?) (hz : base ≤ H0.size) (h : GF base S b scr s H0) : GF base S b scr U H := by
  obtain ⟨h1, h2, h3, h4, h5⟩ := h
  exact ⟨va_T.moved ha (h1.kept hq), va_X.moved ha (h2.kept (hq b (by omega) (Nat.not_le.mpr h5))), va_Z.moved ha (h3.kept hq), h4, h5⟩
theorem GW_blind {h : Hp} {av : List Value} : FrameBlind (va_Pc av (GW base S b dC dI cA h)) := fun a U g mk q => ⟨q.1, q.2.1, GT_same (s := U) (U := U.calling g mk a) rfl q.2.2.1, GF_kept (s := U) (U := U.calling g mk a) (H0 := U.heap) (Vm.Alike.refl U.vm) (fun _ _ _ => rfl) (by have := q.2.1.1; omega) q.2.2.2⟩
theorem GW_of {h : Hp} {s U : State} {H : Heap} {locs : List Loc} (hG : GH base S b dC dI cA h H) (hS : va_S (AB base) s.heap H locs) (hT : GT dC dI cA s) (hF : GF base S b h.1 s s.heap) (hz : base ≤ s.heap.size) (hU : U.heap = H) (hW : s.WarmedH U.vm) : GW base S b dC dI cA h U := by
  refine ⟨by rw [hU]; exact hG, GT_warm hW hT, ?_⟩
  rw [hU]
  exact GF_kept hW.alike hS.2.1 hz hF
end GG
/-- what surrounds a walk through one method -/
def Cx (p : Program) (R : Room) (s : State) (m : MethodId) (args : Array Value) (meth : Method) (c : Code) (own : String) (cc : ByteArray) (nL : Nat) (mn : String) (d base S b : Nat) (dC : Nat → ClassId) (dI : Nat → Nat → Nat) (cA : Nat → ClassId) (scr : Nat × (Nat → Int32)) : Prop :=
  p.tables.exec = Jvm.exec ∧ c.code = cc ∧ c.maxLocals = nL ∧ s.vm.findClass own = some m.cls ∧ (∀ w ∈ tblG, w.before args s = true) ∧ (mn = "<init>" → meth.name = "<init>") ∧ (d + 1 ≤ R.frames ∧ 40 * (d + 1) ≤ R.locals) ∧ GT dC dI cA s ∧ GF base S b scr s s.heap ∧ base ≤ s.heap.size
def wsG (y : Nat) : List Cond := .code (mI y).1 (mI y).2.1 (mI y).2.2.1 (rtF (mI y).2.2.2.1) :: tblG
def rv (rk : Nat) (r : Int32) : Option Value := if rk = 0 then none else some (.int r)
def QX (base S b : Nat) (dC : Nat → ClassId) (dI : Nat → Nat → Nat) (cA : Nat → ClassId) (rk : Nat) (r : Int32) (h : Hp) : Array Value → State → Outcome → State → Prop := fun _ st oc t => (oc = .returned (rv rk r) ∧ GW base S b dC dI cA h t) ∧ va_F (AB base) st t
def rmX (d : Nat) (h h1 : Hp) : Room := { frames := d, cells := h1.2.length - h.2.length, slots := slotsOf h1 - slotsOf h, locals := 40 * d }
def MetX (l : Launch) (base S b : Nat) (dC : Nat → ClassId) (dI : Nat → Nat → Nat) (cA : Nat → ClassId) (d y : Nat) (as : List Value) (h : Hp) (r : Int32) (h1 : Hp) : Prop :=
  Met l (mI y).1 (wsG y) (rmX d h h1) (va_Pc (as.map (tv (adr base S b))) (GW base S b dC dI cA h)) (QX base S b dC dI cA (mI y).2.2.2.1 r h1) (h1.2.length - h.2.length) (slotsOf h1 - slotsOf h) (AB base)
theorem wsG_good {y : Nat} (h : y < 221) : GoodIn tblG (wsG y) := by
  have hk := mOk_at h
  simp only [mOk, Bool.and_eq_true] at hk
  have h1 := wd_in hk.1.1.1.1.1.1.1.1.1
  intro w hw
  have hm : w ∈ tblG := by
    rcases List.mem_cons.mp hw with e | e
    · rw [e]; exact h1
    · exact e
  exact ⟨hm, good_of_word (List.mem_filter.mp hm).2⟩
/-- behind a call: the world that came back -/
theorem callX {p : Program} {l : Launch} {e : Env} {R : Room} {s : State} {m : MethodId} {args : Array Value} {below : List Frame} {meth : Method} {c : Code} {H : Heap} {locs : List Loc} {cells slots : Nat} {Q : State → Prop} {pc : Nat} {ls : Array Slot} {rest st0 : List Value} {a : Array Value} {mc ms base S b rk : Nat} {dC : Nat → ClassId} {dI : Nat → Nat → Nat} {cA : Nat → ClassId} {r : Int32} {h1 : Hp}
    (hr : va_Run p l e R s m args below meth c H locs cells slots mc ms (F0 m pc ls st0) rest (QX base S b dC dI cA rk r h1 a) (AB base)) (hS : va_S (AB base) s.heap H locs)
    (kk : ∀ (H1 : Heap) (locs1 : List Loc), GH base S b dC dI cA h1 H1 → va_S (AB base) s.heap H1 locs1 → W p l e R s m args below meth c H1 locs1 (cells + mc) (slots + ms) Q (F0 m (pc + 3) ls ((rv rk r).toList ++ rest))) : W p l e R s m args below meth c H locs cells slots Q (F0 m pc ls st0) := by
  intro T hT X
  obtain ⟨v, st₀, t, T', L, h0, X', hL, e1, e2, ⟨⟨hv, hb⟩, hz, hk⟩, st⟩ := hr T hT X
  cases hv
  rw [h0] at hz hk
  obtain ⟨t2, a1, b1⟩ := kk T'.heap (locs ++ L) (by rw [e1]; exact hb.1)
    ⟨Nat.le_trans hS.1 (by rw [e1]; exact hz), fun q g1 g2 => by rw [e1, hk q (Nat.lt_of_lt_of_le g1 hS.1) g2]; exact hS.2.1 q g1 g2, fun q hq => by
      rcases List.mem_append.mp hq with g | g
      · exact hS.2.2 q g
      · exact hL q g⟩ T' rfl X'
  exact ⟨t2, st t2 a1, b1⟩
