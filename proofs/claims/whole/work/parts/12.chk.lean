/-! ===== the resolved code is the machine's: a check that the kernel runs ===== -/
def tblG : List Cond := lw_tbl.filter goodWord
def wd (i : Nat) (w : Cond) : Bool := decide (lw_tbl[i]? = some w) && goodWord w
def wdN (i : Nat) (w : Cond) : Bool := decide (lw_tbl[i]? = some w)
theorem wd_in {i : Nat} {w : Cond} (h : wd i w = true) : w ∈ tblG := by
  simp only [wd, Bool.and_eq_true, decide_eq_true_eq] at h
  exact List.mem_filter.mpr ⟨List.mem_of_getElem? h.1, h.2⟩
theorem wdN_in {i : Nat} {w : Cond} (h : wdN i w = true) : w ∈ lw_tbl := by
  simp only [wdN, decide_eq_true_eq] at h
  exact List.mem_of_getElem? h
def rtF (rk : Nat) : Option FieldType := if rk = 0 then none else if rk = 1 then some .int else some .boolean
def tgE (a : Nat) : String := if a = 3 then RX4 else RX2
def npar (d : String) : Option Nat := (parseMethodDescriptor d).map (fun d => d.parameters.length)
/-- what must hold of an instruction of a class 'own', in the method named mn with code cc and nL locals -/
def chk (own : String) (cc : ByteArray) (nL : Nat) (mn : String) (pc : Nat) (ri : RI) (wi : Nat) : Bool :=
  match ri with
  | (.iconst n, _, _, _, v) => decide (decode cc pc = .ok (.iconst n, 1)) && decide (Int32.ofInt n = v)
  | (.bipush n, _, _, _, v) => decide (decode cc pc = .ok (.bipush n, 2)) && decide ((Int8.ofInt n).toInt32 = v)
  | (.sipush n, _, _, _, v) => decide (decode cc pc = .ok (.sipush n, 3)) && decide ((Int16.ofInt n).toInt32 = v)
  | (.ldc i, _, _, _, v) => decide (decode cc pc = .ok (.ldc i, 2)) && wd wi (.constant own i v)
  | (.ldc_w i, _, _, _, v) => decide (decode cc pc = .ok (.ldc_w i, 3)) && wd wi (.constant own i v)
  | (.lconst n, _, _, _, v) => decide (decode cc pc = .ok (.lconst n, 1)) && decide (Int64.ofNat n.val = v.toInt64)
  | (.ldc2_w i, _, _, _, v) => decide (decode cc pc = .ok (.ldc2_w i, 3)) && wd wi (.constantLong own i v.toInt64)
  | (.iload_n n, a, _, _, _) => decide (decode cc pc = .ok (.iload_n n, 1)) && decide (n.val = a)
  | (.iload n, a, _, _, _) => decide (decode cc pc = .ok (.iload n, 2)) && decide (n = a)
  | (.lload_n n, a, _, _, _) => decide (decode cc pc = .ok (.lload_n n, 1)) && decide (n.val = a)
  | (.lload n, a, _, _, _) => decide (decode cc pc = .ok (.lload n, 2)) && decide (n = a)
  | (.aload_n n, a, _, _, _) => decide (decode cc pc = .ok (.aload_n n, 1)) && decide (n.val = a)
  | (.aload n, a, _, _, _) => decide (decode cc pc = .ok (.aload n, 2)) && decide (n = a)
  | (.istore_n n, a, _, _, _) => decide (decode cc pc = .ok (.istore_n n, 1)) && decide (n.val = a) && decide (a < nL)
  | (.istore n, a, _, _, _) => decide (decode cc pc = .ok (.istore n, 2)) && decide (n = a) && decide (a < nL)
  | (.astore_n n, a, _, _, _) => decide (decode cc pc = .ok (.astore_n n, 1)) && decide (n.val = a) && decide (a < nL)
  | (.astore n, a, _, _, _) => decide (decode cc pc = .ok (.astore n, 2)) && decide (n = a) && decide (a < nL)
  | (.lstore_n n, a, _, _, _) => decide (decode cc pc = .ok (.lstore_n n, 1)) && decide (n.val = a) && decide (a + 1 < nL)
  | (.iinc i n, a, _, _, v) => decide (decode cc pc = .ok (.iinc i n, 3)) && decide (i = a) && decide (Int32.ofInt n = v) && decide (a < nL)
  | (.goto o, a, _, _, _) => decide (decode cc pc = .ok (.goto o, 3)) && decide ((pc : Int) + o = (a : Int))
  | (.ifCond cd o, a, _, _, _) => decide (decode cc pc = .ok (.ifCond cd o, 3)) && decide ((pc : Int) + o = (a : Int))
  | (.if_icmp cd o, a, _, _, _) => decide (decode cc pc = .ok (.if_icmp cd o, 3)) && decide ((pc : Int) + o = (a : Int))
  | (.tableswitch d lo hi offs, _, _, _, _) => decide (decode cc pc = .ok (.tableswitch d lo hi offs, wi))
  | (.lookupswitch d ps, _, _, _, _) => decide (decode cc pc = .ok (.lookupswitch d ps, wi)) && (ps.toList.zip (ps.toList.drop 1)).all (fun (a, next) => a.1 < next.1)
  | (.getfield i, a, b, _, _) => decide (decode cc pc = .ok (.getfield i, 3)) && (match vwCl[a]? with
    | some (_, T, N) => decide (b < N) && wd wi (.fieldLink own i (T b).1 (T b).2.1 (T b).2.2.1)
    | none => false)
  | (.putfield i, a, b, _, _) => decide (decode cc pc = .ok (.putfield i, 3)) && (match vwCl[a]? with
    | some (_, T, N) => decide (b < N) && wd wi (.fieldLink own i (T b).1 (T b).2.1 (T b).2.2.1) && (!(T b).2.2.2 || (mn == "<init>" && (T b).1 == own))
    | none => false)
  | (.getstatic i, _, _, _, _) => decide (decode cc pc = .ok (.getstatic i, 3)) && wdN wi (.fieldLinkNest own i "SpentWeeks" "IS_TOO" "[I" "SpentWeeks")
  | (.new i, a, _, _, _) => decide (decode cc pc = .ok (.new i, 3)) && (match vwCl[a]? with
    | some (C, _, _) => wd wi (.classLink own i C)
    | none => false)
  | (.newarray ty, a, _, _, _) => decide (decode cc pc = .ok (.newarray ty, 2)) && ((decide (ty = .int) && decide (a = 0)) || (decide (ty = .boolean) && decide (a = 1)))
  | (.anewarray i, a, _, _, _) => decide (decode cc pc = .ok (.anewarray i, 3)) && wd wi (.classLink own i (tgE a))
  | (.multianewarray i n, _, _, _, _) => decide (decode cc pc = .ok (.multianewarray i n, 4)) && decide (n = 2) && wd wi (.classLink own i "[[I")
  | (.invokestatic i, a, b, c, v) => decide (decode cc pc = .ok (.invokestatic i, 3)) &&
    (if a = 1000 then wd wi (.methodLink own i Lib.Math.min.name) else if a = 1001 then wd wi (.methodLink own i arraycopyName)
     else decide (a < 221) && decide (npar (mI a).1.desc = some b) && decide (c % 3 = (mI a).2.2.2.1) && (if v = 1 then wdN wi (.methodLinkNest own i (mI a).1 "SpentWeeks") else wd wi (.methodLink own i (mI a).1)))
  | (.invokevirtual i, a, b, c, _) => decide (decode cc pc = .ok (.invokevirtual i, 3)) && (decide (a < 221) && decide (npar (mI a).1.desc = some b) && decide (c % 3 = (mI a).2.2.2.1) && decide (c / 3 = (mI a).2.2.2.2) && wd wi (.methodLink own i (mI a).1))
  | (.invokespecial i, a, b, _, v) => decide (decode cc pc = .ok (.invokespecial i, 3)) &&
    (if a = 1002 then wd wi (.methodLink own i objectInit)
     else decide (a < 221) && decide (npar (mI a).1.desc = some b) && decide ((mI a).1.name = "<init>") && decide ((mI a).2.2.2.1 = 0) && (if v = 1 then wdN wi (.methodLinkNest own i (mI a).1 "SpentWeeks") else wd wi (.methodLink own i (mI a).1)))
  | (ins, _, _, _, _) => decide (decode cc pc = .ok (ins, 1))
def chkT (own : String) (cc : ByteArray) (nL : Nat) (mn : String) (t : CT) : Bool := t.all (fun q => chk own cc nL mn q.1 q.2.1 q.2.2)
theorem chkT_at {own : String} {cc : ByteArray} {nL : Nat} {mn : String} {t : CT} (h : chkT own cc nL mn t = true) (pc : Nat) : (∃ wi, chk own cc nL mn pc (Kc t pc) wi = true) ∨ Kc t pc = ri0 := by
  unfold Kc
  cases hl : t.lookup pc with
  | none => exact Or.inr rfl
  | some q =>
    have hm : (pc, q) ∈ t := by
      clear h
      induction t with
      | nil => simp at hl
      | cons x t ih =>
        obtain ⟨a, b⟩ := x
        rw [List.lookup_cons] at hl
        by_cases e : pc == a
        · simp only [e] at hl
          cases hl
          rw [eq_of_beq e]
          exact List.mem_cons_self
        · simp only [e] at hl
          exact List.mem_cons_of_mem _ (ih hl)
    have := List.all_eq_true.mp h (pc, q) hm
    exact Or.inl ⟨q.2, this⟩
