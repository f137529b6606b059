/-! ===== the abstract machine: resolved code over a heap of relative addresses ===== -/
abbrev HC : Type := (Nat × vp_A) ⊕ (Nat × List Value)
abbrev Hp : Type := (Nat × (Nat → Int32)) × List HC
abbrev RI : Type := Instr × Nat × Nat × Nat × Int32
abbrev CT : Type := List (Nat × RI × Nat)
abbrev Rs : Type := Option (Int32 × Hp)
def ri0 : RI := (.nop, 0, 0, 0, 0)
def Kc (t : CT) (pc : Nat) : RI := ((t.lookup pc).map (fun q => q.1)).getD ri0
abbrev jk : Value := .retAddr 0
def lGet : List Value → Nat → Value
  | [], _ => jk
  | v :: _, 0 => v
  | _ :: t, i + 1 => lGet t i
def lSet : List Value → Nat → Value → List Value
  | [], _, _ => []
  | _ :: t, 0, v => v :: t
  | w :: t, i + 1, v => w :: lSet t i v
def isLg : Value → Bool
  | .long _ => true
  | .double _ => true
  | _ => false
def okS (L : List Value) : Nat → Bool
  | 0 => true
  | i + 1 => !(isLg (lGet L i))
def catS : List Value → Nat
  | [] => 0
  | v :: t => (if isLg v then 2 else 1) + catS t
def isToo : Nat → Int32 := fun j => ([1, 3, 7, 11, 17, 49] : List Int32).getD j 0
def hGet (h : Hp) (a : Nat) : Option HC := match a with
  | 0 => some (.inl (0, 6, .inl isToo))
  | 1 => some (.inl (0, h.1.1, .inl h.1.2))
  | a + 2 => h.2[a]?
def hSet (h : Hp) (a : Nat) (e : HC) : Hp := (h.1, h.2.set (a - 2) e)
def csz : HC → Nat
  | .inl q => q.2.1
  | .inr q => q.2.length
def slotsOf (h : Hp) : Nat := (h.2.map csz).sum
def tyT : List (Nat → FieldType) := [tyX0, tyX1, tyX2, tyX3, tyX4, tyX5, tyX6, tyX7, tyX8, tyX9]
def fTy (ci k : Nat) : FieldType := (tyT.getD ci (fun _ => .int)) k
def nTy : List Nat := [3, 2, 5, 8, 10, 3, 5, 6, 14, 20]
def nF (ci : Nat) : Nat := nTy.getD ci 0
def okF (ty : FieldType) (v : Value) : Bool := match ty, v with
  | .int, .int _ => true
  | .boolean, .int x => x == 0 || x == 1
  | .long, .long _ => true
  | .object _, .ref _ => true
  | .array _, .ref _ => true
  | _, _ => false
def inB (i : Int32) (n : Nat) : Bool := !(decide (i < 0)) && decide (i.toNatClampNeg < n)
def getF (h : Hp) (ci k a : Nat) : Option Value := match hGet h a with
  | some (.inr (c, fs)) => if c = ci then fs[k]? else none
  | _ => none
def putF (h : Hp) (ci k a : Nat) (v : Value) : Option Hp := match hGet h a with
  | some (.inr (c, fs)) => if c = ci ∧ k < fs.length ∧ okF (fTy ci k) v = true then some (hSet h a (.inr (ci, fs.set k v))) else none
  | _ => none
def ialdF (h : Hp) (a : Nat) (i : Int32) : Option Int32 := match hGet h a with
  | some (.inl (0, n, .inl f)) => if inB i n = true then some (f i.toNatClampNeg) else none
  | _ => none
def iastF (h : Hp) (a : Nat) (i x : Int32) : Option Hp := match hGet h a with
  | some (.inl (0, n, .inl f)) => if 2 ≤ a ∧ inB i n = true then some (hSet h a (.inl (0, n, .inl (upd f i.toNatClampNeg x)))) else none
  | _ => none
def baldF (h : Hp) (a : Nat) (i : Int32) : Option Int32 := match hGet h a with
  | some (.inl (1, n, .inl f)) => if inB i n = true then some (f i.toNatClampNeg) else none
  | _ => none
def bastF (h : Hp) (a : Nat) (i x : Int32) : Option Hp := match hGet h a with
  | some (.inl (1, n, .inl f)) => if (x = 0 ∨ x = 1) ∧ inB i n = true then some (hSet h a (.inl (1, n, .inl (upd f i.toNatClampNeg x)))) else none
  | _ => none
def aaldF (h : Hp) (a : Nat) (i : Int32) : Option Nat := match hGet h a with
  | some (.inl (t, n, .inr (.inr (.inr (.inr f))))) => if (t = 2 ∨ t = 3 ∨ t = 4) ∧ inB i n = true then f i.toNatClampNeg else none
  | _ => none
def aastF (h : Hp) (a : Nat) (i : Int32) (v : Nat) : Option Hp := match hGet h a, hGet h v with
  | some (.inl (t, n, .inr (.inr (.inr (.inr f))))), some (.inr (ci, _)) => if ((t = 3 ∧ ci = 4) ∨ (t = 4 ∧ ci = 2)) ∧ inB i n = true then some (hSet h a (.inl (t, n, .inr (.inr (.inr (.inr (va_up f i.toNatClampNeg (some v)))))))) else none
  | _, _ => none
def alenF (h : Hp) (a : Nat) : Option Nat := match hGet h a with
  | some (.inl (0, n, .inl _)) => some n
  | _ => none
def acopyF (h : Hp) (a0 a1 : Nat) (sp dp n : Int32) : Option Hp := match hGet h a0, hGet h a1 with
  | some (.inl (0, n0, .inl f)), some (.inl (0, n1, .inl g)) => if 2 ≤ a0 ∧ 2 ≤ a1 ∧ ¬ sp < 0 ∧ ¬ dp < 0 ∧ ¬ n < 0 ∧ sp.toNatClampNeg + n.toNatClampNeg ≤ n0 ∧ dp.toNatClampNeg + n.toNatClampNeg ≤ n1 then some (hSet h a1 (.inl (0, n1, .inl (va_cpy f g sp.toNatClampNeg dp.toNatClampNeg n.toNatClampNeg)))) else none
  | _, _ => none
def hNew (h : Hp) (es : List HC) : Hp := (h.1, h.2 ++ es)
def dflt (ci : Nat) : List Value := (List.range (nF ci)).map (fun k => defaultValue (fTy ci k))
def mkArr (t : Nat) (n : Nat) : HC := if t = 0 ∨ t = 1 then .inl (t, n, .inl (fun _ => 0)) else .inl (t, n, .inr (.inr (.inr (.inr (fun _ => none)))))
def mkMulti (h : Hp) (n k : Nat) : List HC := .inl (2, n, .inr (.inr (.inr (.inr (fun i => if i < n then some (h.2.length + 2 + 1 + i) else none))))) :: List.replicate n (.inl (0, k, .inl (fun _ => 0)))
/-! combinators of the step -/
section CMB
variable {ρ : Type}
def popI (st : List Value) (k : Int32 → List Value → Option ρ) : Option ρ := match st with
  | .int x :: s => k x s
  | _ => none
def popI2 (st : List Value) (k : Int32 → Int32 → List Value → Option ρ) : Option ρ := match st with
  | .int y :: .int x :: s => k x y s
  | _ => none
def popL (st : List Value) (k : Int64 → List Value → Option ρ) : Option ρ := match st with
  | .long x :: s => k x s
  | _ => none
def popL2 (st : List Value) (k : Int64 → Int64 → List Value → Option ρ) : Option ρ := match st with
  | .long y :: .long x :: s => k x y s
  | _ => none
def popR (st : List Value) (k : Nat → List Value → Option ρ) : Option ρ := match st with
  | .ref x :: s => k x s
  | _ => none
def popV (st : List Value) (k : Value → List Value → Option ρ) : Option ρ := match st with
  | v :: s => k v s
  | _ => none
def asI (v : Value) (k : Int32 → Option ρ) : Option ρ := match v with
  | .int x => k x
  | _ => none
def asL (v : Value) (k : Int64 → Option ρ) : Option ρ := match v with
  | .long x => k x
  | _ => none
def asR (v : Value) (k : Nat → Option ρ) : Option ρ := match v with
  | .ref x => k x
  | _ => none
end CMB
abbrev NX : Type := Nat → List Value → List Value → Hp → Rs
def pushR (rk : Nat) (r : Int32) (s : List Value) : List Value := if rk = 0 then s else .int r :: s
def okR (rk : Nat) (v : Int32) : Bool := rk == 1 || (rk == 2 && (v == 0 || v == 1))
def clsB (h : Hp) (r ci : Nat) : Bool := match hGet h r with
  | some (.inr (c, _)) => c == ci
  | _ => false
def jmp (pc : Nat) (off : Int) (k : Nat → Rs) : Rs := if 0 ≤ (pc : Int) + off then k ((pc : Int) + off).toNat else none
def stepK (call : Nat → List Value → Hp → Rs) (rk : Nat) (ri : RI) (pc : Nat) (L st : List Value) (h : Hp) (k : NX) : Rs :=
  match ri with
  | (.iconst _, _, _, _, v) => k (pc + 1) L (.int v :: st) h
  | (.bipush _, _, _, _, v) => k (pc + 2) L (.int v :: st) h
  | (.sipush _, _, _, _, v) => k (pc + 3) L (.int v :: st) h
  | (.ldc _, _, _, _, v) => k (pc + 2) L (.int v :: st) h
  | (.ldc_w _, _, _, _, v) => k (pc + 3) L (.int v :: st) h
  | (.lconst _, _, _, _, v) => k (pc + 1) L (.long v.toInt64 :: st) h
  | (.ldc2_w _, _, _, _, v) => k (pc + 3) L (.long v.toInt64 :: st) h
  | (.iload_n _, a, _, _, _) => asI (lGet L a) fun x => k (pc + 1) L (.int x :: st) h
  | (.iload _, a, _, _, _) => asI (lGet L a) fun x => k (pc + 2) L (.int x :: st) h
  | (.lload_n _, a, _, _, _) => asL (lGet L a) fun x => k (pc + 1) L (.long x :: st) h
  | (.lload _, a, _, _, _) => asL (lGet L a) fun x => k (pc + 2) L (.long x :: st) h
  | (.aload_n _, a, _, _, _) => asR (lGet L a) fun x => k (pc + 1) L (.ref x :: st) h
  | (.aload _, a, _, _, _) => asR (lGet L a) fun x => k (pc + 2) L (.ref x :: st) h
  | (.istore_n _, a, _, _, _) => popI st fun x s => if okS L a = true then k (pc + 1) (lSet L a (.int x)) s h else none
  | (.istore _, a, _, _, _) => popI st fun x s => if okS L a = true then k (pc + 2) (lSet L a (.int x)) s h else none
  | (.astore_n _, a, _, _, _) => popR st fun x s => if okS L a = true then k (pc + 1) (lSet L a (.ref x)) s h else none
  | (.astore _, a, _, _, _) => popR st fun x s => if okS L a = true then k (pc + 2) (lSet L a (.ref x)) s h else none
  | (.lstore_n _, a, _, _, _) => popL st fun x s => if okS L a = true then k (pc + 1) (lSet (lSet L a (.long x)) (a + 1) jk) s h else none
  | (.iinc _ _, a, _, _, v) => asI (lGet L a) fun x => if okS L a = true then k (pc + 3) (lSet L a (.int (x + v))) st h else none
  | (.iadd, _, _, _, _) => popI2 st fun x y s => k (pc + 1) L (.int (x + y) :: s) h
  | (.isub, _, _, _, _) => popI2 st fun x y s => k (pc + 1) L (.int (x - y) :: s) h
  | (.imul, _, _, _, _) => popI2 st fun x y s => k (pc + 1) L (.int (x * y) :: s) h
  | (.iand, _, _, _, _) => popI2 st fun x y s => k (pc + 1) L (.int (x &&& y) :: s) h
  | (.ior, _, _, _, _) => popI2 st fun x y s => k (pc + 1) L (.int (x ||| y) :: s) h
  | (.ixor, _, _, _, _) => popI2 st fun x y s => k (pc + 1) L (.int (x ^^^ y) :: s) h
  | (.ishl, _, _, _, _) => popI2 st fun x y s => k (pc + 1) L (.int (x <<< (y &&& 31)) :: s) h
  | (.ishr, _, _, _, _) => popI2 st fun x y s => k (pc + 1) L (.int (x >>> (y &&& 31)) :: s) h
  | (.idiv, _, _, _, _) => popI2 st fun x y s => if y = 0 then none else k (pc + 1) L (.int (x / y) :: s) h
  | (.irem, _, _, _, _) => popI2 st fun x y s => if y = 0 then none else k (pc + 1) L (.int (x - x / y * y) :: s) h
  | (.ineg, _, _, _, _) => popI st fun x s => k (pc + 1) L (.int (-x) :: s) h
  | (.ladd, _, _, _, _) => popL2 st fun x y s => k (pc + 1) L (.long (x + y) :: s) h
  | (.lmul, _, _, _, _) => popL2 st fun x y s => k (pc + 1) L (.long (x * y) :: s) h
  | (.ldiv, _, _, _, _) => popL2 st fun x y s => if y = 0 then none else k (pc + 1) L (.long (x / y) :: s) h
  | (.lrem, _, _, _, _) => popL2 st fun x y s => if y = 0 then none else k (pc + 1) L (.long (x - x / y * y) :: s) h
  | (.lcmp, _, _, _, _) => popL2 st fun x y s => k (pc + 1) L (.int (lg_cmp x y) :: s) h
  | (.i2l, _, _, _, _) => popI st fun x s => k (pc + 1) L (.long x.toInt64 :: s) h
  | (.l2i, _, _, _, _) => popL st fun x s => k (pc + 1) L (.int x.toInt32 :: s) h
  | (.i2b, _, _, _, _) => popI st fun x s => k (pc + 1) L (.int x.toInt8.toInt32 :: s) h
  | (.i2s, _, _, _, _) => popI st fun x s => k (pc + 1) L (.int x.toInt16.toInt32 :: s) h
  | (.dup, _, _, _, _) => popV st fun v s => if isLg v = true then none else k (pc + 1) L (v :: v :: s) h
  | (.dup2, _, _, _, _) => popV st fun v s => popV s fun w s => if isLg v = true ∨ isLg w = true then none else k (pc + 1) L (v :: w :: v :: w :: s) h
  | (.pop, _, _, _, _) => popV st fun v s => if isLg v = true then none else k (pc + 1) L s h
  | (.goto _, a, _, _, _) => k a L st h
  | (.ifCond .eq _, a, _, _, _) => popI st fun x s => if x = 0 then k a L s h else k (pc + 3) L s h
  | (.ifCond .ne _, a, _, _, _) => popI st fun x s => if x = 0 then k (pc + 3) L s h else k a L s h
  | (.ifCond .lt _, a, _, _, _) => popI st fun x s => if x < 0 then k a L s h else k (pc + 3) L s h
  | (.ifCond .ge _, a, _, _, _) => popI st fun x s => if 0 ≤ x then k a L s h else k (pc + 3) L s h
  | (.ifCond .gt _, a, _, _, _) => popI st fun x s => if 0 < x then k a L s h else k (pc + 3) L s h
  | (.ifCond .le _, a, _, _, _) => popI st fun x s => if x ≤ 0 then k a L s h else k (pc + 3) L s h
  | (.if_icmp .eq _, a, _, _, _) => popI2 st fun x y s => if x = y then k a L s h else k (pc + 3) L s h
  | (.if_icmp .ne _, a, _, _, _) => popI2 st fun x y s => if x = y then k (pc + 3) L s h else k a L s h
  | (.if_icmp .lt _, a, _, _, _) => popI2 st fun x y s => if x < y then k a L s h else k (pc + 3) L s h
  | (.if_icmp .ge _, a, _, _, _) => popI2 st fun x y s => if y ≤ x then k a L s h else k (pc + 3) L s h
  | (.if_icmp .gt _, a, _, _, _) => popI2 st fun x y s => if y < x then k a L s h else k (pc + 3) L s h
  | (.if_icmp .le _, a, _, _, _) => popI2 st fun x y s => if x ≤ y then k a L s h else k (pc + 3) L s h
  | (.tableswitch d lo hi offs, _, _, _, _) => popI st fun x s => if x.toInt < lo ∨ hi < x.toInt then jmp pc d fun t => k t L s h else (offs[(x.toInt - lo).toNat]?).bind fun o => jmp pc o fun t => k t L s h
  | (.lookupswitch d ps, _, _, _, _) => popI st fun x s => jmp pc (Op.lookupswitch.offset ps.toList d x.toInt) fun t => k t L s h
  | (.getfield _, a, b, _, _) => popR st fun r s => (getF h a b r).bind fun v => k (pc + 3) L (v :: s) h
  | (.putfield _, a, b, _, _) => popV st fun v s => popR s fun r s => (putF h a b r v).bind fun h1 => k (pc + 3) L s h1
  | (.getstatic _, _, _, _, _) => k (pc + 3) L (.ref 0 :: st) h
  | (.iaload, _, _, _, _) => popI st fun i s => popR s fun r s => (ialdF h r i).bind fun x => k (pc + 1) L (.int x :: s) h
  | (.iastore, _, _, _, _) => popI2 st fun i x s => popR s fun r s => (iastF h r i x).bind fun h1 => k (pc + 1) L s h1
  | (.baload, _, _, _, _) => popI st fun i s => popR s fun r s => (baldF h r i).bind fun x => k (pc + 1) L (.int x :: s) h
  | (.bastore, _, _, _, _) => popI2 st fun i x s => popR s fun r s => (bastF h r i x).bind fun h1 => k (pc + 1) L s h1
  | (.aaload, _, _, _, _) => popI st fun i s => popR s fun r s => (aaldF h r i).bind fun x => k (pc + 1) L (.ref x :: s) h
  | (.aastore, _, _, _, _) => popR st fun v s => popI s fun i s => popR s fun r s => (aastF h r i v).bind fun h1 => k (pc + 1) L s h1
  | (.arraylength, _, _, _, _) => popR st fun r s => (alenF h r).bind fun n => k (pc + 1) L (.int (Int32.ofNat n) :: s) h
  | (.new _, a, _, _, _) => k (pc + 3) L (.ref (h.2.length + 2) :: st) (hNew h [.inr (a, dflt a)])
  | (.newarray _, a, _, _, _) => popI st fun n s => if 0 ≤ n ∧ n.toNatClampNeg ≤ 10000 ∧ a ≤ 1 then k (pc + 2) L (.ref (h.2.length + 2) :: s) (hNew h [mkArr a n.toNatClampNeg]) else none
  | (.anewarray _, a, _, _, _) => popI st fun n s => if 0 ≤ n ∧ n.toNatClampNeg ≤ 10000 ∧ (a = 3 ∨ a = 4) then k (pc + 3) L (.ref (h.2.length + 2) :: s) (hNew h [mkArr a n.toNatClampNeg]) else none
  | (.multianewarray _ _, _, _, _, _) => popI2 st fun n m s => if 0 ≤ n ∧ 0 ≤ m ∧ n.toNatClampNeg ≤ 10000 ∧ m.toNatClampNeg ≤ 10000 then k (pc + 4) L (.ref (h.2.length + 2) :: s) (hNew h (mkMulti h n.toNatClampNeg m.toNatClampNeg)) else none
  | (.invokestatic _, a, b, c, _) =>
    if a = 1000 then popI2 st fun x y s => if catS s ≤ 8 then k (pc + 3) L (.int (if y < x then y else x) :: s) h else none
    else if a = 1001 then popI2 st fun dp n s => popR s fun a1 s => popI s fun sp s => popR s fun a0 s => if catS s ≤ 8 then (acopyF h a0 a1 sp dp n).bind fun h1 => k (pc + 3) L s h1 else none
    else if b ≤ st.length ∧ catS (st.drop b) ≤ 8 then (call a (st.take b).reverse h).bind fun q => k (pc + 3) L (pushR (c % 3) q.1 (st.drop b)) q.2 else none
  | (.invokevirtual _, a, b, c, _) =>
    if b ≤ st.length then popR (st.drop b) fun r s => if clsB h r (c / 3) = true ∧ catS s ≤ 8 then (call a (.ref r :: (st.take b).reverse) h).bind fun q => k (pc + 3) L (pushR (c % 3) q.1 s) q.2 else none else none
  | (.invokespecial _, a, b, _, _) =>
    if a = 1002 then popR st fun _ s => if catS s ≤ 8 then k (pc + 3) L s h else none
    else if b ≤ st.length then popR (st.drop b) fun r s => if catS s ≤ 8 then (call a (.ref r :: (st.take b).reverse) h).bind fun q => k (pc + 3) L s q.2 else none else none
  | (.ireturn, _, _, _, _) => popI st fun v s => if s = [] ∧ okR rk v = true then some (v, h) else none
  | (.return_, _, _, _, _) => if st = [] ∧ rk = 0 then some (0, h) else none
  | _ => none
def runI (call : Nat → List Value → Hp → Rs) (t : CT) (rk : Nat) : Nat → Nat → List Value → List Value → Hp → Rs
  | 0, _, _, _, _ => none
  | n + 1, pc, L, st, h => stepK call rk (Kc t pc) pc L st h (runI call t rk n)
/-! heaps only grow -/
def hLe (h h1 : Hp) : Prop := h1.1 = h.1 ∧ h.2.length ≤ h1.2.length ∧ slotsOf h ≤ slotsOf h1
theorem hLe.rf (h : Hp) : hLe h h := ⟨rfl, Nat.le_refl _, Nat.le_refl _⟩
theorem hLe.tr {a b c : Hp} (h : hLe a b) (h2 : hLe b c) : hLe a c := ⟨h2.1.trans h.1, Nat.le_trans h.2.1 h2.2.1, Nat.le_trans h.2.2 h2.2.2⟩
theorem sum_set {l : List HC} {i : Nat} {e e1 : HC} (h : l[i]? = some e) (hz : csz e1 = csz e) : ((l.set i e1).map csz).sum = (l.map csz).sum := by
  induction l generalizing i with
  | nil => simp at h
  | cons x t ih =>
    cases i with
    | zero => simp at h; subst h; simp [hz]
    | succ i =>
      rw [List.getElem?_cons_succ] at h
      rw [List.set_cons_succ, List.map_cons, List.map_cons, List.sum_cons, List.sum_cons, ih h]
theorem hLe.set {h : Hp} {a : Nat} {e e1 : HC} (ha : hGet h a = some e) (h2 : 2 ≤ a) (hz : csz e1 = csz e) : hLe h (hSet h a e1) := by
  obtain ⟨b, rfl⟩ : ∃ b, a = b + 2 := ⟨a - 2, by omega⟩
  refine ⟨rfl, by simp [hSet], ?_⟩
  have h3 : h.2[b]? = some e := ha
  show (h.2.map csz).sum ≤ ((h.2.set (b + 2 - 2) e1).map csz).sum
  rw [Nat.add_sub_cancel, sum_set h3 hz]
  exact Nat.le_refl _
theorem hLe.new {h : Hp} {es : List HC} : hLe h (hNew h es) := by
  refine ⟨rfl, by simp [hNew], ?_⟩
  show (h.2.map csz).sum ≤ ((h.2 ++ es).map csz).sum
  simp
theorem obj_ge {h : Hp} {a : Nat} {q : Nat × List Value} (ha : hGet h a = some (.inr q)) : 2 ≤ a := by
  match a, ha with
  | 0, ha => simp [hGet] at ha
  | 1, ha => simp [hGet] at ha
  | a + 2, _ => omega
theorem tag_ge {h : Hp} {a t : Nat} {x : vp_A} (ha : hGet h a = some (.inl (t, x))) (ht : t ≠ 0) : 2 ≤ a := by
  match a, ha with
  | 0, ha => simp [hGet] at ha; omega
  | 1, ha => simp [hGet] at ha; omega
  | a + 2, _ => omega
/-! inversion of the heap's operations -/
theorem getF_inv {h : Hp} {ci k a : Nat} {v : Value} (e : getF h ci k a = some v) : ∃ fs, hGet h a = some (.inr (ci, fs)) ∧ fs[k]? = some v := by
  unfold getF at e
  split at e
  · rename_i c fs hg
    split at e
    · rename_i hc
      subst hc
      exact ⟨fs, hg, e⟩
    · cases e
  · cases e
theorem putF_inv {h h1 : Hp} {ci k a : Nat} {v : Value} (e : putF h ci k a v = some h1) : ∃ fs, hGet h a = some (.inr (ci, fs)) ∧ k < fs.length ∧ okF (fTy ci k) v = true ∧ h1 = hSet h a (.inr (ci, fs.set k v)) := by
  unfold putF at e
  split at e
  · rename_i c fs hg
    split at e
    · rename_i hc
      obtain ⟨rfl, h2, h3⟩ := hc
      exact ⟨fs, hg, h2, h3, (Option.some.inj e).symm⟩
    · cases e
  · cases e
theorem inB_iff {i : Int32} {n : Nat} : inB i n = true ↔ vp_in i n := by
  unfold inB vp_in
  simp only [Bool.and_eq_true, Bool.not_eq_true', decide_eq_false_iff_not, decide_eq_true_eq, not_or, Nat.not_le]
theorem ialdF_inv {h : Hp} {a : Nat} {i x : Int32} (e : ialdF h a i = some x) : ∃ n f, hGet h a = some (.inl (0, n, .inl f)) ∧ vp_in i n ∧ x = f i.toNatClampNeg := by
  unfold ialdF at e
  split at e
  · rename_i n f hg
    split at e
    · rename_i hc
      exact ⟨n, f, hg, inB_iff.mp hc, (Option.some.inj e).symm⟩
    · cases e
  · cases e
theorem iastF_inv {h h1 : Hp} {a : Nat} {i x : Int32} (e : iastF h a i x = some h1) : ∃ n f, hGet h a = some (.inl (0, n, .inl f)) ∧ 2 ≤ a ∧ vp_in i n ∧ h1 = hSet h a (.inl (0, n, .inl (upd f i.toNatClampNeg x))) := by
  unfold iastF at e
  split at e
  · rename_i n f hg
    split at e
    · rename_i hc
      exact ⟨n, f, hg, hc.1, inB_iff.mp hc.2, (Option.some.inj e).symm⟩
    · cases e
  · cases e
theorem baldF_inv {h : Hp} {a : Nat} {i x : Int32} (e : baldF h a i = some x) : ∃ n f, hGet h a = some (.inl (1, n, .inl f)) ∧ vp_in i n ∧ x = f i.toNatClampNeg := by
  unfold baldF at e
  split at e
  · rename_i n f hg
    split at e
    · rename_i hc
      exact ⟨n, f, hg, inB_iff.mp hc, (Option.some.inj e).symm⟩
    · cases e
  · cases e
theorem bastF_inv {h h1 : Hp} {a : Nat} {i x : Int32} (e : bastF h a i x = some h1) : ∃ n f, hGet h a = some (.inl (1, n, .inl f)) ∧ (x = 0 ∨ x = 1) ∧ vp_in i n ∧ h1 = hSet h a (.inl (1, n, .inl (upd f i.toNatClampNeg x))) := by
  unfold bastF at e
  split at e
  · rename_i n f hg
    split at e
    · rename_i hc
      exact ⟨n, f, hg, hc.1, inB_iff.mp hc.2, (Option.some.inj e).symm⟩
    · cases e
  · cases e
theorem aaldF_inv {h : Hp} {a x : Nat} {i : Int32} (e : aaldF h a i = some x) : ∃ t n f, hGet h a = some (.inl (t, n, .inr (.inr (.inr (.inr f))))) ∧ (t = 2 ∨ t = 3 ∨ t = 4) ∧ vp_in i n ∧ f i.toNatClampNeg = some x := by
  unfold aaldF at e
  split at e
  · rename_i t n f hg
    split at e
    · rename_i hc
      exact ⟨t, n, f, hg, hc.1, inB_iff.mp hc.2, e⟩
    · cases e
  · cases e
theorem aastF_inv {h h1 : Hp} {a v : Nat} {i : Int32} (e : aastF h a i v = some h1) : ∃ t n f ci fs, hGet h a = some (.inl (t, n, .inr (.inr (.inr (.inr f))))) ∧ hGet h v = some (.inr (ci, fs)) ∧ ((t = 3 ∧ ci = 4) ∨ (t = 4 ∧ ci = 2)) ∧ vp_in i n ∧ h1 = hSet h a (.inl (t, n, .inr (.inr (.inr (.inr (va_up f i.toNatClampNeg (some v))))))) := by
  unfold aastF at e
  split at e
  · rename_i t n f ci fs hg hv
    split at e
    · rename_i hc
      exact ⟨t, n, f, ci, fs, hg, hv, hc.1, inB_iff.mp hc.2, (Option.some.inj e).symm⟩
    · cases e
  · cases e
theorem alenF_inv {h : Hp} {a n : Nat} (e : alenF h a = some n) : ∃ f, hGet h a = some (.inl (0, n, .inl f)) := by
  unfold alenF at e
  split at e
  · rename_i n f hg
    cases e
    exact ⟨f, hg⟩
  · cases e
theorem acopyF_inv {h h1 : Hp} {a0 a1 : Nat} {sp dp n : Int32} (e : acopyF h a0 a1 sp dp n = some h1) : ∃ n0 f n1 g, hGet h a0 = some (.inl (0, n0, .inl f)) ∧ hGet h a1 = some (.inl (0, n1, .inl g)) ∧ (2 ≤ a0 ∧ 2 ≤ a1 ∧ ¬ sp < 0 ∧ ¬ dp < 0 ∧ ¬ n < 0 ∧ sp.toNatClampNeg + n.toNatClampNeg ≤ n0 ∧ dp.toNatClampNeg + n.toNatClampNeg ≤ n1) ∧ h1 = hSet h a1 (.inl (0, n1, .inl (va_cpy f g sp.toNatClampNeg dp.toNatClampNeg n.toNatClampNeg))) := by
  unfold acopyF at e
  split at e
  · rename_i n0 f n1 g hg hg1
    split at e
    · rename_i hc
      exact ⟨n0, f, n1, g, hg, hg1, hc, (Option.some.inj e).symm⟩
    · cases e
  · cases e
