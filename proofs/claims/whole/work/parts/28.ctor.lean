/-! ===== runs by computation: what does not look at the script's length runs alike over every script ===== -/
def cM (n : Nat) : Nat → Nat → List Value → Hp → Rs
  | 0, _, _, _ => none
  | d + 1, y, as, h => if (flt as).length ≤ (mI y).2.2.1 then runI (cM n d) (KT y) (mI y).2.2.2.1 n 0 (entL (mI y).2.2.1 as) [] h else none
def sc0 : Nat × (Nat → Int32) := (0, fun _ => 0)
def noAl (q : Nat × RI × Nat) : Bool := match q.2.1 with
  | (.arraylength, _, _, _, _) => false
  | _ => true
section SCR
variable {scr : Nat × (Nat → Int32)} {l : List HC}
theorem hg_sc {a : Nat} {e : HC} (h : hGet (sc0, l) a = some e) (hne : a ≠ 1) : hGet (scr, l) a = some e := by
  match a, h, hne with
  | 0, h, _ => exact h
  | 1, _, hne => exact absurd rfl hne
  | a + 2, h, _ => exact h
theorem getF_sc {ci k a : Nat} {v : Value} (e : getF (sc0, l) ci k a = some v) : getF (scr, l) ci k a = some v := by
  obtain ⟨fs, hg, hv⟩ := getF_inv e
  have h2 := obj_ge hg
  unfold getF
  rw [hg_sc hg (by omega)]
  simp [hv]
theorem putF_sc {ci k a : Nat} {v : Value} {h1 : Hp} (e : putF (sc0, l) ci k a v = some h1) : h1.1 = sc0 ∧ putF (scr, l) ci k a v = some (scr, h1.2) := by
  obtain ⟨fs, hg, hk, hok, rfl⟩ := putF_inv e
  have h2 := obj_ge hg
  refine ⟨rfl, ?_⟩
  unfold putF
  rw [hg_sc hg (by omega)]
  simp only [hk, hok, and_self, if_true]
  rfl
theorem ialdF_sc {a : Nat} {i x : Int32} (e : ialdF (sc0, l) a i = some x) : ialdF (scr, l) a i = some x := by
  obtain ⟨n, f, hg, hi, rfl⟩ := ialdF_inv e
  have hne : a ≠ 1 := fun z => by
    subst z
    simp only [hGet, Option.some.injEq, Sum.inl.injEq, Prod.mk.injEq, true_and] at hg
    obtain ⟨rfl, -⟩ := hg
    exact hi (Or.inr (Nat.zero_le _))
  unfold ialdF
  rw [hg_sc hg hne]
  simp only [inB_iff.mpr hi, if_true]
theorem iastF_sc {a : Nat} {i x : Int32} {h1 : Hp} (e : iastF (sc0, l) a i x = some h1) : h1.1 = sc0 ∧ iastF (scr, l) a i x = some (scr, h1.2) := by
  obtain ⟨n, f, hg, h2, hi, rfl⟩ := iastF_inv e
  refine ⟨rfl, ?_⟩
  unfold iastF
  rw [hg_sc hg (by omega)]
  simp only [inB_iff.mpr hi, h2, and_self, if_true]
  rfl
theorem baldF_sc {a : Nat} {i x : Int32} (e : baldF (sc0, l) a i = some x) : baldF (scr, l) a i = some x := by
  obtain ⟨n, f, hg, hi, rfl⟩ := baldF_inv e
  have h2 := tag_ge hg (by decide)
  unfold baldF
  rw [hg_sc hg (by omega)]
  simp only [inB_iff.mpr hi, if_true]
theorem bastF_sc {a : Nat} {i x : Int32} {h1 : Hp} (e : bastF (sc0, l) a i x = some h1) : h1.1 = sc0 ∧ bastF (scr, l) a i x = some (scr, h1.2) := by
  obtain ⟨n, f, hg, h01, hi, rfl⟩ := bastF_inv e
  have h2 := tag_ge hg (by decide)
  refine ⟨rfl, ?_⟩
  unfold bastF
  rw [hg_sc hg (by omega)]
  simp only [inB_iff.mpr hi, h01, and_self, if_true]
  rfl
theorem aaldF_sc {a x : Nat} {i : Int32} (e : aaldF (sc0, l) a i = some x) : aaldF (scr, l) a i = some x := by
  obtain ⟨t, n, f, hg, ht, hi, hv⟩ := aaldF_inv e
  have h2 := tag_ge hg (by omega)
  unfold aaldF
  rw [hg_sc hg (by omega)]
  simp only [inB_iff.mpr hi, ht, and_self, if_true, hv]
theorem aastF_sc {a v : Nat} {i : Int32} {h1 : Hp} (e : aastF (sc0, l) a i v = some h1) : h1.1 = sc0 ∧ aastF (scr, l) a i v = some (scr, h1.2) := by
  obtain ⟨t, n, f, ci, fs, hg, hgv, ht, hi, rfl⟩ := aastF_inv e
  have h2 := tag_ge hg (by omega)
  have h3 := obj_ge hgv
  refine ⟨rfl, ?_⟩
  unfold aastF
  rw [hg_sc hg (by omega), hg_sc hgv (by omega)]
  simp only [inB_iff.mpr hi, ht, and_self, if_true]
  rfl
theorem acopyF_sc {a0 a1 : Nat} {sp dp n : Int32} {h1 : Hp} (e : acopyF (sc0, l) a0 a1 sp dp n = some h1) : h1.1 = sc0 ∧ acopyF (scr, l) a0 a1 sp dp n = some (scr, h1.2) := by
  obtain ⟨k0, f, k1, g, hg0, hg1, hc, rfl⟩ := acopyF_inv e
  refine ⟨rfl, ?_⟩
  unfold acopyF
  rw [hg_sc hg0 (by omega), hg_sc hg1 (by omega)]
  simp only [hc, not_false_eq_true, and_self, if_true]
  rfl
theorem clsB_sc {r ci : Nat} : clsB (sc0, l) r ci = clsB (scr, l) r ci := by
  match r with
  | 0 => rfl
  | 1 => rfl
  | r + 2 => rfl
def RR (scr : Nat × (Nat → Int32)) (o0 o1 : Rs) : Prop := ∀ x, o0 = some x → x.2.1 = sc0 ∧ o1 = some (x.1, (scr, x.2.2))
theorem rr_no {o : Rs} : RR scr none o := fun x e => by cases e
theorem rr_ite {c : Prop} {hd hd' : Decidable c} {a a' b b' : Rs} (h1 : c → RR scr a a') (h2 : ¬ c → RR scr b b') : RR scr (@ite _ c hd a b) (@ite _ c hd' a' b') := by
  by_cases hc : c
  · rw [if_pos hc, if_pos hc]; exact h1 hc
  · rw [if_neg hc, if_neg hc]; exact h2 hc
theorem rr_bind {α : Type} {o : Option α} {F G : α → Rs} (a : ∀ y, RR scr (F y) (G y)) : RR scr (o.bind F) (o.bind G) := by
  cases o with
  | none => exact rr_no
  | some y => exact a y
theorem rr_bind2 {α β : Type} {o0 : Option α} {o1 : Option β} {F : α → Rs} {G : β → Rs} (a : ∀ y, o0 = some y → ∃ z, o1 = some z ∧ RR scr (F y) (G z)) : RR scr (o0.bind F) (o1.bind G) := by
  cases o0 with
  | none => exact rr_no
  | some y =>
    obtain ⟨z, e, h⟩ := a y rfl
    rw [e]
    exact h
theorem rr_jmp {pc : Nat} {off : Int} {F G : Nat → Rs} (a : ∀ t, RR scr (F t) (G t)) : RR scr (jmp pc off F) (jmp pc off G) := rr_ite (fun _ => a _) (fun _ => rr_no)
theorem rr_popI {st : List Value} {F G : Int32 → List Value → Rs} (a : ∀ x s, RR scr (F x s) (G x s)) : RR scr (popI st F) (popI st G) := by
  unfold popI
  split
  · exact a _ _
  · exact rr_no
theorem rr_popI2 {st : List Value} {F G : Int32 → Int32 → List Value → Rs} (a : ∀ x y s, RR scr (F x y s) (G x y s)) : RR scr (popI2 st F) (popI2 st G) := by
  unfold popI2
  split
  · exact a _ _ _
  · exact rr_no
theorem rr_popL {st : List Value} {F G : Int64 → List Value → Rs} (a : ∀ x s, RR scr (F x s) (G x s)) : RR scr (popL st F) (popL st G) := by
  unfold popL
  split
  · exact a _ _
  · exact rr_no
theorem rr_popL2 {st : List Value} {F G : Int64 → Int64 → List Value → Rs} (a : ∀ x y s, RR scr (F x y s) (G x y s)) : RR scr (popL2 st F) (popL2 st G) := by
  unfold popL2
  split
  · exact a _ _ _
  · exact rr_no
theorem rr_popR {st : List Value} {F G : Nat → List Value → Rs} (a : ∀ x s, RR scr (F x s) (G x s)) : RR scr (popR st F) (popR st G) := by
  unfold popR
  split
  · exact a _ _
  · exact rr_no
theorem rr_popV {st : List Value} {F G : Value → List Value → Rs} (a : ∀ x s, RR scr (F x s) (G x s)) : RR scr (popV st F) (popV st G) := by
  unfold popV
  split
  · exact a _ _
  · exact rr_no
theorem rr_asI {v : Value} {F G : Int32 → Rs} (a : ∀ x, RR scr (F x) (G x)) : RR scr (asI v F) (asI v G) := by
  unfold asI
  split
  · exact a _
  · exact rr_no
theorem rr_asL {v : Value} {F G : Int64 → Rs} (a : ∀ x, RR scr (F x) (G x)) : RR scr (asL v F) (asL v G) := by
  unfold asL
  split
  · exact a _
  · exact rr_no
theorem rr_asR {v : Value} {F G : Nat → Rs} (a : ∀ x, RR scr (F x) (G x)) : RR scr (asR v F) (asR v G) := by
  unfold asR
  split
  · exact a _
  · exact rr_no
theorem rr_hp {F : Hp → Rs} {G : Hp → Rs} {o0 o1 : Option Hp} (he : ∀ h1, o0 = some h1 → h1.1 = sc0 ∧ o1 = some (scr, h1.2)) (a : ∀ l1, RR scr (F (sc0, l1)) (G (scr, l1))) : RR scr (o0.bind F) (o1.bind G) := rr_bind2 (fun h1 e => by
  obtain ⟨s0, l1⟩ := h1
  obtain ⟨e1, e2⟩ := he _ e
  cases e1
  exact ⟨_, e2, a l1⟩)
set_option maxHeartbeats 4000000 in
theorem stepK_sc {call0 call1 : Nat → List Value → Hp → Rs} (hcall : ∀ y a l, RR scr (call0 y a (sc0, l)) (call1 y a (scr, l))) {k0 k1 : NX} (hk : ∀ pc L st l, RR scr (k0 pc L st (sc0, l)) (k1 pc L st (scr, l))) (rk : Nat) (ri : RI) (pc wi : Nat) (hal : noAl (pc, ri, wi) = true) (L st : List Value) (l : List HC) : RR scr (stepK call0 rk ri pc L st (sc0, l) k0) (stepK call1 rk ri pc L st (scr, l) k1) := by
  obtain ⟨ins, a, b, c, v⟩ := ri
  have hcl : ∀ y as l (F G : Int32 × Hp → Rs), (∀ r l1, RR scr (F (r, (sc0, l1))) (G (r, (scr, l1)))) → RR scr ((call0 y as (sc0, l)).bind F) ((call1 y as (scr, l)).bind G) := fun y as l F G hFG => rr_bind2 (fun q e => by
    obtain ⟨r, s0, l1⟩ := q
    obtain ⟨e1, e2⟩ := hcall y as l _ e
    cases e1
    exact ⟨_, e2, hFG r l1⟩)
  cases ins
  case ifCond cd _ => cases cd <;> exact rr_popI (fun _ _ => rr_ite (fun _ => hk _ _ _ _) (fun _ => hk _ _ _ _))
  case if_icmp cd _ => cases cd <;> exact rr_popI2 (fun _ _ _ => rr_ite (fun _ => hk _ _ _ _) (fun _ => hk _ _ _ _))
  case arraylength => cases hal
  all_goals dsimp only [stepK]
  all_goals try exact rr_no
  all_goals try exact hk _ _ _ _
  all_goals try exact rr_asI (fun _ => hk _ _ _ _)
  all_goals try exact rr_asL (fun _ => hk _ _ _ _)
  all_goals try exact rr_asR (fun _ => hk _ _ _ _)
  all_goals try exact rr_popI (fun _ _ => hk _ _ _ _)
  all_goals try exact rr_popL (fun _ _ => hk _ _ _ _)
  all_goals try exact rr_popI2 (fun _ _ _ => hk _ _ _ _)
  all_goals try exact rr_popL2 (fun _ _ _ => hk _ _ _ _)
  all_goals try exact rr_popI2 (fun _ _ _ => rr_ite (fun _ => rr_no) (fun _ => hk _ _ _ _))
  all_goals try exact rr_popL2 (fun _ _ _ => rr_ite (fun _ => rr_no) (fun _ => hk _ _ _ _))
  all_goals try exact rr_popI (fun _ _ => rr_ite (fun _ => hk _ _ _ _) (fun _ => rr_no))
  all_goals try exact rr_popR (fun _ _ => rr_ite (fun _ => hk _ _ _ _) (fun _ => rr_no))
  all_goals try exact rr_popL (fun _ _ => rr_ite (fun _ => hk _ _ _ _) (fun _ => rr_no))
  all_goals try exact rr_asI (fun _ => rr_ite (fun _ => hk _ _ _ _) (fun _ => rr_no))
  all_goals try exact rr_popV (fun _ _ => rr_ite (fun _ => rr_no) (fun _ => hk _ _ _ _))
  case dup2 => exact rr_popV (fun _ _ => rr_popV (fun _ _ => rr_ite (fun _ => rr_no) (fun _ => hk _ _ _ _)))
  case tableswitch => exact rr_popI (fun _ _ => rr_ite (fun _ => rr_jmp (fun _ => hk _ _ _ _)) (fun _ => rr_bind (fun _ => rr_jmp (fun _ => hk _ _ _ _))))
  case getfield => exact rr_popR (fun _ _ => rr_bind2 (fun y e => ⟨y, getF_sc e, hk _ _ _ _⟩))
  case putfield => exact rr_popV (fun _ _ => rr_popR (fun _ _ => rr_hp (fun _ e => putF_sc e) (fun _ => hk _ _ _ _)))
  case iaload => exact rr_popI (fun _ _ => rr_popR (fun _ _ => rr_bind2 (fun y e => ⟨y, ialdF_sc e, hk _ _ _ _⟩)))
  case baload => exact rr_popI (fun _ _ => rr_popR (fun _ _ => rr_bind2 (fun y e => ⟨y, baldF_sc e, hk _ _ _ _⟩)))
  case aaload => exact rr_popI (fun _ _ => rr_popR (fun _ _ => rr_bind2 (fun y e => ⟨y, aaldF_sc e, hk _ _ _ _⟩)))
  case iastore => exact rr_popI2 (fun _ _ _ => rr_popR (fun _ _ => rr_hp (fun _ e => iastF_sc e) (fun _ => hk _ _ _ _)))
  case bastore => exact rr_popI2 (fun _ _ _ => rr_popR (fun _ _ => rr_hp (fun _ e => bastF_sc e) (fun _ => hk _ _ _ _)))
  case aastore => exact rr_popR (fun _ _ => rr_popI (fun _ _ => rr_popR (fun _ _ => rr_hp (fun _ e => aastF_sc e) (fun _ => hk _ _ _ _))))
  case multianewarray => exact rr_popI2 (fun _ _ _ => rr_ite (fun _ => hk _ _ _ _) (fun _ => rr_no))
  case invokestatic => exact rr_ite (fun _ => rr_popI2 (fun _ _ _ => rr_ite (fun _ => hk _ _ _ _) (fun _ => rr_no))) (fun _ => rr_ite (fun _ => rr_popI2 (fun _ _ _ => rr_popR (fun _ _ => rr_popI (fun _ _ => rr_popR (fun _ _ => rr_ite (fun _ => rr_hp (fun _ e => acopyF_sc e) (fun _ => hk _ _ _ _)) (fun _ => rr_no)))))) (fun _ => rr_ite (fun _ => hcl _ _ _ _ _ (fun _ _ => hk _ _ _ _)) (fun _ => rr_no)))
  case invokevirtual =>
    exact rr_ite (fun _ => rr_popR (fun r _ => by rw [clsB_sc (scr := scr)]; exact rr_ite (fun _ => hcl _ _ _ _ _ (fun _ _ => hk _ _ _ _)) (fun _ => rr_no))) (fun _ => rr_no)
  case invokespecial => exact rr_ite (fun _ => rr_popR (fun _ _ => rr_ite (fun _ => hk _ _ _ _) (fun _ => rr_no))) (fun _ => rr_ite (fun _ => rr_popR (fun _ _ => rr_ite (fun _ => hcl _ _ _ _ _ (fun _ _ => hk _ _ _ _)) (fun _ => rr_no))) (fun _ => rr_no))
  case ireturn => exact rr_popI (fun _ _ => rr_ite (fun _ x e => by cases e; exact ⟨rfl, rfl⟩) (fun _ => rr_no))
  case return_ => exact rr_ite (fun _ x e => by cases e; exact ⟨rfl, rfl⟩) (fun _ => rr_no)
end SCR
theorem noAl_at {t : CT} (h : t.all noAl = true) (pc : Nat) : ∃ wi, noAl (pc, Kc t pc, wi) = true := by
  unfold Kc
  cases hl : t.lookup pc with
  | none => exact ⟨0, rfl⟩
  | some q =>
    have hm : (pc, q) ∈ t := by
      clear h
      induction t with
      | nil => simp at hl
      | cons x t ih =>
        obtain ⟨a, b⟩ := x
        rw [List.lookup_cons] at hl
        by_cases e : pc == a
        · simp only [e] at hl
          cases hl
          rw [eq_of_beq e]
          exact List.mem_cons_self
        · simp only [e] at hl
          exact List.mem_cons_of_mem _ (ih hl)
    exact ⟨q.2, List.all_eq_true.mp h (pc, q) hm⟩
theorem run_sc {scr : Nat × (Nat → Int32)} {call0 call1 : Nat → List Value → Hp → Rs} (hcall : ∀ y a l, RR scr (call0 y a (sc0, l)) (call1 y a (scr, l))) {t : CT} (ht : t.all noAl = true) (rk : Nat) : ∀ (n pc : Nat) (L st : List Value) (l : List HC), RR scr (runI call0 t rk n pc L st (sc0, l)) (runI call1 t rk n pc L st (scr, l))
  | 0, _, _, _, _ => rr_no
  | n + 1, pc, L, st, l => by
    obtain ⟨wi, h⟩ := noAl_at ht pc
    exact stepK_sc hcall (run_sc hcall ht rk n) rk (Kc t pc) pc wi h L st l
set_option maxRecDepth 100000 in
theorem noAl_all : cts.all (fun t => t.all noAl) = true := by decide +kernel
theorem noAl_KT (y : Nat) : (KT y).all noAl = true := by
  unfold KT
  rw [List.getD_eq_getElem?_getD]
  cases h : cts[y]? with
  | none => rfl
  | some t => exact List.all_eq_true.mp noAl_all t (List.mem_of_getElem? h)
theorem cM_ev {scr : Nat × (Nat → Int32)} (n : Nat) : ∀ (d y : Nat) (as : List Value) (l : List HC), RR scr (cM n d y as (sc0, l)) (EvM d y as (scr, l))
  | 0, _, _, _ => rr_no
  | d + 1, y, as, l => by
    rw [cM, EvM]
    refine rr_ite (fun _ x e => ?_) (fun _ => rr_no)
    obtain ⟨e1, e2⟩ := run_sc (cM_ev n d) (noAl_KT y) _ n 0 _ [] l x e
    exact ⟨e1, EvI_run (EvM_le d) e2⟩
/-! the heap behind both constructors -/
def shV (v : Value) : Nat := match v with
  | .int _ => 1
  | .ref a => a + 2
  | _ => 0
def shC : HC → Nat × Nat × Nat × List Nat
  | .inl (t, n, .inl _) => (0, t, n, [])
  | .inl (t, n, .inr (.inr (.inr (.inr f)))) => (1, t, n, (List.range n).map (fun i => match f i with
    | some a => a + 2
    | none => 0))
  | .inl (t, n, _) => (3, t, n, [])
  | .inr (ci, fs) => (2, ci, fs.length, fs.map shV)
def vlC : HC → List Int32
  | .inl (_, n, .inl f) => (List.range n).map f
  | .inl _ => []
  | .inr (_, fs) => fs.map (fun v => match v with
    | .int x => x
    | _ => 0)
def ct1 : Rs := cM 1000 8 85 [.ref 2] (sc0, [.inr (8, dflt 8)])
def L1 : List HC := match ct1 with
  | some q => q.2.2
  | none => []
def ct2 : Rs := cM 1000 8 130 [.ref (L1.length + 2)] (sc0, L1 ++ [.inr (9, dflt 9)])
def L2 : List HC := match ct2 with
  | some q => q.2.2
  | none => []
