theorem putF_le {h h1 : Hp} {ci k a : Nat} {v : Value} (e : putF h ci k a v = some h1) : hLe h h1 := by
  obtain ⟨fs, hg, -, -, rfl⟩ := putF_inv e
  exact hLe.set hg (obj_ge hg) (by simp [csz])
theorem iastF_le {h h1 : Hp} {a : Nat} {i x : Int32} (e : iastF h a i x = some h1) : hLe h h1 := by
  obtain ⟨n, f, hg, h2, -, rfl⟩ := iastF_inv e
  exact hLe.set hg h2 rfl
theorem bastF_le {h h1 : Hp} {a : Nat} {i x : Int32} (e : bastF h a i x = some h1) : hLe h h1 := by
  obtain ⟨n, f, hg, -, -, rfl⟩ := bastF_inv e
  exact hLe.set hg (tag_ge hg (by decide)) rfl
theorem aastF_le {h h1 : Hp} {a v : Nat} {i : Int32} (e : aastF h a i v = some h1) : hLe h h1 := by
  obtain ⟨t, n, f, ci, fs, hg, -, ht, -, rfl⟩ := aastF_inv e
  exact hLe.set hg (tag_ge hg (by omega)) rfl
theorem acopyF_le {h h1 : Hp} {a0 a1 : Nat} {sp dp n : Int32} (e : acopyF h a0 a1 sp dp n = some h1) : hLe h h1 := by
  obtain ⟨n0, f, n1, g, -, hg1, hc, rfl⟩ := acopyF_inv e
  exact hLe.set hg1 hc.2.1 rfl
/-! a step goes on at one place, or ends -/
def Cn (h : Hp) (F : NX → Rs) : Prop := ∀ (k : NX) (x : Int32 × Hp), F k = some x → (∃ pc L st h1, hLe h h1 ∧ k pc L st h1 = some x ∧ ∀ k' : NX, k' pc L st h1 = some x → F k' = some x) ∨ (hLe h x.2 ∧ ∀ k' : NX, F k' = some x)
theorem cn_no {h : Hp} : Cn h (fun _ => none) := fun k x e => by cases e
theorem cn_go {h h1 : Hp} {pc : Nat} {L st : List Value} (hl : hLe h h1) : Cn h (fun k => k pc L st h1) := fun k x e => Or.inl ⟨pc, L, st, h1, hl, e, fun k' e' => e'⟩
theorem cn_done {h : Hp} {y : Int32 × Hp} (hl : hLe h y.2) : Cn h (fun _ => some y) := fun k x e => by
  cases e
  exact Or.inr ⟨hl, fun _ => rfl⟩
theorem cn_ite {h : Hp} {c : Prop} {hd : Decidable c} {F G : NX → Rs} (a : c → Cn h F) (b : ¬ c → Cn h G) : Cn h (fun k => if c then F k else G k) := by
  by_cases hc : c
  · simp only [hc, if_true]
    exact a hc
  · simp only [hc, if_false]
    exact b hc
theorem cn_bind {α : Type} {h : Hp} {o : Option α} {F : α → NX → Rs} (a : ∀ y, o = some y → Cn h (F y)) : Cn h (fun k => o.bind (fun y => F y k)) := by
  cases o with
  | none => exact cn_no
  | some y => exact a y rfl
theorem cn_jmp {h : Hp} {pc : Nat} {off : Int} {F : Nat → NX → Rs} (a : ∀ t, Cn h (F t)) : Cn h (fun k => jmp pc off (fun t => F t k)) := by
  unfold jmp
  exact cn_ite (fun _ => a _) (fun _ => cn_no)
theorem cn_popI {h : Hp} {st : List Value} {F : Int32 → List Value → NX → Rs} (a : ∀ x s, Cn h (F x s)) : Cn h (fun k => popI st (fun x s => F x s k)) := by
  unfold popI
  split
  · exact a _ _
  · exact cn_no
theorem cn_popI2 {h : Hp} {st : List Value} {F : Int32 → Int32 → List Value → NX → Rs} (a : ∀ x y s, Cn h (F x y s)) : Cn h (fun k => popI2 st (fun x y s => F x y s k)) := by
  unfold popI2
  split
  · exact a _ _ _
  · exact cn_no
theorem cn_popL {h : Hp} {st : List Value} {F : Int64 → List Value → NX → Rs} (a : ∀ x s, Cn h (F x s)) : Cn h (fun k => popL st (fun x s => F x s k)) := by
  unfold popL
  split
  · exact a _ _
  · exact cn_no
theorem cn_popL2 {h : Hp} {st : List Value} {F : Int64 → Int64 → List Value → NX → Rs} (a : ∀ x y s, Cn h (F x y s)) : Cn h (fun k => popL2 st (fun x y s => F x y s k)) := by
  unfold popL2
  split
  · exact a _ _ _
  · exact cn_no
theorem cn_popR {h : Hp} {st : List Value} {F : Nat → List Value → NX → Rs} (a : ∀ x s, Cn h (F x s)) : Cn h (fun k => popR st (fun x s => F x s k)) := by
  unfold popR
  split
  · exact a _ _
  · exact cn_no
theorem cn_popV {h : Hp} {st : List Value} {F : Value → List Value → NX → Rs} (a : ∀ x s, Cn h (F x s)) : Cn h (fun k => popV st (fun x s => F x s k)) := by
  unfold popV
  split
  · exact a _ _
  · exact cn_no
theorem cn_asI {h : Hp} {st : Value} {F : Int32 → NX → Rs} (a : ∀ x, Cn h (F x)) : Cn h (fun k => asI st (fun x => F x k)) := by
  unfold asI
  split
  · exact a _
  · exact cn_no
theorem cn_asL {h : Hp} {st : Value} {F : Int64 → NX → Rs} (a : ∀ x, Cn h (F x)) : Cn h (fun k => asL st (fun x => F x k)) := by
  unfold asL
  split
  · exact a _
  · exact cn_no
theorem cn_asR {h : Hp} {st : Value} {F : Nat → NX → Rs} (a : ∀ x, Cn h (F x)) : Cn h (fun k => asR st (fun x => F x k)) := by
  unfold asR
  split
  · exact a _
  · exact cn_no
set_option maxHeartbeats 4000000 in
theorem stepK_cn {call : Nat → List Value → Hp → Rs} (hc : ∀ y a h x, call y a h = some x → hLe h x.2) (rk : Nat) (ri : RI) (pc : Nat) (L st : List Value) (h : Hp) : Cn h (fun k => stepK call rk ri pc L st h k) := by
  obtain ⟨ins, a, b, c, v⟩ := ri
  cases ins
  case ifCond cd _ => cases cd <;> exact cn_popI (fun _ _ => cn_ite (fun _ => cn_go (hLe.rf h)) (fun _ => cn_go (hLe.rf h)))
  case if_icmp cd _ => cases cd <;> exact cn_popI2 (fun _ _ _ => cn_ite (fun _ => cn_go (hLe.rf h)) (fun _ => cn_go (hLe.rf h)))
  all_goals dsimp only [stepK]
  all_goals try exact cn_no
  all_goals try exact cn_go (hLe.rf h)
  all_goals try exact cn_asI (fun _ => cn_go (hLe.rf h))
  all_goals try exact cn_asL (fun _ => cn_go (hLe.rf h))
  all_goals try exact cn_asR (fun _ => cn_go (hLe.rf h))
  all_goals try exact cn_popI (fun _ _ => cn_go (hLe.rf h))
  all_goals try exact cn_popL (fun _ _ => cn_go (hLe.rf h))
  all_goals try exact cn_popI2 (fun _ _ _ => cn_go (hLe.rf h))
  all_goals try exact cn_popL2 (fun _ _ _ => cn_go (hLe.rf h))
  all_goals try exact cn_popI2 (fun _ _ _ => cn_ite (fun _ => cn_no) (fun _ => cn_go (hLe.rf h)))
  all_goals try exact cn_popL2 (fun _ _ _ => cn_ite (fun _ => cn_no) (fun _ => cn_go (hLe.rf h)))
  all_goals try exact cn_popI (fun _ _ => cn_ite (fun _ => cn_go (hLe.rf h)) (fun _ => cn_no))
  all_goals try exact cn_popR (fun _ _ => cn_ite (fun _ => cn_go (hLe.rf h)) (fun _ => cn_no))
  all_goals try exact cn_popL (fun _ _ => cn_ite (fun _ => cn_go (hLe.rf h)) (fun _ => cn_no))
  all_goals try exact cn_asI (fun _ => cn_ite (fun _ => cn_go (hLe.rf h)) (fun _ => cn_no))
  all_goals try exact cn_popV (fun _ _ => cn_ite (fun _ => cn_no) (fun _ => cn_go (hLe.rf h)))
  case dup2 => exact cn_popV (fun _ _ => cn_popV (fun _ _ => cn_ite (fun _ => cn_no) (fun _ => cn_go (hLe.rf h))))
  case tableswitch => exact cn_popI (fun _ _ => cn_ite (fun _ => cn_jmp (fun _ => cn_go (hLe.rf h))) (fun _ => cn_bind (fun _ _ => cn_jmp (fun _ => cn_go (hLe.rf h)))))
  case getfield => exact cn_popR (fun _ _ => cn_bind (fun _ _ => cn_go (hLe.rf h)))
  case putfield => exact cn_popV (fun _ _ => cn_popR (fun _ _ => cn_bind (fun _ e => cn_go (putF_le e))))
  case iaload => exact cn_popI (fun _ _ => cn_popR (fun _ _ => cn_bind (fun _ _ => cn_go (hLe.rf h))))
  case baload => exact cn_popI (fun _ _ => cn_popR (fun _ _ => cn_bind (fun _ _ => cn_go (hLe.rf h))))
  case aaload => exact cn_popI (fun _ _ => cn_popR (fun _ _ => cn_bind (fun _ _ => cn_go (hLe.rf h))))
  case iastore => exact cn_popI2 (fun _ _ _ => cn_popR (fun _ _ => cn_bind (fun _ e => cn_go (iastF_le e))))
  case bastore => exact cn_popI2 (fun _ _ _ => cn_popR (fun _ _ => cn_bind (fun _ e => cn_go (bastF_le e))))
  case aastore => exact cn_popR (fun _ _ => cn_popI (fun _ _ => cn_popR (fun _ _ => cn_bind (fun _ e => cn_go (aastF_le e)))))
  case arraylength => exact cn_popR (fun _ _ => cn_bind (fun _ _ => cn_go (hLe.rf h)))
  case new => exact cn_go hLe.new
  case newarray => exact cn_popI (fun _ _ => cn_ite (fun _ => cn_go hLe.new) (fun _ => cn_no))
  case anewarray => exact cn_popI (fun _ _ => cn_ite (fun _ => cn_go hLe.new) (fun _ => cn_no))
  case multianewarray => exact cn_popI2 (fun _ _ _ => cn_ite (fun _ => cn_go hLe.new) (fun _ => cn_no))
  case invokestatic => exact cn_ite (fun _ => cn_popI2 (fun _ _ _ => cn_ite (fun _ => cn_go (hLe.rf h)) (fun _ => cn_no))) (fun _ => cn_ite (fun _ => cn_popI2 (fun _ _ _ => cn_popR (fun _ _ => cn_popI (fun _ _ => cn_popR (fun _ _ => cn_ite (fun _ => cn_bind (fun _ e => cn_go (acopyF_le e))) (fun _ => cn_no)))))) (fun _ => cn_ite (fun _ => cn_bind (fun _ e => cn_go (hc _ _ _ _ e))) (fun _ => cn_no)))
  case invokevirtual => exact cn_ite (fun _ => cn_popR (fun _ _ => cn_ite (fun _ => cn_bind (fun _ e => cn_go (hc _ _ _ _ e))) (fun _ => cn_no))) (fun _ => cn_no)
  case invokespecial => exact cn_ite (fun _ => cn_popR (fun _ _ => cn_ite (fun _ => cn_go (hLe.rf h)) (fun _ => cn_no))) (fun _ => cn_ite (fun _ => cn_popR (fun _ _ => cn_ite (fun _ => cn_bind (fun _ e => cn_go (hc _ _ _ _ e))) (fun _ => cn_no))) (fun _ => cn_no))
  case ireturn => exact cn_popI (fun _ _ => cn_ite (fun _ => cn_done (hLe.rf h)) (fun _ => cn_no))
  case return_ => exact cn_ite (fun _ => cn_done (hLe.rf h)) (fun _ => cn_no)
/-! the value of a code, without a count of steps -/
section EVI
variable {call : Nat → List Value → Hp → Rs} (hc : ∀ y a h x, call y a h = some x → hLe h x.2)
theorem runI_mono1 (hc : ∀ y a h x, call y a h = some x → hLe h x.2) {t : CT} {rk : Nat} : ∀ (n pc : Nat) (L st : List Value) (h : Hp) (x : Int32 × Hp), runI call t rk n pc L st h = some x → runI call t rk (n + 1) pc L st h = some x
  | 0, pc, L, st, h, x, e => by cases e
  | n + 1, pc, L, st, h, x, e => by
    rcases stepK_cn hc rk (Kc t pc) pc L st h (runI call t rk n) x e with ⟨pc1, L1, st1, h1, -, e1, e2⟩ | ⟨-, e2⟩
    · exact e2 (runI call t rk (n + 1)) (runI_mono1 hc n pc1 L1 st1 h1 x e1)
    · exact e2 _
theorem runI_mono (hc : ∀ y a h x, call y a h = some x → hLe h x.2) {t : CT} {rk n pc : Nat} {L st : List Value} {h : Hp} {x : Int32 × Hp} (e : runI call t rk n pc L st h = some x) : ∀ m, runI call t rk (n + m) pc L st h = some x
  | 0 => e
  | m + 1 => runI_mono1 hc _ _ _ _ _ _ (runI_mono hc e m)
theorem runI_le (hc : ∀ y a h x, call y a h = some x → hLe h x.2) {t : CT} {rk : Nat} : ∀ (n pc : Nat) (L st : List Value) (h : Hp) (x : Int32 × Hp), runI call t rk n pc L st h = some x → hLe h x.2
  | 0, pc, L, st, h, x, e => by cases e
  | n + 1, pc, L, st, h, x, e => by
    rcases stepK_cn hc rk (Kc t pc) pc L st h (runI call t rk n) x e with ⟨pc1, L1, st1, h1, hl, e1, e2⟩ | ⟨hl, e2⟩
    · exact hl.tr (runI_le hc n pc1 L1 st1 h1 x e1)
    · exact hl
end EVI
noncomputable def EvI (call : Nat → List Value → Hp → Rs) (t : CT) (rk pc : Nat) (L st : List Value) (h : Hp) : Rs :=
  @dite _ (∃ n x, runI call t rk n pc L st h = some x) (Classical.propDecidable _) (fun e => runI call t rk (Classical.choose e) pc L st h) (fun _ => none)
section EVJ
variable {call : Nat → List Value → Hp → Rs} (hc : ∀ y a h x, call y a h = some x → hLe h x.2) {t : CT} {rk : Nat}
theorem EvI_run (hc : ∀ y a h x, call y a h = some x → hLe h x.2) {n pc : Nat} {L st : List Value} {h : Hp} {x : Int32 × Hp} (e : runI call t rk n pc L st h = some x) : EvI call t rk pc L st h = some x := by
  have hh : ∃ n x, runI call t rk n pc L st h = some x := ⟨n, x, e⟩
  unfold EvI
  rw [dif_pos hh]
  obtain ⟨y, hy⟩ := Classical.choose_spec hh
  generalize Classical.choose hh = m at hy ⊢
  rcases Nat.le_total n m with q | q
  · have := runI_mono hc e (m - n)
    rw [show n + (m - n) = m by omega] at this
    exact this
  · have := runI_mono hc hy (n - m)
    rw [show m + (n - m) = n by omega, e] at this
    rw [hy, ← this]
theorem EvI_inv {pc : Nat} {L st : List Value} {h : Hp} {x : Int32 × Hp} (e : EvI call t rk pc L st h = some x) : ∃ n, runI call t rk n pc L st h = some x := by
  unfold EvI at e
  split at e
  · exact ⟨_, e⟩
  · cases e
theorem EvI_step (hc : ∀ y a h x, call y a h = some x → hLe h x.2) (pc : Nat) (L st : List Value) (h : Hp) : EvI call t rk pc L st h = stepK call rk (Kc t pc) pc L st h (EvI call t rk) := by
  have h1 : ∀ x, EvI call t rk pc L st h = some x → stepK call rk (Kc t pc) pc L st h (EvI call t rk) = some x := by
    intro x e
    obtain ⟨n, hn⟩ := EvI_inv e
    cases n with
    | zero => cases hn
    | succ n =>
      rcases stepK_cn hc rk (Kc t pc) pc L st h (runI call t rk n) x hn with ⟨pc1, L1, st1, h1, -, e1, e2⟩ | ⟨-, e2⟩
      · exact e2 _ (EvI_run hc e1)
      · exact e2 _
  have h2 : ∀ x, stepK call rk (Kc t pc) pc L st h (EvI call t rk) = some x → EvI call t rk pc L st h = some x := by
    intro x e
    rcases stepK_cn hc rk (Kc t pc) pc L st h (EvI call t rk) x e with ⟨pc1, L1, st1, h1, -, e1, e2⟩ | ⟨-, e2⟩
    · obtain ⟨n, hn⟩ := EvI_inv e1
      exact EvI_run hc (n := n + 1) (e2 (runI call t rk n) hn)
    · exact EvI_run hc (n := 1) (e2 (runI call t rk 0))
  cases hx : stepK call rk (Kc t pc) pc L st h (EvI call t rk) with
  | some x => exact h2 x hx
  | none =>
    cases hy : EvI call t rk pc L st h with
    | none => rfl
    | some y => rw [h1 y hy] at hx; cases hx
/-- several steps, up to places where it stops -/
noncomputable def blk (call : Nat → List Value → Hp → Rs) (t : CT) (rk : Nat) (cut : List Nat) : Nat → NX
  | 0, pc, L, st, h => EvI call t rk pc L st h
  | n + 1, pc, L, st, h => if cut.elem pc = true then EvI call t rk pc L st h else stepK call rk (Kc t pc) pc L st h (blk call t rk cut n)
theorem blk_eq (hc : ∀ y a h x, call y a h = some x → hLe h x.2) (cut : List Nat) : ∀ n, blk call t rk cut n = EvI call t rk
  | 0 => rfl
  | n + 1 => by
    funext pc L st h
    rw [blk, blk_eq hc cut n]
    split
    · rfl
    · exact (EvI_step hc pc L st h).symm
theorem EvI_go (hc : ∀ y a h x, call y a h = some x → hLe h x.2) (cut : List Nat) (n pc : Nat) (L st : List Value) (h : Hp) : EvI call t rk pc L st h = stepK call rk (Kc t pc) pc L st h (blk call t rk cut n) := by
  rw [blk_eq hc cut n]
  exact EvI_step hc pc L st h
end EVJ
