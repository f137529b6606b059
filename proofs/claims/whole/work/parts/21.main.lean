/-! ===== a step of the abstract machine is a stretch of the real one ===== -/
def chk2 (q : Nat × RI × Nat) : Bool := match q.2.1 with
  | (.invokestatic _, a, _, _, _) => decide (a = 1000 ∨ a = 1001) || mSt a
  | (.invokevirtual _, a, _, _, _) => !mSt a && decide ((mI a).1.name ≠ "<init>")
  | (.invokespecial _, a, _, _, _) => decide (a = 1002) || !mSt a
  | _ => true
theorem chkT_at2 {own : String} {cc : ByteArray} {nL : Nat} {mn : String} {t : CT} (h : chkT own cc nL mn t = true) (h2 : t.all chk2 = true) (pc : Nat) : (∃ wi, chk own cc nL mn pc (Kc t pc) wi = true ∧ chk2 (pc, Kc t pc, wi) = true) ∨ Kc t pc = ri0 := by
  unfold Kc
  cases hl : t.lookup pc with
  | none => exact Or.inr rfl
  | some q =>
    have hm : (pc, q) ∈ t := by
      clear h h2
      induction t with
      | nil => simp at hl
      | cons x t ih =>
        obtain ⟨a, b⟩ := x
        rw [List.lookup_cons] at hl
        by_cases e : pc == a
        · simp only [e] at hl
          cases hl
          rw [eq_of_beq e]
          exact List.mem_cons_self
        · simp only [e] at hl
          exact List.mem_cons_of_mem _ (ih hl)
    exact Or.inl ⟨q.2, List.all_eq_true.mp h (pc, q) hm, List.all_eq_true.mp h2 (pc, q) hm⟩
theorem chk_dec1 {own : String} {cc : ByteArray} {nL : Nat} {mn : String} {pc wi a b c : Nat} {v : Int32} {ins : Instr} (h : chk own cc nL mn pc (ins, a, b, c, v) wi = true) (hi : ∀ x : Bool, chk own cc nL mn pc (ins, a, b, c, v) wi = (decide (decode cc pc = .ok (ins, 1)) && x) ∨ chk own cc nL mn pc (ins, a, b, c, v) wi = decide (decode cc pc = .ok (ins, 1))) : decode cc pc = .ok (ins, 1) := by
  rcases hi true with e | e <;> rw [e] at h <;> simpa using h
section MS
variable {p : Program} {l : Launch} {e : Env} {R : Room} {s : State} {m : MethodId} {args : Array Value} {below : List Frame} {meth : Method} {c : Code} {Q : State → Prop} {own : String} {cc : ByteArray} {nL : Nat} {mn : String} {d base S b : Nat} {dC : Nat → ClassId} {dI : Nat → Nat → Nat} {cA : Nat → ClassId} {scr : Nat × (Nat → Int32)} {n0 z0 rk : Nat}
theorem tv_i (ad : Nat → Nat) (x : Int32) (st : List Value) : (Value.int x :: st).map (tv ad) = .int x :: st.map (tv ad) := rfl
set_option maxHeartbeats 8000000 in
theorem step_sound (C : Cx p R s m args meth c own cc nL mn d base S b dC dI cA scr) (IH : ∀ y as h r h1, EvM d y as h = some (r, h1) → y < 221 → h.1 = scr → MetX l base S b dC dI cA d y as h r h1)
    (hmulti : ∀ (i pc : Nat) (L st : List Value) (h : Hp) (x y : Int32), decode cc pc = .ok (.multianewarray i 2, 4) → Cond.classLink own i "[[I" ∈ tblG → 0 ≤ x → 0 ≤ y → x.toNatClampNeg ≤ 10000 → y.toNatClampNeg ≤ 10000 → (n0 ≤ h.2.length ∧ z0 ≤ slotsOf h) → ((hNew h (mkMulti h x.toNatClampNeg y.toNatClampNeg)).2.length - n0 ≤ R.cells ∧ slotsOf (hNew h (mkMulti h x.toNatClampNeg y.toNatClampNeg)) - z0 ≤ R.slots) →
      Sn p l e R s m args below meth c Q nL base S b dC dI cA n0 z0 (pc + 4) L (.ref (h.2.length + 2) :: st) (hNew h (mkMulti h x.toNatClampNeg y.toNatClampNeg)) → Sn p l e R s m args below meth c Q nL base S b dC dI cA n0 z0 pc L (.int y :: .int x :: st) h)
    {ri : RI} {pc wi : Nat} {L st : List Value} {h h9 : Hp} {r : Int32} {k : NX} (hs : stepK (EvM d) rk ri pc L st h k = some (r, h9)) (hc : chk own cc nL mn pc ri wi = true) (hc2 : chk2 (pc, ri, wi) = true)
    (hk : ∀ pc1 L1 st1 h1, hLe h h1 → hLe h1 h9 → k pc1 L1 st1 h1 = some (r, h9) → Sn p l e R s m args below meth c Q nL base S b dC dI cA n0 z0 pc1 L1 st1 h1) (hkl : ∀ pc1 L1 st1 h1, k pc1 L1 st1 h1 = some (r, h9) → hLe h1 h9)
    (hscr : h.1 = scr) (hz1 : n0 ≤ h.2.length ∧ z0 ≤ slotsOf h) (hlim : h9.2.length - n0 ≤ R.cells ∧ slotsOf h9 - z0 ≤ R.slots)
    (hretI : ∀ (pc : Nat) (L : List Value), decode cc pc = .ok (.ireturn, 1) → okR rk r = true → Sn p l e R s m args below meth c Q nL base S b dC dI cA n0 z0 pc L [.int r] h9)
    (hretV : ∀ (pc : Nat) (L : List Value), decode cc pc = .ok (.return_, 1) → rk = 0 → Sn p l e R s m args below meth c Q nL base S b dC dI cA n0 z0 pc L [] h9) :
    Sn p l e R s m args below meth c Q nL base S b dC dI cA n0 z0 pc L st h := by
  have hR := C.2.2.2.2.2.2.1
  have hts := C.2.2.2.2.1
  have hx := C.1
  have hb := C.2.1
  have hml := C.2.2.1
  have hown := C.2.2.2.1
  have go : ∀ {pc1 L1 st1}, k pc1 L1 st1 h = some (r, h9) → Sn p l e R s m args below meth c Q nL base S b dC dI cA n0 z0 pc1 L1 st1 h := fun hq => hk _ _ _ _ (hLe.rf h) (hkl _ _ _ _ hq) hq
  obtain ⟨ins, a, bb, cq, v⟩ := ri
  cases ins
  case iconst n =>
    simp only [chk, Bool.and_eq_true, decide_eq_true_eq] at hc
    exact fun H locs ls hl hG hS => lv_iconst hx hb hc.1 hc.2 (go hs H locs ls hl hG hS)
  case bipush n =>
    simp only [chk, Bool.and_eq_true, decide_eq_true_eq] at hc
    exact fun H locs ls hl hG hS => lv_bipush hx hb hc.1 hc.2 (go hs H locs ls hl hG hS)
  case sipush n =>
    simp only [chk, Bool.and_eq_true, decide_eq_true_eq] at hc
    exact fun H locs ls hl hG hS => lv_sipush hx hb hc.1 hc.2 (go hs H locs ls hl hG hS)
  case ldc n =>
    simp only [chk, Bool.and_eq_true, decide_eq_true_eq] at hc
    exact fun H locs ls hl hG hS => lv_ldc hx hb hown (hts _ (wd_in hc.2)) hc.1 (go hs H locs ls hl hG hS)
  case ldc_w n =>
    simp only [chk, Bool.and_eq_true, decide_eq_true_eq] at hc
    exact fun H locs ls hl hG hS => lv_ldcw hx hb hown (hts _ (wd_in hc.2)) hc.1 (go hs H locs ls hl hG hS)
  case lconst n =>
    simp only [chk, Bool.and_eq_true, decide_eq_true_eq] at hc
    exact fun H locs ls hl hG hS => lv_lconst hx hb hc.1 hc.2 (go hs H locs ls hl hG hS)
  case ldc2_w n =>
    simp only [chk, Bool.and_eq_true, decide_eq_true_eq] at hc
    exact fun H locs ls hl hG hS => lv_ldc2 hx hb hown (hts _ (wd_in hc.2)) hc.1 (go hs H locs ls hl hG hS)
  case iload_n n =>
    simp only [chk, Bool.and_eq_true, decide_eq_true_eq] at hc
    obtain ⟨y, e1, e2⟩ := asI_inv hs
    exact fun H locs ls hl hG hS => lv_iload_n hx hb hc.1 hc.2 (lsR_at hl e1 (by simp)) (go e2 H locs ls hl hG hS)
  case iload n =>
    simp only [chk, Bool.and_eq_true, decide_eq_true_eq] at hc
    obtain ⟨y, e1, e2⟩ := asI_inv hs
    obtain ⟨hc, rfl⟩ := hc
    exact fun H locs ls hl hG hS => lv_iload hx hb hc (lsR_at hl e1 (by simp)) (go e2 H locs ls hl hG hS)
  case lload_n n =>
    simp only [chk, Bool.and_eq_true, decide_eq_true_eq] at hc
    obtain ⟨y, e1, e2⟩ := asL_inv hs
    exact fun H locs ls hl hG hS => lv_lload_n hx hb hc.1 hc.2 (lsR_at hl e1 (by simp)) (go e2 H locs ls hl hG hS)
  case lload n =>
    simp only [chk, Bool.and_eq_true, decide_eq_true_eq] at hc
    obtain ⟨y, e1, e2⟩ := asL_inv hs
    obtain ⟨hc, rfl⟩ := hc
    exact fun H locs ls hl hG hS => lv_lload hx hb hc (lsR_at hl e1 (by simp)) (go e2 H locs ls hl hG hS)
  case aload_n n =>
    simp only [chk, Bool.and_eq_true, decide_eq_true_eq] at hc
    obtain ⟨y, e1, e2⟩ := asR_inv hs
    exact fun H locs ls hl hG hS => lv_aload_n hx hb hc.1 hc.2 (lsR_at hl e1 (by simp)) (go e2 H locs ls hl hG hS)
  case aload n =>
    simp only [chk, Bool.and_eq_true, decide_eq_true_eq] at hc
    obtain ⟨y, e1, e2⟩ := asR_inv hs
    obtain ⟨hc, rfl⟩ := hc
    exact fun H locs ls hl hG hS => lv_aload hx hb hc (lsR_at hl e1 (by simp)) (go e2 H locs ls hl hG hS)
  case istore_n n =>
    simp only [chk, Bool.and_eq_true, decide_eq_true_eq] at hc
    obtain ⟨y, q, rfl, e2⟩ := popI_inv hs
    obtain ⟨ok, e2⟩ := if_inv e2
    exact fun H locs ls hl hG hS => lv_istore_n hx hb hc.1.1 hc.1.2 hl hc.2 rfl (fun ls' hl' => go e2 H locs ls' (lsR_st1 ok hl') hG hS)
  case istore n =>
    simp only [chk, Bool.and_eq_true, decide_eq_true_eq] at hc
    obtain ⟨y, q, rfl, e2⟩ := popI_inv hs
    obtain ⟨ok, e2⟩ := if_inv e2
    obtain ⟨⟨hc, rfl⟩, hc3⟩ := hc
    exact fun H locs ls hl hG hS => lv_istore hx hb hc hl hc3 rfl (fun ls' hl' => go e2 H locs ls' (lsR_st1 ok hl') hG hS)
  case astore_n n =>
    simp only [chk, Bool.and_eq_true, decide_eq_true_eq] at hc
    obtain ⟨y, q, rfl, e2⟩ := popR_inv hs
    obtain ⟨ok, e2⟩ := if_inv e2
    exact fun H locs ls hl hG hS => lv_astore_n hx hb hc.1.1 hc.1.2 hl hc.2 rfl (fun ls' hl' => go e2 H locs ls' (lsR_st1 (v := .ref y) ok hl') hG hS)
  case astore n =>
    simp only [chk, Bool.and_eq_true, decide_eq_true_eq] at hc
    obtain ⟨y, q, rfl, e2⟩ := popR_inv hs
    obtain ⟨ok, e2⟩ := if_inv e2
    obtain ⟨⟨hc, rfl⟩, hc3⟩ := hc
    exact fun H locs ls hl hG hS => lv_astore hx hb hc hl hc3 rfl (fun ls' hl' => go e2 H locs ls' (lsR_st1 (v := .ref y) ok hl') hG hS)
  case lstore_n n =>
    simp only [chk, Bool.and_eq_true, decide_eq_true_eq] at hc
    obtain ⟨y, q, rfl, e2⟩ := popL_inv hs
    obtain ⟨ok, e2⟩ := if_inv e2
    exact fun H locs ls hl hG hS => lv_lstore_n hx hb hc.1.1 hc.1.2 hl hc.2 rfl (fun ls' hl' => go e2 H locs ls' (lsR_st2 (v := .long y) ok hl') hG hS)
  case iinc i n =>
    simp only [chk, Bool.and_eq_true, decide_eq_true_eq] at hc
    obtain ⟨y, e1, e2⟩ := asI_inv hs
    obtain ⟨ok, e2⟩ := if_inv e2
    obtain ⟨⟨⟨hc, rfl⟩, rfl⟩, hc3⟩ := hc
    intro H locs ls hl hG hS
    have hm : (i, Value.int y) ∈ lvl (adr base S b) L := lvl_mem.mpr ⟨by rw [e1]; simp, by rw [e1]; rfl⟩
    obtain ⟨kk, hkk⟩ := List.getElem?_of_mem hm
    exact lv_iinc hx hb hc hl hkk rfl hc3 rfl (fun ls' hl' => go e2 H locs ls' (lsR_st1 (v := .int (y + Int32.ofInt n)) ok hl') hG hS)
  case iadd =>
    obtain ⟨y, z, q, rfl, e2⟩ := popI2_inv hs
    exact fun H locs ls hl hG hS => lv_iadd hx hb (of_decide_eq_true hc) (go e2 H locs ls hl hG hS)
  case isub =>
    obtain ⟨y, z, q, rfl, e2⟩ := popI2_inv hs
    exact fun H locs ls hl hG hS => lv_isub hx hb (of_decide_eq_true hc) (go e2 H locs ls hl hG hS)
  case imul =>
    obtain ⟨y, z, q, rfl, e2⟩ := popI2_inv hs
    exact fun H locs ls hl hG hS => lv_imul hx hb (of_decide_eq_true hc) (go e2 H locs ls hl hG hS)
  case iand =>
    obtain ⟨y, z, q, rfl, e2⟩ := popI2_inv hs
    exact fun H locs ls hl hG hS => lv_iand hx hb (of_decide_eq_true hc) (go e2 H locs ls hl hG hS)
  case ior =>
    obtain ⟨y, z, q, rfl, e2⟩ := popI2_inv hs
    exact fun H locs ls hl hG hS => lv_ior hx hb (of_decide_eq_true hc) (go e2 H locs ls hl hG hS)
  case ixor =>
    obtain ⟨y, z, q, rfl, e2⟩ := popI2_inv hs
    exact fun H locs ls hl hG hS => lv_ixor hx hb (of_decide_eq_true hc) (go e2 H locs ls hl hG hS)
  case ishl =>
    obtain ⟨y, z, q, rfl, e2⟩ := popI2_inv hs
    exact fun H locs ls hl hG hS => lv_ishl hx hb (of_decide_eq_true hc) (go e2 H locs ls hl hG hS)
  case ishr =>
    obtain ⟨y, z, q, rfl, e2⟩ := popI2_inv hs
    exact fun H locs ls hl hG hS => lv_ishr hx hb (of_decide_eq_true hc) (go e2 H locs ls hl hG hS)
  case idiv =>
    obtain ⟨y, z, q, rfl, e2⟩ := popI2_inv hs
    obtain ⟨ne, e2⟩ := ifn_inv e2
    exact fun H locs ls hl hG hS => lv_idiv hx hb (of_decide_eq_true hc) ne (go e2 H locs ls hl hG hS)
  case irem =>
    obtain ⟨y, z, q, rfl, e2⟩ := popI2_inv hs
    obtain ⟨ne, e2⟩ := ifn_inv e2
    exact fun H locs ls hl hG hS => lv_irem hx hb (of_decide_eq_true hc) ne (go e2 H locs ls hl hG hS)
  case ineg =>
    obtain ⟨y, q, rfl, e2⟩ := popI_inv hs
    exact fun H locs ls hl hG hS => lv_ineg hx hb (of_decide_eq_true hc) (go e2 H locs ls hl hG hS)
  case ladd =>
    obtain ⟨y, z, q, rfl, e2⟩ := popL2_inv hs
    exact fun H locs ls hl hG hS => lv_ladd hx hb (of_decide_eq_true hc) (go e2 H locs ls hl hG hS)
  case lmul =>
    obtain ⟨y, z, q, rfl, e2⟩ := popL2_inv hs
    exact fun H locs ls hl hG hS => lv_lmul hx hb (of_decide_eq_true hc) (go e2 H locs ls hl hG hS)
  case ldiv =>
    obtain ⟨y, z, q, rfl, e2⟩ := popL2_inv hs
    obtain ⟨ne, e2⟩ := ifn_inv e2
    exact fun H locs ls hl hG hS => lv_ldiv hx hb (of_decide_eq_true hc) ne (go e2 H locs ls hl hG hS)
  case lrem =>
    obtain ⟨y, z, q, rfl, e2⟩ := popL2_inv hs
    obtain ⟨ne, e2⟩ := ifn_inv e2
    exact fun H locs ls hl hG hS => lv_lrem hx hb (of_decide_eq_true hc) ne (go e2 H locs ls hl hG hS)
  case lcmp =>
    obtain ⟨y, z, q, rfl, e2⟩ := popL2_inv hs
    exact fun H locs ls hl hG hS => W.lcmp hx hb (of_decide_eq_true hc) (go e2 H locs ls hl hG hS)
  case i2l =>
    obtain ⟨y, q, rfl, e2⟩ := popI_inv hs
    exact fun H locs ls hl hG hS => lv_i2l hx hb (of_decide_eq_true hc) rfl (go e2 H locs ls hl hG hS)
  case l2i =>
    obtain ⟨y, q, rfl, e2⟩ := popL_inv hs
    exact fun H locs ls hl hG hS => lv_l2i hx hb (of_decide_eq_true hc) rfl (go e2 H locs ls hl hG hS)
  case i2b =>
    obtain ⟨y, q, rfl, e2⟩ := popI_inv hs
    exact fun H locs ls hl hG hS => lv_i2b hx hb (of_decide_eq_true hc) rfl (go e2 H locs ls hl hG hS)
  case i2s =>
    obtain ⟨y, q, rfl, e2⟩ := popI_inv hs
    exact fun H locs ls hl hG hS => lv_i2s hx hb (of_decide_eq_true hc) rfl (go e2 H locs ls hl hG hS)
  case dup =>
    obtain ⟨y, q, rfl, e2⟩ := popV_inv hs
    obtain ⟨ne, e2⟩ := ifn_inv e2
    exact fun H locs ls hl hG hS => lv_dup hx hb (of_decide_eq_true hc) (by rw [tv_cat]; exact cat1 ne) (go e2 H locs ls hl hG hS)
  case dup2 =>
    obtain ⟨y, q, rfl, e2⟩ := popV_inv hs
    obtain ⟨z, q, rfl, e2⟩ := popV_inv e2
    obtain ⟨ne, e2⟩ := ifn_inv e2
    exact fun H locs ls hl hG hS => lv_dup2_11 hx hb (of_decide_eq_true hc) (by rw [tv_cat]; exact cat1 (fun z => ne (Or.inl z))) (by rw [tv_cat]; exact cat1 (fun z => ne (Or.inr z))) (go e2 H locs ls hl hG hS)
  case pop =>
    obtain ⟨y, q, rfl, e2⟩ := popV_inv hs
    obtain ⟨ne, e2⟩ := ifn_inv e2
    exact fun H locs ls hl hG hS => lv_pop hx hb (of_decide_eq_true hc) (by rw [tv_cat]; exact cat1 ne) (go e2 H locs ls hl hG hS)
  case goto o =>
    simp only [chk, Bool.and_eq_true, decide_eq_true_eq] at hc
    exact fun H locs ls hl hG hS => lv_goto hx hb hc.1 hc.2 (go hs H locs ls hl hG hS)
  case ifCond cd o =>
    simp only [chk, Bool.and_eq_true, decide_eq_true_eq] at hc
    cases cd
    case eq =>
      obtain ⟨y, q, rfl, e2⟩ := popI_inv hs
      exact fun H locs ls hl hG hS => lv_if_eq hx hb hc.1 hc.2 (fun z => go (by simpa only [z, if_true] using e2) H locs ls hl hG hS) (fun z => go (by simpa only [z, if_false] using e2) H locs ls hl hG hS)
    case ne =>
      obtain ⟨y, q, rfl, e2⟩ := popI_inv hs
      exact fun H locs ls hl hG hS => lv_if_ne hx hb hc.1 hc.2 (fun z => go (by simpa only [z, if_false] using e2) H locs ls hl hG hS) (fun z => go (by simpa only [z, if_true] using e2) H locs ls hl hG hS)
    case lt =>
      obtain ⟨y, q, rfl, e2⟩ := popI_inv hs
      exact fun H locs ls hl hG hS => lv_if_lt hx hb hc.1 hc.2 (fun z => go (by simpa only [z, if_true] using e2) H locs ls hl hG hS) (fun z => go (by simpa only [z, if_false] using e2) H locs ls hl hG hS)
    case ge =>
      obtain ⟨y, q, rfl, e2⟩ := popI_inv hs
      exact fun H locs ls hl hG hS => lv_if_ge hx hb hc.1 hc.2 (fun z => go (by simpa only [z, if_true] using e2) H locs ls hl hG hS) (fun z => go (by simpa only [z, if_false] using e2) H locs ls hl hG hS)
    case gt =>
      obtain ⟨y, q, rfl, e2⟩ := popI_inv hs
      exact fun H locs ls hl hG hS => lv_if_gt hx hb hc.1 hc.2 (fun z => go (by simpa only [z, if_true] using e2) H locs ls hl hG hS) (fun z => go (by simpa only [z, if_false] using e2) H locs ls hl hG hS)
    case le =>
      obtain ⟨y, q, rfl, e2⟩ := popI_inv hs
      exact fun H locs ls hl hG hS => lv_if_le hx hb hc.1 hc.2 (fun z => go (by simpa only [z, if_true] using e2) H locs ls hl hG hS) (fun z => go (by simpa only [z, if_false] using e2) H locs ls hl hG hS)
  case if_icmp cd o =>
    simp only [chk, Bool.and_eq_true, decide_eq_true_eq] at hc
    cases cd
    case eq =>
      obtain ⟨x, y, q, rfl, e2⟩ := popI2_inv hs
      exact fun H locs ls hl hG hS => lv_icmp_eq hx hb hc.1 hc.2 (fun z => go (by simpa only [z, if_true] using e2) H locs ls hl hG hS) (fun z => go (by simpa only [z, if_false] using e2) H locs ls hl hG hS)
    case ne =>
      obtain ⟨x, y, q, rfl, e2⟩ := popI2_inv hs
      exact fun H locs ls hl hG hS => lv_icmp_ne hx hb hc.1 hc.2 (fun z => go (by simpa only [z, if_false] using e2) H locs ls hl hG hS) (fun z => go (by simpa only [z, if_true] using e2) H locs ls hl hG hS)
    case lt =>
      obtain ⟨x, y, q, rfl, e2⟩ := popI2_inv hs
      exact fun H locs ls hl hG hS => lv_icmp_lt hx hb hc.1 hc.2 (fun z => go (by simpa only [z, if_true] using e2) H locs ls hl hG hS) (fun z => go (by simpa only [z, if_false] using e2) H locs ls hl hG hS)
    case ge =>
      obtain ⟨x, y, q, rfl, e2⟩ := popI2_inv hs
      exact fun H locs ls hl hG hS => lv_icmp_ge hx hb hc.1 hc.2 (fun z => go (by simpa only [z, if_true] using e2) H locs ls hl hG hS) (fun z => go (by simpa only [z, if_false] using e2) H locs ls hl hG hS)
    case gt =>
      obtain ⟨x, y, q, rfl, e2⟩ := popI2_inv hs
      exact fun H locs ls hl hG hS => lv_icmp_gt hx hb hc.1 hc.2 (fun z => go (by simpa only [z, if_true] using e2) H locs ls hl hG hS) (fun z => go (by simpa only [z, if_false] using e2) H locs ls hl hG hS)
    case le =>
      obtain ⟨x, y, q, rfl, e2⟩ := popI2_inv hs
      exact fun H locs ls hl hG hS => lv_icmp_le hx hb hc.1 hc.2 (fun z => go (by simpa only [z, if_true] using e2) H locs ls hl hG hS) (fun z => go (by simpa only [z, if_false] using e2) H locs ls hl hG hS)
  case tableswitch dd lo hi offs =>
    have hc := of_decide_eq_true hc
    obtain ⟨y, q, rfl, e2⟩ := popI_inv hs
    intro H locs ls hl hG hS
    by_cases hcase : y.toInt < lo ∨ hi < y.toInt
    · rw [if_pos hcase] at e2
      obtain ⟨nn, e2⟩ := if_inv e2
      exact lv_tableOut hx hb hc hcase (Int.toNat_of_nonneg nn).symm (go e2 H locs ls hl hG hS)
    · rw [if_neg hcase] at e2
      obtain ⟨o, ho, e2⟩ := bind_inv e2
      obtain ⟨nn, e2⟩ := if_inv e2
      exact lv_tableIn hx hb hc (fun z => hcase (Or.inl z)) (fun z => hcase (Or.inr z)) ho (Int.toNat_of_nonneg nn).symm (go e2 H locs ls hl hG hS)
  case lookupswitch dd ps =>
    simp only [chk, Bool.and_eq_true, decide_eq_true_eq] at hc
    obtain ⟨y, q, rfl, e2⟩ := popI_inv hs
    obtain ⟨nn, e2⟩ := if_inv e2
    exact fun H locs ls hl hG hS => lv_lookup hx hb hc.1 hc.2 rfl (Int.toNat_of_nonneg nn).symm (go e2 H locs ls hl hG hS)
  case getfield i =>
    simp only [chk, Bool.and_eq_true, decide_eq_true_eq] at hc
    obtain ⟨y, q, rfl, e2⟩ := popR_inv hs
    obtain ⟨w, e1, e2⟩ := bind_inv e2
    obtain ⟨fs, hg, hv⟩ := getF_inv e1
    obtain ⟨hd, hc⟩ := hc
    split at hc
    · rename_i Cn T N hcl
      simp only [Bool.and_eq_true, decide_eq_true_eq] at hc
      exact sn_getfield C hd hcl hc.1 (wd_in hc.2) hg hv (go e2)
    · cases hc
  case putfield i =>
    simp only [chk, Bool.and_eq_true, decide_eq_true_eq] at hc
    obtain ⟨w, q, rfl, e2⟩ := popV_inv hs
    obtain ⟨y, q, rfl, e2⟩ := popR_inv e2
    obtain ⟨h1, e1, e2⟩ := bind_inv e2
    obtain ⟨fs, hg, hkl1, hok, rfl⟩ := putF_inv e1
    obtain ⟨hd, hc⟩ := hc
    split at hc
    · rename_i Cn T N hcl
      simp only [Bool.and_eq_true, decide_eq_true_eq, Bool.or_eq_true, Bool.not_eq_true', beq_iff_eq] at hc
      exact sn_putfield C hd hcl hc.1.1 (wd_in hc.1.2) hc.2 hg hkl1 hok (hk _ _ _ _ (putF_le e1) (hkl _ _ _ _ e2) e2)
    · cases hc
  case getstatic i =>
    simp only [chk, Bool.and_eq_true, decide_eq_true_eq] at hc
    exact sn_getstatic C hc.1 (wdN_in hc.2) (go hs)
  case iaload =>
    obtain ⟨i, q, rfl, e2⟩ := popI_inv hs
    obtain ⟨y, q, rfl, e2⟩ := popR_inv e2
    obtain ⟨x, e1, e2⟩ := bind_inv e2
    obtain ⟨n, f, hg, hi, rfl⟩ := ialdF_inv e1
    exact sn_iaload C hscr (of_decide_eq_true hc) hg hi (go e2)
  case baload =>
    obtain ⟨i, q, rfl, e2⟩ := popI_inv hs
    obtain ⟨y, q, rfl, e2⟩ := popR_inv e2
    obtain ⟨x, e1, e2⟩ := bind_inv e2
    obtain ⟨n, f, hg, hi, rfl⟩ := baldF_inv e1
    exact sn_baload C (of_decide_eq_true hc) hg hi (go e2)
  case aaload =>
    obtain ⟨i, q, rfl, e2⟩ := popI_inv hs
    obtain ⟨y, q, rfl, e2⟩ := popR_inv e2
    obtain ⟨x, e1, e2⟩ := bind_inv e2
    obtain ⟨t, n, f, hg, ht, hi, hv⟩ := aaldF_inv e1
    exact sn_aaload C (of_decide_eq_true hc) hg ht hi hv (go e2)
  case iastore =>
    obtain ⟨i, x, q, rfl, e2⟩ := popI2_inv hs
    obtain ⟨y, q, rfl, e2⟩ := popR_inv e2
    obtain ⟨h1, e1, e2⟩ := bind_inv e2
    obtain ⟨n, f, hg, h2, hi, rfl⟩ := iastF_inv e1
    exact sn_iastore C (of_decide_eq_true hc) hg h2 hi (hk _ _ _ _ (iastF_le e1) (hkl _ _ _ _ e2) e2)
  case bastore =>
    obtain ⟨i, x, q, rfl, e2⟩ := popI2_inv hs
    obtain ⟨y, q, rfl, e2⟩ := popR_inv e2
    obtain ⟨h1, e1, e2⟩ := bind_inv e2
    obtain ⟨n, f, hg, h01, hi, rfl⟩ := bastF_inv e1
    exact sn_bastore C (of_decide_eq_true hc) hg h01 hi (hk _ _ _ _ (bastF_le e1) (hkl _ _ _ _ e2) e2)
  case aastore =>
    obtain ⟨w, q, rfl, e2⟩ := popR_inv hs
    obtain ⟨i, q, rfl, e2⟩ := popI_inv e2
    obtain ⟨y, q, rfl, e2⟩ := popR_inv e2
    obtain ⟨h1, e1, e2⟩ := bind_inv e2
    obtain ⟨t, n, f, ci, fs, hg, hgv, ht, hi, rfl⟩ := aastF_inv e1
    exact sn_aastore C (of_decide_eq_true hc) hg hgv ht hi (hk _ _ _ _ (aastF_le e1) (hkl _ _ _ _ e2) e2)
  case arraylength =>
    obtain ⟨y, q, rfl, e2⟩ := popR_inv hs
    obtain ⟨n, e1, e2⟩ := bind_inv e2
    obtain ⟨f, hg⟩ := alenF_inv e1
    exact sn_alen C hscr (of_decide_eq_true hc) hg (go e2)
  case new i =>
    simp only [chk, Bool.and_eq_true, decide_eq_true_eq] at hc
    obtain ⟨hd, hc⟩ := hc
    split at hc
    · rename_i Cn T N hcl
      have hle := hkl _ _ _ _ hs
      exact sn_new C hd hcl (wd_in hc) hz1 (by obtain ⟨-, a1, a2⟩ := hle; omega) (hk _ _ _ _ hLe.new hle hs)
    · cases hc
  case newarray ty =>
    simp only [chk, Bool.and_eq_true, decide_eq_true_eq, Bool.or_eq_true] at hc
    obtain ⟨n, q, rfl, e2⟩ := popI_inv hs
    obtain ⟨hn, e2⟩ := if_inv e2
    have hle := hkl _ _ _ _ e2
    exact sn_newarray C hc.1 hc.2 hn.1 hn.2.1 hz1 (by obtain ⟨-, a1, a2⟩ := hle; omega) (hk _ _ _ _ hLe.new hle e2)
  case anewarray i =>
    simp only [chk, Bool.and_eq_true, decide_eq_true_eq] at hc
    obtain ⟨n, q, rfl, e2⟩ := popI_inv hs
    obtain ⟨hn, e2⟩ := if_inv e2
    have hle := hkl _ _ _ _ e2
    exact sn_anewarray C hc.1 hn.2.2 (wd_in hc.2) hn.1 hn.2.1 hz1 (by obtain ⟨-, a1, a2⟩ := hle; omega) (hk _ _ _ _ hLe.new hle e2)
  case multianewarray i n =>
    simp only [chk, Bool.and_eq_true, decide_eq_true_eq] at hc
    obtain ⟨x, y, q, rfl, e2⟩ := popI2_inv hs
    obtain ⟨hn, e2⟩ := if_inv e2
    have hle := hkl _ _ _ _ e2
    obtain ⟨⟨hd, rfl⟩, hw⟩ := hc
    exact hmulti i pc L q h x y hd (wd_in hw) hn.1 hn.2.1 hn.2.2.1 hn.2.2.2 hz1 (by obtain ⟨-, a1, a2⟩ := hle; omega) (hk _ _ _ _ hLe.new hle e2)
  case invokestatic i =>
    simp only [chk, Bool.and_eq_true, decide_eq_true_eq] at hc
    obtain ⟨hd, hc⟩ := hc
    dsimp only [stepK] at hs
    by_cases a1000 : a = 1000
    · rw [if_pos a1000] at hs hc
      obtain ⟨x, y, q, rfl, e2⟩ := popI2_inv hs
      obtain ⟨hcat, e2⟩ := if_inv e2
      intro H locs ls hl hG hS
      exact va_mmin hx hb (by rw [hml]; exact hl.1.symm) hown (hts _ (wd_in hc)) (hts _ w_sMin) (hts _ w_iM) (hts _ w_cMin) (by omega) (by rw [catS_eq]; omega) (by obtain ⟨-, a1, a2⟩ := hkl _ _ _ _ e2; omega) (by obtain ⟨-, a1, a2⟩ := hkl _ _ _ _ e2; omega) hd (go e2 H locs ls hl hG hS)
    · rw [if_neg a1000] at hs hc
      by_cases a1001 : a = 1001
      · rw [if_pos a1001] at hs hc
        obtain ⟨dp, n, q, rfl, e2⟩ := popI2_inv hs
        obtain ⟨q1, q2, rfl, e3⟩ := popR_inv e2
        obtain ⟨sp, q3, rfl, e4⟩ := popI_inv e3
        obtain ⟨q0, q4, rfl, e5⟩ := popR_inv e4
        obtain ⟨hcat, e6⟩ := if_inv e5
        obtain ⟨h1, e1, e7⟩ := bind_inv e6
        obtain ⟨k0, f, k1, g, g0, g1, hcc, rfl⟩ := acopyF_inv e1
        exact sn_acopy C hd (wd_in hc) g0 g1 hcc hcat (hk _ _ _ _ (acopyF_le e1) (hkl _ _ _ _ e7) e7)
      · rw [if_neg a1001] at hs hc
        simp only [Bool.and_eq_true, decide_eq_true_eq] at hc
        obtain ⟨hl1, e2⟩ := if_inv hs
        obtain ⟨⟨r1, h1⟩, e1, e2⟩ := bind_inv e2
        obtain ⟨⟨⟨hy, hnp⟩, hrk⟩, hw⟩ := hc
        have hle := EvM_le d _ _ _ _ e1
        have hle2 := hkl _ _ _ _ e2
        have hst : mSt a = true := by
          simp only [chk2, Bool.or_eq_true, decide_eq_true_eq] at hc2
          rcases hc2 with z | z
          · rcases z with z | z
            · exact absurd z a1000
            · exact absurd z a1001
          · exact z
        have hlen : (List.take bb st).reverse.length = bb := by rw [List.length_reverse, List.length_take]; omega
        have key := sn_static (i := i) (st := st.drop bb) (L := L) (Q := Q) (e := e) (below := below) (pc := pc) C hscr (IH a _ h r1 h1 e1 hy hscr) hy hst hd (by
          split at hw
          · exact Or.inr (wdN_in hw)
          · exact Or.inl (wd_in hw)) (by rw [hlen]; exact hnp) hl1.2 hle hz1 (by obtain ⟨-, a1, a2⟩ := hle2; have a1 : h1.2.length ≤ h9.2.length := a1; have a2 : slotsOf h1 ≤ slotsOf h9 := a2; omega) (by rw [← hrk]; exact hk _ _ _ _ hle hle2 e2)
        rw [List.reverse_reverse, List.take_append_drop] at key
        exact key
  case invokevirtual i =>
    simp only [chk, Bool.and_eq_true, decide_eq_true_eq] at hc
    obtain ⟨hd, ⟨⟨⟨hy, hnp⟩, hrk⟩, hci⟩, hw⟩ := hc
    obtain ⟨hl1, e2⟩ := if_inv hs
    obtain ⟨q, q1, hst1, e2⟩ := popR_inv e2
    obtain ⟨⟨hcb, hcat⟩, e2⟩ := if_inv e2
    obtain ⟨⟨r1, h1⟩, e1, e2⟩ := bind_inv e2
    have hle := EvM_le d _ _ _ _ e1
    have hle2 := hkl _ _ _ _ e2
    simp only [chk2, Bool.and_eq_true, Bool.not_eq_true', decide_eq_true_eq] at hc2
    have hlen : (List.take bb st).reverse.length = bb := by rw [List.length_reverse, List.length_take]; omega
    obtain ⟨fs, hrc⟩ : ∃ fs, hGet h q = some (.inr ((mI a).2.2.2.2, fs)) := by
      unfold clsB at hcb
      split at hcb
      · rename_i c0 fs hg
        have : c0 = cq / 3 := eq_of_beq hcb
        exact ⟨fs, by rw [hg, this, hci]⟩
      · cases hcb
    have key := sn_virtual (i := i) (st := q1) (L := L) (Q := Q) (e := e) (below := below) (pc := pc) C hscr (IH a _ h r1 h1 e1 hy hscr) hy hc2.1 hc2.2 hd (wd_in hw) (by rw [hlen]; exact hnp) hrc hcat hle hz1 (by obtain ⟨-, a1, a2⟩ := hle2; have a1 : h1.2.length ≤ h9.2.length := a1; have a2 : slotsOf h1 ≤ slotsOf h9 := a2; omega) (by rw [← hrk]; exact hk _ _ _ _ hle hle2 e2)
    rw [List.reverse_reverse, ← hst1, List.take_append_drop] at key
    exact key
  case invokespecial i =>
    simp only [chk, Bool.and_eq_true, decide_eq_true_eq] at hc
    obtain ⟨hd, hc⟩ := hc
    dsimp only [stepK] at hs
    by_cases a1002 : a = 1002
    · rw [if_pos a1002] at hs hc
      obtain ⟨x, q, rfl, e2⟩ := popR_inv hs
      obtain ⟨hcat, e2⟩ := if_inv e2
      intro H locs ls hl hG hS
      exact W.objInit hx hb hown (hts _ (wd_in hc)) (hts _ w_oi) (hts _ w_oc) rfl (by rw [hml]; exact hl.1) rfl hd (by omega) (by show 2 * 0 + _ + 12 ≤ _; rw [catS_eq]; omega) (go e2 H locs ls hl hG hS)
    · rw [if_neg a1002] at hs hc
      simp only [Bool.and_eq_true, decide_eq_true_eq] at hc
      obtain ⟨⟨⟨⟨hy, hnp⟩, hn⟩, hrk⟩, hw⟩ := hc
      obtain ⟨hl1, e2⟩ := if_inv hs
      obtain ⟨q, q1, hst1, e2⟩ := popR_inv e2
      obtain ⟨hcat, e2⟩ := if_inv e2
      obtain ⟨⟨r1, h1⟩, e1, e2⟩ := bind_inv e2
      have hle := EvM_le d _ _ _ _ e1
      have hle2 := hkl _ _ _ _ e2
      have hst : mSt a = false := by
        simp only [chk2, Bool.or_eq_true, Bool.not_eq_true', decide_eq_true_eq] at hc2
        rcases hc2 with z | z
        · exact absurd z a1002
        · exact z
      have hlen : (List.take bb st).reverse.length = bb := by rw [List.length_reverse, List.length_take]; omega
      have key := sn_special (i := i) (st := q1) (L := L) (Q := Q) (e := e) (below := below) (pc := pc) C hscr (IH a _ h r1 h1 e1 hy hscr) hy hst hn hrk hd (by
          split at hw
          · exact Or.inr (wdN_in hw)
          · exact Or.inl (wd_in hw)) (by rw [hlen]; exact hnp) hcat hle hz1 (by obtain ⟨-, a1, a2⟩ := hle2; have a1 : h1.2.length ≤ h9.2.length := a1; have a2 : slotsOf h1 ≤ slotsOf h9 := a2; omega) (hk _ _ _ _ hle hle2 e2)
      rw [List.reverse_reverse, ← hst1, List.take_append_drop] at key
      exact key
  case ireturn =>
    obtain ⟨y, q, rfl, e2⟩ := popI_inv hs
    obtain ⟨⟨rfl, hok⟩, e3⟩ := if_inv e2
    cases e3
    exact hretI pc L (of_decide_eq_true hc) hok
  case return_ =>
    obtain ⟨⟨rfl, hok⟩, e2⟩ := if_inv hs
    cases e2
    exact hretV pc L (of_decide_eq_true hc) hok
  all_goals exact absurd hs (by simp [stepK])
end MS
