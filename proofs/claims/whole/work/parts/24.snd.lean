/-! ===== what the abstract machine answers, the real one answers ===== -/
section RS
variable {p : Program} {l : Launch} {e : Env} {R : Room} {s : State} {m : MethodId} {args : Array Value} {below : List Frame} {meth : Method} {c : Code} {Q : State → Prop} {own : String} {cc : ByteArray} {nL : Nat} {mn : String} {d base S b : Nat} {dC : Nat → ClassId} {dI : Nat → Nat → Nat} {cA : Nat → ClassId} {scr : Nat × (Nat → Int32)} {n0 z0 rk : Nat}
theorem run_sound (C : Cx p R s m args meth c own cc nL mn d base S b dC dI cA scr) (IH : ∀ y as h r h1, EvM d y as h = some (r, h1) → y < 221 → h.1 = scr → MetX l base S b dC dI cA d y as h r h1)
    {t : CT} (hck : chkT own cc nL mn t = true) (hck2 : t.all chk2 = true) {r : Int32} {h9 : Hp} (hlim : h9.2.length - n0 ≤ R.cells ∧ slotsOf h9 - z0 ≤ R.slots)
    (hretI : ∀ (pc : Nat) (L : List Value), decode cc pc = .ok (.ireturn, 1) → okR rk r = true → Sn p l e R s m args below meth c Q nL base S b dC dI cA n0 z0 pc L [.int r] h9)
    (hretV : ∀ (pc : Nat) (L : List Value), decode cc pc = .ok (.return_, 1) → rk = 0 → Sn p l e R s m args below meth c Q nL base S b dC dI cA n0 z0 pc L [] h9) :
    ∀ (n pc : Nat) (L st : List Value) (h : Hp), runI (EvM d) t rk n pc L st h = some (r, h9) → h.1 = scr → (n0 ≤ h.2.length ∧ z0 ≤ slotsOf h) → Sn p l e R s m args below meth c Q nL base S b dC dI cA n0 z0 pc L st h := by
  intro n
  induction n with
  | zero =>
    intro pc L st h hr
    cases hr
  | succ n ih =>
    intro pc L st h hr hscr hz1
    rcases chkT_at2 hck hck2 pc with ⟨wi, k1, k2⟩ | k0
    · exact step_sound C IH (fun i pc L st h x y a1 a2 a3 a4 a5 a6 a7 a8 a9 => sn_multi C i pc L st h x y a1 a2 a3 a4 a5 a6 a7 a8 a9) hr k1 k2
        (fun pc1 L1 st1 h1 le _ e1 => ih pc1 L1 st1 h1 e1 (le.1.trans hscr) ⟨Nat.le_trans hz1.1 le.2.1, Nat.le_trans hz1.2 le.2.2⟩)
        (fun pc1 L1 st1 h1 e1 => runI_le (EvM_le d) _ _ _ _ _ _ e1) hscr hz1 hlim hretI hretV
    · have hr : stepK (EvM d) rk (Kc t pc) pc L st h (runI (EvM d) t rk n) = some (r, h9) := hr
      rw [k0] at hr
      cases hr
end RS
theorem okR_cases {rk : Nat} {r : Int32} (h : okR rk r = true) : rk = 1 ∨ (rk = 2 ∧ (r = 0 ∨ r = 1)) := by
  unfold okR at h
  simpa using h
theorem snd_all (l : Launch) (base S b : Nat) (dC : Nat → ClassId) (dI : Nat → Nat → Nat) (cA : Nat → ClassId) (scr : Nat × (Nat → Int32)) : ∀ (d y : Nat) (as : List Value) (h : Hp) (r : Int32) (h1 : Hp), EvM d y as h = some (r, h1) → y < 221 → h.1 = scr → MetX l base S b dC dI cA d y as h r h1 := by
  intro d
  induction d with
  | zero =>
    intro y as h r h1 hr
    cases hr
  | succ d IH =>
    intro y as h r h1 hr hy hscr
    rw [EvM] at hr
    obtain ⟨hflt, hr⟩ := if_inv hr
    obtain ⟨n, hn⟩ := EvI_inv hr
    obtain ⟨hck, hck2⟩ := ck_at hy
    have hle := runI_le (EvM_le d) _ _ _ _ _ _ hn
    obtain ⟨hpl, -⟩ := m_code hy
    refine Met.ofW (cc := (mI y).2.1) (maxL := (mI y).2.2.1) (ret := rtF (mI y).2.2.2.1) hpl rfl ?_
    intro p e s m args below meth c s₁ B hml hv
    obtain ⟨rfl, hGW⟩ := hv
    have hx := B.exec
    have hb := B.bytes
    have hr2 := B.returns
    have hts := atoms_spec (ws := wsG y) B.pre
    have hown : s.vm.findClass (mI y).1.cls = some m.cls := findClass_of_methodNamed B.named
    have hlocks := B.notSynchronized
    have hnm : meth.name = (mI y).1.name := (name_of_methodNamed B.named B.method).1
    have hz : base ≤ s.heap.size := by have := hGW.1.1; omega
    have C : Cx p (rmX (d + 1) h h1) s m (as.map (tv (adr base S b))).toArray meth c (mI y).1.cls (mI y).2.1 (mI y).2.2.1 (mI y).1.name d base S b dC dI cA scr :=
      ⟨hx, hb, hml, hown, fun w hw => hts w (List.mem_cons_of_mem _ hw), fun q => hnm.trans q, ⟨Nat.le_refl _, Nat.le_refl _⟩, hGW.2.1, by rw [← hscr]; exact hGW.2.2, hz⟩
    rw [lg_entry_eq]
    have hq : ∀ (H : Heap) (locs : List Loc), GH base S b dC dI cA h1 H → va_S (AB base) s.heap H locs → ∀ t : State, t.heap = H → s.WarmedH t.vm → GW base S b dC dI cA h1 t := fun H locs hG hS t ht hW => GW_of hG hS hGW.2.1 (by rw [hle.1]; exact hGW.2.2) hz ht hW
    have key := run_sound (l := l) (e := e) (below := below) (Q := MQ below (QX base S b dC dI cA (mI y).2.2.2.1 r h1) (as.map (tv (adr base S b))).toArray s (h1.2.length - h.2.length) (slotsOf h1 - slotsOf h) (AB base)) (n0 := h.2.length) (z0 := slotsOf h) (rk := (mI y).2.2.2.1) (r := r) (h9 := h1) C
      (fun y as h r h1 e1 e2 e3 => IH y as h r h1 e1 e2 e3) hck hck2 ⟨Nat.le_refl _, Nat.le_refl _⟩
      (fun pc L hd hok H locs ls hl hG hS => by
        rcases okR_cases hok with e1 | ⟨e1, e2⟩
        · rw [e1] at hr2
          exact W.iret (v := r) hx hb hr2 (fun t ht hW => ⟨⟨by rw [e1]; rfl, hq H locs hG hS t ht hW⟩, hS.F ht⟩) hS.2.2 hd hlocks
        · rw [e1] at hr2
          exact W.zret (v := r) (ty := .boolean) hx hb hr2 (by rcases e2 with rfl | rfl <;> rfl) (fun t ht hW => ⟨⟨by rw [e1]; rfl, hq H locs hG hS t ht hW⟩, hS.F ht⟩) hS.2.2 hd hlocks)
      (fun pc L hd h0 H locs ls hl hG hS => by
        rw [h0] at hr2
        exact W.vret hx hb hr2 (fun t ht hW => ⟨⟨by rw [h0]; rfl, hq H locs hG hS t ht hW⟩, hS.F ht⟩) hS.2.2 hd hlocks)
      n 0 _ [] h hn hscr ⟨Nat.le_refl _, Nat.le_refl _⟩ s.heap [] _ (lsR_ent (adr base S b) as (mI y).2.2.1 hflt) hGW.1 va_S.rf
    exact W.cs (Nat.sub_self _).symm (Nat.sub_self _).symm key
