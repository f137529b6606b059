/-! ===== the state that both sides hold: rows, tape, fault, finding, is there a county, the county, images, pasts, traces ===== -/
abbrev AS : Type := RW × List Nat × Nat × Int32 × Bool × CY × (Nat → Option CY) × List CY × List Nat
def IMc (s : ST) (im : Nat → Option CY) : Prop := ∀ k, k < 2 → s.1 612 k = bI (im k).isSome ∧ ∀ c, im k = some c → CR s (572 + 20 * k) c
def TRc (s : ST) (tr : List Nat) : Prop := s.1 499 1 = nI tr.length ∧ tr.length ≤ 16 ∧ ∀ i, i < tr.length → s.1 500 i = nI (tr.getD i 0)
def InvC (s : ST) (A : AS) : Prop := RWc s A.1 ∧ TPc s A.2.1 ∧ s.1 2 12 = nI A.2.2.1 ∧ s.1 2 13 = A.2.2.2.1 ∧ s.1 2 11 = bI A.2.2.2.2.1 ∧ CR s 531 A.2.2.2.2.2.1 ∧ IMc s A.2.2.2.2.2.2.1 ∧ AR s A.2.2.2.2.2.2.2.1 ∧ TRc s A.2.2.2.2.2.2.2.2 ∧ ∀ i, i < 6 → s.1 (533 + 3 * i) 0 = nI i
/-- scratch places of the class may change -/
def KpC (s s' : ST) : Prop := ∀ a k, a < 614 → ¬ (a = 15 ∧ 2 ≤ k) → ¬ (501 ≤ a ∧ a < 531) → ¬ (551 ≤ a ∧ a < 571) → a ≠ 613 → s'.1 a k = s.1 a k
def FrHi (s s' : ST) : Prop := ∀ a k, 614 ≤ a → s'.1 a k = s.1 a k
def FrLo (s s' : ST) : Prop := ∀ a k, a < 614 → s'.1 a k = s.1 a k
theorem FrHi.rf (s : ST) : FrHi s s := fun _ _ _ => rfl
theorem FrLo.rf (s : ST) : FrLo s s := fun _ _ _ => rfl
theorem FrHi.tr {s s1 s2 : ST} (h : FrHi s s1) (g : FrHi s1 s2) : FrHi s s2 := fun a k x => (g a k x).trans (h a k x)
theorem FrLo.tr {s s1 s2 : ST} (h : FrLo s s1) (g : FrLo s1 s2) : FrLo s s2 := fun a k x => (g a k x).trans (h a k x)
theorem KpC.tr {s s1 s2 : ST} (h : KpC s s1) (g : KpC s1 s2) : KpC s s2 := fun a k x y z w v => (g a k x y z w v).trans (h a k x y z w v)
theorem RWc.ext {s s' : ST} {r : RW} (h : RWc s r) (g : ∀ a k, 4 ≤ a → a < 15 → s'.1 a k = s.1 a k) : RWc s' r := fun i hi => by
  rw [g 4 i (by omega) (by omega), g 5 i (by omega) (by omega)]
  exact ⟨(h i hi).1, (h i hi).2.1, fun k hk => by rw [g (7 + i) k (by omega) (by omega)]; exact (h i hi).2.2 k hk⟩
theorem IMc.ext {s s' : ST} {im : Nat → Option CY} (h : IMc s im) (g : ∀ a k, 572 ≤ a → a < 613 → s'.1 a k = s.1 a k) : IMc s' im := fun i hi => by
  rw [g 612 i (by omega) (by omega)]
  exact ⟨(h i hi).1, fun c hc => CR_ext ((h i hi).2 c hc) (fun a k x y => g a k (by omega) (by omega))⟩
theorem AR.ext {s s' : ST} {pa : List CY} (h : AR s pa) (g : ∀ a k, 17 ≤ a → a < 499 → s'.1 a k = s.1 a k) : AR s' pa := by
  obtain ⟨nx, h1, h2, h3, h4, h5⟩ := h
  refine ⟨nx, h1, by rw [g 17 1 (by omega) (by omega)]; exact h2, by rw [g 17 2 (by omega) (by omega)]; exact h3, h4, fun q c hq => CR_ext (h5 q c hq) (fun a k x y => g a k (by omega) ?_)⟩
  have : ringAt nx pa.length q < 24 := Nat.mod_lt _ (by decide)
  omega
theorem TRc.ext {s s' : ST} {tr : List Nat} (h : TRc s tr) (g : ∀ a k, 499 ≤ a → a < 501 → s'.1 a k = s.1 a k) : TRc s' tr := ⟨by rw [g 499 1 (by omega) (by omega)]; exact h.1, h.2.1, fun i hi => by rw [g 500 i (by omega) (by omega)]; exact h.2.2 i hi⟩
theorem InvC.ext {s s' : ST} {A : AS} (h : InvC s A) (g : KpC s s') : InvC s' A := by
  obtain ⟨h1, h2, h3, h4, h5, h6, h7, h8, h9, h10⟩ := h
  refine ⟨h1.ext (fun a k x y => g a k (by omega) (by omega) (by omega) (by omega) (by omega)), h2.ext (g 15 1 (by omega) (by omega) (by omega) (by omega) (by omega)) (fun k => g 16 k (by omega) (by omega) (by omega) (by omega) (by omega)), ?_, ?_, ?_, CR_ext h6 (fun a k x y => g a k (by omega) (by omega) (by omega) (by omega) (by omega)), h7.ext (fun a k x y => g a k (by omega) (by omega) (by omega) (by omega) (by omega)), h8.ext (fun a k x y => g a k (by omega) (by omega) (by omega) (by omega) (by omega)), h9.ext (fun a k x y => g a k (by omega) (by omega) (by omega) (by omega) (by omega)), fun i hi => ?_⟩
  · rw [g 2 12 (by omega) (by omega) (by omega) (by omega) (by omega)]; exact h3
  · rw [g 2 13 (by omega) (by omega) (by omega) (by omega) (by omega)]; exact h4
  · rw [g 2 11 (by omega) (by omega) (by omega) (by omega) (by omega)]; exact h5
  · rw [g (533 + 3 * i) 0 (by omega) (by omega) (by omega) (by omega) (by omega)]; exact h10 i hi
theorem InvC.lo {s s' : ST} {A : AS} (h : InvC s A) (g : FrLo s s') : InvC s' A := h.ext (fun a k x _ _ _ _ => g a k x)
theorem InvC.stt {s : ST} {rw_ : RW} {tp : List Nat} {fl : Nat} {st x : Int32} {q : Bool × CY × (Nat → Option CY) × List CY × List Nat} (h : InvC s (rw_, tp, fl, st, q)) : InvC (u2 s 2 13 x) (rw_, tp, fl, x, q) := by
  obtain ⟨h1, h2, h3, h4, h5, h6, h7, h8, h9, h10⟩ := h
  refine ⟨h1.ext (fun a k x y => u2_oth _ _ (by omega)), h2.ext (u2_oth _ _ (by omega)) (fun k => u2_oth _ _ (by omega)), ?_, u2_same _ _ _ _, ?_, CR_ext h6 (fun a k x y => u2_oth _ _ (by omega)), h7.ext (fun a k x y => u2_oth _ _ (by omega)), h8.ext (fun a k x y => u2_oth _ _ (by omega)), h9.ext (fun a k x y => u2_oth _ _ (by omega)), fun i hi => ?_⟩
  · rw [u2_oth _ _ (by omega)]; exact h3
  · rw [u2_oth _ _ (by omega)]; exact h5
  · rw [u2_oth _ _ (by omega)]; exact h10 i hi
/-- the county and its pasts move -/
theorem InvC.act {s s' : ST} {rw_ : RW} {tp : List Nat} {fl : Nat} {st : Int32} {hs : Bool} {c c' : CY} {im : Nat → Option CY} {pa pa' : List CY} {tr : List Nat} (h : InvC s (rw_, tp, fl, st, hs, c, im, pa, tr)) (hc : CR s' 531 c') (ha : AR s' pa') (g : ∀ a k, a < 17 ∨ 499 ≤ a → a < 531 ∨ 551 ≤ a → a < 614 → s'.1 a k = s.1 a k) (gn : ∀ i, i < 6 → s'.1 (533 + 3 * i) 0 = s.1 (533 + 3 * i) 0) : InvC s' (rw_, tp, fl, st, hs, c', im, pa', tr) := by
  obtain ⟨h1, h2, h3, h4, h5, h6, h7, h8, h9, h10⟩ := h
  refine ⟨h1.ext (fun a k x y => g a k (by omega) (by omega) (by omega)), h2.ext (g 15 1 (by omega) (by omega) (by omega)) (fun k => g 16 k (by omega) (by omega) (by omega)), ?_, ?_, ?_, hc, h7.ext (fun a k x y => g a k (by omega) (by omega) (by omega)), ha, h9.ext (fun a k x y => g a k (by omega) (by omega) (by omega)), fun i hi => ?_⟩
  · rw [g 2 12 (by omega) (by omega) (by omega)]; exact h3
  · rw [g 2 13 (by omega) (by omega) (by omega)]; exact h4
  · rw [g 2 11 (by omega) (by omega) (by omega)]; exact h5
  · rw [gn i hi]; exact h10 i hi
/-! the reference's -/
def lnM : Option Nat → Int32
  | none => -1000000
  | some l => nI l
def RWm (s : ST) (r : RW) : Prop := ∀ i, i < 8 → s.1 618 i = lnM (r.1 i) ∧ s.1 619 i = nI (r.2.1 i) ∧ ∀ k, k < 40 → s.1 620 (40 * i + k) = r.2.2 i k
def TPm (s : ST) (tp : List Nat) : Prop := s.1 614 4 = nI tp.length ∧ tp.length ≤ 120 ∧ ∀ i, i < tp.length → s.1 617 i = nI (tp.getD i 0) ∧ tp.getD i 0 < 256
/-- what moves of a county, in the array A from o on -/
def MVA (s : ST) (A o : Nat) (c : CY) : Prop := s.1 A o = nI c.2.2.1 ∧ ∀ i, i < c.2.2.2.1 → MP s A (o + 1 + 16 * i) (c.2.2.2.2 i)
/-- what does not, from b on -/
def MSb (s : ST) (b : Nat) (c : CY) : Prop := s.1 615 (b + 1) = nI c.1 ∧ s.1 615 (b + 2) = nI c.2.1 ∧ s.1 615 (b + 3) = nI c.2.2.2.1 ∧ c.2.2.2.1 ≤ 6 ∧ ∀ i, i < c.2.2.2.1 → s.1 615 (b + (4 + 3 * i)) = nI (c.2.2.2.2 i).1 ∧ s.1 615 (b + (4 + 3 * i + 1)) = nI (c.2.2.2.2 i).2.1 ∧ s.1 615 (b + (4 + 3 * i + 2)) = nI (c.2.2.2.2 i).2.2.1
theorem MSb_0 {s : ST} {c : CY} : MSb s 0 c ↔ MS s c := by
  unfold MSb MS
  simp only [Nat.zero_add]
theorem MVA_V {s : ST} {b : Nat} {c : CY} : MVA s 615 (b + 22) c ↔ MV s b c := Iff.rfl
theorem MVA.ext {s s' : ST} {A A' o o' : Nat} {c : CY} (h : MVA s A o c) (h6 : c.2.2.2.1 ≤ 6) (g : ∀ k, k < 97 → s'.1 A' (o' + k) = s.1 A (o + k)) : MVA s' A' o' c := by
  refine ⟨by rw [show o' = o' + 0 from rfl, g 0 (by omega)]; exact h.1, fun i hi => MP.ext (h.2 i hi) (fun k hk => ?_)⟩
  rw [show o' + 1 + 16 * i + k = o' + (1 + 16 * i + k) by omega, g _ (by omega)]
  exact congrArg _ (by omega)
theorem MSb.ext {s s' : ST} {b b' : Nat} {c : CY} (h : MSb s b c) (g : ∀ k, k < 22 → s'.1 615 (b' + k) = s.1 615 (b + k)) : MSb s' b' c := by
  obtain ⟨h1, h2, h3, h6, h7⟩ := h
  refine ⟨by rw [g 1 (by omega)]; exact h1, by rw [g 2 (by omega)]; exact h2, by rw [g 3 (by omega)]; exact h3, h6, fun i hi => ?_⟩
  rw [g _ (by omega), g _ (by omega), g _ (by omega)]
  exact h7 i hi
def IMm (s : ST) (im : Nat → Option CY) : Prop := ∀ k, k < 2 → s.1 615 (119 * (1 + k)) = bI (im k).isSome ∧ ∀ c, im k = some c → MSb s (119 * (1 + k)) c ∧ MVA s 615 (119 * (1 + k) + 22) c
def PAm (s : ST) (pa : List CY) : Prop := s.1 614 2 = nI pa.length ∧ pa.length ≤ 24 ∧ ∀ q c, pa[q]? = some c → c.2.2.2.1 ≤ 6 ∧ MVA s 616 (97 * q) c
def TRm (s : ST) (tr : List Nat) : Prop := s.1 614 11 = nI tr.length ∧ tr.length ≤ 16 ∧ ∀ i, i < tr.length → s.1 621 i = nI (tr.getD i 0)
def CTm (s : ST) (hs : Bool) (c : CY) : Prop := s.1 615 0 = bI hs ∧ s.1 615 3 = nI c.2.2.2.1 ∧ c.2.2.2.1 ≤ 6 ∧ (hs = true → MS s c) ∧ MV s 0 c
def InvM (s : ST) (A : AS) : Prop := RWm s A.1 ∧ TPm s A.2.1 ∧ s.1 614 5 = nI A.2.2.1 ∧ s.1 614 6 = A.2.2.2.1 ∧ CTm s A.2.2.2.2.1 A.2.2.2.2.2.1 ∧ IMm s A.2.2.2.2.2.2.1 ∧ PAm s A.2.2.2.2.2.2.2.1 ∧ TRm s A.2.2.2.2.2.2.2.2
def KpM (s s' : ST) : Prop := ∀ a k, 614 ≤ a → ¬ (a = 614 ∧ 12 ≤ k) → ¬ (a = 615 ∧ 357 ≤ k) → a ≠ 622 → a ≠ 623 → s'.1 a k = s.1 a k
theorem KpM.tr {s s1 s2 : ST} (h : KpM s s1) (g : KpM s1 s2) : KpM s s2 := fun a k x y z w v => (g a k x y z w v).trans (h a k x y z w v)
theorem KpM.rf (s : ST) : KpM s s := fun _ _ _ _ _ _ _ => rfl
theorem KpC.rf (s : ST) : KpC s s := fun _ _ _ _ _ _ _ => rfl
theorem RWm.ext {s s' : ST} {r : RW} (h : RWm s r) (g : ∀ a k, 618 ≤ a → a < 621 → s'.1 a k = s.1 a k) : RWm s' r := fun i hi => by
  rw [g 618 i (by omega) (by omega), g 619 i (by omega) (by omega)]
  exact ⟨(h i hi).1, (h i hi).2.1, fun k hk => by rw [g 620 _ (by omega) (by omega)]; exact (h i hi).2.2 k hk⟩
theorem TPm.ext {s s' : ST} {tp : List Nat} (h : TPm s tp) (g1 : s'.1 614 4 = s.1 614 4) (g2 : ∀ k, s'.1 617 k = s.1 617 k) : TPm s' tp := ⟨by rw [g1]; exact h.1, h.2.1, fun i hi => by rw [g2]; exact h.2.2 i hi⟩
theorem CTm.ext {s s' : ST} {hs : Bool} {c : CY} (h : CTm s hs c) (g : ∀ k, k < 119 → s'.1 615 k = s.1 615 k) : CTm s' hs c := by
  obtain ⟨h1, h2, h3, h4, h5⟩ := h
  refine ⟨by rw [g 0 (by omega)]; exact h1, by rw [g 3 (by omega)]; exact h2, h3, fun z => (h4 z).ext (fun k hk => g k (by omega)), ?_⟩
  exact MVA_V.mp ((MVA_V.mpr h5).ext h3 (fun k hk => g _ (by omega)))
theorem IMm.ext {s s' : ST} {im : Nat → Option CY} (h : IMm s im) (g : ∀ k, 119 ≤ k → k < 357 → s'.1 615 k = s.1 615 k) : IMm s' im := fun i hi => by
  rw [g _ (by omega) (by omega)]
  refine ⟨(h i hi).1, fun c hc => ?_⟩
  obtain ⟨h1, h2⟩ := (h i hi).2 c hc
  exact ⟨h1.ext (fun k hk => g _ (by omega) (by omega)), h2.ext h1.2.2.2.1 (fun k hk => g _ (by omega) (by omega))⟩
theorem PAm.ext {s s' : ST} {pa : List CY} (h : PAm s pa) (g1 : s'.1 614 2 = s.1 614 2) (g : ∀ k, s'.1 616 k = s.1 616 k) : PAm s' pa := by
  obtain ⟨h1, h2, h3⟩ := h
  refine ⟨by rw [g1]; exact h1, h2, fun q c hq => ?_⟩
  exact ⟨(h3 q c hq).1, (h3 q c hq).2.ext (h3 q c hq).1 (fun k hk => g _)⟩
theorem TRm.ext {s s' : ST} {tr : List Nat} (h : TRm s tr) (g1 : s'.1 614 11 = s.1 614 11) (g : ∀ k, s'.1 621 k = s.1 621 k) : TRm s' tr := ⟨by rw [g1]; exact h.1, h.2.1, fun i hi => by rw [g]; exact h.2.2 i hi⟩
theorem InvM.ext {s s' : ST} {A : AS} (h : InvM s A) (g : KpM s s') : InvM s' A := by
  obtain ⟨h1, h2, h3, h4, h5, h6, h7, h8⟩ := h
  have g' : ∀ a k, 614 ≤ a → ¬ (a = 614 ∧ 12 ≤ k) → ¬ (a = 615 ∧ 357 ≤ k) ∧ a ≠ 622 ∧ a ≠ 623 → s'.1 a k = s.1 a k := fun a k x y z => g a k x y z.1 z.2.1 z.2.2
  exact ⟨h1.ext (fun a k x y => g' a k (by omega) (by omega) (by omega)), h2.ext (g' 614 4 (by omega) (by omega) (by omega)) (fun k => g' 617 k (by omega) (by omega) (by omega)), by rw [g' 614 5 (by omega) (by omega) (by omega)]; exact h3, by rw [g' 614 6 (by omega) (by omega) (by omega)]; exact h4, h5.ext (fun k hk => g' _ _ (by omega) (by omega) (by omega)), h6.ext (fun k x y => g' _ _ (by omega) (by omega) (by omega)), h7.ext (g' _ _ (by omega) (by omega) (by omega)) (fun k => g' _ _ (by omega) (by omega) (by omega)), h8.ext (g' _ _ (by omega) (by omega) (by omega)) (fun k => g' _ _ (by omega) (by omega) (by omega))⟩
theorem InvM.hi {s s' : ST} {A : AS} (h : InvM s A) (g : FrHi s s') : InvM s' A := h.ext (fun a k x _ _ _ _ => g a k x)
theorem InvM.stt {s : ST} {rw_ : RW} {tp : List Nat} {fl : Nat} {st x : Int32} {q : Bool × CY × (Nat → Option CY) × List CY × List Nat} (h : InvM s (rw_, tp, fl, st, q)) : InvM (u2 s 614 6 x) (rw_, tp, fl, x, q) := by
  obtain ⟨h1, h2, h3, h4, h5, h6, h7, h8⟩ := h
  exact ⟨h1.ext (fun a k x y => u2_oth _ _ (by omega)), h2.ext (u2_oth _ _ (by omega)) (fun k => u2_oth _ _ (by omega)), by rw [u2_oth _ _ (by omega)]; exact h3, u2_same _ _ _ _, h5.ext (fun k hk => u2_oth _ _ (by omega)), h6.ext (fun k x y => u2_oth _ _ (by omega)), h7.ext (u2_oth _ _ (by omega)) (fun k => u2_oth _ _ (by omega)), h8.ext (u2_oth _ _ (by omega)) (fun k => u2_oth _ _ (by omega))⟩
/-- the county and its pasts move; what does not move of it stands -/
theorem InvM.act {s s' : ST} {rw_ : RW} {tp : List Nat} {fl : Nat} {st : Int32} {hs : Bool} {c c' : CY} {im : Nat → Option CY} {pa pa' : List CY} {tr : List Nat} (h : InvM s (rw_, tp, fl, st, hs, c, im, pa, tr)) (hE : stE c c') (hv : MV s' 0 c') (ha : PAm s' pa') (g : ∀ a k, 614 ≤ a → ¬ (a = 614 ∧ (k = 2 ∨ 12 ≤ k)) → ¬ (a = 615 ∧ (22 ≤ k ∧ k < 119 ∨ 357 ≤ k)) → a ≠ 616 ∧ a ≠ 622 ∧ a ≠ 623 → s'.1 a k = s.1 a k) : InvM s' (rw_, tp, fl, st, hs, c', im, pa', tr) := by
  obtain ⟨h1, h2, h3, h4, h5, h6, h7, h8⟩ := h
  refine ⟨h1.ext (fun a k x y => g a k (by omega) (by omega) (by omega) (by omega)), h2.ext (g 614 4 (by omega) (by omega) (by omega) (by omega)) (fun k => g 617 k (by omega) (by omega) (by omega) (by omega)), by rw [g 614 5 (by omega) (by omega) (by omega) (by omega)]; exact h3, by rw [g 614 6 (by omega) (by omega) (by omega) (by omega)]; exact h4, ?_, h6.ext (fun k x y => g _ _ (by omega) (by omega) (by omega) (by omega)), ha, h8.ext (g _ _ (by omega) (by omega) (by omega) (by omega)) (fun k => g _ _ (by omega) (by omega) (by omega) (by omega))⟩
  obtain ⟨q1, q2, q3, q4, q5⟩ := h5
  refine ⟨by rw [g 615 0 (by omega) (by omega) (by omega) (by omega)]; exact q1, ?_, ?_, fun z => ((q4 z).st hE).ext (fun k hk => g _ _ (by omega) (by omega) (by omega) (by omega)), hv⟩
  · rw [g 615 3 (by omega) (by omega) (by omega) (by omega)]
    show s.1 615 3 = nI c'.2.2.2.1
    rw [hE.2.2.1]
    exact q2
  · show c'.2.2.2.1 ≤ 6
    rw [hE.2.2.1]
    exact q3
