/-! ===== what holds at all times goes on to hold ===== -/
def fr (t m : Nat) (l : LT) : Prop := ∀ q, q ∈ l → m ≤ q.2 + t
theorem fr_keep {t m : Nat} {l l' : LT} (h : fr t m l) (hl : l'.length = l.length) (hm : ∀ i, lt_m l' i = lt_m l i) : fr t m (keepL l') := fun q hq => by
  obtain ⟨h1, h2⟩ := keep_mem hq
  obtain ⟨i, hi, rfl⟩ := mem_lt h1
  have := h _ (lt_mem (show i < l.length by omega))
  show m ≤ lt_m l' i + t
  rw [hm]
  exact this
theorem fr_spend {t m n : Nat} {b : Bool} {l : LT} (h : fr t m l) : fr t m (spend b n l).1 := fr_keep h (spIt_len _) (spIt_m _)
theorem fr_gain {t m n : Nat} {l : LT} (h : fr t m l) : fr t m (pGain n m l) := fun q hq => by
  rcases mem_gain hq with hq | rfl | ⟨h6, rfl⟩
  · exact h q hq
  · exact Nat.le_add_right _ _
  · exact h (lt_d l 5, lt_m l 5) (lt_mem (show 5 < l.length by omega))
theorem fr_gainAll {t m : Nat} {l h : LT} (g : fr t m h) : ∀ j, fr t m (gainAll m l h j)
  | 0 => g
  | j + 1 => fr_gain (fr_gainAll g j)
theorem sumN_up (f : Nat → Nat) {a : Nat} : ∀ {b : Nat}, a ≤ b → sumN f a ≤ sumN f b
  | 0, h => by
    have : a = 0 := by omega
    subst this
    exact Nat.le_refl _
  | b + 1, h => by
    by_cases e : a = b + 1
    · subst e; exact Nat.le_refl _
    · exact Nat.le_trans (sumN_up f (show a ≤ b by omega)) (Nat.le_add_right _ _)
theorem gd_gainAll {m B : Nat} {l h : LT} (g : ltGd 9999 m h) (hl : ltGd 9999 m l) (hB : sumD h + sumD l ≤ B) : ∀ j, j ≤ l.length → ltGd B m (gainAll m l h j)
  | 0, _ => ⟨g.1, by have : gainAll m l h 0 = h := rfl
                     rw [this]; omega, g.2.2⟩
  | j + 1, hj => by
    have ih := gd_gainAll g hl hB j (by omega)
    have e1 := sum_gainAllN (mo := m) (l := l) g.1 j
    have e2 := sum_gainAllN (mo := m) (l := l) g.1 (j + 1)
    have e3 : sumN (lt_d l) (j + 1) ≤ sumD l := by rw [sumD_eq]; exact sumN_up _ hj
    have e4 : sumN (lt_d l) (j + 1) = sumN (lt_d l) j + lt_d l j := rfl
    exact gd_gain ih (hl.2.2 _ (lt_mem (show j < l.length by omega))).1 (by omega)
theorem ptF_end {t m : Nat} {p : PT} (hp : pGd 9999 m p) (hm : m ≤ 999) (ht : t ≤ 24) : ptF t (m + 1) (pEnd (nI m) (nI t) p) := by
  obtain ⟨k, le, wo, ca, ow, dn, l⟩ := p
  obtain ⟨h1, h2, h3, h4, h5, h6, h7, h8⟩ := hp
  have h2 : k < 6 := h2
  have h8 : ∀ q, q ∈ l → 1 ≤ q.1 ∧ q.2 ≤ m := h8
  intro hk q hq
  have hk : k ≠ 3 := hk
  have hq : q ∈ keepL (zap k l (nI m) (nI t) l.length) := hq
  rw [keep_zap (fun q hq => (h8 q hq).1), List.mem_filter] at hq
  obtain ⟨q1, q2⟩ := hq
  have := (h8 q q1).2
  have e := lapq_N (k := k) (t := t) (M := m + 1) (x := nI m) (q := q) h2 (by rw [nI_toInt (by omega)]; omega) (by omega) ht (by omega)
  rw [e] at q2
  unfold lapN at q2
  by_cases g : t + q.2 < m + 1
  · rw [decide_eq_true (show k ≠ 3 ∧ t + q.2 < m + 1 from ⟨hk, g⟩)] at q2
    cases q2
  · omega
theorem cyG_up {c : CY} {i : Nat} {p : PT} (h : cyG c) (hp : pGd 9999 c.2.2.1 p) (hf : ptF c.1 c.2.2.1 p) : cyG (cUp c i p) := by
  obtain ⟨⟨h1, h2, h3, h4, h5, h6⟩, h7, h8⟩ := h
  refine ⟨⟨h1, h2, h3, h4, h5, fun j hj => ?_⟩, fun j hj => ?_, h8⟩
  · show pGd 9999 c.2.2.1 (if j = i then p else c.2.2.2.2 j)
    split
    · exact hp
    · exact h6 j hj
  · show ptF c.1 c.2.2.1 (if j = i then p else c.2.2.2.2 j)
    split
    · exact hf
    · exact h7 j hj
theorem stE_up {c : CY} {i : Nat} {p : PT} (h : p.1 = (c.2.2.2.2 i).1 ∧ p.2.1 = (c.2.2.2.2 i).2.1 ∧ p.2.2.1 = (c.2.2.2.2 i).2.2.1) : stE c (cUp c i p) := by
  refine ⟨rfl, rfl, rfl, fun j hj => ?_⟩
  show (if j = i then p else c.2.2.2.2 j).1 = _ ∧ (if j = i then p else c.2.2.2.2 j).2.1 = _ ∧ (if j = i then p else c.2.2.2.2 j).2.2.1 = _
  by_cases e : j = i
  · subst e; rw [if_pos rfl]; exact h
  · rw [if_neg e]; exact ⟨rfl, rfl, rfl⟩
theorem pCommit_st (w : Nat) (p : PT) : (pCommit w p).1 = p.1 ∧ (pCommit w p).2.1 = p.2.1 ∧ (pCommit w p).2.2.1 = p.2.2.1 := ⟨rfl, rfl, rfl⟩
theorem gd_act {A : AS} {c' : CY} (hG : Gd A) (hc : cyG c') (hE : stE (ctyOf A) c') : Gd (actS A c') := by
  obtain ⟨rw_, tp, fl, st, hs, c, im, pa, tr⟩ := A
  obtain ⟨h1, h2, h3, h4, h5⟩ := hG
  have hE : stE c c' := hE
  refine ⟨h1, hc, fun z => hE.2.2.1.trans (h3 z), h4, fun x hx => ?_⟩
  have hx : x ∈ keepP pa c := hx
  have hx : x ∈ pa ∨ x = c := by
    unfold keepP at hx
    split at hx
    · rw [List.mem_append, List.mem_singleton] at hx; exact hx
    · rw [List.mem_append, List.mem_singleton] at hx
      rcases hx with hx | hx
      · exact Or.inl (List.mem_of_mem_drop hx)
      · exact Or.inr hx
  rcases hx with hx | rfl
  · exact ⟨(h5 x hx).1, hE.sy.tr (h5 x hx).2⟩
  · exact ⟨h2, hE.sy⟩
theorem gd_fin {x : Int32} {A : AS} (hG : Gd A) : Gd (fin x A).2 := by
  obtain ⟨rw_, tp, fl, st, hs, c, im, pa, tr⟩ := A
  exact hG
theorem gd_fnd {x : Int32} {A : AS} (hG : Gd A) : Gd (fnd x A).2 := by
  obtain ⟨rw_, tp, fl, st, hs, c, im, pa, tr⟩ := A
  exact hG
theorem gd_rw {A : AS} {r : RW} (hG : Gd A) (hr : rwOk r) : Gd (r, A.2) := ⟨hr, hG.2⟩
theorem gd_ite {P : Prop} [Decidable P] {x y : Int32 × AS} (h : P → Gd x.2) (g : ¬ P → Gd y.2) : Gd (if P then x else y).2 := by
  by_cases e : P
  · rw [if_pos e]; exact h e
  · rw [if_neg e]; exact g e
theorem gd_told {r i n : Int32} {lo hi : Nat} {A : AS} {k : (Nat → Int32) → Int32 × AS} (hG : Gd A) (hk : ∀ q, Gd (k q).2) : Gd (oTold r i n lo hi A k).2 := gd_ite (fun _ => gd_ite (fun _ => hk _) (fun _ => hG)) (fun _ => gd_fnd hG)
theorem gRw {A : AS} (hG : Gd A) (r l n : Int32) : Gd (oRow r l n A).2 := by
  refine gd_ite (fun h => gd_ite (fun _ => gd_fnd hG) (fun h0 => gd_fin (gd_rw hG (fun i hi => ?_)))) (fun _ => hG)
  obtain ⟨g1, g2, g3⟩ := h
  obtain ⟨j, _, hj, rfl⟩ := inR_of (by decide) (by decide) g2
  obtain ⟨m, hm, rfl⟩ := nI_of h0
  have hm4 : m ≤ 40 := by
    rw [Int32.le_iff_toInt_le, nI_toInt hm] at g3
    have : (40 : Int32).toInt = 40 := by decide
    omega
  have ej : cl (nI j) = j := nI_clamp (by omega)
  have em : cl (nI m) = m := nI_clamp (by omega)
  have ho := hG.1 i hi
  show (∀ l, (if i = cl r then some (cl (nI j)) else A.1.1 i) = some l → l < 3) ∧ (if i = cl r then cl (nI m) else A.1.2.1 i) ≤ 40
  rw [ej, em]
  by_cases e : i = cl r
  · rw [if_pos e, if_pos e]
    exact ⟨fun l hl => by injection hl with hl; omega, hm4⟩
  · rw [if_neg e, if_neg e]
    exact ho
theorem gSt {A : AS} (hG : Gd A) (r i v : Int32) : Gd (oSet r i v A).2 := gd_ite (fun _ => gd_ite (fun _ => gd_fin (gd_rw hG hG.1)) (fun _ => gd_fnd hG)) (fun _ => hG)
theorem gCp {A : AS} (hG : Gd A) (a i b j n : Int32) : Gd (oCopy a i b j n A).2 := gd_ite (fun _ => gd_ite (fun _ => gd_fnd hG) (fun _ => gd_ite (fun _ => gd_ite (fun _ => gd_fin (gd_rw hG hG.1)) (fun _ => gd_fnd hG)) (fun _ => gd_fnd hG))) (fun _ => hG)
theorem gDr {A : AS} (hG : Gd A) (r : Int32) : Gd (oDrop r A).2 := by
  refine gd_ite (fun _ => gd_ite (fun _ => gd_fnd hG) (fun _ => gd_fin (gd_rw hG (fun i hi => ⟨fun l hl => ?_, (hG.1 i hi).2⟩)))) (fun _ => hG)
  have hl : (if i = cl r then none else A.1.1 i) = some l := hl
  by_cases e : i = cl r
  · rw [if_pos e] at hl; cases hl
  · rw [if_neg e] at hl; exact (hG.1 i hi).1 l hl
theorem gFe {A : AS} (hG : Gd A) (x : Int32) : Gd (oFeed x A).2 := by
  obtain ⟨rw_, tp, q⟩ := A
  exact gd_ite (fun _ => gd_ite (fun _ => hG) (fun _ => hG)) (fun _ => hG)
theorem gCo {A : AS} (hG : Gd A) : Gd (oCounty A).2 := by
  obtain ⟨rw_, tp, fl, st, hs, c, im, pa, tr⟩ := A
  obtain ⟨h1, h2, h3, h4, h5⟩ := hG
  refine gd_ite (fun h => ?_) (fun _ => ⟨h1, h2, h3, h4, h5⟩)
  have hm : (rCty tp).2.2.2.2.1 = 0 := by
    unfold rCty at h ⊢
    split at h
    · rename_i g; rw [if_pos g]
    · rename_i g; exact absurd h g
  refine ⟨h1, ⟨rCty_g h, fun i _ _ q _ => by rw [hm]; exact Nat.zero_le _, by rw [hm]; exact Nat.zero_le _⟩, fun z => (by cases z), fun k c' hk => ⟨(h4 k c' hk).1, rfl⟩, fun c' hc => by cases hc⟩
theorem gUn {A : AS} (hG : Gd A) : Gd (oUndo A).2 := by
  obtain ⟨rw_, tp, fl, st, hs, c, im, pa, tr⟩ := A
  have hG' := hG
  obtain ⟨h1, h2, h3, h4, h5⟩ := hG
  show Gd (match pa.getLast? with
    | none => ((-1000002 : Int32), (rw_, tp, fl, st, hs, c, im, pa, tr))
    | some c' => (nI (pa.length - 1), (rw_, tp, fl, st, hs, c', im, pa.dropLast, tr))).2
  cases g : pa.getLast? with
  | none => exact hG'
  | some c' =>
    have hc : c' ∈ pa := List.mem_of_getLast? g
    obtain ⟨k1, k2⟩ := h5 c' hc
    exact ⟨h1, k1, fun z => k2.2.2.1.trans (h3 z), h4, fun x hx => ⟨(h5 x (List.dropLast_subset _ hx)).1, k2.sy.tr (h5 x (List.dropLast_subset _ hx)).2⟩⟩
section GDA
variable {A : AS}
theorem per_of (hG : Gd A) {p : Int32} (h : inB p (nPe A) = true) : cl p < nPe A ∧ pGd 9999 (ctyOf A).2.2.1 (pOf A (cl p)) ∧ ptF (ctyOf A).1 (ctyOf A).2.2.1 (pOf A (cl p)) := by
  have h6 : nPe A ≤ 6 := hG.2.1.1.2.2.2.2.1
  obtain ⟨j, hj, rfl⟩ := inB_of (by omega) h
  have e : cl (nI j) = j := nI_clamp (by omega)
  rw [e]
  exact ⟨hj, hG.2.1.1.2.2.2.2.2 j hj, hG.2.1.2.1 j hj⟩
theorem one_of {n : Int32} (h : inR n 1 999 = true) : 1 ≤ cl n ∧ cl n ≤ 999 := by
  obtain ⟨j, h1, h2, rfl⟩ := inR_of (by decide) (by decide) h
  have e : cl (nI j) = j := nI_clamp (by omega)
  rw [e]
  exact ⟨h1, h2⟩
theorem gSe (hG : Gd A) (p n : Int32) : Gd (oSent p n A).2 := by
  refine gd_ite (fun h => gd_ite (fun _ => hG) (fun h9 => ?_)) (fun _ => hG)
  obtain ⟨a1, a2, a3⟩ := per_of hG h.1
  obtain ⟨k1, k2, k3, k4, k5, k6⟩ := a2
  exact gd_act hG (cyG_up hG.2.1 ⟨k1, k2, k3, k4, k5, gd_gain k6 (one_of h.2).1 (Nat.le_of_not_lt h9)⟩ (fun z => fr_gain (a3 z))) (stE_up ⟨rfl, rfl, rfl⟩)
theorem gDe (hG : Gd A) (p n : Int32) : Gd (oDeed p n A).2 := by
  refine gd_ite (fun h => ?_) (fun _ => hG)
  obtain ⟨a1, a2, a3⟩ := per_of hG h.1
  exact gd_act hG (cyG_up hG.2.1 (pGd_commit a2) (fun z => fr_spend (a3 z))) (stE_up ⟨rfl, rfl, rfl⟩)
theorem gSa (hG : Gd A) (a b n m : Int32) : Gd (oSale a b n m A).2 := by
  refine gd_ite (fun h => gd_ite (fun hr => ?_) (fun _ => hG)) (fun _ => hG)
  unfold saleB at h
  simp only [Bool.and_eq_true] at h
  obtain ⟨a1, a2, a3⟩ := per_of hG h.1.1.1.1
  obtain ⟨b1, b2, b3⟩ := per_of hG h.1.1.1.2
  refine gd_act hG ⟨cyGd_sell hG.2.1.1 a1 b1 (one_of h.1.2).1 hr, fun i hi => ?_, hG.2.1.2.2⟩ (stE_sell _ _ _ _ _)
  show ptF (ctyOf A).1 (ctyOf A).2.2.1 (if i = cl b then pBuy (cl n) (ctyOf A).2.2.1 m (pOf A (cl b)) else if i = cl a then pSold (cl n) m (pOf A (cl a)) else pOf A i)
  by_cases e : i = cl b
  · rw [if_pos e]; exact fun z => fr_gain (b3 z)
  · rw [if_neg e]
    by_cases e2 : i = cl a
    · rw [if_pos e2]; exact fun z => fr_spend (a3 z)
    · rw [if_neg e2]; exact hG.2.1.2.1 i hi
theorem gPa (hG : Gd A) (p n : Int32) : Gd (oPays p n A).2 := by
  refine gd_ite (fun h => gd_ite (fun _ => ?_) (fun _ => hG)) (fun _ => hG)
  obtain ⟨a1, a2, a3⟩ := per_of hG h.1
  obtain ⟨k1, k2, k3, k4, k5, k6⟩ := a2
  exact gd_act hG (cyG_up hG.2.1 ⟨k1, k2, k3, k4, Nat.le_trans (Nat.sub_le _ _) k5, gd_spend k6⟩ (fun z => fr_spend (a3 z))) (stE_up ⟨rfl, rfl, rfl⟩)
theorem gDi (hG : Gd A) (p h : Int32) : Gd (oDies p h A).2 := by
  refine gd_ite (fun g => gd_ite (fun _ => hG) (fun h9 => ?_)) (fun _ => hG)
  obtain ⟨a1, a2, a3⟩ := per_of hG g.1
  obtain ⟨b1, b2, b3⟩ := per_of hG g.2.1
  obtain ⟨k1, k2, k3, k4, k5, k6⟩ := a2
  obtain ⟨l1, l2, l3, l4, l5, l6⟩ := b2
  have hne : cl p ≠ cl h := fun z => g.2.2 (by
    have h6 : nPe A ≤ 6 := hG.2.1.1.2.2.2.2.1
    obtain ⟨j, hj, e1⟩ := inB_of (by omega) g.1
    obtain ⟨i, hi, e2⟩ := inB_of (by omega) g.2.1
    rw [e1, e2] at z
    have z : (nI j).toNatClampNeg = (nI i).toNatClampNeg := z
    rw [nI_clamp (by omega), nI_clamp (by omega)] at z
    rw [e1, e2, z])
  have hsum : sumD (lotsP (pOf A (cl h))) + sumD (lotsP (pOf A (cl p))) ≤ 9999 := by omega
  have c1 : cyG (cUp (ctyOf A) (cl h) (pHeir (ctyOf A).2.2.1 (pOf A (cl p)) (pOf A (cl h)))) := cyG_up hG.2.1 ⟨l1, l2, l3, l4, l5, gd_gainAll l6 k6 hsum _ (Nat.le_refl _)⟩ (fun z => fr_gainAll (b3 z) _)
  refine gd_act hG (cyG_up c1 ⟨k1, k2, k3, k4, Nat.zero_le _, ⟨Nat.zero_le _, Nat.zero_le _, fun q hq => by cases hq⟩⟩ (fun _ q hq => by cases hq)) ((stE_up (c := ctyOf A) (i := cl h) (p := pHeir (ctyOf A).2.2.1 (pOf A (cl p)) (pOf A (cl h))) ⟨rfl, rfl, rfl⟩).tr (stE_up ?_))
  have e : (cUp (ctyOf A) (cl h) (pHeir (ctyOf A).2.2.1 (pOf A (cl p)) (pOf A (cl h)))).2.2.2.2 (cl p) = pOf A (cl p) := if_neg hne
  rw [e]
  exact ⟨rfl, rfl, rfl⟩
theorem gPd (hG : Gd A) (p : Int32) : Gd (oPardon p A).2 := by
  refine gd_ite (fun h => ?_) (fun _ => hG)
  obtain ⟨a1, a2, a3⟩ := per_of hG h
  obtain ⟨k1, k2, k3, k4, k5, k6⟩ := a2
  exact gd_act hG (cyG_up hG.2.1 ⟨k1, k2, k3, k4, Nat.zero_le _, k6⟩ a3) (stE_up ⟨rfl, rfl, rfl⟩)
theorem gMo (hG : Gd A) (x : Int32) : Gd (oMonth x A).2 := by
  refine gd_ite (fun _ => gd_ite (fun _ => gd_ite (fun _ => hG) (fun h9 => ?_)) (fun _ => hG)) (fun _ => hG)
  have hc := hG.2.1.1
  have ht : (ctyOf A).1 ≤ 24 := hc.2.1
  refine gd_act hG ⟨cyGd_mths hc 1, fun i hi => ?_, ?_⟩ (stE_mths _ _ 1)
  · show ptF (ctyOf A).1 ((ctyOf A).2.2.1 + 1) (pEnd (nI (ctyOf A).2.2.1) (nI (ctyOf A).1) (pDraw (ctyOf A).2.1 (itD (i + 1) (cl x)) (pOf A i)))
    exact ptF_end (pGd_draw (hc.2.2.2.2.2 i hi)) (by omega) ht
  · show (ctyOf A).2.2.1 + 1 ≤ 999
    omega
theorem gIm (hG : Gd A) (k : Int32) : Gd (oImage k A).2 := by
  obtain ⟨rw_, tp, fl, st, hs, c, im, pa, tr⟩ := A
  refine gd_ite (fun _ => gd_ite (fun hh => ?_) (fun _ => hG)) (fun _ => hG)
  obtain ⟨h1, h2, h3, h4, h5⟩ := hG
  refine ⟨h1, h2, h3, fun j c' hj => ?_, h5⟩
  have hj : (if j = cl k then some c else im j) = some c' := hj
  by_cases e : j = cl k
  · rw [if_pos e] at hj
    injection hj with hj
    rw [← hj]
    exact ⟨h2, hh⟩
  · rw [if_neg e] at hj
    exact h4 j c' hj
theorem gRe (hG : Gd A) (k : Int32) : Gd (oRestore k A).2 := by
  obtain ⟨rw_, tp, fl, st, hs, c, im, pa, tr⟩ := A
  refine gd_ite (fun _ => ?_) (fun _ => hG)
  cases g : im (cl k) with
  | none => exact hG
  | some c' =>
    obtain ⟨h1, h2, h3, h4, h5⟩ := hG
    have hs1 : hs = true := (h4 _ _ g).2
    show Gd (rw_, tp, fl, st, hs, c', im, [], tr)
    exact ⟨h1, (h4 _ _ g).1, fun z => (by rw [show hs = false from z] at hs1; cases hs1), h4, fun x hx => (by cases hx)⟩
theorem gPe (hG : Gd A) (p w : Int32) : Gd (oPerson p w A).2 := gd_ite (fun _ => hG) (fun _ => hG)
theorem gLo (hG : Gd A) (p l w : Int32) : Gd (oLot p l w A).2 := gd_ite (fun _ => hG) (fun _ => hG)
theorem gAh (hG : Gd A) (p n x w : Int32) : Gd (oAhead p n x w A).2 := gd_ite (fun _ => hG) (fun _ => hG)
theorem gLa (hG : Gd A) (p n : Int32) : Gd (oLapsed p n A).2 := gd_ite (fun _ => hG) (fun _ => hG)
theorem gTr (hG : Gd A) (n x w : Int32) : Gd (oTried n x w A).2 := gd_ite (fun _ => gd_ite (fun _ => hG) (fun _ => hG)) (fun _ => hG)
theorem gMa (hG : Gd A) (p w : Int32) : Gd (oMarket p w A).2 := gd_ite (fun _ => gd_ite (fun _ => hG) (fun _ => hG)) (fun _ => hG)
theorem gRs (hG : Gd A) (w : Int32) : Gd (oRest w A).2 := gd_ite (fun _ => gd_ite (fun _ => hG) (fun _ => hG)) (fun _ => hG)
theorem gKi (hG : Gd A) (p : Int32) : Gd (oKind p A).2 := gd_ite (fun _ => hG) (fun _ => hG)
theorem gAs (hG : Gd A) (p k : Int32) : Gd (oAs p k A).2 := gd_ite (fun _ => gd_ite (fun _ => gd_fin hG) (fun _ => gd_fnd hG)) (fun _ => hG)
theorem gAk (hG : Gd A) (p v : Int32) : Gd (oAsk p v A).2 := by
  obtain ⟨rw_, tp, fl, st, hs, c, im, pa, tr⟩ := A
  exact gd_ite (fun _ => hG) (fun _ => hG)
theorem gTc (hG : Gd A) (i : Int32) : Gd (oTrace i A).2 := by
  obtain ⟨rw_, tp, fl, st, hs, c, im, pa, tr⟩ := A
  exact hG
theorem gCn (hG : Gd A) (w : Int32) : Gd (oCount w A).2 := by
  obtain ⟨rw_, tp, fl, st, hs, c, im, pa, tr⟩ := A
  exact hG
theorem gWr (hG : Gd A) (r i p : Int32) : Gd (oWrong r i p A).2 := gd_ite (fun _ => gd_ite (fun _ => gd_told hG (fun _ => gd_fin hG)) (fun _ => hG)) (fun _ => hG)
theorem gRi (hG : Gd A) (r i n v : Int32) : Gd (oRing r i n v A).2 := gd_ite (fun _ => gd_ite (fun _ => gd_ite (fun _ => gd_ite (fun _ => gd_fin hG) (fun _ => hG)) (fun _ => gd_fnd hG)) (fun _ => hG)) (fun _ => hG)
theorem gCv (hG : Gd A) (p r i n : Int32) : Gd (oCover p r i n A).2 := gd_ite (fun _ => gd_told hG (fun _ => gd_fin hG)) (fun _ => hG)
theorem gBe (hG : Gd A) (p r i n k : Int32) : Gd (oBest p r i n k A).2 := gd_ite (fun _ => gd_told hG (fun _ => gd_fin hG)) (fun _ => hG)
theorem gSf (hG : Gd A) (r i n d w : Int32) : Gd (oSat r i n d w A).2 := gd_ite (fun _ => gd_told hG (fun _ => gd_fin hG)) (fun _ => hG)
end GDA
