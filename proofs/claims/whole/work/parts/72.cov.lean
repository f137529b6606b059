/-! ===== deeds from now on: with a longer sentence no more is owed ===== -/
def pD (t m : Nat) (ws : Nat → Nat) (p : PT) : Nat → PT
  | 0 => p
  | k + 1 => pEnd (nI (m + k)) (nI t) (pCommit (ws k) (pD t m ws p k))
def spF : Nat → LT → LT
  | _, [] => []
  | w, q :: l => (q.1 - w, q.2) :: spF (w - q.1) l
theorem spF_len : ∀ (l : LT) (w : Nat), (spF w l).length = l.length
  | [], _ => rfl
  | q :: l, w => by show (spF _ l).length + 1 = _; rw [spF_len l]; rfl
theorem sumN_cons (q : Nat × Nat) (l : LT) : ∀ i, sumN (lt_d (q :: l)) (i + 1) = q.1 + sumN (lt_d l) i
  | 0 => by show 0 + q.1 = q.1 + 0; omega
  | i + 1 => by
    show sumN (lt_d (q :: l)) (i + 1) + lt_d (q :: l) (i + 1) = _
    rw [sumN_cons q l i]
    show q.1 + sumN (lt_d l) i + lt_d l i = q.1 + (sumN (lt_d l) i + lt_d l i)
    omega
theorem spF_d : ∀ (l : LT) (w i : Nat), lt_d (spF w l) i = lt_d l i - (w - sumN (lt_d l) i) ∧ lt_m (spF w l) i = lt_m l i
  | [], w, i => by
    have e : ∀ i, lt_d [] i = 0 := fun i => rfl
    exact ⟨by show 0 = 0 - _; omega, rfl⟩
  | q :: l, w, 0 => ⟨by show q.1 - w = q.1 - (w - 0); omega, rfl⟩
  | q :: l, w, i + 1 => by
    rw [sumN_cons]
    have h := spF_d l (w - q.1) i
    constructor
    · show lt_d (spF (w - q.1) l) i = lt_d l i - _
      rw [h.1]
      omega
    · exact h.2
theorem lt_ext {l l' : LT} (hl : l.length = l'.length) (h : ∀ i, i < l.length → lt_d l i = lt_d l' i ∧ lt_m l i = lt_m l' i) : l = l' := by
  apply List.ext_getElem?
  intro i
  by_cases hi : i < l.length
  · rw [lt_get hi, lt_get (show i < l'.length by omega), (h i hi).1, (h i hi).2]
  · rw [List.getElem?_eq_none (by omega), List.getElem?_eq_none (by omega)]
theorem spIt_c {L w : Nat} {l : LT} (hL : L = l.length) : ∀ k, k ≤ L → (spIt false L (l, w) k).2 = w - sumN (lt_d l) k ∧ ∀ i, lt_d (spIt false L (l, w) k).1 i = if i < k then lt_d l i - (w - sumN (lt_d l) i) else lt_d l i
  | 0, _ => ⟨by show w = w - 0; omega, fun i => by rw [if_neg (Nat.not_lt_zero i)]; rfl⟩
  | k + 1, hk => by
    obtain ⟨h1, h2⟩ := spIt_c hL k (by omega)
    have e : spIt false L (l, w) (k + 1) = spStep k (spIt false L (l, w) k) := rfl
    have hlen := spIt_len (last := false) (L := L) (q := (l, w)) k
    have hk2 : lt_d (spIt false L (l, w) k).1 k = lt_d l k := by rw [h2 k, if_neg (Nat.lt_irrefl k)]
    rw [e]
    unfold spStep
    rw [h1, hk2]
    constructor
    · show w - sumN (lt_d l) k - min (w - sumN (lt_d l) k) (lt_d l k) = w - (sumN (lt_d l) k + lt_d l k)
      omega
    · intro i
      show lt_d (List.set _ k _) i = _
      rw [lt_set_d, hlen]
      show (if i = k ∧ k < l.length then _ else _) = _
      by_cases hi : i = k
      · subst hi
        rw [if_pos ⟨rfl, by omega⟩, if_pos (Nat.lt_succ_self i)]
        show lt_d l i - min (w - sumN (lt_d l) i) (lt_d l i) = _
        omega
      · rw [if_neg (fun z => hi z.1), h2 i]
        by_cases h3 : i < k
        · rw [if_pos h3, if_pos (by omega)]
        · rw [if_neg h3, if_neg (by omega)]
theorem spIt_F (w : Nat) (l : LT) : (spIt false l.length (l, w) l.length).1 = spF w l := by
  refine lt_ext (by rw [spIt_len, spF_len]) (fun i hi => ?_)
  rw [spIt_len] at hi
  have hi : i < l.length := hi
  rw [(spIt_c rfl l.length (Nat.le_refl _)).2 i, if_pos hi, spIt_m, (spF_d l w i).1, (spF_d l w i).2]
  exact ⟨rfl, rfl⟩
theorem lt_rev {l : LT} {i : Nat} (hi : i < l.length) : lt_d l.reverse i = lt_d l (l.length - 1 - i) ∧ lt_m l.reverse i = lt_m l (l.length - 1 - i) := by
  unfold lt_d lt_m
  simp only [List.getD_eq_getElem?_getD, List.getElem?_reverse hi]
  exact ⟨trivial, trivial⟩
theorem spIt_R (w : Nat) (l : LT) : ∀ k, k ≤ l.length → (spIt true l.length (l, w) k).1.reverse = (spIt false l.length (l.reverse, w) k).1 ∧ (spIt true l.length (l, w) k).2 = (spIt false l.length (l.reverse, w) k).2
  | 0, _ => ⟨rfl, rfl⟩
  | k + 1, hk => by
    obtain ⟨h1, h2⟩ := spIt_R w l k (by omega)
    have e1 : spIt true l.length (l, w) (k + 1) = spStep (l.length - 1 - k) (spIt true l.length (l, w) k) := rfl
    have e2 : spIt false l.length (l.reverse, w) (k + 1) = spStep k (spIt false l.length (l.reverse, w) k) := rfl
    have hlen : (spIt true l.length (l, w) k).1.length = l.length := spIt_len k
    rw [e1, e2]
    unfold spStep
    rw [← h1, ← h2]
    generalize spIt true l.length (l, w) k = q at *
    have hd := (lt_rev (l := q.1) (i := k) (by omega))
    rw [hlen] at hd
    rw [hd.1, hd.2]
    refine ⟨?_, rfl⟩
    apply List.ext_getElem?
    intro i
    show (List.set q.1 (l.length - 1 - k) _).reverse[i]? = (List.set q.1.reverse k _)[i]?
    by_cases hi : i < l.length
    · rw [List.getElem?_reverse (by rw [List.length_set]; omega), List.getElem?_set, List.getElem?_set, List.length_set, List.length_reverse, List.getElem?_reverse (by omega), hlen]
      by_cases hik : k = i
      · subst hik
        rw [if_pos rfl, if_pos rfl, if_pos (by omega), if_pos (by omega)]
      · rw [if_neg hik, if_neg (by omega)]
    · rw [List.getElem?_eq_none (by rw [List.length_reverse, List.length_set]; omega), List.getElem?_eq_none (by rw [List.length_set, List.length_reverse]; omega)]
def spL (b : Bool) (w : Nat) (l : LT) : LT := if b = true then (spF w l.reverse).reverse else spF w l
theorem spend1 (b : Bool) (w : Nat) (l : LT) : (spend b w l).1 = keepL (spL b w l) := by
  unfold spend spL
  cases b with
  | false => rw [if_neg (by decide), spIt_F]
  | true =>
    rw [if_pos rfl]
    have h := (spIt_R w l l.length (Nat.le_refl _)).1
    have h2 := spIt_F w l.reverse
    rw [List.length_reverse] at h2
    rw [h2] at h
    rw [← h, List.reverse_reverse]
theorem keep_spF : ∀ (l : LT) (w : Nat), keepL (spF w (keepL l)) = keepL (spF w l)
  | [], _ => rfl
  | q :: l, w => by
    by_cases h : 0 < q.1
    · have e : keepL (q :: l) = q :: keepL l := by unfold keepL; rw [List.filter_cons, if_pos (decide_eq_true h)]
      rw [e]
      have ih := keep_spF l (w - q.1)
      show keepL ((q.1 - w, q.2) :: spF (w - q.1) (keepL l)) = keepL ((q.1 - w, q.2) :: spF (w - q.1) l)
      unfold keepL at ih ⊢
      rw [List.filter_cons, List.filter_cons, ih]
    · have e : keepL (q :: l) = keepL l := by unfold keepL; rw [List.filter_cons, if_neg (by simpa using h)]
      have e2 : q.1 = 0 := by omega
      rw [e, keep_spF l w]
      show _ = keepL ((q.1 - w, q.2) :: spF (w - q.1) l)
      rw [e2, Nat.zero_sub, Nat.sub_zero]
      unfold keepL
      rw [List.filter_cons, if_neg (by simp)]
theorem keep_rev (l : LT) : keepL l.reverse = (keepL l).reverse := by unfold keepL; rw [List.filter_reverse]
theorem keep_spL (b : Bool) (w : Nat) (l : LT) : keepL (spL b w (keepL l)) = keepL (spL b w l) := by
  unfold spL
  cases b with
  | false => rw [if_neg (by decide), if_neg (by decide), keep_spF]
  | true => rw [if_pos rfl, if_pos rfl, keep_rev, keep_rev, ← keep_rev l, keep_spF]
def zq (k : Nat) (mo tm : Int32) (q : Nat × Nat) : Nat × Nat := if lapq k mo tm q = true then (0, q.2) else q
theorem keep_map (k : Nat) (mo tm : Int32) : ∀ l : LT, keepL ((keepL l).map (zq k mo tm)) = keepL (l.map (zq k mo tm))
  | [] => rfl
  | q :: l => by
    have ih := keep_map k mo tm l
    by_cases h : 0 < q.1
    · have e : keepL (q :: l) = q :: keepL l := by unfold keepL; rw [List.filter_cons, if_pos (decide_eq_true h)]
      rw [e, List.map_cons, List.map_cons]
      unfold keepL at ih ⊢
      rw [List.filter_cons, List.filter_cons, ih]
    · have e : keepL (q :: l) = keepL l := by unfold keepL; rw [List.filter_cons, if_neg (by simpa using h)]
      rw [e, ih, List.map_cons]
      have e2 : (zq k mo tm q).1 = 0 := by
        unfold zq
        split
        · rfl
        · omega
      unfold keepL
      rw [List.filter_cons, if_neg (by rw [e2]; simp)]
/-- lots, also those without days, behind k deeds -/
def uD (kd t m : Nat) (ws : Nat → Nat) (L : LT) : Nat → LT
  | 0 => L
  | k + 1 => (spL (isOfB kd 4) (ws k) (uD kd t m ws L k)).map (zq kd (nI (m + k)) (nI t))
theorem pD_k (t m : Nat) (ws : Nat → Nat) (p : PT) : ∀ k, (pD t m ws p k).1 = p.1
  | 0 => rfl
  | k + 1 => pD_k t m ws p k
theorem pD_l {t m : Nat} {ws : Nat → Nat} {p : PT} {L : LT} (h : lotsP p = keepL L) : ∀ k, lotsP (pD t m ws p k) = keepL (uD p.1 t m ws L k)
  | 0 => h
  | k + 1 => by
    have ih := pD_l (t := t) (m := m) (ws := ws) h k
    have e : lotsP (pD t m ws p (k + 1)) = keepL (zap (pD t m ws p k).1 (spend (isOfB (pD t m ws p k).1 4) (ws k) (lotsP (pD t m ws p k))).1 (nI (m + k)) (nI t) (spend (isOfB (pD t m ws p k).1 4) (ws k) (lotsP (pD t m ws p k))).1.length) := rfl
    rw [e, zap_map, pD_k, spend1, ih]
    show keepL (List.map (zq p.1 (nI (m + k)) (nI t)) _) = keepL (List.map (zq p.1 (nI (m + k)) (nI t)) _)
    rw [keep_map, ← keep_map p.1 (nI (m + k)) (nI t) (spL (isOfB p.1 4) (ws k) (keepL (uD p.1 t m ws L k))), keep_spL, keep_map]
theorem pD_o (t m : Nat) (ws : Nat → Nat) (p : PT) (k : Nat) : (pD t m ws p (k + 1)).2.2.2.2.1 = if isOfB p.1 5 = true then min 9999 ((pD t m ws p k).2.2.2.2.1 + (ws k - sumD (lotsP (pD t m ws p k)))) / 2 else min 9999 ((pD t m ws p k).2.2.2.2.1 + (ws k - sumD (lotsP (pD t m ws p k)))) := by
  have e : (pD t m ws p (k + 1)).2.2.2.2.1 = if isOfB (pD t m ws p k).1 5 = true then min 9999 ((pD t m ws p k).2.2.2.2.1 + (spend (isOfB (pD t m ws p k).1 4) (ws k) (lotsP (pD t m ws p k))).2) / 2 else min 9999 ((pD t m ws p k).2.2.2.2.1 + (spend (isOfB (pD t m ws p k).1 4) (ws k) (lotsP (pD t m ws p k))).2) := rfl
  rw [e, spend_left, pD_k]
def leL : LT → LT → Prop
  | [], [] => True
  | q :: l, q' :: l' => q.1 ≤ q'.1 ∧ q.2 = q'.2 ∧ leL l l'
  | _, _ => False
theorem leL_rf : ∀ l, leL l l
  | [] => trivial
  | q :: l => ⟨Nat.le_refl _, rfl, leL_rf l⟩
theorem leL_sum : ∀ {l l' : LT}, leL l l' → sumD l ≤ sumD l'
  | [], [], _ => Nat.le_refl _
  | q :: l, q' :: l', h => by
    have := leL_sum h.2.2
    have h1 := h.1
    unfold sumD at this ⊢
    rw [List.map_cons, List.map_cons, List.sum_cons, List.sum_cons]
    omega
  | [], _ :: _, h => h.elim
  | _ :: _, [], h => h.elim
theorem leL_F : ∀ {l l' : LT} {w w' : Nat}, leL l l' → w' ≤ w → leL (spF w l) (spF w' l')
  | [], [], _, _, _, _ => trivial
  | q :: l, q' :: l', w, w', h, hw => by
    have h1 := h.1
    exact ⟨by show q.1 - w ≤ q'.1 - w'; omega, h.2.1, leL_F h.2.2 (by omega)⟩
  | [], _ :: _, _, _, h, _ => h.elim
  | _ :: _, [], _, _, h, _ => h.elim
theorem leL_app : ∀ {l l' r r' : LT}, leL l l' → leL r r' → leL (l ++ r) (l' ++ r')
  | [], [], _, _, _, h => h
  | q :: l, q' :: l', _, _, h, g => ⟨h.1, h.2.1, leL_app h.2.2 g⟩
  | [], _ :: _, _, _, h, _ => h.elim
  | _ :: _, [], _, _, h, _ => h.elim
theorem leL_rev : ∀ {l l' : LT}, leL l l' → leL l.reverse l'.reverse
  | [], [], _ => trivial
  | q :: l, q' :: l', h => by
    rw [List.reverse_cons, List.reverse_cons]
    exact leL_app (leL_rev h.2.2) ⟨h.1, h.2.1, trivial⟩
  | [], _ :: _, h => h.elim
  | _ :: _, [], h => h.elim
theorem leL_map {k : Nat} {mo tm : Int32} : ∀ {l l' : LT}, leL l l' → leL (l.map (zq k mo tm)) (l'.map (zq k mo tm))
  | [], [], _ => trivial
  | q :: l, q' :: l', h => by
    rw [List.map_cons, List.map_cons]
    have e : lapq k mo tm q = lapq k mo tm q' := by unfold lapq; rw [h.2.1]
    refine ⟨?_, ?_, leL_map h.2.2⟩
    · unfold zq
      rw [e]
      split
      · exact Nat.le_refl _
      · exact h.1
    · unfold zq
      rw [e]
      split
      · exact h.2.1
      · exact h.2.1
  | [], _ :: _, h => h.elim
  | _ :: _, [], h => h.elim
theorem leL_uD {kd t m : Nat} {ws : Nat → Nat} {L L' : LT} (h : leL L L') : ∀ k, leL (uD kd t m ws L k) (uD kd t m ws L' k)
  | 0 => h
  | k + 1 => by
    refine leL_map ?_
    unfold spL
    split
    · exact leL_rev (leL_F (leL_rev (leL_uD h k)) (Nat.le_refl _))
    · exact leL_F (leL_uD h k) (Nat.le_refl _)
theorem pD_mono {t m : Nat} {ws : Nat → Nat} {p p' : PT} {L L' : LT} (h : lotsP p = keepL L) (h' : lotsP p' = keepL L') (hk : p'.1 = p.1) (ho : p'.2.2.2.2.1 ≤ p.2.2.2.2.1) (hl : leL L L') : ∀ k, (pD t m ws p' k).2.2.2.2.1 ≤ (pD t m ws p k).2.2.2.2.1
  | 0 => ho
  | k + 1 => by
    have ih := pD_mono (t := t) (m := m) (ws := ws) h h' hk ho hl k
    have hs : sumD (lotsP (pD t m ws p k)) ≤ sumD (lotsP (pD t m ws p' k)) := by
      rw [pD_l h, pD_l h', sum_keep, sum_keep, hk]
      exact leL_sum (leL_uD hl k)
    rw [pD_o, pD_o, hk]
    split
    · exact Nat.div_le_div_right (by omega)
    · omega
/-- with a sentence of d days now -/
def gainP (d m : Nat) (p : PT) : PT := if 0 < d then pLots p (pGain d m (lotsP p)) else p
def uG (d m : Nat) (l : LT) : LT := if l.length < 6 then l ++ [(d, m)] else l.set 5 (lt_d l 5 + d, lt_m l 5)
theorem keep_id {l : LT} (h : ∀ q, q ∈ l → 1 ≤ q.1) : keepL l = l := List.filter_eq_self.mpr (fun q hq => decide_eq_true (h q hq))
theorem gainP_l {d m : Nat} {p : PT} (h : ∀ q, q ∈ lotsP p → 1 ≤ q.1) : lotsP (gainP d m p) = keepL (uG d m (lotsP p)) := by
  unfold gainP
  by_cases hd : 0 < d
  · rw [if_pos hd]
    show pGain d m (lotsP p) = keepL (pGain d m (lotsP p))
    refine (keep_id (fun q hq => ?_)).symm
    rcases mem_gain hq with z | z | ⟨z1, z⟩
    · exact h q z
    · rw [z]; exact hd
    · rw [z]; show 1 ≤ lt_d (lotsP p) 5 + d; omega
  · rw [if_neg hd]
    have e : d = 0 := by omega
    subst e
    unfold uG
    split
    · unfold keepL
      rw [List.filter_append]
      have := keep_id h
      unfold keepL at this
      rw [this]
      simp
    · rw [Nat.add_zero, set_same, keep_id h]
theorem leL_set : ∀ {l : LT} {i a a' mo : Nat}, a ≤ a' → leL (l.set i (a, mo)) (l.set i (a', mo))
  | [], _, _, _, _, _ => trivial
  | q :: l, 0, _, _, _, h => ⟨h, rfl, leL_rf l⟩
  | q :: l, i + 1, _, _, _, h => ⟨Nat.le_refl _, rfl, leL_set h⟩
theorem leL_G {d d' m : Nat} {l : LT} (h : d ≤ d') : leL (uG d m l) (uG d' m l) := by
  unfold uG
  split
  · exact leL_app (leL_rf l) ⟨h, rfl, trivial⟩
  · exact leL_set (by omega)
def cvB (t m : Nat) (ws : Nat → Nat) (n : Nat) (p : PT) (d : Nat) : Bool := decide ((pD t m ws (gainP d m p) n).2.2.2.2.1 ≤ p.2.2.2.2.1)
theorem gainP_k (d m : Nat) (p : PT) : (gainP d m p).1 = p.1 ∧ (gainP d m p).2.2.2.2.1 = p.2.2.2.2.1 := by
  unfold gainP
  split <;> exact ⟨rfl, rfl⟩
theorem cv_mono {t m : Nat} {ws : Nat → Nat} {n : Nat} {p : PT} (h : ∀ q, q ∈ lotsP p → 1 ≤ q.1) {d d' : Nat} (hd : d ≤ d') (hc : cvB t m ws n p d = true) : cvB t m ws n p d' = true := by
  unfold cvB at hc ⊢
  have h1 := of_decide_eq_true hc
  refine decide_eq_true (Nat.le_trans ?_ h1)
  exact pD_mono (gainP_l h) (gainP_l h) (by rw [(gainP_k _ _ _).1, (gainP_k _ _ _).1]) (by rw [(gainP_k _ _ _).2, (gainP_k _ _ _).2]; exact Nat.le_refl _) (leL_G hd) n
/-- the first number from k on, of fu -/
def lsF (P : Nat → Bool) : Nat → Nat → Option Nat
  | 0, _ => none
  | fu + 1, k => if P k = true then some k else lsF P fu (k + 1)
theorem lsF_at {P : Nat → Bool} {x : Nat} (hx : P x = true) : ∀ fu k, k ≤ x → x < k + fu → (∀ j, k ≤ j → j < x → P j = false) → lsF P fu k = some x
  | 0, k, h1, h2, _ => by omega
  | fu + 1, k, h1, h2, h3 => by
    show (if P k = true then some k else lsF P fu (k + 1)) = _
    by_cases e : k = x
    · subst e; rw [if_pos hx]
    · rw [if_neg (by rw [h3 k (Nat.le_refl _) (by omega)]; decide)]
      exact lsF_at hx fu (k + 1) (by omega) (by omega) (fun j hj1 hj2 => h3 j (by omega) hj2)
theorem lsF_no {P : Nat → Bool} : ∀ fu k, (∀ j, k ≤ j → j < k + fu → P j = false) → lsF P fu k = none
  | 0, _, _ => rfl
  | fu + 1, k, h => by
    show (if P k = true then some k else lsF P fu (k + 1)) = _
    rw [if_neg (by rw [h k (Nat.le_refl _) (by omega)]; decide)]
    exact lsF_no fu (k + 1) (fun j h1 h2 => h j (by omega) (by omega))
