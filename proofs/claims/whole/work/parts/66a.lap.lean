/-! ===== what lapses in so many months ===== -/
def lapq (k : Nat) (mo tm : Int32) (q : Nat × Nat) : Bool := !(isOfB k 3) && !(decide (mo - nI q.2 < tm))
theorem zap_dd {k : Nat} {l : LT} {mo tm : Int32} : ∀ j i, j ≤ l.length → lt_d (zap k l mo tm j) i = if i < j ∧ lapB k l i mo tm = true then 0 else lt_d l i
  | 0, i, _ => by rw [if_neg (fun z => absurd z.1 (Nat.not_lt_zero i))]; rfl
  | j + 1, i, hj => by
    have e : zap k l mo tm (j + 1) = if lapB k l j mo tm then (zap k l mo tm j).set j (0, lt_m l j) else zap k l mo tm j := rfl
    rw [e]
    by_cases h : lapB k l j mo tm = true
    · rw [if_pos h, lt_set_d, zap_len, zap_dd j i (by omega)]
      by_cases hi : i = j
      · subst hi
        rw [if_pos ⟨rfl, by omega⟩, if_pos ⟨by omega, h⟩]
      · rw [if_neg (fun z => hi z.1)]
        by_cases h2 : i < j ∧ lapB k l i mo tm = true
        · rw [if_pos h2, if_pos ⟨by omega, h2.2⟩]
        · rw [if_neg h2, if_neg (fun z => h2 ⟨by omega, z.2⟩)]
    · rw [if_neg h, zap_dd j i (by omega)]
      by_cases h2 : i < j ∧ lapB k l i mo tm = true
      · rw [if_pos h2, if_pos ⟨by omega, h2.2⟩]
      · rw [if_neg h2, if_neg (fun z => h2 ⟨by
          by_cases e : i = j
          · subst e; exact absurd z.2 h
          · omega, z.2⟩)]
theorem zap_map {k : Nat} {l : LT} {mo tm : Int32} : zap k l mo tm l.length = l.map (fun q => if lapq k mo tm q = true then (0, q.2) else q) := by
  apply List.ext_getElem?
  intro i
  by_cases hi : i < l.length
  · rw [lt_get (by rw [zap_len]; exact hi), List.getElem?_map, lt_get hi, zap_dd _ _ (Nat.le_refl _), zap_m]
    have e : lapB k l i mo tm = lapq k mo tm (lt_d l i, lt_m l i) := rfl
    rw [e]
    show some _ = some (if lapq k mo tm (lt_d l i, lt_m l i) = true then (0, lt_m l i) else (lt_d l i, lt_m l i))
    by_cases h : lapq k mo tm (lt_d l i, lt_m l i) = true
    · rw [if_pos ⟨hi, h⟩, if_pos h]
    · rw [if_neg (fun z => h z.2), if_neg h]
  · rw [List.getElem?_eq_none (by rw [zap_len]; omega), List.getElem?_eq_none (by rw [List.length_map]; omega)]
theorem keep_zap {k : Nat} {l : LT} {mo tm : Int32} (h : ∀ q, q ∈ l → 1 ≤ q.1) : keepL (zap k l mo tm l.length) = l.filter (fun q => !(lapq k mo tm q)) := by
  rw [zap_map]
  unfold keepL
  induction l with
  | nil => rfl
  | cons q l ih =>
    have hq := h q List.mem_cons_self
    have ih' := ih (fun x hx => h x (List.mem_cons_of_mem _ hx))
    rw [List.map_cons, List.filter_cons, List.filter_cons]
    cases hl : lapq k mo tm q with
    | true =>
      simp only [if_true, Nat.lt_irrefl, decide_false, Bool.false_eq_true, if_false, Bool.not_true]
      exact ih'
    | false =>
      simp only [Bool.false_eq_true, if_false, Bool.not_false, if_true]
      rw [if_pos (decide_eq_true (show 0 < q.1 by omega)), ih']
theorem lapS_f {k : Nat} {l : LT} {mo tm : Int32} : ∀ j, j ≤ l.length → lapS k l mo tm j = sumD ((l.take j).filter (lapq k mo tm))
  | 0, _ => rfl
  | j + 1, hj => by
    have e : lapS k l mo tm (j + 1) = lapS k l mo tm j + if lapB k l j mo tm then lt_d l j else 0 := rfl
    have e2 : lapB k l j mo tm = lapq k mo tm (lt_d l j, lt_m l j) := rfl
    rw [e, lapS_f j (by omega), List.take_add_one, lt_get (show j < l.length by omega), List.filter_append, e2]
    unfold sumD
    rw [List.map_append, List.sum_append]
    cases h : lapq k mo tm (lt_d l j, lt_m l j) <;> simp [List.filter, h]
theorem sum_split (l : LT) (P : Nat × Nat → Bool) : sumD l = sumD (l.filter P) + sumD (l.filter (fun q => !(P q))) := by
  induction l with
  | nil => rfl
  | cons q l ih =>
    unfold sumD at *
    rw [List.map_cons, List.sum_cons, List.filter_cons, List.filter_cons]
    cases P q <;> simp <;> omega
/-- n ends of months of one -/
def pE (t m : Nat) (p : PT) : Nat → PT
  | 0 => p
  | n + 1 => pEnd (nI (m + n)) (nI t) (pE t m p n)
def cEs (c : CY) : Nat → CY
  | 0 => c
  | n + 1 => cEnd (cEs c n)
theorem cEs_f (c : CY) : ∀ n, cEs c n = (c.1, c.2.1, c.2.2.1 + n, c.2.2.2.1, fun i => pE c.1 c.2.2.1 (c.2.2.2.2 i) n)
  | 0 => rfl
  | n + 1 => by
    show cEnd (cEs c n) = _
    rw [cEs_f c n]
    rfl
def lapN (k t j : Nat) (q : Nat × Nat) : Bool := decide (k ≠ 3 ∧ t + q.2 < j)
theorem lapq_N {k t M : Nat} {x : Int32} {q : Nat × Nat} (hk : k < 6) (hx : x.toInt = (M : Int) - 1) (hM : M ≤ 2000) (ht : t ≤ 24) (hq : q.2 ≤ 2000) : lapq k x (nI t) q = lapN k t M q := by
  unfold lapq lapN
  rw [is3 k hk]
  have e : (x - nI q.2).toInt = (M : Int) - 1 - q.2 := by
    rw [Int32.toInt_sub, hx, nI_toInt (by omega)]
    exact Int.bmod_eq_of_le (by omega) (by omega)
  have e2 : (x - nI q.2 < nI t) ↔ M ≤ t + q.2 := by
    rw [Int32.lt_iff_toInt_lt, e, nI_toInt (by omega)]
    omega
  by_cases h3 : k = 3
  · have z1 : decide (k ≠ 3 ∧ t + q.2 < M) = false := decide_eq_false (fun z => z.1 h3)
    rw [decide_eq_true h3, z1]
    rfl
  · rw [decide_eq_false h3]
    by_cases h4 : M ≤ t + q.2
    · have z1 : decide (k ≠ 3 ∧ t + q.2 < M) = false := decide_eq_false (fun z => by omega)
      rw [decide_eq_true (e2.mpr h4), z1]
      rfl
    · have z1 : decide (k ≠ 3 ∧ t + q.2 < M) = true := decide_eq_true ⟨h3, by omega⟩
      have z2 : decide (x - nI q.2 < nI t) = false := decide_eq_false (fun z => h4 (e2.mp z))
      rw [z2, z1]
      rfl
theorem pE_1 (t m : Nat) (p : PT) : ∀ n, (pE t m p n).1 = p.1
  | 0 => rfl
  | n + 1 => pE_1 t m p n
theorem pE_l {t m : Nat} {p : PT} (hk : p.1 < 6) (hm : m ≤ 999) (ht : t ≤ 24) (hd : ∀ q, q ∈ lotsP p → 1 ≤ q.1 ∧ q.2 ≤ m) (hf : ptF t m p) : ∀ n, n ≤ 60 → lotsP (pE t m p n) = (lotsP p).filter (fun q => !(lapN p.1 t (m + n) q))
  | 0, _ => by
    show lotsP p = _
    refine (List.filter_eq_self.mpr (fun q hq => ?_)).symm
    have : lapN p.1 t (m + 0) q = false := decide_eq_false (fun z => by have := hf z.1 q hq; omega)
    rw [this]
    rfl
  | n + 1, hn => by
    have ih := pE_l hk hm ht hd hf n (by omega)
    have e : lotsP (pE t m p (n + 1)) = keepL (zap (pE t m p n).1 (lotsP (pE t m p n)) (nI (m + n)) (nI t) (lotsP (pE t m p n)).length) := rfl
    rw [e, ih, pE_1]
    rw [keep_zap (fun q hq => (hd q (List.mem_filter.mp hq).1).1), List.filter_filter]
    refine List.filter_congr (fun q hq => ?_)
    have hq2 := (hd q hq).2
    rw [lapq_N (M := m + n + 1) hk (by rw [nI_toInt (by omega)]; omega) (by omega) ht (by omega)]
    unfold lapN
    by_cases h3 : p.1 = 3
    · simp [h3]
    · by_cases h4 : t + q.2 < m + n + 1
      · have h5 : t + q.2 < m + (n + 1) := by omega
        simp [h3, h4, h5]
      · have h5 : ¬ t + q.2 < m + (n + 1) := by omega
        have h6 : ¬ t + q.2 < m + n := by omega
        simp [h3, h4, h5, h6]
theorem lap_all {t m n : Nat} {p : PT} (hk : p.1 < 6) (hm : m ≤ 999) (ht : t ≤ 24) (hd : ∀ q, q ∈ lotsP p → 1 ≤ q.1 ∧ q.2 ≤ m) (hf : ptF t m p) (hn : n ≤ 60) : lapS p.1 (lotsP p) (nI m + nI n - 1) (nI t) (lotsP p).length + sumD (lotsP (pE t m p n)) = sumD (lotsP p) := by
  rw [pE_l hk hm ht hd hf n hn, lapS_f _ (Nat.le_refl _), List.take_length, sum_split (lotsP p) (lapN p.1 t (m + n))]
  refine congrArg (· + _) (congrArg sumD (List.filter_congr (fun q hq => ?_)))
  refine lapq_N hk ?_ (by omega) ht (by have := (hd q hq).2; omega)
  rw [nI_add, Int32.toInt_sub, nI_toInt (by omega)]
  exact Int.bmod_eq_of_le (by show _ ≤ ((m + n : Nat) : Int) - 1; omega) (by show ((m + n : Nat) : Int) - 1 < _; omega)
