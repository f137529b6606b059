/-! ===== what is read from the tape ===== -/
def isFg (c : Nat) : Bool := decide (48 ≤ c ∧ c ≤ 57)
/-- how many figures stand from a place on -/
def figsF (tp : List Nat) : Nat → Nat → Nat
  | 0, _ => 0
  | k + 1, p => if p < tp.length ∧ isFg (tp.getD p 0) = true then figsF tp k (p + 1) + 1 else 0
def figs (tp : List Nat) (p : Nat) : Nat := figsF tp (tp.length + 1 - p) p
theorem figsF_spec (tp : List Nat) : ∀ k p, tp.length < p + k → (∀ i, i < figsF tp k p → p + i < tp.length ∧ isFg (tp.getD (p + i) 0) = true) ∧ ¬ (p + figsF tp k p < tp.length ∧ isFg (tp.getD (p + figsF tp k p) 0) = true)
  | 0, p, h => ⟨fun i hi => absurd hi (Nat.not_lt_zero i), fun z => by have := z.1; simp only [figsF] at this; omega⟩
  | k + 1, p, h => by
    unfold figsF
    by_cases hc : p < tp.length ∧ isFg (tp.getD p 0) = true
    · rw [if_pos hc]
      obtain ⟨h1, h2⟩ := figsF_spec tp k (p + 1) (by omega)
      refine ⟨fun i hi => ?_, ?_⟩
      · cases i with
        | zero => exact hc
        | succ i =>
          have := h1 i (by omega)
          rw [show p + (i + 1) = p + 1 + i by omega]
          exact this
      · rw [show p + (figsF tp k (p + 1) + 1) = p + 1 + figsF tp k (p + 1) by omega]
        exact h2
    · rw [if_neg hc]
      exact ⟨fun i hi => absurd hi (Nat.not_lt_zero i), hc⟩
theorem figs_in (tp : List Nat) (p : Nat) {i : Nat} (h : i < figs tp p) : p + i < tp.length ∧ isFg (tp.getD (p + i) 0) = true := by
  by_cases hp : p ≤ tp.length
  · exact (figsF_spec tp _ p (by omega)).1 i h
  · exfalso
    unfold figs at h
    rw [show tp.length + 1 - p = 0 by omega] at h
    exact Nat.not_lt_zero i h
theorem figs_out (tp : List Nat) (p : Nat) : ¬ (p + figs tp p < tp.length ∧ isFg (tp.getD (p + figs tp p) 0) = true) := by
  by_cases hp : p ≤ tp.length
  · exact (figsF_spec tp _ p (by omega)).2
  · intro z
    omega
def numAt (tp : List Nat) (p : Nat) : Nat → Nat
  | 0 => 0
  | g + 1 => 10 * numAt tp p g + tp.getD (p + g) 0 - 48
theorem numAt_lt {tp : List Nat} {p : Nat} : ∀ g, g ≤ figs tp p → numAt tp p g < 10 ^ g
  | 0, _ => by simp [numAt]
  | g + 1, h => by
    have ih := numAt_lt (tp := tp) (p := p) g (by omega)
    have h2 := (figs_in tp p (i := g) (by omega)).2
    have h3 : 48 ≤ tp.getD (p + g) 0 ∧ tp.getD (p + g) 0 ≤ 57 := of_decide_eq_true h2
    show 10 * numAt tp p g + tp.getD (p + g) 0 - 48 < 10 ^ (g + 1)
    rw [Nat.pow_succ]
    omega
/-- a number: its fault or 0, the place behind it, its value -/
def rNum (tp : List Nat) (p lo hi : Nat) : Nat × Nat × Nat := if figs tp p = 0 ∨ 2 < figs tp p then (1, p, 0) else if lo ≤ numAt tp p (figs tp p) ∧ numAt tp p (figs tp p) ≤ hi then (0, p + figs tp p, numAt tp p (figs tp p)) else (2, p, 0)
def rByte (tp : List Nat) (p c : Nat) : Nat × Nat := if p < tp.length ∧ tp.getD p 0 = c then (0, p + 1) else (1, p)
def kdOf (c : Nat) : Nat := if c = 99 then 1 else if c = 115 then 2 else if c = 104 then 3 else if c = 116 then 4 else if c = 112 then 5 else 0
/-- a number with a byte behind it -/
def rNB (tp : List Nat) (p lo hi c : Nat) : Nat × Nat × Nat := if (rNum tp p lo hi).1 = 0 then ((rByte tp (rNum tp p lo hi).2.1 c).1, (rByte tp (rNum tp p lo hi).2.1 c).2, (rNum tp p lo hi).2.2) else (rNum tp p lo hi)
/-- the law: fault, place, term, weight -/
def rLaw (tp : List Nat) : Nat × Nat × Nat × Nat := if (rByte tp 0 121).1 = 0 then
    if (rNB tp (rByte tp 0 121).2 1 24 44).1 = 0 then
      ((rNB tp (rNB tp (rByte tp 0 121).2 1 24 44).2.1 1 30 59).1, (rNB tp (rNB tp (rByte tp 0 121).2 1 24 44).2.1 1 30 59).2.1, (rNB tp (rByte tp 0 121).2 1 24 44).2.2, (rNB tp (rNB tp (rByte tp 0 121).2 1 24 44).2.1 1 30 59).2.2)
    else ((rNB tp (rByte tp 0 121).2 1 24 44).1, (rNB tp (rByte tp 0 121).2 1 24 44).2.1, 0, 0)
  else (1, 0, 0, 0)
/-- a person, there being n: fault, place, person -/
def rPer (tp : List Nat) (p n : Nat) : Nat × Nat × PT :=
  if kdOf (tp.getD p 0) = 0 then (1, p, (0, 0, 0, 0, 0, 0, [])) else if 6 ≤ n then (3, p, (0, 0, 0, 0, 0, 0, [])) else
    if (rNB tp (p + 1) 0 9 44).1 = 0 then
      if (rNB tp (rNB tp (p + 1) 0 9 44).2.1 0 99 44).1 = 0 then
        ((rNB tp (rNB tp (rNB tp (p + 1) 0 9 44).2.1 0 99 44).2.1 0 99 59).1, (rNB tp (rNB tp (rNB tp (p + 1) 0 9 44).2.1 0 99 44).2.1 0 99 59).2.1, (kdOf (tp.getD p 0), (rNB tp (p + 1) 0 9 44).2.2, (rNB tp (rNB tp (p + 1) 0 9 44).2.1 0 99 44).2.2, nI (rNB tp (rNB tp (rNB tp (p + 1) 0 9 44).2.1 0 99 44).2.1 0 99 59).2.2, 0, 0, []))
      else ((rNB tp (rNB tp (p + 1) 0 9 44).2.1 0 99 44).1, (rNB tp (rNB tp (p + 1) 0 9 44).2.1 0 99 44).2.1, (0, 0, 0, 0, 0, 0, []))
    else ((rNB tp (p + 1) 0 9 44).1, (rNB tp (p + 1) 0 9 44).2.1, (0, 0, 0, 0, 0, 0, []))
/-- all persons from a place on: fault, place, persons -/
def rAll (tp : List Nat) : Nat → Nat → List PT → Nat × Nat × List PT
  | 0, p, ps => (0, p, ps)
  | k + 1, p, ps => if p < tp.length then (if (rPer tp p ps.length).1 = 0 then rAll tp k (rPer tp p ps.length).2.1 (ps ++ [(rPer tp p ps.length).2.2]) else ((rPer tp p ps.length).1, (rPer tp p ps.length).2.1, ps)) else (0, p, ps)
def p0 : PT := (0, 0, 0, 0, 0, 0, [])
/-- a county: fault, place, county -/
def rCty (tp : List Nat) : Nat × Nat × CY := if (rLaw tp).1 = 0 then ((rAll tp 7 (rLaw tp).2.1 []).1, (rAll tp 7 (rLaw tp).2.1 []).2.1, ((rLaw tp).2.2.1, (rLaw tp).2.2.2, 0, (rAll tp 7 (rLaw tp).2.1 []).2.2.length, fun i => (rAll tp 7 (rLaw tp).2.1 []).2.2.getD i p0)) else ((rLaw tp).1, (rLaw tp).2.1, (1, 1, 0, 0, fun _ => p0))
/-! bounds of all that -/
theorem figs_le {tp : List Nat} {p : Nat} (h : 0 < figs tp p) : p + figs tp p ≤ tp.length := by
  have := (figs_in tp p (i := figs tp p - 1) (by omega)).1
  omega
theorem rNum_le {tp : List Nat} {p lo hi : Nat} (hp : p ≤ tp.length) : (rNum tp p lo hi).2.1 ≤ tp.length ∧ (rNum tp p lo hi).1 ≤ 2 := by
  unfold rNum
  split
  · exact ⟨hp, by simp⟩
  · split
    · rename_i h _
      exact ⟨figs_le (by omega), by simp⟩
    · exact ⟨hp, by simp⟩
theorem rNum_v {tp : List Nat} {p lo hi : Nat} (h : (rNum tp p lo hi).1 = 0) : lo ≤ (rNum tp p lo hi).2.2 ∧ (rNum tp p lo hi).2.2 ≤ hi := by
  unfold rNum at h ⊢
  split at h
  · cases h
  · split at h
    · rename_i h1 h2
      rw [if_neg h1, if_pos h2]
      exact h2
    · cases h
theorem rByte_le {tp : List Nat} {p c : Nat} (hp : p ≤ tp.length) : (rByte tp p c).2 ≤ tp.length ∧ (rByte tp p c).1 ≤ 1 := by
  unfold rByte
  split
  · rename_i h
    exact ⟨h.1, by simp⟩
  · exact ⟨hp, by simp⟩
theorem rNB_le {tp : List Nat} {p lo hi c : Nat} (hp : p ≤ tp.length) : (rNB tp p lo hi c).2.1 ≤ tp.length ∧ (rNB tp p lo hi c).1 ≤ 2 := by
  have h1 := rNum_le (lo := lo) (hi := hi) hp
  unfold rNB
  split
  · have h2 := rByte_le (c := c) h1.1
    exact ⟨h2.1, by have := h2.2; simp only; omega⟩
  · exact h1
theorem rNB_v {tp : List Nat} {p lo hi c : Nat} (h : (rNB tp p lo hi c).1 = 0) : lo ≤ (rNB tp p lo hi c).2.2 ∧ (rNB tp p lo hi c).2.2 ≤ hi := by
  unfold rNB at h ⊢
  split at h
  · rename_i h1
    rw [if_pos h1]
    exact rNum_v h1
  · rename_i h1
    exact absurd h h1
theorem rNB_num {tp : List Nat} {p lo hi c : Nat} (h : (rNB tp p lo hi c).1 = 0) : (rNum tp p lo hi).1 = 0 := by
  unfold rNB at h
  split at h
  · assumption
  · assumption
theorem kdOf_lt (c : Nat) : kdOf c < 6 := by
  unfold kdOf
  repeat' split
  all_goals omega
theorem rLaw_le (tp : List Nat) : (rLaw tp).2.1 ≤ tp.length ∧ (rLaw tp).1 ≤ 2 := by
  have h1 := rByte_le (tp := tp) (c := 121) (Nat.zero_le tp.length)
  have h2 := rNB_le (lo := 1) (hi := 24) (c := 44) h1.1
  have h3 := rNB_le (lo := 1) (hi := 30) (c := 59) h2.1
  unfold rLaw
  split
  · split
    · exact h3
    · exact h2
  · exact ⟨Nat.zero_le _, by simp⟩
theorem rPer_le {tp : List Nat} {p n : Nat} (hp : p < tp.length) : (rPer tp p n).2.1 ≤ tp.length ∧ (rPer tp p n).1 ≤ 3 := by
  have h1 := rNB_le (tp := tp) (p := p + 1) (lo := 0) (hi := 9) (c := 44) hp
  have h2 := rNB_le (lo := 0) (hi := 99) (c := 44) h1.1
  have h3 := rNB_le (lo := 0) (hi := 99) (c := 59) h2.1
  unfold rPer
  split
  · exact ⟨Nat.le_of_lt hp, by simp⟩
  · split
    · exact ⟨Nat.le_of_lt hp, by simp⟩
    · split
      · split
        · exact ⟨h3.1, by have := h3.2; simp only; omega⟩
        · exact ⟨h2.1, by have := h2.2; simp only; omega⟩
      · exact ⟨h1.1, by have := h1.2; simp only; omega⟩
theorem rPer_n {tp : List Nat} {p n : Nat} (h : (rPer tp p n).1 = 0) : n < 6 := by
  unfold rPer at h
  split at h
  · cases h
  · split at h
    · cases h
    · omega
theorem rPer_g {tp : List Nat} {p n : Nat} (h : (rPer tp p n).1 = 0) : pGd 9999 0 (rPer tp p n).2.2 := by
  unfold rPer at h ⊢
  split at h
  · cases h
  · rename_i k0
    rw [if_neg k0]
    split at h
    · cases h
    · rename_i h6
      rw [if_neg h6]
      split at h
      · rename_i h1
        rw [if_pos h1]
        split at h
        · rename_i h2
          rw [if_pos h2]
          have v1 := rNB_v h1
          have v2 := rNB_v h2
          refine ⟨?_, kdOf_lt _, v1.2, v2.2, Nat.zero_le _, ?_⟩
          · show 1 ≤ kdOf (tp.getD p 0)
            omega
          · exact ⟨by simp, by simp [sumD], fun q hq => by simp at hq⟩
        · rename_i h2
          exact absurd h h2
      · rename_i h1
        exact absurd h h1
theorem rAll_le (tp : List Nat) : ∀ k p ps, p ≤ tp.length → (rAll tp k p ps).2.1 ≤ tp.length ∧ (rAll tp k p ps).1 ≤ 3
  | 0, p, ps, hp => ⟨hp, by simp [rAll]⟩
  | k + 1, p, ps, hp => by
    unfold rAll
    split
    · rename_i h1
      split
      · exact rAll_le tp k _ _ (rPer_le h1).1
      · exact rPer_le h1
    · exact ⟨hp, by simp⟩
theorem rAll_g (tp : List Nat) : ∀ k p ps, ps.length ≤ 6 → (∀ q, q ∈ ps → pGd 9999 0 q) → (rAll tp k p ps).2.2.length ≤ 6 ∧ ∀ q, q ∈ (rAll tp k p ps).2.2 → pGd 9999 0 q
  | 0, p, ps, h6, hg => ⟨h6, hg⟩
  | k + 1, p, ps, h6, hg => by
    unfold rAll
    split
    · split
      · rename_i h2
        refine rAll_g tp k _ _ ?_ (fun q hq => ?_)
        · have := rPer_n h2
          simp
          omega
        · rw [List.mem_append, List.mem_singleton] at hq
          rcases hq with hq | rfl
          · exact hg q hq
          · exact rPer_g h2
      · exact ⟨h6, hg⟩
    · exact ⟨h6, hg⟩
theorem rLaw_v {tp : List Nat} (h : (rLaw tp).1 = 0) : 1 ≤ (rLaw tp).2.2.1 ∧ (rLaw tp).2.2.1 ≤ 24 ∧ 1 ≤ (rLaw tp).2.2.2 ∧ (rLaw tp).2.2.2 ≤ 30 := by
  unfold rLaw at h ⊢
  split at h
  · rename_i h1
    rw [if_pos h1]
    split at h
    · rename_i h2
      rw [if_pos h2]
      have v1 := rNB_v h2
      have v2 := rNB_v h
      exact ⟨v1.1, v1.2, v2.1, v2.2⟩
    · rename_i h2
      exact absurd h h2
  · cases h
theorem rCty_g {tp : List Nat} (h : (rCty tp).1 = 0) : cyGd 9999 (rCty tp).2.2 := by
  unfold rCty at h ⊢
  split at h
  · rename_i h1
    rw [if_pos h1]
    have v := rLaw_v h1
    have g := rAll_g tp 7 (rLaw tp).2.1 [] (by simp) (fun q hq => by simp at hq)
    refine ⟨v.1, v.2.1, v.2.2.1, v.2.2.2, g.1, fun i hi => ?_⟩
    have hi : i < (rAll tp 7 (rLaw tp).2.1 []).2.2.length := hi
    show pGd 9999 0 ((rAll tp 7 (rLaw tp).2.1 []).2.2.getD i p0)
    rw [List.getD_eq_getElem?_getD, List.getElem?_eq_getElem hi]
    exact g.2 _ (List.getElem_mem hi)
  · rename_i h1
    exact absurd h h1
theorem rCty_le (tp : List Nat) : (rCty tp).2.1 ≤ tp.length ∧ (rCty tp).1 ≤ 3 := by
  unfold rCty
  split
  · exact rAll_le tp 7 _ _ (rLaw_le tp).1
  · have := rLaw_le tp
    exact ⟨this.1, by have := this.2; simp only; omega⟩
