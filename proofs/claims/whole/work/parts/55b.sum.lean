theorem len_gainAll {mo : Nat} {l h : LT} (h6 : h.length ≤ 6) : ∀ j, (gainAll mo l h j).length ≤ 6
  | 0 => h6
  | j + 1 => len_gain (len_gainAll h6 j)
theorem sum_gainAllN {mo : Nat} {l h : LT} (h6 : h.length ≤ 6) : ∀ j, sumD (gainAll mo l h j) = sumD h + sumN (lt_d l) j
  | 0 => rfl
  | j + 1 => by
    show sumD (pGain (lt_d l j) mo (gainAll mo l h j)) = _
    rw [sum_gain (len_gainAll h6 j), sum_gainAllN h6 j, Nat.add_assoc]
    rfl
theorem sum_gainAll {mo : Nat} {l h : LT} (h6 : h.length ≤ 6) : sumD (gainAll mo l h l.length) = sumD h + sumD l := by rw [sum_gainAllN h6, ← sumD_eq]
