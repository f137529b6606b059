/-! ===== sets of places by the sum of their weights ===== -/
def sm (W : Nat → Nat) (n x : Nat) : Nat := sumN (fun k => if x.testBit k = true then W k else 0) n
theorem tb_lo {x k : Nat} (hx : x < 2 ^ k) {i : Nat} (hi : k ≤ i) : x.testBit i = false := Nat.testBit_lt_two_pow (Nat.lt_of_lt_of_le hx (Nat.pow_le_pow_right (by decide) hi))
theorem tb_hi {x k i : Nat} (hx : x < 2 ^ k) : (2 ^ k + x).testBit i = if i = k then true else x.testBit i := by
  by_cases e : i = k
  · subst e
    rw [if_pos rfl, Nat.testBit_two_pow_add_eq, tb_lo hx (Nat.le_refl _)]
    rfl
  · rw [if_neg e]
    by_cases h : i < k
    · rw [Nat.testBit_two_pow_add_gt h]
    · rw [tb_lo hx (by omega), Nat.testBit_lt_two_pow]
      have h2 : 2 ^ (k + 1) ≤ 2 ^ i := Nat.pow_le_pow_right (by decide) (by omega)
      rw [Nat.pow_succ] at h2
      omega
theorem sm_lo {W : Nat → Nat} {k x : Nat} (hx : x < 2 ^ k) : sm W (k + 1) x = sm W k x := by
  show sumN _ k + (if x.testBit k = true then W k else 0) = _
  rw [tb_lo hx (Nat.le_refl _), if_neg (by decide), Nat.add_zero]
  rfl
theorem sm_hi {W : Nat → Nat} {k x : Nat} (hx : x < 2 ^ k) : sm W (k + 1) (2 ^ k + x) = sm W k x + W k := by
  show sumN _ k + (if (2 ^ k + x).testBit k = true then W k else 0) = _
  rw [tb_hi hx, if_pos rfl, if_pos rfl]
  refine congrArg (· + W k) (sumN_eq (fun i hi => ?_))
  have e := tb_hi (i := i) hx
  rw [if_neg (show ¬ i = k by omega)] at e
  show (if (2 ^ k + x).testBit i = true then W i else 0) = if x.testBit i = true then W i else 0
  rw [e]
theorem add2 {a b c d : Nat} (h : a = c) (g : b = d) : a + b = c + d := by rw [h, g]
theorem add3 {x y z a b c : Nat} (h : x = y + z) (g : a = b + c) : x + a = (y + b) + (z + c) := by omega
theorem sumN_add (F : Nat → Nat) (a : Nat) : ∀ b, sumN F (a + b) = sumN F a + sumN (fun i => F (a + i)) b
  | 0 => rfl
  | b + 1 => by
    show sumN F (a + b) + F (a + b) = _ + (sumN _ b + F (a + b))
    rw [sumN_add F a b, Nat.add_assoc]
theorem sumN_succ0 (F : Nat → Nat) : sumN F 1 = F 0 := Nat.zero_add _
theorem sumN_mul (F : Nat → Nat) (a : Nat) : ∀ b, sumN F (b * a) = sumN (fun q => sumN (fun r => F (q * a + r)) a) b
  | 0 => by rw [Nat.zero_mul]; rfl
  | b + 1 => by
    rw [Nat.succ_mul, sumN_add, sumN_mul F a b]
    rfl
/-- a set in two parts -/
theorem sm_two {W : Nat → Nat} {a b l h : Nat} (hl : l < 2 ^ a) : sm W (a + b) (h * 2 ^ a + l) = sm W a l + sm (fun k => W (a + k)) b h := by
  unfold sm
  rw [sumN_add]
  refine add2 (sumN_eq (fun i hi => ?_)) (sumN_eq (fun i hi => ?_))
  · rw [Nat.mul_comm, Nat.testBit_two_pow_mul_add _ hl, if_pos hi]
  · have e : (h * 2 ^ a + l).testBit (a + i) = h.testBit i := by
      rw [Nat.mul_comm, Nat.testBit_two_pow_mul_add _ hl, if_neg (by omega), Nat.add_sub_cancel_left]
    rw [e]
/-! the first, block by block -/
theorem lsF_app {P : Nat → Bool} (b : Nat) : ∀ a k, lsF P (a + b) k = match lsF P a k with
    | some x => some x
    | none => lsF P b (k + a)
  | 0, k => by rw [Nat.zero_add, Nat.add_zero]; rfl
  | a + 1, k => by
    have e1 : lsF P (a + 1 + b) k = if P k = true then some k else lsF P (a + b) (k + 1) := by rw [Nat.add_right_comm]; rfl
    have e2 : lsF P (a + 1) k = if P k = true then some k else lsF P a (k + 1) := rfl
    rw [e1, e2]
    by_cases h : P k = true
    · rw [if_pos h, if_pos h]
    · rw [if_neg h, if_neg h, lsF_app b a (k + 1), Nat.add_right_comm, Nat.add_assoc]
theorem lsF_sh {P : Nat → Bool} (u : Nat) : ∀ n k, lsF P n (u + k) = (lsF (fun i => P (u + i)) n k).map (u + ·)
  | 0, _ => rfl
  | n + 1, k => by
    show (if P (u + k) = true then some (u + k) else lsF P n (u + k + 1)) = Option.map _ (if P (u + k) = true then some k else lsF _ n (k + 1))
    by_cases h : P (u + k) = true
    · rw [if_pos h, if_pos h]; rfl
    · rw [if_neg h, if_neg h, Nat.add_assoc, lsF_sh u n (k + 1)]
theorem lsF_cg {P Q : Nat → Bool} : ∀ n k, (∀ i, k ≤ i → i < k + n → P i = Q i) → lsF P n k = lsF Q n k
  | 0, _, _ => rfl
  | n + 1, k, h => by
    show (if P k = true then some k else lsF P n (k + 1)) = if Q k = true then some k else lsF Q n (k + 1)
    rw [h k (Nat.le_refl _) (by omega), lsF_cg n (k + 1) (fun i h1 h2 => h i (by omega) (by omega))]
theorem cnt_0 {P : Nat → Bool} {n : Nat} (h : sumN (fun i => nB (P i)) n = 0) : ∀ i, i < n → P i = false := fun i hi => by
  have := sumN_one (f := fun i => nB (P i)) hi
  cases g : P i with
  | false => rfl
  | true => rw [h] at this; simp only [g, nB, if_true] at this; omega
theorem cnt_pos {P : Nat → Bool} : ∀ {n : Nat}, 0 < sumN (fun i => nB (P i)) n → ∃ i, i < n ∧ P i = true
  | 0, h => absurd h (Nat.lt_irrefl 0)
  | n + 1, h => by
    cases g : P n with
    | true => exact ⟨n, by omega, g⟩
    | false =>
      have e : sumN (fun i => nB (P i)) (n + 1) = sumN (fun i => nB (P i)) n + nB (P n) := rfl
      rw [e, g] at h
      obtain ⟨i, hi, hp⟩ := cnt_pos (n := n) h
      exact ⟨i, by omega, hp⟩
theorem ls_none {P : Nat → Bool} : ∀ {n k : Nat}, lsF P n k = none → ∀ i, k ≤ i → i < k + n → P i = false
  | 0, k, _, i, h1, h2 => by omega
  | n + 1, k, h, i, h1, h2 => by
    have e : lsF P (n + 1) k = if P k = true then some k else lsF P n (k + 1) := rfl
    rw [e] at h
    by_cases g : P k = true
    · rw [if_pos g] at h; cases h
    · rw [if_neg g] at h
      by_cases z : i = k
      · subst z; simpa using g
      · exact ls_none h i (by omega) (by omega)
theorem cnt_ls {P : Nat → Bool} {n : Nat} : sumN (fun i => nB (P i)) n = 0 ↔ lsF P n 0 = none := by
  constructor
  · intro h
    exact lsF_no n 0 (fun j _ hj => cnt_0 h j (by omega))
  · intro h
    exact sumN_0 (fun i hi => by rw [ls_none h i (Nat.zero_le _) (by omega)]; rfl)
/-! two rows in order become one -/
def mg : Nat → List Nat → List Nat → List Nat
  | 0, _, _ => []
  | _ + 1, [], [] => []
  | n + 1, [], y :: ys => y :: mg n [] ys
  | n + 1, x :: xs, [] => x :: mg n xs []
  | n + 1, x :: xs, y :: ys => if x < y then x :: mg n xs (y :: ys) else y :: mg n (x :: xs) ys
theorem mg_len : ∀ n L M, L.length + M.length = n → (mg n L M).length = n
  | 0, _, _, _ => rfl
  | n + 1, [], [], h => by simp at h
  | n + 1, [], y :: ys, h => by show (mg n [] ys).length + 1 = _; rw [mg_len n [] ys (by simp at h ⊢; omega)]
  | n + 1, x :: xs, [], h => by show (mg n xs []).length + 1 = _; rw [mg_len n xs [] (by simp at h ⊢; omega)]
  | n + 1, x :: xs, y :: ys, h => by
    show (if x < y then x :: mg n xs (y :: ys) else y :: mg n (x :: xs) ys).length = _
    split
    · show (mg n xs (y :: ys)).length + 1 = _; rw [mg_len n xs (y :: ys) (by simp at h ⊢; omega)]
    · show (mg n (x :: xs) ys).length + 1 = _; rw [mg_len n (x :: xs) ys (by simp at h ⊢; omega)]
theorem mg_cnt (p : Nat → Bool) : ∀ n L M, L.length + M.length = n → (mg n L M).countP p = L.countP p + M.countP p
  | 0, [], [], _ => rfl
  | 0, _ :: _, _, h => by simp at h
  | 0, [], _ :: _, h => by simp at h
  | n + 1, [], [], h => by simp at h
  | n + 1, [], y :: ys, h => by
    show (y :: mg n [] ys).countP p = _
    rw [List.countP_cons, mg_cnt p n [] ys (by simp at h ⊢; omega), List.countP_cons]
    simp
  | n + 1, x :: xs, [], h => by
    show (x :: mg n xs []).countP p = _
    rw [List.countP_cons, mg_cnt p n xs [] (by simp at h ⊢; omega), List.countP_cons]
    simp
  | n + 1, x :: xs, y :: ys, h => by
    show (if x < y then x :: mg n xs (y :: ys) else y :: mg n (x :: xs) ys).countP p = _
    split
    · rw [List.countP_cons, mg_cnt p n xs (y :: ys) (by simp at h ⊢; omega), List.countP_cons (l := xs)]
      omega
    · rw [List.countP_cons, mg_cnt p n (x :: xs) ys (by simp at h ⊢; omega), List.countP_cons (l := ys)]
      omega
theorem mg_mem {z : Nat} : ∀ n L M, z ∈ mg n L M → z ∈ L ∨ z ∈ M
  | 0, _, _, h => by simp [mg] at h
  | n + 1, [], [], h => by simp [mg] at h
  | n + 1, [], y :: ys, h => by
    rcases List.mem_cons.mp h with h | h
    · exact Or.inr (by simp [h])
    · rcases mg_mem n [] ys h with h | h
      · exact Or.inl h
      · exact Or.inr (List.mem_cons_of_mem _ h)
  | n + 1, x :: xs, [], h => by
    rcases List.mem_cons.mp h with h | h
    · exact Or.inl (by simp [h])
    · rcases mg_mem n xs [] h with h | h
      · exact Or.inl (List.mem_cons_of_mem _ h)
      · exact Or.inr h
  | n + 1, x :: xs, y :: ys, h => by
    have h : z ∈ (if x < y then x :: mg n xs (y :: ys) else y :: mg n (x :: xs) ys) := h
    split at h
    · rcases List.mem_cons.mp h with h | h
      · exact Or.inl (by simp [h])
      · rcases mg_mem n xs (y :: ys) h with h | h
        · exact Or.inl (List.mem_cons_of_mem _ h)
        · exact Or.inr h
    · rcases List.mem_cons.mp h with h | h
      · exact Or.inr (by simp [h])
      · rcases mg_mem n (x :: xs) ys h with h | h
        · exact Or.inl h
        · exact Or.inr (List.mem_cons_of_mem _ h)
theorem mg_srt : ∀ n L M, L.Pairwise (· < ·) → M.Pairwise (· < ·) → (∀ x, x ∈ L → ∀ y, y ∈ M → x ≠ y) → (mg n L M).Pairwise (· < ·)
  | 0, _, _, _, _, _ => List.Pairwise.nil
  | n + 1, [], [], _, _, _ => List.Pairwise.nil
  | n + 1, [], y :: ys, h1, h2, h3 => by
    rw [List.pairwise_cons] at h2
    refine List.pairwise_cons.mpr ⟨fun z hz => ?_, mg_srt n [] ys h1 h2.2 (fun x hx => absurd hx (by simp))⟩
    rcases mg_mem n [] ys hz with h | h
    · exact absurd h (by simp)
    · exact h2.1 z h
  | n + 1, x :: xs, [], h1, h2, h3 => by
    rw [List.pairwise_cons] at h1
    refine List.pairwise_cons.mpr ⟨fun z hz => ?_, mg_srt n xs [] h1.2 h2 (fun x _ y hy => absurd hy (by simp))⟩
    rcases mg_mem n xs [] hz with h | h
    · exact h1.1 z h
    · exact absurd h (by simp)
  | n + 1, x :: xs, y :: ys, h1, h2, h3 => by
    have h1' := List.pairwise_cons.mp h1
    have h2' := List.pairwise_cons.mp h2
    show (if x < y then x :: mg n xs (y :: ys) else y :: mg n (x :: xs) ys).Pairwise (· < ·)
    split
    · rename_i hxy
      refine List.pairwise_cons.mpr ⟨fun z hz => ?_, mg_srt n xs (y :: ys) h1'.2 h2 (fun a ha b hb => h3 a (List.mem_cons_of_mem _ ha) b hb)⟩
      rcases mg_mem n xs (y :: ys) hz with h | h
      · exact h1'.1 z h
      · rcases List.mem_cons.mp h with h | h
        · rw [h]; exact hxy
        · exact Nat.lt_trans hxy (h2'.1 z h)
    · rename_i hxy
      have hne := h3 x List.mem_cons_self y List.mem_cons_self
      refine List.pairwise_cons.mpr ⟨fun z hz => ?_, mg_srt n (x :: xs) ys h1 h2'.2 (fun a ha b hb => h3 a ha b (List.mem_cons_of_mem _ hb))⟩
      rcases mg_mem n (x :: xs) ys hz with h | h
      · rcases List.mem_cons.mp h with h | h
        · rw [h]; omega
        · have := h1'.1 z h; omega
      · exact h2'.1 z h
/-- the sums of the first k places, each with its set behind it, in order -/
def lw (W : Nat → Nat) : Nat → List Nat
  | 0 => [0]
  | k + 1 => mg (2 * (lw W k).length) (lw W k) ((lw W k).map (· + (W k * 256 + 2 ^ k)))
def key (W : Nat → Nat) (k l : Nat) : Nat := sm W k l * 256 + l
theorem lw_len (W : Nat → Nat) : ∀ k, (lw W k).length = 2 ^ k
  | 0 => rfl
  | k + 1 => by
    show (mg _ _ _).length = _
    rw [mg_len _ _ _ (by rw [List.length_map]; omega), lw_len W k, Nat.pow_succ]
    omega
theorem lw_cnt (W : Nat → Nat) : ∀ k (p : Nat → Bool), (lw W k).countP p = sumN (fun l => nB (p (key W k l))) (2 ^ k)
  | 0, p => by
    have e0 : key W 0 0 = 0 := by simp only [key, sm, sumN, Nat.zero_mul, Nat.add_zero]
    have e1 : sumN (fun l => nB (p (key W 0 l))) (2 ^ 0) = nB (p (key W 0 0)) := by rw [Nat.pow_zero, sumN_succ0]
    rw [e1, e0]
    show [0].countP p = _
    cases h : p 0 <;> simp [h, nB]
  | k + 1, p => by
    show (mg _ _ _).countP p = _
    rw [mg_cnt p _ _ _ (by rw [List.length_map]; omega), List.countP_map, lw_cnt W k p, lw_cnt W k (p ∘ _), Nat.pow_succ, Nat.mul_two, sumN_add]
    refine add2 (sumN_eq (fun l hl => ?_)) (sumN_eq (fun l hl => ?_))
    · unfold key; rw [sm_lo hl]
    · have e : key W (k + 1) (2 ^ k + l) = key W k l + (W k * 256 + 2 ^ k) := by
        unfold key
        rw [sm_hi hl, Nat.add_mul]
        omega
      rw [e]
      rfl
theorem lw_mod (W : Nat → Nat) : ∀ k, k ≤ 8 → ∀ x, x ∈ lw W k → x % 256 < 2 ^ k
  | 0, _, x, h => by
    have : x = 0 := by simpa [lw] using h
    subst this
    decide
  | k + 1, hk, x, h => by
    have h8 : 2 ^ (k + 1) ≤ 2 ^ 8 := Nat.pow_le_pow_right (by decide) hk
    have e : 2 ^ (k + 1) = 2 ^ k * 2 := Nat.pow_succ ..
    rcases mg_mem _ _ _ h with h | h
    · have := lw_mod W k (by omega) x h; omega
    · obtain ⟨y, hy, rfl⟩ := List.mem_map.mp h
      have h1 := lw_mod W k (by omega) y hy
      have e3 : (y + (W k * 256 + 2 ^ k)) % 256 = (y % 256 + 2 ^ k) % 256 := by omega
      show (y + (W k * 256 + 2 ^ k)) % 256 < _
      omega
theorem lw_srt (W : Nat → Nat) : ∀ k, k ≤ 8 → (lw W k).Pairwise (· < ·)
  | 0, _ => by simp [lw]
  | k + 1, hk => by
    have ih := lw_srt W k (by omega)
    have h8 : 2 ^ (k + 1) ≤ 2 ^ 8 := Nat.pow_le_pow_right (by decide) hk
    have e : 2 ^ (k + 1) = 2 ^ k * 2 := Nat.pow_succ ..
    refine mg_srt _ _ _ ih (List.Pairwise.map _ (fun a b h => Nat.add_lt_add_right h _) ih) (fun x hx y hy => ?_)
    obtain ⟨z, hz, rfl⟩ := List.mem_map.mp hy
    have h1 := lw_mod W k (by omega) x hx
    have h2 := lw_mod W k (by omega) z hz
    intro he
    have he : x = z + (W k * 256 + 2 ^ k) := he
    omega
/-- in a row in order: what is less stands ahead -/
theorem srt_cnt {T : Nat} : ∀ {L : List Nat}, L.Pairwise (· < ·) → ∀ i, i < L.length → (L.getD i 0 < T ↔ i < L.countP (fun x => decide (x < T)))
  | [], _, i, h => absurd h (by simp)
  | x :: L, hs, i, hi => by
    rw [List.pairwise_cons] at hs
    rw [List.countP_cons]
    match i with
    | 0 =>
      show x < T ↔ _
      by_cases h : x < T
      · simp [h]
      · have : L.countP (fun x => decide (x < T)) = 0 := List.countP_eq_zero.mpr (fun y hy => by have := hs.1 y hy; simp; omega)
        simp [h, this]
    | i + 1 =>
      have ih := srt_cnt (T := T) hs.2 i (by simpa using hi)
      show L.getD i 0 < T ↔ _
      rw [ih]
      by_cases h : x < T
      · simp [h]
      · have : L.countP (fun x => decide (x < T)) = 0 := List.countP_eq_zero.mpr (fun y hy => by have := hs.1 y hy; simp; omega)
        simp [h, this]
/-- how many of the first sums are less than r -/
def plc (W : Nat → Nat) (a r : Nat) : Nat := (lw W a).countP (fun x => decide (x < r * 256))
theorem plc_two {W : Nat → Nat} {a r : Nat} (ha : a ≤ 8) : plc W a (r + 1) = plc W a r + sumN (fun l => nB (decide (sm W a l = r))) (2 ^ a) := by
  unfold plc
  have h8 : 2 ^ a ≤ 2 ^ 8 := Nat.pow_le_pow_right (by decide) ha
  rw [lw_cnt, lw_cnt]
  have h : ∀ n, n ≤ 2 ^ a → sumN (fun l => nB (decide (key W a l < (r + 1) * 256))) n = sumN (fun l => nB (decide (key W a l < r * 256))) n + sumN (fun l => nB (decide (sm W a l = r))) n := by
    intro n
    induction n with
    | zero => intro _; rfl
    | succ n ih =>
      intro hn
      have ih := ih (by omega)
      have : nB (decide (key W a n < (r + 1) * 256)) = nB (decide (key W a n < r * 256)) + nB (decide (sm W a n = r)) := by
        unfold key nB
        by_cases h1 : sm W a n < r
        · rw [decide_eq_true (show sm W a n * 256 + n < (r + 1) * 256 by omega), decide_eq_true (show sm W a n * 256 + n < r * 256 by omega), decide_eq_false (show ¬ sm W a n = r by omega)]
          rfl
        · by_cases h2 : sm W a n = r
          · rw [decide_eq_true (show sm W a n * 256 + n < (r + 1) * 256 by omega), decide_eq_false (show ¬ sm W a n * 256 + n < r * 256 by omega), decide_eq_true h2]
            rfl
          · rw [decide_eq_false (show ¬ sm W a n * 256 + n < (r + 1) * 256 by omega), decide_eq_false (show ¬ sm W a n * 256 + n < r * 256 by omega), decide_eq_false h2]
            rfl
      exact add3 ih this
  exact h _ (Nat.le_refl _)
/-- the set behind the first of the sums that are r -/
theorem plc_at {W : Nat → Nat} {a r : Nat} (ha : a ≤ 8) (hp : 0 < sumN (fun l => nB (decide (sm W a l = r))) (2 ^ a)) : plc W a r < 2 ^ a ∧ ∃ l, l < 2 ^ a ∧ lsF (fun l => decide (sm W a l = r)) (2 ^ a) 0 = some l ∧ (lw W a).getD (plc W a r) 0 = r * 256 + l := by
  have h8 : 2 ^ a ≤ 2 ^ 8 := Nat.pow_le_pow_right (by decide) ha
  have h2 := plc_two (W := W) (r := r) ha
  have hle : plc W a (r + 1) ≤ 2 ^ a := by
    have := List.countP_le_length (p := fun x => decide (x < (r + 1) * 256)) (l := lw W a)
    rw [lw_len] at this
    exact this
  have hlt : plc W a r < 2 ^ a := by omega
  have s1 := (not_congr (srt_cnt (T := r * 256) (lw_srt W a ha) (plc W a r) (by rw [lw_len]; exact hlt))).mpr (Nat.lt_irrefl _)
  have s2 := (srt_cnt (T := (r + 1) * 256) (lw_srt W a ha) (plc W a r) (by rw [lw_len]; exact hlt)).mpr (by show plc W a r < plc W a (r + 1); omega)
  have hm := getD_mem (L := lw W a) (i := plc W a r) (by rw [lw_len]; exact hlt)
  generalize hx : (lw W a).getD (plc W a r) 0 = x at *
  have mem_key : ∀ z, z ∈ lw W a → ∃ l, l < 2 ^ a ∧ z = key W a l := fun z hz => by
    have : 0 < (lw W a).countP (fun y => decide (y = z)) := List.countP_pos_iff.mpr ⟨z, hz, by simp⟩
    rw [lw_cnt] at this
    obtain ⟨l, hl, e⟩ := cnt_pos this
    exact ⟨l, hl, (of_decide_eq_true e).symm⟩
  have key_mem : ∀ l, l < 2 ^ a → key W a l ∈ lw W a := fun l hl => by
    have h : 0 < (lw W a).countP (fun y => decide (y = key W a l)) := by
      rw [lw_cnt]
      have := sumN_one (f := fun i => nB (decide (key W a i = key W a l))) hl
      simp only [decide_true, nB, if_true] at this
      exact this
    obtain ⟨y, hy, e⟩ := List.countP_pos_iff.mp h
    rw [← of_decide_eq_true e]
    exact hy
  obtain ⟨l, hl, e⟩ := mem_key x hm
  have e2 : x = sm W a l * 256 + l := e
  have hsm : sm W a l = r := by omega
  have hfin : x = r * 256 + l := by rw [e2, hsm]
  have hno : ∀ j, 0 ≤ j → j < l → decide (sm W a j = r) = false := fun j _ hj => decide_eq_false (fun z => by
    have hk := key_mem j (by omega)
    obtain ⟨i, hi, hie⟩ := List.getElem_of_mem hk
    have hgi : (lw W a).getD i 0 = key W a j := by rw [List.getD_eq_getElem?_getD, List.getElem?_eq_getElem hi, hie]; rfl
    have hkj : key W a j = r * 256 + j := by unfold key; rw [z]
    have n1 := (not_congr (srt_cnt (T := r * 256) (lw_srt W a ha) i hi)).mp (by rw [hgi]; omega)
    have n2 : plc W a r ≤ i := by unfold plc; omega
    have n3 : x ≤ (lw W a).getD i 0 := by
      rw [← hx]
      by_cases q : plc W a r = i
      · rw [q]; exact Nat.le_refl _
      · have := List.pairwise_iff_getElem.mp (lw_srt W a ha) (plc W a r) i (by rw [lw_len]; exact hlt) hi (by omega)
        rw [List.getD_eq_getElem?_getD, List.getD_eq_getElem?_getD, List.getElem?_eq_getElem (by rw [lw_len]; exact hlt), List.getElem?_eq_getElem hi]
        exact Nat.le_of_lt this
    rw [hgi, hkj] at n3
    omega)
  exact ⟨hlt, l, hl, lsF_at (P := fun l => decide (sm W a l = r)) (decide_eq_true hsm) _ _ (Nat.zero_le _) (by rw [Nat.zero_add]; exact hl) hno, hfin⟩
