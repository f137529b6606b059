/-! ===== what holds of persons and counties at all times ===== -/
theorem sumD_eq (l : LT) : sumD l = sumN (lt_d l) l.length := by
  have g : ∀ k, k ≤ l.length → sumD (l.take k) = sumN (lt_d l) k := by
    intro k
    induction k with
    | zero => intro _; simp [sumD, sumN]
    | succ k ih => intro hk; rw [sumD_take l (by omega), ih (by omega)]; rfl
  have := g l.length (Nat.le_refl _)
  rwa [List.take_length] at this
theorem sumN_le {f g : Nat → Nat} : ∀ {n : Nat}, (∀ i, i < n → f i ≤ g i) → sumN f n ≤ sumN g n
  | 0, _ => Nat.le_refl _
  | n + 1, h => Nat.add_le_add (sumN_le (fun i hi => h i (by omega))) (h n (by omega))
theorem sumN_eq {f g : Nat → Nat} : ∀ {n : Nat}, (∀ i, i < n → f i = g i) → sumN f n = sumN g n
  | 0, _ => rfl
  | n + 1, h => by
    show sumN f n + f n = sumN g n + g n
    rw [sumN_eq (fun i hi => h i (by omega)), h n (by omega)]
theorem sumN_one {f : Nat → Nat} {i : Nat} : ∀ {n : Nat}, i < n → f i ≤ sumN f n
  | n + 1, h => by
    show f i ≤ sumN f n + f n
    by_cases e : i = n
    · subst e; omega
    · have := sumN_one (f := f) (i := i) (n := n) (by omega); omega
theorem sum_keep (l : LT) : sumD (keepL l) = sumD l := by
  induction l with
  | nil => rfl
  | cons q l ih =>
    unfold keepL sumD at *
    by_cases h : 0 < q.1
    · simp [List.filter_cons, h, ih]
    · simp [List.filter_cons, h, ih]
      omega
theorem sum_le_of {l l' : LT} (hl : l'.length = l.length) (h : ∀ i, lt_d l' i ≤ lt_d l i) : sumD l' ≤ sumD l := by
  rw [sumD_eq, sumD_eq, hl]
  exact sumN_le (fun i _ => h i)
theorem sum_gain {n mo : Nat} {l : LT} (h6 : l.length ≤ 6) : sumD (pGain n mo l) = sumD l + n := by
  unfold pGain
  split
  · unfold sumD
    simp
  · have e : l.length = 6 := by omega
    rw [sumD_eq, sumD_eq, List.length_set, e]
    simp [sumN, lt_set_d, e]
    omega
theorem len_gain {n mo : Nat} {l : LT} (h6 : l.length ≤ 6) : (pGain n mo l).length ≤ 6 := by
  unfold pGain
  split
  · simp; omega
  · simpa using h6
theorem lt_mem {l : LT} {i : Nat} (h : i < l.length) : (lt_d l i, lt_m l i) ∈ l := List.mem_of_getElem? (lt_get h)
theorem mem_lt {l : LT} {q : Nat × Nat} (h : q ∈ l) : ∃ i, i < l.length ∧ q = (lt_d l i, lt_m l i) := by
  obtain ⟨i, hi, e⟩ := List.getElem_of_mem h
  refine ⟨i, hi, ?_⟩
  have := lt_get hi
  rw [List.getElem?_eq_getElem hi, e] at this
  exact Option.some.inj this
theorem mem_gain {n mo : Nat} {l : LT} {q : Nat × Nat} (h : q ∈ pGain n mo l) : q ∈ l ∨ q = (n, mo) ∨ (6 ≤ l.length ∧ q = (lt_d l 5 + n, lt_m l 5)) := by
  unfold pGain at h
  split at h
  · rw [List.mem_append, List.mem_singleton] at h
    rcases h with h | h
    · exact Or.inl h
    · exact Or.inr (Or.inl h)
  · rcases List.mem_or_eq_of_mem_set h with h | h
    · exact Or.inl h
    · exact Or.inr (Or.inr ⟨by omega, h⟩)
/-- B: days at most; m: the month -/
def ltGd (B m : Nat) (l : LT) : Prop := l.length ≤ 6 ∧ sumD l ≤ B ∧ ∀ q, q ∈ l → 1 ≤ q.1 ∧ q.2 ≤ m
def pGd (B m : Nat) (p : PT) : Prop := 1 ≤ p.1 ∧ p.1 < 6 ∧ p.2.1 ≤ 9 ∧ p.2.2.1 ≤ 99 ∧ p.2.2.2.2.1 ≤ 9999 ∧ ltGd B m p.2.2.2.2.2.2
def cyGd (B : Nat) (c : CY) : Prop := 1 ≤ c.1 ∧ c.1 ≤ 24 ∧ 1 ≤ c.2.1 ∧ c.2.1 ≤ 30 ∧ c.2.2.2.1 ≤ 6 ∧ ∀ i, i < c.2.2.2.1 → pGd B c.2.2.1 (c.2.2.2.2 i)
theorem one_le_sum {l : LT} {i : Nat} (h : i < l.length) : lt_d l i ≤ sumD l := by
  rw [sumD_eq]
  exact sumN_one h
theorem ltGd_len {B m : Nat} {l : LT} (h : ltGd B m l) : l.length ≤ 6 := h.1
theorem pGd.ok {B m : Nat} {p : PT} (h : pGd B m p) (hB : B < 2 ^ 20) (hm : m < 2 ^ 20) : pOk p := by
  obtain ⟨h1, h2, h3, h4, h5, h6, h7, h8⟩ := h
  refine ⟨h2, h5, fun i hi => ?_, by omega, by omega⟩
  have := one_le_sum hi
  have h9 := (h8 _ (lt_mem hi)).2
  simp only at h9
  omega
theorem cyGd.ok {B : Nat} {c : CY} (h : cyGd B c) (hB : B < 2 ^ 20) (hm : c.2.2.1 < 2 ^ 20) : cyOk c := ⟨by have := h.2.1; omega, by have := h.2.2.2.1; omega, hm, fun i hi => (h.2.2.2.2.2 i hi).ok hB hm⟩
theorem keep_len (l : LT) : (keepL l).length ≤ l.length := List.length_filter_le _ _
theorem gd_keep {B m : Nat} {l l' : LT} (h : ltGd B m l) (hl : l'.length = l.length) (hd : ∀ i, lt_d l' i ≤ lt_d l i) (hm : ∀ i, lt_m l' i = lt_m l i) : ltGd B m (keepL l') := by
  refine ⟨by have := keep_len l'; have := h.1; omega, ?_, fun q hq => ?_⟩
  · rw [sum_keep]
    have := sum_le_of hl hd
    have := h.2.1
    omega
  · obtain ⟨h1, h2⟩ := keep_mem hq
    obtain ⟨i, hi, rfl⟩ := mem_lt h1
    have := (h.2.2 _ (lt_mem (show i < l.length by omega))).2
    rw [hm]
    exact ⟨h2, this⟩
theorem gd_spend {B m n : Nat} {b : Bool} {l : LT} (h : ltGd B m l) : ltGd B m (spend b n l).1 := gd_keep h (spIt_len _) (spIt_d _) (spIt_m _)
theorem gd_zap {B m k : Nat} {mo tm : Int32} {l : LT} (h : ltGd B m l) : ltGd B m (keepL (zap k l mo tm l.length)) := gd_keep h (zap_len _) (zap_d _) (zap_m _)
theorem gd_gain {B B' m n : Nat} {l : LT} (h : ltGd B m l) (hn : 1 ≤ n) (hB : sumD l + n ≤ B') : ltGd B' m (pGain n m l) := by
  refine ⟨len_gain h.1, by rw [sum_gain h.1]; exact hB, fun q hq => ?_⟩
  rcases mem_gain hq with hq | rfl | ⟨h6, rfl⟩
  · exact h.2.2 q hq
  · exact ⟨hn, Nat.le_refl _⟩
  · have := (h.2.2 _ (lt_mem (show 5 < l.length by omega))).2
    exact ⟨by show 1 ≤ lt_d l 5 + n; omega, this⟩
theorem gd_mono {B B' m m' : Nat} {l : LT} (h : ltGd B m l) (hB : B ≤ B') (hm : m ≤ m') : ltGd B' m' l := ⟨h.1, by have := h.2.1; omega, fun q hq => by have := h.2.2 q hq; omega⟩
theorem pGd_commit {B m w : Nat} {p : PT} (h : pGd B m p) : pGd B m (pCommit w p) := by
  obtain ⟨k, le, wo, ca, ow, dn, l⟩ := p
  obtain ⟨h1, h2, h3, h4, h5, h6⟩ := h
  exact ⟨h1, h2, h3, h4, Nat.min_le_left _ _, gd_spend h6⟩
theorem pGd_end {B m : Nat} {mo tm : Int32} {p : PT} (h : pGd B m p) : pGd B (m + 1) (pEnd mo tm p) := by
  obtain ⟨k, le, wo, ca, ow, dn, l⟩ := p
  obtain ⟨h1, h2, h3, h4, h5, h6⟩ := h
  refine ⟨h1, h2, h3, h4, ?_, gd_mono (gd_zap h6) (Nat.le_refl _) (Nat.le_succ _)⟩
  show (if isOfB k 5 then ow / 2 else ow) ≤ 9999
  simp only at h5
  split <;> omega
theorem pGd_draw {B m w x : Nat} {p : PT} (h : pGd B m p) : pGd B m (pDraw w x p) := by
  unfold pDraw
  split
  · exact pGd_commit h
  · exact h
theorem cyGd_end {B : Nat} {c : CY} (h : cyGd B c) : cyGd B (cEnd c) := ⟨h.1, h.2.1, h.2.2.1, h.2.2.2.1, h.2.2.2.2.1, fun i hi => pGd_end (h.2.2.2.2.2 i hi)⟩
theorem cyGd_draw {B x : Nat} {c : CY} (h : cyGd B c) : cyGd B (cDraw x c) := ⟨h.1, h.2.1, h.2.2.1, h.2.2.2.1, h.2.2.2.2.1, fun i hi => pGd_draw (h.2.2.2.2.2 i hi)⟩
theorem cyGd_mths {B : Nat} {c : CY} {x : Nat} (h : cyGd B c) : ∀ k, cyGd B (mths c x k).1
  | 0 => h
  | k + 1 => cyGd_end (cyGd_draw (cyGd_mths h k))
/-! a sale -/
def pSold (n : Nat) (pr : Int32) (p : PT) : PT := match p with
  | (k, le, wo, ca, ow, dn, l) => (k, le, wo, ca + pr, ow, dn, (spend (isOfB k 4) n l).1)
def pBuy (n mo : Nat) (pr : Int32) (p : PT) : PT := match p with
  | (k, le, wo, ca, ow, dn, l) => (k, le, wo, ca - pr, ow, dn, pGain n mo l)
def cSell (a b n : Nat) (pr : Int32) (c : CY) : CY := match c with
  | (t, w, m, N, f) => (t, w, m, N, fun i => if i = b then pBuy n m pr (f b) else if i = a then pSold n pr (f a) else f i)
theorem cyGd_sell {c : CY} {a b n : Nat} {pr : Int32} (h : cyGd 9999 c) (ha : a < c.2.2.2.1) (hb : b < c.2.2.2.1) (hn : 1 ≤ n) (hr : refS n (c.2.2.2.2 a) (c.2.2.2.2 b) = 0) : cyGd 9999 (cSell a b n pr c) := by
  obtain ⟨t, w, m, N, f⟩ := c
  have hs : sumD (f b).2.2.2.2.2.2 + n ≤ 9999 := by
    unfold refS at hr
    simp only at hr
    split at hr
    · exact absurd hr (by decide)
    · split at hr
      · exact absurd hr (by decide)
      · omega
  refine ⟨h.1, h.2.1, h.2.2.1, h.2.2.2.1, h.2.2.2.2.1, fun i hi => ?_⟩
  show pGd 9999 m (if i = b then pBuy n m pr (f b) else if i = a then pSold n pr (f a) else f i)
  split
  · obtain ⟨h1, h2, h3, h4, h5, h6⟩ := h.2.2.2.2.2 b hb
    exact ⟨h1, h2, h3, h4, h5, gd_gain h6 hn hs⟩
  · split
    · obtain ⟨h1, h2, h3, h4, h5, h6⟩ := h.2.2.2.2.2 a ha
      exact ⟨h1, h2, h3, h4, h5, gd_spend h6⟩
    · exact h.2.2.2.2.2 i hi
/-- told sales, as far as none is refused: how many, the county -/
def sellA (q : Nat → Nat) : Nat → Nat → CY → Nat × CY
  | 0, k, c => (k, c)
  | m + 1, k, c => if refS (q (4 * k + 2)) (c.2.2.2.2 (q (4 * k))) (c.2.2.2.2 (q (4 * k + 1))) = 0 then sellA q m (k + 1) (cSell (q (4 * k)) (q (4 * k + 1)) (q (4 * k + 2)) (nI (q (4 * k + 3))) c) else (k, c)
/-- the k-th told sale can be asked for among N -/
def saleOk (q : Nat → Nat) (N k : Nat) : Prop := q (4 * k) < N ∧ q (4 * k + 1) < N ∧ q (4 * k) ≠ q (4 * k + 1) ∧ 1 ≤ q (4 * k + 2) ∧ q (4 * k + 2) ≤ 999 ∧ q (4 * k + 3) ≤ 999
