/-! ===== orders of deeds ===== -/
def fct : Nat → Nat
  | 0 => 1
  | n + 1 => (n + 1) * fct n
def foldN {S : Type} : Nat → (Nat → S → S) → S → S
  | 0, _, s => s
  | n + 1, g, s => g n (foldN n g s)
theorem foldN_cg {S : Type} {g h : Nat → S → S} : ∀ {n : Nat} {s : S}, (∀ i s, i < n → g i s = h i s) → foldN n g s = foldN n h s
  | 0, _, _ => rfl
  | n + 1, s, e => by
    show g n (foldN n g s) = h n (foldN n h s)
    rw [foldN_cg (fun i s hi => e i s (by omega)), e n _ (by omega)]
theorem foldN_add {S : Type} {g : Nat → S → S} {s : S} (a : Nat) : ∀ b, foldN (a + b) g s = foldN b (fun i => g (a + i)) (foldN a g s)
  | 0 => rfl
  | b + 1 => by
    show g (a + b) (foldN (a + b) g s) = g (a + b) (foldN b _ _)
    rw [foldN_add a b]
theorem foldN_mul {S : Type} {g : Nat → S → S} {s : S} (b : Nat) : ∀ a, foldN (a * b) g s = foldN a (fun q => foldN b (fun r => g (q * b + r))) s
  | 0 => by rw [Nat.zero_mul]; rfl
  | a + 1 => by
    rw [Nat.succ_mul, foldN_add, foldN_mul b a]
    rfl
theorem foldN_fst {S : Type} {g : Nat → S → S} : ∀ (n : Nat) (s : S), foldN (n + 1) g s = foldN n (fun i => g (i + 1)) (g 0 s)
  | 0, _ => rfl
  | n + 1, s => by
    show g (n + 1) (foldN (n + 1) g s) = g (n + 1) (foldN n _ _)
    rw [foldN_fst n s]
theorem foldl_N {S : Type} {F : S → Nat → S} : ∀ (L : List Nat) (s : S), L.foldl F s = foldN L.length (fun q s => F s (L.getD q 0)) s := by
  intro L
  induction L with
  | nil => intro s; rfl
  | cons x L ih =>
    intro s
    show L.foldl F (F s x) = foldN (L.length + 1) _ s
    rw [ih, foldN_fst]
    rfl
/-- the order of a number: of the places left that which a figure tells -/
def lay : Nat → Nat → List Nat → List Nat
  | 0, _, _ => []
  | f + 1, v, L => L.getD (v / fct f) 0 :: lay f (v % fct f) (L.filter (fun y => decide (y ≠ L.getD (v / fct f) 0)))
theorem fct_pos : ∀ n, 0 < fct n
  | 0 => Nat.one_pos
  | n + 1 => Nat.mul_pos (Nat.succ_pos n) (fct_pos n)
theorem lay_len : ∀ f v L, (lay f v L).length = f
  | 0, _, _ => rfl
  | f + 1, v, L => by show (lay f _ _).length + 1 = _; rw [lay_len f]
abbrev BS : Type := Nat × (Nat → Int32)
def kp (co : List Nat → Nat) (st : BS) (o : List Nat) : BS := if co o < st.1 then (co o, fun i => nI (o.getD i 0)) else st
/-- the class's tries -/
def trO (n : Nat) (co : List Nat → Nat) : Nat → List Nat → BS → BS
  | 0, pre, st => kp co st pre
  | f + 1, pre, st => (List.range n).foldl (fun st x => if pre.contains x = true then st else trO n co f (pre ++ [x]) st) st
def un (n : Nat) (pre : List Nat) : List Nat := (List.range n).filter (fun x => !(pre.contains x))
theorem un_app (n : Nat) (pre : List Nat) (x : Nat) : un n (pre ++ [x]) = (un n pre).filter (fun y => decide (y ≠ x)) := by
  unfold un
  rw [List.filter_filter]
  refine List.filter_congr (fun y _ => ?_)
  rw [List.contains_eq_mem, List.contains_eq_mem]
  by_cases h1 : y ∈ pre
  · simp [h1]
  · by_cases h2 : y = x
    · simp [h2]
    · simp [h1, h2]
theorem nodup_len {x : Nat} : ∀ {l : List Nat}, l.Nodup → x ∈ l → (l.filter (fun y => decide (y ≠ x))).length + 1 = l.length
  | [], _, h => absurd h (by simp)
  | y :: l, hn, h => by
    rw [List.nodup_cons] at hn
    rw [List.filter_cons]
    by_cases e : y = x
    · subst e
      rw [if_neg (by simp)]
      have : l.filter (fun z => decide (z ≠ y)) = l := List.filter_eq_self.mpr (fun z hz => decide_eq_true (fun e => hn.1 (e ▸ hz)))
      rw [this]
      rfl
    · rw [if_pos (by simpa using e)]
      have hx : x ∈ l := by
        rcases List.mem_cons.mp h with h | h
        · exact absurd h.symm e
        · exact h
      show (l.filter _).length + 1 + 1 = l.length + 1
      rw [nodup_len hn.2 hx]
theorem un_nd (n : Nat) (pre : List Nat) : (un n pre).Nodup := List.Pairwise.filter _ List.nodup_range
theorem getD_mem {L : List Nat} {i : Nat} (h : i < L.length) : L.getD i 0 ∈ L := by
  rw [List.getD_eq_getElem?_getD, List.getElem?_eq_getElem h]
  exact List.getElem_mem h
theorem trO_N (n : Nat) (co : List Nat → Nat) : ∀ f pre st, (un n pre).length = f → trO n co f pre st = foldN (fct f) (fun v st => kp co st (pre ++ lay f v (un n pre))) st
  | 0, pre, st, _ => by
    show kp co st pre = kp co st (pre ++ [])
    rw [List.append_nil]
  | f + 1, pre, st, hl => by
    have h1 : trO n co (f + 1) pre st = (un n pre).foldl (fun st x => trO n co f (pre ++ [x]) st) st := by
      show (List.range n).foldl _ st = _
      unfold un
      rw [List.foldl_filter]
      refine congrArg (fun F => (List.range n).foldl F st) ?_
      funext st x
      cases pre.contains x <;> rfl
    rw [h1, foldl_N, hl]
    show _ = foldN ((f + 1) * fct f) _ st
    rw [foldN_mul]
    refine foldN_cg (fun q st hq => ?_)
    have hm := getD_mem (L := un n pre) (i := q) (by omega)
    have hln : (un n (pre ++ [(un n pre).getD q 0])).length = f := by
      have := nodup_len (un_nd n pre) hm
      rw [un_app]
      omega
    rw [trO_N n co f _ st hln]
    refine foldN_cg (fun r st hr => ?_)
    have hp := fct_pos f
    have e1 : (q * fct f + r) / fct f = q := by rw [Nat.mul_comm, Nat.mul_add_div hp, Nat.div_eq_of_lt hr, Nat.add_zero]
    have e2 : (q * fct f + r) % fct f = r := by rw [Nat.mul_comm, Nat.mul_add_mod, Nat.mod_eq_of_lt hr]
    have e3 : lay (f + 1) (q * fct f + r) (un n pre) = (un n pre).getD q 0 :: lay f r ((un n pre).filter (fun y => decide (y ≠ (un n pre).getD q 0))) := by
      show (un n pre).getD ((q * fct f + r) / fct f) 0 :: lay f ((q * fct f + r) % fct f) _ = _
      rw [e1, e2]
    rw [e3, un_app, List.append_assoc]
    rfl
theorem un_nil (n : Nat) : un n [] = List.range n := List.filter_eq_self.mpr (fun _ _ => rfl)
def bestS (n : Nat) (co : List Nat → Nat) (b0 : Nat → Int32) : BS := foldN (fct n) (fun v st => kp co st (lay n v (List.range n))) (10000, b0)
theorem trO_best (n : Nat) (co : List Nat → Nat) (b0 : Nat → Int32) : trO n co n [] (10000, b0) = bestS n co b0 := by
  rw [trO_N n co n [] _ (by rw [un_nil, List.length_range]), un_nil]
  rfl
theorem bestS_0 {n : Nat} {co : List Nat → Nat} (h : ∀ o, co o < 10000) (b0 b1 : Nat → Int32) : bestS n co b0 = bestS n co b1 := by
  unfold bestS
  have hp := fct_pos n
  generalize fct n = k at *
  match k, hp with
  | k + 1, _ =>
    rw [foldN_fst, foldN_fst]
    have e : ∀ b, kp co (10000, b) (lay n 0 (List.range n)) = (co (lay n 0 (List.range n)), fun i => nI ((lay n 0 (List.range n)).getD i 0)) := fun b => if_pos (h _)
    rw [e, e]
/-! masks -/
def bl (U : Nat) : List Nat := (List.range 6).filter (fun x => U.testBit x)
def clr (U x : Nat) : Nat := U &&& (63 ^^^ (1 <<< x))
def wlf (U : Nat) : Nat → Nat → Nat → Option Nat
  | _, _, 0 => none
  | q, w, fu + 1 => if U.testBit w = true ∧ q = 0 then some w else wlf U (q - (U.testBit w).toNat) (w + 1) fu
set_option maxRecDepth 20000 in
theorem bit_tab : ∀ U, U < 64 → ∀ x, x < 6 → ((nI U >>> (nI x &&& 31)) &&& 1 = 1 ↔ U.testBit x = true) := by decide +kernel
set_option maxRecDepth 20000 in
theorem bit_tab2 : ∀ U, U < 64 → ∀ x, x < 6 → (nI U >>> (nI x &&& 31)) &&& 1 = nI (U.testBit x).toNat := by decide +kernel
set_option maxRecDepth 20000 in
theorem or_tab : ∀ U, U < 64 → ∀ x, x < 6 → nI U ||| ((1 : Int32) <<< (nI x &&& 31)) = nI (U ||| (1 <<< x)) ∧ (U ||| (1 <<< x)) < 64 := by decide +kernel
set_option maxRecDepth 20000 in
theorem or_tab2 : ∀ U, U < 64 → ∀ x, x < 6 → ∀ y, y < 6 → (U ||| (1 <<< x)).testBit y = (U.testBit y || decide (y = x)) := by decide +kernel
set_option maxRecDepth 20000 in
theorem clr_tab : ∀ U, U < 64 → ∀ x, x < 6 → nI U &&& (((1 : Int32) <<< (nI x &&& 31)) ^^^ (-1)) = nI (clr U x) ∧ clr U x < 64 ∧ bl (clr U x) = (bl U).filter (fun y => decide (y ≠ x)) := by decide +kernel
set_option maxRecDepth 20000 in
theorem wl_tab : ∀ U, U < 64 → ∀ q, q < 6 → q < (bl U).length → wlf U q 0 6 = some ((bl U).getD q 0) := by decide +kernel
set_option maxRecDepth 20000 in
theorem bl_full : ∀ n, n ≤ 6 → bl (2 ^ n - 1) = List.range n ∧ ((1 : Int32) <<< (nI n &&& 31)) - 1 = nI (2 ^ n - 1) ∧ 2 ^ n - 1 < 64 := by decide +kernel
theorem bl_lt {U x : Nat} (h : x ∈ bl U) : x < 6 := List.mem_range.mp (List.mem_filter.mp h).1
