/-! ===== the relation between the abstract machine and the real one ===== -/
def adr (base S b : Nat) : Nat → Nat
  | 0 => S
  | 1 => b
  | a + 2 => base + a
def tv (ad : Nat → Nat) : Value → Value
  | .ref a => .ref (ad a)
  | v => v
def tx (ad : Nat → Nat) (x : vp_A) : vp_A := (x.1, match x.2 with
  | .inr (.inr (.inr (.inr f))) => .inr (.inr (.inr (.inr (fun i => (f i).map ad))))
  | y => y)
def tE (ad : Nat → Nat) (cA : Nat → ClassId) : HC → va_E
  | .inl q => .inl (cA q.1, tx ad q.2)
  | .inr q => .inr (q.1, q.2.map (tv ad))
def wsO (base : Nat) (ad : Nat → Nat) (cA : Nat → ClassId) (l : List HC) : va_W := l.mapIdx (fun i e => (base + i, tE ad cA e))
section WSO
variable {base : Nat} {ad : Nat → Nat} {cA : Nat → ClassId} {l : List HC}
theorem wsO_get (i : Nat) : (wsO base ad cA l)[i]? = (l[i]?).map (fun e => (base + i, tE ad cA e)) := by
  unfold wsO
  rw [List.getElem?_mapIdx]
theorem wsO_len : (wsO base ad cA l).length = l.length := by
  unfold wsO
  rw [List.length_mapIdx]
theorem wsO_set (i : Nat) (e : HC) : wsO base ad cA (l.set i e) = (wsO base ad cA l).set i (base + i, tE ad cA e) := by
  apply List.ext_getElem?
  intro j
  rw [wsO_get, List.getElem?_set, List.getElem?_set, wsO_get, wsO_len]
  by_cases h : i = j
  · subst h
    by_cases h2 : i < l.length <;> simp [h2]
  · simp [h]
theorem wsO_app (e : HC) : wsO base ad cA (l ++ [e]) = wsO base ad cA l ++ [(base + l.length, tE ad cA e)] := by
  unfold wsO
  rw [List.mapIdx_append]
  simp
theorem wsO_D : va_D (fun q => base ≤ q) (wsO base ad cA l) := by
  refine ⟨fun i j x y hi hj e => ?_, fun k q hk => ?_⟩
  · rw [wsO_get] at hi hj
    obtain ⟨_, _, rfl⟩ := Option.map_eq_some_iff.mp hi
    obtain ⟨_, _, rfl⟩ := Option.map_eq_some_iff.mp hj
    have e : base + i = base + j := e
    omega
  · rw [wsO_get] at hk
    obtain ⟨_, _, rfl⟩ := Option.map_eq_some_iff.mp hk
    show base ≤ base + k
    omega
end WSO
theorem tv_cat (ad : Nat → Nat) (v : Value) : (tv ad v).category = v.category := by cases v <;> rfl
theorem isLg_cat (v : Value) : isLg v = true ↔ v.category = 2 := by cases v <;> simp [isLg, Value.category]
theorem cat1 {v : Value} (h : ¬ isLg v = true) : v.category = 1 := by cases v <;> simp_all [isLg, Value.category]
theorem catS_eq (ad : Nat → Nat) (st : List Value) : ((st.map (tv ad)).map fun v => v.category).sum = catS st := by
  induction st with
  | nil => rfl
  | cons v t ih =>
    simp only [List.map_cons, List.sum_cons, ih, catS, tv_cat]
    cases v <;> rfl
theorem lGet_ge : ∀ (L : List Value) (j : Nat), L.length ≤ j → lGet L j = jk
  | [], _, _ => rfl
  | _ :: t, 0, h => by simp at h
  | _ :: t, j + 1, h => lGet_ge t j (by simp at h; exact h)
theorem lSet_len : ∀ (L : List Value) (i : Nat) (v : Value), (lSet L i v).length = L.length
  | [], _, _ => rfl
  | _ :: _, 0, _ => rfl
  | _ :: t, i + 1, v => by simp [lSet, lSet_len t i v]
theorem lGet_set : ∀ (L : List Value) (i : Nat) (v : Value) (j : Nat), lGet (lSet L i v) j = if j = i ∧ i < L.length then v else lGet L j
  | [], i, v, j => by simp [lSet]
  | w :: t, 0, v, 0 => by simp [lSet, lGet]
  | w :: t, 0, v, j + 1 => by simp [lSet, lGet]
  | w :: t, i + 1, v, 0 => by simp [lSet, lGet]
  | w :: t, i + 1, v, j + 1 => by simp [lSet, lGet, lGet_set t i v j]
def lvl (ad : Nat → Nat) (L : List Value) : List (Nat × Value) := (List.range L.length).filterMap (fun j => if lGet L j = jk then none else some (j, tv ad (lGet L j)))
theorem lvl_mem {ad : Nat → Nat} {L : List Value} {q : Nat × Value} : q ∈ lvl ad L ↔ lGet L q.1 ≠ jk ∧ q.2 = tv ad (lGet L q.1) := by
  unfold lvl
  rw [List.mem_filterMap]
  constructor
  · rintro ⟨j, hj, e⟩
    split at e
    · cases e
    · rename_i hn
      cases e
      exact ⟨hn, rfl⟩
  · rintro ⟨h1, h2⟩
    refine ⟨q.1, List.mem_range.mpr ?_, ?_⟩
    · rcases Nat.lt_or_ge q.1 L.length with h | h
      · exact h
      · exact absurd (lGet_ge L q.1 h) h1
    · rw [if_neg h1, ← h2]
def lsR (ad : Nat → Nat) (ls : Array Slot) (nL : Nat) (L : List Value) : Prop := lv_has ls nL (lvl ad L)
theorem lsR_at {ad : Nat → Nat} {ls : Array Slot} {nL : Nat} {L : List Value} (h : lsR ad ls nL L) {j : Nat} {v : Value} (e : lGet L j = v) (hv : v ≠ jk) : ls[j]? = some (.val (tv ad v)) := by
  have := h.2.2 (j, tv ad v) (lvl_mem.mpr ⟨by rw [e]; exact hv, by rw [e]⟩)
  exact this
theorem lsR_st1 {ad : Nat → Nat} {ls : Array Slot} {nL i : Nat} {L : List Value} {v : Value} (hk : okS L i = true) (h : lv_has ls nL ((i, tv ad v) :: (lvl ad L).filter (fun q => !(q.1 == i) && !(q.1 + 1 == i && q.2.category == 2)))) : lsR ad ls nL (lSet L i v) := by
  refine ⟨h.1, h.2.1, fun q hq => ?_⟩
  obtain ⟨h1, h2⟩ := lvl_mem.mp hq
  rw [lGet_set] at h1 h2
  split at h1
  · rename_i hc
    rw [if_pos hc] at h2
    have : q = (i, tv ad v) := by rw [← h2, ← hc.1]
    rw [this]
    exact h.2.2 _ List.mem_cons_self
  · rename_i hc
    rw [if_neg hc] at h2
    refine h.2.2 _ (List.mem_cons_of_mem _ (List.mem_filter.mpr ⟨lvl_mem.mpr ⟨h1, h2⟩, ?_⟩))
    have hne : q.1 ≠ i := fun e => by
      rcases Nat.lt_or_ge i L.length with g | g
      · exact hc ⟨e, g⟩
      · exact h1 (lGet_ge L q.1 (by omega))
    have hcat : ¬ (q.1 + 1 = i ∧ q.2.category = 2) := fun z => by
      obtain ⟨z1, z2⟩ := z
      rw [← z1] at hk
      simp only [okS, Bool.not_eq_true'] at hk
      rw [h2, tv_cat] at z2
      rw [(isLg_cat _).mpr z2] at hk
      cases hk
    simp only [Bool.and_eq_true, Bool.not_eq_true', beq_eq_false_iff_ne, Bool.and_eq_false_iff]
    refine ⟨hne, ?_⟩
    by_cases z1 : q.1 + 1 = i
    · exact Or.inr (by simpa using fun z2 => hcat ⟨z1, z2⟩)
    · exact Or.inl z1
theorem lsR_st2 {ad : Nat → Nat} {ls : Array Slot} {nL i : Nat} {L : List Value} {v : Value} (hk : okS L i = true) (h : lv_has ls nL ((i, tv ad v) :: (lvl ad L).filter (fun q => !(q.1 == i) && (!(q.1 == i + 1) && !(q.1 + 1 == i && q.2.category == 2))))) : lsR ad ls nL (lSet (lSet L i v) (i + 1) jk) := by
  refine ⟨h.1, h.2.1, fun q hq => ?_⟩
  obtain ⟨h1, h2⟩ := lvl_mem.mp hq
  rw [lGet_set, lSet_len] at h1 h2
  split at h1
  · exact absurd rfl h1
  · rename_i hc0
    rw [if_neg hc0] at h2
    rw [lGet_set] at h1 h2
    split at h1
    · rename_i hc
      rw [if_pos hc] at h2
      have : q = (i, tv ad v) := by rw [← h2, ← hc.1]
      rw [this]
      exact h.2.2 _ List.mem_cons_self
    · rename_i hc
      rw [if_neg hc] at h2
      refine h.2.2 _ (List.mem_cons_of_mem _ (List.mem_filter.mpr ⟨lvl_mem.mpr ⟨h1, h2⟩, ?_⟩))
      have hne : q.1 ≠ i := fun e => by
        rcases Nat.lt_or_ge i L.length with g | g
        · exact hc ⟨e, g⟩
        · exact h1 (lGet_ge L q.1 (by omega))
      have hne1 : q.1 ≠ i + 1 := fun e => by
        rcases Nat.lt_or_ge (i + 1) L.length with g | g
        · exact hc0 ⟨e, g⟩
        · exact h1 (lGet_ge L q.1 (by omega))
      have hcat : ¬ (q.1 + 1 = i ∧ q.2.category = 2) := fun z => by
        obtain ⟨z1, z2⟩ := z
        rw [← z1] at hk
        simp only [okS, Bool.not_eq_true'] at hk
        rw [h2, tv_cat] at z2
        rw [(isLg_cat _).mpr z2] at hk
        cases hk
      simp only [Bool.and_eq_true, Bool.not_eq_true', beq_eq_false_iff_ne, Bool.and_eq_false_iff]
      refine ⟨hne, hne1, ?_⟩
      by_cases z1 : q.1 + 1 = i
      · exact Or.inr (by simpa using fun z2 => hcat ⟨z1, z2⟩)
      · exact Or.inl z1
theorem lGet_rep : ∀ (n j : Nat), lGet (List.replicate n jk) j = jk
  | 0, _ => rfl
  | n + 1, 0 => rfl
  | n + 1, j + 1 => by rw [List.replicate_succ]; exact lGet_rep n j
theorem ent_mem (ad : Nat → Nat) (n : Nat) : ∀ (as : List Value) (off j : Nat), lGet (flt as ++ List.replicate n jk) j ≠ jk → (off + j, tv ad (lGet (flt as ++ List.replicate n jk) j)) ∈ lv_args off (as.map (tv ad))
  | [], off, j, h => absurd (by rw [flt, List.nil_append]; exact lGet_rep n j) h
  | v :: t, off, j, h => by
    rw [List.map_cons, lv_args, tv_cat]
    by_cases hv : isLg v = true
    · rw [flt, if_pos hv] at h ⊢
      rw [if_pos ((isLg_cat v).mp hv)]
      match j with
      | 0 => exact List.mem_cons_self
      | 1 => exact absurd rfl h
      | j + 2 =>
        have := ent_mem ad n t (off + 2) j h
        rw [show off + (j + 2) = off + 2 + j by omega]
        exact List.mem_cons_of_mem _ this
    · rw [flt, if_neg hv] at h ⊢
      rw [if_neg (fun z => hv ((isLg_cat v).mpr z))]
      match j with
      | 0 => exact List.mem_cons_self
      | j + 1 =>
        have := ent_mem ad n t (off + 1) j h
        rw [show off + (j + 1) = off + 1 + j by omega]
        exact List.mem_cons_of_mem _ this
theorem flt_len (ad : Nat → Nat) : ∀ as : List Value, (lg_sl (as.map (tv ad))).length = (flt as).length
  | [] => rfl
  | v :: t => by
    have ih := flt_len ad t
    unfold lg_sl at ih ⊢
    rw [List.map_cons, List.flatMap_cons, List.length_append, ih, flt, tv_cat]
    by_cases hv : isLg v = true
    · rw [if_pos hv, if_pos ((isLg_cat v).mp hv)]
      simp
      omega
    · rw [if_neg hv, if_neg (fun z => hv ((isLg_cat v).mpr z))]
      simp
      omega
theorem lsR_ent (ad : Nat → Nat) (as : List Value) (n : Nat) (h : (flt as).length ≤ n) : lsR ad ((lg_sl (as.map (tv ad)) ++ List.replicate (n - (lg_sl (as.map (tv ad))).length) Slot.unset).toArray) n (entL n as) := by
  have he := lv_entry (as.map (tv ad)) (n := n) (by rw [flt_len]; exact h)
  refine ⟨he.1, he.2.1, fun q hq => ?_⟩
  obtain ⟨h1, h2⟩ := lvl_mem.mp hq
  have := ent_mem ad (n - (flt as).length) as 0 q.1 h1
  rw [Nat.zero_add] at this
  have e : q = (q.1, tv ad (lGet (flt as ++ List.replicate (n - (flt as).length) jk) q.1)) := by
    rw [show tv ad (lGet (flt as ++ List.replicate (n - (flt as).length) jk) q.1) = q.2 from h2.symm]
  rw [e]
  exact he.2.2 _ this
/-! inversion of the combinators -/
section INV
variable {ρ : Type} {x : ρ}
theorem popI_inv {st : List Value} {k : Int32 → List Value → Option ρ} (e : popI st k = some x) : ∃ y s, st = .int y :: s ∧ k y s = some x := by
  unfold popI at e
  split at e
  · exact ⟨_, _, rfl, e⟩
  · cases e
theorem popI2_inv {st : List Value} {k : Int32 → Int32 → List Value → Option ρ} (e : popI2 st k = some x) : ∃ y z s, st = .int z :: .int y :: s ∧ k y z s = some x := by
  unfold popI2 at e
  split at e
  · exact ⟨_, _, _, rfl, e⟩
  · cases e
theorem popL_inv {st : List Value} {k : Int64 → List Value → Option ρ} (e : popL st k = some x) : ∃ y s, st = .long y :: s ∧ k y s = some x := by
  unfold popL at e
  split at e
  · exact ⟨_, _, rfl, e⟩
  · cases e
theorem popL2_inv {st : List Value} {k : Int64 → Int64 → List Value → Option ρ} (e : popL2 st k = some x) : ∃ y z s, st = .long z :: .long y :: s ∧ k y z s = some x := by
  unfold popL2 at e
  split at e
  · exact ⟨_, _, _, rfl, e⟩
  · cases e
theorem popR_inv {st : List Value} {k : Nat → List Value → Option ρ} (e : popR st k = some x) : ∃ y s, st = .ref y :: s ∧ k y s = some x := by
  unfold popR at e
  split at e
  · exact ⟨_, _, rfl, e⟩
  · cases e
theorem popV_inv {st : List Value} {k : Value → List Value → Option ρ} (e : popV st k = some x) : ∃ y s, st = y :: s ∧ k y s = some x := by
  unfold popV at e
  split at e
  · exact ⟨_, _, rfl, e⟩
  · cases e
theorem asI_inv {v : Value} {k : Int32 → Option ρ} (e : asI v k = some x) : ∃ y, v = .int y ∧ k y = some x := by
  unfold asI at e
  split at e
  · exact ⟨_, rfl, e⟩
  · cases e
theorem asL_inv {v : Value} {k : Int64 → Option ρ} (e : asL v k = some x) : ∃ y, v = .long y ∧ k y = some x := by
  unfold asL at e
  split at e
  · exact ⟨_, rfl, e⟩
  · cases e
theorem asR_inv {v : Value} {k : Nat → Option ρ} (e : asR v k = some x) : ∃ y, v = .ref y ∧ k y = some x := by
  unfold asR at e
  split at e
  · exact ⟨_, rfl, e⟩
  · cases e
theorem bind_inv {α : Type} {o : Option α} {k : α → Option ρ} (e : o.bind k = some x) : ∃ y, o = some y ∧ k y = some x := Option.bind_eq_some_iff.mp e
theorem if_inv {c : Prop} {hd : Decidable c} {a : Option ρ} (e : (if c then a else none) = some x) : c ∧ a = some x := by
  split at e
  · exact ⟨by assumption, e⟩
  · cases e
theorem ifn_inv {c : Prop} {hd : Decidable c} {a : Option ρ} (e : (if c then none else a) = some x) : ¬ c ∧ a = some x := by
  split at e
  · cases e
  · exact ⟨by assumption, e⟩
end INV
