/-! ===== the machine's rows in a form that simp takes from the outside in ===== -/
section PRE
variable {ρ : Type}
theorem gi0 {c : Int32} {r : List Value} (f : Int32 → Option ρ) : asI (lGet (.int c :: r) 0) f = f c := rfl
theorem gr0 {c : Nat} {r : List Value} (f : Nat → Option ρ) : asR (lGet (.ref c :: r) 0) f = f c := rfl
theorem gl0 {c : Int64} {r : List Value} (f : Int64 → Option ρ) : asL (lGet (.long c :: r) 0) f = f c := rfl
theorem gi1 {x0 : Value} {c : Int32} {r : List Value} (f : Int32 → Option ρ) : asI (lGet (x0 :: .int c :: r) 1) f = f c := rfl
theorem gr1 {x0 : Value} {c : Nat} {r : List Value} (f : Nat → Option ρ) : asR (lGet (x0 :: .ref c :: r) 1) f = f c := rfl
theorem gl1 {x0 : Value} {c : Int64} {r : List Value} (f : Int64 → Option ρ) : asL (lGet (x0 :: .long c :: r) 1) f = f c := rfl
theorem gi2 {x0 x1 : Value} {c : Int32} {r : List Value} (f : Int32 → Option ρ) : asI (lGet (x0 :: x1 :: .int c :: r) 2) f = f c := rfl
theorem gr2 {x0 x1 : Value} {c : Nat} {r : List Value} (f : Nat → Option ρ) : asR (lGet (x0 :: x1 :: .ref c :: r) 2) f = f c := rfl
theorem gl2 {x0 x1 : Value} {c : Int64} {r : List Value} (f : Int64 → Option ρ) : asL (lGet (x0 :: x1 :: .long c :: r) 2) f = f c := rfl
theorem gi3 {x0 x1 x2 : Value} {c : Int32} {r : List Value} (f : Int32 → Option ρ) : asI (lGet (x0 :: x1 :: x2 :: .int c :: r) 3) f = f c := rfl
theorem gr3 {x0 x1 x2 : Value} {c : Nat} {r : List Value} (f : Nat → Option ρ) : asR (lGet (x0 :: x1 :: x2 :: .ref c :: r) 3) f = f c := rfl
theorem gl3 {x0 x1 x2 : Value} {c : Int64} {r : List Value} (f : Int64 → Option ρ) : asL (lGet (x0 :: x1 :: x2 :: .long c :: r) 3) f = f c := rfl
theorem gi4 {x0 x1 x2 x3 : Value} {c : Int32} {r : List Value} (f : Int32 → Option ρ) : asI (lGet (x0 :: x1 :: x2 :: x3 :: .int c :: r) 4) f = f c := rfl
theorem gr4 {x0 x1 x2 x3 : Value} {c : Nat} {r : List Value} (f : Nat → Option ρ) : asR (lGet (x0 :: x1 :: x2 :: x3 :: .ref c :: r) 4) f = f c := rfl
theorem gl4 {x0 x1 x2 x3 : Value} {c : Int64} {r : List Value} (f : Int64 → Option ρ) : asL (lGet (x0 :: x1 :: x2 :: x3 :: .long c :: r) 4) f = f c := rfl
theorem gi5 {x0 x1 x2 x3 x4 : Value} {c : Int32} {r : List Value} (f : Int32 → Option ρ) : asI (lGet (x0 :: x1 :: x2 :: x3 :: x4 :: .int c :: r) 5) f = f c := rfl
theorem gr5 {x0 x1 x2 x3 x4 : Value} {c : Nat} {r : List Value} (f : Nat → Option ρ) : asR (lGet (x0 :: x1 :: x2 :: x3 :: x4 :: .ref c :: r) 5) f = f c := rfl
theorem gl5 {x0 x1 x2 x3 x4 : Value} {c : Int64} {r : List Value} (f : Int64 → Option ρ) : asL (lGet (x0 :: x1 :: x2 :: x3 :: x4 :: .long c :: r) 5) f = f c := rfl
theorem gi6 {x0 x1 x2 x3 x4 x5 : Value} {c : Int32} {r : List Value} (f : Int32 → Option ρ) : asI (lGet (x0 :: x1 :: x2 :: x3 :: x4 :: x5 :: .int c :: r) 6) f = f c := rfl
theorem gr6 {x0 x1 x2 x3 x4 x5 : Value} {c : Nat} {r : List Value} (f : Nat → Option ρ) : asR (lGet (x0 :: x1 :: x2 :: x3 :: x4 :: x5 :: .ref c :: r) 6) f = f c := rfl
theorem gl6 {x0 x1 x2 x3 x4 x5 : Value} {c : Int64} {r : List Value} (f : Int64 → Option ρ) : asL (lGet (x0 :: x1 :: x2 :: x3 :: x4 :: x5 :: .long c :: r) 6) f = f c := rfl
theorem gi7 {x0 x1 x2 x3 x4 x5 x6 : Value} {c : Int32} {r : List Value} (f : Int32 → Option ρ) : asI (lGet (x0 :: x1 :: x2 :: x3 :: x4 :: x5 :: x6 :: .int c :: r) 7) f = f c := rfl
theorem gr7 {x0 x1 x2 x3 x4 x5 x6 : Value} {c : Nat} {r : List Value} (f : Nat → Option ρ) : asR (lGet (x0 :: x1 :: x2 :: x3 :: x4 :: x5 :: x6 :: .ref c :: r) 7) f = f c := rfl
theorem gl7 {x0 x1 x2 x3 x4 x5 x6 : Value} {c : Int64} {r : List Value} (f : Int64 → Option ρ) : asL (lGet (x0 :: x1 :: x2 :: x3 :: x4 :: x5 :: x6 :: .long c :: r) 7) f = f c := rfl
theorem gi8 {x0 x1 x2 x3 x4 x5 x6 x7 : Value} {c : Int32} {r : List Value} (f : Int32 → Option ρ) : asI (lGet (x0 :: x1 :: x2 :: x3 :: x4 :: x5 :: x6 :: x7 :: .int c :: r) 8) f = f c := rfl
theorem gr8 {x0 x1 x2 x3 x4 x5 x6 x7 : Value} {c : Nat} {r : List Value} (f : Nat → Option ρ) : asR (lGet (x0 :: x1 :: x2 :: x3 :: x4 :: x5 :: x6 :: x7 :: .ref c :: r) 8) f = f c := rfl
theorem gl8 {x0 x1 x2 x3 x4 x5 x6 x7 : Value} {c : Int64} {r : List Value} (f : Int64 → Option ρ) : asL (lGet (x0 :: x1 :: x2 :: x3 :: x4 :: x5 :: x6 :: x7 :: .long c :: r) 8) f = f c := rfl
theorem gi9 {x0 x1 x2 x3 x4 x5 x6 x7 x8 : Value} {c : Int32} {r : List Value} (f : Int32 → Option ρ) : asI (lGet (x0 :: x1 :: x2 :: x3 :: x4 :: x5 :: x6 :: x7 :: x8 :: .int c :: r) 9) f = f c := rfl
theorem gr9 {x0 x1 x2 x3 x4 x5 x6 x7 x8 : Value} {c : Nat} {r : List Value} (f : Nat → Option ρ) : asR (lGet (x0 :: x1 :: x2 :: x3 :: x4 :: x5 :: x6 :: x7 :: x8 :: .ref c :: r) 9) f = f c := rfl
theorem gl9 {x0 x1 x2 x3 x4 x5 x6 x7 x8 : Value} {c : Int64} {r : List Value} (f : Int64 → Option ρ) : asL (lGet (x0 :: x1 :: x2 :: x3 :: x4 :: x5 :: x6 :: x7 :: x8 :: .long c :: r) 9) f = f c := rfl
theorem qI {x : Int32} {s : List Value} (f : Int32 → List Value → Option ρ) : popI (.int x :: s) f = f x s := rfl
theorem qI2 {x y : Int32} {s : List Value} (f : Int32 → Int32 → List Value → Option ρ) : popI2 (.int y :: .int x :: s) f = f x y s := rfl
theorem qL {x : Int64} {s : List Value} (f : Int64 → List Value → Option ρ) : popL (.long x :: s) f = f x s := rfl
theorem qL2 {x y : Int64} {s : List Value} (f : Int64 → Int64 → List Value → Option ρ) : popL2 (.long y :: .long x :: s) f = f x y s := rfl
theorem qR {x : Nat} {s : List Value} (f : Nat → List Value → Option ρ) : popR (.ref x :: s) f = f x s := rfl
theorem qV {x : Value} {s : List Value} (f : Value → List Value → Option ρ) : popV (x :: s) f = f x s := rfl
theorem pd0 {c : Nat} {r : List Value} (f : Nat → List Value → Option ρ) : popR (List.drop 0 (.ref c :: r)) f = f c r := rfl
theorem ta0 {d y c : Nat} {h : Hp} {r : List Value} (f : Int32 × Hp → Option ρ) : (EvM d y (.ref c :: (List.take 0 (r)).reverse) h).bind f = (EvM d y [.ref c] h).bind f := rfl
theorem ts0 {d y : Nat} {h : Hp} {r : List Value} (f : Int32 × Hp → Option ρ) : (EvM d y (List.take 0 (r)).reverse h).bind f = (EvM d y [] h).bind f := rfl
theorem pd1 {x0 : Value} {c : Nat} {r : List Value} (f : Nat → List Value → Option ρ) : popR (List.drop 1 (x0 :: .ref c :: r)) f = f c r := rfl
theorem ta1 {d y c : Nat} {h : Hp} {x0 : Value} {r : List Value} (f : Int32 × Hp → Option ρ) : (EvM d y (.ref c :: (List.take 1 (x0 :: r)).reverse) h).bind f = (EvM d y [.ref c, x0] h).bind f := rfl
theorem ts1 {d y : Nat} {h : Hp} {x0 : Value} {r : List Value} (f : Int32 × Hp → Option ρ) : (EvM d y (List.take 1 (x0 :: r)).reverse h).bind f = (EvM d y [x0] h).bind f := rfl
theorem pd2 {x0 x1 : Value} {c : Nat} {r : List Value} (f : Nat → List Value → Option ρ) : popR (List.drop 2 (x0 :: x1 :: .ref c :: r)) f = f c r := rfl
theorem ta2 {d y c : Nat} {h : Hp} {x0 x1 : Value} {r : List Value} (f : Int32 × Hp → Option ρ) : (EvM d y (.ref c :: (List.take 2 (x0 :: x1 :: r)).reverse) h).bind f = (EvM d y [.ref c, x1, x0] h).bind f := rfl
theorem ts2 {d y : Nat} {h : Hp} {x0 x1 : Value} {r : List Value} (f : Int32 × Hp → Option ρ) : (EvM d y (List.take 2 (x0 :: x1 :: r)).reverse h).bind f = (EvM d y [x1, x0] h).bind f := rfl
theorem pd3 {x0 x1 x2 : Value} {c : Nat} {r : List Value} (f : Nat → List Value → Option ρ) : popR (List.drop 3 (x0 :: x1 :: x2 :: .ref c :: r)) f = f c r := rfl
theorem ta3 {d y c : Nat} {h : Hp} {x0 x1 x2 : Value} {r : List Value} (f : Int32 × Hp → Option ρ) : (EvM d y (.ref c :: (List.take 3 (x0 :: x1 :: x2 :: r)).reverse) h).bind f = (EvM d y [.ref c, x2, x1, x0] h).bind f := rfl
theorem ts3 {d y : Nat} {h : Hp} {x0 x1 x2 : Value} {r : List Value} (f : Int32 × Hp → Option ρ) : (EvM d y (List.take 3 (x0 :: x1 :: x2 :: r)).reverse h).bind f = (EvM d y [x2, x1, x0] h).bind f := rfl
theorem pd4 {x0 x1 x2 x3 : Value} {c : Nat} {r : List Value} (f : Nat → List Value → Option ρ) : popR (List.drop 4 (x0 :: x1 :: x2 :: x3 :: .ref c :: r)) f = f c r := rfl
theorem ta4 {d y c : Nat} {h : Hp} {x0 x1 x2 x3 : Value} {r : List Value} (f : Int32 × Hp → Option ρ) : (EvM d y (.ref c :: (List.take 4 (x0 :: x1 :: x2 :: x3 :: r)).reverse) h).bind f = (EvM d y [.ref c, x3, x2, x1, x0] h).bind f := rfl
theorem ts4 {d y : Nat} {h : Hp} {x0 x1 x2 x3 : Value} {r : List Value} (f : Int32 × Hp → Option ρ) : (EvM d y (List.take 4 (x0 :: x1 :: x2 :: x3 :: r)).reverse h).bind f = (EvM d y [x3, x2, x1, x0] h).bind f := rfl
theorem pd5 {x0 x1 x2 x3 x4 : Value} {c : Nat} {r : List Value} (f : Nat → List Value → Option ρ) : popR (List.drop 5 (x0 :: x1 :: x2 :: x3 :: x4 :: .ref c :: r)) f = f c r := rfl
theorem ta5 {d y c : Nat} {h : Hp} {x0 x1 x2 x3 x4 : Value} {r : List Value} (f : Int32 × Hp → Option ρ) : (EvM d y (.ref c :: (List.take 5 (x0 :: x1 :: x2 :: x3 :: x4 :: r)).reverse) h).bind f = (EvM d y [.ref c, x4, x3, x2, x1, x0] h).bind f := rfl
theorem ts5 {d y : Nat} {h : Hp} {x0 x1 x2 x3 x4 : Value} {r : List Value} (f : Int32 × Hp → Option ρ) : (EvM d y (List.take 5 (x0 :: x1 :: x2 :: x3 :: x4 :: r)).reverse h).bind f = (EvM d y [x4, x3, x2, x1, x0] h).bind f := rfl
theorem pd6 {x0 x1 x2 x3 x4 x5 : Value} {c : Nat} {r : List Value} (f : Nat → List Value → Option ρ) : popR (List.drop 6 (x0 :: x1 :: x2 :: x3 :: x4 :: x5 :: .ref c :: r)) f = f c r := rfl
theorem ta6 {d y c : Nat} {h : Hp} {x0 x1 x2 x3 x4 x5 : Value} {r : List Value} (f : Int32 × Hp → Option ρ) : (EvM d y (.ref c :: (List.take 6 (x0 :: x1 :: x2 :: x3 :: x4 :: x5 :: r)).reverse) h).bind f = (EvM d y [.ref c, x5, x4, x3, x2, x1, x0] h).bind f := rfl
theorem ts6 {d y : Nat} {h : Hp} {x0 x1 x2 x3 x4 x5 : Value} {r : List Value} (f : Int32 × Hp → Option ρ) : (EvM d y (List.take 6 (x0 :: x1 :: x2 :: x3 :: x4 :: x5 :: r)).reverse h).bind f = (EvM d y [x5, x4, x3, x2, x1, x0] h).bind f := rfl
theorem bnd {α : Type} {a : Option α} {q : α} (h : a = some q) (f : α → Option ρ) : a.bind f = f q := by rw [h]; rfl
end PRE
section PRE2
variable {scr : Nat × (Nat → Int32)} {P C : Nat} {ρ : Type}
theorem per_gb (hP : per P) (k : Nat) (hk : k < 8) (s : ST) (f : Value → Option ρ) : (getF (mkH scr s) 4 k P).bind f = f (.int (s.1 P k)) := bnd (per_g hP k hk s) f
theorem per_pb (hP : per P) (k : Nat) (hk : k < 8) (s : ST) (x : Int32) (f : Hp → Option ρ) : (putF (mkH scr s) 4 k P (.int x)).bind f = f (mkH scr (u2 s P k x)) := bnd (per_p hP k hk s x) f
theorem per_db (hP : per P) (s : ST) (f : Value → Option ρ) : (getF (mkH scr s) 4 8 P).bind f = f (.ref (P + 1)) := bnd (per_d hP s) f
theorem per_cb (hP : per P) (s : ST) (f : Value → Option ρ) : (getF (mkH scr s) 4 9 P).bind f = f (.ref (P + 2)) := bnd (per_c hP s) f
theorem per_dlb (hP : per P) (s : ST) (f : Int32 → Option ρ) {k : Nat} (hk : k < 6) : (ialdF (mkH scr s) (P + 1) (nI k)).bind f = f (s.1 (P + 1) k) := bnd (per_dl hP hk s) f
theorem per_mlb (hP : per P) (s : ST) (f : Int32 → Option ρ) {k : Nat} (hk : k < 6) : (ialdF (mkH scr s) (P + 2) (nI k)).bind f = f (s.1 (P + 2) k) := bnd (per_ml hP hk s) f
theorem per_dsb (hP : per P) (s : ST) (x : Int32) (f : Hp → Option ρ) {k : Nat} (hk : k < 6) : (iastF (mkH scr s) (P + 1) (nI k) x).bind f = f (mkH scr (u2 s (P + 1) k x)) := bnd (per_ds hP hk s x) f
theorem per_msb (hP : per P) (s : ST) (x : Int32) (f : Hp → Option ρ) {k : Nat} (hk : k < 6) : (iastF (mkH scr s) (P + 2) (nI k) x).bind f = f (mkH scr (u2 s (P + 2) k x)) := bnd (per_ms hP hk s x) f
theorem cty_gb (hC : cty C) (k : Nat) (hk : k < 4) (s : ST) (f : Value → Option ρ) : (getF (mkH scr s) 2 k C).bind f = f (.int (s.1 C k)) := bnd (cty_g hC k hk s) f
theorem cty_pb (hC : cty C) (k : Nat) (hk : k < 4) (s : ST) (x : Int32) (f : Hp → Option ρ) : (putF (mkH scr s) 2 k C (.int x)).bind f = f (mkH scr (u2 s C k x)) := bnd (cty_p hC k hk s x) f
theorem cty_ab (hC : cty C) (s : ST) (f : Value → Option ρ) : (getF (mkH scr s) 2 4 C).bind f = f (.ref (C + 1)) := bnd (cty_a hC s) f
theorem cty_lb (hC : cty C) (s : ST) (f : Nat → Option ρ) {i : Nat} (hi : i < 6) : (aaldF (mkH scr s) (C + 1) (nI i)).bind f = f (C + 2 + 3 * i) := bnd (cty_l hC hi s) f
theorem gIb {a ci n k : Nat} {l : List Nat} (h : sh a = some (2, ci, n, l)) (hk : l[k]? = some 1) (s : ST) (f : Value → Option ρ) : (getF (mkH scr s) ci k a).bind f = f (.int (s.1 a k)) := bnd (gI h hk) f
theorem gRb {a ci n k r : Nat} {l : List Nat} (h : sh a = some (2, ci, n, l)) (hk : l[k]? = some (r + 2)) (s : ST) (f : Value → Option ρ) : (getF (mkH scr s) ci k a).bind f = f (.ref r) := bnd (gR h hk) f
theorem pIb {a ci n k : Nat} {l : List Nat} (h : sh a = some (2, ci, n, l)) (hk : l[k]? = some 1) (hok : ∀ x, okF (fTy ci k) (.int x) = true) (s : ST) (x : Int32) (f : Hp → Option ρ) : (putF (mkH scr s) ci k a (.int x)).bind f = f (mkH scr (u2 s a k x)) := bnd (pI h hk (hok x)) f
theorem iLb {a n : Nat} (h : sh a = some (0, 0, n, [])) (s : ST) (f : Int32 → Option ρ) {i : Nat} (hi : i < n) (hn : n < 2147483648) : (ialdF (mkH scr s) a (nI i)).bind f = f (s.1 a i) := bnd (by rw [iL h (inB_iff.mpr (vp_in_nI hi (by omega))), nI_clamp (by omega)]) f
theorem iSb {a n : Nat} (h : sh a = some (0, 0, n, [])) (s : ST) (x : Int32) (f : Hp → Option ρ) {i : Nat} (hi : i < n) (hn : n < 2147483648) : (iastF (mkH scr s) a (nI i) x).bind f = f (mkH scr (u2 s a i x)) := bnd (by rw [iS h (inB_iff.mpr (vp_in_nI hi (by omega))), nI_clamp (by omega)]) f
end PRE2
