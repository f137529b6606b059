/-! ===== where all things lie: rows for each object and array (behind the constructors) ===== -/
section GEO
variable {scr : Nat × (Nat → Int32)} {ρ : Type}
theorem sh_2 : sh 2 = some (2, 8, 14, [5, 17, 19, 501, 503, 529, 533, 553, 573, 614, 615, 1, 1, 1]) := by decide +kernel
theorem K2 (s : ST) : clsB (mkH scr s) 2 8 = true := cB sh_2
theorem G2_0 (s : ST) (f : Value → Option ρ) : (getF (mkH scr s) 8 0 2).bind f = f (.ref 3) := gRb (r := 3) sh_2 rfl s f
theorem G2_1 (s : ST) (f : Value → Option ρ) : (getF (mkH scr s) 8 1 2).bind f = f (.ref 15) := gRb (r := 15) sh_2 rfl s f
theorem G2_2 (s : ST) (f : Value → Option ρ) : (getF (mkH scr s) 8 2 2).bind f = f (.ref 17) := gRb (r := 17) sh_2 rfl s f
theorem G2_3 (s : ST) (f : Value → Option ρ) : (getF (mkH scr s) 8 3 2).bind f = f (.ref 499) := gRb (r := 499) sh_2 rfl s f
theorem G2_4 (s : ST) (f : Value → Option ρ) : (getF (mkH scr s) 8 4 2).bind f = f (.ref 501) := gRb (r := 501) sh_2 rfl s f
theorem G2_5 (s : ST) (f : Value → Option ρ) : (getF (mkH scr s) 8 5 2).bind f = f (.ref 527) := gRb (r := 527) sh_2 rfl s f
theorem G2_6 (s : ST) (f : Value → Option ρ) : (getF (mkH scr s) 8 6 2).bind f = f (.ref 531) := gRb (r := 531) sh_2 rfl s f
theorem G2_7 (s : ST) (f : Value → Option ρ) : (getF (mkH scr s) 8 7 2).bind f = f (.ref 551) := gRb (r := 551) sh_2 rfl s f
theorem G2_8 (s : ST) (f : Value → Option ρ) : (getF (mkH scr s) 8 8 2).bind f = f (.ref 571) := gRb (r := 571) sh_2 rfl s f
theorem G2_9 (s : ST) (f : Value → Option ρ) : (getF (mkH scr s) 8 9 2).bind f = f (.ref 612) := gRb (r := 612) sh_2 rfl s f
theorem G2_10 (s : ST) (f : Value → Option ρ) : (getF (mkH scr s) 8 10 2).bind f = f (.ref 613) := gRb (r := 613) sh_2 rfl s f
theorem G2_11 (s : ST) (f : Value → Option ρ) : (getF (mkH scr s) 8 11 2).bind f = f (.int (s.1 2 11)) := gIb sh_2 rfl s f
theorem G2_12 (s : ST) (f : Value → Option ρ) : (getF (mkH scr s) 8 12 2).bind f = f (.int (s.1 2 12)) := gIb sh_2 rfl s f
theorem U2_12 (s : ST) (x : Int32) (f : Hp → Option ρ) : (putF (mkH scr s) 8 12 2 (.int x)).bind f = f (mkH scr (u2 s 2 12 x)) := pIb sh_2 rfl (fun _ => rfl) s x f
theorem G2_13 (s : ST) (f : Value → Option ρ) : (getF (mkH scr s) 8 13 2).bind f = f (.int (s.1 2 13)) := gIb sh_2 rfl s f
theorem U2_13 (s : ST) (x : Int32) (f : Hp → Option ρ) : (putF (mkH scr s) 8 13 2 (.int x)).bind f = f (mkH scr (u2 s 2 13 x)) := pIb sh_2 rfl (fun _ => rfl) s x f
theorem sh_3 : sh 3 = some (2, 5, 3, [6, 7, 8]) := by decide +kernel
theorem K3 (s : ST) : clsB (mkH scr s) 3 5 = true := cB sh_3
theorem G3_0 (s : ST) (f : Value → Option ρ) : (getF (mkH scr s) 5 0 3).bind f = f (.ref 4) := gRb (r := 4) sh_3 rfl s f
theorem G3_1 (s : ST) (f : Value → Option ρ) : (getF (mkH scr s) 5 1 3).bind f = f (.ref 5) := gRb (r := 5) sh_3 rfl s f
theorem G3_2 (s : ST) (f : Value → Option ρ) : (getF (mkH scr s) 5 2 3).bind f = f (.ref 6) := gRb (r := 6) sh_3 rfl s f
theorem sh_15 : sh 15 = some (2, 7, 6, [18, 1, 1, 1, 1, 1]) := by decide +kernel
theorem K15 (s : ST) : clsB (mkH scr s) 15 7 = true := cB sh_15
theorem G15_0 (s : ST) (f : Value → Option ρ) : (getF (mkH scr s) 7 0 15).bind f = f (.ref 16) := gRb (r := 16) sh_15 rfl s f
theorem G15_1 (s : ST) (f : Value → Option ρ) : (getF (mkH scr s) 7 1 15).bind f = f (.int (s.1 15 1)) := gIb sh_15 rfl s f
theorem U15_1 (s : ST) (x : Int32) (f : Hp → Option ρ) : (putF (mkH scr s) 7 1 15 (.int x)).bind f = f (mkH scr (u2 s 15 1 x)) := pIb sh_15 rfl (fun _ => rfl) s x f
theorem G15_2 (s : ST) (f : Value → Option ρ) : (getF (mkH scr s) 7 2 15).bind f = f (.int (s.1 15 2)) := gIb sh_15 rfl s f
theorem U15_2 (s : ST) (x : Int32) (f : Hp → Option ρ) : (putF (mkH scr s) 7 2 15 (.int x)).bind f = f (mkH scr (u2 s 15 2 x)) := pIb sh_15 rfl (fun _ => rfl) s x f
theorem G15_3 (s : ST) (f : Value → Option ρ) : (getF (mkH scr s) 7 3 15).bind f = f (.int (s.1 15 3)) := gIb sh_15 rfl s f
theorem U15_3 (s : ST) (x : Int32) (f : Hp → Option ρ) : (putF (mkH scr s) 7 3 15 (.int x)).bind f = f (mkH scr (u2 s 15 3 x)) := pIb sh_15 rfl (fun _ => rfl) s x f
theorem G15_4 (s : ST) (f : Value → Option ρ) : (getF (mkH scr s) 7 4 15).bind f = f (.int (s.1 15 4)) := gIb sh_15 rfl s f
theorem U15_4 (s : ST) (x : Int32) (f : Hp → Option ρ) : (putF (mkH scr s) 7 4 15 (.int x)).bind f = f (mkH scr (u2 s 15 4 x)) := pIb sh_15 rfl (fun _ => rfl) s x f
theorem G15_5 (s : ST) (f : Value → Option ρ) : (getF (mkH scr s) 7 5 15).bind f = f (.int (s.1 15 5)) := gIb sh_15 rfl s f
theorem U15_5 (s : ST) (x : Int32) (f : Hp → Option ρ) : (putF (mkH scr s) 7 5 15 (.int x)).bind f = f (mkH scr (u2 s 15 5 x)) := pIb sh_15 rfl (fun _ => rfl) s x f
theorem sh_17 : sh 17 = some (2, 0, 3, [20, 1, 1]) := by decide +kernel
theorem K17 (s : ST) : clsB (mkH scr s) 17 0 = true := cB sh_17
theorem G17_0 (s : ST) (f : Value → Option ρ) : (getF (mkH scr s) 0 0 17).bind f = f (.ref 18) := gRb (r := 18) sh_17 rfl s f
theorem G17_1 (s : ST) (f : Value → Option ρ) : (getF (mkH scr s) 0 1 17).bind f = f (.int (s.1 17 1)) := gIb sh_17 rfl s f
theorem U17_1 (s : ST) (x : Int32) (f : Hp → Option ρ) : (putF (mkH scr s) 0 1 17 (.int x)).bind f = f (mkH scr (u2 s 17 1 x)) := pIb sh_17 rfl (fun _ => rfl) s x f
theorem G17_2 (s : ST) (f : Value → Option ρ) : (getF (mkH scr s) 0 2 17).bind f = f (.int (s.1 17 2)) := gIb sh_17 rfl s f
theorem U17_2 (s : ST) (x : Int32) (f : Hp → Option ρ) : (putF (mkH scr s) 0 2 17 (.int x)).bind f = f (mkH scr (u2 s 17 2 x)) := pIb sh_17 rfl (fun _ => rfl) s x f
theorem sh_499 : sh 499 = some (2, 1, 2, [502, 1]) := by decide +kernel
theorem K499 (s : ST) : clsB (mkH scr s) 499 1 = true := cB sh_499
theorem G499_0 (s : ST) (f : Value → Option ρ) : (getF (mkH scr s) 1 0 499).bind f = f (.ref 500) := gRb (r := 500) sh_499 rfl s f
theorem G499_1 (s : ST) (f : Value → Option ρ) : (getF (mkH scr s) 1 1 499).bind f = f (.int (s.1 499 1)) := gIb sh_499 rfl s f
theorem U499_1 (s : ST) (x : Int32) (f : Hp → Option ρ) : (putF (mkH scr s) 1 1 499 (.int x)).bind f = f (mkH scr (u2 s 499 1 x)) := pIb sh_499 rfl (fun _ => rfl) s x f
theorem sh_501 : sh 501 = some (2, 3, 8, [504, 1, 505, 506, 507, 1, 1, 1]) := by decide +kernel
theorem K501 (s : ST) : clsB (mkH scr s) 501 3 = true := cB sh_501
theorem G501_0 (s : ST) (f : Value → Option ρ) : (getF (mkH scr s) 3 0 501).bind f = f (.ref 502) := gRb (r := 502) sh_501 rfl s f
theorem G501_1 (s : ST) (f : Value → Option ρ) : (getF (mkH scr s) 3 1 501).bind f = f (.int (s.1 501 1)) := gIb sh_501 rfl s f
theorem U501_1 (s : ST) (x : Int32) (f : Hp → Option ρ) : (putF (mkH scr s) 3 1 501 (.int x)).bind f = f (mkH scr (u2 s 501 1 x)) := pIb sh_501 rfl (fun _ => rfl) s x f
theorem G501_2 (s : ST) (f : Value → Option ρ) : (getF (mkH scr s) 3 2 501).bind f = f (.ref 503) := gRb (r := 503) sh_501 rfl s f
theorem G501_3 (s : ST) (f : Value → Option ρ) : (getF (mkH scr s) 3 3 501).bind f = f (.ref 504) := gRb (r := 504) sh_501 rfl s f
theorem G501_4 (s : ST) (f : Value → Option ρ) : (getF (mkH scr s) 3 4 501).bind f = f (.ref 505) := gRb (r := 505) sh_501 rfl s f
theorem G501_5 (s : ST) (f : Value → Option ρ) : (getF (mkH scr s) 3 5 501).bind f = f (.int (s.1 501 5)) := gIb sh_501 rfl s f
theorem U501_5 (s : ST) (x : Int32) (f : Hp → Option ρ) : (putF (mkH scr s) 3 5 501 (.int x)).bind f = f (mkH scr (u2 s 501 5 x)) := pIb sh_501 rfl (fun _ => rfl) s x f
theorem G501_6 (s : ST) (f : Value → Option ρ) : (getF (mkH scr s) 3 6 501).bind f = f (.int (s.1 501 6)) := gIb sh_501 rfl s f
theorem U501_6 (s : ST) (x : Int32) (f : Hp → Option ρ) : (putF (mkH scr s) 3 6 501 (.int x)).bind f = f (mkH scr (u2 s 501 6 x)) := pIb sh_501 rfl (fun _ => rfl) s x f
theorem G501_7 (s : ST) (f : Value → Option ρ) : (getF (mkH scr s) 3 7 501).bind f = f (.int (s.1 501 7)) := gIb sh_501 rfl s f
theorem U501_7 (s : ST) (x : Int32) (f : Hp → Option ρ) : (putF (mkH scr s) 3 7 501 (.int x)).bind f = f (mkH scr (u2 s 501 7 x)) := pIb sh_501 rfl (fun _ => rfl) s x f
theorem sh_527 : sh 527 = some (2, 6, 5, [1, 1, 530, 531, 532]) := by decide +kernel
theorem K527 (s : ST) : clsB (mkH scr s) 527 6 = true := cB sh_527
theorem G527_0 (s : ST) (f : Value → Option ρ) : (getF (mkH scr s) 6 0 527).bind f = f (.int (s.1 527 0)) := gIb sh_527 rfl s f
theorem U527_0 (s : ST) (x : Int32) (f : Hp → Option ρ) : (putF (mkH scr s) 6 0 527 (.int x)).bind f = f (mkH scr (u2 s 527 0 x)) := pIb sh_527 rfl (fun _ => rfl) s x f
theorem G527_1 (s : ST) (f : Value → Option ρ) : (getF (mkH scr s) 6 1 527).bind f = f (.int (s.1 527 1)) := gIb sh_527 rfl s f
theorem U527_1 (s : ST) (x : Int32) (f : Hp → Option ρ) : (putF (mkH scr s) 6 1 527 (.int x)).bind f = f (mkH scr (u2 s 527 1 x)) := pIb sh_527 rfl (fun _ => rfl) s x f
theorem G527_2 (s : ST) (f : Value → Option ρ) : (getF (mkH scr s) 6 2 527).bind f = f (.ref 528) := gRb (r := 528) sh_527 rfl s f
theorem G527_3 (s : ST) (f : Value → Option ρ) : (getF (mkH scr s) 6 3 527).bind f = f (.ref 529) := gRb (r := 529) sh_527 rfl s f
theorem G527_4 (s : ST) (f : Value → Option ρ) : (getF (mkH scr s) 6 4 527).bind f = f (.ref 530) := gRb (r := 530) sh_527 rfl s f
theorem sh_614 : sh 614 = some (2, 9, 20, [617, 618, 1, 619, 1, 1, 1, 620, 621, 622, 623, 1, 1, 1, 1, 624, 1, 0, 1, 625]) := by decide +kernel
theorem K614 (s : ST) : clsB (mkH scr s) 614 9 = true := cB sh_614
theorem G614_0 (s : ST) (f : Value → Option ρ) : (getF (mkH scr s) 9 0 614).bind f = f (.ref 615) := gRb (r := 615) sh_614 rfl s f
theorem G614_1 (s : ST) (f : Value → Option ρ) : (getF (mkH scr s) 9 1 614).bind f = f (.ref 616) := gRb (r := 616) sh_614 rfl s f
theorem G614_2 (s : ST) (f : Value → Option ρ) : (getF (mkH scr s) 9 2 614).bind f = f (.int (s.1 614 2)) := gIb sh_614 rfl s f
theorem U614_2 (s : ST) (x : Int32) (f : Hp → Option ρ) : (putF (mkH scr s) 9 2 614 (.int x)).bind f = f (mkH scr (u2 s 614 2 x)) := pIb sh_614 rfl (fun _ => rfl) s x f
theorem G614_3 (s : ST) (f : Value → Option ρ) : (getF (mkH scr s) 9 3 614).bind f = f (.ref 617) := gRb (r := 617) sh_614 rfl s f
theorem G614_4 (s : ST) (f : Value → Option ρ) : (getF (mkH scr s) 9 4 614).bind f = f (.int (s.1 614 4)) := gIb sh_614 rfl s f
theorem U614_4 (s : ST) (x : Int32) (f : Hp → Option ρ) : (putF (mkH scr s) 9 4 614 (.int x)).bind f = f (mkH scr (u2 s 614 4 x)) := pIb sh_614 rfl (fun _ => rfl) s x f
theorem G614_5 (s : ST) (f : Value → Option ρ) : (getF (mkH scr s) 9 5 614).bind f = f (.int (s.1 614 5)) := gIb sh_614 rfl s f
theorem U614_5 (s : ST) (x : Int32) (f : Hp → Option ρ) : (putF (mkH scr s) 9 5 614 (.int x)).bind f = f (mkH scr (u2 s 614 5 x)) := pIb sh_614 rfl (fun _ => rfl) s x f
theorem G614_6 (s : ST) (f : Value → Option ρ) : (getF (mkH scr s) 9 6 614).bind f = f (.int (s.1 614 6)) := gIb sh_614 rfl s f
theorem U614_6 (s : ST) (x : Int32) (f : Hp → Option ρ) : (putF (mkH scr s) 9 6 614 (.int x)).bind f = f (mkH scr (u2 s 614 6 x)) := pIb sh_614 rfl (fun _ => rfl) s x f
theorem G614_7 (s : ST) (f : Value → Option ρ) : (getF (mkH scr s) 9 7 614).bind f = f (.ref 618) := gRb (r := 618) sh_614 rfl s f
theorem G614_8 (s : ST) (f : Value → Option ρ) : (getF (mkH scr s) 9 8 614).bind f = f (.ref 619) := gRb (r := 619) sh_614 rfl s f
theorem G614_9 (s : ST) (f : Value → Option ρ) : (getF (mkH scr s) 9 9 614).bind f = f (.ref 620) := gRb (r := 620) sh_614 rfl s f
theorem G614_10 (s : ST) (f : Value → Option ρ) : (getF (mkH scr s) 9 10 614).bind f = f (.ref 621) := gRb (r := 621) sh_614 rfl s f
theorem G614_11 (s : ST) (f : Value → Option ρ) : (getF (mkH scr s) 9 11 614).bind f = f (.int (s.1 614 11)) := gIb sh_614 rfl s f
theorem U614_11 (s : ST) (x : Int32) (f : Hp → Option ρ) : (putF (mkH scr s) 9 11 614 (.int x)).bind f = f (mkH scr (u2 s 614 11 x)) := pIb sh_614 rfl (fun _ => rfl) s x f
theorem G614_12 (s : ST) (f : Value → Option ρ) : (getF (mkH scr s) 9 12 614).bind f = f (.int (s.1 614 12)) := gIb sh_614 rfl s f
theorem U614_12 (s : ST) (x : Int32) (f : Hp → Option ρ) : (putF (mkH scr s) 9 12 614 (.int x)).bind f = f (mkH scr (u2 s 614 12 x)) := pIb sh_614 rfl (fun _ => rfl) s x f
theorem G614_13 (s : ST) (f : Value → Option ρ) : (getF (mkH scr s) 9 13 614).bind f = f (.int (s.1 614 13)) := gIb sh_614 rfl s f
theorem U614_13 (s : ST) (x : Int32) (f : Hp → Option ρ) : (putF (mkH scr s) 9 13 614 (.int x)).bind f = f (mkH scr (u2 s 614 13 x)) := pIb sh_614 rfl (fun _ => rfl) s x f
theorem G614_14 (s : ST) (f : Value → Option ρ) : (getF (mkH scr s) 9 14 614).bind f = f (.int (s.1 614 14)) := gIb sh_614 rfl s f
theorem U614_14 (s : ST) (x : Int32) (f : Hp → Option ρ) : (putF (mkH scr s) 9 14 614 (.int x)).bind f = f (mkH scr (u2 s 614 14 x)) := pIb sh_614 rfl (fun _ => rfl) s x f
theorem G614_15 (s : ST) (f : Value → Option ρ) : (getF (mkH scr s) 9 15 614).bind f = f (.ref 622) := gRb (r := 622) sh_614 rfl s f
theorem G614_16 (s : ST) (f : Value → Option ρ) : (getF (mkH scr s) 9 16 614).bind f = f (.int (s.1 614 16)) := gIb sh_614 rfl s f
theorem U614_16 (s : ST) (x : Int32) (f : Hp → Option ρ) : (putF (mkH scr s) 9 16 614 (.int x)).bind f = f (mkH scr (u2 s 614 16 x)) := pIb sh_614 rfl (fun _ => rfl) s x f
theorem G614_18 (s : ST) (f : Value → Option ρ) : (getF (mkH scr s) 9 18 614).bind f = f (.int (s.1 614 18)) := gIb sh_614 rfl s f
theorem U614_18 (s : ST) (x : Int32) (f : Hp → Option ρ) : (putF (mkH scr s) 9 18 614 (.int x)).bind f = f (mkH scr (u2 s 614 18 x)) := pIb sh_614 rfl (fun _ => rfl) s x f
theorem G614_19 (s : ST) (f : Value → Option ρ) : (getF (mkH scr s) 9 19 614).bind f = f (.ref 623) := gRb (r := 623) sh_614 rfl s f
theorem sh_4 : sh 4 = some (0, 0, 8, []) := by decide +kernel
theorem I4 (s : ST) (f : Int32 → Option ρ) {i : Nat} (hi : i < 8) : (ialdF (mkH scr s) 4 (nI i)).bind f = f (s.1 4 i) := iLb sh_4 s f hi (by decide)
theorem S4 (s : ST) (x : Int32) (f : Hp → Option ρ) {i : Nat} (hi : i < 8) : (iastF (mkH scr s) 4 (nI i) x).bind f = f (mkH scr (u2 s 4 i x)) := iSb sh_4 s x f hi (by decide)
theorem sh_5 : sh 5 = some (0, 0, 8, []) := by decide +kernel
theorem I5 (s : ST) (f : Int32 → Option ρ) {i : Nat} (hi : i < 8) : (ialdF (mkH scr s) 5 (nI i)).bind f = f (s.1 5 i) := iLb sh_5 s f hi (by decide)
theorem S5 (s : ST) (x : Int32) (f : Hp → Option ρ) {i : Nat} (hi : i < 8) : (iastF (mkH scr s) 5 (nI i) x).bind f = f (mkH scr (u2 s 5 i x)) := iSb sh_5 s x f hi (by decide)
theorem sh_7 : sh 7 = some (0, 0, 40, []) := by decide +kernel
theorem I7 (s : ST) (f : Int32 → Option ρ) {i : Nat} (hi : i < 40) : (ialdF (mkH scr s) 7 (nI i)).bind f = f (s.1 7 i) := iLb sh_7 s f hi (by decide)
theorem S7 (s : ST) (x : Int32) (f : Hp → Option ρ) {i : Nat} (hi : i < 40) : (iastF (mkH scr s) 7 (nI i) x).bind f = f (mkH scr (u2 s 7 i x)) := iSb sh_7 s x f hi (by decide)
theorem sh_8 : sh 8 = some (0, 0, 40, []) := by decide +kernel
theorem I8 (s : ST) (f : Int32 → Option ρ) {i : Nat} (hi : i < 40) : (ialdF (mkH scr s) 8 (nI i)).bind f = f (s.1 8 i) := iLb sh_8 s f hi (by decide)
theorem S8 (s : ST) (x : Int32) (f : Hp → Option ρ) {i : Nat} (hi : i < 40) : (iastF (mkH scr s) 8 (nI i) x).bind f = f (mkH scr (u2 s 8 i x)) := iSb sh_8 s x f hi (by decide)
theorem sh_9 : sh 9 = some (0, 0, 40, []) := by decide +kernel
theorem I9 (s : ST) (f : Int32 → Option ρ) {i : Nat} (hi : i < 40) : (ialdF (mkH scr s) 9 (nI i)).bind f = f (s.1 9 i) := iLb sh_9 s f hi (by decide)
theorem S9 (s : ST) (x : Int32) (f : Hp → Option ρ) {i : Nat} (hi : i < 40) : (iastF (mkH scr s) 9 (nI i) x).bind f = f (mkH scr (u2 s 9 i x)) := iSb sh_9 s x f hi (by decide)
theorem sh_10 : sh 10 = some (0, 0, 40, []) := by decide +kernel
theorem I10 (s : ST) (f : Int32 → Option ρ) {i : Nat} (hi : i < 40) : (ialdF (mkH scr s) 10 (nI i)).bind f = f (s.1 10 i) := iLb sh_10 s f hi (by decide)
theorem S10 (s : ST) (x : Int32) (f : Hp → Option ρ) {i : Nat} (hi : i < 40) : (iastF (mkH scr s) 10 (nI i) x).bind f = f (mkH scr (u2 s 10 i x)) := iSb sh_10 s x f hi (by decide)
theorem sh_11 : sh 11 = some (0, 0, 40, []) := by decide +kernel
theorem I11 (s : ST) (f : Int32 → Option ρ) {i : Nat} (hi : i < 40) : (ialdF (mkH scr s) 11 (nI i)).bind f = f (s.1 11 i) := iLb sh_11 s f hi (by decide)
theorem S11 (s : ST) (x : Int32) (f : Hp → Option ρ) {i : Nat} (hi : i < 40) : (iastF (mkH scr s) 11 (nI i) x).bind f = f (mkH scr (u2 s 11 i x)) := iSb sh_11 s x f hi (by decide)
theorem sh_12 : sh 12 = some (0, 0, 40, []) := by decide +kernel
theorem I12 (s : ST) (f : Int32 → Option ρ) {i : Nat} (hi : i < 40) : (ialdF (mkH scr s) 12 (nI i)).bind f = f (s.1 12 i) := iLb sh_12 s f hi (by decide)
theorem S12 (s : ST) (x : Int32) (f : Hp → Option ρ) {i : Nat} (hi : i < 40) : (iastF (mkH scr s) 12 (nI i) x).bind f = f (mkH scr (u2 s 12 i x)) := iSb sh_12 s x f hi (by decide)
theorem sh_13 : sh 13 = some (0, 0, 40, []) := by decide +kernel
theorem I13 (s : ST) (f : Int32 → Option ρ) {i : Nat} (hi : i < 40) : (ialdF (mkH scr s) 13 (nI i)).bind f = f (s.1 13 i) := iLb sh_13 s f hi (by decide)
theorem S13 (s : ST) (x : Int32) (f : Hp → Option ρ) {i : Nat} (hi : i < 40) : (iastF (mkH scr s) 13 (nI i) x).bind f = f (mkH scr (u2 s 13 i x)) := iSb sh_13 s x f hi (by decide)
theorem sh_14 : sh 14 = some (0, 0, 40, []) := by decide +kernel
theorem I14 (s : ST) (f : Int32 → Option ρ) {i : Nat} (hi : i < 40) : (ialdF (mkH scr s) 14 (nI i)).bind f = f (s.1 14 i) := iLb sh_14 s f hi (by decide)
theorem S14 (s : ST) (x : Int32) (f : Hp → Option ρ) {i : Nat} (hi : i < 40) : (iastF (mkH scr s) 14 (nI i) x).bind f = f (mkH scr (u2 s 14 i x)) := iSb sh_14 s x f hi (by decide)
theorem sh_16 : sh 16 = some (0, 0, 120, []) := by decide +kernel
theorem I16 (s : ST) (f : Int32 → Option ρ) {i : Nat} (hi : i < 120) : (ialdF (mkH scr s) 16 (nI i)).bind f = f (s.1 16 i) := iLb sh_16 s f hi (by decide)
theorem S16 (s : ST) (x : Int32) (f : Hp → Option ρ) {i : Nat} (hi : i < 120) : (iastF (mkH scr s) 16 (nI i) x).bind f = f (mkH scr (u2 s 16 i x)) := iSb sh_16 s x f hi (by decide)
theorem sh_500 : sh 500 = some (0, 0, 16, []) := by decide +kernel
theorem I500 (s : ST) (f : Int32 → Option ρ) {i : Nat} (hi : i < 16) : (ialdF (mkH scr s) 500 (nI i)).bind f = f (s.1 500 i) := iLb sh_500 s f hi (by decide)
theorem S500 (s : ST) (x : Int32) (f : Hp → Option ρ) {i : Nat} (hi : i < 16) : (iastF (mkH scr s) 500 (nI i) x).bind f = f (mkH scr (u2 s 500 i x)) := iSb sh_500 s x f hi (by decide)
theorem sh_502 : sh 502 = some (0, 0, 6, []) := by decide +kernel
theorem I502 (s : ST) (f : Int32 → Option ρ) {i : Nat} (hi : i < 6) : (ialdF (mkH scr s) 502 (nI i)).bind f = f (s.1 502 i) := iLb sh_502 s f hi (by decide)
theorem S502 (s : ST) (x : Int32) (f : Hp → Option ρ) {i : Nat} (hi : i < 6) : (iastF (mkH scr s) 502 (nI i) x).bind f = f (mkH scr (u2 s 502 i x)) := iSb sh_502 s x f hi (by decide)
theorem sh_503 : sh 503 = some (0, 0, 6, []) := by decide +kernel
theorem I503 (s : ST) (f : Int32 → Option ρ) {i : Nat} (hi : i < 6) : (ialdF (mkH scr s) 503 (nI i)).bind f = f (s.1 503 i) := iLb sh_503 s f hi (by decide)
theorem S503 (s : ST) (x : Int32) (f : Hp → Option ρ) {i : Nat} (hi : i < 6) : (iastF (mkH scr s) 503 (nI i) x).bind f = f (mkH scr (u2 s 503 i x)) := iSb sh_503 s x f hi (by decide)
theorem sh_505 : sh 505 = some (0, 0, 12, []) := by decide +kernel
theorem I505 (s : ST) (f : Int32 → Option ρ) {i : Nat} (hi : i < 12) : (ialdF (mkH scr s) 505 (nI i)).bind f = f (s.1 505 i) := iLb sh_505 s f hi (by decide)
theorem S505 (s : ST) (x : Int32) (f : Hp → Option ρ) {i : Nat} (hi : i < 12) : (iastF (mkH scr s) 505 (nI i) x).bind f = f (mkH scr (u2 s 505 i x)) := iSb sh_505 s x f hi (by decide)
theorem sh_528 : sh 528 = some (0, 0, 256, []) := by decide +kernel
theorem I528 (s : ST) (f : Int32 → Option ρ) {i : Nat} (hi : i < 256) : (ialdF (mkH scr s) 528 (nI i)).bind f = f (s.1 528 i) := iLb sh_528 s f hi (by decide)
theorem S528 (s : ST) (x : Int32) (f : Hp → Option ρ) {i : Nat} (hi : i < 256) : (iastF (mkH scr s) 528 (nI i) x).bind f = f (mkH scr (u2 s 528 i x)) := iSb sh_528 s x f hi (by decide)
theorem sh_529 : sh 529 = some (0, 0, 256, []) := by decide +kernel
theorem I529 (s : ST) (f : Int32 → Option ρ) {i : Nat} (hi : i < 256) : (ialdF (mkH scr s) 529 (nI i)).bind f = f (s.1 529 i) := iLb sh_529 s f hi (by decide)
theorem S529 (s : ST) (x : Int32) (f : Hp → Option ρ) {i : Nat} (hi : i < 256) : (iastF (mkH scr s) 529 (nI i) x).bind f = f (mkH scr (u2 s 529 i x)) := iSb sh_529 s x f hi (by decide)
theorem sh_530 : sh 530 = some (0, 0, 256, []) := by decide +kernel
theorem I530 (s : ST) (f : Int32 → Option ρ) {i : Nat} (hi : i < 256) : (ialdF (mkH scr s) 530 (nI i)).bind f = f (s.1 530 i) := iLb sh_530 s f hi (by decide)
theorem S530 (s : ST) (x : Int32) (f : Hp → Option ρ) {i : Nat} (hi : i < 256) : (iastF (mkH scr s) 530 (nI i) x).bind f = f (mkH scr (u2 s 530 i x)) := iSb sh_530 s x f hi (by decide)
theorem sh_613 : sh 613 = some (0, 0, 40, []) := by decide +kernel
theorem I613 (s : ST) (f : Int32 → Option ρ) {i : Nat} (hi : i < 40) : (ialdF (mkH scr s) 613 (nI i)).bind f = f (s.1 613 i) := iLb sh_613 s f hi (by decide)
theorem S613 (s : ST) (x : Int32) (f : Hp → Option ρ) {i : Nat} (hi : i < 40) : (iastF (mkH scr s) 613 (nI i) x).bind f = f (mkH scr (u2 s 613 i x)) := iSb sh_613 s x f hi (by decide)
theorem sh_615 : sh 615 = some (0, 0, 476, []) := by decide +kernel
theorem I615 (s : ST) (f : Int32 → Option ρ) {i : Nat} (hi : i < 476) : (ialdF (mkH scr s) 615 (nI i)).bind f = f (s.1 615 i) := iLb sh_615 s f hi (by decide)
theorem S615 (s : ST) (x : Int32) (f : Hp → Option ρ) {i : Nat} (hi : i < 476) : (iastF (mkH scr s) 615 (nI i) x).bind f = f (mkH scr (u2 s 615 i x)) := iSb sh_615 s x f hi (by decide)
theorem sh_616 : sh 616 = some (0, 0, 2328, []) := by decide +kernel
theorem I616 (s : ST) (f : Int32 → Option ρ) {i : Nat} (hi : i < 2328) : (ialdF (mkH scr s) 616 (nI i)).bind f = f (s.1 616 i) := iLb sh_616 s f hi (by decide)
theorem S616 (s : ST) (x : Int32) (f : Hp → Option ρ) {i : Nat} (hi : i < 2328) : (iastF (mkH scr s) 616 (nI i) x).bind f = f (mkH scr (u2 s 616 i x)) := iSb sh_616 s x f hi (by decide)
theorem sh_617 : sh 617 = some (0, 0, 120, []) := by decide +kernel
theorem I617 (s : ST) (f : Int32 → Option ρ) {i : Nat} (hi : i < 120) : (ialdF (mkH scr s) 617 (nI i)).bind f = f (s.1 617 i) := iLb sh_617 s f hi (by decide)
theorem S617 (s : ST) (x : Int32) (f : Hp → Option ρ) {i : Nat} (hi : i < 120) : (iastF (mkH scr s) 617 (nI i) x).bind f = f (mkH scr (u2 s 617 i x)) := iSb sh_617 s x f hi (by decide)
theorem sh_618 : sh 618 = some (0, 0, 8, []) := by decide +kernel
theorem I618 (s : ST) (f : Int32 → Option ρ) {i : Nat} (hi : i < 8) : (ialdF (mkH scr s) 618 (nI i)).bind f = f (s.1 618 i) := iLb sh_618 s f hi (by decide)
theorem S618 (s : ST) (x : Int32) (f : Hp → Option ρ) {i : Nat} (hi : i < 8) : (iastF (mkH scr s) 618 (nI i) x).bind f = f (mkH scr (u2 s 618 i x)) := iSb sh_618 s x f hi (by decide)
theorem sh_619 : sh 619 = some (0, 0, 8, []) := by decide +kernel
theorem I619 (s : ST) (f : Int32 → Option ρ) {i : Nat} (hi : i < 8) : (ialdF (mkH scr s) 619 (nI i)).bind f = f (s.1 619 i) := iLb sh_619 s f hi (by decide)
theorem S619 (s : ST) (x : Int32) (f : Hp → Option ρ) {i : Nat} (hi : i < 8) : (iastF (mkH scr s) 619 (nI i) x).bind f = f (mkH scr (u2 s 619 i x)) := iSb sh_619 s x f hi (by decide)
theorem sh_620 : sh 620 = some (0, 0, 320, []) := by decide +kernel
theorem I620 (s : ST) (f : Int32 → Option ρ) {i : Nat} (hi : i < 320) : (ialdF (mkH scr s) 620 (nI i)).bind f = f (s.1 620 i) := iLb sh_620 s f hi (by decide)
theorem S620 (s : ST) (x : Int32) (f : Hp → Option ρ) {i : Nat} (hi : i < 320) : (iastF (mkH scr s) 620 (nI i) x).bind f = f (mkH scr (u2 s 620 i x)) := iSb sh_620 s x f hi (by decide)
theorem sh_621 : sh 621 = some (0, 0, 16, []) := by decide +kernel
theorem I621 (s : ST) (f : Int32 → Option ρ) {i : Nat} (hi : i < 16) : (ialdF (mkH scr s) 621 (nI i)).bind f = f (s.1 621 i) := iLb sh_621 s f hi (by decide)
theorem S621 (s : ST) (x : Int32) (f : Hp → Option ρ) {i : Nat} (hi : i < 16) : (iastF (mkH scr s) 621 (nI i) x).bind f = f (mkH scr (u2 s 621 i x)) := iSb sh_621 s x f hi (by decide)
theorem sh_622 : sh 622 = some (0, 0, 24, []) := by decide +kernel
theorem I622 (s : ST) (f : Int32 → Option ρ) {i : Nat} (hi : i < 24) : (ialdF (mkH scr s) 622 (nI i)).bind f = f (s.1 622 i) := iLb sh_622 s f hi (by decide)
theorem S622 (s : ST) (x : Int32) (f : Hp → Option ρ) {i : Nat} (hi : i < 24) : (iastF (mkH scr s) 622 (nI i) x).bind f = f (mkH scr (u2 s 622 i x)) := iSb sh_622 s x f hi (by decide)
theorem sh_623 : sh 623 = some (0, 0, 12, []) := by decide +kernel
theorem I623 (s : ST) (f : Int32 → Option ρ) {i : Nat} (hi : i < 12) : (ialdF (mkH scr s) 623 (nI i)).bind f = f (s.1 623 i) := iLb sh_623 s f hi (by decide)
theorem S623 (s : ST) (x : Int32) (f : Hp → Option ρ) {i : Nat} (hi : i < 12) : (iastF (mkH scr s) 623 (nI i) x).bind f = f (mkH scr (u2 s 623 i x)) := iSb sh_623 s x f hi (by decide)
theorem perB {P : Nat} (h : (sh P == some (2, 4, 10, [1, 1, 1, 1, 1, 1, 1, 1, P + 3, P + 4]) && sh (P + 1) == some (0, 0, 6, []) && sh (P + 2) == some (0, 0, 6, [])) = true) : per P := by
  simp only [Bool.and_eq_true, beq_iff_eq] at h
  exact ⟨h.1.1, h.1.2, h.2⟩
def ctyB (C : Nat) : Bool := sh C == some (2, 2, 5, [1, 1, 1, 1, C + 3]) && sh (C + 1) == some (1, 3, 6, [C + 4, C + 7, C + 10, C + 13, C + 16, C + 19]) && (List.range 6).all (fun i => sh (C + 2 + 3 * i) == some (2, 4, 10, [1, 1, 1, 1, 1, 1, 1, 1, C + 2 + 3 * i + 3, C + 2 + 3 * i + 4]) && sh (C + 2 + 3 * i + 1) == some (0, 0, 6, []) && sh (C + 2 + 3 * i + 2) == some (0, 0, 6, []))
theorem ctyB_ok {C : Nat} (h : ctyB C = true) : cty C := by
  unfold ctyB at h
  rw [Bool.and_eq_true, Bool.and_eq_true, beq_iff_eq, beq_iff_eq, List.all_eq_true] at h
  exact ⟨h.1.1, h.1.2, fun i hi => perB (h.2 i (List.mem_range.mpr hi))⟩
theorem cty531 : cty 531 := ctyB_ok (by decide +kernel)
theorem cty551 : cty 551 := ctyB_ok (by decide +kernel)
theorem cty572 : cty 572 := ctyB_ok (by decide +kernel)
theorem cty592 : cty 592 := ctyB_ok (by decide +kernel)
theorem ctyActs {k : Nat} (hk : k < 24) : cty (19 + 20 * k) := by
  have h : (List.range 24).all (fun k => ctyB (19 + 20 * k)) = true := by decide +kernel
  exact ctyB_ok (List.all_eq_true.mp h k (List.mem_range.mpr hk))
theorem perSt {k : Nat} (hk : k < 7) : per (506 + 3 * k) := by
  have h : (List.range 7).all (fun k => sh (506 + 3 * k) == some (2, 4, 10, [1, 1, 1, 1, 1, 1, 1, 1, 506 + 3 * k + 3, 506 + 3 * k + 4]) && sh (506 + 3 * k + 1) == some (0, 0, 6, []) && sh (506 + 3 * k + 2) == some (0, 0, 6, [])) = true := by decide +kernel
  exact perB (List.all_eq_true.mp h k (List.mem_range.mpr hk))
theorem in_nI {k n : Nat} (h : k < n) (hn : n < 2147483648) : inB (nI k) n = true := inB_iff.mpr (vp_in_nI h (by omega))
theorem ranM {n : Nat} {g : Nat → Nat} {l : List Nat} {k : Nat} (h : (List.range n).map g = l) (hk : k < n) : l[k]? = some (g k) := by
  rw [← h, List.getElem?_map, List.getElem?_range hk]
  rfl
theorem sh_18 : sh 18 = some (1, 4, 24, (List.range 24).map (fun k => 21 + 20 * k)) := by decide +kernel
theorem sh_6 : sh 6 = some (1, 2, 8, (List.range 8).map (fun k => 9 + k)) := by decide +kernel
theorem sh_504 : sh 504 = some (1, 3, 7, (List.range 7).map (fun k => 508 + 3 * k)) := by decide +kernel
theorem sh_571 : sh 571 = some (1, 4, 2, (List.range 2).map (fun k => 574 + 20 * k)) := by decide +kernel
theorem A18 (s : ST) (f : Nat → Option ρ) {i : Nat} (hi : i < 24) : (aaldF (mkH scr s) 18 (nI i)).bind f = f (19 + 20 * i) := bnd (aL (r := 19 + 20 * i) sh_18 (by decide) (in_nI hi (by decide)) (by rw [nI_clamp (by omega), ranM rfl hi]; exact congrArg some (by omega))) f
theorem A6 (s : ST) (f : Nat → Option ρ) {i : Nat} (hi : i < 8) : (aaldF (mkH scr s) 6 (nI i)).bind f = f (7 + i) := bnd (aL (r := 7 + i) sh_6 (by decide) (in_nI hi (by decide)) (by rw [nI_clamp (by omega), ranM rfl hi]; exact congrArg some (by omega))) f
theorem A504 (s : ST) (f : Nat → Option ρ) {i : Nat} (hi : i < 7) : (aaldF (mkH scr s) 504 (nI i)).bind f = f (506 + 3 * i) := bnd (aL (r := 506 + 3 * i) sh_504 (by decide) (in_nI hi (by decide)) (by rw [nI_clamp (by omega), ranM rfl hi]; exact congrArg some (by omega))) f
theorem A571 (s : ST) (f : Nat → Option ρ) {i : Nat} (hi : i < 2) : (aaldF (mkH scr s) 571 (nI i)).bind f = f (572 + 20 * i) := bnd (aL (r := 572 + 20 * i) sh_571 (by decide) (in_nI hi (by decide)) (by rw [nI_clamp (by omega), ranM rfl hi]; exact congrArg some (by omega))) f
theorem shRow {r : Nat} (hr : r < 8) : sh (7 + r) = some (0, 0, 40, []) := by
  have h : (List.range 8).all (fun k => sh (7 + k) == some (0, 0, 40, [])) = true := by decide +kernel
  simpa using List.all_eq_true.mp h r (List.mem_range.mpr hr)
theorem IR (s : ST) (f : Int32 → Option ρ) {r i : Nat} (hr : r < 8) (hi : i < 40) : (ialdF (mkH scr s) (7 + r) (nI i)).bind f = f (s.1 (7 + r) i) := iLb (shRow hr) s f hi (by decide)
theorem SR (s : ST) (x : Int32) (f : Hp → Option ρ) {r i : Nat} (hr : r < 8) (hi : i < 40) : (iastF (mkH scr s) (7 + r) (nI i) x).bind f = f (mkH scr (u2 s (7 + r) i x)) := iSb (shRow hr) s x f hi (by decide)
theorem sh_612 : sh 612 = some (0, 1, 2, []) := by decide +kernel
theorem I612 (s : ST) (f : Int32 → Option ρ) {i : Nat} (hi : i < 2) : (baldF (mkH scr s) 612 (nI i)).bind f = f (s.1 612 i) := bnd (by rw [bL sh_612 (in_nI hi (by decide)), nI_clamp (by omega)]) f
theorem S612 (s : ST) (f : Hp → Option ρ) {i : Nat} (hi : i < 2) : (bastF (mkH scr s) 612 (nI i) 1).bind f = f (mkH scr (u2 s 612 i 1)) := bnd (by rw [bS sh_612 (in_nI hi (by decide)) (Or.inr rfl), nI_clamp (by omega)]) f
theorem U2_11 (s : ST) (f : Hp → Option ρ) : (putF (mkH scr s) 8 11 2 (.int 1)).bind f = f (mkH scr (u2 s 2 11 1)) := bnd (pI sh_2 rfl rfl) f
theorem nw_a (s : ST) (f : Value → Option ρ) : (getF (mkH scr s) 2 4 531).bind f = f (.ref 532) := cty_ab cty531 s f
theorem nw_l (s : ST) (f : Nat → Option ρ) {i : Nat} (hi : i < 6) : (aaldF (mkH scr s) 532 (nI i)).bind f = f (533 + 3 * i) := cty_lb cty531 s f hi
theorem sc_a (s : ST) (f : Value → Option ρ) : (getF (mkH scr s) 2 4 551).bind f = f (.ref 552) := cty_ab cty551 s f
theorem sc_l (s : ST) (f : Nat → Option ρ) {i : Nat} (hi : i < 6) : (aaldF (mkH scr s) 552 (nI i)).bind f = f (553 + 3 * i) := cty_lb cty551 s f hi
theorem perN {i : Nat} (hi : i < 6) : per (533 + 3 * i) := cty531.2.2 i hi
theorem perS {i : Nat} (hi : i < 6) : per (553 + 3 * i) := cty551.2.2 i hi
theorem kN (s : ST) {i : Nat} (hi : i < 6) : clsB (mkH scr s) (533 + 3 * i) 4 = true := per_cl (perN hi) s
theorem kS (s : ST) {i : Nat} (hi : i < 6) : clsB (mkH scr s) (553 + 3 * i) 4 = true := per_cl (perS hi) s
theorem kT (s : ST) {i : Nat} (hi : i < 7) : clsB (mkH scr s) (506 + 3 * i) 4 = true := per_cl (perSt hi) s
theorem k531 (s : ST) : clsB (mkH scr s) 531 2 = true := cty_cl cty531 s
theorem k551 (s : ST) : clsB (mkH scr s) 551 2 = true := cty_cl cty551 s
theorem nw_g (k : Nat) (hk : k < 4) (s : ST) (f : Value → Option ρ) : (getF (mkH scr s) 2 k 531).bind f = f (.int (s.1 531 k)) := cty_gb cty531 k hk s f
theorem pn_g (k : Nat) (hk : k < 8) (s : ST) (f : Value → Option ρ) {i : Nat} (hi : i < 6) : (getF (mkH scr s) 4 k (533 + 3 * i)).bind f = f (.int (s.1 (533 + 3 * i) k)) := per_gb (perN hi) k hk s f
theorem pn_p (k : Nat) (hk : k < 8) (s : ST) (x : Int32) (f : Hp → Option ρ) {i : Nat} (hi : i < 6) : (putF (mkH scr s) 4 k (533 + 3 * i) (.int x)).bind f = f (mkH scr (u2 s (533 + 3 * i) k x)) := per_pb (perN hi) k hk s x f
/-! the long field -/
theorem mk_set2 {b : Nat} {e e1 : HC} {s s1 : ST} (h : L2[b]? = some e) (he : mkC s1 b e = e1) (ho : ∀ j e', j ≠ b → L2[j]? = some e' → mkC s1 j e' = mkC s j e') : hSet (mkH scr s) (b + 2) e1 = mkH scr s1 := by
  unfold mkH
  rw [L2s_eq]
  rw [hSet_2]
  refine congrArg (Prod.mk scr) ?_
  apply List.ext_getElem?
  intro j
  have hb : b < L2.length := (List.getElem?_eq_some_iff.mp h).1
  rw [List.getElem?_set, List.getElem?_mapIdx, List.getElem?_mapIdx, List.length_mapIdx]
  by_cases hj : b = j
  · subst hj
    rw [if_pos rfl, if_pos hb, h, ← he]
    rfl
  · rw [if_neg hj]
    cases hl : L2[j]? with
    | none => rfl
    | some e' =>
      show some (mkC s j e') = some (mkC s1 j e')
      rw [ho j e' (Ne.symm hj) hl]
theorem noLong : (List.range 622).all (fun j => j == 612 || match shL[j]? with
    | some (2, _, _, l) => !(l.contains 0)
    | _ => true) = true := by decide +kernel
theorem mkC_long {s : ST} {x : Int64} {j : Nat} {e' : HC} (hj : j ≠ 612) (h : L2[j]? = some e') : mkC (s.1, x) j e' = mkC s j e' := by
  have h1 : shL[j]? = some (shC e') := by rw [← shL_ok, List.getElem?_map, h]; rfl
  have hlen : j < 622 := by
    have := (List.getElem?_eq_some_iff.mp h1).1
    have hl : shL.length = 622 := by decide +kernel
    omega
  have h2 := List.all_eq_true.mp noLong j (List.mem_range.mpr hlen)
  rw [h1] at h2
  unfold mkC
  split
  · rfl
  · rfl
  · rename_i ci fs
    have h3 : ((fs.map shV).contains 0) = false := by simpa [shC, hj] using h2
    refine congrArg (fun z => (Sum.inr (ci, z) : HC)) ?_
    apply List.ext_getElem?
    intro m
    rw [List.getElem?_mapIdx, List.getElem?_mapIdx]
    cases hv : fs[m]? with
    | none => rfl
    | some v =>
      refine congrArg some ?_
      cases v <;> simp only [mkV]
      rename_i y
      exfalso
      have hm : (fs.map shV)[m]? = some 0 := by rw [List.getElem?_map, hv]; rfl
      have := List.mem_of_getElem? hm
      rw [List.contains_eq_mem, decide_eq_false_iff_not] at h3
      exact h3 this
theorem hL612 : L2[612]? = some (.inr (9, modF 613)) := by
  unfold L2
  rw [List.getElem?_append_right (by rw [L1_len]; exact Nat.le_refl _), L1_len, Nat.sub_self]
  rfl
theorem mJ (s : ST) (x : Int64) : mkC (s.1, x) 612 (.inr (9, modF 613)) = .inr (9, ((modF 613).mapIdx (mkV s 612)).set 17 (.long x)) := by
  show (Sum.inr (9, (modF 613).mapIdx (mkV (s.1, x) 612)) : HC) = _
  refine congrArg (fun z => (Sum.inr (9, z) : HC)) ?_
  simp only [modF, List.mapIdx_cons, List.mapIdx_nil, mkV, List.set_cons_succ, List.set_cons_zero]
theorem gJ (s : ST) (f : Value → Option ρ) : (getF (mkH scr s) 9 17 614).bind f = f (.long s.2) := by
  obtain ⟨fs, ⟨b, hb, hl, hg⟩, -, h3⟩ := sh_obj (scr := scr) sh_614
  refine bnd ?_ f
  unfold getF
  rw [hg s]
  simp only [if_true]
  obtain ⟨v, hv, hc⟩ := fld_at (k := 17) (c := 0) h3 rfl
  have hfs := hL612
  have e : b = 612 := by omega
  subst e
  rw [hl] at hfs
  have e2 : fs = modF 613 := by
    exact (Prod.mk.inj (Sum.inr.inj (Option.some.inj hfs))).2
  subst e2
  rw [List.getElem?_mapIdx]
  simp only [modF, List.getElem?_cons_succ, List.getElem?_cons_zero, Option.map_some, mkV]
theorem pJ (s : ST) (x : Int64) (f : Hp → Option ρ) : (putF (mkH scr s) 9 17 614 (.long x)).bind f = f (mkH scr (s.1, x)) := by
  obtain ⟨fs, ⟨b, hb, hl, hg⟩, hn, h3⟩ := sh_obj (scr := scr) sh_614
  have e : b = 612 := by omega
  subst e
  have hfs := hL612
  have e2 : fs = modF 613 := by
    rw [hl] at hfs
    exact (Prod.mk.inj (Sum.inr.inj (Option.some.inj hfs))).2
  subst e2
  refine bnd ?_ f
  unfold putF
  rw [hg s]
  have hok : okF (fTy 9 17) (.long x) = true := rfl
  simp only [List.length_mapIdx, hok, and_self, if_true, hn, Nat.reduceLT]
  exact congrArg some (mk_set2 hl (mJ s x) (fun j e' hj h => mkC_long hj h))
end GEO
