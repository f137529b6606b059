/-! ===== switches ===== -/
theorem T5_1 {d rk : Nat} {L st : List Value} {h : Hp} : EvI (EvM d) C5 rk 13 L (.int (nI 1) :: st) h = EvI (EvM d) C5 rk 48 L st h := by rw [e5_13]; rfl
theorem T5_2 {d rk : Nat} {L st : List Value} {h : Hp} : EvI (EvM d) C5 rk 13 L (.int (nI 2) :: st) h = EvI (EvM d) C5 rk 55 L st h := by rw [e5_13]; rfl
theorem T5_3 {d rk : Nat} {L st : List Value} {h : Hp} : EvI (EvM d) C5 rk 13 L (.int (nI 3) :: st) h = EvI (EvM d) C5 rk 48 L st h := by rw [e5_13]; rfl
theorem T5_4 {d rk : Nat} {L st : List Value} {h : Hp} : EvI (EvM d) C5 rk 13 L (.int (nI 4) :: st) h = EvI (EvM d) C5 rk 62 L st h := by rw [e5_13]; rfl
theorem T5_5 {d rk : Nat} {L st : List Value} {h : Hp} : EvI (EvM d) C5 rk 13 L (.int (nI 5) :: st) h = EvI (EvM d) C5 rk 68 L st h := by rw [e5_13]; rfl
theorem T5_d {d rk : Nat} {L st : List Value} {h : Hp} {x : Int32} (hx : x.toInt < 1 ∨ 5 < x.toInt) : EvI (EvM d) C5 rk 13 L (.int x :: st) h = EvI (EvM d) C5 rk 74 L st h := by
  rw [e5_13]
  simp only [qI]
  rw [if_pos hx]
  rfl
theorem T6_1 {d rk : Nat} {L st : List Value} {h : Hp} : EvI (EvM d) C6 rk 13 L (.int (nI 1) :: st) h = EvI (EvM d) C6 rk 48 L st h := by rw [e6_13]; rfl
theorem T6_2 {d rk : Nat} {L st : List Value} {h : Hp} : EvI (EvM d) C6 rk 13 L (.int (nI 2) :: st) h = EvI (EvM d) C6 rk 54 L st h := by rw [e6_13]; rfl
theorem T6_3 {d rk : Nat} {L st : List Value} {h : Hp} : EvI (EvM d) C6 rk 13 L (.int (nI 3) :: st) h = EvI (EvM d) C6 rk 60 L st h := by rw [e6_13]; rfl
theorem T6_4 {d rk : Nat} {L st : List Value} {h : Hp} : EvI (EvM d) C6 rk 13 L (.int (nI 4) :: st) h = EvI (EvM d) C6 rk 66 L st h := by rw [e6_13]; rfl
theorem T6_5 {d rk : Nat} {L st : List Value} {h : Hp} : EvI (EvM d) C6 rk 13 L (.int (nI 5) :: st) h = EvI (EvM d) C6 rk 66 L st h := by rw [e6_13]; rfl
theorem T6_d {d rk : Nat} {L st : List Value} {h : Hp} {x : Int32} (hx : x.toInt < 1 ∨ 5 < x.toInt) : EvI (EvM d) C6 rk 13 L (.int x :: st) h = EvI (EvM d) C6 rk 73 L st h := by
  rw [e6_13]
  simp only [qI]
  rw [if_pos hx]
  rfl
theorem T101_4 {d rk : Nat} {L st : List Value} {h : Hp} : EvI (EvM d) C101 rk 22 L (.int (nI 4) :: st) h = EvI (EvM d) C101 rk 48 L st h := by rw [e101_22]; rfl
theorem T101_5 {d rk : Nat} {L st : List Value} {h : Hp} : EvI (EvM d) C101 rk 22 L (.int (nI 5) :: st) h = EvI (EvM d) C101 rk 53 L st h := by rw [e101_22]; rfl
theorem T101_6 {d rk : Nat} {L st : List Value} {h : Hp} : EvI (EvM d) C101 rk 22 L (.int (nI 6) :: st) h = EvI (EvM d) C101 rk 58 L st h := by rw [e101_22]; rfl
theorem T101_d {d rk : Nat} {L st : List Value} {h : Hp} {x : Int32} (hx : x.toInt < 4 ∨ 6 < x.toInt) : EvI (EvM d) C101 rk 22 L (.int x :: st) h = EvI (EvM d) C101 rk 63 L st h := by
  rw [e101_22]
  simp only [qI]
  rw [if_pos hx]
  rfl
theorem T119_0 {d rk : Nat} {L st : List Value} {h : Hp} : EvI (EvM d) C119 rk 1 L (.int (nI 0) :: st) h = EvI (EvM d) C119 rk 44 L st h := by rw [e119_1]; rfl
theorem T119_1 {d rk : Nat} {L st : List Value} {h : Hp} : EvI (EvM d) C119 rk 1 L (.int (nI 1) :: st) h = EvI (EvM d) C119 rk 52 L st h := by rw [e119_1]; rfl
theorem T119_2 {d rk : Nat} {L st : List Value} {h : Hp} : EvI (EvM d) C119 rk 1 L (.int (nI 2) :: st) h = EvI (EvM d) C119 rk 60 L st h := by rw [e119_1]; rfl
theorem T119_3 {d rk : Nat} {L st : List Value} {h : Hp} : EvI (EvM d) C119 rk 1 L (.int (nI 3) :: st) h = EvI (EvM d) C119 rk 68 L st h := by rw [e119_1]; rfl
theorem T119_4 {d rk : Nat} {L st : List Value} {h : Hp} : EvI (EvM d) C119 rk 1 L (.int (nI 4) :: st) h = EvI (EvM d) C119 rk 76 L st h := by rw [e119_1]; rfl
theorem T119_5 {d rk : Nat} {L st : List Value} {h : Hp} : EvI (EvM d) C119 rk 1 L (.int (nI 5) :: st) h = EvI (EvM d) C119 rk 84 L st h := by rw [e119_1]; rfl
theorem T119_6 {d rk : Nat} {L st : List Value} {h : Hp} : EvI (EvM d) C119 rk 1 L (.int (nI 6) :: st) h = EvI (EvM d) C119 rk 92 L st h := by rw [e119_1]; rfl
theorem T119_d {d rk : Nat} {L st : List Value} {h : Hp} {x : Int32} (hx : x.toInt < 0 ∨ 6 < x.toInt) : EvI (EvM d) C119 rk 1 L (.int x :: st) h = EvI (EvM d) C119 rk 100 L st h := by
  rw [e119_1]
  simp only [qI]
  rw [if_pos hx]
  rfl
theorem T127_0 {d rk : Nat} {L st : List Value} {h : Hp} : EvI (EvM d) C127 rk 1 L (.int (nI 0) :: st) h = EvI (EvM d) C127 rk 32 L st h := by rw [e127_1]; rfl
theorem T127_1 {d rk : Nat} {L st : List Value} {h : Hp} : EvI (EvM d) C127 rk 1 L (.int (nI 1) :: st) h = EvI (EvM d) C127 rk 37 L st h := by rw [e127_1]; rfl
theorem T127_2 {d rk : Nat} {L st : List Value} {h : Hp} : EvI (EvM d) C127 rk 1 L (.int (nI 2) :: st) h = EvI (EvM d) C127 rk 42 L st h := by rw [e127_1]; rfl
theorem T127_3 {d rk : Nat} {L st : List Value} {h : Hp} : EvI (EvM d) C127 rk 1 L (.int (nI 3) :: st) h = EvI (EvM d) C127 rk 47 L st h := by rw [e127_1]; rfl
theorem T127_d {d rk : Nat} {L st : List Value} {h : Hp} {x : Int32} (hx : x.toInt < 0 ∨ 3 < x.toInt) : EvI (EvM d) C127 rk 1 L (.int x :: st) h = EvI (EvM d) C127 rk 52 L st h := by
  rw [e127_1]
  simp only [qI]
  rw [if_pos hx]
  rfl
theorem T174_0 {d rk : Nat} {L st : List Value} {h : Hp} : EvI (EvM d) C174 rk 12 L (.int (nI 0) :: st) h = EvI (EvM d) C174 rk 56 L st h := by rw [e174_12]; rfl
theorem T174_1 {d rk : Nat} {L st : List Value} {h : Hp} : EvI (EvM d) C174 rk 12 L (.int (nI 1) :: st) h = EvI (EvM d) C174 rk 63 L st h := by rw [e174_12]; rfl
theorem T174_2 {d rk : Nat} {L st : List Value} {h : Hp} : EvI (EvM d) C174 rk 12 L (.int (nI 2) :: st) h = EvI (EvM d) C174 rk 63 L st h := by rw [e174_12]; rfl
theorem T174_3 {d rk : Nat} {L st : List Value} {h : Hp} : EvI (EvM d) C174 rk 12 L (.int (nI 3) :: st) h = EvI (EvM d) C174 rk 63 L st h := by rw [e174_12]; rfl
theorem T174_4 {d rk : Nat} {L st : List Value} {h : Hp} : EvI (EvM d) C174 rk 12 L (.int (nI 4) :: st) h = EvI (EvM d) C174 rk 78 L st h := by rw [e174_12]; rfl
theorem T174_5 {d rk : Nat} {L st : List Value} {h : Hp} : EvI (EvM d) C174 rk 12 L (.int (nI 5) :: st) h = EvI (EvM d) C174 rk 78 L st h := by rw [e174_12]; rfl
theorem T174_6 {d rk : Nat} {L st : List Value} {h : Hp} : EvI (EvM d) C174 rk 12 L (.int (nI 6) :: st) h = EvI (EvM d) C174 rk 93 L st h := by rw [e174_12]; rfl
theorem T174_d {d rk : Nat} {L st : List Value} {h : Hp} {x : Int32} (hx : x.toInt < 0 ∨ 6 < x.toInt) : EvI (EvM d) C174 rk 12 L (.int x :: st) h = EvI (EvM d) C174 rk 106 L st h := by
  rw [e174_12]
  simp only [qI]
  rw [if_pos hx]
  rfl
theorem T219_0 {d rk : Nat} {L st : List Value} {h : Hp} : EvI (EvM d) C219 rk 66 L (.int (nI 0) :: st) h = EvI (EvM d) C219 rk 108 L st h := by rw [e219_66]; rfl
theorem T219_1 {d rk : Nat} {L st : List Value} {h : Hp} : EvI (EvM d) C219 rk 66 L (.int (nI 1) :: st) h = EvI (EvM d) C219 rk 110 L st h := by rw [e219_66]; rfl
theorem T219_2 {d rk : Nat} {L st : List Value} {h : Hp} : EvI (EvM d) C219 rk 66 L (.int (nI 2) :: st) h = EvI (EvM d) C219 rk 117 L st h := by rw [e219_66]; rfl
theorem T219_3 {d rk : Nat} {L st : List Value} {h : Hp} : EvI (EvM d) C219 rk 66 L (.int (nI 3) :: st) h = EvI (EvM d) C219 rk 125 L st h := by rw [e219_66]; rfl
theorem T219_4 {d rk : Nat} {L st : List Value} {h : Hp} : EvI (EvM d) C219 rk 66 L (.int (nI 4) :: st) h = EvI (EvM d) C219 rk 127 L st h := by rw [e219_66]; rfl
theorem T219_5 {d rk : Nat} {L st : List Value} {h : Hp} : EvI (EvM d) C219 rk 66 L (.int (nI 5) :: st) h = EvI (EvM d) C219 rk 133 L st h := by rw [e219_66]; rfl
theorem T219_6 {d rk : Nat} {L st : List Value} {h : Hp} : EvI (EvM d) C219 rk 66 L (.int (nI 6) :: st) h = EvI (EvM d) C219 rk 138 L st h := by rw [e219_66]; rfl
theorem T219_d {d rk : Nat} {L st : List Value} {h : Hp} {x : Int32} (hx : x.toInt < 0 ∨ 6 < x.toInt) : EvI (EvM d) C219 rk 66 L (.int x :: st) h = EvI (EvM d) C219 rk 143 L st h := by
  rw [e219_66]
  simp only [qI]
  rw [if_pos hx]
  rfl
theorem T80_99 {d rk : Nat} {L st : List Value} {h : Hp} : EvI (EvM d) C80 rk 1 L (.int (nI 99) :: st) h = EvI (EvM d) C80 rk 52 L st h := by rw [e80_1]; rfl
theorem T80_104 {d rk : Nat} {L st : List Value} {h : Hp} : EvI (EvM d) C80 rk 1 L (.int (nI 104) :: st) h = EvI (EvM d) C80 rk 56 L st h := by rw [e80_1]; rfl
theorem T80_112 {d rk : Nat} {L st : List Value} {h : Hp} : EvI (EvM d) C80 rk 1 L (.int (nI 112) :: st) h = EvI (EvM d) C80 rk 60 L st h := by rw [e80_1]; rfl
theorem T80_115 {d rk : Nat} {L st : List Value} {h : Hp} : EvI (EvM d) C80 rk 1 L (.int (nI 115) :: st) h = EvI (EvM d) C80 rk 54 L st h := by rw [e80_1]; rfl
theorem T80_116 {d rk : Nat} {L st : List Value} {h : Hp} : EvI (EvM d) C80 rk 1 L (.int (nI 116) :: st) h = EvI (EvM d) C80 rk 58 L st h := by rw [e80_1]; rfl
theorem T80_d {d rk : Nat} {L st : List Value} {h : Hp} {x : Int32} (h1 : x.toInt ≠ 99) (h2 : x.toInt ≠ 104) (h3 : x.toInt ≠ 112) (h4 : x.toInt ≠ 115) (h5 : x.toInt ≠ 116) : EvI (EvM d) C80 rk 1 L (.int x :: st) h = EvI (EvM d) C80 rk 62 L st h := by
  rw [e80_1]
  simp only [qI]
  have e : Op.lookupswitch.offset (#[(99, 51), (104, 55), (112, 59), (115, 53), (116, 57)] : Array (Int × Int)).toList 61 x.toInt = 61 := by
    simp [Op.lookupswitch.offset, h1, h2, h3, h4, h5, Ne.symm h1, Ne.symm h2, Ne.symm h3, Ne.symm h4, Ne.symm h5]
  rw [e]
  rfl
