section LAWE
set_option maxRecDepth 100000 in
theorem eL_0 {d rk : Nat} {L st : List Value} {h : Hp} : EvI (EvM d) CL rk 0 L st h = (EvI (EvM d) CL rk 3 L (.ref (h.2.length + 2) :: st) (hNew h [.inr (8, dflt 8)])) := (Ev_step 0 L st h).trans rfl
set_option maxRecDepth 100000 in
theorem eL_3 {d rk : Nat} {L st : List Value} {h : Hp} : EvI (EvM d) CL rk 3 L st h = (popV st fun v s => if isLg v = true then none else EvI (EvM d) CL rk 4 L (v :: v :: s) h) := (Ev_step 3 L st h).trans rfl
set_option maxRecDepth 100000 in
theorem eL_4 {d rk : Nat} {L st : List Value} {h : Hp} : EvI (EvM d) CL rk 4 L st h = (if 0 ≤ st.length then (popR (st.drop 0) fun r s => if catS s ≤ 8 then (EvM d 85 (.ref r :: (st.take 0).reverse) h).bind fun q => EvI (EvM d) CL rk 7 L s q.2 else none) else none) := (Ev_step 4 L st h).trans rfl
set_option maxRecDepth 100000 in
theorem eL_7 {d rk : Nat} {L st : List Value} {h : Hp} : EvI (EvM d) CL rk 7 L st h = (popR st fun x s => if okS L 1 = true then EvI (EvM d) CL rk 8 (lSet L 1 (.ref x)) s h else none) := (Ev_step 7 L st h).trans rfl
set_option maxRecDepth 100000 in
theorem eL_8 {d rk : Nat} {L st : List Value} {h : Hp} : EvI (EvM d) CL rk 8 L st h = (EvI (EvM d) CL rk 11 L (.ref (h.2.length + 2) :: st) (hNew h [.inr (9, dflt 9)])) := (Ev_step 8 L st h).trans rfl
set_option maxRecDepth 100000 in
theorem eL_11 {d rk : Nat} {L st : List Value} {h : Hp} : EvI (EvM d) CL rk 11 L st h = (popV st fun v s => if isLg v = true then none else EvI (EvM d) CL rk 12 L (v :: v :: s) h) := (Ev_step 11 L st h).trans rfl
set_option maxRecDepth 100000 in
theorem eL_12 {d rk : Nat} {L st : List Value} {h : Hp} : EvI (EvM d) CL rk 12 L st h = (if 0 ≤ st.length then (popR (st.drop 0) fun r s => if catS s ≤ 8 then (EvM d 130 (.ref r :: (st.take 0).reverse) h).bind fun q => EvI (EvM d) CL rk 15 L s q.2 else none) else none) := (Ev_step 12 L st h).trans rfl
set_option maxRecDepth 100000 in
theorem eL_15 {d rk : Nat} {L st : List Value} {h : Hp} : EvI (EvM d) CL rk 15 L st h = (popR st fun x s => if okS L 2 = true then EvI (EvM d) CL rk 16 (lSet L 2 (.ref x)) s h else none) := (Ev_step 15 L st h).trans rfl
set_option maxRecDepth 100000 in
theorem eL_16 {d rk : Nat} {L st : List Value} {h : Hp} : EvI (EvM d) CL rk 16 L st h = (EvI (EvM d) CL rk 17 L (.int 0 :: st) h) := (Ev_step 16 L st h).trans rfl
set_option maxRecDepth 100000 in
theorem eL_17 {d rk : Nat} {L st : List Value} {h : Hp} : EvI (EvM d) CL rk 17 L st h = (popI st fun x s => if okS L 3 = true then EvI (EvM d) CL rk 18 (lSet L 3 (.int x)) s h else none) := (Ev_step 17 L st h).trans rfl
set_option maxRecDepth 100000 in
theorem eL_18 {d rk : Nat} {L st : List Value} {h : Hp} : EvI (EvM d) CL rk 18 L st h = (asI (lGet L 3) fun x => EvI (EvM d) CL rk 19 L (.int x :: st) h) := (Ev_step 18 L st h).trans rfl
set_option maxRecDepth 100000 in
theorem eL_19 {d rk : Nat} {L st : List Value} {h : Hp} : EvI (EvM d) CL rk 19 L st h = (asR (lGet L 0) fun x => EvI (EvM d) CL rk 20 L (.ref x :: st) h) := (Ev_step 19 L st h).trans rfl
set_option maxRecDepth 100000 in
theorem eL_20 {d rk : Nat} {L st : List Value} {h : Hp} : EvI (EvM d) CL rk 20 L st h = (popR st fun r s => (alenF h r).bind fun n => EvI (EvM d) CL rk 21 L (.int (Int32.ofNat n) :: s) h) := (Ev_step 20 L st h).trans rfl
set_option maxRecDepth 100000 in
theorem eL_21 {d rk : Nat} {L st : List Value} {h : Hp} : EvI (EvM d) CL rk 21 L st h = (EvI (EvM d) CL rk 23 L (.int 6 :: st) h) := (Ev_step 21 L st h).trans rfl
set_option maxRecDepth 100000 in
theorem eL_23 {d rk : Nat} {L st : List Value} {h : Hp} : EvI (EvM d) CL rk 23 L st h = (popI2 st fun x y s => EvI (EvM d) CL rk 24 L (.int (x - y) :: s) h) := (Ev_step 23 L st h).trans rfl
set_option maxRecDepth 100000 in
theorem eL_24 {d rk : Nat} {L st : List Value} {h : Hp} : EvI (EvM d) CL rk 24 L st h = (popI2 st fun x y s => if y < x then EvI (EvM d) CL rk 1389 L s h else EvI (EvM d) CL rk 27 L s h) := (Ev_step 24 L st h).trans rfl
set_option maxRecDepth 100000 in
theorem eL_27 {d rk : Nat} {L st : List Value} {h : Hp} : EvI (EvM d) CL rk 27 L st h = (asR (lGet L 0) fun x => EvI (EvM d) CL rk 28 L (.ref x :: st) h) := (Ev_step 27 L st h).trans rfl
set_option maxRecDepth 100000 in
theorem eL_28 {d rk : Nat} {L st : List Value} {h : Hp} : EvI (EvM d) CL rk 28 L st h = (asI (lGet L 3) fun x => EvI (EvM d) CL rk 29 L (.int x :: st) h) := (Ev_step 28 L st h).trans rfl
set_option maxRecDepth 100000 in
theorem eL_29 {d rk : Nat} {L st : List Value} {h : Hp} : EvI (EvM d) CL rk 29 L st h = (popI st fun i s => popR s fun r s => (ialdF h r i).bind fun x => EvI (EvM d) CL rk 30 L (.int x :: s) h) := (Ev_step 29 L st h).trans rfl
set_option maxRecDepth 100000 in
theorem eL_30 {d rk : Nat} {L st : List Value} {h : Hp} : EvI (EvM d) CL rk 30 L st h = (EvI (EvM d) CL rk 32 L (.int 63 :: st) h) := (Ev_step 30 L st h).trans rfl
set_option maxRecDepth 100000 in
theorem eL_32 {d rk : Nat} {L st : List Value} {h : Hp} : EvI (EvM d) CL rk 32 L st h = (popI2 st fun x y s => EvI (EvM d) CL rk 33 L (.int (x &&& y) :: s) h) := (Ev_step 32 L st h).trans rfl
set_option maxRecDepth 100000 in
theorem eL_33 {d rk : Nat} {L st : List Value} {h : Hp} : EvI (EvM d) CL rk 33 L st h = (popI st fun x s => if x.toInt < 0 ∨ 34 < x.toInt then (jmp 33 1350 fun t => EvI (EvM d) CL rk t L s h) else ((#[155, 198, 241, 304, 327, 350, 363, 376, 389, 422, 455, 508, 541, 574, 597, 620, 653, 696, 749, 782, 825, 878, 941, 974, 997, 1050, 1093, 1156, 1179, 1202, 1225, 1258, 1291, 1314, 1337] : Array Int)[(x.toInt - 0).toNat]?).bind fun o => jmp 33 o fun t => EvI (EvM d) CL rk t L s h) := (Ev_step 33 L st h).trans rfl
set_option maxRecDepth 100000 in
theorem eL_188 {d rk : Nat} {L st : List Value} {h : Hp} : EvI (EvM d) CL rk 188 L st h = (asR (lGet L 1) fun x => EvI (EvM d) CL rk 189 L (.ref x :: st) h) := (Ev_step 188 L st h).trans rfl
set_option maxRecDepth 100000 in
theorem eL_189 {d rk : Nat} {L st : List Value} {h : Hp} : EvI (EvM d) CL rk 189 L st h = (asR (lGet L 0) fun x => EvI (EvM d) CL rk 190 L (.ref x :: st) h) := (Ev_step 189 L st h).trans rfl
set_option maxRecDepth 100000 in
theorem eL_190 {d rk : Nat} {L st : List Value} {h : Hp} : EvI (EvM d) CL rk 190 L st h = (asI (lGet L 3) fun x => EvI (EvM d) CL rk 191 L (.int x :: st) h) := (Ev_step 190 L st h).trans rfl
set_option maxRecDepth 100000 in
theorem eL_191 {d rk : Nat} {L st : List Value} {h : Hp} : EvI (EvM d) CL rk 191 L st h = (EvI (EvM d) CL rk 192 L (.int 1 :: st) h) := (Ev_step 191 L st h).trans rfl
set_option maxRecDepth 100000 in
theorem eL_192 {d rk : Nat} {L st : List Value} {h : Hp} : EvI (EvM d) CL rk 192 L st h = (popI2 st fun x y s => EvI (EvM d) CL rk 193 L (.int (x + y) :: s) h) := (Ev_step 192 L st h).trans rfl
set_option maxRecDepth 100000 in
theorem eL_193 {d rk : Nat} {L st : List Value} {h : Hp} : EvI (EvM d) CL rk 193 L st h = (popI st fun i s => popR s fun r s => (ialdF h r i).bind fun x => EvI (EvM d) CL rk 194 L (.int x :: s) h) := (Ev_step 193 L st h).trans rfl
set_option maxRecDepth 100000 in
theorem eL_194 {d rk : Nat} {L st : List Value} {h : Hp} : EvI (EvM d) CL rk 194 L st h = (asR (lGet L 0) fun x => EvI (EvM d) CL rk 195 L (.ref x :: st) h) := (Ev_step 194 L st h).trans rfl
set_option maxRecDepth 100000 in
theorem eL_195 {d rk : Nat} {L st : List Value} {h : Hp} : EvI (EvM d) CL rk 195 L st h = (asI (lGet L 3) fun x => EvI (EvM d) CL rk 196 L (.int x :: st) h) := (Ev_step 195 L st h).trans rfl
set_option maxRecDepth 100000 in
theorem eL_196 {d rk : Nat} {L st : List Value} {h : Hp} : EvI (EvM d) CL rk 196 L st h = (EvI (EvM d) CL rk 197 L (.int 2 :: st) h) := (Ev_step 196 L st h).trans rfl
set_option maxRecDepth 100000 in
theorem eL_197 {d rk : Nat} {L st : List Value} {h : Hp} : EvI (EvM d) CL rk 197 L st h = (popI2 st fun x y s => EvI (EvM d) CL rk 198 L (.int (x + y) :: s) h) := (Ev_step 197 L st h).trans rfl
set_option maxRecDepth 100000 in
theorem eL_198 {d rk : Nat} {L st : List Value} {h : Hp} : EvI (EvM d) CL rk 198 L st h = (popI st fun i s => popR s fun r s => (ialdF h r i).bind fun x => EvI (EvM d) CL rk 199 L (.int x :: s) h) := (Ev_step 198 L st h).trans rfl
set_option maxRecDepth 100000 in
theorem eL_199 {d rk : Nat} {L st : List Value} {h : Hp} : EvI (EvM d) CL rk 199 L st h = (asR (lGet L 0) fun x => EvI (EvM d) CL rk 200 L (.ref x :: st) h) := (Ev_step 199 L st h).trans rfl
set_option maxRecDepth 100000 in
theorem eL_200 {d rk : Nat} {L st : List Value} {h : Hp} : EvI (EvM d) CL rk 200 L st h = (asI (lGet L 3) fun x => EvI (EvM d) CL rk 201 L (.int x :: st) h) := (Ev_step 200 L st h).trans rfl
set_option maxRecDepth 100000 in
theorem eL_201 {d rk : Nat} {L st : List Value} {h : Hp} : EvI (EvM d) CL rk 201 L st h = (EvI (EvM d) CL rk 202 L (.int 3 :: st) h) := (Ev_step 201 L st h).trans rfl
set_option maxRecDepth 100000 in
theorem eL_202 {d rk : Nat} {L st : List Value} {h : Hp} : EvI (EvM d) CL rk 202 L st h = (popI2 st fun x y s => EvI (EvM d) CL rk 203 L (.int (x + y) :: s) h) := (Ev_step 202 L st h).trans rfl
set_option maxRecDepth 100000 in
theorem eL_203 {d rk : Nat} {L st : List Value} {h : Hp} : EvI (EvM d) CL rk 203 L st h = (popI st fun i s => popR s fun r s => (ialdF h r i).bind fun x => EvI (EvM d) CL rk 204 L (.int x :: s) h) := (Ev_step 203 L st h).trans rfl
set_option maxRecDepth 100000 in
theorem eL_204 {d rk : Nat} {L st : List Value} {h : Hp} : EvI (EvM d) CL rk 204 L st h = (if 3 ≤ st.length then (popR (st.drop 3) fun r s => if clsB h r 8 = true ∧ catS s ≤ 8 then (EvM d 86 (.ref r :: (st.take 3).reverse) h).bind fun q => EvI (EvM d) CL rk 207 L (.int q.1 :: s) q.2 else none) else none) := (Ev_step 204 L st h).trans rfl
set_option maxRecDepth 100000 in
theorem eL_207 {d rk : Nat} {L st : List Value} {h : Hp} : EvI (EvM d) CL rk 207 L st h = (asR (lGet L 2) fun x => EvI (EvM d) CL rk 208 L (.ref x :: st) h) := (Ev_step 207 L st h).trans rfl
set_option maxRecDepth 100000 in
theorem eL_208 {d rk : Nat} {L st : List Value} {h : Hp} : EvI (EvM d) CL rk 208 L st h = (asR (lGet L 0) fun x => EvI (EvM d) CL rk 209 L (.ref x :: st) h) := (Ev_step 208 L st h).trans rfl
set_option maxRecDepth 100000 in
theorem eL_209 {d rk : Nat} {L st : List Value} {h : Hp} : EvI (EvM d) CL rk 209 L st h = (asI (lGet L 3) fun x => EvI (EvM d) CL rk 210 L (.int x :: st) h) := (Ev_step 209 L st h).trans rfl
set_option maxRecDepth 100000 in
theorem eL_210 {d rk : Nat} {L st : List Value} {h : Hp} : EvI (EvM d) CL rk 210 L st h = (EvI (EvM d) CL rk 211 L (.int 1 :: st) h) := (Ev_step 210 L st h).trans rfl
set_option maxRecDepth 100000 in
theorem eL_211 {d rk : Nat} {L st : List Value} {h : Hp} : EvI (EvM d) CL rk 211 L st h = (popI2 st fun x y s => EvI (EvM d) CL rk 212 L (.int (x + y) :: s) h) := (Ev_step 211 L st h).trans rfl
set_option maxRecDepth 100000 in
theorem eL_212 {d rk : Nat} {L st : List Value} {h : Hp} : EvI (EvM d) CL rk 212 L st h = (popI st fun i s => popR s fun r s => (ialdF h r i).bind fun x => EvI (EvM d) CL rk 213 L (.int x :: s) h) := (Ev_step 212 L st h).trans rfl
set_option maxRecDepth 100000 in
theorem eL_213 {d rk : Nat} {L st : List Value} {h : Hp} : EvI (EvM d) CL rk 213 L st h = (asR (lGet L 0) fun x => EvI (EvM d) CL rk 214 L (.ref x :: st) h) := (Ev_step 213 L st h).trans rfl
set_option maxRecDepth 100000 in
theorem eL_214 {d rk : Nat} {L st : List Value} {h : Hp} : EvI (EvM d) CL rk 214 L st h = (asI (lGet L 3) fun x => EvI (EvM d) CL rk 215 L (.int x :: st) h) := (Ev_step 214 L st h).trans rfl
set_option maxRecDepth 100000 in
theorem eL_215 {d rk : Nat} {L st : List Value} {h : Hp} : EvI (EvM d) CL rk 215 L st h = (EvI (EvM d) CL rk 216 L (.int 2 :: st) h) := (Ev_step 215 L st h).trans rfl
set_option maxRecDepth 100000 in
theorem eL_216 {d rk : Nat} {L st : List Value} {h : Hp} : EvI (EvM d) CL rk 216 L st h = (popI2 st fun x y s => EvI (EvM d) CL rk 217 L (.int (x + y) :: s) h) := (Ev_step 216 L st h).trans rfl
set_option maxRecDepth 100000 in
theorem eL_217 {d rk : Nat} {L st : List Value} {h : Hp} : EvI (EvM d) CL rk 217 L st h = (popI st fun i s => popR s fun r s => (ialdF h r i).bind fun x => EvI (EvM d) CL rk 218 L (.int x :: s) h) := (Ev_step 217 L st h).trans rfl
set_option maxRecDepth 100000 in
theorem eL_218 {d rk : Nat} {L st : List Value} {h : Hp} : EvI (EvM d) CL rk 218 L st h = (asR (lGet L 0) fun x => EvI (EvM d) CL rk 219 L (.ref x :: st) h) := (Ev_step 218 L st h).trans rfl
set_option maxRecDepth 100000 in
theorem eL_219 {d rk : Nat} {L st : List Value} {h : Hp} : EvI (EvM d) CL rk 219 L st h = (asI (lGet L 3) fun x => EvI (EvM d) CL rk 220 L (.int x :: st) h) := (Ev_step 219 L st h).trans rfl
set_option maxRecDepth 100000 in
theorem eL_220 {d rk : Nat} {L st : List Value} {h : Hp} : EvI (EvM d) CL rk 220 L st h = (EvI (EvM d) CL rk 221 L (.int 3 :: st) h) := (Ev_step 220 L st h).trans rfl
set_option maxRecDepth 100000 in
theorem eL_221 {d rk : Nat} {L st : List Value} {h : Hp} : EvI (EvM d) CL rk 221 L st h = (popI2 st fun x y s => EvI (EvM d) CL rk 222 L (.int (x + y) :: s) h) := (Ev_step 221 L st h).trans rfl
set_option maxRecDepth 100000 in
theorem eL_222 {d rk : Nat} {L st : List Value} {h : Hp} : EvI (EvM d) CL rk 222 L st h = (popI st fun i s => popR s fun r s => (ialdF h r i).bind fun x => EvI (EvM d) CL rk 223 L (.int x :: s) h) := (Ev_step 222 L st h).trans rfl
set_option maxRecDepth 100000 in
theorem eL_223 {d rk : Nat} {L st : List Value} {h : Hp} : EvI (EvM d) CL rk 223 L st h = (if 3 ≤ st.length then (popR (st.drop 3) fun r s => if clsB h r 9 = true ∧ catS s ≤ 8 then (EvM d 136 (.ref r :: (st.take 3).reverse) h).bind fun q => EvI (EvM d) CL rk 226 L (.int q.1 :: s) q.2 else none) else none) := (Ev_step 223 L st h).trans rfl
set_option maxRecDepth 100000 in
theorem eL_226 {d rk : Nat} {L st : List Value} {h : Hp} : EvI (EvM d) CL rk 226 L st h = (popI2 st fun x y s => if x = y then EvI (EvM d) CL rk 1383 L s h else EvI (EvM d) CL rk 229 L s h) := (Ev_step 226 L st h).trans rfl
set_option maxRecDepth 100000 in
theorem eL_229 {d rk : Nat} {L st : List Value} {h : Hp} : EvI (EvM d) CL rk 229 L st h = (EvI (EvM d) CL rk 230 L (.int 0 :: st) h) := (Ev_step 229 L st h).trans rfl
set_option maxRecDepth 100000 in
theorem eL_230 {d rk : Nat} {L st : List Value} {h : Hp} : EvI (EvM d) CL rk 230 L st h = (popI st fun v s => if s = [] ∧ okR rk v = true then some (v, h) else none) := (Ev_step 230 L st h).trans rfl
set_option maxRecDepth 100000 in
theorem eL_231 {d rk : Nat} {L st : List Value} {h : Hp} : EvI (EvM d) CL rk 231 L st h = (asR (lGet L 1) fun x => EvI (EvM d) CL rk 232 L (.ref x :: st) h) := (Ev_step 231 L st h).trans rfl
set_option maxRecDepth 100000 in
theorem eL_232 {d rk : Nat} {L st : List Value} {h : Hp} : EvI (EvM d) CL rk 232 L st h = (asR (lGet L 0) fun x => EvI (EvM d) CL rk 233 L (.ref x :: st) h) := (Ev_step 232 L st h).trans rfl
set_option maxRecDepth 100000 in
theorem eL_233 {d rk : Nat} {L st : List Value} {h : Hp} : EvI (EvM d) CL rk 233 L st h = (asI (lGet L 3) fun x => EvI (EvM d) CL rk 234 L (.int x :: st) h) := (Ev_step 233 L st h).trans rfl
set_option maxRecDepth 100000 in
theorem eL_234 {d rk : Nat} {L st : List Value} {h : Hp} : EvI (EvM d) CL rk 234 L st h = (EvI (EvM d) CL rk 235 L (.int 1 :: st) h) := (Ev_step 234 L st h).trans rfl
set_option maxRecDepth 100000 in
theorem eL_235 {d rk : Nat} {L st : List Value} {h : Hp} : EvI (EvM d) CL rk 235 L st h = (popI2 st fun x y s => EvI (EvM d) CL rk 236 L (.int (x + y) :: s) h) := (Ev_step 235 L st h).trans rfl
set_option maxRecDepth 100000 in
theorem eL_236 {d rk : Nat} {L st : List Value} {h : Hp} : EvI (EvM d) CL rk 236 L st h = (popI st fun i s => popR s fun r s => (ialdF h r i).bind fun x => EvI (EvM d) CL rk 237 L (.int x :: s) h) := (Ev_step 236 L st h).trans rfl
set_option maxRecDepth 100000 in
theorem eL_237 {d rk : Nat} {L st : List Value} {h : Hp} : EvI (EvM d) CL rk 237 L st h = (asR (lGet L 0) fun x => EvI (EvM d) CL rk 238 L (.ref x :: st) h) := (Ev_step 237 L st h).trans rfl
set_option maxRecDepth 100000 in
theorem eL_238 {d rk : Nat} {L st : List Value} {h : Hp} : EvI (EvM d) CL rk 238 L st h = (asI (lGet L 3) fun x => EvI (EvM d) CL rk 239 L (.int x :: st) h) := (Ev_step 238 L st h).trans rfl
set_option maxRecDepth 100000 in
theorem eL_239 {d rk : Nat} {L st : List Value} {h : Hp} : EvI (EvM d) CL rk 239 L st h = (EvI (EvM d) CL rk 240 L (.int 2 :: st) h) := (Ev_step 239 L st h).trans rfl
set_option maxRecDepth 100000 in
theorem eL_240 {d rk : Nat} {L st : List Value} {h : Hp} : EvI (EvM d) CL rk 240 L st h = (popI2 st fun x y s => EvI (EvM d) CL rk 241 L (.int (x + y) :: s) h) := (Ev_step 240 L st h).trans rfl
set_option maxRecDepth 100000 in
theorem eL_241 {d rk : Nat} {L st : List Value} {h : Hp} : EvI (EvM d) CL rk 241 L st h = (popI st fun i s => popR s fun r s => (ialdF h r i).bind fun x => EvI (EvM d) CL rk 242 L (.int x :: s) h) := (Ev_step 241 L st h).trans rfl
set_option maxRecDepth 100000 in
theorem eL_242 {d rk : Nat} {L st : List Value} {h : Hp} : EvI (EvM d) CL rk 242 L st h = (asR (lGet L 0) fun x => EvI (EvM d) CL rk 243 L (.ref x :: st) h) := (Ev_step 242 L st h).trans rfl
set_option maxRecDepth 100000 in
theorem eL_243 {d rk : Nat} {L st : List Value} {h : Hp} : EvI (EvM d) CL rk 243 L st h = (asI (lGet L 3) fun x => EvI (EvM d) CL rk 244 L (.int x :: st) h) := (Ev_step 243 L st h).trans rfl
set_option maxRecDepth 100000 in
theorem eL_244 {d rk : Nat} {L st : List Value} {h : Hp} : EvI (EvM d) CL rk 244 L st h = (EvI (EvM d) CL rk 245 L (.int 3 :: st) h) := (Ev_step 244 L st h).trans rfl
set_option maxRecDepth 100000 in
theorem eL_245 {d rk : Nat} {L st : List Value} {h : Hp} : EvI (EvM d) CL rk 245 L st h = (popI2 st fun x y s => EvI (EvM d) CL rk 246 L (.int (x + y) :: s) h) := (Ev_step 245 L st h).trans rfl
set_option maxRecDepth 100000 in
theorem eL_246 {d rk : Nat} {L st : List Value} {h : Hp} : EvI (EvM d) CL rk 246 L st h = (popI st fun i s => popR s fun r s => (ialdF h r i).bind fun x => EvI (EvM d) CL rk 247 L (.int x :: s) h) := (Ev_step 246 L st h).trans rfl
set_option maxRecDepth 100000 in
theorem eL_247 {d rk : Nat} {L st : List Value} {h : Hp} : EvI (EvM d) CL rk 247 L st h = (if 3 ≤ st.length then (popR (st.drop 3) fun r s => if clsB h r 8 = true ∧ catS s ≤ 8 then (EvM d 87 (.ref r :: (st.take 3).reverse) h).bind fun q => EvI (EvM d) CL rk 250 L (.int q.1 :: s) q.2 else none) else none) := (Ev_step 247 L st h).trans rfl
set_option maxRecDepth 100000 in
theorem eL_250 {d rk : Nat} {L st : List Value} {h : Hp} : EvI (EvM d) CL rk 250 L st h = (asR (lGet L 2) fun x => EvI (EvM d) CL rk 251 L (.ref x :: st) h) := (Ev_step 250 L st h).trans rfl
set_option maxRecDepth 100000 in
theorem eL_251 {d rk : Nat} {L st : List Value} {h : Hp} : EvI (EvM d) CL rk 251 L st h = (asR (lGet L 0) fun x => EvI (EvM d) CL rk 252 L (.ref x :: st) h) := (Ev_step 251 L st h).trans rfl
set_option maxRecDepth 100000 in
theorem eL_252 {d rk : Nat} {L st : List Value} {h : Hp} : EvI (EvM d) CL rk 252 L st h = (asI (lGet L 3) fun x => EvI (EvM d) CL rk 253 L (.int x :: st) h) := (Ev_step 252 L st h).trans rfl
set_option maxRecDepth 100000 in
theorem eL_253 {d rk : Nat} {L st : List Value} {h : Hp} : EvI (EvM d) CL rk 253 L st h = (EvI (EvM d) CL rk 254 L (.int 1 :: st) h) := (Ev_step 253 L st h).trans rfl
set_option maxRecDepth 100000 in
theorem eL_254 {d rk : Nat} {L st : List Value} {h : Hp} : EvI (EvM d) CL rk 254 L st h = (popI2 st fun x y s => EvI (EvM d) CL rk 255 L (.int (x + y) :: s) h) := (Ev_step 254 L st h).trans rfl
set_option maxRecDepth 100000 in
theorem eL_255 {d rk : Nat} {L st : List Value} {h : Hp} : EvI (EvM d) CL rk 255 L st h = (popI st fun i s => popR s fun r s => (ialdF h r i).bind fun x => EvI (EvM d) CL rk 256 L (.int x :: s) h) := (Ev_step 255 L st h).trans rfl
set_option maxRecDepth 100000 in
theorem eL_256 {d rk : Nat} {L st : List Value} {h : Hp} : EvI (EvM d) CL rk 256 L st h = (asR (lGet L 0) fun x => EvI (EvM d) CL rk 257 L (.ref x :: st) h) := (Ev_step 256 L st h).trans rfl
set_option maxRecDepth 100000 in
theorem eL_257 {d rk : Nat} {L st : List Value} {h : Hp} : EvI (EvM d) CL rk 257 L st h = (asI (lGet L 3) fun x => EvI (EvM d) CL rk 258 L (.int x :: st) h) := (Ev_step 257 L st h).trans rfl
set_option maxRecDepth 100000 in
theorem eL_258 {d rk : Nat} {L st : List Value} {h : Hp} : EvI (EvM d) CL rk 258 L st h = (EvI (EvM d) CL rk 259 L (.int 2 :: st) h) := (Ev_step 258 L st h).trans rfl
set_option maxRecDepth 100000 in
theorem eL_259 {d rk : Nat} {L st : List Value} {h : Hp} : EvI (EvM d) CL rk 259 L st h = (popI2 st fun x y s => EvI (EvM d) CL rk 260 L (.int (x + y) :: s) h) := (Ev_step 259 L st h).trans rfl
set_option maxRecDepth 100000 in
theorem eL_260 {d rk : Nat} {L st : List Value} {h : Hp} : EvI (EvM d) CL rk 260 L st h = (popI st fun i s => popR s fun r s => (ialdF h r i).bind fun x => EvI (EvM d) CL rk 261 L (.int x :: s) h) := (Ev_step 260 L st h).trans rfl
set_option maxRecDepth 100000 in
theorem eL_261 {d rk : Nat} {L st : List Value} {h : Hp} : EvI (EvM d) CL rk 261 L st h = (asR (lGet L 0) fun x => EvI (EvM d) CL rk 262 L (.ref x :: st) h) := (Ev_step 261 L st h).trans rfl
set_option maxRecDepth 100000 in
theorem eL_262 {d rk : Nat} {L st : List Value} {h : Hp} : EvI (EvM d) CL rk 262 L st h = (asI (lGet L 3) fun x => EvI (EvM d) CL rk 263 L (.int x :: st) h) := (Ev_step 262 L st h).trans rfl
set_option maxRecDepth 100000 in
theorem eL_263 {d rk : Nat} {L st : List Value} {h : Hp} : EvI (EvM d) CL rk 263 L st h = (EvI (EvM d) CL rk 264 L (.int 3 :: st) h) := (Ev_step 263 L st h).trans rfl
set_option maxRecDepth 100000 in
theorem eL_264 {d rk : Nat} {L st : List Value} {h : Hp} : EvI (EvM d) CL rk 264 L st h = (popI2 st fun x y s => EvI (EvM d) CL rk 265 L (.int (x + y) :: s) h) := (Ev_step 264 L st h).trans rfl
set_option maxRecDepth 100000 in
theorem eL_265 {d rk : Nat} {L st : List Value} {h : Hp} : EvI (EvM d) CL rk 265 L st h = (popI st fun i s => popR s fun r s => (ialdF h r i).bind fun x => EvI (EvM d) CL rk 266 L (.int x :: s) h) := (Ev_step 265 L st h).trans rfl
set_option maxRecDepth 100000 in
theorem eL_266 {d rk : Nat} {L st : List Value} {h : Hp} : EvI (EvM d) CL rk 266 L st h = (if 3 ≤ st.length then (popR (st.drop 3) fun r s => if clsB h r 9 = true ∧ catS s ≤ 8 then (EvM d 137 (.ref r :: (st.take 3).reverse) h).bind fun q => EvI (EvM d) CL rk 269 L (.int q.1 :: s) q.2 else none) else none) := (Ev_step 266 L st h).trans rfl
set_option maxRecDepth 100000 in
theorem eL_269 {d rk : Nat} {L st : List Value} {h : Hp} : EvI (EvM d) CL rk 269 L st h = (popI2 st fun x y s => if x = y then EvI (EvM d) CL rk 1383 L s h else EvI (EvM d) CL rk 272 L s h) := (Ev_step 269 L st h).trans rfl
set_option maxRecDepth 100000 in
theorem eL_272 {d rk : Nat} {L st : List Value} {h : Hp} : EvI (EvM d) CL rk 272 L st h = (EvI (EvM d) CL rk 273 L (.int 0 :: st) h) := (Ev_step 272 L st h).trans rfl
set_option maxRecDepth 100000 in
theorem eL_273 {d rk : Nat} {L st : List Value} {h : Hp} : EvI (EvM d) CL rk 273 L st h = (popI st fun v s => if s = [] ∧ okR rk v = true then some (v, h) else none) := (Ev_step 273 L st h).trans rfl
set_option maxRecDepth 100000 in
theorem eL_274 {d rk : Nat} {L st : List Value} {h : Hp} : EvI (EvM d) CL rk 274 L st h = (asR (lGet L 1) fun x => EvI (EvM d) CL rk 275 L (.ref x :: st) h) := (Ev_step 274 L st h).trans rfl
set_option maxRecDepth 100000 in
theorem eL_275 {d rk : Nat} {L st : List Value} {h : Hp} : EvI (EvM d) CL rk 275 L st h = (asR (lGet L 0) fun x => EvI (EvM d) CL rk 276 L (.ref x :: st) h) := (Ev_step 275 L st h).trans rfl
set_option maxRecDepth 100000 in
theorem eL_276 {d rk : Nat} {L st : List Value} {h : Hp} : EvI (EvM d) CL rk 276 L st h = (asI (lGet L 3) fun x => EvI (EvM d) CL rk 277 L (.int x :: st) h) := (Ev_step 276 L st h).trans rfl
set_option maxRecDepth 100000 in
theorem eL_277 {d rk : Nat} {L st : List Value} {h : Hp} : EvI (EvM d) CL rk 277 L st h = (EvI (EvM d) CL rk 278 L (.int 1 :: st) h) := (Ev_step 277 L st h).trans rfl
set_option maxRecDepth 100000 in
theorem eL_278 {d rk : Nat} {L st : List Value} {h : Hp} : EvI (EvM d) CL rk 278 L st h = (popI2 st fun x y s => EvI (EvM d) CL rk 279 L (.int (x + y) :: s) h) := (Ev_step 278 L st h).trans rfl
set_option maxRecDepth 100000 in
theorem eL_279 {d rk : Nat} {L st : List Value} {h : Hp} : EvI (EvM d) CL rk 279 L st h = (popI st fun i s => popR s fun r s => (ialdF h r i).bind fun x => EvI (EvM d) CL rk 280 L (.int x :: s) h) := (Ev_step 279 L st h).trans rfl
set_option maxRecDepth 100000 in
theorem eL_280 {d rk : Nat} {L st : List Value} {h : Hp} : EvI (EvM d) CL rk 280 L st h = (asR (lGet L 0) fun x => EvI (EvM d) CL rk 281 L (.ref x :: st) h) := (Ev_step 280 L st h).trans rfl
set_option maxRecDepth 100000 in
theorem eL_281 {d rk : Nat} {L st : List Value} {h : Hp} : EvI (EvM d) CL rk 281 L st h = (asI (lGet L 3) fun x => EvI (EvM d) CL rk 282 L (.int x :: st) h) := (Ev_step 281 L st h).trans rfl
set_option maxRecDepth 100000 in
theorem eL_282 {d rk : Nat} {L st : List Value} {h : Hp} : EvI (EvM d) CL rk 282 L st h = (EvI (EvM d) CL rk 283 L (.int 2 :: st) h) := (Ev_step 282 L st h).trans rfl
set_option maxRecDepth 100000 in
theorem eL_283 {d rk : Nat} {L st : List Value} {h : Hp} : EvI (EvM d) CL rk 283 L st h = (popI2 st fun x y s => EvI (EvM d) CL rk 284 L (.int (x + y) :: s) h) := (Ev_step 283 L st h).trans rfl
set_option maxRecDepth 100000 in
theorem eL_284 {d rk : Nat} {L st : List Value} {h : Hp} : EvI (EvM d) CL rk 284 L st h = (popI st fun i s => popR s fun r s => (ialdF h r i).bind fun x => EvI (EvM d) CL rk 285 L (.int x :: s) h) := (Ev_step 284 L st h).trans rfl
set_option maxRecDepth 100000 in
theorem eL_285 {d rk : Nat} {L st : List Value} {h : Hp} : EvI (EvM d) CL rk 285 L st h = (asR (lGet L 0) fun x => EvI (EvM d) CL rk 286 L (.ref x :: st) h) := (Ev_step 285 L st h).trans rfl
set_option maxRecDepth 100000 in
theorem eL_286 {d rk : Nat} {L st : List Value} {h : Hp} : EvI (EvM d) CL rk 286 L st h = (asI (lGet L 3) fun x => EvI (EvM d) CL rk 287 L (.int x :: st) h) := (Ev_step 286 L st h).trans rfl
set_option maxRecDepth 100000 in
theorem eL_287 {d rk : Nat} {L st : List Value} {h : Hp} : EvI (EvM d) CL rk 287 L st h = (EvI (EvM d) CL rk 288 L (.int 3 :: st) h) := (Ev_step 287 L st h).trans rfl
set_option maxRecDepth 100000 in
theorem eL_288 {d rk : Nat} {L st : List Value} {h : Hp} : EvI (EvM d) CL rk 288 L st h = (popI2 st fun x y s => EvI (EvM d) CL rk 289 L (.int (x + y) :: s) h) := (Ev_step 288 L st h).trans rfl
set_option maxRecDepth 100000 in
theorem eL_289 {d rk : Nat} {L st : List Value} {h : Hp} : EvI (EvM d) CL rk 289 L st h = (popI st fun i s => popR s fun r s => (ialdF h r i).bind fun x => EvI (EvM d) CL rk 290 L (.int x :: s) h) := (Ev_step 289 L st h).trans rfl
set_option maxRecDepth 100000 in
theorem eL_290 {d rk : Nat} {L st : List Value} {h : Hp} : EvI (EvM d) CL rk 290 L st h = (asR (lGet L 0) fun x => EvI (EvM d) CL rk 291 L (.ref x :: st) h) := (Ev_step 290 L st h).trans rfl
set_option maxRecDepth 100000 in
theorem eL_291 {d rk : Nat} {L st : List Value} {h : Hp} : EvI (EvM d) CL rk 291 L st h = (asI (lGet L 3) fun x => EvI (EvM d) CL rk 292 L (.int x :: st) h) := (Ev_step 291 L st h).trans rfl
set_option maxRecDepth 100000 in
theorem eL_292 {d rk : Nat} {L st : List Value} {h : Hp} : EvI (EvM d) CL rk 292 L st h = (EvI (EvM d) CL rk 293 L (.int 4 :: st) h) := (Ev_step 292 L st h).trans rfl
set_option maxRecDepth 100000 in
theorem eL_293 {d rk : Nat} {L st : List Value} {h : Hp} : EvI (EvM d) CL rk 293 L st h = (popI2 st fun x y s => EvI (EvM d) CL rk 294 L (.int (x + y) :: s) h) := (Ev_step 293 L st h).trans rfl
set_option maxRecDepth 100000 in
theorem eL_294 {d rk : Nat} {L st : List Value} {h : Hp} : EvI (EvM d) CL rk 294 L st h = (popI st fun i s => popR s fun r s => (ialdF h r i).bind fun x => EvI (EvM d) CL rk 295 L (.int x :: s) h) := (Ev_step 294 L st h).trans rfl
set_option maxRecDepth 100000 in
theorem eL_295 {d rk : Nat} {L st : List Value} {h : Hp} : EvI (EvM d) CL rk 295 L st h = (asR (lGet L 0) fun x => EvI (EvM d) CL rk 296 L (.ref x :: st) h) := (Ev_step 295 L st h).trans rfl
set_option maxRecDepth 100000 in
theorem eL_296 {d rk : Nat} {L st : List Value} {h : Hp} : EvI (EvM d) CL rk 296 L st h = (asI (lGet L 3) fun x => EvI (EvM d) CL rk 297 L (.int x :: st) h) := (Ev_step 296 L st h).trans rfl
set_option maxRecDepth 100000 in
theorem eL_297 {d rk : Nat} {L st : List Value} {h : Hp} : EvI (EvM d) CL rk 297 L st h = (EvI (EvM d) CL rk 298 L (.int 5 :: st) h) := (Ev_step 297 L st h).trans rfl
set_option maxRecDepth 100000 in
theorem eL_298 {d rk : Nat} {L st : List Value} {h : Hp} : EvI (EvM d) CL rk 298 L st h = (popI2 st fun x y s => EvI (EvM d) CL rk 299 L (.int (x + y) :: s) h) := (Ev_step 298 L st h).trans rfl
set_option maxRecDepth 100000 in
theorem eL_299 {d rk : Nat} {L st : List Value} {h : Hp} : EvI (EvM d) CL rk 299 L st h = (popI st fun i s => popR s fun r s => (ialdF h r i).bind fun x => EvI (EvM d) CL rk 300 L (.int x :: s) h) := (Ev_step 299 L st h).trans rfl
set_option maxRecDepth 100000 in
theorem eL_300 {d rk : Nat} {L st : List Value} {h : Hp} : EvI (EvM d) CL rk 300 L st h = (if 5 ≤ st.length then (popR (st.drop 5) fun r s => if clsB h r 8 = true ∧ catS s ≤ 8 then (EvM d 88 (.ref r :: (st.take 5).reverse) h).bind fun q => EvI (EvM d) CL rk 303 L (.int q.1 :: s) q.2 else none) else none) := (Ev_step 300 L st h).trans rfl
set_option maxRecDepth 100000 in
theorem eL_303 {d rk : Nat} {L st : List Value} {h : Hp} : EvI (EvM d) CL rk 303 L st h = (asR (lGet L 2) fun x => EvI (EvM d) CL rk 304 L (.ref x :: st) h) := (Ev_step 303 L st h).trans rfl
set_option maxRecDepth 100000 in
theorem eL_304 {d rk : Nat} {L st : List Value} {h : Hp} : EvI (EvM d) CL rk 304 L st h = (asR (lGet L 0) fun x => EvI (EvM d) CL rk 305 L (.ref x :: st) h) := (Ev_step 304 L st h).trans rfl
set_option maxRecDepth 100000 in
theorem eL_305 {d rk : Nat} {L st : List Value} {h : Hp} : EvI (EvM d) CL rk 305 L st h = (asI (lGet L 3) fun x => EvI (EvM d) CL rk 306 L (.int x :: st) h) := (Ev_step 305 L st h).trans rfl
set_option maxRecDepth 100000 in
theorem eL_306 {d rk : Nat} {L st : List Value} {h : Hp} : EvI (EvM d) CL rk 306 L st h = (EvI (EvM d) CL rk 307 L (.int 1 :: st) h) := (Ev_step 306 L st h).trans rfl
set_option maxRecDepth 100000 in
theorem eL_307 {d rk : Nat} {L st : List Value} {h : Hp} : EvI (EvM d) CL rk 307 L st h = (popI2 st fun x y s => EvI (EvM d) CL rk 308 L (.int (x + y) :: s) h) := (Ev_step 307 L st h).trans rfl
set_option maxRecDepth 100000 in
theorem eL_308 {d rk : Nat} {L st : List Value} {h : Hp} : EvI (EvM d) CL rk 308 L st h = (popI st fun i s => popR s fun r s => (ialdF h r i).bind fun x => EvI (EvM d) CL rk 309 L (.int x :: s) h) := (Ev_step 308 L st h).trans rfl
set_option maxRecDepth 100000 in
theorem eL_309 {d rk : Nat} {L st : List Value} {h : Hp} : EvI (EvM d) CL rk 309 L st h = (asR (lGet L 0) fun x => EvI (EvM d) CL rk 310 L (.ref x :: st) h) := (Ev_step 309 L st h).trans rfl
set_option maxRecDepth 100000 in
theorem eL_310 {d rk : Nat} {L st : List Value} {h : Hp} : EvI (EvM d) CL rk 310 L st h = (asI (lGet L 3) fun x => EvI (EvM d) CL rk 311 L (.int x :: st) h) := (Ev_step 310 L st h).trans rfl
set_option maxRecDepth 100000 in
theorem eL_311 {d rk : Nat} {L st : List Value} {h : Hp} : EvI (EvM d) CL rk 311 L st h = (EvI (EvM d) CL rk 312 L (.int 2 :: st) h) := (Ev_step 311 L st h).trans rfl
set_option maxRecDepth 100000 in
theorem eL_312 {d rk : Nat} {L st : List Value} {h : Hp} : EvI (EvM d) CL rk 312 L st h = (popI2 st fun x y s => EvI (EvM d) CL rk 313 L (.int (x + y) :: s) h) := (Ev_step 312 L st h).trans rfl
set_option maxRecDepth 100000 in
theorem eL_313 {d rk : Nat} {L st : List Value} {h : Hp} : EvI (EvM d) CL rk 313 L st h = (popI st fun i s => popR s fun r s => (ialdF h r i).bind fun x => EvI (EvM d) CL rk 314 L (.int x :: s) h) := (Ev_step 313 L st h).trans rfl
set_option maxRecDepth 100000 in
theorem eL_314 {d rk : Nat} {L st : List Value} {h : Hp} : EvI (EvM d) CL rk 314 L st h = (asR (lGet L 0) fun x => EvI (EvM d) CL rk 315 L (.ref x :: st) h) := (Ev_step 314 L st h).trans rfl
set_option maxRecDepth 100000 in
theorem eL_315 {d rk : Nat} {L st : List Value} {h : Hp} : EvI (EvM d) CL rk 315 L st h = (asI (lGet L 3) fun x => EvI (EvM d) CL rk 316 L (.int x :: st) h) := (Ev_step 315 L st h).trans rfl
set_option maxRecDepth 100000 in
theorem eL_316 {d rk : Nat} {L st : List Value} {h : Hp} : EvI (EvM d) CL rk 316 L st h = (EvI (EvM d) CL rk 317 L (.int 3 :: st) h) := (Ev_step 316 L st h).trans rfl
set_option maxRecDepth 100000 in
theorem eL_317 {d rk : Nat} {L st : List Value} {h : Hp} : EvI (EvM d) CL rk 317 L st h = (popI2 st fun x y s => EvI (EvM d) CL rk 318 L (.int (x + y) :: s) h) := (Ev_step 317 L st h).trans rfl
set_option maxRecDepth 100000 in
theorem eL_318 {d rk : Nat} {L st : List Value} {h : Hp} : EvI (EvM d) CL rk 318 L st h = (popI st fun i s => popR s fun r s => (ialdF h r i).bind fun x => EvI (EvM d) CL rk 319 L (.int x :: s) h) := (Ev_step 318 L st h).trans rfl
set_option maxRecDepth 100000 in
theorem eL_319 {d rk : Nat} {L st : List Value} {h : Hp} : EvI (EvM d) CL rk 319 L st h = (asR (lGet L 0) fun x => EvI (EvM d) CL rk 320 L (.ref x :: st) h) := (Ev_step 319 L st h).trans rfl
set_option maxRecDepth 100000 in
theorem eL_320 {d rk : Nat} {L st : List Value} {h : Hp} : EvI (EvM d) CL rk 320 L st h = (asI (lGet L 3) fun x => EvI (EvM d) CL rk 321 L (.int x :: st) h) := (Ev_step 320 L st h).trans rfl
set_option maxRecDepth 100000 in
theorem eL_321 {d rk : Nat} {L st : List Value} {h : Hp} : EvI (EvM d) CL rk 321 L st h = (EvI (EvM d) CL rk 322 L (.int 4 :: st) h) := (Ev_step 321 L st h).trans rfl
set_option maxRecDepth 100000 in
theorem eL_322 {d rk : Nat} {L st : List Value} {h : Hp} : EvI (EvM d) CL rk 322 L st h = (popI2 st fun x y s => EvI (EvM d) CL rk 323 L (.int (x + y) :: s) h) := (Ev_step 322 L st h).trans rfl
set_option maxRecDepth 100000 in
theorem eL_323 {d rk : Nat} {L st : List Value} {h : Hp} : EvI (EvM d) CL rk 323 L st h = (popI st fun i s => popR s fun r s => (ialdF h r i).bind fun x => EvI (EvM d) CL rk 324 L (.int x :: s) h) := (Ev_step 323 L st h).trans rfl
set_option maxRecDepth 100000 in
theorem eL_324 {d rk : Nat} {L st : List Value} {h : Hp} : EvI (EvM d) CL rk 324 L st h = (asR (lGet L 0) fun x => EvI (EvM d) CL rk 325 L (.ref x :: st) h) := (Ev_step 324 L st h).trans rfl
set_option maxRecDepth 100000 in
theorem eL_325 {d rk : Nat} {L st : List Value} {h : Hp} : EvI (EvM d) CL rk 325 L st h = (asI (lGet L 3) fun x => EvI (EvM d) CL rk 326 L (.int x :: st) h) := (Ev_step 325 L st h).trans rfl
set_option maxRecDepth 100000 in
theorem eL_326 {d rk : Nat} {L st : List Value} {h : Hp} : EvI (EvM d) CL rk 326 L st h = (EvI (EvM d) CL rk 327 L (.int 5 :: st) h) := (Ev_step 326 L st h).trans rfl
set_option maxRecDepth 100000 in
theorem eL_327 {d rk : Nat} {L st : List Value} {h : Hp} : EvI (EvM d) CL rk 327 L st h = (popI2 st fun x y s => EvI (EvM d) CL rk 328 L (.int (x + y) :: s) h) := (Ev_step 327 L st h).trans rfl
set_option maxRecDepth 100000 in
theorem eL_328 {d rk : Nat} {L st : List Value} {h : Hp} : EvI (EvM d) CL rk 328 L st h = (popI st fun i s => popR s fun r s => (ialdF h r i).bind fun x => EvI (EvM d) CL rk 329 L (.int x :: s) h) := (Ev_step 328 L st h).trans rfl
set_option maxRecDepth 100000 in
theorem eL_329 {d rk : Nat} {L st : List Value} {h : Hp} : EvI (EvM d) CL rk 329 L st h = (if 5 ≤ st.length then (popR (st.drop 5) fun r s => if clsB h r 9 = true ∧ catS s ≤ 8 then (EvM d 139 (.ref r :: (st.take 5).reverse) h).bind fun q => EvI (EvM d) CL rk 332 L (.int q.1 :: s) q.2 else none) else none) := (Ev_step 329 L st h).trans rfl
set_option maxRecDepth 100000 in
theorem eL_332 {d rk : Nat} {L st : List Value} {h : Hp} : EvI (EvM d) CL rk 332 L st h = (popI2 st fun x y s => if x = y then EvI (EvM d) CL rk 1383 L s h else EvI (EvM d) CL rk 335 L s h) := (Ev_step 332 L st h).trans rfl
set_option maxRecDepth 100000 in
theorem eL_335 {d rk : Nat} {L st : List Value} {h : Hp} : EvI (EvM d) CL rk 335 L st h = (EvI (EvM d) CL rk 336 L (.int 0 :: st) h) := (Ev_step 335 L st h).trans rfl
set_option maxRecDepth 100000 in
theorem eL_336 {d rk : Nat} {L st : List Value} {h : Hp} : EvI (EvM d) CL rk 336 L st h = (popI st fun v s => if s = [] ∧ okR rk v = true then some (v, h) else none) := (Ev_step 336 L st h).trans rfl
set_option maxRecDepth 100000 in
theorem eL_337 {d rk : Nat} {L st : List Value} {h : Hp} : EvI (EvM d) CL rk 337 L st h = (asR (lGet L 1) fun x => EvI (EvM d) CL rk 338 L (.ref x :: st) h) := (Ev_step 337 L st h).trans rfl
set_option maxRecDepth 100000 in
theorem eL_338 {d rk : Nat} {L st : List Value} {h : Hp} : EvI (EvM d) CL rk 338 L st h = (asR (lGet L 0) fun x => EvI (EvM d) CL rk 339 L (.ref x :: st) h) := (Ev_step 338 L st h).trans rfl
set_option maxRecDepth 100000 in
theorem eL_339 {d rk : Nat} {L st : List Value} {h : Hp} : EvI (EvM d) CL rk 339 L st h = (asI (lGet L 3) fun x => EvI (EvM d) CL rk 340 L (.int x :: st) h) := (Ev_step 339 L st h).trans rfl
set_option maxRecDepth 100000 in
theorem eL_340 {d rk : Nat} {L st : List Value} {h : Hp} : EvI (EvM d) CL rk 340 L st h = (EvI (EvM d) CL rk 341 L (.int 1 :: st) h) := (Ev_step 340 L st h).trans rfl
set_option maxRecDepth 100000 in
theorem eL_341 {d rk : Nat} {L st : List Value} {h : Hp} : EvI (EvM d) CL rk 341 L st h = (popI2 st fun x y s => EvI (EvM d) CL rk 342 L (.int (x + y) :: s) h) := (Ev_step 341 L st h).trans rfl
set_option maxRecDepth 100000 in
theorem eL_342 {d rk : Nat} {L st : List Value} {h : Hp} : EvI (EvM d) CL rk 342 L st h = (popI st fun i s => popR s fun r s => (ialdF h r i).bind fun x => EvI (EvM d) CL rk 343 L (.int x :: s) h) := (Ev_step 342 L st h).trans rfl
set_option maxRecDepth 100000 in
theorem eL_343 {d rk : Nat} {L st : List Value} {h : Hp} : EvI (EvM d) CL rk 343 L st h = (if 1 ≤ st.length then (popR (st.drop 1) fun r s => if clsB h r 8 = true ∧ catS s ≤ 8 then (EvM d 89 (.ref r :: (st.take 1).reverse) h).bind fun q => EvI (EvM d) CL rk 346 L (.int q.1 :: s) q.2 else none) else none) := (Ev_step 343 L st h).trans rfl
set_option maxRecDepth 100000 in
theorem eL_346 {d rk : Nat} {L st : List Value} {h : Hp} : EvI (EvM d) CL rk 346 L st h = (asR (lGet L 2) fun x => EvI (EvM d) CL rk 347 L (.ref x :: st) h) := (Ev_step 346 L st h).trans rfl
set_option maxRecDepth 100000 in
theorem eL_347 {d rk : Nat} {L st : List Value} {h : Hp} : EvI (EvM d) CL rk 347 L st h = (asR (lGet L 0) fun x => EvI (EvM d) CL rk 348 L (.ref x :: st) h) := (Ev_step 347 L st h).trans rfl
set_option maxRecDepth 100000 in
theorem eL_348 {d rk : Nat} {L st : List Value} {h : Hp} : EvI (EvM d) CL rk 348 L st h = (asI (lGet L 3) fun x => EvI (EvM d) CL rk 349 L (.int x :: st) h) := (Ev_step 348 L st h).trans rfl
set_option maxRecDepth 100000 in
theorem eL_349 {d rk : Nat} {L st : List Value} {h : Hp} : EvI (EvM d) CL rk 349 L st h = (EvI (EvM d) CL rk 350 L (.int 1 :: st) h) := (Ev_step 349 L st h).trans rfl
set_option maxRecDepth 100000 in
theorem eL_350 {d rk : Nat} {L st : List Value} {h : Hp} : EvI (EvM d) CL rk 350 L st h = (popI2 st fun x y s => EvI (EvM d) CL rk 351 L (.int (x + y) :: s) h) := (Ev_step 350 L st h).trans rfl
set_option maxRecDepth 100000 in
theorem eL_351 {d rk : Nat} {L st : List Value} {h : Hp} : EvI (EvM d) CL rk 351 L st h = (popI st fun i s => popR s fun r s => (ialdF h r i).bind fun x => EvI (EvM d) CL rk 352 L (.int x :: s) h) := (Ev_step 351 L st h).trans rfl
set_option maxRecDepth 100000 in
theorem eL_352 {d rk : Nat} {L st : List Value} {h : Hp} : EvI (EvM d) CL rk 352 L st h = (if 1 ≤ st.length then (popR (st.drop 1) fun r s => if clsB h r 9 = true ∧ catS s ≤ 8 then (EvM d 140 (.ref r :: (st.take 1).reverse) h).bind fun q => EvI (EvM d) CL rk 355 L (.int q.1 :: s) q.2 else none) else none) := (Ev_step 352 L st h).trans rfl
set_option maxRecDepth 100000 in
theorem eL_355 {d rk : Nat} {L st : List Value} {h : Hp} : EvI (EvM d) CL rk 355 L st h = (popI2 st fun x y s => if x = y then EvI (EvM d) CL rk 1383 L s h else EvI (EvM d) CL rk 358 L s h) := (Ev_step 355 L st h).trans rfl
set_option maxRecDepth 100000 in
theorem eL_358 {d rk : Nat} {L st : List Value} {h : Hp} : EvI (EvM d) CL rk 358 L st h = (EvI (EvM d) CL rk 359 L (.int 0 :: st) h) := (Ev_step 358 L st h).trans rfl
set_option maxRecDepth 100000 in
theorem eL_359 {d rk : Nat} {L st : List Value} {h : Hp} : EvI (EvM d) CL rk 359 L st h = (popI st fun v s => if s = [] ∧ okR rk v = true then some (v, h) else none) := (Ev_step 359 L st h).trans rfl
set_option maxRecDepth 100000 in
theorem eL_360 {d rk : Nat} {L st : List Value} {h : Hp} : EvI (EvM d) CL rk 360 L st h = (asR (lGet L 1) fun x => EvI (EvM d) CL rk 361 L (.ref x :: st) h) := (Ev_step 360 L st h).trans rfl
set_option maxRecDepth 100000 in
theorem eL_361 {d rk : Nat} {L st : List Value} {h : Hp} : EvI (EvM d) CL rk 361 L st h = (asR (lGet L 0) fun x => EvI (EvM d) CL rk 362 L (.ref x :: st) h) := (Ev_step 361 L st h).trans rfl
set_option maxRecDepth 100000 in
theorem eL_362 {d rk : Nat} {L st : List Value} {h : Hp} : EvI (EvM d) CL rk 362 L st h = (asI (lGet L 3) fun x => EvI (EvM d) CL rk 363 L (.int x :: st) h) := (Ev_step 362 L st h).trans rfl
set_option maxRecDepth 100000 in
theorem eL_363 {d rk : Nat} {L st : List Value} {h : Hp} : EvI (EvM d) CL rk 363 L st h = (EvI (EvM d) CL rk 364 L (.int 1 :: st) h) := (Ev_step 363 L st h).trans rfl
set_option maxRecDepth 100000 in
theorem eL_364 {d rk : Nat} {L st : List Value} {h : Hp} : EvI (EvM d) CL rk 364 L st h = (popI2 st fun x y s => EvI (EvM d) CL rk 365 L (.int (x + y) :: s) h) := (Ev_step 364 L st h).trans rfl
set_option maxRecDepth 100000 in
theorem eL_365 {d rk : Nat} {L st : List Value} {h : Hp} : EvI (EvM d) CL rk 365 L st h = (popI st fun i s => popR s fun r s => (ialdF h r i).bind fun x => EvI (EvM d) CL rk 366 L (.int x :: s) h) := (Ev_step 365 L st h).trans rfl
set_option maxRecDepth 100000 in
theorem eL_366 {d rk : Nat} {L st : List Value} {h : Hp} : EvI (EvM d) CL rk 366 L st h = (if 1 ≤ st.length then (popR (st.drop 1) fun r s => if clsB h r 8 = true ∧ catS s ≤ 8 then (EvM d 90 (.ref r :: (st.take 1).reverse) h).bind fun q => EvI (EvM d) CL rk 369 L (.int q.1 :: s) q.2 else none) else none) := (Ev_step 366 L st h).trans rfl
set_option maxRecDepth 100000 in
theorem eL_369 {d rk : Nat} {L st : List Value} {h : Hp} : EvI (EvM d) CL rk 369 L st h = (asR (lGet L 2) fun x => EvI (EvM d) CL rk 370 L (.ref x :: st) h) := (Ev_step 369 L st h).trans rfl
set_option maxRecDepth 100000 in
theorem eL_370 {d rk : Nat} {L st : List Value} {h : Hp} : EvI (EvM d) CL rk 370 L st h = (asR (lGet L 0) fun x => EvI (EvM d) CL rk 371 L (.ref x :: st) h) := (Ev_step 370 L st h).trans rfl
set_option maxRecDepth 100000 in
theorem eL_371 {d rk : Nat} {L st : List Value} {h : Hp} : EvI (EvM d) CL rk 371 L st h = (asI (lGet L 3) fun x => EvI (EvM d) CL rk 372 L (.int x :: st) h) := (Ev_step 371 L st h).trans rfl
set_option maxRecDepth 100000 in
theorem eL_372 {d rk : Nat} {L st : List Value} {h : Hp} : EvI (EvM d) CL rk 372 L st h = (EvI (EvM d) CL rk 373 L (.int 1 :: st) h) := (Ev_step 372 L st h).trans rfl
set_option maxRecDepth 100000 in
theorem eL_373 {d rk : Nat} {L st : List Value} {h : Hp} : EvI (EvM d) CL rk 373 L st h = (popI2 st fun x y s => EvI (EvM d) CL rk 374 L (.int (x + y) :: s) h) := (Ev_step 373 L st h).trans rfl
set_option maxRecDepth 100000 in
theorem eL_374 {d rk : Nat} {L st : List Value} {h : Hp} : EvI (EvM d) CL rk 374 L st h = (popI st fun i s => popR s fun r s => (ialdF h r i).bind fun x => EvI (EvM d) CL rk 375 L (.int x :: s) h) := (Ev_step 374 L st h).trans rfl
set_option maxRecDepth 100000 in
theorem eL_375 {d rk : Nat} {L st : List Value} {h : Hp} : EvI (EvM d) CL rk 375 L st h = (if 1 ≤ st.length then (popR (st.drop 1) fun r s => if clsB h r 9 = true ∧ catS s ≤ 8 then (EvM d 141 (.ref r :: (st.take 1).reverse) h).bind fun q => EvI (EvM d) CL rk 378 L (.int q.1 :: s) q.2 else none) else none) := (Ev_step 375 L st h).trans rfl
set_option maxRecDepth 100000 in
theorem eL_378 {d rk : Nat} {L st : List Value} {h : Hp} : EvI (EvM d) CL rk 378 L st h = (popI2 st fun x y s => if x = y then EvI (EvM d) CL rk 1383 L s h else EvI (EvM d) CL rk 381 L s h) := (Ev_step 378 L st h).trans rfl
set_option maxRecDepth 100000 in
theorem eL_381 {d rk : Nat} {L st : List Value} {h : Hp} : EvI (EvM d) CL rk 381 L st h = (EvI (EvM d) CL rk 382 L (.int 0 :: st) h) := (Ev_step 381 L st h).trans rfl
set_option maxRecDepth 100000 in
theorem eL_382 {d rk : Nat} {L st : List Value} {h : Hp} : EvI (EvM d) CL rk 382 L st h = (popI st fun v s => if s = [] ∧ okR rk v = true then some (v, h) else none) := (Ev_step 382 L st h).trans rfl
set_option maxRecDepth 100000 in
theorem eL_383 {d rk : Nat} {L st : List Value} {h : Hp} : EvI (EvM d) CL rk 383 L st h = (asR (lGet L 1) fun x => EvI (EvM d) CL rk 384 L (.ref x :: st) h) := (Ev_step 383 L st h).trans rfl
set_option maxRecDepth 100000 in
theorem eL_384 {d rk : Nat} {L st : List Value} {h : Hp} : EvI (EvM d) CL rk 384 L st h = (if 0 ≤ st.length then (popR (st.drop 0) fun r s => if clsB h r 8 = true ∧ catS s ≤ 8 then (EvM d 91 (.ref r :: (st.take 0).reverse) h).bind fun q => EvI (EvM d) CL rk 387 L (.int q.1 :: s) q.2 else none) else none) := (Ev_step 384 L st h).trans rfl
set_option maxRecDepth 100000 in
theorem eL_387 {d rk : Nat} {L st : List Value} {h : Hp} : EvI (EvM d) CL rk 387 L st h = (asR (lGet L 2) fun x => EvI (EvM d) CL rk 388 L (.ref x :: st) h) := (Ev_step 387 L st h).trans rfl
set_option maxRecDepth 100000 in
theorem eL_388 {d rk : Nat} {L st : List Value} {h : Hp} : EvI (EvM d) CL rk 388 L st h = (if 0 ≤ st.length then (popR (st.drop 0) fun r s => if clsB h r 9 = true ∧ catS s ≤ 8 then (EvM d 149 (.ref r :: (st.take 0).reverse) h).bind fun q => EvI (EvM d) CL rk 391 L (.int q.1 :: s) q.2 else none) else none) := (Ev_step 388 L st h).trans rfl
set_option maxRecDepth 100000 in
theorem eL_391 {d rk : Nat} {L st : List Value} {h : Hp} : EvI (EvM d) CL rk 391 L st h = (popI2 st fun x y s => if x = y then EvI (EvM d) CL rk 1383 L s h else EvI (EvM d) CL rk 394 L s h) := (Ev_step 391 L st h).trans rfl
set_option maxRecDepth 100000 in
theorem eL_394 {d rk : Nat} {L st : List Value} {h : Hp} : EvI (EvM d) CL rk 394 L st h = (EvI (EvM d) CL rk 395 L (.int 0 :: st) h) := (Ev_step 394 L st h).trans rfl
set_option maxRecDepth 100000 in
theorem eL_395 {d rk : Nat} {L st : List Value} {h : Hp} : EvI (EvM d) CL rk 395 L st h = (popI st fun v s => if s = [] ∧ okR rk v = true then some (v, h) else none) := (Ev_step 395 L st h).trans rfl
set_option maxRecDepth 100000 in
theorem eL_396 {d rk : Nat} {L st : List Value} {h : Hp} : EvI (EvM d) CL rk 396 L st h = (asR (lGet L 1) fun x => EvI (EvM d) CL rk 397 L (.ref x :: st) h) := (Ev_step 396 L st h).trans rfl
set_option maxRecDepth 100000 in
theorem eL_397 {d rk : Nat} {L st : List Value} {h : Hp} : EvI (EvM d) CL rk 397 L st h = (if 0 ≤ st.length then (popR (st.drop 0) fun r s => if clsB h r 8 = true ∧ catS s ≤ 8 then (EvM d 92 (.ref r :: (st.take 0).reverse) h).bind fun q => EvI (EvM d) CL rk 400 L (.int q.1 :: s) q.2 else none) else none) := (Ev_step 397 L st h).trans rfl
set_option maxRecDepth 100000 in
theorem eL_400 {d rk : Nat} {L st : List Value} {h : Hp} : EvI (EvM d) CL rk 400 L st h = (asR (lGet L 2) fun x => EvI (EvM d) CL rk 401 L (.ref x :: st) h) := (Ev_step 400 L st h).trans rfl
set_option maxRecDepth 100000 in
theorem eL_401 {d rk : Nat} {L st : List Value} {h : Hp} : EvI (EvM d) CL rk 401 L st h = (if 0 ≤ st.length then (popR (st.drop 0) fun r s => if clsB h r 9 = true ∧ catS s ≤ 8 then (EvM d 150 (.ref r :: (st.take 0).reverse) h).bind fun q => EvI (EvM d) CL rk 404 L (.int q.1 :: s) q.2 else none) else none) := (Ev_step 401 L st h).trans rfl
set_option maxRecDepth 100000 in
theorem eL_404 {d rk : Nat} {L st : List Value} {h : Hp} : EvI (EvM d) CL rk 404 L st h = (popI2 st fun x y s => if x = y then EvI (EvM d) CL rk 1383 L s h else EvI (EvM d) CL rk 407 L s h) := (Ev_step 404 L st h).trans rfl
set_option maxRecDepth 100000 in
theorem eL_407 {d rk : Nat} {L st : List Value} {h : Hp} : EvI (EvM d) CL rk 407 L st h = (EvI (EvM d) CL rk 408 L (.int 0 :: st) h) := (Ev_step 407 L st h).trans rfl
set_option maxRecDepth 100000 in
theorem eL_408 {d rk : Nat} {L st : List Value} {h : Hp} : EvI (EvM d) CL rk 408 L st h = (popI st fun v s => if s = [] ∧ okR rk v = true then some (v, h) else none) := (Ev_step 408 L st h).trans rfl
set_option maxRecDepth 100000 in
theorem eL_409 {d rk : Nat} {L st : List Value} {h : Hp} : EvI (EvM d) CL rk 409 L st h = (asR (lGet L 1) fun x => EvI (EvM d) CL rk 410 L (.ref x :: st) h) := (Ev_step 409 L st h).trans rfl
set_option maxRecDepth 100000 in
theorem eL_410 {d rk : Nat} {L st : List Value} {h : Hp} : EvI (EvM d) CL rk 410 L st h = (if 0 ≤ st.length then (popR (st.drop 0) fun r s => if clsB h r 8 = true ∧ catS s ≤ 8 then (EvM d 93 (.ref r :: (st.take 0).reverse) h).bind fun q => EvI (EvM d) CL rk 413 L (.int q.1 :: s) q.2 else none) else none) := (Ev_step 410 L st h).trans rfl
set_option maxRecDepth 100000 in
theorem eL_413 {d rk : Nat} {L st : List Value} {h : Hp} : EvI (EvM d) CL rk 413 L st h = (asR (lGet L 2) fun x => EvI (EvM d) CL rk 414 L (.ref x :: st) h) := (Ev_step 413 L st h).trans rfl
set_option maxRecDepth 100000 in
theorem eL_414 {d rk : Nat} {L st : List Value} {h : Hp} : EvI (EvM d) CL rk 414 L st h = (if 0 ≤ st.length then (popR (st.drop 0) fun r s => if clsB h r 9 = true ∧ catS s ≤ 8 then (EvM d 162 (.ref r :: (st.take 0).reverse) h).bind fun q => EvI (EvM d) CL rk 417 L (.int q.1 :: s) q.2 else none) else none) := (Ev_step 414 L st h).trans rfl
set_option maxRecDepth 100000 in
theorem eL_417 {d rk : Nat} {L st : List Value} {h : Hp} : EvI (EvM d) CL rk 417 L st h = (popI2 st fun x y s => if x = y then EvI (EvM d) CL rk 1383 L s h else EvI (EvM d) CL rk 420 L s h) := (Ev_step 417 L st h).trans rfl
set_option maxRecDepth 100000 in
theorem eL_420 {d rk : Nat} {L st : List Value} {h : Hp} : EvI (EvM d) CL rk 420 L st h = (EvI (EvM d) CL rk 421 L (.int 0 :: st) h) := (Ev_step 420 L st h).trans rfl
set_option maxRecDepth 100000 in
theorem eL_421 {d rk : Nat} {L st : List Value} {h : Hp} : EvI (EvM d) CL rk 421 L st h = (popI st fun v s => if s = [] ∧ okR rk v = true then some (v, h) else none) := (Ev_step 421 L st h).trans rfl
set_option maxRecDepth 100000 in
theorem eL_422 {d rk : Nat} {L st : List Value} {h : Hp} : EvI (EvM d) CL rk 422 L st h = (asR (lGet L 1) fun x => EvI (EvM d) CL rk 423 L (.ref x :: st) h) := (Ev_step 422 L st h).trans rfl
set_option maxRecDepth 100000 in
theorem eL_423 {d rk : Nat} {L st : List Value} {h : Hp} : EvI (EvM d) CL rk 423 L st h = (asR (lGet L 0) fun x => EvI (EvM d) CL rk 424 L (.ref x :: st) h) := (Ev_step 423 L st h).trans rfl
set_option maxRecDepth 100000 in
theorem eL_424 {d rk : Nat} {L st : List Value} {h : Hp} : EvI (EvM d) CL rk 424 L st h = (asI (lGet L 3) fun x => EvI (EvM d) CL rk 425 L (.int x :: st) h) := (Ev_step 424 L st h).trans rfl
set_option maxRecDepth 100000 in
theorem eL_425 {d rk : Nat} {L st : List Value} {h : Hp} : EvI (EvM d) CL rk 425 L st h = (EvI (EvM d) CL rk 426 L (.int 1 :: st) h) := (Ev_step 425 L st h).trans rfl
set_option maxRecDepth 100000 in
theorem eL_426 {d rk : Nat} {L st : List Value} {h : Hp} : EvI (EvM d) CL rk 426 L st h = (popI2 st fun x y s => EvI (EvM d) CL rk 427 L (.int (x + y) :: s) h) := (Ev_step 426 L st h).trans rfl
set_option maxRecDepth 100000 in
theorem eL_427 {d rk : Nat} {L st : List Value} {h : Hp} : EvI (EvM d) CL rk 427 L st h = (popI st fun i s => popR s fun r s => (ialdF h r i).bind fun x => EvI (EvM d) CL rk 428 L (.int x :: s) h) := (Ev_step 427 L st h).trans rfl
set_option maxRecDepth 100000 in
theorem eL_428 {d rk : Nat} {L st : List Value} {h : Hp} : EvI (EvM d) CL rk 428 L st h = (asR (lGet L 0) fun x => EvI (EvM d) CL rk 429 L (.ref x :: st) h) := (Ev_step 428 L st h).trans rfl
set_option maxRecDepth 100000 in
theorem eL_429 {d rk : Nat} {L st : List Value} {h : Hp} : EvI (EvM d) CL rk 429 L st h = (asI (lGet L 3) fun x => EvI (EvM d) CL rk 430 L (.int x :: st) h) := (Ev_step 429 L st h).trans rfl
set_option maxRecDepth 100000 in
theorem eL_430 {d rk : Nat} {L st : List Value} {h : Hp} : EvI (EvM d) CL rk 430 L st h = (EvI (EvM d) CL rk 431 L (.int 2 :: st) h) := (Ev_step 430 L st h).trans rfl
set_option maxRecDepth 100000 in
theorem eL_431 {d rk : Nat} {L st : List Value} {h : Hp} : EvI (EvM d) CL rk 431 L st h = (popI2 st fun x y s => EvI (EvM d) CL rk 432 L (.int (x + y) :: s) h) := (Ev_step 431 L st h).trans rfl
set_option maxRecDepth 100000 in
theorem eL_432 {d rk : Nat} {L st : List Value} {h : Hp} : EvI (EvM d) CL rk 432 L st h = (popI st fun i s => popR s fun r s => (ialdF h r i).bind fun x => EvI (EvM d) CL rk 433 L (.int x :: s) h) := (Ev_step 432 L st h).trans rfl
set_option maxRecDepth 100000 in
theorem eL_433 {d rk : Nat} {L st : List Value} {h : Hp} : EvI (EvM d) CL rk 433 L st h = (if 2 ≤ st.length then (popR (st.drop 2) fun r s => if clsB h r 8 = true ∧ catS s ≤ 8 then (EvM d 94 (.ref r :: (st.take 2).reverse) h).bind fun q => EvI (EvM d) CL rk 436 L (.int q.1 :: s) q.2 else none) else none) := (Ev_step 433 L st h).trans rfl
set_option maxRecDepth 100000 in
theorem eL_436 {d rk : Nat} {L st : List Value} {h : Hp} : EvI (EvM d) CL rk 436 L st h = (asR (lGet L 2) fun x => EvI (EvM d) CL rk 437 L (.ref x :: st) h) := (Ev_step 436 L st h).trans rfl
set_option maxRecDepth 100000 in
theorem eL_437 {d rk : Nat} {L st : List Value} {h : Hp} : EvI (EvM d) CL rk 437 L st h = (asR (lGet L 0) fun x => EvI (EvM d) CL rk 438 L (.ref x :: st) h) := (Ev_step 437 L st h).trans rfl
set_option maxRecDepth 100000 in
theorem eL_438 {d rk : Nat} {L st : List Value} {h : Hp} : EvI (EvM d) CL rk 438 L st h = (asI (lGet L 3) fun x => EvI (EvM d) CL rk 439 L (.int x :: st) h) := (Ev_step 438 L st h).trans rfl
set_option maxRecDepth 100000 in
theorem eL_439 {d rk : Nat} {L st : List Value} {h : Hp} : EvI (EvM d) CL rk 439 L st h = (EvI (EvM d) CL rk 440 L (.int 1 :: st) h) := (Ev_step 439 L st h).trans rfl
set_option maxRecDepth 100000 in
theorem eL_440 {d rk : Nat} {L st : List Value} {h : Hp} : EvI (EvM d) CL rk 440 L st h = (popI2 st fun x y s => EvI (EvM d) CL rk 441 L (.int (x + y) :: s) h) := (Ev_step 440 L st h).trans rfl
set_option maxRecDepth 100000 in
theorem eL_441 {d rk : Nat} {L st : List Value} {h : Hp} : EvI (EvM d) CL rk 441 L st h = (popI st fun i s => popR s fun r s => (ialdF h r i).bind fun x => EvI (EvM d) CL rk 442 L (.int x :: s) h) := (Ev_step 441 L st h).trans rfl
set_option maxRecDepth 100000 in
theorem eL_442 {d rk : Nat} {L st : List Value} {h : Hp} : EvI (EvM d) CL rk 442 L st h = (asR (lGet L 0) fun x => EvI (EvM d) CL rk 443 L (.ref x :: st) h) := (Ev_step 442 L st h).trans rfl
set_option maxRecDepth 100000 in
theorem eL_443 {d rk : Nat} {L st : List Value} {h : Hp} : EvI (EvM d) CL rk 443 L st h = (asI (lGet L 3) fun x => EvI (EvM d) CL rk 444 L (.int x :: st) h) := (Ev_step 443 L st h).trans rfl
set_option maxRecDepth 100000 in
theorem eL_444 {d rk : Nat} {L st : List Value} {h : Hp} : EvI (EvM d) CL rk 444 L st h = (EvI (EvM d) CL rk 445 L (.int 2 :: st) h) := (Ev_step 444 L st h).trans rfl
set_option maxRecDepth 100000 in
theorem eL_445 {d rk : Nat} {L st : List Value} {h : Hp} : EvI (EvM d) CL rk 445 L st h = (popI2 st fun x y s => EvI (EvM d) CL rk 446 L (.int (x + y) :: s) h) := (Ev_step 445 L st h).trans rfl
set_option maxRecDepth 100000 in
theorem eL_446 {d rk : Nat} {L st : List Value} {h : Hp} : EvI (EvM d) CL rk 446 L st h = (popI st fun i s => popR s fun r s => (ialdF h r i).bind fun x => EvI (EvM d) CL rk 447 L (.int x :: s) h) := (Ev_step 446 L st h).trans rfl
set_option maxRecDepth 100000 in
theorem eL_447 {d rk : Nat} {L st : List Value} {h : Hp} : EvI (EvM d) CL rk 447 L st h = (if 2 ≤ st.length then (popR (st.drop 2) fun r s => if clsB h r 9 = true ∧ catS s ≤ 8 then (EvM d 163 (.ref r :: (st.take 2).reverse) h).bind fun q => EvI (EvM d) CL rk 450 L (.int q.1 :: s) q.2 else none) else none) := (Ev_step 447 L st h).trans rfl
set_option maxRecDepth 100000 in
theorem eL_450 {d rk : Nat} {L st : List Value} {h : Hp} : EvI (EvM d) CL rk 450 L st h = (popI2 st fun x y s => if x = y then EvI (EvM d) CL rk 1383 L s h else EvI (EvM d) CL rk 453 L s h) := (Ev_step 450 L st h).trans rfl
set_option maxRecDepth 100000 in
theorem eL_453 {d rk : Nat} {L st : List Value} {h : Hp} : EvI (EvM d) CL rk 453 L st h = (EvI (EvM d) CL rk 454 L (.int 0 :: st) h) := (Ev_step 453 L st h).trans rfl
set_option maxRecDepth 100000 in
theorem eL_454 {d rk : Nat} {L st : List Value} {h : Hp} : EvI (EvM d) CL rk 454 L st h = (popI st fun v s => if s = [] ∧ okR rk v = true then some (v, h) else none) := (Ev_step 454 L st h).trans rfl
set_option maxRecDepth 100000 in
theorem eL_455 {d rk : Nat} {L st : List Value} {h : Hp} : EvI (EvM d) CL rk 455 L st h = (asR (lGet L 1) fun x => EvI (EvM d) CL rk 456 L (.ref x :: st) h) := (Ev_step 455 L st h).trans rfl
set_option maxRecDepth 100000 in
theorem eL_456 {d rk : Nat} {L st : List Value} {h : Hp} : EvI (EvM d) CL rk 456 L st h = (asR (lGet L 0) fun x => EvI (EvM d) CL rk 457 L (.ref x :: st) h) := (Ev_step 456 L st h).trans rfl
set_option maxRecDepth 100000 in
theorem eL_457 {d rk : Nat} {L st : List Value} {h : Hp} : EvI (EvM d) CL rk 457 L st h = (asI (lGet L 3) fun x => EvI (EvM d) CL rk 458 L (.int x :: st) h) := (Ev_step 457 L st h).trans rfl
set_option maxRecDepth 100000 in
theorem eL_458 {d rk : Nat} {L st : List Value} {h : Hp} : EvI (EvM d) CL rk 458 L st h = (EvI (EvM d) CL rk 459 L (.int 1 :: st) h) := (Ev_step 458 L st h).trans rfl
set_option maxRecDepth 100000 in
theorem eL_459 {d rk : Nat} {L st : List Value} {h : Hp} : EvI (EvM d) CL rk 459 L st h = (popI2 st fun x y s => EvI (EvM d) CL rk 460 L (.int (x + y) :: s) h) := (Ev_step 459 L st h).trans rfl
set_option maxRecDepth 100000 in
theorem eL_460 {d rk : Nat} {L st : List Value} {h : Hp} : EvI (EvM d) CL rk 460 L st h = (popI st fun i s => popR s fun r s => (ialdF h r i).bind fun x => EvI (EvM d) CL rk 461 L (.int x :: s) h) := (Ev_step 460 L st h).trans rfl
set_option maxRecDepth 100000 in
theorem eL_461 {d rk : Nat} {L st : List Value} {h : Hp} : EvI (EvM d) CL rk 461 L st h = (asR (lGet L 0) fun x => EvI (EvM d) CL rk 462 L (.ref x :: st) h) := (Ev_step 461 L st h).trans rfl
set_option maxRecDepth 100000 in
theorem eL_462 {d rk : Nat} {L st : List Value} {h : Hp} : EvI (EvM d) CL rk 462 L st h = (asI (lGet L 3) fun x => EvI (EvM d) CL rk 463 L (.int x :: st) h) := (Ev_step 462 L st h).trans rfl
set_option maxRecDepth 100000 in
theorem eL_463 {d rk : Nat} {L st : List Value} {h : Hp} : EvI (EvM d) CL rk 463 L st h = (EvI (EvM d) CL rk 464 L (.int 2 :: st) h) := (Ev_step 463 L st h).trans rfl
set_option maxRecDepth 100000 in
theorem eL_464 {d rk : Nat} {L st : List Value} {h : Hp} : EvI (EvM d) CL rk 464 L st h = (popI2 st fun x y s => EvI (EvM d) CL rk 465 L (.int (x + y) :: s) h) := (Ev_step 464 L st h).trans rfl
set_option maxRecDepth 100000 in
theorem eL_465 {d rk : Nat} {L st : List Value} {h : Hp} : EvI (EvM d) CL rk 465 L st h = (popI st fun i s => popR s fun r s => (ialdF h r i).bind fun x => EvI (EvM d) CL rk 466 L (.int x :: s) h) := (Ev_step 465 L st h).trans rfl
set_option maxRecDepth 100000 in
theorem eL_466 {d rk : Nat} {L st : List Value} {h : Hp} : EvI (EvM d) CL rk 466 L st h = (if 2 ≤ st.length then (popR (st.drop 2) fun r s => if clsB h r 8 = true ∧ catS s ≤ 8 then (EvM d 95 (.ref r :: (st.take 2).reverse) h).bind fun q => EvI (EvM d) CL rk 469 L (.int q.1 :: s) q.2 else none) else none) := (Ev_step 466 L st h).trans rfl
set_option maxRecDepth 100000 in
theorem eL_469 {d rk : Nat} {L st : List Value} {h : Hp} : EvI (EvM d) CL rk 469 L st h = (asR (lGet L 2) fun x => EvI (EvM d) CL rk 470 L (.ref x :: st) h) := (Ev_step 469 L st h).trans rfl
set_option maxRecDepth 100000 in
theorem eL_470 {d rk : Nat} {L st : List Value} {h : Hp} : EvI (EvM d) CL rk 470 L st h = (asR (lGet L 0) fun x => EvI (EvM d) CL rk 471 L (.ref x :: st) h) := (Ev_step 470 L st h).trans rfl
set_option maxRecDepth 100000 in
theorem eL_471 {d rk : Nat} {L st : List Value} {h : Hp} : EvI (EvM d) CL rk 471 L st h = (asI (lGet L 3) fun x => EvI (EvM d) CL rk 472 L (.int x :: st) h) := (Ev_step 471 L st h).trans rfl
set_option maxRecDepth 100000 in
theorem eL_472 {d rk : Nat} {L st : List Value} {h : Hp} : EvI (EvM d) CL rk 472 L st h = (EvI (EvM d) CL rk 473 L (.int 1 :: st) h) := (Ev_step 472 L st h).trans rfl
set_option maxRecDepth 100000 in
theorem eL_473 {d rk : Nat} {L st : List Value} {h : Hp} : EvI (EvM d) CL rk 473 L st h = (popI2 st fun x y s => EvI (EvM d) CL rk 474 L (.int (x + y) :: s) h) := (Ev_step 473 L st h).trans rfl
set_option maxRecDepth 100000 in
theorem eL_474 {d rk : Nat} {L st : List Value} {h : Hp} : EvI (EvM d) CL rk 474 L st h = (popI st fun i s => popR s fun r s => (ialdF h r i).bind fun x => EvI (EvM d) CL rk 475 L (.int x :: s) h) := (Ev_step 474 L st h).trans rfl
set_option maxRecDepth 100000 in
theorem eL_475 {d rk : Nat} {L st : List Value} {h : Hp} : EvI (EvM d) CL rk 475 L st h = (asR (lGet L 0) fun x => EvI (EvM d) CL rk 476 L (.ref x :: st) h) := (Ev_step 475 L st h).trans rfl
set_option maxRecDepth 100000 in
theorem eL_476 {d rk : Nat} {L st : List Value} {h : Hp} : EvI (EvM d) CL rk 476 L st h = (asI (lGet L 3) fun x => EvI (EvM d) CL rk 477 L (.int x :: st) h) := (Ev_step 476 L st h).trans rfl
set_option maxRecDepth 100000 in
theorem eL_477 {d rk : Nat} {L st : List Value} {h : Hp} : EvI (EvM d) CL rk 477 L st h = (EvI (EvM d) CL rk 478 L (.int 2 :: st) h) := (Ev_step 477 L st h).trans rfl
set_option maxRecDepth 100000 in
theorem eL_478 {d rk : Nat} {L st : List Value} {h : Hp} : EvI (EvM d) CL rk 478 L st h = (popI2 st fun x y s => EvI (EvM d) CL rk 479 L (.int (x + y) :: s) h) := (Ev_step 478 L st h).trans rfl
set_option maxRecDepth 100000 in
theorem eL_479 {d rk : Nat} {L st : List Value} {h : Hp} : EvI (EvM d) CL rk 479 L st h = (popI st fun i s => popR s fun r s => (ialdF h r i).bind fun x => EvI (EvM d) CL rk 480 L (.int x :: s) h) := (Ev_step 479 L st h).trans rfl
set_option maxRecDepth 100000 in
theorem eL_480 {d rk : Nat} {L st : List Value} {h : Hp} : EvI (EvM d) CL rk 480 L st h = (if 2 ≤ st.length then (popR (st.drop 2) fun r s => if clsB h r 9 = true ∧ catS s ≤ 8 then (EvM d 164 (.ref r :: (st.take 2).reverse) h).bind fun q => EvI (EvM d) CL rk 483 L (.int q.1 :: s) q.2 else none) else none) := (Ev_step 480 L st h).trans rfl
set_option maxRecDepth 100000 in
theorem eL_483 {d rk : Nat} {L st : List Value} {h : Hp} : EvI (EvM d) CL rk 483 L st h = (popI2 st fun x y s => if x = y then EvI (EvM d) CL rk 1383 L s h else EvI (EvM d) CL rk 486 L s h) := (Ev_step 483 L st h).trans rfl
set_option maxRecDepth 100000 in
theorem eL_486 {d rk : Nat} {L st : List Value} {h : Hp} : EvI (EvM d) CL rk 486 L st h = (EvI (EvM d) CL rk 487 L (.int 0 :: st) h) := (Ev_step 486 L st h).trans rfl
set_option maxRecDepth 100000 in
theorem eL_487 {d rk : Nat} {L st : List Value} {h : Hp} : EvI (EvM d) CL rk 487 L st h = (popI st fun v s => if s = [] ∧ okR rk v = true then some (v, h) else none) := (Ev_step 487 L st h).trans rfl
set_option maxRecDepth 100000 in
theorem eL_488 {d rk : Nat} {L st : List Value} {h : Hp} : EvI (EvM d) CL rk 488 L st h = (asR (lGet L 1) fun x => EvI (EvM d) CL rk 489 L (.ref x :: st) h) := (Ev_step 488 L st h).trans rfl
set_option maxRecDepth 100000 in
theorem eL_489 {d rk : Nat} {L st : List Value} {h : Hp} : EvI (EvM d) CL rk 489 L st h = (asR (lGet L 0) fun x => EvI (EvM d) CL rk 490 L (.ref x :: st) h) := (Ev_step 489 L st h).trans rfl
set_option maxRecDepth 100000 in
theorem eL_490 {d rk : Nat} {L st : List Value} {h : Hp} : EvI (EvM d) CL rk 490 L st h = (asI (lGet L 3) fun x => EvI (EvM d) CL rk 491 L (.int x :: st) h) := (Ev_step 490 L st h).trans rfl
set_option maxRecDepth 100000 in
theorem eL_491 {d rk : Nat} {L st : List Value} {h : Hp} : EvI (EvM d) CL rk 491 L st h = (EvI (EvM d) CL rk 492 L (.int 1 :: st) h) := (Ev_step 491 L st h).trans rfl
set_option maxRecDepth 100000 in
theorem eL_492 {d rk : Nat} {L st : List Value} {h : Hp} : EvI (EvM d) CL rk 492 L st h = (popI2 st fun x y s => EvI (EvM d) CL rk 493 L (.int (x + y) :: s) h) := (Ev_step 492 L st h).trans rfl
set_option maxRecDepth 100000 in
theorem eL_493 {d rk : Nat} {L st : List Value} {h : Hp} : EvI (EvM d) CL rk 493 L st h = (popI st fun i s => popR s fun r s => (ialdF h r i).bind fun x => EvI (EvM d) CL rk 494 L (.int x :: s) h) := (Ev_step 493 L st h).trans rfl
set_option maxRecDepth 100000 in
theorem eL_494 {d rk : Nat} {L st : List Value} {h : Hp} : EvI (EvM d) CL rk 494 L st h = (asR (lGet L 0) fun x => EvI (EvM d) CL rk 495 L (.ref x :: st) h) := (Ev_step 494 L st h).trans rfl
set_option maxRecDepth 100000 in
theorem eL_495 {d rk : Nat} {L st : List Value} {h : Hp} : EvI (EvM d) CL rk 495 L st h = (asI (lGet L 3) fun x => EvI (EvM d) CL rk 496 L (.int x :: st) h) := (Ev_step 495 L st h).trans rfl
set_option maxRecDepth 100000 in
theorem eL_496 {d rk : Nat} {L st : List Value} {h : Hp} : EvI (EvM d) CL rk 496 L st h = (EvI (EvM d) CL rk 497 L (.int 2 :: st) h) := (Ev_step 496 L st h).trans rfl
set_option maxRecDepth 100000 in
theorem eL_497 {d rk : Nat} {L st : List Value} {h : Hp} : EvI (EvM d) CL rk 497 L st h = (popI2 st fun x y s => EvI (EvM d) CL rk 498 L (.int (x + y) :: s) h) := (Ev_step 497 L st h).trans rfl
set_option maxRecDepth 100000 in
theorem eL_498 {d rk : Nat} {L st : List Value} {h : Hp} : EvI (EvM d) CL rk 498 L st h = (popI st fun i s => popR s fun r s => (ialdF h r i).bind fun x => EvI (EvM d) CL rk 499 L (.int x :: s) h) := (Ev_step 498 L st h).trans rfl
set_option maxRecDepth 100000 in
theorem eL_499 {d rk : Nat} {L st : List Value} {h : Hp} : EvI (EvM d) CL rk 499 L st h = (asR (lGet L 0) fun x => EvI (EvM d) CL rk 500 L (.ref x :: st) h) := (Ev_step 499 L st h).trans rfl
set_option maxRecDepth 100000 in
theorem eL_500 {d rk : Nat} {L st : List Value} {h : Hp} : EvI (EvM d) CL rk 500 L st h = (asI (lGet L 3) fun x => EvI (EvM d) CL rk 501 L (.int x :: st) h) := (Ev_step 500 L st h).trans rfl
set_option maxRecDepth 100000 in
theorem eL_501 {d rk : Nat} {L st : List Value} {h : Hp} : EvI (EvM d) CL rk 501 L st h = (EvI (EvM d) CL rk 502 L (.int 3 :: st) h) := (Ev_step 501 L st h).trans rfl
set_option maxRecDepth 100000 in
theorem eL_502 {d rk : Nat} {L st : List Value} {h : Hp} : EvI (EvM d) CL rk 502 L st h = (popI2 st fun x y s => EvI (EvM d) CL rk 503 L (.int (x + y) :: s) h) := (Ev_step 502 L st h).trans rfl
set_option maxRecDepth 100000 in
theorem eL_503 {d rk : Nat} {L st : List Value} {h : Hp} : EvI (EvM d) CL rk 503 L st h = (popI st fun i s => popR s fun r s => (ialdF h r i).bind fun x => EvI (EvM d) CL rk 504 L (.int x :: s) h) := (Ev_step 503 L st h).trans rfl
set_option maxRecDepth 100000 in
theorem eL_504 {d rk : Nat} {L st : List Value} {h : Hp} : EvI (EvM d) CL rk 504 L st h = (asR (lGet L 0) fun x => EvI (EvM d) CL rk 505 L (.ref x :: st) h) := (Ev_step 504 L st h).trans rfl
set_option maxRecDepth 100000 in
theorem eL_505 {d rk : Nat} {L st : List Value} {h : Hp} : EvI (EvM d) CL rk 505 L st h = (asI (lGet L 3) fun x => EvI (EvM d) CL rk 506 L (.int x :: st) h) := (Ev_step 505 L st h).trans rfl
set_option maxRecDepth 100000 in
theorem eL_506 {d rk : Nat} {L st : List Value} {h : Hp} : EvI (EvM d) CL rk 506 L st h = (EvI (EvM d) CL rk 507 L (.int 4 :: st) h) := (Ev_step 506 L st h).trans rfl
set_option maxRecDepth 100000 in
theorem eL_507 {d rk : Nat} {L st : List Value} {h : Hp} : EvI (EvM d) CL rk 507 L st h = (popI2 st fun x y s => EvI (EvM d) CL rk 508 L (.int (x + y) :: s) h) := (Ev_step 507 L st h).trans rfl
set_option maxRecDepth 100000 in
theorem eL_508 {d rk : Nat} {L st : List Value} {h : Hp} : EvI (EvM d) CL rk 508 L st h = (popI st fun i s => popR s fun r s => (ialdF h r i).bind fun x => EvI (EvM d) CL rk 509 L (.int x :: s) h) := (Ev_step 508 L st h).trans rfl
set_option maxRecDepth 100000 in
theorem eL_509 {d rk : Nat} {L st : List Value} {h : Hp} : EvI (EvM d) CL rk 509 L st h = (if 4 ≤ st.length then (popR (st.drop 4) fun r s => if clsB h r 8 = true ∧ catS s ≤ 8 then (EvM d 96 (.ref r :: (st.take 4).reverse) h).bind fun q => EvI (EvM d) CL rk 512 L (.int q.1 :: s) q.2 else none) else none) := (Ev_step 509 L st h).trans rfl
set_option maxRecDepth 100000 in
theorem eL_512 {d rk : Nat} {L st : List Value} {h : Hp} : EvI (EvM d) CL rk 512 L st h = (asR (lGet L 2) fun x => EvI (EvM d) CL rk 513 L (.ref x :: st) h) := (Ev_step 512 L st h).trans rfl
set_option maxRecDepth 100000 in
theorem eL_513 {d rk : Nat} {L st : List Value} {h : Hp} : EvI (EvM d) CL rk 513 L st h = (asR (lGet L 0) fun x => EvI (EvM d) CL rk 514 L (.ref x :: st) h) := (Ev_step 513 L st h).trans rfl
set_option maxRecDepth 100000 in
theorem eL_514 {d rk : Nat} {L st : List Value} {h : Hp} : EvI (EvM d) CL rk 514 L st h = (asI (lGet L 3) fun x => EvI (EvM d) CL rk 515 L (.int x :: st) h) := (Ev_step 514 L st h).trans rfl
set_option maxRecDepth 100000 in
theorem eL_515 {d rk : Nat} {L st : List Value} {h : Hp} : EvI (EvM d) CL rk 515 L st h = (EvI (EvM d) CL rk 516 L (.int 1 :: st) h) := (Ev_step 515 L st h).trans rfl
set_option maxRecDepth 100000 in
theorem eL_516 {d rk : Nat} {L st : List Value} {h : Hp} : EvI (EvM d) CL rk 516 L st h = (popI2 st fun x y s => EvI (EvM d) CL rk 517 L (.int (x + y) :: s) h) := (Ev_step 516 L st h).trans rfl
set_option maxRecDepth 100000 in
theorem eL_517 {d rk : Nat} {L st : List Value} {h : Hp} : EvI (EvM d) CL rk 517 L st h = (popI st fun i s => popR s fun r s => (ialdF h r i).bind fun x => EvI (EvM d) CL rk 518 L (.int x :: s) h) := (Ev_step 517 L st h).trans rfl
set_option maxRecDepth 100000 in
theorem eL_518 {d rk : Nat} {L st : List Value} {h : Hp} : EvI (EvM d) CL rk 518 L st h = (asR (lGet L 0) fun x => EvI (EvM d) CL rk 519 L (.ref x :: st) h) := (Ev_step 518 L st h).trans rfl
set_option maxRecDepth 100000 in
theorem eL_519 {d rk : Nat} {L st : List Value} {h : Hp} : EvI (EvM d) CL rk 519 L st h = (asI (lGet L 3) fun x => EvI (EvM d) CL rk 520 L (.int x :: st) h) := (Ev_step 519 L st h).trans rfl
set_option maxRecDepth 100000 in
theorem eL_520 {d rk : Nat} {L st : List Value} {h : Hp} : EvI (EvM d) CL rk 520 L st h = (EvI (EvM d) CL rk 521 L (.int 2 :: st) h) := (Ev_step 520 L st h).trans rfl
set_option maxRecDepth 100000 in
theorem eL_521 {d rk : Nat} {L st : List Value} {h : Hp} : EvI (EvM d) CL rk 521 L st h = (popI2 st fun x y s => EvI (EvM d) CL rk 522 L (.int (x + y) :: s) h) := (Ev_step 521 L st h).trans rfl
set_option maxRecDepth 100000 in
theorem eL_522 {d rk : Nat} {L st : List Value} {h : Hp} : EvI (EvM d) CL rk 522 L st h = (popI st fun i s => popR s fun r s => (ialdF h r i).bind fun x => EvI (EvM d) CL rk 523 L (.int x :: s) h) := (Ev_step 522 L st h).trans rfl
set_option maxRecDepth 100000 in
theorem eL_523 {d rk : Nat} {L st : List Value} {h : Hp} : EvI (EvM d) CL rk 523 L st h = (asR (lGet L 0) fun x => EvI (EvM d) CL rk 524 L (.ref x :: st) h) := (Ev_step 523 L st h).trans rfl
set_option maxRecDepth 100000 in
theorem eL_524 {d rk : Nat} {L st : List Value} {h : Hp} : EvI (EvM d) CL rk 524 L st h = (asI (lGet L 3) fun x => EvI (EvM d) CL rk 525 L (.int x :: st) h) := (Ev_step 524 L st h).trans rfl
set_option maxRecDepth 100000 in
theorem eL_525 {d rk : Nat} {L st : List Value} {h : Hp} : EvI (EvM d) CL rk 525 L st h = (EvI (EvM d) CL rk 526 L (.int 3 :: st) h) := (Ev_step 525 L st h).trans rfl
set_option maxRecDepth 100000 in
theorem eL_526 {d rk : Nat} {L st : List Value} {h : Hp} : EvI (EvM d) CL rk 526 L st h = (popI2 st fun x y s => EvI (EvM d) CL rk 527 L (.int (x + y) :: s) h) := (Ev_step 526 L st h).trans rfl
set_option maxRecDepth 100000 in
theorem eL_527 {d rk : Nat} {L st : List Value} {h : Hp} : EvI (EvM d) CL rk 527 L st h = (popI st fun i s => popR s fun r s => (ialdF h r i).bind fun x => EvI (EvM d) CL rk 528 L (.int x :: s) h) := (Ev_step 527 L st h).trans rfl
set_option maxRecDepth 100000 in
theorem eL_528 {d rk : Nat} {L st : List Value} {h : Hp} : EvI (EvM d) CL rk 528 L st h = (asR (lGet L 0) fun x => EvI (EvM d) CL rk 529 L (.ref x :: st) h) := (Ev_step 528 L st h).trans rfl
set_option maxRecDepth 100000 in
theorem eL_529 {d rk : Nat} {L st : List Value} {h : Hp} : EvI (EvM d) CL rk 529 L st h = (asI (lGet L 3) fun x => EvI (EvM d) CL rk 530 L (.int x :: st) h) := (Ev_step 529 L st h).trans rfl
set_option maxRecDepth 100000 in
theorem eL_530 {d rk : Nat} {L st : List Value} {h : Hp} : EvI (EvM d) CL rk 530 L st h = (EvI (EvM d) CL rk 531 L (.int 4 :: st) h) := (Ev_step 530 L st h).trans rfl
set_option maxRecDepth 100000 in
theorem eL_531 {d rk : Nat} {L st : List Value} {h : Hp} : EvI (EvM d) CL rk 531 L st h = (popI2 st fun x y s => EvI (EvM d) CL rk 532 L (.int (x + y) :: s) h) := (Ev_step 531 L st h).trans rfl
set_option maxRecDepth 100000 in
theorem eL_532 {d rk : Nat} {L st : List Value} {h : Hp} : EvI (EvM d) CL rk 532 L st h = (popI st fun i s => popR s fun r s => (ialdF h r i).bind fun x => EvI (EvM d) CL rk 533 L (.int x :: s) h) := (Ev_step 532 L st h).trans rfl
set_option maxRecDepth 100000 in
theorem eL_533 {d rk : Nat} {L st : List Value} {h : Hp} : EvI (EvM d) CL rk 533 L st h = (if 4 ≤ st.length then (popR (st.drop 4) fun r s => if clsB h r 9 = true ∧ catS s ≤ 8 then (EvM d 168 (.ref r :: (st.take 4).reverse) h).bind fun q => EvI (EvM d) CL rk 536 L (.int q.1 :: s) q.2 else none) else none) := (Ev_step 533 L st h).trans rfl
set_option maxRecDepth 100000 in
theorem eL_536 {d rk : Nat} {L st : List Value} {h : Hp} : EvI (EvM d) CL rk 536 L st h = (popI2 st fun x y s => if x = y then EvI (EvM d) CL rk 1383 L s h else EvI (EvM d) CL rk 539 L s h) := (Ev_step 536 L st h).trans rfl
set_option maxRecDepth 100000 in
theorem eL_539 {d rk : Nat} {L st : List Value} {h : Hp} : EvI (EvM d) CL rk 539 L st h = (EvI (EvM d) CL rk 540 L (.int 0 :: st) h) := (Ev_step 539 L st h).trans rfl
set_option maxRecDepth 100000 in
theorem eL_540 {d rk : Nat} {L st : List Value} {h : Hp} : EvI (EvM d) CL rk 540 L st h = (popI st fun v s => if s = [] ∧ okR rk v = true then some (v, h) else none) := (Ev_step 540 L st h).trans rfl
set_option maxRecDepth 100000 in
theorem eL_541 {d rk : Nat} {L st : List Value} {h : Hp} : EvI (EvM d) CL rk 541 L st h = (asR (lGet L 1) fun x => EvI (EvM d) CL rk 542 L (.ref x :: st) h) := (Ev_step 541 L st h).trans rfl
set_option maxRecDepth 100000 in
theorem eL_542 {d rk : Nat} {L st : List Value} {h : Hp} : EvI (EvM d) CL rk 542 L st h = (asR (lGet L 0) fun x => EvI (EvM d) CL rk 543 L (.ref x :: st) h) := (Ev_step 542 L st h).trans rfl
set_option maxRecDepth 100000 in
theorem eL_543 {d rk : Nat} {L st : List Value} {h : Hp} : EvI (EvM d) CL rk 543 L st h = (asI (lGet L 3) fun x => EvI (EvM d) CL rk 544 L (.int x :: st) h) := (Ev_step 543 L st h).trans rfl
set_option maxRecDepth 100000 in
theorem eL_544 {d rk : Nat} {L st : List Value} {h : Hp} : EvI (EvM d) CL rk 544 L st h = (EvI (EvM d) CL rk 545 L (.int 1 :: st) h) := (Ev_step 544 L st h).trans rfl
set_option maxRecDepth 100000 in
theorem eL_545 {d rk : Nat} {L st : List Value} {h : Hp} : EvI (EvM d) CL rk 545 L st h = (popI2 st fun x y s => EvI (EvM d) CL rk 546 L (.int (x + y) :: s) h) := (Ev_step 545 L st h).trans rfl
set_option maxRecDepth 100000 in
theorem eL_546 {d rk : Nat} {L st : List Value} {h : Hp} : EvI (EvM d) CL rk 546 L st h = (popI st fun i s => popR s fun r s => (ialdF h r i).bind fun x => EvI (EvM d) CL rk 547 L (.int x :: s) h) := (Ev_step 546 L st h).trans rfl
set_option maxRecDepth 100000 in
theorem eL_547 {d rk : Nat} {L st : List Value} {h : Hp} : EvI (EvM d) CL rk 547 L st h = (asR (lGet L 0) fun x => EvI (EvM d) CL rk 548 L (.ref x :: st) h) := (Ev_step 547 L st h).trans rfl
set_option maxRecDepth 100000 in
theorem eL_548 {d rk : Nat} {L st : List Value} {h : Hp} : EvI (EvM d) CL rk 548 L st h = (asI (lGet L 3) fun x => EvI (EvM d) CL rk 549 L (.int x :: st) h) := (Ev_step 548 L st h).trans rfl
set_option maxRecDepth 100000 in
theorem eL_549 {d rk : Nat} {L st : List Value} {h : Hp} : EvI (EvM d) CL rk 549 L st h = (EvI (EvM d) CL rk 550 L (.int 2 :: st) h) := (Ev_step 549 L st h).trans rfl
set_option maxRecDepth 100000 in
theorem eL_550 {d rk : Nat} {L st : List Value} {h : Hp} : EvI (EvM d) CL rk 550 L st h = (popI2 st fun x y s => EvI (EvM d) CL rk 551 L (.int (x + y) :: s) h) := (Ev_step 550 L st h).trans rfl
set_option maxRecDepth 100000 in
theorem eL_551 {d rk : Nat} {L st : List Value} {h : Hp} : EvI (EvM d) CL rk 551 L st h = (popI st fun i s => popR s fun r s => (ialdF h r i).bind fun x => EvI (EvM d) CL rk 552 L (.int x :: s) h) := (Ev_step 551 L st h).trans rfl
set_option maxRecDepth 100000 in
theorem eL_552 {d rk : Nat} {L st : List Value} {h : Hp} : EvI (EvM d) CL rk 552 L st h = (if 2 ≤ st.length then (popR (st.drop 2) fun r s => if clsB h r 8 = true ∧ catS s ≤ 8 then (EvM d 97 (.ref r :: (st.take 2).reverse) h).bind fun q => EvI (EvM d) CL rk 555 L (.int q.1 :: s) q.2 else none) else none) := (Ev_step 552 L st h).trans rfl
set_option maxRecDepth 100000 in
theorem eL_555 {d rk : Nat} {L st : List Value} {h : Hp} : EvI (EvM d) CL rk 555 L st h = (asR (lGet L 2) fun x => EvI (EvM d) CL rk 556 L (.ref x :: st) h) := (Ev_step 555 L st h).trans rfl
set_option maxRecDepth 100000 in
theorem eL_556 {d rk : Nat} {L st : List Value} {h : Hp} : EvI (EvM d) CL rk 556 L st h = (asR (lGet L 0) fun x => EvI (EvM d) CL rk 557 L (.ref x :: st) h) := (Ev_step 556 L st h).trans rfl
set_option maxRecDepth 100000 in
theorem eL_557 {d rk : Nat} {L st : List Value} {h : Hp} : EvI (EvM d) CL rk 557 L st h = (asI (lGet L 3) fun x => EvI (EvM d) CL rk 558 L (.int x :: st) h) := (Ev_step 557 L st h).trans rfl
set_option maxRecDepth 100000 in
theorem eL_558 {d rk : Nat} {L st : List Value} {h : Hp} : EvI (EvM d) CL rk 558 L st h = (EvI (EvM d) CL rk 559 L (.int 1 :: st) h) := (Ev_step 558 L st h).trans rfl
set_option maxRecDepth 100000 in
theorem eL_559 {d rk : Nat} {L st : List Value} {h : Hp} : EvI (EvM d) CL rk 559 L st h = (popI2 st fun x y s => EvI (EvM d) CL rk 560 L (.int (x + y) :: s) h) := (Ev_step 559 L st h).trans rfl
set_option maxRecDepth 100000 in
theorem eL_560 {d rk : Nat} {L st : List Value} {h : Hp} : EvI (EvM d) CL rk 560 L st h = (popI st fun i s => popR s fun r s => (ialdF h r i).bind fun x => EvI (EvM d) CL rk 561 L (.int x :: s) h) := (Ev_step 560 L st h).trans rfl
set_option maxRecDepth 100000 in
theorem eL_561 {d rk : Nat} {L st : List Value} {h : Hp} : EvI (EvM d) CL rk 561 L st h = (asR (lGet L 0) fun x => EvI (EvM d) CL rk 562 L (.ref x :: st) h) := (Ev_step 561 L st h).trans rfl
set_option maxRecDepth 100000 in
theorem eL_562 {d rk : Nat} {L st : List Value} {h : Hp} : EvI (EvM d) CL rk 562 L st h = (asI (lGet L 3) fun x => EvI (EvM d) CL rk 563 L (.int x :: st) h) := (Ev_step 562 L st h).trans rfl
set_option maxRecDepth 100000 in
theorem eL_563 {d rk : Nat} {L st : List Value} {h : Hp} : EvI (EvM d) CL rk 563 L st h = (EvI (EvM d) CL rk 564 L (.int 2 :: st) h) := (Ev_step 563 L st h).trans rfl
set_option maxRecDepth 100000 in
theorem eL_564 {d rk : Nat} {L st : List Value} {h : Hp} : EvI (EvM d) CL rk 564 L st h = (popI2 st fun x y s => EvI (EvM d) CL rk 565 L (.int (x + y) :: s) h) := (Ev_step 564 L st h).trans rfl
set_option maxRecDepth 100000 in
theorem eL_565 {d rk : Nat} {L st : List Value} {h : Hp} : EvI (EvM d) CL rk 565 L st h = (popI st fun i s => popR s fun r s => (ialdF h r i).bind fun x => EvI (EvM d) CL rk 566 L (.int x :: s) h) := (Ev_step 565 L st h).trans rfl
set_option maxRecDepth 100000 in
theorem eL_566 {d rk : Nat} {L st : List Value} {h : Hp} : EvI (EvM d) CL rk 566 L st h = (if 2 ≤ st.length then (popR (st.drop 2) fun r s => if clsB h r 9 = true ∧ catS s ≤ 8 then (EvM d 169 (.ref r :: (st.take 2).reverse) h).bind fun q => EvI (EvM d) CL rk 569 L (.int q.1 :: s) q.2 else none) else none) := (Ev_step 566 L st h).trans rfl
set_option maxRecDepth 100000 in
theorem eL_569 {d rk : Nat} {L st : List Value} {h : Hp} : EvI (EvM d) CL rk 569 L st h = (popI2 st fun x y s => if x = y then EvI (EvM d) CL rk 1383 L s h else EvI (EvM d) CL rk 572 L s h) := (Ev_step 569 L st h).trans rfl
set_option maxRecDepth 100000 in
theorem eL_572 {d rk : Nat} {L st : List Value} {h : Hp} : EvI (EvM d) CL rk 572 L st h = (EvI (EvM d) CL rk 573 L (.int 0 :: st) h) := (Ev_step 572 L st h).trans rfl
set_option maxRecDepth 100000 in
theorem eL_573 {d rk : Nat} {L st : List Value} {h : Hp} : EvI (EvM d) CL rk 573 L st h = (popI st fun v s => if s = [] ∧ okR rk v = true then some (v, h) else none) := (Ev_step 573 L st h).trans rfl
set_option maxRecDepth 100000 in
theorem eL_574 {d rk : Nat} {L st : List Value} {h : Hp} : EvI (EvM d) CL rk 574 L st h = (asR (lGet L 1) fun x => EvI (EvM d) CL rk 575 L (.ref x :: st) h) := (Ev_step 574 L st h).trans rfl
set_option maxRecDepth 100000 in
theorem eL_575 {d rk : Nat} {L st : List Value} {h : Hp} : EvI (EvM d) CL rk 575 L st h = (asR (lGet L 0) fun x => EvI (EvM d) CL rk 576 L (.ref x :: st) h) := (Ev_step 575 L st h).trans rfl
set_option maxRecDepth 100000 in
theorem eL_576 {d rk : Nat} {L st : List Value} {h : Hp} : EvI (EvM d) CL rk 576 L st h = (asI (lGet L 3) fun x => EvI (EvM d) CL rk 577 L (.int x :: st) h) := (Ev_step 576 L st h).trans rfl
set_option maxRecDepth 100000 in
theorem eL_577 {d rk : Nat} {L st : List Value} {h : Hp} : EvI (EvM d) CL rk 577 L st h = (EvI (EvM d) CL rk 578 L (.int 1 :: st) h) := (Ev_step 577 L st h).trans rfl
set_option maxRecDepth 100000 in
theorem eL_578 {d rk : Nat} {L st : List Value} {h : Hp} : EvI (EvM d) CL rk 578 L st h = (popI2 st fun x y s => EvI (EvM d) CL rk 579 L (.int (x + y) :: s) h) := (Ev_step 578 L st h).trans rfl
set_option maxRecDepth 100000 in
theorem eL_579 {d rk : Nat} {L st : List Value} {h : Hp} : EvI (EvM d) CL rk 579 L st h = (popI st fun i s => popR s fun r s => (ialdF h r i).bind fun x => EvI (EvM d) CL rk 580 L (.int x :: s) h) := (Ev_step 579 L st h).trans rfl
set_option maxRecDepth 100000 in
theorem eL_580 {d rk : Nat} {L st : List Value} {h : Hp} : EvI (EvM d) CL rk 580 L st h = (asR (lGet L 0) fun x => EvI (EvM d) CL rk 581 L (.ref x :: st) h) := (Ev_step 580 L st h).trans rfl
set_option maxRecDepth 100000 in
theorem eL_581 {d rk : Nat} {L st : List Value} {h : Hp} : EvI (EvM d) CL rk 581 L st h = (asI (lGet L 3) fun x => EvI (EvM d) CL rk 582 L (.int x :: st) h) := (Ev_step 581 L st h).trans rfl
set_option maxRecDepth 100000 in
theorem eL_582 {d rk : Nat} {L st : List Value} {h : Hp} : EvI (EvM d) CL rk 582 L st h = (EvI (EvM d) CL rk 583 L (.int 2 :: st) h) := (Ev_step 582 L st h).trans rfl
set_option maxRecDepth 100000 in
theorem eL_583 {d rk : Nat} {L st : List Value} {h : Hp} : EvI (EvM d) CL rk 583 L st h = (popI2 st fun x y s => EvI (EvM d) CL rk 584 L (.int (x + y) :: s) h) := (Ev_step 583 L st h).trans rfl
set_option maxRecDepth 100000 in
theorem eL_584 {d rk : Nat} {L st : List Value} {h : Hp} : EvI (EvM d) CL rk 584 L st h = (popI st fun i s => popR s fun r s => (ialdF h r i).bind fun x => EvI (EvM d) CL rk 585 L (.int x :: s) h) := (Ev_step 584 L st h).trans rfl
set_option maxRecDepth 100000 in
theorem eL_585 {d rk : Nat} {L st : List Value} {h : Hp} : EvI (EvM d) CL rk 585 L st h = (if 2 ≤ st.length then (popR (st.drop 2) fun r s => if clsB h r 8 = true ∧ catS s ≤ 8 then (EvM d 98 (.ref r :: (st.take 2).reverse) h).bind fun q => EvI (EvM d) CL rk 588 L (.int q.1 :: s) q.2 else none) else none) := (Ev_step 585 L st h).trans rfl
set_option maxRecDepth 100000 in
theorem eL_588 {d rk : Nat} {L st : List Value} {h : Hp} : EvI (EvM d) CL rk 588 L st h = (asR (lGet L 2) fun x => EvI (EvM d) CL rk 589 L (.ref x :: st) h) := (Ev_step 588 L st h).trans rfl
set_option maxRecDepth 100000 in
theorem eL_589 {d rk : Nat} {L st : List Value} {h : Hp} : EvI (EvM d) CL rk 589 L st h = (asR (lGet L 0) fun x => EvI (EvM d) CL rk 590 L (.ref x :: st) h) := (Ev_step 589 L st h).trans rfl
set_option maxRecDepth 100000 in
theorem eL_590 {d rk : Nat} {L st : List Value} {h : Hp} : EvI (EvM d) CL rk 590 L st h = (asI (lGet L 3) fun x => EvI (EvM d) CL rk 591 L (.int x :: st) h) := (Ev_step 590 L st h).trans rfl
set_option maxRecDepth 100000 in
theorem eL_591 {d rk : Nat} {L st : List Value} {h : Hp} : EvI (EvM d) CL rk 591 L st h = (EvI (EvM d) CL rk 592 L (.int 1 :: st) h) := (Ev_step 591 L st h).trans rfl
set_option maxRecDepth 100000 in
theorem eL_592 {d rk : Nat} {L st : List Value} {h : Hp} : EvI (EvM d) CL rk 592 L st h = (popI2 st fun x y s => EvI (EvM d) CL rk 593 L (.int (x + y) :: s) h) := (Ev_step 592 L st h).trans rfl
set_option maxRecDepth 100000 in
theorem eL_593 {d rk : Nat} {L st : List Value} {h : Hp} : EvI (EvM d) CL rk 593 L st h = (popI st fun i s => popR s fun r s => (ialdF h r i).bind fun x => EvI (EvM d) CL rk 594 L (.int x :: s) h) := (Ev_step 593 L st h).trans rfl
set_option maxRecDepth 100000 in
theorem eL_594 {d rk : Nat} {L st : List Value} {h : Hp} : EvI (EvM d) CL rk 594 L st h = (asR (lGet L 0) fun x => EvI (EvM d) CL rk 595 L (.ref x :: st) h) := (Ev_step 594 L st h).trans rfl
set_option maxRecDepth 100000 in
theorem eL_595 {d rk : Nat} {L st : List Value} {h : Hp} : EvI (EvM d) CL rk 595 L st h = (asI (lGet L 3) fun x => EvI (EvM d) CL rk 596 L (.int x :: st) h) := (Ev_step 595 L st h).trans rfl
set_option maxRecDepth 100000 in
theorem eL_596 {d rk : Nat} {L st : List Value} {h : Hp} : EvI (EvM d) CL rk 596 L st h = (EvI (EvM d) CL rk 597 L (.int 2 :: st) h) := (Ev_step 596 L st h).trans rfl
set_option maxRecDepth 100000 in
theorem eL_597 {d rk : Nat} {L st : List Value} {h : Hp} : EvI (EvM d) CL rk 597 L st h = (popI2 st fun x y s => EvI (EvM d) CL rk 598 L (.int (x + y) :: s) h) := (Ev_step 597 L st h).trans rfl
set_option maxRecDepth 100000 in
theorem eL_598 {d rk : Nat} {L st : List Value} {h : Hp} : EvI (EvM d) CL rk 598 L st h = (popI st fun i s => popR s fun r s => (ialdF h r i).bind fun x => EvI (EvM d) CL rk 599 L (.int x :: s) h) := (Ev_step 598 L st h).trans rfl
set_option maxRecDepth 100000 in
theorem eL_599 {d rk : Nat} {L st : List Value} {h : Hp} : EvI (EvM d) CL rk 599 L st h = (if 2 ≤ st.length then (popR (st.drop 2) fun r s => if clsB h r 9 = true ∧ catS s ≤ 8 then (EvM d 170 (.ref r :: (st.take 2).reverse) h).bind fun q => EvI (EvM d) CL rk 602 L (.int q.1 :: s) q.2 else none) else none) := (Ev_step 599 L st h).trans rfl
set_option maxRecDepth 100000 in
theorem eL_602 {d rk : Nat} {L st : List Value} {h : Hp} : EvI (EvM d) CL rk 602 L st h = (popI2 st fun x y s => if x = y then EvI (EvM d) CL rk 1383 L s h else EvI (EvM d) CL rk 605 L s h) := (Ev_step 602 L st h).trans rfl
set_option maxRecDepth 100000 in
theorem eL_605 {d rk : Nat} {L st : List Value} {h : Hp} : EvI (EvM d) CL rk 605 L st h = (EvI (EvM d) CL rk 606 L (.int 0 :: st) h) := (Ev_step 605 L st h).trans rfl
set_option maxRecDepth 100000 in
theorem eL_606 {d rk : Nat} {L st : List Value} {h : Hp} : EvI (EvM d) CL rk 606 L st h = (popI st fun v s => if s = [] ∧ okR rk v = true then some (v, h) else none) := (Ev_step 606 L st h).trans rfl
set_option maxRecDepth 100000 in
theorem eL_607 {d rk : Nat} {L st : List Value} {h : Hp} : EvI (EvM d) CL rk 607 L st h = (asR (lGet L 1) fun x => EvI (EvM d) CL rk 608 L (.ref x :: st) h) := (Ev_step 607 L st h).trans rfl
set_option maxRecDepth 100000 in
theorem eL_608 {d rk : Nat} {L st : List Value} {h : Hp} : EvI (EvM d) CL rk 608 L st h = (asR (lGet L 0) fun x => EvI (EvM d) CL rk 609 L (.ref x :: st) h) := (Ev_step 608 L st h).trans rfl
set_option maxRecDepth 100000 in
theorem eL_609 {d rk : Nat} {L st : List Value} {h : Hp} : EvI (EvM d) CL rk 609 L st h = (asI (lGet L 3) fun x => EvI (EvM d) CL rk 610 L (.int x :: st) h) := (Ev_step 609 L st h).trans rfl
set_option maxRecDepth 100000 in
theorem eL_610 {d rk : Nat} {L st : List Value} {h : Hp} : EvI (EvM d) CL rk 610 L st h = (EvI (EvM d) CL rk 611 L (.int 1 :: st) h) := (Ev_step 610 L st h).trans rfl
set_option maxRecDepth 100000 in
theorem eL_611 {d rk : Nat} {L st : List Value} {h : Hp} : EvI (EvM d) CL rk 611 L st h = (popI2 st fun x y s => EvI (EvM d) CL rk 612 L (.int (x + y) :: s) h) := (Ev_step 611 L st h).trans rfl
set_option maxRecDepth 100000 in
theorem eL_612 {d rk : Nat} {L st : List Value} {h : Hp} : EvI (EvM d) CL rk 612 L st h = (popI st fun i s => popR s fun r s => (ialdF h r i).bind fun x => EvI (EvM d) CL rk 613 L (.int x :: s) h) := (Ev_step 612 L st h).trans rfl
set_option maxRecDepth 100000 in
theorem eL_613 {d rk : Nat} {L st : List Value} {h : Hp} : EvI (EvM d) CL rk 613 L st h = (if 1 ≤ st.length then (popR (st.drop 1) fun r s => if clsB h r 8 = true ∧ catS s ≤ 8 then (EvM d 99 (.ref r :: (st.take 1).reverse) h).bind fun q => EvI (EvM d) CL rk 616 L (.int q.1 :: s) q.2 else none) else none) := (Ev_step 613 L st h).trans rfl
set_option maxRecDepth 100000 in
theorem eL_616 {d rk : Nat} {L st : List Value} {h : Hp} : EvI (EvM d) CL rk 616 L st h = (asR (lGet L 2) fun x => EvI (EvM d) CL rk 617 L (.ref x :: st) h) := (Ev_step 616 L st h).trans rfl
set_option maxRecDepth 100000 in
theorem eL_617 {d rk : Nat} {L st : List Value} {h : Hp} : EvI (EvM d) CL rk 617 L st h = (asR (lGet L 0) fun x => EvI (EvM d) CL rk 618 L (.ref x :: st) h) := (Ev_step 617 L st h).trans rfl
set_option maxRecDepth 100000 in
theorem eL_618 {d rk : Nat} {L st : List Value} {h : Hp} : EvI (EvM d) CL rk 618 L st h = (asI (lGet L 3) fun x => EvI (EvM d) CL rk 619 L (.int x :: st) h) := (Ev_step 618 L st h).trans rfl
set_option maxRecDepth 100000 in
theorem eL_619 {d rk : Nat} {L st : List Value} {h : Hp} : EvI (EvM d) CL rk 619 L st h = (EvI (EvM d) CL rk 620 L (.int 1 :: st) h) := (Ev_step 619 L st h).trans rfl
set_option maxRecDepth 100000 in
theorem eL_620 {d rk : Nat} {L st : List Value} {h : Hp} : EvI (EvM d) CL rk 620 L st h = (popI2 st fun x y s => EvI (EvM d) CL rk 621 L (.int (x + y) :: s) h) := (Ev_step 620 L st h).trans rfl
set_option maxRecDepth 100000 in
theorem eL_621 {d rk : Nat} {L st : List Value} {h : Hp} : EvI (EvM d) CL rk 621 L st h = (popI st fun i s => popR s fun r s => (ialdF h r i).bind fun x => EvI (EvM d) CL rk 622 L (.int x :: s) h) := (Ev_step 621 L st h).trans rfl
set_option maxRecDepth 100000 in
theorem eL_622 {d rk : Nat} {L st : List Value} {h : Hp} : EvI (EvM d) CL rk 622 L st h = (if 1 ≤ st.length then (popR (st.drop 1) fun r s => if clsB h r 9 = true ∧ catS s ≤ 8 then (EvM d 171 (.ref r :: (st.take 1).reverse) h).bind fun q => EvI (EvM d) CL rk 625 L (.int q.1 :: s) q.2 else none) else none) := (Ev_step 622 L st h).trans rfl
set_option maxRecDepth 100000 in
theorem eL_625 {d rk : Nat} {L st : List Value} {h : Hp} : EvI (EvM d) CL rk 625 L st h = (popI2 st fun x y s => if x = y then EvI (EvM d) CL rk 1383 L s h else EvI (EvM d) CL rk 628 L s h) := (Ev_step 625 L st h).trans rfl
set_option maxRecDepth 100000 in
theorem eL_628 {d rk : Nat} {L st : List Value} {h : Hp} : EvI (EvM d) CL rk 628 L st h = (EvI (EvM d) CL rk 629 L (.int 0 :: st) h) := (Ev_step 628 L st h).trans rfl
set_option maxRecDepth 100000 in
theorem eL_629 {d rk : Nat} {L st : List Value} {h : Hp} : EvI (EvM d) CL rk 629 L st h = (popI st fun v s => if s = [] ∧ okR rk v = true then some (v, h) else none) := (Ev_step 629 L st h).trans rfl
set_option maxRecDepth 100000 in
theorem eL_630 {d rk : Nat} {L st : List Value} {h : Hp} : EvI (EvM d) CL rk 630 L st h = (asR (lGet L 1) fun x => EvI (EvM d) CL rk 631 L (.ref x :: st) h) := (Ev_step 630 L st h).trans rfl
set_option maxRecDepth 100000 in
theorem eL_631 {d rk : Nat} {L st : List Value} {h : Hp} : EvI (EvM d) CL rk 631 L st h = (asR (lGet L 0) fun x => EvI (EvM d) CL rk 632 L (.ref x :: st) h) := (Ev_step 631 L st h).trans rfl
set_option maxRecDepth 100000 in
theorem eL_632 {d rk : Nat} {L st : List Value} {h : Hp} : EvI (EvM d) CL rk 632 L st h = (asI (lGet L 3) fun x => EvI (EvM d) CL rk 633 L (.int x :: st) h) := (Ev_step 632 L st h).trans rfl
set_option maxRecDepth 100000 in
theorem eL_633 {d rk : Nat} {L st : List Value} {h : Hp} : EvI (EvM d) CL rk 633 L st h = (EvI (EvM d) CL rk 634 L (.int 1 :: st) h) := (Ev_step 633 L st h).trans rfl
set_option maxRecDepth 100000 in
theorem eL_634 {d rk : Nat} {L st : List Value} {h : Hp} : EvI (EvM d) CL rk 634 L st h = (popI2 st fun x y s => EvI (EvM d) CL rk 635 L (.int (x + y) :: s) h) := (Ev_step 634 L st h).trans rfl
set_option maxRecDepth 100000 in
theorem eL_635 {d rk : Nat} {L st : List Value} {h : Hp} : EvI (EvM d) CL rk 635 L st h = (popI st fun i s => popR s fun r s => (ialdF h r i).bind fun x => EvI (EvM d) CL rk 636 L (.int x :: s) h) := (Ev_step 635 L st h).trans rfl
set_option maxRecDepth 100000 in
theorem eL_636 {d rk : Nat} {L st : List Value} {h : Hp} : EvI (EvM d) CL rk 636 L st h = (if 1 ≤ st.length then (popR (st.drop 1) fun r s => if clsB h r 8 = true ∧ catS s ≤ 8 then (EvM d 100 (.ref r :: (st.take 1).reverse) h).bind fun q => EvI (EvM d) CL rk 639 L (.int q.1 :: s) q.2 else none) else none) := (Ev_step 636 L st h).trans rfl
set_option maxRecDepth 100000 in
theorem eL_639 {d rk : Nat} {L st : List Value} {h : Hp} : EvI (EvM d) CL rk 639 L st h = (asR (lGet L 2) fun x => EvI (EvM d) CL rk 640 L (.ref x :: st) h) := (Ev_step 639 L st h).trans rfl
set_option maxRecDepth 100000 in
theorem eL_640 {d rk : Nat} {L st : List Value} {h : Hp} : EvI (EvM d) CL rk 640 L st h = (asR (lGet L 0) fun x => EvI (EvM d) CL rk 641 L (.ref x :: st) h) := (Ev_step 640 L st h).trans rfl
set_option maxRecDepth 100000 in
theorem eL_641 {d rk : Nat} {L st : List Value} {h : Hp} : EvI (EvM d) CL rk 641 L st h = (asI (lGet L 3) fun x => EvI (EvM d) CL rk 642 L (.int x :: st) h) := (Ev_step 641 L st h).trans rfl
set_option maxRecDepth 100000 in
theorem eL_642 {d rk : Nat} {L st : List Value} {h : Hp} : EvI (EvM d) CL rk 642 L st h = (EvI (EvM d) CL rk 643 L (.int 1 :: st) h) := (Ev_step 642 L st h).trans rfl
set_option maxRecDepth 100000 in
theorem eL_643 {d rk : Nat} {L st : List Value} {h : Hp} : EvI (EvM d) CL rk 643 L st h = (popI2 st fun x y s => EvI (EvM d) CL rk 644 L (.int (x + y) :: s) h) := (Ev_step 643 L st h).trans rfl
set_option maxRecDepth 100000 in
theorem eL_644 {d rk : Nat} {L st : List Value} {h : Hp} : EvI (EvM d) CL rk 644 L st h = (popI st fun i s => popR s fun r s => (ialdF h r i).bind fun x => EvI (EvM d) CL rk 645 L (.int x :: s) h) := (Ev_step 644 L st h).trans rfl
set_option maxRecDepth 100000 in
theorem eL_645 {d rk : Nat} {L st : List Value} {h : Hp} : EvI (EvM d) CL rk 645 L st h = (if 1 ≤ st.length then (popR (st.drop 1) fun r s => if clsB h r 9 = true ∧ catS s ≤ 8 then (EvM d 173 (.ref r :: (st.take 1).reverse) h).bind fun q => EvI (EvM d) CL rk 648 L (.int q.1 :: s) q.2 else none) else none) := (Ev_step 645 L st h).trans rfl
set_option maxRecDepth 100000 in
theorem eL_648 {d rk : Nat} {L st : List Value} {h : Hp} : EvI (EvM d) CL rk 648 L st h = (popI2 st fun x y s => if x = y then EvI (EvM d) CL rk 1383 L s h else EvI (EvM d) CL rk 651 L s h) := (Ev_step 648 L st h).trans rfl
set_option maxRecDepth 100000 in
theorem eL_651 {d rk : Nat} {L st : List Value} {h : Hp} : EvI (EvM d) CL rk 651 L st h = (EvI (EvM d) CL rk 652 L (.int 0 :: st) h) := (Ev_step 651 L st h).trans rfl
set_option maxRecDepth 100000 in
theorem eL_652 {d rk : Nat} {L st : List Value} {h : Hp} : EvI (EvM d) CL rk 652 L st h = (popI st fun v s => if s = [] ∧ okR rk v = true then some (v, h) else none) := (Ev_step 652 L st h).trans rfl
set_option maxRecDepth 100000 in
theorem eL_653 {d rk : Nat} {L st : List Value} {h : Hp} : EvI (EvM d) CL rk 653 L st h = (asR (lGet L 1) fun x => EvI (EvM d) CL rk 654 L (.ref x :: st) h) := (Ev_step 653 L st h).trans rfl
set_option maxRecDepth 100000 in
theorem eL_654 {d rk : Nat} {L st : List Value} {h : Hp} : EvI (EvM d) CL rk 654 L st h = (asR (lGet L 0) fun x => EvI (EvM d) CL rk 655 L (.ref x :: st) h) := (Ev_step 654 L st h).trans rfl
set_option maxRecDepth 100000 in
theorem eL_655 {d rk : Nat} {L st : List Value} {h : Hp} : EvI (EvM d) CL rk 655 L st h = (asI (lGet L 3) fun x => EvI (EvM d) CL rk 656 L (.int x :: st) h) := (Ev_step 655 L st h).trans rfl
set_option maxRecDepth 100000 in
theorem eL_656 {d rk : Nat} {L st : List Value} {h : Hp} : EvI (EvM d) CL rk 656 L st h = (EvI (EvM d) CL rk 657 L (.int 1 :: st) h) := (Ev_step 656 L st h).trans rfl
set_option maxRecDepth 100000 in
theorem eL_657 {d rk : Nat} {L st : List Value} {h : Hp} : EvI (EvM d) CL rk 657 L st h = (popI2 st fun x y s => EvI (EvM d) CL rk 658 L (.int (x + y) :: s) h) := (Ev_step 657 L st h).trans rfl
set_option maxRecDepth 100000 in
theorem eL_658 {d rk : Nat} {L st : List Value} {h : Hp} : EvI (EvM d) CL rk 658 L st h = (popI st fun i s => popR s fun r s => (ialdF h r i).bind fun x => EvI (EvM d) CL rk 659 L (.int x :: s) h) := (Ev_step 658 L st h).trans rfl
set_option maxRecDepth 100000 in
theorem eL_659 {d rk : Nat} {L st : List Value} {h : Hp} : EvI (EvM d) CL rk 659 L st h = (asR (lGet L 0) fun x => EvI (EvM d) CL rk 660 L (.ref x :: st) h) := (Ev_step 659 L st h).trans rfl
set_option maxRecDepth 100000 in
theorem eL_660 {d rk : Nat} {L st : List Value} {h : Hp} : EvI (EvM d) CL rk 660 L st h = (asI (lGet L 3) fun x => EvI (EvM d) CL rk 661 L (.int x :: st) h) := (Ev_step 660 L st h).trans rfl
set_option maxRecDepth 100000 in
theorem eL_661 {d rk : Nat} {L st : List Value} {h : Hp} : EvI (EvM d) CL rk 661 L st h = (EvI (EvM d) CL rk 662 L (.int 2 :: st) h) := (Ev_step 661 L st h).trans rfl
set_option maxRecDepth 100000 in
theorem eL_662 {d rk : Nat} {L st : List Value} {h : Hp} : EvI (EvM d) CL rk 662 L st h = (popI2 st fun x y s => EvI (EvM d) CL rk 663 L (.int (x + y) :: s) h) := (Ev_step 662 L st h).trans rfl
set_option maxRecDepth 100000 in
theorem eL_663 {d rk : Nat} {L st : List Value} {h : Hp} : EvI (EvM d) CL rk 663 L st h = (popI st fun i s => popR s fun r s => (ialdF h r i).bind fun x => EvI (EvM d) CL rk 664 L (.int x :: s) h) := (Ev_step 663 L st h).trans rfl
set_option maxRecDepth 100000 in
theorem eL_664 {d rk : Nat} {L st : List Value} {h : Hp} : EvI (EvM d) CL rk 664 L st h = (if 2 ≤ st.length then (popR (st.drop 2) fun r s => if clsB h r 8 = true ∧ catS s ≤ 8 then (EvM d 101 (.ref r :: (st.take 2).reverse) h).bind fun q => EvI (EvM d) CL rk 667 L (.int q.1 :: s) q.2 else none) else none) := (Ev_step 664 L st h).trans rfl
set_option maxRecDepth 100000 in
theorem eL_667 {d rk : Nat} {L st : List Value} {h : Hp} : EvI (EvM d) CL rk 667 L st h = (asR (lGet L 2) fun x => EvI (EvM d) CL rk 668 L (.ref x :: st) h) := (Ev_step 667 L st h).trans rfl
set_option maxRecDepth 100000 in
theorem eL_668 {d rk : Nat} {L st : List Value} {h : Hp} : EvI (EvM d) CL rk 668 L st h = (asR (lGet L 0) fun x => EvI (EvM d) CL rk 669 L (.ref x :: st) h) := (Ev_step 668 L st h).trans rfl
set_option maxRecDepth 100000 in
theorem eL_669 {d rk : Nat} {L st : List Value} {h : Hp} : EvI (EvM d) CL rk 669 L st h = (asI (lGet L 3) fun x => EvI (EvM d) CL rk 670 L (.int x :: st) h) := (Ev_step 669 L st h).trans rfl
set_option maxRecDepth 100000 in
theorem eL_670 {d rk : Nat} {L st : List Value} {h : Hp} : EvI (EvM d) CL rk 670 L st h = (EvI (EvM d) CL rk 671 L (.int 1 :: st) h) := (Ev_step 670 L st h).trans rfl
set_option maxRecDepth 100000 in
theorem eL_671 {d rk : Nat} {L st : List Value} {h : Hp} : EvI (EvM d) CL rk 671 L st h = (popI2 st fun x y s => EvI (EvM d) CL rk 672 L (.int (x + y) :: s) h) := (Ev_step 671 L st h).trans rfl
set_option maxRecDepth 100000 in
theorem eL_672 {d rk : Nat} {L st : List Value} {h : Hp} : EvI (EvM d) CL rk 672 L st h = (popI st fun i s => popR s fun r s => (ialdF h r i).bind fun x => EvI (EvM d) CL rk 673 L (.int x :: s) h) := (Ev_step 672 L st h).trans rfl
set_option maxRecDepth 100000 in
theorem eL_673 {d rk : Nat} {L st : List Value} {h : Hp} : EvI (EvM d) CL rk 673 L st h = (asR (lGet L 0) fun x => EvI (EvM d) CL rk 674 L (.ref x :: st) h) := (Ev_step 673 L st h).trans rfl
set_option maxRecDepth 100000 in
theorem eL_674 {d rk : Nat} {L st : List Value} {h : Hp} : EvI (EvM d) CL rk 674 L st h = (asI (lGet L 3) fun x => EvI (EvM d) CL rk 675 L (.int x :: st) h) := (Ev_step 674 L st h).trans rfl
set_option maxRecDepth 100000 in
theorem eL_675 {d rk : Nat} {L st : List Value} {h : Hp} : EvI (EvM d) CL rk 675 L st h = (EvI (EvM d) CL rk 676 L (.int 2 :: st) h) := (Ev_step 675 L st h).trans rfl
set_option maxRecDepth 100000 in
theorem eL_676 {d rk : Nat} {L st : List Value} {h : Hp} : EvI (EvM d) CL rk 676 L st h = (popI2 st fun x y s => EvI (EvM d) CL rk 677 L (.int (x + y) :: s) h) := (Ev_step 676 L st h).trans rfl
set_option maxRecDepth 100000 in
theorem eL_677 {d rk : Nat} {L st : List Value} {h : Hp} : EvI (EvM d) CL rk 677 L st h = (popI st fun i s => popR s fun r s => (ialdF h r i).bind fun x => EvI (EvM d) CL rk 678 L (.int x :: s) h) := (Ev_step 677 L st h).trans rfl
set_option maxRecDepth 100000 in
theorem eL_678 {d rk : Nat} {L st : List Value} {h : Hp} : EvI (EvM d) CL rk 678 L st h = (if 2 ≤ st.length then (popR (st.drop 2) fun r s => if clsB h r 9 = true ∧ catS s ≤ 8 then (EvM d 174 (.ref r :: (st.take 2).reverse) h).bind fun q => EvI (EvM d) CL rk 681 L (.int q.1 :: s) q.2 else none) else none) := (Ev_step 678 L st h).trans rfl
set_option maxRecDepth 100000 in
theorem eL_681 {d rk : Nat} {L st : List Value} {h : Hp} : EvI (EvM d) CL rk 681 L st h = (popI2 st fun x y s => if x = y then EvI (EvM d) CL rk 1383 L s h else EvI (EvM d) CL rk 684 L s h) := (Ev_step 681 L st h).trans rfl
set_option maxRecDepth 100000 in
theorem eL_684 {d rk : Nat} {L st : List Value} {h : Hp} : EvI (EvM d) CL rk 684 L st h = (EvI (EvM d) CL rk 685 L (.int 0 :: st) h) := (Ev_step 684 L st h).trans rfl
set_option maxRecDepth 100000 in
theorem eL_685 {d rk : Nat} {L st : List Value} {h : Hp} : EvI (EvM d) CL rk 685 L st h = (popI st fun v s => if s = [] ∧ okR rk v = true then some (v, h) else none) := (Ev_step 685 L st h).trans rfl
set_option maxRecDepth 100000 in
theorem eL_686 {d rk : Nat} {L st : List Value} {h : Hp} : EvI (EvM d) CL rk 686 L st h = (asR (lGet L 1) fun x => EvI (EvM d) CL rk 687 L (.ref x :: st) h) := (Ev_step 686 L st h).trans rfl
set_option maxRecDepth 100000 in
theorem eL_687 {d rk : Nat} {L st : List Value} {h : Hp} : EvI (EvM d) CL rk 687 L st h = (asR (lGet L 0) fun x => EvI (EvM d) CL rk 688 L (.ref x :: st) h) := (Ev_step 687 L st h).trans rfl
set_option maxRecDepth 100000 in
theorem eL_688 {d rk : Nat} {L st : List Value} {h : Hp} : EvI (EvM d) CL rk 688 L st h = (asI (lGet L 3) fun x => EvI (EvM d) CL rk 689 L (.int x :: st) h) := (Ev_step 688 L st h).trans rfl
set_option maxRecDepth 100000 in
theorem eL_689 {d rk : Nat} {L st : List Value} {h : Hp} : EvI (EvM d) CL rk 689 L st h = (EvI (EvM d) CL rk 690 L (.int 1 :: st) h) := (Ev_step 689 L st h).trans rfl
set_option maxRecDepth 100000 in
theorem eL_690 {d rk : Nat} {L st : List Value} {h : Hp} : EvI (EvM d) CL rk 690 L st h = (popI2 st fun x y s => EvI (EvM d) CL rk 691 L (.int (x + y) :: s) h) := (Ev_step 690 L st h).trans rfl
set_option maxRecDepth 100000 in
theorem eL_691 {d rk : Nat} {L st : List Value} {h : Hp} : EvI (EvM d) CL rk 691 L st h = (popI st fun i s => popR s fun r s => (ialdF h r i).bind fun x => EvI (EvM d) CL rk 692 L (.int x :: s) h) := (Ev_step 691 L st h).trans rfl
set_option maxRecDepth 100000 in
theorem eL_692 {d rk : Nat} {L st : List Value} {h : Hp} : EvI (EvM d) CL rk 692 L st h = (asR (lGet L 0) fun x => EvI (EvM d) CL rk 693 L (.ref x :: st) h) := (Ev_step 692 L st h).trans rfl
set_option maxRecDepth 100000 in
theorem eL_693 {d rk : Nat} {L st : List Value} {h : Hp} : EvI (EvM d) CL rk 693 L st h = (asI (lGet L 3) fun x => EvI (EvM d) CL rk 694 L (.int x :: st) h) := (Ev_step 693 L st h).trans rfl
set_option maxRecDepth 100000 in
theorem eL_694 {d rk : Nat} {L st : List Value} {h : Hp} : EvI (EvM d) CL rk 694 L st h = (EvI (EvM d) CL rk 695 L (.int 2 :: st) h) := (Ev_step 694 L st h).trans rfl
set_option maxRecDepth 100000 in
theorem eL_695 {d rk : Nat} {L st : List Value} {h : Hp} : EvI (EvM d) CL rk 695 L st h = (popI2 st fun x y s => EvI (EvM d) CL rk 696 L (.int (x + y) :: s) h) := (Ev_step 695 L st h).trans rfl
set_option maxRecDepth 100000 in
theorem eL_696 {d rk : Nat} {L st : List Value} {h : Hp} : EvI (EvM d) CL rk 696 L st h = (popI st fun i s => popR s fun r s => (ialdF h r i).bind fun x => EvI (EvM d) CL rk 697 L (.int x :: s) h) := (Ev_step 696 L st h).trans rfl
set_option maxRecDepth 100000 in
theorem eL_697 {d rk : Nat} {L st : List Value} {h : Hp} : EvI (EvM d) CL rk 697 L st h = (asR (lGet L 0) fun x => EvI (EvM d) CL rk 698 L (.ref x :: st) h) := (Ev_step 697 L st h).trans rfl
set_option maxRecDepth 100000 in
theorem eL_698 {d rk : Nat} {L st : List Value} {h : Hp} : EvI (EvM d) CL rk 698 L st h = (asI (lGet L 3) fun x => EvI (EvM d) CL rk 699 L (.int x :: st) h) := (Ev_step 698 L st h).trans rfl
set_option maxRecDepth 100000 in
theorem eL_699 {d rk : Nat} {L st : List Value} {h : Hp} : EvI (EvM d) CL rk 699 L st h = (EvI (EvM d) CL rk 700 L (.int 3 :: st) h) := (Ev_step 699 L st h).trans rfl
set_option maxRecDepth 100000 in
theorem eL_700 {d rk : Nat} {L st : List Value} {h : Hp} : EvI (EvM d) CL rk 700 L st h = (popI2 st fun x y s => EvI (EvM d) CL rk 701 L (.int (x + y) :: s) h) := (Ev_step 700 L st h).trans rfl
set_option maxRecDepth 100000 in
theorem eL_701 {d rk : Nat} {L st : List Value} {h : Hp} : EvI (EvM d) CL rk 701 L st h = (popI st fun i s => popR s fun r s => (ialdF h r i).bind fun x => EvI (EvM d) CL rk 702 L (.int x :: s) h) := (Ev_step 701 L st h).trans rfl
set_option maxRecDepth 100000 in
theorem eL_702 {d rk : Nat} {L st : List Value} {h : Hp} : EvI (EvM d) CL rk 702 L st h = (if 3 ≤ st.length then (popR (st.drop 3) fun r s => if clsB h r 8 = true ∧ catS s ≤ 8 then (EvM d 102 (.ref r :: (st.take 3).reverse) h).bind fun q => EvI (EvM d) CL rk 705 L (.int q.1 :: s) q.2 else none) else none) := (Ev_step 702 L st h).trans rfl
set_option maxRecDepth 100000 in
theorem eL_705 {d rk : Nat} {L st : List Value} {h : Hp} : EvI (EvM d) CL rk 705 L st h = (asR (lGet L 2) fun x => EvI (EvM d) CL rk 706 L (.ref x :: st) h) := (Ev_step 705 L st h).trans rfl
set_option maxRecDepth 100000 in
theorem eL_706 {d rk : Nat} {L st : List Value} {h : Hp} : EvI (EvM d) CL rk 706 L st h = (asR (lGet L 0) fun x => EvI (EvM d) CL rk 707 L (.ref x :: st) h) := (Ev_step 706 L st h).trans rfl
set_option maxRecDepth 100000 in
theorem eL_707 {d rk : Nat} {L st : List Value} {h : Hp} : EvI (EvM d) CL rk 707 L st h = (asI (lGet L 3) fun x => EvI (EvM d) CL rk 708 L (.int x :: st) h) := (Ev_step 707 L st h).trans rfl
set_option maxRecDepth 100000 in
theorem eL_708 {d rk : Nat} {L st : List Value} {h : Hp} : EvI (EvM d) CL rk 708 L st h = (EvI (EvM d) CL rk 709 L (.int 1 :: st) h) := (Ev_step 708 L st h).trans rfl
set_option maxRecDepth 100000 in
theorem eL_709 {d rk : Nat} {L st : List Value} {h : Hp} : EvI (EvM d) CL rk 709 L st h = (popI2 st fun x y s => EvI (EvM d) CL rk 710 L (.int (x + y) :: s) h) := (Ev_step 709 L st h).trans rfl
set_option maxRecDepth 100000 in
theorem eL_710 {d rk : Nat} {L st : List Value} {h : Hp} : EvI (EvM d) CL rk 710 L st h = (popI st fun i s => popR s fun r s => (ialdF h r i).bind fun x => EvI (EvM d) CL rk 711 L (.int x :: s) h) := (Ev_step 710 L st h).trans rfl
set_option maxRecDepth 100000 in
theorem eL_711 {d rk : Nat} {L st : List Value} {h : Hp} : EvI (EvM d) CL rk 711 L st h = (asR (lGet L 0) fun x => EvI (EvM d) CL rk 712 L (.ref x :: st) h) := (Ev_step 711 L st h).trans rfl
set_option maxRecDepth 100000 in
theorem eL_712 {d rk : Nat} {L st : List Value} {h : Hp} : EvI (EvM d) CL rk 712 L st h = (asI (lGet L 3) fun x => EvI (EvM d) CL rk 713 L (.int x :: st) h) := (Ev_step 712 L st h).trans rfl
set_option maxRecDepth 100000 in
theorem eL_713 {d rk : Nat} {L st : List Value} {h : Hp} : EvI (EvM d) CL rk 713 L st h = (EvI (EvM d) CL rk 714 L (.int 2 :: st) h) := (Ev_step 713 L st h).trans rfl
set_option maxRecDepth 100000 in
theorem eL_714 {d rk : Nat} {L st : List Value} {h : Hp} : EvI (EvM d) CL rk 714 L st h = (popI2 st fun x y s => EvI (EvM d) CL rk 715 L (.int (x + y) :: s) h) := (Ev_step 714 L st h).trans rfl
set_option maxRecDepth 100000 in
theorem eL_715 {d rk : Nat} {L st : List Value} {h : Hp} : EvI (EvM d) CL rk 715 L st h = (popI st fun i s => popR s fun r s => (ialdF h r i).bind fun x => EvI (EvM d) CL rk 716 L (.int x :: s) h) := (Ev_step 715 L st h).trans rfl
set_option maxRecDepth 100000 in
theorem eL_716 {d rk : Nat} {L st : List Value} {h : Hp} : EvI (EvM d) CL rk 716 L st h = (asR (lGet L 0) fun x => EvI (EvM d) CL rk 717 L (.ref x :: st) h) := (Ev_step 716 L st h).trans rfl
set_option maxRecDepth 100000 in
theorem eL_717 {d rk : Nat} {L st : List Value} {h : Hp} : EvI (EvM d) CL rk 717 L st h = (asI (lGet L 3) fun x => EvI (EvM d) CL rk 718 L (.int x :: st) h) := (Ev_step 717 L st h).trans rfl
set_option maxRecDepth 100000 in
theorem eL_718 {d rk : Nat} {L st : List Value} {h : Hp} : EvI (EvM d) CL rk 718 L st h = (EvI (EvM d) CL rk 719 L (.int 3 :: st) h) := (Ev_step 718 L st h).trans rfl
set_option maxRecDepth 100000 in
theorem eL_719 {d rk : Nat} {L st : List Value} {h : Hp} : EvI (EvM d) CL rk 719 L st h = (popI2 st fun x y s => EvI (EvM d) CL rk 720 L (.int (x + y) :: s) h) := (Ev_step 719 L st h).trans rfl
set_option maxRecDepth 100000 in
theorem eL_720 {d rk : Nat} {L st : List Value} {h : Hp} : EvI (EvM d) CL rk 720 L st h = (popI st fun i s => popR s fun r s => (ialdF h r i).bind fun x => EvI (EvM d) CL rk 721 L (.int x :: s) h) := (Ev_step 720 L st h).trans rfl
set_option maxRecDepth 100000 in
theorem eL_721 {d rk : Nat} {L st : List Value} {h : Hp} : EvI (EvM d) CL rk 721 L st h = (if 3 ≤ st.length then (popR (st.drop 3) fun r s => if clsB h r 9 = true ∧ catS s ≤ 8 then (EvM d 175 (.ref r :: (st.take 3).reverse) h).bind fun q => EvI (EvM d) CL rk 724 L (.int q.1 :: s) q.2 else none) else none) := (Ev_step 721 L st h).trans rfl
set_option maxRecDepth 100000 in
theorem eL_724 {d rk : Nat} {L st : List Value} {h : Hp} : EvI (EvM d) CL rk 724 L st h = (popI2 st fun x y s => if x = y then EvI (EvM d) CL rk 1383 L s h else EvI (EvM d) CL rk 727 L s h) := (Ev_step 724 L st h).trans rfl
set_option maxRecDepth 100000 in
theorem eL_727 {d rk : Nat} {L st : List Value} {h : Hp} : EvI (EvM d) CL rk 727 L st h = (EvI (EvM d) CL rk 728 L (.int 0 :: st) h) := (Ev_step 727 L st h).trans rfl
set_option maxRecDepth 100000 in
theorem eL_728 {d rk : Nat} {L st : List Value} {h : Hp} : EvI (EvM d) CL rk 728 L st h = (popI st fun v s => if s = [] ∧ okR rk v = true then some (v, h) else none) := (Ev_step 728 L st h).trans rfl
set_option maxRecDepth 100000 in
theorem eL_729 {d rk : Nat} {L st : List Value} {h : Hp} : EvI (EvM d) CL rk 729 L st h = (asR (lGet L 1) fun x => EvI (EvM d) CL rk 730 L (.ref x :: st) h) := (Ev_step 729 L st h).trans rfl
set_option maxRecDepth 100000 in
theorem eL_730 {d rk : Nat} {L st : List Value} {h : Hp} : EvI (EvM d) CL rk 730 L st h = (asR (lGet L 0) fun x => EvI (EvM d) CL rk 731 L (.ref x :: st) h) := (Ev_step 730 L st h).trans rfl
set_option maxRecDepth 100000 in
theorem eL_731 {d rk : Nat} {L st : List Value} {h : Hp} : EvI (EvM d) CL rk 731 L st h = (asI (lGet L 3) fun x => EvI (EvM d) CL rk 732 L (.int x :: st) h) := (Ev_step 731 L st h).trans rfl
set_option maxRecDepth 100000 in
theorem eL_732 {d rk : Nat} {L st : List Value} {h : Hp} : EvI (EvM d) CL rk 732 L st h = (EvI (EvM d) CL rk 733 L (.int 1 :: st) h) := (Ev_step 732 L st h).trans rfl
set_option maxRecDepth 100000 in
theorem eL_733 {d rk : Nat} {L st : List Value} {h : Hp} : EvI (EvM d) CL rk 733 L st h = (popI2 st fun x y s => EvI (EvM d) CL rk 734 L (.int (x + y) :: s) h) := (Ev_step 733 L st h).trans rfl
set_option maxRecDepth 100000 in
theorem eL_734 {d rk : Nat} {L st : List Value} {h : Hp} : EvI (EvM d) CL rk 734 L st h = (popI st fun i s => popR s fun r s => (ialdF h r i).bind fun x => EvI (EvM d) CL rk 735 L (.int x :: s) h) := (Ev_step 734 L st h).trans rfl
set_option maxRecDepth 100000 in
theorem eL_735 {d rk : Nat} {L st : List Value} {h : Hp} : EvI (EvM d) CL rk 735 L st h = (asR (lGet L 0) fun x => EvI (EvM d) CL rk 736 L (.ref x :: st) h) := (Ev_step 735 L st h).trans rfl
set_option maxRecDepth 100000 in
theorem eL_736 {d rk : Nat} {L st : List Value} {h : Hp} : EvI (EvM d) CL rk 736 L st h = (asI (lGet L 3) fun x => EvI (EvM d) CL rk 737 L (.int x :: st) h) := (Ev_step 736 L st h).trans rfl
set_option maxRecDepth 100000 in
theorem eL_737 {d rk : Nat} {L st : List Value} {h : Hp} : EvI (EvM d) CL rk 737 L st h = (EvI (EvM d) CL rk 738 L (.int 2 :: st) h) := (Ev_step 737 L st h).trans rfl
set_option maxRecDepth 100000 in
theorem eL_738 {d rk : Nat} {L st : List Value} {h : Hp} : EvI (EvM d) CL rk 738 L st h = (popI2 st fun x y s => EvI (EvM d) CL rk 739 L (.int (x + y) :: s) h) := (Ev_step 738 L st h).trans rfl
set_option maxRecDepth 100000 in
theorem eL_739 {d rk : Nat} {L st : List Value} {h : Hp} : EvI (EvM d) CL rk 739 L st h = (popI st fun i s => popR s fun r s => (ialdF h r i).bind fun x => EvI (EvM d) CL rk 740 L (.int x :: s) h) := (Ev_step 739 L st h).trans rfl
set_option maxRecDepth 100000 in
theorem eL_740 {d rk : Nat} {L st : List Value} {h : Hp} : EvI (EvM d) CL rk 740 L st h = (asR (lGet L 0) fun x => EvI (EvM d) CL rk 741 L (.ref x :: st) h) := (Ev_step 740 L st h).trans rfl
set_option maxRecDepth 100000 in
theorem eL_741 {d rk : Nat} {L st : List Value} {h : Hp} : EvI (EvM d) CL rk 741 L st h = (asI (lGet L 3) fun x => EvI (EvM d) CL rk 742 L (.int x :: st) h) := (Ev_step 741 L st h).trans rfl
set_option maxRecDepth 100000 in
theorem eL_742 {d rk : Nat} {L st : List Value} {h : Hp} : EvI (EvM d) CL rk 742 L st h = (EvI (EvM d) CL rk 743 L (.int 3 :: st) h) := (Ev_step 742 L st h).trans rfl
set_option maxRecDepth 100000 in
theorem eL_743 {d rk : Nat} {L st : List Value} {h : Hp} : EvI (EvM d) CL rk 743 L st h = (popI2 st fun x y s => EvI (EvM d) CL rk 744 L (.int (x + y) :: s) h) := (Ev_step 743 L st h).trans rfl
set_option maxRecDepth 100000 in
theorem eL_744 {d rk : Nat} {L st : List Value} {h : Hp} : EvI (EvM d) CL rk 744 L st h = (popI st fun i s => popR s fun r s => (ialdF h r i).bind fun x => EvI (EvM d) CL rk 745 L (.int x :: s) h) := (Ev_step 744 L st h).trans rfl
set_option maxRecDepth 100000 in
theorem eL_745 {d rk : Nat} {L st : List Value} {h : Hp} : EvI (EvM d) CL rk 745 L st h = (asR (lGet L 0) fun x => EvI (EvM d) CL rk 746 L (.ref x :: st) h) := (Ev_step 745 L st h).trans rfl
set_option maxRecDepth 100000 in
theorem eL_746 {d rk : Nat} {L st : List Value} {h : Hp} : EvI (EvM d) CL rk 746 L st h = (asI (lGet L 3) fun x => EvI (EvM d) CL rk 747 L (.int x :: st) h) := (Ev_step 746 L st h).trans rfl
set_option maxRecDepth 100000 in
theorem eL_747 {d rk : Nat} {L st : List Value} {h : Hp} : EvI (EvM d) CL rk 747 L st h = (EvI (EvM d) CL rk 748 L (.int 4 :: st) h) := (Ev_step 747 L st h).trans rfl
set_option maxRecDepth 100000 in
theorem eL_748 {d rk : Nat} {L st : List Value} {h : Hp} : EvI (EvM d) CL rk 748 L st h = (popI2 st fun x y s => EvI (EvM d) CL rk 749 L (.int (x + y) :: s) h) := (Ev_step 748 L st h).trans rfl
set_option maxRecDepth 100000 in
theorem eL_749 {d rk : Nat} {L st : List Value} {h : Hp} : EvI (EvM d) CL rk 749 L st h = (popI st fun i s => popR s fun r s => (ialdF h r i).bind fun x => EvI (EvM d) CL rk 750 L (.int x :: s) h) := (Ev_step 749 L st h).trans rfl
set_option maxRecDepth 100000 in
theorem eL_750 {d rk : Nat} {L st : List Value} {h : Hp} : EvI (EvM d) CL rk 750 L st h = (if 4 ≤ st.length then (popR (st.drop 4) fun r s => if clsB h r 8 = true ∧ catS s ≤ 8 then (EvM d 103 (.ref r :: (st.take 4).reverse) h).bind fun q => EvI (EvM d) CL rk 753 L (.int q.1 :: s) q.2 else none) else none) := (Ev_step 750 L st h).trans rfl
set_option maxRecDepth 100000 in
theorem eL_753 {d rk : Nat} {L st : List Value} {h : Hp} : EvI (EvM d) CL rk 753 L st h = (asR (lGet L 2) fun x => EvI (EvM d) CL rk 754 L (.ref x :: st) h) := (Ev_step 753 L st h).trans rfl
set_option maxRecDepth 100000 in
theorem eL_754 {d rk : Nat} {L st : List Value} {h : Hp} : EvI (EvM d) CL rk 754 L st h = (asR (lGet L 0) fun x => EvI (EvM d) CL rk 755 L (.ref x :: st) h) := (Ev_step 754 L st h).trans rfl
set_option maxRecDepth 100000 in
theorem eL_755 {d rk : Nat} {L st : List Value} {h : Hp} : EvI (EvM d) CL rk 755 L st h = (asI (lGet L 3) fun x => EvI (EvM d) CL rk 756 L (.int x :: st) h) := (Ev_step 755 L st h).trans rfl
set_option maxRecDepth 100000 in
theorem eL_756 {d rk : Nat} {L st : List Value} {h : Hp} : EvI (EvM d) CL rk 756 L st h = (EvI (EvM d) CL rk 757 L (.int 1 :: st) h) := (Ev_step 756 L st h).trans rfl
set_option maxRecDepth 100000 in
theorem eL_757 {d rk : Nat} {L st : List Value} {h : Hp} : EvI (EvM d) CL rk 757 L st h = (popI2 st fun x y s => EvI (EvM d) CL rk 758 L (.int (x + y) :: s) h) := (Ev_step 757 L st h).trans rfl
set_option maxRecDepth 100000 in
theorem eL_758 {d rk : Nat} {L st : List Value} {h : Hp} : EvI (EvM d) CL rk 758 L st h = (popI st fun i s => popR s fun r s => (ialdF h r i).bind fun x => EvI (EvM d) CL rk 759 L (.int x :: s) h) := (Ev_step 758 L st h).trans rfl
set_option maxRecDepth 100000 in
theorem eL_759 {d rk : Nat} {L st : List Value} {h : Hp} : EvI (EvM d) CL rk 759 L st h = (asR (lGet L 0) fun x => EvI (EvM d) CL rk 760 L (.ref x :: st) h) := (Ev_step 759 L st h).trans rfl
set_option maxRecDepth 100000 in
theorem eL_760 {d rk : Nat} {L st : List Value} {h : Hp} : EvI (EvM d) CL rk 760 L st h = (asI (lGet L 3) fun x => EvI (EvM d) CL rk 761 L (.int x :: st) h) := (Ev_step 760 L st h).trans rfl
set_option maxRecDepth 100000 in
theorem eL_761 {d rk : Nat} {L st : List Value} {h : Hp} : EvI (EvM d) CL rk 761 L st h = (EvI (EvM d) CL rk 762 L (.int 2 :: st) h) := (Ev_step 761 L st h).trans rfl
set_option maxRecDepth 100000 in
theorem eL_762 {d rk : Nat} {L st : List Value} {h : Hp} : EvI (EvM d) CL rk 762 L st h = (popI2 st fun x y s => EvI (EvM d) CL rk 763 L (.int (x + y) :: s) h) := (Ev_step 762 L st h).trans rfl
set_option maxRecDepth 100000 in
theorem eL_763 {d rk : Nat} {L st : List Value} {h : Hp} : EvI (EvM d) CL rk 763 L st h = (popI st fun i s => popR s fun r s => (ialdF h r i).bind fun x => EvI (EvM d) CL rk 764 L (.int x :: s) h) := (Ev_step 763 L st h).trans rfl
set_option maxRecDepth 100000 in
theorem eL_764 {d rk : Nat} {L st : List Value} {h : Hp} : EvI (EvM d) CL rk 764 L st h = (asR (lGet L 0) fun x => EvI (EvM d) CL rk 765 L (.ref x :: st) h) := (Ev_step 764 L st h).trans rfl
set_option maxRecDepth 100000 in
theorem eL_765 {d rk : Nat} {L st : List Value} {h : Hp} : EvI (EvM d) CL rk 765 L st h = (asI (lGet L 3) fun x => EvI (EvM d) CL rk 766 L (.int x :: st) h) := (Ev_step 765 L st h).trans rfl
set_option maxRecDepth 100000 in
theorem eL_766 {d rk : Nat} {L st : List Value} {h : Hp} : EvI (EvM d) CL rk 766 L st h = (EvI (EvM d) CL rk 767 L (.int 3 :: st) h) := (Ev_step 766 L st h).trans rfl
set_option maxRecDepth 100000 in
theorem eL_767 {d rk : Nat} {L st : List Value} {h : Hp} : EvI (EvM d) CL rk 767 L st h = (popI2 st fun x y s => EvI (EvM d) CL rk 768 L (.int (x + y) :: s) h) := (Ev_step 767 L st h).trans rfl
set_option maxRecDepth 100000 in
theorem eL_768 {d rk : Nat} {L st : List Value} {h : Hp} : EvI (EvM d) CL rk 768 L st h = (popI st fun i s => popR s fun r s => (ialdF h r i).bind fun x => EvI (EvM d) CL rk 769 L (.int x :: s) h) := (Ev_step 768 L st h).trans rfl
set_option maxRecDepth 100000 in
theorem eL_769 {d rk : Nat} {L st : List Value} {h : Hp} : EvI (EvM d) CL rk 769 L st h = (asR (lGet L 0) fun x => EvI (EvM d) CL rk 770 L (.ref x :: st) h) := (Ev_step 769 L st h).trans rfl
set_option maxRecDepth 100000 in
theorem eL_770 {d rk : Nat} {L st : List Value} {h : Hp} : EvI (EvM d) CL rk 770 L st h = (asI (lGet L 3) fun x => EvI (EvM d) CL rk 771 L (.int x :: st) h) := (Ev_step 770 L st h).trans rfl
set_option maxRecDepth 100000 in
theorem eL_771 {d rk : Nat} {L st : List Value} {h : Hp} : EvI (EvM d) CL rk 771 L st h = (EvI (EvM d) CL rk 772 L (.int 4 :: st) h) := (Ev_step 771 L st h).trans rfl
set_option maxRecDepth 100000 in
theorem eL_772 {d rk : Nat} {L st : List Value} {h : Hp} : EvI (EvM d) CL rk 772 L st h = (popI2 st fun x y s => EvI (EvM d) CL rk 773 L (.int (x + y) :: s) h) := (Ev_step 772 L st h).trans rfl
set_option maxRecDepth 100000 in
theorem eL_773 {d rk : Nat} {L st : List Value} {h : Hp} : EvI (EvM d) CL rk 773 L st h = (popI st fun i s => popR s fun r s => (ialdF h r i).bind fun x => EvI (EvM d) CL rk 774 L (.int x :: s) h) := (Ev_step 773 L st h).trans rfl
set_option maxRecDepth 100000 in
theorem eL_774 {d rk : Nat} {L st : List Value} {h : Hp} : EvI (EvM d) CL rk 774 L st h = (if 4 ≤ st.length then (popR (st.drop 4) fun r s => if clsB h r 9 = true ∧ catS s ≤ 8 then (EvM d 177 (.ref r :: (st.take 4).reverse) h).bind fun q => EvI (EvM d) CL rk 777 L (.int q.1 :: s) q.2 else none) else none) := (Ev_step 774 L st h).trans rfl
set_option maxRecDepth 100000 in
theorem eL_777 {d rk : Nat} {L st : List Value} {h : Hp} : EvI (EvM d) CL rk 777 L st h = (popI2 st fun x y s => if x = y then EvI (EvM d) CL rk 1383 L s h else EvI (EvM d) CL rk 780 L s h) := (Ev_step 777 L st h).trans rfl
set_option maxRecDepth 100000 in
theorem eL_780 {d rk : Nat} {L st : List Value} {h : Hp} : EvI (EvM d) CL rk 780 L st h = (EvI (EvM d) CL rk 781 L (.int 0 :: st) h) := (Ev_step 780 L st h).trans rfl
set_option maxRecDepth 100000 in
theorem eL_781 {d rk : Nat} {L st : List Value} {h : Hp} : EvI (EvM d) CL rk 781 L st h = (popI st fun v s => if s = [] ∧ okR rk v = true then some (v, h) else none) := (Ev_step 781 L st h).trans rfl
set_option maxRecDepth 100000 in
theorem eL_782 {d rk : Nat} {L st : List Value} {h : Hp} : EvI (EvM d) CL rk 782 L st h = (asR (lGet L 1) fun x => EvI (EvM d) CL rk 783 L (.ref x :: st) h) := (Ev_step 782 L st h).trans rfl
set_option maxRecDepth 100000 in
theorem eL_783 {d rk : Nat} {L st : List Value} {h : Hp} : EvI (EvM d) CL rk 783 L st h = (asR (lGet L 0) fun x => EvI (EvM d) CL rk 784 L (.ref x :: st) h) := (Ev_step 783 L st h).trans rfl
set_option maxRecDepth 100000 in
theorem eL_784 {d rk : Nat} {L st : List Value} {h : Hp} : EvI (EvM d) CL rk 784 L st h = (asI (lGet L 3) fun x => EvI (EvM d) CL rk 785 L (.int x :: st) h) := (Ev_step 784 L st h).trans rfl
set_option maxRecDepth 100000 in
theorem eL_785 {d rk : Nat} {L st : List Value} {h : Hp} : EvI (EvM d) CL rk 785 L st h = (EvI (EvM d) CL rk 786 L (.int 1 :: st) h) := (Ev_step 785 L st h).trans rfl
set_option maxRecDepth 100000 in
theorem eL_786 {d rk : Nat} {L st : List Value} {h : Hp} : EvI (EvM d) CL rk 786 L st h = (popI2 st fun x y s => EvI (EvM d) CL rk 787 L (.int (x + y) :: s) h) := (Ev_step 786 L st h).trans rfl
set_option maxRecDepth 100000 in
theorem eL_787 {d rk : Nat} {L st : List Value} {h : Hp} : EvI (EvM d) CL rk 787 L st h = (popI st fun i s => popR s fun r s => (ialdF h r i).bind fun x => EvI (EvM d) CL rk 788 L (.int x :: s) h) := (Ev_step 787 L st h).trans rfl
set_option maxRecDepth 100000 in
theorem eL_788 {d rk : Nat} {L st : List Value} {h : Hp} : EvI (EvM d) CL rk 788 L st h = (asR (lGet L 0) fun x => EvI (EvM d) CL rk 789 L (.ref x :: st) h) := (Ev_step 788 L st h).trans rfl
set_option maxRecDepth 100000 in
theorem eL_789 {d rk : Nat} {L st : List Value} {h : Hp} : EvI (EvM d) CL rk 789 L st h = (asI (lGet L 3) fun x => EvI (EvM d) CL rk 790 L (.int x :: st) h) := (Ev_step 789 L st h).trans rfl
set_option maxRecDepth 100000 in
theorem eL_790 {d rk : Nat} {L st : List Value} {h : Hp} : EvI (EvM d) CL rk 790 L st h = (EvI (EvM d) CL rk 791 L (.int 2 :: st) h) := (Ev_step 790 L st h).trans rfl
set_option maxRecDepth 100000 in
theorem eL_791 {d rk : Nat} {L st : List Value} {h : Hp} : EvI (EvM d) CL rk 791 L st h = (popI2 st fun x y s => EvI (EvM d) CL rk 792 L (.int (x + y) :: s) h) := (Ev_step 791 L st h).trans rfl
set_option maxRecDepth 100000 in
theorem eL_792 {d rk : Nat} {L st : List Value} {h : Hp} : EvI (EvM d) CL rk 792 L st h = (popI st fun i s => popR s fun r s => (ialdF h r i).bind fun x => EvI (EvM d) CL rk 793 L (.int x :: s) h) := (Ev_step 792 L st h).trans rfl
set_option maxRecDepth 100000 in
theorem eL_793 {d rk : Nat} {L st : List Value} {h : Hp} : EvI (EvM d) CL rk 793 L st h = (if 2 ≤ st.length then (popR (st.drop 2) fun r s => if clsB h r 8 = true ∧ catS s ≤ 8 then (EvM d 104 (.ref r :: (st.take 2).reverse) h).bind fun q => EvI (EvM d) CL rk 796 L (.int q.1 :: s) q.2 else none) else none) := (Ev_step 793 L st h).trans rfl
set_option maxRecDepth 100000 in
theorem eL_796 {d rk : Nat} {L st : List Value} {h : Hp} : EvI (EvM d) CL rk 796 L st h = (asR (lGet L 2) fun x => EvI (EvM d) CL rk 797 L (.ref x :: st) h) := (Ev_step 796 L st h).trans rfl
set_option maxRecDepth 100000 in
theorem eL_797 {d rk : Nat} {L st : List Value} {h : Hp} : EvI (EvM d) CL rk 797 L st h = (asR (lGet L 0) fun x => EvI (EvM d) CL rk 798 L (.ref x :: st) h) := (Ev_step 797 L st h).trans rfl
set_option maxRecDepth 100000 in
theorem eL_798 {d rk : Nat} {L st : List Value} {h : Hp} : EvI (EvM d) CL rk 798 L st h = (asI (lGet L 3) fun x => EvI (EvM d) CL rk 799 L (.int x :: st) h) := (Ev_step 798 L st h).trans rfl
set_option maxRecDepth 100000 in
theorem eL_799 {d rk : Nat} {L st : List Value} {h : Hp} : EvI (EvM d) CL rk 799 L st h = (EvI (EvM d) CL rk 800 L (.int 1 :: st) h) := (Ev_step 799 L st h).trans rfl
set_option maxRecDepth 100000 in
theorem eL_800 {d rk : Nat} {L st : List Value} {h : Hp} : EvI (EvM d) CL rk 800 L st h = (popI2 st fun x y s => EvI (EvM d) CL rk 801 L (.int (x + y) :: s) h) := (Ev_step 800 L st h).trans rfl
set_option maxRecDepth 100000 in
theorem eL_801 {d rk : Nat} {L st : List Value} {h : Hp} : EvI (EvM d) CL rk 801 L st h = (popI st fun i s => popR s fun r s => (ialdF h r i).bind fun x => EvI (EvM d) CL rk 802 L (.int x :: s) h) := (Ev_step 801 L st h).trans rfl
set_option maxRecDepth 100000 in
theorem eL_802 {d rk : Nat} {L st : List Value} {h : Hp} : EvI (EvM d) CL rk 802 L st h = (asR (lGet L 0) fun x => EvI (EvM d) CL rk 803 L (.ref x :: st) h) := (Ev_step 802 L st h).trans rfl
set_option maxRecDepth 100000 in
theorem eL_803 {d rk : Nat} {L st : List Value} {h : Hp} : EvI (EvM d) CL rk 803 L st h = (asI (lGet L 3) fun x => EvI (EvM d) CL rk 804 L (.int x :: st) h) := (Ev_step 803 L st h).trans rfl
set_option maxRecDepth 100000 in
theorem eL_804 {d rk : Nat} {L st : List Value} {h : Hp} : EvI (EvM d) CL rk 804 L st h = (EvI (EvM d) CL rk 805 L (.int 2 :: st) h) := (Ev_step 804 L st h).trans rfl
set_option maxRecDepth 100000 in
theorem eL_805 {d rk : Nat} {L st : List Value} {h : Hp} : EvI (EvM d) CL rk 805 L st h = (popI2 st fun x y s => EvI (EvM d) CL rk 806 L (.int (x + y) :: s) h) := (Ev_step 805 L st h).trans rfl
set_option maxRecDepth 100000 in
theorem eL_806 {d rk : Nat} {L st : List Value} {h : Hp} : EvI (EvM d) CL rk 806 L st h = (popI st fun i s => popR s fun r s => (ialdF h r i).bind fun x => EvI (EvM d) CL rk 807 L (.int x :: s) h) := (Ev_step 806 L st h).trans rfl
set_option maxRecDepth 100000 in
theorem eL_807 {d rk : Nat} {L st : List Value} {h : Hp} : EvI (EvM d) CL rk 807 L st h = (if 2 ≤ st.length then (popR (st.drop 2) fun r s => if clsB h r 9 = true ∧ catS s ≤ 8 then (EvM d 178 (.ref r :: (st.take 2).reverse) h).bind fun q => EvI (EvM d) CL rk 810 L (.int q.1 :: s) q.2 else none) else none) := (Ev_step 807 L st h).trans rfl
set_option maxRecDepth 100000 in
theorem eL_810 {d rk : Nat} {L st : List Value} {h : Hp} : EvI (EvM d) CL rk 810 L st h = (popI2 st fun x y s => if x = y then EvI (EvM d) CL rk 1383 L s h else EvI (EvM d) CL rk 813 L s h) := (Ev_step 810 L st h).trans rfl
set_option maxRecDepth 100000 in
theorem eL_813 {d rk : Nat} {L st : List Value} {h : Hp} : EvI (EvM d) CL rk 813 L st h = (EvI (EvM d) CL rk 814 L (.int 0 :: st) h) := (Ev_step 813 L st h).trans rfl
set_option maxRecDepth 100000 in
theorem eL_814 {d rk : Nat} {L st : List Value} {h : Hp} : EvI (EvM d) CL rk 814 L st h = (popI st fun v s => if s = [] ∧ okR rk v = true then some (v, h) else none) := (Ev_step 814 L st h).trans rfl
set_option maxRecDepth 100000 in
theorem eL_815 {d rk : Nat} {L st : List Value} {h : Hp} : EvI (EvM d) CL rk 815 L st h = (asR (lGet L 1) fun x => EvI (EvM d) CL rk 816 L (.ref x :: st) h) := (Ev_step 815 L st h).trans rfl
set_option maxRecDepth 100000 in
theorem eL_816 {d rk : Nat} {L st : List Value} {h : Hp} : EvI (EvM d) CL rk 816 L st h = (asR (lGet L 0) fun x => EvI (EvM d) CL rk 817 L (.ref x :: st) h) := (Ev_step 816 L st h).trans rfl
set_option maxRecDepth 100000 in
theorem eL_817 {d rk : Nat} {L st : List Value} {h : Hp} : EvI (EvM d) CL rk 817 L st h = (asI (lGet L 3) fun x => EvI (EvM d) CL rk 818 L (.int x :: st) h) := (Ev_step 817 L st h).trans rfl
set_option maxRecDepth 100000 in
theorem eL_818 {d rk : Nat} {L st : List Value} {h : Hp} : EvI (EvM d) CL rk 818 L st h = (EvI (EvM d) CL rk 819 L (.int 1 :: st) h) := (Ev_step 818 L st h).trans rfl
set_option maxRecDepth 100000 in
theorem eL_819 {d rk : Nat} {L st : List Value} {h : Hp} : EvI (EvM d) CL rk 819 L st h = (popI2 st fun x y s => EvI (EvM d) CL rk 820 L (.int (x + y) :: s) h) := (Ev_step 819 L st h).trans rfl
set_option maxRecDepth 100000 in
theorem eL_820 {d rk : Nat} {L st : List Value} {h : Hp} : EvI (EvM d) CL rk 820 L st h = (popI st fun i s => popR s fun r s => (ialdF h r i).bind fun x => EvI (EvM d) CL rk 821 L (.int x :: s) h) := (Ev_step 820 L st h).trans rfl
set_option maxRecDepth 100000 in
theorem eL_821 {d rk : Nat} {L st : List Value} {h : Hp} : EvI (EvM d) CL rk 821 L st h = (asR (lGet L 0) fun x => EvI (EvM d) CL rk 822 L (.ref x :: st) h) := (Ev_step 821 L st h).trans rfl
set_option maxRecDepth 100000 in
theorem eL_822 {d rk : Nat} {L st : List Value} {h : Hp} : EvI (EvM d) CL rk 822 L st h = (asI (lGet L 3) fun x => EvI (EvM d) CL rk 823 L (.int x :: st) h) := (Ev_step 822 L st h).trans rfl
set_option maxRecDepth 100000 in
theorem eL_823 {d rk : Nat} {L st : List Value} {h : Hp} : EvI (EvM d) CL rk 823 L st h = (EvI (EvM d) CL rk 824 L (.int 2 :: st) h) := (Ev_step 823 L st h).trans rfl
set_option maxRecDepth 100000 in
theorem eL_824 {d rk : Nat} {L st : List Value} {h : Hp} : EvI (EvM d) CL rk 824 L st h = (popI2 st fun x y s => EvI (EvM d) CL rk 825 L (.int (x + y) :: s) h) := (Ev_step 824 L st h).trans rfl
set_option maxRecDepth 100000 in
theorem eL_825 {d rk : Nat} {L st : List Value} {h : Hp} : EvI (EvM d) CL rk 825 L st h = (popI st fun i s => popR s fun r s => (ialdF h r i).bind fun x => EvI (EvM d) CL rk 826 L (.int x :: s) h) := (Ev_step 825 L st h).trans rfl
set_option maxRecDepth 100000 in
theorem eL_826 {d rk : Nat} {L st : List Value} {h : Hp} : EvI (EvM d) CL rk 826 L st h = (asR (lGet L 0) fun x => EvI (EvM d) CL rk 827 L (.ref x :: st) h) := (Ev_step 826 L st h).trans rfl
set_option maxRecDepth 100000 in
theorem eL_827 {d rk : Nat} {L st : List Value} {h : Hp} : EvI (EvM d) CL rk 827 L st h = (asI (lGet L 3) fun x => EvI (EvM d) CL rk 828 L (.int x :: st) h) := (Ev_step 827 L st h).trans rfl
set_option maxRecDepth 100000 in
theorem eL_828 {d rk : Nat} {L st : List Value} {h : Hp} : EvI (EvM d) CL rk 828 L st h = (EvI (EvM d) CL rk 829 L (.int 3 :: st) h) := (Ev_step 828 L st h).trans rfl
set_option maxRecDepth 100000 in
theorem eL_829 {d rk : Nat} {L st : List Value} {h : Hp} : EvI (EvM d) CL rk 829 L st h = (popI2 st fun x y s => EvI (EvM d) CL rk 830 L (.int (x + y) :: s) h) := (Ev_step 829 L st h).trans rfl
set_option maxRecDepth 100000 in
theorem eL_830 {d rk : Nat} {L st : List Value} {h : Hp} : EvI (EvM d) CL rk 830 L st h = (popI st fun i s => popR s fun r s => (ialdF h r i).bind fun x => EvI (EvM d) CL rk 831 L (.int x :: s) h) := (Ev_step 830 L st h).trans rfl
set_option maxRecDepth 100000 in
theorem eL_831 {d rk : Nat} {L st : List Value} {h : Hp} : EvI (EvM d) CL rk 831 L st h = (if 3 ≤ st.length then (popR (st.drop 3) fun r s => if clsB h r 8 = true ∧ catS s ≤ 8 then (EvM d 105 (.ref r :: (st.take 3).reverse) h).bind fun q => EvI (EvM d) CL rk 834 L (.int q.1 :: s) q.2 else none) else none) := (Ev_step 831 L st h).trans rfl
set_option maxRecDepth 100000 in
theorem eL_834 {d rk : Nat} {L st : List Value} {h : Hp} : EvI (EvM d) CL rk 834 L st h = (asR (lGet L 2) fun x => EvI (EvM d) CL rk 835 L (.ref x :: st) h) := (Ev_step 834 L st h).trans rfl
set_option maxRecDepth 100000 in
theorem eL_835 {d rk : Nat} {L st : List Value} {h : Hp} : EvI (EvM d) CL rk 835 L st h = (asR (lGet L 0) fun x => EvI (EvM d) CL rk 836 L (.ref x :: st) h) := (Ev_step 835 L st h).trans rfl
set_option maxRecDepth 100000 in
theorem eL_836 {d rk : Nat} {L st : List Value} {h : Hp} : EvI (EvM d) CL rk 836 L st h = (asI (lGet L 3) fun x => EvI (EvM d) CL rk 837 L (.int x :: st) h) := (Ev_step 836 L st h).trans rfl
set_option maxRecDepth 100000 in
theorem eL_837 {d rk : Nat} {L st : List Value} {h : Hp} : EvI (EvM d) CL rk 837 L st h = (EvI (EvM d) CL rk 838 L (.int 1 :: st) h) := (Ev_step 837 L st h).trans rfl
set_option maxRecDepth 100000 in
theorem eL_838 {d rk : Nat} {L st : List Value} {h : Hp} : EvI (EvM d) CL rk 838 L st h = (popI2 st fun x y s => EvI (EvM d) CL rk 839 L (.int (x + y) :: s) h) := (Ev_step 838 L st h).trans rfl
set_option maxRecDepth 100000 in
theorem eL_839 {d rk : Nat} {L st : List Value} {h : Hp} : EvI (EvM d) CL rk 839 L st h = (popI st fun i s => popR s fun r s => (ialdF h r i).bind fun x => EvI (EvM d) CL rk 840 L (.int x :: s) h) := (Ev_step 839 L st h).trans rfl
set_option maxRecDepth 100000 in
theorem eL_840 {d rk : Nat} {L st : List Value} {h : Hp} : EvI (EvM d) CL rk 840 L st h = (asR (lGet L 0) fun x => EvI (EvM d) CL rk 841 L (.ref x :: st) h) := (Ev_step 840 L st h).trans rfl
set_option maxRecDepth 100000 in
theorem eL_841 {d rk : Nat} {L st : List Value} {h : Hp} : EvI (EvM d) CL rk 841 L st h = (asI (lGet L 3) fun x => EvI (EvM d) CL rk 842 L (.int x :: st) h) := (Ev_step 841 L st h).trans rfl
set_option maxRecDepth 100000 in
theorem eL_842 {d rk : Nat} {L st : List Value} {h : Hp} : EvI (EvM d) CL rk 842 L st h = (EvI (EvM d) CL rk 843 L (.int 2 :: st) h) := (Ev_step 842 L st h).trans rfl
set_option maxRecDepth 100000 in
theorem eL_843 {d rk : Nat} {L st : List Value} {h : Hp} : EvI (EvM d) CL rk 843 L st h = (popI2 st fun x y s => EvI (EvM d) CL rk 844 L (.int (x + y) :: s) h) := (Ev_step 843 L st h).trans rfl
set_option maxRecDepth 100000 in
theorem eL_844 {d rk : Nat} {L st : List Value} {h : Hp} : EvI (EvM d) CL rk 844 L st h = (popI st fun i s => popR s fun r s => (ialdF h r i).bind fun x => EvI (EvM d) CL rk 845 L (.int x :: s) h) := (Ev_step 844 L st h).trans rfl
set_option maxRecDepth 100000 in
theorem eL_845 {d rk : Nat} {L st : List Value} {h : Hp} : EvI (EvM d) CL rk 845 L st h = (asR (lGet L 0) fun x => EvI (EvM d) CL rk 846 L (.ref x :: st) h) := (Ev_step 845 L st h).trans rfl
set_option maxRecDepth 100000 in
theorem eL_846 {d rk : Nat} {L st : List Value} {h : Hp} : EvI (EvM d) CL rk 846 L st h = (asI (lGet L 3) fun x => EvI (EvM d) CL rk 847 L (.int x :: st) h) := (Ev_step 846 L st h).trans rfl
set_option maxRecDepth 100000 in
theorem eL_847 {d rk : Nat} {L st : List Value} {h : Hp} : EvI (EvM d) CL rk 847 L st h = (EvI (EvM d) CL rk 848 L (.int 3 :: st) h) := (Ev_step 847 L st h).trans rfl
set_option maxRecDepth 100000 in
theorem eL_848 {d rk : Nat} {L st : List Value} {h : Hp} : EvI (EvM d) CL rk 848 L st h = (popI2 st fun x y s => EvI (EvM d) CL rk 849 L (.int (x + y) :: s) h) := (Ev_step 848 L st h).trans rfl
set_option maxRecDepth 100000 in
theorem eL_849 {d rk : Nat} {L st : List Value} {h : Hp} : EvI (EvM d) CL rk 849 L st h = (popI st fun i s => popR s fun r s => (ialdF h r i).bind fun x => EvI (EvM d) CL rk 850 L (.int x :: s) h) := (Ev_step 849 L st h).trans rfl
set_option maxRecDepth 100000 in
theorem eL_850 {d rk : Nat} {L st : List Value} {h : Hp} : EvI (EvM d) CL rk 850 L st h = (if 3 ≤ st.length then (popR (st.drop 3) fun r s => if clsB h r 9 = true ∧ catS s ≤ 8 then (EvM d 180 (.ref r :: (st.take 3).reverse) h).bind fun q => EvI (EvM d) CL rk 853 L (.int q.1 :: s) q.2 else none) else none) := (Ev_step 850 L st h).trans rfl
set_option maxRecDepth 100000 in
theorem eL_853 {d rk : Nat} {L st : List Value} {h : Hp} : EvI (EvM d) CL rk 853 L st h = (popI2 st fun x y s => if x = y then EvI (EvM d) CL rk 1383 L s h else EvI (EvM d) CL rk 856 L s h) := (Ev_step 853 L st h).trans rfl
set_option maxRecDepth 100000 in
theorem eL_856 {d rk : Nat} {L st : List Value} {h : Hp} : EvI (EvM d) CL rk 856 L st h = (EvI (EvM d) CL rk 857 L (.int 0 :: st) h) := (Ev_step 856 L st h).trans rfl
set_option maxRecDepth 100000 in
theorem eL_857 {d rk : Nat} {L st : List Value} {h : Hp} : EvI (EvM d) CL rk 857 L st h = (popI st fun v s => if s = [] ∧ okR rk v = true then some (v, h) else none) := (Ev_step 857 L st h).trans rfl
set_option maxRecDepth 100000 in
theorem eL_858 {d rk : Nat} {L st : List Value} {h : Hp} : EvI (EvM d) CL rk 858 L st h = (asR (lGet L 1) fun x => EvI (EvM d) CL rk 859 L (.ref x :: st) h) := (Ev_step 858 L st h).trans rfl
set_option maxRecDepth 100000 in
theorem eL_859 {d rk : Nat} {L st : List Value} {h : Hp} : EvI (EvM d) CL rk 859 L st h = (asR (lGet L 0) fun x => EvI (EvM d) CL rk 860 L (.ref x :: st) h) := (Ev_step 859 L st h).trans rfl
set_option maxRecDepth 100000 in
theorem eL_860 {d rk : Nat} {L st : List Value} {h : Hp} : EvI (EvM d) CL rk 860 L st h = (asI (lGet L 3) fun x => EvI (EvM d) CL rk 861 L (.int x :: st) h) := (Ev_step 860 L st h).trans rfl
set_option maxRecDepth 100000 in
theorem eL_861 {d rk : Nat} {L st : List Value} {h : Hp} : EvI (EvM d) CL rk 861 L st h = (EvI (EvM d) CL rk 862 L (.int 1 :: st) h) := (Ev_step 861 L st h).trans rfl
set_option maxRecDepth 100000 in
theorem eL_862 {d rk : Nat} {L st : List Value} {h : Hp} : EvI (EvM d) CL rk 862 L st h = (popI2 st fun x y s => EvI (EvM d) CL rk 863 L (.int (x + y) :: s) h) := (Ev_step 862 L st h).trans rfl
set_option maxRecDepth 100000 in
theorem eL_863 {d rk : Nat} {L st : List Value} {h : Hp} : EvI (EvM d) CL rk 863 L st h = (popI st fun i s => popR s fun r s => (ialdF h r i).bind fun x => EvI (EvM d) CL rk 864 L (.int x :: s) h) := (Ev_step 863 L st h).trans rfl
set_option maxRecDepth 100000 in
theorem eL_864 {d rk : Nat} {L st : List Value} {h : Hp} : EvI (EvM d) CL rk 864 L st h = (asR (lGet L 0) fun x => EvI (EvM d) CL rk 865 L (.ref x :: st) h) := (Ev_step 864 L st h).trans rfl
set_option maxRecDepth 100000 in
theorem eL_865 {d rk : Nat} {L st : List Value} {h : Hp} : EvI (EvM d) CL rk 865 L st h = (asI (lGet L 3) fun x => EvI (EvM d) CL rk 866 L (.int x :: st) h) := (Ev_step 865 L st h).trans rfl
set_option maxRecDepth 100000 in
theorem eL_866 {d rk : Nat} {L st : List Value} {h : Hp} : EvI (EvM d) CL rk 866 L st h = (EvI (EvM d) CL rk 867 L (.int 2 :: st) h) := (Ev_step 866 L st h).trans rfl
set_option maxRecDepth 100000 in
theorem eL_867 {d rk : Nat} {L st : List Value} {h : Hp} : EvI (EvM d) CL rk 867 L st h = (popI2 st fun x y s => EvI (EvM d) CL rk 868 L (.int (x + y) :: s) h) := (Ev_step 867 L st h).trans rfl
set_option maxRecDepth 100000 in
theorem eL_868 {d rk : Nat} {L st : List Value} {h : Hp} : EvI (EvM d) CL rk 868 L st h = (popI st fun i s => popR s fun r s => (ialdF h r i).bind fun x => EvI (EvM d) CL rk 869 L (.int x :: s) h) := (Ev_step 868 L st h).trans rfl
set_option maxRecDepth 100000 in
theorem eL_869 {d rk : Nat} {L st : List Value} {h : Hp} : EvI (EvM d) CL rk 869 L st h = (asR (lGet L 0) fun x => EvI (EvM d) CL rk 870 L (.ref x :: st) h) := (Ev_step 869 L st h).trans rfl
set_option maxRecDepth 100000 in
theorem eL_870 {d rk : Nat} {L st : List Value} {h : Hp} : EvI (EvM d) CL rk 870 L st h = (asI (lGet L 3) fun x => EvI (EvM d) CL rk 871 L (.int x :: st) h) := (Ev_step 870 L st h).trans rfl
set_option maxRecDepth 100000 in
theorem eL_871 {d rk : Nat} {L st : List Value} {h : Hp} : EvI (EvM d) CL rk 871 L st h = (EvI (EvM d) CL rk 872 L (.int 3 :: st) h) := (Ev_step 871 L st h).trans rfl
set_option maxRecDepth 100000 in
theorem eL_872 {d rk : Nat} {L st : List Value} {h : Hp} : EvI (EvM d) CL rk 872 L st h = (popI2 st fun x y s => EvI (EvM d) CL rk 873 L (.int (x + y) :: s) h) := (Ev_step 872 L st h).trans rfl
set_option maxRecDepth 100000 in
theorem eL_873 {d rk : Nat} {L st : List Value} {h : Hp} : EvI (EvM d) CL rk 873 L st h = (popI st fun i s => popR s fun r s => (ialdF h r i).bind fun x => EvI (EvM d) CL rk 874 L (.int x :: s) h) := (Ev_step 873 L st h).trans rfl
set_option maxRecDepth 100000 in
theorem eL_874 {d rk : Nat} {L st : List Value} {h : Hp} : EvI (EvM d) CL rk 874 L st h = (asR (lGet L 0) fun x => EvI (EvM d) CL rk 875 L (.ref x :: st) h) := (Ev_step 874 L st h).trans rfl
set_option maxRecDepth 100000 in
theorem eL_875 {d rk : Nat} {L st : List Value} {h : Hp} : EvI (EvM d) CL rk 875 L st h = (asI (lGet L 3) fun x => EvI (EvM d) CL rk 876 L (.int x :: st) h) := (Ev_step 875 L st h).trans rfl
set_option maxRecDepth 100000 in
theorem eL_876 {d rk : Nat} {L st : List Value} {h : Hp} : EvI (EvM d) CL rk 876 L st h = (EvI (EvM d) CL rk 877 L (.int 4 :: st) h) := (Ev_step 876 L st h).trans rfl
set_option maxRecDepth 100000 in
theorem eL_877 {d rk : Nat} {L st : List Value} {h : Hp} : EvI (EvM d) CL rk 877 L st h = (popI2 st fun x y s => EvI (EvM d) CL rk 878 L (.int (x + y) :: s) h) := (Ev_step 877 L st h).trans rfl
set_option maxRecDepth 100000 in
theorem eL_878 {d rk : Nat} {L st : List Value} {h : Hp} : EvI (EvM d) CL rk 878 L st h = (popI st fun i s => popR s fun r s => (ialdF h r i).bind fun x => EvI (EvM d) CL rk 879 L (.int x :: s) h) := (Ev_step 878 L st h).trans rfl
set_option maxRecDepth 100000 in
theorem eL_879 {d rk : Nat} {L st : List Value} {h : Hp} : EvI (EvM d) CL rk 879 L st h = (if 4 ≤ st.length then (popR (st.drop 4) fun r s => if clsB h r 8 = true ∧ catS s ≤ 8 then (EvM d 106 (.ref r :: (st.take 4).reverse) h).bind fun q => EvI (EvM d) CL rk 882 L (.int q.1 :: s) q.2 else none) else none) := (Ev_step 879 L st h).trans rfl
set_option maxRecDepth 100000 in
theorem eL_882 {d rk : Nat} {L st : List Value} {h : Hp} : EvI (EvM d) CL rk 882 L st h = (asR (lGet L 2) fun x => EvI (EvM d) CL rk 883 L (.ref x :: st) h) := (Ev_step 882 L st h).trans rfl
set_option maxRecDepth 100000 in
theorem eL_883 {d rk : Nat} {L st : List Value} {h : Hp} : EvI (EvM d) CL rk 883 L st h = (asR (lGet L 0) fun x => EvI (EvM d) CL rk 884 L (.ref x :: st) h) := (Ev_step 883 L st h).trans rfl
set_option maxRecDepth 100000 in
theorem eL_884 {d rk : Nat} {L st : List Value} {h : Hp} : EvI (EvM d) CL rk 884 L st h = (asI (lGet L 3) fun x => EvI (EvM d) CL rk 885 L (.int x :: st) h) := (Ev_step 884 L st h).trans rfl
set_option maxRecDepth 100000 in
theorem eL_885 {d rk : Nat} {L st : List Value} {h : Hp} : EvI (EvM d) CL rk 885 L st h = (EvI (EvM d) CL rk 886 L (.int 1 :: st) h) := (Ev_step 885 L st h).trans rfl
set_option maxRecDepth 100000 in
theorem eL_886 {d rk : Nat} {L st : List Value} {h : Hp} : EvI (EvM d) CL rk 886 L st h = (popI2 st fun x y s => EvI (EvM d) CL rk 887 L (.int (x + y) :: s) h) := (Ev_step 886 L st h).trans rfl
set_option maxRecDepth 100000 in
theorem eL_887 {d rk : Nat} {L st : List Value} {h : Hp} : EvI (EvM d) CL rk 887 L st h = (popI st fun i s => popR s fun r s => (ialdF h r i).bind fun x => EvI (EvM d) CL rk 888 L (.int x :: s) h) := (Ev_step 887 L st h).trans rfl
set_option maxRecDepth 100000 in
theorem eL_888 {d rk : Nat} {L st : List Value} {h : Hp} : EvI (EvM d) CL rk 888 L st h = (asR (lGet L 0) fun x => EvI (EvM d) CL rk 889 L (.ref x :: st) h) := (Ev_step 888 L st h).trans rfl
set_option maxRecDepth 100000 in
theorem eL_889 {d rk : Nat} {L st : List Value} {h : Hp} : EvI (EvM d) CL rk 889 L st h = (asI (lGet L 3) fun x => EvI (EvM d) CL rk 890 L (.int x :: st) h) := (Ev_step 889 L st h).trans rfl
set_option maxRecDepth 100000 in
theorem eL_890 {d rk : Nat} {L st : List Value} {h : Hp} : EvI (EvM d) CL rk 890 L st h = (EvI (EvM d) CL rk 891 L (.int 2 :: st) h) := (Ev_step 890 L st h).trans rfl
set_option maxRecDepth 100000 in
theorem eL_891 {d rk : Nat} {L st : List Value} {h : Hp} : EvI (EvM d) CL rk 891 L st h = (popI2 st fun x y s => EvI (EvM d) CL rk 892 L (.int (x + y) :: s) h) := (Ev_step 891 L st h).trans rfl
set_option maxRecDepth 100000 in
theorem eL_892 {d rk : Nat} {L st : List Value} {h : Hp} : EvI (EvM d) CL rk 892 L st h = (popI st fun i s => popR s fun r s => (ialdF h r i).bind fun x => EvI (EvM d) CL rk 893 L (.int x :: s) h) := (Ev_step 892 L st h).trans rfl
set_option maxRecDepth 100000 in
theorem eL_893 {d rk : Nat} {L st : List Value} {h : Hp} : EvI (EvM d) CL rk 893 L st h = (asR (lGet L 0) fun x => EvI (EvM d) CL rk 894 L (.ref x :: st) h) := (Ev_step 893 L st h).trans rfl
set_option maxRecDepth 100000 in
theorem eL_894 {d rk : Nat} {L st : List Value} {h : Hp} : EvI (EvM d) CL rk 894 L st h = (asI (lGet L 3) fun x => EvI (EvM d) CL rk 895 L (.int x :: st) h) := (Ev_step 894 L st h).trans rfl
set_option maxRecDepth 100000 in
theorem eL_895 {d rk : Nat} {L st : List Value} {h : Hp} : EvI (EvM d) CL rk 895 L st h = (EvI (EvM d) CL rk 896 L (.int 3 :: st) h) := (Ev_step 895 L st h).trans rfl
set_option maxRecDepth 100000 in
theorem eL_896 {d rk : Nat} {L st : List Value} {h : Hp} : EvI (EvM d) CL rk 896 L st h = (popI2 st fun x y s => EvI (EvM d) CL rk 897 L (.int (x + y) :: s) h) := (Ev_step 896 L st h).trans rfl
set_option maxRecDepth 100000 in
theorem eL_897 {d rk : Nat} {L st : List Value} {h : Hp} : EvI (EvM d) CL rk 897 L st h = (popI st fun i s => popR s fun r s => (ialdF h r i).bind fun x => EvI (EvM d) CL rk 898 L (.int x :: s) h) := (Ev_step 897 L st h).trans rfl
set_option maxRecDepth 100000 in
theorem eL_898 {d rk : Nat} {L st : List Value} {h : Hp} : EvI (EvM d) CL rk 898 L st h = (asR (lGet L 0) fun x => EvI (EvM d) CL rk 899 L (.ref x :: st) h) := (Ev_step 898 L st h).trans rfl
set_option maxRecDepth 100000 in
theorem eL_899 {d rk : Nat} {L st : List Value} {h : Hp} : EvI (EvM d) CL rk 899 L st h = (asI (lGet L 3) fun x => EvI (EvM d) CL rk 900 L (.int x :: st) h) := (Ev_step 899 L st h).trans rfl
set_option maxRecDepth 100000 in
theorem eL_900 {d rk : Nat} {L st : List Value} {h : Hp} : EvI (EvM d) CL rk 900 L st h = (EvI (EvM d) CL rk 901 L (.int 4 :: st) h) := (Ev_step 900 L st h).trans rfl
set_option maxRecDepth 100000 in
theorem eL_901 {d rk : Nat} {L st : List Value} {h : Hp} : EvI (EvM d) CL rk 901 L st h = (popI2 st fun x y s => EvI (EvM d) CL rk 902 L (.int (x + y) :: s) h) := (Ev_step 901 L st h).trans rfl
set_option maxRecDepth 100000 in
theorem eL_902 {d rk : Nat} {L st : List Value} {h : Hp} : EvI (EvM d) CL rk 902 L st h = (popI st fun i s => popR s fun r s => (ialdF h r i).bind fun x => EvI (EvM d) CL rk 903 L (.int x :: s) h) := (Ev_step 902 L st h).trans rfl
set_option maxRecDepth 100000 in
theorem eL_903 {d rk : Nat} {L st : List Value} {h : Hp} : EvI (EvM d) CL rk 903 L st h = (if 4 ≤ st.length then (popR (st.drop 4) fun r s => if clsB h r 9 = true ∧ catS s ≤ 8 then (EvM d 186 (.ref r :: (st.take 4).reverse) h).bind fun q => EvI (EvM d) CL rk 906 L (.int q.1 :: s) q.2 else none) else none) := (Ev_step 903 L st h).trans rfl
set_option maxRecDepth 100000 in
theorem eL_906 {d rk : Nat} {L st : List Value} {h : Hp} : EvI (EvM d) CL rk 906 L st h = (popI2 st fun x y s => if x = y then EvI (EvM d) CL rk 1383 L s h else EvI (EvM d) CL rk 909 L s h) := (Ev_step 906 L st h).trans rfl
set_option maxRecDepth 100000 in
theorem eL_909 {d rk : Nat} {L st : List Value} {h : Hp} : EvI (EvM d) CL rk 909 L st h = (EvI (EvM d) CL rk 910 L (.int 0 :: st) h) := (Ev_step 909 L st h).trans rfl
set_option maxRecDepth 100000 in
theorem eL_910 {d rk : Nat} {L st : List Value} {h : Hp} : EvI (EvM d) CL rk 910 L st h = (popI st fun v s => if s = [] ∧ okR rk v = true then some (v, h) else none) := (Ev_step 910 L st h).trans rfl
set_option maxRecDepth 100000 in
theorem eL_911 {d rk : Nat} {L st : List Value} {h : Hp} : EvI (EvM d) CL rk 911 L st h = (asR (lGet L 1) fun x => EvI (EvM d) CL rk 912 L (.ref x :: st) h) := (Ev_step 911 L st h).trans rfl
set_option maxRecDepth 100000 in
theorem eL_912 {d rk : Nat} {L st : List Value} {h : Hp} : EvI (EvM d) CL rk 912 L st h = (asR (lGet L 0) fun x => EvI (EvM d) CL rk 913 L (.ref x :: st) h) := (Ev_step 912 L st h).trans rfl
set_option maxRecDepth 100000 in
theorem eL_913 {d rk : Nat} {L st : List Value} {h : Hp} : EvI (EvM d) CL rk 913 L st h = (asI (lGet L 3) fun x => EvI (EvM d) CL rk 914 L (.int x :: st) h) := (Ev_step 913 L st h).trans rfl
set_option maxRecDepth 100000 in
theorem eL_914 {d rk : Nat} {L st : List Value} {h : Hp} : EvI (EvM d) CL rk 914 L st h = (EvI (EvM d) CL rk 915 L (.int 1 :: st) h) := (Ev_step 914 L st h).trans rfl
set_option maxRecDepth 100000 in
theorem eL_915 {d rk : Nat} {L st : List Value} {h : Hp} : EvI (EvM d) CL rk 915 L st h = (popI2 st fun x y s => EvI (EvM d) CL rk 916 L (.int (x + y) :: s) h) := (Ev_step 915 L st h).trans rfl
set_option maxRecDepth 100000 in
theorem eL_916 {d rk : Nat} {L st : List Value} {h : Hp} : EvI (EvM d) CL rk 916 L st h = (popI st fun i s => popR s fun r s => (ialdF h r i).bind fun x => EvI (EvM d) CL rk 917 L (.int x :: s) h) := (Ev_step 916 L st h).trans rfl
set_option maxRecDepth 100000 in
theorem eL_917 {d rk : Nat} {L st : List Value} {h : Hp} : EvI (EvM d) CL rk 917 L st h = (asR (lGet L 0) fun x => EvI (EvM d) CL rk 918 L (.ref x :: st) h) := (Ev_step 917 L st h).trans rfl
set_option maxRecDepth 100000 in
theorem eL_918 {d rk : Nat} {L st : List Value} {h : Hp} : EvI (EvM d) CL rk 918 L st h = (asI (lGet L 3) fun x => EvI (EvM d) CL rk 919 L (.int x :: st) h) := (Ev_step 918 L st h).trans rfl
set_option maxRecDepth 100000 in
theorem eL_919 {d rk : Nat} {L st : List Value} {h : Hp} : EvI (EvM d) CL rk 919 L st h = (EvI (EvM d) CL rk 920 L (.int 2 :: st) h) := (Ev_step 919 L st h).trans rfl
set_option maxRecDepth 100000 in
theorem eL_920 {d rk : Nat} {L st : List Value} {h : Hp} : EvI (EvM d) CL rk 920 L st h = (popI2 st fun x y s => EvI (EvM d) CL rk 921 L (.int (x + y) :: s) h) := (Ev_step 920 L st h).trans rfl
set_option maxRecDepth 100000 in
theorem eL_921 {d rk : Nat} {L st : List Value} {h : Hp} : EvI (EvM d) CL rk 921 L st h = (popI st fun i s => popR s fun r s => (ialdF h r i).bind fun x => EvI (EvM d) CL rk 922 L (.int x :: s) h) := (Ev_step 921 L st h).trans rfl
set_option maxRecDepth 100000 in
theorem eL_922 {d rk : Nat} {L st : List Value} {h : Hp} : EvI (EvM d) CL rk 922 L st h = (asR (lGet L 0) fun x => EvI (EvM d) CL rk 923 L (.ref x :: st) h) := (Ev_step 922 L st h).trans rfl
set_option maxRecDepth 100000 in
theorem eL_923 {d rk : Nat} {L st : List Value} {h : Hp} : EvI (EvM d) CL rk 923 L st h = (asI (lGet L 3) fun x => EvI (EvM d) CL rk 924 L (.int x :: st) h) := (Ev_step 923 L st h).trans rfl
set_option maxRecDepth 100000 in
theorem eL_924 {d rk : Nat} {L st : List Value} {h : Hp} : EvI (EvM d) CL rk 924 L st h = (EvI (EvM d) CL rk 925 L (.int 3 :: st) h) := (Ev_step 924 L st h).trans rfl
set_option maxRecDepth 100000 in
theorem eL_925 {d rk : Nat} {L st : List Value} {h : Hp} : EvI (EvM d) CL rk 925 L st h = (popI2 st fun x y s => EvI (EvM d) CL rk 926 L (.int (x + y) :: s) h) := (Ev_step 925 L st h).trans rfl
set_option maxRecDepth 100000 in
theorem eL_926 {d rk : Nat} {L st : List Value} {h : Hp} : EvI (EvM d) CL rk 926 L st h = (popI st fun i s => popR s fun r s => (ialdF h r i).bind fun x => EvI (EvM d) CL rk 927 L (.int x :: s) h) := (Ev_step 926 L st h).trans rfl
set_option maxRecDepth 100000 in
theorem eL_927 {d rk : Nat} {L st : List Value} {h : Hp} : EvI (EvM d) CL rk 927 L st h = (asR (lGet L 0) fun x => EvI (EvM d) CL rk 928 L (.ref x :: st) h) := (Ev_step 927 L st h).trans rfl
set_option maxRecDepth 100000 in
theorem eL_928 {d rk : Nat} {L st : List Value} {h : Hp} : EvI (EvM d) CL rk 928 L st h = (asI (lGet L 3) fun x => EvI (EvM d) CL rk 929 L (.int x :: st) h) := (Ev_step 928 L st h).trans rfl
set_option maxRecDepth 100000 in
theorem eL_929 {d rk : Nat} {L st : List Value} {h : Hp} : EvI (EvM d) CL rk 929 L st h = (EvI (EvM d) CL rk 930 L (.int 4 :: st) h) := (Ev_step 929 L st h).trans rfl
set_option maxRecDepth 100000 in
theorem eL_930 {d rk : Nat} {L st : List Value} {h : Hp} : EvI (EvM d) CL rk 930 L st h = (popI2 st fun x y s => EvI (EvM d) CL rk 931 L (.int (x + y) :: s) h) := (Ev_step 930 L st h).trans rfl
set_option maxRecDepth 100000 in
theorem eL_931 {d rk : Nat} {L st : List Value} {h : Hp} : EvI (EvM d) CL rk 931 L st h = (popI st fun i s => popR s fun r s => (ialdF h r i).bind fun x => EvI (EvM d) CL rk 932 L (.int x :: s) h) := (Ev_step 931 L st h).trans rfl
set_option maxRecDepth 100000 in
theorem eL_932 {d rk : Nat} {L st : List Value} {h : Hp} : EvI (EvM d) CL rk 932 L st h = (asR (lGet L 0) fun x => EvI (EvM d) CL rk 933 L (.ref x :: st) h) := (Ev_step 932 L st h).trans rfl
set_option maxRecDepth 100000 in
theorem eL_933 {d rk : Nat} {L st : List Value} {h : Hp} : EvI (EvM d) CL rk 933 L st h = (asI (lGet L 3) fun x => EvI (EvM d) CL rk 934 L (.int x :: st) h) := (Ev_step 933 L st h).trans rfl
set_option maxRecDepth 100000 in
theorem eL_934 {d rk : Nat} {L st : List Value} {h : Hp} : EvI (EvM d) CL rk 934 L st h = (EvI (EvM d) CL rk 935 L (.int 5 :: st) h) := (Ev_step 934 L st h).trans rfl
set_option maxRecDepth 100000 in
theorem eL_935 {d rk : Nat} {L st : List Value} {h : Hp} : EvI (EvM d) CL rk 935 L st h = (popI2 st fun x y s => EvI (EvM d) CL rk 936 L (.int (x + y) :: s) h) := (Ev_step 935 L st h).trans rfl
set_option maxRecDepth 100000 in
theorem eL_936 {d rk : Nat} {L st : List Value} {h : Hp} : EvI (EvM d) CL rk 936 L st h = (popI st fun i s => popR s fun r s => (ialdF h r i).bind fun x => EvI (EvM d) CL rk 937 L (.int x :: s) h) := (Ev_step 936 L st h).trans rfl
set_option maxRecDepth 100000 in
theorem eL_937 {d rk : Nat} {L st : List Value} {h : Hp} : EvI (EvM d) CL rk 937 L st h = (if 5 ≤ st.length then (popR (st.drop 5) fun r s => if clsB h r 8 = true ∧ catS s ≤ 8 then (EvM d 107 (.ref r :: (st.take 5).reverse) h).bind fun q => EvI (EvM d) CL rk 940 L (.int q.1 :: s) q.2 else none) else none) := (Ev_step 937 L st h).trans rfl
set_option maxRecDepth 100000 in
theorem eL_940 {d rk : Nat} {L st : List Value} {h : Hp} : EvI (EvM d) CL rk 940 L st h = (asR (lGet L 2) fun x => EvI (EvM d) CL rk 941 L (.ref x :: st) h) := (Ev_step 940 L st h).trans rfl
set_option maxRecDepth 100000 in
theorem eL_941 {d rk : Nat} {L st : List Value} {h : Hp} : EvI (EvM d) CL rk 941 L st h = (asR (lGet L 0) fun x => EvI (EvM d) CL rk 942 L (.ref x :: st) h) := (Ev_step 941 L st h).trans rfl
set_option maxRecDepth 100000 in
theorem eL_942 {d rk : Nat} {L st : List Value} {h : Hp} : EvI (EvM d) CL rk 942 L st h = (asI (lGet L 3) fun x => EvI (EvM d) CL rk 943 L (.int x :: st) h) := (Ev_step 942 L st h).trans rfl
set_option maxRecDepth 100000 in
theorem eL_943 {d rk : Nat} {L st : List Value} {h : Hp} : EvI (EvM d) CL rk 943 L st h = (EvI (EvM d) CL rk 944 L (.int 1 :: st) h) := (Ev_step 943 L st h).trans rfl
set_option maxRecDepth 100000 in
theorem eL_944 {d rk : Nat} {L st : List Value} {h : Hp} : EvI (EvM d) CL rk 944 L st h = (popI2 st fun x y s => EvI (EvM d) CL rk 945 L (.int (x + y) :: s) h) := (Ev_step 944 L st h).trans rfl
set_option maxRecDepth 100000 in
theorem eL_945 {d rk : Nat} {L st : List Value} {h : Hp} : EvI (EvM d) CL rk 945 L st h = (popI st fun i s => popR s fun r s => (ialdF h r i).bind fun x => EvI (EvM d) CL rk 946 L (.int x :: s) h) := (Ev_step 945 L st h).trans rfl
set_option maxRecDepth 100000 in
theorem eL_946 {d rk : Nat} {L st : List Value} {h : Hp} : EvI (EvM d) CL rk 946 L st h = (asR (lGet L 0) fun x => EvI (EvM d) CL rk 947 L (.ref x :: st) h) := (Ev_step 946 L st h).trans rfl
set_option maxRecDepth 100000 in
theorem eL_947 {d rk : Nat} {L st : List Value} {h : Hp} : EvI (EvM d) CL rk 947 L st h = (asI (lGet L 3) fun x => EvI (EvM d) CL rk 948 L (.int x :: st) h) := (Ev_step 947 L st h).trans rfl
set_option maxRecDepth 100000 in
theorem eL_948 {d rk : Nat} {L st : List Value} {h : Hp} : EvI (EvM d) CL rk 948 L st h = (EvI (EvM d) CL rk 949 L (.int 2 :: st) h) := (Ev_step 948 L st h).trans rfl
set_option maxRecDepth 100000 in
theorem eL_949 {d rk : Nat} {L st : List Value} {h : Hp} : EvI (EvM d) CL rk 949 L st h = (popI2 st fun x y s => EvI (EvM d) CL rk 950 L (.int (x + y) :: s) h) := (Ev_step 949 L st h).trans rfl
set_option maxRecDepth 100000 in
theorem eL_950 {d rk : Nat} {L st : List Value} {h : Hp} : EvI (EvM d) CL rk 950 L st h = (popI st fun i s => popR s fun r s => (ialdF h r i).bind fun x => EvI (EvM d) CL rk 951 L (.int x :: s) h) := (Ev_step 950 L st h).trans rfl
set_option maxRecDepth 100000 in
theorem eL_951 {d rk : Nat} {L st : List Value} {h : Hp} : EvI (EvM d) CL rk 951 L st h = (asR (lGet L 0) fun x => EvI (EvM d) CL rk 952 L (.ref x :: st) h) := (Ev_step 951 L st h).trans rfl
set_option maxRecDepth 100000 in
theorem eL_952 {d rk : Nat} {L st : List Value} {h : Hp} : EvI (EvM d) CL rk 952 L st h = (asI (lGet L 3) fun x => EvI (EvM d) CL rk 953 L (.int x :: st) h) := (Ev_step 952 L st h).trans rfl
set_option maxRecDepth 100000 in
theorem eL_953 {d rk : Nat} {L st : List Value} {h : Hp} : EvI (EvM d) CL rk 953 L st h = (EvI (EvM d) CL rk 954 L (.int 3 :: st) h) := (Ev_step 953 L st h).trans rfl
set_option maxRecDepth 100000 in
theorem eL_954 {d rk : Nat} {L st : List Value} {h : Hp} : EvI (EvM d) CL rk 954 L st h = (popI2 st fun x y s => EvI (EvM d) CL rk 955 L (.int (x + y) :: s) h) := (Ev_step 954 L st h).trans rfl
set_option maxRecDepth 100000 in
theorem eL_955 {d rk : Nat} {L st : List Value} {h : Hp} : EvI (EvM d) CL rk 955 L st h = (popI st fun i s => popR s fun r s => (ialdF h r i).bind fun x => EvI (EvM d) CL rk 956 L (.int x :: s) h) := (Ev_step 955 L st h).trans rfl
set_option maxRecDepth 100000 in
theorem eL_956 {d rk : Nat} {L st : List Value} {h : Hp} : EvI (EvM d) CL rk 956 L st h = (asR (lGet L 0) fun x => EvI (EvM d) CL rk 957 L (.ref x :: st) h) := (Ev_step 956 L st h).trans rfl
set_option maxRecDepth 100000 in
theorem eL_957 {d rk : Nat} {L st : List Value} {h : Hp} : EvI (EvM d) CL rk 957 L st h = (asI (lGet L 3) fun x => EvI (EvM d) CL rk 958 L (.int x :: st) h) := (Ev_step 957 L st h).trans rfl
set_option maxRecDepth 100000 in
theorem eL_958 {d rk : Nat} {L st : List Value} {h : Hp} : EvI (EvM d) CL rk 958 L st h = (EvI (EvM d) CL rk 959 L (.int 4 :: st) h) := (Ev_step 958 L st h).trans rfl
set_option maxRecDepth 100000 in
theorem eL_959 {d rk : Nat} {L st : List Value} {h : Hp} : EvI (EvM d) CL rk 959 L st h = (popI2 st fun x y s => EvI (EvM d) CL rk 960 L (.int (x + y) :: s) h) := (Ev_step 959 L st h).trans rfl
set_option maxRecDepth 100000 in
theorem eL_960 {d rk : Nat} {L st : List Value} {h : Hp} : EvI (EvM d) CL rk 960 L st h = (popI st fun i s => popR s fun r s => (ialdF h r i).bind fun x => EvI (EvM d) CL rk 961 L (.int x :: s) h) := (Ev_step 960 L st h).trans rfl
set_option maxRecDepth 100000 in
theorem eL_961 {d rk : Nat} {L st : List Value} {h : Hp} : EvI (EvM d) CL rk 961 L st h = (asR (lGet L 0) fun x => EvI (EvM d) CL rk 962 L (.ref x :: st) h) := (Ev_step 961 L st h).trans rfl
set_option maxRecDepth 100000 in
theorem eL_962 {d rk : Nat} {L st : List Value} {h : Hp} : EvI (EvM d) CL rk 962 L st h = (asI (lGet L 3) fun x => EvI (EvM d) CL rk 963 L (.int x :: st) h) := (Ev_step 962 L st h).trans rfl
set_option maxRecDepth 100000 in
theorem eL_963 {d rk : Nat} {L st : List Value} {h : Hp} : EvI (EvM d) CL rk 963 L st h = (EvI (EvM d) CL rk 964 L (.int 5 :: st) h) := (Ev_step 963 L st h).trans rfl
set_option maxRecDepth 100000 in
theorem eL_964 {d rk : Nat} {L st : List Value} {h : Hp} : EvI (EvM d) CL rk 964 L st h = (popI2 st fun x y s => EvI (EvM d) CL rk 965 L (.int (x + y) :: s) h) := (Ev_step 964 L st h).trans rfl
set_option maxRecDepth 100000 in
theorem eL_965 {d rk : Nat} {L st : List Value} {h : Hp} : EvI (EvM d) CL rk 965 L st h = (popI st fun i s => popR s fun r s => (ialdF h r i).bind fun x => EvI (EvM d) CL rk 966 L (.int x :: s) h) := (Ev_step 965 L st h).trans rfl
set_option maxRecDepth 100000 in
theorem eL_966 {d rk : Nat} {L st : List Value} {h : Hp} : EvI (EvM d) CL rk 966 L st h = (if 5 ≤ st.length then (popR (st.drop 5) fun r s => if clsB h r 9 = true ∧ catS s ≤ 8 then (EvM d 189 (.ref r :: (st.take 5).reverse) h).bind fun q => EvI (EvM d) CL rk 969 L (.int q.1 :: s) q.2 else none) else none) := (Ev_step 966 L st h).trans rfl
set_option maxRecDepth 100000 in
theorem eL_969 {d rk : Nat} {L st : List Value} {h : Hp} : EvI (EvM d) CL rk 969 L st h = (popI2 st fun x y s => if x = y then EvI (EvM d) CL rk 1383 L s h else EvI (EvM d) CL rk 972 L s h) := (Ev_step 969 L st h).trans rfl
set_option maxRecDepth 100000 in
theorem eL_972 {d rk : Nat} {L st : List Value} {h : Hp} : EvI (EvM d) CL rk 972 L st h = (EvI (EvM d) CL rk 973 L (.int 0 :: st) h) := (Ev_step 972 L st h).trans rfl
set_option maxRecDepth 100000 in
theorem eL_973 {d rk : Nat} {L st : List Value} {h : Hp} : EvI (EvM d) CL rk 973 L st h = (popI st fun v s => if s = [] ∧ okR rk v = true then some (v, h) else none) := (Ev_step 973 L st h).trans rfl
set_option maxRecDepth 100000 in
theorem eL_974 {d rk : Nat} {L st : List Value} {h : Hp} : EvI (EvM d) CL rk 974 L st h = (asR (lGet L 1) fun x => EvI (EvM d) CL rk 975 L (.ref x :: st) h) := (Ev_step 974 L st h).trans rfl
set_option maxRecDepth 100000 in
theorem eL_975 {d rk : Nat} {L st : List Value} {h : Hp} : EvI (EvM d) CL rk 975 L st h = (asR (lGet L 0) fun x => EvI (EvM d) CL rk 976 L (.ref x :: st) h) := (Ev_step 975 L st h).trans rfl
set_option maxRecDepth 100000 in
theorem eL_976 {d rk : Nat} {L st : List Value} {h : Hp} : EvI (EvM d) CL rk 976 L st h = (asI (lGet L 3) fun x => EvI (EvM d) CL rk 977 L (.int x :: st) h) := (Ev_step 976 L st h).trans rfl
set_option maxRecDepth 100000 in
theorem eL_977 {d rk : Nat} {L st : List Value} {h : Hp} : EvI (EvM d) CL rk 977 L st h = (EvI (EvM d) CL rk 978 L (.int 1 :: st) h) := (Ev_step 977 L st h).trans rfl
set_option maxRecDepth 100000 in
theorem eL_978 {d rk : Nat} {L st : List Value} {h : Hp} : EvI (EvM d) CL rk 978 L st h = (popI2 st fun x y s => EvI (EvM d) CL rk 979 L (.int (x + y) :: s) h) := (Ev_step 978 L st h).trans rfl
set_option maxRecDepth 100000 in
theorem eL_979 {d rk : Nat} {L st : List Value} {h : Hp} : EvI (EvM d) CL rk 979 L st h = (popI st fun i s => popR s fun r s => (ialdF h r i).bind fun x => EvI (EvM d) CL rk 980 L (.int x :: s) h) := (Ev_step 979 L st h).trans rfl
set_option maxRecDepth 100000 in
theorem eL_980 {d rk : Nat} {L st : List Value} {h : Hp} : EvI (EvM d) CL rk 980 L st h = (asR (lGet L 0) fun x => EvI (EvM d) CL rk 981 L (.ref x :: st) h) := (Ev_step 980 L st h).trans rfl
set_option maxRecDepth 100000 in
theorem eL_981 {d rk : Nat} {L st : List Value} {h : Hp} : EvI (EvM d) CL rk 981 L st h = (asI (lGet L 3) fun x => EvI (EvM d) CL rk 982 L (.int x :: st) h) := (Ev_step 981 L st h).trans rfl
set_option maxRecDepth 100000 in
theorem eL_982 {d rk : Nat} {L st : List Value} {h : Hp} : EvI (EvM d) CL rk 982 L st h = (EvI (EvM d) CL rk 983 L (.int 2 :: st) h) := (Ev_step 982 L st h).trans rfl
set_option maxRecDepth 100000 in
theorem eL_983 {d rk : Nat} {L st : List Value} {h : Hp} : EvI (EvM d) CL rk 983 L st h = (popI2 st fun x y s => EvI (EvM d) CL rk 984 L (.int (x + y) :: s) h) := (Ev_step 983 L st h).trans rfl
set_option maxRecDepth 100000 in
theorem eL_984 {d rk : Nat} {L st : List Value} {h : Hp} : EvI (EvM d) CL rk 984 L st h = (popI st fun i s => popR s fun r s => (ialdF h r i).bind fun x => EvI (EvM d) CL rk 985 L (.int x :: s) h) := (Ev_step 984 L st h).trans rfl
set_option maxRecDepth 100000 in
theorem eL_985 {d rk : Nat} {L st : List Value} {h : Hp} : EvI (EvM d) CL rk 985 L st h = (if 2 ≤ st.length then (popR (st.drop 2) fun r s => if clsB h r 8 = true ∧ catS s ≤ 8 then (EvM d 108 (.ref r :: (st.take 2).reverse) h).bind fun q => EvI (EvM d) CL rk 988 L (.int q.1 :: s) q.2 else none) else none) := (Ev_step 985 L st h).trans rfl
set_option maxRecDepth 100000 in
theorem eL_988 {d rk : Nat} {L st : List Value} {h : Hp} : EvI (EvM d) CL rk 988 L st h = (asR (lGet L 2) fun x => EvI (EvM d) CL rk 989 L (.ref x :: st) h) := (Ev_step 988 L st h).trans rfl
set_option maxRecDepth 100000 in
theorem eL_989 {d rk : Nat} {L st : List Value} {h : Hp} : EvI (EvM d) CL rk 989 L st h = (asR (lGet L 0) fun x => EvI (EvM d) CL rk 990 L (.ref x :: st) h) := (Ev_step 989 L st h).trans rfl
set_option maxRecDepth 100000 in
theorem eL_990 {d rk : Nat} {L st : List Value} {h : Hp} : EvI (EvM d) CL rk 990 L st h = (asI (lGet L 3) fun x => EvI (EvM d) CL rk 991 L (.int x :: st) h) := (Ev_step 990 L st h).trans rfl
set_option maxRecDepth 100000 in
theorem eL_991 {d rk : Nat} {L st : List Value} {h : Hp} : EvI (EvM d) CL rk 991 L st h = (EvI (EvM d) CL rk 992 L (.int 1 :: st) h) := (Ev_step 991 L st h).trans rfl
set_option maxRecDepth 100000 in
theorem eL_992 {d rk : Nat} {L st : List Value} {h : Hp} : EvI (EvM d) CL rk 992 L st h = (popI2 st fun x y s => EvI (EvM d) CL rk 993 L (.int (x + y) :: s) h) := (Ev_step 992 L st h).trans rfl
set_option maxRecDepth 100000 in
theorem eL_993 {d rk : Nat} {L st : List Value} {h : Hp} : EvI (EvM d) CL rk 993 L st h = (popI st fun i s => popR s fun r s => (ialdF h r i).bind fun x => EvI (EvM d) CL rk 994 L (.int x :: s) h) := (Ev_step 993 L st h).trans rfl
set_option maxRecDepth 100000 in
theorem eL_994 {d rk : Nat} {L st : List Value} {h : Hp} : EvI (EvM d) CL rk 994 L st h = (asR (lGet L 0) fun x => EvI (EvM d) CL rk 995 L (.ref x :: st) h) := (Ev_step 994 L st h).trans rfl
set_option maxRecDepth 100000 in
theorem eL_995 {d rk : Nat} {L st : List Value} {h : Hp} : EvI (EvM d) CL rk 995 L st h = (asI (lGet L 3) fun x => EvI (EvM d) CL rk 996 L (.int x :: st) h) := (Ev_step 995 L st h).trans rfl
set_option maxRecDepth 100000 in
theorem eL_996 {d rk : Nat} {L st : List Value} {h : Hp} : EvI (EvM d) CL rk 996 L st h = (EvI (EvM d) CL rk 997 L (.int 2 :: st) h) := (Ev_step 996 L st h).trans rfl
set_option maxRecDepth 100000 in
theorem eL_997 {d rk : Nat} {L st : List Value} {h : Hp} : EvI (EvM d) CL rk 997 L st h = (popI2 st fun x y s => EvI (EvM d) CL rk 998 L (.int (x + y) :: s) h) := (Ev_step 997 L st h).trans rfl
set_option maxRecDepth 100000 in
theorem eL_998 {d rk : Nat} {L st : List Value} {h : Hp} : EvI (EvM d) CL rk 998 L st h = (popI st fun i s => popR s fun r s => (ialdF h r i).bind fun x => EvI (EvM d) CL rk 999 L (.int x :: s) h) := (Ev_step 998 L st h).trans rfl
set_option maxRecDepth 100000 in
theorem eL_999 {d rk : Nat} {L st : List Value} {h : Hp} : EvI (EvM d) CL rk 999 L st h = (if 2 ≤ st.length then (popR (st.drop 2) fun r s => if clsB h r 9 = true ∧ catS s ≤ 8 then (EvM d 194 (.ref r :: (st.take 2).reverse) h).bind fun q => EvI (EvM d) CL rk 1002 L (.int q.1 :: s) q.2 else none) else none) := (Ev_step 999 L st h).trans rfl
set_option maxRecDepth 100000 in
theorem eL_1002 {d rk : Nat} {L st : List Value} {h : Hp} : EvI (EvM d) CL rk 1002 L st h = (popI2 st fun x y s => if x = y then EvI (EvM d) CL rk 1383 L s h else EvI (EvM d) CL rk 1005 L s h) := (Ev_step 1002 L st h).trans rfl
set_option maxRecDepth 100000 in
theorem eL_1005 {d rk : Nat} {L st : List Value} {h : Hp} : EvI (EvM d) CL rk 1005 L st h = (EvI (EvM d) CL rk 1006 L (.int 0 :: st) h) := (Ev_step 1005 L st h).trans rfl
set_option maxRecDepth 100000 in
theorem eL_1006 {d rk : Nat} {L st : List Value} {h : Hp} : EvI (EvM d) CL rk 1006 L st h = (popI st fun v s => if s = [] ∧ okR rk v = true then some (v, h) else none) := (Ev_step 1006 L st h).trans rfl
set_option maxRecDepth 100000 in
theorem eL_1007 {d rk : Nat} {L st : List Value} {h : Hp} : EvI (EvM d) CL rk 1007 L st h = (asR (lGet L 1) fun x => EvI (EvM d) CL rk 1008 L (.ref x :: st) h) := (Ev_step 1007 L st h).trans rfl
set_option maxRecDepth 100000 in
theorem eL_1008 {d rk : Nat} {L st : List Value} {h : Hp} : EvI (EvM d) CL rk 1008 L st h = (asR (lGet L 0) fun x => EvI (EvM d) CL rk 1009 L (.ref x :: st) h) := (Ev_step 1008 L st h).trans rfl
set_option maxRecDepth 100000 in
theorem eL_1009 {d rk : Nat} {L st : List Value} {h : Hp} : EvI (EvM d) CL rk 1009 L st h = (asI (lGet L 3) fun x => EvI (EvM d) CL rk 1010 L (.int x :: st) h) := (Ev_step 1009 L st h).trans rfl
set_option maxRecDepth 100000 in
theorem eL_1010 {d rk : Nat} {L st : List Value} {h : Hp} : EvI (EvM d) CL rk 1010 L st h = (EvI (EvM d) CL rk 1011 L (.int 1 :: st) h) := (Ev_step 1010 L st h).trans rfl
set_option maxRecDepth 100000 in
theorem eL_1011 {d rk : Nat} {L st : List Value} {h : Hp} : EvI (EvM d) CL rk 1011 L st h = (popI2 st fun x y s => EvI (EvM d) CL rk 1012 L (.int (x + y) :: s) h) := (Ev_step 1011 L st h).trans rfl
set_option maxRecDepth 100000 in
theorem eL_1012 {d rk : Nat} {L st : List Value} {h : Hp} : EvI (EvM d) CL rk 1012 L st h = (popI st fun i s => popR s fun r s => (ialdF h r i).bind fun x => EvI (EvM d) CL rk 1013 L (.int x :: s) h) := (Ev_step 1012 L st h).trans rfl
set_option maxRecDepth 100000 in
theorem eL_1013 {d rk : Nat} {L st : List Value} {h : Hp} : EvI (EvM d) CL rk 1013 L st h = (if 1 ≤ st.length then (popR (st.drop 1) fun r s => if clsB h r 8 = true ∧ catS s ≤ 8 then (EvM d 109 (.ref r :: (st.take 1).reverse) h).bind fun q => EvI (EvM d) CL rk 1016 L (.int q.1 :: s) q.2 else none) else none) := (Ev_step 1013 L st h).trans rfl
set_option maxRecDepth 100000 in
theorem eL_1016 {d rk : Nat} {L st : List Value} {h : Hp} : EvI (EvM d) CL rk 1016 L st h = (asR (lGet L 2) fun x => EvI (EvM d) CL rk 1017 L (.ref x :: st) h) := (Ev_step 1016 L st h).trans rfl
set_option maxRecDepth 100000 in
theorem eL_1017 {d rk : Nat} {L st : List Value} {h : Hp} : EvI (EvM d) CL rk 1017 L st h = (asR (lGet L 0) fun x => EvI (EvM d) CL rk 1018 L (.ref x :: st) h) := (Ev_step 1017 L st h).trans rfl
set_option maxRecDepth 100000 in
theorem eL_1018 {d rk : Nat} {L st : List Value} {h : Hp} : EvI (EvM d) CL rk 1018 L st h = (asI (lGet L 3) fun x => EvI (EvM d) CL rk 1019 L (.int x :: st) h) := (Ev_step 1018 L st h).trans rfl
set_option maxRecDepth 100000 in
theorem eL_1019 {d rk : Nat} {L st : List Value} {h : Hp} : EvI (EvM d) CL rk 1019 L st h = (EvI (EvM d) CL rk 1020 L (.int 1 :: st) h) := (Ev_step 1019 L st h).trans rfl
set_option maxRecDepth 100000 in
theorem eL_1020 {d rk : Nat} {L st : List Value} {h : Hp} : EvI (EvM d) CL rk 1020 L st h = (popI2 st fun x y s => EvI (EvM d) CL rk 1021 L (.int (x + y) :: s) h) := (Ev_step 1020 L st h).trans rfl
set_option maxRecDepth 100000 in
theorem eL_1021 {d rk : Nat} {L st : List Value} {h : Hp} : EvI (EvM d) CL rk 1021 L st h = (popI st fun i s => popR s fun r s => (ialdF h r i).bind fun x => EvI (EvM d) CL rk 1022 L (.int x :: s) h) := (Ev_step 1021 L st h).trans rfl
set_option maxRecDepth 100000 in
theorem eL_1022 {d rk : Nat} {L st : List Value} {h : Hp} : EvI (EvM d) CL rk 1022 L st h = (if 1 ≤ st.length then (popR (st.drop 1) fun r s => if clsB h r 9 = true ∧ catS s ≤ 8 then (EvM d 195 (.ref r :: (st.take 1).reverse) h).bind fun q => EvI (EvM d) CL rk 1025 L (.int q.1 :: s) q.2 else none) else none) := (Ev_step 1022 L st h).trans rfl
set_option maxRecDepth 100000 in
theorem eL_1025 {d rk : Nat} {L st : List Value} {h : Hp} : EvI (EvM d) CL rk 1025 L st h = (popI2 st fun x y s => if x = y then EvI (EvM d) CL rk 1383 L s h else EvI (EvM d) CL rk 1028 L s h) := (Ev_step 1025 L st h).trans rfl
set_option maxRecDepth 100000 in
theorem eL_1028 {d rk : Nat} {L st : List Value} {h : Hp} : EvI (EvM d) CL rk 1028 L st h = (EvI (EvM d) CL rk 1029 L (.int 0 :: st) h) := (Ev_step 1028 L st h).trans rfl
set_option maxRecDepth 100000 in
theorem eL_1029 {d rk : Nat} {L st : List Value} {h : Hp} : EvI (EvM d) CL rk 1029 L st h = (popI st fun v s => if s = [] ∧ okR rk v = true then some (v, h) else none) := (Ev_step 1029 L st h).trans rfl
set_option maxRecDepth 100000 in
theorem eL_1030 {d rk : Nat} {L st : List Value} {h : Hp} : EvI (EvM d) CL rk 1030 L st h = (asR (lGet L 1) fun x => EvI (EvM d) CL rk 1031 L (.ref x :: st) h) := (Ev_step 1030 L st h).trans rfl
set_option maxRecDepth 100000 in
theorem eL_1031 {d rk : Nat} {L st : List Value} {h : Hp} : EvI (EvM d) CL rk 1031 L st h = (asR (lGet L 0) fun x => EvI (EvM d) CL rk 1032 L (.ref x :: st) h) := (Ev_step 1031 L st h).trans rfl
set_option maxRecDepth 100000 in
theorem eL_1032 {d rk : Nat} {L st : List Value} {h : Hp} : EvI (EvM d) CL rk 1032 L st h = (asI (lGet L 3) fun x => EvI (EvM d) CL rk 1033 L (.int x :: st) h) := (Ev_step 1032 L st h).trans rfl
set_option maxRecDepth 100000 in
theorem eL_1033 {d rk : Nat} {L st : List Value} {h : Hp} : EvI (EvM d) CL rk 1033 L st h = (EvI (EvM d) CL rk 1034 L (.int 1 :: st) h) := (Ev_step 1033 L st h).trans rfl
set_option maxRecDepth 100000 in
theorem eL_1034 {d rk : Nat} {L st : List Value} {h : Hp} : EvI (EvM d) CL rk 1034 L st h = (popI2 st fun x y s => EvI (EvM d) CL rk 1035 L (.int (x + y) :: s) h) := (Ev_step 1034 L st h).trans rfl
set_option maxRecDepth 100000 in
theorem eL_1035 {d rk : Nat} {L st : List Value} {h : Hp} : EvI (EvM d) CL rk 1035 L st h = (popI st fun i s => popR s fun r s => (ialdF h r i).bind fun x => EvI (EvM d) CL rk 1036 L (.int x :: s) h) := (Ev_step 1035 L st h).trans rfl
set_option maxRecDepth 100000 in
theorem eL_1036 {d rk : Nat} {L st : List Value} {h : Hp} : EvI (EvM d) CL rk 1036 L st h = (asR (lGet L 0) fun x => EvI (EvM d) CL rk 1037 L (.ref x :: st) h) := (Ev_step 1036 L st h).trans rfl
set_option maxRecDepth 100000 in
theorem eL_1037 {d rk : Nat} {L st : List Value} {h : Hp} : EvI (EvM d) CL rk 1037 L st h = (asI (lGet L 3) fun x => EvI (EvM d) CL rk 1038 L (.int x :: st) h) := (Ev_step 1037 L st h).trans rfl
set_option maxRecDepth 100000 in
theorem eL_1038 {d rk : Nat} {L st : List Value} {h : Hp} : EvI (EvM d) CL rk 1038 L st h = (EvI (EvM d) CL rk 1039 L (.int 2 :: st) h) := (Ev_step 1038 L st h).trans rfl
set_option maxRecDepth 100000 in
theorem eL_1039 {d rk : Nat} {L st : List Value} {h : Hp} : EvI (EvM d) CL rk 1039 L st h = (popI2 st fun x y s => EvI (EvM d) CL rk 1040 L (.int (x + y) :: s) h) := (Ev_step 1039 L st h).trans rfl
set_option maxRecDepth 100000 in
theorem eL_1040 {d rk : Nat} {L st : List Value} {h : Hp} : EvI (EvM d) CL rk 1040 L st h = (popI st fun i s => popR s fun r s => (ialdF h r i).bind fun x => EvI (EvM d) CL rk 1041 L (.int x :: s) h) := (Ev_step 1040 L st h).trans rfl
set_option maxRecDepth 100000 in
theorem eL_1041 {d rk : Nat} {L st : List Value} {h : Hp} : EvI (EvM d) CL rk 1041 L st h = (asR (lGet L 0) fun x => EvI (EvM d) CL rk 1042 L (.ref x :: st) h) := (Ev_step 1041 L st h).trans rfl
set_option maxRecDepth 100000 in
theorem eL_1042 {d rk : Nat} {L st : List Value} {h : Hp} : EvI (EvM d) CL rk 1042 L st h = (asI (lGet L 3) fun x => EvI (EvM d) CL rk 1043 L (.int x :: st) h) := (Ev_step 1042 L st h).trans rfl
set_option maxRecDepth 100000 in
theorem eL_1043 {d rk : Nat} {L st : List Value} {h : Hp} : EvI (EvM d) CL rk 1043 L st h = (EvI (EvM d) CL rk 1044 L (.int 3 :: st) h) := (Ev_step 1043 L st h).trans rfl
set_option maxRecDepth 100000 in
theorem eL_1044 {d rk : Nat} {L st : List Value} {h : Hp} : EvI (EvM d) CL rk 1044 L st h = (popI2 st fun x y s => EvI (EvM d) CL rk 1045 L (.int (x + y) :: s) h) := (Ev_step 1044 L st h).trans rfl
set_option maxRecDepth 100000 in
theorem eL_1045 {d rk : Nat} {L st : List Value} {h : Hp} : EvI (EvM d) CL rk 1045 L st h = (popI st fun i s => popR s fun r s => (ialdF h r i).bind fun x => EvI (EvM d) CL rk 1046 L (.int x :: s) h) := (Ev_step 1045 L st h).trans rfl
set_option maxRecDepth 100000 in
theorem eL_1046 {d rk : Nat} {L st : List Value} {h : Hp} : EvI (EvM d) CL rk 1046 L st h = (asR (lGet L 0) fun x => EvI (EvM d) CL rk 1047 L (.ref x :: st) h) := (Ev_step 1046 L st h).trans rfl
set_option maxRecDepth 100000 in
theorem eL_1047 {d rk : Nat} {L st : List Value} {h : Hp} : EvI (EvM d) CL rk 1047 L st h = (asI (lGet L 3) fun x => EvI (EvM d) CL rk 1048 L (.int x :: st) h) := (Ev_step 1047 L st h).trans rfl
set_option maxRecDepth 100000 in
theorem eL_1048 {d rk : Nat} {L st : List Value} {h : Hp} : EvI (EvM d) CL rk 1048 L st h = (EvI (EvM d) CL rk 1049 L (.int 4 :: st) h) := (Ev_step 1048 L st h).trans rfl
set_option maxRecDepth 100000 in
theorem eL_1049 {d rk : Nat} {L st : List Value} {h : Hp} : EvI (EvM d) CL rk 1049 L st h = (popI2 st fun x y s => EvI (EvM d) CL rk 1050 L (.int (x + y) :: s) h) := (Ev_step 1049 L st h).trans rfl
set_option maxRecDepth 100000 in
theorem eL_1050 {d rk : Nat} {L st : List Value} {h : Hp} : EvI (EvM d) CL rk 1050 L st h = (popI st fun i s => popR s fun r s => (ialdF h r i).bind fun x => EvI (EvM d) CL rk 1051 L (.int x :: s) h) := (Ev_step 1050 L st h).trans rfl
set_option maxRecDepth 100000 in
theorem eL_1051 {d rk : Nat} {L st : List Value} {h : Hp} : EvI (EvM d) CL rk 1051 L st h = (if 4 ≤ st.length then (popR (st.drop 4) fun r s => if clsB h r 8 = true ∧ catS s ≤ 8 then (EvM d 110 (.ref r :: (st.take 4).reverse) h).bind fun q => EvI (EvM d) CL rk 1054 L (.int q.1 :: s) q.2 else none) else none) := (Ev_step 1051 L st h).trans rfl
set_option maxRecDepth 100000 in
theorem eL_1054 {d rk : Nat} {L st : List Value} {h : Hp} : EvI (EvM d) CL rk 1054 L st h = (asR (lGet L 2) fun x => EvI (EvM d) CL rk 1055 L (.ref x :: st) h) := (Ev_step 1054 L st h).trans rfl
set_option maxRecDepth 100000 in
theorem eL_1055 {d rk : Nat} {L st : List Value} {h : Hp} : EvI (EvM d) CL rk 1055 L st h = (asR (lGet L 0) fun x => EvI (EvM d) CL rk 1056 L (.ref x :: st) h) := (Ev_step 1055 L st h).trans rfl
set_option maxRecDepth 100000 in
theorem eL_1056 {d rk : Nat} {L st : List Value} {h : Hp} : EvI (EvM d) CL rk 1056 L st h = (asI (lGet L 3) fun x => EvI (EvM d) CL rk 1057 L (.int x :: st) h) := (Ev_step 1056 L st h).trans rfl
set_option maxRecDepth 100000 in
theorem eL_1057 {d rk : Nat} {L st : List Value} {h : Hp} : EvI (EvM d) CL rk 1057 L st h = (EvI (EvM d) CL rk 1058 L (.int 1 :: st) h) := (Ev_step 1057 L st h).trans rfl
set_option maxRecDepth 100000 in
theorem eL_1058 {d rk : Nat} {L st : List Value} {h : Hp} : EvI (EvM d) CL rk 1058 L st h = (popI2 st fun x y s => EvI (EvM d) CL rk 1059 L (.int (x + y) :: s) h) := (Ev_step 1058 L st h).trans rfl
set_option maxRecDepth 100000 in
theorem eL_1059 {d rk : Nat} {L st : List Value} {h : Hp} : EvI (EvM d) CL rk 1059 L st h = (popI st fun i s => popR s fun r s => (ialdF h r i).bind fun x => EvI (EvM d) CL rk 1060 L (.int x :: s) h) := (Ev_step 1059 L st h).trans rfl
set_option maxRecDepth 100000 in
theorem eL_1060 {d rk : Nat} {L st : List Value} {h : Hp} : EvI (EvM d) CL rk 1060 L st h = (asR (lGet L 0) fun x => EvI (EvM d) CL rk 1061 L (.ref x :: st) h) := (Ev_step 1060 L st h).trans rfl
set_option maxRecDepth 100000 in
theorem eL_1061 {d rk : Nat} {L st : List Value} {h : Hp} : EvI (EvM d) CL rk 1061 L st h = (asI (lGet L 3) fun x => EvI (EvM d) CL rk 1062 L (.int x :: st) h) := (Ev_step 1061 L st h).trans rfl
set_option maxRecDepth 100000 in
theorem eL_1062 {d rk : Nat} {L st : List Value} {h : Hp} : EvI (EvM d) CL rk 1062 L st h = (EvI (EvM d) CL rk 1063 L (.int 2 :: st) h) := (Ev_step 1062 L st h).trans rfl
set_option maxRecDepth 100000 in
theorem eL_1063 {d rk : Nat} {L st : List Value} {h : Hp} : EvI (EvM d) CL rk 1063 L st h = (popI2 st fun x y s => EvI (EvM d) CL rk 1064 L (.int (x + y) :: s) h) := (Ev_step 1063 L st h).trans rfl
set_option maxRecDepth 100000 in
theorem eL_1064 {d rk : Nat} {L st : List Value} {h : Hp} : EvI (EvM d) CL rk 1064 L st h = (popI st fun i s => popR s fun r s => (ialdF h r i).bind fun x => EvI (EvM d) CL rk 1065 L (.int x :: s) h) := (Ev_step 1064 L st h).trans rfl
set_option maxRecDepth 100000 in
theorem eL_1065 {d rk : Nat} {L st : List Value} {h : Hp} : EvI (EvM d) CL rk 1065 L st h = (asR (lGet L 0) fun x => EvI (EvM d) CL rk 1066 L (.ref x :: st) h) := (Ev_step 1065 L st h).trans rfl
set_option maxRecDepth 100000 in
theorem eL_1066 {d rk : Nat} {L st : List Value} {h : Hp} : EvI (EvM d) CL rk 1066 L st h = (asI (lGet L 3) fun x => EvI (EvM d) CL rk 1067 L (.int x :: st) h) := (Ev_step 1066 L st h).trans rfl
set_option maxRecDepth 100000 in
theorem eL_1067 {d rk : Nat} {L st : List Value} {h : Hp} : EvI (EvM d) CL rk 1067 L st h = (EvI (EvM d) CL rk 1068 L (.int 3 :: st) h) := (Ev_step 1067 L st h).trans rfl
set_option maxRecDepth 100000 in
theorem eL_1068 {d rk : Nat} {L st : List Value} {h : Hp} : EvI (EvM d) CL rk 1068 L st h = (popI2 st fun x y s => EvI (EvM d) CL rk 1069 L (.int (x + y) :: s) h) := (Ev_step 1068 L st h).trans rfl
set_option maxRecDepth 100000 in
theorem eL_1069 {d rk : Nat} {L st : List Value} {h : Hp} : EvI (EvM d) CL rk 1069 L st h = (popI st fun i s => popR s fun r s => (ialdF h r i).bind fun x => EvI (EvM d) CL rk 1070 L (.int x :: s) h) := (Ev_step 1069 L st h).trans rfl
set_option maxRecDepth 100000 in
theorem eL_1070 {d rk : Nat} {L st : List Value} {h : Hp} : EvI (EvM d) CL rk 1070 L st h = (asR (lGet L 0) fun x => EvI (EvM d) CL rk 1071 L (.ref x :: st) h) := (Ev_step 1070 L st h).trans rfl
set_option maxRecDepth 100000 in
theorem eL_1071 {d rk : Nat} {L st : List Value} {h : Hp} : EvI (EvM d) CL rk 1071 L st h = (asI (lGet L 3) fun x => EvI (EvM d) CL rk 1072 L (.int x :: st) h) := (Ev_step 1071 L st h).trans rfl
set_option maxRecDepth 100000 in
theorem eL_1072 {d rk : Nat} {L st : List Value} {h : Hp} : EvI (EvM d) CL rk 1072 L st h = (EvI (EvM d) CL rk 1073 L (.int 4 :: st) h) := (Ev_step 1072 L st h).trans rfl
set_option maxRecDepth 100000 in
theorem eL_1073 {d rk : Nat} {L st : List Value} {h : Hp} : EvI (EvM d) CL rk 1073 L st h = (popI2 st fun x y s => EvI (EvM d) CL rk 1074 L (.int (x + y) :: s) h) := (Ev_step 1073 L st h).trans rfl
set_option maxRecDepth 100000 in
theorem eL_1074 {d rk : Nat} {L st : List Value} {h : Hp} : EvI (EvM d) CL rk 1074 L st h = (popI st fun i s => popR s fun r s => (ialdF h r i).bind fun x => EvI (EvM d) CL rk 1075 L (.int x :: s) h) := (Ev_step 1074 L st h).trans rfl
set_option maxRecDepth 100000 in
theorem eL_1075 {d rk : Nat} {L st : List Value} {h : Hp} : EvI (EvM d) CL rk 1075 L st h = (if 4 ≤ st.length then (popR (st.drop 4) fun r s => if clsB h r 9 = true ∧ catS s ≤ 8 then (EvM d 198 (.ref r :: (st.take 4).reverse) h).bind fun q => EvI (EvM d) CL rk 1078 L (.int q.1 :: s) q.2 else none) else none) := (Ev_step 1075 L st h).trans rfl
set_option maxRecDepth 100000 in
theorem eL_1078 {d rk : Nat} {L st : List Value} {h : Hp} : EvI (EvM d) CL rk 1078 L st h = (popI2 st fun x y s => if x = y then EvI (EvM d) CL rk 1383 L s h else EvI (EvM d) CL rk 1081 L s h) := (Ev_step 1078 L st h).trans rfl
set_option maxRecDepth 100000 in
theorem eL_1081 {d rk : Nat} {L st : List Value} {h : Hp} : EvI (EvM d) CL rk 1081 L st h = (EvI (EvM d) CL rk 1082 L (.int 0 :: st) h) := (Ev_step 1081 L st h).trans rfl
set_option maxRecDepth 100000 in
theorem eL_1082 {d rk : Nat} {L st : List Value} {h : Hp} : EvI (EvM d) CL rk 1082 L st h = (popI st fun v s => if s = [] ∧ okR rk v = true then some (v, h) else none) := (Ev_step 1082 L st h).trans rfl
set_option maxRecDepth 100000 in
theorem eL_1083 {d rk : Nat} {L st : List Value} {h : Hp} : EvI (EvM d) CL rk 1083 L st h = (asR (lGet L 1) fun x => EvI (EvM d) CL rk 1084 L (.ref x :: st) h) := (Ev_step 1083 L st h).trans rfl
set_option maxRecDepth 100000 in
theorem eL_1084 {d rk : Nat} {L st : List Value} {h : Hp} : EvI (EvM d) CL rk 1084 L st h = (asR (lGet L 0) fun x => EvI (EvM d) CL rk 1085 L (.ref x :: st) h) := (Ev_step 1084 L st h).trans rfl
set_option maxRecDepth 100000 in
theorem eL_1085 {d rk : Nat} {L st : List Value} {h : Hp} : EvI (EvM d) CL rk 1085 L st h = (asI (lGet L 3) fun x => EvI (EvM d) CL rk 1086 L (.int x :: st) h) := (Ev_step 1085 L st h).trans rfl
set_option maxRecDepth 100000 in
theorem eL_1086 {d rk : Nat} {L st : List Value} {h : Hp} : EvI (EvM d) CL rk 1086 L st h = (EvI (EvM d) CL rk 1087 L (.int 1 :: st) h) := (Ev_step 1086 L st h).trans rfl
set_option maxRecDepth 100000 in
theorem eL_1087 {d rk : Nat} {L st : List Value} {h : Hp} : EvI (EvM d) CL rk 1087 L st h = (popI2 st fun x y s => EvI (EvM d) CL rk 1088 L (.int (x + y) :: s) h) := (Ev_step 1087 L st h).trans rfl
set_option maxRecDepth 100000 in
theorem eL_1088 {d rk : Nat} {L st : List Value} {h : Hp} : EvI (EvM d) CL rk 1088 L st h = (popI st fun i s => popR s fun r s => (ialdF h r i).bind fun x => EvI (EvM d) CL rk 1089 L (.int x :: s) h) := (Ev_step 1088 L st h).trans rfl
set_option maxRecDepth 100000 in
theorem eL_1089 {d rk : Nat} {L st : List Value} {h : Hp} : EvI (EvM d) CL rk 1089 L st h = (asR (lGet L 0) fun x => EvI (EvM d) CL rk 1090 L (.ref x :: st) h) := (Ev_step 1089 L st h).trans rfl
set_option maxRecDepth 100000 in
theorem eL_1090 {d rk : Nat} {L st : List Value} {h : Hp} : EvI (EvM d) CL rk 1090 L st h = (asI (lGet L 3) fun x => EvI (EvM d) CL rk 1091 L (.int x :: st) h) := (Ev_step 1090 L st h).trans rfl
set_option maxRecDepth 100000 in
theorem eL_1091 {d rk : Nat} {L st : List Value} {h : Hp} : EvI (EvM d) CL rk 1091 L st h = (EvI (EvM d) CL rk 1092 L (.int 2 :: st) h) := (Ev_step 1091 L st h).trans rfl
set_option maxRecDepth 100000 in
theorem eL_1092 {d rk : Nat} {L st : List Value} {h : Hp} : EvI (EvM d) CL rk 1092 L st h = (popI2 st fun x y s => EvI (EvM d) CL rk 1093 L (.int (x + y) :: s) h) := (Ev_step 1092 L st h).trans rfl
set_option maxRecDepth 100000 in
theorem eL_1093 {d rk : Nat} {L st : List Value} {h : Hp} : EvI (EvM d) CL rk 1093 L st h = (popI st fun i s => popR s fun r s => (ialdF h r i).bind fun x => EvI (EvM d) CL rk 1094 L (.int x :: s) h) := (Ev_step 1093 L st h).trans rfl
set_option maxRecDepth 100000 in
theorem eL_1094 {d rk : Nat} {L st : List Value} {h : Hp} : EvI (EvM d) CL rk 1094 L st h = (asR (lGet L 0) fun x => EvI (EvM d) CL rk 1095 L (.ref x :: st) h) := (Ev_step 1094 L st h).trans rfl
set_option maxRecDepth 100000 in
theorem eL_1095 {d rk : Nat} {L st : List Value} {h : Hp} : EvI (EvM d) CL rk 1095 L st h = (asI (lGet L 3) fun x => EvI (EvM d) CL rk 1096 L (.int x :: st) h) := (Ev_step 1095 L st h).trans rfl
set_option maxRecDepth 100000 in
theorem eL_1096 {d rk : Nat} {L st : List Value} {h : Hp} : EvI (EvM d) CL rk 1096 L st h = (EvI (EvM d) CL rk 1097 L (.int 3 :: st) h) := (Ev_step 1096 L st h).trans rfl
set_option maxRecDepth 100000 in
theorem eL_1097 {d rk : Nat} {L st : List Value} {h : Hp} : EvI (EvM d) CL rk 1097 L st h = (popI2 st fun x y s => EvI (EvM d) CL rk 1098 L (.int (x + y) :: s) h) := (Ev_step 1097 L st h).trans rfl
set_option maxRecDepth 100000 in
theorem eL_1098 {d rk : Nat} {L st : List Value} {h : Hp} : EvI (EvM d) CL rk 1098 L st h = (popI st fun i s => popR s fun r s => (ialdF h r i).bind fun x => EvI (EvM d) CL rk 1099 L (.int x :: s) h) := (Ev_step 1098 L st h).trans rfl
set_option maxRecDepth 100000 in
theorem eL_1099 {d rk : Nat} {L st : List Value} {h : Hp} : EvI (EvM d) CL rk 1099 L st h = (if 3 ≤ st.length then (popR (st.drop 3) fun r s => if clsB h r 8 = true ∧ catS s ≤ 8 then (EvM d 111 (.ref r :: (st.take 3).reverse) h).bind fun q => EvI (EvM d) CL rk 1102 L (.int q.1 :: s) q.2 else none) else none) := (Ev_step 1099 L st h).trans rfl
set_option maxRecDepth 100000 in
theorem eL_1102 {d rk : Nat} {L st : List Value} {h : Hp} : EvI (EvM d) CL rk 1102 L st h = (asR (lGet L 2) fun x => EvI (EvM d) CL rk 1103 L (.ref x :: st) h) := (Ev_step 1102 L st h).trans rfl
set_option maxRecDepth 100000 in
theorem eL_1103 {d rk : Nat} {L st : List Value} {h : Hp} : EvI (EvM d) CL rk 1103 L st h = (asR (lGet L 0) fun x => EvI (EvM d) CL rk 1104 L (.ref x :: st) h) := (Ev_step 1103 L st h).trans rfl
set_option maxRecDepth 100000 in
theorem eL_1104 {d rk : Nat} {L st : List Value} {h : Hp} : EvI (EvM d) CL rk 1104 L st h = (asI (lGet L 3) fun x => EvI (EvM d) CL rk 1105 L (.int x :: st) h) := (Ev_step 1104 L st h).trans rfl
set_option maxRecDepth 100000 in
theorem eL_1105 {d rk : Nat} {L st : List Value} {h : Hp} : EvI (EvM d) CL rk 1105 L st h = (EvI (EvM d) CL rk 1106 L (.int 1 :: st) h) := (Ev_step 1105 L st h).trans rfl
set_option maxRecDepth 100000 in
theorem eL_1106 {d rk : Nat} {L st : List Value} {h : Hp} : EvI (EvM d) CL rk 1106 L st h = (popI2 st fun x y s => EvI (EvM d) CL rk 1107 L (.int (x + y) :: s) h) := (Ev_step 1106 L st h).trans rfl
set_option maxRecDepth 100000 in
theorem eL_1107 {d rk : Nat} {L st : List Value} {h : Hp} : EvI (EvM d) CL rk 1107 L st h = (popI st fun i s => popR s fun r s => (ialdF h r i).bind fun x => EvI (EvM d) CL rk 1108 L (.int x :: s) h) := (Ev_step 1107 L st h).trans rfl
set_option maxRecDepth 100000 in
theorem eL_1108 {d rk : Nat} {L st : List Value} {h : Hp} : EvI (EvM d) CL rk 1108 L st h = (asR (lGet L 0) fun x => EvI (EvM d) CL rk 1109 L (.ref x :: st) h) := (Ev_step 1108 L st h).trans rfl
set_option maxRecDepth 100000 in
theorem eL_1109 {d rk : Nat} {L st : List Value} {h : Hp} : EvI (EvM d) CL rk 1109 L st h = (asI (lGet L 3) fun x => EvI (EvM d) CL rk 1110 L (.int x :: st) h) := (Ev_step 1109 L st h).trans rfl
set_option maxRecDepth 100000 in
theorem eL_1110 {d rk : Nat} {L st : List Value} {h : Hp} : EvI (EvM d) CL rk 1110 L st h = (EvI (EvM d) CL rk 1111 L (.int 2 :: st) h) := (Ev_step 1110 L st h).trans rfl
set_option maxRecDepth 100000 in
theorem eL_1111 {d rk : Nat} {L st : List Value} {h : Hp} : EvI (EvM d) CL rk 1111 L st h = (popI2 st fun x y s => EvI (EvM d) CL rk 1112 L (.int (x + y) :: s) h) := (Ev_step 1111 L st h).trans rfl
set_option maxRecDepth 100000 in
theorem eL_1112 {d rk : Nat} {L st : List Value} {h : Hp} : EvI (EvM d) CL rk 1112 L st h = (popI st fun i s => popR s fun r s => (ialdF h r i).bind fun x => EvI (EvM d) CL rk 1113 L (.int x :: s) h) := (Ev_step 1112 L st h).trans rfl
set_option maxRecDepth 100000 in
theorem eL_1113 {d rk : Nat} {L st : List Value} {h : Hp} : EvI (EvM d) CL rk 1113 L st h = (asR (lGet L 0) fun x => EvI (EvM d) CL rk 1114 L (.ref x :: st) h) := (Ev_step 1113 L st h).trans rfl
set_option maxRecDepth 100000 in
theorem eL_1114 {d rk : Nat} {L st : List Value} {h : Hp} : EvI (EvM d) CL rk 1114 L st h = (asI (lGet L 3) fun x => EvI (EvM d) CL rk 1115 L (.int x :: st) h) := (Ev_step 1114 L st h).trans rfl
set_option maxRecDepth 100000 in
theorem eL_1115 {d rk : Nat} {L st : List Value} {h : Hp} : EvI (EvM d) CL rk 1115 L st h = (EvI (EvM d) CL rk 1116 L (.int 3 :: st) h) := (Ev_step 1115 L st h).trans rfl
set_option maxRecDepth 100000 in
theorem eL_1116 {d rk : Nat} {L st : List Value} {h : Hp} : EvI (EvM d) CL rk 1116 L st h = (popI2 st fun x y s => EvI (EvM d) CL rk 1117 L (.int (x + y) :: s) h) := (Ev_step 1116 L st h).trans rfl
set_option maxRecDepth 100000 in
theorem eL_1117 {d rk : Nat} {L st : List Value} {h : Hp} : EvI (EvM d) CL rk 1117 L st h = (popI st fun i s => popR s fun r s => (ialdF h r i).bind fun x => EvI (EvM d) CL rk 1118 L (.int x :: s) h) := (Ev_step 1117 L st h).trans rfl
set_option maxRecDepth 100000 in
theorem eL_1118 {d rk : Nat} {L st : List Value} {h : Hp} : EvI (EvM d) CL rk 1118 L st h = (if 3 ≤ st.length then (popR (st.drop 3) fun r s => if clsB h r 9 = true ∧ catS s ≤ 8 then (EvM d 200 (.ref r :: (st.take 3).reverse) h).bind fun q => EvI (EvM d) CL rk 1121 L (.int q.1 :: s) q.2 else none) else none) := (Ev_step 1118 L st h).trans rfl
set_option maxRecDepth 100000 in
theorem eL_1121 {d rk : Nat} {L st : List Value} {h : Hp} : EvI (EvM d) CL rk 1121 L st h = (popI2 st fun x y s => if x = y then EvI (EvM d) CL rk 1383 L s h else EvI (EvM d) CL rk 1124 L s h) := (Ev_step 1121 L st h).trans rfl
set_option maxRecDepth 100000 in
theorem eL_1124 {d rk : Nat} {L st : List Value} {h : Hp} : EvI (EvM d) CL rk 1124 L st h = (EvI (EvM d) CL rk 1125 L (.int 0 :: st) h) := (Ev_step 1124 L st h).trans rfl
set_option maxRecDepth 100000 in
theorem eL_1125 {d rk : Nat} {L st : List Value} {h : Hp} : EvI (EvM d) CL rk 1125 L st h = (popI st fun v s => if s = [] ∧ okR rk v = true then some (v, h) else none) := (Ev_step 1125 L st h).trans rfl
set_option maxRecDepth 100000 in
theorem eL_1126 {d rk : Nat} {L st : List Value} {h : Hp} : EvI (EvM d) CL rk 1126 L st h = (asR (lGet L 1) fun x => EvI (EvM d) CL rk 1127 L (.ref x :: st) h) := (Ev_step 1126 L st h).trans rfl
set_option maxRecDepth 100000 in
theorem eL_1127 {d rk : Nat} {L st : List Value} {h : Hp} : EvI (EvM d) CL rk 1127 L st h = (asR (lGet L 0) fun x => EvI (EvM d) CL rk 1128 L (.ref x :: st) h) := (Ev_step 1127 L st h).trans rfl
set_option maxRecDepth 100000 in
theorem eL_1128 {d rk : Nat} {L st : List Value} {h : Hp} : EvI (EvM d) CL rk 1128 L st h = (asI (lGet L 3) fun x => EvI (EvM d) CL rk 1129 L (.int x :: st) h) := (Ev_step 1128 L st h).trans rfl
set_option maxRecDepth 100000 in
theorem eL_1129 {d rk : Nat} {L st : List Value} {h : Hp} : EvI (EvM d) CL rk 1129 L st h = (EvI (EvM d) CL rk 1130 L (.int 1 :: st) h) := (Ev_step 1129 L st h).trans rfl
set_option maxRecDepth 100000 in
theorem eL_1130 {d rk : Nat} {L st : List Value} {h : Hp} : EvI (EvM d) CL rk 1130 L st h = (popI2 st fun x y s => EvI (EvM d) CL rk 1131 L (.int (x + y) :: s) h) := (Ev_step 1130 L st h).trans rfl
set_option maxRecDepth 100000 in
theorem eL_1131 {d rk : Nat} {L st : List Value} {h : Hp} : EvI (EvM d) CL rk 1131 L st h = (popI st fun i s => popR s fun r s => (ialdF h r i).bind fun x => EvI (EvM d) CL rk 1132 L (.int x :: s) h) := (Ev_step 1131 L st h).trans rfl
set_option maxRecDepth 100000 in
theorem eL_1132 {d rk : Nat} {L st : List Value} {h : Hp} : EvI (EvM d) CL rk 1132 L st h = (asR (lGet L 0) fun x => EvI (EvM d) CL rk 1133 L (.ref x :: st) h) := (Ev_step 1132 L st h).trans rfl
set_option maxRecDepth 100000 in
theorem eL_1133 {d rk : Nat} {L st : List Value} {h : Hp} : EvI (EvM d) CL rk 1133 L st h = (asI (lGet L 3) fun x => EvI (EvM d) CL rk 1134 L (.int x :: st) h) := (Ev_step 1133 L st h).trans rfl
set_option maxRecDepth 100000 in
theorem eL_1134 {d rk : Nat} {L st : List Value} {h : Hp} : EvI (EvM d) CL rk 1134 L st h = (EvI (EvM d) CL rk 1135 L (.int 2 :: st) h) := (Ev_step 1134 L st h).trans rfl
set_option maxRecDepth 100000 in
theorem eL_1135 {d rk : Nat} {L st : List Value} {h : Hp} : EvI (EvM d) CL rk 1135 L st h = (popI2 st fun x y s => EvI (EvM d) CL rk 1136 L (.int (x + y) :: s) h) := (Ev_step 1135 L st h).trans rfl
set_option maxRecDepth 100000 in
theorem eL_1136 {d rk : Nat} {L st : List Value} {h : Hp} : EvI (EvM d) CL rk 1136 L st h = (popI st fun i s => popR s fun r s => (ialdF h r i).bind fun x => EvI (EvM d) CL rk 1137 L (.int x :: s) h) := (Ev_step 1136 L st h).trans rfl
set_option maxRecDepth 100000 in
theorem eL_1137 {d rk : Nat} {L st : List Value} {h : Hp} : EvI (EvM d) CL rk 1137 L st h = (asR (lGet L 0) fun x => EvI (EvM d) CL rk 1138 L (.ref x :: st) h) := (Ev_step 1137 L st h).trans rfl
set_option maxRecDepth 100000 in
theorem eL_1138 {d rk : Nat} {L st : List Value} {h : Hp} : EvI (EvM d) CL rk 1138 L st h = (asI (lGet L 3) fun x => EvI (EvM d) CL rk 1139 L (.int x :: st) h) := (Ev_step 1138 L st h).trans rfl
set_option maxRecDepth 100000 in
theorem eL_1139 {d rk : Nat} {L st : List Value} {h : Hp} : EvI (EvM d) CL rk 1139 L st h = (EvI (EvM d) CL rk 1140 L (.int 3 :: st) h) := (Ev_step 1139 L st h).trans rfl
set_option maxRecDepth 100000 in
theorem eL_1140 {d rk : Nat} {L st : List Value} {h : Hp} : EvI (EvM d) CL rk 1140 L st h = (popI2 st fun x y s => EvI (EvM d) CL rk 1141 L (.int (x + y) :: s) h) := (Ev_step 1140 L st h).trans rfl
set_option maxRecDepth 100000 in
theorem eL_1141 {d rk : Nat} {L st : List Value} {h : Hp} : EvI (EvM d) CL rk 1141 L st h = (popI st fun i s => popR s fun r s => (ialdF h r i).bind fun x => EvI (EvM d) CL rk 1142 L (.int x :: s) h) := (Ev_step 1141 L st h).trans rfl
set_option maxRecDepth 100000 in
theorem eL_1142 {d rk : Nat} {L st : List Value} {h : Hp} : EvI (EvM d) CL rk 1142 L st h = (asR (lGet L 0) fun x => EvI (EvM d) CL rk 1143 L (.ref x :: st) h) := (Ev_step 1142 L st h).trans rfl
set_option maxRecDepth 100000 in
theorem eL_1143 {d rk : Nat} {L st : List Value} {h : Hp} : EvI (EvM d) CL rk 1143 L st h = (asI (lGet L 3) fun x => EvI (EvM d) CL rk 1144 L (.int x :: st) h) := (Ev_step 1143 L st h).trans rfl
set_option maxRecDepth 100000 in
theorem eL_1144 {d rk : Nat} {L st : List Value} {h : Hp} : EvI (EvM d) CL rk 1144 L st h = (EvI (EvM d) CL rk 1145 L (.int 4 :: st) h) := (Ev_step 1144 L st h).trans rfl
set_option maxRecDepth 100000 in
theorem eL_1145 {d rk : Nat} {L st : List Value} {h : Hp} : EvI (EvM d) CL rk 1145 L st h = (popI2 st fun x y s => EvI (EvM d) CL rk 1146 L (.int (x + y) :: s) h) := (Ev_step 1145 L st h).trans rfl
set_option maxRecDepth 100000 in
theorem eL_1146 {d rk : Nat} {L st : List Value} {h : Hp} : EvI (EvM d) CL rk 1146 L st h = (popI st fun i s => popR s fun r s => (ialdF h r i).bind fun x => EvI (EvM d) CL rk 1147 L (.int x :: s) h) := (Ev_step 1146 L st h).trans rfl
set_option maxRecDepth 100000 in
theorem eL_1147 {d rk : Nat} {L st : List Value} {h : Hp} : EvI (EvM d) CL rk 1147 L st h = (asR (lGet L 0) fun x => EvI (EvM d) CL rk 1148 L (.ref x :: st) h) := (Ev_step 1147 L st h).trans rfl
set_option maxRecDepth 100000 in
theorem eL_1148 {d rk : Nat} {L st : List Value} {h : Hp} : EvI (EvM d) CL rk 1148 L st h = (asI (lGet L 3) fun x => EvI (EvM d) CL rk 1149 L (.int x :: st) h) := (Ev_step 1148 L st h).trans rfl
set_option maxRecDepth 100000 in
theorem eL_1149 {d rk : Nat} {L st : List Value} {h : Hp} : EvI (EvM d) CL rk 1149 L st h = (EvI (EvM d) CL rk 1150 L (.int 5 :: st) h) := (Ev_step 1149 L st h).trans rfl
set_option maxRecDepth 100000 in
theorem eL_1150 {d rk : Nat} {L st : List Value} {h : Hp} : EvI (EvM d) CL rk 1150 L st h = (popI2 st fun x y s => EvI (EvM d) CL rk 1151 L (.int (x + y) :: s) h) := (Ev_step 1150 L st h).trans rfl
set_option maxRecDepth 100000 in
theorem eL_1151 {d rk : Nat} {L st : List Value} {h : Hp} : EvI (EvM d) CL rk 1151 L st h = (popI st fun i s => popR s fun r s => (ialdF h r i).bind fun x => EvI (EvM d) CL rk 1152 L (.int x :: s) h) := (Ev_step 1151 L st h).trans rfl
set_option maxRecDepth 100000 in
theorem eL_1152 {d rk : Nat} {L st : List Value} {h : Hp} : EvI (EvM d) CL rk 1152 L st h = (if 5 ≤ st.length then (popR (st.drop 5) fun r s => if clsB h r 8 = true ∧ catS s ≤ 8 then (EvM d 112 (.ref r :: (st.take 5).reverse) h).bind fun q => EvI (EvM d) CL rk 1155 L (.int q.1 :: s) q.2 else none) else none) := (Ev_step 1152 L st h).trans rfl
set_option maxRecDepth 100000 in
theorem eL_1155 {d rk : Nat} {L st : List Value} {h : Hp} : EvI (EvM d) CL rk 1155 L st h = (asR (lGet L 2) fun x => EvI (EvM d) CL rk 1156 L (.ref x :: st) h) := (Ev_step 1155 L st h).trans rfl
set_option maxRecDepth 100000 in
theorem eL_1156 {d rk : Nat} {L st : List Value} {h : Hp} : EvI (EvM d) CL rk 1156 L st h = (asR (lGet L 0) fun x => EvI (EvM d) CL rk 1157 L (.ref x :: st) h) := (Ev_step 1156 L st h).trans rfl
set_option maxRecDepth 100000 in
theorem eL_1157 {d rk : Nat} {L st : List Value} {h : Hp} : EvI (EvM d) CL rk 1157 L st h = (asI (lGet L 3) fun x => EvI (EvM d) CL rk 1158 L (.int x :: st) h) := (Ev_step 1157 L st h).trans rfl
set_option maxRecDepth 100000 in
theorem eL_1158 {d rk : Nat} {L st : List Value} {h : Hp} : EvI (EvM d) CL rk 1158 L st h = (EvI (EvM d) CL rk 1159 L (.int 1 :: st) h) := (Ev_step 1158 L st h).trans rfl
set_option maxRecDepth 100000 in
theorem eL_1159 {d rk : Nat} {L st : List Value} {h : Hp} : EvI (EvM d) CL rk 1159 L st h = (popI2 st fun x y s => EvI (EvM d) CL rk 1160 L (.int (x + y) :: s) h) := (Ev_step 1159 L st h).trans rfl
set_option maxRecDepth 100000 in
theorem eL_1160 {d rk : Nat} {L st : List Value} {h : Hp} : EvI (EvM d) CL rk 1160 L st h = (popI st fun i s => popR s fun r s => (ialdF h r i).bind fun x => EvI (EvM d) CL rk 1161 L (.int x :: s) h) := (Ev_step 1160 L st h).trans rfl
set_option maxRecDepth 100000 in
theorem eL_1161 {d rk : Nat} {L st : List Value} {h : Hp} : EvI (EvM d) CL rk 1161 L st h = (asR (lGet L 0) fun x => EvI (EvM d) CL rk 1162 L (.ref x :: st) h) := (Ev_step 1161 L st h).trans rfl
set_option maxRecDepth 100000 in
theorem eL_1162 {d rk : Nat} {L st : List Value} {h : Hp} : EvI (EvM d) CL rk 1162 L st h = (asI (lGet L 3) fun x => EvI (EvM d) CL rk 1163 L (.int x :: st) h) := (Ev_step 1162 L st h).trans rfl
set_option maxRecDepth 100000 in
theorem eL_1163 {d rk : Nat} {L st : List Value} {h : Hp} : EvI (EvM d) CL rk 1163 L st h = (EvI (EvM d) CL rk 1164 L (.int 2 :: st) h) := (Ev_step 1163 L st h).trans rfl
set_option maxRecDepth 100000 in
theorem eL_1164 {d rk : Nat} {L st : List Value} {h : Hp} : EvI (EvM d) CL rk 1164 L st h = (popI2 st fun x y s => EvI (EvM d) CL rk 1165 L (.int (x + y) :: s) h) := (Ev_step 1164 L st h).trans rfl
set_option maxRecDepth 100000 in
theorem eL_1165 {d rk : Nat} {L st : List Value} {h : Hp} : EvI (EvM d) CL rk 1165 L st h = (popI st fun i s => popR s fun r s => (ialdF h r i).bind fun x => EvI (EvM d) CL rk 1166 L (.int x :: s) h) := (Ev_step 1165 L st h).trans rfl
set_option maxRecDepth 100000 in
theorem eL_1166 {d rk : Nat} {L st : List Value} {h : Hp} : EvI (EvM d) CL rk 1166 L st h = (asR (lGet L 0) fun x => EvI (EvM d) CL rk 1167 L (.ref x :: st) h) := (Ev_step 1166 L st h).trans rfl
set_option maxRecDepth 100000 in
theorem eL_1167 {d rk : Nat} {L st : List Value} {h : Hp} : EvI (EvM d) CL rk 1167 L st h = (asI (lGet L 3) fun x => EvI (EvM d) CL rk 1168 L (.int x :: st) h) := (Ev_step 1167 L st h).trans rfl
set_option maxRecDepth 100000 in
theorem eL_1168 {d rk : Nat} {L st : List Value} {h : Hp} : EvI (EvM d) CL rk 1168 L st h = (EvI (EvM d) CL rk 1169 L (.int 3 :: st) h) := (Ev_step 1168 L st h).trans rfl
set_option maxRecDepth 100000 in
theorem eL_1169 {d rk : Nat} {L st : List Value} {h : Hp} : EvI (EvM d) CL rk 1169 L st h = (popI2 st fun x y s => EvI (EvM d) CL rk 1170 L (.int (x + y) :: s) h) := (Ev_step 1169 L st h).trans rfl
set_option maxRecDepth 100000 in
theorem eL_1170 {d rk : Nat} {L st : List Value} {h : Hp} : EvI (EvM d) CL rk 1170 L st h = (popI st fun i s => popR s fun r s => (ialdF h r i).bind fun x => EvI (EvM d) CL rk 1171 L (.int x :: s) h) := (Ev_step 1170 L st h).trans rfl
set_option maxRecDepth 100000 in
theorem eL_1171 {d rk : Nat} {L st : List Value} {h : Hp} : EvI (EvM d) CL rk 1171 L st h = (asR (lGet L 0) fun x => EvI (EvM d) CL rk 1172 L (.ref x :: st) h) := (Ev_step 1171 L st h).trans rfl
set_option maxRecDepth 100000 in
theorem eL_1172 {d rk : Nat} {L st : List Value} {h : Hp} : EvI (EvM d) CL rk 1172 L st h = (asI (lGet L 3) fun x => EvI (EvM d) CL rk 1173 L (.int x :: st) h) := (Ev_step 1172 L st h).trans rfl
set_option maxRecDepth 100000 in
theorem eL_1173 {d rk : Nat} {L st : List Value} {h : Hp} : EvI (EvM d) CL rk 1173 L st h = (EvI (EvM d) CL rk 1174 L (.int 4 :: st) h) := (Ev_step 1173 L st h).trans rfl
set_option maxRecDepth 100000 in
theorem eL_1174 {d rk : Nat} {L st : List Value} {h : Hp} : EvI (EvM d) CL rk 1174 L st h = (popI2 st fun x y s => EvI (EvM d) CL rk 1175 L (.int (x + y) :: s) h) := (Ev_step 1174 L st h).trans rfl
set_option maxRecDepth 100000 in
theorem eL_1175 {d rk : Nat} {L st : List Value} {h : Hp} : EvI (EvM d) CL rk 1175 L st h = (popI st fun i s => popR s fun r s => (ialdF h r i).bind fun x => EvI (EvM d) CL rk 1176 L (.int x :: s) h) := (Ev_step 1175 L st h).trans rfl
set_option maxRecDepth 100000 in
theorem eL_1176 {d rk : Nat} {L st : List Value} {h : Hp} : EvI (EvM d) CL rk 1176 L st h = (asR (lGet L 0) fun x => EvI (EvM d) CL rk 1177 L (.ref x :: st) h) := (Ev_step 1176 L st h).trans rfl
set_option maxRecDepth 100000 in
theorem eL_1177 {d rk : Nat} {L st : List Value} {h : Hp} : EvI (EvM d) CL rk 1177 L st h = (asI (lGet L 3) fun x => EvI (EvM d) CL rk 1178 L (.int x :: st) h) := (Ev_step 1177 L st h).trans rfl
set_option maxRecDepth 100000 in
theorem eL_1178 {d rk : Nat} {L st : List Value} {h : Hp} : EvI (EvM d) CL rk 1178 L st h = (EvI (EvM d) CL rk 1179 L (.int 5 :: st) h) := (Ev_step 1178 L st h).trans rfl
set_option maxRecDepth 100000 in
theorem eL_1179 {d rk : Nat} {L st : List Value} {h : Hp} : EvI (EvM d) CL rk 1179 L st h = (popI2 st fun x y s => EvI (EvM d) CL rk 1180 L (.int (x + y) :: s) h) := (Ev_step 1179 L st h).trans rfl
set_option maxRecDepth 100000 in
theorem eL_1180 {d rk : Nat} {L st : List Value} {h : Hp} : EvI (EvM d) CL rk 1180 L st h = (popI st fun i s => popR s fun r s => (ialdF h r i).bind fun x => EvI (EvM d) CL rk 1181 L (.int x :: s) h) := (Ev_step 1180 L st h).trans rfl
set_option maxRecDepth 100000 in
theorem eL_1181 {d rk : Nat} {L st : List Value} {h : Hp} : EvI (EvM d) CL rk 1181 L st h = (if 5 ≤ st.length then (popR (st.drop 5) fun r s => if clsB h r 9 = true ∧ catS s ≤ 8 then (EvM d 201 (.ref r :: (st.take 5).reverse) h).bind fun q => EvI (EvM d) CL rk 1184 L (.int q.1 :: s) q.2 else none) else none) := (Ev_step 1181 L st h).trans rfl
set_option maxRecDepth 100000 in
theorem eL_1184 {d rk : Nat} {L st : List Value} {h : Hp} : EvI (EvM d) CL rk 1184 L st h = (popI2 st fun x y s => if x = y then EvI (EvM d) CL rk 1383 L s h else EvI (EvM d) CL rk 1187 L s h) := (Ev_step 1184 L st h).trans rfl
set_option maxRecDepth 100000 in
theorem eL_1187 {d rk : Nat} {L st : List Value} {h : Hp} : EvI (EvM d) CL rk 1187 L st h = (EvI (EvM d) CL rk 1188 L (.int 0 :: st) h) := (Ev_step 1187 L st h).trans rfl
set_option maxRecDepth 100000 in
theorem eL_1188 {d rk : Nat} {L st : List Value} {h : Hp} : EvI (EvM d) CL rk 1188 L st h = (popI st fun v s => if s = [] ∧ okR rk v = true then some (v, h) else none) := (Ev_step 1188 L st h).trans rfl
set_option maxRecDepth 100000 in
theorem eL_1189 {d rk : Nat} {L st : List Value} {h : Hp} : EvI (EvM d) CL rk 1189 L st h = (asR (lGet L 1) fun x => EvI (EvM d) CL rk 1190 L (.ref x :: st) h) := (Ev_step 1189 L st h).trans rfl
set_option maxRecDepth 100000 in
theorem eL_1190 {d rk : Nat} {L st : List Value} {h : Hp} : EvI (EvM d) CL rk 1190 L st h = (asR (lGet L 0) fun x => EvI (EvM d) CL rk 1191 L (.ref x :: st) h) := (Ev_step 1190 L st h).trans rfl
set_option maxRecDepth 100000 in
theorem eL_1191 {d rk : Nat} {L st : List Value} {h : Hp} : EvI (EvM d) CL rk 1191 L st h = (asI (lGet L 3) fun x => EvI (EvM d) CL rk 1192 L (.int x :: st) h) := (Ev_step 1191 L st h).trans rfl
set_option maxRecDepth 100000 in
theorem eL_1192 {d rk : Nat} {L st : List Value} {h : Hp} : EvI (EvM d) CL rk 1192 L st h = (EvI (EvM d) CL rk 1193 L (.int 1 :: st) h) := (Ev_step 1192 L st h).trans rfl
set_option maxRecDepth 100000 in
theorem eL_1193 {d rk : Nat} {L st : List Value} {h : Hp} : EvI (EvM d) CL rk 1193 L st h = (popI2 st fun x y s => EvI (EvM d) CL rk 1194 L (.int (x + y) :: s) h) := (Ev_step 1193 L st h).trans rfl
set_option maxRecDepth 100000 in
theorem eL_1194 {d rk : Nat} {L st : List Value} {h : Hp} : EvI (EvM d) CL rk 1194 L st h = (popI st fun i s => popR s fun r s => (ialdF h r i).bind fun x => EvI (EvM d) CL rk 1195 L (.int x :: s) h) := (Ev_step 1194 L st h).trans rfl
set_option maxRecDepth 100000 in
theorem eL_1195 {d rk : Nat} {L st : List Value} {h : Hp} : EvI (EvM d) CL rk 1195 L st h = (if 1 ≤ st.length then (popR (st.drop 1) fun r s => if clsB h r 8 = true ∧ catS s ≤ 8 then (EvM d 113 (.ref r :: (st.take 1).reverse) h).bind fun q => EvI (EvM d) CL rk 1198 L (.int q.1 :: s) q.2 else none) else none) := (Ev_step 1195 L st h).trans rfl
set_option maxRecDepth 100000 in
theorem eL_1198 {d rk : Nat} {L st : List Value} {h : Hp} : EvI (EvM d) CL rk 1198 L st h = (asR (lGet L 2) fun x => EvI (EvM d) CL rk 1199 L (.ref x :: st) h) := (Ev_step 1198 L st h).trans rfl
set_option maxRecDepth 100000 in
theorem eL_1199 {d rk : Nat} {L st : List Value} {h : Hp} : EvI (EvM d) CL rk 1199 L st h = (asR (lGet L 0) fun x => EvI (EvM d) CL rk 1200 L (.ref x :: st) h) := (Ev_step 1199 L st h).trans rfl
set_option maxRecDepth 100000 in
theorem eL_1200 {d rk : Nat} {L st : List Value} {h : Hp} : EvI (EvM d) CL rk 1200 L st h = (asI (lGet L 3) fun x => EvI (EvM d) CL rk 1201 L (.int x :: st) h) := (Ev_step 1200 L st h).trans rfl
set_option maxRecDepth 100000 in
theorem eL_1201 {d rk : Nat} {L st : List Value} {h : Hp} : EvI (EvM d) CL rk 1201 L st h = (EvI (EvM d) CL rk 1202 L (.int 1 :: st) h) := (Ev_step 1201 L st h).trans rfl
set_option maxRecDepth 100000 in
theorem eL_1202 {d rk : Nat} {L st : List Value} {h : Hp} : EvI (EvM d) CL rk 1202 L st h = (popI2 st fun x y s => EvI (EvM d) CL rk 1203 L (.int (x + y) :: s) h) := (Ev_step 1202 L st h).trans rfl
set_option maxRecDepth 100000 in
theorem eL_1203 {d rk : Nat} {L st : List Value} {h : Hp} : EvI (EvM d) CL rk 1203 L st h = (popI st fun i s => popR s fun r s => (ialdF h r i).bind fun x => EvI (EvM d) CL rk 1204 L (.int x :: s) h) := (Ev_step 1203 L st h).trans rfl
set_option maxRecDepth 100000 in
theorem eL_1204 {d rk : Nat} {L st : List Value} {h : Hp} : EvI (EvM d) CL rk 1204 L st h = (if 1 ≤ st.length then (popR (st.drop 1) fun r s => if clsB h r 9 = true ∧ catS s ≤ 8 then (EvM d 202 (.ref r :: (st.take 1).reverse) h).bind fun q => EvI (EvM d) CL rk 1207 L (.int q.1 :: s) q.2 else none) else none) := (Ev_step 1204 L st h).trans rfl
set_option maxRecDepth 100000 in
theorem eL_1207 {d rk : Nat} {L st : List Value} {h : Hp} : EvI (EvM d) CL rk 1207 L st h = (popI2 st fun x y s => if x = y then EvI (EvM d) CL rk 1383 L s h else EvI (EvM d) CL rk 1210 L s h) := (Ev_step 1207 L st h).trans rfl
set_option maxRecDepth 100000 in
theorem eL_1210 {d rk : Nat} {L st : List Value} {h : Hp} : EvI (EvM d) CL rk 1210 L st h = (EvI (EvM d) CL rk 1211 L (.int 0 :: st) h) := (Ev_step 1210 L st h).trans rfl
set_option maxRecDepth 100000 in
theorem eL_1211 {d rk : Nat} {L st : List Value} {h : Hp} : EvI (EvM d) CL rk 1211 L st h = (popI st fun v s => if s = [] ∧ okR rk v = true then some (v, h) else none) := (Ev_step 1211 L st h).trans rfl
set_option maxRecDepth 100000 in
theorem eL_1212 {d rk : Nat} {L st : List Value} {h : Hp} : EvI (EvM d) CL rk 1212 L st h = (asR (lGet L 1) fun x => EvI (EvM d) CL rk 1213 L (.ref x :: st) h) := (Ev_step 1212 L st h).trans rfl
set_option maxRecDepth 100000 in
theorem eL_1213 {d rk : Nat} {L st : List Value} {h : Hp} : EvI (EvM d) CL rk 1213 L st h = (asR (lGet L 0) fun x => EvI (EvM d) CL rk 1214 L (.ref x :: st) h) := (Ev_step 1213 L st h).trans rfl
set_option maxRecDepth 100000 in
theorem eL_1214 {d rk : Nat} {L st : List Value} {h : Hp} : EvI (EvM d) CL rk 1214 L st h = (asI (lGet L 3) fun x => EvI (EvM d) CL rk 1215 L (.int x :: st) h) := (Ev_step 1214 L st h).trans rfl
set_option maxRecDepth 100000 in
theorem eL_1215 {d rk : Nat} {L st : List Value} {h : Hp} : EvI (EvM d) CL rk 1215 L st h = (EvI (EvM d) CL rk 1216 L (.int 1 :: st) h) := (Ev_step 1215 L st h).trans rfl
set_option maxRecDepth 100000 in
theorem eL_1216 {d rk : Nat} {L st : List Value} {h : Hp} : EvI (EvM d) CL rk 1216 L st h = (popI2 st fun x y s => EvI (EvM d) CL rk 1217 L (.int (x + y) :: s) h) := (Ev_step 1216 L st h).trans rfl
set_option maxRecDepth 100000 in
theorem eL_1217 {d rk : Nat} {L st : List Value} {h : Hp} : EvI (EvM d) CL rk 1217 L st h = (popI st fun i s => popR s fun r s => (ialdF h r i).bind fun x => EvI (EvM d) CL rk 1218 L (.int x :: s) h) := (Ev_step 1217 L st h).trans rfl
set_option maxRecDepth 100000 in
theorem eL_1218 {d rk : Nat} {L st : List Value} {h : Hp} : EvI (EvM d) CL rk 1218 L st h = (if 1 ≤ st.length then (popR (st.drop 1) fun r s => if clsB h r 8 = true ∧ catS s ≤ 8 then (EvM d 114 (.ref r :: (st.take 1).reverse) h).bind fun q => EvI (EvM d) CL rk 1221 L (.int q.1 :: s) q.2 else none) else none) := (Ev_step 1218 L st h).trans rfl
set_option maxRecDepth 100000 in
theorem eL_1221 {d rk : Nat} {L st : List Value} {h : Hp} : EvI (EvM d) CL rk 1221 L st h = (asR (lGet L 2) fun x => EvI (EvM d) CL rk 1222 L (.ref x :: st) h) := (Ev_step 1221 L st h).trans rfl
set_option maxRecDepth 100000 in
theorem eL_1222 {d rk : Nat} {L st : List Value} {h : Hp} : EvI (EvM d) CL rk 1222 L st h = (asR (lGet L 0) fun x => EvI (EvM d) CL rk 1223 L (.ref x :: st) h) := (Ev_step 1222 L st h).trans rfl
set_option maxRecDepth 100000 in
theorem eL_1223 {d rk : Nat} {L st : List Value} {h : Hp} : EvI (EvM d) CL rk 1223 L st h = (asI (lGet L 3) fun x => EvI (EvM d) CL rk 1224 L (.int x :: st) h) := (Ev_step 1223 L st h).trans rfl
set_option maxRecDepth 100000 in
theorem eL_1224 {d rk : Nat} {L st : List Value} {h : Hp} : EvI (EvM d) CL rk 1224 L st h = (EvI (EvM d) CL rk 1225 L (.int 1 :: st) h) := (Ev_step 1224 L st h).trans rfl
set_option maxRecDepth 100000 in
theorem eL_1225 {d rk : Nat} {L st : List Value} {h : Hp} : EvI (EvM d) CL rk 1225 L st h = (popI2 st fun x y s => EvI (EvM d) CL rk 1226 L (.int (x + y) :: s) h) := (Ev_step 1225 L st h).trans rfl
set_option maxRecDepth 100000 in
theorem eL_1226 {d rk : Nat} {L st : List Value} {h : Hp} : EvI (EvM d) CL rk 1226 L st h = (popI st fun i s => popR s fun r s => (ialdF h r i).bind fun x => EvI (EvM d) CL rk 1227 L (.int x :: s) h) := (Ev_step 1226 L st h).trans rfl
set_option maxRecDepth 100000 in
theorem eL_1227 {d rk : Nat} {L st : List Value} {h : Hp} : EvI (EvM d) CL rk 1227 L st h = (if 1 ≤ st.length then (popR (st.drop 1) fun r s => if clsB h r 9 = true ∧ catS s ≤ 8 then (EvM d 203 (.ref r :: (st.take 1).reverse) h).bind fun q => EvI (EvM d) CL rk 1230 L (.int q.1 :: s) q.2 else none) else none) := (Ev_step 1227 L st h).trans rfl
set_option maxRecDepth 100000 in
theorem eL_1230 {d rk : Nat} {L st : List Value} {h : Hp} : EvI (EvM d) CL rk 1230 L st h = (popI2 st fun x y s => if x = y then EvI (EvM d) CL rk 1383 L s h else EvI (EvM d) CL rk 1233 L s h) := (Ev_step 1230 L st h).trans rfl
set_option maxRecDepth 100000 in
theorem eL_1233 {d rk : Nat} {L st : List Value} {h : Hp} : EvI (EvM d) CL rk 1233 L st h = (EvI (EvM d) CL rk 1234 L (.int 0 :: st) h) := (Ev_step 1233 L st h).trans rfl
set_option maxRecDepth 100000 in
theorem eL_1234 {d rk : Nat} {L st : List Value} {h : Hp} : EvI (EvM d) CL rk 1234 L st h = (popI st fun v s => if s = [] ∧ okR rk v = true then some (v, h) else none) := (Ev_step 1234 L st h).trans rfl
set_option maxRecDepth 100000 in
theorem eL_1235 {d rk : Nat} {L st : List Value} {h : Hp} : EvI (EvM d) CL rk 1235 L st h = (asR (lGet L 1) fun x => EvI (EvM d) CL rk 1236 L (.ref x :: st) h) := (Ev_step 1235 L st h).trans rfl
set_option maxRecDepth 100000 in
theorem eL_1236 {d rk : Nat} {L st : List Value} {h : Hp} : EvI (EvM d) CL rk 1236 L st h = (asR (lGet L 0) fun x => EvI (EvM d) CL rk 1237 L (.ref x :: st) h) := (Ev_step 1236 L st h).trans rfl
set_option maxRecDepth 100000 in
theorem eL_1237 {d rk : Nat} {L st : List Value} {h : Hp} : EvI (EvM d) CL rk 1237 L st h = (asI (lGet L 3) fun x => EvI (EvM d) CL rk 1238 L (.int x :: st) h) := (Ev_step 1237 L st h).trans rfl
set_option maxRecDepth 100000 in
theorem eL_1238 {d rk : Nat} {L st : List Value} {h : Hp} : EvI (EvM d) CL rk 1238 L st h = (EvI (EvM d) CL rk 1239 L (.int 1 :: st) h) := (Ev_step 1238 L st h).trans rfl
set_option maxRecDepth 100000 in
theorem eL_1239 {d rk : Nat} {L st : List Value} {h : Hp} : EvI (EvM d) CL rk 1239 L st h = (popI2 st fun x y s => EvI (EvM d) CL rk 1240 L (.int (x + y) :: s) h) := (Ev_step 1239 L st h).trans rfl
set_option maxRecDepth 100000 in
theorem eL_1240 {d rk : Nat} {L st : List Value} {h : Hp} : EvI (EvM d) CL rk 1240 L st h = (popI st fun i s => popR s fun r s => (ialdF h r i).bind fun x => EvI (EvM d) CL rk 1241 L (.int x :: s) h) := (Ev_step 1240 L st h).trans rfl
set_option maxRecDepth 100000 in
theorem eL_1241 {d rk : Nat} {L st : List Value} {h : Hp} : EvI (EvM d) CL rk 1241 L st h = (if 1 ≤ st.length then (popR (st.drop 1) fun r s => if clsB h r 8 = true ∧ catS s ≤ 8 then (EvM d 115 (.ref r :: (st.take 1).reverse) h).bind fun q => EvI (EvM d) CL rk 1244 L (.int q.1 :: s) q.2 else none) else none) := (Ev_step 1241 L st h).trans rfl
set_option maxRecDepth 100000 in
theorem eL_1244 {d rk : Nat} {L st : List Value} {h : Hp} : EvI (EvM d) CL rk 1244 L st h = (asR (lGet L 2) fun x => EvI (EvM d) CL rk 1245 L (.ref x :: st) h) := (Ev_step 1244 L st h).trans rfl
set_option maxRecDepth 100000 in
theorem eL_1245 {d rk : Nat} {L st : List Value} {h : Hp} : EvI (EvM d) CL rk 1245 L st h = (asR (lGet L 0) fun x => EvI (EvM d) CL rk 1246 L (.ref x :: st) h) := (Ev_step 1245 L st h).trans rfl
set_option maxRecDepth 100000 in
theorem eL_1246 {d rk : Nat} {L st : List Value} {h : Hp} : EvI (EvM d) CL rk 1246 L st h = (asI (lGet L 3) fun x => EvI (EvM d) CL rk 1247 L (.int x :: st) h) := (Ev_step 1246 L st h).trans rfl
set_option maxRecDepth 100000 in
theorem eL_1247 {d rk : Nat} {L st : List Value} {h : Hp} : EvI (EvM d) CL rk 1247 L st h = (EvI (EvM d) CL rk 1248 L (.int 1 :: st) h) := (Ev_step 1247 L st h).trans rfl
set_option maxRecDepth 100000 in
theorem eL_1248 {d rk : Nat} {L st : List Value} {h : Hp} : EvI (EvM d) CL rk 1248 L st h = (popI2 st fun x y s => EvI (EvM d) CL rk 1249 L (.int (x + y) :: s) h) := (Ev_step 1248 L st h).trans rfl
set_option maxRecDepth 100000 in
theorem eL_1249 {d rk : Nat} {L st : List Value} {h : Hp} : EvI (EvM d) CL rk 1249 L st h = (popI st fun i s => popR s fun r s => (ialdF h r i).bind fun x => EvI (EvM d) CL rk 1250 L (.int x :: s) h) := (Ev_step 1249 L st h).trans rfl
set_option maxRecDepth 100000 in
theorem eL_1250 {d rk : Nat} {L st : List Value} {h : Hp} : EvI (EvM d) CL rk 1250 L st h = (if 1 ≤ st.length then (popR (st.drop 1) fun r s => if clsB h r 9 = true ∧ catS s ≤ 8 then (EvM d 204 (.ref r :: (st.take 1).reverse) h).bind fun q => EvI (EvM d) CL rk 1253 L (.int q.1 :: s) q.2 else none) else none) := (Ev_step 1250 L st h).trans rfl
set_option maxRecDepth 100000 in
theorem eL_1253 {d rk : Nat} {L st : List Value} {h : Hp} : EvI (EvM d) CL rk 1253 L st h = (popI2 st fun x y s => if x = y then EvI (EvM d) CL rk 1383 L s h else EvI (EvM d) CL rk 1256 L s h) := (Ev_step 1253 L st h).trans rfl
set_option maxRecDepth 100000 in
theorem eL_1256 {d rk : Nat} {L st : List Value} {h : Hp} : EvI (EvM d) CL rk 1256 L st h = (EvI (EvM d) CL rk 1257 L (.int 0 :: st) h) := (Ev_step 1256 L st h).trans rfl
set_option maxRecDepth 100000 in
theorem eL_1257 {d rk : Nat} {L st : List Value} {h : Hp} : EvI (EvM d) CL rk 1257 L st h = (popI st fun v s => if s = [] ∧ okR rk v = true then some (v, h) else none) := (Ev_step 1257 L st h).trans rfl
set_option maxRecDepth 100000 in
theorem eL_1258 {d rk : Nat} {L st : List Value} {h : Hp} : EvI (EvM d) CL rk 1258 L st h = (asR (lGet L 1) fun x => EvI (EvM d) CL rk 1259 L (.ref x :: st) h) := (Ev_step 1258 L st h).trans rfl
set_option maxRecDepth 100000 in
theorem eL_1259 {d rk : Nat} {L st : List Value} {h : Hp} : EvI (EvM d) CL rk 1259 L st h = (asR (lGet L 0) fun x => EvI (EvM d) CL rk 1260 L (.ref x :: st) h) := (Ev_step 1259 L st h).trans rfl
set_option maxRecDepth 100000 in
theorem eL_1260 {d rk : Nat} {L st : List Value} {h : Hp} : EvI (EvM d) CL rk 1260 L st h = (asI (lGet L 3) fun x => EvI (EvM d) CL rk 1261 L (.int x :: st) h) := (Ev_step 1260 L st h).trans rfl
set_option maxRecDepth 100000 in
theorem eL_1261 {d rk : Nat} {L st : List Value} {h : Hp} : EvI (EvM d) CL rk 1261 L st h = (EvI (EvM d) CL rk 1262 L (.int 1 :: st) h) := (Ev_step 1261 L st h).trans rfl
set_option maxRecDepth 100000 in
theorem eL_1262 {d rk : Nat} {L st : List Value} {h : Hp} : EvI (EvM d) CL rk 1262 L st h = (popI2 st fun x y s => EvI (EvM d) CL rk 1263 L (.int (x + y) :: s) h) := (Ev_step 1262 L st h).trans rfl
set_option maxRecDepth 100000 in
theorem eL_1263 {d rk : Nat} {L st : List Value} {h : Hp} : EvI (EvM d) CL rk 1263 L st h = (popI st fun i s => popR s fun r s => (ialdF h r i).bind fun x => EvI (EvM d) CL rk 1264 L (.int x :: s) h) := (Ev_step 1263 L st h).trans rfl
set_option maxRecDepth 100000 in
theorem eL_1264 {d rk : Nat} {L st : List Value} {h : Hp} : EvI (EvM d) CL rk 1264 L st h = (asR (lGet L 0) fun x => EvI (EvM d) CL rk 1265 L (.ref x :: st) h) := (Ev_step 1264 L st h).trans rfl
set_option maxRecDepth 100000 in
theorem eL_1265 {d rk : Nat} {L st : List Value} {h : Hp} : EvI (EvM d) CL rk 1265 L st h = (asI (lGet L 3) fun x => EvI (EvM d) CL rk 1266 L (.int x :: st) h) := (Ev_step 1265 L st h).trans rfl
set_option maxRecDepth 100000 in
theorem eL_1266 {d rk : Nat} {L st : List Value} {h : Hp} : EvI (EvM d) CL rk 1266 L st h = (EvI (EvM d) CL rk 1267 L (.int 2 :: st) h) := (Ev_step 1266 L st h).trans rfl
set_option maxRecDepth 100000 in
theorem eL_1267 {d rk : Nat} {L st : List Value} {h : Hp} : EvI (EvM d) CL rk 1267 L st h = (popI2 st fun x y s => EvI (EvM d) CL rk 1268 L (.int (x + y) :: s) h) := (Ev_step 1267 L st h).trans rfl
set_option maxRecDepth 100000 in
theorem eL_1268 {d rk : Nat} {L st : List Value} {h : Hp} : EvI (EvM d) CL rk 1268 L st h = (popI st fun i s => popR s fun r s => (ialdF h r i).bind fun x => EvI (EvM d) CL rk 1269 L (.int x :: s) h) := (Ev_step 1268 L st h).trans rfl
set_option maxRecDepth 100000 in
theorem eL_1269 {d rk : Nat} {L st : List Value} {h : Hp} : EvI (EvM d) CL rk 1269 L st h = (if 2 ≤ st.length then (popR (st.drop 2) fun r s => if clsB h r 8 = true ∧ catS s ≤ 8 then (EvM d 116 (.ref r :: (st.take 2).reverse) h).bind fun q => EvI (EvM d) CL rk 1272 L (.int q.1 :: s) q.2 else none) else none) := (Ev_step 1269 L st h).trans rfl
set_option maxRecDepth 100000 in
theorem eL_1272 {d rk : Nat} {L st : List Value} {h : Hp} : EvI (EvM d) CL rk 1272 L st h = (asR (lGet L 2) fun x => EvI (EvM d) CL rk 1273 L (.ref x :: st) h) := (Ev_step 1272 L st h).trans rfl
set_option maxRecDepth 100000 in
theorem eL_1273 {d rk : Nat} {L st : List Value} {h : Hp} : EvI (EvM d) CL rk 1273 L st h = (asR (lGet L 0) fun x => EvI (EvM d) CL rk 1274 L (.ref x :: st) h) := (Ev_step 1273 L st h).trans rfl
set_option maxRecDepth 100000 in
theorem eL_1274 {d rk : Nat} {L st : List Value} {h : Hp} : EvI (EvM d) CL rk 1274 L st h = (asI (lGet L 3) fun x => EvI (EvM d) CL rk 1275 L (.int x :: st) h) := (Ev_step 1274 L st h).trans rfl
set_option maxRecDepth 100000 in
theorem eL_1275 {d rk : Nat} {L st : List Value} {h : Hp} : EvI (EvM d) CL rk 1275 L st h = (EvI (EvM d) CL rk 1276 L (.int 1 :: st) h) := (Ev_step 1275 L st h).trans rfl
set_option maxRecDepth 100000 in
theorem eL_1276 {d rk : Nat} {L st : List Value} {h : Hp} : EvI (EvM d) CL rk 1276 L st h = (popI2 st fun x y s => EvI (EvM d) CL rk 1277 L (.int (x + y) :: s) h) := (Ev_step 1276 L st h).trans rfl
set_option maxRecDepth 100000 in
theorem eL_1277 {d rk : Nat} {L st : List Value} {h : Hp} : EvI (EvM d) CL rk 1277 L st h = (popI st fun i s => popR s fun r s => (ialdF h r i).bind fun x => EvI (EvM d) CL rk 1278 L (.int x :: s) h) := (Ev_step 1277 L st h).trans rfl
set_option maxRecDepth 100000 in
theorem eL_1278 {d rk : Nat} {L st : List Value} {h : Hp} : EvI (EvM d) CL rk 1278 L st h = (asR (lGet L 0) fun x => EvI (EvM d) CL rk 1279 L (.ref x :: st) h) := (Ev_step 1278 L st h).trans rfl
set_option maxRecDepth 100000 in
theorem eL_1279 {d rk : Nat} {L st : List Value} {h : Hp} : EvI (EvM d) CL rk 1279 L st h = (asI (lGet L 3) fun x => EvI (EvM d) CL rk 1280 L (.int x :: st) h) := (Ev_step 1279 L st h).trans rfl
set_option maxRecDepth 100000 in
theorem eL_1280 {d rk : Nat} {L st : List Value} {h : Hp} : EvI (EvM d) CL rk 1280 L st h = (EvI (EvM d) CL rk 1281 L (.int 2 :: st) h) := (Ev_step 1280 L st h).trans rfl
set_option maxRecDepth 100000 in
theorem eL_1281 {d rk : Nat} {L st : List Value} {h : Hp} : EvI (EvM d) CL rk 1281 L st h = (popI2 st fun x y s => EvI (EvM d) CL rk 1282 L (.int (x + y) :: s) h) := (Ev_step 1281 L st h).trans rfl
set_option maxRecDepth 100000 in
theorem eL_1282 {d rk : Nat} {L st : List Value} {h : Hp} : EvI (EvM d) CL rk 1282 L st h = (popI st fun i s => popR s fun r s => (ialdF h r i).bind fun x => EvI (EvM d) CL rk 1283 L (.int x :: s) h) := (Ev_step 1282 L st h).trans rfl
set_option maxRecDepth 100000 in
theorem eL_1283 {d rk : Nat} {L st : List Value} {h : Hp} : EvI (EvM d) CL rk 1283 L st h = (if 2 ≤ st.length then (popR (st.drop 2) fun r s => if clsB h r 9 = true ∧ catS s ≤ 8 then (EvM d 206 (.ref r :: (st.take 2).reverse) h).bind fun q => EvI (EvM d) CL rk 1286 L (.int q.1 :: s) q.2 else none) else none) := (Ev_step 1283 L st h).trans rfl
set_option maxRecDepth 100000 in
theorem eL_1286 {d rk : Nat} {L st : List Value} {h : Hp} : EvI (EvM d) CL rk 1286 L st h = (popI2 st fun x y s => if x = y then EvI (EvM d) CL rk 1383 L s h else EvI (EvM d) CL rk 1289 L s h) := (Ev_step 1286 L st h).trans rfl
set_option maxRecDepth 100000 in
theorem eL_1289 {d rk : Nat} {L st : List Value} {h : Hp} : EvI (EvM d) CL rk 1289 L st h = (EvI (EvM d) CL rk 1290 L (.int 0 :: st) h) := (Ev_step 1289 L st h).trans rfl
set_option maxRecDepth 100000 in
theorem eL_1290 {d rk : Nat} {L st : List Value} {h : Hp} : EvI (EvM d) CL rk 1290 L st h = (popI st fun v s => if s = [] ∧ okR rk v = true then some (v, h) else none) := (Ev_step 1290 L st h).trans rfl
set_option maxRecDepth 100000 in
theorem eL_1291 {d rk : Nat} {L st : List Value} {h : Hp} : EvI (EvM d) CL rk 1291 L st h = (asR (lGet L 1) fun x => EvI (EvM d) CL rk 1292 L (.ref x :: st) h) := (Ev_step 1291 L st h).trans rfl
set_option maxRecDepth 100000 in
theorem eL_1292 {d rk : Nat} {L st : List Value} {h : Hp} : EvI (EvM d) CL rk 1292 L st h = (asR (lGet L 0) fun x => EvI (EvM d) CL rk 1293 L (.ref x :: st) h) := (Ev_step 1292 L st h).trans rfl
set_option maxRecDepth 100000 in
theorem eL_1293 {d rk : Nat} {L st : List Value} {h : Hp} : EvI (EvM d) CL rk 1293 L st h = (asI (lGet L 3) fun x => EvI (EvM d) CL rk 1294 L (.int x :: st) h) := (Ev_step 1293 L st h).trans rfl
set_option maxRecDepth 100000 in
theorem eL_1294 {d rk : Nat} {L st : List Value} {h : Hp} : EvI (EvM d) CL rk 1294 L st h = (EvI (EvM d) CL rk 1295 L (.int 1 :: st) h) := (Ev_step 1294 L st h).trans rfl
set_option maxRecDepth 100000 in
theorem eL_1295 {d rk : Nat} {L st : List Value} {h : Hp} : EvI (EvM d) CL rk 1295 L st h = (popI2 st fun x y s => EvI (EvM d) CL rk 1296 L (.int (x + y) :: s) h) := (Ev_step 1295 L st h).trans rfl
set_option maxRecDepth 100000 in
theorem eL_1296 {d rk : Nat} {L st : List Value} {h : Hp} : EvI (EvM d) CL rk 1296 L st h = (popI st fun i s => popR s fun r s => (ialdF h r i).bind fun x => EvI (EvM d) CL rk 1297 L (.int x :: s) h) := (Ev_step 1296 L st h).trans rfl
set_option maxRecDepth 100000 in
theorem eL_1297 {d rk : Nat} {L st : List Value} {h : Hp} : EvI (EvM d) CL rk 1297 L st h = (asR (lGet L 0) fun x => EvI (EvM d) CL rk 1298 L (.ref x :: st) h) := (Ev_step 1297 L st h).trans rfl
set_option maxRecDepth 100000 in
theorem eL_1298 {d rk : Nat} {L st : List Value} {h : Hp} : EvI (EvM d) CL rk 1298 L st h = (asI (lGet L 3) fun x => EvI (EvM d) CL rk 1299 L (.int x :: st) h) := (Ev_step 1298 L st h).trans rfl
set_option maxRecDepth 100000 in
theorem eL_1299 {d rk : Nat} {L st : List Value} {h : Hp} : EvI (EvM d) CL rk 1299 L st h = (EvI (EvM d) CL rk 1300 L (.int 2 :: st) h) := (Ev_step 1299 L st h).trans rfl
set_option maxRecDepth 100000 in
theorem eL_1300 {d rk : Nat} {L st : List Value} {h : Hp} : EvI (EvM d) CL rk 1300 L st h = (popI2 st fun x y s => EvI (EvM d) CL rk 1301 L (.int (x + y) :: s) h) := (Ev_step 1300 L st h).trans rfl
set_option maxRecDepth 100000 in
theorem eL_1301 {d rk : Nat} {L st : List Value} {h : Hp} : EvI (EvM d) CL rk 1301 L st h = (popI st fun i s => popR s fun r s => (ialdF h r i).bind fun x => EvI (EvM d) CL rk 1302 L (.int x :: s) h) := (Ev_step 1301 L st h).trans rfl
set_option maxRecDepth 100000 in
theorem eL_1302 {d rk : Nat} {L st : List Value} {h : Hp} : EvI (EvM d) CL rk 1302 L st h = (if 2 ≤ st.length then (popR (st.drop 2) fun r s => if clsB h r 8 = true ∧ catS s ≤ 8 then (EvM d 117 (.ref r :: (st.take 2).reverse) h).bind fun q => EvI (EvM d) CL rk 1305 L (.int q.1 :: s) q.2 else none) else none) := (Ev_step 1302 L st h).trans rfl
set_option maxRecDepth 100000 in
theorem eL_1305 {d rk : Nat} {L st : List Value} {h : Hp} : EvI (EvM d) CL rk 1305 L st h = (asR (lGet L 2) fun x => EvI (EvM d) CL rk 1306 L (.ref x :: st) h) := (Ev_step 1305 L st h).trans rfl
set_option maxRecDepth 100000 in
theorem eL_1306 {d rk : Nat} {L st : List Value} {h : Hp} : EvI (EvM d) CL rk 1306 L st h = (asR (lGet L 0) fun x => EvI (EvM d) CL rk 1307 L (.ref x :: st) h) := (Ev_step 1306 L st h).trans rfl
set_option maxRecDepth 100000 in
theorem eL_1307 {d rk : Nat} {L st : List Value} {h : Hp} : EvI (EvM d) CL rk 1307 L st h = (asI (lGet L 3) fun x => EvI (EvM d) CL rk 1308 L (.int x :: st) h) := (Ev_step 1307 L st h).trans rfl
set_option maxRecDepth 100000 in
theorem eL_1308 {d rk : Nat} {L st : List Value} {h : Hp} : EvI (EvM d) CL rk 1308 L st h = (EvI (EvM d) CL rk 1309 L (.int 1 :: st) h) := (Ev_step 1308 L st h).trans rfl
set_option maxRecDepth 100000 in
theorem eL_1309 {d rk : Nat} {L st : List Value} {h : Hp} : EvI (EvM d) CL rk 1309 L st h = (popI2 st fun x y s => EvI (EvM d) CL rk 1310 L (.int (x + y) :: s) h) := (Ev_step 1309 L st h).trans rfl
set_option maxRecDepth 100000 in
theorem eL_1310 {d rk : Nat} {L st : List Value} {h : Hp} : EvI (EvM d) CL rk 1310 L st h = (popI st fun i s => popR s fun r s => (ialdF h r i).bind fun x => EvI (EvM d) CL rk 1311 L (.int x :: s) h) := (Ev_step 1310 L st h).trans rfl
set_option maxRecDepth 100000 in
theorem eL_1311 {d rk : Nat} {L st : List Value} {h : Hp} : EvI (EvM d) CL rk 1311 L st h = (asR (lGet L 0) fun x => EvI (EvM d) CL rk 1312 L (.ref x :: st) h) := (Ev_step 1311 L st h).trans rfl
set_option maxRecDepth 100000 in
theorem eL_1312 {d rk : Nat} {L st : List Value} {h : Hp} : EvI (EvM d) CL rk 1312 L st h = (asI (lGet L 3) fun x => EvI (EvM d) CL rk 1313 L (.int x :: st) h) := (Ev_step 1312 L st h).trans rfl
set_option maxRecDepth 100000 in
theorem eL_1313 {d rk : Nat} {L st : List Value} {h : Hp} : EvI (EvM d) CL rk 1313 L st h = (EvI (EvM d) CL rk 1314 L (.int 2 :: st) h) := (Ev_step 1313 L st h).trans rfl
set_option maxRecDepth 100000 in
theorem eL_1314 {d rk : Nat} {L st : List Value} {h : Hp} : EvI (EvM d) CL rk 1314 L st h = (popI2 st fun x y s => EvI (EvM d) CL rk 1315 L (.int (x + y) :: s) h) := (Ev_step 1314 L st h).trans rfl
set_option maxRecDepth 100000 in
theorem eL_1315 {d rk : Nat} {L st : List Value} {h : Hp} : EvI (EvM d) CL rk 1315 L st h = (popI st fun i s => popR s fun r s => (ialdF h r i).bind fun x => EvI (EvM d) CL rk 1316 L (.int x :: s) h) := (Ev_step 1315 L st h).trans rfl
set_option maxRecDepth 100000 in
theorem eL_1316 {d rk : Nat} {L st : List Value} {h : Hp} : EvI (EvM d) CL rk 1316 L st h = (if 2 ≤ st.length then (popR (st.drop 2) fun r s => if clsB h r 9 = true ∧ catS s ≤ 8 then (EvM d 217 (.ref r :: (st.take 2).reverse) h).bind fun q => EvI (EvM d) CL rk 1319 L (.int q.1 :: s) q.2 else none) else none) := (Ev_step 1316 L st h).trans rfl
set_option maxRecDepth 100000 in
theorem eL_1319 {d rk : Nat} {L st : List Value} {h : Hp} : EvI (EvM d) CL rk 1319 L st h = (popI2 st fun x y s => if x = y then EvI (EvM d) CL rk 1383 L s h else EvI (EvM d) CL rk 1322 L s h) := (Ev_step 1319 L st h).trans rfl
set_option maxRecDepth 100000 in
theorem eL_1322 {d rk : Nat} {L st : List Value} {h : Hp} : EvI (EvM d) CL rk 1322 L st h = (EvI (EvM d) CL rk 1323 L (.int 0 :: st) h) := (Ev_step 1322 L st h).trans rfl
set_option maxRecDepth 100000 in
theorem eL_1323 {d rk : Nat} {L st : List Value} {h : Hp} : EvI (EvM d) CL rk 1323 L st h = (popI st fun v s => if s = [] ∧ okR rk v = true then some (v, h) else none) := (Ev_step 1323 L st h).trans rfl
set_option maxRecDepth 100000 in
theorem eL_1324 {d rk : Nat} {L st : List Value} {h : Hp} : EvI (EvM d) CL rk 1324 L st h = (asR (lGet L 1) fun x => EvI (EvM d) CL rk 1325 L (.ref x :: st) h) := (Ev_step 1324 L st h).trans rfl
set_option maxRecDepth 100000 in
theorem eL_1325 {d rk : Nat} {L st : List Value} {h : Hp} : EvI (EvM d) CL rk 1325 L st h = (asR (lGet L 0) fun x => EvI (EvM d) CL rk 1326 L (.ref x :: st) h) := (Ev_step 1325 L st h).trans rfl
set_option maxRecDepth 100000 in
theorem eL_1326 {d rk : Nat} {L st : List Value} {h : Hp} : EvI (EvM d) CL rk 1326 L st h = (asI (lGet L 3) fun x => EvI (EvM d) CL rk 1327 L (.int x :: st) h) := (Ev_step 1326 L st h).trans rfl
set_option maxRecDepth 100000 in
theorem eL_1327 {d rk : Nat} {L st : List Value} {h : Hp} : EvI (EvM d) CL rk 1327 L st h = (EvI (EvM d) CL rk 1328 L (.int 1 :: st) h) := (Ev_step 1327 L st h).trans rfl
set_option maxRecDepth 100000 in
theorem eL_1328 {d rk : Nat} {L st : List Value} {h : Hp} : EvI (EvM d) CL rk 1328 L st h = (popI2 st fun x y s => EvI (EvM d) CL rk 1329 L (.int (x + y) :: s) h) := (Ev_step 1328 L st h).trans rfl
set_option maxRecDepth 100000 in
theorem eL_1329 {d rk : Nat} {L st : List Value} {h : Hp} : EvI (EvM d) CL rk 1329 L st h = (popI st fun i s => popR s fun r s => (ialdF h r i).bind fun x => EvI (EvM d) CL rk 1330 L (.int x :: s) h) := (Ev_step 1329 L st h).trans rfl
set_option maxRecDepth 100000 in
theorem eL_1330 {d rk : Nat} {L st : List Value} {h : Hp} : EvI (EvM d) CL rk 1330 L st h = (if 1 ≤ st.length then (popR (st.drop 1) fun r s => if clsB h r 8 = true ∧ catS s ≤ 8 then (EvM d 118 (.ref r :: (st.take 1).reverse) h).bind fun q => EvI (EvM d) CL rk 1333 L (.int q.1 :: s) q.2 else none) else none) := (Ev_step 1330 L st h).trans rfl
set_option maxRecDepth 100000 in
theorem eL_1333 {d rk : Nat} {L st : List Value} {h : Hp} : EvI (EvM d) CL rk 1333 L st h = (asR (lGet L 2) fun x => EvI (EvM d) CL rk 1334 L (.ref x :: st) h) := (Ev_step 1333 L st h).trans rfl
set_option maxRecDepth 100000 in
theorem eL_1334 {d rk : Nat} {L st : List Value} {h : Hp} : EvI (EvM d) CL rk 1334 L st h = (asR (lGet L 0) fun x => EvI (EvM d) CL rk 1335 L (.ref x :: st) h) := (Ev_step 1334 L st h).trans rfl
set_option maxRecDepth 100000 in
theorem eL_1335 {d rk : Nat} {L st : List Value} {h : Hp} : EvI (EvM d) CL rk 1335 L st h = (asI (lGet L 3) fun x => EvI (EvM d) CL rk 1336 L (.int x :: st) h) := (Ev_step 1335 L st h).trans rfl
set_option maxRecDepth 100000 in
theorem eL_1336 {d rk : Nat} {L st : List Value} {h : Hp} : EvI (EvM d) CL rk 1336 L st h = (EvI (EvM d) CL rk 1337 L (.int 1 :: st) h) := (Ev_step 1336 L st h).trans rfl
set_option maxRecDepth 100000 in
theorem eL_1337 {d rk : Nat} {L st : List Value} {h : Hp} : EvI (EvM d) CL rk 1337 L st h = (popI2 st fun x y s => EvI (EvM d) CL rk 1338 L (.int (x + y) :: s) h) := (Ev_step 1337 L st h).trans rfl
set_option maxRecDepth 100000 in
theorem eL_1338 {d rk : Nat} {L st : List Value} {h : Hp} : EvI (EvM d) CL rk 1338 L st h = (popI st fun i s => popR s fun r s => (ialdF h r i).bind fun x => EvI (EvM d) CL rk 1339 L (.int x :: s) h) := (Ev_step 1338 L st h).trans rfl
set_option maxRecDepth 100000 in
theorem eL_1339 {d rk : Nat} {L st : List Value} {h : Hp} : EvI (EvM d) CL rk 1339 L st h = (if 1 ≤ st.length then (popR (st.drop 1) fun r s => if clsB h r 9 = true ∧ catS s ≤ 8 then (EvM d 218 (.ref r :: (st.take 1).reverse) h).bind fun q => EvI (EvM d) CL rk 1342 L (.int q.1 :: s) q.2 else none) else none) := (Ev_step 1339 L st h).trans rfl
set_option maxRecDepth 100000 in
theorem eL_1342 {d rk : Nat} {L st : List Value} {h : Hp} : EvI (EvM d) CL rk 1342 L st h = (popI2 st fun x y s => if x = y then EvI (EvM d) CL rk 1383 L s h else EvI (EvM d) CL rk 1345 L s h) := (Ev_step 1342 L st h).trans rfl
set_option maxRecDepth 100000 in
theorem eL_1345 {d rk : Nat} {L st : List Value} {h : Hp} : EvI (EvM d) CL rk 1345 L st h = (EvI (EvM d) CL rk 1346 L (.int 0 :: st) h) := (Ev_step 1345 L st h).trans rfl
set_option maxRecDepth 100000 in
theorem eL_1346 {d rk : Nat} {L st : List Value} {h : Hp} : EvI (EvM d) CL rk 1346 L st h = (popI st fun v s => if s = [] ∧ okR rk v = true then some (v, h) else none) := (Ev_step 1346 L st h).trans rfl
set_option maxRecDepth 100000 in
theorem eL_1347 {d rk : Nat} {L st : List Value} {h : Hp} : EvI (EvM d) CL rk 1347 L st h = (asR (lGet L 1) fun x => EvI (EvM d) CL rk 1348 L (.ref x :: st) h) := (Ev_step 1347 L st h).trans rfl
set_option maxRecDepth 100000 in
theorem eL_1348 {d rk : Nat} {L st : List Value} {h : Hp} : EvI (EvM d) CL rk 1348 L st h = (asR (lGet L 0) fun x => EvI (EvM d) CL rk 1349 L (.ref x :: st) h) := (Ev_step 1348 L st h).trans rfl
set_option maxRecDepth 100000 in
theorem eL_1349 {d rk : Nat} {L st : List Value} {h : Hp} : EvI (EvM d) CL rk 1349 L st h = (asI (lGet L 3) fun x => EvI (EvM d) CL rk 1350 L (.int x :: st) h) := (Ev_step 1349 L st h).trans rfl
set_option maxRecDepth 100000 in
theorem eL_1350 {d rk : Nat} {L st : List Value} {h : Hp} : EvI (EvM d) CL rk 1350 L st h = (EvI (EvM d) CL rk 1351 L (.int 1 :: st) h) := (Ev_step 1350 L st h).trans rfl
set_option maxRecDepth 100000 in
theorem eL_1351 {d rk : Nat} {L st : List Value} {h : Hp} : EvI (EvM d) CL rk 1351 L st h = (popI2 st fun x y s => EvI (EvM d) CL rk 1352 L (.int (x + y) :: s) h) := (Ev_step 1351 L st h).trans rfl
set_option maxRecDepth 100000 in
theorem eL_1352 {d rk : Nat} {L st : List Value} {h : Hp} : EvI (EvM d) CL rk 1352 L st h = (popI st fun i s => popR s fun r s => (ialdF h r i).bind fun x => EvI (EvM d) CL rk 1353 L (.int x :: s) h) := (Ev_step 1352 L st h).trans rfl
set_option maxRecDepth 100000 in
theorem eL_1353 {d rk : Nat} {L st : List Value} {h : Hp} : EvI (EvM d) CL rk 1353 L st h = (if 1 ≤ st.length then (popR (st.drop 1) fun r s => if clsB h r 8 = true ∧ catS s ≤ 8 then (EvM d 119 (.ref r :: (st.take 1).reverse) h).bind fun q => EvI (EvM d) CL rk 1356 L (.int q.1 :: s) q.2 else none) else none) := (Ev_step 1353 L st h).trans rfl
set_option maxRecDepth 100000 in
theorem eL_1356 {d rk : Nat} {L st : List Value} {h : Hp} : EvI (EvM d) CL rk 1356 L st h = (asR (lGet L 2) fun x => EvI (EvM d) CL rk 1357 L (.ref x :: st) h) := (Ev_step 1356 L st h).trans rfl
set_option maxRecDepth 100000 in
theorem eL_1357 {d rk : Nat} {L st : List Value} {h : Hp} : EvI (EvM d) CL rk 1357 L st h = (asR (lGet L 0) fun x => EvI (EvM d) CL rk 1358 L (.ref x :: st) h) := (Ev_step 1357 L st h).trans rfl
set_option maxRecDepth 100000 in
theorem eL_1358 {d rk : Nat} {L st : List Value} {h : Hp} : EvI (EvM d) CL rk 1358 L st h = (asI (lGet L 3) fun x => EvI (EvM d) CL rk 1359 L (.int x :: st) h) := (Ev_step 1358 L st h).trans rfl
set_option maxRecDepth 100000 in
theorem eL_1359 {d rk : Nat} {L st : List Value} {h : Hp} : EvI (EvM d) CL rk 1359 L st h = (EvI (EvM d) CL rk 1360 L (.int 1 :: st) h) := (Ev_step 1359 L st h).trans rfl
set_option maxRecDepth 100000 in
theorem eL_1360 {d rk : Nat} {L st : List Value} {h : Hp} : EvI (EvM d) CL rk 1360 L st h = (popI2 st fun x y s => EvI (EvM d) CL rk 1361 L (.int (x + y) :: s) h) := (Ev_step 1360 L st h).trans rfl
set_option maxRecDepth 100000 in
theorem eL_1361 {d rk : Nat} {L st : List Value} {h : Hp} : EvI (EvM d) CL rk 1361 L st h = (popI st fun i s => popR s fun r s => (ialdF h r i).bind fun x => EvI (EvM d) CL rk 1362 L (.int x :: s) h) := (Ev_step 1361 L st h).trans rfl
set_option maxRecDepth 100000 in
theorem eL_1362 {d rk : Nat} {L st : List Value} {h : Hp} : EvI (EvM d) CL rk 1362 L st h = (if 1 ≤ st.length then (popR (st.drop 1) fun r s => if clsB h r 9 = true ∧ catS s ≤ 8 then (EvM d 219 (.ref r :: (st.take 1).reverse) h).bind fun q => EvI (EvM d) CL rk 1365 L (.int q.1 :: s) q.2 else none) else none) := (Ev_step 1362 L st h).trans rfl
set_option maxRecDepth 100000 in
theorem eL_1365 {d rk : Nat} {L st : List Value} {h : Hp} : EvI (EvM d) CL rk 1365 L st h = (popI2 st fun x y s => if x = y then EvI (EvM d) CL rk 1383 L s h else EvI (EvM d) CL rk 1368 L s h) := (Ev_step 1365 L st h).trans rfl
set_option maxRecDepth 100000 in
theorem eL_1368 {d rk : Nat} {L st : List Value} {h : Hp} : EvI (EvM d) CL rk 1368 L st h = (EvI (EvM d) CL rk 1369 L (.int 0 :: st) h) := (Ev_step 1368 L st h).trans rfl
set_option maxRecDepth 100000 in
theorem eL_1369 {d rk : Nat} {L st : List Value} {h : Hp} : EvI (EvM d) CL rk 1369 L st h = (popI st fun v s => if s = [] ∧ okR rk v = true then some (v, h) else none) := (Ev_step 1369 L st h).trans rfl
set_option maxRecDepth 100000 in
theorem eL_1370 {d rk : Nat} {L st : List Value} {h : Hp} : EvI (EvM d) CL rk 1370 L st h = (asR (lGet L 1) fun x => EvI (EvM d) CL rk 1371 L (.ref x :: st) h) := (Ev_step 1370 L st h).trans rfl
set_option maxRecDepth 100000 in
theorem eL_1371 {d rk : Nat} {L st : List Value} {h : Hp} : EvI (EvM d) CL rk 1371 L st h = (if 0 ≤ st.length then (popR (st.drop 0) fun r s => if clsB h r 8 = true ∧ catS s ≤ 8 then (EvM d 120 (.ref r :: (st.take 0).reverse) h).bind fun q => EvI (EvM d) CL rk 1374 L (.int q.1 :: s) q.2 else none) else none) := (Ev_step 1371 L st h).trans rfl
set_option maxRecDepth 100000 in
theorem eL_1374 {d rk : Nat} {L st : List Value} {h : Hp} : EvI (EvM d) CL rk 1374 L st h = (asR (lGet L 2) fun x => EvI (EvM d) CL rk 1375 L (.ref x :: st) h) := (Ev_step 1374 L st h).trans rfl
set_option maxRecDepth 100000 in
theorem eL_1375 {d rk : Nat} {L st : List Value} {h : Hp} : EvI (EvM d) CL rk 1375 L st h = (if 0 ≤ st.length then (popR (st.drop 0) fun r s => if clsB h r 9 = true ∧ catS s ≤ 8 then (EvM d 220 (.ref r :: (st.take 0).reverse) h).bind fun q => EvI (EvM d) CL rk 1378 L (.int q.1 :: s) q.2 else none) else none) := (Ev_step 1375 L st h).trans rfl
set_option maxRecDepth 100000 in
theorem eL_1378 {d rk : Nat} {L st : List Value} {h : Hp} : EvI (EvM d) CL rk 1378 L st h = (popI2 st fun x y s => if x = y then EvI (EvM d) CL rk 1383 L s h else EvI (EvM d) CL rk 1381 L s h) := (Ev_step 1378 L st h).trans rfl
set_option maxRecDepth 100000 in
theorem eL_1381 {d rk : Nat} {L st : List Value} {h : Hp} : EvI (EvM d) CL rk 1381 L st h = (EvI (EvM d) CL rk 1382 L (.int 0 :: st) h) := (Ev_step 1381 L st h).trans rfl
set_option maxRecDepth 100000 in
theorem eL_1382 {d rk : Nat} {L st : List Value} {h : Hp} : EvI (EvM d) CL rk 1382 L st h = (popI st fun v s => if s = [] ∧ okR rk v = true then some (v, h) else none) := (Ev_step 1382 L st h).trans rfl
set_option maxRecDepth 100000 in
theorem eL_1383 {d rk : Nat} {L st : List Value} {h : Hp} : EvI (EvM d) CL rk 1383 L st h = (asI (lGet L 3) fun x => if okS L 3 = true then EvI (EvM d) CL rk 1386 (lSet L 3 (.int (x + 6))) st h else none) := (Ev_step 1383 L st h).trans rfl
set_option maxRecDepth 100000 in
theorem eL_1386 {d rk : Nat} {L st : List Value} {h : Hp} : EvI (EvM d) CL rk 1386 L st h = (EvI (EvM d) CL rk 18 L st h) := (Ev_step 1386 L st h).trans rfl
set_option maxRecDepth 100000 in
theorem eL_1389 {d rk : Nat} {L st : List Value} {h : Hp} : EvI (EvM d) CL rk 1389 L st h = (EvI (EvM d) CL rk 1390 L (.int 1 :: st) h) := (Ev_step 1389 L st h).trans rfl
set_option maxRecDepth 100000 in
theorem eL_1390 {d rk : Nat} {L st : List Value} {h : Hp} : EvI (EvM d) CL rk 1390 L st h = (popI st fun v s => if s = [] ∧ okR rk v = true then some (v, h) else none) := (Ev_step 1390 L st h).trans rfl
end LAWE
