def FX4_takeFirst (l0 : Nat) (l1 : Nat) (M : Hx) : Option (Unit × Hx) := fX4_takeFirst [.ref l0, .ref l1] M
def FX4_takeFirst_32 (n32 : Nat) (l0 : Nat) (l1 : Nat) (l2 : Int32) (l3 : Int32) (l4 : Int32) (l5 : Int32) (M : Hx) : Option (Unit × Hx) := (o_lp (bX4_takeFirst_32) n32) [some (.ref l0), some (.ref l1), some (.int l2), some (.int l3), some (.int l4), some (.int l5), none] [] M
def FX4_takeFirst_50 (n32 : Nat) (n50 : Nat) (l0 : Nat) (l1 : Nat) (l2 : Int32) (l4 : Int32) (l5 : Int32) (l6 : Int32) (M : Hx) : Option (Unit × Hx) := (o_lp (bX4_takeFirst_50 (o_lp (bX4_takeFirst_32) n32)) n50) [some (.ref l0), some (.ref l1), some (.int l2), none, some (.int l4), some (.int l5), some (.int l6)] [] M
def FX4_takeFirst_93 (n32 : Nat) (l0 : Nat) (l1 : Nat) (l2 : Int32) (l4 : Int32) (l5 : Int32) (l6 : Int32) (M : Hx) : Option (Unit × Hx) := bX4_takeFirst_93 (o_lp (bX4_takeFirst_32) n32) [some (.ref l0), some (.ref l1), some (.int l2), none, some (.int l4), some (.int l5), some (.int l6)] [] M
def FX4_takeFirst_112 (n32 : Nat) (l0 : Nat) (l1 : Nat) (l2 : Int32) (l4 : Int32) (l5 : Int32) (l6 : Int32) (s0 : Nat) (s1 : Int32) (s2 : Int32) (M : Hx) : Option (Unit × Hx) := bX4_takeFirst_112 (o_lp (bX4_takeFirst_32) n32) [some (.ref l0), some (.ref l1), some (.int l2), none, some (.int l4), some (.int l5), some (.int l6)] [.int s2, .int s1, .ref s0] M
set_option maxRecDepth 100000 in
theorem eX4_takeFirst (l0 : Nat) (l1 : Nat) (M : Hx) : FX4_takeFirst l0 l1 M = (bnd (h_R M 1 l1 0) (fun r1 => bnd (h_I M 5 r1 3) (fun x2 => bnd (h_R M 3 l0 0) (fun r3 => bnd (FX4_placeOf (nI 0) x2 (nI 0) M) (fun q4 => bnd (h_A q4.2 0 r3 q4.1) (fun x5 => bnd (h_P q4.2 3 l0 6 (.int x5)) (fun M6 => FX4_takeFirst_32 fu l0 l1 x2 x2 (nI 0) (nI 0) M6) ()) ()) ()) ()) ()) ()) := rfl
set_option maxRecDepth 100000 in
theorem eX4_takeFirst_32 (n32 : Nat) (l0 : Nat) (l1 : Nat) (l2 : Int32) (l3 : Int32) (l4 : Int32) (l5 : Int32) (M : Hx) : FX4_takeFirst_32 (n32 + 1) l0 l1 l2 l3 l4 l5 M = (if (nI 10) ≤ l5 then (some ((), M)) else gd (h_K M 3 l0) <| bnd (FX4_findGains l0 l1 l5 l3 M) (fun q7 => FX4_takeFirst_50 n32 fu l0 l1 l2 l4 l5 (nI 0) q7.2) ()) := rfl
set_option maxRecDepth 100000 in
theorem eX4_takeFirst_50 (n32 : Nat) (n50 : Nat) (l0 : Nat) (l1 : Nat) (l2 : Int32) (l4 : Int32) (l5 : Int32) (l6 : Int32) (M : Hx) : FX4_takeFirst_50 n32 (n50 + 1) l0 l1 l2 l4 l5 l6 M = (if l2 ≤ l6 then (FX4_takeFirst_93 n32 l0 l1 l2 l4 l5 l6 M) else bnd (h_R M 3 l0 0) (fun r8 => bnd (h_R M 3 l0 1) (fun r9 => bnd (h_A M 0 r9 l6) (fun x10 => bnd (FX4_placeOf (l5 + (nI 1)) l6 (l4 ||| x10) M) (fun q11 => bnd (h_A q11.2 0 r8 q11.1) (fun x12 => bnd (h_I q11.2 3 l0 6) (fun x13 => if x13 ≤ x12 then (FX4_takeFirst_93 n32 l0 l1 l2 l4 l5 l6 q11.2) else FX4_takeFirst_50 n32 n50 l0 l1 l2 l4 l5 (l6 + (nI 1)) q11.2) ()) ()) ()) ()) ()) ()) := rfl
set_option maxRecDepth 100000 in
theorem eX4_takeFirst_93 (n32 : Nat) (l0 : Nat) (l1 : Nat) (l2 : Int32) (l4 : Int32) (l5 : Int32) (l6 : Int32) (M : Hx) : FX4_takeFirst_93 n32 l0 l1 l2 l4 l5 l6 M = (bnd (h_R M 3 l0 2) (fun r14 => if l6 = l2 then (FX4_takeFirst_112 n32 l0 l1 l2 l4 l5 l6 r14 l5 (mi 4) M) else (FX4_takeFirst_112 n32 l0 l1 l2 l4 l5 l6 r14 l5 l6 M)) ()) := rfl
set_option maxRecDepth 100000 in
theorem eX4_takeFirst_112 (n32 : Nat) (l0 : Nat) (l1 : Nat) (l2 : Int32) (l4 : Int32) (l5 : Int32) (l6 : Int32) (s0 : Nat) (s1 : Int32) (s2 : Int32) (M : Hx) : FX4_takeFirst_112 n32 l0 l1 l2 l4 l5 l6 s0 s1 s2 M = (bnd (h_S M 0 s0 s1 s2) (fun M15 => bnd (h_R M15 3 l0 1) (fun r16 => bnd (h_A M15 0 r16 l6) (fun x17 => FX4_takeFirst_32 n32 l0 l1 l2 l6 (l4 ||| x17) (l5 + (nI 1)) M15) ()) ()) ()) := rfl
def FX4_planFor (l0 : Nat) (l1 : Nat) (M : Hx) : Option (Unit × Hx) := fX4_planFor [.ref l0, .ref l1] M
def FX4_planFor_36 (l0 : Nat) (l1 : Nat) (M : Hx) : Option (Unit × Hx) := bX4_planFor_36 [some (.ref l0), some (.ref l1), none] [] M
def FX4_planFor_71 (n71 : Nat) (l0 : Nat) (l1 : Nat) (l2 : Int32) (M : Hx) : Option (Unit × Hx) := (o_lp (bX4_planFor_71) n71) [some (.ref l0), some (.ref l1), some (.int l2)] [] M
set_option maxRecDepth 100000 in
theorem eX4_planFor (l0 : Nat) (l1 : Nat) (M : Hx) : FX4_planFor l0 l1 M = (bnd (h_I M 3 l0 5) (fun x1 => if x1 = nI 0 then (FX4_planFor_36 l0 l1 M) else bnd (h_R M 3 l0 3) (fun r2 => bnd (h_R M 1 l1 0) (fun r3 => gd (h_K M 5 r2) <| bnd (FX6_isLike r2 r3 M) (fun q4 => if q4.1 = nI 0 then (FX4_planFor_36 l0 l1 q4.2) else bnd (h_R q4.2 3 l0 4) (fun r5 => bnd (h_R q4.2 1 l1 2) (fun r6 => gd (h_K q4.2 5 r5) <| bnd (FX6_isLike r5 r6 q4.2) (fun q7 => if q7.1 = nI 0 then (FX4_planFor_36 l0 l1 q7.2) else some ((), q7.2)) ()) ()) ()) ()) ()) ()) ()) := rfl
set_option maxRecDepth 100000 in
theorem eX4_planFor_36 (l0 : Nat) (l1 : Nat) (M : Hx) : FX4_planFor_36 l0 l1 M = (bnd (h_R M 3 l0 3) (fun r8 => bnd (h_R M 1 l1 0) (fun r9 => gd (h_K M 5 r8) <| bnd (FX6_copyFrom r8 r9 M) (fun q10 => bnd (h_R q10.2 3 l0 4) (fun r11 => bnd (h_R q10.2 1 l1 2) (fun r12 => gd (h_K q10.2 5 r11) <| bnd (FX6_copyFrom r11 r12 q10.2) (fun q13 => if (nI 1) = nI 0 ∨ (nI 1) = nI 1 then (bnd (h_P q13.2 3 l0 5 (.int (nI 1))) (fun M14 => gd (h_K M14 3 l0) <| bnd (FX4_fillEnd l0 l1 M14) (fun q15 => FX4_planFor_71 fu l0 l1 (nI 9) q15.2) ()) ()) else none) ()) ()) ()) ()) ()) ()) := rfl
set_option maxRecDepth 100000 in
theorem eX4_planFor_71 (n71 : Nat) (l0 : Nat) (l1 : Nat) (l2 : Int32) (M : Hx) : FX4_planFor_71 (n71 + 1) l0 l1 l2 M = (if l2 < nI 0 then (gd (h_K M 3 l0) <| bnd (FX4_takeFirst l0 l1 M) (fun q16 => some ((), q16.2)) ()) else gd (h_K M 3 l0) <| bnd (FX4_fillHour l0 l1 l2 M) (fun q17 => FX4_planFor_71 n71 l0 l1 (l2 + (mi 1)) q17.2) ()) := rfl
def FX5_init (l0 : Nat) (l1 : Nat) (M : Hx) : Option (Unit × Hx) := fX5_init [.ref l0, .ref l1] M
set_option maxRecDepth 100000 in
theorem eX5_init (l0 : Nat) (l1 : Nat) (M : Hx) : FX5_init l0 l1 M = (if M.length < 1000 then (bnd (FX1_init (List.length M) (M ++ [.inr (1, [.null, .null, .null, .null, .null, .null])])) (fun q2 => bnd (h_P q2.2 4 l0 0 (.ref (List.length M))) (fun M3 => bnd (h_P M3 4 l0 1 (.ref l1)) (fun M4 => some ((), M4)) ()) ()) ()) else none) := rfl
def FX5_isLetter (l0 : Int32) (M : Hx) : Option (Int32 × Hx) := fX5_isLetter [.int l0] M
def FX5_isLetter_16  (M : Hx) : Option (Int32 × Hx) := bX5_isLetter_16 [none] [] M
def FX5_isLetter_17 (s0 : Int32) (M : Hx) : Option (Int32 × Hx) := bX5_isLetter_17 [none] [.int s0] M
set_option maxRecDepth 100000 in
theorem eX5_isLetter (l0 : Int32) (M : Hx) : FX5_isLetter l0 M = (if l0 < (nI 97) then (FX5_isLetter_16 M) else if (nI 122) < l0 then (FX5_isLetter_16 M) else FX5_isLetter_17 (nI 1) M) := rfl
set_option maxRecDepth 100000 in
theorem eX5_isLetter_16  (M : Hx) : FX5_isLetter_16  M = (FX5_isLetter_17 (nI 0) M) := rfl
set_option maxRecDepth 100000 in
theorem eX5_isLetter_17 (s0 : Int32) (M : Hx) : FX5_isLetter_17 s0 M = (if s0 = nI 0 ∨ s0 = nI 1 then some (s0, M) else none) := rfl
def FX5_passLetters (l0 : Nat) (M : Hx) : Option (Unit × Hx) := fX5_passLetters [.ref l0] M
def FX5_passLetters_0 (n0 : Nat) (l0 : Nat) (M : Hx) : Option (Unit × Hx) := (o_lp (bX5_passLetters_0) n0) [some (.ref l0)] [] M
def FX5_passLetters_45  (M : Hx) : Option (Unit × Hx) := bX5_passLetters_45 [none] [] M
set_option maxRecDepth 100000 in
theorem eX5_passLetters (l0 : Nat) (M : Hx) : FX5_passLetters l0 M = (FX5_passLetters_0 fu l0 M) := rfl
set_option maxRecDepth 100000 in
theorem eX5_passLetters_0 (n0 : Nat) (l0 : Nat) (M : Hx) : FX5_passLetters_0 (n0 + 1) l0 M = (bnd (h_I M 4 l0 7) (fun x1 => bnd (h_R M 4 l0 1) (fun r2 => bnd (h_I M 5 r2 3) (fun x3 => if x3 ≤ x1 then (FX5_passLetters_45 M) else bnd (h_R M 4 l0 1) (fun r4 => bnd (h_I M 4 l0 7) (fun x5 => gd (h_K M 5 r4) <| bnd (FX6_at r4 x5 (nI 0) M) (fun q6 => bnd (FX5_isLetter q6.1 q6.2) (fun q7 => if q7.1 = nI 0 then (FX5_passLetters_45 q7.2) else bnd (h_I q7.2 4 l0 7) (fun x8 => bnd (h_P q7.2 4 l0 7 (.int (x8 + (nI 1)))) (fun M9 => FX5_passLetters_0 n0 l0 M9) ()) ()) ()) ()) ()) ()) ()) ()) ()) := rfl
set_option maxRecDepth 100000 in
theorem eX5_passLetters_45  (M : Hx) : FX5_passLetters_45  M = (some ((), M)) := rfl
def FX5_isFigure (l0 : Int32) (M : Hx) : Option (Int32 × Hx) := fX5_isFigure [.int l0] M
def FX5_isFigure_16  (M : Hx) : Option (Int32 × Hx) := bX5_isFigure_16 [none] [] M
def FX5_isFigure_17 (s0 : Int32) (M : Hx) : Option (Int32 × Hx) := bX5_isFigure_17 [none] [.int s0] M
set_option maxRecDepth 100000 in
theorem eX5_isFigure (l0 : Int32) (M : Hx) : FX5_isFigure l0 M = (if l0 < (nI 48) then (FX5_isFigure_16 M) else if (nI 57) < l0 then (FX5_isFigure_16 M) else FX5_isFigure_17 (nI 1) M) := rfl
set_option maxRecDepth 100000 in
theorem eX5_isFigure_16  (M : Hx) : FX5_isFigure_16  M = (FX5_isFigure_17 (nI 0) M) := rfl
set_option maxRecDepth 100000 in
theorem eX5_isFigure_17 (s0 : Int32) (M : Hx) : FX5_isFigure_17 s0 M = (if s0 = nI 0 ∨ s0 = nI 1 then some (s0, M) else none) := rfl
def FX5_meet (l0 : Nat) (l1 : Int32) (M : Hx) : Option (Int32 × Hx) := fX5_meet [.ref l0, .int l1] M
set_option maxRecDepth 100000 in
theorem eX5_meet (l0 : Nat) (l1 : Int32) (M : Hx) : FX5_meet l0 l1 M = (bnd (h_P M 4 l0 3 (.int l1)) (fun M1 => bnd (h_I M1 4 l0 6) (fun x2 => bnd (h_P M1 4 l0 4 (.int x2)) (fun M3 => if (nI 0) = nI 0 ∨ (nI 0) = nI 1 then some ((nI 0), M3) else none) ()) ()) ()) := rfl
def FX5_takeFigures (l0 : Nat) (M : Hx) : Option (Int32 × Hx) := fX5_takeFigures [.ref l0] M
def FX5_takeFigures_5 (n5 : Nat) (l0 : Nat) (M : Hx) : Option (Int32 × Hx) := (o_lp (bX5_takeFigures_5) n5) [some (.ref l0)] [] M
def FX5_takeFigures_96  (M : Hx) : Option (Int32 × Hx) := bX5_takeFigures_96 [none] [] M
set_option maxRecDepth 100000 in
theorem eX5_takeFigures (l0 : Nat) (M : Hx) : FX5_takeFigures l0 M = (bnd (h_P M 4 l0 8 (.int (nI 0))) (fun M1 => FX5_takeFigures_5 fu l0 M1) ()) := rfl
set_option maxRecDepth 100000 in
theorem eX5_takeFigures_5 (n5 : Nat) (l0 : Nat) (M : Hx) : FX5_takeFigures_5 (n5 + 1) l0 M = (bnd (h_I M 4 l0 7) (fun x2 => bnd (h_R M 4 l0 1) (fun r3 => bnd (h_I M 5 r3 3) (fun x4 => if x4 ≤ x2 then (FX5_takeFigures_96 M) else bnd (h_R M 4 l0 1) (fun r5 => bnd (h_I M 4 l0 7) (fun x6 => gd (h_K M 5 r5) <| bnd (FX6_at r5 x6 (nI 0) M) (fun q7 => bnd (FX5_isFigure q7.1 q7.2) (fun q8 => if q8.1 = nI 0 then (FX5_takeFigures_96 q8.2) else bnd (h_I q8.2 4 l0 7) (fun x9 => bnd (h_I q8.2 4 l0 6) (fun x10 => if (x9 - x10) < (nI 2) then (bnd (h_I q8.2 4 l0 8) (fun x11 => bnd (h_R q8.2 4 l0 1) (fun r12 => bnd (h_I q8.2 4 l0 7) (fun x13 => gd (h_K q8.2 5 r12) <| bnd (FX6_at r12 x13 (nI 0) q8.2) (fun q14 => bnd (h_P q14.2 4 l0 8 (.int (((x11 * (nI 10)) + q14.1) - (nI 48)))) (fun M15 => bnd (h_I M15 4 l0 7) (fun x16 => bnd (h_P M15 4 l0 7 (.int (x16 + (nI 1)))) (fun M17 => FX5_takeFigures_5 n5 l0 M17) ()) ()) ()) ()) ()) ()) ()) else gd (h_K q8.2 4 l0) <| bnd (FX5_meet l0 (nI 1) q8.2) (fun q18 => if q18.1 = nI 0 ∨ q18.1 = nI 1 then some (q18.1, q18.2) else none) ()) ()) ()) ()) ()) ()) ()) ()) ()) ()) := rfl
set_option maxRecDepth 100000 in
theorem eX5_takeFigures_96  (M : Hx) : FX5_takeFigures_96  M = (if (nI 1) = nI 0 ∨ (nI 1) = nI 1 then some ((nI 1), M) else none) := rfl
def FX5_takeToken (l0 : Nat) (M : Hx) : Option (Int32 × Hx) := fX5_takeToken [.ref l0] M
def FX5_takeToken_0 (n0 : Nat) (l0 : Nat) (M : Hx) : Option (Int32 × Hx) := (o_lp (bX5_takeToken_0) n0) [some (.ref l0), none] [] M
def FX5_takeToken_44 (l0 : Nat) (M : Hx) : Option (Int32 × Hx) := bX5_takeToken_44 [some (.ref l0), none] [] M
def FX5_takeToken_153  (M : Hx) : Option (Int32 × Hx) := bX5_takeToken_153 [none, none] [] M
set_option maxRecDepth 100000 in
theorem eX5_takeToken (l0 : Nat) (M : Hx) : FX5_takeToken l0 M = (FX5_takeToken_0 fu l0 M) := rfl
set_option maxRecDepth 100000 in
theorem eX5_takeToken_0 (n0 : Nat) (l0 : Nat) (M : Hx) : FX5_takeToken_0 (n0 + 1) l0 M = (bnd (h_I M 4 l0 7) (fun x1 => bnd (h_R M 4 l0 1) (fun r2 => bnd (h_I M 5 r2 3) (fun x3 => if x3 ≤ x1 then (FX5_takeToken_44 l0 M) else bnd (h_R M 4 l0 1) (fun r4 => bnd (h_I M 4 l0 7) (fun x5 => gd (h_K M 5 r4) <| bnd (FX6_at r4 x5 (nI 0) M) (fun q6 => if q6.1 = (nI 32) then (bnd (h_I q6.2 4 l0 7) (fun x7 => bnd (h_P q6.2 4 l0 7 (.int (x7 + (nI 1)))) (fun M8 => FX5_takeToken_0 n0 l0 M8) ()) ()) else (FX5_takeToken_44 l0 q6.2)) ()) ()) ()) ()) ()) ()) := rfl
set_option maxRecDepth 100000 in
theorem eX5_takeToken_44 (l0 : Nat) (M : Hx) : FX5_takeToken_44 l0 M = (bnd (h_I M 4 l0 7) (fun x9 => bnd (h_P M 4 l0 6 (.int x9)) (fun M10 => bnd (h_R M10 4 l0 1) (fun r11 => bnd (h_I M10 4 l0 6) (fun x12 => gd (h_K M10 5 r11) <| bnd (FX6_at r11 x12 (nI 0) M10) (fun q13 => bnd (h_I q13.2 4 l0 6) (fun x14 => bnd (h_R q13.2 4 l0 1) (fun r15 => bnd (h_I q13.2 5 r15 3) (fun x16 => if x14 < x16 then (bnd (FX5_isLetter q13.1 q13.2) (fun q17 => if q17.1 = nI 0 then (bnd (FX5_isFigure q13.1 q17.2) (fun q18 => if q18.1 = nI 0 then (if q13.1 = (nI 59) then (bnd (h_P q18.2 4 l0 5 (.int (nI 3))) (fun M20 => bnd (h_I M20 4 l0 7) (fun x21 => bnd (h_P M20 4 l0 7 (.int (x21 + (nI 1)))) (fun M22 => FX5_takeToken_153 M22) ()) ()) ()) else (gd (h_K q18.2 4 l0) <| bnd (FX5_meet l0 (nI 1) q18.2) (fun q19 => if q19.1 = nI 0 ∨ q19.1 = nI 1 then some (q19.1, q19.2) else none) ())) else bnd (h_P q18.2 4 l0 5 (.int (nI 2))) (fun M23 => gd (h_K M23 4 l0) <| bnd (FX5_takeFigures l0 M23) (fun q24 => if q24.1 = nI 0 ∨ q24.1 = nI 1 then some (q24.1, q24.2) else none) ()) ()) ()) else bnd (h_P q17.2 4 l0 5 (.int (nI 1))) (fun M25 => gd (h_K M25 4 l0) <| bnd (FX5_passLetters l0 M25) (fun q26 => FX5_takeToken_153 q26.2) ()) ()) ()) else bnd (h_P q13.2 4 l0 5 (.int (nI 0))) (fun M27 => FX5_takeToken_153 M27) ()) ()) ()) ()) ()) ()) ()) ()) ()) := rfl
set_option maxRecDepth 100000 in
theorem eX5_takeToken_153  (M : Hx) : FX5_takeToken_153  M = (if (nI 1) = nI 0 ∨ (nI 1) = nI 1 then some ((nI 1), M) else none) := rfl
def FX5_isWord (l0 : Nat) (l1 : Nat) (M : Hx) : Option (Int32 × Hx) := fX5_isWord [.ref l0, .ref l1] M
def FX5_isWord_20 (n20 : Nat) (l0 : Nat) (l1 : Nat) (l2 : Int32) (M : Hx) : Option (Int32 × Hx) := (o_lp (bX5_isWord_20) n20) [some (.ref l0), some (.ref l1), some (.int l2)] [] M
set_option maxRecDepth 100000 in
theorem eX5_isWord (l0 : Nat) (l1 : Nat) (M : Hx) : FX5_isWord l0 l1 M = (bnd (h_I M 4 l0 7) (fun x1 => bnd (h_I M 4 l0 6) (fun x2 => gd (decide (1000 ≤ l1 ∧ l1 < 1009)) <| bnd (FJ0_length_8abf5 l1 M) (fun q3 => if (x1 - x2) = q3.1 then (FX5_isWord_20 fu l0 l1 (nI 0) q3.2) else if (nI 0) = nI 0 ∨ (nI 0) = nI 1 then some ((nI 0), q3.2) else none) ()) ()) ()) := rfl
set_option maxRecDepth 100000 in
theorem eX5_isWord_20 (n20 : Nat) (l0 : Nat) (l1 : Nat) (l2 : Int32) (M : Hx) : FX5_isWord_20 (n20 + 1) l0 l1 l2 M = (gd (decide (1000 ≤ l1 ∧ l1 < 1009)) <| bnd (FJ0_length_8abf5 l1 M) (fun q4 => if q4.1 ≤ l2 then (if (nI 1) = nI 0 ∨ (nI 1) = nI 1 then some ((nI 1), q4.2) else none) else bnd (h_R q4.2 4 l0 1) (fun r5 => bnd (h_I q4.2 4 l0 6) (fun x6 => gd (h_K q4.2 5 r5) <| bnd (FX6_at r5 (x6 + l2) (nI 0) q4.2) (fun q7 => gd (decide (1000 ≤ l1 ∧ l1 < 1009)) <| bnd (FJ0_charAt_5068e l1 l2 q7.2) (fun q8 => if q7.1 = q8.1 then (FX5_isWord_20 n20 l0 l1 (l2 + (nI 1)) q8.2) else if (nI 0) = nI 0 ∨ (nI 0) = nI 1 then some ((nI 0), q8.2) else none) ()) ()) ()) ()) ()) := rfl
def FX5_hasRoom (l0 : Nat) (l1 : Nat) (M : Hx) : Option (Int32 × Hx) := fX5_hasRoom [.ref l0, .ref l1] M
def FX5_hasRoom_19  (M : Hx) : Option (Int32 × Hx) := bX5_hasRoom_19 [none, none] [] M
def FX5_hasRoom_24 (s0 : Int32) (M : Hx) : Option (Int32 × Hx) := bX5_hasRoom_24 [none, none] [.int s0] M
set_option maxRecDepth 100000 in
theorem eX5_hasRoom (l0 : Nat) (l1 : Nat) (M : Hx) : FX5_hasRoom l0 l1 M = (bnd (h_I M 5 l1 3) (fun x1 => bnd (h_I M 5 l1 1) (fun x2 => if x1 < x2 then (FX5_hasRoom_19 M) else gd (h_K M 4 l0) <| bnd (FX5_meet l0 (nI 5) M) (fun q3 => if q3.1 = nI 0 then (FX5_hasRoom_24 (nI 0) q3.2) else FX5_hasRoom_19 q3.2) ()) ()) ()) := rfl
set_option maxRecDepth 100000 in
theorem eX5_hasRoom_19  (M : Hx) : FX5_hasRoom_19  M = (FX5_hasRoom_24 (nI 1) M) := rfl
set_option maxRecDepth 100000 in
theorem eX5_hasRoom_24 (s0 : Int32) (M : Hx) : FX5_hasRoom_24 s0 M = (if s0 = nI 0 ∨ s0 = nI 1 then some (s0, M) else none) := rfl
def FX5_takeNumber (l0 : Nat) (l1 : Int32) (l2 : Int32) (M : Hx) : Option (Int32 × Hx) := fX5_takeNumber [.ref l0, .int l1, .int l2] M
def FX5_takeNumber_39 (l0 : Nat) (M : Hx) : Option (Int32 × Hx) := bX5_takeNumber_39 [some (.ref l0), none, none] [] M
def FX5_takeNumber_47  (M : Hx) : Option (Int32 × Hx) := bX5_takeNumber_47 [none, none, none] [] M
def FX5_takeNumber_52 (s0 : Int32) (M : Hx) : Option (Int32 × Hx) := bX5_takeNumber_52 [none, none, none] [.int s0] M
set_option maxRecDepth 100000 in
theorem eX5_takeNumber (l0 : Nat) (l1 : Int32) (l2 : Int32) (M : Hx) : FX5_takeNumber l0 l1 l2 M = (gd (h_K M 4 l0) <| bnd (FX5_takeToken l0 M) (fun q1 => if q1.1 = nI 0 then (if (nI 0) = nI 0 ∨ (nI 0) = nI 1 then some ((nI 0), q1.2) else none) else (bnd (h_I q1.2 4 l0 5) (fun x2 => if x2 = (nI 2) then (bnd (h_I q1.2 4 l0 8) (fun x3 => if x3 < l1 then (FX5_takeNumber_39 l0 q1.2) else bnd (h_I q1.2 4 l0 8) (fun x4 => if x4 ≤ l2 then (FX5_takeNumber_47 q1.2) else FX5_takeNumber_39 l0 q1.2) ()) ()) else gd (h_K q1.2 4 l0) <| bnd (FX5_meet l0 (nI 2) q1.2) (fun q5 => if q5.1 = nI 0 ∨ q5.1 = nI 1 then some (q5.1, q5.2) else none) ()) ())) ()) := rfl
set_option maxRecDepth 100000 in
theorem eX5_takeNumber_39 (l0 : Nat) (M : Hx) : FX5_takeNumber_39 l0 M = (gd (h_K M 4 l0) <| bnd (FX5_meet l0 (nI 3) M) (fun q6 => if q6.1 = nI 0 then (FX5_takeNumber_52 (nI 0) q6.2) else FX5_takeNumber_47 q6.2) ()) := rfl
set_option maxRecDepth 100000 in
theorem eX5_takeNumber_47  (M : Hx) : FX5_takeNumber_47  M = (FX5_takeNumber_52 (nI 1) M) := rfl
set_option maxRecDepth 100000 in
theorem eX5_takeNumber_52 (s0 : Int32) (M : Hx) : FX5_takeNumber_52 s0 M = (if s0 = nI 0 ∨ s0 = nI 1 then some (s0, M) else none) := rfl
def FX5_takeStop (l0 : Nat) (M : Hx) : Option (Int32 × Hx) := fX5_takeStop [.ref l0] M
def FX5_takeStop_23  (M : Hx) : Option (Int32 × Hx) := bX5_takeStop_23 [none] [] M
def FX5_takeStop_27  (M : Hx) : Option (Int32 × Hx) := bX5_takeStop_27 [none] [] M
def FX5_takeStop_28 (s0 : Int32) (M : Hx) : Option (Int32 × Hx) := bX5_takeStop_28 [none] [.int s0] M
set_option maxRecDepth 100000 in
theorem eX5_takeStop (l0 : Nat) (M : Hx) : FX5_takeStop l0 M = (gd (h_K M 4 l0) <| bnd (FX5_takeToken l0 M) (fun q1 => if q1.1 = nI 0 then (FX5_takeStop_27 q1.2) else bnd (h_I q1.2 4 l0 5) (fun x2 => if x2 = (nI 3) then (FX5_takeStop_23 q1.2) else gd (h_K q1.2 4 l0) <| bnd (FX5_meet l0 (nI 2) q1.2) (fun q3 => if q3.1 = nI 0 then (FX5_takeStop_27 q3.2) else FX5_takeStop_23 q3.2) ()) ()) ()) := rfl
set_option maxRecDepth 100000 in
theorem eX5_takeStop_23  (M : Hx) : FX5_takeStop_23  M = (FX5_takeStop_28 (nI 1) M) := rfl
set_option maxRecDepth 100000 in
theorem eX5_takeStop_27  (M : Hx) : FX5_takeStop_27  M = (FX5_takeStop_28 (nI 0) M) := rfl
set_option maxRecDepth 100000 in
theorem eX5_takeStop_28 (s0 : Int32) (M : Hx) : FX5_takeStop_28 s0 M = (if s0 = nI 0 ∨ s0 = nI 1 then some (s0, M) else none) := rfl
def FX5_takeOne (l0 : Nat) (l1 : Int32) (M : Hx) : Option (Int32 × Hx) := fX5_takeOne [.ref l0, .int l1] M
def FX5_takeOne_30  (M : Hx) : Option (Int32 × Hx) := bX5_takeOne_30 [none, none] [] M
set_option maxRecDepth 100000 in
theorem eX5_takeOne (l0 : Nat) (l1 : Int32) (M : Hx) : FX5_takeOne l0 l1 M = (bnd (h_R M 4 l0 0) (fun r1 => bnd (h_R M 1 r1 0) (fun r2 => gd (h_K M 4 l0) <| bnd (FX5_hasRoom l0 r2 M) (fun q3 => if q3.1 = nI 0 then (FX5_takeOne_30 q3.2) else gd (h_K q3.2 4 l0) <| bnd (FX5_takeNumber l0 (nI 0) (nI 2) q3.2) (fun q4 => if q4.1 = nI 0 then (FX5_takeOne_30 q4.2) else gd (h_K q4.2 4 l0) <| bnd (FX5_takeStop l0 q4.2) (fun q5 => if q5.1 = nI 0 then (FX5_takeOne_30 q5.2) else (bnd (h_R q5.2 4 l0 0) (fun r6 => bnd (h_R q5.2 1 r6 0) (fun r7 => bnd (h_I q5.2 4 l0 8) (fun x8 => gd (h_K q5.2 5 r7) <| bnd (FX6_add r7 l1 x8 (nI 0) (nI 0) q5.2) (fun q9 => if (nI 1) = nI 0 ∨ (nI 1) = nI 1 then some ((nI 1), q9.2) else none) ()) ()) ()) ())) ()) ()) ()) ()) ()) := rfl
set_option maxRecDepth 100000 in
theorem eX5_takeOne_30  (M : Hx) : FX5_takeOne_30  M = (if (nI 0) = nI 0 ∨ (nI 0) = nI 1 then some ((nI 0), M) else none) := rfl
def FX5_takeThing (l0 : Nat) (M : Hx) : Option (Int32 × Hx) := fX5_takeThing [.ref l0] M
def FX5_takeThing_50  (M : Hx) : Option (Int32 × Hx) := bX5_takeThing_50 [none, none] [] M
def FX5_takeThing_86  (M : Hx) : Option (Int32 × Hx) := bX5_takeThing_86 [none, none] [] M
set_option maxRecDepth 100000 in
theorem eX5_takeThing (l0 : Nat) (M : Hx) : FX5_takeThing l0 M = (gd (h_K M 4 l0) <| bnd (FX5_takeNumber l0 (nI 0) (nI 2) M) (fun q1 => if q1.1 = nI 0 then (if (nI 0) = nI 0 ∨ (nI 0) = nI 1 then some ((nI 0), q1.2) else none) else (bnd (h_I q1.2 4 l0 8) (fun x2 => bnd (h_I q1.2 4 l0 9) (fun x3 => if (x3 &&& ((nI 1) <<< (x2 &&& nI 31))) = nI 0 then (gd (h_K q1.2 4 l0) <| bnd (FX5_takeNumber l0 (nI 0) (nI 9) q1.2) (fun q4 => if q4.1 = nI 0 then (FX5_takeThing_50 q4.2) else gd (h_K q4.2 4 l0) <| bnd (FX5_takeStop l0 q4.2) (fun q5 => if q5.1 = nI 0 then (FX5_takeThing_50 q5.2) else (bnd (h_I q5.2 4 l0 9) (fun x6 => bnd (h_P q5.2 4 l0 9 (.int (x6 ||| ((nI 1) <<< (x2 &&& nI 31))))) (fun M7 => if x2 < nI 0 then (FX5_takeThing_86 M7) else if (nI 3) ≤ x2 then (FX5_takeThing_86 M7) else bnd (h_R M7 4 l0 0) (fun r8 => bnd (h_R M7 1 r8 4) (fun r9 => bnd (h_I M7 4 l0 8) (fun x10 => bnd (h_S M7 0 r9 x2 x10) (fun M11 => FX5_takeThing_86 M11) ()) ()) ()) ()) ()) ())) ()) ()) else gd (h_K q1.2 4 l0) <| bnd (FX5_meet l0 (nI 4) q1.2) (fun q12 => if q12.1 = nI 0 ∨ q12.1 = nI 1 then some (q12.1, q12.2) else none) ()) ()) ())) ()) := rfl
set_option maxRecDepth 100000 in
theorem eX5_takeThing_50  (M : Hx) : FX5_takeThing_50  M = (if (nI 0) = nI 0 ∨ (nI 0) = nI 1 then some ((nI 0), M) else none) := rfl
set_option maxRecDepth 100000 in
theorem eX5_takeThing_86  (M : Hx) : FX5_takeThing_86  M = (if (nI 1) = nI 0 ∨ (nI 1) = nI 1 then some ((nI 1), M) else none) := rfl
def FX5_takeTurn (l0 : Nat) (M : Hx) : Option (Int32 × Hx) := fX5_takeTurn [.ref l0] M
def FX5_takeTurn_24  (M : Hx) : Option (Int32 × Hx) := bX5_takeTurn_24 [none, none, none] [] M
def FX5_takeTurn_64  (M : Hx) : Option (Int32 × Hx) := bX5_takeTurn_64 [none, none, none] [] M
set_option maxRecDepth 100000 in
theorem eX5_takeTurn (l0 : Nat) (M : Hx) : FX5_takeTurn l0 M = (bnd (h_R M 4 l0 0) (fun r1 => bnd (h_R M 1 r1 1) (fun r2 => gd (h_K M 4 l0) <| bnd (FX5_hasRoom l0 r2 M) (fun q3 => if q3.1 = nI 0 then (FX5_takeTurn_24 q3.2) else gd (h_K q3.2 4 l0) <| bnd (FX5_takeNumber l0 (nI 0) (nI 9) q3.2) (fun q4 => if q4.1 = nI 0 then (FX5_takeTurn_24 q4.2) else (bnd (h_I q4.2 4 l0 8) (fun x5 => gd (h_K q4.2 4 l0) <| bnd (FX5_takeNumber l0 (nI 0) (nI 2) q4.2) (fun q6 => if q6.1 = nI 0 then (if (nI 0) = nI 0 ∨ (nI 0) = nI 1 then some ((nI 0), q6.2) else none) else (bnd (h_I q6.2 4 l0 8) (fun x7 => gd (h_K q6.2 4 l0) <| bnd (FX5_takeNumber l0 (nI 0) (nI 9) q6.2) (fun q8 => if q8.1 = nI 0 then (FX5_takeTurn_64 q8.2) else gd (h_K q8.2 4 l0) <| bnd (FX5_takeStop l0 q8.2) (fun q9 => if q9.1 = nI 0 then (FX5_takeTurn_64 q9.2) else (bnd (h_R q9.2 4 l0 0) (fun r10 => bnd (h_R q9.2 1 r10 1) (fun r11 => bnd (h_I q9.2 4 l0 8) (fun x12 => gd (h_K q9.2 5 r11) <| bnd (FX6_add r11 x5 x7 x12 (nI 0) q9.2) (fun q13 => if (nI 1) = nI 0 ∨ (nI 1) = nI 1 then some ((nI 1), q13.2) else none) ()) ()) ()) ())) ()) ()) ())) ()) ())) ()) ()) ()) ()) := rfl
set_option maxRecDepth 100000 in
theorem eX5_takeTurn_24  (M : Hx) : FX5_takeTurn_24  M = (if (nI 0) = nI 0 ∨ (nI 0) = nI 1 then some ((nI 0), M) else none) := rfl
set_option maxRecDepth 100000 in
theorem eX5_takeTurn_64  (M : Hx) : FX5_takeTurn_64  M = (if (nI 0) = nI 0 ∨ (nI 0) = nI 1 then some ((nI 0), M) else none) := rfl
def FX5_takeRota (l0 : Nat) (M : Hx) : Option (Int32 × Hx) := fX5_takeRota [.ref l0] M
def FX5_takeRota_20 (n20 : Nat) (l0 : Nat) (l1 : Int32) (M : Hx) : Option (Int32 × Hx) := (o_lp (bX5_takeRota_20) n20) [some (.ref l0), some (.int l1)] [] M
def FX5_takeRota_110 (n20 : Nat) (l0 : Nat) (l1 : Int32) (s0 : Nat) (s1 : Int32) (s2 : Int32) (M : Hx) : Option (Int32 × Hx) := bX5_takeRota_110 (o_lp (bX5_takeRota_20) n20) [some (.ref l0), some (.int l1)] [.int s2, .int s1, .ref s0] M
set_option maxRecDepth 100000 in
theorem eX5_takeRota (l0 : Nat) (M : Hx) : FX5_takeRota l0 M = (bnd (h_I M 4 l0 10) (fun x1 => if x1 = nI 0 then (if (nI 1) = nI 0 ∨ (nI 1) = nI 1 then (bnd (h_P M 4 l0 10 (.int (nI 1))) (fun M2 => FX5_takeRota_20 fu l0 (nI 0) M2) ()) else none) else gd (h_K M 4 l0) <| bnd (FX5_meet l0 (nI 4) M) (fun q3 => if q3.1 = nI 0 ∨ q3.1 = nI 1 then some (q3.1, q3.2) else none) ()) ()) := rfl
set_option maxRecDepth 100000 in
theorem eX5_takeRota_20 (n20 : Nat) (l0 : Nat) (l1 : Int32) (M : Hx) : FX5_takeRota_20 (n20 + 1) l0 l1 M = (if (nI 10) < l1 then (if (nI 0) = nI 0 ∨ (nI 0) = nI 1 then some ((nI 0), M) else none) else gd (h_K M 4 l0) <| bnd (FX5_takeToken l0 M) (fun q4 => if q4.1 = nI 0 then (if (nI 0) = nI 0 ∨ (nI 0) = nI 1 then some ((nI 0), q4.2) else none) else (bnd (h_I q4.2 4 l0 5) (fun x5 => if x5 = (nI 3) then (if (nI 1) = nI 0 ∨ (nI 1) = nI 1 then some ((nI 1), q4.2) else none) else (bnd (h_I q4.2 4 l0 5) (fun x6 => if x6 = (nI 2) then (if l1 < (nI 10) then (bnd (h_I q4.2 4 l0 8) (fun x7 => if x7 ≤ (nI 5) then (bnd (h_R q4.2 4 l0 0) (fun r8 => bnd (h_R q4.2 1 r8 5) (fun r9 => bnd (h_I q4.2 4 l0 8) (fun x10 => if x10 = (nI 5) then (FX5_takeRota_110 n20 l0 l1 r9 l1 (mi 4) q4.2) else (bnd (h_I q4.2 4 l0 8) (fun x11 => FX5_takeRota_110 n20 l0 l1 r9 l1 x11 q4.2) ())) ()) ()) ()) else gd (h_K q4.2 4 l0) <| bnd (FX5_meet l0 (nI 3) q4.2) (fun q12 => if q12.1 = nI 0 ∨ q12.1 = nI 1 then some (q12.1, q12.2) else none) ()) ()) else gd (h_K q4.2 4 l0) <| bnd (FX5_meet l0 (nI 5) q4.2) (fun q13 => if q13.1 = nI 0 ∨ q13.1 = nI 1 then some (q13.1, q13.2) else none) ()) else gd (h_K q4.2 4 l0) <| bnd (FX5_meet l0 (nI 2) q4.2) (fun q14 => if q14.1 = nI 0 ∨ q14.1 = nI 1 then some (q14.1, q14.2) else none) ()) ())) ())) ()) := rfl
set_option maxRecDepth 100000 in
theorem eX5_takeRota_110 (n20 : Nat) (l0 : Nat) (l1 : Int32) (s0 : Nat) (s1 : Int32) (s2 : Int32) (M : Hx) : FX5_takeRota_110 n20 l0 l1 s0 s1 s2 M = (bnd (h_S M 0 s0 s1 s2) (fun M15 => FX5_takeRota_20 n20 l0 (l1 + (nI 1)) M15) ()) := rfl
def FX5_takeWork (l0 : Nat) (M : Hx) : Option (Int32 × Hx) := fX5_takeWork [.ref l0] M
def FX5_takeWork_23  (M : Hx) : Option (Int32 × Hx) := bX5_takeWork_23 [none, none, none, none] [] M
def FX5_takeWork_81  (M : Hx) : Option (Int32 × Hx) := bX5_takeWork_81 [none, none, none, none] [] M
set_option maxRecDepth 100000 in
theorem eX5_takeWork (l0 : Nat) (M : Hx) : FX5_takeWork l0 M = (bnd (h_R M 4 l0 0) (fun r1 => bnd (h_R M 1 r1 2) (fun r2 => gd (h_K M 4 l0) <| bnd (FX5_hasRoom l0 r2 M) (fun q3 => if q3.1 = nI 0 then (FX5_takeWork_23 q3.2) else gd (h_K q3.2 4 l0) <| bnd (FX5_takeNumber l0 (nI 0) (nI 4) q3.2) (fun q4 => if q4.1 = nI 0 then (FX5_takeWork_23 q4.2) else (bnd (h_I q4.2 4 l0 8) (fun x5 => gd (h_K q4.2 4 l0) <| bnd (FX5_takeNumber l0 (nI 0) (nI 9) q4.2) (fun q6 => if q6.1 = nI 0 then (if (nI 0) = nI 0 ∨ (nI 0) = nI 1 then some ((nI 0), q6.2) else none) else (bnd (h_I q6.2 4 l0 8) (fun x7 => gd (h_K q6.2 4 l0) <| bnd (FX5_takeNumber l0 x7 (nI 9) q6.2) (fun q8 => if q8.1 = nI 0 then (if (nI 0) = nI 0 ∨ (nI 0) = nI 1 then some ((nI 0), q8.2) else none) else (bnd (h_I q8.2 4 l0 8) (fun x9 => gd (h_K q8.2 4 l0) <| bnd (FX5_takeNumber l0 (nI 1) (nI 9) q8.2) (fun q10 => if q10.1 = nI 0 then (FX5_takeWork_81 q10.2) else gd (h_K q10.2 4 l0) <| bnd (FX5_takeStop l0 q10.2) (fun q11 => if q11.1 = nI 0 then (FX5_takeWork_81 q11.2) else (bnd (h_R q11.2 4 l0 0) (fun r12 => bnd (h_R q11.2 1 r12 2) (fun r13 => bnd (h_I q11.2 4 l0 8) (fun x14 => gd (h_K q11.2 5 r13) <| bnd (FX6_add r13 x5 x7 x9 x14 q11.2) (fun q15 => if (nI 1) = nI 0 ∨ (nI 1) = nI 1 then some ((nI 1), q15.2) else none) ()) ()) ()) ())) ()) ()) ())) ()) ())) ()) ())) ()) ()) ()) ()) := rfl
set_option maxRecDepth 100000 in
theorem eX5_takeWork_23  (M : Hx) : FX5_takeWork_23  M = (if (nI 0) = nI 0 ∨ (nI 0) = nI 1 then some ((nI 0), M) else none) := rfl
set_option maxRecDepth 100000 in
theorem eX5_takeWork_81  (M : Hx) : FX5_takeWork_81  M = (if (nI 0) = nI 0 ∨ (nI 0) = nI 1 then some ((nI 0), M) else none) := rfl
def FX5_takeTelling (l0 : Nat) (M : Hx) : Option (Int32 × Hx) := fX5_takeTelling [.ref l0] M
def FX5_takeTelling_24  (M : Hx) : Option (Int32 × Hx) := bX5_takeTelling_24 [none, none, none, none] [] M
def FX5_takeTelling_90  (M : Hx) : Option (Int32 × Hx) := bX5_takeTelling_90 [none, none, none, none] [] M
set_option maxRecDepth 100000 in
theorem eX5_takeTelling (l0 : Nat) (M : Hx) : FX5_takeTelling l0 M = (bnd (h_R M 4 l0 0) (fun r1 => bnd (h_R M 1 r1 3) (fun r2 => gd (h_K M 4 l0) <| bnd (FX5_hasRoom l0 r2 M) (fun q3 => if q3.1 = nI 0 then (FX5_takeTelling_24 q3.2) else gd (h_K q3.2 4 l0) <| bnd (FX5_takeNumber l0 (nI 0) (nI 9) q3.2) (fun q4 => if q4.1 = nI 0 then (FX5_takeTelling_24 q4.2) else (bnd (h_I q4.2 4 l0 8) (fun x5 => gd (h_K q4.2 4 l0) <| bnd (FX5_takeNumber l0 (nI 0) (nI 4) q4.2) (fun q6 => if q6.1 = nI 0 then (if (nI 0) = nI 0 ∨ (nI 0) = nI 1 then some ((nI 0), q6.2) else none) else (bnd (h_I q6.2 4 l0 8) (fun x7 => gd (h_K q6.2 4 l0) <| bnd (FX5_takeNumber l0 (nI 0) (nI 4) q6.2) (fun q8 => if q8.1 = nI 0 then (if (nI 0) = nI 0 ∨ (nI 0) = nI 1 then some ((nI 0), q8.2) else none) else (bnd (h_I q8.2 4 l0 8) (fun x9 => if x9 = x7 then (gd (h_K q8.2 4 l0) <| bnd (FX5_meet l0 (nI 3) q8.2) (fun q16 => if q16.1 = nI 0 ∨ q16.1 = nI 1 then some (q16.1, q16.2) else none) ()) else (gd (h_K q8.2 4 l0) <| bnd (FX5_takeNumber l0 (nI 0) (nI 2) q8.2) (fun q10 => if q10.1 = nI 0 then (FX5_takeTelling_90 q10.2) else gd (h_K q10.2 4 l0) <| bnd (FX5_takeStop l0 q10.2) (fun q11 => if q11.1 = nI 0 then (FX5_takeTelling_90 q11.2) else (bnd (h_R q11.2 4 l0 0) (fun r12 => bnd (h_R q11.2 1 r12 3) (fun r13 => bnd (h_I q11.2 4 l0 8) (fun x14 => gd (h_K q11.2 5 r13) <| bnd (FX6_add r13 x5 x7 x9 x14 q11.2) (fun q15 => if (nI 1) = nI 0 ∨ (nI 1) = nI 1 then some ((nI 1), q15.2) else none) ()) ()) ()) ())) ()) ())) ())) ()) ())) ()) ())) ()) ()) ()) ()) := rfl
set_option maxRecDepth 100000 in
theorem eX5_takeTelling_24  (M : Hx) : FX5_takeTelling_24  M = (if (nI 0) = nI 0 ∨ (nI 0) = nI 1 then some ((nI 0), M) else none) := rfl
set_option maxRecDepth 100000 in
theorem eX5_takeTelling_90  (M : Hx) : FX5_takeTelling_90  M = (if (nI 0) = nI 0 ∨ (nI 0) = nI 1 then some ((nI 0), M) else none) := rfl
def FX5_takeLine (l0 : Nat) (M : Hx) : Option (Int32 × Hx) := fX5_takeLine [.ref l0] M
def FX5_takeLine_151 (s0 : Int32) (M : Hx) : Option (Int32 × Hx) := bX5_takeLine_151 [none] [.int s0] M
set_option maxRecDepth 100000 in
theorem eX5_takeLine (l0 : Nat) (M : Hx) : FX5_takeLine l0 M = (bnd (h_I M 4 l0 5) (fun x1 => if x1 = (nI 1) then (gd (h_K M 4 l0) <| bnd (FX5_isWord l0 (1000 + 0) M) (fun q2 => if q2.1 = nI 0 then (gd (h_K q2.2 4 l0) <| bnd (FX5_isWord l0 (1000 + 1) q2.2) (fun q3 => if q3.1 = nI 0 then (gd (h_K q3.2 4 l0) <| bnd (FX5_isWord l0 (1000 + 2) q3.2) (fun q4 => if q4.1 = nI 0 then (gd (h_K q4.2 4 l0) <| bnd (FX5_isWord l0 (1000 + 3) q4.2) (fun q5 => if q5.1 = nI 0 then (gd (h_K q5.2 4 l0) <| bnd (FX5_isWord l0 (1000 + 4) q5.2) (fun q6 => if q6.1 = nI 0 then (gd (h_K q6.2 4 l0) <| bnd (FX5_isWord l0 (1000 + 5) q6.2) (fun q7 => if q7.1 = nI 0 then (gd (h_K q7.2 4 l0) <| bnd (FX5_isWord l0 (1000 + 6) q7.2) (fun q8 => if q8.1 = nI 0 then (gd (h_K q8.2 4 l0) <| bnd (FX5_isWord l0 (1000 + 7) q8.2) (fun q9 => if q9.1 = nI 0 then (gd (h_K q9.2 4 l0) <| bnd (FX5_isWord l0 (1000 + 8) q9.2) (fun q10 => if q10.1 = nI 0 then (gd (h_K q10.2 4 l0) <| bnd (FX5_meet l0 (nI 2) q10.2) (fun q11 => FX5_takeLine_151 q11.1 q11.2) ()) else gd (h_K q10.2 4 l0) <| bnd (FX5_takeTelling l0 q10.2) (fun q12 => FX5_takeLine_151 q12.1 q12.2) ()) ()) else gd (h_K q9.2 4 l0) <| bnd (FX5_takeWork l0 q9.2) (fun q13 => if q13.1 = nI 0 ∨ q13.1 = nI 1 then some (q13.1, q13.2) else none) ()) ()) else gd (h_K q8.2 4 l0) <| bnd (FX5_takeRota l0 q8.2) (fun q14 => if q14.1 = nI 0 ∨ q14.1 = nI 1 then some (q14.1, q14.2) else none) ()) ()) else gd (h_K q7.2 4 l0) <| bnd (FX5_takeTurn l0 q7.2) (fun q15 => if q15.1 = nI 0 ∨ q15.1 = nI 1 then some (q15.1, q15.2) else none) ()) ()) else gd (h_K q6.2 4 l0) <| bnd (FX5_takeThing l0 q6.2) (fun q16 => if q16.1 = nI 0 ∨ q16.1 = nI 1 then some (q16.1, q16.2) else none) ()) ()) else gd (h_K q5.2 4 l0) <| bnd (FX5_takeOne l0 (nI 3) q5.2) (fun q17 => if q17.1 = nI 0 ∨ q17.1 = nI 1 then some (q17.1, q17.2) else none) ()) ()) else gd (h_K q4.2 4 l0) <| bnd (FX5_takeOne l0 (nI 2) q4.2) (fun q18 => if q18.1 = nI 0 ∨ q18.1 = nI 1 then some (q18.1, q18.2) else none) ()) ()) else gd (h_K q3.2 4 l0) <| bnd (FX5_takeOne l0 (nI 1) q3.2) (fun q19 => if q19.1 = nI 0 ∨ q19.1 = nI 1 then some (q19.1, q19.2) else none) ()) ()) else gd (h_K q2.2 4 l0) <| bnd (FX5_takeOne l0 (nI 0) q2.2) (fun q20 => if q20.1 = nI 0 ∨ q20.1 = nI 1 then some (q20.1, q20.2) else none) ()) ()) else gd (h_K M 4 l0) <| bnd (FX5_meet l0 (nI 2) M) (fun q21 => if q21.1 = nI 0 ∨ q21.1 = nI 1 then some (q21.1, q21.2) else none) ()) ()) := rfl
set_option maxRecDepth 100000 in
theorem eX5_takeLine_151 (s0 : Int32) (M : Hx) : FX5_takeLine_151 s0 M = (if s0 = nI 0 ∨ s0 = nI 1 then some (s0, M) else none) := rfl
def FX5_readTape (l0 : Nat) (M : Hx) : Option (Unit × Hx) := fX5_readTape [.ref l0] M
def FX5_readTape_55 (l0 : Nat) (M : Hx) : Option (Unit × Hx) := bX5_readTape_55 [some (.ref l0), none] [] M
def FX5_readTape_56 (l0 : Nat) (s0 : Int32) (M : Hx) : Option (Unit × Hx) := bX5_readTape_56 [some (.ref l0), none] [.int s0] M
def FX5_readTape_57 (n57 : Nat) (l0 : Nat) (l1 : Int32) (M : Hx) : Option (Unit × Hx) := (o_lp (bX5_readTape_57) n57) [some (.ref l0), some (.int l1)] [] M
def FX5_readTape_108 (n57 : Nat) (l0 : Nat) (M : Hx) : Option (Unit × Hx) := bX5_readTape_108 (o_lp (bX5_readTape_57) n57) [some (.ref l0), none] [] M
def FX5_readTape_109 (n57 : Nat) (l0 : Nat) (s0 : Int32) (M : Hx) : Option (Unit × Hx) := bX5_readTape_109 (o_lp (bX5_readTape_57) n57) [some (.ref l0), none] [.int s0] M
def FX5_readTape_113 (l0 : Nat) (M : Hx) : Option (Unit × Hx) := bX5_readTape_113 [some (.ref l0), none] [] M
def FX5_readTape_148  (M : Hx) : Option (Unit × Hx) := bX5_readTape_148 [none, none] [] M
set_option maxRecDepth 100000 in
theorem eX5_readTape (l0 : Nat) (M : Hx) : FX5_readTape l0 M = (bnd (h_R M 4 l0 0) (fun r1 => gd (h_K M 1 r1) <| bnd (FX1_makeEmpty r1 M) (fun q2 => bnd (h_P q2.2 4 l0 2 (.int (nI 0))) (fun M3 => bnd (h_P M3 4 l0 3 (.int (nI 0))) (fun M4 => bnd (h_P M4 4 l0 4 (.int (nI 0))) (fun M5 => bnd (h_P M5 4 l0 7 (.int (nI 0))) (fun M6 => bnd (h_P M6 4 l0 9 (.int (nI 0))) (fun M7 => if (nI 0) = nI 0 ∨ (nI 0) = nI 1 then (bnd (h_P M7 4 l0 10 (.int (nI 0))) (fun M8 => gd (h_K M8 4 l0) <| bnd (FX5_takeToken l0 M8) (fun q9 => if q9.1 = nI 0 then (FX5_readTape_55 l0 q9.2) else bnd (h_I q9.2 4 l0 5) (fun x10 => if x10 = nI 0 then (FX5_readTape_55 l0 q9.2) else FX5_readTape_56 l0 (nI 1) q9.2) ()) ()) ()) else none) ()) ()) ()) ()) ()) ()) ()) := rfl
set_option maxRecDepth 100000 in
theorem eX5_readTape_55 (l0 : Nat) (M : Hx) : FX5_readTape_55 l0 M = (FX5_readTape_56 l0 (nI 0) M) := rfl
set_option maxRecDepth 100000 in
theorem eX5_readTape_56 (l0 : Nat) (s0 : Int32) (M : Hx) : FX5_readTape_56 l0 s0 M = (FX5_readTape_57 fu l0 s0 M) := rfl
set_option maxRecDepth 100000 in
theorem eX5_readTape_57 (n57 : Nat) (l0 : Nat) (l1 : Int32) (M : Hx) : FX5_readTape_57 (n57 + 1) l0 l1 M = (if l1 = nI 0 then (FX5_readTape_113 l0 M) else bnd (h_I M 4 l0 2) (fun x11 => if (nI 160) ≤ x11 then (FX5_readTape_113 l0 M) else gd (h_K M 4 l0) <| bnd (FX5_takeLine l0 M) (fun q12 => if q12.1 = nI 0 then (FX5_readTape_57 n57 l0 q12.1 q12.2) else bnd (h_I q12.2 4 l0 2) (fun x13 => bnd (h_P q12.2 4 l0 2 (.int (x13 + (nI 1)))) (fun M14 => gd (h_K M14 4 l0) <| bnd (FX5_takeToken l0 M14) (fun q15 => if q15.1 = nI 0 then (FX5_readTape_108 n57 l0 q15.2) else bnd (h_I q15.2 4 l0 5) (fun x16 => if x16 = nI 0 then (FX5_readTape_108 n57 l0 q15.2) else FX5_readTape_109 n57 l0 (nI 1) q15.2) ()) ()) ()) ()) ()) ()) := rfl
set_option maxRecDepth 100000 in
theorem eX5_readTape_108 (n57 : Nat) (l0 : Nat) (M : Hx) : FX5_readTape_108 n57 l0 M = (FX5_readTape_109 n57 l0 (nI 0) M) := rfl
set_option maxRecDepth 100000 in
theorem eX5_readTape_109 (n57 : Nat) (l0 : Nat) (s0 : Int32) (M : Hx) : FX5_readTape_109 n57 l0 s0 M = (FX5_readTape_57 n57 l0 s0 M) := rfl
set_option maxRecDepth 100000 in
theorem eX5_readTape_113 (l0 : Nat) (M : Hx) : FX5_readTape_113 l0 M = (bnd (h_I M 4 l0 3) (fun x17 => if x17 = nI 0 then (bnd (h_R M 4 l0 0) (fun r18 => gd (h_K M 1 r18) <| bnd (FX1_namesOnlyKin r18 M) (fun q19 => if q19.1 = nI 0 then (bnd (h_R q19.2 4 l0 1) (fun r20 => bnd (h_I q19.2 5 r20 3) (fun x21 => bnd (h_P q19.2 4 l0 6 (.int x21)) (fun M22 => gd (h_K M22 4 l0) <| bnd (FX5_meet l0 (nI 6) M22) (fun q23 => FX5_readTape_148 q23.2) ()) ()) ()) ()) else (FX5_readTape_148 q19.2)) ()) ()) else (FX5_readTape_148 M)) ()) := rfl
set_option maxRecDepth 100000 in
theorem eX5_readTape_148  (M : Hx) : FX5_readTape_148  M = (some ((), M)) := rfl
def FX8_init (l0 : Nat) (M : Hx) : Option (Unit × Hx) := fX8_init [.ref l0] M
def FX8_init_133 (n133 : Nat) (l0 : Nat) (l1 : Int32) (M : Hx) : Option (Unit × Hx) := (o_lp (bX8_init_133) n133) [some (.ref l0), some (.int l1)] [] M
def FX8_init_159 (n159 : Nat) (l0 : Nat) (l1 : Int32) (M : Hx) : Option (Unit × Hx) := (o_lp (bX8_init_159) n159) [some (.ref l0), some (.int l1)] [] M
set_option maxRecDepth 100000 in
theorem eX8_init (l0 : Nat) (M : Hx) : FX8_init l0 M = (if M.length < 1000 then (bnd (FX1_init (List.length M) (M ++ [.inr (1, [.null, .null, .null, .null, .null, .null])])) (fun q2 => bnd (h_P q2.2 7 l0 0 (.ref (List.length M))) (fun M3 => if ¬ (nI 2) < nI 0 ∧ (nI 2).toNatClampNeg ≤ 100000 ∧ M3.length < 1000 then (bnd (h_P (M3 ++ [.inl (2, (nI 2).toNatClampNeg, .inr (fun _ => none))]) 7 l0 1 (.ref (List.length M3))) (fun M4 => if ¬ (nI 2) < nI 0 ∧ (nI 2).toNatClampNeg ≤ 100000 ∧ M4.length < 1000 then (bnd (h_P (M4 ++ [.inl (1, (nI 2).toNatClampNeg, .inl (fun _ => nI 0))]) 7 l0 2 (.ref (List.length M4))) (fun M5 => if M5.length < 1000 then (bnd (FX6_init (List.length M5) (nI 4) (nI 6) (M5 ++ [.inr (5, [.int 0, .int 0, .null, .int 0])])) (fun q7 => bnd (h_P q7.2 7 l0 3 (.ref (List.length M5))) (fun M8 => if M8.length < 1000 then (bnd (FX6_init (List.length M8) (nI 1) (nI 160) (M8 ++ [.inr (5, [.int 0, .int 0, .null, .int 0])])) (fun q10 => bnd (h_P q10.2 7 l0 4 (.ref (List.length M8))) (fun M11 => if M11.length < 1000 then (bnd (h_R (M11 ++ [.inr (4, [.null, .null, .int 0, .int 0, .int 0, .int 0, .int 0, .int 0, .int 0, .int 0, .int 0])]) 7 l0 4) (fun r13 => bnd (FX5_init (List.length M11) r13 (M11 ++ [.inr (4, [.null, .null, .int 0, .int 0, .int 0, .int 0, .int 0, .int 0, .int 0, .int 0, .int 0])])) (fun q14 => bnd (h_P q14.2 7 l0 5 (.ref (List.length M11))) (fun M15 => if ¬ (nI 4) < nI 0 ∧ (nI 4).toNatClampNeg ≤ 100000 ∧ M15.length < 1000 then (bnd (h_P (M15 ++ [.inl (3, (nI 4).toNatClampNeg, .inr (fun _ => none))]) 7 l0 6 (.ref (List.length M15))) (fun M16 => if M16.length < 1000 then (bnd (FX7_init (List.length M16) (M16 ++ [.inr (6, [.null, .null, .null])])) (fun q18 => bnd (h_P q18.2 7 l0 7 (.ref (List.length M16))) (fun M19 => if M19.length < 1000 then (bnd (FX0_init (List.length M19) (M19 ++ [.inr (0, [.null, .null])])) (fun q21 => bnd (h_P q21.2 7 l0 8 (.ref (List.length M19))) (fun M22 => if M22.length < 1000 then (bnd (FX4_init (List.length M22) (M22 ++ [.inr (3, [.null, .null, .null, .null, .null, .int 0, .int 0])])) (fun q24 => bnd (h_P q24.2 7 l0 9 (.ref (List.length M22))) (fun M25 => if ¬ (nI 10) < nI 0 ∧ (nI 10).toNatClampNeg ≤ 100000 ∧ M25.length < 1000 then (bnd (h_P (M25 ++ [.inl (0, (nI 10).toNatClampNeg, .inl (fun _ => nI 0))]) 7 l0 10 (.ref (List.length M25))) (fun M26 => if ¬ (nI 90) < nI 0 ∧ (nI 90).toNatClampNeg ≤ 100000 ∧ M26.length < 1000 then (bnd (h_P (M26 ++ [.inl (0, (nI 90).toNatClampNeg, .inl (fun _ => nI 0))]) 7 l0 11 (.ref (List.length M26))) (fun M27 => FX8_init_133 fu l0 (nI 0) M27) ()) else none) ()) else none) ()) ()) else none) ()) ()) else none) ()) ()) else none) ()) else none) ()) ()) ()) else none) ()) ()) else none) ()) ()) else none) ()) else none) ()) else none) ()) ()) else none) := rfl
set_option maxRecDepth 100000 in
theorem eX8_init_133 (n133 : Nat) (l0 : Nat) (l1 : Int32) (M : Hx) : FX8_init_133 (n133 + 1) l0 l1 M = (if (nI 2) ≤ l1 then (FX8_init_159 fu l0 (nI 0) M) else bnd (h_R M 7 l0 1) (fun r28 => if M.length < 1000 then (bnd (FX1_init (List.length M) (M ++ [.inr (1, [.null, .null, .null, .null, .null, .null])])) (fun q30 => bnd (h_SR q30.2 2 1 r28 l1 (List.length M)) (fun M31 => FX8_init_133 n133 l0 (l1 + (nI 1)) M31) ()) ()) else none) ()) := rfl
set_option maxRecDepth 100000 in
theorem eX8_init_159 (n159 : Nat) (l0 : Nat) (l1 : Int32) (M : Hx) : FX8_init_159 (n159 + 1) l0 l1 M = (if (nI 4) ≤ l1 then (some ((), M)) else bnd (h_R M 7 l0 6) (fun r32 => if M.length < 1000 then (bnd (FX3_init (List.length M) (M ++ [.inr (2, [.null, .int 0, .int 0])])) (fun q34 => bnd (h_SR q34.2 3 2 r32 l1 (List.length M)) (fun M35 => FX8_init_159 n159 l0 (l1 + (nI 1)) M35) ()) ()) else none) ()) := rfl
