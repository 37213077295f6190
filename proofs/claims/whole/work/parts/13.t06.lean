def FX9_feed (l0 : Nat) (l1 : Int32) (M : Hx) : Option (Int32 × Hx) := fX9_feed [.ref l0, .int l1] M
set_option maxRecDepth 100000 in
theorem eX9_feed (l0 : Nat) (l1 : Int32) (M : Hx) : FX9_feed l0 l1 M = (bnd (FX9_in l1.toInt64 (lN 0) (lN 127) M) (fun q1 => if q1.1 = nI 0 then (some ((mi 1), q1.2)) else (bnd (h_I q1.2 8 l0 10) (fun x2 => if x2 = (nI 160) then (some ((mi 3), q1.2)) else (bnd (h_R q1.2 8 l0 9) (fun r3 => bnd (h_I q1.2 8 l0 10) (fun x4 => bnd (h_S q1.2 0 r3 x4 l1) (fun M5 => bnd (h_I M5 8 l0 10) (fun x6 => bnd (h_P M5 8 l0 10 (.int (x6 + (nI 1)))) (fun M7 => bnd (h_I M7 8 l0 10) (fun x8 => some (x8, M7)) ()) ()) ()) ()) ()) ())) ())) ()) := rfl
def FX9_end (l0 : Nat) (l1 : Int32) (M : Hx) : Option (Int32 × Hx) := fX9_end [.ref l0, .int l1] M
set_option maxRecDepth 100000 in
theorem eX9_end (l0 : Nat) (l1 : Int32) (M : Hx) : FX9_end l0 l1 M = (bnd (h_I M 8 l0 10) (fun x1 => bnd (FX9_in l1.toInt64 (lN 0) x1.toInt64 M) (fun q2 => if q2.1 = nI 0 then (some ((mi 1), q2.2)) else (bnd (h_I q2.2 8 l0 10) (fun x3 => bnd (h_P q2.2 8 l0 10 (.int l1)) (fun M4 => some (x3, M4)) ()) ())) ()) ()) := rfl
def FX9_byteAt (l0 : Nat) (l1 : Int32) (M : Hx) : Option (Int32 × Hx) := fX9_byteAt [.ref l0, .int l1] M
def FX9_byteAt_19 (s0 : Int32) (M : Hx) : Option (Int32 × Hx) := bX9_byteAt_19 [none, none] [.int s0] M
set_option maxRecDepth 100000 in
theorem eX9_byteAt (l0 : Nat) (l1 : Int32) (M : Hx) : FX9_byteAt l0 l1 M = (bnd (h_I M 8 l0 10) (fun x1 => if x1 ≤ l1 then (FX9_byteAt_19 (mi 4) M) else bnd (h_R M 8 l0 9) (fun r2 => bnd (h_A M 0 r2 l1) (fun x3 => FX9_byteAt_19 x3 M) ()) ()) ()) := rfl
set_option maxRecDepth 100000 in
theorem eX9_byteAt_19 (s0 : Int32) (M : Hx) : FX9_byteAt_19 s0 M = (some (s0, M)) := rfl
def FX9_fails (l0 : Nat) (l1 : Int32) (M : Hx) : Option (Unit × Hx) := fX9_fails [.ref l0, .int l1] M
def FX9_fails_20  (M : Hx) : Option (Unit × Hx) := bX9_fails_20 [none, none] [] M
set_option maxRecDepth 100000 in
theorem eX9_fails (l0 : Nat) (l1 : Int32) (M : Hx) : FX9_fails l0 l1 M = (bnd (h_I M 8 l0 12) (fun x1 => if x1 = nI 0 then (bnd (h_P M 8 l0 12 (.int l1)) (fun M2 => bnd (h_I M2 8 l0 15) (fun x3 => bnd (h_P M2 8 l0 13 (.int x3)) (fun M4 => FX9_fails_20 M4) ()) ()) ()) else (FX9_fails_20 M)) ()) := rfl
set_option maxRecDepth 100000 in
theorem eX9_fails_20  (M : Hx) : FX9_fails_20  M = (some ((), M)) := rfl
def FX9_nameHere (l0 : Nat) (M : Hx) : Option (Int32 × Hx) := fX9_nameHere [.ref l0] M
def FX9_nameHere_2 (n2 : Nat) (l0 : Nat) (l1 : Int32) (M : Hx) : Option (Int32 × Hx) := (o_lp (bX9_nameHere_2) n2) [some (.ref l0), some (.int l1), none, none] [] M
def FX9_nameHere_48 (n2 : Nat) (l0 : Nat) (l1 : Int32) (s0 : Int32) (M : Hx) : Option (Int32 × Hx) := bX9_nameHere_48 (o_lp (bX9_nameHere_2) n2) [some (.ref l0), some (.int l1), none, none] [.int s0] M
def FX9_nameHere_51 (n2 : Nat) (n51 : Nat) (l0 : Nat) (l1 : Int32) (l2 : Int32) (l3 : Int32) (M : Hx) : Option (Int32 × Hx) := (o_lp (bX9_nameHere_51 (o_lp (bX9_nameHere_2) n2)) n51) [some (.ref l0), some (.int l1), some (.int l2), some (.int l3)] [] M
def FX9_nameHere_99 (n2 : Nat) (n51 : Nat) (l0 : Nat) (l1 : Int32) (l3 : Int32) (s0 : Int32) (M : Hx) : Option (Int32 × Hx) := bX9_nameHere_99 (o_lp (bX9_nameHere_2) n2) (o_lp (bX9_nameHere_51 (o_lp (bX9_nameHere_2) n2)) n51) [some (.ref l0), some (.int l1), none, some (.int l3)] [.int s0] M
def FX9_nameHere_106 (n2 : Nat) (l0 : Nat) (l1 : Int32) (l2 : Int32) (M : Hx) : Option (Int32 × Hx) := bX9_nameHere_106 (o_lp (bX9_nameHere_2) n2) [some (.ref l0), some (.int l1), some (.int l2), none] [] M
def FX9_nameHere_118  (M : Hx) : Option (Int32 × Hx) := bX9_nameHere_118 [none, none, none, none] [] M
set_option maxRecDepth 100000 in
theorem eX9_nameHere (l0 : Nat) (M : Hx) : FX9_nameHere l0 M = (FX9_nameHere_2 fu l0 (nI 0) M) := rfl
set_option maxRecDepth 100000 in
theorem eX9_nameHere_2 (n2 : Nat) (l0 : Nat) (l1 : Int32) (M : Hx) : FX9_nameHere_2 (n2 + 1) l0 l1 M = (if (nI 9) ≤ l1 then (FX9_nameHere_118 M) else bnd (h_I M 8 l0 16) (fun x1 => if x1 = (nI 1) then (bnd (h_I M 8 l0 14) (fun x2 => bnd (h_I M 8 l0 15) (fun x3 => bnd (h_R M 8 l0 18) (fun r4 => bnd (h_A M 0 r4 (l1 + (nI 1))) (fun x5 => bnd (h_R M 8 l0 18) (fun r6 => bnd (h_A M 0 r6 l1) (fun x7 => if (x2 - x3) = (x5 - x7) then (FX9_nameHere_48 n2 l0 l1 (nI 1) M) else (FX9_nameHere_48 n2 l0 l1 (nI 0) M)) ()) ()) ()) ()) ()) ()) else (FX9_nameHere_118 M)) ()) := rfl
set_option maxRecDepth 100000 in
theorem eX9_nameHere_48 (n2 : Nat) (l0 : Nat) (l1 : Int32) (s0 : Int32) (M : Hx) : FX9_nameHere_48 n2 l0 l1 s0 M = (FX9_nameHere_51 n2 fu l0 l1 s0 (nI 0) M) := rfl
set_option maxRecDepth 100000 in
theorem eX9_nameHere_51 (n2 : Nat) (n51 : Nat) (l0 : Nat) (l1 : Int32) (l2 : Int32) (l3 : Int32) (M : Hx) : FX9_nameHere_51 n2 (n51 + 1) l0 l1 l2 l3 M = (if l2 = nI 0 then (FX9_nameHere_106 n2 l0 l1 l2 M) else bnd (h_I M 8 l0 14) (fun x8 => bnd (h_I M 8 l0 15) (fun x9 => if (x8 - x9) ≤ l3 then (FX9_nameHere_106 n2 l0 l1 l2 M) else bnd (h_I M 8 l0 15) (fun x10 => gd (h_K M 8 l0) <| bnd (FX9_byteAt l0 (x10 + l3) M) (fun q11 => bnd (h_R q11.2 8 l0 19) (fun r12 => bnd (h_R q11.2 8 l0 18) (fun r13 => bnd (h_A q11.2 0 r13 l1) (fun x14 => bnd (h_A q11.2 0 r12 (x14 + l3)) (fun x15 => if q11.1 = x15 then (FX9_nameHere_99 n2 n51 l0 l1 l3 (nI 1) q11.2) else (FX9_nameHere_99 n2 n51 l0 l1 l3 (nI 0) q11.2)) ()) ()) ()) ()) ()) ()) ()) ()) := rfl
set_option maxRecDepth 100000 in
theorem eX9_nameHere_99 (n2 : Nat) (n51 : Nat) (l0 : Nat) (l1 : Int32) (l3 : Int32) (s0 : Int32) (M : Hx) : FX9_nameHere_99 n2 n51 l0 l1 l3 s0 M = (FX9_nameHere_51 n2 n51 l0 l1 s0 (l3 + (nI 1)) M) := rfl
set_option maxRecDepth 100000 in
theorem eX9_nameHere_106 (n2 : Nat) (l0 : Nat) (l1 : Int32) (l2 : Int32) (M : Hx) : FX9_nameHere_106 n2 l0 l1 l2 M = (if l2 = nI 0 then (FX9_nameHere_2 n2 l0 (l1 + (nI 1)) M) else some (l1, M)) := rfl
set_option maxRecDepth 100000 in
theorem eX9_nameHere_118  (M : Hx) : FX9_nameHere_118  M = (some ((mi 4), M)) := rfl
def FX9_step (l0 : Nat) (M : Hx) : Option (Unit × Hx) := fX9_step [.ref l0] M
def FX9_step_8 (n8 : Nat) (l0 : Nat) (M : Hx) : Option (Unit × Hx) := (o_lp (bX9_step_8) n8) [some (.ref l0), none] [] M
def FX9_step_84 (n84 : Nat) (l0 : Nat) (M : Hx) : Option (Unit × Hx) := (o_lp (bX9_step_84) n84) [some (.ref l0), none] [] M
def FX9_step_140 (n140 : Nat) (l0 : Nat) (M : Hx) : Option (Unit × Hx) := (o_lp (bX9_step_140) n140) [some (.ref l0), none] [] M
def FX9_step_201 (n140 : Nat) (l0 : Nat) (s0 : Nat) (s1 : Int32) (M : Hx) : Option (Unit × Hx) := bX9_step_201 (o_lp (bX9_step_140) n140) [some (.ref l0), none] [.int s1, .ref s0] M
def FX9_step_269  (M : Hx) : Option (Unit × Hx) := bX9_step_269 [none, none] [] M
set_option maxRecDepth 100000 in
theorem eX9_step (l0 : Nat) (M : Hx) : FX9_step l0 M = (bnd (h_I M 8 l0 12) (fun x1 => if x1 ≤ nI 0 then (FX9_step_8 fu l0 M) else some ((), M)) ()) := rfl
set_option maxRecDepth 100000 in
theorem eX9_step_8 (n8 : Nat) (l0 : Nat) (M : Hx) : FX9_step_8 (n8 + 1) l0 M = (bnd (h_I M 8 l0 14) (fun x2 => gd (h_K M 8 l0) <| bnd (FX9_byteAt l0 x2 M) (fun q3 => if q3.1 = (nI 32) then (bnd (h_I q3.2 8 l0 14) (fun x16 => bnd (h_P q3.2 8 l0 14 (.int (x16 + (nI 1)))) (fun M17 => FX9_step_8 n8 l0 M17) ()) ()) else (bnd (h_I q3.2 8 l0 14) (fun x4 => bnd (h_P q3.2 8 l0 15 (.int x4)) (fun M5 => bnd (h_I M5 8 l0 14) (fun x6 => gd (h_K M5 8 l0) <| bnd (FX9_byteAt l0 x6 M5) (fun q7 => bnd (h_P q7.2 8 l0 17 (.int (nI 0))) (fun M8 => if q7.1 = (mi 4) then (bnd (h_P M8 8 l0 16 (.int (nI 0))) (fun M15 => FX9_step_269 M15) ()) else (bnd (FX9_in q7.1.toInt64 (lN 97) (lN 122) M8) (fun q9 => if q9.1 = nI 0 then (bnd (FX9_in q7.1.toInt64 (lN 48) (lN 57) q9.2) (fun q10 => if q10.1 = nI 0 then (bnd (h_P q10.2 8 l0 16 (.int (nI 3))) (fun M11 => bnd (h_I M11 8 l0 14) (fun x12 => bnd (h_P M11 8 l0 14 (.int (x12 + (nI 1)))) (fun M13 => if q7.1 = (nI 59) then (FX9_step_269 M13) else gd (h_K M13 8 l0) <| bnd (FX9_fails l0 (nI 1) M13) (fun q14 => FX9_step_269 q14.2) ()) ()) ()) ()) else FX9_step_140 fu l0 q10.2) ()) else FX9_step_84 fu l0 q9.2) ())) ()) ()) ()) ()) ())) ()) ()) := rfl
set_option maxRecDepth 100000 in
theorem eX9_step_84 (n84 : Nat) (l0 : Nat) (M : Hx) : FX9_step_84 (n84 + 1) l0 M = (bnd (h_I M 8 l0 14) (fun x18 => gd (h_K M 8 l0) <| bnd (FX9_byteAt l0 x18 M) (fun q19 => bnd (FX9_in q19.1.toInt64 (lN 97) (lN 122) q19.2) (fun q20 => if q20.1 = nI 0 then (bnd (h_P q20.2 8 l0 16 (.int (nI 1))) (fun M21 => FX9_step_269 M21) ()) else bnd (h_I q20.2 8 l0 14) (fun x22 => bnd (h_P q20.2 8 l0 14 (.int (x22 + (nI 1)))) (fun M23 => FX9_step_84 n84 l0 M23) ()) ()) ()) ()) ()) := rfl
set_option maxRecDepth 100000 in
theorem eX9_step_140 (n140 : Nat) (l0 : Nat) (M : Hx) : FX9_step_140 (n140 + 1) l0 M = (bnd (h_I M 8 l0 14) (fun x24 => gd (h_K M 8 l0) <| bnd (FX9_byteAt l0 x24 M) (fun q25 => bnd (FX9_in q25.1.toInt64 (lN 48) (lN 57) q25.2) (fun q26 => if q26.1 = nI 0 then (bnd (h_P q26.2 8 l0 16 (.int (nI 2))) (fun M27 => bnd (h_I M27 8 l0 14) (fun x28 => bnd (h_I M27 8 l0 15) (fun x29 => if (x28 - x29) ≤ (nI 2) then (FX9_step_269 M27) else gd (h_K M27 8 l0) <| bnd (FX9_fails l0 (nI 1) M27) (fun q30 => FX9_step_269 q30.2) ()) ()) ()) ()) else bnd (h_I q26.2 8 l0 14) (fun x31 => bnd (h_I q26.2 8 l0 15) (fun x32 => if (nI 2) ≤ (x31 - x32) then (bnd (h_I q26.2 8 l0 17) (fun x33 => FX9_step_201 n140 l0 l0 x33 q26.2) ()) else bnd (h_I q26.2 8 l0 17) (fun x34 => bnd (h_I q26.2 8 l0 14) (fun x35 => gd (h_K q26.2 8 l0) <| bnd (FX9_byteAt l0 x35 q26.2) (fun q36 => FX9_step_201 n140 l0 l0 ((((nI 10) * x34) + q36.1) - (nI 48)) q36.2) ()) ()) ()) ()) ()) ()) ()) ()) := rfl
set_option maxRecDepth 100000 in
theorem eX9_step_201 (n140 : Nat) (l0 : Nat) (s0 : Nat) (s1 : Int32) (M : Hx) : FX9_step_201 n140 l0 s0 s1 M = (bnd (h_P M 8 s0 17 (.int s1)) (fun M37 => bnd (h_I M37 8 l0 14) (fun x38 => bnd (h_P M37 8 l0 14 (.int (x38 + (nI 1)))) (fun M39 => FX9_step_140 n140 l0 M39) ()) ()) ()) := rfl
set_option maxRecDepth 100000 in
theorem eX9_step_269  (M : Hx) : FX9_step_269  M = (some ((), M)) := rfl
def FX9_other (l0 : Nat) (l1 : Int32) (l2 : Int32) (l3 : Int32) (M : Hx) : Option (Int32 × Hx) := fX9_other [.ref l0, .int l1, .int l2, .int l3] M
def FX9_other_20 (l0 : Nat) (l1 : Int32) (l2 : Int32) (l3 : Int32) (M : Hx) : Option (Int32 × Hx) := bX9_other_20 [some (.ref l0), some (.int l1), some (.int l2), some (.int l3), none] [] M
def FX9_other_47 (l0 : Nat) (l1 : Int32) (l3 : Int32) (M : Hx) : Option (Int32 × Hx) := bX9_other_47 [some (.ref l0), some (.int l1), none, some (.int l3), none] [] M
def FX9_other_75 (l0 : Nat) (l1 : Int32) (M : Hx) : Option (Int32 × Hx) := bX9_other_75 [some (.ref l0), some (.int l1), none, none, none] [] M
def FX9_other_90 (l0 : Nat) (s0 : Int32) (M : Hx) : Option (Int32 × Hx) := bX9_other_90 [some (.ref l0), none, none, none, none] [.int s0] M
set_option maxRecDepth 100000 in
theorem eX9_other (l0 : Nat) (l1 : Int32) (l2 : Int32) (l3 : Int32) (M : Hx) : FX9_other l0 l1 l2 l3 M = (bnd (h_I M 8 l0 12) (fun x1 => if x1 = nI 0 then (bnd (h_I M 8 l0 16) (fun x2 => if x2 = (nI 2) then (FX9_other_20 l0 l1 l2 l3 M) else gd (h_K M 8 l0) <| bnd (FX9_fails l0 (nI 2) M) (fun q3 => FX9_other_20 l0 l1 l2 l3 q3.2) ()) ()) else (FX9_other_20 l0 l1 l2 l3 M)) ()) := rfl
set_option maxRecDepth 100000 in
theorem eX9_other_20 (l0 : Nat) (l1 : Int32) (l2 : Int32) (l3 : Int32) (M : Hx) : FX9_other_20 l0 l1 l2 l3 M = (bnd (h_I M 8 l0 12) (fun x4 => if x4 = nI 0 then (bnd (h_I M 8 l0 17) (fun x5 => bnd (FX9_in x5.toInt64 l1.toInt64 l2.toInt64 M) (fun q6 => if q6.1 = nI 0 then (gd (h_K q6.2 8 l0) <| bnd (FX9_fails l0 (nI 3) q6.2) (fun q7 => FX9_other_47 l0 l1 l3 q7.2) ()) else (FX9_other_47 l0 l1 l3 q6.2)) ()) ()) else (FX9_other_47 l0 l1 l3 M)) ()) := rfl
set_option maxRecDepth 100000 in
theorem eX9_other_47 (l0 : Nat) (l1 : Int32) (l3 : Int32) (M : Hx) : FX9_other_47 l0 l1 l3 M = (bnd (h_I M 8 l0 12) (fun x8 => if x8 = nI 0 then (if l3 = nI 0 then (FX9_other_75 l0 l1 M) else bnd (h_I M 8 l0 17) (fun x9 => if ((l3 >>> (x9 &&& nI 31)) &&& (nI 1)) = (nI 1) then (gd (h_K M 8 l0) <| bnd (FX9_fails l0 (nI 4) M) (fun q10 => FX9_other_75 l0 l1 q10.2) ()) else (FX9_other_75 l0 l1 M)) ()) else (FX9_other_75 l0 l1 M)) ()) := rfl
set_option maxRecDepth 100000 in
theorem eX9_other_75 (l0 : Nat) (l1 : Int32) (M : Hx) : FX9_other_75 l0 l1 M = (bnd (h_I M 8 l0 12) (fun x11 => if x11 = nI 0 then (bnd (h_I M 8 l0 17) (fun x12 => FX9_other_90 l0 x12 M) ()) else (FX9_other_90 l0 l1 M)) ()) := rfl
set_option maxRecDepth 100000 in
theorem eX9_other_90 (l0 : Nat) (s0 : Int32) (M : Hx) : FX9_other_90 l0 s0 M = (gd (h_K M 8 l0) <| bnd (FX9_step l0 M) (fun q13 => some (s0, q13.2)) ()) := rfl
def FX9_oneHere (l0 : Nat) (M : Hx) : Option (Int32 × Hx) := fX9_oneHere [.ref l0] M
def FX9_oneHere_25 (l1 : Int32) (s0 : Nat) (s1 : Int32) (M : Hx) : Option (Int32 × Hx) := bX9_oneHere_25 [none, some (.int l1)] [.int s1, .ref s0] M
set_option maxRecDepth 100000 in
theorem eX9_oneHere (l0 : Nat) (M : Hx) : FX9_oneHere l0 M = (gd (h_K M 8 l0) <| bnd (FX9_other l0 (nI 0) (nI 4) (nI 0) M) (fun q1 => bnd (h_I q1.2 8 l0 8) (fun x2 => if q1.1 ≤ x2 then (bnd (h_I q1.2 8 l0 8) (fun x3 => FX9_oneHere_25 q1.1 l0 x3 q1.2) ()) else FX9_oneHere_25 q1.1 l0 q1.1 q1.2) ()) ()) := rfl
set_option maxRecDepth 100000 in
theorem eX9_oneHere_25 (l1 : Int32) (s0 : Nat) (s1 : Int32) (M : Hx) : FX9_oneHere_25 l1 s0 s1 M = (bnd (h_P M 8 s0 8 (.int s1)) (fun M4 => some (l1, M4)) ()) := rfl
def FX9_readRota (l0 : Nat) (M : Hx) : Option (Unit × Hx) := fX9_readRota [.ref l0] M
def FX9_readRota_0 (n0 : Nat) (l0 : Nat) (M : Hx) : Option (Unit × Hx) := (o_lp (bX9_readRota_0) n0) [some (.ref l0), none] [] M
def FX9_readRota_58 (n0 : Nat) (l0 : Nat) (l1 : Int32) (s0 : Nat) (M : Hx) : Option (Unit × Hx) := bX9_readRota_58 (o_lp (bX9_readRota_0) n0) [some (.ref l0), some (.int l1)] [.ref s0] M
def FX9_readRota_62 (n0 : Nat) (l0 : Nat) (l1 : Int32) (s0 : Nat) (s1 : Int32) (M : Hx) : Option (Unit × Hx) := bX9_readRota_62 (o_lp (bX9_readRota_0) n0) [some (.ref l0), some (.int l1)] [.int s1, .ref s0] M
def FX9_readRota_88 (n0 : Nat) (l0 : Nat) (s0 : Nat) (s1 : Int32) (s2 : Int32) (M : Hx) : Option (Unit × Hx) := bX9_readRota_88 (o_lp (bX9_readRota_0) n0) [some (.ref l0), none] [.int s2, .int s1, .ref s0] M
def FX9_readRota_102  (M : Hx) : Option (Unit × Hx) := bX9_readRota_102 [none, none] [] M
set_option maxRecDepth 100000 in
theorem eX9_readRota (l0 : Nat) (M : Hx) : FX9_readRota l0 M = (FX9_readRota_0 fu l0 M) := rfl
set_option maxRecDepth 100000 in
theorem eX9_readRota_0 (n0 : Nat) (l0 : Nat) (M : Hx) : FX9_readRota_0 (n0 + 1) l0 M = (bnd (h_I M 8 l0 12) (fun x1 => if x1 = nI 0 then (bnd (h_I M 8 l0 16) (fun x2 => if x2 = (nI 2) then (bnd (h_I M 8 l0 5) (fun x3 => if x3 = (nI 10) then (gd (h_K M 8 l0) <| bnd (FX9_fails l0 (nI 5) M) (fun q6 => FX9_readRota_0 n0 l0 q6.2) ()) else (gd (h_K M 8 l0) <| bnd (FX9_other l0 (nI 0) (nI 5) (nI 0) M) (fun q4 => if (nI 5) ≤ q4.1 then (FX9_readRota_58 n0 l0 q4.1 l0 q4.2) else bnd (h_I q4.2 8 l0 8) (fun x5 => if q4.1 ≤ x5 then (FX9_readRota_58 n0 l0 q4.1 l0 q4.2) else FX9_readRota_62 n0 l0 q4.1 l0 q4.1 q4.2) ()) ())) ()) else (FX9_readRota_102 M)) ()) else (FX9_readRota_102 M)) ()) := rfl
set_option maxRecDepth 100000 in
theorem eX9_readRota_58 (n0 : Nat) (l0 : Nat) (l1 : Int32) (s0 : Nat) (M : Hx) : FX9_readRota_58 n0 l0 l1 s0 M = (bnd (h_I M 8 l0 8) (fun x7 => FX9_readRota_62 n0 l0 l1 s0 x7 M) ()) := rfl
set_option maxRecDepth 100000 in
theorem eX9_readRota_62 (n0 : Nat) (l0 : Nat) (l1 : Int32) (s0 : Nat) (s1 : Int32) (M : Hx) : FX9_readRota_62 n0 l0 l1 s0 s1 M = (bnd (h_P M 8 s0 8 (.int s1)) (fun M8 => bnd (h_R M8 8 l0 3) (fun r9 => bnd (h_I M8 8 l0 5) (fun x10 => if (nI 5) ≤ l1 then (FX9_readRota_88 n0 l0 r9 ((nI 26) + x10) (nI 0) M8) else FX9_readRota_88 n0 l0 r9 ((nI 26) + x10) (l1 + (nI 1)) M8) ()) ()) ()) := rfl
set_option maxRecDepth 100000 in
theorem eX9_readRota_88 (n0 : Nat) (l0 : Nat) (s0 : Nat) (s1 : Int32) (s2 : Int32) (M : Hx) : FX9_readRota_88 n0 l0 s0 s1 s2 M = (bnd (h_S M 0 s0 s1 s2) (fun M11 => bnd (h_I M11 8 l0 5) (fun x12 => bnd (h_P M11 8 l0 5 (.int (x12 + (nI 1)))) (fun M13 => FX9_readRota_0 n0 l0 M13) ()) ()) ()) := rfl
set_option maxRecDepth 100000 in
theorem eX9_readRota_102  (M : Hx) : FX9_readRota_102  M = (some ((), M)) := rfl
def FX9_readTell (l0 : Nat) (M : Hx) : Option (Unit × Hx) := fX9_readTell [.ref l0] M
def FX9_readTell_74 (l0 : Nat) (l1 : Int32) (M : Hx) : Option (Unit × Hx) := bX9_readTell_74 [some (.ref l0), some (.int l1)] [] M
set_option maxRecDepth 100000 in
theorem eX9_readTell (l0 : Nat) (M : Hx) : FX9_readTell l0 M = (bnd (h_R M 8 l0 3) (fun r1 => bnd (h_A M 0 r1 (nI 73)) (fun x2 => bnd (h_R M 8 l0 3) (fun r3 => gd (h_K M 8 l0) <| bnd (FX9_other l0 (nI 0) (nI 9) (nI 0) M) (fun q4 => bnd (h_S q4.2 0 r3 ((nI 57) + ((nI 4) * x2)) q4.1) (fun M5 => bnd (h_R M5 8 l0 3) (fun r6 => gd (h_K M5 8 l0) <| bnd (FX9_oneHere l0 M5) (fun q7 => bnd (h_S q7.2 0 r6 (((nI 57) + ((nI 4) * x2)) + (nI 1)) q7.1) (fun M8 => bnd (h_I M8 8 l0 12) (fun x9 => if x9 = nI 0 then (bnd (h_I M8 8 l0 16) (fun x10 => if x10 = (nI 2) then (bnd (h_I M8 8 l0 17) (fun x11 => bnd (h_R M8 8 l0 3) (fun r12 => bnd (h_A M8 0 r12 (((nI 57) + ((nI 4) * x2)) + (nI 1))) (fun x13 => if x11 = x13 then (gd (h_K M8 8 l0) <| bnd (FX9_fails l0 (nI 3) M8) (fun q14 => FX9_readTell_74 l0 ((nI 57) + ((nI 4) * x2)) q14.2) ()) else (FX9_readTell_74 l0 ((nI 57) + ((nI 4) * x2)) M8)) ()) ()) ()) else (FX9_readTell_74 l0 ((nI 57) + ((nI 4) * x2)) M8)) ()) else (FX9_readTell_74 l0 ((nI 57) + ((nI 4) * x2)) M8)) ()) ()) ()) ()) ()) ()) ()) ()) ()) := rfl
set_option maxRecDepth 100000 in
theorem eX9_readTell_74 (l0 : Nat) (l1 : Int32) (M : Hx) : FX9_readTell_74 l0 l1 M = (bnd (h_R M 8 l0 3) (fun r15 => gd (h_K M 8 l0) <| bnd (FX9_oneHere l0 M) (fun q16 => bnd (h_S q16.2 0 r15 (l1 + (nI 2)) q16.1) (fun M17 => bnd (h_R M17 8 l0 3) (fun r18 => gd (h_K M17 8 l0) <| bnd (FX9_other l0 (nI 0) (nI 2) (nI 0) M17) (fun q19 => bnd (h_S q19.2 0 r18 (l1 + (nI 3)) q19.1) (fun M20 => bnd (h_R M20 8 l0 3) (fun r21 => bnd (h_A M20 0 r21 (nI 73)) (fun x22 => bnd (h_S M20 0 r21 (nI 73) (x22 + (nI 1))) (fun M23 => some ((), M23)) ()) ()) ()) ()) ()) ()) ()) ()) ()) := rfl
def FX9_readWork (l0 : Nat) (M : Hx) : Option (Unit × Hx) := fX9_readWork [.ref l0] M
set_option maxRecDepth 100000 in
theorem eX9_readWork (l0 : Nat) (M : Hx) : FX9_readWork l0 M = (bnd (h_R M 8 l0 3) (fun r1 => bnd (h_A M 0 r1 (nI 56)) (fun x2 => bnd (h_R M 8 l0 3) (fun r3 => gd (h_K M 8 l0) <| bnd (FX9_oneHere l0 M) (fun q4 => bnd (h_S q4.2 0 r3 ((nI 36) + ((nI 4) * x2)) q4.1) (fun M5 => bnd (h_R M5 8 l0 3) (fun r6 => gd (h_K M5 8 l0) <| bnd (FX9_other l0 (nI 0) (nI 9) (nI 0) M5) (fun q7 => bnd (h_S q7.2 0 r6 (((nI 36) + ((nI 4) * x2)) + (nI 1)) q7.1) (fun M8 => bnd (h_R M8 8 l0 3) (fun r9 => bnd (h_R M8 8 l0 3) (fun r10 => bnd (h_A M8 0 r10 (((nI 36) + ((nI 4) * x2)) + (nI 1))) (fun x11 => gd (h_K M8 8 l0) <| bnd (FX9_other l0 x11 (nI 9) (nI 0) M8) (fun q12 => bnd (h_S q12.2 0 r9 (((nI 36) + ((nI 4) * x2)) + (nI 2)) q12.1) (fun M13 => bnd (h_R M13 8 l0 3) (fun r14 => gd (h_K M13 8 l0) <| bnd (FX9_other l0 (nI 1) (nI 9) (nI 0) M13) (fun q15 => bnd (h_S q15.2 0 r14 (((nI 36) + ((nI 4) * x2)) + (nI 3)) q15.1) (fun M16 => bnd (h_R M16 8 l0 3) (fun r17 => bnd (h_A M16 0 r17 (nI 56)) (fun x18 => bnd (h_S M16 0 r17 (nI 56) (x18 + (nI 1))) (fun M19 => some ((), M19)) ()) ()) ()) ()) ()) ()) ()) ()) ()) ()) ()) ()) ()) ()) ()) ()) ()) ()) ()) := rfl
def FX9_readMore (l0 : Nat) (l1 : Int32) (M : Hx) : Option (Unit × Hx) := fX9_readMore [.ref l0, .int l1] M
def FX9_readMore_201  (M : Hx) : Option (Unit × Hx) := bX9_readMore_201 [none, none, none] [] M
set_option maxRecDepth 100000 in
theorem eX9_readMore (l0 : Nat) (l1 : Int32) (M : Hx) : FX9_readMore l0 l1 M = (if (nI 3) < l1 then (if l1 = (nI 4) then (bnd (h_I M 8 l0 7) (fun x18 => gd (h_K M 8 l0) <| bnd (FX9_other l0 (nI 0) (nI 2) x18 M) (fun q19 => bnd (h_I q19.2 8 l0 7) (fun x20 => bnd (h_P q19.2 8 l0 7 (.int (x20 ||| ((nI 1) <<< (q19.1 &&& nI 31))))) (fun M21 => bnd (h_R M21 8 l0 3) (fun r22 => gd (h_K M21 8 l0) <| bnd (FX9_other l0 (nI 0) (nI 9) (nI 0) M21) (fun q23 => bnd (h_S q23.2 0 r22 ((nI 10) + q19.1) q23.1) (fun M24 => FX9_readMore_201 M24) ()) ()) ()) ()) ()) ()) ()) else (if l1 = (nI 5) then (bnd (h_R M 8 l0 3) (fun r4 => bnd (h_A M 0 r4 (nI 25)) (fun x5 => bnd (h_R M 8 l0 3) (fun r6 => gd (h_K M 8 l0) <| bnd (FX9_other l0 (nI 0) (nI 9) (nI 0) M) (fun q7 => bnd (h_S q7.2 0 r6 ((nI 13) + ((nI 3) * x5)) q7.1) (fun M8 => bnd (h_R M8 8 l0 3) (fun r9 => gd (h_K M8 8 l0) <| bnd (FX9_other l0 (nI 0) (nI 2) (nI 0) M8) (fun q10 => bnd (h_S q10.2 0 r9 (((nI 13) + ((nI 3) * x5)) + (nI 1)) q10.1) (fun M11 => bnd (h_R M11 8 l0 3) (fun r12 => gd (h_K M11 8 l0) <| bnd (FX9_other l0 (nI 0) (nI 9) (nI 0) M11) (fun q13 => bnd (h_S q13.2 0 r12 (((nI 13) + ((nI 3) * x5)) + (nI 2)) q13.1) (fun M14 => bnd (h_R M14 8 l0 3) (fun r15 => bnd (h_A M14 0 r15 (nI 25)) (fun x16 => bnd (h_S M14 0 r15 (nI 25) (x16 + (nI 1))) (fun M17 => FX9_readMore_201 M17) ()) ()) ()) ()) ()) ()) ()) ()) ()) ()) ()) ()) ()) ()) else (if l1 = (nI 6) then (gd (h_K M 8 l0) <| bnd (FX9_readRota l0 M) (fun q3 => FX9_readMore_201 q3.2) ()) else (if l1 = (nI 7) then (gd (h_K M 8 l0) <| bnd (FX9_readWork l0 M) (fun q2 => FX9_readMore_201 q2.2) ()) else (gd (h_K M 8 l0) <| bnd (FX9_readTell l0 M) (fun q1 => FX9_readMore_201 q1.2) ()))))) else bnd (h_R M 8 l0 3) (fun r25 => bnd (h_I M 8 l0 4) (fun x26 => bnd (h_S M 0 r25 x26 l1) (fun M27 => bnd (h_R M27 8 l0 3) (fun r28 => bnd (h_I M27 8 l0 4) (fun x29 => gd (h_K M27 8 l0) <| bnd (FX9_other l0 (nI 0) (nI 2) (nI 0) M27) (fun q30 => bnd (h_S q30.2 0 r28 ((nI 5) + x29) q30.1) (fun M31 => bnd (h_I M31 8 l0 4) (fun x32 => bnd (h_P M31 8 l0 4 (.int (x32 + (nI 1)))) (fun M33 => FX9_readMore_201 M33) ()) ()) ()) ()) ()) ()) ()) ()) ()) := rfl
set_option maxRecDepth 100000 in
theorem eX9_readMore_201  (M : Hx) : FX9_readMore_201  M = (some ((), M)) := rfl
def FX9_isFull (l0 : Nat) (l1 : Int32) (M : Hx) : Option (Int32 × Hx) := fX9_isFull [.ref l0, .int l1] M
def FX9_isFull_13 (l0 : Nat) (l1 : Int32) (M : Hx) : Option (Int32 × Hx) := bX9_isFull_13 [some (.ref l0), some (.int l1)] [] M
def FX9_isFull_29 (l0 : Nat) (l1 : Int32) (M : Hx) : Option (Int32 × Hx) := bX9_isFull_29 [some (.ref l0), some (.int l1)] [] M
def FX9_isFull_46 (l0 : Nat) (l1 : Int32) (M : Hx) : Option (Int32 × Hx) := bX9_isFull_46 [some (.ref l0), some (.int l1)] [] M
def FX9_isFull_63  (M : Hx) : Option (Int32 × Hx) := bX9_isFull_63 [none, none] [] M
def FX9_isFull_67  (M : Hx) : Option (Int32 × Hx) := bX9_isFull_67 [none, none] [] M
def FX9_isFull_68 (s0 : Int32) (M : Hx) : Option (Int32 × Hx) := bX9_isFull_68 [none, none] [.int s0] M
set_option maxRecDepth 100000 in
theorem eX9_isFull (l0 : Nat) (l1 : Int32) (M : Hx) : FX9_isFull l0 l1 M = (if (nI 3) < l1 then (FX9_isFull_13 l0 l1 M) else bnd (h_I M 8 l0 4) (fun x1 => if x1 = (nI 5) then (FX9_isFull_63 M) else FX9_isFull_13 l0 l1 M) ()) := rfl
set_option maxRecDepth 100000 in
theorem eX9_isFull_13 (l0 : Nat) (l1 : Int32) (M : Hx) : FX9_isFull_13 l0 l1 M = (if l1 = (nI 5) then (bnd (h_R M 8 l0 3) (fun r2 => bnd (h_A M 0 r2 (nI 25)) (fun x3 => if x3 = (nI 4) then (FX9_isFull_63 M) else FX9_isFull_29 l0 l1 M) ()) ()) else (FX9_isFull_29 l0 l1 M)) := rfl
set_option maxRecDepth 100000 in
theorem eX9_isFull_29 (l0 : Nat) (l1 : Int32) (M : Hx) : FX9_isFull_29 l0 l1 M = (if l1 = (nI 7) then (bnd (h_R M 8 l0 3) (fun r4 => bnd (h_A M 0 r4 (nI 56)) (fun x5 => if x5 = (nI 5) then (FX9_isFull_63 M) else FX9_isFull_46 l0 l1 M) ()) ()) else (FX9_isFull_46 l0 l1 M)) := rfl
set_option maxRecDepth 100000 in
theorem eX9_isFull_46 (l0 : Nat) (l1 : Int32) (M : Hx) : FX9_isFull_46 l0 l1 M = (if l1 = (nI 8) then (bnd (h_R M 8 l0 3) (fun r6 => bnd (h_A M 0 r6 (nI 73)) (fun x7 => if x7 = (nI 4) then (FX9_isFull_63 M) else (FX9_isFull_67 M)) ()) ()) else (FX9_isFull_67 M)) := rfl
set_option maxRecDepth 100000 in
theorem eX9_isFull_63  (M : Hx) : FX9_isFull_63  M = (FX9_isFull_68 (nI 1) M) := rfl
set_option maxRecDepth 100000 in
theorem eX9_isFull_67  (M : Hx) : FX9_isFull_67  M = (FX9_isFull_68 (nI 0) M) := rfl
set_option maxRecDepth 100000 in
theorem eX9_isFull_68 (s0 : Int32) (M : Hx) : FX9_isFull_68 s0 M = (if s0 = nI 0 ∨ s0 = nI 1 then some (s0, M) else none) := rfl
def FX9_readLine (l0 : Nat) (M : Hx) : Option (Unit × Hx) := fX9_readLine [.ref l0] M
def FX9_readLine_36 (l0 : Nat) (l1 : Int32) (M : Hx) : Option (Unit × Hx) := bX9_readLine_36 [some (.ref l0), some (.int l1)] [] M
def FX9_readLine_54 (l0 : Nat) (l1 : Int32) (M : Hx) : Option (Unit × Hx) := bX9_readLine_54 [some (.ref l0), some (.int l1)] [] M
def FX9_readLine_68 (l0 : Nat) (l1 : Int32) (s0 : Nat) (M : Hx) : Option (Unit × Hx) := bX9_readLine_68 [some (.ref l0), some (.int l1)] [.ref s0] M
def FX9_readLine_73 (l0 : Nat) (l1 : Int32) (s0 : Nat) (s1 : Int32) (M : Hx) : Option (Unit × Hx) := bX9_readLine_73 [some (.ref l0), some (.int l1)] [.int s1, .ref s0] M
def FX9_readLine_113 (l0 : Nat) (M : Hx) : Option (Unit × Hx) := bX9_readLine_113 [some (.ref l0), none] [] M
set_option maxRecDepth 100000 in
theorem eX9_readLine (l0 : Nat) (M : Hx) : FX9_readLine l0 M = (gd (h_K M 8 l0) <| bnd (FX9_nameHere l0 M) (fun q1 => bnd (FX9_in q1.1.toInt64 (lN 0) (lN 8) q1.2) (fun q2 => if q2.1 = nI 0 then (gd (h_K q2.2 8 l0) <| bnd (FX9_fails l0 (nI 2) q2.2) (fun q5 => some ((), q5.2)) ()) else (gd (h_K q2.2 8 l0) <| bnd (FX9_isFull l0 q1.1 q2.2) (fun q3 => if q3.1 = nI 0 then (FX9_readLine_36 l0 q1.1 q3.2) else gd (h_K q3.2 8 l0) <| bnd (FX9_fails l0 (nI 5) q3.2) (fun q4 => FX9_readLine_36 l0 q1.1 q4.2) ()) ())) ()) ()) := rfl
set_option maxRecDepth 100000 in
theorem eX9_readLine_36 (l0 : Nat) (l1 : Int32) (M : Hx) : FX9_readLine_36 l0 l1 M = (if l1 = (nI 6) then (bnd (h_I M 8 l0 6) (fun x6 => if x6 = nI 0 then (FX9_readLine_54 l0 l1 M) else gd (h_K M 8 l0) <| bnd (FX9_fails l0 (nI 4) M) (fun q7 => FX9_readLine_54 l0 l1 q7.2) ()) ()) else (FX9_readLine_54 l0 l1 M)) := rfl
set_option maxRecDepth 100000 in
theorem eX9_readLine_54 (l0 : Nat) (l1 : Int32) (M : Hx) : FX9_readLine_54 l0 l1 M = (bnd (h_I M 8 l0 6) (fun x8 => if x8 = nI 0 then (if l1 = (nI 6) then (FX9_readLine_68 l0 l1 l0 M) else (FX9_readLine_73 l0 l1 l0 (nI 0) M)) else (FX9_readLine_68 l0 l1 l0 M)) ()) := rfl
set_option maxRecDepth 100000 in
theorem eX9_readLine_68 (l0 : Nat) (l1 : Int32) (s0 : Nat) (M : Hx) : FX9_readLine_68 l0 l1 s0 M = (FX9_readLine_73 l0 l1 s0 (nI 1) M) := rfl
set_option maxRecDepth 100000 in
theorem eX9_readLine_73 (l0 : Nat) (l1 : Int32) (s0 : Nat) (s1 : Int32) (M : Hx) : FX9_readLine_73 l0 l1 s0 s1 M = (if s1 = nI 0 ∨ s1 = nI 1 then (bnd (h_P M 8 s0 6 (.int s1)) (fun M9 => gd (h_K M9 8 l0) <| bnd (FX9_step l0 M9) (fun q10 => bnd (h_I q10.2 8 l0 12) (fun x11 => if x11 ≤ nI 0 then (gd (h_K q10.2 8 l0) <| bnd (FX9_readMore l0 l1 q10.2) (fun q12 => bnd (h_I q12.2 8 l0 12) (fun x13 => if x13 = nI 0 then (bnd (h_I q12.2 8 l0 16) (fun x14 => if x14 = (nI 3) then (FX9_readLine_113 l0 q12.2) else gd (h_K q12.2 8 l0) <| bnd (FX9_fails l0 (nI 2) q12.2) (fun q15 => FX9_readLine_113 l0 q15.2) ()) ()) else (FX9_readLine_113 l0 q12.2)) ()) ()) else some ((), q10.2)) ()) ()) ()) else none) := rfl
set_option maxRecDepth 100000 in
theorem eX9_readLine_113 (l0 : Nat) (M : Hx) : FX9_readLine_113 l0 M = (gd (h_K M 8 l0) <| bnd (FX9_step l0 M) (fun q16 => some ((), q16.2)) ()) := rfl
def FX9_text (l0 : Nat) (M : Hx) : Option (Int32 × Hx) := fX9_text [.ref l0] M
def FX9_text_39 (n39 : Nat) (l0 : Nat) (l1 : Int32) (l2 : Int32) (M : Hx) : Option (Int32 × Hx) := (o_lp (bX9_text_39) n39) [some (.ref l0), some (.int l1), some (.int l2)] [] M
def FX9_text_62 (n62 : Nat) (l0 : Nat) (l1 : Int32) (M : Hx) : Option (Int32 × Hx) := (o_lp (bX9_text_62) n62) [some (.ref l0), some (.int l1), none] [] M
def FX9_text_86 (l0 : Nat) (l1 : Int32) (M : Hx) : Option (Int32 × Hx) := bX9_text_86 [some (.ref l0), some (.int l1), none] [] M
def FX9_text_110 (l0 : Nat) (l1 : Int32) (M : Hx) : Option (Int32 × Hx) := bX9_text_110 [some (.ref l0), some (.int l1), none] [] M
def FX9_text_140 (n140 : Nat) (l0 : Nat) (l1 : Int32) (l2 : Int32) (M : Hx) : Option (Int32 × Hx) := (o_lp (bX9_text_140) n140) [some (.ref l0), some (.int l1), some (.int l2)] [] M
set_option maxRecDepth 100000 in
theorem eX9_text (l0 : Nat) (M : Hx) : FX9_text l0 M = (bnd (h_P M 8 l0 12 (.int (nI 0))) (fun M1 => bnd (h_P M1 8 l0 14 (.int (nI 0))) (fun M2 => bnd (h_P M2 8 l0 4 (.int (nI 0))) (fun M3 => bnd (h_P M3 8 l0 5 (.int (nI 0))) (fun M4 => if (nI 0) = nI 0 ∨ (nI 0) = nI 1 then (bnd (h_P M4 8 l0 6 (.int (nI 0))) (fun M5 => bnd (h_P M5 8 l0 7 (.int (nI 0))) (fun M6 => bnd (h_P M6 8 l0 8 (.int (mi 1))) (fun M7 => FX9_text_39 fu l0 (nI 0) (nI 0) M7) ()) ()) ()) else none) ()) ()) ()) ()) := rfl
set_option maxRecDepth 100000 in
theorem eX9_text_39 (n39 : Nat) (l0 : Nat) (l1 : Int32) (l2 : Int32) (M : Hx) : FX9_text_39 (n39 + 1) l0 l1 l2 M = (if (nI 74) ≤ l2 then (gd (h_K M 8 l0) <| bnd (FX9_step l0 M) (fun q8 => FX9_text_62 fu l0 l1 q8.2) ()) else bnd (h_R M 8 l0 3) (fun r9 => bnd (h_S M 0 r9 l2 (nI 0)) (fun M10 => FX9_text_39 n39 l0 l1 (l2 + (nI 1)) M10) ()) ()) := rfl
set_option maxRecDepth 100000 in
theorem eX9_text_62 (n62 : Nat) (l0 : Nat) (l1 : Int32) (M : Hx) : FX9_text_62 (n62 + 1) l0 l1 M = (bnd (h_I M 8 l0 12) (fun x11 => if x11 = nI 0 then (bnd (h_I M 8 l0 16) (fun x12 => if x12 = nI 0 then (FX9_text_86 l0 l1 M) else gd (h_K M 8 l0) <| bnd (FX9_readLine l0 M) (fun q13 => FX9_text_62 n62 l0 (l1 + (nI 1)) q13.2) ()) ()) else (FX9_text_86 l0 l1 M)) ()) := rfl
set_option maxRecDepth 100000 in
theorem eX9_text_86 (l0 : Nat) (l1 : Int32) (M : Hx) : FX9_text_86 l0 l1 M = (bnd (h_I M 8 l0 12) (fun x14 => if x14 = nI 0 then (bnd (h_I M 8 l0 8) (fun x15 => bnd (h_I M 8 l0 4) (fun x16 => if x15 < x16 then (FX9_text_110 l0 l1 M) else gd (h_K M 8 l0) <| bnd (FX9_fails l0 (nI 6) M) (fun q17 => FX9_text_110 l0 l1 q17.2) ()) ()) ()) else (FX9_text_110 l0 l1 M)) ()) := rfl
set_option maxRecDepth 100000 in
theorem eX9_text_110 (l0 : Nat) (l1 : Int32) (M : Hx) : FX9_text_110 l0 l1 M = (bnd (h_P M 8 l0 10 (.int (nI 0))) (fun M18 => bnd (h_I M18 8 l0 12) (fun x19 => bnd (h_P M18 8 l0 11 (.int x19)) (fun M20 => bnd (h_I M20 8 l0 12) (fun x21 => if x21 ≤ nI 0 then (FX9_text_140 fu l0 l1 (nI 0) M20) else bnd (h_I M20 8 l0 13) (fun x22 => some (((mi 10) - x22), M20)) ()) ()) ()) ()) ()) := rfl
set_option maxRecDepth 100000 in
theorem eX9_text_140 (n140 : Nat) (l0 : Nat) (l1 : Int32) (l2 : Int32) (M : Hx) : FX9_text_140 (n140 + 1) l0 l1 l2 M = (if (nI 74) ≤ l2 then (bnd (h_I M 8 l0 4) (fun x23 => bnd (h_P M 8 l0 2 (.int x23)) (fun M24 => bnd (h_P M24 8 l0 24 (.int (nI 0))) (fun M25 => bnd (h_R M25 8 l0 27) (fun r26 => if (nI 0) = nI 0 ∨ (nI 0) = nI 1 then (bnd (h_S M25 1 r26 (nI 0) (nI 0)) (fun M27 => bnd (h_R M27 8 l0 27) (fun r28 => if (nI 0) = nI 0 ∨ (nI 0) = nI 1 then (bnd (h_S M27 1 r28 (nI 1) (nI 0)) (fun M29 => some (l1, M29)) ()) else none) ()) ()) else none) ()) ()) ()) ()) else bnd (h_R M 8 l0 0) (fun r30 => bnd (h_R M 8 l0 3) (fun r31 => bnd (h_A M 0 r31 l2) (fun x32 => bnd (h_S M 0 r30 l2 x32) (fun M33 => FX9_text_140 n140 l0 l1 (l2 + (nI 1)) M33) ()) ()) ()) ()) := rfl
def FX9_fault (l0 : Nat) (M : Hx) : Option (Int32 × Hx) := fX9_fault [.ref l0] M
set_option maxRecDepth 100000 in
theorem eX9_fault (l0 : Nat) (M : Hx) : FX9_fault l0 M = (bnd (h_I M 8 l0 11) (fun x1 => some (x1, M)) ()) := rfl
def FX9_isOne (l0 : Nat) (l1 : Int32) (M : Hx) : Option (Int32 × Hx) := fX9_isOne [.ref l0, .int l1] M
set_option maxRecDepth 100000 in
theorem eX9_isOne (l0 : Nat) (l1 : Int32) (M : Hx) : FX9_isOne l0 l1 M = (bnd (h_I M 8 l0 2) (fun x1 => bnd (FX9_in l1.toInt64 (lN 0) (x1 - (nI 1)).toInt64 M) (fun q2 => if q2.1 = nI 0 ∨ q2.1 = nI 1 then some (q2.1, q2.2) else none) ()) ()) := rfl
def FX9_isHour (l0 : Int32) (M : Hx) : Option (Int32 × Hx) := fX9_isHour [.int l0] M
set_option maxRecDepth 100000 in
theorem eX9_isHour (l0 : Int32) (M : Hx) : FX9_isHour l0 M = (bnd (FX9_in l0.toInt64 (lN 0) (lN 9) M) (fun q1 => if q1.1 = nI 0 ∨ q1.1 = nI 1 then some (q1.1, q1.2) else none) ()) := rfl
def FX9_isThing (l0 : Int32) (M : Hx) : Option (Int32 × Hx) := fX9_isThing [.int l0] M
set_option maxRecDepth 100000 in
theorem eX9_isThing (l0 : Int32) (M : Hx) : FX9_isThing l0 M = (bnd (FX9_in l0.toInt64 (lN 0) (lN 2) M) (fun q1 => if q1.1 = nI 0 ∨ q1.1 = nI 1 then some (q1.1, q1.2) else none) ()) := rfl
def FX9_hasIt (l0 : Nat) (l1 : Int32) (M : Hx) : Option (Int32 × Hx) := fX9_hasIt [.ref l0, .int l1] M
set_option maxRecDepth 100000 in
theorem eX9_hasIt (l0 : Nat) (l1 : Int32) (M : Hx) : FX9_hasIt l0 l1 M = (bnd (h_R M 8 l0 0) (fun r1 => bnd (h_A M 0 r1 ((nI 26) + l1)) (fun x2 => some ((x2 - (nI 1)), M)) ()) ()) := rfl
