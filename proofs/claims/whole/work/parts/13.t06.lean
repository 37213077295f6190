def FX9_feed (l0 : Nat) (l1 : Int32) (M : Hx) : Option (Int32 × Hx) := fX9_feed [.ref l0, .int l1] M
set_option maxRecDepth 100000 in
theorem eX9_feed (l0 : Nat) (l1 : Int32) (M : Hx) : FX9_feed l0 l1 M = ((FX9_in l1.toInt64 (0 : Int64) (127 : Int64) M).bind fun q1 => if q1.1 = 0 then (some (((-1) : Int32), q1.2)) else ((h_I q1.2 8 l0 10).bind fun x2 => if x2 = (160 : Int32) then (some (((-3) : Int32), q1.2)) else ((h_R q1.2 8 l0 9).bind fun r3 => (h_I q1.2 8 l0 10).bind fun x4 => (h_S q1.2 0 r3 x4 l1).bind fun M5 => (h_I M5 8 l0 10).bind fun x6 => (h_P M5 8 l0 10 (.int (x6 + (1 : Int32)))).bind fun M7 => (h_I M7 8 l0 10).bind fun x8 => some (x8, M7)))) := rfl
def FX9_end (l0 : Nat) (l1 : Int32) (M : Hx) : Option (Int32 × Hx) := fX9_end [.ref l0, .int l1] M
set_option maxRecDepth 100000 in
theorem eX9_end (l0 : Nat) (l1 : Int32) (M : Hx) : FX9_end l0 l1 M = ((h_I M 8 l0 10).bind fun x1 => (FX9_in l1.toInt64 (0 : Int64) x1.toInt64 M).bind fun q2 => if q2.1 = 0 then (some (((-1) : Int32), q2.2)) else ((h_I q2.2 8 l0 10).bind fun x3 => (h_P q2.2 8 l0 10 (.int l1)).bind fun M4 => some (x3, M4))) := rfl
def FX9_byteAt (l0 : Nat) (l1 : Int32) (M : Hx) : Option (Int32 × Hx) := fX9_byteAt [.ref l0, .int l1] M
def FX9_byteAt_19 (s0 : Int32) (M : Hx) : Option (Int32 × Hx) := bX9_byteAt_19 [none, none] [.int s0] M
set_option maxRecDepth 100000 in
theorem eX9_byteAt (l0 : Nat) (l1 : Int32) (M : Hx) : FX9_byteAt l0 l1 M = ((h_I M 8 l0 10).bind fun x1 => if x1 ≤ l1 then (FX9_byteAt_19 ((-4) : Int32) M) else (h_R M 8 l0 9).bind fun r2 => (h_A M 0 r2 l1).bind fun x3 => FX9_byteAt_19 x3 M) := rfl
set_option maxRecDepth 100000 in
theorem eX9_byteAt_19 (s0 : Int32) (M : Hx) : FX9_byteAt_19 s0 M = (some (s0, M)) := rfl
def FX9_fails (l0 : Nat) (l1 : Int32) (M : Hx) : Option (Unit × Hx) := fX9_fails [.ref l0, .int l1] M
def FX9_fails_20  (M : Hx) : Option (Unit × Hx) := bX9_fails_20 [none, none] [] M
set_option maxRecDepth 100000 in
theorem eX9_fails (l0 : Nat) (l1 : Int32) (M : Hx) : FX9_fails l0 l1 M = ((h_I M 8 l0 12).bind fun x1 => if x1 = 0 then ((h_P M 8 l0 12 (.int l1)).bind fun M2 => (h_I M2 8 l0 15).bind fun x3 => (h_P M2 8 l0 13 (.int x3)).bind fun M4 => FX9_fails_20 M4) else (FX9_fails_20 M)) := rfl
set_option maxRecDepth 100000 in
theorem eX9_fails_20  (M : Hx) : FX9_fails_20  M = (some ((), M)) := rfl
def FX9_nameHere (l0 : Nat) (M : Hx) : Option (Int32 × Hx) := fX9_nameHere [.ref l0] M
def FX9_nameHere_2 (n2 : Nat) (l0 : Nat) (l1 : Int32) (M : Hx) : Option (Int32 × Hx) := (o_lp (bX9_nameHere_2) n2) [some (.ref l0), some (.int l1), none, none] [] M
def FX9_nameHere_48 (n2 : Nat) (l0 : Nat) (l1 : Int32) (s0 : Int32) (M : Hx) : Option (Int32 × Hx) := bX9_nameHere_48 (o_lp (bX9_nameHere_2) n2) [some (.ref l0), some (.int l1), none, none] [.int s0] M
def FX9_nameHere_51 (n2 : Nat) (n51 : Nat) (l0 : Nat) (l1 : Int32) (l2 : Int32) (l3 : Int32) (M : Hx) : Option (Int32 × Hx) := (o_lp (bX9_nameHere_51 (o_lp (bX9_nameHere_2) n2)) n51) [some (.ref l0), some (.int l1), some (.int l2), some (.int l3)] [] M
def FX9_nameHere_99 (n2 : Nat) (n51 : Nat) (l0 : Nat) (l1 : Int32) (l3 : Int32) (s0 : Int32) (M : Hx) : Option (Int32 × Hx) := bX9_nameHere_99 (o_lp (bX9_nameHere_2) n2) (o_lp (bX9_nameHere_51 (o_lp (bX9_nameHere_2) n2)) n51) [some (.ref l0), some (.int l1), none, some (.int l3)] [.int s0] M
def FX9_nameHere_106 (n2 : Nat) (l0 : Nat) (l1 : Int32) (l2 : Int32) (M : Hx) : Option (Int32 × Hx) := bX9_nameHere_106 (o_lp (bX9_nameHere_2) n2) [some (.ref l0), some (.int l1), some (.int l2), none] [] M
def FX9_nameHere_118  (M : Hx) : Option (Int32 × Hx) := bX9_nameHere_118 [none, none, none, none] [] M
set_option maxRecDepth 100000 in
theorem eX9_nameHere (l0 : Nat) (M : Hx) : FX9_nameHere l0 M = (FX9_nameHere_2 fu l0 (0 : Int32) M) := rfl
set_option maxRecDepth 100000 in
theorem eX9_nameHere_2 (n2 : Nat) (l0 : Nat) (l1 : Int32) (M : Hx) : FX9_nameHere_2 (n2 + 1) l0 l1 M = (if (9 : Int32) ≤ l1 then (FX9_nameHere_118 M) else (h_I M 8 l0 16).bind fun x1 => if x1 = (1 : Int32) then ((h_I M 8 l0 14).bind fun x2 => (h_I M 8 l0 15).bind fun x3 => (h_R M 8 l0 18).bind fun r4 => (h_A M 0 r4 (l1 + (1 : Int32))).bind fun x5 => (h_R M 8 l0 18).bind fun r6 => (h_A M 0 r6 l1).bind fun x7 => if (x2 - x3) = (x5 - x7) then (FX9_nameHere_48 n2 l0 l1 (1 : Int32) M) else (FX9_nameHere_48 n2 l0 l1 (0 : Int32) M)) else (FX9_nameHere_118 M)) := rfl
set_option maxRecDepth 100000 in
theorem eX9_nameHere_48 (n2 : Nat) (l0 : Nat) (l1 : Int32) (s0 : Int32) (M : Hx) : FX9_nameHere_48 n2 l0 l1 s0 M = (FX9_nameHere_51 n2 fu l0 l1 s0 (0 : Int32) M) := rfl
set_option maxRecDepth 100000 in
theorem eX9_nameHere_51 (n2 : Nat) (n51 : Nat) (l0 : Nat) (l1 : Int32) (l2 : Int32) (l3 : Int32) (M : Hx) : FX9_nameHere_51 n2 (n51 + 1) l0 l1 l2 l3 M = (if l2 = 0 then (FX9_nameHere_106 n2 l0 l1 l2 M) else (h_I M 8 l0 14).bind fun x8 => (h_I M 8 l0 15).bind fun x9 => if (x8 - x9) ≤ l3 then (FX9_nameHere_106 n2 l0 l1 l2 M) else (h_I M 8 l0 15).bind fun x10 => gd (h_K M 8 l0) <| (FX9_byteAt l0 (x10 + l3) M).bind fun q11 => (h_R q11.2 8 l0 19).bind fun r12 => (h_R q11.2 8 l0 18).bind fun r13 => (h_A q11.2 0 r13 l1).bind fun x14 => (h_A q11.2 0 r12 (x14 + l3)).bind fun x15 => if q11.1 = x15 then (FX9_nameHere_99 n2 n51 l0 l1 l3 (1 : Int32) q11.2) else (FX9_nameHere_99 n2 n51 l0 l1 l3 (0 : Int32) q11.2)) := rfl
set_option maxRecDepth 100000 in
theorem eX9_nameHere_99 (n2 : Nat) (n51 : Nat) (l0 : Nat) (l1 : Int32) (l3 : Int32) (s0 : Int32) (M : Hx) : FX9_nameHere_99 n2 n51 l0 l1 l3 s0 M = (FX9_nameHere_51 n2 n51 l0 l1 s0 (l3 + 1) M) := rfl
set_option maxRecDepth 100000 in
theorem eX9_nameHere_106 (n2 : Nat) (l0 : Nat) (l1 : Int32) (l2 : Int32) (M : Hx) : FX9_nameHere_106 n2 l0 l1 l2 M = (if l2 = 0 then (FX9_nameHere_2 n2 l0 (l1 + 1) M) else some (l1, M)) := rfl
set_option maxRecDepth 100000 in
theorem eX9_nameHere_118  (M : Hx) : FX9_nameHere_118  M = (some (((-4) : Int32), M)) := rfl
def FX9_step (l0 : Nat) (M : Hx) : Option (Unit × Hx) := fX9_step [.ref l0] M
def FX9_step_8 (n8 : Nat) (l0 : Nat) (M : Hx) : Option (Unit × Hx) := (o_lp (bX9_step_8) n8) [some (.ref l0), none] [] M
def FX9_step_84 (n84 : Nat) (l0 : Nat) (M : Hx) : Option (Unit × Hx) := (o_lp (bX9_step_84) n84) [some (.ref l0), none] [] M
def FX9_step_140 (n140 : Nat) (l0 : Nat) (M : Hx) : Option (Unit × Hx) := (o_lp (bX9_step_140) n140) [some (.ref l0), none] [] M
def FX9_step_201 (n140 : Nat) (l0 : Nat) (s0 : Nat) (s1 : Int32) (M : Hx) : Option (Unit × Hx) := bX9_step_201 (o_lp (bX9_step_140) n140) [some (.ref l0), none] [.int s1, .ref s0] M
def FX9_step_269  (M : Hx) : Option (Unit × Hx) := bX9_step_269 [none, none] [] M
set_option maxRecDepth 100000 in
theorem eX9_step (l0 : Nat) (M : Hx) : FX9_step l0 M = ((h_I M 8 l0 12).bind fun x1 => if x1 ≤ 0 then (FX9_step_8 fu l0 M) else some ((), M)) := rfl
set_option maxRecDepth 100000 in
theorem eX9_step_8 (n8 : Nat) (l0 : Nat) (M : Hx) : FX9_step_8 (n8 + 1) l0 M = ((h_I M 8 l0 14).bind fun x2 => gd (h_K M 8 l0) <| (FX9_byteAt l0 x2 M).bind fun q3 => if q3.1 = (32 : Int32) then ((h_I q3.2 8 l0 14).bind fun x16 => (h_P q3.2 8 l0 14 (.int (x16 + (1 : Int32)))).bind fun M17 => FX9_step_8 n8 l0 M17) else ((h_I q3.2 8 l0 14).bind fun x4 => (h_P q3.2 8 l0 15 (.int x4)).bind fun M5 => (h_I M5 8 l0 14).bind fun x6 => gd (h_K M5 8 l0) <| (FX9_byteAt l0 x6 M5).bind fun q7 => (h_P q7.2 8 l0 17 (.int (0 : Int32))).bind fun M8 => if q7.1 = ((-4) : Int32) then ((h_P M8 8 l0 16 (.int (0 : Int32))).bind fun M15 => FX9_step_269 M15) else ((FX9_in q7.1.toInt64 (97 : Int64) (122 : Int64) M8).bind fun q9 => if q9.1 = 0 then ((FX9_in q7.1.toInt64 (48 : Int64) (57 : Int64) q9.2).bind fun q10 => if q10.1 = 0 then ((h_P q10.2 8 l0 16 (.int (3 : Int32))).bind fun M11 => (h_I M11 8 l0 14).bind fun x12 => (h_P M11 8 l0 14 (.int (x12 + (1 : Int32)))).bind fun M13 => if q7.1 = (59 : Int32) then (FX9_step_269 M13) else gd (h_K M13 8 l0) <| (FX9_fails l0 (1 : Int32) M13).bind fun q14 => FX9_step_269 q14.2) else FX9_step_140 fu l0 q10.2) else FX9_step_84 fu l0 q9.2))) := rfl
set_option maxRecDepth 100000 in
theorem eX9_step_84 (n84 : Nat) (l0 : Nat) (M : Hx) : FX9_step_84 (n84 + 1) l0 M = ((h_I M 8 l0 14).bind fun x18 => gd (h_K M 8 l0) <| (FX9_byteAt l0 x18 M).bind fun q19 => (FX9_in q19.1.toInt64 (97 : Int64) (122 : Int64) q19.2).bind fun q20 => if q20.1 = 0 then ((h_P q20.2 8 l0 16 (.int (1 : Int32))).bind fun M21 => FX9_step_269 M21) else (h_I q20.2 8 l0 14).bind fun x22 => (h_P q20.2 8 l0 14 (.int (x22 + (1 : Int32)))).bind fun M23 => FX9_step_84 n84 l0 M23) := rfl
set_option maxRecDepth 100000 in
theorem eX9_step_140 (n140 : Nat) (l0 : Nat) (M : Hx) : FX9_step_140 (n140 + 1) l0 M = ((h_I M 8 l0 14).bind fun x24 => gd (h_K M 8 l0) <| (FX9_byteAt l0 x24 M).bind fun q25 => (FX9_in q25.1.toInt64 (48 : Int64) (57 : Int64) q25.2).bind fun q26 => if q26.1 = 0 then ((h_P q26.2 8 l0 16 (.int (2 : Int32))).bind fun M27 => (h_I M27 8 l0 14).bind fun x28 => (h_I M27 8 l0 15).bind fun x29 => if (x28 - x29) ≤ (2 : Int32) then (FX9_step_269 M27) else gd (h_K M27 8 l0) <| (FX9_fails l0 (1 : Int32) M27).bind fun q30 => FX9_step_269 q30.2) else (h_I q26.2 8 l0 14).bind fun x31 => (h_I q26.2 8 l0 15).bind fun x32 => if (2 : Int32) ≤ (x31 - x32) then ((h_I q26.2 8 l0 17).bind fun x33 => FX9_step_201 n140 l0 l0 x33 q26.2) else (h_I q26.2 8 l0 17).bind fun x34 => (h_I q26.2 8 l0 14).bind fun x35 => gd (h_K q26.2 8 l0) <| (FX9_byteAt l0 x35 q26.2).bind fun q36 => FX9_step_201 n140 l0 l0 ((((10 : Int32) * x34) + q36.1) - (48 : Int32)) q36.2) := rfl
set_option maxRecDepth 100000 in
theorem eX9_step_201 (n140 : Nat) (l0 : Nat) (s0 : Nat) (s1 : Int32) (M : Hx) : FX9_step_201 n140 l0 s0 s1 M = ((h_P M 8 s0 17 (.int s1)).bind fun M37 => (h_I M37 8 l0 14).bind fun x38 => (h_P M37 8 l0 14 (.int (x38 + (1 : Int32)))).bind fun M39 => FX9_step_140 n140 l0 M39) := rfl
set_option maxRecDepth 100000 in
theorem eX9_step_269  (M : Hx) : FX9_step_269  M = (some ((), M)) := rfl
def FX9_other (l0 : Nat) (l1 : Int32) (l2 : Int32) (l3 : Int32) (M : Hx) : Option (Int32 × Hx) := fX9_other [.ref l0, .int l1, .int l2, .int l3] M
def FX9_other_20 (l0 : Nat) (l1 : Int32) (l2 : Int32) (l3 : Int32) (M : Hx) : Option (Int32 × Hx) := bX9_other_20 [some (.ref l0), some (.int l1), some (.int l2), some (.int l3), none] [] M
def FX9_other_47 (l0 : Nat) (l1 : Int32) (l3 : Int32) (M : Hx) : Option (Int32 × Hx) := bX9_other_47 [some (.ref l0), some (.int l1), none, some (.int l3), none] [] M
def FX9_other_75 (l0 : Nat) (l1 : Int32) (M : Hx) : Option (Int32 × Hx) := bX9_other_75 [some (.ref l0), some (.int l1), none, none, none] [] M
def FX9_other_90 (l0 : Nat) (s0 : Int32) (M : Hx) : Option (Int32 × Hx) := bX9_other_90 [some (.ref l0), none, none, none, none] [.int s0] M
set_option maxRecDepth 100000 in
theorem eX9_other (l0 : Nat) (l1 : Int32) (l2 : Int32) (l3 : Int32) (M : Hx) : FX9_other l0 l1 l2 l3 M = ((h_I M 8 l0 12).bind fun x1 => if x1 = 0 then ((h_I M 8 l0 16).bind fun x2 => if x2 = (2 : Int32) then (FX9_other_20 l0 l1 l2 l3 M) else gd (h_K M 8 l0) <| (FX9_fails l0 (2 : Int32) M).bind fun q3 => FX9_other_20 l0 l1 l2 l3 q3.2) else (FX9_other_20 l0 l1 l2 l3 M)) := rfl
set_option maxRecDepth 100000 in
theorem eX9_other_20 (l0 : Nat) (l1 : Int32) (l2 : Int32) (l3 : Int32) (M : Hx) : FX9_other_20 l0 l1 l2 l3 M = ((h_I M 8 l0 12).bind fun x4 => if x4 = 0 then ((h_I M 8 l0 17).bind fun x5 => (FX9_in x5.toInt64 l1.toInt64 l2.toInt64 M).bind fun q6 => if q6.1 = 0 then (gd (h_K q6.2 8 l0) <| (FX9_fails l0 (3 : Int32) q6.2).bind fun q7 => FX9_other_47 l0 l1 l3 q7.2) else (FX9_other_47 l0 l1 l3 q6.2)) else (FX9_other_47 l0 l1 l3 M)) := rfl
set_option maxRecDepth 100000 in
theorem eX9_other_47 (l0 : Nat) (l1 : Int32) (l3 : Int32) (M : Hx) : FX9_other_47 l0 l1 l3 M = ((h_I M 8 l0 12).bind fun x8 => if x8 = 0 then (if l3 = 0 then (FX9_other_75 l0 l1 M) else (h_I M 8 l0 17).bind fun x9 => if ((l3 >>> (x9 &&& 31)) &&& (1 : Int32)) = (1 : Int32) then (gd (h_K M 8 l0) <| (FX9_fails l0 (4 : Int32) M).bind fun q10 => FX9_other_75 l0 l1 q10.2) else (FX9_other_75 l0 l1 M)) else (FX9_other_75 l0 l1 M)) := rfl
set_option maxRecDepth 100000 in
theorem eX9_other_75 (l0 : Nat) (l1 : Int32) (M : Hx) : FX9_other_75 l0 l1 M = ((h_I M 8 l0 12).bind fun x11 => if x11 = 0 then ((h_I M 8 l0 17).bind fun x12 => FX9_other_90 l0 x12 M) else (FX9_other_90 l0 l1 M)) := rfl
set_option maxRecDepth 100000 in
theorem eX9_other_90 (l0 : Nat) (s0 : Int32) (M : Hx) : FX9_other_90 l0 s0 M = (gd (h_K M 8 l0) <| (FX9_step l0 M).bind fun q13 => some (s0, q13.2)) := rfl
def FX9_oneHere (l0 : Nat) (M : Hx) : Option (Int32 × Hx) := fX9_oneHere [.ref l0] M
def FX9_oneHere_25 (l1 : Int32) (s0 : Nat) (s1 : Int32) (M : Hx) : Option (Int32 × Hx) := bX9_oneHere_25 [none, some (.int l1)] [.int s1, .ref s0] M
set_option maxRecDepth 100000 in
theorem eX9_oneHere (l0 : Nat) (M : Hx) : FX9_oneHere l0 M = (gd (h_K M 8 l0) <| (FX9_other l0 (0 : Int32) (4 : Int32) (0 : Int32) M).bind fun q1 => (h_I q1.2 8 l0 8).bind fun x2 => if q1.1 ≤ x2 then ((h_I q1.2 8 l0 8).bind fun x3 => FX9_oneHere_25 q1.1 l0 x3 q1.2) else FX9_oneHere_25 q1.1 l0 q1.1 q1.2) := rfl
set_option maxRecDepth 100000 in
theorem eX9_oneHere_25 (l1 : Int32) (s0 : Nat) (s1 : Int32) (M : Hx) : FX9_oneHere_25 l1 s0 s1 M = ((h_P M 8 s0 8 (.int s1)).bind fun M4 => some (l1, M4)) := rfl
def FX9_readRota (l0 : Nat) (M : Hx) : Option (Unit × Hx) := fX9_readRota [.ref l0] M
def FX9_readRota_0 (n0 : Nat) (l0 : Nat) (M : Hx) : Option (Unit × Hx) := (o_lp (bX9_readRota_0) n0) [some (.ref l0), none] [] M
def FX9_readRota_58 (n0 : Nat) (l0 : Nat) (l1 : Int32) (s0 : Nat) (M : Hx) : Option (Unit × Hx) := bX9_readRota_58 (o_lp (bX9_readRota_0) n0) [some (.ref l0), some (.int l1)] [.ref s0] M
def FX9_readRota_62 (n0 : Nat) (l0 : Nat) (l1 : Int32) (s0 : Nat) (s1 : Int32) (M : Hx) : Option (Unit × Hx) := bX9_readRota_62 (o_lp (bX9_readRota_0) n0) [some (.ref l0), some (.int l1)] [.int s1, .ref s0] M
def FX9_readRota_88 (n0 : Nat) (l0 : Nat) (s0 : Nat) (s1 : Int32) (s2 : Int32) (M : Hx) : Option (Unit × Hx) := bX9_readRota_88 (o_lp (bX9_readRota_0) n0) [some (.ref l0), none] [.int s2, .int s1, .ref s0] M
def FX9_readRota_102  (M : Hx) : Option (Unit × Hx) := bX9_readRota_102 [none, none] [] M
set_option maxRecDepth 100000 in
theorem eX9_readRota (l0 : Nat) (M : Hx) : FX9_readRota l0 M = (FX9_readRota_0 fu l0 M) := rfl
set_option maxRecDepth 100000 in
theorem eX9_readRota_0 (n0 : Nat) (l0 : Nat) (M : Hx) : FX9_readRota_0 (n0 + 1) l0 M = ((h_I M 8 l0 12).bind fun x1 => if x1 = 0 then ((h_I M 8 l0 16).bind fun x2 => if x2 = (2 : Int32) then ((h_I M 8 l0 5).bind fun x3 => if x3 = (10 : Int32) then (gd (h_K M 8 l0) <| (FX9_fails l0 (5 : Int32) M).bind fun q6 => FX9_readRota_0 n0 l0 q6.2) else (gd (h_K M 8 l0) <| (FX9_other l0 (0 : Int32) (5 : Int32) (0 : Int32) M).bind fun q4 => if (5 : Int32) ≤ q4.1 then (FX9_readRota_58 n0 l0 q4.1 l0 q4.2) else (h_I q4.2 8 l0 8).bind fun x5 => if q4.1 ≤ x5 then (FX9_readRota_58 n0 l0 q4.1 l0 q4.2) else FX9_readRota_62 n0 l0 q4.1 l0 q4.1 q4.2)) else (FX9_readRota_102 M)) else (FX9_readRota_102 M)) := rfl
set_option maxRecDepth 100000 in
theorem eX9_readRota_58 (n0 : Nat) (l0 : Nat) (l1 : Int32) (s0 : Nat) (M : Hx) : FX9_readRota_58 n0 l0 l1 s0 M = ((h_I M 8 l0 8).bind fun x7 => FX9_readRota_62 n0 l0 l1 s0 x7 M) := rfl
set_option maxRecDepth 100000 in
theorem eX9_readRota_62 (n0 : Nat) (l0 : Nat) (l1 : Int32) (s0 : Nat) (s1 : Int32) (M : Hx) : FX9_readRota_62 n0 l0 l1 s0 s1 M = ((h_P M 8 s0 8 (.int s1)).bind fun M8 => (h_R M8 8 l0 3).bind fun r9 => (h_I M8 8 l0 5).bind fun x10 => if (5 : Int32) ≤ l1 then (FX9_readRota_88 n0 l0 r9 ((26 : Int32) + x10) (0 : Int32) M8) else FX9_readRota_88 n0 l0 r9 ((26 : Int32) + x10) (l1 + (1 : Int32)) M8) := rfl
set_option maxRecDepth 100000 in
theorem eX9_readRota_88 (n0 : Nat) (l0 : Nat) (s0 : Nat) (s1 : Int32) (s2 : Int32) (M : Hx) : FX9_readRota_88 n0 l0 s0 s1 s2 M = ((h_S M 0 s0 s1 s2).bind fun M11 => (h_I M11 8 l0 5).bind fun x12 => (h_P M11 8 l0 5 (.int (x12 + (1 : Int32)))).bind fun M13 => FX9_readRota_0 n0 l0 M13) := rfl
set_option maxRecDepth 100000 in
theorem eX9_readRota_102  (M : Hx) : FX9_readRota_102  M = (some ((), M)) := rfl
def FX9_readTell (l0 : Nat) (M : Hx) : Option (Unit × Hx) := fX9_readTell [.ref l0] M
def FX9_readTell_74 (l0 : Nat) (l1 : Int32) (M : Hx) : Option (Unit × Hx) := bX9_readTell_74 [some (.ref l0), some (.int l1)] [] M
set_option maxRecDepth 100000 in
theorem eX9_readTell (l0 : Nat) (M : Hx) : FX9_readTell l0 M = ((h_R M 8 l0 3).bind fun r1 => (h_A M 0 r1 (73 : Int32)).bind fun x2 => (h_R M 8 l0 3).bind fun r3 => gd (h_K M 8 l0) <| (FX9_other l0 (0 : Int32) (9 : Int32) (0 : Int32) M).bind fun q4 => (h_S q4.2 0 r3 ((57 : Int32) + ((4 : Int32) * x2)) q4.1).bind fun M5 => (h_R M5 8 l0 3).bind fun r6 => gd (h_K M5 8 l0) <| (FX9_oneHere l0 M5).bind fun q7 => (h_S q7.2 0 r6 (((57 : Int32) + ((4 : Int32) * x2)) + (1 : Int32)) q7.1).bind fun M8 => (h_I M8 8 l0 12).bind fun x9 => if x9 = 0 then ((h_I M8 8 l0 16).bind fun x10 => if x10 = (2 : Int32) then ((h_I M8 8 l0 17).bind fun x11 => (h_R M8 8 l0 3).bind fun r12 => (h_A M8 0 r12 (((57 : Int32) + ((4 : Int32) * x2)) + (1 : Int32))).bind fun x13 => if x11 = x13 then (gd (h_K M8 8 l0) <| (FX9_fails l0 (3 : Int32) M8).bind fun q14 => FX9_readTell_74 l0 ((57 : Int32) + ((4 : Int32) * x2)) q14.2) else (FX9_readTell_74 l0 ((57 : Int32) + ((4 : Int32) * x2)) M8)) else (FX9_readTell_74 l0 ((57 : Int32) + ((4 : Int32) * x2)) M8)) else (FX9_readTell_74 l0 ((57 : Int32) + ((4 : Int32) * x2)) M8)) := rfl
set_option maxRecDepth 100000 in
theorem eX9_readTell_74 (l0 : Nat) (l1 : Int32) (M : Hx) : FX9_readTell_74 l0 l1 M = ((h_R M 8 l0 3).bind fun r15 => gd (h_K M 8 l0) <| (FX9_oneHere l0 M).bind fun q16 => (h_S q16.2 0 r15 (l1 + (2 : Int32)) q16.1).bind fun M17 => (h_R M17 8 l0 3).bind fun r18 => gd (h_K M17 8 l0) <| (FX9_other l0 (0 : Int32) (2 : Int32) (0 : Int32) M17).bind fun q19 => (h_S q19.2 0 r18 (l1 + (3 : Int32)) q19.1).bind fun M20 => (h_R M20 8 l0 3).bind fun r21 => (h_A M20 0 r21 (73 : Int32)).bind fun x22 => (h_S M20 0 r21 (73 : Int32) (x22 + (1 : Int32))).bind fun M23 => some ((), M23)) := rfl
def FX9_readWork (l0 : Nat) (M : Hx) : Option (Unit × Hx) := fX9_readWork [.ref l0] M
set_option maxRecDepth 100000 in
theorem eX9_readWork (l0 : Nat) (M : Hx) : FX9_readWork l0 M = ((h_R M 8 l0 3).bind fun r1 => (h_A M 0 r1 (56 : Int32)).bind fun x2 => (h_R M 8 l0 3).bind fun r3 => gd (h_K M 8 l0) <| (FX9_oneHere l0 M).bind fun q4 => (h_S q4.2 0 r3 ((36 : Int32) + ((4 : Int32) * x2)) q4.1).bind fun M5 => (h_R M5 8 l0 3).bind fun r6 => gd (h_K M5 8 l0) <| (FX9_other l0 (0 : Int32) (9 : Int32) (0 : Int32) M5).bind fun q7 => (h_S q7.2 0 r6 (((36 : Int32) + ((4 : Int32) * x2)) + (1 : Int32)) q7.1).bind fun M8 => (h_R M8 8 l0 3).bind fun r9 => (h_R M8 8 l0 3).bind fun r10 => (h_A M8 0 r10 (((36 : Int32) + ((4 : Int32) * x2)) + (1 : Int32))).bind fun x11 => gd (h_K M8 8 l0) <| (FX9_other l0 x11 (9 : Int32) (0 : Int32) M8).bind fun q12 => (h_S q12.2 0 r9 (((36 : Int32) + ((4 : Int32) * x2)) + (2 : Int32)) q12.1).bind fun M13 => (h_R M13 8 l0 3).bind fun r14 => gd (h_K M13 8 l0) <| (FX9_other l0 (1 : Int32) (9 : Int32) (0 : Int32) M13).bind fun q15 => (h_S q15.2 0 r14 (((36 : Int32) + ((4 : Int32) * x2)) + (3 : Int32)) q15.1).bind fun M16 => (h_R M16 8 l0 3).bind fun r17 => (h_A M16 0 r17 (56 : Int32)).bind fun x18 => (h_S M16 0 r17 (56 : Int32) (x18 + (1 : Int32))).bind fun M19 => some ((), M19)) := rfl
def FX9_readMore (l0 : Nat) (l1 : Int32) (M : Hx) : Option (Unit × Hx) := fX9_readMore [.ref l0, .int l1] M
def FX9_readMore_201  (M : Hx) : Option (Unit × Hx) := bX9_readMore_201 [none, none, none] [] M
set_option maxRecDepth 100000 in
theorem eX9_readMore (l0 : Nat) (l1 : Int32) (M : Hx) : FX9_readMore l0 l1 M = (if (3 : Int32) < l1 then (if l1 = (4 : Int32) then ((h_I M 8 l0 7).bind fun x18 => gd (h_K M 8 l0) <| (FX9_other l0 (0 : Int32) (2 : Int32) x18 M).bind fun q19 => (h_I q19.2 8 l0 7).bind fun x20 => (h_P q19.2 8 l0 7 (.int (x20 ||| ((1 : Int32) <<< (q19.1 &&& 31))))).bind fun M21 => (h_R M21 8 l0 3).bind fun r22 => gd (h_K M21 8 l0) <| (FX9_other l0 (0 : Int32) (9 : Int32) (0 : Int32) M21).bind fun q23 => (h_S q23.2 0 r22 ((10 : Int32) + q19.1) q23.1).bind fun M24 => FX9_readMore_201 M24) else (if l1 = (5 : Int32) then ((h_R M 8 l0 3).bind fun r4 => (h_A M 0 r4 (25 : Int32)).bind fun x5 => (h_R M 8 l0 3).bind fun r6 => gd (h_K M 8 l0) <| (FX9_other l0 (0 : Int32) (9 : Int32) (0 : Int32) M).bind fun q7 => (h_S q7.2 0 r6 ((13 : Int32) + ((3 : Int32) * x5)) q7.1).bind fun M8 => (h_R M8 8 l0 3).bind fun r9 => gd (h_K M8 8 l0) <| (FX9_other l0 (0 : Int32) (2 : Int32) (0 : Int32) M8).bind fun q10 => (h_S q10.2 0 r9 (((13 : Int32) + ((3 : Int32) * x5)) + (1 : Int32)) q10.1).bind fun M11 => (h_R M11 8 l0 3).bind fun r12 => gd (h_K M11 8 l0) <| (FX9_other l0 (0 : Int32) (9 : Int32) (0 : Int32) M11).bind fun q13 => (h_S q13.2 0 r12 (((13 : Int32) + ((3 : Int32) * x5)) + (2 : Int32)) q13.1).bind fun M14 => (h_R M14 8 l0 3).bind fun r15 => (h_A M14 0 r15 (25 : Int32)).bind fun x16 => (h_S M14 0 r15 (25 : Int32) (x16 + (1 : Int32))).bind fun M17 => FX9_readMore_201 M17) else (if l1 = (6 : Int32) then (gd (h_K M 8 l0) <| (FX9_readRota l0 M).bind fun q3 => FX9_readMore_201 q3.2) else (if l1 = (7 : Int32) then (gd (h_K M 8 l0) <| (FX9_readWork l0 M).bind fun q2 => FX9_readMore_201 q2.2) else (gd (h_K M 8 l0) <| (FX9_readTell l0 M).bind fun q1 => FX9_readMore_201 q1.2))))) else (h_R M 8 l0 3).bind fun r25 => (h_I M 8 l0 4).bind fun x26 => (h_S M 0 r25 x26 l1).bind fun M27 => (h_R M27 8 l0 3).bind fun r28 => (h_I M27 8 l0 4).bind fun x29 => gd (h_K M27 8 l0) <| (FX9_other l0 (0 : Int32) (2 : Int32) (0 : Int32) M27).bind fun q30 => (h_S q30.2 0 r28 ((5 : Int32) + x29) q30.1).bind fun M31 => (h_I M31 8 l0 4).bind fun x32 => (h_P M31 8 l0 4 (.int (x32 + (1 : Int32)))).bind fun M33 => FX9_readMore_201 M33) := rfl
set_option maxRecDepth 100000 in
theorem eX9_readMore_201  (M : Hx) : FX9_readMore_201  M = (some ((), M)) := rfl
def FX9_isFull (l0 : Nat) (l1 : Int32) (M : Hx) : Option (Int32 × Hx) := fX9_isFull [.ref l0, .int l1] M
def FX9_isFull_13 (l0 : Nat) (l1 : Int32) (M : Hx) : Option (Int32 × Hx) := bX9_isFull_13 [some (.ref l0), some (.int l1)] [] M
def FX9_isFull_29 (l0 : Nat) (l1 : Int32) (M : Hx) : Option (Int32 × Hx) := bX9_isFull_29 [some (.ref l0), some (.int l1)] [] M
def FX9_isFull_46 (l0 : Nat) (l1 : Int32) (M : Hx) : Option (Int32 × Hx) := bX9_isFull_46 [some (.ref l0), some (.int l1)] [] M
def FX9_isFull_63  (M : Hx) : Option (Int32 × Hx) := bX9_isFull_63 [none, none] [] M
def FX9_isFull_67  (M : Hx) : Option (Int32 × Hx) := bX9_isFull_67 [none, none] [] M
def FX9_isFull_68 (s0 : Int32) (M : Hx) : Option (Int32 × Hx) := bX9_isFull_68 [none, none] [.int s0] M
set_option maxRecDepth 100000 in
theorem eX9_isFull (l0 : Nat) (l1 : Int32) (M : Hx) : FX9_isFull l0 l1 M = (if (3 : Int32) < l1 then (FX9_isFull_13 l0 l1 M) else (h_I M 8 l0 4).bind fun x1 => if x1 = (5 : Int32) then (FX9_isFull_63 M) else FX9_isFull_13 l0 l1 M) := rfl
set_option maxRecDepth 100000 in
theorem eX9_isFull_13 (l0 : Nat) (l1 : Int32) (M : Hx) : FX9_isFull_13 l0 l1 M = (if l1 = (5 : Int32) then ((h_R M 8 l0 3).bind fun r2 => (h_A M 0 r2 (25 : Int32)).bind fun x3 => if x3 = (4 : Int32) then (FX9_isFull_63 M) else FX9_isFull_29 l0 l1 M) else (FX9_isFull_29 l0 l1 M)) := rfl
set_option maxRecDepth 100000 in
theorem eX9_isFull_29 (l0 : Nat) (l1 : Int32) (M : Hx) : FX9_isFull_29 l0 l1 M = (if l1 = (7 : Int32) then ((h_R M 8 l0 3).bind fun r4 => (h_A M 0 r4 (56 : Int32)).bind fun x5 => if x5 = (5 : Int32) then (FX9_isFull_63 M) else FX9_isFull_46 l0 l1 M) else (FX9_isFull_46 l0 l1 M)) := rfl
set_option maxRecDepth 100000 in
theorem eX9_isFull_46 (l0 : Nat) (l1 : Int32) (M : Hx) : FX9_isFull_46 l0 l1 M = (if l1 = (8 : Int32) then ((h_R M 8 l0 3).bind fun r6 => (h_A M 0 r6 (73 : Int32)).bind fun x7 => if x7 = (4 : Int32) then (FX9_isFull_63 M) else (FX9_isFull_67 M)) else (FX9_isFull_67 M)) := rfl
set_option maxRecDepth 100000 in
theorem eX9_isFull_63  (M : Hx) : FX9_isFull_63  M = (FX9_isFull_68 (1 : Int32) M) := rfl
set_option maxRecDepth 100000 in
theorem eX9_isFull_67  (M : Hx) : FX9_isFull_67  M = (FX9_isFull_68 (0 : Int32) M) := rfl
set_option maxRecDepth 100000 in
theorem eX9_isFull_68 (s0 : Int32) (M : Hx) : FX9_isFull_68 s0 M = (if s0 = 0 ∨ s0 = 1 then some (s0, M) else none) := rfl
def FX9_readLine (l0 : Nat) (M : Hx) : Option (Unit × Hx) := fX9_readLine [.ref l0] M
def FX9_readLine_36 (l0 : Nat) (l1 : Int32) (M : Hx) : Option (Unit × Hx) := bX9_readLine_36 [some (.ref l0), some (.int l1)] [] M
def FX9_readLine_54 (l0 : Nat) (l1 : Int32) (M : Hx) : Option (Unit × Hx) := bX9_readLine_54 [some (.ref l0), some (.int l1)] [] M
def FX9_readLine_68 (l0 : Nat) (l1 : Int32) (s0 : Nat) (M : Hx) : Option (Unit × Hx) := bX9_readLine_68 [some (.ref l0), some (.int l1)] [.ref s0] M
def FX9_readLine_73 (l0 : Nat) (l1 : Int32) (s0 : Nat) (s1 : Int32) (M : Hx) : Option (Unit × Hx) := bX9_readLine_73 [some (.ref l0), some (.int l1)] [.int s1, .ref s0] M
def FX9_readLine_113 (l0 : Nat) (M : Hx) : Option (Unit × Hx) := bX9_readLine_113 [some (.ref l0), none] [] M
set_option maxRecDepth 100000 in
theorem eX9_readLine (l0 : Nat) (M : Hx) : FX9_readLine l0 M = (gd (h_K M 8 l0) <| (FX9_nameHere l0 M).bind fun q1 => (FX9_in q1.1.toInt64 (0 : Int64) (8 : Int64) q1.2).bind fun q2 => if q2.1 = 0 then (gd (h_K q2.2 8 l0) <| (FX9_fails l0 (2 : Int32) q2.2).bind fun q5 => some ((), q5.2)) else (gd (h_K q2.2 8 l0) <| (FX9_isFull l0 q1.1 q2.2).bind fun q3 => if q3.1 = 0 then (FX9_readLine_36 l0 q1.1 q3.2) else gd (h_K q3.2 8 l0) <| (FX9_fails l0 (5 : Int32) q3.2).bind fun q4 => FX9_readLine_36 l0 q1.1 q4.2)) := rfl
set_option maxRecDepth 100000 in
theorem eX9_readLine_36 (l0 : Nat) (l1 : Int32) (M : Hx) : FX9_readLine_36 l0 l1 M = (if l1 = (6 : Int32) then ((h_I M 8 l0 6).bind fun x6 => if x6 = 0 then (FX9_readLine_54 l0 l1 M) else gd (h_K M 8 l0) <| (FX9_fails l0 (4 : Int32) M).bind fun q7 => FX9_readLine_54 l0 l1 q7.2) else (FX9_readLine_54 l0 l1 M)) := rfl
set_option maxRecDepth 100000 in
theorem eX9_readLine_54 (l0 : Nat) (l1 : Int32) (M : Hx) : FX9_readLine_54 l0 l1 M = ((h_I M 8 l0 6).bind fun x8 => if x8 = 0 then (if l1 = (6 : Int32) then (FX9_readLine_68 l0 l1 l0 M) else (FX9_readLine_73 l0 l1 l0 (0 : Int32) M)) else (FX9_readLine_68 l0 l1 l0 M)) := rfl
set_option maxRecDepth 100000 in
theorem eX9_readLine_68 (l0 : Nat) (l1 : Int32) (s0 : Nat) (M : Hx) : FX9_readLine_68 l0 l1 s0 M = (FX9_readLine_73 l0 l1 s0 (1 : Int32) M) := rfl
set_option maxRecDepth 100000 in
theorem eX9_readLine_73 (l0 : Nat) (l1 : Int32) (s0 : Nat) (s1 : Int32) (M : Hx) : FX9_readLine_73 l0 l1 s0 s1 M = (if s1 = 0 ∨ s1 = 1 then ((h_P M 8 s0 6 (.int s1)).bind fun M9 => gd (h_K M9 8 l0) <| (FX9_step l0 M9).bind fun q10 => (h_I q10.2 8 l0 12).bind fun x11 => if x11 ≤ 0 then (gd (h_K q10.2 8 l0) <| (FX9_readMore l0 l1 q10.2).bind fun q12 => (h_I q12.2 8 l0 12).bind fun x13 => if x13 = 0 then ((h_I q12.2 8 l0 16).bind fun x14 => if x14 = (3 : Int32) then (FX9_readLine_113 l0 q12.2) else gd (h_K q12.2 8 l0) <| (FX9_fails l0 (2 : Int32) q12.2).bind fun q15 => FX9_readLine_113 l0 q15.2) else (FX9_readLine_113 l0 q12.2)) else some ((), q10.2)) else none) := rfl
set_option maxRecDepth 100000 in
theorem eX9_readLine_113 (l0 : Nat) (M : Hx) : FX9_readLine_113 l0 M = (gd (h_K M 8 l0) <| (FX9_step l0 M).bind fun q16 => some ((), q16.2)) := rfl
def FX9_text (l0 : Nat) (M : Hx) : Option (Int32 × Hx) := fX9_text [.ref l0] M
def FX9_text_39 (n39 : Nat) (l0 : Nat) (l1 : Int32) (l2 : Int32) (M : Hx) : Option (Int32 × Hx) := (o_lp (bX9_text_39) n39) [some (.ref l0), some (.int l1), some (.int l2)] [] M
def FX9_text_62 (n62 : Nat) (l0 : Nat) (l1 : Int32) (M : Hx) : Option (Int32 × Hx) := (o_lp (bX9_text_62) n62) [some (.ref l0), some (.int l1), none] [] M
def FX9_text_86 (l0 : Nat) (l1 : Int32) (M : Hx) : Option (Int32 × Hx) := bX9_text_86 [some (.ref l0), some (.int l1), none] [] M
def FX9_text_110 (l0 : Nat) (l1 : Int32) (M : Hx) : Option (Int32 × Hx) := bX9_text_110 [some (.ref l0), some (.int l1), none] [] M
def FX9_text_140 (n140 : Nat) (l0 : Nat) (l1 : Int32) (l2 : Int32) (M : Hx) : Option (Int32 × Hx) := (o_lp (bX9_text_140) n140) [some (.ref l0), some (.int l1), some (.int l2)] [] M
set_option maxRecDepth 100000 in
theorem eX9_text (l0 : Nat) (M : Hx) : FX9_text l0 M = ((h_P M 8 l0 12 (.int (0 : Int32))).bind fun M1 => (h_P M1 8 l0 14 (.int (0 : Int32))).bind fun M2 => (h_P M2 8 l0 4 (.int (0 : Int32))).bind fun M3 => (h_P M3 8 l0 5 (.int (0 : Int32))).bind fun M4 => if (0 : Int32) = 0 ∨ (0 : Int32) = 1 then ((h_P M4 8 l0 6 (.int (0 : Int32))).bind fun M5 => (h_P M5 8 l0 7 (.int (0 : Int32))).bind fun M6 => (h_P M6 8 l0 8 (.int ((-1) : Int32))).bind fun M7 => FX9_text_39 fu l0 (0 : Int32) (0 : Int32) M7) else none) := rfl
set_option maxRecDepth 100000 in
theorem eX9_text_39 (n39 : Nat) (l0 : Nat) (l1 : Int32) (l2 : Int32) (M : Hx) : FX9_text_39 (n39 + 1) l0 l1 l2 M = (if (74 : Int32) ≤ l2 then (gd (h_K M 8 l0) <| (FX9_step l0 M).bind fun q8 => FX9_text_62 fu l0 l1 q8.2) else (h_R M 8 l0 3).bind fun r9 => (h_S M 0 r9 l2 (0 : Int32)).bind fun M10 => FX9_text_39 n39 l0 l1 (l2 + 1) M10) := rfl
set_option maxRecDepth 100000 in
theorem eX9_text_62 (n62 : Nat) (l0 : Nat) (l1 : Int32) (M : Hx) : FX9_text_62 (n62 + 1) l0 l1 M = ((h_I M 8 l0 12).bind fun x11 => if x11 = 0 then ((h_I M 8 l0 16).bind fun x12 => if x12 = 0 then (FX9_text_86 l0 l1 M) else gd (h_K M 8 l0) <| (FX9_readLine l0 M).bind fun q13 => FX9_text_62 n62 l0 (l1 + 1) q13.2) else (FX9_text_86 l0 l1 M)) := rfl
set_option maxRecDepth 100000 in
theorem eX9_text_86 (l0 : Nat) (l1 : Int32) (M : Hx) : FX9_text_86 l0 l1 M = ((h_I M 8 l0 12).bind fun x14 => if x14 = 0 then ((h_I M 8 l0 8).bind fun x15 => (h_I M 8 l0 4).bind fun x16 => if x15 < x16 then (FX9_text_110 l0 l1 M) else gd (h_K M 8 l0) <| (FX9_fails l0 (6 : Int32) M).bind fun q17 => FX9_text_110 l0 l1 q17.2) else (FX9_text_110 l0 l1 M)) := rfl
set_option maxRecDepth 100000 in
theorem eX9_text_110 (l0 : Nat) (l1 : Int32) (M : Hx) : FX9_text_110 l0 l1 M = ((h_P M 8 l0 10 (.int (0 : Int32))).bind fun M18 => (h_I M18 8 l0 12).bind fun x19 => (h_P M18 8 l0 11 (.int x19)).bind fun M20 => (h_I M20 8 l0 12).bind fun x21 => if x21 ≤ 0 then (FX9_text_140 fu l0 l1 (0 : Int32) M20) else (h_I M20 8 l0 13).bind fun x22 => some ((((-10) : Int32) - x22), M20)) := rfl
set_option maxRecDepth 100000 in
theorem eX9_text_140 (n140 : Nat) (l0 : Nat) (l1 : Int32) (l2 : Int32) (M : Hx) : FX9_text_140 (n140 + 1) l0 l1 l2 M = (if (74 : Int32) ≤ l2 then ((h_I M 8 l0 4).bind fun x23 => (h_P M 8 l0 2 (.int x23)).bind fun M24 => (h_P M24 8 l0 24 (.int (0 : Int32))).bind fun M25 => (h_R M25 8 l0 27).bind fun r26 => if (0 : Int32) = 0 ∨ (0 : Int32) = 1 then ((h_S M25 1 r26 (0 : Int32) (0 : Int32)).bind fun M27 => (h_R M27 8 l0 27).bind fun r28 => if (0 : Int32) = 0 ∨ (0 : Int32) = 1 then ((h_S M27 1 r28 (1 : Int32) (0 : Int32)).bind fun M29 => some (l1, M29)) else none) else none) else (h_R M 8 l0 0).bind fun r30 => (h_R M 8 l0 3).bind fun r31 => (h_A M 0 r31 l2).bind fun x32 => (h_S M 0 r30 l2 x32).bind fun M33 => FX9_text_140 n140 l0 l1 (l2 + 1) M33) := rfl
def FX9_fault (l0 : Nat) (M : Hx) : Option (Int32 × Hx) := fX9_fault [.ref l0] M
set_option maxRecDepth 100000 in
theorem eX9_fault (l0 : Nat) (M : Hx) : FX9_fault l0 M = ((h_I M 8 l0 11).bind fun x1 => some (x1, M)) := rfl
def FX9_isOne (l0 : Nat) (l1 : Int32) (M : Hx) : Option (Int32 × Hx) := fX9_isOne [.ref l0, .int l1] M
set_option maxRecDepth 100000 in
theorem eX9_isOne (l0 : Nat) (l1 : Int32) (M : Hx) : FX9_isOne l0 l1 M = ((h_I M 8 l0 2).bind fun x1 => (FX9_in l1.toInt64 (0 : Int64) (x1 - (1 : Int32)).toInt64 M).bind fun q2 => if q2.1 = 0 ∨ q2.1 = 1 then some (q2.1, q2.2) else none) := rfl
def FX9_isHour (l0 : Int32) (M : Hx) : Option (Int32 × Hx) := fX9_isHour [.int l0] M
set_option maxRecDepth 100000 in
theorem eX9_isHour (l0 : Int32) (M : Hx) : FX9_isHour l0 M = ((FX9_in l0.toInt64 (0 : Int64) (9 : Int64) M).bind fun q1 => if q1.1 = 0 ∨ q1.1 = 1 then some (q1.1, q1.2) else none) := rfl
def FX9_isThing (l0 : Int32) (M : Hx) : Option (Int32 × Hx) := fX9_isThing [.int l0] M
set_option maxRecDepth 100000 in
theorem eX9_isThing (l0 : Int32) (M : Hx) : FX9_isThing l0 M = ((FX9_in l0.toInt64 (0 : Int64) (2 : Int64) M).bind fun q1 => if q1.1 = 0 ∨ q1.1 = 1 then some (q1.1, q1.2) else none) := rfl
def FX9_hasIt (l0 : Nat) (l1 : Int32) (M : Hx) : Option (Int32 × Hx) := fX9_hasIt [.ref l0, .int l1] M
set_option maxRecDepth 100000 in
theorem eX9_hasIt (l0 : Nat) (l1 : Int32) (M : Hx) : FX9_hasIt l0 l1 M = ((h_R M 8 l0 0).bind fun r1 => (h_A M 0 r1 ((26 : Int32) + l1)).bind fun x2 => some ((x2 - (1 : Int32)), M)) := rfl
