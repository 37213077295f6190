def FX8_feed (l0 : Nat) (l1 : Int32) (M : Hx) : Option (Int32 × Hx) := fX8_feed [.ref l0, .int l1] M
def FX8_feed_10  (M : Hx) : Option (Int32 × Hx) := bX8_feed_10 [none, none] [] M
set_option maxRecDepth 100000 in
theorem eX8_feed (l0 : Nat) (l1 : Int32) (M : Hx) : FX8_feed l0 l1 M = (if l1 < nI 0 then (FX8_feed_10 M) else if l1 ≤ (nI 127) then (bnd (h_R M 7 l0 4) (fun r1 => gd (h_K M 5 r1) <| bnd (FX6_add r1 l1 (nI 0) (nI 0) (nI 0) M) (fun q2 => some (q2.1, q2.2)) ()) ()) else FX8_feed_10 M) := rfl
set_option maxRecDepth 100000 in
theorem eX8_feed_10  (M : Hx) : FX8_feed_10  M = (some ((mi 1), M)) := rfl
def FX8_end (l0 : Nat) (l1 : Int32) (M : Hx) : Option (Int32 × Hx) := fX8_end [.ref l0, .int l1] M
set_option maxRecDepth 100000 in
theorem eX8_end (l0 : Nat) (l1 : Int32) (M : Hx) : FX8_end l0 l1 M = (bnd (h_R M 7 l0 4) (fun r1 => gd (h_K M 5 r1) <| bnd (FX6_cutTo r1 l1 M) (fun q2 => some (q2.1, q2.2)) ()) ()) := rfl
def FX8_text (l0 : Nat) (M : Hx) : Option (Int32 × Hx) := fX8_text [.ref l0] M
def FX8_text_70 (n70 : Nat) (l0 : Nat) (l1 : Int32) (M : Hx) : Option (Int32 × Hx) := (o_lp (bX8_text_70) n70) [some (.ref l0), some (.int l1)] [] M
set_option maxRecDepth 100000 in
theorem eX8_text (l0 : Nat) (M : Hx) : FX8_text l0 M = (bnd (h_R M 7 l0 5) (fun r1 => gd (h_K M 4 r1) <| bnd (FX5_readTape r1 M) (fun q2 => bnd (h_R q2.2 7 l0 4) (fun r3 => gd (h_K q2.2 5 r3) <| bnd (FX6_cutTo r3 (nI 0) q2.2) (fun q4 => bnd (h_R q4.2 7 l0 5) (fun r5 => bnd (h_I q4.2 4 r5 3) (fun x6 => bnd (h_P q4.2 7 l0 12 (.int x6)) (fun M7 => bnd (h_I M7 7 l0 12) (fun x8 => if x8 = nI 0 then (bnd (h_R M7 7 l0 0) (fun r9 => bnd (h_R M7 7 l0 5) (fun r10 => bnd (h_R M7 4 r10 0) (fun r11 => gd (h_K M7 1 r9) <| bnd (FX1_copyFrom r9 r11 M7) (fun q12 => bnd (h_R q12.2 7 l0 3) (fun r13 => gd (h_K q12.2 5 r13) <| bnd (FX6_cutTo r13 (nI 0) q12.2) (fun q14 => FX8_text_70 fu l0 (nI 0) q14.2) ()) ()) ()) ()) ()) ()) else bnd (h_R M7 7 l0 5) (fun r15 => bnd (h_I M7 4 r15 4) (fun x16 => some (((mi 10) - x16), M7)) ()) ()) ()) ()) ()) ()) ()) ()) ()) ()) := rfl
set_option maxRecDepth 100000 in
theorem eX8_text_70 (n70 : Nat) (l0 : Nat) (l1 : Int32) (M : Hx) : FX8_text_70 (n70 + 1) l0 l1 M = (if (nI 2) ≤ l1 then (bnd (h_R M 7 l0 5) (fun r17 => bnd (h_I M 4 r17 2) (fun x18 => some (x18, M)) ()) ()) else bnd (h_R M 7 l0 2) (fun r19 => if (nI 0) = nI 0 ∨ (nI 0) = nI 1 then (bnd (h_S M 1 r19 l1 (nI 0)) (fun M20 => FX8_text_70 n70 l0 (l1 + (nI 1)) M20) ()) else none) ()) := rfl
def FX8_fault (l0 : Nat) (M : Hx) : Option (Int32 × Hx) := fX8_fault [.ref l0] M
set_option maxRecDepth 100000 in
theorem eX8_fault (l0 : Nat) (M : Hx) : FX8_fault l0 M = (bnd (h_I M 7 l0 12) (fun x1 => some (x1, M)) ()) := rfl
def FX8_rule (l0 : Nat) (l1 : Int32) (M : Hx) : Option (Int32 × Hx) := fX8_rule [.ref l0, .int l1] M
set_option maxRecDepth 100000 in
theorem eX8_rule (l0 : Nat) (l1 : Int32) (M : Hx) : FX8_rule l0 l1 M = (if l1 = (nI 0) then (bnd (h_R M 7 l0 0) (fun r1 => bnd (h_R M 1 r1 0) (fun r2 => bnd (h_I M 5 r2 3) (fun x3 => some (x3, M)) ()) ()) ()) else if l1 = (nI 1) then (bnd (h_R M 7 l0 0) (fun r4 => bnd (h_R M 1 r4 1) (fun r5 => bnd (h_I M 5 r5 3) (fun x6 => some (x6, M)) ()) ()) ()) else if l1 = (nI 2) then (bnd (h_R M 7 l0 0) (fun r7 => bnd (h_R M 1 r7 2) (fun r8 => bnd (h_I M 5 r8 3) (fun x9 => some (x9, M)) ()) ()) ()) else if l1 = (nI 3) then (bnd (h_R M 7 l0 0) (fun r10 => bnd (h_R M 1 r10 3) (fun r11 => bnd (h_I M 5 r11 3) (fun x12 => some (x12, M)) ()) ()) ()) else if l1 = (nI 4) then (bnd (h_R M 7 l0 0) (fun r13 => gd (h_K M 1 r13) <| bnd (FX1_hoursHeld r13 M) (fun q14 => some (q14.1, q14.2)) ()) ()) else if l1 = (nI 5) then (bnd (h_R M 7 l0 7) (fun r15 => bnd (h_R M 7 l0 0) (fun r16 => bnd (h_R M 7 l0 0) (fun r17 => bnd (h_R M 1 r17 5) (fun r18 => gd (h_K M 6 r15) <| bnd (FX7_look r15 r16 r18 M) (fun q19 => bnd (h_R q19.2 7 l0 7) (fun r20 => gd (h_K q19.2 6 r20) <| bnd (FX7_hoursSeen r20 q19.2) (fun q21 => some (q21.1, q21.2)) ()) ()) ()) ()) ()) ()) ()) else some ((mi 1), M)) := rfl
def FX8_one (l0 : Nat) (l1 : Int32) (l2 : Int32) (M : Hx) : Option (Int32 × Hx) := fX8_one [.ref l0, .int l1, .int l2] M
set_option maxRecDepth 100000 in
theorem eX8_one (l0 : Nat) (l1 : Int32) (l2 : Int32) (M : Hx) : FX8_one l0 l1 l2 M = (bnd (h_R M 7 l0 0) (fun r1 => gd (h_K M 1 r1) <| bnd (FX1_isOne r1 l1 M) (fun q2 => if q2.1 = nI 0 then (some ((mi 1), q2.2)) else (if l2 = (nI 0) then (bnd (h_R q2.2 7 l0 0) (fun r3 => gd (h_K q2.2 1 r3) <| bnd (FX1_kindOf r3 l1 q2.2) (fun q4 => some (q4.1, q4.2)) ()) ()) else if l2 = (nI 1) then (bnd (h_R q2.2 7 l0 0) (fun r5 => gd (h_K q2.2 1 r5) <| bnd (FX1_postOf r5 l1 q2.2) (fun q6 => some (q6.1, q6.2)) ()) ()) else if l2 = (nI 2) then (bnd (h_R q2.2 7 l0 0) (fun r7 => gd (h_K q2.2 1 r7) <| bnd (FX1_keepsOf r7 l1 q2.2) (fun q8 => some (q8.1, q8.2)) ()) ()) else if l2 = (nI 3) then (bnd (h_R q2.2 7 l0 0) (fun r9 => gd (h_K q2.2 1 r9) <| bnd (FX1_hoursHeldBy r9 l1 q2.2) (fun q10 => some (q10.1, q10.2)) ()) ()) else if l2 = (nI 4) then (bnd (h_R q2.2 7 l0 7) (fun r11 => bnd (h_R q2.2 7 l0 0) (fun r12 => bnd (h_R q2.2 7 l0 0) (fun r13 => bnd (h_R q2.2 1 r13 5) (fun r14 => gd (h_K q2.2 6 r11) <| bnd (FX7_look r11 r12 r14 q2.2) (fun q15 => bnd (h_R q15.2 7 l0 7) (fun r16 => gd (h_K q15.2 6 r16) <| bnd (FX7_hoursOf r16 l1 q15.2) (fun q17 => some (q17.1, q17.2)) ()) ()) ()) ()) ()) ()) ()) else some ((mi 1), q2.2))) ()) ()) := rfl
def FX8_isThing (l0 : Int32) (M : Hx) : Option (Int32 × Hx) := fX8_isThing [.int l0] M
def FX8_isThing_13  (M : Hx) : Option (Int32 × Hx) := bX8_isThing_13 [none] [] M
def FX8_isThing_14 (s0 : Int32) (M : Hx) : Option (Int32 × Hx) := bX8_isThing_14 [none] [.int s0] M
set_option maxRecDepth 100000 in
theorem eX8_isThing (l0 : Int32) (M : Hx) : FX8_isThing l0 M = (if l0 < nI 0 then (FX8_isThing_13 M) else if (nI 3) ≤ l0 then (FX8_isThing_13 M) else FX8_isThing_14 (nI 1) M) := rfl
set_option maxRecDepth 100000 in
theorem eX8_isThing_13  (M : Hx) : FX8_isThing_13  M = (FX8_isThing_14 (nI 0) M) := rfl
set_option maxRecDepth 100000 in
theorem eX8_isThing_14 (s0 : Int32) (M : Hx) : FX8_isThing_14 s0 M = (if s0 = nI 0 ∨ s0 = nI 1 then some (s0, M) else none) := rfl
def FX8_isHour (l0 : Int32) (M : Hx) : Option (Int32 × Hx) := fX8_isHour [.int l0] M
def FX8_isHour_14  (M : Hx) : Option (Int32 × Hx) := bX8_isHour_14 [none] [] M
def FX8_isHour_15 (s0 : Int32) (M : Hx) : Option (Int32 × Hx) := bX8_isHour_15 [none] [.int s0] M
set_option maxRecDepth 100000 in
theorem eX8_isHour (l0 : Int32) (M : Hx) : FX8_isHour l0 M = (if l0 < nI 0 then (FX8_isHour_14 M) else if (nI 10) ≤ l0 then (FX8_isHour_14 M) else FX8_isHour_15 (nI 1) M) := rfl
set_option maxRecDepth 100000 in
theorem eX8_isHour_14  (M : Hx) : FX8_isHour_14  M = (FX8_isHour_15 (nI 0) M) := rfl
set_option maxRecDepth 100000 in
theorem eX8_isHour_15 (s0 : Int32) (M : Hx) : FX8_isHour_15 s0 M = (if s0 = nI 0 ∨ s0 = nI 1 then some (s0, M) else none) := rfl
def FX8_thing (l0 : Nat) (l1 : Int32) (l2 : Int32) (M : Hx) : Option (Int32 × Hx) := fX8_thing [.ref l0, .int l1, .int l2] M
def FX8_thing_20  (M : Hx) : Option (Int32 × Hx) := bX8_thing_20 [none, none, none] [] M
def FX8_thing_22 (l0 : Nat) (l1 : Int32) (l2 : Int32) (M : Hx) : Option (Int32 × Hx) := bX8_thing_22 [some (.ref l0), some (.int l1), some (.int l2)] [] M
set_option maxRecDepth 100000 in
theorem eX8_thing (l0 : Nat) (l1 : Int32) (l2 : Int32) (M : Hx) : FX8_thing l0 l1 l2 M = (bnd (FX8_isThing l1 M) (fun q1 => if q1.1 = nI 0 then (FX8_thing_20 q1.2) else if l2 = (mi 4) then (FX8_thing_22 l0 l1 l2 q1.2) else bnd (FX8_isHour l2 q1.2) (fun q2 => if q2.1 = nI 0 then (FX8_thing_20 q2.2) else (FX8_thing_22 l0 l1 l2 q2.2)) ()) ()) := rfl
set_option maxRecDepth 100000 in
theorem eX8_thing_20  (M : Hx) : FX8_thing_20  M = (some ((mi 1), M)) := rfl
set_option maxRecDepth 100000 in
theorem eX8_thing_22 (l0 : Nat) (l1 : Int32) (l2 : Int32) (M : Hx) : FX8_thing_22 l0 l1 l2 M = (bnd (h_R M 7 l0 0) (fun r3 => gd (h_K M 1 r3) <| bnd (FX1_valueBehind r3 l1 l2 M) (fun q4 => some (q4.1, q4.2)) ()) ()) := rfl
def FX8_rota (l0 : Nat) (l1 : Int32) (M : Hx) : Option (Int32 × Hx) := fX8_rota [.ref l0, .int l1] M
def FX8_rota_20 (s0 : Int32) (M : Hx) : Option (Int32 × Hx) := bX8_rota_20 [none, none] [.int s0] M
set_option maxRecDepth 100000 in
theorem eX8_rota (l0 : Nat) (l1 : Int32) (M : Hx) : FX8_rota l0 l1 M = (bnd (FX8_isHour l1 M) (fun q1 => if q1.1 = nI 0 then (FX8_rota_20 (mi 1) q1.2) else bnd (h_R q1.2 7 l0 0) (fun r2 => bnd (h_R q1.2 1 r2 5) (fun r3 => bnd (h_A q1.2 0 r3 l1) (fun x4 => FX8_rota_20 x4 q1.2) ()) ()) ()) ()) := rfl
set_option maxRecDepth 100000 in
theorem eX8_rota_20 (s0 : Int32) (M : Hx) : FX8_rota_20 s0 M = (some (s0, M)) := rfl
def FX8_turn (l0 : Nat) (l1 : Int32) (l2 : Int32) (M : Hx) : Option (Int32 × Hx) := fX8_turn [.ref l0, .int l1, .int l2] M
set_option maxRecDepth 100000 in
theorem eX8_turn (l0 : Nat) (l1 : Int32) (l2 : Int32) (M : Hx) : FX8_turn l0 l1 l2 M = (bnd (h_R M 7 l0 0) (fun r1 => bnd (h_R M 1 r1 1) (fun r2 => gd (h_K M 5 r2) <| bnd (FX6_at r2 l1 l2 M) (fun q3 => some (q3.1, q3.2)) ()) ()) ()) := rfl
def FX8_work (l0 : Nat) (l1 : Int32) (l2 : Int32) (M : Hx) : Option (Int32 × Hx) := fX8_work [.ref l0, .int l1, .int l2] M
def FX8_work_72 (s0 : Int32) (M : Hx) : Option (Int32 × Hx) := bX8_work_72 [none, none, none] [.int s0] M
set_option maxRecDepth 100000 in
theorem eX8_work (l0 : Nat) (l1 : Int32) (l2 : Int32) (M : Hx) : FX8_work l0 l1 l2 M = (if l2 = (nI 4) then (bnd (h_R M 7 l0 0) (fun r1 => bnd (h_R M 1 r1 2) (fun r2 => gd (h_K M 5 r2) <| bnd (FX6_has r2 l1 M) (fun q3 => if q3.1 = nI 0 then (some ((mi 1), q3.2)) else (bnd (h_R q3.2 7 l0 7) (fun r4 => bnd (h_R q3.2 7 l0 0) (fun r5 => bnd (h_R q3.2 7 l0 0) (fun r6 => bnd (h_R q3.2 1 r6 5) (fun r7 => gd (h_K q3.2 6 r4) <| bnd (FX7_look r4 r5 r7 q3.2) (fun q8 => bnd (h_R q8.2 7 l0 7) (fun r9 => bnd (h_R q8.2 7 l0 0) (fun r10 => gd (h_K q8.2 6 r9) <| bnd (FX7_isDone r9 r10 l1 q8.2) (fun q11 => if q11.1 = nI 0 then (FX8_work_72 (nI 0) q11.2) else FX8_work_72 (nI 1) q11.2) ()) ()) ()) ()) ()) ()) ()) ())) ()) ()) ()) else bnd (h_R M 7 l0 0) (fun r12 => bnd (h_R M 1 r12 2) (fun r13 => gd (h_K M 5 r13) <| bnd (FX6_at r13 l1 l2 M) (fun q14 => some (q14.1, q14.2)) ()) ()) ()) := rfl
set_option maxRecDepth 100000 in
theorem eX8_work_72 (s0 : Int32) (M : Hx) : FX8_work_72 s0 M = (some (s0, M)) := rfl
def FX8_telling (l0 : Nat) (l1 : Int32) (l2 : Int32) (M : Hx) : Option (Int32 × Hx) := fX8_telling [.ref l0, .int l1, .int l2] M
set_option maxRecDepth 100000 in
theorem eX8_telling (l0 : Nat) (l1 : Int32) (l2 : Int32) (M : Hx) : FX8_telling l0 l1 l2 M = (bnd (h_R M 7 l0 0) (fun r1 => bnd (h_R M 1 r1 3) (fun r2 => gd (h_K M 5 r2) <| bnd (FX6_at r2 l1 l2 M) (fun q3 => some (q3.1, q3.2)) ()) ()) ()) := rfl
def FX8_isFlag (l0 : Int32) (M : Hx) : Option (Int32 × Hx) := fX8_isFlag [.int l0] M
def FX8_isFlag_9  (M : Hx) : Option (Int32 × Hx) := bX8_isFlag_9 [none] [] M
def FX8_isFlag_14 (s0 : Int32) (M : Hx) : Option (Int32 × Hx) := bX8_isFlag_14 [none] [.int s0] M
set_option maxRecDepth 100000 in
theorem eX8_isFlag (l0 : Int32) (M : Hx) : FX8_isFlag l0 M = (if l0 = nI 0 then (FX8_isFlag_9 M) else if l0 = (nI 1) then (FX8_isFlag_9 M) else (FX8_isFlag_14 (nI 0) M)) := rfl
set_option maxRecDepth 100000 in
theorem eX8_isFlag_9  (M : Hx) : FX8_isFlag_9  M = (FX8_isFlag_14 (nI 1) M) := rfl
set_option maxRecDepth 100000 in
theorem eX8_isFlag_14 (s0 : Int32) (M : Hx) : FX8_isFlag_14 s0 M = (if s0 = nI 0 ∨ s0 = nI 1 then some (s0, M) else none) := rfl
def FX8_alter (l0 : Nat) (l1 : Int32) (l2 : Int32) (l3 : Int32) (M : Hx) : Option (Int32 × Hx) := fX8_alter [.ref l0, .int l1, .int l2, .int l3] M
def FX8_alter_32 (l0 : Nat) (l1 : Int32) (l2 : Int32) (l3 : Int32) (s0 : Int32) (s1 : Int32) (M : Hx) : Option (Int32 × Hx) := bX8_alter_32 [some (.ref l0), some (.int l1), some (.int l2), some (.int l3), none] [.int s1, .int s0] M
def FX8_alter_35  (M : Hx) : Option (Int32 × Hx) := bX8_alter_35 [none, none, none, none, none] [] M
set_option maxRecDepth 100000 in
theorem eX8_alter (l0 : Nat) (l1 : Int32) (l2 : Int32) (l3 : Int32) (M : Hx) : FX8_alter l0 l1 l2 l3 M = (bnd (h_R M 7 l0 0) (fun r1 => gd (h_K M 1 r1) <| bnd (FX1_isOne r1 l1 M) (fun q2 => if q2.1 = nI 0 then (FX8_alter_35 q2.2) else bnd (FX8_isFlag l2 q2.2) (fun q3 => if q3.1 = nI 0 then (FX8_alter_35 q3.2) else if l3 < nI 0 then (FX8_alter_35 q3.2) else if l2 = nI 0 then (FX8_alter_32 l0 l1 l2 l3 l3 (nI 3) q3.2) else (FX8_alter_32 l0 l1 l2 l3 l3 (nI 2) q3.2)) ()) ()) ()) := rfl
set_option maxRecDepth 100000 in
theorem eX8_alter_32 (l0 : Nat) (l1 : Int32) (l2 : Int32) (l3 : Int32) (s0 : Int32) (s1 : Int32) (M : Hx) : FX8_alter_32 l0 l1 l2 l3 s0 s1 M = (if s0 ≤ s1 then (bnd (h_R M 7 l0 0) (fun r4 => bnd (h_R M 1 r4 0) (fun r5 => gd (h_K M 5 r5) <| bnd (FX6_at r5 l1 l2 M) (fun q6 => bnd (h_R q6.2 7 l0 0) (fun r7 => bnd (h_R q6.2 1 r7 0) (fun r8 => gd (h_K q6.2 5 r8) <| bnd (FX6_put r8 l1 l2 l3 q6.2) (fun q9 => some (q6.1, q9.2)) ()) ()) ()) ()) ()) ()) else FX8_alter_35 M) := rfl
set_option maxRecDepth 100000 in
theorem eX8_alter_35  (M : Hx) : FX8_alter_35  M = (some ((mi 1), M)) := rfl
def FX8_isValue (l0 : Int32) (M : Hx) : Option (Int32 × Hx) := fX8_isValue [.int l0] M
def FX8_isValue_14  (M : Hx) : Option (Int32 × Hx) := bX8_isValue_14 [none] [] M
def FX8_isValue_15 (s0 : Int32) (M : Hx) : Option (Int32 × Hx) := bX8_isValue_15 [none] [.int s0] M
set_option maxRecDepth 100000 in
theorem eX8_isValue (l0 : Int32) (M : Hx) : FX8_isValue l0 M = (if l0 < nI 0 then (FX8_isValue_14 M) else if (nI 9) < l0 then (FX8_isValue_14 M) else FX8_isValue_15 (nI 1) M) := rfl
set_option maxRecDepth 100000 in
theorem eX8_isValue_14  (M : Hx) : FX8_isValue_14  M = (FX8_isValue_15 (nI 0) M) := rfl
set_option maxRecDepth 100000 in
theorem eX8_isValue_15 (s0 : Int32) (M : Hx) : FX8_isValue_15 s0 M = (if s0 = nI 0 ∨ s0 = nI 1 then some (s0, M) else none) := rfl
def FX8_paint (l0 : Nat) (l1 : Int32) (l2 : Int32) (M : Hx) : Option (Int32 × Hx) := fX8_paint [.ref l0, .int l1, .int l2] M
def FX8_paint_14  (M : Hx) : Option (Int32 × Hx) := bX8_paint_14 [none, none, none, none] [] M
set_option maxRecDepth 100000 in
theorem eX8_paint (l0 : Nat) (l1 : Int32) (l2 : Int32) (M : Hx) : FX8_paint l0 l1 l2 M = (bnd (FX8_isThing l1 M) (fun q1 => if q1.1 = nI 0 then (FX8_paint_14 q1.2) else bnd (FX8_isValue l2 q1.2) (fun q2 => if q2.1 = nI 0 then (FX8_paint_14 q2.2) else (bnd (h_R q2.2 7 l0 0) (fun r3 => bnd (h_R q2.2 1 r3 4) (fun r4 => bnd (h_A q2.2 0 r4 l1) (fun x5 => bnd (h_R q2.2 7 l0 0) (fun r6 => bnd (h_R q2.2 1 r6 4) (fun r7 => bnd (h_S q2.2 0 r7 l1 l2) (fun M8 => some (x5, M8)) ()) ()) ()) ()) ()) ())) ()) ()) := rfl
set_option maxRecDepth 100000 in
theorem eX8_paint_14  (M : Hx) : FX8_paint_14  M = (some ((mi 1), M)) := rfl
def FX8_isShift (l0 : Nat) (l1 : Int32) (l2 : Int32) (M : Hx) : Option (Int32 × Hx) := fX8_isShift [.ref l0, .int l1, .int l2] M
def FX8_isShift_24  (M : Hx) : Option (Int32 × Hx) := bX8_isShift_24 [none, none, none] [] M
def FX8_isShift_28  (M : Hx) : Option (Int32 × Hx) := bX8_isShift_28 [none, none, none] [] M
def FX8_isShift_29 (s0 : Int32) (M : Hx) : Option (Int32 × Hx) := bX8_isShift_29 [none, none, none] [.int s0] M
set_option maxRecDepth 100000 in
theorem eX8_isShift (l0 : Nat) (l1 : Int32) (l2 : Int32) (M : Hx) : FX8_isShift l0 l1 l2 M = (bnd (FX8_isHour l1 M) (fun q1 => if q1.1 = nI 0 then (FX8_isShift_28 q1.2) else if l2 = (mi 4) then (FX8_isShift_24 q1.2) else bnd (h_R q1.2 7 l0 0) (fun r2 => gd (h_K q1.2 1 r2) <| bnd (FX1_isOne r2 l2 q1.2) (fun q3 => if q3.1 = nI 0 then (FX8_isShift_28 q3.2) else FX8_isShift_24 q3.2) ()) ()) ()) := rfl
set_option maxRecDepth 100000 in
theorem eX8_isShift_24  (M : Hx) : FX8_isShift_24  M = (FX8_isShift_29 (nI 1) M) := rfl
set_option maxRecDepth 100000 in
theorem eX8_isShift_28  (M : Hx) : FX8_isShift_28  M = (FX8_isShift_29 (nI 0) M) := rfl
set_option maxRecDepth 100000 in
theorem eX8_isShift_29 (s0 : Int32) (M : Hx) : FX8_isShift_29 s0 M = (if s0 = nI 0 ∨ s0 = nI 1 then some (s0, M) else none) := rfl
def FX8_shift (l0 : Nat) (l1 : Int32) (l2 : Int32) (M : Hx) : Option (Int32 × Hx) := fX8_shift [.ref l0, .int l1, .int l2] M
set_option maxRecDepth 100000 in
theorem eX8_shift (l0 : Nat) (l1 : Int32) (l2 : Int32) (M : Hx) : FX8_shift l0 l1 l2 M = (gd (h_K M 7 l0) <| bnd (FX8_isShift l0 l1 l2 M) (fun q1 => if q1.1 = nI 0 then (some ((mi 1), q1.2)) else (bnd (h_R q1.2 7 l0 0) (fun r2 => bnd (h_R q1.2 1 r2 5) (fun r3 => bnd (h_A q1.2 0 r3 l1) (fun x4 => bnd (h_R q1.2 7 l0 0) (fun r5 => bnd (h_R q1.2 1 r5 5) (fun r6 => bnd (h_S q1.2 0 r6 l1 l2) (fun M7 => some (x4, M7)) ()) ()) ()) ()) ()) ())) ()) := rfl
def FX8_assign (l0 : Nat) (l1 : Int32) (l2 : Int32) (l3 : Int32) (l4 : Int32) (M : Hx) : Option (Int32 × Hx) := fX8_assign [.ref l0, .int l1, .int l2, .int l3, .int l4] M
def FX8_assign_43  (M : Hx) : Option (Int32 × Hx) := bX8_assign_43 [none, none, none, none, none] [] M
set_option maxRecDepth 100000 in
theorem eX8_assign (l0 : Nat) (l1 : Int32) (l2 : Int32) (l3 : Int32) (l4 : Int32) (M : Hx) : FX8_assign l0 l1 l2 l3 l4 M = (bnd (h_R M 7 l0 0) (fun r1 => gd (h_K M 1 r1) <| bnd (FX1_isOne r1 l1 M) (fun q2 => if q2.1 = nI 0 then (FX8_assign_43 q2.2) else bnd (FX8_isHour l2 q2.2) (fun q3 => if q3.1 = nI 0 then (FX8_assign_43 q3.2) else bnd (FX8_isHour l3 q3.2) (fun q4 => if q4.1 = nI 0 then (FX8_assign_43 q4.2) else if l3 < l2 then (FX8_assign_43 q4.2) else if l4 < (nI 1) then (FX8_assign_43 q4.2) else if l4 ≤ (nI 9) then (bnd (h_R q4.2 7 l0 0) (fun r5 => bnd (h_R q4.2 1 r5 2) (fun r6 => gd (h_K q4.2 5 r6) <| bnd (FX6_add r6 l1 l2 l3 l4 q4.2) (fun q7 => some (q7.1, q7.2)) ()) ()) ()) else FX8_assign_43 q4.2) ()) ()) ()) ()) := rfl
set_option maxRecDepth 100000 in
theorem eX8_assign_43  (M : Hx) : FX8_assign_43  M = (some ((mi 1), M)) := rfl
def FX8_change (l0 : Nat) (l1 : Int32) (l2 : Int32) (l3 : Int32) (M : Hx) : Option (Int32 × Hx) := fX8_change [.ref l0, .int l1, .int l2, .int l3] M
def FX8_change_21  (M : Hx) : Option (Int32 × Hx) := bX8_change_21 [none, none, none, none] [] M
set_option maxRecDepth 100000 in
theorem eX8_change (l0 : Nat) (l1 : Int32) (l2 : Int32) (l3 : Int32) (M : Hx) : FX8_change l0 l1 l2 l3 M = (bnd (FX8_isHour l1 M) (fun q1 => if q1.1 = nI 0 then (FX8_change_21 q1.2) else bnd (FX8_isThing l2 q1.2) (fun q2 => if q2.1 = nI 0 then (FX8_change_21 q2.2) else bnd (FX8_isValue l3 q2.2) (fun q3 => if q3.1 = nI 0 then (FX8_change_21 q3.2) else (bnd (h_R q3.2 7 l0 0) (fun r4 => bnd (h_R q3.2 1 r4 1) (fun r5 => gd (h_K q3.2 5 r5) <| bnd (FX6_add r5 l1 l2 l3 (nI 0) q3.2) (fun q6 => some (q6.1, q6.2)) ()) ()) ())) ()) ()) ()) := rfl
set_option maxRecDepth 100000 in
theorem eX8_change_21  (M : Hx) : FX8_change_21  M = (some ((mi 1), M)) := rfl
def FX8_tell (l0 : Nat) (l1 : Int32) (l2 : Int32) (l3 : Int32) (l4 : Int32) (M : Hx) : Option (Int32 × Hx) := fX8_tell [.ref l0, .int l1, .int l2, .int l3, .int l4] M
def FX8_tell_42  (M : Hx) : Option (Int32 × Hx) := bX8_tell_42 [none, none, none, none, none] [] M
set_option maxRecDepth 100000 in
theorem eX8_tell (l0 : Nat) (l1 : Int32) (l2 : Int32) (l3 : Int32) (l4 : Int32) (M : Hx) : FX8_tell l0 l1 l2 l3 l4 M = (bnd (FX8_isHour l1 M) (fun q1 => if q1.1 = nI 0 then (FX8_tell_42 q1.2) else bnd (h_R q1.2 7 l0 0) (fun r2 => gd (h_K q1.2 1 r2) <| bnd (FX1_isOne r2 l2 q1.2) (fun q3 => if q3.1 = nI 0 then (FX8_tell_42 q3.2) else bnd (h_R q3.2 7 l0 0) (fun r4 => gd (h_K q3.2 1 r4) <| bnd (FX1_isOne r4 l3 q3.2) (fun q5 => if q5.1 = nI 0 then (FX8_tell_42 q5.2) else if l2 = l3 then (FX8_tell_42 q5.2) else bnd (FX8_isThing l4 q5.2) (fun q6 => if q6.1 = nI 0 then (FX8_tell_42 q6.2) else (bnd (h_R q6.2 7 l0 0) (fun r7 => bnd (h_R q6.2 1 r7 3) (fun r8 => gd (h_K q6.2 5 r8) <| bnd (FX6_add r8 l1 l2 l3 l4 q6.2) (fun q9 => some (q9.1, q9.2)) ()) ()) ())) ()) ()) ()) ()) ()) ()) := rfl
set_option maxRecDepth 100000 in
theorem eX8_tell_42  (M : Hx) : FX8_tell_42  M = (some ((mi 1), M)) := rfl
def FX8_drop (l0 : Nat) (l1 : Int32) (l2 : Int32) (M : Hx) : Option (Int32 × Hx) := fX8_drop [.ref l0, .int l1, .int l2] M
set_option maxRecDepth 100000 in
theorem eX8_drop (l0 : Nat) (l1 : Int32) (l2 : Int32) (M : Hx) : FX8_drop l0 l1 l2 M = (if l1 = (nI 1) then (bnd (h_R M 7 l0 0) (fun r1 => bnd (h_R M 1 r1 1) (fun r2 => gd (h_K M 5 r2) <| bnd (FX6_cutTo r2 l2 M) (fun q3 => some (q3.1, q3.2)) ()) ()) ()) else if l1 = (nI 2) then (bnd (h_R M 7 l0 0) (fun r4 => bnd (h_R M 1 r4 2) (fun r5 => gd (h_K M 5 r5) <| bnd (FX6_cutTo r5 l2 M) (fun q6 => some (q6.1, q6.2)) ()) ()) ()) else if l1 = (nI 3) then (bnd (h_R M 7 l0 0) (fun r7 => bnd (h_R M 1 r7 3) (fun r8 => gd (h_K M 5 r8) <| bnd (FX6_cutTo r8 l2 M) (fun q9 => some (q9.1, q9.2)) ()) ()) ()) else some ((mi 1), M)) := rfl
def FX8_sees (l0 : Nat) (l1 : Int32) (M : Hx) : Option (Int32 × Hx) := fX8_sees [.ref l0, .int l1] M
def FX8_sees_26 (s0 : Int32) (M : Hx) : Option (Int32 × Hx) := bX8_sees_26 [none, none] [.int s0] M
set_option maxRecDepth 100000 in
theorem eX8_sees (l0 : Nat) (l1 : Int32) (M : Hx) : FX8_sees l0 l1 M = (bnd (FX8_isHour l1 M) (fun q1 => if q1.1 = nI 0 then (FX8_sees_26 (mi 1) q1.2) else bnd (h_R q1.2 7 l0 0) (fun r2 => bnd (h_R q1.2 7 l0 0) (fun r3 => bnd (h_R q1.2 1 r3 5) (fun r4 => bnd (FX7_seerIn r2 r4 l1 q1.2) (fun q5 => FX8_sees_26 q5.1 q5.2) ()) ()) ()) ()) ()) := rfl
set_option maxRecDepth 100000 in
theorem eX8_sees_26 (s0 : Int32) (M : Hx) : FX8_sees_26 s0 M = (some (s0, M)) := rfl
def FX8_belief (l0 : Nat) (l1 : Int32) (l2 : Int32) (l3 : Int32) (l4 : Int32) (M : Hx) : Option (Int32 × Hx) := fX8_belief [.ref l0, .int l1, .int l2, .int l3, .int l4] M
def FX8_belief_33  (M : Hx) : Option (Int32 × Hx) := bX8_belief_33 [none, none, none, none, none] [] M
def FX8_belief_81 (s0 : Int32) (M : Hx) : Option (Int32 × Hx) := bX8_belief_81 [none, none, none, none, none] [.int s0] M
set_option maxRecDepth 100000 in
theorem eX8_belief (l0 : Nat) (l1 : Int32) (l2 : Int32) (l3 : Int32) (l4 : Int32) (M : Hx) : FX8_belief l0 l1 l2 l3 l4 M = (bnd (h_R M 7 l0 0) (fun r1 => gd (h_K M 1 r1) <| bnd (FX1_isOne r1 l1 M) (fun q2 => if q2.1 = nI 0 then (FX8_belief_33 q2.2) else bnd (FX8_isThing l2 q2.2) (fun q3 => if q3.1 = nI 0 then (FX8_belief_33 q3.2) else bnd (FX8_isHour l3 q3.2) (fun q4 => if q4.1 = nI 0 then (FX8_belief_33 q4.2) else bnd (FX8_isFlag l4 q4.2) (fun q5 => if q5.1 = nI 0 then (FX8_belief_33 q5.2) else (bnd (h_R q5.2 7 l0 8) (fun r6 => bnd (h_R q5.2 7 l0 0) (fun r7 => bnd (h_R q5.2 7 l0 0) (fun r8 => bnd (h_R q5.2 1 r8 5) (fun r9 => gd (h_K q5.2 0 r6) <| bnd (FX0_live r6 r7 r9 q5.2) (fun q10 => if l4 = nI 0 then (bnd (h_R q10.2 7 l0 8) (fun r13 => gd (h_K q10.2 0 r13) <| bnd (FX0_valueOf r13 l1 l2 l3 q10.2) (fun q14 => FX8_belief_81 q14.1 q14.2) ()) ()) else (bnd (h_R q10.2 7 l0 8) (fun r11 => gd (h_K q10.2 0 r11) <| bnd (FX0_ageOf r11 l1 l2 l3 q10.2) (fun q12 => FX8_belief_81 q12.1 q12.2) ()) ())) ()) ()) ()) ()) ())) ()) ()) ()) ()) ()) := rfl
set_option maxRecDepth 100000 in
theorem eX8_belief_33  (M : Hx) : FX8_belief_33  M = (some ((mi 1), M)) := rfl
set_option maxRecDepth 100000 in
theorem eX8_belief_81 (s0 : Int32) (M : Hx) : FX8_belief_81 s0 M = (some (s0, M)) := rfl
def FX8_right (l0 : Nat) (l1 : Int32) (l2 : Int32) (l3 : Int32) (M : Hx) : Option (Int32 × Hx) := fX8_right [.ref l0, .int l1, .int l2, .int l3] M
def FX8_right_21  (M : Hx) : Option (Int32 × Hx) := bX8_right_21 [none, none, none, none] [] M
def FX8_right_74 (s0 : Int32) (M : Hx) : Option (Int32 × Hx) := bX8_right_74 [none, none, none, none] [.int s0] M
set_option maxRecDepth 100000 in
theorem eX8_right (l0 : Nat) (l1 : Int32) (l2 : Int32) (l3 : Int32) (M : Hx) : FX8_right l0 l1 l2 l3 M = (bnd (FX8_isThing l1 M) (fun q1 => if q1.1 = nI 0 then (FX8_right_21 q1.2) else bnd (FX8_isHour l2 q1.2) (fun q2 => if q2.1 = nI 0 then (FX8_right_21 q2.2) else bnd (FX8_isFlag l3 q2.2) (fun q3 => if q3.1 = nI 0 then (FX8_right_21 q3.2) else (bnd (h_R q3.2 7 l0 8) (fun r4 => bnd (h_R q3.2 7 l0 0) (fun r5 => bnd (h_R q3.2 7 l0 0) (fun r6 => bnd (h_R q3.2 1 r6 5) (fun r7 => gd (h_K q3.2 0 r4) <| bnd (FX0_live r4 r5 r7 q3.2) (fun q8 => if l3 = nI 0 then (bnd (h_R q8.2 7 l0 8) (fun r12 => bnd (h_R q8.2 7 l0 0) (fun r13 => gd (h_K q8.2 0 r12) <| bnd (FX0_rightOnes r12 r13 l1 l2 q8.2) (fun q14 => FX8_right_74 q14.1 q14.2) ()) ()) ()) else (bnd (h_R q8.2 7 l0 8) (fun r9 => bnd (h_R q8.2 7 l0 0) (fun r10 => gd (h_K q8.2 0 r9) <| bnd (FX0_wrongOnes r9 r10 l1 l2 q8.2) (fun q11 => FX8_right_74 q11.1 q11.2) ()) ()) ())) ()) ()) ()) ()) ())) ()) ()) ()) := rfl
set_option maxRecDepth 100000 in
theorem eX8_right_21  (M : Hx) : FX8_right_21  M = (some ((mi 1), M)) := rfl
set_option maxRecDepth 100000 in
theorem eX8_right_74 (s0 : Int32) (M : Hx) : FX8_right_74 s0 M = (some (s0, M)) := rfl
def FX8_wrong (l0 : Nat) (l1 : Int32) (l2 : Int32) (M : Hx) : Option (Int32 × Hx) := fX8_wrong [.ref l0, .int l1, .int l2] M
def FX8_wrong_18  (M : Hx) : Option (Int32 × Hx) := bX8_wrong_18 [none, none, none, none] [] M
def FX8_wrong_40 (n40 : Nat) (l0 : Nat) (l1 : Int32) (l2 : Int32) (l3 : Int32) (M : Hx) : Option (Int32 × Hx) := (o_lp (bX8_wrong_40) n40) [some (.ref l0), some (.int l1), some (.int l2), some (.int l3)] [] M
set_option maxRecDepth 100000 in
theorem eX8_wrong (l0 : Nat) (l1 : Int32) (l2 : Int32) (M : Hx) : FX8_wrong l0 l1 l2 M = (bnd (h_R M 7 l0 0) (fun r1 => gd (h_K M 1 r1) <| bnd (FX1_isOne r1 l1 M) (fun q2 => if q2.1 = nI 0 then (FX8_wrong_18 q2.2) else bnd (FX8_isThing l2 q2.2) (fun q3 => if q3.1 = nI 0 then (FX8_wrong_18 q3.2) else (bnd (h_R q3.2 7 l0 8) (fun r4 => bnd (h_R q3.2 7 l0 0) (fun r5 => bnd (h_R q3.2 7 l0 0) (fun r6 => bnd (h_R q3.2 1 r6 5) (fun r7 => gd (h_K q3.2 0 r4) <| bnd (FX0_live r4 r5 r7 q3.2) (fun q8 => FX8_wrong_40 fu l0 l1 l2 (nI 0) q8.2) ()) ()) ()) ()) ())) ()) ()) ()) := rfl
set_option maxRecDepth 100000 in
theorem eX8_wrong_18  (M : Hx) : FX8_wrong_18  M = (some ((mi 1), M)) := rfl
set_option maxRecDepth 100000 in
theorem eX8_wrong_40 (n40 : Nat) (l0 : Nat) (l1 : Int32) (l2 : Int32) (l3 : Int32) (M : Hx) : FX8_wrong_40 (n40 + 1) l0 l1 l2 l3 M = (if (nI 10) ≤ l3 then (some ((mi 4), M)) else bnd (h_R M 7 l0 8) (fun r9 => bnd (h_R M 7 l0 0) (fun r10 => gd (h_K M 0 r9) <| bnd (FX0_wrongOnes r9 r10 l2 l3 M) (fun q11 => if (q11.1 &&& ((nI 1) <<< (l1 &&& nI 31))) = nI 0 then (FX8_wrong_40 n40 l0 l1 l2 (l3 + (nI 1)) q11.2) else some (l3, q11.2)) ()) ()) ()) := rfl
def FX8_done (l0 : Nat) (l1 : Int32) (M : Hx) : Option (Int32 × Hx) := fX8_done [.ref l0, .int l1] M
def FX8_done_56 (s0 : Int32) (M : Hx) : Option (Int32 × Hx) := bX8_done_56 [none, none] [.int s0] M
set_option maxRecDepth 100000 in
theorem eX8_done (l0 : Nat) (l1 : Int32) (M : Hx) : FX8_done l0 l1 M = (bnd (FX8_isFlag l1 M) (fun q1 => if q1.1 = nI 0 then (some ((mi 1), q1.2)) else (bnd (h_R q1.2 7 l0 7) (fun r2 => bnd (h_R q1.2 7 l0 0) (fun r3 => bnd (h_R q1.2 7 l0 0) (fun r4 => bnd (h_R q1.2 1 r4 5) (fun r5 => gd (h_K q1.2 6 r2) <| bnd (FX7_look r2 r3 r5 q1.2) (fun q6 => if l1 = nI 0 then (bnd (h_R q6.2 7 l0 7) (fun r10 => bnd (h_R q6.2 7 l0 0) (fun r11 => gd (h_K q6.2 6 r10) <| bnd (FX7_donePieces r10 r11 q6.2) (fun q12 => FX8_done_56 q12.1 q12.2) ()) ()) ()) else (bnd (h_R q6.2 7 l0 7) (fun r7 => bnd (h_R q6.2 7 l0 0) (fun r8 => gd (h_K q6.2 6 r7) <| bnd (FX7_doneWorth r7 r8 q6.2) (fun q9 => FX8_done_56 q9.1 q9.2) ()) ()) ())) ()) ()) ()) ()) ())) ()) := rfl
set_option maxRecDepth 100000 in
theorem eX8_done_56 (s0 : Int32) (M : Hx) : FX8_done_56 s0 M = (some (s0, M)) := rfl
def FX8_best (l0 : Nat) (l1 : Int32) (M : Hx) : Option (Int32 × Hx) := fX8_best [.ref l0, .int l1] M
def FX8_best_16  (M : Hx) : Option (Int32 × Hx) := bX8_best_16 [none, none] [] M
def FX8_best_18 (l0 : Nat) (l1 : Int32) (M : Hx) : Option (Int32 × Hx) := bX8_best_18 [some (.ref l0), some (.int l1)] [] M
def FX8_best_55 (s0 : Int32) (M : Hx) : Option (Int32 × Hx) := bX8_best_55 [none, none] [.int s0] M
set_option maxRecDepth 100000 in
theorem eX8_best (l0 : Nat) (l1 : Int32) (M : Hx) : FX8_best l0 l1 M = (if l1 = nI 0 then (FX8_best_18 l0 l1 M) else if l1 < (nI 10) then (FX8_best_16 M) else if l1 < (nI 20) then (FX8_best_18 l0 l1 M) else FX8_best_16 M) := rfl
set_option maxRecDepth 100000 in
theorem eX8_best_16  (M : Hx) : FX8_best_16  M = (some ((mi 1), M)) := rfl
set_option maxRecDepth 100000 in
theorem eX8_best_18 (l0 : Nat) (l1 : Int32) (M : Hx) : FX8_best_18 l0 l1 M = (bnd (h_R M 7 l0 9) (fun r1 => bnd (h_R M 7 l0 0) (fun r2 => gd (h_K M 3 r1) <| bnd (FX4_planFor r1 r2 M) (fun q3 => if l1 = nI 0 then (bnd (h_R q3.2 7 l0 9) (fun r7 => bnd (h_I q3.2 3 r7 6) (fun x8 => FX8_best_55 x8 q3.2) ()) ()) else (bnd (h_R q3.2 7 l0 9) (fun r4 => bnd (h_R q3.2 3 r4 2) (fun r5 => bnd (h_A q3.2 0 r5 (l1 - (nI 10))) (fun x6 => FX8_best_55 x6 q3.2) ()) ()) ())) ()) ()) ()) := rfl
set_option maxRecDepth 100000 in
theorem eX8_best_55 (s0 : Int32) (M : Hx) : FX8_best_55 s0 M = (some (s0, M)) := rfl
def FX8_worthBy (l0 : Nat) (l1 : Nat) (M : Hx) : Option (Int32 × Hx) := fX8_worthBy [.ref l0, .ref l1] M
set_option maxRecDepth 100000 in
theorem eX8_worthBy (l0 : Nat) (l1 : Nat) (M : Hx) : FX8_worthBy l0 l1 M = (bnd (h_R M 7 l0 7) (fun r1 => bnd (h_R M 7 l0 0) (fun r2 => gd (h_K M 6 r1) <| bnd (FX7_look r1 r2 l1 M) (fun q3 => bnd (h_R q3.2 7 l0 7) (fun r4 => bnd (h_R q3.2 7 l0 0) (fun r5 => gd (h_K q3.2 6 r4) <| bnd (FX7_doneWorth r4 r5 q3.2) (fun q6 => some (q6.1, q6.2)) ()) ()) ()) ()) ()) ()) := rfl
def FX8_takeTrial (l0 : Nat) (M : Hx) : Option (Unit × Hx) := fX8_takeTrial [.ref l0] M
set_option maxRecDepth 100000 in
theorem eX8_takeTrial (l0 : Nat) (M : Hx) : FX8_takeTrial l0 M = (bnd (h_R M 7 l0 0) (fun r1 => bnd (h_R M 1 r1 5) (fun r2 => bnd (h_R M 7 l0 10) (fun r3 => bnd (h_C M r2 r3 (nI 0) (nI 0) (nI 10)) (fun M4 => some ((), M4)) ()) ()) ()) ()) := rfl
def FX8_worthSwapped (l0 : Nat) (l1 : Int32) (l2 : Int32) (M : Hx) : Option (Int32 × Hx) := fX8_worthSwapped [.ref l0, .int l1, .int l2] M
set_option maxRecDepth 100000 in
theorem eX8_worthSwapped (l0 : Nat) (l1 : Int32) (l2 : Int32) (M : Hx) : FX8_worthSwapped l0 l1 l2 M = (gd (h_K M 7 l0) <| bnd (FX8_takeTrial l0 M) (fun q1 => bnd (h_R q1.2 7 l0 10) (fun r2 => bnd (h_R q1.2 7 l0 0) (fun r3 => bnd (h_R q1.2 1 r3 5) (fun r4 => bnd (h_A q1.2 0 r4 l2) (fun x5 => bnd (h_S q1.2 0 r2 l1 x5) (fun M6 => bnd (h_R M6 7 l0 10) (fun r7 => bnd (h_R M6 7 l0 0) (fun r8 => bnd (h_R M6 1 r8 5) (fun r9 => bnd (h_A M6 0 r9 l1) (fun x10 => bnd (h_S M6 0 r7 l2 x10) (fun M11 => bnd (h_R M11 7 l0 10) (fun r12 => gd (h_K M11 7 l0) <| bnd (FX8_worthBy l0 r12 M11) (fun q13 => some (q13.1, q13.2)) ()) ()) ()) ()) ()) ()) ()) ()) ()) ()) ()) ()) ()) := rfl
def FX8_swap (l0 : Nat) (l1 : Int32) (M : Hx) : Option (Int32 × Hx) := fX8_swap [.ref l0, .int l1] M
def FX8_swap_27 (n27 : Nat) (l0 : Nat) (l1 : Int32) (l2 : Int32) (l3 : Int32) (l4 : Int32) (M : Hx) : Option (Int32 × Hx) := (o_lp (bX8_swap_27) n27) [some (.ref l0), some (.int l1), some (.int l2), some (.int l3), some (.int l4), none, none] [] M
def FX8_swap_40 (n27 : Nat) (n40 : Nat) (l0 : Nat) (l1 : Int32) (l2 : Int32) (l3 : Int32) (l4 : Int32) (l5 : Int32) (M : Hx) : Option (Int32 × Hx) := (o_lp (bX8_swap_40 (o_lp (bX8_swap_27) n27)) n40) [some (.ref l0), some (.int l1), some (.int l2), some (.int l3), some (.int l4), some (.int l5), none] [] M
def FX8_swap_75 (n27 : Nat) (n40 : Nat) (l0 : Nat) (l1 : Int32) (l2 : Int32) (l3 : Int32) (l4 : Int32) (l5 : Int32) (M : Hx) : Option (Int32 × Hx) := bX8_swap_75 (o_lp (bX8_swap_27) n27) (o_lp (bX8_swap_40 (o_lp (bX8_swap_27) n27)) n40) [some (.ref l0), some (.int l1), some (.int l2), some (.int l3), some (.int l4), some (.int l5), none] [] M
def FX8_swap_97 (l3 : Int32) (M : Hx) : Option (Int32 × Hx) := bX8_swap_97 [none, none, none, some (.int l3), none, none, none] [] M
def FX8_swap_102 (s0 : Int32) (M : Hx) : Option (Int32 × Hx) := bX8_swap_102 [none, none, none, none, none, none, none] [.int s0] M
set_option maxRecDepth 100000 in
theorem eX8_swap (l0 : Nat) (l1 : Int32) (M : Hx) : FX8_swap l0 l1 M = (bnd (FX8_isFlag l1 M) (fun q1 => if q1.1 = nI 0 then (some ((mi 1), q1.2)) else (bnd (h_R q1.2 7 l0 0) (fun r2 => bnd (h_R q1.2 1 r2 5) (fun r3 => gd (h_K q1.2 7 l0) <| bnd (FX8_worthBy l0 r3 q1.2) (fun q4 => FX8_swap_27 fu l0 l1 q4.1 (mi 4) (nI 0) q4.2) ()) ()) ())) ()) := rfl
set_option maxRecDepth 100000 in
theorem eX8_swap_27 (n27 : Nat) (l0 : Nat) (l1 : Int32) (l2 : Int32) (l3 : Int32) (l4 : Int32) (M : Hx) : FX8_swap_27 (n27 + 1) l0 l1 l2 l3 l4 M = (if (nI 10) ≤ l4 then (if l3 = (mi 4) then (FX8_swap_97 l3 M) else if l1 = nI 0 then (FX8_swap_97 l3 M) else (FX8_swap_102 l2 M)) else FX8_swap_40 n27 fu l0 l1 l2 l3 l4 (l4 + (nI 1)) M) := rfl
set_option maxRecDepth 100000 in
theorem eX8_swap_40 (n27 : Nat) (n40 : Nat) (l0 : Nat) (l1 : Int32) (l2 : Int32) (l3 : Int32) (l4 : Int32) (l5 : Int32) (M : Hx) : FX8_swap_40 n27 (n40 + 1) l0 l1 l2 l3 l4 l5 M = (if (nI 10) ≤ l5 then (FX8_swap_27 n27 l0 l1 l2 l3 (l4 + (nI 1)) M) else gd (h_K M 7 l0) <| bnd (FX8_worthSwapped l0 l4 l5 M) (fun q5 => if q5.1 ≤ l2 then (FX8_swap_75 n27 n40 l0 l1 l2 l3 l4 l5 q5.2) else FX8_swap_75 n27 n40 l0 l1 q5.1 (((nI 10) * l4) + l5) l4 l5 q5.2) ()) := rfl
set_option maxRecDepth 100000 in
theorem eX8_swap_75 (n27 : Nat) (n40 : Nat) (l0 : Nat) (l1 : Int32) (l2 : Int32) (l3 : Int32) (l4 : Int32) (l5 : Int32) (M : Hx) : FX8_swap_75 n27 n40 l0 l1 l2 l3 l4 l5 M = (FX8_swap_40 n27 n40 l0 l1 l2 l3 l4 (l5 + (nI 1)) M) := rfl
set_option maxRecDepth 100000 in
theorem eX8_swap_97 (l3 : Int32) (M : Hx) : FX8_swap_97 l3 M = (FX8_swap_102 l3 M) := rfl
set_option maxRecDepth 100000 in
theorem eX8_swap_102 (s0 : Int32) (M : Hx) : FX8_swap_102 s0 M = (some (s0, M)) := rfl
def FX8_worthGiven (l0 : Nat) (l1 : Int32) (l2 : Int32) (M : Hx) : Option (Int32 × Hx) := fX8_worthGiven [.ref l0, .int l1, .int l2] M
set_option maxRecDepth 100000 in
theorem eX8_worthGiven (l0 : Nat) (l1 : Int32) (l2 : Int32) (M : Hx) : FX8_worthGiven l0 l1 l2 M = (gd (h_K M 7 l0) <| bnd (FX8_takeTrial l0 M) (fun q1 => bnd (h_R q1.2 7 l0 10) (fun r2 => bnd (h_S q1.2 0 r2 l1 l2) (fun M3 => bnd (h_R M3 7 l0 10) (fun r4 => gd (h_K M3 7 l0) <| bnd (FX8_worthBy l0 r4 M3) (fun q5 => some (q5.1, q5.2)) ()) ()) ()) ()) ()) := rfl
def FX8_give (l0 : Nat) (l1 : Int32) (M : Hx) : Option (Int32 × Hx) := fX8_give [.ref l0, .int l1] M
def FX8_give_27 (n27 : Nat) (l0 : Nat) (l1 : Int32) (l2 : Int32) (l3 : Int32) (l4 : Int32) (M : Hx) : Option (Int32 × Hx) := (o_lp (bX8_give_27) n27) [some (.ref l0), some (.int l1), some (.int l2), some (.int l3), some (.int l4), none, none] [] M
def FX8_give_37 (n27 : Nat) (n37 : Nat) (l0 : Nat) (l1 : Int32) (l2 : Int32) (l3 : Int32) (l4 : Int32) (l5 : Int32) (M : Hx) : Option (Int32 × Hx) := (o_lp (bX8_give_37 (o_lp (bX8_give_27) n27)) n37) [some (.ref l0), some (.int l1), some (.int l2), some (.int l3), some (.int l4), some (.int l5), none] [] M
def FX8_give_80 (n27 : Nat) (n37 : Nat) (l0 : Nat) (l1 : Int32) (l2 : Int32) (l3 : Int32) (l4 : Int32) (l5 : Int32) (M : Hx) : Option (Int32 × Hx) := bX8_give_80 (o_lp (bX8_give_27) n27) (o_lp (bX8_give_37 (o_lp (bX8_give_27) n27)) n37) [some (.ref l0), some (.int l1), some (.int l2), some (.int l3), some (.int l4), some (.int l5), none] [] M
def FX8_give_102 (l3 : Int32) (M : Hx) : Option (Int32 × Hx) := bX8_give_102 [none, none, none, some (.int l3), none, none, none] [] M
def FX8_give_107 (s0 : Int32) (M : Hx) : Option (Int32 × Hx) := bX8_give_107 [none, none, none, none, none, none, none] [.int s0] M
set_option maxRecDepth 100000 in
theorem eX8_give (l0 : Nat) (l1 : Int32) (M : Hx) : FX8_give l0 l1 M = (bnd (FX8_isFlag l1 M) (fun q1 => if q1.1 = nI 0 then (some ((mi 1), q1.2)) else (bnd (h_R q1.2 7 l0 0) (fun r2 => bnd (h_R q1.2 1 r2 5) (fun r3 => gd (h_K q1.2 7 l0) <| bnd (FX8_worthBy l0 r3 q1.2) (fun q4 => FX8_give_27 fu l0 l1 q4.1 (mi 4) (nI 0) q4.2) ()) ()) ())) ()) := rfl
set_option maxRecDepth 100000 in
theorem eX8_give_27 (n27 : Nat) (l0 : Nat) (l1 : Int32) (l2 : Int32) (l3 : Int32) (l4 : Int32) (M : Hx) : FX8_give_27 (n27 + 1) l0 l1 l2 l3 l4 M = (if (nI 10) ≤ l4 then (if l3 = (mi 4) then (FX8_give_102 l3 M) else if l1 = nI 0 then (FX8_give_102 l3 M) else (FX8_give_107 l2 M)) else FX8_give_37 n27 fu l0 l1 l2 l3 l4 (nI 0) M) := rfl
set_option maxRecDepth 100000 in
theorem eX8_give_37 (n27 : Nat) (n37 : Nat) (l0 : Nat) (l1 : Int32) (l2 : Int32) (l3 : Int32) (l4 : Int32) (l5 : Int32) (M : Hx) : FX8_give_37 n27 (n37 + 1) l0 l1 l2 l3 l4 l5 M = (bnd (h_R M 7 l0 0) (fun r5 => bnd (h_R M 1 r5 0) (fun r6 => bnd (h_I M 5 r6 3) (fun x7 => if x7 ≤ l5 then (FX8_give_27 n27 l0 l1 l2 l3 (l4 + (nI 1)) M) else gd (h_K M 7 l0) <| bnd (FX8_worthGiven l0 l4 l5 M) (fun q8 => if q8.1 ≤ l2 then (FX8_give_80 n27 n37 l0 l1 l2 l3 l4 l5 q8.2) else FX8_give_80 n27 n37 l0 l1 q8.1 (((nI 10) * l4) + l5) l4 l5 q8.2) ()) ()) ()) ()) := rfl
set_option maxRecDepth 100000 in
theorem eX8_give_80 (n27 : Nat) (n37 : Nat) (l0 : Nat) (l1 : Int32) (l2 : Int32) (l3 : Int32) (l4 : Int32) (l5 : Int32) (M : Hx) : FX8_give_80 n27 n37 l0 l1 l2 l3 l4 l5 M = (FX8_give_37 n27 n37 l0 l1 l2 l3 l4 (l5 + (nI 1)) M) := rfl
set_option maxRecDepth 100000 in
theorem eX8_give_102 (l3 : Int32) (M : Hx) : FX8_give_102 l3 M = (FX8_give_107 l3 M) := rfl
set_option maxRecDepth 100000 in
theorem eX8_give_107 (s0 : Int32) (M : Hx) : FX8_give_107 s0 M = (some (s0, M)) := rfl
def FX8_mend (l0 : Nat) (l1 : Int32) (M : Hx) : Option (Int32 × Hx) := fX8_mend [.ref l0, .int l1] M
def FX8_mend_67 (l0 : Nat) (l2 : Int32) (M : Hx) : Option (Int32 × Hx) := bX8_mend_67 [some (.ref l0), none, some (.int l2)] [] M
def FX8_mend_79 (s0 : Int32) (M : Hx) : Option (Int32 × Hx) := bX8_mend_79 [none, none, none] [.int s0] M
set_option maxRecDepth 100000 in
theorem eX8_mend (l0 : Nat) (l1 : Int32) (M : Hx) : FX8_mend l0 l1 M = (bnd (FX8_isThing l1 M) (fun q1 => if q1.1 = nI 0 then (some ((mi 1), q1.2)) else (bnd (h_R q1.2 7 l0 8) (fun r2 => bnd (h_R q1.2 7 l0 0) (fun r3 => bnd (h_R q1.2 7 l0 0) (fun r4 => bnd (h_R q1.2 1 r4 5) (fun r5 => gd (h_K q1.2 0 r2) <| bnd (FX0_live r2 r3 r5 q1.2) (fun q6 => bnd (h_R q6.2 7 l0 8) (fun r7 => bnd (h_R q6.2 7 l0 0) (fun r8 => gd (h_K q6.2 0 r7) <| bnd (FX0_rightOnes r7 r8 l1 (nI 9) q6.2) (fun q9 => bnd (FJ6_bitCount_0f7a4 q9.1 q9.2) (fun q10 => if q10.1 = nI 0 then (bnd (h_R q10.2 7 l0 0) (fun r11 => bnd (h_R q10.2 1 r11 0) (fun r12 => bnd (h_I q10.2 5 r12 3) (fun x13 => if x13 ≤ nI 0 then (FX8_mend_67 l0 q10.1 q10.2) else FX8_mend_79 (mi 4) q10.2) ()) ()) ()) else (FX8_mend_67 l0 q10.1 q10.2)) ()) ()) ()) ()) ()) ()) ()) ()) ())) ()) := rfl
set_option maxRecDepth 100000 in
theorem eX8_mend_67 (l0 : Nat) (l2 : Int32) (M : Hx) : FX8_mend_67 l0 l2 M = (bnd (h_R M 7 l0 0) (fun r14 => bnd (h_R M 1 r14 0) (fun r15 => bnd (h_I M 5 r15 3) (fun x16 => FX8_mend_79 (x16 - l2) M) ()) ()) ()) := rfl
set_option maxRecDepth 100000 in
theorem eX8_mend_79 (s0 : Int32) (M : Hx) : FX8_mend_79 s0 M = (some (s0, M)) := rfl
def FX8_luck (l0 : Nat) (l1 : Int32) (l2 : Int32) (l3 : Int32) (M : Hx) : Option (Int64 × Hx) := fX8_luck [.ref l0, .int l1, .int l2, .int l3] M
def FX8_luck_31  (M : Hx) : Option (Int64 × Hx) := bX8_luck_31 [none, none, none, none] [] M
set_option maxRecDepth 100000 in
theorem eX8_luck (l0 : Nat) (l1 : Int32) (l2 : Int32) (l3 : Int32) (M : Hx) : FX8_luck l0 l1 l2 l3 M = (if l1 < nI 0 then (FX8_luck_31 M) else if (nI 10) < l1 then (FX8_luck_31 M) else bnd (h_R M 7 l0 0) (fun r1 => bnd (h_R M 1 r1 2) (fun r2 => gd (h_K M 5 r2) <| bnd (FX6_has r2 l2 M) (fun q3 => if q3.1 = nI 0 then (FX8_luck_31 q3.2) else bnd (FX8_isFlag l3 q3.2) (fun q4 => if q4.1 = nI 0 then (FX8_luck_31 q4.2) else (bnd (h_R q4.2 7 l0 7) (fun r5 => bnd (h_R q4.2 7 l0 0) (fun r6 => bnd (h_R q4.2 7 l0 0) (fun r7 => bnd (h_R q4.2 1 r7 5) (fun r8 => gd (h_K q4.2 6 r5) <| bnd (FX7_look r5 r6 r8 q4.2) (fun q9 => bnd (h_R q9.2 7 l0 7) (fun r10 => bnd (h_R q9.2 7 l0 0) (fun r11 => gd (h_K q9.2 6 r10) <| bnd (FX7_chancesOf r10 r11 l2 q9.2) (fun q12 => bnd (FX2_shareMet l1 q12.1 q12.2) (fun q13 => bnd (FX2_part q13.1 l3 q13.2) (fun q14 => some (q14.1, q14.2)) ()) ()) ()) ()) ()) ()) ()) ()) ()) ())) ()) ()) ()) ()) := rfl
set_option maxRecDepth 100000 in
theorem eX8_luck_31  (M : Hx) : FX8_luck_31  M = (some ((lm 1), M)) := rfl
def FX8_mean (l0 : Nat) (l1 : Int32) (l2 : Int32) (M : Hx) : Option (Int64 × Hx) := fX8_mean [.ref l0, .int l1, .int l2] M
def FX8_mean_17  (M : Hx) : Option (Int64 × Hx) := bX8_mean_17 [none, none, none, none, none, none] [] M
def FX8_mean_44 (n44 : Nat) (l0 : Nat) (l1 : Int32) (l2 : Int32) (l3 : Int64) (l5 : Int32) (M : Hx) : Option (Int64 × Hx) := (o_lp (bX8_mean_44) n44) [some (.ref l0), some (.int l1), some (.int l2), some (.long l3), none, some (.int l5)] [] M
set_option maxRecDepth 100000 in
theorem eX8_mean (l0 : Nat) (l1 : Int32) (l2 : Int32) (M : Hx) : FX8_mean l0 l1 l2 M = (if l1 < nI 0 then (FX8_mean_17 M) else if (nI 10) < l1 then (FX8_mean_17 M) else bnd (FX8_isFlag l2 M) (fun q1 => if q1.1 = nI 0 then (FX8_mean_17 q1.2) else (bnd (h_R q1.2 7 l0 7) (fun r2 => bnd (h_R q1.2 7 l0 0) (fun r3 => bnd (h_R q1.2 7 l0 0) (fun r4 => bnd (h_R q1.2 1 r4 5) (fun r5 => gd (h_K q1.2 6 r2) <| bnd (FX7_look r2 r3 r5 q1.2) (fun q6 => FX8_mean_44 fu l0 l1 l2 (lN 0) (nI 0) q6.2) ()) ()) ()) ()) ())) ()) := rfl
set_option maxRecDepth 100000 in
theorem eX8_mean_17  (M : Hx) : FX8_mean_17  M = (some ((lm 1), M)) := rfl
set_option maxRecDepth 100000 in
theorem eX8_mean_44 (n44 : Nat) (l0 : Nat) (l1 : Int32) (l2 : Int32) (l3 : Int64) (l5 : Int32) (M : Hx) : FX8_mean_44 (n44 + 1) l0 l1 l2 l3 l5 M = (bnd (h_R M 7 l0 0) (fun r7 => bnd (h_R M 1 r7 2) (fun r8 => bnd (h_I M 5 r8 3) (fun x9 => if x9 ≤ l5 then (bnd (FX2_part l3 l2 M) (fun q10 => some (q10.1, q10.2)) ()) else bnd (h_R M 7 l0 0) (fun r11 => gd (h_K M 1 r11) <| bnd (FX1_worthOf r11 l5 M) (fun q12 => bnd (h_R q12.2 7 l0 7) (fun r13 => bnd (h_R q12.2 7 l0 0) (fun r14 => gd (h_K q12.2 6 r13) <| bnd (FX7_chancesOf r13 r14 l5 q12.2) (fun q15 => bnd (FX2_shareMet l1 q15.1 q15.2) (fun q16 => FX8_mean_44 n44 l0 l1 l2 (l3 + (q12.1.toInt64 * q16.1)) (l5 + (nI 1)) q16.2) ()) ()) ()) ()) ()) ()) ()) ()) ()) := rfl
