def FX9_change (l0 : Nat) (l1 : Int32) (l2 : Int32) (l3 : Int32) (M : Hx) : Option (Int32 × Hx) := fX9_change [.ref l0, .int l1, .int l2, .int l3] M
def FX9_change_26  (M : Hx) : Option (Int32 × Hx) := bX9_change_26 [none, none, none, none, none] [] M
set_option maxRecDepth 100000 in
theorem eX9_change (l0 : Nat) (l1 : Int32) (l2 : Int32) (l3 : Int32) (M : Hx) : FX9_change l0 l1 l2 l3 M = (bnd (FX9_isHour l1 M) (fun q1 => if q1.1 = nI 0 then (FX9_change_26 q1.2) else bnd (FX9_isThing l2 q1.2) (fun q2 => if q2.1 = nI 0 then (FX9_change_26 q2.2) else bnd (FX9_in l3.toInt64 (lN 0) (lN 9) q2.2) (fun q3 => if q3.1 = nI 0 then (FX9_change_26 q3.2) else (bnd (h_R q3.2 8 l0 0) (fun r4 => bnd (h_A q3.2 0 r4 (nI 25)) (fun x5 => if x5 = (nI 4) then (some ((mi 3), q3.2)) else (bnd (h_R q3.2 8 l0 0) (fun r6 => bnd (h_A q3.2 0 r6 (nI 25)) (fun x7 => bnd (h_R q3.2 8 l0 0) (fun r8 => bnd (h_S q3.2 0 r8 ((nI 13) + ((nI 3) * x7)) l1) (fun M9 => bnd (h_R M9 8 l0 0) (fun r10 => bnd (h_S M9 0 r10 (((nI 13) + ((nI 3) * x7)) + (nI 1)) l2) (fun M11 => bnd (h_R M11 8 l0 0) (fun r12 => bnd (h_S M11 0 r12 (((nI 13) + ((nI 3) * x7)) + (nI 2)) l3) (fun M13 => bnd (h_R M13 8 l0 0) (fun r14 => bnd (h_A M13 0 r14 (nI 25)) (fun x15 => bnd (h_S M13 0 r14 (nI 25) (x15 + (nI 1))) (fun M16 => bnd (h_R M16 8 l0 0) (fun r17 => bnd (h_A M16 0 r17 (nI 25)) (fun x18 => some (x18, M16)) ()) ()) ()) ()) ()) ()) ()) ()) ()) ()) ()) ()) ())) ()) ())) ()) ()) ()) := rfl
set_option maxRecDepth 100000 in
theorem eX9_change_26  (M : Hx) : FX9_change_26  M = (some ((mi 1), M)) := rfl
def FX9_tell (l0 : Nat) (l1 : Int32) (l2 : Int32) (l3 : Int32) (l4 : Int32) (M : Hx) : Option (Int32 × Hx) := fX9_tell [.ref l0, .int l1, .int l2, .int l3, .int l4] M
def FX9_tell_36  (M : Hx) : Option (Int32 × Hx) := bX9_tell_36 [none, none, none, none, none, none] [] M
set_option maxRecDepth 100000 in
theorem eX9_tell (l0 : Nat) (l1 : Int32) (l2 : Int32) (l3 : Int32) (l4 : Int32) (M : Hx) : FX9_tell l0 l1 l2 l3 l4 M = (bnd (FX9_isHour l1 M) (fun q1 => if q1.1 = nI 0 then (FX9_tell_36 q1.2) else gd (h_K q1.2 8 l0) <| bnd (FX9_isOne l0 l2 q1.2) (fun q2 => if q2.1 = nI 0 then (FX9_tell_36 q2.2) else gd (h_K q2.2 8 l0) <| bnd (FX9_isOne l0 l3 q2.2) (fun q3 => if q3.1 = nI 0 then (FX9_tell_36 q3.2) else if l2 = l3 then (FX9_tell_36 q3.2) else bnd (FX9_isThing l4 q3.2) (fun q4 => if q4.1 = nI 0 then (FX9_tell_36 q4.2) else (bnd (h_R q4.2 8 l0 0) (fun r5 => bnd (h_A q4.2 0 r5 (nI 73)) (fun x6 => if x6 = (nI 4) then (some ((mi 3), q4.2)) else (bnd (h_R q4.2 8 l0 0) (fun r7 => bnd (h_A q4.2 0 r7 (nI 73)) (fun x8 => bnd (h_R q4.2 8 l0 0) (fun r9 => bnd (h_S q4.2 0 r9 ((nI 57) + ((nI 4) * x8)) l1) (fun M10 => bnd (h_R M10 8 l0 0) (fun r11 => bnd (h_S M10 0 r11 (((nI 57) + ((nI 4) * x8)) + (nI 1)) l2) (fun M12 => bnd (h_R M12 8 l0 0) (fun r13 => bnd (h_S M12 0 r13 (((nI 57) + ((nI 4) * x8)) + (nI 2)) l3) (fun M14 => bnd (h_R M14 8 l0 0) (fun r15 => bnd (h_S M14 0 r15 (((nI 57) + ((nI 4) * x8)) + (nI 3)) l4) (fun M16 => bnd (h_R M16 8 l0 0) (fun r17 => bnd (h_A M16 0 r17 (nI 73)) (fun x18 => bnd (h_S M16 0 r17 (nI 73) (x18 + (nI 1))) (fun M19 => bnd (h_R M19 8 l0 0) (fun r20 => bnd (h_A M19 0 r20 (nI 73)) (fun x21 => some (x21, M19)) ()) ()) ()) ()) ()) ()) ()) ()) ()) ()) ()) ()) ()) ()) ())) ()) ())) ()) ()) ()) ()) := rfl
set_option maxRecDepth 100000 in
theorem eX9_tell_36  (M : Hx) : FX9_tell_36  M = (some ((mi 1), M)) := rfl
def FX9_drop (l0 : Nat) (l1 : Int32) (l2 : Int32) (M : Hx) : Option (Int32 × Hx) := fX9_drop [.ref l0, .int l1, .int l2] M
def FX9_drop_22 (l0 : Nat) (l1 : Int32) (l2 : Int32) (s0 : Int32) (M : Hx) : Option (Int32 × Hx) := bX9_drop_22 [some (.ref l0), some (.int l1), some (.int l2), none] [.int s0] M
def FX9_drop_56 (l2 : Int32) (l3 : Int32) (s0 : Nat) (M : Hx) : Option (Int32 × Hx) := bX9_drop_56 [none, none, some (.int l2), some (.int l3)] [.ref s0] M
def FX9_drop_57 (l2 : Int32) (l3 : Int32) (s0 : Nat) (s1 : Int32) (M : Hx) : Option (Int32 × Hx) := bX9_drop_57 [none, none, some (.int l2), some (.int l3)] [.int s1, .ref s0] M
set_option maxRecDepth 100000 in
theorem eX9_drop (l0 : Nat) (l1 : Int32) (l2 : Int32) (M : Hx) : FX9_drop l0 l1 l2 M = (if l1 = (nI 1) then (FX9_drop_22 l0 l1 l2 (nI 25) M) else (if l1 = (nI 2) then (FX9_drop_22 l0 l1 l2 (nI 56) M) else (FX9_drop_22 l0 l1 l2 (nI 73) M))) := rfl
set_option maxRecDepth 100000 in
theorem eX9_drop_22 (l0 : Nat) (l1 : Int32) (l2 : Int32) (s0 : Int32) (M : Hx) : FX9_drop_22 l0 l1 l2 s0 M = (bnd (FX9_in l1.toInt64 (lN 1) (lN 3) M) (fun q1 => if q1.1 = nI 0 then (FX9_drop_56 l2 s0 l0 q1.2) else bnd (h_R q1.2 8 l0 0) (fun r2 => bnd (h_A q1.2 0 r2 s0) (fun x3 => bnd (FX9_in l2.toInt64 (lN 0) x3.toInt64 q1.2) (fun q4 => if q4.1 = nI 0 then (FX9_drop_56 l2 s0 l0 q4.2) else FX9_drop_57 l2 s0 l0 (nI 1) q4.2) ()) ()) ()) ()) := rfl
set_option maxRecDepth 100000 in
theorem eX9_drop_56 (l2 : Int32) (l3 : Int32) (s0 : Nat) (M : Hx) : FX9_drop_56 l2 l3 s0 M = (FX9_drop_57 l2 l3 s0 (nI 0) M) := rfl
set_option maxRecDepth 100000 in
theorem eX9_drop_57 (l2 : Int32) (l3 : Int32) (s0 : Nat) (s1 : Int32) (M : Hx) : FX9_drop_57 l2 l3 s0 s1 M = (gd (h_K M 8 s0) <| bnd (FX9_puts s0 s1 l3 l2 M) (fun q5 => some (q5.1, q5.2)) ()) := rfl
def FX9_sees (l0 : Nat) (l1 : Int32) (M : Hx) : Option (Int32 × Hx) := fX9_sees [.ref l0, .int l1] M
def FX9_sees_29 (s0 : Int32) (M : Hx) : Option (Int32 × Hx) := bX9_sees_29 [none, none] [.int s0] M
set_option maxRecDepth 100000 in
theorem eX9_sees (l0 : Nat) (l1 : Int32) (M : Hx) : FX9_sees l0 l1 M = (bnd (FX9_isHour l1 M) (fun q1 => if q1.1 = nI 0 then (FX9_sees_29 (mi 1) q1.2) else (gd (h_K q1.2 8 l0) <| bnd (FX9_doesSee l0 l1 q1.2) (fun q2 => if q2.1 = nI 0 then (FX9_sees_29 (mi 4) q2.2) else gd (h_K q2.2 8 l0) <| bnd (FX9_hasIt l0 l1 q2.2) (fun q3 => FX9_sees_29 q3.1 q3.2) ()) ())) ()) := rfl
set_option maxRecDepth 100000 in
theorem eX9_sees_29 (s0 : Int32) (M : Hx) : FX9_sees_29 s0 M = (some (s0, M)) := rfl
def FX9_belief (l0 : Nat) (l1 : Int32) (l2 : Int32) (l3 : Int32) (l4 : Int32) (M : Hx) : Option (Int32 × Hx) := fX9_belief [.ref l0, .int l1, .int l2, .int l3, .int l4] M
def FX9_belief_33  (M : Hx) : Option (Int32 × Hx) := bX9_belief_33 [none, none, none, none, none, none] [] M
def FX9_belief_68 (l0 : Nat) (l5 : Int32) (M : Hx) : Option (Int32 × Hx) := bX9_belief_68 [some (.ref l0), none, none, none, none, some (.int l5)] [] M
def FX9_belief_85 (s0 : Int32) (M : Hx) : Option (Int32 × Hx) := bX9_belief_85 [none, none, none, none, none, none] [.int s0] M
set_option maxRecDepth 100000 in
theorem eX9_belief (l0 : Nat) (l1 : Int32) (l2 : Int32) (l3 : Int32) (l4 : Int32) (M : Hx) : FX9_belief l0 l1 l2 l3 l4 M = (gd (h_K M 8 l0) <| bnd (FX9_isOne l0 l1 M) (fun q1 => if q1.1 = nI 0 then (FX9_belief_33 q1.2) else bnd (FX9_isThing l2 q1.2) (fun q2 => if q2.1 = nI 0 then (FX9_belief_33 q2.2) else bnd (FX9_isHour l3 q2.2) (fun q3 => if q3.1 = nI 0 then (FX9_belief_33 q3.2) else bnd (FX9_in l4.toInt64 (lN 0) (lN 1) q3.2) (fun q4 => if q4.1 = nI 0 then (FX9_belief_33 q4.2) else (gd (h_K q4.2 8 l0) <| bnd (FX9_hoursGo l0 q4.2) (fun q5 => bnd (h_R q5.2 8 l0 20) (fun r6 => bnd (h_A q5.2 0 r6 ((((nI 15) * l3) + ((nI 3) * l1)) + l2)) (fun x7 => if x7 = (mi 4) then (FX9_belief_68 l0 ((((nI 15) * l3) + ((nI 3) * l1)) + l2) q5.2) else if l4 = nI 0 then (FX9_belief_68 l0 ((((nI 15) * l3) + ((nI 3) * l1)) + l2) q5.2) else (bnd (h_R q5.2 8 l0 21) (fun r8 => bnd (h_A q5.2 0 r8 ((((nI 15) * l3) + ((nI 3) * l1)) + l2)) (fun x9 => FX9_belief_85 x9 q5.2) ()) ())) ()) ()) ())) ()) ()) ()) ()) := rfl
set_option maxRecDepth 100000 in
theorem eX9_belief_33  (M : Hx) : FX9_belief_33  M = (some ((mi 1), M)) := rfl
set_option maxRecDepth 100000 in
theorem eX9_belief_68 (l0 : Nat) (l5 : Int32) (M : Hx) : FX9_belief_68 l0 l5 M = (bnd (h_R M 8 l0 20) (fun r10 => bnd (h_A M 0 r10 l5) (fun x11 => FX9_belief_85 x11 M) ()) ()) := rfl
set_option maxRecDepth 100000 in
theorem eX9_belief_85 (s0 : Int32) (M : Hx) : FX9_belief_85 s0 M = (some (s0, M)) := rfl
def FX9_rightOf (l0 : Nat) (l1 : Int32) (l2 : Int32) (l3 : Int32) (M : Hx) : Option (Int32 × Hx) := fX9_rightOf [.ref l0, .int l1, .int l2, .int l3] M
def FX9_rightOf_14 (n14 : Nat) (l0 : Nat) (l1 : Int32) (l2 : Int32) (l3 : Int32) (l4 : Int32) (l5 : Int32) (l6 : Int32) (M : Hx) : Option (Int32 × Hx) := (o_lp (bX9_rightOf_14) n14) [some (.ref l0), some (.int l1), some (.int l2), some (.int l3), some (.int l4), some (.int l5), some (.int l6), none] [] M
def FX9_rightOf_62 (n14 : Nat) (l0 : Nat) (l1 : Int32) (l2 : Int32) (l3 : Int32) (l5 : Int32) (l6 : Int32) (s0 : Int32) (s1 : Int32) (M : Hx) : Option (Int32 × Hx) := bX9_rightOf_62 (o_lp (bX9_rightOf_14) n14) [some (.ref l0), some (.int l1), some (.int l2), some (.int l3), none, some (.int l5), some (.int l6), none] [.int s1, .int s0] M
def FX9_rightOf_71 (n14 : Nat) (l0 : Nat) (l1 : Int32) (l2 : Int32) (l3 : Int32) (l5 : Int32) (l6 : Int32) (s0 : Int32) (s1 : Int32) (s2 : Int32) (M : Hx) : Option (Int32 × Hx) := bX9_rightOf_71 (o_lp (bX9_rightOf_14) n14) [some (.ref l0), some (.int l1), some (.int l2), some (.int l3), none, some (.int l5), some (.int l6), none] [.int s2, .int s1, .int s0] M
def FX9_rightOf_81 (n14 : Nat) (l0 : Nat) (l1 : Int32) (l2 : Int32) (l3 : Int32) (l5 : Int32) (l6 : Int32) (s0 : Int32) (M : Hx) : Option (Int32 × Hx) := bX9_rightOf_81 (o_lp (bX9_rightOf_14) n14) [some (.ref l0), some (.int l1), some (.int l2), some (.int l3), none, some (.int l5), some (.int l6), none] [.int s0] M
def FX9_rightOf_82 (n14 : Nat) (l0 : Nat) (l1 : Int32) (l2 : Int32) (l3 : Int32) (l5 : Int32) (l6 : Int32) (s0 : Int32) (s1 : Int32) (M : Hx) : Option (Int32 × Hx) := bX9_rightOf_82 (o_lp (bX9_rightOf_14) n14) [some (.ref l0), some (.int l1), some (.int l2), some (.int l3), none, some (.int l5), some (.int l6), none] [.int s1, .int s0] M
set_option maxRecDepth 100000 in
theorem eX9_rightOf (l0 : Nat) (l1 : Int32) (l2 : Int32) (l3 : Int32) (M : Hx) : FX9_rightOf l0 l1 l2 l3 M = (gd (h_K M 8 l0) <| bnd (FX9_valueAt l0 l1 l2 M) (fun q1 => FX9_rightOf_14 fu l0 l1 l2 l3 (nI 0) q1.1 (nI 0) q1.2) ()) := rfl
set_option maxRecDepth 100000 in
theorem eX9_rightOf_14 (n14 : Nat) (l0 : Nat) (l1 : Int32) (l2 : Int32) (l3 : Int32) (l4 : Int32) (l5 : Int32) (l6 : Int32) (M : Hx) : FX9_rightOf_14 (n14 + 1) l0 l1 l2 l3 l4 l5 l6 M = (bnd (h_I M 8 l0 2) (fun x2 => if x2 ≤ l6 then (some (l4, M)) else bnd (h_R M 8 l0 20) (fun r3 => bnd (h_A M 0 r3 ((((nI 15) * l2) + ((nI 3) * l6)) + l1)) (fun x4 => if x4 = (mi 4) then (FX9_rightOf_81 n14 l0 l1 l2 l3 l5 l6 l4 M) else if x4 = l5 then (FX9_rightOf_62 n14 l0 l1 l2 l3 l5 l6 l4 (nI 1) M) else (FX9_rightOf_62 n14 l0 l1 l2 l3 l5 l6 l4 (nI 0) M)) ()) ()) ()) := rfl
set_option maxRecDepth 100000 in
theorem eX9_rightOf_62 (n14 : Nat) (l0 : Nat) (l1 : Int32) (l2 : Int32) (l3 : Int32) (l5 : Int32) (l6 : Int32) (s0 : Int32) (s1 : Int32) (M : Hx) : FX9_rightOf_62 n14 l0 l1 l2 l3 l5 l6 s0 s1 M = (if l3 = nI 0 then (FX9_rightOf_71 n14 l0 l1 l2 l3 l5 l6 s0 s1 (nI 1) M) else (FX9_rightOf_71 n14 l0 l1 l2 l3 l5 l6 s0 s1 (nI 0) M)) := rfl
set_option maxRecDepth 100000 in
theorem eX9_rightOf_71 (n14 : Nat) (l0 : Nat) (l1 : Int32) (l2 : Int32) (l3 : Int32) (l5 : Int32) (l6 : Int32) (s0 : Int32) (s1 : Int32) (s2 : Int32) (M : Hx) : FX9_rightOf_71 n14 l0 l1 l2 l3 l5 l6 s0 s1 s2 M = (if s1 = s2 then (FX9_rightOf_82 n14 l0 l1 l2 l3 l5 l6 s0 ((nI 1) <<< (l6 &&& nI 31)) M) else (FX9_rightOf_81 n14 l0 l1 l2 l3 l5 l6 s0 M)) := rfl
set_option maxRecDepth 100000 in
theorem eX9_rightOf_81 (n14 : Nat) (l0 : Nat) (l1 : Int32) (l2 : Int32) (l3 : Int32) (l5 : Int32) (l6 : Int32) (s0 : Int32) (M : Hx) : FX9_rightOf_81 n14 l0 l1 l2 l3 l5 l6 s0 M = (FX9_rightOf_82 n14 l0 l1 l2 l3 l5 l6 s0 (nI 0) M) := rfl
set_option maxRecDepth 100000 in
theorem eX9_rightOf_82 (n14 : Nat) (l0 : Nat) (l1 : Int32) (l2 : Int32) (l3 : Int32) (l5 : Int32) (l6 : Int32) (s0 : Int32) (s1 : Int32) (M : Hx) : FX9_rightOf_82 n14 l0 l1 l2 l3 l5 l6 s0 s1 M = (FX9_rightOf_14 n14 l0 l1 l2 l3 (s0 ||| s1) l5 (l6 + (nI 1)) M) := rfl
def FX9_right (l0 : Nat) (l1 : Int32) (l2 : Int32) (l3 : Int32) (M : Hx) : Option (Int32 × Hx) := fX9_right [.ref l0, .int l1, .int l2, .int l3] M
def FX9_right_24  (M : Hx) : Option (Int32 × Hx) := bX9_right_24 [none, none, none, none] [] M
set_option maxRecDepth 100000 in
theorem eX9_right (l0 : Nat) (l1 : Int32) (l2 : Int32) (l3 : Int32) (M : Hx) : FX9_right l0 l1 l2 l3 M = (bnd (FX9_isThing l1 M) (fun q1 => if q1.1 = nI 0 then (FX9_right_24 q1.2) else bnd (FX9_isHour l2 q1.2) (fun q2 => if q2.1 = nI 0 then (FX9_right_24 q2.2) else bnd (FX9_in l3.toInt64 (lN 0) (lN 1) q2.2) (fun q3 => if q3.1 = nI 0 then (FX9_right_24 q3.2) else (gd (h_K q3.2 8 l0) <| bnd (FX9_hoursGo l0 q3.2) (fun q4 => gd (h_K q4.2 8 l0) <| bnd (FX9_rightOf l0 l1 l2 l3 q4.2) (fun q5 => some (q5.1, q5.2)) ()) ())) ()) ()) ()) := rfl
set_option maxRecDepth 100000 in
theorem eX9_right_24  (M : Hx) : FX9_right_24  M = (some ((mi 1), M)) := rfl
def FX9_wrong (l0 : Nat) (l1 : Int32) (l2 : Int32) (M : Hx) : Option (Int32 × Hx) := fX9_wrong [.ref l0, .int l1, .int l2] M
def FX9_wrong_15  (M : Hx) : Option (Int32 × Hx) := bX9_wrong_15 [none, none, none, none] [] M
def FX9_wrong_23 (n23 : Nat) (l0 : Nat) (l1 : Int32) (l2 : Int32) (l3 : Int32) (M : Hx) : Option (Int32 × Hx) := (o_lp (bX9_wrong_23) n23) [some (.ref l0), some (.int l1), some (.int l2), some (.int l3)] [] M
set_option maxRecDepth 100000 in
theorem eX9_wrong (l0 : Nat) (l1 : Int32) (l2 : Int32) (M : Hx) : FX9_wrong l0 l1 l2 M = (gd (h_K M 8 l0) <| bnd (FX9_isOne l0 l1 M) (fun q1 => if q1.1 = nI 0 then (FX9_wrong_15 q1.2) else bnd (FX9_isThing l2 q1.2) (fun q2 => if q2.1 = nI 0 then (FX9_wrong_15 q2.2) else (gd (h_K q2.2 8 l0) <| bnd (FX9_hoursGo l0 q2.2) (fun q3 => FX9_wrong_23 fu l0 l1 l2 (nI 0) q3.2) ())) ()) ()) := rfl
set_option maxRecDepth 100000 in
theorem eX9_wrong_15  (M : Hx) : FX9_wrong_15  M = (some ((mi 1), M)) := rfl
set_option maxRecDepth 100000 in
theorem eX9_wrong_23 (n23 : Nat) (l0 : Nat) (l1 : Int32) (l2 : Int32) (l3 : Int32) (M : Hx) : FX9_wrong_23 (n23 + 1) l0 l1 l2 l3 M = (if (nI 10) ≤ l3 then (some ((mi 4), M)) else gd (h_K M 8 l0) <| bnd (FX9_rightOf l0 l2 l3 (nI 1) M) (fun q4 => if ((q4.1 >>> (l1 &&& nI 31)) &&& (nI 1)) = (nI 1) then (some (l3, q4.2)) else (FX9_wrong_23 n23 l0 l1 l2 (l3 + (nI 1)) q4.2)) ()) := rfl
def FX9_done (l0 : Nat) (l1 : Int32) (M : Hx) : Option (Int32 × Hx) := fX9_done [.ref l0, .int l1] M
def FX9_done_31 (s0 : Int32) (M : Hx) : Option (Int32 × Hx) := bX9_done_31 [none, none, none] [.int s0] M
set_option maxRecDepth 100000 in
theorem eX9_done (l0 : Nat) (l1 : Int32) (M : Hx) : FX9_done l0 l1 M = (gd (h_K M 8 l0) <| bnd (FX9_seeing l0 M) (fun q1 => gd (h_K q1.2 8 l0) <| bnd (FX9_doneBy l0 q1.1 q1.2) (fun q2 => if l1 = nI 0 then (FX9_done_31 q2.1 q2.2) else (if l1 = (nI 1) then (gd (h_K q2.2 8 l0) <| bnd (FX9_worthOf l0 q2.1 q2.2) (fun q3 => FX9_done_31 q3.1 q3.2) ()) else (FX9_done_31 (mi 1) q2.2))) ()) ()) := rfl
set_option maxRecDepth 100000 in
theorem eX9_done_31 (s0 : Int32) (M : Hx) : FX9_done_31 s0 M = (some (s0, M)) := rfl
def FX9_workIn (l0 : Nat) (l1 : Int32) (l2 : Int32) (M : Hx) : Option (Int32 × Hx) := fX9_workIn [.ref l0, .int l1, .int l2] M
def FX9_workIn_5 (n5 : Nat) (l0 : Nat) (l1 : Int32) (l2 : Int32) (l3 : Int32) (l4 : Int32) (M : Hx) : Option (Int32 × Hx) := (o_lp (bX9_workIn_5) n5) [some (.ref l0), some (.int l1), some (.int l2), some (.int l3), some (.int l4), none] [] M
def FX9_workIn_73 (n5 : Nat) (l0 : Nat) (l1 : Int32) (l2 : Int32) (l4 : Int32) (s0 : Int32) (M : Hx) : Option (Int32 × Hx) := bX9_workIn_73 (o_lp (bX9_workIn_5) n5) [some (.ref l0), some (.int l1), some (.int l2), none, some (.int l4), none] [.int s0] M
def FX9_workIn_74 (n5 : Nat) (l0 : Nat) (l1 : Int32) (l2 : Int32) (l4 : Int32) (s0 : Int32) (s1 : Int32) (M : Hx) : Option (Int32 × Hx) := bX9_workIn_74 (o_lp (bX9_workIn_5) n5) [some (.ref l0), some (.int l1), some (.int l2), none, some (.int l4), none] [.int s1, .int s0] M
set_option maxRecDepth 100000 in
theorem eX9_workIn (l0 : Nat) (l1 : Int32) (l2 : Int32) (M : Hx) : FX9_workIn l0 l1 l2 M = (FX9_workIn_5 fu l0 l1 l2 (nI 0) (nI 0) M) := rfl
set_option maxRecDepth 100000 in
theorem eX9_workIn_5 (n5 : Nat) (l0 : Nat) (l1 : Int32) (l2 : Int32) (l3 : Int32) (l4 : Int32) (M : Hx) : FX9_workIn_5 (n5 + 1) l0 l1 l2 l3 l4 M = (bnd (h_R M 8 l0 0) (fun r1 => bnd (h_A M 0 r1 (nI 56)) (fun x2 => if x2 ≤ l4 then (some (l3, M)) else bnd (h_R M 8 l0 0) (fun r3 => bnd (h_A M 0 r3 ((nI 36) + ((nI 4) * l4))) (fun x4 => if x4 = l1 then (bnd (h_R M 8 l0 0) (fun r5 => bnd (h_A M 0 r5 (((nI 36) + ((nI 4) * l4)) + (nI 1))) (fun x6 => bnd (h_R M 8 l0 0) (fun r7 => bnd (h_A M 0 r7 (((nI 36) + ((nI 4) * l4)) + (nI 2))) (fun x8 => bnd (FX9_in l2.toInt64 x6.toInt64 x8.toInt64 M) (fun q9 => if q9.1 = nI 0 then (FX9_workIn_73 n5 l0 l1 l2 l4 l3 q9.2) else FX9_workIn_74 n5 l0 l1 l2 l4 l3 ((nI 1) <<< (l4 &&& nI 31)) q9.2) ()) ()) ()) ()) ()) else (FX9_workIn_73 n5 l0 l1 l2 l4 l3 M)) ()) ()) ()) ()) := rfl
set_option maxRecDepth 100000 in
theorem eX9_workIn_73 (n5 : Nat) (l0 : Nat) (l1 : Int32) (l2 : Int32) (l4 : Int32) (s0 : Int32) (M : Hx) : FX9_workIn_73 n5 l0 l1 l2 l4 s0 M = (FX9_workIn_74 n5 l0 l1 l2 l4 s0 (nI 0) M) := rfl
set_option maxRecDepth 100000 in
theorem eX9_workIn_74 (n5 : Nat) (l0 : Nat) (l1 : Int32) (l2 : Int32) (l4 : Int32) (s0 : Int32) (s1 : Int32) (M : Hx) : FX9_workIn_74 n5 l0 l1 l2 l4 s0 s1 M = (FX9_workIn_5 n5 l0 l1 l2 (s0 ||| s1) (l4 + (nI 1)) M) := rfl
def FX9_comesTo (l0 : Nat) (l1 : Int32) (l2 : Int32) (l3 : Int32) (l4 : Int32) (M : Hx) : Option (Int32 × Hx) := fX9_comesTo [.ref l0, .int l1, .int l2, .int l3, .int l4] M
def FX9_comesTo_18 (l0 : Nat) (l1 : Int32) (l2 : Int32) (l4 : Int32) (s0 : Nat) (s1 : Int32) (s2 : Int32) (s3 : Int32) (M : Hx) : Option (Int32 × Hx) := bX9_comesTo_18 [some (.ref l0), some (.int l1), some (.int l2), none, some (.int l4), none] [.int s3, .int s2, .int s1, .ref s0] M
def FX9_comesTo_28 (l0 : Nat) (l1 : Int32) (l2 : Int32) (l4 : Int32) (M : Hx) : Option (Int32 × Hx) := bX9_comesTo_28 [some (.ref l0), some (.int l1), some (.int l2), none, some (.int l4), none] [] M
def FX9_comesTo_29 (l0 : Nat) (l1 : Int32) (l2 : Int32) (l4 : Int32) (s0 : Int32) (M : Hx) : Option (Int32 × Hx) := bX9_comesTo_29 [some (.ref l0), some (.int l1), some (.int l2), none, some (.int l4), none] [.int s0] M
def FX9_comesTo_62 (s0 : Int32) (s1 : Int32) (M : Hx) : Option (Int32 × Hx) := bX9_comesTo_62 [none, none, none, none, none, none] [.int s1, .int s0] M
set_option maxRecDepth 100000 in
theorem eX9_comesTo (l0 : Nat) (l1 : Int32) (l2 : Int32) (l3 : Int32) (l4 : Int32) (M : Hx) : FX9_comesTo l0 l1 l2 l3 l4 M = (if (nI 5) ≤ l1 then (FX9_comesTo_28 l0 l1 l2 l4 M) else if l3 = (nI 5) then (FX9_comesTo_18 l0 l1 l2 l4 l0 l1 l2 (mi 1) M) else (FX9_comesTo_18 l0 l1 l2 l4 l0 l1 l2 l3 M)) := rfl
set_option maxRecDepth 100000 in
theorem eX9_comesTo_18 (l0 : Nat) (l1 : Int32) (l2 : Int32) (l4 : Int32) (s0 : Nat) (s1 : Int32) (s2 : Int32) (s3 : Int32) (M : Hx) : FX9_comesTo_18 l0 l1 l2 l4 s0 s1 s2 s3 M = (gd (h_K M 8 s0) <| bnd (FX9_wouldSee s0 s1 s2 s3 M) (fun q1 => if q1.1 = nI 0 then (FX9_comesTo_28 l0 l1 l2 l4 q1.2) else FX9_comesTo_29 l0 l1 l2 l4 (nI 1) q1.2) ()) := rfl
set_option maxRecDepth 100000 in
theorem eX9_comesTo_28 (l0 : Nat) (l1 : Int32) (l2 : Int32) (l4 : Int32) (M : Hx) : FX9_comesTo_28 l0 l1 l2 l4 M = (FX9_comesTo_29 l0 l1 l2 l4 (nI 0) M) := rfl
set_option maxRecDepth 100000 in
theorem eX9_comesTo_29 (l0 : Nat) (l1 : Int32) (l2 : Int32) (l4 : Int32) (s0 : Int32) (M : Hx) : FX9_comesTo_29 l0 l1 l2 l4 s0 M = (if s0 = nI 0 then (FX9_comesTo_62 (((nI 192) * (l2 + (nI 1))) + ((nI 32) * l1)) l4 M) else gd (h_K M 8 l0) <| bnd (FX9_workIn l0 l1 l2 M) (fun q2 => FX9_comesTo_62 (((nI 192) * (l2 + (nI 1))) + ((nI 32) * l1)) (l4 ||| q2.1) q2.2) ()) := rfl
set_option maxRecDepth 100000 in
theorem eX9_comesTo_62 (s0 : Int32) (s1 : Int32) (M : Hx) : FX9_comesTo_62 s0 s1 M = (some ((s0 + s1), M)) := rfl
def FX9_isChoice (l0 : Nat) (l1 : Int32) (M : Hx) : Option (Int32 × Hx) := fX9_isChoice [.ref l0, .int l1] M
def FX9_isChoice_13  (M : Hx) : Option (Int32 × Hx) := bX9_isChoice_13 [none, none] [] M
def FX9_isChoice_18 (s0 : Int32) (M : Hx) : Option (Int32 × Hx) := bX9_isChoice_18 [none, none] [.int s0] M
set_option maxRecDepth 100000 in
theorem eX9_isChoice (l0 : Nat) (l1 : Int32) (M : Hx) : FX9_isChoice l0 l1 M = (if l1 = (nI 5) then (FX9_isChoice_13 M) else gd (h_K M 8 l0) <| bnd (FX9_isOne l0 l1 M) (fun q1 => if q1.1 = nI 0 then (FX9_isChoice_18 (nI 0) q1.2) else FX9_isChoice_13 q1.2) ()) := rfl
set_option maxRecDepth 100000 in
theorem eX9_isChoice_13  (M : Hx) : FX9_isChoice_13  M = (FX9_isChoice_18 (nI 1) M) := rfl
set_option maxRecDepth 100000 in
theorem eX9_isChoice_18 (s0 : Int32) (M : Hx) : FX9_isChoice_18 s0 M = (if s0 = nI 0 ∨ s0 = nI 1 then some (s0, M) else none) := rfl
def FX9_laysMost (l0 : Nat) (M : Hx) : Option (Unit × Hx) := fX9_laysMost [.ref l0] M
def FX9_laysMost_2 (n2 : Nat) (l0 : Nat) (l1 : Int32) (M : Hx) : Option (Unit × Hx) := (o_lp (bX9_laysMost_2) n2) [some (.ref l0), some (.int l1), none, none, none, none] [] M
def FX9_laysMost_36 (n36 : Nat) (l0 : Nat) (l1 : Int32) (M : Hx) : Option (Unit × Hx) := (o_lp (bX9_laysMost_36) n36) [some (.ref l0), some (.int l1), none, none, none, none] [] M
def FX9_laysMost_42 (n36 : Nat) (n42 : Nat) (l0 : Nat) (l1 : Int32) (l2 : Int32) (M : Hx) : Option (Unit × Hx) := (o_lp (bX9_laysMost_42 (o_lp (bX9_laysMost_36) n36)) n42) [some (.ref l0), some (.int l1), some (.int l2), none, none, none] [] M
def FX9_laysMost_54 (n36 : Nat) (n42 : Nat) (n54 : Nat) (l0 : Nat) (l1 : Int32) (l2 : Int32) (l3 : Int32) (l4 : Int32) (M : Hx) : Option (Unit × Hx) := (o_lp (bX9_laysMost_54 (o_lp (bX9_laysMost_36) n36) (o_lp (bX9_laysMost_42 (o_lp (bX9_laysMost_36) n36)) n42)) n54) [some (.ref l0), some (.int l1), some (.int l2), some (.int l3), some (.int l4), none] [] M
def FX9_laysMost_93 (n36 : Nat) (n42 : Nat) (n54 : Nat) (l0 : Nat) (l1 : Int32) (l2 : Int32) (l3 : Int32) (l4 : Int32) (s0 : Int32) (M : Hx) : Option (Unit × Hx) := bX9_laysMost_93 (o_lp (bX9_laysMost_36) n36) (o_lp (bX9_laysMost_42 (o_lp (bX9_laysMost_36) n36)) n42) (o_lp (bX9_laysMost_54 (o_lp (bX9_laysMost_36) n36) (o_lp (bX9_laysMost_42 (o_lp (bX9_laysMost_36) n36)) n42)) n54) [some (.ref l0), some (.int l1), some (.int l2), some (.int l3), some (.int l4), none] [.int s0] M
def FX9_laysMost_107 (n36 : Nat) (n42 : Nat) (n54 : Nat) (l0 : Nat) (l1 : Int32) (l2 : Int32) (l4 : Int32) (s0 : Int32) (M : Hx) : Option (Unit × Hx) := bX9_laysMost_107 (o_lp (bX9_laysMost_36) n36) (o_lp (bX9_laysMost_42 (o_lp (bX9_laysMost_36) n36)) n42) (o_lp (bX9_laysMost_54 (o_lp (bX9_laysMost_36) n36) (o_lp (bX9_laysMost_42 (o_lp (bX9_laysMost_36) n36)) n42)) n54) [some (.ref l0), some (.int l1), some (.int l2), none, some (.int l4), none] [.int s0] M
set_option maxRecDepth 100000 in
theorem eX9_laysMost (l0 : Nat) (M : Hx) : FX9_laysMost l0 M = (FX9_laysMost_2 fu l0 (nI 0) M) := rfl
set_option maxRecDepth 100000 in
theorem eX9_laysMost_2 (n2 : Nat) (l0 : Nat) (l1 : Int32) (M : Hx) : FX9_laysMost_2 (n2 + 1) l0 l1 M = (if (nI 192) ≤ l1 then (FX9_laysMost_36 fu l0 (nI 9) M) else bnd (h_R M 8 l0 22) (fun r1 => gd (h_K M 8 l0) <| bnd (FX9_worthOf l0 (l1 - l1 / (nI 32) * (nI 32)) M) (fun q2 => bnd (h_S q2.2 0 r1 ((nI 1920) + l1) q2.1) (fun M3 => FX9_laysMost_2 n2 l0 (l1 + (nI 1)) M3) ()) ()) ()) := rfl
set_option maxRecDepth 100000 in
theorem eX9_laysMost_36 (n36 : Nat) (l0 : Nat) (l1 : Int32) (M : Hx) : FX9_laysMost_36 (n36 + 1) l0 l1 M = (if l1 < nI 0 then (some ((), M)) else FX9_laysMost_42 n36 fu l0 l1 (nI 0) M) := rfl
set_option maxRecDepth 100000 in
theorem eX9_laysMost_42 (n36 : Nat) (n42 : Nat) (l0 : Nat) (l1 : Int32) (l2 : Int32) (M : Hx) : FX9_laysMost_42 n36 (n42 + 1) l0 l1 l2 M = (if (nI 192) ≤ l2 then (FX9_laysMost_36 n36 l0 (l1 + (mi 1)) M) else FX9_laysMost_54 n36 n42 fu l0 l1 l2 (mi 1) (nI 0) M) := rfl
set_option maxRecDepth 100000 in
theorem eX9_laysMost_54 (n36 : Nat) (n42 : Nat) (n54 : Nat) (l0 : Nat) (l1 : Int32) (l2 : Int32) (l3 : Int32) (l4 : Int32) (M : Hx) : FX9_laysMost_54 n36 n42 (n54 + 1) l0 l1 l2 l3 l4 M = (if (nI 5) < l4 then (bnd (h_R M 8 l0 22) (fun r4 => bnd (h_S M 0 r4 (((nI 192) * l1) + l2) l3) (fun M5 => FX9_laysMost_42 n36 n42 l0 l1 (l2 + (nI 1)) M5) ()) ()) else gd (h_K M 8 l0) <| bnd (FX9_isChoice l0 l4 M) (fun q6 => if q6.1 = nI 0 then (FX9_laysMost_93 n36 n42 n54 l0 l1 l2 l3 l4 (mi 1) q6.2) else bnd (h_R q6.2 8 l0 22) (fun r7 => gd (h_K q6.2 8 l0) <| bnd (FX9_comesTo l0 l4 l1 (l2 / (nI 32)) (l2 - l2 / (nI 32) * (nI 32)) q6.2) (fun q8 => bnd (h_A q8.2 0 r7 q8.1) (fun x9 => FX9_laysMost_93 n36 n42 n54 l0 l1 l2 l3 l4 x9 q8.2) ()) ()) ()) ()) := rfl
set_option maxRecDepth 100000 in
theorem eX9_laysMost_93 (n36 : Nat) (n42 : Nat) (n54 : Nat) (l0 : Nat) (l1 : Int32) (l2 : Int32) (l3 : Int32) (l4 : Int32) (s0 : Int32) (M : Hx) : FX9_laysMost_93 n36 n42 n54 l0 l1 l2 l3 l4 s0 M = (if s0 ≤ l3 then (FX9_laysMost_107 n36 n42 n54 l0 l1 l2 l4 l3 M) else FX9_laysMost_107 n36 n42 n54 l0 l1 l2 l4 s0 M) := rfl
set_option maxRecDepth 100000 in
theorem eX9_laysMost_107 (n36 : Nat) (n42 : Nat) (n54 : Nat) (l0 : Nat) (l1 : Int32) (l2 : Int32) (l4 : Int32) (s0 : Int32) (M : Hx) : FX9_laysMost_107 n36 n42 n54 l0 l1 l2 l4 s0 M = (FX9_laysMost_54 n36 n42 n54 l0 l1 l2 s0 (l4 + (nI 1)) M) := rfl
def FX9_best (l0 : Nat) (l1 : Int32) (M : Hx) : Option (Int32 × Hx) := fX9_best [.ref l0, .int l1] M
def FX9_best_20 (l0 : Nat) (l1 : Int32) (M : Hx) : Option (Int32 × Hx) := bX9_best_20 [some (.ref l0), some (.int l1), none, none, none, none, none, none] [] M
def FX9_best_33 (n33 : Nat) (l0 : Nat) (l1 : Int32) (l2 : Int32) (l3 : Int32) (l4 : Int32) (M : Hx) : Option (Int32 × Hx) := (o_lp (bX9_best_33) n33) [some (.ref l0), some (.int l1), some (.int l2), some (.int l3), some (.int l4), none, none, none] [] M
def FX9_best_59 (n33 : Nat) (n59 : Nat) (l0 : Nat) (l1 : Int32) (l2 : Int32) (l4 : Int32) (l5 : Int32) (l6 : Int32) (l7 : Int32) (M : Hx) : Option (Int32 × Hx) := (o_lp (bX9_best_59 (o_lp (bX9_best_33) n33)) n59) [some (.ref l0), some (.int l1), some (.int l2), none, some (.int l4), some (.int l5), some (.int l6), some (.int l7)] [] M
def FX9_best_110 (n33 : Nat) (n59 : Nat) (l0 : Nat) (l1 : Int32) (l2 : Int32) (l4 : Int32) (l5 : Int32) (l6 : Int32) (l7 : Int32) (M : Hx) : Option (Int32 × Hx) := bX9_best_110 (o_lp (bX9_best_33) n33) (o_lp (bX9_best_59 (o_lp (bX9_best_33) n33)) n59) [some (.ref l0), some (.int l1), some (.int l2), none, some (.int l4), some (.int l5), some (.int l6), some (.int l7)] [] M
def FX9_best_112 (n33 : Nat) (n59 : Nat) (l0 : Nat) (l1 : Int32) (l2 : Int32) (l4 : Int32) (l6 : Int32) (l7 : Int32) (s0 : Int32) (M : Hx) : Option (Int32 × Hx) := bX9_best_112 (o_lp (bX9_best_33) n33) (o_lp (bX9_best_59 (o_lp (bX9_best_33) n33)) n59) [some (.ref l0), some (.int l1), some (.int l2), none, some (.int l4), none, some (.int l6), some (.int l7)] [.int s0] M
def FX9_best_171 (s0 : Int32) (M : Hx) : Option (Int32 × Hx) := bX9_best_171 [none, none, none, none, none, none, none, none] [.int s0] M
set_option maxRecDepth 100000 in
theorem eX9_best (l0 : Nat) (l1 : Int32) (M : Hx) : FX9_best l0 l1 M = (if l1 = nI 0 then (FX9_best_20 l0 l1 M) else bnd (FX9_in l1.toInt64 (lN 10) (lN 19) M) (fun q1 => if q1.1 = nI 0 then (some ((mi 1), q1.2)) else (FX9_best_20 l0 l1 q1.2)) ()) := rfl
set_option maxRecDepth 100000 in
theorem eX9_best_20 (l0 : Nat) (l1 : Int32) (M : Hx) : FX9_best_20 l0 l1 M = (gd (h_K M 8 l0) <| bnd (FX9_laysMost l0 M) (fun q2 => FX9_best_33 fu l0 l1 (nI 160) (nI 5) (nI 0) q2.2) ()) := rfl
set_option maxRecDepth 100000 in
theorem eX9_best_33 (n33 : Nat) (l0 : Nat) (l1 : Int32) (l2 : Int32) (l3 : Int32) (l4 : Int32) (M : Hx) : FX9_best_33 (n33 + 1) l0 l1 l2 l3 l4 M = (if (l1 - (nI 9)) ≤ l4 then (if l1 = nI 0 then (bnd (h_R M 8 l0 22) (fun r3 => bnd (h_A M 0 r3 l2) (fun x4 => FX9_best_171 x4 M) ()) ()) else (if l3 = (nI 5) then (FX9_best_171 (mi 4) M) else (FX9_best_171 l3 M))) else FX9_best_59 n33 fu l0 l1 l2 l4 (mi 4) (l2 - ((nI 192) * l4)) (nI 5) M) := rfl
set_option maxRecDepth 100000 in
theorem eX9_best_59 (n33 : Nat) (n59 : Nat) (l0 : Nat) (l1 : Int32) (l2 : Int32) (l4 : Int32) (l5 : Int32) (l6 : Int32) (l7 : Int32) (M : Hx) : FX9_best_59 n33 (n59 + 1) l0 l1 l2 l4 l5 l6 l7 M = (if l7 < nI 0 then (gd (h_K M 8 l0) <| bnd (FX9_comesTo l0 l5 l4 (l6 / (nI 32)) (l6 - l6 / (nI 32) * (nI 32)) M) (fun q5 => FX9_best_33 n33 l0 l1 q5.1 l5 (l4 + (nI 1)) q5.2) ()) else gd (h_K M 8 l0) <| bnd (FX9_isChoice l0 l7 M) (fun q6 => if q6.1 = nI 0 then (FX9_best_110 n33 n59 l0 l1 l2 l4 l5 l6 l7 q6.2) else bnd (h_R q6.2 8 l0 22) (fun r7 => gd (h_K q6.2 8 l0) <| bnd (FX9_comesTo l0 l7 l4 (l6 / (nI 32)) (l6 - l6 / (nI 32) * (nI 32)) q6.2) (fun q8 => bnd (h_A q8.2 0 r7 q8.1) (fun x9 => bnd (h_R q8.2 8 l0 22) (fun r10 => bnd (h_A q8.2 0 r10 l2) (fun x11 => if x9 = x11 then (FX9_best_112 n33 n59 l0 l1 l2 l4 l6 l7 l7 q8.2) else (FX9_best_110 n33 n59 l0 l1 l2 l4 l5 l6 l7 q8.2)) ()) ()) ()) ()) ()) ()) := rfl
set_option maxRecDepth 100000 in
theorem eX9_best_110 (n33 : Nat) (n59 : Nat) (l0 : Nat) (l1 : Int32) (l2 : Int32) (l4 : Int32) (l5 : Int32) (l6 : Int32) (l7 : Int32) (M : Hx) : FX9_best_110 n33 n59 l0 l1 l2 l4 l5 l6 l7 M = (FX9_best_112 n33 n59 l0 l1 l2 l4 l6 l7 l5 M) := rfl
set_option maxRecDepth 100000 in
theorem eX9_best_112 (n33 : Nat) (n59 : Nat) (l0 : Nat) (l1 : Int32) (l2 : Int32) (l4 : Int32) (l6 : Int32) (l7 : Int32) (s0 : Int32) (M : Hx) : FX9_best_112 n33 n59 l0 l1 l2 l4 l6 l7 s0 M = (FX9_best_59 n33 n59 l0 l1 l2 l4 s0 l6 (l7 + (mi 1)) M) := rfl
set_option maxRecDepth 100000 in
theorem eX9_best_171 (s0 : Int32) (M : Hx) : FX9_best_171 s0 M = (some (s0, M)) := rfl
def FX9_swap (l0 : Nat) (l1 : Int32) (M : Hx) : Option (Int32 × Hx) := fX9_swap [.ref l0, .int l1] M
def FX9_swap_23 (n23 : Nat) (l0 : Nat) (l1 : Int32) (l2 : Int32) (l3 : Int32) (l4 : Int32) (M : Hx) : Option (Int32 × Hx) := (o_lp (bX9_swap_23) n23) [some (.ref l0), some (.int l1), some (.int l2), some (.int l3), some (.int l4), none, none, none, none] [] M
def FX9_swap_36 (n23 : Nat) (n36 : Nat) (l0 : Nat) (l1 : Int32) (l2 : Int32) (l3 : Int32) (l4 : Int32) (l5 : Int32) (M : Hx) : Option (Int32 × Hx) := (o_lp (bX9_swap_36 (o_lp (bX9_swap_23) n23)) n36) [some (.ref l0), some (.int l1), some (.int l2), some (.int l3), some (.int l4), some (.int l5), none, none, none] [] M
def FX9_swap_139 (n23 : Nat) (n36 : Nat) (l0 : Nat) (l1 : Int32) (l2 : Int32) (l4 : Int32) (l5 : Int32) (l8 : Int32) (s0 : Int32) (M : Hx) : Option (Int32 × Hx) := bX9_swap_139 (o_lp (bX9_swap_23) n23) (o_lp (bX9_swap_36 (o_lp (bX9_swap_23) n23)) n36) [some (.ref l0), some (.int l1), some (.int l2), none, some (.int l4), some (.int l5), none, none, some (.int l8)] [.int s0] M
def FX9_swap_152 (n23 : Nat) (n36 : Nat) (l0 : Nat) (l1 : Int32) (l3 : Int32) (l4 : Int32) (l5 : Int32) (s0 : Int32) (M : Hx) : Option (Int32 × Hx) := bX9_swap_152 (o_lp (bX9_swap_23) n23) (o_lp (bX9_swap_36 (o_lp (bX9_swap_23) n23)) n36) [some (.ref l0), some (.int l1), none, some (.int l3), some (.int l4), some (.int l5), none, none, none] [.int s0] M
def FX9_swap_175 (l3 : Int32) (M : Hx) : Option (Int32 × Hx) := bX9_swap_175 [none, none, none, some (.int l3), none, none, none, none, none] [] M
def FX9_swap_180 (s0 : Int32) (M : Hx) : Option (Int32 × Hx) := bX9_swap_180 [none, none, none, none, none, none, none, none, none] [.int s0] M
set_option maxRecDepth 100000 in
theorem eX9_swap (l0 : Nat) (l1 : Int32) (M : Hx) : FX9_swap l0 l1 M = (bnd (FX9_in l1.toInt64 (lN 0) (lN 1) M) (fun q1 => if q1.1 = nI 0 then (some ((mi 1), q1.2)) else (gd (h_K q1.2 8 l0) <| bnd (FX9_worthNow l0 q1.2) (fun q2 => FX9_swap_23 fu l0 l1 q2.1 (mi 4) (nI 0) q2.2) ())) ()) := rfl
set_option maxRecDepth 100000 in
theorem eX9_swap_23 (n23 : Nat) (l0 : Nat) (l1 : Int32) (l2 : Int32) (l3 : Int32) (l4 : Int32) (M : Hx) : FX9_swap_23 (n23 + 1) l0 l1 l2 l3 l4 M = (if (nI 10) ≤ l4 then (if l3 = (mi 4) then (FX9_swap_175 l3 M) else if l1 = nI 0 then (FX9_swap_175 l3 M) else (FX9_swap_180 l2 M)) else FX9_swap_36 n23 fu l0 l1 l2 l3 l4 (l4 + (nI 1)) M) := rfl
set_option maxRecDepth 100000 in
theorem eX9_swap_36 (n23 : Nat) (n36 : Nat) (l0 : Nat) (l1 : Int32) (l2 : Int32) (l3 : Int32) (l4 : Int32) (l5 : Int32) (M : Hx) : FX9_swap_36 n23 (n36 + 1) l0 l1 l2 l3 l4 l5 M = (if (nI 10) ≤ l5 then (FX9_swap_23 n23 l0 l1 l2 l3 (l4 + (nI 1)) M) else bnd (h_R M 8 l0 0) (fun r3 => bnd (h_A M 0 r3 ((nI 26) + l4)) (fun x4 => bnd (h_R M 8 l0 0) (fun r5 => bnd (h_A M 0 r5 ((nI 26) + l5)) (fun x6 => bnd (h_R M 8 l0 0) (fun r7 => bnd (h_S M 0 r7 ((nI 26) + l4) x6) (fun M8 => bnd (h_R M8 8 l0 0) (fun r9 => bnd (h_S M8 0 r9 ((nI 26) + l5) x4) (fun M10 => gd (h_K M10 8 l0) <| bnd (FX9_worthNow l0 M10) (fun q11 => bnd (h_R q11.2 8 l0 0) (fun r12 => bnd (h_S q11.2 0 r12 ((nI 26) + l4) x4) (fun M13 => bnd (h_R M13 8 l0 0) (fun r14 => bnd (h_S M13 0 r14 ((nI 26) + l5) x6) (fun M15 => if q11.1 ≤ l2 then (FX9_swap_139 n23 n36 l0 l1 l2 l4 l5 q11.1 l3 M15) else FX9_swap_139 n23 n36 l0 l1 l2 l4 l5 q11.1 (((nI 10) * l4) + l5) M15) ()) ()) ()) ()) ()) ()) ()) ()) ()) ()) ()) ()) ()) := rfl
set_option maxRecDepth 100000 in
theorem eX9_swap_139 (n23 : Nat) (n36 : Nat) (l0 : Nat) (l1 : Int32) (l2 : Int32) (l4 : Int32) (l5 : Int32) (l8 : Int32) (s0 : Int32) (M : Hx) : FX9_swap_139 n23 n36 l0 l1 l2 l4 l5 l8 s0 M = (if l8 ≤ l2 then (FX9_swap_152 n23 n36 l0 l1 s0 l4 l5 l2 M) else FX9_swap_152 n23 n36 l0 l1 s0 l4 l5 l8 M) := rfl
set_option maxRecDepth 100000 in
theorem eX9_swap_152 (n23 : Nat) (n36 : Nat) (l0 : Nat) (l1 : Int32) (l3 : Int32) (l4 : Int32) (l5 : Int32) (s0 : Int32) (M : Hx) : FX9_swap_152 n23 n36 l0 l1 l3 l4 l5 s0 M = (FX9_swap_36 n23 n36 l0 l1 s0 l3 l4 (l5 + (nI 1)) M) := rfl
set_option maxRecDepth 100000 in
theorem eX9_swap_175 (l3 : Int32) (M : Hx) : FX9_swap_175 l3 M = (FX9_swap_180 l3 M) := rfl
set_option maxRecDepth 100000 in
theorem eX9_swap_180 (s0 : Int32) (M : Hx) : FX9_swap_180 s0 M = (some (s0, M)) := rfl
def FX9_give (l0 : Nat) (l1 : Int32) (M : Hx) : Option (Int32 × Hx) := fX9_give [.ref l0, .int l1] M
def FX9_give_23 (n23 : Nat) (l0 : Nat) (l1 : Int32) (l2 : Int32) (l3 : Int32) (l4 : Int32) (M : Hx) : Option (Int32 × Hx) := (o_lp (bX9_give_23) n23) [some (.ref l0), some (.int l1), some (.int l2), some (.int l3), some (.int l4), none, none, none] [] M
def FX9_give_45 (n23 : Nat) (n45 : Nat) (l0 : Nat) (l1 : Int32) (l2 : Int32) (l3 : Int32) (l4 : Int32) (l5 : Int32) (l6 : Int32) (M : Hx) : Option (Int32 × Hx) := (o_lp (bX9_give_45 (o_lp (bX9_give_23) n23)) n45) [some (.ref l0), some (.int l1), some (.int l2), some (.int l3), some (.int l4), some (.int l5), some (.int l6), none] [] M
def FX9_give_92 (n23 : Nat) (n45 : Nat) (l0 : Nat) (l1 : Int32) (l2 : Int32) (l4 : Int32) (l5 : Int32) (l6 : Int32) (l7 : Int32) (s0 : Int32) (M : Hx) : Option (Int32 × Hx) := bX9_give_92 (o_lp (bX9_give_23) n23) (o_lp (bX9_give_45 (o_lp (bX9_give_23) n23)) n45) [some (.ref l0), some (.int l1), some (.int l2), none, some (.int l4), some (.int l5), some (.int l6), some (.int l7)] [.int s0] M
def FX9_give_105 (n23 : Nat) (n45 : Nat) (l0 : Nat) (l1 : Int32) (l3 : Int32) (l4 : Int32) (l5 : Int32) (l6 : Int32) (s0 : Int32) (M : Hx) : Option (Int32 × Hx) := bX9_give_105 (o_lp (bX9_give_23) n23) (o_lp (bX9_give_45 (o_lp (bX9_give_23) n23)) n45) [some (.ref l0), some (.int l1), none, some (.int l3), some (.int l4), some (.int l5), some (.int l6), none] [.int s0] M
def FX9_give_140 (l3 : Int32) (M : Hx) : Option (Int32 × Hx) := bX9_give_140 [none, none, none, some (.int l3), none, none, none, none] [] M
def FX9_give_145 (s0 : Int32) (M : Hx) : Option (Int32 × Hx) := bX9_give_145 [none, none, none, none, none, none, none, none] [.int s0] M
set_option maxRecDepth 100000 in
theorem eX9_give (l0 : Nat) (l1 : Int32) (M : Hx) : FX9_give l0 l1 M = (bnd (FX9_in l1.toInt64 (lN 0) (lN 1) M) (fun q1 => if q1.1 = nI 0 then (some ((mi 1), q1.2)) else (gd (h_K q1.2 8 l0) <| bnd (FX9_worthNow l0 q1.2) (fun q2 => FX9_give_23 fu l0 l1 q2.1 (mi 4) (nI 0) q2.2) ())) ()) := rfl
set_option maxRecDepth 100000 in
theorem eX9_give_23 (n23 : Nat) (l0 : Nat) (l1 : Int32) (l2 : Int32) (l3 : Int32) (l4 : Int32) (M : Hx) : FX9_give_23 (n23 + 1) l0 l1 l2 l3 l4 M = (if (nI 10) ≤ l4 then (if l3 = (mi 4) then (FX9_give_140 l3 M) else if l1 = nI 0 then (FX9_give_140 l3 M) else (FX9_give_145 l2 M)) else bnd (h_R M 8 l0 0) (fun r3 => bnd (h_A M 0 r3 ((nI 26) + l4)) (fun x4 => FX9_give_45 n23 fu l0 l1 l2 l3 l4 x4 (nI 0) M) ()) ()) := rfl
set_option maxRecDepth 100000 in
theorem eX9_give_45 (n23 : Nat) (n45 : Nat) (l0 : Nat) (l1 : Int32) (l2 : Int32) (l3 : Int32) (l4 : Int32) (l5 : Int32) (l6 : Int32) (M : Hx) : FX9_give_45 n23 (n45 + 1) l0 l1 l2 l3 l4 l5 l6 M = (bnd (h_I M 8 l0 2) (fun x5 => if x5 ≤ l6 then (bnd (h_R M 8 l0 0) (fun r6 => bnd (h_S M 0 r6 ((nI 26) + l4) l5) (fun M7 => FX9_give_23 n23 l0 l1 l2 l3 (l4 + (nI 1)) M7) ()) ()) else bnd (h_R M 8 l0 0) (fun r8 => bnd (h_S M 0 r8 ((nI 26) + l4) (l6 + (nI 1))) (fun M9 => gd (h_K M9 8 l0) <| bnd (FX9_worthNow l0 M9) (fun q10 => if q10.1 ≤ l2 then (FX9_give_92 n23 n45 l0 l1 l2 l4 l5 l6 q10.1 l3 q10.2) else FX9_give_92 n23 n45 l0 l1 l2 l4 l5 l6 q10.1 (((nI 10) * l4) + l6) q10.2) ()) ()) ()) ()) := rfl
set_option maxRecDepth 100000 in
theorem eX9_give_92 (n23 : Nat) (n45 : Nat) (l0 : Nat) (l1 : Int32) (l2 : Int32) (l4 : Int32) (l5 : Int32) (l6 : Int32) (l7 : Int32) (s0 : Int32) (M : Hx) : FX9_give_92 n23 n45 l0 l1 l2 l4 l5 l6 l7 s0 M = (if l7 ≤ l2 then (FX9_give_105 n23 n45 l0 l1 s0 l4 l5 l6 l2 M) else FX9_give_105 n23 n45 l0 l1 s0 l4 l5 l6 l7 M) := rfl
set_option maxRecDepth 100000 in
theorem eX9_give_105 (n23 : Nat) (n45 : Nat) (l0 : Nat) (l1 : Int32) (l3 : Int32) (l4 : Int32) (l5 : Int32) (l6 : Int32) (s0 : Int32) (M : Hx) : FX9_give_105 n23 n45 l0 l1 l3 l4 l5 l6 s0 M = (FX9_give_45 n23 n45 l0 l1 s0 l3 l4 l5 (l6 + (nI 1)) M) := rfl
set_option maxRecDepth 100000 in
theorem eX9_give_140 (l3 : Int32) (M : Hx) : FX9_give_140 l3 M = (FX9_give_145 l3 M) := rfl
set_option maxRecDepth 100000 in
theorem eX9_give_145 (s0 : Int32) (M : Hx) : FX9_give_145 s0 M = (some (s0, M)) := rfl
def FX9_bitsOf (l0 : Int32) (M : Hx) : Option (Int32 × Hx) := fX9_bitsOf [.int l0] M
def FX9_bitsOf_4 (n4 : Nat) (l0 : Int32) (l1 : Int32) (l2 : Int32) (M : Hx) : Option (Int32 × Hx) := (o_lp (bX9_bitsOf_4) n4) [some (.int l0), some (.int l1), some (.int l2)] [] M
set_option maxRecDepth 100000 in
theorem eX9_bitsOf (l0 : Int32) (M : Hx) : FX9_bitsOf l0 M = (FX9_bitsOf_4 fu l0 (nI 0) (nI 0) M) := by
  delta FX9_bitsOf FX9_bitsOf_4 fX9_bitsOf bX9_bitsOf_0
  generalize o_lp bX9_bitsOf_4 fu = K
  rfl
set_option maxRecDepth 100000 in
theorem eX9_bitsOf_4 (n4 : Nat) (l0 : Int32) (l1 : Int32) (l2 : Int32) (M : Hx) : FX9_bitsOf_4 (n4 + 1) l0 l1 l2 M = (if (nI 10) ≤ l2 then (some (l1, M)) else FX9_bitsOf_4 n4 l0 (l1 + ((l0 >>> (l2 &&& nI 31)) &&& (nI 1))) (l2 + (nI 1)) M) := rfl
def FX9_mend (l0 : Nat) (l1 : Int32) (M : Hx) : Option (Int32 × Hx) := fX9_mend [.ref l0, .int l1] M
def FX9_mend_41 (l0 : Nat) (l2 : Int32) (M : Hx) : Option (Int32 × Hx) := bX9_mend_41 [some (.ref l0), none, some (.int l2)] [] M
def FX9_mend_47 (s0 : Int32) (M : Hx) : Option (Int32 × Hx) := bX9_mend_47 [none, none, none] [.int s0] M
set_option maxRecDepth 100000 in
theorem eX9_mend (l0 : Nat) (l1 : Int32) (M : Hx) : FX9_mend l0 l1 M = (bnd (FX9_isThing l1 M) (fun q1 => if q1.1 = nI 0 then (some ((mi 1), q1.2)) else (gd (h_K q1.2 8 l0) <| bnd (FX9_hoursGo l0 q1.2) (fun q2 => gd (h_K q2.2 8 l0) <| bnd (FX9_rightOf l0 l1 (nI 9) (nI 0) q2.2) (fun q3 => bnd (FX9_bitsOf q3.1 q3.2) (fun q4 => if q4.1 = nI 0 then (bnd (h_I q4.2 8 l0 2) (fun x5 => if x5 ≤ nI 0 then (FX9_mend_41 l0 q4.1 q4.2) else FX9_mend_47 (mi 4) q4.2) ()) else (FX9_mend_41 l0 q4.1 q4.2)) ()) ()) ())) ()) := by
  delta FX9_mend fX9_mend FX9_bitsOf bX9_mend_0 bX9_mend_7 bX9_mend_9 bX9_mend_29 bX9_mend_36 bX9_mend_41 bX9_mend_47
  generalize fX9_bitsOf = f
  rfl
set_option maxRecDepth 100000 in
theorem eX9_mend_41 (l0 : Nat) (l2 : Int32) (M : Hx) : FX9_mend_41 l0 l2 M = (bnd (h_I M 8 l0 2) (fun x6 => FX9_mend_47 (x6 - l2) M) ()) := rfl
set_option maxRecDepth 100000 in
theorem eX9_mend_47 (s0 : Int32) (M : Hx) : FX9_mend_47 s0 M = (some (s0, M)) := rfl
def FX9_lowest (l0 : Int64) (l2 : Int64) (l4 : Int32) (M : Hx) : Option (Int64 × Hx) := fX9_lowest [.long l0, .long l2, .int l4] M
def FX9_lowest_6 (n6 : Nat) (l0 : Int64) (l2 : Int64) (l4 : Int32) (l5 : Int64) (l7 : Int64) (M : Hx) : Option (Int64 × Hx) := (o_lp (bX9_lowest_6) n6) [some (.long l0), none, some (.long l2), none, some (.int l4), some (.long l5), none, some (.long l7), none, none, none] [] M
def FX9_lowest_41 (l5 : Int64) (s0 : Int64) (M : Hx) : Option (Int64 × Hx) := bX9_lowest_41 [none, none, none, none, none, some (.long l5), none, none, none, none, none] [.long s0] M
set_option maxRecDepth 100000 in
theorem eX9_lowest (l0 : Int64) (l2 : Int64) (l4 : Int32) (M : Hx) : FX9_lowest l0 l2 l4 M = (FX9_lowest_6 fu l0 l2 l4 l0 l2 M) := rfl
set_option maxRecDepth 100000 in
theorem eX9_lowest_6 (n6 : Nat) (l0 : Int64) (l2 : Int64) (l4 : Int32) (l5 : Int64) (l7 : Int64) (M : Hx) : FX9_lowest_6 (n6 + 1) l0 l2 l4 l5 l7 M = (if (lg_cmp l7 (lN 0)) = nI 0 then (if l4 = nI 0 then (FX9_lowest_41 l5 l0 M) else (FX9_lowest_41 l5 l2 M)) else if l7 = lN 0 then none else FX9_lowest_6 n6 l0 l2 l4 l7 (l5 - l5 / l7 * l7) M) := rfl
set_option maxRecDepth 100000 in
theorem eX9_lowest_41 (l5 : Int64) (s0 : Int64) (M : Hx) : FX9_lowest_41 l5 s0 M = (if l5 = lN 0 then none else some ((s0 / l5), M)) := rfl
def FX9_isHandOver (l0 : Nat) (l1 : Int32) (M : Hx) : Option (Int32 × Hx) := fX9_isHandOver [.ref l0, .int l1] M
def FX9_isHandOver_27  (M : Hx) : Option (Int32 × Hx) := bX9_isHandOver_27 [none, none] [] M
def FX9_isHandOver_31  (M : Hx) : Option (Int32 × Hx) := bX9_isHandOver_31 [none, none] [] M
def FX9_isHandOver_32 (s0 : Int32) (M : Hx) : Option (Int32 × Hx) := bX9_isHandOver_32 [none, none] [.int s0] M
set_option maxRecDepth 100000 in
theorem eX9_isHandOver (l0 : Nat) (l1 : Int32) (M : Hx) : FX9_isHandOver l0 l1 M = (gd (h_K M 8 l0) <| bnd (FX9_hasIt l0 l1 M) (fun q1 => if q1.1 < nI 0 then (FX9_isHandOver_31 q1.2) else if l1 = nI 0 then (FX9_isHandOver_27 q1.2) else gd (h_K q1.2 8 l0) <| bnd (FX9_hasIt l0 (l1 - (nI 1)) q1.2) (fun q2 => gd (h_K q2.2 8 l0) <| bnd (FX9_hasIt l0 l1 q2.2) (fun q3 => if q2.1 = q3.1 then (FX9_isHandOver_31 q3.2) else FX9_isHandOver_27 q3.2) ()) ()) ()) := rfl
set_option maxRecDepth 100000 in
theorem eX9_isHandOver_27  (M : Hx) : FX9_isHandOver_27  M = (FX9_isHandOver_32 (nI 1) M) := rfl
set_option maxRecDepth 100000 in
theorem eX9_isHandOver_31  (M : Hx) : FX9_isHandOver_31  M = (FX9_isHandOver_32 (nI 0) M) := rfl
set_option maxRecDepth 100000 in
theorem eX9_isHandOver_32 (s0 : Int32) (M : Hx) : FX9_isHandOver_32 s0 M = (if s0 = nI 0 ∨ s0 = nI 1 then some (s0, M) else none) := rfl
