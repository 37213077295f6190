def FX7_look (l0 : Nat) (l1 : Nat) (l2 : Nat) (M : Hx) : Option (Unit × Hx) := fX7_look [.ref l0, .ref l1, .ref l2] M
def FX7_look_2 (n2 : Nat) (l0 : Nat) (l1 : Nat) (l2 : Nat) (l3 : Int32) (M : Hx) : Option (Unit × Hx) := (o_lp (bX7_look_2) n2) [some (.ref l0), some (.ref l1), some (.ref l2), some (.int l3), none] [] M
def FX7_look_22 (n22 : Nat) (l0 : Nat) (l1 : Nat) (l2 : Nat) (l3 : Int32) (M : Hx) : Option (Unit × Hx) := (o_lp (bX7_look_22) n22) [some (.ref l0), some (.ref l1), some (.ref l2), some (.int l3), none] [] M
def FX7_look_83 (n22 : Nat) (l0 : Nat) (l1 : Nat) (l2 : Nat) (l3 : Int32) (M : Hx) : Option (Unit × Hx) := bX7_look_83 (o_lp (bX7_look_22) n22) [some (.ref l0), some (.ref l1), some (.ref l2), some (.int l3), none] [] M
def FX7_look_89  (M : Hx) : Option (Unit × Hx) := bX7_look_89 [none, none, none, none, none] [] M
set_option maxRecDepth 100000 in
theorem eX7_look (l0 : Nat) (l1 : Nat) (l2 : Nat) (M : Hx) : FX7_look l0 l1 l2 M = (FX7_look_2 fu l0 l1 l2 (nI 0) M) := rfl
set_option maxRecDepth 100000 in
theorem eX7_look_2 (n2 : Nat) (l0 : Nat) (l1 : Nat) (l2 : Nat) (l3 : Int32) (M : Hx) : FX7_look_2 (n2 + 1) l0 l1 l2 l3 M = (if (nI 5) ≤ l3 then (FX7_look_22 fu l0 l1 l2 (nI 0) M) else bnd (h_R M 6 l0 2) (fun r1 => bnd (h_S M 0 r1 l3 (nI 0)) (fun M2 => FX7_look_2 n2 l0 l1 l2 (l3 + (nI 1)) M2) ()) ()) := rfl
set_option maxRecDepth 100000 in
theorem eX7_look_22 (n22 : Nat) (l0 : Nat) (l1 : Nat) (l2 : Nat) (l3 : Int32) (M : Hx) : FX7_look_22 (n22 + 1) l0 l1 l2 l3 M = (if (nI 10) ≤ l3 then (FX7_look_89 M) else bnd (h_L M l2) (fun x3 => if x3 ≤ l3 then (FX7_look_89 M) else bnd (FX7_seerIn l1 l2 l3 M) (fun q4 => bnd (h_R q4.2 6 l0 0) (fun r5 => bnd (h_A q4.2 0 l2 l3) (fun x6 => bnd (h_S q4.2 0 r5 l3 x6) (fun M7 => bnd (h_R M7 6 l0 1) (fun r8 => bnd (h_S M7 0 r8 l3 q4.1) (fun M9 => if q4.1 < nI 0 then (FX7_look_83 n22 l0 l1 l2 l3 M9) else if (nI 5) ≤ q4.1 then (FX7_look_83 n22 l0 l1 l2 l3 M9) else bnd (h_R M9 6 l0 2) (fun r10 => bnd (h_A M9 0 r10 q4.1) (fun x11 => bnd (h_S M9 0 r10 q4.1 (x11 ||| ((nI 1) <<< (l3 &&& nI 31)))) (fun M12 => FX7_look_83 n22 l0 l1 l2 l3 M12) ()) ()) ()) ()) ()) ()) ()) ()) ()) ()) := rfl
set_option maxRecDepth 100000 in
theorem eX7_look_83 (n22 : Nat) (l0 : Nat) (l1 : Nat) (l2 : Nat) (l3 : Int32) (M : Hx) : FX7_look_83 n22 l0 l1 l2 l3 M = (FX7_look_22 n22 l0 l1 l2 (l3 + (nI 1)) M) := rfl
set_option maxRecDepth 100000 in
theorem eX7_look_89  (M : Hx) : FX7_look_89  M = (some ((), M)) := rfl
def FX7_hoursOf (l0 : Nat) (l1 : Int32) (M : Hx) : Option (Int32 × Hx) := fX7_hoursOf [.ref l0, .int l1] M
def FX7_hoursOf_18  (M : Hx) : Option (Int32 × Hx) := bX7_hoursOf_18 [none, none] [] M
def FX7_hoursOf_19 (s0 : Int32) (M : Hx) : Option (Int32 × Hx) := bX7_hoursOf_19 [none, none] [.int s0] M
set_option maxRecDepth 100000 in
theorem eX7_hoursOf (l0 : Nat) (l1 : Int32) (M : Hx) : FX7_hoursOf l0 l1 M = (if l1 < nI 0 then (FX7_hoursOf_18 M) else if (nI 5) ≤ l1 then (FX7_hoursOf_18 M) else bnd (h_R M 6 l0 2) (fun r1 => bnd (h_A M 0 r1 l1) (fun x2 => FX7_hoursOf_19 x2 M) ()) ()) := rfl
set_option maxRecDepth 100000 in
theorem eX7_hoursOf_18  (M : Hx) : FX7_hoursOf_18  M = (FX7_hoursOf_19 (nI 0) M) := rfl
set_option maxRecDepth 100000 in
theorem eX7_hoursOf_19 (s0 : Int32) (M : Hx) : FX7_hoursOf_19 s0 M = (some (s0, M)) := rfl
def FX7_hoursSeen (l0 : Nat) (M : Hx) : Option (Int32 × Hx) := fX7_hoursSeen [.ref l0] M
def FX7_hoursSeen_4 (n4 : Nat) (l0 : Nat) (l1 : Int32) (l2 : Int32) (M : Hx) : Option (Int32 × Hx) := (o_lp (bX7_hoursSeen_4) n4) [some (.ref l0), some (.int l1), some (.int l2)] [] M
set_option maxRecDepth 100000 in
theorem eX7_hoursSeen (l0 : Nat) (M : Hx) : FX7_hoursSeen l0 M = (FX7_hoursSeen_4 fu l0 (nI 0) (nI 0) M) := rfl
set_option maxRecDepth 100000 in
theorem eX7_hoursSeen_4 (n4 : Nat) (l0 : Nat) (l1 : Int32) (l2 : Int32) (M : Hx) : FX7_hoursSeen_4 (n4 + 1) l0 l1 l2 M = (if (nI 5) ≤ l2 then (some (l1, M)) else bnd (h_R M 6 l0 2) (fun r1 => bnd (h_A M 0 r1 l2) (fun x2 => FX7_hoursSeen_4 n4 l0 (l1 ||| x2) (l2 + (nI 1)) M) ()) ()) := rfl
def FX7_isDone (l0 : Nat) (l1 : Nat) (l2 : Int32) (M : Hx) : Option (Int32 × Hx) := fX7_isDone [.ref l0, .ref l1, .int l2] M
def FX7_isDone_57 (s0 : Int32) (M : Hx) : Option (Int32 × Hx) := bX7_isDone_57 [none, none, none, none, none, none] [.int s0] M
set_option maxRecDepth 100000 in
theorem eX7_isDone (l0 : Nat) (l1 : Nat) (l2 : Int32) (M : Hx) : FX7_isDone l0 l1 l2 M = (bnd (h_R M 1 l1 2) (fun r1 => gd (h_K M 5 r1) <| bnd (FX6_at r1 l2 (nI 1) M) (fun q2 => bnd (h_R q2.2 1 l1 2) (fun r3 => gd (h_K q2.2 5 r3) <| bnd (FX6_at r3 l2 (nI 2) q2.2) (fun q4 => bnd (h_R q4.2 1 l1 2) (fun r5 => gd (h_K q4.2 5 r5) <| bnd (FX6_at r5 l2 (nI 0) q4.2) (fun q6 => gd (h_K q6.2 6 l0) <| bnd (FX7_hoursOf l0 q6.1 q6.2) (fun q7 => if (q7.1 &&& (((nI 1) <<< ((q4.1 + (nI 1)) &&& nI 31)) - ((nI 1) <<< (q2.1 &&& nI 31)))) = nI 0 then (FX7_isDone_57 (nI 0) q7.2) else FX7_isDone_57 (nI 1) q7.2) ()) ()) ()) ()) ()) ()) ()) := rfl
set_option maxRecDepth 100000 in
theorem eX7_isDone_57 (s0 : Int32) (M : Hx) : FX7_isDone_57 s0 M = (if s0 = nI 0 ∨ s0 = nI 1 then some (s0, M) else none) := rfl
def FX7_donePieces (l0 : Nat) (l1 : Nat) (M : Hx) : Option (Int32 × Hx) := fX7_donePieces [.ref l0, .ref l1] M
def FX7_donePieces_4 (n4 : Nat) (l0 : Nat) (l1 : Nat) (l2 : Int32) (l3 : Int32) (M : Hx) : Option (Int32 × Hx) := (o_lp (bX7_donePieces_4) n4) [some (.ref l0), some (.ref l1), some (.int l2), some (.int l3)] [] M
def FX7_donePieces_32 (n4 : Nat) (l0 : Nat) (l1 : Nat) (l3 : Int32) (s0 : Int32) (s1 : Int32) (M : Hx) : Option (Int32 × Hx) := bX7_donePieces_32 (o_lp (bX7_donePieces_4) n4) [some (.ref l0), some (.ref l1), none, some (.int l3)] [.int s1, .int s0] M
set_option maxRecDepth 100000 in
theorem eX7_donePieces (l0 : Nat) (l1 : Nat) (M : Hx) : FX7_donePieces l0 l1 M = (FX7_donePieces_4 fu l0 l1 (nI 0) (nI 0) M) := rfl
set_option maxRecDepth 100000 in
theorem eX7_donePieces_4 (n4 : Nat) (l0 : Nat) (l1 : Nat) (l2 : Int32) (l3 : Int32) (M : Hx) : FX7_donePieces_4 (n4 + 1) l0 l1 l2 l3 M = (bnd (h_R M 1 l1 2) (fun r1 => bnd (h_I M 5 r1 3) (fun x2 => if x2 ≤ l3 then (some (l2, M)) else gd (h_K M 6 l0) <| bnd (FX7_isDone l0 l1 l3 M) (fun q3 => if q3.1 = nI 0 then (FX7_donePieces_32 n4 l0 l1 l3 l2 (nI 0) q3.2) else FX7_donePieces_32 n4 l0 l1 l3 l2 ((nI 1) <<< (l3 &&& nI 31)) q3.2) ()) ()) ()) := rfl
set_option maxRecDepth 100000 in
theorem eX7_donePieces_32 (n4 : Nat) (l0 : Nat) (l1 : Nat) (l3 : Int32) (s0 : Int32) (s1 : Int32) (M : Hx) : FX7_donePieces_32 n4 l0 l1 l3 s0 s1 M = (FX7_donePieces_4 n4 l0 l1 (s0 ||| s1) (l3 + (nI 1)) M) := rfl
def FX7_doneWorth (l0 : Nat) (l1 : Nat) (M : Hx) : Option (Int32 × Hx) := fX7_doneWorth [.ref l0, .ref l1] M
def FX7_doneWorth_4 (n4 : Nat) (l0 : Nat) (l1 : Nat) (l2 : Int32) (l3 : Int32) (M : Hx) : Option (Int32 × Hx) := (o_lp (bX7_doneWorth_4) n4) [some (.ref l0), some (.ref l1), some (.int l2), some (.int l3)] [] M
def FX7_doneWorth_34 (n4 : Nat) (l0 : Nat) (l1 : Nat) (l3 : Int32) (s0 : Int32) (s1 : Int32) (M : Hx) : Option (Int32 × Hx) := bX7_doneWorth_34 (o_lp (bX7_doneWorth_4) n4) [some (.ref l0), some (.ref l1), none, some (.int l3)] [.int s1, .int s0] M
set_option maxRecDepth 100000 in
theorem eX7_doneWorth (l0 : Nat) (l1 : Nat) (M : Hx) : FX7_doneWorth l0 l1 M = (FX7_doneWorth_4 fu l0 l1 (nI 0) (nI 0) M) := rfl
set_option maxRecDepth 100000 in
theorem eX7_doneWorth_4 (n4 : Nat) (l0 : Nat) (l1 : Nat) (l2 : Int32) (l3 : Int32) (M : Hx) : FX7_doneWorth_4 (n4 + 1) l0 l1 l2 l3 M = (bnd (h_R M 1 l1 2) (fun r1 => bnd (h_I M 5 r1 3) (fun x2 => if x2 ≤ l3 then (some (l2, M)) else gd (h_K M 6 l0) <| bnd (FX7_isDone l0 l1 l3 M) (fun q3 => if q3.1 = nI 0 then (FX7_doneWorth_34 n4 l0 l1 l3 l2 (nI 0) q3.2) else gd (h_K q3.2 1 l1) <| bnd (FX1_worthOf l1 l3 q3.2) (fun q4 => FX7_doneWorth_34 n4 l0 l1 l3 l2 q4.1 q4.2) ()) ()) ()) ()) := rfl
set_option maxRecDepth 100000 in
theorem eX7_doneWorth_34 (n4 : Nat) (l0 : Nat) (l1 : Nat) (l3 : Int32) (s0 : Int32) (s1 : Int32) (M : Hx) : FX7_doneWorth_34 n4 l0 l1 l3 s0 s1 M = (FX7_doneWorth_4 n4 l0 l1 (s0 + s1) (l3 + (nI 1)) M) := rfl
def FX7_chancesOf (l0 : Nat) (l1 : Nat) (l2 : Int32) (M : Hx) : Option (Int32 × Hx) := fX7_chancesOf [.ref l0, .ref l1, .int l2] M
def FX7_chancesOf_41 (n41 : Nat) (l0 : Nat) (l3 : Int32) (l4 : Int32) (l5 : Int32) (l6 : Int32) (l7 : Int32) (l8 : Int32) (M : Hx) : Option (Int32 × Hx) := (o_lp (bX7_chancesOf_41) n41) [some (.ref l0), none, none, some (.int l3), some (.int l4), some (.int l5), some (.int l6), some (.int l7), some (.int l8)] [] M
def FX7_chancesOf_101 (n41 : Nat) (l0 : Nat) (l3 : Int32) (l4 : Int32) (l5 : Int32) (l6 : Int32) (l7 : Int32) (l8 : Int32) (M : Hx) : Option (Int32 × Hx) := bX7_chancesOf_101 (o_lp (bX7_chancesOf_41) n41) [some (.ref l0), none, none, some (.int l3), some (.int l4), some (.int l5), some (.int l6), some (.int l7), some (.int l8)] [] M
set_option maxRecDepth 100000 in
theorem eX7_chancesOf (l0 : Nat) (l1 : Nat) (l2 : Int32) (M : Hx) : FX7_chancesOf l0 l1 l2 M = (bnd (h_R M 1 l1 2) (fun r1 => gd (h_K M 5 r1) <| bnd (FX6_at r1 l2 (nI 0) M) (fun q2 => bnd (h_R q2.2 1 l1 2) (fun r3 => gd (h_K q2.2 5 r3) <| bnd (FX6_at r3 l2 (nI 1) q2.2) (fun q4 => bnd (h_R q4.2 1 l1 2) (fun r5 => gd (h_K q4.2 5 r5) <| bnd (FX6_at r5 l2 (nI 2) q4.2) (fun q6 => FX7_chancesOf_41 fu l0 q2.1 q4.1 q6.1 (nI 0) (nI 0) (nI 0) q6.2) ()) ()) ()) ()) ()) ()) := rfl
set_option maxRecDepth 100000 in
theorem eX7_chancesOf_41 (n41 : Nat) (l0 : Nat) (l3 : Int32) (l4 : Int32) (l5 : Int32) (l6 : Int32) (l7 : Int32) (l8 : Int32) (M : Hx) : FX7_chancesOf_41 (n41 + 1) l0 l3 l4 l5 l6 l7 l8 M = (if (nI 10) ≤ l8 then (some (l6, M)) else bnd (h_R M 6 l0 0) (fun r7 => bnd (h_A M 0 r7 l8) (fun x8 => if x8 = l3 then (if l7 = nI 0 then (if l8 < l4 then (FX7_chancesOf_101 n41 l0 l3 l4 l5 l6 l7 l8 M) else if l5 < l8 then (FX7_chancesOf_101 n41 l0 l3 l4 l5 l6 l7 l8 M) else bnd (h_R M 6 l0 1) (fun r9 => bnd (h_A M 0 r9 l8) (fun x10 => if x10 = l3 then (FX7_chancesOf_101 n41 l0 l3 l4 l5 (l6 + (nI 1)) (nI 1) l8 M) else (FX7_chancesOf_101 n41 l0 l3 l4 l5 l6 l7 l8 M)) ()) ()) else (FX7_chancesOf_101 n41 l0 l3 l4 l5 l6 l7 l8 M)) else FX7_chancesOf_101 n41 l0 l3 l4 l5 l6 (nI 0) l8 M) ()) ()) := rfl
set_option maxRecDepth 100000 in
theorem eX7_chancesOf_101 (n41 : Nat) (l0 : Nat) (l3 : Int32) (l4 : Int32) (l5 : Int32) (l6 : Int32) (l7 : Int32) (l8 : Int32) (M : Hx) : FX7_chancesOf_101 n41 l0 l3 l4 l5 l6 l7 l8 M = (FX7_chancesOf_41 n41 l0 l3 l4 l5 l6 l7 (l8 + (nI 1)) M) := rfl
def FX0_init (l0 : Nat) (M : Hx) : Option (Unit × Hx) := fX0_init [.ref l0] M
set_option maxRecDepth 100000 in
theorem eX0_init (l0 : Nat) (M : Hx) : FX0_init l0 M = (if ¬ (nI 150) < nI 0 ∧ (nI 150).toNatClampNeg ≤ 100000 ∧ M.length < 1000 then (bnd (h_P (M ++ [.inl (0, (nI 150).toNatClampNeg, .inl (fun _ => nI 0))]) 0 l0 0 (.ref (List.length M))) (fun M1 => if ¬ (nI 150) < nI 0 ∧ (nI 150).toNatClampNeg ≤ 100000 ∧ M1.length < 1000 then (bnd (h_P (M1 ++ [.inl (0, (nI 150).toNatClampNeg, .inl (fun _ => nI 0))]) 0 l0 1 (.ref (List.length M1))) (fun M2 => some ((), M2)) ()) else none) ()) else none) := rfl
def FX0_placeOf (l0 : Int32) (l1 : Int32) (l2 : Int32) (M : Hx) : Option (Int32 × Hx) := fX0_placeOf [.int l0, .int l1, .int l2] M
set_option maxRecDepth 100000 in
theorem eX0_placeOf (l0 : Int32) (l1 : Int32) (l2 : Int32) (M : Hx) : FX0_placeOf l0 l1 l2 M = (some (((((l2 * (nI 5)) + l0) * (nI 3)) + l1), M)) := rfl
def FX0_growOlder (l0 : Nat) (l1 : Nat) (l2 : Int32) (M : Hx) : Option (Unit × Hx) := fX0_growOlder [.ref l0, .ref l1, .int l2] M
def FX0_growOlder_2 (n2 : Nat) (l0 : Nat) (l1 : Nat) (l2 : Int32) (l3 : Int32) (M : Hx) : Option (Unit × Hx) := (o_lp (bX0_growOlder_2) n2) [some (.ref l0), some (.ref l1), some (.int l2), some (.int l3), none, none, none, none, none] [] M
def FX0_growOlder_17 (n2 : Nat) (n17 : Nat) (l0 : Nat) (l1 : Nat) (l2 : Int32) (l3 : Int32) (l4 : Int32) (l5 : Int32) (M : Hx) : Option (Unit × Hx) := (o_lp (bX0_growOlder_17 (o_lp (bX0_growOlder_2) n2)) n17) [some (.ref l0), some (.ref l1), some (.int l2), some (.int l3), some (.int l4), some (.int l5), none, none, none] [] M
def FX0_growOlder_71 (n2 : Nat) (n17 : Nat) (l0 : Nat) (l1 : Nat) (l2 : Int32) (l3 : Int32) (l4 : Int32) (l5 : Int32) (l6 : Int32) (l7 : Int32) (M : Hx) : Option (Unit × Hx) := bX0_growOlder_71 (o_lp (bX0_growOlder_2) n2) (o_lp (bX0_growOlder_17 (o_lp (bX0_growOlder_2) n2)) n17) [some (.ref l0), some (.ref l1), some (.int l2), some (.int l3), some (.int l4), some (.int l5), some (.int l6), some (.int l7), none] [] M
def FX0_growOlder_72 (n2 : Nat) (n17 : Nat) (l0 : Nat) (l1 : Nat) (l2 : Int32) (l3 : Int32) (l4 : Int32) (l5 : Int32) (l6 : Int32) (l7 : Int32) (s0 : Int32) (M : Hx) : Option (Unit × Hx) := bX0_growOlder_72 (o_lp (bX0_growOlder_2) n2) (o_lp (bX0_growOlder_17 (o_lp (bX0_growOlder_2) n2)) n17) [some (.ref l0), some (.ref l1), some (.int l2), some (.int l3), some (.int l4), some (.int l5), some (.int l6), some (.int l7), none] [.int s0] M
def FX0_growOlder_97 (n2 : Nat) (n17 : Nat) (l0 : Nat) (l1 : Nat) (l2 : Int32) (l3 : Int32) (l4 : Int32) (l5 : Int32) (l6 : Int32) (l7 : Int32) (l8 : Int32) (s0 : Nat) (s1 : Int32) (s2 : Int32) (M : Hx) : Option (Unit × Hx) := bX0_growOlder_97 (o_lp (bX0_growOlder_2) n2) (o_lp (bX0_growOlder_17 (o_lp (bX0_growOlder_2) n2)) n17) [some (.ref l0), some (.ref l1), some (.int l2), some (.int l3), some (.int l4), some (.int l5), some (.int l6), some (.int l7), some (.int l8)] [.int s2, .int s1, .ref s0] M
def FX0_growOlder_123 (n2 : Nat) (n17 : Nat) (l0 : Nat) (l1 : Nat) (l2 : Int32) (l3 : Int32) (l4 : Int32) (l5 : Int32) (s0 : Nat) (s1 : Int32) (s2 : Int32) (M : Hx) : Option (Unit × Hx) := bX0_growOlder_123 (o_lp (bX0_growOlder_2) n2) (o_lp (bX0_growOlder_17 (o_lp (bX0_growOlder_2) n2)) n17) [some (.ref l0), some (.ref l1), some (.int l2), some (.int l3), some (.int l4), some (.int l5), none, none, none] [.int s2, .int s1, .ref s0] M
set_option maxRecDepth 100000 in
theorem eX0_growOlder (l0 : Nat) (l1 : Nat) (l2 : Int32) (M : Hx) : FX0_growOlder l0 l1 l2 M = (FX0_growOlder_2 fu l0 l1 l2 (nI 0) M) := rfl
set_option maxRecDepth 100000 in
theorem eX0_growOlder_2 (n2 : Nat) (l0 : Nat) (l1 : Nat) (l2 : Int32) (l3 : Int32) (M : Hx) : FX0_growOlder_2 (n2 + 1) l0 l1 l2 l3 M = (if (nI 5) ≤ l3 then (some ((), M)) else gd (h_K M 1 l1) <| bnd (FX1_keepsOf l1 l3 M) (fun q1 => FX0_growOlder_17 n2 fu l0 l1 l2 l3 q1.1 (nI 0) q1.2) ()) := rfl
set_option maxRecDepth 100000 in
theorem eX0_growOlder_17 (n2 : Nat) (n17 : Nat) (l0 : Nat) (l1 : Nat) (l2 : Int32) (l3 : Int32) (l4 : Int32) (l5 : Int32) (M : Hx) : FX0_growOlder_17 n2 (n17 + 1) l0 l1 l2 l3 l4 l5 M = (if (nI 3) ≤ l5 then (FX0_growOlder_2 n2 l0 l1 l2 (l3 + (nI 1)) M) else bnd (FX0_placeOf l3 l5 l2 M) (fun q2 => if l2 ≤ nI 0 then (FX0_growOlder_71 n2 n17 l0 l1 l2 l3 l4 l5 q2.1 (q2.1 - (nI 15)) q2.2) else bnd (h_R q2.2 0 l0 0) (fun r3 => bnd (h_A q2.2 0 r3 (q2.1 - (nI 15))) (fun x4 => if x4 = (mi 4) then (FX0_growOlder_71 n2 n17 l0 l1 l2 l3 l4 l5 q2.1 (q2.1 - (nI 15)) q2.2) else bnd (h_R q2.2 0 l0 1) (fun r5 => bnd (h_A q2.2 0 r5 (q2.1 - (nI 15))) (fun x6 => if l4 ≤ x6 then (FX0_growOlder_71 n2 n17 l0 l1 l2 l3 l4 l5 q2.1 (q2.1 - (nI 15)) q2.2) else FX0_growOlder_72 n2 n17 l0 l1 l2 l3 l4 l5 q2.1 (q2.1 - (nI 15)) (nI 1) q2.2) ()) ()) ()) ()) ()) := rfl
set_option maxRecDepth 100000 in
theorem eX0_growOlder_71 (n2 : Nat) (n17 : Nat) (l0 : Nat) (l1 : Nat) (l2 : Int32) (l3 : Int32) (l4 : Int32) (l5 : Int32) (l6 : Int32) (l7 : Int32) (M : Hx) : FX0_growOlder_71 n2 n17 l0 l1 l2 l3 l4 l5 l6 l7 M = (FX0_growOlder_72 n2 n17 l0 l1 l2 l3 l4 l5 l6 l7 (nI 0) M) := rfl
set_option maxRecDepth 100000 in
theorem eX0_growOlder_72 (n2 : Nat) (n17 : Nat) (l0 : Nat) (l1 : Nat) (l2 : Int32) (l3 : Int32) (l4 : Int32) (l5 : Int32) (l6 : Int32) (l7 : Int32) (s0 : Int32) (M : Hx) : FX0_growOlder_72 n2 n17 l0 l1 l2 l3 l4 l5 l6 l7 s0 M = (bnd (h_R M 0 l0 0) (fun r7 => if s0 = nI 0 then (FX0_growOlder_97 n2 n17 l0 l1 l2 l3 l4 l5 l6 l7 s0 r7 l6 (mi 4) M) else bnd (h_R M 0 l0 0) (fun r8 => bnd (h_A M 0 r8 l7) (fun x9 => FX0_growOlder_97 n2 n17 l0 l1 l2 l3 l4 l5 l6 l7 s0 r7 l6 x9 M) ()) ()) ()) := rfl
set_option maxRecDepth 100000 in
theorem eX0_growOlder_97 (n2 : Nat) (n17 : Nat) (l0 : Nat) (l1 : Nat) (l2 : Int32) (l3 : Int32) (l4 : Int32) (l5 : Int32) (l6 : Int32) (l7 : Int32) (l8 : Int32) (s0 : Nat) (s1 : Int32) (s2 : Int32) (M : Hx) : FX0_growOlder_97 n2 n17 l0 l1 l2 l3 l4 l5 l6 l7 l8 s0 s1 s2 M = (bnd (h_S M 0 s0 s1 s2) (fun M10 => bnd (h_R M10 0 l0 1) (fun r11 => if l8 = nI 0 then (FX0_growOlder_123 n2 n17 l0 l1 l2 l3 l4 l5 r11 l6 (mi 4) M10) else bnd (h_R M10 0 l0 1) (fun r12 => bnd (h_A M10 0 r12 l7) (fun x13 => FX0_growOlder_123 n2 n17 l0 l1 l2 l3 l4 l5 r11 l6 (x13 + (nI 1)) M10) ()) ()) ()) ()) := rfl
set_option maxRecDepth 100000 in
theorem eX0_growOlder_123 (n2 : Nat) (n17 : Nat) (l0 : Nat) (l1 : Nat) (l2 : Int32) (l3 : Int32) (l4 : Int32) (l5 : Int32) (s0 : Nat) (s1 : Int32) (s2 : Int32) (M : Hx) : FX0_growOlder_123 n2 n17 l0 l1 l2 l3 l4 l5 s0 s1 s2 M = (bnd (h_S M 0 s0 s1 s2) (fun M14 => FX0_growOlder_17 n2 n17 l0 l1 l2 l3 l4 (l5 + (nI 1)) M14) ()) := rfl
def FX0_believe (l0 : Nat) (l1 : Int32) (l2 : Int32) (l3 : Int32) (M : Hx) : Option (Unit × Hx) := fX0_believe [.ref l0, .int l1, .int l2, .int l3] M
def FX0_believe_27  (M : Hx) : Option (Unit × Hx) := bX0_believe_27 [none, none, none, none] [] M
set_option maxRecDepth 100000 in
theorem eX0_believe (l0 : Nat) (l1 : Int32) (l2 : Int32) (l3 : Int32) (M : Hx) : FX0_believe l0 l1 l2 l3 M = (if l1 < nI 0 then (FX0_believe_27 M) else bnd (h_R M 0 l0 0) (fun r1 => bnd (h_L M r1) (fun x2 => if x2 ≤ l1 then (FX0_believe_27 M) else bnd (h_R M 0 l0 0) (fun r3 => bnd (h_S M 0 r3 l1 l2) (fun M4 => bnd (h_R M4 0 l0 1) (fun r5 => bnd (h_S M4 0 r5 l1 l3) (fun M6 => FX0_believe_27 M6) ()) ()) ()) ()) ()) ()) := rfl
set_option maxRecDepth 100000 in
theorem eX0_believe_27  (M : Hx) : FX0_believe_27  M = (some ((), M)) := rfl
def FX0_lookOut (l0 : Nat) (l1 : Nat) (l2 : Nat) (l3 : Int32) (M : Hx) : Option (Unit × Hx) := fX0_lookOut [.ref l0, .ref l1, .ref l2, .int l3] M
def FX0_lookOut_45  (M : Hx) : Option (Unit × Hx) := bX0_lookOut_45 [none, none, none, none, none, none] [] M
set_option maxRecDepth 100000 in
theorem eX0_lookOut (l0 : Nat) (l1 : Nat) (l2 : Nat) (l3 : Int32) (M : Hx) : FX0_lookOut l0 l1 l2 l3 M = (bnd (FX7_seerIn l1 l2 l3 M) (fun q1 => gd (h_K q1.2 1 l1) <| bnd (FX1_isOne l1 q1.1 q1.2) (fun q2 => if q2.1 = nI 0 then (FX0_lookOut_45 q2.2) else gd (h_K q2.2 1 l1) <| bnd (FX1_postOf l1 q1.1 q2.2) (fun q3 => bnd (FX0_placeOf q1.1 q3.1 l3 q3.2) (fun q4 => gd (h_K q4.2 1 l1) <| bnd (FX1_valueBehind l1 q3.1 l3 q4.2) (fun q5 => gd (h_K q5.2 0 l0) <| bnd (FX0_believe l0 q4.1 q5.1 (nI 0) q5.2) (fun q6 => FX0_lookOut_45 q6.2) ()) ()) ()) ()) ()) ()) := rfl
set_option maxRecDepth 100000 in
theorem eX0_lookOut_45  (M : Hx) : FX0_lookOut_45  M = (some ((), M)) := rfl
def FX0_valueOf (l0 : Nat) (l1 : Int32) (l2 : Int32) (l3 : Int32) (M : Hx) : Option (Int32 × Hx) := fX0_valueOf [.ref l0, .int l1, .int l2, .int l3] M
def FX0_valueOf_33  (M : Hx) : Option (Int32 × Hx) := bX0_valueOf_33 [none, none, none, none, none] [] M
def FX0_valueOf_35 (s0 : Int32) (M : Hx) : Option (Int32 × Hx) := bX0_valueOf_35 [none, none, none, none, none] [.int s0] M
set_option maxRecDepth 100000 in
theorem eX0_valueOf (l0 : Nat) (l1 : Int32) (l2 : Int32) (l3 : Int32) (M : Hx) : FX0_valueOf l0 l1 l2 l3 M = (bnd (FX0_placeOf l1 l2 l3 M) (fun q1 => if q1.1 < nI 0 then (FX0_valueOf_33 q1.2) else bnd (h_R q1.2 0 l0 0) (fun r2 => bnd (h_L q1.2 r2) (fun x3 => if x3 ≤ q1.1 then (FX0_valueOf_33 q1.2) else bnd (h_R q1.2 0 l0 0) (fun r4 => bnd (h_A q1.2 0 r4 q1.1) (fun x5 => FX0_valueOf_35 x5 q1.2) ()) ()) ()) ()) ()) := rfl
set_option maxRecDepth 100000 in
theorem eX0_valueOf_33  (M : Hx) : FX0_valueOf_33  M = (FX0_valueOf_35 (mi 4) M) := rfl
set_option maxRecDepth 100000 in
theorem eX0_valueOf_35 (s0 : Int32) (M : Hx) : FX0_valueOf_35 s0 M = (some (s0, M)) := rfl
def FX0_ageOf (l0 : Nat) (l1 : Int32) (l2 : Int32) (l3 : Int32) (M : Hx) : Option (Int32 × Hx) := fX0_ageOf [.ref l0, .int l1, .int l2, .int l3] M
def FX0_ageOf_33  (M : Hx) : Option (Int32 × Hx) := bX0_ageOf_33 [none, none, none, none, none] [] M
def FX0_ageOf_35 (s0 : Int32) (M : Hx) : Option (Int32 × Hx) := bX0_ageOf_35 [none, none, none, none, none] [.int s0] M
set_option maxRecDepth 100000 in
theorem eX0_ageOf (l0 : Nat) (l1 : Int32) (l2 : Int32) (l3 : Int32) (M : Hx) : FX0_ageOf l0 l1 l2 l3 M = (bnd (FX0_placeOf l1 l2 l3 M) (fun q1 => if q1.1 < nI 0 then (FX0_ageOf_33 q1.2) else bnd (h_R q1.2 0 l0 1) (fun r2 => bnd (h_L q1.2 r2) (fun x3 => if x3 ≤ q1.1 then (FX0_ageOf_33 q1.2) else bnd (h_R q1.2 0 l0 1) (fun r4 => bnd (h_A q1.2 0 r4 q1.1) (fun x5 => FX0_ageOf_35 x5 q1.2) ()) ()) ()) ()) ()) := rfl
set_option maxRecDepth 100000 in
theorem eX0_ageOf_33  (M : Hx) : FX0_ageOf_33  M = (FX0_ageOf_35 (mi 4) M) := rfl
set_option maxRecDepth 100000 in
theorem eX0_ageOf_35 (s0 : Int32) (M : Hx) : FX0_ageOf_35 s0 M = (some (s0, M)) := rfl
def FX0_passOn (l0 : Nat) (l1 : Nat) (l2 : Int32) (M : Hx) : Option (Unit × Hx) := fX0_passOn [.ref l0, .ref l1, .int l2] M
def FX0_passOn_2 (n2 : Nat) (l0 : Nat) (l1 : Nat) (l2 : Int32) (l3 : Int32) (M : Hx) : Option (Unit × Hx) := (o_lp (bX0_passOn_2) n2) [some (.ref l0), some (.ref l1), some (.int l2), some (.int l3), none, none, none, none] [] M
def FX0_passOn_100 (n2 : Nat) (l0 : Nat) (l1 : Nat) (l2 : Int32) (l3 : Int32) (M : Hx) : Option (Unit × Hx) := bX0_passOn_100 (o_lp (bX0_passOn_2) n2) [some (.ref l0), some (.ref l1), some (.int l2), some (.int l3), none, none, none, none] [] M
set_option maxRecDepth 100000 in
theorem eX0_passOn (l0 : Nat) (l1 : Nat) (l2 : Int32) (M : Hx) : FX0_passOn l0 l1 l2 M = (FX0_passOn_2 fu l0 l1 l2 (nI 0) M) := rfl
set_option maxRecDepth 100000 in
theorem eX0_passOn_2 (n2 : Nat) (l0 : Nat) (l1 : Nat) (l2 : Int32) (l3 : Int32) (M : Hx) : FX0_passOn_2 (n2 + 1) l0 l1 l2 l3 M = (bnd (h_R M 1 l1 3) (fun r1 => bnd (h_I M 5 r1 3) (fun x2 => if x2 ≤ l3 then (some ((), M)) else bnd (h_R M 1 l1 3) (fun r3 => gd (h_K M 5 r3) <| bnd (FX6_at r3 l3 (nI 0) M) (fun q4 => if q4.1 = l2 then (bnd (h_R q4.2 1 l1 3) (fun r5 => gd (h_K q4.2 5 r5) <| bnd (FX6_at r5 l3 (nI 3) q4.2) (fun q6 => bnd (h_R q6.2 1 l1 3) (fun r7 => gd (h_K q6.2 5 r7) <| bnd (FX6_at r7 l3 (nI 1) q6.2) (fun q8 => gd (h_K q8.2 0 l0) <| bnd (FX0_valueOf l0 q8.1 q6.1 l2 q8.2) (fun q9 => if q9.1 = (mi 4) then (FX0_passOn_100 n2 l0 l1 l2 l3 q9.2) else bnd (h_R q9.2 1 l1 3) (fun r10 => gd (h_K q9.2 5 r10) <| bnd (FX6_at r10 l3 (nI 2) q9.2) (fun q11 => bnd (FX0_placeOf q11.1 q6.1 l2 q11.2) (fun q12 => gd (h_K q12.2 0 l0) <| bnd (FX0_ageOf l0 q8.1 q6.1 l2 q12.2) (fun q13 => gd (h_K q13.2 0 l0) <| bnd (FX0_believe l0 q12.1 q9.1 q13.1 q13.2) (fun q14 => FX0_passOn_100 n2 l0 l1 l2 l3 q14.2) ()) ()) ()) ()) ()) ()) ()) ()) ()) ()) else (FX0_passOn_100 n2 l0 l1 l2 l3 q4.2)) ()) ()) ()) ()) := rfl
set_option maxRecDepth 100000 in
theorem eX0_passOn_100 (n2 : Nat) (l0 : Nat) (l1 : Nat) (l2 : Int32) (l3 : Int32) (M : Hx) : FX0_passOn_100 n2 l0 l1 l2 l3 M = (FX0_passOn_2 n2 l0 l1 l2 (l3 + (nI 1)) M) := rfl
def FX0_live (l0 : Nat) (l1 : Nat) (l2 : Nat) (M : Hx) : Option (Unit × Hx) := fX0_live [.ref l0, .ref l1, .ref l2] M
def FX0_live_2 (n2 : Nat) (l0 : Nat) (l1 : Nat) (l2 : Nat) (l3 : Int32) (M : Hx) : Option (Unit × Hx) := (o_lp (bX0_live_2) n2) [some (.ref l0), some (.ref l1), some (.ref l2), some (.int l3)] [] M
set_option maxRecDepth 100000 in
theorem eX0_live (l0 : Nat) (l1 : Nat) (l2 : Nat) (M : Hx) : FX0_live l0 l1 l2 M = (FX0_live_2 fu l0 l1 l2 (nI 0) M) := rfl
set_option maxRecDepth 100000 in
theorem eX0_live_2 (n2 : Nat) (l0 : Nat) (l1 : Nat) (l2 : Nat) (l3 : Int32) (M : Hx) : FX0_live_2 (n2 + 1) l0 l1 l2 l3 M = (if (nI 10) ≤ l3 then (some ((), M)) else gd (h_K M 0 l0) <| bnd (FX0_growOlder l0 l1 l3 M) (fun q1 => gd (h_K q1.2 0 l0) <| bnd (FX0_lookOut l0 l1 l2 l3 q1.2) (fun q2 => gd (h_K q2.2 0 l0) <| bnd (FX0_passOn l0 l1 l3 q2.2) (fun q3 => FX0_live_2 n2 l0 l1 l2 (l3 + (nI 1)) q3.2) ()) ()) ()) := rfl
def FX0_rightOnes (l0 : Nat) (l1 : Nat) (l2 : Int32) (l3 : Int32) (M : Hx) : Option (Int32 × Hx) := fX0_rightOnes [.ref l0, .ref l1, .int l2, .int l3] M
def FX0_rightOnes_14 (n14 : Nat) (l0 : Nat) (l1 : Nat) (l2 : Int32) (l3 : Int32) (l4 : Int32) (l5 : Int32) (l6 : Int32) (M : Hx) : Option (Int32 × Hx) := (o_lp (bX0_rightOnes_14) n14) [some (.ref l0), some (.ref l1), some (.int l2), some (.int l3), some (.int l4), some (.int l5), some (.int l6)] [] M
def FX0_rightOnes_49 (n14 : Nat) (l0 : Nat) (l1 : Nat) (l2 : Int32) (l3 : Int32) (l4 : Int32) (l6 : Int32) (s0 : Int32) (s1 : Int32) (M : Hx) : Option (Int32 × Hx) := bX0_rightOnes_49 (o_lp (bX0_rightOnes_14) n14) [some (.ref l0), some (.ref l1), some (.int l2), some (.int l3), some (.int l4), none, some (.int l6)] [.int s1, .int s0] M
set_option maxRecDepth 100000 in
theorem eX0_rightOnes (l0 : Nat) (l1 : Nat) (l2 : Int32) (l3 : Int32) (M : Hx) : FX0_rightOnes l0 l1 l2 l3 M = (gd (h_K M 1 l1) <| bnd (FX1_valueBehind l1 l2 l3 M) (fun q1 => FX0_rightOnes_14 fu l0 l1 l2 l3 q1.1 (nI 0) (nI 0) q1.2) ()) := rfl
set_option maxRecDepth 100000 in
theorem eX0_rightOnes_14 (n14 : Nat) (l0 : Nat) (l1 : Nat) (l2 : Int32) (l3 : Int32) (l4 : Int32) (l5 : Int32) (l6 : Int32) (M : Hx) : FX0_rightOnes_14 (n14 + 1) l0 l1 l2 l3 l4 l5 l6 M = (bnd (h_R M 1 l1 0) (fun r2 => bnd (h_I M 5 r2 3) (fun x3 => if x3 ≤ l6 then (some (l5, M)) else gd (h_K M 0 l0) <| bnd (FX0_valueOf l0 l6 l2 l3 M) (fun q4 => if q4.1 = l4 then (FX0_rightOnes_49 n14 l0 l1 l2 l3 l4 l6 l5 ((nI 1) <<< (l6 &&& nI 31)) q4.2) else (FX0_rightOnes_49 n14 l0 l1 l2 l3 l4 l6 l5 (nI 0) q4.2)) ()) ()) ()) := rfl
set_option maxRecDepth 100000 in
theorem eX0_rightOnes_49 (n14 : Nat) (l0 : Nat) (l1 : Nat) (l2 : Int32) (l3 : Int32) (l4 : Int32) (l6 : Int32) (s0 : Int32) (s1 : Int32) (M : Hx) : FX0_rightOnes_49 n14 l0 l1 l2 l3 l4 l6 s0 s1 M = (FX0_rightOnes_14 n14 l0 l1 l2 l3 l4 (s0 ||| s1) (l6 + (nI 1)) M) := rfl
def FX0_wrongOnes (l0 : Nat) (l1 : Nat) (l2 : Int32) (l3 : Int32) (M : Hx) : Option (Int32 × Hx) := fX0_wrongOnes [.ref l0, .ref l1, .int l2, .int l3] M
def FX0_wrongOnes_14 (n14 : Nat) (l0 : Nat) (l1 : Nat) (l2 : Int32) (l3 : Int32) (l4 : Int32) (l5 : Int32) (l6 : Int32) (M : Hx) : Option (Int32 × Hx) := (o_lp (bX0_wrongOnes_14) n14) [some (.ref l0), some (.ref l1), some (.int l2), some (.int l3), some (.int l4), some (.int l5), some (.int l6), none] [] M
def FX0_wrongOnes_59 (n14 : Nat) (l0 : Nat) (l1 : Nat) (l2 : Int32) (l3 : Int32) (l4 : Int32) (l6 : Int32) (s0 : Int32) (M : Hx) : Option (Int32 × Hx) := bX0_wrongOnes_59 (o_lp (bX0_wrongOnes_14) n14) [some (.ref l0), some (.ref l1), some (.int l2), some (.int l3), some (.int l4), none, some (.int l6), none] [.int s0] M
def FX0_wrongOnes_60 (n14 : Nat) (l0 : Nat) (l1 : Nat) (l2 : Int32) (l3 : Int32) (l4 : Int32) (l6 : Int32) (s0 : Int32) (s1 : Int32) (M : Hx) : Option (Int32 × Hx) := bX0_wrongOnes_60 (o_lp (bX0_wrongOnes_14) n14) [some (.ref l0), some (.ref l1), some (.int l2), some (.int l3), some (.int l4), none, some (.int l6), none] [.int s1, .int s0] M
set_option maxRecDepth 100000 in
theorem eX0_wrongOnes (l0 : Nat) (l1 : Nat) (l2 : Int32) (l3 : Int32) (M : Hx) : FX0_wrongOnes l0 l1 l2 l3 M = (gd (h_K M 1 l1) <| bnd (FX1_valueBehind l1 l2 l3 M) (fun q1 => FX0_wrongOnes_14 fu l0 l1 l2 l3 q1.1 (nI 0) (nI 0) q1.2) ()) := rfl
set_option maxRecDepth 100000 in
theorem eX0_wrongOnes_14 (n14 : Nat) (l0 : Nat) (l1 : Nat) (l2 : Int32) (l3 : Int32) (l4 : Int32) (l5 : Int32) (l6 : Int32) (M : Hx) : FX0_wrongOnes_14 (n14 + 1) l0 l1 l2 l3 l4 l5 l6 M = (bnd (h_R M 1 l1 0) (fun r2 => bnd (h_I M 5 r2 3) (fun x3 => if x3 ≤ l6 then (some (l5, M)) else gd (h_K M 0 l0) <| bnd (FX0_valueOf l0 l6 l2 l3 M) (fun q4 => if q4.1 = (mi 4) then (FX0_wrongOnes_59 n14 l0 l1 l2 l3 l4 l6 l5 q4.2) else if q4.1 = l4 then (FX0_wrongOnes_59 n14 l0 l1 l2 l3 l4 l6 l5 q4.2) else FX0_wrongOnes_60 n14 l0 l1 l2 l3 l4 l6 l5 ((nI 1) <<< (l6 &&& nI 31)) q4.2) ()) ()) ()) := rfl
set_option maxRecDepth 100000 in
theorem eX0_wrongOnes_59 (n14 : Nat) (l0 : Nat) (l1 : Nat) (l2 : Int32) (l3 : Int32) (l4 : Int32) (l6 : Int32) (s0 : Int32) (M : Hx) : FX0_wrongOnes_59 n14 l0 l1 l2 l3 l4 l6 s0 M = (FX0_wrongOnes_60 n14 l0 l1 l2 l3 l4 l6 s0 (nI 0) M) := rfl
set_option maxRecDepth 100000 in
theorem eX0_wrongOnes_60 (n14 : Nat) (l0 : Nat) (l1 : Nat) (l2 : Int32) (l3 : Int32) (l4 : Int32) (l6 : Int32) (s0 : Int32) (s1 : Int32) (M : Hx) : FX0_wrongOnes_60 n14 l0 l1 l2 l3 l4 l6 s0 s1 M = (FX0_wrongOnes_14 n14 l0 l1 l2 l3 l4 (s0 ||| s1) (l6 + (nI 1)) M) := rfl
def FX0_isAsSeen (l0 : Nat) (l1 : Nat) (M : Hx) : Option (Int32 × Hx) := fX0_isAsSeen [.ref l0, .ref l1] M
def FX0_isAsSeen_2 (n2 : Nat) (l0 : Nat) (l1 : Nat) (l2 : Int32) (M : Hx) : Option (Int32 × Hx) := (o_lp (bX0_isAsSeen_2) n2) [some (.ref l0), some (.ref l1), some (.int l2)] [] M
set_option maxRecDepth 100000 in
theorem eX0_isAsSeen (l0 : Nat) (l1 : Nat) (M : Hx) : FX0_isAsSeen l0 l1 M = (FX0_isAsSeen_2 fu l0 l1 (nI 0) M) := rfl
set_option maxRecDepth 100000 in
theorem eX0_isAsSeen_2 (n2 : Nat) (l0 : Nat) (l1 : Nat) (l2 : Int32) (M : Hx) : FX0_isAsSeen_2 (n2 + 1) l0 l1 l2 M = (bnd (h_I M 5 l1 3) (fun x1 => if x1 ≤ l2 then (if (nI 1) = nI 0 ∨ (nI 1) = nI 1 then some ((nI 1), M) else none) else gd (h_K M 5 l1) <| bnd (FX6_at l1 l2 (nI 0) M) (fun q2 => gd (h_K q2.2 5 l1) <| bnd (FX6_at l1 l2 (nI 1) q2.2) (fun q3 => gd (h_K q3.2 5 l1) <| bnd (FX6_at l1 l2 (nI 2) q3.2) (fun q4 => gd (h_K q4.2 0 l0) <| bnd (FX0_valueOf l0 q2.1 q3.1 q4.1 q4.2) (fun q5 => gd (h_K q5.2 5 l1) <| bnd (FX6_at l1 l2 (nI 3) q5.2) (fun q6 => if q5.1 = q6.1 then (FX0_isAsSeen_2 n2 l0 l1 (l2 + (nI 1)) q6.2) else if (nI 0) = nI 0 ∨ (nI 0) = nI 1 then some ((nI 0), q6.2) else none) ()) ()) ()) ()) ()) ()) := rfl
def FX0_copyLast (l0 : Nat) (l1 : Nat) (l2 : Int32) (M : Hx) : Option (Unit × Hx) := fX0_copyLast [.ref l0, .ref l1, .int l2] M
def FX0_copyLast_27  (M : Hx) : Option (Unit × Hx) := bX0_copyLast_27 [none, none, none] [] M
set_option maxRecDepth 100000 in
theorem eX0_copyLast (l0 : Nat) (l1 : Nat) (l2 : Int32) (M : Hx) : FX0_copyLast l0 l1 l2 M = (if l2 < nI 0 then (FX0_copyLast_27 M) else bnd (h_L M l1) (fun x1 => if (x1 - (nI 15)) < l2 then (FX0_copyLast_27 M) else bnd (h_R M 0 l0 0) (fun r2 => bnd (h_C M r2 l1 (nI 135) l2 (nI 15)) (fun M3 => FX0_copyLast_27 M3) ()) ()) ()) := rfl
set_option maxRecDepth 100000 in
theorem eX0_copyLast_27  (M : Hx) : FX0_copyLast_27  M = (some ((), M)) := rfl
def FX4_init (l0 : Nat) (M : Hx) : Option (Unit × Hx) := fX4_init [.ref l0] M
set_option maxRecDepth 100000 in
theorem eX4_init (l0 : Nat) (M : Hx) : FX4_init l0 M = (if ¬ (nI 2112) < nI 0 ∧ (nI 2112).toNatClampNeg ≤ 100000 ∧ M.length < 1000 then (bnd (h_P (M ++ [.inl (0, (nI 2112).toNatClampNeg, .inl (fun _ => nI 0))]) 3 l0 0 (.ref (List.length M))) (fun M1 => if ¬ (nI 6) < nI 0 ∧ (nI 6).toNatClampNeg ≤ 100000 ∧ M1.length < 1000 then (bnd (h_P (M1 ++ [.inl (0, (nI 6).toNatClampNeg, .inl (fun _ => nI 0))]) 3 l0 1 (.ref (List.length M1))) (fun M2 => if ¬ (nI 10) < nI 0 ∧ (nI 10).toNatClampNeg ≤ 100000 ∧ M2.length < 1000 then (bnd (h_P (M2 ++ [.inl (0, (nI 10).toNatClampNeg, .inl (fun _ => nI 0))]) 3 l0 2 (.ref (List.length M2))) (fun M3 => if M3.length < 1000 then (bnd (FX6_init (List.length M3) (nI 2) (nI 5) (M3 ++ [.inr (5, [.int 0, .int 0, .null, .int 0])])) (fun q5 => bnd (h_P q5.2 3 l0 3 (.ref (List.length M3))) (fun M6 => if M6.length < 1000 then (bnd (FX6_init (List.length M6) (nI 4) (nI 5) (M6 ++ [.inr (5, [.int 0, .int 0, .null, .int 0])])) (fun q8 => bnd (h_P q8.2 3 l0 4 (.ref (List.length M6))) (fun M9 => some ((), M9)) ()) ()) else none) ()) ()) else none) ()) else none) ()) else none) ()) else none) := rfl
def FX4_placeOf (l0 : Int32) (l1 : Int32) (l2 : Int32) (M : Hx) : Option (Int32 × Hx) := fX4_placeOf [.int l0, .int l1, .int l2] M
set_option maxRecDepth 100000 in
theorem eX4_placeOf (l0 : Int32) (l1 : Int32) (l2 : Int32) (M : Hx) : FX4_placeOf l0 l1 l2 M = (some (((((l0 * (nI 6)) + l1) * (nI 32)) + l2), M)) := rfl
def FX4_fillEnd (l0 : Nat) (l1 : Nat) (M : Hx) : Option (Unit × Hx) := fX4_fillEnd [.ref l0, .ref l1] M
def FX4_fillEnd_12 (n12 : Nat) (l0 : Nat) (l1 : Nat) (l2 : Int32) (l3 : Int32) (M : Hx) : Option (Unit × Hx) := (o_lp (bX4_fillEnd_12) n12) [some (.ref l0), some (.ref l1), some (.int l2), some (.int l3), none, none] [] M
def FX4_fillEnd_23 (n12 : Nat) (n23 : Nat) (l0 : Nat) (l1 : Nat) (l2 : Int32) (l3 : Int32) (l4 : Int32) (l5 : Int32) (M : Hx) : Option (Unit × Hx) := (o_lp (bX4_fillEnd_23 (o_lp (bX4_fillEnd_12) n12)) n23) [some (.ref l0), some (.ref l1), some (.int l2), some (.int l3), some (.int l4), some (.int l5)] [] M
def FX4_fillEnd_56 (n12 : Nat) (n23 : Nat) (l0 : Nat) (l1 : Nat) (l2 : Int32) (l3 : Int32) (l5 : Int32) (s0 : Int32) (s1 : Int32) (M : Hx) : Option (Unit × Hx) := bX4_fillEnd_56 (o_lp (bX4_fillEnd_12) n12) (o_lp (bX4_fillEnd_23 (o_lp (bX4_fillEnd_12) n12)) n23) [some (.ref l0), some (.ref l1), some (.int l2), some (.int l3), none, some (.int l5)] [.int s1, .int s0] M
def FX4_fillEnd_68 (n12 : Nat) (n68 : Nat) (l0 : Nat) (l1 : Nat) (l2 : Int32) (l3 : Int32) (l4 : Int32) (l5 : Int32) (M : Hx) : Option (Unit × Hx) := (o_lp (bX4_fillEnd_68 (o_lp (bX4_fillEnd_12) n12)) n68) [some (.ref l0), some (.ref l1), some (.int l2), some (.int l3), some (.int l4), some (.int l5)] [] M
set_option maxRecDepth 100000 in
theorem eX4_fillEnd (l0 : Nat) (l1 : Nat) (M : Hx) : FX4_fillEnd l0 l1 M = (bnd (h_R M 1 l1 2) (fun r1 => bnd (h_I M 5 r1 3) (fun x2 => FX4_fillEnd_12 fu l0 l1 ((nI 1) <<< (x2 &&& nI 31)) (nI 0) M) ()) ()) := rfl
set_option maxRecDepth 100000 in
theorem eX4_fillEnd_12 (n12 : Nat) (l0 : Nat) (l1 : Nat) (l2 : Int32) (l3 : Int32) (M : Hx) : FX4_fillEnd_12 (n12 + 1) l0 l1 l2 l3 M = (if l2 ≤ l3 then (some ((), M)) else FX4_fillEnd_23 n12 fu l0 l1 l2 l3 (nI 0) (nI 0) M) := rfl
set_option maxRecDepth 100000 in
theorem eX4_fillEnd_23 (n12 : Nat) (n23 : Nat) (l0 : Nat) (l1 : Nat) (l2 : Int32) (l3 : Int32) (l4 : Int32) (l5 : Int32) (M : Hx) : FX4_fillEnd_23 n12 (n23 + 1) l0 l1 l2 l3 l4 l5 M = (bnd (h_R M 1 l1 2) (fun r3 => bnd (h_I M 5 r3 3) (fun x4 => if x4 ≤ l5 then (FX4_fillEnd_68 n12 fu l0 l1 l2 l3 l4 (nI 0) M) else if (l3 &&& ((nI 1) <<< (l5 &&& nI 31))) = nI 0 then (FX4_fillEnd_56 n12 n23 l0 l1 l2 l3 l5 l4 (nI 0) M) else gd (h_K M 1 l1) <| bnd (FX1_worthOf l1 l5 M) (fun q5 => FX4_fillEnd_56 n12 n23 l0 l1 l2 l3 l5 l4 q5.1 q5.2) ()) ()) ()) := rfl
set_option maxRecDepth 100000 in
theorem eX4_fillEnd_56 (n12 : Nat) (n23 : Nat) (l0 : Nat) (l1 : Nat) (l2 : Int32) (l3 : Int32) (l5 : Int32) (s0 : Int32) (s1 : Int32) (M : Hx) : FX4_fillEnd_56 n12 n23 l0 l1 l2 l3 l5 s0 s1 M = (FX4_fillEnd_23 n12 n23 l0 l1 l2 l3 (s0 + s1) (l5 + (nI 1)) M) := rfl
set_option maxRecDepth 100000 in
theorem eX4_fillEnd_68 (n12 : Nat) (n68 : Nat) (l0 : Nat) (l1 : Nat) (l2 : Int32) (l3 : Int32) (l4 : Int32) (l5 : Int32) (M : Hx) : FX4_fillEnd_68 n12 (n68 + 1) l0 l1 l2 l3 l4 l5 M = (bnd (h_R M 1 l1 0) (fun r6 => bnd (h_I M 5 r6 3) (fun x7 => if x7 < l5 then (FX4_fillEnd_12 n12 l0 l1 l2 (l3 + (nI 1)) M) else bnd (h_R M 3 l0 0) (fun r8 => bnd (FX4_placeOf (nI 10) l5 l3 M) (fun q9 => bnd (h_S q9.2 0 r8 q9.1 l4) (fun M10 => FX4_fillEnd_68 n12 n68 l0 l1 l2 l3 l4 (l5 + (nI 1)) M10) ()) ()) ()) ()) ()) := rfl
def FX4_worksBegunAhead (l0 : Nat) (l1 : Int32) (M : Hx) : Option (Int32 × Hx) := fX4_worksBegunAhead [.ref l0, .int l1] M
def FX4_worksBegunAhead_4 (n4 : Nat) (l0 : Nat) (l1 : Int32) (l2 : Int32) (l3 : Int32) (M : Hx) : Option (Int32 × Hx) := (o_lp (bX4_worksBegunAhead_4) n4) [some (.ref l0), some (.int l1), some (.int l2), some (.int l3)] [] M
def FX4_worksBegunAhead_36 (n4 : Nat) (l0 : Nat) (l1 : Int32) (l3 : Int32) (s0 : Int32) (s1 : Int32) (M : Hx) : Option (Int32 × Hx) := bX4_worksBegunAhead_36 (o_lp (bX4_worksBegunAhead_4) n4) [some (.ref l0), some (.int l1), none, some (.int l3)] [.int s1, .int s0] M
set_option maxRecDepth 100000 in
theorem eX4_worksBegunAhead (l0 : Nat) (l1 : Int32) (M : Hx) : FX4_worksBegunAhead l0 l1 M = (FX4_worksBegunAhead_4 fu l0 l1 (nI 0) (nI 0) M) := rfl
set_option maxRecDepth 100000 in
theorem eX4_worksBegunAhead_4 (n4 : Nat) (l0 : Nat) (l1 : Int32) (l2 : Int32) (l3 : Int32) (M : Hx) : FX4_worksBegunAhead_4 (n4 + 1) l0 l1 l2 l3 M = (bnd (h_R M 1 l0 2) (fun r1 => bnd (h_I M 5 r1 3) (fun x2 => if x2 ≤ l3 then (some (l2, M)) else bnd (h_R M 1 l0 2) (fun r3 => gd (h_K M 5 r3) <| bnd (FX6_at r3 l3 (nI 1) M) (fun q4 => if l1 ≤ q4.1 then (FX4_worksBegunAhead_36 n4 l0 l1 l3 l2 (nI 0) q4.2) else FX4_worksBegunAhead_36 n4 l0 l1 l3 l2 ((nI 1) <<< (l3 &&& nI 31)) q4.2) ()) ()) ()) ()) := rfl
set_option maxRecDepth 100000 in
theorem eX4_worksBegunAhead_36 (n4 : Nat) (l0 : Nat) (l1 : Int32) (l3 : Int32) (s0 : Int32) (s1 : Int32) (M : Hx) : FX4_worksBegunAhead_36 n4 l0 l1 l3 s0 s1 M = (FX4_worksBegunAhead_4 n4 l0 l1 (s0 ||| s1) (l3 + (nI 1)) M) := rfl
def FX4_worksIn (l0 : Nat) (l1 : Nat) (l2 : Int32) (l3 : Int32) (M : Hx) : Option (Int32 × Hx) := fX4_worksIn [.ref l0, .ref l1, .int l2, .int l3] M
def FX4_worksIn_6 (n6 : Nat) (l1 : Nat) (l2 : Int32) (l3 : Int32) (l4 : Int32) (l5 : Int32) (M : Hx) : Option (Int32 × Hx) := (o_lp (bX4_worksIn_6) n6) [none, some (.ref l1), some (.int l2), some (.int l3), some (.int l4), some (.int l5), none, none] [] M
def FX4_worksIn_64 (n6 : Nat) (l1 : Nat) (l2 : Int32) (l3 : Int32) (l4 : Int32) (l5 : Int32) (M : Hx) : Option (Int32 × Hx) := bX4_worksIn_64 (o_lp (bX4_worksIn_6) n6) [none, some (.ref l1), some (.int l2), some (.int l3), some (.int l4), some (.int l5), none, none] [] M
def FX4_worksIn_65 (n6 : Nat) (l1 : Nat) (l2 : Int32) (l3 : Int32) (l4 : Int32) (l5 : Int32) (s0 : Int32) (M : Hx) : Option (Int32 × Hx) := bX4_worksIn_65 (o_lp (bX4_worksIn_6) n6) [none, some (.ref l1), some (.int l2), some (.int l3), some (.int l4), some (.int l5), none, none] [.int s0] M
def FX4_worksIn_82 (n6 : Nat) (l1 : Nat) (l2 : Int32) (l3 : Int32) (l5 : Int32) (s0 : Int32) (s1 : Int32) (M : Hx) : Option (Int32 × Hx) := bX4_worksIn_82 (o_lp (bX4_worksIn_6) n6) [none, some (.ref l1), some (.int l2), some (.int l3), none, some (.int l5), none, none] [.int s1, .int s0] M
set_option maxRecDepth 100000 in
theorem eX4_worksIn (l0 : Nat) (l1 : Nat) (l2 : Int32) (l3 : Int32) (M : Hx) : FX4_worksIn l0 l1 l2 l3 M = (FX4_worksIn_6 fu l1 l2 l3 (nI 0) (nI 0) M) := rfl
set_option maxRecDepth 100000 in
theorem eX4_worksIn_6 (n6 : Nat) (l1 : Nat) (l2 : Int32) (l3 : Int32) (l4 : Int32) (l5 : Int32) (M : Hx) : FX4_worksIn_6 (n6 + 1) l1 l2 l3 l4 l5 M = (bnd (h_R M 1 l1 2) (fun r1 => bnd (h_I M 5 r1 3) (fun x2 => if x2 ≤ l5 then (some (l4, M)) else bnd (h_R M 1 l1 2) (fun r3 => gd (h_K M 5 r3) <| bnd (FX6_at r3 l5 (nI 0) M) (fun q4 => if q4.1 = l2 then (gd (h_K q4.2 5 r3) <| bnd (FX6_at r3 l5 (nI 1) q4.2) (fun q5 => if l3 < q5.1 then (FX4_worksIn_64 n6 l1 l2 l3 l4 l5 q5.2) else gd (h_K q5.2 5 r3) <| bnd (FX6_at r3 l5 (nI 2) q5.2) (fun q6 => if q6.1 < l3 then (FX4_worksIn_64 n6 l1 l2 l3 l4 l5 q6.2) else FX4_worksIn_65 n6 l1 l2 l3 l4 l5 (nI 1) q6.2) ()) ()) else (FX4_worksIn_64 n6 l1 l2 l3 l4 l5 q4.2)) ()) ()) ()) ()) := rfl
set_option maxRecDepth 100000 in
theorem eX4_worksIn_64 (n6 : Nat) (l1 : Nat) (l2 : Int32) (l3 : Int32) (l4 : Int32) (l5 : Int32) (M : Hx) : FX4_worksIn_64 n6 l1 l2 l3 l4 l5 M = (FX4_worksIn_65 n6 l1 l2 l3 l4 l5 (nI 0) M) := rfl
set_option maxRecDepth 100000 in
theorem eX4_worksIn_65 (n6 : Nat) (l1 : Nat) (l2 : Int32) (l3 : Int32) (l4 : Int32) (l5 : Int32) (s0 : Int32) (M : Hx) : FX4_worksIn_65 n6 l1 l2 l3 l4 l5 s0 M = (if s0 = nI 0 then (FX4_worksIn_82 n6 l1 l2 l3 l5 l4 (nI 0) M) else FX4_worksIn_82 n6 l1 l2 l3 l5 l4 ((nI 1) <<< (l5 &&& nI 31)) M) := rfl
set_option maxRecDepth 100000 in
theorem eX4_worksIn_82 (n6 : Nat) (l1 : Nat) (l2 : Int32) (l3 : Int32) (l5 : Int32) (s0 : Int32) (s1 : Int32) (M : Hx) : FX4_worksIn_82 n6 l1 l2 l3 l5 s0 s1 M = (FX4_worksIn_6 n6 l1 l2 l3 (s0 ||| s1) (l5 + (nI 1)) M) := rfl
def FX4_findGains (l0 : Nat) (l1 : Nat) (l2 : Int32) (l3 : Int32) (M : Hx) : Option (Unit × Hx) := fX4_findGains [.ref l0, .ref l1, .int l2, .int l3] M
def FX4_findGains_12 (n12 : Nat) (l0 : Nat) (l1 : Nat) (l2 : Int32) (l3 : Int32) (l4 : Int32) (l5 : Int32) (M : Hx) : Option (Unit × Hx) := (o_lp (bX4_findGains_12) n12) [some (.ref l0), some (.ref l1), some (.int l2), some (.int l3), some (.int l4), some (.int l5), none, none] [] M
def FX4_findGains_37 (n12 : Nat) (l0 : Nat) (l1 : Nat) (l2 : Int32) (l3 : Int32) (l4 : Int32) (l5 : Int32) (s0 : Int32) (s1 : Int32) (M : Hx) : Option (Unit × Hx) := bX4_findGains_37 (o_lp (bX4_findGains_12) n12) [some (.ref l0), some (.ref l1), some (.int l2), some (.int l3), some (.int l4), some (.int l5), none, none] [.int s1, .int s0] M
def FX4_findGains_43 (n12 : Nat) (l0 : Nat) (l1 : Nat) (l2 : Int32) (l3 : Int32) (l4 : Int32) (l5 : Int32) (M : Hx) : Option (Unit × Hx) := bX4_findGains_43 (o_lp (bX4_findGains_12) n12) [some (.ref l0), some (.ref l1), some (.int l2), some (.int l3), some (.int l4), some (.int l5), none, none] [] M
def FX4_findGains_48 (n12 : Nat) (l0 : Nat) (l1 : Nat) (l2 : Int32) (l3 : Int32) (l4 : Int32) (l5 : Int32) (s0 : Int32) (M : Hx) : Option (Unit × Hx) := bX4_findGains_48 (o_lp (bX4_findGains_12) n12) [some (.ref l0), some (.ref l1), some (.int l2), some (.int l3), some (.int l4), some (.int l5), none, none] [.int s0] M
def FX4_findGains_72 (n12 : Nat) (l0 : Nat) (l1 : Nat) (l2 : Int32) (l3 : Int32) (l4 : Int32) (l5 : Int32) (M : Hx) : Option (Unit × Hx) := bX4_findGains_72 (o_lp (bX4_findGains_12) n12) [some (.ref l0), some (.ref l1), some (.int l2), some (.int l3), some (.int l4), some (.int l5), none, none] [] M
def FX4_findGains_73 (n12 : Nat) (l0 : Nat) (l1 : Nat) (l2 : Int32) (l3 : Int32) (l4 : Int32) (l5 : Int32) (s0 : Int32) (M : Hx) : Option (Unit × Hx) := bX4_findGains_73 (o_lp (bX4_findGains_12) n12) [some (.ref l0), some (.ref l1), some (.int l2), some (.int l3), some (.int l4), some (.int l5), none, none] [.int s0] M
def FX4_findGains_98 (n12 : Nat) (l0 : Nat) (l1 : Nat) (l2 : Int32) (l3 : Int32) (l4 : Int32) (l5 : Int32) (s0 : Nat) (s1 : Int32) (s2 : Int32) (M : Hx) : Option (Unit × Hx) := bX4_findGains_98 (o_lp (bX4_findGains_12) n12) [some (.ref l0), some (.ref l1), some (.int l2), some (.int l3), some (.int l4), some (.int l5), none, none] [.int s2, .int s1, .ref s0] M
set_option maxRecDepth 100000 in
theorem eX4_findGains (l0 : Nat) (l1 : Nat) (l2 : Int32) (l3 : Int32) (M : Hx) : FX4_findGains l0 l1 l2 l3 M = (bnd (h_R M 1 l1 0) (fun r1 => bnd (h_I M 5 r1 3) (fun x2 => FX4_findGains_12 fu l0 l1 l2 l3 x2 (nI 0) M) ()) ()) := rfl
set_option maxRecDepth 100000 in
theorem eX4_findGains_12 (n12 : Nat) (l0 : Nat) (l1 : Nat) (l2 : Int32) (l3 : Int32) (l4 : Int32) (l5 : Int32) (M : Hx) : FX4_findGains_12 (n12 + 1) l0 l1 l2 l3 l4 l5 M = (if l4 ≤ l5 then (bnd (h_R M 3 l0 1) (fun r3 => bnd (h_S M 0 r3 l4 (nI 0)) (fun M4 => some ((), M4)) ()) ()) else if l2 = nI 0 then (FX4_findGains_43 n12 l0 l1 l2 l3 l4 l5 M) else if l3 = l4 then (FX4_findGains_37 n12 l0 l1 l2 l3 l4 l5 l5 (mi 4) M) else (FX4_findGains_37 n12 l0 l1 l2 l3 l4 l5 l5 l3 M)) := rfl
set_option maxRecDepth 100000 in
theorem eX4_findGains_37 (n12 : Nat) (l0 : Nat) (l1 : Nat) (l2 : Int32) (l3 : Int32) (l4 : Int32) (l5 : Int32) (s0 : Int32) (s1 : Int32) (M : Hx) : FX4_findGains_37 n12 l0 l1 l2 l3 l4 l5 s0 s1 M = (bnd (FX7_isNear s0 s1 M) (fun q5 => if q5.1 = nI 0 then (FX4_findGains_48 n12 l0 l1 l2 l3 l4 l5 (nI 0) q5.2) else FX4_findGains_43 n12 l0 l1 l2 l3 l4 l5 q5.2) ()) := rfl
set_option maxRecDepth 100000 in
theorem eX4_findGains_43 (n12 : Nat) (l0 : Nat) (l1 : Nat) (l2 : Int32) (l3 : Int32) (l4 : Int32) (l5 : Int32) (M : Hx) : FX4_findGains_43 n12 l0 l1 l2 l3 l4 l5 M = (FX4_findGains_48 n12 l0 l1 l2 l3 l4 l5 (nI 1) M) := rfl
set_option maxRecDepth 100000 in
theorem eX4_findGains_48 (n12 : Nat) (l0 : Nat) (l1 : Nat) (l2 : Int32) (l3 : Int32) (l4 : Int32) (l5 : Int32) (s0 : Int32) (M : Hx) : FX4_findGains_48 n12 l0 l1 l2 l3 l4 l5 s0 M = (if s0 = nI 0 then (FX4_findGains_72 n12 l0 l1 l2 l3 l4 l5 M) else gd (h_K M 1 l1) <| bnd (FX1_kindOf l1 l5 M) (fun q6 => bnd (FX7_hasEyes q6.1 l2 q6.2) (fun q7 => if q7.1 = nI 0 then (FX4_findGains_72 n12 l0 l1 l2 l3 l4 l5 q7.2) else FX4_findGains_73 n12 l0 l1 l2 l3 l4 l5 (nI 1) q7.2) ()) ()) := rfl
set_option maxRecDepth 100000 in
theorem eX4_findGains_72 (n12 : Nat) (l0 : Nat) (l1 : Nat) (l2 : Int32) (l3 : Int32) (l4 : Int32) (l5 : Int32) (M : Hx) : FX4_findGains_72 n12 l0 l1 l2 l3 l4 l5 M = (FX4_findGains_73 n12 l0 l1 l2 l3 l4 l5 (nI 0) M) := rfl
set_option maxRecDepth 100000 in
theorem eX4_findGains_73 (n12 : Nat) (l0 : Nat) (l1 : Nat) (l2 : Int32) (l3 : Int32) (l4 : Int32) (l5 : Int32) (s0 : Int32) (M : Hx) : FX4_findGains_73 n12 l0 l1 l2 l3 l4 l5 s0 M = (bnd (h_R M 3 l0 1) (fun r8 => if s0 = nI 0 then (FX4_findGains_98 n12 l0 l1 l2 l3 l4 l5 r8 l5 (nI 0) M) else gd (h_K M 3 l0) <| bnd (FX4_worksIn l0 l1 l5 l2 M) (fun q9 => FX4_findGains_98 n12 l0 l1 l2 l3 l4 l5 r8 l5 q9.1 q9.2) ()) ()) := rfl
set_option maxRecDepth 100000 in
theorem eX4_findGains_98 (n12 : Nat) (l0 : Nat) (l1 : Nat) (l2 : Int32) (l3 : Int32) (l4 : Int32) (l5 : Int32) (s0 : Nat) (s1 : Int32) (s2 : Int32) (M : Hx) : FX4_findGains_98 n12 l0 l1 l2 l3 l4 l5 s0 s1 s2 M = (bnd (h_S M 0 s0 s1 s2) (fun M10 => FX4_findGains_12 n12 l0 l1 l2 l3 l4 (l5 + (nI 1)) M10) ()) := rfl
def FX4_mostFrom (l0 : Nat) (l1 : Int32) (l2 : Int32) (l3 : Int32) (M : Hx) : Option (Int32 × Hx) := fX4_mostFrom [.ref l0, .int l1, .int l2, .int l3] M
def FX4_mostFrom_16 (n16 : Nat) (l0 : Nat) (l2 : Int32) (l3 : Int32) (l4 : Int32) (l5 : Int32) (l6 : Int32) (M : Hx) : Option (Int32 × Hx) := (o_lp (bX4_mostFrom_16) n16) [some (.ref l0), none, some (.int l2), some (.int l3), some (.int l4), some (.int l5), some (.int l6), none] [] M
def FX4_mostFrom_52 (n16 : Nat) (l0 : Nat) (l2 : Int32) (l3 : Int32) (l4 : Int32) (l5 : Int32) (l6 : Int32) (M : Hx) : Option (Int32 × Hx) := bX4_mostFrom_52 (o_lp (bX4_mostFrom_16) n16) [some (.ref l0), none, some (.int l2), some (.int l3), some (.int l4), some (.int l5), some (.int l6), none] [] M
set_option maxRecDepth 100000 in
theorem eX4_mostFrom (l0 : Nat) (l1 : Int32) (l2 : Int32) (l3 : Int32) (M : Hx) : FX4_mostFrom l0 l1 l2 l3 M = (bnd (FX4_placeOf (l1 + (nI 1)) (nI 0) (nI 0) M) (fun q1 => FX4_mostFrom_16 fu l0 l2 l3 (nI 0) q1.1 (nI 0) q1.2) ()) := rfl
set_option maxRecDepth 100000 in
theorem eX4_mostFrom_16 (n16 : Nat) (l0 : Nat) (l2 : Int32) (l3 : Int32) (l4 : Int32) (l5 : Int32) (l6 : Int32) (M : Hx) : FX4_mostFrom_16 (n16 + 1) l0 l2 l3 l4 l5 l6 M = (if l3 < l6 then (some (l4, M)) else bnd (h_R M 3 l0 0) (fun r2 => bnd (h_R M 3 l0 1) (fun r3 => bnd (h_A M 0 r3 l6) (fun x4 => bnd (h_A M 0 r2 (l5 + (l2 ||| x4))) (fun x5 => if x5 ≤ l4 then (FX4_mostFrom_52 n16 l0 l2 l3 l4 l5 l6 M) else FX4_mostFrom_52 n16 l0 l2 l3 x5 l5 l6 M) ()) ()) ()) ()) := rfl
set_option maxRecDepth 100000 in
theorem eX4_mostFrom_52 (n16 : Nat) (l0 : Nat) (l2 : Int32) (l3 : Int32) (l4 : Int32) (l5 : Int32) (l6 : Int32) (M : Hx) : FX4_mostFrom_52 n16 l0 l2 l3 l4 l5 l6 M = (FX4_mostFrom_16 n16 l0 l2 l3 l4 (l5 + (nI 32)) (l6 + (nI 1)) M) := rfl
def FX4_fillHour (l0 : Nat) (l1 : Nat) (l2 : Int32) (M : Hx) : Option (Unit × Hx) := fX4_fillHour [.ref l0, .ref l1, .int l2] M
def FX4_fillHour_9 (n9 : Nat) (l0 : Nat) (l1 : Nat) (l2 : Int32) (l3 : Int32) (l4 : Int32) (M : Hx) : Option (Unit × Hx) := (o_lp (bX4_fillHour_9) n9) [some (.ref l0), some (.ref l1), some (.int l2), some (.int l3), some (.int l4), none] [] M
def FX4_fillHour_32 (n9 : Nat) (n32 : Nat) (l0 : Nat) (l1 : Nat) (l2 : Int32) (l3 : Int32) (l4 : Int32) (l5 : Int32) (M : Hx) : Option (Unit × Hx) := (o_lp (bX4_fillHour_32 (o_lp (bX4_fillHour_9) n9)) n32) [some (.ref l0), some (.ref l1), some (.int l2), some (.int l3), some (.int l4), some (.int l5)] [] M
def FX4_fillHour_74 (n9 : Nat) (n32 : Nat) (l0 : Nat) (l1 : Nat) (l2 : Int32) (l3 : Int32) (l4 : Int32) (l5 : Int32) (M : Hx) : Option (Unit × Hx) := bX4_fillHour_74 (o_lp (bX4_fillHour_9) n9) (o_lp (bX4_fillHour_32 (o_lp (bX4_fillHour_9) n9)) n32) [some (.ref l0), some (.ref l1), some (.int l2), some (.int l3), some (.int l4), some (.int l5)] [] M
set_option maxRecDepth 100000 in
theorem eX4_fillHour (l0 : Nat) (l1 : Nat) (l2 : Int32) (M : Hx) : FX4_fillHour l0 l1 l2 M = (bnd (FX4_worksBegunAhead l1 l2 M) (fun q1 => FX4_fillHour_9 fu l0 l1 l2 q1.1 (nI 0) q1.2) ()) := rfl
set_option maxRecDepth 100000 in
theorem eX4_fillHour_9 (n9 : Nat) (l0 : Nat) (l1 : Nat) (l2 : Int32) (l3 : Int32) (l4 : Int32) (M : Hx) : FX4_fillHour_9 (n9 + 1) l0 l1 l2 l3 l4 M = (bnd (h_R M 1 l1 0) (fun r2 => bnd (h_I M 5 r2 3) (fun x3 => if x3 < l4 then (some ((), M)) else gd (h_K M 3 l0) <| bnd (FX4_findGains l0 l1 l2 l4 M) (fun q4 => FX4_fillHour_32 n9 fu l0 l1 l2 l3 l4 (nI 0) q4.2) ()) ()) ()) := rfl
set_option maxRecDepth 100000 in
theorem eX4_fillHour_32 (n9 : Nat) (n32 : Nat) (l0 : Nat) (l1 : Nat) (l2 : Int32) (l3 : Int32) (l4 : Int32) (l5 : Int32) (M : Hx) : FX4_fillHour_32 n9 (n32 + 1) l0 l1 l2 l3 l4 l5 M = (if l3 < l5 then (FX4_fillHour_9 n9 l0 l1 l2 l3 (l4 + (nI 1)) M) else if (l5 &&& (l3 ^^^ (mi 1))) = nI 0 then (bnd (h_R M 3 l0 0) (fun r5 => bnd (FX4_placeOf l2 l4 l5 M) (fun q6 => bnd (h_R q6.2 1 l1 0) (fun r7 => bnd (h_I q6.2 5 r7 3) (fun x8 => gd (h_K q6.2 3 l0) <| bnd (FX4_mostFrom l0 l2 l5 x8 q6.2) (fun q9 => bnd (h_S q9.2 0 r5 q6.1 q9.1) (fun M10 => FX4_fillHour_74 n9 n32 l0 l1 l2 l3 l4 l5 M10) ()) ()) ()) ()) ()) ()) else (FX4_fillHour_74 n9 n32 l0 l1 l2 l3 l4 l5 M)) := rfl
set_option maxRecDepth 100000 in
theorem eX4_fillHour_74 (n9 : Nat) (n32 : Nat) (l0 : Nat) (l1 : Nat) (l2 : Int32) (l3 : Int32) (l4 : Int32) (l5 : Int32) (M : Hx) : FX4_fillHour_74 n9 n32 l0 l1 l2 l3 l4 l5 M = (FX4_fillHour_32 n9 n32 l0 l1 l2 l3 l4 (l5 + (nI 1)) M) := rfl
