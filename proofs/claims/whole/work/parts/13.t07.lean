def FX9_hasEyes (l0 : Nat) (l1 : Int32) (l2 : Int32) (M : Hx) : Option (Int32 × Hx) := fX9_hasEyes [.ref l0, .int l1, .int l2] M
def FX9_hasEyes_39  (M : Hx) : Option (Int32 × Hx) := bX9_hasEyes_39 [none, none, none] [] M
def FX9_hasEyes_44 (s0 : Int32) (M : Hx) : Option (Int32 × Hx) := bX9_hasEyes_44 [none, none, none] [.int s0] M
set_option maxRecDepth 100000 in
theorem eX9_hasEyes (l0 : Nat) (l1 : Int32) (l2 : Int32) (M : Hx) : FX9_hasEyes l0 l1 l2 M = (bnd (h_R M 8 l0 0) (fun r1 => bnd (h_A M 0 r1 l1) (fun x2 => if x2 = (nI 1) then (if (nI 6) ≤ l2 then (FX9_hasEyes_44 (nI 0) M) else FX9_hasEyes_44 (nI 1) M) else (bnd (h_R M 8 l0 0) (fun r3 => bnd (h_A M 0 r3 l1) (fun x4 => if x4 = (nI 3) then (if l2 ≤ (nI 5) then (FX9_hasEyes_44 (nI 0) M) else FX9_hasEyes_39 M) else (FX9_hasEyes_39 M)) ()) ())) ()) ()) := rfl
set_option maxRecDepth 100000 in
theorem eX9_hasEyes_39  (M : Hx) : FX9_hasEyes_39  M = (FX9_hasEyes_44 (nI 1) M) := rfl
set_option maxRecDepth 100000 in
theorem eX9_hasEyes_44 (s0 : Int32) (M : Hx) : FX9_hasEyes_44 s0 M = (if s0 = nI 0 ∨ s0 = nI 1 then some (s0, M) else none) := rfl
def FX9_wouldSee (l0 : Nat) (l1 : Int32) (l2 : Int32) (l3 : Int32) (M : Hx) : Option (Int32 × Hx) := fX9_wouldSee [.ref l0, .int l1, .int l2, .int l3] M
def FX9_wouldSee_27 (l0 : Nat) (l1 : Int32) (l2 : Int32) (M : Hx) : Option (Int32 × Hx) := bX9_wouldSee_27 [some (.ref l0), some (.int l1), some (.int l2), none, none] [] M
def FX9_wouldSee_32 (l0 : Nat) (l1 : Int32) (l2 : Int32) (s0 : Int32) (M : Hx) : Option (Int32 × Hx) := bX9_wouldSee_32 [some (.ref l0), some (.int l1), some (.int l2), none, none] [.int s0] M
def FX9_wouldSee_52  (M : Hx) : Option (Int32 × Hx) := bX9_wouldSee_52 [none, none, none, none, none] [] M
def FX9_wouldSee_53 (s0 : Int32) (M : Hx) : Option (Int32 × Hx) := bX9_wouldSee_53 [none, none, none, none, none] [.int s0] M
set_option maxRecDepth 100000 in
theorem eX9_wouldSee (l0 : Nat) (l1 : Int32) (l2 : Int32) (l3 : Int32) (M : Hx) : FX9_wouldSee l0 l1 l2 l3 M = (if l2 = nI 0 then (FX9_wouldSee_27 l0 l1 l2 M) else if l3 < nI 0 then (FX9_wouldSee_27 l0 l1 l2 M) else if l3 = l1 then (FX9_wouldSee_27 l0 l1 l2 M) else if l3 = (l1 + (nI 1)) then (FX9_wouldSee_27 l0 l1 l2 M) else if l3 = (l1 - (nI 1)) then (FX9_wouldSee_27 l0 l1 l2 M) else (FX9_wouldSee_32 l0 l1 l2 (nI 0) M)) := rfl
set_option maxRecDepth 100000 in
theorem eX9_wouldSee_27 (l0 : Nat) (l1 : Int32) (l2 : Int32) (M : Hx) : FX9_wouldSee_27 l0 l1 l2 M = (FX9_wouldSee_32 l0 l1 l2 (nI 1) M) := rfl
set_option maxRecDepth 100000 in
theorem eX9_wouldSee_32 (l0 : Nat) (l1 : Int32) (l2 : Int32) (s0 : Int32) (M : Hx) : FX9_wouldSee_32 l0 l1 l2 s0 M = (if s0 = nI 0 then (FX9_wouldSee_52 M) else gd (h_K M 8 l0) <| bnd (FX9_hasEyes l0 l1 l2 M) (fun q1 => if q1.1 = nI 0 then (FX9_wouldSee_52 q1.2) else FX9_wouldSee_53 (nI 1) q1.2) ()) := rfl
set_option maxRecDepth 100000 in
theorem eX9_wouldSee_52  (M : Hx) : FX9_wouldSee_52  M = (FX9_wouldSee_53 (nI 0) M) := rfl
set_option maxRecDepth 100000 in
theorem eX9_wouldSee_53 (s0 : Int32) (M : Hx) : FX9_wouldSee_53 s0 M = (if s0 = nI 0 ∨ s0 = nI 1 then some (s0, M) else none) := rfl
def FX9_doesSee (l0 : Nat) (l1 : Int32) (M : Hx) : Option (Int32 × Hx) := fX9_doesSee [.ref l0, .int l1] M
def FX9_doesSee_30 (s0 : Nat) (s1 : Int32) (s2 : Int32) (s3 : Int32) (M : Hx) : Option (Int32 × Hx) := bX9_doesSee_30 [none, none] [.int s3, .int s2, .int s1, .ref s0] M
def FX9_doesSee_40  (M : Hx) : Option (Int32 × Hx) := bX9_doesSee_40 [none, none] [] M
def FX9_doesSee_41 (s0 : Int32) (M : Hx) : Option (Int32 × Hx) := bX9_doesSee_41 [none, none] [.int s0] M
set_option maxRecDepth 100000 in
theorem eX9_doesSee (l0 : Nat) (l1 : Int32) (M : Hx) : FX9_doesSee l0 l1 M = (gd (h_K M 8 l0) <| bnd (FX9_hasIt l0 l1 M) (fun q1 => if q1.1 < nI 0 then (FX9_doesSee_40 q1.2) else gd (h_K q1.2 8 l0) <| bnd (FX9_hasIt l0 l1 q1.2) (fun q2 => if l1 = nI 0 then (FX9_doesSee_30 l0 q2.1 l1 (mi 1) q2.2) else (gd (h_K q2.2 8 l0) <| bnd (FX9_hasIt l0 (l1 - (nI 1)) q2.2) (fun q3 => FX9_doesSee_30 l0 q2.1 l1 q3.1 q3.2) ())) ()) ()) := rfl
set_option maxRecDepth 100000 in
theorem eX9_doesSee_30 (s0 : Nat) (s1 : Int32) (s2 : Int32) (s3 : Int32) (M : Hx) : FX9_doesSee_30 s0 s1 s2 s3 M = (gd (h_K M 8 s0) <| bnd (FX9_wouldSee s0 s1 s2 s3 M) (fun q4 => if q4.1 = nI 0 then (FX9_doesSee_40 q4.2) else FX9_doesSee_41 (nI 1) q4.2) ()) := rfl
set_option maxRecDepth 100000 in
theorem eX9_doesSee_40  (M : Hx) : FX9_doesSee_40  M = (FX9_doesSee_41 (nI 0) M) := rfl
set_option maxRecDepth 100000 in
theorem eX9_doesSee_41 (s0 : Int32) (M : Hx) : FX9_doesSee_41 s0 M = (if s0 = nI 0 ∨ s0 = nI 1 then some (s0, M) else none) := rfl
def FX9_seeing (l0 : Nat) (M : Hx) : Option (Int32 × Hx) := fX9_seeing [.ref l0] M
def FX9_seeing_4 (n4 : Nat) (l0 : Nat) (l1 : Int32) (l2 : Int32) (M : Hx) : Option (Int32 × Hx) := (o_lp (bX9_seeing_4) n4) [some (.ref l0), some (.int l1), some (.int l2)] [] M
def FX9_seeing_26 (n4 : Nat) (l0 : Nat) (l2 : Int32) (s0 : Int32) (s1 : Int32) (M : Hx) : Option (Int32 × Hx) := bX9_seeing_26 (o_lp (bX9_seeing_4) n4) [some (.ref l0), none, some (.int l2)] [.int s1, .int s0] M
set_option maxRecDepth 100000 in
theorem eX9_seeing (l0 : Nat) (M : Hx) : FX9_seeing l0 M = (FX9_seeing_4 fu l0 (nI 0) (nI 0) M) := rfl
set_option maxRecDepth 100000 in
theorem eX9_seeing_4 (n4 : Nat) (l0 : Nat) (l1 : Int32) (l2 : Int32) (M : Hx) : FX9_seeing_4 (n4 + 1) l0 l1 l2 M = (if (nI 10) ≤ l2 then (some (l1, M)) else gd (h_K M 8 l0) <| bnd (FX9_doesSee l0 l2 M) (fun q1 => if q1.1 = nI 0 then (FX9_seeing_26 n4 l0 l2 l1 (nI 0) q1.2) else FX9_seeing_26 n4 l0 l2 l1 ((nI 1) <<< (l2 &&& nI 31)) q1.2) ()) := rfl
set_option maxRecDepth 100000 in
theorem eX9_seeing_26 (n4 : Nat) (l0 : Nat) (l2 : Int32) (s0 : Int32) (s1 : Int32) (M : Hx) : FX9_seeing_26 n4 l0 l2 s0 s1 M = (FX9_seeing_4 n4 l0 (s0 ||| s1) (l2 + (nI 1)) M) := rfl
def FX9_valueAt (l0 : Nat) (l1 : Int32) (l2 : Int32) (M : Hx) : Option (Int32 × Hx) := fX9_valueAt [.ref l0, .int l1, .int l2] M
def FX9_valueAt_13 (n13 : Nat) (l0 : Nat) (l1 : Int32) (l2 : Int32) (l3 : Int32) (l4 : Int32) (M : Hx) : Option (Int32 × Hx) := (o_lp (bX9_valueAt_13) n13) [some (.ref l0), some (.int l1), some (.int l2), some (.int l3), some (.int l4), none, none] [] M
def FX9_valueAt_22 (n13 : Nat) (n22 : Nat) (l0 : Nat) (l1 : Int32) (l2 : Int32) (l3 : Int32) (l4 : Int32) (l5 : Int32) (M : Hx) : Option (Int32 × Hx) := (o_lp (bX9_valueAt_22 (o_lp (bX9_valueAt_13) n13)) n22) [some (.ref l0), some (.int l1), some (.int l2), some (.int l3), some (.int l4), some (.int l5), none] [] M
def FX9_valueAt_80 (n13 : Nat) (n22 : Nat) (l0 : Nat) (l1 : Int32) (l2 : Int32) (l3 : Int32) (l4 : Int32) (l5 : Int32) (M : Hx) : Option (Int32 × Hx) := bX9_valueAt_80 (o_lp (bX9_valueAt_13) n13) (o_lp (bX9_valueAt_22 (o_lp (bX9_valueAt_13) n13)) n22) [some (.ref l0), some (.int l1), some (.int l2), some (.int l3), some (.int l4), some (.int l5), none] [] M
def FX9_valueAt_81 (n13 : Nat) (n22 : Nat) (l0 : Nat) (l1 : Int32) (l2 : Int32) (l4 : Int32) (l5 : Int32) (s0 : Int32) (M : Hx) : Option (Int32 × Hx) := bX9_valueAt_81 (o_lp (bX9_valueAt_13) n13) (o_lp (bX9_valueAt_22 (o_lp (bX9_valueAt_13) n13)) n22) [some (.ref l0), some (.int l1), some (.int l2), none, some (.int l4), some (.int l5), none] [.int s0] M
set_option maxRecDepth 100000 in
theorem eX9_valueAt (l0 : Nat) (l1 : Int32) (l2 : Int32) (M : Hx) : FX9_valueAt l0 l1 l2 M = (bnd (h_R M 8 l0 0) (fun r1 => bnd (h_A M 0 r1 ((nI 10) + l1)) (fun x2 => FX9_valueAt_13 fu l0 l1 l2 x2 (nI 0) M) ()) ()) := rfl
set_option maxRecDepth 100000 in
theorem eX9_valueAt_13 (n13 : Nat) (l0 : Nat) (l1 : Int32) (l2 : Int32) (l3 : Int32) (l4 : Int32) (M : Hx) : FX9_valueAt_13 (n13 + 1) l0 l1 l2 l3 l4 M = (if l2 < l4 then (some (l3, M)) else FX9_valueAt_22 n13 fu l0 l1 l2 l3 l4 (nI 0) M) := rfl
set_option maxRecDepth 100000 in
theorem eX9_valueAt_22 (n13 : Nat) (n22 : Nat) (l0 : Nat) (l1 : Int32) (l2 : Int32) (l3 : Int32) (l4 : Int32) (l5 : Int32) (M : Hx) : FX9_valueAt_22 n13 (n22 + 1) l0 l1 l2 l3 l4 l5 M = (bnd (h_R M 8 l0 0) (fun r3 => bnd (h_A M 0 r3 (nI 25)) (fun x4 => if x4 ≤ l5 then (FX9_valueAt_13 n13 l0 l1 l2 l3 (l4 + (nI 1)) M) else bnd (h_R M 8 l0 0) (fun r5 => bnd (h_A M 0 r5 ((nI 13) + ((nI 3) * l5))) (fun x6 => if x6 = l4 then (bnd (h_R M 8 l0 0) (fun r7 => bnd (h_A M 0 r7 (((nI 13) + ((nI 3) * l5)) + (nI 1))) (fun x8 => if x8 = l1 then (bnd (h_R M 8 l0 0) (fun r9 => bnd (h_A M 0 r9 (((nI 13) + ((nI 3) * l5)) + (nI 2))) (fun x10 => FX9_valueAt_81 n13 n22 l0 l1 l2 l4 l5 x10 M) ()) ()) else (FX9_valueAt_80 n13 n22 l0 l1 l2 l3 l4 l5 M)) ()) ()) else (FX9_valueAt_80 n13 n22 l0 l1 l2 l3 l4 l5 M)) ()) ()) ()) ()) := rfl
set_option maxRecDepth 100000 in
theorem eX9_valueAt_80 (n13 : Nat) (n22 : Nat) (l0 : Nat) (l1 : Int32) (l2 : Int32) (l3 : Int32) (l4 : Int32) (l5 : Int32) (M : Hx) : FX9_valueAt_80 n13 n22 l0 l1 l2 l3 l4 l5 M = (FX9_valueAt_81 n13 n22 l0 l1 l2 l4 l5 l3 M) := rfl
set_option maxRecDepth 100000 in
theorem eX9_valueAt_81 (n13 : Nat) (n22 : Nat) (l0 : Nat) (l1 : Int32) (l2 : Int32) (l4 : Int32) (l5 : Int32) (s0 : Int32) (M : Hx) : FX9_valueAt_81 n13 n22 l0 l1 l2 l4 l5 s0 M = (FX9_valueAt_22 n13 n22 l0 l1 l2 s0 l4 (l5 + (nI 1)) M) := rfl
def FX9_tellings (l0 : Nat) (l1 : Int32) (M : Hx) : Option (Unit × Hx) := fX9_tellings [.ref l0, .int l1] M
def FX9_tellings_2 (n2 : Nat) (l0 : Nat) (l1 : Int32) (l2 : Int32) (M : Hx) : Option (Unit × Hx) := (o_lp (bX9_tellings_2) n2) [some (.ref l0), some (.int l1), some (.int l2), none, none, none] [] M
def FX9_tellings_122 (n2 : Nat) (l0 : Nat) (l1 : Int32) (l2 : Int32) (M : Hx) : Option (Unit × Hx) := bX9_tellings_122 (o_lp (bX9_tellings_2) n2) [some (.ref l0), some (.int l1), some (.int l2), none, none, none] [] M
set_option maxRecDepth 100000 in
theorem eX9_tellings (l0 : Nat) (l1 : Int32) (M : Hx) : FX9_tellings l0 l1 M = (FX9_tellings_2 fu l0 l1 (nI 0) M) := rfl
set_option maxRecDepth 100000 in
theorem eX9_tellings_2 (n2 : Nat) (l0 : Nat) (l1 : Int32) (l2 : Int32) (M : Hx) : FX9_tellings_2 (n2 + 1) l0 l1 l2 M = (bnd (h_R M 8 l0 0) (fun r1 => bnd (h_A M 0 r1 (nI 73)) (fun x2 => if x2 ≤ l2 then (some ((), M)) else bnd (h_R M 8 l0 0) (fun r3 => bnd (h_A M 0 r3 (((nI 57) + ((nI 4) * l2)) + (nI 1))) (fun x4 => bnd (h_R M 8 l0 0) (fun r5 => bnd (h_A M 0 r5 (((nI 57) + ((nI 4) * l2)) + (nI 3))) (fun x6 => bnd (h_R M 8 l0 0) (fun r7 => bnd (h_A M 0 r7 (((nI 57) + ((nI 4) * l2)) + (nI 2))) (fun x8 => bnd (h_R M 8 l0 0) (fun r9 => bnd (h_A M 0 r9 (((nI 57) + ((nI 4) * l2)) + (nI 3))) (fun x10 => bnd (h_R M 8 l0 0) (fun r11 => bnd (h_A M 0 r11 ((nI 57) + ((nI 4) * l2))) (fun x12 => if x12 = l1 then (bnd (h_R M 8 l0 20) (fun r13 => bnd (h_A M 0 r13 ((((nI 15) * l1) + ((nI 3) * x4)) + x6)) (fun x14 => if x14 = (mi 4) then (FX9_tellings_122 n2 l0 l1 l2 M) else bnd (h_R M 8 l0 20) (fun r15 => bnd (h_R M 8 l0 20) (fun r16 => bnd (h_A M 0 r16 ((((nI 15) * l1) + ((nI 3) * x4)) + x6)) (fun x17 => bnd (h_S M 0 r15 ((((nI 15) * l1) + ((nI 3) * x8)) + x10) x17) (fun M18 => bnd (h_R M18 8 l0 21) (fun r19 => bnd (h_R M18 8 l0 21) (fun r20 => bnd (h_A M18 0 r20 ((((nI 15) * l1) + ((nI 3) * x4)) + x6)) (fun x21 => bnd (h_S M18 0 r19 ((((nI 15) * l1) + ((nI 3) * x8)) + x10) x21) (fun M22 => FX9_tellings_122 n2 l0 l1 l2 M22) ()) ()) ()) ()) ()) ()) ()) ()) ()) ()) else (FX9_tellings_122 n2 l0 l1 l2 M)) ()) ()) ()) ()) ()) ()) ()) ()) ()) ()) ()) ()) := rfl
set_option maxRecDepth 100000 in
theorem eX9_tellings_122 (n2 : Nat) (l0 : Nat) (l1 : Int32) (l2 : Int32) (M : Hx) : FX9_tellings_122 n2 l0 l1 l2 M = (FX9_tellings_2 n2 l0 l1 (l2 + (nI 1)) M) := rfl
def FX9_hoursGo (l0 : Nat) (M : Hx) : Option (Unit × Hx) := fX9_hoursGo [.ref l0] M
def FX9_hoursGo_2 (n2 : Nat) (l0 : Nat) (l1 : Int32) (M : Hx) : Option (Unit × Hx) := (o_lp (bX9_hoursGo_2) n2) [some (.ref l0), some (.int l1), none, none, none] [] M
def FX9_hoursGo_10 (n2 : Nat) (n10 : Nat) (l0 : Nat) (l1 : Int32) (l2 : Int32) (M : Hx) : Option (Unit × Hx) := (o_lp (bX9_hoursGo_10 (o_lp (bX9_hoursGo_2) n2)) n10) [some (.ref l0), some (.int l1), some (.int l2), none, none] [] M
def FX9_hoursGo_82 (n2 : Nat) (n10 : Nat) (l0 : Nat) (l1 : Int32) (l2 : Int32) (l3 : Int32) (M : Hx) : Option (Unit × Hx) := bX9_hoursGo_82 (o_lp (bX9_hoursGo_2) n2) (o_lp (bX9_hoursGo_10 (o_lp (bX9_hoursGo_2) n2)) n10) [some (.ref l0), some (.int l1), some (.int l2), some (.int l3), none] [] M
def FX9_hoursGo_83 (n2 : Nat) (n10 : Nat) (l0 : Nat) (l1 : Int32) (l2 : Int32) (l3 : Int32) (s0 : Int32) (M : Hx) : Option (Unit × Hx) := bX9_hoursGo_83 (o_lp (bX9_hoursGo_2) n2) (o_lp (bX9_hoursGo_10 (o_lp (bX9_hoursGo_2) n2)) n10) [some (.ref l0), some (.int l1), some (.int l2), some (.int l3), none] [.int s0] M
def FX9_hoursGo_109 (n2 : Nat) (n10 : Nat) (l0 : Nat) (l1 : Int32) (l2 : Int32) (l3 : Int32) (l4 : Int32) (s0 : Nat) (s1 : Int32) (s2 : Int32) (M : Hx) : Option (Unit × Hx) := bX9_hoursGo_109 (o_lp (bX9_hoursGo_2) n2) (o_lp (bX9_hoursGo_10 (o_lp (bX9_hoursGo_2) n2)) n10) [some (.ref l0), some (.int l1), some (.int l2), some (.int l3), some (.int l4)] [.int s2, .int s1, .ref s0] M
def FX9_hoursGo_135 (n2 : Nat) (n10 : Nat) (l0 : Nat) (l1 : Int32) (l2 : Int32) (s0 : Nat) (s1 : Int32) (s2 : Int32) (M : Hx) : Option (Unit × Hx) := bX9_hoursGo_135 (o_lp (bX9_hoursGo_2) n2) (o_lp (bX9_hoursGo_10 (o_lp (bX9_hoursGo_2) n2)) n10) [some (.ref l0), some (.int l1), some (.int l2), none, none] [.int s2, .int s1, .ref s0] M
def FX9_hoursGo_208 (n2 : Nat) (l0 : Nat) (l1 : Int32) (M : Hx) : Option (Unit × Hx) := bX9_hoursGo_208 (o_lp (bX9_hoursGo_2) n2) [some (.ref l0), some (.int l1), none, none, none] [] M
set_option maxRecDepth 100000 in
theorem eX9_hoursGo (l0 : Nat) (M : Hx) : FX9_hoursGo l0 M = (FX9_hoursGo_2 fu l0 (nI 0) M) := rfl
set_option maxRecDepth 100000 in
theorem eX9_hoursGo_2 (n2 : Nat) (l0 : Nat) (l1 : Int32) (M : Hx) : FX9_hoursGo_2 (n2 + 1) l0 l1 M = (if (nI 10) ≤ l1 then (some ((), M)) else FX9_hoursGo_10 n2 fu l0 l1 (nI 0) M) := rfl
set_option maxRecDepth 100000 in
theorem eX9_hoursGo_10 (n2 : Nat) (n10 : Nat) (l0 : Nat) (l1 : Int32) (l2 : Int32) (M : Hx) : FX9_hoursGo_10 n2 (n10 + 1) l0 l1 l2 M = (if (nI 15) ≤ l2 then (gd (h_K M 8 l0) <| bnd (FX9_doesSee l0 l1 M) (fun q1 => if q1.1 = nI 0 then (FX9_hoursGo_208 n2 l0 l1 q1.2) else bnd (h_R q1.2 8 l0 0) (fun r2 => gd (h_K q1.2 8 l0) <| bnd (FX9_hasIt l0 l1 q1.2) (fun q3 => bnd (h_A q3.2 0 r2 ((nI 5) + q3.1)) (fun x4 => bnd (h_R q3.2 8 l0 20) (fun r5 => gd (h_K q3.2 8 l0) <| bnd (FX9_hasIt l0 l1 q3.2) (fun q6 => gd (h_K q6.2 8 l0) <| bnd (FX9_valueAt l0 x4 l1 q6.2) (fun q7 => bnd (h_S q7.2 0 r5 ((((nI 15) * l1) + ((nI 3) * q6.1)) + x4) q7.1) (fun M8 => bnd (h_R M8 8 l0 21) (fun r9 => gd (h_K M8 8 l0) <| bnd (FX9_hasIt l0 l1 M8) (fun q10 => bnd (h_S q10.2 0 r9 ((((nI 15) * l1) + ((nI 3) * q10.1)) + x4) (nI 0)) (fun M11 => FX9_hoursGo_208 n2 l0 l1 M11) ()) ()) ()) ()) ()) ()) ()) ()) ()) ()) ()) else if l1 ≤ nI 0 then (FX9_hoursGo_82 n2 n10 l0 l1 l2 (((nI 15) * l1) + l2) M) else bnd (h_I M 8 l0 2) (fun x12 => if x12 ≤ (l2 / (nI 3)) then (FX9_hoursGo_82 n2 n10 l0 l1 l2 (((nI 15) * l1) + l2) M) else bnd (h_R M 8 l0 20) (fun r13 => bnd (h_A M 0 r13 ((((nI 15) * l1) + l2) - (nI 15))) (fun x14 => if x14 = (mi 4) then (FX9_hoursGo_82 n2 n10 l0 l1 l2 (((nI 15) * l1) + l2) M) else bnd (h_R M 8 l0 21) (fun r15 => bnd (h_A M 0 r15 ((((nI 15) * l1) + l2) - (nI 15))) (fun x16 => bnd (h_R M 8 l0 1) (fun r17 => bnd (h_R M 8 l0 0) (fun r18 => bnd (h_A M 0 r18 (l2 / (nI 3))) (fun x19 => bnd (h_A M 0 r17 x19) (fun x20 => if x20 < (x16 + (nI 1)) then (FX9_hoursGo_82 n2 n10 l0 l1 l2 (((nI 15) * l1) + l2) M) else FX9_hoursGo_83 n2 n10 l0 l1 l2 (((nI 15) * l1) + l2) (nI 1) M) ()) ()) ()) ()) ()) ()) ()) ()) ()) := rfl
set_option maxRecDepth 100000 in
theorem eX9_hoursGo_82 (n2 : Nat) (n10 : Nat) (l0 : Nat) (l1 : Int32) (l2 : Int32) (l3 : Int32) (M : Hx) : FX9_hoursGo_82 n2 n10 l0 l1 l2 l3 M = (FX9_hoursGo_83 n2 n10 l0 l1 l2 l3 (nI 0) M) := rfl
set_option maxRecDepth 100000 in
theorem eX9_hoursGo_83 (n2 : Nat) (n10 : Nat) (l0 : Nat) (l1 : Int32) (l2 : Int32) (l3 : Int32) (s0 : Int32) (M : Hx) : FX9_hoursGo_83 n2 n10 l0 l1 l2 l3 s0 M = (bnd (h_R M 8 l0 20) (fun r21 => if s0 = nI 0 then (FX9_hoursGo_109 n2 n10 l0 l1 l2 l3 s0 r21 l3 (mi 4) M) else bnd (h_R M 8 l0 20) (fun r22 => bnd (h_A M 0 r22 (l3 - (nI 15))) (fun x23 => FX9_hoursGo_109 n2 n10 l0 l1 l2 l3 s0 r21 l3 x23 M) ()) ()) ()) := rfl
set_option maxRecDepth 100000 in
theorem eX9_hoursGo_109 (n2 : Nat) (n10 : Nat) (l0 : Nat) (l1 : Int32) (l2 : Int32) (l3 : Int32) (l4 : Int32) (s0 : Nat) (s1 : Int32) (s2 : Int32) (M : Hx) : FX9_hoursGo_109 n2 n10 l0 l1 l2 l3 l4 s0 s1 s2 M = (bnd (h_S M 0 s0 s1 s2) (fun M24 => bnd (h_R M24 8 l0 21) (fun r25 => if l4 = nI 0 then (FX9_hoursGo_135 n2 n10 l0 l1 l2 r25 l3 (nI 0) M24) else bnd (h_R M24 8 l0 21) (fun r26 => bnd (h_A M24 0 r26 (l3 - (nI 15))) (fun x27 => FX9_hoursGo_135 n2 n10 l0 l1 l2 r25 l3 (x27 + (nI 1)) M24) ()) ()) ()) ()) := rfl
set_option maxRecDepth 100000 in
theorem eX9_hoursGo_135 (n2 : Nat) (n10 : Nat) (l0 : Nat) (l1 : Int32) (l2 : Int32) (s0 : Nat) (s1 : Int32) (s2 : Int32) (M : Hx) : FX9_hoursGo_135 n2 n10 l0 l1 l2 s0 s1 s2 M = (bnd (h_S M 0 s0 s1 s2) (fun M28 => FX9_hoursGo_10 n2 n10 l0 l1 (l2 + (nI 1)) M28) ()) := rfl
set_option maxRecDepth 100000 in
theorem eX9_hoursGo_208 (n2 : Nat) (l0 : Nat) (l1 : Int32) (M : Hx) : FX9_hoursGo_208 n2 l0 l1 M = (gd (h_K M 8 l0) <| bnd (FX9_tellings l0 l1 M) (fun q29 => FX9_hoursGo_2 n2 l0 (l1 + (nI 1)) q29.2) ()) := rfl
def FX9_hoursOf (l0 : Nat) (l1 : Int32) (l2 : Int32) (M : Hx) : Option (Int32 × Hx) := fX9_hoursOf [.ref l0, .int l1, .int l2] M
def FX9_hoursOf_5 (n5 : Nat) (l0 : Nat) (l1 : Int32) (l2 : Int32) (l3 : Int32) (l4 : Int32) (M : Hx) : Option (Int32 × Hx) := (o_lp (bX9_hoursOf_5) n5) [some (.ref l0), some (.int l1), some (.int l2), some (.int l3), some (.int l4)] [] M
def FX9_hoursOf_38 (n5 : Nat) (l0 : Nat) (l1 : Int32) (l2 : Int32) (l4 : Int32) (s0 : Int32) (M : Hx) : Option (Int32 × Hx) := bX9_hoursOf_38 (o_lp (bX9_hoursOf_5) n5) [some (.ref l0), some (.int l1), some (.int l2), none, some (.int l4)] [.int s0] M
def FX9_hoursOf_51 (n5 : Nat) (l0 : Nat) (l1 : Int32) (l2 : Int32) (l4 : Int32) (s0 : Int32) (M : Hx) : Option (Int32 × Hx) := bX9_hoursOf_51 (o_lp (bX9_hoursOf_5) n5) [some (.ref l0), some (.int l1), some (.int l2), none, some (.int l4)] [.int s0] M
def FX9_hoursOf_58 (n5 : Nat) (l0 : Nat) (l1 : Int32) (l2 : Int32) (l4 : Int32) (s0 : Int32) (M : Hx) : Option (Int32 × Hx) := bX9_hoursOf_58 (o_lp (bX9_hoursOf_5) n5) [some (.ref l0), some (.int l1), some (.int l2), none, some (.int l4)] [.int s0] M
def FX9_hoursOf_59 (n5 : Nat) (l0 : Nat) (l1 : Int32) (l2 : Int32) (l4 : Int32) (s0 : Int32) (s1 : Int32) (M : Hx) : Option (Int32 × Hx) := bX9_hoursOf_59 (o_lp (bX9_hoursOf_5) n5) [some (.ref l0), some (.int l1), some (.int l2), none, some (.int l4)] [.int s1, .int s0] M
set_option maxRecDepth 100000 in
theorem eX9_hoursOf (l0 : Nat) (l1 : Int32) (l2 : Int32) (M : Hx) : FX9_hoursOf l0 l1 l2 M = (FX9_hoursOf_5 fu l0 l1 l2 (nI 0) (nI 0) M) := rfl
set_option maxRecDepth 100000 in
theorem eX9_hoursOf_5 (n5 : Nat) (l0 : Nat) (l1 : Int32) (l2 : Int32) (l3 : Int32) (l4 : Int32) (M : Hx) : FX9_hoursOf_5 (n5 + 1) l0 l1 l2 l3 l4 M = (if (nI 10) ≤ l4 then (some (l3, M)) else gd (h_K M 8 l0) <| bnd (FX9_hasIt l0 l4 M) (fun q1 => if q1.1 < nI 0 then (FX9_hoursOf_58 n5 l0 l1 l2 l4 l3 q1.2) else if l1 = (mi 4) then (FX9_hoursOf_38 n5 l0 l1 l2 l4 l3 q1.2) else gd (h_K q1.2 8 l0) <| bnd (FX9_hasIt l0 l4 q1.2) (fun q2 => if q2.1 = l1 then (FX9_hoursOf_38 n5 l0 l1 l2 l4 l3 q2.2) else (FX9_hoursOf_58 n5 l0 l1 l2 l4 l3 q2.2)) ()) ()) := rfl
set_option maxRecDepth 100000 in
theorem eX9_hoursOf_38 (n5 : Nat) (l0 : Nat) (l1 : Int32) (l2 : Int32) (l4 : Int32) (s0 : Int32) (M : Hx) : FX9_hoursOf_38 n5 l0 l1 l2 l4 s0 M = (if l2 = nI 0 then (FX9_hoursOf_51 n5 l0 l1 l2 l4 s0 M) else gd (h_K M 8 l0) <| bnd (FX9_doesSee l0 l4 M) (fun q3 => if q3.1 = nI 0 then (FX9_hoursOf_58 n5 l0 l1 l2 l4 s0 q3.2) else FX9_hoursOf_51 n5 l0 l1 l2 l4 s0 q3.2) ()) := rfl
set_option maxRecDepth 100000 in
theorem eX9_hoursOf_51 (n5 : Nat) (l0 : Nat) (l1 : Int32) (l2 : Int32) (l4 : Int32) (s0 : Int32) (M : Hx) : FX9_hoursOf_51 n5 l0 l1 l2 l4 s0 M = (FX9_hoursOf_59 n5 l0 l1 l2 l4 s0 ((nI 1) <<< (l4 &&& nI 31)) M) := rfl
set_option maxRecDepth 100000 in
theorem eX9_hoursOf_58 (n5 : Nat) (l0 : Nat) (l1 : Int32) (l2 : Int32) (l4 : Int32) (s0 : Int32) (M : Hx) : FX9_hoursOf_58 n5 l0 l1 l2 l4 s0 M = (FX9_hoursOf_59 n5 l0 l1 l2 l4 s0 (nI 0) M) := rfl
set_option maxRecDepth 100000 in
theorem eX9_hoursOf_59 (n5 : Nat) (l0 : Nat) (l1 : Int32) (l2 : Int32) (l4 : Int32) (s0 : Int32) (s1 : Int32) (M : Hx) : FX9_hoursOf_59 n5 l0 l1 l2 l4 s0 s1 M = (FX9_hoursOf_5 n5 l0 l1 l2 (s0 ||| s1) (l4 + (nI 1)) M) := rfl
def FX9_rule (l0 : Nat) (l1 : Int32) (M : Hx) : Option (Int32 × Hx) := fX9_rule [.ref l0, .int l1] M
set_option maxRecDepth 100000 in
theorem eX9_rule (l0 : Nat) (l1 : Int32) (M : Hx) : FX9_rule l0 l1 M = (if l1 = (nI 0) then (bnd (h_I M 8 l0 2) (fun x1 => some (x1, M)) ()) else if l1 = (nI 1) then (bnd (h_R M 8 l0 0) (fun r2 => bnd (h_A M 0 r2 (nI 25)) (fun x3 => some (x3, M)) ()) ()) else if l1 = (nI 2) then (bnd (h_R M 8 l0 0) (fun r4 => bnd (h_A M 0 r4 (nI 56)) (fun x5 => some (x5, M)) ()) ()) else if l1 = (nI 3) then (bnd (h_R M 8 l0 0) (fun r6 => bnd (h_A M 0 r6 (nI 73)) (fun x7 => some (x7, M)) ()) ()) else if l1 = (nI 4) then (gd (h_K M 8 l0) <| bnd (FX9_hoursOf l0 (mi 4) (nI 0) M) (fun q8 => some (q8.1, q8.2)) ()) else if l1 = (nI 5) then (gd (h_K M 8 l0) <| bnd (FX9_seeing l0 M) (fun q9 => some (q9.1, q9.2)) ()) else some ((mi 1), M)) := rfl
def FX9_one (l0 : Nat) (l1 : Int32) (l2 : Int32) (M : Hx) : Option (Int32 × Hx) := fX9_one [.ref l0, .int l1, .int l2] M
def FX9_one_44 (l0 : Nat) (l1 : Int32) (l2 : Int32) (M : Hx) : Option (Int32 × Hx) := bX9_one_44 [some (.ref l0), some (.int l1), some (.int l2)] [] M
set_option maxRecDepth 100000 in
theorem eX9_one (l0 : Nat) (l1 : Int32) (l2 : Int32) (M : Hx) : FX9_one l0 l1 l2 M = (gd (h_K M 8 l0) <| bnd (FX9_isOne l0 l1 M) (fun q1 => if q1.1 = nI 0 then (some ((mi 1), q1.2)) else (if l2 = (nI 0) then (FX9_one_44 l0 l1 l2 q1.2) else if l2 = (nI 1) then (FX9_one_44 l0 l1 l2 q1.2) else if l2 = (nI 2) then (bnd (h_R q1.2 8 l0 1) (fun r2 => bnd (h_R q1.2 8 l0 0) (fun r3 => bnd (h_A q1.2 0 r3 l1) (fun x4 => bnd (h_A q1.2 0 r2 x4) (fun x5 => some (x5, q1.2)) ()) ()) ()) ()) else if l2 = (nI 3) then (gd (h_K q1.2 8 l0) <| bnd (FX9_hoursOf l0 l1 (nI 0) q1.2) (fun q6 => some (q6.1, q6.2)) ()) else if l2 = (nI 4) then (gd (h_K q1.2 8 l0) <| bnd (FX9_hoursOf l0 l1 (nI 1) q1.2) (fun q7 => some (q7.1, q7.2)) ()) else some ((mi 1), q1.2))) ()) := rfl
set_option maxRecDepth 100000 in
theorem eX9_one_44 (l0 : Nat) (l1 : Int32) (l2 : Int32) (M : Hx) : FX9_one_44 l0 l1 l2 M = (bnd (h_R M 8 l0 0) (fun r8 => bnd (h_A M 0 r8 (((nI 5) * l2) + l1)) (fun x9 => some (x9, M)) ()) ()) := rfl
def FX9_thing (l0 : Nat) (l1 : Int32) (l2 : Int32) (M : Hx) : Option (Int32 × Hx) := fX9_thing [.ref l0, .int l1, .int l2] M
def FX9_thing_20  (M : Hx) : Option (Int32 × Hx) := bX9_thing_20 [none, none, none] [] M
def FX9_thing_22 (l0 : Nat) (l1 : Int32) (l2 : Int32) (M : Hx) : Option (Int32 × Hx) := bX9_thing_22 [some (.ref l0), some (.int l1), some (.int l2)] [] M
set_option maxRecDepth 100000 in
theorem eX9_thing (l0 : Nat) (l1 : Int32) (l2 : Int32) (M : Hx) : FX9_thing l0 l1 l2 M = (bnd (FX9_isThing l1 M) (fun q1 => if q1.1 = nI 0 then (FX9_thing_20 q1.2) else if l2 = (mi 4) then (FX9_thing_22 l0 l1 l2 q1.2) else bnd (FX9_isHour l2 q1.2) (fun q2 => if q2.1 = nI 0 then (FX9_thing_20 q2.2) else (FX9_thing_22 l0 l1 l2 q2.2)) ()) ()) := rfl
set_option maxRecDepth 100000 in
theorem eX9_thing_20  (M : Hx) : FX9_thing_20  M = (some ((mi 1), M)) := rfl
set_option maxRecDepth 100000 in
theorem eX9_thing_22 (l0 : Nat) (l1 : Int32) (l2 : Int32) (M : Hx) : FX9_thing_22 l0 l1 l2 M = (gd (h_K M 8 l0) <| bnd (FX9_valueAt l0 l1 l2 M) (fun q3 => some (q3.1, q3.2)) ()) := rfl
def FX9_orNone (l0 : Int32) (M : Hx) : Option (Int32 × Hx) := fX9_orNone [.int l0] M
def FX9_orNone_10 (s0 : Int32) (M : Hx) : Option (Int32 × Hx) := bX9_orNone_10 [none] [.int s0] M
set_option maxRecDepth 100000 in
theorem eX9_orNone (l0 : Int32) (M : Hx) : FX9_orNone l0 M = (if nI 0 ≤ l0 then (FX9_orNone_10 l0 M) else FX9_orNone_10 (mi 4) M) := rfl
set_option maxRecDepth 100000 in
theorem eX9_orNone_10 (s0 : Int32) (M : Hx) : FX9_orNone_10 s0 M = (some (s0, M)) := rfl
def FX9_rota (l0 : Nat) (l1 : Int32) (M : Hx) : Option (Int32 × Hx) := fX9_rota [.ref l0, .int l1] M
def FX9_rota_19 (s0 : Int32) (M : Hx) : Option (Int32 × Hx) := bX9_rota_19 [none, none] [.int s0] M
set_option maxRecDepth 100000 in
theorem eX9_rota (l0 : Nat) (l1 : Int32) (M : Hx) : FX9_rota l0 l1 M = (bnd (FX9_isHour l1 M) (fun q1 => if q1.1 = nI 0 then (FX9_rota_19 (mi 1) q1.2) else gd (h_K q1.2 8 l0) <| bnd (FX9_hasIt l0 l1 q1.2) (fun q2 => bnd (FX9_orNone q2.1 q2.2) (fun q3 => FX9_rota_19 q3.1 q3.2) ()) ()) ()) := rfl
set_option maxRecDepth 100000 in
theorem eX9_rota_19 (s0 : Int32) (M : Hx) : FX9_rota_19 s0 M = (some (s0, M)) := rfl
def FX9_turn (l0 : Nat) (l1 : Int32) (l2 : Int32) (M : Hx) : Option (Int32 × Hx) := fX9_turn [.ref l0, .int l1, .int l2] M
def FX9_turn_47  (M : Hx) : Option (Int32 × Hx) := bX9_turn_47 [none, none, none] [] M
def FX9_turn_48 (s0 : Int32) (M : Hx) : Option (Int32 × Hx) := bX9_turn_48 [none, none, none] [.int s0] M
set_option maxRecDepth 100000 in
theorem eX9_turn (l0 : Nat) (l1 : Int32) (l2 : Int32) (M : Hx) : FX9_turn l0 l1 l2 M = (bnd (h_R M 8 l0 0) (fun r1 => bnd (h_A M 0 r1 (nI 25)) (fun x2 => bnd (FX9_in l1.toInt64 (lN 0) (x2 - (nI 1)).toInt64 M) (fun q3 => if q3.1 = nI 0 then (FX9_turn_47 q3.2) else bnd (FX9_in l2.toInt64 (lN 0) (lN 2) q3.2) (fun q4 => if q4.1 = nI 0 then (FX9_turn_47 q4.2) else bnd (h_R q4.2 8 l0 0) (fun r5 => bnd (h_A q4.2 0 r5 (((nI 13) + ((nI 3) * l1)) + l2)) (fun x6 => FX9_turn_48 x6 q4.2) ()) ()) ()) ()) ()) ()) := rfl
set_option maxRecDepth 100000 in
theorem eX9_turn_47  (M : Hx) : FX9_turn_47  M = (FX9_turn_48 (mi 1) M) := rfl
set_option maxRecDepth 100000 in
theorem eX9_turn_48 (s0 : Int32) (M : Hx) : FX9_turn_48 s0 M = (some (s0, M)) := rfl
def FX9_isDone (l0 : Nat) (l1 : Int32) (l2 : Int32) (M : Hx) : Option (Int32 × Hx) := fX9_isDone [.ref l0, .int l1, .int l2] M
def FX9_isDone_20 (n20 : Nat) (l0 : Nat) (l2 : Int32) (l3 : Int32) (l4 : Int32) (l5 : Int32) (M : Hx) : Option (Int32 × Hx) := (o_lp (bX9_isDone_20) n20) [some (.ref l0), none, some (.int l2), some (.int l3), some (.int l4), some (.int l5)] [] M
def FX9_isDone_63 (n20 : Nat) (l0 : Nat) (l2 : Int32) (l3 : Int32) (l5 : Int32) (M : Hx) : Option (Int32 × Hx) := bX9_isDone_63 (o_lp (bX9_isDone_20) n20) [some (.ref l0), none, some (.int l2), some (.int l3), none, some (.int l5)] [] M
def FX9_isDone_67 (n20 : Nat) (l0 : Nat) (l2 : Int32) (l3 : Int32) (l5 : Int32) (M : Hx) : Option (Int32 × Hx) := bX9_isDone_67 (o_lp (bX9_isDone_20) n20) [some (.ref l0), none, some (.int l2), some (.int l3), none, some (.int l5)] [] M
def FX9_isDone_68 (n20 : Nat) (l0 : Nat) (l2 : Int32) (l3 : Int32) (l5 : Int32) (s0 : Int32) (M : Hx) : Option (Int32 × Hx) := bX9_isDone_68 (o_lp (bX9_isDone_20) n20) [some (.ref l0), none, some (.int l2), some (.int l3), none, some (.int l5)] [.int s0] M
set_option maxRecDepth 100000 in
theorem eX9_isDone (l0 : Nat) (l1 : Int32) (l2 : Int32) (M : Hx) : FX9_isDone l0 l1 l2 M = (bnd (h_R M 8 l0 0) (fun r1 => bnd (h_A M 0 r1 (((nI 36) + ((nI 4) * l1)) + (nI 1))) (fun x2 => FX9_isDone_20 fu l0 l2 ((nI 36) + ((nI 4) * l1)) (nI 0) x2 M) ()) ()) := rfl
set_option maxRecDepth 100000 in
theorem eX9_isDone_20 (n20 : Nat) (l0 : Nat) (l2 : Int32) (l3 : Int32) (l4 : Int32) (l5 : Int32) (M : Hx) : FX9_isDone_20 (n20 + 1) l0 l2 l3 l4 l5 M = (bnd (h_R M 8 l0 0) (fun r3 => bnd (h_A M 0 r3 (l3 + (nI 2))) (fun x4 => if x4 < l5 then (if l4 = nI 0 ∨ l4 = nI 1 then some (l4, M) else none) else if l4 = nI 0 then (if ((l2 >>> (l5 &&& nI 31)) &&& (nI 1)) = (nI 1) then (gd (h_K M 8 l0) <| bnd (FX9_hasIt l0 l5 M) (fun q5 => bnd (h_R q5.2 8 l0 0) (fun r6 => bnd (h_A q5.2 0 r6 l3) (fun x7 => if q5.1 = x7 then (FX9_isDone_63 n20 l0 l2 l3 l5 q5.2) else (FX9_isDone_67 n20 l0 l2 l3 l5 q5.2)) ()) ()) ()) else (FX9_isDone_67 n20 l0 l2 l3 l5 M)) else (FX9_isDone_63 n20 l0 l2 l3 l5 M)) ()) ()) := rfl
set_option maxRecDepth 100000 in
theorem eX9_isDone_63 (n20 : Nat) (l0 : Nat) (l2 : Int32) (l3 : Int32) (l5 : Int32) (M : Hx) : FX9_isDone_63 n20 l0 l2 l3 l5 M = (FX9_isDone_68 n20 l0 l2 l3 l5 (nI 1) M) := rfl
set_option maxRecDepth 100000 in
theorem eX9_isDone_67 (n20 : Nat) (l0 : Nat) (l2 : Int32) (l3 : Int32) (l5 : Int32) (M : Hx) : FX9_isDone_67 n20 l0 l2 l3 l5 M = (FX9_isDone_68 n20 l0 l2 l3 l5 (nI 0) M) := rfl
set_option maxRecDepth 100000 in
theorem eX9_isDone_68 (n20 : Nat) (l0 : Nat) (l2 : Int32) (l3 : Int32) (l5 : Int32) (s0 : Int32) (M : Hx) : FX9_isDone_68 n20 l0 l2 l3 l5 s0 M = (FX9_isDone_20 n20 l0 l2 l3 s0 (l5 + (nI 1)) M) := rfl
def FX9_doneBy (l0 : Nat) (l1 : Int32) (M : Hx) : Option (Int32 × Hx) := fX9_doneBy [.ref l0, .int l1] M
def FX9_doneBy_4 (n4 : Nat) (l0 : Nat) (l1 : Int32) (l2 : Int32) (l3 : Int32) (M : Hx) : Option (Int32 × Hx) := (o_lp (bX9_doneBy_4) n4) [some (.ref l0), some (.int l1), some (.int l2), some (.int l3)] [] M
def FX9_doneBy_32 (n4 : Nat) (l0 : Nat) (l1 : Int32) (l3 : Int32) (s0 : Int32) (s1 : Int32) (M : Hx) : Option (Int32 × Hx) := bX9_doneBy_32 (o_lp (bX9_doneBy_4) n4) [some (.ref l0), some (.int l1), none, some (.int l3)] [.int s1, .int s0] M
set_option maxRecDepth 100000 in
theorem eX9_doneBy (l0 : Nat) (l1 : Int32) (M : Hx) : FX9_doneBy l0 l1 M = (FX9_doneBy_4 fu l0 l1 (nI 0) (nI 0) M) := rfl
set_option maxRecDepth 100000 in
theorem eX9_doneBy_4 (n4 : Nat) (l0 : Nat) (l1 : Int32) (l2 : Int32) (l3 : Int32) (M : Hx) : FX9_doneBy_4 (n4 + 1) l0 l1 l2 l3 M = (bnd (h_R M 8 l0 0) (fun r1 => bnd (h_A M 0 r1 (nI 56)) (fun x2 => if x2 ≤ l3 then (some (l2, M)) else gd (h_K M 8 l0) <| bnd (FX9_isDone l0 l3 l1 M) (fun q3 => if q3.1 = nI 0 then (FX9_doneBy_32 n4 l0 l1 l3 l2 (nI 0) q3.2) else FX9_doneBy_32 n4 l0 l1 l3 l2 ((nI 1) <<< (l3 &&& nI 31)) q3.2) ()) ()) ()) := rfl
set_option maxRecDepth 100000 in
theorem eX9_doneBy_32 (n4 : Nat) (l0 : Nat) (l1 : Int32) (l3 : Int32) (s0 : Int32) (s1 : Int32) (M : Hx) : FX9_doneBy_32 n4 l0 l1 l3 s0 s1 M = (FX9_doneBy_4 n4 l0 l1 (s0 ||| s1) (l3 + (nI 1)) M) := rfl
def FX9_worthOf (l0 : Nat) (l1 : Int32) (M : Hx) : Option (Int32 × Hx) := fX9_worthOf [.ref l0, .int l1] M
def FX9_worthOf_4 (n4 : Nat) (l0 : Nat) (l1 : Int32) (l2 : Int32) (l3 : Int32) (M : Hx) : Option (Int32 × Hx) := (o_lp (bX9_worthOf_4) n4) [some (.ref l0), some (.int l1), some (.int l2), some (.int l3)] [] M
def FX9_worthOf_42 (n4 : Nat) (l0 : Nat) (l1 : Int32) (l3 : Int32) (s0 : Int32) (s1 : Int32) (M : Hx) : Option (Int32 × Hx) := bX9_worthOf_42 (o_lp (bX9_worthOf_4) n4) [some (.ref l0), some (.int l1), none, some (.int l3)] [.int s1, .int s0] M
set_option maxRecDepth 100000 in
theorem eX9_worthOf (l0 : Nat) (l1 : Int32) (M : Hx) : FX9_worthOf l0 l1 M = (FX9_worthOf_4 fu l0 l1 (nI 0) (nI 0) M) := rfl
set_option maxRecDepth 100000 in
theorem eX9_worthOf_4 (n4 : Nat) (l0 : Nat) (l1 : Int32) (l2 : Int32) (l3 : Int32) (M : Hx) : FX9_worthOf_4 (n4 + 1) l0 l1 l2 l3 M = (bnd (h_R M 8 l0 0) (fun r1 => bnd (h_A M 0 r1 (nI 56)) (fun x2 => if x2 ≤ l3 then (some (l2, M)) else if ((l1 >>> (l3 &&& nI 31)) &&& (nI 1)) = (nI 1) then (bnd (h_R M 8 l0 0) (fun r3 => bnd (h_A M 0 r3 (((nI 36) + ((nI 4) * l3)) + (nI 3))) (fun x4 => FX9_worthOf_42 n4 l0 l1 l3 l2 x4 M) ()) ()) else (FX9_worthOf_42 n4 l0 l1 l3 l2 (nI 0) M)) ()) ()) := rfl
set_option maxRecDepth 100000 in
theorem eX9_worthOf_42 (n4 : Nat) (l0 : Nat) (l1 : Int32) (l3 : Int32) (s0 : Int32) (s1 : Int32) (M : Hx) : FX9_worthOf_42 n4 l0 l1 l3 s0 s1 M = (FX9_worthOf_4 n4 l0 l1 (s0 + s1) (l3 + (nI 1)) M) := rfl
def FX9_worthNow (l0 : Nat) (M : Hx) : Option (Int32 × Hx) := fX9_worthNow [.ref l0] M
set_option maxRecDepth 100000 in
theorem eX9_worthNow (l0 : Nat) (M : Hx) : FX9_worthNow l0 M = (gd (h_K M 8 l0) <| bnd (FX9_seeing l0 M) (fun q1 => gd (h_K q1.2 8 l0) <| bnd (FX9_doneBy l0 q1.1 q1.2) (fun q2 => gd (h_K q2.2 8 l0) <| bnd (FX9_worthOf l0 q2.1 q2.2) (fun q3 => some (q3.1, q3.2)) ()) ()) ()) := rfl
def FX9_work (l0 : Nat) (l1 : Int32) (l2 : Int32) (M : Hx) : Option (Int32 × Hx) := fX9_work [.ref l0, .int l1, .int l2] M
def FX9_work_31  (M : Hx) : Option (Int32 × Hx) := bX9_work_31 [none, none, none] [] M
def FX9_work_71 (s0 : Int32) (M : Hx) : Option (Int32 × Hx) := bX9_work_71 [none, none, none] [.int s0] M
set_option maxRecDepth 100000 in
theorem eX9_work (l0 : Nat) (l1 : Int32) (l2 : Int32) (M : Hx) : FX9_work l0 l1 l2 M = (bnd (h_R M 8 l0 0) (fun r1 => bnd (h_A M 0 r1 (nI 56)) (fun x2 => bnd (FX9_in l1.toInt64 (lN 0) (x2 - (nI 1)).toInt64 M) (fun q3 => if q3.1 = nI 0 then (FX9_work_31 q3.2) else bnd (FX9_in l2.toInt64 (lN 0) (lN 4) q3.2) (fun q4 => if q4.1 = nI 0 then (FX9_work_31 q4.2) else (if (nI 4) ≤ l2 then (gd (h_K q4.2 8 l0) <| bnd (FX9_seeing l0 q4.2) (fun q5 => gd (h_K q5.2 8 l0) <| bnd (FX9_isDone l0 l1 q5.1 q5.2) (fun q6 => if q6.1 = nI 0 then (FX9_work_71 (nI 0) q6.2) else FX9_work_71 (nI 1) q6.2) ()) ()) else bnd (h_R q4.2 8 l0 0) (fun r7 => bnd (h_A q4.2 0 r7 (((nI 36) + ((nI 4) * l1)) + l2)) (fun x8 => FX9_work_71 x8 q4.2) ()) ())) ()) ()) ()) ()) := rfl
set_option maxRecDepth 100000 in
theorem eX9_work_31  (M : Hx) : FX9_work_31  M = (some ((mi 1), M)) := rfl
set_option maxRecDepth 100000 in
theorem eX9_work_71 (s0 : Int32) (M : Hx) : FX9_work_71 s0 M = (some (s0, M)) := rfl
def FX9_telling (l0 : Nat) (l1 : Int32) (l2 : Int32) (M : Hx) : Option (Int32 × Hx) := fX9_telling [.ref l0, .int l1, .int l2] M
def FX9_telling_47  (M : Hx) : Option (Int32 × Hx) := bX9_telling_47 [none, none, none] [] M
def FX9_telling_48 (s0 : Int32) (M : Hx) : Option (Int32 × Hx) := bX9_telling_48 [none, none, none] [.int s0] M
set_option maxRecDepth 100000 in
theorem eX9_telling (l0 : Nat) (l1 : Int32) (l2 : Int32) (M : Hx) : FX9_telling l0 l1 l2 M = (bnd (h_R M 8 l0 0) (fun r1 => bnd (h_A M 0 r1 (nI 73)) (fun x2 => bnd (FX9_in l1.toInt64 (lN 0) (x2 - (nI 1)).toInt64 M) (fun q3 => if q3.1 = nI 0 then (FX9_telling_47 q3.2) else bnd (FX9_in l2.toInt64 (lN 0) (lN 3) q3.2) (fun q4 => if q4.1 = nI 0 then (FX9_telling_47 q4.2) else bnd (h_R q4.2 8 l0 0) (fun r5 => bnd (h_A q4.2 0 r5 (((nI 57) + ((nI 4) * l1)) + l2)) (fun x6 => FX9_telling_48 x6 q4.2) ()) ()) ()) ()) ()) ()) := rfl
set_option maxRecDepth 100000 in
theorem eX9_telling_47  (M : Hx) : FX9_telling_47  M = (FX9_telling_48 (mi 1) M) := rfl
set_option maxRecDepth 100000 in
theorem eX9_telling_48 (s0 : Int32) (M : Hx) : FX9_telling_48 s0 M = (some (s0, M)) := rfl
def FX9_puts (l0 : Nat) (l1 : Int32) (l2 : Int32) (l3 : Int32) (M : Hx) : Option (Int32 × Hx) := fX9_puts [.ref l0, .int l1, .int l2, .int l3] M
set_option maxRecDepth 100000 in
theorem eX9_puts (l0 : Nat) (l1 : Int32) (l2 : Int32) (l3 : Int32) (M : Hx) : FX9_puts l0 l1 l2 l3 M = (if l1 = nI 0 then (some ((mi 1), M)) else (bnd (h_R M 8 l0 0) (fun r1 => bnd (h_A M 0 r1 l2) (fun x2 => bnd (h_R M 8 l0 0) (fun r3 => bnd (h_S M 0 r3 l2 l3) (fun M4 => some (x2, M4)) ()) ()) ()) ())) := rfl
def FX9_alter (l0 : Nat) (l1 : Int32) (l2 : Int32) (l3 : Int32) (M : Hx) : Option (Int32 × Hx) := fX9_alter [.ref l0, .int l1, .int l2, .int l3] M
def FX9_alter_25 (l1 : Int32) (l2 : Int32) (l3 : Int32) (s0 : Nat) (M : Hx) : Option (Int32 × Hx) := bX9_alter_25 [none, some (.int l1), some (.int l2), some (.int l3)] [.ref s0] M
def FX9_alter_37 (l1 : Int32) (l2 : Int32) (l3 : Int32) (s0 : Nat) (M : Hx) : Option (Int32 × Hx) := bX9_alter_37 [none, some (.int l1), some (.int l2), some (.int l3)] [.ref s0] M
def FX9_alter_41 (l1 : Int32) (l2 : Int32) (l3 : Int32) (s0 : Nat) (M : Hx) : Option (Int32 × Hx) := bX9_alter_41 [none, some (.int l1), some (.int l2), some (.int l3)] [.ref s0] M
def FX9_alter_42 (l1 : Int32) (l2 : Int32) (l3 : Int32) (s0 : Nat) (s1 : Int32) (M : Hx) : Option (Int32 × Hx) := bX9_alter_42 [none, some (.int l1), some (.int l2), some (.int l3)] [.int s1, .ref s0] M
set_option maxRecDepth 100000 in
theorem eX9_alter (l0 : Nat) (l1 : Int32) (l2 : Int32) (l3 : Int32) (M : Hx) : FX9_alter l0 l1 l2 l3 M = (gd (h_K M 8 l0) <| bnd (FX9_isOne l0 l1 M) (fun q1 => if q1.1 = nI 0 then (FX9_alter_41 l1 l2 l3 l0 q1.2) else if l2 = nI 0 then (bnd (FX9_in l3.toInt64 (lN 0) (lN 3) q1.2) (fun q2 => if q2.1 = nI 0 then (FX9_alter_25 l1 l2 l3 l0 q2.2) else (FX9_alter_37 l1 l2 l3 l0 q2.2)) ()) else (FX9_alter_25 l1 l2 l3 l0 q1.2)) ()) := rfl
set_option maxRecDepth 100000 in
theorem eX9_alter_25 (l1 : Int32) (l2 : Int32) (l3 : Int32) (s0 : Nat) (M : Hx) : FX9_alter_25 l1 l2 l3 s0 M = (if l2 = (nI 1) then (bnd (FX9_isThing l3 M) (fun q3 => if q3.1 = nI 0 then (FX9_alter_41 l1 l2 l3 s0 q3.2) else FX9_alter_37 l1 l2 l3 s0 q3.2) ()) else (FX9_alter_41 l1 l2 l3 s0 M)) := rfl
set_option maxRecDepth 100000 in
theorem eX9_alter_37 (l1 : Int32) (l2 : Int32) (l3 : Int32) (s0 : Nat) (M : Hx) : FX9_alter_37 l1 l2 l3 s0 M = (FX9_alter_42 l1 l2 l3 s0 (nI 1) M) := rfl
set_option maxRecDepth 100000 in
theorem eX9_alter_41 (l1 : Int32) (l2 : Int32) (l3 : Int32) (s0 : Nat) (M : Hx) : FX9_alter_41 l1 l2 l3 s0 M = (FX9_alter_42 l1 l2 l3 s0 (nI 0) M) := rfl
set_option maxRecDepth 100000 in
theorem eX9_alter_42 (l1 : Int32) (l2 : Int32) (l3 : Int32) (s0 : Nat) (s1 : Int32) (M : Hx) : FX9_alter_42 l1 l2 l3 s0 s1 M = (gd (h_K M 8 s0) <| bnd (FX9_puts s0 s1 (((nI 5) * l2) + l1) l3 M) (fun q4 => some (q4.1, q4.2)) ()) := rfl
def FX9_paint (l0 : Nat) (l1 : Int32) (l2 : Int32) (M : Hx) : Option (Int32 × Hx) := fX9_paint [.ref l0, .int l1, .int l2] M
def FX9_paint_24 (l1 : Int32) (l2 : Int32) (s0 : Nat) (M : Hx) : Option (Int32 × Hx) := bX9_paint_24 [none, some (.int l1), some (.int l2)] [.ref s0] M
def FX9_paint_25 (l1 : Int32) (l2 : Int32) (s0 : Nat) (s1 : Int32) (M : Hx) : Option (Int32 × Hx) := bX9_paint_25 [none, some (.int l1), some (.int l2)] [.int s1, .ref s0] M
set_option maxRecDepth 100000 in
theorem eX9_paint (l0 : Nat) (l1 : Int32) (l2 : Int32) (M : Hx) : FX9_paint l0 l1 l2 M = (bnd (FX9_isThing l1 M) (fun q1 => if q1.1 = nI 0 then (FX9_paint_24 l1 l2 l0 q1.2) else bnd (FX9_in l2.toInt64 (lN 0) (lN 9) q1.2) (fun q2 => if q2.1 = nI 0 then (FX9_paint_24 l1 l2 l0 q2.2) else FX9_paint_25 l1 l2 l0 (nI 1) q2.2) ()) ()) := rfl
set_option maxRecDepth 100000 in
theorem eX9_paint_24 (l1 : Int32) (l2 : Int32) (s0 : Nat) (M : Hx) : FX9_paint_24 l1 l2 s0 M = (FX9_paint_25 l1 l2 s0 (nI 0) M) := rfl
set_option maxRecDepth 100000 in
theorem eX9_paint_25 (l1 : Int32) (l2 : Int32) (s0 : Nat) (s1 : Int32) (M : Hx) : FX9_paint_25 l1 l2 s0 s1 M = (gd (h_K M 8 s0) <| bnd (FX9_puts s0 s1 ((nI 10) + l1) l2 M) (fun q3 => some (q3.1, q3.2)) ()) := rfl
def FX9_shifts (l0 : Nat) (l1 : Int32) (l2 : Int32) (M : Hx) : Option (Int32 × Hx) := fX9_shifts [.ref l0, .int l1, .int l2] M
def FX9_shifts_21  (M : Hx) : Option (Int32 × Hx) := bX9_shifts_21 [none, none, none, none] [] M
def FX9_shifts_23 (l0 : Nat) (l1 : Int32) (l2 : Int32) (M : Hx) : Option (Int32 × Hx) := bX9_shifts_23 [some (.ref l0), some (.int l1), some (.int l2), none] [] M
def FX9_shifts_50 (l3 : Int32) (s0 : Nat) (s1 : Int32) (s2 : Int32) (M : Hx) : Option (Int32 × Hx) := bX9_shifts_50 [none, none, none, some (.int l3)] [.int s2, .int s1, .ref s0] M
set_option maxRecDepth 100000 in
theorem eX9_shifts (l0 : Nat) (l1 : Int32) (l2 : Int32) (M : Hx) : FX9_shifts l0 l1 l2 M = (bnd (FX9_isHour l1 M) (fun q1 => if q1.1 = nI 0 then (FX9_shifts_21 q1.2) else if l2 = (mi 4) then (FX9_shifts_23 l0 l1 l2 q1.2) else gd (h_K q1.2 8 l0) <| bnd (FX9_isOne l0 l2 q1.2) (fun q2 => if q2.1 = nI 0 then (FX9_shifts_21 q2.2) else (FX9_shifts_23 l0 l1 l2 q2.2)) ()) ()) := rfl
set_option maxRecDepth 100000 in
theorem eX9_shifts_21  (M : Hx) : FX9_shifts_21  M = (some ((mi 1), M)) := rfl
set_option maxRecDepth 100000 in
theorem eX9_shifts_23 (l0 : Nat) (l1 : Int32) (l2 : Int32) (M : Hx) : FX9_shifts_23 l0 l1 l2 M = (gd (h_K M 8 l0) <| bnd (FX9_hasIt l0 l1 M) (fun q3 => bnd (h_R q3.2 8 l0 0) (fun r4 => if l2 = (mi 4) then (FX9_shifts_50 q3.1 r4 ((nI 26) + l1) (nI 0) q3.2) else (FX9_shifts_50 q3.1 r4 ((nI 26) + l1) (l2 + (nI 1)) q3.2)) ()) ()) := rfl
set_option maxRecDepth 100000 in
theorem eX9_shifts_50 (l3 : Int32) (s0 : Nat) (s1 : Int32) (s2 : Int32) (M : Hx) : FX9_shifts_50 l3 s0 s1 s2 M = (bnd (h_S M 0 s0 s1 s2) (fun M5 => bnd (FX9_orNone l3 M5) (fun q6 => some (q6.1, q6.2)) ()) ()) := rfl
def FX9_shift (l0 : Nat) (l1 : Int32) (l2 : Int32) (M : Hx) : Option (Int32 × Hx) := fX9_shift [.ref l0, .int l1, .int l2] M
set_option maxRecDepth 100000 in
theorem eX9_shift (l0 : Nat) (l1 : Int32) (l2 : Int32) (M : Hx) : FX9_shift l0 l1 l2 M = (gd (h_K M 8 l0) <| bnd (FX9_shifts l0 l1 l2 M) (fun q1 => some (q1.1, q1.2)) ()) := rfl
def FX9_assign (l0 : Nat) (l1 : Int32) (l2 : Int32) (l3 : Int32) (l4 : Int32) (M : Hx) : Option (Int32 × Hx) := fX9_assign [.ref l0, .int l1, .int l2, .int l3, .int l4] M
def FX9_assign_41  (M : Hx) : Option (Int32 × Hx) := bX9_assign_41 [none, none, none, none, none, none] [] M
set_option maxRecDepth 100000 in
theorem eX9_assign (l0 : Nat) (l1 : Int32) (l2 : Int32) (l3 : Int32) (l4 : Int32) (M : Hx) : FX9_assign l0 l1 l2 l3 l4 M = (gd (h_K M 8 l0) <| bnd (FX9_isOne l0 l1 M) (fun q1 => if q1.1 = nI 0 then (FX9_assign_41 q1.2) else bnd (FX9_isHour l2 q1.2) (fun q2 => if q2.1 = nI 0 then (FX9_assign_41 q2.2) else bnd (FX9_in l3.toInt64 l2.toInt64 (lN 9) q2.2) (fun q3 => if q3.1 = nI 0 then (FX9_assign_41 q3.2) else bnd (FX9_in l4.toInt64 (lN 1) (lN 9) q3.2) (fun q4 => if q4.1 = nI 0 then (FX9_assign_41 q4.2) else (bnd (h_R q4.2 8 l0 0) (fun r5 => bnd (h_A q4.2 0 r5 (nI 56)) (fun x6 => if x6 = (nI 5) then (some ((mi 3), q4.2)) else (bnd (h_R q4.2 8 l0 0) (fun r7 => bnd (h_A q4.2 0 r7 (nI 56)) (fun x8 => bnd (h_R q4.2 8 l0 0) (fun r9 => bnd (h_S q4.2 0 r9 ((nI 36) + ((nI 4) * x8)) l1) (fun M10 => bnd (h_R M10 8 l0 0) (fun r11 => bnd (h_S M10 0 r11 (((nI 36) + ((nI 4) * x8)) + (nI 1)) l2) (fun M12 => bnd (h_R M12 8 l0 0) (fun r13 => bnd (h_S M12 0 r13 (((nI 36) + ((nI 4) * x8)) + (nI 2)) l3) (fun M14 => bnd (h_R M14 8 l0 0) (fun r15 => bnd (h_S M14 0 r15 (((nI 36) + ((nI 4) * x8)) + (nI 3)) l4) (fun M16 => bnd (h_R M16 8 l0 0) (fun r17 => bnd (h_A M16 0 r17 (nI 56)) (fun x18 => bnd (h_S M16 0 r17 (nI 56) (x18 + (nI 1))) (fun M19 => bnd (h_R M19 8 l0 0) (fun r20 => bnd (h_A M19 0 r20 (nI 56)) (fun x21 => some (x21, M19)) ()) ()) ()) ()) ()) ()) ()) ()) ()) ()) ()) ()) ()) ()) ())) ()) ())) ()) ()) ()) ()) := rfl
set_option maxRecDepth 100000 in
theorem eX9_assign_41  (M : Hx) : FX9_assign_41  M = (some ((mi 1), M)) := rfl
