def FX9_hasEyes (l0 : Nat) (l1 : Int32) (l2 : Int32) (M : Hx) : Option (Int32 × Hx) := fX9_hasEyes [.ref l0, .int l1, .int l2] M
def FX9_hasEyes_39  (M : Hx) : Option (Int32 × Hx) := bX9_hasEyes_39 [none, none, none] [] M
def FX9_hasEyes_44 (s0 : Int32) (M : Hx) : Option (Int32 × Hx) := bX9_hasEyes_44 [none, none, none] [.int s0] M
set_option maxRecDepth 100000 in
theorem eX9_hasEyes (l0 : Nat) (l1 : Int32) (l2 : Int32) (M : Hx) : FX9_hasEyes l0 l1 l2 M = ((h_R M 8 l0 0).bind fun r1 => (h_A M 0 r1 l1).bind fun x2 => if x2 = (1 : Int32) then (if (6 : Int32) ≤ l2 then (FX9_hasEyes_44 (0 : Int32) M) else FX9_hasEyes_44 (1 : Int32) M) else ((h_R M 8 l0 0).bind fun r3 => (h_A M 0 r3 l1).bind fun x4 => if x4 = (3 : Int32) then (if l2 ≤ (5 : Int32) then (FX9_hasEyes_44 (0 : Int32) M) else FX9_hasEyes_39 M) else (FX9_hasEyes_39 M))) := rfl
set_option maxRecDepth 100000 in
theorem eX9_hasEyes_39  (M : Hx) : FX9_hasEyes_39  M = (FX9_hasEyes_44 (1 : Int32) M) := rfl
set_option maxRecDepth 100000 in
theorem eX9_hasEyes_44 (s0 : Int32) (M : Hx) : FX9_hasEyes_44 s0 M = (if s0 = 0 ∨ s0 = 1 then some (s0, M) else none) := rfl
def FX9_wouldSee (l0 : Nat) (l1 : Int32) (l2 : Int32) (l3 : Int32) (M : Hx) : Option (Int32 × Hx) := fX9_wouldSee [.ref l0, .int l1, .int l2, .int l3] M
def FX9_wouldSee_27 (l0 : Nat) (l1 : Int32) (l2 : Int32) (M : Hx) : Option (Int32 × Hx) := bX9_wouldSee_27 [some (.ref l0), some (.int l1), some (.int l2), none, none] [] M
def FX9_wouldSee_32 (l0 : Nat) (l1 : Int32) (l2 : Int32) (s0 : Int32) (M : Hx) : Option (Int32 × Hx) := bX9_wouldSee_32 [some (.ref l0), some (.int l1), some (.int l2), none, none] [.int s0] M
def FX9_wouldSee_52  (M : Hx) : Option (Int32 × Hx) := bX9_wouldSee_52 [none, none, none, none, none] [] M
def FX9_wouldSee_53 (s0 : Int32) (M : Hx) : Option (Int32 × Hx) := bX9_wouldSee_53 [none, none, none, none, none] [.int s0] M
set_option maxRecDepth 100000 in
theorem eX9_wouldSee (l0 : Nat) (l1 : Int32) (l2 : Int32) (l3 : Int32) (M : Hx) : FX9_wouldSee l0 l1 l2 l3 M = (if l2 = 0 then (FX9_wouldSee_27 l0 l1 l2 M) else if l3 < 0 then (FX9_wouldSee_27 l0 l1 l2 M) else if l3 = l1 then (FX9_wouldSee_27 l0 l1 l2 M) else if l3 = (l1 + (1 : Int32)) then (FX9_wouldSee_27 l0 l1 l2 M) else if l3 = (l1 - (1 : Int32)) then (FX9_wouldSee_27 l0 l1 l2 M) else (FX9_wouldSee_32 l0 l1 l2 (0 : Int32) M)) := rfl
set_option maxRecDepth 100000 in
theorem eX9_wouldSee_27 (l0 : Nat) (l1 : Int32) (l2 : Int32) (M : Hx) : FX9_wouldSee_27 l0 l1 l2 M = (FX9_wouldSee_32 l0 l1 l2 (1 : Int32) M) := rfl
set_option maxRecDepth 100000 in
theorem eX9_wouldSee_32 (l0 : Nat) (l1 : Int32) (l2 : Int32) (s0 : Int32) (M : Hx) : FX9_wouldSee_32 l0 l1 l2 s0 M = (if s0 = 0 then (FX9_wouldSee_52 M) else gd (h_K M 8 l0) <| (FX9_hasEyes l0 l1 l2 M).bind fun q1 => if q1.1 = 0 then (FX9_wouldSee_52 q1.2) else FX9_wouldSee_53 (1 : Int32) q1.2) := rfl
set_option maxRecDepth 100000 in
theorem eX9_wouldSee_52  (M : Hx) : FX9_wouldSee_52  M = (FX9_wouldSee_53 (0 : Int32) M) := rfl
set_option maxRecDepth 100000 in
theorem eX9_wouldSee_53 (s0 : Int32) (M : Hx) : FX9_wouldSee_53 s0 M = (if s0 = 0 ∨ s0 = 1 then some (s0, M) else none) := rfl
def FX9_doesSee (l0 : Nat) (l1 : Int32) (M : Hx) : Option (Int32 × Hx) := fX9_doesSee [.ref l0, .int l1] M
def FX9_doesSee_30 (s0 : Nat) (s1 : Int32) (s2 : Int32) (s3 : Int32) (M : Hx) : Option (Int32 × Hx) := bX9_doesSee_30 [none, none] [.int s3, .int s2, .int s1, .ref s0] M
def FX9_doesSee_40  (M : Hx) : Option (Int32 × Hx) := bX9_doesSee_40 [none, none] [] M
def FX9_doesSee_41 (s0 : Int32) (M : Hx) : Option (Int32 × Hx) := bX9_doesSee_41 [none, none] [.int s0] M
set_option maxRecDepth 100000 in
theorem eX9_doesSee (l0 : Nat) (l1 : Int32) (M : Hx) : FX9_doesSee l0 l1 M = (gd (h_K M 8 l0) <| (FX9_hasIt l0 l1 M).bind fun q1 => if q1.1 < 0 then (FX9_doesSee_40 q1.2) else gd (h_K q1.2 8 l0) <| (FX9_hasIt l0 l1 q1.2).bind fun q2 => if l1 = 0 then (FX9_doesSee_30 l0 q2.1 l1 ((-1) : Int32) q2.2) else (gd (h_K q2.2 8 l0) <| (FX9_hasIt l0 (l1 - (1 : Int32)) q2.2).bind fun q3 => FX9_doesSee_30 l0 q2.1 l1 q3.1 q3.2)) := rfl
set_option maxRecDepth 100000 in
theorem eX9_doesSee_30 (s0 : Nat) (s1 : Int32) (s2 : Int32) (s3 : Int32) (M : Hx) : FX9_doesSee_30 s0 s1 s2 s3 M = (gd (h_K M 8 s0) <| (FX9_wouldSee s0 s1 s2 s3 M).bind fun q4 => if q4.1 = 0 then (FX9_doesSee_40 q4.2) else FX9_doesSee_41 (1 : Int32) q4.2) := rfl
set_option maxRecDepth 100000 in
theorem eX9_doesSee_40  (M : Hx) : FX9_doesSee_40  M = (FX9_doesSee_41 (0 : Int32) M) := rfl
set_option maxRecDepth 100000 in
theorem eX9_doesSee_41 (s0 : Int32) (M : Hx) : FX9_doesSee_41 s0 M = (if s0 = 0 ∨ s0 = 1 then some (s0, M) else none) := rfl
def FX9_seeing (l0 : Nat) (M : Hx) : Option (Int32 × Hx) := fX9_seeing [.ref l0] M
def FX9_seeing_4 (n4 : Nat) (l0 : Nat) (l1 : Int32) (l2 : Int32) (M : Hx) : Option (Int32 × Hx) := (o_lp (bX9_seeing_4) n4) [some (.ref l0), some (.int l1), some (.int l2)] [] M
def FX9_seeing_26 (n4 : Nat) (l0 : Nat) (l2 : Int32) (s0 : Int32) (s1 : Int32) (M : Hx) : Option (Int32 × Hx) := bX9_seeing_26 (o_lp (bX9_seeing_4) n4) [some (.ref l0), none, some (.int l2)] [.int s1, .int s0] M
set_option maxRecDepth 100000 in
theorem eX9_seeing (l0 : Nat) (M : Hx) : FX9_seeing l0 M = (FX9_seeing_4 fu l0 (0 : Int32) (0 : Int32) M) := rfl
set_option maxRecDepth 100000 in
theorem eX9_seeing_4 (n4 : Nat) (l0 : Nat) (l1 : Int32) (l2 : Int32) (M : Hx) : FX9_seeing_4 (n4 + 1) l0 l1 l2 M = (if (10 : Int32) ≤ l2 then (some (l1, M)) else gd (h_K M 8 l0) <| (FX9_doesSee l0 l2 M).bind fun q1 => if q1.1 = 0 then (FX9_seeing_26 n4 l0 l2 l1 (0 : Int32) q1.2) else FX9_seeing_26 n4 l0 l2 l1 ((1 : Int32) <<< (l2 &&& 31)) q1.2) := rfl
set_option maxRecDepth 100000 in
theorem eX9_seeing_26 (n4 : Nat) (l0 : Nat) (l2 : Int32) (s0 : Int32) (s1 : Int32) (M : Hx) : FX9_seeing_26 n4 l0 l2 s0 s1 M = (FX9_seeing_4 n4 l0 (s0 ||| s1) (l2 + 1) M) := rfl
def FX9_valueAt (l0 : Nat) (l1 : Int32) (l2 : Int32) (M : Hx) : Option (Int32 × Hx) := fX9_valueAt [.ref l0, .int l1, .int l2] M
def FX9_valueAt_13 (n13 : Nat) (l0 : Nat) (l1 : Int32) (l2 : Int32) (l3 : Int32) (l4 : Int32) (M : Hx) : Option (Int32 × Hx) := (o_lp (bX9_valueAt_13) n13) [some (.ref l0), some (.int l1), some (.int l2), some (.int l3), some (.int l4), none, none] [] M
def FX9_valueAt_22 (n13 : Nat) (n22 : Nat) (l0 : Nat) (l1 : Int32) (l2 : Int32) (l3 : Int32) (l4 : Int32) (l5 : Int32) (M : Hx) : Option (Int32 × Hx) := (o_lp (bX9_valueAt_22 (o_lp (bX9_valueAt_13) n13)) n22) [some (.ref l0), some (.int l1), some (.int l2), some (.int l3), some (.int l4), some (.int l5), none] [] M
def FX9_valueAt_80 (n13 : Nat) (n22 : Nat) (l0 : Nat) (l1 : Int32) (l2 : Int32) (l3 : Int32) (l4 : Int32) (l5 : Int32) (M : Hx) : Option (Int32 × Hx) := bX9_valueAt_80 (o_lp (bX9_valueAt_13) n13) (o_lp (bX9_valueAt_22 (o_lp (bX9_valueAt_13) n13)) n22) [some (.ref l0), some (.int l1), some (.int l2), some (.int l3), some (.int l4), some (.int l5), none] [] M
def FX9_valueAt_81 (n13 : Nat) (n22 : Nat) (l0 : Nat) (l1 : Int32) (l2 : Int32) (l4 : Int32) (l5 : Int32) (s0 : Int32) (M : Hx) : Option (Int32 × Hx) := bX9_valueAt_81 (o_lp (bX9_valueAt_13) n13) (o_lp (bX9_valueAt_22 (o_lp (bX9_valueAt_13) n13)) n22) [some (.ref l0), some (.int l1), some (.int l2), none, some (.int l4), some (.int l5), none] [.int s0] M
set_option maxRecDepth 100000 in
theorem eX9_valueAt (l0 : Nat) (l1 : Int32) (l2 : Int32) (M : Hx) : FX9_valueAt l0 l1 l2 M = ((h_R M 8 l0 0).bind fun r1 => (h_A M 0 r1 ((10 : Int32) + l1)).bind fun x2 => FX9_valueAt_13 fu l0 l1 l2 x2 (0 : Int32) M) := rfl
set_option maxRecDepth 100000 in
theorem eX9_valueAt_13 (n13 : Nat) (l0 : Nat) (l1 : Int32) (l2 : Int32) (l3 : Int32) (l4 : Int32) (M : Hx) : FX9_valueAt_13 (n13 + 1) l0 l1 l2 l3 l4 M = (if l2 < l4 then (some (l3, M)) else FX9_valueAt_22 n13 fu l0 l1 l2 l3 l4 (0 : Int32) M) := rfl
set_option maxRecDepth 100000 in
theorem eX9_valueAt_22 (n13 : Nat) (n22 : Nat) (l0 : Nat) (l1 : Int32) (l2 : Int32) (l3 : Int32) (l4 : Int32) (l5 : Int32) (M : Hx) : FX9_valueAt_22 n13 (n22 + 1) l0 l1 l2 l3 l4 l5 M = ((h_R M 8 l0 0).bind fun r3 => (h_A M 0 r3 (25 : Int32)).bind fun x4 => if x4 ≤ l5 then (FX9_valueAt_13 n13 l0 l1 l2 l3 (l4 + 1) M) else (h_R M 8 l0 0).bind fun r5 => (h_A M 0 r5 ((13 : Int32) + ((3 : Int32) * l5))).bind fun x6 => if x6 = l4 then ((h_R M 8 l0 0).bind fun r7 => (h_A M 0 r7 (((13 : Int32) + ((3 : Int32) * l5)) + (1 : Int32))).bind fun x8 => if x8 = l1 then ((h_R M 8 l0 0).bind fun r9 => (h_A M 0 r9 (((13 : Int32) + ((3 : Int32) * l5)) + (2 : Int32))).bind fun x10 => FX9_valueAt_81 n13 n22 l0 l1 l2 l4 l5 x10 M) else (FX9_valueAt_80 n13 n22 l0 l1 l2 l3 l4 l5 M)) else (FX9_valueAt_80 n13 n22 l0 l1 l2 l3 l4 l5 M)) := rfl
set_option maxRecDepth 100000 in
theorem eX9_valueAt_80 (n13 : Nat) (n22 : Nat) (l0 : Nat) (l1 : Int32) (l2 : Int32) (l3 : Int32) (l4 : Int32) (l5 : Int32) (M : Hx) : FX9_valueAt_80 n13 n22 l0 l1 l2 l3 l4 l5 M = (FX9_valueAt_81 n13 n22 l0 l1 l2 l4 l5 l3 M) := rfl
set_option maxRecDepth 100000 in
theorem eX9_valueAt_81 (n13 : Nat) (n22 : Nat) (l0 : Nat) (l1 : Int32) (l2 : Int32) (l4 : Int32) (l5 : Int32) (s0 : Int32) (M : Hx) : FX9_valueAt_81 n13 n22 l0 l1 l2 l4 l5 s0 M = (FX9_valueAt_22 n13 n22 l0 l1 l2 s0 l4 (l5 + 1) M) := rfl
def FX9_tellings (l0 : Nat) (l1 : Int32) (M : Hx) : Option (Unit × Hx) := fX9_tellings [.ref l0, .int l1] M
def FX9_tellings_2 (n2 : Nat) (l0 : Nat) (l1 : Int32) (l2 : Int32) (M : Hx) : Option (Unit × Hx) := (o_lp (bX9_tellings_2) n2) [some (.ref l0), some (.int l1), some (.int l2), none, none, none] [] M
def FX9_tellings_122 (n2 : Nat) (l0 : Nat) (l1 : Int32) (l2 : Int32) (M : Hx) : Option (Unit × Hx) := bX9_tellings_122 (o_lp (bX9_tellings_2) n2) [some (.ref l0), some (.int l1), some (.int l2), none, none, none] [] M
set_option maxRecDepth 100000 in
theorem eX9_tellings (l0 : Nat) (l1 : Int32) (M : Hx) : FX9_tellings l0 l1 M = (FX9_tellings_2 fu l0 l1 (0 : Int32) M) := rfl
set_option maxRecDepth 100000 in
theorem eX9_tellings_2 (n2 : Nat) (l0 : Nat) (l1 : Int32) (l2 : Int32) (M : Hx) : FX9_tellings_2 (n2 + 1) l0 l1 l2 M = ((h_R M 8 l0 0).bind fun r1 => (h_A M 0 r1 (73 : Int32)).bind fun x2 => if x2 ≤ l2 then (some ((), M)) else (h_R M 8 l0 0).bind fun r3 => (h_A M 0 r3 (((57 : Int32) + ((4 : Int32) * l2)) + (1 : Int32))).bind fun x4 => (h_R M 8 l0 0).bind fun r5 => (h_A M 0 r5 (((57 : Int32) + ((4 : Int32) * l2)) + (3 : Int32))).bind fun x6 => (h_R M 8 l0 0).bind fun r7 => (h_A M 0 r7 (((57 : Int32) + ((4 : Int32) * l2)) + (2 : Int32))).bind fun x8 => (h_R M 8 l0 0).bind fun r9 => (h_A M 0 r9 (((57 : Int32) + ((4 : Int32) * l2)) + (3 : Int32))).bind fun x10 => (h_R M 8 l0 0).bind fun r11 => (h_A M 0 r11 ((57 : Int32) + ((4 : Int32) * l2))).bind fun x12 => if x12 = l1 then ((h_R M 8 l0 20).bind fun r13 => (h_A M 0 r13 ((((15 : Int32) * l1) + ((3 : Int32) * x4)) + x6)).bind fun x14 => if x14 = ((-4) : Int32) then (FX9_tellings_122 n2 l0 l1 l2 M) else (h_R M 8 l0 20).bind fun r15 => (h_R M 8 l0 20).bind fun r16 => (h_A M 0 r16 ((((15 : Int32) * l1) + ((3 : Int32) * x4)) + x6)).bind fun x17 => (h_S M 0 r15 ((((15 : Int32) * l1) + ((3 : Int32) * x8)) + x10) x17).bind fun M18 => (h_R M18 8 l0 21).bind fun r19 => (h_R M18 8 l0 21).bind fun r20 => (h_A M18 0 r20 ((((15 : Int32) * l1) + ((3 : Int32) * x4)) + x6)).bind fun x21 => (h_S M18 0 r19 ((((15 : Int32) * l1) + ((3 : Int32) * x8)) + x10) x21).bind fun M22 => FX9_tellings_122 n2 l0 l1 l2 M22) else (FX9_tellings_122 n2 l0 l1 l2 M)) := rfl
set_option maxRecDepth 100000 in
theorem eX9_tellings_122 (n2 : Nat) (l0 : Nat) (l1 : Int32) (l2 : Int32) (M : Hx) : FX9_tellings_122 n2 l0 l1 l2 M = (FX9_tellings_2 n2 l0 l1 (l2 + 1) M) := rfl
def FX9_hoursGo (l0 : Nat) (M : Hx) : Option (Unit × Hx) := fX9_hoursGo [.ref l0] M
def FX9_hoursGo_2 (n2 : Nat) (l0 : Nat) (l1 : Int32) (M : Hx) : Option (Unit × Hx) := (o_lp (bX9_hoursGo_2) n2) [some (.ref l0), some (.int l1), none, none, none] [] M
def FX9_hoursGo_10 (n2 : Nat) (n10 : Nat) (l0 : Nat) (l1 : Int32) (l2 : Int32) (M : Hx) : Option (Unit × Hx) := (o_lp (bX9_hoursGo_10 (o_lp (bX9_hoursGo_2) n2)) n10) [some (.ref l0), some (.int l1), some (.int l2), none, none] [] M
def FX9_hoursGo_82 (n2 : Nat) (n10 : Nat) (l0 : Nat) (l1 : Int32) (l2 : Int32) (l3 : Int32) (M : Hx) : Option (Unit × Hx) := bX9_hoursGo_82 (o_lp (bX9_hoursGo_2) n2) (o_lp (bX9_hoursGo_10 (o_lp (bX9_hoursGo_2) n2)) n10) [some (.ref l0), some (.int l1), some (.int l2), some (.int l3), none] [] M
def FX9_hoursGo_83 (n2 : Nat) (n10 : Nat) (l0 : Nat) (l1 : Int32) (l2 : Int32) (l3 : Int32) (s0 : Int32) (M : Hx) : Option (Unit × Hx) := bX9_hoursGo_83 (o_lp (bX9_hoursGo_2) n2) (o_lp (bX9_hoursGo_10 (o_lp (bX9_hoursGo_2) n2)) n10) [some (.ref l0), some (.int l1), some (.int l2), some (.int l3), none] [.int s0] M
def FX9_hoursGo_109 (n2 : Nat) (n10 : Nat) (l0 : Nat) (l1 : Int32) (l2 : Int32) (l3 : Int32) (l4 : Int32) (s0 : Nat) (s1 : Int32) (s2 : Int32) (M : Hx) : Option (Unit × Hx) := bX9_hoursGo_109 (o_lp (bX9_hoursGo_2) n2) (o_lp (bX9_hoursGo_10 (o_lp (bX9_hoursGo_2) n2)) n10) [some (.ref l0), some (.int l1), some (.int l2), some (.int l3), some (.int l4)] [.int s2, .int s1, .ref s0] M
def FX9_hoursGo_135 (n2 : Nat) (n10 : Nat) (l0 : Nat) (l1 : Int32) (l2 : Int32) (s0 : Nat) (s1 : Int32) (s2 : Int32) (M : Hx) : Option (Unit × Hx) := bX9_hoursGo_135 (o_lp (bX9_hoursGo_2) n2) (o_lp (bX9_hoursGo_10 (o_lp (bX9_hoursGo_2) n2)) n10) [some (.ref l0), some (.int l1), some (.int l2), none, none] [.int s2, .int s1, .ref s0] M
def FX9_hoursGo_208 (n2 : Nat) (l0 : Nat) (l1 : Int32) (M : Hx) : Option (Unit × Hx) := bX9_hoursGo_208 (o_lp (bX9_hoursGo_2) n2) [some (.ref l0), some (.int l1), none, none, none] [] M
set_option maxRecDepth 100000 in
theorem eX9_hoursGo (l0 : Nat) (M : Hx) : FX9_hoursGo l0 M = (FX9_hoursGo_2 fu l0 (0 : Int32) M) := rfl
set_option maxRecDepth 100000 in
theorem eX9_hoursGo_2 (n2 : Nat) (l0 : Nat) (l1 : Int32) (M : Hx) : FX9_hoursGo_2 (n2 + 1) l0 l1 M = (if (10 : Int32) ≤ l1 then (some ((), M)) else FX9_hoursGo_10 n2 fu l0 l1 (0 : Int32) M) := rfl
set_option maxRecDepth 100000 in
theorem eX9_hoursGo_10 (n2 : Nat) (n10 : Nat) (l0 : Nat) (l1 : Int32) (l2 : Int32) (M : Hx) : FX9_hoursGo_10 n2 (n10 + 1) l0 l1 l2 M = (if (15 : Int32) ≤ l2 then (gd (h_K M 8 l0) <| (FX9_doesSee l0 l1 M).bind fun q1 => if q1.1 = 0 then (FX9_hoursGo_208 n2 l0 l1 q1.2) else (h_R q1.2 8 l0 0).bind fun r2 => gd (h_K q1.2 8 l0) <| (FX9_hasIt l0 l1 q1.2).bind fun q3 => (h_A q3.2 0 r2 ((5 : Int32) + q3.1)).bind fun x4 => (h_R q3.2 8 l0 20).bind fun r5 => gd (h_K q3.2 8 l0) <| (FX9_hasIt l0 l1 q3.2).bind fun q6 => gd (h_K q6.2 8 l0) <| (FX9_valueAt l0 x4 l1 q6.2).bind fun q7 => (h_S q7.2 0 r5 ((((15 : Int32) * l1) + ((3 : Int32) * q6.1)) + x4) q7.1).bind fun M8 => (h_R M8 8 l0 21).bind fun r9 => gd (h_K M8 8 l0) <| (FX9_hasIt l0 l1 M8).bind fun q10 => (h_S q10.2 0 r9 ((((15 : Int32) * l1) + ((3 : Int32) * q10.1)) + x4) (0 : Int32)).bind fun M11 => FX9_hoursGo_208 n2 l0 l1 M11) else if l1 ≤ 0 then (FX9_hoursGo_82 n2 n10 l0 l1 l2 (((15 : Int32) * l1) + l2) M) else (h_I M 8 l0 2).bind fun x12 => if x12 ≤ (l2 / (3 : Int32)) then (FX9_hoursGo_82 n2 n10 l0 l1 l2 (((15 : Int32) * l1) + l2) M) else (h_R M 8 l0 20).bind fun r13 => (h_A M 0 r13 ((((15 : Int32) * l1) + l2) - (15 : Int32))).bind fun x14 => if x14 = ((-4) : Int32) then (FX9_hoursGo_82 n2 n10 l0 l1 l2 (((15 : Int32) * l1) + l2) M) else (h_R M 8 l0 21).bind fun r15 => (h_A M 0 r15 ((((15 : Int32) * l1) + l2) - (15 : Int32))).bind fun x16 => (h_R M 8 l0 1).bind fun r17 => (h_R M 8 l0 0).bind fun r18 => (h_A M 0 r18 (l2 / (3 : Int32))).bind fun x19 => (h_A M 0 r17 x19).bind fun x20 => if x20 < (x16 + (1 : Int32)) then (FX9_hoursGo_82 n2 n10 l0 l1 l2 (((15 : Int32) * l1) + l2) M) else FX9_hoursGo_83 n2 n10 l0 l1 l2 (((15 : Int32) * l1) + l2) (1 : Int32) M) := rfl
set_option maxRecDepth 100000 in
theorem eX9_hoursGo_82 (n2 : Nat) (n10 : Nat) (l0 : Nat) (l1 : Int32) (l2 : Int32) (l3 : Int32) (M : Hx) : FX9_hoursGo_82 n2 n10 l0 l1 l2 l3 M = (FX9_hoursGo_83 n2 n10 l0 l1 l2 l3 (0 : Int32) M) := rfl
set_option maxRecDepth 100000 in
theorem eX9_hoursGo_83 (n2 : Nat) (n10 : Nat) (l0 : Nat) (l1 : Int32) (l2 : Int32) (l3 : Int32) (s0 : Int32) (M : Hx) : FX9_hoursGo_83 n2 n10 l0 l1 l2 l3 s0 M = ((h_R M 8 l0 20).bind fun r21 => if s0 = 0 then (FX9_hoursGo_109 n2 n10 l0 l1 l2 l3 s0 r21 l3 ((-4) : Int32) M) else (h_R M 8 l0 20).bind fun r22 => (h_A M 0 r22 (l3 - (15 : Int32))).bind fun x23 => FX9_hoursGo_109 n2 n10 l0 l1 l2 l3 s0 r21 l3 x23 M) := rfl
set_option maxRecDepth 100000 in
theorem eX9_hoursGo_109 (n2 : Nat) (n10 : Nat) (l0 : Nat) (l1 : Int32) (l2 : Int32) (l3 : Int32) (l4 : Int32) (s0 : Nat) (s1 : Int32) (s2 : Int32) (M : Hx) : FX9_hoursGo_109 n2 n10 l0 l1 l2 l3 l4 s0 s1 s2 M = ((h_S M 0 s0 s1 s2).bind fun M24 => (h_R M24 8 l0 21).bind fun r25 => if l4 = 0 then (FX9_hoursGo_135 n2 n10 l0 l1 l2 r25 l3 (0 : Int32) M24) else (h_R M24 8 l0 21).bind fun r26 => (h_A M24 0 r26 (l3 - (15 : Int32))).bind fun x27 => FX9_hoursGo_135 n2 n10 l0 l1 l2 r25 l3 (x27 + (1 : Int32)) M24) := rfl
set_option maxRecDepth 100000 in
theorem eX9_hoursGo_135 (n2 : Nat) (n10 : Nat) (l0 : Nat) (l1 : Int32) (l2 : Int32) (s0 : Nat) (s1 : Int32) (s2 : Int32) (M : Hx) : FX9_hoursGo_135 n2 n10 l0 l1 l2 s0 s1 s2 M = ((h_S M 0 s0 s1 s2).bind fun M28 => FX9_hoursGo_10 n2 n10 l0 l1 (l2 + 1) M28) := rfl
set_option maxRecDepth 100000 in
theorem eX9_hoursGo_208 (n2 : Nat) (l0 : Nat) (l1 : Int32) (M : Hx) : FX9_hoursGo_208 n2 l0 l1 M = (gd (h_K M 8 l0) <| (FX9_tellings l0 l1 M).bind fun q29 => FX9_hoursGo_2 n2 l0 (l1 + 1) q29.2) := rfl
def FX9_hoursOf (l0 : Nat) (l1 : Int32) (l2 : Int32) (M : Hx) : Option (Int32 × Hx) := fX9_hoursOf [.ref l0, .int l1, .int l2] M
def FX9_hoursOf_5 (n5 : Nat) (l0 : Nat) (l1 : Int32) (l2 : Int32) (l3 : Int32) (l4 : Int32) (M : Hx) : Option (Int32 × Hx) := (o_lp (bX9_hoursOf_5) n5) [some (.ref l0), some (.int l1), some (.int l2), some (.int l3), some (.int l4)] [] M
def FX9_hoursOf_38 (n5 : Nat) (l0 : Nat) (l1 : Int32) (l2 : Int32) (l4 : Int32) (s0 : Int32) (M : Hx) : Option (Int32 × Hx) := bX9_hoursOf_38 (o_lp (bX9_hoursOf_5) n5) [some (.ref l0), some (.int l1), some (.int l2), none, some (.int l4)] [.int s0] M
def FX9_hoursOf_51 (n5 : Nat) (l0 : Nat) (l1 : Int32) (l2 : Int32) (l4 : Int32) (s0 : Int32) (M : Hx) : Option (Int32 × Hx) := bX9_hoursOf_51 (o_lp (bX9_hoursOf_5) n5) [some (.ref l0), some (.int l1), some (.int l2), none, some (.int l4)] [.int s0] M
def FX9_hoursOf_58 (n5 : Nat) (l0 : Nat) (l1 : Int32) (l2 : Int32) (l4 : Int32) (s0 : Int32) (M : Hx) : Option (Int32 × Hx) := bX9_hoursOf_58 (o_lp (bX9_hoursOf_5) n5) [some (.ref l0), some (.int l1), some (.int l2), none, some (.int l4)] [.int s0] M
def FX9_hoursOf_59 (n5 : Nat) (l0 : Nat) (l1 : Int32) (l2 : Int32) (l4 : Int32) (s0 : Int32) (s1 : Int32) (M : Hx) : Option (Int32 × Hx) := bX9_hoursOf_59 (o_lp (bX9_hoursOf_5) n5) [some (.ref l0), some (.int l1), some (.int l2), none, some (.int l4)] [.int s1, .int s0] M
set_option maxRecDepth 100000 in
theorem eX9_hoursOf (l0 : Nat) (l1 : Int32) (l2 : Int32) (M : Hx) : FX9_hoursOf l0 l1 l2 M = (FX9_hoursOf_5 fu l0 l1 l2 (0 : Int32) (0 : Int32) M) := rfl
set_option maxRecDepth 100000 in
theorem eX9_hoursOf_5 (n5 : Nat) (l0 : Nat) (l1 : Int32) (l2 : Int32) (l3 : Int32) (l4 : Int32) (M : Hx) : FX9_hoursOf_5 (n5 + 1) l0 l1 l2 l3 l4 M = (if (10 : Int32) ≤ l4 then (some (l3, M)) else gd (h_K M 8 l0) <| (FX9_hasIt l0 l4 M).bind fun q1 => if q1.1 < 0 then (FX9_hoursOf_58 n5 l0 l1 l2 l4 l3 q1.2) else if l1 = ((-4) : Int32) then (FX9_hoursOf_38 n5 l0 l1 l2 l4 l3 q1.2) else gd (h_K q1.2 8 l0) <| (FX9_hasIt l0 l4 q1.2).bind fun q2 => if q2.1 = l1 then (FX9_hoursOf_38 n5 l0 l1 l2 l4 l3 q2.2) else (FX9_hoursOf_58 n5 l0 l1 l2 l4 l3 q2.2)) := rfl
set_option maxRecDepth 100000 in
theorem eX9_hoursOf_38 (n5 : Nat) (l0 : Nat) (l1 : Int32) (l2 : Int32) (l4 : Int32) (s0 : Int32) (M : Hx) : FX9_hoursOf_38 n5 l0 l1 l2 l4 s0 M = (if l2 = 0 then (FX9_hoursOf_51 n5 l0 l1 l2 l4 s0 M) else gd (h_K M 8 l0) <| (FX9_doesSee l0 l4 M).bind fun q3 => if q3.1 = 0 then (FX9_hoursOf_58 n5 l0 l1 l2 l4 s0 q3.2) else FX9_hoursOf_51 n5 l0 l1 l2 l4 s0 q3.2) := rfl
set_option maxRecDepth 100000 in
theorem eX9_hoursOf_51 (n5 : Nat) (l0 : Nat) (l1 : Int32) (l2 : Int32) (l4 : Int32) (s0 : Int32) (M : Hx) : FX9_hoursOf_51 n5 l0 l1 l2 l4 s0 M = (FX9_hoursOf_59 n5 l0 l1 l2 l4 s0 ((1 : Int32) <<< (l4 &&& 31)) M) := rfl
set_option maxRecDepth 100000 in
theorem eX9_hoursOf_58 (n5 : Nat) (l0 : Nat) (l1 : Int32) (l2 : Int32) (l4 : Int32) (s0 : Int32) (M : Hx) : FX9_hoursOf_58 n5 l0 l1 l2 l4 s0 M = (FX9_hoursOf_59 n5 l0 l1 l2 l4 s0 (0 : Int32) M) := rfl
set_option maxRecDepth 100000 in
theorem eX9_hoursOf_59 (n5 : Nat) (l0 : Nat) (l1 : Int32) (l2 : Int32) (l4 : Int32) (s0 : Int32) (s1 : Int32) (M : Hx) : FX9_hoursOf_59 n5 l0 l1 l2 l4 s0 s1 M = (FX9_hoursOf_5 n5 l0 l1 l2 (s0 ||| s1) (l4 + 1) M) := rfl
def FX9_rule (l0 : Nat) (l1 : Int32) (M : Hx) : Option (Int32 × Hx) := fX9_rule [.ref l0, .int l1] M
set_option maxRecDepth 100000 in
theorem eX9_rule (l0 : Nat) (l1 : Int32) (M : Hx) : FX9_rule l0 l1 M = (if l1 = 0 then ((h_I M 8 l0 2).bind fun x1 => some (x1, M)) else if l1 = 1 then ((h_R M 8 l0 0).bind fun r2 => (h_A M 0 r2 (25 : Int32)).bind fun x3 => some (x3, M)) else if l1 = 2 then ((h_R M 8 l0 0).bind fun r4 => (h_A M 0 r4 (56 : Int32)).bind fun x5 => some (x5, M)) else if l1 = 3 then ((h_R M 8 l0 0).bind fun r6 => (h_A M 0 r6 (73 : Int32)).bind fun x7 => some (x7, M)) else if l1 = 4 then (gd (h_K M 8 l0) <| (FX9_hoursOf l0 ((-4) : Int32) (0 : Int32) M).bind fun q8 => some (q8.1, q8.2)) else if l1 = 5 then (gd (h_K M 8 l0) <| (FX9_seeing l0 M).bind fun q9 => some (q9.1, q9.2)) else some (((-1) : Int32), M)) := rfl
def FX9_one (l0 : Nat) (l1 : Int32) (l2 : Int32) (M : Hx) : Option (Int32 × Hx) := fX9_one [.ref l0, .int l1, .int l2] M
def FX9_one_44 (l0 : Nat) (l1 : Int32) (l2 : Int32) (M : Hx) : Option (Int32 × Hx) := bX9_one_44 [some (.ref l0), some (.int l1), some (.int l2)] [] M
set_option maxRecDepth 100000 in
theorem eX9_one (l0 : Nat) (l1 : Int32) (l2 : Int32) (M : Hx) : FX9_one l0 l1 l2 M = (gd (h_K M 8 l0) <| (FX9_isOne l0 l1 M).bind fun q1 => if q1.1 = 0 then (some (((-1) : Int32), q1.2)) else (if l2 = 0 then (FX9_one_44 l0 l1 l2 q1.2) else if l2 = 1 then (FX9_one_44 l0 l1 l2 q1.2) else if l2 = 2 then ((h_R q1.2 8 l0 1).bind fun r2 => (h_R q1.2 8 l0 0).bind fun r3 => (h_A q1.2 0 r3 l1).bind fun x4 => (h_A q1.2 0 r2 x4).bind fun x5 => some (x5, q1.2)) else if l2 = 3 then (gd (h_K q1.2 8 l0) <| (FX9_hoursOf l0 l1 (0 : Int32) q1.2).bind fun q6 => some (q6.1, q6.2)) else if l2 = 4 then (gd (h_K q1.2 8 l0) <| (FX9_hoursOf l0 l1 (1 : Int32) q1.2).bind fun q7 => some (q7.1, q7.2)) else some (((-1) : Int32), q1.2))) := rfl
set_option maxRecDepth 100000 in
theorem eX9_one_44 (l0 : Nat) (l1 : Int32) (l2 : Int32) (M : Hx) : FX9_one_44 l0 l1 l2 M = ((h_R M 8 l0 0).bind fun r8 => (h_A M 0 r8 (((5 : Int32) * l2) + l1)).bind fun x9 => some (x9, M)) := rfl
def FX9_thing (l0 : Nat) (l1 : Int32) (l2 : Int32) (M : Hx) : Option (Int32 × Hx) := fX9_thing [.ref l0, .int l1, .int l2] M
def FX9_thing_20  (M : Hx) : Option (Int32 × Hx) := bX9_thing_20 [none, none, none] [] M
def FX9_thing_22 (l0 : Nat) (l1 : Int32) (l2 : Int32) (M : Hx) : Option (Int32 × Hx) := bX9_thing_22 [some (.ref l0), some (.int l1), some (.int l2)] [] M
set_option maxRecDepth 100000 in
theorem eX9_thing (l0 : Nat) (l1 : Int32) (l2 : Int32) (M : Hx) : FX9_thing l0 l1 l2 M = ((FX9_isThing l1 M).bind fun q1 => if q1.1 = 0 then (FX9_thing_20 q1.2) else if l2 = ((-4) : Int32) then (FX9_thing_22 l0 l1 l2 q1.2) else (FX9_isHour l2 q1.2).bind fun q2 => if q2.1 = 0 then (FX9_thing_20 q2.2) else (FX9_thing_22 l0 l1 l2 q2.2)) := rfl
set_option maxRecDepth 100000 in
theorem eX9_thing_20  (M : Hx) : FX9_thing_20  M = (some (((-1) : Int32), M)) := rfl
set_option maxRecDepth 100000 in
theorem eX9_thing_22 (l0 : Nat) (l1 : Int32) (l2 : Int32) (M : Hx) : FX9_thing_22 l0 l1 l2 M = (gd (h_K M 8 l0) <| (FX9_valueAt l0 l1 l2 M).bind fun q3 => some (q3.1, q3.2)) := rfl
def FX9_orNone (l0 : Int32) (M : Hx) : Option (Int32 × Hx) := fX9_orNone [.int l0] M
def FX9_orNone_10 (s0 : Int32) (M : Hx) : Option (Int32 × Hx) := bX9_orNone_10 [none] [.int s0] M
set_option maxRecDepth 100000 in
theorem eX9_orNone (l0 : Int32) (M : Hx) : FX9_orNone l0 M = (if 0 ≤ l0 then (FX9_orNone_10 l0 M) else FX9_orNone_10 ((-4) : Int32) M) := rfl
set_option maxRecDepth 100000 in
theorem eX9_orNone_10 (s0 : Int32) (M : Hx) : FX9_orNone_10 s0 M = (some (s0, M)) := rfl
def FX9_rota (l0 : Nat) (l1 : Int32) (M : Hx) : Option (Int32 × Hx) := fX9_rota [.ref l0, .int l1] M
def FX9_rota_19 (s0 : Int32) (M : Hx) : Option (Int32 × Hx) := bX9_rota_19 [none, none] [.int s0] M
set_option maxRecDepth 100000 in
theorem eX9_rota (l0 : Nat) (l1 : Int32) (M : Hx) : FX9_rota l0 l1 M = ((FX9_isHour l1 M).bind fun q1 => if q1.1 = 0 then (FX9_rota_19 ((-1) : Int32) q1.2) else gd (h_K q1.2 8 l0) <| (FX9_hasIt l0 l1 q1.2).bind fun q2 => (FX9_orNone q2.1 q2.2).bind fun q3 => FX9_rota_19 q3.1 q3.2) := rfl
set_option maxRecDepth 100000 in
theorem eX9_rota_19 (s0 : Int32) (M : Hx) : FX9_rota_19 s0 M = (some (s0, M)) := rfl
def FX9_turn (l0 : Nat) (l1 : Int32) (l2 : Int32) (M : Hx) : Option (Int32 × Hx) := fX9_turn [.ref l0, .int l1, .int l2] M
def FX9_turn_47  (M : Hx) : Option (Int32 × Hx) := bX9_turn_47 [none, none, none] [] M
def FX9_turn_48 (s0 : Int32) (M : Hx) : Option (Int32 × Hx) := bX9_turn_48 [none, none, none] [.int s0] M
set_option maxRecDepth 100000 in
theorem eX9_turn (l0 : Nat) (l1 : Int32) (l2 : Int32) (M : Hx) : FX9_turn l0 l1 l2 M = ((h_R M 8 l0 0).bind fun r1 => (h_A M 0 r1 (25 : Int32)).bind fun x2 => (FX9_in l1.toInt64 (0 : Int64) (x2 - (1 : Int32)).toInt64 M).bind fun q3 => if q3.1 = 0 then (FX9_turn_47 q3.2) else (FX9_in l2.toInt64 (0 : Int64) (2 : Int64) q3.2).bind fun q4 => if q4.1 = 0 then (FX9_turn_47 q4.2) else (h_R q4.2 8 l0 0).bind fun r5 => (h_A q4.2 0 r5 (((13 : Int32) + ((3 : Int32) * l1)) + l2)).bind fun x6 => FX9_turn_48 x6 q4.2) := rfl
set_option maxRecDepth 100000 in
theorem eX9_turn_47  (M : Hx) : FX9_turn_47  M = (FX9_turn_48 ((-1) : Int32) M) := rfl
set_option maxRecDepth 100000 in
theorem eX9_turn_48 (s0 : Int32) (M : Hx) : FX9_turn_48 s0 M = (some (s0, M)) := rfl
def FX9_isDone (l0 : Nat) (l1 : Int32) (l2 : Int32) (M : Hx) : Option (Int32 × Hx) := fX9_isDone [.ref l0, .int l1, .int l2] M
def FX9_isDone_20 (n20 : Nat) (l0 : Nat) (l2 : Int32) (l3 : Int32) (l4 : Int32) (l5 : Int32) (M : Hx) : Option (Int32 × Hx) := (o_lp (bX9_isDone_20) n20) [some (.ref l0), none, some (.int l2), some (.int l3), some (.int l4), some (.int l5)] [] M
def FX9_isDone_63 (n20 : Nat) (l0 : Nat) (l2 : Int32) (l3 : Int32) (l5 : Int32) (M : Hx) : Option (Int32 × Hx) := bX9_isDone_63 (o_lp (bX9_isDone_20) n20) [some (.ref l0), none, some (.int l2), some (.int l3), none, some (.int l5)] [] M
def FX9_isDone_67 (n20 : Nat) (l0 : Nat) (l2 : Int32) (l3 : Int32) (l5 : Int32) (M : Hx) : Option (Int32 × Hx) := bX9_isDone_67 (o_lp (bX9_isDone_20) n20) [some (.ref l0), none, some (.int l2), some (.int l3), none, some (.int l5)] [] M
def FX9_isDone_68 (n20 : Nat) (l0 : Nat) (l2 : Int32) (l3 : Int32) (l5 : Int32) (s0 : Int32) (M : Hx) : Option (Int32 × Hx) := bX9_isDone_68 (o_lp (bX9_isDone_20) n20) [some (.ref l0), none, some (.int l2), some (.int l3), none, some (.int l5)] [.int s0] M
set_option maxRecDepth 100000 in
theorem eX9_isDone (l0 : Nat) (l1 : Int32) (l2 : Int32) (M : Hx) : FX9_isDone l0 l1 l2 M = ((h_R M 8 l0 0).bind fun r1 => (h_A M 0 r1 (((36 : Int32) + ((4 : Int32) * l1)) + (1 : Int32))).bind fun x2 => FX9_isDone_20 fu l0 l2 ((36 : Int32) + ((4 : Int32) * l1)) (0 : Int32) x2 M) := rfl
set_option maxRecDepth 100000 in
theorem eX9_isDone_20 (n20 : Nat) (l0 : Nat) (l2 : Int32) (l3 : Int32) (l4 : Int32) (l5 : Int32) (M : Hx) : FX9_isDone_20 (n20 + 1) l0 l2 l3 l4 l5 M = ((h_R M 8 l0 0).bind fun r3 => (h_A M 0 r3 (l3 + (2 : Int32))).bind fun x4 => if x4 < l5 then (if l4 = 0 ∨ l4 = 1 then some (l4, M) else none) else if l4 = 0 then (if ((l2 >>> (l5 &&& 31)) &&& (1 : Int32)) = (1 : Int32) then (gd (h_K M 8 l0) <| (FX9_hasIt l0 l5 M).bind fun q5 => (h_R q5.2 8 l0 0).bind fun r6 => (h_A q5.2 0 r6 l3).bind fun x7 => if q5.1 = x7 then (FX9_isDone_63 n20 l0 l2 l3 l5 q5.2) else (FX9_isDone_67 n20 l0 l2 l3 l5 q5.2)) else (FX9_isDone_67 n20 l0 l2 l3 l5 M)) else (FX9_isDone_63 n20 l0 l2 l3 l5 M)) := rfl
set_option maxRecDepth 100000 in
theorem eX9_isDone_63 (n20 : Nat) (l0 : Nat) (l2 : Int32) (l3 : Int32) (l5 : Int32) (M : Hx) : FX9_isDone_63 n20 l0 l2 l3 l5 M = (FX9_isDone_68 n20 l0 l2 l3 l5 (1 : Int32) M) := rfl
set_option maxRecDepth 100000 in
theorem eX9_isDone_67 (n20 : Nat) (l0 : Nat) (l2 : Int32) (l3 : Int32) (l5 : Int32) (M : Hx) : FX9_isDone_67 n20 l0 l2 l3 l5 M = (FX9_isDone_68 n20 l0 l2 l3 l5 (0 : Int32) M) := rfl
set_option maxRecDepth 100000 in
theorem eX9_isDone_68 (n20 : Nat) (l0 : Nat) (l2 : Int32) (l3 : Int32) (l5 : Int32) (s0 : Int32) (M : Hx) : FX9_isDone_68 n20 l0 l2 l3 l5 s0 M = (FX9_isDone_20 n20 l0 l2 l3 s0 (l5 + 1) M) := rfl
def FX9_doneBy (l0 : Nat) (l1 : Int32) (M : Hx) : Option (Int32 × Hx) := fX9_doneBy [.ref l0, .int l1] M
def FX9_doneBy_4 (n4 : Nat) (l0 : Nat) (l1 : Int32) (l2 : Int32) (l3 : Int32) (M : Hx) : Option (Int32 × Hx) := (o_lp (bX9_doneBy_4) n4) [some (.ref l0), some (.int l1), some (.int l2), some (.int l3)] [] M
def FX9_doneBy_32 (n4 : Nat) (l0 : Nat) (l1 : Int32) (l3 : Int32) (s0 : Int32) (s1 : Int32) (M : Hx) : Option (Int32 × Hx) := bX9_doneBy_32 (o_lp (bX9_doneBy_4) n4) [some (.ref l0), some (.int l1), none, some (.int l3)] [.int s1, .int s0] M
set_option maxRecDepth 100000 in
theorem eX9_doneBy (l0 : Nat) (l1 : Int32) (M : Hx) : FX9_doneBy l0 l1 M = (FX9_doneBy_4 fu l0 l1 (0 : Int32) (0 : Int32) M) := rfl
set_option maxRecDepth 100000 in
theorem eX9_doneBy_4 (n4 : Nat) (l0 : Nat) (l1 : Int32) (l2 : Int32) (l3 : Int32) (M : Hx) : FX9_doneBy_4 (n4 + 1) l0 l1 l2 l3 M = ((h_R M 8 l0 0).bind fun r1 => (h_A M 0 r1 (56 : Int32)).bind fun x2 => if x2 ≤ l3 then (some (l2, M)) else gd (h_K M 8 l0) <| (FX9_isDone l0 l3 l1 M).bind fun q3 => if q3.1 = 0 then (FX9_doneBy_32 n4 l0 l1 l3 l2 (0 : Int32) q3.2) else FX9_doneBy_32 n4 l0 l1 l3 l2 ((1 : Int32) <<< (l3 &&& 31)) q3.2) := rfl
set_option maxRecDepth 100000 in
theorem eX9_doneBy_32 (n4 : Nat) (l0 : Nat) (l1 : Int32) (l3 : Int32) (s0 : Int32) (s1 : Int32) (M : Hx) : FX9_doneBy_32 n4 l0 l1 l3 s0 s1 M = (FX9_doneBy_4 n4 l0 l1 (s0 ||| s1) (l3 + 1) M) := rfl
def FX9_worthOf (l0 : Nat) (l1 : Int32) (M : Hx) : Option (Int32 × Hx) := fX9_worthOf [.ref l0, .int l1] M
def FX9_worthOf_4 (n4 : Nat) (l0 : Nat) (l1 : Int32) (l2 : Int32) (l3 : Int32) (M : Hx) : Option (Int32 × Hx) := (o_lp (bX9_worthOf_4) n4) [some (.ref l0), some (.int l1), some (.int l2), some (.int l3)] [] M
def FX9_worthOf_42 (n4 : Nat) (l0 : Nat) (l1 : Int32) (l3 : Int32) (s0 : Int32) (s1 : Int32) (M : Hx) : Option (Int32 × Hx) := bX9_worthOf_42 (o_lp (bX9_worthOf_4) n4) [some (.ref l0), some (.int l1), none, some (.int l3)] [.int s1, .int s0] M
set_option maxRecDepth 100000 in
theorem eX9_worthOf (l0 : Nat) (l1 : Int32) (M : Hx) : FX9_worthOf l0 l1 M = (FX9_worthOf_4 fu l0 l1 (0 : Int32) (0 : Int32) M) := rfl
set_option maxRecDepth 100000 in
theorem eX9_worthOf_4 (n4 : Nat) (l0 : Nat) (l1 : Int32) (l2 : Int32) (l3 : Int32) (M : Hx) : FX9_worthOf_4 (n4 + 1) l0 l1 l2 l3 M = ((h_R M 8 l0 0).bind fun r1 => (h_A M 0 r1 (56 : Int32)).bind fun x2 => if x2 ≤ l3 then (some (l2, M)) else if ((l1 >>> (l3 &&& 31)) &&& (1 : Int32)) = (1 : Int32) then ((h_R M 8 l0 0).bind fun r3 => (h_A M 0 r3 (((36 : Int32) + ((4 : Int32) * l3)) + (3 : Int32))).bind fun x4 => FX9_worthOf_42 n4 l0 l1 l3 l2 x4 M) else (FX9_worthOf_42 n4 l0 l1 l3 l2 (0 : Int32) M)) := rfl
set_option maxRecDepth 100000 in
theorem eX9_worthOf_42 (n4 : Nat) (l0 : Nat) (l1 : Int32) (l3 : Int32) (s0 : Int32) (s1 : Int32) (M : Hx) : FX9_worthOf_42 n4 l0 l1 l3 s0 s1 M = (FX9_worthOf_4 n4 l0 l1 (s0 + s1) (l3 + 1) M) := rfl
def FX9_worthNow (l0 : Nat) (M : Hx) : Option (Int32 × Hx) := fX9_worthNow [.ref l0] M
set_option maxRecDepth 100000 in
theorem eX9_worthNow (l0 : Nat) (M : Hx) : FX9_worthNow l0 M = (gd (h_K M 8 l0) <| (FX9_seeing l0 M).bind fun q1 => gd (h_K q1.2 8 l0) <| (FX9_doneBy l0 q1.1 q1.2).bind fun q2 => gd (h_K q2.2 8 l0) <| (FX9_worthOf l0 q2.1 q2.2).bind fun q3 => some (q3.1, q3.2)) := rfl
def FX9_work (l0 : Nat) (l1 : Int32) (l2 : Int32) (M : Hx) : Option (Int32 × Hx) := fX9_work [.ref l0, .int l1, .int l2] M
def FX9_work_31  (M : Hx) : Option (Int32 × Hx) := bX9_work_31 [none, none, none] [] M
def FX9_work_71 (s0 : Int32) (M : Hx) : Option (Int32 × Hx) := bX9_work_71 [none, none, none] [.int s0] M
set_option maxRecDepth 100000 in
theorem eX9_work (l0 : Nat) (l1 : Int32) (l2 : Int32) (M : Hx) : FX9_work l0 l1 l2 M = ((h_R M 8 l0 0).bind fun r1 => (h_A M 0 r1 (56 : Int32)).bind fun x2 => (FX9_in l1.toInt64 (0 : Int64) (x2 - (1 : Int32)).toInt64 M).bind fun q3 => if q3.1 = 0 then (FX9_work_31 q3.2) else (FX9_in l2.toInt64 (0 : Int64) (4 : Int64) q3.2).bind fun q4 => if q4.1 = 0 then (FX9_work_31 q4.2) else (if (4 : Int32) ≤ l2 then (gd (h_K q4.2 8 l0) <| (FX9_seeing l0 q4.2).bind fun q5 => gd (h_K q5.2 8 l0) <| (FX9_isDone l0 l1 q5.1 q5.2).bind fun q6 => if q6.1 = 0 then (FX9_work_71 (0 : Int32) q6.2) else FX9_work_71 (1 : Int32) q6.2) else (h_R q4.2 8 l0 0).bind fun r7 => (h_A q4.2 0 r7 (((36 : Int32) + ((4 : Int32) * l1)) + l2)).bind fun x8 => FX9_work_71 x8 q4.2)) := rfl
set_option maxRecDepth 100000 in
theorem eX9_work_31  (M : Hx) : FX9_work_31  M = (some (((-1) : Int32), M)) := rfl
set_option maxRecDepth 100000 in
theorem eX9_work_71 (s0 : Int32) (M : Hx) : FX9_work_71 s0 M = (some (s0, M)) := rfl
def FX9_telling (l0 : Nat) (l1 : Int32) (l2 : Int32) (M : Hx) : Option (Int32 × Hx) := fX9_telling [.ref l0, .int l1, .int l2] M
def FX9_telling_47  (M : Hx) : Option (Int32 × Hx) := bX9_telling_47 [none, none, none] [] M
def FX9_telling_48 (s0 : Int32) (M : Hx) : Option (Int32 × Hx) := bX9_telling_48 [none, none, none] [.int s0] M
set_option maxRecDepth 100000 in
theorem eX9_telling (l0 : Nat) (l1 : Int32) (l2 : Int32) (M : Hx) : FX9_telling l0 l1 l2 M = ((h_R M 8 l0 0).bind fun r1 => (h_A M 0 r1 (73 : Int32)).bind fun x2 => (FX9_in l1.toInt64 (0 : Int64) (x2 - (1 : Int32)).toInt64 M).bind fun q3 => if q3.1 = 0 then (FX9_telling_47 q3.2) else (FX9_in l2.toInt64 (0 : Int64) (3 : Int64) q3.2).bind fun q4 => if q4.1 = 0 then (FX9_telling_47 q4.2) else (h_R q4.2 8 l0 0).bind fun r5 => (h_A q4.2 0 r5 (((57 : Int32) + ((4 : Int32) * l1)) + l2)).bind fun x6 => FX9_telling_48 x6 q4.2) := rfl
set_option maxRecDepth 100000 in
theorem eX9_telling_47  (M : Hx) : FX9_telling_47  M = (FX9_telling_48 ((-1) : Int32) M) := rfl
set_option maxRecDepth 100000 in
theorem eX9_telling_48 (s0 : Int32) (M : Hx) : FX9_telling_48 s0 M = (some (s0, M)) := rfl
def FX9_puts (l0 : Nat) (l1 : Int32) (l2 : Int32) (l3 : Int32) (M : Hx) : Option (Int32 × Hx) := fX9_puts [.ref l0, .int l1, .int l2, .int l3] M
set_option maxRecDepth 100000 in
theorem eX9_puts (l0 : Nat) (l1 : Int32) (l2 : Int32) (l3 : Int32) (M : Hx) : FX9_puts l0 l1 l2 l3 M = (if l1 = 0 then (some (((-1) : Int32), M)) else ((h_R M 8 l0 0).bind fun r1 => (h_A M 0 r1 l2).bind fun x2 => (h_R M 8 l0 0).bind fun r3 => (h_S M 0 r3 l2 l3).bind fun M4 => some (x2, M4))) := rfl
def FX9_alter (l0 : Nat) (l1 : Int32) (l2 : Int32) (l3 : Int32) (M : Hx) : Option (Int32 × Hx) := fX9_alter [.ref l0, .int l1, .int l2, .int l3] M
def FX9_alter_25 (l1 : Int32) (l2 : Int32) (l3 : Int32) (s0 : Nat) (M : Hx) : Option (Int32 × Hx) := bX9_alter_25 [none, some (.int l1), some (.int l2), some (.int l3)] [.ref s0] M
def FX9_alter_37 (l1 : Int32) (l2 : Int32) (l3 : Int32) (s0 : Nat) (M : Hx) : Option (Int32 × Hx) := bX9_alter_37 [none, some (.int l1), some (.int l2), some (.int l3)] [.ref s0] M
def FX9_alter_41 (l1 : Int32) (l2 : Int32) (l3 : Int32) (s0 : Nat) (M : Hx) : Option (Int32 × Hx) := bX9_alter_41 [none, some (.int l1), some (.int l2), some (.int l3)] [.ref s0] M
def FX9_alter_42 (l1 : Int32) (l2 : Int32) (l3 : Int32) (s0 : Nat) (s1 : Int32) (M : Hx) : Option (Int32 × Hx) := bX9_alter_42 [none, some (.int l1), some (.int l2), some (.int l3)] [.int s1, .ref s0] M
set_option maxRecDepth 100000 in
theorem eX9_alter (l0 : Nat) (l1 : Int32) (l2 : Int32) (l3 : Int32) (M : Hx) : FX9_alter l0 l1 l2 l3 M = (gd (h_K M 8 l0) <| (FX9_isOne l0 l1 M).bind fun q1 => if q1.1 = 0 then (FX9_alter_41 l1 l2 l3 l0 q1.2) else if l2 = 0 then ((FX9_in l3.toInt64 (0 : Int64) (3 : Int64) q1.2).bind fun q2 => if q2.1 = 0 then (FX9_alter_25 l1 l2 l3 l0 q2.2) else (FX9_alter_37 l1 l2 l3 l0 q2.2)) else (FX9_alter_25 l1 l2 l3 l0 q1.2)) := rfl
set_option maxRecDepth 100000 in
theorem eX9_alter_25 (l1 : Int32) (l2 : Int32) (l3 : Int32) (s0 : Nat) (M : Hx) : FX9_alter_25 l1 l2 l3 s0 M = (if l2 = (1 : Int32) then ((FX9_isThing l3 M).bind fun q3 => if q3.1 = 0 then (FX9_alter_41 l1 l2 l3 s0 q3.2) else FX9_alter_37 l1 l2 l3 s0 q3.2) else (FX9_alter_41 l1 l2 l3 s0 M)) := rfl
set_option maxRecDepth 100000 in
theorem eX9_alter_37 (l1 : Int32) (l2 : Int32) (l3 : Int32) (s0 : Nat) (M : Hx) : FX9_alter_37 l1 l2 l3 s0 M = (FX9_alter_42 l1 l2 l3 s0 (1 : Int32) M) := rfl
set_option maxRecDepth 100000 in
theorem eX9_alter_41 (l1 : Int32) (l2 : Int32) (l3 : Int32) (s0 : Nat) (M : Hx) : FX9_alter_41 l1 l2 l3 s0 M = (FX9_alter_42 l1 l2 l3 s0 (0 : Int32) M) := rfl
set_option maxRecDepth 100000 in
theorem eX9_alter_42 (l1 : Int32) (l2 : Int32) (l3 : Int32) (s0 : Nat) (s1 : Int32) (M : Hx) : FX9_alter_42 l1 l2 l3 s0 s1 M = (gd (h_K M 8 s0) <| (FX9_puts s0 s1 (((5 : Int32) * l2) + l1) l3 M).bind fun q4 => some (q4.1, q4.2)) := rfl
def FX9_paint (l0 : Nat) (l1 : Int32) (l2 : Int32) (M : Hx) : Option (Int32 × Hx) := fX9_paint [.ref l0, .int l1, .int l2] M
def FX9_paint_24 (l1 : Int32) (l2 : Int32) (s0 : Nat) (M : Hx) : Option (Int32 × Hx) := bX9_paint_24 [none, some (.int l1), some (.int l2)] [.ref s0] M
def FX9_paint_25 (l1 : Int32) (l2 : Int32) (s0 : Nat) (s1 : Int32) (M : Hx) : Option (Int32 × Hx) := bX9_paint_25 [none, some (.int l1), some (.int l2)] [.int s1, .ref s0] M
set_option maxRecDepth 100000 in
theorem eX9_paint (l0 : Nat) (l1 : Int32) (l2 : Int32) (M : Hx) : FX9_paint l0 l1 l2 M = ((FX9_isThing l1 M).bind fun q1 => if q1.1 = 0 then (FX9_paint_24 l1 l2 l0 q1.2) else (FX9_in l2.toInt64 (0 : Int64) (9 : Int64) q1.2).bind fun q2 => if q2.1 = 0 then (FX9_paint_24 l1 l2 l0 q2.2) else FX9_paint_25 l1 l2 l0 (1 : Int32) q2.2) := rfl
set_option maxRecDepth 100000 in
theorem eX9_paint_24 (l1 : Int32) (l2 : Int32) (s0 : Nat) (M : Hx) : FX9_paint_24 l1 l2 s0 M = (FX9_paint_25 l1 l2 s0 (0 : Int32) M) := rfl
set_option maxRecDepth 100000 in
theorem eX9_paint_25 (l1 : Int32) (l2 : Int32) (s0 : Nat) (s1 : Int32) (M : Hx) : FX9_paint_25 l1 l2 s0 s1 M = (gd (h_K M 8 s0) <| (FX9_puts s0 s1 ((10 : Int32) + l1) l2 M).bind fun q3 => some (q3.1, q3.2)) := rfl
def FX9_shifts (l0 : Nat) (l1 : Int32) (l2 : Int32) (M : Hx) : Option (Int32 × Hx) := fX9_shifts [.ref l0, .int l1, .int l2] M
def FX9_shifts_21  (M : Hx) : Option (Int32 × Hx) := bX9_shifts_21 [none, none, none, none] [] M
def FX9_shifts_23 (l0 : Nat) (l1 : Int32) (l2 : Int32) (M : Hx) : Option (Int32 × Hx) := bX9_shifts_23 [some (.ref l0), some (.int l1), some (.int l2), none] [] M
def FX9_shifts_50 (l3 : Int32) (s0 : Nat) (s1 : Int32) (s2 : Int32) (M : Hx) : Option (Int32 × Hx) := bX9_shifts_50 [none, none, none, some (.int l3)] [.int s2, .int s1, .ref s0] M
set_option maxRecDepth 100000 in
theorem eX9_shifts (l0 : Nat) (l1 : Int32) (l2 : Int32) (M : Hx) : FX9_shifts l0 l1 l2 M = ((FX9_isHour l1 M).bind fun q1 => if q1.1 = 0 then (FX9_shifts_21 q1.2) else if l2 = ((-4) : Int32) then (FX9_shifts_23 l0 l1 l2 q1.2) else gd (h_K q1.2 8 l0) <| (FX9_isOne l0 l2 q1.2).bind fun q2 => if q2.1 = 0 then (FX9_shifts_21 q2.2) else (FX9_shifts_23 l0 l1 l2 q2.2)) := rfl
set_option maxRecDepth 100000 in
theorem eX9_shifts_21  (M : Hx) : FX9_shifts_21  M = (some (((-1) : Int32), M)) := rfl
set_option maxRecDepth 100000 in
theorem eX9_shifts_23 (l0 : Nat) (l1 : Int32) (l2 : Int32) (M : Hx) : FX9_shifts_23 l0 l1 l2 M = (gd (h_K M 8 l0) <| (FX9_hasIt l0 l1 M).bind fun q3 => (h_R q3.2 8 l0 0).bind fun r4 => if l2 = ((-4) : Int32) then (FX9_shifts_50 q3.1 r4 ((26 : Int32) + l1) (0 : Int32) q3.2) else (FX9_shifts_50 q3.1 r4 ((26 : Int32) + l1) (l2 + (1 : Int32)) q3.2)) := rfl
set_option maxRecDepth 100000 in
theorem eX9_shifts_50 (l3 : Int32) (s0 : Nat) (s1 : Int32) (s2 : Int32) (M : Hx) : FX9_shifts_50 l3 s0 s1 s2 M = ((h_S M 0 s0 s1 s2).bind fun M5 => (FX9_orNone l3 M5).bind fun q6 => some (q6.1, q6.2)) := rfl
def FX9_shift (l0 : Nat) (l1 : Int32) (l2 : Int32) (M : Hx) : Option (Int32 × Hx) := fX9_shift [.ref l0, .int l1, .int l2] M
set_option maxRecDepth 100000 in
theorem eX9_shift (l0 : Nat) (l1 : Int32) (l2 : Int32) (M : Hx) : FX9_shift l0 l1 l2 M = (gd (h_K M 8 l0) <| (FX9_shifts l0 l1 l2 M).bind fun q1 => some (q1.1, q1.2)) := rfl
def FX9_assign (l0 : Nat) (l1 : Int32) (l2 : Int32) (l3 : Int32) (l4 : Int32) (M : Hx) : Option (Int32 × Hx) := fX9_assign [.ref l0, .int l1, .int l2, .int l3, .int l4] M
def FX9_assign_41  (M : Hx) : Option (Int32 × Hx) := bX9_assign_41 [none, none, none, none, none, none] [] M
set_option maxRecDepth 100000 in
theorem eX9_assign (l0 : Nat) (l1 : Int32) (l2 : Int32) (l3 : Int32) (l4 : Int32) (M : Hx) : FX9_assign l0 l1 l2 l3 l4 M = (gd (h_K M 8 l0) <| (FX9_isOne l0 l1 M).bind fun q1 => if q1.1 = 0 then (FX9_assign_41 q1.2) else (FX9_isHour l2 q1.2).bind fun q2 => if q2.1 = 0 then (FX9_assign_41 q2.2) else (FX9_in l3.toInt64 l2.toInt64 (9 : Int64) q2.2).bind fun q3 => if q3.1 = 0 then (FX9_assign_41 q3.2) else (FX9_in l4.toInt64 (1 : Int64) (9 : Int64) q3.2).bind fun q4 => if q4.1 = 0 then (FX9_assign_41 q4.2) else ((h_R q4.2 8 l0 0).bind fun r5 => (h_A q4.2 0 r5 (56 : Int32)).bind fun x6 => if x6 = (5 : Int32) then (some (((-3) : Int32), q4.2)) else ((h_R q4.2 8 l0 0).bind fun r7 => (h_A q4.2 0 r7 (56 : Int32)).bind fun x8 => (h_R q4.2 8 l0 0).bind fun r9 => (h_S q4.2 0 r9 ((36 : Int32) + ((4 : Int32) * x8)) l1).bind fun M10 => (h_R M10 8 l0 0).bind fun r11 => (h_S M10 0 r11 (((36 : Int32) + ((4 : Int32) * x8)) + (1 : Int32)) l2).bind fun M12 => (h_R M12 8 l0 0).bind fun r13 => (h_S M12 0 r13 (((36 : Int32) + ((4 : Int32) * x8)) + (2 : Int32)) l3).bind fun M14 => (h_R M14 8 l0 0).bind fun r15 => (h_S M14 0 r15 (((36 : Int32) + ((4 : Int32) * x8)) + (3 : Int32)) l4).bind fun M16 => (h_R M16 8 l0 0).bind fun r17 => (h_A M16 0 r17 (56 : Int32)).bind fun x18 => (h_S M16 0 r17 (56 : Int32) (x18 + (1 : Int32))).bind fun M19 => (h_R M19 8 l0 0).bind fun r20 => (h_A M19 0 r20 (56 : Int32)).bind fun x21 => some (x21, M19)))) := rfl
set_option maxRecDepth 100000 in
theorem eX9_assign_41  (M : Hx) : FX9_assign_41  M = (some (((-1) : Int32), M)) := rfl
