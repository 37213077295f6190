def FJ6_bitCount_0f7a4 (l0 : Int32) (M : Hx) : Option (Int32 × Hx) := fJ6_bitCount_0f7a4 [.int l0] M
set_option maxRecDepth 100000 in
theorem eJ6_bitCount_0f7a4 (l0 : Int32) (M : Hx) : FJ6_bitCount_0f7a4 l0 M = (some (((((((((l0 - ((o_ushr l0 (nI 1)) &&& (nI 1431655765))) &&& (nI 858993459)) + ((o_ushr (l0 - ((o_ushr l0 (nI 1)) &&& (nI 1431655765))) (nI 2)) &&& (nI 858993459))) + (o_ushr (((l0 - ((o_ushr l0 (nI 1)) &&& (nI 1431655765))) &&& (nI 858993459)) + ((o_ushr (l0 - ((o_ushr l0 (nI 1)) &&& (nI 1431655765))) (nI 2)) &&& (nI 858993459))) (nI 4))) &&& (nI 252645135)) + (o_ushr (((((l0 - ((o_ushr l0 (nI 1)) &&& (nI 1431655765))) &&& (nI 858993459)) + ((o_ushr (l0 - ((o_ushr l0 (nI 1)) &&& (nI 1431655765))) (nI 2)) &&& (nI 858993459))) + (o_ushr (((l0 - ((o_ushr l0 (nI 1)) &&& (nI 1431655765))) &&& (nI 858993459)) + ((o_ushr (l0 - ((o_ushr l0 (nI 1)) &&& (nI 1431655765))) (nI 2)) &&& (nI 858993459))) (nI 4))) &&& (nI 252645135)) (nI 8))) + (o_ushr ((((((l0 - ((o_ushr l0 (nI 1)) &&& (nI 1431655765))) &&& (nI 858993459)) + ((o_ushr (l0 - ((o_ushr l0 (nI 1)) &&& (nI 1431655765))) (nI 2)) &&& (nI 858993459))) + (o_ushr (((l0 - ((o_ushr l0 (nI 1)) &&& (nI 1431655765))) &&& (nI 858993459)) + ((o_ushr (l0 - ((o_ushr l0 (nI 1)) &&& (nI 1431655765))) (nI 2)) &&& (nI 858993459))) (nI 4))) &&& (nI 252645135)) + (o_ushr (((((l0 - ((o_ushr l0 (nI 1)) &&& (nI 1431655765))) &&& (nI 858993459)) + ((o_ushr (l0 - ((o_ushr l0 (nI 1)) &&& (nI 1431655765))) (nI 2)) &&& (nI 858993459))) + (o_ushr (((l0 - ((o_ushr l0 (nI 1)) &&& (nI 1431655765))) &&& (nI 858993459)) + ((o_ushr (l0 - ((o_ushr l0 (nI 1)) &&& (nI 1431655765))) (nI 2)) &&& (nI 858993459))) (nI 4))) &&& (nI 252645135)) (nI 8))) (nI 16))) &&& (nI 63)), M)) := rfl
def FJ0_coder_7d493 (l0 : Nat) (M : Hx) : Option (Int32 × Hx) := fJ0_coder_7d493 [.ref l0] M
def FJ0_coder_7d493_14 (s0 : Int32) (M : Hx) : Option (Int32 × Hx) := bJ0_coder_7d493_14 [none] [.int s0] M
set_option maxRecDepth 100000 in
theorem eJ0_coder_7d493 (l0 : Nat) (M : Hx) : FJ0_coder_7d493 l0 M = (if (nI 1) = nI 0 then (FJ0_coder_7d493_14 (nI 1) M) else if 1000 ≤ l0 ∧ l0 < 1009 then (FJ0_coder_7d493_14 (nI 0) M) else none) := rfl
set_option maxRecDepth 100000 in
theorem eJ0_coder_7d493_14 (s0 : Int32) (M : Hx) : FJ0_coder_7d493_14 s0 M = (if narrow .byte (.int s0) = .int s0 then some (s0, M) else none) := rfl
def FJ0_length_8abf5 (l0 : Nat) (M : Hx) : Option (Int32 × Hx) := fJ0_length_8abf5 [.ref l0] M
set_option maxRecDepth 100000 in
theorem eJ0_length_8abf5 (l0 : Nat) (M : Hx) : FJ0_length_8abf5 l0 M = (if 1000 ≤ l0 ∧ l0 < 1009 then (if 1010 ≤ (l0 + 10) ∧ (l0 + 10) < 1019 then (gd (decide (1000 ≤ l0 ∧ l0 < 1009)) <| bnd (FJ0_coder_7d493 l0 M) (fun q1 => some (((nI (ex_len.getD ((l0 + 10) - 1010) 0)) >>> (q1.1 &&& nI 31)), q1.2)) ()) else none) else none) := rfl
def FJ0_isLatin1_aae02 (l0 : Nat) (M : Hx) : Option (Int32 × Hx) := fJ0_isLatin1_aae02 [.ref l0] M
def FJ0_isLatin1_aae02_17  (M : Hx) : Option (Int32 × Hx) := bJ0_isLatin1_aae02_17 [none] [] M
def FJ0_isLatin1_aae02_18 (s0 : Int32) (M : Hx) : Option (Int32 × Hx) := bJ0_isLatin1_aae02_18 [none] [.int s0] M
set_option maxRecDepth 100000 in
theorem eJ0_isLatin1_aae02 (l0 : Nat) (M : Hx) : FJ0_isLatin1_aae02 l0 M = (if (nI 1) = nI 0 then (FJ0_isLatin1_aae02_17 M) else if 1000 ≤ l0 ∧ l0 < 1009 then (if (nI 0) = nI 0 then (FJ0_isLatin1_aae02_18 (nI 1) M) else (FJ0_isLatin1_aae02_17 M)) else none) := rfl
set_option maxRecDepth 100000 in
theorem eJ0_isLatin1_aae02_17  (M : Hx) : FJ0_isLatin1_aae02_17  M = (FJ0_isLatin1_aae02_18 (nI 0) M) := rfl
set_option maxRecDepth 100000 in
theorem eJ0_isLatin1_aae02_18 (s0 : Int32) (M : Hx) : FJ0_isLatin1_aae02_18 s0 M = (if s0 = nI 0 ∨ s0 = nI 1 then some (s0, M) else none) := rfl
def FJ3_checkIndex_8e157 (l0 : Int32) (l1 : Int32) (M : Hx) : Option (Int32 × Hx) := fJ3_checkIndex_8e157 [.int l0, .int l1, .retAddr 0] M
set_option maxRecDepth 100000 in
theorem eJ3_checkIndex_8e157 (l0 : Int32) (l1 : Int32) (M : Hx) : FJ3_checkIndex_8e157 l0 l1 M = (if l0 < nI 0 then (none) else if l0 < l1 then (some (l0, M)) else none) := rfl
def FJ0_checkIndex_df160 (l0 : Int32) (l1 : Int32) (M : Hx) : Option (Unit × Hx) := fJ0_checkIndex_df160 [.int l0, .int l1] M
set_option maxRecDepth 100000 in
theorem eJ0_checkIndex_df160 (l0 : Int32) (l1 : Int32) (M : Hx) : FJ0_checkIndex_df160 l0 l1 M = (bnd (FJ3_checkIndex_8e157 l0 l1 M) (fun q1 => some ((), q1.2)) ()) := rfl
def FJ1_charAt_3b067 (l0 : Nat) (l1 : Int32) (M : Hx) : Option (Int32 × Hx) := fJ1_charAt_3b067 [.ref l0, .int l1] M
set_option maxRecDepth 100000 in
theorem eJ1_charAt_3b067 (l0 : Nat) (l1 : Int32) (M : Hx) : FJ1_charAt_3b067 l0 l1 M = (if 1010 ≤ l0 ∧ l0 < 1019 then (bnd (FJ0_checkIndex_df160 l1 (nI (ex_len.getD (l0 - 1010) 0)) M) (fun q1 => if 1010 ≤ l0 ∧ l0 < 1019 ∧ ¬ l1 < nI 0 ∧ l1.toNatClampNeg < ex_len.getD (l0 - 1010) 0 then (if narrow .char (.int (o_i2c (((ex_byt.getD (l0 - 1010) []).getD l1.toNatClampNeg 0) &&& (nI 255)))) = .int (o_i2c (((ex_byt.getD (l0 - 1010) []).getD l1.toNatClampNeg 0) &&& (nI 255))) then some ((o_i2c (((ex_byt.getD (l0 - 1010) []).getD l1.toNatClampNeg 0) &&& (nI 255))), q1.2) else none) else none) ()) else none) := rfl
def FJ0_charAt_5068e (l0 : Nat) (l1 : Int32) (M : Hx) : Option (Int32 × Hx) := fJ0_charAt_5068e [.ref l0, .int l1] M
set_option maxRecDepth 100000 in
theorem eJ0_charAt_5068e (l0 : Nat) (l1 : Int32) (M : Hx) : FJ0_charAt_5068e l0 l1 M = (gd (decide (1000 ≤ l0 ∧ l0 < 1009)) <| bnd (FJ0_isLatin1_aae02 l0 M) (fun q1 => if q1.1 = nI 0 then (none) else if 1000 ≤ l0 ∧ l0 < 1009 then (bnd (FJ1_charAt_3b067 (l0 + 10) l1 q1.2) (fun q2 => if narrow .char (.int q2.1) = .int q2.1 then some (q2.1, q2.2) else none) ()) else none) ()) := rfl
def FX6_init (l0 : Nat) (l1 : Int32) (l2 : Int32) (M : Hx) : Option (Unit × Hx) := fX6_init [.ref l0, .int l1, .int l2] M
set_option maxRecDepth 100000 in
theorem eX6_init (l0 : Nat) (l1 : Int32) (l2 : Int32) (M : Hx) : FX6_init l0 l1 l2 M = (bnd (h_P M 5 l0 0 (.int (o_max (nI 0) l1))) (fun M1 => bnd (h_P M1 5 l0 1 (.int (o_max (nI 0) l2))) (fun M2 => bnd (h_I M2 5 l0 0) (fun x3 => bnd (h_I M2 5 l0 1) (fun x4 => if ¬ (x3 * x4) < nI 0 ∧ (x3 * x4).toNatClampNeg ≤ 100000 ∧ M2.length < 1000 then (bnd (h_P (M2 ++ [.inl (0, (x3 * x4).toNatClampNeg, .inl (fun _ => nI 0))]) 5 l0 2 (.ref (List.length M2))) (fun M5 => some ((), M5)) ()) else none) ()) ()) ()) ()) := rfl
def FX6_has (l0 : Nat) (l1 : Int32) (M : Hx) : Option (Int32 × Hx) := fX6_has [.ref l0, .int l1] M
def FX6_has_16  (M : Hx) : Option (Int32 × Hx) := bX6_has_16 [none, none] [] M
def FX6_has_17 (s0 : Int32) (M : Hx) : Option (Int32 × Hx) := bX6_has_17 [none, none] [.int s0] M
set_option maxRecDepth 100000 in
theorem eX6_has (l0 : Nat) (l1 : Int32) (M : Hx) : FX6_has l0 l1 M = (if l1 < nI 0 then (FX6_has_16 M) else bnd (h_I M 5 l0 3) (fun x1 => if x1 ≤ l1 then (FX6_has_16 M) else FX6_has_17 (nI 1) M) ()) := rfl
set_option maxRecDepth 100000 in
theorem eX6_has_16  (M : Hx) : FX6_has_16  M = (FX6_has_17 (nI 0) M) := rfl
set_option maxRecDepth 100000 in
theorem eX6_has_17 (s0 : Int32) (M : Hx) : FX6_has_17 s0 M = (if s0 = nI 0 ∨ s0 = nI 1 then some (s0, M) else none) := rfl
def FX6_at (l0 : Nat) (l1 : Int32) (l2 : Int32) (M : Hx) : Option (Int32 × Hx) := fX6_at [.ref l0, .int l1, .int l2] M
def FX6_at_28 (l0 : Nat) (l1 : Int32) (l2 : Int32) (M : Hx) : Option (Int32 × Hx) := bX6_at_28 [some (.ref l0), some (.int l1), some (.int l2), none] [] M
def FX6_at_29 (l0 : Nat) (l1 : Int32) (l2 : Int32) (s0 : Int32) (M : Hx) : Option (Int32 × Hx) := bX6_at_29 [some (.ref l0), some (.int l1), some (.int l2), none] [.int s0] M
def FX6_at_51 (s0 : Int32) (M : Hx) : Option (Int32 × Hx) := bX6_at_51 [none, none, none, none] [.int s0] M
set_option maxRecDepth 100000 in
theorem eX6_at (l0 : Nat) (l1 : Int32) (l2 : Int32) (M : Hx) : FX6_at l0 l1 l2 M = (if l1 < nI 0 then (FX6_at_28 l0 l1 l2 M) else bnd (h_I M 5 l0 3) (fun x1 => if x1 ≤ l1 then (FX6_at_28 l0 l1 l2 M) else if l2 < nI 0 then (FX6_at_28 l0 l1 l2 M) else bnd (h_I M 5 l0 0) (fun x2 => if x2 ≤ l2 then (FX6_at_28 l0 l1 l2 M) else FX6_at_29 l0 l1 l2 (nI 1) M) ()) ()) := rfl
set_option maxRecDepth 100000 in
theorem eX6_at_28 (l0 : Nat) (l1 : Int32) (l2 : Int32) (M : Hx) : FX6_at_28 l0 l1 l2 M = (FX6_at_29 l0 l1 l2 (nI 0) M) := rfl
set_option maxRecDepth 100000 in
theorem eX6_at_29 (l0 : Nat) (l1 : Int32) (l2 : Int32) (s0 : Int32) (M : Hx) : FX6_at_29 l0 l1 l2 s0 M = (if s0 = nI 0 then (FX6_at_51 (mi 1) M) else bnd (h_R M 5 l0 2) (fun r3 => bnd (h_I M 5 l0 0) (fun x4 => bnd (h_A M 0 r3 ((l1 * x4) + l2)) (fun x5 => FX6_at_51 x5 M) ()) ()) ()) := rfl
set_option maxRecDepth 100000 in
theorem eX6_at_51 (s0 : Int32) (M : Hx) : FX6_at_51 s0 M = (some (s0, M)) := rfl
def FX6_put (l0 : Nat) (l1 : Int32) (l2 : Int32) (l3 : Int32) (M : Hx) : Option (Unit × Hx) := fX6_put [.ref l0, .int l1, .int l2, .int l3] M
def FX6_put_34  (M : Hx) : Option (Unit × Hx) := bX6_put_34 [none, none, none, none] [] M
set_option maxRecDepth 100000 in
theorem eX6_put (l0 : Nat) (l1 : Int32) (l2 : Int32) (l3 : Int32) (M : Hx) : FX6_put l0 l1 l2 l3 M = (gd (h_K M 5 l0) <| bnd (FX6_has l0 l1 M) (fun q1 => if q1.1 = nI 0 then (FX6_put_34 q1.2) else if l2 < nI 0 then (FX6_put_34 q1.2) else bnd (h_I q1.2 5 l0 0) (fun x2 => if x2 ≤ l2 then (FX6_put_34 q1.2) else bnd (h_R q1.2 5 l0 2) (fun r3 => bnd (h_I q1.2 5 l0 0) (fun x4 => bnd (h_S q1.2 0 r3 ((l1 * x4) + l2) l3) (fun M5 => FX6_put_34 M5) ()) ()) ()) ()) ()) := rfl
set_option maxRecDepth 100000 in
theorem eX6_put_34  (M : Hx) : FX6_put_34  M = (some ((), M)) := rfl
def FX6_add (l0 : Nat) (l1 : Int32) (l2 : Int32) (l3 : Int32) (l4 : Int32) (M : Hx) : Option (Int32 × Hx) := fX6_add [.ref l0, .int l1, .int l2, .int l3, .int l4] M
set_option maxRecDepth 100000 in
theorem eX6_add (l0 : Nat) (l1 : Int32) (l2 : Int32) (l3 : Int32) (l4 : Int32) (M : Hx) : FX6_add l0 l1 l2 l3 l4 M = (bnd (h_I M 5 l0 3) (fun x1 => bnd (h_I M 5 l0 1) (fun x2 => if x1 < x2 then (bnd (h_I M 5 l0 3) (fun x3 => bnd (h_P M 5 l0 3 (.int (x3 + (nI 1)))) (fun M4 => bnd (h_I M4 5 l0 3) (fun x5 => gd (h_K M4 5 l0) <| bnd (FX6_put l0 (x5 - (nI 1)) (nI 0) l1 M4) (fun q6 => bnd (h_I q6.2 5 l0 3) (fun x7 => gd (h_K q6.2 5 l0) <| bnd (FX6_put l0 (x7 - (nI 1)) (nI 1) l2 q6.2) (fun q8 => bnd (h_I q8.2 5 l0 3) (fun x9 => gd (h_K q8.2 5 l0) <| bnd (FX6_put l0 (x9 - (nI 1)) (nI 2) l3 q8.2) (fun q10 => bnd (h_I q10.2 5 l0 3) (fun x11 => gd (h_K q10.2 5 l0) <| bnd (FX6_put l0 (x11 - (nI 1)) (nI 3) l4 q10.2) (fun q12 => bnd (h_I q12.2 5 l0 3) (fun x13 => some (x13, q12.2)) ()) ()) ()) ()) ()) ()) ()) ()) ()) ()) ()) else some ((mi 3), M)) ()) ()) := rfl
def FX6_cutTo (l0 : Nat) (l1 : Int32) (M : Hx) : Option (Int32 × Hx) := fX6_cutTo [.ref l0, .int l1] M
def FX6_cutTo_12  (M : Hx) : Option (Int32 × Hx) := bX6_cutTo_12 [none, none, none] [] M
set_option maxRecDepth 100000 in
theorem eX6_cutTo (l0 : Nat) (l1 : Int32) (M : Hx) : FX6_cutTo l0 l1 M = (if l1 < nI 0 then (FX6_cutTo_12 M) else bnd (h_I M 5 l0 3) (fun x1 => if l1 ≤ x1 then (bnd (h_I M 5 l0 3) (fun x2 => bnd (h_P M 5 l0 3 (.int l1)) (fun M3 => some (x2, M3)) ()) ()) else FX6_cutTo_12 M) ()) := rfl
set_option maxRecDepth 100000 in
theorem eX6_cutTo_12  (M : Hx) : FX6_cutTo_12  M = (some ((mi 1), M)) := rfl
def FX6_copyFrom (l0 : Nat) (l1 : Nat) (M : Hx) : Option (Unit × Hx) := fX6_copyFrom [.ref l0, .ref l1] M
set_option maxRecDepth 100000 in
theorem eX6_copyFrom (l0 : Nat) (l1 : Nat) (M : Hx) : FX6_copyFrom l0 l1 M = (bnd (h_R M 5 l1 2) (fun r1 => bnd (h_R M 5 l0 2) (fun r2 => bnd (h_R M 5 l0 2) (fun r3 => bnd (h_L M r3) (fun x4 => bnd (h_R M 5 l1 2) (fun r5 => bnd (h_L M r5) (fun x6 => bnd (h_C M r1 r2 (nI 0) (nI 0) (o_min x4 x6)) (fun M7 => bnd (h_I M7 5 l0 1) (fun x8 => bnd (h_I M7 5 l1 3) (fun x9 => bnd (h_P M7 5 l0 3 (.int (o_min x8 x9))) (fun M10 => some ((), M10)) ()) ()) ()) ()) ()) ()) ()) ()) ()) ()) := rfl
def FX6_isLike (l0 : Nat) (l1 : Nat) (M : Hx) : Option (Int32 × Hx) := fX6_isLike [.ref l0, .ref l1] M
def FX6_isLike_22  (M : Hx) : Option (Int32 × Hx) := bX6_isLike_22 [none, none, none] [] M
def FX6_isLike_26 (n26 : Nat) (l0 : Nat) (l1 : Nat) (l2 : Int32) (M : Hx) : Option (Int32 × Hx) := (o_lp (bX6_isLike_26) n26) [some (.ref l0), some (.ref l1), some (.int l2)] [] M
set_option maxRecDepth 100000 in
theorem eX6_isLike (l0 : Nat) (l1 : Nat) (M : Hx) : FX6_isLike l0 l1 M = (bnd (h_I M 5 l0 3) (fun x1 => bnd (h_I M 5 l1 3) (fun x2 => if x1 = x2 then (bnd (h_I M 5 l0 0) (fun x3 => bnd (h_I M 5 l1 0) (fun x4 => if x3 = x4 then (FX6_isLike_26 fu l0 l1 (nI 0) M) else FX6_isLike_22 M) ()) ()) else (FX6_isLike_22 M)) ()) ()) := rfl
set_option maxRecDepth 100000 in
theorem eX6_isLike_22  (M : Hx) : FX6_isLike_22  M = (if (nI 0) = nI 0 ∨ (nI 0) = nI 1 then some ((nI 0), M) else none) := rfl
set_option maxRecDepth 100000 in
theorem eX6_isLike_26 (n26 : Nat) (l0 : Nat) (l1 : Nat) (l2 : Int32) (M : Hx) : FX6_isLike_26 (n26 + 1) l0 l1 l2 M = (bnd (h_I M 5 l0 3) (fun x5 => bnd (h_I M 5 l0 0) (fun x6 => if (x5 * x6) ≤ l2 then (if (nI 1) = nI 0 ∨ (nI 1) = nI 1 then some ((nI 1), M) else none) else bnd (h_R M 5 l0 2) (fun r7 => bnd (h_A M 0 r7 l2) (fun x8 => bnd (h_R M 5 l1 2) (fun r9 => bnd (h_A M 0 r9 l2) (fun x10 => if x8 = x10 then (FX6_isLike_26 n26 l0 l1 (l2 + (nI 1)) M) else if (nI 0) = nI 0 ∨ (nI 0) = nI 1 then some ((nI 0), M) else none) ()) ()) ()) ()) ()) ()) := rfl
def FX2_shareMet (l0 : Int32) (l1 : Int32) (M : Hx) : Option (Int64 × Hx) := fX2_shareMet [.int l0, .int l1] M
def FX2_shareMet_7 (n7 : Nat) (l0 : Int32) (l1 : Int32) (l2 : Int64) (l4 : Int32) (M : Hx) : Option (Int64 × Hx) := (o_lp (bX2_shareMet_7) n7) [some (.int l0), some (.int l1), some (.long l2), none, some (.int l4)] [] M
def FX2_shareMet_34 (l2 : Int64) (M : Hx) : Option (Int64 × Hx) := bX2_shareMet_34 [none, none, some (.long l2), none, none] [] M
set_option maxRecDepth 100000 in
theorem eX2_shareMet (l0 : Int32) (l1 : Int32) (M : Hx) : FX2_shareMet l0 l1 M = (FX2_shareMet_7 fu l0 l1 (lN 100000) (nI 0) M) := rfl
set_option maxRecDepth 100000 in
theorem eX2_shareMet_7 (n7 : Nat) (l0 : Int32) (l1 : Int32) (l2 : Int64) (l4 : Int32) (M : Hx) : FX2_shareMet_7 (n7 + 1) l0 l1 l2 l4 M = (if l1 ≤ l4 then (FX2_shareMet_34 l2 M) else if (nI 5) ≤ l4 then (FX2_shareMet_34 l2 M) else FX2_shareMet_7 n7 l0 l1 ((l2 / (lN 10)) * l0.toInt64) (l4 + (nI 1)) M) := rfl
set_option maxRecDepth 100000 in
theorem eX2_shareMet_34 (l2 : Int64) (M : Hx) : FX2_shareMet_34 l2 M = (some (((lN 100000) - l2), M)) := rfl
def FX2_greatestCommon (l0 : Int64) (l2 : Int64) (M : Hx) : Option (Int64 × Hx) := fX2_greatestCommon [.long l0, .long l2] M
def FX2_greatestCommon_9 (n9 : Nat) (l4 : Int64) (l6 : Int64) (l8 : Int32) (M : Hx) : Option (Int64 × Hx) := (o_lp (bX2_greatestCommon_9) n9) [none, none, none, none, some (.long l4), none, some (.long l6), none, some (.int l8), none, none] [] M
def FX2_greatestCommon_44 (l6 : Int64) (M : Hx) : Option (Int64 × Hx) := bX2_greatestCommon_44 [none, none, none, none, none, none, some (.long l6), none, none, none, none] [] M
set_option maxRecDepth 100000 in
theorem eX2_greatestCommon (l0 : Int64) (l2 : Int64) (M : Hx) : FX2_greatestCommon l0 l2 M = (FX2_greatestCommon_9 fu l0 l2 (nI 0) M) := rfl
set_option maxRecDepth 100000 in
theorem eX2_greatestCommon_9 (n9 : Nat) (l4 : Int64) (l6 : Int64) (l8 : Int32) (M : Hx) : FX2_greatestCommon_9 (n9 + 1) l4 l6 l8 M = (if (nI 100) ≤ l8 then (FX2_greatestCommon_44 l6 M) else if (lg_cmp l4 (lN 0)) = nI 0 then (FX2_greatestCommon_44 l6 M) else if l4 = lN 0 then none else FX2_greatestCommon_9 n9 (l6 - l6 / l4 * l4) l4 (l8 + (nI 1)) M) := rfl
set_option maxRecDepth 100000 in
theorem eX2_greatestCommon_44 (l6 : Int64) (M : Hx) : FX2_greatestCommon_44 l6 M = (some (l6, M)) := rfl
def FX2_part (l0 : Int64) (l2 : Int32) (M : Hx) : Option (Int64 × Hx) := fX2_part [.long l0, .int l2] M
def FX2_part_29 (l3 : Int64) (s0 : Int64) (M : Hx) : Option (Int64 × Hx) := bX2_part_29 [none, none, none, some (.long l3), none] [.long s0] M
set_option maxRecDepth 100000 in
theorem eX2_part (l0 : Int64) (l2 : Int32) (M : Hx) : FX2_part l0 l2 M = (bnd (FX2_greatestCommon l0 (lN 100000) M) (fun q1 => if nI 0 ≤ (lg_cmp q1.1 (lN 1)) then (if l2 = nI 0 then (FX2_part_29 q1.1 l0 q1.2) else (FX2_part_29 q1.1 (lN 100000) q1.2)) else some ((lm 1), q1.2)) ()) := rfl
set_option maxRecDepth 100000 in
theorem eX2_part_29 (l3 : Int64) (s0 : Int64) (M : Hx) : FX2_part_29 l3 s0 M = (if l3 = lN 0 then none else some ((s0 / l3), M)) := rfl
def FX3_init (l0 : Nat) (M : Hx) : Option (Unit × Hx) := fX3_init [.ref l0] M
set_option maxRecDepth 100000 in
theorem eX3_init (l0 : Nat) (M : Hx) : FX3_init l0 M = (if ¬ (nI 40) < nI 0 ∧ (nI 40).toNatClampNeg ≤ 100000 ∧ M.length < 1000 then (bnd (h_P (M ++ [.inl (0, (nI 40).toNatClampNeg, .inl (fun _ => nI 0))]) 2 l0 0 (.ref (List.length M))) (fun M1 => bnd (h_P M1 2 l0 2 (.int (mi 4))) (fun M2 => some ((), M2)) ()) ()) else none) := rfl
def FX3_makeNew (l0 : Nat) (l1 : Int32) (l2 : Int32) (M : Hx) : Option (Unit × Hx) := fX3_makeNew [.ref l0, .int l1, .int l2] M
def FX3_makeNew_17 (n17 : Nat) (l0 : Nat) (l3 : Int32) (M : Hx) : Option (Unit × Hx) := (o_lp (bX3_makeNew_17) n17) [some (.ref l0), none, none, some (.int l3)] [] M
set_option maxRecDepth 100000 in
theorem eX3_makeNew (l0 : Nat) (l1 : Int32) (l2 : Int32) (M : Hx) : FX3_makeNew l0 l1 l2 M = (bnd (h_P M 2 l0 1 (.int l1)) (fun M1 => bnd (h_P M1 2 l0 2 (.int (o_min l2 (nI 40)))) (fun M2 => FX3_makeNew_17 fu l0 (nI 0) M2) ()) ()) := rfl
set_option maxRecDepth 100000 in
theorem eX3_makeNew_17 (n17 : Nat) (l0 : Nat) (l3 : Int32) (M : Hx) : FX3_makeNew_17 (n17 + 1) l0 l3 M = (if (nI 40) ≤ l3 then (some ((), M)) else bnd (h_R M 2 l0 0) (fun r3 => bnd (h_S M 0 r3 l3 (nI 0)) (fun M4 => FX3_makeNew_17 n17 l0 (l3 + (nI 1)) M4) ()) ()) := rfl
def FX3_faultAt (l0 : Nat) (l1 : Int32) (M : Hx) : Option (Int32 × Hx) := fX3_faultAt [.ref l0, .int l1] M
def FX3_faultAt_23  (M : Hx) : Option (Int32 × Hx) := bX3_faultAt_23 [none, none] [] M
def FX3_faultAt_28 (s0 : Int32) (M : Hx) : Option (Int32 × Hx) := bX3_faultAt_28 [none, none] [.int s0] M
set_option maxRecDepth 100000 in
theorem eX3_faultAt (l0 : Nat) (l1 : Int32) (M : Hx) : FX3_faultAt l0 l1 M = (bnd (h_I M 2 l0 2) (fun x1 => if x1 = (mi 4) then (some ((nI 1), M)) else (if l1 < nI 0 then (FX3_faultAt_23 M) else bnd (h_I M 2 l0 2) (fun x2 => if l1 < x2 then (FX3_faultAt_28 (nI 0) M) else FX3_faultAt_23 M) ())) ()) := rfl
set_option maxRecDepth 100000 in
theorem eX3_faultAt_23  (M : Hx) : FX3_faultAt_23  M = (FX3_faultAt_28 (nI 2) M) := rfl
set_option maxRecDepth 100000 in
theorem eX3_faultAt_28 (s0 : Int32) (M : Hx) : FX3_faultAt_28 s0 M = (some (s0, M)) := rfl
def FX3_faultOfPair (l0 : Nat) (l1 : Int32) (l2 : Int32) (M : Hx) : Option (Int32 × Hx) := fX3_faultOfPair [.ref l0, .int l1, .int l2] M
def FX3_faultOfPair_19 (l0 : Nat) (l2 : Int32) (M : Hx) : Option (Int32 × Hx) := bX3_faultOfPair_19 [some (.ref l0), none, some (.int l2), none] [] M
def FX3_faultOfPair_40 (s0 : Int32) (M : Hx) : Option (Int32 × Hx) := bX3_faultOfPair_40 [none, none, none, none] [.int s0] M
set_option maxRecDepth 100000 in
theorem eX3_faultOfPair (l0 : Nat) (l1 : Int32) (l2 : Int32) (M : Hx) : FX3_faultOfPair l0 l1 l2 M = (bnd (h_I M 2 l0 2) (fun x1 => if x1 = (mi 4) then (FX3_faultOfPair_19 l0 l2 M) else bnd (h_I M 2 l0 1) (fun x2 => if x2 = l1 then (FX3_faultOfPair_19 l0 l2 M) else some ((nI 3), M)) ()) ()) := rfl
set_option maxRecDepth 100000 in
theorem eX3_faultOfPair_19 (l0 : Nat) (l2 : Int32) (M : Hx) : FX3_faultOfPair_19 l0 l2 M = (gd (h_K M 2 l0) <| bnd (FX3_faultAt l0 l2 M) (fun q3 => if q3.1 = nI 0 then (gd (h_K q3.2 2 l0) <| bnd (FX3_faultAt l0 (l2 + (nI 1)) q3.2) (fun q4 => FX3_faultOfPair_40 q4.1 q4.2) ()) else FX3_faultOfPair_40 q3.1 q3.2) ()) := rfl
set_option maxRecDepth 100000 in
theorem eX3_faultOfPair_40 (s0 : Int32) (M : Hx) : FX3_faultOfPair_40 s0 M = (some (s0, M)) := rfl
def FX3_cellAt (l0 : Nat) (l1 : Int32) (M : Hx) : Option (Int32 × Hx) := fX3_cellAt [.ref l0, .int l1] M
def FX3_cellAt_21  (M : Hx) : Option (Int32 × Hx) := bX3_cellAt_21 [none, none] [] M
def FX3_cellAt_22 (s0 : Int32) (M : Hx) : Option (Int32 × Hx) := bX3_cellAt_22 [none, none] [.int s0] M
set_option maxRecDepth 100000 in
theorem eX3_cellAt (l0 : Nat) (l1 : Int32) (M : Hx) : FX3_cellAt l0 l1 M = (if l1 < nI 0 then (FX3_cellAt_21 M) else bnd (h_I M 2 l0 2) (fun x1 => if x1 ≤ l1 then (FX3_cellAt_21 M) else bnd (h_R M 2 l0 0) (fun r2 => bnd (h_A M 0 r2 l1) (fun x3 => FX3_cellAt_22 x3 M) ()) ()) ()) := rfl
set_option maxRecDepth 100000 in
theorem eX3_cellAt_21  (M : Hx) : FX3_cellAt_21  M = (FX3_cellAt_22 (nI 0) M) := rfl
set_option maxRecDepth 100000 in
theorem eX3_cellAt_22 (s0 : Int32) (M : Hx) : FX3_cellAt_22 s0 M = (some (s0, M)) := rfl
def FX3_putCell (l0 : Nat) (l1 : Int32) (l2 : Int32) (M : Hx) : Option (Unit × Hx) := fX3_putCell [.ref l0, .int l1, .int l2] M
def FX3_putCell_43 (s0 : Nat) (s1 : Int32) (s2 : Int32) (M : Hx) : Option (Unit × Hx) := bX3_putCell_43 [none, none, none] [.int s2, .int s1, .ref s0] M
def FX3_putCell_44  (M : Hx) : Option (Unit × Hx) := bX3_putCell_44 [none, none, none] [] M
set_option maxRecDepth 100000 in
theorem eX3_putCell (l0 : Nat) (l1 : Int32) (l2 : Int32) (M : Hx) : FX3_putCell l0 l1 l2 M = (if l1 < nI 0 then (FX3_putCell_44 M) else bnd (h_I M 2 l0 2) (fun x1 => if x1 ≤ l1 then (FX3_putCell_44 M) else bnd (h_R M 2 l0 0) (fun r2 => bnd (h_I M 2 l0 1) (fun x3 => if x3 = nI 0 then (FX3_putCell_43 r2 l1 (o_i2b l2) M) else (bnd (h_I M 2 l0 1) (fun x4 => if x4 = (nI 1) then (FX3_putCell_43 r2 l1 (o_i2s l2) M) else (FX3_putCell_43 r2 l1 l2 M)) ())) ()) ()) ()) := rfl
set_option maxRecDepth 100000 in
theorem eX3_putCell_43 (s0 : Nat) (s1 : Int32) (s2 : Int32) (M : Hx) : FX3_putCell_43 s0 s1 s2 M = (bnd (h_S M 0 s0 s1 s2) (fun M5 => FX3_putCell_44 M5) ()) := rfl
set_option maxRecDepth 100000 in
theorem eX3_putCell_44  (M : Hx) : FX3_putCell_44  M = (some ((), M)) := rfl
def FX1_makeEmpty (l0 : Nat) (M : Hx) : Option (Unit × Hx) := fX1_makeEmpty [.ref l0] M
def FX1_makeEmpty_34 (n34 : Nat) (l0 : Nat) (l1 : Int32) (M : Hx) : Option (Unit × Hx) := (o_lp (bX1_makeEmpty_34) n34) [some (.ref l0), some (.int l1)] [] M
def FX1_makeEmpty_54 (n54 : Nat) (l0 : Nat) (l1 : Int32) (M : Hx) : Option (Unit × Hx) := (o_lp (bX1_makeEmpty_54) n54) [some (.ref l0), some (.int l1)] [] M
set_option maxRecDepth 100000 in
theorem eX1_makeEmpty (l0 : Nat) (M : Hx) : FX1_makeEmpty l0 M = (bnd (h_R M 1 l0 0) (fun r1 => bnd (h_P M 5 r1 3 (.int (nI 0))) (fun M2 => bnd (h_R M2 1 l0 1) (fun r3 => bnd (h_P M2 5 r3 3 (.int (nI 0))) (fun M4 => bnd (h_R M4 1 l0 2) (fun r5 => bnd (h_P M4 5 r5 3 (.int (nI 0))) (fun M6 => bnd (h_R M6 1 l0 3) (fun r7 => bnd (h_P M6 5 r7 3 (.int (nI 0))) (fun M8 => FX1_makeEmpty_34 fu l0 (nI 0) M8) ()) ()) ()) ()) ()) ()) ()) ()) := rfl
set_option maxRecDepth 100000 in
theorem eX1_makeEmpty_34 (n34 : Nat) (l0 : Nat) (l1 : Int32) (M : Hx) : FX1_makeEmpty_34 (n34 + 1) l0 l1 M = (if (nI 3) ≤ l1 then (FX1_makeEmpty_54 fu l0 (nI 0) M) else bnd (h_R M 1 l0 4) (fun r9 => bnd (h_S M 0 r9 l1 (nI 0)) (fun M10 => FX1_makeEmpty_34 n34 l0 (l1 + (nI 1)) M10) ()) ()) := rfl
set_option maxRecDepth 100000 in
theorem eX1_makeEmpty_54 (n54 : Nat) (l0 : Nat) (l1 : Int32) (M : Hx) : FX1_makeEmpty_54 (n54 + 1) l0 l1 M = (if (nI 10) ≤ l1 then (some ((), M)) else bnd (h_R M 1 l0 5) (fun r11 => bnd (h_S M 0 r11 l1 (mi 4)) (fun M12 => FX1_makeEmpty_54 n54 l0 (l1 + (nI 1)) M12) ()) ()) := rfl
def FX1_init (l0 : Nat) (M : Hx) : Option (Unit × Hx) := fX1_init [.ref l0] M
set_option maxRecDepth 100000 in
theorem eX1_init (l0 : Nat) (M : Hx) : FX1_init l0 M = (if M.length < 1000 then (bnd (FX6_init (List.length M) (nI 2) (nI 5) (M ++ [.inr (5, [.int 0, .int 0, .null, .int 0])])) (fun q2 => bnd (h_P q2.2 1 l0 0 (.ref (List.length M))) (fun M3 => if M3.length < 1000 then (bnd (FX6_init (List.length M3) (nI 3) (nI 4) (M3 ++ [.inr (5, [.int 0, .int 0, .null, .int 0])])) (fun q5 => bnd (h_P q5.2 1 l0 1 (.ref (List.length M3))) (fun M6 => if M6.length < 1000 then (bnd (FX6_init (List.length M6) (nI 4) (nI 5) (M6 ++ [.inr (5, [.int 0, .int 0, .null, .int 0])])) (fun q8 => bnd (h_P q8.2 1 l0 2 (.ref (List.length M6))) (fun M9 => if M9.length < 1000 then (bnd (FX6_init (List.length M9) (nI 4) (nI 4) (M9 ++ [.inr (5, [.int 0, .int 0, .null, .int 0])])) (fun q11 => bnd (h_P q11.2 1 l0 3 (.ref (List.length M9))) (fun M12 => if ¬ (nI 3) < nI 0 ∧ (nI 3).toNatClampNeg ≤ 100000 ∧ M12.length < 1000 then (bnd (h_P (M12 ++ [.inl (0, (nI 3).toNatClampNeg, .inl (fun _ => nI 0))]) 1 l0 4 (.ref (List.length M12))) (fun M13 => if ¬ (nI 10) < nI 0 ∧ (nI 10).toNatClampNeg ≤ 100000 ∧ M13.length < 1000 then (bnd (h_P (M13 ++ [.inl (0, (nI 10).toNatClampNeg, .inl (fun _ => nI 0))]) 1 l0 5 (.ref (List.length M13))) (fun M14 => gd (h_K M14 1 l0) <| bnd (FX1_makeEmpty l0 M14) (fun q15 => some ((), q15.2)) ()) ()) else none) ()) else none) ()) ()) else none) ()) ()) else none) ()) ()) else none) ()) ()) else none) := rfl
def FX1_copyFrom (l0 : Nat) (l1 : Nat) (M : Hx) : Option (Unit × Hx) := fX1_copyFrom [.ref l0, .ref l1] M
set_option maxRecDepth 100000 in
theorem eX1_copyFrom (l0 : Nat) (l1 : Nat) (M : Hx) : FX1_copyFrom l0 l1 M = (bnd (h_R M 1 l0 0) (fun r1 => bnd (h_R M 1 l1 0) (fun r2 => gd (h_K M 5 r1) <| bnd (FX6_copyFrom r1 r2 M) (fun q3 => bnd (h_R q3.2 1 l0 1) (fun r4 => bnd (h_R q3.2 1 l1 1) (fun r5 => gd (h_K q3.2 5 r4) <| bnd (FX6_copyFrom r4 r5 q3.2) (fun q6 => bnd (h_R q6.2 1 l0 2) (fun r7 => bnd (h_R q6.2 1 l1 2) (fun r8 => gd (h_K q6.2 5 r7) <| bnd (FX6_copyFrom r7 r8 q6.2) (fun q9 => bnd (h_R q9.2 1 l0 3) (fun r10 => bnd (h_R q9.2 1 l1 3) (fun r11 => gd (h_K q9.2 5 r10) <| bnd (FX6_copyFrom r10 r11 q9.2) (fun q12 => bnd (h_R q12.2 1 l1 4) (fun r13 => bnd (h_R q12.2 1 l0 4) (fun r14 => bnd (h_C q12.2 r13 r14 (nI 0) (nI 0) (nI 3)) (fun M15 => bnd (h_R M15 1 l1 5) (fun r16 => bnd (h_R M15 1 l0 5) (fun r17 => bnd (h_C M15 r16 r17 (nI 0) (nI 0) (nI 10)) (fun M18 => some ((), M18)) ()) ()) ()) ()) ()) ()) ()) ()) ()) ()) ()) ()) ()) ()) ()) ()) ()) ()) := rfl
def FX1_isOne (l0 : Nat) (l1 : Int32) (M : Hx) : Option (Int32 × Hx) := fX1_isOne [.ref l0, .int l1] M
set_option maxRecDepth 100000 in
theorem eX1_isOne (l0 : Nat) (l1 : Int32) (M : Hx) : FX1_isOne l0 l1 M = (bnd (h_R M 1 l0 0) (fun r1 => gd (h_K M 5 r1) <| bnd (FX6_has r1 l1 M) (fun q2 => if q2.1 = nI 0 ∨ q2.1 = nI 1 then some (q2.1, q2.2) else none) ()) ()) := rfl
def FX1_kindOf (l0 : Nat) (l1 : Int32) (M : Hx) : Option (Int32 × Hx) := fX1_kindOf [.ref l0, .int l1] M
set_option maxRecDepth 100000 in
theorem eX1_kindOf (l0 : Nat) (l1 : Int32) (M : Hx) : FX1_kindOf l0 l1 M = (bnd (h_R M 1 l0 0) (fun r1 => gd (h_K M 5 r1) <| bnd (FX6_at r1 l1 (nI 0) M) (fun q2 => some (q2.1, q2.2)) ()) ()) := rfl
def FX1_postOf (l0 : Nat) (l1 : Int32) (M : Hx) : Option (Int32 × Hx) := fX1_postOf [.ref l0, .int l1] M
set_option maxRecDepth 100000 in
theorem eX1_postOf (l0 : Nat) (l1 : Int32) (M : Hx) : FX1_postOf l0 l1 M = (bnd (h_R M 1 l0 0) (fun r1 => gd (h_K M 5 r1) <| bnd (FX6_at r1 l1 (nI 1) M) (fun q2 => some (q2.1, q2.2)) ()) ()) := rfl
def FX1_keepsOf (l0 : Nat) (l1 : Int32) (M : Hx) : Option (Int32 × Hx) := fX1_keepsOf [.ref l0, .int l1] M
def FX1_keepsOf_26  (M : Hx) : Option (Int32 × Hx) := bX1_keepsOf_26 [none, none, none] [] M
def FX1_keepsOf_27 (s0 : Int32) (M : Hx) : Option (Int32 × Hx) := bX1_keepsOf_27 [none, none, none] [.int s0] M
set_option maxRecDepth 100000 in
theorem eX1_keepsOf (l0 : Nat) (l1 : Int32) (M : Hx) : FX1_keepsOf l0 l1 M = (gd (h_K M 1 l0) <| bnd (FX1_kindOf l0 l1 M) (fun q1 => if q1.1 < nI 0 then (FX1_keepsOf_26 q1.2) else if 1009 = 1009 then (if nI 4 ≤ q1.1 then (FX1_keepsOf_26 q1.2) else if 1009 = 1009 ∧ ¬ q1.1 < nI 0 ∧ q1.1.toNatClampNeg < 4 then (FX1_keepsOf_27 (([3, 2, 9, 6] : List Int32).getD q1.1.toNatClampNeg 0) q1.2) else none) else none) ()) := rfl
set_option maxRecDepth 100000 in
theorem eX1_keepsOf_26  (M : Hx) : FX1_keepsOf_26  M = (FX1_keepsOf_27 (nI 0) M) := rfl
set_option maxRecDepth 100000 in
theorem eX1_keepsOf_27 (s0 : Int32) (M : Hx) : FX1_keepsOf_27 s0 M = (some (s0, M)) := rfl
def FX1_worthOf (l0 : Nat) (l1 : Int32) (M : Hx) : Option (Int32 × Hx) := fX1_worthOf [.ref l0, .int l1] M
set_option maxRecDepth 100000 in
theorem eX1_worthOf (l0 : Nat) (l1 : Int32) (M : Hx) : FX1_worthOf l0 l1 M = (bnd (h_R M 1 l0 2) (fun r1 => gd (h_K M 5 r1) <| bnd (FX6_at r1 l1 (nI 3) M) (fun q2 => some (q2.1, q2.2)) ()) ()) := rfl
def FX1_allWorth (l0 : Nat) (M : Hx) : Option (Int32 × Hx) := fX1_allWorth [.ref l0] M
def FX1_allWorth_4 (n4 : Nat) (l0 : Nat) (l1 : Int32) (l2 : Int32) (M : Hx) : Option (Int32 × Hx) := (o_lp (bX1_allWorth_4) n4) [some (.ref l0), some (.int l1), some (.int l2)] [] M
set_option maxRecDepth 100000 in
theorem eX1_allWorth (l0 : Nat) (M : Hx) : FX1_allWorth l0 M = (FX1_allWorth_4 fu l0 (nI 0) (nI 0) M) := rfl
set_option maxRecDepth 100000 in
theorem eX1_allWorth_4 (n4 : Nat) (l0 : Nat) (l1 : Int32) (l2 : Int32) (M : Hx) : FX1_allWorth_4 (n4 + 1) l0 l1 l2 M = (bnd (h_R M 1 l0 2) (fun r1 => bnd (h_I M 5 r1 3) (fun x2 => if x2 ≤ l2 then (some (l1, M)) else gd (h_K M 1 l0) <| bnd (FX1_worthOf l0 l2 M) (fun q3 => FX1_allWorth_4 n4 l0 (l1 + q3.1) (l2 + (nI 1)) q3.2) ()) ()) ()) := rfl
def FX1_hoursHeld (l0 : Nat) (M : Hx) : Option (Int32 × Hx) := fX1_hoursHeld [.ref l0] M
def FX1_hoursHeld_4 (n4 : Nat) (l0 : Nat) (l1 : Int32) (l2 : Int32) (M : Hx) : Option (Int32 × Hx) := (o_lp (bX1_hoursHeld_4) n4) [some (.ref l0), some (.int l1), some (.int l2)] [] M
def FX1_hoursHeld_29 (n4 : Nat) (l0 : Nat) (l2 : Int32) (s0 : Int32) (s1 : Int32) (M : Hx) : Option (Int32 × Hx) := bX1_hoursHeld_29 (o_lp (bX1_hoursHeld_4) n4) [some (.ref l0), none, some (.int l2)] [.int s1, .int s0] M
set_option maxRecDepth 100000 in
theorem eX1_hoursHeld (l0 : Nat) (M : Hx) : FX1_hoursHeld l0 M = (FX1_hoursHeld_4 fu l0 (nI 0) (nI 0) M) := rfl
set_option maxRecDepth 100000 in
theorem eX1_hoursHeld_4 (n4 : Nat) (l0 : Nat) (l1 : Int32) (l2 : Int32) (M : Hx) : FX1_hoursHeld_4 (n4 + 1) l0 l1 l2 M = (if (nI 10) ≤ l2 then (some (l1, M)) else bnd (h_R M 1 l0 5) (fun r1 => bnd (h_A M 0 r1 l2) (fun x2 => if x2 = (mi 4) then (FX1_hoursHeld_29 n4 l0 l2 l1 (nI 0) M) else FX1_hoursHeld_29 n4 l0 l2 l1 ((nI 1) <<< (l2 &&& nI 31)) M) ()) ()) := rfl
set_option maxRecDepth 100000 in
theorem eX1_hoursHeld_29 (n4 : Nat) (l0 : Nat) (l2 : Int32) (s0 : Int32) (s1 : Int32) (M : Hx) : FX1_hoursHeld_29 n4 l0 l2 s0 s1 M = (FX1_hoursHeld_4 n4 l0 (s0 ||| s1) (l2 + (nI 1)) M) := rfl
def FX1_hoursHeldBy (l0 : Nat) (l1 : Int32) (M : Hx) : Option (Int32 × Hx) := fX1_hoursHeldBy [.ref l0, .int l1] M
def FX1_hoursHeldBy_4 (n4 : Nat) (l0 : Nat) (l1 : Int32) (l2 : Int32) (l3 : Int32) (M : Hx) : Option (Int32 × Hx) := (o_lp (bX1_hoursHeldBy_4) n4) [some (.ref l0), some (.int l1), some (.int l2), some (.int l3)] [] M
def FX1_hoursHeldBy_28 (n4 : Nat) (l0 : Nat) (l1 : Int32) (l3 : Int32) (s0 : Int32) (s1 : Int32) (M : Hx) : Option (Int32 × Hx) := bX1_hoursHeldBy_28 (o_lp (bX1_hoursHeldBy_4) n4) [some (.ref l0), some (.int l1), none, some (.int l3)] [.int s1, .int s0] M
set_option maxRecDepth 100000 in
theorem eX1_hoursHeldBy (l0 : Nat) (l1 : Int32) (M : Hx) : FX1_hoursHeldBy l0 l1 M = (FX1_hoursHeldBy_4 fu l0 l1 (nI 0) (nI 0) M) := rfl
set_option maxRecDepth 100000 in
theorem eX1_hoursHeldBy_4 (n4 : Nat) (l0 : Nat) (l1 : Int32) (l2 : Int32) (l3 : Int32) (M : Hx) : FX1_hoursHeldBy_4 (n4 + 1) l0 l1 l2 l3 M = (if (nI 10) ≤ l3 then (some (l2, M)) else bnd (h_R M 1 l0 5) (fun r1 => bnd (h_A M 0 r1 l3) (fun x2 => if x2 = l1 then (FX1_hoursHeldBy_28 n4 l0 l1 l3 l2 ((nI 1) <<< (l3 &&& nI 31)) M) else (FX1_hoursHeldBy_28 n4 l0 l1 l3 l2 (nI 0) M)) ()) ()) := rfl
set_option maxRecDepth 100000 in
theorem eX1_hoursHeldBy_28 (n4 : Nat) (l0 : Nat) (l1 : Int32) (l3 : Int32) (s0 : Int32) (s1 : Int32) (M : Hx) : FX1_hoursHeldBy_28 n4 l0 l1 l3 s0 s1 M = (FX1_hoursHeldBy_4 n4 l0 l1 (s0 ||| s1) (l3 + (nI 1)) M) := rfl
def FX1_valueBehind (l0 : Nat) (l1 : Int32) (l2 : Int32) (M : Hx) : Option (Int32 × Hx) := fX1_valueBehind [.ref l0, .int l1, .int l2] M
def FX1_valueBehind_18 (l0 : Nat) (l1 : Int32) (l2 : Int32) (M : Hx) : Option (Int32 × Hx) := bX1_valueBehind_18 [some (.ref l0), some (.int l1), some (.int l2), none, none, none, none] [] M
def FX1_valueBehind_19 (l0 : Nat) (l1 : Int32) (l2 : Int32) (s0 : Int32) (M : Hx) : Option (Int32 × Hx) := bX1_valueBehind_19 [some (.ref l0), some (.int l1), some (.int l2), none, none, none, none] [.int s0] M
def FX1_valueBehind_26 (n26 : Nat) (l0 : Nat) (l1 : Int32) (l2 : Int32) (l3 : Int32) (l4 : Int32) (l5 : Int32) (M : Hx) : Option (Int32 × Hx) := (o_lp (bX1_valueBehind_26) n26) [some (.ref l0), some (.int l1), some (.int l2), some (.int l3), some (.int l4), some (.int l5), none] [] M
def FX1_valueBehind_92 (n26 : Nat) (l0 : Nat) (l1 : Int32) (l2 : Int32) (l3 : Int32) (l4 : Int32) (l5 : Int32) (M : Hx) : Option (Int32 × Hx) := bX1_valueBehind_92 (o_lp (bX1_valueBehind_26) n26) [some (.ref l0), some (.int l1), some (.int l2), some (.int l3), some (.int l4), some (.int l5), none] [] M
set_option maxRecDepth 100000 in
theorem eX1_valueBehind (l0 : Nat) (l1 : Int32) (l2 : Int32) (M : Hx) : FX1_valueBehind l0 l1 l2 M = (if l1 < nI 0 then (FX1_valueBehind_18 l0 l1 l2 M) else if (nI 3) ≤ l1 then (FX1_valueBehind_18 l0 l1 l2 M) else bnd (h_R M 1 l0 4) (fun r1 => bnd (h_A M 0 r1 l1) (fun x2 => FX1_valueBehind_19 l0 l1 l2 x2 M) ()) ()) := rfl
set_option maxRecDepth 100000 in
theorem eX1_valueBehind_18 (l0 : Nat) (l1 : Int32) (l2 : Int32) (M : Hx) : FX1_valueBehind_18 l0 l1 l2 M = (FX1_valueBehind_19 l0 l1 l2 (mi 1) M) := rfl
set_option maxRecDepth 100000 in
theorem eX1_valueBehind_19 (l0 : Nat) (l1 : Int32) (l2 : Int32) (s0 : Int32) (M : Hx) : FX1_valueBehind_19 l0 l1 l2 s0 M = (FX1_valueBehind_26 fu l0 l1 l2 s0 (nI 0) (nI 0) M) := rfl
set_option maxRecDepth 100000 in
theorem eX1_valueBehind_26 (n26 : Nat) (l0 : Nat) (l1 : Int32) (l2 : Int32) (l3 : Int32) (l4 : Int32) (l5 : Int32) (M : Hx) : FX1_valueBehind_26 (n26 + 1) l0 l1 l2 l3 l4 l5 M = (bnd (h_R M 1 l0 1) (fun r3 => bnd (h_I M 5 r3 3) (fun x4 => if x4 ≤ l5 then (some (l3, M)) else bnd (h_R M 1 l0 1) (fun r5 => gd (h_K M 5 r5) <| bnd (FX6_at r5 l5 (nI 0) M) (fun q6 => bnd (h_R q6.2 1 l0 1) (fun r7 => gd (h_K q6.2 5 r7) <| bnd (FX6_at r7 l5 (nI 1) q6.2) (fun q8 => if q8.1 = l1 then (if l2 < q6.1 then (FX1_valueBehind_92 n26 l0 l1 l2 l3 l4 l5 q8.2) else if q6.1 < l4 then (FX1_valueBehind_92 n26 l0 l1 l2 l3 l4 l5 q8.2) else bnd (h_R q8.2 1 l0 1) (fun r9 => gd (h_K q8.2 5 r9) <| bnd (FX6_at r9 l5 (nI 2) q8.2) (fun q10 => FX1_valueBehind_92 n26 l0 l1 l2 q10.1 q6.1 l5 q10.2) ()) ()) else (FX1_valueBehind_92 n26 l0 l1 l2 l3 l4 l5 q8.2)) ()) ()) ()) ()) ()) ()) := rfl
set_option maxRecDepth 100000 in
theorem eX1_valueBehind_92 (n26 : Nat) (l0 : Nat) (l1 : Int32) (l2 : Int32) (l3 : Int32) (l4 : Int32) (l5 : Int32) (M : Hx) : FX1_valueBehind_92 n26 l0 l1 l2 l3 l4 l5 M = (FX1_valueBehind_26 n26 l0 l1 l2 l3 l4 (l5 + (nI 1)) M) := rfl
def FX1_namesOnlyKin (l0 : Nat) (M : Hx) : Option (Int32 × Hx) := fX1_namesOnlyKin [.ref l0] M
def FX1_namesOnlyKin_2 (n2 : Nat) (l0 : Nat) (l1 : Int32) (M : Hx) : Option (Int32 × Hx) := (o_lp (bX1_namesOnlyKin_2) n2) [some (.ref l0), some (.int l1)] [] M
def FX1_namesOnlyKin_34 (n2 : Nat) (l0 : Nat) (l1 : Int32) (M : Hx) : Option (Int32 × Hx) := bX1_namesOnlyKin_34 (o_lp (bX1_namesOnlyKin_2) n2) [some (.ref l0), some (.int l1)] [] M
def FX1_namesOnlyKin_42 (n42 : Nat) (l0 : Nat) (l1 : Int32) (M : Hx) : Option (Int32 × Hx) := (o_lp (bX1_namesOnlyKin_42) n42) [some (.ref l0), some (.int l1)] [] M
def FX1_namesOnlyKin_79 (n79 : Nat) (l0 : Nat) (l1 : Int32) (M : Hx) : Option (Int32 × Hx) := (o_lp (bX1_namesOnlyKin_79) n79) [some (.ref l0), some (.int l1)] [] M
def FX1_namesOnlyKin_122 (n79 : Nat) (M : Hx) : Option (Int32 × Hx) := bX1_namesOnlyKin_122 (o_lp (bX1_namesOnlyKin_79) n79) [none, none] [] M
set_option maxRecDepth 100000 in
theorem eX1_namesOnlyKin (l0 : Nat) (M : Hx) : FX1_namesOnlyKin l0 M = (FX1_namesOnlyKin_2 fu l0 (nI 0) M) := rfl
set_option maxRecDepth 100000 in
theorem eX1_namesOnlyKin_2 (n2 : Nat) (l0 : Nat) (l1 : Int32) (M : Hx) : FX1_namesOnlyKin_2 (n2 + 1) l0 l1 M = (if (nI 10) ≤ l1 then (FX1_namesOnlyKin_42 fu l0 (nI 0) M) else bnd (h_R M 1 l0 5) (fun r1 => bnd (h_A M 0 r1 l1) (fun x2 => if x2 = (mi 4) then (FX1_namesOnlyKin_34 n2 l0 l1 M) else bnd (h_R M 1 l0 5) (fun r3 => bnd (h_A M 0 r3 l1) (fun x4 => gd (h_K M 1 l0) <| bnd (FX1_isOne l0 x4 M) (fun q5 => if q5.1 = nI 0 then (if (nI 0) = nI 0 ∨ (nI 0) = nI 1 then some ((nI 0), q5.2) else none) else (FX1_namesOnlyKin_34 n2 l0 l1 q5.2)) ()) ()) ()) ()) ()) := rfl
set_option maxRecDepth 100000 in
theorem eX1_namesOnlyKin_34 (n2 : Nat) (l0 : Nat) (l1 : Int32) (M : Hx) : FX1_namesOnlyKin_34 n2 l0 l1 M = (FX1_namesOnlyKin_2 n2 l0 (l1 + (nI 1)) M) := rfl
set_option maxRecDepth 100000 in
theorem eX1_namesOnlyKin_42 (n42 : Nat) (l0 : Nat) (l1 : Int32) (M : Hx) : FX1_namesOnlyKin_42 (n42 + 1) l0 l1 M = (bnd (h_R M 1 l0 2) (fun r6 => bnd (h_I M 5 r6 3) (fun x7 => if x7 ≤ l1 then (FX1_namesOnlyKin_79 fu l0 (nI 0) M) else bnd (h_R M 1 l0 2) (fun r8 => gd (h_K M 5 r8) <| bnd (FX6_at r8 l1 (nI 0) M) (fun q9 => gd (h_K q9.2 1 l0) <| bnd (FX1_isOne l0 q9.1 q9.2) (fun q10 => if q10.1 = nI 0 then (if (nI 0) = nI 0 ∨ (nI 0) = nI 1 then some ((nI 0), q10.2) else none) else (FX1_namesOnlyKin_42 n42 l0 (l1 + (nI 1)) q10.2)) ()) ()) ()) ()) ()) := rfl
set_option maxRecDepth 100000 in
theorem eX1_namesOnlyKin_79 (n79 : Nat) (l0 : Nat) (l1 : Int32) (M : Hx) : FX1_namesOnlyKin_79 (n79 + 1) l0 l1 M = (bnd (h_R M 1 l0 3) (fun r11 => bnd (h_I M 5 r11 3) (fun x12 => if x12 ≤ l1 then (if (nI 1) = nI 0 ∨ (nI 1) = nI 1 then some ((nI 1), M) else none) else bnd (h_R M 1 l0 3) (fun r13 => gd (h_K M 5 r13) <| bnd (FX6_at r13 l1 (nI 1) M) (fun q14 => gd (h_K q14.2 1 l0) <| bnd (FX1_isOne l0 q14.1 q14.2) (fun q15 => if q15.1 = nI 0 then (FX1_namesOnlyKin_122 n79 q15.2) else bnd (h_R q15.2 1 l0 3) (fun r16 => gd (h_K q15.2 5 r16) <| bnd (FX6_at r16 l1 (nI 2) q15.2) (fun q17 => gd (h_K q17.2 1 l0) <| bnd (FX1_isOne l0 q17.1 q17.2) (fun q18 => if q18.1 = nI 0 then (FX1_namesOnlyKin_122 n79 q18.2) else (FX1_namesOnlyKin_79 n79 l0 (l1 + (nI 1)) q18.2)) ()) ()) ()) ()) ()) ()) ()) ()) := rfl
set_option maxRecDepth 100000 in
theorem eX1_namesOnlyKin_122 (n79 : Nat) (M : Hx) : FX1_namesOnlyKin_122 n79 M = (if (nI 0) = nI 0 ∨ (nI 0) = nI 1 then some ((nI 0), M) else none) := rfl
def FX7_init (l0 : Nat) (M : Hx) : Option (Unit × Hx) := fX7_init [.ref l0] M
set_option maxRecDepth 100000 in
theorem eX7_init (l0 : Nat) (M : Hx) : FX7_init l0 M = (if ¬ (nI 10) < nI 0 ∧ (nI 10).toNatClampNeg ≤ 100000 ∧ M.length < 1000 then (bnd (h_P (M ++ [.inl (0, (nI 10).toNatClampNeg, .inl (fun _ => nI 0))]) 6 l0 0 (.ref (List.length M))) (fun M1 => if ¬ (nI 10) < nI 0 ∧ (nI 10).toNatClampNeg ≤ 100000 ∧ M1.length < 1000 then (bnd (h_P (M1 ++ [.inl (0, (nI 10).toNatClampNeg, .inl (fun _ => nI 0))]) 6 l0 1 (.ref (List.length M1))) (fun M2 => if ¬ (nI 5) < nI 0 ∧ (nI 5).toNatClampNeg ≤ 100000 ∧ M2.length < 1000 then (bnd (h_P (M2 ++ [.inl (0, (nI 5).toNatClampNeg, .inl (fun _ => nI 0))]) 6 l0 2 (.ref (List.length M2))) (fun M3 => some ((), M3)) ()) else none) ()) else none) ()) else none) := rfl
def FX7_hasEyes (l0 : Int32) (l1 : Int32) (M : Hx) : Option (Int32 × Hx) := fX7_hasEyes [.int l0, .int l1] M
def FX7_hasEyes_16 (s0 : Int32) (M : Hx) : Option (Int32 × Hx) := bX7_hasEyes_16 [none, none] [.int s0] M
def FX7_hasEyes_28  (M : Hx) : Option (Int32 × Hx) := bX7_hasEyes_28 [none, none] [] M
def FX7_hasEyes_33 (s0 : Int32) (M : Hx) : Option (Int32 × Hx) := bX7_hasEyes_33 [none, none] [.int s0] M
set_option maxRecDepth 100000 in
theorem eX7_hasEyes (l0 : Int32) (l1 : Int32) (M : Hx) : FX7_hasEyes l0 l1 M = (if l0 = (nI 1) then (if (nI 6) ≤ l1 then (FX7_hasEyes_16 (nI 0) M) else FX7_hasEyes_16 (nI 1) M) else (if l0 = (nI 3) then (if l1 < (nI 6) then (FX7_hasEyes_33 (nI 0) M) else FX7_hasEyes_28 M) else (FX7_hasEyes_28 M))) := rfl
set_option maxRecDepth 100000 in
theorem eX7_hasEyes_16 (s0 : Int32) (M : Hx) : FX7_hasEyes_16 s0 M = (if s0 = nI 0 ∨ s0 = nI 1 then some (s0, M) else none) := rfl
set_option maxRecDepth 100000 in
theorem eX7_hasEyes_28  (M : Hx) : FX7_hasEyes_28  M = (FX7_hasEyes_33 (nI 1) M) := rfl
set_option maxRecDepth 100000 in
theorem eX7_hasEyes_33 (s0 : Int32) (M : Hx) : FX7_hasEyes_33 s0 M = (if s0 = nI 0 ∨ s0 = nI 1 then some (s0, M) else none) := rfl
def FX7_isNear (l0 : Int32) (l1 : Int32) (M : Hx) : Option (Int32 × Hx) := fX7_isNear [.int l0, .int l1] M
def FX7_isNear_16  (M : Hx) : Option (Int32 × Hx) := bX7_isNear_16 [none, none] [] M
def FX7_isNear_21 (s0 : Int32) (M : Hx) : Option (Int32 × Hx) := bX7_isNear_21 [none, none] [.int s0] M
set_option maxRecDepth 100000 in
theorem eX7_isNear (l0 : Int32) (l1 : Int32) (M : Hx) : FX7_isNear l0 l1 M = (if l1 = (mi 4) then (FX7_isNear_16 M) else if (nI 1) < (o_abs (l0 - l1)) then (FX7_isNear_21 (nI 0) M) else FX7_isNear_16 M) := rfl
set_option maxRecDepth 100000 in
theorem eX7_isNear_16  (M : Hx) : FX7_isNear_16  M = (FX7_isNear_21 (nI 1) M) := rfl
set_option maxRecDepth 100000 in
theorem eX7_isNear_21 (s0 : Int32) (M : Hx) : FX7_isNear_21 s0 M = (if s0 = nI 0 ∨ s0 = nI 1 then some (s0, M) else none) := rfl
def FX7_seerIn (l0 : Nat) (l1 : Nat) (l2 : Int32) (M : Hx) : Option (Int32 × Hx) := fX7_seerIn [.ref l0, .ref l1, .int l2] M
def FX7_seerIn_20  (M : Hx) : Option (Int32 × Hx) := bX7_seerIn_20 [none, none, none, none, none] [] M
def FX7_seerIn_41 (l0 : Nat) (l2 : Int32) (l3 : Int32) (s0 : Int32) (M : Hx) : Option (Int32 × Hx) := bX7_seerIn_41 [some (.ref l0), none, some (.int l2), some (.int l3), none] [.int s0] M
def FX7_seerIn_68  (M : Hx) : Option (Int32 × Hx) := bX7_seerIn_68 [none, none, none, none, none] [] M
def FX7_seerIn_70 (s0 : Int32) (M : Hx) : Option (Int32 × Hx) := bX7_seerIn_70 [none, none, none, none, none] [.int s0] M
set_option maxRecDepth 100000 in
theorem eX7_seerIn (l0 : Nat) (l1 : Nat) (l2 : Int32) (M : Hx) : FX7_seerIn l0 l1 l2 M = (if l2 < nI 0 then (FX7_seerIn_20 M) else bnd (h_L M l1) (fun x1 => if x1 ≤ l2 then (FX7_seerIn_20 M) else bnd (h_A M 0 l1 l2) (fun x2 => gd (h_K M 1 l0) <| bnd (FX1_isOne l0 x2 M) (fun q3 => if q3.1 = nI 0 then (FX7_seerIn_20 q3.2) else (bnd (h_A q3.2 0 l1 l2) (fun x4 => if l2 = nI 0 then (FX7_seerIn_41 l0 l2 x4 (mi 4) q3.2) else (bnd (h_A q3.2 0 l1 (l2 - (nI 1))) (fun x5 => FX7_seerIn_41 l0 l2 x4 x5 q3.2) ())) ())) ()) ()) ()) := rfl
set_option maxRecDepth 100000 in
theorem eX7_seerIn_20  (M : Hx) : FX7_seerIn_20  M = (some ((mi 4), M)) := rfl
set_option maxRecDepth 100000 in
theorem eX7_seerIn_41 (l0 : Nat) (l2 : Int32) (l3 : Int32) (s0 : Int32) (M : Hx) : FX7_seerIn_41 l0 l2 l3 s0 M = (gd (h_K M 1 l0) <| bnd (FX1_kindOf l0 l3 M) (fun q6 => bnd (FX7_hasEyes q6.1 l2 q6.2) (fun q7 => if q7.1 = nI 0 then (FX7_seerIn_68 q7.2) else bnd (FX7_isNear l3 s0 q7.2) (fun q8 => if q8.1 = nI 0 then (FX7_seerIn_68 q8.2) else FX7_seerIn_70 l3 q8.2) ()) ()) ()) := rfl
set_option maxRecDepth 100000 in
theorem eX7_seerIn_68  (M : Hx) : FX7_seerIn_68  M = (FX7_seerIn_70 (mi 4) M) := rfl
set_option maxRecDepth 100000 in
theorem eX7_seerIn_70 (s0 : Int32) (M : Hx) : FX7_seerIn_70 s0 M = (some (s0, M)) := rfl
