def FJ6_bitCount_0f7a4 (l0 : Int32) (M : Hx) : Option (Int32 × Hx) := fJ6_bitCount_0f7a4 [.int l0] M
set_option maxRecDepth 100000 in
theorem eJ6_bitCount_0f7a4 (l0 : Int32) (M : Hx) : FJ6_bitCount_0f7a4 l0 M = (some (((((((((l0 - ((o_ushr l0 (1 : Int32)) &&& (1431655765 : Int32))) &&& (858993459 : Int32)) + ((o_ushr (l0 - ((o_ushr l0 (1 : Int32)) &&& (1431655765 : Int32))) (2 : Int32)) &&& (858993459 : Int32))) + (o_ushr (((l0 - ((o_ushr l0 (1 : Int32)) &&& (1431655765 : Int32))) &&& (858993459 : Int32)) + ((o_ushr (l0 - ((o_ushr l0 (1 : Int32)) &&& (1431655765 : Int32))) (2 : Int32)) &&& (858993459 : Int32))) (4 : Int32))) &&& (252645135 : Int32)) + (o_ushr (((((l0 - ((o_ushr l0 (1 : Int32)) &&& (1431655765 : Int32))) &&& (858993459 : Int32)) + ((o_ushr (l0 - ((o_ushr l0 (1 : Int32)) &&& (1431655765 : Int32))) (2 : Int32)) &&& (858993459 : Int32))) + (o_ushr (((l0 - ((o_ushr l0 (1 : Int32)) &&& (1431655765 : Int32))) &&& (858993459 : Int32)) + ((o_ushr (l0 - ((o_ushr l0 (1 : Int32)) &&& (1431655765 : Int32))) (2 : Int32)) &&& (858993459 : Int32))) (4 : Int32))) &&& (252645135 : Int32)) (8 : Int32))) + (o_ushr ((((((l0 - ((o_ushr l0 (1 : Int32)) &&& (1431655765 : Int32))) &&& (858993459 : Int32)) + ((o_ushr (l0 - ((o_ushr l0 (1 : Int32)) &&& (1431655765 : Int32))) (2 : Int32)) &&& (858993459 : Int32))) + (o_ushr (((l0 - ((o_ushr l0 (1 : Int32)) &&& (1431655765 : Int32))) &&& (858993459 : Int32)) + ((o_ushr (l0 - ((o_ushr l0 (1 : Int32)) &&& (1431655765 : Int32))) (2 : Int32)) &&& (858993459 : Int32))) (4 : Int32))) &&& (252645135 : Int32)) + (o_ushr (((((l0 - ((o_ushr l0 (1 : Int32)) &&& (1431655765 : Int32))) &&& (858993459 : Int32)) + ((o_ushr (l0 - ((o_ushr l0 (1 : Int32)) &&& (1431655765 : Int32))) (2 : Int32)) &&& (858993459 : Int32))) + (o_ushr (((l0 - ((o_ushr l0 (1 : Int32)) &&& (1431655765 : Int32))) &&& (858993459 : Int32)) + ((o_ushr (l0 - ((o_ushr l0 (1 : Int32)) &&& (1431655765 : Int32))) (2 : Int32)) &&& (858993459 : Int32))) (4 : Int32))) &&& (252645135 : Int32)) (8 : Int32))) (16 : Int32))) &&& (63 : Int32)), M)) := rfl
def FJ0_coder_7d493 (l0 : Nat) (M : Hx) : Option (Int32 × Hx) := fJ0_coder_7d493 [.ref l0] M
def FJ0_coder_7d493_14 (s0 : Int32) (M : Hx) : Option (Int32 × Hx) := bJ0_coder_7d493_14 [none] [.int s0] M
set_option maxRecDepth 100000 in
theorem eJ0_coder_7d493 (l0 : Nat) (M : Hx) : FJ0_coder_7d493 l0 M = (if (1 : Int32) = 0 then (FJ0_coder_7d493_14 (1 : Int32) M) else if 1000 ≤ l0 ∧ l0 < 1009 then (FJ0_coder_7d493_14 (0 : Int32) M) else none) := rfl
set_option maxRecDepth 100000 in
theorem eJ0_coder_7d493_14 (s0 : Int32) (M : Hx) : FJ0_coder_7d493_14 s0 M = (if narrow .byte (.int s0) = .int s0 then some (s0, M) else none) := rfl
def FJ0_length_8abf5 (l0 : Nat) (M : Hx) : Option (Int32 × Hx) := fJ0_length_8abf5 [.ref l0] M
set_option maxRecDepth 100000 in
theorem eJ0_length_8abf5 (l0 : Nat) (M : Hx) : FJ0_length_8abf5 l0 M = (if 1000 ≤ l0 ∧ l0 < 1009 then (if 1010 ≤ (l0 + 10) ∧ (l0 + 10) < 1019 then (gd (decide (1000 ≤ l0 ∧ l0 < 1009)) <| (FJ0_coder_7d493 l0 M).bind fun q1 => some (((Int32.ofNat (ex_len.getD ((l0 + 10) - 1010) 0)) >>> (q1.1 &&& 31)), q1.2)) else none) else none) := rfl
def FJ0_isLatin1_aae02 (l0 : Nat) (M : Hx) : Option (Int32 × Hx) := fJ0_isLatin1_aae02 [.ref l0] M
def FJ0_isLatin1_aae02_17  (M : Hx) : Option (Int32 × Hx) := bJ0_isLatin1_aae02_17 [none] [] M
def FJ0_isLatin1_aae02_18 (s0 : Int32) (M : Hx) : Option (Int32 × Hx) := bJ0_isLatin1_aae02_18 [none] [.int s0] M
set_option maxRecDepth 100000 in
theorem eJ0_isLatin1_aae02 (l0 : Nat) (M : Hx) : FJ0_isLatin1_aae02 l0 M = (if (1 : Int32) = 0 then (FJ0_isLatin1_aae02_17 M) else if 1000 ≤ l0 ∧ l0 < 1009 then (if (0 : Int32) = 0 then (FJ0_isLatin1_aae02_18 (1 : Int32) M) else (FJ0_isLatin1_aae02_17 M)) else none) := rfl
set_option maxRecDepth 100000 in
theorem eJ0_isLatin1_aae02_17  (M : Hx) : FJ0_isLatin1_aae02_17  M = (FJ0_isLatin1_aae02_18 (0 : Int32) M) := rfl
set_option maxRecDepth 100000 in
theorem eJ0_isLatin1_aae02_18 (s0 : Int32) (M : Hx) : FJ0_isLatin1_aae02_18 s0 M = (if s0 = 0 ∨ s0 = 1 then some (s0, M) else none) := rfl
def FJ3_checkIndex_8e157 (l0 : Int32) (l1 : Int32) (M : Hx) : Option (Int32 × Hx) := fJ3_checkIndex_8e157 [.int l0, .int l1, .retAddr 0] M
set_option maxRecDepth 100000 in
theorem eJ3_checkIndex_8e157 (l0 : Int32) (l1 : Int32) (M : Hx) : FJ3_checkIndex_8e157 l0 l1 M = (if l0 < 0 then (none) else if l0 < l1 then (some (l0, M)) else none) := rfl
def FJ0_checkIndex_df160 (l0 : Int32) (l1 : Int32) (M : Hx) : Option (Unit × Hx) := fJ0_checkIndex_df160 [.int l0, .int l1] M
set_option maxRecDepth 100000 in
theorem eJ0_checkIndex_df160 (l0 : Int32) (l1 : Int32) (M : Hx) : FJ0_checkIndex_df160 l0 l1 M = ((FJ3_checkIndex_8e157 l0 l1 M).bind fun q1 => some ((), q1.2)) := rfl
def FJ1_charAt_3b067 (l0 : Nat) (l1 : Int32) (M : Hx) : Option (Int32 × Hx) := fJ1_charAt_3b067 [.ref l0, .int l1] M
set_option maxRecDepth 100000 in
theorem eJ1_charAt_3b067 (l0 : Nat) (l1 : Int32) (M : Hx) : FJ1_charAt_3b067 l0 l1 M = (if 1010 ≤ l0 ∧ l0 < 1019 then ((FJ0_checkIndex_df160 l1 (Int32.ofNat (ex_len.getD (l0 - 1010) 0)) M).bind fun q1 => if 1010 ≤ l0 ∧ l0 < 1019 ∧ ¬ l1 < 0 ∧ l1.toNatClampNeg < ex_len.getD (l0 - 1010) 0 then (if narrow .char (.int (o_i2c (((ex_byt.getD (l0 - 1010) []).getD l1.toNatClampNeg 0) &&& (255 : Int32)))) = .int (o_i2c (((ex_byt.getD (l0 - 1010) []).getD l1.toNatClampNeg 0) &&& (255 : Int32))) then some ((o_i2c (((ex_byt.getD (l0 - 1010) []).getD l1.toNatClampNeg 0) &&& (255 : Int32))), q1.2) else none) else none) else none) := rfl
def FJ0_charAt_5068e (l0 : Nat) (l1 : Int32) (M : Hx) : Option (Int32 × Hx) := fJ0_charAt_5068e [.ref l0, .int l1] M
set_option maxRecDepth 100000 in
theorem eJ0_charAt_5068e (l0 : Nat) (l1 : Int32) (M : Hx) : FJ0_charAt_5068e l0 l1 M = (gd (decide (1000 ≤ l0 ∧ l0 < 1009)) <| (FJ0_isLatin1_aae02 l0 M).bind fun q1 => if q1.1 = 0 then (none) else if 1000 ≤ l0 ∧ l0 < 1009 then ((FJ1_charAt_3b067 (l0 + 10) l1 q1.2).bind fun q2 => if narrow .char (.int q2.1) = .int q2.1 then some (q2.1, q2.2) else none) else none) := rfl
def FX6_init (l0 : Nat) (l1 : Int32) (l2 : Int32) (M : Hx) : Option (Unit × Hx) := fX6_init [.ref l0, .int l1, .int l2] M
set_option maxRecDepth 100000 in
theorem eX6_init (l0 : Nat) (l1 : Int32) (l2 : Int32) (M : Hx) : FX6_init l0 l1 l2 M = ((h_P M 5 l0 0 (.int (o_max (0 : Int32) l1))).bind fun M1 => (h_P M1 5 l0 1 (.int (o_max (0 : Int32) l2))).bind fun M2 => (h_I M2 5 l0 0).bind fun x3 => (h_I M2 5 l0 1).bind fun x4 => if ¬ (x3 * x4) < 0 ∧ (x3 * x4).toNatClampNeg ≤ 100000 ∧ M2.length < 1000 then ((h_P (M2 ++ [.inl (0, (x3 * x4).toNatClampNeg, .inl (fun _ => 0))]) 5 l0 2 (.ref (List.length M2))).bind fun M5 => some ((), M5)) else none) := rfl
def FX6_has (l0 : Nat) (l1 : Int32) (M : Hx) : Option (Int32 × Hx) := fX6_has [.ref l0, .int l1] M
def FX6_has_16  (M : Hx) : Option (Int32 × Hx) := bX6_has_16 [none, none] [] M
def FX6_has_17 (s0 : Int32) (M : Hx) : Option (Int32 × Hx) := bX6_has_17 [none, none] [.int s0] M
set_option maxRecDepth 100000 in
theorem eX6_has (l0 : Nat) (l1 : Int32) (M : Hx) : FX6_has l0 l1 M = (if l1 < 0 then (FX6_has_16 M) else (h_I M 5 l0 3).bind fun x1 => if x1 ≤ l1 then (FX6_has_16 M) else FX6_has_17 (1 : Int32) M) := rfl
set_option maxRecDepth 100000 in
theorem eX6_has_16  (M : Hx) : FX6_has_16  M = (FX6_has_17 (0 : Int32) M) := rfl
set_option maxRecDepth 100000 in
theorem eX6_has_17 (s0 : Int32) (M : Hx) : FX6_has_17 s0 M = (if s0 = 0 ∨ s0 = 1 then some (s0, M) else none) := rfl
def FX6_at (l0 : Nat) (l1 : Int32) (l2 : Int32) (M : Hx) : Option (Int32 × Hx) := fX6_at [.ref l0, .int l1, .int l2] M
def FX6_at_28 (l0 : Nat) (l1 : Int32) (l2 : Int32) (M : Hx) : Option (Int32 × Hx) := bX6_at_28 [some (.ref l0), some (.int l1), some (.int l2), none] [] M
def FX6_at_29 (l0 : Nat) (l1 : Int32) (l2 : Int32) (s0 : Int32) (M : Hx) : Option (Int32 × Hx) := bX6_at_29 [some (.ref l0), some (.int l1), some (.int l2), none] [.int s0] M
def FX6_at_51 (s0 : Int32) (M : Hx) : Option (Int32 × Hx) := bX6_at_51 [none, none, none, none] [.int s0] M
set_option maxRecDepth 100000 in
theorem eX6_at (l0 : Nat) (l1 : Int32) (l2 : Int32) (M : Hx) : FX6_at l0 l1 l2 M = (if l1 < 0 then (FX6_at_28 l0 l1 l2 M) else (h_I M 5 l0 3).bind fun x1 => if x1 ≤ l1 then (FX6_at_28 l0 l1 l2 M) else if l2 < 0 then (FX6_at_28 l0 l1 l2 M) else (h_I M 5 l0 0).bind fun x2 => if x2 ≤ l2 then (FX6_at_28 l0 l1 l2 M) else FX6_at_29 l0 l1 l2 (1 : Int32) M) := rfl
set_option maxRecDepth 100000 in
theorem eX6_at_28 (l0 : Nat) (l1 : Int32) (l2 : Int32) (M : Hx) : FX6_at_28 l0 l1 l2 M = (FX6_at_29 l0 l1 l2 (0 : Int32) M) := rfl
set_option maxRecDepth 100000 in
theorem eX6_at_29 (l0 : Nat) (l1 : Int32) (l2 : Int32) (s0 : Int32) (M : Hx) : FX6_at_29 l0 l1 l2 s0 M = (if s0 = 0 then (FX6_at_51 ((-1) : Int32) M) else (h_R M 5 l0 2).bind fun r3 => (h_I M 5 l0 0).bind fun x4 => (h_A M 0 r3 ((l1 * x4) + l2)).bind fun x5 => FX6_at_51 x5 M) := rfl
set_option maxRecDepth 100000 in
theorem eX6_at_51 (s0 : Int32) (M : Hx) : FX6_at_51 s0 M = (some (s0, M)) := rfl
def FX6_put (l0 : Nat) (l1 : Int32) (l2 : Int32) (l3 : Int32) (M : Hx) : Option (Unit × Hx) := fX6_put [.ref l0, .int l1, .int l2, .int l3] M
def FX6_put_34  (M : Hx) : Option (Unit × Hx) := bX6_put_34 [none, none, none, none] [] M
set_option maxRecDepth 100000 in
theorem eX6_put (l0 : Nat) (l1 : Int32) (l2 : Int32) (l3 : Int32) (M : Hx) : FX6_put l0 l1 l2 l3 M = (gd (h_K M 5 l0) <| (FX6_has l0 l1 M).bind fun q1 => if q1.1 = 0 then (FX6_put_34 q1.2) else if l2 < 0 then (FX6_put_34 q1.2) else (h_I q1.2 5 l0 0).bind fun x2 => if x2 ≤ l2 then (FX6_put_34 q1.2) else (h_R q1.2 5 l0 2).bind fun r3 => (h_I q1.2 5 l0 0).bind fun x4 => (h_S q1.2 0 r3 ((l1 * x4) + l2) l3).bind fun M5 => FX6_put_34 M5) := rfl
set_option maxRecDepth 100000 in
theorem eX6_put_34  (M : Hx) : FX6_put_34  M = (some ((), M)) := rfl
def FX6_add (l0 : Nat) (l1 : Int32) (l2 : Int32) (l3 : Int32) (l4 : Int32) (M : Hx) : Option (Int32 × Hx) := fX6_add [.ref l0, .int l1, .int l2, .int l3, .int l4] M
set_option maxRecDepth 100000 in
theorem eX6_add (l0 : Nat) (l1 : Int32) (l2 : Int32) (l3 : Int32) (l4 : Int32) (M : Hx) : FX6_add l0 l1 l2 l3 l4 M = ((h_I M 5 l0 3).bind fun x1 => (h_I M 5 l0 1).bind fun x2 => if x1 < x2 then ((h_I M 5 l0 3).bind fun x3 => (h_P M 5 l0 3 (.int (x3 + (1 : Int32)))).bind fun M4 => (h_I M4 5 l0 3).bind fun x5 => gd (h_K M4 5 l0) <| (FX6_put l0 (x5 - (1 : Int32)) (0 : Int32) l1 M4).bind fun q6 => (h_I q6.2 5 l0 3).bind fun x7 => gd (h_K q6.2 5 l0) <| (FX6_put l0 (x7 - (1 : Int32)) (1 : Int32) l2 q6.2).bind fun q8 => (h_I q8.2 5 l0 3).bind fun x9 => gd (h_K q8.2 5 l0) <| (FX6_put l0 (x9 - (1 : Int32)) (2 : Int32) l3 q8.2).bind fun q10 => (h_I q10.2 5 l0 3).bind fun x11 => gd (h_K q10.2 5 l0) <| (FX6_put l0 (x11 - (1 : Int32)) (3 : Int32) l4 q10.2).bind fun q12 => (h_I q12.2 5 l0 3).bind fun x13 => some (x13, q12.2)) else some (((-3) : Int32), M)) := rfl
def FX6_cutTo (l0 : Nat) (l1 : Int32) (M : Hx) : Option (Int32 × Hx) := fX6_cutTo [.ref l0, .int l1] M
def FX6_cutTo_12  (M : Hx) : Option (Int32 × Hx) := bX6_cutTo_12 [none, none, none] [] M
set_option maxRecDepth 100000 in
theorem eX6_cutTo (l0 : Nat) (l1 : Int32) (M : Hx) : FX6_cutTo l0 l1 M = (if l1 < 0 then (FX6_cutTo_12 M) else (h_I M 5 l0 3).bind fun x1 => if l1 ≤ x1 then ((h_I M 5 l0 3).bind fun x2 => (h_P M 5 l0 3 (.int l1)).bind fun M3 => some (x2, M3)) else FX6_cutTo_12 M) := rfl
set_option maxRecDepth 100000 in
theorem eX6_cutTo_12  (M : Hx) : FX6_cutTo_12  M = (some (((-1) : Int32), M)) := rfl
def FX6_copyFrom (l0 : Nat) (l1 : Nat) (M : Hx) : Option (Unit × Hx) := fX6_copyFrom [.ref l0, .ref l1] M
set_option maxRecDepth 100000 in
theorem eX6_copyFrom (l0 : Nat) (l1 : Nat) (M : Hx) : FX6_copyFrom l0 l1 M = ((h_R M 5 l1 2).bind fun r1 => (h_R M 5 l0 2).bind fun r2 => (h_R M 5 l0 2).bind fun r3 => (h_L M r3).bind fun x4 => (h_R M 5 l1 2).bind fun r5 => (h_L M r5).bind fun x6 => (h_C M r1 r2 (0 : Int32) (0 : Int32) (o_min x4 x6)).bind fun M7 => (h_I M7 5 l0 1).bind fun x8 => (h_I M7 5 l1 3).bind fun x9 => (h_P M7 5 l0 3 (.int (o_min x8 x9))).bind fun M10 => some ((), M10)) := rfl
def FX6_isLike (l0 : Nat) (l1 : Nat) (M : Hx) : Option (Int32 × Hx) := fX6_isLike [.ref l0, .ref l1] M
def FX6_isLike_22  (M : Hx) : Option (Int32 × Hx) := bX6_isLike_22 [none, none, none] [] M
def FX6_isLike_26 (n26 : Nat) (l0 : Nat) (l1 : Nat) (l2 : Int32) (M : Hx) : Option (Int32 × Hx) := (o_lp (bX6_isLike_26) n26) [some (.ref l0), some (.ref l1), some (.int l2)] [] M
set_option maxRecDepth 100000 in
theorem eX6_isLike (l0 : Nat) (l1 : Nat) (M : Hx) : FX6_isLike l0 l1 M = ((h_I M 5 l0 3).bind fun x1 => (h_I M 5 l1 3).bind fun x2 => if x1 = x2 then ((h_I M 5 l0 0).bind fun x3 => (h_I M 5 l1 0).bind fun x4 => if x3 = x4 then (FX6_isLike_26 fu l0 l1 (0 : Int32) M) else FX6_isLike_22 M) else (FX6_isLike_22 M)) := rfl
set_option maxRecDepth 100000 in
theorem eX6_isLike_22  (M : Hx) : FX6_isLike_22  M = (if (0 : Int32) = 0 ∨ (0 : Int32) = 1 then some ((0 : Int32), M) else none) := rfl
set_option maxRecDepth 100000 in
theorem eX6_isLike_26 (n26 : Nat) (l0 : Nat) (l1 : Nat) (l2 : Int32) (M : Hx) : FX6_isLike_26 (n26 + 1) l0 l1 l2 M = ((h_I M 5 l0 3).bind fun x5 => (h_I M 5 l0 0).bind fun x6 => if (x5 * x6) ≤ l2 then (if (1 : Int32) = 0 ∨ (1 : Int32) = 1 then some ((1 : Int32), M) else none) else (h_R M 5 l0 2).bind fun r7 => (h_A M 0 r7 l2).bind fun x8 => (h_R M 5 l1 2).bind fun r9 => (h_A M 0 r9 l2).bind fun x10 => if x8 = x10 then (FX6_isLike_26 n26 l0 l1 (l2 + 1) M) else if (0 : Int32) = 0 ∨ (0 : Int32) = 1 then some ((0 : Int32), M) else none) := rfl
def FX2_shareMet (l0 : Int32) (l1 : Int32) (M : Hx) : Option (Int64 × Hx) := fX2_shareMet [.int l0, .int l1] M
def FX2_shareMet_7 (n7 : Nat) (l0 : Int32) (l1 : Int32) (l2 : Int64) (l4 : Int32) (M : Hx) : Option (Int64 × Hx) := (o_lp (bX2_shareMet_7) n7) [some (.int l0), some (.int l1), some (.long l2), none, some (.int l4)] [] M
def FX2_shareMet_34 (l2 : Int64) (M : Hx) : Option (Int64 × Hx) := bX2_shareMet_34 [none, none, some (.long l2), none, none] [] M
set_option maxRecDepth 100000 in
theorem eX2_shareMet (l0 : Int32) (l1 : Int32) (M : Hx) : FX2_shareMet l0 l1 M = (FX2_shareMet_7 fu l0 l1 (100000 : Int64) (0 : Int32) M) := rfl
set_option maxRecDepth 100000 in
theorem eX2_shareMet_7 (n7 : Nat) (l0 : Int32) (l1 : Int32) (l2 : Int64) (l4 : Int32) (M : Hx) : FX2_shareMet_7 (n7 + 1) l0 l1 l2 l4 M = (if l1 ≤ l4 then (FX2_shareMet_34 l2 M) else if (5 : Int32) ≤ l4 then (FX2_shareMet_34 l2 M) else FX2_shareMet_7 n7 l0 l1 ((l2 / (10 : Int64)) * l0.toInt64) (l4 + 1) M) := rfl
set_option maxRecDepth 100000 in
theorem eX2_shareMet_34 (l2 : Int64) (M : Hx) : FX2_shareMet_34 l2 M = (some (((100000 : Int64) - l2), M)) := rfl
def FX2_greatestCommon (l0 : Int64) (l2 : Int64) (M : Hx) : Option (Int64 × Hx) := fX2_greatestCommon [.long l0, .long l2] M
def FX2_greatestCommon_9 (n9 : Nat) (l4 : Int64) (l6 : Int64) (l8 : Int32) (M : Hx) : Option (Int64 × Hx) := (o_lp (bX2_greatestCommon_9) n9) [none, none, none, none, some (.long l4), none, some (.long l6), none, some (.int l8), none, none] [] M
def FX2_greatestCommon_44 (l6 : Int64) (M : Hx) : Option (Int64 × Hx) := bX2_greatestCommon_44 [none, none, none, none, none, none, some (.long l6), none, none, none, none] [] M
set_option maxRecDepth 100000 in
theorem eX2_greatestCommon (l0 : Int64) (l2 : Int64) (M : Hx) : FX2_greatestCommon l0 l2 M = (FX2_greatestCommon_9 fu l0 l2 (0 : Int32) M) := rfl
set_option maxRecDepth 100000 in
theorem eX2_greatestCommon_9 (n9 : Nat) (l4 : Int64) (l6 : Int64) (l8 : Int32) (M : Hx) : FX2_greatestCommon_9 (n9 + 1) l4 l6 l8 M = (if (100 : Int32) ≤ l8 then (FX2_greatestCommon_44 l6 M) else if (lg_cmp l4 (0 : Int64)) = 0 then (FX2_greatestCommon_44 l6 M) else if l4 = 0 then none else FX2_greatestCommon_9 n9 (l6 - l6 / l4 * l4) l4 (l8 + 1) M) := rfl
set_option maxRecDepth 100000 in
theorem eX2_greatestCommon_44 (l6 : Int64) (M : Hx) : FX2_greatestCommon_44 l6 M = (some (l6, M)) := rfl
def FX2_part (l0 : Int64) (l2 : Int32) (M : Hx) : Option (Int64 × Hx) := fX2_part [.long l0, .int l2] M
def FX2_part_29 (l3 : Int64) (s0 : Int64) (M : Hx) : Option (Int64 × Hx) := bX2_part_29 [none, none, none, some (.long l3), none] [.long s0] M
set_option maxRecDepth 100000 in
theorem eX2_part (l0 : Int64) (l2 : Int32) (M : Hx) : FX2_part l0 l2 M = ((FX2_greatestCommon l0 (100000 : Int64) M).bind fun q1 => if 0 ≤ (lg_cmp q1.1 (1 : Int64)) then (if l2 = 0 then (FX2_part_29 q1.1 l0 q1.2) else (FX2_part_29 q1.1 (100000 : Int64) q1.2)) else some (((-1) : Int64), q1.2)) := rfl
set_option maxRecDepth 100000 in
theorem eX2_part_29 (l3 : Int64) (s0 : Int64) (M : Hx) : FX2_part_29 l3 s0 M = (if l3 = 0 then none else some ((s0 / l3), M)) := rfl
def FX3_init (l0 : Nat) (M : Hx) : Option (Unit × Hx) := fX3_init [.ref l0] M
set_option maxRecDepth 100000 in
theorem eX3_init (l0 : Nat) (M : Hx) : FX3_init l0 M = (if ¬ (40 : Int32) < 0 ∧ (40 : Int32).toNatClampNeg ≤ 100000 ∧ M.length < 1000 then ((h_P (M ++ [.inl (0, (40 : Int32).toNatClampNeg, .inl (fun _ => 0))]) 2 l0 0 (.ref (List.length M))).bind fun M1 => (h_P M1 2 l0 2 (.int ((-4) : Int32))).bind fun M2 => some ((), M2)) else none) := rfl
def FX3_makeNew (l0 : Nat) (l1 : Int32) (l2 : Int32) (M : Hx) : Option (Unit × Hx) := fX3_makeNew [.ref l0, .int l1, .int l2] M
def FX3_makeNew_17 (n17 : Nat) (l0 : Nat) (l3 : Int32) (M : Hx) : Option (Unit × Hx) := (o_lp (bX3_makeNew_17) n17) [some (.ref l0), none, none, some (.int l3)] [] M
set_option maxRecDepth 100000 in
theorem eX3_makeNew (l0 : Nat) (l1 : Int32) (l2 : Int32) (M : Hx) : FX3_makeNew l0 l1 l2 M = ((h_P M 2 l0 1 (.int l1)).bind fun M1 => (h_P M1 2 l0 2 (.int (o_min l2 (40 : Int32)))).bind fun M2 => FX3_makeNew_17 fu l0 (0 : Int32) M2) := rfl
set_option maxRecDepth 100000 in
theorem eX3_makeNew_17 (n17 : Nat) (l0 : Nat) (l3 : Int32) (M : Hx) : FX3_makeNew_17 (n17 + 1) l0 l3 M = (if (40 : Int32) ≤ l3 then (some ((), M)) else (h_R M 2 l0 0).bind fun r3 => (h_S M 0 r3 l3 (0 : Int32)).bind fun M4 => FX3_makeNew_17 n17 l0 (l3 + 1) M4) := rfl
def FX3_faultAt (l0 : Nat) (l1 : Int32) (M : Hx) : Option (Int32 × Hx) := fX3_faultAt [.ref l0, .int l1] M
def FX3_faultAt_23  (M : Hx) : Option (Int32 × Hx) := bX3_faultAt_23 [none, none] [] M
def FX3_faultAt_28 (s0 : Int32) (M : Hx) : Option (Int32 × Hx) := bX3_faultAt_28 [none, none] [.int s0] M
set_option maxRecDepth 100000 in
theorem eX3_faultAt (l0 : Nat) (l1 : Int32) (M : Hx) : FX3_faultAt l0 l1 M = ((h_I M 2 l0 2).bind fun x1 => if x1 = ((-4) : Int32) then (some ((1 : Int32), M)) else (if l1 < 0 then (FX3_faultAt_23 M) else (h_I M 2 l0 2).bind fun x2 => if l1 < x2 then (FX3_faultAt_28 (0 : Int32) M) else FX3_faultAt_23 M)) := rfl
set_option maxRecDepth 100000 in
theorem eX3_faultAt_23  (M : Hx) : FX3_faultAt_23  M = (FX3_faultAt_28 (2 : Int32) M) := rfl
set_option maxRecDepth 100000 in
theorem eX3_faultAt_28 (s0 : Int32) (M : Hx) : FX3_faultAt_28 s0 M = (some (s0, M)) := rfl
def FX3_faultOfPair (l0 : Nat) (l1 : Int32) (l2 : Int32) (M : Hx) : Option (Int32 × Hx) := fX3_faultOfPair [.ref l0, .int l1, .int l2] M
def FX3_faultOfPair_19 (l0 : Nat) (l2 : Int32) (M : Hx) : Option (Int32 × Hx) := bX3_faultOfPair_19 [some (.ref l0), none, some (.int l2), none] [] M
def FX3_faultOfPair_40 (s0 : Int32) (M : Hx) : Option (Int32 × Hx) := bX3_faultOfPair_40 [none, none, none, none] [.int s0] M
set_option maxRecDepth 100000 in
theorem eX3_faultOfPair (l0 : Nat) (l1 : Int32) (l2 : Int32) (M : Hx) : FX3_faultOfPair l0 l1 l2 M = ((h_I M 2 l0 2).bind fun x1 => if x1 = ((-4) : Int32) then (FX3_faultOfPair_19 l0 l2 M) else (h_I M 2 l0 1).bind fun x2 => if x2 = l1 then (FX3_faultOfPair_19 l0 l2 M) else some ((3 : Int32), M)) := rfl
set_option maxRecDepth 100000 in
theorem eX3_faultOfPair_19 (l0 : Nat) (l2 : Int32) (M : Hx) : FX3_faultOfPair_19 l0 l2 M = (gd (h_K M 2 l0) <| (FX3_faultAt l0 l2 M).bind fun q3 => if q3.1 = 0 then (gd (h_K q3.2 2 l0) <| (FX3_faultAt l0 (l2 + (1 : Int32)) q3.2).bind fun q4 => FX3_faultOfPair_40 q4.1 q4.2) else FX3_faultOfPair_40 q3.1 q3.2) := rfl
set_option maxRecDepth 100000 in
theorem eX3_faultOfPair_40 (s0 : Int32) (M : Hx) : FX3_faultOfPair_40 s0 M = (some (s0, M)) := rfl
def FX3_cellAt (l0 : Nat) (l1 : Int32) (M : Hx) : Option (Int32 × Hx) := fX3_cellAt [.ref l0, .int l1] M
def FX3_cellAt_21  (M : Hx) : Option (Int32 × Hx) := bX3_cellAt_21 [none, none] [] M
def FX3_cellAt_22 (s0 : Int32) (M : Hx) : Option (Int32 × Hx) := bX3_cellAt_22 [none, none] [.int s0] M
set_option maxRecDepth 100000 in
theorem eX3_cellAt (l0 : Nat) (l1 : Int32) (M : Hx) : FX3_cellAt l0 l1 M = (if l1 < 0 then (FX3_cellAt_21 M) else (h_I M 2 l0 2).bind fun x1 => if x1 ≤ l1 then (FX3_cellAt_21 M) else (h_R M 2 l0 0).bind fun r2 => (h_A M 0 r2 l1).bind fun x3 => FX3_cellAt_22 x3 M) := rfl
set_option maxRecDepth 100000 in
theorem eX3_cellAt_21  (M : Hx) : FX3_cellAt_21  M = (FX3_cellAt_22 (0 : Int32) M) := rfl
set_option maxRecDepth 100000 in
theorem eX3_cellAt_22 (s0 : Int32) (M : Hx) : FX3_cellAt_22 s0 M = (some (s0, M)) := rfl
def FX3_putCell (l0 : Nat) (l1 : Int32) (l2 : Int32) (M : Hx) : Option (Unit × Hx) := fX3_putCell [.ref l0, .int l1, .int l2] M
def FX3_putCell_43 (s0 : Nat) (s1 : Int32) (s2 : Int32) (M : Hx) : Option (Unit × Hx) := bX3_putCell_43 [none, none, none] [.int s2, .int s1, .ref s0] M
def FX3_putCell_44  (M : Hx) : Option (Unit × Hx) := bX3_putCell_44 [none, none, none] [] M
set_option maxRecDepth 100000 in
theorem eX3_putCell (l0 : Nat) (l1 : Int32) (l2 : Int32) (M : Hx) : FX3_putCell l0 l1 l2 M = (if l1 < 0 then (FX3_putCell_44 M) else (h_I M 2 l0 2).bind fun x1 => if x1 ≤ l1 then (FX3_putCell_44 M) else (h_R M 2 l0 0).bind fun r2 => (h_I M 2 l0 1).bind fun x3 => if x3 = 0 then (FX3_putCell_43 r2 l1 (o_i2b l2) M) else ((h_I M 2 l0 1).bind fun x4 => if x4 = (1 : Int32) then (FX3_putCell_43 r2 l1 (o_i2s l2) M) else (FX3_putCell_43 r2 l1 l2 M))) := rfl
set_option maxRecDepth 100000 in
theorem eX3_putCell_43 (s0 : Nat) (s1 : Int32) (s2 : Int32) (M : Hx) : FX3_putCell_43 s0 s1 s2 M = ((h_S M 0 s0 s1 s2).bind fun M5 => FX3_putCell_44 M5) := rfl
set_option maxRecDepth 100000 in
theorem eX3_putCell_44  (M : Hx) : FX3_putCell_44  M = (some ((), M)) := rfl
def FX1_makeEmpty (l0 : Nat) (M : Hx) : Option (Unit × Hx) := fX1_makeEmpty [.ref l0] M
def FX1_makeEmpty_34 (n34 : Nat) (l0 : Nat) (l1 : Int32) (M : Hx) : Option (Unit × Hx) := (o_lp (bX1_makeEmpty_34) n34) [some (.ref l0), some (.int l1)] [] M
def FX1_makeEmpty_54 (n54 : Nat) (l0 : Nat) (l1 : Int32) (M : Hx) : Option (Unit × Hx) := (o_lp (bX1_makeEmpty_54) n54) [some (.ref l0), some (.int l1)] [] M
set_option maxRecDepth 100000 in
theorem eX1_makeEmpty (l0 : Nat) (M : Hx) : FX1_makeEmpty l0 M = ((h_R M 1 l0 0).bind fun r1 => (h_P M 5 r1 3 (.int (0 : Int32))).bind fun M2 => (h_R M2 1 l0 1).bind fun r3 => (h_P M2 5 r3 3 (.int (0 : Int32))).bind fun M4 => (h_R M4 1 l0 2).bind fun r5 => (h_P M4 5 r5 3 (.int (0 : Int32))).bind fun M6 => (h_R M6 1 l0 3).bind fun r7 => (h_P M6 5 r7 3 (.int (0 : Int32))).bind fun M8 => FX1_makeEmpty_34 fu l0 (0 : Int32) M8) := rfl
set_option maxRecDepth 100000 in
theorem eX1_makeEmpty_34 (n34 : Nat) (l0 : Nat) (l1 : Int32) (M : Hx) : FX1_makeEmpty_34 (n34 + 1) l0 l1 M = (if (3 : Int32) ≤ l1 then (FX1_makeEmpty_54 fu l0 (0 : Int32) M) else (h_R M 1 l0 4).bind fun r9 => (h_S M 0 r9 l1 (0 : Int32)).bind fun M10 => FX1_makeEmpty_34 n34 l0 (l1 + 1) M10) := rfl
set_option maxRecDepth 100000 in
theorem eX1_makeEmpty_54 (n54 : Nat) (l0 : Nat) (l1 : Int32) (M : Hx) : FX1_makeEmpty_54 (n54 + 1) l0 l1 M = (if (10 : Int32) ≤ l1 then (some ((), M)) else (h_R M 1 l0 5).bind fun r11 => (h_S M 0 r11 l1 ((-4) : Int32)).bind fun M12 => FX1_makeEmpty_54 n54 l0 (l1 + 1) M12) := rfl
def FX1_init (l0 : Nat) (M : Hx) : Option (Unit × Hx) := fX1_init [.ref l0] M
set_option maxRecDepth 100000 in
theorem eX1_init (l0 : Nat) (M : Hx) : FX1_init l0 M = (if M.length < 1000 then ((FX6_init (List.length M) (2 : Int32) (5 : Int32) (M ++ [.inr (5, [.int 0, .int 0, .null, .int 0])])).bind fun q2 => (h_P q2.2 1 l0 0 (.ref (List.length M))).bind fun M3 => if M3.length < 1000 then ((FX6_init (List.length M3) (3 : Int32) (4 : Int32) (M3 ++ [.inr (5, [.int 0, .int 0, .null, .int 0])])).bind fun q5 => (h_P q5.2 1 l0 1 (.ref (List.length M3))).bind fun M6 => if M6.length < 1000 then ((FX6_init (List.length M6) (4 : Int32) (5 : Int32) (M6 ++ [.inr (5, [.int 0, .int 0, .null, .int 0])])).bind fun q8 => (h_P q8.2 1 l0 2 (.ref (List.length M6))).bind fun M9 => if M9.length < 1000 then ((FX6_init (List.length M9) (4 : Int32) (4 : Int32) (M9 ++ [.inr (5, [.int 0, .int 0, .null, .int 0])])).bind fun q11 => (h_P q11.2 1 l0 3 (.ref (List.length M9))).bind fun M12 => if ¬ (3 : Int32) < 0 ∧ (3 : Int32).toNatClampNeg ≤ 100000 ∧ M12.length < 1000 then ((h_P (M12 ++ [.inl (0, (3 : Int32).toNatClampNeg, .inl (fun _ => 0))]) 1 l0 4 (.ref (List.length M12))).bind fun M13 => if ¬ (10 : Int32) < 0 ∧ (10 : Int32).toNatClampNeg ≤ 100000 ∧ M13.length < 1000 then ((h_P (M13 ++ [.inl (0, (10 : Int32).toNatClampNeg, .inl (fun _ => 0))]) 1 l0 5 (.ref (List.length M13))).bind fun M14 => gd (h_K M14 1 l0) <| (FX1_makeEmpty l0 M14).bind fun q15 => some ((), q15.2)) else none) else none) else none) else none) else none) else none) := rfl
def FX1_copyFrom (l0 : Nat) (l1 : Nat) (M : Hx) : Option (Unit × Hx) := fX1_copyFrom [.ref l0, .ref l1] M
set_option maxRecDepth 100000 in
theorem eX1_copyFrom (l0 : Nat) (l1 : Nat) (M : Hx) : FX1_copyFrom l0 l1 M = ((h_R M 1 l0 0).bind fun r1 => (h_R M 1 l1 0).bind fun r2 => gd (h_K M 5 r1) <| (FX6_copyFrom r1 r2 M).bind fun q3 => (h_R q3.2 1 l0 1).bind fun r4 => (h_R q3.2 1 l1 1).bind fun r5 => gd (h_K q3.2 5 r4) <| (FX6_copyFrom r4 r5 q3.2).bind fun q6 => (h_R q6.2 1 l0 2).bind fun r7 => (h_R q6.2 1 l1 2).bind fun r8 => gd (h_K q6.2 5 r7) <| (FX6_copyFrom r7 r8 q6.2).bind fun q9 => (h_R q9.2 1 l0 3).bind fun r10 => (h_R q9.2 1 l1 3).bind fun r11 => gd (h_K q9.2 5 r10) <| (FX6_copyFrom r10 r11 q9.2).bind fun q12 => (h_R q12.2 1 l1 4).bind fun r13 => (h_R q12.2 1 l0 4).bind fun r14 => (h_C q12.2 r13 r14 (0 : Int32) (0 : Int32) (3 : Int32)).bind fun M15 => (h_R M15 1 l1 5).bind fun r16 => (h_R M15 1 l0 5).bind fun r17 => (h_C M15 r16 r17 (0 : Int32) (0 : Int32) (10 : Int32)).bind fun M18 => some ((), M18)) := rfl
def FX1_isOne (l0 : Nat) (l1 : Int32) (M : Hx) : Option (Int32 × Hx) := fX1_isOne [.ref l0, .int l1] M
set_option maxRecDepth 100000 in
theorem eX1_isOne (l0 : Nat) (l1 : Int32) (M : Hx) : FX1_isOne l0 l1 M = ((h_R M 1 l0 0).bind fun r1 => gd (h_K M 5 r1) <| (FX6_has r1 l1 M).bind fun q2 => if q2.1 = 0 ∨ q2.1 = 1 then some (q2.1, q2.2) else none) := rfl
def FX1_kindOf (l0 : Nat) (l1 : Int32) (M : Hx) : Option (Int32 × Hx) := fX1_kindOf [.ref l0, .int l1] M
set_option maxRecDepth 100000 in
theorem eX1_kindOf (l0 : Nat) (l1 : Int32) (M : Hx) : FX1_kindOf l0 l1 M = ((h_R M 1 l0 0).bind fun r1 => gd (h_K M 5 r1) <| (FX6_at r1 l1 (0 : Int32) M).bind fun q2 => some (q2.1, q2.2)) := rfl
def FX1_postOf (l0 : Nat) (l1 : Int32) (M : Hx) : Option (Int32 × Hx) := fX1_postOf [.ref l0, .int l1] M
set_option maxRecDepth 100000 in
theorem eX1_postOf (l0 : Nat) (l1 : Int32) (M : Hx) : FX1_postOf l0 l1 M = ((h_R M 1 l0 0).bind fun r1 => gd (h_K M 5 r1) <| (FX6_at r1 l1 (1 : Int32) M).bind fun q2 => some (q2.1, q2.2)) := rfl
def FX1_keepsOf (l0 : Nat) (l1 : Int32) (M : Hx) : Option (Int32 × Hx) := fX1_keepsOf [.ref l0, .int l1] M
def FX1_keepsOf_26  (M : Hx) : Option (Int32 × Hx) := bX1_keepsOf_26 [none, none, none] [] M
def FX1_keepsOf_27 (s0 : Int32) (M : Hx) : Option (Int32 × Hx) := bX1_keepsOf_27 [none, none, none] [.int s0] M
set_option maxRecDepth 100000 in
theorem eX1_keepsOf (l0 : Nat) (l1 : Int32) (M : Hx) : FX1_keepsOf l0 l1 M = (gd (h_K M 1 l0) <| (FX1_kindOf l0 l1 M).bind fun q1 => if q1.1 < 0 then (FX1_keepsOf_26 q1.2) else if 1009 = 1009 then (if (4 : Int32) ≤ q1.1 then (FX1_keepsOf_26 q1.2) else if 1009 = 1009 ∧ ¬ q1.1 < 0 ∧ q1.1.toNatClampNeg < 4 then (FX1_keepsOf_27 (([3, 2, 9, 6] : List Int32).getD q1.1.toNatClampNeg 0) q1.2) else none) else none) := rfl
set_option maxRecDepth 100000 in
theorem eX1_keepsOf_26  (M : Hx) : FX1_keepsOf_26  M = (FX1_keepsOf_27 (0 : Int32) M) := rfl
set_option maxRecDepth 100000 in
theorem eX1_keepsOf_27 (s0 : Int32) (M : Hx) : FX1_keepsOf_27 s0 M = (some (s0, M)) := rfl
def FX1_worthOf (l0 : Nat) (l1 : Int32) (M : Hx) : Option (Int32 × Hx) := fX1_worthOf [.ref l0, .int l1] M
set_option maxRecDepth 100000 in
theorem eX1_worthOf (l0 : Nat) (l1 : Int32) (M : Hx) : FX1_worthOf l0 l1 M = ((h_R M 1 l0 2).bind fun r1 => gd (h_K M 5 r1) <| (FX6_at r1 l1 (3 : Int32) M).bind fun q2 => some (q2.1, q2.2)) := rfl
def FX1_allWorth (l0 : Nat) (M : Hx) : Option (Int32 × Hx) := fX1_allWorth [.ref l0] M
def FX1_allWorth_4 (n4 : Nat) (l0 : Nat) (l1 : Int32) (l2 : Int32) (M : Hx) : Option (Int32 × Hx) := (o_lp (bX1_allWorth_4) n4) [some (.ref l0), some (.int l1), some (.int l2)] [] M
set_option maxRecDepth 100000 in
theorem eX1_allWorth (l0 : Nat) (M : Hx) : FX1_allWorth l0 M = (FX1_allWorth_4 fu l0 (0 : Int32) (0 : Int32) M) := rfl
set_option maxRecDepth 100000 in
theorem eX1_allWorth_4 (n4 : Nat) (l0 : Nat) (l1 : Int32) (l2 : Int32) (M : Hx) : FX1_allWorth_4 (n4 + 1) l0 l1 l2 M = ((h_R M 1 l0 2).bind fun r1 => (h_I M 5 r1 3).bind fun x2 => if x2 ≤ l2 then (some (l1, M)) else gd (h_K M 1 l0) <| (FX1_worthOf l0 l2 M).bind fun q3 => FX1_allWorth_4 n4 l0 (l1 + q3.1) (l2 + 1) q3.2) := rfl
def FX1_hoursHeld (l0 : Nat) (M : Hx) : Option (Int32 × Hx) := fX1_hoursHeld [.ref l0] M
def FX1_hoursHeld_4 (n4 : Nat) (l0 : Nat) (l1 : Int32) (l2 : Int32) (M : Hx) : Option (Int32 × Hx) := (o_lp (bX1_hoursHeld_4) n4) [some (.ref l0), some (.int l1), some (.int l2)] [] M
def FX1_hoursHeld_29 (n4 : Nat) (l0 : Nat) (l2 : Int32) (s0 : Int32) (s1 : Int32) (M : Hx) : Option (Int32 × Hx) := bX1_hoursHeld_29 (o_lp (bX1_hoursHeld_4) n4) [some (.ref l0), none, some (.int l2)] [.int s1, .int s0] M
set_option maxRecDepth 100000 in
theorem eX1_hoursHeld (l0 : Nat) (M : Hx) : FX1_hoursHeld l0 M = (FX1_hoursHeld_4 fu l0 (0 : Int32) (0 : Int32) M) := rfl
set_option maxRecDepth 100000 in
theorem eX1_hoursHeld_4 (n4 : Nat) (l0 : Nat) (l1 : Int32) (l2 : Int32) (M : Hx) : FX1_hoursHeld_4 (n4 + 1) l0 l1 l2 M = (if (10 : Int32) ≤ l2 then (some (l1, M)) else (h_R M 1 l0 5).bind fun r1 => (h_A M 0 r1 l2).bind fun x2 => if x2 = ((-4) : Int32) then (FX1_hoursHeld_29 n4 l0 l2 l1 (0 : Int32) M) else FX1_hoursHeld_29 n4 l0 l2 l1 ((1 : Int32) <<< (l2 &&& 31)) M) := rfl
set_option maxRecDepth 100000 in
theorem eX1_hoursHeld_29 (n4 : Nat) (l0 : Nat) (l2 : Int32) (s0 : Int32) (s1 : Int32) (M : Hx) : FX1_hoursHeld_29 n4 l0 l2 s0 s1 M = (FX1_hoursHeld_4 n4 l0 (s0 ||| s1) (l2 + 1) M) := rfl
def FX1_hoursHeldBy (l0 : Nat) (l1 : Int32) (M : Hx) : Option (Int32 × Hx) := fX1_hoursHeldBy [.ref l0, .int l1] M
def FX1_hoursHeldBy_4 (n4 : Nat) (l0 : Nat) (l1 : Int32) (l2 : Int32) (l3 : Int32) (M : Hx) : Option (Int32 × Hx) := (o_lp (bX1_hoursHeldBy_4) n4) [some (.ref l0), some (.int l1), some (.int l2), some (.int l3)] [] M
def FX1_hoursHeldBy_28 (n4 : Nat) (l0 : Nat) (l1 : Int32) (l3 : Int32) (s0 : Int32) (s1 : Int32) (M : Hx) : Option (Int32 × Hx) := bX1_hoursHeldBy_28 (o_lp (bX1_hoursHeldBy_4) n4) [some (.ref l0), some (.int l1), none, some (.int l3)] [.int s1, .int s0] M
set_option maxRecDepth 100000 in
theorem eX1_hoursHeldBy (l0 : Nat) (l1 : Int32) (M : Hx) : FX1_hoursHeldBy l0 l1 M = (FX1_hoursHeldBy_4 fu l0 l1 (0 : Int32) (0 : Int32) M) := rfl
set_option maxRecDepth 100000 in
theorem eX1_hoursHeldBy_4 (n4 : Nat) (l0 : Nat) (l1 : Int32) (l2 : Int32) (l3 : Int32) (M : Hx) : FX1_hoursHeldBy_4 (n4 + 1) l0 l1 l2 l3 M = (if (10 : Int32) ≤ l3 then (some (l2, M)) else (h_R M 1 l0 5).bind fun r1 => (h_A M 0 r1 l3).bind fun x2 => if x2 = l1 then (FX1_hoursHeldBy_28 n4 l0 l1 l3 l2 ((1 : Int32) <<< (l3 &&& 31)) M) else (FX1_hoursHeldBy_28 n4 l0 l1 l3 l2 (0 : Int32) M)) := rfl
set_option maxRecDepth 100000 in
theorem eX1_hoursHeldBy_28 (n4 : Nat) (l0 : Nat) (l1 : Int32) (l3 : Int32) (s0 : Int32) (s1 : Int32) (M : Hx) : FX1_hoursHeldBy_28 n4 l0 l1 l3 s0 s1 M = (FX1_hoursHeldBy_4 n4 l0 l1 (s0 ||| s1) (l3 + 1) M) := rfl
def FX1_valueBehind (l0 : Nat) (l1 : Int32) (l2 : Int32) (M : Hx) : Option (Int32 × Hx) := fX1_valueBehind [.ref l0, .int l1, .int l2] M
def FX1_valueBehind_18 (l0 : Nat) (l1 : Int32) (l2 : Int32) (M : Hx) : Option (Int32 × Hx) := bX1_valueBehind_18 [some (.ref l0), some (.int l1), some (.int l2), none, none, none, none] [] M
def FX1_valueBehind_19 (l0 : Nat) (l1 : Int32) (l2 : Int32) (s0 : Int32) (M : Hx) : Option (Int32 × Hx) := bX1_valueBehind_19 [some (.ref l0), some (.int l1), some (.int l2), none, none, none, none] [.int s0] M
def FX1_valueBehind_26 (n26 : Nat) (l0 : Nat) (l1 : Int32) (l2 : Int32) (l3 : Int32) (l4 : Int32) (l5 : Int32) (M : Hx) : Option (Int32 × Hx) := (o_lp (bX1_valueBehind_26) n26) [some (.ref l0), some (.int l1), some (.int l2), some (.int l3), some (.int l4), some (.int l5), none] [] M
def FX1_valueBehind_92 (n26 : Nat) (l0 : Nat) (l1 : Int32) (l2 : Int32) (l3 : Int32) (l4 : Int32) (l5 : Int32) (M : Hx) : Option (Int32 × Hx) := bX1_valueBehind_92 (o_lp (bX1_valueBehind_26) n26) [some (.ref l0), some (.int l1), some (.int l2), some (.int l3), some (.int l4), some (.int l5), none] [] M
set_option maxRecDepth 100000 in
theorem eX1_valueBehind (l0 : Nat) (l1 : Int32) (l2 : Int32) (M : Hx) : FX1_valueBehind l0 l1 l2 M = (if l1 < 0 then (FX1_valueBehind_18 l0 l1 l2 M) else if (3 : Int32) ≤ l1 then (FX1_valueBehind_18 l0 l1 l2 M) else (h_R M 1 l0 4).bind fun r1 => (h_A M 0 r1 l1).bind fun x2 => FX1_valueBehind_19 l0 l1 l2 x2 M) := rfl
set_option maxRecDepth 100000 in
theorem eX1_valueBehind_18 (l0 : Nat) (l1 : Int32) (l2 : Int32) (M : Hx) : FX1_valueBehind_18 l0 l1 l2 M = (FX1_valueBehind_19 l0 l1 l2 ((-1) : Int32) M) := rfl
set_option maxRecDepth 100000 in
theorem eX1_valueBehind_19 (l0 : Nat) (l1 : Int32) (l2 : Int32) (s0 : Int32) (M : Hx) : FX1_valueBehind_19 l0 l1 l2 s0 M = (FX1_valueBehind_26 fu l0 l1 l2 s0 (0 : Int32) (0 : Int32) M) := rfl
set_option maxRecDepth 100000 in
theorem eX1_valueBehind_26 (n26 : Nat) (l0 : Nat) (l1 : Int32) (l2 : Int32) (l3 : Int32) (l4 : Int32) (l5 : Int32) (M : Hx) : FX1_valueBehind_26 (n26 + 1) l0 l1 l2 l3 l4 l5 M = ((h_R M 1 l0 1).bind fun r3 => (h_I M 5 r3 3).bind fun x4 => if x4 ≤ l5 then (some (l3, M)) else (h_R M 1 l0 1).bind fun r5 => gd (h_K M 5 r5) <| (FX6_at r5 l5 (0 : Int32) M).bind fun q6 => (h_R q6.2 1 l0 1).bind fun r7 => gd (h_K q6.2 5 r7) <| (FX6_at r7 l5 (1 : Int32) q6.2).bind fun q8 => if q8.1 = l1 then (if l2 < q6.1 then (FX1_valueBehind_92 n26 l0 l1 l2 l3 l4 l5 q8.2) else if q6.1 < l4 then (FX1_valueBehind_92 n26 l0 l1 l2 l3 l4 l5 q8.2) else (h_R q8.2 1 l0 1).bind fun r9 => gd (h_K q8.2 5 r9) <| (FX6_at r9 l5 (2 : Int32) q8.2).bind fun q10 => FX1_valueBehind_92 n26 l0 l1 l2 q10.1 q6.1 l5 q10.2) else (FX1_valueBehind_92 n26 l0 l1 l2 l3 l4 l5 q8.2)) := rfl
set_option maxRecDepth 100000 in
theorem eX1_valueBehind_92 (n26 : Nat) (l0 : Nat) (l1 : Int32) (l2 : Int32) (l3 : Int32) (l4 : Int32) (l5 : Int32) (M : Hx) : FX1_valueBehind_92 n26 l0 l1 l2 l3 l4 l5 M = (FX1_valueBehind_26 n26 l0 l1 l2 l3 l4 (l5 + 1) M) := rfl
def FX1_namesOnlyKin (l0 : Nat) (M : Hx) : Option (Int32 × Hx) := fX1_namesOnlyKin [.ref l0] M
def FX1_namesOnlyKin_2 (n2 : Nat) (l0 : Nat) (l1 : Int32) (M : Hx) : Option (Int32 × Hx) := (o_lp (bX1_namesOnlyKin_2) n2) [some (.ref l0), some (.int l1)] [] M
def FX1_namesOnlyKin_34 (n2 : Nat) (l0 : Nat) (l1 : Int32) (M : Hx) : Option (Int32 × Hx) := bX1_namesOnlyKin_34 (o_lp (bX1_namesOnlyKin_2) n2) [some (.ref l0), some (.int l1)] [] M
def FX1_namesOnlyKin_42 (n42 : Nat) (l0 : Nat) (l1 : Int32) (M : Hx) : Option (Int32 × Hx) := (o_lp (bX1_namesOnlyKin_42) n42) [some (.ref l0), some (.int l1)] [] M
def FX1_namesOnlyKin_79 (n79 : Nat) (l0 : Nat) (l1 : Int32) (M : Hx) : Option (Int32 × Hx) := (o_lp (bX1_namesOnlyKin_79) n79) [some (.ref l0), some (.int l1)] [] M
def FX1_namesOnlyKin_122 (n79 : Nat) (M : Hx) : Option (Int32 × Hx) := bX1_namesOnlyKin_122 (o_lp (bX1_namesOnlyKin_79) n79) [none, none] [] M
set_option maxRecDepth 100000 in
theorem eX1_namesOnlyKin (l0 : Nat) (M : Hx) : FX1_namesOnlyKin l0 M = (FX1_namesOnlyKin_2 fu l0 (0 : Int32) M) := rfl
set_option maxRecDepth 100000 in
theorem eX1_namesOnlyKin_2 (n2 : Nat) (l0 : Nat) (l1 : Int32) (M : Hx) : FX1_namesOnlyKin_2 (n2 + 1) l0 l1 M = (if (10 : Int32) ≤ l1 then (FX1_namesOnlyKin_42 fu l0 (0 : Int32) M) else (h_R M 1 l0 5).bind fun r1 => (h_A M 0 r1 l1).bind fun x2 => if x2 = ((-4) : Int32) then (FX1_namesOnlyKin_34 n2 l0 l1 M) else (h_R M 1 l0 5).bind fun r3 => (h_A M 0 r3 l1).bind fun x4 => gd (h_K M 1 l0) <| (FX1_isOne l0 x4 M).bind fun q5 => if q5.1 = 0 then (if (0 : Int32) = 0 ∨ (0 : Int32) = 1 then some ((0 : Int32), q5.2) else none) else (FX1_namesOnlyKin_34 n2 l0 l1 q5.2)) := rfl
set_option maxRecDepth 100000 in
theorem eX1_namesOnlyKin_34 (n2 : Nat) (l0 : Nat) (l1 : Int32) (M : Hx) : FX1_namesOnlyKin_34 n2 l0 l1 M = (FX1_namesOnlyKin_2 n2 l0 (l1 + 1) M) := rfl
set_option maxRecDepth 100000 in
theorem eX1_namesOnlyKin_42 (n42 : Nat) (l0 : Nat) (l1 : Int32) (M : Hx) : FX1_namesOnlyKin_42 (n42 + 1) l0 l1 M = ((h_R M 1 l0 2).bind fun r6 => (h_I M 5 r6 3).bind fun x7 => if x7 ≤ l1 then (FX1_namesOnlyKin_79 fu l0 (0 : Int32) M) else (h_R M 1 l0 2).bind fun r8 => gd (h_K M 5 r8) <| (FX6_at r8 l1 (0 : Int32) M).bind fun q9 => gd (h_K q9.2 1 l0) <| (FX1_isOne l0 q9.1 q9.2).bind fun q10 => if q10.1 = 0 then (if (0 : Int32) = 0 ∨ (0 : Int32) = 1 then some ((0 : Int32), q10.2) else none) else (FX1_namesOnlyKin_42 n42 l0 (l1 + 1) q10.2)) := rfl
set_option maxRecDepth 100000 in
theorem eX1_namesOnlyKin_79 (n79 : Nat) (l0 : Nat) (l1 : Int32) (M : Hx) : FX1_namesOnlyKin_79 (n79 + 1) l0 l1 M = ((h_R M 1 l0 3).bind fun r11 => (h_I M 5 r11 3).bind fun x12 => if x12 ≤ l1 then (if (1 : Int32) = 0 ∨ (1 : Int32) = 1 then some ((1 : Int32), M) else none) else (h_R M 1 l0 3).bind fun r13 => gd (h_K M 5 r13) <| (FX6_at r13 l1 (1 : Int32) M).bind fun q14 => gd (h_K q14.2 1 l0) <| (FX1_isOne l0 q14.1 q14.2).bind fun q15 => if q15.1 = 0 then (FX1_namesOnlyKin_122 n79 q15.2) else (h_R q15.2 1 l0 3).bind fun r16 => gd (h_K q15.2 5 r16) <| (FX6_at r16 l1 (2 : Int32) q15.2).bind fun q17 => gd (h_K q17.2 1 l0) <| (FX1_isOne l0 q17.1 q17.2).bind fun q18 => if q18.1 = 0 then (FX1_namesOnlyKin_122 n79 q18.2) else (FX1_namesOnlyKin_79 n79 l0 (l1 + 1) q18.2)) := rfl
set_option maxRecDepth 100000 in
theorem eX1_namesOnlyKin_122 (n79 : Nat) (M : Hx) : FX1_namesOnlyKin_122 n79 M = (if (0 : Int32) = 0 ∨ (0 : Int32) = 1 then some ((0 : Int32), M) else none) := rfl
def FX7_init (l0 : Nat) (M : Hx) : Option (Unit × Hx) := fX7_init [.ref l0] M
set_option maxRecDepth 100000 in
theorem eX7_init (l0 : Nat) (M : Hx) : FX7_init l0 M = (if ¬ (10 : Int32) < 0 ∧ (10 : Int32).toNatClampNeg ≤ 100000 ∧ M.length < 1000 then ((h_P (M ++ [.inl (0, (10 : Int32).toNatClampNeg, .inl (fun _ => 0))]) 6 l0 0 (.ref (List.length M))).bind fun M1 => if ¬ (10 : Int32) < 0 ∧ (10 : Int32).toNatClampNeg ≤ 100000 ∧ M1.length < 1000 then ((h_P (M1 ++ [.inl (0, (10 : Int32).toNatClampNeg, .inl (fun _ => 0))]) 6 l0 1 (.ref (List.length M1))).bind fun M2 => if ¬ (5 : Int32) < 0 ∧ (5 : Int32).toNatClampNeg ≤ 100000 ∧ M2.length < 1000 then ((h_P (M2 ++ [.inl (0, (5 : Int32).toNatClampNeg, .inl (fun _ => 0))]) 6 l0 2 (.ref (List.length M2))).bind fun M3 => some ((), M3)) else none) else none) else none) := rfl
def FX7_hasEyes (l0 : Int32) (l1 : Int32) (M : Hx) : Option (Int32 × Hx) := fX7_hasEyes [.int l0, .int l1] M
def FX7_hasEyes_16 (s0 : Int32) (M : Hx) : Option (Int32 × Hx) := bX7_hasEyes_16 [none, none] [.int s0] M
def FX7_hasEyes_28  (M : Hx) : Option (Int32 × Hx) := bX7_hasEyes_28 [none, none] [] M
def FX7_hasEyes_33 (s0 : Int32) (M : Hx) : Option (Int32 × Hx) := bX7_hasEyes_33 [none, none] [.int s0] M
set_option maxRecDepth 100000 in
theorem eX7_hasEyes (l0 : Int32) (l1 : Int32) (M : Hx) : FX7_hasEyes l0 l1 M = (if l0 = (1 : Int32) then (if (6 : Int32) ≤ l1 then (FX7_hasEyes_16 (0 : Int32) M) else FX7_hasEyes_16 (1 : Int32) M) else (if l0 = (3 : Int32) then (if l1 < (6 : Int32) then (FX7_hasEyes_33 (0 : Int32) M) else FX7_hasEyes_28 M) else (FX7_hasEyes_28 M))) := rfl
set_option maxRecDepth 100000 in
theorem eX7_hasEyes_16 (s0 : Int32) (M : Hx) : FX7_hasEyes_16 s0 M = (if s0 = 0 ∨ s0 = 1 then some (s0, M) else none) := rfl
set_option maxRecDepth 100000 in
theorem eX7_hasEyes_28  (M : Hx) : FX7_hasEyes_28  M = (FX7_hasEyes_33 (1 : Int32) M) := rfl
set_option maxRecDepth 100000 in
theorem eX7_hasEyes_33 (s0 : Int32) (M : Hx) : FX7_hasEyes_33 s0 M = (if s0 = 0 ∨ s0 = 1 then some (s0, M) else none) := rfl
def FX7_isNear (l0 : Int32) (l1 : Int32) (M : Hx) : Option (Int32 × Hx) := fX7_isNear [.int l0, .int l1] M
def FX7_isNear_16  (M : Hx) : Option (Int32 × Hx) := bX7_isNear_16 [none, none] [] M
def FX7_isNear_21 (s0 : Int32) (M : Hx) : Option (Int32 × Hx) := bX7_isNear_21 [none, none] [.int s0] M
set_option maxRecDepth 100000 in
theorem eX7_isNear (l0 : Int32) (l1 : Int32) (M : Hx) : FX7_isNear l0 l1 M = (if l1 = ((-4) : Int32) then (FX7_isNear_16 M) else if (1 : Int32) < (o_abs (l0 - l1)) then (FX7_isNear_21 (0 : Int32) M) else FX7_isNear_16 M) := rfl
set_option maxRecDepth 100000 in
theorem eX7_isNear_16  (M : Hx) : FX7_isNear_16  M = (FX7_isNear_21 (1 : Int32) M) := rfl
set_option maxRecDepth 100000 in
theorem eX7_isNear_21 (s0 : Int32) (M : Hx) : FX7_isNear_21 s0 M = (if s0 = 0 ∨ s0 = 1 then some (s0, M) else none) := rfl
def FX7_seerIn (l0 : Nat) (l1 : Nat) (l2 : Int32) (M : Hx) : Option (Int32 × Hx) := fX7_seerIn [.ref l0, .ref l1, .int l2] M
def FX7_seerIn_20  (M : Hx) : Option (Int32 × Hx) := bX7_seerIn_20 [none, none, none, none, none] [] M
def FX7_seerIn_41 (l0 : Nat) (l2 : Int32) (l3 : Int32) (s0 : Int32) (M : Hx) : Option (Int32 × Hx) := bX7_seerIn_41 [some (.ref l0), none, some (.int l2), some (.int l3), none] [.int s0] M
def FX7_seerIn_68  (M : Hx) : Option (Int32 × Hx) := bX7_seerIn_68 [none, none, none, none, none] [] M
def FX7_seerIn_70 (s0 : Int32) (M : Hx) : Option (Int32 × Hx) := bX7_seerIn_70 [none, none, none, none, none] [.int s0] M
set_option maxRecDepth 100000 in
theorem eX7_seerIn (l0 : Nat) (l1 : Nat) (l2 : Int32) (M : Hx) : FX7_seerIn l0 l1 l2 M = (if l2 < 0 then (FX7_seerIn_20 M) else (h_L M l1).bind fun x1 => if x1 ≤ l2 then (FX7_seerIn_20 M) else (h_A M 0 l1 l2).bind fun x2 => gd (h_K M 1 l0) <| (FX1_isOne l0 x2 M).bind fun q3 => if q3.1 = 0 then (FX7_seerIn_20 q3.2) else ((h_A q3.2 0 l1 l2).bind fun x4 => if l2 = 0 then (FX7_seerIn_41 l0 l2 x4 ((-4) : Int32) q3.2) else ((h_A q3.2 0 l1 (l2 - (1 : Int32))).bind fun x5 => FX7_seerIn_41 l0 l2 x4 x5 q3.2))) := rfl
set_option maxRecDepth 100000 in
theorem eX7_seerIn_20  (M : Hx) : FX7_seerIn_20  M = (some (((-4) : Int32), M)) := rfl
set_option maxRecDepth 100000 in
theorem eX7_seerIn_41 (l0 : Nat) (l2 : Int32) (l3 : Int32) (s0 : Int32) (M : Hx) : FX7_seerIn_41 l0 l2 l3 s0 M = (gd (h_K M 1 l0) <| (FX1_kindOf l0 l3 M).bind fun q6 => (FX7_hasEyes q6.1 l2 q6.2).bind fun q7 => if q7.1 = 0 then (FX7_seerIn_68 q7.2) else (FX7_isNear l3 s0 q7.2).bind fun q8 => if q8.1 = 0 then (FX7_seerIn_68 q8.2) else FX7_seerIn_70 l3 q8.2) := rfl
set_option maxRecDepth 100000 in
theorem eX7_seerIn_68  (M : Hx) : FX7_seerIn_68  M = (FX7_seerIn_70 ((-4) : Int32) M) := rfl
set_option maxRecDepth 100000 in
theorem eX7_seerIn_70 (s0 : Int32) (M : Hx) : FX7_seerIn_70 s0 M = (some (s0, M)) := rfl
