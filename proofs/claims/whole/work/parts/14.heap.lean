abbrev Gg : Type := Nat → Nat → Int32
def mk (g : Gg) : Hx := [.inr (7, [.ref 1, .ref 12, .ref 13, .ref 14, .ref 16, .ref 18, .ref 30, .ref 31, .ref 35, .ref 38, .ref 46, .ref 47, .int (g 0 12), .int (g 0 13)]), .inr (1, [.ref 2, .ref 4, .ref 6, .ref 8, .ref 10, .ref 11]), .inr (5, [.int 2, .int 5, .ref 3, .int (g 2 3)]), .inl (0, 10, .inl (g 3)), .inr (5, [.int 3, .int 4, .ref 5, .int (g 4 3)]), .inl (0, 12, .inl (g 5)), .inr (5, [.int 4, .int 5, .ref 7, .int (g 6 3)]), .inl (0, 20, .inl (g 7)), .inr (5, [.int 4, .int 4, .ref 9, .int (g 8 3)]), .inl (0, 16, .inl (g 9)), .inl (0, 3, .inl (g 10)), .inl (0, 10, .inl (g 11)), .inl (2, 2, .inr (va_up (va_up (fun _ => none) 0 (some 48)) 1 (some 59))), .inl (1, 2, .inl (g 13)), .inr (5, [.int 4, .int 6, .ref 15, .int (g 14 3)]), .inl (0, 24, .inl (g 15)), .inr (5, [.int 1, .int 160, .ref 17, .int (g 16 3)]), .inl (0, 160, .inl (g 17)), .inr (4, [.ref 19, .ref 16, .int (g 18 2), .int (g 18 3), .int (g 18 4), .int (g 18 5), .int (g 18 6), .int (g 18 7), .int (g 18 8), .int (g 18 9), .int (g 18 10)]), .inr (1, [.ref 20, .ref 22, .ref 24, .ref 26, .ref 28, .ref 29]), .inr (5, [.int 2, .int 5, .ref 21, .int (g 20 3)]), .inl (0, 10, .inl (g 21)), .inr (5, [.int 3, .int 4, .ref 23, .int (g 22 3)]), .inl (0, 12, .inl (g 23)), .inr (5, [.int 4, .int 5, .ref 25, .int (g 24 3)]), .inl (0, 20, .inl (g 25)), .inr (5, [.int 4, .int 4, .ref 27, .int (g 26 3)]), .inl (0, 16, .inl (g 27)), .inl (0, 3, .inl (g 28)), .inl (0, 10, .inl (g 29)), .inl (3, 4, .inr (va_up (va_up (va_up (va_up (fun _ => none) 0 (some 70)) 1 (some 72)) 2 (some 74)) 3 (some 76))), .inr (6, [.ref 32, .ref 33, .ref 34]), .inl (0, 10, .inl (g 32)), .inl (0, 10, .inl (g 33)), .inl (0, 5, .inl (g 34)), .inr (0, [.ref 36, .ref 37]), .inl (0, 150, .inl (g 36)), .inl (0, 150, .inl (g 37)), .inr (3, [.ref 39, .ref 40, .ref 41, .ref 42, .ref 44, .int (g 38 5), .int (g 38 6)]), .inl (0, 2112, .inl (g 39)), .inl (0, 6, .inl (g 40)), .inl (0, 10, .inl (g 41)), .inr (5, [.int 2, .int 5, .ref 43, .int (g 42 3)]), .inl (0, 10, .inl (g 43)), .inr (5, [.int 4, .int 5, .ref 45, .int (g 44 3)]), .inl (0, 20, .inl (g 45)), .inl (0, 10, .inl (g 46)), .inl (0, 90, .inl (g 47)), .inr (1, [.ref 49, .ref 51, .ref 53, .ref 55, .ref 57, .ref 58]), .inr (5, [.int 2, .int 5, .ref 50, .int (g 49 3)]), .inl (0, 10, .inl (g 50)), .inr (5, [.int 3, .int 4, .ref 52, .int (g 51 3)]), .inl (0, 12, .inl (g 52)), .inr (5, [.int 4, .int 5, .ref 54, .int (g 53 3)]), .inl (0, 20, .inl (g 54)), .inr (5, [.int 4, .int 4, .ref 56, .int (g 55 3)]), .inl (0, 16, .inl (g 56)), .inl (0, 3, .inl (g 57)), .inl (0, 10, .inl (g 58)), .inr (1, [.ref 60, .ref 62, .ref 64, .ref 66, .ref 68, .ref 69]), .inr (5, [.int 2, .int 5, .ref 61, .int (g 60 3)]), .inl (0, 10, .inl (g 61)), .inr (5, [.int 3, .int 4, .ref 63, .int (g 62 3)]), .inl (0, 12, .inl (g 63)), .inr (5, [.int 4, .int 5, .ref 65, .int (g 64 3)]), .inl (0, 20, .inl (g 65)), .inr (5, [.int 4, .int 4, .ref 67, .int (g 66 3)]), .inl (0, 16, .inl (g 67)), .inl (0, 3, .inl (g 68)), .inl (0, 10, .inl (g 69)), .inr (2, [.ref 71, .int (g 70 1), .int (g 70 2)]), .inl (0, 40, .inl (g 71)), .inr (2, [.ref 73, .int (g 72 1), .int (g 72 2)]), .inl (0, 40, .inl (g 73)), .inr (2, [.ref 75, .int (g 74 1), .int (g 74 2)]), .inl (0, 40, .inl (g 75)), .inr (2, [.ref 77, .int (g 76 1), .int (g 76 2)]), .inl (0, 40, .inl (g 77)), .inr (8, [.ref 79, .ref 80, .int (g 78 2), .ref 81, .int (g 78 4), .int (g 78 5), .int (g 78 6), .int (g 78 7), .int (g 78 8), .ref 82, .int (g 78 10), .int (g 78 11), .int (g 78 12), .int (g 78 13), .int (g 78 14), .int (g 78 15), .int (g 78 16), .int (g 78 17), .ref 83, .ref 84, .ref 85, .ref 86, .ref 87, .ref 88, .int (g 78 24), .ref 89, .int (g 78 26), .ref 90, .ref 91, .ref 92, .ref 93, .int (g 78 31)]), .inl (0, 296, .inl (g 79)), .inl (0, 4, .inl (g 80)), .inl (0, 74, .inl (g 81)), .inl (0, 160, .inl (g 82)), .inl (0, 10, .inl (g 83)), .inl (0, 41, .inl (g 84)), .inl (0, 150, .inl (g 85)), .inl (0, 150, .inl (g 86)), .inl (0, 2112, .inl (g 87)), .inl (0, 24, .inl (g 88)), .inl (0, 90, .inl (g 89)), .inl (1, 2, .inl (g 90)), .inl (0, 4, .inl (g 91)), .inl (0, 4, .inl (g 92)), .inl (0, 160, .inl (g 93))]
def upc (g : Gg) (c : Nat) (r : Nat → Int32) : Gg := fun d => if d = c then r else g d
abbrev up (g : Gg) (c i : Nat) (x : Int32) : Gg := upc g c (upd (g c) i x)
theorem upc_s (g : Gg) (c : Nat) (r : Nat → Int32) : upc g c r c = r := if_pos rfl
theorem upc_n {g : Gg} {c d : Nat} {r : Nat → Int32} (h : d ≠ c) : upc g c r d = g d := if_neg h
theorem mK_0 {g : Gg} : h_K (mk g) 7 0 = true := rfl
theorem mR_0_0 {g : Gg} : h_R (mk g) 7 0 0 = some 1 := rfl
theorem mR_0_1 {g : Gg} : h_R (mk g) 7 0 1 = some 12 := rfl
theorem mR_0_2 {g : Gg} : h_R (mk g) 7 0 2 = some 13 := rfl
theorem mR_0_3 {g : Gg} : h_R (mk g) 7 0 3 = some 14 := rfl
theorem mR_0_4 {g : Gg} : h_R (mk g) 7 0 4 = some 16 := rfl
theorem mR_0_5 {g : Gg} : h_R (mk g) 7 0 5 = some 18 := rfl
theorem mR_0_6 {g : Gg} : h_R (mk g) 7 0 6 = some 30 := rfl
theorem mR_0_7 {g : Gg} : h_R (mk g) 7 0 7 = some 31 := rfl
theorem mR_0_8 {g : Gg} : h_R (mk g) 7 0 8 = some 35 := rfl
theorem mR_0_9 {g : Gg} : h_R (mk g) 7 0 9 = some 38 := rfl
theorem mR_0_10 {g : Gg} : h_R (mk g) 7 0 10 = some 46 := rfl
theorem mR_0_11 {g : Gg} : h_R (mk g) 7 0 11 = some 47 := rfl
theorem mI_0_12 {g : Gg} : h_I (mk g) 7 0 12 = some (g 0 12) := rfl
theorem mP_0_12 {g : Gg} {x : Int32} : h_P (mk g) 7 0 12 (.int x) = some (mk (up g 0 12 x)) := rfl
theorem mI_0_13 {g : Gg} : h_I (mk g) 7 0 13 = some (g 0 13) := rfl
theorem mP_0_13 {g : Gg} {x : Int32} : h_P (mk g) 7 0 13 (.int x) = some (mk (up g 0 13 x)) := rfl
theorem mK_1 {g : Gg} : h_K (mk g) 1 1 = true := rfl
theorem mR_1_0 {g : Gg} : h_R (mk g) 1 1 0 = some 2 := rfl
theorem mR_1_1 {g : Gg} : h_R (mk g) 1 1 1 = some 4 := rfl
theorem mR_1_2 {g : Gg} : h_R (mk g) 1 1 2 = some 6 := rfl
theorem mR_1_3 {g : Gg} : h_R (mk g) 1 1 3 = some 8 := rfl
theorem mR_1_4 {g : Gg} : h_R (mk g) 1 1 4 = some 10 := rfl
theorem mR_1_5 {g : Gg} : h_R (mk g) 1 1 5 = some 11 := rfl
theorem mK_2 {g : Gg} : h_K (mk g) 5 2 = true := rfl
theorem mI_2_0 {g : Gg} : h_I (mk g) 5 2 0 = some 2 := rfl
theorem mI_2_1 {g : Gg} : h_I (mk g) 5 2 1 = some 5 := rfl
theorem mR_2_2 {g : Gg} : h_R (mk g) 5 2 2 = some 3 := rfl
theorem mI_2_3 {g : Gg} : h_I (mk g) 5 2 3 = some (g 2 3) := rfl
theorem mP_2_3 {g : Gg} {x : Int32} : h_P (mk g) 5 2 3 (.int x) = some (mk (up g 2 3 x)) := rfl
theorem mA_3 {g : Gg} {i : Int32} (h : ¬ i < 0) (h2 : i.toNatClampNeg < 10) : h_A (mk g) 0 3 i = some (g 3 i.toNatClampNeg) := if_pos ⟨rfl, h, h2⟩
theorem mS_3 {g : Gg} {i x : Int32} (h : ¬ i < 0) (h2 : i.toNatClampNeg < 10) : h_S (mk g) 0 3 i x = some (mk (up g 3 i.toNatClampNeg x)) := (if_pos ⟨rfl, h, h2⟩).trans rfl
theorem mL_3 {g : Gg} : h_L (mk g) 3 = some 10 := rfl
theorem mK_4 {g : Gg} : h_K (mk g) 5 4 = true := rfl
theorem mI_4_0 {g : Gg} : h_I (mk g) 5 4 0 = some 3 := rfl
theorem mI_4_1 {g : Gg} : h_I (mk g) 5 4 1 = some 4 := rfl
theorem mR_4_2 {g : Gg} : h_R (mk g) 5 4 2 = some 5 := rfl
theorem mI_4_3 {g : Gg} : h_I (mk g) 5 4 3 = some (g 4 3) := rfl
theorem mP_4_3 {g : Gg} {x : Int32} : h_P (mk g) 5 4 3 (.int x) = some (mk (up g 4 3 x)) := rfl
theorem mA_5 {g : Gg} {i : Int32} (h : ¬ i < 0) (h2 : i.toNatClampNeg < 12) : h_A (mk g) 0 5 i = some (g 5 i.toNatClampNeg) := if_pos ⟨rfl, h, h2⟩
theorem mS_5 {g : Gg} {i x : Int32} (h : ¬ i < 0) (h2 : i.toNatClampNeg < 12) : h_S (mk g) 0 5 i x = some (mk (up g 5 i.toNatClampNeg x)) := (if_pos ⟨rfl, h, h2⟩).trans rfl
theorem mL_5 {g : Gg} : h_L (mk g) 5 = some 12 := rfl
theorem mK_6 {g : Gg} : h_K (mk g) 5 6 = true := rfl
theorem mI_6_0 {g : Gg} : h_I (mk g) 5 6 0 = some 4 := rfl
theorem mI_6_1 {g : Gg} : h_I (mk g) 5 6 1 = some 5 := rfl
theorem mR_6_2 {g : Gg} : h_R (mk g) 5 6 2 = some 7 := rfl
theorem mI_6_3 {g : Gg} : h_I (mk g) 5 6 3 = some (g 6 3) := rfl
theorem mP_6_3 {g : Gg} {x : Int32} : h_P (mk g) 5 6 3 (.int x) = some (mk (up g 6 3 x)) := rfl
theorem mA_7 {g : Gg} {i : Int32} (h : ¬ i < 0) (h2 : i.toNatClampNeg < 20) : h_A (mk g) 0 7 i = some (g 7 i.toNatClampNeg) := if_pos ⟨rfl, h, h2⟩
theorem mS_7 {g : Gg} {i x : Int32} (h : ¬ i < 0) (h2 : i.toNatClampNeg < 20) : h_S (mk g) 0 7 i x = some (mk (up g 7 i.toNatClampNeg x)) := (if_pos ⟨rfl, h, h2⟩).trans rfl
theorem mL_7 {g : Gg} : h_L (mk g) 7 = some 20 := rfl
theorem mK_8 {g : Gg} : h_K (mk g) 5 8 = true := rfl
theorem mI_8_0 {g : Gg} : h_I (mk g) 5 8 0 = some 4 := rfl
theorem mI_8_1 {g : Gg} : h_I (mk g) 5 8 1 = some 4 := rfl
theorem mR_8_2 {g : Gg} : h_R (mk g) 5 8 2 = some 9 := rfl
theorem mI_8_3 {g : Gg} : h_I (mk g) 5 8 3 = some (g 8 3) := rfl
theorem mP_8_3 {g : Gg} {x : Int32} : h_P (mk g) 5 8 3 (.int x) = some (mk (up g 8 3 x)) := rfl
theorem mA_9 {g : Gg} {i : Int32} (h : ¬ i < 0) (h2 : i.toNatClampNeg < 16) : h_A (mk g) 0 9 i = some (g 9 i.toNatClampNeg) := if_pos ⟨rfl, h, h2⟩
theorem mS_9 {g : Gg} {i x : Int32} (h : ¬ i < 0) (h2 : i.toNatClampNeg < 16) : h_S (mk g) 0 9 i x = some (mk (up g 9 i.toNatClampNeg x)) := (if_pos ⟨rfl, h, h2⟩).trans rfl
theorem mL_9 {g : Gg} : h_L (mk g) 9 = some 16 := rfl
theorem mA_10 {g : Gg} {i : Int32} (h : ¬ i < 0) (h2 : i.toNatClampNeg < 3) : h_A (mk g) 0 10 i = some (g 10 i.toNatClampNeg) := if_pos ⟨rfl, h, h2⟩
theorem mS_10 {g : Gg} {i x : Int32} (h : ¬ i < 0) (h2 : i.toNatClampNeg < 3) : h_S (mk g) 0 10 i x = some (mk (up g 10 i.toNatClampNeg x)) := (if_pos ⟨rfl, h, h2⟩).trans rfl
theorem mL_10 {g : Gg} : h_L (mk g) 10 = some 3 := rfl
theorem mA_11 {g : Gg} {i : Int32} (h : ¬ i < 0) (h2 : i.toNatClampNeg < 10) : h_A (mk g) 0 11 i = some (g 11 i.toNatClampNeg) := if_pos ⟨rfl, h, h2⟩
theorem mS_11 {g : Gg} {i x : Int32} (h : ¬ i < 0) (h2 : i.toNatClampNeg < 10) : h_S (mk g) 0 11 i x = some (mk (up g 11 i.toNatClampNeg x)) := (if_pos ⟨rfl, h, h2⟩).trans rfl
theorem mL_11 {g : Gg} : h_L (mk g) 11 = some 10 := rfl
theorem mAR_12_0 {g : Gg} : h_AR (mk g) 2 12 0 = some 48 := rfl
theorem mAR_12_1 {g : Gg} : h_AR (mk g) 2 12 1 = some 59 := rfl
theorem mA_13 {g : Gg} {i : Int32} (h : ¬ i < 0) (h2 : i.toNatClampNeg < 2) : h_A (mk g) 1 13 i = some (g 13 i.toNatClampNeg) := if_pos ⟨rfl, h, h2⟩
theorem mS_13 {g : Gg} {i x : Int32} (h : ¬ i < 0) (h2 : i.toNatClampNeg < 2) : h_S (mk g) 1 13 i x = some (mk (up g 13 i.toNatClampNeg x)) := (if_pos ⟨rfl, h, h2⟩).trans rfl
theorem mK_14 {g : Gg} : h_K (mk g) 5 14 = true := rfl
theorem mI_14_0 {g : Gg} : h_I (mk g) 5 14 0 = some 4 := rfl
theorem mI_14_1 {g : Gg} : h_I (mk g) 5 14 1 = some 6 := rfl
theorem mR_14_2 {g : Gg} : h_R (mk g) 5 14 2 = some 15 := rfl
theorem mI_14_3 {g : Gg} : h_I (mk g) 5 14 3 = some (g 14 3) := rfl
theorem mP_14_3 {g : Gg} {x : Int32} : h_P (mk g) 5 14 3 (.int x) = some (mk (up g 14 3 x)) := rfl
theorem mA_15 {g : Gg} {i : Int32} (h : ¬ i < 0) (h2 : i.toNatClampNeg < 24) : h_A (mk g) 0 15 i = some (g 15 i.toNatClampNeg) := if_pos ⟨rfl, h, h2⟩
theorem mS_15 {g : Gg} {i x : Int32} (h : ¬ i < 0) (h2 : i.toNatClampNeg < 24) : h_S (mk g) 0 15 i x = some (mk (up g 15 i.toNatClampNeg x)) := (if_pos ⟨rfl, h, h2⟩).trans rfl
theorem mL_15 {g : Gg} : h_L (mk g) 15 = some 24 := rfl
theorem mK_16 {g : Gg} : h_K (mk g) 5 16 = true := rfl
theorem mI_16_0 {g : Gg} : h_I (mk g) 5 16 0 = some 1 := rfl
theorem mI_16_1 {g : Gg} : h_I (mk g) 5 16 1 = some 160 := rfl
theorem mR_16_2 {g : Gg} : h_R (mk g) 5 16 2 = some 17 := rfl
theorem mI_16_3 {g : Gg} : h_I (mk g) 5 16 3 = some (g 16 3) := rfl
theorem mP_16_3 {g : Gg} {x : Int32} : h_P (mk g) 5 16 3 (.int x) = some (mk (up g 16 3 x)) := rfl
theorem mA_17 {g : Gg} {i : Int32} (h : ¬ i < 0) (h2 : i.toNatClampNeg < 160) : h_A (mk g) 0 17 i = some (g 17 i.toNatClampNeg) := if_pos ⟨rfl, h, h2⟩
theorem mS_17 {g : Gg} {i x : Int32} (h : ¬ i < 0) (h2 : i.toNatClampNeg < 160) : h_S (mk g) 0 17 i x = some (mk (up g 17 i.toNatClampNeg x)) := (if_pos ⟨rfl, h, h2⟩).trans rfl
theorem mL_17 {g : Gg} : h_L (mk g) 17 = some 160 := rfl
theorem mK_18 {g : Gg} : h_K (mk g) 4 18 = true := rfl
theorem mR_18_0 {g : Gg} : h_R (mk g) 4 18 0 = some 19 := rfl
theorem mR_18_1 {g : Gg} : h_R (mk g) 4 18 1 = some 16 := rfl
theorem mI_18_2 {g : Gg} : h_I (mk g) 4 18 2 = some (g 18 2) := rfl
theorem mP_18_2 {g : Gg} {x : Int32} : h_P (mk g) 4 18 2 (.int x) = some (mk (up g 18 2 x)) := rfl
theorem mI_18_3 {g : Gg} : h_I (mk g) 4 18 3 = some (g 18 3) := rfl
theorem mP_18_3 {g : Gg} {x : Int32} : h_P (mk g) 4 18 3 (.int x) = some (mk (up g 18 3 x)) := rfl
theorem mI_18_4 {g : Gg} : h_I (mk g) 4 18 4 = some (g 18 4) := rfl
theorem mP_18_4 {g : Gg} {x : Int32} : h_P (mk g) 4 18 4 (.int x) = some (mk (up g 18 4 x)) := rfl
theorem mI_18_5 {g : Gg} : h_I (mk g) 4 18 5 = some (g 18 5) := rfl
theorem mP_18_5 {g : Gg} {x : Int32} : h_P (mk g) 4 18 5 (.int x) = some (mk (up g 18 5 x)) := rfl
theorem mI_18_6 {g : Gg} : h_I (mk g) 4 18 6 = some (g 18 6) := rfl
theorem mP_18_6 {g : Gg} {x : Int32} : h_P (mk g) 4 18 6 (.int x) = some (mk (up g 18 6 x)) := rfl
theorem mI_18_7 {g : Gg} : h_I (mk g) 4 18 7 = some (g 18 7) := rfl
theorem mP_18_7 {g : Gg} {x : Int32} : h_P (mk g) 4 18 7 (.int x) = some (mk (up g 18 7 x)) := rfl
theorem mI_18_8 {g : Gg} : h_I (mk g) 4 18 8 = some (g 18 8) := rfl
theorem mP_18_8 {g : Gg} {x : Int32} : h_P (mk g) 4 18 8 (.int x) = some (mk (up g 18 8 x)) := rfl
theorem mI_18_9 {g : Gg} : h_I (mk g) 4 18 9 = some (g 18 9) := rfl
theorem mP_18_9 {g : Gg} {x : Int32} : h_P (mk g) 4 18 9 (.int x) = some (mk (up g 18 9 x)) := rfl
theorem mI_18_10 {g : Gg} : h_I (mk g) 4 18 10 = some (g 18 10) := rfl
theorem mP_18_10 {g : Gg} {x : Int32} : h_P (mk g) 4 18 10 (.int x) = some (mk (up g 18 10 x)) := rfl
theorem mK_19 {g : Gg} : h_K (mk g) 1 19 = true := rfl
theorem mR_19_0 {g : Gg} : h_R (mk g) 1 19 0 = some 20 := rfl
theorem mR_19_1 {g : Gg} : h_R (mk g) 1 19 1 = some 22 := rfl
theorem mR_19_2 {g : Gg} : h_R (mk g) 1 19 2 = some 24 := rfl
theorem mR_19_3 {g : Gg} : h_R (mk g) 1 19 3 = some 26 := rfl
theorem mR_19_4 {g : Gg} : h_R (mk g) 1 19 4 = some 28 := rfl
theorem mR_19_5 {g : Gg} : h_R (mk g) 1 19 5 = some 29 := rfl
theorem mK_20 {g : Gg} : h_K (mk g) 5 20 = true := rfl
theorem mI_20_0 {g : Gg} : h_I (mk g) 5 20 0 = some 2 := rfl
theorem mI_20_1 {g : Gg} : h_I (mk g) 5 20 1 = some 5 := rfl
theorem mR_20_2 {g : Gg} : h_R (mk g) 5 20 2 = some 21 := rfl
theorem mI_20_3 {g : Gg} : h_I (mk g) 5 20 3 = some (g 20 3) := rfl
theorem mP_20_3 {g : Gg} {x : Int32} : h_P (mk g) 5 20 3 (.int x) = some (mk (up g 20 3 x)) := rfl
theorem mA_21 {g : Gg} {i : Int32} (h : ¬ i < 0) (h2 : i.toNatClampNeg < 10) : h_A (mk g) 0 21 i = some (g 21 i.toNatClampNeg) := if_pos ⟨rfl, h, h2⟩
theorem mS_21 {g : Gg} {i x : Int32} (h : ¬ i < 0) (h2 : i.toNatClampNeg < 10) : h_S (mk g) 0 21 i x = some (mk (up g 21 i.toNatClampNeg x)) := (if_pos ⟨rfl, h, h2⟩).trans rfl
theorem mL_21 {g : Gg} : h_L (mk g) 21 = some 10 := rfl
theorem mK_22 {g : Gg} : h_K (mk g) 5 22 = true := rfl
theorem mI_22_0 {g : Gg} : h_I (mk g) 5 22 0 = some 3 := rfl
theorem mI_22_1 {g : Gg} : h_I (mk g) 5 22 1 = some 4 := rfl
theorem mR_22_2 {g : Gg} : h_R (mk g) 5 22 2 = some 23 := rfl
theorem mI_22_3 {g : Gg} : h_I (mk g) 5 22 3 = some (g 22 3) := rfl
theorem mP_22_3 {g : Gg} {x : Int32} : h_P (mk g) 5 22 3 (.int x) = some (mk (up g 22 3 x)) := rfl
theorem mA_23 {g : Gg} {i : Int32} (h : ¬ i < 0) (h2 : i.toNatClampNeg < 12) : h_A (mk g) 0 23 i = some (g 23 i.toNatClampNeg) := if_pos ⟨rfl, h, h2⟩
theorem mS_23 {g : Gg} {i x : Int32} (h : ¬ i < 0) (h2 : i.toNatClampNeg < 12) : h_S (mk g) 0 23 i x = some (mk (up g 23 i.toNatClampNeg x)) := (if_pos ⟨rfl, h, h2⟩).trans rfl
theorem mL_23 {g : Gg} : h_L (mk g) 23 = some 12 := rfl
theorem mK_24 {g : Gg} : h_K (mk g) 5 24 = true := rfl
theorem mI_24_0 {g : Gg} : h_I (mk g) 5 24 0 = some 4 := rfl
theorem mI_24_1 {g : Gg} : h_I (mk g) 5 24 1 = some 5 := rfl
theorem mR_24_2 {g : Gg} : h_R (mk g) 5 24 2 = some 25 := rfl
theorem mI_24_3 {g : Gg} : h_I (mk g) 5 24 3 = some (g 24 3) := rfl
theorem mP_24_3 {g : Gg} {x : Int32} : h_P (mk g) 5 24 3 (.int x) = some (mk (up g 24 3 x)) := rfl
theorem mA_25 {g : Gg} {i : Int32} (h : ¬ i < 0) (h2 : i.toNatClampNeg < 20) : h_A (mk g) 0 25 i = some (g 25 i.toNatClampNeg) := if_pos ⟨rfl, h, h2⟩
theorem mS_25 {g : Gg} {i x : Int32} (h : ¬ i < 0) (h2 : i.toNatClampNeg < 20) : h_S (mk g) 0 25 i x = some (mk (up g 25 i.toNatClampNeg x)) := (if_pos ⟨rfl, h, h2⟩).trans rfl
theorem mL_25 {g : Gg} : h_L (mk g) 25 = some 20 := rfl
theorem mK_26 {g : Gg} : h_K (mk g) 5 26 = true := rfl
theorem mI_26_0 {g : Gg} : h_I (mk g) 5 26 0 = some 4 := rfl
theorem mI_26_1 {g : Gg} : h_I (mk g) 5 26 1 = some 4 := rfl
theorem mR_26_2 {g : Gg} : h_R (mk g) 5 26 2 = some 27 := rfl
theorem mI_26_3 {g : Gg} : h_I (mk g) 5 26 3 = some (g 26 3) := rfl
theorem mP_26_3 {g : Gg} {x : Int32} : h_P (mk g) 5 26 3 (.int x) = some (mk (up g 26 3 x)) := rfl
theorem mA_27 {g : Gg} {i : Int32} (h : ¬ i < 0) (h2 : i.toNatClampNeg < 16) : h_A (mk g) 0 27 i = some (g 27 i.toNatClampNeg) := if_pos ⟨rfl, h, h2⟩
theorem mS_27 {g : Gg} {i x : Int32} (h : ¬ i < 0) (h2 : i.toNatClampNeg < 16) : h_S (mk g) 0 27 i x = some (mk (up g 27 i.toNatClampNeg x)) := (if_pos ⟨rfl, h, h2⟩).trans rfl
theorem mL_27 {g : Gg} : h_L (mk g) 27 = some 16 := rfl
theorem mA_28 {g : Gg} {i : Int32} (h : ¬ i < 0) (h2 : i.toNatClampNeg < 3) : h_A (mk g) 0 28 i = some (g 28 i.toNatClampNeg) := if_pos ⟨rfl, h, h2⟩
theorem mS_28 {g : Gg} {i x : Int32} (h : ¬ i < 0) (h2 : i.toNatClampNeg < 3) : h_S (mk g) 0 28 i x = some (mk (up g 28 i.toNatClampNeg x)) := (if_pos ⟨rfl, h, h2⟩).trans rfl
theorem mL_28 {g : Gg} : h_L (mk g) 28 = some 3 := rfl
theorem mA_29 {g : Gg} {i : Int32} (h : ¬ i < 0) (h2 : i.toNatClampNeg < 10) : h_A (mk g) 0 29 i = some (g 29 i.toNatClampNeg) := if_pos ⟨rfl, h, h2⟩
theorem mS_29 {g : Gg} {i x : Int32} (h : ¬ i < 0) (h2 : i.toNatClampNeg < 10) : h_S (mk g) 0 29 i x = some (mk (up g 29 i.toNatClampNeg x)) := (if_pos ⟨rfl, h, h2⟩).trans rfl
theorem mL_29 {g : Gg} : h_L (mk g) 29 = some 10 := rfl
theorem mAR_30_0 {g : Gg} : h_AR (mk g) 3 30 0 = some 70 := rfl
theorem mAR_30_1 {g : Gg} : h_AR (mk g) 3 30 1 = some 72 := rfl
theorem mAR_30_2 {g : Gg} : h_AR (mk g) 3 30 2 = some 74 := rfl
theorem mAR_30_3 {g : Gg} : h_AR (mk g) 3 30 3 = some 76 := rfl
theorem mK_31 {g : Gg} : h_K (mk g) 6 31 = true := rfl
theorem mR_31_0 {g : Gg} : h_R (mk g) 6 31 0 = some 32 := rfl
theorem mR_31_1 {g : Gg} : h_R (mk g) 6 31 1 = some 33 := rfl
theorem mR_31_2 {g : Gg} : h_R (mk g) 6 31 2 = some 34 := rfl
theorem mA_32 {g : Gg} {i : Int32} (h : ¬ i < 0) (h2 : i.toNatClampNeg < 10) : h_A (mk g) 0 32 i = some (g 32 i.toNatClampNeg) := if_pos ⟨rfl, h, h2⟩
theorem mS_32 {g : Gg} {i x : Int32} (h : ¬ i < 0) (h2 : i.toNatClampNeg < 10) : h_S (mk g) 0 32 i x = some (mk (up g 32 i.toNatClampNeg x)) := (if_pos ⟨rfl, h, h2⟩).trans rfl
theorem mL_32 {g : Gg} : h_L (mk g) 32 = some 10 := rfl
theorem mA_33 {g : Gg} {i : Int32} (h : ¬ i < 0) (h2 : i.toNatClampNeg < 10) : h_A (mk g) 0 33 i = some (g 33 i.toNatClampNeg) := if_pos ⟨rfl, h, h2⟩
theorem mS_33 {g : Gg} {i x : Int32} (h : ¬ i < 0) (h2 : i.toNatClampNeg < 10) : h_S (mk g) 0 33 i x = some (mk (up g 33 i.toNatClampNeg x)) := (if_pos ⟨rfl, h, h2⟩).trans rfl
theorem mL_33 {g : Gg} : h_L (mk g) 33 = some 10 := rfl
theorem mA_34 {g : Gg} {i : Int32} (h : ¬ i < 0) (h2 : i.toNatClampNeg < 5) : h_A (mk g) 0 34 i = some (g 34 i.toNatClampNeg) := if_pos ⟨rfl, h, h2⟩
theorem mS_34 {g : Gg} {i x : Int32} (h : ¬ i < 0) (h2 : i.toNatClampNeg < 5) : h_S (mk g) 0 34 i x = some (mk (up g 34 i.toNatClampNeg x)) := (if_pos ⟨rfl, h, h2⟩).trans rfl
theorem mL_34 {g : Gg} : h_L (mk g) 34 = some 5 := rfl
theorem mK_35 {g : Gg} : h_K (mk g) 0 35 = true := rfl
theorem mR_35_0 {g : Gg} : h_R (mk g) 0 35 0 = some 36 := rfl
theorem mR_35_1 {g : Gg} : h_R (mk g) 0 35 1 = some 37 := rfl
theorem mA_36 {g : Gg} {i : Int32} (h : ¬ i < 0) (h2 : i.toNatClampNeg < 150) : h_A (mk g) 0 36 i = some (g 36 i.toNatClampNeg) := if_pos ⟨rfl, h, h2⟩
theorem mS_36 {g : Gg} {i x : Int32} (h : ¬ i < 0) (h2 : i.toNatClampNeg < 150) : h_S (mk g) 0 36 i x = some (mk (up g 36 i.toNatClampNeg x)) := (if_pos ⟨rfl, h, h2⟩).trans rfl
theorem mL_36 {g : Gg} : h_L (mk g) 36 = some 150 := rfl
theorem mA_37 {g : Gg} {i : Int32} (h : ¬ i < 0) (h2 : i.toNatClampNeg < 150) : h_A (mk g) 0 37 i = some (g 37 i.toNatClampNeg) := if_pos ⟨rfl, h, h2⟩
theorem mS_37 {g : Gg} {i x : Int32} (h : ¬ i < 0) (h2 : i.toNatClampNeg < 150) : h_S (mk g) 0 37 i x = some (mk (up g 37 i.toNatClampNeg x)) := (if_pos ⟨rfl, h, h2⟩).trans rfl
theorem mL_37 {g : Gg} : h_L (mk g) 37 = some 150 := rfl
theorem mK_38 {g : Gg} : h_K (mk g) 3 38 = true := rfl
theorem mR_38_0 {g : Gg} : h_R (mk g) 3 38 0 = some 39 := rfl
theorem mR_38_1 {g : Gg} : h_R (mk g) 3 38 1 = some 40 := rfl
theorem mR_38_2 {g : Gg} : h_R (mk g) 3 38 2 = some 41 := rfl
theorem mR_38_3 {g : Gg} : h_R (mk g) 3 38 3 = some 42 := rfl
theorem mR_38_4 {g : Gg} : h_R (mk g) 3 38 4 = some 44 := rfl
theorem mI_38_5 {g : Gg} : h_I (mk g) 3 38 5 = some (g 38 5) := rfl
theorem mP_38_5 {g : Gg} {x : Int32} : h_P (mk g) 3 38 5 (.int x) = some (mk (up g 38 5 x)) := rfl
theorem mI_38_6 {g : Gg} : h_I (mk g) 3 38 6 = some (g 38 6) := rfl
theorem mP_38_6 {g : Gg} {x : Int32} : h_P (mk g) 3 38 6 (.int x) = some (mk (up g 38 6 x)) := rfl
theorem mA_39 {g : Gg} {i : Int32} (h : ¬ i < 0) (h2 : i.toNatClampNeg < 2112) : h_A (mk g) 0 39 i = some (g 39 i.toNatClampNeg) := if_pos ⟨rfl, h, h2⟩
theorem mS_39 {g : Gg} {i x : Int32} (h : ¬ i < 0) (h2 : i.toNatClampNeg < 2112) : h_S (mk g) 0 39 i x = some (mk (up g 39 i.toNatClampNeg x)) := (if_pos ⟨rfl, h, h2⟩).trans rfl
theorem mL_39 {g : Gg} : h_L (mk g) 39 = some 2112 := rfl
theorem mA_40 {g : Gg} {i : Int32} (h : ¬ i < 0) (h2 : i.toNatClampNeg < 6) : h_A (mk g) 0 40 i = some (g 40 i.toNatClampNeg) := if_pos ⟨rfl, h, h2⟩
theorem mS_40 {g : Gg} {i x : Int32} (h : ¬ i < 0) (h2 : i.toNatClampNeg < 6) : h_S (mk g) 0 40 i x = some (mk (up g 40 i.toNatClampNeg x)) := (if_pos ⟨rfl, h, h2⟩).trans rfl
theorem mL_40 {g : Gg} : h_L (mk g) 40 = some 6 := rfl
theorem mA_41 {g : Gg} {i : Int32} (h : ¬ i < 0) (h2 : i.toNatClampNeg < 10) : h_A (mk g) 0 41 i = some (g 41 i.toNatClampNeg) := if_pos ⟨rfl, h, h2⟩
theorem mS_41 {g : Gg} {i x : Int32} (h : ¬ i < 0) (h2 : i.toNatClampNeg < 10) : h_S (mk g) 0 41 i x = some (mk (up g 41 i.toNatClampNeg x)) := (if_pos ⟨rfl, h, h2⟩).trans rfl
theorem mL_41 {g : Gg} : h_L (mk g) 41 = some 10 := rfl
theorem mK_42 {g : Gg} : h_K (mk g) 5 42 = true := rfl
theorem mI_42_0 {g : Gg} : h_I (mk g) 5 42 0 = some 2 := rfl
theorem mI_42_1 {g : Gg} : h_I (mk g) 5 42 1 = some 5 := rfl
theorem mR_42_2 {g : Gg} : h_R (mk g) 5 42 2 = some 43 := rfl
theorem mI_42_3 {g : Gg} : h_I (mk g) 5 42 3 = some (g 42 3) := rfl
theorem mP_42_3 {g : Gg} {x : Int32} : h_P (mk g) 5 42 3 (.int x) = some (mk (up g 42 3 x)) := rfl
theorem mA_43 {g : Gg} {i : Int32} (h : ¬ i < 0) (h2 : i.toNatClampNeg < 10) : h_A (mk g) 0 43 i = some (g 43 i.toNatClampNeg) := if_pos ⟨rfl, h, h2⟩
theorem mS_43 {g : Gg} {i x : Int32} (h : ¬ i < 0) (h2 : i.toNatClampNeg < 10) : h_S (mk g) 0 43 i x = some (mk (up g 43 i.toNatClampNeg x)) := (if_pos ⟨rfl, h, h2⟩).trans rfl
theorem mL_43 {g : Gg} : h_L (mk g) 43 = some 10 := rfl
theorem mK_44 {g : Gg} : h_K (mk g) 5 44 = true := rfl
theorem mI_44_0 {g : Gg} : h_I (mk g) 5 44 0 = some 4 := rfl
theorem mI_44_1 {g : Gg} : h_I (mk g) 5 44 1 = some 5 := rfl
theorem mR_44_2 {g : Gg} : h_R (mk g) 5 44 2 = some 45 := rfl
theorem mI_44_3 {g : Gg} : h_I (mk g) 5 44 3 = some (g 44 3) := rfl
theorem mP_44_3 {g : Gg} {x : Int32} : h_P (mk g) 5 44 3 (.int x) = some (mk (up g 44 3 x)) := rfl
theorem mA_45 {g : Gg} {i : Int32} (h : ¬ i < 0) (h2 : i.toNatClampNeg < 20) : h_A (mk g) 0 45 i = some (g 45 i.toNatClampNeg) := if_pos ⟨rfl, h, h2⟩
theorem mS_45 {g : Gg} {i x : Int32} (h : ¬ i < 0) (h2 : i.toNatClampNeg < 20) : h_S (mk g) 0 45 i x = some (mk (up g 45 i.toNatClampNeg x)) := (if_pos ⟨rfl, h, h2⟩).trans rfl
theorem mL_45 {g : Gg} : h_L (mk g) 45 = some 20 := rfl
theorem mA_46 {g : Gg} {i : Int32} (h : ¬ i < 0) (h2 : i.toNatClampNeg < 10) : h_A (mk g) 0 46 i = some (g 46 i.toNatClampNeg) := if_pos ⟨rfl, h, h2⟩
theorem mS_46 {g : Gg} {i x : Int32} (h : ¬ i < 0) (h2 : i.toNatClampNeg < 10) : h_S (mk g) 0 46 i x = some (mk (up g 46 i.toNatClampNeg x)) := (if_pos ⟨rfl, h, h2⟩).trans rfl
theorem mL_46 {g : Gg} : h_L (mk g) 46 = some 10 := rfl
theorem mA_47 {g : Gg} {i : Int32} (h : ¬ i < 0) (h2 : i.toNatClampNeg < 90) : h_A (mk g) 0 47 i = some (g 47 i.toNatClampNeg) := if_pos ⟨rfl, h, h2⟩
theorem mS_47 {g : Gg} {i x : Int32} (h : ¬ i < 0) (h2 : i.toNatClampNeg < 90) : h_S (mk g) 0 47 i x = some (mk (up g 47 i.toNatClampNeg x)) := (if_pos ⟨rfl, h, h2⟩).trans rfl
theorem mL_47 {g : Gg} : h_L (mk g) 47 = some 90 := rfl
theorem mK_48 {g : Gg} : h_K (mk g) 1 48 = true := rfl
theorem mR_48_0 {g : Gg} : h_R (mk g) 1 48 0 = some 49 := rfl
theorem mR_48_1 {g : Gg} : h_R (mk g) 1 48 1 = some 51 := rfl
theorem mR_48_2 {g : Gg} : h_R (mk g) 1 48 2 = some 53 := rfl
theorem mR_48_3 {g : Gg} : h_R (mk g) 1 48 3 = some 55 := rfl
theorem mR_48_4 {g : Gg} : h_R (mk g) 1 48 4 = some 57 := rfl
theorem mR_48_5 {g : Gg} : h_R (mk g) 1 48 5 = some 58 := rfl
theorem mK_49 {g : Gg} : h_K (mk g) 5 49 = true := rfl
theorem mI_49_0 {g : Gg} : h_I (mk g) 5 49 0 = some 2 := rfl
theorem mI_49_1 {g : Gg} : h_I (mk g) 5 49 1 = some 5 := rfl
theorem mR_49_2 {g : Gg} : h_R (mk g) 5 49 2 = some 50 := rfl
theorem mI_49_3 {g : Gg} : h_I (mk g) 5 49 3 = some (g 49 3) := rfl
theorem mP_49_3 {g : Gg} {x : Int32} : h_P (mk g) 5 49 3 (.int x) = some (mk (up g 49 3 x)) := rfl
theorem mA_50 {g : Gg} {i : Int32} (h : ¬ i < 0) (h2 : i.toNatClampNeg < 10) : h_A (mk g) 0 50 i = some (g 50 i.toNatClampNeg) := if_pos ⟨rfl, h, h2⟩
theorem mS_50 {g : Gg} {i x : Int32} (h : ¬ i < 0) (h2 : i.toNatClampNeg < 10) : h_S (mk g) 0 50 i x = some (mk (up g 50 i.toNatClampNeg x)) := (if_pos ⟨rfl, h, h2⟩).trans rfl
theorem mL_50 {g : Gg} : h_L (mk g) 50 = some 10 := rfl
theorem mK_51 {g : Gg} : h_K (mk g) 5 51 = true := rfl
theorem mI_51_0 {g : Gg} : h_I (mk g) 5 51 0 = some 3 := rfl
theorem mI_51_1 {g : Gg} : h_I (mk g) 5 51 1 = some 4 := rfl
theorem mR_51_2 {g : Gg} : h_R (mk g) 5 51 2 = some 52 := rfl
theorem mI_51_3 {g : Gg} : h_I (mk g) 5 51 3 = some (g 51 3) := rfl
theorem mP_51_3 {g : Gg} {x : Int32} : h_P (mk g) 5 51 3 (.int x) = some (mk (up g 51 3 x)) := rfl
theorem mA_52 {g : Gg} {i : Int32} (h : ¬ i < 0) (h2 : i.toNatClampNeg < 12) : h_A (mk g) 0 52 i = some (g 52 i.toNatClampNeg) := if_pos ⟨rfl, h, h2⟩
theorem mS_52 {g : Gg} {i x : Int32} (h : ¬ i < 0) (h2 : i.toNatClampNeg < 12) : h_S (mk g) 0 52 i x = some (mk (up g 52 i.toNatClampNeg x)) := (if_pos ⟨rfl, h, h2⟩).trans rfl
theorem mL_52 {g : Gg} : h_L (mk g) 52 = some 12 := rfl
theorem mK_53 {g : Gg} : h_K (mk g) 5 53 = true := rfl
theorem mI_53_0 {g : Gg} : h_I (mk g) 5 53 0 = some 4 := rfl
theorem mI_53_1 {g : Gg} : h_I (mk g) 5 53 1 = some 5 := rfl
theorem mR_53_2 {g : Gg} : h_R (mk g) 5 53 2 = some 54 := rfl
theorem mI_53_3 {g : Gg} : h_I (mk g) 5 53 3 = some (g 53 3) := rfl
theorem mP_53_3 {g : Gg} {x : Int32} : h_P (mk g) 5 53 3 (.int x) = some (mk (up g 53 3 x)) := rfl
theorem mA_54 {g : Gg} {i : Int32} (h : ¬ i < 0) (h2 : i.toNatClampNeg < 20) : h_A (mk g) 0 54 i = some (g 54 i.toNatClampNeg) := if_pos ⟨rfl, h, h2⟩
theorem mS_54 {g : Gg} {i x : Int32} (h : ¬ i < 0) (h2 : i.toNatClampNeg < 20) : h_S (mk g) 0 54 i x = some (mk (up g 54 i.toNatClampNeg x)) := (if_pos ⟨rfl, h, h2⟩).trans rfl
theorem mL_54 {g : Gg} : h_L (mk g) 54 = some 20 := rfl
theorem mK_55 {g : Gg} : h_K (mk g) 5 55 = true := rfl
theorem mI_55_0 {g : Gg} : h_I (mk g) 5 55 0 = some 4 := rfl
theorem mI_55_1 {g : Gg} : h_I (mk g) 5 55 1 = some 4 := rfl
theorem mR_55_2 {g : Gg} : h_R (mk g) 5 55 2 = some 56 := rfl
theorem mI_55_3 {g : Gg} : h_I (mk g) 5 55 3 = some (g 55 3) := rfl
theorem mP_55_3 {g : Gg} {x : Int32} : h_P (mk g) 5 55 3 (.int x) = some (mk (up g 55 3 x)) := rfl
theorem mA_56 {g : Gg} {i : Int32} (h : ¬ i < 0) (h2 : i.toNatClampNeg < 16) : h_A (mk g) 0 56 i = some (g 56 i.toNatClampNeg) := if_pos ⟨rfl, h, h2⟩
theorem mS_56 {g : Gg} {i x : Int32} (h : ¬ i < 0) (h2 : i.toNatClampNeg < 16) : h_S (mk g) 0 56 i x = some (mk (up g 56 i.toNatClampNeg x)) := (if_pos ⟨rfl, h, h2⟩).trans rfl
theorem mL_56 {g : Gg} : h_L (mk g) 56 = some 16 := rfl
theorem mA_57 {g : Gg} {i : Int32} (h : ¬ i < 0) (h2 : i.toNatClampNeg < 3) : h_A (mk g) 0 57 i = some (g 57 i.toNatClampNeg) := if_pos ⟨rfl, h, h2⟩
theorem mS_57 {g : Gg} {i x : Int32} (h : ¬ i < 0) (h2 : i.toNatClampNeg < 3) : h_S (mk g) 0 57 i x = some (mk (up g 57 i.toNatClampNeg x)) := (if_pos ⟨rfl, h, h2⟩).trans rfl
theorem mL_57 {g : Gg} : h_L (mk g) 57 = some 3 := rfl
theorem mA_58 {g : Gg} {i : Int32} (h : ¬ i < 0) (h2 : i.toNatClampNeg < 10) : h_A (mk g) 0 58 i = some (g 58 i.toNatClampNeg) := if_pos ⟨rfl, h, h2⟩
theorem mS_58 {g : Gg} {i x : Int32} (h : ¬ i < 0) (h2 : i.toNatClampNeg < 10) : h_S (mk g) 0 58 i x = some (mk (up g 58 i.toNatClampNeg x)) := (if_pos ⟨rfl, h, h2⟩).trans rfl
theorem mL_58 {g : Gg} : h_L (mk g) 58 = some 10 := rfl
theorem mK_59 {g : Gg} : h_K (mk g) 1 59 = true := rfl
theorem mR_59_0 {g : Gg} : h_R (mk g) 1 59 0 = some 60 := rfl
theorem mR_59_1 {g : Gg} : h_R (mk g) 1 59 1 = some 62 := rfl
theorem mR_59_2 {g : Gg} : h_R (mk g) 1 59 2 = some 64 := rfl
theorem mR_59_3 {g : Gg} : h_R (mk g) 1 59 3 = some 66 := rfl
theorem mR_59_4 {g : Gg} : h_R (mk g) 1 59 4 = some 68 := rfl
theorem mR_59_5 {g : Gg} : h_R (mk g) 1 59 5 = some 69 := rfl
theorem mK_60 {g : Gg} : h_K (mk g) 5 60 = true := rfl
theorem mI_60_0 {g : Gg} : h_I (mk g) 5 60 0 = some 2 := rfl
theorem mI_60_1 {g : Gg} : h_I (mk g) 5 60 1 = some 5 := rfl
theorem mR_60_2 {g : Gg} : h_R (mk g) 5 60 2 = some 61 := rfl
theorem mI_60_3 {g : Gg} : h_I (mk g) 5 60 3 = some (g 60 3) := rfl
theorem mP_60_3 {g : Gg} {x : Int32} : h_P (mk g) 5 60 3 (.int x) = some (mk (up g 60 3 x)) := rfl
theorem mA_61 {g : Gg} {i : Int32} (h : ¬ i < 0) (h2 : i.toNatClampNeg < 10) : h_A (mk g) 0 61 i = some (g 61 i.toNatClampNeg) := if_pos ⟨rfl, h, h2⟩
theorem mS_61 {g : Gg} {i x : Int32} (h : ¬ i < 0) (h2 : i.toNatClampNeg < 10) : h_S (mk g) 0 61 i x = some (mk (up g 61 i.toNatClampNeg x)) := (if_pos ⟨rfl, h, h2⟩).trans rfl
theorem mL_61 {g : Gg} : h_L (mk g) 61 = some 10 := rfl
theorem mK_62 {g : Gg} : h_K (mk g) 5 62 = true := rfl
theorem mI_62_0 {g : Gg} : h_I (mk g) 5 62 0 = some 3 := rfl
theorem mI_62_1 {g : Gg} : h_I (mk g) 5 62 1 = some 4 := rfl
theorem mR_62_2 {g : Gg} : h_R (mk g) 5 62 2 = some 63 := rfl
theorem mI_62_3 {g : Gg} : h_I (mk g) 5 62 3 = some (g 62 3) := rfl
theorem mP_62_3 {g : Gg} {x : Int32} : h_P (mk g) 5 62 3 (.int x) = some (mk (up g 62 3 x)) := rfl
theorem mA_63 {g : Gg} {i : Int32} (h : ¬ i < 0) (h2 : i.toNatClampNeg < 12) : h_A (mk g) 0 63 i = some (g 63 i.toNatClampNeg) := if_pos ⟨rfl, h, h2⟩
theorem mS_63 {g : Gg} {i x : Int32} (h : ¬ i < 0) (h2 : i.toNatClampNeg < 12) : h_S (mk g) 0 63 i x = some (mk (up g 63 i.toNatClampNeg x)) := (if_pos ⟨rfl, h, h2⟩).trans rfl
theorem mL_63 {g : Gg} : h_L (mk g) 63 = some 12 := rfl
theorem mK_64 {g : Gg} : h_K (mk g) 5 64 = true := rfl
theorem mI_64_0 {g : Gg} : h_I (mk g) 5 64 0 = some 4 := rfl
theorem mI_64_1 {g : Gg} : h_I (mk g) 5 64 1 = some 5 := rfl
theorem mR_64_2 {g : Gg} : h_R (mk g) 5 64 2 = some 65 := rfl
theorem mI_64_3 {g : Gg} : h_I (mk g) 5 64 3 = some (g 64 3) := rfl
theorem mP_64_3 {g : Gg} {x : Int32} : h_P (mk g) 5 64 3 (.int x) = some (mk (up g 64 3 x)) := rfl
theorem mA_65 {g : Gg} {i : Int32} (h : ¬ i < 0) (h2 : i.toNatClampNeg < 20) : h_A (mk g) 0 65 i = some (g 65 i.toNatClampNeg) := if_pos ⟨rfl, h, h2⟩
theorem mS_65 {g : Gg} {i x : Int32} (h : ¬ i < 0) (h2 : i.toNatClampNeg < 20) : h_S (mk g) 0 65 i x = some (mk (up g 65 i.toNatClampNeg x)) := (if_pos ⟨rfl, h, h2⟩).trans rfl
theorem mL_65 {g : Gg} : h_L (mk g) 65 = some 20 := rfl
theorem mK_66 {g : Gg} : h_K (mk g) 5 66 = true := rfl
theorem mI_66_0 {g : Gg} : h_I (mk g) 5 66 0 = some 4 := rfl
theorem mI_66_1 {g : Gg} : h_I (mk g) 5 66 1 = some 4 := rfl
theorem mR_66_2 {g : Gg} : h_R (mk g) 5 66 2 = some 67 := rfl
theorem mI_66_3 {g : Gg} : h_I (mk g) 5 66 3 = some (g 66 3) := rfl
theorem mP_66_3 {g : Gg} {x : Int32} : h_P (mk g) 5 66 3 (.int x) = some (mk (up g 66 3 x)) := rfl
theorem mA_67 {g : Gg} {i : Int32} (h : ¬ i < 0) (h2 : i.toNatClampNeg < 16) : h_A (mk g) 0 67 i = some (g 67 i.toNatClampNeg) := if_pos ⟨rfl, h, h2⟩
theorem mS_67 {g : Gg} {i x : Int32} (h : ¬ i < 0) (h2 : i.toNatClampNeg < 16) : h_S (mk g) 0 67 i x = some (mk (up g 67 i.toNatClampNeg x)) := (if_pos ⟨rfl, h, h2⟩).trans rfl
theorem mL_67 {g : Gg} : h_L (mk g) 67 = some 16 := rfl
theorem mA_68 {g : Gg} {i : Int32} (h : ¬ i < 0) (h2 : i.toNatClampNeg < 3) : h_A (mk g) 0 68 i = some (g 68 i.toNatClampNeg) := if_pos ⟨rfl, h, h2⟩
theorem mS_68 {g : Gg} {i x : Int32} (h : ¬ i < 0) (h2 : i.toNatClampNeg < 3) : h_S (mk g) 0 68 i x = some (mk (up g 68 i.toNatClampNeg x)) := (if_pos ⟨rfl, h, h2⟩).trans rfl
theorem mL_68 {g : Gg} : h_L (mk g) 68 = some 3 := rfl
theorem mA_69 {g : Gg} {i : Int32} (h : ¬ i < 0) (h2 : i.toNatClampNeg < 10) : h_A (mk g) 0 69 i = some (g 69 i.toNatClampNeg) := if_pos ⟨rfl, h, h2⟩
theorem mS_69 {g : Gg} {i x : Int32} (h : ¬ i < 0) (h2 : i.toNatClampNeg < 10) : h_S (mk g) 0 69 i x = some (mk (up g 69 i.toNatClampNeg x)) := (if_pos ⟨rfl, h, h2⟩).trans rfl
theorem mL_69 {g : Gg} : h_L (mk g) 69 = some 10 := rfl
theorem mK_70 {g : Gg} : h_K (mk g) 2 70 = true := rfl
theorem mR_70_0 {g : Gg} : h_R (mk g) 2 70 0 = some 71 := rfl
theorem mI_70_1 {g : Gg} : h_I (mk g) 2 70 1 = some (g 70 1) := rfl
theorem mP_70_1 {g : Gg} {x : Int32} : h_P (mk g) 2 70 1 (.int x) = some (mk (up g 70 1 x)) := rfl
theorem mI_70_2 {g : Gg} : h_I (mk g) 2 70 2 = some (g 70 2) := rfl
theorem mP_70_2 {g : Gg} {x : Int32} : h_P (mk g) 2 70 2 (.int x) = some (mk (up g 70 2 x)) := rfl
theorem mA_71 {g : Gg} {i : Int32} (h : ¬ i < 0) (h2 : i.toNatClampNeg < 40) : h_A (mk g) 0 71 i = some (g 71 i.toNatClampNeg) := if_pos ⟨rfl, h, h2⟩
theorem mS_71 {g : Gg} {i x : Int32} (h : ¬ i < 0) (h2 : i.toNatClampNeg < 40) : h_S (mk g) 0 71 i x = some (mk (up g 71 i.toNatClampNeg x)) := (if_pos ⟨rfl, h, h2⟩).trans rfl
theorem mL_71 {g : Gg} : h_L (mk g) 71 = some 40 := rfl
theorem mK_72 {g : Gg} : h_K (mk g) 2 72 = true := rfl
theorem mR_72_0 {g : Gg} : h_R (mk g) 2 72 0 = some 73 := rfl
theorem mI_72_1 {g : Gg} : h_I (mk g) 2 72 1 = some (g 72 1) := rfl
theorem mP_72_1 {g : Gg} {x : Int32} : h_P (mk g) 2 72 1 (.int x) = some (mk (up g 72 1 x)) := rfl
theorem mI_72_2 {g : Gg} : h_I (mk g) 2 72 2 = some (g 72 2) := rfl
theorem mP_72_2 {g : Gg} {x : Int32} : h_P (mk g) 2 72 2 (.int x) = some (mk (up g 72 2 x)) := rfl
theorem mA_73 {g : Gg} {i : Int32} (h : ¬ i < 0) (h2 : i.toNatClampNeg < 40) : h_A (mk g) 0 73 i = some (g 73 i.toNatClampNeg) := if_pos ⟨rfl, h, h2⟩
theorem mS_73 {g : Gg} {i x : Int32} (h : ¬ i < 0) (h2 : i.toNatClampNeg < 40) : h_S (mk g) 0 73 i x = some (mk (up g 73 i.toNatClampNeg x)) := (if_pos ⟨rfl, h, h2⟩).trans rfl
theorem mL_73 {g : Gg} : h_L (mk g) 73 = some 40 := rfl
theorem mK_74 {g : Gg} : h_K (mk g) 2 74 = true := rfl
theorem mR_74_0 {g : Gg} : h_R (mk g) 2 74 0 = some 75 := rfl
theorem mI_74_1 {g : Gg} : h_I (mk g) 2 74 1 = some (g 74 1) := rfl
theorem mP_74_1 {g : Gg} {x : Int32} : h_P (mk g) 2 74 1 (.int x) = some (mk (up g 74 1 x)) := rfl
theorem mI_74_2 {g : Gg} : h_I (mk g) 2 74 2 = some (g 74 2) := rfl
theorem mP_74_2 {g : Gg} {x : Int32} : h_P (mk g) 2 74 2 (.int x) = some (mk (up g 74 2 x)) := rfl
theorem mA_75 {g : Gg} {i : Int32} (h : ¬ i < 0) (h2 : i.toNatClampNeg < 40) : h_A (mk g) 0 75 i = some (g 75 i.toNatClampNeg) := if_pos ⟨rfl, h, h2⟩
theorem mS_75 {g : Gg} {i x : Int32} (h : ¬ i < 0) (h2 : i.toNatClampNeg < 40) : h_S (mk g) 0 75 i x = some (mk (up g 75 i.toNatClampNeg x)) := (if_pos ⟨rfl, h, h2⟩).trans rfl
theorem mL_75 {g : Gg} : h_L (mk g) 75 = some 40 := rfl
theorem mK_76 {g : Gg} : h_K (mk g) 2 76 = true := rfl
theorem mR_76_0 {g : Gg} : h_R (mk g) 2 76 0 = some 77 := rfl
theorem mI_76_1 {g : Gg} : h_I (mk g) 2 76 1 = some (g 76 1) := rfl
theorem mP_76_1 {g : Gg} {x : Int32} : h_P (mk g) 2 76 1 (.int x) = some (mk (up g 76 1 x)) := rfl
theorem mI_76_2 {g : Gg} : h_I (mk g) 2 76 2 = some (g 76 2) := rfl
theorem mP_76_2 {g : Gg} {x : Int32} : h_P (mk g) 2 76 2 (.int x) = some (mk (up g 76 2 x)) := rfl
theorem mA_77 {g : Gg} {i : Int32} (h : ¬ i < 0) (h2 : i.toNatClampNeg < 40) : h_A (mk g) 0 77 i = some (g 77 i.toNatClampNeg) := if_pos ⟨rfl, h, h2⟩
theorem mS_77 {g : Gg} {i x : Int32} (h : ¬ i < 0) (h2 : i.toNatClampNeg < 40) : h_S (mk g) 0 77 i x = some (mk (up g 77 i.toNatClampNeg x)) := (if_pos ⟨rfl, h, h2⟩).trans rfl
theorem mL_77 {g : Gg} : h_L (mk g) 77 = some 40 := rfl
theorem mK_78 {g : Gg} : h_K (mk g) 8 78 = true := rfl
theorem mR_78_0 {g : Gg} : h_R (mk g) 8 78 0 = some 79 := rfl
theorem mR_78_1 {g : Gg} : h_R (mk g) 8 78 1 = some 80 := rfl
theorem mI_78_2 {g : Gg} : h_I (mk g) 8 78 2 = some (g 78 2) := rfl
theorem mP_78_2 {g : Gg} {x : Int32} : h_P (mk g) 8 78 2 (.int x) = some (mk (up g 78 2 x)) := rfl
theorem mR_78_3 {g : Gg} : h_R (mk g) 8 78 3 = some 81 := rfl
theorem mI_78_4 {g : Gg} : h_I (mk g) 8 78 4 = some (g 78 4) := rfl
theorem mP_78_4 {g : Gg} {x : Int32} : h_P (mk g) 8 78 4 (.int x) = some (mk (up g 78 4 x)) := rfl
theorem mI_78_5 {g : Gg} : h_I (mk g) 8 78 5 = some (g 78 5) := rfl
theorem mP_78_5 {g : Gg} {x : Int32} : h_P (mk g) 8 78 5 (.int x) = some (mk (up g 78 5 x)) := rfl
theorem mI_78_6 {g : Gg} : h_I (mk g) 8 78 6 = some (g 78 6) := rfl
theorem mP_78_6 {g : Gg} {x : Int32} : h_P (mk g) 8 78 6 (.int x) = some (mk (up g 78 6 x)) := rfl
theorem mI_78_7 {g : Gg} : h_I (mk g) 8 78 7 = some (g 78 7) := rfl
theorem mP_78_7 {g : Gg} {x : Int32} : h_P (mk g) 8 78 7 (.int x) = some (mk (up g 78 7 x)) := rfl
theorem mI_78_8 {g : Gg} : h_I (mk g) 8 78 8 = some (g 78 8) := rfl
theorem mP_78_8 {g : Gg} {x : Int32} : h_P (mk g) 8 78 8 (.int x) = some (mk (up g 78 8 x)) := rfl
theorem mR_78_9 {g : Gg} : h_R (mk g) 8 78 9 = some 82 := rfl
theorem mI_78_10 {g : Gg} : h_I (mk g) 8 78 10 = some (g 78 10) := rfl
theorem mP_78_10 {g : Gg} {x : Int32} : h_P (mk g) 8 78 10 (.int x) = some (mk (up g 78 10 x)) := rfl
theorem mI_78_11 {g : Gg} : h_I (mk g) 8 78 11 = some (g 78 11) := rfl
theorem mP_78_11 {g : Gg} {x : Int32} : h_P (mk g) 8 78 11 (.int x) = some (mk (up g 78 11 x)) := rfl
theorem mI_78_12 {g : Gg} : h_I (mk g) 8 78 12 = some (g 78 12) := rfl
theorem mP_78_12 {g : Gg} {x : Int32} : h_P (mk g) 8 78 12 (.int x) = some (mk (up g 78 12 x)) := rfl
theorem mI_78_13 {g : Gg} : h_I (mk g) 8 78 13 = some (g 78 13) := rfl
theorem mP_78_13 {g : Gg} {x : Int32} : h_P (mk g) 8 78 13 (.int x) = some (mk (up g 78 13 x)) := rfl
theorem mI_78_14 {g : Gg} : h_I (mk g) 8 78 14 = some (g 78 14) := rfl
theorem mP_78_14 {g : Gg} {x : Int32} : h_P (mk g) 8 78 14 (.int x) = some (mk (up g 78 14 x)) := rfl
theorem mI_78_15 {g : Gg} : h_I (mk g) 8 78 15 = some (g 78 15) := rfl
theorem mP_78_15 {g : Gg} {x : Int32} : h_P (mk g) 8 78 15 (.int x) = some (mk (up g 78 15 x)) := rfl
theorem mI_78_16 {g : Gg} : h_I (mk g) 8 78 16 = some (g 78 16) := rfl
theorem mP_78_16 {g : Gg} {x : Int32} : h_P (mk g) 8 78 16 (.int x) = some (mk (up g 78 16 x)) := rfl
theorem mI_78_17 {g : Gg} : h_I (mk g) 8 78 17 = some (g 78 17) := rfl
theorem mP_78_17 {g : Gg} {x : Int32} : h_P (mk g) 8 78 17 (.int x) = some (mk (up g 78 17 x)) := rfl
theorem mR_78_18 {g : Gg} : h_R (mk g) 8 78 18 = some 83 := rfl
theorem mR_78_19 {g : Gg} : h_R (mk g) 8 78 19 = some 84 := rfl
theorem mR_78_20 {g : Gg} : h_R (mk g) 8 78 20 = some 85 := rfl
theorem mR_78_21 {g : Gg} : h_R (mk g) 8 78 21 = some 86 := rfl
theorem mR_78_22 {g : Gg} : h_R (mk g) 8 78 22 = some 87 := rfl
theorem mR_78_23 {g : Gg} : h_R (mk g) 8 78 23 = some 88 := rfl
theorem mI_78_24 {g : Gg} : h_I (mk g) 8 78 24 = some (g 78 24) := rfl
theorem mP_78_24 {g : Gg} {x : Int32} : h_P (mk g) 8 78 24 (.int x) = some (mk (up g 78 24 x)) := rfl
theorem mR_78_25 {g : Gg} : h_R (mk g) 8 78 25 = some 89 := rfl
theorem mI_78_26 {g : Gg} : h_I (mk g) 8 78 26 = some (g 78 26) := rfl
theorem mP_78_26 {g : Gg} {x : Int32} : h_P (mk g) 8 78 26 (.int x) = some (mk (up g 78 26 x)) := rfl
theorem mR_78_27 {g : Gg} : h_R (mk g) 8 78 27 = some 90 := rfl
theorem mR_78_28 {g : Gg} : h_R (mk g) 8 78 28 = some 91 := rfl
theorem mR_78_29 {g : Gg} : h_R (mk g) 8 78 29 = some 92 := rfl
theorem mR_78_30 {g : Gg} : h_R (mk g) 8 78 30 = some 93 := rfl
theorem mI_78_31 {g : Gg} : h_I (mk g) 8 78 31 = some (g 78 31) := rfl
theorem mP_78_31 {g : Gg} {x : Int32} : h_P (mk g) 8 78 31 (.int x) = some (mk (up g 78 31 x)) := rfl
theorem mA_79 {g : Gg} {i : Int32} (h : ¬ i < 0) (h2 : i.toNatClampNeg < 296) : h_A (mk g) 0 79 i = some (g 79 i.toNatClampNeg) := if_pos ⟨rfl, h, h2⟩
theorem mS_79 {g : Gg} {i x : Int32} (h : ¬ i < 0) (h2 : i.toNatClampNeg < 296) : h_S (mk g) 0 79 i x = some (mk (up g 79 i.toNatClampNeg x)) := (if_pos ⟨rfl, h, h2⟩).trans rfl
theorem mL_79 {g : Gg} : h_L (mk g) 79 = some 296 := rfl
theorem mA_80 {g : Gg} {i : Int32} (h : ¬ i < 0) (h2 : i.toNatClampNeg < 4) : h_A (mk g) 0 80 i = some (g 80 i.toNatClampNeg) := if_pos ⟨rfl, h, h2⟩
theorem mS_80 {g : Gg} {i x : Int32} (h : ¬ i < 0) (h2 : i.toNatClampNeg < 4) : h_S (mk g) 0 80 i x = some (mk (up g 80 i.toNatClampNeg x)) := (if_pos ⟨rfl, h, h2⟩).trans rfl
theorem mL_80 {g : Gg} : h_L (mk g) 80 = some 4 := rfl
theorem mA_81 {g : Gg} {i : Int32} (h : ¬ i < 0) (h2 : i.toNatClampNeg < 74) : h_A (mk g) 0 81 i = some (g 81 i.toNatClampNeg) := if_pos ⟨rfl, h, h2⟩
theorem mS_81 {g : Gg} {i x : Int32} (h : ¬ i < 0) (h2 : i.toNatClampNeg < 74) : h_S (mk g) 0 81 i x = some (mk (up g 81 i.toNatClampNeg x)) := (if_pos ⟨rfl, h, h2⟩).trans rfl
theorem mL_81 {g : Gg} : h_L (mk g) 81 = some 74 := rfl
theorem mA_82 {g : Gg} {i : Int32} (h : ¬ i < 0) (h2 : i.toNatClampNeg < 160) : h_A (mk g) 0 82 i = some (g 82 i.toNatClampNeg) := if_pos ⟨rfl, h, h2⟩
theorem mS_82 {g : Gg} {i x : Int32} (h : ¬ i < 0) (h2 : i.toNatClampNeg < 160) : h_S (mk g) 0 82 i x = some (mk (up g 82 i.toNatClampNeg x)) := (if_pos ⟨rfl, h, h2⟩).trans rfl
theorem mL_82 {g : Gg} : h_L (mk g) 82 = some 160 := rfl
theorem mA_83 {g : Gg} {i : Int32} (h : ¬ i < 0) (h2 : i.toNatClampNeg < 10) : h_A (mk g) 0 83 i = some (g 83 i.toNatClampNeg) := if_pos ⟨rfl, h, h2⟩
theorem mS_83 {g : Gg} {i x : Int32} (h : ¬ i < 0) (h2 : i.toNatClampNeg < 10) : h_S (mk g) 0 83 i x = some (mk (up g 83 i.toNatClampNeg x)) := (if_pos ⟨rfl, h, h2⟩).trans rfl
theorem mL_83 {g : Gg} : h_L (mk g) 83 = some 10 := rfl
theorem mA_84 {g : Gg} {i : Int32} (h : ¬ i < 0) (h2 : i.toNatClampNeg < 41) : h_A (mk g) 0 84 i = some (g 84 i.toNatClampNeg) := if_pos ⟨rfl, h, h2⟩
theorem mS_84 {g : Gg} {i x : Int32} (h : ¬ i < 0) (h2 : i.toNatClampNeg < 41) : h_S (mk g) 0 84 i x = some (mk (up g 84 i.toNatClampNeg x)) := (if_pos ⟨rfl, h, h2⟩).trans rfl
theorem mL_84 {g : Gg} : h_L (mk g) 84 = some 41 := rfl
theorem mA_85 {g : Gg} {i : Int32} (h : ¬ i < 0) (h2 : i.toNatClampNeg < 150) : h_A (mk g) 0 85 i = some (g 85 i.toNatClampNeg) := if_pos ⟨rfl, h, h2⟩
theorem mS_85 {g : Gg} {i x : Int32} (h : ¬ i < 0) (h2 : i.toNatClampNeg < 150) : h_S (mk g) 0 85 i x = some (mk (up g 85 i.toNatClampNeg x)) := (if_pos ⟨rfl, h, h2⟩).trans rfl
theorem mL_85 {g : Gg} : h_L (mk g) 85 = some 150 := rfl
theorem mA_86 {g : Gg} {i : Int32} (h : ¬ i < 0) (h2 : i.toNatClampNeg < 150) : h_A (mk g) 0 86 i = some (g 86 i.toNatClampNeg) := if_pos ⟨rfl, h, h2⟩
theorem mS_86 {g : Gg} {i x : Int32} (h : ¬ i < 0) (h2 : i.toNatClampNeg < 150) : h_S (mk g) 0 86 i x = some (mk (up g 86 i.toNatClampNeg x)) := (if_pos ⟨rfl, h, h2⟩).trans rfl
theorem mL_86 {g : Gg} : h_L (mk g) 86 = some 150 := rfl
theorem mA_87 {g : Gg} {i : Int32} (h : ¬ i < 0) (h2 : i.toNatClampNeg < 2112) : h_A (mk g) 0 87 i = some (g 87 i.toNatClampNeg) := if_pos ⟨rfl, h, h2⟩
theorem mS_87 {g : Gg} {i x : Int32} (h : ¬ i < 0) (h2 : i.toNatClampNeg < 2112) : h_S (mk g) 0 87 i x = some (mk (up g 87 i.toNatClampNeg x)) := (if_pos ⟨rfl, h, h2⟩).trans rfl
theorem mL_87 {g : Gg} : h_L (mk g) 87 = some 2112 := rfl
theorem mA_88 {g : Gg} {i : Int32} (h : ¬ i < 0) (h2 : i.toNatClampNeg < 24) : h_A (mk g) 0 88 i = some (g 88 i.toNatClampNeg) := if_pos ⟨rfl, h, h2⟩
theorem mS_88 {g : Gg} {i x : Int32} (h : ¬ i < 0) (h2 : i.toNatClampNeg < 24) : h_S (mk g) 0 88 i x = some (mk (up g 88 i.toNatClampNeg x)) := (if_pos ⟨rfl, h, h2⟩).trans rfl
theorem mL_88 {g : Gg} : h_L (mk g) 88 = some 24 := rfl
theorem mA_89 {g : Gg} {i : Int32} (h : ¬ i < 0) (h2 : i.toNatClampNeg < 90) : h_A (mk g) 0 89 i = some (g 89 i.toNatClampNeg) := if_pos ⟨rfl, h, h2⟩
theorem mS_89 {g : Gg} {i x : Int32} (h : ¬ i < 0) (h2 : i.toNatClampNeg < 90) : h_S (mk g) 0 89 i x = some (mk (up g 89 i.toNatClampNeg x)) := (if_pos ⟨rfl, h, h2⟩).trans rfl
theorem mL_89 {g : Gg} : h_L (mk g) 89 = some 90 := rfl
theorem mA_90 {g : Gg} {i : Int32} (h : ¬ i < 0) (h2 : i.toNatClampNeg < 2) : h_A (mk g) 1 90 i = some (g 90 i.toNatClampNeg) := if_pos ⟨rfl, h, h2⟩
theorem mS_90 {g : Gg} {i x : Int32} (h : ¬ i < 0) (h2 : i.toNatClampNeg < 2) : h_S (mk g) 1 90 i x = some (mk (up g 90 i.toNatClampNeg x)) := (if_pos ⟨rfl, h, h2⟩).trans rfl
theorem mA_91 {g : Gg} {i : Int32} (h : ¬ i < 0) (h2 : i.toNatClampNeg < 4) : h_A (mk g) 0 91 i = some (g 91 i.toNatClampNeg) := if_pos ⟨rfl, h, h2⟩
theorem mS_91 {g : Gg} {i x : Int32} (h : ¬ i < 0) (h2 : i.toNatClampNeg < 4) : h_S (mk g) 0 91 i x = some (mk (up g 91 i.toNatClampNeg x)) := (if_pos ⟨rfl, h, h2⟩).trans rfl
theorem mL_91 {g : Gg} : h_L (mk g) 91 = some 4 := rfl
theorem mA_92 {g : Gg} {i : Int32} (h : ¬ i < 0) (h2 : i.toNatClampNeg < 4) : h_A (mk g) 0 92 i = some (g 92 i.toNatClampNeg) := if_pos ⟨rfl, h, h2⟩
theorem mS_92 {g : Gg} {i x : Int32} (h : ¬ i < 0) (h2 : i.toNatClampNeg < 4) : h_S (mk g) 0 92 i x = some (mk (up g 92 i.toNatClampNeg x)) := (if_pos ⟨rfl, h, h2⟩).trans rfl
theorem mL_92 {g : Gg} : h_L (mk g) 92 = some 4 := rfl
theorem mA_93 {g : Gg} {i : Int32} (h : ¬ i < 0) (h2 : i.toNatClampNeg < 160) : h_A (mk g) 0 93 i = some (g 93 i.toNatClampNeg) := if_pos ⟨rfl, h, h2⟩
theorem mS_93 {g : Gg} {i x : Int32} (h : ¬ i < 0) (h2 : i.toNatClampNeg < 160) : h_S (mk g) 0 93 i x = some (mk (up g 93 i.toNatClampNeg x)) := (if_pos ⟨rfl, h, h2⟩).trans rfl
theorem mL_93 {g : Gg} : h_L (mk g) 93 = some 160 := rfl
