/-! the constructors -/
/-- what can be compared of a cell -/
def kd (e : hE) : (Nat × Nat × Bool) ⊕ (Nat × List Value) := match e with
  | .inl (t, n, .inl _) => .inl (t, n, true)
  | .inl (t, n, .inr _) => .inl (t, n, false)
  | .inr (d, fs) => .inr (d, fs)
def iK : List ((Nat × Nat × Bool) ⊕ (Nat × List Value)) := [.inr (7, [.ref 1, .ref 12, .ref 13, .ref 14, .ref 16, .ref 18, .ref 30, .ref 31, .ref 35, .ref 38, .ref 46, .ref 47, .int (0), .int (0)]), .inr (1, [.ref 2, .ref 4, .ref 6, .ref 8, .ref 10, .ref 11]), .inr (5, [.int (nI 2), .int (nI 5), .ref 3, .int (0)]), .inl (0, 10, true), .inr (5, [.int (nI 3), .int (nI 4), .ref 5, .int (0)]), .inl (0, 12, true), .inr (5, [.int (nI 4), .int (nI 5), .ref 7, .int (0)]), .inl (0, 20, true), .inr (5, [.int (nI 4), .int (nI 4), .ref 9, .int (0)]), .inl (0, 16, true), .inl (0, 3, true), .inl (0, 10, true), .inl (2, 2, false), .inl (1, 2, true), .inr (5, [.int (nI 4), .int (nI 6), .ref 15, .int (0)]), .inl (0, 24, true), .inr (5, [.int (nI 1), .int (nI 160), .ref 17, .int (0)]), .inl (0, 160, true), .inr (4, [.ref 19, .ref 16, .int (0), .int (0), .int (0), .int (0), .int (0), .int (0), .int (0), .int (0), .int (0)]), .inr (1, [.ref 20, .ref 22, .ref 24, .ref 26, .ref 28, .ref 29]), .inr (5, [.int (nI 2), .int (nI 5), .ref 21, .int (0)]), .inl (0, 10, true), .inr (5, [.int (nI 3), .int (nI 4), .ref 23, .int (0)]), .inl (0, 12, true), .inr (5, [.int (nI 4), .int (nI 5), .ref 25, .int (0)]), .inl (0, 20, true), .inr (5, [.int (nI 4), .int (nI 4), .ref 27, .int (0)]), .inl (0, 16, true), .inl (0, 3, true), .inl (0, 10, true), .inl (3, 4, false), .inr (6, [.ref 32, .ref 33, .ref 34]), .inl (0, 10, true), .inl (0, 10, true), .inl (0, 5, true), .inr (0, [.ref 36, .ref 37]), .inl (0, 150, true), .inl (0, 150, true), .inr (3, [.ref 39, .ref 40, .ref 41, .ref 42, .ref 44, .int (0), .int (0)]), .inl (0, 2112, true), .inl (0, 6, true), .inl (0, 10, true), .inr (5, [.int (nI 2), .int (nI 5), .ref 43, .int (0)]), .inl (0, 10, true), .inr (5, [.int (nI 4), .int (nI 5), .ref 45, .int (0)]), .inl (0, 20, true), .inl (0, 10, true), .inl (0, 90, true), .inr (1, [.ref 49, .ref 51, .ref 53, .ref 55, .ref 57, .ref 58]), .inr (5, [.int (nI 2), .int (nI 5), .ref 50, .int (0)]), .inl (0, 10, true), .inr (5, [.int (nI 3), .int (nI 4), .ref 52, .int (0)]), .inl (0, 12, true), .inr (5, [.int (nI 4), .int (nI 5), .ref 54, .int (0)]), .inl (0, 20, true), .inr (5, [.int (nI 4), .int (nI 4), .ref 56, .int (0)]), .inl (0, 16, true), .inl (0, 3, true), .inl (0, 10, true), .inr (1, [.ref 60, .ref 62, .ref 64, .ref 66, .ref 68, .ref 69]), .inr (5, [.int (nI 2), .int (nI 5), .ref 61, .int (0)]), .inl (0, 10, true), .inr (5, [.int (nI 3), .int (nI 4), .ref 63, .int (0)]), .inl (0, 12, true), .inr (5, [.int (nI 4), .int (nI 5), .ref 65, .int (0)]), .inl (0, 20, true), .inr (5, [.int (nI 4), .int (nI 4), .ref 67, .int (0)]), .inl (0, 16, true), .inl (0, 3, true), .inl (0, 10, true), .inr (2, [.ref 71, .int (0), .int (mi 4)]), .inl (0, 40, true), .inr (2, [.ref 73, .int (0), .int (mi 4)]), .inl (0, 40, true), .inr (2, [.ref 75, .int (0), .int (mi 4)]), .inl (0, 40, true), .inr (2, [.ref 77, .int (0), .int (mi 4)]), .inl (0, 40, true), .inr (8, [.ref 79, .ref 80, .int (0), .ref 81, .int (0), .int (0), .int (0), .int (0), .int (0), .ref 82, .int (0), .int (0), .int (0), .int (0), .int (0), .int (0), .int (0), .int (0), .ref 83, .ref 84, .ref 85, .ref 86, .ref 87, .ref 88, .int (0), .ref 89, .int (0), .ref 90, .ref 91, .ref 92, .ref 93, .int (0)]), .inl (0, 296, true), .inl (0, 4, true), .inl (0, 74, true), .inl (0, 160, true), .inl (0, 10, true), .inl (0, 41, true), .inl (0, 150, true), .inl (0, 150, true), .inl (0, 2112, true), .inl (0, 24, true), .inl (0, 90, true), .inl (1, 2, true), .inl (0, 4, true), .inl (0, 4, true), .inl (0, 160, true)]
theorem iK_ok : iM3.map kd = iK := by decide +kernel
theorem i_8 : (FX8_init 0 iM0).isSome = true := by decide +kernel
theorem i_9 : (FX9_init 78 iM2).isSome = true := by decide +kernel
theorem i_8l : iM1.length = 78 := by decide +kernel
theorem i_some {o : Option (Unit × Hx)} (h : o.isSome = true) : o = some ((), (o.map (fun r => r.2)).getD []) := by
  cases o with
  | none => cases h
  | some r => rfl
theorem i_8e : FX8_init 0 iM0 = some ((), iM1) := i_some i_8
theorem i_9e : FX9_init 78 iM2 = some ((), iM3) := i_some i_9
/-- a heap's numbers -/
def gOf (M : Hx) : Gg := fun c i => match M[c]? with
  | some (.inl (_, _, .inl f)) => f i
  | some (.inr (_, fs)) => (match fs[i]? with | some (.int x) => x | _ => 0)
  | _ => 0
theorem iK_at {c : Nat} {k : (Nat × Nat × Bool) ⊕ (Nat × List Value)} (h : iK[c]? = some k) : ∃ e, iM3[c]? = some e ∧ kd e = k := by
  rw [← iK_ok, List.getElem?_map] at h
  exact Option.map_eq_some_iff.mp h
theorem i_A {c t n : Nat} (h : iK[c]? = some (.inl (t, n, true))) : iM3[c]? = some (tA t n (gOf iM3 c)) := by
  obtain ⟨e, he, hk⟩ := iK_at h
  rw [he]
  match e, he, hk with
  | .inl (t', n', .inl f), he, hk =>
    have hk' : (Sum.inl (t', n', true) : (Nat × Nat × Bool) ⊕ (Nat × List Value)) = .inl (t, n, true) := hk
    cases hk'
    have hf : gOf iM3 c = f := by
      funext i
      unfold gOf
      rw [he]
    rw [hf]; rfl
  | .inl (t', n', .inr f), he, hk =>
    have hk' : (Sum.inl (t', n', false) : (Nat × Nat × Bool) ⊕ (Nat × List Value)) = .inl (t, n, true) := hk
    cases hk'
  | .inr (d, fs), he, hk =>
    have hk' : (Sum.inr (d, fs) : (Nat × Nat × Bool) ⊕ (Nat × List Value)) = .inl (t, n, true) := hk
    cases hk'
theorem i_R {c t n : Nat} (h : iK[c]? = some (.inl (t, n, false))) : iM3[c]? = some (.inl (t, n, .inr (refOf iM3 c))) := by
  obtain ⟨e, he, hk⟩ := iK_at h
  rw [he]
  match e, he, hk with
  | .inl (t', n', .inl f), he, hk =>
    have hk' : (Sum.inl (t', n', true) : (Nat × Nat × Bool) ⊕ (Nat × List Value)) = .inl (t, n, false) := hk
    cases hk'
  | .inl (t', n', .inr f), he, hk =>
    have hk' : (Sum.inl (t', n', false) : (Nat × Nat × Bool) ⊕ (Nat × List Value)) = .inl (t, n, false) := hk
    cases hk'
    have hf : refOf iM3 c = f := by
      unfold refOf
      rw [he]
    rw [hf]
  | .inr (d, fs), he, hk =>
    have hk' : (Sum.inr (d, fs) : (Nat × Nat × Bool) ⊕ (Nat × List Value)) = .inl (t, n, false) := hk
    cases hk'
theorem i_O {c d : Nat} {fs : List Value} (h : iK[c]? = some (.inr (d, fs))) : iM3[c]? = some (.inr (d, fs)) := by
  obtain ⟨e, he, hk⟩ := iK_at h
  rw [he]
  match e, he, hk with
  | .inl (t', n', .inl f), he, hk =>
    have hk' : (Sum.inl (t', n', true) : (Nat × Nat × Bool) ⊕ (Nat × List Value)) = .inr (d, fs) := hk
    cases hk'
  | .inl (t', n', .inr f), he, hk =>
    have hk' : (Sum.inl (t', n', false) : (Nat × Nat × Bool) ⊕ (Nat × List Value)) = .inr (d, fs) := hk
    cases hk'
  | .inr (d', fs'), he, hk =>
    have hk' : (Sum.inr (d', fs') : (Nat × Nat × Bool) ⊕ (Nat × List Value)) = .inr (d, fs) := hk
    cases hk'
    rfl
theorem i_Og {c d : Nat} {fs : List Value} (h : iK[c]? = some (.inr (d, fs))) (i : Nat) : gOf iM3 c i = (match fs[i]? with | some (.int x) => x | _ => 0) := by
  unfold gOf
  rw [i_O h]
theorem ic_0 : iM3[0]? = some (.inr (7, [.ref 1, .ref 12, .ref 13, .ref 14, .ref 16, .ref 18, .ref 30, .ref 31, .ref 35, .ref 38, .ref 46, .ref 47, .int (gOf iM3 0 12), .int (gOf iM3 0 13)])) := by
  rw [i_O (c := 0) rfl, i_Og (c := 0) rfl 12, i_Og (c := 0) rfl 13]
  rfl
theorem ic_1 : iM3[1]? = some (.inr (1, [.ref 2, .ref 4, .ref 6, .ref 8, .ref 10, .ref 11])) := by
  rw [i_O (c := 1) rfl]
theorem ic_2 : iM3[2]? = some (.inr (5, [.int (nI 2), .int (nI 5), .ref 3, .int (gOf iM3 2 3)])) := by
  rw [i_O (c := 2) rfl, i_Og (c := 2) rfl 3]
  rfl
theorem ic_3 : iM3[3]? = some (tA 0 10 (gOf iM3 3)) := i_A rfl
theorem ic_4 : iM3[4]? = some (.inr (5, [.int (nI 3), .int (nI 4), .ref 5, .int (gOf iM3 4 3)])) := by
  rw [i_O (c := 4) rfl, i_Og (c := 4) rfl 3]
  rfl
theorem ic_5 : iM3[5]? = some (tA 0 12 (gOf iM3 5)) := i_A rfl
theorem ic_6 : iM3[6]? = some (.inr (5, [.int (nI 4), .int (nI 5), .ref 7, .int (gOf iM3 6 3)])) := by
  rw [i_O (c := 6) rfl, i_Og (c := 6) rfl 3]
  rfl
theorem ic_7 : iM3[7]? = some (tA 0 20 (gOf iM3 7)) := i_A rfl
theorem ic_8 : iM3[8]? = some (.inr (5, [.int (nI 4), .int (nI 4), .ref 9, .int (gOf iM3 8 3)])) := by
  rw [i_O (c := 8) rfl, i_Og (c := 8) rfl 3]
  rfl
theorem ic_9 : iM3[9]? = some (tA 0 16 (gOf iM3 9)) := i_A rfl
theorem ic_10 : iM3[10]? = some (tA 0 3 (gOf iM3 10)) := i_A rfl
theorem ic_11 : iM3[11]? = some (tA 0 10 (gOf iM3 11)) := i_A rfl
theorem ic_12 : iM3[12]? = some (.inl (2, 2, .inr (refOf iM3 12))) := i_R rfl
theorem ic_13 : iM3[13]? = some (tA 1 2 (gOf iM3 13)) := i_A rfl
theorem ic_14 : iM3[14]? = some (.inr (5, [.int (nI 4), .int (nI 6), .ref 15, .int (gOf iM3 14 3)])) := by
  rw [i_O (c := 14) rfl, i_Og (c := 14) rfl 3]
  rfl
theorem ic_15 : iM3[15]? = some (tA 0 24 (gOf iM3 15)) := i_A rfl
theorem ic_16 : iM3[16]? = some (.inr (5, [.int (nI 1), .int (nI 160), .ref 17, .int (gOf iM3 16 3)])) := by
  rw [i_O (c := 16) rfl, i_Og (c := 16) rfl 3]
  rfl
theorem ic_17 : iM3[17]? = some (tA 0 160 (gOf iM3 17)) := i_A rfl
theorem ic_18 : iM3[18]? = some (.inr (4, [.ref 19, .ref 16, .int (gOf iM3 18 2), .int (gOf iM3 18 3), .int (gOf iM3 18 4), .int (gOf iM3 18 5), .int (gOf iM3 18 6), .int (gOf iM3 18 7), .int (gOf iM3 18 8), .int (gOf iM3 18 9), .int (gOf iM3 18 10)])) := by
  rw [i_O (c := 18) rfl, i_Og (c := 18) rfl 2, i_Og (c := 18) rfl 3, i_Og (c := 18) rfl 4, i_Og (c := 18) rfl 5, i_Og (c := 18) rfl 6, i_Og (c := 18) rfl 7, i_Og (c := 18) rfl 8, i_Og (c := 18) rfl 9, i_Og (c := 18) rfl 10]
  rfl
theorem ic_19 : iM3[19]? = some (.inr (1, [.ref 20, .ref 22, .ref 24, .ref 26, .ref 28, .ref 29])) := by
  rw [i_O (c := 19) rfl]
theorem ic_20 : iM3[20]? = some (.inr (5, [.int (nI 2), .int (nI 5), .ref 21, .int (gOf iM3 20 3)])) := by
  rw [i_O (c := 20) rfl, i_Og (c := 20) rfl 3]
  rfl
theorem ic_21 : iM3[21]? = some (tA 0 10 (gOf iM3 21)) := i_A rfl
theorem ic_22 : iM3[22]? = some (.inr (5, [.int (nI 3), .int (nI 4), .ref 23, .int (gOf iM3 22 3)])) := by
  rw [i_O (c := 22) rfl, i_Og (c := 22) rfl 3]
  rfl
theorem ic_23 : iM3[23]? = some (tA 0 12 (gOf iM3 23)) := i_A rfl
theorem ic_24 : iM3[24]? = some (.inr (5, [.int (nI 4), .int (nI 5), .ref 25, .int (gOf iM3 24 3)])) := by
  rw [i_O (c := 24) rfl, i_Og (c := 24) rfl 3]
  rfl
theorem ic_25 : iM3[25]? = some (tA 0 20 (gOf iM3 25)) := i_A rfl
theorem ic_26 : iM3[26]? = some (.inr (5, [.int (nI 4), .int (nI 4), .ref 27, .int (gOf iM3 26 3)])) := by
  rw [i_O (c := 26) rfl, i_Og (c := 26) rfl 3]
  rfl
theorem ic_27 : iM3[27]? = some (tA 0 16 (gOf iM3 27)) := i_A rfl
theorem ic_28 : iM3[28]? = some (tA 0 3 (gOf iM3 28)) := i_A rfl
theorem ic_29 : iM3[29]? = some (tA 0 10 (gOf iM3 29)) := i_A rfl
theorem ic_30 : iM3[30]? = some (.inl (3, 4, .inr (refOf iM3 30))) := i_R rfl
theorem ic_31 : iM3[31]? = some (.inr (6, [.ref 32, .ref 33, .ref 34])) := by
  rw [i_O (c := 31) rfl]
theorem ic_32 : iM3[32]? = some (tA 0 10 (gOf iM3 32)) := i_A rfl
theorem ic_33 : iM3[33]? = some (tA 0 10 (gOf iM3 33)) := i_A rfl
theorem ic_34 : iM3[34]? = some (tA 0 5 (gOf iM3 34)) := i_A rfl
theorem ic_35 : iM3[35]? = some (.inr (0, [.ref 36, .ref 37])) := by
  rw [i_O (c := 35) rfl]
theorem ic_36 : iM3[36]? = some (tA 0 150 (gOf iM3 36)) := i_A rfl
theorem ic_37 : iM3[37]? = some (tA 0 150 (gOf iM3 37)) := i_A rfl
theorem ic_38 : iM3[38]? = some (.inr (3, [.ref 39, .ref 40, .ref 41, .ref 42, .ref 44, .int (gOf iM3 38 5), .int (gOf iM3 38 6)])) := by
  rw [i_O (c := 38) rfl, i_Og (c := 38) rfl 5, i_Og (c := 38) rfl 6]
  rfl
theorem ic_39 : iM3[39]? = some (tA 0 2112 (gOf iM3 39)) := i_A rfl
theorem ic_40 : iM3[40]? = some (tA 0 6 (gOf iM3 40)) := i_A rfl
theorem ic_41 : iM3[41]? = some (tA 0 10 (gOf iM3 41)) := i_A rfl
theorem ic_42 : iM3[42]? = some (.inr (5, [.int (nI 2), .int (nI 5), .ref 43, .int (gOf iM3 42 3)])) := by
  rw [i_O (c := 42) rfl, i_Og (c := 42) rfl 3]
  rfl
theorem ic_43 : iM3[43]? = some (tA 0 10 (gOf iM3 43)) := i_A rfl
theorem ic_44 : iM3[44]? = some (.inr (5, [.int (nI 4), .int (nI 5), .ref 45, .int (gOf iM3 44 3)])) := by
  rw [i_O (c := 44) rfl, i_Og (c := 44) rfl 3]
  rfl
theorem ic_45 : iM3[45]? = some (tA 0 20 (gOf iM3 45)) := i_A rfl
theorem ic_46 : iM3[46]? = some (tA 0 10 (gOf iM3 46)) := i_A rfl
theorem ic_47 : iM3[47]? = some (tA 0 90 (gOf iM3 47)) := i_A rfl
theorem ic_48 : iM3[48]? = some (.inr (1, [.ref 49, .ref 51, .ref 53, .ref 55, .ref 57, .ref 58])) := by
  rw [i_O (c := 48) rfl]
theorem ic_49 : iM3[49]? = some (.inr (5, [.int (nI 2), .int (nI 5), .ref 50, .int (gOf iM3 49 3)])) := by
  rw [i_O (c := 49) rfl, i_Og (c := 49) rfl 3]
  rfl
theorem ic_50 : iM3[50]? = some (tA 0 10 (gOf iM3 50)) := i_A rfl
theorem ic_51 : iM3[51]? = some (.inr (5, [.int (nI 3), .int (nI 4), .ref 52, .int (gOf iM3 51 3)])) := by
  rw [i_O (c := 51) rfl, i_Og (c := 51) rfl 3]
  rfl
theorem ic_52 : iM3[52]? = some (tA 0 12 (gOf iM3 52)) := i_A rfl
theorem ic_53 : iM3[53]? = some (.inr (5, [.int (nI 4), .int (nI 5), .ref 54, .int (gOf iM3 53 3)])) := by
  rw [i_O (c := 53) rfl, i_Og (c := 53) rfl 3]
  rfl
theorem ic_54 : iM3[54]? = some (tA 0 20 (gOf iM3 54)) := i_A rfl
theorem ic_55 : iM3[55]? = some (.inr (5, [.int (nI 4), .int (nI 4), .ref 56, .int (gOf iM3 55 3)])) := by
  rw [i_O (c := 55) rfl, i_Og (c := 55) rfl 3]
  rfl
theorem ic_56 : iM3[56]? = some (tA 0 16 (gOf iM3 56)) := i_A rfl
theorem ic_57 : iM3[57]? = some (tA 0 3 (gOf iM3 57)) := i_A rfl
theorem ic_58 : iM3[58]? = some (tA 0 10 (gOf iM3 58)) := i_A rfl
theorem ic_59 : iM3[59]? = some (.inr (1, [.ref 60, .ref 62, .ref 64, .ref 66, .ref 68, .ref 69])) := by
  rw [i_O (c := 59) rfl]
theorem ic_60 : iM3[60]? = some (.inr (5, [.int (nI 2), .int (nI 5), .ref 61, .int (gOf iM3 60 3)])) := by
  rw [i_O (c := 60) rfl, i_Og (c := 60) rfl 3]
  rfl
theorem ic_61 : iM3[61]? = some (tA 0 10 (gOf iM3 61)) := i_A rfl
theorem ic_62 : iM3[62]? = some (.inr (5, [.int (nI 3), .int (nI 4), .ref 63, .int (gOf iM3 62 3)])) := by
  rw [i_O (c := 62) rfl, i_Og (c := 62) rfl 3]
  rfl
theorem ic_63 : iM3[63]? = some (tA 0 12 (gOf iM3 63)) := i_A rfl
theorem ic_64 : iM3[64]? = some (.inr (5, [.int (nI 4), .int (nI 5), .ref 65, .int (gOf iM3 64 3)])) := by
  rw [i_O (c := 64) rfl, i_Og (c := 64) rfl 3]
  rfl
theorem ic_65 : iM3[65]? = some (tA 0 20 (gOf iM3 65)) := i_A rfl
theorem ic_66 : iM3[66]? = some (.inr (5, [.int (nI 4), .int (nI 4), .ref 67, .int (gOf iM3 66 3)])) := by
  rw [i_O (c := 66) rfl, i_Og (c := 66) rfl 3]
  rfl
theorem ic_67 : iM3[67]? = some (tA 0 16 (gOf iM3 67)) := i_A rfl
theorem ic_68 : iM3[68]? = some (tA 0 3 (gOf iM3 68)) := i_A rfl
theorem ic_69 : iM3[69]? = some (tA 0 10 (gOf iM3 69)) := i_A rfl
theorem ic_70 : iM3[70]? = some (.inr (2, [.ref 71, .int (gOf iM3 70 1), .int (gOf iM3 70 2)])) := by
  rw [i_O (c := 70) rfl, i_Og (c := 70) rfl 1, i_Og (c := 70) rfl 2]
  rfl
theorem ic_71 : iM3[71]? = some (tA 0 40 (gOf iM3 71)) := i_A rfl
theorem ic_72 : iM3[72]? = some (.inr (2, [.ref 73, .int (gOf iM3 72 1), .int (gOf iM3 72 2)])) := by
  rw [i_O (c := 72) rfl, i_Og (c := 72) rfl 1, i_Og (c := 72) rfl 2]
  rfl
theorem ic_73 : iM3[73]? = some (tA 0 40 (gOf iM3 73)) := i_A rfl
theorem ic_74 : iM3[74]? = some (.inr (2, [.ref 75, .int (gOf iM3 74 1), .int (gOf iM3 74 2)])) := by
  rw [i_O (c := 74) rfl, i_Og (c := 74) rfl 1, i_Og (c := 74) rfl 2]
  rfl
theorem ic_75 : iM3[75]? = some (tA 0 40 (gOf iM3 75)) := i_A rfl
theorem ic_76 : iM3[76]? = some (.inr (2, [.ref 77, .int (gOf iM3 76 1), .int (gOf iM3 76 2)])) := by
  rw [i_O (c := 76) rfl, i_Og (c := 76) rfl 1, i_Og (c := 76) rfl 2]
  rfl
theorem ic_77 : iM3[77]? = some (tA 0 40 (gOf iM3 77)) := i_A rfl
theorem ic_78 : iM3[78]? = some (.inr (8, [.ref 79, .ref 80, .int (gOf iM3 78 2), .ref 81, .int (gOf iM3 78 4), .int (gOf iM3 78 5), .int (gOf iM3 78 6), .int (gOf iM3 78 7), .int (gOf iM3 78 8), .ref 82, .int (gOf iM3 78 10), .int (gOf iM3 78 11), .int (gOf iM3 78 12), .int (gOf iM3 78 13), .int (gOf iM3 78 14), .int (gOf iM3 78 15), .int (gOf iM3 78 16), .int (gOf iM3 78 17), .ref 83, .ref 84, .ref 85, .ref 86, .ref 87, .ref 88, .int (gOf iM3 78 24), .ref 89, .int (gOf iM3 78 26), .ref 90, .ref 91, .ref 92, .ref 93, .int (gOf iM3 78 31)])) := by
  rw [i_O (c := 78) rfl, i_Og (c := 78) rfl 2, i_Og (c := 78) rfl 4, i_Og (c := 78) rfl 5, i_Og (c := 78) rfl 6, i_Og (c := 78) rfl 7, i_Og (c := 78) rfl 8, i_Og (c := 78) rfl 10, i_Og (c := 78) rfl 11, i_Og (c := 78) rfl 12, i_Og (c := 78) rfl 13, i_Og (c := 78) rfl 14, i_Og (c := 78) rfl 15, i_Og (c := 78) rfl 16, i_Og (c := 78) rfl 17, i_Og (c := 78) rfl 24, i_Og (c := 78) rfl 26, i_Og (c := 78) rfl 31]
  rfl
theorem ic_79 : iM3[79]? = some (tA 0 296 (gOf iM3 79)) := i_A rfl
theorem ic_80 : iM3[80]? = some (tA 0 4 (gOf iM3 80)) := i_A rfl
theorem ic_81 : iM3[81]? = some (tA 0 74 (gOf iM3 81)) := i_A rfl
theorem ic_82 : iM3[82]? = some (tA 0 160 (gOf iM3 82)) := i_A rfl
theorem ic_83 : iM3[83]? = some (tA 0 10 (gOf iM3 83)) := i_A rfl
theorem ic_84 : iM3[84]? = some (tA 0 41 (gOf iM3 84)) := i_A rfl
theorem ic_85 : iM3[85]? = some (tA 0 150 (gOf iM3 85)) := i_A rfl
theorem ic_86 : iM3[86]? = some (tA 0 150 (gOf iM3 86)) := i_A rfl
theorem ic_87 : iM3[87]? = some (tA 0 2112 (gOf iM3 87)) := i_A rfl
theorem ic_88 : iM3[88]? = some (tA 0 24 (gOf iM3 88)) := i_A rfl
theorem ic_89 : iM3[89]? = some (tA 0 90 (gOf iM3 89)) := i_A rfl
theorem ic_90 : iM3[90]? = some (tA 1 2 (gOf iM3 90)) := i_A rfl
theorem ic_91 : iM3[91]? = some (tA 0 4 (gOf iM3 91)) := i_A rfl
theorem ic_92 : iM3[92]? = some (tA 0 4 (gOf iM3 92)) := i_A rfl
theorem ic_93 : iM3[93]? = some (tA 0 160 (gOf iM3 93)) := i_A rfl
theorem i_tl : tmpl.length = 94 := rfl
theorem i_ml : iM3.length = 94 := by
  have h : (iM3.map kd).length = iK.length := by rw [iK_ok]
  rw [List.length_map] at h
  exact h
theorem mk_i : mk (gOf iM3) = iM3 := by
  apply List.ext_getElem?
  intro c
  by_cases hc : c < 94
  · match c, hc with
    | 0, _ => rw [mk_at (c := 0) rfl, ic_0]
    | 1, _ => rw [mk_at (c := 1) rfl, ic_1]
    | 2, _ => rw [mk_at (c := 2) rfl, ic_2]
    | 3, _ => rw [mk_at (c := 3) rfl, ic_3]
    | 4, _ => rw [mk_at (c := 4) rfl, ic_4]
    | 5, _ => rw [mk_at (c := 5) rfl, ic_5]
    | 6, _ => rw [mk_at (c := 6) rfl, ic_6]
    | 7, _ => rw [mk_at (c := 7) rfl, ic_7]
    | 8, _ => rw [mk_at (c := 8) rfl, ic_8]
    | 9, _ => rw [mk_at (c := 9) rfl, ic_9]
    | 10, _ => rw [mk_at (c := 10) rfl, ic_10]
    | 11, _ => rw [mk_at (c := 11) rfl, ic_11]
    | 12, _ => rw [mk_at (c := 12) rfl, ic_12]
    | 13, _ => rw [mk_at (c := 13) rfl, ic_13]
    | 14, _ => rw [mk_at (c := 14) rfl, ic_14]
    | 15, _ => rw [mk_at (c := 15) rfl, ic_15]
    | 16, _ => rw [mk_at (c := 16) rfl, ic_16]
    | 17, _ => rw [mk_at (c := 17) rfl, ic_17]
    | 18, _ => rw [mk_at (c := 18) rfl, ic_18]
    | 19, _ => rw [mk_at (c := 19) rfl, ic_19]
    | 20, _ => rw [mk_at (c := 20) rfl, ic_20]
    | 21, _ => rw [mk_at (c := 21) rfl, ic_21]
    | 22, _ => rw [mk_at (c := 22) rfl, ic_22]
    | 23, _ => rw [mk_at (c := 23) rfl, ic_23]
    | 24, _ => rw [mk_at (c := 24) rfl, ic_24]
    | 25, _ => rw [mk_at (c := 25) rfl, ic_25]
    | 26, _ => rw [mk_at (c := 26) rfl, ic_26]
    | 27, _ => rw [mk_at (c := 27) rfl, ic_27]
    | 28, _ => rw [mk_at (c := 28) rfl, ic_28]
    | 29, _ => rw [mk_at (c := 29) rfl, ic_29]
    | 30, _ => rw [mk_at (c := 30) rfl, ic_30]
    | 31, _ => rw [mk_at (c := 31) rfl, ic_31]
    | 32, _ => rw [mk_at (c := 32) rfl, ic_32]
    | 33, _ => rw [mk_at (c := 33) rfl, ic_33]
    | 34, _ => rw [mk_at (c := 34) rfl, ic_34]
    | 35, _ => rw [mk_at (c := 35) rfl, ic_35]
    | 36, _ => rw [mk_at (c := 36) rfl, ic_36]
    | 37, _ => rw [mk_at (c := 37) rfl, ic_37]
    | 38, _ => rw [mk_at (c := 38) rfl, ic_38]
    | 39, _ => rw [mk_at (c := 39) rfl, ic_39]
    | 40, _ => rw [mk_at (c := 40) rfl, ic_40]
    | 41, _ => rw [mk_at (c := 41) rfl, ic_41]
    | 42, _ => rw [mk_at (c := 42) rfl, ic_42]
    | 43, _ => rw [mk_at (c := 43) rfl, ic_43]
    | 44, _ => rw [mk_at (c := 44) rfl, ic_44]
    | 45, _ => rw [mk_at (c := 45) rfl, ic_45]
    | 46, _ => rw [mk_at (c := 46) rfl, ic_46]
    | 47, _ => rw [mk_at (c := 47) rfl, ic_47]
    | 48, _ => rw [mk_at (c := 48) rfl, ic_48]
    | 49, _ => rw [mk_at (c := 49) rfl, ic_49]
    | 50, _ => rw [mk_at (c := 50) rfl, ic_50]
    | 51, _ => rw [mk_at (c := 51) rfl, ic_51]
    | 52, _ => rw [mk_at (c := 52) rfl, ic_52]
    | 53, _ => rw [mk_at (c := 53) rfl, ic_53]
    | 54, _ => rw [mk_at (c := 54) rfl, ic_54]
    | 55, _ => rw [mk_at (c := 55) rfl, ic_55]
    | 56, _ => rw [mk_at (c := 56) rfl, ic_56]
    | 57, _ => rw [mk_at (c := 57) rfl, ic_57]
    | 58, _ => rw [mk_at (c := 58) rfl, ic_58]
    | 59, _ => rw [mk_at (c := 59) rfl, ic_59]
    | 60, _ => rw [mk_at (c := 60) rfl, ic_60]
    | 61, _ => rw [mk_at (c := 61) rfl, ic_61]
    | 62, _ => rw [mk_at (c := 62) rfl, ic_62]
    | 63, _ => rw [mk_at (c := 63) rfl, ic_63]
    | 64, _ => rw [mk_at (c := 64) rfl, ic_64]
    | 65, _ => rw [mk_at (c := 65) rfl, ic_65]
    | 66, _ => rw [mk_at (c := 66) rfl, ic_66]
    | 67, _ => rw [mk_at (c := 67) rfl, ic_67]
    | 68, _ => rw [mk_at (c := 68) rfl, ic_68]
    | 69, _ => rw [mk_at (c := 69) rfl, ic_69]
    | 70, _ => rw [mk_at (c := 70) rfl, ic_70]
    | 71, _ => rw [mk_at (c := 71) rfl, ic_71]
    | 72, _ => rw [mk_at (c := 72) rfl, ic_72]
    | 73, _ => rw [mk_at (c := 73) rfl, ic_73]
    | 74, _ => rw [mk_at (c := 74) rfl, ic_74]
    | 75, _ => rw [mk_at (c := 75) rfl, ic_75]
    | 76, _ => rw [mk_at (c := 76) rfl, ic_76]
    | 77, _ => rw [mk_at (c := 77) rfl, ic_77]
    | 78, _ => rw [mk_at (c := 78) rfl, ic_78]
    | 79, _ => rw [mk_at (c := 79) rfl, ic_79]
    | 80, _ => rw [mk_at (c := 80) rfl, ic_80]
    | 81, _ => rw [mk_at (c := 81) rfl, ic_81]
    | 82, _ => rw [mk_at (c := 82) rfl, ic_82]
    | 83, _ => rw [mk_at (c := 83) rfl, ic_83]
    | 84, _ => rw [mk_at (c := 84) rfl, ic_84]
    | 85, _ => rw [mk_at (c := 85) rfl, ic_85]
    | 86, _ => rw [mk_at (c := 86) rfl, ic_86]
    | 87, _ => rw [mk_at (c := 87) rfl, ic_87]
    | 88, _ => rw [mk_at (c := 88) rfl, ic_88]
    | 89, _ => rw [mk_at (c := 89) rfl, ic_89]
    | 90, _ => rw [mk_at (c := 90) rfl, ic_90]
    | 91, _ => rw [mk_at (c := 91) rfl, ic_91]
    | 92, _ => rw [mk_at (c := 92) rfl, ic_92]
    | 93, _ => rw [mk_at (c := 93) rfl, ic_93]
    | c + 94, h => exact absurd h (by omega)
  · rw [List.getElem?_eq_none (by unfold mk; rw [List.length_mapIdx, i_tl]; omega), List.getElem?_eq_none (by rw [i_ml]; omega)]
