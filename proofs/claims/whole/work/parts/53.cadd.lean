/-! text: the class's lines -/
abbrev D1 (g : Gg) (q : Nat → Nat) (K : Nat) : Prop := Fm (g 20) (g 21) (g 22) (g 23) (g 24) (g 25) (g 26) (g 27) (g 28) q K
theorem D_addT {g g' : Gg} {q : Nat → Nat} {K a b c : Nat} {x : Nat → Int32} (hF : D1 g q K) (hG : Gd q 5) (hK : K ≤ 5) (hn : q 25 < 4) (hf : Fr [22, 23] g g') (h3 : g' 22 3 = nI (q 25 + 1)) (hx : ∀ j, j < 3 → g' 23 (q 25 * 3 + j) = x j) (ho : ∀ i, i < q 25 * 3 → g' 23 i = g 23 i) (x0 : x 0 = nI a) (x1 : x 1 = nI b) (x2 : x 2 = nI c) : D1 g' (addT q a b c) K := by
  obtain ⟨h1, h2, h3', h4, h5, h6, h7, h8, h9, h10⟩ := hF
  unfold D1
  rw [hf 20 (by decide), hf 21 (by decide), hf 24 (by decide), hf 25 (by decide), hf 26 (by decide), hf 27 (by decide), hf 28 (by decide)]
  refine ⟨h1, fun k hk => ?_, fun k hk => ?_, ?_, fun t j ht hj => ?_, ?_, fun t j ht hj => ?_, ?_, fun t j ht hj => ?_, fun j hj => ?_⟩
  · rw [addT_o hn (by omega) (by omega)]; exact h2 k hk
  · rw [addT_o hn (by omega) (by omega)]; exact h3' k hk
  · rw [addT_25]; exact h3
  · rw [addT_25] at ht
    by_cases e : t = q 25
    · subst e
      rw [hx j hj]
      rcases (show j = 0 ∨ j = 1 ∨ j = 2 by omega) with rfl | rfl | rfl
      · rw [Nat.add_zero, addT_0 hn]; exact x0
      · rw [addT_1 hn]; exact x1
      · rw [addT_2 hn]; exact x2
    · rw [ho _ (by omega), addT_o hn (by omega) (by omega)]; exact h5 t j (by omega) hj
  · rw [addT_o hn (by omega) (by omega)]; exact h6
  · rw [addT_o hn (by omega) (by omega)] at ht
    rw [addT_o hn (by omega) (by omega)]; exact h7 t j ht hj
  · rw [addT_o hn (by omega) (by omega)]; exact h8
  · rw [addT_o hn (by omega) (by omega)] at ht
    rw [addT_o hn (by omega) (by omega)]; exact h9 t j ht hj
  · rw [addT_o hn (by omega) (by omega)]; exact h10 j hj
theorem D_addW {g g' : Gg} {q : Nat → Nat} {K a b c d : Nat} {x : Nat → Int32} (hF : D1 g q K) (hG : Gd q 5) (hK : K ≤ 5) (hn : q 56 < 5) (hf : Fr [24, 25] g g') (h3 : g' 24 3 = nI (q 56 + 1)) (hx : ∀ j, j < 4 → g' 25 (q 56 * 4 + j) = x j) (ho : ∀ i, i < q 56 * 4 → g' 25 i = g 25 i) (x0 : x 0 = nI a) (x1 : x 1 = nI b) (x2 : x 2 = nI c) (x3 : x 3 = nI d) : D1 g' (addW q a b c d) K := by
  have htn := hG.tn
  obtain ⟨h1, h2, h3', h4, h5, h6, h7, h8, h9, h10⟩ := hF
  unfold D1
  rw [hf 20 (by decide), hf 21 (by decide), hf 22 (by decide), hf 23 (by decide), hf 26 (by decide), hf 27 (by decide), hf 28 (by decide)]
  refine ⟨h1, fun k hk => ?_, fun k hk => ?_, ?_, fun t j ht hj => ?_, ?_, fun t j ht hj => ?_, ?_, fun t j ht hj => ?_, fun j hj => ?_⟩
  · rw [addW_o (by omega) (by omega)]; exact h2 k hk
  · rw [addW_o (by omega) (by omega)]; exact h3' k hk
  · rw [addW_o (by omega) (by omega)]; exact h4
  · rw [addW_o (by omega) (by omega)] at ht
    rw [addW_o (by omega) (by omega)]; exact h5 t j ht hj
  · rw [addW_56]; exact h3
  · rw [addW_56] at ht
    by_cases e : t = q 56
    · subst e
      rw [hx j hj]
      rcases (show j = 0 ∨ j = 1 ∨ j = 2 ∨ j = 3 by omega) with rfl | rfl | rfl | rfl
      · rw [Nat.add_zero, addW_0 hn]; exact x0
      · rw [addW_1 hn]; exact x1
      · rw [addW_2 hn]; exact x2
      · rw [addW_3 hn]; exact x3
    · rw [ho _ (by omega), addW_o (by omega) (by omega)]; exact h7 t j (by omega) hj
  · rw [addW_o (by omega) (by omega)]; exact h8
  · rw [addW_o (by omega) (by omega)] at ht
    rw [addW_o (by omega) (by omega)]; exact h9 t j ht hj
  · rw [addW_o (by omega) (by omega)]; exact h10 j hj
theorem D_addE {g g' : Gg} {q : Nat → Nat} {K a b c d : Nat} {x : Nat → Int32} (hF : D1 g q K) (hG : Gd q 5) (hK : K ≤ 5) (hn : q 73 < 4) (hf : Fr [26, 27] g g') (h3 : g' 26 3 = nI (q 73 + 1)) (hx : ∀ j, j < 4 → g' 27 (q 73 * 4 + j) = x j) (ho : ∀ i, i < q 73 * 4 → g' 27 i = g 27 i) (x0 : x 0 = nI a) (x1 : x 1 = nI b) (x2 : x 2 = nI c) (x3 : x 3 = nI d) : D1 g' (addE q a b c d) K := by
  have htn := hG.tn
  have hwn := hG.wn
  obtain ⟨h1, h2, h3', h4, h5, h6, h7, h8, h9, h10⟩ := hF
  unfold D1
  rw [hf 20 (by decide), hf 21 (by decide), hf 22 (by decide), hf 23 (by decide), hf 24 (by decide), hf 25 (by decide), hf 28 (by decide)]
  refine ⟨h1, fun k hk => ?_, fun k hk => ?_, ?_, fun t j ht hj => ?_, ?_, fun t j ht hj => ?_, ?_, fun t j ht hj => ?_, fun j hj => ?_⟩
  · rw [addE_o (by omega) (by omega)]; exact h2 k hk
  · rw [addE_o (by omega) (by omega)]; exact h3' k hk
  · rw [addE_o (by omega) (by omega)]; exact h4
  · rw [addE_o (by omega) (by omega)] at ht
    rw [addE_o (by omega) (by omega)]; exact h5 t j ht hj
  · rw [addE_o (by omega) (by omega)]; exact h6
  · rw [addE_o (by omega) (by omega)] at ht
    rw [addE_o (by omega) (by omega)]; exact h7 t j ht hj
  · rw [addE_73]; exact h3
  · rw [addE_73] at ht
    by_cases e : t = q 73
    · subst e
      rw [hx j hj]
      rcases (show j = 0 ∨ j = 1 ∨ j = 2 ∨ j = 3 by omega) with rfl | rfl | rfl | rfl
      · rw [Nat.add_zero, addE_0 hn]; exact x0
      · rw [addE_1 hn]; exact x1
      · rw [addE_2 hn]; exact x2
      · rw [addE_3 hn]; exact x3
    · rw [ho _ (by omega), addE_o (by omega) (by omega)]; exact h9 t j (by omega) hj
  · rw [addE_o (by omega) (by omega)]; exact h10 j hj
theorem D_o {g : Gg} {q p : Nat → Nat} {K : Nat} (hF : D1 g q K) (hG : Gd q 5) (hK : K ≤ 5) (ho : ∀ i, i < 74 → p i = q i) : D1 g p K := by
  have htn := hG.tn
  have hwn := hG.wn
  have hen := hG.en
  obtain ⟨h1, h2, h3, h4, h5, h6, h7, h8, h9, h10⟩ := hF
  refine ⟨h1, fun k hk => ?_, fun k hk => ?_, ?_, fun t j ht hj => ?_, ?_, fun t j ht hj => ?_, ?_, fun t j ht hj => ?_, fun j hj => ?_⟩
  · rw [ho _ (by omega)]; exact h2 k hk
  · rw [ho _ (by omega)]; exact h3 k hk
  · rw [ho _ (by omega)]; exact h4
  · rw [ho _ (by omega)] at ht
    rw [ho _ (by omega)]; exact h5 t j ht hj
  · rw [ho _ (by omega)]; exact h6
  · rw [ho _ (by omega)] at ht
    rw [ho _ (by omega)]; exact h7 t j ht hj
  · rw [ho _ (by omega)]; exact h8
  · rw [ho _ (by omega)] at ht
    rw [ho _ (by omega)]; exact h9 t j ht hj
  · rw [ho _ (by omega)]; exact h10 j hj
/-- what the draft has is the page read -/
def Cl (g : Gg) (z : Nat → Nat) : Prop := D1 g z (z 74) ∧ Ro (g 29) z ∧ g 18 9 = nI (z 77) ∧ g 18 10 = nI (z 76)
def cl18 : List Nat := [18, 20, 21, 22, 23, 24, 25, 26, 27, 28, 29]
/-- what the class's reading may change -/
def Fk (g g' : Gg) : Prop := Fr cl18 g g' ∧ g' 18 2 = g 18 2
theorem Fk.c {g g' : Gg} {l : List Nat} (h : Fc 18 l g g') (hl : 2 ∉ l) : Fk g g' := ⟨fun c hc => h.1 c (fun e => hc (by rw [e]; decide)), h.2 2 hl⟩
theorem Fk.tr {g g1 g2 : Gg} (h1 : Fk g g1) (h2 : Fk g1 g2) : Fk g g2 := ⟨h1.1.tr h2.1 (fun c hc => ⟨hc, hc⟩), h2.2.trans h1.2⟩
theorem Fk.r {g g' : Gg} {l : List Nat} (h : Fr l g g') (hl : ∀ c ∈ l, c ∈ cl18) (h18 : 18 ∉ l) : Fk g g' := ⟨h.mo (fun c hc hcl => hc (hl c hcl)), by rw [h 18 h18]⟩
theorem Ta.k {g g' : Gg} {n : Nat} {b : Nat → Nat} (h : Ta g n b) (hf : Fk g g') : Ta g' n b := h.f (hf.1 16 (by decide)) (hf.1 17 (by decide))
theorem Cl.c {g g' : Gg} {z : Nat → Nat} {l : List Nat} (h : Cl g z) (hf : Fc 18 l g g') (hl : ∀ i ∈ [9, 10], i ∉ l) : Cl g' z := by
  unfold Cl D1
  rw [hf.1 20 (by decide), hf.1 21 (by decide), hf.1 22 (by decide), hf.1 23 (by decide), hf.1 24 (by decide), hf.1 25 (by decide), hf.1 26 (by decide), hf.1 27 (by decide), hf.1 28 (by decide), hf.1 29 (by decide), hf.2 9 (hl 9 (by decide)), hf.2 10 (hl 10 (by decide))]
  exact h
theorem Cl_K {g g' : Gg} {z : Nat → Nat} {kd v : Nat} (h : Cl g z) (hZ : Zd z) (h5 : z 74 < 5) (hf : Fr [20, 21] g g') (e3 : g' 20 3 = nI (z 74 + 1)) (hx : ∀ j, j < 2 → g' 21 (z 74 * 2 + j) = xs4 (nI kd) (nI v) (nI 0) (nI 0) j) (ho : ∀ i, i < z 74 * 2 → g' 21 i = g 21 i) : Cl g' (addK z kd v) := by
  obtain ⟨⟨h1, h2, h3, h4, h5', h6, h7, h8, h9, h10⟩, hR, h18, h19⟩ := h
  have hG := hZ.1
  have htn := hG.tn
  have hwn := hG.wn
  have hen := hG.en
  have y74 : addK z kd v 74 = z 74 + 1 := by unfold addK; rw [pt_s]
  have o : ∀ i, i ≠ z 74 → i ≠ 5 + z 74 → i ≠ 74 → addK z kd v i = z i := fun i a1 a2 a3 => by
    unfold addK
    rw [pt_n a3, pt_n a2, pt_n a1]
  have ya : addK z kd v (z 74) = kd := by
    unfold addK
    rw [pt_n (by omega), pt_n (by omega), pt_s]
  have yb : addK z kd v (5 + z 74) = v := by
    unfold addK
    rw [pt_n (by omega), pt_s]
  unfold Cl D1
  rw [hf 22 (by decide), hf 23 (by decide), hf 24 (by decide), hf 25 (by decide), hf 26 (by decide), hf 27 (by decide), hf 28 (by decide), hf 29 (by decide), hf 18 (by decide), y74]
  refine ⟨⟨e3, fun k hk => ?_, fun k hk => ?_, ?_, fun t j ht hj => ?_, ?_, fun t j ht hj => ?_, ?_, fun t j ht hj => ?_, fun j hj => ?_⟩, Ro_o hR (fun i hi => o _ (by omega) (by omega) (by omega)), ?_, ?_⟩
  · by_cases e : k = z 74
    · rw [e, ya, hx 0 (by decide)]; rfl
    · rw [o k e (by omega) (by omega), ho _ (by omega)]; exact h2 k (by omega)
  · by_cases e : k = z 74
    · rw [e, yb, hx 1 (by decide)]; rfl
    · rw [o _ (by omega) (by omega) (by omega), ho _ (by omega)]; exact h3 k (by omega)
  · rw [o _ (by omega) (by omega) (by omega)]; exact h4
  · rw [o _ (by omega) (by omega) (by omega)] at ht
    rw [o _ (by omega) (by omega) (by omega)]; exact h5' t j ht hj
  · rw [o _ (by omega) (by omega) (by omega)]; exact h6
  · rw [o _ (by omega) (by omega) (by omega)] at ht
    rw [o _ (by omega) (by omega) (by omega)]; exact h7 t j ht hj
  · rw [o _ (by omega) (by omega) (by omega)]; exact h8
  · rw [o _ (by omega) (by omega) (by omega)] at ht
    rw [o _ (by omega) (by omega) (by omega)]; exact h9 t j ht hj
  · rw [o _ (by omega) (by omega) (by omega)]; exact h10 j hj
  · rw [o _ (by omega) (by omega) (by omega)]; exact h18
  · rw [o _ (by omega) (by omega) (by omega)]; exact h19
theorem Cl_V {g : Gg} {z : Nat → Nat} {i v : Nat} (h : Cl g z) (hZ : Zd z) (hi : i < 3) : Cl (up (up g 18 9 (nI (z 77 ||| 2 ^ i))) 28 i (nI v)) (addV z i v) := by
  obtain ⟨⟨h1, h2, h3, h4, h5', h6, h7, h8, h9, h10⟩, hR, h18, h19⟩ := h
  have hG := hZ.1
  have hK := hZ.2.1
  have htn := hG.tn
  have hwn := hG.wn
  have hen := hG.en
  have o : ∀ j, j ≠ 77 → j ≠ 10 + i → addV z i v j = z j := fun j a1 a2 => by
    unfold addV
    rw [pt_n a2, pt_n a1]
  have y77 : addV z i v 77 = z 77 ||| 2 ^ i := by
    unfold addV
    rw [pt_n (by omega), pt_s]
  have yi : addV z i v (10 + i) = v := by
    unfold addV
    rw [pt_s]
  obtain ⟨w, ew⟩ : ∃ w, w = up g 18 9 (nI (z 77 ||| 2 ^ i)) := ⟨_, rfl⟩
  have wo : ∀ c, c ≠ 18 → w c = g c := fun c hc => by rw [ew, up_n hc]
  have w9 : w 18 9 = nI (z 77 ||| 2 ^ i) := by rw [ew, up_c, pk_us]
  have w10 : w 18 10 = g 18 10 := by rw [ew, up_c, pk_un (by decide)]
  rw [← ew]
  unfold Cl D1
  rw [up_c, up_n (show 18 ≠ 28 by decide), up_n (show 20 ≠ 28 by decide), up_n (show 21 ≠ 28 by decide), up_n (show 22 ≠ 28 by decide), up_n (show 23 ≠ 28 by decide), up_n (show 24 ≠ 28 by decide), up_n (show 25 ≠ 28 by decide), up_n (show 26 ≠ 28 by decide), up_n (show 27 ≠ 28 by decide), up_n (show 29 ≠ 28 by decide), w9, w10, wo 20 (by decide), wo 21 (by decide), wo 22 (by decide), wo 23 (by decide), wo 24 (by decide), wo 25 (by decide), wo 26 (by decide), wo 27 (by decide), wo 28 (by decide), wo 29 (by decide), o 74 (by omega) (by omega)]
  refine ⟨⟨h1, fun k hk => ?_, fun k hk => ?_, ?_, fun t j ht hj => ?_, ?_, fun t j ht hj => ?_, ?_, fun t j ht hj => ?_, fun j hj => ?_⟩, Ro_o hR (fun i hi => o _ (by omega) (by omega)), by rw [y77], ?_⟩
  · rw [o _ (by omega) (by omega)]; exact h2 k hk
  · rw [o _ (by omega) (by omega)]; exact h3 k hk
  · rw [o _ (by omega) (by omega)]; exact h4
  · rw [o _ (by omega) (by omega)] at ht
    rw [o _ (by omega) (by omega)]; exact h5' t j ht hj
  · rw [o _ (by omega) (by omega)]; exact h6
  · rw [o _ (by omega) (by omega)] at ht
    rw [o _ (by omega) (by omega)]; exact h7 t j ht hj
  · rw [o _ (by omega) (by omega)]; exact h8
  · rw [o _ (by omega) (by omega)] at ht
    rw [o _ (by omega) (by omega)]; exact h9 t j ht hj
  · by_cases e : j = i
    · rw [e, pk_us, yi]
    · rw [pk_un e, o _ (by omega) (by omega)]; exact h10 j hj
  · rw [o _ (by omega) (by omega)]; exact h19
theorem Cl_T {g g' : Gg} {z : Nat → Nat} {a b c : Nat} (h : Cl g z) (hZ : Zd z) (hn : z 25 < 4) (hf : Fr [22, 23] g g') (e3 : g' 22 3 = nI (z 25 + 1)) (hx : ∀ j, j < 3 → g' 23 (z 25 * 3 + j) = xs4 (nI a) (nI b) (nI c) (nI 0) j) (ho : ∀ i, i < z 25 * 3 → g' 23 i = g 23 i) : Cl g' (addT z a b c) := by
  have o : ∀ i, 26 ≤ i → addT z a b c i = z i := fun i hi => addT_o hn (by omega) (by omega)
  unfold Cl
  rw [o 74 (by decide), o 76 (by decide), o 77 (by decide), hf 18 (by decide), hf 29 (by decide)]
  exact ⟨D_addT h.1 hZ.1 hZ.2.1 hn hf e3 hx ho rfl rfl rfl, Ro_o h.2.1 (fun i hi => o _ (by omega)), h.2.2⟩
theorem Cl_78 {g : Gg} {z : Nat → Nat} {m : Nat} (h : Cl g z) (hZ : Zd z) : Cl g (pt z 78 m) := by
  unfold Cl
  rw [pt_n (by decide), pt_n (by decide), pt_n (by decide)]
  exact ⟨D_o h.1 hZ.1 hZ.2.1 (fun i hi => pt_n (by omega)), Ro_o h.2.1 (fun i hi => pt_n (by omega)), h.2.2⟩
theorem Cl_W {g g' : Gg} {z : Nat → Nat} {a b c d m : Nat} (h : Cl g z) (hZ : Zd z) (hn : z 56 < 5) (hm : m ≤ 10) (hf : Fr [24, 25] g g') (e3 : g' 24 3 = nI (z 56 + 1)) (hx : ∀ j, j < 4 → g' 25 (z 56 * 4 + j) = xs4 (nI a) (nI b) (nI c) (nI d) j) (ho : ∀ i, i < z 56 * 4 → g' 25 i = g 25 i) : Cl g' (addW (pt z 78 m) a b c d) := by
  have h := Cl_78 (m := m) h hZ
  have hG : Gd (pt z 78 m) 5 := Gd_x hZ.1 (by decide) hm
  have k : pt z 78 m 56 = z 56 := pt_n (by decide)
  have k74 : pt z 78 m 74 = z 74 := pt_n (by decide)
  have hK := hZ.2.1
  revert h hG k k74
  generalize pt z 78 m = y
  intro h hG k k74
  rw [← k] at hn e3 hx ho
  have o : ∀ i, (i < 36 ∨ 57 ≤ i) → addW y a b c d i = y i := fun i hi => addW_o (by omega) (by omega)
  unfold Cl
  rw [o 74 (by decide), o 76 (by decide), o 77 (by decide), hf 18 (by decide), hf 29 (by decide)]
  exact ⟨D_addW h.1 hG (by omega) hn hf e3 hx ho rfl rfl rfl rfl, Ro_o h.2.1 (fun i hi => o _ (by omega)), h.2.2⟩
theorem Cl_E {g g' : Gg} {z : Nat → Nat} {a b c d m : Nat} (h : Cl g z) (hZ : Zd z) (hn : z 73 < 4) (hm : m ≤ 10) (hf : Fr [26, 27] g g') (e3 : g' 26 3 = nI (z 73 + 1)) (hx : ∀ j, j < 4 → g' 27 (z 73 * 4 + j) = xs4 (nI a) (nI b) (nI c) (nI d) j) (ho : ∀ i, i < z 73 * 4 → g' 27 i = g 27 i) : Cl g' (addE (pt z 78 m) a b c d) := by
  have h := Cl_78 (m := m) h hZ
  have hG : Gd (pt z 78 m) 5 := Gd_x hZ.1 (by decide) hm
  have k : pt z 78 m 73 = z 73 := pt_n (by decide)
  have k74 : pt z 78 m 74 = z 74 := pt_n (by decide)
  have hK := hZ.2.1
  revert h hG k k74
  generalize pt z 78 m = y
  intro h hG k k74
  rw [← k] at hn e3 hx ho
  have o : ∀ i, (i < 57 ∨ 74 ≤ i) → addE y a b c d i = y i := fun i hi => addE_o (by omega) (by omega)
  unfold Cl
  rw [o 74 (by decide), o 76 (by decide), o 77 (by decide), hf 18 (by decide), hf 29 (by decide)]
  exact ⟨D_addE h.1 hG (by omega) hn hf e3 hx ho rfl rfl rfl rfl, Ro_o h.2.1 (fun i hi => o _ (by omega)), h.2.2⟩
theorem ho_r {v : Nat} (h : v ≤ 5) : ho (if v < 5 then v + 1 else 0) = if v = 5 then mi 4 else nI v := by
  rcases Nat.lt_or_ge v 5 with h1 | h1
  · rw [if_pos h1, if_neg (by omega)]
    exact ho_s (by omega)
  · rw [if_neg (by omega), if_pos (by omega)]; rfl
theorem Cl_R {g : Gg} {z : Nat → Nat} {v : Nat} (h : Cl g z) (hZ : Zd z) (hn : z 75 < 10) : Cl (up g 29 (z 75) (ho (if v < 5 then v + 1 else 0))) (addR z v) := by
  have o : ∀ j, j ≠ 75 → j ≠ 78 → j ≠ 26 + z 75 → addR z v j = z j := fun j a1 a2 a3 => by
    unfold addR
    rw [pt_n a1, pt_n a3, pt_n a2]
  have yr : addR z v (26 + z 75) = if v < 5 then v + 1 else 0 := by
    unfold addR
    rw [pt_n (by omega), pt_s]
  obtain ⟨r, er⟩ : ∃ r, r = (if v < 5 then v + 1 else 0) := ⟨_, rfl⟩
  rw [← er] at yr ⊢
  obtain ⟨⟨h1, h2, h3, h4, h5', h6, h7, h8, h9, h10⟩, hR, h18, h19⟩ := h
  have hG := hZ.1
  have hK := hZ.2.1
  have htn := hG.tn
  have hwn := hG.wn
  have hen := hG.en
  unfold Cl D1
  rw [up_c, up_n (show 18 ≠ 29 by decide), up_n (show 20 ≠ 29 by decide), up_n (show 21 ≠ 29 by decide), up_n (show 22 ≠ 29 by decide), up_n (show 23 ≠ 29 by decide), up_n (show 24 ≠ 29 by decide), up_n (show 25 ≠ 29 by decide), up_n (show 26 ≠ 29 by decide), up_n (show 27 ≠ 29 by decide), up_n (show 28 ≠ 29 by decide), o 74 (by omega) (by omega) (by omega), o 76 (by omega) (by omega) (by omega), o 77 (by omega) (by omega) (by omega)]
  refine ⟨⟨h1, fun k hk => ?_, fun k hk => ?_, ?_, fun t j ht hj => ?_, ?_, fun t j ht hj => ?_, ?_, fun t j ht hj => ?_, fun j hj => ?_⟩, fun i hi => ?_, h18, h19⟩
  · rw [o _ (by omega) (by omega) (by omega)]; exact h2 k hk
  · rw [o _ (by omega) (by omega) (by omega)]; exact h3 k hk
  · rw [o _ (by omega) (by omega) (by omega)]; exact h4
  · rw [o _ (by omega) (by omega) (by omega)] at ht
    rw [o _ (by omega) (by omega) (by omega)]; exact h5' t j ht hj
  · rw [o _ (by omega) (by omega) (by omega)]; exact h6
  · rw [o _ (by omega) (by omega) (by omega)] at ht
    rw [o _ (by omega) (by omega) (by omega)]; exact h7 t j ht hj
  · rw [o _ (by omega) (by omega) (by omega)]; exact h8
  · rw [o _ (by omega) (by omega) (by omega)] at ht
    rw [o _ (by omega) (by omega) (by omega)]; exact h9 t j ht hj
  · rw [o _ (by omega) (by omega) (by omega)]; exact h10 j hj
  · by_cases e : i = z 75
    · rw [e, pk_us, yr]
    · rw [pk_un e, o _ (by omega) (by omega) (by omega)]; exact hR i hi
