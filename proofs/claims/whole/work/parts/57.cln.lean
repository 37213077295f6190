/-! text: a line, pure and the class's -/
def full (z : Nat → Nat) (i : Nat) : Bool := decide ((i ≤ 3 ∧ z 74 = 5) ∨ (i = 5 ∧ z 25 = 4) ∨ (i = 7 ∧ z 56 = 5) ∨ (i = 8 ∧ z 73 = 4))
def body (b : Nat → Nat) (n i : Nat) (t : Nat × Nat) (z : Nat → Nat) : (Nat × Nat) × (Nat → Nat) := if i ≤ 3 then bOne b n i t z else if i = 4 then bThing b n t z else if i = 5 then bTurn b n t z else if i = 6 then rot b n 11 t (pt z 76 1) else if i = 7 then bWork b n t z else bTell b n t z
def lineI (b : Nat → Nat) (n s i : Nat) (z : Nat → Nat) : (Nat × Nat) × (Nat → Nat) := if full z i = true then ((5, s), z) else if i = 6 ∧ z 76 = 1 then ((4, s), z) else sB b n (body b n i (0, kE b n s) z)
def lineS (b : Nat → Nat) (n s : Nat) (z : Nat → Nat) : (Nat × Nat) × (Nat → Nat) := if kK b n s ≠ 1 then ((2, s), z) else if nm b s (kE b n s) = 9 then ((2, s), z) else lineI b n s (nm b s (kE b n s)) z
theorem lineI_f {b : Nat → Nat} {n s i : Nat} {z : Nat → Nat} (h : full z i = true) : lineI b n s i z = ((5, s), z) := if_pos h
theorem lineI_o {b : Nat → Nat} {n s i : Nat} {z : Nat → Nat} (h : full z i = false) (h6 : i ≠ 6) : lineI b n s i z = sB b n (body b n i (0, kE b n s) z) := by
  rw [lineI, h, if_neg (by decide), if_neg (fun h => h6 h.1)]
theorem full_t {z : Nat → Nat} {i : Nat} (h : (i ≤ 3 ∧ z 74 = 5) ∨ (i = 5 ∧ z 25 = 4) ∨ (i = 7 ∧ z 56 = 5) ∨ (i = 8 ∧ z 73 = 4)) : full z i = true := decide_eq_true h
theorem full_n {z : Nat → Nat} {i : Nat} (h : ¬ ((i ≤ 3 ∧ z 74 = 5) ∨ (i = 5 ∧ z 25 = 4) ∨ (i = 7 ∧ z 56 = 5) ∨ (i = 8 ∧ z 73 = 4))) : full z i = false := decide_eq_false h
theorem Lr.r {g g' : Gg} {n p r : Nat} {R : (Nat × Nat) × (Nat → Nat)} (h : Lr g g' n p R r) : r = 0 ∨ r = 1 := by
  rcases h.2 with h | h
  · exact Or.inl h.1
  · exact Or.inr h.1
theorem c_l0 {g : Gg} {b : Nat → Nat} {n s i : Nat} {z : Nat → Nat} (hi : i ≤ 3) (hT : Ta g n b) (h6 : g 18 6 = nI s) (h7 : g 18 7 = nI (kE b n s)) (hs : s ≤ n) (hC : Cl g z) (hZ : Zd z) : ∃ r g', FX5_takeOne 18 (nI i) (mk g) = some (nI r, mk g') ∧ Lr g g' n (kE b n s) (lineI b n s i z) r := by
  by_cases h5 : z 74 = 5
  · rw [lineI_f (full_t (Or.inl ⟨hi, h5⟩))]
    have hc := hC.1.1
    rw [h5] at hc
    have hr := c_roomN rw20 hc h6
    refine ⟨0, up (up g 18 3 (nI 5)) 18 4 (nI s), ?_, Lr.bad (Fk.c meet_f (by decide)) (by decide) meet_3 meet_4⟩
    simp -dsimp -implicitDefEqProofs (disch := omega) only [bnd_u, gd_t, if_true, if_false, ↓reduceIte, eq_self, true_or, or_true, false_or, or_false, not_true_eq_false, not_false_eq_true, and_true, true_and, and_false, false_and, reduceCtorEq, nI_ge, nI_le, nI_lt, nI_nlt, nI_ne, nI_te, nm_eq, mn_eq, nm_le, mn_le, nm_lt, mn_lt, pk_mul, nI_add, pk_sub, nI_clamp, eX5_takeOne, eX5_takeOne_30, hRd, hr]
  · have hK := hZ.2.1
    rw [lineI_o (full_n (by omega)) (by omega), body, if_pos hi]
    exact c_one hT h7 (kE_le hs) hC hZ (by omega)
theorem c_l4 {g : Gg} {b : Nat → Nat} {n s : Nat} {z : Nat → Nat} (hT : Ta g n b) (h7 : g 18 7 = nI (kE b n s)) (hs : s ≤ n) (hC : Cl g z) (hZ : Zd z) : ∃ r g', FX5_takeThing 18 (mk g) = some (nI r, mk g') ∧ Lr g g' n (kE b n s) (lineI b n s 4 z) r := by
  rw [lineI_o (full_n (by omega)) (by omega), body, if_neg (by decide), if_pos rfl]
  exact c_thingL hT h7 (kE_le hs) hC hZ
theorem c_l5 {g : Gg} {b : Nat → Nat} {n s : Nat} {z : Nat → Nat} (hT : Ta g n b) (h6 : g 18 6 = nI s) (h7 : g 18 7 = nI (kE b n s)) (hs : s ≤ n) (hC : Cl g z) (hZ : Zd z) : ∃ r g', FX5_takeTurn 18 (mk g) = some (nI r, mk g') ∧ Lr g g' n (kE b n s) (lineI b n s 5 z) r := by
  by_cases h5 : z 25 = 4
  · rw [lineI_f (full_t (Or.inr (Or.inl ⟨rfl, h5⟩)))]
    have hc := hC.1.2.2.2.1
    rw [h5] at hc
    have hr := c_roomN rw22 hc h6
    refine ⟨0, up (up g 18 3 (nI 5)) 18 4 (nI s), ?_, Lr.bad (Fk.c meet_f (by decide)) (by decide) meet_3 meet_4⟩
    simp -dsimp -implicitDefEqProofs (disch := omega) only [bnd_u, gd_t, if_true, if_false, ↓reduceIte, eq_self, true_or, or_true, false_or, or_false, not_true_eq_false, not_false_eq_true, and_true, true_and, and_false, false_and, reduceCtorEq, nI_ge, nI_le, nI_lt, nI_nlt, nI_ne, nI_te, nm_eq, mn_eq, nm_le, mn_le, nm_lt, mn_lt, pk_mul, nI_add, pk_sub, nI_clamp, eX5_takeTurn, eX5_takeTurn_24, hRd, hr]
  · have hK := hZ.1.tn
    rw [lineI_o (full_n (by omega)) (by omega), body, if_neg (by decide), if_neg (by decide), if_pos rfl]
    exact c_turn hT h7 (kE_le hs) hC hZ (by omega)
theorem c_l7 {g : Gg} {b : Nat → Nat} {n s : Nat} {z : Nat → Nat} (hT : Ta g n b) (h6 : g 18 6 = nI s) (h7 : g 18 7 = nI (kE b n s)) (hs : s ≤ n) (hC : Cl g z) (hZ : Zd z) : ∃ r g', FX5_takeWork 18 (mk g) = some (nI r, mk g') ∧ Lr g g' n (kE b n s) (lineI b n s 7 z) r := by
  by_cases h5 : z 56 = 5
  · rw [lineI_f (full_t (Or.inr (Or.inr (Or.inl ⟨rfl, h5⟩))))]
    have hc := hC.1.2.2.2.2.2.1
    rw [h5] at hc
    have hr := c_roomN rw24 hc h6
    refine ⟨0, up (up g 18 3 (nI 5)) 18 4 (nI s), ?_, Lr.bad (Fk.c meet_f (by decide)) (by decide) meet_3 meet_4⟩
    simp -dsimp -implicitDefEqProofs (disch := omega) only [bnd_u, gd_t, if_true, if_false, ↓reduceIte, eq_self, true_or, or_true, false_or, or_false, not_true_eq_false, not_false_eq_true, and_true, true_and, and_false, false_and, reduceCtorEq, nI_ge, nI_le, nI_lt, nI_nlt, nI_ne, nI_te, nm_eq, mn_eq, nm_le, mn_le, nm_lt, mn_lt, pk_mul, nI_add, pk_sub, nI_clamp, eX5_takeWork, eX5_takeWork_23, hRd, hr]
  · have hK := hZ.1.wn
    rw [lineI_o (full_n (by omega)) (by omega), body, if_neg (by decide), if_neg (by decide), if_neg (by decide), if_neg (by decide), if_pos rfl]
    exact c_work hT h7 (kE_le hs) hC hZ (by omega)
theorem c_l8 {g : Gg} {b : Nat → Nat} {n s : Nat} {z : Nat → Nat} (hT : Ta g n b) (h6 : g 18 6 = nI s) (h7 : g 18 7 = nI (kE b n s)) (hs : s ≤ n) (hC : Cl g z) (hZ : Zd z) : ∃ r g', FX5_takeTelling 18 (mk g) = some (nI r, mk g') ∧ Lr g g' n (kE b n s) (lineI b n s 8 z) r := by
  by_cases h5 : z 73 = 4
  · rw [lineI_f (full_t (Or.inr (Or.inr (Or.inr ⟨rfl, h5⟩))))]
    have hc := hC.1.2.2.2.2.2.2.2.1
    rw [h5] at hc
    have hr := c_roomN rw26 hc h6
    refine ⟨0, up (up g 18 3 (nI 5)) 18 4 (nI s), ?_, Lr.bad (Fk.c meet_f (by decide)) (by decide) meet_3 meet_4⟩
    simp -dsimp -implicitDefEqProofs (disch := omega) only [bnd_u, gd_t, if_true, if_false, ↓reduceIte, eq_self, true_or, or_true, false_or, or_false, not_true_eq_false, not_false_eq_true, and_true, true_and, and_false, false_and, reduceCtorEq, nI_ge, nI_le, nI_lt, nI_nlt, nI_ne, nI_te, nm_eq, mn_eq, nm_le, mn_le, nm_lt, mn_lt, pk_mul, nI_add, pk_sub, nI_clamp, eX5_takeTelling, eX5_takeTelling_24, hRd, hr]
  · have hK := hZ.1.en
    rw [lineI_o (full_n (by omega)) (by omega), body, if_neg (by decide), if_neg (by decide), if_neg (by decide), if_neg (by decide), if_neg (by decide)]
    exact c_tell hT h7 (kE_le hs) hC hZ (by omega)
theorem Zr_0 {z : Nat → Nat} (hZ : Zd z) (h76 : z 76 = 0) : Zr (pt z 76 1) := by
  obtain ⟨h1, h2, h3, h4, h5, h6, h7⟩ := hZ
  have h8 := h7 h76
  have o : ∀ i, i ≠ 76 → pt z 76 1 i = z i := fun i hi => pt_n hi
  refine ⟨⟨Gd_x h1 (by decide) (by decide), ?_, h3.c h1.wn h1.en (o 78 (by decide)) (fun i _ _ => o i (by omega)), ?_, ?_, ?_, fun h => ?_⟩, pt_s _ _ _, fun h _ hh => ?_⟩
  · rw [o 74 (by decide)]; exact h2
  · rw [pt_s]; exact Nat.le_refl 1
  · rw [o 77 (by decide)]; exact h5
  · rw [o 78 (by decide)]; exact h6
  · rw [pt_s] at h
    exact absurd h (by decide)
  · rw [o _ (by omega)]; exact h8.2 h hh
theorem c_l6 {g : Gg} {b : Nat → Nat} {n s : Nat} {z : Nat → Nat} (hT : Ta g n b) (h6 : g 18 6 = nI s) (h7 : g 18 7 = nI (kE b n s)) (hs : s ≤ n) (hC : Cl g z) (hZ : Zd z) : ∃ r g', FX5_takeRota 18 (mk g) = some (nI r, mk g') ∧ Lr g g' n (kE b n s) (lineI b n s 6 z) r := by
  have h10 := hC.2.2.2
  have h76 := hZ.2.2.2.1
  have fl : full z 6 = false := full_n (by omega)
  rcases (show z 76 = 0 ∨ z 76 = 1 by omega) with e | e
  · rw [e] at h10
    have e75 : pt z 76 1 75 = 0 := by rw [pt_n (by decide)]; exact (hZ.2.2.2.2.2.2 e).1
    have el : lineI b n s 6 z = sB b n (rot b n 11 (0, kE b n s) (pt z 76 1)) := by
      rw [lineI, fl, if_neg (by decide), if_neg (by omega), body, if_neg (by decide), if_neg (by decide), if_neg (by decide), if_pos rfl]
    rw [el]
    obtain ⟨u, eu⟩ : ∃ u, u = up g 18 10 (nI 1) := ⟨_, rfl⟩
    have fu9 : Fc 18 [10] g u := by rw [eu]; exact Fc.u (by decide)
    have fk := Fk.c fu9 (by decide)
    have hCu : Cl u (pt z 76 1) := by
      unfold Cl
      rw [pt_n (show 74 ≠ 76 by decide), pt_n (show 77 ≠ 76 by decide), pt_s, fu9.2 9 (by decide)]
      refine ⟨?_, ?_, hC.2.2.1, by rw [eu, up_c, pk_us]⟩
      · refine D_o ?_ hZ.1 hZ.2.1 (fun i hi => pt_n (by omega))
        unfold D1
        rw [fu9.1 20 (by decide), fu9.1 21 (by decide), fu9.1 22 (by decide), fu9.1 23 (by decide), fu9.1 24 (by decide), fu9.1 25 (by decide), fu9.1 26 (by decide), fu9.1 27 (by decide), fu9.1 28 (by decide)]
        exact hC.1
      · rw [fu9.1 29 (by decide)]
        exact Ro_o hC.2.1 (fun i hi => pt_n (by omega))
    obtain ⟨r, g', e', l1, l2⟩ := c_rot 11 fu (kE b n s) (pt z 76 1) u (by omega) (by omega) (by decide) (hT.k fk) (by rw [fu9.2 7 (by decide), h7]) (kE_le hs) hCu (Zr_0 hZ e)
    rw [e75] at e'
    refine ⟨r, g', ?_, fk.tr l1, ?_⟩
    · rw [← e']
      simp -dsimp -implicitDefEqProofs (disch := omega) only [bnd_u, gd_t, if_true, if_false, ↓reduceIte, eq_self, true_or, or_true, false_or, or_false, not_true_eq_false, not_false_eq_true, and_true, true_and, and_false, false_and, reduceCtorEq, nI_ge, nI_le, nI_lt, nI_nlt, nI_ne, nI_te, nm_eq, mn_eq, nm_le, mn_le, nm_lt, mn_lt, pk_mul, nI_add, pk_sub, nI_clamp, eX5_takeRota, hRd, h10, ← eu]
    · rw [fu9.2 3 (by decide)] at l2
      exact l2
  · rw [e] at h10
    have el : lineI b n s 6 z = ((4, s), z) := by
      rw [lineI, fl, if_neg (by decide), if_pos ⟨rfl, e⟩]
    rw [el]
    have hm := c_meet (c := 4) h6
    refine ⟨0, up (up g 18 3 (nI 4)) 18 4 (nI s), ?_, Lr.bad (Fk.c meet_f (by decide)) (by decide) meet_3 meet_4⟩
    simp -dsimp -implicitDefEqProofs (disch := omega) only [bnd_u, gd_t, if_true, if_false, ↓reduceIte, eq_self, true_or, or_true, false_or, or_false, not_true_eq_false, not_false_eq_true, and_true, true_and, and_false, false_and, reduceCtorEq, nI_ge, nI_le, nI_lt, nI_nlt, nI_ne, nI_te, nm_eq, mn_eq, nm_le, mn_le, nm_lt, mn_lt, pk_mul, nI_add, pk_sub, nI_clamp, eX5_takeRota, hRd, h10, hm]
theorem c_line {g : Gg} {b : Nat → Nat} {n s : Nat} {z : Nat → Nat} (hT : Ta g n b) (h5 : g 18 5 = nI (kK b n s)) (h6 : g 18 6 = nI s) (h7 : g 18 7 = nI (kE b n s)) (hs : s < n) (hC : Cl g z) (hZ : Zd z) : ∃ r g', FX5_takeLine 18 (mk g) = some (nI r, mk g') ∧ Lr g g' n (kE b n s) (lineS b n s z) r := by
  have hkl := kK_le b n s
  have hm := c_meet (c := 2) h6
  have hsn : s ≤ n := by omega
  unfold lineS
  by_cases k1 : kK b n s = 1
  · rw [if_neg (by omega)]
    rw [k1] at h5
    have hE := kE_gt (b := b) hs
    have hW : ∀ j, j < 9 → FX5_isWord 18 (1000 + j) (mk g) = some (nI (wd b s (kE b n s) j).toNat, mk g) := fun j hj => c_word hT h6 h7 (by omega) (kE_le hsn) hj
    have hF : ∀ j, j < 9 → wd b s (kE b n s) j = false → FX5_isWord 18 (1000 + j) (mk g) = some (nI 0, mk g) := fun j hj hw => by rw [hW j hj, hw]; rfl
    have hY : ∀ j, j < 9 → wd b s (kE b n s) j = true → FX5_isWord 18 (1000 + j) (mk g) = some (nI 1, mk g) := fun j hj hw => by rw [hW j hj, hw]; rfl
    rcases nm_i b s (kE b n s) with ⟨h9, hw⟩ | ⟨hlt, hwt, hwf⟩
    · rw [if_pos h9]
      have w0 := hF 0 (by decide) (hw 0 (by decide))
      have v0 : FX5_isWord 18 1000 (mk g) = some (nI 0, mk g) := w0
      have w1 := hF 1 (by decide) (hw 1 (by decide))
      have v1 : FX5_isWord 18 1001 (mk g) = some (nI 0, mk g) := w1
      have w2 := hF 2 (by decide) (hw 2 (by decide))
      have v2 : FX5_isWord 18 1002 (mk g) = some (nI 0, mk g) := w2
      have w3 := hF 3 (by decide) (hw 3 (by decide))
      have v3 : FX5_isWord 18 1003 (mk g) = some (nI 0, mk g) := w3
      have w4 := hF 4 (by decide) (hw 4 (by decide))
      have v4 : FX5_isWord 18 1004 (mk g) = some (nI 0, mk g) := w4
      have w5 := hF 5 (by decide) (hw 5 (by decide))
      have v5 : FX5_isWord 18 1005 (mk g) = some (nI 0, mk g) := w5
      have w6 := hF 6 (by decide) (hw 6 (by decide))
      have v6 : FX5_isWord 18 1006 (mk g) = some (nI 0, mk g) := w6
      have w7 := hF 7 (by decide) (hw 7 (by decide))
      have v7 : FX5_isWord 18 1007 (mk g) = some (nI 0, mk g) := w7
      have w8 := hF 8 (by decide) (hw 8 (by decide))
      have v8 : FX5_isWord 18 1008 (mk g) = some (nI 0, mk g) := w8
      refine ⟨0, up (up g 18 3 (nI 2)) 18 4 (nI s), ?_, Lr.bad (Fk.c meet_f (by decide)) (by decide) meet_3 meet_4⟩
      simp -dsimp -implicitDefEqProofs (disch := omega) only [bnd_u, gd_t, if_true, if_false, ↓reduceIte, eq_self, true_or, or_true, false_or, or_false, not_true_eq_false, not_false_eq_true, and_true, true_and, and_false, false_and, reduceCtorEq, nI_ge, nI_le, nI_lt, nI_nlt, nI_ne, nI_te, nm_eq, mn_eq, nm_le, mn_le, nm_lt, mn_lt, pk_mul, nI_add, pk_sub, nI_clamp, eX5_takeLine, eX5_takeLine_151, hRd, h5, hm, w0, v0, w1, v1, w2, v2, w3, v3, w4, v4, w5, v5, w6, v6, w7, v7, w8, v8]
    · rw [if_neg (by omega)]
      revert hlt hwt hwf
      generalize nm b s (kE b n s) = i
      intro hlt hwt hwf
      rcases (show i = 0 ∨ i = 1 ∨ i = 2 ∨ i = 3 ∨ i = 4 ∨ i = 5 ∨ i = 6 ∨ i = 7 ∨ i = 8 by omega) with rfl | rfl | rfl | rfl | rfl | rfl | rfl | rfl | rfl
      · obtain ⟨r, g', e, l⟩ := c_l0 (i := 0) (by decide) hT h6 h7 hsn hC hZ
        have w0 := hY 0 (by decide) hwt
        have v0 : FX5_isWord 18 1000 (mk g) = some (nI 1, mk g) := w0
        refine ⟨r, g', ?_, l⟩
        rcases l.r with rfl | rfl
        · simp -dsimp -implicitDefEqProofs (disch := omega) only [bnd_u, gd_t, if_true, if_false, ↓reduceIte, eq_self, true_or, or_true, false_or, or_false, not_true_eq_false, not_false_eq_true, and_true, true_and, and_false, false_and, reduceCtorEq, nI_ge, nI_le, nI_lt, nI_nlt, nI_ne, nI_te, nm_eq, mn_eq, nm_le, mn_le, nm_lt, mn_lt, pk_mul, nI_add, pk_sub, nI_clamp, eX5_takeLine, eX5_takeLine_151, hRd, h5, w0, v0, e]
        · simp -dsimp -implicitDefEqProofs (disch := omega) only [bnd_u, gd_t, if_true, if_false, ↓reduceIte, eq_self, true_or, or_true, false_or, or_false, not_true_eq_false, not_false_eq_true, and_true, true_and, and_false, false_and, reduceCtorEq, nI_ge, nI_le, nI_lt, nI_nlt, nI_ne, nI_te, nm_eq, mn_eq, nm_le, mn_le, nm_lt, mn_lt, pk_mul, nI_add, pk_sub, nI_clamp, eX5_takeLine, eX5_takeLine_151, hRd, h5, w0, v0, e]
      · obtain ⟨r, g', e, l⟩ := c_l0 (i := 1) (by decide) hT h6 h7 hsn hC hZ
        have w0 := hF 0 (by decide) (hwf 0 (by decide))
        have v0 : FX5_isWord 18 1000 (mk g) = some (nI 0, mk g) := w0
        have w1 := hY 1 (by decide) hwt
        have v1 : FX5_isWord 18 1001 (mk g) = some (nI 1, mk g) := w1
        refine ⟨r, g', ?_, l⟩
        rcases l.r with rfl | rfl
        · simp -dsimp -implicitDefEqProofs (disch := omega) only [bnd_u, gd_t, if_true, if_false, ↓reduceIte, eq_self, true_or, or_true, false_or, or_false, not_true_eq_false, not_false_eq_true, and_true, true_and, and_false, false_and, reduceCtorEq, nI_ge, nI_le, nI_lt, nI_nlt, nI_ne, nI_te, nm_eq, mn_eq, nm_le, mn_le, nm_lt, mn_lt, pk_mul, nI_add, pk_sub, nI_clamp, eX5_takeLine, eX5_takeLine_151, hRd, h5, w0, v0, w1, v1, e]
        · simp -dsimp -implicitDefEqProofs (disch := omega) only [bnd_u, gd_t, if_true, if_false, ↓reduceIte, eq_self, true_or, or_true, false_or, or_false, not_true_eq_false, not_false_eq_true, and_true, true_and, and_false, false_and, reduceCtorEq, nI_ge, nI_le, nI_lt, nI_nlt, nI_ne, nI_te, nm_eq, mn_eq, nm_le, mn_le, nm_lt, mn_lt, pk_mul, nI_add, pk_sub, nI_clamp, eX5_takeLine, eX5_takeLine_151, hRd, h5, w0, v0, w1, v1, e]
      · obtain ⟨r, g', e, l⟩ := c_l0 (i := 2) (by decide) hT h6 h7 hsn hC hZ
        have w0 := hF 0 (by decide) (hwf 0 (by decide))
        have v0 : FX5_isWord 18 1000 (mk g) = some (nI 0, mk g) := w0
        have w1 := hF 1 (by decide) (hwf 1 (by decide))
        have v1 : FX5_isWord 18 1001 (mk g) = some (nI 0, mk g) := w1
        have w2 := hY 2 (by decide) hwt
        have v2 : FX5_isWord 18 1002 (mk g) = some (nI 1, mk g) := w2
        refine ⟨r, g', ?_, l⟩
        rcases l.r with rfl | rfl
        · simp -dsimp -implicitDefEqProofs (disch := omega) only [bnd_u, gd_t, if_true, if_false, ↓reduceIte, eq_self, true_or, or_true, false_or, or_false, not_true_eq_false, not_false_eq_true, and_true, true_and, and_false, false_and, reduceCtorEq, nI_ge, nI_le, nI_lt, nI_nlt, nI_ne, nI_te, nm_eq, mn_eq, nm_le, mn_le, nm_lt, mn_lt, pk_mul, nI_add, pk_sub, nI_clamp, eX5_takeLine, eX5_takeLine_151, hRd, h5, w0, v0, w1, v1, w2, v2, e]
        · simp -dsimp -implicitDefEqProofs (disch := omega) only [bnd_u, gd_t, if_true, if_false, ↓reduceIte, eq_self, true_or, or_true, false_or, or_false, not_true_eq_false, not_false_eq_true, and_true, true_and, and_false, false_and, reduceCtorEq, nI_ge, nI_le, nI_lt, nI_nlt, nI_ne, nI_te, nm_eq, mn_eq, nm_le, mn_le, nm_lt, mn_lt, pk_mul, nI_add, pk_sub, nI_clamp, eX5_takeLine, eX5_takeLine_151, hRd, h5, w0, v0, w1, v1, w2, v2, e]
      · obtain ⟨r, g', e, l⟩ := c_l0 (i := 3) (by decide) hT h6 h7 hsn hC hZ
        have w0 := hF 0 (by decide) (hwf 0 (by decide))
        have v0 : FX5_isWord 18 1000 (mk g) = some (nI 0, mk g) := w0
        have w1 := hF 1 (by decide) (hwf 1 (by decide))
        have v1 : FX5_isWord 18 1001 (mk g) = some (nI 0, mk g) := w1
        have w2 := hF 2 (by decide) (hwf 2 (by decide))
        have v2 : FX5_isWord 18 1002 (mk g) = some (nI 0, mk g) := w2
        have w3 := hY 3 (by decide) hwt
        have v3 : FX5_isWord 18 1003 (mk g) = some (nI 1, mk g) := w3
        refine ⟨r, g', ?_, l⟩
        rcases l.r with rfl | rfl
        · simp -dsimp -implicitDefEqProofs (disch := omega) only [bnd_u, gd_t, if_true, if_false, ↓reduceIte, eq_self, true_or, or_true, false_or, or_false, not_true_eq_false, not_false_eq_true, and_true, true_and, and_false, false_and, reduceCtorEq, nI_ge, nI_le, nI_lt, nI_nlt, nI_ne, nI_te, nm_eq, mn_eq, nm_le, mn_le, nm_lt, mn_lt, pk_mul, nI_add, pk_sub, nI_clamp, eX5_takeLine, eX5_takeLine_151, hRd, h5, w0, v0, w1, v1, w2, v2, w3, v3, e]
        · simp -dsimp -implicitDefEqProofs (disch := omega) only [bnd_u, gd_t, if_true, if_false, ↓reduceIte, eq_self, true_or, or_true, false_or, or_false, not_true_eq_false, not_false_eq_true, and_true, true_and, and_false, false_and, reduceCtorEq, nI_ge, nI_le, nI_lt, nI_nlt, nI_ne, nI_te, nm_eq, mn_eq, nm_le, mn_le, nm_lt, mn_lt, pk_mul, nI_add, pk_sub, nI_clamp, eX5_takeLine, eX5_takeLine_151, hRd, h5, w0, v0, w1, v1, w2, v2, w3, v3, e]
      · obtain ⟨r, g', e, l⟩ := c_l4 hT h7 hsn hC hZ
        have w0 := hF 0 (by decide) (hwf 0 (by decide))
        have v0 : FX5_isWord 18 1000 (mk g) = some (nI 0, mk g) := w0
        have w1 := hF 1 (by decide) (hwf 1 (by decide))
        have v1 : FX5_isWord 18 1001 (mk g) = some (nI 0, mk g) := w1
        have w2 := hF 2 (by decide) (hwf 2 (by decide))
        have v2 : FX5_isWord 18 1002 (mk g) = some (nI 0, mk g) := w2
        have w3 := hF 3 (by decide) (hwf 3 (by decide))
        have v3 : FX5_isWord 18 1003 (mk g) = some (nI 0, mk g) := w3
        have w4 := hY 4 (by decide) hwt
        have v4 : FX5_isWord 18 1004 (mk g) = some (nI 1, mk g) := w4
        refine ⟨r, g', ?_, l⟩
        rcases l.r with rfl | rfl
        · simp -dsimp -implicitDefEqProofs (disch := omega) only [bnd_u, gd_t, if_true, if_false, ↓reduceIte, eq_self, true_or, or_true, false_or, or_false, not_true_eq_false, not_false_eq_true, and_true, true_and, and_false, false_and, reduceCtorEq, nI_ge, nI_le, nI_lt, nI_nlt, nI_ne, nI_te, nm_eq, mn_eq, nm_le, mn_le, nm_lt, mn_lt, pk_mul, nI_add, pk_sub, nI_clamp, eX5_takeLine, eX5_takeLine_151, hRd, h5, w0, v0, w1, v1, w2, v2, w3, v3, w4, v4, e]
        · simp -dsimp -implicitDefEqProofs (disch := omega) only [bnd_u, gd_t, if_true, if_false, ↓reduceIte, eq_self, true_or, or_true, false_or, or_false, not_true_eq_false, not_false_eq_true, and_true, true_and, and_false, false_and, reduceCtorEq, nI_ge, nI_le, nI_lt, nI_nlt, nI_ne, nI_te, nm_eq, mn_eq, nm_le, mn_le, nm_lt, mn_lt, pk_mul, nI_add, pk_sub, nI_clamp, eX5_takeLine, eX5_takeLine_151, hRd, h5, w0, v0, w1, v1, w2, v2, w3, v3, w4, v4, e]
      · obtain ⟨r, g', e, l⟩ := c_l5 hT h6 h7 hsn hC hZ
        have w0 := hF 0 (by decide) (hwf 0 (by decide))
        have v0 : FX5_isWord 18 1000 (mk g) = some (nI 0, mk g) := w0
        have w1 := hF 1 (by decide) (hwf 1 (by decide))
        have v1 : FX5_isWord 18 1001 (mk g) = some (nI 0, mk g) := w1
        have w2 := hF 2 (by decide) (hwf 2 (by decide))
        have v2 : FX5_isWord 18 1002 (mk g) = some (nI 0, mk g) := w2
        have w3 := hF 3 (by decide) (hwf 3 (by decide))
        have v3 : FX5_isWord 18 1003 (mk g) = some (nI 0, mk g) := w3
        have w4 := hF 4 (by decide) (hwf 4 (by decide))
        have v4 : FX5_isWord 18 1004 (mk g) = some (nI 0, mk g) := w4
        have w5 := hY 5 (by decide) hwt
        have v5 : FX5_isWord 18 1005 (mk g) = some (nI 1, mk g) := w5
        refine ⟨r, g', ?_, l⟩
        rcases l.r with rfl | rfl
        · simp -dsimp -implicitDefEqProofs (disch := omega) only [bnd_u, gd_t, if_true, if_false, ↓reduceIte, eq_self, true_or, or_true, false_or, or_false, not_true_eq_false, not_false_eq_true, and_true, true_and, and_false, false_and, reduceCtorEq, nI_ge, nI_le, nI_lt, nI_nlt, nI_ne, nI_te, nm_eq, mn_eq, nm_le, mn_le, nm_lt, mn_lt, pk_mul, nI_add, pk_sub, nI_clamp, eX5_takeLine, eX5_takeLine_151, hRd, h5, w0, v0, w1, v1, w2, v2, w3, v3, w4, v4, w5, v5, e]
        · simp -dsimp -implicitDefEqProofs (disch := omega) only [bnd_u, gd_t, if_true, if_false, ↓reduceIte, eq_self, true_or, or_true, false_or, or_false, not_true_eq_false, not_false_eq_true, and_true, true_and, and_false, false_and, reduceCtorEq, nI_ge, nI_le, nI_lt, nI_nlt, nI_ne, nI_te, nm_eq, mn_eq, nm_le, mn_le, nm_lt, mn_lt, pk_mul, nI_add, pk_sub, nI_clamp, eX5_takeLine, eX5_takeLine_151, hRd, h5, w0, v0, w1, v1, w2, v2, w3, v3, w4, v4, w5, v5, e]
      · obtain ⟨r, g', e, l⟩ := c_l6 hT h6 h7 hsn hC hZ
        have w0 := hF 0 (by decide) (hwf 0 (by decide))
        have v0 : FX5_isWord 18 1000 (mk g) = some (nI 0, mk g) := w0
        have w1 := hF 1 (by decide) (hwf 1 (by decide))
        have v1 : FX5_isWord 18 1001 (mk g) = some (nI 0, mk g) := w1
        have w2 := hF 2 (by decide) (hwf 2 (by decide))
        have v2 : FX5_isWord 18 1002 (mk g) = some (nI 0, mk g) := w2
        have w3 := hF 3 (by decide) (hwf 3 (by decide))
        have v3 : FX5_isWord 18 1003 (mk g) = some (nI 0, mk g) := w3
        have w4 := hF 4 (by decide) (hwf 4 (by decide))
        have v4 : FX5_isWord 18 1004 (mk g) = some (nI 0, mk g) := w4
        have w5 := hF 5 (by decide) (hwf 5 (by decide))
        have v5 : FX5_isWord 18 1005 (mk g) = some (nI 0, mk g) := w5
        have w6 := hY 6 (by decide) hwt
        have v6 : FX5_isWord 18 1006 (mk g) = some (nI 1, mk g) := w6
        refine ⟨r, g', ?_, l⟩
        rcases l.r with rfl | rfl
        · simp -dsimp -implicitDefEqProofs (disch := omega) only [bnd_u, gd_t, if_true, if_false, ↓reduceIte, eq_self, true_or, or_true, false_or, or_false, not_true_eq_false, not_false_eq_true, and_true, true_and, and_false, false_and, reduceCtorEq, nI_ge, nI_le, nI_lt, nI_nlt, nI_ne, nI_te, nm_eq, mn_eq, nm_le, mn_le, nm_lt, mn_lt, pk_mul, nI_add, pk_sub, nI_clamp, eX5_takeLine, eX5_takeLine_151, hRd, h5, w0, v0, w1, v1, w2, v2, w3, v3, w4, v4, w5, v5, w6, v6, e]
        · simp -dsimp -implicitDefEqProofs (disch := omega) only [bnd_u, gd_t, if_true, if_false, ↓reduceIte, eq_self, true_or, or_true, false_or, or_false, not_true_eq_false, not_false_eq_true, and_true, true_and, and_false, false_and, reduceCtorEq, nI_ge, nI_le, nI_lt, nI_nlt, nI_ne, nI_te, nm_eq, mn_eq, nm_le, mn_le, nm_lt, mn_lt, pk_mul, nI_add, pk_sub, nI_clamp, eX5_takeLine, eX5_takeLine_151, hRd, h5, w0, v0, w1, v1, w2, v2, w3, v3, w4, v4, w5, v5, w6, v6, e]
      · obtain ⟨r, g', e, l⟩ := c_l7 hT h6 h7 hsn hC hZ
        have w0 := hF 0 (by decide) (hwf 0 (by decide))
        have v0 : FX5_isWord 18 1000 (mk g) = some (nI 0, mk g) := w0
        have w1 := hF 1 (by decide) (hwf 1 (by decide))
        have v1 : FX5_isWord 18 1001 (mk g) = some (nI 0, mk g) := w1
        have w2 := hF 2 (by decide) (hwf 2 (by decide))
        have v2 : FX5_isWord 18 1002 (mk g) = some (nI 0, mk g) := w2
        have w3 := hF 3 (by decide) (hwf 3 (by decide))
        have v3 : FX5_isWord 18 1003 (mk g) = some (nI 0, mk g) := w3
        have w4 := hF 4 (by decide) (hwf 4 (by decide))
        have v4 : FX5_isWord 18 1004 (mk g) = some (nI 0, mk g) := w4
        have w5 := hF 5 (by decide) (hwf 5 (by decide))
        have v5 : FX5_isWord 18 1005 (mk g) = some (nI 0, mk g) := w5
        have w6 := hF 6 (by decide) (hwf 6 (by decide))
        have v6 : FX5_isWord 18 1006 (mk g) = some (nI 0, mk g) := w6
        have w7 := hY 7 (by decide) hwt
        have v7 : FX5_isWord 18 1007 (mk g) = some (nI 1, mk g) := w7
        refine ⟨r, g', ?_, l⟩
        rcases l.r with rfl | rfl
        · simp -dsimp -implicitDefEqProofs (disch := omega) only [bnd_u, gd_t, if_true, if_false, ↓reduceIte, eq_self, true_or, or_true, false_or, or_false, not_true_eq_false, not_false_eq_true, and_true, true_and, and_false, false_and, reduceCtorEq, nI_ge, nI_le, nI_lt, nI_nlt, nI_ne, nI_te, nm_eq, mn_eq, nm_le, mn_le, nm_lt, mn_lt, pk_mul, nI_add, pk_sub, nI_clamp, eX5_takeLine, eX5_takeLine_151, hRd, h5, w0, v0, w1, v1, w2, v2, w3, v3, w4, v4, w5, v5, w6, v6, w7, v7, e]
        · simp -dsimp -implicitDefEqProofs (disch := omega) only [bnd_u, gd_t, if_true, if_false, ↓reduceIte, eq_self, true_or, or_true, false_or, or_false, not_true_eq_false, not_false_eq_true, and_true, true_and, and_false, false_and, reduceCtorEq, nI_ge, nI_le, nI_lt, nI_nlt, nI_ne, nI_te, nm_eq, mn_eq, nm_le, mn_le, nm_lt, mn_lt, pk_mul, nI_add, pk_sub, nI_clamp, eX5_takeLine, eX5_takeLine_151, hRd, h5, w0, v0, w1, v1, w2, v2, w3, v3, w4, v4, w5, v5, w6, v6, w7, v7, e]
      · obtain ⟨r, g', e, l⟩ := c_l8 hT h6 h7 hsn hC hZ
        have w0 := hF 0 (by decide) (hwf 0 (by decide))
        have v0 : FX5_isWord 18 1000 (mk g) = some (nI 0, mk g) := w0
        have w1 := hF 1 (by decide) (hwf 1 (by decide))
        have v1 : FX5_isWord 18 1001 (mk g) = some (nI 0, mk g) := w1
        have w2 := hF 2 (by decide) (hwf 2 (by decide))
        have v2 : FX5_isWord 18 1002 (mk g) = some (nI 0, mk g) := w2
        have w3 := hF 3 (by decide) (hwf 3 (by decide))
        have v3 : FX5_isWord 18 1003 (mk g) = some (nI 0, mk g) := w3
        have w4 := hF 4 (by decide) (hwf 4 (by decide))
        have v4 : FX5_isWord 18 1004 (mk g) = some (nI 0, mk g) := w4
        have w5 := hF 5 (by decide) (hwf 5 (by decide))
        have v5 : FX5_isWord 18 1005 (mk g) = some (nI 0, mk g) := w5
        have w6 := hF 6 (by decide) (hwf 6 (by decide))
        have v6 : FX5_isWord 18 1006 (mk g) = some (nI 0, mk g) := w6
        have w7 := hF 7 (by decide) (hwf 7 (by decide))
        have v7 : FX5_isWord 18 1007 (mk g) = some (nI 0, mk g) := w7
        have w8 := hY 8 (by decide) hwt
        have v8 : FX5_isWord 18 1008 (mk g) = some (nI 1, mk g) := w8
        refine ⟨r, g', ?_, l⟩
        rcases l.r with rfl | rfl
        · simp -dsimp -implicitDefEqProofs (disch := omega) only [bnd_u, gd_t, if_true, if_false, ↓reduceIte, eq_self, true_or, or_true, false_or, or_false, not_true_eq_false, not_false_eq_true, and_true, true_and, and_false, false_and, reduceCtorEq, nI_ge, nI_le, nI_lt, nI_nlt, nI_ne, nI_te, nm_eq, mn_eq, nm_le, mn_le, nm_lt, mn_lt, pk_mul, nI_add, pk_sub, nI_clamp, eX5_takeLine, eX5_takeLine_151, hRd, h5, w0, v0, w1, v1, w2, v2, w3, v3, w4, v4, w5, v5, w6, v6, w7, v7, w8, v8, e]
        · simp -dsimp -implicitDefEqProofs (disch := omega) only [bnd_u, gd_t, if_true, if_false, ↓reduceIte, eq_self, true_or, or_true, false_or, or_false, not_true_eq_false, not_false_eq_true, and_true, true_and, and_false, false_and, reduceCtorEq, nI_ge, nI_le, nI_lt, nI_nlt, nI_ne, nI_te, nm_eq, mn_eq, nm_le, mn_le, nm_lt, mn_lt, pk_mul, nI_add, pk_sub, nI_clamp, eX5_takeLine, eX5_takeLine_151, hRd, h5, w0, v0, w1, v1, w2, v2, w3, v3, w4, v4, w5, v5, w6, v6, w7, v7, w8, v8, e]
  · rw [if_pos k1]
    refine ⟨0, up (up g 18 3 (nI 2)) 18 4 (nI s), ?_, Lr.bad (Fk.c meet_f (by decide)) (by decide) meet_3 meet_4⟩
    simp -dsimp -implicitDefEqProofs (disch := omega) only [bnd_u, gd_t, if_true, if_false, ↓reduceIte, eq_self, true_or, or_true, false_or, or_false, not_true_eq_false, not_false_eq_true, and_true, true_and, and_false, false_and, reduceCtorEq, nI_ge, nI_le, nI_lt, nI_nlt, nI_ne, nI_te, nm_eq, mn_eq, nm_le, mn_le, nm_lt, mn_lt, pk_mul, nI_add, pk_sub, nI_clamp, eX5_takeLine, hRd, h5, hm]
