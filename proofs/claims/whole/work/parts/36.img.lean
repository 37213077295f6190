/-! images: keep, back -/
theorem Fm_cong {ko kc to tc wo wc eo ec fv ko' kc' to' tc' wo' wc' eo' ec' fv' : Nat → Int32} {q : Nat → Nat} {K : Nat} (h : Fm ko kc to tc wo wc eo ec fv q K) (hG : Gd q K) (a1 : ko' 3 = ko 3) (a2 : ∀ i, i < 10 → kc' i = kc i) (a3 : to' 3 = to 3) (a4 : ∀ i, i < 12 → tc' i = tc i) (a5 : wo' 3 = wo 3) (a6 : ∀ i, i < 20 → wc' i = wc i) (a7 : eo' 3 = eo 3) (a8 : ∀ i, i < 16 → ec' i = ec i) (a9 : ∀ i, i < 3 → fv' i = fv i) : Fm ko' kc' to' tc' wo' wc' eo' ec' fv' q K := by
  have hK := hG.K
  have htn := hG.tn
  have hwn := hG.wn
  have hen := hG.en
  obtain ⟨h1, h2, h3, h4, h5, h6, h7, h8, h9, h10⟩ := h
  refine ⟨by rw [a1]; exact h1, fun k hk => ?_, fun k hk => ?_, by rw [a3]; exact h4, fun t j ht hj => ?_, by rw [a5]; exact h6, fun t j ht hj => ?_, by rw [a7]; exact h8, fun t j ht hj => ?_, fun j hj => ?_⟩
  · rw [a2 _ (by omega)]; exact h2 k hk
  · rw [a2 _ (by omega)]; exact h3 k hk
  · rw [a4 _ (by omega)]; exact h5 t j ht hj
  · rw [a6 _ (by omega)]; exact h7 t j ht hj
  · rw [a8 _ (by omega)]; exact h9 t j ht hj
  · rw [a9 _ hj]; exact h10 j hj
theorem cpy0 {α : Type} {f g : Nat → α} {n j : Nat} (h : j < n) : va_cpy f g 0 0 n j = f j := by
  rw [pk_cpy_in (by omega) (by omega), show 0 + (j - 0) = j by omega]
theorem cp_48_1 {g : Gg} {q : Nat → Nat} {K : Nat} (hF : Fm (g 2) (g 3) (g 4) (g 5) (g 6) (g 7) (g 8) (g 9) (g 10) q K) (hG : Gd q K) : ∃ g', FX1_copyFrom 48 1 (mk g) = some ((), mk g') ∧ Fr [49, 50, 51, 52, 53, 54, 55, 56, 57, 58] g g' ∧ Fm (g' 49) (g' 50) (g' 51) (g' 52) (g' 53) (g' 54) (g' 55) (g' 56) (g' 57) q K ∧ ∀ i, i < 10 → g' 58 i = g 11 i := by
  have hK := hG.K
  have htn := hG.tn
  have hwn := hG.wn
  have hen := hG.en
  have s1 : g 2 3 = nI (K) := hF.1
  have c1 := R_copy rw49 rw2 s1 hK (by decide)
  obtain ⟨g1, eg1⟩ : ∃ g1, g1 = up (upc g 50 (va_cpy (g 3) (g 50) 0 0 (2 * 5))) 49 3 (nI (K)) := ⟨_, rfl⟩
  rw [← eg1] at c1
  have f1 : Fr [49, 50] g g1 := by
    rw [eg1]
    exact (Fr.c (l := [49, 50]) (by decide)).tr (Fr.c (l := [49, 50]) (by decide)) (fun c hc => ⟨hc, hc⟩)
  have a1 : g1 49 3 = nI (K) := by rw [eg1, up_c, pk_us]
  have b1 : ∀ i, i < 10 → g1 50 i = g 3 i := fun i hi => by
    rw [eg1, up_n (by decide), upc_s, cpy0 (by omega)]
  have s2 : g1 4 3 = nI (q 25) := by rw [f1 4 (by decide)]; exact hF.2.2.2.1
  have c2 := R_copy rw51 rw4 s2 htn (by decide)
  obtain ⟨g2, eg2⟩ : ∃ g2, g2 = up (upc g1 52 (va_cpy (g1 5) (g1 52) 0 0 (3 * 4))) 51 3 (nI (q 25)) := ⟨_, rfl⟩
  rw [← eg2] at c2
  have f2 : Fr [51, 52] g1 g2 := by
    rw [eg2]
    exact (Fr.c (l := [51, 52]) (by decide)).tr (Fr.c (l := [51, 52]) (by decide)) (fun c hc => ⟨hc, hc⟩)
  have a2 : g2 51 3 = nI (q 25) := by rw [eg2, up_c, pk_us]
  have b2 : ∀ i, i < 12 → g2 52 i = g 5 i := fun i hi => by
    rw [eg2, up_n (by decide), upc_s, cpy0 (by omega), f1 5 (by decide)]
  have s3 : g2 6 3 = nI (q 56) := by rw [f2 6 (by decide), f1 6 (by decide)]; exact hF.2.2.2.2.2.1
  have c3 := R_copy rw53 rw6 s3 hwn (by decide)
  obtain ⟨g3, eg3⟩ : ∃ g3, g3 = up (upc g2 54 (va_cpy (g2 7) (g2 54) 0 0 (4 * 5))) 53 3 (nI (q 56)) := ⟨_, rfl⟩
  rw [← eg3] at c3
  have f3 : Fr [53, 54] g2 g3 := by
    rw [eg3]
    exact (Fr.c (l := [53, 54]) (by decide)).tr (Fr.c (l := [53, 54]) (by decide)) (fun c hc => ⟨hc, hc⟩)
  have a3 : g3 53 3 = nI (q 56) := by rw [eg3, up_c, pk_us]
  have b3 : ∀ i, i < 20 → g3 54 i = g 7 i := fun i hi => by
    rw [eg3, up_n (by decide), upc_s, cpy0 (by omega), f2 7 (by decide), f1 7 (by decide)]
  have s4 : g3 8 3 = nI (q 73) := by rw [f3 8 (by decide), f2 8 (by decide), f1 8 (by decide)]; exact hF.2.2.2.2.2.2.2.1
  have c4 := R_copy rw55 rw8 s4 hen (by decide)
  obtain ⟨g4, eg4⟩ : ∃ g4, g4 = up (upc g3 56 (va_cpy (g3 9) (g3 56) 0 0 (4 * 4))) 55 3 (nI (q 73)) := ⟨_, rfl⟩
  rw [← eg4] at c4
  have f4 : Fr [55, 56] g3 g4 := by
    rw [eg4]
    exact (Fr.c (l := [55, 56]) (by decide)).tr (Fr.c (l := [55, 56]) (by decide)) (fun c hc => ⟨hc, hc⟩)
  have a4 : g4 55 3 = nI (q 73) := by rw [eg4, up_c, pk_us]
  have b4 : ∀ i, i < 16 → g4 56 i = g 9 i := fun i hi => by
    rw [eg4, up_n (by decide), upc_s, cpy0 (by omega), f3 9 (by decide), f2 9 (by decide), f1 9 (by decide)]
  have c5 := t_C (g := g4) (a0 := 10) (a1 := 57) (n0 := 3) (n1 := 3) (sp := 0) (dp := 0) (n := 3) rfl rfl (by decide) (by decide) (by omega) (by omega)
  obtain ⟨g5, eg5⟩ : ∃ g5, g5 = upc g4 57 (va_cpy (g4 10) (g4 57) 0 0 3) := ⟨_, rfl⟩
  rw [← eg5] at c5
  have f5 : Fr [57] g4 g5 := by rw [eg5]; exact Fr.c (by decide)
  have b5 : ∀ i, i < 3 → g5 57 i = g 10 i := fun i hi => by
    rw [eg5, upc_s, cpy0 (by omega), f4 10 (by decide), f3 10 (by decide), f2 10 (by decide), f1 10 (by decide)]
  have c6 := t_C (g := g5) (a0 := 11) (a1 := 58) (n0 := 10) (n1 := 10) (sp := 0) (dp := 0) (n := 10) rfl rfl (by decide) (by decide) (by omega) (by omega)
  obtain ⟨g6, eg6⟩ : ∃ g6, g6 = upc g5 58 (va_cpy (g5 11) (g5 58) 0 0 10) := ⟨_, rfl⟩
  rw [← eg6] at c6
  have f6 : Fr [58] g5 g6 := by rw [eg6]; exact Fr.c (by decide)
  have b6 : ∀ i, i < 10 → g6 58 i = g 11 i := fun i hi => by
    rw [eg6, upc_s, cpy0 (by omega), f5 11 (by decide), f4 11 (by decide), f3 11 (by decide), f2 11 (by decide), f1 11 (by decide)]
  have ff : Fr [49, 50, 51, 52, 53, 54, 55, 56, 57, 58] g g6 := fun c hc => by
    simp only [List.mem_cons, List.not_mem_nil, or_false, not_or] at hc
    rw [f6 c (by simp <;> omega), f5 c (by simp <;> omega), f4 c (by simp <;> omega), f3 c (by simp <;> omega), f2 c (by simp <;> omega), f1 c (by simp <;> omega)]
  refine ⟨g6, ?_, ff, Fm_cong hF hG ?_ ?_ ?_ ?_ ?_ ?_ ?_ ?_ ?_, b6⟩
  · simp -dsimp -implicitDefEqProofs (disch := omega) only [bnd_u, gd_t, if_true, if_false, ↓reduceIte, eq_self, true_or, or_true, false_or, or_false, not_true_eq_false, not_false_eq_true, and_true, true_and, and_false, false_and, reduceCtorEq, nI_ge, nI_le, nI_lt, nI_nlt, nI_ne, nI_te, nm_eq, mn_eq, nm_le, mn_le, nm_lt, mn_lt, pk_mul, nI_add, pk_sub, nI_clamp, eX1_copyFrom, hFam, hIm, c1, c2, c3, c4, c5, c6]
  · rw [f6 49 (by decide), f5 49 (by decide), f4 49 (by decide), f3 49 (by decide), f2 49 (by decide), a1]; exact hF.1.symm
  · intro i hi
    rw [f6 50 (by decide), f5 50 (by decide), f4 50 (by decide), f3 50 (by decide), f2 50 (by decide)]; exact b1 i (by omega)
  · rw [f6 51 (by decide), f5 51 (by decide), f4 51 (by decide), f3 51 (by decide), a2]; exact hF.2.2.2.1.symm
  · intro i hi
    rw [f6 52 (by decide), f5 52 (by decide), f4 52 (by decide), f3 52 (by decide)]; exact b2 i (by omega)
  · rw [f6 53 (by decide), f5 53 (by decide), f4 53 (by decide), a3]; exact hF.2.2.2.2.2.1.symm
  · intro i hi
    rw [f6 54 (by decide), f5 54 (by decide), f4 54 (by decide)]; exact b3 i (by omega)
  · rw [f6 55 (by decide), f5 55 (by decide), a4]; exact hF.2.2.2.2.2.2.2.1.symm
  · intro i hi
    rw [f6 56 (by decide), f5 56 (by decide)]; exact b4 i (by omega)
  · intro i hi
    rw [f6 57 (by decide)]; exact b5 i hi
theorem cp_59_1 {g : Gg} {q : Nat → Nat} {K : Nat} (hF : Fm (g 2) (g 3) (g 4) (g 5) (g 6) (g 7) (g 8) (g 9) (g 10) q K) (hG : Gd q K) : ∃ g', FX1_copyFrom 59 1 (mk g) = some ((), mk g') ∧ Fr [60, 61, 62, 63, 64, 65, 66, 67, 68, 69] g g' ∧ Fm (g' 60) (g' 61) (g' 62) (g' 63) (g' 64) (g' 65) (g' 66) (g' 67) (g' 68) q K ∧ ∀ i, i < 10 → g' 69 i = g 11 i := by
  have hK := hG.K
  have htn := hG.tn
  have hwn := hG.wn
  have hen := hG.en
  have s1 : g 2 3 = nI (K) := hF.1
  have c1 := R_copy rw60 rw2 s1 hK (by decide)
  obtain ⟨g1, eg1⟩ : ∃ g1, g1 = up (upc g 61 (va_cpy (g 3) (g 61) 0 0 (2 * 5))) 60 3 (nI (K)) := ⟨_, rfl⟩
  rw [← eg1] at c1
  have f1 : Fr [60, 61] g g1 := by
    rw [eg1]
    exact (Fr.c (l := [60, 61]) (by decide)).tr (Fr.c (l := [60, 61]) (by decide)) (fun c hc => ⟨hc, hc⟩)
  have a1 : g1 60 3 = nI (K) := by rw [eg1, up_c, pk_us]
  have b1 : ∀ i, i < 10 → g1 61 i = g 3 i := fun i hi => by
    rw [eg1, up_n (by decide), upc_s, cpy0 (by omega)]
  have s2 : g1 4 3 = nI (q 25) := by rw [f1 4 (by decide)]; exact hF.2.2.2.1
  have c2 := R_copy rw62 rw4 s2 htn (by decide)
  obtain ⟨g2, eg2⟩ : ∃ g2, g2 = up (upc g1 63 (va_cpy (g1 5) (g1 63) 0 0 (3 * 4))) 62 3 (nI (q 25)) := ⟨_, rfl⟩
  rw [← eg2] at c2
  have f2 : Fr [62, 63] g1 g2 := by
    rw [eg2]
    exact (Fr.c (l := [62, 63]) (by decide)).tr (Fr.c (l := [62, 63]) (by decide)) (fun c hc => ⟨hc, hc⟩)
  have a2 : g2 62 3 = nI (q 25) := by rw [eg2, up_c, pk_us]
  have b2 : ∀ i, i < 12 → g2 63 i = g 5 i := fun i hi => by
    rw [eg2, up_n (by decide), upc_s, cpy0 (by omega), f1 5 (by decide)]
  have s3 : g2 6 3 = nI (q 56) := by rw [f2 6 (by decide), f1 6 (by decide)]; exact hF.2.2.2.2.2.1
  have c3 := R_copy rw64 rw6 s3 hwn (by decide)
  obtain ⟨g3, eg3⟩ : ∃ g3, g3 = up (upc g2 65 (va_cpy (g2 7) (g2 65) 0 0 (4 * 5))) 64 3 (nI (q 56)) := ⟨_, rfl⟩
  rw [← eg3] at c3
  have f3 : Fr [64, 65] g2 g3 := by
    rw [eg3]
    exact (Fr.c (l := [64, 65]) (by decide)).tr (Fr.c (l := [64, 65]) (by decide)) (fun c hc => ⟨hc, hc⟩)
  have a3 : g3 64 3 = nI (q 56) := by rw [eg3, up_c, pk_us]
  have b3 : ∀ i, i < 20 → g3 65 i = g 7 i := fun i hi => by
    rw [eg3, up_n (by decide), upc_s, cpy0 (by omega), f2 7 (by decide), f1 7 (by decide)]
  have s4 : g3 8 3 = nI (q 73) := by rw [f3 8 (by decide), f2 8 (by decide), f1 8 (by decide)]; exact hF.2.2.2.2.2.2.2.1
  have c4 := R_copy rw66 rw8 s4 hen (by decide)
  obtain ⟨g4, eg4⟩ : ∃ g4, g4 = up (upc g3 67 (va_cpy (g3 9) (g3 67) 0 0 (4 * 4))) 66 3 (nI (q 73)) := ⟨_, rfl⟩
  rw [← eg4] at c4
  have f4 : Fr [66, 67] g3 g4 := by
    rw [eg4]
    exact (Fr.c (l := [66, 67]) (by decide)).tr (Fr.c (l := [66, 67]) (by decide)) (fun c hc => ⟨hc, hc⟩)
  have a4 : g4 66 3 = nI (q 73) := by rw [eg4, up_c, pk_us]
  have b4 : ∀ i, i < 16 → g4 67 i = g 9 i := fun i hi => by
    rw [eg4, up_n (by decide), upc_s, cpy0 (by omega), f3 9 (by decide), f2 9 (by decide), f1 9 (by decide)]
  have c5 := t_C (g := g4) (a0 := 10) (a1 := 68) (n0 := 3) (n1 := 3) (sp := 0) (dp := 0) (n := 3) rfl rfl (by decide) (by decide) (by omega) (by omega)
  obtain ⟨g5, eg5⟩ : ∃ g5, g5 = upc g4 68 (va_cpy (g4 10) (g4 68) 0 0 3) := ⟨_, rfl⟩
  rw [← eg5] at c5
  have f5 : Fr [68] g4 g5 := by rw [eg5]; exact Fr.c (by decide)
  have b5 : ∀ i, i < 3 → g5 68 i = g 10 i := fun i hi => by
    rw [eg5, upc_s, cpy0 (by omega), f4 10 (by decide), f3 10 (by decide), f2 10 (by decide), f1 10 (by decide)]
  have c6 := t_C (g := g5) (a0 := 11) (a1 := 69) (n0 := 10) (n1 := 10) (sp := 0) (dp := 0) (n := 10) rfl rfl (by decide) (by decide) (by omega) (by omega)
  obtain ⟨g6, eg6⟩ : ∃ g6, g6 = upc g5 69 (va_cpy (g5 11) (g5 69) 0 0 10) := ⟨_, rfl⟩
  rw [← eg6] at c6
  have f6 : Fr [69] g5 g6 := by rw [eg6]; exact Fr.c (by decide)
  have b6 : ∀ i, i < 10 → g6 69 i = g 11 i := fun i hi => by
    rw [eg6, upc_s, cpy0 (by omega), f5 11 (by decide), f4 11 (by decide), f3 11 (by decide), f2 11 (by decide), f1 11 (by decide)]
  have ff : Fr [60, 61, 62, 63, 64, 65, 66, 67, 68, 69] g g6 := fun c hc => by
    simp only [List.mem_cons, List.not_mem_nil, or_false, not_or] at hc
    rw [f6 c (by simp <;> omega), f5 c (by simp <;> omega), f4 c (by simp <;> omega), f3 c (by simp <;> omega), f2 c (by simp <;> omega), f1 c (by simp <;> omega)]
  refine ⟨g6, ?_, ff, Fm_cong hF hG ?_ ?_ ?_ ?_ ?_ ?_ ?_ ?_ ?_, b6⟩
  · simp -dsimp -implicitDefEqProofs (disch := omega) only [bnd_u, gd_t, if_true, if_false, ↓reduceIte, eq_self, true_or, or_true, false_or, or_false, not_true_eq_false, not_false_eq_true, and_true, true_and, and_false, false_and, reduceCtorEq, nI_ge, nI_le, nI_lt, nI_nlt, nI_ne, nI_te, nm_eq, mn_eq, nm_le, mn_le, nm_lt, mn_lt, pk_mul, nI_add, pk_sub, nI_clamp, eX1_copyFrom, hFam, hIm, c1, c2, c3, c4, c5, c6]
  · rw [f6 60 (by decide), f5 60 (by decide), f4 60 (by decide), f3 60 (by decide), f2 60 (by decide), a1]; exact hF.1.symm
  · intro i hi
    rw [f6 61 (by decide), f5 61 (by decide), f4 61 (by decide), f3 61 (by decide), f2 61 (by decide)]; exact b1 i (by omega)
  · rw [f6 62 (by decide), f5 62 (by decide), f4 62 (by decide), f3 62 (by decide), a2]; exact hF.2.2.2.1.symm
  · intro i hi
    rw [f6 63 (by decide), f5 63 (by decide), f4 63 (by decide), f3 63 (by decide)]; exact b2 i (by omega)
  · rw [f6 64 (by decide), f5 64 (by decide), f4 64 (by decide), a3]; exact hF.2.2.2.2.2.1.symm
  · intro i hi
    rw [f6 65 (by decide), f5 65 (by decide), f4 65 (by decide)]; exact b3 i (by omega)
  · rw [f6 66 (by decide), f5 66 (by decide), a4]; exact hF.2.2.2.2.2.2.2.1.symm
  · intro i hi
    rw [f6 67 (by decide), f5 67 (by decide)]; exact b4 i (by omega)
  · intro i hi
    rw [f6 68 (by decide)]; exact b5 i hi
theorem cp_1_48 {g : Gg} {q : Nat → Nat} {K : Nat} (hF : Fm (g 49) (g 50) (g 51) (g 52) (g 53) (g 54) (g 55) (g 56) (g 57) q K) (hG : Gd q K) : ∃ g', FX1_copyFrom 1 48 (mk g) = some ((), mk g') ∧ Fr [2, 3, 4, 5, 6, 7, 8, 9, 10, 11] g g' ∧ Fm (g' 2) (g' 3) (g' 4) (g' 5) (g' 6) (g' 7) (g' 8) (g' 9) (g' 10) q K ∧ ∀ i, i < 10 → g' 11 i = g 58 i := by
  have hK := hG.K
  have htn := hG.tn
  have hwn := hG.wn
  have hen := hG.en
  have s1 : g 49 3 = nI (K) := hF.1
  have c1 := R_copy rw2 rw49 s1 hK (by decide)
  obtain ⟨g1, eg1⟩ : ∃ g1, g1 = up (upc g 3 (va_cpy (g 50) (g 3) 0 0 (2 * 5))) 2 3 (nI (K)) := ⟨_, rfl⟩
  rw [← eg1] at c1
  have f1 : Fr [2, 3] g g1 := by
    rw [eg1]
    exact (Fr.c (l := [2, 3]) (by decide)).tr (Fr.c (l := [2, 3]) (by decide)) (fun c hc => ⟨hc, hc⟩)
  have a1 : g1 2 3 = nI (K) := by rw [eg1, up_c, pk_us]
  have b1 : ∀ i, i < 10 → g1 3 i = g 50 i := fun i hi => by
    rw [eg1, up_n (by decide), upc_s, cpy0 (by omega)]
  have s2 : g1 51 3 = nI (q 25) := by rw [f1 51 (by decide)]; exact hF.2.2.2.1
  have c2 := R_copy rw4 rw51 s2 htn (by decide)
  obtain ⟨g2, eg2⟩ : ∃ g2, g2 = up (upc g1 5 (va_cpy (g1 52) (g1 5) 0 0 (3 * 4))) 4 3 (nI (q 25)) := ⟨_, rfl⟩
  rw [← eg2] at c2
  have f2 : Fr [4, 5] g1 g2 := by
    rw [eg2]
    exact (Fr.c (l := [4, 5]) (by decide)).tr (Fr.c (l := [4, 5]) (by decide)) (fun c hc => ⟨hc, hc⟩)
  have a2 : g2 4 3 = nI (q 25) := by rw [eg2, up_c, pk_us]
  have b2 : ∀ i, i < 12 → g2 5 i = g 52 i := fun i hi => by
    rw [eg2, up_n (by decide), upc_s, cpy0 (by omega), f1 52 (by decide)]
  have s3 : g2 53 3 = nI (q 56) := by rw [f2 53 (by decide), f1 53 (by decide)]; exact hF.2.2.2.2.2.1
  have c3 := R_copy rw6 rw53 s3 hwn (by decide)
  obtain ⟨g3, eg3⟩ : ∃ g3, g3 = up (upc g2 7 (va_cpy (g2 54) (g2 7) 0 0 (4 * 5))) 6 3 (nI (q 56)) := ⟨_, rfl⟩
  rw [← eg3] at c3
  have f3 : Fr [6, 7] g2 g3 := by
    rw [eg3]
    exact (Fr.c (l := [6, 7]) (by decide)).tr (Fr.c (l := [6, 7]) (by decide)) (fun c hc => ⟨hc, hc⟩)
  have a3 : g3 6 3 = nI (q 56) := by rw [eg3, up_c, pk_us]
  have b3 : ∀ i, i < 20 → g3 7 i = g 54 i := fun i hi => by
    rw [eg3, up_n (by decide), upc_s, cpy0 (by omega), f2 54 (by decide), f1 54 (by decide)]
  have s4 : g3 55 3 = nI (q 73) := by rw [f3 55 (by decide), f2 55 (by decide), f1 55 (by decide)]; exact hF.2.2.2.2.2.2.2.1
  have c4 := R_copy rw8 rw55 s4 hen (by decide)
  obtain ⟨g4, eg4⟩ : ∃ g4, g4 = up (upc g3 9 (va_cpy (g3 56) (g3 9) 0 0 (4 * 4))) 8 3 (nI (q 73)) := ⟨_, rfl⟩
  rw [← eg4] at c4
  have f4 : Fr [8, 9] g3 g4 := by
    rw [eg4]
    exact (Fr.c (l := [8, 9]) (by decide)).tr (Fr.c (l := [8, 9]) (by decide)) (fun c hc => ⟨hc, hc⟩)
  have a4 : g4 8 3 = nI (q 73) := by rw [eg4, up_c, pk_us]
  have b4 : ∀ i, i < 16 → g4 9 i = g 56 i := fun i hi => by
    rw [eg4, up_n (by decide), upc_s, cpy0 (by omega), f3 56 (by decide), f2 56 (by decide), f1 56 (by decide)]
  have c5 := t_C (g := g4) (a0 := 57) (a1 := 10) (n0 := 3) (n1 := 3) (sp := 0) (dp := 0) (n := 3) rfl rfl (by decide) (by decide) (by omega) (by omega)
  obtain ⟨g5, eg5⟩ : ∃ g5, g5 = upc g4 10 (va_cpy (g4 57) (g4 10) 0 0 3) := ⟨_, rfl⟩
  rw [← eg5] at c5
  have f5 : Fr [10] g4 g5 := by rw [eg5]; exact Fr.c (by decide)
  have b5 : ∀ i, i < 3 → g5 10 i = g 57 i := fun i hi => by
    rw [eg5, upc_s, cpy0 (by omega), f4 57 (by decide), f3 57 (by decide), f2 57 (by decide), f1 57 (by decide)]
  have c6 := t_C (g := g5) (a0 := 58) (a1 := 11) (n0 := 10) (n1 := 10) (sp := 0) (dp := 0) (n := 10) rfl rfl (by decide) (by decide) (by omega) (by omega)
  obtain ⟨g6, eg6⟩ : ∃ g6, g6 = upc g5 11 (va_cpy (g5 58) (g5 11) 0 0 10) := ⟨_, rfl⟩
  rw [← eg6] at c6
  have f6 : Fr [11] g5 g6 := by rw [eg6]; exact Fr.c (by decide)
  have b6 : ∀ i, i < 10 → g6 11 i = g 58 i := fun i hi => by
    rw [eg6, upc_s, cpy0 (by omega), f5 58 (by decide), f4 58 (by decide), f3 58 (by decide), f2 58 (by decide), f1 58 (by decide)]
  have ff : Fr [2, 3, 4, 5, 6, 7, 8, 9, 10, 11] g g6 := fun c hc => by
    simp only [List.mem_cons, List.not_mem_nil, or_false, not_or] at hc
    rw [f6 c (by simp <;> omega), f5 c (by simp <;> omega), f4 c (by simp <;> omega), f3 c (by simp <;> omega), f2 c (by simp <;> omega), f1 c (by simp <;> omega)]
  refine ⟨g6, ?_, ff, Fm_cong hF hG ?_ ?_ ?_ ?_ ?_ ?_ ?_ ?_ ?_, b6⟩
  · simp -dsimp -implicitDefEqProofs (disch := omega) only [bnd_u, gd_t, if_true, if_false, ↓reduceIte, eq_self, true_or, or_true, false_or, or_false, not_true_eq_false, not_false_eq_true, and_true, true_and, and_false, false_and, reduceCtorEq, nI_ge, nI_le, nI_lt, nI_nlt, nI_ne, nI_te, nm_eq, mn_eq, nm_le, mn_le, nm_lt, mn_lt, pk_mul, nI_add, pk_sub, nI_clamp, eX1_copyFrom, hFam, hIm, c1, c2, c3, c4, c5, c6]
  · rw [f6 2 (by decide), f5 2 (by decide), f4 2 (by decide), f3 2 (by decide), f2 2 (by decide), a1]; exact hF.1.symm
  · intro i hi
    rw [f6 3 (by decide), f5 3 (by decide), f4 3 (by decide), f3 3 (by decide), f2 3 (by decide)]; exact b1 i (by omega)
  · rw [f6 4 (by decide), f5 4 (by decide), f4 4 (by decide), f3 4 (by decide), a2]; exact hF.2.2.2.1.symm
  · intro i hi
    rw [f6 5 (by decide), f5 5 (by decide), f4 5 (by decide), f3 5 (by decide)]; exact b2 i (by omega)
  · rw [f6 6 (by decide), f5 6 (by decide), f4 6 (by decide), a3]; exact hF.2.2.2.2.2.1.symm
  · intro i hi
    rw [f6 7 (by decide), f5 7 (by decide), f4 7 (by decide)]; exact b3 i (by omega)
  · rw [f6 8 (by decide), f5 8 (by decide), a4]; exact hF.2.2.2.2.2.2.2.1.symm
  · intro i hi
    rw [f6 9 (by decide), f5 9 (by decide)]; exact b4 i (by omega)
  · intro i hi
    rw [f6 10 (by decide)]; exact b5 i hi
theorem cp_1_59 {g : Gg} {q : Nat → Nat} {K : Nat} (hF : Fm (g 60) (g 61) (g 62) (g 63) (g 64) (g 65) (g 66) (g 67) (g 68) q K) (hG : Gd q K) : ∃ g', FX1_copyFrom 1 59 (mk g) = some ((), mk g') ∧ Fr [2, 3, 4, 5, 6, 7, 8, 9, 10, 11] g g' ∧ Fm (g' 2) (g' 3) (g' 4) (g' 5) (g' 6) (g' 7) (g' 8) (g' 9) (g' 10) q K ∧ ∀ i, i < 10 → g' 11 i = g 69 i := by
  have hK := hG.K
  have htn := hG.tn
  have hwn := hG.wn
  have hen := hG.en
  have s1 : g 60 3 = nI (K) := hF.1
  have c1 := R_copy rw2 rw60 s1 hK (by decide)
  obtain ⟨g1, eg1⟩ : ∃ g1, g1 = up (upc g 3 (va_cpy (g 61) (g 3) 0 0 (2 * 5))) 2 3 (nI (K)) := ⟨_, rfl⟩
  rw [← eg1] at c1
  have f1 : Fr [2, 3] g g1 := by
    rw [eg1]
    exact (Fr.c (l := [2, 3]) (by decide)).tr (Fr.c (l := [2, 3]) (by decide)) (fun c hc => ⟨hc, hc⟩)
  have a1 : g1 2 3 = nI (K) := by rw [eg1, up_c, pk_us]
  have b1 : ∀ i, i < 10 → g1 3 i = g 61 i := fun i hi => by
    rw [eg1, up_n (by decide), upc_s, cpy0 (by omega)]
  have s2 : g1 62 3 = nI (q 25) := by rw [f1 62 (by decide)]; exact hF.2.2.2.1
  have c2 := R_copy rw4 rw62 s2 htn (by decide)
  obtain ⟨g2, eg2⟩ : ∃ g2, g2 = up (upc g1 5 (va_cpy (g1 63) (g1 5) 0 0 (3 * 4))) 4 3 (nI (q 25)) := ⟨_, rfl⟩
  rw [← eg2] at c2
  have f2 : Fr [4, 5] g1 g2 := by
    rw [eg2]
    exact (Fr.c (l := [4, 5]) (by decide)).tr (Fr.c (l := [4, 5]) (by decide)) (fun c hc => ⟨hc, hc⟩)
  have a2 : g2 4 3 = nI (q 25) := by rw [eg2, up_c, pk_us]
  have b2 : ∀ i, i < 12 → g2 5 i = g 63 i := fun i hi => by
    rw [eg2, up_n (by decide), upc_s, cpy0 (by omega), f1 63 (by decide)]
  have s3 : g2 64 3 = nI (q 56) := by rw [f2 64 (by decide), f1 64 (by decide)]; exact hF.2.2.2.2.2.1
  have c3 := R_copy rw6 rw64 s3 hwn (by decide)
  obtain ⟨g3, eg3⟩ : ∃ g3, g3 = up (upc g2 7 (va_cpy (g2 65) (g2 7) 0 0 (4 * 5))) 6 3 (nI (q 56)) := ⟨_, rfl⟩
  rw [← eg3] at c3
  have f3 : Fr [6, 7] g2 g3 := by
    rw [eg3]
    exact (Fr.c (l := [6, 7]) (by decide)).tr (Fr.c (l := [6, 7]) (by decide)) (fun c hc => ⟨hc, hc⟩)
  have a3 : g3 6 3 = nI (q 56) := by rw [eg3, up_c, pk_us]
  have b3 : ∀ i, i < 20 → g3 7 i = g 65 i := fun i hi => by
    rw [eg3, up_n (by decide), upc_s, cpy0 (by omega), f2 65 (by decide), f1 65 (by decide)]
  have s4 : g3 66 3 = nI (q 73) := by rw [f3 66 (by decide), f2 66 (by decide), f1 66 (by decide)]; exact hF.2.2.2.2.2.2.2.1
  have c4 := R_copy rw8 rw66 s4 hen (by decide)
  obtain ⟨g4, eg4⟩ : ∃ g4, g4 = up (upc g3 9 (va_cpy (g3 67) (g3 9) 0 0 (4 * 4))) 8 3 (nI (q 73)) := ⟨_, rfl⟩
  rw [← eg4] at c4
  have f4 : Fr [8, 9] g3 g4 := by
    rw [eg4]
    exact (Fr.c (l := [8, 9]) (by decide)).tr (Fr.c (l := [8, 9]) (by decide)) (fun c hc => ⟨hc, hc⟩)
  have a4 : g4 8 3 = nI (q 73) := by rw [eg4, up_c, pk_us]
  have b4 : ∀ i, i < 16 → g4 9 i = g 67 i := fun i hi => by
    rw [eg4, up_n (by decide), upc_s, cpy0 (by omega), f3 67 (by decide), f2 67 (by decide), f1 67 (by decide)]
  have c5 := t_C (g := g4) (a0 := 68) (a1 := 10) (n0 := 3) (n1 := 3) (sp := 0) (dp := 0) (n := 3) rfl rfl (by decide) (by decide) (by omega) (by omega)
  obtain ⟨g5, eg5⟩ : ∃ g5, g5 = upc g4 10 (va_cpy (g4 68) (g4 10) 0 0 3) := ⟨_, rfl⟩
  rw [← eg5] at c5
  have f5 : Fr [10] g4 g5 := by rw [eg5]; exact Fr.c (by decide)
  have b5 : ∀ i, i < 3 → g5 10 i = g 68 i := fun i hi => by
    rw [eg5, upc_s, cpy0 (by omega), f4 68 (by decide), f3 68 (by decide), f2 68 (by decide), f1 68 (by decide)]
  have c6 := t_C (g := g5) (a0 := 69) (a1 := 11) (n0 := 10) (n1 := 10) (sp := 0) (dp := 0) (n := 10) rfl rfl (by decide) (by decide) (by omega) (by omega)
  obtain ⟨g6, eg6⟩ : ∃ g6, g6 = upc g5 11 (va_cpy (g5 69) (g5 11) 0 0 10) := ⟨_, rfl⟩
  rw [← eg6] at c6
  have f6 : Fr [11] g5 g6 := by rw [eg6]; exact Fr.c (by decide)
  have b6 : ∀ i, i < 10 → g6 11 i = g 69 i := fun i hi => by
    rw [eg6, upc_s, cpy0 (by omega), f5 69 (by decide), f4 69 (by decide), f3 69 (by decide), f2 69 (by decide), f1 69 (by decide)]
  have ff : Fr [2, 3, 4, 5, 6, 7, 8, 9, 10, 11] g g6 := fun c hc => by
    simp only [List.mem_cons, List.not_mem_nil, or_false, not_or] at hc
    rw [f6 c (by simp <;> omega), f5 c (by simp <;> omega), f4 c (by simp <;> omega), f3 c (by simp <;> omega), f2 c (by simp <;> omega), f1 c (by simp <;> omega)]
  refine ⟨g6, ?_, ff, Fm_cong hF hG ?_ ?_ ?_ ?_ ?_ ?_ ?_ ?_ ?_, b6⟩
  · simp -dsimp -implicitDefEqProofs (disch := omega) only [bnd_u, gd_t, if_true, if_false, ↓reduceIte, eq_self, true_or, or_true, false_or, or_false, not_true_eq_false, not_false_eq_true, and_true, true_and, and_false, false_and, reduceCtorEq, nI_ge, nI_le, nI_lt, nI_nlt, nI_ne, nI_te, nm_eq, mn_eq, nm_le, mn_le, nm_lt, mn_lt, pk_mul, nI_add, pk_sub, nI_clamp, eX1_copyFrom, hFam, hIm, c1, c2, c3, c4, c5, c6]
  · rw [f6 2 (by decide), f5 2 (by decide), f4 2 (by decide), f3 2 (by decide), f2 2 (by decide), a1]; exact hF.1.symm
  · intro i hi
    rw [f6 3 (by decide), f5 3 (by decide), f4 3 (by decide), f3 3 (by decide), f2 3 (by decide)]; exact b1 i (by omega)
  · rw [f6 4 (by decide), f5 4 (by decide), f4 4 (by decide), f3 4 (by decide), a2]; exact hF.2.2.2.1.symm
  · intro i hi
    rw [f6 5 (by decide), f5 5 (by decide), f4 5 (by decide), f3 5 (by decide)]; exact b2 i (by omega)
  · rw [f6 6 (by decide), f5 6 (by decide), f4 6 (by decide), a3]; exact hF.2.2.2.2.2.1.symm
  · intro i hi
    rw [f6 7 (by decide), f5 7 (by decide), f4 7 (by decide)]; exact b3 i (by omega)
  · rw [f6 8 (by decide), f5 8 (by decide), a4]; exact hF.2.2.2.2.2.2.2.1.symm
  · intro i hi
    rw [f6 9 (by decide), f5 9 (by decide)]; exact b4 i (by omega)
  · intro i hi
    rw [f6 10 (by decide)]; exact b5 i hi
theorem cp_1_19 {g : Gg} {q : Nat → Nat} {K : Nat} (hF : Fm (g 20) (g 21) (g 22) (g 23) (g 24) (g 25) (g 26) (g 27) (g 28) q K) (hG : Gd q K) : ∃ g', FX1_copyFrom 1 19 (mk g) = some ((), mk g') ∧ Fr [2, 3, 4, 5, 6, 7, 8, 9, 10, 11] g g' ∧ Fm (g' 2) (g' 3) (g' 4) (g' 5) (g' 6) (g' 7) (g' 8) (g' 9) (g' 10) q K ∧ ∀ i, i < 10 → g' 11 i = g 29 i := by
  have hK := hG.K
  have htn := hG.tn
  have hwn := hG.wn
  have hen := hG.en
  have s1 : g 20 3 = nI (K) := hF.1
  have c1 := R_copy rw2 rw20 s1 hK (by decide)
  obtain ⟨g1, eg1⟩ : ∃ g1, g1 = up (upc g 3 (va_cpy (g 21) (g 3) 0 0 (2 * 5))) 2 3 (nI (K)) := ⟨_, rfl⟩
  rw [← eg1] at c1
  have f1 : Fr [2, 3] g g1 := by
    rw [eg1]
    exact (Fr.c (l := [2, 3]) (by decide)).tr (Fr.c (l := [2, 3]) (by decide)) (fun c hc => ⟨hc, hc⟩)
  have a1 : g1 2 3 = nI (K) := by rw [eg1, up_c, pk_us]
  have b1 : ∀ i, i < 10 → g1 3 i = g 21 i := fun i hi => by
    rw [eg1, up_n (by decide), upc_s, cpy0 (by omega)]
  have s2 : g1 22 3 = nI (q 25) := by rw [f1 22 (by decide)]; exact hF.2.2.2.1
  have c2 := R_copy rw4 rw22 s2 htn (by decide)
  obtain ⟨g2, eg2⟩ : ∃ g2, g2 = up (upc g1 5 (va_cpy (g1 23) (g1 5) 0 0 (3 * 4))) 4 3 (nI (q 25)) := ⟨_, rfl⟩
  rw [← eg2] at c2
  have f2 : Fr [4, 5] g1 g2 := by
    rw [eg2]
    exact (Fr.c (l := [4, 5]) (by decide)).tr (Fr.c (l := [4, 5]) (by decide)) (fun c hc => ⟨hc, hc⟩)
  have a2 : g2 4 3 = nI (q 25) := by rw [eg2, up_c, pk_us]
  have b2 : ∀ i, i < 12 → g2 5 i = g 23 i := fun i hi => by
    rw [eg2, up_n (by decide), upc_s, cpy0 (by omega), f1 23 (by decide)]
  have s3 : g2 24 3 = nI (q 56) := by rw [f2 24 (by decide), f1 24 (by decide)]; exact hF.2.2.2.2.2.1
  have c3 := R_copy rw6 rw24 s3 hwn (by decide)
  obtain ⟨g3, eg3⟩ : ∃ g3, g3 = up (upc g2 7 (va_cpy (g2 25) (g2 7) 0 0 (4 * 5))) 6 3 (nI (q 56)) := ⟨_, rfl⟩
  rw [← eg3] at c3
  have f3 : Fr [6, 7] g2 g3 := by
    rw [eg3]
    exact (Fr.c (l := [6, 7]) (by decide)).tr (Fr.c (l := [6, 7]) (by decide)) (fun c hc => ⟨hc, hc⟩)
  have a3 : g3 6 3 = nI (q 56) := by rw [eg3, up_c, pk_us]
  have b3 : ∀ i, i < 20 → g3 7 i = g 25 i := fun i hi => by
    rw [eg3, up_n (by decide), upc_s, cpy0 (by omega), f2 25 (by decide), f1 25 (by decide)]
  have s4 : g3 26 3 = nI (q 73) := by rw [f3 26 (by decide), f2 26 (by decide), f1 26 (by decide)]; exact hF.2.2.2.2.2.2.2.1
  have c4 := R_copy rw8 rw26 s4 hen (by decide)
  obtain ⟨g4, eg4⟩ : ∃ g4, g4 = up (upc g3 9 (va_cpy (g3 27) (g3 9) 0 0 (4 * 4))) 8 3 (nI (q 73)) := ⟨_, rfl⟩
  rw [← eg4] at c4
  have f4 : Fr [8, 9] g3 g4 := by
    rw [eg4]
    exact (Fr.c (l := [8, 9]) (by decide)).tr (Fr.c (l := [8, 9]) (by decide)) (fun c hc => ⟨hc, hc⟩)
  have a4 : g4 8 3 = nI (q 73) := by rw [eg4, up_c, pk_us]
  have b4 : ∀ i, i < 16 → g4 9 i = g 27 i := fun i hi => by
    rw [eg4, up_n (by decide), upc_s, cpy0 (by omega), f3 27 (by decide), f2 27 (by decide), f1 27 (by decide)]
  have c5 := t_C (g := g4) (a0 := 28) (a1 := 10) (n0 := 3) (n1 := 3) (sp := 0) (dp := 0) (n := 3) rfl rfl (by decide) (by decide) (by omega) (by omega)
  obtain ⟨g5, eg5⟩ : ∃ g5, g5 = upc g4 10 (va_cpy (g4 28) (g4 10) 0 0 3) := ⟨_, rfl⟩
  rw [← eg5] at c5
  have f5 : Fr [10] g4 g5 := by rw [eg5]; exact Fr.c (by decide)
  have b5 : ∀ i, i < 3 → g5 10 i = g 28 i := fun i hi => by
    rw [eg5, upc_s, cpy0 (by omega), f4 28 (by decide), f3 28 (by decide), f2 28 (by decide), f1 28 (by decide)]
  have c6 := t_C (g := g5) (a0 := 29) (a1 := 11) (n0 := 10) (n1 := 10) (sp := 0) (dp := 0) (n := 10) rfl rfl (by decide) (by decide) (by omega) (by omega)
  obtain ⟨g6, eg6⟩ : ∃ g6, g6 = upc g5 11 (va_cpy (g5 29) (g5 11) 0 0 10) := ⟨_, rfl⟩
  rw [← eg6] at c6
  have f6 : Fr [11] g5 g6 := by rw [eg6]; exact Fr.c (by decide)
  have b6 : ∀ i, i < 10 → g6 11 i = g 29 i := fun i hi => by
    rw [eg6, upc_s, cpy0 (by omega), f5 29 (by decide), f4 29 (by decide), f3 29 (by decide), f2 29 (by decide), f1 29 (by decide)]
  have ff : Fr [2, 3, 4, 5, 6, 7, 8, 9, 10, 11] g g6 := fun c hc => by
    simp only [List.mem_cons, List.not_mem_nil, or_false, not_or] at hc
    rw [f6 c (by simp <;> omega), f5 c (by simp <;> omega), f4 c (by simp <;> omega), f3 c (by simp <;> omega), f2 c (by simp <;> omega), f1 c (by simp <;> omega)]
  refine ⟨g6, ?_, ff, Fm_cong hF hG ?_ ?_ ?_ ?_ ?_ ?_ ?_ ?_ ?_, b6⟩
  · simp -dsimp -implicitDefEqProofs (disch := omega) only [bnd_u, gd_t, if_true, if_false, ↓reduceIte, eq_self, true_or, or_true, false_or, or_false, not_true_eq_false, not_false_eq_true, and_true, true_and, and_false, false_and, reduceCtorEq, nI_ge, nI_le, nI_lt, nI_nlt, nI_ne, nI_te, nm_eq, mn_eq, nm_le, mn_le, nm_lt, mn_lt, pk_mul, nI_add, pk_sub, nI_clamp, eX1_copyFrom, hFam, hRd, c1, c2, c3, c4, c5, c6]
  · rw [f6 2 (by decide), f5 2 (by decide), f4 2 (by decide), f3 2 (by decide), f2 2 (by decide), a1]; exact hF.1.symm
  · intro i hi
    rw [f6 3 (by decide), f5 3 (by decide), f4 3 (by decide), f3 3 (by decide), f2 3 (by decide)]; exact b1 i (by omega)
  · rw [f6 4 (by decide), f5 4 (by decide), f4 4 (by decide), f3 4 (by decide), a2]; exact hF.2.2.2.1.symm
  · intro i hi
    rw [f6 5 (by decide), f5 5 (by decide), f4 5 (by decide), f3 5 (by decide)]; exact b2 i (by omega)
  · rw [f6 6 (by decide), f5 6 (by decide), f4 6 (by decide), a3]; exact hF.2.2.2.2.2.1.symm
  · intro i hi
    rw [f6 7 (by decide), f5 7 (by decide), f4 7 (by decide)]; exact b3 i (by omega)
  · rw [f6 8 (by decide), f5 8 (by decide), a4]; exact hF.2.2.2.2.2.2.2.1.symm
  · intro i hi
    rw [f6 9 (by decide), f5 9 (by decide)]; exact b4 i (by omega)
  · intro i hi
    rw [f6 10 (by decide)]; exact b5 i hi
/-- the reference's copy of 74 numbers, from a to b, apart -/
theorem m_copies {g : Gg} {a b : Nat} (ha : a + 74 ≤ 296) (hb : b + 74 ≤ 296) (hab : a + 74 ≤ b ∨ b + 74 ≤ a) : ∃ g', FX9_copies 78 (nI a) (nI b) (mk g) = some ((), mk g') ∧ Fr [79] g g' ∧ (∀ i, i < 74 → g' 79 (b + i) = g 79 (a + i)) ∧ ∀ j, (j < b ∨ b + 74 ≤ j) → g' 79 j = g 79 j := by
  rw [eX9_copies]
  refine lp_0 (σ := Gg) (fun n k u => FX9_copies_2 n 78 (nI a) (nI b) (nI k) (mk u)) 74 (fun k u => Fr [79] g u ∧ (∀ i, i < k → u 79 (b + i) = g 79 (a + i)) ∧ ∀ j, (j < b ∨ b + 74 ≤ j) → u 79 j = g 79 j) (fun o => ∃ g', o = some ((), mk g') ∧ Fr [79] g g' ∧ (∀ i, i < 74 → g' 79 (b + i) = g 79 (a + i)) ∧ ∀ j, (j < b ∨ b + 74 ≤ j) → g' 79 j = g 79 j) ⟨Fr.refl, fun i hi => absurd hi (by omega), fun _ _ => rfl⟩ (by decide) ?_ ?_
  · intro n k u hk ⟨i1, i2, i3⟩
    have e : u 79 (a + k) = g 79 (a + k) := i3 (a + k) (by omega)
    refine Or.inr ⟨up u 79 (b + k) (g 79 (a + k)), ?_, i1.tr (Fr.c (l := [79]) (by decide)) (fun c hc => ⟨hc, hc⟩), fun i hi => ?_, fun j hj => ?_⟩
    · simp -dsimp -implicitDefEqProofs (disch := omega) only [bnd_u, gd_t, if_true, if_false, ↓reduceIte, eq_self, true_or, or_true, false_or, or_false, not_true_eq_false, not_false_eq_true, and_true, true_and, and_false, false_and, reduceCtorEq, nI_ge, nI_le, nI_lt, nI_nlt, nI_ne, nI_te, nm_eq, mn_eq, nm_le, mn_le, nm_lt, mn_lt, pk_mul, nI_add, pk_sub, nI_clamp, eX9_copies_2, hMo, e]
    · rw [up_c]
      by_cases h : i = k
      · rw [h, pk_us]
      · rw [pk_un (by omega)]; exact i2 i (by omega)
    · rw [up_c, pk_un (by omega)]; exact i3 j hj
  · intro n u ⟨i1, i2, i3⟩
    refine ⟨u, ?_, i1, i2, i3⟩
    simp -dsimp -implicitDefEqProofs (disch := omega) only [bnd_u, gd_t, if_true, if_false, ↓reduceIte, eq_self, true_or, or_true, false_or, or_false, not_true_eq_false, not_false_eq_true, and_true, true_and, and_false, false_and, reduceCtorEq, nI_ge, nI_le, nI_lt, nI_nlt, nI_ne, nI_te, nm_eq, mn_eq, nm_le, mn_le, nm_lt, mn_lt, pk_mul, nI_add, pk_sub, nI_clamp, eX9_copies_2]
