/-! keep, back -/
theorem Iv.iim {l : List Nat} {g g' : Gg} {q : Nat → Nat} {K : Nat} (h : Iv g q K) (hf : Fr l g g') (hl : ∀ c ∈ l, c ∈ scr ++ [13, 48, 49, 50, 51, 52, 53, 54, 55, 56, 57, 58, 59, 60, 61, 62, 63, 64, 65, 66, 67, 68, 69, 79, 90]) (h79 : ∀ j, j < 74 → g' 79 j = g 79 j) (hi : Im g' K) : Iv g' q K := by
  have hs : Fr (scr ++ [13, 48, 49, 50, 51, 52, 53, 54, 55, 56, 57, 58, 59, 60, 61, 62, 63, 64, 65, 66, 67, 68, 69, 79, 90]) g g' := hf.mo (fun c hc hcl => hc (hl c hcl))
  obtain ⟨n, z, hsn⟩ := h.sn
  obtain ⟨m, b, htp⟩ := h.tp
  refine ⟨h.G, h.F.f hs (by decide), h.R.f hs (by decide), ⟨?_, fun i hi => ?_⟩, h.kp.f hs (by decide), hi, ⟨n, z, hsn.f hs (by decide)⟩, ⟨m, b, htp.f hs (by decide)⟩, h.ft.f hs (by decide), h.sh.f hs (by decide), h.pn.f hs (by decide), h.cs.f hs (by decide)⟩
  · rw [hs 78 (by decide)]; exact h.M.1
  · rw [h79 (0 + i) (by omega)]; exact h.M.2 i hi
theorem Im1.st {st sm : Int32} {ko kc to tc wo wc eo ec fv ro s : Nat → Int32} {o K : Nat} (h : Im1 st sm ko kc to tc wo wc eo ec fv ro s o K) : ∃ b, b < 2 ∧ st = nI b ∧ sm = nI b := by
  rcases h with ⟨a, b⟩ | ⟨a, b, -⟩
  · exact ⟨0, by omega, a, b⟩
  · exact ⟨1, by omega, a, b⟩
theorem Im1.c {st sm st' sm' : Int32} {ko kc to tc wo wc eo ec fv ro s ko' kc' to' tc' wo' wc' eo' ec' fv' ro' s' : Nat → Int32} {o K : Nat} (h : Im1 st sm ko kc to tc wo wc eo ec fv ro s o K) (e1 : st' = st) (e2 : sm' = sm) (c1 : ko' = ko) (c2 : kc' = kc) (c3 : to' = to) (c4 : tc' = tc) (c5 : wo' = wo) (c6 : wc' = wc) (c7 : eo' = eo) (c8 : ec' = ec) (c9 : fv' = fv) (c10 : ro' = ro) (hs : ∀ i, i < 74 → s' (o + i) = s (o + i)) : Im1 st' sm' ko' kc' to' tc' wo' wc' eo' ec' fv' ro' s' o K := by
  subst e1; subst e2; subst c1; subst c2; subst c3; subst c4; subst c5; subst c6; subst c7; subst c8; subst c9; subst c10
  rcases h with h | ⟨a, b, p, hp, hf, hr, hm⟩
  · exact Or.inl h
  · exact Or.inr ⟨a, b, p, hp, hf, hr, fun i hi => by rw [hs i hi]; exact hm i hi⟩
theorem keep_0 (g : Gg) (q : Nat → Nat) (K : Nat) (hI : Iv g q K) : ∃ r g1 g2 p L, FX8_keep 0 (nI 0) (mk g) = some (r, mk g1) ∧ FX9_keep 78 (nI 0) (mk g1) = some (r, mk g2) ∧ Iv g2 p L := by
  obtain ⟨b, hb, st, sm⟩ := hI.im.1.st
  obtain ⟨g1, e1, f1, FF, R1⟩ := cp_48_1 hI.F hI.G
  obtain ⟨g2, e2, f2, a2, b2⟩ := m_copies (g := up g1 13 0 (nI 1)) (a := 0) (b := 74) (by omega) (by omega) (by omega)
  have ft : Fr [13, 49, 50, 51, 52, 53, 54, 55, 56, 57, 58, 79, 90] g (up g2 90 0 (nI 1)) := fun c hc => by
    simp only [List.mem_cons, List.not_mem_nil, or_false, not_or] at hc
    rw [up_n (by omega), f2 c (by simp <;> omega), up_n (by omega), f1 c (by simp <;> omega)]
  refine ⟨nI b, up g1 13 0 (nI 1), up g2 90 0 (nI 1), q, K, ?_, ?_, hI.iim ft (by decide) ?_ ?_⟩
  · rcases (show b = 0 ∨ b = 1 by omega) with rfl | rfl
    · simp -dsimp -implicitDefEqProofs (disch := omega) only [bnd_u, gd_t, if_true, if_false, ↓reduceIte, eq_self, true_or, or_true, false_or, or_false, not_true_eq_false, not_false_eq_true, and_true, true_and, and_false, false_and, reduceCtorEq, nI_ge, nI_le, nI_lt, nI_nlt, nI_ne, nI_te, nm_eq, mn_eq, nm_le, mn_le, nm_lt, mn_lt, pk_mul, nI_add, pk_sub, nI_clamp, eX8_keep, eX8_keep_25, hTop, hIm, st, e1]
    · simp -dsimp -implicitDefEqProofs (disch := omega) only [bnd_u, gd_t, if_true, if_false, ↓reduceIte, eq_self, true_or, or_true, false_or, or_false, not_true_eq_false, not_false_eq_true, and_true, true_and, and_false, false_and, reduceCtorEq, nI_ge, nI_le, nI_lt, nI_nlt, nI_ne, nI_te, nm_eq, mn_eq, nm_le, mn_le, nm_lt, mn_lt, pk_mul, nI_add, pk_sub, nI_clamp, eX8_keep, eX8_keep_25, hTop, hIm, st, e1]
  · have s2 : g2 90 0 = nI b := by rw [f2 90 (by decide), up_n (by decide), f1 90 (by decide)]; exact sm
    have hin := m_0n (M := mk (up g1 13 0 (nI 1))) (n := 2) (show 0 < 2 by omega) (by omega)
    rcases (show b = 0 ∨ b = 1 by omega) with rfl | rfl
    · simp -dsimp -implicitDefEqProofs (disch := omega) only [bnd_u, gd_t, if_true, if_false, ↓reduceIte, eq_self, true_or, or_true, false_or, or_false, not_true_eq_false, not_false_eq_true, and_true, true_and, and_false, false_and, reduceCtorEq, nI_ge, nI_le, nI_lt, nI_nlt, nI_ne, nI_te, nm_eq, mn_eq, nm_le, mn_le, nm_lt, mn_lt, pk_mul, nI_add, pk_sub, nI_clamp, eX9_keep, eX9_keep_37, hin, hMo, e2, s2]
    · simp -dsimp -implicitDefEqProofs (disch := omega) only [bnd_u, gd_t, if_true, if_false, ↓reduceIte, eq_self, true_or, or_true, false_or, or_false, not_true_eq_false, not_false_eq_true, and_true, true_and, and_false, false_and, reduceCtorEq, nI_ge, nI_le, nI_lt, nI_nlt, nI_ne, nI_te, nm_eq, mn_eq, nm_le, mn_le, nm_lt, mn_lt, pk_mul, nI_add, pk_sub, nI_clamp, eX9_keep, eX9_keep_37, hin, hMo, e2, s2]
  · intro j hj
    rw [up_n (by decide), b2 j (by omega), up_n (by decide), f1 79 (by decide)]
  · refine ⟨Or.inr ⟨?_, ?_, q, hI.G, ?_, ?_, ?_⟩, hI.im.2.c ?_ ?_ (ft 60 (by decide)) (ft 61 (by decide)) (ft 62 (by decide)) (ft 63 (by decide)) (ft 64 (by decide)) (ft 65 (by decide)) (ft 66 (by decide)) (ft 67 (by decide)) (ft 68 (by decide)) (ft 69 (by decide)) ?_⟩
    · rw [up_n (by decide), f2 13 (by decide), up_c, pk_us]
    · rw [up_c, pk_us]
    · rw [up_n (show 49 ≠ 90 by decide), f2 49 (by decide), up_n (show 49 ≠ 13 by decide), up_n (show 50 ≠ 90 by decide), f2 50 (by decide), up_n (show 50 ≠ 13 by decide), up_n (show 51 ≠ 90 by decide), f2 51 (by decide), up_n (show 51 ≠ 13 by decide), up_n (show 52 ≠ 90 by decide), f2 52 (by decide), up_n (show 52 ≠ 13 by decide), up_n (show 53 ≠ 90 by decide), f2 53 (by decide), up_n (show 53 ≠ 13 by decide), up_n (show 54 ≠ 90 by decide), f2 54 (by decide), up_n (show 54 ≠ 13 by decide), up_n (show 55 ≠ 90 by decide), f2 55 (by decide), up_n (show 55 ≠ 13 by decide), up_n (show 56 ≠ 90 by decide), f2 56 (by decide), up_n (show 56 ≠ 13 by decide), up_n (show 57 ≠ 90 by decide), f2 57 (by decide), up_n (show 57 ≠ 13 by decide)]
      exact FF
    · intro i hi
      rw [up_n (by decide), f2 58 (by decide), up_n (by decide), R1 i hi]; exact hI.R i hi
    · intro i hi
      rw [up_n (by decide), a2 i hi, up_n (by decide), f1 79 (by decide)]; exact hI.M.2 i hi
    · rw [up_n (by decide), f2 13 (by decide), up_c, pk_un (by decide), f1 13 (by decide)]
    · rw [up_c, pk_un (by decide), f2 90 (by decide), up_n (by decide), f1 90 (by decide)]
    · intro i hi
      rw [up_n (by decide), b2 _ (by omega), up_n (by decide), f1 79 (by decide)]
theorem back_0 (g : Gg) (q : Nat → Nat) (K : Nat) (hI : Iv g q K) : ∃ r g1 g2 p L, FX8_back 0 (nI 0) (mk g) = some (r, mk g1) ∧ FX9_back 78 (nI 0) (mk g1) = some (r, mk g2) ∧ Iv g2 p L := by
  have hin : ∀ G : Gg, FX9_in (nI 0).toInt64 (lN 0) (lN 1) (mk G) = some (nI 1, mk G) := fun G => m_0n (M := mk G) (n := 2) (show 0 < 2 by omega) (by omega)
  rcases hI.im.1 with ⟨a, b⟩ | ⟨a, b, p, hp, hf, hr, hm⟩
  · refine ⟨mi 2, g, g, q, K, ?_, ?_, hI⟩
    · simp -dsimp -implicitDefEqProofs (disch := omega) only [bnd_u, gd_t, if_true, if_false, ↓reduceIte, eq_self, true_or, or_true, false_or, or_false, not_true_eq_false, not_false_eq_true, and_true, true_and, and_false, false_and, reduceCtorEq, nI_ge, nI_le, nI_lt, nI_nlt, nI_ne, nI_te, nm_eq, mn_eq, nm_le, mn_le, nm_lt, mn_lt, pk_mul, nI_add, pk_sub, nI_clamp, eX8_back, hTop, a]
    · simp -dsimp -implicitDefEqProofs (disch := omega) only [bnd_u, gd_t, if_true, if_false, ↓reduceIte, eq_self, true_or, or_true, false_or, or_false, not_true_eq_false, not_false_eq_true, and_true, true_and, and_false, false_and, reduceCtorEq, nI_ge, nI_le, nI_lt, nI_nlt, nI_ne, nI_te, nm_eq, mn_eq, nm_le, mn_le, nm_lt, mn_lt, pk_mul, nI_add, pk_sub, nI_clamp, eX9_back, hin, hMo, b]
  · obtain ⟨g1, e1, f1, FF, R1⟩ := cp_1_48 hf hp
    obtain ⟨g2, e2, f2, a2, b2⟩ := m_copies (g := g1) (a := 74) (b := 0) (by omega) (by omega) (by omega)
    have ft : Fr [2, 3, 4, 5, 6, 7, 8, 9, 10, 11, 79] g g2 := f1.tr f2 (by simp <;> omega)
    refine ⟨nI K, g1, g2, p, K, ?_, ?_, hI.pg ft (by decide) hp (F1.f (g := g1) FF f2 (by decide)) ?_ ?_ ?_⟩
    · simp -dsimp -implicitDefEqProofs (disch := omega) only [bnd_u, gd_t, if_true, if_false, ↓reduceIte, eq_self, true_or, or_true, false_or, or_false, not_true_eq_false, not_false_eq_true, and_true, true_and, and_false, false_and, reduceCtorEq, nI_ge, nI_le, nI_lt, nI_nlt, nI_ne, nI_te, nm_eq, mn_eq, nm_le, mn_le, nm_lt, mn_lt, pk_mul, nI_add, pk_sub, nI_clamp, eX8_back, hTop, hFam, hIm, a, e1, FF.1]
    · have s2 : g1 90 0 = nI 1 := by rw [f1 90 (by decide)]; exact b
      have k2 : g2 78 2 = nI K := by rw [f2 78 (by decide), f1 78 (by decide)]; exact hI.M.1
      simp -dsimp -implicitDefEqProofs (disch := omega) only [bnd_u, gd_t, if_true, if_false, ↓reduceIte, eq_self, true_or, or_true, false_or, or_false, not_true_eq_false, not_false_eq_true, and_true, true_and, and_false, false_and, reduceCtorEq, nI_ge, nI_le, nI_lt, nI_nlt, nI_ne, nI_te, nm_eq, mn_eq, nm_le, mn_le, nm_lt, mn_lt, pk_mul, nI_add, pk_sub, nI_clamp, eX9_back, hin, hMo, s2, e2, k2]
    · intro i hi
      rw [f2 11 (by decide), R1 i hi]; exact hr i hi
    · intro i hi
      rw [a2 i hi, f1 79 (by decide)]; exact hm i hi
    · intro j hj _
      rw [b2 j (by omega), f1 79 (by decide)]
theorem keep_1 (g : Gg) (q : Nat → Nat) (K : Nat) (hI : Iv g q K) : ∃ r g1 g2 p L, FX8_keep 0 (nI 1) (mk g) = some (r, mk g1) ∧ FX9_keep 78 (nI 1) (mk g1) = some (r, mk g2) ∧ Iv g2 p L := by
  obtain ⟨b, hb, st, sm⟩ := hI.im.2.st
  obtain ⟨g1, e1, f1, FF, R1⟩ := cp_59_1 hI.F hI.G
  obtain ⟨g2, e2, f2, a2, b2⟩ := m_copies (g := up g1 13 1 (nI 1)) (a := 0) (b := 148) (by omega) (by omega) (by omega)
  have ft : Fr [13, 60, 61, 62, 63, 64, 65, 66, 67, 68, 69, 79, 90] g (up g2 90 1 (nI 1)) := fun c hc => by
    simp only [List.mem_cons, List.not_mem_nil, or_false, not_or] at hc
    rw [up_n (by omega), f2 c (by simp <;> omega), up_n (by omega), f1 c (by simp <;> omega)]
  refine ⟨nI b, up g1 13 1 (nI 1), up g2 90 1 (nI 1), q, K, ?_, ?_, hI.iim ft (by decide) ?_ ?_⟩
  · rcases (show b = 0 ∨ b = 1 by omega) with rfl | rfl
    · simp -dsimp -implicitDefEqProofs (disch := omega) only [bnd_u, gd_t, if_true, if_false, ↓reduceIte, eq_self, true_or, or_true, false_or, or_false, not_true_eq_false, not_false_eq_true, and_true, true_and, and_false, false_and, reduceCtorEq, nI_ge, nI_le, nI_lt, nI_nlt, nI_ne, nI_te, nm_eq, mn_eq, nm_le, mn_le, nm_lt, mn_lt, pk_mul, nI_add, pk_sub, nI_clamp, eX8_keep, eX8_keep_25, hTop, hIm, st, e1]
    · simp -dsimp -implicitDefEqProofs (disch := omega) only [bnd_u, gd_t, if_true, if_false, ↓reduceIte, eq_self, true_or, or_true, false_or, or_false, not_true_eq_false, not_false_eq_true, and_true, true_and, and_false, false_and, reduceCtorEq, nI_ge, nI_le, nI_lt, nI_nlt, nI_ne, nI_te, nm_eq, mn_eq, nm_le, mn_le, nm_lt, mn_lt, pk_mul, nI_add, pk_sub, nI_clamp, eX8_keep, eX8_keep_25, hTop, hIm, st, e1]
  · have s2 : g2 90 1 = nI b := by rw [f2 90 (by decide), up_n (by decide), f1 90 (by decide)]; exact sm
    have hin := m_0n (M := mk (up g1 13 1 (nI 1))) (n := 2) (show 1 < 2 by omega) (by omega)
    rcases (show b = 0 ∨ b = 1 by omega) with rfl | rfl
    · simp -dsimp -implicitDefEqProofs (disch := omega) only [bnd_u, gd_t, if_true, if_false, ↓reduceIte, eq_self, true_or, or_true, false_or, or_false, not_true_eq_false, not_false_eq_true, and_true, true_and, and_false, false_and, reduceCtorEq, nI_ge, nI_le, nI_lt, nI_nlt, nI_ne, nI_te, nm_eq, mn_eq, nm_le, mn_le, nm_lt, mn_lt, pk_mul, nI_add, pk_sub, nI_clamp, eX9_keep, eX9_keep_37, hin, hMo, e2, s2]
    · simp -dsimp -implicitDefEqProofs (disch := omega) only [bnd_u, gd_t, if_true, if_false, ↓reduceIte, eq_self, true_or, or_true, false_or, or_false, not_true_eq_false, not_false_eq_true, and_true, true_and, and_false, false_and, reduceCtorEq, nI_ge, nI_le, nI_lt, nI_nlt, nI_ne, nI_te, nm_eq, mn_eq, nm_le, mn_le, nm_lt, mn_lt, pk_mul, nI_add, pk_sub, nI_clamp, eX9_keep, eX9_keep_37, hin, hMo, e2, s2]
  · intro j hj
    rw [up_n (by decide), b2 j (by omega), up_n (by decide), f1 79 (by decide)]
  · refine ⟨hI.im.1.c ?_ ?_ (ft 49 (by decide)) (ft 50 (by decide)) (ft 51 (by decide)) (ft 52 (by decide)) (ft 53 (by decide)) (ft 54 (by decide)) (ft 55 (by decide)) (ft 56 (by decide)) (ft 57 (by decide)) (ft 58 (by decide)) ?_, Or.inr ⟨?_, ?_, q, hI.G, ?_, ?_, ?_⟩⟩
    · rw [up_n (by decide), f2 13 (by decide), up_c, pk_un (by decide), f1 13 (by decide)]
    · rw [up_c, pk_un (by decide), f2 90 (by decide), up_n (by decide), f1 90 (by decide)]
    · intro i hi
      rw [up_n (by decide), b2 _ (by omega), up_n (by decide), f1 79 (by decide)]
    · rw [up_n (by decide), f2 13 (by decide), up_c, pk_us]
    · rw [up_c, pk_us]
    · rw [up_n (show 60 ≠ 90 by decide), f2 60 (by decide), up_n (show 60 ≠ 13 by decide), up_n (show 61 ≠ 90 by decide), f2 61 (by decide), up_n (show 61 ≠ 13 by decide), up_n (show 62 ≠ 90 by decide), f2 62 (by decide), up_n (show 62 ≠ 13 by decide), up_n (show 63 ≠ 90 by decide), f2 63 (by decide), up_n (show 63 ≠ 13 by decide), up_n (show 64 ≠ 90 by decide), f2 64 (by decide), up_n (show 64 ≠ 13 by decide), up_n (show 65 ≠ 90 by decide), f2 65 (by decide), up_n (show 65 ≠ 13 by decide), up_n (show 66 ≠ 90 by decide), f2 66 (by decide), up_n (show 66 ≠ 13 by decide), up_n (show 67 ≠ 90 by decide), f2 67 (by decide), up_n (show 67 ≠ 13 by decide), up_n (show 68 ≠ 90 by decide), f2 68 (by decide), up_n (show 68 ≠ 13 by decide)]
      exact FF
    · intro i hi
      rw [up_n (by decide), f2 69 (by decide), up_n (by decide), R1 i hi]; exact hI.R i hi
    · intro i hi
      rw [up_n (by decide), a2 i hi, up_n (by decide), f1 79 (by decide)]; exact hI.M.2 i hi
theorem back_1 (g : Gg) (q : Nat → Nat) (K : Nat) (hI : Iv g q K) : ∃ r g1 g2 p L, FX8_back 0 (nI 1) (mk g) = some (r, mk g1) ∧ FX9_back 78 (nI 1) (mk g1) = some (r, mk g2) ∧ Iv g2 p L := by
  have hin : ∀ G : Gg, FX9_in (nI 1).toInt64 (lN 0) (lN 1) (mk G) = some (nI 1, mk G) := fun G => m_0n (M := mk G) (n := 2) (show 1 < 2 by omega) (by omega)
  rcases hI.im.2 with ⟨a, b⟩ | ⟨a, b, p, hp, hf, hr, hm⟩
  · refine ⟨mi 2, g, g, q, K, ?_, ?_, hI⟩
    · simp -dsimp -implicitDefEqProofs (disch := omega) only [bnd_u, gd_t, if_true, if_false, ↓reduceIte, eq_self, true_or, or_true, false_or, or_false, not_true_eq_false, not_false_eq_true, and_true, true_and, and_false, false_and, reduceCtorEq, nI_ge, nI_le, nI_lt, nI_nlt, nI_ne, nI_te, nm_eq, mn_eq, nm_le, mn_le, nm_lt, mn_lt, pk_mul, nI_add, pk_sub, nI_clamp, eX8_back, hTop, a]
    · simp -dsimp -implicitDefEqProofs (disch := omega) only [bnd_u, gd_t, if_true, if_false, ↓reduceIte, eq_self, true_or, or_true, false_or, or_false, not_true_eq_false, not_false_eq_true, and_true, true_and, and_false, false_and, reduceCtorEq, nI_ge, nI_le, nI_lt, nI_nlt, nI_ne, nI_te, nm_eq, mn_eq, nm_le, mn_le, nm_lt, mn_lt, pk_mul, nI_add, pk_sub, nI_clamp, eX9_back, hin, hMo, b]
  · obtain ⟨g1, e1, f1, FF, R1⟩ := cp_1_59 hf hp
    obtain ⟨g2, e2, f2, a2, b2⟩ := m_copies (g := g1) (a := 148) (b := 0) (by omega) (by omega) (by omega)
    have ft : Fr [2, 3, 4, 5, 6, 7, 8, 9, 10, 11, 79] g g2 := f1.tr f2 (by simp <;> omega)
    refine ⟨nI K, g1, g2, p, K, ?_, ?_, hI.pg ft (by decide) hp (F1.f (g := g1) FF f2 (by decide)) ?_ ?_ ?_⟩
    · simp -dsimp -implicitDefEqProofs (disch := omega) only [bnd_u, gd_t, if_true, if_false, ↓reduceIte, eq_self, true_or, or_true, false_or, or_false, not_true_eq_false, not_false_eq_true, and_true, true_and, and_false, false_and, reduceCtorEq, nI_ge, nI_le, nI_lt, nI_nlt, nI_ne, nI_te, nm_eq, mn_eq, nm_le, mn_le, nm_lt, mn_lt, pk_mul, nI_add, pk_sub, nI_clamp, eX8_back, hTop, hFam, hIm, a, e1, FF.1]
    · have s2 : g1 90 1 = nI 1 := by rw [f1 90 (by decide)]; exact b
      have k2 : g2 78 2 = nI K := by rw [f2 78 (by decide), f1 78 (by decide)]; exact hI.M.1
      simp -dsimp -implicitDefEqProofs (disch := omega) only [bnd_u, gd_t, if_true, if_false, ↓reduceIte, eq_self, true_or, or_true, false_or, or_false, not_true_eq_false, not_false_eq_true, and_true, true_and, and_false, false_and, reduceCtorEq, nI_ge, nI_le, nI_lt, nI_nlt, nI_ne, nI_te, nm_eq, mn_eq, nm_le, mn_le, nm_lt, mn_lt, pk_mul, nI_add, pk_sub, nI_clamp, eX9_back, hin, hMo, s2, e2, k2]
    · intro i hi
      rw [f2 11 (by decide), R1 i hi]; exact hr i hi
    · intro i hi
      rw [a2 i hi, f1 79 (by decide)]; exact hm i hi
    · intro j hj _
      rw [b2 j (by omega), f1 79 (by decide)]
theorem sim_keep (x : Int32) : Sim (FX8_keep 0 x) (FX9_keep 78 x) := by
  intro g q K hI
  rcases in_of x (n := 2) (by omega) with hx | ⟨k, hk, rfl⟩
  · refine ⟨mi 1, g, g, q, K, ?_, ?_, hI⟩
    · rcases hx with h | ⟨h, h2⟩
      · simp -dsimp -implicitDefEqProofs (disch := omega) only [bnd_u, gd_t, if_true, if_false, ↓reduceIte, eq_self, true_or, or_true, false_or, or_false, not_true_eq_false, not_false_eq_true, and_true, true_and, and_false, false_and, reduceCtorEq, nI_ge, nI_le, nI_lt, nI_nlt, nI_ne, nI_te, nm_eq, mn_eq, nm_le, mn_le, nm_lt, mn_lt, pk_mul, nI_add, pk_sub, nI_clamp, eX8_keep, eX8_keep_9, h]
      · have h3 : ¬ x < nI 2 := fun h4 => (fa_of_lt h4).2.1 h2
        simp -dsimp -implicitDefEqProofs (disch := omega) only [bnd_u, gd_t, if_true, if_false, ↓reduceIte, eq_self, true_or, or_true, false_or, or_false, not_true_eq_false, not_false_eq_true, and_true, true_and, and_false, false_and, reduceCtorEq, nI_ge, nI_le, nI_lt, nI_nlt, nI_ne, nI_te, nm_eq, mn_eq, nm_le, mn_le, nm_lt, mn_lt, pk_mul, nI_add, pk_sub, nI_clamp, eX8_keep, eX8_keep_9, h, h3]
    · have hin := m_0nN (M := mk g) (n := 2) (by omega) (by omega) hx
      simp -dsimp -implicitDefEqProofs (disch := omega) only [bnd_u, gd_t, if_true, if_false, ↓reduceIte, eq_self, true_or, or_true, false_or, or_false, not_true_eq_false, not_false_eq_true, and_true, true_and, and_false, false_and, reduceCtorEq, nI_ge, nI_le, nI_lt, nI_nlt, nI_ne, nI_te, nm_eq, mn_eq, nm_le, mn_le, nm_lt, mn_lt, pk_mul, nI_add, pk_sub, nI_clamp, eX9_keep, hin]
  · rcases (show k = 0 ∨ k = 1 by omega) with rfl | rfl
    · exact keep_0 g q K hI
    · exact keep_1 g q K hI
theorem sim_back (x : Int32) : Sim (FX8_back 0 x) (FX9_back 78 x) := by
  intro g q K hI
  rcases in_of x (n := 2) (by omega) with hx | ⟨k, hk, rfl⟩
  · refine ⟨mi 1, g, g, q, K, ?_, ?_, hI⟩
    · rcases hx with h | ⟨h, h2⟩
      · simp -dsimp -implicitDefEqProofs (disch := omega) only [bnd_u, gd_t, if_true, if_false, ↓reduceIte, eq_self, true_or, or_true, false_or, or_false, not_true_eq_false, not_false_eq_true, and_true, true_and, and_false, false_and, reduceCtorEq, nI_ge, nI_le, nI_lt, nI_nlt, nI_ne, nI_te, nm_eq, mn_eq, nm_le, mn_le, nm_lt, mn_lt, pk_mul, nI_add, pk_sub, nI_clamp, eX8_back, eX8_back_9, h]
      · have h3 : ¬ x < nI 2 := fun h4 => (fa_of_lt h4).2.1 h2
        simp -dsimp -implicitDefEqProofs (disch := omega) only [bnd_u, gd_t, if_true, if_false, ↓reduceIte, eq_self, true_or, or_true, false_or, or_false, not_true_eq_false, not_false_eq_true, and_true, true_and, and_false, false_and, reduceCtorEq, nI_ge, nI_le, nI_lt, nI_nlt, nI_ne, nI_te, nm_eq, mn_eq, nm_le, mn_le, nm_lt, mn_lt, pk_mul, nI_add, pk_sub, nI_clamp, eX8_back, eX8_back_9, h, h3]
    · have hin := m_0nN (M := mk g) (n := 2) (by omega) (by omega) hx
      simp -dsimp -implicitDefEqProofs (disch := omega) only [bnd_u, gd_t, if_true, if_false, ↓reduceIte, eq_self, true_or, or_true, false_or, or_false, not_true_eq_false, not_false_eq_true, and_true, true_and, and_false, false_and, reduceCtorEq, nI_ge, nI_le, nI_lt, nI_nlt, nI_ne, nI_te, nm_eq, mn_eq, nm_le, mn_le, nm_lt, mn_lt, pk_mul, nI_add, pk_sub, nI_clamp, eX9_back, hin]
  · rcases (show k = 0 ∨ k = 1 by omega) with rfl | rfl
    · exact back_0 g q K hI
    · exact back_1 g q K hI
