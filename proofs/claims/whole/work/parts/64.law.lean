/-! the start holds -/
theorem iv_a : (∀ h, h < 10 → gOf iM3 11 h = mi 4) ∧ (∀ i, i < 3 → gOf iM3 10 i = nI 0) ∧ (∀ i, i < 74 → gOf iM3 79 i = nI 0) ∧ (∀ k, k < 4 → gOf iM3 80 k = nI (kp k)) ∧ (∀ k, k < 2 → gOf iM3 13 k = nI 0 ∧ gOf iM3 90 k = nI 0) ∧ (∀ k, k < 4 → gOf iM3 91 k = mi 4) ∧ (∀ i, i < 10 → gOf iM3 83 i = nI (ctab.getD i 0)) ∧ ∀ i, i < 41 → gOf iM3 84 i = nI (ltab.getD i 0) := by decide +kernel
theorem iv_o : gOf iM3 2 3 = nI 0 ∧ gOf iM3 4 3 = nI 0 ∧ gOf iM3 6 3 = nI 0 ∧ gOf iM3 8 3 = nI 0 ∧ gOf iM3 14 3 = nI 0 ∧ gOf iM3 16 3 = nI 0 ∧ gOf iM3 0 12 = nI 0 ∧ gOf iM3 0 13 = nI 0 ∧ gOf iM3 38 5 = nI 0 ∧ gOf iM3 70 2 = mi 4 ∧ gOf iM3 72 2 = mi 4 ∧ gOf iM3 74 2 = mi 4 ∧ gOf iM3 76 2 = mi 4 ∧ gOf iM3 78 2 = nI 0 ∧ gOf iM3 78 10 = nI 0 ∧ gOf iM3 78 11 = nI 0 ∧ gOf iM3 78 24 = nI 0 ∧ gOf iM3 78 31 = nI 0 := by decide +kernel
theorem Iv_0 : Iv (gOf iM3) z0 0 := by
  obtain ⟨a11, a10, a79, a80, a13, a91, a83, a84⟩ := iv_a
  obtain ⟨o2, o4, o6, o8, o14, o16, o12, o13, o38, p0, p1, p2, p3, m2, m10, m11, m24, m31⟩ := iv_o
  have no : ∀ t : Nat, t < 0 → False := fun t h => Nat.not_lt_zero t h
  refine ⟨⟨by decide, fun _ => Nat.zero_le _, fun k hk => (no k hk).elim, Nat.zero_le _, fun t ht => (no t ht).elim, fun _ _ => Nat.zero_le _, Nat.zero_le _, fun t ht => (no t ht).elim, Nat.zero_le _, fun t ht => (no t ht).elim, fun _ _ => Nat.zero_le _⟩, ⟨o2, fun k hk => (no k hk).elim, fun k hk => (no k hk).elim, o4, fun t _ ht => (no t ht).elim, o6, fun t _ ht => (no t ht).elim, o8, fun t _ ht => (no t ht).elim, a10⟩, a11, ⟨m2, fun i hi => ?_⟩, a80, ⟨Or.inl (a13 0 (by decide)), Or.inl (a13 1 (by decide))⟩, ⟨0, z0, by decide, o14, m24, fun t ht => (no t ht).elim⟩, ⟨0, z0, by decide, o16, m10, fun t ht => (no t ht).elim⟩, ⟨by rw [o12, m11], by rw [o13, m31]⟩, ⟨Or.inl ⟨p0, a91 0 (by decide)⟩, Or.inl ⟨p1, a91 1 (by decide)⟩, Or.inl ⟨p2, a91 2 (by decide)⟩, Or.inl ⟨p3, a91 3 (by decide)⟩⟩, Or.inl o38, ⟨a83, a84⟩⟩
  rw [Nat.zero_add]; exact a79 i hi
/-! the law's loop -/
theorem lw_sub {N i : Nat} (hN : N ≤ 320) (hi : i ≤ 1000) : (nI N - nI 5 < nI i) = (N < i + 5) := by
  refine propext ?_
  rcases Nat.lt_or_ge N 5 with h | h
  · have e : (nI N - nI 5).toInt = (N : Int) - 5 := by
      rw [Int32.toInt_sub, nI_toInt (by omega), nI_toInt (by decide)]
      exact Int.bmod_eq_of_le (by omega) (by omega)
    rw [fa_lt, e, nI_toInt (by omega)]; omega
  · rw [pk_sub h, fa_lt, nI_toInt (by omega), nI_toInt (by omega)]; omega
theorem lg_same (x : Int64) : lg_cmp x x = nI 0 := by
  unfold lg_cmp
  simp [nI]
/-- what a step of the loop needs -/
def Lw (N : Nat) (xs : Nat → Int32) (m i : Nat) : Prop := ∀ g q K, Iv g q K → ∃ g', FL_law_18 N xs m 1022 0 78 (nI (i + 5)) (mk g) = some (nI 1, mk g')
theorem lw_c0 {N : Nat} {xs : Nat → Int32} {m i : Nat} {g : Gg} {q : Nat → Nat} {K : Nat} (hN : N ≤ 320) (hi : i + 5 ≤ N) (hI : Iv g q K) (ih : Lw N xs m i) (hv : xs i &&& nI 63 = nI 0) : ∃ g', FL_law_18 N xs (m + 1) 1022 0 78 (nI i) (mk g) = some (nI 1, mk g') := by
  obtain ⟨r, g1, g2, p, L, e1, e2, hI2⟩ := sim_feed (xs (i + 1)) g q K hI
  obtain ⟨g', e'⟩ := ih g2 p L hI2
  have hc : (nI N - nI 5 < nI i) = False := by rw [lw_sub hN (by omega)]; exact eq_false (by omega)
  have c0 : (i < N) = True := eq_true (by omega)
  have c1 : (i + 1 < N) = True := eq_true (by omega)
  have c2 : (i + 2 < N) = True := eq_true (by omega)
  have c3 : (i + 3 < N) = True := eq_true (by omega)
  have c4 : (i + 4 < N) = True := eq_true (by omega)
  refine ⟨g', ?_⟩
  rw [eL_law_18]
  simp -dsimp -implicitDefEqProofs (disch := omega) only [bnd_u, gd_t, if_true, if_false, ↓reduceIte, eq_self, true_or, or_true, false_or, or_false, not_true_eq_false, not_false_eq_true, and_true, true_and, and_false, false_and, reduceCtorEq, nI_ge, nI_le, nI_lt, nI_nlt, nI_ne, nI_te, nm_eq, mn_eq, nm_le, mn_le, nm_lt, mn_lt, pk_mul, nI_add, pk_sub, nI_clamp, eL_law_1527, hTop, hMo, hc, c0, c1, c2, c3, c4, hv, e1, e2, lg_same, e']
theorem lw_c1 {N : Nat} {xs : Nat → Int32} {m i : Nat} {g : Gg} {q : Nat → Nat} {K : Nat} (hN : N ≤ 320) (hi : i + 5 ≤ N) (hI : Iv g q K) (ih : Lw N xs m i) (hv : xs i &&& nI 63 = nI 1) : ∃ g', FL_law_18 N xs (m + 1) 1022 0 78 (nI i) (mk g) = some (nI 1, mk g') := by
  obtain ⟨r, g1, g2, p, L, e1, e2, hI2⟩ := sim_end (xs (i + 1)) g q K hI
  obtain ⟨g', e'⟩ := ih g2 p L hI2
  have hc : (nI N - nI 5 < nI i) = False := by rw [lw_sub hN (by omega)]; exact eq_false (by omega)
  have c0 : (i < N) = True := eq_true (by omega)
  have c1 : (i + 1 < N) = True := eq_true (by omega)
  have c2 : (i + 2 < N) = True := eq_true (by omega)
  have c3 : (i + 3 < N) = True := eq_true (by omega)
  have c4 : (i + 4 < N) = True := eq_true (by omega)
  refine ⟨g', ?_⟩
  rw [eL_law_18]
  simp -dsimp -implicitDefEqProofs (disch := omega) only [bnd_u, gd_t, if_true, if_false, ↓reduceIte, eq_self, true_or, or_true, false_or, or_false, not_true_eq_false, not_false_eq_true, and_true, true_and, and_false, false_and, reduceCtorEq, nI_ge, nI_le, nI_lt, nI_nlt, nI_ne, nI_te, nm_eq, mn_eq, nm_le, mn_le, nm_lt, mn_lt, pk_mul, nI_add, pk_sub, nI_clamp, eL_law_1527, hTop, hMo, hc, c0, c1, c2, c3, c4, hv, e1, e2, lg_same, e']
theorem lw_c2 {N : Nat} {xs : Nat → Int32} {m i : Nat} {g : Gg} {q : Nat → Nat} {K : Nat} (hN : N ≤ 320) (hi : i + 5 ≤ N) (hI : Iv g q K) (ih : Lw N xs m i) (hv : xs i &&& nI 63 = nI 2) : ∃ g', FL_law_18 N xs (m + 1) 1022 0 78 (nI i) (mk g) = some (nI 1, mk g') := by
  obtain ⟨r, g1, g2, p, L, e1, e2, hI2⟩ := sim_text  g q K hI
  obtain ⟨g', e'⟩ := ih g2 p L hI2
  have hc : (nI N - nI 5 < nI i) = False := by rw [lw_sub hN (by omega)]; exact eq_false (by omega)
  have c0 : (i < N) = True := eq_true (by omega)
  have c1 : (i + 1 < N) = True := eq_true (by omega)
  have c2 : (i + 2 < N) = True := eq_true (by omega)
  have c3 : (i + 3 < N) = True := eq_true (by omega)
  have c4 : (i + 4 < N) = True := eq_true (by omega)
  refine ⟨g', ?_⟩
  rw [eL_law_18]
  simp -dsimp -implicitDefEqProofs (disch := omega) only [bnd_u, gd_t, if_true, if_false, ↓reduceIte, eq_self, true_or, or_true, false_or, or_false, not_true_eq_false, not_false_eq_true, and_true, true_and, and_false, false_and, reduceCtorEq, nI_ge, nI_le, nI_lt, nI_nlt, nI_ne, nI_te, nm_eq, mn_eq, nm_le, mn_le, nm_lt, mn_lt, pk_mul, nI_add, pk_sub, nI_clamp, eL_law_1527, hTop, hMo, hc, c0, c1, c2, c3, c4, hv, e1, e2, lg_same, e']
theorem lw_c3 {N : Nat} {xs : Nat → Int32} {m i : Nat} {g : Gg} {q : Nat → Nat} {K : Nat} (hN : N ≤ 320) (hi : i + 5 ≤ N) (hI : Iv g q K) (ih : Lw N xs m i) (hv : xs i &&& nI 63 = nI 3) : ∃ g', FL_law_18 N xs (m + 1) 1022 0 78 (nI i) (mk g) = some (nI 1, mk g') := by
  obtain ⟨r, g1, g2, p, L, e1, e2, hI2⟩ := sim_fault  g q K hI
  obtain ⟨g', e'⟩ := ih g2 p L hI2
  have hc : (nI N - nI 5 < nI i) = False := by rw [lw_sub hN (by omega)]; exact eq_false (by omega)
  have c0 : (i < N) = True := eq_true (by omega)
  have c1 : (i + 1 < N) = True := eq_true (by omega)
  have c2 : (i + 2 < N) = True := eq_true (by omega)
  have c3 : (i + 3 < N) = True := eq_true (by omega)
  have c4 : (i + 4 < N) = True := eq_true (by omega)
  refine ⟨g', ?_⟩
  rw [eL_law_18]
  simp -dsimp -implicitDefEqProofs (disch := omega) only [bnd_u, gd_t, if_true, if_false, ↓reduceIte, eq_self, true_or, or_true, false_or, or_false, not_true_eq_false, not_false_eq_true, and_true, true_and, and_false, false_and, reduceCtorEq, nI_ge, nI_le, nI_lt, nI_nlt, nI_ne, nI_te, nm_eq, mn_eq, nm_le, mn_le, nm_lt, mn_lt, pk_mul, nI_add, pk_sub, nI_clamp, eL_law_1527, hTop, hMo, hc, c0, c1, c2, c3, c4, hv, e1, e2, lg_same, e']
theorem lw_c4 {N : Nat} {xs : Nat → Int32} {m i : Nat} {g : Gg} {q : Nat → Nat} {K : Nat} (hN : N ≤ 320) (hi : i + 5 ≤ N) (hI : Iv g q K) (ih : Lw N xs m i) (hv : xs i &&& nI 63 = nI 4) : ∃ g', FL_law_18 N xs (m + 1) 1022 0 78 (nI i) (mk g) = some (nI 1, mk g') := by
  obtain ⟨r, g1, g2, p, L, e1, e2, hI2⟩ := sim_rule (xs (i + 1)) g q K hI
  obtain ⟨g', e'⟩ := ih g2 p L hI2
  have hc : (nI N - nI 5 < nI i) = False := by rw [lw_sub hN (by omega)]; exact eq_false (by omega)
  have c0 : (i < N) = True := eq_true (by omega)
  have c1 : (i + 1 < N) = True := eq_true (by omega)
  have c2 : (i + 2 < N) = True := eq_true (by omega)
  have c3 : (i + 3 < N) = True := eq_true (by omega)
  have c4 : (i + 4 < N) = True := eq_true (by omega)
  refine ⟨g', ?_⟩
  rw [eL_law_18]
  simp -dsimp -implicitDefEqProofs (disch := omega) only [bnd_u, gd_t, if_true, if_false, ↓reduceIte, eq_self, true_or, or_true, false_or, or_false, not_true_eq_false, not_false_eq_true, and_true, true_and, and_false, false_and, reduceCtorEq, nI_ge, nI_le, nI_lt, nI_nlt, nI_ne, nI_te, nm_eq, mn_eq, nm_le, mn_le, nm_lt, mn_lt, pk_mul, nI_add, pk_sub, nI_clamp, eL_law_1527, hTop, hMo, hc, c0, c1, c2, c3, c4, hv, e1, e2, lg_same, e']
theorem lw_c5 {N : Nat} {xs : Nat → Int32} {m i : Nat} {g : Gg} {q : Nat → Nat} {K : Nat} (hN : N ≤ 320) (hi : i + 5 ≤ N) (hI : Iv g q K) (ih : Lw N xs m i) (hv : xs i &&& nI 63 = nI 5) : ∃ g', FL_law_18 N xs (m + 1) 1022 0 78 (nI i) (mk g) = some (nI 1, mk g') := by
  obtain ⟨r, g1, g2, p, L, e1, e2, hI2⟩ := sim_one (xs (i + 1)) (xs (i + 2)) g q K hI
  obtain ⟨g', e'⟩ := ih g2 p L hI2
  have hc : (nI N - nI 5 < nI i) = False := by rw [lw_sub hN (by omega)]; exact eq_false (by omega)
  have c0 : (i < N) = True := eq_true (by omega)
  have c1 : (i + 1 < N) = True := eq_true (by omega)
  have c2 : (i + 2 < N) = True := eq_true (by omega)
  have c3 : (i + 3 < N) = True := eq_true (by omega)
  have c4 : (i + 4 < N) = True := eq_true (by omega)
  refine ⟨g', ?_⟩
  rw [eL_law_18]
  simp -dsimp -implicitDefEqProofs (disch := omega) only [bnd_u, gd_t, if_true, if_false, ↓reduceIte, eq_self, true_or, or_true, false_or, or_false, not_true_eq_false, not_false_eq_true, and_true, true_and, and_false, false_and, reduceCtorEq, nI_ge, nI_le, nI_lt, nI_nlt, nI_ne, nI_te, nm_eq, mn_eq, nm_le, mn_le, nm_lt, mn_lt, pk_mul, nI_add, pk_sub, nI_clamp, eL_law_1527, hTop, hMo, hc, c0, c1, c2, c3, c4, hv, e1, e2, lg_same, e']
theorem lw_c6 {N : Nat} {xs : Nat → Int32} {m i : Nat} {g : Gg} {q : Nat → Nat} {K : Nat} (hN : N ≤ 320) (hi : i + 5 ≤ N) (hI : Iv g q K) (ih : Lw N xs m i) (hv : xs i &&& nI 63 = nI 6) : ∃ g', FL_law_18 N xs (m + 1) 1022 0 78 (nI i) (mk g) = some (nI 1, mk g') := by
  obtain ⟨r, g1, g2, p, L, e1, e2, hI2⟩ := sim_thing (xs (i + 1)) (xs (i + 2)) g q K hI
  obtain ⟨g', e'⟩ := ih g2 p L hI2
  have hc : (nI N - nI 5 < nI i) = False := by rw [lw_sub hN (by omega)]; exact eq_false (by omega)
  have c0 : (i < N) = True := eq_true (by omega)
  have c1 : (i + 1 < N) = True := eq_true (by omega)
  have c2 : (i + 2 < N) = True := eq_true (by omega)
  have c3 : (i + 3 < N) = True := eq_true (by omega)
  have c4 : (i + 4 < N) = True := eq_true (by omega)
  refine ⟨g', ?_⟩
  rw [eL_law_18]
  simp -dsimp -implicitDefEqProofs (disch := omega) only [bnd_u, gd_t, if_true, if_false, ↓reduceIte, eq_self, true_or, or_true, false_or, or_false, not_true_eq_false, not_false_eq_true, and_true, true_and, and_false, false_and, reduceCtorEq, nI_ge, nI_le, nI_lt, nI_nlt, nI_ne, nI_te, nm_eq, mn_eq, nm_le, mn_le, nm_lt, mn_lt, pk_mul, nI_add, pk_sub, nI_clamp, eL_law_1527, hTop, hMo, hc, c0, c1, c2, c3, c4, hv, e1, e2, lg_same, e']
theorem lw_c7 {N : Nat} {xs : Nat → Int32} {m i : Nat} {g : Gg} {q : Nat → Nat} {K : Nat} (hN : N ≤ 320) (hi : i + 5 ≤ N) (hI : Iv g q K) (ih : Lw N xs m i) (hv : xs i &&& nI 63 = nI 7) : ∃ g', FL_law_18 N xs (m + 1) 1022 0 78 (nI i) (mk g) = some (nI 1, mk g') := by
  obtain ⟨r, g1, g2, p, L, e1, e2, hI2⟩ := sim_rota (xs (i + 1)) g q K hI
  obtain ⟨g', e'⟩ := ih g2 p L hI2
  have hc : (nI N - nI 5 < nI i) = False := by rw [lw_sub hN (by omega)]; exact eq_false (by omega)
  have c0 : (i < N) = True := eq_true (by omega)
  have c1 : (i + 1 < N) = True := eq_true (by omega)
  have c2 : (i + 2 < N) = True := eq_true (by omega)
  have c3 : (i + 3 < N) = True := eq_true (by omega)
  have c4 : (i + 4 < N) = True := eq_true (by omega)
  refine ⟨g', ?_⟩
  rw [eL_law_18]
  simp -dsimp -implicitDefEqProofs (disch := omega) only [bnd_u, gd_t, if_true, if_false, ↓reduceIte, eq_self, true_or, or_true, false_or, or_false, not_true_eq_false, not_false_eq_true, and_true, true_and, and_false, false_and, reduceCtorEq, nI_ge, nI_le, nI_lt, nI_nlt, nI_ne, nI_te, nm_eq, mn_eq, nm_le, mn_le, nm_lt, mn_lt, pk_mul, nI_add, pk_sub, nI_clamp, eL_law_1527, hTop, hMo, hc, c0, c1, c2, c3, c4, hv, e1, e2, lg_same, e']
theorem lw_c8 {N : Nat} {xs : Nat → Int32} {m i : Nat} {g : Gg} {q : Nat → Nat} {K : Nat} (hN : N ≤ 320) (hi : i + 5 ≤ N) (hI : Iv g q K) (ih : Lw N xs m i) (hv : xs i &&& nI 63 = nI 8) : ∃ g', FL_law_18 N xs (m + 1) 1022 0 78 (nI i) (mk g) = some (nI 1, mk g') := by
  obtain ⟨r, g1, g2, p, L, e1, e2, hI2⟩ := sim_turn (xs (i + 1)) (xs (i + 2)) g q K hI
  obtain ⟨g', e'⟩ := ih g2 p L hI2
  have hc : (nI N - nI 5 < nI i) = False := by rw [lw_sub hN (by omega)]; exact eq_false (by omega)
  have c0 : (i < N) = True := eq_true (by omega)
  have c1 : (i + 1 < N) = True := eq_true (by omega)
  have c2 : (i + 2 < N) = True := eq_true (by omega)
  have c3 : (i + 3 < N) = True := eq_true (by omega)
  have c4 : (i + 4 < N) = True := eq_true (by omega)
  refine ⟨g', ?_⟩
  rw [eL_law_18]
  simp -dsimp -implicitDefEqProofs (disch := omega) only [bnd_u, gd_t, if_true, if_false, ↓reduceIte, eq_self, true_or, or_true, false_or, or_false, not_true_eq_false, not_false_eq_true, and_true, true_and, and_false, false_and, reduceCtorEq, nI_ge, nI_le, nI_lt, nI_nlt, nI_ne, nI_te, nm_eq, mn_eq, nm_le, mn_le, nm_lt, mn_lt, pk_mul, nI_add, pk_sub, nI_clamp, eL_law_1527, hTop, hMo, hc, c0, c1, c2, c3, c4, hv, e1, e2, lg_same, e']
theorem lw_c9 {N : Nat} {xs : Nat → Int32} {m i : Nat} {g : Gg} {q : Nat → Nat} {K : Nat} (hN : N ≤ 320) (hi : i + 5 ≤ N) (hI : Iv g q K) (ih : Lw N xs m i) (hv : xs i &&& nI 63 = nI 9) : ∃ g', FL_law_18 N xs (m + 1) 1022 0 78 (nI i) (mk g) = some (nI 1, mk g') := by
  obtain ⟨r, g1, g2, p, L, e1, e2, hI2⟩ := sim_work (xs (i + 1)) (xs (i + 2)) g q K hI
  obtain ⟨g', e'⟩ := ih g2 p L hI2
  have hc : (nI N - nI 5 < nI i) = False := by rw [lw_sub hN (by omega)]; exact eq_false (by omega)
  have c0 : (i < N) = True := eq_true (by omega)
  have c1 : (i + 1 < N) = True := eq_true (by omega)
  have c2 : (i + 2 < N) = True := eq_true (by omega)
  have c3 : (i + 3 < N) = True := eq_true (by omega)
  have c4 : (i + 4 < N) = True := eq_true (by omega)
  refine ⟨g', ?_⟩
  rw [eL_law_18]
  simp -dsimp -implicitDefEqProofs (disch := omega) only [bnd_u, gd_t, if_true, if_false, ↓reduceIte, eq_self, true_or, or_true, false_or, or_false, not_true_eq_false, not_false_eq_true, and_true, true_and, and_false, false_and, reduceCtorEq, nI_ge, nI_le, nI_lt, nI_nlt, nI_ne, nI_te, nm_eq, mn_eq, nm_le, mn_le, nm_lt, mn_lt, pk_mul, nI_add, pk_sub, nI_clamp, eL_law_1527, hTop, hMo, hc, c0, c1, c2, c3, c4, hv, e1, e2, lg_same, e']
theorem lw_c10 {N : Nat} {xs : Nat → Int32} {m i : Nat} {g : Gg} {q : Nat → Nat} {K : Nat} (hN : N ≤ 320) (hi : i + 5 ≤ N) (hI : Iv g q K) (ih : Lw N xs m i) (hv : xs i &&& nI 63 = nI 10) : ∃ g', FL_law_18 N xs (m + 1) 1022 0 78 (nI i) (mk g) = some (nI 1, mk g') := by
  obtain ⟨r, g1, g2, p, L, e1, e2, hI2⟩ := sim_telling (xs (i + 1)) (xs (i + 2)) g q K hI
  obtain ⟨g', e'⟩ := ih g2 p L hI2
  have hc : (nI N - nI 5 < nI i) = False := by rw [lw_sub hN (by omega)]; exact eq_false (by omega)
  have c0 : (i < N) = True := eq_true (by omega)
  have c1 : (i + 1 < N) = True := eq_true (by omega)
  have c2 : (i + 2 < N) = True := eq_true (by omega)
  have c3 : (i + 3 < N) = True := eq_true (by omega)
  have c4 : (i + 4 < N) = True := eq_true (by omega)
  refine ⟨g', ?_⟩
  rw [eL_law_18]
  simp -dsimp -implicitDefEqProofs (disch := omega) only [bnd_u, gd_t, if_true, if_false, ↓reduceIte, eq_self, true_or, or_true, false_or, or_false, not_true_eq_false, not_false_eq_true, and_true, true_and, and_false, false_and, reduceCtorEq, nI_ge, nI_le, nI_lt, nI_nlt, nI_ne, nI_te, nm_eq, mn_eq, nm_le, mn_le, nm_lt, mn_lt, pk_mul, nI_add, pk_sub, nI_clamp, eL_law_1527, hTop, hMo, hc, c0, c1, c2, c3, c4, hv, e1, e2, lg_same, e']
theorem lw_c11 {N : Nat} {xs : Nat → Int32} {m i : Nat} {g : Gg} {q : Nat → Nat} {K : Nat} (hN : N ≤ 320) (hi : i + 5 ≤ N) (hI : Iv g q K) (ih : Lw N xs m i) (hv : xs i &&& nI 63 = nI 11) : ∃ g', FL_law_18 N xs (m + 1) 1022 0 78 (nI i) (mk g) = some (nI 1, mk g') := by
  obtain ⟨r, g1, g2, p, L, e1, e2, hI2⟩ := sim_alter (xs (i + 1)) (xs (i + 2)) (xs (i + 3)) g q K hI
  obtain ⟨g', e'⟩ := ih g2 p L hI2
  have hc : (nI N - nI 5 < nI i) = False := by rw [lw_sub hN (by omega)]; exact eq_false (by omega)
  have c0 : (i < N) = True := eq_true (by omega)
  have c1 : (i + 1 < N) = True := eq_true (by omega)
  have c2 : (i + 2 < N) = True := eq_true (by omega)
  have c3 : (i + 3 < N) = True := eq_true (by omega)
  have c4 : (i + 4 < N) = True := eq_true (by omega)
  refine ⟨g', ?_⟩
  rw [eL_law_18]
  simp -dsimp -implicitDefEqProofs (disch := omega) only [bnd_u, gd_t, if_true, if_false, ↓reduceIte, eq_self, true_or, or_true, false_or, or_false, not_true_eq_false, not_false_eq_true, and_true, true_and, and_false, false_and, reduceCtorEq, nI_ge, nI_le, nI_lt, nI_nlt, nI_ne, nI_te, nm_eq, mn_eq, nm_le, mn_le, nm_lt, mn_lt, pk_mul, nI_add, pk_sub, nI_clamp, eL_law_1527, hTop, hMo, hc, c0, c1, c2, c3, c4, hv, e1, e2, lg_same, e']
theorem lw_c12 {N : Nat} {xs : Nat → Int32} {m i : Nat} {g : Gg} {q : Nat → Nat} {K : Nat} (hN : N ≤ 320) (hi : i + 5 ≤ N) (hI : Iv g q K) (ih : Lw N xs m i) (hv : xs i &&& nI 63 = nI 12) : ∃ g', FL_law_18 N xs (m + 1) 1022 0 78 (nI i) (mk g) = some (nI 1, mk g') := by
  obtain ⟨r, g1, g2, p, L, e1, e2, hI2⟩ := sim_paint (xs (i + 1)) (xs (i + 2)) g q K hI
  obtain ⟨g', e'⟩ := ih g2 p L hI2
  have hc : (nI N - nI 5 < nI i) = False := by rw [lw_sub hN (by omega)]; exact eq_false (by omega)
  have c0 : (i < N) = True := eq_true (by omega)
  have c1 : (i + 1 < N) = True := eq_true (by omega)
  have c2 : (i + 2 < N) = True := eq_true (by omega)
  have c3 : (i + 3 < N) = True := eq_true (by omega)
  have c4 : (i + 4 < N) = True := eq_true (by omega)
  refine ⟨g', ?_⟩
  rw [eL_law_18]
  simp -dsimp -implicitDefEqProofs (disch := omega) only [bnd_u, gd_t, if_true, if_false, ↓reduceIte, eq_self, true_or, or_true, false_or, or_false, not_true_eq_false, not_false_eq_true, and_true, true_and, and_false, false_and, reduceCtorEq, nI_ge, nI_le, nI_lt, nI_nlt, nI_ne, nI_te, nm_eq, mn_eq, nm_le, mn_le, nm_lt, mn_lt, pk_mul, nI_add, pk_sub, nI_clamp, eL_law_1527, hTop, hMo, hc, c0, c1, c2, c3, c4, hv, e1, e2, lg_same, e']
theorem lw_c13 {N : Nat} {xs : Nat → Int32} {m i : Nat} {g : Gg} {q : Nat → Nat} {K : Nat} (hN : N ≤ 320) (hi : i + 5 ≤ N) (hI : Iv g q K) (ih : Lw N xs m i) (hv : xs i &&& nI 63 = nI 13) : ∃ g', FL_law_18 N xs (m + 1) 1022 0 78 (nI i) (mk g) = some (nI 1, mk g') := by
  obtain ⟨r, g1, g2, p, L, e1, e2, hI2⟩ := sim_shift (xs (i + 1)) (xs (i + 2)) g q K hI
  obtain ⟨g', e'⟩ := ih g2 p L hI2
  have hc : (nI N - nI 5 < nI i) = False := by rw [lw_sub hN (by omega)]; exact eq_false (by omega)
  have c0 : (i < N) = True := eq_true (by omega)
  have c1 : (i + 1 < N) = True := eq_true (by omega)
  have c2 : (i + 2 < N) = True := eq_true (by omega)
  have c3 : (i + 3 < N) = True := eq_true (by omega)
  have c4 : (i + 4 < N) = True := eq_true (by omega)
  refine ⟨g', ?_⟩
  rw [eL_law_18]
  simp -dsimp -implicitDefEqProofs (disch := omega) only [bnd_u, gd_t, if_true, if_false, ↓reduceIte, eq_self, true_or, or_true, false_or, or_false, not_true_eq_false, not_false_eq_true, and_true, true_and, and_false, false_and, reduceCtorEq, nI_ge, nI_le, nI_lt, nI_nlt, nI_ne, nI_te, nm_eq, mn_eq, nm_le, mn_le, nm_lt, mn_lt, pk_mul, nI_add, pk_sub, nI_clamp, eL_law_1527, hTop, hMo, hc, c0, c1, c2, c3, c4, hv, e1, e2, lg_same, e']
theorem lw_c14 {N : Nat} {xs : Nat → Int32} {m i : Nat} {g : Gg} {q : Nat → Nat} {K : Nat} (hN : N ≤ 320) (hi : i + 5 ≤ N) (hI : Iv g q K) (ih : Lw N xs m i) (hv : xs i &&& nI 63 = nI 14) : ∃ g', FL_law_18 N xs (m + 1) 1022 0 78 (nI i) (mk g) = some (nI 1, mk g') := by
  obtain ⟨r, g1, g2, p, L, e1, e2, hI2⟩ := sim_assign (xs (i + 1)) (xs (i + 2)) (xs (i + 3)) (xs (i + 4)) g q K hI
  obtain ⟨g', e'⟩ := ih g2 p L hI2
  have hc : (nI N - nI 5 < nI i) = False := by rw [lw_sub hN (by omega)]; exact eq_false (by omega)
  have c0 : (i < N) = True := eq_true (by omega)
  have c1 : (i + 1 < N) = True := eq_true (by omega)
  have c2 : (i + 2 < N) = True := eq_true (by omega)
  have c3 : (i + 3 < N) = True := eq_true (by omega)
  have c4 : (i + 4 < N) = True := eq_true (by omega)
  refine ⟨g', ?_⟩
  rw [eL_law_18]
  simp -dsimp -implicitDefEqProofs (disch := omega) only [bnd_u, gd_t, if_true, if_false, ↓reduceIte, eq_self, true_or, or_true, false_or, or_false, not_true_eq_false, not_false_eq_true, and_true, true_and, and_false, false_and, reduceCtorEq, nI_ge, nI_le, nI_lt, nI_nlt, nI_ne, nI_te, nm_eq, mn_eq, nm_le, mn_le, nm_lt, mn_lt, pk_mul, nI_add, pk_sub, nI_clamp, eL_law_1527, hTop, hMo, hc, c0, c1, c2, c3, c4, hv, e1, e2, lg_same, e']
theorem lw_c15 {N : Nat} {xs : Nat → Int32} {m i : Nat} {g : Gg} {q : Nat → Nat} {K : Nat} (hN : N ≤ 320) (hi : i + 5 ≤ N) (hI : Iv g q K) (ih : Lw N xs m i) (hv : xs i &&& nI 63 = nI 15) : ∃ g', FL_law_18 N xs (m + 1) 1022 0 78 (nI i) (mk g) = some (nI 1, mk g') := by
  obtain ⟨r, g1, g2, p, L, e1, e2, hI2⟩ := sim_change (xs (i + 1)) (xs (i + 2)) (xs (i + 3)) g q K hI
  obtain ⟨g', e'⟩ := ih g2 p L hI2
  have hc : (nI N - nI 5 < nI i) = False := by rw [lw_sub hN (by omega)]; exact eq_false (by omega)
  have c0 : (i < N) = True := eq_true (by omega)
  have c1 : (i + 1 < N) = True := eq_true (by omega)
  have c2 : (i + 2 < N) = True := eq_true (by omega)
  have c3 : (i + 3 < N) = True := eq_true (by omega)
  have c4 : (i + 4 < N) = True := eq_true (by omega)
  refine ⟨g', ?_⟩
  rw [eL_law_18]
  simp -dsimp -implicitDefEqProofs (disch := omega) only [bnd_u, gd_t, if_true, if_false, ↓reduceIte, eq_self, true_or, or_true, false_or, or_false, not_true_eq_false, not_false_eq_true, and_true, true_and, and_false, false_and, reduceCtorEq, nI_ge, nI_le, nI_lt, nI_nlt, nI_ne, nI_te, nm_eq, mn_eq, nm_le, mn_le, nm_lt, mn_lt, pk_mul, nI_add, pk_sub, nI_clamp, eL_law_1527, hTop, hMo, hc, c0, c1, c2, c3, c4, hv, e1, e2, lg_same, e']
theorem lw_c16 {N : Nat} {xs : Nat → Int32} {m i : Nat} {g : Gg} {q : Nat → Nat} {K : Nat} (hN : N ≤ 320) (hi : i + 5 ≤ N) (hI : Iv g q K) (ih : Lw N xs m i) (hv : xs i &&& nI 63 = nI 16) : ∃ g', FL_law_18 N xs (m + 1) 1022 0 78 (nI i) (mk g) = some (nI 1, mk g') := by
  obtain ⟨r, g1, g2, p, L, e1, e2, hI2⟩ := sim_tell (xs (i + 1)) (xs (i + 2)) (xs (i + 3)) (xs (i + 4)) g q K hI
  obtain ⟨g', e'⟩ := ih g2 p L hI2
  have hc : (nI N - nI 5 < nI i) = False := by rw [lw_sub hN (by omega)]; exact eq_false (by omega)
  have c0 : (i < N) = True := eq_true (by omega)
  have c1 : (i + 1 < N) = True := eq_true (by omega)
  have c2 : (i + 2 < N) = True := eq_true (by omega)
  have c3 : (i + 3 < N) = True := eq_true (by omega)
  have c4 : (i + 4 < N) = True := eq_true (by omega)
  refine ⟨g', ?_⟩
  rw [eL_law_18]
  simp -dsimp -implicitDefEqProofs (disch := omega) only [bnd_u, gd_t, if_true, if_false, ↓reduceIte, eq_self, true_or, or_true, false_or, or_false, not_true_eq_false, not_false_eq_true, and_true, true_and, and_false, false_and, reduceCtorEq, nI_ge, nI_le, nI_lt, nI_nlt, nI_ne, nI_te, nm_eq, mn_eq, nm_le, mn_le, nm_lt, mn_lt, pk_mul, nI_add, pk_sub, nI_clamp, eL_law_1527, hTop, hMo, hc, c0, c1, c2, c3, c4, hv, e1, e2, lg_same, e']
theorem lw_c17 {N : Nat} {xs : Nat → Int32} {m i : Nat} {g : Gg} {q : Nat → Nat} {K : Nat} (hN : N ≤ 320) (hi : i + 5 ≤ N) (hI : Iv g q K) (ih : Lw N xs m i) (hv : xs i &&& nI 63 = nI 17) : ∃ g', FL_law_18 N xs (m + 1) 1022 0 78 (nI i) (mk g) = some (nI 1, mk g') := by
  obtain ⟨r, g1, g2, p, L, e1, e2, hI2⟩ := sim_drop (xs (i + 1)) (xs (i + 2)) g q K hI
  obtain ⟨g', e'⟩ := ih g2 p L hI2
  have hc : (nI N - nI 5 < nI i) = False := by rw [lw_sub hN (by omega)]; exact eq_false (by omega)
  have c0 : (i < N) = True := eq_true (by omega)
  have c1 : (i + 1 < N) = True := eq_true (by omega)
  have c2 : (i + 2 < N) = True := eq_true (by omega)
  have c3 : (i + 3 < N) = True := eq_true (by omega)
  have c4 : (i + 4 < N) = True := eq_true (by omega)
  refine ⟨g', ?_⟩
  rw [eL_law_18]
  simp -dsimp -implicitDefEqProofs (disch := omega) only [bnd_u, gd_t, if_true, if_false, ↓reduceIte, eq_self, true_or, or_true, false_or, or_false, not_true_eq_false, not_false_eq_true, and_true, true_and, and_false, false_and, reduceCtorEq, nI_ge, nI_le, nI_lt, nI_nlt, nI_ne, nI_te, nm_eq, mn_eq, nm_le, mn_le, nm_lt, mn_lt, pk_mul, nI_add, pk_sub, nI_clamp, eL_law_1527, hTop, hMo, hc, c0, c1, c2, c3, c4, hv, e1, e2, lg_same, e']
theorem lw_c18 {N : Nat} {xs : Nat → Int32} {m i : Nat} {g : Gg} {q : Nat → Nat} {K : Nat} (hN : N ≤ 320) (hi : i + 5 ≤ N) (hI : Iv g q K) (ih : Lw N xs m i) (hv : xs i &&& nI 63 = nI 18) : ∃ g', FL_law_18 N xs (m + 1) 1022 0 78 (nI i) (mk g) = some (nI 1, mk g') := by
  obtain ⟨r, g1, g2, p, L, e1, e2, hI2⟩ := sim_sees (xs (i + 1)) g q K hI
  obtain ⟨g', e'⟩ := ih g2 p L hI2
  have hc : (nI N - nI 5 < nI i) = False := by rw [lw_sub hN (by omega)]; exact eq_false (by omega)
  have c0 : (i < N) = True := eq_true (by omega)
  have c1 : (i + 1 < N) = True := eq_true (by omega)
  have c2 : (i + 2 < N) = True := eq_true (by omega)
  have c3 : (i + 3 < N) = True := eq_true (by omega)
  have c4 : (i + 4 < N) = True := eq_true (by omega)
  refine ⟨g', ?_⟩
  rw [eL_law_18]
  simp -dsimp -implicitDefEqProofs (disch := omega) only [bnd_u, gd_t, if_true, if_false, ↓reduceIte, eq_self, true_or, or_true, false_or, or_false, not_true_eq_false, not_false_eq_true, and_true, true_and, and_false, false_and, reduceCtorEq, nI_ge, nI_le, nI_lt, nI_nlt, nI_ne, nI_te, nm_eq, mn_eq, nm_le, mn_le, nm_lt, mn_lt, pk_mul, nI_add, pk_sub, nI_clamp, eL_law_1527, hTop, hMo, hc, c0, c1, c2, c3, c4, hv, e1, e2, lg_same, e']
theorem lw_c19 {N : Nat} {xs : Nat → Int32} {m i : Nat} {g : Gg} {q : Nat → Nat} {K : Nat} (hN : N ≤ 320) (hi : i + 5 ≤ N) (hI : Iv g q K) (ih : Lw N xs m i) (hv : xs i &&& nI 63 = nI 19) : ∃ g', FL_law_18 N xs (m + 1) 1022 0 78 (nI i) (mk g) = some (nI 1, mk g') := by
  obtain ⟨r, g1, g2, p, L, e1, e2, hI2⟩ := sim_belief (xs (i + 1)) (xs (i + 2)) (xs (i + 3)) (xs (i + 4)) g q K hI
  obtain ⟨g', e'⟩ := ih g2 p L hI2
  have hc : (nI N - nI 5 < nI i) = False := by rw [lw_sub hN (by omega)]; exact eq_false (by omega)
  have c0 : (i < N) = True := eq_true (by omega)
  have c1 : (i + 1 < N) = True := eq_true (by omega)
  have c2 : (i + 2 < N) = True := eq_true (by omega)
  have c3 : (i + 3 < N) = True := eq_true (by omega)
  have c4 : (i + 4 < N) = True := eq_true (by omega)
  refine ⟨g', ?_⟩
  rw [eL_law_18]
  simp -dsimp -implicitDefEqProofs (disch := omega) only [bnd_u, gd_t, if_true, if_false, ↓reduceIte, eq_self, true_or, or_true, false_or, or_false, not_true_eq_false, not_false_eq_true, and_true, true_and, and_false, false_and, reduceCtorEq, nI_ge, nI_le, nI_lt, nI_nlt, nI_ne, nI_te, nm_eq, mn_eq, nm_le, mn_le, nm_lt, mn_lt, pk_mul, nI_add, pk_sub, nI_clamp, eL_law_1527, hTop, hMo, hc, c0, c1, c2, c3, c4, hv, e1, e2, lg_same, e']
theorem lw_c20 {N : Nat} {xs : Nat → Int32} {m i : Nat} {g : Gg} {q : Nat → Nat} {K : Nat} (hN : N ≤ 320) (hi : i + 5 ≤ N) (hI : Iv g q K) (ih : Lw N xs m i) (hv : xs i &&& nI 63 = nI 20) : ∃ g', FL_law_18 N xs (m + 1) 1022 0 78 (nI i) (mk g) = some (nI 1, mk g') := by
  obtain ⟨r, g1, g2, p, L, e1, e2, hI2⟩ := sim_right (xs (i + 1)) (xs (i + 2)) (xs (i + 3)) g q K hI
  obtain ⟨g', e'⟩ := ih g2 p L hI2
  have hc : (nI N - nI 5 < nI i) = False := by rw [lw_sub hN (by omega)]; exact eq_false (by omega)
  have c0 : (i < N) = True := eq_true (by omega)
  have c1 : (i + 1 < N) = True := eq_true (by omega)
  have c2 : (i + 2 < N) = True := eq_true (by omega)
  have c3 : (i + 3 < N) = True := eq_true (by omega)
  have c4 : (i + 4 < N) = True := eq_true (by omega)
  refine ⟨g', ?_⟩
  rw [eL_law_18]
  simp -dsimp -implicitDefEqProofs (disch := omega) only [bnd_u, gd_t, if_true, if_false, ↓reduceIte, eq_self, true_or, or_true, false_or, or_false, not_true_eq_false, not_false_eq_true, and_true, true_and, and_false, false_and, reduceCtorEq, nI_ge, nI_le, nI_lt, nI_nlt, nI_ne, nI_te, nm_eq, mn_eq, nm_le, mn_le, nm_lt, mn_lt, pk_mul, nI_add, pk_sub, nI_clamp, eL_law_1527, hTop, hMo, hc, c0, c1, c2, c3, c4, hv, e1, e2, lg_same, e']
theorem lw_c21 {N : Nat} {xs : Nat → Int32} {m i : Nat} {g : Gg} {q : Nat → Nat} {K : Nat} (hN : N ≤ 320) (hi : i + 5 ≤ N) (hI : Iv g q K) (ih : Lw N xs m i) (hv : xs i &&& nI 63 = nI 21) : ∃ g', FL_law_18 N xs (m + 1) 1022 0 78 (nI i) (mk g) = some (nI 1, mk g') := by
  obtain ⟨r, g1, g2, p, L, e1, e2, hI2⟩ := sim_wrong (xs (i + 1)) (xs (i + 2)) g q K hI
  obtain ⟨g', e'⟩ := ih g2 p L hI2
  have hc : (nI N - nI 5 < nI i) = False := by rw [lw_sub hN (by omega)]; exact eq_false (by omega)
  have c0 : (i < N) = True := eq_true (by omega)
  have c1 : (i + 1 < N) = True := eq_true (by omega)
  have c2 : (i + 2 < N) = True := eq_true (by omega)
  have c3 : (i + 3 < N) = True := eq_true (by omega)
  have c4 : (i + 4 < N) = True := eq_true (by omega)
  refine ⟨g', ?_⟩
  rw [eL_law_18]
  simp -dsimp -implicitDefEqProofs (disch := omega) only [bnd_u, gd_t, if_true, if_false, ↓reduceIte, eq_self, true_or, or_true, false_or, or_false, not_true_eq_false, not_false_eq_true, and_true, true_and, and_false, false_and, reduceCtorEq, nI_ge, nI_le, nI_lt, nI_nlt, nI_ne, nI_te, nm_eq, mn_eq, nm_le, mn_le, nm_lt, mn_lt, pk_mul, nI_add, pk_sub, nI_clamp, eL_law_1527, hTop, hMo, hc, c0, c1, c2, c3, c4, hv, e1, e2, lg_same, e']
theorem lw_c22 {N : Nat} {xs : Nat → Int32} {m i : Nat} {g : Gg} {q : Nat → Nat} {K : Nat} (hN : N ≤ 320) (hi : i + 5 ≤ N) (hI : Iv g q K) (ih : Lw N xs m i) (hv : xs i &&& nI 63 = nI 22) : ∃ g', FL_law_18 N xs (m + 1) 1022 0 78 (nI i) (mk g) = some (nI 1, mk g') := by
  obtain ⟨r, g1, g2, p, L, e1, e2, hI2⟩ := sim_done (xs (i + 1)) g q K hI
  obtain ⟨g', e'⟩ := ih g2 p L hI2
  have hc : (nI N - nI 5 < nI i) = False := by rw [lw_sub hN (by omega)]; exact eq_false (by omega)
  have c0 : (i < N) = True := eq_true (by omega)
  have c1 : (i + 1 < N) = True := eq_true (by omega)
  have c2 : (i + 2 < N) = True := eq_true (by omega)
  have c3 : (i + 3 < N) = True := eq_true (by omega)
  have c4 : (i + 4 < N) = True := eq_true (by omega)
  refine ⟨g', ?_⟩
  rw [eL_law_18]
  simp -dsimp -implicitDefEqProofs (disch := omega) only [bnd_u, gd_t, if_true, if_false, ↓reduceIte, eq_self, true_or, or_true, false_or, or_false, not_true_eq_false, not_false_eq_true, and_true, true_and, and_false, false_and, reduceCtorEq, nI_ge, nI_le, nI_lt, nI_nlt, nI_ne, nI_te, nm_eq, mn_eq, nm_le, mn_le, nm_lt, mn_lt, pk_mul, nI_add, pk_sub, nI_clamp, eL_law_1527, hTop, hMo, hc, c0, c1, c2, c3, c4, hv, e1, e2, lg_same, e']
theorem lw_c23 {N : Nat} {xs : Nat → Int32} {m i : Nat} {g : Gg} {q : Nat → Nat} {K : Nat} (hN : N ≤ 320) (hi : i + 5 ≤ N) (hI : Iv g q K) (ih : Lw N xs m i) (hv : xs i &&& nI 63 = nI 23) : ∃ g', FL_law_18 N xs (m + 1) 1022 0 78 (nI i) (mk g) = some (nI 1, mk g') := by
  obtain ⟨r, g1, g2, p, L, e1, e2, hI2⟩ := sim_best (xs (i + 1)) g q K hI
  obtain ⟨g', e'⟩ := ih g2 p L hI2
  have hc : (nI N - nI 5 < nI i) = False := by rw [lw_sub hN (by omega)]; exact eq_false (by omega)
  have c0 : (i < N) = True := eq_true (by omega)
  have c1 : (i + 1 < N) = True := eq_true (by omega)
  have c2 : (i + 2 < N) = True := eq_true (by omega)
  have c3 : (i + 3 < N) = True := eq_true (by omega)
  have c4 : (i + 4 < N) = True := eq_true (by omega)
  refine ⟨g', ?_⟩
  rw [eL_law_18]
  simp -dsimp -implicitDefEqProofs (disch := omega) only [bnd_u, gd_t, if_true, if_false, ↓reduceIte, eq_self, true_or, or_true, false_or, or_false, not_true_eq_false, not_false_eq_true, and_true, true_and, and_false, false_and, reduceCtorEq, nI_ge, nI_le, nI_lt, nI_nlt, nI_ne, nI_te, nm_eq, mn_eq, nm_le, mn_le, nm_lt, mn_lt, pk_mul, nI_add, pk_sub, nI_clamp, eL_law_1527, hTop, hMo, hc, c0, c1, c2, c3, c4, hv, e1, e2, lg_same, e']
theorem lw_c24 {N : Nat} {xs : Nat → Int32} {m i : Nat} {g : Gg} {q : Nat → Nat} {K : Nat} (hN : N ≤ 320) (hi : i + 5 ≤ N) (hI : Iv g q K) (ih : Lw N xs m i) (hv : xs i &&& nI 63 = nI 24) : ∃ g', FL_law_18 N xs (m + 1) 1022 0 78 (nI i) (mk g) = some (nI 1, mk g') := by
  obtain ⟨r, g1, g2, p, L, e1, e2, hI2⟩ := sim_swap (xs (i + 1)) g q K hI
  obtain ⟨g', e'⟩ := ih g2 p L hI2
  have hc : (nI N - nI 5 < nI i) = False := by rw [lw_sub hN (by omega)]; exact eq_false (by omega)
  have c0 : (i < N) = True := eq_true (by omega)
  have c1 : (i + 1 < N) = True := eq_true (by omega)
  have c2 : (i + 2 < N) = True := eq_true (by omega)
  have c3 : (i + 3 < N) = True := eq_true (by omega)
  have c4 : (i + 4 < N) = True := eq_true (by omega)
  refine ⟨g', ?_⟩
  rw [eL_law_18]
  simp -dsimp -implicitDefEqProofs (disch := omega) only [bnd_u, gd_t, if_true, if_false, ↓reduceIte, eq_self, true_or, or_true, false_or, or_false, not_true_eq_false, not_false_eq_true, and_true, true_and, and_false, false_and, reduceCtorEq, nI_ge, nI_le, nI_lt, nI_nlt, nI_ne, nI_te, nm_eq, mn_eq, nm_le, mn_le, nm_lt, mn_lt, pk_mul, nI_add, pk_sub, nI_clamp, eL_law_1527, hTop, hMo, hc, c0, c1, c2, c3, c4, hv, e1, e2, lg_same, e']
theorem lw_c25 {N : Nat} {xs : Nat → Int32} {m i : Nat} {g : Gg} {q : Nat → Nat} {K : Nat} (hN : N ≤ 320) (hi : i + 5 ≤ N) (hI : Iv g q K) (ih : Lw N xs m i) (hv : xs i &&& nI 63 = nI 25) : ∃ g', FL_law_18 N xs (m + 1) 1022 0 78 (nI i) (mk g) = some (nI 1, mk g') := by
  obtain ⟨r, g1, g2, p, L, e1, e2, hI2⟩ := sim_give (xs (i + 1)) g q K hI
  obtain ⟨g', e'⟩ := ih g2 p L hI2
  have hc : (nI N - nI 5 < nI i) = False := by rw [lw_sub hN (by omega)]; exact eq_false (by omega)
  have c0 : (i < N) = True := eq_true (by omega)
  have c1 : (i + 1 < N) = True := eq_true (by omega)
  have c2 : (i + 2 < N) = True := eq_true (by omega)
  have c3 : (i + 3 < N) = True := eq_true (by omega)
  have c4 : (i + 4 < N) = True := eq_true (by omega)
  refine ⟨g', ?_⟩
  rw [eL_law_18]
  simp -dsimp -implicitDefEqProofs (disch := omega) only [bnd_u, gd_t, if_true, if_false, ↓reduceIte, eq_self, true_or, or_true, false_or, or_false, not_true_eq_false, not_false_eq_true, and_true, true_and, and_false, false_and, reduceCtorEq, nI_ge, nI_le, nI_lt, nI_nlt, nI_ne, nI_te, nm_eq, mn_eq, nm_le, mn_le, nm_lt, mn_lt, pk_mul, nI_add, pk_sub, nI_clamp, eL_law_1527, hTop, hMo, hc, c0, c1, c2, c3, c4, hv, e1, e2, lg_same, e']
theorem lw_c26 {N : Nat} {xs : Nat → Int32} {m i : Nat} {g : Gg} {q : Nat → Nat} {K : Nat} (hN : N ≤ 320) (hi : i + 5 ≤ N) (hI : Iv g q K) (ih : Lw N xs m i) (hv : xs i &&& nI 63 = nI 26) : ∃ g', FL_law_18 N xs (m + 1) 1022 0 78 (nI i) (mk g) = some (nI 1, mk g') := by
  obtain ⟨r, g1, g2, p, L, e1, e2, hI2⟩ := sim_mend (xs (i + 1)) g q K hI
  obtain ⟨g', e'⟩ := ih g2 p L hI2
  have hc : (nI N - nI 5 < nI i) = False := by rw [lw_sub hN (by omega)]; exact eq_false (by omega)
  have c0 : (i < N) = True := eq_true (by omega)
  have c1 : (i + 1 < N) = True := eq_true (by omega)
  have c2 : (i + 2 < N) = True := eq_true (by omega)
  have c3 : (i + 3 < N) = True := eq_true (by omega)
  have c4 : (i + 4 < N) = True := eq_true (by omega)
  refine ⟨g', ?_⟩
  rw [eL_law_18]
  simp -dsimp -implicitDefEqProofs (disch := omega) only [bnd_u, gd_t, if_true, if_false, ↓reduceIte, eq_self, true_or, or_true, false_or, or_false, not_true_eq_false, not_false_eq_true, and_true, true_and, and_false, false_and, reduceCtorEq, nI_ge, nI_le, nI_lt, nI_nlt, nI_ne, nI_te, nm_eq, mn_eq, nm_le, mn_le, nm_lt, mn_lt, pk_mul, nI_add, pk_sub, nI_clamp, eL_law_1527, hTop, hMo, hc, c0, c1, c2, c3, c4, hv, e1, e2, lg_same, e']
theorem lw_c27 {N : Nat} {xs : Nat → Int32} {m i : Nat} {g : Gg} {q : Nat → Nat} {K : Nat} (hN : N ≤ 320) (hi : i + 5 ≤ N) (hI : Iv g q K) (ih : Lw N xs m i) (hv : xs i &&& nI 63 = nI 27) : ∃ g', FL_law_18 N xs (m + 1) 1022 0 78 (nI i) (mk g) = some (nI 1, mk g') := by
  obtain ⟨r, g1, g2, p, L, e1, e2, hI2⟩ := sim_luck (xs (i + 1)) (xs (i + 2)) (xs (i + 3)) g q K hI
  obtain ⟨g', e'⟩ := ih g2 p L hI2
  have hc : (nI N - nI 5 < nI i) = False := by rw [lw_sub hN (by omega)]; exact eq_false (by omega)
  have c0 : (i < N) = True := eq_true (by omega)
  have c1 : (i + 1 < N) = True := eq_true (by omega)
  have c2 : (i + 2 < N) = True := eq_true (by omega)
  have c3 : (i + 3 < N) = True := eq_true (by omega)
  have c4 : (i + 4 < N) = True := eq_true (by omega)
  refine ⟨g', ?_⟩
  rw [eL_law_18]
  simp -dsimp -implicitDefEqProofs (disch := omega) only [bnd_u, gd_t, if_true, if_false, ↓reduceIte, eq_self, true_or, or_true, false_or, or_false, not_true_eq_false, not_false_eq_true, and_true, true_and, and_false, false_and, reduceCtorEq, nI_ge, nI_le, nI_lt, nI_nlt, nI_ne, nI_te, nm_eq, mn_eq, nm_le, mn_le, nm_lt, mn_lt, pk_mul, nI_add, pk_sub, nI_clamp, eL_law_1527, hTop, hMo, hc, c0, c1, c2, c3, c4, hv, e1, e2, lg_same, e']
theorem lw_c28 {N : Nat} {xs : Nat → Int32} {m i : Nat} {g : Gg} {q : Nat → Nat} {K : Nat} (hN : N ≤ 320) (hi : i + 5 ≤ N) (hI : Iv g q K) (ih : Lw N xs m i) (hv : xs i &&& nI 63 = nI 28) : ∃ g', FL_law_18 N xs (m + 1) 1022 0 78 (nI i) (mk g) = some (nI 1, mk g') := by
  obtain ⟨r, g1, g2, p, L, e1, e2, hI2⟩ := sim_mean (xs (i + 1)) (xs (i + 2)) g q K hI
  obtain ⟨g', e'⟩ := ih g2 p L hI2
  have hc : (nI N - nI 5 < nI i) = False := by rw [lw_sub hN (by omega)]; exact eq_false (by omega)
  have c0 : (i < N) = True := eq_true (by omega)
  have c1 : (i + 1 < N) = True := eq_true (by omega)
  have c2 : (i + 2 < N) = True := eq_true (by omega)
  have c3 : (i + 3 < N) = True := eq_true (by omega)
  have c4 : (i + 4 < N) = True := eq_true (by omega)
  refine ⟨g', ?_⟩
  rw [eL_law_18]
  simp -dsimp -implicitDefEqProofs (disch := omega) only [bnd_u, gd_t, if_true, if_false, ↓reduceIte, eq_self, true_or, or_true, false_or, or_false, not_true_eq_false, not_false_eq_true, and_true, true_and, and_false, false_and, reduceCtorEq, nI_ge, nI_le, nI_lt, nI_nlt, nI_ne, nI_te, nm_eq, mn_eq, nm_le, mn_le, nm_lt, mn_lt, pk_mul, nI_add, pk_sub, nI_clamp, eL_law_1527, hTop, hMo, hc, c0, c1, c2, c3, c4, hv, e1, e2, lg_same, e']
theorem lw_c29 {N : Nat} {xs : Nat → Int32} {m i : Nat} {g : Gg} {q : Nat → Nat} {K : Nat} (hN : N ≤ 320) (hi : i + 5 ≤ N) (hI : Iv g q K) (ih : Lw N xs m i) (hv : xs i &&& nI 63 = nI 29) : ∃ g', FL_law_18 N xs (m + 1) 1022 0 78 (nI i) (mk g) = some (nI 1, mk g') := by
  obtain ⟨r, g1, g2, p, L, e1, e2, hI2⟩ := sim_see (xs (i + 1)) (xs (i + 2)) (xs (i + 3)) (xs (i + 4)) g q K hI
  obtain ⟨g', e'⟩ := ih g2 p L hI2
  have hc : (nI N - nI 5 < nI i) = False := by rw [lw_sub hN (by omega)]; exact eq_false (by omega)
  have c0 : (i < N) = True := eq_true (by omega)
  have c1 : (i + 1 < N) = True := eq_true (by omega)
  have c2 : (i + 2 < N) = True := eq_true (by omega)
  have c3 : (i + 3 < N) = True := eq_true (by omega)
  have c4 : (i + 4 < N) = True := eq_true (by omega)
  refine ⟨g', ?_⟩
  rw [eL_law_18]
  simp -dsimp -implicitDefEqProofs (disch := omega) only [bnd_u, gd_t, if_true, if_false, ↓reduceIte, eq_self, true_or, or_true, false_or, or_false, not_true_eq_false, not_false_eq_true, and_true, true_and, and_false, false_and, reduceCtorEq, nI_ge, nI_le, nI_lt, nI_nlt, nI_ne, nI_te, nm_eq, mn_eq, nm_le, mn_le, nm_lt, mn_lt, pk_mul, nI_add, pk_sub, nI_clamp, eL_law_1527, hTop, hMo, hc, c0, c1, c2, c3, c4, hv, e1, e2, lg_same, e']
theorem lw_c30 {N : Nat} {xs : Nat → Int32} {m i : Nat} {g : Gg} {q : Nat → Nat} {K : Nat} (hN : N ≤ 320) (hi : i + 5 ≤ N) (hI : Iv g q K) (ih : Lw N xs m i) (hv : xs i &&& nI 63 = nI 30) : ∃ g', FL_law_18 N xs (m + 1) 1022 0 78 (nI i) (mk g) = some (nI 1, mk g') := by
  obtain ⟨r, g1, g2, p, L, e1, e2, hI2⟩ := sim_forget (xs (i + 1)) g q K hI
  obtain ⟨g', e'⟩ := ih g2 p L hI2
  have hc : (nI N - nI 5 < nI i) = False := by rw [lw_sub hN (by omega)]; exact eq_false (by omega)
  have c0 : (i < N) = True := eq_true (by omega)
  have c1 : (i + 1 < N) = True := eq_true (by omega)
  have c2 : (i + 2 < N) = True := eq_true (by omega)
  have c3 : (i + 3 < N) = True := eq_true (by omega)
  have c4 : (i + 4 < N) = True := eq_true (by omega)
  refine ⟨g', ?_⟩
  rw [eL_law_18]
  simp -dsimp -implicitDefEqProofs (disch := omega) only [bnd_u, gd_t, if_true, if_false, ↓reduceIte, eq_self, true_or, or_true, false_or, or_false, not_true_eq_false, not_false_eq_true, and_true, true_and, and_false, false_and, reduceCtorEq, nI_ge, nI_le, nI_lt, nI_nlt, nI_ne, nI_te, nm_eq, mn_eq, nm_le, mn_le, nm_lt, mn_lt, pk_mul, nI_add, pk_sub, nI_clamp, eL_law_1527, hTop, hMo, hc, c0, c1, c2, c3, c4, hv, e1, e2, lg_same, e']
theorem lw_c31 {N : Nat} {xs : Nat → Int32} {m i : Nat} {g : Gg} {q : Nat → Nat} {K : Nat} (hN : N ≤ 320) (hi : i + 5 ≤ N) (hI : Iv g q K) (ih : Lw N xs m i) (hv : xs i &&& nI 63 = nI 31) : ∃ g', FL_law_18 N xs (m + 1) 1022 0 78 (nI i) (mk g) = some (nI 1, mk g') := by
  obtain ⟨r, g1, g2, p, L, e1, e2, hI2⟩ := sim_may (xs (i + 1)) g q K hI
  obtain ⟨g', e'⟩ := ih g2 p L hI2
  have hc : (nI N - nI 5 < nI i) = False := by rw [lw_sub hN (by omega)]; exact eq_false (by omega)
  have c0 : (i < N) = True := eq_true (by omega)
  have c1 : (i + 1 < N) = True := eq_true (by omega)
  have c2 : (i + 2 < N) = True := eq_true (by omega)
  have c3 : (i + 3 < N) = True := eq_true (by omega)
  have c4 : (i + 4 < N) = True := eq_true (by omega)
  refine ⟨g', ?_⟩
  rw [eL_law_18]
  simp -dsimp -implicitDefEqProofs (disch := omega) only [bnd_u, gd_t, if_true, if_false, ↓reduceIte, eq_self, true_or, or_true, false_or, or_false, not_true_eq_false, not_false_eq_true, and_true, true_and, and_false, false_and, reduceCtorEq, nI_ge, nI_le, nI_lt, nI_nlt, nI_ne, nI_te, nm_eq, mn_eq, nm_le, mn_le, nm_lt, mn_lt, pk_mul, nI_add, pk_sub, nI_clamp, eL_law_1527, hTop, hMo, hc, c0, c1, c2, c3, c4, hv, e1, e2, lg_same, e']
theorem lw_c32 {N : Nat} {xs : Nat → Int32} {m i : Nat} {g : Gg} {q : Nat → Nat} {K : Nat} (hN : N ≤ 320) (hi : i + 5 ≤ N) (hI : Iv g q K) (ih : Lw N xs m i) (hv : xs i &&& nI 63 = nI 32) : ∃ g', FL_law_18 N xs (m + 1) 1022 0 78 (nI i) (mk g) = some (nI 1, mk g') := by
  obtain ⟨r, g1, g2, p, L, e1, e2, hI2⟩ := sim_ask (xs (i + 1)) (xs (i + 2)) g q K hI
  obtain ⟨g', e'⟩ := ih g2 p L hI2
  have hc : (nI N - nI 5 < nI i) = False := by rw [lw_sub hN (by omega)]; exact eq_false (by omega)
  have c0 : (i < N) = True := eq_true (by omega)
  have c1 : (i + 1 < N) = True := eq_true (by omega)
  have c2 : (i + 2 < N) = True := eq_true (by omega)
  have c3 : (i + 3 < N) = True := eq_true (by omega)
  have c4 : (i + 4 < N) = True := eq_true (by omega)
  refine ⟨g', ?_⟩
  rw [eL_law_18]
  simp -dsimp -implicitDefEqProofs (disch := omega) only [bnd_u, gd_t, if_true, if_false, ↓reduceIte, eq_self, true_or, or_true, false_or, or_false, not_true_eq_false, not_false_eq_true, and_true, true_and, and_false, false_and, reduceCtorEq, nI_ge, nI_le, nI_lt, nI_nlt, nI_ne, nI_te, nm_eq, mn_eq, nm_le, mn_le, nm_lt, mn_lt, pk_mul, nI_add, pk_sub, nI_clamp, eL_law_1527, hTop, hMo, hc, c0, c1, c2, c3, c4, hv, e1, e2, lg_same, e']
theorem lw_c33 {N : Nat} {xs : Nat → Int32} {m i : Nat} {g : Gg} {q : Nat → Nat} {K : Nat} (hN : N ≤ 320) (hi : i + 5 ≤ N) (hI : Iv g q K) (ih : Lw N xs m i) (hv : xs i &&& nI 63 = nI 33) : ∃ g', FL_law_18 N xs (m + 1) 1022 0 78 (nI i) (mk g) = some (nI 1, mk g') := by
  obtain ⟨r, g1, g2, p, L, e1, e2, hI2⟩ := sim_drift (xs (i + 1)) (xs (i + 2)) (xs (i + 3)) g q K hI
  obtain ⟨g', e'⟩ := ih g2 p L hI2
  have hc : (nI N - nI 5 < nI i) = False := by rw [lw_sub hN (by omega)]; exact eq_false (by omega)
  have c0 : (i < N) = True := eq_true (by omega)
  have c1 : (i + 1 < N) = True := eq_true (by omega)
  have c2 : (i + 2 < N) = True := eq_true (by omega)
  have c3 : (i + 3 < N) = True := eq_true (by omega)
  have c4 : (i + 4 < N) = True := eq_true (by omega)
  refine ⟨g', ?_⟩
  rw [eL_law_18]
  simp -dsimp -implicitDefEqProofs (disch := omega) only [bnd_u, gd_t, if_true, if_false, ↓reduceIte, eq_self, true_or, or_true, false_or, or_false, not_true_eq_false, not_false_eq_true, and_true, true_and, and_false, false_and, reduceCtorEq, nI_ge, nI_le, nI_lt, nI_nlt, nI_ne, nI_te, nm_eq, mn_eq, nm_le, mn_le, nm_lt, mn_lt, pk_mul, nI_add, pk_sub, nI_clamp, eL_law_1527, hTop, hMo, hc, c0, c1, c2, c3, c4, hv, e1, e2, lg_same, e']
theorem lw_c34 {N : Nat} {xs : Nat → Int32} {m i : Nat} {g : Gg} {q : Nat → Nat} {K : Nat} (hN : N ≤ 320) (hi : i + 5 ≤ N) (hI : Iv g q K) (ih : Lw N xs m i) (hv : xs i &&& nI 63 = nI 34) : ∃ g', FL_law_18 N xs (m + 1) 1022 0 78 (nI i) (mk g) = some (nI 1, mk g') := by
  obtain ⟨r, g1, g2, p, L, e1, e2, hI2⟩ := sim_keep (xs (i + 1)) g q K hI
  obtain ⟨g', e'⟩ := ih g2 p L hI2
  have hc : (nI N - nI 5 < nI i) = False := by rw [lw_sub hN (by omega)]; exact eq_false (by omega)
  have c0 : (i < N) = True := eq_true (by omega)
  have c1 : (i + 1 < N) = True := eq_true (by omega)
  have c2 : (i + 2 < N) = True := eq_true (by omega)
  have c3 : (i + 3 < N) = True := eq_true (by omega)
  have c4 : (i + 4 < N) = True := eq_true (by omega)
  refine ⟨g', ?_⟩
  rw [eL_law_18]
  simp -dsimp -implicitDefEqProofs (disch := omega) only [bnd_u, gd_t, if_true, if_false, ↓reduceIte, eq_self, true_or, or_true, false_or, or_false, not_true_eq_false, not_false_eq_true, and_true, true_and, and_false, false_and, reduceCtorEq, nI_ge, nI_le, nI_lt, nI_nlt, nI_ne, nI_te, nm_eq, mn_eq, nm_le, mn_le, nm_lt, mn_lt, pk_mul, nI_add, pk_sub, nI_clamp, eL_law_1527, hTop, hMo, hc, c0, c1, c2, c3, c4, hv, e1, e2, lg_same, e']
theorem lw_c35 {N : Nat} {xs : Nat → Int32} {m i : Nat} {g : Gg} {q : Nat → Nat} {K : Nat} (hN : N ≤ 320) (hi : i + 5 ≤ N) (hI : Iv g q K) (ih : Lw N xs m i) (hv : xs i &&& nI 63 = nI 35) : ∃ g', FL_law_18 N xs (m + 1) 1022 0 78 (nI i) (mk g) = some (nI 1, mk g') := by
  obtain ⟨r, g1, g2, p, L, e1, e2, hI2⟩ := sim_back (xs (i + 1)) g q K hI
  obtain ⟨g', e'⟩ := ih g2 p L hI2
  have hc : (nI N - nI 5 < nI i) = False := by rw [lw_sub hN (by omega)]; exact eq_false (by omega)
  have c0 : (i < N) = True := eq_true (by omega)
  have c1 : (i + 1 < N) = True := eq_true (by omega)
  have c2 : (i + 2 < N) = True := eq_true (by omega)
  have c3 : (i + 3 < N) = True := eq_true (by omega)
  have c4 : (i + 4 < N) = True := eq_true (by omega)
  refine ⟨g', ?_⟩
  rw [eL_law_18]
  simp -dsimp -implicitDefEqProofs (disch := omega) only [bnd_u, gd_t, if_true, if_false, ↓reduceIte, eq_self, true_or, or_true, false_or, or_false, not_true_eq_false, not_false_eq_true, and_true, true_and, and_false, false_and, reduceCtorEq, nI_ge, nI_le, nI_lt, nI_nlt, nI_ne, nI_te, nm_eq, mn_eq, nm_le, mn_le, nm_lt, mn_lt, pk_mul, nI_add, pk_sub, nI_clamp, eL_law_1527, hTop, hMo, hc, c0, c1, c2, c3, c4, hv, e1, e2, lg_same, e']
theorem lw_c36 {N : Nat} {xs : Nat → Int32} {m i : Nat} {g : Gg} {q : Nat → Nat} {K : Nat} (hN : N ≤ 320) (hi : i + 5 ≤ N) (hI : Iv g q K) (ih : Lw N xs m i) (hv : xs i &&& nI 63 = nI 36) : ∃ g', FL_law_18 N xs (m + 1) 1022 0 78 (nI i) (mk g) = some (nI 1, mk g') := by
  obtain ⟨r, g1, g2, p, L, e1, e2, hI2⟩ := sim_sheet (xs (i + 1)) (xs (i + 2)) (xs (i + 3)) g q K hI
  obtain ⟨g', e'⟩ := ih g2 p L hI2
  have hc : (nI N - nI 5 < nI i) = False := by rw [lw_sub hN (by omega)]; exact eq_false (by omega)
  have c0 : (i < N) = True := eq_true (by omega)
  have c1 : (i + 1 < N) = True := eq_true (by omega)
  have c2 : (i + 2 < N) = True := eq_true (by omega)
  have c3 : (i + 3 < N) = True := eq_true (by omega)
  have c4 : (i + 4 < N) = True := eq_true (by omega)
  refine ⟨g', ?_⟩
  rw [eL_law_18]
  simp -dsimp -implicitDefEqProofs (disch := omega) only [bnd_u, gd_t, if_true, if_false, ↓reduceIte, eq_self, true_or, or_true, false_or, or_false, not_true_eq_false, not_false_eq_true, and_true, true_and, and_false, false_and, reduceCtorEq, nI_ge, nI_le, nI_lt, nI_nlt, nI_ne, nI_te, nm_eq, mn_eq, nm_le, mn_le, nm_lt, mn_lt, pk_mul, nI_add, pk_sub, nI_clamp, eL_law_1527, hTop, hMo, hc, c0, c1, c2, c3, c4, hv, e1, e2, lg_same, e']
theorem lw_c37 {N : Nat} {xs : Nat → Int32} {m i : Nat} {g : Gg} {q : Nat → Nat} {K : Nat} (hN : N ≤ 320) (hi : i + 5 ≤ N) (hI : Iv g q K) (ih : Lw N xs m i) (hv : xs i &&& nI 63 = nI 37) : ∃ g', FL_law_18 N xs (m + 1) 1022 0 78 (nI i) (mk g) = some (nI 1, mk g') := by
  obtain ⟨r, g1, g2, p, L, e1, e2, hI2⟩ := sim_lay (xs (i + 1)) (xs (i + 2)) (xs (i + 3)) g q K hI
  obtain ⟨g', e'⟩ := ih g2 p L hI2
  have hc : (nI N - nI 5 < nI i) = False := by rw [lw_sub hN (by omega)]; exact eq_false (by omega)
  have c0 : (i < N) = True := eq_true (by omega)
  have c1 : (i + 1 < N) = True := eq_true (by omega)
  have c2 : (i + 2 < N) = True := eq_true (by omega)
  have c3 : (i + 3 < N) = True := eq_true (by omega)
  have c4 : (i + 4 < N) = True := eq_true (by omega)
  refine ⟨g', ?_⟩
  rw [eL_law_18]
  simp -dsimp -implicitDefEqProofs (disch := omega) only [bnd_u, gd_t, if_true, if_false, ↓reduceIte, eq_self, true_or, or_true, false_or, or_false, not_true_eq_false, not_false_eq_true, and_true, true_and, and_false, false_and, reduceCtorEq, nI_ge, nI_le, nI_lt, nI_nlt, nI_ne, nI_te, nm_eq, mn_eq, nm_le, mn_le, nm_lt, mn_lt, pk_mul, nI_add, pk_sub, nI_clamp, eL_law_1527, hTop, hMo, hc, c0, c1, c2, c3, c4, hv, e1, e2, lg_same, e']
theorem lw_c38 {N : Nat} {xs : Nat → Int32} {m i : Nat} {g : Gg} {q : Nat → Nat} {K : Nat} (hN : N ≤ 320) (hi : i + 5 ≤ N) (hI : Iv g q K) (ih : Lw N xs m i) (hv : xs i &&& nI 63 = nI 38) : ∃ g', FL_law_18 N xs (m + 1) 1022 0 78 (nI i) (mk g) = some (nI 1, mk g') := by
  obtain ⟨r, g1, g2, p, L, e1, e2, hI2⟩ := sim_read (xs (i + 1)) (xs (i + 2)) (xs (i + 3)) (xs (i + 4)) g q K hI
  obtain ⟨g', e'⟩ := ih g2 p L hI2
  have hc : (nI N - nI 5 < nI i) = False := by rw [lw_sub hN (by omega)]; exact eq_false (by omega)
  have c0 : (i < N) = True := eq_true (by omega)
  have c1 : (i + 1 < N) = True := eq_true (by omega)
  have c2 : (i + 2 < N) = True := eq_true (by omega)
  have c3 : (i + 3 < N) = True := eq_true (by omega)
  have c4 : (i + 4 < N) = True := eq_true (by omega)
  refine ⟨g', ?_⟩
  rw [eL_law_18]
  simp -dsimp -implicitDefEqProofs (disch := omega) only [bnd_u, gd_t, if_true, if_false, ↓reduceIte, eq_self, true_or, or_true, false_or, or_false, not_true_eq_false, not_false_eq_true, and_true, true_and, and_false, false_and, reduceCtorEq, nI_ge, nI_le, nI_lt, nI_nlt, nI_ne, nI_te, nm_eq, mn_eq, nm_le, mn_le, nm_lt, mn_lt, pk_mul, nI_add, pk_sub, nI_clamp, eL_law_1527, hTop, hMo, hc, c0, c1, c2, c3, c4, hv, e1, e2, lg_same, e']
theorem lw_c39 {N : Nat} {xs : Nat → Int32} {m i : Nat} {g : Gg} {q : Nat → Nat} {K : Nat} (hN : N ≤ 320) (hi : i + 5 ≤ N) (hI : Iv g q K) (ih : Lw N xs m i) (hv : xs i &&& nI 63 = nI 39) : ∃ g', FL_law_18 N xs (m + 1) 1022 0 78 (nI i) (mk g) = some (nI 1, mk g') := by
  obtain ⟨r, g1, g2, p, L, e1, e2, hI2⟩ := sim_torn  g q K hI
  obtain ⟨g', e'⟩ := ih g2 p L hI2
  have hc : (nI N - nI 5 < nI i) = False := by rw [lw_sub hN (by omega)]; exact eq_false (by omega)
  have c0 : (i < N) = True := eq_true (by omega)
  have c1 : (i + 1 < N) = True := eq_true (by omega)
  have c2 : (i + 2 < N) = True := eq_true (by omega)
  have c3 : (i + 3 < N) = True := eq_true (by omega)
  have c4 : (i + 4 < N) = True := eq_true (by omega)
  refine ⟨g', ?_⟩
  rw [eL_law_18]
  simp -dsimp -implicitDefEqProofs (disch := omega) only [bnd_u, gd_t, if_true, if_false, ↓reduceIte, eq_self, true_or, or_true, false_or, or_false, not_true_eq_false, not_false_eq_true, and_true, true_and, and_false, false_and, reduceCtorEq, nI_ge, nI_le, nI_lt, nI_nlt, nI_ne, nI_te, nm_eq, mn_eq, nm_le, mn_le, nm_lt, mn_lt, pk_mul, nI_add, pk_sub, nI_clamp, eL_law_1527, hTop, hMo, hc, c0, c1, c2, c3, c4, hv, e1, e2, lg_same, e']
theorem lw_c40 {N : Nat} {xs : Nat → Int32} {m i : Nat} {g : Gg} {q : Nat → Nat} {K : Nat} (hN : N ≤ 320) (hi : i + 5 ≤ N) (hI : Iv g q K) (ih : Lw N xs m i) (hv : xs i &&& nI 63 = nI 40) : ∃ g', FL_law_18 N xs (m + 1) 1022 0 78 (nI i) (mk g) = some (nI 1, mk g') := by
  obtain ⟨r, g1, g2, p, L, e1, e2, hI2⟩ := sim_count (xs (i + 1)) g q K hI
  obtain ⟨g', e'⟩ := ih g2 p L hI2
  have hc : (nI N - nI 5 < nI i) = False := by rw [lw_sub hN (by omega)]; exact eq_false (by omega)
  have c0 : (i < N) = True := eq_true (by omega)
  have c1 : (i + 1 < N) = True := eq_true (by omega)
  have c2 : (i + 2 < N) = True := eq_true (by omega)
  have c3 : (i + 3 < N) = True := eq_true (by omega)
  have c4 : (i + 4 < N) = True := eq_true (by omega)
  refine ⟨g', ?_⟩
  rw [eL_law_18]
  simp -dsimp -implicitDefEqProofs (disch := omega) only [bnd_u, gd_t, if_true, if_false, ↓reduceIte, eq_self, true_or, or_true, false_or, or_false, not_true_eq_false, not_false_eq_true, and_true, true_and, and_false, false_and, reduceCtorEq, nI_ge, nI_le, nI_lt, nI_nlt, nI_ne, nI_te, nm_eq, mn_eq, nm_le, mn_le, nm_lt, mn_lt, pk_mul, nI_add, pk_sub, nI_clamp, eL_law_1527, hTop, hMo, hc, c0, c1, c2, c3, c4, hv, e1, e2, lg_same, e']
theorem lw_cd {N : Nat} {xs : Nat → Int32} {m i : Nat} {g : Gg} {q : Nat → Nat} {K : Nat} (hN : N ≤ 320) (hi : i + 5 ≤ N) (hI : Iv g q K) (ih : Lw N xs m i) (hv : ∀ j, j < 41 → ¬ xs i &&& nI 63 = nI j) : ∃ g', FL_law_18 N xs (m + 1) 1022 0 78 (nI i) (mk g) = some (nI 1, mk g') := by
  obtain ⟨g', e'⟩ := ih g q K hI
  have hc : (nI N - nI 5 < nI i) = False := by rw [lw_sub hN (by omega)]; exact eq_false (by omega)
  have c0 : (i < N) = True := eq_true (by omega)
  refine ⟨g', ?_⟩
  rw [eL_law_18]
  simp -dsimp -implicitDefEqProofs (disch := omega) only [bnd_u, gd_t, if_true, if_false, ↓reduceIte, eq_self, true_or, or_true, false_or, or_false, not_true_eq_false, not_false_eq_true, and_true, true_and, and_false, false_and, reduceCtorEq, nI_ge, nI_le, nI_lt, nI_nlt, nI_ne, nI_te, nm_eq, mn_eq, nm_le, mn_le, nm_lt, mn_lt, pk_mul, nI_add, pk_sub, nI_clamp, eL_law_1527, hc, c0, hv, e']
theorem lw_loop {N : Nat} {xs : Nat → Int32} (hN : N ≤ 320) : ∀ (d fuel i : Nat) (g : Gg) (q : Nat → Nat) (K : Nat), N < i + 5 * d + 5 → d < fuel → i ≤ 400 → Iv g q K → ∃ g', FL_law_18 N xs fuel 1022 0 78 (nI i) (mk g) = some (nI 1, mk g')
  | d, 0, i, g, q, K, hd, hf, hi, hI => absurd hf (by omega)
  | d, m + 1, i, g, q, K, hd, hf, hi, hI => by
    rcases Nat.lt_or_ge N (i + 5) with hn | hn
    · have hc : (nI N - nI 5 < nI i) = True := by rw [lw_sub hN (by omega)]; exact eq_true hn
      refine ⟨g, ?_⟩
      rw [eL_law_18]
      simp -dsimp -implicitDefEqProofs (disch := omega) only [bnd_u, gd_t, if_true, if_false, ↓reduceIte, eq_self, true_or, or_true, false_or, or_false, not_true_eq_false, not_false_eq_true, and_true, true_and, and_false, false_and, reduceCtorEq, nI_ge, nI_le, nI_lt, nI_nlt, nI_ne, nI_te, nm_eq, mn_eq, nm_le, mn_le, nm_lt, mn_lt, pk_mul, nI_add, pk_sub, nI_clamp, hc]
    · obtain ⟨d2, rfl⟩ : ∃ d2, d = d2 + 1 := ⟨d - 1, by omega⟩
      have ih : Lw N xs m i := fun g q K hI => lw_loop hN d2 m (i + 5) g q K (by omega) (by omega) (by omega) hI
      rcases in_of (xs i &&& nI 63) (n := 41) (by decide) with hx | ⟨j, hj, hv⟩
      · exact lw_cd hN hn hI ih (fun j hj => ne_out hx hj (by decide))
      · match j, hj, hv with
        | 0, _, hv => exact lw_c0 hN hn hI ih hv
        | 1, _, hv => exact lw_c1 hN hn hI ih hv
        | 2, _, hv => exact lw_c2 hN hn hI ih hv
        | 3, _, hv => exact lw_c3 hN hn hI ih hv
        | 4, _, hv => exact lw_c4 hN hn hI ih hv
        | 5, _, hv => exact lw_c5 hN hn hI ih hv
        | 6, _, hv => exact lw_c6 hN hn hI ih hv
        | 7, _, hv => exact lw_c7 hN hn hI ih hv
        | 8, _, hv => exact lw_c8 hN hn hI ih hv
        | 9, _, hv => exact lw_c9 hN hn hI ih hv
        | 10, _, hv => exact lw_c10 hN hn hI ih hv
        | 11, _, hv => exact lw_c11 hN hn hI ih hv
        | 12, _, hv => exact lw_c12 hN hn hI ih hv
        | 13, _, hv => exact lw_c13 hN hn hI ih hv
        | 14, _, hv => exact lw_c14 hN hn hI ih hv
        | 15, _, hv => exact lw_c15 hN hn hI ih hv
        | 16, _, hv => exact lw_c16 hN hn hI ih hv
        | 17, _, hv => exact lw_c17 hN hn hI ih hv
        | 18, _, hv => exact lw_c18 hN hn hI ih hv
        | 19, _, hv => exact lw_c19 hN hn hI ih hv
        | 20, _, hv => exact lw_c20 hN hn hI ih hv
        | 21, _, hv => exact lw_c21 hN hn hI ih hv
        | 22, _, hv => exact lw_c22 hN hn hI ih hv
        | 23, _, hv => exact lw_c23 hN hn hI ih hv
        | 24, _, hv => exact lw_c24 hN hn hI ih hv
        | 25, _, hv => exact lw_c25 hN hn hI ih hv
        | 26, _, hv => exact lw_c26 hN hn hI ih hv
        | 27, _, hv => exact lw_c27 hN hn hI ih hv
        | 28, _, hv => exact lw_c28 hN hn hI ih hv
        | 29, _, hv => exact lw_c29 hN hn hI ih hv
        | 30, _, hv => exact lw_c30 hN hn hI ih hv
        | 31, _, hv => exact lw_c31 hN hn hI ih hv
        | 32, _, hv => exact lw_c32 hN hn hI ih hv
        | 33, _, hv => exact lw_c33 hN hn hI ih hv
        | 34, _, hv => exact lw_c34 hN hn hI ih hv
        | 35, _, hv => exact lw_c35 hN hn hI ih hv
        | 36, _, hv => exact lw_c36 hN hn hI ih hv
        | 37, _, hv => exact lw_c37 hN hn hI ih hv
        | 38, _, hv => exact lw_c38 hN hn hI ih hv
        | 39, _, hv => exact lw_c39 hN hn hI ih hv
        | 40, _, hv => exact lw_c40 hN hn hI ih hv
        | j + 41, hj, _ => exact absurd hj (by omega)
