/-! shift, drop, and what comes behind -/
theorem sh_of (y : Int32) {K : Nat} (hK : K ≤ 5) : (∃ r, r ≤ K ∧ y = ho r) ∨ (¬ y = mi 4 ∧ (y < nI 0 ∨ (¬ y < nI 0 ∧ nI K ≤ y))) := by
  by_cases h : y = mi 4
  · exact Or.inl ⟨0, by omega, h⟩
  · rcases in_of y (n := K) (by omega) with hy | ⟨k, hk, rfl⟩
    · exact Or.inr ⟨h, hy⟩
    · exact Or.inl ⟨k + 1, by omega, by rw [ho_s (by omega), Nat.add_sub_cancel]⟩
theorem c_shift {g : Gg} {q : Nat → Nat} {K h r : Nat} (hF : F1 g q K) (hG : Gd q K) (hh : h < 10) (hr : r ≤ K) : FX8_isShift 0 (nI h) (ho r) (mk g) = some (nI 1, mk g) := by
  have hK := hG.K
  by_cases z : r = 0
  · simp -dsimp -implicitDefEqProofs (disch := omega) only [bnd_u, gd_t, if_true, if_false, ↓reduceIte, eq_self, true_or, or_true, false_or, or_false, not_true_eq_false, not_false_eq_true, and_true, true_and, and_false, false_and, reduceCtorEq, nI_ge, nI_le, nI_lt, nI_nlt, nI_ne, nI_te, nm_eq, mn_eq, nm_le, mn_le, nm_lt, mn_lt, pk_mul, nI_add, pk_sub, nI_clamp, eX8_isShift, eX8_isShift_24, eX8_isShift_29, c_hr hh, ho_0 z]
  · simp -dsimp -implicitDefEqProofs (disch := omega) only [bnd_u, gd_t, if_true, if_false, ↓reduceIte, eq_self, true_or, or_true, false_or, or_false, not_true_eq_false, not_false_eq_true, and_true, true_and, and_false, false_and, reduceCtorEq, nI_ge, nI_le, nI_lt, nI_nlt, nI_ne, nI_te, nm_eq, mn_eq, nm_le, mn_le, nm_lt, mn_lt, pk_mul, nI_add, pk_sub, nI_clamp, eX8_isShift, eX8_isShift_24, eX8_isShift_29, c_hr hh, ho_s (show 0 < r by omega), hTop, hFam, f_one hF hG (show r - 1 < K by omega)]
theorem c_shiftN {g : Gg} {q : Nat → Nat} {K : Nat} {x y : Int32} (hF : F1 g q K) (h : (x < nI 0 ∨ (¬ x < nI 0 ∧ nI 10 ≤ x)) ∨ (¬ y = mi 4 ∧ (y < nI 0 ∨ (¬ y < nI 0 ∧ nI K ≤ y)))) : FX8_isShift 0 x y (mk g) = some (nI 0, mk g) := by
  rcases in_of x (n := 10) (by omega) with hx | ⟨j, hj, rfl⟩
  · simp -dsimp -implicitDefEqProofs (disch := omega) only [bnd_u, gd_t, if_true, if_false, ↓reduceIte, eq_self, true_or, or_true, false_or, or_false, not_true_eq_false, not_false_eq_true, and_true, true_and, and_false, false_and, reduceCtorEq, nI_ge, nI_le, nI_lt, nI_nlt, nI_ne, nI_te, nm_eq, mn_eq, nm_le, mn_le, nm_lt, mn_lt, pk_mul, nI_add, pk_sub, nI_clamp, eX8_isShift, eX8_isShift_28, eX8_isShift_29, c_hrN hx]
  · rcases h with h | ⟨h1, h2⟩
    · exact absurd rfl (ne_out h hj (by omega))
    · simp -dsimp -implicitDefEqProofs (disch := omega) only [bnd_u, gd_t, if_true, if_false, ↓reduceIte, eq_self, true_or, or_true, false_or, or_false, not_true_eq_false, not_false_eq_true, and_true, true_and, and_false, false_and, reduceCtorEq, nI_ge, nI_le, nI_lt, nI_nlt, nI_ne, nI_te, nm_eq, mn_eq, nm_le, mn_le, nm_lt, mn_lt, pk_mul, nI_add, pk_sub, nI_clamp, eX8_isShift, eX8_isShift_28, eX8_isShift_29, c_hr hj, h1, hTop, hFam, f_oneN hF h2]
theorem m_shifts {g : Gg} {q : Nat → Nat} {K h r : Nat} (hM : Ms g q K) (hG : Gd q K) (hh : h < 10) (hr : r ≤ K) : FX9_shifts 78 (nI h) (ho r) (mk g) = some (ho (q (26 + h)), mk (up g 79 (26 + h) (nI r))) := by
  have hK := hG.K
  have hq := hG.q (26 + h)
  by_cases z : r = 0
  · subst z
    simp -dsimp -implicitDefEqProofs (disch := omega) only [bnd_u, gd_t, if_true, if_false, ↓reduceIte, eq_self, true_or, or_true, false_or, or_false, not_true_eq_false, not_false_eq_true, and_true, true_and, and_false, false_and, reduceCtorEq, nI_ge, nI_le, nI_lt, nI_nlt, nI_ne, nI_te, nm_eq, mn_eq, nm_le, mn_le, nm_lt, mn_lt, pk_mul, nI_add, pk_sub, nI_clamp, eX9_shifts, eX9_shifts_23, eX9_shifts_50, m_hour hh, show ho 0 = mi 4 from rfl, hMo, m_has hM hh, m_orN hq]
  · simp -dsimp -implicitDefEqProofs (disch := omega) only [bnd_u, gd_t, if_true, if_false, ↓reduceIte, eq_self, true_or, or_true, false_or, or_false, not_true_eq_false, not_false_eq_true, and_true, true_and, and_false, false_and, reduceCtorEq, nI_ge, nI_le, nI_lt, nI_nlt, nI_ne, nI_te, nm_eq, mn_eq, nm_le, mn_le, nm_lt, mn_lt, pk_mul, nI_add, pk_sub, nI_clamp, eX9_shifts, eX9_shifts_23, eX9_shifts_50, m_hour hh, ho_s (show 0 < r by omega), hMo, m_one hM hK (show r - 1 < K by omega), m_has hM hh, m_orN hq, show r - 1 + 1 = r by omega]
theorem m_shiftsN {g : Gg} {q : Nat → Nat} {K : Nat} {x y : Int32} (hM : Ms g q K) (hK : K ≤ 5) (h : (x < nI 0 ∨ (¬ x < nI 0 ∧ nI 10 ≤ x)) ∨ (¬ y = mi 4 ∧ (y < nI 0 ∨ (¬ y < nI 0 ∧ nI K ≤ y)))) : FX9_shifts 78 x y (mk g) = some (mi 1, mk g) := by
  rcases in_of x (n := 10) (by omega) with hx | ⟨j, hj, rfl⟩
  · simp -dsimp -implicitDefEqProofs (disch := omega) only [bnd_u, gd_t, if_true, if_false, ↓reduceIte, eq_self, true_or, or_true, false_or, or_false, not_true_eq_false, not_false_eq_true, and_true, true_and, and_false, false_and, reduceCtorEq, nI_ge, nI_le, nI_lt, nI_nlt, nI_ne, nI_te, nm_eq, mn_eq, nm_le, mn_le, nm_lt, mn_lt, pk_mul, nI_add, pk_sub, nI_clamp, eX9_shifts, eX9_shifts_21, m_hourN hx]
  · rcases h with h | ⟨h1, h2⟩
    · exact absurd rfl (ne_out h hj (by omega))
    · simp -dsimp -implicitDefEqProofs (disch := omega) only [bnd_u, gd_t, if_true, if_false, ↓reduceIte, eq_self, true_or, or_true, false_or, or_false, not_true_eq_false, not_false_eq_true, and_true, true_and, and_false, false_and, reduceCtorEq, nI_ge, nI_le, nI_lt, nI_nlt, nI_ne, nI_te, nm_eq, mn_eq, nm_le, mn_le, nm_lt, mn_lt, pk_mul, nI_add, pk_sub, nI_clamp, eX9_shifts, eX9_shifts_21, m_hour hj, h1, hMo, m_oneN hM hK h2]
theorem Ro_up {c : Nat → Int32} {q : Nat → Nat} {h r : Nat} (hR : Ro c q) : Ro (upd c h (ho r)) (pt q (26 + h) r) := by
  intro i hi
  by_cases e : i = h
  · rw [e, pk_us, pt_s]
  · rw [pk_un e, pt_n (by omega)]; exact hR i hi
theorem sim_shift (x y : Int32) : Sim (FX8_shift 0 x y) (FX9_shift 78 x y) := by
  intro g q K hI
  have hK := hI.G.K
  by_cases hin : ∃ h r, h < 10 ∧ r ≤ K ∧ x = nI h ∧ y = ho r
  · obtain ⟨h, r, hh, hr, rfl, rfl⟩ := hin
    have f1 : Fr [11] g (up g 11 h (ho r)) := Fr.c (by decide)
    have hM1 := hI.M.f f1 (by decide)
    refine ⟨ho (q (26 + h)), up g 11 h (ho r), up (up g 11 h (ho r)) 79 (26 + h) (nI r), pt q (26 + h) r, K, ?_, ?_, put_1 hI f1 (by decide) (by decide) (by omega) rfl (Gd_ro hI.G hh hr) ((F1_ro hI.F hI.G hh).f f1 (by decide)) ?_⟩
    · simp -dsimp -implicitDefEqProofs (disch := omega) only [bnd_u, gd_t, if_true, if_false, ↓reduceIte, eq_self, true_or, or_true, false_or, or_false, not_true_eq_false, not_false_eq_true, and_true, true_and, and_false, false_and, reduceCtorEq, nI_ge, nI_le, nI_lt, nI_nlt, nI_ne, nI_te, nm_eq, mn_eq, nm_le, mn_le, nm_lt, mn_lt, pk_mul, nI_add, pk_sub, nI_clamp, eX8_shift, hTop, hFam, c_shift hI.F hI.G hh hr, hI.R h hh]
    · simp -dsimp -implicitDefEqProofs (disch := omega) only [bnd_u, gd_t, if_true, if_false, ↓reduceIte, eq_self, true_or, or_true, false_or, or_false, not_true_eq_false, not_false_eq_true, and_true, true_and, and_false, false_and, reduceCtorEq, nI_ge, nI_le, nI_lt, nI_nlt, nI_ne, nI_te, nm_eq, mn_eq, nm_le, mn_le, nm_lt, mn_lt, pk_mul, nI_add, pk_sub, nI_clamp, eX9_shift, hMo, m_shifts hM1 hI.G hh hr]
    · rw [up_c]; exact Ro_up hI.R
  · have hb : (x < nI 0 ∨ (¬ x < nI 0 ∧ nI 10 ≤ x)) ∨ (¬ y = mi 4 ∧ (y < nI 0 ∨ (¬ y < nI 0 ∧ nI K ≤ y))) := by
      rcases in_of x (n := 10) (by omega) with hx | ⟨j, hj, rfl⟩
      · exact Or.inl hx
      · rcases sh_of y hK with ⟨r, hr, rfl⟩ | h
        · exact absurd ⟨j, r, hj, hr, rfl, rfl⟩ hin
        · exact Or.inr h
    refine ⟨mi 1, g, g, q, K, ?_, ?_, hI⟩
    · simp -dsimp -implicitDefEqProofs (disch := omega) only [bnd_u, gd_t, if_true, if_false, ↓reduceIte, eq_self, true_or, or_true, false_or, or_false, not_true_eq_false, not_false_eq_true, and_true, true_and, and_false, false_and, reduceCtorEq, nI_ge, nI_le, nI_lt, nI_nlt, nI_ne, nI_te, nm_eq, mn_eq, nm_le, mn_le, nm_lt, mn_lt, pk_mul, nI_add, pk_sub, nI_clamp, eX8_shift, hTop, c_shiftN hI.F hb]
    · simp -dsimp -implicitDefEqProofs (disch := omega) only [bnd_u, gd_t, if_true, if_false, ↓reduceIte, eq_self, true_or, or_true, false_or, or_false, not_true_eq_false, not_false_eq_true, and_true, true_and, and_false, false_and, reduceCtorEq, nI_ge, nI_le, nI_lt, nI_nlt, nI_ne, nI_te, nm_eq, mn_eq, nm_le, mn_le, nm_lt, mn_lt, pk_mul, nI_add, pk_sub, nI_clamp, eX9_shift, hMo, m_shiftsN hI.M hK hb]
theorem sim_drop (x y : Int32) : Sim (FX8_drop 0 x y) (FX9_drop 78 x y) := by
  intro g q K hI
  have htn := hI.G.tn
  have hwn := hI.G.wn
  have hen := hI.G.en
  by_cases x1 : x = nI 1
  · subst x1
    rcases in_of y (n := q 25 + 1) (by omega) with hy | ⟨m, hm, rfl⟩
    · refine ⟨mi 1, g, g, q, K, ?_, ?_, hI⟩
      · simp -dsimp -implicitDefEqProofs (disch := omega) only [bnd_u, gd_t, if_true, if_false, ↓reduceIte, eq_self, true_or, or_true, false_or, or_false, not_true_eq_false, not_false_eq_true, and_true, true_and, and_false, false_and, reduceCtorEq, nI_ge, nI_le, nI_lt, nI_nlt, nI_ne, nI_te, nm_eq, mn_eq, nm_le, mn_le, nm_lt, mn_lt, pk_mul, nI_add, pk_sub, nI_clamp, eX8_drop, hTop, hFam, R_cutN rw4 hI.F.2.2.2.1 htn hy]
      · have hin := m_0nN (M := mk g) (n := q 25 + 1) (by omega) (by omega) hy
        rw [Nat.add_sub_cancel] at hin
        simp -dsimp -implicitDefEqProofs (disch := omega) only [bnd_u, gd_t, if_true, if_false, ↓reduceIte, eq_self, true_or, or_true, false_or, or_false, not_true_eq_false, not_false_eq_true, and_true, true_and, and_false, false_and, reduceCtorEq, nI_ge, nI_le, nI_lt, nI_nlt, nI_ne, nI_te, nm_eq, mn_eq, nm_le, mn_le, nm_lt, mn_lt, pk_mul, nI_add, pk_sub, nI_clamp, eX9_drop, eX9_drop_22, eX9_drop_56, eX9_drop_57, hMo, nI_l, m_in, hI.M.a, hin, m_puts0]
    · have f1 : Fr [4] g (up g 4 3 (nI m)) := Fr.c (by decide)
      have hM1 := hI.M.f f1 (by decide)
      refine ⟨nI (q 25), up g 4 3 (nI m), up (up g 4 3 (nI m)) 79 25 (nI m), pt q 25 m, K, ?_, ?_, put_1 hI f1 (by decide) (by decide) (by omega) rfl (Gd_c25 hI.G (by omega)) (F1_c25 hI.F hI.G (by omega)) ?_⟩
      · simp -dsimp -implicitDefEqProofs (disch := omega) only [bnd_u, gd_t, if_true, if_false, ↓reduceIte, eq_self, true_or, or_true, false_or, or_false, not_true_eq_false, not_false_eq_true, and_true, true_and, and_false, false_and, reduceCtorEq, nI_ge, nI_le, nI_lt, nI_nlt, nI_ne, nI_te, nm_eq, mn_eq, nm_le, mn_le, nm_lt, mn_lt, pk_mul, nI_add, pk_sub, nI_clamp, eX8_drop, hTop, hFam, R_cut rw4 hI.F.2.2.2.1 htn (show m ≤ q 25 by omega)]
      · simp -dsimp -implicitDefEqProofs (disch := omega) only [bnd_u, gd_t, if_true, if_false, ↓reduceIte, eq_self, true_or, or_true, false_or, or_false, not_true_eq_false, not_false_eq_true, and_true, true_and, and_false, false_and, reduceCtorEq, nI_ge, nI_le, nI_lt, nI_nlt, nI_ne, nI_te, nm_eq, mn_eq, nm_le, mn_le, nm_lt, mn_lt, pk_mul, nI_add, pk_sub, nI_clamp, eX9_drop, eX9_drop_22, eX9_drop_57, hMo, nI_l, m_in, hM1.a, m_puts hM1 (show 25 < 74 by omega)]
      · rw [up_n (by decide)]; exact Ro_pt hI.R (by omega)
  · by_cases x2 : x = nI 2
    · subst x2
      rcases in_of y (n := q 56 + 1) (by omega) with hy | ⟨m, hm, rfl⟩
      · refine ⟨mi 1, g, g, q, K, ?_, ?_, hI⟩
        · simp -dsimp -implicitDefEqProofs (disch := omega) only [bnd_u, gd_t, if_true, if_false, ↓reduceIte, eq_self, true_or, or_true, false_or, or_false, not_true_eq_false, not_false_eq_true, and_true, true_and, and_false, false_and, reduceCtorEq, nI_ge, nI_le, nI_lt, nI_nlt, nI_ne, nI_te, nm_eq, mn_eq, nm_le, mn_le, nm_lt, mn_lt, pk_mul, nI_add, pk_sub, nI_clamp, eX8_drop, hTop, hFam, R_cutN rw6 hI.F.2.2.2.2.2.1 hwn hy]
        · have hin := m_0nN (M := mk g) (n := q 56 + 1) (by omega) (by omega) hy
          rw [Nat.add_sub_cancel] at hin
          simp -dsimp -implicitDefEqProofs (disch := omega) only [bnd_u, gd_t, if_true, if_false, ↓reduceIte, eq_self, true_or, or_true, false_or, or_false, not_true_eq_false, not_false_eq_true, and_true, true_and, and_false, false_and, reduceCtorEq, nI_ge, nI_le, nI_lt, nI_nlt, nI_ne, nI_te, nm_eq, mn_eq, nm_le, mn_le, nm_lt, mn_lt, pk_mul, nI_add, pk_sub, nI_clamp, eX9_drop, eX9_drop_22, eX9_drop_56, eX9_drop_57, hMo, nI_l, m_in, hI.M.a, hin, m_puts0]
      · have f1 : Fr [6] g (up g 6 3 (nI m)) := Fr.c (by decide)
        have hM1 := hI.M.f f1 (by decide)
        refine ⟨nI (q 56), up g 6 3 (nI m), up (up g 6 3 (nI m)) 79 56 (nI m), pt q 56 m, K, ?_, ?_, put_1 hI f1 (by decide) (by decide) (by omega) rfl (Gd_c56 hI.G (by omega)) (F1_c56 hI.F hI.G (by omega)) ?_⟩
        · simp -dsimp -implicitDefEqProofs (disch := omega) only [bnd_u, gd_t, if_true, if_false, ↓reduceIte, eq_self, true_or, or_true, false_or, or_false, not_true_eq_false, not_false_eq_true, and_true, true_and, and_false, false_and, reduceCtorEq, nI_ge, nI_le, nI_lt, nI_nlt, nI_ne, nI_te, nm_eq, mn_eq, nm_le, mn_le, nm_lt, mn_lt, pk_mul, nI_add, pk_sub, nI_clamp, eX8_drop, hTop, hFam, R_cut rw6 hI.F.2.2.2.2.2.1 hwn (show m ≤ q 56 by omega)]
        · simp -dsimp -implicitDefEqProofs (disch := omega) only [bnd_u, gd_t, if_true, if_false, ↓reduceIte, eq_self, true_or, or_true, false_or, or_false, not_true_eq_false, not_false_eq_true, and_true, true_and, and_false, false_and, reduceCtorEq, nI_ge, nI_le, nI_lt, nI_nlt, nI_ne, nI_te, nm_eq, mn_eq, nm_le, mn_le, nm_lt, mn_lt, pk_mul, nI_add, pk_sub, nI_clamp, eX9_drop, eX9_drop_22, eX9_drop_57, hMo, nI_l, m_in, hM1.a, m_puts hM1 (show 56 < 74 by omega)]
        · rw [up_n (by decide)]; exact Ro_pt hI.R (by omega)
    · by_cases x3 : x = nI 3
      · subst x3
        rcases in_of y (n := q 73 + 1) (by omega) with hy | ⟨m, hm, rfl⟩
        · refine ⟨mi 1, g, g, q, K, ?_, ?_, hI⟩
          · simp -dsimp -implicitDefEqProofs (disch := omega) only [bnd_u, gd_t, if_true, if_false, ↓reduceIte, eq_self, true_or, or_true, false_or, or_false, not_true_eq_false, not_false_eq_true, and_true, true_and, and_false, false_and, reduceCtorEq, nI_ge, nI_le, nI_lt, nI_nlt, nI_ne, nI_te, nm_eq, mn_eq, nm_le, mn_le, nm_lt, mn_lt, pk_mul, nI_add, pk_sub, nI_clamp, eX8_drop, hTop, hFam, R_cutN rw8 hI.F.2.2.2.2.2.2.2.1 hen hy]
          · have hin := m_0nN (M := mk g) (n := q 73 + 1) (by omega) (by omega) hy
            rw [Nat.add_sub_cancel] at hin
            simp -dsimp -implicitDefEqProofs (disch := omega) only [bnd_u, gd_t, if_true, if_false, ↓reduceIte, eq_self, true_or, or_true, false_or, or_false, not_true_eq_false, not_false_eq_true, and_true, true_and, and_false, false_and, reduceCtorEq, nI_ge, nI_le, nI_lt, nI_nlt, nI_ne, nI_te, nm_eq, mn_eq, nm_le, mn_le, nm_lt, mn_lt, pk_mul, nI_add, pk_sub, nI_clamp, eX9_drop, eX9_drop_22, eX9_drop_56, eX9_drop_57, hMo, nI_l, m_in, hI.M.a, hin, m_puts0]
        · have f1 : Fr [8] g (up g 8 3 (nI m)) := Fr.c (by decide)
          have hM1 := hI.M.f f1 (by decide)
          refine ⟨nI (q 73), up g 8 3 (nI m), up (up g 8 3 (nI m)) 79 73 (nI m), pt q 73 m, K, ?_, ?_, put_1 hI f1 (by decide) (by decide) (by omega) rfl (Gd_c73 hI.G (by omega)) (F1_c73 hI.F hI.G (by omega)) ?_⟩
          · simp -dsimp -implicitDefEqProofs (disch := omega) only [bnd_u, gd_t, if_true, if_false, ↓reduceIte, eq_self, true_or, or_true, false_or, or_false, not_true_eq_false, not_false_eq_true, and_true, true_and, and_false, false_and, reduceCtorEq, nI_ge, nI_le, nI_lt, nI_nlt, nI_ne, nI_te, nm_eq, mn_eq, nm_le, mn_le, nm_lt, mn_lt, pk_mul, nI_add, pk_sub, nI_clamp, eX8_drop, hTop, hFam, R_cut rw8 hI.F.2.2.2.2.2.2.2.1 hen (show m ≤ q 73 by omega)]
          · simp -dsimp -implicitDefEqProofs (disch := omega) only [bnd_u, gd_t, if_true, if_false, ↓reduceIte, eq_self, true_or, or_true, false_or, or_false, not_true_eq_false, not_false_eq_true, and_true, true_and, and_false, false_and, reduceCtorEq, nI_ge, nI_le, nI_lt, nI_nlt, nI_ne, nI_te, nm_eq, mn_eq, nm_le, mn_le, nm_lt, mn_lt, pk_mul, nI_add, pk_sub, nI_clamp, eX9_drop, eX9_drop_22, eX9_drop_57, hMo, nI_l, m_in, hM1.a, m_puts hM1 (show 73 < 74 by omega)]
          · rw [up_n (by decide)]; exact Ro_pt hI.R (by omega)
      · refine ⟨mi 1, g, g, q, K, ?_, ?_, hI⟩
        · simp -dsimp -implicitDefEqProofs (disch := omega) only [bnd_u, gd_t, if_true, if_false, ↓reduceIte, eq_self, true_or, or_true, false_or, or_false, not_true_eq_false, not_false_eq_true, and_true, true_and, and_false, false_and, reduceCtorEq, nI_ge, nI_le, nI_lt, nI_nlt, nI_ne, nI_te, nm_eq, mn_eq, nm_le, mn_le, nm_lt, mn_lt, pk_mul, nI_add, pk_sub, nI_clamp, eX8_drop, x1, x2, x3]
        · have hin : FX9_in x.toInt64 (lN 1) (lN 3) (mk g) = some (nI 0, mk g) := by
            rcases in_of x (n := 4) (by omega) with h | ⟨j, hj, rfl⟩
            · rcases h with h | ⟨-, h⟩
              · apply m_inL
                rw [fa_lt64, Int32.toInt_toInt64, pk_lT (by decide)]
                rw [fa_lt, nI_toInt (by decide)] at h
                omega
              · apply m_inH
                rw [fa_lt64, Int32.toInt_toInt64, pk_lT (by decide)]
                rw [fa_le, nI_toInt (by decide)] at h
                omega
            · have : j = 0 := by
                rcases (show j = 0 ∨ j = 1 ∨ j = 2 ∨ j = 3 by omega) with h | h | h | h
                · exact h
                · exact absurd (by rw [h]) x1
                · exact absurd (by rw [h]) x2
                · exact absurd (by rw [h]) x3
              subst this
              rw [nI_l (by omega)]
              exact m_inL ((lN_lt (by omega) (by omega)).mpr (by omega))
          simp -dsimp -implicitDefEqProofs (disch := omega) only [bnd_u, gd_t, if_true, if_false, ↓reduceIte, eq_self, true_or, or_true, false_or, or_false, not_true_eq_false, not_false_eq_true, and_true, true_and, and_false, false_and, reduceCtorEq, nI_ge, nI_le, nI_lt, nI_nlt, nI_ne, nI_te, nm_eq, mn_eq, nm_le, mn_le, nm_lt, mn_lt, pk_mul, nI_add, pk_sub, nI_clamp, eX9_drop, eX9_drop_22, eX9_drop_56, eX9_drop_57, x1, x2, hin, hMo, m_puts0]
/-- a step of the reference's: its cell a becomes v -/
theorem Ms_pt {g : Gg} {q : Nat → Nat} {K a v : Nat} (h : Ms g q K) (ha : a < 74) : Ms (up g 79 a (nI v)) (pt q a v) K := by
  refine ⟨?_, ?_⟩
  · rw [up_n (by decide)]; exact h.1
  · rw [up_c]; exact Md_pt h.2 ha
/-- the page with one turn more, one work more, one telling more -/
def addT (q : Nat → Nat) (a b c : Nat) : Nat → Nat := pt (pt (pt (pt q (13 + 3 * q 25) a) (13 + 3 * q 25 + 1) b) (13 + 3 * q 25 + 2) c) 25 (q 25 + 1)
def addW (q : Nat → Nat) (a b c d : Nat) : Nat → Nat := pt (pt (pt (pt (pt q (36 + 4 * q 56) a) (36 + 4 * q 56 + 1) b) (36 + 4 * q 56 + 2) c) (36 + 4 * q 56 + 3) d) 56 (q 56 + 1)
def addE (q : Nat → Nat) (a b c d : Nat) : Nat → Nat := pt (pt (pt (pt (pt q (57 + 4 * q 73) a) (57 + 4 * q 73 + 1) b) (57 + 4 * q 73 + 2) c) (57 + 4 * q 73 + 3) d) 73 (q 73 + 1)
theorem addT_o {q : Nat → Nat} {a b c i : Nat} (hn : q 25 < 4) (hi : i ≠ 25) (h2 : i < 13 + 3 * q 25 ∨ 13 + 3 * q 25 + 3 ≤ i) : addT q a b c i = q i := by
  unfold addT
  rw [pt_n (by omega), pt_n (by omega), pt_n (by omega), pt_n (by omega)]
theorem addT_25 (q : Nat → Nat) (a b c : Nat) : addT q a b c 25 = q 25 + 1 := pt_s _ _ _
theorem addT_0 {q : Nat → Nat} {a b c : Nat} (hn : q 25 < 4) : addT q a b c (13 + 3 * q 25) = a := by
  unfold addT
  rw [pt_n (by omega), pt_n (by omega), pt_n (by omega), pt_s]
theorem addT_1 {q : Nat → Nat} {a b c : Nat} (hn : q 25 < 4) : addT q a b c (13 + 3 * q 25 + 1) = b := by
  unfold addT
  rw [pt_n (by omega), pt_n (by omega), pt_s]
theorem addT_2 {q : Nat → Nat} {a b c : Nat} (hn : q 25 < 4) : addT q a b c (13 + 3 * q 25 + 2) = c := by
  unfold addT
  rw [pt_n (by omega), pt_s]
theorem addW_o {q : Nat → Nat} {a b c d i : Nat} (hi : i ≠ 56) (h2 : i < 36 + 4 * q 56 ∨ 36 + 4 * q 56 + 4 ≤ i) : addW q a b c d i = q i := by
  unfold addW
  rw [pt_n (by omega), pt_n (by omega), pt_n (by omega), pt_n (by omega), pt_n (by omega)]
theorem addW_56 (q : Nat → Nat) (a b c d : Nat) : addW q a b c d 56 = q 56 + 1 := pt_s _ _ _
theorem addW_0 {q : Nat → Nat} {a b c d : Nat} (hn : q 56 < 5) : addW q a b c d (36 + 4 * q 56) = a := by
  unfold addW
  rw [pt_n (by omega), pt_n (by omega), pt_n (by omega), pt_n (by omega), pt_s]
theorem addW_1 {q : Nat → Nat} {a b c d : Nat} (hn : q 56 < 5) : addW q a b c d (36 + 4 * q 56 + 1) = b := by
  unfold addW
  rw [pt_n (by omega), pt_n (by omega), pt_n (by omega), pt_s]
theorem addW_2 {q : Nat → Nat} {a b c d : Nat} (hn : q 56 < 5) : addW q a b c d (36 + 4 * q 56 + 2) = c := by
  unfold addW
  rw [pt_n (by omega), pt_n (by omega), pt_s]
theorem addW_3 {q : Nat → Nat} {a b c d : Nat} (hn : q 56 < 5) : addW q a b c d (36 + 4 * q 56 + 3) = d := by
  unfold addW
  rw [pt_n (by omega), pt_s]
theorem addE_o {q : Nat → Nat} {a b c d i : Nat} (hi : i ≠ 73) (h2 : i < 57 + 4 * q 73 ∨ 57 + 4 * q 73 + 4 ≤ i) : addE q a b c d i = q i := by
  unfold addE
  rw [pt_n (by omega), pt_n (by omega), pt_n (by omega), pt_n (by omega), pt_n (by omega)]
theorem addE_73 (q : Nat → Nat) (a b c d : Nat) : addE q a b c d 73 = q 73 + 1 := pt_s _ _ _
theorem addE_0 {q : Nat → Nat} {a b c d : Nat} (hn : q 73 < 4) : addE q a b c d (57 + 4 * q 73) = a := by
  unfold addE
  rw [pt_n (by omega), pt_n (by omega), pt_n (by omega), pt_n (by omega), pt_s]
theorem addE_1 {q : Nat → Nat} {a b c d : Nat} (hn : q 73 < 4) : addE q a b c d (57 + 4 * q 73 + 1) = b := by
  unfold addE
  rw [pt_n (by omega), pt_n (by omega), pt_n (by omega), pt_s]
theorem addE_2 {q : Nat → Nat} {a b c d : Nat} (hn : q 73 < 4) : addE q a b c d (57 + 4 * q 73 + 2) = c := by
  unfold addE
  rw [pt_n (by omega), pt_n (by omega), pt_s]
theorem addE_3 {q : Nat → Nat} {a b c d : Nat} (hn : q 73 < 4) : addE q a b c d (57 + 4 * q 73 + 3) = d := by
  unfold addE
  rw [pt_n (by omega), pt_s]
theorem pt_le {q : Nat → Nat} {a v : Nat} (h : ∀ i, q i ≤ 10) (hv : v ≤ 10) : ∀ i, pt q a v i ≤ 10 := fun i => by
  have := h i
  unfold pt
  split <;> omega
theorem Gd_addT {q : Nat → Nat} {K a b c : Nat} (hG : Gd q K) (hn : q 25 < 4) (ha : a ≤ 9) (hb : b ≤ 2) (hc : c ≤ 9) : Gd (addT q a b c) K := by
  obtain ⟨h1, h2, h3, h4, h5, h6, h7, h8, h9, h10, h11⟩ := hG
  refine ⟨h1, pt_le (pt_le (pt_le (pt_le h2 (by omega)) (by omega)) (by omega)) (by omega), fun k hk => ?_, ?_, fun t ht => ?_, fun h hh => ?_, ?_, fun j hj => ?_, ?_, fun t ht => ?_, fun j hj => ?_⟩
  · rw [addT_o hn (by omega) (by omega), addT_o hn (by omega) (by omega)]; exact h3 k hk
  · rw [addT_25]; omega
  · rw [addT_25] at ht
    by_cases e : t = q 25
    · subst e
      rw [addT_0 hn, addT_1 hn, addT_2 hn]; omega
    · rw [addT_o hn (by omega) (by omega), addT_o hn (by omega) (by omega), addT_o hn (by omega) (by omega)]; exact h5 t (by omega)
  · rw [addT_o hn (by omega) (by omega)]; exact h6 h hh
  · rw [addT_o hn (by omega) (by omega)]; exact h7
  · rw [addT_o hn (by omega) (by omega)] at hj
    rw [addT_o hn (by omega) (by omega), addT_o hn (by omega) (by omega), addT_o hn (by omega) (by omega), addT_o hn (by omega) (by omega)]; exact h8 j hj
  · rw [addT_o hn (by omega) (by omega)]; exact h9
  · rw [addT_o hn (by omega) (by omega)] at ht
    rw [addT_o hn (by omega) (by omega), addT_o hn (by omega) (by omega), addT_o hn (by omega) (by omega), addT_o hn (by omega) (by omega)]; exact h10 t ht
  · rw [addT_o hn (by omega) (by omega)]; exact h11 j hj
theorem Gd_addW {q : Nat → Nat} {K a b c d : Nat} (hG : Gd q K) (hn : q 56 < 5) (ha : a < K) (hb : b ≤ c) (hc : c ≤ 9) (hd : 1 ≤ d) (hd2 : d ≤ 9) : Gd (addW q a b c d) K := by
  obtain ⟨h1, h2, h3, h4, h5, h6, h7, h8, h9, h10, h11⟩ := hG
  refine ⟨h1, pt_le (pt_le (pt_le (pt_le (pt_le h2 (by omega)) (by omega)) (by omega)) (by omega)) (by omega), fun k hk => ?_, ?_, fun t ht => ?_, fun h hh => ?_, ?_, fun j hj => ?_, ?_, fun t ht => ?_, fun j hj => ?_⟩
  · rw [addW_o (by omega) (by omega), addW_o (by omega) (by omega)]; exact h3 k hk
  · rw [addW_o (by omega) (by omega)]; exact h4
  · rw [addW_o (by omega) (by omega)] at ht
    rw [addW_o (by omega) (by omega), addW_o (by omega) (by omega), addW_o (by omega) (by omega)]; exact h5 t ht
  · rw [addW_o (by omega) (by omega)]; exact h6 h hh
  · rw [addW_56]; omega
  · rw [addW_56] at hj
    by_cases e : j = q 56
    · subst e
      rw [addW_0 hn, addW_1 hn, addW_2 hn, addW_3 hn]; omega
    · rw [addW_o (by omega) (by omega), addW_o (by omega) (by omega), addW_o (by omega) (by omega), addW_o (by omega) (by omega)]; exact h8 j (by omega)
  · rw [addW_o (by omega) (by omega)]; exact h9
  · rw [addW_o (by omega) (by omega)] at ht
    rw [addW_o (by omega) (by omega), addW_o (by omega) (by omega), addW_o (by omega) (by omega), addW_o (by omega) (by omega)]; exact h10 t ht
  · rw [addW_o (by omega) (by omega)]; exact h11 j hj
theorem Gd_addE {q : Nat → Nat} {K a b c d : Nat} (hG : Gd q K) (hn : q 73 < 4) (ha : a ≤ 9) (hb : b < K) (hc : c < K) (hd : d ≤ 2) : Gd (addE q a b c d) K := by
  obtain ⟨h1, h2, h3, h4, h5, h6, h7, h8, h9, h10, h11⟩ := hG
  refine ⟨h1, pt_le (pt_le (pt_le (pt_le (pt_le h2 (by omega)) (by omega)) (by omega)) (by omega)) (by omega), fun k hk => ?_, ?_, fun t ht => ?_, fun h hh => ?_, ?_, fun j hj => ?_, ?_, fun t ht => ?_, fun j hj => ?_⟩
  · rw [addE_o (by omega) (by omega), addE_o (by omega) (by omega)]; exact h3 k hk
  · rw [addE_o (by omega) (by omega)]; exact h4
  · rw [addE_o (by omega) (by omega)] at ht
    rw [addE_o (by omega) (by omega), addE_o (by omega) (by omega), addE_o (by omega) (by omega)]; exact h5 t ht
  · rw [addE_o (by omega) (by omega)]; exact h6 h hh
  · rw [addE_o (by omega) (by omega)]; exact h7
  · rw [addE_o (by omega) (by omega)] at hj
    rw [addE_o (by omega) (by omega), addE_o (by omega) (by omega), addE_o (by omega) (by omega), addE_o (by omega) (by omega)]; exact h8 j hj
  · rw [addE_73]; omega
  · rw [addE_73] at ht
    by_cases e : t = q 73
    · subst e
      rw [addE_0 hn, addE_1 hn, addE_2 hn, addE_3 hn]; omega
    · rw [addE_o (by omega) (by omega), addE_o (by omega) (by omega), addE_o (by omega) (by omega), addE_o (by omega) (by omega)]; exact h10 t (by omega)
  · rw [addE_o (by omega) (by omega)]; exact h11 j hj
