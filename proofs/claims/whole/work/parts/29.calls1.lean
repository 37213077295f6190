/-! calls that only look -/
theorem m_orN {M : Hx} {r : Nat} (h : r ≤ 10) : FX9_orNone (hm r) M = some (ho r, M) := by
  by_cases z : r = 0
  · have e : ¬ nI 0 ≤ mi 1 := by decide
    simp -dsimp -implicitDefEqProofs (disch := omega) only [bnd_u, gd_t, if_true, if_false, ↓reduceIte, eq_self, true_or, or_true, false_or, or_false, not_true_eq_false, not_false_eq_true, and_true, true_and, and_false, false_and, reduceCtorEq, nI_ge, nI_le, nI_lt, nI_nlt, nI_ne, nI_te, nm_eq, mn_eq, nm_le, mn_le, nm_lt, mn_lt, pk_mul, nI_add, pk_sub, nI_clamp, eX9_orNone, eX9_orNone_10, hm_0 z, ho_0 z, e]
  · simp -dsimp -implicitDefEqProofs (disch := omega) only [bnd_u, gd_t, if_true, if_false, ↓reduceIte, eq_self, true_or, or_true, false_or, or_false, not_true_eq_false, not_false_eq_true, and_true, true_and, and_false, false_and, reduceCtorEq, nI_ge, nI_le, nI_lt, nI_nlt, nI_ne, nI_te, nm_eq, mn_eq, nm_le, mn_le, nm_lt, mn_lt, pk_mul, nI_add, pk_sub, nI_clamp, eX9_orNone, eX9_orNone_10, hm_s (show 0 < r by omega), ho_s (show 0 < r by omega)]
theorem sim_rota (x : Int32) : Sim (FX8_rota 0 x) (FX9_rota 78 x) := by
  refine sim_ro (fun g q K hI => ?_)
  rcases in_of x (n := 10) (by omega) with hx | ⟨h, hh, rfl⟩
  · refine ⟨mi 1, same ?_, fun g1 hI1 _ => same ?_⟩
    · simp -dsimp -implicitDefEqProofs (disch := omega) only [bnd_u, gd_t, if_true, if_false, ↓reduceIte, eq_self, true_or, or_true, false_or, or_false, not_true_eq_false, not_false_eq_true, and_true, true_and, and_false, false_and, reduceCtorEq, nI_ge, nI_le, nI_lt, nI_nlt, nI_ne, nI_te, nm_eq, mn_eq, nm_le, mn_le, nm_lt, mn_lt, pk_mul, nI_add, pk_sub, nI_clamp, eX8_rota, eX8_rota_20, c_hrN hx]
    · simp -dsimp -implicitDefEqProofs (disch := omega) only [bnd_u, gd_t, if_true, if_false, ↓reduceIte, eq_self, true_or, or_true, false_or, or_false, not_true_eq_false, not_false_eq_true, and_true, true_and, and_false, false_and, reduceCtorEq, nI_ge, nI_le, nI_lt, nI_nlt, nI_ne, nI_te, nm_eq, mn_eq, nm_le, mn_le, nm_lt, mn_lt, pk_mul, nI_add, pk_sub, nI_clamp, eX9_rota, eX9_rota_19, m_hourN hx]
  · have hq := hI.G.q (26 + h)
    refine ⟨ho (q (26 + h)), same ?_, fun g1 hI1 _ => same ?_⟩
    · simp -dsimp -implicitDefEqProofs (disch := omega) only [bnd_u, gd_t, if_true, if_false, ↓reduceIte, eq_self, true_or, or_true, false_or, or_false, not_true_eq_false, not_false_eq_true, and_true, true_and, and_false, false_and, reduceCtorEq, nI_ge, nI_le, nI_lt, nI_nlt, nI_ne, nI_te, nm_eq, mn_eq, nm_le, mn_le, nm_lt, mn_lt, pk_mul, nI_add, pk_sub, nI_clamp, eX8_rota, eX8_rota_20, c_hr hh, hTop, hFam, hI.R h hh]
    · simp -dsimp -implicitDefEqProofs (disch := omega) only [bnd_u, gd_t, if_true, if_false, ↓reduceIte, eq_self, true_or, or_true, false_or, or_false, not_true_eq_false, not_false_eq_true, and_true, true_and, and_false, false_and, reduceCtorEq, nI_ge, nI_le, nI_lt, nI_nlt, nI_ne, nI_te, nm_eq, mn_eq, nm_le, mn_le, nm_lt, mn_lt, pk_mul, nI_add, pk_sub, nI_clamp, eX9_rota, eX9_rota_19, m_hour hh, hMo, m_has hI1.M hh, m_orN hq]
theorem sim_fault : Sim (FX8_fault 0) (FX9_fault 78) := by
  refine sim_ro (fun g q K hI => ?_)
  refine ⟨g 0 12, same ?_, fun g1 hI1 hf => same ?_⟩
  · simp -dsimp -implicitDefEqProofs (disch := omega) only [bnd_u, gd_t, if_true, if_false, ↓reduceIte, eq_self, true_or, or_true, false_or, or_false, not_true_eq_false, not_false_eq_true, and_true, true_and, and_false, false_and, reduceCtorEq, nI_ge, nI_le, nI_lt, nI_nlt, nI_ne, nI_te, nm_eq, mn_eq, nm_le, mn_le, nm_lt, mn_lt, pk_mul, nI_add, pk_sub, nI_clamp, eX8_fault, hTop]
  · have e : g1 78 11 = g 0 12 := by rw [hf 78 (by decide)]; exact hI.ft.1.symm
    simp -dsimp -implicitDefEqProofs (disch := omega) only [bnd_u, gd_t, if_true, if_false, ↓reduceIte, eq_self, true_or, or_true, false_or, or_false, not_true_eq_false, not_false_eq_true, and_true, true_and, and_false, false_and, reduceCtorEq, nI_ge, nI_le, nI_lt, nI_nlt, nI_ne, nI_te, nm_eq, mn_eq, nm_le, mn_le, nm_lt, mn_lt, pk_mul, nI_add, pk_sub, nI_clamp, eX9_fault, hMo, e]
theorem sim_torn : Sim (FX8_torn 0) (FX9_torn 78) := by
  refine sim_ro (fun g q K hI => ?_)
  refine ⟨g 0 13, same ?_, fun g1 hI1 hf => same ?_⟩
  · simp -dsimp -implicitDefEqProofs (disch := omega) only [bnd_u, gd_t, if_true, if_false, ↓reduceIte, eq_self, true_or, or_true, false_or, or_false, not_true_eq_false, not_false_eq_true, and_true, true_and, and_false, false_and, reduceCtorEq, nI_ge, nI_le, nI_lt, nI_nlt, nI_ne, nI_te, nm_eq, mn_eq, nm_le, mn_le, nm_lt, mn_lt, pk_mul, nI_add, pk_sub, nI_clamp, eX8_torn, hTop]
  · have e : g1 78 31 = g 0 13 := by rw [hf 78 (by decide)]; exact hI.ft.2.symm
    simp -dsimp -implicitDefEqProofs (disch := omega) only [bnd_u, gd_t, if_true, if_false, ↓reduceIte, eq_self, true_or, or_true, false_or, or_false, not_true_eq_false, not_false_eq_true, and_true, true_and, and_false, false_and, reduceCtorEq, nI_ge, nI_le, nI_lt, nI_nlt, nI_ne, nI_te, nm_eq, mn_eq, nm_le, mn_le, nm_lt, mn_lt, pk_mul, nI_add, pk_sub, nI_clamp, eX9_torn, hMo, e]
theorem rc11 : Rc 11 := rfl
theorem rc46 : Rc 46 := rfl
theorem sim_sees (x : Int32) : Sim (FX8_sees 0 x) (FX9_sees 78 x) := by
  refine sim_ro (fun g q K hI => ?_)
  rcases in_of x (n := 10) (by omega) with hx | ⟨h, hh, rfl⟩
  · refine ⟨mi 1, same ?_, fun g1 hI1 _ => same ?_⟩
    · simp -dsimp -implicitDefEqProofs (disch := omega) only [bnd_u, gd_t, if_true, if_false, ↓reduceIte, eq_self, true_or, or_true, false_or, or_false, not_true_eq_false, not_false_eq_true, and_true, true_and, and_false, false_and, reduceCtorEq, nI_ge, nI_le, nI_lt, nI_nlt, nI_ne, nI_te, nm_eq, mn_eq, nm_le, mn_le, nm_lt, mn_lt, pk_mul, nI_add, pk_sub, nI_clamp, eX8_sees, eX8_sees_26, c_hrN hx]
    · simp -dsimp -implicitDefEqProofs (disch := omega) only [bnd_u, gd_t, if_true, if_false, ↓reduceIte, eq_self, true_or, or_true, false_or, or_false, not_true_eq_false, not_false_eq_true, and_true, true_and, and_false, false_and, reduceCtorEq, nI_ge, nI_le, nI_lt, nI_nlt, nI_ne, nI_te, nm_eq, mn_eq, nm_le, mn_le, nm_lt, mn_lt, pk_mul, nI_add, pk_sub, nI_clamp, eX9_sees, eX9_sees_29, m_hourN hx]
  · refine ⟨sv q h, same ?_, fun g1 hI1 _ => same ?_⟩
    · simp -dsimp -implicitDefEqProofs (disch := omega) only [bnd_u, gd_t, if_true, if_false, ↓reduceIte, eq_self, true_or, or_true, false_or, or_false, not_true_eq_false, not_false_eq_true, and_true, true_and, and_false, false_and, reduceCtorEq, nI_ge, nI_le, nI_lt, nI_nlt, nI_ne, nI_te, nm_eq, mn_eq, nm_le, mn_le, nm_lt, mn_lt, pk_mul, nI_add, pk_sub, nI_clamp, eX8_sees, eX8_sees_26, c_hr hh, hTop, hFam, s_seer rc11 hI.F hI.G hI.R hh]
    · have hd := m_does hI1.M hI.G hh
      cases e : dsee q h <;> rw [e] at hd
      · have es : sv q h = mi 4 := by simp [sv, e]
        simp -dsimp -implicitDefEqProofs (disch := omega) only [bnd_u, gd_t, if_true, if_false, ↓reduceIte, eq_self, true_or, or_true, false_or, or_false, not_true_eq_false, not_false_eq_true, and_true, true_and, and_false, false_and, reduceCtorEq, nI_ge, nI_le, nI_lt, nI_nlt, nI_ne, nI_te, nm_eq, mn_eq, nm_le, mn_le, nm_lt, mn_lt, pk_mul, nI_add, pk_sub, nI_clamp, eX9_sees, eX9_sees_29, m_hour hh, hMo, hd, Bool.toNat_false, es]
      · have es : sv q h = nI (q (26 + h) - 1) := by simp [sv, e]
        have h1 := m_has hI1.M hh
        rw [hm_s (dsee_p e)] at h1
        simp -dsimp -implicitDefEqProofs (disch := omega) only [bnd_u, gd_t, if_true, if_false, ↓reduceIte, eq_self, true_or, or_true, false_or, or_false, not_true_eq_false, not_false_eq_true, and_true, true_and, and_false, false_and, reduceCtorEq, nI_ge, nI_le, nI_lt, nI_nlt, nI_ne, nI_te, nm_eq, mn_eq, nm_le, mn_le, nm_lt, mn_lt, pk_mul, nI_add, pk_sub, nI_clamp, eX9_sees, eX9_sees_29, m_hour hh, hMo, hd, h1, Bool.toNat_true, es]
theorem sim_thing (x y : Int32) : Sim (FX8_thing 0 x y) (FX9_thing 78 x y) := by
  refine sim_ro (fun g q K hI => ?_)
  rcases in_of x (n := 3) (by omega) with hx | ⟨i, hi, rfl⟩
  · refine ⟨mi 1, same ?_, fun g1 hI1 _ => same ?_⟩
    · simp -dsimp -implicitDefEqProofs (disch := omega) only [bnd_u, gd_t, if_true, if_false, ↓reduceIte, eq_self, true_or, or_true, false_or, or_false, not_true_eq_false, not_false_eq_true, and_true, true_and, and_false, false_and, reduceCtorEq, nI_ge, nI_le, nI_lt, nI_nlt, nI_ne, nI_te, nm_eq, mn_eq, nm_le, mn_le, nm_lt, mn_lt, pk_mul, nI_add, pk_sub, nI_clamp, eX8_thing, eX8_thing_20, c_thingN hx]
    · simp -dsimp -implicitDefEqProofs (disch := omega) only [bnd_u, gd_t, if_true, if_false, ↓reduceIte, eq_self, true_or, or_true, false_or, or_false, not_true_eq_false, not_false_eq_true, and_true, true_and, and_false, false_and, reduceCtorEq, nI_ge, nI_le, nI_lt, nI_nlt, nI_ne, nI_te, nm_eq, mn_eq, nm_le, mn_le, nm_lt, mn_lt, pk_mul, nI_add, pk_sub, nI_clamp, eX9_thing, eX9_thing_20, m_thingN hx]
  · by_cases hn : y = mi 4
    · subst hn
      refine ⟨nI (vl q i 0), same ?_, fun g1 hI1 _ => same ?_⟩
      · have hv := f_value (T := 0) hI.F hI.G hi (by omega)
        rw [show hT 0 = mi 4 from rfl] at hv
        simp -dsimp -implicitDefEqProofs (disch := omega) only [bnd_u, gd_t, if_true, if_false, ↓reduceIte, eq_self, true_or, or_true, false_or, or_false, not_true_eq_false, not_false_eq_true, and_true, true_and, and_false, false_and, reduceCtorEq, nI_ge, nI_le, nI_lt, nI_nlt, nI_ne, nI_te, nm_eq, mn_eq, nm_le, mn_le, nm_lt, mn_lt, pk_mul, nI_add, pk_sub, nI_clamp, eX8_thing, eX8_thing_22, c_thing hi, hTop, hFam, hv]
      · have hv := m_value (T := 0) hI1.M hI.G hi (by omega)
        rw [show hT 0 = mi 4 from rfl] at hv
        simp -dsimp -implicitDefEqProofs (disch := omega) only [bnd_u, gd_t, if_true, if_false, ↓reduceIte, eq_self, true_or, or_true, false_or, or_false, not_true_eq_false, not_false_eq_true, and_true, true_and, and_false, false_and, reduceCtorEq, nI_ge, nI_le, nI_lt, nI_nlt, nI_ne, nI_te, nm_eq, mn_eq, nm_le, mn_le, nm_lt, mn_lt, pk_mul, nI_add, pk_sub, nI_clamp, eX9_thing, eX9_thing_22, m_thing hi, hMo, hv]
    · rcases in_of y (n := 10) (by omega) with hy | ⟨h, hh, rfl⟩
      · refine ⟨mi 1, same ?_, fun g1 hI1 _ => same ?_⟩
        · simp -dsimp -implicitDefEqProofs (disch := omega) only [bnd_u, gd_t, if_true, if_false, ↓reduceIte, eq_self, true_or, or_true, false_or, or_false, not_true_eq_false, not_false_eq_true, and_true, true_and, and_false, false_and, reduceCtorEq, nI_ge, nI_le, nI_lt, nI_nlt, nI_ne, nI_te, nm_eq, mn_eq, nm_le, mn_le, nm_lt, mn_lt, pk_mul, nI_add, pk_sub, nI_clamp, eX8_thing, eX8_thing_20, c_thing hi, hn, c_hrN hy]
        · simp -dsimp -implicitDefEqProofs (disch := omega) only [bnd_u, gd_t, if_true, if_false, ↓reduceIte, eq_self, true_or, or_true, false_or, or_false, not_true_eq_false, not_false_eq_true, and_true, true_and, and_false, false_and, reduceCtorEq, nI_ge, nI_le, nI_lt, nI_nlt, nI_ne, nI_te, nm_eq, mn_eq, nm_le, mn_le, nm_lt, mn_lt, pk_mul, nI_add, pk_sub, nI_clamp, eX9_thing, eX9_thing_20, m_thing hi, hn, m_hourN hy]
      · refine ⟨nI (vl q i (h + 1)), same ?_, fun g1 hI1 _ => same ?_⟩
        · have hv := f_value (T := h + 1) hI.F hI.G hi (by omega)
          rw [hT_s] at hv
          simp -dsimp -implicitDefEqProofs (disch := omega) only [bnd_u, gd_t, if_true, if_false, ↓reduceIte, eq_self, true_or, or_true, false_or, or_false, not_true_eq_false, not_false_eq_true, and_true, true_and, and_false, false_and, reduceCtorEq, nI_ge, nI_le, nI_lt, nI_nlt, nI_ne, nI_te, nm_eq, mn_eq, nm_le, mn_le, nm_lt, mn_lt, pk_mul, nI_add, pk_sub, nI_clamp, eX8_thing, eX8_thing_22, c_thing hi, hn, c_hr hh, hTop, hFam, hv]
        · have hv := m_value (T := h + 1) hI1.M hI.G hi (by omega)
          rw [hT_s] at hv
          simp -dsimp -implicitDefEqProofs (disch := omega) only [bnd_u, gd_t, if_true, if_false, ↓reduceIte, eq_self, true_or, or_true, false_or, or_false, not_true_eq_false, not_false_eq_true, and_true, true_and, and_false, false_and, reduceCtorEq, nI_ge, nI_le, nI_lt, nI_nlt, nI_ne, nI_te, nm_eq, mn_eq, nm_le, mn_le, nm_lt, mn_lt, pk_mul, nI_add, pk_sub, nI_clamp, eX9_thing, eX9_thing_22, m_thing hi, hn, m_hour hh, hMo, hv]
theorem sim_turn (x y : Int32) : Sim (FX8_turn 0 x y) (FX9_turn 78 x y) := by
  refine sim_ro (fun g q K hI => ?_)
  have htn := hI.G.tn
  rcases in_of x (n := q 25) (by omega) with hx | ⟨i, hi, rfl⟩
  · refine ⟨mi 1, same ?_, fun g1 hI1 _ => same ?_⟩
    · simp -dsimp -implicitDefEqProofs (disch := omega) only [bnd_u, gd_t, if_true, if_false, ↓reduceIte, eq_self, true_or, or_true, false_or, or_false, not_true_eq_false, not_false_eq_true, and_true, true_and, and_false, false_and, reduceCtorEq, nI_ge, nI_le, nI_lt, nI_nlt, nI_ne, nI_te, nm_eq, mn_eq, nm_le, mn_le, nm_lt, mn_lt, pk_mul, nI_add, pk_sub, nI_clamp, eX8_turn, hTop, hFam, R_atN rw4 hI.F.2.2.2.1 hx]
    · simp -dsimp -implicitDefEqProofs (disch := omega) only [bnd_u, gd_t, if_true, if_false, ↓reduceIte, eq_self, true_or, or_true, false_or, or_false, not_true_eq_false, not_false_eq_true, and_true, true_and, and_false, false_and, reduceCtorEq, nI_ge, nI_le, nI_lt, nI_nlt, nI_ne, nI_te, nm_eq, mn_eq, nm_le, mn_le, nm_lt, mn_lt, pk_mul, nI_add, pk_sub, nI_clamp, eX9_turn, eX9_turn_47, eX9_turn_48, hMo, hI1.M.a, m_inN (M := mk g1) (show q 25 < 2 ^ 31 by omega) (hy_n1 (show q 25 < 2 ^ 30 by omega)) hx]
  · rcases in_of y (n := 3) (by omega) with hy | ⟨j, hj, rfl⟩
    · refine ⟨mi 1, same ?_, fun g1 hI1 _ => same ?_⟩
      · simp -dsimp -implicitDefEqProofs (disch := omega) only [bnd_u, gd_t, if_true, if_false, ↓reduceIte, eq_self, true_or, or_true, false_or, or_false, not_true_eq_false, not_false_eq_true, and_true, true_and, and_false, false_and, reduceCtorEq, nI_ge, nI_le, nI_lt, nI_nlt, nI_ne, nI_te, nm_eq, mn_eq, nm_le, mn_le, nm_lt, mn_lt, pk_mul, nI_add, pk_sub, nI_clamp, eX8_turn, hTop, hFam, R_atM rw4 hI.F.2.2.2.1 htn hi hy]
      · simp -dsimp -implicitDefEqProofs (disch := omega) only [bnd_u, gd_t, if_true, if_false, ↓reduceIte, eq_self, true_or, or_true, false_or, or_false, not_true_eq_false, not_false_eq_true, and_true, true_and, and_false, false_and, reduceCtorEq, nI_ge, nI_le, nI_lt, nI_nlt, nI_ne, nI_te, nm_eq, mn_eq, nm_le, mn_le, nm_lt, mn_lt, pk_mul, nI_add, pk_sub, nI_clamp, eX9_turn, eX9_turn_47, eX9_turn_48, hMo, hI1.M.a, nI_s1, nI_l, m_in, m_inN (M := mk g1) (y := lN 2) (show 3 < 2 ^ 31 by omega) (hy_l (by omega) (by omega)) hy]
    · refine ⟨nI (q (13 + 3 * i + j)), same ?_, fun g1 hI1 _ => same ?_⟩
      · simp -dsimp -implicitDefEqProofs (disch := omega) only [bnd_u, gd_t, if_true, if_false, ↓reduceIte, eq_self, true_or, or_true, false_or, or_false, not_true_eq_false, not_false_eq_true, and_true, true_and, and_false, false_and, reduceCtorEq, nI_ge, nI_le, nI_lt, nI_nlt, nI_ne, nI_te, nm_eq, mn_eq, nm_le, mn_le, nm_lt, mn_lt, pk_mul, nI_add, pk_sub, nI_clamp, eX8_turn, hTop, hFam, f_turn hI.F hI.G hi hj]
      · simp -dsimp -implicitDefEqProofs (disch := omega) only [bnd_u, gd_t, if_true, if_false, ↓reduceIte, eq_self, true_or, or_true, false_or, or_false, not_true_eq_false, not_false_eq_true, and_true, true_and, and_false, false_and, reduceCtorEq, nI_ge, nI_le, nI_lt, nI_nlt, nI_ne, nI_te, nm_eq, mn_eq, nm_le, mn_le, nm_lt, mn_lt, pk_mul, nI_add, pk_sub, nI_clamp, eX9_turn, eX9_turn_48, hMo, hI1.M.a, nI_s1, nI_l, m_in]
theorem sim_telling (x y : Int32) : Sim (FX8_telling 0 x y) (FX9_telling 78 x y) := by
  refine sim_ro (fun g q K hI => ?_)
  have htn := hI.G.en
  rcases in_of x (n := q 73) (by omega) with hx | ⟨i, hi, rfl⟩
  · refine ⟨mi 1, same ?_, fun g1 hI1 _ => same ?_⟩
    · simp -dsimp -implicitDefEqProofs (disch := omega) only [bnd_u, gd_t, if_true, if_false, ↓reduceIte, eq_self, true_or, or_true, false_or, or_false, not_true_eq_false, not_false_eq_true, and_true, true_and, and_false, false_and, reduceCtorEq, nI_ge, nI_le, nI_lt, nI_nlt, nI_ne, nI_te, nm_eq, mn_eq, nm_le, mn_le, nm_lt, mn_lt, pk_mul, nI_add, pk_sub, nI_clamp, eX8_telling, hTop, hFam, R_atN rw8 hI.F.2.2.2.2.2.2.2.1 hx]
    · simp -dsimp -implicitDefEqProofs (disch := omega) only [bnd_u, gd_t, if_true, if_false, ↓reduceIte, eq_self, true_or, or_true, false_or, or_false, not_true_eq_false, not_false_eq_true, and_true, true_and, and_false, false_and, reduceCtorEq, nI_ge, nI_le, nI_lt, nI_nlt, nI_ne, nI_te, nm_eq, mn_eq, nm_le, mn_le, nm_lt, mn_lt, pk_mul, nI_add, pk_sub, nI_clamp, eX9_telling, eX9_telling_47, eX9_telling_48, hMo, hI1.M.a, m_inN (M := mk g1) (show q 73 < 2 ^ 31 by omega) (hy_n1 (show q 73 < 2 ^ 30 by omega)) hx]
  · rcases in_of y (n := 4) (by omega) with hy | ⟨j, hj, rfl⟩
    · refine ⟨mi 1, same ?_, fun g1 hI1 _ => same ?_⟩
      · simp -dsimp -implicitDefEqProofs (disch := omega) only [bnd_u, gd_t, if_true, if_false, ↓reduceIte, eq_self, true_or, or_true, false_or, or_false, not_true_eq_false, not_false_eq_true, and_true, true_and, and_false, false_and, reduceCtorEq, nI_ge, nI_le, nI_lt, nI_nlt, nI_ne, nI_te, nm_eq, mn_eq, nm_le, mn_le, nm_lt, mn_lt, pk_mul, nI_add, pk_sub, nI_clamp, eX8_telling, hTop, hFam, R_atM rw8 hI.F.2.2.2.2.2.2.2.1 htn hi hy]
      · simp -dsimp -implicitDefEqProofs (disch := omega) only [bnd_u, gd_t, if_true, if_false, ↓reduceIte, eq_self, true_or, or_true, false_or, or_false, not_true_eq_false, not_false_eq_true, and_true, true_and, and_false, false_and, reduceCtorEq, nI_ge, nI_le, nI_lt, nI_nlt, nI_ne, nI_te, nm_eq, mn_eq, nm_le, mn_le, nm_lt, mn_lt, pk_mul, nI_add, pk_sub, nI_clamp, eX9_telling, eX9_telling_47, eX9_telling_48, hMo, hI1.M.a, nI_s1, nI_l, m_in, m_inN (M := mk g1) (y := lN 3) (show 4 < 2 ^ 31 by omega) (hy_l (by omega) (by omega)) hy]
    · refine ⟨nI (q (57 + 4 * i + j)), same ?_, fun g1 hI1 _ => same ?_⟩
      · simp -dsimp -implicitDefEqProofs (disch := omega) only [bnd_u, gd_t, if_true, if_false, ↓reduceIte, eq_self, true_or, or_true, false_or, or_false, not_true_eq_false, not_false_eq_true, and_true, true_and, and_false, false_and, reduceCtorEq, nI_ge, nI_le, nI_lt, nI_nlt, nI_ne, nI_te, nm_eq, mn_eq, nm_le, mn_le, nm_lt, mn_lt, pk_mul, nI_add, pk_sub, nI_clamp, eX8_telling, hTop, hFam, f_tell hI.F hI.G hi hj]
      · simp -dsimp -implicitDefEqProofs (disch := omega) only [bnd_u, gd_t, if_true, if_false, ↓reduceIte, eq_self, true_or, or_true, false_or, or_false, not_true_eq_false, not_false_eq_true, and_true, true_and, and_false, false_and, reduceCtorEq, nI_ge, nI_le, nI_lt, nI_nlt, nI_ne, nI_te, nm_eq, mn_eq, nm_le, mn_le, nm_lt, mn_lt, pk_mul, nI_add, pk_sub, nI_clamp, eX9_telling, eX9_telling_48, hMo, hI1.M.a, nI_s1, nI_l, m_in]
theorem sim_work (x y : Int32) : Sim (FX8_work 0 x y) (FX9_work 78 x y) := by
  refine sim_ro (fun g q K hI => ?_)
  have htn := hI.G.wn
  rcases in_of x (n := q 56) (by omega) with hx | ⟨i, hi, rfl⟩
  · refine ⟨mi 1, same ?_, fun g1 hI1 _ => same ?_⟩
    · by_cases h4 : y = nI 4
      · simp -dsimp -implicitDefEqProofs (disch := omega) only [bnd_u, gd_t, if_true, if_false, ↓reduceIte, eq_self, true_or, or_true, false_or, or_false, not_true_eq_false, not_false_eq_true, and_true, true_and, and_false, false_and, reduceCtorEq, nI_ge, nI_le, nI_lt, nI_nlt, nI_ne, nI_te, nm_eq, mn_eq, nm_le, mn_le, nm_lt, mn_lt, pk_mul, nI_add, pk_sub, nI_clamp, eX8_work, h4, hTop, hFam, R_hasN rw6 hI.F.2.2.2.2.2.1 hx]
      · simp -dsimp -implicitDefEqProofs (disch := omega) only [bnd_u, gd_t, if_true, if_false, ↓reduceIte, eq_self, true_or, or_true, false_or, or_false, not_true_eq_false, not_false_eq_true, and_true, true_and, and_false, false_and, reduceCtorEq, nI_ge, nI_le, nI_lt, nI_nlt, nI_ne, nI_te, nm_eq, mn_eq, nm_le, mn_le, nm_lt, mn_lt, pk_mul, nI_add, pk_sub, nI_clamp, eX8_work, h4, hTop, hFam, R_atN rw6 hI.F.2.2.2.2.2.1 hx]
    · simp -dsimp -implicitDefEqProofs (disch := omega) only [bnd_u, gd_t, if_true, if_false, ↓reduceIte, eq_self, true_or, or_true, false_or, or_false, not_true_eq_false, not_false_eq_true, and_true, true_and, and_false, false_and, reduceCtorEq, nI_ge, nI_le, nI_lt, nI_nlt, nI_ne, nI_te, nm_eq, mn_eq, nm_le, mn_le, nm_lt, mn_lt, pk_mul, nI_add, pk_sub, nI_clamp, eX9_work, eX9_work_31, hMo, hI1.M.a, m_inN (M := mk g1) (show q 56 < 2 ^ 31 by omega) (hy_n1 (show q 56 < 2 ^ 30 by omega)) hx]
  · rcases in_of y (n := 5) (by omega) with hy | ⟨j, hj, rfl⟩
    · refine ⟨mi 1, same ?_, fun g1 hI1 _ => same ?_⟩
      · have hy4 : y < nI 0 ∨ (¬ y < nI 0 ∧ nI 4 ≤ y) := by
          rcases hy with h | ⟨h, h2⟩
          · exact Or.inl h
          · exact Or.inr ⟨h, fa_of_nlt (fun h3 => (fa_of_lt (fa_trans h3 (nI_le (show 4 ≤ 5 by omega) (by omega)))).2.1 h2)⟩
        simp -dsimp -implicitDefEqProofs (disch := omega) only [bnd_u, gd_t, if_true, if_false, ↓reduceIte, eq_self, true_or, or_true, false_or, or_false, not_true_eq_false, not_false_eq_true, and_true, true_and, and_false, false_and, reduceCtorEq, nI_ge, nI_le, nI_lt, nI_nlt, nI_ne, nI_te, nm_eq, mn_eq, nm_le, mn_le, nm_lt, mn_lt, pk_mul, nI_add, pk_sub, nI_clamp, eX8_work, ne_out hy (show 4 < 5 by omega) (by omega), hTop, hFam, R_atM rw6 hI.F.2.2.2.2.2.1 htn hi hy4]
      · simp -dsimp -implicitDefEqProofs (disch := omega) only [bnd_u, gd_t, if_true, if_false, ↓reduceIte, eq_self, true_or, or_true, false_or, or_false, not_true_eq_false, not_false_eq_true, and_true, true_and, and_false, false_and, reduceCtorEq, nI_ge, nI_le, nI_lt, nI_nlt, nI_ne, nI_te, nm_eq, mn_eq, nm_le, mn_le, nm_lt, mn_lt, pk_mul, nI_add, pk_sub, nI_clamp, eX9_work, eX9_work_31, hMo, hI1.M.a, nI_s1, nI_l, m_in, m_inN (M := mk g1) (y := lN 4) (show 5 < 2 ^ 31 by omega) (hy_l (by omega) (by omega)) hy]
    · by_cases h4 : j = 4
      · subst h4
        obtain ⟨g1, e1, f1, l1⟩ := s_look rc11 (by decide) hI.F hI.G hI.R
        refine ⟨nI (dn q i).toNat, some1 (g1 := g1) ?_ f1 (by decide), fun g1 hI1 _ => same ?_⟩
        · have hd := s_done (hI.F.f f1 (by decide)) hI.G l1 hi
          cases e : dn q i <;> rw [e] at hd
          · simp -dsimp -implicitDefEqProofs (disch := omega) only [bnd_u, gd_t, if_true, if_false, ↓reduceIte, eq_self, true_or, or_true, false_or, or_false, not_true_eq_false, not_false_eq_true, and_true, true_and, and_false, false_and, reduceCtorEq, nI_ge, nI_le, nI_lt, nI_nlt, nI_ne, nI_te, nm_eq, mn_eq, nm_le, mn_le, nm_lt, mn_lt, pk_mul, nI_add, pk_sub, nI_clamp, eX8_work, eX8_work_72, hTop, hFam, hSee, R_has rw6 hI.F.2.2.2.2.2.1 htn hi, e1, hd, Bool.toNat_false]
          · simp -dsimp -implicitDefEqProofs (disch := omega) only [bnd_u, gd_t, if_true, if_false, ↓reduceIte, eq_self, true_or, or_true, false_or, or_false, not_true_eq_false, not_false_eq_true, and_true, true_and, and_false, false_and, reduceCtorEq, nI_ge, nI_le, nI_lt, nI_nlt, nI_ne, nI_te, nm_eq, mn_eq, nm_le, mn_le, nm_lt, mn_lt, pk_mul, nI_add, pk_sub, nI_clamp, eX8_work, eX8_work_72, hTop, hFam, hSee, R_has rw6 hI.F.2.2.2.2.2.1 htn hi, e1, hd, Bool.toNat_true]
        · have hs := m_seeing hI1.M hI.G
          have hd := m_done hI1.M hI.G hi (msk_31 (dsee q) (show 10 ≤ 30 by omega))
          rw [show dnm q i (msk (dsee q) 10) = dn q i from rfl] at hd
          cases e : dn q i <;> rw [e] at hd
          · simp -dsimp -implicitDefEqProofs (disch := omega) only [bnd_u, gd_t, if_true, if_false, ↓reduceIte, eq_self, true_or, or_true, false_or, or_false, not_true_eq_false, not_false_eq_true, and_true, true_and, and_false, false_and, reduceCtorEq, nI_ge, nI_le, nI_lt, nI_nlt, nI_ne, nI_te, nm_eq, mn_eq, nm_le, mn_le, nm_lt, mn_lt, pk_mul, nI_add, pk_sub, nI_clamp, eX9_work, eX9_work_71, hMo, hI1.M.a, nI_s1, nI_l, m_in, hs, hd, Bool.toNat_false]
          · simp -dsimp -implicitDefEqProofs (disch := omega) only [bnd_u, gd_t, if_true, if_false, ↓reduceIte, eq_self, true_or, or_true, false_or, or_false, not_true_eq_false, not_false_eq_true, and_true, true_and, and_false, false_and, reduceCtorEq, nI_ge, nI_le, nI_lt, nI_nlt, nI_ne, nI_te, nm_eq, mn_eq, nm_le, mn_le, nm_lt, mn_lt, pk_mul, nI_add, pk_sub, nI_clamp, eX9_work, eX9_work_71, hMo, hI1.M.a, nI_s1, nI_l, m_in, hs, hd, Bool.toNat_true]
      · refine ⟨nI (q (36 + 4 * i + j)), same ?_, fun g1 hI1 _ => same ?_⟩
        · simp -dsimp -implicitDefEqProofs (disch := omega) only [bnd_u, gd_t, if_true, if_false, ↓reduceIte, eq_self, true_or, or_true, false_or, or_false, not_true_eq_false, not_false_eq_true, and_true, true_and, and_false, false_and, reduceCtorEq, nI_ge, nI_le, nI_lt, nI_nlt, nI_ne, nI_te, nm_eq, mn_eq, nm_le, mn_le, nm_lt, mn_lt, pk_mul, nI_add, pk_sub, nI_clamp, eX8_work, hTop, hFam, f_work hI.F hI.G hi (show j < 4 by omega)]
        · simp -dsimp -implicitDefEqProofs (disch := omega) only [bnd_u, gd_t, if_true, if_false, ↓reduceIte, eq_self, true_or, or_true, false_or, or_false, not_true_eq_false, not_false_eq_true, and_true, true_and, and_false, false_and, reduceCtorEq, nI_ge, nI_le, nI_lt, nI_nlt, nI_ne, nI_te, nm_eq, mn_eq, nm_le, mn_le, nm_lt, mn_lt, pk_mul, nI_add, pk_sub, nI_clamp, eX9_work, eX9_work_71, hMo, hI1.M.a, nI_s1, nI_l, m_in]
theorem sim_done (x : Int32) : Sim (FX8_done 0 x) (FX9_done 78 x) := by
  refine sim_ro (fun g q K hI => ?_)
  have hwn := hI.G.wn
  have md : ∀ g1, Iv g1 q K → FX9_doneBy 78 (nI (msk (dsee q) 10)) (mk g1) = some (nI (msk (dn q) (q 56)), mk g1) := fun g1 hI1 => m_doneBy hI1.M hI.G (msk_31 (dsee q) (show 10 ≤ 30 by omega))
  rcases in_of x (n := 2) (by omega) with hx | ⟨h, hh, rfl⟩
  · refine ⟨mi 1, same ?_, fun g1 hI1 _ => same ?_⟩
    · simp -dsimp -implicitDefEqProofs (disch := omega) only [bnd_u, gd_t, if_true, if_false, ↓reduceIte, eq_self, true_or, or_true, false_or, or_false, not_true_eq_false, not_false_eq_true, and_true, true_and, and_false, false_and, reduceCtorEq, nI_ge, nI_le, nI_lt, nI_nlt, nI_ne, nI_te, nm_eq, mn_eq, nm_le, mn_le, nm_lt, mn_lt, pk_mul, nI_add, pk_sub, nI_clamp, eX8_done, c_flagN hx]
    · simp -dsimp -implicitDefEqProofs (disch := omega) only [bnd_u, gd_t, if_true, if_false, ↓reduceIte, eq_self, true_or, or_true, false_or, or_false, not_true_eq_false, not_false_eq_true, and_true, true_and, and_false, false_and, reduceCtorEq, nI_ge, nI_le, nI_lt, nI_nlt, nI_ne, nI_te, nm_eq, mn_eq, nm_le, mn_le, nm_lt, mn_lt, pk_mul, nI_add, pk_sub, nI_clamp, eX9_done, eX9_done_31, hMo, m_seeing hI1.M hI.G, md g1 hI1, ne_out hx (show 0 < 2 by omega) (by omega), ne_out hx (show 1 < 2 by omega) (by omega)]
  · obtain ⟨g1, e1, f1, l1⟩ := s_look rc11 (by decide) hI.F hI.G hI.R
    have hF1 := hI.F.f f1 (by decide)
    rcases (show h = 0 ∨ h = 1 by omega) with rfl | rfl
    · refine ⟨nI (msk (dn q) (q 56)), some1 (g1 := g1) ?_ f1 (by decide), fun g1 hI1 _ => same ?_⟩
      · simp -dsimp -implicitDefEqProofs (disch := omega) only [bnd_u, gd_t, if_true, if_false, ↓reduceIte, eq_self, true_or, or_true, false_or, or_false, not_true_eq_false, not_false_eq_true, and_true, true_and, and_false, false_and, reduceCtorEq, nI_ge, nI_le, nI_lt, nI_nlt, nI_ne, nI_te, nm_eq, mn_eq, nm_le, mn_le, nm_lt, mn_lt, pk_mul, nI_add, pk_sub, nI_clamp, eX8_done, eX8_done_56, c_flag hh, hTop, hFam, hSee, e1, s_pieces hF1 hI.G l1]
      · simp -dsimp -implicitDefEqProofs (disch := omega) only [bnd_u, gd_t, if_true, if_false, ↓reduceIte, eq_self, true_or, or_true, false_or, or_false, not_true_eq_false, not_false_eq_true, and_true, true_and, and_false, false_and, reduceCtorEq, nI_ge, nI_le, nI_lt, nI_nlt, nI_ne, nI_te, nm_eq, mn_eq, nm_le, mn_le, nm_lt, mn_lt, pk_mul, nI_add, pk_sub, nI_clamp, eX9_done, eX9_done_31, hMo, m_seeing hI1.M hI.G, md g1 hI1]
    · refine ⟨nI (wn q), some1 (g1 := g1) ?_ f1 (by decide), fun g1 hI1 _ => same ?_⟩
      · simp -dsimp -implicitDefEqProofs (disch := omega) only [bnd_u, gd_t, if_true, if_false, ↓reduceIte, eq_self, true_or, or_true, false_or, or_false, not_true_eq_false, not_false_eq_true, and_true, true_and, and_false, false_and, reduceCtorEq, nI_ge, nI_le, nI_lt, nI_nlt, nI_ne, nI_te, nm_eq, mn_eq, nm_le, mn_le, nm_lt, mn_lt, pk_mul, nI_add, pk_sub, nI_clamp, eX8_done, eX8_done_56, c_flag hh, hTop, hFam, hSee, e1, s_worth hF1 hI.G l1]
      · have hw := m_worth (m := msk (dn q) (q 56)) hI1.M hI.G (msk_31 _ (by omega))
        rw [wr_dn] at hw
        simp -dsimp -implicitDefEqProofs (disch := omega) only [bnd_u, gd_t, if_true, if_false, ↓reduceIte, eq_self, true_or, or_true, false_or, or_false, not_true_eq_false, not_false_eq_true, and_true, true_and, and_false, false_and, reduceCtorEq, nI_ge, nI_le, nI_lt, nI_nlt, nI_ne, nI_te, nm_eq, mn_eq, nm_le, mn_le, nm_lt, mn_lt, pk_mul, nI_add, pk_sub, nI_clamp, eX9_done, eX9_done_31, hMo, m_seeing hI1.M hI.G, md g1 hI1, hw]
