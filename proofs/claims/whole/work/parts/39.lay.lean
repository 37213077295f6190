/-! lay -/
theorem sx8 (v : Int32) : o_i2b v = (v <<< (nI 24 &&& nI 31)) >>> (nI 24 &&& nI 31) := by
  apply Int32.toBitVec_inj.mp
  have hs : ((nI 24 &&& nI 31).toBitVec.smod 32).toNat = 24 := by decide
  rw [Int32.toBitVec_shiftRight, Int32.toBitVec_shiftLeft]
  show (v.toBitVec.signExtend 8).signExtend 32 = (v.toBitVec <<< ((nI 24 &&& nI 31).toBitVec.smod 32).toNat).sshiftRight ((nI 24 &&& nI 31).toBitVec.smod 32).toNat
  rw [hs]
  apply BitVec.eq_of_getLsbD_eq
  intro i hi
  rw [BitVec.getLsbD_signExtend, BitVec.getLsbD_sshiftRight]
  simp only [BitVec.msb_eq_getLsbD_last, BitVec.getLsbD_signExtend, BitVec.getLsbD_shiftLeft, hi, decide_true, Bool.true_and]
  by_cases h8 : i < 8
  · have h9 : i < 32 := hi
    simp [h8, show 24 + i < 32 by omega, show ¬ 24 + i < 24 by omega, show 24 + i - 24 = i by omega, show ¬ 32 ≤ i by omega]
    try omega
  · simp [h8, show ¬ 24 + i < 32 by omega, show ¬ 32 ≤ i by omega]
    try omega
theorem sx16 (v : Int32) : o_i2s v = (v <<< (nI 16 &&& nI 31)) >>> (nI 16 &&& nI 31) := by
  apply Int32.toBitVec_inj.mp
  have hs : ((nI 16 &&& nI 31).toBitVec.smod 32).toNat = 16 := by decide
  rw [Int32.toBitVec_shiftRight, Int32.toBitVec_shiftLeft]
  show (v.toBitVec.signExtend 16).signExtend 32 = (v.toBitVec <<< ((nI 16 &&& nI 31).toBitVec.smod 32).toNat).sshiftRight ((nI 16 &&& nI 31).toBitVec.smod 32).toNat
  rw [hs]
  apply BitVec.eq_of_getLsbD_eq
  intro i hi
  rw [BitVec.getLsbD_signExtend, BitVec.getLsbD_sshiftRight]
  simp only [BitVec.msb_eq_getLsbD_last, BitVec.getLsbD_signExtend, BitVec.getLsbD_shiftLeft, hi, decide_true, Bool.true_and]
  by_cases h8 : i < 16
  · have h9 : i < 32 := hi
    simp [h8, show 16 + i < 32 by omega, show ¬ 16 + i < 16 by omega, show 16 + i - 16 = i by omega, show ¬ 32 ≤ i by omega]
    try omega
  · simp [h8, show ¬ 16 + i < 32 by omega, show ¬ 32 ≤ i by omega]
    try omega
theorem p_fault0 {g : Gg} {po pc : Nat} {x : Int32} (hP : Pgx po pc) (h : g po 2 = mi 4) : FX3_faultAt po x (mk g) = some (nI 1, mk g) := by
  simp -dsimp -implicitDefEqProofs (disch := omega) only [bnd_u, gd_t, if_true, if_false, ↓reduceIte, eq_self, true_or, or_true, false_or, or_false, not_true_eq_false, not_false_eq_true, and_true, true_and, and_false, false_and, reduceCtorEq, nI_ge, nI_le, nI_lt, nI_nlt, nI_ne, nI_te, nm_eq, mn_eq, nm_le, mn_le, nm_lt, mn_lt, pk_mul, nI_add, pk_sub, nI_clamp, eX3_faultAt, hP.i2, h]
theorem p_faultN {g : Gg} {po pc n : Nat} {x : Int32} (hP : Pgx po pc) (h : g po 2 = nI n) (hn : n ≤ 40) (hx : x < nI 0 ∨ (¬ x < nI 0 ∧ nI n ≤ x)) : FX3_faultAt po x (mk g) = some (nI 2, mk g) := by
  rcases hx with hx | ⟨hx, hx2⟩
  · simp -dsimp -implicitDefEqProofs (disch := omega) only [bnd_u, gd_t, if_true, if_false, ↓reduceIte, eq_self, true_or, or_true, false_or, or_false, not_true_eq_false, not_false_eq_true, and_true, true_and, and_false, false_and, reduceCtorEq, nI_ge, nI_le, nI_lt, nI_nlt, nI_ne, nI_te, nm_eq, mn_eq, nm_le, mn_le, nm_lt, mn_lt, pk_mul, nI_add, pk_sub, nI_clamp, eX3_faultAt, eX3_faultAt_23, eX3_faultAt_28, hP.i2, h, hx]
  · have h3 : ¬ x < nI n := fun h4 => (fa_of_lt h4).2.1 hx2
    simp -dsimp -implicitDefEqProofs (disch := omega) only [bnd_u, gd_t, if_true, if_false, ↓reduceIte, eq_self, true_or, or_true, false_or, or_false, not_true_eq_false, not_false_eq_true, and_true, true_and, and_false, false_and, reduceCtorEq, nI_ge, nI_le, nI_lt, nI_nlt, nI_ne, nI_te, nm_eq, mn_eq, nm_le, mn_le, nm_lt, mn_lt, pk_mul, nI_add, pk_sub, nI_clamp, eX3_faultAt, eX3_faultAt_23, eX3_faultAt_28, hP.i2, h, hx, h3]
theorem p_fault {g : Gg} {po pc n i : Nat} (hP : Pgx po pc) (h : g po 2 = nI n) (hn : n ≤ 40) (hi : i < n) : FX3_faultAt po (nI i) (mk g) = some (nI 0, mk g) := by
  simp -dsimp -implicitDefEqProofs (disch := omega) only [bnd_u, gd_t, if_true, if_false, ↓reduceIte, eq_self, true_or, or_true, false_or, or_false, not_true_eq_false, not_false_eq_true, and_true, true_and, and_false, false_and, reduceCtorEq, nI_ge, nI_le, nI_lt, nI_nlt, nI_ne, nI_te, nm_eq, mn_eq, nm_le, mn_le, nm_lt, mn_lt, pk_mul, nI_add, pk_sub, nI_clamp, eX3_faultAt, eX3_faultAt_28, hP.i2, h]
theorem sim_lay (x y z : Int32) : Sim (FX8_lay 0 x y z) (FX9_lay 78 x y z) := by
  intro g q K hI
  rcases in_of x (n := 4) (by omega) with hx | ⟨k, hk, rfl⟩
  · refine ⟨mi 1, g, g, q, K, ?_, ?_, hI⟩
    · simp -dsimp -implicitDefEqProofs (disch := omega) only [bnd_u, gd_t, if_true, if_false, ↓reduceIte, eq_self, true_or, or_true, false_or, or_false, not_true_eq_false, not_false_eq_true, and_true, true_and, and_false, false_and, reduceCtorEq, nI_ge, nI_le, nI_lt, nI_nlt, nI_ne, nI_te, nm_eq, mn_eq, nm_le, mn_le, nm_lt, mn_lt, pk_mul, nI_add, pk_sub, nI_clamp, eX8_lay, c_sheetN hx]
    · have hin := m_0nN (M := mk g) (n := 4) (by omega) (by omega) hx
      simp -dsimp -implicitDefEqProofs (disch := omega) only [bnd_u, gd_t, if_true, if_false, ↓reduceIte, eq_self, true_or, or_true, false_or, or_false, not_true_eq_false, not_false_eq_true, and_true, true_and, and_false, false_and, reduceCtorEq, nI_ge, nI_le, nI_lt, nI_nlt, nI_ne, nI_te, nm_eq, mn_eq, nm_le, mn_le, nm_lt, mn_lt, pk_mul, nI_add, pk_sub, nI_clamp, eX9_lay, hin]
  · have hP := pgk hk
    have hin : ∀ G : Gg, FX9_in (nI k).toInt64 (lN 0) (lN 3) (mk G) = some (nI 1, mk G) := fun G => m_0n (M := mk G) (n := 4) hk (by omega)
    rcases Sh_at hI.sh hk with ⟨h1, h2⟩ | ⟨l, n, h1, h2, h3, h4, h5, h6, h7⟩
    · refine ⟨mi 11, g, g, q, K, ?_, ?_, hI⟩
      · have e : mi 10 - nI 1 = mi 11 := by decide
        simp -dsimp -implicitDefEqProofs (disch := omega) only [bnd_u, gd_t, if_true, if_false, ↓reduceIte, eq_self, true_or, or_true, false_or, or_false, not_true_eq_false, not_false_eq_true, and_true, true_and, and_false, false_and, reduceCtorEq, nI_ge, nI_le, nI_lt, nI_nlt, nI_ne, nI_te, nm_eq, mn_eq, nm_le, mn_le, nm_lt, mn_lt, pk_mul, nI_add, pk_sub, nI_clamp, eX8_lay, c_sheet hk, hTop, ark hk, hP.k, p_fault0 hP h1, e]
      · simp -dsimp -implicitDefEqProofs (disch := omega) only [bnd_u, gd_t, if_true, if_false, ↓reduceIte, eq_self, true_or, or_true, false_or, or_false, not_true_eq_false, not_false_eq_true, and_true, true_and, and_false, false_and, reduceCtorEq, nI_ge, nI_le, nI_lt, nI_nlt, nI_ne, nI_te, nm_eq, mn_eq, nm_le, mn_le, nm_lt, mn_lt, pk_mul, nI_add, pk_sub, nI_clamp, eX9_lay, hin, hMo, h2]
    · rcases in_of y (n := n) (by omega) with hy | ⟨i, hi, rfl⟩
      · refine ⟨mi 12, g, g, q, K, ?_, ?_, hI⟩
        · have e : mi 10 - nI 2 = mi 12 := by decide
          simp -dsimp -implicitDefEqProofs (disch := omega) only [bnd_u, gd_t, if_true, if_false, ↓reduceIte, eq_self, true_or, or_true, false_or, or_false, not_true_eq_false, not_false_eq_true, and_true, true_and, and_false, false_and, reduceCtorEq, nI_ge, nI_le, nI_lt, nI_nlt, nI_ne, nI_te, nm_eq, mn_eq, nm_le, mn_le, nm_lt, mn_lt, pk_mul, nI_add, pk_sub, nI_clamp, eX8_lay, c_sheet hk, hTop, ark hk, hP.k, p_faultN hP h4 h2 hy, e]
        · simp -dsimp -implicitDefEqProofs (disch := omega) only [bnd_u, gd_t, if_true, if_false, ↓reduceIte, eq_self, true_or, or_true, false_or, or_false, not_true_eq_false, not_false_eq_true, and_true, true_and, and_false, false_and, reduceCtorEq, nI_ge, nI_le, nI_lt, nI_nlt, nI_ne, nI_te, nm_eq, mn_eq, nm_le, mn_le, nm_lt, mn_lt, pk_mul, nI_add, pk_sub, nI_clamp, eX9_lay, hin, hMo, h5, h6, m_inN (M := mk g) (show n < 2 ^ 31 by omega) (hy_n1 (show n < 2 ^ 30 by omega)) hy]
      · obtain ⟨v, ev⟩ : ∃ v, v = (if l = 0 then (z <<< (nI 24 &&& nI 31)) >>> (nI 24 &&& nI 31) else if l = 1 then (z <<< (nI 16 &&& nI 31)) >>> (nI 16 &&& nI 31) else z) := ⟨_, rfl⟩
        have ff : Fr [71 + 2 * k, 93] g (up (up g (71 + 2 * k) i v) 93 (40 * k + i) v) := (Fr.c (l := [71 + 2 * k, 93]) (by simp)).tr (Fr.c (l := [71 + 2 * k, 93]) (by simp)) (fun c hc => ⟨hc, hc⟩)
        refine ⟨nI 1, up g (71 + 2 * k) i v, up (up g (71 + 2 * k) i v) 93 (40 * k + i) v, q, K, ?_, ?_, hI.ish ff (by intro c hc; simp only [List.mem_cons, List.not_mem_nil, or_false] at hc; simp only [scr, List.mem_append, List.mem_cons, List.not_mem_nil, or_false]; omega) (Sh_of (fun k' hk' => ?_))⟩
        · rcases (show l = 0 ∨ l = 1 ∨ l = 2 by omega) with rfl | rfl | rfl
          · rw [if_pos rfl] at ev
            subst ev
            simp -dsimp -implicitDefEqProofs (disch := omega) only [bnd_u, gd_t, if_true, if_false, ↓reduceIte, eq_self, true_or, or_true, false_or, or_false, not_true_eq_false, not_false_eq_true, and_true, true_and, and_false, false_and, reduceCtorEq, nI_ge, nI_le, nI_lt, nI_nlt, nI_ne, nI_te, nm_eq, mn_eq, nm_le, mn_le, nm_lt, mn_lt, pk_mul, nI_add, pk_sub, nI_clamp, eX8_lay, c_sheet hk, hTop, ark hk, hP.k, p_fault hP h4 h2 hi, eX3_putCell, eX3_putCell_43, eX3_putCell_44, hP.i2, hP.r, hP.i1, h4, h3, hP.s, sx8]
          · rw [if_neg (by decide), if_pos rfl] at ev
            subst ev
            simp -dsimp -implicitDefEqProofs (disch := omega) only [bnd_u, gd_t, if_true, if_false, ↓reduceIte, eq_self, true_or, or_true, false_or, or_false, not_true_eq_false, not_false_eq_true, and_true, true_and, and_false, false_and, reduceCtorEq, nI_ge, nI_le, nI_lt, nI_nlt, nI_ne, nI_te, nm_eq, mn_eq, nm_le, mn_le, nm_lt, mn_lt, pk_mul, nI_add, pk_sub, nI_clamp, eX8_lay, c_sheet hk, hTop, ark hk, hP.k, p_fault hP h4 h2 hi, eX3_putCell, eX3_putCell_43, eX3_putCell_44, hP.i2, hP.r, hP.i1, h4, h3, hP.s, sx16]
          · rw [if_neg (by decide), if_neg (by decide)] at ev
            subst ev
            simp -dsimp -implicitDefEqProofs (disch := omega) only [bnd_u, gd_t, if_true, if_false, ↓reduceIte, eq_self, true_or, or_true, false_or, or_false, not_true_eq_false, not_false_eq_true, and_true, true_and, and_false, false_and, reduceCtorEq, nI_ge, nI_le, nI_lt, nI_nlt, nI_ne, nI_te, nm_eq, mn_eq, nm_le, mn_le, nm_lt, mn_lt, pk_mul, nI_add, pk_sub, nI_clamp, eX8_lay, c_sheet hk, hTop, ark hk, hP.k, p_fault hP h4 h2 hi, eX3_putCell, eX3_putCell_43, eX3_putCell_44, hP.i2, hP.r, hP.i1, h4, h3, hP.s]
        · have w5 : up g (71 + 2 * k) i v 91 k = nI l := by rw [up_n (by omega)]; exact h5
          have w6 : up g (71 + 2 * k) i v 92 k = nI n := by rw [up_n (by omega)]; exact h6
          rcases (show l = 0 ∨ l = 1 ∨ l = 2 by omega) with rfl | rfl | rfl
          · rw [if_pos rfl] at ev
            subst ev
            simp -dsimp -implicitDefEqProofs (disch := omega) only [bnd_u, gd_t, if_true, if_false, ↓reduceIte, eq_self, true_or, or_true, false_or, or_false, not_true_eq_false, not_false_eq_true, and_true, true_and, and_false, false_and, reduceCtorEq, nI_ge, nI_le, nI_lt, nI_nlt, nI_ne, nI_te, nm_eq, mn_eq, nm_le, mn_le, nm_lt, mn_lt, pk_mul, nI_add, pk_sub, nI_clamp, eX9_lay, eX9_lay_99, hin, hMo, w5, w6, nI_s1, nI_l, m_in]
          · rw [if_neg (by decide), if_pos rfl] at ev
            subst ev
            simp -dsimp -implicitDefEqProofs (disch := omega) only [bnd_u, gd_t, if_true, if_false, ↓reduceIte, eq_self, true_or, or_true, false_or, or_false, not_true_eq_false, not_false_eq_true, and_true, true_and, and_false, false_and, reduceCtorEq, nI_ge, nI_le, nI_lt, nI_nlt, nI_ne, nI_te, nm_eq, mn_eq, nm_le, mn_le, nm_lt, mn_lt, pk_mul, nI_add, pk_sub, nI_clamp, eX9_lay, eX9_lay_99, hin, hMo, w5, w6, nI_s1, nI_l, m_in]
          · rw [if_neg (by decide), if_neg (by decide)] at ev
            subst ev
            simp -dsimp -implicitDefEqProofs (disch := omega) only [bnd_u, gd_t, if_true, if_false, ↓reduceIte, eq_self, true_or, or_true, false_or, or_false, not_true_eq_false, not_false_eq_true, and_true, true_and, and_false, false_and, reduceCtorEq, nI_ge, nI_le, nI_lt, nI_nlt, nI_ne, nI_te, nm_eq, mn_eq, nm_le, mn_le, nm_lt, mn_lt, pk_mul, nI_add, pk_sub, nI_clamp, eX9_lay, eX9_lay_99, hin, hMo, w5, w6, nI_s1, nI_l, m_in]
        · by_cases e : k' = k
          · subst e
            refine Or.inr ⟨l, n, h1, h2, ?_, ?_, ?_, ?_, fun j hj => ?_⟩
            · rw [up_n (by omega), up_n (by omega)]; exact h3
            · rw [up_n (by omega), up_n (by omega)]; exact h4
            · rw [up_n (by decide), up_n (by omega)]; exact h5
            · rw [up_n (by decide), up_n (by omega)]; exact h6
            · rw [up_n (show 71 + 2 * k' ≠ 93 by omega), up_c, up_c, up_n (show 93 ≠ 71 + 2 * k' by omega)]
              by_cases ej : j = i
              · rw [ej, pk_us, pk_us]
              · rw [pk_un ej, pk_un (by omega)]; exact h7 j hj
          · rw [ff (70 + 2 * k') (by simp <;> omega), ff (71 + 2 * k') (by simp <;> omega), ff 91 (by simp <;> omega), ff 92 (by simp <;> omega)]
            rcases Sh_at hI.sh hk' with h | ⟨l', n', a1, a2, a3, a4, a5, a6, a7⟩
            · exact Or.inl h
            · refine Or.inr ⟨l', n', a1, a2, a3, a4, a5, a6, fun j hj => ?_⟩
              rw [up_c, pk_un (by omega), up_n (by omega)]; exact a7 j hj
