/-! what comes behind: change, assign, tell, see, feed -/
def xs4 (a b c d : Int32) : Nat → Int32 := fun j => if j = 0 then a else if j = 1 then b else if j = 2 then c else d
theorem F1_addT {g g' : Gg} {q : Nat → Nat} {K a b c : Nat} {x : Nat → Int32} (hF : F1 g q K) (hG : Gd q K) (hn : q 25 < 4) (hf : Fr [4, 5] g g') (h3 : g' 4 3 = nI (q 25 + 1)) (hx : ∀ j, j < 3 → g' 5 (q 25 * 3 + j) = x j) (ho : ∀ i, i < q 25 * 3 → g' 5 i = g 5 i) (x0 : x 0 = nI a) (x1 : x 1 = nI b) (x2 : x 2 = nI c) : F1 g' (addT q a b c) K := by
  have hK := hG.K
  obtain ⟨h1, h2, h3', h4, h5, h6, h7, h8, h9, h10⟩ := hF
  unfold F1
  rw [hf 2 (by decide), hf 3 (by decide), hf 6 (by decide), hf 7 (by decide), hf 8 (by decide), hf 9 (by decide), hf 10 (by decide)]
  refine ⟨h1, fun k hk => ?_, fun k hk => ?_, ?_, fun t j ht hj => ?_, ?_, fun t j ht hj => ?_, ?_, fun t j ht hj => ?_, fun j hj => ?_⟩
  · rw [addT_o hn (by omega) (by omega)]; exact h2 k hk
  · rw [addT_o hn (by omega) (by omega)]; exact h3' k hk
  · rw [addT_25]; exact h3
  · rw [addT_25] at ht
    by_cases e : t = q 25
    · subst e
      rw [hx j hj]
      rcases (show j = 0 ∨ j = 1 ∨ j = 2 by omega) with rfl | rfl | rfl
      · rw [Nat.add_zero, addT_0 hn]; exact x0
      · rw [addT_1 hn]; exact x1
      · rw [addT_2 hn]; exact x2
    · rw [ho _ (by omega), addT_o hn (by omega) (by omega)]; exact h5 t j (by omega) hj
  · rw [addT_o hn (by omega) (by omega)]; exact h6
  · rw [addT_o hn (by omega) (by omega)] at ht
    rw [addT_o hn (by omega) (by omega)]; exact h7 t j ht hj
  · rw [addT_o hn (by omega) (by omega)]; exact h8
  · rw [addT_o hn (by omega) (by omega)] at ht
    rw [addT_o hn (by omega) (by omega)]; exact h9 t j ht hj
  · rw [addT_o hn (by omega) (by omega)]; exact h10 j hj
theorem F1_addW {g g' : Gg} {q : Nat → Nat} {K a b c d : Nat} {x : Nat → Int32} (hF : F1 g q K) (hG : Gd q K) (hn : q 56 < 5) (hf : Fr [6, 7] g g') (h3 : g' 6 3 = nI (q 56 + 1)) (hx : ∀ j, j < 4 → g' 7 (q 56 * 4 + j) = x j) (ho : ∀ i, i < q 56 * 4 → g' 7 i = g 7 i) (x0 : x 0 = nI a) (x1 : x 1 = nI b) (x2 : x 2 = nI c) (x3 : x 3 = nI d) : F1 g' (addW q a b c d) K := by
  have hK := hG.K
  have htn := hG.tn
  obtain ⟨h1, h2, h3', h4, h5, h6, h7, h8, h9, h10⟩ := hF
  unfold F1
  rw [hf 2 (by decide), hf 3 (by decide), hf 4 (by decide), hf 5 (by decide), hf 8 (by decide), hf 9 (by decide), hf 10 (by decide)]
  refine ⟨h1, fun k hk => ?_, fun k hk => ?_, ?_, fun t j ht hj => ?_, ?_, fun t j ht hj => ?_, ?_, fun t j ht hj => ?_, fun j hj => ?_⟩
  · rw [addW_o (by omega) (by omega)]; exact h2 k hk
  · rw [addW_o (by omega) (by omega)]; exact h3' k hk
  · rw [addW_o (by omega) (by omega)]; exact h4
  · rw [addW_o (by omega) (by omega)] at ht
    rw [addW_o (by omega) (by omega)]; exact h5 t j ht hj
  · rw [addW_56]; exact h3
  · rw [addW_56] at ht
    by_cases e : t = q 56
    · subst e
      rw [hx j hj]
      rcases (show j = 0 ∨ j = 1 ∨ j = 2 ∨ j = 3 by omega) with rfl | rfl | rfl | rfl
      · rw [Nat.add_zero, addW_0 hn]; exact x0
      · rw [addW_1 hn]; exact x1
      · rw [addW_2 hn]; exact x2
      · rw [addW_3 hn]; exact x3
    · rw [ho _ (by omega), addW_o (by omega) (by omega)]; exact h7 t j (by omega) hj
  · rw [addW_o (by omega) (by omega)]; exact h8
  · rw [addW_o (by omega) (by omega)] at ht
    rw [addW_o (by omega) (by omega)]; exact h9 t j ht hj
  · rw [addW_o (by omega) (by omega)]; exact h10 j hj
theorem F1_addE {g g' : Gg} {q : Nat → Nat} {K a b c d : Nat} {x : Nat → Int32} (hF : F1 g q K) (hG : Gd q K) (hn : q 73 < 4) (hf : Fr [8, 9] g g') (h3 : g' 8 3 = nI (q 73 + 1)) (hx : ∀ j, j < 4 → g' 9 (q 73 * 4 + j) = x j) (ho : ∀ i, i < q 73 * 4 → g' 9 i = g 9 i) (x0 : x 0 = nI a) (x1 : x 1 = nI b) (x2 : x 2 = nI c) (x3 : x 3 = nI d) : F1 g' (addE q a b c d) K := by
  have hK := hG.K
  have htn := hG.tn
  have hwn := hG.wn
  obtain ⟨h1, h2, h3', h4, h5, h6, h7, h8, h9, h10⟩ := hF
  unfold F1
  rw [hf 2 (by decide), hf 3 (by decide), hf 4 (by decide), hf 5 (by decide), hf 6 (by decide), hf 7 (by decide), hf 10 (by decide)]
  refine ⟨h1, fun k hk => ?_, fun k hk => ?_, ?_, fun t j ht hj => ?_, ?_, fun t j ht hj => ?_, ?_, fun t j ht hj => ?_, fun j hj => ?_⟩
  · rw [addE_o (by omega) (by omega)]; exact h2 k hk
  · rw [addE_o (by omega) (by omega)]; exact h3' k hk
  · rw [addE_o (by omega) (by omega)]; exact h4
  · rw [addE_o (by omega) (by omega)] at ht
    rw [addE_o (by omega) (by omega)]; exact h5 t j ht hj
  · rw [addE_o (by omega) (by omega)]; exact h6
  · rw [addE_o (by omega) (by omega)] at ht
    rw [addE_o (by omega) (by omega)]; exact h7 t j ht hj
  · rw [addE_73]; exact h3
  · rw [addE_73] at ht
    by_cases e : t = q 73
    · subst e
      rw [hx j hj]
      rcases (show j = 0 ∨ j = 1 ∨ j = 2 ∨ j = 3 by omega) with rfl | rfl | rfl | rfl
      · rw [Nat.add_zero, addE_0 hn]; exact x0
      · rw [addE_1 hn]; exact x1
      · rw [addE_2 hn]; exact x2
      · rw [addE_3 hn]; exact x3
    · rw [ho _ (by omega), addE_o (by omega) (by omega)]; exact h9 t j (by omega) hj
  · rw [addE_o (by omega) (by omega)]; exact h10 j hj
theorem Ro_o {c : Nat → Int32} {q p : Nat → Nat} (h : Ro c q) (hp : ∀ i, i < 10 → p (26 + i) = q (26 + i)) : Ro c p := fun i hi => by rw [hp i hi]; exact h i hi
theorem Fr79 {g : Gg} {a : Nat} {x : Int32} : Fr [79] g (up g 79 a x) := Fr.c (by decide)
theorem Fr79t {g g1 : Gg} {a : Nat} {x : Int32} (h : Fr [79] g g1) : Fr [79] g (up g1 79 a x) := h.tr Fr79 (fun c hc => ⟨hc, hc⟩)
theorem sim_change (x y z : Int32) : Sim (FX8_change 0 x y z) (FX9_change 78 x y z) := by
  intro g q K hI
  have htn := hI.G.tn
  rcases in_of x (n := 10) (by omega) with hx | ⟨a, ha, rfl⟩
  · refine ⟨mi 1, g, g, q, K, ?_, ?_, hI⟩
    · simp -dsimp -implicitDefEqProofs (disch := omega) only [bnd_u, gd_t, if_true, if_false, ↓reduceIte, eq_self, true_or, or_true, false_or, or_false, not_true_eq_false, not_false_eq_true, and_true, true_and, and_false, false_and, reduceCtorEq, nI_ge, nI_le, nI_lt, nI_nlt, nI_ne, nI_te, nm_eq, mn_eq, nm_le, mn_le, nm_lt, mn_lt, pk_mul, nI_add, pk_sub, nI_clamp, eX8_change, eX8_change_21, c_hrN hx]
    · simp -dsimp -implicitDefEqProofs (disch := omega) only [bnd_u, gd_t, if_true, if_false, ↓reduceIte, eq_self, true_or, or_true, false_or, or_false, not_true_eq_false, not_false_eq_true, and_true, true_and, and_false, false_and, reduceCtorEq, nI_ge, nI_le, nI_lt, nI_nlt, nI_ne, nI_te, nm_eq, mn_eq, nm_le, mn_le, nm_lt, mn_lt, pk_mul, nI_add, pk_sub, nI_clamp, eX9_change, eX9_change_26, m_hourN hx]
  · rcases in_of y (n := 3) (by omega) with hy | ⟨b, hb, rfl⟩
    · refine ⟨mi 1, g, g, q, K, ?_, ?_, hI⟩
      · simp -dsimp -implicitDefEqProofs (disch := omega) only [bnd_u, gd_t, if_true, if_false, ↓reduceIte, eq_self, true_or, or_true, false_or, or_false, not_true_eq_false, not_false_eq_true, and_true, true_and, and_false, false_and, reduceCtorEq, nI_ge, nI_le, nI_lt, nI_nlt, nI_ne, nI_te, nm_eq, mn_eq, nm_le, mn_le, nm_lt, mn_lt, pk_mul, nI_add, pk_sub, nI_clamp, eX8_change, eX8_change_21, c_hr ha, c_thingN hy]
      · simp -dsimp -implicitDefEqProofs (disch := omega) only [bnd_u, gd_t, if_true, if_false, ↓reduceIte, eq_self, true_or, or_true, false_or, or_false, not_true_eq_false, not_false_eq_true, and_true, true_and, and_false, false_and, reduceCtorEq, nI_ge, nI_le, nI_lt, nI_nlt, nI_ne, nI_te, nm_eq, mn_eq, nm_le, mn_le, nm_lt, mn_lt, pk_mul, nI_add, pk_sub, nI_clamp, eX9_change, eX9_change_26, m_hour ha, m_thingN hy]
    · rcases in_of z (n := 10) (by omega) with hz | ⟨c, hc, rfl⟩
      · refine ⟨mi 1, g, g, q, K, ?_, ?_, hI⟩
        · simp -dsimp -implicitDefEqProofs (disch := omega) only [bnd_u, gd_t, if_true, if_false, ↓reduceIte, eq_self, true_or, or_true, false_or, or_false, not_true_eq_false, not_false_eq_true, and_true, true_and, and_false, false_and, reduceCtorEq, nI_ge, nI_le, nI_lt, nI_nlt, nI_ne, nI_te, nm_eq, mn_eq, nm_le, mn_le, nm_lt, mn_lt, pk_mul, nI_add, pk_sub, nI_clamp, eX8_change, eX8_change_21, c_hr ha, c_thing hb, c_valueN hz]
        · have hin := m_0nN (M := mk g) (n := 10) (by omega) (by omega) hz
          simp -dsimp -implicitDefEqProofs (disch := omega) only [bnd_u, gd_t, if_true, if_false, ↓reduceIte, eq_self, true_or, or_true, false_or, or_false, not_true_eq_false, not_false_eq_true, and_true, true_and, and_false, false_and, reduceCtorEq, nI_ge, nI_le, nI_lt, nI_nlt, nI_ne, nI_te, nm_eq, mn_eq, nm_le, mn_le, nm_lt, mn_lt, pk_mul, nI_add, pk_sub, nI_clamp, eX9_change, eX9_change_26, m_hour ha, m_thing hb, hin]
      · by_cases hn : q 25 = 4
        · have h3 := hI.F.2.2.2.1
          rw [hn] at h3
          refine ⟨mi 3, g, g, q, K, ?_, ?_, hI⟩
          · simp -dsimp -implicitDefEqProofs (disch := omega) only [bnd_u, gd_t, if_true, if_false, ↓reduceIte, eq_self, true_or, or_true, false_or, or_false, not_true_eq_false, not_false_eq_true, and_true, true_and, and_false, false_and, reduceCtorEq, nI_ge, nI_le, nI_lt, nI_nlt, nI_ne, nI_te, nm_eq, mn_eq, nm_le, mn_le, nm_lt, mn_lt, pk_mul, nI_add, pk_sub, nI_clamp, eX8_change, c_hr ha, c_thing hb, c_value hc, hTop, hFam, R_full rw4 h3]
          · have hin := m_0n (M := mk g) hc (by omega)
            simp -dsimp -implicitDefEqProofs (disch := omega) only [bnd_u, gd_t, if_true, if_false, ↓reduceIte, eq_self, true_or, or_true, false_or, or_false, not_true_eq_false, not_false_eq_true, and_true, true_and, and_false, false_and, reduceCtorEq, nI_ge, nI_le, nI_lt, nI_nlt, nI_ne, nI_te, nm_eq, mn_eq, nm_le, mn_le, nm_lt, mn_lt, pk_mul, nI_add, pk_sub, nI_clamp, eX9_change, m_hour ha, m_thing hb, hin, hMo, hI.M.a]
        · have hn4 : q 25 < 4 := by omega
          obtain ⟨g1, e1, f1, a1, b1, c1⟩ := R_add (x := xs4 (nI a) (nI b) (nI c) (nI 0)) rw4 hI.F.2.2.2.1 hn4
          have e1' : FX6_add 4 (nI a) (nI b) (nI c) (nI 0) (mk g) = some (nI (q 25 + 1), mk g1) := e1
          have hM1 := hI.M.f f1 (by decide)
          have m1 := Ms_pt (a := 13 + 3 * q 25) (v := a) hM1 (by omega)
          have m2 := Ms_pt (a := 13 + 3 * q 25 + 1) (v := b) m1 (by omega)
          have m3 := Ms_pt (a := 13 + 3 * q 25 + 2) (v := c) m2 (by omega)
          have m4 := Ms_pt (a := 25) (v := q 25 + 1) m3 (by omega)
          have r3 := m3.a 25 (by omega)
          rw [pt_n (by omega), pt_n (by omega), pt_n (by omega)] at r3
          have r4 := m4.a 25 (by omega)
          rw [pt_s] at r4
          refine ⟨nI (q 25 + 1), g1, _, addT q a b c, K, ?_, ?_, hI.pg (f1.tr (Fr79t (Fr79t (Fr79t Fr79))) (l := [4, 5, 79]) (by simp <;> omega)) (by decide) (Gd_addT hI.G hn4 (by omega) (by omega) (by omega)) ((F1_addT hI.F hI.G hn4 f1 a1 b1 c1 rfl rfl rfl).f (Fr79t (Fr79t (Fr79t Fr79))) (by decide)) ?_ m4.2 ?_⟩
          · simp -dsimp -implicitDefEqProofs (disch := omega) only [bnd_u, gd_t, if_true, if_false, ↓reduceIte, eq_self, true_or, or_true, false_or, or_false, not_true_eq_false, not_false_eq_true, and_true, true_and, and_false, false_and, reduceCtorEq, nI_ge, nI_le, nI_lt, nI_nlt, nI_ne, nI_te, nm_eq, mn_eq, nm_le, mn_le, nm_lt, mn_lt, pk_mul, nI_add, pk_sub, nI_clamp, eX8_change, c_hr ha, c_thing hb, c_value hc, hTop, hFam, e1']
          · have hin := m_0n (M := mk g1) hc (by omega)
            simp -dsimp -implicitDefEqProofs (disch := omega) only [bnd_u, gd_t, if_true, if_false, ↓reduceIte, eq_self, true_or, or_true, false_or, or_false, not_true_eq_false, not_false_eq_true, and_true, true_and, and_false, false_and, reduceCtorEq, nI_ge, nI_le, nI_lt, nI_nlt, nI_ne, nI_te, nm_eq, mn_eq, nm_le, mn_le, nm_lt, mn_lt, pk_mul, nI_add, pk_sub, nI_clamp, eX9_change, m_hour ha, m_thing hb, hin, hMo, hM1.a, r3, r4]
          · rw [up_n (by decide), up_n (by decide), up_n (by decide), up_n (by decide), f1 11 (by decide)]
            exact Ro_o hI.R (fun i hi => addT_o hn4 (by omega) (by omega))
          · intro j hj _
            rw [up_c, pk_un (by omega), up_c, pk_un (by omega), up_c, pk_un (by omega), up_c, pk_un (by omega), f1 79 (by decide)]
theorem sim_assign (x y z w : Int32) : Sim (FX8_assign 0 x y z w) (FX9_assign 78 x y z w) := by
  intro g q K hI
  have hwn := hI.G.wn
  have hK := hI.G.K
  rcases in_of x (n := K) (by omega) with hx | ⟨a, ha, rfl⟩
  · refine ⟨mi 1, g, g, q, K, ?_, ?_, hI⟩
    · simp -dsimp -implicitDefEqProofs (disch := omega) only [bnd_u, gd_t, if_true, if_false, ↓reduceIte, eq_self, true_or, or_true, false_or, or_false, not_true_eq_false, not_false_eq_true, and_true, true_and, and_false, false_and, reduceCtorEq, nI_ge, nI_le, nI_lt, nI_nlt, nI_ne, nI_te, nm_eq, mn_eq, nm_le, mn_le, nm_lt, mn_lt, pk_mul, nI_add, pk_sub, nI_clamp, eX8_assign, eX8_assign_43, hTop, hFam, f_oneN hI.F hx]
    · simp -dsimp -implicitDefEqProofs (disch := omega) only [bnd_u, gd_t, if_true, if_false, ↓reduceIte, eq_self, true_or, or_true, false_or, or_false, not_true_eq_false, not_false_eq_true, and_true, true_and, and_false, false_and, reduceCtorEq, nI_ge, nI_le, nI_lt, nI_nlt, nI_ne, nI_te, nm_eq, mn_eq, nm_le, mn_le, nm_lt, mn_lt, pk_mul, nI_add, pk_sub, nI_clamp, eX9_assign, eX9_assign_41, hMo, m_oneN hI.M hK hx]
  · rcases in_of y (n := 10) (by omega) with hy | ⟨b, hb, rfl⟩
    · refine ⟨mi 1, g, g, q, K, ?_, ?_, hI⟩
      · simp -dsimp -implicitDefEqProofs (disch := omega) only [bnd_u, gd_t, if_true, if_false, ↓reduceIte, eq_self, true_or, or_true, false_or, or_false, not_true_eq_false, not_false_eq_true, and_true, true_and, and_false, false_and, reduceCtorEq, nI_ge, nI_le, nI_lt, nI_nlt, nI_ne, nI_te, nm_eq, mn_eq, nm_le, mn_le, nm_lt, mn_lt, pk_mul, nI_add, pk_sub, nI_clamp, eX8_assign, eX8_assign_43, hTop, hFam, f_one hI.F hI.G ha, c_hrN hy]
      · simp -dsimp -implicitDefEqProofs (disch := omega) only [bnd_u, gd_t, if_true, if_false, ↓reduceIte, eq_self, true_or, or_true, false_or, or_false, not_true_eq_false, not_false_eq_true, and_true, true_and, and_false, false_and, reduceCtorEq, nI_ge, nI_le, nI_lt, nI_nlt, nI_ne, nI_te, nm_eq, mn_eq, nm_le, mn_le, nm_lt, mn_lt, pk_mul, nI_add, pk_sub, nI_clamp, eX9_assign, eX9_assign_41, hMo, m_one hI.M hK ha, m_hourN hy]
    · by_cases hz : ∃ c, b ≤ c ∧ c < 10 ∧ z = nI c
      · obtain ⟨c, hbc, hc, rfl⟩ := hz
        by_cases hw : ∃ d, 1 ≤ d ∧ d ≤ 9 ∧ w = nI d
        · obtain ⟨d, hd, hd9, rfl⟩ := hw
          by_cases hn : q 56 = 5
          · have h3 := hI.F.2.2.2.2.2.1
            rw [hn] at h3
            refine ⟨mi 3, g, g, q, K, ?_, ?_, hI⟩
            · simp -dsimp -implicitDefEqProofs (disch := omega) only [bnd_u, gd_t, if_true, if_false, ↓reduceIte, eq_self, true_or, or_true, false_or, or_false, not_true_eq_false, not_false_eq_true, and_true, true_and, and_false, false_and, reduceCtorEq, nI_ge, nI_le, nI_lt, nI_nlt, nI_ne, nI_te, nm_eq, mn_eq, nm_le, mn_le, nm_lt, mn_lt, pk_mul, nI_add, pk_sub, nI_clamp, eX8_assign, hTop, hFam, f_one hI.F hI.G ha, c_hr hb, c_hr hc, R_full rw6 h3]
            · simp -dsimp -implicitDefEqProofs (disch := omega) only [bnd_u, gd_t, if_true, if_false, ↓reduceIte, eq_self, true_or, or_true, false_or, or_false, not_true_eq_false, not_false_eq_true, and_true, true_and, and_false, false_and, reduceCtorEq, nI_ge, nI_le, nI_lt, nI_nlt, nI_ne, nI_te, nm_eq, mn_eq, nm_le, mn_le, nm_lt, mn_lt, pk_mul, nI_add, pk_sub, nI_clamp, eX9_assign, hMo, m_one hI.M hK ha, m_hour hb, nI_l, m_in, hI.M.a]
          · have hn5 : q 56 < 5 := by omega
            obtain ⟨g1, e1, f1, a1, b1, c1⟩ := R_add (x := xs4 (nI a) (nI b) (nI c) (nI d)) rw6 hI.F.2.2.2.2.2.1 hn5
            have e1' : FX6_add 6 (nI a) (nI b) (nI c) (nI d) (mk g) = some (nI (q 56 + 1), mk g1) := e1
            have hM1 := hI.M.f f1 (by decide)
            have m1 := Ms_pt (a := 36 + 4 * q 56) (v := a) hM1 (by omega)
            have m2 := Ms_pt (a := 36 + 4 * q 56 + 1) (v := b) m1 (by omega)
            have m3 := Ms_pt (a := 36 + 4 * q 56 + 2) (v := c) m2 (by omega)
            have m4 := Ms_pt (a := 36 + 4 * q 56 + 3) (v := d) m3 (by omega)
            have m5 := Ms_pt (a := 56) (v := q 56 + 1) m4 (by omega)
            have r4 := m4.a 56 (by omega)
            rw [pt_n (by omega), pt_n (by omega), pt_n (by omega), pt_n (by omega)] at r4
            have r5 := m5.a 56 (by omega)
            rw [pt_s] at r5
            refine ⟨nI (q 56 + 1), g1, _, addW q a b c d, K, ?_, ?_, hI.pg (f1.tr (Fr79t (Fr79t (Fr79t (Fr79t Fr79)))) (l := [6, 7, 79]) (by simp <;> omega)) (by decide) (Gd_addW hI.G hn5 ha hbc (by omega) hd hd9) ((F1_addW hI.F hI.G hn5 f1 a1 b1 c1 rfl rfl rfl rfl).f (Fr79t (Fr79t (Fr79t (Fr79t Fr79)))) (by decide)) ?_ m5.2 ?_⟩
            · simp -dsimp -implicitDefEqProofs (disch := omega) only [bnd_u, gd_t, if_true, if_false, ↓reduceIte, eq_self, true_or, or_true, false_or, or_false, not_true_eq_false, not_false_eq_true, and_true, true_and, and_false, false_and, reduceCtorEq, nI_ge, nI_le, nI_lt, nI_nlt, nI_ne, nI_te, nm_eq, mn_eq, nm_le, mn_le, nm_lt, mn_lt, pk_mul, nI_add, pk_sub, nI_clamp, eX8_assign, hTop, hFam, f_one hI.F hI.G ha, c_hr hb, c_hr hc, e1']
            · simp -dsimp -implicitDefEqProofs (disch := omega) only [bnd_u, gd_t, if_true, if_false, ↓reduceIte, eq_self, true_or, or_true, false_or, or_false, not_true_eq_false, not_false_eq_true, and_true, true_and, and_false, false_and, reduceCtorEq, nI_ge, nI_le, nI_lt, nI_nlt, nI_ne, nI_te, nm_eq, mn_eq, nm_le, mn_le, nm_lt, mn_lt, pk_mul, nI_add, pk_sub, nI_clamp, eX9_assign, hMo, m_one hM1 hK ha, m_hour hb, nI_l, m_in, hM1.a, r4, r5]
            · rw [up_n (by decide), up_n (by decide), up_n (by decide), up_n (by decide), up_n (by decide), f1 11 (by decide)]
              exact Ro_o hI.R (fun i hi => addW_o (by omega) (by omega))
            · intro j hj _
              rw [up_c, pk_un (by omega), up_c, pk_un (by omega), up_c, pk_un (by omega), up_c, pk_un (by omega), up_c, pk_un (by omega), f1 79 (by decide)]
        · have hwl : w < nI 1 ∨ ¬ w ≤ nI 9 := by
            rcases in_of w (n := 10) (by omega) with h | ⟨j, hj, rfl⟩
            · rcases h with h | ⟨-, h⟩
              · exact Or.inl (fa_trans h (nI_le (by omega) (by omega)))
              · exact Or.inr (fa_of_lt (lt_of_le10 h (show 9 < 10 by omega) (by omega))).2.1
            · by_cases j0 : j = 0
              · exact Or.inl (nI_lt (by omega) (by omega))
              · exact absurd ⟨j, by omega, by omega, rfl⟩ hw
          have hin : FX9_in w.toInt64 (lN 1) (lN 9) (mk g) = some (nI 0, mk g) := by
            rcases hwl with h | h
            · apply m_inL
              rw [fa_lt64, Int32.toInt_toInt64, pk_lT (by decide)]
              rw [fa_lt, nI_toInt (by decide)] at h
              exact h
            · apply m_inH
              rw [fa_lt64, Int32.toInt_toInt64, pk_lT (by decide)]
              rw [fa_le, nI_toInt (by decide)] at h
              omega
          refine ⟨mi 1, g, g, q, K, ?_, ?_, hI⟩
          · rcases hwl with h | h
            · simp -dsimp -implicitDefEqProofs (disch := omega) only [bnd_u, gd_t, if_true, if_false, ↓reduceIte, eq_self, true_or, or_true, false_or, or_false, not_true_eq_false, not_false_eq_true, and_true, true_and, and_false, false_and, reduceCtorEq, nI_ge, nI_le, nI_lt, nI_nlt, nI_ne, nI_te, nm_eq, mn_eq, nm_le, mn_le, nm_lt, mn_lt, pk_mul, nI_add, pk_sub, nI_clamp, eX8_assign, eX8_assign_43, hTop, hFam, f_one hI.F hI.G ha, c_hr hb, c_hr hc, h]
            · by_cases h1 : w < nI 1
              · simp -dsimp -implicitDefEqProofs (disch := omega) only [bnd_u, gd_t, if_true, if_false, ↓reduceIte, eq_self, true_or, or_true, false_or, or_false, not_true_eq_false, not_false_eq_true, and_true, true_and, and_false, false_and, reduceCtorEq, nI_ge, nI_le, nI_lt, nI_nlt, nI_ne, nI_te, nm_eq, mn_eq, nm_le, mn_le, nm_lt, mn_lt, pk_mul, nI_add, pk_sub, nI_clamp, eX8_assign, eX8_assign_43, hTop, hFam, f_one hI.F hI.G ha, c_hr hb, c_hr hc, h1]
              · simp -dsimp -implicitDefEqProofs (disch := omega) only [bnd_u, gd_t, if_true, if_false, ↓reduceIte, eq_self, true_or, or_true, false_or, or_false, not_true_eq_false, not_false_eq_true, and_true, true_and, and_false, false_and, reduceCtorEq, nI_ge, nI_le, nI_lt, nI_nlt, nI_ne, nI_te, nm_eq, mn_eq, nm_le, mn_le, nm_lt, mn_lt, pk_mul, nI_add, pk_sub, nI_clamp, eX8_assign, eX8_assign_43, hTop, hFam, f_one hI.F hI.G ha, c_hr hb, c_hr hc, h1, h]
          · simp -dsimp -implicitDefEqProofs (disch := omega) only [bnd_u, gd_t, if_true, if_false, ↓reduceIte, eq_self, true_or, or_true, false_or, or_false, not_true_eq_false, not_false_eq_true, and_true, true_and, and_false, false_and, reduceCtorEq, nI_ge, nI_le, nI_lt, nI_nlt, nI_ne, nI_te, nm_eq, mn_eq, nm_le, mn_le, nm_lt, mn_lt, pk_mul, nI_add, pk_sub, nI_clamp, eX9_assign, eX9_assign_41, hMo, m_one hI.M hK ha, m_hour hb, nI_l, m_in, hin]
      · have hin : FX9_in z.toInt64 (lN b) (lN 9) (mk g) = some (nI 0, mk g) := by
          rcases in_of z (n := 10) (by omega) with h | ⟨j, hj, rfl⟩
          · rcases h with h | ⟨-, h⟩
            · apply m_inL
              rw [fa_lt64, Int32.toInt_toInt64, pk_lT (by omega)]
              rw [fa_lt, nI_toInt (by decide)] at h
              omega
            · apply m_inH
              rw [fa_lt64, Int32.toInt_toInt64, pk_lT (by decide)]
              rw [fa_le, nI_toInt (by decide)] at h
              omega
          · by_cases hjb : b ≤ j
            · exact absurd ⟨j, hjb, hj, rfl⟩ hz
            · rw [nI_l (by omega)]
              exact m_inL ((lN_lt (by omega) (by omega)).mpr (by omega))
        refine ⟨mi 1, g, g, q, K, ?_, ?_, hI⟩
        · rcases in_of z (n := 10) (by omega) with h | ⟨j, hj, rfl⟩
          · simp -dsimp -implicitDefEqProofs (disch := omega) only [bnd_u, gd_t, if_true, if_false, ↓reduceIte, eq_self, true_or, or_true, false_or, or_false, not_true_eq_false, not_false_eq_true, and_true, true_and, and_false, false_and, reduceCtorEq, nI_ge, nI_le, nI_lt, nI_nlt, nI_ne, nI_te, nm_eq, mn_eq, nm_le, mn_le, nm_lt, mn_lt, pk_mul, nI_add, pk_sub, nI_clamp, eX8_assign, eX8_assign_43, hTop, hFam, f_one hI.F hI.G ha, c_hr hb, c_hrN h]
          · have hjb : j < b := by
              rcases Nat.lt_or_ge j b with h | h
              · exact h
              · exact absurd ⟨j, h, hj, rfl⟩ hz
            simp -dsimp -implicitDefEqProofs (disch := omega) only [bnd_u, gd_t, if_true, if_false, ↓reduceIte, eq_self, true_or, or_true, false_or, or_false, not_true_eq_false, not_false_eq_true, and_true, true_and, and_false, false_and, reduceCtorEq, nI_ge, nI_le, nI_lt, nI_nlt, nI_ne, nI_te, nm_eq, mn_eq, nm_le, mn_le, nm_lt, mn_lt, pk_mul, nI_add, pk_sub, nI_clamp, eX8_assign, eX8_assign_43, hTop, hFam, f_one hI.F hI.G ha, c_hr hb, c_hr hj]
        · rw [eX9_assign]
          simp -dsimp -implicitDefEqProofs (disch := omega) only [bnd_u, gd_t, if_true, if_false, ↓reduceIte, eq_self, true_or, or_true, false_or, or_false, not_true_eq_false, not_false_eq_true, and_true, true_and, and_false, false_and, reduceCtorEq, nI_ge, nI_le, nI_lt, nI_nlt, nI_ne, nI_te, nm_eq, mn_eq, nm_le, mn_le, nm_lt, mn_lt, pk_mul, nI_add, pk_sub, nI_clamp, eX9_assign_41, hMo, m_one hI.M hK ha, m_hour hb, nI_l (show b < 2 ^ 31 by omega), hin]
theorem sim_tell (x y z w : Int32) : Sim (FX8_tell 0 x y z w) (FX9_tell 78 x y z w) := by
  intro g q K hI
  have hen := hI.G.en
  have hK := hI.G.K
  rcases in_of x (n := 10) (by omega) with hx | ⟨a, ha, rfl⟩
  · refine ⟨mi 1, g, g, q, K, ?_, ?_, hI⟩
    · simp -dsimp -implicitDefEqProofs (disch := omega) only [bnd_u, gd_t, if_true, if_false, ↓reduceIte, eq_self, true_or, or_true, false_or, or_false, not_true_eq_false, not_false_eq_true, and_true, true_and, and_false, false_and, reduceCtorEq, nI_ge, nI_le, nI_lt, nI_nlt, nI_ne, nI_te, nm_eq, mn_eq, nm_le, mn_le, nm_lt, mn_lt, pk_mul, nI_add, pk_sub, nI_clamp, eX8_tell, eX8_tell_42, c_hrN hx]
    · simp -dsimp -implicitDefEqProofs (disch := omega) only [bnd_u, gd_t, if_true, if_false, ↓reduceIte, eq_self, true_or, or_true, false_or, or_false, not_true_eq_false, not_false_eq_true, and_true, true_and, and_false, false_and, reduceCtorEq, nI_ge, nI_le, nI_lt, nI_nlt, nI_ne, nI_te, nm_eq, mn_eq, nm_le, mn_le, nm_lt, mn_lt, pk_mul, nI_add, pk_sub, nI_clamp, eX9_tell, eX9_tell_36, m_hourN hx]
  · rcases in_of y (n := K) (by omega) with hy | ⟨b, hb, rfl⟩
    · refine ⟨mi 1, g, g, q, K, ?_, ?_, hI⟩
      · simp -dsimp -implicitDefEqProofs (disch := omega) only [bnd_u, gd_t, if_true, if_false, ↓reduceIte, eq_self, true_or, or_true, false_or, or_false, not_true_eq_false, not_false_eq_true, and_true, true_and, and_false, false_and, reduceCtorEq, nI_ge, nI_le, nI_lt, nI_nlt, nI_ne, nI_te, nm_eq, mn_eq, nm_le, mn_le, nm_lt, mn_lt, pk_mul, nI_add, pk_sub, nI_clamp, eX8_tell, eX8_tell_42, c_hr ha, hTop, hFam, f_oneN hI.F hy]
      · simp -dsimp -implicitDefEqProofs (disch := omega) only [bnd_u, gd_t, if_true, if_false, ↓reduceIte, eq_self, true_or, or_true, false_or, or_false, not_true_eq_false, not_false_eq_true, and_true, true_and, and_false, false_and, reduceCtorEq, nI_ge, nI_le, nI_lt, nI_nlt, nI_ne, nI_te, nm_eq, mn_eq, nm_le, mn_le, nm_lt, mn_lt, pk_mul, nI_add, pk_sub, nI_clamp, eX9_tell, eX9_tell_36, m_hour ha, hMo, m_oneN hI.M hK hy]
    · rcases in_of z (n := K) (by omega) with hz | ⟨c, hc, rfl⟩
      · refine ⟨mi 1, g, g, q, K, ?_, ?_, hI⟩
        · simp -dsimp -implicitDefEqProofs (disch := omega) only [bnd_u, gd_t, if_true, if_false, ↓reduceIte, eq_self, true_or, or_true, false_or, or_false, not_true_eq_false, not_false_eq_true, and_true, true_and, and_false, false_and, reduceCtorEq, nI_ge, nI_le, nI_lt, nI_nlt, nI_ne, nI_te, nm_eq, mn_eq, nm_le, mn_le, nm_lt, mn_lt, pk_mul, nI_add, pk_sub, nI_clamp, eX8_tell, eX8_tell_42, c_hr ha, hTop, hFam, f_one hI.F hI.G hb, f_oneN hI.F hz]
        · simp -dsimp -implicitDefEqProofs (disch := omega) only [bnd_u, gd_t, if_true, if_false, ↓reduceIte, eq_self, true_or, or_true, false_or, or_false, not_true_eq_false, not_false_eq_true, and_true, true_and, and_false, false_and, reduceCtorEq, nI_ge, nI_le, nI_lt, nI_nlt, nI_ne, nI_te, nm_eq, mn_eq, nm_le, mn_le, nm_lt, mn_lt, pk_mul, nI_add, pk_sub, nI_clamp, eX9_tell, eX9_tell_36, m_hour ha, hMo, m_one hI.M hK hb, m_oneN hI.M hK hz]
      · by_cases hbc : b = c
        · subst hbc
          refine ⟨mi 1, g, g, q, K, ?_, ?_, hI⟩
          · simp -dsimp -implicitDefEqProofs (disch := omega) only [bnd_u, gd_t, if_true, if_false, ↓reduceIte, eq_self, true_or, or_true, false_or, or_false, not_true_eq_false, not_false_eq_true, and_true, true_and, and_false, false_and, reduceCtorEq, nI_ge, nI_le, nI_lt, nI_nlt, nI_ne, nI_te, nm_eq, mn_eq, nm_le, mn_le, nm_lt, mn_lt, pk_mul, nI_add, pk_sub, nI_clamp, eX8_tell, eX8_tell_42, c_hr ha, hTop, hFam, f_one hI.F hI.G hb]
          · simp -dsimp -implicitDefEqProofs (disch := omega) only [bnd_u, gd_t, if_true, if_false, ↓reduceIte, eq_self, true_or, or_true, false_or, or_false, not_true_eq_false, not_false_eq_true, and_true, true_and, and_false, false_and, reduceCtorEq, nI_ge, nI_le, nI_lt, nI_nlt, nI_ne, nI_te, nm_eq, mn_eq, nm_le, mn_le, nm_lt, mn_lt, pk_mul, nI_add, pk_sub, nI_clamp, eX9_tell, eX9_tell_36, m_hour ha, hMo, m_one hI.M hK hb]
        · rcases in_of w (n := 3) (by omega) with hw | ⟨d, hd, rfl⟩
          · refine ⟨mi 1, g, g, q, K, ?_, ?_, hI⟩
            · simp -dsimp -implicitDefEqProofs (disch := omega) only [bnd_u, gd_t, if_true, if_false, ↓reduceIte, eq_self, true_or, or_true, false_or, or_false, not_true_eq_false, not_false_eq_true, and_true, true_and, and_false, false_and, reduceCtorEq, nI_ge, nI_le, nI_lt, nI_nlt, nI_ne, nI_te, nm_eq, mn_eq, nm_le, mn_le, nm_lt, mn_lt, pk_mul, nI_add, pk_sub, nI_clamp, eX8_tell, eX8_tell_42, c_hr ha, hTop, hFam, f_one hI.F hI.G hb, f_one hI.F hI.G hc, c_thingN hw]
            · simp -dsimp -implicitDefEqProofs (disch := omega) only [bnd_u, gd_t, if_true, if_false, ↓reduceIte, eq_self, true_or, or_true, false_or, or_false, not_true_eq_false, not_false_eq_true, and_true, true_and, and_false, false_and, reduceCtorEq, nI_ge, nI_le, nI_lt, nI_nlt, nI_ne, nI_te, nm_eq, mn_eq, nm_le, mn_le, nm_lt, mn_lt, pk_mul, nI_add, pk_sub, nI_clamp, eX9_tell, eX9_tell_36, m_hour ha, hMo, m_one hI.M hK hb, m_one hI.M hK hc, m_thingN hw]
          · by_cases hn : q 73 = 4
            · have h3 := hI.F.2.2.2.2.2.2.2.1
              rw [hn] at h3
              refine ⟨mi 3, g, g, q, K, ?_, ?_, hI⟩
              · simp -dsimp -implicitDefEqProofs (disch := omega) only [bnd_u, gd_t, if_true, if_false, ↓reduceIte, eq_self, true_or, or_true, false_or, or_false, not_true_eq_false, not_false_eq_true, and_true, true_and, and_false, false_and, reduceCtorEq, nI_ge, nI_le, nI_lt, nI_nlt, nI_ne, nI_te, nm_eq, mn_eq, nm_le, mn_le, nm_lt, mn_lt, pk_mul, nI_add, pk_sub, nI_clamp, eX8_tell, c_hr ha, hTop, hFam, f_one hI.F hI.G hb, f_one hI.F hI.G hc, c_thing hd, R_full rw8 h3]
              · simp -dsimp -implicitDefEqProofs (disch := omega) only [bnd_u, gd_t, if_true, if_false, ↓reduceIte, eq_self, true_or, or_true, false_or, or_false, not_true_eq_false, not_false_eq_true, and_true, true_and, and_false, false_and, reduceCtorEq, nI_ge, nI_le, nI_lt, nI_nlt, nI_ne, nI_te, nm_eq, mn_eq, nm_le, mn_le, nm_lt, mn_lt, pk_mul, nI_add, pk_sub, nI_clamp, eX9_tell, m_hour ha, hMo, m_one hI.M hK hb, m_one hI.M hK hc, m_thing hd, hI.M.a]
            · have hn4 : q 73 < 4 := by omega
              obtain ⟨g1, e1, f1, a1, b1, c1⟩ := R_add (x := xs4 (nI a) (nI b) (nI c) (nI d)) rw8 hI.F.2.2.2.2.2.2.2.1 hn4
              have e1' : FX6_add 8 (nI a) (nI b) (nI c) (nI d) (mk g) = some (nI (q 73 + 1), mk g1) := e1
              have hM1 := hI.M.f f1 (by decide)
              have m1 := Ms_pt (a := 57 + 4 * q 73) (v := a) hM1 (by omega)
              have m2 := Ms_pt (a := 57 + 4 * q 73 + 1) (v := b) m1 (by omega)
              have m3 := Ms_pt (a := 57 + 4 * q 73 + 2) (v := c) m2 (by omega)
              have m4 := Ms_pt (a := 57 + 4 * q 73 + 3) (v := d) m3 (by omega)
              have m5 := Ms_pt (a := 73) (v := q 73 + 1) m4 (by omega)
              have r4 := m4.a 73 (by omega)
              rw [pt_n (by omega), pt_n (by omega), pt_n (by omega), pt_n (by omega)] at r4
              have r5 := m5.a 73 (by omega)
              rw [pt_s] at r5
              refine ⟨nI (q 73 + 1), g1, _, addE q a b c d, K, ?_, ?_, hI.pg (f1.tr (Fr79t (Fr79t (Fr79t (Fr79t Fr79)))) (l := [8, 9, 79]) (by simp <;> omega)) (by decide) (Gd_addE hI.G hn4 (by omega) hb hc (by omega)) ((F1_addE hI.F hI.G hn4 f1 a1 b1 c1 rfl rfl rfl rfl).f (Fr79t (Fr79t (Fr79t (Fr79t Fr79)))) (by decide)) ?_ m5.2 ?_⟩
              · simp -dsimp -implicitDefEqProofs (disch := omega) only [bnd_u, gd_t, if_true, if_false, ↓reduceIte, eq_self, true_or, or_true, false_or, or_false, not_true_eq_false, not_false_eq_true, and_true, true_and, and_false, false_and, reduceCtorEq, nI_ge, nI_le, nI_lt, nI_nlt, nI_ne, nI_te, nm_eq, mn_eq, nm_le, mn_le, nm_lt, mn_lt, pk_mul, nI_add, pk_sub, nI_clamp, eX8_tell, c_hr ha, hTop, hFam, f_one hI.F hI.G hb, f_one hI.F hI.G hc, c_thing hd, e1']
              · simp -dsimp -implicitDefEqProofs (disch := omega) only [bnd_u, gd_t, if_true, if_false, ↓reduceIte, eq_self, true_or, or_true, false_or, or_false, not_true_eq_false, not_false_eq_true, and_true, true_and, and_false, false_and, reduceCtorEq, nI_ge, nI_le, nI_lt, nI_nlt, nI_ne, nI_te, nm_eq, mn_eq, nm_le, mn_le, nm_lt, mn_lt, pk_mul, nI_add, pk_sub, nI_clamp, eX9_tell, m_hour ha, hMo, m_one hM1 hK hb, m_one hM1 hK hc, m_thing hd, hM1.a, r4, r5]
              · rw [up_n (by decide), up_n (by decide), up_n (by decide), up_n (by decide), up_n (by decide), f1 11 (by decide)]
                exact Ro_o hI.R (fun i hi => addE_o (by omega) (by omega))
              · intro j hj _
                rw [up_c, pk_un (by omega), up_c, pk_un (by omega), up_c, pk_un (by omega), up_c, pk_un (by omega), up_c, pk_un (by omega), f1 79 (by decide)]
