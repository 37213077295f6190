/-! text: the reference's rota -/
theorem rot_s {b : Nat → Nat} {n d p s : Nat} {z : Nat → Nat} (es : s = sk b n p) (hk : kK b n s = 2) (h10 : z 75 < 10) : rot b n (d + 1) (0, p) z = rot b n d (nu b n 0 (fO 0 5 0) (0, p)).2 (addR z (nu b n 0 (fO 0 5 0) (0, p)).1) := by
  show (if (0 : Nat) ≠ 0 then _ else _) = _
  rw [if_neg (by decide)]
  show (if kK b n (sk b n p) ≠ 2 then _ else _) = _
  rw [← es, if_neg (by omega), if_neg (by omega)]
theorem rot_10 {b : Nat → Nat} {n d p s : Nat} {z : Nat → Nat} (es : s = sk b n p) (hk : kK b n s = 2) (h10 : z 75 = 10) : rot b n (d + 1) (0, p) z = ((5, s), z) := by
  show (if (0 : Nat) ≠ 0 then _ else _) = _
  rw [if_neg (by decide)]
  show (if kK b n (sk b n p) ≠ 2 then _ else _) = _
  rw [← es, if_neg (by omega), if_pos h10]
theorem rot_n {b : Nat → Nat} {n d p s : Nat} {z : Nat → Nat} (es : s = sk b n p) (hk : kK b n s ≠ 2) : rot b n (d + 1) (0, p) z = ((0, p), z) := by
  show (if (0 : Nat) ≠ 0 then _ else _) = _
  rw [if_neg (by decide)]
  show (if kK b n (sk b n p) ≠ 2 then _ else _) = _
  rw [← es, if_pos hk]
theorem m_rot {b : Nat → Nat} {n : Nat} : ∀ (d fuel : Nat) (t : Nat × Nat) (z : Nat → Nat) (g : Gg), 11 ≤ d + z 75 → d < fuel → Tb g n b → Cg g b n t → Rf g z → z 75 ≤ 10 → z 78 ≤ 5 → ∃ g', FX9_readRota_0 fuel 78 (mk g) = some ((), mk g') ∧ Fz g g' ∧ Rf g' (rot b n d t z).2 ∧ Cg g' b n (rot b n d t z).1
  | 0, fuel, t, z, g, hd, hf, hT, hC, hR, h75, h78 => absurd hd (by omega)
  | d + 1, fuel, t, z, g, hd, hf, hT, hC, hR, h75, h78 => by
    obtain ⟨m, rfl⟩ : ∃ m, fuel = m + 1 := ⟨fuel - 1, by omega⟩
    have r5 := hR.2.2.1
    rcases hC.cs with ⟨c, s, c0, c1, h12, h13, -, -, -, ht⟩ | ⟨p, s, rfl, es, hp, hs, hge, k4, h12, h14, h15, h16, h17⟩
    · have er : rot b n (d + 1) t z = (t, z) := by
        rcases ht with rfl | ⟨h0, hk, -, -⟩
        · exact rot_b c0 _
        · obtain ⟨t1, t2⟩ := t
          cases h0
          exact rot_n rfl (by show kK b n (sk b n t2) ≠ 2; have hk2 : kK b n (sk b n t2) = 4 := hk; omega)
      rw [er]
      refine ⟨g, ?_, Fz.refl, hR, hC⟩
      simp -dsimp -implicitDefEqProofs (disch := omega) only [bnd_u, gd_t, if_true, if_false, ↓reduceIte, eq_self, true_or, or_true, false_or, or_false, not_true_eq_false, not_false_eq_true, and_true, true_and, and_false, false_and, reduceCtorEq, nI_ge, nI_le, nI_lt, nI_nlt, nI_ne, nI_te, nm_eq, mn_eq, nm_le, mn_le, nm_lt, mn_lt, pk_mul, nI_add, pk_sub, nI_clamp, eX9_readRota_0, eX9_readRota_102, hMo, h12]
    · by_cases hk : kK b n s = 2
      · rw [hk] at h16
        by_cases h10 : z 75 = 10
        · rw [rot_10 es hk h10]
          rw [h10] at r5
          have hmm := m_fails0 (c := 5) h12 h15
          obtain ⟨w, ew⟩ : ∃ w, w = up (up g 78 12 (nI 5)) 78 13 (nI s) := ⟨_, rfl⟩
          rw [← ew] at hmm
          have w12 : w 78 12 = nI 5 := by rw [ew, up_c, pk_un (by decide), up_c, pk_us]
          have w13 : w 78 13 = nI s := by rw [ew, up_c, pk_us]
          have fw : Fc 78 [12, 13] g w := by rw [ew]; exact (Fc.u (by decide)).ux (by decide)
          obtain ⟨m2, rfl⟩ : ∃ m2, m = m2 + 1 := ⟨m - 1, by omega⟩
          have e2 : FX9_readRota_0 (m2 + 1) 78 (mk w) = some ((), mk w) := by
            simp -dsimp -implicitDefEqProofs (disch := omega) only [bnd_u, gd_t, if_true, if_false, ↓reduceIte, eq_self, true_or, or_true, false_or, or_false, not_true_eq_false, not_false_eq_true, and_true, true_and, and_false, false_and, reduceCtorEq, nI_ge, nI_le, nI_lt, nI_nlt, nI_ne, nI_te, nm_eq, mn_eq, nm_le, mn_le, nm_lt, mn_lt, pk_mul, nI_add, pk_sub, nI_clamp, eX9_readRota_0, eX9_readRota_102, hMo, w12]
          refine ⟨w, ?_, Fz.c fw (by decide), hR.c fw (by decide), Cg.bk (c := 5) (by decide) (by decide) w12 w13⟩
          rw [eX9_readRota_0]
          simp -dsimp -implicitDefEqProofs (disch := omega) only [bnd_u, gd_t, if_true, if_false, ↓reduceIte, eq_self, true_or, or_true, false_or, or_false, not_true_eq_false, not_false_eq_true, and_true, true_and, and_false, false_and, reduceCtorEq, nI_ge, nI_le, nI_lt, nI_nlt, nI_ne, nI_te, nm_eq, mn_eq, nm_le, mn_le, nm_lt, mn_lt, pk_mul, nI_add, pk_sub, nI_clamp, hMo, h12, h16, r5, hmm, e2]
        · have h10 : z 75 < 10 := by omega
          rw [rot_s es hk h10]
          obtain ⟨g1, e1, f1, c1⟩ := m_other (lo := 0) (hi := 5) (x := 0) hT hC (by decide) (by decide) (by decide)
          have hA := (nu_rg b n (lo := 0) (hi := 5) (x := 0) (0, p) (by decide)).2
          revert e1 c1 hA
          generalize nu b n 0 (fO 0 5 0) (0, p) = A
          intro e1 c1 hA
          obtain ⟨r, er⟩ : ∃ r, r = (if A.1 < 5 then A.1 + 1 else 0) := ⟨_, rfl⟩
          obtain ⟨mx, em⟩ : ∃ m, m = (if A.1 < 5 then max (z 78) (A.1 + 1) else z 78) := ⟨_, rfl⟩
          have ea : addR z A.1 = pt (pt (pt z 78 mx) (26 + z 75) r) 75 (z 75 + 1) := by rw [er, em]; rfl
          have hmx : mx ≤ 5 := by
            rw [em]
            split
            · exact Nat.max_le.mpr ⟨h78, by omega⟩
            · exact h78
          have r1 := hR.c f1 (by decide)
          have k8 := r1.2.2.2.2.2
          obtain ⟨u1, eu1⟩ : ∃ u, u = up g1 78 8 (hm mx) := ⟨_, rfl⟩
          have fu1 : Fc 78 [8] g1 u1 := by rw [eu1]; exact Fc.u (by decide)
          have u8 : u1 78 8 = hm mx := by rw [eu1, up_c, pk_us]
          have w1 := r1.h fu1 (by decide) u8
          have ku5 : u1 78 5 = nI (z 75) := by rw [w1.2.2.1, pt_n (by decide)]
          have cu1 : Cg u1 b n A.2 := by rw [eu1]; exact c1.u (by decide)
          have w2 := w1.w (i := 26 + z 75) (v := r) (by omega)
          have cu2 := cu1.w (i := 26 + z 75) (x := nI r)
          obtain ⟨u2, eu2⟩ : ∃ u, u = up u1 81 (26 + z 75) (nI r) := ⟨_, rfl⟩
          rw [← eu2] at w2 cu2
          have kv5 : u2 78 5 = nI (z 75) := by rw [w2.2.2.1, pt_n (by omega), pt_n (by decide)]
          have w3 := w2.s5 (v := z 75 + 1)
          have cu3 := cu2.u (i := 5) (x := nI (z 75 + 1)) (by decide)
          obtain ⟨u3, eu3⟩ : ∃ u, u = up u2 78 5 (nI (z 75 + 1)) := ⟨_, rfl⟩
          rw [← eu3] at w3 cu3
          rw [← ea] at w3
          have fu3 : Fz g u3 := by
            rw [eu3, eu2]
            exact (((Fz.c f1 (by decide)).tr (Fz.c fu1 (by decide))).tr Fz.w).tr (Fz.c (Fc.u (l := [5]) (by decide)) (by decide))
          have z75 : addR z A.1 75 = z 75 + 1 := by rw [ea, pt_s]
          have z78 : addR z A.1 78 = mx := by rw [ea, pt_n (by decide), pt_n (by omega), pt_s]
          obtain ⟨g', e', f', rr, cc⟩ := m_rot d m A.2 (addR z A.1) u3 (by omega) (by omega) (hT.z fu3) cu3 w3 (by omega) (by omega)
          refine ⟨g', ?_, fu3.tr f', rr, cc⟩
          rcases Nat.lt_or_ge A.1 5 with h5 | h5
          · rw [if_pos h5] at er em
            subst er
            rcases Nat.lt_or_ge A.1 (z 78) with hc | hc
            · rw [Nat.max_eq_left (by omega)] at em
              have hle : (nI A.1 ≤ hm (z 78)) = True := by rw [hm_le (by omega) (by omega)]; exact eq_true hc
              rw [em] at eu1
              simp -dsimp -implicitDefEqProofs (disch := omega) only [bnd_u, gd_t, if_true, if_false, ↓reduceIte, eq_self, true_or, or_true, false_or, or_false, not_true_eq_false, not_false_eq_true, and_true, true_and, and_false, false_and, reduceCtorEq, nI_ge, nI_le, nI_lt, nI_nlt, nI_ne, nI_te, nm_eq, mn_eq, nm_le, mn_le, nm_lt, mn_lt, pk_mul, nI_add, pk_sub, nI_clamp, eX9_readRota_0, eX9_readRota_58, eX9_readRota_62, eX9_readRota_88, hMo, h12, h16, r5, e1, k8, hle, ← eu1, ku5, ← eu2, kv5, ← eu3, e']
            · rw [Nat.max_eq_right (by omega)] at em
              have hle : (nI A.1 ≤ hm (z 78)) = False := by rw [hm_le (by omega) (by omega)]; exact eq_false (by omega)
              rw [em, hm, if_neg (by omega), Nat.add_sub_cancel] at eu1
              simp -dsimp -implicitDefEqProofs (disch := omega) only [bnd_u, gd_t, if_true, if_false, ↓reduceIte, eq_self, true_or, or_true, false_or, or_false, not_true_eq_false, not_false_eq_true, and_true, true_and, and_false, false_and, reduceCtorEq, nI_ge, nI_le, nI_lt, nI_nlt, nI_ne, nI_te, nm_eq, mn_eq, nm_le, mn_le, nm_lt, mn_lt, pk_mul, nI_add, pk_sub, nI_clamp, eX9_readRota_0, eX9_readRota_58, eX9_readRota_62, eX9_readRota_88, hMo, h12, h16, r5, e1, k8, hle, ← eu1, ku5, ← eu2, kv5, ← eu3, e']
          · rw [if_neg (by omega)] at er em
            subst er
            rw [em] at eu1
            simp -dsimp -implicitDefEqProofs (disch := omega) only [bnd_u, gd_t, if_true, if_false, ↓reduceIte, eq_self, true_or, or_true, false_or, or_false, not_true_eq_false, not_false_eq_true, and_true, true_and, and_false, false_and, reduceCtorEq, nI_ge, nI_le, nI_lt, nI_nlt, nI_ne, nI_te, nm_eq, mn_eq, nm_le, mn_le, nm_lt, mn_lt, pk_mul, nI_add, pk_sub, nI_clamp, eX9_readRota_0, eX9_readRota_58, eX9_readRota_62, eX9_readRota_88, hMo, h12, h16, r5, e1, k8, ← eu1, ku5, ← eu2, kv5, ← eu3, e']
      · rw [rot_n es hk]
        have hkl := kK_le b n s
        refine ⟨g, ?_, Fz.refl, hR, hC⟩
        simp -dsimp -implicitDefEqProofs (disch := omega) only [bnd_u, gd_t, if_true, if_false, ↓reduceIte, eq_self, true_or, or_true, false_or, or_false, not_true_eq_false, not_false_eq_true, and_true, true_and, and_false, false_and, reduceCtorEq, nI_ge, nI_le, nI_lt, nI_nlt, nI_ne, nI_te, nm_eq, mn_eq, nm_le, mn_le, nm_lt, mn_lt, pk_mul, nI_add, pk_sub, nI_clamp, eX9_readRota_0, eX9_readRota_102, hMo, h12, h16]
theorem m_bRota {g : Gg} {b : Nat → Nat} {n : Nat} {t : Nat × Nat} {z : Nat → Nat} (hT : Tb g n b) (hC : Cg g b n t) (hR : Rf g z) (h75 : z 75 = 0) (h78 : z 78 ≤ 5) : ∃ g', FX9_readMore 78 (nI 6) (mk g) = some ((), mk g') ∧ Fz g g' ∧ Rf g' (rot b n 11 t z).2 ∧ Cg g' b n (rot b n 11 t z).1 := by
  obtain ⟨g', e, f, r, c⟩ := m_rot 11 fu t z g (by omega) (by decide) hT hC hR (by omega) h78
  refine ⟨g', ?_, f, r, c⟩
  simp -dsimp -implicitDefEqProofs (disch := omega) only [bnd_u, gd_t, if_true, if_false, ↓reduceIte, eq_self, true_or, or_true, false_or, or_false, not_true_eq_false, not_false_eq_true, and_true, true_and, and_false, false_and, reduceCtorEq, nI_ge, nI_le, nI_lt, nI_nlt, nI_ne, nI_te, nm_eq, mn_eq, nm_le, mn_le, nm_lt, mn_lt, pk_mul, nI_add, pk_sub, nI_clamp, eX9_readMore, eX9_readMore_201, eX9_readRota, hMo, e]
