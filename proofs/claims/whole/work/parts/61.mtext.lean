/-! text: the reference's, whole -/
theorem Cs.z {g g' : Gg} (h : Cs g) (hf : Fz g g') : Cs g' := by
  unfold Cs
  rw [hf.1 83 (by decide) (by decide), hf.1 84 (by decide) (by decide)]
  exact h
theorem m_loop {b : Nat → Nat} {n : Nat} : ∀ (d fuel l p : Nat) (z : Nat → Nat) (g : Gg) (R : (Nat × Nat) × Nat × (Nat → Nat)), txt b n d l p z = some R → d + 1 < fuel → Tb g n b → Cs g → Rf g z → Zd z → p ≤ n → Cu g b n (sk b n p) → ∃ g' l', FX9_text_62 fuel 78 (nI l) (mk g) = FX9_text_86 78 (nI l') (mk g') ∧ Fz g g' ∧ ((R.1.1 ≠ 0 ∧ g' 78 12 = nI R.1.1 ∧ g' 78 13 = nI R.1.2) ∨ (R.1.1 = 0 ∧ l' = R.2.1 ∧ g' 78 12 = nI 0 ∧ g' 78 15 = nI R.1.2 ∧ Rf g' R.2.2 ∧ Zd R.2.2))
  | 0, fuel, l, p, z, g, R, ht, hf, hT, hS, hR, hZ, hp, hC => by cases ht
  | d + 1, fuel, l, p, z, g, R, ht, hf, hT, hS, hR, hZ, hp, hC => by
    obtain ⟨m, rfl⟩ : ∃ m, fuel = m + 1 + 1 := ⟨fuel - 2, by omega⟩
    have hs := sk_le (b := b) hp
    rw [txt] at ht
    revert ht hC hs
    generalize sk b n p = s
    intro ht hC hs
    rcases hC with ⟨k4, a1, a2⟩ | ⟨k4, a1, a2, a3, a4, a5⟩
    · rw [if_pos k4] at ht
      cases ht
      refine ⟨g, l, ?_, Fz.refl, Or.inl ⟨by show (1 : Nat) ≠ 0; decide, a1, a2⟩⟩
      simp -dsimp -implicitDefEqProofs (disch := omega) only [bnd_u, gd_t, if_true, if_false, ↓reduceIte, eq_self, true_or, or_true, false_or, or_false, not_true_eq_false, not_false_eq_true, and_true, true_and, and_false, false_and, reduceCtorEq, nI_ge, nI_le, nI_lt, nI_nlt, nI_ne, nI_te, nm_eq, mn_eq, nm_le, mn_le, nm_lt, mn_lt, pk_mul, nI_add, pk_sub, nI_clamp, eX9_text_62, hMo, a1]
    · rw [if_neg k4] at ht
      by_cases k0 : kK b n s = 0
      · rw [if_pos k0] at ht
        cases ht
        rw [k0] at a4
        refine ⟨g, l, ?_, Fz.refl, Or.inr ⟨rfl, rfl, a1, a3, hR, hZ⟩⟩
        simp -dsimp -implicitDefEqProofs (disch := omega) only [bnd_u, gd_t, if_true, if_false, ↓reduceIte, eq_self, true_or, or_true, false_or, or_false, not_true_eq_false, not_false_eq_true, and_true, true_and, and_false, false_and, reduceCtorEq, nI_ge, nI_le, nI_lt, nI_nlt, nI_ne, nI_te, nm_eq, mn_eq, nm_le, mn_le, nm_lt, mn_lt, pk_mul, nI_add, pk_sub, nI_clamp, eX9_text_62, hMo, a1, a4]
      · rw [if_neg k0] at ht
        have hsn := kK_pos k0
        have hkl := kK_le b n s
        obtain ⟨g1, e1, f1, c1, r1⟩ := m_line hT hS hR hZ a1 a2 a3 a4 hsn
        have hZ1 := lineS_Zd (b := b) (n := n) (s := s) hZ
        have hc6 := lineS_c (b := b) (n := n) (s := s) (z := z)
        revert ht c1 r1 hZ1 hc6
        generalize lineS b n s z = L
        intro ht c1 r1 hZ1 hc6
        by_cases c0 : L.1.1 = 0
        · rw [if_neg (by omega)] at ht
          rcases c1 with ⟨q0, -, -, -⟩ | ⟨-, q1, q2⟩
          · exact absurd c0 q0
          · obtain ⟨g', l', e', f', P'⟩ := m_loop d (m + 1) (l + 1) L.1.2 L.2 g1 R ht (by omega) (hT.z f1) (hS.z f1) (r1 c0) hZ1 q1 q2
            refine ⟨g', l', ?_, f1.tr f', P'⟩
            rw [eX9_text_62]
            simp -dsimp -implicitDefEqProofs (disch := omega) only [bnd_u, gd_t, if_true, if_false, ↓reduceIte, eq_self, true_or, or_true, false_or, or_false, not_true_eq_false, not_false_eq_true, and_true, true_and, and_false, false_and, reduceCtorEq, nI_ge, nI_le, nI_lt, nI_nlt, nI_ne, nI_te, nm_eq, mn_eq, nm_le, mn_le, nm_lt, mn_lt, pk_mul, nI_add, pk_sub, nI_clamp, hMo, a1, a4, e1, e']
        · rw [if_pos c0] at ht
          cases ht
          rcases c1 with ⟨-, -, h12, h13⟩ | ⟨q0, -, -⟩
          · refine ⟨g1, l + 1, ?_, f1, Or.inl ⟨c0, h12, h13⟩⟩
            have e0 : FX9_text_62 (m + 1) 78 (nI (l + 1)) (mk g1) = FX9_text_86 78 (nI (l + 1)) (mk g1) := by
              simp -dsimp -implicitDefEqProofs (disch := omega) only [bnd_u, gd_t, if_true, if_false, ↓reduceIte, eq_self, true_or, or_true, false_or, or_false, not_true_eq_false, not_false_eq_true, and_true, true_and, and_false, false_and, reduceCtorEq, nI_ge, nI_le, nI_lt, nI_nlt, nI_ne, nI_te, nm_eq, mn_eq, nm_le, mn_le, nm_lt, mn_lt, pk_mul, nI_add, pk_sub, nI_clamp, eX9_text_62, hMo, h12]
            rw [eX9_text_62]
            simp -dsimp -implicitDefEqProofs (disch := omega) only [bnd_u, gd_t, if_true, if_false, ↓reduceIte, eq_self, true_or, or_true, false_or, or_false, not_true_eq_false, not_false_eq_true, and_true, true_and, and_false, false_and, reduceCtorEq, nI_ge, nI_le, nI_lt, nI_nlt, nI_ne, nI_te, nm_eq, mn_eq, nm_le, mn_le, nm_lt, mn_lt, pk_mul, nI_add, pk_sub, nI_clamp, hMo, a1, a4, e1, e0]
          · exact absurd q0 c0
/-- ahead of the lines -/
theorem m_text0 {g : Gg} {b : Nat → Nat} {n : Nat} (hT : Tb g n b) : ∃ g', FX9_text 78 (mk g) = FX9_text_62 fu 78 (nI 0) (mk g') ∧ Fz g g' ∧ Rf g' z0 ∧ Cu g' b n (sk b n 0) := by
  obtain ⟨u, eu⟩ : ∃ u, u = up (up (up (up (up (up (up g 78 12 (nI 0)) 78 14 (nI 0)) 78 4 (nI 0)) 78 5 (nI 0)) 78 6 (nI 0)) 78 7 (nI 0)) 78 8 (mi 1) := ⟨_, rfl⟩
  have fu0 : Fc 78 [4, 5, 6, 7, 8, 12, 14] g u := by
    rw [eu]
    exact (((((((Fc.u (by decide)).ux (by decide)).ux (by decide)).ux (by decide)).ux (by decide)).ux (by decide)).ux (by decide))
  have u8 : u 78 8 = hm 0 := by rw [eu, up_c, pk_us]; rfl
  have u7 : u 78 7 = nI 0 := by rw [eu, up_c, pk_un (by decide), up_c, pk_us]
  have u6 : u 78 6 = nI 0 := by rw [eu, up_c, pk_un (by decide), up_c, pk_un (by decide), up_c, pk_us]
  have u5 : u 78 5 = nI 0 := by rw [eu, up_c, pk_un (by decide), up_c, pk_un (by decide), up_c, pk_un (by decide), up_c, pk_us]
  have u4 : u 78 4 = nI 0 := by rw [eu, up_c, pk_un (by decide), up_c, pk_un (by decide), up_c, pk_un (by decide), up_c, pk_un (by decide), up_c, pk_us]
  have u14 : u 78 14 = nI 0 := by rw [eu, up_c, pk_un (by decide), up_c, pk_un (by decide), up_c, pk_un (by decide), up_c, pk_un (by decide), up_c, pk_un (by decide), up_c, pk_us]
  have u12 : u 78 12 = nI 0 := by rw [eu, up_c, pk_un (by decide), up_c, pk_un (by decide), up_c, pk_un (by decide), up_c, pk_un (by decide), up_c, pk_un (by decide), up_c, pk_un (by decide), up_c, pk_us]
  have e0 : FX9_text 78 (mk g) = FX9_text_39 fu 78 (nI 0) (nI 0) (mk u) := by
    rw [eu]
    simp -dsimp -implicitDefEqProofs (disch := omega) only [bnd_u, gd_t, if_true, if_false, ↓reduceIte, eq_self, true_or, or_true, false_or, or_false, not_true_eq_false, not_false_eq_true, and_true, true_and, and_false, false_and, reduceCtorEq, nI_ge, nI_le, nI_lt, nI_nlt, nI_ne, nI_te, nm_eq, mn_eq, nm_le, mn_le, nm_lt, mn_lt, pk_mul, nI_add, pk_sub, nI_clamp, eX9_text, hMo]
  rw [e0]
  refine lp_0 (σ := Gg) (fun m k v => FX9_text_39 m 78 (nI 0) (nI k) (mk v)) 74 (fun k v => Fr [81] u v ∧ ∀ j, j < k → v 81 j = nI 0) (fun o => ∃ g', o = FX9_text_62 fu 78 (nI 0) (mk g') ∧ Fz g g' ∧ Rf g' z0 ∧ Cu g' b n (sk b n 0)) ⟨Fr.refl, fun j hj => absurd hj (by omega)⟩ (by decide) ?_ ?_
  · intro m k v hk ⟨f1, i1⟩
    refine Or.inr ⟨up v 81 k (nI 0), ?_, f1.tr (Fr.c (l := [81]) (by decide)) (fun c hc => ⟨hc, hc⟩), fun j hj => ?_⟩
    · simp -dsimp -implicitDefEqProofs (disch := omega) only [bnd_u, gd_t, if_true, if_false, ↓reduceIte, eq_self, true_or, or_true, false_or, or_false, not_true_eq_false, not_false_eq_true, and_true, true_and, and_false, false_and, reduceCtorEq, nI_ge, nI_le, nI_lt, nI_nlt, nI_ne, nI_te, nm_eq, mn_eq, nm_le, mn_le, nm_lt, mn_lt, pk_mul, nI_add, pk_sub, nI_clamp, eX9_text_39, hMo]
    · rw [up_c]
      by_cases e : j = k
      · rw [e, pk_us]
      · rw [pk_un e]; exact i1 j (by omega)
  · intro m v ⟨f1, i1⟩
    have f78 := f1 78 (by decide)
    have fzv : Fz g v := ⟨fun c h1 h2 => by rw [f1 c (by simpa using h2), fu0.1 c h1], fun i hi => by rw [f78]; exact fu0.2 i (fun h => hi (by revert h; unfold zl; simp <;> omega))⟩
    have rv : Rf v z0 := by
      unfold Rf
      rw [f78]
      exact ⟨i1, u4, u5, u6, u7, u8⟩
    obtain ⟨g', e, f, r⟩ := m_step (hT.z fzv) (p := 0) (by rw [f78, u14]) (by rw [f78, u12]) (Nat.zero_le n)
    refine ⟨g', ?_, fzv.tr (Fz.c f (by decide)), rv.c f (by decide), r⟩
    simp -dsimp -implicitDefEqProofs (disch := omega) only [bnd_u, gd_t, if_true, if_false, ↓reduceIte, eq_self, true_or, or_true, false_or, or_false, not_true_eq_false, not_false_eq_true, and_true, true_and, and_false, false_and, reduceCtorEq, nI_ge, nI_le, nI_lt, nI_nlt, nI_ne, nI_te, nm_eq, mn_eq, nm_le, mn_le, nm_lt, mn_lt, pk_mul, nI_add, pk_sub, nI_clamp, eX9_text_39, hMo, e]
theorem hm_lt {a b : Nat} (ha : a ≤ 100) (hb : b ≤ 100) : (hm a < nI b) = (a ≤ b) := by
  unfold hm
  refine propext ?_
  by_cases z : a = 0
  · rw [if_pos z, fa_lt, nI_toInt (by omega), mi_I (by omega)]; omega
  · rw [if_neg z, fa_lt, nI_toInt (by omega), nI_toInt (by omega)]; omega
theorem m_110b {g : Gg} {c s : Nat} {l : Int32} (h12 : g 78 12 = nI c) (h13 : g 78 13 = nI s) (c0 : c ≠ 0) (c6 : c ≤ 6) : FX9_text_110 78 l (mk g) = some (mi 10 - nI s, mk (up (up g 78 10 (nI 0)) 78 11 (nI c))) := by
  have k1 : up g 78 10 (nI 0) 78 12 = nI c := by rw [up_c, pk_un (by decide), h12]
  have k2 : up (up g 78 10 (nI 0)) 78 11 (nI c) 78 12 = nI c := by rw [up_c, pk_un (by decide), k1]
  have k3 : up (up g 78 10 (nI 0)) 78 11 (nI c) 78 13 = nI s := by rw [up_c, pk_un (by decide), up_c, pk_un (by decide), h13]
  simp -dsimp -implicitDefEqProofs (disch := omega) only [bnd_u, gd_t, if_true, if_false, ↓reduceIte, eq_self, true_or, or_true, false_or, or_false, not_true_eq_false, not_false_eq_true, and_true, true_and, and_false, false_and, reduceCtorEq, nI_ge, nI_le, nI_lt, nI_nlt, nI_ne, nI_te, nm_eq, mn_eq, nm_le, mn_le, nm_lt, mn_lt, pk_mul, nI_add, pk_sub, nI_clamp, eX9_text_110, hMo, k1, k2, k3]
/-- a text with a FAULT -/
theorem m_textF {g : Gg} {b : Nat → Nat} {n : Nat} {R : (Nat × Nat) × Nat × (Nat → Nat)} (hT : Tb g n b) (hS : Cs g) (ht : txt b n (n + 1) 0 0 z0 = some R) {c s : Nat} (hc : (R.1 = (c, s) ∧ c ≠ 0) ∨ (R.1.1 = 0 ∧ R.1.2 = n ∧ ¬ R.2.2 78 ≤ R.2.2 74 ∧ c = 6 ∧ s = n)) : ∃ g', FX9_text 78 (mk g) = some (mi 10 - nI s, mk (up (up g' 78 10 (nI 0)) 78 11 (nI c))) ∧ Fz g g' := by
  have hn := hT.1
  have c6 := txt_c _ _ _ _ R ht
  obtain ⟨g1, e1, f1, r1, u1⟩ := m_text0 hT
  obtain ⟨g2, l', e2, f2, P⟩ := m_loop (n + 1) fu 0 0 z0 g1 R ht (by rw [fu_1]; omega) (hT.z f1) (hS.z f1) r1 Zd_0 (Nat.zero_le n) u1
  rw [e1, e2]
  rcases hc with ⟨hc, c0⟩ | ⟨h0, hn2, hh, rfl, rfl⟩
  · rw [hc] at P c6
    rcases P with ⟨-, h12, h13⟩ | ⟨q0, -⟩
    · have h12 : g2 78 12 = nI c := h12
      have h13 : g2 78 13 = nI s := h13
      have c6 : c ≤ 6 := c6
      refine ⟨g2, ?_, f1.tr f2⟩
      have e := m_110b (l := nI l') h12 h13 c0 c6
      simp -dsimp -implicitDefEqProofs (disch := omega) only [bnd_u, gd_t, if_true, if_false, ↓reduceIte, eq_self, true_or, or_true, false_or, or_false, not_true_eq_false, not_false_eq_true, and_true, true_and, and_false, false_and, reduceCtorEq, nI_ge, nI_le, nI_lt, nI_nlt, nI_ne, nI_te, nm_eq, mn_eq, nm_le, mn_le, nm_lt, mn_lt, pk_mul, nI_add, pk_sub, nI_clamp, eX9_text_86, hMo, h12, e]
    · exact absurd q0 c0
  · rcases P with ⟨q0, -⟩ | ⟨-, -, h12, h15, hR, hZ⟩
    · exact absurd h0 q0
    · rw [hn2] at h15
      have hm8 := hR.2.2.2.2.2
      have hm4 := hR.2.1
      have h78 := hZ.2.2.2.2.2.1
      have h74 := hZ.2.1
      have hlt : (hm (R.2.2 78) < nI (R.2.2 74)) = False := by rw [hm_lt (by omega) (by omega)]; exact eq_false hh
      obtain ⟨w, ew⟩ : ∃ w, w = up (up g2 78 12 (nI 6)) 78 13 (nI s) := ⟨_, rfl⟩
      have hf := m_fails0 (c := 6) h12 h15
      rw [← ew] at hf
      have w12 : w 78 12 = nI 6 := by rw [ew, up_c, pk_un (by decide), up_c, pk_us]
      have w13 : w 78 13 = nI s := by rw [ew, up_c, pk_us]
      have e := m_110b (l := nI l') w12 w13 (by decide) (by decide)
      refine ⟨w, ?_, (f1.tr f2).tr ?_⟩
      · simp -dsimp -implicitDefEqProofs (disch := omega) only [bnd_u, gd_t, if_true, if_false, ↓reduceIte, eq_self, true_or, or_true, false_or, or_false, not_true_eq_false, not_false_eq_true, and_true, true_and, and_false, false_and, reduceCtorEq, nI_ge, nI_le, nI_lt, nI_nlt, nI_ne, nI_te, nm_eq, mn_eq, nm_le, mn_le, nm_lt, mn_lt, pk_mul, nI_add, pk_sub, nI_clamp, eX9_text_86, hMo, h12, hm8, hm4, hlt, hf, e]
      · rw [ew]; exact Fz.c (l := [12, 13]) ((Fc.u (by decide)).ux (by decide)) (by decide)
/-- a text with none -/
theorem m_textO {g : Gg} {b : Nat → Nat} {n : Nat} {R : (Nat × Nat) × Nat × (Nat → Nat)} (hT : Tb g n b) (hS : Cs g) (ht : txt b n (n + 1) 0 0 z0 = some R) (h0 : R.1.1 = 0) (hh : R.2.2 78 ≤ R.2.2 74) : ∃ g', FX9_text 78 (mk g) = some (nI R.2.1, mk g') ∧ (∀ d, d ≠ 78 → d ≠ 79 → d ≠ 81 → d ≠ 90 → g' d = g d) ∧ (∀ i, i ∉ [2, 4, 5, 6, 7, 8, 10, 11, 12, 13, 14, 15, 16, 17, 24] → g' 78 i = g 78 i) ∧ g' 78 2 = nI (R.2.2 74) ∧ g' 78 10 = nI 0 ∧ g' 78 11 = nI 0 ∧ g' 78 24 = nI 0 ∧ (∀ i, i < 74 → g' 79 i = nI (R.2.2 i)) ∧ g' 90 0 = nI 0 ∧ g' 90 1 = nI 0 := by
  have hn := hT.1
  obtain ⟨g1, e1, f1, r1, u1⟩ := m_text0 hT
  obtain ⟨g2, l', e2, f2, P⟩ := m_loop (n + 1) fu 0 0 z0 g1 R ht (by rw [fu_1]; omega) (hT.z f1) (hS.z f1) r1 Zd_0 (Nat.zero_le n) u1
  rw [e1, e2]
  rcases P with ⟨q0, -⟩ | ⟨-, rfl, h12, h15, hR, hZ⟩
  · exact absurd h0 q0
  · have f12 := f1.tr f2
    have hm8 := hR.2.2.2.2.2
    have hm4 := hR.2.1
    have h78 := hZ.2.2.2.2.2.1
    have h74 := hZ.2.1
    have hlt : (hm (R.2.2 78) < nI (R.2.2 74)) = True := by rw [hm_lt (by omega) (by omega)]; exact eq_true hh
    obtain ⟨u, eu⟩ : ∃ u, u = up (up g2 78 10 (nI 0)) 78 11 (nI 0) := ⟨_, rfl⟩
    have k1 : up g2 78 10 (nI 0) 78 12 = nI 0 := by rw [up_c, pk_un (by decide), h12]
    have u12 : u 78 12 = nI 0 := by rw [eu, up_c, pk_un (by decide), k1]
    have u4 : u 78 4 = nI (R.2.2 74) := by rw [eu, up_c, pk_un (by decide), up_c, pk_un (by decide), hm4]
    have u10 : u 78 10 = nI 0 := by rw [eu, up_c, pk_un (by decide), up_c, pk_us]
    have u11 : u 78 11 = nI 0 := by rw [eu, up_c, pk_us]
    have uo : ∀ i, i ≠ 10 → i ≠ 11 → u 78 i = g2 78 i := fun i a1 a2 => by rw [eu, up_c, pk_un a2, up_c, pk_un a1]
    have uc : ∀ d, d ≠ 78 → u d = g2 d := fun d hd => by rw [eu, up_n hd, up_n hd]
    have e3 : FX9_text_86 78 (nI R.2.1) (mk g2) = FX9_text_140 fu 78 (nI R.2.1) (nI 0) (mk u) := by
      rw [eu]
      rw [eu] at u12
      simp -dsimp -implicitDefEqProofs (disch := omega) only [bnd_u, gd_t, if_true, if_false, ↓reduceIte, eq_self, true_or, or_true, false_or, or_false, not_true_eq_false, not_false_eq_true, and_true, true_and, and_false, false_and, reduceCtorEq, nI_ge, nI_le, nI_lt, nI_nlt, nI_ne, nI_te, nm_eq, mn_eq, nm_le, mn_le, nm_lt, mn_lt, pk_mul, nI_add, pk_sub, nI_clamp, eX9_text_86, eX9_text_110, hMo, h12, hm8, hm4, hlt, k1, u12]
    rw [e3]
    refine lp_0 (σ := Gg) (fun m k v => FX9_text_140 m 78 (nI R.2.1) (nI k) (mk v)) 74 (fun k v => Fr [79] u v ∧ ∀ j, j < k → v 79 j = nI (R.2.2 j)) (fun o => ∃ g', o = some (nI R.2.1, mk g') ∧ (∀ d, d ≠ 78 → d ≠ 79 → d ≠ 81 → d ≠ 90 → g' d = g d) ∧ (∀ i, i ∉ [2, 4, 5, 6, 7, 8, 10, 11, 12, 13, 14, 15, 16, 17, 24] → g' 78 i = g 78 i) ∧ g' 78 2 = nI (R.2.2 74) ∧ g' 78 10 = nI 0 ∧ g' 78 11 = nI 0 ∧ g' 78 24 = nI 0 ∧ (∀ i, i < 74 → g' 79 i = nI (R.2.2 i)) ∧ g' 90 0 = nI 0 ∧ g' 90 1 = nI 0) ⟨Fr.refl, fun j hj => absurd hj (by omega)⟩ (by decide) ?_ ?_
    · intro m k v hk ⟨i1, i2⟩
      have rd : v 81 k = nI (R.2.2 k) := by rw [i1 81 (by decide), uc 81 (by decide)]; exact hR.1 k hk
      refine Or.inr ⟨up v 79 k (nI (R.2.2 k)), ?_, i1.tr (Fr.c (l := [79]) (by decide)) (fun c hc => ⟨hc, hc⟩), fun j hj => ?_⟩
      · simp -dsimp -implicitDefEqProofs (disch := omega) only [bnd_u, gd_t, if_true, if_false, ↓reduceIte, eq_self, true_or, or_true, false_or, or_false, not_true_eq_false, not_false_eq_true, and_true, true_and, and_false, false_and, reduceCtorEq, nI_ge, nI_le, nI_lt, nI_nlt, nI_ne, nI_te, nm_eq, mn_eq, nm_le, mn_le, nm_lt, mn_lt, pk_mul, nI_add, pk_sub, nI_clamp, eX9_text_140, hMo, rd]
      · rw [up_c]
        by_cases e : j = k
        · rw [e, pk_us]
        · rw [pk_un e]; exact i2 j (by omega)
    · intro m v ⟨i1, i2⟩
      have v78 := i1 78 (by decide)
      have v4 : v 78 4 = nI (R.2.2 74) := by rw [v78, u4]
      obtain ⟨w, ew⟩ : ∃ w, w = up (up v 78 2 (nI (R.2.2 74))) 78 24 (nI 0) := ⟨_, rfl⟩
      have wo : ∀ i, i ≠ 2 → i ≠ 24 → w 78 i = v 78 i := fun i a1 a2 => by rw [ew, up_c, pk_un a2, up_c, pk_un a1]
      have wc : ∀ d, d ≠ 78 → w d = v d := fun d hd => by rw [ew, up_n hd, up_n hd]
      refine ⟨up (up w 90 0 (nI 0)) 90 1 (nI 0), ?_, fun d d1 d2 d3 d4 => ?_, fun i hi => ?_, ?_, ?_, ?_, ?_, fun i hi => ?_, ?_, ?_⟩
      · rw [ew]
        simp -dsimp -implicitDefEqProofs (disch := omega) only [bnd_u, gd_t, if_true, if_false, ↓reduceIte, eq_self, true_or, or_true, false_or, or_false, not_true_eq_false, not_false_eq_true, and_true, true_and, and_false, false_and, reduceCtorEq, nI_ge, nI_le, nI_lt, nI_nlt, nI_ne, nI_te, nm_eq, mn_eq, nm_le, mn_le, nm_lt, mn_lt, pk_mul, nI_add, pk_sub, nI_clamp, eX9_text_140, hMo, v4]
      · rw [up_n d4, up_n d4, wc d d1, i1 d (by simpa using d2), uc d d1, f12.1 d d1 d3]
      · rw [up_n (by decide), up_n (by decide), wo i (fun e => hi (by rw [e]; decide)) (fun e => hi (by rw [e]; decide)), v78, uo i (fun e => hi (by rw [e]; decide)) (fun e => hi (by rw [e]; decide)), f12.2 i (fun h => hi (by revert h; unfold zl; simp <;> omega))]
      · rw [up_n (by decide), up_n (by decide), ew, up_c, pk_un (by decide), up_c, pk_us]
      · rw [up_n (by decide), up_n (by decide), wo 10 (by decide) (by decide), v78, u10]
      · rw [up_n (by decide), up_n (by decide), wo 11 (by decide) (by decide), v78, u11]
      · rw [up_n (by decide), up_n (by decide), ew, up_c, pk_us]
      · rw [up_n (by decide), up_n (by decide), wc 79 (by decide)]; exact i2 i hi
      · rw [up_c, pk_un (by decide), up_c, pk_us]
      · rw [up_c, pk_us]
