/-! text: all lines; the class's -/
def txt (b : Nat → Nat) (n : Nat) : Nat → Nat → Nat → (Nat → Nat) → Option ((Nat × Nat) × Nat × (Nat → Nat))
  | 0, _, _, _ => none
  | d + 1, l, p, z => if kK b n (sk b n p) = 4 then some ((1, sk b n p), l, z) else if kK b n (sk b n p) = 0 then some ((0, sk b n p), l, z) else if (lineS b n (sk b n p) z).1.1 ≠ 0 then some ((lineS b n (sk b n p) z).1, l, z) else txt b n d (l + 1) (lineS b n (sk b n p) z).1.2 (lineS b n (sk b n p) z).2
theorem rot_Zd {b : Nat → Nat} {n : Nat} : ∀ (d : Nat) (t : Nat × Nat) (z : Nat → Nat), Zr z → Zd (rot b n d t z).2
  | 0, t, z, h => h.1
  | d + 1, t, z, h => by
    have h10 := h.1.1.q 75
    rw [rot]
    split
    · exact h.1
    · split
      · exact h.1
      · split
        · exact h.1
        · rename_i h9
          exact rot_Zd d _ _ (Zd_R h (by omega) (nu_rg b n (lo := 0) (hi := 5) (x := 0) t (by decide)).2)
theorem body_Zd {b : Nat → Nat} {n i : Nat} {t : Nat × Nat} {z : Nat → Nat} (hZ : Zd z) (hi : i < 9) (hf : full z i = false) (h6 : i = 6 → z 76 = 0) : Zd (body b n i t z).2 := by
  have hfl := of_decide_eq_false hf
  have k74 := hZ.2.1
  have k25 := hZ.1.tn
  have k56 := hZ.1.wn
  have k73 := hZ.1.en
  unfold body
  rcases (show i ≤ 3 ∨ i = 4 ∨ i = 5 ∨ i = 6 ∨ i = 7 ∨ i = 8 by omega) with h | rfl | rfl | rfl | rfl | rfl
  · rw [if_pos h]
    exact Zd_K hZ (by omega) h (nu_rg b n (lo := 0) (hi := 2) (x := 0) t (by decide)).2
  · exact Zd_V hZ (Nat.lt_succ_of_le (nu_rg b n (lo := 0) (hi := 2) (x := z 77) t (by decide)).2) (nu_rg b n (lo := 0) (hi := 9) (x := 0) _ (by decide)).2
  · exact Zd_T hZ (by omega) (nu_rg b n (lo := 0) (hi := 9) (x := 0) _ (by decide)).2 (nu_rg b n (lo := 0) (hi := 2) (x := 0) _ (by decide)).2 (nu_rg b n (lo := 0) (hi := 9) (x := 0) _ (by decide)).2
  · exact rot_Zd 11 t _ (Zr_0 hZ (h6 rfl))
  · have hB := (nu_rg b n (lo := 0) (hi := 9) (x := 0) (nu b n 0 (fO 0 4 0) t).2 (by decide)).2
    have hC := nu_rg b n (x := 0) (nu b n 0 (fO 0 9 0) (nu b n 0 (fO 0 4 0) t).2).2 hB
    have hD := nu_rg b n (lo := 1) (hi := 9) (x := 0) (nu b n (nu b n 0 (fO 0 9 0) (nu b n 0 (fO 0 4 0) t).2).1 (fO (nu b n 0 (fO 0 9 0) (nu b n 0 (fO 0 4 0) t).2).1 9 0) (nu b n 0 (fO 0 9 0) (nu b n 0 (fO 0 4 0) t).2).2).2 (by decide)
    exact Zd_W hZ (by omega) (Nat.lt_succ_of_le (nu_rg b n (lo := 0) (hi := 4) (x := 0) t (by decide)).2) hC.1 hC.2 hD.1 hD.2
  · exact Zd_E hZ (by omega) (nu_rg b n (lo := 0) (hi := 9) (x := 0) _ (by decide)).2 (Nat.lt_succ_of_le (nu_rg b n (lo := 0) (hi := 4) (x := 0) _ (by decide)).2) (Nat.lt_succ_of_le (nu_rg b n (lo := 0) (hi := 4) (x := 0) _ (by decide)).2) (nu_rg b n (lo := 0) (hi := 2) (x := 0) _ (by decide)).2
theorem lineS_Zd {b : Nat → Nat} {n s : Nat} {z : Nat → Nat} (hZ : Zd z) : Zd (lineS b n s z).2 := by
  unfold lineS
  split
  · exact hZ
  · split
    · exact hZ
    · rename_i h9
      have hi : nm b s (kE b n s) < 9 := by
        rcases nm_i b s (kE b n s) with h | h
        · exact absurd h.1 h9
        · exact h.1
      have h76 := hZ.2.2.2.1
      unfold lineI
      split
      · exact hZ
      · split
        · exact hZ
        · rename_i hf ht
          exact body_Zd hZ hi (by simpa using hf) (fun h6 => by omega)
theorem kK_0 {b : Nat → Nat} {n s : Nat} (h : kK b n s = 0) : n ≤ s := by
  unfold kK at h
  split at h
  · assumption
  · split at h
    · omega
    · split at h
      · split at h <;> omega
      · split at h <;> omega
/-- what reading leaves in the class -/
def Pt (g : Gg) (n : Nat) (R : (Nat × Nat) × Nat × (Nat → Nat)) : Prop := (R.1.1 ≠ 0 ∧ g 18 3 = nI R.1.1 ∧ g 18 4 = nI R.1.2) ∨ (R.1.1 = 0 ∧ R.1.2 = n ∧ g 18 3 = nI 0 ∧ g 18 2 = nI R.2.1 ∧ Cl g R.2.2 ∧ Zd R.2.2)
theorem c_loop {b : Nat → Nat} {n : Nat} : ∀ (d fuel l p : Nat) (z : Nat → Nat) (g : Gg), n - p < d → d + 1 < fuel → l + (n - p) ≤ 160 → p ≤ n → Ta g n b → Cl g z → Zd z → g 18 2 = nI l → g 18 3 = nI 0 → g 18 5 = nI (kK b n (sk b n p)) → g 18 6 = nI (sk b n p) → g 18 7 = nI (kE b n (sk b n p)) → kK b n (sk b n p) ≠ 4 → ∃ g' R, txt b n d l p z = some R ∧ FX5_readTape_57 fuel 18 (nI (if kK b n (sk b n p) = 0 then 0 else 1)) (mk g) = FX5_readTape_113 18 (mk g') ∧ Fr cl18 g g' ∧ Pt g' n R
  | 0, fuel, l, p, z, g, hd, hf, hl, hp, hT, hC, hZ, h2, h3, h5, h6, h7, k4 => absurd hd (by omega)
  | d + 1, fuel, l, p, z, g, hd, hf, hl, hp, hT, hC, hZ, h2, h3, h5, h6, h7, k4 => by
    obtain ⟨m, rfl⟩ : ∃ m, fuel = m + 1 + 1 := ⟨fuel - 2, by omega⟩
    have hs := sk_le (b := b) hp
    have hge := sk_ge b n p
    rw [txt]
    revert h5 h6 h7 k4 hs hge
    generalize sk b n p = s
    intro h5 h6 h7 k4 hs hge
    rw [if_neg k4]
    by_cases k0 : kK b n s = 0
    · rw [if_pos k0, if_pos k0]
      have hsn := kK_0 k0
      refine ⟨g, _, rfl, ?_, Fr.refl, Or.inr ⟨rfl, ?_, h3, h2, hC, hZ⟩⟩
      · simp -dsimp -implicitDefEqProofs (disch := omega) only [bnd_u, gd_t, if_true, if_false, ↓reduceIte, eq_self, true_or, or_true, false_or, or_false, not_true_eq_false, not_false_eq_true, and_true, true_and, and_false, false_and, reduceCtorEq, nI_ge, nI_le, nI_lt, nI_nlt, nI_ne, nI_te, nm_eq, mn_eq, nm_le, mn_le, nm_lt, mn_lt, pk_mul, nI_add, pk_sub, nI_clamp, eX5_readTape_57]
      · show s = n
        omega
    · rw [if_neg k0, if_neg k0]
      have hsn := kK_pos k0
      have hE := kE_gt (b := b) hsn
      obtain ⟨r, g1, e1, fk, cs⟩ := c_line hT h5 h6 h7 hsn hC hZ
      have hZ1 := lineS_Zd (b := b) (n := n) (s := s) hZ
      revert e1 cs hZ1
      generalize lineS b n s z = R
      intro e1 cs hZ1
      rcases cs with ⟨rfl, c0, a3, a4⟩ | ⟨rfl, c0, pn, pp, a3, a7, hC1⟩
      · rw [if_pos c0]
        refine ⟨g1, _, rfl, ?_, fk.1, Or.inl ⟨c0, a3, a4⟩⟩
        have e0 : FX5_readTape_57 (m + 1) 18 (nI 0) (mk g1) = FX5_readTape_113 18 (mk g1) := by
          simp -dsimp -implicitDefEqProofs (disch := omega) only [bnd_u, gd_t, if_true, if_false, ↓reduceIte, eq_self, true_or, or_true, false_or, or_false, not_true_eq_false, not_false_eq_true, and_true, true_and, and_false, false_and, reduceCtorEq, nI_ge, nI_le, nI_lt, nI_nlt, nI_ne, nI_te, nm_eq, mn_eq, nm_le, mn_le, nm_lt, mn_lt, pk_mul, nI_add, pk_sub, nI_clamp, eX5_readTape_57]
        rw [eX5_readTape_57]
        simp -dsimp -implicitDefEqProofs (disch := omega) only [bnd_u, gd_t, if_true, if_false, ↓reduceIte, eq_self, true_or, or_true, false_or, or_false, not_true_eq_false, not_false_eq_true, and_true, true_and, and_false, false_and, reduceCtorEq, nI_ge, nI_le, nI_lt, nI_nlt, nI_ne, nI_te, nm_eq, mn_eq, nm_le, mn_le, nm_lt, mn_lt, pk_mul, nI_add, pk_sub, nI_clamp, hRd, h2, e1, e0]
      · rw [if_neg (by omega)]
        have a2 : g1 18 2 = nI l := by rw [fk.2, h2]
        obtain ⟨u, eu⟩ : ∃ u, u = up g1 18 2 (nI (l + 1)) := ⟨_, rfl⟩
        have fu9 : Fc 18 [2] g1 u := by rw [eu]; exact Fc.u (by decide)
        have u2 : u 18 2 = nI (l + 1) := by rw [eu, up_c, pk_us]
        have fru : Fr cl18 g u := fk.1.tr (l2 := cl18) (fun c hc => fu9.1 c (fun e => hc (by rw [e]; decide))) (fun c hc => ⟨hc, hc⟩)
        have hTu : Ta u n b := hT.f (fru 16 (by decide)) (fru 17 (by decide))
        obtain ⟨r2, g3, e3, f3, c3⟩ := c_token hTu (by rw [fu9.2 7 (by decide), a7]) pn
        have fr3 : Fr cl18 g g3 := fru.tr (l2 := cl18) (fun c hc => f3.1 c (fun e => hc (by rw [e]; decide))) (fun c hc => ⟨hc, hc⟩)
        have hC3 := (hC1.c fu9 (by decide)).c f3 (by decide)
        have g2 : g3 18 2 = nI (l + 1) := by rw [f3.2 2 (by decide), u2]
        rcases c3 with ⟨k, rfl, b3, b4⟩ | ⟨k, rfl, b3, b4, b5, b6, b7, b8⟩
        · obtain ⟨d2, rfl⟩ : ∃ d2, d = d2 + 1 := ⟨d - 1, by omega⟩
          rw [txt, if_pos k]
          refine ⟨g3, _, rfl, ?_, fr3, Or.inl ⟨by show (1 : Nat) ≠ 0; decide, b3, b4⟩⟩
          have e0 : FX5_readTape_57 (m + 1) 18 (nI 0) (mk g3) = FX5_readTape_113 18 (mk g3) := by
            simp -dsimp -implicitDefEqProofs (disch := omega) only [bnd_u, gd_t, if_true, if_false, ↓reduceIte, eq_self, true_or, or_true, false_or, or_false, not_true_eq_false, not_false_eq_true, and_true, true_and, and_false, false_and, reduceCtorEq, nI_ge, nI_le, nI_lt, nI_nlt, nI_ne, nI_te, nm_eq, mn_eq, nm_le, mn_le, nm_lt, mn_lt, pk_mul, nI_add, pk_sub, nI_clamp, eX5_readTape_57]
          rw [eX5_readTape_57]
          simp -dsimp -implicitDefEqProofs (disch := omega) only [bnd_u, gd_t, if_true, if_false, ↓reduceIte, eq_self, true_or, or_true, false_or, or_false, not_true_eq_false, not_false_eq_true, and_true, true_and, and_false, false_and, reduceCtorEq, nI_ge, nI_le, nI_lt, nI_nlt, nI_ne, nI_te, nm_eq, mn_eq, nm_le, mn_le, nm_lt, mn_lt, pk_mul, nI_add, pk_sub, nI_clamp, eX5_readTape_108, eX5_readTape_109, hRd, h2, e1, a2, ← eu, e3, e0]
        · obtain ⟨g', R', t', e', f', P'⟩ := c_loop d (m + 1) (l + 1) R.1.2 R.2 g3 (by omega) (by omega) (by omega) pn (hT.f (fr3 16 (by decide)) (fr3 17 (by decide))) hC3 hZ1 g2 (by rw [b3, fu9.2 3 (by decide), a3, h3]) b5 b6 b7 k
          refine ⟨g', R', t', ?_, fr3.tr f' (fun c hc => ⟨hc, hc⟩), P'⟩
          have hkl := kK_le b n (sk b n R.1.2)
          rw [eX5_readTape_57]
          by_cases k9 : kK b n (sk b n R.1.2) = 0
          · rw [if_pos k9] at e'
            rw [k9] at b5
            simp -dsimp -implicitDefEqProofs (disch := omega) only [bnd_u, gd_t, if_true, if_false, ↓reduceIte, eq_self, true_or, or_true, false_or, or_false, not_true_eq_false, not_false_eq_true, and_true, true_and, and_false, false_and, reduceCtorEq, nI_ge, nI_le, nI_lt, nI_nlt, nI_ne, nI_te, nm_eq, mn_eq, nm_le, mn_le, nm_lt, mn_lt, pk_mul, nI_add, pk_sub, nI_clamp, eX5_readTape_108, eX5_readTape_109, hRd, h2, e1, a2, ← eu, e3, b5, e']
          · rw [if_neg k9] at e'
            simp -dsimp -implicitDefEqProofs (disch := omega) only [bnd_u, gd_t, if_true, if_false, ↓reduceIte, eq_self, true_or, or_true, false_or, or_false, not_true_eq_false, not_false_eq_true, and_true, true_and, and_false, false_and, reduceCtorEq, nI_ge, nI_le, nI_lt, nI_nlt, nI_ne, nI_te, nm_eq, mn_eq, nm_le, mn_le, nm_lt, mn_lt, pk_mul, nI_add, pk_sub, nI_clamp, eX5_readTape_108, eX5_readTape_109, hRd, h2, e1, a2, ← eu, e3, b5, e']
