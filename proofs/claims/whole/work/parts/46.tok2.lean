/-! text: the class's TOKEN -/
theorem c_fig {g : Gg} {b : Nat → Nat} {n s : Nat} (hT : Ta g n b) (h6 : g 18 6 = nI s) (h7 : g 18 7 = nI s) (hs : s < n) (hf : isF (b s) = true) : ∃ r g', FX5_takeFigures 18 (mk g) = some (nI r, mk g') ∧ Fc 18 [3, 4, 7, 8] g g' ∧ ((eF b n s ≤ s + 2 ∧ r = 1 ∧ g' 18 3 = g 18 3 ∧ g' 18 4 = g 18 4 ∧ g' 18 7 = nI (eF b n s) ∧ g' 18 8 = nI (vF b s (eF b n s - s))) ∨ (s + 2 < eF b n s ∧ r = 0 ∧ g' 18 3 = nI 1 ∧ g' 18 4 = nI s)) := by
  have hn := hT.1
  obtain ⟨g0, eg0⟩ : ∃ g0, g0 = up g 18 8 (nI 0) := ⟨_, rfl⟩
  have e0 : FX5_takeFigures 18 (mk g) = FX5_takeFigures_5 fu 18 (mk g0) := by
    rw [eg0]
    simp -dsimp -implicitDefEqProofs (disch := omega) only [bnd_u, gd_t, if_true, if_false, ↓reduceIte, eq_self, true_or, or_true, false_or, or_false, not_true_eq_false, not_false_eq_true, and_true, true_and, and_false, false_and, reduceCtorEq, nI_ge, nI_le, nI_lt, nI_nlt, nI_ne, nI_te, nm_eq, mn_eq, nm_le, mn_le, nm_lt, mn_lt, pk_mul, nI_add, pk_sub, nI_clamp, eX5_takeFigures, hRd]
  have f0 : Fc 18 [3, 4, 7, 8] g g0 := by rw [eg0]; exact Fc.u (by decide)
  have hT0 : Ta g0 n b := hT.c f0 (by decide)
  have a8 : g0 18 8 = nI 0 := by rw [eg0, up_c, pk_us]
  have a6 : g0 18 6 = nI s := by rw [f0.2 6 (by decide), h6]
  have a7 : g0 18 7 = nI s := by rw [eg0, up_c, pk_un (by decide), h7]
  have a3 : g0 18 3 = g 18 3 := by rw [eg0, up_c, pk_un (by decide)]
  have a4 : g0 18 4 = g 18 4 := by rw [eg0, up_c, pk_un (by decide)]
  rw [e0, show fu = 4093 + 1 + 1 + 1 from rfl, c_f1 (m := 4093 + 1 + 1) hT0 a6 a7 a8 hs hf (Nat.le_refl s) (by omega)]
  obtain ⟨g1, eg1⟩ : ∃ g1, g1 = up (up g0 18 8 (nI (0 * 10 + b s - 48))) 18 7 (nI (s + 1)) := ⟨_, rfl⟩
  rw [← eg1]
  have f1 : Fc 18 [3, 4, 7, 8] g g1 := by rw [eg1]; exact (f0.ux (by decide)).ux (by decide)
  have hT1 : Ta g1 n b := hT.c f1 (by decide)
  have b8 : g1 18 8 = nI (b s - 48) := by rw [eg1, up_c, pk_un (by decide), up_c, pk_us, Nat.zero_mul, Nat.zero_add]
  have b6 : g1 18 6 = nI s := by rw [f1.2 6 (by decide), h6]
  have b7 : g1 18 7 = nI (s + 1) := by rw [eg1, up_c, pk_us]
  have b3 : g1 18 3 = g 18 3 := by rw [eg1, up_c, pk_un (by decide), up_c, pk_un (by decide), a3]
  have b4 : g1 18 4 = g 18 4 := by rw [eg1, up_c, pk_un (by decide), up_c, pk_un (by decide), a4]
  have hfs := isF_t hf
  by_cases h1 : s + 1 < n ∧ isF (b (s + 1)) = true
  · obtain ⟨h1, hf1⟩ := h1
    have hfs1 := isF_t hf1
    rw [c_f1 (m := 4093 + 1) hT1 b6 b7 b8 h1 hf1 (by omega) (by omega)]
    obtain ⟨g2, eg2⟩ : ∃ g2, g2 = up (up g1 18 8 (nI ((b s - 48) * 10 + b (s + 1) - 48))) 18 7 (nI (s + 1 + 1)) := ⟨_, rfl⟩
    rw [← eg2]
    have f2 : Fc 18 [3, 4, 7, 8] g g2 := by rw [eg2]; exact (f1.ux (by decide)).ux (by decide)
    have hT2 : Ta g2 n b := hT.c f2 (by decide)
    have c8 : g2 18 8 = nI (10 * (b s - 48) + (b (s + 1) - 48)) := by
      rw [eg2, up_c, pk_un (by decide), up_c, pk_us, show (b s - 48) * 10 + b (s + 1) - 48 = 10 * (b s - 48) + (b (s + 1) - 48) by omega]
    have c6 : g2 18 6 = nI s := by rw [f2.2 6 (by decide), h6]
    have c7 : g2 18 7 = nI (s + 2) := by rw [eg2, up_c, pk_us]
    have c3 : g2 18 3 = g 18 3 := by rw [eg2, up_c, pk_un (by decide), up_c, pk_un (by decide), b3]
    have c4 : g2 18 4 = g 18 4 := by rw [eg2, up_c, pk_un (by decide), up_c, pk_un (by decide), b4]
    by_cases h2 : s + 2 < n ∧ isF (b (s + 2)) = true
    · obtain ⟨h2, hf2⟩ := h2
      have ee : s + 2 < eF b n s := by
        rw [eF_s hs hf, eF_s h1 hf1, eF_s h2 hf2]
        exact eF_ge b n (s + 2 + 1)
      refine ⟨0, up (up g2 18 3 (nI 1)) 18 4 (nI s), c_f2 hT2 c6 c7 h2 hf2 (by omega), (f2.ux (by decide)).ux (by decide), Or.inr ⟨ee, rfl, ?_, ?_⟩⟩
      · rw [up_c, pk_un (by decide), up_c, pk_us]
      · rw [up_c, pk_us]
    · have ee : eF b n s = s + 2 := by
        rw [eF_s hs hf, eF_s h1 hf1]
        refine eF_0 ?_
        rcases Nat.lt_or_ge (s + 1 + 1) n with h | h
        · refine Or.inr ?_
          cases hc : isF (b (s + 1 + 1))
          · rfl
          · exact absurd ⟨h, hc⟩ h2
        · exact Or.inl h
      have hq : s + 2 = n ∨ (s + 2 < n ∧ isF (b (s + 2)) = false) := by
        rcases Nat.lt_or_ge (s + 2) n with h | h
        · refine Or.inr ⟨h, ?_⟩
          cases hc : isF (b (s + 2))
          · rfl
          · exact absurd ⟨h, hc⟩ h2
        · exact Or.inl (by omega)
      refine ⟨1, g2, c_f0 hT2 c7 hq, f2, Or.inl ⟨by omega, rfl, c3, c4, by rw [ee]; exact c7, ?_⟩⟩
      rw [c8, ee, show s + 2 - s = 2 by omega]; rfl
  · have ee : eF b n s = s + 1 := by
      rw [eF_s hs hf]
      refine eF_0 ?_
      rcases Nat.lt_or_ge (s + 1) n with h | h
      · refine Or.inr ?_
        cases hc : isF (b (s + 1))
        · rfl
        · exact absurd ⟨h, hc⟩ h1
      · exact Or.inl h
    have hq : s + 1 = n ∨ (s + 1 < n ∧ isF (b (s + 1)) = false) := by
      rcases Nat.lt_or_ge (s + 1) n with h | h
      · refine Or.inr ⟨h, ?_⟩
        cases hc : isF (b (s + 1))
        · rfl
        · exact absurd ⟨h, hc⟩ h1
      · exact Or.inl (by omega)
    refine ⟨1, g1, c_f0 hT1 b7 hq, f1, Or.inl ⟨by omega, rfl, b3, b4, by rw [ee]; exact b7, ?_⟩⟩
    rw [b8, ee, show s + 1 - s = 1 by omega]; rfl
/-- what the class's takeToken leaves: the TOKEN whose first byte is at s -/
def Tk (g g' : Gg) (b : Nat → Nat) (n s r : Nat) : Prop := Fc 18 [3, 4, 5, 6, 7, 8] g g' ∧ ((kK b n s = 4 ∧ r = 0 ∧ g' 18 3 = nI 1 ∧ g' 18 4 = nI s) ∨ (kK b n s ≠ 4 ∧ r = 1 ∧ g' 18 3 = g 18 3 ∧ g' 18 4 = g 18 4 ∧ g' 18 5 = nI (kK b n s) ∧ g' 18 6 = nI s ∧ g' 18 7 = nI (kE b n s) ∧ g' 18 8 = (if kK b n s = 2 then nI (kV b n s) else g 18 8)))
theorem c_tk {g : Gg} {b : Nat → Nat} {n s : Nat} (hT : Ta g n b) (h7 : g 18 7 = nI s) (hs : s ≤ n) : ∃ r g', FX5_takeToken_44 18 (mk g) = some (nI r, mk g') ∧ Tk g g' b n s r := by
  have hn := hT.1
  obtain ⟨v, ev⟩ : ∃ v, v = up g 18 6 (nI s) := ⟨_, rfl⟩
  have fv : Fc 18 [3, 4, 5, 6, 7, 8] g v := by rw [ev]; exact Fc.u (by decide)
  have hTv : Ta v n b := hT.c fv (by decide)
  have v16 := hTv.2.1
  have v6 : v 18 6 = nI s := by rw [ev, up_c, pk_us]
  have vo : ∀ i, i ≠ 6 → v 18 i = g 18 i := fun i hi => by rw [ev, up_c, pk_un hi]
  rcases Nat.lt_or_ge s n with h | h
  · have hA := hTv.a h
    have hb := (hT.2.2 s h).1
    cases hl : isL (b s)
    · have l0 := fun M => c_ltN (M := M) hl hb
      cases hf : isF (b s)
      · have g0 := fun M => c_fiN (M := M) hf hb
        by_cases h59 : b s = 59
        · have kk : kK b n s = 3 := by rw [kK, if_neg (by omega), hl, if_neg (by decide), hf, if_neg (by decide), if_pos h59]
          have ke : kE b n s = s + 1 := by rw [kE, if_neg (by omega), hl, if_neg (by decide), hf, if_neg (by decide)]
          have k7 : up v 18 5 (nI 3) 18 7 = nI s := by rw [up_c, pk_un (by decide), vo 7 (by decide), h7]
          refine ⟨1, up (up v 18 5 (nI 3)) 18 7 (nI (s + 1)), ?_, (fv.ux (by decide)).ux (by decide), Or.inr ⟨by omega, rfl, ?_, ?_, ?_, ?_, ?_, ?_⟩⟩
          · rw [h59] at hA l0 g0
            simp -dsimp -implicitDefEqProofs (disch := omega) only [bnd_u, gd_t, if_true, if_false, ↓reduceIte, eq_self, true_or, or_true, false_or, or_false, not_true_eq_false, not_false_eq_true, and_true, true_and, and_false, false_and, reduceCtorEq, nI_ge, nI_le, nI_lt, nI_nlt, nI_ne, nI_te, nm_eq, mn_eq, nm_le, mn_le, nm_lt, mn_lt, pk_mul, nI_add, pk_sub, nI_clamp, eX5_takeToken_44, eX5_takeToken_153, hRd, hTS, h7, ← ev, v6, v16, hA, l0, g0, k7]
          · rw [up_c, pk_un (by decide), up_c, pk_un (by decide), vo 3 (by decide)]
          · rw [up_c, pk_un (by decide), up_c, pk_un (by decide), vo 4 (by decide)]
          · rw [up_c, pk_un (by decide), up_c, pk_us, kk]
          · rw [up_c, pk_un (by decide), up_c, pk_un (by decide), v6]
          · rw [up_c, pk_us, ke]
          · rw [up_c, pk_un (by decide), up_c, pk_un (by decide), vo 8 (by decide), kk, if_neg (by decide)]
        · have kk : kK b n s = 4 := by rw [kK, if_neg (by omega), hl, if_neg (by decide), hf, if_neg (by decide), if_neg h59]
          have hm := c_meet (c := 1) v6
          refine ⟨0, up (up v 18 3 (nI 1)) 18 4 (nI s), ?_, (fv.ux (by decide)).ux (by decide), Or.inl ⟨kk, rfl, ?_, ?_⟩⟩
          · simp -dsimp -implicitDefEqProofs (disch := omega) only [bnd_u, gd_t, if_true, if_false, ↓reduceIte, eq_self, true_or, or_true, false_or, or_false, not_true_eq_false, not_false_eq_true, and_true, true_and, and_false, false_and, reduceCtorEq, nI_ge, nI_le, nI_lt, nI_nlt, nI_ne, nI_te, nm_eq, mn_eq, nm_le, mn_le, nm_lt, mn_lt, pk_mul, nI_add, pk_sub, nI_clamp, eX5_takeToken_44, hRd, hTS, h7, ← ev, v6, v16, hA, l0, g0, hm]
          · rw [up_c, pk_un (by decide), up_c, pk_us]
          · rw [up_c, pk_us]
      · have g1 := fun M => c_fi (M := M) hf
        obtain ⟨w, ew⟩ : ∃ w, w = up v 18 5 (nI 2) := ⟨_, rfl⟩
        have fw : Fc 18 [3, 4, 5, 6, 7, 8] g w := by rw [ew]; exact fv.ux (by decide)
        have wo : ∀ i, i ≠ 5 → w 18 i = v 18 i := fun i hi => by rw [ew, up_c, pk_un hi]
        obtain ⟨r, g', e, f, c⟩ := c_fig (hT.c fw (by decide)) (by rw [wo 6 (by decide), v6]) (by rw [wo 7 (by decide), vo 7 (by decide), h7]) h hf
        have ke : kE b n s = eF b n s := by rw [kE, if_neg (by omega), hl, if_neg (by decide), hf, if_pos rfl]
        have kv : kV b n s = vF b s (eF b n s - s) := by rw [kV, if_neg (by omega), hl, if_neg (by decide), hf, if_pos rfl]
        have ff : Fc 18 [3, 4, 5, 6, 7, 8] g g' := fw.tr (f.mo (by decide))
        have hr : r = 0 ∨ r = 1 := by rcases c with c | c <;> omega
        have ee : FX5_takeToken_44 18 (mk g) = some (nI r, mk g') := by
          rcases hr with rfl | rfl
          · simp -dsimp -implicitDefEqProofs (disch := omega) only [bnd_u, gd_t, if_true, if_false, ↓reduceIte, eq_self, true_or, or_true, false_or, or_false, not_true_eq_false, not_false_eq_true, and_true, true_and, and_false, false_and, reduceCtorEq, nI_ge, nI_le, nI_lt, nI_nlt, nI_ne, nI_te, nm_eq, mn_eq, nm_le, mn_le, nm_lt, mn_lt, pk_mul, nI_add, pk_sub, nI_clamp, eX5_takeToken_44, hRd, hTS, h7, ← ev, v6, v16, hA, l0, g1, ← ew, e]
          · simp -dsimp -implicitDefEqProofs (disch := omega) only [bnd_u, gd_t, if_true, if_false, ↓reduceIte, eq_self, true_or, or_true, false_or, or_false, not_true_eq_false, not_false_eq_true, and_true, true_and, and_false, false_and, reduceCtorEq, nI_ge, nI_le, nI_lt, nI_nlt, nI_ne, nI_te, nm_eq, mn_eq, nm_le, mn_le, nm_lt, mn_lt, pk_mul, nI_add, pk_sub, nI_clamp, eX5_takeToken_44, hRd, hTS, h7, ← ev, v6, v16, hA, l0, g1, ← ew, e]
        refine ⟨r, g', ee, ff, ?_⟩
        rcases c with ⟨c0, c1, c2, c3, c4, c5⟩ | ⟨c0, c1, c2, c3⟩
        · have kk : kK b n s = 2 := by rw [kK, if_neg (by omega), hl, if_neg (by decide), hf, if_pos rfl, if_pos c0]
          refine Or.inr ⟨by omega, c1, ?_, ?_, ?_, ?_, ?_, ?_⟩
          · rw [c2, wo 3 (by decide), vo 3 (by decide)]
          · rw [c3, wo 4 (by decide), vo 4 (by decide)]
          · rw [f.2 5 (by decide), ew, up_c, pk_us, kk]
          · rw [f.2 6 (by decide), wo 6 (by decide), v6]
          · rw [c4, ke]
          · rw [c5, kk, if_pos rfl, kv]
        · have kk : kK b n s = 4 := by rw [kK, if_neg (by omega), hl, if_neg (by decide), hf, if_pos rfl, if_neg (by omega)]
          exact Or.inl ⟨kk, c1, c2, c3⟩
    · have l1 := fun M => c_lt (M := M) hl
      obtain ⟨w, ew⟩ : ∃ w, w = up v 18 5 (nI 1) := ⟨_, rfl⟩
      have fw : Fc 18 [3, 4, 5, 6, 7, 8] g w := by rw [ew]; exact fv.ux (by decide)
      have wo : ∀ i, i ≠ 5 → w 18 i = v 18 i := fun i hi => by rw [ew, up_c, pk_un hi]
      obtain ⟨g', e, f, c⟩ := c_pass (n - s) fu s w (by omega) (by rw [fu_1]; omega) (hT.c fw (by decide)) (by rw [wo 7 (by decide), vo 7 (by decide), h7])
      have kk : kK b n s = 1 := by rw [kK, if_neg (by omega), hl, if_pos rfl]
      have ke : kE b n s = eL b n s := by rw [kE, if_neg (by omega), hl, if_pos rfl]
      refine ⟨1, g', ?_, fw.tr (f.mo (by decide)), Or.inr ⟨by omega, rfl, ?_, ?_, ?_, ?_, ?_, ?_⟩⟩
      · simp -dsimp -implicitDefEqProofs (disch := omega) only [bnd_u, gd_t, if_true, if_false, ↓reduceIte, eq_self, true_or, or_true, false_or, or_false, not_true_eq_false, not_false_eq_true, and_true, true_and, and_false, false_and, reduceCtorEq, nI_ge, nI_le, nI_lt, nI_nlt, nI_ne, nI_te, nm_eq, mn_eq, nm_le, mn_le, nm_lt, mn_lt, pk_mul, nI_add, pk_sub, nI_clamp, eX5_takeToken_44, eX5_takeToken_153, eX5_passLetters, hRd, hTS, h7, ← ev, v6, v16, hA, l1, ← ew, e]
      · rw [f.2 3 (by decide), wo 3 (by decide), vo 3 (by decide)]
      · rw [f.2 4 (by decide), wo 4 (by decide), vo 4 (by decide)]
      · rw [f.2 5 (by decide), ew, up_c, pk_us, kk]
      · rw [f.2 6 (by decide), wo 6 (by decide), v6]
      · rw [c, ke]; rfl
      · rw [f.2 8 (by decide), wo 8 (by decide), vo 8 (by decide), kk, if_neg (by decide)]
  · have es : s = n := by omega
    subst es
    have hA := hTv.n
    have kk : kK b s s = 0 := if_pos h
    have ke : kE b s s = s := if_pos h
    refine ⟨1, up v 18 5 (nI 0), ?_, fv.ux (by decide), Or.inr ⟨by omega, rfl, ?_, ?_, ?_, ?_, ?_, ?_⟩⟩
    · simp -dsimp -implicitDefEqProofs (disch := omega) only [bnd_u, gd_t, if_true, if_false, ↓reduceIte, eq_self, true_or, or_true, false_or, or_false, not_true_eq_false, not_false_eq_true, and_true, true_and, and_false, false_and, reduceCtorEq, nI_ge, nI_le, nI_lt, nI_nlt, nI_ne, nI_te, nm_eq, mn_eq, nm_le, mn_le, nm_lt, mn_lt, pk_mul, nI_add, pk_sub, nI_clamp, eX5_takeToken_44, eX5_takeToken_153, hRd, hTS, h7, ← ev, v6, v16, hA]
    · rw [up_c, pk_un (by decide), vo 3 (by decide)]
    · rw [up_c, pk_un (by decide), vo 4 (by decide)]
    · rw [up_c, pk_us, kk]
    · rw [up_c, pk_un (by decide), v6]
    · rw [up_c, pk_un (by decide), vo 7 (by decide), h7, ke]
    · rw [up_c, pk_un (by decide), vo 8 (by decide), kk, if_neg (by decide)]
theorem c_token {g : Gg} {b : Nat → Nat} {n p : Nat} (hT : Ta g n b) (h7 : g 18 7 = nI p) (hp : p ≤ n) : ∃ r g', FX5_takeToken 18 (mk g) = some (nI r, mk g') ∧ Tk g g' b n (sk b n p) r := by
  have hn := hT.1
  obtain ⟨g1, e1, f1, r1⟩ := c_sp (n - p) fu p g (by omega) (by rw [fu_1]; omega) hT h7
  obtain ⟨r, g', e2, f2, c⟩ := c_tk (hT.c f1 (by decide)) r1 (sk_le hp)
  refine ⟨r, g', ?_, (f1.mo (by decide)).tr f2, ?_⟩
  · rw [eX5_takeToken, e1, e2]
  · rw [f1.2 3 (by decide), f1.2 4 (by decide), f1.2 8 (by decide)] at c
    exact c
