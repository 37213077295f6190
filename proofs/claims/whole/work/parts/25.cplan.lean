/-! the best rota: the class's plan -/
theorem c_end {g : Gg} {q : Nat → Nat} {K : Nat} (hF : F1 g q K) (hG : Gd q K) : ∃ g', FX4_fillEnd 38 1 (mk g) = some ((), mk g') ∧ Fr [39] g g' ∧ CT (g' 39) q K 10 := by
  have hK := hG.K
  have hwn := hG.wn
  have h2W : 2 ^ q 56 ≤ 32 := Nat.pow_le_pow_right (n := 2) (j := 5) (by decide) hwn
  have e0 : FX4_fillEnd 38 1 (mk g) = FX4_fillEnd_12 fu 38 1 (nI (2 ^ q 56)) (nI 0) (mk g) := by
    simp -dsimp -implicitDefEqProofs (disch := omega) only [bnd_u, gd_t, if_true, if_false, ↓reduceIte, eq_self, true_or, or_true, false_or, or_false, not_true_eq_false, not_false_eq_true, and_true, true_and, and_false, false_and, reduceCtorEq, nI_ge, nI_le, nI_lt, nI_nlt, nI_ne, nI_te, nm_eq, mn_eq, nm_le, mn_le, nm_lt, mn_lt, pk_mul, nI_add, pk_sub, nI_clamp, eX4_fillEnd, hFam, hF.2.2.2.2.2.1, nI_1shl]
  rw [e0]
  refine lp_0 (σ := Gg) (fun n s u => FX4_fillEnd_12 n 38 1 (nI (2 ^ q 56)) (nI s) (mk u)) (2 ^ q 56) (fun s u => Fr [39] g u ∧ ∀ a, a ≤ K → ∀ s', s' < s → u 39 (192 * 10 + 32 * a + s') = nI (wr q s')) (fun o => ∃ g', o = some ((), mk g') ∧ Fr [39] g g' ∧ CT (g' 39) q K 10) ⟨Fr.refl, fun a _ s' hs => absurd hs (by omega)⟩ (fu_l (by omega)) ?_ ?_
  · intro n s u hs ⟨i1, i2⟩
    refine Or.inr ?_
    have hFu := hF.f i1 (by decide)
    have e1 : FX4_fillEnd_12 (n + 1) 38 1 (nI (2 ^ q 56)) (nI s) (mk u) = FX4_fillEnd_23 n fu 38 1 (nI (2 ^ q 56)) (nI s) (nI 0) (nI 0) (mk u) := by
      simp -dsimp -implicitDefEqProofs (disch := omega) only [bnd_u, gd_t, if_true, if_false, ↓reduceIte, eq_self, true_or, or_true, false_or, or_false, not_true_eq_false, not_false_eq_true, and_true, true_and, and_false, false_and, reduceCtorEq, nI_ge, nI_le, nI_lt, nI_nlt, nI_ne, nI_te, nm_eq, mn_eq, nm_le, mn_le, nm_lt, mn_lt, pk_mul, nI_add, pk_sub, nI_clamp, eX4_fillEnd_12]
    rw [e1]
    refine lp_0 (σ := Int32) (fun m i b => FX4_fillEnd_23 n m 38 1 (nI (2 ^ q 56)) (nI s) b (nI i) (mk u)) (q 56) (fun i b => b = nI (fb_sm (fun i => if s.testBit i then q (36 + 4 * i + 3) else 0) i)) (fun o => ∃ s', o = FX4_fillEnd_12 n 38 1 (nI (2 ^ q 56)) (nI (s + 1)) (mk s') ∧ Fr [39] g s' ∧ ∀ a, a ≤ K → ∀ t, t < s + 1 → s' 39 (192 * 10 + 32 * a + t) = nI (wr q t)) rfl (fu_l (by omega)) ?_ ?_
    · intro m i b hi hb
      subst hb
      refine Or.inr ⟨_, ?_, rfl⟩
      rw [fb_sm_succ]
      have hbt := nI_bt (a := s) (i := i) (by omega) (by omega)
      cases e : s.testBit i <;> rw [e] at hbt
      · simp -dsimp -implicitDefEqProofs (disch := omega) only [bnd_u, gd_t, if_true, if_false, ↓reduceIte, eq_self, true_or, or_true, false_or, or_false, not_true_eq_false, not_false_eq_true, and_true, true_and, and_false, false_and, reduceCtorEq, nI_ge, nI_le, nI_lt, nI_nlt, nI_ne, nI_te, nm_eq, mn_eq, nm_le, mn_le, nm_lt, mn_lt, pk_mul, nI_add, pk_sub, nI_clamp, eX4_fillEnd_23, eX4_fillEnd_56, hFam, hFu.2.2.2.2.2.1, hbt, Bool.false_eq_true]
      · simp -dsimp -implicitDefEqProofs (disch := omega) only [bnd_u, gd_t, if_true, if_false, ↓reduceIte, eq_self, true_or, or_true, false_or, or_false, not_true_eq_false, not_false_eq_true, and_true, true_and, and_false, false_and, reduceCtorEq, nI_ge, nI_le, nI_lt, nI_nlt, nI_ne, nI_te, nm_eq, mn_eq, nm_le, mn_le, nm_lt, mn_lt, pk_mul, nI_add, pk_sub, nI_clamp, eX4_fillEnd_23, eX4_fillEnd_56, hFam, hFu.2.2.2.2.2.1, hbt, f_worth hFu hG hi, Bool.true_eq_false]
    · intro m b hb
      subst hb
      have e2 : FX4_fillEnd_23 n (m + 1) 38 1 (nI (2 ^ q 56)) (nI s) (nI (wr q s)) (nI (q 56)) (mk u) = FX4_fillEnd_68 n fu 38 1 (nI (2 ^ q 56)) (nI s) (nI (wr q s)) (nI 0) (mk u) := by
        simp -dsimp -implicitDefEqProofs (disch := omega) only [bnd_u, gd_t, if_true, if_false, ↓reduceIte, eq_self, true_or, or_true, false_or, or_false, not_true_eq_false, not_false_eq_true, and_true, true_and, and_false, false_and, reduceCtorEq, nI_ge, nI_le, nI_lt, nI_nlt, nI_ne, nI_te, nm_eq, mn_eq, nm_le, mn_le, nm_lt, mn_lt, pk_mul, nI_add, pk_sub, nI_clamp, eX4_fillEnd_23, hFam, hFu.2.2.2.2.2.1]
      show ∃ s', FX4_fillEnd_23 n (m + 1) 38 1 (nI (2 ^ q 56)) (nI s) (nI (wr q s)) (nI (q 56)) (mk u) = _ ∧ _
      rw [e2]
      refine lp_0 (σ := Gg) (fun m a v => FX4_fillEnd_68 n m 38 1 (nI (2 ^ q 56)) (nI s) (nI (wr q s)) (nI a) (mk v)) (K + 1) (fun a v => Fr [39] u v ∧ (∀ a', a' < a → v 39 (192 * 10 + 32 * a' + s) = nI (wr q s)) ∧ ∀ a', a' ≤ K → ∀ t, t < s → v 39 (192 * 10 + 32 * a' + t) = u 39 (192 * 10 + 32 * a' + t)) (fun o => ∃ s', o = FX4_fillEnd_12 n 38 1 (nI (2 ^ q 56)) (nI (s + 1)) (mk s') ∧ Fr [39] g s' ∧ ∀ a, a ≤ K → ∀ t, t < s + 1 → s' 39 (192 * 10 + 32 * a + t) = nI (wr q t)) ⟨Fr.refl, fun a ha => absurd ha (by omega), fun _ _ _ _ => rfl⟩ (fu_l (by omega)) ?_ ?_
      · intro m a v ha ⟨j1, j2, j3⟩
        have hFv := hFu.f j1 (by decide)
        refine Or.inr ⟨up v 39 (192 * 10 + 32 * a + s) (nI (wr q s)), ?_, j1.tr (Fr.c (l := [39]) (by decide)) (fun c hc => ⟨hc, hc⟩), fun a' ha' => ?_, fun a' ha' t ht => ?_⟩
        · simp -dsimp -implicitDefEqProofs (disch := omega) only [bnd_u, gd_t, if_true, if_false, ↓reduceIte, eq_self, true_or, or_true, false_or, or_false, not_true_eq_false, not_false_eq_true, and_true, true_and, and_false, false_and, reduceCtorEq, nI_ge, nI_le, nI_lt, nI_nlt, nI_ne, nI_te, nm_eq, mn_eq, nm_le, mn_le, nm_lt, mn_lt, pk_mul, nI_add, pk_sub, nI_clamp, eX4_fillEnd_68, hFam, hPl, hFv.1, p_place]
        · rw [up_c]
          by_cases e : a' = a
          · rw [e, pk_us]
          · rw [pk_un (by omega)]; exact j2 a' (by omega)
        · rw [up_c, pk_un (by omega)]; exact j3 a' ha' t ht
      · intro m v ⟨j1, j2, j3⟩
        have hFv := hFu.f j1 (by decide)
        refine ⟨v, ?_, i1.tr j1 (fun c hc => ⟨hc, hc⟩), fun a ha t ht => ?_⟩
        · simp -dsimp -implicitDefEqProofs (disch := omega) only [bnd_u, gd_t, if_true, if_false, ↓reduceIte, eq_self, true_or, or_true, false_or, or_false, not_true_eq_false, not_false_eq_true, and_true, true_and, and_false, false_and, reduceCtorEq, nI_ge, nI_le, nI_lt, nI_nlt, nI_ne, nI_te, nm_eq, mn_eq, nm_le, mn_le, nm_lt, mn_lt, pk_mul, nI_add, pk_sub, nI_clamp, eX4_fillEnd_68, hFam, hFv.1]
        · by_cases e : t = s
          · rw [e]; exact j2 a (by omega)
          · rw [j3 a ha t (by omega)]; exact i2 a ha t (by omega)
  · intro n u ⟨i1, i2⟩
    refine ⟨u, ?_, i1, ?_⟩
    · simp -dsimp -implicitDefEqProofs (disch := omega) only [bnd_u, gd_t, if_true, if_false, ↓reduceIte, eq_self, true_or, or_true, false_or, or_false, not_true_eq_false, not_false_eq_true, and_true, true_and, and_false, false_and, reduceCtorEq, nI_ge, nI_le, nI_lt, nI_nlt, nI_ne, nI_te, nm_eq, mn_eq, nm_le, mn_le, nm_lt, mn_lt, pk_mul, nI_add, pk_sub, nI_clamp, eX4_fillEnd_12]
    · intro h h1 h2 a ha s hs hsb
      have eh : h = 10 := by omega
      subst eh
      have hsW : s < 2 ^ q 56 := by
        apply Nat.lt_pow_two_of_testBit
        intro i hi
        cases e : s.testBit i
        · rfl
        · have := hsb i e
          unfold bg at this
          rw [msk_bit] at this
          simp at this
          omega
      exact i2 a ha s hsW
theorem nt_sub : ∀ s b : Fin 32, decide (nI s.val &&& (nI b.val ^^^ mi 1) = nI 0) = decide (s.val &&& b.val = s.val) := by decide +kernel
theorem Sb_iff {q : Nat → Nat} {h s : Nat} : Sb q h s ↔ s &&& bg q h = s := by
  constructor
  · intro hs
    apply Nat.eq_of_testBit_eq
    intro i
    rw [Nat.testBit_and]
    cases e : s.testBit i
    · rfl
    · rw [hs i e]; rfl
  · intro hs i hi
    rw [← hs, Nat.testBit_and, Bool.and_eq_true] at hi
    exact hi.2
theorem c_hour {g : Gg} {q : Nat → Nat} {K h : Nat} (hF : F1 g q K) (hG : Gd q K) (hT : CT (g 39) q K (h + 1)) (hh : h < 10) : ∃ g', FX4_fillHour 38 1 (nI h) (mk g) = some ((), mk g') ∧ Fr [39, 40] g g' ∧ CT (g' 39) q K h := by
  have hK := hG.K
  have hbg := bg_lt hG h
  have e0 : FX4_fillHour 38 1 (nI h) (mk g) = FX4_fillHour_9 fu 38 1 (nI h) (nI (bg q h)) (nI 0) (mk g) := by
    simp -dsimp -implicitDefEqProofs (disch := omega) only [bnd_u, gd_t, if_true, if_false, ↓reduceIte, eq_self, true_or, or_true, false_or, or_false, not_true_eq_false, not_false_eq_true, and_true, true_and, and_false, false_and, reduceCtorEq, nI_ge, nI_le, nI_lt, nI_nlt, nI_ne, nI_te, nm_eq, mn_eq, nm_le, mn_le, nm_lt, mn_lt, pk_mul, nI_add, pk_sub, nI_clamp, eX4_fillHour, c_begun hF hG (show h ≤ 10 by omega)]
  rw [e0]
  refine lp_0 (σ := Gg) (fun n a u => FX4_fillHour_9 n 38 1 (nI h) (nI (bg q h)) (nI a) (mk u)) (K + 1) (fun a u => Fr [39, 40] g u ∧ CT (u 39) q K (h + 1) ∧ ∀ a', a' < a → ∀ s, s < 32 → Sb q h s → u 39 (192 * h + 32 * a' + s) = nI (bsr q K (10 - h) (cc K a') s)) (fun o => ∃ g', o = some ((), mk g') ∧ Fr [39, 40] g g' ∧ CT (g' 39) q K h) ⟨Fr.refl, hT, fun a ha => absurd ha (by omega)⟩ (fu_l (by omega)) ?_ ?_
  · intro n a u ha ⟨i1, i2, i3⟩
    refine Or.inr ?_
    have hFu := hF.f i1 (by decide)
    obtain ⟨u1, k1, k2, k3, k4⟩ := c_gains hFu hG hh (show a ≤ K by omega)
    have f1 := i1.tr k2 (l := [39, 40]) (fun c hc => ⟨hc, fun h => hc (by simp at h; simp [h])⟩)
    have e1 : FX4_fillHour_9 (n + 1) 38 1 (nI h) (nI (bg q h)) (nI a) (mk u) = FX4_fillHour_32 n fu 38 1 (nI h) (nI (bg q h)) (nI a) (nI 0) (mk u1) := by
      simp -dsimp -implicitDefEqProofs (disch := omega) only [bnd_u, gd_t, if_true, if_false, ↓reduceIte, eq_self, true_or, or_true, false_or, or_false, not_true_eq_false, not_false_eq_true, and_true, true_and, and_false, false_and, reduceCtorEq, nI_ge, nI_le, nI_lt, nI_nlt, nI_ne, nI_te, nm_eq, mn_eq, nm_le, mn_le, nm_lt, mn_lt, pk_mul, nI_add, pk_sub, nI_clamp, eX4_fillHour_9, hFam, hPl, hFu.1, k1]
    rw [e1]
    have u39 : u1 39 = u 39 := k2 39 (by decide)
    refine lp_0 (σ := Gg) (fun m s v => FX4_fillHour_32 n m 38 1 (nI h) (nI (bg q h)) (nI a) (nI s) (mk v)) (bg q h + 1) (fun s v => Fr [39] u1 v ∧ (∀ j, (j < 192 * h + 32 * a ∨ 192 * h + 32 * a + 32 ≤ j) → v 39 j = u 39 j) ∧ ∀ s', s' < s → Sb q h s' → v 39 (192 * h + 32 * a + s') = nI (bsr q K (10 - h) (cc K a) s')) (fun o => ∃ s', o = FX4_fillHour_9 n 38 1 (nI h) (nI (bg q h)) (nI (a + 1)) (mk s') ∧ Fr [39, 40] g s' ∧ CT (s' 39) q K (h + 1) ∧ ∀ a', a' < a + 1 → ∀ s, s < 32 → Sb q h s → s' 39 (192 * h + 32 * a' + s) = nI (bsr q K (10 - h) (cc K a') s)) ⟨Fr.refl, fun j _ => by rw [u39], fun s hs => absurd hs (by omega)⟩ (fu_l (by omega)) ?_ ?_
    · intro m s v hs ⟨j1, j2, j3⟩
      refine Or.inr ?_
      have hFv := (hF.f f1 (by decide)).f j1 (by decide)
      have hst := nt_sub ⟨s, by omega⟩ ⟨bg q h, hbg⟩
      dsimp only at hst
      by_cases hsb : Sb q h s
      · have ht : nI s &&& (nI (bg q h) ^^^ mi 1) = nI 0 := by
          rw [decide_eq_true (Sb_iff.mp hsb)] at hst
          simpa using hst
        have hTv : CT (v 39) q K (h + 1) := fun h' h1 h2 a' ha' s' hs' hsb' => by
          rw [j2 _ (by omega)]; exact i2 h' h1 h2 a' ha' s' hs' hsb'
        have hg : ∀ k, k < K → v 40 k = nI (gn q k h (cc K a)) := fun k hk => by rw [j1 40 (by decide)]; exact k3 k hk
        have hg0 : v 40 K = nI 0 := by rw [j1 40 (by decide)]; exact k4
        have hmf := c_mostFrom hG hTv hg hg0 hh (show a ≤ K by omega) (show s < 32 by omega) hsb
        refine ⟨up v 39 (192 * h + 32 * a + s) (nI (bsr q K (10 - h) (cc K a) s)), ?_, j1.tr (Fr.c (l := [39]) (by decide)) (fun c hc => ⟨hc, hc⟩), fun j hj => ?_, fun s' hs' hsb' => ?_⟩
        · simp -dsimp -implicitDefEqProofs (disch := omega) only [bnd_u, gd_t, if_true, if_false, ↓reduceIte, eq_self, true_or, or_true, false_or, or_false, not_true_eq_false, not_false_eq_true, and_true, true_and, and_false, false_and, reduceCtorEq, nI_ge, nI_le, nI_lt, nI_nlt, nI_ne, nI_te, nm_eq, mn_eq, nm_le, mn_le, nm_lt, mn_lt, pk_mul, nI_add, pk_sub, nI_clamp, eX4_fillHour_32, eX4_fillHour_74, hFam, hPl, hFv.1, ht, p_place, hmf]
        · rw [up_c, pk_un (by omega)]; exact j2 j hj
        · rw [up_c]
          by_cases e : s' = s
          · rw [e, pk_us]
          · rw [pk_un (by omega)]; exact j3 s' (by omega) hsb'
      · have ht : ¬ nI s &&& (nI (bg q h) ^^^ mi 1) = nI 0 := by
          rw [decide_eq_false (fun e => hsb (Sb_iff.mpr e))] at hst
          simpa using hst
        refine ⟨v, ?_, j1, j2, fun s' hs' hsb' => ?_⟩
        · simp -dsimp -implicitDefEqProofs (disch := omega) only [bnd_u, gd_t, if_true, if_false, ↓reduceIte, eq_self, true_or, or_true, false_or, or_false, not_true_eq_false, not_false_eq_true, and_true, true_and, and_false, false_and, reduceCtorEq, nI_ge, nI_le, nI_lt, nI_nlt, nI_ne, nI_te, nm_eq, mn_eq, nm_le, mn_le, nm_lt, mn_lt, pk_mul, nI_add, pk_sub, nI_clamp, eX4_fillHour_32, eX4_fillHour_74, ht]
        · by_cases e : s' = s
          · exact absurd (e ▸ hsb') hsb
          · exact j3 s' (by omega) hsb'
    · intro m v ⟨j1, j2, j3⟩
      refine ⟨v, ?_, f1.tr j1 (fun c hc => ⟨hc, fun h => hc (by simp at h; simp [h])⟩), ?_, ?_⟩
      · simp -dsimp -implicitDefEqProofs (disch := omega) only [bnd_u, gd_t, if_true, if_false, ↓reduceIte, eq_self, true_or, or_true, false_or, or_false, not_true_eq_false, not_false_eq_true, and_true, true_and, and_false, false_and, reduceCtorEq, nI_ge, nI_le, nI_lt, nI_nlt, nI_ne, nI_te, nm_eq, mn_eq, nm_le, mn_le, nm_lt, mn_lt, pk_mul, nI_add, pk_sub, nI_clamp, eX4_fillHour_32]
      · intro h' h1 h2 a' ha' s' hs' hsb'
        rw [j2 _ (by omega)]; exact i2 h' h1 h2 a' ha' s' hs' hsb'
      · intro a' ha' s hs hsb
        by_cases e : a' = a
        · subst e
          have hle : s ≤ bg q h := by
            rw [← Sb_iff.mp hsb]; exact Nat.and_le_right
          exact j3 s (by omega) hsb
        · rw [j2 _ (by omega)]; exact i3 a' (by omega) s hs hsb
  · intro n u ⟨i1, i2, i3⟩
    have hFu := hF.f i1 (by decide)
    refine ⟨u, ?_, i1, ?_⟩
    · simp -dsimp -implicitDefEqProofs (disch := omega) only [bnd_u, gd_t, if_true, if_false, ↓reduceIte, eq_self, true_or, or_true, false_or, or_false, not_true_eq_false, not_false_eq_true, and_true, true_and, and_false, false_and, reduceCtorEq, nI_ge, nI_le, nI_lt, nI_nlt, nI_ne, nI_te, nm_eq, mn_eq, nm_le, mn_le, nm_lt, mn_lt, pk_mul, nI_add, pk_sub, nI_clamp, eX4_fillHour_9, hFam, hFu.1]
    · intro h' h1 h2 a ha s hs hsb
      by_cases e : h' = h
      · subst e; exact i3 a (by omega) s hs hsb
      · exact i2 h' (by omega) h2 a ha s hs hsb
theorem Sb_0 (q : Nat → Nat) (h : Nat) : Sb q h 0 := fun i hi => by simp at hi
theorem c_first {g : Gg} {q : Nat → Nat} {K : Nat} (hF : F1 g q K) (hG : Gd q K) (hT : CT (g 39) q K 0) : ∃ g', FX4_takeFirst 38 1 (mk g) = some ((), mk g') ∧ Fr [38, 40, 41] g g' ∧ (∀ i, i ≠ 6 → g' 38 i = g 38 i) ∧ g' 38 6 = nI (bst q K) ∧ ∀ h, h < 10 → g' 41 h = ho (bpl q K h) := by
  have hK := hG.K
  have hb45 := bsr_45 hG 10 5 0
  have h1 := hT 0 (by omega) (by omega) K (by omega) 0 (by omega) (Sb_0 q 0)
  rw [show cc K K = 5 from if_pos rfl] at h1
  have e0 : FX4_takeFirst 38 1 (mk g) = FX4_takeFirst_32 fu 38 1 (nI K) (nI K) (nI 0) (nI 0) (mk (up g 38 6 (nI (bst q K)))) := by
    have h2 : g 39 (192 * 0 + 32 * K + 0) = nI (bst q K) := h1
    simp -dsimp -implicitDefEqProofs (disch := omega) only [bnd_u, gd_t, if_true, if_false, ↓reduceIte, eq_self, true_or, or_true, false_or, or_false, not_true_eq_false, not_false_eq_true, and_true, true_and, and_false, false_and, reduceCtorEq, nI_ge, nI_le, nI_lt, nI_nlt, nI_ne, nI_te, nm_eq, mn_eq, nm_le, mn_le, nm_lt, mn_lt, pk_mul, nI_add, pk_sub, nI_clamp, eX4_takeFirst, hFam, hPl, hF.1, p_place, h2]
  rw [e0]
  have f0 : Fr [38, 40, 41] g (up g 38 6 (nI (bst q K))) := Fr.c (by decide)
  have g0 : ∀ i, i ≠ 6 → up g 38 6 (nI (bst q K)) 38 i = g 38 i := fun i hi => by rw [up_c, pk_un hi]
  have g6 : up g 38 6 (nI (bst q K)) 38 6 = nI (bst q K) := by rw [up_c, pk_us]
  have hT0 : CT (up g 38 6 (nI (bst q K)) 39) q K 0 := by rw [up_n (by decide)]; exact hT
  have hF0 : F1 (up g 38 6 (nI (bst q K))) q K := hF.f f0 (by decide)
  generalize up g 38 6 (nI (bst q K)) = g1 at f0 g0 g6 hT0 hF0 ⊢
  refine lp_0 (σ := Gg × Nat) (fun n t p => FX4_takeFirst_32 n 38 1 (nI K) (nI p.2) (nI (pth q K t).2) (nI t) (mk p.1)) 10 (fun t p => Fr [40, 41] g1 p.1 ∧ p.2 ≤ K ∧ cc K p.2 = (pth q K t).1 ∧ Sb q t (pth q K t).2 ∧ ∀ t', t' < t → p.1 41 t' = ho (bpl q K t')) (fun o => ∃ g', o = some ((), mk g') ∧ Fr [38, 40, 41] g g' ∧ (∀ i, i ≠ 6 → g' 38 i = g 38 i) ∧ g' 38 6 = nI (bst q K) ∧ ∀ h, h < 10 → g' 41 h = ho (bpl q K h)) (s := (g1, K)) ⟨Fr.refl, Nat.le_refl _, if_pos rfl, Sb_0 q 0, fun t ht => absurd ht (by omega)⟩ (by decide) ?_ ?_
  · rintro n t ⟨u, a⟩ ht ⟨i1, i2, i3, i4, i5⟩
    dsimp only at i1 i2 i3 i4 i5 ⊢
    refine Or.inr ?_
    have hok := pth_ok hG t (by omega)
    have hn := nxt_ok ht hok.2.2
    have hFu := hF0.f i1 (by decide)
    obtain ⟨u1, k1, k2, k3, k4⟩ := c_gains hFu hG ht i2
    rw [i3] at k3
    have f1 := i1.tr k2 (l := [40, 41]) (fun c hc => ⟨hc, fun h => hc (by simp at h; simp [h])⟩)
    have hT1 : CT (u1 39) q K 0 := by rw [f1 39 (by decide)]; exact hT0
    have p6 : u1 38 6 = nI (bst q K) := by rw [f1 38 (by decide)]; exact g6
    have e1 : FX4_takeFirst_32 (n + 1) 38 1 (nI K) (nI a) (nI (pth q K t).2) (nI t) (mk u) = FX4_takeFirst_50 n fu 38 1 (nI K) (nI (pth q K t).2) (nI t) (nI 0) (mk u1) := by
      simp -dsimp -implicitDefEqProofs (disch := omega) only [bnd_u, gd_t, if_true, if_false, ↓reduceIte, eq_self, true_or, or_true, false_or, or_false, not_true_eq_false, not_false_eq_true, and_true, true_and, and_false, false_and, reduceCtorEq, nI_ge, nI_le, nI_lt, nI_nlt, nI_ne, nI_te, nm_eq, mn_eq, nm_le, mn_le, nm_lt, mn_lt, pk_mul, nI_add, pk_sub, nI_clamp, eX4_takeFirst_32, hPl, k1]
    rw [e1]
    have hv : ∀ k, k < K → h_A (mk u1) 0 39 (nI (192 * (t + 1) + 32 * k + ((pth q K t).2 ||| gn q k t (pth q K t).1))) = some (nI (bsr q K (9 - t) k ((pth q K t).2 ||| gn q k t (pth q K t).1))) := fun k hk => by
      have h32 := or_32 hok.2.1 (gn_lt hG k t (pth q K t).1)
      rw [t_A (n := 2112) rfl (by decide) _ (by omega), hT1 (t + 1) (by omega) (by omega) k (by omega) _ h32 (Sb_s hG i4), show 10 - (t + 1) = 9 - t by omega, show cc K k = k from if_neg (by omega)]
    -- who is taken, by the class's number
    have h50 : FX4_takeFirst_50 n fu 38 1 (nI K) (nI (pth q K t).2) (nI t) (nI 0) (mk u1) = FX4_takeFirst_93 n 38 1 (nI K) (nI (pth q K t).2) (nI t) (nI (if nxt q K t (pth q K t).1 (pth q K t).2 < K then nxt q K t (pth q K t).1 (pth q K t).2 else K)) (mk u1) := by
      refine lp_0 (σ := Unit) (fun m k _ => FX4_takeFirst_50 n m 38 1 (nI K) (nI (pth q K t).2) (nI t) (nI k) (mk u1)) K (fun k _ => ∀ j, j < k → bsr q K (9 - t) j ((pth q K t).2 ||| gn q j t (pth q K t).1) < bsr q K 10 5 0) (fun o => o = FX4_takeFirst_93 n 38 1 (nI K) (nI (pth q K t).2) (nI t) (nI (if nxt q K t (pth q K t).1 (pth q K t).2 < K then nxt q K t (pth q K t).1 (pth q K t).2 else K)) (mk u1)) (s := ()) (fun j hj => absurd hj (by omega)) (fu_l (by omega)) ?_ ?_
      · intro m k _ hk hI
        have h45 := bsr_45 hG (9 - t) k ((pth q K t).2 ||| gn q k t (pth q K t).1)
        have p6' : u1 38 6 = nI (bsr q K 10 5 0) := p6
        by_cases hlt : bsr q K (9 - t) k ((pth q K t).2 ||| gn q k t (pth q K t).1) < bsr q K 10 5 0
        · refine Or.inr ⟨(), ?_, fun j hj => ?_⟩
          · simp -dsimp -implicitDefEqProofs (disch := omega) only [bnd_u, gd_t, if_true, if_false, ↓reduceIte, eq_self, true_or, or_true, false_or, or_false, not_true_eq_false, not_false_eq_true, and_true, true_and, and_false, false_and, reduceCtorEq, nI_ge, nI_le, nI_lt, nI_nlt, nI_ne, nI_te, nm_eq, mn_eq, nm_le, mn_le, nm_lt, mn_lt, pk_mul, nI_add, pk_sub, nI_clamp, eX4_takeFirst_50, hPl, k3 k hk, nI_or, p_place, hv k hk, p6']
          · by_cases e : j = k
            · rw [e]; exact hlt
            · exact hI j (by omega)
        · refine Or.inl ?_
          have en : nxt q K t (pth q K t).1 (pth q K t).2 = k := by
            rcases Nat.lt_trichotomy (nxt q K t (pth q K t).1 (pth q K t).2) k with h | h | h
            · have := hI _ h
              have := hn.2.1
              omega
            · exact h
            · exact absurd (hn.2.2 k hk h) hlt
          rw [en, if_pos hk]
          simp -dsimp -implicitDefEqProofs (disch := omega) only [bnd_u, gd_t, if_true, if_false, ↓reduceIte, eq_self, true_or, or_true, false_or, or_false, not_true_eq_false, not_false_eq_true, and_true, true_and, and_false, false_and, reduceCtorEq, nI_ge, nI_le, nI_lt, nI_nlt, nI_ne, nI_te, nm_eq, mn_eq, nm_le, mn_le, nm_lt, mn_lt, pk_mul, nI_add, pk_sub, nI_clamp, eX4_takeFirst_50, hPl, k3 k hk, nI_or, p_place, hv k hk, p6']
      · intro m _ hI
        have en : ¬ nxt q K t (pth q K t).1 (pth q K t).2 < K := fun h => by
          have := hI _ h
          have := hn.2.1
          omega
        rw [if_neg en]
        simp -dsimp -implicitDefEqProofs (disch := omega) only [bnd_u, gd_t, if_true, if_false, ↓reduceIte, eq_self, true_or, or_true, false_or, or_false, not_true_eq_false, not_false_eq_true, and_true, true_and, and_false, false_and, reduceCtorEq, nI_ge, nI_le, nI_lt, nI_nlt, nI_ne, nI_te, nm_eq, mn_eq, nm_le, mn_le, nm_lt, mn_lt, pk_mul, nI_add, pk_sub, nI_clamp, eX4_takeFirst_50]
    rw [h50]
    by_cases hw : nxt q K t (pth q K t).1 (pth q K t).2 < K
    · have ep1 : (pth q K (t + 1)).1 = nxt q K t (pth q K t).1 (pth q K t).2 := rfl
      have ep2 : (pth q K (t + 1)).2 = (pth q K t).2 ||| gn q (nxt q K t (pth q K t).1 (pth q K t).2) t (pth q K t).1 := rfl
      have eb : ho (bpl q K t) = nI (nxt q K t (pth q K t).1 (pth q K t).2) := by
        unfold bpl
        rw [ep1, if_neg (by omega), ho_s (by omega), Nat.add_sub_cancel]
      refine ⟨(up u1 41 t (nI (nxt q K t (pth q K t).1 (pth q K t).2)), nxt q K t (pth q K t).1 (pth q K t).2), ?_, f1.tr (Fr.c (l := [40, 41]) (by decide)) (fun c hc => ⟨hc, hc⟩), by dsimp only; omega, ?_, ?_, fun t' ht' => ?_⟩
      · rw [if_pos hw, ep2]
        have k3' : up u1 41 t (nI (nxt q K t (pth q K t).1 (pth q K t).2)) 40 (nxt q K t (pth q K t).1 (pth q K t).2) = nI (gn q (nxt q K t (pth q K t).1 (pth q K t).2) t (pth q K t).1) := by rw [up_n (by decide)]; exact k3 _ hw
        simp -dsimp -implicitDefEqProofs (disch := omega) only [bnd_u, gd_t, if_true, if_false, ↓reduceIte, eq_self, true_or, or_true, false_or, or_false, not_true_eq_false, not_false_eq_true, and_true, true_and, and_false, false_and, reduceCtorEq, nI_ge, nI_le, nI_lt, nI_nlt, nI_ne, nI_te, nm_eq, mn_eq, nm_le, mn_le, nm_lt, mn_lt, pk_mul, nI_add, pk_sub, nI_clamp, eX4_takeFirst_93, eX4_takeFirst_112, hPl, k3', nI_or]
      · rw [ep1]; exact if_neg (by omega)
      · rw [ep2]; exact Sb_s hG i4
      · dsimp only
        rw [up_c]
        by_cases e : t' = t
        · rw [e, pk_us, eb]
        · rw [pk_un e, k2 41 (by decide)]; exact i5 t' (by omega)
    · have h5 : nxt q K t (pth q K t).1 (pth q K t).2 = 5 := by omega
      have ep1 : (pth q K (t + 1)).1 = 5 := h5
      have ep2 : (pth q K (t + 1)).2 = (pth q K t).2 := by
        show (pth q K t).2 ||| gn q (nxt q K t (pth q K t).1 (pth q K t).2) t (pth q K t).1 = _
        rw [h5, gn_5, Nat.or_zero]
      have eb : ho (bpl q K t) = mi 4 := ho_0 (if_pos ep1)
      refine ⟨(up u1 41 t (mi 4), K), ?_, f1.tr (Fr.c (l := [40, 41]) (by decide)) (fun c hc => ⟨hc, hc⟩), Nat.le_refl _, ?_, ?_, fun t' ht' => ?_⟩
      · rw [if_neg hw, ep2]
        have k4' : up u1 41 t (mi 4) 40 K = nI 0 := by rw [up_n (by decide)]; exact k4
        simp -dsimp -implicitDefEqProofs (disch := omega) only [bnd_u, gd_t, if_true, if_false, ↓reduceIte, eq_self, true_or, or_true, false_or, or_false, not_true_eq_false, not_false_eq_true, and_true, true_and, and_false, false_and, reduceCtorEq, nI_ge, nI_le, nI_lt, nI_nlt, nI_ne, nI_te, nm_eq, mn_eq, nm_le, mn_le, nm_lt, mn_lt, pk_mul, nI_add, pk_sub, nI_clamp, eX4_takeFirst_93, eX4_takeFirst_112, hPl, k4', nI_or, Nat.or_zero]
      · rw [ep1]; exact if_pos rfl
      · rw [ep2]
        have := Sb_s (k := 5) (c := 0) hG i4
        rw [gn_5, Nat.or_zero] at this
        exact this
      · dsimp only
        rw [up_c]
        by_cases e : t' = t
        · rw [e, pk_us, eb]
        · rw [pk_un e, k2 41 (by decide)]; exact i5 t' (by omega)
  · rintro n ⟨u, a⟩ ⟨i1, i2, i3, i4, i5⟩
    dsimp only at i1 i2 i3 i4 i5 ⊢
    refine ⟨u, ?_, f0.tr i1 (fun c hc => ⟨hc, fun h => hc (by simp at h; simp [h])⟩), ?_, ?_, i5⟩
    · simp -dsimp -implicitDefEqProofs (disch := omega) only [bnd_u, gd_t, if_true, if_false, ↓reduceIte, eq_self, true_or, or_true, false_or, or_false, not_true_eq_false, not_false_eq_true, and_true, true_and, and_false, false_and, reduceCtorEq, nI_ge, nI_le, nI_lt, nI_nlt, nI_ne, nI_te, nm_eq, mn_eq, nm_le, mn_le, nm_lt, mn_lt, pk_mul, nI_add, pk_sub, nI_clamp, eX4_takeFirst_32]
    · intro i hi
      rw [i1 38 (by decide)]; exact g0 i hi
    · rw [i1 38 (by decide)]; exact g6
/-- the rows for which the class has planned are the page q's -/
def Pm (ko kc wo wc : Nat → Int32) (q : Nat → Nat) (K : Nat) : Prop := ko 3 = nI K ∧ (∀ k, k < K → kc (k * 2 + 0) = nI (q k)) ∧ (∀ k, k < K → kc (k * 2 + 1) = nI (q (5 + k))) ∧ wo 3 = nI (q 56) ∧ ∀ i j, i < q 56 → j < 4 → wc (i * 4 + j) = nI (q (36 + 4 * i + j))
def Pq (g : Gg) (q : Nat → Nat) (K : Nat) : Prop := Gd q K ∧ g 38 5 = nI 1 ∧ Pm (g 42) (g 43) (g 44) (g 45) q K ∧ g 38 6 = nI (bst q K) ∧ ∀ h, h < 10 → g 41 h = ho (bpl q K h)
def Pn (g : Gg) : Prop := g 38 5 = nI 0 ∨ ∃ q K, Pq g q K
theorem c_plan36 {g : Gg} {q : Nat → Nat} {K : Nat} (hF : F1 g q K) (hG : Gd q K) : ∃ g', FX4_planFor_36 38 1 (mk g) = some ((), mk g') ∧ Fr [38, 39, 40, 41, 42, 43, 44, 45] g g' ∧ Pq g' q K := by
  have hK := hG.K
  have c1 := R_copy rw42 rw2 hF.1 hK (by decide)
  obtain ⟨g1, eg1⟩ : ∃ g1, g1 = up (upc g 43 (va_cpy (g 3) (g 43) 0 0 (2 * 5))) 42 3 (nI K) := ⟨_, rfl⟩
  rw [← eg1] at c1
  have f1 : Fr [42, 43] g g1 := by
    rw [eg1]
    exact (Fr.c (l := [42, 43]) (by decide)).tr (Fr.c (l := [42, 43]) (by decide)) (fun c hc => ⟨hc, hc⟩)
  have a1 : g1 42 3 = nI K := by rw [eg1, up_c, pk_us]
  have b1 : ∀ i, i < 10 → g1 43 i = g 3 i := fun i hi => by
    rw [eg1, up_n (by decide), upc_s, pk_cpy_in (by omega) (by omega), show 0 + (i - 0) = i by omega]
  have hF1 := hF.f f1 (by decide)
  have c2 := R_copy rw44 rw6 hF1.2.2.2.2.2.1 hG.wn (by decide)
  obtain ⟨g2, eg2⟩ : ∃ g2, g2 = up (upc g1 45 (va_cpy (g1 7) (g1 45) 0 0 (4 * 5))) 44 3 (nI (q 56)) := ⟨_, rfl⟩
  rw [← eg2] at c2
  have f2 : Fr [44, 45] g1 g2 := by
    rw [eg2]
    exact (Fr.c (l := [44, 45]) (by decide)).tr (Fr.c (l := [44, 45]) (by decide)) (fun c hc => ⟨hc, hc⟩)
  have a2 : g2 44 3 = nI (q 56) := by rw [eg2, up_c, pk_us]
  have b2 : ∀ i, i < 20 → g2 45 i = g 7 i := fun i hi => by
    rw [eg2, up_n (by decide), upc_s, pk_cpy_in (by omega) (by omega), f1 7 (by decide), show 0 + (i - 0) = i by omega]
  have f12 : Fr [42, 43, 44, 45] g g2 := f1.tr f2 (by simp <;> omega)
  obtain ⟨g3, eg3⟩ : ∃ g3, g3 = up g2 38 5 (nI 1) := ⟨_, rfl⟩
  have f3 : Fr [38] g2 g3 := by rw [eg3]; exact Fr.c (by decide)
  have a3 : g3 38 5 = nI 1 := by rw [eg3, up_c, pk_us]
  have hF3 := (hF.f f12 (by decide)).f f3 (by decide)
  obtain ⟨g4, e4, f4, T4⟩ := c_end hF3 hG
  have hF4 := hF3.f f4 (by decide)
  have e36 : FX4_planFor_36 38 1 (mk g) = FX4_planFor_71 fu 38 1 (dI 9 0) (mk g4) := by
    rw [dI_n (by omega)]
    simp -dsimp -implicitDefEqProofs (disch := omega) only [bnd_u, gd_t, if_true, if_false, ↓reduceIte, eq_self, true_or, or_true, false_or, or_false, not_true_eq_false, not_false_eq_true, and_true, true_and, and_false, false_and, reduceCtorEq, nI_ge, nI_le, nI_lt, nI_nlt, nI_ne, nI_te, nm_eq, mn_eq, nm_le, mn_le, nm_lt, mn_lt, pk_mul, nI_add, pk_sub, nI_clamp, eX4_planFor_36, hFam, hPl, rw42.k, rw44.k, c1, c2, ← eg3, e4]
  rw [e36]
  refine lp_0 (σ := Gg) (fun n k u => FX4_planFor_71 n 38 1 (dI 9 k) (mk u)) 10 (fun k u => Fr [39, 40] g4 u ∧ CT (u 39) q K (10 - k)) (fun o => ∃ g', o = some ((), mk g') ∧ Fr [38, 39, 40, 41, 42, 43, 44, 45] g g' ∧ Pq g' q K) ⟨Fr.refl, T4⟩ (by decide) ?_ ?_
  · intro n k u hk ⟨i1, i2⟩
    obtain ⟨u1, k1, k2, k3⟩ := c_hour (hF4.f i1 (by decide)) hG (h := 9 - k) (by rw [show 9 - k + 1 = 10 - k by omega]; exact i2) (by omega)
    refine Or.inr ⟨u1, ?_, i1.tr k2 (fun c hc => ⟨hc, hc⟩), by rw [show 10 - (k + 1) = 9 - k by omega]; exact k3⟩
    rw [dI_n (show k ≤ 9 by omega)]
    simp -dsimp -implicitDefEqProofs (disch := omega) only [bnd_u, gd_t, if_true, if_false, ↓reduceIte, eq_self, true_or, or_true, false_or, or_false, not_true_eq_false, not_false_eq_true, and_true, true_and, and_false, false_and, reduceCtorEq, nI_ge, nI_le, nI_lt, nI_nlt, nI_ne, nI_te, nm_eq, mn_eq, nm_le, mn_le, nm_lt, mn_lt, pk_mul, nI_add, pk_sub, nI_clamp, eX4_planFor_71, hPl, k1, dI_s (a := 9) (k := k) (by omega)]
  · intro n u ⟨i1, i2⟩
    obtain ⟨u1, k1, k2, k3, k4, k5⟩ := c_first (hF4.f i1 (by decide)) hG i2
    have fl : Fr [38, 39, 40, 41] g2 u1 := ((f3.tr f4 (l := [38, 39]) (by simp <;> omega)).tr i1 (l := [38, 39, 40]) (by simp <;> omega)).tr k2 (by simp <;> omega)
    refine ⟨u1, ?_, f12.tr fl (by simp <;> omega), hG, ?_, ?_, k4, k5⟩
    · rw [dI_e 9]
      simp -dsimp -implicitDefEqProofs (disch := omega) only [bnd_u, gd_t, if_true, if_false, ↓reduceIte, eq_self, true_or, or_true, false_or, or_false, not_true_eq_false, not_false_eq_true, and_true, true_and, and_false, false_and, reduceCtorEq, nI_ge, nI_le, nI_lt, nI_nlt, nI_ne, nI_te, nm_eq, mn_eq, nm_le, mn_le, nm_lt, mn_lt, pk_mul, nI_add, pk_sub, nI_clamp, eX4_planFor_71, hPl, k1]
    · rw [k3 5 (by decide), i1 38 (by decide), f4 38 (by decide)]; exact a3
    · refine ⟨?_, ?_, ?_, ?_, ?_⟩
      · rw [fl 42 (by decide), f2 42 (by decide)]; exact a1
      · intro k hk
        rw [fl 43 (by decide), f2 43 (by decide), b1 _ (by omega)]; exact hF.2.1 k hk
      · intro k hk
        rw [fl 43 (by decide), f2 43 (by decide), b1 _ (by omega)]; exact hF.2.2.1 k hk
      · rw [fl 44 (by decide)]; exact a2
      · intro i j hi hj
        have hwn := hG.wn
        rw [fl 45 (by decide), b2 _ (by omega)]; exact hF.2.2.2.2.2.2.1 i j hi hj
theorem c_plan {g : Gg} {q : Nat → Nat} {K : Nat} (hF : F1 g q K) (hG : Gd q K) (hP : Pn g) : ∃ g', FX4_planFor 38 1 (mk g) = some ((), mk g') ∧ Fr [38, 39, 40, 41, 42, 43, 44, 45] g g' ∧ Pq g' q K := by
  have hK := hG.K
  obtain ⟨g', e36, f36, p36⟩ := c_plan36 hF hG
  rcases hP with h0 | ⟨p, L, hGp, h1, hm, h6, hpl⟩
  · refine ⟨g', ?_, f36, p36⟩
    rw [← e36]
    simp -dsimp -implicitDefEqProofs (disch := omega) only [bnd_u, gd_t, if_true, if_false, ↓reduceIte, eq_self, true_or, or_true, false_or, or_false, not_true_eq_false, not_false_eq_true, and_true, true_and, and_false, false_and, reduceCtorEq, nI_ge, nI_le, nI_lt, nI_nlt, nI_ne, nI_te, nm_eq, mn_eq, nm_le, mn_le, nm_lt, mn_lt, pk_mul, nI_add, pk_sub, nI_clamp, eX4_planFor, hPl, h0]
  · have hL := hGp.K
    have l1 := R_like rw42 rw2 hm.1 hF.1 hL hK
    have l2 := R_like rw44 rw6 hm.2.2.2.1 hF.2.2.2.2.2.1 hGp.wn hG.wn
    rcases l1 with ⟨l1, eL, hk⟩ | ⟨l1, -⟩
    · rcases l2 with ⟨l2, eW, hw⟩ | ⟨l2, -⟩
      · subst eL
        have hlv : Lv p q L := by
          refine ⟨fun k hk' => ?_, eW, fun i j hi hj => ?_⟩
          · have e := hk (k * 2 + 0) (by omega)
            rw [hm.2.1 k hk', hF.2.1 k hk'] at e
            have h1 := hGp.q k
            have h2 := hG.q k
            exact (nI_eq (by omega) (by omega)).mp e
          · have e := hw (i * 4 + j) (by omega)
            rw [hm.2.2.2.2 i j hi hj, hF.2.2.2.2.2.2.1 i j (by omega) hj] at e
            have h1 := hGp.q (36 + 4 * i + j)
            have h2 := hG.q (36 + 4 * i + j)
            exact (nI_eq (by omega) (by omega)).mp e
        refine ⟨g, ?_, Fr.refl, hG, h1, ⟨hm.1, ?_, ?_, ?_, ?_⟩, ?_, ?_⟩
        · simp -dsimp -implicitDefEqProofs (disch := omega) only [bnd_u, gd_t, if_true, if_false, ↓reduceIte, eq_self, true_or, or_true, false_or, or_false, not_true_eq_false, not_false_eq_true, and_true, true_and, and_false, false_and, reduceCtorEq, nI_ge, nI_le, nI_lt, nI_nlt, nI_ne, nI_te, nm_eq, mn_eq, nm_le, mn_le, nm_lt, mn_lt, pk_mul, nI_add, pk_sub, nI_clamp, eX4_planFor, hFam, hPl, rw42.k, rw44.k, h1, l1, l2]
        · intro k hk'
          rw [hk _ (by omega)]; exact hF.2.1 k hk'
        · intro k hk'
          rw [hk _ (by omega)]; exact hF.2.2.1 k hk'
        · rw [hm.2.2.2.1, eW]
        · intro i j hi hj
          rw [hw _ (by omega)]; exact hF.2.2.2.2.2.2.1 i j hi hj
        · rw [h6, bst_lv hlv]
        · intro h hh
          rw [hpl h hh, bpl_lv hlv hGp hh]
      · refine ⟨g', ?_, f36, p36⟩
        rw [← e36]
        simp -dsimp -implicitDefEqProofs (disch := omega) only [bnd_u, gd_t, if_true, if_false, ↓reduceIte, eq_self, true_or, or_true, false_or, or_false, not_true_eq_false, not_false_eq_true, and_true, true_and, and_false, false_and, reduceCtorEq, nI_ge, nI_le, nI_lt, nI_nlt, nI_ne, nI_te, nm_eq, mn_eq, nm_le, mn_le, nm_lt, mn_lt, pk_mul, nI_add, pk_sub, nI_clamp, eX4_planFor, hFam, hPl, rw42.k, rw44.k, h1, l1, l2]
    · refine ⟨g', ?_, f36, p36⟩
      rw [← e36]
      simp -dsimp -implicitDefEqProofs (disch := omega) only [bnd_u, gd_t, if_true, if_false, ↓reduceIte, eq_self, true_or, or_true, false_or, or_false, not_true_eq_false, not_false_eq_true, and_true, true_and, and_false, false_and, reduceCtorEq, nI_ge, nI_le, nI_lt, nI_nlt, nI_ne, nI_te, nm_eq, mn_eq, nm_le, mn_le, nm_lt, mn_lt, pk_mul, nI_add, pk_sub, nI_clamp, eX4_planFor, hFam, hPl, rw42.k, rw44.k, h1, l1]
