/-! the best rota: the class -/
theorem c_worksIn {g : Gg} {q : Nat → Nat} {K k h : Nat} (hF : F1 g q K) (hG : Gd q K) (hk : k < 5) (hh : h < 10) : FX4_worksIn 38 1 (nI k) (nI h) (mk g) = some (nI (wi q k h), mk g) := by
  have hwn := hG.wn
  have hK := hG.K
  rw [eX4_worksIn]
  refine lp_0 (σ := Int32) (fun n i s => FX4_worksIn_6 n 1 (nI k) (nI h) s (nI i) (mk g)) (q 56) (fun i s => s = nI (msk (fun i => decide (q (36 + 4 * i) = k) && (decide (q (36 + 4 * i + 1) ≤ h) && decide (h ≤ q (36 + 4 * i + 2)))) i)) (fun o => o = some (nI (wi q k h), mk g)) rfl (fu_l (by omega)) ?_ ?_
  · intro n i s hi hs
    subst hs
    have hw := hG.w hi
    have h0 := f_work hF hG hi (show 0 < 4 by omega)
    have h1 := f_work hF hG hi (show 1 < 4 by omega)
    have h2 := f_work hF hG hi (show 2 < 4 by omega)
    rw [Nat.add_zero] at h0
    refine Or.inr ⟨_, ?_, rfl⟩
    by_cases a : q (36 + 4 * i) = k ∧ q (36 + 4 * i + 1) ≤ h ∧ h ≤ q (36 + 4 * i + 2)
    · have e : (fun i => decide (q (36 + 4 * i) = k) && (decide (q (36 + 4 * i + 1) ≤ h) && decide (h ≤ q (36 + 4 * i + 2)))) i = true := by simp [a]
      have a1 := a.1
      simp -dsimp -implicitDefEqProofs (disch := omega) only [bnd_u, gd_t, if_true, if_false, ↓reduceIte, eq_self, true_or, or_true, false_or, or_false, not_true_eq_false, not_false_eq_true, and_true, true_and, and_false, false_and, reduceCtorEq, nI_ge, nI_le, nI_lt, nI_nlt, nI_ne, nI_te, nm_eq, mn_eq, nm_le, mn_le, nm_lt, mn_lt, pk_mul, nI_add, pk_sub, nI_clamp, eX4_worksIn_6, eX4_worksIn_65, eX4_worksIn_82, hFam, hF.2.2.2.2.2.1, h0, h1, h2, msk_t (c := fun i => decide (q (36 + 4 * i) = k) && (decide (q (36 + 4 * i + 1) ≤ h) && decide (h ≤ q (36 + 4 * i + 2)))) (show i < 31 by omega) e]
    · have e : (fun i => decide (q (36 + 4 * i) = k) && (decide (q (36 + 4 * i + 1) ≤ h) && decide (h ≤ q (36 + 4 * i + 2)))) i = false := by simp; omega
      have hm := msk_f (c := fun i => decide (q (36 + 4 * i) = k) && (decide (q (36 + 4 * i + 1) ≤ h) && decide (h ≤ q (36 + 4 * i + 2)))) e
      by_cases a1 : q (36 + 4 * i) = k
      · by_cases a2 : q (36 + 4 * i + 1) ≤ h
        · simp -dsimp -implicitDefEqProofs (disch := omega) only [bnd_u, gd_t, if_true, if_false, ↓reduceIte, eq_self, true_or, or_true, false_or, or_false, not_true_eq_false, not_false_eq_true, and_true, true_and, and_false, false_and, reduceCtorEq, nI_ge, nI_le, nI_lt, nI_nlt, nI_ne, nI_te, nm_eq, mn_eq, nm_le, mn_le, nm_lt, mn_lt, pk_mul, nI_add, pk_sub, nI_clamp, eX4_worksIn_6, eX4_worksIn_64, eX4_worksIn_65, eX4_worksIn_82, hFam, hF.2.2.2.2.2.1, h0, h1, h2, hm]
        · simp -dsimp -implicitDefEqProofs (disch := omega) only [bnd_u, gd_t, if_true, if_false, ↓reduceIte, eq_self, true_or, or_true, false_or, or_false, not_true_eq_false, not_false_eq_true, and_true, true_and, and_false, false_and, reduceCtorEq, nI_ge, nI_le, nI_lt, nI_nlt, nI_ne, nI_te, nm_eq, mn_eq, nm_le, mn_le, nm_lt, mn_lt, pk_mul, nI_add, pk_sub, nI_clamp, eX4_worksIn_6, eX4_worksIn_64, eX4_worksIn_65, eX4_worksIn_82, hFam, hF.2.2.2.2.2.1, h0, h1, h2, hm]
      · simp -dsimp -implicitDefEqProofs (disch := omega) only [bnd_u, gd_t, if_true, if_false, ↓reduceIte, eq_self, true_or, or_true, false_or, or_false, not_true_eq_false, not_false_eq_true, and_true, true_and, and_false, false_and, reduceCtorEq, nI_ge, nI_le, nI_lt, nI_nlt, nI_ne, nI_te, nm_eq, mn_eq, nm_le, mn_le, nm_lt, mn_lt, pk_mul, nI_add, pk_sub, nI_clamp, eX4_worksIn_6, eX4_worksIn_64, eX4_worksIn_65, eX4_worksIn_82, hFam, hF.2.2.2.2.2.1, h0, h1, h2, hm]
  · intro n s hs
    subst hs
    simp -dsimp -implicitDefEqProofs (disch := omega) only [bnd_u, gd_t, if_true, if_false, ↓reduceIte, eq_self, true_or, or_true, false_or, or_false, not_true_eq_false, not_false_eq_true, and_true, true_and, and_false, false_and, reduceCtorEq, nI_ge, nI_le, nI_lt, nI_nlt, nI_ne, nI_te, nm_eq, mn_eq, nm_le, mn_le, nm_lt, mn_lt, pk_mul, nI_add, pk_sub, nI_clamp, eX4_worksIn_6, hFam, hF.2.2.2.2.2.1, wi]
/-- the works that are begun ahead of the hour h -/
def bg (q : Nat → Nat) (h : Nat) : Nat := msk (fun i => decide (q (36 + 4 * i + 1) < h)) (q 56)
theorem bg_lt {q : Nat → Nat} {K : Nat} (hG : Gd q K) (h : Nat) : bg q h < 32 :=
  Nat.lt_of_lt_of_le (msk_lt _ _) (Nat.pow_le_pow_right (n := 2) (by decide) hG.wn)
theorem c_begun {g : Gg} {q : Nat → Nat} {K h : Nat} (hF : F1 g q K) (hG : Gd q K) (hh : h ≤ 10) : FX4_worksBegunAhead 1 (nI h) (mk g) = some (nI (bg q h), mk g) := by
  have hwn := hG.wn
  rw [eX4_worksBegunAhead]
  refine lp_0 (σ := Int32) (fun n i s => FX4_worksBegunAhead_4 n 1 (nI h) s (nI i) (mk g)) (q 56) (fun i s => s = nI (msk (fun i => decide (q (36 + 4 * i + 1) < h)) i)) (fun o => o = some (nI (bg q h), mk g)) rfl (fu_l (by omega)) ?_ ?_
  · intro n i s hi hs
    subst hs
    have hw := hG.w hi
    have h1 := f_work hF hG hi (show 1 < 4 by omega)
    refine Or.inr ⟨_, ?_, rfl⟩
    by_cases a : q (36 + 4 * i + 1) < h
    · have e : (fun i => decide (q (36 + 4 * i + 1) < h)) i = true := by simp [a]
      simp -dsimp -implicitDefEqProofs (disch := omega) only [bnd_u, gd_t, if_true, if_false, ↓reduceIte, eq_self, true_or, or_true, false_or, or_false, not_true_eq_false, not_false_eq_true, and_true, true_and, and_false, false_and, reduceCtorEq, nI_ge, nI_le, nI_lt, nI_nlt, nI_ne, nI_te, nm_eq, mn_eq, nm_le, mn_le, nm_lt, mn_lt, pk_mul, nI_add, pk_sub, nI_clamp, eX4_worksBegunAhead_4, eX4_worksBegunAhead_36, hFam, hF.2.2.2.2.2.1, h1, msk_t (c := fun i => decide (q (36 + 4 * i + 1) < h)) (show i < 31 by omega) e]
    · have e : (fun i => decide (q (36 + 4 * i + 1) < h)) i = false := by simp; omega
      simp -dsimp -implicitDefEqProofs (disch := omega) only [bnd_u, gd_t, if_true, if_false, ↓reduceIte, eq_self, true_or, or_true, false_or, or_false, not_true_eq_false, not_false_eq_true, and_true, true_and, and_false, false_and, reduceCtorEq, nI_ge, nI_le, nI_lt, nI_nlt, nI_ne, nI_te, nm_eq, mn_eq, nm_le, mn_le, nm_lt, mn_lt, pk_mul, nI_add, pk_sub, nI_clamp, eX4_worksBegunAhead_4, eX4_worksBegunAhead_36, hFam, hF.2.2.2.2.2.1, h1, msk_f (c := fun i => decide (q (36 + 4 * i + 1) < h)) e]
  · intro n s hs
    subst hs
    simp -dsimp -implicitDefEqProofs (disch := omega) only [bnd_u, gd_t, if_true, if_false, ↓reduceIte, eq_self, true_or, or_true, false_or, or_false, not_true_eq_false, not_false_eq_true, and_true, true_and, and_false, false_and, reduceCtorEq, nI_ge, nI_le, nI_lt, nI_nlt, nI_ne, nI_te, nm_eq, mn_eq, nm_le, mn_le, nm_lt, mn_lt, pk_mul, nI_add, pk_sub, nI_clamp, eX4_worksBegunAhead_4, hFam, hF.2.2.2.2.2.1, bg]
/-- the class calls nobody K -/
def cc (K a : Nat) : Nat := if a = K then 5 else a
theorem c_gains {g : Gg} {q : Nat → Nat} {K h a : Nat} (hF : F1 g q K) (hG : Gd q K) (hh : h < 10) (ha : a ≤ K) : ∃ g', FX4_findGains 38 1 (nI h) (nI a) (mk g) = some ((), mk g') ∧ Fr [40] g g' ∧ (∀ k, k < K → g' 40 k = nI (gn q k h (cc K a))) ∧ g' 40 K = nI 0 := by
  have hK := hG.K
  have e0 : FX4_findGains 38 1 (nI h) (nI a) (mk g) = FX4_findGains_12 fu 38 1 (nI h) (nI a) (nI K) (nI 0) (mk g) := by
    simp -dsimp -implicitDefEqProofs (disch := omega) only [bnd_u, gd_t, if_true, if_false, ↓reduceIte, eq_self, true_or, or_true, false_or, or_false, not_true_eq_false, not_false_eq_true, and_true, true_and, and_false, false_and, reduceCtorEq, nI_ge, nI_le, nI_lt, nI_nlt, nI_ne, nI_te, nm_eq, mn_eq, nm_le, mn_le, nm_lt, mn_lt, pk_mul, nI_add, pk_sub, nI_clamp, eX4_findGains, hFam, hF.1]
  rw [e0]
  refine lp_0 (σ := Gg) (fun n k u => FX4_findGains_12 n 38 1 (nI h) (nI a) (nI K) (nI k) (mk u)) K (fun k u => Fr [40] g u ∧ ∀ j, j < k → u 40 j = nI (gn q j h (cc K a))) (fun o => ∃ g', o = some ((), mk g') ∧ Fr [40] g g' ∧ (∀ k, k < K → g' 40 k = nI (gn q k h (cc K a))) ∧ g' 40 K = nI 0) ⟨Fr.refl, fun j hj => absurd hj (by omega)⟩ (fu_l (by omega)) ?_ ?_
  · intro n k u hk ⟨i1, i2⟩
    have hFu := hF.f i1 (by decide)
    have hkk := hG.k hk
    have hey := s_eyes (M := mk u) (kd := q k) (h := h) hkk.1 hh
    have hnr := s_near (M := mk u) (k := k) (a := ah (cc K a)) (by omega) (by unfold ah cc; split <;> (try split) <;> omega)
    have fin : ∀ x, x = nI (gn q k h (cc K a)) → Fr [40] g (up u 40 k x) ∧ ∀ j, j < k + 1 → up u 40 k x 40 j = nI (gn q j h (cc K a)) := fun x hx => by
      refine ⟨i1.tr (Fr.c (l := [40]) (by decide)) (fun c hc => ⟨hc, hc⟩), fun j hj => ?_⟩
      rw [up_c]
      by_cases e : j = k
      · rw [e, pk_us]; exact hx
      · rw [pk_un e]; exact i2 j (by omega)
    refine Or.inr ⟨up u 40 k (nI (gn q k h (cc K a))), ?_, fin _ rfl⟩
    have e48 : FX4_findGains_48 n 38 1 (nI h) (nI a) (nI K) (nI k) (nI 1) (mk u) = FX4_findGains_12 n 38 1 (nI h) (nI a) (nI K) (nI (k + 1)) (mk (up u 40 k (nI (if eyes (q k) h then wi q k h else 0)))) := by
      cases ee : eyes (q k) h <;> rw [ee] at hey
      · simp -dsimp -implicitDefEqProofs (disch := omega) only [bnd_u, gd_t, if_true, if_false, ↓reduceIte, eq_self, true_or, or_true, false_or, or_false, not_true_eq_false, not_false_eq_true, and_true, true_and, and_false, false_and, reduceCtorEq, nI_ge, nI_le, nI_lt, nI_nlt, nI_ne, nI_te, nm_eq, mn_eq, nm_le, mn_le, nm_lt, mn_lt, pk_mul, nI_add, pk_sub, nI_clamp, eX4_findGains_48, eX4_findGains_72, eX4_findGains_73, eX4_findGains_98, hFam, hPl, f_kind hFu hG hk, hey, Bool.toNat_false, Bool.false_eq_true]
      · simp -dsimp -implicitDefEqProofs (disch := omega) only [bnd_u, gd_t, if_true, if_false, ↓reduceIte, eq_self, true_or, or_true, false_or, or_false, not_true_eq_false, not_false_eq_true, and_true, true_and, and_false, false_and, reduceCtorEq, nI_ge, nI_le, nI_lt, nI_nlt, nI_ne, nI_te, nm_eq, mn_eq, nm_le, mn_le, nm_lt, mn_lt, pk_mul, nI_add, pk_sub, nI_clamp, eX4_findGains_48, eX4_findGains_73, eX4_findGains_98, hFam, hPl, f_kind hFu hG hk, hey, Bool.toNat_true, c_worksIn hFu hG (show k < 5 by omega) hh]
    have e480 : FX4_findGains_48 n 38 1 (nI h) (nI a) (nI K) (nI k) (nI 0) (mk u) = FX4_findGains_12 n 38 1 (nI h) (nI a) (nI K) (nI (k + 1)) (mk (up u 40 k (nI 0))) := by
      simp -dsimp -implicitDefEqProofs (disch := omega) only [bnd_u, gd_t, if_true, if_false, ↓reduceIte, eq_self, true_or, or_true, false_or, or_false, not_true_eq_false, not_false_eq_true, and_true, true_and, and_false, false_and, reduceCtorEq, nI_ge, nI_le, nI_lt, nI_nlt, nI_ne, nI_te, nm_eq, mn_eq, nm_le, mn_le, nm_lt, mn_lt, pk_mul, nI_add, pk_sub, nI_clamp, eX4_findGains_48, eX4_findGains_72, eX4_findGains_73, eX4_findGains_98, hPl]
    have egn : gn q k h (cc K a) = if ((decide (h = 0) || near k (ah (cc K a))) && eyes (q k) h) then wi q k h else 0 := by
      unfold gn wsee
      rw [decide_eq_true (show k < 5 by omega), Bool.true_and]
    by_cases h0 : h = 0
    · have eg : gn q k h (cc K a) = if eyes (q k) h then wi q k h else 0 := by
        rw [egn, decide_eq_true h0, Bool.true_or, Bool.true_and]
      rw [eg, ← e48]
      simp -dsimp -implicitDefEqProofs (disch := omega) only [bnd_u, gd_t, if_true, if_false, ↓reduceIte, eq_self, true_or, or_true, false_or, or_false, not_true_eq_false, not_false_eq_true, and_true, true_and, and_false, false_and, reduceCtorEq, nI_ge, nI_le, nI_lt, nI_nlt, nI_ne, nI_te, nm_eq, mn_eq, nm_le, mn_le, nm_lt, mn_lt, pk_mul, nI_add, pk_sub, nI_clamp, eX4_findGains_12, eX4_findGains_43]
    · have e37 : FX4_findGains_37 n 38 1 (nI h) (nI a) (nI K) (nI k) (nI k) (ho (ah (cc K a))) (mk u) = FX4_findGains_12 n 38 1 (nI h) (nI a) (nI K) (nI (k + 1)) (mk (up u 40 k (nI (gn q k h (cc K a))))) := by
        rw [egn, decide_eq_false h0, Bool.false_or]
        cases en : near k (ah (cc K a)) <;> rw [en] at hnr
        · rw [Bool.false_and, if_neg (by simp), ← e480]
          simp -dsimp -implicitDefEqProofs (disch := omega) only [bnd_u, gd_t, if_true, if_false, ↓reduceIte, eq_self, true_or, or_true, false_or, or_false, not_true_eq_false, not_false_eq_true, and_true, true_and, and_false, false_and, reduceCtorEq, nI_ge, nI_le, nI_lt, nI_nlt, nI_ne, nI_te, nm_eq, mn_eq, nm_le, mn_le, nm_lt, mn_lt, pk_mul, nI_add, pk_sub, nI_clamp, eX4_findGains_37, hnr, Bool.toNat_false]
        · rw [Bool.true_and, ← e48]
          simp -dsimp -implicitDefEqProofs (disch := omega) only [bnd_u, gd_t, if_true, if_false, ↓reduceIte, eq_self, true_or, or_true, false_or, or_false, not_true_eq_false, not_false_eq_true, and_true, true_and, and_false, false_and, reduceCtorEq, nI_ge, nI_le, nI_lt, nI_nlt, nI_ne, nI_te, nm_eq, mn_eq, nm_le, mn_le, nm_lt, mn_lt, pk_mul, nI_add, pk_sub, nI_clamp, eX4_findGains_37, eX4_findGains_43, hnr, Bool.toNat_true]
      rw [← e37]
      by_cases haK : a = K
      · have e : ho (ah (cc K a)) = mi 4 := by
          rw [show cc K a = 5 from if_pos haK]; rfl
        simp -dsimp -implicitDefEqProofs (disch := omega) only [bnd_u, gd_t, if_true, if_false, ↓reduceIte, eq_self, true_or, or_true, false_or, or_false, not_true_eq_false, not_false_eq_true, and_true, true_and, and_false, false_and, reduceCtorEq, nI_ge, nI_le, nI_lt, nI_nlt, nI_ne, nI_te, nm_eq, mn_eq, nm_le, mn_le, nm_lt, mn_lt, pk_mul, nI_add, pk_sub, nI_clamp, eX4_findGains_12, e]
      · have e : ho (ah (cc K a)) = nI a := by
          rw [show cc K a = a from if_neg haK, show ah a = a + 1 from if_neg (by omega), ho_s (by omega), Nat.add_sub_cancel]
        simp -dsimp -implicitDefEqProofs (disch := omega) only [bnd_u, gd_t, if_true, if_false, ↓reduceIte, eq_self, true_or, or_true, false_or, or_false, not_true_eq_false, not_false_eq_true, and_true, true_and, and_false, false_and, reduceCtorEq, nI_ge, nI_le, nI_lt, nI_nlt, nI_ne, nI_te, nm_eq, mn_eq, nm_le, mn_le, nm_lt, mn_lt, pk_mul, nI_add, pk_sub, nI_clamp, eX4_findGains_12, e]
  · intro n u ⟨i1, i2⟩
    refine ⟨up u 40 K (nI 0), ?_, i1.tr (Fr.c (l := [40]) (by decide)) (fun c hc => ⟨hc, hc⟩), fun k hk => ?_, ?_⟩
    · simp -dsimp -implicitDefEqProofs (disch := omega) only [bnd_u, gd_t, if_true, if_false, ↓reduceIte, eq_self, true_or, or_true, false_or, or_false, not_true_eq_false, not_false_eq_true, and_true, true_and, and_false, false_and, reduceCtorEq, nI_ge, nI_le, nI_lt, nI_nlt, nI_ne, nI_te, nm_eq, mn_eq, nm_le, mn_le, nm_lt, mn_lt, pk_mul, nI_add, pk_sub, nI_clamp, eX4_findGains_12, hPl]
    · rw [up_c, pk_un (by omega)]; exact i2 k hk
    · rw [up_c, pk_us]
theorem p_place {M : Hx} (h a s : Nat) : FX4_placeOf (nI h) (nI a) (nI s) M = some (nI (192 * h + 32 * a + s), M) := by
  rw [eX4_placeOf, pk_mul, nI_add, pk_mul, nI_add, show (h * 6 + a) * 32 + s = 192 * h + 32 * a + s by omega]
/-- s is of works that are begun ahead of the hour h -/
def Sb (q : Nat → Nat) (h s : Nat) : Prop := ∀ i, s.testBit i = true → (bg q h).testBit i = true
/-- the class's table, from the hour h0 on -/
def CT (t : Nat → Int32) (q : Nat → Nat) (K h0 : Nat) : Prop := ∀ h, h0 ≤ h → h ≤ 10 → ∀ a, a ≤ K → ∀ s, s < 32 → Sb q h s → t (192 * h + 32 * a + s) = nI (bsr q K (10 - h) (cc K a) s)
theorem Sb_s {q : Nat → Nat} {K : Nat} (hG : Gd q K) {h s k c : Nat} (hs : Sb q h s) : Sb q (h + 1) (s ||| gn q k h c) := by
  intro i hi
  rw [Nat.testBit_or, Bool.or_eq_true] at hi
  unfold bg
  rw [msk_bit]
  rcases hi with hi | hi
  · have := hs i hi
    unfold bg at this
    rw [msk_bit] at this
    simp only [Bool.and_eq_true, decide_eq_true_eq] at this ⊢
    omega
  · unfold gn at hi
    split at hi
    · unfold wi at hi
      rw [msk_bit] at hi
      simp only [Bool.and_eq_true, decide_eq_true_eq] at hi ⊢
      omega
    · simp at hi
theorem c_mostFrom {g : Gg} {q : Nat → Nat} {K h a s : Nat} (hG : Gd q K) (hT : CT (g 39) q K (h + 1)) (hg : ∀ k, k < K → g 40 k = nI (gn q k h (cc K a))) (hg0 : g 40 K = nI 0) (hh : h < 10) (ha : a ≤ K) (hs : s < 32) (hsb : Sb q h s) : FX4_mostFrom 38 (nI h) (nI s) (nI K) (mk g) = some (nI (bsr q K (10 - h) (cc K a) s), mk g) := by
  have hK := hG.K
  have e9 : 9 - (9 - h) = h := by omega
  let f : Nat → Nat := fun k => bsr q K (9 - h) k (s ||| gn q k h (cc K a))
  have hf45 : ∀ k, f k ≤ 45 := fun k => bsr_45 hG _ _ _
  have hm45 : ∀ k, mxs f k ≤ 45 := fun k => mxs_ub (fun j _ => hf45 j)
  have emax : bsr q K (10 - h) (cc K a) s = max (mxs f K) (f 5) := by
    rw [show 10 - h = 9 - h + 1 by omega, bsr, e9]
    show _ = max _ (bsr q K (9 - h) 5 (s ||| gn q 5 h (cc K a)))
    rw [gn_5, Nat.or_zero]
  have hv : ∀ k, k < K → h_A (mk g) 0 39 (nI (192 * (h + 1) + 32 * k + (s ||| gn q k h (cc K a)))) = some (nI (f k)) := fun k hk => by
    have h32 := or_32 hs (gn_lt hG k h (cc K a))
    rw [t_A (n := 2112) rfl (by decide) _ (by omega), hT (h + 1) (by omega) (by omega) k (by omega) _ h32 (Sb_s hG hsb), show 10 - (h + 1) = 9 - h by omega, show cc K k = k from if_neg (by omega)]
  have hv5 : h_A (mk g) 0 39 (nI (192 * (h + 1) + 32 * K + s)) = some (nI (f 5)) := by
    have hsb' : Sb q (h + 1) s := by
      have := Sb_s (k := 5) (c := 0) hG hsb
      rw [gn_5, Nat.or_zero] at this
      exact this
    rw [t_A (n := 2112) rfl (by decide) _ (by omega), hT (h + 1) (by omega) (by omega) K (by omega) _ hs hsb', show 10 - (h + 1) = 9 - h by omega, show cc K K = 5 from if_pos rfl]
    show some (nI (bsr q K (9 - h) 5 s)) = some (nI (bsr q K (9 - h) 5 (s ||| gn q 5 h (cc K a))))
    rw [gn_5, Nat.or_zero]
  have e0 : FX4_mostFrom 38 (nI h) (nI s) (nI K) (mk g) = FX4_mostFrom_16 fu 38 (nI s) (nI K) (nI (mxs f 0)) (nI (192 * (h + 1) + 32 * 0)) (nI 0) (mk g) := by
    simp -dsimp -implicitDefEqProofs (disch := omega) only [bnd_u, gd_t, if_true, if_false, ↓reduceIte, eq_self, true_or, or_true, false_or, or_false, not_true_eq_false, not_false_eq_true, and_true, true_and, and_false, false_and, reduceCtorEq, nI_ge, nI_le, nI_lt, nI_nlt, nI_ne, nI_te, nm_eq, mn_eq, nm_le, mn_le, nm_lt, mn_lt, pk_mul, nI_add, pk_sub, nI_clamp, eX4_mostFrom, p_place, Nat.mul_zero, Nat.add_zero, mxs]
  rw [e0]
  refine lp_0 (σ := Int32) (fun n k b => FX4_mostFrom_16 n 38 (nI s) (nI K) b (nI (192 * (h + 1) + 32 * k)) (nI k) (mk g)) (K + 1) (fun k b => (k ≤ K ∧ b = nI (mxs f k)) ∨ (k = K + 1 ∧ b = nI (bsr q K (10 - h) (cc K a) s))) (fun o => o = some (nI (bsr q K (10 - h) (cc K a) s), mk g)) (Or.inl ⟨by omega, rfl⟩) (fu_l (by omega)) ?_ ?_
  · intro n k b hk hI
    have hbase : 192 * (h + 1) + 32 * k + 32 = 192 * (h + 1) + 32 * (k + 1) := by omega
    rcases hI with ⟨-, hb⟩ | ⟨h6, -⟩
    · subst hb
      have hm := hm45 k
      by_cases hkK : k < K
      · have h5 := hf45 k
        refine Or.inr ⟨nI (mxs f (k + 1)), ?_, Or.inl ⟨by omega, rfl⟩⟩
        rw [mxs]
        by_cases hle : f k ≤ mxs f k
        · rw [Nat.max_eq_left hle]
          simp -dsimp -implicitDefEqProofs (disch := omega) only [bnd_u, gd_t, if_true, if_false, ↓reduceIte, eq_self, true_or, or_true, false_or, or_false, not_true_eq_false, not_false_eq_true, and_true, true_and, and_false, false_and, reduceCtorEq, nI_ge, nI_le, nI_lt, nI_nlt, nI_ne, nI_te, nm_eq, mn_eq, nm_le, mn_le, nm_lt, mn_lt, pk_mul, nI_add, pk_sub, nI_clamp, eX4_mostFrom_16, eX4_mostFrom_52, hPl, hg k hkK, nI_or, hv k hkK, hbase]
        · rw [Nat.max_eq_right (by omega)]
          simp -dsimp -implicitDefEqProofs (disch := omega) only [bnd_u, gd_t, if_true, if_false, ↓reduceIte, eq_self, true_or, or_true, false_or, or_false, not_true_eq_false, not_false_eq_true, and_true, true_and, and_false, false_and, reduceCtorEq, nI_ge, nI_le, nI_lt, nI_nlt, nI_ne, nI_te, nm_eq, mn_eq, nm_le, mn_le, nm_lt, mn_lt, pk_mul, nI_add, pk_sub, nI_clamp, eX4_mostFrom_16, eX4_mostFrom_52, hPl, hg k hkK, nI_or, hv k hkK, hbase]
      · have ek : k = K := by omega
        subst ek
        have h5 := hf45 5
        refine Or.inr ⟨nI (bsr q k (10 - h) (cc k a) s), ?_, Or.inr ⟨rfl, rfl⟩⟩
        rw [emax]
        by_cases hle : f 5 ≤ mxs f k
        · rw [Nat.max_eq_left hle]
          simp -dsimp -implicitDefEqProofs (disch := omega) only [bnd_u, gd_t, if_true, if_false, ↓reduceIte, eq_self, true_or, or_true, false_or, or_false, not_true_eq_false, not_false_eq_true, and_true, true_and, and_false, false_and, reduceCtorEq, nI_ge, nI_le, nI_lt, nI_nlt, nI_ne, nI_te, nm_eq, mn_eq, nm_le, mn_le, nm_lt, mn_lt, pk_mul, nI_add, pk_sub, nI_clamp, eX4_mostFrom_16, eX4_mostFrom_52, hPl, hg0, nI_or, Nat.or_zero, hv5, hbase]
        · rw [Nat.max_eq_right (by omega)]
          simp -dsimp -implicitDefEqProofs (disch := omega) only [bnd_u, gd_t, if_true, if_false, ↓reduceIte, eq_self, true_or, or_true, false_or, or_false, not_true_eq_false, not_false_eq_true, and_true, true_and, and_false, false_and, reduceCtorEq, nI_ge, nI_le, nI_lt, nI_nlt, nI_ne, nI_te, nm_eq, mn_eq, nm_le, mn_le, nm_lt, mn_lt, pk_mul, nI_add, pk_sub, nI_clamp, eX4_mostFrom_16, eX4_mostFrom_52, hPl, hg0, nI_or, Nat.or_zero, hv5, hbase]
    · omega
  · intro n b hI
    rcases hI with ⟨h6, -⟩ | ⟨-, hb⟩
    · omega
    · subst hb
      simp -dsimp -implicitDefEqProofs (disch := omega) only [bnd_u, gd_t, if_true, if_false, ↓reduceIte, eq_self, true_or, or_true, false_or, or_false, not_true_eq_false, not_false_eq_true, and_true, true_and, and_false, false_and, reduceCtorEq, nI_ge, nI_le, nI_lt, nI_nlt, nI_ne, nI_te, nm_eq, mn_eq, nm_le, mn_le, nm_lt, mn_lt, pk_mul, nI_add, pk_sub, nI_clamp, eX4_mostFrom_16]
