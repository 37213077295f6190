/-! the reference: who sees, what is done -/
theorem lg_lt {x y : Int64} : (lg_cmp x y < nI 0) ↔ x < y := by
  unfold lg_cmp
  by_cases h1 : x > y
  · rw [if_pos h1]
    have h2 : ¬ x < y := fun h => by
      have h3 : y < x := h1
      rw [fa_lt64] at h h3; omega
    simp only [h2, iff_false]; decide
  · rw [if_neg h1]
    by_cases h2 : x = y
    · rw [if_pos h2]
      have h3 : ¬ x < y := fun h => by rw [fa_lt64, h2] at h; omega
      simp only [h3, iff_false]; decide
    · rw [if_neg h2]
      have h3 : x < y := by
        rw [fa_lt64]
        have h4 : ¬ y.toInt < x.toInt := fun h => h1 ((fa_lt64 _ _).mpr h)
        have h5 : ¬ x.toInt = y.toInt := fun h => h2 ((fa_eq64 _ _).mpr h)
        omega
      simp only [h3, iff_true]; decide
theorem lg_gt {x y : Int64} : (nI 0 < lg_cmp x y) ↔ y < x := by
  unfold lg_cmp
  by_cases h1 : x > y
  · rw [if_pos h1]
    have h2 : y < x := h1
    simp only [h2, iff_true]; decide
  · rw [if_neg h1]
    have h3 : ¬ y < x := h1
    simp only [h3, iff_false]
    split <;> decide
theorem m_in {M : Hx} {a b k : Nat} (h1 : a ≤ k) (h2 : k ≤ b) (hb : b < 2 ^ 31) : FX9_in (lN k) (lN a) (lN b) M = some (nI 1, M) := by
  have e1 : ¬ lN k < lN a := by rw [lN_lt (by omega) (by omega)]; omega
  have e2 : ¬ lN b < lN k := by rw [lN_lt (by omega) (by omega)]; omega
  simp -dsimp -implicitDefEqProofs (disch := omega) only [bnd_u, gd_t, if_true, if_false, ↓reduceIte, eq_self, true_or, or_true, false_or, or_false, not_true_eq_false, not_false_eq_true, and_true, true_and, and_false, false_and, reduceCtorEq, nI_ge, nI_le, nI_lt, nI_nlt, nI_ne, nI_te, nm_eq, mn_eq, nm_le, mn_le, nm_lt, mn_lt, pk_mul, nI_add, pk_sub, nI_clamp, eX9_in, eX9_in_18, lg_lt, lg_gt, e1, e2]
theorem m_inL {M : Hx} {x a : Int64} {y : Int64} (h : x < a) : FX9_in x a y M = some (nI 0, M) := by
  simp -dsimp -implicitDefEqProofs (disch := omega) only [bnd_u, gd_t, if_true, if_false, ↓reduceIte, eq_self, true_or, or_true, false_or, or_false, not_true_eq_false, not_false_eq_true, and_true, true_and, and_false, false_and, reduceCtorEq, nI_ge, nI_le, nI_lt, nI_nlt, nI_ne, nI_te, nm_eq, mn_eq, nm_le, mn_le, nm_lt, mn_lt, pk_mul, nI_add, pk_sub, nI_clamp, eX9_in, eX9_in_17, eX9_in_18, lg_lt, h]
theorem m_inH {M : Hx} {x a : Int64} {y : Int64} (h : y < x) : FX9_in x a y M = some (nI 0, M) := by
  by_cases e : x < a
  · exact m_inL e
  · simp -dsimp -implicitDefEqProofs (disch := omega) only [bnd_u, gd_t, if_true, if_false, ↓reduceIte, eq_self, true_or, or_true, false_or, or_false, not_true_eq_false, not_false_eq_true, and_true, true_and, and_false, false_and, reduceCtorEq, nI_ge, nI_le, nI_lt, nI_nlt, nI_ne, nI_te, nm_eq, mn_eq, nm_le, mn_le, nm_lt, mn_lt, pk_mul, nI_add, pk_sub, nI_clamp, eX9_in, eX9_in_17, eX9_in_18, lg_lt, lg_gt, h, e]
theorem m_inN {M : Hx} {n : Nat} {x : Int32} {y : Int64} (hn : n < 2 ^ 31) (hy : y.toInt = (n : Int) - 1) (hx : x < nI 0 ∨ (¬ x < nI 0 ∧ nI n ≤ x)) : FX9_in x.toInt64 (lN 0) y M = some (nI 0, M) := by
  rcases hx with h | ⟨-, h⟩
  · apply m_inL
    rw [fa_lt64, Int32.toInt_toInt64, pk_lT (by decide)]
    rw [fa_lt, nI_toInt (by decide)] at h
    exact h
  · apply m_inH
    rw [fa_lt64, Int32.toInt_toInt64, hy]
    rw [fa_le, nI_toInt hn] at h
    omega
theorem hy_n1 {n : Nat} (hn : n < 2 ^ 30) : (nI n - nI 1).toInt64.toInt = (n : Int) - 1 := by
  rw [Int32.toInt_toInt64, pk_sub_toInt hn (by decide)]; rfl
theorem hy_l {n m : Nat} (h : m + 1 = n) (hn : n < 2 ^ 31) : (lN m).toInt = (n : Int) - 1 := by
  rw [pk_lT (by omega)]; omega
/-- the reference's state is the page q with K of kin -/
def Ms (g : Gg) (q : Nat → Nat) (K : Nat) : Prop := g 78 2 = nI K ∧ Md (g 79) 0 q
theorem Ms.a {g : Gg} {q : Nat → Nat} {K : Nat} (h : Ms g q K) (i : Nat) (hi : i < 74) : h_A (mk g) 0 79 (nI i) = some (nI (q i)) := by
  have e := h.2 i hi
  rw [Nat.zero_add] at e
  rw [t_A (n := 296) rfl (by decide) i (by omega), e]
theorem m_one {g : Gg} {q : Nat → Nat} {K k : Nat} (hM : Ms g q K) (hK : K ≤ 5) (hk : k < K) : FX9_isOne 78 (nI k) (mk g) = some (nI 1, mk g) := by
  simp -dsimp -implicitDefEqProofs (disch := omega) only [bnd_u, gd_t, if_true, if_false, ↓reduceIte, eq_self, true_or, or_true, false_or, or_false, not_true_eq_false, not_false_eq_true, and_true, true_and, and_false, false_and, reduceCtorEq, nI_ge, nI_le, nI_lt, nI_nlt, nI_ne, nI_te, nm_eq, mn_eq, nm_le, mn_le, nm_lt, mn_lt, pk_mul, nI_add, pk_sub, nI_clamp, eX9_isOne, hMo, hM.1, nI_s1, nI_l, m_in]
theorem m_oneN {g : Gg} {q : Nat → Nat} {K : Nat} {x : Int32} (hM : Ms g q K) (hK : K ≤ 5) (hx : x < nI 0 ∨ (¬ x < nI 0 ∧ nI K ≤ x)) : FX9_isOne 78 x (mk g) = some (nI 0, mk g) := by
  have h := m_inN (M := mk g) (by omega) (hy_n1 (show K < 2 ^ 30 by omega)) hx
  simp -dsimp -implicitDefEqProofs (disch := omega) only [bnd_u, gd_t, if_true, if_false, ↓reduceIte, eq_self, true_or, or_true, false_or, or_false, not_true_eq_false, not_false_eq_true, and_true, true_and, and_false, false_and, reduceCtorEq, nI_ge, nI_le, nI_lt, nI_nlt, nI_ne, nI_te, nm_eq, mn_eq, nm_le, mn_le, nm_lt, mn_lt, pk_mul, nI_add, pk_sub, nI_clamp, eX9_isOne, hMo, hM.1, h]
theorem m_hour {M : Hx} {h : Nat} (hh : h < 10) : FX9_isHour (nI h) M = some (nI 1, M) := by
  simp -dsimp -implicitDefEqProofs (disch := omega) only [bnd_u, gd_t, if_true, if_false, ↓reduceIte, eq_self, true_or, or_true, false_or, or_false, not_true_eq_false, not_false_eq_true, and_true, true_and, and_false, false_and, reduceCtorEq, nI_ge, nI_le, nI_lt, nI_nlt, nI_ne, nI_te, nm_eq, mn_eq, nm_le, mn_le, nm_lt, mn_lt, pk_mul, nI_add, pk_sub, nI_clamp, eX9_isHour, nI_l, m_in]
theorem m_hourN {M : Hx} {x : Int32} (hx : x < nI 0 ∨ (¬ x < nI 0 ∧ nI 10 ≤ x)) : FX9_isHour x M = some (nI 0, M) := by
  simp -dsimp -implicitDefEqProofs (disch := omega) only [bnd_u, gd_t, if_true, if_false, ↓reduceIte, eq_self, true_or, or_true, false_or, or_false, not_true_eq_false, not_false_eq_true, and_true, true_and, and_false, false_and, reduceCtorEq, nI_ge, nI_le, nI_lt, nI_nlt, nI_ne, nI_te, nm_eq, mn_eq, nm_le, mn_le, nm_lt, mn_lt, pk_mul, nI_add, pk_sub, nI_clamp, eX9_isHour, m_inN (M := M) (y := lN 9) (by decide) (hy_l (by decide) (by decide)) hx]
theorem m_thing {M : Hx} {h : Nat} (hh : h < 3) : FX9_isThing (nI h) M = some (nI 1, M) := by
  simp -dsimp -implicitDefEqProofs (disch := omega) only [bnd_u, gd_t, if_true, if_false, ↓reduceIte, eq_self, true_or, or_true, false_or, or_false, not_true_eq_false, not_false_eq_true, and_true, true_and, and_false, false_and, reduceCtorEq, nI_ge, nI_le, nI_lt, nI_nlt, nI_ne, nI_te, nm_eq, mn_eq, nm_le, mn_le, nm_lt, mn_lt, pk_mul, nI_add, pk_sub, nI_clamp, eX9_isThing, nI_l, m_in]
theorem m_thingN {M : Hx} {x : Int32} (hx : x < nI 0 ∨ (¬ x < nI 0 ∧ nI 3 ≤ x)) : FX9_isThing x M = some (nI 0, M) := by
  simp -dsimp -implicitDefEqProofs (disch := omega) only [bnd_u, gd_t, if_true, if_false, ↓reduceIte, eq_self, true_or, or_true, false_or, or_false, not_true_eq_false, not_false_eq_true, and_true, true_and, and_false, false_and, reduceCtorEq, nI_ge, nI_le, nI_lt, nI_nlt, nI_ne, nI_te, nm_eq, mn_eq, nm_le, mn_le, nm_lt, mn_lt, pk_mul, nI_add, pk_sub, nI_clamp, eX9_isThing, m_inN (M := M) (y := lN 2) (by decide) (hy_l (by decide) (by decide)) hx]
def hm (r : Nat) : Int32 := if r = 0 then mi 1 else nI (r - 1)
theorem hm_0 {r : Nat} (h : r = 0) : hm r = mi 1 := if_pos h
theorem hm_s {r : Nat} (h : 0 < r) : hm r = nI (r - 1) := if_neg (by omega)
theorem hm_e (r : Nat) : nI r - nI 1 = hm r := by
  by_cases h : r = 0
  · rw [hm_0 h, h]; decide
  · rw [hm_s (by omega), nI_s1 (by omega)]
theorem m_has {g : Gg} {q : Nat → Nat} {K h : Nat} (hM : Ms g q K) (hh : h < 10) : FX9_hasIt 78 (nI h) (mk g) = some (hm (q (26 + h)), mk g) := by
  simp -dsimp -implicitDefEqProofs (disch := omega) only [bnd_u, gd_t, if_true, if_false, ↓reduceIte, eq_self, true_or, or_true, false_or, or_false, not_true_eq_false, not_false_eq_true, and_true, true_and, and_false, false_and, reduceCtorEq, nI_ge, nI_le, nI_lt, nI_nlt, nI_ne, nI_te, nm_eq, mn_eq, nm_le, mn_le, nm_lt, mn_lt, pk_mul, nI_add, pk_sub, nI_clamp, eX9_hasIt, hMo, hM.a, hm_e]
theorem m_eyes {g : Gg} {q : Nat → Nat} {K k h : Nat} (hM : Ms g q K) (hG : Gd q K) (hk : k < K) (hh : h < 10) : FX9_hasEyes 78 (nI k) (nI h) (mk g) = some (nI (eyes (q k) h).toNat, mk g) := by
  have hK := hG.K
  have hq := (hG.k hk).1
  by_cases h1 : q k = 1
  · by_cases h2 : h < 6
    · have e : eyes (q k) h = true := by simp [eyes, h1, h2]
      simp -dsimp -implicitDefEqProofs (disch := omega) only [bnd_u, gd_t, if_true, if_false, ↓reduceIte, eq_self, true_or, or_true, false_or, or_false, not_true_eq_false, not_false_eq_true, and_true, true_and, and_false, false_and, reduceCtorEq, nI_ge, nI_le, nI_lt, nI_nlt, nI_ne, nI_te, nm_eq, mn_eq, nm_le, mn_le, nm_lt, mn_lt, pk_mul, nI_add, pk_sub, nI_clamp, eX9_hasEyes, eX9_hasEyes_44, hMo, hM.a, e, Bool.toNat_true]
    · have e : eyes (q k) h = false := by simp [eyes, h1, h2]
      simp -dsimp -implicitDefEqProofs (disch := omega) only [bnd_u, gd_t, if_true, if_false, ↓reduceIte, eq_self, true_or, or_true, false_or, or_false, not_true_eq_false, not_false_eq_true, and_true, true_and, and_false, false_and, reduceCtorEq, nI_ge, nI_le, nI_lt, nI_nlt, nI_ne, nI_te, nm_eq, mn_eq, nm_le, mn_le, nm_lt, mn_lt, pk_mul, nI_add, pk_sub, nI_clamp, eX9_hasEyes, eX9_hasEyes_44, hMo, hM.a, e, Bool.toNat_false]
  · by_cases h3 : q k = 3
    · by_cases h2 : h < 6
      · have e : eyes (q k) h = false := by simp [eyes, h3]; omega
        simp -dsimp -implicitDefEqProofs (disch := omega) only [bnd_u, gd_t, if_true, if_false, ↓reduceIte, eq_self, true_or, or_true, false_or, or_false, not_true_eq_false, not_false_eq_true, and_true, true_and, and_false, false_and, reduceCtorEq, nI_ge, nI_le, nI_lt, nI_nlt, nI_ne, nI_te, nm_eq, mn_eq, nm_le, mn_le, nm_lt, mn_lt, pk_mul, nI_add, pk_sub, nI_clamp, eX9_hasEyes, eX9_hasEyes_44, eX9_hasEyes_39, hMo, hM.a, e, Bool.toNat_false]
      · have e : eyes (q k) h = true := by simp [eyes, h3]; omega
        simp -dsimp -implicitDefEqProofs (disch := omega) only [bnd_u, gd_t, if_true, if_false, ↓reduceIte, eq_self, true_or, or_true, false_or, or_false, not_true_eq_false, not_false_eq_true, and_true, true_and, and_false, false_and, reduceCtorEq, nI_ge, nI_le, nI_lt, nI_nlt, nI_ne, nI_te, nm_eq, mn_eq, nm_le, mn_le, nm_lt, mn_lt, pk_mul, nI_add, pk_sub, nI_clamp, eX9_hasEyes, eX9_hasEyes_44, eX9_hasEyes_39, hMo, hM.a, e, Bool.toNat_true]
    · have e : eyes (q k) h = true := by simp [eyes, h1, h3]
      simp -dsimp -implicitDefEqProofs (disch := omega) only [bnd_u, gd_t, if_true, if_false, ↓reduceIte, eq_self, true_or, or_true, false_or, or_false, not_true_eq_false, not_false_eq_true, and_true, true_and, and_false, false_and, reduceCtorEq, nI_ge, nI_le, nI_lt, nI_nlt, nI_ne, nI_te, nm_eq, mn_eq, nm_le, mn_le, nm_lt, mn_lt, pk_mul, nI_add, pk_sub, nI_clamp, eX9_hasEyes, eX9_hasEyes_44, eX9_hasEyes_39, hMo, hM.a, e, Bool.toNat_true]
theorem m_would {g : Gg} {q : Nat → Nat} {K k h a : Nat} (hM : Ms g q K) (hG : Gd q K) (hk : k < K) (hh : h < 10) (ha : a ≤ 5) : FX9_wouldSee 78 (nI k) (nI h) (hm a) (mk g) = some (nI (wsee q k h a).toNat, mk g) := by
  have hK := hG.K
  have he := m_eyes hM hG hk hh
  have w32 : FX9_wouldSee_32 78 (nI k) (nI h) (nI 1) (mk g) = some (nI (eyes (q k) h).toNat, mk g) := by
    cases e : eyes (q k) h <;> rw [e] at he
    · simp -dsimp -implicitDefEqProofs (disch := omega) only [bnd_u, gd_t, if_true, if_false, ↓reduceIte, eq_self, true_or, or_true, false_or, or_false, not_true_eq_false, not_false_eq_true, and_true, true_and, and_false, false_and, reduceCtorEq, nI_ge, nI_le, nI_lt, nI_nlt, nI_ne, nI_te, nm_eq, mn_eq, nm_le, mn_le, nm_lt, mn_lt, pk_mul, nI_add, pk_sub, nI_clamp, eX9_wouldSee_32, eX9_wouldSee_52, eX9_wouldSee_53, hMo, he, Bool.toNat_false]
    · simp -dsimp -implicitDefEqProofs (disch := omega) only [bnd_u, gd_t, if_true, if_false, ↓reduceIte, eq_self, true_or, or_true, false_or, or_false, not_true_eq_false, not_false_eq_true, and_true, true_and, and_false, false_and, reduceCtorEq, nI_ge, nI_le, nI_lt, nI_nlt, nI_ne, nI_te, nm_eq, mn_eq, nm_le, mn_le, nm_lt, mn_lt, pk_mul, nI_add, pk_sub, nI_clamp, eX9_wouldSee_32, eX9_wouldSee_52, eX9_wouldSee_53, hMo, he, Bool.toNat_true]
  have w0 : FX9_wouldSee_32 78 (nI k) (nI h) (nI 0) (mk g) = some (nI 0, mk g) := by
    simp -dsimp -implicitDefEqProofs (disch := omega) only [bnd_u, gd_t, if_true, if_false, ↓reduceIte, eq_self, true_or, or_true, false_or, or_false, not_true_eq_false, not_false_eq_true, and_true, true_and, and_false, false_and, reduceCtorEq, nI_ge, nI_le, nI_lt, nI_nlt, nI_ne, nI_te, nm_eq, mn_eq, nm_le, mn_le, nm_lt, mn_lt, pk_mul, nI_add, pk_sub, nI_clamp, eX9_wouldSee_32, eX9_wouldSee_52, eX9_wouldSee_53]
  by_cases h0 : h = 0
  · have e : wsee q k h a = eyes (q k) h := by simp [wsee, h0]
    rw [e, ← w32, h0]
    simp -dsimp -implicitDefEqProofs (disch := omega) only [bnd_u, gd_t, if_true, if_false, ↓reduceIte, eq_self, true_or, or_true, false_or, or_false, not_true_eq_false, not_false_eq_true, and_true, true_and, and_false, false_and, reduceCtorEq, nI_ge, nI_le, nI_lt, nI_nlt, nI_ne, nI_te, nm_eq, mn_eq, nm_le, mn_le, nm_lt, mn_lt, pk_mul, nI_add, pk_sub, nI_clamp, eX9_wouldSee, eX9_wouldSee_27]
  · by_cases h1 : a = 0
    · have e : wsee q k h a = eyes (q k) h := by simp [wsee, near, h1]
      rw [e, ← w32]
      simp -dsimp -implicitDefEqProofs (disch := omega) only [bnd_u, gd_t, if_true, if_false, ↓reduceIte, eq_self, true_or, or_true, false_or, or_false, not_true_eq_false, not_false_eq_true, and_true, true_and, and_false, false_and, reduceCtorEq, nI_ge, nI_le, nI_lt, nI_nlt, nI_ne, nI_te, nm_eq, mn_eq, nm_le, mn_le, nm_lt, mn_lt, pk_mul, nI_add, pk_sub, nI_clamp, eX9_wouldSee, eX9_wouldSee_27, hm_0 h1]
    · by_cases h2 : a = k + 1
      · have e : wsee q k h a = eyes (q k) h := by simp [wsee, near, h2]
        rw [e, ← w32]
        simp -dsimp -implicitDefEqProofs (disch := omega) only [bnd_u, gd_t, if_true, if_false, ↓reduceIte, eq_self, true_or, or_true, false_or, or_false, not_true_eq_false, not_false_eq_true, and_true, true_and, and_false, false_and, reduceCtorEq, nI_ge, nI_le, nI_lt, nI_nlt, nI_ne, nI_te, nm_eq, mn_eq, nm_le, mn_le, nm_lt, mn_lt, pk_mul, nI_add, pk_sub, nI_clamp, eX9_wouldSee, eX9_wouldSee_27, hm_s (show 0 < a by omega), show a - 1 = k by omega]
      · by_cases h3 : a = k + 2
        · have e : wsee q k h a = eyes (q k) h := by simp [wsee, near, h3]
          rw [e, ← w32]
          simp -dsimp -implicitDefEqProofs (disch := omega) only [bnd_u, gd_t, if_true, if_false, ↓reduceIte, eq_self, true_or, or_true, false_or, or_false, not_true_eq_false, not_false_eq_true, and_true, true_and, and_false, false_and, reduceCtorEq, nI_ge, nI_le, nI_lt, nI_nlt, nI_ne, nI_te, nm_eq, mn_eq, nm_le, mn_le, nm_lt, mn_lt, pk_mul, nI_add, pk_sub, nI_clamp, eX9_wouldSee, eX9_wouldSee_27, hm_s (show 0 < a by omega), show a - 1 = k + 1 by omega]
        · by_cases h4 : a = k
          · have e : wsee q k h a = eyes (q k) h := by simp [wsee, near, h4]
            rw [e, ← w32]
            simp -dsimp -implicitDefEqProofs (disch := omega) only [bnd_u, gd_t, if_true, if_false, ↓reduceIte, eq_self, true_or, or_true, false_or, or_false, not_true_eq_false, not_false_eq_true, and_true, true_and, and_false, false_and, reduceCtorEq, nI_ge, nI_le, nI_lt, nI_nlt, nI_ne, nI_te, nm_eq, mn_eq, nm_le, mn_le, nm_lt, mn_lt, pk_mul, nI_add, pk_sub, nI_clamp, eX9_wouldSee, eX9_wouldSee_27, hm_s (show 0 < a by omega), nI_s1, show a - 1 = k - 1 by omega]
          · have e : wsee q k h a = false := by simp [wsee, near, h0, h1, h2, h3, h4]
            rw [e]
            show _ = some (nI 0, mk g)
            rw [← w0]
            by_cases hk0 : k = 0
            · have : nI k - nI 1 = mi 1 := by rw [hk0]; decide
              simp -dsimp -implicitDefEqProofs (disch := omega) only [bnd_u, gd_t, if_true, if_false, ↓reduceIte, eq_self, true_or, or_true, false_or, or_false, not_true_eq_false, not_false_eq_true, and_true, true_and, and_false, false_and, reduceCtorEq, nI_ge, nI_le, nI_lt, nI_nlt, nI_ne, nI_te, nm_eq, mn_eq, nm_le, mn_le, nm_lt, mn_lt, pk_mul, nI_add, pk_sub, nI_clamp, eX9_wouldSee, hm_s (show 0 < a by omega), this]
            · simp -dsimp -implicitDefEqProofs (disch := omega) only [bnd_u, gd_t, if_true, if_false, ↓reduceIte, eq_self, true_or, or_true, false_or, or_false, not_true_eq_false, not_false_eq_true, and_true, true_and, and_false, false_and, reduceCtorEq, nI_ge, nI_le, nI_lt, nI_nlt, nI_ne, nI_te, nm_eq, mn_eq, nm_le, mn_le, nm_lt, mn_lt, pk_mul, nI_add, pk_sub, nI_clamp, eX9_wouldSee, hm_s (show 0 < a by omega), nI_s1]
theorem m_does {g : Gg} {q : Nat → Nat} {K h : Nat} (hM : Ms g q K) (hG : Gd q K) (hh : h < 10) : FX9_doesSee 78 (nI h) (mk g) = some (nI (dsee q h).toNat, mk g) := by
  have hK := hG.K
  have hr := hG.r hh
  have h1 := m_has hM hh
  by_cases h0 : q (26 + h) = 0
  · have e : dsee q h = false := by simp [dsee, h0]
    rw [hm_0 h0] at h1
    simp -dsimp -implicitDefEqProofs (disch := omega) only [bnd_u, gd_t, if_true, if_false, ↓reduceIte, eq_self, true_or, or_true, false_or, or_false, not_true_eq_false, not_false_eq_true, and_true, true_and, and_false, false_and, reduceCtorEq, nI_ge, nI_le, nI_lt, nI_nlt, nI_ne, nI_te, nm_eq, mn_eq, nm_le, mn_le, nm_lt, mn_lt, pk_mul, nI_add, pk_sub, nI_clamp, eX9_doesSee, eX9_doesSee_40, eX9_doesSee_41, hMo, h1, e, Bool.toNat_false]
  · have hp : 0 < q (26 + h) := by omega
    rw [hm_s hp] at h1
    have e30 : ∀ a, a ≤ 5 → FX9_doesSee_30 78 (nI (q (26 + h) - 1)) (nI h) (hm a) (mk g) = some (nI (wsee q (q (26 + h) - 1) h a).toNat, mk g) := by
      intro a ha
      have hw := m_would hM hG (show q (26 + h) - 1 < K by omega) hh ha
      cases e : wsee q (q (26 + h) - 1) h a <;> rw [e] at hw
      · simp -dsimp -implicitDefEqProofs (disch := omega) only [bnd_u, gd_t, if_true, if_false, ↓reduceIte, eq_self, true_or, or_true, false_or, or_false, not_true_eq_false, not_false_eq_true, and_true, true_and, and_false, false_and, reduceCtorEq, nI_ge, nI_le, nI_lt, nI_nlt, nI_ne, nI_te, nm_eq, mn_eq, nm_le, mn_le, nm_lt, mn_lt, pk_mul, nI_add, pk_sub, nI_clamp, eX9_doesSee_30, eX9_doesSee_40, eX9_doesSee_41, hMo, hw, Bool.toNat_false]
      · simp -dsimp -implicitDefEqProofs (disch := omega) only [bnd_u, gd_t, if_true, if_false, ↓reduceIte, eq_self, true_or, or_true, false_or, or_false, not_true_eq_false, not_false_eq_true, and_true, true_and, and_false, false_and, reduceCtorEq, nI_ge, nI_le, nI_lt, nI_nlt, nI_ne, nI_te, nm_eq, mn_eq, nm_le, mn_le, nm_lt, mn_lt, pk_mul, nI_add, pk_sub, nI_clamp, eX9_doesSee_30, eX9_doesSee_40, eX9_doesSee_41, hMo, hw, Bool.toNat_true]
    by_cases hz : h = 0
    · have e := e30 0 (by omega)
      rw [hm_0 rfl] at e
      have e2 : dsee q h = wsee q (q (26 + h) - 1) h 0 := by
        unfold dsee wsee
        rw [decide_eq_true hp, hz]
        simp
      rw [e2, ← e]
      subst hz
      simp -dsimp -implicitDefEqProofs (disch := omega) only [bnd_u, gd_t, if_true, if_false, ↓reduceIte, eq_self, true_or, or_true, false_or, or_false, not_true_eq_false, not_false_eq_true, and_true, true_and, and_false, false_and, reduceCtorEq, nI_ge, nI_le, nI_lt, nI_nlt, nI_ne, nI_te, nm_eq, mn_eq, nm_le, mn_le, nm_lt, mn_lt, pk_mul, nI_add, pk_sub, nI_clamp, eX9_doesSee, hMo, h1]
    · have hr2 := hG.r (show h - 1 < 10 by omega)
      have e := e30 (q (26 + (h - 1))) (by omega)
      have e3 : 26 + (h - 1) = 25 + h := by omega
      have e2 : dsee q h = wsee q (q (26 + h) - 1) h (q (26 + (h - 1))) := by simp [dsee, hp, e3]
      rw [e2, ← e]
      simp -dsimp -implicitDefEqProofs (disch := omega) only [bnd_u, gd_t, if_true, if_false, ↓reduceIte, eq_self, true_or, or_true, false_or, or_false, not_true_eq_false, not_false_eq_true, and_true, true_and, and_false, false_and, reduceCtorEq, nI_ge, nI_le, nI_lt, nI_nlt, nI_ne, nI_te, nm_eq, mn_eq, nm_le, mn_le, nm_lt, mn_lt, pk_mul, nI_add, pk_sub, nI_clamp, eX9_doesSee, hMo, h1, nI_s1, m_has hM (show h - 1 < 10 by omega)]
theorem m_seeing {g : Gg} {q : Nat → Nat} {K : Nat} (hM : Ms g q K) (hG : Gd q K) : FX9_seeing 78 (mk g) = some (nI (msk (dsee q) 10), mk g) := by
  rw [eX9_seeing]
  refine lp_0 (σ := Int32) (fun n i s => FX9_seeing_4 n 78 s (nI i) (mk g)) 10 (fun i s => s = nI (msk (dsee q) i)) (fun o => o = some (nI (msk (dsee q) 10), mk g)) rfl (by decide) ?_ ?_
  · intro n k s hk hs
    subst hs
    have hd := m_does hM hG hk
    refine Or.inr ⟨_, ?_, rfl⟩
    cases e : dsee q k <;> rw [e] at hd
    · simp -dsimp -implicitDefEqProofs (disch := omega) only [bnd_u, gd_t, if_true, if_false, ↓reduceIte, eq_self, true_or, or_true, false_or, or_false, not_true_eq_false, not_false_eq_true, and_true, true_and, and_false, false_and, reduceCtorEq, nI_ge, nI_le, nI_lt, nI_nlt, nI_ne, nI_te, nm_eq, mn_eq, nm_le, mn_le, nm_lt, mn_lt, pk_mul, nI_add, pk_sub, nI_clamp, eX9_seeing_4, eX9_seeing_26, hMo, hd, Bool.toNat_false, msk_f e]
    · simp -dsimp -implicitDefEqProofs (disch := omega) only [bnd_u, gd_t, if_true, if_false, ↓reduceIte, eq_self, true_or, or_true, false_or, or_false, not_true_eq_false, not_false_eq_true, and_true, true_and, and_false, false_and, reduceCtorEq, nI_ge, nI_le, nI_lt, nI_nlt, nI_ne, nI_te, nm_eq, mn_eq, nm_le, mn_le, nm_lt, mn_lt, pk_mul, nI_add, pk_sub, nI_clamp, eX9_seeing_4, eX9_seeing_26, hMo, hd, Bool.toNat_true, msk_t (show k < 31 by omega) e]
  · intro n s hs
    simp -dsimp -implicitDefEqProofs (disch := omega) only [bnd_u, gd_t, if_true, if_false, ↓reduceIte, eq_self, true_or, or_true, false_or, or_false, not_true_eq_false, not_false_eq_true, and_true, true_and, and_false, false_and, reduceCtorEq, nI_ge, nI_le, nI_lt, nI_nlt, nI_ne, nI_te, nm_eq, mn_eq, nm_le, mn_le, nm_lt, mn_lt, pk_mul, nI_add, pk_sub, nI_clamp, eX9_seeing_4, hs]
theorem m_done {g : Gg} {q : Nat → Nat} {K i m : Nat} (hM : Ms g q K) (hG : Gd q K) (hi : i < q 56) (hm' : m < 2 ^ 31) : FX9_isDone 78 (nI i) (nI m) (mk g) = some (nI (dnm q i m).toNat, mk g) := by
  have hw := hG.w hi
  have hwn := hG.wn
  have e0 : FX9_isDone 78 (nI i) (nI m) (mk g) = FX9_isDone_20 fu 78 (nI m) (nI (36 + 4 * i)) (nI 0) (nI (q (36 + 4 * i + 1))) (mk g) := by
    simp -dsimp -implicitDefEqProofs (disch := omega) only [bnd_u, gd_t, if_true, if_false, ↓reduceIte, eq_self, true_or, or_true, false_or, or_false, not_true_eq_false, not_false_eq_true, and_true, true_and, and_false, false_and, reduceCtorEq, nI_ge, nI_le, nI_lt, nI_nlt, nI_ne, nI_te, nm_eq, mn_eq, nm_le, mn_le, nm_lt, mn_lt, pk_mul, nI_add, pk_sub, nI_clamp, eX9_isDone, hMo, hM.a]
  rw [e0]
  refine lp_k (σ := Bool) (fun n h s => FX9_isDone_20 n 78 (nI m) (nI (36 + 4 * i)) (nI s.toNat) (nI h) (mk g)) (q (36 + 4 * i + 2) + 1) (fun h s => q (36 + 4 * i + 1) ≤ h ∧ s = anyb (fun h => (decide (q (36 + 4 * i + 1) ≤ h) && decide (h ≤ q (36 + 4 * i + 2))) && (m.testBit h && decide (q (26 + h) = q (36 + 4 * i) + 1))) h) (fun o => o = some (nI (dnm q i m).toNat, mk g)) (k := q (36 + 4 * i + 1)) (s := false) (by omega) ?_ (fu_l (by omega)) ?_ ?_
  · refine ⟨Nat.le_refl _, ?_⟩
    symm
    rw [← Bool.not_eq_true, anyb_i]
    rintro ⟨j, hj, hj2⟩
    simp at hj2
    omega
  · intro n h s hh ⟨hlo, hs⟩
    have hh10 : h < 10 := by omega
    have hb := nI_bit hm' (show h < 32 by omega)
    refine Or.inr ⟨anyb (fun h => (decide (q (36 + 4 * i + 1) ≤ h) && decide (h ≤ q (36 + 4 * i + 2))) && (m.testBit h && decide (q (26 + h) = q (36 + 4 * i) + 1))) (h + 1), ?_, by omega, rfl⟩
    have hgo : FX9_isDone_20 (n + 1) 78 (nI m) (nI (36 + 4 * i)) (nI s.toNat) (nI h) (mk g) = FX9_isDone_20 n 78 (nI m) (nI (36 + 4 * i)) (nI (s || (m.testBit h && decide (q (26 + h) = q (36 + 4 * i) + 1))).toNat) (nI (h + 1)) (mk g) := by
      have hr := hG.r hh10
      have hK := hG.K
      cases s
      · cases e1 : m.testBit h <;> rw [e1] at hb
        · simp -dsimp -implicitDefEqProofs (disch := omega) only [bnd_u, gd_t, if_true, if_false, ↓reduceIte, eq_self, true_or, or_true, false_or, or_false, not_true_eq_false, not_false_eq_true, and_true, true_and, and_false, false_and, reduceCtorEq, nI_ge, nI_le, nI_lt, nI_nlt, nI_ne, nI_te, nm_eq, mn_eq, nm_le, mn_le, nm_lt, mn_lt, pk_mul, nI_add, pk_sub, nI_clamp, eX9_isDone_20, eX9_isDone_67, eX9_isDone_68, hMo, hM.a, hb, Bool.toNat_false, Bool.false_and, Bool.or_false]
        · have h1 := m_has hM hh10
          by_cases e2 : q (26 + h) = q (36 + 4 * i) + 1
          · rw [e2, hm_s (by omega), Nat.add_sub_cancel] at h1
            simp -dsimp -implicitDefEqProofs (disch := omega) only [bnd_u, gd_t, if_true, if_false, ↓reduceIte, eq_self, true_or, or_true, false_or, or_false, not_true_eq_false, not_false_eq_true, and_true, true_and, and_false, false_and, reduceCtorEq, nI_ge, nI_le, nI_lt, nI_nlt, nI_ne, nI_te, nm_eq, mn_eq, nm_le, mn_le, nm_lt, mn_lt, pk_mul, nI_add, pk_sub, nI_clamp, eX9_isDone_20, eX9_isDone_63, eX9_isDone_68, hMo, hM.a, hb, h1, Bool.toNat_false, Bool.toNat_true, e2, decide_true, Bool.true_and, Bool.or_true]
          · have h2 : (hm (q (26 + h)) = nI (q (36 + 4 * i))) = False := by
              by_cases e3 : q (26 + h) = 0
              · rw [hm_0 e3]; exact mn_eq (by omega) (by omega) (by omega)
              · rw [hm_s (by omega)]; exact nI_ne (by omega) (by omega) (by omega)
            simp -dsimp -implicitDefEqProofs (disch := omega) only [bnd_u, gd_t, if_true, if_false, ↓reduceIte, eq_self, true_or, or_true, false_or, or_false, not_true_eq_false, not_false_eq_true, and_true, true_and, and_false, false_and, reduceCtorEq, nI_ge, nI_le, nI_lt, nI_nlt, nI_ne, nI_te, nm_eq, mn_eq, nm_le, mn_le, nm_lt, mn_lt, pk_mul, nI_add, pk_sub, nI_clamp, eX9_isDone_20, eX9_isDone_67, eX9_isDone_68, hMo, hM.a, hb, h1, h2, Bool.toNat_false, Bool.toNat_true, e2, decide_false, Bool.and_false, Bool.or_false]
      · simp -dsimp -implicitDefEqProofs (disch := omega) only [bnd_u, gd_t, if_true, if_false, ↓reduceIte, eq_self, true_or, or_true, false_or, or_false, not_true_eq_false, not_false_eq_true, and_true, true_and, and_false, false_and, reduceCtorEq, nI_ge, nI_le, nI_lt, nI_nlt, nI_ne, nI_te, nm_eq, mn_eq, nm_le, mn_le, nm_lt, mn_lt, pk_mul, nI_add, pk_sub, nI_clamp, eX9_isDone_20, eX9_isDone_63, eX9_isDone_68, hMo, hM.a, Bool.toNat_true, Bool.true_or]
    have e5 : h ≤ q (36 + 4 * i + 2) := by omega
    have hb2 : (s || (m.testBit h && decide (q (26 + h) = q (36 + 4 * i) + 1))) = anyb (fun h => (decide (q (36 + 4 * i + 1) ≤ h) && decide (h ≤ q (36 + 4 * i + 2))) && (m.testBit h && decide (q (26 + h) = q (36 + 4 * i) + 1))) (h + 1) := by
      rw [anyb, hs]
      simp only [hlo, e5, decide_true, Bool.true_and]
    rw [hgo, hb2]
  · intro n s ⟨_, hs⟩
    have e : s = dnm q i m := by
      rw [hs]
      unfold dnm
      rw [Bool.eq_iff_iff, anyb_i, anyb_i]
      constructor
      · rintro ⟨j, hj, hj2⟩
        exact ⟨j, by omega, hj2⟩
      · rintro ⟨j, hj, hj2⟩
        refine ⟨j, ?_, hj2⟩
        simp only [Bool.and_eq_true, decide_eq_true_eq] at hj2
        omega
    subst e
    cases e2 : dnm q i m
    · simp -dsimp -implicitDefEqProofs (disch := omega) only [bnd_u, gd_t, if_true, if_false, ↓reduceIte, eq_self, true_or, or_true, false_or, or_false, not_true_eq_false, not_false_eq_true, and_true, true_and, and_false, false_and, reduceCtorEq, nI_ge, nI_le, nI_lt, nI_nlt, nI_ne, nI_te, nm_eq, mn_eq, nm_le, mn_le, nm_lt, mn_lt, pk_mul, nI_add, pk_sub, nI_clamp, eX9_isDone_20, hMo, hM.a, Bool.toNat_false]
    · simp -dsimp -implicitDefEqProofs (disch := omega) only [bnd_u, gd_t, if_true, if_false, ↓reduceIte, eq_self, true_or, or_true, false_or, or_false, not_true_eq_false, not_false_eq_true, and_true, true_and, and_false, false_and, reduceCtorEq, nI_ge, nI_le, nI_lt, nI_nlt, nI_ne, nI_te, nm_eq, mn_eq, nm_le, mn_le, nm_lt, mn_lt, pk_mul, nI_add, pk_sub, nI_clamp, eX9_isDone_20, hMo, hM.a, Bool.toNat_true]
theorem m_doneBy {g : Gg} {q : Nat → Nat} {K m : Nat} (hM : Ms g q K) (hG : Gd q K) (hm' : m < 2 ^ 31) : FX9_doneBy 78 (nI m) (mk g) = some (nI (msk (fun i => dnm q i m) (q 56)), mk g) := by
  have hwn := hG.wn
  rw [eX9_doneBy]
  refine lp_0 (σ := Int32) (fun n i s => FX9_doneBy_4 n 78 (nI m) s (nI i) (mk g)) (q 56) (fun i s => s = nI (msk (fun i => dnm q i m) i)) (fun o => o = some (nI (msk (fun i => dnm q i m) (q 56)), mk g)) rfl (fu_l (by omega)) ?_ ?_
  · intro n k s hk hs
    subst hs
    have hd := m_done hM hG hk hm'
    refine Or.inr ⟨_, ?_, rfl⟩
    cases e : dnm q k m <;> rw [e] at hd
    · simp -dsimp -implicitDefEqProofs (disch := omega) only [bnd_u, gd_t, if_true, if_false, ↓reduceIte, eq_self, true_or, or_true, false_or, or_false, not_true_eq_false, not_false_eq_true, and_true, true_and, and_false, false_and, reduceCtorEq, nI_ge, nI_le, nI_lt, nI_nlt, nI_ne, nI_te, nm_eq, mn_eq, nm_le, mn_le, nm_lt, mn_lt, pk_mul, nI_add, pk_sub, nI_clamp, eX9_doneBy_4, eX9_doneBy_32, hMo, hM.a, hd, Bool.toNat_false, msk_f (c := fun i => dnm q i m) e]
    · simp -dsimp -implicitDefEqProofs (disch := omega) only [bnd_u, gd_t, if_true, if_false, ↓reduceIte, eq_self, true_or, or_true, false_or, or_false, not_true_eq_false, not_false_eq_true, and_true, true_and, and_false, false_and, reduceCtorEq, nI_ge, nI_le, nI_lt, nI_nlt, nI_ne, nI_te, nm_eq, mn_eq, nm_le, mn_le, nm_lt, mn_lt, pk_mul, nI_add, pk_sub, nI_clamp, eX9_doneBy_4, eX9_doneBy_32, hMo, hM.a, hd, Bool.toNat_true, msk_t (c := fun i => dnm q i m) (show k < 31 by omega) e]
  · intro n s hs
    simp -dsimp -implicitDefEqProofs (disch := omega) only [bnd_u, gd_t, if_true, if_false, ↓reduceIte, eq_self, true_or, or_true, false_or, or_false, not_true_eq_false, not_false_eq_true, and_true, true_and, and_false, false_and, reduceCtorEq, nI_ge, nI_le, nI_lt, nI_nlt, nI_ne, nI_te, nm_eq, mn_eq, nm_le, mn_le, nm_lt, mn_lt, pk_mul, nI_add, pk_sub, nI_clamp, eX9_doneBy_4, hMo, hM.a, hs]
/-- the worth of the pieces that the mask m has -/
def wr (q : Nat → Nat) (m : Nat) : Nat := fb_sm (fun i => if m.testBit i then q (36 + 4 * i + 3) else 0) (q 56)
theorem m_worth {g : Gg} {q : Nat → Nat} {K m : Nat} (hM : Ms g q K) (hG : Gd q K) (hm' : m < 2 ^ 31) : FX9_worthOf 78 (nI m) (mk g) = some (nI (wr q m), mk g) := by
  have hwn := hG.wn
  rw [eX9_worthOf]
  refine lp_0 (σ := Int32) (fun n i s => FX9_worthOf_4 n 78 (nI m) s (nI i) (mk g)) (q 56) (fun i s => s = nI (fb_sm (fun i => if m.testBit i then q (36 + 4 * i + 3) else 0) i)) (fun o => o = some (nI (wr q m), mk g)) rfl (fu_l (by omega)) ?_ ?_
  · intro n k s hk hs
    subst hs
    have hb := nI_bit hm' (show k < 32 by omega)
    refine Or.inr ⟨_, ?_, rfl⟩
    rw [fb_sm_succ]
    cases e : m.testBit k <;> rw [e] at hb
    · simp -dsimp -implicitDefEqProofs (disch := omega) only [bnd_u, gd_t, if_true, if_false, ↓reduceIte, eq_self, true_or, or_true, false_or, or_false, not_true_eq_false, not_false_eq_true, and_true, true_and, and_false, false_and, reduceCtorEq, nI_ge, nI_le, nI_lt, nI_nlt, nI_ne, nI_te, nm_eq, mn_eq, nm_le, mn_le, nm_lt, mn_lt, pk_mul, nI_add, pk_sub, nI_clamp, eX9_worthOf_4, eX9_worthOf_42, hMo, hM.a, hb, Bool.toNat_false, Bool.false_eq_true]
    · simp -dsimp -implicitDefEqProofs (disch := omega) only [bnd_u, gd_t, if_true, if_false, ↓reduceIte, eq_self, true_or, or_true, false_or, or_false, not_true_eq_false, not_false_eq_true, and_true, true_and, and_false, false_and, reduceCtorEq, nI_ge, nI_le, nI_lt, nI_nlt, nI_ne, nI_te, nm_eq, mn_eq, nm_le, mn_le, nm_lt, mn_lt, pk_mul, nI_add, pk_sub, nI_clamp, eX9_worthOf_4, eX9_worthOf_42, hMo, hM.a, hb, Bool.toNat_true]
  · intro n s hs
    simp -dsimp -implicitDefEqProofs (disch := omega) only [bnd_u, gd_t, if_true, if_false, ↓reduceIte, eq_self, true_or, or_true, false_or, or_false, not_true_eq_false, not_false_eq_true, and_true, true_and, and_false, false_and, reduceCtorEq, nI_ge, nI_le, nI_lt, nI_nlt, nI_ne, nI_te, nm_eq, mn_eq, nm_le, mn_le, nm_lt, mn_lt, pk_mul, nI_add, pk_sub, nI_clamp, eX9_worthOf_4, hMo, hM.a, hs, wr]
theorem wr_dn (q : Nat → Nat) : wr q (msk (dn q) (q 56)) = wn q := by
  unfold wr wn
  apply fb_sm_cong
  intro i hi
  rw [msk_bit]
  simp [hi]
theorem m_now {g : Gg} {q : Nat → Nat} {K : Nat} (hM : Ms g q K) (hG : Gd q K) : FX9_worthNow 78 (mk g) = some (nI (wn q), mk g) := by
  have hwn := hG.wn
  have h1 := m_doneBy hM hG (msk_31 (dsee q) (show 10 ≤ 30 by omega))
  have h2 := m_worth hM hG (msk_31 (fun i => dnm q i (msk (dsee q) 10)) (show q 56 ≤ 30 by omega))
  have h3 : wr q (msk (fun i => dnm q i (msk (dsee q) 10)) (q 56)) = wn q := wr_dn q
  rw [h3] at h2
  simp -dsimp -implicitDefEqProofs (disch := omega) only [bnd_u, gd_t, if_true, if_false, ↓reduceIte, eq_self, true_or, or_true, false_or, or_false, not_true_eq_false, not_false_eq_true, and_true, true_and, and_false, false_and, reduceCtorEq, nI_ge, nI_le, nI_lt, nI_nlt, nI_ne, nI_te, nm_eq, mn_eq, nm_le, mn_le, nm_lt, mn_lt, pk_mul, nI_add, pk_sub, nI_clamp, eX9_worthNow, hMo, m_seeing hM hG, h1, h2]
