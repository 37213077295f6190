/-! who sees -/
def eyes (kd h : Nat) : Bool := if kd = 1 then decide (h < 6) else (decide (kd ≠ 3) || decide (5 < h))
def near (k a : Nat) : Bool := decide (a = 0) || decide (a = k + 1) || decide (a = k + 2) || decide (a = k)
def wsee (q : Nat → Nat) (k h a : Nat) : Bool := (decide (h = 0) || near k a) && eyes (q k) h
def dsee (q : Nat → Nat) (h : Nat) : Bool := decide (0 < q (26 + h)) && wsee q (q (26 + h) - 1) h (q (25 + h))
def sv (q : Nat → Nat) (h : Nat) : Int32 := if dsee q h then nI (q (26 + h) - 1) else mi 4
theorem nb_abs : ∀ k : Fin 5, ∀ j : Fin 5, decide (nI 1 < o_abs (nI k.val - nI j.val)) = !(near k.val (j.val + 1)) := by decide +kernel
theorem s_eyes {M : Hx} {kd h : Nat} (hk : kd ≤ 3) (hh : h < 10) : FX7_hasEyes (nI kd) (nI h) M = some (nI (eyes kd h).toNat, M) := by
  by_cases h1 : kd = 1
  · by_cases h2 : h < 6
    · have e : eyes kd h = true := by simp [eyes, h1, h2]
      simp -dsimp -implicitDefEqProofs (disch := omega) only [bnd_u, gd_t, if_true, if_false, ↓reduceIte, eq_self, true_or, or_true, false_or, or_false, not_true_eq_false, not_false_eq_true, and_true, true_and, and_false, false_and, reduceCtorEq, nI_ge, nI_le, nI_lt, nI_nlt, nI_ne, nI_te, nm_eq, mn_eq, nm_le, mn_le, nm_lt, mn_lt, pk_mul, nI_add, pk_sub, nI_clamp, eX7_hasEyes, eX7_hasEyes_16, e, Bool.toNat_true]
    · have e : eyes kd h = false := by simp [eyes, h1, h2]
      simp -dsimp -implicitDefEqProofs (disch := omega) only [bnd_u, gd_t, if_true, if_false, ↓reduceIte, eq_self, true_or, or_true, false_or, or_false, not_true_eq_false, not_false_eq_true, and_true, true_and, and_false, false_and, reduceCtorEq, nI_ge, nI_le, nI_lt, nI_nlt, nI_ne, nI_te, nm_eq, mn_eq, nm_le, mn_le, nm_lt, mn_lt, pk_mul, nI_add, pk_sub, nI_clamp, eX7_hasEyes, eX7_hasEyes_16, e, Bool.toNat_false]
  · by_cases h3 : kd = 3
    · by_cases h2 : h < 6
      · have e : eyes kd h = false := by simp [eyes, h3]; omega
        simp -dsimp -implicitDefEqProofs (disch := omega) only [bnd_u, gd_t, if_true, if_false, ↓reduceIte, eq_self, true_or, or_true, false_or, or_false, not_true_eq_false, not_false_eq_true, and_true, true_and, and_false, false_and, reduceCtorEq, nI_ge, nI_le, nI_lt, nI_nlt, nI_ne, nI_te, nm_eq, mn_eq, nm_le, mn_le, nm_lt, mn_lt, pk_mul, nI_add, pk_sub, nI_clamp, eX7_hasEyes, eX7_hasEyes_33, eX7_hasEyes_28, e, Bool.toNat_false]
      · have e : eyes kd h = true := by simp [eyes, h3]; omega
        simp -dsimp -implicitDefEqProofs (disch := omega) only [bnd_u, gd_t, if_true, if_false, ↓reduceIte, eq_self, true_or, or_true, false_or, or_false, not_true_eq_false, not_false_eq_true, and_true, true_and, and_false, false_and, reduceCtorEq, nI_ge, nI_le, nI_lt, nI_nlt, nI_ne, nI_te, nm_eq, mn_eq, nm_le, mn_le, nm_lt, mn_lt, pk_mul, nI_add, pk_sub, nI_clamp, eX7_hasEyes, eX7_hasEyes_33, eX7_hasEyes_28, e, Bool.toNat_true]
    · have e : eyes kd h = true := by simp [eyes, h1, h3]
      simp -dsimp -implicitDefEqProofs (disch := omega) only [bnd_u, gd_t, if_true, if_false, ↓reduceIte, eq_self, true_or, or_true, false_or, or_false, not_true_eq_false, not_false_eq_true, and_true, true_and, and_false, false_and, reduceCtorEq, nI_ge, nI_le, nI_lt, nI_nlt, nI_ne, nI_te, nm_eq, mn_eq, nm_le, mn_le, nm_lt, mn_lt, pk_mul, nI_add, pk_sub, nI_clamp, eX7_hasEyes, eX7_hasEyes_33, eX7_hasEyes_28, e, Bool.toNat_true]
theorem s_near {M : Hx} {k a : Nat} (hk : k < 5) (ha : a ≤ 5) : FX7_isNear (nI k) (ho a) M = some (nI (near k a).toNat, M) := by
  by_cases h : a = 0
  · have e : near k a = true := by simp [near, h]
    simp -dsimp -implicitDefEqProofs (disch := omega) only [bnd_u, gd_t, if_true, if_false, ↓reduceIte, eq_self, true_or, or_true, false_or, or_false, not_true_eq_false, not_false_eq_true, and_true, true_and, and_false, false_and, reduceCtorEq, nI_ge, nI_le, nI_lt, nI_nlt, nI_ne, nI_te, nm_eq, mn_eq, nm_le, mn_le, nm_lt, mn_lt, pk_mul, nI_add, pk_sub, nI_clamp, eX7_isNear, eX7_isNear_16, eX7_isNear_21, e, ho_0 h, Bool.toNat_true]
  · obtain ⟨j, rfl⟩ : ∃ j, a = j + 1 := ⟨a - 1, by omega⟩
    have hb := nb_abs ⟨k, hk⟩ ⟨j, by omega⟩
    dsimp only at hb
    cases e : near k (j + 1)
    · have h2 : nI 1 < o_abs (nI k - nI j) := by rw [e] at hb; simpa using hb
      simp -dsimp -implicitDefEqProofs (disch := omega) only [bnd_u, gd_t, if_true, if_false, ↓reduceIte, eq_self, true_or, or_true, false_or, or_false, not_true_eq_false, not_false_eq_true, and_true, true_and, and_false, false_and, reduceCtorEq, nI_ge, nI_le, nI_lt, nI_nlt, nI_ne, nI_te, nm_eq, mn_eq, nm_le, mn_le, nm_lt, mn_lt, pk_mul, nI_add, pk_sub, nI_clamp, eX7_isNear, eX7_isNear_16, eX7_isNear_21, ho_s (show 0 < j + 1 by omega), Nat.add_sub_cancel, Bool.toNat_false, h2]
    · have h2 : ¬ nI 1 < o_abs (nI k - nI j) := by rw [e] at hb; simpa using hb
      simp -dsimp -implicitDefEqProofs (disch := omega) only [bnd_u, gd_t, if_true, if_false, ↓reduceIte, eq_self, true_or, or_true, false_or, or_false, not_true_eq_false, not_false_eq_true, and_true, true_and, and_false, false_and, reduceCtorEq, nI_ge, nI_le, nI_lt, nI_nlt, nI_ne, nI_te, nm_eq, mn_eq, nm_le, mn_le, nm_lt, mn_lt, pk_mul, nI_add, pk_sub, nI_clamp, eX7_isNear, eX7_isNear_16, eX7_isNear_21, ho_s (show 0 < j + 1 by omega), Nat.add_sub_cancel, Bool.toNat_true, h2]
theorem f_one {g : Gg} {q : Nat → Nat} {K k : Nat} (hF : F1 g q K) (hG : Gd q K) (hk : k < K) : FX1_isOne 1 (nI k) (mk g) = some (nI 1, mk g) := by
  simp -dsimp -implicitDefEqProofs (disch := omega) only [bnd_u, gd_t, if_true, if_false, ↓reduceIte, eq_self, true_or, or_true, false_or, or_false, not_true_eq_false, not_false_eq_true, and_true, true_and, and_false, false_and, reduceCtorEq, nI_ge, nI_le, nI_lt, nI_nlt, nI_ne, nI_te, nm_eq, mn_eq, nm_le, mn_le, nm_lt, mn_lt, pk_mul, nI_add, pk_sub, nI_clamp, eX1_isOne, hFam, R_has rw2 hF.1 hG.K hk]
theorem f_oneN {g : Gg} {q : Nat → Nat} {K : Nat} {x : Int32} (hF : F1 g q K) (hx : x < nI 0 ∨ (¬ x < nI 0 ∧ nI K ≤ x)) : FX1_isOne 1 x (mk g) = some (nI 0, mk g) := by
  simp -dsimp -implicitDefEqProofs (disch := omega) only [bnd_u, gd_t, if_true, if_false, ↓reduceIte, eq_self, true_or, or_true, false_or, or_false, not_true_eq_false, not_false_eq_true, and_true, true_and, and_false, false_and, reduceCtorEq, nI_ge, nI_le, nI_lt, nI_nlt, nI_ne, nI_te, nm_eq, mn_eq, nm_le, mn_le, nm_lt, mn_lt, pk_mul, nI_add, pk_sub, nI_clamp, eX1_isOne, hFam, R_hasN rw2 hF.1 hx]
theorem f_kind {g : Gg} {q : Nat → Nat} {K k : Nat} (hF : F1 g q K) (hG : Gd q K) (hk : k < K) : FX1_kindOf 1 (nI k) (mk g) = some (nI (q k), mk g) := by
  simp -dsimp -implicitDefEqProofs (disch := omega) only [bnd_u, gd_t, if_true, if_false, ↓reduceIte, eq_self, true_or, or_true, false_or, or_false, not_true_eq_false, not_false_eq_true, and_true, true_and, and_false, false_and, reduceCtorEq, nI_ge, nI_le, nI_lt, nI_nlt, nI_ne, nI_te, nm_eq, mn_eq, nm_le, mn_le, nm_lt, mn_lt, pk_mul, nI_add, pk_sub, nI_clamp, eX1_kindOf, hFam, R_at rw2 hF.1 hG.K hk (show 0 < 2 by omega), hF.2.1 k hk]
theorem f_kindN {g : Gg} {q : Nat → Nat} {K : Nat} {x : Int32} (hF : F1 g q K) (hx : x < nI 0 ∨ (¬ x < nI 0 ∧ nI K ≤ x)) : FX1_kindOf 1 x (mk g) = some (mi 1, mk g) := by
  simp -dsimp -implicitDefEqProofs (disch := omega) only [bnd_u, gd_t, if_true, if_false, ↓reduceIte, eq_self, true_or, or_true, false_or, or_false, not_true_eq_false, not_false_eq_true, and_true, true_and, and_false, false_and, reduceCtorEq, nI_ge, nI_le, nI_lt, nI_nlt, nI_ne, nI_te, nm_eq, mn_eq, nm_le, mn_le, nm_lt, mn_lt, pk_mul, nI_add, pk_sub, nI_clamp, eX1_kindOf, hFam, R_atN rw2 hF.1 hx]
theorem f_post {g : Gg} {q : Nat → Nat} {K k : Nat} (hF : F1 g q K) (hG : Gd q K) (hk : k < K) : FX1_postOf 1 (nI k) (mk g) = some (nI (q (5 + k)), mk g) := by
  simp -dsimp -implicitDefEqProofs (disch := omega) only [bnd_u, gd_t, if_true, if_false, ↓reduceIte, eq_self, true_or, or_true, false_or, or_false, not_true_eq_false, not_false_eq_true, and_true, true_and, and_false, false_and, reduceCtorEq, nI_ge, nI_le, nI_lt, nI_nlt, nI_ne, nI_te, nm_eq, mn_eq, nm_le, mn_le, nm_lt, mn_lt, pk_mul, nI_add, pk_sub, nI_clamp, eX1_postOf, hFam, R_at rw2 hF.1 hG.K hk (show 1 < 2 by omega), hF.2.2.1 k hk]
/-- a row of ten that is a rota of the class: where it lies -/
def Rc (c : Nat) : Prop := tmpl[c]? = some (tA 0 10)
theorem s_seer {g : Gg} {q : Nat → Nat} {K c h : Nat} (hc : Rc c) (hF : F1 g q K) (hG : Gd q K) (hR : Ro (g c) q) (hh : h < 10) : FX7_seerIn 1 c (nI h) (mk g) = some (sv q h, mk g) := by
  have hA : ∀ i, i < 10 → h_A (mk g) 0 c (nI i) = some (ho (q (26 + i))) := fun i hi => by rw [t_A hc (by decide) i hi, hR i hi]
  have hL : h_L (mk g) c = some (nI 10) := t_L hc
  have hK := hG.K
  have hr := hG.r hh
  by_cases h0 : q (26 + h) = 0
  · have e : sv q h = mi 4 := by simp [sv, dsee, h0]
    have hx : mi 4 < nI 0 := by decide
    simp -dsimp -implicitDefEqProofs (disch := omega) only [bnd_u, gd_t, if_true, if_false, ↓reduceIte, eq_self, true_or, or_true, false_or, or_false, not_true_eq_false, not_false_eq_true, and_true, true_and, and_false, false_and, reduceCtorEq, nI_ge, nI_le, nI_lt, nI_nlt, nI_ne, nI_te, nm_eq, mn_eq, nm_le, mn_le, nm_lt, mn_lt, pk_mul, nI_add, pk_sub, nI_clamp, eX7_seerIn, eX7_seerIn_20, hL, hA, hFam, ho_0 h0, f_oneN hF (Or.inl hx), e]
  · have hk : q (26 + h) - 1 < K := by omega
    have hp : 0 < q (26 + h) := by omega
    have e41 : ∀ a, a ≤ 5 → FX7_seerIn_41 1 (nI h) (nI (q (26 + h) - 1)) (ho a) (mk g) = some (if (near (q (26 + h) - 1) a && eyes (q (q (26 + h) - 1)) h) then nI (q (26 + h) - 1) else mi 4, mk g) := by
      intro a ha
      have h1 := s_eyes (M := mk g) (hG.k hk).1 hh
      have h2 := s_near (M := mk g) (show q (26 + h) - 1 < 5 by omega) ha
      cases e1 : eyes (q (q (26 + h) - 1)) h <;> cases e2 : near (q (26 + h) - 1) a <;> rw [e1] at h1 <;> rw [e2] at h2
      · simp -dsimp -implicitDefEqProofs (disch := omega) only [bnd_u, gd_t, if_true, if_false, ↓reduceIte, eq_self, true_or, or_true, false_or, or_false, not_true_eq_false, not_false_eq_true, and_true, true_and, and_false, false_and, reduceCtorEq, nI_ge, nI_le, nI_lt, nI_nlt, nI_ne, nI_te, nm_eq, mn_eq, nm_le, mn_le, nm_lt, mn_lt, pk_mul, nI_add, pk_sub, nI_clamp, eX7_seerIn_41, eX7_seerIn_68, eX7_seerIn_70, hFam, f_kind hF hG hk, h1, h2, Bool.toNat_true, Bool.toNat_false, Bool.and_false, Bool.and_true, Bool.false_eq_true]
      · simp -dsimp -implicitDefEqProofs (disch := omega) only [bnd_u, gd_t, if_true, if_false, ↓reduceIte, eq_self, true_or, or_true, false_or, or_false, not_true_eq_false, not_false_eq_true, and_true, true_and, and_false, false_and, reduceCtorEq, nI_ge, nI_le, nI_lt, nI_nlt, nI_ne, nI_te, nm_eq, mn_eq, nm_le, mn_le, nm_lt, mn_lt, pk_mul, nI_add, pk_sub, nI_clamp, eX7_seerIn_41, eX7_seerIn_68, eX7_seerIn_70, hFam, f_kind hF hG hk, h1, h2, Bool.toNat_true, Bool.toNat_false, Bool.and_false, Bool.and_true, Bool.false_eq_true]
      · simp -dsimp -implicitDefEqProofs (disch := omega) only [bnd_u, gd_t, if_true, if_false, ↓reduceIte, eq_self, true_or, or_true, false_or, or_false, not_true_eq_false, not_false_eq_true, and_true, true_and, and_false, false_and, reduceCtorEq, nI_ge, nI_le, nI_lt, nI_nlt, nI_ne, nI_te, nm_eq, mn_eq, nm_le, mn_le, nm_lt, mn_lt, pk_mul, nI_add, pk_sub, nI_clamp, eX7_seerIn_41, eX7_seerIn_68, eX7_seerIn_70, hFam, f_kind hF hG hk, h1, h2, Bool.toNat_true, Bool.toNat_false, Bool.and_false, Bool.and_true, Bool.false_eq_true]
      · simp -dsimp -implicitDefEqProofs (disch := omega) only [bnd_u, gd_t, if_true, if_false, ↓reduceIte, eq_self, true_or, or_true, false_or, or_false, not_true_eq_false, not_false_eq_true, and_true, true_and, and_false, false_and, reduceCtorEq, nI_ge, nI_le, nI_lt, nI_nlt, nI_ne, nI_te, nm_eq, mn_eq, nm_le, mn_le, nm_lt, mn_lt, pk_mul, nI_add, pk_sub, nI_clamp, eX7_seerIn_41, eX7_seerIn_68, eX7_seerIn_70, hFam, f_kind hF hG hk, h1, h2, Bool.toNat_true, Bool.toNat_false, Bool.and_false, Bool.and_true, Bool.false_eq_true]
    by_cases hz : h = 0
    · have e := e41 0 (by omega)
      subst hz
      have e2 : sv q 0 = if (near (q (26 + 0) - 1) 0 && eyes (q (q (26 + 0) - 1)) 0) then nI (q (26 + 0) - 1) else mi 4 := by
        unfold sv dsee wsee
        rw [decide_eq_true hp]
        simp [near]
      rw [ho_0 rfl, ← e2] at e
      simp -dsimp -implicitDefEqProofs (disch := omega) only [bnd_u, gd_t, if_true, if_false, ↓reduceIte, eq_self, true_or, or_true, false_or, or_false, not_true_eq_false, not_false_eq_true, and_true, true_and, and_false, false_and, reduceCtorEq, nI_ge, nI_le, nI_lt, nI_nlt, nI_ne, nI_te, nm_eq, mn_eq, nm_le, mn_le, nm_lt, mn_lt, pk_mul, nI_add, pk_sub, nI_clamp, eX7_seerIn, hL, hA, hFam, ho_s hp, f_one hF hG hk, e]
    · have hr2 := hG.r (show h - 1 < 10 by omega)
      have e := e41 (q (26 + (h - 1))) (by omega)
      have e3 : 26 + (h - 1) = 25 + h := by omega
      have e2 : sv q h = if (near (q (26 + h) - 1) (q (26 + (h - 1))) && eyes (q (q (26 + h) - 1)) h) then nI (q (26 + h) - 1) else mi 4 := by simp [sv, dsee, wsee, hp, hz, e3]
      rw [← e2] at e
      simp -dsimp -implicitDefEqProofs (disch := omega) only [bnd_u, gd_t, if_true, if_false, ↓reduceIte, eq_self, true_or, or_true, false_or, or_false, not_true_eq_false, not_false_eq_true, and_true, true_and, and_false, false_and, reduceCtorEq, nI_ge, nI_le, nI_lt, nI_nlt, nI_ne, nI_te, nm_eq, mn_eq, nm_le, mn_le, nm_lt, mn_lt, pk_mul, nI_add, pk_sub, nI_clamp, eX7_seerIn, hL, hA, hFam, ho_s hp, f_one hF hG hk, nI_s1, e]
