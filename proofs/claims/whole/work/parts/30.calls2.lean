/-! more calls that only look -/
def held (q : Nat → Nat) : Nat → Bool := fun h => decide (0 < q (26 + h))
def heldBy (q : Nat → Nat) (k : Nat) : Nat → Bool := fun h => decide (q (26 + h) = k + 1)
theorem ho_ne4 {r : Nat} (h : 0 < r) (h2 : r ≤ 10) : (ho r = mi 4) = False := by
  rw [ho_s h]; exact nm_eq (by omega) (by omega) (by omega)
theorem ho_eqk {r k : Nat} (h2 : r ≤ 10) (hk : k < 1000) : (ho r = nI k) = (r = k + 1) := by
  apply propext
  by_cases z : r = 0
  · rw [ho_0 z, mn_eq (by omega) (by omega) (by omega)]
    exact ⟨fun h => h.elim, fun h => by omega⟩
  · rw [ho_s (by omega), nI_eq (by omega) (by omega)]; omega
theorem hm_eqk {r k : Nat} (h2 : r ≤ 10) (hk : k < 1000) : (hm r = nI k) = (r = k + 1) := by
  apply propext
  by_cases z : r = 0
  · rw [hm_0 z, mn_eq (by omega) (by omega) (by omega)]
    exact ⟨fun h => h.elim, fun h => by omega⟩
  · rw [hm_s (by omega), nI_eq (by omega) (by omega)]; omega
theorem f_held {g : Gg} {q : Nat → Nat} {K : Nat} (hG : Gd q K) (hR : Ro (g 11) q) : FX1_hoursHeld 1 (mk g) = some (nI (msk (held q) 10), mk g) := by
  rw [eX1_hoursHeld]
  refine lp_0 (σ := Unit) (fun n h _ => FX1_hoursHeld_4 n 1 (nI (msk (held q) h)) (nI h) (mk g)) 10 (fun _ _ => True) (fun o => o = some (nI (msk (held q) 10), mk g)) (s := ()) trivial (by decide) ?_ ?_
  · intro n h _ hh _
    refine Or.inr ⟨(), ?_, trivial⟩
    have hq := hG.q (26 + h)
    by_cases z : q (26 + h) = 0
    · have e : held q h = false := by simp [held, z]
      simp -dsimp -implicitDefEqProofs (disch := omega) only [bnd_u, gd_t, if_true, if_false, ↓reduceIte, eq_self, true_or, or_true, false_or, or_false, not_true_eq_false, not_false_eq_true, and_true, true_and, and_false, false_and, reduceCtorEq, nI_ge, nI_le, nI_lt, nI_nlt, nI_ne, nI_te, nm_eq, mn_eq, nm_le, mn_le, nm_lt, mn_lt, pk_mul, nI_add, pk_sub, nI_clamp, eX1_hoursHeld_4, eX1_hoursHeld_29, hFam, hR h hh, ho_0 z, msk_f e]
    · have e : held q h = true := by simp [held]; omega
      simp -dsimp -implicitDefEqProofs (disch := omega) only [bnd_u, gd_t, if_true, if_false, ↓reduceIte, eq_self, true_or, or_true, false_or, or_false, not_true_eq_false, not_false_eq_true, and_true, true_and, and_false, false_and, reduceCtorEq, nI_ge, nI_le, nI_lt, nI_nlt, nI_ne, nI_te, nm_eq, mn_eq, nm_le, mn_le, nm_lt, mn_lt, pk_mul, nI_add, pk_sub, nI_clamp, eX1_hoursHeld_4, eX1_hoursHeld_29, hFam, hR h hh, ho_ne4 (show 0 < q (26 + h) by omega) hq, msk_t (show h < 31 by omega) e]
  · intro n _ _
    simp -dsimp -implicitDefEqProofs (disch := omega) only [bnd_u, gd_t, if_true, if_false, ↓reduceIte, eq_self, true_or, or_true, false_or, or_false, not_true_eq_false, not_false_eq_true, and_true, true_and, and_false, false_and, reduceCtorEq, nI_ge, nI_le, nI_lt, nI_nlt, nI_ne, nI_te, nm_eq, mn_eq, nm_le, mn_le, nm_lt, mn_lt, pk_mul, nI_add, pk_sub, nI_clamp, eX1_hoursHeld_4]
theorem f_heldBy {g : Gg} {q : Nat → Nat} {K k : Nat} (hG : Gd q K) (hR : Ro (g 11) q) (hk : k < 5) : FX1_hoursHeldBy 1 (nI k) (mk g) = some (nI (msk (heldBy q k) 10), mk g) := by
  rw [eX1_hoursHeldBy]
  refine lp_0 (σ := Unit) (fun n h _ => FX1_hoursHeldBy_4 n 1 (nI k) (nI (msk (heldBy q k) h)) (nI h) (mk g)) 10 (fun _ _ => True) (fun o => o = some (nI (msk (heldBy q k) 10), mk g)) (s := ()) trivial (by decide) ?_ ?_
  · intro n h _ hh _
    refine Or.inr ⟨(), ?_, trivial⟩
    have hq := hG.q (26 + h)
    have he := ho_eqk hq (show k < 1000 by omega)
    by_cases z : q (26 + h) = k + 1
    · have e : heldBy q k h = true := by simp [heldBy, z]
      have he := he.trans (eq_true z)
      simp -dsimp -implicitDefEqProofs (disch := omega) only [bnd_u, gd_t, if_true, if_false, ↓reduceIte, eq_self, true_or, or_true, false_or, or_false, not_true_eq_false, not_false_eq_true, and_true, true_and, and_false, false_and, reduceCtorEq, nI_ge, nI_le, nI_lt, nI_nlt, nI_ne, nI_te, nm_eq, mn_eq, nm_le, mn_le, nm_lt, mn_lt, pk_mul, nI_add, pk_sub, nI_clamp, eX1_hoursHeldBy_4, eX1_hoursHeldBy_28, hFam, hR h hh, he, msk_t (show h < 31 by omega) e]
    · have e : heldBy q k h = false := by simp [heldBy, z]
      have he := he.trans (eq_false z)
      simp -dsimp -implicitDefEqProofs (disch := omega) only [bnd_u, gd_t, if_true, if_false, ↓reduceIte, eq_self, true_or, or_true, false_or, or_false, not_true_eq_false, not_false_eq_true, and_true, true_and, and_false, false_and, reduceCtorEq, nI_ge, nI_le, nI_lt, nI_nlt, nI_ne, nI_te, nm_eq, mn_eq, nm_le, mn_le, nm_lt, mn_lt, pk_mul, nI_add, pk_sub, nI_clamp, eX1_hoursHeldBy_4, eX1_hoursHeldBy_28, hFam, hR h hh, he, msk_f e]
  · intro n _ _
    simp -dsimp -implicitDefEqProofs (disch := omega) only [bnd_u, gd_t, if_true, if_false, ↓reduceIte, eq_self, true_or, or_true, false_or, or_false, not_true_eq_false, not_false_eq_true, and_true, true_and, and_false, false_and, reduceCtorEq, nI_ge, nI_le, nI_lt, nI_nlt, nI_ne, nI_te, nm_eq, mn_eq, nm_le, mn_le, nm_lt, mn_lt, pk_mul, nI_add, pk_sub, nI_clamp, eX1_hoursHeldBy_4]
theorem m_held {g : Gg} {q : Nat → Nat} {K : Nat} (hM : Ms g q K) (hG : Gd q K) : FX9_hoursOf 78 (mi 4) (nI 0) (mk g) = some (nI (msk (held q) 10), mk g) := by
  rw [eX9_hoursOf]
  refine lp_0 (σ := Unit) (fun n h _ => FX9_hoursOf_5 n 78 (mi 4) (nI 0) (nI (msk (held q) h)) (nI h) (mk g)) 10 (fun _ _ => True) (fun o => o = some (nI (msk (held q) 10), mk g)) (s := ()) trivial (by decide) ?_ ?_
  · intro n h _ hh _
    refine Or.inr ⟨(), ?_, trivial⟩
    have hq := hG.q (26 + h)
    have h1 := m_has hM hh
    by_cases z : q (26 + h) = 0
    · have e : held q h = false := by simp [held, z]
      rw [hm_0 z] at h1
      simp -dsimp -implicitDefEqProofs (disch := omega) only [bnd_u, gd_t, if_true, if_false, ↓reduceIte, eq_self, true_or, or_true, false_or, or_false, not_true_eq_false, not_false_eq_true, and_true, true_and, and_false, false_and, reduceCtorEq, nI_ge, nI_le, nI_lt, nI_nlt, nI_ne, nI_te, nm_eq, mn_eq, nm_le, mn_le, nm_lt, mn_lt, pk_mul, nI_add, pk_sub, nI_clamp, eX9_hoursOf_5, eX9_hoursOf_58, eX9_hoursOf_59, hMo, h1, msk_f e]
    · have e : held q h = true := by simp [held]; omega
      rw [hm_s (by omega)] at h1
      simp -dsimp -implicitDefEqProofs (disch := omega) only [bnd_u, gd_t, if_true, if_false, ↓reduceIte, eq_self, true_or, or_true, false_or, or_false, not_true_eq_false, not_false_eq_true, and_true, true_and, and_false, false_and, reduceCtorEq, nI_ge, nI_le, nI_lt, nI_nlt, nI_ne, nI_te, nm_eq, mn_eq, nm_le, mn_le, nm_lt, mn_lt, pk_mul, nI_add, pk_sub, nI_clamp, eX9_hoursOf_5, eX9_hoursOf_38, eX9_hoursOf_51, eX9_hoursOf_59, hMo, h1, msk_t (show h < 31 by omega) e]
  · intro n _ _
    simp -dsimp -implicitDefEqProofs (disch := omega) only [bnd_u, gd_t, if_true, if_false, ↓reduceIte, eq_self, true_or, or_true, false_or, or_false, not_true_eq_false, not_false_eq_true, and_true, true_and, and_false, false_and, reduceCtorEq, nI_ge, nI_le, nI_lt, nI_nlt, nI_ne, nI_te, nm_eq, mn_eq, nm_le, mn_le, nm_lt, mn_lt, pk_mul, nI_add, pk_sub, nI_clamp, eX9_hoursOf_5]
theorem m_heldBy {g : Gg} {q : Nat → Nat} {K k : Nat} (hM : Ms g q K) (hG : Gd q K) (hk : k < 5) : FX9_hoursOf 78 (nI k) (nI 0) (mk g) = some (nI (msk (heldBy q k) 10), mk g) := by
  rw [eX9_hoursOf]
  refine lp_0 (σ := Unit) (fun n h _ => FX9_hoursOf_5 n 78 (nI k) (nI 0) (nI (msk (heldBy q k) h)) (nI h) (mk g)) 10 (fun _ _ => True) (fun o => o = some (nI (msk (heldBy q k) 10), mk g)) (s := ()) trivial (by decide) ?_ ?_
  · intro n h _ hh _
    refine Or.inr ⟨(), ?_, trivial⟩
    have hq := hG.q (26 + h)
    have h1 := m_has hM hh
    by_cases z0 : q (26 + h) = 0
    · have e : heldBy q k h = false := by simp [heldBy, z0]
      rw [hm_0 z0] at h1
      simp -dsimp -implicitDefEqProofs (disch := omega) only [bnd_u, gd_t, if_true, if_false, ↓reduceIte, eq_self, true_or, or_true, false_or, or_false, not_true_eq_false, not_false_eq_true, and_true, true_and, and_false, false_and, reduceCtorEq, nI_ge, nI_le, nI_lt, nI_nlt, nI_ne, nI_te, nm_eq, mn_eq, nm_le, mn_le, nm_lt, mn_lt, pk_mul, nI_add, pk_sub, nI_clamp, eX9_hoursOf_5, eX9_hoursOf_58, eX9_hoursOf_59, hMo, h1, msk_f e]
    · rw [hm_s (by omega)] at h1
      by_cases z : q (26 + h) = k + 1
      · have e : heldBy q k h = true := by simp [heldBy, z]
        simp -dsimp -implicitDefEqProofs (disch := omega) only [bnd_u, gd_t, if_true, if_false, ↓reduceIte, eq_self, true_or, or_true, false_or, or_false, not_true_eq_false, not_false_eq_true, and_true, true_and, and_false, false_and, reduceCtorEq, nI_ge, nI_le, nI_lt, nI_nlt, nI_ne, nI_te, nm_eq, mn_eq, nm_le, mn_le, nm_lt, mn_lt, pk_mul, nI_add, pk_sub, nI_clamp, eX9_hoursOf_5, eX9_hoursOf_38, eX9_hoursOf_51, eX9_hoursOf_59, hMo, h1, msk_t (show h < 31 by omega) e]
      · have e : heldBy q k h = false := by simp [heldBy, z]
        simp -dsimp -implicitDefEqProofs (disch := omega) only [bnd_u, gd_t, if_true, if_false, ↓reduceIte, eq_self, true_or, or_true, false_or, or_false, not_true_eq_false, not_false_eq_true, and_true, true_and, and_false, false_and, reduceCtorEq, nI_ge, nI_le, nI_lt, nI_nlt, nI_ne, nI_te, nm_eq, mn_eq, nm_le, mn_le, nm_lt, mn_lt, pk_mul, nI_add, pk_sub, nI_clamp, eX9_hoursOf_5, eX9_hoursOf_58, eX9_hoursOf_59, hMo, h1, msk_f e]
  · intro n _ _
    simp -dsimp -implicitDefEqProofs (disch := omega) only [bnd_u, gd_t, if_true, if_false, ↓reduceIte, eq_self, true_or, or_true, false_or, or_false, not_true_eq_false, not_false_eq_true, and_true, true_and, and_false, false_and, reduceCtorEq, nI_ge, nI_le, nI_lt, nI_nlt, nI_ne, nI_te, nm_eq, mn_eq, nm_le, mn_le, nm_lt, mn_lt, pk_mul, nI_add, pk_sub, nI_clamp, eX9_hoursOf_5]
theorem m_seesBy {g : Gg} {q : Nat → Nat} {K k : Nat} (hM : Ms g q K) (hG : Gd q K) (hk : k < 5) : FX9_hoursOf 78 (nI k) (nI 1) (mk g) = some (nI (msk (hks q k) 10), mk g) := by
  rw [eX9_hoursOf]
  refine lp_0 (σ := Unit) (fun n h _ => FX9_hoursOf_5 n 78 (nI k) (nI 1) (nI (msk (hks q k) h)) (nI h) (mk g)) 10 (fun _ _ => True) (fun o => o = some (nI (msk (hks q k) 10), mk g)) (s := ()) trivial (by decide) ?_ ?_
  · intro n h _ hh _
    refine Or.inr ⟨(), ?_, trivial⟩
    have hq := hG.q (26 + h)
    have h1 := m_has hM hh
    have hd := m_does hM hG hh
    by_cases z0 : q (26 + h) = 0
    · have e : hks q k h = false := by simp [hks, z0]
      rw [hm_0 z0] at h1
      simp -dsimp -implicitDefEqProofs (disch := omega) only [bnd_u, gd_t, if_true, if_false, ↓reduceIte, eq_self, true_or, or_true, false_or, or_false, not_true_eq_false, not_false_eq_true, and_true, true_and, and_false, false_and, reduceCtorEq, nI_ge, nI_le, nI_lt, nI_nlt, nI_ne, nI_te, nm_eq, mn_eq, nm_le, mn_le, nm_lt, mn_lt, pk_mul, nI_add, pk_sub, nI_clamp, eX9_hoursOf_5, eX9_hoursOf_58, eX9_hoursOf_59, hMo, h1, msk_f e]
    · rw [hm_s (by omega)] at h1
      by_cases z : q (26 + h) = k + 1
      · cases ed : dsee q h <;> rw [ed] at hd
        · have e : hks q k h = false := by simp [hks, ed]
          simp -dsimp -implicitDefEqProofs (disch := omega) only [bnd_u, gd_t, if_true, if_false, ↓reduceIte, eq_self, true_or, or_true, false_or, or_false, not_true_eq_false, not_false_eq_true, and_true, true_and, and_false, false_and, reduceCtorEq, nI_ge, nI_le, nI_lt, nI_nlt, nI_ne, nI_te, nm_eq, mn_eq, nm_le, mn_le, nm_lt, mn_lt, pk_mul, nI_add, pk_sub, nI_clamp, eX9_hoursOf_5, eX9_hoursOf_38, eX9_hoursOf_58, eX9_hoursOf_59, hMo, h1, hd, Bool.toNat_false, msk_f e]
        · have e : hks q k h = true := by simp [hks, ed, z]
          simp -dsimp -implicitDefEqProofs (disch := omega) only [bnd_u, gd_t, if_true, if_false, ↓reduceIte, eq_self, true_or, or_true, false_or, or_false, not_true_eq_false, not_false_eq_true, and_true, true_and, and_false, false_and, reduceCtorEq, nI_ge, nI_le, nI_lt, nI_nlt, nI_ne, nI_te, nm_eq, mn_eq, nm_le, mn_le, nm_lt, mn_lt, pk_mul, nI_add, pk_sub, nI_clamp, eX9_hoursOf_5, eX9_hoursOf_38, eX9_hoursOf_51, eX9_hoursOf_59, hMo, h1, hd, Bool.toNat_true, msk_t (show h < 31 by omega) e]
      · have e : hks q k h = false := by simp [hks, z]
        simp -dsimp -implicitDefEqProofs (disch := omega) only [bnd_u, gd_t, if_true, if_false, ↓reduceIte, eq_self, true_or, or_true, false_or, or_false, not_true_eq_false, not_false_eq_true, and_true, true_and, and_false, false_and, reduceCtorEq, nI_ge, nI_le, nI_lt, nI_nlt, nI_ne, nI_te, nm_eq, mn_eq, nm_le, mn_le, nm_lt, mn_lt, pk_mul, nI_add, pk_sub, nI_clamp, eX9_hoursOf_5, eX9_hoursOf_58, eX9_hoursOf_59, hMo, h1, msk_f e]
  · intro n _ _
    simp -dsimp -implicitDefEqProofs (disch := omega) only [bnd_u, gd_t, if_true, if_false, ↓reduceIte, eq_self, true_or, or_true, false_or, or_false, not_true_eq_false, not_false_eq_true, and_true, true_and, and_false, false_and, reduceCtorEq, nI_ge, nI_le, nI_lt, nI_nlt, nI_ne, nI_te, nm_eq, mn_eq, nm_le, mn_le, nm_lt, mn_lt, pk_mul, nI_add, pk_sub, nI_clamp, eX9_hoursOf_5]
theorem sim_rule (x : Int32) : Sim (FX8_rule 0 x) (FX9_rule 78 x) := by
  refine sim_ro (fun g q K hI => ?_)
  rcases in_of x (n := 6) (by omega) with hx | ⟨h, hh, rfl⟩
  · refine ⟨mi 1, same ?_, fun g1 hI1 _ => same ?_⟩
    · simp -dsimp -implicitDefEqProofs (disch := omega) only [bnd_u, gd_t, if_true, if_false, ↓reduceIte, eq_self, true_or, or_true, false_or, or_false, not_true_eq_false, not_false_eq_true, and_true, true_and, and_false, false_and, reduceCtorEq, nI_ge, nI_le, nI_lt, nI_nlt, nI_ne, nI_te, nm_eq, mn_eq, nm_le, mn_le, nm_lt, mn_lt, pk_mul, nI_add, pk_sub, nI_clamp, eX8_rule, ne_out hx (show 0 < 6 by omega) (by omega), ne_out hx (show 1 < 6 by omega) (by omega), ne_out hx (show 2 < 6 by omega) (by omega), ne_out hx (show 3 < 6 by omega) (by omega), ne_out hx (show 4 < 6 by omega) (by omega), ne_out hx (show 5 < 6 by omega) (by omega)]
    · simp -dsimp -implicitDefEqProofs (disch := omega) only [bnd_u, gd_t, if_true, if_false, ↓reduceIte, eq_self, true_or, or_true, false_or, or_false, not_true_eq_false, not_false_eq_true, and_true, true_and, and_false, false_and, reduceCtorEq, nI_ge, nI_le, nI_lt, nI_nlt, nI_ne, nI_te, nm_eq, mn_eq, nm_le, mn_le, nm_lt, mn_lt, pk_mul, nI_add, pk_sub, nI_clamp, eX9_rule, ne_out hx (show 0 < 6 by omega) (by omega), ne_out hx (show 1 < 6 by omega) (by omega), ne_out hx (show 2 < 6 by omega) (by omega), ne_out hx (show 3 < 6 by omega) (by omega), ne_out hx (show 4 < 6 by omega) (by omega), ne_out hx (show 5 < 6 by omega) (by omega)]
  · rcases (show h = 0 ∨ h = 1 ∨ h = 2 ∨ h = 3 ∨ h = 4 ∨ h = 5 by omega) with rfl | rfl | rfl | rfl | rfl | rfl
    · refine ⟨nI K, same ?_, fun g1 hI1 _ => same ?_⟩
      · simp -dsimp -implicitDefEqProofs (disch := omega) only [bnd_u, gd_t, if_true, if_false, ↓reduceIte, eq_self, true_or, or_true, false_or, or_false, not_true_eq_false, not_false_eq_true, and_true, true_and, and_false, false_and, reduceCtorEq, nI_ge, nI_le, nI_lt, nI_nlt, nI_ne, nI_te, nm_eq, mn_eq, nm_le, mn_le, nm_lt, mn_lt, pk_mul, nI_add, pk_sub, nI_clamp, eX8_rule, hTop, hFam, hI.F.1]
      · simp -dsimp -implicitDefEqProofs (disch := omega) only [bnd_u, gd_t, if_true, if_false, ↓reduceIte, eq_self, true_or, or_true, false_or, or_false, not_true_eq_false, not_false_eq_true, and_true, true_and, and_false, false_and, reduceCtorEq, nI_ge, nI_le, nI_lt, nI_nlt, nI_ne, nI_te, nm_eq, mn_eq, nm_le, mn_le, nm_lt, mn_lt, pk_mul, nI_add, pk_sub, nI_clamp, eX9_rule, hMo, hI1.M.1]
    · refine ⟨nI (q 25), same ?_, fun g1 hI1 _ => same ?_⟩
      · simp -dsimp -implicitDefEqProofs (disch := omega) only [bnd_u, gd_t, if_true, if_false, ↓reduceIte, eq_self, true_or, or_true, false_or, or_false, not_true_eq_false, not_false_eq_true, and_true, true_and, and_false, false_and, reduceCtorEq, nI_ge, nI_le, nI_lt, nI_nlt, nI_ne, nI_te, nm_eq, mn_eq, nm_le, mn_le, nm_lt, mn_lt, pk_mul, nI_add, pk_sub, nI_clamp, eX8_rule, hTop, hFam, hI.F.2.2.2.1]
      · simp -dsimp -implicitDefEqProofs (disch := omega) only [bnd_u, gd_t, if_true, if_false, ↓reduceIte, eq_self, true_or, or_true, false_or, or_false, not_true_eq_false, not_false_eq_true, and_true, true_and, and_false, false_and, reduceCtorEq, nI_ge, nI_le, nI_lt, nI_nlt, nI_ne, nI_te, nm_eq, mn_eq, nm_le, mn_le, nm_lt, mn_lt, pk_mul, nI_add, pk_sub, nI_clamp, eX9_rule, hMo, hI1.M.a]
    · refine ⟨nI (q 56), same ?_, fun g1 hI1 _ => same ?_⟩
      · simp -dsimp -implicitDefEqProofs (disch := omega) only [bnd_u, gd_t, if_true, if_false, ↓reduceIte, eq_self, true_or, or_true, false_or, or_false, not_true_eq_false, not_false_eq_true, and_true, true_and, and_false, false_and, reduceCtorEq, nI_ge, nI_le, nI_lt, nI_nlt, nI_ne, nI_te, nm_eq, mn_eq, nm_le, mn_le, nm_lt, mn_lt, pk_mul, nI_add, pk_sub, nI_clamp, eX8_rule, hTop, hFam, hI.F.2.2.2.2.2.1]
      · simp -dsimp -implicitDefEqProofs (disch := omega) only [bnd_u, gd_t, if_true, if_false, ↓reduceIte, eq_self, true_or, or_true, false_or, or_false, not_true_eq_false, not_false_eq_true, and_true, true_and, and_false, false_and, reduceCtorEq, nI_ge, nI_le, nI_lt, nI_nlt, nI_ne, nI_te, nm_eq, mn_eq, nm_le, mn_le, nm_lt, mn_lt, pk_mul, nI_add, pk_sub, nI_clamp, eX9_rule, hMo, hI1.M.a]
    · refine ⟨nI (q 73), same ?_, fun g1 hI1 _ => same ?_⟩
      · simp -dsimp -implicitDefEqProofs (disch := omega) only [bnd_u, gd_t, if_true, if_false, ↓reduceIte, eq_self, true_or, or_true, false_or, or_false, not_true_eq_false, not_false_eq_true, and_true, true_and, and_false, false_and, reduceCtorEq, nI_ge, nI_le, nI_lt, nI_nlt, nI_ne, nI_te, nm_eq, mn_eq, nm_le, mn_le, nm_lt, mn_lt, pk_mul, nI_add, pk_sub, nI_clamp, eX8_rule, hTop, hFam, hI.F.2.2.2.2.2.2.2.1]
      · simp -dsimp -implicitDefEqProofs (disch := omega) only [bnd_u, gd_t, if_true, if_false, ↓reduceIte, eq_self, true_or, or_true, false_or, or_false, not_true_eq_false, not_false_eq_true, and_true, true_and, and_false, false_and, reduceCtorEq, nI_ge, nI_le, nI_lt, nI_nlt, nI_ne, nI_te, nm_eq, mn_eq, nm_le, mn_le, nm_lt, mn_lt, pk_mul, nI_add, pk_sub, nI_clamp, eX9_rule, hMo, hI1.M.a]
    · refine ⟨nI (msk (held q) 10), same ?_, fun g1 hI1 _ => same ?_⟩
      · simp -dsimp -implicitDefEqProofs (disch := omega) only [bnd_u, gd_t, if_true, if_false, ↓reduceIte, eq_self, true_or, or_true, false_or, or_false, not_true_eq_false, not_false_eq_true, and_true, true_and, and_false, false_and, reduceCtorEq, nI_ge, nI_le, nI_lt, nI_nlt, nI_ne, nI_te, nm_eq, mn_eq, nm_le, mn_le, nm_lt, mn_lt, pk_mul, nI_add, pk_sub, nI_clamp, eX8_rule, hTop, hFam, f_held hI.G hI.R]
      · simp -dsimp -implicitDefEqProofs (disch := omega) only [bnd_u, gd_t, if_true, if_false, ↓reduceIte, eq_self, true_or, or_true, false_or, or_false, not_true_eq_false, not_false_eq_true, and_true, true_and, and_false, false_and, reduceCtorEq, nI_ge, nI_le, nI_lt, nI_nlt, nI_ne, nI_te, nm_eq, mn_eq, nm_le, mn_le, nm_lt, mn_lt, pk_mul, nI_add, pk_sub, nI_clamp, eX9_rule, hMo, m_held hI1.M hI.G]
    · obtain ⟨g1, e1, f1, l1⟩ := s_look rc11 (by decide) hI.F hI.G hI.R
      refine ⟨nI (msk (dsee q) 10), some1 (g1 := g1) ?_ f1 (by decide), fun g1 hI1 _ => same ?_⟩
      · simp -dsimp -implicitDefEqProofs (disch := omega) only [bnd_u, gd_t, if_true, if_false, ↓reduceIte, eq_self, true_or, or_true, false_or, or_false, not_true_eq_false, not_false_eq_true, and_true, true_and, and_false, false_and, reduceCtorEq, nI_ge, nI_le, nI_lt, nI_nlt, nI_ne, nI_te, nm_eq, mn_eq, nm_le, mn_le, nm_lt, mn_lt, pk_mul, nI_add, pk_sub, nI_clamp, eX8_rule, hTop, hFam, hSee, e1, s_seen hI.G l1]
      · simp -dsimp -implicitDefEqProofs (disch := omega) only [bnd_u, gd_t, if_true, if_false, ↓reduceIte, eq_self, true_or, or_true, false_or, or_false, not_true_eq_false, not_false_eq_true, and_true, true_and, and_false, false_and, reduceCtorEq, nI_ge, nI_le, nI_lt, nI_nlt, nI_ne, nI_te, nm_eq, mn_eq, nm_le, mn_le, nm_lt, mn_lt, pk_mul, nI_add, pk_sub, nI_clamp, eX9_rule, hMo, m_seeing hI1.M hI.G]
theorem sim_one (x y : Int32) : Sim (FX8_one 0 x y) (FX9_one 78 x y) := by
  refine sim_ro (fun g q K hI => ?_)
  have hK := hI.G.K
  rcases in_of x (n := K) (by omega) with hx | ⟨k, hk, rfl⟩
  · refine ⟨mi 1, same ?_, fun g1 hI1 _ => same ?_⟩
    · simp -dsimp -implicitDefEqProofs (disch := omega) only [bnd_u, gd_t, if_true, if_false, ↓reduceIte, eq_self, true_or, or_true, false_or, or_false, not_true_eq_false, not_false_eq_true, and_true, true_and, and_false, false_and, reduceCtorEq, nI_ge, nI_le, nI_lt, nI_nlt, nI_ne, nI_te, nm_eq, mn_eq, nm_le, mn_le, nm_lt, mn_lt, pk_mul, nI_add, pk_sub, nI_clamp, eX8_one, hTop, hFam, f_oneN hI.F hx]
    · simp -dsimp -implicitDefEqProofs (disch := omega) only [bnd_u, gd_t, if_true, if_false, ↓reduceIte, eq_self, true_or, or_true, false_or, or_false, not_true_eq_false, not_false_eq_true, and_true, true_and, and_false, false_and, reduceCtorEq, nI_ge, nI_le, nI_lt, nI_nlt, nI_ne, nI_te, nm_eq, mn_eq, nm_le, mn_le, nm_lt, mn_lt, pk_mul, nI_add, pk_sub, nI_clamp, eX9_one, hMo, m_oneN hI1.M hK hx]
  · rcases in_of y (n := 5) (by omega) with hy | ⟨h, hh, rfl⟩
    · refine ⟨mi 1, same ?_, fun g1 hI1 _ => same ?_⟩
      · simp -dsimp -implicitDefEqProofs (disch := omega) only [bnd_u, gd_t, if_true, if_false, ↓reduceIte, eq_self, true_or, or_true, false_or, or_false, not_true_eq_false, not_false_eq_true, and_true, true_and, and_false, false_and, reduceCtorEq, nI_ge, nI_le, nI_lt, nI_nlt, nI_ne, nI_te, nm_eq, mn_eq, nm_le, mn_le, nm_lt, mn_lt, pk_mul, nI_add, pk_sub, nI_clamp, eX8_one, hTop, hFam, f_one hI.F hI.G hk, ne_out hy (show 0 < 5 by omega) (by omega), ne_out hy (show 1 < 5 by omega) (by omega), ne_out hy (show 2 < 5 by omega) (by omega), ne_out hy (show 3 < 5 by omega) (by omega), ne_out hy (show 4 < 5 by omega) (by omega)]
      · simp -dsimp -implicitDefEqProofs (disch := omega) only [bnd_u, gd_t, if_true, if_false, ↓reduceIte, eq_self, true_or, or_true, false_or, or_false, not_true_eq_false, not_false_eq_true, and_true, true_and, and_false, false_and, reduceCtorEq, nI_ge, nI_le, nI_lt, nI_nlt, nI_ne, nI_te, nm_eq, mn_eq, nm_le, mn_le, nm_lt, mn_lt, pk_mul, nI_add, pk_sub, nI_clamp, eX9_one, hMo, m_one hI1.M hK hk, ne_out hy (show 0 < 5 by omega) (by omega), ne_out hy (show 1 < 5 by omega) (by omega), ne_out hy (show 2 < 5 by omega) (by omega), ne_out hy (show 3 < 5 by omega) (by omega), ne_out hy (show 4 < 5 by omega) (by omega)]
    · rcases (show h = 0 ∨ h = 1 ∨ h = 2 ∨ h = 3 ∨ h = 4 by omega) with rfl | rfl | rfl | rfl | rfl
      · refine ⟨nI (q k), same ?_, fun g1 hI1 _ => same ?_⟩
        · simp -dsimp -implicitDefEqProofs (disch := omega) only [bnd_u, gd_t, if_true, if_false, ↓reduceIte, eq_self, true_or, or_true, false_or, or_false, not_true_eq_false, not_false_eq_true, and_true, true_and, and_false, false_and, reduceCtorEq, nI_ge, nI_le, nI_lt, nI_nlt, nI_ne, nI_te, nm_eq, mn_eq, nm_le, mn_le, nm_lt, mn_lt, pk_mul, nI_add, pk_sub, nI_clamp, eX8_one, hTop, hFam, f_one hI.F hI.G hk, f_kind hI.F hI.G hk]
        · simp -dsimp -implicitDefEqProofs (disch := omega) only [bnd_u, gd_t, if_true, if_false, ↓reduceIte, eq_self, true_or, or_true, false_or, or_false, not_true_eq_false, not_false_eq_true, and_true, true_and, and_false, false_and, reduceCtorEq, nI_ge, nI_le, nI_lt, nI_nlt, nI_ne, nI_te, nm_eq, mn_eq, nm_le, mn_le, nm_lt, mn_lt, pk_mul, nI_add, pk_sub, nI_clamp, eX9_one, eX9_one_44, hMo, m_one hI1.M hK hk, Nat.mul_zero, Nat.zero_add, hI1.M.a]
      · refine ⟨nI (q (5 + k)), same ?_, fun g1 hI1 _ => same ?_⟩
        · simp -dsimp -implicitDefEqProofs (disch := omega) only [bnd_u, gd_t, if_true, if_false, ↓reduceIte, eq_self, true_or, or_true, false_or, or_false, not_true_eq_false, not_false_eq_true, and_true, true_and, and_false, false_and, reduceCtorEq, nI_ge, nI_le, nI_lt, nI_nlt, nI_ne, nI_te, nm_eq, mn_eq, nm_le, mn_le, nm_lt, mn_lt, pk_mul, nI_add, pk_sub, nI_clamp, eX8_one, hTop, hFam, f_one hI.F hI.G hk, f_post hI.F hI.G hk]
        · simp -dsimp -implicitDefEqProofs (disch := omega) only [bnd_u, gd_t, if_true, if_false, ↓reduceIte, eq_self, true_or, or_true, false_or, or_false, not_true_eq_false, not_false_eq_true, and_true, true_and, and_false, false_and, reduceCtorEq, nI_ge, nI_le, nI_lt, nI_nlt, nI_ne, nI_te, nm_eq, mn_eq, nm_le, mn_le, nm_lt, mn_lt, pk_mul, nI_add, pk_sub, nI_clamp, eX9_one, eX9_one_44, hMo, m_one hI1.M hK hk, Nat.mul_one, hI1.M.a]
      · refine ⟨nI (kp (q k)), same ?_, fun g1 hI1 _ => same ?_⟩
        · have h1 := f_keeps hI.F hI.G (show k < 5 by omega)
          rw [if_pos hk] at h1
          simp -dsimp -implicitDefEqProofs (disch := omega) only [bnd_u, gd_t, if_true, if_false, ↓reduceIte, eq_self, true_or, or_true, false_or, or_false, not_true_eq_false, not_false_eq_true, and_true, true_and, and_false, false_and, reduceCtorEq, nI_ge, nI_le, nI_lt, nI_nlt, nI_ne, nI_te, nm_eq, mn_eq, nm_le, mn_le, nm_lt, mn_lt, pk_mul, nI_add, pk_sub, nI_clamp, eX8_one, hTop, hFam, f_one hI.F hI.G hk, h1]
        · have h3 := (hI.G.k hk).1
          have h4 := hI1.kp (q k) (by omega)
          simp -dsimp -implicitDefEqProofs (disch := omega) only [bnd_u, gd_t, if_true, if_false, ↓reduceIte, eq_self, true_or, or_true, false_or, or_false, not_true_eq_false, not_false_eq_true, and_true, true_and, and_false, false_and, reduceCtorEq, nI_ge, nI_le, nI_lt, nI_nlt, nI_ne, nI_te, nm_eq, mn_eq, nm_le, mn_le, nm_lt, mn_lt, pk_mul, nI_add, pk_sub, nI_clamp, eX9_one, hMo, m_one hI1.M hK hk, hI1.M.a, h4]
      · refine ⟨nI (msk (heldBy q k) 10), same ?_, fun g1 hI1 _ => same ?_⟩
        · simp -dsimp -implicitDefEqProofs (disch := omega) only [bnd_u, gd_t, if_true, if_false, ↓reduceIte, eq_self, true_or, or_true, false_or, or_false, not_true_eq_false, not_false_eq_true, and_true, true_and, and_false, false_and, reduceCtorEq, nI_ge, nI_le, nI_lt, nI_nlt, nI_ne, nI_te, nm_eq, mn_eq, nm_le, mn_le, nm_lt, mn_lt, pk_mul, nI_add, pk_sub, nI_clamp, eX8_one, hTop, hFam, f_one hI.F hI.G hk, f_heldBy hI.G hI.R (show k < 5 by omega)]
        · simp -dsimp -implicitDefEqProofs (disch := omega) only [bnd_u, gd_t, if_true, if_false, ↓reduceIte, eq_self, true_or, or_true, false_or, or_false, not_true_eq_false, not_false_eq_true, and_true, true_and, and_false, false_and, reduceCtorEq, nI_ge, nI_le, nI_lt, nI_nlt, nI_ne, nI_te, nm_eq, mn_eq, nm_le, mn_le, nm_lt, mn_lt, pk_mul, nI_add, pk_sub, nI_clamp, eX9_one, hMo, m_one hI1.M hK hk, m_heldBy hI1.M hI.G (show k < 5 by omega)]
      · obtain ⟨g1, e1, f1, l1⟩ := s_look rc11 (by decide) hI.F hI.G hI.R
        refine ⟨nI (msk (hks q k) 10), some1 (g1 := g1) ?_ f1 (by decide), fun g1 hI1 _ => same ?_⟩
        · simp -dsimp -implicitDefEqProofs (disch := omega) only [bnd_u, gd_t, if_true, if_false, ↓reduceIte, eq_self, true_or, or_true, false_or, or_false, not_true_eq_false, not_false_eq_true, and_true, true_and, and_false, false_and, reduceCtorEq, nI_ge, nI_le, nI_lt, nI_nlt, nI_ne, nI_te, nm_eq, mn_eq, nm_le, mn_le, nm_lt, mn_lt, pk_mul, nI_add, pk_sub, nI_clamp, eX8_one, hTop, hFam, hSee, f_one hI.F hI.G hk, e1, s_hoursOf l1 (show k < 5 by omega)]
        · simp -dsimp -implicitDefEqProofs (disch := omega) only [bnd_u, gd_t, if_true, if_false, ↓reduceIte, eq_self, true_or, or_true, false_or, or_false, not_true_eq_false, not_false_eq_true, and_true, true_and, and_false, false_and, reduceCtorEq, nI_ge, nI_le, nI_lt, nI_nlt, nI_ne, nI_te, nm_eq, mn_eq, nm_le, mn_le, nm_lt, mn_lt, pk_mul, nI_add, pk_sub, nI_clamp, eX9_one, hMo, m_one hI1.M hK hk, m_seesBy hI1.M hI.G (show k < 5 by omega)]
/-! beliefs -/
theorem sim_belief (x y z w : Int32) : Sim (FX8_belief 0 x y z w) (FX9_belief 78 x y z w) := by
  refine sim_ro (fun g q K hI => ?_)
  have hK := hI.G.K
  rcases in_of x (n := K) (by omega) with hx | ⟨k, hk, rfl⟩
  · refine ⟨mi 1, same ?_, fun g1 hI1 _ => same ?_⟩
    · simp -dsimp -implicitDefEqProofs (disch := omega) only [bnd_u, gd_t, if_true, if_false, ↓reduceIte, eq_self, true_or, or_true, false_or, or_false, not_true_eq_false, not_false_eq_true, and_true, true_and, and_false, false_and, reduceCtorEq, nI_ge, nI_le, nI_lt, nI_nlt, nI_ne, nI_te, nm_eq, mn_eq, nm_le, mn_le, nm_lt, mn_lt, pk_mul, nI_add, pk_sub, nI_clamp, eX8_belief, eX8_belief_33, hTop, hFam, f_oneN hI.F hx]
    · simp -dsimp -implicitDefEqProofs (disch := omega) only [bnd_u, gd_t, if_true, if_false, ↓reduceIte, eq_self, true_or, or_true, false_or, or_false, not_true_eq_false, not_false_eq_true, and_true, true_and, and_false, false_and, reduceCtorEq, nI_ge, nI_le, nI_lt, nI_nlt, nI_ne, nI_te, nm_eq, mn_eq, nm_le, mn_le, nm_lt, mn_lt, pk_mul, nI_add, pk_sub, nI_clamp, eX9_belief, eX9_belief_33, hMo, m_oneN hI1.M hK hx]
  · rcases in_of y (n := 3) (by omega) with hy | ⟨i, hi, rfl⟩
    · refine ⟨mi 1, same ?_, fun g1 hI1 _ => same ?_⟩
      · simp -dsimp -implicitDefEqProofs (disch := omega) only [bnd_u, gd_t, if_true, if_false, ↓reduceIte, eq_self, true_or, or_true, false_or, or_false, not_true_eq_false, not_false_eq_true, and_true, true_and, and_false, false_and, reduceCtorEq, nI_ge, nI_le, nI_lt, nI_nlt, nI_ne, nI_te, nm_eq, mn_eq, nm_le, mn_le, nm_lt, mn_lt, pk_mul, nI_add, pk_sub, nI_clamp, eX8_belief, eX8_belief_33, hTop, hFam, f_one hI.F hI.G hk, c_thingN hy]
      · simp -dsimp -implicitDefEqProofs (disch := omega) only [bnd_u, gd_t, if_true, if_false, ↓reduceIte, eq_self, true_or, or_true, false_or, or_false, not_true_eq_false, not_false_eq_true, and_true, true_and, and_false, false_and, reduceCtorEq, nI_ge, nI_le, nI_lt, nI_nlt, nI_ne, nI_te, nm_eq, mn_eq, nm_le, mn_le, nm_lt, mn_lt, pk_mul, nI_add, pk_sub, nI_clamp, eX9_belief, eX9_belief_33, hMo, m_one hI1.M hK hk, m_thingN hy]
    · rcases in_of z (n := 10) (by omega) with hz | ⟨h, hh, rfl⟩
      · refine ⟨mi 1, same ?_, fun g1 hI1 _ => same ?_⟩
        · simp -dsimp -implicitDefEqProofs (disch := omega) only [bnd_u, gd_t, if_true, if_false, ↓reduceIte, eq_self, true_or, or_true, false_or, or_false, not_true_eq_false, not_false_eq_true, and_true, true_and, and_false, false_and, reduceCtorEq, nI_ge, nI_le, nI_lt, nI_nlt, nI_ne, nI_te, nm_eq, mn_eq, nm_le, mn_le, nm_lt, mn_lt, pk_mul, nI_add, pk_sub, nI_clamp, eX8_belief, eX8_belief_33, hTop, hFam, f_one hI.F hI.G hk, c_thing hi, c_hrN hz]
        · simp -dsimp -implicitDefEqProofs (disch := omega) only [bnd_u, gd_t, if_true, if_false, ↓reduceIte, eq_self, true_or, or_true, false_or, or_false, not_true_eq_false, not_false_eq_true, and_true, true_and, and_false, false_and, reduceCtorEq, nI_ge, nI_le, nI_lt, nI_nlt, nI_ne, nI_te, nm_eq, mn_eq, nm_le, mn_le, nm_lt, mn_lt, pk_mul, nI_add, pk_sub, nI_clamp, eX9_belief, eX9_belief_33, hMo, m_one hI1.M hK hk, m_thing hi, m_hourN hz]
      · rcases in_of w (n := 2) (by omega) with hw | ⟨b, hb, rfl⟩
        · refine ⟨mi 1, same ?_, fun g1 hI1 _ => same ?_⟩
          · simp -dsimp -implicitDefEqProofs (disch := omega) only [bnd_u, gd_t, if_true, if_false, ↓reduceIte, eq_self, true_or, or_true, false_or, or_false, not_true_eq_false, not_false_eq_true, and_true, true_and, and_false, false_and, reduceCtorEq, nI_ge, nI_le, nI_lt, nI_nlt, nI_ne, nI_te, nm_eq, mn_eq, nm_le, mn_le, nm_lt, mn_lt, pk_mul, nI_add, pk_sub, nI_clamp, eX8_belief, eX8_belief_33, hTop, hFam, f_one hI.F hI.G hk, c_thing hi, c_hr hh, c_flagN hw]
          · have hin := m_0nN (M := mk g1) (n := 2) (by omega) (by omega) hw
            simp -dsimp -implicitDefEqProofs (disch := omega) only [bnd_u, gd_t, if_true, if_false, ↓reduceIte, eq_self, true_or, or_true, false_or, or_false, not_true_eq_false, not_false_eq_true, and_true, true_and, and_false, false_and, reduceCtorEq, nI_ge, nI_le, nI_lt, nI_nlt, nI_ne, nI_te, nm_eq, mn_eq, nm_le, mn_le, nm_lt, mn_lt, pk_mul, nI_add, pk_sub, nI_clamp, eX9_belief, eX9_belief_33, hMo, m_one hI1.M hK hk, m_thing hi, m_hour hh, hin]
        · have hok := day_ok hI.G (h + 1) (by omega)
          have h10 := hok.2.1 (3 * k + i)
          have ha := hok.2.2 (3 * k + i)
          obtain ⟨g1, e1, f1, d1⟩ := d_live rc11 (by decide) hI.F hI.G hI.R
          have hc := d1 h hh (3 * k + i) (by omega)
          have hv := d_val (g := g1) (show k < 5 by omega) hi hh
          have hag := d_age (g := g1) (show k < 5 by omega) hi hh
          rw [hc.1] at hv
          rw [hc.2] at hag
          rcases (show b = 0 ∨ b = 1 by omega) with rfl | rfl
          · refine ⟨ho ((day q K (h + 1)).1 (3 * k + i)), some1 (g1 := g1) ?_ f1 (by decide), fun g1 hI1 _ => ?_⟩
            · simp -dsimp -implicitDefEqProofs (disch := omega) only [bnd_u, gd_t, if_true, if_false, ↓reduceIte, eq_self, true_or, or_true, false_or, or_false, not_true_eq_false, not_false_eq_true, and_true, true_and, and_false, false_and, reduceCtorEq, nI_ge, nI_le, nI_lt, nI_nlt, nI_ne, nI_te, nm_eq, mn_eq, nm_le, mn_le, nm_lt, mn_lt, pk_mul, nI_add, pk_sub, nI_clamp, eX8_belief, eX8_belief_81, hTop, hFam, hDay, f_one hI.F hI.G hk, c_thing hi, c_hr hh, c_flag hb, e1, hv]
            · obtain ⟨g2, e2, f2, d2⟩ := h_go hI1.M hI.G hI1.kp
              have hc2 := (d2 h hh (3 * k + i) (by omega)).1
              rw [← Nat.add_assoc] at hc2
              refine some1 (g1 := g2) ?_ f2 (by decide)
              have hin := m_0n (M := mk g1) hb (by omega)
              by_cases z0 : (day q K (h + 1)).1 (3 * k + i) = 0
              · rw [ho_0 z0] at hc2 ⊢
                simp -dsimp -implicitDefEqProofs (disch := omega) only [bnd_u, gd_t, if_true, if_false, ↓reduceIte, eq_self, true_or, or_true, false_or, or_false, not_true_eq_false, not_false_eq_true, and_true, true_and, and_false, false_and, reduceCtorEq, nI_ge, nI_le, nI_lt, nI_nlt, nI_ne, nI_te, nm_eq, mn_eq, nm_le, mn_le, nm_lt, mn_lt, pk_mul, nI_add, pk_sub, nI_clamp, eX9_belief, eX9_belief_68, eX9_belief_85, hMo, m_one hI1.M hK hk, m_thing hi, m_hour hh, hin, e2, hc2]
              · simp -dsimp -implicitDefEqProofs (disch := omega) only [bnd_u, gd_t, if_true, if_false, ↓reduceIte, eq_self, true_or, or_true, false_or, or_false, not_true_eq_false, not_false_eq_true, and_true, true_and, and_false, false_and, reduceCtorEq, nI_ge, nI_le, nI_lt, nI_nlt, nI_ne, nI_te, nm_eq, mn_eq, nm_le, mn_le, nm_lt, mn_lt, pk_mul, nI_add, pk_sub, nI_clamp, eX9_belief, eX9_belief_68, eX9_belief_85, hMo, m_one hI1.M hK hk, m_thing hi, m_hour hh, hin, e2, hc2, ho_ne4 (show 0 < (day q K (h + 1)).1 (3 * k + i) by omega) h10]
          · refine ⟨ag (day q K (h + 1)) (3 * k + i), some1 (g1 := g1) ?_ f1 (by decide), fun g1 hI1 _ => ?_⟩
            · simp -dsimp -implicitDefEqProofs (disch := omega) only [bnd_u, gd_t, if_true, if_false, ↓reduceIte, eq_self, true_or, or_true, false_or, or_false, not_true_eq_false, not_false_eq_true, and_true, true_and, and_false, false_and, reduceCtorEq, nI_ge, nI_le, nI_lt, nI_nlt, nI_ne, nI_te, nm_eq, mn_eq, nm_le, mn_le, nm_lt, mn_lt, pk_mul, nI_add, pk_sub, nI_clamp, eX8_belief, eX8_belief_81, hTop, hFam, hDay, f_one hI.F hI.G hk, c_thing hi, c_hr hh, c_flag hb, e1, hag]
            · obtain ⟨g2, e2, f2, d2⟩ := h_go hI1.M hI.G hI1.kp
              have hc2 := d2 h hh (3 * k + i) (by omega)
              rw [← Nat.add_assoc] at hc2
              refine some1 (g1 := g2) ?_ f2 (by decide)
              have hin := m_0n (M := mk g1) hb (by omega)
              by_cases z0 : (day q K (h + 1)).1 (3 * k + i) = 0
              · rw [ho_0 z0] at hc2
                rw [ag_0 z0]
                simp -dsimp -implicitDefEqProofs (disch := omega) only [bnd_u, gd_t, if_true, if_false, ↓reduceIte, eq_self, true_or, or_true, false_or, or_false, not_true_eq_false, not_false_eq_true, and_true, true_and, and_false, false_and, reduceCtorEq, nI_ge, nI_le, nI_lt, nI_nlt, nI_ne, nI_te, nm_eq, mn_eq, nm_le, mn_le, nm_lt, mn_lt, pk_mul, nI_add, pk_sub, nI_clamp, eX9_belief, eX9_belief_68, eX9_belief_85, hMo, m_one hI1.M hK hk, m_thing hi, m_hour hh, hin, e2, hc2.1]
              · rw [ag_s z0]
                simp -dsimp -implicitDefEqProofs (disch := omega) only [bnd_u, gd_t, if_true, if_false, ↓reduceIte, eq_self, true_or, or_true, false_or, or_false, not_true_eq_false, not_false_eq_true, and_true, true_and, and_false, false_and, reduceCtorEq, nI_ge, nI_le, nI_lt, nI_nlt, nI_ne, nI_te, nm_eq, mn_eq, nm_le, mn_le, nm_lt, mn_lt, pk_mul, nI_add, pk_sub, nI_clamp, eX9_belief, eX9_belief_85, hMo, m_one hI1.M hK hk, m_thing hi, m_hour hh, hin, e2, hc2.1, hc2.2, ho_ne4 (show 0 < (day q K (h + 1)).1 (3 * k + i) by omega) h10]
