/-! right, wrong, mend, count, best, luck, mean -/
def rgt (q : Nat → Nat) (K i h : Nat) : Nat → Bool := fun k => decide ((day q K (h + 1)).1 (3 * k + i) = vl q i (h + 1) + 1)
def wrg (q : Nat → Nat) (K i h : Nat) : Nat → Bool := fun k => decide (0 < (day q K (h + 1)).1 (3 * k + i)) && decide ((day q K (h + 1)).1 (3 * k + i) ≠ vl q i (h + 1) + 1)
theorem vl_9 {q : Nat → Nat} {K i T : Nat} (hG : Gd q K) (hi : i < 3) : vl q i T ≤ 9 := vat_9 hG hi T (q 25) (Nat.le_refl _)
theorem ho_eqs {r v : Nat} (hr : r ≤ 10) (hv : v ≤ 9) : (ho r = nI v) = (r = v + 1) := ho_eqk hr (by omega)
theorem d_right {g : Gg} {q : Nat → Nat} {K i h : Nat} (hF : F1 g q K) (hG : Gd q K) (hD : Dy g q K) (hi : i < 3) (hh : h < 10) : FX0_rightOnes 35 1 (nI i) (nI h) (mk g) = some (nI (msk (rgt q K i h) K), mk g) := by
  have hK := hG.K
  have hok := day_ok hG (h + 1) (by omega)
  have hv := f_value (T := h + 1) hF hG hi (by omega)
  rw [hT_s] at hv
  have h9 := vl_9 (T := h + 1) hG hi
  have e0 : FX0_rightOnes 35 1 (nI i) (nI h) (mk g) = FX0_rightOnes_14 fu 35 1 (nI i) (nI h) (nI (vl q i (h + 1))) (nI 0) (nI 0) (mk g) := by
    simp -dsimp -implicitDefEqProofs (disch := omega) only [bnd_u, gd_t, if_true, if_false, ↓reduceIte, eq_self, true_or, or_true, false_or, or_false, not_true_eq_false, not_false_eq_true, and_true, true_and, and_false, false_and, reduceCtorEq, nI_ge, nI_le, nI_lt, nI_nlt, nI_ne, nI_te, nm_eq, mn_eq, nm_le, mn_le, nm_lt, mn_lt, pk_mul, nI_add, pk_sub, nI_clamp, eX0_rightOnes, hFam, hv]
  rw [e0]
  refine lp_0 (σ := Unit) (fun n k _ => FX0_rightOnes_14 n 35 1 (nI i) (nI h) (nI (vl q i (h + 1))) (nI (msk (rgt q K i h) k)) (nI k) (mk g)) K (fun _ _ => True) (fun o => o = some (nI (msk (rgt q K i h) K), mk g)) (s := ()) trivial (fu_l (by omega)) ?_ ?_
  · intro n k _ hk _
    refine Or.inr ⟨(), ?_, trivial⟩
    have hva := d_val (g := g) (show k < 5 by omega) hi hh
    rw [(hD h hh (3 * k + i) (by omega)).1] at hva
    have he := ho_eqs (hok.2.1 (3 * k + i)) h9
    by_cases z : (day q K (h + 1)).1 (3 * k + i) = vl q i (h + 1) + 1
    · have e : rgt q K i h k = true := by simp [rgt, z]
      have he := he.trans (eq_true z)
      simp -dsimp -implicitDefEqProofs (disch := omega) only [bnd_u, gd_t, if_true, if_false, ↓reduceIte, eq_self, true_or, or_true, false_or, or_false, not_true_eq_false, not_false_eq_true, and_true, true_and, and_false, false_and, reduceCtorEq, nI_ge, nI_le, nI_lt, nI_nlt, nI_ne, nI_te, nm_eq, mn_eq, nm_le, mn_le, nm_lt, mn_lt, pk_mul, nI_add, pk_sub, nI_clamp, eX0_rightOnes_14, eX0_rightOnes_49, hFam, hDay, hF.1, hva, he, msk_t (show k < 31 by omega) e]
    · have e : rgt q K i h k = false := by simp [rgt, z]
      have he := he.trans (eq_false z)
      simp -dsimp -implicitDefEqProofs (disch := omega) only [bnd_u, gd_t, if_true, if_false, ↓reduceIte, eq_self, true_or, or_true, false_or, or_false, not_true_eq_false, not_false_eq_true, and_true, true_and, and_false, false_and, reduceCtorEq, nI_ge, nI_le, nI_lt, nI_nlt, nI_ne, nI_te, nm_eq, mn_eq, nm_le, mn_le, nm_lt, mn_lt, pk_mul, nI_add, pk_sub, nI_clamp, eX0_rightOnes_14, eX0_rightOnes_49, hFam, hDay, hF.1, hva, he, msk_f e]
  · intro n _ _
    simp -dsimp -implicitDefEqProofs (disch := omega) only [bnd_u, gd_t, if_true, if_false, ↓reduceIte, eq_self, true_or, or_true, false_or, or_false, not_true_eq_false, not_false_eq_true, and_true, true_and, and_false, false_and, reduceCtorEq, nI_ge, nI_le, nI_lt, nI_nlt, nI_ne, nI_te, nm_eq, mn_eq, nm_le, mn_le, nm_lt, mn_lt, pk_mul, nI_add, pk_sub, nI_clamp, eX0_rightOnes_14, hFam, hF.1]
theorem d_wrong {g : Gg} {q : Nat → Nat} {K i h : Nat} (hF : F1 g q K) (hG : Gd q K) (hD : Dy g q K) (hi : i < 3) (hh : h < 10) : FX0_wrongOnes 35 1 (nI i) (nI h) (mk g) = some (nI (msk (wrg q K i h) K), mk g) := by
  have hK := hG.K
  have hok := day_ok hG (h + 1) (by omega)
  have hv := f_value (T := h + 1) hF hG hi (by omega)
  rw [hT_s] at hv
  have h9 := vl_9 (T := h + 1) hG hi
  have e0 : FX0_wrongOnes 35 1 (nI i) (nI h) (mk g) = FX0_wrongOnes_14 fu 35 1 (nI i) (nI h) (nI (vl q i (h + 1))) (nI 0) (nI 0) (mk g) := by
    simp -dsimp -implicitDefEqProofs (disch := omega) only [bnd_u, gd_t, if_true, if_false, ↓reduceIte, eq_self, true_or, or_true, false_or, or_false, not_true_eq_false, not_false_eq_true, and_true, true_and, and_false, false_and, reduceCtorEq, nI_ge, nI_le, nI_lt, nI_nlt, nI_ne, nI_te, nm_eq, mn_eq, nm_le, mn_le, nm_lt, mn_lt, pk_mul, nI_add, pk_sub, nI_clamp, eX0_wrongOnes, hFam, hv]
  rw [e0]
  refine lp_0 (σ := Unit) (fun n k _ => FX0_wrongOnes_14 n 35 1 (nI i) (nI h) (nI (vl q i (h + 1))) (nI (msk (wrg q K i h) k)) (nI k) (mk g)) K (fun _ _ => True) (fun o => o = some (nI (msk (wrg q K i h) K), mk g)) (s := ()) trivial (fu_l (by omega)) ?_ ?_
  · intro n k _ hk _
    refine Or.inr ⟨(), ?_, trivial⟩
    have hva := d_val (g := g) (show k < 5 by omega) hi hh
    rw [(hD h hh (3 * k + i) (by omega)).1] at hva
    have he := ho_eqs (hok.2.1 (3 * k + i)) h9
    by_cases z0 : (day q K (h + 1)).1 (3 * k + i) = 0
    · have e : wrg q K i h k = false := by simp [wrg, z0]
      rw [ho_0 z0] at hva
      simp -dsimp -implicitDefEqProofs (disch := omega) only [bnd_u, gd_t, if_true, if_false, ↓reduceIte, eq_self, true_or, or_true, false_or, or_false, not_true_eq_false, not_false_eq_true, and_true, true_and, and_false, false_and, reduceCtorEq, nI_ge, nI_le, nI_lt, nI_nlt, nI_ne, nI_te, nm_eq, mn_eq, nm_le, mn_le, nm_lt, mn_lt, pk_mul, nI_add, pk_sub, nI_clamp, eX0_wrongOnes_14, eX0_wrongOnes_59, eX0_wrongOnes_60, hFam, hDay, hF.1, hva, msk_f e]
    · have hn4 := ho_ne4 (show 0 < (day q K (h + 1)).1 (3 * k + i) by omega) (hok.2.1 (3 * k + i))
      by_cases z : (day q K (h + 1)).1 (3 * k + i) = vl q i (h + 1) + 1
      · have e : wrg q K i h k = false := by simp [wrg, z]
        have he := he.trans (eq_true z)
        simp -dsimp -implicitDefEqProofs (disch := omega) only [bnd_u, gd_t, if_true, if_false, ↓reduceIte, eq_self, true_or, or_true, false_or, or_false, not_true_eq_false, not_false_eq_true, and_true, true_and, and_false, false_and, reduceCtorEq, nI_ge, nI_le, nI_lt, nI_nlt, nI_ne, nI_te, nm_eq, mn_eq, nm_le, mn_le, nm_lt, mn_lt, pk_mul, nI_add, pk_sub, nI_clamp, eX0_wrongOnes_14, eX0_wrongOnes_59, eX0_wrongOnes_60, hFam, hDay, hF.1, hva, hn4, he, msk_f e]
      · have e : wrg q K i h k = true := by simp [wrg, z]; omega
        have he := he.trans (eq_false z)
        simp -dsimp -implicitDefEqProofs (disch := omega) only [bnd_u, gd_t, if_true, if_false, ↓reduceIte, eq_self, true_or, or_true, false_or, or_false, not_true_eq_false, not_false_eq_true, and_true, true_and, and_false, false_and, reduceCtorEq, nI_ge, nI_le, nI_lt, nI_nlt, nI_ne, nI_te, nm_eq, mn_eq, nm_le, mn_le, nm_lt, mn_lt, pk_mul, nI_add, pk_sub, nI_clamp, eX0_wrongOnes_14, eX0_wrongOnes_60, hFam, hDay, hF.1, hva, hn4, he, msk_t (show k < 31 by omega) e]
  · intro n _ _
    simp -dsimp -implicitDefEqProofs (disch := omega) only [bnd_u, gd_t, if_true, if_false, ↓reduceIte, eq_self, true_or, or_true, false_or, or_false, not_true_eq_false, not_false_eq_true, and_true, true_and, and_false, false_and, reduceCtorEq, nI_ge, nI_le, nI_lt, nI_nlt, nI_ne, nI_te, nm_eq, mn_eq, nm_le, mn_le, nm_lt, mn_lt, pk_mul, nI_add, pk_sub, nI_clamp, eX0_wrongOnes_14, hFam, hF.1]
theorem h_right {g : Gg} {q : Nat → Nat} {K i h w : Nat} (hM : Ms g q K) (hG : Gd q K) (hD : Dm g q K) (hi : i < 3) (hh : h < 10) (hw : w < 2) : FX9_rightOf 78 (nI i) (nI h) (nI w) (mk g) = some (nI (msk (if w = 0 then rgt q K i h else wrg q K i h) K), mk g) := by
  have hK := hG.K
  have hok := day_ok hG (h + 1) (by omega)
  have hv := m_value (T := h + 1) hM hG hi (by omega)
  rw [hT_s] at hv
  have h9 := vl_9 (T := h + 1) hG hi
  have e0 : FX9_rightOf 78 (nI i) (nI h) (nI w) (mk g) = FX9_rightOf_14 fu 78 (nI i) (nI h) (nI w) (nI 0) (nI (vl q i (h + 1))) (nI 0) (mk g) := by
    simp -dsimp -implicitDefEqProofs (disch := omega) only [bnd_u, gd_t, if_true, if_false, ↓reduceIte, eq_self, true_or, or_true, false_or, or_false, not_true_eq_false, not_false_eq_true, and_true, true_and, and_false, false_and, reduceCtorEq, nI_ge, nI_le, nI_lt, nI_nlt, nI_ne, nI_te, nm_eq, mn_eq, nm_le, mn_le, nm_lt, mn_lt, pk_mul, nI_add, pk_sub, nI_clamp, eX9_rightOf, hMo, hv]
  rw [e0]
  refine lp_0 (σ := Unit) (fun n k _ => FX9_rightOf_14 n 78 (nI i) (nI h) (nI w) (nI (msk (if w = 0 then rgt q K i h else wrg q K i h) k)) (nI (vl q i (h + 1))) (nI k) (mk g)) K (fun _ _ => True) (fun o => o = some (nI (msk (if w = 0 then rgt q K i h else wrg q K i h) K), mk g)) (s := ()) trivial (fu_l (by omega)) ?_ ?_
  · intro n k _ hk _
    refine Or.inr ⟨(), ?_, trivial⟩
    have hva := (hD h hh (3 * k + i) (by omega)).1
    rw [← Nat.add_assoc] at hva
    have he := ho_eqs (hok.2.1 (3 * k + i)) h9
    by_cases z0 : (day q K (h + 1)).1 (3 * k + i) = 0
    · have e : (if w = 0 then rgt q K i h else wrg q K i h) k = false := by
        split <;> simp [rgt, wrg, z0]
      rw [ho_0 z0] at hva
      simp -dsimp -implicitDefEqProofs (disch := omega) only [bnd_u, gd_t, if_true, if_false, ↓reduceIte, eq_self, true_or, or_true, false_or, or_false, not_true_eq_false, not_false_eq_true, and_true, true_and, and_false, false_and, reduceCtorEq, nI_ge, nI_le, nI_lt, nI_nlt, nI_ne, nI_te, nm_eq, mn_eq, nm_le, mn_le, nm_lt, mn_lt, pk_mul, nI_add, pk_sub, nI_clamp, eX9_rightOf_14, eX9_rightOf_81, eX9_rightOf_82, hMo, hM.1, hva, msk_f e]
    · have hn4 := ho_ne4 (show 0 < (day q K (h + 1)).1 (3 * k + i) by omega) (hok.2.1 (3 * k + i))
      by_cases z : (day q K (h + 1)).1 (3 * k + i) = vl q i (h + 1) + 1
      · have he := he.trans (eq_true z)
        rcases (show w = 0 ∨ w = 1 by omega) with rfl | rfl
        · have e : rgt q K i h k = true := by simp [rgt, z]
          simp -dsimp -implicitDefEqProofs (disch := omega) only [bnd_u, gd_t, if_true, if_false, ↓reduceIte, eq_self, true_or, or_true, false_or, or_false, not_true_eq_false, not_false_eq_true, and_true, true_and, and_false, false_and, reduceCtorEq, nI_ge, nI_le, nI_lt, nI_nlt, nI_ne, nI_te, nm_eq, mn_eq, nm_le, mn_le, nm_lt, mn_lt, pk_mul, nI_add, pk_sub, nI_clamp, eX9_rightOf_14, eX9_rightOf_62, eX9_rightOf_71, eX9_rightOf_82, hMo, hM.1, hva, hn4, he, msk_t (show k < 31 by omega) e]
        · have e : wrg q K i h k = false := by simp [wrg, z]
          simp -dsimp -implicitDefEqProofs (disch := omega) only [bnd_u, gd_t, if_true, if_false, ↓reduceIte, eq_self, true_or, or_true, false_or, or_false, not_true_eq_false, not_false_eq_true, and_true, true_and, and_false, false_and, reduceCtorEq, nI_ge, nI_le, nI_lt, nI_nlt, nI_ne, nI_te, nm_eq, mn_eq, nm_le, mn_le, nm_lt, mn_lt, pk_mul, nI_add, pk_sub, nI_clamp, eX9_rightOf_14, eX9_rightOf_62, eX9_rightOf_71, eX9_rightOf_81, eX9_rightOf_82, hMo, hM.1, hva, hn4, he, msk_f e]
      · have he := he.trans (eq_false z)
        rcases (show w = 0 ∨ w = 1 by omega) with rfl | rfl
        · have e : rgt q K i h k = false := by simp [rgt, z]
          simp -dsimp -implicitDefEqProofs (disch := omega) only [bnd_u, gd_t, if_true, if_false, ↓reduceIte, eq_self, true_or, or_true, false_or, or_false, not_true_eq_false, not_false_eq_true, and_true, true_and, and_false, false_and, reduceCtorEq, nI_ge, nI_le, nI_lt, nI_nlt, nI_ne, nI_te, nm_eq, mn_eq, nm_le, mn_le, nm_lt, mn_lt, pk_mul, nI_add, pk_sub, nI_clamp, eX9_rightOf_14, eX9_rightOf_62, eX9_rightOf_71, eX9_rightOf_81, eX9_rightOf_82, hMo, hM.1, hva, hn4, he, msk_f e]
        · have e : wrg q K i h k = true := by simp [wrg, z]; omega
          simp -dsimp -implicitDefEqProofs (disch := omega) only [bnd_u, gd_t, if_true, if_false, ↓reduceIte, eq_self, true_or, or_true, false_or, or_false, not_true_eq_false, not_false_eq_true, and_true, true_and, and_false, false_and, reduceCtorEq, nI_ge, nI_le, nI_lt, nI_nlt, nI_ne, nI_te, nm_eq, mn_eq, nm_le, mn_le, nm_lt, mn_lt, pk_mul, nI_add, pk_sub, nI_clamp, eX9_rightOf_14, eX9_rightOf_62, eX9_rightOf_71, eX9_rightOf_82, hMo, hM.1, hva, hn4, he, msk_t (show k < 31 by omega) e]
  · intro n _ _
    simp -dsimp -implicitDefEqProofs (disch := omega) only [bnd_u, gd_t, if_true, if_false, ↓reduceIte, eq_self, true_or, or_true, false_or, or_false, not_true_eq_false, not_false_eq_true, and_true, true_and, and_false, false_and, reduceCtorEq, nI_ge, nI_le, nI_lt, nI_nlt, nI_ne, nI_te, nm_eq, mn_eq, nm_le, mn_le, nm_lt, mn_lt, pk_mul, nI_add, pk_sub, nI_clamp, eX9_rightOf_14, hMo, hM.1]
theorem sim_right (x y w : Int32) : Sim (FX8_right 0 x y w) (FX9_right 78 x y w) := by
  refine sim_ro (fun g q K hI => ?_)
  have hK := hI.G.K
  rcases in_of x (n := 3) (by omega) with hx | ⟨i, hi, rfl⟩
  · refine ⟨mi 1, same ?_, fun g1 hI1 _ => same ?_⟩
    · simp -dsimp -implicitDefEqProofs (disch := omega) only [bnd_u, gd_t, if_true, if_false, ↓reduceIte, eq_self, true_or, or_true, false_or, or_false, not_true_eq_false, not_false_eq_true, and_true, true_and, and_false, false_and, reduceCtorEq, nI_ge, nI_le, nI_lt, nI_nlt, nI_ne, nI_te, nm_eq, mn_eq, nm_le, mn_le, nm_lt, mn_lt, pk_mul, nI_add, pk_sub, nI_clamp, eX8_right, eX8_right_21, c_thingN hx]
    · simp -dsimp -implicitDefEqProofs (disch := omega) only [bnd_u, gd_t, if_true, if_false, ↓reduceIte, eq_self, true_or, or_true, false_or, or_false, not_true_eq_false, not_false_eq_true, and_true, true_and, and_false, false_and, reduceCtorEq, nI_ge, nI_le, nI_lt, nI_nlt, nI_ne, nI_te, nm_eq, mn_eq, nm_le, mn_le, nm_lt, mn_lt, pk_mul, nI_add, pk_sub, nI_clamp, eX9_right, eX9_right_24, m_thingN hx]
  · rcases in_of y (n := 10) (by omega) with hy | ⟨h, hh, rfl⟩
    · refine ⟨mi 1, same ?_, fun g1 hI1 _ => same ?_⟩
      · simp -dsimp -implicitDefEqProofs (disch := omega) only [bnd_u, gd_t, if_true, if_false, ↓reduceIte, eq_self, true_or, or_true, false_or, or_false, not_true_eq_false, not_false_eq_true, and_true, true_and, and_false, false_and, reduceCtorEq, nI_ge, nI_le, nI_lt, nI_nlt, nI_ne, nI_te, nm_eq, mn_eq, nm_le, mn_le, nm_lt, mn_lt, pk_mul, nI_add, pk_sub, nI_clamp, eX8_right, eX8_right_21, c_thing hi, c_hrN hy]
      · simp -dsimp -implicitDefEqProofs (disch := omega) only [bnd_u, gd_t, if_true, if_false, ↓reduceIte, eq_self, true_or, or_true, false_or, or_false, not_true_eq_false, not_false_eq_true, and_true, true_and, and_false, false_and, reduceCtorEq, nI_ge, nI_le, nI_lt, nI_nlt, nI_ne, nI_te, nm_eq, mn_eq, nm_le, mn_le, nm_lt, mn_lt, pk_mul, nI_add, pk_sub, nI_clamp, eX9_right, eX9_right_24, m_thing hi, m_hourN hy]
    · rcases in_of w (n := 2) (by omega) with hw | ⟨b, hb, rfl⟩
      · refine ⟨mi 1, same ?_, fun g1 hI1 _ => same ?_⟩
        · simp -dsimp -implicitDefEqProofs (disch := omega) only [bnd_u, gd_t, if_true, if_false, ↓reduceIte, eq_self, true_or, or_true, false_or, or_false, not_true_eq_false, not_false_eq_true, and_true, true_and, and_false, false_and, reduceCtorEq, nI_ge, nI_le, nI_lt, nI_nlt, nI_ne, nI_te, nm_eq, mn_eq, nm_le, mn_le, nm_lt, mn_lt, pk_mul, nI_add, pk_sub, nI_clamp, eX8_right, eX8_right_21, c_thing hi, c_hr hh, c_flagN hw]
        · have hin := m_0nN (M := mk g1) (n := 2) (by omega) (by omega) hw
          simp -dsimp -implicitDefEqProofs (disch := omega) only [bnd_u, gd_t, if_true, if_false, ↓reduceIte, eq_self, true_or, or_true, false_or, or_false, not_true_eq_false, not_false_eq_true, and_true, true_and, and_false, false_and, reduceCtorEq, nI_ge, nI_le, nI_lt, nI_nlt, nI_ne, nI_te, nm_eq, mn_eq, nm_le, mn_le, nm_lt, mn_lt, pk_mul, nI_add, pk_sub, nI_clamp, eX9_right, eX9_right_24, m_thing hi, m_hour hh, hin]
      · obtain ⟨g1, e1, f1, d1⟩ := d_live rc11 (by decide) hI.F hI.G hI.R
        have hF1 := hI.F.f f1 (by decide)
        refine ⟨nI (msk (if b = 0 then rgt q K i h else wrg q K i h) K), some1 (g1 := g1) ?_ f1 (by decide), fun g1 hI1 _ => ?_⟩
        · rcases (show b = 0 ∨ b = 1 by omega) with rfl | rfl
          · have := d_right hF1 hI.G d1 hi hh
            simp -dsimp -implicitDefEqProofs (disch := omega) only [bnd_u, gd_t, if_true, if_false, ↓reduceIte, eq_self, true_or, or_true, false_or, or_false, not_true_eq_false, not_false_eq_true, and_true, true_and, and_false, false_and, reduceCtorEq, nI_ge, nI_le, nI_lt, nI_nlt, nI_ne, nI_te, nm_eq, mn_eq, nm_le, mn_le, nm_lt, mn_lt, pk_mul, nI_add, pk_sub, nI_clamp, eX8_right, eX8_right_74, c_thing hi, c_hr hh, c_flag hb, hTop, hFam, hDay, e1, this]
          · have := d_wrong hF1 hI.G d1 hi hh
            simp -dsimp -implicitDefEqProofs (disch := omega) only [bnd_u, gd_t, if_true, if_false, ↓reduceIte, eq_self, true_or, or_true, false_or, or_false, not_true_eq_false, not_false_eq_true, and_true, true_and, and_false, false_and, reduceCtorEq, nI_ge, nI_le, nI_lt, nI_nlt, nI_ne, nI_te, nm_eq, mn_eq, nm_le, mn_le, nm_lt, mn_lt, pk_mul, nI_add, pk_sub, nI_clamp, eX8_right, eX8_right_74, c_thing hi, c_hr hh, c_flag hb, hTop, hFam, hDay, e1, this, Nat.one_ne_zero]
        · obtain ⟨g2, e2, f2, d2⟩ := h_go hI1.M hI.G hI1.kp
          refine some1 (g1 := g2) ?_ f2 (by decide)
          have hin := m_0n (M := mk g1) hb (by omega)
          simp -dsimp -implicitDefEqProofs (disch := omega) only [bnd_u, gd_t, if_true, if_false, ↓reduceIte, eq_self, true_or, or_true, false_or, or_false, not_true_eq_false, not_false_eq_true, and_true, true_and, and_false, false_and, reduceCtorEq, nI_ge, nI_le, nI_lt, nI_nlt, nI_ne, nI_te, nm_eq, mn_eq, nm_le, mn_le, nm_lt, mn_lt, pk_mul, nI_add, pk_sub, nI_clamp, eX9_right, m_thing hi, m_hour hh, hin, hMo, e2, h_right (hI1.M.f f2 (by decide)) hI.G d2 hi hh hb]
/-- the first hour behind which k is wrong -/
theorem sim_wrong (x y : Int32) : Sim (FX8_wrong 0 x y) (FX9_wrong 78 x y) := by
  refine sim_ro (fun g q K hI => ?_)
  have hK := hI.G.K
  rcases in_of x (n := K) (by omega) with hx | ⟨k, hk, rfl⟩
  · refine ⟨mi 1, same ?_, fun g1 hI1 _ => same ?_⟩
    · simp -dsimp -implicitDefEqProofs (disch := omega) only [bnd_u, gd_t, if_true, if_false, ↓reduceIte, eq_self, true_or, or_true, false_or, or_false, not_true_eq_false, not_false_eq_true, and_true, true_and, and_false, false_and, reduceCtorEq, nI_ge, nI_le, nI_lt, nI_nlt, nI_ne, nI_te, nm_eq, mn_eq, nm_le, mn_le, nm_lt, mn_lt, pk_mul, nI_add, pk_sub, nI_clamp, eX8_wrong, eX8_wrong_18, hTop, hFam, f_oneN hI.F hx]
    · simp -dsimp -implicitDefEqProofs (disch := omega) only [bnd_u, gd_t, if_true, if_false, ↓reduceIte, eq_self, true_or, or_true, false_or, or_false, not_true_eq_false, not_false_eq_true, and_true, true_and, and_false, false_and, reduceCtorEq, nI_ge, nI_le, nI_lt, nI_nlt, nI_ne, nI_te, nm_eq, mn_eq, nm_le, mn_le, nm_lt, mn_lt, pk_mul, nI_add, pk_sub, nI_clamp, eX9_wrong, eX9_wrong_15, hMo, m_oneN hI1.M hK hx]
  · rcases in_of y (n := 3) (by omega) with hy | ⟨i, hi, rfl⟩
    · refine ⟨mi 1, same ?_, fun g1 hI1 _ => same ?_⟩
      · simp -dsimp -implicitDefEqProofs (disch := omega) only [bnd_u, gd_t, if_true, if_false, ↓reduceIte, eq_self, true_or, or_true, false_or, or_false, not_true_eq_false, not_false_eq_true, and_true, true_and, and_false, false_and, reduceCtorEq, nI_ge, nI_le, nI_lt, nI_nlt, nI_ne, nI_te, nm_eq, mn_eq, nm_le, mn_le, nm_lt, mn_lt, pk_mul, nI_add, pk_sub, nI_clamp, eX8_wrong, eX8_wrong_18, hTop, hFam, f_one hI.F hI.G hk, c_thingN hy]
      · simp -dsimp -implicitDefEqProofs (disch := omega) only [bnd_u, gd_t, if_true, if_false, ↓reduceIte, eq_self, true_or, or_true, false_or, or_false, not_true_eq_false, not_false_eq_true, and_true, true_and, and_false, false_and, reduceCtorEq, nI_ge, nI_le, nI_lt, nI_nlt, nI_ne, nI_te, nm_eq, mn_eq, nm_le, mn_le, nm_lt, mn_lt, pk_mul, nI_add, pk_sub, nI_clamp, eX9_wrong, eX9_wrong_15, hMo, m_one hI1.M hK hk, m_thingN hy]
    · let fh : Nat := fa_first (fun h => wrg q K i h k) 10
      have hm31 : ∀ h, msk (wrg q K i h) K < 2 ^ 31 := fun h => msk_31 _ (by omega)
      have hbit : ∀ h, (msk (wrg q K i h) K).testBit k = wrg q K i h k := fun h => by
        rw [msk_bit, decide_eq_true hk, Bool.true_and]
      have first : ∀ h, h < 10 → (∀ j, j < h → wrg q K i j k = false) → wrg q K i h k = true → fh = h := fun h hh h1 h2 => by
        have a := fa_first_le (fun h => wrg q K i h k) 10
        rcases Nat.lt_trichotomy fh h with h3 | h3 | h3
        · have h4 := fa_first_yes (fun h => wrg q K i h k) 10 (show fh < 10 by omega)
          have h5 := h1 fh h3
          have h6 : wrg q K i fh k = true := h4
          rw [h5] at h6; cases h6
        · exact h3
        · have h4 := fa_first_no (fun h => wrg q K i h k) 10 h h3
          have h5 : wrg q K i h k = false := h4
          rw [h2] at h5; cases h5
      have none : (∀ j, j < 10 → wrg q K i j k = false) → ¬ fh < 10 := fun h1 h2 => by
        have h4 : wrg q K i fh k = true := fa_first_yes (fun h => wrg q K i h k) 10 h2
        rw [h1 fh h2] at h4; cases h4
      obtain ⟨g1, e1, f1, d1⟩ := d_live rc11 (by decide) hI.F hI.G hI.R
      have hF1 := hI.F.f f1 (by decide)
      refine ⟨if fh < 10 then nI fh else mi 4, some1 (g1 := g1) ?_ f1 (by decide), fun g1 hI1 _ => ?_⟩
      · have e2 : FX8_wrong 0 (nI k) (nI i) (mk g) = FX8_wrong_40 fu 0 (nI k) (nI i) (nI 0) (mk g1) := by
          simp -dsimp -implicitDefEqProofs (disch := omega) only [bnd_u, gd_t, if_true, if_false, ↓reduceIte, eq_self, true_or, or_true, false_or, or_false, not_true_eq_false, not_false_eq_true, and_true, true_and, and_false, false_and, reduceCtorEq, nI_ge, nI_le, nI_lt, nI_nlt, nI_ne, nI_te, nm_eq, mn_eq, nm_le, mn_le, nm_lt, mn_lt, pk_mul, nI_add, pk_sub, nI_clamp, eX8_wrong, hTop, hFam, hDay, f_one hI.F hI.G hk, c_thing hi, e1]
        rw [e2]
        refine lp_0 (σ := Unit) (fun n h _ => FX8_wrong_40 n 0 (nI k) (nI i) (nI h) (mk g1)) 10 (fun h _ => ∀ j, j < h → wrg q K i j k = false) (fun o => o = some (if fh < 10 then nI fh else mi 4, mk g1)) (s := ()) (fun j hj => absurd hj (by omega)) (by decide) ?_ ?_
        · intro n h _ hh h1
          have hw := d_wrong hF1 hI.G d1 hi hh
          have hb := nI_bt (a := msk (wrg q K i h) K) (i := k) (hm31 h) (by omega)
          rw [hbit] at hb
          cases e : wrg q K i h k <;> rw [e] at hb
          · refine Or.inr ⟨(), ?_, fun j hj => ?_⟩
            · simp -dsimp -implicitDefEqProofs (disch := omega) only [bnd_u, gd_t, if_true, if_false, ↓reduceIte, eq_self, true_or, or_true, false_or, or_false, not_true_eq_false, not_false_eq_true, and_true, true_and, and_false, false_and, reduceCtorEq, nI_ge, nI_le, nI_lt, nI_nlt, nI_ne, nI_te, nm_eq, mn_eq, nm_le, mn_le, nm_lt, mn_lt, pk_mul, nI_add, pk_sub, nI_clamp, eX8_wrong_40, hTop, hFam, hDay, hw, hb]
            · by_cases ej : j = h
              · rw [ej]; exact e
              · exact h1 j (by omega)
          · refine Or.inl ?_
            rw [first h hh h1 e, if_pos hh]
            simp -dsimp -implicitDefEqProofs (disch := omega) only [bnd_u, gd_t, if_true, if_false, ↓reduceIte, eq_self, true_or, or_true, false_or, or_false, not_true_eq_false, not_false_eq_true, and_true, true_and, and_false, false_and, reduceCtorEq, nI_ge, nI_le, nI_lt, nI_nlt, nI_ne, nI_te, nm_eq, mn_eq, nm_le, mn_le, nm_lt, mn_lt, pk_mul, nI_add, pk_sub, nI_clamp, eX8_wrong_40, hTop, hFam, hDay, hw, hb, Bool.true_eq_false]
        · intro n _ h1
          rw [if_neg (none h1)]
          simp -dsimp -implicitDefEqProofs (disch := omega) only [bnd_u, gd_t, if_true, if_false, ↓reduceIte, eq_self, true_or, or_true, false_or, or_false, not_true_eq_false, not_false_eq_true, and_true, true_and, and_false, false_and, reduceCtorEq, nI_ge, nI_le, nI_lt, nI_nlt, nI_ne, nI_te, nm_eq, mn_eq, nm_le, mn_le, nm_lt, mn_lt, pk_mul, nI_add, pk_sub, nI_clamp, eX8_wrong_40]
      · obtain ⟨g2, e2, f2, d2⟩ := h_go hI1.M hI.G hI1.kp
        refine some1 (g1 := g2) ?_ f2 (by decide)
        have hM2 := hI1.M.f f2 (by decide)
        have e3 : FX9_wrong 78 (nI k) (nI i) (mk g1) = FX9_wrong_23 fu 78 (nI k) (nI i) (nI 0) (mk g2) := by
          simp -dsimp -implicitDefEqProofs (disch := omega) only [bnd_u, gd_t, if_true, if_false, ↓reduceIte, eq_self, true_or, or_true, false_or, or_false, not_true_eq_false, not_false_eq_true, and_true, true_and, and_false, false_and, reduceCtorEq, nI_ge, nI_le, nI_lt, nI_nlt, nI_ne, nI_te, nm_eq, mn_eq, nm_le, mn_le, nm_lt, mn_lt, pk_mul, nI_add, pk_sub, nI_clamp, eX9_wrong, hMo, m_one hI1.M hK hk, m_thing hi, e2]
        rw [e3]
        refine lp_0 (σ := Unit) (fun n h _ => FX9_wrong_23 n 78 (nI k) (nI i) (nI h) (mk g2)) 10 (fun h _ => ∀ j, j < h → wrg q K i j k = false) (fun o => o = some (if fh < 10 then nI fh else mi 4, mk g2)) (s := ()) (fun j hj => absurd hj (by omega)) (by decide) ?_ ?_
        · intro n h _ hh h1
          have hw := h_right (w := 1) hM2 hI.G d2 hi hh (by omega)
          rw [if_neg (by decide)] at hw
          have hb := nI_bit (a := msk (wrg q K i h) K) (i := k) (hm31 h) (by omega)
          rw [hbit] at hb
          cases e : wrg q K i h k <;> rw [e] at hb
          · refine Or.inr ⟨(), ?_, fun j hj => ?_⟩
            · simp -dsimp -implicitDefEqProofs (disch := omega) only [bnd_u, gd_t, if_true, if_false, ↓reduceIte, eq_self, true_or, or_true, false_or, or_false, not_true_eq_false, not_false_eq_true, and_true, true_and, and_false, false_and, reduceCtorEq, nI_ge, nI_le, nI_lt, nI_nlt, nI_ne, nI_te, nm_eq, mn_eq, nm_le, mn_le, nm_lt, mn_lt, pk_mul, nI_add, pk_sub, nI_clamp, eX9_wrong_23, hMo, hw, hb, Bool.toNat_false]
            · by_cases ej : j = h
              · rw [ej]; exact e
              · exact h1 j (by omega)
          · refine Or.inl ?_
            rw [first h hh h1 e, if_pos hh]
            simp -dsimp -implicitDefEqProofs (disch := omega) only [bnd_u, gd_t, if_true, if_false, ↓reduceIte, eq_self, true_or, or_true, false_or, or_false, not_true_eq_false, not_false_eq_true, and_true, true_and, and_false, false_and, reduceCtorEq, nI_ge, nI_le, nI_lt, nI_nlt, nI_ne, nI_te, nm_eq, mn_eq, nm_le, mn_le, nm_lt, mn_lt, pk_mul, nI_add, pk_sub, nI_clamp, eX9_wrong_23, hMo, hw, hb, Bool.toNat_true]
        · intro n _ h1
          rw [if_neg (none h1)]
          simp -dsimp -implicitDefEqProofs (disch := omega) only [bnd_u, gd_t, if_true, if_false, ↓reduceIte, eq_self, true_or, or_true, false_or, or_false, not_true_eq_false, not_false_eq_true, and_true, true_and, and_false, false_and, reduceCtorEq, nI_ge, nI_le, nI_lt, nI_nlt, nI_ne, nI_te, nm_eq, mn_eq, nm_le, mn_le, nm_lt, mn_lt, pk_mul, nI_add, pk_sub, nI_clamp, eX9_wrong_23]
theorem j_bits {M : Hx} {m : Nat} (hm' : m < 1024) : FJ6_bitCount_0f7a4 (nI m) M = some (nI (fb_ct m.testBit 10), M) := by
  have h : ∀ m : Fin 1024, (FJ6_bitCount_0f7a4 (nI m.val) []).map (fun p => p.1) = some (nI (fb_ct m.val.testBit 10)) := by
    simp only [eJ6_bitCount_0f7a4]
    decide +kernel
  have h2 := h ⟨m, hm'⟩
  rw [eJ6_bitCount_0f7a4] at h2 ⊢
  simp only [Option.map_some, Option.some.injEq] at h2
  rw [h2]
theorem sim_mend (x : Int32) : Sim (FX8_mend 0 x) (FX9_mend 78 x) := by
  refine sim_ro (fun g q K hI => ?_)
  have hK := hI.G.K
  rcases in_of x (n := 3) (by omega) with hx | ⟨i, hi, rfl⟩
  · refine ⟨mi 1, same ?_, fun g1 hI1 _ => same ?_⟩
    · simp -dsimp -implicitDefEqProofs (disch := omega) only [bnd_u, gd_t, if_true, if_false, ↓reduceIte, eq_self, true_or, or_true, false_or, or_false, not_true_eq_false, not_false_eq_true, and_true, true_and, and_false, false_and, reduceCtorEq, nI_ge, nI_le, nI_lt, nI_nlt, nI_ne, nI_te, nm_eq, mn_eq, nm_le, mn_le, nm_lt, mn_lt, pk_mul, nI_add, pk_sub, nI_clamp, eX8_mend, c_thingN hx]
    · simp -dsimp -implicitDefEqProofs (disch := omega) only [bnd_u, gd_t, if_true, if_false, ↓reduceIte, eq_self, true_or, or_true, false_or, or_false, not_true_eq_false, not_false_eq_true, and_true, true_and, and_false, false_and, reduceCtorEq, nI_ge, nI_le, nI_lt, nI_nlt, nI_ne, nI_te, nm_eq, mn_eq, nm_le, mn_le, nm_lt, mn_lt, pk_mul, nI_add, pk_sub, nI_clamp, eX9_mend, m_thingN hx]
  · have hm := msk_lt (rgt q K i 9) K
    have h2K : 2 ^ K ≤ 32 := Nat.pow_le_pow_right (n := 2) (j := 5) (by decide) hK
    have hct : fb_ct (msk (rgt q K i 9) K).testBit 10 = fb_ct (rgt q K i 9) K := ct_msk _ (by omega)
    have hle := fb_ct_le (rgt q K i 9) K
    obtain ⟨g1, e1, f1, d1⟩ := d_live rc11 (by decide) hI.F hI.G hI.R
    have hF1 := hI.F.f f1 (by decide)
    have hr := d_right hF1 hI.G d1 hi (show 9 < 10 by omega)
    have hb := j_bits (M := mk g1) (m := msk (rgt q K i 9) K) (by omega)
    rw [hct] at hb
    refine ⟨if fb_ct (rgt q K i 9) K = 0 ∧ 0 < K then mi 4 else nI (K - fb_ct (rgt q K i 9) K), some1 (g1 := g1) ?_ f1 (by decide), fun g1 hI1 _ => ?_⟩
    · by_cases z : fb_ct (rgt q K i 9) K = 0
      · by_cases zK : K = 0
        · rw [if_neg (by omega)]
          simp -dsimp -implicitDefEqProofs (disch := omega) only [bnd_u, gd_t, if_true, if_false, ↓reduceIte, eq_self, true_or, or_true, false_or, or_false, not_true_eq_false, not_false_eq_true, and_true, true_and, and_false, false_and, reduceCtorEq, nI_ge, nI_le, nI_lt, nI_nlt, nI_ne, nI_te, nm_eq, mn_eq, nm_le, mn_le, nm_lt, mn_lt, pk_mul, nI_add, pk_sub, nI_clamp, eX8_mend, eX8_mend_67, eX8_mend_79, c_thing hi, hTop, hFam, hDay, e1, hr, hb, hF1.1]
        · rw [if_pos (by omega)]
          simp -dsimp -implicitDefEqProofs (disch := omega) only [bnd_u, gd_t, if_true, if_false, ↓reduceIte, eq_self, true_or, or_true, false_or, or_false, not_true_eq_false, not_false_eq_true, and_true, true_and, and_false, false_and, reduceCtorEq, nI_ge, nI_le, nI_lt, nI_nlt, nI_ne, nI_te, nm_eq, mn_eq, nm_le, mn_le, nm_lt, mn_lt, pk_mul, nI_add, pk_sub, nI_clamp, eX8_mend, eX8_mend_79, c_thing hi, hTop, hFam, hDay, e1, hr, hb, hF1.1]
      · rw [if_neg (fun h => z h.1)]
        simp -dsimp -implicitDefEqProofs (disch := omega) only [bnd_u, gd_t, if_true, if_false, ↓reduceIte, eq_self, true_or, or_true, false_or, or_false, not_true_eq_false, not_false_eq_true, and_true, true_and, and_false, false_and, reduceCtorEq, nI_ge, nI_le, nI_lt, nI_nlt, nI_ne, nI_te, nm_eq, mn_eq, nm_le, mn_le, nm_lt, mn_lt, pk_mul, nI_add, pk_sub, nI_clamp, eX8_mend, eX8_mend_67, eX8_mend_79, c_thing hi, hTop, hFam, hDay, e1, hr, hb, hF1.1]
    · obtain ⟨g2, e2, f2, d2⟩ := h_go hI1.M hI.G hI1.kp
      refine some1 (g1 := g2) ?_ f2 (by decide)
      have hM2 := hI1.M.f f2 (by decide)
      have hr := h_right (w := 0) hM2 hI.G d2 hi (show 9 < 10 by omega) (by omega)
      rw [if_pos rfl] at hr
      have hb := m_bits (M := mk g2) (m := msk (rgt q K i 9) K) (by omega)
      rw [hct] at hb
      by_cases z : fb_ct (rgt q K i 9) K = 0
      · by_cases zK : K = 0
        · rw [if_neg (by omega)]
          simp -dsimp -implicitDefEqProofs (disch := omega) only [bnd_u, gd_t, if_true, if_false, ↓reduceIte, eq_self, true_or, or_true, false_or, or_false, not_true_eq_false, not_false_eq_true, and_true, true_and, and_false, false_and, reduceCtorEq, nI_ge, nI_le, nI_lt, nI_nlt, nI_ne, nI_te, nm_eq, mn_eq, nm_le, mn_le, nm_lt, mn_lt, pk_mul, nI_add, pk_sub, nI_clamp, eX9_mend, eX9_mend_41, eX9_mend_47, m_thing hi, hMo, e2, hr, hb, hM2.1]
        · rw [if_pos (by omega)]
          simp -dsimp -implicitDefEqProofs (disch := omega) only [bnd_u, gd_t, if_true, if_false, ↓reduceIte, eq_self, true_or, or_true, false_or, or_false, not_true_eq_false, not_false_eq_true, and_true, true_and, and_false, false_and, reduceCtorEq, nI_ge, nI_le, nI_lt, nI_nlt, nI_ne, nI_te, nm_eq, mn_eq, nm_le, mn_le, nm_lt, mn_lt, pk_mul, nI_add, pk_sub, nI_clamp, eX9_mend, eX9_mend_47, m_thing hi, hMo, e2, hr, hb, hM2.1]
      · rw [if_neg (fun h => z h.1)]
        simp -dsimp -implicitDefEqProofs (disch := omega) only [bnd_u, gd_t, if_true, if_false, ↓reduceIte, eq_self, true_or, or_true, false_or, or_false, not_true_eq_false, not_false_eq_true, and_true, true_and, and_false, false_and, reduceCtorEq, nI_ge, nI_le, nI_lt, nI_nlt, nI_ne, nI_te, nm_eq, mn_eq, nm_le, mn_le, nm_lt, mn_lt, pk_mul, nI_add, pk_sub, nI_clamp, eX9_mend, eX9_mend_41, eX9_mend_47, m_thing hi, hMo, e2, hr, hb, hM2.1]
theorem hsub_lt (a b : Nat → Bool) : msk a 10 &&& (msk b 10 ^^^ (2 ^ 32 - 1)) < 1024 := Nat.lt_of_le_of_lt Nat.and_le_left (msk_lt a 10)
theorem sim_count (x : Int32) : Sim (FX8_count 0 x) (FX9_count 78 x) := by
  refine sim_ro (fun g q K hI => ?_)
  have hwn := hI.G.wn
  rcases in_of x (n := 6) (by omega) with hx | ⟨h, hh, rfl⟩
  · refine ⟨mi 1, same ?_, fun g1 hI1 _ => same ?_⟩
    · simp -dsimp -implicitDefEqProofs (disch := omega) only [bnd_u, gd_t, if_true, if_false, ↓reduceIte, eq_self, true_or, or_true, false_or, or_false, not_true_eq_false, not_false_eq_true, and_true, true_and, and_false, false_and, reduceCtorEq, nI_ge, nI_le, nI_lt, nI_nlt, nI_ne, nI_te, nm_eq, mn_eq, nm_le, mn_le, nm_lt, mn_lt, pk_mul, nI_add, pk_sub, nI_clamp, eX8_count, ne_out hx (show 0 < 6 by omega) (by omega), ne_out hx (show 1 < 6 by omega) (by omega), ne_out hx (show 2 < 6 by omega) (by omega), ne_out hx (show 3 < 6 by omega) (by omega), ne_out hx (show 4 < 6 by omega) (by omega), ne_out hx (show 5 < 6 by omega) (by omega)]
    · simp -dsimp -implicitDefEqProofs (disch := omega) only [bnd_u, gd_t, if_true, if_false, ↓reduceIte, eq_self, true_or, or_true, false_or, or_false, not_true_eq_false, not_false_eq_true, and_true, true_and, and_false, false_and, reduceCtorEq, nI_ge, nI_le, nI_lt, nI_nlt, nI_ne, nI_te, nm_eq, mn_eq, nm_le, mn_le, nm_lt, mn_lt, pk_mul, nI_add, pk_sub, nI_clamp, eX9_count, ne_out hx (show 0 < 6 by omega) (by omega), ne_out hx (show 1 < 6 by omega) (by omega), ne_out hx (show 2 < 6 by omega) (by omega), ne_out hx (show 3 < 6 by omega) (by omega), ne_out hx (show 4 < 6 by omega) (by omega), ne_out hx (show 5 < 6 by omega) (by omega)]
  · rcases (show h = 0 ∨ h = 1 ∨ h = 2 ∨ h = 3 ∨ h = 4 ∨ h = 5 by omega) with rfl | rfl | rfl | rfl | rfl | rfl
    · obtain ⟨n, z, hs⟩ := hI.sn
      refine ⟨nI n, same ?_, fun g1 hI1 hf => same ?_⟩
      · simp -dsimp -implicitDefEqProofs (disch := omega) only [bnd_u, gd_t, if_true, if_false, ↓reduceIte, eq_self, true_or, or_true, false_or, or_false, not_true_eq_false, not_false_eq_true, and_true, true_and, and_false, false_and, reduceCtorEq, nI_ge, nI_le, nI_lt, nI_nlt, nI_ne, nI_te, nm_eq, mn_eq, nm_le, mn_le, nm_lt, mn_lt, pk_mul, nI_add, pk_sub, nI_clamp, eX8_count, hTop, hTS, hs.2.1]
      · have e : g1 78 24 = nI n := by rw [hf 78 (by decide)]; exact hs.2.2.1
        simp -dsimp -implicitDefEqProofs (disch := omega) only [bnd_u, gd_t, if_true, if_false, ↓reduceIte, eq_self, true_or, or_true, false_or, or_false, not_true_eq_false, not_false_eq_true, and_true, true_and, and_false, false_and, reduceCtorEq, nI_ge, nI_le, nI_lt, nI_nlt, nI_ne, nI_te, nm_eq, mn_eq, nm_le, mn_le, nm_lt, mn_lt, pk_mul, nI_add, pk_sub, nI_clamp, eX9_count, hMo, e]
    · have i0 : (g 13 0 = nI 0 ∧ g 90 0 = nI 0) ∨ (g 13 0 = nI 1 ∧ g 90 0 = nI 1) := by
        rcases hI.im.1 with h | ⟨h1, h2, -⟩
        · exact Or.inl h
        · exact Or.inr ⟨h1, h2⟩
      have i1 : (g 13 1 = nI 0 ∧ g 90 1 = nI 0) ∨ (g 13 1 = nI 1 ∧ g 90 1 = nI 1) := by
        rcases hI.im.2 with h | ⟨h1, h2, -⟩
        · exact Or.inl h
        · exact Or.inr ⟨h1, h2⟩
      rcases i0 with ⟨a0, b0⟩ | ⟨a0, b0⟩ <;> rcases i1 with ⟨a1, b1⟩ | ⟨a1, b1⟩
      · refine ⟨nI 0, same ?_, fun g1 hI1 hf => same ?_⟩
        · simp -dsimp -implicitDefEqProofs (disch := omega) only [bnd_u, gd_t, if_true, if_false, ↓reduceIte, eq_self, true_or, or_true, false_or, or_false, not_true_eq_false, not_false_eq_true, and_true, true_and, and_false, false_and, reduceCtorEq, nI_ge, nI_le, nI_lt, nI_nlt, nI_ne, nI_te, nm_eq, mn_eq, nm_le, mn_le, nm_lt, mn_lt, pk_mul, nI_add, pk_sub, nI_clamp, eX8_count, eX8_count_62, eX8_count_76, hTop, a0, a1]
        · have c0 : g1 90 0 = nI 0 := by rw [hf 90 (by decide)]; exact b0
          have c1 : g1 90 1 = nI 0 := by rw [hf 90 (by decide)]; exact b1
          simp -dsimp -implicitDefEqProofs (disch := omega) only [bnd_u, gd_t, if_true, if_false, ↓reduceIte, eq_self, true_or, or_true, false_or, or_false, not_true_eq_false, not_false_eq_true, and_true, true_and, and_false, false_and, reduceCtorEq, nI_ge, nI_le, nI_lt, nI_nlt, nI_ne, nI_te, nm_eq, mn_eq, nm_le, mn_le, nm_lt, mn_lt, pk_mul, nI_add, pk_sub, nI_clamp, eX9_count, eX9_count_59, eX9_count_73, hMo, c0, c1]
      · refine ⟨nI 1, same ?_, fun g1 hI1 hf => same ?_⟩
        · simp -dsimp -implicitDefEqProofs (disch := omega) only [bnd_u, gd_t, if_true, if_false, ↓reduceIte, eq_self, true_or, or_true, false_or, or_false, not_true_eq_false, not_false_eq_true, and_true, true_and, and_false, false_and, reduceCtorEq, nI_ge, nI_le, nI_lt, nI_nlt, nI_ne, nI_te, nm_eq, mn_eq, nm_le, mn_le, nm_lt, mn_lt, pk_mul, nI_add, pk_sub, nI_clamp, eX8_count, eX8_count_62, eX8_count_76, hTop, a0, a1]
        · have c0 : g1 90 0 = nI 0 := by rw [hf 90 (by decide)]; exact b0
          have c1 : g1 90 1 = nI 1 := by rw [hf 90 (by decide)]; exact b1
          simp -dsimp -implicitDefEqProofs (disch := omega) only [bnd_u, gd_t, if_true, if_false, ↓reduceIte, eq_self, true_or, or_true, false_or, or_false, not_true_eq_false, not_false_eq_true, and_true, true_and, and_false, false_and, reduceCtorEq, nI_ge, nI_le, nI_lt, nI_nlt, nI_ne, nI_te, nm_eq, mn_eq, nm_le, mn_le, nm_lt, mn_lt, pk_mul, nI_add, pk_sub, nI_clamp, eX9_count, eX9_count_59, eX9_count_73, hMo, c0, c1]
      · refine ⟨nI 1, same ?_, fun g1 hI1 hf => same ?_⟩
        · simp -dsimp -implicitDefEqProofs (disch := omega) only [bnd_u, gd_t, if_true, if_false, ↓reduceIte, eq_self, true_or, or_true, false_or, or_false, not_true_eq_false, not_false_eq_true, and_true, true_and, and_false, false_and, reduceCtorEq, nI_ge, nI_le, nI_lt, nI_nlt, nI_ne, nI_te, nm_eq, mn_eq, nm_le, mn_le, nm_lt, mn_lt, pk_mul, nI_add, pk_sub, nI_clamp, eX8_count, eX8_count_62, eX8_count_76, hTop, a0, a1]
        · have c0 : g1 90 0 = nI 1 := by rw [hf 90 (by decide)]; exact b0
          have c1 : g1 90 1 = nI 0 := by rw [hf 90 (by decide)]; exact b1
          simp -dsimp -implicitDefEqProofs (disch := omega) only [bnd_u, gd_t, if_true, if_false, ↓reduceIte, eq_self, true_or, or_true, false_or, or_false, not_true_eq_false, not_false_eq_true, and_true, true_and, and_false, false_and, reduceCtorEq, nI_ge, nI_le, nI_lt, nI_nlt, nI_ne, nI_te, nm_eq, mn_eq, nm_le, mn_le, nm_lt, mn_lt, pk_mul, nI_add, pk_sub, nI_clamp, eX9_count, eX9_count_59, eX9_count_73, hMo, c0, c1]
      · refine ⟨nI 2, same ?_, fun g1 hI1 hf => same ?_⟩
        · simp -dsimp -implicitDefEqProofs (disch := omega) only [bnd_u, gd_t, if_true, if_false, ↓reduceIte, eq_self, true_or, or_true, false_or, or_false, not_true_eq_false, not_false_eq_true, and_true, true_and, and_false, false_and, reduceCtorEq, nI_ge, nI_le, nI_lt, nI_nlt, nI_ne, nI_te, nm_eq, mn_eq, nm_le, mn_le, nm_lt, mn_lt, pk_mul, nI_add, pk_sub, nI_clamp, eX8_count, eX8_count_62, eX8_count_76, hTop, a0, a1]
        · have c0 : g1 90 0 = nI 1 := by rw [hf 90 (by decide)]; exact b0
          have c1 : g1 90 1 = nI 1 := by rw [hf 90 (by decide)]; exact b1
          simp -dsimp -implicitDefEqProofs (disch := omega) only [bnd_u, gd_t, if_true, if_false, ↓reduceIte, eq_self, true_or, or_true, false_or, or_false, not_true_eq_false, not_false_eq_true, and_true, true_and, and_false, false_and, reduceCtorEq, nI_ge, nI_le, nI_lt, nI_nlt, nI_ne, nI_te, nm_eq, mn_eq, nm_le, mn_le, nm_lt, mn_lt, pk_mul, nI_add, pk_sub, nI_clamp, eX9_count, eX9_count_59, eX9_count_73, hMo, c0, c1]
    · obtain ⟨n, b, ht⟩ := hI.tp
      refine ⟨nI n, same ?_, fun g1 hI1 hf => same ?_⟩
      · simp -dsimp -implicitDefEqProofs (disch := omega) only [bnd_u, gd_t, if_true, if_false, ↓reduceIte, eq_self, true_or, or_true, false_or, or_false, not_true_eq_false, not_false_eq_true, and_true, true_and, and_false, false_and, reduceCtorEq, nI_ge, nI_le, nI_lt, nI_nlt, nI_ne, nI_te, nm_eq, mn_eq, nm_le, mn_le, nm_lt, mn_lt, pk_mul, nI_add, pk_sub, nI_clamp, eX8_count, hTop, hTS, ht.2.1]
      · have e : g1 78 10 = nI n := by rw [hf 78 (by decide)]; exact ht.2.2.1
        simp -dsimp -implicitDefEqProofs (disch := omega) only [bnd_u, gd_t, if_true, if_false, ↓reduceIte, eq_self, true_or, or_true, false_or, or_false, not_true_eq_false, not_false_eq_true, and_true, true_and, and_false, false_and, reduceCtorEq, nI_ge, nI_le, nI_lt, nI_nlt, nI_ne, nI_te, nm_eq, mn_eq, nm_le, mn_le, nm_lt, mn_lt, pk_mul, nI_add, pk_sub, nI_clamp, eX9_count, hMo, e]
    · rcases hI.sh.1 with ⟨a, b⟩ | ⟨l, n, hl, hn, a1, a2, a3, a4, -⟩
      · refine ⟨mi 4, same ?_, fun g1 hI1 hf => same ?_⟩
        · simp -dsimp -implicitDefEqProofs (disch := omega) only [bnd_u, gd_t, if_true, if_false, ↓reduceIte, eq_self, true_or, or_true, false_or, or_false, not_true_eq_false, not_false_eq_true, and_true, true_and, and_false, false_and, reduceCtorEq, nI_ge, nI_le, nI_lt, nI_nlt, nI_ne, nI_te, nm_eq, mn_eq, nm_le, mn_le, nm_lt, mn_lt, pk_mul, nI_add, pk_sub, nI_clamp, eX8_count, hTop, hPg, a]
        · have e : g1 91 0 = mi 4 := by rw [hf 91 (by decide)]; exact b
          simp -dsimp -implicitDefEqProofs (disch := omega) only [bnd_u, gd_t, if_true, if_false, ↓reduceIte, eq_self, true_or, or_true, false_or, or_false, not_true_eq_false, not_false_eq_true, and_true, true_and, and_false, false_and, reduceCtorEq, nI_ge, nI_le, nI_lt, nI_nlt, nI_ne, nI_te, nm_eq, mn_eq, nm_le, mn_le, nm_lt, mn_lt, pk_mul, nI_add, pk_sub, nI_clamp, eX9_count, eX9_count_102, hMo, e]
      · refine ⟨nI n, same ?_, fun g1 hI1 hf => same ?_⟩
        · simp -dsimp -implicitDefEqProofs (disch := omega) only [bnd_u, gd_t, if_true, if_false, ↓reduceIte, eq_self, true_or, or_true, false_or, or_false, not_true_eq_false, not_false_eq_true, and_true, true_and, and_false, false_and, reduceCtorEq, nI_ge, nI_le, nI_lt, nI_nlt, nI_ne, nI_te, nm_eq, mn_eq, nm_le, mn_le, nm_lt, mn_lt, pk_mul, nI_add, pk_sub, nI_clamp, eX8_count, hTop, hPg, a2]
        · have e : g1 91 0 = nI l := by rw [hf 91 (by decide)]; exact a3
          have e2 : g1 92 0 = nI n := by rw [hf 92 (by decide)]; exact a4
          simp -dsimp -implicitDefEqProofs (disch := omega) only [bnd_u, gd_t, if_true, if_false, ↓reduceIte, eq_self, true_or, or_true, false_or, or_false, not_true_eq_false, not_false_eq_true, and_true, true_and, and_false, false_and, reduceCtorEq, nI_ge, nI_le, nI_lt, nI_nlt, nI_ne, nI_te, nm_eq, mn_eq, nm_le, mn_le, nm_lt, mn_lt, pk_mul, nI_add, pk_sub, nI_clamp, eX9_count, eX9_count_102, hMo, e, e2]
    · refine ⟨nI (fb_sm (fun i => q (36 + 4 * i + 3)) (q 56)), same ?_, fun g1 hI1 hf => same ?_⟩
      · have h1 : FX1_allWorth 1 (mk g) = some (nI (fb_sm (fun i => q (36 + 4 * i + 3)) (q 56)), mk g) := by
          rw [eX1_allWorth]
          refine lp_0 (σ := Unit) (fun n i _ => FX1_allWorth_4 n 1 (nI (fb_sm (fun i => q (36 + 4 * i + 3)) i)) (nI i) (mk g)) (q 56) (fun _ _ => True) (fun o => o = some (nI (fb_sm (fun i => q (36 + 4 * i + 3)) (q 56)), mk g)) (s := ()) trivial (fu_l (by omega)) ?_ ?_
          · intro n i _ hi _
            refine Or.inr ⟨(), ?_, trivial⟩
            rw [fb_sm_succ]
            simp -dsimp -implicitDefEqProofs (disch := omega) only [bnd_u, gd_t, if_true, if_false, ↓reduceIte, eq_self, true_or, or_true, false_or, or_false, not_true_eq_false, not_false_eq_true, and_true, true_and, and_false, false_and, reduceCtorEq, nI_ge, nI_le, nI_lt, nI_nlt, nI_ne, nI_te, nm_eq, mn_eq, nm_le, mn_le, nm_lt, mn_lt, pk_mul, nI_add, pk_sub, nI_clamp, eX1_allWorth_4, hFam, hI.F.2.2.2.2.2.1, f_worth hI.F hI.G hi]
          · intro n _ _
            simp -dsimp -implicitDefEqProofs (disch := omega) only [bnd_u, gd_t, if_true, if_false, ↓reduceIte, eq_self, true_or, or_true, false_or, or_false, not_true_eq_false, not_false_eq_true, and_true, true_and, and_false, false_and, reduceCtorEq, nI_ge, nI_le, nI_lt, nI_nlt, nI_ne, nI_te, nm_eq, mn_eq, nm_le, mn_le, nm_lt, mn_lt, pk_mul, nI_add, pk_sub, nI_clamp, eX1_allWorth_4, hFam, hI.F.2.2.2.2.2.1]
        simp -dsimp -implicitDefEqProofs (disch := omega) only [bnd_u, gd_t, if_true, if_false, ↓reduceIte, eq_self, true_or, or_true, false_or, or_false, not_true_eq_false, not_false_eq_true, and_true, true_and, and_false, false_and, reduceCtorEq, nI_ge, nI_le, nI_lt, nI_nlt, nI_ne, nI_te, nm_eq, mn_eq, nm_le, mn_le, nm_lt, mn_lt, pk_mul, nI_add, pk_sub, nI_clamp, eX8_count, hTop, hFam, h1]
      · have h1 := m_worth (m := 31) hI1.M hI.G (by omega)
        have h2 : wr q 31 = fb_sm (fun i => q (36 + 4 * i + 3)) (q 56) := by
          unfold wr
          apply fb_sm_cong
          intro i hi
          have : (31 : Nat).testBit i = true := by
            have : ∀ i : Fin 5, (31 : Nat).testBit i.val = true := by decide
            exact this ⟨i, by omega⟩
          rw [this]; rfl
        rw [h2] at h1
        simp -dsimp -implicitDefEqProofs (disch := omega) only [bnd_u, gd_t, if_true, if_false, ↓reduceIte, eq_self, true_or, or_true, false_or, or_false, not_true_eq_false, not_false_eq_true, and_true, true_and, and_false, false_and, reduceCtorEq, nI_ge, nI_le, nI_lt, nI_nlt, nI_ne, nI_te, nm_eq, mn_eq, nm_le, mn_le, nm_lt, mn_lt, pk_mul, nI_add, pk_sub, nI_clamp, eX9_count, hMo, h1]
    · obtain ⟨g1, e1, f1, l1⟩ := s_look rc11 (by decide) hI.F hI.G hI.R
      have hlt := hsub_lt (held q) (dsee q)
      refine ⟨nI (fb_ct (msk (held q) 10 &&& (msk (dsee q) 10 ^^^ (2 ^ 32 - 1))).testBit 10), some1 (g1 := g1) ?_ f1 (by decide), fun g1 hI1 _ => same ?_⟩
      · have h1 := f_held (g := g1) hI.G (hI.R.f f1 (by decide))
        simp -dsimp -implicitDefEqProofs (disch := omega) only [bnd_u, gd_t, if_true, if_false, ↓reduceIte, eq_self, true_or, or_true, false_or, or_false, not_true_eq_false, not_false_eq_true, and_true, true_and, and_false, false_and, reduceCtorEq, nI_ge, nI_le, nI_lt, nI_nlt, nI_ne, nI_te, nm_eq, mn_eq, nm_le, mn_le, nm_lt, mn_lt, pk_mul, nI_add, pk_sub, nI_clamp, eX8_count, hTop, hFam, hSee, e1, h1, s_seen hI.G l1, nI_not, j_bits hlt]
      · simp -dsimp -implicitDefEqProofs (disch := omega) only [bnd_u, gd_t, if_true, if_false, ↓reduceIte, eq_self, true_or, or_true, false_or, or_false, not_true_eq_false, not_false_eq_true, and_true, true_and, and_false, false_and, reduceCtorEq, nI_ge, nI_le, nI_lt, nI_nlt, nI_ne, nI_te, nm_eq, mn_eq, nm_le, mn_le, nm_lt, mn_lt, pk_mul, nI_add, pk_sub, nI_clamp, eX9_count, hMo, m_held hI1.M hI.G, m_seeing hI1.M hI.G, nI_not, m_bits (Nat.lt_trans hlt (show 1024 < 2 ^ 31 by decide))]
theorem sim_best (x : Int32) : Sim (FX8_best 0 x) (FX9_best 78 x) := by
  intro g q K hI
  obtain ⟨g1, e1, f1, p1⟩ := c_plan hI.F hI.G hI.pn
  obtain ⟨n, z, hsn⟩ := hI.sn
  obtain ⟨m, b, htp⟩ := hI.tp
  have hI1 : Iv g1 q K := ⟨hI.G, hI.F.f f1 (by decide), hI.R.f f1 (by decide), hI.M.f f1 (by decide), hI.kp.f f1 (by decide), hI.im.f f1 (by decide), ⟨n, z, hsn.f f1 (by decide)⟩, ⟨m, b, htp.f f1 (by decide)⟩, hI.ft.f f1 (by decide), hI.sh.f f1 (by decide), Or.inr ⟨q, K, p1⟩, hI.cs.f f1 (by decide)⟩
  by_cases h0 : x = nI 0
  · subst h0
    obtain ⟨g2, e2, f2⟩ := m_best0 hI1.M hI.G
    refine ⟨nI (bst q K), g1, g2, q, K, ?_, e2, hI1.f f2 (by decide)⟩
    simp -dsimp -implicitDefEqProofs (disch := omega) only [bnd_u, gd_t, if_true, if_false, ↓reduceIte, eq_self, true_or, or_true, false_or, or_false, not_true_eq_false, not_false_eq_true, and_true, true_and, and_false, false_and, reduceCtorEq, nI_ge, nI_le, nI_lt, nI_nlt, nI_ne, nI_te, nm_eq, mn_eq, nm_le, mn_le, nm_lt, mn_lt, pk_mul, nI_add, pk_sub, nI_clamp, eX8_best, eX8_best_18, eX8_best_55, hTop, hPl, e1, p1.2.2.2.1]
  · by_cases hx : x < nI 10 ∨ nI 20 ≤ x
    · refine ⟨mi 1, g, g, q, K, ?_, m_bestN h0 hx, hI⟩
      by_cases h1 : x < nI 10
      · simp -dsimp -implicitDefEqProofs (disch := omega) only [bnd_u, gd_t, if_true, if_false, ↓reduceIte, eq_self, true_or, or_true, false_or, or_false, not_true_eq_false, not_false_eq_true, and_true, true_and, and_false, false_and, reduceCtorEq, nI_ge, nI_le, nI_lt, nI_nlt, nI_ne, nI_te, nm_eq, mn_eq, nm_le, mn_le, nm_lt, mn_lt, pk_mul, nI_add, pk_sub, nI_clamp, eX8_best, eX8_best_16, h0, h1]
      · have h2 : ¬ x < nI 20 := by
          rcases hx with h | h
          · exact absurd h h1
          · exact fun h3 => (fa_of_lt h3).2.1 h
        simp -dsimp -implicitDefEqProofs (disch := omega) only [bnd_u, gd_t, if_true, if_false, ↓reduceIte, eq_self, true_or, or_true, false_or, or_false, not_true_eq_false, not_false_eq_true, and_true, true_and, and_false, false_and, reduceCtorEq, nI_ge, nI_le, nI_lt, nI_nlt, nI_ne, nI_te, nm_eq, mn_eq, nm_le, mn_le, nm_lt, mn_lt, pk_mul, nI_add, pk_sub, nI_clamp, eX8_best, eX8_best_16, h0, h1, h2]
    · obtain ⟨h, hh, rfl⟩ : ∃ h, h < 10 ∧ x = nI (10 + h) := by
        rcases in_of x (n := 20) (by omega) with h | ⟨j, hj, rfl⟩
        · rcases h with h | ⟨-, h⟩
          · exact absurd (Or.inl (fa_trans h (nI_le (show 0 ≤ 10 by omega) (by omega)))) hx
          · exact absurd (Or.inr h) hx
        · by_cases h10 : j < 10
          · exact absurd (Or.inl (nI_lt h10 (by omega))) hx
          · exact ⟨j - 10, by omega, by rw [show 10 + (j - 10) = j by omega]⟩
      obtain ⟨g2, e2, f2⟩ := m_bestH hI1.M hI.G hh
      refine ⟨ho (bpl q K h), g1, g2, q, K, ?_, e2, hI1.f f2 (by decide)⟩
      have e10 : 10 + h - 10 = h := by omega
      simp -dsimp -implicitDefEqProofs (disch := omega) only [bnd_u, gd_t, if_true, if_false, ↓reduceIte, eq_self, true_or, or_true, false_or, or_false, not_true_eq_false, not_false_eq_true, and_true, true_and, and_false, false_and, reduceCtorEq, nI_ge, nI_le, nI_lt, nI_nlt, nI_ne, nI_te, nm_eq, mn_eq, nm_le, mn_le, nm_lt, mn_lt, pk_mul, nI_add, pk_sub, nI_clamp, eX8_best, eX8_best_18, eX8_best_55, hTop, hPl, e1, e10, p1.2.2.2.2 h hh]
theorem shm_le (v c : Nat) : shm v c ≤ 100000 := Nat.sub_le _ _
theorem sim_luck (x y w : Int32) : Sim (FX8_luck 0 x y w) (FX9_luck 78 x y w) := by
  refine sim_ro (fun g q K hI => ?_)
  have hwn := hI.G.wn
  rcases in_of x (n := 11) (by omega) with hx | ⟨v, hv, rfl⟩
  · refine ⟨lm 1, same ?_, fun g1 hI1 _ => same ?_⟩
    · rcases hx with h | ⟨h, h2⟩
      · simp -dsimp -implicitDefEqProofs (disch := omega) only [bnd_u, gd_t, if_true, if_false, ↓reduceIte, eq_self, true_or, or_true, false_or, or_false, not_true_eq_false, not_false_eq_true, and_true, true_and, and_false, false_and, reduceCtorEq, nI_ge, nI_le, nI_lt, nI_nlt, nI_ne, nI_te, nm_eq, mn_eq, nm_le, mn_le, nm_lt, mn_lt, pk_mul, nI_add, pk_sub, nI_clamp, eX8_luck, eX8_luck_31, h]
      · simp -dsimp -implicitDefEqProofs (disch := omega) only [bnd_u, gd_t, if_true, if_false, ↓reduceIte, eq_self, true_or, or_true, false_or, or_false, not_true_eq_false, not_false_eq_true, and_true, true_and, and_false, false_and, reduceCtorEq, nI_ge, nI_le, nI_lt, nI_nlt, nI_ne, nI_te, nm_eq, mn_eq, nm_le, mn_le, nm_lt, mn_lt, pk_mul, nI_add, pk_sub, nI_clamp, eX8_luck, eX8_luck_31, h, lt_of_le10 h2 (show 10 < 11 by omega) (by omega)]
    · have hin := m_0nN (M := mk g1) (n := 11) (by omega) (by omega) hx
      simp -dsimp -implicitDefEqProofs (disch := omega) only [bnd_u, gd_t, if_true, if_false, ↓reduceIte, eq_self, true_or, or_true, false_or, or_false, not_true_eq_false, not_false_eq_true, and_true, true_and, and_false, false_and, reduceCtorEq, nI_ge, nI_le, nI_lt, nI_nlt, nI_ne, nI_te, nm_eq, mn_eq, nm_le, mn_le, nm_lt, mn_lt, pk_mul, nI_add, pk_sub, nI_clamp, eX9_luck, eX9_luck_51, eX9_luck_54, hin]
  · rcases in_of y (n := q 56) (by omega) with hy | ⟨i, hi, rfl⟩
    · refine ⟨lm 1, same ?_, fun g1 hI1 _ => same ?_⟩
      · simp -dsimp -implicitDefEqProofs (disch := omega) only [bnd_u, gd_t, if_true, if_false, ↓reduceIte, eq_self, true_or, or_true, false_or, or_false, not_true_eq_false, not_false_eq_true, and_true, true_and, and_false, false_and, reduceCtorEq, nI_ge, nI_le, nI_lt, nI_nlt, nI_ne, nI_te, nm_eq, mn_eq, nm_le, mn_le, nm_lt, mn_lt, pk_mul, nI_add, pk_sub, nI_clamp, eX8_luck, eX8_luck_31, hTop, hFam, R_hasN rw6 hI.F.2.2.2.2.2.1 hy]
      · have hin := m_0n (M := mk g1) hv (by omega)
        simp -dsimp -implicitDefEqProofs (disch := omega) only [bnd_u, gd_t, if_true, if_false, ↓reduceIte, eq_self, true_or, or_true, false_or, or_false, not_true_eq_false, not_false_eq_true, and_true, true_and, and_false, false_and, reduceCtorEq, nI_ge, nI_le, nI_lt, nI_nlt, nI_ne, nI_te, nm_eq, mn_eq, nm_le, mn_le, nm_lt, mn_lt, pk_mul, nI_add, pk_sub, nI_clamp, eX9_luck, eX9_luck_51, eX9_luck_54, hin, hMo, hI1.M.a, m_inN (M := mk g1) (show q 56 < 2 ^ 31 by omega) (hy_n1 (show q 56 < 2 ^ 30 by omega)) hy]
    · rcases in_of w (n := 2) (by omega) with hw | ⟨b, hb, rfl⟩
      · refine ⟨lm 1, same ?_, fun g1 hI1 _ => same ?_⟩
        · simp -dsimp -implicitDefEqProofs (disch := omega) only [bnd_u, gd_t, if_true, if_false, ↓reduceIte, eq_self, true_or, or_true, false_or, or_false, not_true_eq_false, not_false_eq_true, and_true, true_and, and_false, false_and, reduceCtorEq, nI_ge, nI_le, nI_lt, nI_nlt, nI_ne, nI_te, nm_eq, mn_eq, nm_le, mn_le, nm_lt, mn_lt, pk_mul, nI_add, pk_sub, nI_clamp, eX8_luck, eX8_luck_31, hTop, hFam, R_has rw6 hI.F.2.2.2.2.2.1 hwn hi, c_flagN hw]
        · have hin := m_0n (M := mk g1) hv (by omega)
          have hin2 := m_0nN (M := mk g1) (n := 2) (by omega) (by omega) hw
          simp -dsimp -implicitDefEqProofs (disch := omega) only [bnd_u, gd_t, if_true, if_false, ↓reduceIte, eq_self, true_or, or_true, false_or, or_false, not_true_eq_false, not_false_eq_true, and_true, true_and, and_false, false_and, reduceCtorEq, nI_ge, nI_le, nI_lt, nI_nlt, nI_ne, nI_te, nm_eq, mn_eq, nm_le, mn_le, nm_lt, mn_lt, pk_mul, nI_add, pk_sub, nI_clamp, eX9_luck, eX9_luck_51, eX9_luck_54, hin, hMo, hI1.M.a, nI_s1, nI_l, m_in, hin2]
      · obtain ⟨g1, e1, f1, l1⟩ := s_look rc11 (by decide) hI.F hI.G hI.R
        have hF1 := hI.F.f f1 (by decide)
        have hch := c_chances hF1 hI.G l1 hi
        have hc5 := ch_5 q i
        have hsh := c_share (M := mk g1) (show v ≤ 10 by omega) hc5
        have hs5 := shm_le v (ch q i 10).1
        have hpt := c_part (M := mk g1) (a := shm v (ch q i 10).1) (w := b) (by omega) hb
        have hlow := low_eq (A := upi q v i) (D := 10 ^ fb_ct (hov q) 10) (B := shm v (ch q i 10).1) (E := 100000) (Nat.pow_pos (by decide)) (by decide) (upi_e (show v ≤ 10 by omega))
        refine ⟨lN ((if b = 0 then shm v (ch q i 10).1 else 100000) / Nat.gcd (shm v (ch q i 10).1) 100000), some1 (g1 := g1) ?_ f1 (by decide), fun g1 hI1 _ => same ?_⟩
        · simp -dsimp -implicitDefEqProofs (disch := omega) only [bnd_u, gd_t, if_true, if_false, ↓reduceIte, eq_self, true_or, or_true, false_or, or_false, not_true_eq_false, not_false_eq_true, and_true, true_and, and_false, false_and, reduceCtorEq, nI_ge, nI_le, nI_lt, nI_nlt, nI_ne, nI_te, nm_eq, mn_eq, nm_le, mn_le, nm_lt, mn_lt, pk_mul, nI_add, pk_sub, nI_clamp, eX8_luck, hTop, hFam, hSee, R_has rw6 hI.F.2.2.2.2.2.1 hwn hi, c_flag hb, e1, hch, hsh, hpt]
        · have hin := m_0n (M := mk g1) hv (by omega)
          have hin2 := m_0n (M := mk g1) hb (by omega)
          have hmm := m_luck hI1.M hI.G (show v ≤ 10 by omega) hi hb
          have e : (if b = 0 then upi q v i else 10 ^ fb_ct (hov q) 10) / Nat.gcd (upi q v i) (10 ^ fb_ct (hov q) 10) = (if b = 0 then shm v (ch q i 10).1 else 100000) / Nat.gcd (shm v (ch q i 10).1) 100000 := by
            split
            · exact hlow.1
            · exact hlow.2
          rw [e] at hmm
          simp -dsimp -implicitDefEqProofs (disch := omega) only [bnd_u, gd_t, if_true, if_false, ↓reduceIte, eq_self, true_or, or_true, false_or, or_false, not_true_eq_false, not_false_eq_true, and_true, true_and, and_false, false_and, reduceCtorEq, nI_ge, nI_le, nI_lt, nI_nlt, nI_ne, nI_te, nm_eq, mn_eq, nm_le, mn_le, nm_lt, mn_lt, pk_mul, nI_add, pk_sub, nI_clamp, eX9_luck, eX9_luck_54, hin, hMo, hI1.M.a, nI_s1, nI_l, m_in, hin2, hmm]
theorem sim_mean (x w : Int32) : Sim (FX8_mean 0 x w) (FX9_mean 78 x w) := by
  refine sim_ro (fun g q K hI => ?_)
  have hwn := hI.G.wn
  rcases in_of x (n := 11) (by omega) with hx | ⟨v, hv, rfl⟩
  · refine ⟨lm 1, same ?_, fun g1 hI1 _ => same ?_⟩
    · rcases hx with h | ⟨h, h2⟩
      · simp -dsimp -implicitDefEqProofs (disch := omega) only [bnd_u, gd_t, if_true, if_false, ↓reduceIte, eq_self, true_or, or_true, false_or, or_false, not_true_eq_false, not_false_eq_true, and_true, true_and, and_false, false_and, reduceCtorEq, nI_ge, nI_le, nI_lt, nI_nlt, nI_ne, nI_te, nm_eq, mn_eq, nm_le, mn_le, nm_lt, mn_lt, pk_mul, nI_add, pk_sub, nI_clamp, eX8_mean, eX8_mean_17, h]
      · simp -dsimp -implicitDefEqProofs (disch := omega) only [bnd_u, gd_t, if_true, if_false, ↓reduceIte, eq_self, true_or, or_true, false_or, or_false, not_true_eq_false, not_false_eq_true, and_true, true_and, and_false, false_and, reduceCtorEq, nI_ge, nI_le, nI_lt, nI_nlt, nI_ne, nI_te, nm_eq, mn_eq, nm_le, mn_le, nm_lt, mn_lt, pk_mul, nI_add, pk_sub, nI_clamp, eX8_mean, eX8_mean_17, h, lt_of_le10 h2 (show 10 < 11 by omega) (by omega)]
    · have hin := m_0nN (M := mk g1) (n := 11) (by omega) (by omega) hx
      simp -dsimp -implicitDefEqProofs (disch := omega) only [bnd_u, gd_t, if_true, if_false, ↓reduceIte, eq_self, true_or, or_true, false_or, or_false, not_true_eq_false, not_false_eq_true, and_true, true_and, and_false, false_and, reduceCtorEq, nI_ge, nI_le, nI_lt, nI_nlt, nI_ne, nI_te, nm_eq, mn_eq, nm_le, mn_le, nm_lt, mn_lt, pk_mul, nI_add, pk_sub, nI_clamp, eX9_mean, eX9_mean_33, eX9_mean_36, hin]
  · rcases in_of w (n := 2) (by omega) with hw | ⟨b, hb, rfl⟩
    · refine ⟨lm 1, same ?_, fun g1 hI1 _ => same ?_⟩
      · simp -dsimp -implicitDefEqProofs (disch := omega) only [bnd_u, gd_t, if_true, if_false, ↓reduceIte, eq_self, true_or, or_true, false_or, or_false, not_true_eq_false, not_false_eq_true, and_true, true_and, and_false, false_and, reduceCtorEq, nI_ge, nI_le, nI_lt, nI_nlt, nI_ne, nI_te, nm_eq, mn_eq, nm_le, mn_le, nm_lt, mn_lt, pk_mul, nI_add, pk_sub, nI_clamp, eX8_mean, eX8_mean_17, c_flagN hw]
      · have hin := m_0n (M := mk g1) hv (by omega)
        have hin2 := m_0nN (M := mk g1) (n := 2) (by omega) (by omega) hw
        simp -dsimp -implicitDefEqProofs (disch := omega) only [bnd_u, gd_t, if_true, if_false, ↓reduceIte, eq_self, true_or, or_true, false_or, or_false, not_true_eq_false, not_false_eq_true, and_true, true_and, and_false, false_and, reduceCtorEq, nI_ge, nI_le, nI_lt, nI_nlt, nI_ne, nI_te, nm_eq, mn_eq, nm_le, mn_le, nm_lt, mn_lt, pk_mul, nI_add, pk_sub, nI_clamp, eX9_mean, eX9_mean_33, eX9_mean_36, hin, hin2]
    · obtain ⟨g1, e1, f1, l1⟩ := s_look rc11 (by decide) hI.F hI.G hI.R
      have hF1 := hI.F.f f1 (by decide)
      let B : Nat := fb_sm (fun i => q (36 + 4 * i + 3) * shm v (ch q i 10).1) (q 56)
      have hBn : B ≤ q 56 * 900000 := fb_sm_bound (fun i hi => by
        have h1 := hI.G.w hi
        have h2 := shm_le v (ch q i 10).1
        exact Nat.mul_le_mul (show q (36 + 4 * i + 3) ≤ 9 by omega) h2)
      have hpt := c_part (M := mk g1) (a := B) (w := b) (by omega) hb
      have hAB : fb_sm (fun i => q (36 + 4 * i + 3) * upi q v i) (q 56) * 100000 = B * 10 ^ fb_ct (hov q) 10 := by
        rw [Nat.mul_comm _ 100000, Nat.mul_comm B, ← fb_sm_mul, ← fb_sm_mul]
        apply fb_sm_cong
        intro i hi
        have h := upi_e (q := q) (i := i) (show v ≤ 10 by omega)
        rw [Nat.mul_left_comm, Nat.mul_comm 100000, h, Nat.mul_left_comm, Nat.mul_comm (shm v (ch q i 10).1)]
        rw [Nat.mul_left_comm]
        exact Nat.mul_assoc _ _ _
      have hlow := low_eq (Nat.pow_pos (by decide)) (by decide) hAB
      refine ⟨lN ((if b = 0 then B else 100000) / Nat.gcd B 100000), some1 (g1 := g1) ?_ f1 (by decide), fun g1 hI1 _ => same ?_⟩
      · have e2 : FX8_mean 0 (nI v) (nI b) (mk g) = FX8_mean_44 fu 0 (nI v) (nI b) (lN 0) (nI 0) (mk g1) := by
          simp -dsimp -implicitDefEqProofs (disch := omega) only [bnd_u, gd_t, if_true, if_false, ↓reduceIte, eq_self, true_or, or_true, false_or, or_false, not_true_eq_false, not_false_eq_true, and_true, true_and, and_false, false_and, reduceCtorEq, nI_ge, nI_le, nI_lt, nI_nlt, nI_ne, nI_te, nm_eq, mn_eq, nm_le, mn_le, nm_lt, mn_lt, pk_mul, nI_add, pk_sub, nI_clamp, eX8_mean, c_flag hb, hTop, hFam, hSee, e1]
        rw [e2]
        refine lp_0 (σ := Unit) (fun n i _ => FX8_mean_44 n 0 (nI v) (nI b) (lN (fb_sm (fun i => q (36 + 4 * i + 3) * shm v (ch q i 10).1) i)) (nI i) (mk g1)) (q 56) (fun _ _ => True) (fun o => o = some (lN ((if b = 0 then B else 100000) / Nat.gcd B 100000), mk g1)) (s := ()) trivial (fu_l (by omega)) ?_ ?_
        · intro n i _ hi _
          refine Or.inr ⟨(), ?_, trivial⟩
          have hw9 := hI.G.w hi
          have hch := c_chances hF1 hI.G l1 hi
          have hsh := c_share (M := mk g1) (show v ≤ 10 by omega) (ch_5 q i)
          rw [fb_sm_succ]
          simp -dsimp -implicitDefEqProofs (disch := omega) only [bnd_u, gd_t, if_true, if_false, ↓reduceIte, eq_self, true_or, or_true, false_or, or_false, not_true_eq_false, not_false_eq_true, and_true, true_and, and_false, false_and, reduceCtorEq, nI_ge, nI_le, nI_lt, nI_nlt, nI_ne, nI_te, nm_eq, mn_eq, nm_le, mn_le, nm_lt, mn_lt, pk_mul, nI_add, pk_sub, nI_clamp, eX8_mean_44, hTop, hFam, hSee, hF1.2.2.2.2.2.1, f_worth hF1 hI.G hi, hch, hsh, nI_l, lN_mul, lN_add]
        · intro n _ _
          have hpt' : FX2_part (lN (fb_sm (fun i => q (36 + 4 * i + 3) * shm v (ch q i 10).1) (q 56))) (nI b) (mk g1) = some (lN ((if b = 0 then B else 100000) / Nat.gcd B 100000), mk g1) := hpt
          simp -dsimp -implicitDefEqProofs (disch := omega) only [bnd_u, gd_t, if_true, if_false, ↓reduceIte, eq_self, true_or, or_true, false_or, or_false, not_true_eq_false, not_false_eq_true, and_true, true_and, and_false, false_and, reduceCtorEq, nI_ge, nI_le, nI_lt, nI_nlt, nI_ne, nI_te, nm_eq, mn_eq, nm_le, mn_le, nm_lt, mn_lt, pk_mul, nI_add, pk_sub, nI_clamp, eX8_mean_44, hTop, hFam, hF1.2.2.2.2.2.1, hpt']
      · have hin := m_0n (M := mk g1) hv (by omega)
        have hin2 := m_0n (M := mk g1) hb (by omega)
        have hmm := m_mean hI1.M hI.G (show v ≤ 10 by omega) hb
        have e : (if b = 0 then fb_sm (fun i => q (36 + 4 * i + 3) * upi q v i) (q 56) else 10 ^ fb_ct (hov q) 10) / Nat.gcd (fb_sm (fun i => q (36 + 4 * i + 3) * upi q v i) (q 56)) (10 ^ fb_ct (hov q) 10) = (if b = 0 then B else 100000) / Nat.gcd B 100000 := by
          split
          · exact hlow.1
          · exact hlow.2
        rw [e] at hmm
        simp -dsimp -implicitDefEqProofs (disch := omega) only [bnd_u, gd_t, if_true, if_false, ↓reduceIte, eq_self, true_or, or_true, false_or, or_false, not_true_eq_false, not_false_eq_true, and_true, true_and, and_false, false_and, reduceCtorEq, nI_ge, nI_le, nI_lt, nI_nlt, nI_ne, nI_te, nm_eq, mn_eq, nm_le, mn_le, nm_lt, mn_lt, pk_mul, nI_add, pk_sub, nI_clamp, eX9_mean, eX9_mean_36, hin, hMo, hin2, hmm]
