/-! may -/
theorem ho_inj {a b : Nat} (ha : a ≤ 10) (hb : b ≤ 10) : (ho a = ho b) = (a = b) := by
  by_cases z : b = 0
  · subst z
    by_cases y : a = 0
    · subst y; exact propext ⟨fun _ => rfl, fun _ => rfl⟩
    · rw [show ho 0 = mi 4 from rfl, ho_ne4 (by omega) ha]
      exact propext ⟨fun h => absurd h id, fun h => absurd h y⟩
  · obtain ⟨c, rfl⟩ : ∃ c, b = c + 1 := ⟨b - 1, by omega⟩
    rw [ho_p, ho_eqk ha (by omega)]
def cod (s : Nat) : Nat := if s = 5 then 0 else s + 1
def okk (K s : Nat) : Prop := s = 5 ∨ s < K
def pq (q : Nat → Nat) (h s : Nat) : Nat → Nat := pt q (26 + h) (cod s)
def asb (q : Nat → Nat) (K : Nat) (z : Nat → Nat) (n : Nat) : Bool := !(anyb (fun j => !decide ((day q K (z (4 * j + 2) + 1)).1 (3 * z (4 * j) + z (4 * j + 1)) = z (4 * j + 3))) n)
def mhb (q : Nat → Nat) (K h : Nat) (z : Nat → Nat) (n : Nat) : Nat → Bool := fun s => (decide (s = 5) || decide (s < K)) && asb (pq q h s) K z n
def Ans (c : Nat → Int32) (q : Nat → Nat) (K h N : Nat) : Prop := ∀ s, s < N → okk K s → ∀ j, j < 15 → c (15 * s + j) = ho ((day (pq q h s) K 10).1 j)
theorem asb_s {q : Nat → Nat} {K : Nat} {z : Nat → Nat} {n : Nat} : asb q K z (n + 1) = (asb q K z n && decide ((day q K (z (4 * n + 2) + 1)).1 (3 * z (4 * n) + z (4 * n + 1)) = z (4 * n + 3))) := by
  unfold asb
  rw [anyb, Bool.not_or, Bool.not_not]
theorem asb_f {q : Nat → Nat} {K : Nat} {z : Nat → Nat} {n k : Nat} (hk : k < n) (h : ¬ (day q K (z (4 * k + 2) + 1)).1 (3 * z (4 * k) + z (4 * k + 1)) = z (4 * k + 3)) : asb q K z n = false := by
  unfold asb
  rw [anyb_i.mpr ⟨k, hk, by rw [decide_eq_false h]; rfl⟩]; rfl
theorem pq_G {q : Nat → Nat} {K h s : Nat} (hG : Gd q K) (hh : h < 10) (hs : okk K s) : Gd (pq q h s) K := by
  refine Gd_ro hG hh ?_
  unfold cod
  rcases hs with rfl | hs
  · rw [if_pos rfl]; exact Nat.zero_le _
  · have := hG.K
    split <;> omega
theorem mhb_f {q : Nat → Nat} {K h : Nat} {z : Nat → Nat} {n s : Nat} (h1 : K ≤ s) (h2 : s < 5) : mhb q K h z n s = false := by
  unfold mhb
  rw [decide_eq_false (show ¬ s = 5 by omega), decide_eq_false (show ¬ s < K by omega)]; rfl
theorem mhb_t {q : Nat → Nat} {K h : Nat} {z : Nat → Nat} {n s : Nat} (h1 : okk K s) : mhb q K h z n s = asb (pq q h s) K z n := by
  unfold mhb
  rcases h1 with h1 | h1
  · rw [decide_eq_true h1]; rfl
  · rw [decide_eq_true h1, Bool.or_true]; rfl
/-- the class's look at what is seen -/
theorem c_as {g : Gg} {q : Nat → Nat} {K n : Nat} {z : Nat → Nat} (hG : Gd q K) (hD : Dy g q K) (hS : Sn g K n z) : FX0_isAsSeen 35 14 (mk g) = some (nI (asb q K z n).toNat, mk g) := by
  have hK := hG.K
  have hn := hS.1
  rw [eX0_isAsSeen]
  refine lp_0 (σ := Unit) (fun m j _ => FX0_isAsSeen_2 m 35 14 (nI j) (mk g)) n (fun j _ => asb q K z j = true) (fun o => o = some (nI (asb q K z n).toNat, mk g)) (s := ()) rfl (by rw [fu_1]; omega) ?_ ?_
  · intro m j _ hj ha
    obtain ⟨a1, a2, a3, a4, b1, b2, b3, b4, -⟩ := hS.2.2.2 j hj
    have r0 := R_at (j := 0) rw14 hS.2.1 hn hj (by omega)
    have r1 := R_at (j := 1) rw14 hS.2.1 hn hj (by omega)
    have r2 := R_at (j := 2) rw14 hS.2.1 hn hj (by omega)
    have r3 := R_at (j := 3) rw14 hS.2.1 hn hj (by omega)
    rw [b1] at r0
    rw [b2] at r1
    rw [b3] at r2
    rw [b4] at r3
    have hv := d_val (g := g) (show z (4 * j) < 5 by omega) a2 a3
    have hok := day_ok hG (z (4 * j + 2) + 1) (by omega)
    rw [(hD _ a3 (3 * z (4 * j) + z (4 * j + 1)) (by omega)).1] at hv
    have hi := ho_inj (hok.2.1 (3 * z (4 * j) + z (4 * j + 1))) a4
    by_cases e : (day q K (z (4 * j + 2) + 1)).1 (3 * z (4 * j) + z (4 * j + 1)) = z (4 * j + 3)
    · refine Or.inr ⟨(), ?_, ?_⟩
      · have hi2 := hi.trans (eq_true e)
        simp -dsimp -implicitDefEqProofs (disch := omega) only [bnd_u, gd_t, if_true, if_false, ↓reduceIte, eq_self, true_or, or_true, false_or, or_false, not_true_eq_false, not_false_eq_true, and_true, true_and, and_false, false_and, reduceCtorEq, nI_ge, nI_le, nI_lt, nI_nlt, nI_ne, nI_te, nm_eq, mn_eq, nm_le, mn_le, nm_lt, mn_lt, pk_mul, nI_add, pk_sub, nI_clamp, eX0_isAsSeen_2, hTS, hS.2.1, hDay, r0, r1, r2, r3, hv, hi2]
      · rw [asb_s, ha, decide_eq_true e]; rfl
    · refine Or.inl ?_
      have hi2 := hi.trans (eq_false e)
      rw [asb_f hj e]
      simp -dsimp -implicitDefEqProofs (disch := omega) only [bnd_u, gd_t, if_true, if_false, ↓reduceIte, eq_self, true_or, or_true, false_or, or_false, not_true_eq_false, not_false_eq_true, and_true, true_and, and_false, false_and, reduceCtorEq, nI_ge, nI_le, nI_lt, nI_nlt, nI_ne, nI_te, nm_eq, mn_eq, nm_le, mn_le, nm_lt, mn_lt, pk_mul, nI_add, pk_sub, nI_clamp, eX0_isAsSeen_2, hTS, hS.2.1, hDay, r0, r1, r2, r3, hv, hi2, Bool.toNat_false]
  · intro m _ ha
    rw [ha]
    simp -dsimp -implicitDefEqProofs (disch := omega) only [bnd_u, gd_t, if_true, if_false, ↓reduceIte, eq_self, true_or, or_true, false_or, or_false, not_true_eq_false, not_false_eq_true, and_true, true_and, and_false, false_and, reduceCtorEq, nI_ge, nI_le, nI_lt, nI_nlt, nI_ne, nI_te, nm_eq, mn_eq, nm_le, mn_le, nm_lt, mn_lt, pk_mul, nI_add, pk_sub, nI_clamp, eX0_isAsSeen_2, hTS, hS.2.1, Bool.toNat_true]
theorem m_as {g : Gg} {q : Nat → Nat} {K n : Nat} {z : Nat → Nat} (hG : Gd q K) (hD : Dm g q K) (hS : Sn g K n z) : FX9_isAsSeen 78 (mk g) = some (nI (asb q K z n).toNat, mk g) := by
  have hK := hG.K
  have hn := hS.1
  rw [eX9_isAsSeen]
  refine lp_0 (σ := Unit) (fun m j _ => FX9_isAsSeen_4 m 78 (nI (asb q K z j).toNat) (nI j) (mk g)) n (fun _ _ => True) (fun o => o = some (nI (asb q K z n).toNat, mk g)) (s := ()) trivial (by rw [fu_1]; omega) ?_ ?_
  · intro m j _ hj _
    obtain ⟨a1, a2, a3, a4, -, -, -, -, b1, b2, b3, b4⟩ := hS.2.2.2 j hj
    have hok := day_ok hG (z (4 * j + 2) + 1) (by omega)
    have hv := (hD _ a3 (3 * z (4 * j) + z (4 * j + 1)) (by omega)).1
    rw [← Nat.add_assoc] at hv
    have hi := ho_inj (hok.2.1 (3 * z (4 * j) + z (4 * j + 1))) a4
    refine Or.inr ⟨(), ?_, trivial⟩
    rw [asb_s]
    cases ha : asb q K z j
    · simp -dsimp -implicitDefEqProofs (disch := omega) only [bnd_u, gd_t, if_true, if_false, ↓reduceIte, eq_self, true_or, or_true, false_or, or_false, not_true_eq_false, not_false_eq_true, and_true, true_and, and_false, false_and, reduceCtorEq, nI_ge, nI_le, nI_lt, nI_nlt, nI_ne, nI_te, nm_eq, mn_eq, nm_le, mn_le, nm_lt, mn_lt, pk_mul, nI_add, pk_sub, nI_clamp, eX9_isAsSeen_4, eX9_isAsSeen_73, eX9_isAsSeen_74, hMo, hS.2.2.1, Bool.toNat_false, Bool.false_and]
    · by_cases e : (day q K (z (4 * j + 2) + 1)).1 (3 * z (4 * j) + z (4 * j + 1)) = z (4 * j + 3)
      · have hi2 := hi.trans (eq_true e)
        rw [decide_eq_true e]
        simp -dsimp -implicitDefEqProofs (disch := omega) only [bnd_u, gd_t, if_true, if_false, ↓reduceIte, eq_self, true_or, or_true, false_or, or_false, not_true_eq_false, not_false_eq_true, and_true, true_and, and_false, false_and, reduceCtorEq, nI_ge, nI_le, nI_lt, nI_nlt, nI_ne, nI_te, nm_eq, mn_eq, nm_le, mn_le, nm_lt, mn_lt, pk_mul, nI_add, pk_sub, nI_clamp, eX9_isAsSeen_4, eX9_isAsSeen_73, eX9_isAsSeen_74, hMo, hS.2.2.1, b1, b2, b3, b4, hv, hi2, Bool.toNat_true, Bool.true_and]
      · have hi2 := hi.trans (eq_false e)
        rw [decide_eq_false e]
        simp -dsimp -implicitDefEqProofs (disch := omega) only [bnd_u, gd_t, if_true, if_false, ↓reduceIte, eq_self, true_or, or_true, false_or, or_false, not_true_eq_false, not_false_eq_true, and_true, true_and, and_false, false_and, reduceCtorEq, nI_ge, nI_le, nI_lt, nI_nlt, nI_ne, nI_te, nm_eq, mn_eq, nm_le, mn_le, nm_lt, mn_lt, pk_mul, nI_add, pk_sub, nI_clamp, eX9_isAsSeen_4, eX9_isAsSeen_73, eX9_isAsSeen_74, hMo, hS.2.2.1, b1, b2, b3, b4, hv, hi2, Bool.toNat_true, Bool.toNat_false, Bool.and_false]
  · intro m _ _
    cases ha : asb q K z n
    · simp -dsimp -implicitDefEqProofs (disch := omega) only [bnd_u, gd_t, if_true, if_false, ↓reduceIte, eq_self, true_or, or_true, false_or, or_false, not_true_eq_false, not_false_eq_true, and_true, true_and, and_false, false_and, reduceCtorEq, nI_ge, nI_le, nI_lt, nI_nlt, nI_ne, nI_te, nm_eq, mn_eq, nm_le, mn_le, nm_lt, mn_lt, pk_mul, nI_add, pk_sub, nI_clamp, eX9_isAsSeen_4, hMo, hS.2.2.1, Bool.toNat_false]
    · simp -dsimp -implicitDefEqProofs (disch := omega) only [bnd_u, gd_t, if_true, if_false, ↓reduceIte, eq_self, true_or, or_true, false_or, or_false, not_true_eq_false, not_false_eq_true, and_true, true_and, and_false, false_and, reduceCtorEq, nI_ge, nI_le, nI_lt, nI_nlt, nI_ne, nI_te, nm_eq, mn_eq, nm_le, mn_le, nm_lt, mn_lt, pk_mul, nI_add, pk_sub, nI_clamp, eX9_isAsSeen_4, hMo, hS.2.2.1, Bool.toNat_true]
theorem c_last {g : Gg} {s : Nat} (hs : s < 6) : FX0_copyLast 35 47 (nI (s * 5 * 3)) (mk g) = some ((), mk (upc g 47 (va_cpy (g 36) (g 47) 135 (s * 5 * 3) 15))) := by
  have hC : h_C (mk g) 36 47 (nI 135) (nI (s * 5 * 3)) (nI 15) = some (mk (upc g 47 (va_cpy (g 36) (g 47) 135 (s * 5 * 3) 15))) := t_C (n0 := 150) (n1 := 90) rfl rfl (by decide) (by decide) (by decide) (by omega)
  simp -dsimp -implicitDefEqProofs (disch := omega) only [bnd_u, gd_t, if_true, if_false, ↓reduceIte, eq_self, true_or, or_true, false_or, or_false, not_true_eq_false, not_false_eq_true, and_true, true_and, and_false, false_and, reduceCtorEq, nI_ge, nI_le, nI_lt, nI_nlt, nI_ne, nI_te, nm_eq, mn_eq, nm_le, mn_le, nm_lt, mn_lt, pk_mul, nI_add, pk_sub, nI_clamp, eX0_copyLast, eX0_copyLast_27, hTop, hDay, hC]
theorem msk_n {c : Nat → Bool} {n : Nat} (h : n < 31) : nI (msk c n) ||| (if (nI (c n).toNat) = nI 0 then nI 0 else (nI 1 <<< (nI n &&& nI 31))) = nI (msk c (n + 1)) := by
  cases hc : c n
  · show nI (msk c n) ||| (if nI 0 = nI 0 then nI 0 else _) = _
    rw [if_pos rfl]; exact msk_f hc
  · show nI (msk c n) ||| (if nI 1 = nI 0 then nI 0 else _) = _
    rw [if_neg (by decide)]; exact msk_t h hc
theorem msk_n0 {c : Nat → Bool} {n : Nat} (hc : c n = false) : msk c (n + 1) = msk c n := by
  rw [msk_s, hc]; simp
/-- a step of the class's with slot s -/
theorem c_pstep {g : Gg} {q : Nat → Nat} {K h n s m : Nat} {z : Nat → Nat} {b : Int32} (hF : F1 g q K) (hG : Gd q K) (hS : Sn g K n z) (hh : h < 10) (hs : okk K s) (hR : ∀ i, i < 10 → i ≠ h → g 46 i = ho (q (26 + i))) : ∃ g', FX8_possibleHolders_8 (m + 1) 0 (nI h) b (nI s) (mk g) = FX8_possibleHolders_8 m 0 (nI h) (b ||| (if (nI (asb (pq q h s) K z n).toNat) = nI 0 then nI 0 else (nI 1 <<< (nI s &&& nI 31)))) (nI (s + 1)) (mk g') ∧ Fr [36, 37, 46, 47] g g' ∧ (∀ i, i < 10 → i ≠ h → g' 46 i = ho (q (26 + i))) ∧ (∀ j, j < 15 → g' 47 (15 * s + j) = ho ((day (pq q h s) K 10).1 j)) ∧ ∀ j, (j < 15 * s ∨ 15 * s + 15 ≤ j) → g' 47 j = g 47 j := by
  have hK := hG.K
  have hs6 : s < 6 := by rcases hs with h | h <;> omega
  have f0 : Fr [46] g (up g 46 h (ho (cod s))) := Fr.c (by decide)
  have hF1 : F1 (up g 46 h (ho (cod s))) (pq q h s) K := (F1_ro hF hG hh).f f0 (by decide)
  have hR1 : Ro (up g 46 h (ho (cod s)) 46) (pq q h s) := by
    intro i hi
    rw [up_c]
    by_cases e : i = h
    · rw [e, pk_us]; unfold pq; rw [pt_s]
    · rw [pk_un e]; unfold pq; rw [pt_n (by omega)]; exact hR i hi e
  obtain ⟨g1, e1, f1, d1⟩ := d_live rc46 (by decide) hF1 (pq_G hG hh hs) hR1
  obtain ⟨g2, eg2⟩ : ∃ g2, g2 = upc g1 47 (va_cpy (g1 36) (g1 47) 135 (s * 5 * 3) 15) := ⟨_, rfl⟩
  have f2 : Fr [47] g1 g2 := by rw [eg2]; exact Fr.c (by decide)
  have c2 := c_last (g := g1) hs6
  rw [← eg2] at c2
  have f3 : Fr [36, 37, 46, 47] g g2 := (f0.tr f1 (l := [36, 37, 46]) (by simp <;> omega)).tr f2 (by simp <;> omega)
  have hD2 : Dy g2 (pq q h s) K := by
    unfold Dy
    rw [f2 36 (by decide), f2 37 (by decide)]; exact d1
  have e3 := c_as (pq_G hG hh hs) hD2 (hS.f f3 (by decide))
  refine ⟨g2, ?_, f3, fun i hi hne => ?_, fun j hj => ?_, fun j hj => ?_⟩
  · generalize nI (asb (pq q h s) K z n).toNat = y at e3 ⊢
    rcases hs with rfl | hs
    · rw [show ho (cod 5) = mi 4 from rfl] at e1
      by_cases y0 : y = nI 0
      · simp -dsimp -implicitDefEqProofs (disch := omega) only [bnd_u, gd_t, if_true, if_false, ↓reduceIte, eq_self, true_or, or_true, false_or, or_false, not_true_eq_false, not_false_eq_true, and_true, true_and, and_false, false_and, reduceCtorEq, nI_ge, nI_le, nI_lt, nI_nlt, nI_ne, nI_te, nm_eq, mn_eq, nm_le, mn_le, nm_lt, mn_lt, pk_mul, nI_add, pk_sub, nI_clamp, eX8_possibleHolders_8, eX8_possibleHolders_23, eX8_possibleHolders_41, eX8_possibleHolders_57, eX8_possibleHolders_111, eX8_possibleHolders_113, hTop, hDay, e1, c2, e3, y0]
      · simp -dsimp -implicitDefEqProofs (disch := omega) only [bnd_u, gd_t, if_true, if_false, ↓reduceIte, eq_self, true_or, or_true, false_or, or_false, not_true_eq_false, not_false_eq_true, and_true, true_and, and_false, false_and, reduceCtorEq, nI_ge, nI_le, nI_lt, nI_nlt, nI_ne, nI_te, nm_eq, mn_eq, nm_le, mn_le, nm_lt, mn_lt, pk_mul, nI_add, pk_sub, nI_clamp, eX8_possibleHolders_8, eX8_possibleHolders_23, eX8_possibleHolders_41, eX8_possibleHolders_57, eX8_possibleHolders_111, eX8_possibleHolders_113, hTop, hDay, e1, c2, e3, y0]
    · rw [show cod s = s + 1 from if_neg (by omega), ho_p] at e1
      by_cases y0 : y = nI 0
      · simp -dsimp -implicitDefEqProofs (disch := omega) only [bnd_u, gd_t, if_true, if_false, ↓reduceIte, eq_self, true_or, or_true, false_or, or_false, not_true_eq_false, not_false_eq_true, and_true, true_and, and_false, false_and, reduceCtorEq, nI_ge, nI_le, nI_lt, nI_nlt, nI_ne, nI_te, nm_eq, mn_eq, nm_le, mn_le, nm_lt, mn_lt, pk_mul, nI_add, pk_sub, nI_clamp, eX8_possibleHolders_8, eX8_possibleHolders_23, eX8_possibleHolders_41, eX8_possibleHolders_57, eX8_possibleHolders_111, eX8_possibleHolders_113, hTop, hFam, hDay, f_one hF hG hs, e1, c2, e3, y0]
      · simp -dsimp -implicitDefEqProofs (disch := omega) only [bnd_u, gd_t, if_true, if_false, ↓reduceIte, eq_self, true_or, or_true, false_or, or_false, not_true_eq_false, not_false_eq_true, and_true, true_and, and_false, false_and, reduceCtorEq, nI_ge, nI_le, nI_lt, nI_nlt, nI_ne, nI_te, nm_eq, mn_eq, nm_le, mn_le, nm_lt, mn_lt, pk_mul, nI_add, pk_sub, nI_clamp, eX8_possibleHolders_8, eX8_possibleHolders_23, eX8_possibleHolders_41, eX8_possibleHolders_57, eX8_possibleHolders_111, eX8_possibleHolders_113, hTop, hFam, hDay, f_one hF hG hs, e1, c2, e3, y0]
  · rw [f2 46 (by decide), f1 46 (by decide), up_c, pk_un hne]; exact hR i hi hne
  · rw [eg2, upc_s, pk_cpy_in (by omega) (by omega)]
    have := (d1 9 (by omega) j hj).1
    rw [show 135 + (15 * s + j - s * 5 * 3) = 15 * 9 + j by omega]; exact this
  · rw [eg2, upc_s, pk_cpy_out (by omega), f1 47 (by decide), up_n (by decide)]
theorem c_poss {g : Gg} {q : Nat → Nat} {K h n : Nat} {z : Nat → Nat} (hF : F1 g q K) (hG : Gd q K) (hR : Ro (g 11) q) (hS : Sn g K n z) (hh : h < 10) : ∃ g', FX8_possibleHolders 0 (nI h) (mk g) = some (nI (msk (mhb q K h z n) 6), mk g') ∧ Fr [36, 37, 46, 47] g g' ∧ Ans (g' 47) q K h 6 := by
  have hK := hG.K
  have e0 : FX8_possibleHolders 0 (nI h) (mk g) = FX8_possibleHolders_8 fu 0 (nI h) (nI 0) (nI 0) (mk (upc g 46 (va_cpy (g 11) (g 46) 0 0 10))) := by
    simp -dsimp -implicitDefEqProofs (disch := omega) only [bnd_u, gd_t, if_true, if_false, ↓reduceIte, eq_self, true_or, or_true, false_or, or_false, not_true_eq_false, not_false_eq_true, and_true, true_and, and_false, false_and, reduceCtorEq, nI_ge, nI_le, nI_lt, nI_nlt, nI_ne, nI_te, nm_eq, mn_eq, nm_le, mn_le, nm_lt, mn_lt, pk_mul, nI_add, pk_sub, nI_clamp, eX8_possibleHolders, hTop, c_trial]
  rw [e0]
  refine lp_0 (σ := Gg) (fun m k u => FX8_possibleHolders_8 m 0 (nI h) (nI (msk (mhb q K h z n) k)) (nI k) (mk u)) 6 (fun k u => Fr [36, 37, 46, 47] g u ∧ (∀ i, i < 10 → i ≠ h → u 46 i = ho (q (26 + i))) ∧ Ans (u 47) q K h k) (fun o => ∃ g', o = some (nI (msk (mhb q K h z n) 6), mk g') ∧ Fr [36, 37, 46, 47] g g' ∧ Ans (g' 47) q K h 6) ⟨Fr.c (by decide), fun i hi _ => ?_, fun s hs => absurd hs (by omega)⟩ (by decide) ?_ ?_
  · rw [upc_s]; exact Ro_cpy hR i hi
  · intro m s u hs ⟨hu, hR1, hA⟩
    have hFu := hF.f hu (by decide)
    have hSu := hS.f hu (by decide)
    by_cases hk : okk K s
    · obtain ⟨g', e, f1, a1, a2, a3⟩ := c_pstep (m := m) (b := nI (msk (mhb q K h z n) s)) hFu hG hSu hh hk hR1
      rw [← mhb_t hk, msk_n (by omega)] at e
      refine Or.inr ⟨g', e, hu.tr f1 (fun c hc => ⟨hc, hc⟩), a1, fun s' hs' hk' j hj => ?_⟩
      by_cases es : s' = s
      · subst es; exact a2 j hj
      · rw [a3 _ (by omega)]; exact hA s' (by omega) hk' j hj
    · have hk5 : s < 5 := by unfold okk at hk; omega
      have hkK : K ≤ s := by unfold okk at hk; omega
      refine Or.inr ⟨u, ?_, hu, hR1, fun s' hs' hk' j hj => ?_⟩
      · rw [msk_n0 (mhb_f hkK hk5)]
        simp -dsimp -implicitDefEqProofs (disch := omega) only [bnd_u, gd_t, if_true, if_false, ↓reduceIte, eq_self, true_or, or_true, false_or, or_false, not_true_eq_false, not_false_eq_true, and_true, true_and, and_false, false_and, reduceCtorEq, nI_ge, nI_le, nI_lt, nI_nlt, nI_ne, nI_te, nm_eq, mn_eq, nm_le, mn_le, nm_lt, mn_lt, pk_mul, nI_add, pk_sub, nI_clamp, eX8_possibleHolders_8, eX8_possibleHolders_23, eX8_possibleHolders_113, hTop, hFam, f_oneN hFu (hx_ge hkK (show s < 2 ^ 31 by omega))]
      · by_cases es : s' = s
        · subst es; exact absurd hk' hk
        · exact hA s' (by omega) hk' j hj
  · intro m u ⟨hu, hR1, hA⟩
    refine ⟨u, ?_, hu, hA⟩
    simp -dsimp -implicitDefEqProofs (disch := omega) only [bnd_u, gd_t, if_true, if_false, ↓reduceIte, eq_self, true_or, or_true, false_or, or_false, not_true_eq_false, not_false_eq_true, and_true, true_and, and_false, false_and, reduceCtorEq, nI_ge, nI_le, nI_lt, nI_nlt, nI_ne, nI_te, nm_eq, mn_eq, nm_le, mn_le, nm_lt, mn_lt, pk_mul, nI_add, pk_sub, nI_clamp, eX8_possibleHolders_8]
theorem pt_2 {q : Nat → Nat} {a v w : Nat} : pt (pt q a v) a w = pt q a w := by
  funext i
  by_cases e : i = a
  · rw [e, pt_s, pt_s]
  · rw [pt_n e, pt_n e, pt_n e]
/-- a step of the reference's with slot s -/
theorem m_pstep {g : Gg} {q : Nat → Nat} {K h n s m y0 : Nat} {z : Nat → Nat} {b y : Int32} (hM : Ms g (pt q (26 + h) y0) K) (hG : Gd q K) (hk : Kp g) (hS : Sn g K n z) (hh : h < 10) (hs : okk K s) : ∃ g', FX9_mayHave_15 (m + 1) 78 (nI h) b y (nI s) (mk g) = FX9_mayHave_15 m 78 (nI h) (b ||| (if (nI (asb (pq q h s) K z n).toNat) = nI 0 then nI 0 else (nI 1 <<< (nI s &&& nI 31)))) y (nI (s + 1)) (mk g') ∧ Fr [79, 85, 86, 89] g g' ∧ g' 79 = upd (g 79) (26 + h) (nI (cod s)) ∧ (∀ j, j < 15 → g' 89 (15 * s + j) = ho ((day (pq q h s) K 10).1 j)) ∧ ∀ j, (j < 15 * s ∨ 15 * s + 15 ≤ j) → g' 89 j = g 89 j := by
  have hK := hG.K
  have hs6 : s < 6 := by rcases hs with h | h <;> omega
  have f0 : Fr [79] g (up g 79 (26 + h) (nI (cod s))) := Fr.c (by decide)
  have hM1 : Ms (up g 79 (26 + h) (nI (cod s))) (pq q h s) K := by
    have := Ms_pt (v := cod s) hM (show 26 + h < 74 by omega)
    rw [pt_2] at this; exact this
  obtain ⟨g1, e1, f1, d1⟩ := h_go hM1 (pq_G hG hh hs) (hk.f f0 (by decide))
  have f2 : Fr [79, 85, 86, 89] g g1 := f0.tr f1 (by simp <;> omega)
  have e3 := m_as (pq_G hG hh hs) d1 (hS.f f2 (by decide))
  have e4 : ∀ b' : Int32, ∃ g', FX9_mayHave_78 m fu 78 (nI h) b' y (nI s) (nI 0) (mk g1) = FX9_mayHave_15 m 78 (nI h) b' y (nI (s + 1)) (mk g') ∧ Fr [89] g1 g' ∧ (∀ j, j < 15 → g' 89 (15 * s + j) = g1 85 (135 + j)) ∧ ∀ j, (j < 15 * s ∨ 15 * s + 15 ≤ j) → g' 89 j = g1 89 j := by
    intro b'
    refine lp_0 (σ := Gg) (fun n2 j u => FX9_mayHave_78 m n2 78 (nI h) b' y (nI s) (nI j) (mk u)) 15 (fun k u => Fr [89] g1 u ∧ (∀ j, j < k → u 89 (15 * s + j) = g1 85 (135 + j)) ∧ ∀ j, (j < 15 * s ∨ 15 * s + 15 ≤ j) → u 89 j = g1 89 j) (fun o => ∃ g', o = FX9_mayHave_15 m 78 (nI h) b' y (nI (s + 1)) (mk g') ∧ Fr [89] g1 g' ∧ (∀ j, j < 15 → g' 89 (15 * s + j) = g1 85 (135 + j)) ∧ ∀ j, (j < 15 * s ∨ 15 * s + 15 ≤ j) → g' 89 j = g1 89 j) ⟨Fr.refl, fun j hj => absurd hj (by omega), fun _ _ => rfl⟩ (by decide) ?_ ?_
    · intro n2 k u hk ⟨i1, i2, i3⟩
      have e : u 85 (135 + k) = g1 85 (135 + k) := by rw [i1 85 (by decide)]
      refine Or.inr ⟨up u 89 (15 * s + k) (g1 85 (135 + k)), ?_, i1.tr (Fr.c (l := [89]) (by decide)) (fun c hc => ⟨hc, hc⟩), fun j hj => ?_, fun j hj => ?_⟩
      · simp -dsimp -implicitDefEqProofs (disch := omega) only [bnd_u, gd_t, if_true, if_false, ↓reduceIte, eq_self, true_or, or_true, false_or, or_false, not_true_eq_false, not_false_eq_true, and_true, true_and, and_false, false_and, reduceCtorEq, nI_ge, nI_le, nI_lt, nI_nlt, nI_ne, nI_te, nm_eq, mn_eq, nm_le, mn_le, nm_lt, mn_lt, pk_mul, nI_add, pk_sub, nI_clamp, eX9_mayHave_78, hMo, e]
      · rw [up_c]
        by_cases h : j = k
        · rw [h, pk_us]
        · rw [pk_un (by omega)]; exact i2 j (by omega)
      · rw [up_c, pk_un (by omega)]; exact i3 j hj
    · intro n2 u ⟨i1, i2, i3⟩
      refine ⟨u, ?_, i1, i2, i3⟩
      simp -dsimp -implicitDefEqProofs (disch := omega) only [bnd_u, gd_t, if_true, if_false, ↓reduceIte, eq_self, true_or, or_true, false_or, or_false, not_true_eq_false, not_false_eq_true, and_true, true_and, and_false, false_and, reduceCtorEq, nI_ge, nI_le, nI_lt, nI_nlt, nI_ne, nI_te, nm_eq, mn_eq, nm_le, mn_le, nm_lt, mn_lt, pk_mul, nI_add, pk_sub, nI_clamp, eX9_mayHave_78, eX9_mayHave_115]
  obtain ⟨g2, e5, f5, a5, b5⟩ := e4 (b ||| (if (nI (asb (pq q h s) K z n).toNat) = nI 0 then nI 0 else (nI 1 <<< (nI s &&& nI 31))))
  refine ⟨g2, ?_, f2.tr f5 (by simp <;> omega), ?_, fun j hj => ?_, fun j hj => ?_⟩
  · rw [← e5]
    generalize nI (asb (pq q h s) K z n).toNat = x at e3 ⊢
    rcases hs with rfl | hs
    · rw [show cod 5 = 0 from rfl] at e1
      by_cases y0 : x = nI 0
      · simp -dsimp -implicitDefEqProofs (disch := omega) only [bnd_u, gd_t, if_true, if_false, ↓reduceIte, eq_self, true_or, or_true, false_or, or_false, not_true_eq_false, not_false_eq_true, and_true, true_and, and_false, false_and, reduceCtorEq, nI_ge, nI_le, nI_lt, nI_nlt, nI_ne, nI_te, nm_eq, mn_eq, nm_le, mn_le, nm_lt, mn_lt, pk_mul, nI_add, pk_sub, nI_clamp, eX9_mayHave_15, eX9_mayHave_52, eX9_mayHave_73, hMo, m_choice hM hK (Or.inr rfl), e1, e3, y0]
      · simp -dsimp -implicitDefEqProofs (disch := omega) only [bnd_u, gd_t, if_true, if_false, ↓reduceIte, eq_self, true_or, or_true, false_or, or_false, not_true_eq_false, not_false_eq_true, and_true, true_and, and_false, false_and, reduceCtorEq, nI_ge, nI_le, nI_lt, nI_nlt, nI_ne, nI_te, nm_eq, mn_eq, nm_le, mn_le, nm_lt, mn_lt, pk_mul, nI_add, pk_sub, nI_clamp, eX9_mayHave_15, eX9_mayHave_52, eX9_mayHave_73, hMo, m_choice hM hK (Or.inr rfl), e1, e3, y0]
    · rw [show cod s = s + 1 from if_neg (by omega)] at e1
      by_cases y0 : x = nI 0
      · simp -dsimp -implicitDefEqProofs (disch := omega) only [bnd_u, gd_t, if_true, if_false, ↓reduceIte, eq_self, true_or, or_true, false_or, or_false, not_true_eq_false, not_false_eq_true, and_true, true_and, and_false, false_and, reduceCtorEq, nI_ge, nI_le, nI_lt, nI_nlt, nI_ne, nI_te, nm_eq, mn_eq, nm_le, mn_le, nm_lt, mn_lt, pk_mul, nI_add, pk_sub, nI_clamp, eX9_mayHave_15, eX9_mayHave_52, eX9_mayHave_73, hMo, m_choice hM hK (Or.inl hs), e1, e3, y0]
      · simp -dsimp -implicitDefEqProofs (disch := omega) only [bnd_u, gd_t, if_true, if_false, ↓reduceIte, eq_self, true_or, or_true, false_or, or_false, not_true_eq_false, not_false_eq_true, and_true, true_and, and_false, false_and, reduceCtorEq, nI_ge, nI_le, nI_lt, nI_nlt, nI_ne, nI_te, nm_eq, mn_eq, nm_le, mn_le, nm_lt, mn_lt, pk_mul, nI_add, pk_sub, nI_clamp, eX9_mayHave_15, eX9_mayHave_52, eX9_mayHave_73, hMo, m_choice hM hK (Or.inl hs), e1, e3, y0]
  · rw [f5 79 (by decide), f1 79 (by decide), up_c]
  · rw [a5 j hj]; exact (d1 9 (by omega) j hj).1
  · rw [b5 j hj, f1 89 (by decide), up_n (by decide)]
theorem m_poss {g : Gg} {q : Nat → Nat} {K h n : Nat} {z : Nat → Nat} (hM : Ms g q K) (hG : Gd q K) (hk : Kp g) (hS : Sn g K n z) (hh : h < 10) : ∃ g', FX9_mayHave 78 (nI h) (mk g) = some (nI (msk (mhb q K h z n) 6), mk g') ∧ Fr [85, 86, 89] g g' ∧ Ans (g' 89) q K h 6 := by
  have hK := hG.K
  have r1 : g 79 (26 + h) = nI (q (26 + h)) := by have := hM.2 (26 + h) (by omega); rw [Nat.zero_add] at this; exact this
  have e0 : FX9_mayHave 78 (nI h) (mk g) = FX9_mayHave_15 fu 78 (nI h) (nI 0) (nI (q (26 + h))) (nI 0) (mk g) := by
    simp -dsimp -implicitDefEqProofs (disch := omega) only [bnd_u, gd_t, if_true, if_false, ↓reduceIte, eq_self, true_or, or_true, false_or, or_false, not_true_eq_false, not_false_eq_true, and_true, true_and, and_false, false_and, reduceCtorEq, nI_ge, nI_le, nI_lt, nI_nlt, nI_ne, nI_te, nm_eq, mn_eq, nm_le, mn_le, nm_lt, mn_lt, pk_mul, nI_add, pk_sub, nI_clamp, eX9_mayHave, hMo, r1]
  rw [e0]
  refine lp_0 (σ := Gg) (fun m k u => FX9_mayHave_15 m 78 (nI h) (nI (msk (mhb q K h z n) k)) (nI (q (26 + h))) (nI k) (mk u)) 6 (fun k u => Fr [79, 85, 86, 89] g u ∧ (∃ y, u 79 = upd (g 79) (26 + h) (nI y)) ∧ Ans (u 89) q K h k) (fun o => ∃ g', o = some (nI (msk (mhb q K h z n) 6), mk g') ∧ Fr [85, 86, 89] g g' ∧ Ans (g' 89) q K h 6) ⟨Fr.refl, ⟨q (26 + h), (fa_upd_same r1).symm⟩, fun s hs => absurd hs (by omega)⟩ (by decide) ?_ ?_
  · intro m s u hs ⟨hu, ⟨y, hy⟩, hA⟩
    have hSu := hS.f hu (by decide)
    have hku := hk.f hu (by decide)
    have k2 : u 78 2 = nI K := by rw [hu 78 (by decide)]; exact hM.1
    have hMy : Ms u (pt q (26 + h) y) K := ⟨k2, by rw [hy]; exact Md_pt hM.2 (by omega)⟩
    by_cases hk : okk K s
    · obtain ⟨g', e, f1, a1, a2, a3⟩ := m_pstep (m := m) (b := nI (msk (mhb q K h z n) s)) (y := nI (q (26 + h))) hMy hG hku hSu hh hk
      rw [← mhb_t hk, msk_n (by omega)] at e
      refine Or.inr ⟨g', e, hu.tr f1 (fun c hc => ⟨hc, hc⟩), ⟨cod s, ?_⟩, fun s' hs' hk' j hj => ?_⟩
      · rw [a1, hy, fa_upd_twice]
      · by_cases es : s' = s
        · subst es; exact a2 j hj
        · rw [a3 _ (by omega)]; exact hA s' (by omega) hk' j hj
    · have hk5 : s < 5 := by unfold okk at hk; omega
      have hkK : K ≤ s := by unfold okk at hk; omega
      refine Or.inr ⟨u, ?_, hu, ⟨y, hy⟩, fun s' hs' hk' j hj => ?_⟩
      · rw [msk_n0 (mhb_f hkK hk5)]
        simp -dsimp -implicitDefEqProofs (disch := omega) only [bnd_u, gd_t, if_true, if_false, ↓reduceIte, eq_self, true_or, or_true, false_or, or_false, not_true_eq_false, not_false_eq_true, and_true, true_and, and_false, false_and, reduceCtorEq, nI_ge, nI_le, nI_lt, nI_nlt, nI_ne, nI_te, nm_eq, mn_eq, nm_le, mn_le, nm_lt, mn_lt, pk_mul, nI_add, pk_sub, nI_clamp, eX9_mayHave_15, eX9_mayHave_115, hMo, m_choiceN hMy hK hkK hk5]
      · by_cases es : s' = s
        · subst es; exact absurd hk' hk
        · exact hA s' (by omega) hk' j hj
  · intro m u ⟨hu, ⟨y, hy⟩, hA⟩
    refine ⟨up u 79 (26 + h) (nI (q (26 + h))), ?_, ?_, ?_⟩
    · simp -dsimp -implicitDefEqProofs (disch := omega) only [bnd_u, gd_t, if_true, if_false, ↓reduceIte, eq_self, true_or, or_true, false_or, or_false, not_true_eq_false, not_false_eq_true, and_true, true_and, and_false, false_and, reduceCtorEq, nI_ge, nI_le, nI_lt, nI_nlt, nI_ne, nI_te, nm_eq, mn_eq, nm_le, mn_le, nm_lt, mn_lt, pk_mul, nI_add, pk_sub, nI_clamp, eX9_mayHave_15, hMo]
    · intro c hc
      by_cases e : c = 79
      · rw [e, up_c, hy, fa_upd_twice]; exact fa_upd_same r1
      · rw [up_n e]; exact hu c (by simp at hc ⊢; omega)
    · rw [up_n (by decide)]; exact hA
theorem sim_may (x : Int32) : Sim (FX8_may 0 x) (FX9_may 78 x) := by
  refine sim_ro (fun g q K hI => ?_)
  rcases in_of x (n := 10) (by omega) with hx | ⟨h, hh, rfl⟩
  · refine ⟨mi 1, same ?_, fun g1 hI1 _ => same ?_⟩
    · simp -dsimp -implicitDefEqProofs (disch := omega) only [bnd_u, gd_t, if_true, if_false, ↓reduceIte, eq_self, true_or, or_true, false_or, or_false, not_true_eq_false, not_false_eq_true, and_true, true_and, and_false, false_and, reduceCtorEq, nI_ge, nI_le, nI_lt, nI_nlt, nI_ne, nI_te, nm_eq, mn_eq, nm_le, mn_le, nm_lt, mn_lt, pk_mul, nI_add, pk_sub, nI_clamp, eX8_may, eX8_may_16, c_hrN hx]
    · simp -dsimp -implicitDefEqProofs (disch := omega) only [bnd_u, gd_t, if_true, if_false, ↓reduceIte, eq_self, true_or, or_true, false_or, or_false, not_true_eq_false, not_false_eq_true, and_true, true_and, and_false, false_and, reduceCtorEq, nI_ge, nI_le, nI_lt, nI_nlt, nI_ne, nI_te, nm_eq, mn_eq, nm_le, mn_le, nm_lt, mn_lt, pk_mul, nI_add, pk_sub, nI_clamp, eX9_may, eX9_may_16, m_hourN hx]
  · obtain ⟨n, z, hsn⟩ := hI.sn
    obtain ⟨g1, e1, f1, -⟩ := c_poss hI.F hI.G hI.R hsn hh
    refine ⟨nI (msk (mhb q K h z n) 6), some1 (g1 := g1) ?_ f1 (by decide), fun g1 hI1 hf => ?_⟩
    · simp -dsimp -implicitDefEqProofs (disch := omega) only [bnd_u, gd_t, if_true, if_false, ↓reduceIte, eq_self, true_or, or_true, false_or, or_false, not_true_eq_false, not_false_eq_true, and_true, true_and, and_false, false_and, reduceCtorEq, nI_ge, nI_le, nI_lt, nI_nlt, nI_ne, nI_te, nm_eq, mn_eq, nm_le, mn_le, nm_lt, mn_lt, pk_mul, nI_add, pk_sub, nI_clamp, eX8_may, eX8_may_16, c_hr hh, hTop, e1]
    · obtain ⟨g2, e2, f2, -⟩ := m_poss hI1.M hI.G hI1.kp (hsn.f hf (by decide)) hh
      refine some1 (g1 := g2) ?_ f2 (by decide)
      simp -dsimp -implicitDefEqProofs (disch := omega) only [bnd_u, gd_t, if_true, if_false, ↓reduceIte, eq_self, true_or, or_true, false_or, or_false, not_true_eq_false, not_false_eq_true, and_true, true_and, and_false, false_and, reduceCtorEq, nI_ge, nI_le, nI_lt, nI_nlt, nI_ne, nI_te, nm_eq, mn_eq, nm_le, mn_le, nm_lt, mn_lt, pk_mul, nI_add, pk_sub, nI_clamp, eX9_may, eX9_may_16, m_hour hh, hMo, e2]
