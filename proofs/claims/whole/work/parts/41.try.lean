/-! swap, give -/
theorem wn_45 {q : Nat → Nat} {K : Nat} (hG : Gd q K) : wn q ≤ 45 := by
  rw [← wr_dn]; exact wr_45 hG _
theorem ho_p (c : Nat) : ho (c + 1) = nI c := ho_s (Nat.succ_pos c)
/-- the first of the greatest -/
def bsp (w c : Nat) (s : Nat × Nat) : Nat × Nat := if w ≤ s.1 then s else (w, c + 1)
def Bd (s : Nat × Nat) : Prop := s.1 ≤ 45 ∧ s.2 ≤ 100
theorem bsp_bd {w c : Nat} {s : Nat × Nat} (hw : w ≤ 45) (hc : c < 100) (h : Bd s) : Bd (bsp w c s) := by
  unfold bsp
  split
  · exact h
  · exact ⟨hw, hc⟩
def swp (q : Nat → Nat) (a b : Nat) : Nat → Nat := pt (pt q (26 + a) (q (26 + b))) (26 + b) (q (26 + a))
def sw1 (q : Nat → Nat) (a : Nat) (s : Nat × Nat) : Nat → Nat × Nat
  | 0 => s
  | n + 1 => bsp (wn (swp q a (a + 1 + n))) (10 * a + (a + 1 + n)) (sw1 q a s n)
def sw0 (q : Nat → Nat) : Nat → Nat × Nat
  | 0 => (wn q, 0)
  | a + 1 => sw1 q a (sw0 q a) (9 - a)
theorem swp_G {q : Nat → Nat} {K a b : Nat} (hG : Gd q K) (ha : a < 10) (hb : b < 10) : Gd (swp q a b) K := Gd_ro (Gd_ro hG ha (hG.r hb)) hb (hG.r ha)
theorem sw1_bd {q : Nat → Nat} {K a : Nat} {s : Nat × Nat} (hG : Gd q K) (ha : a < 10) (hs : Bd s) : ∀ n, n ≤ 9 - a → Bd (sw1 q a s n)
  | 0, _ => hs
  | n + 1, hn => bsp_bd (wn_45 (swp_G hG ha (by omega))) (by omega) (sw1_bd hG ha hs n (by omega))
theorem sw0_bd {q : Nat → Nat} {K : Nat} (hG : Gd q K) : ∀ a, a ≤ 10 → Bd (sw0 q a)
  | 0, _ => ⟨wn_45 hG, by show 0 ≤ 100; omega⟩
  | a + 1, ha => sw1_bd hG (by omega) (sw0_bd hG a (by omega)) _ (Nat.le_refl _)
def gv1 (q : Nat → Nat) (h : Nat) (s : Nat × Nat) : Nat → Nat × Nat
  | 0 => s
  | n + 1 => bsp (wn (pt q (26 + h) (n + 1))) (10 * h + n) (gv1 q h s n)
def gv0 (q : Nat → Nat) (K : Nat) : Nat → Nat × Nat
  | 0 => (wn q, 0)
  | h + 1 => gv1 q h (gv0 q K h) K
theorem gv1_bd {q : Nat → Nat} {K h : Nat} {s : Nat × Nat} (hG : Gd q K) (hh : h < 10) (hs : Bd s) : ∀ n, n ≤ K → Bd (gv1 q h s n)
  | 0, _ => hs
  | n + 1, hn => bsp_bd (wn_45 (Gd_ro hG hh hn)) (by have := hG.K; omega) (gv1_bd hG hh hs n (by omega))
theorem gv0_bd {q : Nat → Nat} {K : Nat} (hG : Gd q K) : ∀ a, a ≤ 10 → Bd (gv0 q K a)
  | 0, _ => ⟨wn_45 hG, by show 0 ≤ 100; omega⟩
  | a + 1, ha => gv1_bd hG (by omega) (gv0_bd hG a (by omega)) _ (Nat.le_refl _)
def fin2 (w : Nat) (s : Nat × Nat) : Int32 := if s.2 = 0 then mi 4 else if w = 0 then nI (s.2 - 1) else nI s.1
/-- the class's worth by a rota at c -/
theorem c_wby {g : Gg} {q : Nat → Nat} {K c : Nat} (hc : Rc c) (hc2 : c ∉ [32, 33, 34]) (hF : F1 g q K) (hG : Gd q K) (hR : Ro (g c) q) : ∃ g', FX8_worthBy 0 c (mk g) = some (nI (wn q), mk g') ∧ Fr [32, 33, 34] g g' ∧ Lk g' q := by
  obtain ⟨g1, e1, f1, l1⟩ := s_look hc hc2 hF hG hR
  refine ⟨g1, ?_, f1, l1⟩
  simp -dsimp -implicitDefEqProofs (disch := omega) only [bnd_u, gd_t, if_true, if_false, ↓reduceIte, eq_self, true_or, or_true, false_or, or_false, not_true_eq_false, not_false_eq_true, and_true, true_and, and_false, false_and, reduceCtorEq, nI_ge, nI_le, nI_lt, nI_nlt, nI_ne, nI_te, nm_eq, mn_eq, nm_le, mn_le, nm_lt, mn_lt, pk_mul, nI_add, pk_sub, nI_clamp, eX8_worthBy, hTop, hSee, e1, s_worth (hF.f f1 (by decide)) hG l1]
theorem c_wsw {g : Gg} {q : Nat → Nat} {K a b : Nat} (hF : F1 g q K) (hG : Gd q K) (hR : Ro (g 11) q) (ha : a < 10) (hb : b < 10) : ∃ g', FX8_worthSwapped 0 (nI a) (nI b) (mk g) = some (nI (wn (swp q a b)), mk g') ∧ Fr [32, 33, 34, 46] g g' := by
  obtain ⟨u, eu⟩ : ∃ u, u = up (up (upc g 46 (va_cpy (g 11) (g 46) 0 0 10)) 46 a (ho (q (26 + b)))) 46 b (ho (q (26 + a))) := ⟨_, rfl⟩
  have f0 : Fr [46] g u := by rw [eu]; exact ((Fr.c (l := [46]) (by decide)).tr (Fr.c (l := [46]) (by decide)) (fun c hc => ⟨hc, hc⟩)).tr (Fr.c (l := [46]) (by decide)) (fun c hc => ⟨hc, hc⟩)
  have hF1 : F1 u (swp q a b) K := (F1_ro (F1_ro hF hG ha) (Gd_ro hG ha (hG.r hb)) hb).f f0 (by decide)
  have hR1 : Ro (u 46) (swp q a b) := by
    rw [eu, up_c, up_c, upc_s]; exact Ro_up (Ro_up (Ro_cpy hR))
  obtain ⟨g1, e1, f1, -⟩ := c_wby rc46 (by decide) hF1 (swp_G hG ha hb) hR1
  refine ⟨g1, ?_, f0.tr f1 (by simp <;> omega)⟩
  have r1 : upc g 46 (va_cpy (g 11) (g 46) 0 0 10) 11 b = ho (q (26 + b)) := by rw [upc_n (by decide)]; exact hR b hb
  have r2 : up (upc g 46 (va_cpy (g 11) (g 46) 0 0 10)) 46 a (ho (q (26 + b))) 11 a = ho (q (26 + a)) := by rw [up_n (by decide), upc_n (by decide)]; exact hR a ha
  rw [eu] at e1
  simp -dsimp -implicitDefEqProofs (disch := omega) only [bnd_u, gd_t, if_true, if_false, ↓reduceIte, eq_self, true_or, or_true, false_or, or_false, not_true_eq_false, not_false_eq_true, and_true, true_and, and_false, false_and, reduceCtorEq, nI_ge, nI_le, nI_lt, nI_nlt, nI_ne, nI_te, nm_eq, mn_eq, nm_le, mn_le, nm_lt, mn_lt, pk_mul, nI_add, pk_sub, nI_clamp, eX8_worthSwapped, hTop, hFam, c_trial, r1, r2, e1]
theorem c_wgv {g : Gg} {q : Nat → Nat} {K h k : Nat} (hF : F1 g q K) (hG : Gd q K) (hR : Ro (g 11) q) (hh : h < 10) (hk : k < K) : ∃ g', FX8_worthGiven 0 (nI h) (nI k) (mk g) = some (nI (wn (pt q (26 + h) (k + 1))), mk g') ∧ Fr [32, 33, 34, 46] g g' := by
  obtain ⟨u, eu⟩ : ∃ u, u = up (upc g 46 (va_cpy (g 11) (g 46) 0 0 10)) 46 h (nI k) := ⟨_, rfl⟩
  have f0 : Fr [46] g u := by rw [eu]; exact (Fr.c (l := [46]) (by decide)).tr (Fr.c (l := [46]) (by decide)) (fun c hc => ⟨hc, hc⟩)
  have hF1 : F1 u (pt q (26 + h) (k + 1)) K := (F1_ro hF hG hh).f f0 (by decide)
  have hR1 : Ro (u 46) (pt q (26 + h) (k + 1)) := by
    rw [eu, up_c, upc_s, ← ho_p k]; exact Ro_up (Ro_cpy hR)
  obtain ⟨g1, e1, f1, -⟩ := c_wby rc46 (by decide) hF1 (Gd_ro hG hh (show k + 1 ≤ K by omega)) hR1
  refine ⟨g1, ?_, f0.tr f1 (by simp <;> omega)⟩
  rw [eu] at e1
  simp -dsimp -implicitDefEqProofs (disch := omega) only [bnd_u, gd_t, if_true, if_false, ↓reduceIte, eq_self, true_or, or_true, false_or, or_false, not_true_eq_false, not_false_eq_true, and_true, true_and, and_false, false_and, reduceCtorEq, nI_ge, nI_le, nI_lt, nI_nlt, nI_ne, nI_te, nm_eq, mn_eq, nm_le, mn_le, nm_lt, mn_lt, pk_mul, nI_add, pk_sub, nI_clamp, eX8_worthGiven, hTop, hFam, c_trial, e1]
theorem c_sw1 {g : Gg} {q : Nat → Nat} {K a m : Nat} {x : Int32} {s : Nat × Nat} (hF : F1 g q K) (hG : Gd q K) (hR : Ro (g 11) q) (ha : a < 10) (hs : Bd s) : ∃ g', FX8_swap_40 m fu 0 x (nI s.1) (ho s.2) (nI a) (nI (a + 1)) (mk g) = FX8_swap_27 m 0 x (nI (sw1 q a s (9 - a)).1) (ho (sw1 q a s (9 - a)).2) (nI (a + 1)) (mk g') ∧ Fr [32, 33, 34, 46] g g' := by
  refine lp_0 (σ := Gg) (fun n k u => FX8_swap_40 m n 0 x (nI (sw1 q a s k).1) (ho (sw1 q a s k).2) (nI a) (nI (a + 1 + k)) (mk u)) (9 - a) (fun _ u => Fr [32, 33, 34, 46] g u) (fun o => ∃ g', o = FX8_swap_27 m 0 x (nI (sw1 q a s (9 - a)).1) (ho (sw1 q a s (9 - a)).2) (nI (a + 1)) (mk g') ∧ Fr [32, 33, 34, 46] g g') Fr.refl (by rw [fu_1]; omega) ?_ ?_
  · intro n k u hk hu
    obtain ⟨g1, e1, f1⟩ := c_wsw (a := a) (b := a + 1 + k) (hF.f hu (by decide)) hG (hR.f hu (by decide)) ha (by omega)
    have b1 := sw1_bd hG ha hs k (by omega)
    have b2 := wn_45 (swp_G (b := a + 1 + k) hG ha (by omega))
    have b3 := b1.1
    refine Or.inr ⟨g1, ?_, hu.tr f1 (fun c hc => ⟨hc, hc⟩)⟩
    rw [show a + 1 + (k + 1) = a + 1 + k + 1 from rfl]
    by_cases c : wn (swp q a (a + 1 + k)) ≤ (sw1 q a s k).1
    · have e2 : sw1 q a s (k + 1) = sw1 q a s k := if_pos c
      rw [e2]
      simp -dsimp -implicitDefEqProofs (disch := omega) only [bnd_u, gd_t, if_true, if_false, ↓reduceIte, eq_self, true_or, or_true, false_or, or_false, not_true_eq_false, not_false_eq_true, and_true, true_and, and_false, false_and, reduceCtorEq, nI_ge, nI_le, nI_lt, nI_nlt, nI_ne, nI_te, nm_eq, mn_eq, nm_le, mn_le, nm_lt, mn_lt, pk_mul, nI_add, pk_sub, nI_clamp, eX8_swap_40, eX8_swap_75, hTop, e1]
    · have e2 : sw1 q a s (k + 1) = (wn (swp q a (a + 1 + k)), 10 * a + (a + 1 + k) + 1) := if_neg c
      rw [e2]
      simp -dsimp -implicitDefEqProofs (disch := omega) only [bnd_u, gd_t, if_true, if_false, ↓reduceIte, eq_self, true_or, or_true, false_or, or_false, not_true_eq_false, not_false_eq_true, and_true, true_and, and_false, false_and, reduceCtorEq, nI_ge, nI_le, nI_lt, nI_nlt, nI_ne, nI_te, nm_eq, mn_eq, nm_le, mn_le, nm_lt, mn_lt, pk_mul, nI_add, pk_sub, nI_clamp, eX8_swap_40, eX8_swap_75, hTop, e1, ho_p]
  · intro n u hu
    refine ⟨u, ?_, hu⟩
    simp -dsimp -implicitDefEqProofs (disch := omega) only [bnd_u, gd_t, if_true, if_false, ↓reduceIte, eq_self, true_or, or_true, false_or, or_false, not_true_eq_false, not_false_eq_true, and_true, true_and, and_false, false_and, reduceCtorEq, nI_ge, nI_le, nI_lt, nI_nlt, nI_ne, nI_te, nm_eq, mn_eq, nm_le, mn_le, nm_lt, mn_lt, pk_mul, nI_add, pk_sub, nI_clamp, eX8_swap_40]
theorem c_swap {g : Gg} {q : Nat → Nat} {K w : Nat} (hF : F1 g q K) (hG : Gd q K) (hR : Ro (g 11) q) (hw : w < 2) : ∃ g', FX8_swap 0 (nI w) (mk g) = some (fin2 w (sw0 q 10), mk g') ∧ Fr [32, 33, 34, 46] g g' := by
  obtain ⟨g1, e1, f1, -⟩ := c_wby rc11 (by decide) hF hG hR
  have e0 : FX8_swap 0 (nI w) (mk g) = FX8_swap_27 fu 0 (nI w) (nI (sw0 q 0).1) (ho (sw0 q 0).2) (nI 0) (mk g1) := by
    simp -dsimp -implicitDefEqProofs (disch := omega) only [bnd_u, gd_t, if_true, if_false, ↓reduceIte, eq_self, true_or, or_true, false_or, or_false, not_true_eq_false, not_false_eq_true, and_true, true_and, and_false, false_and, reduceCtorEq, nI_ge, nI_le, nI_lt, nI_nlt, nI_ne, nI_te, nm_eq, mn_eq, nm_le, mn_le, nm_lt, mn_lt, pk_mul, nI_add, pk_sub, nI_clamp, eX8_swap, c_flag hw, hTop, hFam, e1, show (sw0 q 0).1 = wn q from rfl, show ho (sw0 q 0).2 = mi 4 from rfl]
  rw [e0]
  refine lp_0 (σ := Gg) (fun n k u => FX8_swap_27 n 0 (nI w) (nI (sw0 q k).1) (ho (sw0 q k).2) (nI k) (mk u)) 10 (fun _ u => Fr [32, 33, 34, 46] g u) (fun o => ∃ g', o = some (fin2 w (sw0 q 10), mk g') ∧ Fr [32, 33, 34, 46] g g') (f1.mo (by simp <;> omega)) (by decide) ?_ ?_
  · intro n a u ha hu
    obtain ⟨g2, e2, f2⟩ := c_sw1 (m := n) (x := nI w) (hF.f hu (by decide)) hG (hR.f hu (by decide)) ha (sw0_bd hG a (by omega))
    refine Or.inr ⟨g2, ?_, hu.tr f2 (fun c hc => ⟨hc, hc⟩)⟩
    rw [show sw0 q (a + 1) = sw1 q a (sw0 q a) (9 - a) from rfl, ← e2]
    simp -dsimp -implicitDefEqProofs (disch := omega) only [bnd_u, gd_t, if_true, if_false, ↓reduceIte, eq_self, true_or, or_true, false_or, or_false, not_true_eq_false, not_false_eq_true, and_true, true_and, and_false, false_and, reduceCtorEq, nI_ge, nI_le, nI_lt, nI_nlt, nI_ne, nI_te, nm_eq, mn_eq, nm_le, mn_le, nm_lt, mn_lt, pk_mul, nI_add, pk_sub, nI_clamp, eX8_swap_27]
  · intro n u hu
    have b := (sw0_bd hG 10 (Nat.le_refl _)).2
    refine ⟨u, ?_, hu⟩
    unfold fin2
    by_cases z : (sw0 q 10).2 = 0
    · simp -dsimp -implicitDefEqProofs (disch := omega) only [bnd_u, gd_t, if_true, if_false, ↓reduceIte, eq_self, true_or, or_true, false_or, or_false, not_true_eq_false, not_false_eq_true, and_true, true_and, and_false, false_and, reduceCtorEq, nI_ge, nI_le, nI_lt, nI_nlt, nI_ne, nI_te, nm_eq, mn_eq, nm_le, mn_le, nm_lt, mn_lt, pk_mul, nI_add, pk_sub, nI_clamp, eX8_swap_27, eX8_swap_97, eX8_swap_102, z, show ho 0 = mi 4 from rfl]
    · by_cases y : w = 0
      · simp -dsimp -implicitDefEqProofs (disch := omega) only [bnd_u, gd_t, if_true, if_false, ↓reduceIte, eq_self, true_or, or_true, false_or, or_false, not_true_eq_false, not_false_eq_true, and_true, true_and, and_false, false_and, reduceCtorEq, nI_ge, nI_le, nI_lt, nI_nlt, nI_ne, nI_te, nm_eq, mn_eq, nm_le, mn_le, nm_lt, mn_lt, pk_mul, nI_add, pk_sub, nI_clamp, eX8_swap_27, eX8_swap_97, eX8_swap_102, ho_s (show 0 < (sw0 q 10).2 by omega), z, y]
      · simp -dsimp -implicitDefEqProofs (disch := omega) only [bnd_u, gd_t, if_true, if_false, ↓reduceIte, eq_self, true_or, or_true, false_or, or_false, not_true_eq_false, not_false_eq_true, and_true, true_and, and_false, false_and, reduceCtorEq, nI_ge, nI_le, nI_lt, nI_nlt, nI_ne, nI_te, nm_eq, mn_eq, nm_le, mn_le, nm_lt, mn_lt, pk_mul, nI_add, pk_sub, nI_clamp, eX8_swap_27, eX8_swap_97, eX8_swap_102, ho_s (show 0 < (sw0 q 10).2 by omega), z, y]
theorem c_gv1 {g : Gg} {q : Nat → Nat} {K h m : Nat} {x : Int32} {s : Nat × Nat} (hF : F1 g q K) (hG : Gd q K) (hR : Ro (g 11) q) (hh : h < 10) (hs : Bd s) : ∃ g', FX8_give_37 m fu 0 x (nI s.1) (ho s.2) (nI h) (nI 0) (mk g) = FX8_give_27 m 0 x (nI (gv1 q h s K).1) (ho (gv1 q h s K).2) (nI (h + 1)) (mk g') ∧ Fr [32, 33, 34, 46] g g' := by
  have hK := hG.K
  refine lp_0 (σ := Gg) (fun n k u => FX8_give_37 m n 0 x (nI (gv1 q h s k).1) (ho (gv1 q h s k).2) (nI h) (nI k) (mk u)) K (fun _ u => Fr [32, 33, 34, 46] g u) (fun o => ∃ g', o = FX8_give_27 m 0 x (nI (gv1 q h s K).1) (ho (gv1 q h s K).2) (nI (h + 1)) (mk g') ∧ Fr [32, 33, 34, 46] g g') Fr.refl (by rw [fu_1]; omega) ?_ ?_
  · intro n k u hk hu
    have hFu := hF.f hu (by decide)
    obtain ⟨g1, e1, f1⟩ := c_wgv (h := h) (k := k) hFu hG (hR.f hu (by decide)) hh hk
    have b1 := (gv1_bd hG hh hs k (by omega)).1
    have b2 := wn_45 (Gd_ro (v := k + 1) hG hh (by omega))
    refine Or.inr ⟨g1, ?_, hu.tr f1 (fun c hc => ⟨hc, hc⟩)⟩
    by_cases c : wn (pt q (26 + h) (k + 1)) ≤ (gv1 q h s k).1
    · have e2 : gv1 q h s (k + 1) = gv1 q h s k := if_pos c
      rw [e2]
      simp -dsimp -implicitDefEqProofs (disch := omega) only [bnd_u, gd_t, if_true, if_false, ↓reduceIte, eq_self, true_or, or_true, false_or, or_false, not_true_eq_false, not_false_eq_true, and_true, true_and, and_false, false_and, reduceCtorEq, nI_ge, nI_le, nI_lt, nI_nlt, nI_ne, nI_te, nm_eq, mn_eq, nm_le, mn_le, nm_lt, mn_lt, pk_mul, nI_add, pk_sub, nI_clamp, eX8_give_37, eX8_give_80, hTop, hFam, hFu.1, e1]
    · have e2 : gv1 q h s (k + 1) = (wn (pt q (26 + h) (k + 1)), 10 * h + k + 1) := if_neg c
      rw [e2]
      simp -dsimp -implicitDefEqProofs (disch := omega) only [bnd_u, gd_t, if_true, if_false, ↓reduceIte, eq_self, true_or, or_true, false_or, or_false, not_true_eq_false, not_false_eq_true, and_true, true_and, and_false, false_and, reduceCtorEq, nI_ge, nI_le, nI_lt, nI_nlt, nI_ne, nI_te, nm_eq, mn_eq, nm_le, mn_le, nm_lt, mn_lt, pk_mul, nI_add, pk_sub, nI_clamp, eX8_give_37, eX8_give_80, hTop, hFam, hFu.1, e1, ho_p]
  · intro n u hu
    have hFu := hF.f hu (by decide)
    refine ⟨u, ?_, hu⟩
    simp -dsimp -implicitDefEqProofs (disch := omega) only [bnd_u, gd_t, if_true, if_false, ↓reduceIte, eq_self, true_or, or_true, false_or, or_false, not_true_eq_false, not_false_eq_true, and_true, true_and, and_false, false_and, reduceCtorEq, nI_ge, nI_le, nI_lt, nI_nlt, nI_ne, nI_te, nm_eq, mn_eq, nm_le, mn_le, nm_lt, mn_lt, pk_mul, nI_add, pk_sub, nI_clamp, eX8_give_37, hTop, hFam, hFu.1]
theorem c_give {g : Gg} {q : Nat → Nat} {K w : Nat} (hF : F1 g q K) (hG : Gd q K) (hR : Ro (g 11) q) (hw : w < 2) : ∃ g', FX8_give 0 (nI w) (mk g) = some (fin2 w (gv0 q K 10), mk g') ∧ Fr [32, 33, 34, 46] g g' := by
  obtain ⟨g1, e1, f1, -⟩ := c_wby rc11 (by decide) hF hG hR
  have e0 : FX8_give 0 (nI w) (mk g) = FX8_give_27 fu 0 (nI w) (nI (gv0 q K 0).1) (ho (gv0 q K 0).2) (nI 0) (mk g1) := by
    simp -dsimp -implicitDefEqProofs (disch := omega) only [bnd_u, gd_t, if_true, if_false, ↓reduceIte, eq_self, true_or, or_true, false_or, or_false, not_true_eq_false, not_false_eq_true, and_true, true_and, and_false, false_and, reduceCtorEq, nI_ge, nI_le, nI_lt, nI_nlt, nI_ne, nI_te, nm_eq, mn_eq, nm_le, mn_le, nm_lt, mn_lt, pk_mul, nI_add, pk_sub, nI_clamp, eX8_give, c_flag hw, hTop, hFam, e1, show (gv0 q K 0).1 = wn q from rfl, show ho (gv0 q K 0).2 = mi 4 from rfl]
  rw [e0]
  refine lp_0 (σ := Gg) (fun n k u => FX8_give_27 n 0 (nI w) (nI (gv0 q K k).1) (ho (gv0 q K k).2) (nI k) (mk u)) 10 (fun _ u => Fr [32, 33, 34, 46] g u) (fun o => ∃ g', o = some (fin2 w (gv0 q K 10), mk g') ∧ Fr [32, 33, 34, 46] g g') (f1.mo (by simp <;> omega)) (by decide) ?_ ?_
  · intro n a u ha hu
    obtain ⟨g2, e2, f2⟩ := c_gv1 (m := n) (x := nI w) (hF.f hu (by decide)) hG (hR.f hu (by decide)) ha (gv0_bd hG a (by omega))
    refine Or.inr ⟨g2, ?_, hu.tr f2 (fun c hc => ⟨hc, hc⟩)⟩
    rw [show gv0 q K (a + 1) = gv1 q a (gv0 q K a) K from rfl, ← e2]
    simp -dsimp -implicitDefEqProofs (disch := omega) only [bnd_u, gd_t, if_true, if_false, ↓reduceIte, eq_self, true_or, or_true, false_or, or_false, not_true_eq_false, not_false_eq_true, and_true, true_and, and_false, false_and, reduceCtorEq, nI_ge, nI_le, nI_lt, nI_nlt, nI_ne, nI_te, nm_eq, mn_eq, nm_le, mn_le, nm_lt, mn_lt, pk_mul, nI_add, pk_sub, nI_clamp, eX8_give_27]
  · intro n u hu
    have b := (gv0_bd hG 10 (Nat.le_refl _)).2
    refine ⟨u, ?_, hu⟩
    unfold fin2
    by_cases z : (gv0 q K 10).2 = 0
    · simp -dsimp -implicitDefEqProofs (disch := omega) only [bnd_u, gd_t, if_true, if_false, ↓reduceIte, eq_self, true_or, or_true, false_or, or_false, not_true_eq_false, not_false_eq_true, and_true, true_and, and_false, false_and, reduceCtorEq, nI_ge, nI_le, nI_lt, nI_nlt, nI_ne, nI_te, nm_eq, mn_eq, nm_le, mn_le, nm_lt, mn_lt, pk_mul, nI_add, pk_sub, nI_clamp, eX8_give_27, eX8_give_102, eX8_give_107, z, show ho 0 = mi 4 from rfl]
    · by_cases y : w = 0
      · simp -dsimp -implicitDefEqProofs (disch := omega) only [bnd_u, gd_t, if_true, if_false, ↓reduceIte, eq_self, true_or, or_true, false_or, or_false, not_true_eq_false, not_false_eq_true, and_true, true_and, and_false, false_and, reduceCtorEq, nI_ge, nI_le, nI_lt, nI_nlt, nI_ne, nI_te, nm_eq, mn_eq, nm_le, mn_le, nm_lt, mn_lt, pk_mul, nI_add, pk_sub, nI_clamp, eX8_give_27, eX8_give_102, eX8_give_107, ho_s (show 0 < (gv0 q K 10).2 by omega), z, y]
      · simp -dsimp -implicitDefEqProofs (disch := omega) only [bnd_u, gd_t, if_true, if_false, ↓reduceIte, eq_self, true_or, or_true, false_or, or_false, not_true_eq_false, not_false_eq_true, and_true, true_and, and_false, false_and, reduceCtorEq, nI_ge, nI_le, nI_lt, nI_nlt, nI_ne, nI_te, nm_eq, mn_eq, nm_le, mn_le, nm_lt, mn_lt, pk_mul, nI_add, pk_sub, nI_clamp, eX8_give_27, eX8_give_102, eX8_give_107, ho_s (show 0 < (gv0 q K 10).2 by omega), z, y]
/-- put back, nothing has changed -/
theorem up_0 {g : Gg} {c i : Nat} {x : Int32} (h : g c i = x) : up g c i x = g := by
  funext d
  by_cases e : d = c
  · rw [e, up_c]; exact fa_upd_same h
  · rw [up_n e]
theorem up_2 {g : Gg} {c i : Nat} {x y : Int32} : up (up g c i x) c i y = up g c i y := by
  funext d
  by_cases e : d = c
  · rw [e, up_c, up_c, up_c]; exact fa_upd_twice _ _ _ _
  · rw [up_n e, up_n e, up_n e]
theorem up_w {g : Gg} {c i j : Nat} {x y : Int32} (h : i ≠ j) : up (up g c i x) c j y = up (up g c j y) c i x := by
  funext d
  by_cases e : d = c
  · rw [e, up_c, up_c, up_c, up_c]; exact fa_upd_swap _ h _ _
  · rw [up_n e, up_n e, up_n e, up_n e]
theorem m_sw1 {g : Gg} {q : Nat → Nat} {K a m : Nat} {x : Int32} {s : Nat × Nat} (hM : Ms g q K) (hG : Gd q K) (ha : a < 10) (hs : Bd s) : FX9_swap_36 m fu 78 x (nI s.1) (ho s.2) (nI a) (nI (a + 1)) (mk g) = FX9_swap_23 m 78 x (nI (sw1 q a s (9 - a)).1) (ho (sw1 q a s (9 - a)).2) (nI (a + 1)) (mk g) := by
  refine lp_0 (σ := Unit) (fun n k _ => FX9_swap_36 m n 78 x (nI (sw1 q a s k).1) (ho (sw1 q a s k).2) (nI a) (nI (a + 1 + k)) (mk g)) (9 - a) (fun _ _ => True) (fun o => o = FX9_swap_23 m 78 x (nI (sw1 q a s (9 - a)).1) (ho (sw1 q a s (9 - a)).2) (nI (a + 1)) (mk g)) (s := ()) trivial (by rw [fu_1]; omega) ?_ ?_
  · intro n k _ hk _
    have b1 := (sw1_bd hG ha hs k (by omega)).1
    have b2 := wn_45 (swp_G (b := a + 1 + k) hG ha (by omega))
    have r1 : g 79 (26 + a) = nI (q (26 + a)) := by have := hM.2 (26 + a) (by omega); rw [Nat.zero_add] at this; exact this
    have r2 : g 79 (26 + (a + 1 + k)) = nI (q (26 + (a + 1 + k))) := by have := hM.2 (26 + (a + 1 + k)) (by omega); rw [Nat.zero_add] at this; exact this
    have e1 : FX9_worthNow 78 (mk (up (up g 79 (26 + a) (nI (q (26 + (a + 1 + k))))) 79 (26 + (a + 1 + k)) (nI (q (26 + a))))) = some (nI (wn (swp q a (a + 1 + k))), mk (up (up g 79 (26 + a) (nI (q (26 + (a + 1 + k))))) 79 (26 + (a + 1 + k)) (nI (q (26 + a))))) := m_now (Ms_pt (Ms_pt (v := q (26 + (a + 1 + k))) hM (show 26 + a < 74 by omega)) (show 26 + (a + 1 + k) < 74 by omega)) (swp_G (b := a + 1 + k) hG ha (by omega))
    have e3 : up (up (up (up g 79 (26 + a) (nI (q (26 + (a + 1 + k))))) 79 (26 + (a + 1 + k)) (nI (q (26 + a)))) 79 (26 + a) (nI (q (26 + a)))) 79 (26 + (a + 1 + k)) (nI (q (26 + (a + 1 + k)))) = g := by
      rw [up_w (show 26 + (a + 1 + k) ≠ 26 + a by omega), up_2, up_2, up_0 r1, up_0 r2]
    refine Or.inr ⟨(), ?_, trivial⟩
    rw [show a + 1 + (k + 1) = a + 1 + k + 1 from rfl]
    by_cases c : wn (swp q a (a + 1 + k)) ≤ (sw1 q a s k).1
    · have e2 : sw1 q a s (k + 1) = sw1 q a s k := if_pos c
      rw [e2]
      simp -dsimp -implicitDefEqProofs (disch := omega) only [bnd_u, gd_t, if_true, if_false, ↓reduceIte, eq_self, true_or, or_true, false_or, or_false, not_true_eq_false, not_false_eq_true, and_true, true_and, and_false, false_and, reduceCtorEq, nI_ge, nI_le, nI_lt, nI_nlt, nI_ne, nI_te, nm_eq, mn_eq, nm_le, mn_le, nm_lt, mn_lt, pk_mul, nI_add, pk_sub, nI_clamp, eX9_swap_36, eX9_swap_139, eX9_swap_152, hMo, r1, r2, e1, e3]
    · have e2 : sw1 q a s (k + 1) = (wn (swp q a (a + 1 + k)), 10 * a + (a + 1 + k) + 1) := if_neg c
      rw [e2]
      simp -dsimp -implicitDefEqProofs (disch := omega) only [bnd_u, gd_t, if_true, if_false, ↓reduceIte, eq_self, true_or, or_true, false_or, or_false, not_true_eq_false, not_false_eq_true, and_true, true_and, and_false, false_and, reduceCtorEq, nI_ge, nI_le, nI_lt, nI_nlt, nI_ne, nI_te, nm_eq, mn_eq, nm_le, mn_le, nm_lt, mn_lt, pk_mul, nI_add, pk_sub, nI_clamp, eX9_swap_36, eX9_swap_139, eX9_swap_152, hMo, r1, r2, e1, e3, ho_p]
  · intro n _ _
    simp -dsimp -implicitDefEqProofs (disch := omega) only [bnd_u, gd_t, if_true, if_false, ↓reduceIte, eq_self, true_or, or_true, false_or, or_false, not_true_eq_false, not_false_eq_true, and_true, true_and, and_false, false_and, reduceCtorEq, nI_ge, nI_le, nI_lt, nI_nlt, nI_ne, nI_te, nm_eq, mn_eq, nm_le, mn_le, nm_lt, mn_lt, pk_mul, nI_add, pk_sub, nI_clamp, eX9_swap_36]
theorem m_swap {g : Gg} {q : Nat → Nat} {K w : Nat} (hM : Ms g q K) (hG : Gd q K) (hw : w < 2) : FX9_swap 78 (nI w) (mk g) = some (fin2 w (sw0 q 10), mk g) := by
  have i1 : FX9_in (nI w).toInt64 (lN 0) (lN 1) (mk g) = some (nI 1, mk g) := m_0n (n := 2) hw (by omega)
  have e0 : FX9_swap 78 (nI w) (mk g) = FX9_swap_23 fu 78 (nI w) (nI (sw0 q 0).1) (ho (sw0 q 0).2) (nI 0) (mk g) := by
    simp -dsimp -implicitDefEqProofs (disch := omega) only [bnd_u, gd_t, if_true, if_false, ↓reduceIte, eq_self, true_or, or_true, false_or, or_false, not_true_eq_false, not_false_eq_true, and_true, true_and, and_false, false_and, reduceCtorEq, nI_ge, nI_le, nI_lt, nI_nlt, nI_ne, nI_te, nm_eq, mn_eq, nm_le, mn_le, nm_lt, mn_lt, pk_mul, nI_add, pk_sub, nI_clamp, eX9_swap, i1, hMo, m_now hM hG, show (sw0 q 0).1 = wn q from rfl, show ho (sw0 q 0).2 = mi 4 from rfl]
  rw [e0]
  refine lp_0 (σ := Unit) (fun n k _ => FX9_swap_23 n 78 (nI w) (nI (sw0 q k).1) (ho (sw0 q k).2) (nI k) (mk g)) 10 (fun _ _ => True) (fun o => o = some (fin2 w (sw0 q 10), mk g)) (s := ()) trivial (by decide) ?_ ?_
  · intro n a _ ha _
    refine Or.inr ⟨(), ?_, trivial⟩
    rw [show sw0 q (a + 1) = sw1 q a (sw0 q a) (9 - a) from rfl, ← m_sw1 hM hG ha (sw0_bd hG a (by omega))]
    simp -dsimp -implicitDefEqProofs (disch := omega) only [bnd_u, gd_t, if_true, if_false, ↓reduceIte, eq_self, true_or, or_true, false_or, or_false, not_true_eq_false, not_false_eq_true, and_true, true_and, and_false, false_and, reduceCtorEq, nI_ge, nI_le, nI_lt, nI_nlt, nI_ne, nI_te, nm_eq, mn_eq, nm_le, mn_le, nm_lt, mn_lt, pk_mul, nI_add, pk_sub, nI_clamp, eX9_swap_23]
  · intro n _ _
    have b := (sw0_bd hG 10 (Nat.le_refl _)).2
    unfold fin2
    by_cases z : (sw0 q 10).2 = 0
    · simp -dsimp -implicitDefEqProofs (disch := omega) only [bnd_u, gd_t, if_true, if_false, ↓reduceIte, eq_self, true_or, or_true, false_or, or_false, not_true_eq_false, not_false_eq_true, and_true, true_and, and_false, false_and, reduceCtorEq, nI_ge, nI_le, nI_lt, nI_nlt, nI_ne, nI_te, nm_eq, mn_eq, nm_le, mn_le, nm_lt, mn_lt, pk_mul, nI_add, pk_sub, nI_clamp, eX9_swap_23, eX9_swap_175, eX9_swap_180, z, show ho 0 = mi 4 from rfl]
    · by_cases y : w = 0
      · simp -dsimp -implicitDefEqProofs (disch := omega) only [bnd_u, gd_t, if_true, if_false, ↓reduceIte, eq_self, true_or, or_true, false_or, or_false, not_true_eq_false, not_false_eq_true, and_true, true_and, and_false, false_and, reduceCtorEq, nI_ge, nI_le, nI_lt, nI_nlt, nI_ne, nI_te, nm_eq, mn_eq, nm_le, mn_le, nm_lt, mn_lt, pk_mul, nI_add, pk_sub, nI_clamp, eX9_swap_23, eX9_swap_175, eX9_swap_180, ho_s (show 0 < (sw0 q 10).2 by omega), z, y]
      · simp -dsimp -implicitDefEqProofs (disch := omega) only [bnd_u, gd_t, if_true, if_false, ↓reduceIte, eq_self, true_or, or_true, false_or, or_false, not_true_eq_false, not_false_eq_true, and_true, true_and, and_false, false_and, reduceCtorEq, nI_ge, nI_le, nI_lt, nI_nlt, nI_ne, nI_te, nm_eq, mn_eq, nm_le, mn_le, nm_lt, mn_lt, pk_mul, nI_add, pk_sub, nI_clamp, eX9_swap_23, eX9_swap_175, eX9_swap_180, ho_s (show 0 < (sw0 q 10).2 by omega), z, y]
theorem m_gv1 {g : Gg} {q : Nat → Nat} {K h m : Nat} {x : Int32} {s : Nat × Nat} (hM : Ms g q K) (hG : Gd q K) (hh : h < 10) (hs : Bd s) : FX9_give_45 m fu 78 x (nI s.1) (ho s.2) (nI h) (nI (q (26 + h))) (nI 0) (mk g) = FX9_give_23 m 78 x (nI (gv1 q h s K).1) (ho (gv1 q h s K).2) (nI (h + 1)) (mk g) := by
  have hK := hG.K
  have r1 : g 79 (26 + h) = nI (q (26 + h)) := by have := hM.2 (26 + h) (by omega); rw [Nat.zero_add] at this; exact this
  refine lp_0 (σ := Gg) (fun n k u => FX9_give_45 m n 78 x (nI (gv1 q h s k).1) (ho (gv1 q h s k).2) (nI h) (nI (q (26 + h))) (nI k) (mk u)) K (fun _ u => ∃ y, u = up g 79 (26 + h) y) (fun o => o = FX9_give_23 m 78 x (nI (gv1 q h s K).1) (ho (gv1 q h s K).2) (nI (h + 1)) (mk g)) (s := g) ⟨_, (up_0 r1).symm⟩ (by rw [fu_1]; omega) ?_ ?_
  · intro n k u hk ⟨y, hu⟩
    subst hu
    have b1 := (gv1_bd hG hh hs k (by omega)).1
    have b2 := wn_45 (Gd_ro (v := k + 1) hG hh (by omega))
    have e1 := m_now (Ms_pt (v := k + 1) hM (show 26 + h < 74 by omega)) (Gd_ro hG hh (show k + 1 ≤ K by omega))
    have k2 : up g 79 (26 + h) y 78 2 = nI K := by rw [up_n (by decide)]; exact hM.1
    refine Or.inr ⟨up g 79 (26 + h) (nI (k + 1)), ?_, ⟨_, rfl⟩⟩
    by_cases c : wn (pt q (26 + h) (k + 1)) ≤ (gv1 q h s k).1
    · have e2 : gv1 q h s (k + 1) = gv1 q h s k := if_pos c
      rw [e2]
      simp -dsimp -implicitDefEqProofs (disch := omega) only [bnd_u, gd_t, if_true, if_false, ↓reduceIte, eq_self, true_or, or_true, false_or, or_false, not_true_eq_false, not_false_eq_true, and_true, true_and, and_false, false_and, reduceCtorEq, nI_ge, nI_le, nI_lt, nI_nlt, nI_ne, nI_te, nm_eq, mn_eq, nm_le, mn_le, nm_lt, mn_lt, pk_mul, nI_add, pk_sub, nI_clamp, eX9_give_45, eX9_give_92, eX9_give_105, hMo, k2, up_2, e1]
    · have e2 : gv1 q h s (k + 1) = (wn (pt q (26 + h) (k + 1)), 10 * h + k + 1) := if_neg c
      rw [e2]
      simp -dsimp -implicitDefEqProofs (disch := omega) only [bnd_u, gd_t, if_true, if_false, ↓reduceIte, eq_self, true_or, or_true, false_or, or_false, not_true_eq_false, not_false_eq_true, and_true, true_and, and_false, false_and, reduceCtorEq, nI_ge, nI_le, nI_lt, nI_nlt, nI_ne, nI_te, nm_eq, mn_eq, nm_le, mn_le, nm_lt, mn_lt, pk_mul, nI_add, pk_sub, nI_clamp, eX9_give_45, eX9_give_92, eX9_give_105, hMo, k2, up_2, e1, ho_p]
  · intro n u ⟨y, hu⟩
    subst hu
    have k2 : up g 79 (26 + h) y 78 2 = nI K := by rw [up_n (by decide)]; exact hM.1
    simp -dsimp -implicitDefEqProofs (disch := omega) only [bnd_u, gd_t, if_true, if_false, ↓reduceIte, eq_self, true_or, or_true, false_or, or_false, not_true_eq_false, not_false_eq_true, and_true, true_and, and_false, false_and, reduceCtorEq, nI_ge, nI_le, nI_lt, nI_nlt, nI_ne, nI_te, nm_eq, mn_eq, nm_le, mn_le, nm_lt, mn_lt, pk_mul, nI_add, pk_sub, nI_clamp, eX9_give_45, hMo, k2, up_2, up_0 r1]
theorem m_give {g : Gg} {q : Nat → Nat} {K w : Nat} (hM : Ms g q K) (hG : Gd q K) (hw : w < 2) : FX9_give 78 (nI w) (mk g) = some (fin2 w (gv0 q K 10), mk g) := by
  have i1 : FX9_in (nI w).toInt64 (lN 0) (lN 1) (mk g) = some (nI 1, mk g) := m_0n (n := 2) hw (by omega)
  have e0 : FX9_give 78 (nI w) (mk g) = FX9_give_23 fu 78 (nI w) (nI (gv0 q K 0).1) (ho (gv0 q K 0).2) (nI 0) (mk g) := by
    simp -dsimp -implicitDefEqProofs (disch := omega) only [bnd_u, gd_t, if_true, if_false, ↓reduceIte, eq_self, true_or, or_true, false_or, or_false, not_true_eq_false, not_false_eq_true, and_true, true_and, and_false, false_and, reduceCtorEq, nI_ge, nI_le, nI_lt, nI_nlt, nI_ne, nI_te, nm_eq, mn_eq, nm_le, mn_le, nm_lt, mn_lt, pk_mul, nI_add, pk_sub, nI_clamp, eX9_give, i1, hMo, m_now hM hG, show (gv0 q K 0).1 = wn q from rfl, show ho (gv0 q K 0).2 = mi 4 from rfl]
  rw [e0]
  refine lp_0 (σ := Unit) (fun n k _ => FX9_give_23 n 78 (nI w) (nI (gv0 q K k).1) (ho (gv0 q K k).2) (nI k) (mk g)) 10 (fun _ _ => True) (fun o => o = some (fin2 w (gv0 q K 10), mk g)) (s := ()) trivial (by decide) ?_ ?_
  · intro n a _ ha _
    refine Or.inr ⟨(), ?_, trivial⟩
    rw [show gv0 q K (a + 1) = gv1 q a (gv0 q K a) K from rfl, ← m_gv1 hM hG ha (gv0_bd hG a (by omega))]
    simp -dsimp -implicitDefEqProofs (disch := omega) only [bnd_u, gd_t, if_true, if_false, ↓reduceIte, eq_self, true_or, or_true, false_or, or_false, not_true_eq_false, not_false_eq_true, and_true, true_and, and_false, false_and, reduceCtorEq, nI_ge, nI_le, nI_lt, nI_nlt, nI_ne, nI_te, nm_eq, mn_eq, nm_le, mn_le, nm_lt, mn_lt, pk_mul, nI_add, pk_sub, nI_clamp, eX9_give_23, hMo, hM.a]
  · intro n _ _
    have b := (gv0_bd hG 10 (Nat.le_refl _)).2
    unfold fin2
    by_cases z : (gv0 q K 10).2 = 0
    · simp -dsimp -implicitDefEqProofs (disch := omega) only [bnd_u, gd_t, if_true, if_false, ↓reduceIte, eq_self, true_or, or_true, false_or, or_false, not_true_eq_false, not_false_eq_true, and_true, true_and, and_false, false_and, reduceCtorEq, nI_ge, nI_le, nI_lt, nI_nlt, nI_ne, nI_te, nm_eq, mn_eq, nm_le, mn_le, nm_lt, mn_lt, pk_mul, nI_add, pk_sub, nI_clamp, eX9_give_23, eX9_give_140, eX9_give_145, z, show ho 0 = mi 4 from rfl]
    · by_cases y : w = 0
      · simp -dsimp -implicitDefEqProofs (disch := omega) only [bnd_u, gd_t, if_true, if_false, ↓reduceIte, eq_self, true_or, or_true, false_or, or_false, not_true_eq_false, not_false_eq_true, and_true, true_and, and_false, false_and, reduceCtorEq, nI_ge, nI_le, nI_lt, nI_nlt, nI_ne, nI_te, nm_eq, mn_eq, nm_le, mn_le, nm_lt, mn_lt, pk_mul, nI_add, pk_sub, nI_clamp, eX9_give_23, eX9_give_140, eX9_give_145, ho_s (show 0 < (gv0 q K 10).2 by omega), z, y]
      · simp -dsimp -implicitDefEqProofs (disch := omega) only [bnd_u, gd_t, if_true, if_false, ↓reduceIte, eq_self, true_or, or_true, false_or, or_false, not_true_eq_false, not_false_eq_true, and_true, true_and, and_false, false_and, reduceCtorEq, nI_ge, nI_le, nI_lt, nI_nlt, nI_ne, nI_te, nm_eq, mn_eq, nm_le, mn_le, nm_lt, mn_lt, pk_mul, nI_add, pk_sub, nI_clamp, eX9_give_23, eX9_give_140, eX9_give_145, ho_s (show 0 < (gv0 q K 10).2 by omega), z, y]
theorem sim_swap (x : Int32) : Sim (FX8_swap 0 x) (FX9_swap 78 x) := by
  refine sim_ro (fun g q K hI => ?_)
  rcases in_of x (n := 2) (by omega) with hx | ⟨w, hw, rfl⟩
  · refine ⟨mi 1, same ?_, fun g1 hI1 _ => same ?_⟩
    · simp -dsimp -implicitDefEqProofs (disch := omega) only [bnd_u, gd_t, if_true, if_false, ↓reduceIte, eq_self, true_or, or_true, false_or, or_false, not_true_eq_false, not_false_eq_true, and_true, true_and, and_false, false_and, reduceCtorEq, nI_ge, nI_le, nI_lt, nI_nlt, nI_ne, nI_te, nm_eq, mn_eq, nm_le, mn_le, nm_lt, mn_lt, pk_mul, nI_add, pk_sub, nI_clamp, eX8_swap, c_flagN hx]
    · have hin := m_0nN (M := mk g1) (n := 2) (by omega) (by omega) hx
      simp -dsimp -implicitDefEqProofs (disch := omega) only [bnd_u, gd_t, if_true, if_false, ↓reduceIte, eq_self, true_or, or_true, false_or, or_false, not_true_eq_false, not_false_eq_true, and_true, true_and, and_false, false_and, reduceCtorEq, nI_ge, nI_le, nI_lt, nI_nlt, nI_ne, nI_te, nm_eq, mn_eq, nm_le, mn_le, nm_lt, mn_lt, pk_mul, nI_add, pk_sub, nI_clamp, eX9_swap, hin]
  · obtain ⟨g1, e1, f1⟩ := c_swap hI.F hI.G hI.R hw
    exact ⟨_, some1 e1 f1 (by decide), fun g1 hI1 _ => same (m_swap hI1.M hI.G hw)⟩
theorem sim_give (x : Int32) : Sim (FX8_give 0 x) (FX9_give 78 x) := by
  refine sim_ro (fun g q K hI => ?_)
  rcases in_of x (n := 2) (by omega) with hx | ⟨w, hw, rfl⟩
  · refine ⟨mi 1, same ?_, fun g1 hI1 _ => same ?_⟩
    · simp -dsimp -implicitDefEqProofs (disch := omega) only [bnd_u, gd_t, if_true, if_false, ↓reduceIte, eq_self, true_or, or_true, false_or, or_false, not_true_eq_false, not_false_eq_true, and_true, true_and, and_false, false_and, reduceCtorEq, nI_ge, nI_le, nI_lt, nI_nlt, nI_ne, nI_te, nm_eq, mn_eq, nm_le, mn_le, nm_lt, mn_lt, pk_mul, nI_add, pk_sub, nI_clamp, eX8_give, c_flagN hx]
    · have hin := m_0nN (M := mk g1) (n := 2) (by omega) (by omega) hx
      simp -dsimp -implicitDefEqProofs (disch := omega) only [bnd_u, gd_t, if_true, if_false, ↓reduceIte, eq_self, true_or, or_true, false_or, or_false, not_true_eq_false, not_false_eq_true, and_true, true_and, and_false, false_and, reduceCtorEq, nI_ge, nI_le, nI_lt, nI_nlt, nI_ne, nI_te, nm_eq, mn_eq, nm_le, mn_le, nm_lt, mn_lt, pk_mul, nI_add, pk_sub, nI_clamp, eX9_give, hin]
  · obtain ⟨g1, e1, f1⟩ := c_give hI.F hI.G hI.R hw
    exact ⟨_, some1 e1 f1 (by decide), fun g1 hI1 _ => same (m_give hI1.M hI.G hw)⟩
