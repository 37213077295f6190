/-! read -/
theorem hC_t {g : Gg} : h_C (mk g) 11 46 (nI 0) (nI 0) (nI 10) = some (mk (upc g 46 (va_cpy (g 11) (g 46) 0 0 10))) := t_C (n0 := 10) (n1 := 10) rfl rfl (by decide) (by decide) (by decide) (by decide)
theorem hC_b {g : Gg} : h_C (mk g) 46 11 (nI 0) (nI 0) (nI 10) = some (mk (upc g 11 (va_cpy (g 46) (g 11) 0 0 10))) := t_C (n0 := 10) (n1 := 10) rfl rfl (by decide) (by decide) (by decide) (by decide)
theorem c_trial {g : Gg} : FX8_takeTrial 0 (mk g) = some ((), mk (upc g 46 (va_cpy (g 11) (g 46) 0 0 10))) := by
  simp -dsimp -implicitDefEqProofs (disch := omega) only [bnd_u, gd_t, if_true, if_false, ↓reduceIte, eq_self, true_or, or_true, false_or, or_false, not_true_eq_false, not_false_eq_true, and_true, true_and, and_false, false_and, reduceCtorEq, nI_ge, nI_le, nI_lt, nI_nlt, nI_ne, nI_te, nm_eq, mn_eq, nm_le, mn_le, nm_lt, mn_lt, pk_mul, nI_add, pk_sub, nI_clamp, eX8_takeTrial, hTop, hFam, hC_t]
theorem Ro_cpy {c d : Nat → Int32} {q : Nat → Nat} (h : Ro c q) : Ro (va_cpy c d 0 0 10) q := fun i hi => by
  rw [cpy0 hi]; exact h i hi
theorem ad0 (x : Int32) : x + nI 0 = x := Int32.add_zero x
theorem ad0L (x : Int64) : x + lN 0 = x := Int64.add_zero x
theorem p_cell {g : Gg} {po pc n i : Nat} (hP : Pgx po pc) (h : g po 2 = nI n) (hn : n ≤ 40) (hi : i < n) : FX3_cellAt po (nI i) (mk g) = some (g pc i, mk g) := by
  simp -dsimp -implicitDefEqProofs (disch := omega) only [bnd_u, gd_t, if_true, if_false, ↓reduceIte, eq_self, true_or, or_true, false_or, or_false, not_true_eq_false, not_false_eq_true, and_true, true_and, and_false, false_and, reduceCtorEq, nI_ge, nI_le, nI_lt, nI_nlt, nI_ne, nI_te, nm_eq, mn_eq, nm_le, mn_le, nm_lt, mn_lt, pk_mul, nI_add, pk_sub, nI_clamp, eX3_cellAt, eX3_cellAt_22, hP.i2, h, hP.r, hP.a]
theorem p_pair0 {g : Gg} {po pc : Nat} {x y : Int32} (hP : Pgx po pc) (h : g po 2 = mi 4) : FX3_faultOfPair po x y (mk g) = some (nI 1, mk g) := by
  simp -dsimp -implicitDefEqProofs (disch := omega) only [bnd_u, gd_t, if_true, if_false, ↓reduceIte, eq_self, true_or, or_true, false_or, or_false, not_true_eq_false, not_false_eq_true, and_true, true_and, and_false, false_and, reduceCtorEq, nI_ge, nI_le, nI_lt, nI_nlt, nI_ne, nI_te, nm_eq, mn_eq, nm_le, mn_le, nm_lt, mn_lt, pk_mul, nI_add, pk_sub, nI_clamp, eX3_faultOfPair, eX3_faultOfPair_19, eX3_faultOfPair_40, hP.i2, hP.k, h, p_fault0 hP h]
theorem p_pair3 {g : Gg} {po pc n l m : Nat} {y : Int32} (hP : Pgx po pc) (h : g po 2 = nI n) (hn : n ≤ 40) (h1 : g po 1 = nI l) (hl : l ≠ m) (hl2 : l < 3) (hm : m < 3) : FX3_faultOfPair po (nI m) y (mk g) = some (nI 3, mk g) := by
  simp -dsimp -implicitDefEqProofs (disch := omega) only [bnd_u, gd_t, if_true, if_false, ↓reduceIte, eq_self, true_or, or_true, false_or, or_false, not_true_eq_false, not_false_eq_true, and_true, true_and, and_false, false_and, reduceCtorEq, nI_ge, nI_le, nI_lt, nI_nlt, nI_ne, nI_te, nm_eq, mn_eq, nm_le, mn_le, nm_lt, mn_lt, pk_mul, nI_add, pk_sub, nI_clamp, eX3_faultOfPair, hP.i2, hP.i1, hP.k, h, h1]
theorem p_pairN {g : Gg} {po pc n l : Nat} {y : Int32} (hP : Pgx po pc) (h : g po 2 = nI n) (hn : n ≤ 40) (h1 : g po 1 = nI l) (hy : y < nI 0 ∨ (¬ y < nI 0 ∧ nI n ≤ y)) : FX3_faultOfPair po (nI l) y (mk g) = some (nI 2, mk g) := by
  simp -dsimp -implicitDefEqProofs (disch := omega) only [bnd_u, gd_t, if_true, if_false, ↓reduceIte, eq_self, true_or, or_true, false_or, or_false, not_true_eq_false, not_false_eq_true, and_true, true_and, and_false, false_and, reduceCtorEq, nI_ge, nI_le, nI_lt, nI_nlt, nI_ne, nI_te, nm_eq, mn_eq, nm_le, mn_le, nm_lt, mn_lt, pk_mul, nI_add, pk_sub, nI_clamp, eX3_faultOfPair, eX3_faultOfPair_19, eX3_faultOfPair_40, hP.i2, hP.i1, hP.k, h, h1, p_faultN hP h hn hy]
theorem hx_ge {n i : Nat} (h : n ≤ i) (hi : i < 2 ^ 31) : nI i < nI 0 ∨ (¬ nI i < nI 0 ∧ nI n ≤ nI i) := Or.inr ⟨fun h2 => by have := (fa_lt _ _).mp h2; rw [nI_toInt hi, nI_toInt (by decide)] at this; omega, by rw [fa_le, nI_toInt hi, nI_toInt (by omega)]; omega⟩
theorem p_pair2 {g : Gg} {po pc n l i : Nat} (hP : Pgx po pc) (h : g po 2 = nI n) (hn : n ≤ 40) (h1 : g po 1 = nI l) (hi : n ≤ i + 1) (hi2 : i < 1000) : FX3_faultOfPair po (nI l) (nI i) (mk g) = some (nI 2, mk g) := by
  by_cases e : n ≤ i
  · exact p_pairN hP h hn h1 (hx_ge e (by omega))
  · simp -dsimp -implicitDefEqProofs (disch := omega) only [bnd_u, gd_t, if_true, if_false, ↓reduceIte, eq_self, true_or, or_true, false_or, or_false, not_true_eq_false, not_false_eq_true, and_true, true_and, and_false, false_and, reduceCtorEq, nI_ge, nI_le, nI_lt, nI_nlt, nI_ne, nI_te, nm_eq, mn_eq, nm_le, mn_le, nm_lt, mn_lt, pk_mul, nI_add, pk_sub, nI_clamp, eX3_faultOfPair, eX3_faultOfPair_19, eX3_faultOfPair_40, hP.i2, hP.i1, hP.k, h, h1, p_fault hP h hn (show i < n by omega), p_faultN hP h hn (hx_ge hi (show i + 1 < 2 ^ 31 by omega))]
theorem p_pair {g : Gg} {po pc n l i : Nat} (hP : Pgx po pc) (h : g po 2 = nI n) (hn : n ≤ 40) (h1 : g po 1 = nI l) (hi : i + 1 < n) : FX3_faultOfPair po (nI l) (nI i) (mk g) = some (nI 0, mk g) := by
  simp -dsimp -implicitDefEqProofs (disch := omega) only [bnd_u, gd_t, if_true, if_false, ↓reduceIte, eq_self, true_or, or_true, false_or, or_false, not_true_eq_false, not_false_eq_true, and_true, true_and, and_false, false_and, reduceCtorEq, nI_ge, nI_le, nI_lt, nI_nlt, nI_ne, nI_te, nm_eq, mn_eq, nm_le, mn_le, nm_lt, mn_lt, pk_mul, nI_add, pk_sub, nI_clamp, eX3_faultOfPair, eX3_faultOfPair_19, eX3_faultOfPair_40, hP.i2, hP.i1, hP.k, h, h1, p_fault hP h hn (show i < n by omega), p_fault hP h hn (show i + 1 < n by omega)]
/-- what the class's loop knows; what the reference's knows -/
def Rdc (g : Gg) (k l L : Nat) (A : Nat → Int32) (p : Nat → Nat) (K : Nat) : Prop := Gd p K ∧ F1 g p K ∧ Ro (g 46) p ∧ g (70 + 2 * k) 1 = nI l ∧ g (70 + 2 * k) 2 = nI L ∧ ∀ i, i < 40 → g (71 + 2 * k) i = A i
def Rdm (G : Gg) (k l L : Nat) (A : Nat → Int32) (p : Nat → Nat) (K : Nat) : Prop := Ms G p K ∧ G 91 k = nI l ∧ G 92 k = nI L ∧ ∀ i, i < 40 → G 93 (40 * k + i) = A i
/-- the class's end, the reference's end -/
theorem rd_ce {g : Gg} {c ft : Nat} : FX8_read_133 0 (nI c) (nI ft) (mk g) = some (nI c, mk (up (upc g 11 (va_cpy (g 46) (g 11) 0 0 10)) 0 13 (nI ft))) := by
  simp -dsimp -implicitDefEqProofs (disch := omega) only [bnd_u, gd_t, if_true, if_false, ↓reduceIte, eq_self, true_or, or_true, false_or, or_false, not_true_eq_false, not_false_eq_true, and_true, true_and, and_false, false_and, reduceCtorEq, nI_ge, nI_le, nI_lt, nI_nlt, nI_ne, nI_te, nm_eq, mn_eq, nm_le, mn_le, nm_lt, mn_lt, pk_mul, nI_add, pk_sub, nI_clamp, eX8_read_133, hTop, hFam, hC_b]
theorem rd_me {g : Gg} {c ft : Nat} : FX9_read_199 78 (nI ft) (nI c) (mk g) = some (nI c, mk (up g 78 31 (nI ft))) := by
  simp -dsimp -implicitDefEqProofs (disch := omega) only [bnd_u, gd_t, if_true, if_false, ↓reduceIte, eq_self, true_or, or_true, false_or, or_false, not_true_eq_false, not_false_eq_true, and_true, true_and, and_false, false_and, reduceCtorEq, nI_ge, nI_le, nI_lt, nI_nlt, nI_ne, nI_te, nm_eq, mn_eq, nm_le, mn_le, nm_lt, mn_lt, pk_mul, nI_add, pk_sub, nI_clamp, eX9_read_199, hMo]
def Rgood (g g' : Gg) (p' : Nat → Nat) (K ft : Nat) : Prop := Gd p' K ∧ F1 g' p' K ∧ Ro (g' 11) p' ∧ g' 0 = upd (g 0) 13 (nI ft) ∧ Fr [0, 11, 46] g g'
def Mgood (G G' : Gg) (p' : Nat → Nat) (K ft : Nat) : Prop := Fr [78, 79] G G' ∧ Md (G' 79) 0 p' ∧ (∀ j, 74 ≤ j → G' 79 j = G 79 j) ∧ G' 78 = upd (G 78) 31 (nI ft)
theorem rd_cg {g : Gg} {p : Nat → Nat} {K ft : Nat} (hG : Gd p K) (hF : F1 g p K) (hR : Ro (g 46) p) : Rgood g (up (upc g 11 (va_cpy (g 46) (g 11) 0 0 10)) 0 13 (nI ft)) p K ft := by
  have f1 : Fr [0, 11, 46] g (upc g 11 (va_cpy (g 46) (g 11) 0 0 10)) := Fr.c (by decide)
  have f2 : Fr [0, 11, 46] g (up (upc g 11 (va_cpy (g 46) (g 11) 0 0 10)) 0 13 (nI ft)) := f1.tr (Fr.c (l := [0, 11, 46]) (by decide)) (fun c hc => ⟨hc, hc⟩)
  refine ⟨hG, hF.f f2 (by decide), ?_, ?_, f2⟩
  · rw [up_n (by decide), upc_s]; exact Ro_cpy hR
  · rw [up_c, upc_n (by decide)]
theorem rd_mg {G : Gg} {p : Nat → Nat} {K ft : Nat} (hM : Ms G p K) : Mgood G (up G 78 31 (nI ft)) p K ft := by
  refine ⟨Fr.c (by decide), ?_, fun j _ => ?_, up_c⟩
  · rw [up_n (by decide)]; exact hM.2
  · rw [up_n (by decide)]
theorem ho_nm1 {r : Nat} (h : r ≤ 10) : (ho r = mi 1) = False := by
  by_cases z : r = 0
  · rw [ho_0 z]; exact eq_false (by decide)
  · rw [ho_s (by omega)]; exact nm_eq (by omega) (by omega) (by omega)
/-- the reference's step at an even place that there is -/
theorem rd_m0 {G : Gg} {k l L F n K c i m : Nat} {A : Nat → Int32} {p : Nat → Nat} (hk : k < 4) (hl : l < 3) (hL : L ≤ 40) (hn : n ≤ 20) (hR : Rdm G k l L A p K) (hc : c < n) (hi : i = 2 * c) (hF : F + i < L) : FX9_read_56 (m + 1) 78 (nI k) (nI l) (nI F) (nI n) (nI 0) (nI c) (nI i) (mk G) = FX9_read_56 m 78 (nI k) (nI l) (nI F) (nI n) (nI 0) (nI c) (nI (i + 1)) (mk G) := by
  obtain ⟨hM, h1, h2, h3⟩ := hR
  simp -dsimp -implicitDefEqProofs (disch := omega) only [bnd_u, gd_t, if_true, if_false, ↓reduceIte, eq_self, true_or, or_true, false_or, or_false, not_true_eq_false, not_false_eq_true, and_true, true_and, and_false, false_and, reduceCtorEq, nI_ge, nI_le, nI_lt, nI_nlt, nI_ne, nI_te, nm_eq, mn_eq, nm_le, mn_le, nm_lt, mn_lt, pk_mul, nI_add, pk_sub, nI_clamp, eX9_read_56, eX9_read_126, eX9_read_193, hMo, h1, h2, nI_s1, nI_l, lN_add, m_in, rem_nI, show i % 2 = 0 by omega]
theorem rd_mN {G : Gg} {k l L F n K c i m : Nat} {A : Nat → Int32} {p : Nat → Nat} (hk : k < 4) (hl : l < 3) (hL : L ≤ 40) (hn : n ≤ 20) (hR : Rdm G k l L A p K) (hi : i < 2 * n) (h0 : 0 < L) (hF : L ≤ F + i) (hF2 : F < 40) : FX9_read_56 (m + 2) 78 (nI k) (nI l) (nI F) (nI n) (nI 0) (nI c) (nI i) (mk G) = some (nI c, mk (up G 78 31 (nI 2))) := by
  obtain ⟨hM, h1, h2, h3⟩ := hR
  have hin : FX9_in (lN (F + i)) (lN 0) (lN (L - 1)) (mk G) = some (nI 0, mk G) := m_inH ((lN_lt (by omega) (by omega)).mpr (by omega))
  have e : FX9_read_56 (m + 2) 78 (nI k) (nI l) (nI F) (nI n) (nI 0) (nI c) (nI i) (mk G) = FX9_read_56 (m + 1) 78 (nI k) (nI l) (nI F) (nI n) (nI 2) (nI c) (nI (i + 1)) (mk G) := by
    simp -dsimp -implicitDefEqProofs (disch := omega) only [bnd_u, gd_t, if_true, if_false, ↓reduceIte, eq_self, true_or, or_true, false_or, or_false, not_true_eq_false, not_false_eq_true, and_true, true_and, and_false, false_and, reduceCtorEq, nI_ge, nI_le, nI_lt, nI_nlt, nI_ne, nI_te, nm_eq, mn_eq, nm_le, mn_le, nm_lt, mn_lt, pk_mul, nI_add, pk_sub, nI_clamp, eX9_read_56 (m + 1), eX9_read_126, eX9_read_193, hMo, h1, h2, nI_s1, nI_l, lN_add, hin]
  rw [e]
  by_cases z : 2 * n ≤ i + 1
  · simp -dsimp -implicitDefEqProofs (disch := omega) only [bnd_u, gd_t, if_true, if_false, ↓reduceIte, eq_self, true_or, or_true, false_or, or_false, not_true_eq_false, not_false_eq_true, and_true, true_and, and_false, false_and, reduceCtorEq, nI_ge, nI_le, nI_lt, nI_nlt, nI_ne, nI_te, nm_eq, mn_eq, nm_le, mn_le, nm_lt, mn_lt, pk_mul, nI_add, pk_sub, nI_clamp, eX9_read_56, rd_me]
  · simp -dsimp -implicitDefEqProofs (disch := omega) only [bnd_u, gd_t, if_true, if_false, ↓reduceIte, eq_self, true_or, or_true, false_or, or_false, not_true_eq_false, not_false_eq_true, and_true, true_and, and_false, false_and, reduceCtorEq, nI_ge, nI_le, nI_lt, nI_nlt, nI_ne, nI_te, nm_eq, mn_eq, nm_le, mn_le, nm_lt, mn_lt, pk_mul, nI_add, pk_sub, nI_clamp, eX9_read_56, rd_me]
theorem rd_m1 {G : Gg} {k l L F n K c i m h r : Nat} {A : Nat → Int32} {p : Nat → Nat} (hk : k < 4) (hl : l < 3) (hL : L ≤ 40) (hn : n ≤ 20) (hR : Rdm G k l L A p K) (hG : Gd p K) (hc : c < n) (hi : i = 2 * c) (hF : F + (i + 1) < L) (hh : h < 10) (hr : r ≤ K) (e1 : A (F + i) = nI h) (e2 : A (F + (i + 1)) = ho r) : FX9_read_56 (m + 1) 78 (nI k) (nI l) (nI F) (nI n) (nI 0) (nI c) (nI (i + 1)) (mk G) = FX9_read_56 m 78 (nI k) (nI l) (nI F) (nI n) (nI 0) (nI (c + 1)) (nI (i + 2)) (mk (up G 79 (26 + h) (nI r))) := by
  obtain ⟨hM, h1, h2, h3⟩ := hR
  have hx1 : ∀ j, j = 40 * k + (F + i) → G 93 j = nI h := fun j hj => by rw [hj, h3 _ (by omega)]; exact e1
  have hx2 : ∀ j, j = 40 * k + (F + (i + 1)) → G 93 j = ho r := fun j hj => by rw [hj, h3 _ (by omega)]; exact e2
  simp -dsimp -implicitDefEqProofs (disch := omega) only [bnd_u, gd_t, if_true, if_false, ↓reduceIte, eq_self, true_or, or_true, false_or, or_false, not_true_eq_false, not_false_eq_true, and_true, true_and, and_false, false_and, reduceCtorEq, nI_ge, nI_le, nI_lt, nI_nlt, nI_ne, nI_te, nm_eq, mn_eq, nm_le, mn_le, nm_lt, mn_lt, pk_mul, nI_add, pk_sub, nI_clamp, eX9_read_56, eX9_read_126, eX9_read_193, hMo, h1, h2, nI_s1, nI_l, lN_add, m_in, rem_nI, show (i + 1) % 2 = 1 by omega, hx1, hx2, m_shifts hM hG hh hr, ho_nm1 (hG.q (26 + h))]
theorem rd_mb {G : Gg} {k l L F n K c i m : Nat} {A : Nat → Int32} {p q : Nat → Nat} (hk : k < 4) (hl : l < 3) (hL : L ≤ 40) (hn : n ≤ 20) (hR : Rdm G k l L A p K) (hG : Gd p K) (hc : c < n) (hi : i = 2 * c) (hF : F + (i + 1) < L) (hQ : Md (G 79) 222 q) (hb : (A (F + i) < nI 0 ∨ (¬ A (F + i) < nI 0 ∧ nI 10 ≤ A (F + i))) ∨ (¬ A (F + (i + 1)) = mi 4 ∧ (A (F + (i + 1)) < nI 0 ∨ (¬ A (F + (i + 1)) < nI 0 ∧ nI K ≤ A (F + (i + 1)))))) : ∃ G', FX9_read_56 (m + 1) 78 (nI k) (nI l) (nI F) (nI n) (nI 0) (nI c) (nI (i + 1)) (mk G) = some (mi 20 - nI c, mk G') ∧ Fr [79] G G' ∧ Md (G' 79) 0 q ∧ ∀ j, 74 ≤ j → j < 222 → G' 79 j = G 79 j := by
  obtain ⟨hM, h1, h2, h3⟩ := hR
  have hx1 : ∀ j, j = 40 * k + (F + i) → G 93 j = A (F + i) := fun j hj => by rw [hj, h3 _ (by omega)]
  have hx2 : ∀ j, j = 40 * k + (F + (i + 1)) → G 93 j = A (F + (i + 1)) := fun j hj => by rw [hj, h3 _ (by omega)]
  obtain ⟨G', e1, f1, c1, c2⟩ := m_copies (g := G) (a := 222) (b := 0) (by omega) (by omega) (by omega)
  refine ⟨G', ?_, f1, fun j hj => ?_, fun j h1 h2 => c2 j (by omega)⟩
  · simp -dsimp -implicitDefEqProofs (disch := omega) only [bnd_u, gd_t, if_true, if_false, ↓reduceIte, eq_self, true_or, or_true, false_or, or_false, not_true_eq_false, not_false_eq_true, and_true, true_and, and_false, false_and, reduceCtorEq, nI_ge, nI_le, nI_lt, nI_nlt, nI_ne, nI_te, nm_eq, mn_eq, nm_le, mn_le, nm_lt, mn_lt, pk_mul, nI_add, pk_sub, nI_clamp, eX9_read_56, eX9_read_126, eX9_read_193, hMo, h1, h2, nI_s1, nI_l, lN_add, m_in, rem_nI, show (i + 1) % 2 = 1 by omega, hx1, hx2, m_shiftsN hM hG.K hb, e1]
  · rw [c1 j hj]; exact hQ j hj
theorem rd_l {k l L F n K : Nat} {A : Nat → Int32} {q : Nat → Nat} (hk : k < 4) (hl : l < 3) (hL : L ≤ 40) (hF : F < L) (hn : n ≤ 20) : ∀ (d c : Nat) (p : Nat → Nat) (g : Gg) (fuel : Nat), c + d = n → d + 2 ≤ fuel → Rdc g k l L A p K → ∃ r g', FX8_read_46 fuel 0 (nI l) (nI F) (nI n) (70 + 2 * k) (nI c) (nI 0) (mk g) = some (r, mk g') ∧ ((∃ p' ft, Rgood g g' p' K ft ∧ ∀ G fuel2 i, 2 * d + 2 ≤ fuel2 → i = 2 * c → Rdm G k l L A p K → ∃ G', FX9_read_56 fuel2 78 (nI k) (nI l) (nI F) (nI n) (nI 0) (nI c) (nI i) (mk G) = some (r, mk G') ∧ Mgood G G' p' K ft) ∨ (Fr [46] g g' ∧ ∀ G fuel2 i, 2 * d + 2 ≤ fuel2 → i = 2 * c → Rdm G k l L A p K → Md (G 79) 222 q → ∃ G', FX9_read_56 fuel2 78 (nI k) (nI l) (nI F) (nI n) (nI 0) (nI c) (nI i) (mk G) = some (r, mk G') ∧ Fr [79] G G' ∧ Md (G' 79) 0 q ∧ ∀ j, 74 ≤ j → j < 222 → G' 79 j = G 79 j))
  | 0, c, p, g, fuel, hc, hf, hC => by
    obtain ⟨hG, hF1, hR, h1, h2, h3⟩ := hC
    obtain ⟨m, rfl⟩ : ∃ m, fuel = m + 1 := ⟨fuel - 1, by omega⟩
    refine ⟨nI c, _, ?_, Or.inl ⟨p, 0, rd_cg hG hF1 hR, fun G fuel2 i hf2 hi hM => ?_⟩⟩
    · simp -dsimp -implicitDefEqProofs (disch := omega) only [bnd_u, gd_t, if_true, if_false, ↓reduceIte, eq_self, true_or, or_true, false_or, or_false, not_true_eq_false, not_false_eq_true, and_true, true_and, and_false, false_and, reduceCtorEq, nI_ge, nI_le, nI_lt, nI_nlt, nI_ne, nI_te, nm_eq, mn_eq, nm_le, mn_le, nm_lt, mn_lt, pk_mul, nI_add, pk_sub, nI_clamp, eX8_read_46, rd_ce]
    · obtain ⟨m2, rfl⟩ : ∃ m2, fuel2 = m2 + 1 := ⟨fuel2 - 1, by omega⟩
      refine ⟨_, ?_, rd_mg hM.1⟩
      simp -dsimp -implicitDefEqProofs (disch := omega) only [bnd_u, gd_t, if_true, if_false, ↓reduceIte, eq_self, true_or, or_true, false_or, or_false, not_true_eq_false, not_false_eq_true, and_true, true_and, and_false, false_and, reduceCtorEq, nI_ge, nI_le, nI_lt, nI_nlt, nI_ne, nI_te, nm_eq, mn_eq, nm_le, mn_le, nm_lt, mn_lt, pk_mul, nI_add, pk_sub, nI_clamp, eX9_read_56, rd_me]
  | d + 1, c, p, g, fuel, hc, hf, hC => by
    have hC0 := hC
    obtain ⟨hG, hF1, hR, h1, h2, h3⟩ := hC
    have hK := hG.K
    have hP := pgk hk
    obtain ⟨m, rfl⟩ : ∃ m, fuel = m + 1 + 1 := ⟨fuel - 2, by omega⟩
    by_cases hE : F + 2 * c + 1 < L
    · have hb : (∃ h r, h < 10 ∧ r ≤ K ∧ A (F + 2 * c) = nI h ∧ A (F + (2 * c + 1)) = ho r) ∨ ((A (F + 2 * c) < nI 0 ∨ (¬ A (F + 2 * c) < nI 0 ∧ nI 10 ≤ A (F + 2 * c))) ∨ (¬ A (F + (2 * c + 1)) = mi 4 ∧ (A (F + (2 * c + 1)) < nI 0 ∨ (¬ A (F + (2 * c + 1)) < nI 0 ∧ nI K ≤ A (F + (2 * c + 1)))))) := by
        rcases in_of (A (F + 2 * c)) (n := 10) (by omega) with hx | ⟨h, hh, e1⟩
        · exact Or.inr (Or.inl hx)
        · rcases sh_of (A (F + (2 * c + 1))) hK with ⟨r, hr, e2⟩ | hy
          · exact Or.inl ⟨h, r, hh, hr, e1, e2⟩
          · exact Or.inr (Or.inr hy)
      rcases hb with ⟨h, r, hh, hr, e1, e2⟩ | hb
      · have q1 : g (71 + 2 * k) (F + 2 * c) = nI h := by rw [h3 _ (by omega)]; exact e1
        have q2 : g (71 + 2 * k) (F + 2 * c + 1) = ho r := by rw [h3 _ (by omega)]; exact e2
        have f0 : Fr [46] g (up g 46 h (ho r)) := Fr.c (by decide)
        have hC1 : Rdc (up g 46 h (ho r)) k l L A (pt p (26 + h) r) K := by
          refine ⟨Gd_ro hG hh hr, (F1_ro hF1 hG hh).f f0 (by decide), ?_, ?_, ?_, fun i hi => ?_⟩
          · rw [up_c]; exact Ro_up hR
          · rw [up_n (by omega)]; exact h1
          · rw [up_n (by omega)]; exact h2
          · rw [up_n (by omega)]; exact h3 i hi
        obtain ⟨rr, g', eg, hh2⟩ := rd_l hk hl hL hF hn d (c + 1) (pt p (26 + h) r) (up g 46 h (ho r)) (m + 1) (by omega) (by omega) hC1
        have hMs : ∀ G, Rdm G k l L A p K → Rdm (up G 79 (26 + h) (nI r)) k l L A (pt p (26 + h) r) K := fun G hM => by
          refine ⟨Ms_pt hM.1 (by omega), ?_, ?_, fun i hi => ?_⟩
          · rw [up_n (by decide)]; exact hM.2.1
          · rw [up_n (by decide)]; exact hM.2.2.1
          · rw [up_n (by decide)]; exact hM.2.2.2 i hi
        refine ⟨rr, g', ?_, ?_⟩
        · rw [← eg]
          simp -dsimp -implicitDefEqProofs (disch := omega) only [bnd_u, gd_t, if_true, if_false, ↓reduceIte, eq_self, true_or, or_true, false_or, or_false, not_true_eq_false, not_false_eq_true, and_true, true_and, and_false, false_and, reduceCtorEq, nI_ge, nI_le, nI_lt, nI_nlt, nI_ne, nI_te, nm_eq, mn_eq, nm_le, mn_le, nm_lt, mn_lt, pk_mul, nI_add, pk_sub, nI_clamp, eX8_read_46 (m + 1), eX8_read_130, hP.k, p_pair hP h2 hL h1 hE, p_cell hP h2 hL (show F + 2 * c < L by omega), p_cell hP h2 hL (show F + 2 * c + 1 < L by omega), q1, q2, hTop, c_shift hF1 hG hh hr]
        · rcases hh2 with ⟨p', ft, hg, hm⟩ | ⟨hg, hm⟩
          · refine Or.inl ⟨p', ft, ⟨hg.1, hg.2.1, hg.2.2.1, ?_, f0.tr hg.2.2.2.2 (by simp <;> omega)⟩, fun G fuel2 i hf2 hi hM => ?_⟩
            · rw [hg.2.2.2.1, up_n (by decide)]
            · obtain ⟨m2, rfl⟩ : ∃ m2, fuel2 = m2 + 1 + 1 := ⟨fuel2 - 2, by omega⟩
              subst hi
              obtain ⟨G', e, b1, b2, b3, b4⟩ := hm (up G 79 (26 + h) (nI r)) m2 (2 * c + 2) (by omega) (by omega) (hMs G hM)
              refine ⟨G', ?_, (Fr.c (l := [78, 79]) (by decide)).tr b1 (fun c hc => ⟨hc, hc⟩), b2, fun j hj => ?_, ?_⟩
              · rw [rd_m0 hk hl hL hn hM (by omega) rfl (by omega), rd_m1 hk hl hL hn hM hG (by omega) rfl (by omega) hh hr e1 e2]; exact e
              · rw [b3 j hj, up_c, pk_un (by omega)]
              · rw [b4, up_n (by decide)]
          · refine Or.inr ⟨f0.tr hg (fun c hc => ⟨hc, hc⟩), fun G fuel2 i hf2 hi hM hQ => ?_⟩
            obtain ⟨m2, rfl⟩ : ∃ m2, fuel2 = m2 + 1 + 1 := ⟨fuel2 - 2, by omega⟩
            subst hi
            obtain ⟨G', e, b1, b2, b3⟩ := hm (up G 79 (26 + h) (nI r)) m2 (2 * c + 2) (by omega) (by omega) (hMs G hM) (fun j hj => by rw [up_c, pk_un (by omega)]; exact hQ j hj)
            refine ⟨G', ?_, (Fr.c (l := [79]) (by decide)).tr b1 (fun c hc => ⟨hc, hc⟩), b2, fun j h1 h2 => ?_⟩
            · rw [rd_m0 hk hl hL hn hM (by omega) rfl (by omega), rd_m1 hk hl hL hn hM hG (by omega) rfl (by omega) hh hr e1 e2]; exact e
            · rw [b3 j h1 h2, up_c, pk_un (by omega)]
      · refine ⟨mi 20 - nI c, g, ?_, Or.inr ⟨Fr.refl, fun G fuel2 i hf2 hi hM hQ => ?_⟩⟩
        · have q1 : g (71 + 2 * k) (F + 2 * c) = A (F + 2 * c) := h3 _ (by omega)
          have q2 : g (71 + 2 * k) (F + 2 * c + 1) = A (F + (2 * c + 1)) := h3 _ (by omega)
          simp -dsimp -implicitDefEqProofs (disch := omega) only [bnd_u, gd_t, if_true, if_false, ↓reduceIte, eq_self, true_or, or_true, false_or, or_false, not_true_eq_false, not_false_eq_true, and_true, true_and, and_false, false_and, reduceCtorEq, nI_ge, nI_le, nI_lt, nI_nlt, nI_ne, nI_te, nm_eq, mn_eq, nm_le, mn_le, nm_lt, mn_lt, pk_mul, nI_add, pk_sub, nI_clamp, eX8_read_46 (m + 1), eX8_read_130, hP.k, p_pair hP h2 hL h1 hE, p_cell hP h2 hL (show F + 2 * c < L by omega), p_cell hP h2 hL (show F + 2 * c + 1 < L by omega), q1, q2, hTop, c_shiftN hF1 hb]
        · obtain ⟨m2, rfl⟩ : ∃ m2, fuel2 = m2 + 1 + 1 := ⟨fuel2 - 2, by omega⟩
          subst hi
          obtain ⟨G', e, b⟩ := rd_mb (m := m2) hk hl hL hn hM hG (show c < n by omega) rfl (by omega) hQ hb
          exact ⟨G', by rw [rd_m0 hk hl hL hn hM (by omega) rfl (by omega)]; exact e, b⟩
    · refine ⟨nI c, _, ?_, Or.inl ⟨p, 2, rd_cg hG hF1 hR, fun G fuel2 i hf2 hi hM => ?_⟩⟩
      · simp -dsimp -implicitDefEqProofs (disch := omega) only [bnd_u, gd_t, if_true, if_false, ↓reduceIte, eq_self, true_or, or_true, false_or, or_false, not_true_eq_false, not_false_eq_true, and_true, true_and, and_false, false_and, reduceCtorEq, nI_ge, nI_le, nI_lt, nI_nlt, nI_ne, nI_te, nm_eq, mn_eq, nm_le, mn_le, nm_lt, mn_lt, pk_mul, nI_add, pk_sub, nI_clamp, eX8_read_46, eX8_read_130, hP.k, p_pair2 hP h2 hL h1 (show L ≤ F + 2 * c + 1 by omega) (by omega), rd_ce]
      · obtain ⟨m2, rfl⟩ : ∃ m2, fuel2 = m2 + 2 + 1 := ⟨fuel2 - 3, by omega⟩
        subst hi
        refine ⟨_, ?_, rd_mg hM.1⟩
        by_cases e : L ≤ F + 2 * c
        · exact rd_mN (m := m2 + 1) hk hl hL hn hM (by omega) (by omega) e (by omega)
        · rw [rd_m0 hk hl hL hn hM (by omega) rfl (by omega)]
          exact rd_mN (m := m2) hk hl hL hn hM (by omega) (by omega) (by omega) (by omega)
theorem Iv.rd {g g' : Gg} {q p : Nat → Nat} {K ft : Nat} (h : Iv g q K) (hf : Fr [0, 11, 46, 78, 79] g g') (h0 : g' 0 = upd (g 0) 13 (nI ft)) (h78 : g' 78 = upd (g 78) 31 (nI ft)) (hG : Gd p K) (hF : F1 g' p K) (hR : Ro (g' 11) p) (hM : Md (g' 79) 0 p) (h79 : ∀ j, 74 ≤ j → j < 222 → g' 79 j = g 79 j) : Iv g' p K := by
  obtain ⟨n, z, hsn⟩ := h.sn
  obtain ⟨m, b, htp⟩ := h.tp
  have k78 : ∀ i, i ≠ 31 → g' 78 i = g 78 i := fun i hi => by rw [h78, pk_un hi]
  refine ⟨hG, hF, hR, ⟨?_, hM⟩, h.kp.f hf (by decide), h.im.g (fun c hc => hf c ?_) h79, ⟨n, z, hsn.i (hf 14 (by decide)) (hf 15 (by decide)) (k78 24 (by decide)) (hf 88 (by decide))⟩, ⟨m, b, htp.i (hf 16 (by decide)) (hf 17 (by decide)) (k78 10 (by decide)) (hf 82 (by decide))⟩, ⟨?_, ?_⟩, h.sh.f hf (by decide), h.pn.f hf (by decide), h.cs.f hf (by decide)⟩
  · rw [k78 2 (by decide)]; exact h.M.1
  · revert c; decide
  · rw [h0, pk_un (by decide), k78 11 (by decide)]; exact h.ft.1
  · rw [h0, h78, pk_us, pk_us]
theorem rd_c {g : Gg} {k l n : Nat} {f : Int32} (hk : k < 4) (hl : l < 3) (hn : n ≤ 20) : FX8_read 0 (nI k) (nI l) f (nI n) (mk g) = FX8_read_46 fu 0 (nI l) f (nI n) (70 + 2 * k) (nI 0) (nI 0) (mk (upc g 46 (va_cpy (g 11) (g 46) 0 0 10))) := by
  simp -dsimp -implicitDefEqProofs (disch := omega) only [bnd_u, gd_t, if_true, if_false, ↓reduceIte, eq_self, true_or, or_true, false_or, or_false, not_true_eq_false, not_false_eq_true, and_true, true_and, and_false, false_and, reduceCtorEq, nI_ge, nI_le, nI_lt, nI_nlt, nI_ne, nI_te, nm_eq, mn_eq, nm_le, mn_le, nm_lt, mn_lt, pk_mul, nI_add, pk_sub, nI_clamp, eX8_read, c_sheet hk, c_lane hl, hTop, ark hk, c_trial]
theorem rd_m {g : Gg} {k l n : Nat} {f : Int32} (hk : k < 4) (hl : l < 3) (hn : n ≤ 20) : ∃ g1, FX9_read 78 (nI k) (nI l) f (nI n) (mk g) = FX9_read_56 fu 78 (nI k) (nI l) f (nI n) (nI 0) (nI 0) (nI 0) (mk g1) ∧ Fr [79] g g1 ∧ (∀ i, i < 74 → g1 79 (222 + i) = g 79 (0 + i)) ∧ ∀ j, (j < 222 ∨ 222 + 74 ≤ j) → g1 79 j = g 79 j := by
  obtain ⟨G', e1, f1, c1, c2⟩ := m_copies (g := g) (a := 0) (b := 222) (by omega) (by omega) (by omega)
  have i1 : FX9_in (nI k).toInt64 (lN 0) (lN 3) (mk g) = some (nI 1, mk g) := m_0n (n := 4) hk (by omega)
  have i2 : FX9_in (nI l).toInt64 (lN 0) (lN 2) (mk g) = some (nI 1, mk g) := m_0n (n := 3) hl (by omega)
  have i3 : FX9_in (nI n).toInt64 (lN 0) (lN 20) (mk g) = some (nI 1, mk g) := m_0n (n := 21) (by omega) (by omega)
  refine ⟨G', ?_, f1, c1, c2⟩
  simp -dsimp -implicitDefEqProofs (disch := omega) only [bnd_u, gd_t, if_true, if_false, ↓reduceIte, eq_self, true_or, or_true, false_or, or_false, not_true_eq_false, not_false_eq_true, and_true, true_and, and_false, false_and, reduceCtorEq, nI_ge, nI_le, nI_lt, nI_nlt, nI_ne, nI_te, nm_eq, mn_eq, nm_le, mn_le, nm_lt, mn_lt, pk_mul, nI_add, pk_sub, nI_clamp, eX9_read, i1, i2, i3, hMo, e1]
theorem rd_end {g : Gg} {q : Nat → Nat} {K k l n ft : Nat} {f : Int32} (hI : Iv g q K) (hk : k < 4) (hl : l < 3) (hn : n ≤ 20) (h1 : ∀ u, Fr [46] g u → FX8_read_46 fu 0 (nI l) f (nI n) (70 + 2 * k) (nI 0) (nI 0) (mk u) = FX8_read_133 0 (nI 0) (nI ft) (mk u)) (h2 : ∀ u, Fr [0, 11, 46, 79] g u → FX9_read_56 fu 78 (nI k) (nI l) f (nI n) (nI 0) (nI 0) (nI 0) (mk u) = FX9_read_199 78 (nI ft) (nI 0) (mk u)) : ∃ r g1 g2 p L, FX8_read 0 (nI k) (nI l) f (nI n) (mk g) = some (r, mk g1) ∧ FX9_read 78 (nI k) (nI l) f (nI n) (mk g1) = some (r, mk g2) ∧ Iv g2 p L := by
  have f0 : Fr [46] g (upc g 46 (va_cpy (g 11) (g 46) 0 0 10)) := Fr.c (by decide)
  have hg := rd_cg (g := upc g 46 (va_cpy (g 11) (g 46) 0 0 10)) (ft := ft) hI.G (hI.F.f f0 (by decide)) (by rw [upc_s]; exact Ro_cpy hI.R)
  obtain ⟨u, eu, fu1, u1, u2⟩ := rd_m (g := up (upc (upc g 46 (va_cpy (g 11) (g 46) 0 0 10)) 11 (va_cpy ((upc g 46 (va_cpy (g 11) (g 46) 0 0 10)) 46) ((upc g 46 (va_cpy (g 11) (g 46) 0 0 10)) 11) 0 0 10)) 0 13 (nI ft)) (f := f) hk hl hn
  obtain ⟨a1, a2, a3, a4, a5⟩ := hg
  have b1 := f0.tr a5 (l := [0, 11, 46]) (by simp <;> omega)
  have b2 := b1.tr fu1 (l := [0, 11, 46, 79]) (by simp <;> omega)
  have b3 := b2.tr (Fr.c (l := [0, 11, 46, 78, 79]) (c := 78) (r := upd (u 78) 31 (nI ft)) (by decide)) (l := [0, 11, 46, 78, 79]) (by simp <;> omega)
  refine ⟨nI 0, _, up u 78 31 (nI ft), q, K, by rw [rd_c hk hl hn, h1 _ f0, rd_ce], by rw [eu, h2 u b2, rd_me], hI.rd (ft := ft) b3 ?_ ?_ hI.G (hI.F.f b3 (by decide)) ?_ ?_ ?_⟩
  · rw [up_n (by decide), fu1 0 (by decide), a4, f0 0 (by decide)]
  · rw [up_c, b2 78 (by decide)]
  · rw [up_n (by decide), fu1 11 (by decide)]; exact a3
  · intro i hi
    rw [up_n (by decide), u2 _ (by omega), b1 79 (by decide)]; exact hI.M.2 i hi
  · intro j h1 h2
    rw [up_n (by decide), u2 _ (by omega), b1 79 (by decide)]
theorem sim_read (x y z w : Int32) : Sim (FX8_read 0 x y z w) (FX9_read 78 x y z w) := by
  intro g q K hI
  rcases in_of x (n := 4) (by omega) with hx | ⟨k, hk, rfl⟩
  · refine ⟨mi 1, g, g, q, K, ?_, ?_, hI⟩
    · simp -dsimp -implicitDefEqProofs (disch := omega) only [bnd_u, gd_t, if_true, if_false, ↓reduceIte, eq_self, true_or, or_true, false_or, or_false, not_true_eq_false, not_false_eq_true, and_true, true_and, and_false, false_and, reduceCtorEq, nI_ge, nI_le, nI_lt, nI_nlt, nI_ne, nI_te, nm_eq, mn_eq, nm_le, mn_le, nm_lt, mn_lt, pk_mul, nI_add, pk_sub, nI_clamp, eX8_read, eX8_read_26, c_sheetN hx]
    · have hin := m_0nN (M := mk g) (n := 4) (by omega) (by omega) hx
      simp -dsimp -implicitDefEqProofs (disch := omega) only [bnd_u, gd_t, if_true, if_false, ↓reduceIte, eq_self, true_or, or_true, false_or, or_false, not_true_eq_false, not_false_eq_true, and_true, true_and, and_false, false_and, reduceCtorEq, nI_ge, nI_le, nI_lt, nI_nlt, nI_ne, nI_te, nm_eq, mn_eq, nm_le, mn_le, nm_lt, mn_lt, pk_mul, nI_add, pk_sub, nI_clamp, eX9_read, eX9_read_37, hin]
  rcases in_of y (n := 3) (by omega) with hy | ⟨l, hl, rfl⟩
  · have i1 : FX9_in (nI k).toInt64 (lN 0) (lN 3) (mk g) = some (nI 1, mk g) := m_0n (n := 4) hk (by omega)
    refine ⟨mi 1, g, g, q, K, ?_, ?_, hI⟩
    · simp -dsimp -implicitDefEqProofs (disch := omega) only [bnd_u, gd_t, if_true, if_false, ↓reduceIte, eq_self, true_or, or_true, false_or, or_false, not_true_eq_false, not_false_eq_true, and_true, true_and, and_false, false_and, reduceCtorEq, nI_ge, nI_le, nI_lt, nI_nlt, nI_ne, nI_te, nm_eq, mn_eq, nm_le, mn_le, nm_lt, mn_lt, pk_mul, nI_add, pk_sub, nI_clamp, eX8_read, eX8_read_26, c_sheet hk, c_laneN hy]
    · have hin := m_0nN (M := mk g) (n := 3) (by omega) (by omega) hy
      simp -dsimp -implicitDefEqProofs (disch := omega) only [bnd_u, gd_t, if_true, if_false, ↓reduceIte, eq_self, true_or, or_true, false_or, or_false, not_true_eq_false, not_false_eq_true, and_true, true_and, and_false, false_and, reduceCtorEq, nI_ge, nI_le, nI_lt, nI_nlt, nI_ne, nI_te, nm_eq, mn_eq, nm_le, mn_le, nm_lt, mn_lt, pk_mul, nI_add, pk_sub, nI_clamp, eX9_read, eX9_read_37, i1, hin]
  rcases in_of w (n := 21) (by omega) with hw | ⟨n, hn, rfl⟩
  · have i1 : FX9_in (nI k).toInt64 (lN 0) (lN 3) (mk g) = some (nI 1, mk g) := m_0n (n := 4) hk (by omega)
    have i2 : FX9_in (nI l).toInt64 (lN 0) (lN 2) (mk g) = some (nI 1, mk g) := m_0n (n := 3) hl (by omega)
    refine ⟨mi 1, g, g, q, K, ?_, ?_, hI⟩
    · rcases hw with h | ⟨h, h2⟩
      · simp -dsimp -implicitDefEqProofs (disch := omega) only [bnd_u, gd_t, if_true, if_false, ↓reduceIte, eq_self, true_or, or_true, false_or, or_false, not_true_eq_false, not_false_eq_true, and_true, true_and, and_false, false_and, reduceCtorEq, nI_ge, nI_le, nI_lt, nI_nlt, nI_ne, nI_te, nm_eq, mn_eq, nm_le, mn_le, nm_lt, mn_lt, pk_mul, nI_add, pk_sub, nI_clamp, eX8_read, eX8_read_26, c_sheet hk, c_lane hl, h]
      · have h3 : ¬ w ≤ nI 20 := (fa_of_lt (lt_of_le10 h2 (show 20 < 21 by omega) (by omega))).2.1
        simp -dsimp -implicitDefEqProofs (disch := omega) only [bnd_u, gd_t, if_true, if_false, ↓reduceIte, eq_self, true_or, or_true, false_or, or_false, not_true_eq_false, not_false_eq_true, and_true, true_and, and_false, false_and, reduceCtorEq, nI_ge, nI_le, nI_lt, nI_nlt, nI_ne, nI_te, nm_eq, mn_eq, nm_le, mn_le, nm_lt, mn_lt, pk_mul, nI_add, pk_sub, nI_clamp, eX8_read, eX8_read_26, c_sheet hk, c_lane hl, h, h3]
    · have hin := m_0nN (M := mk g) (n := 21) (by omega) (by omega) hw
      simp -dsimp -implicitDefEqProofs (disch := omega) only [bnd_u, gd_t, if_true, if_false, ↓reduceIte, eq_self, true_or, or_true, false_or, or_false, not_true_eq_false, not_false_eq_true, and_true, true_and, and_false, false_and, reduceCtorEq, nI_ge, nI_le, nI_lt, nI_nlt, nI_ne, nI_te, nm_eq, mn_eq, nm_le, mn_le, nm_lt, mn_lt, pk_mul, nI_add, pk_sub, nI_clamp, eX9_read, eX9_read_37, i1, i2, hin]
  have hP := pgk hk
  by_cases n0 : n = 0
  · subst n0
    refine rd_end (ft := 0) hI hk hl (by omega) (fun u hu => ?_) (fun u hu => ?_)
    · rw [fu_1]
      simp -dsimp -implicitDefEqProofs (disch := omega) only [bnd_u, gd_t, if_true, if_false, ↓reduceIte, eq_self, true_or, or_true, false_or, or_false, not_true_eq_false, not_false_eq_true, and_true, true_and, and_false, false_and, reduceCtorEq, nI_ge, nI_le, nI_lt, nI_nlt, nI_ne, nI_te, nm_eq, mn_eq, nm_le, mn_le, nm_lt, mn_lt, pk_mul, nI_add, pk_sub, nI_clamp, eX8_read_46]
    · rw [fu_1]
      simp -dsimp -implicitDefEqProofs (disch := omega) only [bnd_u, gd_t, if_true, if_false, ↓reduceIte, eq_self, true_or, or_true, false_or, or_false, not_true_eq_false, not_false_eq_true, and_true, true_and, and_false, false_and, reduceCtorEq, nI_ge, nI_le, nI_lt, nI_nlt, nI_ne, nI_te, nm_eq, mn_eq, nm_le, mn_le, nm_lt, mn_lt, pk_mul, nI_add, pk_sub, nI_clamp, eX9_read_56]
  rcases Sh_at hI.sh hk with ⟨h1, h2⟩ | ⟨l', L, h1, h2, h3, h4, h5, h6, h7⟩
  · refine rd_end (ft := 1) hI hk hl (by omega) (fun u hu => ?_) (fun u hu => ?_)
    · have e1 : u (70 + 2 * k) 2 = mi 4 := by rw [hu _ (by simp <;> omega)]; exact h1
      rw [show fu = 4094 + 1 + 1 from rfl]
      simp -dsimp -implicitDefEqProofs (disch := omega) only [bnd_u, gd_t, if_true, if_false, ↓reduceIte, eq_self, true_or, or_true, false_or, or_false, not_true_eq_false, not_false_eq_true, and_true, true_and, and_false, false_and, reduceCtorEq, nI_ge, nI_le, nI_lt, nI_nlt, nI_ne, nI_te, nm_eq, mn_eq, nm_le, mn_le, nm_lt, mn_lt, pk_mul, nI_add, pk_sub, nI_clamp, eX8_read_46, eX8_read_130, hP.k, p_pair0 hP e1]
    · have e1 : u 91 k = mi 4 := by rw [hu 91 (by decide)]; exact h2
      rw [show fu = 4094 + 1 + 1 from rfl]
      by_cases e : 2 * n ≤ 0 + 1
      · simp -dsimp -implicitDefEqProofs (disch := omega) only [bnd_u, gd_t, if_true, if_false, ↓reduceIte, eq_self, true_or, or_true, false_or, or_false, not_true_eq_false, not_false_eq_true, and_true, true_and, and_false, false_and, reduceCtorEq, nI_ge, nI_le, nI_lt, nI_nlt, nI_ne, nI_te, nm_eq, mn_eq, nm_le, mn_le, nm_lt, mn_lt, pk_mul, nI_add, pk_sub, nI_clamp, eX9_read_56, eX9_read_126, eX9_read_193, hMo, e1]
      · simp -dsimp -implicitDefEqProofs (disch := omega) only [bnd_u, gd_t, if_true, if_false, ↓reduceIte, eq_self, true_or, or_true, false_or, or_false, not_true_eq_false, not_false_eq_true, and_true, true_and, and_false, false_and, reduceCtorEq, nI_ge, nI_le, nI_lt, nI_nlt, nI_ne, nI_te, nm_eq, mn_eq, nm_le, mn_le, nm_lt, mn_lt, pk_mul, nI_add, pk_sub, nI_clamp, eX9_read_56, eX9_read_126, eX9_read_193, hMo, e1]
  by_cases el : l' = l
  · subst el
    rcases in_of z (n := L) (by omega) with hz | ⟨F, hF, rfl⟩
    · refine rd_end (ft := 2) hI hk hl (by omega) (fun u hu => ?_) (fun u hu => ?_)
      · have e1 : u (70 + 2 * k) 2 = nI L := by rw [hu _ (by simp <;> omega)]; exact h4
        have e2 : u (70 + 2 * k) 1 = nI l' := by rw [hu _ (by simp <;> omega)]; exact h3
        rw [show fu = 4094 + 1 + 1 from rfl]
        simp -dsimp -implicitDefEqProofs (disch := omega) only [bnd_u, gd_t, if_true, if_false, ↓reduceIte, eq_self, true_or, or_true, false_or, or_false, not_true_eq_false, not_false_eq_true, and_true, true_and, and_false, false_and, reduceCtorEq, nI_ge, nI_le, nI_lt, nI_nlt, nI_ne, nI_te, nm_eq, mn_eq, nm_le, mn_le, nm_lt, mn_lt, pk_mul, nI_add, pk_sub, nI_clamp, eX8_read_46, eX8_read_130, hP.k, Nat.mul_zero, ad0, p_pairN hP e1 h2 e2 hz]
      · have e1 : u 91 k = nI l' := by rw [hu 91 (by decide)]; exact h5
        have e2 : u 92 k = nI L := by rw [hu 92 (by decide)]; exact h6
        have hin : FX9_in (z.toInt64 + (nI 0).toInt64) (lN 0) (nI L - nI 1).toInt64 (mk u) = some (nI 0, mk u) := by
          rw [nI_l (by omega), ad0L]; exact m_inN (by omega) (hy_n1 (by omega)) hz
        have s1 : ∀ m, FX9_read_56 (m + 1) 78 (nI k) (nI l') z (nI n) (nI 0) (nI 0) (nI 0) (mk u) = FX9_read_56 m 78 (nI k) (nI l') z (nI n) (nI 2) (nI 0) (nI 1) (mk u) := fun m => by
          rw [eX9_read_56, if_neg (by rw [pk_mul]; exact nI_ge (by omega) (by omega)), if_pos rfl]
          simp -dsimp -implicitDefEqProofs (disch := omega) only [bnd_u, gd_t, if_true, if_false, ↓reduceIte, eq_self, true_or, or_true, false_or, or_false, not_true_eq_false, not_false_eq_true, and_true, true_and, and_false, false_and, reduceCtorEq, nI_ge, nI_le, nI_lt, nI_nlt, nI_ne, nI_te, nm_eq, mn_eq, nm_le, mn_le, nm_lt, mn_lt, pk_mul, nI_add, pk_sub, nI_clamp, hMo, e1, e2]
          rw [hin]
          simp -dsimp -implicitDefEqProofs (disch := omega) only [bnd_u, gd_t, if_true, if_false, ↓reduceIte, eq_self, true_or, or_true, false_or, or_false, not_true_eq_false, not_false_eq_true, and_true, true_and, and_false, false_and, reduceCtorEq, nI_ge, nI_le, nI_lt, nI_nlt, nI_ne, nI_te, nm_eq, mn_eq, nm_le, mn_le, nm_lt, mn_lt, pk_mul, nI_add, pk_sub, nI_clamp, eX9_read_126, eX9_read_193]
        rw [show fu = 4094 + 1 + 1 from rfl, s1]
        by_cases e : 2 * n ≤ 1
        · simp -dsimp -implicitDefEqProofs (disch := omega) only [bnd_u, gd_t, if_true, if_false, ↓reduceIte, eq_self, true_or, or_true, false_or, or_false, not_true_eq_false, not_false_eq_true, and_true, true_and, and_false, false_and, reduceCtorEq, nI_ge, nI_le, nI_lt, nI_nlt, nI_ne, nI_te, nm_eq, mn_eq, nm_le, mn_le, nm_lt, mn_lt, pk_mul, nI_add, pk_sub, nI_clamp, eX9_read_56]
        · simp -dsimp -implicitDefEqProofs (disch := omega) only [bnd_u, gd_t, if_true, if_false, ↓reduceIte, eq_self, true_or, or_true, false_or, or_false, not_true_eq_false, not_false_eq_true, and_true, true_and, and_false, false_and, reduceCtorEq, nI_ge, nI_le, nI_lt, nI_nlt, nI_ne, nI_te, nm_eq, mn_eq, nm_le, mn_le, nm_lt, mn_lt, pk_mul, nI_add, pk_sub, nI_clamp, eX9_read_56]
    · have f0 : Fr [46] g (upc g 46 (va_cpy (g 11) (g 46) 0 0 10)) := Fr.c (by decide)
      obtain ⟨r, g', eg, hh⟩ := rd_l (A := fun i => g (71 + 2 * k) i) (q := q) hk hl h2 hF (show n ≤ 20 by omega) n 0 q (upc g 46 (va_cpy (g 11) (g 46) 0 0 10)) fu (by omega) (by rw [fu_1]; omega) ⟨hI.G, hI.F.f f0 (by decide), by rw [upc_s]; exact Ro_cpy hI.R, by rw [upc_n (by omega)]; exact h3, by rw [upc_n (by omega)]; exact h4, fun i hi => by rw [upc_n (by omega)]⟩
      obtain ⟨u, eu, fu1, u1, u2⟩ := rd_m (g := g') (f := nI F) hk hl (show n ≤ 20 by omega)
      have hM0 : ∀ u : Gg, Fr [0, 11, 46, 79] g u → (∀ j, j < 74 → u 79 j = g 79 j) → Rdm u k l' L (fun i => g (71 + 2 * k) i) q K := fun u hu h79 => by
        refine ⟨⟨?_, fun i hi => ?_⟩, ?_, ?_, fun i hi => ?_⟩
        · rw [hu 78 (by decide)]; exact hI.M.1
        · rw [h79 _ (by omega)]; exact hI.M.2 i hi
        · rw [hu 91 (by decide)]; exact h5
        · rw [hu 92 (by decide)]; exact h6
        · rw [hu 93 (by decide)]; exact (h7 i hi).symm
      rcases hh with ⟨p', ft, ⟨a1, a2, a3, a4, a5⟩, hm⟩ | ⟨a5, hm⟩
      · have b1 := f0.tr a5 (l := [0, 11, 46]) (by simp <;> omega)
        have b2 := b1.tr fu1 (l := [0, 11, 46, 79]) (by simp <;> omega)
        obtain ⟨G', e, c1, c2, c3, c4⟩ := hm u fu 0 (by rw [fu_1]; omega) rfl (hM0 u b2 (fun j hj => by rw [u2 _ (by omega), b1 79 (by decide)]))
        have b3 := b2.tr c1 (l := [0, 11, 46, 78, 79]) (by simp <;> omega)
        refine ⟨r, g', G', p', K, by rw [rd_c hk hl (by omega)]; exact eg, by rw [eu]; exact e, hI.rd (ft := ft) b3 ?_ ?_ a1 ?_ ?_ c2 ?_⟩
        · rw [c1 0 (by decide), fu1 0 (by decide), a4, f0 0 (by decide)]
        · rw [c4, b2 78 (by decide)]
        · exact (a2.f fu1 (by decide)).f c1 (by decide)
        · rw [c1 11 (by decide), fu1 11 (by decide)]; exact a3
        · intro j h1 h2
          rw [c3 j h1, u2 _ (by omega), b1 79 (by decide)]
      · have b1 := f0.tr a5 (l := [0, 11, 46]) (by simp <;> omega)
        have b1' := f0.tr a5 (l := [46]) (fun c hc => ⟨hc, hc⟩)
        have b2 := b1.tr fu1 (l := [0, 11, 46, 79]) (by simp <;> omega)
        obtain ⟨G', e, c1, c2, c3⟩ := hm u fu 0 (by rw [fu_1]; omega) rfl (hM0 u b2 (fun j hj => by rw [u2 _ (by omega), b1 79 (by decide)])) (fun j hj => by rw [u1 j hj, b1 79 (by decide)]; exact hI.M.2 j hj)
        have b3 := (b1'.tr fu1 (l := [46, 79]) (by simp <;> omega)).tr c1 (l := [46, 79]) (by simp <;> omega)
        refine ⟨r, g', G', q, K, by rw [rd_c hk hl (by omega)]; exact eg, by rw [eu]; exact e, hI.pg b3 (by decide) hI.G (hI.F.f b3 (by decide)) (by rw [b3 11 (by decide)]; exact hI.R) c2 ?_⟩
        intro j h1 h2
        rw [c3 j h1 h2, u2 _ (by omega), b1 79 (by decide)]
  · refine rd_end (ft := 3) hI hk hl (by omega) (fun u hu => ?_) (fun u hu => ?_)
    · have e1 : u (70 + 2 * k) 2 = nI L := by rw [hu _ (by simp <;> omega)]; exact h4
      have e2 : u (70 + 2 * k) 1 = nI l' := by rw [hu _ (by simp <;> omega)]; exact h3
      rw [show fu = 4094 + 1 + 1 from rfl]
      simp -dsimp -implicitDefEqProofs (disch := omega) only [bnd_u, gd_t, if_true, if_false, ↓reduceIte, eq_self, true_or, or_true, false_or, or_false, not_true_eq_false, not_false_eq_true, and_true, true_and, and_false, false_and, reduceCtorEq, nI_ge, nI_le, nI_lt, nI_nlt, nI_ne, nI_te, nm_eq, mn_eq, nm_le, mn_le, nm_lt, mn_lt, pk_mul, nI_add, pk_sub, nI_clamp, eX8_read_46, eX8_read_130, hP.k, p_pair3 hP e1 h2 e2 el (by omega) hl]
    · have e1 : u 91 k = nI l' := by rw [hu 91 (by decide)]; exact h5
      rw [show fu = 4094 + 1 + 1 from rfl]
      by_cases e : 2 * n ≤ 0 + 1
      · simp -dsimp -implicitDefEqProofs (disch := omega) only [bnd_u, gd_t, if_true, if_false, ↓reduceIte, eq_self, true_or, or_true, false_or, or_false, not_true_eq_false, not_false_eq_true, and_true, true_and, and_false, false_and, reduceCtorEq, nI_ge, nI_le, nI_lt, nI_nlt, nI_ne, nI_te, nm_eq, mn_eq, nm_le, mn_le, nm_lt, mn_lt, pk_mul, nI_add, pk_sub, nI_clamp, eX9_read_56, eX9_read_126, eX9_read_193, hMo, e1]
      · simp -dsimp -implicitDefEqProofs (disch := omega) only [bnd_u, gd_t, if_true, if_false, ↓reduceIte, eq_self, true_or, or_true, false_or, or_false, not_true_eq_false, not_false_eq_true, and_true, true_and, and_false, false_and, reduceCtorEq, nI_ge, nI_le, nI_lt, nI_nlt, nI_ne, nI_te, nm_eq, mn_eq, nm_le, mn_le, nm_lt, mn_lt, pk_mul, nI_add, pk_sub, nI_clamp, eX9_read_56, eX9_read_126, eX9_read_193, hMo, e1]
