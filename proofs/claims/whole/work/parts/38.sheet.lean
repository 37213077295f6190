/-! sheets -/
def tP (c : Nat) : Tm := fun r => .inr (2, [.ref c, .int (r 1), .int (r 2)])
def Pgx (po pc : Nat) : Prop := tmpl[po]? = some (tP pc) ∧ tmpl[pc]? = some (tA 0 40) ∧ po ≠ pc
theorem Pgx.r {po pc : Nat} (h : Pgx po pc) (g : Gg) : h_R (mk g) 2 po 0 = some pc := t_R h.1 rfl
theorem Pgx.i1 {po pc : Nat} (h : Pgx po pc) (g : Gg) : h_I (mk g) 2 po 1 = some (g po 1) := t_I h.1 rfl
theorem Pgx.i2 {po pc : Nat} (h : Pgx po pc) (g : Gg) : h_I (mk g) 2 po 2 = some (g po 2) := t_I h.1 rfl
theorem Pgx.p1 {po pc : Nat} (h : Pgx po pc) (g : Gg) (x : Int32) : h_P (mk g) 2 po 1 (.int x) = some (mk (up g po 1 x)) := t_P h.1 rfl
theorem Pgx.p2 {po pc : Nat} (h : Pgx po pc) (g : Gg) (x : Int32) : h_P (mk g) 2 po 2 (.int x) = some (mk (up g po 2 x)) := t_P h.1 rfl
theorem Pgx.k {po pc : Nat} (h : Pgx po pc) (g : Gg) {α : Type} (x : Option α) : gd (h_K (mk g) 2 po) x = x := t_K h.1 rfl
theorem Pgx.a {po pc : Nat} (h : Pgx po pc) (g : Gg) (i : Nat) (hi : i < 40) : h_A (mk g) 0 pc (nI i) = some (g pc i) := t_A h.2.1 (by decide) i hi
theorem Pgx.s {po pc : Nat} (h : Pgx po pc) (g : Gg) (i : Nat) (x : Int32) (hi : i < 40) : h_S (mk g) 0 pc (nI i) x = some (mk (up g pc i x)) := t_S h.2.1 (by decide) i hi
theorem pgk {k : Nat} (hk : k < 4) : Pgx (70 + 2 * k) (71 + 2 * k) := by
  rcases (show k = 0 ∨ k = 1 ∨ k = 2 ∨ k = 3 by omega) with rfl | rfl | rfl | rfl
  · exact ⟨rfl, rfl, by decide⟩
  · exact ⟨rfl, rfl, by decide⟩
  · exact ⟨rfl, rfl, by decide⟩
  · exact ⟨rfl, rfl, by decide⟩
theorem ark {g : Gg} {k : Nat} (hk : k < 4) : h_AR (mk g) 3 30 (nI k) = some (70 + 2 * k) := by
  rcases (show k = 0 ∨ k = 1 ∨ k = 2 ∨ k = 3 by omega) with rfl | rfl | rfl | rfl
  · exact t_AR rfl (by decide) (by decide) iR30_0
  · exact t_AR rfl (by decide) (by decide) iR30_1
  · exact t_AR rfl (by decide) (by decide) iR30_2
  · exact t_AR rfl (by decide) (by decide) iR30_3
theorem Sh_at {g : Gg} (h : Sh g) {k : Nat} (hk : k < 4) : Sh1 (g (70 + 2 * k)) (g (71 + 2 * k)) (g 91) (g 92) (g 93) k := by
  rcases (show k = 0 ∨ k = 1 ∨ k = 2 ∨ k = 3 by omega) with rfl | rfl | rfl | rfl
  · exact h.1
  · exact h.2.1
  · exact h.2.2.1
  · exact h.2.2.2
theorem Sh_of {g : Gg} (h : ∀ k, k < 4 → Sh1 (g (70 + 2 * k)) (g (71 + 2 * k)) (g 91) (g 92) (g 93) k) : Sh g := ⟨h 0 (by omega), h 1 (by omega), h 2 (by omega), h 3 (by omega)⟩
theorem Iv.ish {l : List Nat} {g g' : Gg} {q : Nat → Nat} {K : Nat} (h : Iv g q K) (hf : Fr l g g') (hl : ∀ c ∈ l, c ∈ scr ++ [70, 71, 72, 73, 74, 75, 76, 77, 91, 92, 93]) (hs : Sh g') : Iv g' q K := by
  have hs2 : Fr (scr ++ [70, 71, 72, 73, 74, 75, 76, 77, 91, 92, 93]) g g' := hf.mo (fun c hc hcl => hc (hl c hcl))
  obtain ⟨n, z, hsn⟩ := h.sn
  obtain ⟨m, b, htp⟩ := h.tp
  exact ⟨h.G, h.F.f hs2 (by decide), h.R.f hs2 (by decide), h.M.f hs2 (by decide), h.kp.f hs2 (by decide), h.im.f hs2 (by decide), ⟨n, z, hsn.f hs2 (by decide)⟩, ⟨m, b, htp.f hs2 (by decide)⟩, h.ft.f hs2 (by decide), hs, h.pn.f hs2 (by decide), h.cs.f hs2 (by decide)⟩
theorem p_new {g : Gg} {po pc l n : Nat} (hP : Pgx po pc) (hn : n ≤ 40) : ∃ g', FX3_makeNew po (nI l) (nI n) (mk g) = some ((), mk g') ∧ Fr [po, pc] g g' ∧ g' po 1 = nI l ∧ g' po 2 = nI n ∧ ∀ i, i < 40 → g' pc i = nI 0 := by
  have hmin : o_min (nI n) (nI 40) = nI n := by
    show (if nI 40 < nI n then nI 40 else nI n) = nI n
    rw [if_neg (nI_nlt hn (by omega))]
  have e0 : FX3_makeNew po (nI l) (nI n) (mk g) = FX3_makeNew_17 fu po (nI 0) (mk (up (up g po 1 (nI l)) po 2 (nI n))) := by
    simp -dsimp -implicitDefEqProofs (disch := omega) only [bnd_u, gd_t, if_true, if_false, ↓reduceIte, eq_self, true_or, or_true, false_or, or_false, not_true_eq_false, not_false_eq_true, and_true, true_and, and_false, false_and, reduceCtorEq, nI_ge, nI_le, nI_lt, nI_nlt, nI_ne, nI_te, nm_eq, mn_eq, nm_le, mn_le, nm_lt, mn_lt, pk_mul, nI_add, pk_sub, nI_clamp, eX3_makeNew, hP.p1, hP.p2, hmin]
  rw [e0]
  refine lp_0 (σ := Gg) (fun m i u => FX3_makeNew_17 m po (nI i) (mk u)) 40 (fun i u => Fr [po, pc] g u ∧ u po 1 = nI l ∧ u po 2 = nI n ∧ ∀ j, j < i → u pc j = nI 0) (fun o => ∃ g', o = some ((), mk g') ∧ Fr [po, pc] g g' ∧ g' po 1 = nI l ∧ g' po 2 = nI n ∧ ∀ i, i < 40 → g' pc i = nI 0) ⟨?_, ?_, ?_, fun j hj => absurd hj (by omega)⟩ (by decide) ?_ ?_
  · exact (Fr.c (l := [po, pc]) (by simp)).tr (Fr.c (l := [po, pc]) (by simp)) (fun c hc => ⟨hc, hc⟩)
  · rw [up_c, pk_un (by decide), up_c, pk_us]
  · rw [up_c, pk_us]
  · intro m i u hi ⟨i1, i2, i3, i4⟩
    refine Or.inr ⟨up u pc i (nI 0), ?_, i1.tr (Fr.c (l := [po, pc]) (by simp)) (fun c hc => ⟨hc, hc⟩), ?_, ?_, fun j hj => ?_⟩
    · simp -dsimp -implicitDefEqProofs (disch := omega) only [bnd_u, gd_t, if_true, if_false, ↓reduceIte, eq_self, true_or, or_true, false_or, or_false, not_true_eq_false, not_false_eq_true, and_true, true_and, and_false, false_and, reduceCtorEq, nI_ge, nI_le, nI_lt, nI_nlt, nI_ne, nI_te, nm_eq, mn_eq, nm_le, mn_le, nm_lt, mn_lt, pk_mul, nI_add, pk_sub, nI_clamp, eX3_makeNew_17, hP.r, hP.s]
    · rw [up_n hP.2.2]; exact i2
    · rw [up_n hP.2.2]; exact i3
    · rw [up_c]
      by_cases e : j = i
      · rw [e, pk_us]
      · rw [pk_un e]; exact i4 j (by omega)
  · intro m u ⟨i1, i2, i3, i4⟩
    refine ⟨u, ?_, i1, i2, i3, i4⟩
    simp -dsimp -implicitDefEqProofs (disch := omega) only [bnd_u, gd_t, if_true, if_false, ↓reduceIte, eq_self, true_or, or_true, false_or, or_false, not_true_eq_false, not_false_eq_true, and_true, true_and, and_false, false_and, reduceCtorEq, nI_ge, nI_le, nI_lt, nI_nlt, nI_ne, nI_te, nm_eq, mn_eq, nm_le, mn_le, nm_lt, mn_lt, pk_mul, nI_add, pk_sub, nI_clamp, eX3_makeNew_17]
theorem m_sheet {g : Gg} {k l n : Nat} (hk : k < 4) (hn : n ≤ 40) (hl : l < 3) : ∃ g', FX9_sheet 78 (nI k) (nI l) (nI n) (mk g) = some (nI 1, mk g') ∧ Fr [91, 92, 93] g g' ∧ g' 91 = upd (g 91) k (nI l) ∧ g' 92 = upd (g 92) k (nI n) ∧ (∀ i, i < 40 → g' 93 (40 * k + i) = nI 0) ∧ ∀ j, (j < 40 * k ∨ 40 * k + 40 ≤ j) → g' 93 j = g 93 j := by
  have e0 : FX9_sheet 78 (nI k) (nI l) (nI n) (mk g) = FX9_sheet_56 fu 78 (nI k) (nI 0) (mk (up (up g 91 k (nI l)) 92 k (nI n))) := by
    have h1 := m_0n (M := mk g) (n := 4) hk (by omega)
    have h2 := m_0n (M := mk g) (n := 3) hl (by omega)
    simp -dsimp -implicitDefEqProofs (disch := omega) only [bnd_u, gd_t, if_true, if_false, ↓reduceIte, eq_self, true_or, or_true, false_or, or_false, not_true_eq_false, not_false_eq_true, and_true, true_and, and_false, false_and, reduceCtorEq, nI_ge, nI_le, nI_lt, nI_nlt, nI_ne, nI_te, nm_eq, mn_eq, nm_le, mn_le, nm_lt, mn_lt, pk_mul, nI_add, pk_sub, nI_clamp, eX9_sheet, h1, h2, hMo]
  rw [e0]
  refine lp_0 (σ := Gg) (fun m i u => FX9_sheet_56 m 78 (nI k) (nI i) (mk u)) 40 (fun i u => Fr [91, 92, 93] g u ∧ u 91 = upd (g 91) k (nI l) ∧ u 92 = upd (g 92) k (nI n) ∧ (∀ j, j < i → u 93 (40 * k + j) = nI 0) ∧ ∀ j, (j < 40 * k ∨ 40 * k + 40 ≤ j) → u 93 j = g 93 j) (fun o => ∃ g', o = some (nI 1, mk g') ∧ Fr [91, 92, 93] g g' ∧ g' 91 = upd (g 91) k (nI l) ∧ g' 92 = upd (g 92) k (nI n) ∧ (∀ i, i < 40 → g' 93 (40 * k + i) = nI 0) ∧ ∀ j, (j < 40 * k ∨ 40 * k + 40 ≤ j) → g' 93 j = g 93 j) ⟨?_, ?_, ?_, fun j hj => absurd hj (by omega), fun j _ => ?_⟩ (by decide) ?_ ?_
  · exact (Fr.c (l := [91, 92, 93]) (by decide)).tr (Fr.c (l := [91, 92, 93]) (by decide)) (fun c hc => ⟨hc, hc⟩)
  · rw [up_n (by decide), up_c]
  · rw [up_c, up_n (by decide)]
  · rw [up_n (by decide), up_n (by decide)]
  · intro m i u hi ⟨i1, i2, i3, i4, i5⟩
    refine Or.inr ⟨up u 93 (40 * k + i) (nI 0), ?_, i1.tr (Fr.c (l := [91, 92, 93]) (by decide)) (fun c hc => ⟨hc, hc⟩), ?_, ?_, fun j hj => ?_, fun j hj => ?_⟩
    · simp -dsimp -implicitDefEqProofs (disch := omega) only [bnd_u, gd_t, if_true, if_false, ↓reduceIte, eq_self, true_or, or_true, false_or, or_false, not_true_eq_false, not_false_eq_true, and_true, true_and, and_false, false_and, reduceCtorEq, nI_ge, nI_le, nI_lt, nI_nlt, nI_ne, nI_te, nm_eq, mn_eq, nm_le, mn_le, nm_lt, mn_lt, pk_mul, nI_add, pk_sub, nI_clamp, eX9_sheet_56, hMo]
    · rw [up_n (by decide)]; exact i2
    · rw [up_n (by decide)]; exact i3
    · rw [up_c]
      by_cases e : j = i
      · rw [e, pk_us]
      · rw [pk_un (by omega)]; exact i4 j (by omega)
    · rw [up_c, pk_un (by omega)]; exact i5 j hj
  · intro m u ⟨i1, i2, i3, i4, i5⟩
    refine ⟨u, ?_, i1, i2, i3, i4, i5⟩
    simp -dsimp -implicitDefEqProofs (disch := omega) only [bnd_u, gd_t, if_true, if_false, ↓reduceIte, eq_self, true_or, or_true, false_or, or_false, not_true_eq_false, not_false_eq_true, and_true, true_and, and_false, false_and, reduceCtorEq, nI_ge, nI_le, nI_lt, nI_nlt, nI_ne, nI_te, nm_eq, mn_eq, nm_le, mn_le, nm_lt, mn_lt, pk_mul, nI_add, pk_sub, nI_clamp, eX9_sheet_56]
theorem sim_sheet (x y z : Int32) : Sim (FX8_sheet 0 x y z) (FX9_sheet 78 x y z) := by
  intro g q K hI
  rcases in_of x (n := 4) (by omega) with hx | ⟨k, hk, rfl⟩
  · refine ⟨mi 1, g, g, q, K, ?_, ?_, hI⟩
    · simp -dsimp -implicitDefEqProofs (disch := omega) only [bnd_u, gd_t, if_true, if_false, ↓reduceIte, eq_self, true_or, or_true, false_or, or_false, not_true_eq_false, not_false_eq_true, and_true, true_and, and_false, false_and, reduceCtorEq, nI_ge, nI_le, nI_lt, nI_nlt, nI_ne, nI_te, nm_eq, mn_eq, nm_le, mn_le, nm_lt, mn_lt, pk_mul, nI_add, pk_sub, nI_clamp, eX8_sheet, eX8_sheet_20, c_sheetN hx]
    · have hin := m_0nN (M := mk g) (n := 4) (by omega) (by omega) hx
      simp -dsimp -implicitDefEqProofs (disch := omega) only [bnd_u, gd_t, if_true, if_false, ↓reduceIte, eq_self, true_or, or_true, false_or, or_false, not_true_eq_false, not_false_eq_true, and_true, true_and, and_false, false_and, reduceCtorEq, nI_ge, nI_le, nI_lt, nI_nlt, nI_ne, nI_te, nm_eq, mn_eq, nm_le, mn_le, nm_lt, mn_lt, pk_mul, nI_add, pk_sub, nI_clamp, eX9_sheet, eX9_sheet_30, hin]
  · rcases in_of y (n := 3) (by omega) with hy | ⟨l, hl, rfl⟩
    · refine ⟨mi 1, g, g, q, K, ?_, ?_, hI⟩
      · simp -dsimp -implicitDefEqProofs (disch := omega) only [bnd_u, gd_t, if_true, if_false, ↓reduceIte, eq_self, true_or, or_true, false_or, or_false, not_true_eq_false, not_false_eq_true, and_true, true_and, and_false, false_and, reduceCtorEq, nI_ge, nI_le, nI_lt, nI_nlt, nI_ne, nI_te, nm_eq, mn_eq, nm_le, mn_le, nm_lt, mn_lt, pk_mul, nI_add, pk_sub, nI_clamp, eX8_sheet, eX8_sheet_20, c_sheet hk, c_laneN hy]
      · have hin := m_0n (M := mk g) (n := 4) hk (by omega)
        have hin2 := m_0nN (M := mk g) (n := 3) (by omega) (by omega) hy
        simp -dsimp -implicitDefEqProofs (disch := omega) only [bnd_u, gd_t, if_true, if_false, ↓reduceIte, eq_self, true_or, or_true, false_or, or_false, not_true_eq_false, not_false_eq_true, and_true, true_and, and_false, false_and, reduceCtorEq, nI_ge, nI_le, nI_lt, nI_nlt, nI_ne, nI_te, nm_eq, mn_eq, nm_le, mn_le, nm_lt, mn_lt, pk_mul, nI_add, pk_sub, nI_clamp, eX9_sheet, eX9_sheet_30, hin, hin2]
    · have hin := m_0n (M := mk g) (n := 4) hk (by omega)
      have hin2 := m_0n (M := mk g) (n := 3) hl (by omega)
      by_cases z1 : z ≤ nI 40
      · by_cases z2 : nI 0 ≤ z
        · obtain ⟨n, hn, rfl⟩ : ∃ n, n ≤ 40 ∧ z = nI n := by
            rcases in_of z (n := 41) (by omega) with h | ⟨j, hj, rfl⟩
            · rcases h with h | ⟨-, h⟩
              · exact absurd z2 (fa_of_lt h).2.1
              · exact absurd z1 (fa_of_lt (lt_of_le10 h (show 40 < 41 by omega) (by omega))).2.1
            · exact ⟨j, by omega, rfl⟩
          obtain ⟨g1, e1, f1, a1, b1, c1⟩ := p_new (g := g) (l := l) (pgk hk) hn
          obtain ⟨g2, e2, f2, a2, b2, c2, d2⟩ := m_sheet (g := g1) hk hn hl
          have ff : Fr [70 + 2 * k, 71 + 2 * k, 91, 92, 93] g g2 := f1.tr f2 (by simp <;> omega)
          refine ⟨nI 1, g1, g2, q, K, ?_, e2, hI.ish ff (by intro c hc; simp only [List.mem_cons, List.not_mem_nil, or_false] at hc; simp only [scr, List.mem_append, List.mem_cons, List.not_mem_nil, or_false]; omega) (Sh_of (fun k' hk' => ?_))⟩
          · simp -dsimp -implicitDefEqProofs (disch := omega) only [bnd_u, gd_t, if_true, if_false, ↓reduceIte, eq_self, true_or, or_true, false_or, or_false, not_true_eq_false, not_false_eq_true, and_true, true_and, and_false, false_and, reduceCtorEq, nI_ge, nI_le, nI_lt, nI_nlt, nI_ne, nI_te, nm_eq, mn_eq, nm_le, mn_le, nm_lt, mn_lt, pk_mul, nI_add, pk_sub, nI_clamp, eX8_sheet, c_sheet hk, c_lane hl, hTop, ark hk, (pgk hk).k, e1]
          · by_cases e : k' = k
            · subst e
              refine Or.inr ⟨l, n, by omega, hn, ?_, ?_, ?_, ?_, fun i hi => ?_⟩
              · rw [f2 _ (by simp <;> omega)]; exact a1
              · rw [f2 _ (by simp <;> omega)]; exact b1
              · rw [a2, pk_us]
              · rw [b2, pk_us]
              · rw [f2 _ (by simp <;> omega), c1 i hi, c2 i hi]
            · rw [ff (70 + 2 * k') (by simp <;> omega), ff (71 + 2 * k') (by simp <;> omega)]
              rcases Sh_at hI.sh hk' with ⟨h1, h2⟩ | ⟨l', n', h1, h2, h3, h4, h5, h6, h7⟩
              · refine Or.inl ⟨h1, ?_⟩
                rw [a2, pk_un e, f1 91 (by simp <;> omega)]; exact h2
              · refine Or.inr ⟨l', n', h1, h2, h3, h4, ?_, ?_, fun i hi => ?_⟩
                · rw [a2, pk_un e, f1 91 (by simp <;> omega)]; exact h5
                · rw [b2, pk_un e, f1 92 (by simp <;> omega)]; exact h6
                · rw [d2 _ (by omega), f1 93 (by simp <;> omega)]; exact h7 i hi
        · refine ⟨mi 14, g, g, q, K, ?_, ?_, hI⟩
          · simp -dsimp -implicitDefEqProofs (disch := omega) only [bnd_u, gd_t, if_true, if_false, ↓reduceIte, eq_self, true_or, or_true, false_or, or_false, not_true_eq_false, not_false_eq_true, and_true, true_and, and_false, false_and, reduceCtorEq, nI_ge, nI_le, nI_lt, nI_nlt, nI_ne, nI_te, nm_eq, mn_eq, nm_le, mn_le, nm_lt, mn_lt, pk_mul, nI_add, pk_sub, nI_clamp, eX8_sheet, c_sheet hk, c_lane hl, z1, z2]
          · simp -dsimp -implicitDefEqProofs (disch := omega) only [bnd_u, gd_t, if_true, if_false, ↓reduceIte, eq_self, true_or, or_true, false_or, or_false, not_true_eq_false, not_false_eq_true, and_true, true_and, and_false, false_and, reduceCtorEq, nI_ge, nI_le, nI_lt, nI_nlt, nI_ne, nI_te, nm_eq, mn_eq, nm_le, mn_le, nm_lt, mn_lt, pk_mul, nI_add, pk_sub, nI_clamp, eX9_sheet, hin, hin2, z1, z2]
      · refine ⟨mi 1, g, g, q, K, ?_, ?_, hI⟩
        · simp -dsimp -implicitDefEqProofs (disch := omega) only [bnd_u, gd_t, if_true, if_false, ↓reduceIte, eq_self, true_or, or_true, false_or, or_false, not_true_eq_false, not_false_eq_true, and_true, true_and, and_false, false_and, reduceCtorEq, nI_ge, nI_le, nI_lt, nI_nlt, nI_ne, nI_te, nm_eq, mn_eq, nm_le, mn_le, nm_lt, mn_lt, pk_mul, nI_add, pk_sub, nI_clamp, eX8_sheet, eX8_sheet_20, c_sheet hk, c_lane hl, z1]
        · simp -dsimp -implicitDefEqProofs (disch := omega) only [bnd_u, gd_t, if_true, if_false, ↓reduceIte, eq_self, true_or, or_true, false_or, or_false, not_true_eq_false, not_false_eq_true, and_true, true_and, and_false, false_and, reduceCtorEq, nI_ge, nI_le, nI_lt, nI_nlt, nI_ne, nI_te, nm_eq, mn_eq, nm_le, mn_le, nm_lt, mn_lt, pk_mul, nI_add, pk_sub, nI_clamp, eX9_sheet, eX9_sheet_30, hin, hin2, z1]
