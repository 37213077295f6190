/-! text: the class's tape, whole -/
theorem nu_c {b : Nat → Nat} {n lo hi x : Nat} {t : Nat × Nat} (h : t.1 ≤ 6) : (nu b n lo (fO lo hi x) t).2.1 ≤ 6 := by
  unfold nu nuS
  have := fO_le lo hi x (kV b n (sk b n t.2))
  split
  · exact h
  · split
    · show (1 : Nat) ≤ 6
      decide
    · split
      · show (2 : Nat) ≤ 6
        decide
      · split
        · show fO lo hi x (kV b n (sk b n t.2)) ≤ 6
          omega
        · exact Nat.zero_le _
theorem stp_c {b : Nat → Nat} {n : Nat} {t : Nat × Nat} (h : t.1 ≤ 6) : (stp b n t).1 ≤ 6 := by
  unfold stp stS
  split
  · exact h
  · split
    · show (1 : Nat) ≤ 6
      decide
    · split
      · show (2 : Nat) ≤ 6
        decide
      · exact Nat.zero_le _
theorem dif_c {b : Nat → Nat} {n d : Nat} {t : Nat × Nat} (h : t.1 ≤ 6) : (dif b n d t).1 ≤ 6 := by
  unfold dif
  split
  · exact h
  · split
    · show (3 : Nat) ≤ 6
      decide
    · exact h
theorem rot_c {b : Nat → Nat} {n : Nat} : ∀ (d : Nat) (t : Nat × Nat) (z : Nat → Nat), t.1 ≤ 6 → (rot b n d t z).1.1 ≤ 6
  | 0, t, z, h => h
  | d + 1, t, z, h => by
    rw [rot]
    split
    · exact h
    · split
      · exact h
      · split
        · show (5 : Nat) ≤ 6
          decide
        · exact rot_c d _ _ (nu_c h)
theorem lineS_c {b : Nat → Nat} {n s : Nat} {z : Nat → Nat} : (lineS b n s z).1.1 ≤ 6 := by
  unfold lineS
  split
  · show (2 : Nat) ≤ 6
    decide
  · split
    · show (2 : Nat) ≤ 6
      decide
    · unfold lineI
      split
      · show (5 : Nat) ≤ 6
        decide
      · split
        · show (4 : Nat) ≤ 6
          decide
        · refine stp_c ?_
          have h0 : ((0, kE b n s) : Nat × Nat).1 ≤ 6 := Nat.zero_le 6
          unfold body
          split
          · exact nu_c h0
          · split
            · exact nu_c (nu_c h0)
            · split
              · exact nu_c (nu_c (nu_c h0))
              · split
                · exact rot_c 11 _ _ h0
                · split
                  · exact nu_c (nu_c (nu_c (nu_c h0)))
                  · exact nu_c (nu_c (dif_c (nu_c (nu_c h0))))
theorem txt_c {b : Nat → Nat} {n : Nat} : ∀ (d l p : Nat) (z : Nat → Nat) (R : (Nat × Nat) × Nat × (Nat → Nat)), txt b n d l p z = some R → R.1.1 ≤ 6
  | 0, l, p, z, R, h => by cases h
  | d + 1, l, p, z, R, h => by
    rw [txt] at h
    split at h
    · cases h
      show (1 : Nat) ≤ 6
      decide
    · split at h
      · cases h
        exact Nat.zero_le 6
      · split at h
        · cases h
          exact lineS_c
        · exact txt_c d _ _ _ R h
theorem d_one {g : Gg} {z : Nat → Nat} {k : Nat} (hC : Cl g z) (hZ : Zd z) (hk : k < z 74) : FX1_isOne 19 (nI k) (mk g) = some (nI 1, mk g) := by
  simp -dsimp -implicitDefEqProofs (disch := omega) only [bnd_u, gd_t, if_true, if_false, ↓reduceIte, eq_self, true_or, or_true, false_or, or_false, not_true_eq_false, not_false_eq_true, and_true, true_and, and_false, false_and, reduceCtorEq, nI_ge, nI_le, nI_lt, nI_nlt, nI_ne, nI_te, nm_eq, mn_eq, nm_le, mn_le, nm_lt, mn_lt, pk_mul, nI_add, pk_sub, nI_clamp, eX1_isOne, hRd, R_has rw20 hC.1.1 hZ.2.1 hk]
theorem d_oneN {g : Gg} {z : Nat → Nat} {k : Nat} (hC : Cl g z) (hk : z 74 ≤ k) (h2 : k < 100) : FX1_isOne 19 (nI k) (mk g) = some (nI 0, mk g) := by
  simp -dsimp -implicitDefEqProofs (disch := omega) only [bnd_u, gd_t, if_true, if_false, ↓reduceIte, eq_self, true_or, or_true, false_or, or_false, not_true_eq_false, not_false_eq_true, and_true, true_and, and_false, false_and, reduceCtorEq, nI_ge, nI_le, nI_lt, nI_nlt, nI_ne, nI_te, nm_eq, mn_eq, nm_le, mn_le, nm_lt, mn_lt, pk_mul, nI_add, pk_sub, nI_clamp, eX1_isOne, hRd, R_hasN rw20 hC.1.1 (Or.inr ⟨nI_nlt (Nat.zero_le k) (by omega), nI_le hk (by omega)⟩)]
theorem c_names {g : Gg} {z : Nat → Nat} (hC : Cl g z) (hZ : Zd z) : FX1_namesOnlyKin 19 (mk g) = some (nI (decide (z 78 ≤ z 74)).toNat, mk g) := by
  have hK := hZ.2.1
  have hH := hZ.2.2.1 (z 74)
  have hwn := hZ.1.wn
  have hen := hZ.1.en
  have no : ¬ z 78 ≤ z 74 → nI (decide (z 78 ≤ z 74)).toNat = nI 0 := fun h => by rw [decide_eq_false h]; rfl
  have ye : z 78 ≤ z 74 → nI (decide (z 78 ≤ z 74)).toNat = nI 1 := fun h => by rw [decide_eq_true h]; rfl
  rw [eX1_namesOnlyKin]
  refine lp_0 (σ := Unit) (fun m h _ => FX1_namesOnlyKin_2 m 19 (nI h) (mk g)) 10 (fun h _ => ∀ j, j < h → z (26 + j) ≤ z 74) (fun o => o = some (nI (decide (z 78 ≤ z 74)).toNat, mk g)) (s := ()) (fun j hj => absurd hj (by omega)) (by decide) ?_ ?_
  · intro m h _ hh hI
    have hx := hC.2.1 h hh
    have hr := hZ.1.r hh
    by_cases z0 : z (26 + h) = 0
    · rw [ho_0 z0] at hx
      refine Or.inr ⟨(), ?_, fun j hj => ?_⟩
      · simp -dsimp -implicitDefEqProofs (disch := omega) only [bnd_u, gd_t, if_true, if_false, ↓reduceIte, eq_self, true_or, or_true, false_or, or_false, not_true_eq_false, not_false_eq_true, and_true, true_and, and_false, false_and, reduceCtorEq, nI_ge, nI_le, nI_lt, nI_nlt, nI_ne, nI_te, nm_eq, mn_eq, nm_le, mn_le, nm_lt, mn_lt, pk_mul, nI_add, pk_sub, nI_clamp, eX1_namesOnlyKin_2, eX1_namesOnlyKin_34, hRd, hx]
      · by_cases e : j = h
        · rw [e, z0]; exact Nat.zero_le _
        · exact hI j (by omega)
    · rw [ho_s (by omega)] at hx
      rcases Nat.lt_or_ge (z 74) (z (26 + h)) with hc | hc
      · have h1 := d_oneN (k := z (26 + h) - 1) hC (by omega) (by omega)
        refine Or.inl ?_
        rw [no (fun hn => absurd (((hH.mp hn).1) h hh) (by omega))]
        simp -dsimp -implicitDefEqProofs (disch := omega) only [bnd_u, gd_t, if_true, if_false, ↓reduceIte, eq_self, true_or, or_true, false_or, or_false, not_true_eq_false, not_false_eq_true, and_true, true_and, and_false, false_and, reduceCtorEq, nI_ge, nI_le, nI_lt, nI_nlt, nI_ne, nI_te, nm_eq, mn_eq, nm_le, mn_le, nm_lt, mn_lt, pk_mul, nI_add, pk_sub, nI_clamp, eX1_namesOnlyKin_2, eX1_namesOnlyKin_34, hRd, hx, h1]
      · have h1 := d_one (k := z (26 + h) - 1) hC hZ (by omega)
        refine Or.inr ⟨(), ?_, fun j hj => ?_⟩
        · simp -dsimp -implicitDefEqProofs (disch := omega) only [bnd_u, gd_t, if_true, if_false, ↓reduceIte, eq_self, true_or, or_true, false_or, or_false, not_true_eq_false, not_false_eq_true, and_true, true_and, and_false, false_and, reduceCtorEq, nI_ge, nI_le, nI_lt, nI_nlt, nI_ne, nI_te, nm_eq, mn_eq, nm_le, mn_le, nm_lt, mn_lt, pk_mul, nI_add, pk_sub, nI_clamp, eX1_namesOnlyKin_2, eX1_namesOnlyKin_34, hRd, hx, h1]
        · by_cases e : j = h
          · rw [e]; exact hc
          · exact hI j (by omega)
  · intro m _ hI1
    rw [show FX1_namesOnlyKin_2 (m + 1) 19 (nI 10) (mk g) = FX1_namesOnlyKin_42 fu 19 (nI 0) (mk g) by simp -dsimp -implicitDefEqProofs (disch := omega) only [bnd_u, gd_t, if_true, if_false, ↓reduceIte, eq_self, true_or, or_true, false_or, or_false, not_true_eq_false, not_false_eq_true, and_true, true_and, and_false, false_and, reduceCtorEq, nI_ge, nI_le, nI_lt, nI_nlt, nI_ne, nI_te, nm_eq, mn_eq, nm_le, mn_le, nm_lt, mn_lt, pk_mul, nI_add, pk_sub, nI_clamp, eX1_namesOnlyKin_2]]
    have w3 := hC.1.2.2.2.2.2.1
    refine lp_0 (σ := Unit) (fun m i _ => FX1_namesOnlyKin_42 m 19 (nI i) (mk g)) (z 56) (fun i _ => ∀ j, j < i → z (36 + 4 * j) < z 74) (fun o => o = some (nI (decide (z 78 ≤ z 74)).toNat, mk g)) (s := ()) (fun j hj => absurd hj (by omega)) (fu_l (by omega)) ?_ ?_
    · intro m i _ hi hI
      have hA := R_at rw24 w3 hwn hi (show 0 < 4 by omega)
      rw [hC.1.2.2.2.2.2.2.1 i 0 hi (by omega), Nat.add_zero] at hA
      have hb := hZ.1.q (36 + 4 * i)
      rcases Nat.lt_or_ge (z (36 + 4 * i)) (z 74) with hc | hc
      · have h1 := d_one hC hZ hc
        refine Or.inr ⟨(), ?_, fun j hj => ?_⟩
        · simp -dsimp -implicitDefEqProofs (disch := omega) only [bnd_u, gd_t, if_true, if_false, ↓reduceIte, eq_self, true_or, or_true, false_or, or_false, not_true_eq_false, not_false_eq_true, and_true, true_and, and_false, false_and, reduceCtorEq, nI_ge, nI_le, nI_lt, nI_nlt, nI_ne, nI_te, nm_eq, mn_eq, nm_le, mn_le, nm_lt, mn_lt, pk_mul, nI_add, pk_sub, nI_clamp, eX1_namesOnlyKin_42, hRd, w3, hA, h1]
        · by_cases e : j = i
          · rw [e]; exact hc
          · exact hI j (by omega)
      · have h1 := d_oneN hC hc (by omega)
        refine Or.inl ?_
        rw [no (fun hn => absurd (((hH.mp hn).2.1) i hi) (by omega))]
        simp -dsimp -implicitDefEqProofs (disch := omega) only [bnd_u, gd_t, if_true, if_false, ↓reduceIte, eq_self, true_or, or_true, false_or, or_false, not_true_eq_false, not_false_eq_true, and_true, true_and, and_false, false_and, reduceCtorEq, nI_ge, nI_le, nI_lt, nI_nlt, nI_ne, nI_te, nm_eq, mn_eq, nm_le, mn_le, nm_lt, mn_lt, pk_mul, nI_add, pk_sub, nI_clamp, eX1_namesOnlyKin_42, hRd, w3, hA, h1]
    · intro m _ hI2
      rw [show FX1_namesOnlyKin_42 (m + 1) 19 (nI (z 56)) (mk g) = FX1_namesOnlyKin_79 fu 19 (nI 0) (mk g) by simp -dsimp -implicitDefEqProofs (disch := omega) only [bnd_u, gd_t, if_true, if_false, ↓reduceIte, eq_self, true_or, or_true, false_or, or_false, not_true_eq_false, not_false_eq_true, and_true, true_and, and_false, false_and, reduceCtorEq, nI_ge, nI_le, nI_lt, nI_nlt, nI_ne, nI_te, nm_eq, mn_eq, nm_le, mn_le, nm_lt, mn_lt, pk_mul, nI_add, pk_sub, nI_clamp, eX1_namesOnlyKin_42, hRd, w3]]
      have t3 := hC.1.2.2.2.2.2.2.2.1
      refine lp_0 (σ := Unit) (fun m i _ => FX1_namesOnlyKin_79 m 19 (nI i) (mk g)) (z 73) (fun i _ => ∀ j, j < i → z (57 + 4 * j + 1) < z 74 ∧ z (57 + 4 * j + 2) < z 74) (fun o => o = some (nI (decide (z 78 ≤ z 74)).toNat, mk g)) (s := ()) (fun j hj => absurd hj (by omega)) (fu_l (by omega)) ?_ ?_
      · intro m i _ hi hI
        have hA := R_at rw26 t3 hen hi (show 1 < 4 by omega)
        rw [hC.1.2.2.2.2.2.2.2.2.1 i 1 hi (by omega)] at hA
        have hB := R_at rw26 t3 hen hi (show 2 < 4 by omega)
        rw [hC.1.2.2.2.2.2.2.2.2.1 i 2 hi (by omega)] at hB
        have hb := hZ.1.q (57 + 4 * i + 1)
        have hb2 := hZ.1.q (57 + 4 * i + 2)
        rcases Nat.lt_or_ge (z (57 + 4 * i + 1)) (z 74) with hc | hc
        · have h1 := d_one hC hZ hc
          rcases Nat.lt_or_ge (z (57 + 4 * i + 2)) (z 74) with hc2 | hc2
          · have h2 := d_one hC hZ hc2
            refine Or.inr ⟨(), ?_, fun j hj => ?_⟩
            · simp -dsimp -implicitDefEqProofs (disch := omega) only [bnd_u, gd_t, if_true, if_false, ↓reduceIte, eq_self, true_or, or_true, false_or, or_false, not_true_eq_false, not_false_eq_true, and_true, true_and, and_false, false_and, reduceCtorEq, nI_ge, nI_le, nI_lt, nI_nlt, nI_ne, nI_te, nm_eq, mn_eq, nm_le, mn_le, nm_lt, mn_lt, pk_mul, nI_add, pk_sub, nI_clamp, eX1_namesOnlyKin_79, hRd, t3, hA, h1, hB, h2]
            · by_cases e : j = i
              · rw [e]; exact ⟨hc, hc2⟩
              · exact hI j (by omega)
          · have h2 := d_oneN hC hc2 (by omega)
            refine Or.inl ?_
            rw [no (fun hn => absurd (((hH.mp hn).2.2) i hi).2 (by omega))]
            simp -dsimp -implicitDefEqProofs (disch := omega) only [bnd_u, gd_t, if_true, if_false, ↓reduceIte, eq_self, true_or, or_true, false_or, or_false, not_true_eq_false, not_false_eq_true, and_true, true_and, and_false, false_and, reduceCtorEq, nI_ge, nI_le, nI_lt, nI_nlt, nI_ne, nI_te, nm_eq, mn_eq, nm_le, mn_le, nm_lt, mn_lt, pk_mul, nI_add, pk_sub, nI_clamp, eX1_namesOnlyKin_79, eX1_namesOnlyKin_122, hRd, t3, hA, h1, hB, h2]
        · have h1 := d_oneN hC hc (by omega)
          refine Or.inl ?_
          rw [no (fun hn => absurd (((hH.mp hn).2.2) i hi).1 (by omega))]
          simp -dsimp -implicitDefEqProofs (disch := omega) only [bnd_u, gd_t, if_true, if_false, ↓reduceIte, eq_self, true_or, or_true, false_or, or_false, not_true_eq_false, not_false_eq_true, and_true, true_and, and_false, false_and, reduceCtorEq, nI_ge, nI_le, nI_lt, nI_nlt, nI_ne, nI_te, nm_eq, mn_eq, nm_le, mn_le, nm_lt, mn_lt, pk_mul, nI_add, pk_sub, nI_clamp, eX1_namesOnlyKin_79, eX1_namesOnlyKin_122, hRd, t3, hA, h1]
      · intro m _ hI3
        rw [ye (hH.mpr ⟨hI1, hI2, hI3⟩)]
        simp -dsimp -implicitDefEqProofs (disch := omega) only [bnd_u, gd_t, if_true, if_false, ↓reduceIte, eq_self, true_or, or_true, false_or, or_false, not_true_eq_false, not_false_eq_true, and_true, true_and, and_false, false_and, reduceCtorEq, nI_ge, nI_le, nI_lt, nI_nlt, nI_ne, nI_te, nm_eq, mn_eq, nm_le, mn_le, nm_lt, mn_lt, pk_mul, nI_add, pk_sub, nI_clamp, eX1_namesOnlyKin_79, hRd, t3]
/-- the empty page -/
def z0 : Nat → Nat := fun _ => 0
theorem Zd_0 : Zd z0 := by
  refine ⟨⟨by decide, fun _ => Nat.zero_le _, fun _ _ => ⟨Nat.zero_le _, Nat.zero_le _⟩, Nat.zero_le _, fun t ht => absurd ht (Nat.not_lt_zero t), fun _ _ => Nat.zero_le _, Nat.zero_le _, fun t ht => absurd ht (Nat.not_lt_zero t), Nat.zero_le _, fun t ht => absurd ht (Nat.not_lt_zero t), fun _ _ => Nat.zero_le _⟩, Nat.zero_le _, fun K => ⟨fun _ => ⟨fun _ _ => Nat.zero_le _, fun t ht => absurd ht (Nat.not_lt_zero t), fun t ht => absurd ht (Nat.not_lt_zero t)⟩, fun _ => Nat.zero_le _⟩, Nat.zero_le _, by decide, Nat.zero_le _, fun _ => ⟨rfl, fun _ _ => rfl⟩⟩
theorem c_empty {g : Gg} : ∃ g', FX1_makeEmpty 19 (mk g) = some ((), mk g') ∧ Fr [20, 22, 24, 26, 28, 29] g g' ∧ D1 g' z0 0 ∧ Ro (g' 29) z0 := by
  obtain ⟨u, eu⟩ : ∃ u, u = up (up (up (up g 20 3 (nI 0)) 22 3 (nI 0)) 24 3 (nI 0)) 26 3 (nI 0) := ⟨_, rfl⟩
  have fu0 : Fr [20, 22, 24, 26, 28, 29] g u := by
    rw [eu]
    exact (((Fr.c (l := [20, 22, 24, 26, 28, 29]) (by decide)).tr (Fr.c (l := [20, 22, 24, 26, 28, 29]) (by decide)) (fun c hc => ⟨hc, hc⟩)).tr (Fr.c (l := [20, 22, 24, 26, 28, 29]) (by decide)) (fun c hc => ⟨hc, hc⟩)).tr (Fr.c (l := [20, 22, 24, 26, 28, 29]) (by decide)) (fun c hc => ⟨hc, hc⟩)
  have u20 : u 20 3 = nI 0 := by rw [eu, up_n (by decide), up_n (by decide), up_n (by decide), up_c, pk_us]
  have u22 : u 22 3 = nI 0 := by rw [eu, up_n (by decide), up_n (by decide), up_c, pk_us]
  have u24 : u 24 3 = nI 0 := by rw [eu, up_n (by decide), up_c, pk_us]
  have u26 : u 26 3 = nI 0 := by rw [eu, up_c, pk_us]
  have e0 : FX1_makeEmpty 19 (mk g) = FX1_makeEmpty_34 fu 19 (nI 0) (mk u) := by
    rw [eu]
    simp -dsimp -implicitDefEqProofs (disch := omega) only [bnd_u, gd_t, if_true, if_false, ↓reduceIte, eq_self, true_or, or_true, false_or, or_false, not_true_eq_false, not_false_eq_true, and_true, true_and, and_false, false_and, reduceCtorEq, nI_ge, nI_le, nI_lt, nI_nlt, nI_ne, nI_te, nm_eq, mn_eq, nm_le, mn_le, nm_lt, mn_lt, pk_mul, nI_add, pk_sub, nI_clamp, eX1_makeEmpty, hRd]
  rw [e0]
  refine lp_0 (σ := Gg) (fun m k v => FX1_makeEmpty_34 m 19 (nI k) (mk v)) 3 (fun k v => Fr [28] u v ∧ ∀ j, j < k → v 28 j = nI 0) (fun o => ∃ g', o = some ((), mk g') ∧ Fr [20, 22, 24, 26, 28, 29] g g' ∧ D1 g' z0 0 ∧ Ro (g' 29) z0) ⟨Fr.refl, fun j hj => absurd hj (by omega)⟩ (by decide) ?_ ?_
  · intro m k v hk ⟨f1, i1⟩
    refine Or.inr ⟨up v 28 k (nI 0), ?_, f1.tr (Fr.c (l := [28]) (by decide)) (fun c hc => ⟨hc, hc⟩), fun j hj => ?_⟩
    · simp -dsimp -implicitDefEqProofs (disch := omega) only [bnd_u, gd_t, if_true, if_false, ↓reduceIte, eq_self, true_or, or_true, false_or, or_false, not_true_eq_false, not_false_eq_true, and_true, true_and, and_false, false_and, reduceCtorEq, nI_ge, nI_le, nI_lt, nI_nlt, nI_ne, nI_te, nm_eq, mn_eq, nm_le, mn_le, nm_lt, mn_lt, pk_mul, nI_add, pk_sub, nI_clamp, eX1_makeEmpty_34, hRd]
    · rw [up_c]
      by_cases e : j = k
      · rw [e, pk_us]
      · rw [pk_un e]; exact i1 j (by omega)
  · intro m v ⟨f1, i1⟩
    rw [show FX1_makeEmpty_34 (m + 1) 19 (nI 3) (mk v) = FX1_makeEmpty_54 fu 19 (nI 0) (mk v) by simp -dsimp -implicitDefEqProofs (disch := omega) only [bnd_u, gd_t, if_true, if_false, ↓reduceIte, eq_self, true_or, or_true, false_or, or_false, not_true_eq_false, not_false_eq_true, and_true, true_and, and_false, false_and, reduceCtorEq, nI_ge, nI_le, nI_lt, nI_nlt, nI_ne, nI_te, nm_eq, mn_eq, nm_le, mn_le, nm_lt, mn_lt, pk_mul, nI_add, pk_sub, nI_clamp, eX1_makeEmpty_34]]
    refine lp_0 (σ := Gg) (fun m k w => FX1_makeEmpty_54 m 19 (nI k) (mk w)) 10 (fun k w => Fr [29] v w ∧ ∀ j, j < k → w 29 j = mi 4) (fun o => ∃ g', o = some ((), mk g') ∧ Fr [20, 22, 24, 26, 28, 29] g g' ∧ D1 g' z0 0 ∧ Ro (g' 29) z0) ⟨Fr.refl, fun j hj => absurd hj (by omega)⟩ (by decide) ?_ ?_
    · intro m k w hk ⟨f2, i2⟩
      refine Or.inr ⟨up w 29 k (mi 4), ?_, f2.tr (Fr.c (l := [29]) (by decide)) (fun c hc => ⟨hc, hc⟩), fun j hj => ?_⟩
      · simp -dsimp -implicitDefEqProofs (disch := omega) only [bnd_u, gd_t, if_true, if_false, ↓reduceIte, eq_self, true_or, or_true, false_or, or_false, not_true_eq_false, not_false_eq_true, and_true, true_and, and_false, false_and, reduceCtorEq, nI_ge, nI_le, nI_lt, nI_nlt, nI_ne, nI_te, nm_eq, mn_eq, nm_le, mn_le, nm_lt, mn_lt, pk_mul, nI_add, pk_sub, nI_clamp, eX1_makeEmpty_54, hRd]
      · rw [up_c]
        by_cases e : j = k
        · rw [e, pk_us]
        · rw [pk_un e]; exact i2 j (by omega)
    · intro m w ⟨f2, i2⟩
      refine ⟨w, ?_, fu0.tr (f1.tr f2 (l := [28, 29]) (by simp)) (by simp <;> omega), ⟨?_, fun k hk => absurd hk (Nat.not_lt_zero k), fun k hk => absurd hk (Nat.not_lt_zero k), ?_, fun t _ ht => absurd ht (Nat.not_lt_zero t), ?_, fun t _ ht => absurd ht (Nat.not_lt_zero t), ?_, fun t _ ht => absurd ht (Nat.not_lt_zero t), fun i hi => ?_⟩, fun h hh => ?_⟩
      · simp -dsimp -implicitDefEqProofs (disch := omega) only [bnd_u, gd_t, if_true, if_false, ↓reduceIte, eq_self, true_or, or_true, false_or, or_false, not_true_eq_false, not_false_eq_true, and_true, true_and, and_false, false_and, reduceCtorEq, nI_ge, nI_le, nI_lt, nI_nlt, nI_ne, nI_te, nm_eq, mn_eq, nm_le, mn_le, nm_lt, mn_lt, pk_mul, nI_add, pk_sub, nI_clamp, eX1_makeEmpty_54]
      · rw [f2 20 (by decide), f1 20 (by decide), u20]
      · rw [f2 22 (by decide), f1 22 (by decide), u22]; rfl
      · rw [f2 24 (by decide), f1 24 (by decide), u24]; rfl
      · rw [f2 26 (by decide), f1 26 (by decide), u26]; rfl
      · rw [f2 28 (by decide), i1 i hi]; rfl
      · rw [i2 h hh]; rfl
/-- the tape read by the class: R is what is due -/
theorem c_tape {g : Gg} {b : Nat → Nat} {n : Nat} (hT : Ta g n b) : ∃ g' R, txt b n (n + 1) 0 0 z0 = some R ∧ FX5_readTape 18 (mk g) = some ((), mk g') ∧ Fr cl18 g g' ∧ ((R.1.1 ≠ 0 ∧ g' 18 3 = nI R.1.1 ∧ g' 18 4 = nI R.1.2) ∨ (R.1.1 = 0 ∧ R.1.2 = n ∧ Zd R.2.2 ∧ ((¬ R.2.2 78 ≤ R.2.2 74 ∧ g' 18 3 = nI 6 ∧ g' 18 4 = nI n) ∨ (R.2.2 78 ≤ R.2.2 74 ∧ g' 18 3 = nI 0 ∧ g' 18 2 = nI R.2.1 ∧ Cl g' R.2.2)))) := by
  have hn := hT.1
  obtain ⟨g1, e1, f1, hD, hRo⟩ := c_empty (g := g)
  obtain ⟨u, eu⟩ : ∃ u, u = up (up (up (up (up (up g1 18 2 (nI 0)) 18 3 (nI 0)) 18 4 (nI 0)) 18 7 (nI 0)) 18 9 (nI 0)) 18 10 (nI 0) := ⟨_, rfl⟩
  have fu0 : Fc 18 [2, 3, 4, 7, 9, 10] g1 u := by
    rw [eu]
    exact ((((((Fc.u (by decide)).ux (by decide)).ux (by decide)).ux (by decide)).ux (by decide)).ux (by decide))
  have u2 : u 18 2 = nI 0 := by rw [eu, up_c, pk_un (by decide), up_c, pk_un (by decide), up_c, pk_un (by decide), up_c, pk_un (by decide), up_c, pk_un (by decide), up_c, pk_us]
  have u3 : u 18 3 = nI 0 := by rw [eu, up_c, pk_un (by decide), up_c, pk_un (by decide), up_c, pk_un (by decide), up_c, pk_un (by decide), up_c, pk_us]
  have u7 : u 18 7 = nI 0 := by rw [eu, up_c, pk_un (by decide), up_c, pk_un (by decide), up_c, pk_us]
  have u9 : u 18 9 = nI 0 := by rw [eu, up_c, pk_un (by decide), up_c, pk_us]
  have u10 : u 18 10 = nI 0 := by rw [eu, up_c, pk_us]
  have fru : Fr cl18 g u := (f1.mo (l := cl18) (fun c hc h => hc (by revert h; unfold cl18; simp <;> omega))).tr (l2 := cl18) (fun c hc => fu0.1 c (fun e => hc (by rw [e]; decide))) (fun c hc => ⟨hc, hc⟩)
  have hTu : Ta u n b := hT.f (fru 16 (by decide)) (fru 17 (by decide))
  have hCu : Cl u z0 := by
    unfold Cl D1
    rw [fu0.1 20 (by decide), fu0.1 21 (by decide), fu0.1 22 (by decide), fu0.1 23 (by decide), fu0.1 24 (by decide), fu0.1 25 (by decide), fu0.1 26 (by decide), fu0.1 27 (by decide), fu0.1 28 (by decide), fu0.1 29 (by decide)]
    exact ⟨hD, hRo, u9, u10⟩
  obtain ⟨r2, g3, e3, f3, c3⟩ := c_token hTu u7 (Nat.zero_le n)
  have fr3 : Fr cl18 g g3 := fru.tr (l2 := cl18) (fun c hc => f3.1 c (fun e => hc (by rw [e]; decide))) (fun c hc => ⟨hc, hc⟩)
  have hC3 := hCu.c f3 (by decide)
  have key : ∃ g4 R, txt b n (n + 1) 0 0 z0 = some R ∧ FX5_readTape 18 (mk g) = FX5_readTape_113 18 (mk g4) ∧ Fr cl18 g g4 ∧ Pt g4 n R := by
    rcases c3 with ⟨k, rfl, b3, b4⟩ | ⟨k, rfl, b3, b4, b5, b6, b7, b8⟩
    · rw [txt, if_pos k]
      refine ⟨g3, _, rfl, ?_, fr3, Or.inl ⟨by show (1 : Nat) ≠ 0; decide, b3, b4⟩⟩
      have e0 : FX5_readTape_57 fu 18 (nI 0) (mk g3) = FX5_readTape_113 18 (mk g3) := by
        rw [fu_1]
        simp -dsimp -implicitDefEqProofs (disch := omega) only [bnd_u, gd_t, if_true, if_false, ↓reduceIte, eq_self, true_or, or_true, false_or, or_false, not_true_eq_false, not_false_eq_true, and_true, true_and, and_false, false_and, reduceCtorEq, nI_ge, nI_le, nI_lt, nI_nlt, nI_ne, nI_te, nm_eq, mn_eq, nm_le, mn_le, nm_lt, mn_lt, pk_mul, nI_add, pk_sub, nI_clamp, eX5_readTape_57]
      simp -dsimp -implicitDefEqProofs (disch := omega) only [bnd_u, gd_t, if_true, if_false, ↓reduceIte, eq_self, true_or, or_true, false_or, or_false, not_true_eq_false, not_false_eq_true, and_true, true_and, and_false, false_and, reduceCtorEq, nI_ge, nI_le, nI_lt, nI_nlt, nI_ne, nI_te, nm_eq, mn_eq, nm_le, mn_le, nm_lt, mn_lt, pk_mul, nI_add, pk_sub, nI_clamp, eX5_readTape, eX5_readTape_55, eX5_readTape_56, hRd, e1, ← eu, e3, e0]
    · obtain ⟨g', R', t', e', f', P'⟩ := c_loop (n + 1) fu 0 0 z0 g3 (by omega) (by rw [fu_1]; omega) (by omega) (Nat.zero_le n) (hT.f (fr3 16 (by decide)) (fr3 17 (by decide))) hC3 Zd_0 (by rw [f3.2 2 (by decide), u2]) (by rw [b3, u3]) b5 b6 b7 k
      refine ⟨g', R', t', ?_, fr3.tr f' (fun c hc => ⟨hc, hc⟩), P'⟩
      have hkl := kK_le b n (sk b n 0)
      by_cases k9 : kK b n (sk b n 0) = 0
      · rw [if_pos k9] at e'
        rw [k9] at b5
        simp -dsimp -implicitDefEqProofs (disch := omega) only [bnd_u, gd_t, if_true, if_false, ↓reduceIte, eq_self, true_or, or_true, false_or, or_false, not_true_eq_false, not_false_eq_true, and_true, true_and, and_false, false_and, reduceCtorEq, nI_ge, nI_le, nI_lt, nI_nlt, nI_ne, nI_te, nm_eq, mn_eq, nm_le, mn_le, nm_lt, mn_lt, pk_mul, nI_add, pk_sub, nI_clamp, eX5_readTape, eX5_readTape_55, eX5_readTape_56, hRd, e1, ← eu, e3, b5, e']
      · rw [if_neg k9] at e'
        simp -dsimp -implicitDefEqProofs (disch := omega) only [bnd_u, gd_t, if_true, if_false, ↓reduceIte, eq_self, true_or, or_true, false_or, or_false, not_true_eq_false, not_false_eq_true, and_true, true_and, and_false, false_and, reduceCtorEq, nI_ge, nI_le, nI_lt, nI_nlt, nI_ne, nI_te, nm_eq, mn_eq, nm_le, mn_le, nm_lt, mn_lt, pk_mul, nI_add, pk_sub, nI_clamp, eX5_readTape, eX5_readTape_55, eX5_readTape_56, hRd, e1, ← eu, e3, b5, e']
  obtain ⟨g4, R, t4, e4, f4, P4⟩ := key
  rw [e4]
  have n4 : g4 16 3 = nI n := by rw [f4 16 (by decide)]; exact hT.2.1
  rcases P4 with ⟨c0, a3, a4⟩ | ⟨c0, an, a3, a2, hC4, hZ4⟩
  · refine ⟨g4, R, t4, ?_, f4, Or.inl ⟨c0, a3, a4⟩⟩
    have c6 := txt_c _ _ _ _ R t4
    simp -dsimp -implicitDefEqProofs (disch := omega) only [bnd_u, gd_t, if_true, if_false, ↓reduceIte, eq_self, true_or, or_true, false_or, or_false, not_true_eq_false, not_false_eq_true, and_true, true_and, and_false, false_and, reduceCtorEq, nI_ge, nI_le, nI_lt, nI_nlt, nI_ne, nI_te, nm_eq, mn_eq, nm_le, mn_le, nm_lt, mn_lt, pk_mul, nI_add, pk_sub, nI_clamp, eX5_readTape_113, eX5_readTape_148, hRd, a3]
  · have hN := c_names hC4 hZ4
    by_cases hh : R.2.2 78 ≤ R.2.2 74
    · rw [decide_eq_true hh, show (true).toNat = 1 from rfl] at hN
      refine ⟨g4, R, t4, ?_, f4, Or.inr ⟨c0, an, hZ4, Or.inr ⟨hh, a3, a2, hC4⟩⟩⟩
      simp -dsimp -implicitDefEqProofs (disch := omega) only [bnd_u, gd_t, if_true, if_false, ↓reduceIte, eq_self, true_or, or_true, false_or, or_false, not_true_eq_false, not_false_eq_true, and_true, true_and, and_false, false_and, reduceCtorEq, nI_ge, nI_le, nI_lt, nI_nlt, nI_ne, nI_te, nm_eq, mn_eq, nm_le, mn_le, nm_lt, mn_lt, pk_mul, nI_add, pk_sub, nI_clamp, eX5_readTape_113, eX5_readTape_148, hRd, a3, hN]
    · rw [decide_eq_false hh, show (false).toNat = 0 from rfl] at hN
      obtain ⟨v, ev⟩ : ∃ v, v = up g4 18 6 (nI n) := ⟨_, rfl⟩
      have hm := c_meet (g := v) (c := 6) (s := n) (by rw [ev, up_c, pk_us])
      have fm : Fc 18 [3, 4, 5, 6, 7, 8] g4 (up (up v 18 3 (nI 6)) 18 4 (nI n)) := by
        rw [ev]
        exact (((Fc.u (by decide)).ux (by decide)).ux (by decide))
      refine ⟨up (up v 18 3 (nI 6)) 18 4 (nI n), R, t4, ?_, f4.tr (l2 := cl18) (fun c hc => fm.1 c (fun e => hc (by rw [e]; decide))) (fun c hc => ⟨hc, hc⟩), Or.inr ⟨c0, an, hZ4, Or.inl ⟨hh, meet_3, meet_4⟩⟩⟩
      simp -dsimp -implicitDefEqProofs (disch := omega) only [bnd_u, gd_t, if_true, if_false, ↓reduceIte, eq_self, true_or, or_true, false_or, or_false, not_true_eq_false, not_false_eq_true, and_true, true_and, and_false, false_and, reduceCtorEq, nI_ge, nI_le, nI_lt, nI_nlt, nI_ne, nI_te, nm_eq, mn_eq, nm_le, mn_le, nm_lt, mn_lt, pk_mul, nI_add, pk_sub, nI_clamp, eX5_readTape_113, eX5_readTape_148, hRd, hTS, a3, hN, n4, ← ev, hm]
