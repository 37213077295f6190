/-! hand-overs that are missed: class and reference -/
theorem c_chances {g : Gg} {q : Nat → Nat} {K i : Nat} (hF : F1 g q K) (hG : Gd q K) (hL : Lk g q) (hi : i < q 56) : FX7_chancesOf 31 1 (nI i) (mk g) = some (nI (ch q i 10).1, mk g) := by
  have hK := hG.K
  have hw := hG.w hi
  have h0 := f_work hF hG hi (show 0 < 4 by omega)
  have h1 := f_work hF hG hi (show 1 < 4 by omega)
  have h2 := f_work hF hG hi (show 2 < 4 by omega)
  rw [Nat.add_zero] at h0
  have e0 : FX7_chancesOf 31 1 (nI i) (mk g) = FX7_chancesOf_41 fu 31 (nI (q (36 + 4 * i))) (nI (q (36 + 4 * i + 1))) (nI (q (36 + 4 * i + 2))) (nI (ch q i 0).1) (nI (ch q i 0).2.toNat) (nI 0) (mk g) := by
    simp -dsimp -implicitDefEqProofs (disch := omega) only [bnd_u, gd_t, if_true, if_false, ↓reduceIte, eq_self, true_or, or_true, false_or, or_false, not_true_eq_false, not_false_eq_true, and_true, true_and, and_false, false_and, reduceCtorEq, nI_ge, nI_le, nI_lt, nI_nlt, nI_ne, nI_te, nm_eq, mn_eq, nm_le, mn_le, nm_lt, mn_lt, pk_mul, nI_add, pk_sub, nI_clamp, eX7_chancesOf, hFam, h0, h1, h2, ch, Bool.toNat_false]
  rw [e0]
  refine lp_0 (σ := Unit) (fun n h _ => FX7_chancesOf_41 n 31 (nI (q (36 + 4 * i))) (nI (q (36 + 4 * i + 1))) (nI (q (36 + 4 * i + 2))) (nI (ch q i h).1) (nI (ch q i h).2.toNat) (nI h) (mk g)) 10 (fun _ _ => True) (fun o => o = some (nI (ch q i 10).1, mk g)) (s := ()) trivial (by decide) ?_ ?_
  · intro n h _ hh _
    refine Or.inr ⟨(), ?_, trivial⟩
    have hr := hG.r hh
    have a1 := hL.1 h hh
    have a2 := hL.2.1 h hh
    rw [ch]
    by_cases hc : q (26 + h) = q (36 + 4 * i) + 1
    · rw [if_pos hc]
      rw [hc, ho_s (by omega), Nat.add_sub_cancel] at a1
      have esv : sv q h = if dsee q h then nI (q (36 + 4 * i)) else mi 4 := by
        unfold sv
        rw [hc, Nat.add_sub_cancel]
      have eact : act q i h = ((decide (q (36 + 4 * i + 1) ≤ h) && decide (h ≤ q (36 + 4 * i + 2))) && dsee q h) := by
        unfold act hks
        rw [decide_eq_true hc, Bool.and_true]
      cases hf : (ch q i h).2
      · simp only [Bool.not_false, Bool.true_and, Bool.toNat_false]
        by_cases b1 : q (36 + 4 * i + 1) ≤ h
        · by_cases b2 : h ≤ q (36 + 4 * i + 2)
          · cases hd : dsee q h
            · have ea : act q i h = false := by rw [eact, hd, Bool.and_false]
              rw [esv, hd, if_neg (by simp)] at a2
              simp only [ea, Bool.false_eq_true, if_false]
              rw [hf]
              simp -dsimp -implicitDefEqProofs (disch := omega) only [bnd_u, gd_t, if_true, if_false, ↓reduceIte, eq_self, true_or, or_true, false_or, or_false, not_true_eq_false, not_false_eq_true, and_true, true_and, and_false, false_and, reduceCtorEq, nI_ge, nI_le, nI_lt, nI_nlt, nI_ne, nI_te, nm_eq, mn_eq, nm_le, mn_le, nm_lt, mn_lt, pk_mul, nI_add, pk_sub, nI_clamp, eX7_chancesOf_41, eX7_chancesOf_101, hSee, a1, a2, Bool.toNat_false]
            · have ea : act q i h = true := by rw [eact, hd]; simp [b1, b2]
              rw [esv, hd, if_pos rfl] at a2
              simp only [ea, if_true]
              simp -dsimp -implicitDefEqProofs (disch := omega) only [bnd_u, gd_t, if_true, if_false, ↓reduceIte, eq_self, true_or, or_true, false_or, or_false, not_true_eq_false, not_false_eq_true, and_true, true_and, and_false, false_and, reduceCtorEq, nI_ge, nI_le, nI_lt, nI_nlt, nI_ne, nI_te, nm_eq, mn_eq, nm_le, mn_le, nm_lt, mn_lt, pk_mul, nI_add, pk_sub, nI_clamp, eX7_chancesOf_41, eX7_chancesOf_101, hSee, a1, a2, Bool.toNat_true]
          · have ea : act q i h = false := by rw [eact]; simp; omega
            simp only [ea, Bool.false_eq_true, if_false]
            rw [hf]
            simp -dsimp -implicitDefEqProofs (disch := omega) only [bnd_u, gd_t, if_true, if_false, ↓reduceIte, eq_self, true_or, or_true, false_or, or_false, not_true_eq_false, not_false_eq_true, and_true, true_and, and_false, false_and, reduceCtorEq, nI_ge, nI_le, nI_lt, nI_nlt, nI_ne, nI_te, nm_eq, mn_eq, nm_le, mn_le, nm_lt, mn_lt, pk_mul, nI_add, pk_sub, nI_clamp, eX7_chancesOf_41, eX7_chancesOf_101, hSee, a1, Bool.toNat_false]
        · have ea : act q i h = false := by rw [eact]; simp; omega
          simp only [ea, Bool.false_eq_true, if_false]
          rw [hf]
          simp -dsimp -implicitDefEqProofs (disch := omega) only [bnd_u, gd_t, if_true, if_false, ↓reduceIte, eq_self, true_or, or_true, false_or, or_false, not_true_eq_false, not_false_eq_true, and_true, true_and, and_false, false_and, reduceCtorEq, nI_ge, nI_le, nI_lt, nI_nlt, nI_ne, nI_te, nm_eq, mn_eq, nm_le, mn_le, nm_lt, mn_lt, pk_mul, nI_add, pk_sub, nI_clamp, eX7_chancesOf_41, eX7_chancesOf_101, hSee, a1, Bool.toNat_false]
      · simp only [Bool.not_true, Bool.false_and, Bool.false_eq_true, if_false]
        rw [hf]
        simp -dsimp -implicitDefEqProofs (disch := omega) only [bnd_u, gd_t, if_true, if_false, ↓reduceIte, eq_self, true_or, or_true, false_or, or_false, not_true_eq_false, not_false_eq_true, and_true, true_and, and_false, false_and, reduceCtorEq, nI_ge, nI_le, nI_lt, nI_nlt, nI_ne, nI_te, nm_eq, mn_eq, nm_le, mn_le, nm_lt, mn_lt, pk_mul, nI_add, pk_sub, nI_clamp, eX7_chancesOf_41, eX7_chancesOf_101, hSee, a1, Bool.toNat_true]
    · rw [if_neg hc]
      have hne : (ho (q (26 + h)) = nI (q (36 + 4 * i))) = False := by
        by_cases z : q (26 + h) = 0
        · rw [ho_0 z]; exact mn_eq (by omega) (by omega) (by omega)
        · rw [ho_s (by omega)]; exact nI_ne (by omega) (by omega) (by omega)
      simp -dsimp -implicitDefEqProofs (disch := omega) only [bnd_u, gd_t, if_true, if_false, ↓reduceIte, eq_self, true_or, or_true, false_or, or_false, not_true_eq_false, not_false_eq_true, and_true, true_and, and_false, false_and, reduceCtorEq, nI_ge, nI_le, nI_lt, nI_nlt, nI_ne, nI_te, nm_eq, mn_eq, nm_le, mn_le, nm_lt, mn_lt, pk_mul, nI_add, pk_sub, nI_clamp, eX7_chancesOf_41, eX7_chancesOf_101, hSee, a1, hne, Bool.toNat_false]
  · intro n _ _
    simp -dsimp -implicitDefEqProofs (disch := omega) only [bnd_u, gd_t, if_true, if_false, ↓reduceIte, eq_self, true_or, or_true, false_or, or_false, not_true_eq_false, not_false_eq_true, and_true, true_and, and_false, false_and, reduceCtorEq, nI_ge, nI_le, nI_lt, nI_nlt, nI_ne, nI_te, nm_eq, mn_eq, nm_le, mn_le, nm_lt, mn_lt, pk_mul, nI_add, pk_sub, nI_clamp, eX7_chancesOf_41]
theorem c_share {M : Hx} {v c : Nat} (hv : v ≤ 10) (hc : c ≤ 5) : FX2_shareMet (nI v) (nI c) M = some (lN (shm v c), M) := by
  have hb : ∀ k, k ≤ 5 → 10 ^ (5 - k) * v ^ k ≤ 100000 := fun k hk => by
    have h1 : v ^ k ≤ 10 ^ k := Nat.pow_le_pow_left hv k
    have h2 : 10 ^ (5 - k) * v ^ k ≤ 10 ^ (5 - k) * 10 ^ k := Nat.mul_le_mul_left _ h1
    rw [← Nat.pow_add, show 5 - k + k = 5 by omega] at h2
    exact h2
  rw [eX2_shareMet]
  refine lp_0 (σ := Int64) (fun n k m => FX2_shareMet_7 n (nI v) (nI c) m (nI k) M) c (fun k m => m = lN (10 ^ (5 - k) * v ^ k)) (fun o => o = some (lN (shm v c), M)) (by rw [Nat.pow_zero]) (fu_l (by omega)) ?_ ?_
  · intro n k m hk hm
    subst hm
    have hbk := hb k (by omega)
    refine Or.inr ⟨lN (10 ^ (5 - (k + 1)) * v ^ (k + 1)), ?_, rfl⟩
    have e : 10 ^ (5 - k) * v ^ k / 10 * v = 10 ^ (5 - (k + 1)) * v ^ (k + 1) := by
      rw [show 5 - k = 5 - (k + 1) + 1 by omega, Nat.pow_succ, Nat.pow_succ, Nat.mul_comm _ 10, Nat.mul_assoc 10, Nat.mul_div_cancel_left _ (by decide), Nat.mul_assoc]
    simp -dsimp -implicitDefEqProofs (disch := omega) only [bnd_u, gd_t, if_true, if_false, ↓reduceIte, eq_self, true_or, or_true, false_or, or_false, not_true_eq_false, not_false_eq_true, and_true, true_and, and_false, false_and, reduceCtorEq, nI_ge, nI_le, nI_lt, nI_nlt, nI_ne, nI_te, nm_eq, mn_eq, nm_le, mn_le, nm_lt, mn_lt, pk_mul, nI_add, pk_sub, nI_clamp, eX2_shareMet_7, nI_l, pk_lDiv, lN_mul, e]
  · intro n m hm
    subst hm
    have hbk := hb c hc
    simp -dsimp -implicitDefEqProofs (disch := omega) only [bnd_u, gd_t, if_true, if_false, ↓reduceIte, eq_self, true_or, or_true, false_or, or_false, not_true_eq_false, not_false_eq_true, and_true, true_and, and_false, false_and, reduceCtorEq, nI_ge, nI_le, nI_lt, nI_nlt, nI_ne, nI_te, nm_eq, mn_eq, nm_le, mn_le, nm_lt, mn_lt, pk_mul, nI_add, pk_sub, nI_clamp, eX2_shareMet_7, eX2_shareMet_34, lN_sub, shm]
theorem lg_0 {x y : Int64} : (lg_cmp x y = nI 0) ↔ x = y := by
  unfold lg_cmp
  by_cases h1 : x > y
  · rw [if_pos h1]
    have h2 : ¬ x = y := fun e => by
      have h3 : y < x := h1
      rw [e, fa_lt64] at h3
      omega
    simp only [h2, iff_false]; decide
  · rw [if_neg h1]
    by_cases h2 : x = y
    · rw [if_pos h2]
      simp only [h2, iff_true]; rfl
    · rw [if_neg h2]
      simp only [h2, iff_false]; decide
theorem mod_half {l x : Nat} (h0 : 0 < x) (hx : x < l) : 2 * (l % x) < l := by
  rcases Nat.lt_or_ge (2 * x) (l + 1) with h | h
  · have := Nat.mod_lt l h0
    omega
  · have e : l % x = l - x := by
      rw [Nat.mod_eq_sub_mod (by omega)]
      exact Nat.mod_eq_of_lt (by omega)
    omega
theorem c_gcd {M : Hx} : ∀ (k l h st fuel : Nat), l < 2 ^ k → l < 2 ^ 40 → h < 2 ^ 40 → st + 2 * k + 2 ≤ 100 → 2 * k + 2 ≤ fuel → FX2_greatestCommon_9 fuel (lN l) (lN h) (nI st) M = some (lN (Nat.gcd l h), M)
  | k, l, h, st, fuel, hk, hl, hh, hst, hf => by
    obtain ⟨fu1, rfl⟩ : ∃ n, fuel = n + 1 := ⟨fuel - 1, by omega⟩
    by_cases l0 : l = 0
    · subst l0
      rw [Nat.gcd_zero_left]
      simp -dsimp -implicitDefEqProofs (disch := omega) only [bnd_u, gd_t, if_true, if_false, ↓reduceIte, eq_self, true_or, or_true, false_or, or_false, not_true_eq_false, not_false_eq_true, and_true, true_and, and_false, false_and, reduceCtorEq, nI_ge, nI_le, nI_lt, nI_nlt, nI_ne, nI_te, nm_eq, mn_eq, nm_le, mn_le, nm_lt, mn_lt, pk_mul, nI_add, pk_sub, nI_clamp, eX2_greatestCommon_9, eX2_greatestCommon_44, lg_0]
    · obtain ⟨fu2, rfl⟩ : ∃ n, fu1 = n + 1 := ⟨fu1 - 1, by omega⟩
      have n1 : ¬ lN l = lN 0 := by rw [pk_lEQ (by omega) (by omega)]; exact l0
      have hm : h % l < l := Nat.mod_lt _ (by omega)
      have r1 := pk_lRem (a := h) (b := l) (by omega) (by omega) (by omega)
      by_cases m0 : h % l = 0
      · rw [Nat.gcd_rec, m0, Nat.gcd_zero_left]
        rw [m0] at r1
        simp -dsimp -implicitDefEqProofs (disch := omega) only [bnd_u, gd_t, if_true, if_false, ↓reduceIte, eq_self, true_or, or_true, false_or, or_false, not_true_eq_false, not_false_eq_true, and_true, true_and, and_false, false_and, reduceCtorEq, nI_ge, nI_le, nI_lt, nI_nlt, nI_ne, nI_te, nm_eq, mn_eq, nm_le, mn_le, nm_lt, mn_lt, pk_mul, nI_add, pk_sub, nI_clamp, eX2_greatestCommon_9, eX2_greatestCommon_44, lg_0, n1, r1]
      · obtain ⟨k', rfl⟩ : ∃ k', k = k' + 1 := ⟨k - 1, by
          rcases Nat.eq_zero_or_pos k with h | h
          · subst h; omega
          · omega⟩
        have n2 : ¬ lN (h % l) = lN 0 := by rw [pk_lEQ (by omega) (by omega)]; exact m0
        have r2 := pk_lRem (a := l) (b := h % l) (by omega) (by omega) (by omega)
        have hh2 := mod_half (show 0 < h % l by omega) hm
        have hk2 : l % (h % l) < 2 ^ k' := by
          rw [Nat.pow_succ] at hk
          omega
        have ih := c_gcd (M := M) k' (l % (h % l)) (h % l) (st + 1 + 1) fu2 hk2 (by omega) (by omega) (by omega) (by omega)
        rw [← Nat.gcd_rec, ← Nat.gcd_rec] at ih
        rw [← ih]
        simp -dsimp -implicitDefEqProofs (disch := omega) only [bnd_u, gd_t, if_true, if_false, ↓reduceIte, eq_self, true_or, or_true, false_or, or_false, not_true_eq_false, not_false_eq_true, and_true, true_and, and_false, false_and, reduceCtorEq, nI_ge, nI_le, nI_lt, nI_nlt, nI_ne, nI_te, nm_eq, mn_eq, nm_le, mn_le, nm_lt, mn_lt, pk_mul, nI_add, pk_sub, nI_clamp, eX2_greatestCommon_9, lg_0, n1, n2, r1, r2]
termination_by k => k
theorem c_part {M : Hx} {a w : Nat} (ha : a < 2 ^ 24) (hw : w < 2) : FX2_part (lN a) (nI w) M = some (lN ((if w = 0 then a else 100000) / Nat.gcd a 100000), M) := by
  have hg := c_gcd (M := M) 24 a 100000 0 fu ha (by omega) (by decide) (by decide) (by decide)
  have hp : 0 < Nat.gcd a 100000 := Nat.gcd_pos_of_pos_right a (by decide)
  have hle : Nat.gcd a 100000 ≤ 100000 := Nat.gcd_le_right _ (by decide)
  have e1 : FX2_greatestCommon (lN a) (lN 100000) M = some (lN (Nat.gcd a 100000), M) := by
    rw [eX2_greatestCommon]; exact hg
  have hge : nI 0 ≤ lg_cmp (lN (Nat.gcd a 100000)) (lN 1) := by
    have := (lg_cmp_ge (lN (Nat.gcd a 100000)) (lN 1)).mpr ((pk_lLE (by omega) (by omega)).mpr (by omega))
    exact this
  have hn : ¬ lN (Nat.gcd a 100000) = lN 0 := by rw [pk_lEQ (by omega) (by omega)]; omega
  rcases (show w = 0 ∨ w = 1 by omega) with rfl | rfl
  · simp -dsimp -implicitDefEqProofs (disch := omega) only [bnd_u, gd_t, if_true, if_false, ↓reduceIte, eq_self, true_or, or_true, false_or, or_false, not_true_eq_false, not_false_eq_true, and_true, true_and, and_false, false_and, reduceCtorEq, nI_ge, nI_le, nI_lt, nI_nlt, nI_ne, nI_te, nm_eq, mn_eq, nm_le, mn_le, nm_lt, mn_lt, pk_mul, nI_add, pk_sub, nI_clamp, eX2_part, eX2_part_29, e1, hge, hn, pk_lDiv]
  · simp -dsimp -implicitDefEqProofs (disch := omega) only [bnd_u, gd_t, if_true, if_false, ↓reduceIte, eq_self, true_or, or_true, false_or, or_false, not_true_eq_false, not_false_eq_true, and_true, true_and, and_false, false_and, reduceCtorEq, nI_ge, nI_le, nI_lt, nI_nlt, nI_ne, nI_te, nm_eq, mn_eq, nm_le, mn_le, nm_lt, mn_lt, pk_mul, nI_add, pk_sub, nI_clamp, eX2_part, eX2_part_29, e1, hge, hn, pk_lDiv, Nat.one_ne_zero]
theorem m_gcd {M : Hx} {x y : Int64} {w : Int32} : ∀ (k b a fuel : Nat), b < 2 ^ k → b < 2 ^ 40 → a < 2 ^ 40 → 2 * k + 2 ≤ fuel → FX9_lowest_6 fuel x y w (lN a) (lN b) M = (if w = nI 0 then FX9_lowest_41 (lN (Nat.gcd b a)) x M else FX9_lowest_41 (lN (Nat.gcd b a)) y M)
  | k, b, a, fuel, hk, hb, ha, hf => by
    obtain ⟨fu1, rfl⟩ : ∃ n, fuel = n + 1 := ⟨fuel - 1, by omega⟩
    by_cases l0 : b = 0
    · subst l0
      rw [Nat.gcd_zero_left]
      simp -dsimp -implicitDefEqProofs (disch := omega) only [bnd_u, gd_t, if_true, if_false, ↓reduceIte, eq_self, true_or, or_true, false_or, or_false, not_true_eq_false, not_false_eq_true, and_true, true_and, and_false, false_and, reduceCtorEq, nI_ge, nI_le, nI_lt, nI_nlt, nI_ne, nI_te, nm_eq, mn_eq, nm_le, mn_le, nm_lt, mn_lt, pk_mul, nI_add, pk_sub, nI_clamp, eX9_lowest_6, lg_0]
    · obtain ⟨fu2, rfl⟩ : ∃ n, fu1 = n + 1 := ⟨fu1 - 1, by omega⟩
      have n1 : ¬ lN b = lN 0 := by rw [pk_lEQ (by omega) (by omega)]; exact l0
      have hm : a % b < b := Nat.mod_lt _ (by omega)
      have r1 := pk_lRem (a := a) (b := b) (by omega) (by omega) (by omega)
      by_cases m0 : a % b = 0
      · rw [Nat.gcd_rec, m0, Nat.gcd_zero_left]
        rw [m0] at r1
        simp -dsimp -implicitDefEqProofs (disch := omega) only [bnd_u, gd_t, if_true, if_false, ↓reduceIte, eq_self, true_or, or_true, false_or, or_false, not_true_eq_false, not_false_eq_true, and_true, true_and, and_false, false_and, reduceCtorEq, nI_ge, nI_le, nI_lt, nI_nlt, nI_ne, nI_te, nm_eq, mn_eq, nm_le, mn_le, nm_lt, mn_lt, pk_mul, nI_add, pk_sub, nI_clamp, eX9_lowest_6, lg_0, n1, r1]
      · obtain ⟨k', rfl⟩ : ∃ k', k = k' + 1 := ⟨k - 1, by
          rcases Nat.eq_zero_or_pos k with h | h
          · subst h; omega
          · omega⟩
        have n2 : ¬ lN (a % b) = lN 0 := by rw [pk_lEQ (by omega) (by omega)]; exact m0
        have r2 := pk_lRem (a := b) (b := a % b) (by omega) (by omega) (by omega)
        have hh2 := mod_half (show 0 < a % b by omega) hm
        have hk2 : b % (a % b) < 2 ^ k' := by
          rw [Nat.pow_succ] at hk
          omega
        have ih := m_gcd (M := M) (x := x) (y := y) (w := w) k' (b % (a % b)) (a % b) fu2 hk2 (by omega) (by omega) (by omega)
        rw [← Nat.gcd_rec, ← Nat.gcd_rec] at ih
        rw [← ih]
        simp -dsimp -implicitDefEqProofs (disch := omega) only [bnd_u, gd_t, if_true, if_false, ↓reduceIte, eq_self, true_or, or_true, false_or, or_false, not_true_eq_false, not_false_eq_true, and_true, true_and, and_false, false_and, reduceCtorEq, nI_ge, nI_le, nI_lt, nI_nlt, nI_ne, nI_te, nm_eq, mn_eq, nm_le, mn_le, nm_lt, mn_lt, pk_mul, nI_add, pk_sub, nI_clamp, eX9_lowest_6, lg_0, n1, n2, r1, r2]
termination_by k => k
theorem m_low {M : Hx} {a b w : Nat} (ha : a < 2 ^ 40) (hb : b < 2 ^ 40) (h0 : 0 < b) (hw : w < 2) : FX9_lowest (lN a) (lN b) (nI w) M = some (lN ((if w = 0 then a else b) / Nat.gcd a b), M) := by
  have hp : 0 < Nat.gcd a b := Nat.gcd_pos_of_pos_right a h0
  have hle : Nat.gcd a b ≤ b := Nat.gcd_le_right _ h0
  have hn : ¬ lN (Nat.gcd a b) = lN 0 := by rw [pk_lEQ (by omega) (by omega)]; omega
  rw [eX9_lowest, m_gcd 40 b a fu hb hb ha (by decide), Nat.gcd_comm b a]
  rcases (show w = 0 ∨ w = 1 by omega) with rfl | rfl
  · simp -dsimp -implicitDefEqProofs (disch := omega) only [bnd_u, gd_t, if_true, if_false, ↓reduceIte, eq_self, true_or, or_true, false_or, or_false, not_true_eq_false, not_false_eq_true, and_true, true_and, and_false, false_and, reduceCtorEq, nI_ge, nI_le, nI_lt, nI_nlt, nI_ne, nI_te, nm_eq, mn_eq, nm_le, mn_le, nm_lt, mn_lt, pk_mul, nI_add, pk_sub, nI_clamp, eX9_lowest_41, hn, pk_lDiv]
  · simp -dsimp -implicitDefEqProofs (disch := omega) only [bnd_u, gd_t, if_true, if_false, ↓reduceIte, eq_self, true_or, or_true, false_or, or_false, not_true_eq_false, not_false_eq_true, and_true, true_and, and_false, false_and, reduceCtorEq, nI_ge, nI_le, nI_lt, nI_nlt, nI_ne, nI_te, nm_eq, mn_eq, nm_le, mn_le, nm_lt, mn_lt, pk_mul, nI_add, pk_sub, nI_clamp, eX9_lowest_41, hn, pk_lDiv, Nat.one_ne_zero]
theorem m_hov {g : Gg} {q : Nat → Nat} {K h : Nat} (hM : Ms g q K) (hG : Gd q K) (hh : h < 10) : FX9_isHandOver 78 (nI h) (mk g) = some (nI (hov q h).toNat, mk g) := by
  have hK := hG.K
  have hr := hG.r hh
  have h1 := m_has hM hh
  by_cases z : q (26 + h) = 0
  · have e : hov q h = false := by simp [hov, z]
    rw [hm_0 z] at h1
    simp -dsimp -implicitDefEqProofs (disch := omega) only [bnd_u, gd_t, if_true, if_false, ↓reduceIte, eq_self, true_or, or_true, false_or, or_false, not_true_eq_false, not_false_eq_true, and_true, true_and, and_false, false_and, reduceCtorEq, nI_ge, nI_le, nI_lt, nI_nlt, nI_ne, nI_te, nm_eq, mn_eq, nm_le, mn_le, nm_lt, mn_lt, pk_mul, nI_add, pk_sub, nI_clamp, eX9_isHandOver, eX9_isHandOver_31, eX9_isHandOver_32, hMo, h1, e, Bool.toNat_false]
  · rw [hm_s (by omega)] at h1
    by_cases h0 : h = 0
    · have e : hov q h = true := by
        unfold hov
        rw [decide_eq_true (show 0 < q (26 + h) by omega), decide_eq_true h0]; rfl
      simp -dsimp -implicitDefEqProofs (disch := omega) only [bnd_u, gd_t, if_true, if_false, ↓reduceIte, eq_self, true_or, or_true, false_or, or_false, not_true_eq_false, not_false_eq_true, and_true, true_and, and_false, false_and, reduceCtorEq, nI_ge, nI_le, nI_lt, nI_nlt, nI_ne, nI_te, nm_eq, mn_eq, nm_le, mn_le, nm_lt, mn_lt, pk_mul, nI_add, pk_sub, nI_clamp, eX9_isHandOver, eX9_isHandOver_27, eX9_isHandOver_32, hMo, h1, e, Bool.toNat_true]
    · have hr2 := hG.r (show h - 1 < 10 by omega)
      have h2 := m_has hM (show h - 1 < 10 by omega)
      rw [show 26 + (h - 1) = 25 + h by omega] at h2 hr2
      by_cases e1 : q (25 + h) = q (26 + h)
      · have e : hov q h = false := by simp [hov, h0, e1]
        rw [e1, hm_s (by omega)] at h2
        simp -dsimp -implicitDefEqProofs (disch := omega) only [bnd_u, gd_t, if_true, if_false, ↓reduceIte, eq_self, true_or, or_true, false_or, or_false, not_true_eq_false, not_false_eq_true, and_true, true_and, and_false, false_and, reduceCtorEq, nI_ge, nI_le, nI_lt, nI_nlt, nI_ne, nI_te, nm_eq, mn_eq, nm_le, mn_le, nm_lt, mn_lt, pk_mul, nI_add, pk_sub, nI_clamp, eX9_isHandOver, eX9_isHandOver_31, eX9_isHandOver_32, hMo, h1, nI_s1, h2, e, Bool.toNat_false]
      · have e : hov q h = true := by
          unfold hov
          rw [decide_eq_true (show 0 < q (26 + h) by omega), decide_eq_true (show q (25 + h) ≠ q (26 + h) from e1), Bool.or_true]; rfl
        have hne : (hm (q (25 + h)) = nI (q (26 + h) - 1)) = False := by
          by_cases z2 : q (25 + h) = 0
          · rw [hm_0 z2]; exact mn_eq (by omega) (by omega) (by omega)
          · rw [hm_s (by omega)]; exact nI_ne (by omega) (by omega) (by omega)
        simp -dsimp -implicitDefEqProofs (disch := omega) only [bnd_u, gd_t, if_true, if_false, ↓reduceIte, eq_self, true_or, or_true, false_or, or_false, not_true_eq_false, not_false_eq_true, and_true, true_and, and_false, false_and, reduceCtorEq, nI_ge, nI_le, nI_lt, nI_nlt, nI_ne, nI_te, nm_eq, mn_eq, nm_le, mn_le, nm_lt, mn_lt, pk_mul, nI_add, pk_sub, nI_clamp, eX9_isHandOver, eX9_isHandOver_27, eX9_isHandOver_32, hMo, h1, nI_s1, h2, hne, e, Bool.toNat_true]
/-- the hours in which somebody sees, but for what is missed -/
def sbm (q : Nat → Nat) (β : Nat → Bool) : Nat := msk (fun h => isb q β (h + 1) && dsee q h) 10
theorem m_but {g : Gg} {q : Nat → Nat} {K m : Nat} (hM : Ms g q K) (hG : Gd q K) (hm' : m < 2 ^ 31) : FX9_seeingBut 78 (nI m) (mk g) = some (nI (sbm q m.testBit), mk g) := by
  rw [eX9_seeingBut]
  refine lp_0 (σ := Unit) (fun n h _ => FX9_seeingBut_7 n 78 (nI m) (nI (msk (fun h => isb q m.testBit (h + 1) && dsee q h) h)) (nI (isb q m.testBit h).toNat) (nI h) (mk g)) 10 (fun _ _ => True) (fun o => o = some (nI (sbm q m.testBit), mk g)) (s := ()) trivial (by decide) ?_ ?_
  · intro n h _ hh _
    refine Or.inr ⟨(), ?_, trivial⟩
    have h1 := m_hov hM hG hh
    have h2 := m_does hM hG hh
    have hb := nI_bit hm' (show h < 32 by omega)
    have e41 : FX9_seeingBut_41 n 78 (nI m) (nI (msk (fun h => isb q m.testBit (h + 1) && dsee q h) h)) (nI h) (nI (isb q m.testBit (h + 1)).toNat) (mk g) = FX9_seeingBut_7 n 78 (nI m) (nI (msk (fun h => isb q m.testBit (h + 1) && dsee q h) (h + 1))) (nI (isb q m.testBit (h + 1)).toNat) (nI (h + 1)) (mk g) := by
      cases ei : isb q m.testBit (h + 1)
      · have e : (fun h => isb q m.testBit (h + 1) && dsee q h) h = false := by
          dsimp only
          rw [ei]; rfl
        simp -dsimp -implicitDefEqProofs (disch := omega) only [bnd_u, gd_t, if_true, if_false, ↓reduceIte, eq_self, true_or, or_true, false_or, or_false, not_true_eq_false, not_false_eq_true, and_true, true_and, and_false, false_and, reduceCtorEq, nI_ge, nI_le, nI_lt, nI_nlt, nI_ne, nI_te, nm_eq, mn_eq, nm_le, mn_le, nm_lt, mn_lt, pk_mul, nI_add, pk_sub, nI_clamp, eX9_seeingBut_41, eX9_seeingBut_63, eX9_seeingBut_64, Bool.toNat_false, msk_f (c := fun h => isb q m.testBit (h + 1) && dsee q h) e]
      · cases ed : dsee q h <;> rw [ed] at h2
        · have e : (fun h => isb q m.testBit (h + 1) && dsee q h) h = false := by
            dsimp only
            rw [ei, ed]; rfl
          simp -dsimp -implicitDefEqProofs (disch := omega) only [bnd_u, gd_t, if_true, if_false, ↓reduceIte, eq_self, true_or, or_true, false_or, or_false, not_true_eq_false, not_false_eq_true, and_true, true_and, and_false, false_and, reduceCtorEq, nI_ge, nI_le, nI_lt, nI_nlt, nI_ne, nI_te, nm_eq, mn_eq, nm_le, mn_le, nm_lt, mn_lt, pk_mul, nI_add, pk_sub, nI_clamp, eX9_seeingBut_41, eX9_seeingBut_63, eX9_seeingBut_64, hMo, h2, Bool.toNat_true, Bool.toNat_false, msk_f (c := fun h => isb q m.testBit (h + 1) && dsee q h) e]
        · have e : (fun h => isb q m.testBit (h + 1) && dsee q h) h = true := by
            dsimp only
            rw [ei, ed]; rfl
          simp -dsimp -implicitDefEqProofs (disch := omega) only [bnd_u, gd_t, if_true, if_false, ↓reduceIte, eq_self, true_or, or_true, false_or, or_false, not_true_eq_false, not_false_eq_true, and_true, true_and, and_false, false_and, reduceCtorEq, nI_ge, nI_le, nI_lt, nI_nlt, nI_ne, nI_te, nm_eq, mn_eq, nm_le, mn_le, nm_lt, mn_lt, pk_mul, nI_add, pk_sub, nI_clamp, eX9_seeingBut_41, eX9_seeingBut_64, hMo, h2, Bool.toNat_true, msk_t (c := fun h => isb q m.testBit (h + 1) && dsee q h) (show h < 31 by omega) e]
    rw [← e41, isb]
    cases eh : hov q h <;> rw [eh] at h1
    · simp only [Bool.false_eq_true, if_false]
      simp -dsimp -implicitDefEqProofs (disch := omega) only [bnd_u, gd_t, if_true, if_false, ↓reduceIte, eq_self, true_or, or_true, false_or, or_false, not_true_eq_false, not_false_eq_true, and_true, true_and, and_false, false_and, reduceCtorEq, nI_ge, nI_le, nI_lt, nI_nlt, nI_ne, nI_te, nm_eq, mn_eq, nm_le, mn_le, nm_lt, mn_lt, pk_mul, nI_add, pk_sub, nI_clamp, eX9_seeingBut_7, hMo, h1, Bool.toNat_false]
    · simp only [if_true]
      cases eb : m.testBit h <;> rw [eb] at hb
      · simp -dsimp -implicitDefEqProofs (disch := omega) only [bnd_u, gd_t, if_true, if_false, ↓reduceIte, eq_self, true_or, or_true, false_or, or_false, not_true_eq_false, not_false_eq_true, and_true, true_and, and_false, false_and, reduceCtorEq, nI_ge, nI_le, nI_lt, nI_nlt, nI_ne, nI_te, nm_eq, mn_eq, nm_le, mn_le, nm_lt, mn_lt, pk_mul, nI_add, pk_sub, nI_clamp, eX9_seeingBut_7, hMo, h1, hb, Bool.toNat_false, Bool.toNat_true, Bool.not_false]
      · simp -dsimp -implicitDefEqProofs (disch := omega) only [bnd_u, gd_t, if_true, if_false, ↓reduceIte, eq_self, true_or, or_true, false_or, or_false, not_true_eq_false, not_false_eq_true, and_true, true_and, and_false, false_and, reduceCtorEq, nI_ge, nI_le, nI_lt, nI_nlt, nI_ne, nI_te, nm_eq, mn_eq, nm_le, mn_le, nm_lt, mn_lt, pk_mul, nI_add, pk_sub, nI_clamp, eX9_seeingBut_7, hMo, h1, hb, Bool.toNat_false, Bool.toNat_true, Bool.not_true]
  · intro n _ _
    simp -dsimp -implicitDefEqProofs (disch := omega) only [bnd_u, gd_t, if_true, if_false, ↓reduceIte, eq_self, true_or, or_true, false_or, or_false, not_true_eq_false, not_false_eq_true, and_true, true_and, and_false, false_and, reduceCtorEq, nI_ge, nI_le, nI_lt, nI_nlt, nI_ne, nI_te, nm_eq, mn_eq, nm_le, mn_le, nm_lt, mn_lt, pk_mul, nI_add, pk_sub, nI_clamp, eX9_seeingBut_7, sbm]
theorem m_bits {M : Hx} {m : Nat} (hm' : m < 2 ^ 31) : FX9_bitsOf (nI m) M = some (nI (fb_ct m.testBit 10), M) := by
  rw [eX9_bitsOf]
  refine lp_0 (σ := Unit) (fun n h _ => FX9_bitsOf_4 n (nI m) (nI (fb_ct m.testBit h)) (nI h) M) 10 (fun _ _ => True) (fun o => o = some (nI (fb_ct m.testBit 10), M)) (s := ()) trivial (by decide) ?_ ?_
  · intro n h _ hh _
    refine Or.inr ⟨(), ?_, trivial⟩
    have hb := nI_bit hm' (show h < 32 by omega)
    rw [fb_ct_succ]
    cases eb : m.testBit h <;> rw [eb] at hb
    · simp -dsimp -implicitDefEqProofs (disch := omega) only [bnd_u, gd_t, if_true, if_false, ↓reduceIte, eq_self, true_or, or_true, false_or, or_false, not_true_eq_false, not_false_eq_true, and_true, true_and, and_false, false_and, reduceCtorEq, nI_ge, nI_le, nI_lt, nI_nlt, nI_ne, nI_te, nm_eq, mn_eq, nm_le, mn_le, nm_lt, mn_lt, pk_mul, nI_add, pk_sub, nI_clamp, eX9_bitsOf_4, hb, Bool.toNat_false, Bool.false_eq_true]
    · simp -dsimp -implicitDefEqProofs (disch := omega) only [bnd_u, gd_t, if_true, if_false, ↓reduceIte, eq_self, true_or, or_true, false_or, or_false, not_true_eq_false, not_false_eq_true, and_true, true_and, and_false, false_and, reduceCtorEq, nI_ge, nI_le, nI_lt, nI_nlt, nI_ne, nI_te, nm_eq, mn_eq, nm_le, mn_le, nm_lt, mn_lt, pk_mul, nI_add, pk_sub, nI_clamp, eX9_bitsOf_4, hb, Bool.toNat_true]
  · intro n _ _
    simp -dsimp -implicitDefEqProofs (disch := omega) only [bnd_u, gd_t, if_true, if_false, ↓reduceIte, eq_self, true_or, or_true, false_or, or_false, not_true_eq_false, not_false_eq_true, and_true, true_and, and_false, false_and, reduceCtorEq, nI_ge, nI_le, nI_lt, nI_nlt, nI_ne, nI_te, nm_eq, mn_eq, nm_le, mn_le, nm_lt, mn_lt, pk_mul, nI_add, pk_sub, nI_clamp, eX9_bitsOf_4]
theorem ct_msk (c : Nat → Bool) {n : Nat} (hn : n ≤ 10) : fb_ct (msk c n).testBit 10 = fb_ct c n := by
  have h : ∀ k, k ≤ 10 → fb_ct (msk c n).testBit k = fb_ct c (min k n) := by
    intro k hk
    induction k with
    | zero => rw [Nat.zero_min]; rfl
    | succ k ih =>
      rw [fb_ct_succ, ih (by omega), msk_bit]
      by_cases h : k < n
      · rw [show min k n = k by omega, show min (k + 1) n = k + 1 by omega, fb_ct_succ]
        simp [h]
      · rw [show min k n = n by omega, show min (k + 1) n = n by omega]
        simp [h]
  rw [h 10 (by omega), Nat.min_eq_right hn]
theorem nI_not (m o : Nat) : nI m &&& (nI o ^^^ mi 1) = nI (m &&& (o ^^^ (2 ^ 32 - 1))) := by
  rw [show mi 1 = nI (2 ^ 32 - 1) by decide, fb_xorI, fa_and]
theorem not_bit {m o i : Nat} (hi : i < 32) : (m &&& (o ^^^ (2 ^ 32 - 1))).testBit i = (m.testBit i && !o.testBit i) := by
  rw [Nat.testBit_and, Nat.testBit_xor, Nat.testBit_two_pow_sub_one, decide_eq_true hi, Bool.xor_true]
theorem nt_sub10 {m o : Nat} (hm : m < 2 ^ 31) : (nI m &&& (nI o ^^^ mi 1) = nI 0) ↔ ∀ i, m.testBit i = true → o.testBit i = true := by
  rw [nI_not]
  have hle : m &&& (o ^^^ (2 ^ 32 - 1)) ≤ m := Nat.and_le_left
  rw [nI_eq (by omega) (by omega)]
  constructor
  · intro h i hi
    have hi32 : i < 32 := by
      rcases Nat.lt_or_ge i 32 with h2 | h2
      · exact h2
      · rw [Nat.testBit_lt_two_pow (Nat.lt_trans hm (Nat.pow_lt_pow_right (by decide) (by omega)))] at hi
        cases hi
    have e := not_bit (m := m) (o := o) hi32
    rw [h, Nat.zero_testBit, hi] at e
    simpa using e.symm
  · intro h
    apply Nat.eq_of_testBit_eq
    intro i
    rw [Nat.zero_testBit]
    rcases Nat.lt_or_ge i 32 with h2 | h2
    · rw [not_bit h2]
      cases e : m.testBit i
      · rfl
      · rw [h i e]; rfl
    · exact Nat.testBit_lt_two_pow (Nat.lt_of_le_of_lt hle (Nat.lt_trans hm (Nat.pow_lt_pow_right (by decide) (by omega))))
theorem pr_out {q : Nat → Nat} {v : Nat} {β : Nat → Bool} {j : Nat} (hj : β j = true) (ho : hov q j = false) : ∀ n, j < n → pr q v n β = 0
  | 0, h => absurd h (by omega)
  | n + 1, h => by
    rw [pr]
    by_cases e : j = n
    · subst e
      simp [fc, hj, ho]
    · rw [pr_out hj ho n (by omega), Nat.zero_mul]
theorem pr_le {q : Nat → Nat} {v : Nat} (hv : v ≤ 10) (β : Nat → Bool) : ∀ n, pr q v n β ≤ 10 ^ n
  | 0 => Nat.le_refl _
  | n + 1 => by
    rw [pr, Nat.pow_succ]
    refine Nat.mul_le_mul (pr_le hv β n) ?_
    unfold fc
    split
    · split <;> omega
    · split <;> omega
/-- the sum over what may be missed, val of each -/
def Um (q : Nat → Nat) (v : Nat) (val : Nat → Nat) : Nat := fb_sm (fun m => pr q v 10 m.testBit * val m) 1024
theorem Um_le {q : Nat → Nat} {v : Nat} (hv : v ≤ 10) {val : Nat → Nat} (hval : ∀ m, m < 1024 → val m ≤ 45) : Um q v val ≤ 45 * 10 ^ 10 := by
  have h1 : Um q v val ≤ fb_sm (fun m => 45 * (pr q v 10 m.testBit * 1)) 1024 := fb_sm_le (fun m hm => by
    have := hval m hm
    rw [Nat.mul_one, Nat.mul_comm 45]
    exact Nat.mul_le_mul_left _ this)
  rw [fb_sm_mul] at h1
  have h2 : fb_sm (fun m => pr q v 10 m.testBit * 1) 1024 = 10 ^ fb_ct (hov q) 10 := SS_1 hv 10
  rw [h2] at h1
  have h3 : 10 ^ fb_ct (hov q) 10 ≤ 10 ^ 10 := Nat.pow_le_pow_right (by decide) (fb_ct_le _ _)
  exact Nat.le_trans h1 (Nat.mul_le_mul_left _ h3)
theorem m_by {g : Gg} {q : Nat → Nat} {K v w : Nat} {x : Int32} {val : Nat → Nat} (hM : Ms g q K) (hG : Gd q K) (hv : v ≤ 10) (hw : w < 2) (hval : ∀ m, m < 1024 → val m ≤ 45) (hex : ∀ (n77 n : Nat) (u o d : Int64) (m : Nat), m < 1024 → FX9_byMissed_101 n77 (n + 1) 78 (nI v) x (nI w) (nI (msk (hov q) 10)) u d (nI m) o (nI 10) (mk g) = FX9_byMissed_191 n77 78 (nI v) x (nI w) (nI (msk (hov q) 10)) d (nI m) u o (nI (val m)) (mk g)) : FX9_byMissed 78 (nI v) x (nI w) (mk g) = some (lN ((if w = 0 then Um q v val else 10 ^ fb_ct (hov q) 10) / Nat.gcd (Um q v val) (10 ^ fb_ct (hov q) 10)), mk g) := by
  have hct := fb_ct_le (hov q) 10
  have hD : 10 ^ fb_ct (hov q) 10 ≤ 10 ^ 10 := Nat.pow_le_pow_right (by decide) hct
  have hD0 : 0 < 10 ^ fb_ct (hov q) 10 := Nat.pow_pos (by decide)
  have hU := Um_le hv hval (q := q)
  have ho31 := msk_31 (hov q) (show 10 ≤ 30 by omega)
  have hbits := m_bits (M := mk g) ho31
  rw [ct_msk (hov q) (Nat.le_refl 10)] at hbits
  rw [eX9_byMissed]
  -- who hands over
  refine lp_0 (σ := Int32) (fun n h s => FX9_byMissed_6 n 78 (nI v) x (nI w) s (nI h) (mk g)) 10 (fun h s => s = nI (msk (hov q) h)) (fun o => o = some (lN ((if w = 0 then Um q v val else 10 ^ fb_ct (hov q) 10) / Nat.gcd (Um q v val) (10 ^ fb_ct (hov q) 10)), mk g)) rfl (by decide) ?_ ?_
  · intro n h s hh hs
    subst hs
    have h1 := m_hov hM hG hh
    refine Or.inr ⟨_, ?_, rfl⟩
    cases e : hov q h <;> rw [e] at h1
    · simp -dsimp -implicitDefEqProofs (disch := omega) only [bnd_u, gd_t, if_true, if_false, ↓reduceIte, eq_self, true_or, or_true, false_or, or_false, not_true_eq_false, not_false_eq_true, and_true, true_and, and_false, false_and, reduceCtorEq, nI_ge, nI_le, nI_lt, nI_nlt, nI_ne, nI_te, nm_eq, mn_eq, nm_le, mn_le, nm_lt, mn_lt, pk_mul, nI_add, pk_sub, nI_clamp, eX9_byMissed_6, eX9_byMissed_32, hMo, h1, Bool.toNat_false, msk_f e]
    · simp -dsimp -implicitDefEqProofs (disch := omega) only [bnd_u, gd_t, if_true, if_false, ↓reduceIte, eq_self, true_or, or_true, false_or, or_false, not_true_eq_false, not_false_eq_true, and_true, true_and, and_false, false_and, reduceCtorEq, nI_ge, nI_le, nI_lt, nI_nlt, nI_ne, nI_te, nm_eq, mn_eq, nm_le, mn_le, nm_lt, mn_lt, pk_mul, nI_add, pk_sub, nI_clamp, eX9_byMissed_6, eX9_byMissed_32, hMo, h1, Bool.toNat_true, msk_t (show h < 31 by omega) e]
  · intro n s hs
    subst hs
    have e0 : FX9_byMissed_6 (n + 1) 78 (nI v) x (nI w) (nI (msk (hov q) 10)) (nI 10) (mk g) = FX9_byMissed_50 fu 78 (nI v) x (nI w) (nI (msk (hov q) 10)) (lN 0) (lN 1) (nI 0) (mk g) := by
      simp -dsimp -implicitDefEqProofs (disch := omega) only [bnd_u, gd_t, if_true, if_false, ↓reduceIte, eq_self, true_or, or_true, false_or, or_false, not_true_eq_false, not_false_eq_true, and_true, true_and, and_false, false_and, reduceCtorEq, nI_ge, nI_le, nI_lt, nI_nlt, nI_ne, nI_te, nm_eq, mn_eq, nm_le, mn_le, nm_lt, mn_lt, pk_mul, nI_add, pk_sub, nI_clamp, eX9_byMissed_6]
    rw [e0]
    -- the denominator
    refine lp_0 (σ := Int64) (fun n k s => FX9_byMissed_50 n 78 (nI v) x (nI w) (nI (msk (hov q) 10)) (lN 0) s (nI k) (mk g)) (fb_ct (hov q) 10) (fun k s => s = lN (10 ^ k)) (fun o => o = some (lN ((if w = 0 then Um q v val else 10 ^ fb_ct (hov q) 10) / Nat.gcd (Um q v val) (10 ^ fb_ct (hov q) 10)), mk g)) rfl (fu_l (by omega)) ?_ ?_
    · intro n k s hk hs
      subst hs
      refine Or.inr ⟨_, ?_, rfl⟩
      rw [Nat.pow_succ]
      simp -dsimp -implicitDefEqProofs (disch := omega) only [bnd_u, gd_t, if_true, if_false, ↓reduceIte, eq_self, true_or, or_true, false_or, or_false, not_true_eq_false, not_false_eq_true, and_true, true_and, and_false, false_and, reduceCtorEq, nI_ge, nI_le, nI_lt, nI_nlt, nI_ne, nI_te, nm_eq, mn_eq, nm_le, mn_le, nm_lt, mn_lt, pk_mul, nI_add, pk_sub, nI_clamp, eX9_byMissed_50, hbits, lN_mul]
    · intro n s hs
      subst hs
      have e1 : FX9_byMissed_50 (n + 1) 78 (nI v) x (nI w) (nI (msk (hov q) 10)) (lN 0) (lN (10 ^ fb_ct (hov q) 10)) (nI (fb_ct (hov q) 10)) (mk g) = FX9_byMissed_77 fu 78 (nI v) x (nI w) (nI (msk (hov q) 10)) (lN 0) (lN (10 ^ fb_ct (hov q) 10)) (nI 0) (mk g) := by
        simp -dsimp -implicitDefEqProofs (disch := omega) only [bnd_u, gd_t, if_true, if_false, ↓reduceIte, eq_self, true_or, or_true, false_or, or_false, not_true_eq_false, not_false_eq_true, and_true, true_and, and_false, false_and, reduceCtorEq, nI_ge, nI_le, nI_lt, nI_nlt, nI_ne, nI_te, nm_eq, mn_eq, nm_le, mn_le, nm_lt, mn_lt, pk_mul, nI_add, pk_sub, nI_clamp, eX9_byMissed_50, hbits]
      rw [e1]
      -- the sum
      refine lp_0 (σ := Int64) (fun n m s => FX9_byMissed_77 n 78 (nI v) x (nI w) (nI (msk (hov q) 10)) s (lN (10 ^ fb_ct (hov q) 10)) (nI m) (mk g)) 1024 (fun m s => s = lN (fb_sm (fun m => pr q v 10 m.testBit * val m) m)) (fun o => o = some (lN ((if w = 0 then Um q v val else 10 ^ fb_ct (hov q) 10) / Nat.gcd (Um q v val) (10 ^ fb_ct (hov q) 10)), mk g)) rfl (by decide) ?_ ?_
      · intro n m s hm hs
        subst hs
        refine Or.inr ⟨_, ?_, rfl⟩
        rw [fb_sm_succ]
        have hsub := nt_sub10 (m := m) (o := msk (hov q) 10) (by omega)
        by_cases hin : ∀ i, m.testBit i = true → (msk (hov q) 10).testBit i = true
        · have ht := hsub.mpr hin
          have hin2 : ∀ h, h < 10 → m.testBit h = true → hov q h = true := fun h hh hb => by
            have := hin h hb
            rw [msk_bit] at this
            simpa [hh] using this
          have e2 : FX9_byMissed_77 (n + 1) 78 (nI v) x (nI w) (nI (msk (hov q) 10)) (lN (fb_sm (fun m => pr q v 10 m.testBit * val m) m)) (lN (10 ^ fb_ct (hov q) 10)) (nI m) (mk g) = FX9_byMissed_101 n fu 78 (nI v) x (nI w) (nI (msk (hov q) 10)) (lN (fb_sm (fun m => pr q v 10 m.testBit * val m) m)) (lN (10 ^ fb_ct (hov q) 10)) (nI m) (lN 1) (nI 0) (mk g) := by
            simp -dsimp -implicitDefEqProofs (disch := omega) only [bnd_u, gd_t, if_true, if_false, ↓reduceIte, eq_self, true_or, or_true, false_or, or_false, not_true_eq_false, not_false_eq_true, and_true, true_and, and_false, false_and, reduceCtorEq, nI_ge, nI_le, nI_lt, nI_nlt, nI_ne, nI_te, nm_eq, mn_eq, nm_le, mn_le, nm_lt, mn_lt, pk_mul, nI_add, pk_sub, nI_clamp, eX9_byMissed_77, ht]
          rw [e2]
          refine lp_0 (σ := Int64) (fun n2 h s => FX9_byMissed_101 n n2 78 (nI v) x (nI w) (nI (msk (hov q) 10)) (lN (fb_sm (fun m => pr q v 10 m.testBit * val m) m)) (lN (10 ^ fb_ct (hov q) 10)) (nI m) s (nI h) (mk g)) 10 (fun h s => s = lN (pr q v h m.testBit)) (fun o => o = FX9_byMissed_77 n 78 (nI v) x (nI w) (nI (msk (hov q) 10)) (lN (fb_sm (fun m => pr q v 10 m.testBit * val m) m + pr q v 10 m.testBit * val m)) (lN (10 ^ fb_ct (hov q) 10)) (nI (m + 1)) (mk g)) rfl (by decide) ?_ ?_
          · intro n2 h s hh hs
            subst hs
            refine Or.inr ⟨_, ?_, rfl⟩
            rw [pr]
            have hbo := nI_bit ho31 (show h < 32 by omega)
            have hbm := nI_bit (a := m) (by omega) (show h < 32 by omega)
            rw [msk_bit, decide_eq_true hh, Bool.true_and] at hbo
            cases eo : hov q h <;> rw [eo] at hbo
            · have eb : m.testBit h = false := by
                cases eb : m.testBit h
                · rfl
                · rw [hin2 h hh eb] at eo; cases eo
              have ef : fc q v h (m.testBit h) = 1 := by simp [fc, eo, eb]
              simp -dsimp -implicitDefEqProofs (disch := omega) only [bnd_u, gd_t, if_true, if_false, ↓reduceIte, eq_self, true_or, or_true, false_or, or_false, not_true_eq_false, not_false_eq_true, and_true, true_and, and_false, false_and, reduceCtorEq, nI_ge, nI_le, nI_lt, nI_nlt, nI_ne, nI_te, nm_eq, mn_eq, nm_le, mn_le, nm_lt, mn_lt, pk_mul, nI_add, pk_sub, nI_clamp, eX9_byMissed_101, eX9_byMissed_145, hbo, Bool.toNat_false, ef, lN_mul]
            · cases eb : m.testBit h <;> rw [eb] at hbm
              · have ef : fc q v h false = 10 - v := by simp [fc, eo]
                simp -dsimp -implicitDefEqProofs (disch := omega) only [bnd_u, gd_t, if_true, if_false, ↓reduceIte, eq_self, true_or, or_true, false_or, or_false, not_true_eq_false, not_false_eq_true, and_true, true_and, and_false, false_and, reduceCtorEq, nI_ge, nI_le, nI_lt, nI_nlt, nI_ne, nI_te, nm_eq, mn_eq, nm_le, mn_le, nm_lt, mn_lt, pk_mul, nI_add, pk_sub, nI_clamp, eX9_byMissed_101, eX9_byMissed_145, hbo, hbm, Bool.toNat_true, Bool.toNat_false, ef, nI_l, lN_mul]
              · have ef : fc q v h true = v := by simp [fc, eo]
                simp -dsimp -implicitDefEqProofs (disch := omega) only [bnd_u, gd_t, if_true, if_false, ↓reduceIte, eq_self, true_or, or_true, false_or, or_false, not_true_eq_false, not_false_eq_true, and_true, true_and, and_false, false_and, reduceCtorEq, nI_ge, nI_le, nI_lt, nI_nlt, nI_ne, nI_te, nm_eq, mn_eq, nm_le, mn_le, nm_lt, mn_lt, pk_mul, nI_add, pk_sub, nI_clamp, eX9_byMissed_101, eX9_byMissed_145, hbo, hbm, Bool.toNat_true, ef, nI_l, lN_mul]
          · intro n2 s hs
            subst hs
            have hv45 := hval m hm
            rw [hex n n2 _ _ _ m hm]
            simp -dsimp -implicitDefEqProofs (disch := omega) only [bnd_u, gd_t, if_true, if_false, ↓reduceIte, eq_self, true_or, or_true, false_or, or_false, not_true_eq_false, not_false_eq_true, and_true, true_and, and_false, false_and, reduceCtorEq, nI_ge, nI_le, nI_lt, nI_nlt, nI_ne, nI_te, nm_eq, mn_eq, nm_le, mn_le, nm_lt, mn_lt, pk_mul, nI_add, pk_sub, nI_clamp, eX9_byMissed_191, eX9_byMissed_196, nI_l, lN_mul, lN_add]
        · have ht : ¬ nI m &&& (nI (msk (hov q) 10) ^^^ mi 1) = nI 0 := fun h => hin (hsub.mp h)
          have e0 : pr q v 10 m.testBit = 0 := by
            have h10 : ∀ i, 10 ≤ i → m.testBit i = false := fun i hi => Nat.testBit_lt_two_pow (Nat.lt_of_lt_of_le hm (Nat.pow_le_pow_right (n := 2) (i := 10) (by decide) hi))
            have : ∃ i, m.testBit i = true ∧ ¬ (msk (hov q) 10).testBit i = true := by
              apply Classical.byContradiction
              intro hne
              apply hin
              intro i hi
              apply Classical.byContradiction
              intro h2
              exact hne ⟨i, hi, h2⟩
            obtain ⟨i, hi, h2⟩ := this
            have hi10 : i < 10 := by
              rcases Nat.lt_or_ge i 10 with h | h
              · exact h
              · rw [h10 i h] at hi; cases hi
            rw [msk_bit, decide_eq_true hi10, Bool.true_and] at h2
            exact pr_out hi (by simpa using h2) 10 hi10
          rw [e0, Nat.zero_mul]
          simp -dsimp -implicitDefEqProofs (disch := omega) only [bnd_u, gd_t, if_true, if_false, ↓reduceIte, eq_self, true_or, or_true, false_or, or_false, not_true_eq_false, not_false_eq_true, and_true, true_and, and_false, false_and, reduceCtorEq, nI_ge, nI_le, nI_lt, nI_nlt, nI_ne, nI_te, nm_eq, mn_eq, nm_le, mn_le, nm_lt, mn_lt, pk_mul, nI_add, pk_sub, nI_clamp, eX9_byMissed_77, eX9_byMissed_196, ht, Nat.add_zero]
      · intro n s hs
        subst hs
        have hl := m_low (M := mk g) (a := Um q v val) (b := 10 ^ fb_ct (hov q) 10) (w := w) (by omega) (by omega) hD0 hw
        unfold Um at hl ⊢
        simp -dsimp -implicitDefEqProofs (disch := omega) only [bnd_u, gd_t, if_true, if_false, ↓reduceIte, eq_self, true_or, or_true, false_or, or_false, not_true_eq_false, not_false_eq_true, and_true, true_and, and_false, false_and, reduceCtorEq, nI_ge, nI_le, nI_lt, nI_nlt, nI_ne, nI_te, nm_eq, mn_eq, nm_le, mn_le, nm_lt, mn_lt, pk_mul, nI_add, pk_sub, nI_clamp, eX9_byMissed_77, hl]
theorem dn_nd (q : Nat → Nat) (i : Nat) (β : Nat → Bool) : dnm q i (sbm q β) = !(ND q i 10 β) := by
  unfold dnm ND
  rw [Bool.not_not]
  apply anyb_cong
  intro h hh
  unfold sbm act hks
  rw [msk_bit, decide_eq_true hh, Bool.true_and]
  cases (decide (q (36 + 4 * i + 1) ≤ h) && decide (h ≤ q (36 + 4 * i + 2))) <;> cases isb q β (h + 1) <;> cases dsee q h <;> cases decide (q (26 + h) = q (36 + 4 * i) + 1) <;> rfl
theorem m_luck {g : Gg} {q : Nat → Nat} {K v i w : Nat} (hM : Ms g q K) (hG : Gd q K) (hv : v ≤ 10) (hi : i < q 56) (hw : w < 2) : FX9_byMissed 78 (nI v) (nI i) (nI w) (mk g) = some (lN ((if w = 0 then upi q v i else 10 ^ fb_ct (hov q) 10) / Nat.gcd (upi q v i) (10 ^ fb_ct (hov q) 10)), mk g) := by
  have hwn := hG.wn
  have hb : ∀ b : Bool, b.toNat ≤ 45 := fun b => by cases b <;> decide
  have h := m_by (x := nI i) (w := w) (val := fun m => (!ND q i 10 m.testBit).toNat) hM hG hv hw (fun m _ => hb _) ?_
  · exact h
  · intro n77 n u o d m hm
    have h1 := m_but (m := m) hM hG (by omega)
    have h2 := m_doneBy (m := sbm q m.testBit) hM hG (msk_31 _ (show 10 ≤ 30 by omega))
    have hbt := nI_bit (a := msk (fun i => dnm q i (sbm q m.testBit)) (q 56)) (i := i) (msk_31 _ (by omega)) (by omega)
    rw [msk_bit, decide_eq_true hi, Bool.true_and, dn_nd] at hbt
    simp -dsimp -implicitDefEqProofs (disch := omega) only [bnd_u, gd_t, if_true, if_false, ↓reduceIte, eq_self, true_or, or_true, false_or, or_false, not_true_eq_false, not_false_eq_true, and_true, true_and, and_false, false_and, reduceCtorEq, nI_ge, nI_le, nI_lt, nI_nlt, nI_ne, nI_te, nm_eq, mn_eq, nm_le, mn_le, nm_lt, mn_lt, pk_mul, nI_add, pk_sub, nI_clamp, eX9_byMissed_101, hMo, h1, h2, hbt]
theorem m_mean {g : Gg} {q : Nat → Nat} {K v w : Nat} (hM : Ms g q K) (hG : Gd q K) (hv : v ≤ 10) (hw : w < 2) : FX9_byMissed 78 (nI v) (mi 4) (nI w) (mk g) = some (lN ((if w = 0 then fb_sm (fun i => q (36 + 4 * i + 3) * upi q v i) (q 56) else 10 ^ fb_ct (hov q) 10) / Nat.gcd (fb_sm (fun i => q (36 + 4 * i + 3) * upi q v i) (q 56)) (10 ^ fb_ct (hov q) 10)), mk g) := by
  have hwn := hG.wn
  have h := m_by (x := mi 4) (w := w) (val := fun m => wr q (msk (fun i => dnm q i (sbm q m.testBit)) (q 56))) hM hG hv hw (fun m _ => wr_45 hG _) ?_
  · have e : Um q v (fun m => wr q (msk (fun i => dnm q i (sbm q m.testBit)) (q 56))) = fb_sm (fun i => q (36 + 4 * i + 3) * upi q v i) (q 56) := by
      have e1 : ∀ m : Nat, wr q (msk (fun i => dnm q i (sbm q m.testBit)) (q 56)) = fb_sm (fun i => q (36 + 4 * i + 3) * (!ND q i 10 m.testBit).toNat) (q 56) := fun m => by
        unfold wr
        apply fb_sm_cong
        intro i hi
        rw [msk_bit, decide_eq_true hi, Bool.true_and, dn_nd]
        cases ND q i 10 m.testBit <;> simp
      have e2 : ∀ W, fb_sm (fun m => pr q v 10 m.testBit * fb_sm (fun i => q (36 + 4 * i + 3) * (!ND q i 10 m.testBit).toNat) W) 1024 = fb_sm (fun i => q (36 + 4 * i + 3) * upi q v i) W := by
        intro W
        induction W with
        | zero =>
          rw [fb_sm_cong (g := fun _ => 0) (fun m _ => by show _ * 0 = 0; rw [Nat.mul_zero]), fb_sm_const, Nat.mul_zero]
          rfl
        | succ W ih =>
          rw [fb_sm_succ (fun i => q (36 + 4 * i + 3) * upi q v i) W, ← ih]
          have e3 : q (36 + 4 * W + 3) * upi q v W = fb_sm (fun m => q (36 + 4 * W + 3) * (pr q v 10 m.testBit * (!ND q W 10 m.testBit).toNat)) 1024 := by
            rw [fb_sm_mul]; rfl
          rw [e3, ← fb_sm_add]
          apply fb_sm_cong
          intro m _
          rw [fb_sm_succ, Nat.mul_add, Nat.mul_left_comm]
      unfold Um
      rw [← e2]
      apply fb_sm_cong
      intro m _
      dsimp only
      rw [e1]
    rw [e] at h
    exact h
  · intro n77 n u o d m hm
    have h1 := m_but (m := m) hM hG (by omega)
    have h2 := m_doneBy (m := sbm q m.testBit) hM hG (msk_31 _ (show 10 ≤ 30 by omega))
    have h3 := m_worth (m := msk (fun i => dnm q i (sbm q m.testBit)) (q 56)) hM hG (msk_31 _ (by omega))
    simp -dsimp -implicitDefEqProofs (disch := omega) only [bnd_u, gd_t, if_true, if_false, ↓reduceIte, eq_self, true_or, or_true, false_or, or_false, not_true_eq_false, not_false_eq_true, and_true, true_and, and_false, false_and, reduceCtorEq, nI_ge, nI_le, nI_lt, nI_nlt, nI_ne, nI_te, nm_eq, mn_eq, nm_le, mn_le, nm_lt, mn_lt, pk_mul, nI_add, pk_sub, nI_clamp, eX9_byMissed_101, hMo, h1, h2, h3]
