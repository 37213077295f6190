/-! text: a NUMBER, a stop; t: fault (0: none), and its place or the place where reading goes on -/
def nuS (b : Nat → Nat) (n lo : Nat) (f : Nat → Nat) (s : Nat) : Nat × Nat × Nat := if kK b n s = 4 then (lo, 1, s) else if kK b n s ≠ 2 then (lo, 2, s) else if f (kV b n s) ≠ 0 then (lo, f (kV b n s), s) else (kV b n s, 0, kE b n s)
def nu (b : Nat → Nat) (n lo : Nat) (f : Nat → Nat) (t : Nat × Nat) : Nat × Nat × Nat := if t.1 ≠ 0 then (lo, t) else nuS b n lo f (sk b n t.2)
def stS (b : Nat → Nat) (n s : Nat) : Nat × Nat := if kK b n s = 4 then (1, s) else if kK b n s ≠ 3 then (2, s) else (0, kE b n s)
def stp (b : Nat → Nat) (n : Nat) (t : Nat × Nat) : Nat × Nat := if t.1 ≠ 0 then t else stS b n (sk b n t.2)
def fO (lo hi x v : Nat) : Nat := if v < lo ∨ hi < v then 3 else if x.testBit v = true then 4 else 0
/-- another number than d -/
def dif (b : Nat → Nat) (n d : Nat) (t : Nat × Nat) : Nat × Nat := if t.1 ≠ 0 then t else if kK b n (sk b n t.2) = 2 ∧ kV b n (sk b n t.2) = d then (3, sk b n t.2) else t
theorem nu_b {b : Nat → Nat} {n lo c p : Nat} {f : Nat → Nat} (h : c ≠ 0) : nu b n lo f (c, p) = (lo, c, p) := if_pos h
theorem nu_0 {b : Nat → Nat} {n lo p : Nat} {f : Nat → Nat} : nu b n lo f (0, p) = nuS b n lo f (sk b n p) := if_neg (fun h => h rfl)
theorem stp_b {b : Nat → Nat} {n c p : Nat} (h : c ≠ 0) : stp b n (c, p) = (c, p) := if_pos h
theorem stp_0 {b : Nat → Nat} {n p : Nat} : stp b n (0, p) = stS b n (sk b n p) := if_neg (fun h => h rfl)
theorem dif_b {b : Nat → Nat} {n d c p : Nat} (h : c ≠ 0) : dif b n d (c, p) = (c, p) := if_pos h
theorem fO_in {lo hi v : Nat} (h1 : lo ≤ v) (h2 : v ≤ hi) : fO lo hi 0 v = 0 := by
  rw [fO, if_neg (by omega), Nat.zero_testBit, if_neg (by decide)]
theorem fO_out {lo hi x v : Nat} (h : v < lo ∨ hi < v) : fO lo hi x v = 3 := if_pos h
theorem fO_le (lo hi x v : Nat) : fO lo hi x v ≤ 4 := by
  unfold fO
  split
  · omega
  · split <;> omega
theorem fO_ok {lo hi x v : Nat} (h : fO lo hi x v = 0) : lo ≤ v ∧ v ≤ hi ∧ x.testBit v = false := by
  unfold fO at h
  split at h
  · omega
  · split at h
    · omega
    · rename_i h1 h2
      refine ⟨by omega, by omega, by simpa using h2⟩
theorem nu_ok {b : Nat → Nat} {n lo c p : Nat} {f : Nat → Nat} (h : (nu b n lo f (c, p)).2.1 = 0) : c = 0 ∧ f (nu b n lo f (c, p)).1 = 0 := by
  by_cases hc : c = 0
  · subst hc
    refine ⟨rfl, ?_⟩
    rw [nu_0] at h ⊢
    unfold nuS at h ⊢
    split
    · rename_i h1
      rw [if_pos h1] at h
      cases h
    · rename_i h1
      rw [if_neg h1] at h
      split
      · rename_i h2
        rw [if_pos h2] at h
        cases h
      · rename_i h2
        rw [if_neg h2] at h
        split
        · rename_i h3
          rw [if_pos h3] at h
          exact absurd h h3
        · rename_i h3
          simpa using h3
  · rw [nu_b hc] at h
    exact absurd h hc
theorem stp_ok {b : Nat → Nat} {n : Nat} {t : Nat × Nat} (h : (stp b n t).1 = 0) : t.1 = 0 := by
  by_cases hc : t.1 = 0
  · exact hc
  · unfold stp at h
    rw [if_pos hc] at h
    exact h
theorem dif_ok {b : Nat → Nat} {n d : Nat} {t : Nat × Nat} (h : (dif b n d t).1 = 0) : t.1 = 0 := by
  by_cases hc : t.1 = 0
  · exact hc
  · unfold dif at h
    rw [if_pos hc] at h
    exact h
/-- the class's NUMBER -/
theorem c_num {g : Gg} {b : Nat → Nat} {n p lo hi : Nat} (hT : Ta g n b) (h7 : g 18 7 = nI p) (hp : p ≤ n) (hlo : lo < 100) (hhi : hi < 100) : ∃ r g' v c' p', nu b n lo (fO lo hi 0) (0, p) = (v, c', p') ∧ FX5_takeNumber 18 (nI lo) (nI hi) (mk g) = some (nI r, mk g') ∧ Fc 18 [3, 4, 5, 6, 7, 8] g g' ∧ ((r = 0 ∧ c' ≠ 0 ∧ g' 18 3 = nI c' ∧ g' 18 4 = nI p') ∨ (r = 1 ∧ c' = 0 ∧ lo ≤ v ∧ v ≤ hi ∧ p' ≤ n ∧ p < p' ∧ g' 18 3 = g 18 3 ∧ g' 18 6 = nI (sk b n p) ∧ g' 18 7 = nI p' ∧ g' 18 8 = nI v ∧ kK b n (sk b n p) = 2 ∧ kV b n (sk b n p) = v)) := by
  obtain ⟨r0, g0, e0, f0, c⟩ := c_token hT h7 hp
  have hs := sk_le (b := b) hp
  have hge := sk_ge b n p
  have hvl := kV_le b n (sk b n p)
  rw [nu_0]
  revert c hs hge hvl
  generalize sk b n p = s
  intro c hs hge hvl
  rcases c with ⟨k, rfl, a3, a4⟩ | ⟨k, rfl, a3, a4, a5, a6, a7, a8⟩
  · refine ⟨0, g0, lo, 1, s, if_pos k, ?_, f0, Or.inl ⟨rfl, by decide, a3, a4⟩⟩
    simp -dsimp -implicitDefEqProofs (disch := omega) only [bnd_u, gd_t, if_true, if_false, ↓reduceIte, eq_self, true_or, or_true, false_or, or_false, not_true_eq_false, not_false_eq_true, and_true, true_and, and_false, false_and, reduceCtorEq, nI_ge, nI_le, nI_lt, nI_nlt, nI_ne, nI_te, nm_eq, mn_eq, nm_le, mn_le, nm_lt, mn_lt, pk_mul, nI_add, pk_sub, nI_clamp, eX5_takeNumber, hRd, e0]
  · by_cases k2 : kK b n s = 2
    · rw [if_pos k2] at a8
      rw [k2] at a5
      by_cases hv : kV b n s < lo ∨ hi < kV b n s
      · have hm := c_meet (c := 3) a6
        refine ⟨0, up (up g0 18 3 (nI 3)) 18 4 (nI s), lo, 3, s, ?_, ?_, (f0.ux (i := 3) (by decide)).ux (i := 4) (by decide), Or.inl ⟨rfl, by decide, ?_, ?_⟩⟩
        · rw [nuS, if_neg k, if_neg (by omega), fO_out hv, if_pos (by decide)]
        · rcases hv with hv | hv
          · simp -dsimp -implicitDefEqProofs (disch := omega) only [bnd_u, gd_t, if_true, if_false, ↓reduceIte, eq_self, true_or, or_true, false_or, or_false, not_true_eq_false, not_false_eq_true, and_true, true_and, and_false, false_and, reduceCtorEq, nI_ge, nI_le, nI_lt, nI_nlt, nI_ne, nI_te, nm_eq, mn_eq, nm_le, mn_le, nm_lt, mn_lt, pk_mul, nI_add, pk_sub, nI_clamp, eX5_takeNumber, eX5_takeNumber_39, eX5_takeNumber_52, hRd, e0, a5, a8, hm]
          · rcases Nat.lt_or_ge (kV b n s) lo with hw | hw
            · simp -dsimp -implicitDefEqProofs (disch := omega) only [bnd_u, gd_t, if_true, if_false, ↓reduceIte, eq_self, true_or, or_true, false_or, or_false, not_true_eq_false, not_false_eq_true, and_true, true_and, and_false, false_and, reduceCtorEq, nI_ge, nI_le, nI_lt, nI_nlt, nI_ne, nI_te, nm_eq, mn_eq, nm_le, mn_le, nm_lt, mn_lt, pk_mul, nI_add, pk_sub, nI_clamp, eX5_takeNumber, eX5_takeNumber_39, eX5_takeNumber_52, hRd, e0, a5, a8, hm]
            · simp -dsimp -implicitDefEqProofs (disch := omega) only [bnd_u, gd_t, if_true, if_false, ↓reduceIte, eq_self, true_or, or_true, false_or, or_false, not_true_eq_false, not_false_eq_true, and_true, true_and, and_false, false_and, reduceCtorEq, nI_ge, nI_le, nI_lt, nI_nlt, nI_ne, nI_te, nm_eq, mn_eq, nm_le, mn_le, nm_lt, mn_lt, pk_mul, nI_add, pk_sub, nI_clamp, eX5_takeNumber, eX5_takeNumber_39, eX5_takeNumber_52, hRd, e0, a5, a8, hm]
        · rw [up_c, pk_un (by decide), up_c, pk_us]
        · rw [up_c, pk_us]
      · have hv1 : lo ≤ kV b n s := by omega
        have hv2 : kV b n s ≤ hi := by omega
        have hsn : s < n := kK_pos (b := b) (n := n) (s := s) (by omega)
        have hE := kE_gt (b := b) hsn
        refine ⟨1, g0, kV b n s, 0, kE b n s, ?_, ?_, f0, Or.inr ⟨rfl, rfl, hv1, hv2, kE_le hs, by omega, a3, a6, a7, a8, k2, rfl⟩⟩
        · rw [nuS, if_neg k, if_neg (by omega), fO_in hv1 hv2, if_neg (by decide)]
        · simp -dsimp -implicitDefEqProofs (disch := omega) only [bnd_u, gd_t, if_true, if_false, ↓reduceIte, eq_self, true_or, or_true, false_or, or_false, not_true_eq_false, not_false_eq_true, and_true, true_and, and_false, false_and, reduceCtorEq, nI_ge, nI_le, nI_lt, nI_nlt, nI_ne, nI_te, nm_eq, mn_eq, nm_le, mn_le, nm_lt, mn_lt, pk_mul, nI_add, pk_sub, nI_clamp, eX5_takeNumber, eX5_takeNumber_47, eX5_takeNumber_52, hRd, e0, a5, a8]
    · have hm := c_meet (c := 2) a6
      have hk := kK_le b n s
      refine ⟨0, up (up g0 18 3 (nI 2)) 18 4 (nI s), lo, 2, s, ?_, ?_, (f0.ux (i := 3) (by decide)).ux (i := 4) (by decide), Or.inl ⟨rfl, by decide, ?_, ?_⟩⟩
      · rw [nuS, if_neg k, if_pos k2]
      · simp -dsimp -implicitDefEqProofs (disch := omega) only [bnd_u, gd_t, if_true, if_false, ↓reduceIte, eq_self, true_or, or_true, false_or, or_false, not_true_eq_false, not_false_eq_true, and_true, true_and, and_false, false_and, reduceCtorEq, nI_ge, nI_le, nI_lt, nI_nlt, nI_ne, nI_te, nm_eq, mn_eq, nm_le, mn_le, nm_lt, mn_lt, pk_mul, nI_add, pk_sub, nI_clamp, eX5_takeNumber, hRd, e0, a5, hm]
      · rw [up_c, pk_un (by decide), up_c, pk_us]
      · rw [up_c, pk_us]
/-- the class's stop -/
theorem c_stop {g : Gg} {b : Nat → Nat} {n p : Nat} (hT : Ta g n b) (h7 : g 18 7 = nI p) (hp : p ≤ n) : ∃ r g' c' p', stp b n (0, p) = (c', p') ∧ FX5_takeStop 18 (mk g) = some (nI r, mk g') ∧ Fc 18 [3, 4, 5, 6, 7, 8] g g' ∧ ((r = 0 ∧ c' ≠ 0 ∧ g' 18 3 = nI c' ∧ g' 18 4 = nI p') ∨ (r = 1 ∧ c' = 0 ∧ p' ≤ n ∧ p < p' ∧ g' 18 3 = g 18 3 ∧ g' 18 7 = nI p' ∧ g' 18 8 = g 18 8)) := by
  obtain ⟨r0, g0, e0, f0, c⟩ := c_token hT h7 hp
  have hs := sk_le (b := b) hp
  have hge := sk_ge b n p
  rw [stp_0]
  revert c hs hge
  generalize sk b n p = s
  intro c hs hge
  rcases c with ⟨k, rfl, a3, a4⟩ | ⟨k, rfl, a3, a4, a5, a6, a7, a8⟩
  · refine ⟨0, g0, 1, s, if_pos k, ?_, f0, Or.inl ⟨rfl, by decide, a3, a4⟩⟩
    simp -dsimp -implicitDefEqProofs (disch := omega) only [bnd_u, gd_t, if_true, if_false, ↓reduceIte, eq_self, true_or, or_true, false_or, or_false, not_true_eq_false, not_false_eq_true, and_true, true_and, and_false, false_and, reduceCtorEq, nI_ge, nI_le, nI_lt, nI_nlt, nI_ne, nI_te, nm_eq, mn_eq, nm_le, mn_le, nm_lt, mn_lt, pk_mul, nI_add, pk_sub, nI_clamp, eX5_takeStop, eX5_takeStop_27, eX5_takeStop_28, hRd, e0]
  · by_cases k3 : kK b n s = 3
    · rw [if_neg (by omega)] at a8
      rw [k3] at a5
      have hsn : s < n := kK_pos (b := b) (n := n) (s := s) (by omega)
      have hE := kE_gt (b := b) hsn
      refine ⟨1, g0, 0, kE b n s, ?_, ?_, f0, Or.inr ⟨rfl, rfl, kE_le hs, by omega, a3, a7, a8⟩⟩
      · rw [stS, if_neg k, if_neg (by omega)]
      · simp -dsimp -implicitDefEqProofs (disch := omega) only [bnd_u, gd_t, if_true, if_false, ↓reduceIte, eq_self, true_or, or_true, false_or, or_false, not_true_eq_false, not_false_eq_true, and_true, true_and, and_false, false_and, reduceCtorEq, nI_ge, nI_le, nI_lt, nI_nlt, nI_ne, nI_te, nm_eq, mn_eq, nm_le, mn_le, nm_lt, mn_lt, pk_mul, nI_add, pk_sub, nI_clamp, eX5_takeStop, eX5_takeStop_23, eX5_takeStop_28, hRd, e0, a5]
    · have hm := c_meet (c := 2) a6
      have hk := kK_le b n s
      refine ⟨0, up (up g0 18 3 (nI 2)) 18 4 (nI s), 2, s, ?_, ?_, (f0.ux (i := 3) (by decide)).ux (i := 4) (by decide), Or.inl ⟨rfl, by decide, ?_, ?_⟩⟩
      · rw [stS, if_neg k, if_pos k3]
      · simp -dsimp -implicitDefEqProofs (disch := omega) only [bnd_u, gd_t, if_true, if_false, ↓reduceIte, eq_self, true_or, or_true, false_or, or_false, not_true_eq_false, not_false_eq_true, and_true, true_and, and_false, false_and, reduceCtorEq, nI_ge, nI_le, nI_lt, nI_nlt, nI_ne, nI_te, nm_eq, mn_eq, nm_le, mn_le, nm_lt, mn_lt, pk_mul, nI_add, pk_sub, nI_clamp, eX5_takeStop, eX5_takeStop_27, eX5_takeStop_28, hRd, e0, a5, hm]
      · rw [up_c, pk_un (by decide), up_c, pk_us]
      · rw [up_c, pk_us]
