/-! text: the reference's NUMBER -/
/-- where the reference stands -/
def Cg (g : Gg) (b : Nat → Nat) (n : Nat) (t : Nat × Nat) : Prop := (t.1 ≠ 0 ∧ t.1 < 100 ∧ g 78 12 = nI t.1 ∧ g 78 13 = nI t.2) ∨ (t.1 = 0 ∧ t.2 ≤ n ∧ Cu g b n (sk b n t.2))
theorem Cg.f {g g' : Gg} {b : Nat → Nat} {n : Nat} {t : Nat × Nat} (h : Cg g b n t) (hf : ∀ i, i ∈ [12, 13, 14, 15, 16, 17] → g' 78 i = g 78 i) : Cg g' b n t := by
  unfold Cg Cu
  rw [hf 12 (by decide), hf 13 (by decide), hf 14 (by decide), hf 15 (by decide), hf 16 (by decide), hf 17 (by decide)]
  exact h
theorem Cg.bk {g : Gg} {b : Nat → Nat} {n c s : Nat} (c0 : c ≠ 0) (c1 : c < 100) (h12 : g 78 12 = nI c) (h13 : g 78 13 = nI s) : Cg g b n (c, s) := Or.inl ⟨c0, c1, h12, h13⟩
/-- broken, or at a TOKEN -/
theorem Cg.cs {g : Gg} {b : Nat → Nat} {n : Nat} {t : Nat × Nat} (h : Cg g b n t) : (∃ c s, c ≠ 0 ∧ c < 100 ∧ g 78 12 = nI c ∧ g 78 13 = nI s ∧ (∀ lo f, nu b n lo f t = (lo, c, s)) ∧ stp b n t = (c, s) ∧ (∀ d, dif b n d t = t) ∧ (t = (c, s) ∨ (t.1 = 0 ∧ kK b n (sk b n t.2) = 4 ∧ s = sk b n t.2 ∧ c = 1))) ∨ ∃ p s, t = (0, p) ∧ s = sk b n p ∧ p ≤ n ∧ s ≤ n ∧ p ≤ s ∧ kK b n s ≠ 4 ∧ g 78 12 = nI 0 ∧ g 78 14 = nI (kE b n s) ∧ g 78 15 = nI s ∧ g 78 16 = nI (kK b n s) ∧ g 78 17 = nI (kV b n s) := by
  obtain ⟨c, p⟩ := t
  rcases h with ⟨h0, h1, h2, h3⟩ | ⟨h0, h1, h2⟩
  · exact Or.inl ⟨c, p, h0, h1, h2, h3, fun _ _ => nu_b h0, stp_b h0, fun _ => dif_b h0, Or.inl rfl⟩
  · cases h0
    rcases h2 with ⟨a1, a2, a3⟩ | ⟨a1, a2, a3, a4, a5, a6⟩
    · refine Or.inl ⟨1, sk b n p, by decide, by decide, a2, a3, fun lo f => ?_, ?_, fun d => ?_, Or.inr ⟨rfl, a1, rfl, rfl⟩⟩
      · rw [nu_0]; exact if_pos a1
      · rw [stp_0]; exact if_pos a1
      · show (if (0 : Nat) ≠ 0 then _ else _) = _
        rw [if_neg (by decide)]
        refine if_neg (fun h => ?_)
        have h3 : kK b n (sk b n p) = 2 := h.1
        have h4 : kK b n (sk b n p) = 4 := a1
        omega
    · exact Or.inr ⟨p, sk b n p, rfl, rfl, h1, sk_le h1, sk_ge b n p, a1, a2, a3, a4, a5, a6⟩
theorem m_rg {M : Hx} {lo hi v : Nat} (h1 : lo ≤ v) (h2 : v ≤ hi) (h : hi < 100) : FX9_in (nI v).toInt64 (nI lo).toInt64 (nI hi).toInt64 M = some (nI 1, M) := by
  rw [nI_l (by omega), nI_l (by omega), nI_l (by omega)]
  exact m_in h1 h2 (by omega)
theorem m_rgN {M : Hx} {lo hi v : Nat} (h : v < lo ∨ hi < v) (h1 : lo < 100) (h2 : hi < 100) (h3 : v < 100) : FX9_in (nI v).toInt64 (nI lo).toInt64 (nI hi).toInt64 M = some (nI 0, M) := by
  rw [nI_l (by omega), nI_l (by omega), nI_l (by omega)]
  rcases h with h | h
  · exact m_inL ((lN_lt (by omega) (by omega)).mpr h)
  · exact m_inH ((lN_lt (by omega) (by omega)).mpr h)
theorem m_other {g : Gg} {b : Nat → Nat} {n lo hi x : Nat} {t : Nat × Nat} (hT : Tb g n b) (hC : Cg g b n t) (hlo : lo < 32) (hhi : hi < 32) (hx : x < 8) : ∃ g', FX9_other 78 (nI lo) (nI hi) (nI x) (mk g) = some (nI (nu b n lo (fO lo hi x) t).1, mk g') ∧ Fc 78 [12, 13, 14, 15, 16, 17] g g' ∧ Cg g' b n (nu b n lo (fO lo hi x) t).2 := by
  rcases hC.cs with ⟨c, s, c0, c1, h12, h13, hnu, -, -, -⟩ | ⟨p, s, rfl, es, hp, hs, hge, k4, h12, h14, h15, h16, h17⟩
  · rw [hnu]
    refine ⟨g, ?_, Fc.refl, Or.inl ⟨c0, c1, h12, h13⟩⟩
    have hst := m_stepB h12 (by omega) c1
    simp -dsimp -implicitDefEqProofs (disch := omega) only [bnd_u, gd_t, if_true, if_false, ↓reduceIte, eq_self, true_or, or_true, false_or, or_false, not_true_eq_false, not_false_eq_true, and_true, true_and, and_false, false_and, reduceCtorEq, nI_ge, nI_le, nI_lt, nI_nlt, nI_ne, nI_te, nm_eq, mn_eq, nm_le, mn_le, nm_lt, mn_lt, pk_mul, nI_add, pk_sub, nI_clamp, eX9_other, eX9_other_20, eX9_other_47, eX9_other_75, eX9_other_90, hMo, h12, hst]
  · rw [nu_0, ← es]
    have hvl := kV_le b n s
    have hkl := kK_le b n s
    by_cases k2 : kK b n s = 2
    · rw [k2] at h16
      by_cases hf : fO lo hi x (kV b n s) = 0
      · obtain ⟨f1, f2, f3⟩ := fO_ok hf
        have en : nuS b n lo (fO lo hi x) s = (kV b n s, 0, kE b n s) := by
          rw [nuS, if_neg k4, if_neg (by omega), if_neg (by omega)]
        rw [en]
        obtain ⟨g', e, f, r⟩ := m_step hT h14 h12 (kE_le hs)
        refine ⟨g', ?_, f, Or.inr ⟨rfl, kE_le hs, r⟩⟩
        have hin := fun M => m_rg (M := M) f1 f2 (by omega)
        by_cases x0 : x = 0
        · subst x0
          simp -dsimp -implicitDefEqProofs (disch := omega) only [bnd_u, gd_t, if_true, if_false, ↓reduceIte, eq_self, true_or, or_true, false_or, or_false, not_true_eq_false, not_false_eq_true, and_true, true_and, and_false, false_and, reduceCtorEq, nI_ge, nI_le, nI_lt, nI_nlt, nI_ne, nI_te, nm_eq, mn_eq, nm_le, mn_le, nm_lt, mn_lt, pk_mul, nI_add, pk_sub, nI_clamp, eX9_other, eX9_other_20, eX9_other_47, eX9_other_75, eX9_other_90, hMo, h12, h16, h17, hin, e]
        · have hbit := nI_bit (a := x) (i := kV b n s) (by omega) (by omega)
          rw [f3, show (false).toNat = 0 from rfl] at hbit
          simp -dsimp -implicitDefEqProofs (disch := omega) only [bnd_u, gd_t, if_true, if_false, ↓reduceIte, eq_self, true_or, or_true, false_or, or_false, not_true_eq_false, not_false_eq_true, and_true, true_and, and_false, false_and, reduceCtorEq, nI_ge, nI_le, nI_lt, nI_nlt, nI_ne, nI_te, nm_eq, mn_eq, nm_le, mn_le, nm_lt, mn_lt, pk_mul, nI_add, pk_sub, nI_clamp, eX9_other, eX9_other_20, eX9_other_47, eX9_other_75, eX9_other_90, hMo, h12, h16, h17, hin, hbit, e]
      · have hfl := fO_le lo hi x (kV b n s)
        have en : nuS b n lo (fO lo hi x) s = (lo, fO lo hi x (kV b n s), s) := by
          rw [nuS, if_neg k4, if_neg (by omega), if_pos hf]
        rw [en]
        obtain ⟨w, ew⟩ : ∃ w, w = up (up g 78 12 (nI (fO lo hi x (kV b n s)))) 78 13 (nI s) := ⟨_, rfl⟩
        have w12 : w 78 12 = nI (fO lo hi x (kV b n s)) := by rw [ew, up_c, pk_un (by decide), up_c, pk_us]
        have w13 : w 78 13 = nI s := by rw [ew, up_c, pk_us]
        have fw : Fc 78 [12, 13, 14, 15, 16, 17] g w := by rw [ew]; exact (Fc.u (by decide)).ux (by decide)
        refine ⟨w, ?_, fw, Cg.bk (c := fO lo hi x (kV b n s)) hf (by omega) w12 w13⟩
        have hm := m_fails0 (c := fO lo hi x (kV b n s)) h12 h15
        rw [← ew] at hm
        have hst := m_stepB w12 (by omega) (by omega)
        by_cases hv : kV b n s < lo ∨ hi < kV b n s
        · have hin := fun M => m_rgN (M := M) hv (by omega) (by omega) (by omega)
          have ef : fO lo hi x (kV b n s) = 3 := fO_out hv
          rw [ef] at hm w12
          simp -dsimp -implicitDefEqProofs (disch := omega) only [bnd_u, gd_t, if_true, if_false, ↓reduceIte, eq_self, true_or, or_true, false_or, or_false, not_true_eq_false, not_false_eq_true, and_true, true_and, and_false, false_and, reduceCtorEq, nI_ge, nI_le, nI_lt, nI_nlt, nI_ne, nI_te, nm_eq, mn_eq, nm_le, mn_le, nm_lt, mn_lt, pk_mul, nI_add, pk_sub, nI_clamp, eX9_other, eX9_other_20, eX9_other_47, eX9_other_75, eX9_other_90, hMo, h12, h16, h17, hin, hm, w12, hst]
        · have f1 : lo ≤ kV b n s := by omega
          have f2 : kV b n s ≤ hi := by omega
          have hin := fun M => m_rg (M := M) f1 f2 (by omega)
          have f3 : x.testBit (kV b n s) = true := by
            cases hb : x.testBit (kV b n s)
            · refine absurd ?_ hf
              rw [fO, if_neg hv, hb, if_neg (by decide)]
            · rfl
          have ef : fO lo hi x (kV b n s) = 4 := by rw [fO, if_neg hv, f3, if_pos rfl]
          rw [ef] at hm w12
          have x0 : x ≠ 0 := fun h => by
            rw [h, Nat.zero_testBit] at f3
            cases f3
          have hbit := nI_bit (a := x) (i := kV b n s) (by omega) (by omega)
          rw [f3, show (true).toNat = 1 from rfl] at hbit
          simp -dsimp -implicitDefEqProofs (disch := omega) only [bnd_u, gd_t, if_true, if_false, ↓reduceIte, eq_self, true_or, or_true, false_or, or_false, not_true_eq_false, not_false_eq_true, and_true, true_and, and_false, false_and, reduceCtorEq, nI_ge, nI_le, nI_lt, nI_nlt, nI_ne, nI_te, nm_eq, mn_eq, nm_le, mn_le, nm_lt, mn_lt, pk_mul, nI_add, pk_sub, nI_clamp, eX9_other, eX9_other_20, eX9_other_47, eX9_other_75, eX9_other_90, hMo, h12, h16, h17, hin, hbit, hm, w12, hst]
    · have en : nuS b n lo (fO lo hi x) s = (lo, 2, s) := by rw [nuS, if_neg k4, if_pos k2]
      rw [en]
      obtain ⟨w, ew⟩ : ∃ w, w = up (up g 78 12 (nI 2)) 78 13 (nI s) := ⟨_, rfl⟩
      have w12 : w 78 12 = nI 2 := by rw [ew, up_c, pk_un (by decide), up_c, pk_us]
      have w13 : w 78 13 = nI s := by rw [ew, up_c, pk_us]
      have fw : Fc 78 [12, 13, 14, 15, 16, 17] g w := by rw [ew]; exact (Fc.u (by decide)).ux (by decide)
      refine ⟨w, ?_, fw, Cg.bk (c := 2) (by decide) (by decide) w12 w13⟩
      have hm := m_fails0 (c := 2) h12 h15
      rw [← ew] at hm
      have hst := m_stepB w12 (by omega) (by omega)
      simp -dsimp -implicitDefEqProofs (disch := omega) only [bnd_u, gd_t, if_true, if_false, ↓reduceIte, eq_self, true_or, or_true, false_or, or_false, not_true_eq_false, not_false_eq_true, and_true, true_and, and_false, false_and, reduceCtorEq, nI_ge, nI_le, nI_lt, nI_nlt, nI_ne, nI_te, nm_eq, mn_eq, nm_le, mn_le, nm_lt, mn_lt, pk_mul, nI_add, pk_sub, nI_clamp, eX9_other, eX9_other_20, eX9_other_47, eX9_other_75, eX9_other_90, hMo, h12, h16, hm, w12, hst]
theorem hm_le {a b : Nat} (ha : a ≤ 100) (hb : b ≤ 100) : (nI a ≤ hm b) = (a < b) := by
  unfold hm
  refine propext ?_
  by_cases z : b = 0
  · rw [if_pos z, fa_le, nI_toInt (by omega), mi_I (by omega)]; omega
  · rw [if_neg z, fa_le, nI_toInt (by omega), nI_toInt (by omega)]; omega
/-- the reference's ONE -/
theorem m_oneH {g : Gg} {b : Nat → Nat} {n h : Nat} {t : Nat × Nat} (hT : Tb g n b) (hC : Cg g b n t) (h8 : g 78 8 = hm h) (hh : h ≤ 5) : ∃ g', FX9_oneHere 78 (mk g) = some (nI (nu b n 0 (fO 0 4 0) t).1, mk g') ∧ Fc 78 [8, 12, 13, 14, 15, 16, 17] g g' ∧ Cg g' b n (nu b n 0 (fO 0 4 0) t).2 ∧ g' 78 8 = hm (max h ((nu b n 0 (fO 0 4 0) t).1 + 1)) := by
  obtain ⟨g1, e1, f1, c1⟩ := m_other (lo := 0) (hi := 4) (x := 0) hT hC (by decide) (by decide) (by decide)
  have hv : (nu b n 0 (fO 0 4 0) t).1 ≤ 99 := by
    unfold nu nuS
    have := kV_le b n (sk b n t.2)
    split
    · omega
    · split
      · omega
      · split
        · omega
        · split
          · omega
          · omega
  revert e1 c1 hv
  generalize nu b n 0 (fO 0 4 0) t = w
  intro e1 c1 hv
  have k8 : g1 78 8 = hm h := by rw [f1.2 8 (by decide), h8]
  rcases Nat.lt_or_ge w.1 h with hc | hc
  · have hle : (nI w.1 ≤ hm h) = True := by rw [hm_le (by omega) (by omega)]; exact eq_true hc
    refine ⟨up g1 78 8 (hm h), ?_, (f1.mo (by decide)).ux (by decide), c1.f (fun i hi => ?_), ?_⟩
    · simp -dsimp -implicitDefEqProofs (disch := omega) only [bnd_u, gd_t, if_true, if_false, ↓reduceIte, eq_self, true_or, or_true, false_or, or_false, not_true_eq_false, not_false_eq_true, and_true, true_and, and_false, false_and, reduceCtorEq, nI_ge, nI_le, nI_lt, nI_nlt, nI_ne, nI_te, nm_eq, mn_eq, nm_le, mn_le, nm_lt, mn_lt, pk_mul, nI_add, pk_sub, nI_clamp, eX9_oneHere, eX9_oneHere_25, hMo, e1, k8, hle]
    · rw [up_c, pk_un (by intro e; subst e; revert hi; decide)]
    · rw [up_c, pk_us, Nat.max_eq_left (by omega)]
  · have hle : (nI w.1 ≤ hm h) = False := by rw [hm_le (by omega) (by omega)]; exact eq_false (by omega)
    refine ⟨up g1 78 8 (nI w.1), ?_, (f1.mo (by decide)).ux (by decide), c1.f (fun i hi => ?_), ?_⟩
    · simp -dsimp -implicitDefEqProofs (disch := omega) only [bnd_u, gd_t, if_true, if_false, ↓reduceIte, eq_self, true_or, or_true, false_or, or_false, not_true_eq_false, not_false_eq_true, and_true, true_and, and_false, false_and, reduceCtorEq, nI_ge, nI_le, nI_lt, nI_nlt, nI_ne, nI_te, nm_eq, mn_eq, nm_le, mn_le, nm_lt, mn_lt, pk_mul, nI_add, pk_sub, nI_clamp, eX9_oneHere, eX9_oneHere_25, hMo, e1, k8, hle]
    · rw [up_c, pk_un (by intro e; subst e; revert hi; decide)]
    · rw [up_c, pk_us, Nat.max_eq_right (by omega), hm, if_neg (by omega), Nat.add_sub_cancel]
