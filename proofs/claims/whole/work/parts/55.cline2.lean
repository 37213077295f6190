/-! text: the class's lines tell, thing, rota -/
theorem dif_y {b : Nat → Nat} {n d p : Nat} (h : kK b n (sk b n p) = 2 ∧ kV b n (sk b n p) = d) : dif b n d (0, p) = (3, sk b n p) := by
  show (if (0 : Nat) ≠ 0 then _ else _) = _
  rw [if_neg (by decide)]
  exact if_pos h
theorem dif_n {b : Nat → Nat} {n d p : Nat} (h : ¬ (kK b n (sk b n p) = 2 ∧ kV b n (sk b n p) = d)) : dif b n d (0, p) = (0, p) := by
  show (if (0 : Nat) ≠ 0 then _ else _) = _
  rw [if_neg (by decide)]
  exact if_neg h
theorem nuS_v {b : Nat → Nat} {n lo hi x s : Nat} (hk : kK b n s = 2) (h1 : lo ≤ kV b n s) (h2 : kV b n s ≤ hi) : nuS b n lo (fO lo hi x) s = if x.testBit (kV b n s) = true then (lo, 4, s) else (kV b n s, 0, kE b n s) := by
  unfold nuS
  rw [if_neg (by omega), if_neg (by omega)]
  have e : fO lo hi x (kV b n s) = if x.testBit (kV b n s) = true then 4 else 0 := by
    rw [fO, if_neg (by omega)]
  rw [e]
  split
  · rw [if_pos (by decide)]
  · rw [if_neg (by decide)]
theorem nuS_out {b : Nat → Nat} {n lo hi x s : Nat} (hk : kK b n s = 2) (ho : kV b n s < lo ∨ hi < kV b n s) : nuS b n lo (fO lo hi x) s = (lo, 3, s) := by
  unfold nuS
  rw [if_neg (by omega), if_neg (by omega), fO_out ho, if_pos (by decide)]
theorem nuT_bad {b : Nat → Nat} {n lo hi x p v c p' : Nat} (h : nu b n lo (fO lo hi 0) (0, p) = (v, c, p')) (hc : c ≠ 0) : nu b n lo (fO lo hi x) (0, p) = (v, c, p') := by
  rw [nu_0] at h ⊢
  by_cases k2 : kK b n (sk b n p) = 2
  · by_cases ho : kV b n (sk b n p) < lo ∨ hi < kV b n (sk b n p)
    · rw [← h, nuS_out k2 ho, nuS_out k2 ho]
    · rw [nuS_v k2 (by omega) (by omega), Nat.zero_testBit, if_neg (by decide)] at h
      cases h
      exact absurd rfl hc
  · rw [← h]
    unfold nuS
    by_cases k4 : kK b n (sk b n p) = 4
    · rw [if_pos k4, if_pos k4]
    · rw [if_neg k4, if_neg k4, if_pos k2, if_pos k2]
theorem c_tell {g : Gg} {b : Nat → Nat} {n p : Nat} {z : Nat → Nat} (hT : Ta g n b) (h7 : g 18 7 = nI p) (hp : p ≤ n) (hC : Cl g z) (hZ : Zd z) (h5 : z 73 < 4) : ∃ r g', FX5_takeTelling 18 (mk g) = some (nI r, mk g') ∧ Lr g g' n p (sB b n (bTell b n (0, p) z)) r := by
  have hrm := c_room rw26 hC.1.2.2.2.2.2.2.2.1 h5
  obtain ⟨r1, g1, v1, c1, p1, hn1, e1, f1, cs⟩ := c_num (lo := 0) (hi := 9) hT h7 hp (by decide) (by decide)
  unfold bTell
  rw [hn1]
  rcases cs with ⟨rfl, c0, a3, a4⟩ | ⟨rfl, rfl, lo1, hi1, pn1, pp1, a3, -, a7, a8, -, -⟩
  · unfold bTell2 bTell3 bTell4
    rw [nu_b c0, dif_b c0, nu_b c0, nu_b c0]
    refine ⟨0, g1, ?_, Lr.badB (Fk.c f1 (by decide)) c0 a3 a4⟩
    simp -dsimp -implicitDefEqProofs (disch := omega) only [bnd_u, gd_t, if_true, if_false, ↓reduceIte, eq_self, true_or, or_true, false_or, or_false, not_true_eq_false, not_false_eq_true, and_true, true_and, and_false, false_and, reduceCtorEq, nI_ge, nI_le, nI_lt, nI_nlt, nI_ne, nI_te, nm_eq, mn_eq, nm_le, mn_le, nm_lt, mn_lt, pk_mul, nI_add, pk_sub, nI_clamp, eX5_takeTelling, eX5_takeTelling_24, hRd, hrm, e1]
  · have ff1 := Fk.c f1 (by decide)
    obtain ⟨r2, g2, v2, c2, p2, hn2, e2, f2, cs⟩ := c_num (lo := 0) (hi := 4) (hT.k ff1) a7 pn1 (by decide) (by decide)
    have ff2 := ff1.tr (Fk.c f2 (by decide))
    unfold bTell2
    rw [hn2]
    rcases cs with ⟨rfl, c0, b3, b4⟩ | ⟨rfl, rfl, lo2, hi2, pn2, pp2, b3, -, b7, b8, -, -⟩
    · unfold bTell3 bTell4
      rw [dif_b c0, nu_b c0, nu_b c0]
      refine ⟨0, g2, ?_, Lr.badB ff2 c0 b3 b4⟩
      simp -dsimp -implicitDefEqProofs (disch := omega) only [bnd_u, gd_t, if_true, if_false, ↓reduceIte, eq_self, true_or, or_true, false_or, or_false, not_true_eq_false, not_false_eq_true, and_true, true_and, and_false, false_and, reduceCtorEq, nI_ge, nI_le, nI_lt, nI_nlt, nI_ne, nI_te, nm_eq, mn_eq, nm_le, mn_le, nm_lt, mn_lt, pk_mul, nI_add, pk_sub, nI_clamp, eX5_takeTelling, hRd, hrm, e1, a8, e2]
    · obtain ⟨r3, g3, v3, c3, p3, hn3, e3, f3, cs⟩ := c_num (lo := 0) (hi := 4) (hT.k ff2) b7 pn2 (by decide) (by decide)
      have ff3 := ff2.tr (Fk.c f3 (by decide))
      unfold bTell3
      rcases cs with ⟨rfl, c0, c3', c4'⟩ | ⟨rfl, rfl, lo3, hi3, pn3, pp3, d3, d6, d7, d8, kk, kv⟩
      · have ed : dif b n v2 (0, p2) = (0, p2) := dif_n (fun h => by
          rw [nu_0, nuS_v h.1 (by omega) (by omega), Nat.zero_testBit, if_neg (by decide)] at hn3
          cases hn3
          exact absurd rfl c0)
        show ∃ r g', _ ∧ Lr g g' n p (sB b n (bTell4 b n (v1, 0, p1) (v2, 0, p2) (nu b n 0 (fO 0 4 0) (dif b n v2 (0, p2))) z)) r
        rw [ed, hn3]
        unfold bTell4
        rw [nu_b c0]
        refine ⟨0, g3, ?_, Lr.badB ff3 c0 c3' c4'⟩
        simp -dsimp -implicitDefEqProofs (disch := omega) only [bnd_u, gd_t, if_true, if_false, ↓reduceIte, eq_self, true_or, or_true, false_or, or_false, not_true_eq_false, not_false_eq_true, and_true, true_and, and_false, false_and, reduceCtorEq, nI_ge, nI_le, nI_lt, nI_nlt, nI_ne, nI_te, nm_eq, mn_eq, nm_le, mn_le, nm_lt, mn_lt, pk_mul, nI_add, pk_sub, nI_clamp, eX5_takeTelling, hRd, hrm, e1, a8, e2, b8, e3]
      · by_cases hd : v3 = v2
        · have ed : dif b n v2 (0, p2) = (3, sk b n p2) := dif_y ⟨kk, kv.trans hd⟩
          show ∃ r g', _ ∧ Lr g g' n p (sB b n (bTell4 b n (v1, 0, p1) (v2, 0, p2) (nu b n 0 (fO 0 4 0) (dif b n v2 (0, p2))) z)) r
          rw [ed, nu_b (by decide)]
          unfold bTell4
          rw [nu_b (by decide)]
          have hm := c_meet (c := 3) d6
          refine ⟨0, up (up g3 18 3 (nI 3)) 18 4 (nI (sk b n p2)), ?_, Lr.badB (ff3.tr (Fk.c meet_f (by decide))) (by decide) meet_3 meet_4⟩
          simp -dsimp -implicitDefEqProofs (disch := omega) only [bnd_u, gd_t, if_true, if_false, ↓reduceIte, eq_self, true_or, or_true, false_or, or_false, not_true_eq_false, not_false_eq_true, and_true, true_and, and_false, false_and, reduceCtorEq, nI_ge, nI_le, nI_lt, nI_nlt, nI_ne, nI_te, nm_eq, mn_eq, nm_le, mn_le, nm_lt, mn_lt, pk_mul, nI_add, pk_sub, nI_clamp, eX5_takeTelling, hRd, hrm, e1, a8, e2, b8, e3, d8, hd, hm]
        · have ed : dif b n v2 (0, p2) = (0, p2) := dif_n (fun h => hd (kv.symm.trans h.2))
          show ∃ r g', _ ∧ Lr g g' n p (sB b n (bTell4 b n (v1, 0, p1) (v2, 0, p2) (nu b n 0 (fO 0 4 0) (dif b n v2 (0, p2))) z)) r
          rw [ed, hn3]
          obtain ⟨r4, g4, v4, c4, p4, hn4, e4, f4, cs⟩ := c_num (lo := 0) (hi := 2) (hT.k ff3) d7 pn3 (by decide) (by decide)
          have ff4 := ff3.tr (Fk.c f4 (by decide))
          unfold bTell4
          rw [hn4]
          rcases cs with ⟨rfl, c0, k3, k4⟩ | ⟨rfl, rfl, lo4, hi4, pn4, pp4, k3, -, k7, k8, -, -⟩
          · refine ⟨0, g4, ?_, Lr.badB ff4 c0 k3 k4⟩
            simp -dsimp -implicitDefEqProofs (disch := omega) only [bnd_u, gd_t, if_true, if_false, ↓reduceIte, eq_self, true_or, or_true, false_or, or_false, not_true_eq_false, not_false_eq_true, and_true, true_and, and_false, false_and, reduceCtorEq, nI_ge, nI_le, nI_lt, nI_nlt, nI_ne, nI_te, nm_eq, mn_eq, nm_le, mn_le, nm_lt, mn_lt, pk_mul, nI_add, pk_sub, nI_clamp, eX5_takeTelling, eX5_takeTelling_90, hRd, hrm, e1, a8, e2, b8, e3, d8, e4]
          · obtain ⟨r5, g5, c5, p5, hst, e5, f5, cs⟩ := c_stop (hT.k ff4) k7 pn4
            have ff5 := ff4.tr (Fk.c f5 (by decide))
            show ∃ r g', _ ∧ Lr g g' n p (stp b n (0, p4), addE (hiE z v2 v3) v1 v2 v3 v4) r
            rw [hst]
            rcases cs with ⟨rfl, c0, q3, q4⟩ | ⟨rfl, rfl, pn5, pp5, q3, q7, q8⟩
            · refine ⟨0, g5, ?_, Lr.bad ff5 c0 q3 q4⟩
              simp -dsimp -implicitDefEqProofs (disch := omega) only [bnd_u, gd_t, if_true, if_false, ↓reduceIte, eq_self, true_or, or_true, false_or, or_false, not_true_eq_false, not_false_eq_true, and_true, true_and, and_false, false_and, reduceCtorEq, nI_ge, nI_le, nI_lt, nI_nlt, nI_ne, nI_te, nm_eq, mn_eq, nm_le, mn_le, nm_lt, mn_lt, pk_mul, nI_add, pk_sub, nI_clamp, eX5_takeTelling, eX5_takeTelling_90, hRd, hrm, e1, a8, e2, b8, e3, d8, e4, e5]
            · have hC5 := ((((hC.c f1 (by decide)).c f2 (by decide)).c f3 (by decide)).c f4 (by decide)).c f5 (by decide)
              rw [k8] at q8
              obtain ⟨g6, e6, f6, s6, x6, o6⟩ := R_add (x := xs4 (nI v1) (nI v2) (nI v3) (nI v4)) rw26 hC5.1.2.2.2.2.2.2.2.1 h5
              have e6' : FX6_add 26 (nI v1) (nI v2) (nI v3) (nI v4) (mk g5) = some (nI (z 73 + 1), mk g6) := e6
              have h78 := hZ.2.2.2.2.2.1
              have hm : max (max (z 78) (v2 + 1)) (v3 + 1) ≤ 10 := Nat.max_le.mpr ⟨Nat.max_le.mpr ⟨by omega, by omega⟩, by omega⟩
              refine ⟨1, g6, ?_, ff5.tr (Fk.r f6 (by decide) (by decide)), Or.inr ⟨rfl, rfl, pn5, ?_, ?_, ?_, Cl_E hC5 hZ h5 hm f6 s6 x6 o6⟩⟩
              · simp -dsimp -implicitDefEqProofs (disch := omega) only [bnd_u, gd_t, if_true, if_false, ↓reduceIte, eq_self, true_or, or_true, false_or, or_false, not_true_eq_false, not_false_eq_true, and_true, true_and, and_false, false_and, reduceCtorEq, nI_ge, nI_le, nI_lt, nI_nlt, nI_ne, nI_te, nm_eq, mn_eq, nm_le, mn_le, nm_lt, mn_lt, pk_mul, nI_add, pk_sub, nI_clamp, eX5_takeTelling, hRd, hrm, e1, a8, e2, b8, e3, d8, e4, e5, q8, e6']
              · show p < p5
                omega
              · rw [f6 18 (by decide), q3, k3, d3, b3, a3]
              · rw [f6 18 (by decide), q7]
theorem c_thingL {g : Gg} {b : Nat → Nat} {n p : Nat} {z : Nat → Nat} (hT : Ta g n b) (h7 : g 18 7 = nI p) (hp : p ≤ n) (hC : Cl g z) (hZ : Zd z) : ∃ r g', FX5_takeThing 18 (mk g) = some (nI r, mk g') ∧ Lr g g' n p (sB b n (bThing b n (0, p) z)) r := by
  have h8 := hZ.2.2.2.2.1
  obtain ⟨r1, g1, v1, c1, p1, hn1, e1, f1, cs⟩ := c_num (lo := 0) (hi := 2) hT h7 hp (by decide) (by decide)
  have ff1 := Fk.c f1 (by decide)
  have hC1 := hC.c f1 (by decide)
  unfold bThing
  rcases cs with ⟨rfl, c0, a3, a4⟩ | ⟨rfl, rfl, lo1, hi1, pn1, pp1, a3, a6, a7, a8, kk, kv⟩
  · rw [nuT_bad hn1 c0]
    unfold bThing2
    rw [nu_b c0]
    refine ⟨0, g1, ?_, Lr.badB ff1 c0 a3 a4⟩
    simp -dsimp -implicitDefEqProofs (disch := omega) only [bnd_u, gd_t, if_true, if_false, ↓reduceIte, eq_self, true_or, or_true, false_or, or_false, not_true_eq_false, not_false_eq_true, and_true, true_and, and_false, false_and, reduceCtorEq, nI_ge, nI_le, nI_lt, nI_nlt, nI_ne, nI_te, nm_eq, mn_eq, nm_le, mn_le, nm_lt, mn_lt, pk_mul, nI_add, pk_sub, nI_clamp, eX5_takeThing, hRd, e1]
  · have k9 := hC1.2.2.1
    have hbt := nI_bt (a := z 77) (i := v1) (by omega) (by omega)
    have hk1 : kV b n (sk b n p) ≤ 2 := by omega
    cases ht : (z 77).testBit v1
    · have en : nu b n 0 (fO 0 2 (z 77)) (0, p) = (v1, 0, p1) := by
        rw [← hn1, nu_0, nu_0, nuS_v kk (Nat.zero_le _) hk1, nuS_v kk (Nat.zero_le _) hk1, kv, ht, Nat.zero_testBit]
      rw [en]
      rw [ht] at hbt
      obtain ⟨r2, g2, v2, c2, p2, hn2, e2, f2, cs⟩ := c_num (lo := 0) (hi := 9) (hT.k ff1) a7 pn1 (by decide) (by decide)
      have ff2 := ff1.tr (Fk.c f2 (by decide))
      unfold bThing2
      rw [hn2]
      rcases cs with ⟨rfl, c0, b3, b4⟩ | ⟨rfl, rfl, lo2, hi2, pn2, pp2, b3, -, b7, b8, -, -⟩
      · refine ⟨0, g2, ?_, Lr.badB ff2 c0 b3 b4⟩
        simp -dsimp -implicitDefEqProofs (disch := omega) only [bnd_u, gd_t, if_true, if_false, ↓reduceIte, eq_self, true_or, or_true, false_or, or_false, not_true_eq_false, not_false_eq_true, and_true, true_and, and_false, false_and, reduceCtorEq, nI_ge, nI_le, nI_lt, nI_nlt, nI_ne, nI_te, nm_eq, mn_eq, nm_le, mn_le, nm_lt, mn_lt, pk_mul, nI_add, pk_sub, nI_clamp, eX5_takeThing, eX5_takeThing_50, hRd, e1, a8, k9, hbt, e2]
      · obtain ⟨r3, g3, c3, p3, hst, e3, f3, cs⟩ := c_stop (hT.k ff2) b7 pn2
        have ff3 := ff2.tr (Fk.c f3 (by decide))
        show ∃ r g', _ ∧ Lr g g' n p (stp b n (0, p2), addV z v1 v2) r
        rw [hst]
        rcases cs with ⟨rfl, c0, q3, q4⟩ | ⟨rfl, rfl, pn3, pp3, q3, q7, q8⟩
        · refine ⟨0, g3, ?_, Lr.bad ff3 c0 q3 q4⟩
          simp -dsimp -implicitDefEqProofs (disch := omega) only [bnd_u, gd_t, if_true, if_false, ↓reduceIte, eq_self, true_or, or_true, false_or, or_false, not_true_eq_false, not_false_eq_true, and_true, true_and, and_false, false_and, reduceCtorEq, nI_ge, nI_le, nI_lt, nI_nlt, nI_ne, nI_te, nm_eq, mn_eq, nm_le, mn_le, nm_lt, mn_lt, pk_mul, nI_add, pk_sub, nI_clamp, eX5_takeThing, eX5_takeThing_50, hRd, e1, a8, k9, hbt, e2, e3]
        · have hC3 := (hC1.c f2 (by decide)).c f3 (by decide)
          have m9 := hC3.2.2.1
          rw [b8] at q8
          obtain ⟨u, eu⟩ : ∃ u, u = up g3 18 9 (nI (z 77 ||| 2 ^ v1)) := ⟨_, rfl⟩
          have u8 : u 18 8 = nI v2 := by rw [eu, up_c, pk_un (by decide), q8]
          have fu9 : Fk g3 u := by rw [eu]; exact Fk.c (Fc.u (l := [9]) (by decide)) (by decide)
          have hV := Cl_V (v := v2) hC3 hZ (show v1 < 3 by omega)
          rw [← eu] at hV
          have f28 : Fr [28] u (up u 28 v1 (nI v2)) := Fr.c (by decide)
          refine ⟨1, up u 28 v1 (nI v2), ?_, (ff3.tr fu9).tr (Fk.r f28 (by decide) (by decide)), Or.inr ⟨rfl, rfl, pn3, ?_, ?_, ?_, hV⟩⟩
          · rw [nI_1shl (by omega)] at hbt
            simp -dsimp -implicitDefEqProofs (disch := omega) only [bnd_u, gd_t, if_true, if_false, ↓reduceIte, eq_self, true_or, or_true, false_or, or_false, not_true_eq_false, not_false_eq_true, and_true, true_and, and_false, false_and, reduceCtorEq, nI_ge, nI_le, nI_lt, nI_nlt, nI_ne, nI_te, nm_eq, mn_eq, nm_le, mn_le, nm_lt, mn_lt, pk_mul, nI_add, pk_sub, nI_clamp, eX5_takeThing, eX5_takeThing_86, hRd, e1, a8, k9, hbt, e2, e3, m9, nI_1shl, nI_or, ← eu, u8]
          · show p < p3
            omega
          · rw [f28 18 (by decide), eu, up_c, pk_un (by decide), q3, b3, a3]
          · rw [f28 18 (by decide), eu, up_c, pk_un (by decide), q7]
    · have en : nu b n 0 (fO 0 2 (z 77)) (0, p) = (0, 4, sk b n p) := by
        rw [nu_0, nuS_v kk (Nat.zero_le _) hk1, kv, ht, if_pos rfl]
      rw [en]
      unfold bThing2
      rw [nu_b (by decide)]
      rw [ht] at hbt
      have hm := c_meet (c := 4) a6
      refine ⟨0, up (up g1 18 3 (nI 4)) 18 4 (nI (sk b n p)), ?_, Lr.badB (ff1.tr (Fk.c meet_f (by decide))) (by decide) meet_3 meet_4⟩
      simp -dsimp -implicitDefEqProofs (disch := omega) only [bnd_u, gd_t, if_true, if_false, ↓reduceIte, eq_self, true_or, or_true, false_or, or_false, not_true_eq_false, not_false_eq_true, and_true, true_and, and_false, false_and, reduceCtorEq, nI_ge, nI_le, nI_lt, nI_nlt, nI_ne, nI_te, nm_eq, mn_eq, nm_le, mn_le, nm_lt, mn_lt, pk_mul, nI_add, pk_sub, nI_clamp, eX5_takeThing, hRd, e1, a8, k9, hbt, hm]
theorem c_rot {b : Nat → Nat} {n : Nat} : ∀ (d fuel p : Nat) (z : Nat → Nat) (g : Gg), 11 ≤ d + z 75 → z 75 ≤ 10 → d < fuel → Ta g n b → g 18 7 = nI p → p ≤ n → Cl g z → Zr z → ∃ r g', FX5_takeRota_20 fuel 18 (nI (z 75)) (mk g) = some (nI r, mk g') ∧ Lr g g' n p (sB b n (rot b n d (0, p) z)) r
  | 0, fuel, p, z, g, hd, h75, hf, hT, h7, hp, hC, hZ => absurd hd (by omega)
  | d + 1, fuel, p, z, g, hd, h75, hf, hT, h7, hp, hC, hZ => by
    obtain ⟨m, rfl⟩ : ∃ m, fuel = m + 1 := ⟨fuel - 1, by omega⟩
    obtain ⟨r0, g0, e0, f0, c⟩ := c_token hT h7 hp
    have hs := sk_le (b := b) hp
    have hge := sk_ge b n p
    have hvl := kV_le b n (sk b n p)
    have hkl := kK_le b n (sk b n p)
    obtain ⟨s, es⟩ : ∃ s, s = sk b n p := ⟨_, rfl⟩
    rw [← es] at c hs hge hvl hkl
    have ff := Fk.c f0 (by decide)
    have hC0 := hC.c f0 (by decide)
    rcases c with ⟨k, rfl, a3, a4⟩ | ⟨k, rfl, a3, a4, a5, a6, a7, a8⟩
    · rw [rot_n es (by omega)]
      show ∃ r g', _ ∧ Lr g g' n p (stp b n (0, p), z) r
      rw [stp_0, ← es, stS, if_pos k]
      refine ⟨0, g0, ?_, Lr.bad ff (by decide) a3 a4⟩
      simp -dsimp -implicitDefEqProofs (disch := omega) only [bnd_u, gd_t, if_true, if_false, ↓reduceIte, eq_self, true_or, or_true, false_or, or_false, not_true_eq_false, not_false_eq_true, and_true, true_and, and_false, false_and, reduceCtorEq, nI_ge, nI_le, nI_lt, nI_nlt, nI_ne, nI_te, nm_eq, mn_eq, nm_le, mn_le, nm_lt, mn_lt, pk_mul, nI_add, pk_sub, nI_clamp, eX5_takeRota_20, hRd, e0]
    · by_cases k2 : kK b n s = 2
      · rw [if_pos k2] at a8
        have hsn : s < n := kK_pos (b := b) (n := n) (s := s) (by omega)
        have hE := kE_gt (b := b) hsn
        have hE2 := kE_le (b := b) hs
        by_cases h10 : z 75 = 10
        · rw [rot_10 es k2 h10]
          have hm := c_meet (c := 5) a6
          rw [k2] at a5
          refine ⟨0, up (up g0 18 3 (nI 5)) 18 4 (nI s), ?_, Lr.badB (ff.tr (Fk.c meet_f (by decide))) (by decide) meet_3 meet_4⟩
          rw [h10]
          simp -dsimp -implicitDefEqProofs (disch := omega) only [bnd_u, gd_t, if_true, if_false, ↓reduceIte, eq_self, true_or, or_true, false_or, or_false, not_true_eq_false, not_false_eq_true, and_true, true_and, and_false, false_and, reduceCtorEq, nI_ge, nI_le, nI_lt, nI_nlt, nI_ne, nI_te, nm_eq, mn_eq, nm_le, mn_le, nm_lt, mn_lt, pk_mul, nI_add, pk_sub, nI_clamp, eX5_takeRota_20, hRd, e0, a5, hm]
        · have h10 : z 75 < 10 := by omega
          rw [rot_s es k2 h10, nu_0, ← es]
          by_cases hv : 5 < kV b n s
          · have en : nuS b n 0 (fO 0 5 0) s = (0, 3, s) := by
              rw [nuS, if_neg k, if_neg (by omega), fO_out (Or.inr hv), if_pos (by decide)]
            rw [en, rot_b (by decide)]
            have hm := c_meet (c := 3) a6
            rw [k2] at a5
            refine ⟨0, up (up g0 18 3 (nI 3)) 18 4 (nI s), ?_, Lr.badB (ff.tr (Fk.c meet_f (by decide))) (by decide) meet_3 meet_4⟩
            simp -dsimp -implicitDefEqProofs (disch := omega) only [bnd_u, gd_t, if_true, if_false, ↓reduceIte, eq_self, true_or, or_true, false_or, or_false, not_true_eq_false, not_false_eq_true, and_true, true_and, and_false, false_and, reduceCtorEq, nI_ge, nI_le, nI_lt, nI_nlt, nI_ne, nI_te, nm_eq, mn_eq, nm_le, mn_le, nm_lt, mn_lt, pk_mul, nI_add, pk_sub, nI_clamp, eX5_takeRota_20, hRd, e0, a5, a8, hm]
          · have en : nuS b n 0 (fO 0 5 0) s = (kV b n s, 0, kE b n s) := by
              rw [nuS_v k2 (Nat.zero_le _) (by omega), Nat.zero_testBit, if_neg (by decide)]
            rw [en]
            show ∃ r g', _ ∧ Lr g g' n p (sB b n (rot b n d (0, kE b n s) (addR z (kV b n s)))) r
            rw [k2] at a5
            have hC1 := Cl_R (v := kV b n s) hC0 hZ.1 h10
            have hZ1 := Zd_R (v := kV b n s) hZ h10 (by omega)
            have z75 : addR z (kV b n s) 75 = z 75 + 1 := by unfold addR; rw [pt_s]
            have hho := ho_r (v := kV b n s) (by omega)
            obtain ⟨u, eu⟩ : ∃ u, u = up g0 29 (z 75) (ho (if kV b n s < 5 then kV b n s + 1 else 0)) := ⟨_, rfl⟩
            have fu : Fr [29] g0 u := by rw [eu]; exact Fr.c (by decide)
            have fku := ff.tr (Fk.r fu (by decide) (by decide))
            rw [← eu] at hC1
            obtain ⟨r, g', e', l1, l2⟩ := c_rot d m (kE b n s) (addR z (kV b n s)) u (by omega) (by omega) (by omega) (hT.k fku) (by rw [fu 18 (by decide), a7]) hE2 hC1 hZ1
            rw [z75] at e'
            refine ⟨r, g', ?_, fku.tr l1, ?_⟩
            · rw [hho] at eu
              by_cases h5 : kV b n s = 5
              · rw [if_pos h5] at eu
                simp -dsimp -implicitDefEqProofs (disch := omega) only [bnd_u, gd_t, if_true, if_false, ↓reduceIte, eq_self, true_or, or_true, false_or, or_false, not_true_eq_false, not_false_eq_true, and_true, true_and, and_false, false_and, reduceCtorEq, nI_ge, nI_le, nI_lt, nI_nlt, nI_ne, nI_te, nm_eq, mn_eq, nm_le, mn_le, nm_lt, mn_lt, pk_mul, nI_add, pk_sub, nI_clamp, eX5_takeRota_20, eX5_takeRota_110, hRd, e0, a5, a8, h5, ← eu, e']
              · rw [if_neg h5] at eu
                simp -dsimp -implicitDefEqProofs (disch := omega) only [bnd_u, gd_t, if_true, if_false, ↓reduceIte, eq_self, true_or, or_true, false_or, or_false, not_true_eq_false, not_false_eq_true, and_true, true_and, and_false, false_and, reduceCtorEq, nI_ge, nI_le, nI_lt, nI_nlt, nI_ne, nI_te, nm_eq, mn_eq, nm_le, mn_le, nm_lt, mn_lt, pk_mul, nI_add, pk_sub, nI_clamp, eX5_takeRota_20, eX5_takeRota_110, hRd, e0, a5, a8, ← eu, e']
            · rcases l2 with ⟨x1, x2, x3, x4⟩ | ⟨x1, x2, x3, x4, x5, x6, x7⟩
              · exact Or.inl ⟨x1, x2, x3, x4⟩
              · refine Or.inr ⟨x1, x2, x3, by omega, ?_, x6, x7⟩
                rw [x5, fu 18 (by decide), a3]
      · rw [rot_n es k2]
        show ∃ r g', _ ∧ Lr g g' n p (stp b n (0, p), z) r
        rw [stp_0, ← es, stS, if_neg k]
        by_cases k3 : kK b n s = 3
        · rw [if_neg (by omega)]
          have hsn : s < n := kK_pos (b := b) (n := n) (s := s) (by omega)
          have hE := kE_gt (b := b) hsn
          rw [k3] at a5
          refine ⟨1, g0, ?_, ff, Or.inr ⟨rfl, rfl, kE_le hs, ?_, a3, a7, hC0⟩⟩
          · simp -dsimp -implicitDefEqProofs (disch := omega) only [bnd_u, gd_t, if_true, if_false, ↓reduceIte, eq_self, true_or, or_true, false_or, or_false, not_true_eq_false, not_false_eq_true, and_true, true_and, and_false, false_and, reduceCtorEq, nI_ge, nI_le, nI_lt, nI_nlt, nI_ne, nI_te, nm_eq, mn_eq, nm_le, mn_le, nm_lt, mn_lt, pk_mul, nI_add, pk_sub, nI_clamp, eX5_takeRota_20, hRd, e0, a5]
          · show p < kE b n s
            omega
        · rw [if_pos k3]
          have hm := c_meet (c := 2) a6
          refine ⟨0, up (up g0 18 3 (nI 2)) 18 4 (nI s), ?_, Lr.bad (ff.tr (Fk.c meet_f (by decide))) (by decide) meet_3 meet_4⟩
          simp -dsimp -implicitDefEqProofs (disch := omega) only [bnd_u, gd_t, if_true, if_false, ↓reduceIte, eq_self, true_or, or_true, false_or, or_false, not_true_eq_false, not_false_eq_true, and_true, true_and, and_false, false_and, reduceCtorEq, nI_ge, nI_le, nI_lt, nI_nlt, nI_ne, nI_te, nm_eq, mn_eq, nm_le, mn_le, nm_lt, mn_lt, pk_mul, nI_add, pk_sub, nI_clamp, eX5_takeRota_20, hRd, e0, a5, hm]
