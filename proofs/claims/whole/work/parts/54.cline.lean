/-! text: the class's lines, read -/
def sB (b : Nat → Nat) (n : Nat) (R : (Nat × Nat) × (Nat → Nat)) : (Nat × Nat) × (Nat → Nat) := (stp b n R.1, R.2)
/-- what a line leaves in the class: R is what is due, r the answer -/
def Lr (g g' : Gg) (n p : Nat) (R : (Nat × Nat) × (Nat → Nat)) (r : Nat) : Prop := Fk g g' ∧ ((r = 0 ∧ R.1.1 ≠ 0 ∧ g' 18 3 = nI R.1.1 ∧ g' 18 4 = nI R.1.2) ∨ (r = 1 ∧ R.1.1 = 0 ∧ R.1.2 ≤ n ∧ p < R.1.2 ∧ g' 18 3 = g 18 3 ∧ g' 18 7 = nI R.1.2 ∧ Cl g' R.2))
theorem Lr.bad {g g' : Gg} {n p c s : Nat} {z : Nat → Nat} (hf : Fk g g') (c0 : c ≠ 0) (h3 : g' 18 3 = nI c) (h4 : g' 18 4 = nI s) : Lr g g' n p ((c, s), z) 0 := ⟨hf, Or.inl ⟨rfl, c0, h3, h4⟩⟩
theorem Lr.badB {g g' : Gg} {b : Nat → Nat} {n p c s : Nat} {z : Nat → Nat} (hf : Fk g g') (c0 : c ≠ 0) (h3 : g' 18 3 = nI c) (h4 : g' 18 4 = nI s) : Lr g g' n p (sB b n ((c, s), z)) 0 := by
  show Lr g g' n p (stp b n (c, s), z) 0
  rw [stp_b c0]
  exact Lr.bad hf c0 h3 h4
theorem meet_3 {g : Gg} {c s : Nat} : up (up g 18 3 (nI c)) 18 4 (nI s) 18 3 = nI c := by rw [up_c, pk_un (by decide), up_c, pk_us]
theorem meet_4 {g : Gg} {c s : Nat} : up (up g 18 3 (nI c)) 18 4 (nI s) 18 4 = nI s := by rw [up_c, pk_us]
theorem meet_f {g : Gg} {c s : Nat} : Fc 18 [3, 4, 5, 6, 7, 8] g (up (up g 18 3 (nI c)) 18 4 (nI s)) := (Fc.u (by decide)).ux (by decide)
theorem c_room {g : Gg} {o c w L k : Nat} (h : Rw o c w L) (hn : g o 3 = nI k) (hk : k < L) : FX5_hasRoom 18 o (mk g) = some (nI 1, mk g) := by
  have h4 := h.2.2.2.1
  simp -dsimp -implicitDefEqProofs (disch := omega) only [bnd_u, gd_t, if_true, if_false, ↓reduceIte, eq_self, true_or, or_true, false_or, or_false, not_true_eq_false, not_false_eq_true, and_true, true_and, and_false, false_and, reduceCtorEq, nI_ge, nI_le, nI_lt, nI_nlt, nI_ne, nI_te, nm_eq, mn_eq, nm_le, mn_le, nm_lt, mn_lt, pk_mul, nI_add, pk_sub, nI_clamp, eX5_hasRoom, eX5_hasRoom_19, eX5_hasRoom_24, h.i3, h.i1, hn]
theorem c_roomN {g : Gg} {o c w L s : Nat} (h : Rw o c w L) (hn : g o 3 = nI L) (h6 : g 18 6 = nI s) : FX5_hasRoom 18 o (mk g) = some (nI 0, mk (up (up g 18 3 (nI 5)) 18 4 (nI s))) := by
  have h4 := h.2.2.2.1
  have hm := c_meet (c := 5) h6
  simp -dsimp -implicitDefEqProofs (disch := omega) only [bnd_u, gd_t, if_true, if_false, ↓reduceIte, eq_self, true_or, or_true, false_or, or_false, not_true_eq_false, not_false_eq_true, and_true, true_and, and_false, false_and, reduceCtorEq, nI_ge, nI_le, nI_lt, nI_nlt, nI_ne, nI_te, nm_eq, mn_eq, nm_le, mn_le, nm_lt, mn_lt, pk_mul, nI_add, pk_sub, nI_clamp, eX5_hasRoom, eX5_hasRoom_24, h.i3, h.i1, hn, hRd, hm]
theorem c_one {g : Gg} {b : Nat → Nat} {n p kd : Nat} {z : Nat → Nat} (hT : Ta g n b) (h7 : g 18 7 = nI p) (hp : p ≤ n) (hC : Cl g z) (hZ : Zd z) (h5 : z 74 < 5) : ∃ r g', FX5_takeOne 18 (nI kd) (mk g) = some (nI r, mk g') ∧ Lr g g' n p (sB b n (bOne b n kd (0, p) z)) r := by
  have hrm := c_room rw20 hC.1.1 h5
  obtain ⟨r1, g1, v, c1, p1, hnu, e1, f1, cs⟩ := c_num (lo := 0) (hi := 2) hT h7 hp (by decide) (by decide)
  unfold bOne
  rw [hnu]
  rcases cs with ⟨rfl, c0, a3, a4⟩ | ⟨rfl, rfl, lo, hi, pn, pp, a3, a6, a7, a8, -, -⟩
  · refine ⟨0, g1, ?_, Lr.badB (Fk.c f1 (by decide)) c0 a3 a4⟩
    simp -dsimp -implicitDefEqProofs (disch := omega) only [bnd_u, gd_t, if_true, if_false, ↓reduceIte, eq_self, true_or, or_true, false_or, or_false, not_true_eq_false, not_false_eq_true, and_true, true_and, and_false, false_and, reduceCtorEq, nI_ge, nI_le, nI_lt, nI_nlt, nI_ne, nI_te, nm_eq, mn_eq, nm_le, mn_le, nm_lt, mn_lt, pk_mul, nI_add, pk_sub, nI_clamp, eX5_takeOne, eX5_takeOne_30, hRd, hrm, e1]
  · obtain ⟨r2, g2, c2, p2, hst, e2, f2, cs2⟩ := c_stop (hT.c f1 (by decide)) a7 pn
    show ∃ r g', _ ∧ Lr g g' n p (stp b n (0, p1), addK z kd v) r
    rw [hst]
    have ff : Fk g g2 := (Fk.c f1 (by decide)).tr (Fk.c f2 (by decide))
    rcases cs2 with ⟨rfl, c0, b3, b4⟩ | ⟨rfl, rfl, pn2, pp2, b3, b7, b8⟩
    · refine ⟨0, g2, ?_, Lr.bad ff c0 b3 b4⟩
      simp -dsimp -implicitDefEqProofs (disch := omega) only [bnd_u, gd_t, if_true, if_false, ↓reduceIte, eq_self, true_or, or_true, false_or, or_false, not_true_eq_false, not_false_eq_true, and_true, true_and, and_false, false_and, reduceCtorEq, nI_ge, nI_le, nI_lt, nI_nlt, nI_ne, nI_te, nm_eq, mn_eq, nm_le, mn_le, nm_lt, mn_lt, pk_mul, nI_add, pk_sub, nI_clamp, eX5_takeOne, eX5_takeOne_30, hRd, hrm, e1, e2]
    · have hC2 := (hC.c f1 (by decide)).c f2 (by decide)
      rw [a8] at b8
      obtain ⟨g3, e3, f3, s3, x3, o3⟩ := R_add (x := xs4 (nI kd) (nI v) (nI 0) (nI 0)) rw20 hC2.1.1 h5
      have e3' : FX6_add 20 (nI kd) (nI v) (nI 0) (nI 0) (mk g2) = some (nI (z 74 + 1), mk g3) := e3
      refine ⟨1, g3, ?_, ff.tr (Fk.r f3 (by decide) (by decide)), Or.inr ⟨rfl, rfl, pn2, ?_, ?_, ?_, Cl_K hC2 hZ h5 f3 s3 x3 o3⟩⟩
      · simp -dsimp -implicitDefEqProofs (disch := omega) only [bnd_u, gd_t, if_true, if_false, ↓reduceIte, eq_self, true_or, or_true, false_or, or_false, not_true_eq_false, not_false_eq_true, and_true, true_and, and_false, false_and, reduceCtorEq, nI_ge, nI_le, nI_lt, nI_nlt, nI_ne, nI_te, nm_eq, mn_eq, nm_le, mn_le, nm_lt, mn_lt, pk_mul, nI_add, pk_sub, nI_clamp, eX5_takeOne, hRd, hrm, e1, e2, b8, e3']
      · show p < p2
        omega
      · rw [f3 18 (by decide), b3, a3]
      · rw [f3 18 (by decide), b7]
theorem c_turn {g : Gg} {b : Nat → Nat} {n p : Nat} {z : Nat → Nat} (hT : Ta g n b) (h7 : g 18 7 = nI p) (hp : p ≤ n) (hC : Cl g z) (hZ : Zd z) (h5 : z 25 < 4) : ∃ r g', FX5_takeTurn 18 (mk g) = some (nI r, mk g') ∧ Lr g g' n p (sB b n (bTurn b n (0, p) z)) r := by
  have hrm := c_room rw22 hC.1.2.2.2.1 h5
  obtain ⟨r1, g1, v1, c1, p1, hn1, e1, f1, cs⟩ := c_num (lo := 0) (hi := 9) hT h7 hp (by decide) (by decide)
  unfold bTurn
  rw [hn1]
  rcases cs with ⟨rfl, c0, a3, a4⟩ | ⟨rfl, rfl, lo1, hi1, pn1, pp1, a3, -, a7, a8, -, -⟩
  · unfold bTurn2 bTurn3
    rw [nu_b c0, nu_b c0]
    refine ⟨0, g1, ?_, Lr.badB (Fk.c f1 (by decide)) c0 a3 a4⟩
    simp -dsimp -implicitDefEqProofs (disch := omega) only [bnd_u, gd_t, if_true, if_false, ↓reduceIte, eq_self, true_or, or_true, false_or, or_false, not_true_eq_false, not_false_eq_true, and_true, true_and, and_false, false_and, reduceCtorEq, nI_ge, nI_le, nI_lt, nI_nlt, nI_ne, nI_te, nm_eq, mn_eq, nm_le, mn_le, nm_lt, mn_lt, pk_mul, nI_add, pk_sub, nI_clamp, eX5_takeTurn, eX5_takeTurn_24, hRd, hrm, e1]
  · have ff1 := Fk.c f1 (by decide)
    obtain ⟨r2, g2, v2, c2, p2, hn2, e2, f2, cs⟩ := c_num (lo := 0) (hi := 2) (hT.k ff1) a7 pn1 (by decide) (by decide)
    have ff2 := ff1.tr (Fk.c f2 (by decide))
    unfold bTurn2
    rw [hn2]
    rcases cs with ⟨rfl, c0, b3, b4⟩ | ⟨rfl, rfl, lo2, hi2, pn2, pp2, b3, -, b7, b8, -, -⟩
    · unfold bTurn3
      rw [nu_b c0]
      refine ⟨0, g2, ?_, Lr.badB ff2 c0 b3 b4⟩
      simp -dsimp -implicitDefEqProofs (disch := omega) only [bnd_u, gd_t, if_true, if_false, ↓reduceIte, eq_self, true_or, or_true, false_or, or_false, not_true_eq_false, not_false_eq_true, and_true, true_and, and_false, false_and, reduceCtorEq, nI_ge, nI_le, nI_lt, nI_nlt, nI_ne, nI_te, nm_eq, mn_eq, nm_le, mn_le, nm_lt, mn_lt, pk_mul, nI_add, pk_sub, nI_clamp, eX5_takeTurn, hRd, hrm, e1, a8, e2]
    · obtain ⟨r3, g3, v3, c3, p3, hn3, e3, f3, cs⟩ := c_num (lo := 0) (hi := 9) (hT.k ff2) b7 pn2 (by decide) (by decide)
      have ff3 := ff2.tr (Fk.c f3 (by decide))
      unfold bTurn3
      rw [hn3]
      rcases cs with ⟨rfl, c0, c3', c4'⟩ | ⟨rfl, rfl, lo3, hi3, pn3, pp3, d3, -, d7, d8, -, -⟩
      · refine ⟨0, g3, ?_, Lr.badB ff3 c0 c3' c4'⟩
        simp -dsimp -implicitDefEqProofs (disch := omega) only [bnd_u, gd_t, if_true, if_false, ↓reduceIte, eq_self, true_or, or_true, false_or, or_false, not_true_eq_false, not_false_eq_true, and_true, true_and, and_false, false_and, reduceCtorEq, nI_ge, nI_le, nI_lt, nI_nlt, nI_ne, nI_te, nm_eq, mn_eq, nm_le, mn_le, nm_lt, mn_lt, pk_mul, nI_add, pk_sub, nI_clamp, eX5_takeTurn, eX5_takeTurn_64, hRd, hrm, e1, a8, e2, b8, e3]
      · obtain ⟨r4, g4, c4, p4, hst, e4, f4, cs⟩ := c_stop (hT.k ff3) d7 pn3
        have ff4 := ff3.tr (Fk.c f4 (by decide))
        show ∃ r g', _ ∧ Lr g g' n p (stp b n (0, p3), addT z v1 v2 v3) r
        rw [hst]
        rcases cs with ⟨rfl, c0, q3, q4⟩ | ⟨rfl, rfl, pn4, pp4, q3, q7, q8⟩
        · refine ⟨0, g4, ?_, Lr.bad ff4 c0 q3 q4⟩
          simp -dsimp -implicitDefEqProofs (disch := omega) only [bnd_u, gd_t, if_true, if_false, ↓reduceIte, eq_self, true_or, or_true, false_or, or_false, not_true_eq_false, not_false_eq_true, and_true, true_and, and_false, false_and, reduceCtorEq, nI_ge, nI_le, nI_lt, nI_nlt, nI_ne, nI_te, nm_eq, mn_eq, nm_le, mn_le, nm_lt, mn_lt, pk_mul, nI_add, pk_sub, nI_clamp, eX5_takeTurn, eX5_takeTurn_64, hRd, hrm, e1, a8, e2, b8, e3, e4]
        · have hC4 := (((hC.c f1 (by decide)).c f2 (by decide)).c f3 (by decide)).c f4 (by decide)
          rw [d8] at q8
          obtain ⟨g5, e5, f5, s5, x5, o5⟩ := R_add (x := xs4 (nI v1) (nI v2) (nI v3) (nI 0)) rw22 hC4.1.2.2.2.1 h5
          have e5' : FX6_add 22 (nI v1) (nI v2) (nI v3) (nI 0) (mk g4) = some (nI (z 25 + 1), mk g5) := e5
          refine ⟨1, g5, ?_, ff4.tr (Fk.r f5 (by decide) (by decide)), Or.inr ⟨rfl, rfl, pn4, ?_, ?_, ?_, Cl_T hC4 hZ h5 f5 s5 x5 o5⟩⟩
          · simp -dsimp -implicitDefEqProofs (disch := omega) only [bnd_u, gd_t, if_true, if_false, ↓reduceIte, eq_self, true_or, or_true, false_or, or_false, not_true_eq_false, not_false_eq_true, and_true, true_and, and_false, false_and, reduceCtorEq, nI_ge, nI_le, nI_lt, nI_nlt, nI_ne, nI_te, nm_eq, mn_eq, nm_le, mn_le, nm_lt, mn_lt, pk_mul, nI_add, pk_sub, nI_clamp, eX5_takeTurn, hRd, hrm, e1, a8, e2, b8, e3, e4, q8, e5']
          · show p < p4
            omega
          · rw [f5 18 (by decide), q3, d3, b3, a3]
          · rw [f5 18 (by decide), q7]
theorem c_work {g : Gg} {b : Nat → Nat} {n p : Nat} {z : Nat → Nat} (hT : Ta g n b) (h7 : g 18 7 = nI p) (hp : p ≤ n) (hC : Cl g z) (hZ : Zd z) (h5 : z 56 < 5) : ∃ r g', FX5_takeWork 18 (mk g) = some (nI r, mk g') ∧ Lr g g' n p (sB b n (bWork b n (0, p) z)) r := by
  have hrm := c_room rw24 hC.1.2.2.2.2.2.1 h5
  obtain ⟨r1, g1, v1, c1, p1, hn1, e1, f1, cs⟩ := c_num (lo := 0) (hi := 4) hT h7 hp (by decide) (by decide)
  unfold bWork
  rw [hn1]
  rcases cs with ⟨rfl, c0, a3, a4⟩ | ⟨rfl, rfl, lo1, hi1, pn1, pp1, a3, -, a7, a8, -, -⟩
  · unfold bWork2 bWork3 bWork4
    rw [nu_b c0, nu_b c0, nu_b c0]
    refine ⟨0, g1, ?_, Lr.badB (Fk.c f1 (by decide)) c0 a3 a4⟩
    simp -dsimp -implicitDefEqProofs (disch := omega) only [bnd_u, gd_t, if_true, if_false, ↓reduceIte, eq_self, true_or, or_true, false_or, or_false, not_true_eq_false, not_false_eq_true, and_true, true_and, and_false, false_and, reduceCtorEq, nI_ge, nI_le, nI_lt, nI_nlt, nI_ne, nI_te, nm_eq, mn_eq, nm_le, mn_le, nm_lt, mn_lt, pk_mul, nI_add, pk_sub, nI_clamp, eX5_takeWork, eX5_takeWork_23, hRd, hrm, e1]
  · have ff1 := Fk.c f1 (by decide)
    obtain ⟨r2, g2, v2, c2, p2, hn2, e2, f2, cs⟩ := c_num (lo := 0) (hi := 9) (hT.k ff1) a7 pn1 (by decide) (by decide)
    have ff2 := ff1.tr (Fk.c f2 (by decide))
    unfold bWork2
    rw [hn2]
    rcases cs with ⟨rfl, c0, b3, b4⟩ | ⟨rfl, rfl, lo2, hi2, pn2, pp2, b3, -, b7, b8, -, -⟩
    · unfold bWork3 bWork4
      rw [nu_b c0, nu_b c0]
      refine ⟨0, g2, ?_, Lr.badB ff2 c0 b3 b4⟩
      simp -dsimp -implicitDefEqProofs (disch := omega) only [bnd_u, gd_t, if_true, if_false, ↓reduceIte, eq_self, true_or, or_true, false_or, or_false, not_true_eq_false, not_false_eq_true, and_true, true_and, and_false, false_and, reduceCtorEq, nI_ge, nI_le, nI_lt, nI_nlt, nI_ne, nI_te, nm_eq, mn_eq, nm_le, mn_le, nm_lt, mn_lt, pk_mul, nI_add, pk_sub, nI_clamp, eX5_takeWork, hRd, hrm, e1, a8, e2]
    · obtain ⟨r3, g3, v3, c3, p3, hn3, e3, f3, cs⟩ := c_num (lo := v2) (hi := 9) (hT.k ff2) b7 pn2 (by omega) (by decide)
      have ff3 := ff2.tr (Fk.c f3 (by decide))
      unfold bWork3
      rw [hn3]
      rcases cs with ⟨rfl, c0, c3', c4'⟩ | ⟨rfl, rfl, lo3, hi3, pn3, pp3, d3, -, d7, d8, -, -⟩
      · unfold bWork4
        rw [nu_b c0]
        refine ⟨0, g3, ?_, Lr.badB ff3 c0 c3' c4'⟩
        simp -dsimp -implicitDefEqProofs (disch := omega) only [bnd_u, gd_t, if_true, if_false, ↓reduceIte, eq_self, true_or, or_true, false_or, or_false, not_true_eq_false, not_false_eq_true, and_true, true_and, and_false, false_and, reduceCtorEq, nI_ge, nI_le, nI_lt, nI_nlt, nI_ne, nI_te, nm_eq, mn_eq, nm_le, mn_le, nm_lt, mn_lt, pk_mul, nI_add, pk_sub, nI_clamp, eX5_takeWork, hRd, hrm, e1, a8, e2, b8, e3]
      · obtain ⟨r4, g4, v4, c4, p4, hn4, e4, f4, cs⟩ := c_num (lo := 1) (hi := 9) (hT.k ff3) d7 pn3 (by decide) (by decide)
        have ff4 := ff3.tr (Fk.c f4 (by decide))
        unfold bWork4
        rw [hn4]
        rcases cs with ⟨rfl, c0, k3, k4⟩ | ⟨rfl, rfl, lo4, hi4, pn4, pp4, k3, -, k7, k8, -, -⟩
        · refine ⟨0, g4, ?_, Lr.badB ff4 c0 k3 k4⟩
          simp -dsimp -implicitDefEqProofs (disch := omega) only [bnd_u, gd_t, if_true, if_false, ↓reduceIte, eq_self, true_or, or_true, false_or, or_false, not_true_eq_false, not_false_eq_true, and_true, true_and, and_false, false_and, reduceCtorEq, nI_ge, nI_le, nI_lt, nI_nlt, nI_ne, nI_te, nm_eq, mn_eq, nm_le, mn_le, nm_lt, mn_lt, pk_mul, nI_add, pk_sub, nI_clamp, eX5_takeWork, eX5_takeWork_81, hRd, hrm, e1, a8, e2, b8, e3, d8, e4]
        · obtain ⟨r5, g5, c5, p5, hst, e5, f5, cs⟩ := c_stop (hT.k ff4) k7 pn4
          have ff5 := ff4.tr (Fk.c f5 (by decide))
          show ∃ r g', _ ∧ Lr g g' n p (stp b n (0, p4), addW (hiW z v1) v1 v2 v3 v4) r
          rw [hst]
          rcases cs with ⟨rfl, c0, q3, q4⟩ | ⟨rfl, rfl, pn5, pp5, q3, q7, q8⟩
          · refine ⟨0, g5, ?_, Lr.bad ff5 c0 q3 q4⟩
            simp -dsimp -implicitDefEqProofs (disch := omega) only [bnd_u, gd_t, if_true, if_false, ↓reduceIte, eq_self, true_or, or_true, false_or, or_false, not_true_eq_false, not_false_eq_true, and_true, true_and, and_false, false_and, reduceCtorEq, nI_ge, nI_le, nI_lt, nI_nlt, nI_ne, nI_te, nm_eq, mn_eq, nm_le, mn_le, nm_lt, mn_lt, pk_mul, nI_add, pk_sub, nI_clamp, eX5_takeWork, eX5_takeWork_81, hRd, hrm, e1, a8, e2, b8, e3, d8, e4, e5]
          · have hC5 := ((((hC.c f1 (by decide)).c f2 (by decide)).c f3 (by decide)).c f4 (by decide)).c f5 (by decide)
            rw [k8] at q8
            obtain ⟨g6, e6, f6, s6, x6, o6⟩ := R_add (x := xs4 (nI v1) (nI v2) (nI v3) (nI v4)) rw24 hC5.1.2.2.2.2.2.1 h5
            have e6' : FX6_add 24 (nI v1) (nI v2) (nI v3) (nI v4) (mk g5) = some (nI (z 56 + 1), mk g6) := e6
            have h78 := hZ.2.2.2.2.2.1
            have hm : max (z 78) (v1 + 1) ≤ 10 := Nat.max_le.mpr ⟨by omega, by omega⟩
            refine ⟨1, g6, ?_, ff5.tr (Fk.r f6 (by decide) (by decide)), Or.inr ⟨rfl, rfl, pn5, ?_, ?_, ?_, Cl_W hC5 hZ h5 hm f6 s6 x6 o6⟩⟩
            · simp -dsimp -implicitDefEqProofs (disch := omega) only [bnd_u, gd_t, if_true, if_false, ↓reduceIte, eq_self, true_or, or_true, false_or, or_false, not_true_eq_false, not_false_eq_true, and_true, true_and, and_false, false_and, reduceCtorEq, nI_ge, nI_le, nI_lt, nI_nlt, nI_ne, nI_te, nm_eq, mn_eq, nm_le, mn_le, nm_lt, mn_lt, pk_mul, nI_add, pk_sub, nI_clamp, eX5_takeWork, hRd, hrm, e1, a8, e2, b8, e3, d8, e4, e5, q8, e6']
            · show p < p5
              omega
            · rw [f6 18 (by decide), q3, k3, d3, b3, a3]
            · rw [f6 18 (by decide), q7]
