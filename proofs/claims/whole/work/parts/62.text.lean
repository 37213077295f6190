/-! text: both -/
theorem Gd_of {z : Nat → Nat} (hZ : Zd z) (h : z 78 ≤ z 74) : Gd z (z 74) := by
  obtain ⟨⟨h1, h2, h3, h4, h5, h6, h7, h8, h9, h10, h11⟩, k1, k2, -⟩ := hZ
  obtain ⟨p1, p2, p3⟩ := (k2 (z 74)).mp h
  refine ⟨k1, h2, fun k hk => h3 k (by omega), h4, h5, p1, h7, fun i hi => ?_, h9, fun t ht => ?_, h11⟩
  · have := h8 i hi
    exact ⟨p2 i hi, this.2⟩
  · have := h10 t ht
    exact ⟨this.1, (p3 t ht).1, (p3 t ht).2, this.2.2.2⟩
def txl : List Nat := [0, 16, 18, 20, 21, 22, 23, 24, 25, 26, 27, 28, 29, 78, 81]
theorem Iv.txF {g g' : Gg} {q : Nat → Nat} {K : Nat} {x : Int32} (h : Iv g q K) (hs : Fr txl g g') (k2 : g' 78 2 = g 78 2) (k24 : g' 78 24 = g 78 24) (k31 : g' 78 31 = g 78 31) (k10 : g' 78 10 = nI 0) (k16 : g' 16 3 = nI 0) (k11 : g' 78 11 = x) (k12 : g' 0 12 = x) (k13 : g' 0 13 = g 0 13) : Iv g' q K := by
  obtain ⟨n, z, hsn⟩ := h.sn
  obtain ⟨m, b, htp⟩ := h.tp
  refine ⟨h.G, h.F.f hs (by decide), h.R.f hs (by decide), ⟨k2.trans h.M.1, ?_⟩, h.kp.f hs (by decide), h.im.f hs (by decide), ⟨n, z, ?_⟩, ⟨0, b, by decide, k16, k10, fun j hj => absurd hj (Nat.not_lt_zero j)⟩, ⟨by rw [k11, k12], by rw [k13, k31]; exact h.ft.2⟩, h.sh.f hs (by decide), h.pn.f hs (by decide), h.cs.f hs (by decide)⟩
  · rw [hs 79 (by decide)]; exact h.M.2
  · unfold Sn
    rw [hs 14 (by decide), hs 15 (by decide), hs 88 (by decide), k24]
    exact hsn
theorem sim_text : Sim (FX8_text 0) (FX9_text 78) := by
  intro g q K hI
  obtain ⟨n, b, hn, t16, t10, tb⟩ := hI.tp
  obtain ⟨ns, zs, s1, s14, s24, -⟩ := hI.sn
  have hT : Ta g n b := ⟨hn, t16, fun j hj => ⟨(tb j hj).1, (tb j hj).2.1⟩⟩
  have hTb : Tb g n b := ⟨hn, t10, fun j hj => ⟨(tb j hj).1, (tb j hj).2.2⟩⟩
  obtain ⟨g1, R, ht, e1, f1, P⟩ := c_tape hT
  have c6 := txt_c _ _ _ _ R ht
  have a16 : g1 16 3 = nI n := by rw [f1 16 (by decide), t16]
  have ec := R_cut (m := 0) rw16 a16 hn (Nat.zero_le n)
  obtain ⟨u1, eu1⟩ : ∃ u, u = up g1 16 3 (nI 0) := ⟨_, rfl⟩
  rw [← eu1] at ec
  have fu1 : Fr [16] g1 u1 := by rw [eu1]; exact Fr.c (by decide)
  have u18 := fu1 18 (by decide)
  have u163 : u1 16 3 = nI 0 := by rw [eu1, up_c, pk_us]
  -- with a FAULT
  have bad : ∀ c s, g1 18 3 = nI c → g1 18 4 = nI s → c ≠ 0 → c ≤ 6 → ((R.1 = (c, s) ∧ c ≠ 0) ∨ (R.1.1 = 0 ∧ R.1.2 = n ∧ ¬ R.2.2 78 ≤ R.2.2 74 ∧ c = 6 ∧ s = n)) → ∃ r g1 g2 p L, FX8_text 0 (mk g) = some (r, mk g1) ∧ FX9_text 78 (mk g1) = some (r, mk g2) ∧ Iv g2 p L := by
    intro c s b3 b4 c0 cl hc
    obtain ⟨u2, eu2⟩ : ∃ u, u = up u1 0 12 (nI c) := ⟨_, rfl⟩
    have fu2 : Fr [0] u1 u2 := by rw [eu2]; exact Fr.c (by decide)
    have u0 : u2 0 12 = nI c := by rw [eu2, up_c, pk_us]
    have u013 : u2 0 13 = g 0 13 := by rw [eu2, up_c, pk_un (by decide), fu1 0 (by decide), f1 0 (by decide)]
    have w3 : u1 18 3 = nI c := by rw [u18, b3]
    have w4 : u2 18 4 = nI s := by rw [fu2 18 (by decide), u18, b4]
    have ft : ∀ d, d ∉ txl → u2 d = g d := fun d hd => by
      have hd2 : d ∉ cl18 := fun h => hd (by revert h; unfold txl cl18; simp <;> omega)
      rw [fu2 d (fun h => hd (by revert h; unfold txl; simp <;> omega)), fu1 d (fun h => hd (by revert h; unfold txl; simp <;> omega)), f1 d hd2]
    have k78 : u2 78 = g 78 := by rw [fu2 78 (by decide), fu1 78 (by decide), f1 78 (by decide)]
    have hTb2 : Tb u2 n b := hTb.f (by rw [k78]) (by rw [ft 82 (by decide)])
    have hS2 : Cs u2 := by
      unfold Cs
      rw [ft 83 (by decide), ft 84 (by decide)]; exact hI.cs
    obtain ⟨g2, e2, f2⟩ := m_textF hTb2 hS2 ht hc
    refine ⟨mi 10 - nI s, u2, up (up g2 78 10 (nI 0)) 78 11 (nI c), q, K, ?_, e2, hI.txF (x := nI c) ?_ ?_ ?_ ?_ ?_ ?_ ?_ ?_ ?_⟩
    · simp -dsimp -implicitDefEqProofs (disch := omega) only [bnd_u, gd_t, if_true, if_false, ↓reduceIte, eq_self, true_or, or_true, false_or, or_false, not_true_eq_false, not_false_eq_true, and_true, true_and, and_false, false_and, reduceCtorEq, nI_ge, nI_le, nI_lt, nI_nlt, nI_ne, nI_te, nm_eq, mn_eq, nm_le, mn_le, nm_lt, mn_lt, pk_mul, nI_add, pk_sub, nI_clamp, eX8_text, hTop, hRd, hTS, e1, ec, w3, ← eu2, u0, w4]
    · intro d hd
      have hd2 : d ≠ 78 := fun e => hd (by rw [e]; decide)
      have hd3 : d ≠ 81 := fun e => hd (by rw [e]; decide)
      rw [up_n hd2, up_n hd2, f2.1 d hd2 hd3, ft d hd]
    · rw [up_c, pk_un (by decide), up_c, pk_un (by decide), f2.2 2 (by decide), k78]
    · rw [up_c, pk_un (by decide), up_c, pk_un (by decide), f2.2 24 (by decide), k78]
    · rw [up_c, pk_un (by decide), up_c, pk_un (by decide), f2.2 31 (by decide), k78]
    · rw [up_c, pk_un (by decide), up_c, pk_us]
    · rw [up_n (by decide), up_n (by decide), f2.1 16 (by decide) (by decide), fu2 16 (by decide), u163]
    · rw [up_c, pk_us]
    · rw [up_n (by decide), up_n (by decide), f2.1 0 (by decide) (by decide), u0]
    · rw [up_n (by decide), up_n (by decide), f2.1 0 (by decide) (by decide), u013]
  rcases P with ⟨c0, b3, b4⟩ | ⟨c0, cn, hZ, ⟨hh, b3, b4⟩ | ⟨hh, b3, b2, hC⟩⟩
  · exact bad R.1.1 R.1.2 b3 b4 c0 c6 (Or.inl ⟨rfl, c0⟩)
  · exact bad 6 n b3 b4 (by decide) (by decide) (Or.inr ⟨c0, cn, hh, rfl, rfl⟩)
  · obtain ⟨u2, eu2⟩ : ∃ u, u = up u1 0 12 (nI 0) := ⟨_, rfl⟩
    have fu2 : Fr [0] u1 u2 := by rw [eu2]; exact Fr.c (by decide)
    have u0 : u2 0 12 = nI 0 := by rw [eu2, up_c, pk_us]
    have u013 : u2 0 13 = g 0 13 := by rw [eu2, up_c, pk_un (by decide), fu1 0 (by decide), f1 0 (by decide)]
    have w3 : u1 18 3 = nI 0 := by rw [u18, b3]
    have ff12 : Fr [0, 16] g1 u2 := fu1.tr fu2 (by simp <;> omega)
    have hG := Gd_of hZ hh
    have hF2 : Fm (u2 20) (u2 21) (u2 22) (u2 23) (u2 24) (u2 25) (u2 26) (u2 27) (u2 28) R.2.2 (R.2.2 74) := by
      rw [ff12 20 (by decide), ff12 21 (by decide), ff12 22 (by decide), ff12 23 (by decide), ff12 24 (by decide), ff12 25 (by decide), ff12 26 (by decide), ff12 27 (by decide), ff12 28 (by decide)]
      exact hC.1
    obtain ⟨g3, e3, f3, FF, RR⟩ := cp_1_19 hF2 hG
    have g314 : g3 14 3 = nI ns := by rw [f3 14 (by decide), ff12 14 (by decide), f1 14 (by decide), s14]
    have ec2 := R_cut (m := 0) rw14 g314 s1 (Nat.zero_le ns)
    obtain ⟨u4, eu4⟩ : ∃ u, u = up g3 14 3 (nI 0) := ⟨_, rfl⟩
    rw [← eu4] at ec2
    have fu4 : Fr [14] g3 u4 := by rw [eu4]; exact Fr.c (by decide)
    obtain ⟨u5, eu5⟩ : ∃ u, u = up (up u4 13 0 (nI 0)) 13 1 (nI 0) := ⟨_, rfl⟩
    have fu5 : Fr [13] u4 u5 := by rw [eu5]; exact (Fr.c (l := [13]) (by decide)).tr (Fr.c (l := [13]) (by decide)) (fun c hc => ⟨hc, hc⟩)
    have f5 : Fr [2, 3, 4, 5, 6, 7, 8, 9, 10, 11, 13, 14] u2 u5 := (f3.tr fu4 (l := [2, 3, 4, 5, 6, 7, 8, 9, 10, 11, 14]) (by simp <;> omega)).tr fu5 (by simp <;> omega)
    have x2 : u5 18 2 = nI R.2.1 := by rw [f5 18 (by decide), ff12 18 (by decide), b2]
    have e70 : FX8_text_70 fu 0 (nI 0) (mk u4) = some (nI R.2.1, mk u5) := by
      have s0 : ∀ m, FX8_text_70 (m + 1) 0 (nI 0) (mk u4) = FX8_text_70 m 0 (nI 1) (mk (up u4 13 0 (nI 0))) := fun m => by
        simp -dsimp -implicitDefEqProofs (disch := omega) only [bnd_u, gd_t, if_true, if_false, ↓reduceIte, eq_self, true_or, or_true, false_or, or_false, not_true_eq_false, not_false_eq_true, and_true, true_and, and_false, false_and, reduceCtorEq, nI_ge, nI_le, nI_lt, nI_nlt, nI_ne, nI_te, nm_eq, mn_eq, nm_le, mn_le, nm_lt, mn_lt, pk_mul, nI_add, pk_sub, nI_clamp, eX8_text_70, hTop]
      have s1 : ∀ m, FX8_text_70 (m + 1) 0 (nI 1) (mk (up u4 13 0 (nI 0))) = FX8_text_70 m 0 (nI 2) (mk u5) := fun m => by
        rw [eu5]
        simp -dsimp -implicitDefEqProofs (disch := omega) only [bnd_u, gd_t, if_true, if_false, ↓reduceIte, eq_self, true_or, or_true, false_or, or_false, not_true_eq_false, not_false_eq_true, and_true, true_and, and_false, false_and, reduceCtorEq, nI_ge, nI_le, nI_lt, nI_nlt, nI_ne, nI_te, nm_eq, mn_eq, nm_le, mn_le, nm_lt, mn_lt, pk_mul, nI_add, pk_sub, nI_clamp, eX8_text_70, hTop]
      have s2 : ∀ m, FX8_text_70 (m + 1) 0 (nI 2) (mk u5) = some (nI R.2.1, mk u5) := fun m => by
        simp -dsimp -implicitDefEqProofs (disch := omega) only [bnd_u, gd_t, if_true, if_false, ↓reduceIte, eq_self, true_or, or_true, false_or, or_false, not_true_eq_false, not_false_eq_true, and_true, true_and, and_false, false_and, reduceCtorEq, nI_ge, nI_le, nI_lt, nI_nlt, nI_ne, nI_te, nm_eq, mn_eq, nm_le, mn_le, nm_lt, mn_lt, pk_mul, nI_add, pk_sub, nI_clamp, eX8_text_70, hTop, hRd, x2]
      rw [show fu = 4093 + 1 + 1 + 1 from rfl, s0, s1, s2]
    have ft : ∀ d, d ∉ [0, 2, 3, 4, 5, 6, 7, 8, 9, 10, 11, 13, 14, 16, 18, 20, 21, 22, 23, 24, 25, 26, 27, 28, 29] → u5 d = g d := fun d hd => by
      have hd2 : d ∉ cl18 := fun h => hd (by revert h; unfold cl18; simp <;> omega)
      rw [f5 d (fun h => hd (by revert h; simp <;> omega)), ff12 d (fun h => hd (by revert h; simp <;> omega)), f1 d hd2]
    have hTb2 : Tb u5 n b := hTb.f (by rw [ft 78 (by decide)]) (by rw [ft 82 (by decide)])
    have hS2 : Cs u5 := by
      unfold Cs
      rw [ft 83 (by decide), ft 84 (by decide)]; exact hI.cs
    obtain ⟨g6, e6, d6, o6, k2, k10, k11, k24, k79, k90, k91⟩ := m_textO hTb2 hS2 ht c0 hh
    have fz : ∀ d, d ∉ [0, 2, 3, 4, 5, 6, 7, 8, 9, 10, 11, 13, 14, 16, 18, 20, 21, 22, 23, 24, 25, 26, 27, 28, 29, 78, 79, 81, 90] → g6 d = g d := fun d hd => by
      rw [d6 d (fun e => hd (by rw [e]; decide)) (fun e => hd (by rw [e]; decide)) (fun e => hd (by rw [e]; decide)) (fun e => hd (by rw [e]; decide)), ft d (fun h => hd (by revert h; simp <;> omega))]
    have fz' : Fr [0, 2, 3, 4, 5, 6, 7, 8, 9, 10, 11, 13, 14, 16, 18, 20, 21, 22, 23, 24, 25, 26, 27, 28, 29, 78, 79, 81, 90] g g6 := fz
    have fam : ∀ d, 2 ≤ d → d ≤ 11 → g6 d = g3 d := fun d h1 h2 => by
      rw [d6 d (by omega) (by omega) (by omega) (by omega), fu5 d (by simp; omega), fu4 d (by simp; omega)]
    have c0' : g6 0 = u2 0 := by rw [d6 0 (by decide) (by decide) (by decide) (by decide), f5 0 (by decide)]
    have k78 : u5 78 = g 78 := ft 78 (by decide)
    refine ⟨nI R.2.1, u5, g6, R.2.2, R.2.2 74, ?_, e6, hG, ?_, fun h hh => ?_, ⟨k2, fun i hi => ?_⟩, hI.kp.f fz' (by decide), ⟨Or.inl ⟨?_, k90⟩, Or.inl ⟨?_, k91⟩⟩, ⟨0, zs, by decide, ?_, k24, fun j hj => absurd hj (Nat.not_lt_zero j)⟩, ⟨0, b, by decide, ?_, k10, fun j hj => absurd hj (Nat.not_lt_zero j)⟩, ⟨?_, ?_⟩, hI.sh.f fz' (by decide), hI.pn.f fz' (by decide), hI.cs.f fz' (by decide)⟩
    · simp -dsimp -implicitDefEqProofs (disch := omega) only [bnd_u, gd_t, if_true, if_false, ↓reduceIte, eq_self, true_or, or_true, false_or, or_false, not_true_eq_false, not_false_eq_true, and_true, true_and, and_false, false_and, reduceCtorEq, nI_ge, nI_le, nI_lt, nI_nlt, nI_ne, nI_te, nm_eq, mn_eq, nm_le, mn_le, nm_lt, mn_lt, pk_mul, nI_add, pk_sub, nI_clamp, eX8_text, hTop, hRd, hTS, e1, ec, w3, ← eu2, u0, hFam, e3, ec2, e70]
    · unfold F1
      rw [fam 2 (by decide) (by decide), fam 3 (by decide) (by decide), fam 4 (by decide) (by decide), fam 5 (by decide) (by decide), fam 6 (by decide) (by decide), fam 7 (by decide) (by decide), fam 8 (by decide) (by decide), fam 9 (by decide) (by decide), fam 10 (by decide) (by decide)]
      exact FF
    · rw [fam 11 (by decide) (by decide), RR h hh, ff12 29 (by decide)]
      exact hC.2.1 h hh
    · rw [Nat.zero_add]; exact k79 i hi
    · rw [d6 13 (by decide) (by decide) (by decide) (by decide), eu5, up_c, pk_un (by decide), up_c, pk_us]
    · rw [d6 13 (by decide) (by decide) (by decide) (by decide), eu5, up_c, pk_us]
    · rw [d6 14 (by decide) (by decide) (by decide) (by decide), fu5 14 (by decide), eu4, up_c, pk_us]
    · rw [d6 16 (by decide) (by decide) (by decide) (by decide), f5 16 (by decide), fu2 16 (by decide), u163]
    · rw [c0', u0, k11]
    · rw [c0', u013, o6 31 (by decide), k78]; exact hI.ft.2
