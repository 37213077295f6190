/-! feed, end, see, forget -/
/-- tape, what is seen, faults may be others: cell 78 but for the fields that l names -/
theorem Iv.c78 {l : List Nat} {g g' : Gg} {q : Nat → Nat} {K : Nat} (h : Iv g q K) (hf : Fr l g g') (hl : ∀ c ∈ [2, 3, 4, 5, 6, 7, 8, 9, 10, 11, 13, 38, 41, 42, 43, 44, 45, 48, 49, 50, 51, 52, 53, 54, 55, 56, 57, 58, 59, 60, 61, 62, 63, 64, 65, 66, 67, 68, 69, 70, 71, 72, 73, 74, 75, 76, 77, 79, 80, 83, 84, 90, 91, 92, 93], c ∉ l) (h2 : g' 78 2 = g 78 2) (hs : ∃ n z, Sn g' K n z) (ht : ∃ n b, Tp g' n b) (hF : Ft g') : Iv g' q K := by
  refine ⟨h.G, h.F.f hf (fun c hc => hl c (by revert c; decide)), h.R.f hf (hl 11 (by decide)), ⟨by rw [h2]; exact h.M.1, ?_⟩, h.kp.f hf (hl 80 (by decide)), h.im.f hf (fun c hc => hl c (by revert c; decide)), hs, ht, hF, h.sh.f hf (fun c hc => hl c (by revert c; decide)), h.pn.f hf (fun c hc => hl c (by revert c; decide)), h.cs.f hf (fun c hc => hl c (by revert c; decide))⟩
  rw [hf 79 (hl 79 (by decide))]; exact h.M.2
theorem Sn.i {g g' : Gg} {K n : Nat} {z : Nat → Nat} (h : Sn g K n z) (h14 : g' 14 = g 14) (h15 : g' 15 = g 15) (h78 : g' 78 24 = g 78 24) (h88 : g' 88 = g 88) : Sn g' K n z := by
  unfold Sn
  rw [h14, h15, h78, h88]; exact h
theorem Tp.i {g g' : Gg} {n : Nat} {b : Nat → Nat} (h : Tp g n b) (h16 : g' 16 = g 16) (h17 : g' 17 = g 17) (h78 : g' 78 10 = g 78 10) (h82 : g' 82 = g 82) : Tp g' n b := by
  unfold Tp
  rw [h16, h17, h78, h82]; exact h
theorem Ft.i {g g' : Gg} (h : Ft g) (h0 : g' 0 = g 0) (h1 : g' 78 11 = g 78 11) (h2 : g' 78 31 = g 78 31) : Ft g' := by
  unfold Ft
  rw [h0, h1, h2]; exact h
theorem sim_feed (x : Int32) : Sim (FX8_feed 0 x) (FX9_feed 78 x) := by
  intro g q K hI
  obtain ⟨m, z, hsn⟩ := hI.sn
  obtain ⟨n, b, htp⟩ := hI.tp
  rcases in_of x (n := 128) (by omega) with hx | ⟨c, hc, rfl⟩
  · refine ⟨mi 1, g, g, q, K, ?_, ?_, hI⟩
    · rcases hx with h | ⟨h, h2⟩
      · simp -dsimp -implicitDefEqProofs (disch := omega) only [bnd_u, gd_t, if_true, if_false, ↓reduceIte, eq_self, true_or, or_true, false_or, or_false, not_true_eq_false, not_false_eq_true, and_true, true_and, and_false, false_and, reduceCtorEq, nI_ge, nI_le, nI_lt, nI_nlt, nI_ne, nI_te, nm_eq, mn_eq, nm_le, mn_le, nm_lt, mn_lt, pk_mul, nI_add, pk_sub, nI_clamp, eX8_feed, eX8_feed_10, h]
      · have h3 : ¬ x ≤ nI 127 := (fa_of_lt (lt_of_le10 h2 (show 127 < 128 by omega) (by omega))).2.1
        simp -dsimp -implicitDefEqProofs (disch := omega) only [bnd_u, gd_t, if_true, if_false, ↓reduceIte, eq_self, true_or, or_true, false_or, or_false, not_true_eq_false, not_false_eq_true, and_true, true_and, and_false, false_and, reduceCtorEq, nI_ge, nI_le, nI_lt, nI_nlt, nI_ne, nI_te, nm_eq, mn_eq, nm_le, mn_le, nm_lt, mn_lt, pk_mul, nI_add, pk_sub, nI_clamp, eX8_feed, eX8_feed_10, h, h3]
    · have hin := m_0nN (M := mk g) (n := 128) (by omega) (by omega) hx
      simp -dsimp -implicitDefEqProofs (disch := omega) only [bnd_u, gd_t, if_true, if_false, ↓reduceIte, eq_self, true_or, or_true, false_or, or_false, not_true_eq_false, not_false_eq_true, and_true, true_and, and_false, false_and, reduceCtorEq, nI_ge, nI_le, nI_lt, nI_nlt, nI_ne, nI_te, nm_eq, mn_eq, nm_le, mn_le, nm_lt, mn_lt, pk_mul, nI_add, pk_sub, nI_clamp, eX9_feed, hin]
  · have hn := htp.1
    by_cases hn160 : n = 160
    · subst hn160
      refine ⟨mi 3, g, g, q, K, ?_, ?_, hI⟩
      · simp -dsimp -implicitDefEqProofs (disch := omega) only [bnd_u, gd_t, if_true, if_false, ↓reduceIte, eq_self, true_or, or_true, false_or, or_false, not_true_eq_false, not_false_eq_true, and_true, true_and, and_false, false_and, reduceCtorEq, nI_ge, nI_le, nI_lt, nI_nlt, nI_ne, nI_te, nm_eq, mn_eq, nm_le, mn_le, nm_lt, mn_lt, pk_mul, nI_add, pk_sub, nI_clamp, eX8_feed, hTop, hTS, R_full rw16 htp.2.1]
      · have hin := m_0n (M := mk g) hc (by omega)
        simp -dsimp -implicitDefEqProofs (disch := omega) only [bnd_u, gd_t, if_true, if_false, ↓reduceIte, eq_self, true_or, or_true, false_or, or_false, not_true_eq_false, not_false_eq_true, and_true, true_and, and_false, false_and, reduceCtorEq, nI_ge, nI_le, nI_lt, nI_nlt, nI_ne, nI_te, nm_eq, mn_eq, nm_le, mn_le, nm_lt, mn_lt, pk_mul, nI_add, pk_sub, nI_clamp, eX9_feed, hin, hMo, htp.2.2.1]
    · have hn1 : n < 160 := by omega
      obtain ⟨g1, e1, f1, a1, b1, c1⟩ := R_add (x := xs4 (nI c) (nI 0) (nI 0) (nI 0)) rw16 htp.2.1 hn1
      have e1' : FX6_add 16 (nI c) (nI 0) (nI 0) (nI 0) (mk g) = some (nI (n + 1), mk g1) := e1
      have t1 : g1 78 10 = nI n := by rw [f1 78 (by decide)]; exact htp.2.2.1
      have f2 : Fr [16, 17, 78, 82] g (up (up g1 82 n (nI c)) 78 10 (nI (n + 1))) := (f1.tr (Fr.c (l := [16, 17, 78, 82]) (c := 82) (r := upd (g1 82) n (nI c)) (by decide)) (by simp <;> omega)).tr (Fr.c (l := [16, 17, 78, 82]) (by decide)) (fun c hc => ⟨hc, hc⟩)
      have k78 : ∀ i, i ≠ 10 → up (up g1 82 n (nI c)) 78 10 (nI (n + 1)) 78 i = g 78 i := fun i hi => by
        rw [up_c, pk_un hi, up_n (by decide), f1 78 (by decide)]
      refine ⟨nI (n + 1), g1, up (up g1 82 n (nI c)) 78 10 (nI (n + 1)), q, K, ?_, ?_, hI.c78 f2 (by decide) (k78 2 (by decide)) ⟨m, z, hsn.i (f2 14 (by decide)) (f2 15 (by decide)) (k78 24 (by decide)) (f2 88 (by decide))⟩ ⟨n + 1, pt b n c, by omega, ?_, ?_, ?_⟩ (hI.ft.i (f2 0 (by decide)) (k78 11 (by decide)) (k78 31 (by decide)))⟩
      · simp -dsimp -implicitDefEqProofs (disch := omega) only [bnd_u, gd_t, if_true, if_false, ↓reduceIte, eq_self, true_or, or_true, false_or, or_false, not_true_eq_false, not_false_eq_true, and_true, true_and, and_false, false_and, reduceCtorEq, nI_ge, nI_le, nI_lt, nI_nlt, nI_ne, nI_te, nm_eq, mn_eq, nm_le, mn_le, nm_lt, mn_lt, pk_mul, nI_add, pk_sub, nI_clamp, eX8_feed, hTop, hTS, e1']
      · have hin := m_0n (M := mk g1) hc (by omega)
        have t2 : up g1 82 n (nI c) 78 10 = nI n := by rw [up_n (by decide)]; exact t1
        have t3 : up (up g1 82 n (nI c)) 78 10 (nI (n + 1)) 78 10 = nI (n + 1) := by rw [up_c, pk_us]
        simp -dsimp -implicitDefEqProofs (disch := omega) only [bnd_u, gd_t, if_true, if_false, ↓reduceIte, eq_self, true_or, or_true, false_or, or_false, not_true_eq_false, not_false_eq_true, and_true, true_and, and_false, false_and, reduceCtorEq, nI_ge, nI_le, nI_lt, nI_nlt, nI_ne, nI_te, nm_eq, mn_eq, nm_le, mn_le, nm_lt, mn_lt, pk_mul, nI_add, pk_sub, nI_clamp, eX9_feed, hin, hMo, t1, t2, t3]
      · rw [up_n (by decide), up_n (by decide)]; exact a1
      · rw [up_c, pk_us]
      · intro j hj
        rw [up_n (by decide), up_n (by decide), up_n (by decide), up_c]
        by_cases e : j = n
        · subst e
          rw [pt_s, pk_us]
          exact ⟨hc, b1 0 (by omega), rfl⟩
        · have ht := htp.2.2.2 j (by omega)
          rw [pt_n e, pk_un e, c1 _ (by omega), f1 82 (by decide)]
          exact ht
theorem sim_end (x : Int32) : Sim (FX8_end 0 x) (FX9_end 78 x) := by
  intro g q K hI
  obtain ⟨m, z, hsn⟩ := hI.sn
  obtain ⟨n, b, htp⟩ := hI.tp
  have hn := htp.1
  rcases in_of x (n := n + 1) (by omega) with hx | ⟨c, hc, rfl⟩
  · refine ⟨mi 1, g, g, q, K, ?_, ?_, hI⟩
    · simp -dsimp -implicitDefEqProofs (disch := omega) only [bnd_u, gd_t, if_true, if_false, ↓reduceIte, eq_self, true_or, or_true, false_or, or_false, not_true_eq_false, not_false_eq_true, and_true, true_and, and_false, false_and, reduceCtorEq, nI_ge, nI_le, nI_lt, nI_nlt, nI_ne, nI_te, nm_eq, mn_eq, nm_le, mn_le, nm_lt, mn_lt, pk_mul, nI_add, pk_sub, nI_clamp, eX8_end, hTop, hTS, R_cutN rw16 htp.2.1 hn hx]
    · have hin := m_0nN (M := mk g) (n := n + 1) (by omega) (by omega) hx
      rw [Nat.add_sub_cancel] at hin
      simp -dsimp -implicitDefEqProofs (disch := omega) only [bnd_u, gd_t, if_true, if_false, ↓reduceIte, eq_self, true_or, or_true, false_or, or_false, not_true_eq_false, not_false_eq_true, and_true, true_and, and_false, false_and, reduceCtorEq, nI_ge, nI_le, nI_lt, nI_nlt, nI_ne, nI_te, nm_eq, mn_eq, nm_le, mn_le, nm_lt, mn_lt, pk_mul, nI_add, pk_sub, nI_clamp, eX9_end, hMo, htp.2.2.1, nI_l, hin]
  · have f2 : Fr [16, 78] g (up (up g 16 3 (nI c)) 78 10 (nI c)) := (Fr.c (l := [16, 78]) (by decide)).tr (Fr.c (l := [16, 78]) (by decide)) (fun c hc => ⟨hc, hc⟩)
    have k78 : ∀ i, i ≠ 10 → up (up g 16 3 (nI c)) 78 10 (nI c) 78 i = g 78 i := fun i hi => by
      rw [up_c, pk_un hi, up_n (by decide)]
    refine ⟨nI n, up g 16 3 (nI c), up (up g 16 3 (nI c)) 78 10 (nI c), q, K, ?_, ?_, hI.c78 f2 (by decide) (k78 2 (by decide)) ⟨m, z, hsn.i (f2 14 (by decide)) (f2 15 (by decide)) (k78 24 (by decide)) (f2 88 (by decide))⟩ ⟨c, b, by omega, ?_, ?_, ?_⟩ (hI.ft.i (f2 0 (by decide)) (k78 11 (by decide)) (k78 31 (by decide)))⟩
    · simp -dsimp -implicitDefEqProofs (disch := omega) only [bnd_u, gd_t, if_true, if_false, ↓reduceIte, eq_self, true_or, or_true, false_or, or_false, not_true_eq_false, not_false_eq_true, and_true, true_and, and_false, false_and, reduceCtorEq, nI_ge, nI_le, nI_lt, nI_nlt, nI_ne, nI_te, nm_eq, mn_eq, nm_le, mn_le, nm_lt, mn_lt, pk_mul, nI_add, pk_sub, nI_clamp, eX8_end, hTop, hTS, R_cut rw16 htp.2.1 hn (show c ≤ n by omega)]
    · have t2 : up g 16 3 (nI c) 78 10 = nI n := by rw [up_n (by decide)]; exact htp.2.2.1
      simp -dsimp -implicitDefEqProofs (disch := omega) only [bnd_u, gd_t, if_true, if_false, ↓reduceIte, eq_self, true_or, or_true, false_or, or_false, not_true_eq_false, not_false_eq_true, and_true, true_and, and_false, false_and, reduceCtorEq, nI_ge, nI_le, nI_lt, nI_nlt, nI_ne, nI_te, nm_eq, mn_eq, nm_le, mn_le, nm_lt, mn_lt, pk_mul, nI_add, pk_sub, nI_clamp, eX9_end, hMo, t2, nI_l, m_in]
    · rw [up_n (by decide), up_c, pk_us]
    · rw [up_c, pk_us]
    · intro j hj
      rw [up_n (by decide), up_n (by decide), up_n (by decide), up_n (by decide)]
      exact htp.2.2.2 j (by omega)
theorem sim_forget (x : Int32) : Sim (FX8_forget 0 x) (FX9_forget 78 x) := by
  intro g q K hI
  obtain ⟨m, b, htp⟩ := hI.tp
  obtain ⟨n, z, hsn⟩ := hI.sn
  have hn := hsn.1
  rcases in_of x (n := n + 1) (by omega) with hx | ⟨c, hc, rfl⟩
  · refine ⟨mi 1, g, g, q, K, ?_, ?_, hI⟩
    · simp -dsimp -implicitDefEqProofs (disch := omega) only [bnd_u, gd_t, if_true, if_false, ↓reduceIte, eq_self, true_or, or_true, false_or, or_false, not_true_eq_false, not_false_eq_true, and_true, true_and, and_false, false_and, reduceCtorEq, nI_ge, nI_le, nI_lt, nI_nlt, nI_ne, nI_te, nm_eq, mn_eq, nm_le, mn_le, nm_lt, mn_lt, pk_mul, nI_add, pk_sub, nI_clamp, eX8_forget, hTop, hTS, R_cutN rw14 hsn.2.1 hn hx]
    · have hin := m_0nN (M := mk g) (n := n + 1) (by omega) (by omega) hx
      rw [Nat.add_sub_cancel] at hin
      simp -dsimp -implicitDefEqProofs (disch := omega) only [bnd_u, gd_t, if_true, if_false, ↓reduceIte, eq_self, true_or, or_true, false_or, or_false, not_true_eq_false, not_false_eq_true, and_true, true_and, and_false, false_and, reduceCtorEq, nI_ge, nI_le, nI_lt, nI_nlt, nI_ne, nI_te, nm_eq, mn_eq, nm_le, mn_le, nm_lt, mn_lt, pk_mul, nI_add, pk_sub, nI_clamp, eX9_forget, hMo, hsn.2.2.1, nI_l, hin]
  · have f2 : Fr [14, 78] g (up (up g 14 3 (nI c)) 78 24 (nI c)) := (Fr.c (l := [14, 78]) (by decide)).tr (Fr.c (l := [14, 78]) (by decide)) (fun c hc => ⟨hc, hc⟩)
    have k78 : ∀ i, i ≠ 24 → up (up g 14 3 (nI c)) 78 24 (nI c) 78 i = g 78 i := fun i hi => by
      rw [up_c, pk_un hi, up_n (by decide)]
    refine ⟨nI n, up g 14 3 (nI c), up (up g 14 3 (nI c)) 78 24 (nI c), q, K, ?_, ?_, hI.c78 f2 (by decide) (k78 2 (by decide)) ⟨c, z, by omega, ?_, ?_, ?_⟩ ⟨m, b, htp.i (f2 16 (by decide)) (f2 17 (by decide)) (k78 10 (by decide)) (f2 82 (by decide))⟩ (hI.ft.i (f2 0 (by decide)) (k78 11 (by decide)) (k78 31 (by decide)))⟩
    · simp -dsimp -implicitDefEqProofs (disch := omega) only [bnd_u, gd_t, if_true, if_false, ↓reduceIte, eq_self, true_or, or_true, false_or, or_false, not_true_eq_false, not_false_eq_true, and_true, true_and, and_false, false_and, reduceCtorEq, nI_ge, nI_le, nI_lt, nI_nlt, nI_ne, nI_te, nm_eq, mn_eq, nm_le, mn_le, nm_lt, mn_lt, pk_mul, nI_add, pk_sub, nI_clamp, eX8_forget, hTop, hTS, R_cut rw14 hsn.2.1 hn (show c ≤ n by omega)]
    · have t2 : up g 14 3 (nI c) 78 24 = nI n := by rw [up_n (by decide)]; exact hsn.2.2.1
      simp -dsimp -implicitDefEqProofs (disch := omega) only [bnd_u, gd_t, if_true, if_false, ↓reduceIte, eq_self, true_or, or_true, false_or, or_false, not_true_eq_false, not_false_eq_true, and_true, true_and, and_false, false_and, reduceCtorEq, nI_ge, nI_le, nI_lt, nI_nlt, nI_ne, nI_te, nm_eq, mn_eq, nm_le, mn_le, nm_lt, mn_lt, pk_mul, nI_add, pk_sub, nI_clamp, eX9_forget, hMo, t2, nI_l, m_in]
    · rw [up_n (by decide), up_c, pk_us]
    · rw [up_c, pk_us]
    · intro j hj
      rw [up_n (by decide), up_n (by decide), up_n (by decide), up_n (by decide)]
      exact hsn.2.2.2 j (by omega)
theorem v_of (y : Int32) : (∃ r, r ≤ 10 ∧ y = ho r) ∨ (¬ y = mi 4 ∧ (y < nI 0 ∨ (¬ y < nI 0 ∧ nI 10 ≤ y))) := by
  by_cases h : y = mi 4
  · exact Or.inl ⟨0, by omega, h⟩
  · rcases in_of y (n := 10) (by omega) with hy | ⟨k, hk, rfl⟩
    · exact Or.inr ⟨h, hy⟩
    · exact Or.inl ⟨k + 1, by omega, by rw [ho_s (by omega), Nat.add_sub_cancel]⟩
theorem sim_see (x y z w : Int32) : Sim (FX8_see 0 x y z w) (FX9_see 78 x y z w) := by
  intro g q K hI
  have hK := hI.G.K
  obtain ⟨m, tb, htp⟩ := hI.tp
  obtain ⟨n, zz, hsn⟩ := hI.sn
  have hn := hsn.1
  rcases in_of x (n := K) (by omega) with hx | ⟨k, hk, rfl⟩
  · refine ⟨mi 1, g, g, q, K, ?_, ?_, hI⟩
    · simp -dsimp -implicitDefEqProofs (disch := omega) only [bnd_u, gd_t, if_true, if_false, ↓reduceIte, eq_self, true_or, or_true, false_or, or_false, not_true_eq_false, not_false_eq_true, and_true, true_and, and_false, false_and, reduceCtorEq, nI_ge, nI_le, nI_lt, nI_nlt, nI_ne, nI_te, nm_eq, mn_eq, nm_le, mn_le, nm_lt, mn_lt, pk_mul, nI_add, pk_sub, nI_clamp, eX8_see, eX8_see_40, hTop, hFam, f_oneN hI.F hx]
    · simp -dsimp -implicitDefEqProofs (disch := omega) only [bnd_u, gd_t, if_true, if_false, ↓reduceIte, eq_self, true_or, or_true, false_or, or_false, not_true_eq_false, not_false_eq_true, and_true, true_and, and_false, false_and, reduceCtorEq, nI_ge, nI_le, nI_lt, nI_nlt, nI_ne, nI_te, nm_eq, mn_eq, nm_le, mn_le, nm_lt, mn_lt, pk_mul, nI_add, pk_sub, nI_clamp, eX9_see, eX9_see_42, hMo, m_oneN hI.M hK hx]
  · rcases in_of y (n := 3) (by omega) with hy | ⟨i, hi, rfl⟩
    · refine ⟨mi 1, g, g, q, K, ?_, ?_, hI⟩
      · simp -dsimp -implicitDefEqProofs (disch := omega) only [bnd_u, gd_t, if_true, if_false, ↓reduceIte, eq_self, true_or, or_true, false_or, or_false, not_true_eq_false, not_false_eq_true, and_true, true_and, and_false, false_and, reduceCtorEq, nI_ge, nI_le, nI_lt, nI_nlt, nI_ne, nI_te, nm_eq, mn_eq, nm_le, mn_le, nm_lt, mn_lt, pk_mul, nI_add, pk_sub, nI_clamp, eX8_see, eX8_see_40, hTop, hFam, f_one hI.F hI.G hk, c_thingN hy]
      · simp -dsimp -implicitDefEqProofs (disch := omega) only [bnd_u, gd_t, if_true, if_false, ↓reduceIte, eq_self, true_or, or_true, false_or, or_false, not_true_eq_false, not_false_eq_true, and_true, true_and, and_false, false_and, reduceCtorEq, nI_ge, nI_le, nI_lt, nI_nlt, nI_ne, nI_te, nm_eq, mn_eq, nm_le, mn_le, nm_lt, mn_lt, pk_mul, nI_add, pk_sub, nI_clamp, eX9_see, eX9_see_42, hMo, m_one hI.M hK hk, m_thingN hy]
    · rcases in_of z (n := 10) (by omega) with hz | ⟨h, hh, rfl⟩
      · refine ⟨mi 1, g, g, q, K, ?_, ?_, hI⟩
        · simp -dsimp -implicitDefEqProofs (disch := omega) only [bnd_u, gd_t, if_true, if_false, ↓reduceIte, eq_self, true_or, or_true, false_or, or_false, not_true_eq_false, not_false_eq_true, and_true, true_and, and_false, false_and, reduceCtorEq, nI_ge, nI_le, nI_lt, nI_nlt, nI_ne, nI_te, nm_eq, mn_eq, nm_le, mn_le, nm_lt, mn_lt, pk_mul, nI_add, pk_sub, nI_clamp, eX8_see, eX8_see_40, hTop, hFam, f_one hI.F hI.G hk, c_thing hi, c_hrN hz]
        · simp -dsimp -implicitDefEqProofs (disch := omega) only [bnd_u, gd_t, if_true, if_false, ↓reduceIte, eq_self, true_or, or_true, false_or, or_false, not_true_eq_false, not_false_eq_true, and_true, true_and, and_false, false_and, reduceCtorEq, nI_ge, nI_le, nI_lt, nI_nlt, nI_ne, nI_te, nm_eq, mn_eq, nm_le, mn_le, nm_lt, mn_lt, pk_mul, nI_add, pk_sub, nI_clamp, eX9_see, eX9_see_42, hMo, m_one hI.M hK hk, m_thing hi, m_hourN hz]
      · rcases v_of w with ⟨r, hr, rfl⟩ | ⟨hw1, hw2⟩
        · have c42 : ∀ G : Gg, F1 G q K → FX8_see 0 (nI k) (nI i) (nI h) (ho r) (mk G) = FX8_see_42 0 (nI k) (nI i) (nI h) (ho r) (mk G) := fun G hF => by
            by_cases z0 : r = 0
            · subst z0
              simp -dsimp -implicitDefEqProofs (disch := omega) only [bnd_u, gd_t, if_true, if_false, ↓reduceIte, eq_self, true_or, or_true, false_or, or_false, not_true_eq_false, not_false_eq_true, and_true, true_and, and_false, false_and, reduceCtorEq, nI_ge, nI_le, nI_lt, nI_nlt, nI_ne, nI_te, nm_eq, mn_eq, nm_le, mn_le, nm_lt, mn_lt, pk_mul, nI_add, pk_sub, nI_clamp, eX8_see, hTop, hFam, f_one hF hI.G hk, c_thing hi, c_hr hh, show ho 0 = mi 4 from rfl]
            · simp -dsimp -implicitDefEqProofs (disch := omega) only [bnd_u, gd_t, if_true, if_false, ↓reduceIte, eq_self, true_or, or_true, false_or, or_false, not_true_eq_false, not_false_eq_true, and_true, true_and, and_false, false_and, reduceCtorEq, nI_ge, nI_le, nI_lt, nI_nlt, nI_ne, nI_te, nm_eq, mn_eq, nm_le, mn_le, nm_lt, mn_lt, pk_mul, nI_add, pk_sub, nI_clamp, eX8_see, hTop, hFam, f_one hF hI.G hk, c_thing hi, c_hr hh, ho_s (show 0 < r by omega), c_value (show r - 1 < 10 by omega)]
          have m44 : ∀ G : Gg, Ms G q K → FX9_see 78 (nI k) (nI i) (nI h) (ho r) (mk G) = FX9_see_44 78 (nI k) (nI i) (nI h) (ho r) (mk G) := fun G hM => by
            by_cases z0 : r = 0
            · subst z0
              simp -dsimp -implicitDefEqProofs (disch := omega) only [bnd_u, gd_t, if_true, if_false, ↓reduceIte, eq_self, true_or, or_true, false_or, or_false, not_true_eq_false, not_false_eq_true, and_true, true_and, and_false, false_and, reduceCtorEq, nI_ge, nI_le, nI_lt, nI_nlt, nI_ne, nI_te, nm_eq, mn_eq, nm_le, mn_le, nm_lt, mn_lt, pk_mul, nI_add, pk_sub, nI_clamp, eX9_see, hMo, m_one hM hK hk, m_thing hi, m_hour hh, show ho 0 = mi 4 from rfl]
            · have hin := m_0n (M := mk G) (n := 10) (show r - 1 < 10 by omega) (by omega)
              simp -dsimp -implicitDefEqProofs (disch := omega) only [bnd_u, gd_t, if_true, if_false, ↓reduceIte, eq_self, true_or, or_true, false_or, or_false, not_true_eq_false, not_false_eq_true, and_true, true_and, and_false, false_and, reduceCtorEq, nI_ge, nI_le, nI_lt, nI_nlt, nI_ne, nI_te, nm_eq, mn_eq, nm_le, mn_le, nm_lt, mn_lt, pk_mul, nI_add, pk_sub, nI_clamp, eX9_see, hMo, m_one hM hK hk, m_thing hi, m_hour hh, ho_s (show 0 < r by omega), hin]
          by_cases hn6 : n = 6
          · subst hn6
            refine ⟨mi 3, g, g, q, K, ?_, ?_, hI⟩
            · rw [c42 g hI.F]
              simp -dsimp -implicitDefEqProofs (disch := omega) only [bnd_u, gd_t, if_true, if_false, ↓reduceIte, eq_self, true_or, or_true, false_or, or_false, not_true_eq_false, not_false_eq_true, and_true, true_and, and_false, false_and, reduceCtorEq, nI_ge, nI_le, nI_lt, nI_nlt, nI_ne, nI_te, nm_eq, mn_eq, nm_le, mn_le, nm_lt, mn_lt, pk_mul, nI_add, pk_sub, nI_clamp, eX8_see_42, hTop, hTS, R_full rw14 hsn.2.1]
            · rw [m44 g hI.M]
              simp -dsimp -implicitDefEqProofs (disch := omega) only [bnd_u, gd_t, if_true, if_false, ↓reduceIte, eq_self, true_or, or_true, false_or, or_false, not_true_eq_false, not_false_eq_true, and_true, true_and, and_false, false_and, reduceCtorEq, nI_ge, nI_le, nI_lt, nI_nlt, nI_ne, nI_te, nm_eq, mn_eq, nm_le, mn_le, nm_lt, mn_lt, pk_mul, nI_add, pk_sub, nI_clamp, eX9_see_44, hMo, hsn.2.2.1]
          · have hn1 : n < 6 := by omega
            obtain ⟨g1, e1, f1, a1, b1, c1⟩ := R_add (x := xs4 (nI k) (nI i) (nI h) (ho r)) rw14 hsn.2.1 hn1
            have e1' : FX6_add 14 (nI k) (nI i) (nI h) (ho r) (mk g) = some (nI (n + 1), mk g1) := e1
            obtain ⟨g2, eg2⟩ : ∃ g2, g2 = up (up (up (up (up g1 88 (4 * n) (nI k)) 88 (4 * n + 1) (nI i)) 88 (4 * n + 2) (nI h)) 88 (4 * n + 3) (ho r)) 78 24 (nI (n + 1)) := ⟨_, rfl⟩
            have f2 : Fr [14, 15, 78, 88] g g2 := by
              rw [eg2]
              exact (f1.tr (((((Fr.c (g := g1) (l := [78, 88]) (c := 88) (by decide)).tr (Fr.c (l := [78, 88]) (c := 88) (by decide)) (fun c hc => ⟨hc, hc⟩)).tr (Fr.c (l := [78, 88]) (c := 88) (by decide)) (fun c hc => ⟨hc, hc⟩)).tr (Fr.c (l := [78, 88]) (c := 88) (by decide)) (fun c hc => ⟨hc, hc⟩)).tr (Fr.c (l := [78, 88]) (c := 78) (by decide)) (fun c hc => ⟨hc, hc⟩)) (by simp <;> omega))
            have k78 : ∀ j, j ≠ 24 → g2 78 j = g 78 j := fun j hj => by
              rw [eg2, up_c, pk_un hj, up_n (by decide), up_n (by decide), up_n (by decide), up_n (by decide), f1 78 (by decide)]
            have s24 : g2 78 24 = nI (n + 1) := by rw [eg2, up_c, pk_us]
            have o88 : ∀ j, j < 4 * n → g2 88 j = g 88 j := fun j hj => by
              rw [eg2, up_n (by decide), up_c, pk_un (by omega), up_c, pk_un (by omega), up_c, pk_un (by omega), up_c, pk_un (by omega), f1 88 (by decide)]
            have n0 : g2 88 (4 * n) = nI k := by
              rw [eg2, up_n (by decide), up_c, pk_un (by omega), up_c, pk_un (by omega), up_c, pk_un (by omega), up_c, pk_us]
            have n1 : g2 88 (4 * n + 1) = nI i := by
              rw [eg2, up_n (by decide), up_c, pk_un (by omega), up_c, pk_un (by omega), up_c, pk_us]
            have n2 : g2 88 (4 * n + 2) = nI h := by
              rw [eg2, up_n (by decide), up_c, pk_un (by omega), up_c, pk_us]
            have n3 : g2 88 (4 * n + 3) = ho r := by
              rw [eg2, up_n (by decide), up_c, pk_us]
            have s14 : g2 14 = g1 14 := by rw [eg2, up_n (by decide), up_n (by decide), up_n (by decide), up_n (by decide), up_n (by decide)]
            have s15 : g2 15 = g1 15 := by rw [eg2, up_n (by decide), up_n (by decide), up_n (by decide), up_n (by decide), up_n (by decide)]
            refine ⟨nI (n + 1), g1, g2, q, K, ?_, ?_, hI.c78 f2 (by decide) (k78 2 (by decide)) ⟨n + 1, pt (pt (pt (pt zz (4 * n) k) (4 * n + 1) i) (4 * n + 2) h) (4 * n + 3) r, by omega, by rw [s14]; exact a1, s24, fun j hj => ?_⟩ ⟨m, tb, htp.i (f2 16 (by decide)) (f2 17 (by decide)) (k78 10 (by decide)) (f2 82 (by decide))⟩ (hI.ft.i (f2 0 (by decide)) (k78 11 (by decide)) (k78 31 (by decide)))⟩
            · rw [c42 g hI.F]
              simp -dsimp -implicitDefEqProofs (disch := omega) only [bnd_u, gd_t, if_true, if_false, ↓reduceIte, eq_self, true_or, or_true, false_or, or_false, not_true_eq_false, not_false_eq_true, and_true, true_and, and_false, false_and, reduceCtorEq, nI_ge, nI_le, nI_lt, nI_nlt, nI_ne, nI_te, nm_eq, mn_eq, nm_le, mn_le, nm_lt, mn_lt, pk_mul, nI_add, pk_sub, nI_clamp, eX8_see_42, hTop, hTS, e1']
            · rw [m44 g1 (hI.M.f f1 (by decide)), eg2]
              have t1 : g1 78 24 = nI n := by rw [f1 78 (by decide)]; exact hsn.2.2.1
              have u1 : up g1 88 (4 * n) (nI k) 78 24 = nI n := by rw [up_n (by decide)]; exact t1
              have u2 : up (up g1 88 (4 * n) (nI k)) 88 (4 * n + 1) (nI i) 78 24 = nI n := by rw [up_n (by decide)]; exact u1
              have u3 : up (up (up g1 88 (4 * n) (nI k)) 88 (4 * n + 1) (nI i)) 88 (4 * n + 2) (nI h) 78 24 = nI n := by rw [up_n (by decide)]; exact u2
              have u4 : up (up (up (up g1 88 (4 * n) (nI k)) 88 (4 * n + 1) (nI i)) 88 (4 * n + 2) (nI h)) 88 (4 * n + 3) (ho r) 78 24 = nI n := by rw [up_n (by decide)]; exact u3
              have u5 : up (up (up (up (up g1 88 (4 * n) (nI k)) 88 (4 * n + 1) (nI i)) 88 (4 * n + 2) (nI h)) 88 (4 * n + 3) (ho r)) 78 24 (nI (n + 1)) 78 24 = nI (n + 1) := by rw [up_c, pk_us]
              simp -dsimp -implicitDefEqProofs (disch := omega) only [bnd_u, gd_t, if_true, if_false, ↓reduceIte, eq_self, true_or, or_true, false_or, or_false, not_true_eq_false, not_false_eq_true, and_true, true_and, and_false, false_and, reduceCtorEq, nI_ge, nI_le, nI_lt, nI_nlt, nI_ne, nI_te, nm_eq, mn_eq, nm_le, mn_le, nm_lt, mn_lt, pk_mul, nI_add, pk_sub, nI_clamp, eX9_see_44, hMo, t1, u1, u2, u3, u4, u5]
            · rw [s15]
              by_cases e : j = n
              · subst e
                have b0 := b1 0 (by omega)
                have b1' := b1 1 (by omega)
                have b2 := b1 2 (by omega)
                have b3 := b1 3 (by omega)
                have p0 : pt (pt (pt (pt zz (4 * j) k) (4 * j + 1) i) (4 * j + 2) h) (4 * j + 3) r (4 * j) = k := by
                  rw [pt_n (by omega), pt_n (by omega), pt_n (by omega), pt_s]
                have p1 : pt (pt (pt (pt zz (4 * j) k) (4 * j + 1) i) (4 * j + 2) h) (4 * j + 3) r (4 * j + 1) = i := by
                  rw [pt_n (by omega), pt_n (by omega), pt_s]
                have p2 : pt (pt (pt (pt zz (4 * j) k) (4 * j + 1) i) (4 * j + 2) h) (4 * j + 3) r (4 * j + 2) = h := by
                  rw [pt_n (by omega), pt_s]
                have p3 : pt (pt (pt (pt zz (4 * j) k) (4 * j + 1) i) (4 * j + 2) h) (4 * j + 3) r (4 * j + 3) = r := pt_s _ _ _
                rw [p0, p1, p2, p3, n0, n1, n2, n3]
                exact ⟨hk, hi, hh, hr, b0, b1', b2, b3, rfl, rfl, rfl, rfl⟩
              · have hj2 : j < n := by omega
                have old := hsn.2.2.2 j hj2
                rw [pt_n (by omega), pt_n (by omega), pt_n (by omega), pt_n (by omega), pt_n (by omega), pt_n (by omega), pt_n (by omega), pt_n (by omega), pt_n (by omega), pt_n (by omega), pt_n (by omega), pt_n (by omega), pt_n (by omega), pt_n (by omega), pt_n (by omega), pt_n (by omega), o88 _ (by omega), o88 _ (by omega), o88 _ (by omega), o88 _ (by omega), c1 _ (by omega), c1 _ (by omega), c1 _ (by omega), c1 _ (by omega)]
                exact old
        · refine ⟨mi 1, g, g, q, K, ?_, ?_, hI⟩
          · simp -dsimp -implicitDefEqProofs (disch := omega) only [bnd_u, gd_t, if_true, if_false, ↓reduceIte, eq_self, true_or, or_true, false_or, or_false, not_true_eq_false, not_false_eq_true, and_true, true_and, and_false, false_and, reduceCtorEq, nI_ge, nI_le, nI_lt, nI_nlt, nI_ne, nI_te, nm_eq, mn_eq, nm_le, mn_le, nm_lt, mn_lt, pk_mul, nI_add, pk_sub, nI_clamp, eX8_see, eX8_see_40, hTop, hFam, f_one hI.F hI.G hk, c_thing hi, c_hr hh, hw1, c_valueN hw2]
          · have hin := m_0nN (M := mk g) (n := 10) (by omega) (by omega) hw2
            simp -dsimp -implicitDefEqProofs (disch := omega) only [bnd_u, gd_t, if_true, if_false, ↓reduceIte, eq_self, true_or, or_true, false_or, or_false, not_true_eq_false, not_false_eq_true, and_true, true_and, and_false, false_and, reduceCtorEq, nI_ge, nI_le, nI_lt, nI_nlt, nI_ne, nI_te, nm_eq, mn_eq, nm_le, mn_le, nm_lt, mn_lt, pk_mul, nI_add, pk_sub, nI_clamp, eX9_see, eX9_see_42, hMo, m_one hI.M hK hk, m_thing hi, m_hour hh, hw1, hin]
