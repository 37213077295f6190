/-! text: the reference's line -/
theorem nu_4 {b : Nat → Nat} {n lo p : Nat} {f : Nat → Nat} (h : kK b n (sk b n p) = 4) : nu b n lo f (0, p) = (lo, 1, sk b n p) := by
  rw [nu_0]; exact if_pos h
theorem body_4 {b : Nat → Nat} {n i p : Nat} {z : Nat → Nat} (h : kK b n (sk b n p) = 4) : (sB b n (body b n i (0, p) z)).1 = (1, sk b n p) := by
  have h1 : (1 : Nat) ≠ 0 := by decide
  unfold body
  split
  · show stp b n (nu b n 0 (fO 0 2 0) (0, p)).2 = _
    rw [nu_4 h]; exact stp_b h1
  · split
    · show stp b n (nu b n 0 (fO 0 9 0) (nu b n 0 (fO 0 2 (z 77)) (0, p)).2).2 = _
      rw [nu_4 h, nu_b h1]; exact stp_b h1
    · split
      · show stp b n (nu b n 0 (fO 0 9 0) (nu b n 0 (fO 0 2 0) (nu b n 0 (fO 0 9 0) (0, p)).2).2).2 = _
        rw [nu_4 h, nu_b h1, nu_b h1]; exact stp_b h1
      · split
        · show stp b n (rot b n 11 (0, p) (pt z 76 1)).1 = _
          rw [rot_n rfl (by omega)]
          show stp b n (0, p) = _
          rw [stp_0]; exact if_pos h
        · split
          · unfold bWork bWork2 bWork3 bWork4
            rw [nu_4 h]
            show stp b n (nu b n 1 (fO 1 9 0) (nu b n (nu b n 0 (fO 0 9 0) (1, sk b n p)).1 (fO (nu b n 0 (fO 0 9 0) (1, sk b n p)).1 9 0) (nu b n 0 (fO 0 9 0) (1, sk b n p)).2).2).2 = _
            rw [nu_b h1, nu_b h1, nu_b h1]; exact stp_b h1
          · unfold bTell bTell2 bTell3 bTell4
            rw [nu_4 h]
            show stp b n (nu b n 0 (fO 0 2 0) (nu b n 0 (fO 0 4 0) (dif b n (nu b n 0 (fO 0 4 0) (1, sk b n p)).1 (nu b n 0 (fO 0 4 0) (1, sk b n p)).2)).2).2 = _
            rw [nu_b h1, dif_b h1, nu_b h1, nu_b h1]; exact stp_b h1
/-- the line's end -/
theorem m_tail {g : Gg} {b : Nat → Nat} {n : Nat} {t : Nat × Nat} (hT : Tb g n b) (hC : Cg g b n t) : ∃ g', (bnd (h_I (mk g) 8 78 12) (fun x13 => if x13 = nI 0 then (bnd (h_I (mk g) 8 78 16) (fun x14 => if x14 = (nI 3) then (FX9_readLine_113 78 (mk g)) else gd (h_K (mk g) 8 78) <| bnd (FX9_fails 78 (nI 2) (mk g)) (fun q15 => FX9_readLine_113 78 q15.2) ()) ()) else (FX9_readLine_113 78 (mk g))) ()) = some ((), mk g') ∧ Fc 78 [12, 13, 14, 15, 16, 17] g g' ∧ Cg g' b n (stp b n t) := by
  rcases hC.cs with ⟨c, s, c0, c1, h12, h13, -, hst, -, -⟩ | ⟨p, s, rfl, es, hp, hs, hge, k4, h12, h14, h15, h16, h17⟩
  · rw [hst]
    refine ⟨g, ?_, Fc.refl, Cg.bk c0 c1 h12 h13⟩
    have hsb := m_stepB h12 (by omega) c1
    simp -dsimp -implicitDefEqProofs (disch := omega) only [bnd_u, gd_t, if_true, if_false, ↓reduceIte, eq_self, true_or, or_true, false_or, or_false, not_true_eq_false, not_false_eq_true, and_true, true_and, and_false, false_and, reduceCtorEq, nI_ge, nI_le, nI_lt, nI_nlt, nI_ne, nI_te, nm_eq, mn_eq, nm_le, mn_le, nm_lt, mn_lt, pk_mul, nI_add, pk_sub, nI_clamp, eX9_readLine_113, hMo, h12, hsb]
  · rw [stp_0, ← es, stS, if_neg k4]
    by_cases k3 : kK b n s = 3
    · rw [if_neg (by omega)]
      rw [k3] at h16
      obtain ⟨g', e, f, r⟩ := m_step hT h14 h12 (kE_le hs)
      refine ⟨g', ?_, f, Or.inr ⟨rfl, kE_le hs, r⟩⟩
      simp -dsimp -implicitDefEqProofs (disch := omega) only [bnd_u, gd_t, if_true, if_false, ↓reduceIte, eq_self, true_or, or_true, false_or, or_false, not_true_eq_false, not_false_eq_true, and_true, true_and, and_false, false_and, reduceCtorEq, nI_ge, nI_le, nI_lt, nI_nlt, nI_ne, nI_te, nm_eq, mn_eq, nm_le, mn_le, nm_lt, mn_lt, pk_mul, nI_add, pk_sub, nI_clamp, eX9_readLine_113, hMo, h12, h16, e]
    · rw [if_pos k3]
      have hkl := kK_le b n s
      obtain ⟨w, ew⟩ : ∃ w, w = up (up g 78 12 (nI 2)) 78 13 (nI s) := ⟨_, rfl⟩
      have w12 : w 78 12 = nI 2 := by rw [ew, up_c, pk_un (by decide), up_c, pk_us]
      have w13 : w 78 13 = nI s := by rw [ew, up_c, pk_us]
      have fw : Fc 78 [12, 13, 14, 15, 16, 17] g w := by rw [ew]; exact (Fc.u (by decide)).ux (by decide)
      have hm := m_fails0 (c := 2) h12 h15
      rw [← ew] at hm
      have hsb := m_stepB w12 (by omega) (by omega)
      refine ⟨w, ?_, fw, Cg.bk (by decide) (by decide) w12 w13⟩
      simp -dsimp -implicitDefEqProofs (disch := omega) only [bnd_u, gd_t, if_true, if_false, ↓reduceIte, eq_self, true_or, or_true, false_or, or_false, not_true_eq_false, not_false_eq_true, and_true, true_and, and_false, false_and, reduceCtorEq, nI_ge, nI_le, nI_lt, nI_nlt, nI_ne, nI_te, nm_eq, mn_eq, nm_le, mn_le, nm_lt, mn_lt, pk_mul, nI_add, pk_sub, nI_clamp, eX9_readLine_113, hMo, h12, h16, hm, hsb]
theorem m_full {g : Gg} {z : Nat → Nat} {i : Nat} (hR : Rf g z) (hZ : Zd z) (hi : i < 9) : FX9_isFull 78 (nI i) (mk g) = some (nI (full z i).toNat, mk g) := by
  have h74 := hR.2.1
  have k74 := hZ.2.1
  have h25 := hR.1 25 (by decide)
  have k25 := hZ.1.tn
  have h56 := hR.1 56 (by decide)
  have k56 := hZ.1.wn
  have h73 := hR.1 73 (by decide)
  have k73 := hZ.1.en
  rcases (show i ≤ 3 ∨ i = 4 ∨ i = 5 ∨ i = 6 ∨ i = 7 ∨ i = 8 by omega) with h | rfl | rfl | rfl | rfl | rfl
  · by_cases e : z 74 = 5
    · rw [full_t (Or.inl ⟨h, e⟩), show (true).toNat = 1 from rfl]
      rw [e] at h74
      simp -dsimp -implicitDefEqProofs (disch := omega) only [bnd_u, gd_t, if_true, if_false, ↓reduceIte, eq_self, true_or, or_true, false_or, or_false, not_true_eq_false, not_false_eq_true, and_true, true_and, and_false, false_and, reduceCtorEq, nI_ge, nI_le, nI_lt, nI_nlt, nI_ne, nI_te, nm_eq, mn_eq, nm_le, mn_le, nm_lt, mn_lt, pk_mul, nI_add, pk_sub, nI_clamp, eX9_isFull, eX9_isFull_13, eX9_isFull_29, eX9_isFull_46, eX9_isFull_63, eX9_isFull_67, eX9_isFull_68, hMo, h74]
    · rw [full_n (by omega), show (false).toNat = 0 from rfl]
      simp -dsimp -implicitDefEqProofs (disch := omega) only [bnd_u, gd_t, if_true, if_false, ↓reduceIte, eq_self, true_or, or_true, false_or, or_false, not_true_eq_false, not_false_eq_true, and_true, true_and, and_false, false_and, reduceCtorEq, nI_ge, nI_le, nI_lt, nI_nlt, nI_ne, nI_te, nm_eq, mn_eq, nm_le, mn_le, nm_lt, mn_lt, pk_mul, nI_add, pk_sub, nI_clamp, eX9_isFull, eX9_isFull_13, eX9_isFull_29, eX9_isFull_46, eX9_isFull_63, eX9_isFull_67, eX9_isFull_68, hMo, h74]
  · rw [full_n (by omega), show (false).toNat = 0 from rfl]
    simp -dsimp -implicitDefEqProofs (disch := omega) only [bnd_u, gd_t, if_true, if_false, ↓reduceIte, eq_self, true_or, or_true, false_or, or_false, not_true_eq_false, not_false_eq_true, and_true, true_and, and_false, false_and, reduceCtorEq, nI_ge, nI_le, nI_lt, nI_nlt, nI_ne, nI_te, nm_eq, mn_eq, nm_le, mn_le, nm_lt, mn_lt, pk_mul, nI_add, pk_sub, nI_clamp, eX9_isFull, eX9_isFull_13, eX9_isFull_29, eX9_isFull_46, eX9_isFull_63, eX9_isFull_67, eX9_isFull_68, hMo]
  · by_cases e : z 25 = 4
    · rw [full_t (Or.inr (Or.inl ⟨rfl, e⟩)), show (true).toNat = 1 from rfl]
      rw [e] at h25
      simp -dsimp -implicitDefEqProofs (disch := omega) only [bnd_u, gd_t, if_true, if_false, ↓reduceIte, eq_self, true_or, or_true, false_or, or_false, not_true_eq_false, not_false_eq_true, and_true, true_and, and_false, false_and, reduceCtorEq, nI_ge, nI_le, nI_lt, nI_nlt, nI_ne, nI_te, nm_eq, mn_eq, nm_le, mn_le, nm_lt, mn_lt, pk_mul, nI_add, pk_sub, nI_clamp, eX9_isFull, eX9_isFull_13, eX9_isFull_29, eX9_isFull_46, eX9_isFull_63, eX9_isFull_67, eX9_isFull_68, hMo, h25]
    · rw [full_n (by omega), show (false).toNat = 0 from rfl]
      simp -dsimp -implicitDefEqProofs (disch := omega) only [bnd_u, gd_t, if_true, if_false, ↓reduceIte, eq_self, true_or, or_true, false_or, or_false, not_true_eq_false, not_false_eq_true, and_true, true_and, and_false, false_and, reduceCtorEq, nI_ge, nI_le, nI_lt, nI_nlt, nI_ne, nI_te, nm_eq, mn_eq, nm_le, mn_le, nm_lt, mn_lt, pk_mul, nI_add, pk_sub, nI_clamp, eX9_isFull, eX9_isFull_13, eX9_isFull_29, eX9_isFull_46, eX9_isFull_63, eX9_isFull_67, eX9_isFull_68, hMo, h25]
  · rw [full_n (by omega), show (false).toNat = 0 from rfl]
    simp -dsimp -implicitDefEqProofs (disch := omega) only [bnd_u, gd_t, if_true, if_false, ↓reduceIte, eq_self, true_or, or_true, false_or, or_false, not_true_eq_false, not_false_eq_true, and_true, true_and, and_false, false_and, reduceCtorEq, nI_ge, nI_le, nI_lt, nI_nlt, nI_ne, nI_te, nm_eq, mn_eq, nm_le, mn_le, nm_lt, mn_lt, pk_mul, nI_add, pk_sub, nI_clamp, eX9_isFull, eX9_isFull_13, eX9_isFull_29, eX9_isFull_46, eX9_isFull_63, eX9_isFull_67, eX9_isFull_68, hMo]
  · by_cases e : z 56 = 5
    · rw [full_t (Or.inr (Or.inr (Or.inl ⟨rfl, e⟩))), show (true).toNat = 1 from rfl]
      rw [e] at h56
      simp -dsimp -implicitDefEqProofs (disch := omega) only [bnd_u, gd_t, if_true, if_false, ↓reduceIte, eq_self, true_or, or_true, false_or, or_false, not_true_eq_false, not_false_eq_true, and_true, true_and, and_false, false_and, reduceCtorEq, nI_ge, nI_le, nI_lt, nI_nlt, nI_ne, nI_te, nm_eq, mn_eq, nm_le, mn_le, nm_lt, mn_lt, pk_mul, nI_add, pk_sub, nI_clamp, eX9_isFull, eX9_isFull_13, eX9_isFull_29, eX9_isFull_46, eX9_isFull_63, eX9_isFull_67, eX9_isFull_68, hMo, h56]
    · rw [full_n (by omega), show (false).toNat = 0 from rfl]
      simp -dsimp -implicitDefEqProofs (disch := omega) only [bnd_u, gd_t, if_true, if_false, ↓reduceIte, eq_self, true_or, or_true, false_or, or_false, not_true_eq_false, not_false_eq_true, and_true, true_and, and_false, false_and, reduceCtorEq, nI_ge, nI_le, nI_lt, nI_nlt, nI_ne, nI_te, nm_eq, mn_eq, nm_le, mn_le, nm_lt, mn_lt, pk_mul, nI_add, pk_sub, nI_clamp, eX9_isFull, eX9_isFull_13, eX9_isFull_29, eX9_isFull_46, eX9_isFull_63, eX9_isFull_67, eX9_isFull_68, hMo, h56]
  · by_cases e : z 73 = 4
    · rw [full_t (Or.inr (Or.inr (Or.inr ⟨rfl, e⟩))), show (true).toNat = 1 from rfl]
      rw [e] at h73
      simp -dsimp -implicitDefEqProofs (disch := omega) only [bnd_u, gd_t, if_true, if_false, ↓reduceIte, eq_self, true_or, or_true, false_or, or_false, not_true_eq_false, not_false_eq_true, and_true, true_and, and_false, false_and, reduceCtorEq, nI_ge, nI_le, nI_lt, nI_nlt, nI_ne, nI_te, nm_eq, mn_eq, nm_le, mn_le, nm_lt, mn_lt, pk_mul, nI_add, pk_sub, nI_clamp, eX9_isFull, eX9_isFull_13, eX9_isFull_29, eX9_isFull_46, eX9_isFull_63, eX9_isFull_67, eX9_isFull_68, hMo, h73]
    · rw [full_n (by omega), show (false).toNat = 0 from rfl]
      simp -dsimp -implicitDefEqProofs (disch := omega) only [bnd_u, gd_t, if_true, if_false, ↓reduceIte, eq_self, true_or, or_true, false_or, or_false, not_true_eq_false, not_false_eq_true, and_true, true_and, and_false, false_and, reduceCtorEq, nI_ge, nI_le, nI_lt, nI_nlt, nI_ne, nI_te, nm_eq, mn_eq, nm_le, mn_le, nm_lt, mn_lt, pk_mul, nI_add, pk_sub, nI_clamp, eX9_isFull, eX9_isFull_13, eX9_isFull_29, eX9_isFull_46, eX9_isFull_63, eX9_isFull_67, eX9_isFull_68, hMo, h73]
theorem pt_id {z : Nat → Nat} {i : Nat} : pt z i (z i) = z := by
  funext j
  by_cases e : j = i
  · rw [e, pt_s]
  · rw [pt_n e]
theorem m_more {g : Gg} {b : Nat → Nat} {n i : Nat} {t : Nat × Nat} {z : Nat → Nat} (hT : Tb g n b) (hC : Cg g b n t) (hR : Rf g (if i = 6 then pt z 76 1 else z)) (hZ : Zd z) (hi : i < 9) (hf : full z i = false) (h6 : i = 6 → z 76 = 0) : ∃ g', FX9_readMore 78 (nI i) (mk g) = some ((), mk g') ∧ Fz g g' ∧ Rf g' (body b n i t z).2 ∧ Cg g' b n (body b n i t z).1 := by
  have hfl := of_decide_eq_false hf
  have k74 := hZ.2.1
  have k25 := hZ.1.tn
  have k56 := hZ.1.wn
  have k73 := hZ.1.en
  have k78 := hZ.2.2.2.2.2.1
  unfold body
  rcases (show i ≤ 3 ∨ i = 4 ∨ i = 5 ∨ i = 6 ∨ i = 7 ∨ i = 8 by omega) with h | rfl | rfl | rfl | rfl | rfl
  · rw [if_neg (by omega)] at hR
    rw [if_pos h]
    exact m_bOne hT hC hR h k74
  · exact m_bThing hT hC hR hZ.2.2.2.2.1
  · exact m_bTurn hT hC hR (by omega)
  · exact m_bRota hT hC hR (by rw [pt_n (by decide)]; exact (hZ.2.2.2.2.2.2 (h6 rfl)).1) (by rw [pt_n (by decide)]; exact k78)
  · exact m_bWork hT hC hR (by omega) k78
  · exact m_bTell hT hC hR (by omega) k78
theorem m_line {g : Gg} {b : Nat → Nat} {n s : Nat} {z : Nat → Nat} (hT : Tb g n b) (hS : Cs g) (hR : Rf g z) (hZ : Zd z) (h12 : g 78 12 = nI 0) (h14 : g 78 14 = nI (kE b n s)) (h15 : g 78 15 = nI s) (h16 : g 78 16 = nI (kK b n s)) (hs : s < n) : ∃ g', FX9_readLine 78 (mk g) = some ((), mk g') ∧ Fz g g' ∧ Cg g' b n (lineS b n s z).1 ∧ ((lineS b n s z).1.1 = 0 → Rf g' (lineS b n s z).2) := by
  have hkl := kK_le b n s
  have hsn : s ≤ n := by omega
  have hE := kE_gt (b := b) hs
  have hE2 := kE_le (b := b) hsn
  have bad : ∀ c, c ≠ 0 → c < 100 → FX9_fails 78 (nI c) (mk g) = some ((), mk (up (up g 78 12 (nI c)) 78 13 (nI s))) ∧ Fz g (up (up g 78 12 (nI c)) 78 13 (nI s)) ∧ Cg (up (up g 78 12 (nI c)) 78 13 (nI s)) b n (c, s) := fun c c0 c1 => by
    refine ⟨m_fails0 h12 h15, Fz.c (l := [12, 13]) ((Fc.u (by decide)).ux (by decide)) (by decide), Cg.bk c0 c1 ?_ ?_⟩
    · rw [up_c, pk_un (by decide), up_c, pk_us]
    · rw [up_c, pk_us]
  have in4 : ∀ M, FX9_in (mi 4).toInt64 (lN 0) (lN 8) M = some (nI 0, M) := fun M => m_inL (by decide)
  unfold lineS
  by_cases k1 : kK b n s = 1
  · rw [if_neg (by omega)]
    rw [k1] at h16
    have hN := m_name hT hS h14 h15 h16 (by omega) hE2
    by_cases h9 : nm b s (kE b n s) = 9
    · rw [if_pos h9]
      rw [h9, show nmI 9 = mi 4 from rfl] at hN
      obtain ⟨b1, b2, b3⟩ := bad 2 (by decide) (by decide)
      refine ⟨_, ?_, b2, b3, fun h => (by cases h)⟩
      simp -dsimp -implicitDefEqProofs (disch := omega) only [bnd_u, gd_t, if_true, if_false, ↓reduceIte, eq_self, true_or, or_true, false_or, or_false, not_true_eq_false, not_false_eq_true, and_true, true_and, and_false, false_and, reduceCtorEq, nI_ge, nI_le, nI_lt, nI_nlt, nI_ne, nI_te, nm_eq, mn_eq, nm_le, mn_le, nm_lt, mn_lt, pk_mul, nI_add, pk_sub, nI_clamp, eX9_readLine, hMo, hN, in4, b1]
    · rw [if_neg h9]
      have hi : nm b s (kE b n s) < 9 := by
        rcases nm_i b s (kE b n s) with h | h
        · exact absurd h.1 h9
        · exact h.1
      rw [nmI, if_neg h9] at hN
      revert hN hi
      generalize nm b s (kE b n s) = i
      intro hN hi
      have hin : ∀ M, FX9_in (nI i).toInt64 (lN 0) (lN 8) M = some (nI 1, M) := fun M => m_0n (n := 9) hi (by decide)
      have hfu := m_full hR hZ hi
      have r6 := hR.2.2.2.1
      have h76 := hZ.2.2.2.1
      cases hfl : full z i
      · rw [hfl, show (false).toNat = 0 from rfl] at hfu
        by_cases ht : i = 6 ∧ z 76 = 1
        · obtain ⟨rfl, e76⟩ := ht
          have el : lineI b n s 6 z = ((4, s), z) := by
            rw [lineI, hfl, if_neg (by decide), if_pos ⟨rfl, e76⟩]
          rw [el]
          obtain ⟨b1, b2, b3⟩ := bad 4 (by decide) (by decide)
          obtain ⟨w, ew⟩ : ∃ w, w = up (up g 78 12 (nI 4)) 78 13 (nI s) := ⟨_, rfl⟩
          rw [← ew] at b1 b2 b3
          rw [e76] at r6
          have w6 : w 78 6 = nI 1 := by rw [ew, up_c, pk_un (by decide), up_c, pk_un (by decide), r6]
          obtain ⟨v, ev⟩ : ∃ v, v = up w 78 6 (nI 1) := ⟨_, rfl⟩
          have v12 : v 78 12 = nI 4 := by rw [ev, up_c, pk_un (by decide), ew, up_c, pk_un (by decide), up_c, pk_us]
          have hst := m_stepB v12 (by decide) (by decide)
          refine ⟨v, ?_, ?_, ?_, fun h => (by cases h)⟩
          · simp -dsimp -implicitDefEqProofs (disch := omega) only [bnd_u, gd_t, if_true, if_false, ↓reduceIte, eq_self, true_or, or_true, false_or, or_false, not_true_eq_false, not_false_eq_true, and_true, true_and, and_false, false_and, reduceCtorEq, nI_ge, nI_le, nI_lt, nI_nlt, nI_ne, nI_te, nm_eq, mn_eq, nm_le, mn_le, nm_lt, mn_lt, pk_mul, nI_add, pk_sub, nI_clamp, eX9_readLine, eX9_readLine_36, eX9_readLine_54, eX9_readLine_68, eX9_readLine_73, hMo, hN, hin, hfu, r6, b1, w6, ← ev, v12, hst]
          · rw [ev]; exact b2.tr (Fz.c (Fc.u (l := [6]) (by decide)) (by decide))
          · rw [ev]; exact b3.u (by decide)
        · have el : lineI b n s i z = sB b n (body b n i (0, kE b n s) z) := by
            rw [lineI, hfl, if_neg (by decide), if_neg ht]
          rw [el]
          obtain ⟨y, ey⟩ : ∃ y, y = (if i = 6 then 1 else z 76) := ⟨_, rfl⟩
          obtain ⟨v, ev⟩ : ∃ v, v = up g 78 6 (nI y) := ⟨_, rfl⟩
          have fv : Fc 78 [6] g v := by rw [ev]; exact Fc.u (by decide)
          have rv : Rf v (if i = 6 then pt z 76 1 else z) := by
            have := hR.s6 (v := y)
            rw [← ev, ey] at this
            by_cases e6 : i = 6
            · rw [if_pos e6] at this ⊢
              exact this
            · rw [if_neg e6, pt_id] at this
              rw [if_neg e6]
              exact this
          have e0 : FX9_readLine 78 (mk g) = FX9_readLine_73 78 (nI i) 78 (nI y) (mk g) := by
            by_cases e6 : i = 6
            · subst e6
              have z0 : z 76 = 0 := by omega
              rw [z0] at r6
              rw [if_pos rfl] at ey
              subst ey
              simp -dsimp -implicitDefEqProofs (disch := omega) only [bnd_u, gd_t, if_true, if_false, ↓reduceIte, eq_self, true_or, or_true, false_or, or_false, not_true_eq_false, not_false_eq_true, and_true, true_and, and_false, false_and, reduceCtorEq, nI_ge, nI_le, nI_lt, nI_nlt, nI_ne, nI_te, nm_eq, mn_eq, nm_le, mn_le, nm_lt, mn_lt, pk_mul, nI_add, pk_sub, nI_clamp, eX9_readLine, eX9_readLine_36, eX9_readLine_54, eX9_readLine_68, hMo, hN, hin, hfu, r6]
            · rw [if_neg e6] at ey
              subst ey
              rcases (show z 76 = 0 ∨ z 76 = 1 by omega) with z0 | z0
              · rw [z0] at r6 ⊢
                simp -dsimp -implicitDefEqProofs (disch := omega) only [bnd_u, gd_t, if_true, if_false, ↓reduceIte, eq_self, true_or, or_true, false_or, or_false, not_true_eq_false, not_false_eq_true, and_true, true_and, and_false, false_and, reduceCtorEq, nI_ge, nI_le, nI_lt, nI_nlt, nI_ne, nI_te, nm_eq, mn_eq, nm_le, mn_le, nm_lt, mn_lt, pk_mul, nI_add, pk_sub, nI_clamp, eX9_readLine, eX9_readLine_36, eX9_readLine_54, eX9_readLine_68, hMo, hN, hin, hfu, r6]
              · rw [z0] at r6 ⊢
                simp -dsimp -implicitDefEqProofs (disch := omega) only [bnd_u, gd_t, if_true, if_false, ↓reduceIte, eq_self, true_or, or_true, false_or, or_false, not_true_eq_false, not_false_eq_true, and_true, true_and, and_false, false_and, reduceCtorEq, nI_ge, nI_le, nI_lt, nI_nlt, nI_ne, nI_te, nm_eq, mn_eq, nm_le, mn_le, nm_lt, mn_lt, pk_mul, nI_add, pk_sub, nI_clamp, eX9_readLine, eX9_readLine_36, eX9_readLine_54, eX9_readLine_68, hMo, hN, hin, hfu, r6]
          have hy : y = 0 ∨ y = 1 := by
            rw [ey]
            split
            · exact Or.inr rfl
            · omega
          have v12 : v 78 12 = nI 0 := by rw [fv.2 12 (by decide), h12]
          have v14 : v 78 14 = nI (kE b n s) := by rw [fv.2 14 (by decide), h14]
          have fzv : Fz g v := Fz.c fv (by decide)
          obtain ⟨g1, e1, f1, c1⟩ := m_step (hT.z fzv) v14 v12 hE2
          have fz1 : Fz g g1 := fzv.tr (Fz.c f1 (by decide))
          have r1 := rv.c f1 (by decide)
          have cg1 : Cg g1 b n (0, kE b n s) := Or.inr ⟨rfl, hE2, c1⟩
          have hys : (nI y = nI 0 ∨ nI y = nI 1) = True := by
            rcases hy with rfl | rfl
            · exact eq_true (Or.inl rfl)
            · exact eq_true (Or.inr rfl)
          rcases c1 with ⟨k4, a1, a2⟩ | ⟨k4, a1, a2, a3, a4, a5⟩
          · refine ⟨g1, ?_, fz1, ?_, fun h => ?_⟩
            · rw [e0]
              simp -dsimp -implicitDefEqProofs (disch := omega) only [bnd_u, gd_t, if_true, if_false, ↓reduceIte, eq_self, true_or, or_true, false_or, or_false, not_true_eq_false, not_false_eq_true, and_true, true_and, and_false, false_and, reduceCtorEq, nI_ge, nI_le, nI_lt, nI_nlt, nI_ne, nI_te, nm_eq, mn_eq, nm_le, mn_le, nm_lt, mn_lt, pk_mul, nI_add, pk_sub, nI_clamp, eX9_readLine_73, hys, hMo, ← ev, e1, a1]
            · rw [body_4 k4]
              exact Cg.bk (by decide) (by decide) a1 a2
            · rw [body_4 k4] at h
              cases h
          · obtain ⟨g2, e2, f2, r2, c2⟩ := m_more (hT.z fz1) cg1 r1 hZ hi hfl (fun h6 => by omega)
            have fz2 := fz1.tr f2
            obtain ⟨g3, e3, f3, c3⟩ := m_tail (hT.z fz2) c2
            refine ⟨g3, ?_, fz2.tr (Fz.c f3 (by decide)), c3, fun _ => r2.c f3 (by decide)⟩
            rw [e0, ← e3]
            simp -dsimp -implicitDefEqProofs (disch := omega) only [bnd_u, gd_t, if_true, if_false, ↓reduceIte, eq_self, true_or, or_true, false_or, or_false, not_true_eq_false, not_false_eq_true, and_true, true_and, and_false, false_and, reduceCtorEq, nI_ge, nI_le, nI_lt, nI_nlt, nI_ne, nI_te, nm_eq, mn_eq, nm_le, mn_le, nm_lt, mn_lt, pk_mul, nI_add, pk_sub, nI_clamp, eX9_readLine_73, hys, hMo, ← ev, e1, a1, e2]
      · rw [hfl, show (true).toNat = 1 from rfl] at hfu
        rw [lineI_f hfl]
        have hn6 : i ≠ 6 := fun e => by
          have := of_decide_eq_true hfl
          omega
        obtain ⟨b1, b2, b3⟩ := bad 5 (by decide) (by decide)
        obtain ⟨w, ew⟩ : ∃ w, w = up (up g 78 12 (nI 5)) 78 13 (nI s) := ⟨_, rfl⟩
        rw [← ew] at b1 b2 b3
        have w6 : w 78 6 = nI (z 76) := by rw [ew, up_c, pk_un (by decide), up_c, pk_un (by decide), r6]
        obtain ⟨v, ev⟩ : ∃ v, v = up w 78 6 (nI (z 76)) := ⟨_, rfl⟩
        have v12 : v 78 12 = nI 5 := by rw [ev, up_c, pk_un (by decide), ew, up_c, pk_un (by decide), up_c, pk_us]
        have hst := m_stepB v12 (by decide) (by decide)
        refine ⟨v, ?_, ?_, ?_, fun h => (by cases h)⟩
        · rcases (show z 76 = 0 ∨ z 76 = 1 by omega) with z0 | z0
          · rw [z0] at w6 ev
            simp -dsimp -implicitDefEqProofs (disch := omega) only [bnd_u, gd_t, if_true, if_false, ↓reduceIte, eq_self, true_or, or_true, false_or, or_false, not_true_eq_false, not_false_eq_true, and_true, true_and, and_false, false_and, reduceCtorEq, nI_ge, nI_le, nI_lt, nI_nlt, nI_ne, nI_te, nm_eq, mn_eq, nm_le, mn_le, nm_lt, mn_lt, pk_mul, nI_add, pk_sub, nI_clamp, eX9_readLine, eX9_readLine_36, eX9_readLine_54, eX9_readLine_68, eX9_readLine_73, hMo, hN, hin, hfu, b1, w6, ← ev, v12, hst]
          · rw [z0] at w6 ev
            simp -dsimp -implicitDefEqProofs (disch := omega) only [bnd_u, gd_t, if_true, if_false, ↓reduceIte, eq_self, true_or, or_true, false_or, or_false, not_true_eq_false, not_false_eq_true, and_true, true_and, and_false, false_and, reduceCtorEq, nI_ge, nI_le, nI_lt, nI_nlt, nI_ne, nI_te, nm_eq, mn_eq, nm_le, mn_le, nm_lt, mn_lt, pk_mul, nI_add, pk_sub, nI_clamp, eX9_readLine, eX9_readLine_36, eX9_readLine_54, eX9_readLine_68, eX9_readLine_73, hMo, hN, hin, hfu, b1, w6, ← ev, v12, hst]
        · rw [ev]; exact b2.tr (Fz.c (Fc.u (l := [6]) (by decide)) (by decide))
        · rw [ev]; exact b3.u (by decide)
  · rw [if_pos k1]
    have hN := m_nameN h16 k1 hkl
    obtain ⟨b1, b2, b3⟩ := bad 2 (by decide) (by decide)
    refine ⟨_, ?_, b2, b3, fun h => (by cases h)⟩
    simp -dsimp -implicitDefEqProofs (disch := omega) only [bnd_u, gd_t, if_true, if_false, ↓reduceIte, eq_self, true_or, or_true, false_or, or_false, not_true_eq_false, not_false_eq_true, and_true, true_and, and_false, false_and, reduceCtorEq, nI_ge, nI_le, nI_lt, nI_nlt, nI_ne, nI_te, nm_eq, mn_eq, nm_le, mn_le, nm_lt, mn_lt, pk_mul, nI_add, pk_sub, nI_clamp, eX9_readLine, hMo, hN, in4, b1]
