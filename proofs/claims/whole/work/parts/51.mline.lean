/-! text: the reference's lines -/
def Rf (g : Gg) (z : Nat → Nat) : Prop := (∀ i, i < 74 → g 81 i = nI (z i)) ∧ g 78 4 = nI (z 74) ∧ g 78 5 = nI (z 75) ∧ g 78 6 = nI (z 76) ∧ g 78 7 = nI (z 77) ∧ g 78 8 = hm (z 78)
theorem Rf.w {g : Gg} {z : Nat → Nat} {i v : Nat} (h : Rf g z) (hi : i < 74) : Rf (up g 81 i (nI v)) (pt z i v) := by
  obtain ⟨h1, h2, h3, h4, h5, h6⟩ := h
  unfold Rf
  rw [up_c, up_n (by decide), pt_n (by omega), pt_n (by omega), pt_n (by omega), pt_n (by omega), pt_n (by omega)]
  refine ⟨fun j hj => ?_, h2, h3, h4, h5, h6⟩
  by_cases e : j = i
  · rw [e, pk_us, pt_s]
  · rw [pk_un e, pt_n e]; exact h1 j hj
theorem Rf.c {g g' : Gg} {z : Nat → Nat} {l : List Nat} (h : Rf g z) (hf : Fc 78 l g g') (hl : ∀ i ∈ [4, 5, 6, 7, 8], i ∉ l) : Rf g' z := by
  unfold Rf
  rw [hf.1 81 (by decide), hf.2 4 (hl 4 (by decide)), hf.2 5 (hl 5 (by decide)), hf.2 6 (hl 6 (by decide)), hf.2 7 (hl 7 (by decide)), hf.2 8 (hl 8 (by decide))]
  exact h
theorem Rf.h {g g' : Gg} {z : Nat → Nat} {l : List Nat} {m : Nat} (h : Rf g z) (hf : Fc 78 l g g') (hl : ∀ i ∈ [4, 5, 6, 7], i ∉ l) (h8 : g' 78 8 = hm m) : Rf g' (pt z 78 m) := by
  unfold Rf
  rw [hf.1 81 (by decide), hf.2 4 (hl 4 (by decide)), hf.2 5 (hl 5 (by decide)), hf.2 6 (hl 6 (by decide)), hf.2 7 (hl 7 (by decide)), pt_s, pt_n (by decide), pt_n (by decide), pt_n (by decide), pt_n (by decide)]
  refine ⟨fun i hi => ?_, h.2.1, h.2.2.1, h.2.2.2.1, h.2.2.2.2.1, h8⟩
  rw [pt_n (by omega)]; exact h.1 i hi
theorem Rf.s4 {g : Gg} {z : Nat → Nat} {v : Nat} (h : Rf g z) : Rf (up g 78 4 (nI v)) (pt z 74 v) := by
  unfold Rf
  rw [up_n (show 81 ≠ 78 by decide), up_c, pk_us, pk_un (by decide), pk_un (by decide), pk_un (by decide), pk_un (by decide), pt_s, pt_n (by decide), pt_n (by decide), pt_n (by decide), pt_n (by decide)]
  refine ⟨fun i hi => ?_, rfl, h.2.2.1, h.2.2.2.1, h.2.2.2.2.1, h.2.2.2.2.2⟩
  rw [pt_n (by omega)]; exact h.1 i hi
theorem Rf.s5 {g : Gg} {z : Nat → Nat} {v : Nat} (h : Rf g z) : Rf (up g 78 5 (nI v)) (pt z 75 v) := by
  unfold Rf
  rw [up_n (show 81 ≠ 78 by decide), up_c, pk_us, pk_un (by decide), pk_un (by decide), pk_un (by decide), pk_un (by decide), pt_s, pt_n (by decide), pt_n (by decide), pt_n (by decide), pt_n (by decide)]
  refine ⟨fun i hi => ?_, h.2.1, rfl, h.2.2.2.1, h.2.2.2.2.1, h.2.2.2.2.2⟩
  rw [pt_n (by omega)]; exact h.1 i hi
theorem Rf.s6 {g : Gg} {z : Nat → Nat} {v : Nat} (h : Rf g z) : Rf (up g 78 6 (nI v)) (pt z 76 v) := by
  unfold Rf
  rw [up_n (show 81 ≠ 78 by decide), up_c, pk_us, pk_un (by decide), pk_un (by decide), pk_un (by decide), pk_un (by decide), pt_s, pt_n (by decide), pt_n (by decide), pt_n (by decide), pt_n (by decide)]
  refine ⟨fun i hi => ?_, h.2.1, h.2.2.1, rfl, h.2.2.2.2.1, h.2.2.2.2.2⟩
  rw [pt_n (by omega)]; exact h.1 i hi
theorem Rf.s7 {g : Gg} {z : Nat → Nat} {v : Nat} (h : Rf g z) : Rf (up g 78 7 (nI v)) (pt z 77 v) := by
  unfold Rf
  rw [up_n (show 81 ≠ 78 by decide), up_c, pk_us, pk_un (by decide), pk_un (by decide), pk_un (by decide), pk_un (by decide), pt_s, pt_n (by decide), pt_n (by decide), pt_n (by decide), pt_n (by decide)]
  refine ⟨fun i hi => ?_, h.2.1, h.2.2.1, h.2.2.2.1, rfl, h.2.2.2.2.2⟩
  rw [pt_n (by omega)]; exact h.1 i hi
/-- what the reference's reading may change -/
def zl : List Nat := [4, 5, 6, 7, 8, 12, 13, 14, 15, 16, 17]
def Fz (g g' : Gg) : Prop := (∀ d, d ≠ 78 → d ≠ 81 → g' d = g d) ∧ ∀ i, i ∉ zl → g' 78 i = g 78 i
theorem Fz.refl {g : Gg} : Fz g g := ⟨fun _ _ _ => rfl, fun _ _ => rfl⟩
theorem Fz.tr {g g1 g2 : Gg} (h1 : Fz g g1) (h2 : Fz g1 g2) : Fz g g2 := ⟨fun d a b => (h2.1 d a b).trans (h1.1 d a b), fun i hi => (h2.2 i hi).trans (h1.2 i hi)⟩
theorem Fz.c {g g' : Gg} {l : List Nat} (h : Fc 78 l g g') (hl : ∀ i ∈ l, i ∈ zl) : Fz g g' := ⟨fun d a _ => h.1 d a, fun i hi => h.2 i (fun h2 => hi (hl i h2))⟩
theorem Fz.w {g : Gg} {i : Nat} {x : Int32} : Fz g (up g 81 i x) := ⟨fun d _ b => upc_n b, fun i _ => by rw [up_n (by decide)]⟩
theorem Tb.z {g g' : Gg} {n : Nat} {b : Nat → Nat} (h : Tb g n b) (hf : Fz g g') : Tb g' n b := h.f (hf.2 10 (by decide)) (hf.1 82 (by decide) (by decide))
theorem Cg.w {g : Gg} {b : Nat → Nat} {n i : Nat} {t : Nat × Nat} {x : Int32} (h : Cg g b n t) : Cg (up g 81 i x) b n t := h.f (fun j _ => by rw [up_n (by decide)])
theorem Cg.u {g : Gg} {b : Nat → Nat} {n i : Nat} {t : Nat × Nat} {x : Int32} (h : Cg g b n t) (hi : i < 12) : Cg (up g 78 i x) b n t := h.f (fun j hj => by
  rw [up_c, pk_un]
  intro e
  subst e
  simp only [List.mem_cons, List.not_mem_nil, or_false] at hj
  omega)
theorem nu_rg (b : Nat → Nat) (n : Nat) {lo hi x : Nat} (t : Nat × Nat) (h : lo ≤ hi) : lo ≤ (nu b n lo (fO lo hi x) t).1 ∧ (nu b n lo (fO lo hi x) t).1 ≤ hi := by
  unfold nu nuS
  split
  · exact ⟨Nat.le_refl _, h⟩
  · split
    · exact ⟨Nat.le_refl _, h⟩
    · split
      · exact ⟨Nat.le_refl _, h⟩
      · split
        · exact ⟨Nat.le_refl _, h⟩
        · rename_i h4
          have := fO_ok (lo := lo) (hi := hi) (x := x) (v := kV b n (sk b n t.2)) (by simpa using h4)
          exact ⟨this.1, this.2.1⟩
theorem m_bOne {g : Gg} {b : Nat → Nat} {n kd : Nat} {t : Nat × Nat} {z : Nat → Nat} (hT : Tb g n b) (hC : Cg g b n t) (hR : Rf g z) (hk : kd ≤ 3) (h5 : z 74 ≤ 5) : ∃ g', FX9_readMore 78 (nI kd) (mk g) = some ((), mk g') ∧ Fz g g' ∧ Rf g' (bOne b n kd t z).2 ∧ Cg g' b n (bOne b n kd t z).1 := by
  have w1 := hR.w (i := z 74) (v := kd) (by omega)
  have cu1 := hC.w (i := z 74) (x := nI kd)
  obtain ⟨u1, eu1⟩ : ∃ u, u = up g 81 (z 74) (nI kd) := ⟨_, rfl⟩
  rw [← eu1] at w1 cu1
  have fu1 : Fz g u1 := by rw [eu1]; exact Fz.w
  have ka : u1 78 4 = nI (z 74) := by rw [w1.2.1, pt_n (by omega)]
  obtain ⟨g1, e1, f1, c1⟩ := m_other (lo := 0) (hi := 2) (x := 0) (hT.z fu1) cu1 (by decide) (by decide) (by decide)
  unfold bOne addK
  revert e1 c1
  generalize nu b n 0 (fO 0 2 0) t = A
  intro e1 c1
  have w2 := (w1.c f1 (by decide)).w (i := 5 + z 74) (v := A.1) (by omega)
  have cu2 := c1.w (i := 5 + z 74) (x := nI A.1)
  obtain ⟨u2, eu2⟩ : ∃ u, u = up g1 81 (5 + z 74) (nI A.1) := ⟨_, rfl⟩
  rw [← eu2] at w2 cu2
  have fu2 : Fz g u2 := by rw [eu2]; exact (fu1.tr (Fz.c f1 (by decide))).tr Fz.w
  have kb : u2 78 4 = nI (z 74) := by rw [w2.2.1, pt_n (by omega), pt_n (by omega)]
  have h4 := hR.2.1
  refine ⟨up u2 78 4 (nI (z 74 + 1)), ?_, fu2.tr (Fz.c (Fc.u (l := [4]) (by decide)) (by decide)), w2.s4, cu2.u (by decide)⟩
  simp -dsimp -implicitDefEqProofs (disch := omega) only [bnd_u, gd_t, if_true, if_false, ↓reduceIte, eq_self, true_or, or_true, false_or, or_false, not_true_eq_false, not_false_eq_true, and_true, true_and, and_false, false_and, reduceCtorEq, nI_ge, nI_le, nI_lt, nI_nlt, nI_ne, nI_te, nm_eq, mn_eq, nm_le, mn_le, nm_lt, mn_lt, pk_mul, nI_add, pk_sub, nI_clamp, eX9_readMore, eX9_readMore_201, hMo, h4, ← eu1, ka, e1, ← eu2, kb]
theorem m_bThing {g : Gg} {b : Nat → Nat} {n : Nat} {t : Nat × Nat} {z : Nat → Nat} (hT : Tb g n b) (hC : Cg g b n t) (hR : Rf g z) (h8 : z 77 < 8) : ∃ g', FX9_readMore 78 (nI 4) (mk g) = some ((), mk g') ∧ Fz g g' ∧ Rf g' (bThing b n t z).2 ∧ Cg g' b n (bThing b n t z).1 := by
  obtain ⟨g1, e1, f1, c1⟩ := m_other (lo := 0) (hi := 2) (x := z 77) hT hC (by decide) (by decide) h8
  have hA := (nu_rg b n (lo := 0) (hi := 2) (x := z 77) t (by decide)).2
  unfold bThing bThing2 addV
  revert e1 c1 hA
  generalize nu b n 0 (fO 0 2 (z 77)) t = A
  intro e1 c1 hA
  have r1 := hR.c f1 (by decide)
  have k7 := r1.2.2.2.2.1
  have w1 := r1.s7 (v := z 77 ||| 2 ^ A.1)
  have cu1 := c1.u (i := 7) (x := nI (z 77 ||| 2 ^ A.1)) (by decide)
  obtain ⟨u1, eu1⟩ : ∃ u, u = up g1 78 7 (nI (z 77 ||| 2 ^ A.1)) := ⟨_, rfl⟩
  rw [← eu1] at w1 cu1
  have fu1 : Fz g u1 := by rw [eu1]; exact (Fz.c f1 (by decide)).tr (Fz.c (Fc.u (l := [7]) (by decide)) (by decide))
  obtain ⟨g2, e2, f2, c2⟩ := m_other (lo := 0) (hi := 9) (x := 0) (hT.z fu1) cu1 (by decide) (by decide) (by decide)
  revert e2 c2
  generalize nu b n 0 (fO 0 9 0) A.2 = B
  intro e2 c2
  have w2 := (w1.c f2 (by decide)).w (i := 10 + A.1) (v := B.1) (by omega)
  have h7 := hR.2.2.2.2.1
  refine ⟨up g2 81 (10 + A.1) (nI B.1), ?_, (fu1.tr (Fz.c f2 (by decide))).tr Fz.w, w2, c2.w⟩
  simp -dsimp -implicitDefEqProofs (disch := omega) only [bnd_u, gd_t, if_true, if_false, ↓reduceIte, eq_self, true_or, or_true, false_or, or_false, not_true_eq_false, not_false_eq_true, and_true, true_and, and_false, false_and, reduceCtorEq, nI_ge, nI_le, nI_lt, nI_nlt, nI_ne, nI_te, nm_eq, mn_eq, nm_le, mn_le, nm_lt, mn_lt, pk_mul, nI_add, pk_sub, nI_clamp, eX9_readMore, eX9_readMore_201, hMo, h7, e1, k7, nI_1shl, nI_or, ← eu1, e2]
theorem m_bTurn {g : Gg} {b : Nat → Nat} {n : Nat} {t : Nat × Nat} {z : Nat → Nat} (hT : Tb g n b) (hC : Cg g b n t) (hR : Rf g z) (h4 : z 25 < 4) : ∃ g', FX9_readMore 78 (nI 5) (mk g) = some ((), mk g') ∧ Fz g g' ∧ Rf g' (bTurn b n t z).2 ∧ Cg g' b n (bTurn b n t z).1 := by
  have k0 := hR.1 25 (by decide)
  unfold bTurn bTurn2 bTurn3 addT
  obtain ⟨g1, e1, f1, c1⟩ := m_other (lo := 0) (hi := 9) (x := 0) hT hC (by decide) (by decide) (by decide)
  revert e1 c1
  generalize nu b n 0 (fO 0 9 0) t = A
  intro e1 c1
  have w1 := (hR.c f1 (by decide)).w (i := 13 + 3 * z 25) (v := A.1) (by omega)
  have cu1 := c1.w (i := 13 + 3 * z 25) (x := nI A.1)
  obtain ⟨u1, eu1⟩ : ∃ u, u = up g1 81 (13 + 3 * z 25) (nI A.1) := ⟨_, rfl⟩
  rw [← eu1] at w1 cu1
  have fu1 : Fz g u1 := by rw [eu1]; exact (Fz.c f1 (by decide)).tr Fz.w
  obtain ⟨g2, e2, f2, c2⟩ := m_other (lo := 0) (hi := 2) (x := 0) (hT.z fu1) cu1 (by decide) (by decide) (by decide)
  revert e2 c2
  generalize nu b n 0 (fO 0 2 0) A.2 = B
  intro e2 c2
  have w2 := (w1.c f2 (by decide)).w (i := 13 + 3 * z 25 + 1) (v := B.1) (by omega)
  have cu2 := c2.w (i := 13 + 3 * z 25 + 1) (x := nI B.1)
  obtain ⟨u2, eu2⟩ : ∃ u, u = up g2 81 (13 + 3 * z 25 + 1) (nI B.1) := ⟨_, rfl⟩
  rw [← eu2] at w2 cu2
  have fu2 : Fz g u2 := by rw [eu2]; exact (fu1.tr (Fz.c f2 (by decide))).tr Fz.w
  obtain ⟨g3, e3, f3, c3⟩ := m_other (lo := 0) (hi := 9) (x := 0) (hT.z fu2) cu2 (by decide) (by decide) (by decide)
  revert e3 c3
  generalize nu b n 0 (fO 0 9 0) B.2 = C
  intro e3 c3
  have w3 := (w2.c f3 (by decide)).w (i := 13 + 3 * z 25 + 2) (v := C.1) (by omega)
  have cu3 := c3.w (i := 13 + 3 * z 25 + 2) (x := nI C.1)
  obtain ⟨u3, eu3⟩ : ∃ u, u = up g3 81 (13 + 3 * z 25 + 2) (nI C.1) := ⟨_, rfl⟩
  rw [← eu3] at w3 cu3
  have fu3 : Fz g u3 := by rw [eu3]; exact (fu2.tr (Fz.c f3 (by decide))).tr Fz.w
  have k3 : u3 81 25 = nI (z 25) := by rw [w3.1 25 (by decide), pt_n (by omega), pt_n (by omega), pt_n (by omega)]
  refine ⟨up u3 81 25 (nI (z 25 + 1)), ?_, fu3.tr Fz.w, w3.w (by decide), cu3.w⟩
  simp -dsimp -implicitDefEqProofs (disch := omega) only [bnd_u, gd_t, if_true, if_false, ↓reduceIte, eq_self, true_or, or_true, false_or, or_false, not_true_eq_false, not_false_eq_true, and_true, true_and, and_false, false_and, reduceCtorEq, nI_ge, nI_le, nI_lt, nI_nlt, nI_ne, nI_te, nm_eq, mn_eq, nm_le, mn_le, nm_lt, mn_lt, pk_mul, nI_add, pk_sub, nI_clamp, eX9_readMore, eX9_readMore_201, hMo, k0, e1, ← eu1, e2, ← eu2, e3, ← eu3, k3]
theorem m_bWork {g : Gg} {b : Nat → Nat} {n : Nat} {t : Nat × Nat} {z : Nat → Nat} (hT : Tb g n b) (hC : Cg g b n t) (hR : Rf g z) (h5 : z 56 < 5) (h78 : z 78 ≤ 5) : ∃ g', FX9_readMore 78 (nI 7) (mk g) = some ((), mk g') ∧ Fz g g' ∧ Rf g' (bWork b n t z).2 ∧ Cg g' b n (bWork b n t z).1 := by
  have k0 := hR.1 56 (by decide)
  unfold bWork bWork2 bWork3 bWork4
  obtain ⟨g1, e1, f1, c1, o1⟩ := m_oneH hT hC hR.2.2.2.2.2 h78
  revert e1 c1 o1
  generalize nu b n 0 (fO 0 4 0) t = A
  intro e1 c1 o1
  have r1 : Rf g1 (hiW z A.1) := hR.h f1 (by decide) o1
  obtain ⟨y, ey⟩ : ∃ y, y = hiW z A.1 := ⟨_, rfl⟩
  have y56 : y 56 = z 56 := by rw [ey]; exact pt_n (by decide)
  rw [← ey] at r1 ⊢
  unfold addW
  rw [y56]
  have w1 := r1.w (i := 36 + 4 * z 56) (v := A.1) (by omega)
  have cu1 := c1.w (i := 36 + 4 * z 56) (x := nI A.1)
  obtain ⟨u1, eu1⟩ : ∃ u, u = up g1 81 (36 + 4 * z 56) (nI A.1) := ⟨_, rfl⟩
  rw [← eu1] at w1 cu1
  have fu1 : Fz g u1 := by rw [eu1]; exact (Fz.c f1 (by decide)).tr Fz.w
  obtain ⟨g2, e2, f2, c2⟩ := m_other (lo := 0) (hi := 9) (x := 0) (hT.z fu1) cu1 (by decide) (by decide) (by decide)
  have hB := (nu_rg b n (lo := 0) (hi := 9) (x := 0) A.2 (by decide)).2
  revert e2 c2 hB
  generalize nu b n 0 (fO 0 9 0) A.2 = B
  intro e2 c2 hB
  have w2 := (w1.c f2 (by decide)).w (i := 36 + 4 * z 56 + 1) (v := B.1) (by omega)
  have cu2 := c2.w (i := 36 + 4 * z 56 + 1) (x := nI B.1)
  obtain ⟨u2, eu2⟩ : ∃ u, u = up g2 81 (36 + 4 * z 56 + 1) (nI B.1) := ⟨_, rfl⟩
  have k2 : u2 81 (36 + 4 * z 56 + 1) = nI B.1 := by rw [eu2, up_c, pk_us]
  rw [← eu2] at w2 cu2
  have fu2 : Fz g u2 := by rw [eu2]; exact (fu1.tr (Fz.c f2 (by decide))).tr Fz.w
  obtain ⟨g3, e3, f3, c3⟩ := m_other (lo := B.1) (hi := 9) (x := 0) (hT.z fu2) cu2 (by omega) (by decide) (by decide)
  revert e3 c3
  generalize nu b n B.1 (fO B.1 9 0) B.2 = C
  intro e3 c3
  have w3 := (w2.c f3 (by decide)).w (i := 36 + 4 * z 56 + 2) (v := C.1) (by omega)
  have cu3 := c3.w (i := 36 + 4 * z 56 + 2) (x := nI C.1)
  obtain ⟨u3, eu3⟩ : ∃ u, u = up g3 81 (36 + 4 * z 56 + 2) (nI C.1) := ⟨_, rfl⟩
  rw [← eu3] at w3 cu3
  have fu3 : Fz g u3 := by rw [eu3]; exact (fu2.tr (Fz.c f3 (by decide))).tr Fz.w
  obtain ⟨g4, e4, f4, c4⟩ := m_other (lo := 1) (hi := 9) (x := 0) (hT.z fu3) cu3 (by decide) (by decide) (by decide)
  revert e4 c4
  generalize nu b n 1 (fO 1 9 0) C.2 = D
  intro e4 c4
  have w4 := (w3.c f4 (by decide)).w (i := 36 + 4 * z 56 + 3) (v := D.1) (by omega)
  have cu4 := c4.w (i := 36 + 4 * z 56 + 3) (x := nI D.1)
  obtain ⟨u4, eu4⟩ : ∃ u, u = up g4 81 (36 + 4 * z 56 + 3) (nI D.1) := ⟨_, rfl⟩
  rw [← eu4] at w4 cu4
  have fu4 : Fz g u4 := by rw [eu4]; exact (fu3.tr (Fz.c f4 (by decide))).tr Fz.w
  have k4 : u4 81 56 = nI (z 56) := by rw [w4.1 56 (by decide), pt_n (by omega), pt_n (by omega), pt_n (by omega), pt_n (by omega), y56]
  refine ⟨up u4 81 56 (nI (z 56 + 1)), ?_, fu4.tr Fz.w, w4.w (by decide), cu4.w⟩
  simp -dsimp -implicitDefEqProofs (disch := omega) only [bnd_u, gd_t, if_true, if_false, ↓reduceIte, eq_self, true_or, or_true, false_or, or_false, not_true_eq_false, not_false_eq_true, and_true, true_and, and_false, false_and, reduceCtorEq, nI_ge, nI_le, nI_lt, nI_nlt, nI_ne, nI_te, nm_eq, mn_eq, nm_le, mn_le, nm_lt, mn_lt, pk_mul, nI_add, pk_sub, nI_clamp, eX9_readMore, eX9_readMore_201, eX9_readWork, hMo, k0, e1, ← eu1, e2, ← eu2, k2, e3, ← eu3, e4, ← eu4, k4]
theorem tell_z {z : Nat → Nat} {a x y m1 m2 : Nat} (h : a < 70) : pt (pt (pt (pt z a x) 78 m1) (a + 1) y) 78 m2 = pt (pt (pt z 78 m2) a x) (a + 1) y := by
  funext i
  by_cases h0 : i = 78
  · subst h0
    rw [pt_s, pt_n (by omega), pt_n (by omega), pt_s]
  · rw [pt_n h0]
    by_cases h1 : i = a + 1
    · subst h1
      rw [pt_s, pt_s]
    · rw [pt_n h1, pt_n h0, pt_n h1]
      by_cases h2 : i = a
      · subst h2
        rw [pt_s, pt_s]
      · rw [pt_n h2, pt_n h2, pt_n h0]
theorem m_bTell {g : Gg} {b : Nat → Nat} {n : Nat} {t : Nat × Nat} {z : Nat → Nat} (hT : Tb g n b) (hC : Cg g b n t) (hR : Rf g z) (h4 : z 73 < 4) (h78 : z 78 ≤ 5) : ∃ g', FX9_readMore 78 (nI 8) (mk g) = some ((), mk g') ∧ Fz g g' ∧ Rf g' (bTell b n t z).2 ∧ Cg g' b n (bTell b n t z).1 := by
  have k0 := hR.1 73 (by decide)
  unfold bTell bTell2 bTell3 bTell4
  obtain ⟨g1, e1, f1, c1⟩ := m_other (lo := 0) (hi := 9) (x := 0) hT hC (by decide) (by decide) (by decide)
  revert e1 c1
  generalize nu b n 0 (fO 0 9 0) t = A
  intro e1 c1
  have w1 := (hR.c f1 (by decide)).w (i := 57 + 4 * z 73) (v := A.1) (by omega)
  have cu1 := c1.w (i := 57 + 4 * z 73) (x := nI A.1)
  obtain ⟨u1, eu1⟩ : ∃ u, u = up g1 81 (57 + 4 * z 73) (nI A.1) := ⟨_, rfl⟩
  rw [← eu1] at w1 cu1
  have fu1 : Fz g u1 := by rw [eu1]; exact (Fz.c f1 (by decide)).tr Fz.w
  have m1 : u1 78 8 = hm (z 78) := by rw [w1.2.2.2.2.2, pt_n (by omega)]
  obtain ⟨g2, e2, f2, c2, o2⟩ := m_oneH (hT.z fu1) cu1 m1 h78
  have hB := (nu_rg b n (lo := 0) (hi := 4) (x := 0) A.2 (by decide)).2
  revert e2 c2 o2 hB
  generalize nu b n 0 (fO 0 4 0) A.2 = B
  intro e2 c2 o2 hB
  have w2 := (w1.h f2 (by decide) o2).w (i := 57 + 4 * z 73 + 1) (v := B.1) (by omega)
  have cu2 := c2.w (i := 57 + 4 * z 73 + 1) (x := nI B.1)
  obtain ⟨u2, eu2⟩ : ∃ u, u = up g2 81 (57 + 4 * z 73 + 1) (nI B.1) := ⟨_, rfl⟩
  have k2 : u2 81 (57 + 4 * z 73 + 1) = nI B.1 := by rw [eu2, up_c, pk_us]
  rw [← eu2] at w2 cu2
  have fu2 : Fz g u2 := by rw [eu2]; exact (fu1.tr (Fz.c f2 (by decide))).tr Fz.w
  have m2 : u2 78 8 = hm (max (z 78) (B.1 + 1)) := by rw [w2.2.2.2.2.2, pt_n (by omega), pt_s]
  have hmx : max (z 78) (B.1 + 1) ≤ 5 := Nat.max_le.mpr ⟨h78, by omega⟩
  -- another than the first
  obtain ⟨v2, e9, fv2, cv2, kv2⟩ : ∃ v2, FX9_readMore 78 (nI 8) (mk g) = (bnd (FX9_readTell_74 78 (nI (57 + 4 * z 73)) (mk v2)) (fun q1 => FX9_readMore_201 q1.2) ()) ∧ Fc 78 [12, 13] u2 v2 ∧ Cg v2 b n (dif b n B.1 B.2) ∧ v2 78 8 = u2 78 8 := by
    rcases cu2.cs with ⟨c, s, c0, c1, h12, h13, -, -, hdf, -⟩ | ⟨p, s, ep, es, hp, hs, hge, k4, h12, h14, h15, h16, h17⟩
    · refine ⟨u2, ?_, Fc.refl, by rw [hdf]; exact cu2, rfl⟩
      simp -dsimp -implicitDefEqProofs (disch := omega) only [bnd_u, gd_t, if_true, if_false, ↓reduceIte, eq_self, true_or, or_true, false_or, or_false, not_true_eq_false, not_false_eq_true, and_true, true_and, and_false, false_and, reduceCtorEq, nI_ge, nI_le, nI_lt, nI_nlt, nI_ne, nI_te, nm_eq, mn_eq, nm_le, mn_le, nm_lt, mn_lt, pk_mul, nI_add, pk_sub, nI_clamp, eX9_readMore, eX9_readTell, hMo, k0, e1, ← eu1, e2, ← eu2, h12]
    · by_cases hk : kK b n s = 2
      · rw [hk] at h16
        have hvl := kV_le b n s
        by_cases hd : kV b n s = B.1
        · have hmm := m_fails0 (c := 3) h12 h15
          rw [hd] at h17
          have ed : dif b n B.1 B.2 = (3, s) := by
            rw [ep]
            show (if (0 : Nat) ≠ 0 then _ else _) = _
            rw [if_neg (by decide)]
            show (if kK b n (sk b n p) = 2 ∧ kV b n (sk b n p) = B.1 then (3, sk b n p) else (0, p)) = _
            rw [← es, if_pos ⟨hk, hd⟩]
          refine ⟨up (up u2 78 12 (nI 3)) 78 13 (nI s), ?_, (Fc.u (by decide)).ux (by decide), ?_, ?_⟩
          · simp -dsimp -implicitDefEqProofs (disch := omega) only [bnd_u, gd_t, if_true, if_false, ↓reduceIte, eq_self, true_or, or_true, false_or, or_false, not_true_eq_false, not_false_eq_true, and_true, true_and, and_false, false_and, reduceCtorEq, nI_ge, nI_le, nI_lt, nI_nlt, nI_ne, nI_te, nm_eq, mn_eq, nm_le, mn_le, nm_lt, mn_lt, pk_mul, nI_add, pk_sub, nI_clamp, eX9_readMore, eX9_readTell, hMo, k0, e1, ← eu1, e2, ← eu2, h12, h16, h17, k2, hmm]
          · rw [ed]
            refine Cg.bk (by decide) (by decide) ?_ ?_
            · rw [up_c, pk_un (by decide), up_c, pk_us]
            · rw [up_c, pk_us]
          · rw [up_c, pk_un (by decide), up_c, pk_un (by decide)]
        · have ed : dif b n B.1 B.2 = B.2 := by
            rw [ep]
            show (if (0 : Nat) ≠ 0 then _ else _) = _
            rw [if_neg (by decide)]
            show (if kK b n (sk b n p) = 2 ∧ kV b n (sk b n p) = B.1 then (3, sk b n p) else (0, p)) = _
            rw [← es, if_neg (fun h => hd h.2)]
          refine ⟨u2, ?_, Fc.refl, by rw [ed]; exact cu2, rfl⟩
          simp -dsimp -implicitDefEqProofs (disch := omega) only [bnd_u, gd_t, if_true, if_false, ↓reduceIte, eq_self, true_or, or_true, false_or, or_false, not_true_eq_false, not_false_eq_true, and_true, true_and, and_false, false_and, reduceCtorEq, nI_ge, nI_le, nI_lt, nI_nlt, nI_ne, nI_te, nm_eq, mn_eq, nm_le, mn_le, nm_lt, mn_lt, pk_mul, nI_add, pk_sub, nI_clamp, eX9_readMore, eX9_readTell, hMo, k0, e1, ← eu1, e2, ← eu2, h12, h16, h17, k2]
      · have ed : dif b n B.1 B.2 = B.2 := by
          rw [ep]
          show (if (0 : Nat) ≠ 0 then _ else _) = _
          rw [if_neg (by decide)]
          show (if kK b n (sk b n p) = 2 ∧ kV b n (sk b n p) = B.1 then (3, sk b n p) else (0, p)) = _
          rw [← es, if_neg (fun h => hk h.1)]
        have hkl := kK_le b n s
        refine ⟨u2, ?_, Fc.refl, by rw [ed]; exact cu2, rfl⟩
        simp -dsimp -implicitDefEqProofs (disch := omega) only [bnd_u, gd_t, if_true, if_false, ↓reduceIte, eq_self, true_or, or_true, false_or, or_false, not_true_eq_false, not_false_eq_true, and_true, true_and, and_false, false_and, reduceCtorEq, nI_ge, nI_le, nI_lt, nI_nlt, nI_ne, nI_te, nm_eq, mn_eq, nm_le, mn_le, nm_lt, mn_lt, pk_mul, nI_add, pk_sub, nI_clamp, eX9_readMore, eX9_readTell, hMo, k0, e1, ← eu1, e2, ← eu2, h12, h16]
  rw [e9]
  have wv2 := w2.c fv2 (by decide)
  have fv : Fz g v2 := fu2.tr (Fz.c fv2 (by decide))
  obtain ⟨g3, e3, f3, c3, o3⟩ := m_oneH (hT.z fv) cv2 (kv2.trans m2) hmx
  revert e3 c3 o3
  generalize nu b n 0 (fO 0 4 0) (dif b n B.1 B.2) = C
  intro e3 c3 o3
  have w3 := wv2.h f3 (by decide) o3
  rw [tell_z (by omega)] at w3
  obtain ⟨y, ey⟩ : ∃ y, y = hiE z B.1 C.1 := ⟨_, rfl⟩
  have y73 : y 73 = z 73 := by rw [ey]; exact pt_n (by decide)
  have w3 : Rf g3 (pt (pt (hiE z B.1 C.1) (57 + 4 * z 73) A.1) (57 + 4 * z 73 + 1) B.1) := w3
  rw [← ey] at w3 ⊢
  unfold addE
  rw [y73]
  have w3 := w3.w (i := 57 + 4 * z 73 + 2) (v := C.1) (by omega)
  have cu3 := c3.w (i := 57 + 4 * z 73 + 2) (x := nI C.1)
  obtain ⟨u3, eu3⟩ : ∃ u, u = up g3 81 (57 + 4 * z 73 + 2) (nI C.1) := ⟨_, rfl⟩
  rw [← eu3] at w3 cu3
  have fu3 : Fz g u3 := by rw [eu3]; exact (fv.tr (Fz.c f3 (by decide))).tr Fz.w
  obtain ⟨g4, e4, f4, c4⟩ := m_other (lo := 0) (hi := 2) (x := 0) (hT.z fu3) cu3 (by decide) (by decide) (by decide)
  revert e4 c4
  generalize nu b n 0 (fO 0 2 0) C.2 = D
  intro e4 c4
  have w4 := (w3.c f4 (by decide)).w (i := 57 + 4 * z 73 + 3) (v := D.1) (by omega)
  have cu4 := c4.w (i := 57 + 4 * z 73 + 3) (x := nI D.1)
  obtain ⟨u4, eu4⟩ : ∃ u, u = up g4 81 (57 + 4 * z 73 + 3) (nI D.1) := ⟨_, rfl⟩
  rw [← eu4] at w4 cu4
  have fu4 : Fz g u4 := by rw [eu4]; exact (fu3.tr (Fz.c f4 (by decide))).tr Fz.w
  have k4 : u4 81 73 = nI (z 73) := by rw [w4.1 73 (by decide), pt_n (by omega), pt_n (by omega), pt_n (by omega), pt_n (by omega), y73]
  refine ⟨up u4 81 73 (nI (z 73 + 1)), ?_, fu4.tr Fz.w, w4.w (by decide), cu4.w⟩
  simp -dsimp -implicitDefEqProofs (disch := omega) only [bnd_u, gd_t, if_true, if_false, ↓reduceIte, eq_self, true_or, or_true, false_or, or_false, not_true_eq_false, not_false_eq_true, and_true, true_and, and_false, false_and, reduceCtorEq, nI_ge, nI_le, nI_lt, nI_nlt, nI_ne, nI_te, nm_eq, mn_eq, nm_le, mn_le, nm_lt, mn_lt, pk_mul, nI_add, pk_sub, nI_clamp, eX9_readTell_74, eX9_readMore_201, hMo, e3, ← eu3, e4, ← eu4, k4]
