/-! text: the reference's TOKEN -/
def Tb (g : Gg) (n : Nat) (b : Nat → Nat) : Prop := n ≤ 160 ∧ g 78 10 = nI n ∧ ∀ j, j < n → b j < 128 ∧ g 82 j = nI (b j)
theorem Tb.f {g g' : Gg} {n : Nat} {b : Nat → Nat} (h : Tb g n b) (h78 : g' 78 10 = g 78 10) (h82 : g' 82 = g 82) : Tb g' n b := by
  unfold Tb
  rw [h78, h82]; exact h
theorem Tb.c {g g' : Gg} {n : Nat} {l : List Nat} {b : Nat → Nat} (h : Tb g n b) (hf : Fc 78 l g g') (hl : 10 ∉ l) : Tb g' n b := h.f (hf.2 10 hl) (hf.1 82 (by decide))
theorem Tb.a {g : Gg} {n p : Nat} {b : Nat → Nat} (h : Tb g n b) (hp : p < n) : FX9_byteAt 78 (nI p) (mk g) = some (nI (b p), mk g) := by
  have h1 := h.1
  have h2 := h.2.1
  have h3 := (h.2.2 p hp).2
  simp -dsimp -implicitDefEqProofs (disch := omega) only [bnd_u, gd_t, if_true, if_false, ↓reduceIte, eq_self, true_or, or_true, false_or, or_false, not_true_eq_false, not_false_eq_true, and_true, true_and, and_false, false_and, reduceCtorEq, nI_ge, nI_le, nI_lt, nI_nlt, nI_ne, nI_te, nm_eq, mn_eq, nm_le, mn_le, nm_lt, mn_lt, pk_mul, nI_add, pk_sub, nI_clamp, eX9_byteAt, eX9_byteAt_19, hMo, h2, h3]
theorem Tb.n {g : Gg} {n : Nat} {b : Nat → Nat} (h : Tb g n b) : FX9_byteAt 78 (nI n) (mk g) = some (mi 4, mk g) := by
  have h1 := h.1
  have h2 := h.2.1
  simp -dsimp -implicitDefEqProofs (disch := omega) only [bnd_u, gd_t, if_true, if_false, ↓reduceIte, eq_self, true_or, or_true, false_or, or_false, not_true_eq_false, not_false_eq_true, and_true, true_and, and_false, false_and, reduceCtorEq, nI_ge, nI_le, nI_lt, nI_nlt, nI_ne, nI_te, nm_eq, mn_eq, nm_le, mn_le, nm_lt, mn_lt, pk_mul, nI_add, pk_sub, nI_clamp, eX9_byteAt, eX9_byteAt_19, hMo, h2]
theorem m_L {M : Hx} {x : Nat} (h : isL x = true) : FX9_in (nI x).toInt64 (lN 97) (lN 122) M = some (nI 1, M) := by
  have h := isL_t h
  rw [nI_l (by omega)]
  exact m_in h.1 h.2 (by decide)
theorem m_LN {M : Hx} {x : Nat} (h : isL x = false) (hx : x < 128) : FX9_in (nI x).toInt64 (lN 97) (lN 122) M = some (nI 0, M) := by
  rw [nI_l (by omega)]
  rcases isL_f h with h | h
  · exact m_inL ((lN_lt (by omega) (by decide)).mpr h)
  · exact m_inH ((lN_lt (by decide) (by omega)).mpr h)
theorem m_L4 {M : Hx} : FX9_in (mi 4).toInt64 (lN 97) (lN 122) M = some (nI 0, M) := m_inL (by decide)
theorem m_F {M : Hx} {x : Nat} (h : isF x = true) : FX9_in (nI x).toInt64 (lN 48) (lN 57) M = some (nI 1, M) := by
  have h := isF_t h
  rw [nI_l (by omega)]
  exact m_in h.1 h.2 (by decide)
theorem m_FN {M : Hx} {x : Nat} (h : isF x = false) (hx : x < 128) : FX9_in (nI x).toInt64 (lN 48) (lN 57) M = some (nI 0, M) := by
  rw [nI_l (by omega)]
  rcases isF_f h with h | h
  · exact m_inL ((lN_lt (by omega) (by decide)).mpr h)
  · exact m_inH ((lN_lt (by decide) (by omega)).mpr h)
theorem m_F4 {M : Hx} : FX9_in (mi 4).toInt64 (lN 48) (lN 57) M = some (nI 0, M) := m_inL (by decide)
theorem m_fails0 {g : Gg} {c s : Nat} (h12 : g 78 12 = nI 0) (h15 : g 78 15 = nI s) : FX9_fails 78 (nI c) (mk g) = some ((), mk (up (up g 78 12 (nI c)) 78 13 (nI s))) := by
  have k : up g 78 12 (nI c) 78 15 = nI s := by rw [up_c, pk_un (by decide), h15]
  simp -dsimp -implicitDefEqProofs (disch := omega) only [bnd_u, gd_t, if_true, if_false, ↓reduceIte, eq_self, true_or, or_true, false_or, or_false, not_true_eq_false, not_false_eq_true, and_true, true_and, and_false, false_and, reduceCtorEq, nI_ge, nI_le, nI_lt, nI_nlt, nI_ne, nI_te, nm_eq, mn_eq, nm_le, mn_le, nm_lt, mn_lt, pk_mul, nI_add, pk_sub, nI_clamp, eX9_fails, eX9_fails_20, hMo, h12, k]
theorem m_failsN {g : Gg} {c : Nat} {x : Int32} (h12 : g 78 12 = nI c) (h0 : 0 < c) (h1 : c < 100) : FX9_fails 78 x (mk g) = some ((), mk g) := by
  simp -dsimp -implicitDefEqProofs (disch := omega) only [bnd_u, gd_t, if_true, if_false, ↓reduceIte, eq_self, true_or, or_true, false_or, or_false, not_true_eq_false, not_false_eq_true, and_true, true_and, and_false, false_and, reduceCtorEq, nI_ge, nI_le, nI_lt, nI_nlt, nI_ne, nI_te, nm_eq, mn_eq, nm_le, mn_le, nm_lt, mn_lt, pk_mul, nI_add, pk_sub, nI_clamp, eX9_fails, eX9_fails_20, hMo, h12]
theorem m_pass {b : Nat → Nat} {n : Nat} : ∀ (d fuel p : Nat) (g : Gg), p + d = n → d < fuel → Tb g n b → g 78 14 = nI p → ∃ g', FX9_step_84 fuel 78 (mk g) = some ((), mk g') ∧ Fc 78 [14, 16] g g' ∧ g' 78 14 = nI (ps isL b d p) ∧ g' 78 16 = nI 1
  | 0, fuel, p, g, hd, hf, hT, h14 => by
    obtain ⟨m, rfl⟩ : ∃ m, fuel = m + 1 := ⟨fuel - 1, by omega⟩
    have hB := hT.n
    cases (show p = n by omega)
    refine ⟨up g 78 16 (nI 1), ?_, Fc.u (by decide), ?_, ?_⟩
    · simp -dsimp -implicitDefEqProofs (disch := omega) only [bnd_u, gd_t, if_true, if_false, ↓reduceIte, eq_self, true_or, or_true, false_or, or_false, not_true_eq_false, not_false_eq_true, and_true, true_and, and_false, false_and, reduceCtorEq, nI_ge, nI_le, nI_lt, nI_nlt, nI_ne, nI_te, nm_eq, mn_eq, nm_le, mn_le, nm_lt, mn_lt, pk_mul, nI_add, pk_sub, nI_clamp, eX9_step_84, eX9_step_269, hMo, h14, hB, m_L4]
    · rw [up_c, pk_un (by decide), h14]; rfl
    · rw [up_c, pk_us]
  | d + 1, fuel, p, g, hd, hf, hT, h14 => by
    obtain ⟨m, rfl⟩ : ∃ m, fuel = m + 1 := ⟨fuel - 1, by omega⟩
    have hB := hT.a (p := p) (by omega)
    have hb := (hT.2.2 p (by omega)).1
    cases hc : isL (b p)
    · have hl := fun M => m_LN (M := M) hc hb
      refine ⟨up g 78 16 (nI 1), ?_, Fc.u (by decide), ?_, ?_⟩
      · simp -dsimp -implicitDefEqProofs (disch := omega) only [bnd_u, gd_t, if_true, if_false, ↓reduceIte, eq_self, true_or, or_true, false_or, or_false, not_true_eq_false, not_false_eq_true, and_true, true_and, and_false, false_and, reduceCtorEq, nI_ge, nI_le, nI_lt, nI_nlt, nI_ne, nI_te, nm_eq, mn_eq, nm_le, mn_le, nm_lt, mn_lt, pk_mul, nI_add, pk_sub, nI_clamp, eX9_step_84, eX9_step_269, hMo, h14, hB, hl]
      · rw [up_c, pk_un (by decide), h14, ps_f hc]
      · rw [up_c, pk_us]
    · have hl := fun M => m_L (M := M) hc
      have k : up g 78 14 (nI (p + 1)) 78 14 = nI (p + 1) := by rw [up_c, pk_us]
      have fu1 : Fc 78 [14, 16] g (up g 78 14 (nI (p + 1))) := Fc.u (by decide)
      obtain ⟨g', e, f, r1, r2⟩ := m_pass d m (p + 1) (up g 78 14 (nI (p + 1))) (by omega) (by omega) (hT.c fu1 (by decide)) k
      refine ⟨g', ?_, fu1.tr f, ?_, r2⟩
      · simp -dsimp -implicitDefEqProofs (disch := omega) only [bnd_u, gd_t, if_true, if_false, ↓reduceIte, eq_self, true_or, or_true, false_or, or_false, not_true_eq_false, not_false_eq_true, and_true, true_and, and_false, false_and, reduceCtorEq, nI_ge, nI_le, nI_lt, nI_nlt, nI_ne, nI_te, nm_eq, mn_eq, nm_le, mn_le, nm_lt, mn_lt, pk_mul, nI_add, pk_sub, nI_clamp, eX9_step_84, eX9_step_269, hMo, h14, hB, hl, e]
      · rw [r1, ps_t hc]
theorem m_fige {g : Gg} {b : Nat → Nat} {n m p s : Nat} (hT : Tb g n b) (h14 : g 78 14 = nI p) (h15 : g 78 15 = nI s) (h12 : g 78 12 = nI 0) (hs : s ≤ p) (hp : p = n ∨ (p < n ∧ isF (b p) = false)) : ∃ g', FX9_step_140 (m + 1) 78 (mk g) = some ((), mk g') ∧ Fc 78 [12, 13, 16] g g' ∧ g' 78 16 = nI 2 ∧ ((p ≤ s + 2 ∧ g' 78 12 = nI 0) ∨ (s + 2 < p ∧ g' 78 12 = nI 1 ∧ g' 78 13 = nI s)) := by
  have hn := hT.1
  obtain ⟨w, ew⟩ : ∃ w, w = up g 78 16 (nI 2) := ⟨_, rfl⟩
  have fw : Fc 78 [12, 13, 16] g w := by rw [ew]; exact Fc.u (by decide)
  have wo : ∀ i, i ≠ 16 → w 78 i = g 78 i := fun i hi => by rw [ew, up_c, pk_un hi]
  have w14 : w 78 14 = nI p := by rw [wo 14 (by decide), h14]
  have w15 : w 78 15 = nI s := by rw [wo 15 (by decide), h15]
  have w12 : w 78 12 = nI 0 := by rw [wo 12 (by decide), h12]
  have w16 : w 78 16 = nI 2 := by rw [ew, up_c, pk_us]
  obtain ⟨x, hB, hin⟩ : ∃ x, FX9_byteAt 78 (nI p) (mk g) = some (x, mk g) ∧ ∀ M, FX9_in x.toInt64 (lN 48) (lN 57) M = some (nI 0, M) := by
    rcases hp with rfl | ⟨hp, hf⟩
    · exact ⟨_, hT.n, fun M => m_F4⟩
    · exact ⟨_, hT.a hp, fun M => m_FN hf (hT.2.2 p hp).1⟩
  have hpn : p ≤ n := by omega
  rcases Nat.lt_or_ge (s + 2) p with h | h
  · have hm := m_fails0 (c := 1) w12 w15
    refine ⟨up (up w 78 12 (nI 1)) 78 13 (nI s), ?_, (fw.ux (by decide)).ux (by decide), ?_, Or.inr ⟨h, ?_, ?_⟩⟩
    · simp -dsimp -implicitDefEqProofs (disch := omega) only [bnd_u, gd_t, if_true, if_false, ↓reduceIte, eq_self, true_or, or_true, false_or, or_false, not_true_eq_false, not_false_eq_true, and_true, true_and, and_false, false_and, reduceCtorEq, nI_ge, nI_le, nI_lt, nI_nlt, nI_ne, nI_te, nm_eq, mn_eq, nm_le, mn_le, nm_lt, mn_lt, pk_mul, nI_add, pk_sub, nI_clamp, eX9_step_140, eX9_step_269, hMo, h14, hB, hin, ← ew, w14, w15, hm]
    · rw [up_c, pk_un (by decide), up_c, pk_un (by decide), w16]
    · rw [up_c, pk_un (by decide), up_c, pk_us]
    · rw [up_c, pk_us]
  · refine ⟨w, ?_, fw, w16, Or.inl ⟨h, w12⟩⟩
    simp -dsimp -implicitDefEqProofs (disch := omega) only [bnd_u, gd_t, if_true, if_false, ↓reduceIte, eq_self, true_or, or_true, false_or, or_false, not_true_eq_false, not_false_eq_true, and_true, true_and, and_false, false_and, reduceCtorEq, nI_ge, nI_le, nI_lt, nI_nlt, nI_ne, nI_te, nm_eq, mn_eq, nm_le, mn_le, nm_lt, mn_lt, pk_mul, nI_add, pk_sub, nI_clamp, eX9_step_140, eX9_step_269, hMo, h14, hB, hin, ← ew, w14, w15]
theorem m_figs {b : Nat → Nat} {n s : Nat} : ∀ (d fuel p : Nat) (g : Gg), p + d = n → d < fuel → s ≤ p → Tb g n b → g 78 14 = nI p → g 78 15 = nI s → g 78 12 = nI 0 → g 78 17 = nI (vF b s (p - s)) → (∀ j, s ≤ j → j < p → isF (b j) = true) → ∃ g', FX9_step_140 fuel 78 (mk g) = some ((), mk g') ∧ Fc 78 [12, 13, 14, 16, 17] g g' ∧ g' 78 14 = nI (ps isF b d p) ∧ g' 78 16 = nI 2 ∧ g' 78 17 = nI (vF b s (ps isF b d p - s)) ∧ ((ps isF b d p ≤ s + 2 ∧ g' 78 12 = nI 0) ∨ (s + 2 < ps isF b d p ∧ g' 78 12 = nI 1 ∧ g' 78 13 = nI s))
  | 0, fuel, p, g, hd, hf, hs, hT, h14, h15, h12, h17, hj => by
    obtain ⟨m, rfl⟩ : ∃ m, fuel = m + 1 := ⟨fuel - 1, by omega⟩
    obtain ⟨g', e, f, r1, r2⟩ := m_fige (m := m) hT h14 h15 h12 hs (Or.inl (by omega))
    refine ⟨g', e, f.mo (by decide), ?_, r1, ?_, r2⟩
    · rw [f.2 14 (by decide), h14]; rfl
    · rw [f.2 17 (by decide), h17]; rfl
  | d + 1, fuel, p, g, hd, hf, hs, hT, h14, h15, h12, h17, hj => by
    obtain ⟨m, rfl⟩ : ∃ m, fuel = m + 1 := ⟨fuel - 1, by omega⟩
    have hn := hT.1
    have hB := hT.a (p := p) (by omega)
    have hb := (hT.2.2 p (by omega)).1
    cases hc : isF (b p)
    · obtain ⟨g', e, f, r1, r2⟩ := m_fige (m := m) hT h14 h15 h12 hs (Or.inr ⟨by omega, hc⟩)
      rw [ps_f hc]
      refine ⟨g', e, f.mo (by decide), ?_, r1, ?_, r2⟩
      · rw [f.2 14 (by decide), h14]
      · rw [f.2 17 (by decide), h17]
    · have hl := fun M => m_F (M := M) hc
      have hfp := isF_t hc
      obtain ⟨v, hv⟩ : ∃ v, v = vF b s (p + 1 - s) := ⟨_, rfl⟩
      obtain ⟨w, ew⟩ : ∃ w, w = up g 78 17 (nI v) := ⟨_, rfl⟩
      have wo : ∀ i, i ≠ 17 → w 78 i = g 78 i := fun i hi => by rw [ew, up_c, pk_un hi]
      have w14 : w 78 14 = nI p := by rw [wo 14 (by decide), h14]
      obtain ⟨u, eu⟩ : ∃ u, u = up w 78 14 (nI (p + 1)) := ⟨_, rfl⟩
      have fu1 : Fc 78 [12, 13, 14, 16, 17] g u := by rw [eu, ew]; exact (Fc.u (by decide)).ux (by decide)
      have uo : ∀ i, i ≠ 14 → u 78 i = w 78 i := fun i hi => by rw [eu, up_c, pk_un hi]
      have u14 : u 78 14 = nI (p + 1) := by rw [eu, up_c, pk_us]
      have u17 : u 78 17 = nI (vF b s (p + 1 - s)) := by rw [uo 17 (by decide), ew, up_c, pk_us, hv]
      obtain ⟨g', e, f, r1, r2, r3, r4⟩ := m_figs d m (p + 1) u (by omega) (by omega) (by omega) (hT.c fu1 (by decide)) u14 (by rw [uo 15 (by decide), wo 15 (by decide), h15]) (by rw [uo 12 (by decide), wo 12 (by decide), h12]) u17 (fun j h1 h2 => by
        by_cases hjp : j = p
        · rw [hjp]; exact hc
        · exact hj j h1 (by omega))
      rw [ps_t hc]
      refine ⟨g', ?_, fu1.tr f, r1, r2, r3, r4⟩
      rcases Nat.lt_or_ge p (s + 2) with h2 | h2
      · have ev : 10 * vF b s (p - s) + b p - 48 = v := by
          rw [hv]
          rcases (show p = s ∨ p = s + 1 by omega) with rfl | rfl
          · rw [show p - p = 0 by omega, show p + 1 - p = 1 by omega]
            show 10 * 0 + b p - 48 = b p - 48
            omega
          · rw [show s + 1 - s = 1 by omega, show s + 1 + 1 - s = 2 by omega]
            show 10 * (b s - 48) + b (s + 1) - 48 = 10 * (b s - 48) + (b (s + 1) - 48)
            omega
        simp -dsimp -implicitDefEqProofs (disch := omega) only [bnd_u, gd_t, if_true, if_false, ↓reduceIte, eq_self, true_or, or_true, false_or, or_false, not_true_eq_false, not_false_eq_true, and_true, true_and, and_false, false_and, reduceCtorEq, nI_ge, nI_le, nI_lt, nI_nlt, nI_ne, nI_te, nm_eq, mn_eq, nm_le, mn_le, nm_lt, mn_lt, pk_mul, nI_add, pk_sub, nI_clamp, eX9_step_140, eX9_step_201, hMo, h14, h15, h17, hB, hl, ev, ← ew, w14, ← eu, e]
      · have ev : vF b s (p - s) = v := by
          rw [hv]
          unfold vF
          rw [if_neg (by omega), if_neg (by omega), if_neg (by omega), if_neg (by omega)]
        simp -dsimp -implicitDefEqProofs (disch := omega) only [bnd_u, gd_t, if_true, if_false, ↓reduceIte, eq_self, true_or, or_true, false_or, or_false, not_true_eq_false, not_false_eq_true, and_true, true_and, and_false, false_and, reduceCtorEq, nI_ge, nI_le, nI_lt, nI_nlt, nI_ne, nI_te, nm_eq, mn_eq, nm_le, mn_le, nm_lt, mn_lt, pk_mul, nI_add, pk_sub, nI_clamp, eX9_step_140, eX9_step_201, hMo, h14, h15, h17, hB, hl, ev, ← ew, w14, ← eu, e]
/-- the reference's current TOKEN, whose first byte is at s -/
def Cu (g : Gg) (b : Nat → Nat) (n s : Nat) : Prop := (kK b n s = 4 ∧ g 78 12 = nI 1 ∧ g 78 13 = nI s) ∨ (kK b n s ≠ 4 ∧ g 78 12 = nI 0 ∧ g 78 14 = nI (kE b n s) ∧ g 78 15 = nI s ∧ g 78 16 = nI (kK b n s) ∧ g 78 17 = nI (kV b n s))
theorem m_tk {g : Gg} {b : Nat → Nat} {n m p : Nat} (hT : Tb g n b) (h14 : g 78 14 = nI p) (h12 : g 78 12 = nI 0) (hp : p = n ∨ (p < n ∧ b p ≠ 32)) : ∃ g', FX9_step_8 (m + 1) 78 (mk g) = some ((), mk g') ∧ Fc 78 [12, 13, 14, 15, 16, 17] g g' ∧ Cu g' b n p := by
  have hn := hT.1
  obtain ⟨v, ev⟩ : ∃ v, v = up g 78 15 (nI p) := ⟨_, rfl⟩
  have vo : ∀ i, i ≠ 15 → v 78 i = g 78 i := fun i hi => by rw [ev, up_c, pk_un hi]
  have fv : Fc 78 [12, 13, 14, 15, 16, 17] g v := by rw [ev]; exact Fc.u (by decide)
  have v14 : v 78 14 = nI p := by rw [vo 14 (by decide), h14]
  obtain ⟨x, ex⟩ : ∃ x, x = up v 78 17 (nI 0) := ⟨_, rfl⟩
  have xo : ∀ i, i ≠ 17 → x 78 i = v 78 i := fun i hi => by rw [ex, up_c, pk_un hi]
  have fx : Fc 78 [12, 13, 14, 15, 16, 17] g x := by rw [ex]; exact fv.ux (by decide)
  have hTv := hT.c fv (by decide)
  have hTx := hT.c fx (by decide)
  have x12 : x 78 12 = nI 0 := by rw [xo 12 (by decide), vo 12 (by decide), h12]
  have x14 : x 78 14 = nI p := by rw [xo 14 (by decide), v14]
  have x15 : x 78 15 = nI p := by rw [xo 15 (by decide), ev, up_c, pk_us]
  have x17 : x 78 17 = nI 0 := by rw [ex, up_c, pk_us]
  rcases hp with rfl | ⟨hp, h32⟩
  · have hB := hT.n
    have hBv := hTv.n
    have kk : kK b p p = 0 := if_pos (Nat.le_refl p)
    have ke : kE b p p = p := if_pos (Nat.le_refl p)
    have kv : kV b p p = 0 := if_pos (Nat.le_refl p)
    refine ⟨up x 78 16 (nI 0), ?_, fx.ux (by decide), Or.inr ⟨by omega, ?_, ?_, ?_, ?_, ?_⟩⟩
    · simp -dsimp -implicitDefEqProofs (disch := omega) only [bnd_u, gd_t, if_true, if_false, ↓reduceIte, eq_self, true_or, or_true, false_or, or_false, not_true_eq_false, not_false_eq_true, and_true, true_and, and_false, false_and, reduceCtorEq, nI_ge, nI_le, nI_lt, nI_nlt, nI_ne, nI_te, nm_eq, mn_eq, nm_le, mn_le, nm_lt, mn_lt, pk_mul, nI_add, pk_sub, nI_clamp, eX9_step_8, eX9_step_269, hMo, h14, hB, ← ev, v14, hBv, ← ex]
    · rw [up_c, pk_un (by decide), x12]
    · rw [up_c, pk_un (by decide), x14, ke]
    · rw [up_c, pk_un (by decide), x15]
    · rw [up_c, pk_us, kk]
    · rw [up_c, pk_un (by decide), x17, kv]
  · have hB := hT.a hp
    have hBv := hTv.a hp
    have hb := (hT.2.2 p hp).1
    cases hl : isL (b p)
    · have l0 := fun M => m_LN (M := M) hl hb
      cases hf : isF (b p)
      · have g0 := fun M => m_FN (M := M) hf hb
        obtain ⟨y, ey⟩ : ∃ y, y = up x 78 16 (nI 3) := ⟨_, rfl⟩
        have yo : ∀ i, i ≠ 16 → y 78 i = x 78 i := fun i hi => by rw [ey, up_c, pk_un hi]
        have y14 : y 78 14 = nI p := by rw [yo 14 (by decide), x14]
        have fy : Fc 78 [12, 13, 14, 15, 16, 17] g y := by rw [ey]; exact fx.ux (by decide)
        obtain ⟨z, ez⟩ : ∃ z, z = up y 78 14 (nI (p + 1)) := ⟨_, rfl⟩
        have zo : ∀ i, i ≠ 14 → z 78 i = y 78 i := fun i hi => by rw [ez, up_c, pk_un hi]
        have fz : Fc 78 [12, 13, 14, 15, 16, 17] g z := by rw [ez]; exact fy.ux (by decide)
        have z12 : z 78 12 = nI 0 := by rw [zo 12 (by decide), yo 12 (by decide), x12]
        have z15 : z 78 15 = nI p := by rw [zo 15 (by decide), yo 15 (by decide), x15]
        by_cases h59 : b p = 59
        · have kk : kK b n p = 3 := by rw [kK, if_neg (by omega), hl, if_neg (by decide), hf, if_neg (by decide), if_pos h59]
          have ke : kE b n p = p + 1 := by rw [kE, if_neg (by omega), hl, if_neg (by decide), hf, if_neg (by decide)]
          have kv : kV b n p = 0 := by rw [kV, if_neg (by omega), hl, if_neg (by decide), hf, if_neg (by decide)]
          refine ⟨z, ?_, fz, Or.inr ⟨by omega, z12, ?_, z15, ?_, ?_⟩⟩
          · rw [h59] at hB hBv l0 g0
            simp -dsimp -implicitDefEqProofs (disch := omega) only [bnd_u, gd_t, if_true, if_false, ↓reduceIte, eq_self, true_or, or_true, false_or, or_false, not_true_eq_false, not_false_eq_true, and_true, true_and, and_false, false_and, reduceCtorEq, nI_ge, nI_le, nI_lt, nI_nlt, nI_ne, nI_te, nm_eq, mn_eq, nm_le, mn_le, nm_lt, mn_lt, pk_mul, nI_add, pk_sub, nI_clamp, eX9_step_8, eX9_step_269, hMo, h14, hB, ← ev, v14, hBv, ← ex, l0, g0, ← ey, y14, ← ez]
          · rw [ez, up_c, pk_us, ke]
          · rw [zo 16 (by decide), ey, up_c, pk_us, kk]
          · rw [zo 17 (by decide), yo 17 (by decide), x17, kv]
        · have kk : kK b n p = 4 := by rw [kK, if_neg (by omega), hl, if_neg (by decide), hf, if_neg (by decide), if_neg h59]
          have hm := m_fails0 (c := 1) z12 z15
          refine ⟨up (up z 78 12 (nI 1)) 78 13 (nI p), ?_, (fz.ux (by decide)).ux (by decide), Or.inl ⟨kk, ?_, ?_⟩⟩
          · simp -dsimp -implicitDefEqProofs (disch := omega) only [bnd_u, gd_t, if_true, if_false, ↓reduceIte, eq_self, true_or, or_true, false_or, or_false, not_true_eq_false, not_false_eq_true, and_true, true_and, and_false, false_and, reduceCtorEq, nI_ge, nI_le, nI_lt, nI_nlt, nI_ne, nI_te, nm_eq, mn_eq, nm_le, mn_le, nm_lt, mn_lt, pk_mul, nI_add, pk_sub, nI_clamp, eX9_step_8, eX9_step_269, hMo, h14, hB, ← ev, v14, hBv, ← ex, l0, g0, ← ey, y14, ← ez, hm]
          · rw [up_c, pk_un (by decide), up_c, pk_us]
          · rw [up_c, pk_us]
      · have g1 := fun M => m_F (M := M) hf
        obtain ⟨g', e, f, r1, r2, r3, r4⟩ := m_figs (s := p) (n - p) fu p x (by omega) (by rw [fu_1]; omega) (Nat.le_refl p) hTx x14 x15 x12 (by rw [x17, show p - p = 0 by omega]; rfl) (fun j h1 h2 => absurd h1 (by omega))
        have ke : kE b n p = eF b n p := by rw [kE, if_neg (by omega), hl, if_neg (by decide), hf, if_pos rfl]
        have kv : kV b n p = vF b p (eF b n p - p) := by rw [kV, if_neg (by omega), hl, if_neg (by decide), hf, if_pos rfl]
        refine ⟨g', ?_, fx.tr (f.mo (by decide)), ?_⟩
        · simp -dsimp -implicitDefEqProofs (disch := omega) only [bnd_u, gd_t, if_true, if_false, ↓reduceIte, eq_self, true_or, or_true, false_or, or_false, not_true_eq_false, not_false_eq_true, and_true, true_and, and_false, false_and, reduceCtorEq, nI_ge, nI_le, nI_lt, nI_nlt, nI_ne, nI_te, nm_eq, mn_eq, nm_le, mn_le, nm_lt, mn_lt, pk_mul, nI_add, pk_sub, nI_clamp, eX9_step_8, hMo, h14, hB, ← ev, v14, hBv, ← ex, l0, g1, e]
        · rcases r4 with ⟨c0, c1⟩ | ⟨c0, c1, c2⟩
          · have kk : kK b n p = 2 := by rw [kK, if_neg (by omega), hl, if_neg (by decide), hf, if_pos rfl]; exact if_pos c0
            refine Or.inr ⟨by omega, c1, by rw [r1, ke]; rfl, ?_, by rw [r2, kk], by rw [r3, kv]; rfl⟩
            rw [f.2 15 (by decide), x15]
          · have kk : kK b n p = 4 := by rw [kK, if_neg (by omega), hl, if_neg (by decide), hf, if_pos rfl]; exact if_neg (fun h => absurd c0 (Nat.not_lt.mpr h))
            exact Or.inl ⟨kk, c1, c2⟩
    · have l1 := fun M => m_L (M := M) hl
      obtain ⟨g', e, f, r1, r2⟩ := m_pass (n - p) fu p x (by omega) (by rw [fu_1]; omega) hTx x14
      have kk : kK b n p = 1 := by rw [kK, if_neg (by omega), hl, if_pos rfl]
      have ke : kE b n p = eL b n p := by rw [kE, if_neg (by omega), hl, if_pos rfl]
      have kv : kV b n p = 0 := by rw [kV, if_neg (by omega), hl, if_pos rfl]
      refine ⟨g', ?_, fx.tr (f.mo (by decide)), Or.inr ⟨by omega, ?_, by rw [r1, ke]; rfl, ?_, by rw [r2, kk], ?_⟩⟩
      · simp -dsimp -implicitDefEqProofs (disch := omega) only [bnd_u, gd_t, if_true, if_false, ↓reduceIte, eq_self, true_or, or_true, false_or, or_false, not_true_eq_false, not_false_eq_true, and_true, true_and, and_false, false_and, reduceCtorEq, nI_ge, nI_le, nI_lt, nI_nlt, nI_ne, nI_te, nm_eq, mn_eq, nm_le, mn_le, nm_lt, mn_lt, pk_mul, nI_add, pk_sub, nI_clamp, eX9_step_8, hMo, h14, hB, ← ev, v14, hBv, ← ex, l1, e]
      · rw [f.2 12 (by decide), x12]
      · rw [f.2 15 (by decide), x15]
      · rw [f.2 17 (by decide), x17, kv]
theorem m_sp {b : Nat → Nat} {n : Nat} : ∀ (d fuel p : Nat) (g : Gg), p + d = n → d < fuel → Tb g n b → g 78 14 = nI p → g 78 12 = nI 0 → ∃ g', FX9_step_8 fuel 78 (mk g) = some ((), mk g') ∧ Fc 78 [12, 13, 14, 15, 16, 17] g g' ∧ Cu g' b n (ps isS b d p)
  | 0, fuel, p, g, hd, hf, hT, h14, h12 => by
    obtain ⟨m, rfl⟩ : ∃ m, fuel = m + 1 := ⟨fuel - 1, by omega⟩
    have hpn : p = n := by omega
    exact m_tk (p := p) hT h14 h12 (Or.inl hpn)
  | d + 1, fuel, p, g, hd, hf, hT, h14, h12 => by
    obtain ⟨m, rfl⟩ : ∃ m, fuel = m + 1 := ⟨fuel - 1, by omega⟩
    by_cases e32 : b p = 32
    · have hc : isS (b p) = true := decide_eq_true e32
      have hB := hT.a (p := p) (by omega)
      have f1 : Fc 78 [12, 13, 14, 15, 16, 17] g (up g 78 14 (nI (p + 1))) := Fc.u (by decide)
      obtain ⟨g', e, f, r⟩ := m_sp d m (p + 1) (up g 78 14 (nI (p + 1))) (by omega) (by omega) (hT.c f1 (by decide)) (by rw [up_c, pk_us]) (by rw [up_c, pk_un (by decide), h12])
      rw [ps_t hc]
      refine ⟨g', ?_, f1.tr f, r⟩
      rw [e32] at hB
      simp -dsimp -implicitDefEqProofs (disch := omega) only [bnd_u, gd_t, if_true, if_false, ↓reduceIte, eq_self, true_or, or_true, false_or, or_false, not_true_eq_false, not_false_eq_true, and_true, true_and, and_false, false_and, reduceCtorEq, nI_ge, nI_le, nI_lt, nI_nlt, nI_ne, nI_te, nm_eq, mn_eq, nm_le, mn_le, nm_lt, mn_lt, pk_mul, nI_add, pk_sub, nI_clamp, eX9_step_8, hMo, h14, hB, e]
    · have hc : isS (b p) = false := decide_eq_false e32
      rw [ps_f hc]
      exact m_tk hT h14 h12 (Or.inr ⟨by omega, e32⟩)
theorem m_step {g : Gg} {b : Nat → Nat} {n p : Nat} (hT : Tb g n b) (h14 : g 78 14 = nI p) (h12 : g 78 12 = nI 0) (hp : p ≤ n) : ∃ g', FX9_step 78 (mk g) = some ((), mk g') ∧ Fc 78 [12, 13, 14, 15, 16, 17] g g' ∧ Cu g' b n (sk b n p) := by
  have hn := hT.1
  obtain ⟨g', e, f, r⟩ := m_sp (n - p) fu p g (by omega) (by rw [fu_1]; omega) hT h14 h12
  refine ⟨g', ?_, f, r⟩
  simp -dsimp -implicitDefEqProofs (disch := omega) only [bnd_u, gd_t, if_true, if_false, ↓reduceIte, eq_self, true_or, or_true, false_or, or_false, not_true_eq_false, not_false_eq_true, and_true, true_and, and_false, false_and, reduceCtorEq, nI_ge, nI_le, nI_lt, nI_nlt, nI_ne, nI_te, nm_eq, mn_eq, nm_le, mn_le, nm_lt, mn_lt, pk_mul, nI_add, pk_sub, nI_clamp, eX9_step, hMo, h12, e]
theorem m_stepB {g : Gg} {c : Nat} (h12 : g 78 12 = nI c) (h0 : 0 < c) (h1 : c < 100) : FX9_step 78 (mk g) = some ((), mk g) := by
  simp -dsimp -implicitDefEqProofs (disch := omega) only [bnd_u, gd_t, if_true, if_false, ↓reduceIte, eq_self, true_or, or_true, false_or, or_false, not_true_eq_false, not_false_eq_true, and_true, true_and, and_false, false_and, reduceCtorEq, nI_ge, nI_le, nI_lt, nI_nlt, nI_ne, nI_te, nm_eq, mn_eq, nm_le, mn_le, nm_lt, mn_lt, pk_mul, nI_add, pk_sub, nI_clamp, eX9_step, hMo, h12]
