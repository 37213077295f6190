/-! what holds between the calls -/
/-- an image: neither has it, or both have it and it is a page of K of kin -/
def Im1 (st sm : Int32) (ko kc to tc wo wc eo ec fv ro s : Nat → Int32) (o K : Nat) : Prop := (st = nI 0 ∧ sm = nI 0) ∨ (st = nI 1 ∧ sm = nI 1 ∧ ∃ p, Gd p K ∧ Fm ko kc to tc wo wc eo ec fv p K ∧ Ro ro p ∧ Md s o p)
def Im (g : Gg) (K : Nat) : Prop := Im1 (g 13 0) (g 90 0) (g 49) (g 50) (g 51) (g 52) (g 53) (g 54) (g 55) (g 56) (g 57) (g 58) (g 79) 74 K ∧ Im1 (g 13 1) (g 90 1) (g 60) (g 61) (g 62) (g 63) (g 64) (g 65) (g 66) (g 67) (g 68) (g 69) (g 79) 148 K
/-- what is seen: n rows z -/
def Sn (g : Gg) (K n : Nat) (z : Nat → Nat) : Prop := n ≤ 6 ∧ g 14 3 = nI n ∧ g 78 24 = nI n ∧ ∀ j, j < n → z (4 * j) < K ∧ z (4 * j + 1) < 3 ∧ z (4 * j + 2) < 10 ∧ z (4 * j + 3) ≤ 10 ∧ g 15 (j * 4 + 0) = nI (z (4 * j)) ∧ g 15 (j * 4 + 1) = nI (z (4 * j + 1)) ∧ g 15 (j * 4 + 2) = nI (z (4 * j + 2)) ∧ g 15 (j * 4 + 3) = ho (z (4 * j + 3)) ∧ g 88 (4 * j) = nI (z (4 * j)) ∧ g 88 (4 * j + 1) = nI (z (4 * j + 1)) ∧ g 88 (4 * j + 2) = nI (z (4 * j + 2)) ∧ g 88 (4 * j + 3) = ho (z (4 * j + 3))
/-- the tape: n bytes b -/
def Tp (g : Gg) (n : Nat) (b : Nat → Nat) : Prop := n ≤ 160 ∧ g 16 3 = nI n ∧ g 78 10 = nI n ∧ ∀ j, j < n → b j < 128 ∧ g 17 (j * 1 + 0) = nI (b j) ∧ g 82 j = nI (b j)
def Ft (g : Gg) : Prop := g 0 12 = g 78 11 ∧ g 0 13 = g 78 31
/-- a sheet -/
def Sh1 (po pc ls ns cs : Nat → Int32) (k : Nat) : Prop := (po 2 = mi 4 ∧ ls k = mi 4) ∨ ∃ l n, l ≤ 2 ∧ n ≤ 40 ∧ po 1 = nI l ∧ po 2 = nI n ∧ ls k = nI l ∧ ns k = nI n ∧ ∀ i, i < 40 → pc i = cs (40 * k + i)
def Sh (g : Gg) : Prop := Sh1 (g 70) (g 71) (g 91) (g 92) (g 93) 0 ∧ Sh1 (g 72) (g 73) (g 91) (g 92) (g 93) 1 ∧ Sh1 (g 74) (g 75) (g 91) (g 92) (g 93) 2 ∧ Sh1 (g 76) (g 77) (g 91) (g 92) (g 93) 3
/-- the reference's tables of names -/
def ctab : List Nat := [0, 5, 10, 13, 20, 25, 29, 33, 37, 41]
def ltab : List Nat := [112, 108, 97, 105, 110, 121, 111, 117, 110, 103, 111, 108, 100, 100, 114, 101, 97, 109, 101, 114, 116, 104, 105, 110, 103, 116, 117, 114, 110, 114, 111, 116, 97, 119, 111, 114, 107, 116, 101, 108, 108]
def Cs (g : Gg) : Prop := (∀ i, i < 10 → g 83 i = nI (ctab.getD i 0)) ∧ ∀ i, i < 41 → g 84 i = nI (ltab.getD i 0)
/-- the class's and the reference's states belong together: the page q, K of kin -/
def Iv (g : Gg) (q : Nat → Nat) (K : Nat) : Prop := Gd q K ∧ F1 g q K ∧ Ro (g 11) q ∧ Ms g q K ∧ Kp g ∧ Im g K ∧ (∃ n z, Sn g K n z) ∧ (∃ n b, Tp g n b) ∧ Ft g ∧ Sh g ∧ Pn g ∧ Cs g
theorem Iv.G {g : Gg} {q : Nat → Nat} {K : Nat} (h : Iv g q K) : Gd q K := h.1
theorem Iv.F {g : Gg} {q : Nat → Nat} {K : Nat} (h : Iv g q K) : F1 g q K := h.2.1
theorem Iv.R {g : Gg} {q : Nat → Nat} {K : Nat} (h : Iv g q K) : Ro (g 11) q := h.2.2.1
theorem Iv.M {g : Gg} {q : Nat → Nat} {K : Nat} (h : Iv g q K) : Ms g q K := h.2.2.2.1
theorem Iv.kp {g : Gg} {q : Nat → Nat} {K : Nat} (h : Iv g q K) : Kp g := h.2.2.2.2.1
theorem Iv.im {g : Gg} {q : Nat → Nat} {K : Nat} (h : Iv g q K) : Im g K := h.2.2.2.2.2.1
theorem Iv.sn {g : Gg} {q : Nat → Nat} {K : Nat} (h : Iv g q K) : ∃ n z, Sn g K n z := h.2.2.2.2.2.2.1
theorem Iv.tp {g : Gg} {q : Nat → Nat} {K : Nat} (h : Iv g q K) : ∃ n b, Tp g n b := h.2.2.2.2.2.2.2.1
theorem Iv.ft {g : Gg} {q : Nat → Nat} {K : Nat} (h : Iv g q K) : Ft g := h.2.2.2.2.2.2.2.2.1
theorem Iv.sh {g : Gg} {q : Nat → Nat} {K : Nat} (h : Iv g q K) : Sh g := h.2.2.2.2.2.2.2.2.2.1
theorem Iv.pn {g : Gg} {q : Nat → Nat} {K : Nat} (h : Iv g q K) : Pn g := h.2.2.2.2.2.2.2.2.2.2.1
theorem Iv.cs {g : Gg} {q : Nat → Nat} {K : Nat} (h : Iv g q K) : Cs g := h.2.2.2.2.2.2.2.2.2.2.2
/-- the cells that mean nothing between the calls -/
def scr : List Nat := [18, 19, 20, 21, 22, 23, 24, 25, 26, 27, 28, 29, 32, 33, 34, 36, 37, 39, 40, 46, 47, 81, 85, 86, 87, 89]
theorem Im.f {l : List Nat} {g g' : Gg} {K : Nat} (h : Im g K) (hf : Fr l g g') (hl : ∀ c ∈ [13, 48, 49, 50, 51, 52, 53, 54, 55, 56, 57, 58, 59, 60, 61, 62, 63, 64, 65, 66, 67, 68, 69, 79, 90], c ∉ l) : Im g' K := by
  unfold Im
  rw [hf 13 (hl 13 (by decide)), hf 49 (hl 49 (by decide)), hf 50 (hl 50 (by decide)), hf 51 (hl 51 (by decide)), hf 52 (hl 52 (by decide)), hf 53 (hl 53 (by decide)), hf 54 (hl 54 (by decide)), hf 55 (hl 55 (by decide)), hf 56 (hl 56 (by decide)), hf 57 (hl 57 (by decide)), hf 58 (hl 58 (by decide)), hf 60 (hl 60 (by decide)), hf 61 (hl 61 (by decide)), hf 62 (hl 62 (by decide)), hf 63 (hl 63 (by decide)), hf 64 (hl 64 (by decide)), hf 65 (hl 65 (by decide)), hf 66 (hl 66 (by decide)), hf 67 (hl 67 (by decide)), hf 68 (hl 68 (by decide)), hf 69 (hl 69 (by decide)), hf 79 (hl 79 (by decide)), hf 90 (hl 90 (by decide))]
  exact h
theorem Sn.f {l : List Nat} {g g' : Gg} {K n : Nat} {z : Nat → Nat} (h : Sn g K n z) (hf : Fr l g g') (hl : ∀ c ∈ [14, 15, 78, 88], c ∉ l) : Sn g' K n z := by
  unfold Sn
  rw [hf 14 (hl 14 (by decide)), hf 15 (hl 15 (by decide)), hf 78 (hl 78 (by decide)), hf 88 (hl 88 (by decide))]
  exact h
theorem Tp.f {l : List Nat} {g g' : Gg} {n : Nat} {b : Nat → Nat} (h : Tp g n b) (hf : Fr l g g') (hl : ∀ c ∈ [16, 17, 78, 82], c ∉ l) : Tp g' n b := by
  unfold Tp
  rw [hf 16 (hl 16 (by decide)), hf 17 (hl 17 (by decide)), hf 78 (hl 78 (by decide)), hf 82 (hl 82 (by decide))]
  exact h
theorem Ft.f {l : List Nat} {g g' : Gg} (h : Ft g) (hf : Fr l g g') (hl : ∀ c ∈ [0, 78], c ∉ l) : Ft g' := by
  unfold Ft
  rw [hf 0 (hl 0 (by decide)), hf 78 (hl 78 (by decide))]
  exact h
theorem Sh.f {l : List Nat} {g g' : Gg} (h : Sh g) (hf : Fr l g g') (hl : ∀ c ∈ [70, 71, 72, 73, 74, 75, 76, 77, 91, 92, 93], c ∉ l) : Sh g' := by
  unfold Sh
  rw [hf 70 (hl 70 (by decide)), hf 71 (hl 71 (by decide)), hf 72 (hl 72 (by decide)), hf 73 (hl 73 (by decide)), hf 74 (hl 74 (by decide)), hf 75 (hl 75 (by decide)), hf 76 (hl 76 (by decide)), hf 77 (hl 77 (by decide)), hf 91 (hl 91 (by decide)), hf 92 (hl 92 (by decide)), hf 93 (hl 93 (by decide))]
  exact h
theorem Pn.f {l : List Nat} {g g' : Gg} (h : Pn g) (hf : Fr l g g') (hl : ∀ c ∈ [38, 41, 42, 43, 44, 45], c ∉ l) : Pn g' := by
  unfold Pn Pq
  rw [hf 38 (hl 38 (by decide)), hf 41 (hl 41 (by decide)), hf 42 (hl 42 (by decide)), hf 43 (hl 43 (by decide)), hf 44 (hl 44 (by decide)), hf 45 (hl 45 (by decide))]
  exact h
theorem Kp.f {l : List Nat} {g g' : Gg} (h : Kp g) (hf : Fr l g g') (hl : 80 ∉ l) : Kp g' := by
  unfold Kp
  rw [hf 80 hl]
  exact h
theorem Cs.f {l : List Nat} {g g' : Gg} (h : Cs g) (hf : Fr l g g') (hl : ∀ c ∈ [83, 84], c ∉ l) : Cs g' := by
  unfold Cs
  rw [hf 83 (hl 83 (by decide)), hf 84 (hl 84 (by decide))]
  exact h
/-- only cells that mean nothing have changed -/
theorem Iv.f {l : List Nat} {g g' : Gg} {q : Nat → Nat} {K : Nat} (h : Iv g q K) (hf : Fr l g g') (hl : ∀ c ∈ l, c ∈ scr) : Iv g' q K := by
  have hs : Fr scr g g' := hf.mo (fun c hc hcl => hc (hl c hcl))
  obtain ⟨n, z, hsn⟩ := h.sn
  obtain ⟨m, b, htp⟩ := h.tp
  exact ⟨h.G, h.F.f hs (by decide), h.R.f hs (by decide), h.M.f hs (by decide), h.kp.f hs (by decide), h.im.f hs (by decide), ⟨n, z, hsn.f hs (by decide)⟩, ⟨m, b, htp.f hs (by decide)⟩, h.ft.f hs (by decide), h.sh.f hs (by decide), h.pn.f hs (by decide), h.cs.f hs (by decide)⟩
/-- class and reference answer alike, and belong together behind it -/
def Sim {ρ : Type} (a b : Hx → Option (ρ × Hx)) : Prop := ∀ g q K, Iv g q K → ∃ r g1 g2 p L, a (mk g) = some (r, mk g1) ∧ b (mk g1) = some (r, mk g2) ∧ Iv g2 p L
/-- of a call that changes nothing -/
theorem sim_ro {ρ : Type} {a b : Hx → Option (ρ × Hx)} (h : ∀ g q K, Iv g q K → ∃ r, (∃ g1 l, a (mk g) = some (r, mk g1) ∧ Fr l g g1 ∧ ∀ c ∈ l, c ∈ scr) ∧ ∀ g1, Iv g1 q K → Fr scr g g1 → ∃ g2 l, b (mk g1) = some (r, mk g2) ∧ Fr l g1 g2 ∧ ∀ c ∈ l, c ∈ scr) : Sim a b := by
  intro g q K hI
  obtain ⟨r, ⟨g1, l, e1, f1, s1⟩, h2⟩ := h g q K hI
  have hI1 := hI.f f1 s1
  obtain ⟨g2, l2, e2, f2, s2⟩ := h2 g1 hI1 (f1.mo (fun c hc hcl => hc (s1 c hcl)))
  exact ⟨r, g1, g2, q, K, e1, e2, hI1.f f2 s2⟩
theorem same {ρ : Type} {a : Hx → Option (ρ × Hx)} {r : ρ} {g : Gg} (h : a (mk g) = some (r, mk g)) : ∃ g1 l, a (mk g) = some (r, mk g1) ∧ Fr l g g1 ∧ ∀ c ∈ l, c ∈ scr := ⟨g, [], h, Fr.refl, fun c hc => absurd hc (by simp)⟩
theorem some1 {ρ : Type} {a : Hx → Option (ρ × Hx)} {r : ρ} {g g1 : Gg} {l : List Nat} (h : a (mk g) = some (r, mk g1)) (hf : Fr l g g1) (hl : ∀ c ∈ l, c ∈ scr) : ∃ g1 l, a (mk g) = some (r, mk g1) ∧ Fr l g g1 ∧ ∀ c ∈ l, c ∈ scr := ⟨g1, l, h, hf, hl⟩
/-! the class's looks at numbers -/
theorem c_hr {M : Hx} {h : Nat} (hh : h < 10) : FX8_isHour (nI h) M = some (nI 1, M) := by
  simp -dsimp -implicitDefEqProofs (disch := omega) only [bnd_u, gd_t, if_true, if_false, ↓reduceIte, eq_self, true_or, or_true, false_or, or_false, not_true_eq_false, not_false_eq_true, and_true, true_and, and_false, false_and, reduceCtorEq, nI_ge, nI_le, nI_lt, nI_nlt, nI_ne, nI_te, nm_eq, mn_eq, nm_le, mn_le, nm_lt, mn_lt, pk_mul, nI_add, pk_sub, nI_clamp, eX8_isHour, eX8_isHour_15]
theorem c_hrN {M : Hx} {x : Int32} (hx : x < nI 0 ∨ (¬ x < nI 0 ∧ nI 10 ≤ x)) : FX8_isHour x M = some (nI 0, M) := by
  rcases hx with h | ⟨h, h2⟩
  · simp -dsimp -implicitDefEqProofs (disch := omega) only [bnd_u, gd_t, if_true, if_false, ↓reduceIte, eq_self, true_or, or_true, false_or, or_false, not_true_eq_false, not_false_eq_true, and_true, true_and, and_false, false_and, reduceCtorEq, nI_ge, nI_le, nI_lt, nI_nlt, nI_ne, nI_te, nm_eq, mn_eq, nm_le, mn_le, nm_lt, mn_lt, pk_mul, nI_add, pk_sub, nI_clamp, eX8_isHour, eX8_isHour_14, eX8_isHour_15, h]
  · simp -dsimp -implicitDefEqProofs (disch := omega) only [bnd_u, gd_t, if_true, if_false, ↓reduceIte, eq_self, true_or, or_true, false_or, or_false, not_true_eq_false, not_false_eq_true, and_true, true_and, and_false, false_and, reduceCtorEq, nI_ge, nI_le, nI_lt, nI_nlt, nI_ne, nI_te, nm_eq, mn_eq, nm_le, mn_le, nm_lt, mn_lt, pk_mul, nI_add, pk_sub, nI_clamp, eX8_isHour, eX8_isHour_14, eX8_isHour_15, h, h2]
theorem c_thing {M : Hx} {h : Nat} (hh : h < 3) : FX8_isThing (nI h) M = some (nI 1, M) := by
  simp -dsimp -implicitDefEqProofs (disch := omega) only [bnd_u, gd_t, if_true, if_false, ↓reduceIte, eq_self, true_or, or_true, false_or, or_false, not_true_eq_false, not_false_eq_true, and_true, true_and, and_false, false_and, reduceCtorEq, nI_ge, nI_le, nI_lt, nI_nlt, nI_ne, nI_te, nm_eq, mn_eq, nm_le, mn_le, nm_lt, mn_lt, pk_mul, nI_add, pk_sub, nI_clamp, eX8_isThing, eX8_isThing_14]
theorem c_thingN {M : Hx} {x : Int32} (hx : x < nI 0 ∨ (¬ x < nI 0 ∧ nI 3 ≤ x)) : FX8_isThing x M = some (nI 0, M) := by
  rcases hx with h | ⟨h, h2⟩
  · simp -dsimp -implicitDefEqProofs (disch := omega) only [bnd_u, gd_t, if_true, if_false, ↓reduceIte, eq_self, true_or, or_true, false_or, or_false, not_true_eq_false, not_false_eq_true, and_true, true_and, and_false, false_and, reduceCtorEq, nI_ge, nI_le, nI_lt, nI_nlt, nI_ne, nI_te, nm_eq, mn_eq, nm_le, mn_le, nm_lt, mn_lt, pk_mul, nI_add, pk_sub, nI_clamp, eX8_isThing, eX8_isThing_13, eX8_isThing_14, h]
  · simp -dsimp -implicitDefEqProofs (disch := omega) only [bnd_u, gd_t, if_true, if_false, ↓reduceIte, eq_self, true_or, or_true, false_or, or_false, not_true_eq_false, not_false_eq_true, and_true, true_and, and_false, false_and, reduceCtorEq, nI_ge, nI_le, nI_lt, nI_nlt, nI_ne, nI_te, nm_eq, mn_eq, nm_le, mn_le, nm_lt, mn_lt, pk_mul, nI_add, pk_sub, nI_clamp, eX8_isThing, eX8_isThing_13, eX8_isThing_14, h, h2]
theorem lt_of_le10 {x : Int32} {n m : Nat} (h : nI n ≤ x) (hm : m < n) (hn : n < 2 ^ 31) : nI m < x := by
  rw [fa_le, nI_toInt hn] at h
  rw [fa_lt, nI_toInt (by omega)]
  omega
theorem c_value {M : Hx} {h : Nat} (hh : h < 10) : FX8_isValue (nI h) M = some (nI 1, M) := by
  simp -dsimp -implicitDefEqProofs (disch := omega) only [bnd_u, gd_t, if_true, if_false, ↓reduceIte, eq_self, true_or, or_true, false_or, or_false, not_true_eq_false, not_false_eq_true, and_true, true_and, and_false, false_and, reduceCtorEq, nI_ge, nI_le, nI_lt, nI_nlt, nI_ne, nI_te, nm_eq, mn_eq, nm_le, mn_le, nm_lt, mn_lt, pk_mul, nI_add, pk_sub, nI_clamp, eX8_isValue, eX8_isValue_15]
theorem c_valueN {M : Hx} {x : Int32} (hx : x < nI 0 ∨ (¬ x < nI 0 ∧ nI 10 ≤ x)) : FX8_isValue x M = some (nI 0, M) := by
  rcases hx with h | ⟨h, h2⟩
  · simp -dsimp -implicitDefEqProofs (disch := omega) only [bnd_u, gd_t, if_true, if_false, ↓reduceIte, eq_self, true_or, or_true, false_or, or_false, not_true_eq_false, not_false_eq_true, and_true, true_and, and_false, false_and, reduceCtorEq, nI_ge, nI_le, nI_lt, nI_nlt, nI_ne, nI_te, nm_eq, mn_eq, nm_le, mn_le, nm_lt, mn_lt, pk_mul, nI_add, pk_sub, nI_clamp, eX8_isValue, eX8_isValue_14, eX8_isValue_15, h]
  · simp -dsimp -implicitDefEqProofs (disch := omega) only [bnd_u, gd_t, if_true, if_false, ↓reduceIte, eq_self, true_or, or_true, false_or, or_false, not_true_eq_false, not_false_eq_true, and_true, true_and, and_false, false_and, reduceCtorEq, nI_ge, nI_le, nI_lt, nI_nlt, nI_ne, nI_te, nm_eq, mn_eq, nm_le, mn_le, nm_lt, mn_lt, pk_mul, nI_add, pk_sub, nI_clamp, eX8_isValue, eX8_isValue_14, eX8_isValue_15, h, lt_of_le10 h2 (show 9 < 10 by omega) (by omega)]
theorem c_flag {M : Hx} {h : Nat} (hh : h < 2) : FX8_isFlag (nI h) M = some (nI 1, M) := by
  rcases (show h = 0 ∨ h = 1 by omega) with rfl | rfl
  · simp -dsimp -implicitDefEqProofs (disch := omega) only [bnd_u, gd_t, if_true, if_false, ↓reduceIte, eq_self, true_or, or_true, false_or, or_false, not_true_eq_false, not_false_eq_true, and_true, true_and, and_false, false_and, reduceCtorEq, nI_ge, nI_le, nI_lt, nI_nlt, nI_ne, nI_te, nm_eq, mn_eq, nm_le, mn_le, nm_lt, mn_lt, pk_mul, nI_add, pk_sub, nI_clamp, eX8_isFlag, eX8_isFlag_9, eX8_isFlag_14]
  · simp -dsimp -implicitDefEqProofs (disch := omega) only [bnd_u, gd_t, if_true, if_false, ↓reduceIte, eq_self, true_or, or_true, false_or, or_false, not_true_eq_false, not_false_eq_true, and_true, true_and, and_false, false_and, reduceCtorEq, nI_ge, nI_le, nI_lt, nI_nlt, nI_ne, nI_te, nm_eq, mn_eq, nm_le, mn_le, nm_lt, mn_lt, pk_mul, nI_add, pk_sub, nI_clamp, eX8_isFlag, eX8_isFlag_9, eX8_isFlag_14]
theorem ne_out {x : Int32} {n m : Nat} (hx : x < nI 0 ∨ (¬ x < nI 0 ∧ nI n ≤ x)) (hm : m < n) (hn : n < 2 ^ 31) : ¬ x = nI m := by
  intro e
  subst e
  rcases hx with h | ⟨-, h⟩
  · exact nI_nlt (Nat.zero_le m) (by omega) h
  · exact nI_ge hm hn h
theorem c_flagN {M : Hx} {x : Int32} (hx : x < nI 0 ∨ (¬ x < nI 0 ∧ nI 2 ≤ x)) : FX8_isFlag x M = some (nI 0, M) := by
  simp -dsimp -implicitDefEqProofs (disch := omega) only [bnd_u, gd_t, if_true, if_false, ↓reduceIte, eq_self, true_or, or_true, false_or, or_false, not_true_eq_false, not_false_eq_true, and_true, true_and, and_false, false_and, reduceCtorEq, nI_ge, nI_le, nI_lt, nI_nlt, nI_ne, nI_te, nm_eq, mn_eq, nm_le, mn_le, nm_lt, mn_lt, pk_mul, nI_add, pk_sub, nI_clamp, eX8_isFlag, eX8_isFlag_14, ne_out hx (show 0 < 2 by omega) (by omega), ne_out hx (show 1 < 2 by omega) (by omega)]
theorem c_sheet {M : Hx} {h : Nat} (hh : h < 4) : FX8_isSheet (nI h) M = some (nI 1, M) := by
  simp -dsimp -implicitDefEqProofs (disch := omega) only [bnd_u, gd_t, if_true, if_false, ↓reduceIte, eq_self, true_or, or_true, false_or, or_false, not_true_eq_false, not_false_eq_true, and_true, true_and, and_false, false_and, reduceCtorEq, nI_ge, nI_le, nI_lt, nI_nlt, nI_ne, nI_te, nm_eq, mn_eq, nm_le, mn_le, nm_lt, mn_lt, pk_mul, nI_add, pk_sub, nI_clamp, eX8_isSheet, eX8_isSheet_14]
theorem c_sheetN {M : Hx} {x : Int32} (hx : x < nI 0 ∨ (¬ x < nI 0 ∧ nI 4 ≤ x)) : FX8_isSheet x M = some (nI 0, M) := by
  rcases hx with h | ⟨h, h2⟩
  · simp -dsimp -implicitDefEqProofs (disch := omega) only [bnd_u, gd_t, if_true, if_false, ↓reduceIte, eq_self, true_or, or_true, false_or, or_false, not_true_eq_false, not_false_eq_true, and_true, true_and, and_false, false_and, reduceCtorEq, nI_ge, nI_le, nI_lt, nI_nlt, nI_ne, nI_te, nm_eq, mn_eq, nm_le, mn_le, nm_lt, mn_lt, pk_mul, nI_add, pk_sub, nI_clamp, eX8_isSheet, eX8_isSheet_13, eX8_isSheet_14, h]
  · simp -dsimp -implicitDefEqProofs (disch := omega) only [bnd_u, gd_t, if_true, if_false, ↓reduceIte, eq_self, true_or, or_true, false_or, or_false, not_true_eq_false, not_false_eq_true, and_true, true_and, and_false, false_and, reduceCtorEq, nI_ge, nI_le, nI_lt, nI_nlt, nI_ne, nI_te, nm_eq, mn_eq, nm_le, mn_le, nm_lt, mn_lt, pk_mul, nI_add, pk_sub, nI_clamp, eX8_isSheet, eX8_isSheet_13, eX8_isSheet_14, h, h2]
theorem c_lane {M : Hx} {h : Nat} (hh : h < 3) : FX8_isLane (nI h) M = some (nI 1, M) := by
  simp -dsimp -implicitDefEqProofs (disch := omega) only [bnd_u, gd_t, if_true, if_false, ↓reduceIte, eq_self, true_or, or_true, false_or, or_false, not_true_eq_false, not_false_eq_true, and_true, true_and, and_false, false_and, reduceCtorEq, nI_ge, nI_le, nI_lt, nI_nlt, nI_ne, nI_te, nm_eq, mn_eq, nm_le, mn_le, nm_lt, mn_lt, pk_mul, nI_add, pk_sub, nI_clamp, eX8_isLane, eX8_isLane_14]
theorem c_laneN {M : Hx} {x : Int32} (hx : x < nI 0 ∨ (¬ x < nI 0 ∧ nI 3 ≤ x)) : FX8_isLane x M = some (nI 0, M) := by
  rcases hx with h | ⟨h, h2⟩
  · simp -dsimp -implicitDefEqProofs (disch := omega) only [bnd_u, gd_t, if_true, if_false, ↓reduceIte, eq_self, true_or, or_true, false_or, or_false, not_true_eq_false, not_false_eq_true, and_true, true_and, and_false, false_and, reduceCtorEq, nI_ge, nI_le, nI_lt, nI_nlt, nI_ne, nI_te, nm_eq, mn_eq, nm_le, mn_le, nm_lt, mn_lt, pk_mul, nI_add, pk_sub, nI_clamp, eX8_isLane, eX8_isLane_13, eX8_isLane_14, h]
  · simp -dsimp -implicitDefEqProofs (disch := omega) only [bnd_u, gd_t, if_true, if_false, ↓reduceIte, eq_self, true_or, or_true, false_or, or_false, not_true_eq_false, not_false_eq_true, and_true, true_and, and_false, false_and, reduceCtorEq, nI_ge, nI_le, nI_lt, nI_nlt, nI_ne, nI_te, nm_eq, mn_eq, nm_le, mn_le, nm_lt, mn_lt, pk_mul, nI_add, pk_sub, nI_clamp, eX8_isLane, eX8_isLane_13, eX8_isLane_14, h, h2]
/-- the reference's look at a number from 0 to n - 1 -/
theorem m_0n {M : Hx} {n x : Nat} (hx : x < n) (hn : n < 2 ^ 31) : FX9_in (nI x).toInt64 (lN 0) (lN (n - 1)) M = some (nI 1, M) := by
  rw [nI_l (by omega)]
  exact m_in (Nat.zero_le _) (by omega) (by omega)
theorem m_0nN {M : Hx} {n : Nat} {x : Int32} (h0 : 0 < n) (hn : n < 2 ^ 31) (hx : x < nI 0 ∨ (¬ x < nI 0 ∧ nI n ≤ x)) : FX9_in x.toInt64 (lN 0) (lN (n - 1)) M = some (nI 0, M) := m_inN hn (hy_l (by omega) hn) hx
