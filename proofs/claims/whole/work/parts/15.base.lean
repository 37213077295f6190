theorem bnd_u {α β : Type} (v : α) (K : α → Option β) : bnd (some v) K () = K v := rfl
theorem nI_ne {a b : Nat} (h : a ≠ b) (ha : a < 2 ^ 31) (hb : b < 2 ^ 31) : (nI a = nI b) = False := eq_false (fun e => h ((nI_eq ha hb).mp e))
theorem nI_te {a b : Nat} (h : a = b) : (nI a = nI b) = True := eq_true (by rw [h])
theorem up_c {g : Gg} {c i : Nat} {x : Int32} : up g c i x c = upd (g c) i x := upc_s _ _ _
theorem up_n {g : Gg} {c d i : Nat} {x : Int32} (h : d ≠ c) : up g c i x d = g d := upc_n h
/-! rows of numbers, any of them -/
theorem g_has {M : Hx} {b n r : Nat} (h3 : h_I M 5 b 3 = some (nI n)) (hr : r < n) (hn : n < 1000) : FX6_has b (nI r) M = some (nI 1, M) := by
  simp -dsimp -implicitDefEqProofs (disch := omega) only [bnd_u, gd_t, if_true, if_false, ↓reduceIte, eq_self, true_or, or_true, false_or, or_false, not_true_eq_false, not_false_eq_true, and_true, true_and, and_false, false_and, reduceCtorEq, nI_ge, nI_le, nI_lt, nI_nlt, nI_ne, nI_te, nm_eq, mn_eq, nm_le, mn_le, nm_lt, mn_lt, pk_mul, nI_add, pk_sub, nI_clamp, eX6_has, eX6_has_17, h3]
theorem g_hasN {M : Hx} {b n : Nat} {x : Int32} (h3 : h_I M 5 b 3 = some (nI n)) (hx : x < nI 0 ∨ (¬ x < nI 0 ∧ nI n ≤ x)) : FX6_has b x M = some (nI 0, M) := by
  rcases hx with h | ⟨h, h2⟩
  · simp -dsimp -implicitDefEqProofs (disch := omega) only [bnd_u, gd_t, if_true, if_false, ↓reduceIte, eq_self, true_or, or_true, false_or, or_false, not_true_eq_false, not_false_eq_true, and_true, true_and, and_false, false_and, reduceCtorEq, nI_ge, nI_le, nI_lt, nI_nlt, nI_ne, nI_te, nm_eq, mn_eq, nm_le, mn_le, nm_lt, mn_lt, pk_mul, nI_add, pk_sub, nI_clamp, eX6_has, eX6_has_16, eX6_has_17, h3, h]
  · simp -dsimp -implicitDefEqProofs (disch := omega) only [bnd_u, gd_t, if_true, if_false, ↓reduceIte, eq_self, true_or, or_true, false_or, or_false, not_true_eq_false, not_false_eq_true, and_true, true_and, and_false, false_and, reduceCtorEq, nI_ge, nI_le, nI_lt, nI_nlt, nI_ne, nI_te, nm_eq, mn_eq, nm_le, mn_le, nm_lt, mn_lt, pk_mul, nI_add, pk_sub, nI_clamp, eX6_has, eX6_has_16, eX6_has_17, h3, h, h2]
theorem g_at {M : Hx} {b n w c r j : Nat} {x : Int32} (h3 : h_I M 5 b 3 = some (nI n)) (h0 : h_I M 5 b 0 = some (nI w)) (h2 : h_R M 5 b 2 = some c) (hA : h_A M 0 c (nI (r * w + j)) = some x) (hr : r < n) (hj : j < w) (hn : n < 1000) (hw : w < 1000) : FX6_at b (nI r) (nI j) M = some (x, M) := by
  simp -dsimp -implicitDefEqProofs (disch := omega) only [bnd_u, gd_t, if_true, if_false, ↓reduceIte, eq_self, true_or, or_true, false_or, or_false, not_true_eq_false, not_false_eq_true, and_true, true_and, and_false, false_and, reduceCtorEq, nI_ge, nI_le, nI_lt, nI_nlt, nI_ne, nI_te, nm_eq, mn_eq, nm_le, mn_le, nm_lt, mn_lt, pk_mul, nI_add, pk_sub, nI_clamp, eX6_at, eX6_at_29, eX6_at_51, h3, h0, h2, hA]
theorem g_atN {M : Hx} {b n : Nat} {x y : Int32} (h3 : h_I M 5 b 3 = some (nI n)) (hx : x < nI 0 ∨ (¬ x < nI 0 ∧ nI n ≤ x)) : FX6_at b x y M = some (mi 1, M) := by
  rcases hx with h | ⟨h, h2⟩
  · simp -dsimp -implicitDefEqProofs (disch := omega) only [bnd_u, gd_t, if_true, if_false, ↓reduceIte, eq_self, true_or, or_true, false_or, or_false, not_true_eq_false, not_false_eq_true, and_true, true_and, and_false, false_and, reduceCtorEq, nI_ge, nI_le, nI_lt, nI_nlt, nI_ne, nI_te, nm_eq, mn_eq, nm_le, mn_le, nm_lt, mn_lt, pk_mul, nI_add, pk_sub, nI_clamp, eX6_at, eX6_at_28, eX6_at_29, eX6_at_51, h3, h]
  · simp -dsimp -implicitDefEqProofs (disch := omega) only [bnd_u, gd_t, if_true, if_false, ↓reduceIte, eq_self, true_or, or_true, false_or, or_false, not_true_eq_false, not_false_eq_true, and_true, true_and, and_false, false_and, reduceCtorEq, nI_ge, nI_le, nI_lt, nI_nlt, nI_ne, nI_te, nm_eq, mn_eq, nm_le, mn_le, nm_lt, mn_lt, pk_mul, nI_add, pk_sub, nI_clamp, eX6_at, eX6_at_28, eX6_at_29, eX6_at_51, h3, h, h2]
theorem g_atM {M : Hx} {b n w r : Nat} {y : Int32} (h3 : h_I M 5 b 3 = some (nI n)) (h0 : h_I M 5 b 0 = some (nI w)) (hr : r < n) (hn : n < 1000) (hy : y < nI 0 ∨ (¬ y < nI 0 ∧ nI w ≤ y)) : FX6_at b (nI r) y M = some (mi 1, M) := by
  rcases hy with h | ⟨h, h2⟩
  · simp -dsimp -implicitDefEqProofs (disch := omega) only [bnd_u, gd_t, if_true, if_false, ↓reduceIte, eq_self, true_or, or_true, false_or, or_false, not_true_eq_false, not_false_eq_true, and_true, true_and, and_false, false_and, reduceCtorEq, nI_ge, nI_le, nI_lt, nI_nlt, nI_ne, nI_te, nm_eq, mn_eq, nm_le, mn_le, nm_lt, mn_lt, pk_mul, nI_add, pk_sub, nI_clamp, eX6_at, eX6_at_28, eX6_at_29, eX6_at_51, h3, h0, h]
  · simp -dsimp -implicitDefEqProofs (disch := omega) only [bnd_u, gd_t, if_true, if_false, ↓reduceIte, eq_self, true_or, or_true, false_or, or_false, not_true_eq_false, not_false_eq_true, and_true, true_and, and_false, false_and, reduceCtorEq, nI_ge, nI_le, nI_lt, nI_nlt, nI_ne, nI_te, nm_eq, mn_eq, nm_le, mn_le, nm_lt, mn_lt, pk_mul, nI_add, pk_sub, nI_clamp, eX6_at, eX6_at_28, eX6_at_29, eX6_at_51, h3, h0, h, h2]
theorem g_cut {M M2 : Hx} {b n m : Nat} (h3 : h_I M 5 b 3 = some (nI n)) (hp : h_P M 5 b 3 (.int (nI m)) = some M2) (hm : m ≤ n) (hn : n < 1000) : FX6_cutTo b (nI m) M = some (nI n, M2) := by
  simp -dsimp -implicitDefEqProofs (disch := omega) only [bnd_u, gd_t, if_true, if_false, ↓reduceIte, eq_self, true_or, or_true, false_or, or_false, not_true_eq_false, not_false_eq_true, and_true, true_and, and_false, false_and, reduceCtorEq, nI_ge, nI_le, nI_lt, nI_nlt, nI_ne, nI_te, nm_eq, mn_eq, nm_le, mn_le, nm_lt, mn_lt, pk_mul, nI_add, pk_sub, nI_clamp, eX6_cutTo, h3, hp]
theorem g_cutN {M : Hx} {b n : Nat} {x : Int32} (h3 : h_I M 5 b 3 = some (nI n)) (hx : x < nI 0 ∨ (¬ x < nI 0 ∧ nI (n + 1) ≤ x)) (hn : n < 1000) : FX6_cutTo b x M = some (mi 1, M) := by
  rcases hx with h | ⟨h, h2⟩
  · simp -dsimp -implicitDefEqProofs (disch := omega) only [bnd_u, gd_t, if_true, if_false, ↓reduceIte, eq_self, true_or, or_true, false_or, or_false, not_true_eq_false, not_false_eq_true, and_true, true_and, and_false, false_and, reduceCtorEq, nI_ge, nI_le, nI_lt, nI_nlt, nI_ne, nI_te, nm_eq, mn_eq, nm_le, mn_le, nm_lt, mn_lt, pk_mul, nI_add, pk_sub, nI_clamp, eX6_cutTo, eX6_cutTo_12, h3, h]
  · have h4 : ¬ x ≤ nI n := fun h5 => by
      rw [fa_le, nI_toInt (by omega)] at h2 h5
      omega
    simp -dsimp -implicitDefEqProofs (disch := omega) only [bnd_u, gd_t, if_true, if_false, ↓reduceIte, eq_self, true_or, or_true, false_or, or_false, not_true_eq_false, not_false_eq_true, and_true, true_and, and_false, false_and, reduceCtorEq, nI_ge, nI_le, nI_lt, nI_nlt, nI_ne, nI_te, nm_eq, mn_eq, nm_le, mn_le, nm_lt, mn_lt, pk_mul, nI_add, pk_sub, nI_clamp, eX6_cutTo, eX6_cutTo_12, h3, h, h4]
/-! the page: K of kin, q its 74 numbers -/
def Gd (q : Nat → Nat) (K : Nat) : Prop := K ≤ 5 ∧ (∀ i, q i ≤ 10) ∧ (∀ k, k < K → q k ≤ 3 ∧ q (5 + k) ≤ 2) ∧ q 25 ≤ 4 ∧ (∀ t, t < q 25 → q (13 + 3 * t) ≤ 9 ∧ q (13 + 3 * t + 1) ≤ 2 ∧ q (13 + 3 * t + 2) ≤ 9) ∧ (∀ h, h < 10 → q (26 + h) ≤ K) ∧ q 56 ≤ 5 ∧ (∀ i, i < q 56 → q (36 + 4 * i) < K ∧ q (36 + 4 * i + 1) ≤ q (36 + 4 * i + 2) ∧ q (36 + 4 * i + 2) ≤ 9 ∧ 1 ≤ q (36 + 4 * i + 3) ∧ q (36 + 4 * i + 3) ≤ 9) ∧ q 73 ≤ 4 ∧ (∀ t, t < q 73 → q (57 + 4 * t) ≤ 9 ∧ q (57 + 4 * t + 1) < K ∧ q (57 + 4 * t + 2) < K ∧ q (57 + 4 * t + 3) ≤ 2) ∧ (∀ i, i < 3 → q (10 + i) ≤ 9)
theorem Gd.K {q : Nat → Nat} {K : Nat} (h : Gd q K) : K ≤ 5 := h.1
theorem Gd.q {q : Nat → Nat} {K : Nat} (h : Gd q K) (i : Nat) : q i ≤ 10 := h.2.1 i
theorem Gd.k {q : Nat → Nat} {K : Nat} (h : Gd q K) {k : Nat} (hk : k < K) : q k ≤ 3 ∧ q (5 + k) ≤ 2 := h.2.2.1 k hk
theorem Gd.tn {q : Nat → Nat} {K : Nat} (h : Gd q K) : q 25 ≤ 4 := h.2.2.2.1
theorem Gd.t {q : Nat → Nat} {K : Nat} (h : Gd q K) {t : Nat} (ht : t < q 25) : q (13 + 3 * t) ≤ 9 ∧ q (13 + 3 * t + 1) ≤ 2 ∧ q (13 + 3 * t + 2) ≤ 9 := h.2.2.2.2.1 t ht
theorem Gd.r {q : Nat → Nat} {K : Nat} (h : Gd q K) {i : Nat} (hi : i < 10) : q (26 + i) ≤ K := h.2.2.2.2.2.1 i hi
theorem Gd.wn {q : Nat → Nat} {K : Nat} (h : Gd q K) : q 56 ≤ 5 := h.2.2.2.2.2.2.1
theorem Gd.w {q : Nat → Nat} {K : Nat} (h : Gd q K) {i : Nat} (hi : i < q 56) : q (36 + 4 * i) < K ∧ q (36 + 4 * i + 1) ≤ q (36 + 4 * i + 2) ∧ q (36 + 4 * i + 2) ≤ 9 ∧ 1 ≤ q (36 + 4 * i + 3) ∧ q (36 + 4 * i + 3) ≤ 9 := h.2.2.2.2.2.2.2.1 i hi
theorem Gd.en {q : Nat → Nat} {K : Nat} (h : Gd q K) : q 73 ≤ 4 := h.2.2.2.2.2.2.2.2.1
theorem Gd.e {q : Nat → Nat} {K : Nat} (h : Gd q K) {t : Nat} (ht : t < q 73) : q (57 + 4 * t) ≤ 9 ∧ q (57 + 4 * t + 1) < K ∧ q (57 + 4 * t + 2) < K ∧ q (57 + 4 * t + 3) ≤ 2 := h.2.2.2.2.2.2.2.2.2.1 t ht
theorem Gd.v {q : Nat → Nat} {K : Nat} (h : Gd q K) {i : Nat} (hi : i < 3) : q (10 + i) ≤ 9 := h.2.2.2.2.2.2.2.2.2.2 i hi
/-- the class's family, but for its rota: cells of kin, turns, works, tellings, first values -/
def Fm (ko kc to tc wo wc eo ec fv : Nat → Int32) (q : Nat → Nat) (K : Nat) : Prop := ko 3 = nI K ∧ (∀ k, k < K → kc (k * 2 + 0) = nI (q k)) ∧ (∀ k, k < K → kc (k * 2 + 1) = nI (q (5 + k))) ∧ to 3 = nI (q 25) ∧ (∀ t j, t < q 25 → j < 3 → tc (t * 3 + j) = nI (q (13 + 3 * t + j))) ∧ wo 3 = nI (q 56) ∧ (∀ i j, i < q 56 → j < 4 → wc (i * 4 + j) = nI (q (36 + 4 * i + j))) ∧ eo 3 = nI (q 73) ∧ (∀ t j, t < q 73 → j < 4 → ec (t * 4 + j) = nI (q (57 + 4 * t + j))) ∧ (∀ i, i < 3 → fv i = nI (q (10 + i)))
abbrev F1 (g : Gg) (q : Nat → Nat) (K : Nat) : Prop := Fm (g 2) (g 3) (g 4) (g 5) (g 6) (g 7) (g 8) (g 9) (g 10) q K
def ho (r : Nat) : Int32 := if r = 0 then mi 4 else nI (r - 1)
theorem ho_0 {r : Nat} (h : r = 0) : ho r = mi 4 := if_pos h
theorem ho_s {r : Nat} (h : 0 < r) : ho r = nI (r - 1) := if_neg (by omega)
/-- a rota of the class -/
def Ro (c : Nat → Int32) (q : Nat → Nat) : Prop := ∀ h, h < 10 → c h = ho (q (26 + h))
/-- a page of the reference's -/
def Md (s : Nat → Int32) (o : Nat) (q : Nat → Nat) : Prop := ∀ i, i < 74 → s (o + i) = nI (q i)
/-! a Rows object at b, its cells at c, its width, its limit -/
def tR (w L c : Nat) : Tm := fun r => .inr (5, [.int (nI w), .int (nI L), .ref c, .int (r 3)])
def Rw (b c w L : Nat) : Prop := tmpl[b]? = some (tR w L c) ∧ tmpl[c]? = some (tA 0 (w * L)) ∧ w ≤ 4 ∧ L ≤ 160 ∧ b ≠ c
theorem Rw.sz {b c w L : Nat} (h : Rw b c w L) : w * L < 2 ^ 31 := by
  have h1 : w * L ≤ 4 * 160 := Nat.mul_le_mul h.2.2.1 h.2.2.2.1
  omega
theorem Rw.ix {b c w L r j n : Nat} (h : Rw b c w L) (hr : r < n) (hj : j < w) (hL : n ≤ L) : r * w + j < w * L := by
  have h1 : (r + 1) * w ≤ L * w := Nat.mul_le_mul_right _ (by omega)
  rw [Nat.add_mul, Nat.mul_comm L w] at h1
  omega
theorem Rw.i0 {b c w L : Nat} (h : Rw b c w L) (g : Gg) : h_I (mk g) 5 b 0 = some (nI w) := t_I h.1 rfl
theorem Rw.i1 {b c w L : Nat} (h : Rw b c w L) (g : Gg) : h_I (mk g) 5 b 1 = some (nI L) := t_I h.1 rfl
theorem Rw.i2 {b c w L : Nat} (h : Rw b c w L) (g : Gg) : h_R (mk g) 5 b 2 = some c := t_R h.1 rfl
theorem Rw.i3 {b c w L : Nat} (h : Rw b c w L) (g : Gg) : h_I (mk g) 5 b 3 = some (g b 3) := t_I h.1 rfl
theorem Rw.k {b c w L : Nat} (h : Rw b c w L) (g : Gg) {α : Type} (x : Option α) : gd (h_K (mk g) 5 b) x = x := t_K h.1 rfl
theorem Rw.p {b c w L : Nat} (h : Rw b c w L) (g : Gg) (x : Int32) : h_P (mk g) 5 b 3 (.int x) = some (mk (up g b 3 x)) := t_P h.1 rfl
theorem R_has {g : Gg} {b c w L n r : Nat} (h : Rw b c w L) (hn : g b 3 = nI n) (hL : n ≤ L) (hr : r < n) : FX6_has b (nI r) (mk g) = some (nI 1, mk g) := by
  have h4 := h.2.2.2.1
  exact g_has (by rw [h.i3, hn]) hr (by omega)
theorem R_hasN {g : Gg} {b c w L n : Nat} {x : Int32} (h : Rw b c w L) (hn : g b 3 = nI n) (hx : x < nI 0 ∨ (¬ x < nI 0 ∧ nI n ≤ x)) : FX6_has b x (mk g) = some (nI 0, mk g) := g_hasN (by rw [h.i3, hn]) hx
theorem R_at {g : Gg} {b c w L n r j : Nat} (h : Rw b c w L) (hn : g b 3 = nI n) (hL : n ≤ L) (hr : r < n) (hj : j < w) : FX6_at b (nI r) (nI j) (mk g) = some (g c (r * w + j), mk g) := by
  have h3 := h.2.2.1
  have h4 := h.2.2.2.1
  exact g_at (by rw [h.i3, hn]) (h.i0 g) (h.i2 g) (t_A h.2.1 h.sz _ (h.ix hr hj hL)) hr hj (by omega) (by omega)
theorem R_atN {g : Gg} {b c w L n : Nat} {x y : Int32} (h : Rw b c w L) (hn : g b 3 = nI n) (hx : x < nI 0 ∨ (¬ x < nI 0 ∧ nI n ≤ x)) : FX6_at b x y (mk g) = some (mi 1, mk g) := g_atN (by rw [h.i3, hn]) hx
theorem R_atM {g : Gg} {b c w L n r : Nat} {y : Int32} (h : Rw b c w L) (hn : g b 3 = nI n) (hL : n ≤ L) (hr : r < n) (hy : y < nI 0 ∨ (¬ y < nI 0 ∧ nI w ≤ y)) : FX6_at b (nI r) y (mk g) = some (mi 1, mk g) := by
  have h4 := h.2.2.2.1
  exact g_atM (by rw [h.i3, hn]) (h.i0 g) hr (by omega) hy
theorem R_cut {g : Gg} {b c w L n m : Nat} (h : Rw b c w L) (hn : g b 3 = nI n) (hL : n ≤ L) (hm : m ≤ n) : FX6_cutTo b (nI m) (mk g) = some (nI n, mk (up g b 3 (nI m))) := by
  have h4 := h.2.2.2.1
  exact g_cut (by rw [h.i3, hn]) (h.p g _) hm (by omega)
theorem R_cutN {g : Gg} {b c w L n : Nat} {x : Int32} (h : Rw b c w L) (hn : g b 3 = nI n) (hL : n ≤ L) (hx : x < nI 0 ∨ (¬ x < nI 0 ∧ nI (n + 1) ≤ x)) : FX6_cutTo b x (mk g) = some (mi 1, mk g) := by
  have h4 := h.2.2.2.1
  exact g_cutN (by rw [h.i3, hn]) hx (by omega)
theorem R_put {g : Gg} {b c w L n r j : Nat} {x : Int32} (h : Rw b c w L) (hn : g b 3 = nI n) (hL : n ≤ L) (hr : r < n) (hj : j < w) : FX6_put b (nI r) (nI j) x (mk g) = some ((), mk (up g c (r * w + j) x)) := by
  have h3 := h.2.2.1
  have h4 := h.2.2.2.1
  have hi := h.ix hr hj hL
  have hz := h.sz
  simp -dsimp -implicitDefEqProofs (disch := omega) only [bnd_u, gd_t, if_true, if_false, ↓reduceIte, eq_self, true_or, or_true, false_or, or_false, not_true_eq_false, not_false_eq_true, and_true, true_and, and_false, false_and, reduceCtorEq, nI_ge, nI_le, nI_lt, nI_nlt, nI_ne, nI_te, nm_eq, mn_eq, nm_le, mn_le, nm_lt, mn_lt, pk_mul, nI_add, pk_sub, nI_clamp, eX6_put, eX6_put_34, h.k, h.i0, h.i2, R_has h hn hL hr, t_S h.2.1 hz _ hi]
theorem R_putN {g : Gg} {b c w L n r j : Nat} {x : Int32} (h : Rw b c w L) (hn : g b 3 = nI n) (hL : n ≤ L) (hr : r < n) (hj : w ≤ j) (hj2 : j < 1000) : FX6_put b (nI r) (nI j) x (mk g) = some ((), mk g) := by
  have h3 := h.2.2.1
  have h4 := h.2.2.2.1
  simp -dsimp -implicitDefEqProofs (disch := omega) only [bnd_u, gd_t, if_true, if_false, ↓reduceIte, eq_self, true_or, or_true, false_or, or_false, not_true_eq_false, not_false_eq_true, and_true, true_and, and_false, false_and, reduceCtorEq, nI_ge, nI_le, nI_lt, nI_nlt, nI_ne, nI_te, nm_eq, mn_eq, nm_le, mn_le, nm_lt, mn_lt, pk_mul, nI_add, pk_sub, nI_clamp, eX6_put, eX6_put_34, h.k, h.i0, h.i2, R_has h hn hL hr]
theorem R_full {g : Gg} {b c w L : Nat} {x y z u : Int32} (h : Rw b c w L) (hn : g b 3 = nI L) : FX6_add b x y z u (mk g) = some (mi 3, mk g) := by
  have h4 := h.2.2.2.1
  simp -dsimp -implicitDefEqProofs (disch := omega) only [bnd_u, gd_t, if_true, if_false, ↓reduceIte, eq_self, true_or, or_true, false_or, or_false, not_true_eq_false, not_false_eq_true, and_true, true_and, and_false, false_and, reduceCtorEq, nI_ge, nI_le, nI_lt, nI_nlt, nI_ne, nI_te, nm_eq, mn_eq, nm_le, mn_le, nm_lt, mn_lt, pk_mul, nI_add, pk_sub, nI_clamp, eX6_add, h.i3, h.i1, hn]
/-- what g' has in place of g is in the cells l alone -/
def Fr (l : List Nat) (g g' : Gg) : Prop := ∀ c, c ∉ l → g' c = g c
theorem Fr.refl {l : List Nat} {g : Gg} : Fr l g g := fun _ _ => rfl
theorem Fr.tr {l l1 l2 : List Nat} {g g1 g2 : Gg} (h1 : Fr l1 g g1) (h2 : Fr l2 g1 g2) (h : ∀ c, c ∉ l → c ∉ l1 ∧ c ∉ l2) : Fr l g g2 := fun c hc => (h2 c (h c hc).2).trans (h1 c (h c hc).1)
theorem Fr.mo {l l1 : List Nat} {g g1 : Gg} (h1 : Fr l1 g g1) (h : ∀ c, c ∉ l → c ∉ l1) : Fr l g g1 := fun c hc => h1 c (h c hc)
theorem Fr.c {l : List Nat} {g : Gg} {c : Nat} {r : Nat → Int32} (h : c ∈ l) : Fr l g (upc g c r) := fun d hd => upc_n (fun e => hd (e ▸ h))
theorem R_add {g : Gg} {b c w L n : Nat} {x : Nat → Int32} (h : Rw b c w L) (hn : g b 3 = nI n) (hL : n < L) : ∃ g', FX6_add b (x 0) (x 1) (x 2) (x 3) (mk g) = some (nI (n + 1), mk g') ∧ Fr [b, c] g g' ∧ g' b 3 = nI (n + 1) ∧ (∀ j, j < w → g' c (n * w + j) = x j) ∧ (∀ i, i < n * w → g' c i = g c i) := by
  have h3 := h.2.2.1
  have h4 := h.2.2.2.1
  have hbc := h.2.2.2.2
  have step : ∀ (g1 : Gg) (j : Nat), j < 4 → g1 b 3 = nI (n + 1) → Fr [b, c] g g1 → (∀ i, i < j → i < w → g1 c (n * w + i) = x i) → (∀ i, i < n * w → g1 c i = g c i) → ∃ g2, FX6_put b (nI n) (nI j) (x j) (mk g1) = some ((), mk g2) ∧ g2 b 3 = nI (n + 1) ∧ Fr [b, c] g g2 ∧ (∀ i, i < j + 1 → i < w → g2 c (n * w + i) = x i) ∧ (∀ i, i < n * w → g2 c i = g c i) := by
    intro g1 j hj h5 h6 h7 h8
    rcases Nat.lt_or_ge j w with hw | hw
    · refine ⟨_, R_put h h5 (by omega) (by omega) hw, ?_, ?_, ?_, ?_⟩
      · rw [up_n hbc]; exact h5
      · exact h6.tr (Fr.c (l := [b, c]) (by simp)) (fun d hd => ⟨hd, hd⟩)
      · intro i hi hiw
        rw [up_c]
        rcases Nat.lt_or_ge i j with hij | hij
        · rw [pk_un (by omega)]; exact h7 i hij hiw
        · have : i = j := by omega
          rw [this, pk_us]
      · intro i hi
        rw [up_c, pk_un (by omega)]; exact h8 i hi
    · exact ⟨g1, R_putN h h5 (by omega) (by omega) hw (by omega), h5, h6, fun i hi hiw => h7 i (by omega) hiw, h8⟩
  have u3 : up g b 3 (nI (n + 1)) b 3 = nI (n + 1) := by rw [up_c, pk_us]
  obtain ⟨g1, e1, a1, b1, c1, d1⟩ := step (up g b 3 (nI (n + 1))) 0 (by omega) u3 (Fr.c (l := [b, c]) (by simp)) (fun i hi => absurd hi (by omega)) (fun i hi => by rw [up_n (Ne.symm hbc)])
  obtain ⟨g2, e2, a2, b2, c2, d2⟩ := step g1 1 (by omega) a1 b1 c1 d1
  obtain ⟨g3, e3, a3, b3, c3, d3⟩ := step g2 2 (by omega) a2 b2 c2 d2
  obtain ⟨g4, e4, a4, b4, c4, d4⟩ := step g3 3 (by omega) a3 b3 c3 d3
  refine ⟨g4, ?_, b4, a4, fun j hj => c4 j (by omega) hj, d4⟩
  simp -dsimp -implicitDefEqProofs (disch := omega) only [bnd_u, gd_t, if_true, if_false, ↓reduceIte, eq_self, true_or, or_true, false_or, or_false, not_true_eq_false, not_false_eq_true, and_true, true_and, and_false, false_and, reduceCtorEq, nI_ge, nI_le, nI_lt, nI_nlt, nI_ne, nI_te, nm_eq, mn_eq, nm_le, mn_le, nm_lt, mn_lt, pk_mul, nI_add, pk_sub, nI_clamp, eX6_add, h.i3, h.i1, h.k, h.p, hn, nI_s1, u3, Nat.add_sub_cancel, e1, a1, e2, a2, e3, a3, e4, a4]
theorem R_copy {g : Gg} {b c b' c' w L n : Nat} (h : Rw b c w L) (h' : Rw b' c' w L) (hn : g b' 3 = nI n) (hL : n ≤ L) (hb : b' ≠ c) : FX6_copyFrom b b' (mk g) = some ((), mk (up (upc g c (va_cpy (g c') (g c) 0 0 (w * L))) b 3 (nI n))) := by
  have h4 := h.2.2.2.1
  have hz := h.sz
  have hm : o_min (nI (w * L)) (nI (w * L)) = nI (w * L) := ite_self _
  have hm2 : o_min (nI L) (nI n) = nI n := by
    show (if nI n < nI L then nI n else nI L) = nI n
    split
    · rfl
    · rename_i h5
      have : n = L := by
        have h6 : ¬ n < L := fun h7 => h5 (nI_lt h7 (by omega))
        omega
      rw [this]
  simp -dsimp -implicitDefEqProofs (disch := omega) only [bnd_u, gd_t, if_true, if_false, ↓reduceIte, eq_self, true_or, or_true, false_or, or_false, not_true_eq_false, not_false_eq_true, and_true, true_and, and_false, false_and, reduceCtorEq, nI_ge, nI_le, nI_lt, nI_nlt, nI_ne, nI_te, nm_eq, mn_eq, nm_le, mn_le, nm_lt, mn_lt, pk_mul, nI_add, pk_sub, nI_clamp, eX6_copyFrom, h.i2, h'.i2, t_L h.2.1, t_L h'.2.1, hm, t_C h'.2.1 h.2.1 hz hz (show 0 + w * L ≤ w * L by omega) (show 0 + w * L ≤ w * L by omega), h.i1, h'.i3, upc_n hb, hn, hm2, h.p]
theorem R_like {g : Gg} {b c b' c' w L n n' : Nat} (h : Rw b c w L) (h' : Rw b' c' w L) (hn : g b 3 = nI n) (hn' : g b' 3 = nI n') (hL : n ≤ L) (hL' : n' ≤ L) : (FX6_isLike b b' (mk g) = some (nI 1, mk g) ∧ n = n' ∧ ∀ i, i < n * w → g c i = g c' i) ∨ (FX6_isLike b b' (mk g) = some (nI 0, mk g) ∧ ¬ (n = n' ∧ ∀ i, i < n * w → g c i = g c' i)) := by
  have h3 := h.2.2.1
  have h4 := h.2.2.2.1
  have hz := h.sz
  by_cases e : n = n'
  · subst e
    have hnw : n * w ≤ w * L := by rw [Nat.mul_comm w L]; exact Nat.mul_le_mul_right _ hL
    have hnw2 : n * w ≤ 160 * 4 := Nat.mul_le_mul (by omega) h3
    have key : (FX6_isLike_26 fu b b' (nI 0) (mk g) = some (nI 1, mk g) ∧ ∀ i, i < n * w → g c i = g c' i) ∨ (FX6_isLike_26 fu b b' (nI 0) (mk g) = some (nI 0, mk g) ∧ ¬ ∀ i, i < n * w → g c i = g c' i) := by
      refine lp_0 (σ := Unit) (fun n i _ => FX6_isLike_26 n b b' (nI i) (mk g)) (n * w) (fun i _ => ∀ j, j < i → g c j = g c' j) (fun o => (o = some (nI 1, mk g) ∧ ∀ i, i < n * w → g c i = g c' i) ∨ (o = some (nI 0, mk g) ∧ ¬ ∀ i, i < n * w → g c i = g c' i)) (s := ()) (fun j hj => absurd hj (by omega)) (fu_l (by omega)) ?_ ?_
      · intro m i _ hi hI
        have hA : h_A (mk g) 0 c (nI i) = some (g c i) := t_A h.2.1 hz i (by omega)
        have hA' : h_A (mk g) 0 c' (nI i) = some (g c' i) := t_A h'.2.1 hz i (by omega)
        by_cases e : g c i = g c' i
        · refine Or.inr ⟨(), ?_, fun j hj => ?_⟩
          · simp -dsimp -implicitDefEqProofs (disch := omega) only [bnd_u, gd_t, if_true, if_false, ↓reduceIte, eq_self, true_or, or_true, false_or, or_false, not_true_eq_false, not_false_eq_true, and_true, true_and, and_false, false_and, reduceCtorEq, nI_ge, nI_le, nI_lt, nI_nlt, nI_ne, nI_te, nm_eq, mn_eq, nm_le, mn_le, nm_lt, mn_lt, pk_mul, nI_add, pk_sub, nI_clamp, eX6_isLike_26, h.i3, h.i0, h.i2, h'.i2, hn, hA, hA', e]
          · rcases Nat.lt_or_ge j i with hj2 | hj2
            · exact hI j hj2
            · rw [show j = i by omega]; exact e
        · refine Or.inl (Or.inr ⟨?_, fun hh => e (hh i hi)⟩)
          simp -dsimp -implicitDefEqProofs (disch := omega) only [bnd_u, gd_t, if_true, if_false, ↓reduceIte, eq_self, true_or, or_true, false_or, or_false, not_true_eq_false, not_false_eq_true, and_true, true_and, and_false, false_and, reduceCtorEq, nI_ge, nI_le, nI_lt, nI_nlt, nI_ne, nI_te, nm_eq, mn_eq, nm_le, mn_le, nm_lt, mn_lt, pk_mul, nI_add, pk_sub, nI_clamp, eX6_isLike_26, h.i3, h.i0, h.i2, h'.i2, hn, hA, hA', e]
      · intro m _ hI
        refine Or.inl ⟨?_, hI⟩
        simp -dsimp -implicitDefEqProofs (disch := omega) only [bnd_u, gd_t, if_true, if_false, ↓reduceIte, eq_self, true_or, or_true, false_or, or_false, not_true_eq_false, not_false_eq_true, and_true, true_and, and_false, false_and, reduceCtorEq, nI_ge, nI_le, nI_lt, nI_nlt, nI_ne, nI_te, nm_eq, mn_eq, nm_le, mn_le, nm_lt, mn_lt, pk_mul, nI_add, pk_sub, nI_clamp, eX6_isLike_26, h.i3, h.i0, hn]
    have e0 : FX6_isLike b b' (mk g) = FX6_isLike_26 fu b b' (nI 0) (mk g) := by
      simp -dsimp -implicitDefEqProofs (disch := omega) only [bnd_u, gd_t, if_true, if_false, ↓reduceIte, eq_self, true_or, or_true, false_or, or_false, not_true_eq_false, not_false_eq_true, and_true, true_and, and_false, false_and, reduceCtorEq, nI_ge, nI_le, nI_lt, nI_nlt, nI_ne, nI_te, nm_eq, mn_eq, nm_le, mn_le, nm_lt, mn_lt, pk_mul, nI_add, pk_sub, nI_clamp, eX6_isLike, h.i3, h'.i3, h.i0, h'.i0, hn, hn']
    rw [e0]
    rcases key with ⟨k1, k2⟩ | ⟨k1, k2⟩
    · exact Or.inl ⟨k1, rfl, k2⟩
    · exact Or.inr ⟨k1, fun hh => k2 hh.2⟩
  · refine Or.inr ⟨?_, fun hh => e hh.1⟩
    simp -dsimp -implicitDefEqProofs (disch := omega) only [bnd_u, gd_t, if_true, if_false, ↓reduceIte, eq_self, true_or, or_true, false_or, or_false, not_true_eq_false, not_false_eq_true, and_true, true_and, and_false, false_and, reduceCtorEq, nI_ge, nI_le, nI_lt, nI_nlt, nI_ne, nI_te, nm_eq, mn_eq, nm_le, mn_le, nm_lt, mn_lt, pk_mul, nI_add, pk_sub, nI_clamp, eX6_isLike, eX6_isLike_22, h.i3, h'.i3, hn, hn']
theorem rw2 : Rw 2 3 2 5 := ⟨rfl, rfl, by decide, by decide, by decide⟩
theorem rw4 : Rw 4 5 3 4 := ⟨rfl, rfl, by decide, by decide, by decide⟩
theorem rw6 : Rw 6 7 4 5 := ⟨rfl, rfl, by decide, by decide, by decide⟩
theorem rw8 : Rw 8 9 4 4 := ⟨rfl, rfl, by decide, by decide, by decide⟩
theorem rw14 : Rw 14 15 4 6 := ⟨rfl, rfl, by decide, by decide, by decide⟩
theorem rw16 : Rw 16 17 1 160 := ⟨rfl, rfl, by decide, by decide, by decide⟩
theorem rw20 : Rw 20 21 2 5 := ⟨rfl, rfl, by decide, by decide, by decide⟩
theorem rw22 : Rw 22 23 3 4 := ⟨rfl, rfl, by decide, by decide, by decide⟩
theorem rw24 : Rw 24 25 4 5 := ⟨rfl, rfl, by decide, by decide, by decide⟩
theorem rw26 : Rw 26 27 4 4 := ⟨rfl, rfl, by decide, by decide, by decide⟩
theorem rw42 : Rw 42 43 2 5 := ⟨rfl, rfl, by decide, by decide, by decide⟩
theorem rw44 : Rw 44 45 4 5 := ⟨rfl, rfl, by decide, by decide, by decide⟩
theorem rw49 : Rw 49 50 2 5 := ⟨rfl, rfl, by decide, by decide, by decide⟩
theorem rw51 : Rw 51 52 3 4 := ⟨rfl, rfl, by decide, by decide, by decide⟩
theorem rw53 : Rw 53 54 4 5 := ⟨rfl, rfl, by decide, by decide, by decide⟩
theorem rw55 : Rw 55 56 4 4 := ⟨rfl, rfl, by decide, by decide, by decide⟩
theorem rw60 : Rw 60 61 2 5 := ⟨rfl, rfl, by decide, by decide, by decide⟩
theorem rw62 : Rw 62 63 3 4 := ⟨rfl, rfl, by decide, by decide, by decide⟩
theorem rw64 : Rw 64 65 4 5 := ⟨rfl, rfl, by decide, by decide, by decide⟩
theorem rw66 : Rw 66 67 4 4 := ⟨rfl, rfl, by decide, by decide, by decide⟩
