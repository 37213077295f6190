/-! text: the TOKENS, pure, and the class's -/
def ps (c : Nat → Bool) (b : Nat → Nat) : Nat → Nat → Nat
  | 0, p => p
  | d + 1, p => if c (b p) = true then ps c b d (p + 1) else p
theorem ps_ge (c : Nat → Bool) (b : Nat → Nat) : ∀ d p, p ≤ ps c b d p
  | 0, p => Nat.le_refl p
  | d + 1, p => by
    rw [ps]
    split
    · have := ps_ge c b d (p + 1)
      omega
    · exact Nat.le_refl p
theorem ps_le (c : Nat → Bool) (b : Nat → Nat) : ∀ d p, ps c b d p ≤ p + d
  | 0, p => Nat.le_refl p
  | d + 1, p => by
    rw [ps]
    split
    · have := ps_le c b d (p + 1)
      omega
    · omega
theorem ps_t {c : Nat → Bool} {b : Nat → Nat} {d p : Nat} (h : c (b p) = true) : ps c b (d + 1) p = ps c b d (p + 1) := if_pos h
theorem ps_f {c : Nat → Bool} {b : Nat → Nat} {p : Nat} (h : c (b p) = false) : ∀ d, ps c b d p = p
  | 0 => rfl
  | d + 1 => if_neg (by rw [h]; decide)
def isS (x : Nat) : Bool := decide (x = 32)
def isL (x : Nat) : Bool := decide (97 ≤ x ∧ x ≤ 122)
def isF (x : Nat) : Bool := decide (48 ≤ x ∧ x ≤ 57)
theorem isL_t {x : Nat} (h : isL x = true) : 97 ≤ x ∧ x ≤ 122 := of_decide_eq_true h
theorem isF_t {x : Nat} (h : isF x = true) : 48 ≤ x ∧ x ≤ 57 := of_decide_eq_true h
theorem isL_f {x : Nat} (h : isL x = false) : x < 97 ∨ 122 < x := by
  have := of_decide_eq_false h
  omega
theorem isF_f {x : Nat} (h : isF x = false) : x < 48 ∨ 57 < x := by
  have := of_decide_eq_false h
  omega
/-- the number of the first k figures from s on, two at most -/
def vF (b : Nat → Nat) (s k : Nat) : Nat := if k = 0 then 0 else if k = 1 then b s - 48 else 10 * (b s - 48) + (b (s + 1) - 48)
def sk (b : Nat → Nat) (n p : Nat) : Nat := ps isS b (n - p) p
def eL (b : Nat → Nat) (n s : Nat) : Nat := ps isL b (n - s) s
def eF (b : Nat → Nat) (n s : Nat) : Nat := ps isF b (n - s) s
/-- kind (4: none), end and number of the TOKEN whose first byte is at s -/
def kK (b : Nat → Nat) (n s : Nat) : Nat := if n ≤ s then 0 else if isL (b s) = true then 1 else if isF (b s) = true then (if eF b n s ≤ s + 2 then 2 else 4) else if b s = 59 then 3 else 4
def kE (b : Nat → Nat) (n s : Nat) : Nat := if n ≤ s then s else if isL (b s) = true then eL b n s else if isF (b s) = true then eF b n s else s + 1
def kV (b : Nat → Nat) (n s : Nat) : Nat := if n ≤ s then 0 else if isL (b s) = true then 0 else if isF (b s) = true then vF b s (eF b n s - s) else 0
theorem sk_ge (b : Nat → Nat) (n p : Nat) : p ≤ sk b n p := ps_ge _ _ _ _
theorem sk_le {b : Nat → Nat} {n p : Nat} (h : p ≤ n) : sk b n p ≤ n := by
  have := ps_le isS b (n - p) p
  unfold sk; omega
theorem eL_le {b : Nat → Nat} {n p : Nat} (h : p ≤ n) : eL b n p ≤ n := by
  have := ps_le isL b (n - p) p
  unfold eL; omega
theorem eF_le {b : Nat → Nat} {n p : Nat} (h : p ≤ n) : eF b n p ≤ n := by
  have := ps_le isF b (n - p) p
  unfold eF; omega
theorem eL_gt {b : Nat → Nat} {n s : Nat} (h : s < n) (hl : isL (b s) = true) : s < eL b n s := by
  unfold eL
  obtain ⟨d, hd⟩ : ∃ d, n - s = d + 1 := ⟨n - s - 1, by omega⟩
  rw [hd, ps_t hl]
  exact ps_ge _ _ _ _
theorem eF_s {b : Nat → Nat} {n s : Nat} (h : s < n) (hl : isF (b s) = true) : eF b n s = eF b n (s + 1) := by
  unfold eF
  obtain ⟨d, hd⟩ : ∃ d, n - s = d + 1 := ⟨n - s - 1, by omega⟩
  rw [hd, ps_t hl, show n - (s + 1) = d by omega]
theorem eF_0 {b : Nat → Nat} {n s : Nat} (h : n ≤ s ∨ isF (b s) = false) : eF b n s = s := by
  unfold eF
  rcases h with h | h
  · rw [show n - s = 0 by omega]; rfl
  · exact ps_f h _
theorem eF_ge (b : Nat → Nat) (n s : Nat) : s ≤ eF b n s := ps_ge _ _ _ _
theorem kE_le {b : Nat → Nat} {n s : Nat} (h : s ≤ n) : kE b n s ≤ n := by
  have h1 := eL_le (b := b) h
  have h2 := eF_le (b := b) h
  unfold kE
  split
  · omega
  · split
    · exact h1
    · split
      · exact h2
      · omega
theorem kE_gt {b : Nat → Nat} {n s : Nat} (h : s < n) : s < kE b n s := by
  unfold kE
  rw [if_neg (by omega)]
  split
  · rename_i hl
    exact eL_gt h hl
  · split
    · rename_i hf
      rw [eF_s h hf]
      exact eF_ge b n (s + 1)
    · omega
theorem kK_pos {b : Nat → Nat} {n s : Nat} (h : kK b n s ≠ 0) : s < n := by
  rcases Nat.lt_or_ge s n with h1 | h1
  · exact h1
  · exact absurd (if_pos h1) h
theorem kK_le (b : Nat → Nat) (n s : Nat) : kK b n s ≤ 4 := by
  unfold kK
  split
  · omega
  · split
    · omega
    · split
      · split <;> omega
      · split <;> omega
theorem vF_le {b : Nat → Nat} {s k : Nat} (h : b s ≤ 57) (h2 : 1 < k → b (s + 1) ≤ 57) : vF b s k ≤ 99 := by
  unfold vF
  split
  · omega
  · split
    · omega
    · have := h2 (by omega)
      omega
theorem kV_le (b : Nat → Nat) (n s : Nat) : kV b n s ≤ 99 := by
  unfold kV
  split
  · omega
  · split
    · omega
    · split
      · rename_i h1 h2 hf
        refine vF_le (isF_t hf).2 (fun hk => ?_)
        rw [eF_s (by omega) hf] at hk
        by_cases hg : isF (b (s + 1)) = true
        · exact (isF_t hg).2
        · rw [eF_0 (Or.inr (by simpa using hg))] at hk
          omega
      · omega
/-! what has changed is in the cell c, in the places l -/
def Fc (c : Nat) (l : List Nat) (g g' : Gg) : Prop := (∀ d, d ≠ c → g' d = g d) ∧ ∀ i, i ∉ l → g' c i = g c i
theorem Fc.refl {c : Nat} {l : List Nat} {g : Gg} : Fc c l g g := ⟨fun _ _ => rfl, fun _ _ => rfl⟩
theorem Fc.u {c i : Nat} {l : List Nat} {g : Gg} {x : Int32} (h : i ∈ l) : Fc c l g (up g c i x) := ⟨fun d hd => upc_n hd, fun j hj => by
  have hji : j ≠ i := fun e => hj (by rw [e]; exact h)
  rw [up_c, pk_un hji]⟩
theorem Fc.tr {c : Nat} {l : List Nat} {g g1 g2 : Gg} (h1 : Fc c l g g1) (h2 : Fc c l g1 g2) : Fc c l g g2 := ⟨fun d hd => (h2.1 d hd).trans (h1.1 d hd), fun i hi => (h2.2 i hi).trans (h1.2 i hi)⟩
theorem Fc.mo {c : Nat} {l l' : List Nat} {g g' : Gg} (h : Fc c l g g') (hl : ∀ i ∈ l, i ∈ l') : Fc c l' g g' := ⟨h.1, fun i hi => h.2 i (fun h2 => hi (hl i h2))⟩
theorem Fc.ux {c i : Nat} {l : List Nat} {g g1 : Gg} {x : Int32} (h1 : Fc c l g g1) (h : i ∈ l) : Fc c l g (up g1 c i x) := h1.tr (Fc.u h)
/-! the class's tape -/
def Ta (g : Gg) (n : Nat) (b : Nat → Nat) : Prop := n ≤ 160 ∧ g 16 3 = nI n ∧ ∀ j, j < n → b j < 128 ∧ g 17 (j * 1 + 0) = nI (b j)
theorem Ta.f {g g' : Gg} {n : Nat} {b : Nat → Nat} (h : Ta g n b) (h16 : g' 16 = g 16) (h17 : g' 17 = g 17) : Ta g' n b := by
  unfold Ta
  rw [h16, h17]; exact h
theorem Ta.c {g g' : Gg} {n c : Nat} {l : List Nat} {b : Nat → Nat} (h : Ta g n b) (hf : Fc c l g g') (hc : c ≠ 16 ∧ c ≠ 17) : Ta g' n b := h.f (hf.1 16 (Ne.symm hc.1)) (hf.1 17 (Ne.symm hc.2))
theorem Ta.a {g : Gg} {n p : Nat} {b : Nat → Nat} (h : Ta g n b) (hp : p < n) : FX6_at 16 (nI p) (nI 0) (mk g) = some (nI (b p), mk g) := by
  have e := R_at rw16 h.2.1 h.1 hp (show 0 < 1 by omega)
  rw [e, (h.2.2 p hp).2]
theorem Ta.n {g : Gg} {n : Nat} {b : Nat → Nat} (h : Ta g n b) : FX6_at 16 (nI n) (nI 0) (mk g) = some (mi 1, mk g) := by
  have hn := h.1
  exact R_atN rw16 h.2.1 (Or.inr ⟨nI_nlt (Nat.zero_le n) (by omega), nI_le (Nat.le_refl n) (by omega)⟩)
theorem c_lt {M : Hx} {x : Nat} (h : isL x = true) : FX5_isLetter (nI x) M = some (nI 1, M) := by
  have h := isL_t h
  simp -dsimp -implicitDefEqProofs (disch := omega) only [bnd_u, gd_t, if_true, if_false, ↓reduceIte, eq_self, true_or, or_true, false_or, or_false, not_true_eq_false, not_false_eq_true, and_true, true_and, and_false, false_and, reduceCtorEq, nI_ge, nI_le, nI_lt, nI_nlt, nI_ne, nI_te, nm_eq, mn_eq, nm_le, mn_le, nm_lt, mn_lt, pk_mul, nI_add, pk_sub, nI_clamp, eX5_isLetter, eX5_isLetter_17]
theorem c_ltN {M : Hx} {x : Nat} (h : isL x = false) (hx : x < 128) : FX5_isLetter (nI x) M = some (nI 0, M) := by
  rcases isL_f h with h | h
  · simp -dsimp -implicitDefEqProofs (disch := omega) only [bnd_u, gd_t, if_true, if_false, ↓reduceIte, eq_self, true_or, or_true, false_or, or_false, not_true_eq_false, not_false_eq_true, and_true, true_and, and_false, false_and, reduceCtorEq, nI_ge, nI_le, nI_lt, nI_nlt, nI_ne, nI_te, nm_eq, mn_eq, nm_le, mn_le, nm_lt, mn_lt, pk_mul, nI_add, pk_sub, nI_clamp, eX5_isLetter, eX5_isLetter_16, eX5_isLetter_17]
  · simp -dsimp -implicitDefEqProofs (disch := omega) only [bnd_u, gd_t, if_true, if_false, ↓reduceIte, eq_self, true_or, or_true, false_or, or_false, not_true_eq_false, not_false_eq_true, and_true, true_and, and_false, false_and, reduceCtorEq, nI_ge, nI_le, nI_lt, nI_nlt, nI_ne, nI_te, nm_eq, mn_eq, nm_le, mn_le, nm_lt, mn_lt, pk_mul, nI_add, pk_sub, nI_clamp, eX5_isLetter, eX5_isLetter_16, eX5_isLetter_17]
theorem c_fi {M : Hx} {x : Nat} (h : isF x = true) : FX5_isFigure (nI x) M = some (nI 1, M) := by
  have h := isF_t h
  simp -dsimp -implicitDefEqProofs (disch := omega) only [bnd_u, gd_t, if_true, if_false, ↓reduceIte, eq_self, true_or, or_true, false_or, or_false, not_true_eq_false, not_false_eq_true, and_true, true_and, and_false, false_and, reduceCtorEq, nI_ge, nI_le, nI_lt, nI_nlt, nI_ne, nI_te, nm_eq, mn_eq, nm_le, mn_le, nm_lt, mn_lt, pk_mul, nI_add, pk_sub, nI_clamp, eX5_isFigure, eX5_isFigure_17]
theorem c_fiN {M : Hx} {x : Nat} (h : isF x = false) (hx : x < 128) : FX5_isFigure (nI x) M = some (nI 0, M) := by
  rcases isF_f h with h | h
  · simp -dsimp -implicitDefEqProofs (disch := omega) only [bnd_u, gd_t, if_true, if_false, ↓reduceIte, eq_self, true_or, or_true, false_or, or_false, not_true_eq_false, not_false_eq_true, and_true, true_and, and_false, false_and, reduceCtorEq, nI_ge, nI_le, nI_lt, nI_nlt, nI_ne, nI_te, nm_eq, mn_eq, nm_le, mn_le, nm_lt, mn_lt, pk_mul, nI_add, pk_sub, nI_clamp, eX5_isFigure, eX5_isFigure_16, eX5_isFigure_17]
  · simp -dsimp -implicitDefEqProofs (disch := omega) only [bnd_u, gd_t, if_true, if_false, ↓reduceIte, eq_self, true_or, or_true, false_or, or_false, not_true_eq_false, not_false_eq_true, and_true, true_and, and_false, false_and, reduceCtorEq, nI_ge, nI_le, nI_lt, nI_nlt, nI_ne, nI_te, nm_eq, mn_eq, nm_le, mn_le, nm_lt, mn_lt, pk_mul, nI_add, pk_sub, nI_clamp, eX5_isFigure, eX5_isFigure_16, eX5_isFigure_17]
theorem c_sp {b : Nat → Nat} {n : Nat} : ∀ (d fuel p : Nat) (g : Gg), p + d = n → d < fuel → Ta g n b → g 18 7 = nI p → ∃ g', FX5_takeToken_0 fuel 18 (mk g) = FX5_takeToken_44 18 (mk g') ∧ Fc 18 [7] g g' ∧ g' 18 7 = nI (ps isS b d p)
  | 0, fuel, p, g, hd, hf, hT, h7 => by
    obtain ⟨m, rfl⟩ : ∃ m, fuel = m + 1 := ⟨fuel - 1, by omega⟩
    have hn := hT.1
    have h16 := hT.2.1
    refine ⟨g, ?_, Fc.refl, h7⟩
    simp -dsimp -implicitDefEqProofs (disch := omega) only [bnd_u, gd_t, if_true, if_false, ↓reduceIte, eq_self, true_or, or_true, false_or, or_false, not_true_eq_false, not_false_eq_true, and_true, true_and, and_false, false_and, reduceCtorEq, nI_ge, nI_le, nI_lt, nI_nlt, nI_ne, nI_te, nm_eq, mn_eq, nm_le, mn_le, nm_lt, mn_lt, pk_mul, nI_add, pk_sub, nI_clamp, eX5_takeToken_0, hRd, hTS, h7, h16]
  | d + 1, fuel, p, g, hd, hf, hT, h7 => by
    obtain ⟨m, rfl⟩ : ∃ m, fuel = m + 1 := ⟨fuel - 1, by omega⟩
    have hn := hT.1
    have h16 := hT.2.1
    have hA := hT.a (p := p) (by omega)
    have hb := (hT.2.2 p (by omega)).1
    by_cases e32 : b p = 32
    · have k7 : up g 18 7 (nI (p + 1)) 18 7 = nI (p + 1) := by rw [up_c, pk_us]
      obtain ⟨g', e, f, r⟩ := c_sp d m (p + 1) (up g 18 7 (nI (p + 1))) (by omega) (by omega) (hT.f (up_n (by decide)) (up_n (by decide))) k7
      have hc : isS (b p) = true := decide_eq_true e32
      refine ⟨g', ?_, (Fc.u (by decide)).tr f, ?_⟩
      · simp -dsimp -implicitDefEqProofs (disch := omega) only [bnd_u, gd_t, if_true, if_false, ↓reduceIte, eq_self, true_or, or_true, false_or, or_false, not_true_eq_false, not_false_eq_true, and_true, true_and, and_false, false_and, reduceCtorEq, nI_ge, nI_le, nI_lt, nI_nlt, nI_ne, nI_te, nm_eq, mn_eq, nm_le, mn_le, nm_lt, mn_lt, pk_mul, nI_add, pk_sub, nI_clamp, eX5_takeToken_0, hRd, hTS, h7, h16, hA, e32, e]
      · rw [r, ps_t hc]
    · have hc : isS (b p) = false := decide_eq_false e32
      refine ⟨g, ?_, Fc.refl, ?_⟩
      · simp -dsimp -implicitDefEqProofs (disch := omega) only [bnd_u, gd_t, if_true, if_false, ↓reduceIte, eq_self, true_or, or_true, false_or, or_false, not_true_eq_false, not_false_eq_true, and_true, true_and, and_false, false_and, reduceCtorEq, nI_ge, nI_le, nI_lt, nI_nlt, nI_ne, nI_te, nm_eq, mn_eq, nm_le, mn_le, nm_lt, mn_lt, pk_mul, nI_add, pk_sub, nI_clamp, eX5_takeToken_0, hRd, hTS, h7, h16, hA]
      · rw [ps_f hc, h7]
theorem c_pass {b : Nat → Nat} {n : Nat} : ∀ (d fuel p : Nat) (g : Gg), p + d = n → d < fuel → Ta g n b → g 18 7 = nI p → ∃ g', FX5_passLetters_0 fuel 18 (mk g) = some ((), mk g') ∧ Fc 18 [7] g g' ∧ g' 18 7 = nI (ps isL b d p)
  | 0, fuel, p, g, hd, hf, hT, h7 => by
    obtain ⟨m, rfl⟩ : ∃ m, fuel = m + 1 := ⟨fuel - 1, by omega⟩
    have hn := hT.1
    have h16 := hT.2.1
    refine ⟨g, ?_, Fc.refl, h7⟩
    simp -dsimp -implicitDefEqProofs (disch := omega) only [bnd_u, gd_t, if_true, if_false, ↓reduceIte, eq_self, true_or, or_true, false_or, or_false, not_true_eq_false, not_false_eq_true, and_true, true_and, and_false, false_and, reduceCtorEq, nI_ge, nI_le, nI_lt, nI_nlt, nI_ne, nI_te, nm_eq, mn_eq, nm_le, mn_le, nm_lt, mn_lt, pk_mul, nI_add, pk_sub, nI_clamp, eX5_passLetters_0, eX5_passLetters_45, hRd, hTS, h7, h16]
  | d + 1, fuel, p, g, hd, hf, hT, h7 => by
    obtain ⟨m, rfl⟩ : ∃ m, fuel = m + 1 := ⟨fuel - 1, by omega⟩
    have hn := hT.1
    have h16 := hT.2.1
    have hA := hT.a (p := p) (by omega)
    have hb := (hT.2.2 p (by omega)).1
    cases hc : isL (b p)
    · have hl := fun M => c_ltN (M := M) hc hb
      refine ⟨g, ?_, Fc.refl, ?_⟩
      · simp -dsimp -implicitDefEqProofs (disch := omega) only [bnd_u, gd_t, if_true, if_false, ↓reduceIte, eq_self, true_or, or_true, false_or, or_false, not_true_eq_false, not_false_eq_true, and_true, true_and, and_false, false_and, reduceCtorEq, nI_ge, nI_le, nI_lt, nI_nlt, nI_ne, nI_te, nm_eq, mn_eq, nm_le, mn_le, nm_lt, mn_lt, pk_mul, nI_add, pk_sub, nI_clamp, eX5_passLetters_0, eX5_passLetters_45, hRd, hTS, h7, h16, hA, hl]
      · rw [ps_f hc, h7]
    · have hl := fun M => c_lt (M := M) hc
      have k7 : up g 18 7 (nI (p + 1)) 18 7 = nI (p + 1) := by rw [up_c, pk_us]
      obtain ⟨g', e, f, r⟩ := c_pass d m (p + 1) (up g 18 7 (nI (p + 1))) (by omega) (by omega) (hT.f (up_n (by decide)) (up_n (by decide))) k7
      refine ⟨g', ?_, (Fc.u (by decide)).tr f, ?_⟩
      · simp -dsimp -implicitDefEqProofs (disch := omega) only [bnd_u, gd_t, if_true, if_false, ↓reduceIte, eq_self, true_or, or_true, false_or, or_false, not_true_eq_false, not_false_eq_true, and_true, true_and, and_false, false_and, reduceCtorEq, nI_ge, nI_le, nI_lt, nI_nlt, nI_ne, nI_te, nm_eq, mn_eq, nm_le, mn_le, nm_lt, mn_lt, pk_mul, nI_add, pk_sub, nI_clamp, eX5_passLetters_0, eX5_passLetters_45, hRd, hTS, h7, h16, hA, hl, e]
      · rw [r, ps_t hc]
theorem c_meet {g : Gg} {c s : Nat} (h6 : g 18 6 = nI s) : FX5_meet 18 (nI c) (mk g) = some (nI 0, mk (up (up g 18 3 (nI c)) 18 4 (nI s))) := by
  have k6 : up g 18 3 (nI c) 18 6 = nI s := by rw [up_c, pk_un (by decide), h6]
  simp -dsimp -implicitDefEqProofs (disch := omega) only [bnd_u, gd_t, if_true, if_false, ↓reduceIte, eq_self, true_or, or_true, false_or, or_false, not_true_eq_false, not_false_eq_true, and_true, true_and, and_false, false_and, reduceCtorEq, nI_ge, nI_le, nI_lt, nI_nlt, nI_ne, nI_te, nm_eq, mn_eq, nm_le, mn_le, nm_lt, mn_lt, pk_mul, nI_add, pk_sub, nI_clamp, eX5_meet, hRd, k6]
/-- a figure of the class's -/
theorem c_f1 {g : Gg} {b : Nat → Nat} {n m s p v : Nat} (hT : Ta g n b) (h6 : g 18 6 = nI s) (h7 : g 18 7 = nI p) (h8 : g 18 8 = nI v) (hp : p < n) (hf : isF (b p) = true) (hs : s ≤ p) (h2 : p < s + 2) : FX5_takeFigures_5 (m + 1) 18 (mk g) = FX5_takeFigures_5 m 18 (mk (up (up g 18 8 (nI (v * 10 + b p - 48))) 18 7 (nI (p + 1)))) := by
  have hn := hT.1
  have h16 := hT.2.1
  have hA := hT.a hp
  have hl := fun M => c_fi (M := M) hf
  have hf := isF_t hf
  have k7 : up g 18 8 (nI (v * 10 + b p - 48)) 18 7 = nI p := by rw [up_c, pk_un (by decide), h7]
  simp -dsimp -implicitDefEqProofs (disch := omega) only [bnd_u, gd_t, if_true, if_false, ↓reduceIte, eq_self, true_or, or_true, false_or, or_false, not_true_eq_false, not_false_eq_true, and_true, true_and, and_false, false_and, reduceCtorEq, nI_ge, nI_le, nI_lt, nI_nlt, nI_ne, nI_te, nm_eq, mn_eq, nm_le, mn_le, nm_lt, mn_lt, pk_mul, nI_add, pk_sub, nI_clamp, eX5_takeFigures_5, hRd, hTS, h6, h7, h8, h16, hA, hl, k7]
theorem c_f0 {g : Gg} {b : Nat → Nat} {n m p : Nat} (hT : Ta g n b) (h7 : g 18 7 = nI p) (hp : p = n ∨ (p < n ∧ isF (b p) = false)) : FX5_takeFigures_5 (m + 1) 18 (mk g) = some (nI 1, mk g) := by
  have hn := hT.1
  have h16 := hT.2.1
  rcases hp with rfl | ⟨hp, hf⟩
  · simp -dsimp -implicitDefEqProofs (disch := omega) only [bnd_u, gd_t, if_true, if_false, ↓reduceIte, eq_self, true_or, or_true, false_or, or_false, not_true_eq_false, not_false_eq_true, and_true, true_and, and_false, false_and, reduceCtorEq, nI_ge, nI_le, nI_lt, nI_nlt, nI_ne, nI_te, nm_eq, mn_eq, nm_le, mn_le, nm_lt, mn_lt, pk_mul, nI_add, pk_sub, nI_clamp, eX5_takeFigures_5, eX5_takeFigures_96, hRd, hTS, h7, h16]
  · have hA := hT.a hp
    have hl := fun M => c_fiN (M := M) hf (hT.2.2 p hp).1
    simp -dsimp -implicitDefEqProofs (disch := omega) only [bnd_u, gd_t, if_true, if_false, ↓reduceIte, eq_self, true_or, or_true, false_or, or_false, not_true_eq_false, not_false_eq_true, and_true, true_and, and_false, false_and, reduceCtorEq, nI_ge, nI_le, nI_lt, nI_nlt, nI_ne, nI_te, nm_eq, mn_eq, nm_le, mn_le, nm_lt, mn_lt, pk_mul, nI_add, pk_sub, nI_clamp, eX5_takeFigures_5, eX5_takeFigures_96, hRd, hTS, h7, h16, hA, hl]
theorem c_f2 {g : Gg} {b : Nat → Nat} {n m s p : Nat} (hT : Ta g n b) (h6 : g 18 6 = nI s) (h7 : g 18 7 = nI p) (hp : p < n) (hf : isF (b p) = true) (h2 : s + 2 ≤ p) : FX5_takeFigures_5 (m + 1) 18 (mk g) = some (nI 0, mk (up (up g 18 3 (nI 1)) 18 4 (nI s))) := by
  have hn := hT.1
  have h16 := hT.2.1
  have hA := hT.a hp
  have hl := fun M => c_fi (M := M) hf
  have hm := c_meet (c := 1) h6
  simp -dsimp -implicitDefEqProofs (disch := omega) only [bnd_u, gd_t, if_true, if_false, ↓reduceIte, eq_self, true_or, or_true, false_or, or_false, not_true_eq_false, not_false_eq_true, and_true, true_and, and_false, false_and, reduceCtorEq, nI_ge, nI_le, nI_lt, nI_nlt, nI_ne, nI_te, nm_eq, mn_eq, nm_le, mn_le, nm_lt, mn_lt, pk_mul, nI_add, pk_sub, nI_clamp, eX5_takeFigures_5, hRd, hTS, h6, h7, h16, hA, hl, hm]
