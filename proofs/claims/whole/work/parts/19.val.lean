/-! the value of a thing: by hours and turns, or by the turn that is latest -/
def tm (q : Nat → Nat) (i n : Nat) : Bool := decide (q (13 + 3 * n + 1) = i)
/-- behind the turns 0 .. n - 1 of the hour t -/
def vin (q : Nat → Nat) (i t : Nat) : Nat → Nat → Nat
  | 0, v => v
  | n + 1, v => if q (13 + 3 * n) = t ∧ q (13 + 3 * n + 1) = i then q (13 + 3 * n + 2) else vin q i t n v
/-- of the turns 0 .. n - 1, behind the hours 0 .. t - 1 -/
def vat (q : Nat → Nat) (i n : Nat) : Nat → Nat
  | 0 => q (10 + i)
  | t + 1 => vin q i t n (vat q i n t)
def lat (q : Nat → Nat) (i T : Nat) : Nat → Nat
  | 0 => 0
  | n + 1 => if q (13 + 3 * n + 1) = i ∧ q (13 + 3 * n) < T ∧ lat q i T n ≤ q (13 + 3 * n) then q (13 + 3 * n) else lat q i T n
theorem lat_le (q : Nat → Nat) (i T : Nat) : ∀ n, lat q i (T + 1) n ≤ T
  | 0 => Nat.zero_le _
  | n + 1 => by
    have h := lat_le q i T n
    rw [lat]
    split <;> omega
theorem lat_mono (q : Nat → Nat) (i T n : Nat) : lat q i T n ≤ lat q i T (n + 1) := by
  rw [lat]
  split <;> omega
theorem lat_hit (q : Nat → Nat) (i T j : Nat) (h1 : q (13 + 3 * j) = T) (h2 : q (13 + 3 * j + 1) = i) : ∀ n, j < n → lat q i (T + 1) n = T
  | 0, h => absurd h (by omega)
  | n + 1, h => by
    by_cases e : j = n
    · subst e
      have h3 := lat_le q i T j
      rw [lat, if_pos ⟨h2, by omega, by omega⟩, h1]
    · have h3 := lat_hit q i T j h1 h2 n (by omega)
      have h4 := lat_mono q i (T + 1) n
      have h5 := lat_le q i T (n + 1)
      omega
theorem lat_no (q : Nat → Nat) (i T : Nat) : ∀ n, (∀ j, j < n → ¬ (q (13 + 3 * j) = T ∧ q (13 + 3 * j + 1) = i)) → lat q i (T + 1) n = lat q i T n
  | 0, _ => rfl
  | n + 1, h => by
    have h1 := lat_no q i T n (fun j hj => h j (by omega))
    have h2 := h n (by omega)
    rw [lat, lat, h1]
    by_cases e : q (13 + 3 * n + 1) = i
    · have h3 : q (13 + 3 * n) ≠ T := fun h4 => h2 ⟨h4, e⟩
      have h4 : q (13 + 3 * n) < T + 1 ↔ q (13 + 3 * n) < T := by omega
      simp only [h4]
    · rw [if_neg (fun h => e h.1), if_neg (fun h => e h.1)]
theorem vin_no (q : Nat → Nat) (i t v : Nat) : ∀ n, (∀ j, j < n → ¬ (q (13 + 3 * j) = t ∧ q (13 + 3 * j + 1) = i)) → vin q i t n v = v
  | 0, _ => rfl
  | n + 1, h => by rw [vin, if_neg (h n (by omega)), vin_no q i t v n (fun j hj => h j (by omega))]
theorem vin_hit (q : Nat → Nat) (i t v w : Nat) : ∀ n, (∃ j, j < n ∧ q (13 + 3 * j) = t ∧ q (13 + 3 * j + 1) = i) → vin q i t n v = vin q i t n w
  | 0, ⟨j, hj, _⟩ => absurd hj (by omega)
  | n + 1, ⟨j, hj, h⟩ => by
    rw [vin, vin]
    split
    · rfl
    · rename_i h2
      have h3 : j ≠ n := fun e => h2 (e ▸ h)
      exact vin_hit q i t v w n ⟨j, by omega, h⟩
theorem vat_skip (q : Nat → Nat) (i n : Nat) : ∀ T, ¬ (q (13 + 3 * n + 1) = i ∧ q (13 + 3 * n) < T) → vat q i (n + 1) T = vat q i n T
  | 0, _ => rfl
  | T + 1, h => by
    rw [vat, vat, vat_skip q i n T (fun h2 => h ⟨h2.1, by omega⟩), vin, if_neg (fun h2 => h ⟨h2.2, by omega⟩)]
theorem vat_step (q : Nat → Nat) (i n : Nat) (hm : q (13 + 3 * n + 1) = i) : ∀ T, q (13 + 3 * n) < T → vat q i (n + 1) T = if lat q i T n ≤ q (13 + 3 * n) then q (13 + 3 * n + 2) else vat q i n T
  | 0, h => absurd h (by omega)
  | T + 1, h => by
    by_cases e : q (13 + 3 * n) = T
    · have h1 := lat_le q i T n
      rw [if_pos (by omega), vat, vin, if_pos ⟨e, hm⟩]
    · have ih := vat_step q i n hm T (by omega)
      rw [vat, vin, if_neg (fun h2 => e h2.1)]
      by_cases hx : ∃ j, j < n ∧ q (13 + 3 * j) = T ∧ q (13 + 3 * j + 1) = i
      · obtain ⟨j, hj, h1, h2⟩ := hx
        have h3 := lat_hit q i T j h1 h2 n hj
        rw [if_neg (by omega), vat]
        exact vin_hit q i T _ _ n ⟨j, hj, h1, h2⟩
      · have hx2 : ∀ j, j < n → ¬ (q (13 + 3 * j) = T ∧ q (13 + 3 * j + 1) = i) := fun j hj h => hx ⟨j, hj, h⟩
        rw [vin_no q i T _ n hx2, ih, lat_no q i T n hx2, vat, vin_no q i T _ n hx2]
/-- one turn more, as the class takes it -/
theorem vat_next (q : Nat → Nat) (i n T : Nat) : vat q i (n + 1) T = if q (13 + 3 * n + 1) = i ∧ q (13 + 3 * n) < T ∧ lat q i T n ≤ q (13 + 3 * n) then q (13 + 3 * n + 2) else vat q i n T := by
  by_cases h : q (13 + 3 * n + 1) = i ∧ q (13 + 3 * n) < T
  · rw [vat_step q i n h.1 T h.2]
    by_cases h2 : lat q i T n ≤ q (13 + 3 * n)
    · rw [if_pos h2, if_pos ⟨h.1, h.2, h2⟩]
    · rw [if_neg h2, if_neg (fun h3 => h2 h3.2.2)]
  · rw [vat_skip q i n T h, if_neg (fun h3 => h ⟨h3.1, h3.2.1⟩)]
theorem vin_9 {q : Nat → Nat} {K : Nat} (hG : Gd q K) (i t : Nat) {v : Nat} (hv : v ≤ 9) : ∀ n, n ≤ q 25 → vin q i t n v ≤ 9
  | 0, _ => hv
  | n + 1, h => by
    rw [vin]
    split
    · exact (hG.t (show n < q 25 by omega)).2.2
    · exact vin_9 hG i t hv n (by omega)
theorem vat_9 {q : Nat → Nat} {K : Nat} (hG : Gd q K) {i : Nat} (hi : i < 3) : ∀ T n, n ≤ q 25 → vat q i n T ≤ 9
  | 0, n, _ => hG.v hi
  | T + 1, n, hn => by
    rw [vat]
    exact vin_9 hG i T (vat_9 hG hi T n hn) n hn
theorem vat_base (q : Nat → Nat) (i : Nat) : ∀ T, vat q i 0 T = q (10 + i)
  | 0 => rfl
  | T + 1 => by rw [vat, vin, vat_base q i T]
/-- the value of thing i behind the turns of the hours below T -/
def vl (q : Nat → Nat) (i T : Nat) : Nat := vat q i (q 25) T
theorem f_turn {g : Gg} {q : Nat → Nat} {K i j : Nat} (hF : F1 g q K) (hG : Gd q K) (hi : i < q 25) (hj : j < 3) : FX6_at 4 (nI i) (nI j) (mk g) = some (nI (q (13 + 3 * i + j)), mk g) := by
  rw [R_at rw4 hF.2.2.2.1 hG.tn hi hj, hF.2.2.2.2.1 i j hi hj]
/-- T: the hour and 1; 0 for NONE -/
def hT (T : Nat) : Int32 := if T = 0 then mi 4 else nI (T - 1)
theorem hT_s (h : Nat) : hT (h + 1) = nI h := by
  unfold hT
  rw [if_neg (by omega), Nat.add_sub_cancel]
theorem hT_lt {T a : Nat} (hT' : T ≤ 10) (ha : a ≤ 9) : (hT T < nI a) ↔ ¬ a < T := by
  by_cases h : T = 0
  · subst h
    rw [show hT 0 = mi 4 from rfl]
    by_cases h2 : a = 0
    · subst h2; decide
    · rw [mn_lt (by omega) (by omega) (by omega)]; simp
  · rw [show hT T = nI (T - 1) from if_neg h, nI_ltI (by omega) (by omega)]; omega
theorem f_value {g : Gg} {q : Nat → Nat} {K i T : Nat} (hF : F1 g q K) (hG : Gd q K) (hi : i < 3) (hT' : T ≤ 10) : FX1_valueBehind 1 (nI i) (hT T) (mk g) = some (nI (vl q i T), mk g) := by
  have htn := hG.tn
  have e0 : FX1_valueBehind 1 (nI i) (hT T) (mk g) = FX1_valueBehind_26 fu 1 (nI i) (hT T) (nI (q (10 + i))) (nI 0) (nI 0) (mk g) := by
    simp -dsimp -implicitDefEqProofs (disch := omega) only [bnd_u, gd_t, if_true, if_false, ↓reduceIte, eq_self, true_or, or_true, false_or, or_false, not_true_eq_false, not_false_eq_true, and_true, true_and, and_false, false_and, reduceCtorEq, nI_ge, nI_le, nI_lt, nI_nlt, nI_ne, nI_te, nm_eq, mn_eq, nm_le, mn_le, nm_lt, mn_lt, pk_mul, nI_add, pk_sub, nI_clamp, eX1_valueBehind, eX1_valueBehind_19, hFam, hF.2.2.2.2.2.2.2.2.2 i hi]
  rw [e0]
  refine lp_0 (σ := Int32 × Int32) (fun n t s => FX1_valueBehind_26 n 1 (nI i) (hT T) s.1 s.2 (nI t) (mk g)) (q 25) (fun t s => s = (nI (vat q i t T), nI (lat q i T t))) (fun o => o = some (nI (vl q i T), mk g)) (s := (_, _)) ?_ (fu_l (by omega)) ?_ ?_
  · rw [vat_base]; rfl
  · intro n t s ht hs
    subst hs
    have ht3 := hG.t ht
    have h0 := f_turn hF hG ht (show 0 < 3 by omega)
    have h1 := f_turn hF hG ht (show 1 < 3 by omega)
    have h2 := f_turn hF hG ht (show 2 < 3 by omega)
    rw [Nat.add_zero] at h0
    have hl : lat q i T t ≤ 9 := by
      rcases Nat.eq_zero_or_pos T with h | h
      · subst h
        have : ∀ n, lat q i 0 n = 0 := fun n => by
          induction n with
          | zero => rfl
          | succ n ih => rw [lat, ih, if_neg (by omega)]
        rw [this]; omega
      · obtain ⟨T', rfl⟩ : ∃ T', T = T' + 1 := ⟨T - 1, by omega⟩
        have := lat_le q i T' t
        omega
    refine Or.inr ⟨(nI (vat q i (t + 1) T), nI (lat q i T (t + 1))), ?_, rfl⟩
    dsimp only
    rw [vat_next, lat]
    have hlt := hT_lt hT' ht3.1
    by_cases a1 : q (13 + 3 * t + 1) = i
    · by_cases a2 : q (13 + 3 * t) < T
      · have a2' : ¬ hT T < nI (q (13 + 3 * t)) := fun h => (hlt.mp h) a2
        by_cases a3 : lat q i T t ≤ q (13 + 3 * t)
        · rw [if_pos ⟨a1, a2, a3⟩, if_pos ⟨a1, a2, a3⟩]
          simp -dsimp -implicitDefEqProofs (disch := omega) only [bnd_u, gd_t, if_true, if_false, ↓reduceIte, eq_self, true_or, or_true, false_or, or_false, not_true_eq_false, not_false_eq_true, and_true, true_and, and_false, false_and, reduceCtorEq, nI_ge, nI_le, nI_lt, nI_nlt, nI_ne, nI_te, nm_eq, mn_eq, nm_le, mn_le, nm_lt, mn_lt, pk_mul, nI_add, pk_sub, nI_clamp, eX1_valueBehind_26, eX1_valueBehind_92, hFam, hF.2.2.2.1, h0, h1, h2, a1, a2']
        · rw [if_neg (fun h => a3 h.2.2), if_neg (fun h => a3 h.2.2)]
          simp -dsimp -implicitDefEqProofs (disch := omega) only [bnd_u, gd_t, if_true, if_false, ↓reduceIte, eq_self, true_or, or_true, false_or, or_false, not_true_eq_false, not_false_eq_true, and_true, true_and, and_false, false_and, reduceCtorEq, nI_ge, nI_le, nI_lt, nI_nlt, nI_ne, nI_te, nm_eq, mn_eq, nm_le, mn_le, nm_lt, mn_lt, pk_mul, nI_add, pk_sub, nI_clamp, eX1_valueBehind_26, eX1_valueBehind_92, hFam, hF.2.2.2.1, h0, h1, h2, a1, a2']
      · have a2' : hT T < nI (q (13 + 3 * t)) := hlt.mpr a2
        rw [if_neg (fun h => a2 h.2.1), if_neg (fun h => a2 h.2.1)]
        simp -dsimp -implicitDefEqProofs (disch := omega) only [bnd_u, gd_t, if_true, if_false, ↓reduceIte, eq_self, true_or, or_true, false_or, or_false, not_true_eq_false, not_false_eq_true, and_true, true_and, and_false, false_and, reduceCtorEq, nI_ge, nI_le, nI_lt, nI_nlt, nI_ne, nI_te, nm_eq, mn_eq, nm_le, mn_le, nm_lt, mn_lt, pk_mul, nI_add, pk_sub, nI_clamp, eX1_valueBehind_26, eX1_valueBehind_92, hFam, hF.2.2.2.1, h0, h1, h2, a1, a2']
    · rw [if_neg (fun h => a1 h.1), if_neg (fun h => a1 h.1)]
      simp -dsimp -implicitDefEqProofs (disch := omega) only [bnd_u, gd_t, if_true, if_false, ↓reduceIte, eq_self, true_or, or_true, false_or, or_false, not_true_eq_false, not_false_eq_true, and_true, true_and, and_false, false_and, reduceCtorEq, nI_ge, nI_le, nI_lt, nI_nlt, nI_ne, nI_te, nm_eq, mn_eq, nm_le, mn_le, nm_lt, mn_lt, pk_mul, nI_add, pk_sub, nI_clamp, eX1_valueBehind_26, eX1_valueBehind_92, hFam, hF.2.2.2.1, h0, h1, h2]
  · intro n s hs
    subst hs
    simp -dsimp -implicitDefEqProofs (disch := omega) only [bnd_u, gd_t, if_true, if_false, ↓reduceIte, eq_self, true_or, or_true, false_or, or_false, not_true_eq_false, not_false_eq_true, and_true, true_and, and_false, false_and, reduceCtorEq, nI_ge, nI_le, nI_lt, nI_nlt, nI_ne, nI_te, nm_eq, mn_eq, nm_le, mn_le, nm_lt, mn_lt, pk_mul, nI_add, pk_sub, nI_clamp, eX1_valueBehind_26, hFam, hF.2.2.2.1, vl]
theorem m_value {g : Gg} {q : Nat → Nat} {K i T : Nat} (hM : Ms g q K) (hG : Gd q K) (hi : i < 3) (hT' : T ≤ 10) : FX9_valueAt 78 (nI i) (hT T) (mk g) = some (nI (vl q i T), mk g) := by
  have htn := hG.tn
  have e0 : FX9_valueAt 78 (nI i) (hT T) (mk g) = FX9_valueAt_13 fu 78 (nI i) (hT T) (nI (q (10 + i))) (nI 0) (mk g) := by
    simp -dsimp -implicitDefEqProofs (disch := omega) only [bnd_u, gd_t, if_true, if_false, ↓reduceIte, eq_self, true_or, or_true, false_or, or_false, not_true_eq_false, not_false_eq_true, and_true, true_and, and_false, false_and, reduceCtorEq, nI_ge, nI_le, nI_lt, nI_nlt, nI_ne, nI_te, nm_eq, mn_eq, nm_le, mn_le, nm_lt, mn_lt, pk_mul, nI_add, pk_sub, nI_clamp, eX9_valueAt, hMo, hM.a]
  rw [e0]
  refine lp_0 (σ := Int32) (fun n t s => FX9_valueAt_13 n 78 (nI i) (hT T) s (nI t) (mk g)) T (fun t s => s = nI (vat q i (q 25) t)) (fun o => o = some (nI (vl q i T), mk g)) rfl (fu_l (by omega)) ?_ ?_
  · intro n t s ht hs
    subst hs
    have hlt := hT_lt hT' (show t ≤ 9 by omega)
    have a2' : ¬ hT T < nI t := fun h => (hlt.mp h) ht
    refine Or.inr ⟨nI (vat q i (q 25) (t + 1)), ?_, rfl⟩
    have e1 : FX9_valueAt_13 (n + 1) 78 (nI i) (hT T) (nI (vat q i (q 25) t)) (nI t) (mk g) = FX9_valueAt_22 n fu 78 (nI i) (hT T) (nI (vat q i (q 25) t)) (nI t) (nI 0) (mk g) := by
      simp -dsimp -implicitDefEqProofs (disch := omega) only [bnd_u, gd_t, if_true, if_false, ↓reduceIte, eq_self, true_or, or_true, false_or, or_false, not_true_eq_false, not_false_eq_true, and_true, true_and, and_false, false_and, reduceCtorEq, nI_ge, nI_le, nI_lt, nI_nlt, nI_ne, nI_te, nm_eq, mn_eq, nm_le, mn_le, nm_lt, mn_lt, pk_mul, nI_add, pk_sub, nI_clamp, eX9_valueAt_13, a2']
    rw [e1, vat]
    refine lp_0 (σ := Int32) (fun m j s => FX9_valueAt_22 n m 78 (nI i) (hT T) s (nI t) (nI j) (mk g)) (q 25) (fun j s => s = nI (vin q i t j (vat q i (q 25) t))) (fun o => o = FX9_valueAt_13 n 78 (nI i) (hT T) (nI (vin q i t (q 25) (vat q i (q 25) t))) (nI (t + 1)) (mk g)) rfl (fu_l (by omega)) ?_ ?_
    · intro m j s hj hs
      subst hs
      have ht3 := hG.t hj
      refine Or.inr ⟨_, ?_, rfl⟩
      rw [vin]
      by_cases a1 : q (13 + 3 * j) = t
      · by_cases a3 : q (13 + 3 * j + 1) = i
        · rw [if_pos ⟨a1, a3⟩]
          simp -dsimp -implicitDefEqProofs (disch := omega) only [bnd_u, gd_t, if_true, if_false, ↓reduceIte, eq_self, true_or, or_true, false_or, or_false, not_true_eq_false, not_false_eq_true, and_true, true_and, and_false, false_and, reduceCtorEq, nI_ge, nI_le, nI_lt, nI_nlt, nI_ne, nI_te, nm_eq, mn_eq, nm_le, mn_le, nm_lt, mn_lt, pk_mul, nI_add, pk_sub, nI_clamp, eX9_valueAt_22, eX9_valueAt_81, hMo, hM.a, a1, a3]
        · rw [if_neg (fun h => a3 h.2)]
          simp -dsimp -implicitDefEqProofs (disch := omega) only [bnd_u, gd_t, if_true, if_false, ↓reduceIte, eq_self, true_or, or_true, false_or, or_false, not_true_eq_false, not_false_eq_true, and_true, true_and, and_false, false_and, reduceCtorEq, nI_ge, nI_le, nI_lt, nI_nlt, nI_ne, nI_te, nm_eq, mn_eq, nm_le, mn_le, nm_lt, mn_lt, pk_mul, nI_add, pk_sub, nI_clamp, eX9_valueAt_22, eX9_valueAt_80, eX9_valueAt_81, hMo, hM.a, a1]
      · rw [if_neg (fun h => a1 h.1)]
        simp -dsimp -implicitDefEqProofs (disch := omega) only [bnd_u, gd_t, if_true, if_false, ↓reduceIte, eq_self, true_or, or_true, false_or, or_false, not_true_eq_false, not_false_eq_true, and_true, true_and, and_false, false_and, reduceCtorEq, nI_ge, nI_le, nI_lt, nI_nlt, nI_ne, nI_te, nm_eq, mn_eq, nm_le, mn_le, nm_lt, mn_lt, pk_mul, nI_add, pk_sub, nI_clamp, eX9_valueAt_22, eX9_valueAt_80, eX9_valueAt_81, hMo, hM.a]
    · intro m s hs
      subst hs
      simp -dsimp -implicitDefEqProofs (disch := omega) only [bnd_u, gd_t, if_true, if_false, ↓reduceIte, eq_self, true_or, or_true, false_or, or_false, not_true_eq_false, not_false_eq_true, and_true, true_and, and_false, false_and, reduceCtorEq, nI_ge, nI_le, nI_lt, nI_nlt, nI_ne, nI_te, nm_eq, mn_eq, nm_le, mn_le, nm_lt, mn_lt, pk_mul, nI_add, pk_sub, nI_clamp, eX9_valueAt_22, hMo, hM.a]
  · intro n s hs
    subst hs
    have a2' : hT T < nI T := by
      by_cases h : T = 10
      · subst h; decide
      · exact (hT_lt hT' (by omega)).mpr (by omega)
    simp -dsimp -implicitDefEqProofs (disch := omega) only [bnd_u, gd_t, if_true, if_false, ↓reduceIte, eq_self, true_or, or_true, false_or, or_false, not_true_eq_false, not_false_eq_true, and_true, true_and, and_false, false_and, reduceCtorEq, nI_ge, nI_le, nI_lt, nI_nlt, nI_ne, nI_te, nm_eq, mn_eq, nm_le, mn_le, nm_lt, mn_lt, pk_mul, nI_add, pk_sub, nI_clamp, eX9_valueAt_13, a2', vl]
