/-! ask -/
theorem ct_t {p : Nat → Bool} {n : Nat} (h : p n = true) : fb_ct p (n + 1) = fb_ct p n + 1 := by rw [fb_ct_succ, if_pos h]
theorem ct_f {p : Nat → Bool} {n : Nat} (h : p n = false) : fb_ct p (n + 1) = fb_ct p n := by rw [fb_ct_succ, if_neg (by rw [h]; decide), Nat.add_zero]
def alk (m : Nat) (A : Nat → Nat → Nat) (c a : Nat) : Nat → Bool := fun b => m.testBit a && (m.testBit b && decide (A a c = A b c))
def lwo (m : Nat) (A : Nat → Nat → Nat) (c : Nat) : Nat → Nat
  | 0 => 0
  | a + 1 => max (lwo m A c a) (fb_ct (alk m A c a) 6)
theorem lwo_6 {m : Nat} {A : Nat → Nat → Nat} {c : Nat} : ∀ a, lwo m A c a ≤ 6
  | 0 => by show 0 ≤ 6; omega
  | a + 1 => Nat.max_le.mpr ⟨lwo_6 a, fb_ct_le _ 6⟩
def qco (c : Nat) : Nat := 10 * (c / 3) + (c - c / 3 * 3)
def aqs (m : Nat) (A : Nat → Nat → Nat) : Nat → Nat × Nat
  | 0 => (fb_ct m.testBit 10, 0)
  | c + 1 => if (aqs m A c).1 ≤ lwo m A c 6 then aqs m A c else (lwo m A c 6, qco c + 1)
theorem aqs_b {m : Nat} {A : Nat → Nat → Nat} : ∀ c, c ≤ 15 → (aqs m A c).1 ≤ 10 ∧ (aqs m A c).2 ≤ 100
  | 0, _ => ⟨fb_ct_le _ 10, by show 0 ≤ 100; omega⟩
  | c + 1, hc => by
    show (if (aqs m A c).1 ≤ lwo m A c 6 then aqs m A c else (lwo m A c 6, qco c + 1)).1 ≤ 10 ∧ (if (aqs m A c).1 ≤ lwo m A c 6 then aqs m A c else (lwo m A c 6, qco c + 1)).2 ≤ 100
    split
    · exact aqs_b c (by omega)
    · have := lwo_6 (m := m) (A := A) (c := c) 6
      refine ⟨by show lwo m A c 6 ≤ 10; omega, ?_⟩
      show qco c + 1 ≤ 100
      unfold qco; omega
theorem omax {a b : Nat} (ha : a < 2 ^ 31) (hb : b < 2 ^ 31) : o_max (nI a) (nI b) = nI (max a b) := by
  by_cases h : a < b
  · rw [Nat.max_eq_right (by omega)]
    exact if_pos (by rw [fa_lt, nI_toInt ha, nI_toInt hb]; omega)
  · rw [Nat.max_eq_left (by omega)]
    exact if_neg (by rw [fa_lt, nI_toInt ha, nI_toInt hb]; omega)
/-- what is known of the answers at hand -/
def Aok (c : Nat → Int32) (m : Nat) (A : Nat → Nat → Nat) : Prop := m < 64 ∧ ∀ s, s < 6 → m.testBit s = true → ∀ j, j < 15 → c (15 * s + j) = ho (A s j) ∧ A s j ≤ 10
theorem c_alk {g : Gg} {m k i w a n6 : Nat} {A : Nat → Nat → Nat} (hA : Aok (g 47) m A) (hk : k < 5) (hi : i < 3) (hw : w ≤ 6) (ha : a < 6) : FX8_leftAtWorst_18 n6 fu 0 (nI m) (nI k) (nI i) (nI w) (nI a) (nI 0) (nI 0) (mk g) = FX8_leftAtWorst_6 n6 0 (nI m) (nI k) (nI i) (nI (max w (fb_ct (alk m A (3 * k + i) a) 6))) (nI (a + 1)) (mk g) := by
  have hm := hA.1
  have ht : fb_ct (alk m A (3 * k + i) a) 6 ≤ 6 := fb_ct_le _ 6
  have hx : ∀ s, s < 6 → m.testBit s = true → FX8_answerBy 0 (nI s) (nI k) (nI i) (mk g) = some (ho (A s (3 * k + i)), mk g) := fun s hs hb => by
    have h := (hA.2 s hs hb (3 * k + i) (by omega)).1
    rw [show 15 * s + (3 * k + i) = (s * 5 + k) * 3 + i by omega] at h
    simp -dsimp -implicitDefEqProofs (disch := omega) only [bnd_u, gd_t, if_true, if_false, ↓reduceIte, eq_self, true_or, or_true, false_or, or_false, not_true_eq_false, not_false_eq_true, and_true, true_and, and_false, false_and, reduceCtorEq, nI_ge, nI_le, nI_lt, nI_nlt, nI_ne, nI_te, nm_eq, mn_eq, nm_le, mn_le, nm_lt, mn_lt, pk_mul, nI_add, pk_sub, nI_clamp, eX8_answerBy, hTop, h]
  refine lp_0 (σ := Unit) (fun n b _ => FX8_leftAtWorst_18 n6 n 0 (nI m) (nI k) (nI i) (nI w) (nI a) (nI (fb_ct (alk m A (3 * k + i) a) b)) (nI b) (mk g)) 6 (fun _ _ => True) (fun o => o = FX8_leftAtWorst_6 n6 0 (nI m) (nI k) (nI i) (nI (max w (fb_ct (alk m A (3 * k + i) a) 6))) (nI (a + 1)) (mk g)) (s := ()) trivial (by decide) ?_ ?_
  · intro n b _ hb _
    have hle : fb_ct (alk m A (3 * k + i) a) b ≤ b := fb_ct_le _ b
    refine Or.inr ⟨(), ?_, trivial⟩
    cases ba : m.testBit a
    · rw [ct_f (show alk m A (3 * k + i) a b = false by unfold alk; rw [ba]; rfl)]
      simp -dsimp -implicitDefEqProofs (disch := omega) only [bnd_u, gd_t, if_true, if_false, ↓reduceIte, eq_self, true_or, or_true, false_or, or_false, not_true_eq_false, not_false_eq_true, and_true, true_and, and_false, false_and, reduceCtorEq, nI_ge, nI_le, nI_lt, nI_nlt, nI_ne, nI_te, nm_eq, mn_eq, nm_le, mn_le, nm_lt, mn_lt, pk_mul, nI_add, pk_sub, nI_clamp, eX8_leftAtWorst_18, eX8_leftAtWorst_46, eX8_leftAtWorst_47, eX8_leftAtWorst_76, nI_bt, ba]
    · cases bb : m.testBit b
      · rw [ct_f (show alk m A (3 * k + i) a b = false by unfold alk; rw [ba, bb]; rfl)]
        simp -dsimp -implicitDefEqProofs (disch := omega) only [bnd_u, gd_t, if_true, if_false, ↓reduceIte, eq_self, true_or, or_true, false_or, or_false, not_true_eq_false, not_false_eq_true, and_true, true_and, and_false, false_and, reduceCtorEq, nI_ge, nI_le, nI_lt, nI_nlt, nI_ne, nI_te, nm_eq, mn_eq, nm_le, mn_le, nm_lt, mn_lt, pk_mul, nI_add, pk_sub, nI_clamp, eX8_leftAtWorst_18, eX8_leftAtWorst_46, eX8_leftAtWorst_47, eX8_leftAtWorst_76, nI_bt, ba, bb]
      · have hi2 := ho_inj (hA.2 a ha ba (3 * k + i) (by omega)).2 (hA.2 b hb bb (3 * k + i) (by omega)).2
        by_cases e : A a (3 * k + i) = A b (3 * k + i)
        · rw [ct_t (show alk m A (3 * k + i) a b = true by unfold alk; rw [ba, bb, decide_eq_true e]; rfl)]
          simp -dsimp -implicitDefEqProofs (disch := omega) only [bnd_u, gd_t, if_true, if_false, ↓reduceIte, eq_self, true_or, or_true, false_or, or_false, not_true_eq_false, not_false_eq_true, and_true, true_and, and_false, false_and, reduceCtorEq, nI_ge, nI_le, nI_lt, nI_nlt, nI_ne, nI_te, nm_eq, mn_eq, nm_le, mn_le, nm_lt, mn_lt, pk_mul, nI_add, pk_sub, nI_clamp, eX8_leftAtWorst_18, eX8_leftAtWorst_46, eX8_leftAtWorst_47, eX8_leftAtWorst_76, nI_bt, ba, bb, hTop, hx a ha ba, hx b hb bb, hi2.trans (eq_true e)]
        · rw [ct_f (show alk m A (3 * k + i) a b = false by unfold alk; rw [ba, bb, decide_eq_false e]; rfl)]
          simp -dsimp -implicitDefEqProofs (disch := omega) only [bnd_u, gd_t, if_true, if_false, ↓reduceIte, eq_self, true_or, or_true, false_or, or_false, not_true_eq_false, not_false_eq_true, and_true, true_and, and_false, false_and, reduceCtorEq, nI_ge, nI_le, nI_lt, nI_nlt, nI_ne, nI_te, nm_eq, mn_eq, nm_le, mn_le, nm_lt, mn_lt, pk_mul, nI_add, pk_sub, nI_clamp, eX8_leftAtWorst_18, eX8_leftAtWorst_46, eX8_leftAtWorst_47, eX8_leftAtWorst_76, nI_bt, ba, bb, hTop, hx a ha ba, hx b hb bb, hi2.trans (eq_false e)]
  · intro n _ _
    simp -dsimp -implicitDefEqProofs (disch := omega) only [bnd_u, gd_t, if_true, if_false, ↓reduceIte, eq_self, true_or, or_true, false_or, or_false, not_true_eq_false, not_false_eq_true, and_true, true_and, and_false, false_and, reduceCtorEq, nI_ge, nI_le, nI_lt, nI_nlt, nI_ne, nI_te, nm_eq, mn_eq, nm_le, mn_le, nm_lt, mn_lt, pk_mul, nI_add, pk_sub, nI_clamp, eX8_leftAtWorst_18, omax]
theorem c_left {g : Gg} {m k i : Nat} {A : Nat → Nat → Nat} (hA : Aok (g 47) m A) (hk : k < 5) (hi : i < 3) : FX8_leftAtWorst 0 (nI m) (nI k) (nI i) (mk g) = some (nI (lwo m A (3 * k + i) 6), mk g) := by
  rw [eX8_leftAtWorst]
  refine lp_0 (σ := Unit) (fun n a _ => FX8_leftAtWorst_6 n 0 (nI m) (nI k) (nI i) (nI (lwo m A (3 * k + i) a)) (nI a) (mk g)) 6 (fun _ _ => True) (fun o => o = some (nI (lwo m A (3 * k + i) 6), mk g)) (s := ()) trivial (by decide) ?_ ?_
  · intro n a _ ha _
    refine Or.inr ⟨(), ?_, trivial⟩
    show _ = FX8_leftAtWorst_6 n 0 (nI m) (nI k) (nI i) (nI (max (lwo m A (3 * k + i) a) (fb_ct (alk m A (3 * k + i) a) 6))) (nI (a + 1)) (mk g)
    rw [← c_alk hA hk hi (lwo_6 a) ha]
    simp -dsimp -implicitDefEqProofs (disch := omega) only [bnd_u, gd_t, if_true, if_false, ↓reduceIte, eq_self, true_or, or_true, false_or, or_false, not_true_eq_false, not_false_eq_true, and_true, true_and, and_false, false_and, reduceCtorEq, nI_ge, nI_le, nI_lt, nI_nlt, nI_ne, nI_te, nm_eq, mn_eq, nm_le, mn_le, nm_lt, mn_lt, pk_mul, nI_add, pk_sub, nI_clamp, eX8_leftAtWorst_6]
  · intro n _ _
    simp -dsimp -implicitDefEqProofs (disch := omega) only [bnd_u, gd_t, if_true, if_false, ↓reduceIte, eq_self, true_or, or_true, false_or, or_false, not_true_eq_false, not_false_eq_true, and_true, true_and, and_false, false_and, reduceCtorEq, nI_ge, nI_le, nI_lt, nI_nlt, nI_ne, nI_te, nm_eq, mn_eq, nm_le, mn_le, nm_lt, mn_lt, pk_mul, nI_add, pk_sub, nI_clamp, eX8_leftAtWorst_6]
theorem aqs_t {m c : Nat} {A : Nat → Nat → Nat} (h : (aqs m A c).1 ≤ lwo m A c 6) : aqs m A (c + 1) = aqs m A c := if_pos h
theorem aqs_f {m c : Nat} {A : Nat → Nat → Nat} (h : ¬ (aqs m A c).1 ≤ lwo m A c 6) : aqs m A (c + 1) = (lwo m A c 6, qco c + 1) := if_neg h
theorem c_ask1 {g : Gg} {m k w n35 : Nat} {A : Nat → Nat → Nat} (hA : Aok (g 47) m A) (hk : k < 5) : FX8_ask_53 n35 fu 0 (nI w) (nI m) (nI (aqs m A (3 * k)).1) (ho (aqs m A (3 * k)).2) (nI k) (nI 0) (mk g) = FX8_ask_35 n35 0 (nI w) (nI m) (nI (aqs m A (3 * k + 3)).1) (ho (aqs m A (3 * k + 3)).2) (nI (k + 1)) (mk g) := by
  refine lp_0 (σ := Unit) (fun n i _ => FX8_ask_53 n35 n 0 (nI w) (nI m) (nI (aqs m A (3 * k + i)).1) (ho (aqs m A (3 * k + i)).2) (nI k) (nI i) (mk g)) 3 (fun _ _ => True) (fun o => o = FX8_ask_35 n35 0 (nI w) (nI m) (nI (aqs m A (3 * k + 3)).1) (ho (aqs m A (3 * k + 3)).2) (nI (k + 1)) (mk g)) (s := ()) trivial (by decide) ?_ ?_
  · intro n i _ hi _
    have b1 := (aqs_b (m := m) (A := A) (3 * k + i) (by omega)).1
    have b2 := lwo_6 (m := m) (A := A) (c := 3 * k + i) 6
    refine Or.inr ⟨(), ?_, trivial⟩
    rw [show 3 * k + (i + 1) = 3 * k + i + 1 from rfl]
    by_cases e : (aqs m A (3 * k + i)).1 ≤ lwo m A (3 * k + i) 6
    · rw [aqs_t e]
      simp -dsimp -implicitDefEqProofs (disch := omega) only [bnd_u, gd_t, if_true, if_false, ↓reduceIte, eq_self, true_or, or_true, false_or, or_false, not_true_eq_false, not_false_eq_true, and_true, true_and, and_false, false_and, reduceCtorEq, nI_ge, nI_le, nI_lt, nI_nlt, nI_ne, nI_te, nm_eq, mn_eq, nm_le, mn_le, nm_lt, mn_lt, pk_mul, nI_add, pk_sub, nI_clamp, eX8_ask_53, eX8_ask_91, hTop, c_left hA hk hi]
    · rw [aqs_f e]
      have eq : qco (3 * k + i) = 10 * k + i := by unfold qco; omega
      simp -dsimp -implicitDefEqProofs (disch := omega) only [bnd_u, gd_t, if_true, if_false, ↓reduceIte, eq_self, true_or, or_true, false_or, or_false, not_true_eq_false, not_false_eq_true, and_true, true_and, and_false, false_and, reduceCtorEq, nI_ge, nI_le, nI_lt, nI_nlt, nI_ne, nI_te, nm_eq, mn_eq, nm_le, mn_le, nm_lt, mn_lt, pk_mul, nI_add, pk_sub, nI_clamp, eX8_ask_53, eX8_ask_91, hTop, c_left hA hk hi, ho_p, eq]
  · intro n _ _
    simp -dsimp -implicitDefEqProofs (disch := omega) only [bnd_u, gd_t, if_true, if_false, ↓reduceIte, eq_self, true_or, or_true, false_or, or_false, not_true_eq_false, not_false_eq_true, and_true, true_and, and_false, false_and, reduceCtorEq, nI_ge, nI_le, nI_lt, nI_nlt, nI_ne, nI_te, nm_eq, mn_eq, nm_le, mn_le, nm_lt, mn_lt, pk_mul, nI_add, pk_sub, nI_clamp, eX8_ask_53]
theorem c_ask2 {g : Gg} {q : Nat → Nat} {m K w : Nat} {A : Nat → Nat → Nat} (hF : F1 g q K) (hK : K ≤ 5) (hA : Aok (g 47) m A) (hw : w < 2) : FX8_ask_35 fu 0 (nI w) (nI m) (nI (fb_ct m.testBit 10)) (mi 4) (nI 0) (mk g) = some (fin2 w (aqs m A (3 * K)), mk g) := by
  refine lp_0 (σ := Unit) (fun n k _ => FX8_ask_35 n 0 (nI w) (nI m) (nI (aqs m A (3 * k)).1) (ho (aqs m A (3 * k)).2) (nI k) (mk g)) K (fun _ _ => True) (fun o => o = some (fin2 w (aqs m A (3 * K)), mk g)) (s := ()) trivial (by rw [fu_1]; omega) ?_ ?_
  · intro n k _ hk _
    refine Or.inr ⟨(), ?_, trivial⟩
    rw [show 3 * (k + 1) = 3 * k + 3 from rfl, ← c_ask1 hA (by omega)]
    simp -dsimp -implicitDefEqProofs (disch := omega) only [bnd_u, gd_t, if_true, if_false, ↓reduceIte, eq_self, true_or, or_true, false_or, or_false, not_true_eq_false, not_false_eq_true, and_true, true_and, and_false, false_and, reduceCtorEq, nI_ge, nI_le, nI_lt, nI_nlt, nI_ne, nI_te, nm_eq, mn_eq, nm_le, mn_le, nm_lt, mn_lt, pk_mul, nI_add, pk_sub, nI_clamp, eX8_ask_35, hTop, hFam, hF.1]
  · intro n _ _
    have b := (aqs_b (m := m) (A := A) (3 * K) (by omega)).2
    unfold fin2
    by_cases z : (aqs m A (3 * K)).2 = 0
    · simp -dsimp -implicitDefEqProofs (disch := omega) only [bnd_u, gd_t, if_true, if_false, ↓reduceIte, eq_self, true_or, or_true, false_or, or_false, not_true_eq_false, not_false_eq_true, and_true, true_and, and_false, false_and, reduceCtorEq, nI_ge, nI_le, nI_lt, nI_nlt, nI_ne, nI_te, nm_eq, mn_eq, nm_le, mn_le, nm_lt, mn_lt, pk_mul, nI_add, pk_sub, nI_clamp, eX8_ask_35, eX8_ask_114, eX8_ask_121, hTop, hFam, hF.1, z, show ho 0 = mi 4 from rfl]
    · by_cases y : w = 0
      · simp -dsimp -implicitDefEqProofs (disch := omega) only [bnd_u, gd_t, if_true, if_false, ↓reduceIte, eq_self, true_or, or_true, false_or, or_false, not_true_eq_false, not_false_eq_true, and_true, true_and, and_false, false_and, reduceCtorEq, nI_ge, nI_le, nI_lt, nI_nlt, nI_ne, nI_te, nm_eq, mn_eq, nm_le, mn_le, nm_lt, mn_lt, pk_mul, nI_add, pk_sub, nI_clamp, eX8_ask_35, eX8_ask_114, eX8_ask_121, hTop, hFam, hF.1, ho_s (show 0 < (aqs m A (3 * K)).2 by omega), z, y]
      · simp -dsimp -implicitDefEqProofs (disch := omega) only [bnd_u, gd_t, if_true, if_false, ↓reduceIte, eq_self, true_or, or_true, false_or, or_false, not_true_eq_false, not_false_eq_true, and_true, true_and, and_false, false_and, reduceCtorEq, nI_ge, nI_le, nI_lt, nI_nlt, nI_ne, nI_te, nm_eq, mn_eq, nm_le, mn_le, nm_lt, mn_lt, pk_mul, nI_add, pk_sub, nI_clamp, eX8_ask_35, eX8_ask_114, eX8_ask_121, hTop, hFam, hF.1, ho_s (show 0 < (aqs m A (3 * K)).2 by omega), z, y]
theorem m_alk {g : Gg} {m c w a n38 n55 : Nat} {A : Nat → Nat → Nat} {W X Y : Int32} (hA : Aok (g 89) m A) (hc : c < 15) (hw : w ≤ 6) (ha : a < 6) : FX9_ask_67 n38 n55 fu 78 W (nI m) X Y (nI c) (nI w) (nI a) (nI 0) (nI 0) (mk g) = FX9_ask_55 n38 n55 78 W (nI m) X Y (nI c) (nI (max w (fb_ct (alk m A c a) 6))) (nI (a + 1)) (mk g) := by
  have hm := hA.1
  have ht : fb_ct (alk m A c a) 6 ≤ 6 := fb_ct_le _ 6
  have hend : ∀ t, t ≤ 6 → FX9_ask_138 n38 n55 78 W (nI m) X Y (nI c) (nI w) (nI a) (nI t) (mk g) = FX9_ask_55 n38 n55 78 W (nI m) X Y (nI c) (nI (max w t)) (nI (a + 1)) (mk g) := fun t ht => by
    by_cases e : t ≤ w
    · rw [Nat.max_eq_left e]
      simp -dsimp -implicitDefEqProofs (disch := omega) only [bnd_u, gd_t, if_true, if_false, ↓reduceIte, eq_self, true_or, or_true, false_or, or_false, not_true_eq_false, not_false_eq_true, and_true, true_and, and_false, false_and, reduceCtorEq, nI_ge, nI_le, nI_lt, nI_nlt, nI_ne, nI_te, nm_eq, mn_eq, nm_le, mn_le, nm_lt, mn_lt, pk_mul, nI_add, pk_sub, nI_clamp, eX9_ask_138, eX9_ask_152]
    · rw [Nat.max_eq_right (by omega)]
      simp -dsimp -implicitDefEqProofs (disch := omega) only [bnd_u, gd_t, if_true, if_false, ↓reduceIte, eq_self, true_or, or_true, false_or, or_false, not_true_eq_false, not_false_eq_true, and_true, true_and, and_false, false_and, reduceCtorEq, nI_ge, nI_le, nI_lt, nI_nlt, nI_ne, nI_te, nm_eq, mn_eq, nm_le, mn_le, nm_lt, mn_lt, pk_mul, nI_add, pk_sub, nI_clamp, eX9_ask_138, eX9_ask_152]
  cases ba : m.testBit a
  · have h0 : fb_ct (alk m A c a) 6 = 0 := fb_ct_zero.mpr (fun b _ => by unfold alk; rw [ba]; rfl)
    rw [h0, ← hend 0 (by omega), fu_1]
    simp -dsimp -implicitDefEqProofs (disch := omega) only [bnd_u, gd_t, if_true, if_false, ↓reduceIte, eq_self, true_or, or_true, false_or, or_false, not_true_eq_false, not_false_eq_true, and_true, true_and, and_false, false_and, reduceCtorEq, nI_ge, nI_le, nI_lt, nI_nlt, nI_ne, nI_te, nm_eq, mn_eq, nm_le, mn_le, nm_lt, mn_lt, pk_mul, nI_add, pk_sub, nI_clamp, eX9_ask_67, nI_bit, ba, Bool.toNat_false]
  · refine lp_0 (σ := Unit) (fun n b _ => FX9_ask_67 n38 n55 n 78 W (nI m) X Y (nI c) (nI w) (nI a) (nI (fb_ct (alk m A c a) b)) (nI b) (mk g)) 6 (fun _ _ => True) (fun o => o = FX9_ask_55 n38 n55 78 W (nI m) X Y (nI c) (nI (max w (fb_ct (alk m A c a) 6))) (nI (a + 1)) (mk g)) (s := ()) trivial (by decide) ?_ ?_
    · intro n b _ hb _
      have hle : fb_ct (alk m A c a) b ≤ b := fb_ct_le _ b
      refine Or.inr ⟨(), ?_, trivial⟩
      have va := hA.2 a ha ba c hc
      cases bb : m.testBit b
      · rw [ct_f (show alk m A c a b = false by unfold alk; rw [ba, bb]; rfl)]
        simp -dsimp -implicitDefEqProofs (disch := omega) only [bnd_u, gd_t, if_true, if_false, ↓reduceIte, eq_self, true_or, or_true, false_or, or_false, not_true_eq_false, not_false_eq_true, and_true, true_and, and_false, false_and, reduceCtorEq, nI_ge, nI_le, nI_lt, nI_nlt, nI_ne, nI_te, nm_eq, mn_eq, nm_le, mn_le, nm_lt, mn_lt, pk_mul, nI_add, pk_sub, nI_clamp, eX9_ask_67, eX9_ask_128, eX9_ask_129, nI_bit, ba, bb, Bool.toNat_false, Bool.toNat_true, Nat.add_zero]
      · have vb := hA.2 b hb bb c hc
        have hi2 := ho_inj va.2 vb.2
        by_cases e : A a c = A b c
        · rw [ct_t (show alk m A c a b = true by unfold alk; rw [ba, bb, decide_eq_true e]; rfl)]
          simp -dsimp -implicitDefEqProofs (disch := omega) only [bnd_u, gd_t, if_true, if_false, ↓reduceIte, eq_self, true_or, or_true, false_or, or_false, not_true_eq_false, not_false_eq_true, and_true, true_and, and_false, false_and, reduceCtorEq, nI_ge, nI_le, nI_lt, nI_nlt, nI_ne, nI_te, nm_eq, mn_eq, nm_le, mn_le, nm_lt, mn_lt, pk_mul, nI_add, pk_sub, nI_clamp, eX9_ask_67, eX9_ask_128, eX9_ask_129, nI_bit, ba, bb, Bool.toNat_true, hMo, va.1, vb.1, hi2.trans (eq_true e)]
        · rw [ct_f (show alk m A c a b = false by unfold alk; rw [ba, bb, decide_eq_false e]; rfl)]
          simp -dsimp -implicitDefEqProofs (disch := omega) only [bnd_u, gd_t, if_true, if_false, ↓reduceIte, eq_self, true_or, or_true, false_or, or_false, not_true_eq_false, not_false_eq_true, and_true, true_and, and_false, false_and, reduceCtorEq, nI_ge, nI_le, nI_lt, nI_nlt, nI_ne, nI_te, nm_eq, mn_eq, nm_le, mn_le, nm_lt, mn_lt, pk_mul, nI_add, pk_sub, nI_clamp, eX9_ask_67, eX9_ask_128, eX9_ask_129, nI_bit, ba, bb, Bool.toNat_true, hMo, va.1, vb.1, hi2.trans (eq_false e), Nat.add_zero]
    · intro n _ _
      rw [← hend _ ht]
      simp -dsimp -implicitDefEqProofs (disch := omega) only [bnd_u, gd_t, if_true, if_false, ↓reduceIte, eq_self, true_or, or_true, false_or, or_false, not_true_eq_false, not_false_eq_true, and_true, true_and, and_false, false_and, reduceCtorEq, nI_ge, nI_le, nI_lt, nI_nlt, nI_ne, nI_te, nm_eq, mn_eq, nm_le, mn_le, nm_lt, mn_lt, pk_mul, nI_add, pk_sub, nI_clamp, eX9_ask_67]
theorem m_ask1 {g : Gg} {m c n38 : Nat} {A : Nat → Nat → Nat} {W : Int32} (hA : Aok (g 89) m A) (hc : c < 15) : FX9_ask_55 n38 fu 78 W (nI m) (nI (aqs m A c).1) (ho (aqs m A c).2) (nI c) (nI 0) (nI 0) (mk g) = FX9_ask_38 n38 78 W (nI m) (nI (aqs m A (c + 1)).1) (ho (aqs m A (c + 1)).2) (nI (c + 1)) (mk g) := by
  refine lp_0 (σ := Unit) (fun n a _ => FX9_ask_55 n38 n 78 W (nI m) (nI (aqs m A c).1) (ho (aqs m A c).2) (nI c) (nI (lwo m A c a)) (nI a) (mk g)) 6 (fun _ _ => True) (fun o => o = FX9_ask_38 n38 78 W (nI m) (nI (aqs m A (c + 1)).1) (ho (aqs m A (c + 1)).2) (nI (c + 1)) (mk g)) (s := ()) trivial (by decide) ?_ ?_
  · intro n a _ ha _
    refine Or.inr ⟨(), ?_, trivial⟩
    show _ = FX9_ask_55 n38 n 78 W (nI m) (nI (aqs m A c).1) (ho (aqs m A c).2) (nI c) (nI (max (lwo m A c a) (fb_ct (alk m A c a) 6))) (nI (a + 1)) (mk g)
    rw [← m_alk hA hc (lwo_6 a) ha]
    simp -dsimp -implicitDefEqProofs (disch := omega) only [bnd_u, gd_t, if_true, if_false, ↓reduceIte, eq_self, true_or, or_true, false_or, or_false, not_true_eq_false, not_false_eq_true, and_true, true_and, and_false, false_and, reduceCtorEq, nI_ge, nI_le, nI_lt, nI_nlt, nI_ne, nI_te, nm_eq, mn_eq, nm_le, mn_le, nm_lt, mn_lt, pk_mul, nI_add, pk_sub, nI_clamp, eX9_ask_55]
  · intro n _ _
    have b1 := (aqs_b (m := m) (A := A) c (by omega)).1
    have b2 := lwo_6 (m := m) (A := A) (c := c) 6
    by_cases e : (aqs m A c).1 ≤ lwo m A c 6
    · rw [aqs_t e]
      simp -dsimp -implicitDefEqProofs (disch := omega) only [bnd_u, gd_t, if_true, if_false, ↓reduceIte, eq_self, true_or, or_true, false_or, or_false, not_true_eq_false, not_false_eq_true, and_true, true_and, and_false, false_and, reduceCtorEq, nI_ge, nI_le, nI_lt, nI_nlt, nI_ne, nI_te, nm_eq, mn_eq, nm_le, mn_le, nm_lt, mn_lt, pk_mul, nI_add, pk_sub, nI_clamp, eX9_ask_55, eX9_ask_184, eX9_ask_200]
    · rw [aqs_f e]
      have eq : qco c = 10 * (c / 3) + (c - c / 3 * 3) := rfl
      simp -dsimp -implicitDefEqProofs (disch := omega) only [bnd_u, gd_t, if_true, if_false, ↓reduceIte, eq_self, true_or, or_true, false_or, or_false, not_true_eq_false, not_false_eq_true, and_true, true_and, and_false, false_and, reduceCtorEq, nI_ge, nI_le, nI_lt, nI_nlt, nI_ne, nI_te, nm_eq, mn_eq, nm_le, mn_le, nm_lt, mn_lt, pk_mul, nI_add, pk_sub, nI_clamp, eX9_ask_55, eX9_ask_184, eX9_ask_200, rem_nI, pk_div, ho_p, eq]
theorem m_ask2 {g : Gg} {q : Nat → Nat} {m K w : Nat} {A : Nat → Nat → Nat} (hM : Ms g q K) (hK : K ≤ 5) (hA : Aok (g 89) m A) (hw : w < 2) : FX9_ask_38 fu 78 (nI w) (nI m) (nI (fb_ct m.testBit 10)) (mi 4) (nI 0) (mk g) = some (fin2 w (aqs m A (3 * K)), mk g) := by
  refine lp_0 (σ := Unit) (fun n c _ => FX9_ask_38 n 78 (nI w) (nI m) (nI (aqs m A c).1) (ho (aqs m A c).2) (nI c) (mk g)) (3 * K) (fun _ _ => True) (fun o => o = some (fin2 w (aqs m A (3 * K)), mk g)) (s := ()) trivial (by rw [fu_1]; omega) ?_ ?_
  · intro n c _ hc _
    refine Or.inr ⟨(), ?_, trivial⟩
    rw [← m_ask1 hA (by omega)]
    simp -dsimp -implicitDefEqProofs (disch := omega) only [bnd_u, gd_t, if_true, if_false, ↓reduceIte, eq_self, true_or, or_true, false_or, or_false, not_true_eq_false, not_false_eq_true, and_true, true_and, and_false, false_and, reduceCtorEq, nI_ge, nI_le, nI_lt, nI_nlt, nI_ne, nI_te, nm_eq, mn_eq, nm_le, mn_le, nm_lt, mn_lt, pk_mul, nI_add, pk_sub, nI_clamp, eX9_ask_38, hMo, hM.1]
  · intro n _ _
    have b := (aqs_b (m := m) (A := A) (3 * K) (by omega)).2
    unfold fin2
    by_cases z : (aqs m A (3 * K)).2 = 0
    · simp -dsimp -implicitDefEqProofs (disch := omega) only [bnd_u, gd_t, if_true, if_false, ↓reduceIte, eq_self, true_or, or_true, false_or, or_false, not_true_eq_false, not_false_eq_true, and_true, true_and, and_false, false_and, reduceCtorEq, nI_ge, nI_le, nI_lt, nI_nlt, nI_ne, nI_te, nm_eq, mn_eq, nm_le, mn_le, nm_lt, mn_lt, pk_mul, nI_add, pk_sub, nI_clamp, eX9_ask_38, eX9_ask_219, eX9_ask_226, hMo, hM.1, z, show ho 0 = mi 4 from rfl]
    · by_cases y : w = 0
      · simp -dsimp -implicitDefEqProofs (disch := omega) only [bnd_u, gd_t, if_true, if_false, ↓reduceIte, eq_self, true_or, or_true, false_or, or_false, not_true_eq_false, not_false_eq_true, and_true, true_and, and_false, false_and, reduceCtorEq, nI_ge, nI_le, nI_lt, nI_nlt, nI_ne, nI_te, nm_eq, mn_eq, nm_le, mn_le, nm_lt, mn_lt, pk_mul, nI_add, pk_sub, nI_clamp, eX9_ask_38, eX9_ask_219, eX9_ask_226, hMo, hM.1, ho_s (show 0 < (aqs m A (3 * K)).2 by omega), z, y]
      · simp -dsimp -implicitDefEqProofs (disch := omega) only [bnd_u, gd_t, if_true, if_false, ↓reduceIte, eq_self, true_or, or_true, false_or, or_false, not_true_eq_false, not_false_eq_true, and_true, true_and, and_false, false_and, reduceCtorEq, nI_ge, nI_le, nI_lt, nI_nlt, nI_ne, nI_te, nm_eq, mn_eq, nm_le, mn_le, nm_lt, mn_lt, pk_mul, nI_add, pk_sub, nI_clamp, eX9_ask_38, eX9_ask_219, eX9_ask_226, hMo, hM.1, ho_s (show 0 < (aqs m A (3 * K)).2 by omega), z, y]
theorem Ans.ok {c : Nat → Int32} {q : Nat → Nat} {K h n : Nat} {z : Nat → Nat} (hG : Gd q K) (hh : h < 10) (hA : Ans c q K h 6) : Aok c (msk (mhb q K h z n) 6) (fun s j => (day (pq q h s) K 10).1 j) := by
  refine ⟨msk_lt _ 6, fun s hs hb j hj => ?_⟩
  rw [msk_bit, decide_eq_true hs, Bool.true_and] at hb
  have hok : okk K s := by
    unfold mhb at hb
    unfold okk
    by_cases e : s = 5
    · exact Or.inl e
    · by_cases e2 : s < K
      · exact Or.inr e2
      · rw [decide_eq_false e, decide_eq_false e2] at hb
        cases hb
  exact ⟨hA s hs hok j hj, (day_ok (pq_G hG hh hok) 10 (by omega)).2.1 j⟩
theorem sim_ask (x y : Int32) : Sim (FX8_ask 0 x y) (FX9_ask 78 x y) := by
  refine sim_ro (fun g q K hI => ?_)
  rcases in_of x (n := 10) (by omega) with hx | ⟨h, hh, rfl⟩
  · refine ⟨mi 1, same ?_, fun g1 hI1 _ => same ?_⟩
    · simp -dsimp -implicitDefEqProofs (disch := omega) only [bnd_u, gd_t, if_true, if_false, ↓reduceIte, eq_self, true_or, or_true, false_or, or_false, not_true_eq_false, not_false_eq_true, and_true, true_and, and_false, false_and, reduceCtorEq, nI_ge, nI_le, nI_lt, nI_nlt, nI_ne, nI_te, nm_eq, mn_eq, nm_le, mn_le, nm_lt, mn_lt, pk_mul, nI_add, pk_sub, nI_clamp, eX8_ask, eX8_ask_14, c_hrN hx]
    · simp -dsimp -implicitDefEqProofs (disch := omega) only [bnd_u, gd_t, if_true, if_false, ↓reduceIte, eq_self, true_or, or_true, false_or, or_false, not_true_eq_false, not_false_eq_true, and_true, true_and, and_false, false_and, reduceCtorEq, nI_ge, nI_le, nI_lt, nI_nlt, nI_ne, nI_te, nm_eq, mn_eq, nm_le, mn_le, nm_lt, mn_lt, pk_mul, nI_add, pk_sub, nI_clamp, eX9_ask, eX9_ask_17, m_hourN hx]
  rcases in_of y (n := 2) (by omega) with hy | ⟨w, hw, rfl⟩
  · refine ⟨mi 1, same ?_, fun g1 hI1 _ => same ?_⟩
    · simp -dsimp -implicitDefEqProofs (disch := omega) only [bnd_u, gd_t, if_true, if_false, ↓reduceIte, eq_self, true_or, or_true, false_or, or_false, not_true_eq_false, not_false_eq_true, and_true, true_and, and_false, false_and, reduceCtorEq, nI_ge, nI_le, nI_lt, nI_nlt, nI_ne, nI_te, nm_eq, mn_eq, nm_le, mn_le, nm_lt, mn_lt, pk_mul, nI_add, pk_sub, nI_clamp, eX8_ask, eX8_ask_14, c_hr hh, c_flagN hy]
    · have hin := m_0nN (M := mk g1) (n := 2) (by omega) (by omega) hy
      simp -dsimp -implicitDefEqProofs (disch := omega) only [bnd_u, gd_t, if_true, if_false, ↓reduceIte, eq_self, true_or, or_true, false_or, or_false, not_true_eq_false, not_false_eq_true, and_true, true_and, and_false, false_and, reduceCtorEq, nI_ge, nI_le, nI_lt, nI_nlt, nI_ne, nI_te, nm_eq, mn_eq, nm_le, mn_le, nm_lt, mn_lt, pk_mul, nI_add, pk_sub, nI_clamp, eX9_ask, eX9_ask_17, m_hour hh, hin]
  · obtain ⟨n, z, hsn⟩ := hI.sn
    have hlt := msk_lt (mhb q K h z n) 6
    obtain ⟨g1, e1, f1, a1⟩ := c_poss hI.F hI.G hI.R hsn hh
    have k1 := c_ask2 (hI.F.f f1 (by decide)) hI.G.K (a1.ok (n := n) (z := z) hI.G hh) hw
    have hb := j_bits (M := mk g1) (m := msk (mhb q K h z n) 6) (by omega)
    refine ⟨fin2 w (aqs (msk (mhb q K h z n) 6) (fun s j => (day (pq q h s) K 10).1 j) (3 * K)), some1 (g1 := g1) ?_ f1 (by decide), fun g1 hI1 hf => ?_⟩
    · simp -dsimp -implicitDefEqProofs (disch := omega) only [bnd_u, gd_t, if_true, if_false, ↓reduceIte, eq_self, true_or, or_true, false_or, or_false, not_true_eq_false, not_false_eq_true, and_true, true_and, and_false, false_and, reduceCtorEq, nI_ge, nI_le, nI_lt, nI_nlt, nI_ne, nI_te, nm_eq, mn_eq, nm_le, mn_le, nm_lt, mn_lt, pk_mul, nI_add, pk_sub, nI_clamp, eX8_ask, c_hr hh, c_flag hw, hTop, e1, hb, k1]
    · obtain ⟨g2, e2, f2, a2⟩ := m_poss hI1.M hI.G hI1.kp (hsn.f hf (by decide)) hh
      have k2 := m_ask2 (hI1.M.f f2 (by decide)) hI.G.K (a2.ok (n := n) (z := z) hI.G hh) hw
      have hb2 := m_bits (M := mk g2) (m := msk (mhb q K h z n) 6) (by omega)
      have i2 : FX9_in (nI w).toInt64 (lN 0) (lN 1) (mk g1) = some (nI 1, mk g1) := m_0n (n := 2) hw (by omega)
      refine some1 (g1 := g2) ?_ f2 (by decide)
      simp -dsimp -implicitDefEqProofs (disch := omega) only [bnd_u, gd_t, if_true, if_false, ↓reduceIte, eq_self, true_or, or_true, false_or, or_false, not_true_eq_false, not_false_eq_true, and_true, true_and, and_false, false_and, reduceCtorEq, nI_ge, nI_le, nI_lt, nI_nlt, nI_ne, nI_te, nm_eq, mn_eq, nm_le, mn_le, nm_lt, mn_lt, pk_mul, nI_add, pk_sub, nI_clamp, eX9_ask, m_hour hh, i2, hMo, e2, hb2, k2]
