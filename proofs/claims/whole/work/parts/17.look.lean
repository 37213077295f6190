/-! look, what is done: the class -/
theorem F1.f {l : List Nat} {g g' : Gg} {q : Nat → Nat} {K : Nat} (h : F1 g q K) (hf : Fr l g g') (hl : ∀ c ∈ [2, 3, 4, 5, 6, 7, 8, 9, 10], c ∉ l) : F1 g' q K := by
  unfold F1
  rw [hf 2 (hl 2 (by decide)), hf 3 (hl 3 (by decide)), hf 4 (hl 4 (by decide)), hf 5 (hl 5 (by decide)), hf 6 (hl 6 (by decide)), hf 7 (hl 7 (by decide)), hf 8 (hl 8 (by decide)), hf 9 (hl 9 (by decide)), hf 10 (hl 10 (by decide))]
  exact h
theorem Ro.f {l : List Nat} {g g' : Gg} {q : Nat → Nat} {c : Nat} (h : Ro (g c) q) (hf : Fr l g g') (hl : c ∉ l) : Ro (g' c) q := by
  rw [hf c hl]; exact h
/-- the hours in which k sees -/
def hks (q : Nat → Nat) (k : Nat) : Nat → Bool := fun h => dsee q h && decide (q (26 + h) = k + 1)
theorem s_look {g : Gg} {q : Nat → Nat} {K c : Nat} (hc : Rc c) (hc2 : c ∉ [32, 33, 34]) (hF : F1 g q K) (hG : Gd q K) (hR : Ro (g c) q) : ∃ g', FX7_look 31 1 c (mk g) = some ((), mk g') ∧ Fr [32, 33, 34] g g' ∧ (∀ h, h < 10 → g' 32 h = ho (q (26 + h))) ∧ (∀ h, h < 10 → g' 33 h = sv q h) ∧ (∀ k, k < 5 → g' 34 k = nI (msk (hks q k) 10)) := by
  have hK := hG.K
  rw [eX7_look]
  refine lp_0 (σ := Gg) (fun n i s => FX7_look_2 n 31 1 c (nI i) (mk s)) 5 (fun i s => Fr [32, 33, 34] g s ∧ ∀ k, k < i → s 34 k = nI 0) (fun o => ∃ g', o = some ((), mk g') ∧ Fr [32, 33, 34] g g' ∧ (∀ h, h < 10 → g' 32 h = ho (q (26 + h))) ∧ (∀ h, h < 10 → g' 33 h = sv q h) ∧ (∀ k, k < 5 → g' 34 k = nI (msk (hks q k) 10))) ⟨Fr.refl, fun k hk => absurd hk (by omega)⟩ (by decide) ?_ ?_
  · intro n k s hk ⟨h1, h2⟩
    refine Or.inr ⟨up s 34 k (nI 0), ?_, h1.tr (Fr.c (l := [32, 33, 34]) (by decide)) (fun c hc => ⟨hc, hc⟩), fun j hj => ?_⟩
    · simp -dsimp -implicitDefEqProofs (disch := omega) only [bnd_u, gd_t, if_true, if_false, ↓reduceIte, eq_self, true_or, or_true, false_or, or_false, not_true_eq_false, not_false_eq_true, and_true, true_and, and_false, false_and, reduceCtorEq, nI_ge, nI_le, nI_lt, nI_nlt, nI_ne, nI_te, nm_eq, mn_eq, nm_le, mn_le, nm_lt, mn_lt, pk_mul, nI_add, pk_sub, nI_clamp, eX7_look_2, hSee]
    · rw [up_c]
      by_cases e : j = k
      · rw [e, pk_us]
      · rw [pk_un e]; exact h2 j (by omega)
  · intro n s ⟨h1, h2⟩
    have e : FX7_look_2 (n + 1) 31 1 c (nI 5) (mk s) = FX7_look_22 fu 31 1 c (nI 0) (mk s) := by
      simp -dsimp -implicitDefEqProofs (disch := omega) only [bnd_u, gd_t, if_true, if_false, ↓reduceIte, eq_self, true_or, or_true, false_or, or_false, not_true_eq_false, not_false_eq_true, and_true, true_and, and_false, false_and, reduceCtorEq, nI_ge, nI_le, nI_lt, nI_nlt, nI_ne, nI_te, nm_eq, mn_eq, nm_le, mn_le, nm_lt, mn_lt, pk_mul, nI_add, pk_sub, nI_clamp, eX7_look_2]
    simp only [e]
    refine lp_0 (σ := Gg) (fun n i s => FX7_look_22 n 31 1 c (nI i) (mk s)) 10 (fun i s => Fr [32, 33, 34] g s ∧ (∀ h, h < i → s 32 h = ho (q (26 + h))) ∧ (∀ h, h < i → s 33 h = sv q h) ∧ (∀ k, k < 5 → s 34 k = nI (msk (hks q k) i))) (fun o => ∃ g', o = some ((), mk g') ∧ Fr [32, 33, 34] g g' ∧ (∀ h, h < 10 → g' 32 h = ho (q (26 + h))) ∧ (∀ h, h < 10 → g' 33 h = sv q h) ∧ (∀ k, k < 5 → g' 34 k = nI (msk (hks q k) 10))) ⟨h1, fun k hk => absurd hk (by omega), fun k hk => absurd hk (by omega), h2⟩ (by decide) ?_ ?_
    · intro n h s hh ⟨i1, i2, i3, i4⟩
      have hRs := hR.f i1 hc2
      have hs := s_seer hc (hF.f i1 (by decide)) hG hRs hh
      have hA : h_A (mk s) 0 c (nI h) = some (ho (q (26 + h))) := by rw [t_A hc (by decide) h hh, hRs h hh]
      have hL : h_L (mk s) c = some (nI 10) := t_L hc
      have hr := hG.r hh
      have b1 : Fr [32, 33, 34] g (up (up s 32 h (ho (q (26 + h)))) 33 h (sv q h)) := (i1.tr (Fr.c (l := [32, 33, 34]) (by decide)) (fun c hc => ⟨hc, hc⟩)).tr (Fr.c (l := [32, 33, 34]) (by decide)) (fun c hc => ⟨hc, hc⟩)
      have b2 : ∀ j, j < h + 1 → up (up s 32 h (ho (q (26 + h)))) 33 h (sv q h) 32 j = ho (q (26 + j)) := fun j hj => by
        rw [up_n (by decide), up_c]
        by_cases e : j = h
        · rw [e, pk_us]
        · rw [pk_un e]; exact i2 j (by omega)
      have b3 : ∀ j, j < h + 1 → up (up s 32 h (ho (q (26 + h)))) 33 h (sv q h) 33 j = sv q j := fun j hj => by
        rw [up_c]
        by_cases e : j = h
        · rw [e, pk_us]
        · rw [pk_un e, up_n (by decide)]; exact i3 j (by omega)
      have b4 : ∀ k, k < 5 → up (up s 32 h (ho (q (26 + h)))) 33 h (sv q h) 34 k = nI (msk (hks q k) h) := fun k hk => by
        rw [up_n (by decide), up_n (by decide)]; exact i4 k hk
      cases hd : dsee q h
      · have e1 : sv q h = mi 4 := by simp [sv, hd]
        rw [e1] at hs b1 b2 b3 b4
        refine Or.inr ⟨_, ?_, b1, b2, b3, fun k hk' => ?_⟩
        · simp -dsimp -implicitDefEqProofs (disch := omega) only [bnd_u, gd_t, if_true, if_false, ↓reduceIte, eq_self, true_or, or_true, false_or, or_false, not_true_eq_false, not_false_eq_true, and_true, true_and, and_false, false_and, reduceCtorEq, nI_ge, nI_le, nI_lt, nI_nlt, nI_ne, nI_te, nm_eq, mn_eq, nm_le, mn_le, nm_lt, mn_lt, pk_mul, nI_add, pk_sub, nI_clamp, eX7_look_22, eX7_look_83, hL, hs, hA, hSee]
        · rw [b4 k hk', msk_s]
          simp [hks, hd]
      · have hp : 0 < q (26 + h) := by
          have : dsee q h = true := hd
          simp only [dsee, Bool.and_eq_true, decide_eq_true_eq] at this
          exact this.1
        have e1 : sv q h = nI (q (26 + h) - 1) := by simp [sv, hd]
        rw [e1] at hs b1 b2 b3 b4
        have hx := b4 (q (26 + h) - 1) (by omega)
        refine Or.inr ⟨up (up (up s 32 h (ho (q (26 + h)))) 33 h (nI (q (26 + h) - 1))) 34 (q (26 + h) - 1) (nI (msk (hks q (q (26 + h) - 1)) (h + 1))), ?_, b1.tr (Fr.c (l := [32, 33, 34]) (by decide)) (fun c hc => ⟨hc, hc⟩), fun j hj => ?_, fun j hj => ?_, fun k hk' => ?_⟩
        · have hm := msk_t (c := hks q (q (26 + h) - 1)) (n := h) (by omega) (by simp [hks, hd]; omega)
          simp -dsimp -implicitDefEqProofs (disch := omega) only [bnd_u, gd_t, if_true, if_false, ↓reduceIte, eq_self, true_or, or_true, false_or, or_false, not_true_eq_false, not_false_eq_true, and_true, true_and, and_false, false_and, reduceCtorEq, nI_ge, nI_le, nI_lt, nI_nlt, nI_ne, nI_te, nm_eq, mn_eq, nm_le, mn_le, nm_lt, mn_lt, pk_mul, nI_add, pk_sub, nI_clamp, eX7_look_22, eX7_look_83, hL, hs, hA, hSee, hx, hm]
        · rw [up_n (by decide)]; exact b2 j hj
        · rw [up_n (by decide)]; exact b3 j hj
        · rw [up_c]
          by_cases e : k = q (26 + h) - 1
          · rw [e, pk_us]
          · rw [pk_un e, b4 k hk', msk_s]
            have : hks q k h = false := by simp [hks]; omega
            rw [this]; simp
    · intro n s ⟨i1, i2, i3, i4⟩
      refine ⟨s, ?_, i1, i2, i3, i4⟩
      simp -dsimp -implicitDefEqProofs (disch := omega) only [bnd_u, gd_t, if_true, if_false, ↓reduceIte, eq_self, true_or, or_true, false_or, or_false, not_true_eq_false, not_false_eq_true, and_true, true_and, and_false, false_and, reduceCtorEq, nI_ge, nI_le, nI_lt, nI_nlt, nI_ne, nI_te, nm_eq, mn_eq, nm_le, mn_le, nm_lt, mn_lt, pk_mul, nI_add, pk_sub, nI_clamp, eX7_look_22, eX7_look_89]
/-- what look has left -/
def Lk (g : Gg) (q : Nat → Nat) : Prop := (∀ h, h < 10 → g 32 h = ho (q (26 + h))) ∧ (∀ h, h < 10 → g 33 h = sv q h) ∧ (∀ k, k < 5 → g 34 k = nI (msk (hks q k) 10))
theorem s_hoursOf {g : Gg} {q : Nat → Nat} {k : Nat} (hL : Lk g q) (h : k < 5) : FX7_hoursOf 31 (nI k) (mk g) = some (nI (msk (hks q k) 10), mk g) := by
  simp -dsimp -implicitDefEqProofs (disch := omega) only [bnd_u, gd_t, if_true, if_false, ↓reduceIte, eq_self, true_or, or_true, false_or, or_false, not_true_eq_false, not_false_eq_true, and_true, true_and, and_false, false_and, reduceCtorEq, nI_ge, nI_le, nI_lt, nI_nlt, nI_ne, nI_te, nm_eq, mn_eq, nm_le, mn_le, nm_lt, mn_lt, pk_mul, nI_add, pk_sub, nI_clamp, eX7_hoursOf, eX7_hoursOf_19, hSee, hL.2.2 k h]
theorem s_seen {g : Gg} {q : Nat → Nat} {K : Nat} (hG : Gd q K) (hL : Lk g q) : FX7_hoursSeen 31 (mk g) = some (nI (msk (dsee q) 10), mk g) := by
  have hK := hG.K
  rw [eX7_hoursSeen]
  refine lp_0 (σ := Int32) (fun n i s => FX7_hoursSeen_4 n 31 s (nI i) (mk g)) 5 (fun i s => s = nI (msk (fun h => dsee q h && decide (q (26 + h) < i + 1)) 10)) (fun o => o = some (nI (msk (dsee q) 10), mk g)) ?_ (by decide) ?_ ?_
  · rw [show msk (fun h => dsee q h && decide (q (26 + h) < 0 + 1)) 10 = 0 from ?_]
    apply Nat.eq_of_testBit_eq
    intro i
    rw [msk_bit, Nat.zero_testBit]
    cases hd : dsee q i
    · simp
    · have : 0 < q (26 + i) := by
        simp only [dsee, Bool.and_eq_true, decide_eq_true_eq] at hd
        exact hd.1
      have e : decide (q (26 + i) < 0 + 1) = false := by simp; omega
      rw [e]; simp
  · intro n k s hk hs
    refine Or.inr ⟨_, ?_, rfl⟩
    have hx := hL.2.2 k hk
    have hm : nI (msk (fun h => dsee q h && decide (q (26 + h) < k + 1)) 10) ||| nI (msk (hks q k) 10) = nI (msk (fun h => dsee q h && decide (q (26 + h) < k + 1 + 1)) 10) := by
      rw [fa_or]
      congr 1
      apply Nat.eq_of_testBit_eq
      intro i
      rw [Nat.testBit_or, msk_bit, msk_bit, msk_bit]
      unfold hks
      cases dsee q i
      · simp
      · cases decide (i < 10)
        · simp
        · simp only [Bool.true_and]
          rw [Bool.eq_iff_iff]
          simp only [Bool.or_eq_true, decide_eq_true_eq]
          omega
    simp -dsimp -implicitDefEqProofs (disch := omega) only [bnd_u, gd_t, if_true, if_false, ↓reduceIte, eq_self, true_or, or_true, false_or, or_false, not_true_eq_false, not_false_eq_true, and_true, true_and, and_false, false_and, reduceCtorEq, nI_ge, nI_le, nI_lt, nI_nlt, nI_ne, nI_te, nm_eq, mn_eq, nm_le, mn_le, nm_lt, mn_lt, pk_mul, nI_add, pk_sub, nI_clamp, eX7_hoursSeen_4, hSee, hx, hs, hm]
  · intro n s hs
    have e : msk (fun h => dsee q h && decide (q (26 + h) < 5 + 1)) 10 = msk (dsee q) 10 := msk_cong (fun i hi => by
      have hr := hG.r hi
      have : q (26 + i) < 5 + 1 := by omega
      simp [this])
    simp -dsimp -implicitDefEqProofs (disch := omega) only [bnd_u, gd_t, if_true, if_false, ↓reduceIte, eq_self, true_or, or_true, false_or, or_false, not_true_eq_false, not_false_eq_true, and_true, true_and, and_false, false_and, reduceCtorEq, nI_ge, nI_le, nI_lt, nI_nlt, nI_ne, nI_te, nm_eq, mn_eq, nm_le, mn_le, nm_lt, mn_lt, pk_mul, nI_add, pk_sub, nI_clamp, eX7_hoursSeen_4, hs, e]
theorem nt_span : ∀ a : Fin 10, ∀ b : Fin 10, a.val ≤ b.val → ∀ h : Fin 10, (2 ^ (b.val + 1) - 2 ^ a.val).testBit h.val = (decide (a.val ≤ h.val) && decide (h.val ≤ b.val)) := by decide +kernel
/-- whether work i is done: its one sees in an hour of it that the mask m has -/
def dnm (q : Nat → Nat) (i m : Nat) : Bool := anyb (fun h => (decide (q (36 + 4 * i + 1) ≤ h) && decide (h ≤ q (36 + 4 * i + 2))) && (m.testBit h && decide (q (26 + h) = q (36 + 4 * i) + 1))) 10
def dn (q : Nat → Nat) (i : Nat) : Bool := dnm q i (msk (dsee q) 10)
theorem dn_e (q : Nat → Nat) (i : Nat) : dn q i = anyb (fun h => (decide (q (36 + 4 * i + 1) ≤ h) && decide (h ≤ q (36 + 4 * i + 2))) && hks q (q (36 + 4 * i)) h) 10 := by
  unfold dn dnm
  apply anyb_cong
  intro h hh
  rw [msk_bit]
  simp [hks, hh]
theorem f_work {g : Gg} {q : Nat → Nat} {K i j : Nat} (hF : F1 g q K) (hG : Gd q K) (hi : i < q 56) (hj : j < 4) : FX6_at 6 (nI i) (nI j) (mk g) = some (nI (q (36 + 4 * i + j)), mk g) := by
  rw [R_at rw6 hF.2.2.2.2.2.1 hG.wn hi hj, hF.2.2.2.2.2.2.1 i j hi hj]
theorem f_worth {g : Gg} {q : Nat → Nat} {K i : Nat} (hF : F1 g q K) (hG : Gd q K) (hi : i < q 56) : FX1_worthOf 1 (nI i) (mk g) = some (nI (q (36 + 4 * i + 3)), mk g) := by
  simp -dsimp -implicitDefEqProofs (disch := omega) only [bnd_u, gd_t, if_true, if_false, ↓reduceIte, eq_self, true_or, or_true, false_or, or_false, not_true_eq_false, not_false_eq_true, and_true, true_and, and_false, false_and, reduceCtorEq, nI_ge, nI_le, nI_lt, nI_nlt, nI_ne, nI_te, nm_eq, mn_eq, nm_le, mn_le, nm_lt, mn_lt, pk_mul, nI_add, pk_sub, nI_clamp, eX1_worthOf, hFam, f_work hF hG hi (show 3 < 4 by omega)]
theorem s_done {g : Gg} {q : Nat → Nat} {K i : Nat} (hF : F1 g q K) (hG : Gd q K) (hL : Lk g q) (hi : i < q 56) : FX7_isDone 31 1 (nI i) (mk g) = some (nI (dn q i).toNat, mk g) := by
  have hK := hG.K
  have hw := hG.w hi
  have h0 := f_work hF hG hi (show 0 < 4 by omega)
  have h1 := f_work hF hG hi (show 1 < 4 by omega)
  have h2 := f_work hF hG hi (show 2 < 4 by omega)
  have h4 := s_hoursOf hL (show q (36 + 4 * i) < 5 by omega)
  have hs := nt_span ⟨q (36 + 4 * i + 1), by omega⟩ ⟨q (36 + 4 * i + 2), by omega⟩ hw.2.1
  dsimp only at hs
  have hp1 : 2 ^ q (36 + 4 * i + 1) ≤ 2 ^ (q (36 + 4 * i + 2) + 1) := Nat.pow_le_pow_right (by decide) (by omega)
  have hp2 : 2 ^ (q (36 + 4 * i + 2) + 1) ≤ 2 ^ 10 := Nat.pow_le_pow_right (by decide) (by omega)
  have hm := msk_lt (hks q (q (36 + 4 * i))) 10
  have key : (msk (hks q (q (36 + 4 * i))) 10 &&& (2 ^ (q (36 + 4 * i + 2) + 1) - 2 ^ q (36 + 4 * i + 1)) = 0) ↔ dn q i = false := by
    rw [dn_e]
    constructor
    · intro h
      rw [← Bool.not_eq_true, anyb_i]
      rintro ⟨j, hj, hj2⟩
      have := congrArg (fun z => z.testBit j) h
      simp only [Nat.testBit_and, Nat.zero_testBit, msk_bit, hs ⟨j, hj⟩] at this
      simp only [Bool.and_eq_true] at hj2
      simp [hj, hj2] at this
    · intro h
      apply Nat.eq_of_testBit_eq
      intro j
      rw [Nat.testBit_and, Nat.zero_testBit, msk_bit]
      by_cases hj : j < 10
      · rw [hs ⟨j, hj⟩]
        rw [← Bool.not_eq_true, anyb_i] at h
        cases e : (decide (j < 10) && hks q (q (36 + 4 * i)) j && (decide (q (36 + 4 * i + 1) ≤ j) && decide (j ≤ q (36 + 4 * i + 2))))
        · rfl
        · exfalso
          apply h
          refine ⟨j, hj, ?_⟩
          simp only [Bool.and_eq_true] at e ⊢
          exact ⟨e.2, e.1.2⟩
      · simp [hj]
  have hand : msk (hks q (q (36 + 4 * i))) 10 &&& (2 ^ (q (36 + 4 * i + 2) + 1) - 2 ^ q (36 + 4 * i + 1)) < 2 ^ 10 := Nat.lt_of_le_of_lt Nat.and_le_left hm
  have s1 := nI_1shl (show q (36 + 4 * i + 2) + 1 < 31 by omega)
  have s2 := nI_1shl (show q (36 + 4 * i + 1) < 31 by omega)
  have s3 := pk_sub hp1
  have s4 := fa_and (msk (hks q (q (36 + 4 * i))) 10) (2 ^ (q (36 + 4 * i + 2) + 1) - 2 ^ q (36 + 4 * i + 1))
  cases e : dn q i
  · have e2 := key.mpr e
    simp -dsimp -implicitDefEqProofs (disch := omega) only [bnd_u, gd_t, if_true, if_false, ↓reduceIte, eq_self, true_or, or_true, false_or, or_false, not_true_eq_false, not_false_eq_true, and_true, true_and, and_false, false_and, reduceCtorEq, nI_ge, nI_le, nI_lt, nI_nlt, nI_ne, nI_te, nm_eq, mn_eq, nm_le, mn_le, nm_lt, mn_lt, pk_mul, nI_add, pk_sub, nI_clamp, eX7_isDone, eX7_isDone_57, hFam, hSee, h0, h1, h2, h4, Nat.add_zero, s1, s2, s3, s4, e2, Bool.toNat_false]
  · have e2 : msk (hks q (q (36 + 4 * i))) 10 &&& (2 ^ (q (36 + 4 * i + 2) + 1) - 2 ^ q (36 + 4 * i + 1)) ≠ 0 := fun h => by
      rw [key.mp h] at e; cases e
    simp -dsimp -implicitDefEqProofs (disch := omega) only [bnd_u, gd_t, if_true, if_false, ↓reduceIte, eq_self, true_or, or_true, false_or, or_false, not_true_eq_false, not_false_eq_true, and_true, true_and, and_false, false_and, reduceCtorEq, nI_ge, nI_le, nI_lt, nI_nlt, nI_ne, nI_te, nm_eq, mn_eq, nm_le, mn_le, nm_lt, mn_lt, pk_mul, nI_add, pk_sub, nI_clamp, eX7_isDone, eX7_isDone_57, hFam, hSee, h0, h1, h2, h4, Nat.add_zero, s1, s2, s3, s4, nI_ne e2 (Nat.lt_trans hand (by decide)) (by decide), Bool.toNat_true]
/-- what is done is worth -/
def wn (q : Nat → Nat) : Nat := fb_sm (fun i => if dn q i then q (36 + 4 * i + 3) else 0) (q 56)
theorem s_pieces {g : Gg} {q : Nat → Nat} {K : Nat} (hF : F1 g q K) (hG : Gd q K) (hL : Lk g q) : FX7_donePieces 31 1 (mk g) = some (nI (msk (dn q) (q 56)), mk g) := by
  have hwn := hG.wn
  rw [eX7_donePieces]
  refine lp_0 (σ := Int32) (fun n i s => FX7_donePieces_4 n 31 1 s (nI i) (mk g)) (q 56) (fun i s => s = nI (msk (dn q) i)) (fun o => o = some (nI (msk (dn q) (q 56)), mk g)) rfl (fu_l (by omega)) ?_ ?_
  · intro n k s hk hs
    subst hs
    have hd := s_done hF hG hL hk
    refine Or.inr ⟨_, ?_, rfl⟩
    cases e : dn q k <;> rw [e] at hd
    · simp -dsimp -implicitDefEqProofs (disch := omega) only [bnd_u, gd_t, if_true, if_false, ↓reduceIte, eq_self, true_or, or_true, false_or, or_false, not_true_eq_false, not_false_eq_true, and_true, true_and, and_false, false_and, reduceCtorEq, nI_ge, nI_le, nI_lt, nI_nlt, nI_ne, nI_te, nm_eq, mn_eq, nm_le, mn_le, nm_lt, mn_lt, pk_mul, nI_add, pk_sub, nI_clamp, eX7_donePieces_4, eX7_donePieces_32, hFam, hSee, hF.2.2.2.2.2.1, hd, Bool.toNat_false, msk_f e]
    · simp -dsimp -implicitDefEqProofs (disch := omega) only [bnd_u, gd_t, if_true, if_false, ↓reduceIte, eq_self, true_or, or_true, false_or, or_false, not_true_eq_false, not_false_eq_true, and_true, true_and, and_false, false_and, reduceCtorEq, nI_ge, nI_le, nI_lt, nI_nlt, nI_ne, nI_te, nm_eq, mn_eq, nm_le, mn_le, nm_lt, mn_lt, pk_mul, nI_add, pk_sub, nI_clamp, eX7_donePieces_4, eX7_donePieces_32, hFam, hSee, hF.2.2.2.2.2.1, hd, Bool.toNat_true, msk_t (show k < 31 by omega) e]
  · intro n s hs
    simp -dsimp -implicitDefEqProofs (disch := omega) only [bnd_u, gd_t, if_true, if_false, ↓reduceIte, eq_self, true_or, or_true, false_or, or_false, not_true_eq_false, not_false_eq_true, and_true, true_and, and_false, false_and, reduceCtorEq, nI_ge, nI_le, nI_lt, nI_nlt, nI_ne, nI_te, nm_eq, mn_eq, nm_le, mn_le, nm_lt, mn_lt, pk_mul, nI_add, pk_sub, nI_clamp, eX7_donePieces_4, hFam, hF.2.2.2.2.2.1, hs]
theorem s_worth {g : Gg} {q : Nat → Nat} {K : Nat} (hF : F1 g q K) (hG : Gd q K) (hL : Lk g q) : FX7_doneWorth 31 1 (mk g) = some (nI (wn q), mk g) := by
  have hwn := hG.wn
  rw [eX7_doneWorth]
  refine lp_0 (σ := Int32) (fun n i s => FX7_doneWorth_4 n 31 1 s (nI i) (mk g)) (q 56) (fun i s => s = nI (fb_sm (fun i => if dn q i then q (36 + 4 * i + 3) else 0) i)) (fun o => o = some (nI (wn q), mk g)) rfl (fu_l (by omega)) ?_ ?_
  · intro n k s hk hs
    subst hs
    have hd := s_done hF hG hL hk
    refine Or.inr ⟨_, ?_, rfl⟩
    rw [fb_sm_succ]
    cases e : dn q k <;> rw [e] at hd
    · simp -dsimp -implicitDefEqProofs (disch := omega) only [bnd_u, gd_t, if_true, if_false, ↓reduceIte, eq_self, true_or, or_true, false_or, or_false, not_true_eq_false, not_false_eq_true, and_true, true_and, and_false, false_and, reduceCtorEq, nI_ge, nI_le, nI_lt, nI_nlt, nI_ne, nI_te, nm_eq, mn_eq, nm_le, mn_le, nm_lt, mn_lt, pk_mul, nI_add, pk_sub, nI_clamp, eX7_doneWorth_4, eX7_doneWorth_34, hFam, hSee, hF.2.2.2.2.2.1, hd, Bool.toNat_false, Bool.false_eq_true]
    · simp -dsimp -implicitDefEqProofs (disch := omega) only [bnd_u, gd_t, if_true, if_false, ↓reduceIte, eq_self, true_or, or_true, false_or, or_false, not_true_eq_false, not_false_eq_true, and_true, true_and, and_false, false_and, reduceCtorEq, nI_ge, nI_le, nI_lt, nI_nlt, nI_ne, nI_te, nm_eq, mn_eq, nm_le, mn_le, nm_lt, mn_lt, pk_mul, nI_add, pk_sub, nI_clamp, eX7_doneWorth_4, eX7_doneWorth_34, hFam, hSee, hF.2.2.2.2.2.1, hd, Bool.toNat_true, f_worth hF hG hk]
  · intro n s hs
    simp -dsimp -implicitDefEqProofs (disch := omega) only [bnd_u, gd_t, if_true, if_false, ↓reduceIte, eq_self, true_or, or_true, false_or, or_false, not_true_eq_false, not_false_eq_true, and_true, true_and, and_false, false_and, reduceCtorEq, nI_ge, nI_le, nI_lt, nI_nlt, nI_ne, nI_te, nm_eq, mn_eq, nm_le, mn_le, nm_lt, mn_lt, pk_mul, nI_add, pk_sub, nI_clamp, eX7_doneWorth_4, hFam, hF.2.2.2.2.2.1, hs, wn]
