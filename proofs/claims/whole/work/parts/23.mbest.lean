/-! the best rota: the reference -/
theorem m_workIn {g : Gg} {q : Nat → Nat} {K k h : Nat} (hM : Ms g q K) (hG : Gd q K) (hk : k < 5) (hh : h < 10) : FX9_workIn 78 (nI k) (nI h) (mk g) = some (nI (wi q k h), mk g) := by
  have hwn := hG.wn
  have hK := hG.K
  rw [eX9_workIn]
  refine lp_0 (σ := Int32) (fun n i s => FX9_workIn_5 n 78 (nI k) (nI h) s (nI i) (mk g)) (q 56) (fun i s => s = nI (msk (fun i => decide (q (36 + 4 * i) = k) && (decide (q (36 + 4 * i + 1) ≤ h) && decide (h ≤ q (36 + 4 * i + 2)))) i)) (fun o => o = some (nI (wi q k h), mk g)) rfl (fu_l (by omega)) ?_ ?_
  · intro n i s hi hs
    subst hs
    have hw := hG.w hi
    refine Or.inr ⟨_, ?_, rfl⟩
    by_cases a1 : q (36 + 4 * i) = k
    · by_cases a2 : q (36 + 4 * i + 1) ≤ h ∧ h ≤ q (36 + 4 * i + 2)
      · have e : (fun i => decide (q (36 + 4 * i) = k) && (decide (q (36 + 4 * i + 1) ≤ h) && decide (h ≤ q (36 + 4 * i + 2)))) i = true := by simp [a1, a2]
        simp -dsimp -implicitDefEqProofs (disch := omega) only [bnd_u, gd_t, if_true, if_false, ↓reduceIte, eq_self, true_or, or_true, false_or, or_false, not_true_eq_false, not_false_eq_true, and_true, true_and, and_false, false_and, reduceCtorEq, nI_ge, nI_le, nI_lt, nI_nlt, nI_ne, nI_te, nm_eq, mn_eq, nm_le, mn_le, nm_lt, mn_lt, pk_mul, nI_add, pk_sub, nI_clamp, eX9_workIn_5, eX9_workIn_74, hMo, hM.a, a1, nI_l, m_in a2.1 a2.2 (by omega), msk_t (c := fun i => decide (q (36 + 4 * i) = k) && (decide (q (36 + 4 * i + 1) ≤ h) && decide (h ≤ q (36 + 4 * i + 2)))) (show i < 31 by omega) e]
      · have e : (fun i => decide (q (36 + 4 * i) = k) && (decide (q (36 + 4 * i + 1) ≤ h) && decide (h ≤ q (36 + 4 * i + 2)))) i = false := by simp; omega
        have hin : FX9_in (lN h) (lN (q (36 + 4 * i + 1))) (lN (q (36 + 4 * i + 2))) (mk g) = some (nI 0, mk g) := by
          by_cases a3 : q (36 + 4 * i + 1) ≤ h
          · exact m_inH ((lN_lt (by omega) (by omega)).mpr (by omega))
          · exact m_inL ((lN_lt (by omega) (by omega)).mpr (by omega))
        simp -dsimp -implicitDefEqProofs (disch := omega) only [bnd_u, gd_t, if_true, if_false, ↓reduceIte, eq_self, true_or, or_true, false_or, or_false, not_true_eq_false, not_false_eq_true, and_true, true_and, and_false, false_and, reduceCtorEq, nI_ge, nI_le, nI_lt, nI_nlt, nI_ne, nI_te, nm_eq, mn_eq, nm_le, mn_le, nm_lt, mn_lt, pk_mul, nI_add, pk_sub, nI_clamp, eX9_workIn_5, eX9_workIn_73, eX9_workIn_74, hMo, hM.a, a1, nI_l, hin, msk_f (c := fun i => decide (q (36 + 4 * i) = k) && (decide (q (36 + 4 * i + 1) ≤ h) && decide (h ≤ q (36 + 4 * i + 2)))) e]
    · have e : (fun i => decide (q (36 + 4 * i) = k) && (decide (q (36 + 4 * i + 1) ≤ h) && decide (h ≤ q (36 + 4 * i + 2)))) i = false := by simp [a1]
      simp -dsimp -implicitDefEqProofs (disch := omega) only [bnd_u, gd_t, if_true, if_false, ↓reduceIte, eq_self, true_or, or_true, false_or, or_false, not_true_eq_false, not_false_eq_true, and_true, true_and, and_false, false_and, reduceCtorEq, nI_ge, nI_le, nI_lt, nI_nlt, nI_ne, nI_te, nm_eq, mn_eq, nm_le, mn_le, nm_lt, mn_lt, pk_mul, nI_add, pk_sub, nI_clamp, eX9_workIn_5, eX9_workIn_73, eX9_workIn_74, hMo, hM.a, msk_f (c := fun i => decide (q (36 + 4 * i) = k) && (decide (q (36 + 4 * i + 1) ≤ h) && decide (h ≤ q (36 + 4 * i + 2)))) e]
  · intro n s hs
    subst hs
    simp -dsimp -implicitDefEqProofs (disch := omega) only [bnd_u, gd_t, if_true, if_false, ↓reduceIte, eq_self, true_or, or_true, false_or, or_false, not_true_eq_false, not_false_eq_true, and_true, true_and, and_false, false_and, reduceCtorEq, nI_ge, nI_le, nI_lt, nI_nlt, nI_ne, nI_te, nm_eq, mn_eq, nm_le, mn_le, nm_lt, mn_lt, pk_mul, nI_add, pk_sub, nI_clamp, eX9_workIn_5, hMo, hM.a, wi]
theorem m_comes {g : Gg} {q : Nat → Nat} {K k h c s : Nat} (hM : Ms g q K) (hG : Gd q K) (hk : k < K ∨ k = 5) (hh : h < 10) (hc : c ≤ 5) (hs : s < 32) : FX9_comesTo 78 (nI k) (nI h) (nI c) (nI s) (mk g) = some (nI (192 * (h + 1) + 32 * k + (s ||| gn q k h c)), mk g) := by
  have hK := hG.K
  rcases hk with hk | rfl
  · have hw := m_would hM hG hk hh (show ah c ≤ 5 by unfold ah; split <;> omega)
    have e18 : FX9_comesTo 78 (nI k) (nI h) (nI c) (nI s) (mk g) = FX9_comesTo_18 78 (nI k) (nI h) (nI s) 78 (nI k) (nI h) (hm (ah c)) (mk g) := by
      by_cases h5 : c = 5
      · have e : hm (ah c) = mi 1 := by rw [show ah c = 0 from if_pos h5]; rfl
        simp -dsimp -implicitDefEqProofs (disch := omega) only [bnd_u, gd_t, if_true, if_false, ↓reduceIte, eq_self, true_or, or_true, false_or, or_false, not_true_eq_false, not_false_eq_true, and_true, true_and, and_false, false_and, reduceCtorEq, nI_ge, nI_le, nI_lt, nI_nlt, nI_ne, nI_te, nm_eq, mn_eq, nm_le, mn_le, nm_lt, mn_lt, pk_mul, nI_add, pk_sub, nI_clamp, eX9_comesTo, e]
      · have e : hm (ah c) = nI c := by rw [show ah c = c + 1 from if_neg h5, hm_s (by omega), Nat.add_sub_cancel]
        simp -dsimp -implicitDefEqProofs (disch := omega) only [bnd_u, gd_t, if_true, if_false, ↓reduceIte, eq_self, true_or, or_true, false_or, or_false, not_true_eq_false, not_false_eq_true, and_true, true_and, and_false, false_and, reduceCtorEq, nI_ge, nI_le, nI_lt, nI_nlt, nI_ne, nI_te, nm_eq, mn_eq, nm_le, mn_le, nm_lt, mn_lt, pk_mul, nI_add, pk_sub, nI_clamp, eX9_comesTo, e]
    rw [e18]
    cases hd : wsee q k h (ah c) <;> rw [hd] at hw
    · have e : gn q k h c = 0 := by simp [gn, hd]
      simp -dsimp -implicitDefEqProofs (disch := omega) only [bnd_u, gd_t, if_true, if_false, ↓reduceIte, eq_self, true_or, or_true, false_or, or_false, not_true_eq_false, not_false_eq_true, and_true, true_and, and_false, false_and, reduceCtorEq, nI_ge, nI_le, nI_lt, nI_nlt, nI_ne, nI_te, nm_eq, mn_eq, nm_le, mn_le, nm_lt, mn_lt, pk_mul, nI_add, pk_sub, nI_clamp, eX9_comesTo_18, eX9_comesTo_28, eX9_comesTo_29, eX9_comesTo_62, hMo, hw, Bool.toNat_false, e, Nat.or_zero]
    · have e : gn q k h c = wi q k h := by
        unfold gn
        rw [hd, if_pos (by simp; omega)]
      simp -dsimp -implicitDefEqProofs (disch := omega) only [bnd_u, gd_t, if_true, if_false, ↓reduceIte, eq_self, true_or, or_true, false_or, or_false, not_true_eq_false, not_false_eq_true, and_true, true_and, and_false, false_and, reduceCtorEq, nI_ge, nI_le, nI_lt, nI_nlt, nI_ne, nI_te, nm_eq, mn_eq, nm_le, mn_le, nm_lt, mn_lt, pk_mul, nI_add, pk_sub, nI_clamp, eX9_comesTo_18, eX9_comesTo_29, eX9_comesTo_62, hMo, hw, Bool.toNat_true, m_workIn hM hG (show k < 5 by omega) hh, e, nI_or]
  · simp -dsimp -implicitDefEqProofs (disch := omega) only [bnd_u, gd_t, if_true, if_false, ↓reduceIte, eq_self, true_or, or_true, false_or, or_false, not_true_eq_false, not_false_eq_true, and_true, true_and, and_false, false_and, reduceCtorEq, nI_ge, nI_le, nI_lt, nI_nlt, nI_ne, nI_te, nm_eq, mn_eq, nm_le, mn_le, nm_lt, mn_lt, pk_mul, nI_add, pk_sub, nI_clamp, eX9_comesTo, eX9_comesTo_28, eX9_comesTo_29, eX9_comesTo_62, gn_5, Nat.or_zero]
theorem m_choice {g : Gg} {q : Nat → Nat} {K k : Nat} (hM : Ms g q K) (hK : K ≤ 5) (hk : k < K ∨ k = 5) : FX9_isChoice 78 (nI k) (mk g) = some (nI 1, mk g) := by
  rcases hk with hk | rfl
  · simp -dsimp -implicitDefEqProofs (disch := omega) only [bnd_u, gd_t, if_true, if_false, ↓reduceIte, eq_self, true_or, or_true, false_or, or_false, not_true_eq_false, not_false_eq_true, and_true, true_and, and_false, false_and, reduceCtorEq, nI_ge, nI_le, nI_lt, nI_nlt, nI_ne, nI_te, nm_eq, mn_eq, nm_le, mn_le, nm_lt, mn_lt, pk_mul, nI_add, pk_sub, nI_clamp, eX9_isChoice, eX9_isChoice_13, eX9_isChoice_18, hMo, m_one hM hK hk]
  · simp -dsimp -implicitDefEqProofs (disch := omega) only [bnd_u, gd_t, if_true, if_false, ↓reduceIte, eq_self, true_or, or_true, false_or, or_false, not_true_eq_false, not_false_eq_true, and_true, true_and, and_false, false_and, reduceCtorEq, nI_ge, nI_le, nI_lt, nI_nlt, nI_ne, nI_te, nm_eq, mn_eq, nm_le, mn_le, nm_lt, mn_lt, pk_mul, nI_add, pk_sub, nI_clamp, eX9_isChoice, eX9_isChoice_13, eX9_isChoice_18]
theorem m_choiceN {g : Gg} {q : Nat → Nat} {K k : Nat} (hM : Ms g q K) (hK : K ≤ 5) (hk : K ≤ k) (hk5 : k < 5) : FX9_isChoice 78 (nI k) (mk g) = some (nI 0, mk g) := by
  simp -dsimp -implicitDefEqProofs (disch := omega) only [bnd_u, gd_t, if_true, if_false, ↓reduceIte, eq_self, true_or, or_true, false_or, or_false, not_true_eq_false, not_false_eq_true, and_true, true_and, and_false, false_and, reduceCtorEq, nI_ge, nI_le, nI_lt, nI_nlt, nI_ne, nI_te, nm_eq, mn_eq, nm_le, mn_le, nm_lt, mn_lt, pk_mul, nI_add, pk_sub, nI_clamp, eX9_isChoice, eX9_isChoice_18, hMo, m_oneN hM hK (Or.inr ⟨nI_pos (show k < 2 ^ 31 by omega), nI_le hk (by omega)⟩)]
/-- the reference's table, from the hour h0 on -/
def MT (t : Nat → Int32) (q : Nat → Nat) (K h0 : Nat) : Prop := ∀ h, h0 ≤ h → h ≤ 10 → ∀ c, c < 192 → t (192 * h + c) = nI (bsr q K (10 - h) (c / 32) (c % 32))
theorem MT.at {t : Nat → Int32} {q : Nat → Nat} {K h0 h k s : Nat} (hT : MT t q K h0) (h1 : h0 ≤ h) (h2 : h ≤ 10) (hk : k ≤ 5) (hs : s < 32) : t (192 * h + 32 * k + s) = nI (bsr q K (10 - h) k s) := by
  have := hT h h1 h2 (32 * k + s) (by omega)
  rw [Nat.add_assoc, this, show (32 * k + s) / 32 = k by omega, show (32 * k + s) % 32 = s by omega]
/-- a counter that goes down from a, as the machine has it -/
def dI (a k : Nat) : Int32 := if k = a + 1 then mi 1 else nI (a - k)
theorem dI_n {a k : Nat} (h : k ≤ a) : dI a k = nI (a - k) := if_neg (by omega)
theorem dI_e (a : Nat) : dI a (a + 1) = mi 1 := if_pos rfl
theorem dI_s {a k : Nat} (h : k ≤ a) : nI (a - k) + mi 1 = dI a (k + 1) := by
  by_cases e : k = a
  · subst e
    rw [dI_e, Nat.sub_self]; decide
  · rw [dI_n (by omega), nI_m1 (by omega), show a - k - 1 = a - (k + 1) by omega]
theorem m_lays1 {g : Gg} {q : Nat → Nat} {K n36 n42 h c : Nat} (hM : Ms g q K) (hG : Gd q K) (hT : MT (g 87) q K (h + 1)) (hh : h < 10) (hc : c < 192) : FX9_laysMost_54 n36 n42 fu 78 (nI h) (nI c) (mi 1) (nI 0) (mk g) = FX9_laysMost_42 n36 n42 78 (nI h) (nI (c + 1)) (mk (up g 87 (192 * h + c) (nI (bsr q K (10 - h) (c / 32) (c % 32))))) := by
  have hK := hG.K
  have e9 : 9 - (9 - h) = h := by omega
  have hb := bsr_45 hG (10 - h) (c / 32) (c % 32)
  let f : Nat → Nat := fun k => bsr q K (9 - h) k (c % 32 ||| gn q k h (c / 32))
  have hf45 : ∀ k, f k ≤ 45 := fun k => bsr_45 hG _ _ _
  have hm45 : ∀ k, mxs f k ≤ 45 := fun k => mxs_ub (fun j _ => hf45 j)
  have hv : ∀ k, k < K ∨ k = 5 → h_A (mk g) 0 87 (nI (192 * (h + 1) + 32 * k + (c % 32 ||| gn q k h (c / 32)))) = some (nI (f k)) := fun k hk => by
    have h32 := or_32 (show c % 32 < 32 by omega) (gn_lt hG k h (c / 32))
    rw [t_A (n := 2112) rfl (by decide) _ (by omega), hT.at (by omega) (by omega) (by omega) h32, show 10 - (h + 1) = 9 - h by omega]
  have hcm : ∀ k, k < K ∨ k = 5 → FX9_comesTo 78 (nI k) (nI h) (nI (c / 32)) (nI (c % 32)) (mk g) = some (nI (192 * (h + 1) + 32 * k + (c % 32 ||| gn q k h (c / 32))), mk g) := fun k hk => m_comes hM hG hk hh (by omega) (by omega)
  refine lp_0 (σ := Int32) (fun n k b => FX9_laysMost_54 n36 n42 n 78 (nI h) (nI c) b (nI k) (mk g)) 6 (fun k b => (k ≤ 5 ∧ ((min k K = 0 ∧ b = mi 1) ∨ (0 < min k K ∧ b = nI (mxs f (min k K))))) ∨ (k = 6 ∧ b = nI (bsr q K (10 - h) (c / 32) (c % 32)))) (fun o => o = FX9_laysMost_42 n36 n42 78 (nI h) (nI (c + 1)) (mk (up g 87 (192 * h + c) (nI (bsr q K (10 - h) (c / 32) (c % 32)))))) (Or.inl ⟨by omega, Or.inl ⟨by omega, rfl⟩⟩) (by decide) ?_ ?_
  · intro n k b hk hI
    refine Or.inr ?_
    rcases hI with ⟨-, hI⟩ | ⟨h6, -⟩
    · by_cases k5 : k = 5
      · subst k5
        have emax : bsr q K (10 - h) (c / 32) (c % 32) = max (mxs f K) (f 5) := by
          rw [show 10 - h = 9 - h + 1 by omega, bsr, e9]
          show _ = max _ (bsr q K (9 - h) 5 (c % 32 ||| gn q 5 h (c / 32)))
          rw [gn_5, Nat.or_zero]
        rw [show min 5 K = K by omega] at hI
        have h5 := hf45 5
        have hm := hm45 K
        refine ⟨nI (bsr q K (10 - h) (c / 32) (c % 32)), ?_, Or.inr ⟨rfl, rfl⟩⟩
        rw [emax]
        rcases hI with ⟨h0, hb⟩ | ⟨h0, hb⟩
        · subst hb
          rw [h0, show mxs f 0 = 0 from rfl, Nat.max_eq_right (by omega)]
          simp -dsimp -implicitDefEqProofs (disch := omega) only [bnd_u, gd_t, if_true, if_false, ↓reduceIte, eq_self, true_or, or_true, false_or, or_false, not_true_eq_false, not_false_eq_true, and_true, true_and, and_false, false_and, reduceCtorEq, nI_ge, nI_le, nI_lt, nI_nlt, nI_ne, nI_te, nm_eq, mn_eq, nm_le, mn_le, nm_lt, mn_lt, pk_mul, nI_add, pk_sub, nI_clamp, eX9_laysMost_54, eX9_laysMost_93, eX9_laysMost_107, hMo, m_choice hM hK (Or.inr rfl), pk_div, nat_dm, hcm 5 (Or.inr rfl), hv 5 (Or.inr rfl)]
        · subst hb
          by_cases hle : f 5 ≤ mxs f K
          · rw [Nat.max_eq_left hle]
            simp -dsimp -implicitDefEqProofs (disch := omega) only [bnd_u, gd_t, if_true, if_false, ↓reduceIte, eq_self, true_or, or_true, false_or, or_false, not_true_eq_false, not_false_eq_true, and_true, true_and, and_false, false_and, reduceCtorEq, nI_ge, nI_le, nI_lt, nI_nlt, nI_ne, nI_te, nm_eq, mn_eq, nm_le, mn_le, nm_lt, mn_lt, pk_mul, nI_add, pk_sub, nI_clamp, eX9_laysMost_54, eX9_laysMost_93, eX9_laysMost_107, hMo, m_choice hM hK (Or.inr rfl), pk_div, nat_dm, hcm 5 (Or.inr rfl), hv 5 (Or.inr rfl)]
          · rw [Nat.max_eq_right (by omega)]
            simp -dsimp -implicitDefEqProofs (disch := omega) only [bnd_u, gd_t, if_true, if_false, ↓reduceIte, eq_self, true_or, or_true, false_or, or_false, not_true_eq_false, not_false_eq_true, and_true, true_and, and_false, false_and, reduceCtorEq, nI_ge, nI_le, nI_lt, nI_nlt, nI_ne, nI_te, nm_eq, mn_eq, nm_le, mn_le, nm_lt, mn_lt, pk_mul, nI_add, pk_sub, nI_clamp, eX9_laysMost_54, eX9_laysMost_93, eX9_laysMost_107, hMo, m_choice hM hK (Or.inr rfl), pk_div, nat_dm, hcm 5 (Or.inr rfl), hv 5 (Or.inr rfl)]
      · by_cases hkK : k < K
        · rw [show min k K = k by omega] at hI
          have h5 := hf45 k
          have hm := hm45 k
          refine ⟨nI (mxs f (k + 1)), ?_, Or.inl ⟨by omega, Or.inr ⟨by omega, by rw [show min (k + 1) K = k + 1 by omega]⟩⟩⟩
          rw [mxs]
          rcases hI with ⟨h0, hb⟩ | ⟨h0, hb⟩
          · subst hb
            subst h0
            rw [show mxs f 0 = 0 from rfl, Nat.max_eq_right (by omega)]
            simp -dsimp -implicitDefEqProofs (disch := omega) only [bnd_u, gd_t, if_true, if_false, ↓reduceIte, eq_self, true_or, or_true, false_or, or_false, not_true_eq_false, not_false_eq_true, and_true, true_and, and_false, false_and, reduceCtorEq, nI_ge, nI_le, nI_lt, nI_nlt, nI_ne, nI_te, nm_eq, mn_eq, nm_le, mn_le, nm_lt, mn_lt, pk_mul, nI_add, pk_sub, nI_clamp, eX9_laysMost_54, eX9_laysMost_93, eX9_laysMost_107, hMo, m_choice hM hK (Or.inl hkK), pk_div, nat_dm, hcm 0 (Or.inl hkK), hv 0 (Or.inl hkK)]
          · subst hb
            by_cases hle : f k ≤ mxs f k
            · rw [Nat.max_eq_left hle]
              simp -dsimp -implicitDefEqProofs (disch := omega) only [bnd_u, gd_t, if_true, if_false, ↓reduceIte, eq_self, true_or, or_true, false_or, or_false, not_true_eq_false, not_false_eq_true, and_true, true_and, and_false, false_and, reduceCtorEq, nI_ge, nI_le, nI_lt, nI_nlt, nI_ne, nI_te, nm_eq, mn_eq, nm_le, mn_le, nm_lt, mn_lt, pk_mul, nI_add, pk_sub, nI_clamp, eX9_laysMost_54, eX9_laysMost_93, eX9_laysMost_107, hMo, m_choice hM hK (Or.inl hkK), pk_div, nat_dm, hcm k (Or.inl hkK), hv k (Or.inl hkK)]
            · rw [Nat.max_eq_right (by omega)]
              simp -dsimp -implicitDefEqProofs (disch := omega) only [bnd_u, gd_t, if_true, if_false, ↓reduceIte, eq_self, true_or, or_true, false_or, or_false, not_true_eq_false, not_false_eq_true, and_true, true_and, and_false, false_and, reduceCtorEq, nI_ge, nI_le, nI_lt, nI_nlt, nI_ne, nI_te, nm_eq, mn_eq, nm_le, mn_le, nm_lt, mn_lt, pk_mul, nI_add, pk_sub, nI_clamp, eX9_laysMost_54, eX9_laysMost_93, eX9_laysMost_107, hMo, m_choice hM hK (Or.inl hkK), pk_div, nat_dm, hcm k (Or.inl hkK), hv k (Or.inl hkK)]
        · refine ⟨b, ?_, Or.inl ⟨by omega, ?_⟩⟩
          · have hle : mi 1 ≤ b := by
              rcases hI with ⟨-, hb⟩ | ⟨-, hb⟩
              · subst hb; decide
              · subst hb
                have := hm45 (min k K)
                rw [mn_le (by omega) (by omega)]; trivial
            simp -dsimp -implicitDefEqProofs (disch := omega) only [bnd_u, gd_t, if_true, if_false, ↓reduceIte, eq_self, true_or, or_true, false_or, or_false, not_true_eq_false, not_false_eq_true, and_true, true_and, and_false, false_and, reduceCtorEq, nI_ge, nI_le, nI_lt, nI_nlt, nI_ne, nI_te, nm_eq, mn_eq, nm_le, mn_le, nm_lt, mn_lt, pk_mul, nI_add, pk_sub, nI_clamp, eX9_laysMost_54, eX9_laysMost_93, eX9_laysMost_107, hMo, m_choiceN hM hK (show K ≤ k by omega) (show k < 5 by omega), hle]
          · rw [show min (k + 1) K = min k K by omega]; exact hI
    · omega
  · intro n b hI
    rcases hI with ⟨h6, -⟩ | ⟨-, hb⟩
    · omega
    · subst hb
      simp -dsimp -implicitDefEqProofs (disch := omega) only [bnd_u, gd_t, if_true, if_false, ↓reduceIte, eq_self, true_or, or_true, false_or, or_false, not_true_eq_false, not_false_eq_true, and_true, true_and, and_false, false_and, reduceCtorEq, nI_ge, nI_le, nI_lt, nI_nlt, nI_ne, nI_te, nm_eq, mn_eq, nm_le, mn_le, nm_lt, mn_lt, pk_mul, nI_add, pk_sub, nI_clamp, eX9_laysMost_54, hMo]
theorem m_lays {g : Gg} {q : Nat → Nat} {K : Nat} (hM : Ms g q K) (hG : Gd q K) : ∃ g', FX9_laysMost 78 (mk g) = some ((), mk g') ∧ Fr [87] g g' ∧ MT (g' 87) q K 0 := by
  have hK := hG.K
  rw [eX9_laysMost]
  refine lp_0 (σ := Gg) (fun n c u => FX9_laysMost_2 n 78 (nI c) (mk u)) 192 (fun c u => Fr [87] g u ∧ ∀ j, j < c → u 87 (1920 + j) = nI (wr q (j % 32))) (fun o => ∃ g', o = some ((), mk g') ∧ Fr [87] g g' ∧ MT (g' 87) q K 0) ⟨Fr.refl, fun j hj => absurd hj (by omega)⟩ (by decide) ?_ ?_
  · intro n c u hc ⟨i1, i2⟩
    have hMu := hM.f i1 (by decide)
    have hw := m_worth hMu hG (show c % 32 < 2 ^ 31 by omega)
    have h45 := wr_45 hG (c % 32)
    refine Or.inr ⟨up u 87 (1920 + c) (nI (wr q (c % 32))), ?_, i1.tr (Fr.c (l := [87]) (by decide)) (fun c hc => ⟨hc, hc⟩), fun j hj => ?_⟩
    · simp -dsimp -implicitDefEqProofs (disch := omega) only [bnd_u, gd_t, if_true, if_false, ↓reduceIte, eq_self, true_or, or_true, false_or, or_false, not_true_eq_false, not_false_eq_true, and_true, true_and, and_false, false_and, reduceCtorEq, nI_ge, nI_le, nI_lt, nI_nlt, nI_ne, nI_te, nm_eq, mn_eq, nm_le, mn_le, nm_lt, mn_lt, pk_mul, nI_add, pk_sub, nI_clamp, eX9_laysMost_2, hMo, pk_div, nat_dm, hw]
    · rw [up_c]
      by_cases e : j = c
      · rw [e, pk_us]
      · rw [pk_un (by omega)]; exact i2 j (by omega)
  · intro n u ⟨i1, i2⟩
    have hT10 : MT (u 87) q K 10 := fun h h1 h2 c hc => by
      rw [show h = 10 by omega]
      exact i2 c hc
    have e0 : FX9_laysMost_2 (n + 1) 78 (nI 192) (mk u) = FX9_laysMost_36 fu 78 (dI 9 0) (mk u) := by
      rw [dI_n (by omega)]
      simp -dsimp -implicitDefEqProofs (disch := omega) only [bnd_u, gd_t, if_true, if_false, ↓reduceIte, eq_self, true_or, or_true, false_or, or_false, not_true_eq_false, not_false_eq_true, and_true, true_and, and_false, false_and, reduceCtorEq, nI_ge, nI_le, nI_lt, nI_nlt, nI_ne, nI_te, nm_eq, mn_eq, nm_le, mn_le, nm_lt, mn_lt, pk_mul, nI_add, pk_sub, nI_clamp, eX9_laysMost_2]
    rw [e0]
    refine lp_0 (σ := Gg) (fun n k u => FX9_laysMost_36 n 78 (dI 9 k) (mk u)) 10 (fun k u => Fr [87] g u ∧ MT (u 87) q K (10 - k)) (fun o => ∃ g', o = some ((), mk g') ∧ Fr [87] g g' ∧ MT (g' 87) q K 0) ⟨i1, hT10⟩ (by decide) ?_ ?_
    · intro n k u hk ⟨i1, i2⟩
      refine Or.inr ?_
      have e1 : FX9_laysMost_36 (n + 1) 78 (dI 9 k) (mk u) = FX9_laysMost_42 n fu 78 (nI (9 - k)) (nI 0) (mk u) := by
        rw [dI_n (by omega)]
        simp -dsimp -implicitDefEqProofs (disch := omega) only [bnd_u, gd_t, if_true, if_false, ↓reduceIte, eq_self, true_or, or_true, false_or, or_false, not_true_eq_false, not_false_eq_true, and_true, true_and, and_false, false_and, reduceCtorEq, nI_ge, nI_le, nI_lt, nI_nlt, nI_ne, nI_te, nm_eq, mn_eq, nm_le, mn_le, nm_lt, mn_lt, pk_mul, nI_add, pk_sub, nI_clamp, eX9_laysMost_36]
      rw [e1]
      refine lp_0 (σ := Gg) (fun m c u => FX9_laysMost_42 n m 78 (nI (9 - k)) (nI c) (mk u)) 192 (fun c u => Fr [87] g u ∧ MT (u 87) q K (10 - k) ∧ ∀ j, j < c → u 87 (192 * (9 - k) + j) = nI (bsr q K (10 - (9 - k)) (j / 32) (j % 32))) (fun o => ∃ s', o = FX9_laysMost_36 n 78 (dI 9 (k + 1)) (mk s') ∧ Fr [87] g s' ∧ MT (s' 87) q K (10 - (k + 1))) ⟨i1, i2, fun j hj => absurd hj (by omega)⟩ (by decide) ?_ ?_
      · intro m c u hc ⟨j1, j2, j3⟩
        have hMu := hM.f j1 (by decide)
        have e2 : FX9_laysMost_42 n (m + 1) 78 (nI (9 - k)) (nI c) (mk u) = FX9_laysMost_54 n m fu 78 (nI (9 - k)) (nI c) (mi 1) (nI 0) (mk u) := by
          simp -dsimp -implicitDefEqProofs (disch := omega) only [bnd_u, gd_t, if_true, if_false, ↓reduceIte, eq_self, true_or, or_true, false_or, or_false, not_true_eq_false, not_false_eq_true, and_true, true_and, and_false, false_and, reduceCtorEq, nI_ge, nI_le, nI_lt, nI_nlt, nI_ne, nI_te, nm_eq, mn_eq, nm_le, mn_le, nm_lt, mn_lt, pk_mul, nI_add, pk_sub, nI_clamp, eX9_laysMost_42]
        have hT2 : MT (u 87) q K (9 - k + 1) := by
          rw [show 9 - k + 1 = 10 - k by omega]; exact j2
        refine Or.inr ⟨_, e2.trans (m_lays1 hMu hG hT2 (by omega) hc), j1.tr (Fr.c (l := [87]) (by decide)) (fun c hc => ⟨hc, hc⟩), ?_, ?_⟩
        · intro h h1 h2 c' hc'
          rw [up_c, pk_un (by omega)]
          exact j2 h h1 h2 c' hc'
        · intro j hj
          rw [up_c]
          by_cases e : j = c
          · rw [e, pk_us]
          · rw [pk_un (by omega)]; exact j3 j (by omega)
      · intro m u ⟨j1, j2, j3⟩
        refine ⟨u, ?_, j1, ?_⟩
        · have := dI_s (a := 9) (k := k) (by omega)
          simp -dsimp -implicitDefEqProofs (disch := omega) only [bnd_u, gd_t, if_true, if_false, ↓reduceIte, eq_self, true_or, or_true, false_or, or_false, not_true_eq_false, not_false_eq_true, and_true, true_and, and_false, false_and, reduceCtorEq, nI_ge, nI_le, nI_lt, nI_nlt, nI_ne, nI_te, nm_eq, mn_eq, nm_le, mn_le, nm_lt, mn_lt, pk_mul, nI_add, pk_sub, nI_clamp, eX9_laysMost_42, this]
        · intro h h1 h2 c hc
          by_cases e : h = 9 - k
          · rw [e]; exact j3 c hc
          · exact j2 h (by omega) h2 c hc
    · intro n u ⟨i1, i2⟩
      refine ⟨u, ?_, i1, i2⟩
      rw [dI_e 9]
      simp -dsimp -implicitDefEqProofs (disch := omega) only [bnd_u, gd_t, if_true, if_false, ↓reduceIte, eq_self, true_or, or_true, false_or, or_false, not_true_eq_false, not_false_eq_true, and_true, true_and, and_false, false_and, reduceCtorEq, nI_ge, nI_le, nI_lt, nI_nlt, nI_ne, nI_te, nm_eq, mn_eq, nm_le, mn_le, nm_lt, mn_lt, pk_mul, nI_add, pk_sub, nI_clamp, eX9_laysMost_36]
def Gf (m : Nat → Bool) : Nat → Int32
  | 0 => mi 4
  | r + 1 => if m (5 - r) then nI (5 - r) else Gf m r
theorem Gf_at {m : Nat → Bool} {j : Nat} (hj : j ≤ 5) (hm : m j = true) : ∀ r, 6 - j ≤ r → r ≤ 6 → (∀ i, 6 - r ≤ i → i < j → m i = false) → Gf m r = nI j
  | 0, h, _, _ => absurd h (by omega)
  | r + 1, h, h6, hn => by
    rw [Gf]
    by_cases e : 5 - r = j
    · rw [e, hm]; rfl
    · rw [hn (5 - r) (by omega) (by omega)]
      exact Gf_at hj hm r (by omega) (by omega) (fun i h1 h2 => hn i (by omega) h2)
theorem m_path {g : Gg} {q : Nat → Nat} {K n t c s : Nat} {x : Int32} (hM : Ms g q K) (hG : Gd q K) (hT : MT (g 87) q K 0) (ht : t < 10) (hc : c < K ∨ c = 5) (hs : s < 32) (hb : bsr q K (10 - t) c s = bsr q K 10 5 0) : FX9_best_59 n fu 78 x (nI (192 * t + 32 * c + s)) (nI t) (mi 4) (nI (32 * c + s)) (nI 5) (mk g) = FX9_best_33 n 78 x (nI (192 * (t + 1) + 32 * nxt q K t c s + (s ||| gn q (nxt q K t c s) t c))) (nI (nxt q K t c s)) (nI (t + 1)) (mk g) := by
  have hK := hG.K
  have hn := nxt_ok ht hb
  let m : Nat → Bool := fun k => (decide (k < K) || decide (k = 5)) && decide (bsr q K (9 - t) k (s ||| gn q k t c) = bsr q K 10 5 0)
  have e1 : (32 * c + s) / 32 = c := by omega
  have e2 : 32 * c + s - c * 32 = s := by omega
  have hat : h_A (mk g) 0 87 (nI (192 * t + 32 * c + s)) = some (nI (bsr q K 10 5 0)) := by
    rw [t_A (n := 2112) rfl (by decide) _ (by omega), hT.at (by omega) (by omega) (by omega) hs, hb]
  have hb45 := bsr_45 hG 10 5 0
  have hend : Gf m 6 = nI (nxt q K t c s) := by
    refine Gf_at (by omega) ?_ 6 (by omega) (by omega) (fun i h1 h2 => ?_)
    · simp only [m, Bool.and_eq_true, Bool.or_eq_true, decide_eq_true_eq]
      exact ⟨hn.1, hn.2.1⟩
    · simp only [m, Bool.and_eq_false_iff, Bool.or_eq_false_iff, decide_eq_false_iff_not]
      by_cases hi : i < K
      · have := hn.2.2 i hi h2
        exact Or.inr (by omega)
      · exact Or.inl ⟨hi, by omega⟩
  refine lp_0 (σ := Int32) (fun r j f => FX9_best_59 n r 78 x (nI (192 * t + 32 * c + s)) (nI t) f (nI (32 * c + s)) (dI 5 j) (mk g)) 6 (fun j f => f = Gf m j) (fun o => o = FX9_best_33 n 78 x (nI (192 * (t + 1) + 32 * nxt q K t c s + (s ||| gn q (nxt q K t c s) t c))) (nI (nxt q K t c s)) (nI (t + 1)) (mk g)) rfl (by decide) ?_ ?_
  · intro r j f hj hf
    subst hf
    refine Or.inr ⟨Gf m (j + 1), ?_, rfl⟩
    have hd := dI_s (a := 5) (k := j) (by omega)
    rw [dI_n (show j ≤ 5 by omega), Gf]
    by_cases hch : 5 - j < K ∨ 5 - j = 5
    · have h32 := or_32 hs (gn_lt hG (5 - j) t c)
      have h45 := bsr_45 hG (9 - t) (5 - j) (s ||| gn q (5 - j) t c)
      have hv : h_A (mk g) 0 87 (nI (192 * (t + 1) + 32 * (5 - j) + (s ||| gn q (5 - j) t c))) = some (nI (bsr q K (9 - t) (5 - j) (s ||| gn q (5 - j) t c))) := by
        rw [t_A (n := 2112) rfl (by decide) _ (by omega), hT.at (by omega) (by omega) (by omega) h32, show 10 - (t + 1) = 9 - t by omega]
      by_cases ee : bsr q K (9 - t) (5 - j) (s ||| gn q (5 - j) t c) = bsr q K 10 5 0
      · have em : m (5 - j) = true := by
          simp only [m, Bool.and_eq_true, Bool.or_eq_true, decide_eq_true_eq]
          exact ⟨hch, ee⟩
        simp -dsimp -implicitDefEqProofs (disch := omega) only [bnd_u, gd_t, if_true, if_false, ↓reduceIte, eq_self, true_or, or_true, false_or, or_false, not_true_eq_false, not_false_eq_true, and_true, true_and, and_false, false_and, reduceCtorEq, nI_ge, nI_le, nI_lt, nI_nlt, nI_ne, nI_te, nm_eq, mn_eq, nm_le, mn_le, nm_lt, mn_lt, pk_mul, nI_add, pk_sub, nI_clamp, eX9_best_59, eX9_best_112, hMo, m_choice hM hK hch, pk_div, e1, e2, m_comes hM hG hch ht (show c ≤ 5 by omega) hs, hv, hat, ee, hd, em]
      · have em : m (5 - j) = false := by simp [m, ee]
        simp -dsimp -implicitDefEqProofs (disch := omega) only [bnd_u, gd_t, if_true, if_false, ↓reduceIte, eq_self, true_or, or_true, false_or, or_false, not_true_eq_false, not_false_eq_true, and_true, true_and, and_false, false_and, reduceCtorEq, nI_ge, nI_le, nI_lt, nI_nlt, nI_ne, nI_te, nm_eq, mn_eq, nm_le, mn_le, nm_lt, mn_lt, pk_mul, nI_add, pk_sub, nI_clamp, eX9_best_59, eX9_best_110, eX9_best_112, hMo, m_choice hM hK hch, pk_div, e1, e2, m_comes hM hG hch ht (show c ≤ 5 by omega) hs, hv, hat, nI_ne ee (by omega) (by omega), hd, em, Bool.false_eq_true]
    · have em : m (5 - j) = false := by
        simp only [m, Bool.and_eq_false_iff, Bool.or_eq_false_iff, decide_eq_false_iff_not]
        exact Or.inl ⟨fun h => hch (Or.inl h), fun h => hch (Or.inr h)⟩
      simp -dsimp -implicitDefEqProofs (disch := omega) only [bnd_u, gd_t, if_true, if_false, ↓reduceIte, eq_self, true_or, or_true, false_or, or_false, not_true_eq_false, not_false_eq_true, and_true, true_and, and_false, false_and, reduceCtorEq, nI_ge, nI_le, nI_lt, nI_nlt, nI_ne, nI_te, nm_eq, mn_eq, nm_le, mn_le, nm_lt, mn_lt, pk_mul, nI_add, pk_sub, nI_clamp, eX9_best_59, eX9_best_110, eX9_best_112, hMo, m_choiceN hM hK (show K ≤ 5 - j by omega) (show 5 - j < 5 by omega), hd, em, Bool.false_eq_true]
  · intro r f hf
    subst hf
    rw [dI_e 5, hend]
    simp -dsimp -implicitDefEqProofs (disch := omega) only [bnd_u, gd_t, if_true, if_false, ↓reduceIte, eq_self, true_or, or_true, false_or, or_false, not_true_eq_false, not_false_eq_true, and_true, true_and, and_false, false_and, reduceCtorEq, nI_ge, nI_le, nI_lt, nI_nlt, nI_ne, nI_te, nm_eq, mn_eq, nm_le, mn_le, nm_lt, mn_lt, pk_mul, nI_add, pk_sub, nI_clamp, eX9_best_59, hMo, pk_div, e1, e2, m_comes hM hG hn.1 ht (show c ≤ 5 by omega) hs]
theorem m_best0 {g : Gg} {q : Nat → Nat} {K : Nat} (hM : Ms g q K) (hG : Gd q K) : ∃ g', FX9_best 78 (nI 0) (mk g) = some (nI (bst q K), mk g') ∧ Fr [87] g g' := by
  obtain ⟨g', e, f, hT⟩ := m_lays hM hG
  refine ⟨g', ?_, f⟩
  have h1 := hT.at (h := 0) (k := 5) (s := 0) (by omega) (by omega) (by omega) (by omega)
  have hx : nI 0 - nI 9 ≤ nI 0 := by decide
  simp -dsimp -implicitDefEqProofs (disch := omega) only [bnd_u, gd_t, if_true, if_false, ↓reduceIte, eq_self, true_or, or_true, false_or, or_false, not_true_eq_false, not_false_eq_true, and_true, true_and, and_false, false_and, reduceCtorEq, nI_ge, nI_le, nI_lt, nI_nlt, nI_ne, nI_te, nm_eq, mn_eq, nm_le, mn_le, nm_lt, mn_lt, pk_mul, nI_add, pk_sub, nI_clamp, eX9_best, eX9_best_20, hMo, e, fu_1, eX9_best_33, hx, eX9_best_171]
  rw [show (160 : Nat) = 192 * 0 + 32 * 5 + 0 from rfl, h1]
  rfl
theorem m_bestH {g : Gg} {q : Nat → Nat} {K h : Nat} (hM : Ms g q K) (hG : Gd q K) (hh : h < 10) : ∃ g', FX9_best 78 (nI (10 + h)) (mk g) = some (ho (bpl q K h), mk g') ∧ Fr [87] g g' := by
  obtain ⟨g', e, f, hT⟩ := m_lays hM hG
  have hK := hG.K
  have hM' := hM.f f (by decide)
  refine ⟨g', ?_, f⟩
  have e0 : FX9_best 78 (nI (10 + h)) (mk g) = FX9_best_33 fu 78 (nI (10 + h)) (nI 160) (nI 5) (nI 0) (mk g') := by
    simp -dsimp -implicitDefEqProofs (disch := omega) only [bnd_u, gd_t, if_true, if_false, ↓reduceIte, eq_self, true_or, or_true, false_or, or_false, not_true_eq_false, not_false_eq_true, and_true, true_and, and_false, false_and, reduceCtorEq, nI_ge, nI_le, nI_lt, nI_nlt, nI_ne, nI_te, nm_eq, mn_eq, nm_le, mn_le, nm_lt, mn_lt, pk_mul, nI_add, pk_sub, nI_clamp, eX9_best, eX9_best_20, hMo, nI_l, m_in, e]
  rw [e0]
  refine lp_0 (σ := Int32 × Int32) (fun n t p => FX9_best_33 n 78 (nI (10 + h)) p.1 p.2 (nI t) (mk g')) (h + 1) (fun t p => p = (nI (192 * t + 32 * (pth q K t).1 + (pth q K t).2), nI (pth q K t).1)) (fun o => o = some (ho (bpl q K h), mk g')) (s := (_, _)) rfl (fu_l (by omega)) ?_ ?_
  · intro n t p ht hp
    subst hp
    have hok := pth_ok hG t (by omega)
    refine Or.inr ⟨(nI (192 * (t + 1) + 32 * (pth q K (t + 1)).1 + (pth q K (t + 1)).2), nI (pth q K (t + 1)).1), ?_, rfl⟩
    have hp := m_path (n := n) (x := nI (10 + h)) hM' hG hT (show t < 10 by omega) hok.1 hok.2.1 hok.2.2
    rw [pth]
    dsimp only
    rw [← hp]
    simp -dsimp -implicitDefEqProofs (disch := omega) only [bnd_u, gd_t, if_true, if_false, ↓reduceIte, eq_self, true_or, or_true, false_or, or_false, not_true_eq_false, not_false_eq_true, and_true, true_and, and_false, false_and, reduceCtorEq, nI_ge, nI_le, nI_lt, nI_nlt, nI_ne, nI_te, nm_eq, mn_eq, nm_le, mn_le, nm_lt, mn_lt, pk_mul, nI_add, pk_sub, nI_clamp, eX9_best_33, show 192 * t + 32 * (pth q K t).1 + (pth q K t).2 - 192 * t = 32 * (pth q K t).1 + (pth q K t).2 by omega]
  · intro n p hp
    subst hp
    have hok := pth_ok hG (h + 1) (by omega)
    by_cases h5 : (pth q K (h + 1)).1 = 5
    · have e5 : ho (bpl q K h) = mi 4 := ho_0 (if_pos h5)
      simp -dsimp -implicitDefEqProofs (disch := omega) only [bnd_u, gd_t, if_true, if_false, ↓reduceIte, eq_self, true_or, or_true, false_or, or_false, not_true_eq_false, not_false_eq_true, and_true, true_and, and_false, false_and, reduceCtorEq, nI_ge, nI_le, nI_lt, nI_nlt, nI_ne, nI_te, nm_eq, mn_eq, nm_le, mn_le, nm_lt, mn_lt, pk_mul, nI_add, pk_sub, nI_clamp, eX9_best_33, eX9_best_171, e5]
    · have e5 : ho (bpl q K h) = nI (pth q K (h + 1)).1 := by
        unfold bpl
        rw [if_neg h5, ho_s (by omega), Nat.add_sub_cancel]
      simp -dsimp -implicitDefEqProofs (disch := omega) only [bnd_u, gd_t, if_true, if_false, ↓reduceIte, eq_self, true_or, or_true, false_or, or_false, not_true_eq_false, not_false_eq_true, and_true, true_and, and_false, false_and, reduceCtorEq, nI_ge, nI_le, nI_lt, nI_nlt, nI_ne, nI_te, nm_eq, mn_eq, nm_le, mn_le, nm_lt, mn_lt, pk_mul, nI_add, pk_sub, nI_clamp, eX9_best_33, eX9_best_171, e5]
theorem m_bestN {M : Hx} {x : Int32} (h0 : ¬ x = nI 0) (hx : x < nI 10 ∨ nI 20 ≤ x) : FX9_best 78 x M = some (mi 1, M) := by
  have hin : FX9_in x.toInt64 (lN 10) (lN 19) M = some (nI 0, M) := by
    rcases hx with h | h
    · apply m_inL
      rw [fa_lt64, Int32.toInt_toInt64, pk_lT (by decide)]
      rw [fa_lt, nI_toInt (by decide)] at h
      exact h
    · apply m_inH
      rw [fa_lt64, Int32.toInt_toInt64, pk_lT (by decide)]
      rw [fa_le, nI_toInt (by decide)] at h
      omega
  simp -dsimp -implicitDefEqProofs (disch := omega) only [bnd_u, gd_t, if_true, if_false, ↓reduceIte, eq_self, true_or, or_true, false_or, or_false, not_true_eq_false, not_false_eq_true, and_true, true_and, and_false, false_and, reduceCtorEq, nI_ge, nI_le, nI_lt, nI_nlt, nI_ne, nI_te, nm_eq, mn_eq, nm_le, mn_le, nm_lt, mn_lt, pk_mul, nI_add, pk_sub, nI_clamp, eX9_best, h0, hin]
